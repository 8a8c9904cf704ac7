section
set_option maxRecDepth 100000 in
theorem ev_93_3 {dp : Nat} {e : EN} {I : JI} {L : JI} {i1 : Int} {i2 : Int} {i3 : Int} {P_ : (Int × JI × JI) → Prop} (h : Ev (fun n => (some ((1 : Int), I, L))) P_) : Ev (fun n => kf_93 n dp e 3 I L i1 i2 i3) P_ := Ev_step (fun n => ke_93_3 n dp e I L i1 i2 i3) h
set_option maxRecDepth 100000 in
theorem ev_93_2 {dp : Nat} {e : EN} {I : JI} {L : JI} {i1 : Int} {i2 : Int} {i3 : Int} {P_ : (Int × JI × JI) → Prop} (h : Ev (fun n => (if i3 = 0 then (kf_93 n dp e 3 I L i1 i2 i3) else (if (0 : Int) ≤ 2 ∧ (2 : Int) < 3 then ((e.2.2 25 2).bind (fun b_45 => (if (b_45 < e.1) ∧ ((e.2.1 b_45).1 = 2) then (if 64 < (I b_45 4) then (some ((0 : Int), I, L)) else (kf_93 n dp e 3 I L i1 i2 i3)) else none))) else none))) P_) : Ev (fun n => kf_93 n dp e 2 I L i1 i2 i3) P_ := Ev_step (fun n => ke_93_2 n dp e I L i1 i2 i3) h
set_option maxRecDepth 100000 in
theorem ev_93_1 {dp : Nat} {e : EN} {I : JI} {L : JI} {i1 : Int} {i2 : Int} {i3 : Int} {P_ : (Int × JI × JI) → Prop} (h : Ev (fun n => (if i2 = 0 then (kf_93 n dp e 2 I L i1 i2 i3) else (if (0 : Int) ≤ 1 ∧ (1 : Int) < 3 then ((e.2.2 25 1).bind (fun b_27 => (if (b_27 < e.1) ∧ ((e.2.1 b_27).1 = 2) then (if 64 < (I b_27 4) then (some ((0 : Int), I, L)) else (kf_93 n dp e 2 I L i1 i2 i3)) else none))) else none))) P_) : Ev (fun n => kf_93 n dp e 1 I L i1 i2 i3) P_ := Ev_step (fun n => ke_93_1 n dp e I L i1 i2 i3) h
set_option maxRecDepth 100000 in
theorem ev_93_0 {dp : Nat} {e : EN} {I : JI} {L : JI} {i1 : Int} {i2 : Int} {i3 : Int} {P_ : (Int × JI × JI) → Prop} (h : Ev (fun n => (if i1 = 0 then (kf_93 n dp e 1 I L i1 i2 i3) else (if (0 : Int) ≤ 0 ∧ (0 : Int) < 3 then ((e.2.2 25 0).bind (fun b_9 => (if (b_9 < e.1) ∧ ((e.2.1 b_9).1 = 2) then (if 64 < (I b_9 4) then (some ((0 : Int), I, L)) else (kf_93 n dp e 1 I L i1 i2 i3)) else none))) else none))) P_) : Ev (fun n => kf_93 n dp e 0 I L i1 i2 i3) P_ := Ev_step (fun n => ke_93_0 n dp e I L i1 i2 i3) h
set_option maxRecDepth 100000 in
theorem ev_94_0 {dp : Nat} {e : EN} {I : JI} {L : JI} {i0 : Int} {i1 : Int} {i2 : Int} {P_ : (Int × JI × JI) → Prop} (h : Ev (fun n => (if (-2147483648 ≤ i0 * 9 ∧ i0 * 9 ≤ 2147483647) ∧ (-2147483648 ≤ (i0 * 9) + i1 ∧ (i0 * 9) + i1 ≤ 2147483647) ∧ (-2147483648 ≤ ((i0 * 9) + i1) * 9 ∧ ((i0 * 9) + i1) * 9 ≤ 2147483647) ∧ (-2147483648 ≤ (((i0 * 9) + i1) * 9) + i2 ∧ (((i0 * 9) + i1) * 9) + i2 ≤ 2147483647) then (some ((((((i0 * 9) + i1) * 9) + i2) : Int), I, L)) else none)) P_) : Ev (fun n => kf_94 n dp e 0 I L i0 i1 i2) P_ := Ev_step (fun n => ke_94_0 n dp e I L i0 i1 i2) h
set_option maxRecDepth 100000 in
theorem ev_92_0 {dp : Nat} {z : Nat} {kd : (Nat → Nat × Nat)} {I : JI} {L : JI} {R : (Nat → Nat → Option Nat)} {i1 : Int} {i2 : Int} {i3 : Int} {i4 : Int} {P_ : ((Int × PSi) × Nat × Nat) → Prop} (h : Ev (fun n => (if 1 ≤ dp then ((kf_14 n (dp - 1) (z, kd, R) 0 I L i1 0 8).bind (fun ⟨x_4, I_4, L_4⟩ => (if x_4 = 0 then (some ((((-1) : Int), z, kd, I_4, L_4, R), 0, 0)) else (if 1 ≤ dp then ((kf_14 n (dp - 1) (z, kd, R) 0 I_4 L_4 i2 0 8).bind (fun ⟨x_14, I_14, L_14⟩ => (if x_14 = 0 then (some ((((-1) : Int), z, kd, I_14, L_14, R), 0, 0)) else (if 1 ≤ dp then ((kf_14 n (dp - 1) (z, kd, R) 0 I_14 L_14 i3 0 8).bind (fun ⟨x_24, I_24, L_24⟩ => (if x_24 = 0 then (some ((((-1) : Int), z, kd, I_24, L_24, R), 0, 0)) else (if (-2147483648 ≤ i1 + i2 ∧ i1 + i2 ≤ 2147483647) ∧ (-2147483648 ≤ (i1 + i2) + i3 ∧ (i1 + i2) + i3 ≤ 2147483647) then (if 8 < ((i1 + i2) + i3) then (some ((((-1) : Int), z, kd, I_24, L_24, R), 0, 0)) else (if 1 ≤ dp then ((kf_93 n (dp - 1) (z, kd, R) 0 I_24 L_24 i1 i2 i3).bind (fun ⟨x_44, I_44, L_44⟩ => (if x_44 = 0 then (some ((((-1) : Int), z, kd, I_44, L_44, R), 0, 0)) else (if 1 ≤ dp then ((kf_94 n (dp - 1) (z, kd, R) 0 I_44 L_44 i1 i2 i3).bind (fun ⟨x_55, I_55, L_55⟩ => (if 0 ≤ x_55 ∧ x_55 < 729 then (if (I_55 53 x_55) = (I_55 24 12) then (kf_92 n dp 1 z kd I_55 L_55 R i1 i2 i3 x_55) else (if 1 ≤ dp then ((kf_95 n (dp - 1) 0 z kd I_55 L_55 R).bind (fun ⟨⟨z_75, kd_75, I_75, L_75, R_75⟩, ck_75, cm_75⟩ => (adk ck_75 cm_75 (if 1 ≤ dp then ((kf_104 n (dp - 1) 0 z_75 kd_75 I_75 L_75 R_75 i1 i2 i3).bind (fun ⟨⟨z_82, kd_82, I_82, L_82, R_82⟩, ck_82, cm_82⟩ => (adk ck_82 cm_82 (if 0 ≤ x_55 ∧ x_55 < 729 then (stI (w2 I_82 53 x_55 (I_82 24 12)) (fun I_95 => (if 0 ≤ x_55 ∧ x_55 < 729 then (if -2147483647 ≤ (I_95 44 8) then (stI (w2 I_95 51 x_55 (Int.tdiv (I_95 44 8) 16)) (fun I_112 => (if 0 ≤ x_55 ∧ x_55 < 729 then (stI (w2 I_112 52 x_55 (I_112 44 9)) (fun I_126 => (kf_92 n dp 1 z_82 kd_82 I_126 L_82 R_82 i1 i2 i3 x_55))) else none))) else none) else none))) else none)))) else none)))) else none)) else none))) else none)))) else none)) else none)))) else none)))) else none)))) else none)) P_) : Ev (fun n => kf_92 n dp 0 z kd I L R i1 i2 i3 i4) P_ := Ev_step (fun n => ke_92_0 n dp z kd I L R i1 i2 i3 i4) h
set_option maxRecDepth 100000 in
theorem ev_92_1 {dp : Nat} {z : Nat} {kd : (Nat → Nat × Nat)} {I : JI} {L : JI} {R : (Nat → Nat → Option Nat)} {i1 : Int} {i2 : Int} {i3 : Int} {i4 : Int} {P_ : ((Int × PSi) × Nat × Nat) → Prop} (h : Ev (fun n => (if 0 ≤ i4 ∧ i4 < 729 then (some ((((I 51 i4) : Int), z, kd, I, L, R), 0, 0)) else none)) P_) : Ev (fun n => kf_92 n dp 1 z kd I L R i1 i2 i3 i4) P_ := Ev_step (fun n => ke_92_1 n dp z kd I L R i1 i2 i3 i4) h
end
/-! THE CLASS'S PLANS: bestFor and what it keeps -/
def spt (a b c : Int) : Int := (a * 9 + b) * 9 + c
def vlP (a b c : Int) : Prop := 0 ≤ a ∧ 0 ≤ b ∧ 0 ≤ c ∧ a + b + c ≤ 8
theorem spt_u {a b c a' b' c' : Int} (h : vlP a b c) (h' : vlP a' b' c') (e : spt a b c = spt a' b' c') : a = a' ∧ b = b' ∧ c = c' := by
  unfold vlP spt at *
  obtain ⟨u, hu⟩ : ∃ u, u = b * 9 + c := ⟨_, rfl⟩
  obtain ⟨u', hu'⟩ : ∃ u, u = b' * 9 + c' := ⟨_, rfl⟩
  have b1 : 0 ≤ u ∧ u ≤ 72 := by omega
  have b2 : 0 ≤ u' ∧ u' ≤ 72 := by omega
  have e1 : a = a' := by
    have : 81 * a + u = 81 * a' + u' := by omega
    clear hu hu' h h' e
    omega
  have e2 : u = u' := by omega
  refine ⟨e1, ?_⟩
  have : b = b' := by omega
  omega
theorem spt_b {a b c : Int} (h : vlP a b c) : 0 ≤ spt a b c ∧ spt a b c < 729 := by unfold vlP spt at *; omega
/-- what is kept of best for so many carcasses -/
def BsO (J : JI) (a b c : Int) : Prop := PlK J a b c ∧ MxH (Sq (lyC J a b c)) (vT (wnC J) (bnC J) 16 (fun _ => 0)) (fun _ => True) (16 * J 51 (spt a b c)) (J 52 (spt a b c)) ∧ (0 ≤ J 51 (spt a b c) ∧ J 51 (spt a b c) ≤ 16250000) ∧ J 52 (spt a b c) ≤ 1000000000
theorem BsO_c {J J' : JI} {a b c : Int} (h4 : ∀ i, J' 4 i = J 4 i) (h5 : ∀ x i, 58 ≤ x → x ≤ 72 → J' x i = J x i) (h1 : J' 51 (spt a b c) = J 51 (spt a b c)) (h2 : J' 52 (spt a b c) = J 52 (spt a b c)) (h : BsO J a b c) : BsO J' a b c := by
  have e4 : J' 4 = J 4 := funext h4
  have ew : wnC J' = wnC J := by unfold wnC; rw [e4]
  have eb : bnC J' = bnC J := by unfold bnC; rw [e4]
  unfold BsO PlK at *
  rw [h5 58 _ (by omega) (by omega), h5 63 _ (by omega) (by omega), h5 68 _ (by omega) (by omega), lyC_c h4 h5, ew, eb, h1, h2]
  exact h
/-- the planner of the class as it is kept -/
def PlI (z : Nat) (kd : KD) (R : RF) (J : JI) (b4 b5 b6 b7 len sl : Nat) : Prop := LyE (z, kd, R) b4 b5 b6 b7 len sl ∧ (∀ p : Int, 0 ≤ p → p < sl → J b7 p = 0) ∧ (J 24 14 = 0 ∨ J 24 14 = 1) ∧ (J 24 14 = 0 → ∃ rn od, LdO J rn od ∧ LyK J rn od b4 b5 b6 b7 len sl) ∧ (∀ s : Int, 0 ≤ s → s < 729 → J 53 s ≤ J 24 12) ∧ ∀ a b c : Int, vlP a b c → J 53 (spt a b c) = J 24 12 → BsO J a b c
/-- what bestFor leaves -/
def BfQ (b4 b5 b6 b7 len sl z : Nat) (kd : KD) (J M : JI) (R : RF) (a b c : Int) (q : (Int × Nat × KD × JI × JI × RF) × Nat × Nat) : Prop := ∃ (z' : Nat) (kd' : KD) (J' M' : JI) (R' : RF) (c4 c5 c6 c7 len' sl' : Nat), q.1.2 = (z', kd', J', M', R') ∧ PlI z' kd' R' J' c4 c5 c6 c7 len' sl' ∧ FrGx XB b4 b5 b6 b7 z kd J M R c4 c5 c6 c7 z' kd' J' M' R' ∧ ((q.1.1 = -1 ∧ ¬ (vlP a b c ∧ PlK J a b c)) ∨ (vlP a b c ∧ PlK J a b c ∧ q.1.1 = J' 51 (spt a b c) ∧ J' 53 (spt a b c) = J' 24 12)) ∧ (∀ s : Int, J 53 s = J 24 12 → J' 53 s = J 53 s ∧ J' 51 s = J 51 s ∧ J' 52 s = J 52 s) ∧ PotS len sl len' sl' q.2.1 q.2.2
section KI
variable {b4 b5 b6 b7 len sl : Nat}
theorem K93 {dp : Nat} {e : EN} {J L : JI} {a b c : Int} (hQ : ∀ c : Nat, c < 3 → CtO e (58 + 5 * c) ∧ e.2.2 25 c = some (58 + 5 * c)) (ha : 0 ≤ a) (hb : 0 ≤ b) (hc : 0 ≤ c) : Ev (fun n => kf_93 n dp e 0 J L a b c) (fun r => (r = (1, J, L) ∧ PlK J a b c) ∨ (r = (0, J, L) ∧ ¬ PlK J a b c)) := by
  obtain ⟨q0, r0⟩ := hQ 0 (by omega)
  obtain ⟨q1, r1⟩ := hQ 1 (by omega)
  obtain ⟨q2, r2⟩ := hQ 2 (by omega)
  have l3 : PlK J a b c → Ev (fun n => kf_93 n dp e 3 J L a b c) (fun r => (r = (1, J, L) ∧ PlK J a b c) ∨ (r = (0, J, L) ∧ ¬ PlK J a b c)) := fun h => by
    refine ev_93_3 ?_
    exact Ev_ret (Or.inl ⟨rfl, h⟩)
  have l2 : (0 < a → J 58 4 ≤ 64) → (0 < b → J 63 4 ≤ 64) → Ev (fun n => kf_93 n dp e 2 J L a b c) (fun r => (r = (1, J, L) ∧ PlK J a b c) ∨ (r = (0, J, L) ∧ ¬ PlK J a b c)) := fun h1 h2 => by
    refine ev_93_2 ?_
    by_cases x : c = 0
    · exact Ev_t x (l3 ⟨h1, h2, fun z => by omega⟩)
    · refine Ev_f x (Ev_t (by omega) (Ev_R r2 (Ev_t q2.1 ?_)))
      by_cases y : 64 < J 68 4
      · exact Ev_t y (Ev_ret (Or.inr ⟨rfl, fun z => by have := z.2.2 (by omega); omega⟩))
      · exact Ev_f y (l3 ⟨h1, h2, fun z => by omega⟩)
  have l1 : (0 < a → J 58 4 ≤ 64) → Ev (fun n => kf_93 n dp e 1 J L a b c) (fun r => (r = (1, J, L) ∧ PlK J a b c) ∨ (r = (0, J, L) ∧ ¬ PlK J a b c)) := fun h1 => by
    refine ev_93_1 ?_
    by_cases x : b = 0
    · exact Ev_t x (l2 h1 (fun z => by omega))
    · refine Ev_f x (Ev_t (by omega) (Ev_R r1 (Ev_t q1.1 ?_)))
      by_cases y : 64 < J 63 4
      · exact Ev_t y (Ev_ret (Or.inr ⟨rfl, fun z => by have := z.2.1 (by omega); omega⟩))
      · exact Ev_f y (l2 h1 (fun z => by omega))
  refine ev_93_0 ?_
  by_cases x : a = 0
  · exact Ev_t x (l1 (fun z => by omega))
  · refine Ev_f x (Ev_t (by omega) (Ev_R r0 (Ev_t q0.1 ?_)))
    by_cases y : 64 < J 58 4
    · exact Ev_t y (Ev_ret (Or.inr ⟨rfl, fun z => by have := z.1 (by omega); omega⟩))
    · exact Ev_f y (l1 (fun z => by omega))
theorem K94 {dp : Nat} {e : EN} {J L : JI} {a b c : Int} (h : vlP a b c) : Ev (fun n => kf_94 n dp e 0 J L a b c) (fun r => r = (spt a b c, J, L)) := by
  unfold vlP at h
  refine ev_94_0 ?_
  exact Ev_t (by omega) (Ev_ret rfl)
set_option maxHeartbeats 2000000 in
theorem K92 {dp z : Nat} {kd : KD} {J M : JI} {R : RF} {a b c : Int} (hd : 6 ≤ dp) (hz : 144 ≤ z) (hQ : ShQ (z, kd, R)) (hI : PlI z kd R J b4 b5 b6 b7 len sl) (hm : mkO J) (hC : ∀ c : Nat, c < 3 → ctK J c) : Ev (fun n => kf_92 n dp 0 z kd J M R a b c 0) (BfQ b4 b5 b6 b7 len sl z kd J M R a b c) := by
  have no : ∀ L : JI, L = M → ¬ (vlP a b c ∧ PlK J a b c) → BfQ b4 b5 b6 b7 len sl z kd J M R a b c ((-1, z, kd, J, L, R), 0, 0) := fun L e h => by
    subst e
    exact ⟨z, kd, J, L, R, b4, b5, b6, b7, len, sl, rfl, hI, FrGx_J (fun _ _ _ => rfl), Or.inl ⟨rfl, h⟩, fun _ _ => ⟨rfl, rfl, rfl⟩, PotS_r⟩
  refine ev_92_0 ?_
  refine Ev_t (by omega) (Ev14 (fun h1 => ?_) (fun h1 => ?_))
  case' refine_2 => exact Ev_t rfl (Ev_ret (no M rfl (fun z => h1 (by have := z.1; unfold vlP at this; omega))))
  dsimp only
  refine Ev_f (by omega) (Ev_t (by omega) (Ev14 (fun h2 => ?_) (fun h2 => ?_)))
  case' refine_2 => exact Ev_t rfl (Ev_ret (no M rfl (fun z => h2 (by have := z.1; unfold vlP at this; omega))))
  dsimp only
  refine Ev_f (by omega) (Ev_t (by omega) (Ev14 (fun h3 => ?_) (fun h3 => ?_)))
  case' refine_2 => exact Ev_t rfl (Ev_ret (no M rfl (fun z => h3 (by have := z.1; unfold vlP at this; omega))))
  dsimp only
  refine Ev_f (by omega) (Ev_t (by omega) ?_)
  by_cases h8 : 8 < a + b + c
  · exact Ev_t h8 (Ev_ret (no M rfl (fun z => by have := z.1; unfold vlP at this; omega)))
  have hv : vlP a b c := by unfold vlP; omega
  have sb := spt_b hv
  refine Ev_f h8 (Ev_t (by omega) (Ev_bind (K93 hQ.2 h1.1 h2.1 h3.1) ?_))
  rintro _ (⟨rfl, hP⟩ | ⟨rfl, hP⟩)
  rotate_left
  · exact Ev_t rfl (Ev_ret (no M rfl (fun z => hP z.2)))
  dsimp only
  refine Ev_f (by omega) (Ev_t (by omega) (Ev_bind (K94 hv) ?_))
  rintro _ rfl
  dsimp only
  obtain ⟨i1, i2, i3, i4, i5, i6⟩ := hI
  refine Ev_t sb ?_
  by_cases ce : J 53 (spt a b c) = J 24 12
  · refine Ev_t ce ?_
    refine ev_92_1 ?_
    exact Ev_t sb (Ev_ret ⟨z, kd, J, M, R, b4, b5, b6, b7, len, sl, rfl, ⟨i1, i2, i3, i4, i5, i6⟩, FrGx_J (fun _ _ _ => rfl), Or.inr ⟨hv, hP, rfl, ce⟩, fun _ _ => ⟨rfl, rfl, rfl⟩, PotS_r⟩)
  · have o7 := i1.2.2.2.1
    refine Ev_f ce (Ev_t (by omega) (Ev_bind (K95 (by omega) hz hQ i1 hm hC i4 i2) ?_))
    rintro ⟨⟨z1, kd1, J1, M1, R1⟩, ck, cm⟩ ⟨z', kd', J', M', R', c7, sl1, rn, od, w1, w2', w3, w4, w5, w6, w7, w8⟩
    dsimp only at w1 w8 ⊢
    obtain ⟨rfl, rfl, rfl, rfl, rfl⟩ : z1 = z' ∧ kd1 = kd' ∧ J1 = J' ∧ M1 = M' ∧ R1 = R' := by simpa using w1
    have fr : ∀ x i, (1 ≤ x ∧ x < 24) ∨ (x = 24 ∧ ¬ i = 14) ∨ (51 ≤ x ∧ x ≤ 72) → J1 x i = J x i := fun x i y => (w3.2.1 x (by omega)).2.2.1 i (by unfold XL X0; omega) (by omega)
    have hP1 : PlK J1 a b c := by unfold PlK at *; rw [fr 58 _ (by omega), fr 63 _ (by omega), fr 68 _ (by omega)]; exact hP
    have zz := w3.1
    unfold vlP at hv
    refine Ev_adk (Ev_t (by omega) (Ev_bind (K104 (by omega) (by omega) w2' w4 w5 w6 hv.1 hv.2.1 hv.2.2.1 hv.2.2.2 hP1) ?_))
    rintro ⟨⟨z2, kd2, J2, M2, R2⟩, ck2, cm2⟩ ⟨z', kd', J', M', R', f4, f5, f6, len', v1, v2, v3, v4, v5, v6, v7, v8, v9⟩
    dsimp only at v1 v9 ⊢
    obtain ⟨rfl, rfl, rfl, rfl, rfl⟩ : z2 = z' ∧ kd2 = kd' ∧ J2 = J' ∧ M2 = M' ∧ R2 = R' := by simpa using v1
    have o71 := w2'.2.2.2.1
    have o72 := v2.2.2.2.1
    have fr2 : ∀ x i, (1 ≤ x ∧ x < 44) ∨ (51 ≤ x ∧ x ≤ 72 ∧ ¬ x = 54) → J2 x i = J1 x i := fun x i y => (v3.2.1 x (by omega)).2.2.1 i (by unfold XS X0; omega) (by omega)
    have hdv : ∃ y : Int, J2 44 8 = 16 * y ∧ Int.tdiv (J2 44 8) 16 = y := by
      obtain ⟨x, hx, _, vx⟩ := v6.2.1
      obtain ⟨y, hy⟩ := Sq_16 _ x hx
      have vx : x.1 + 16 * sm (fun p => if 0 < wnC J1 p then min (wnC J1 p) (0 + x.2 p) * bnC J1 p else 0) 10 = J2 44 8 := vx
      refine ⟨y + sm (fun p => if 0 < wnC J1 p then min (wnC J1 p) (0 + x.2 p) * bnC J1 p else 0) 10, by omega, ?_⟩
      rw [show J2 44 8 = 16 * (y + sm (fun p => if 0 < wnC J1 p then min (wnC J1 p) (0 + x.2 p) * bnC J1 p else 0) 10) by omega]
      exact Int.mul_tdiv_cancel_left _ (by decide)
    obtain ⟨y, hy1, hy2⟩ := hdv
    refine Ev_adk (Ev_t sb (Ev_st (Ev_t sb ?_)))
    have n1 : ∀ x i, ¬ (x = 53 ∧ i = spt a b c) → w2 J2 53 (spt a b c) (J2 24 12) x i = J2 x i := fun x i z => w2_n z
    rw [n1 44 _ (by omega), hy2]
    refine Ev_t (by omega) (Ev_st (Ev_t sb (Ev_st ?_)))
    rw [w2_n (b := 44) (by omega), n1 44 _ (by omega)]
    refine ev_92_1 ?_
    refine Ev_t sb ?_
    have n3 : ∀ x i, ¬ (51 ≤ x ∧ x ≤ 53 ∧ i = spt a b c) → w2 (w2 (w2 J2 53 (spt a b c) (J2 24 12)) 51 (spt a b c) y) 52 (spt a b c) (J2 44 9) x i = J2 x i := fun x i z => by rw [w2_n (by omega), w2_n (by omega), n1 _ _ (by omega)]
    have u53 : w2 (w2 (w2 J2 53 (spt a b c) (J2 24 12)) 51 (spt a b c) y) 52 (spt a b c) (J2 44 9) 53 (spt a b c) = J2 24 12 := by rw [w2_n (by omega), w2_n (by omega), w2_ap, if_pos ⟨rfl, rfl⟩]
    have u51 : w2 (w2 (w2 J2 53 (spt a b c) (J2 24 12)) 51 (spt a b c) y) 52 (spt a b c) (J2 44 9) 51 (spt a b c) = y := by rw [w2_n (by omega), w2_ap, if_pos ⟨rfl, rfl⟩]
    have u52 : w2 (w2 (w2 J2 53 (spt a b c) (J2 24 12)) 51 (spt a b c) y) 52 (spt a b c) (J2 44 9) 52 (spt a b c) = J2 44 9 := by rw [w2_ap, if_pos ⟨rfl, rfl⟩]
    generalize w2 (w2 (w2 J2 53 (spt a b c) (J2 24 12)) 51 (spt a b c) y) 52 (spt a b c) (J2 44 9) = J3 at n3 u53 u51 u52 ⊢
    have g3 : ∀ x i, (1 ≤ x ∧ x < 24) ∨ (x = 24 ∧ ¬ i = 14) ∨ (58 ≤ x ∧ x ≤ 72) → J3 x i = J x i := fun x i y => by rw [n3 _ _ (by omega), fr2 _ _ (by omega), fr _ _ (by omega)]
    have g5 : ∀ x i, 51 ≤ x → x ≤ 53 → ¬ i = spt a b c → J3 x i = J x i := fun x i y y' z => by rw [n3 _ _ (by omega), fr2 _ _ (by omega), fr _ _ (by omega)]
    have e24 : J2 24 12 = J3 24 12 := (n3 _ _ (by omega)).symm
    have e12 : J3 24 12 = J 24 12 := g3 _ _ (by omega)
    have hP2 : OfP J2 rn od := OfP_c (fun x i y => fr2 x i (by omega)) w4
    refine Ev_ret ⟨z2, kd2, J3, M2, R2, f4, f5, f6, c7, len', sl1, rfl, ⟨v2, fun p x y => ?_, Or.inl ?_, fun _ => ⟨rn, od, ?_, ?_⟩, fun s x y => ?_, fun a' b' c' h' e' => ?_⟩, ?_, Or.inr ⟨hv, hP, rfl, by rw [u53, e24]⟩, fun s hs => ?_, ?_⟩
    · rw [n3 _ _ (by omega)]; exact v5 p x y
    · rw [n3 _ _ (by omega), fr2 _ _ (by omega)]; exact w7
    · exact (OfP_c (fun x i y => n3 x i (by omega)) hP2).1
    · exact LyK_c (fun i => n3 _ _ (by omega)) (n3 _ _ (by omega)) (fun x i y => n3 _ _ (by omega)) v4
    · by_cases q : s = spt a b c
      · subst q; rw [u53, e24]; exact Int.le_refl _
      · rw [g5 _ _ (by omega) (by omega) q, e12]; exact i5 s x y
    · by_cases q : spt a' b' c' = spt a b c
      · obtain ⟨rfl, rfl, rfl⟩ := spt_u h' hv q
        have e4 : J3 4 = J1 4 := funext fun i => by rw [n3 _ _ (by omega), fr2 _ _ (by omega)]
        have hw : wnC J3 = wnC J1 := by unfold wnC; rw [e4]
        have hb : bnC J3 = bnC J1 := by unfold bnC; rw [e4]
        refine ⟨?_, ?_, by rw [u51]; omega, by rw [u52]; exact v8⟩
        · unfold PlK at *; rw [g3 58 _ (by omega), g3 63 _ (by omega), g3 68 _ (by omega)]; exact hP
        · rw [u51, u52, hw, hb, ← hy1, lyC_c (J := J1) (fun i => by rw [e4]) (fun x i y z => by rw [n3 _ _ (by omega), fr2 _ _ (by omega)])]
          exact v6
      · rw [g5 _ _ (by omega) (by omega) q, e12] at e'
        exact BsO_c (fun i => g3 _ _ (by omega)) (fun x i y z => g3 _ _ (by omega)) (g5 _ _ (by omega) (by omega) q) (g5 _ _ (by omega) (by omega) q) (i6 a' b' c' h' e')
    · refine FrGx_t (FrGx_m (fun x i y => Or.inr (Or.inl y)) w3) (FrGx_t (FrGx_m (fun x i y => Or.inl y) v3) (FrGx_J (fun x i y => n3 x i (fun z => y ?_))))
      exact Or.inr (Or.inr ⟨z.1, z.2.1⟩)
    · have q : ¬ s = spt a b c := fun z => by subst z; exact ce hs
      exact ⟨g5 _ _ (by omega) (by omega) q, g5 _ _ (by omega) (by omega) q, g5 _ _ (by omega) (by omega) q⟩
    · rw [Nat.zero_add, Nat.zero_add]; exact PotS_t w8 v9
end KI
