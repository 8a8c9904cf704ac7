section
set_option maxRecDepth 100000 in
theorem ev_140_0 {dp : Nat} {e : EN} {I : JI} {L : JI} {i1 : Int} {P_ : (Int × JI × JI) → Prop} (h : Ev (fun n => (if 0 ≤ i1 ∧ i1 < 8 then (stI (I 6 i1) (fun v_9 => (if 1 ≤ dp then ((kf_121 n (dp - 1) e 0 I L i1).bind (fun ⟨x0_20, I0_20, L0_20⟩ => (if 0 ≤ x0_20 ∧ x0_20 < 3 then ((e.2.2 25 (Int.toNat x0_20)).bind (fun b_23 => (if (b_23 < e.1) ∧ ((e.2.1 b_23).1 = 2) then (if (I0_20 b_23 4) ≤ v_9 then (some ((0 : Int), I0_20, L0_20)) else (some ((v_9 : Int), I0_20, L0_20))) else none))) else none))) else none))) else none)) P_) : Ev (fun n => kf_140 n dp e 0 I L i1) P_ := Ev_step (fun n => ke_140_0 n dp e I L i1) h
set_option maxRecDepth 100000 in
theorem ev_139_1 {dp : Nat} {e : EN} {I : JI} {L : JI} {i1 : Int} {i2 : Int} {i3 : Int} {i4 : Int} {P_ : (Int × JI × JI) → Prop} (h : Ev (fun n => (if i3 ≤ i4 then (some ((i2 : Int), I, L)) else (if 1 ≤ dp then ((kf_121 n (dp - 1) e 0 I L i4).bind (fun ⟨x0_30, I0_30, L0_30⟩ => (if 0 ≤ x0_30 ∧ x0_30 < 3 then ((e.2.2 25 (Int.toNat x0_30)).bind (fun b_33 => (if (b_33 < e.1) ∧ ((e.2.1 b_33).1 = 2) then ((e.2.2 b_33 1).bind (fun b_34 => (if 1 ≤ dp then ((kf_140 n (dp - 1) e 0 I0_30 L0_30 i4).bind (fun ⟨x1_40, I1_40, L1_40⟩ => (if (-2147483648 ≤ x1_40 * 10 ∧ x1_40 * 10 ≤ 2147483647) ∧ (-2147483648 ≤ (x1_40 * 10) + i1 ∧ (x1_40 * 10) + i1 ≤ 2147483647) then (if ((b_34 < e.1) ∧ (((e.2.1 b_34).1 = 13) ∧ ((e.2.1 b_34).2 < (2 ^ 31)))) ∧ (0 ≤ ((x1_40 * 10) + i1) ∧ ((x1_40 * 10) + i1) < (((e.2.1 b_34).2 : Nat) : Int)) then (if -2147483648 ≤ i2 + (I1_40 b_34 ((x1_40 * 10) + i1)) ∧ i2 + (I1_40 b_34 ((x1_40 * 10) + i1)) ≤ 2147483647 then (stI (i2 + (I1_40 b_34 ((x1_40 * 10) + i1))) (fun v_50 => (if -2147483648 ≤ i4 + 1 ∧ i4 + 1 ≤ 2147483647 then (kf_139 n dp e 1 I1_40 L1_40 i1 v_50 i3 (i4 + 1)) else none))) else none) else none) else none))) else none))) else none))) else none))) else none))) P_) : Ev (fun n => kf_139 n dp e 1 I L i1 i2 i3 i4) P_ := Ev_step (fun n => ke_139_1 n dp e I L i1 i2 i3 i4) h
set_option maxRecDepth 100000 in
theorem ev_139_0 {dp : Nat} {e : EN} {I : JI} {L : JI} {i1 : Int} {i2 : Int} {i3 : Int} {i4 : Int} {P_ : (Int × JI × JI) → Prop} (h : Ev (fun n => (if 1 ≤ dp then ((kf_16 n (dp - 1) e 0 I L).bind (fun ⟨x0_6, I0_6, L0_6⟩ => (kf_139 n dp e 1 I0_6 L0_6 i1 0 x0_6 0))) else none)) P_) : Ev (fun n => kf_139 n dp e 0 I L i1 i2 i3 i4) P_ := Ev_step (fun n => ke_139_0 n dp e I L i1 i2 i3 i4) h
set_option maxRecDepth 100000 in
theorem ev_141_0 {dp : Nat} {e : EN} {I : JI} {L : JI} {i1 : Int} {i2 : Int} {P_ : (Int × JI × JI) → Prop} (h : Ev (fun n => (if -2147483648 ≤ 20 + i1 ∧ 20 + i1 ≤ 2147483647 then (if 0 ≤ (20 + i1) ∧ (20 + i1) < 30 then (if 1 ≤ dp then (stI (min (I 4 (20 + i1)) i2) (fun v_13 => (if -2147483648 ≤ 0 + i1 ∧ 0 + i1 ≤ 2147483647 then (if 0 ≤ (0 + i1) ∧ (0 + i1) < 30 then (if -2147483648 ≤ 10 + i1 ∧ 10 + i1 ≤ 2147483647 then (if 0 ≤ (10 + i1) ∧ (10 + i1) < 30 then (if (-2147483648 ≤ v_13 * (I 4 (0 + i1)) ∧ v_13 * (I 4 (0 + i1)) ≤ 2147483647) ∧ (-2147483648 ≤ i2 - v_13 ∧ i2 - v_13 ≤ 2147483647) ∧ (-2147483648 ≤ (i2 - v_13) * (I 4 (10 + i1)) ∧ (i2 - v_13) * (I 4 (10 + i1)) ≤ 2147483647) ∧ (-2147483648 ≤ (v_13 * (I 4 (0 + i1))) + ((i2 - v_13) * (I 4 (10 + i1))) ∧ (v_13 * (I 4 (0 + i1))) + ((i2 - v_13) * (I 4 (10 + i1))) ≤ 2147483647) then (some ((((v_13 * (I 4 (0 + i1))) + ((i2 - v_13) * (I 4 (10 + i1)))) : Int), I, L)) else none) else none) else none) else none) else none))) else none) else none) else none)) P_) : Ev (fun n => kf_141 n dp e 0 I L i1 i2) P_ := Ev_step (fun n => ke_141_0 n dp e I L i1 i2) h
set_option maxRecDepth 100000 in
theorem ev_138_1 {dp : Nat} {e : EN} {I : JI} {L : JI} {i1 : Int} {i2 : Int} {P_ : (Int × JI × JI) → Prop} (h : Ev (fun n => (if 10 ≤ i2 then (some ((i1 : Int), I, L)) else (if 1 ≤ dp then ((kf_139 n (dp - 1) e 0 I L i2 0 0 0).bind (fun ⟨x0_18, I0_18, L0_18⟩ => (if 1 ≤ dp then ((kf_141 n (dp - 1) e 0 I0_18 L0_18 i2 x0_18).bind (fun ⟨x1_21, I1_21, L1_21⟩ => (if (-2147483648 ≤ i1 + x1_21 ∧ i1 + x1_21 ≤ 2147483647) ∧ (-2147483648 ≤ i2 + 1 ∧ i2 + 1 ≤ 2147483647) then (kf_138 n dp e 1 I1_21 L1_21 (i1 + x1_21) (i2 + 1)) else none))) else none))) else none))) P_) : Ev (fun n => kf_138 n dp e 1 I L i1 i2) P_ := Ev_step (fun n => ke_138_1 n dp e I L i1 i2) h
set_option maxRecDepth 100000 in
theorem ev_138_0 {dp : Nat} {e : EN} {I : JI} {L : JI} {i1 : Int} {i2 : Int} {P_ : (Int × JI × JI) → Prop} (h : Ev (fun n => (kf_138 n dp e 1 I L 0 0)) P_) : Ev (fun n => kf_138 n dp e 0 I L i1 i2) P_ := Ev_step (fun n => ke_138_0 n dp e I L i1 i2) h
set_option maxRecDepth 100000 in
theorem ev_143_1 {dp : Nat} {e : EN} {I : JI} {L : JI} {i1 : Int} {i2 : Int} {P_ : (Int × JI × JI) → Prop} (h : Ev (fun n => (if 10 ≤ i2 then (some ((i1 : Int), I, L)) else (if 1 ≤ dp then ((kf_139 n (dp - 1) e 0 I L i2 0 0 0).bind (fun ⟨x0_18, I0_18, L0_18⟩ => (if 1 ≤ dp then ((kf_126 n (dp - 1) e 0 I0_18 L0_18 i2 x0_18).bind (fun ⟨x1_21, I1_21, L1_21⟩ => (if (-2147483648 ≤ i1 + x1_21 ∧ i1 + x1_21 ≤ 2147483647) ∧ (-2147483648 ≤ i2 + 1 ∧ i2 + 1 ≤ 2147483647) then (kf_143 n dp e 1 I1_21 L1_21 (i1 + x1_21) (i2 + 1)) else none))) else none))) else none))) P_) : Ev (fun n => kf_143 n dp e 1 I L i1 i2) P_ := Ev_step (fun n => ke_143_1 n dp e I L i1 i2) h
set_option maxRecDepth 100000 in
theorem ev_143_0 {dp : Nat} {e : EN} {I : JI} {L : JI} {i1 : Int} {i2 : Int} {P_ : (Int × JI × JI) → Prop} (h : Ev (fun n => (kf_143 n dp e 1 I L 0 0)) P_) : Ev (fun n => kf_143 n dp e 0 I L i1 i2) P_ := Ev_step (fun n => ke_143_0 n dp e I L i1 i2) h
set_option maxRecDepth 100000 in
theorem ev_142_1 {dp : Nat} {e : EN} {I : JI} {L : JI} {i1 : Int} {i2 : Int} {i3 : Int} {P_ : (Int × JI × JI) → Prop} (h : Ev (fun n => (if i2 ≤ i3 then (some ((i1 : Int), I, L)) else (if 1 ≤ dp then ((kf_140 n (dp - 1) e 0 I L i3).bind (fun ⟨x0_19, I0_19, L0_19⟩ => (if 0 ≤ i3 ∧ i3 < 8 then (if x0_19 = (I0_19 55 i3) then (kf_142 n dp e 2 I0_19 L0_19 i1 i2 i3) else (if -2147483648 ≤ i1 + 1 ∧ i1 + 1 ≤ 2147483647 then (kf_142 n dp e 2 I0_19 L0_19 (i1 + 1) i2 i3) else none)) else none))) else none))) P_) : Ev (fun n => kf_142 n dp e 1 I L i1 i2 i3) P_ := Ev_step (fun n => ke_142_1 n dp e I L i1 i2 i3) h
set_option maxRecDepth 100000 in
theorem ev_142_2 {dp : Nat} {e : EN} {I : JI} {L : JI} {i1 : Int} {i2 : Int} {i3 : Int} {P_ : (Int × JI × JI) → Prop} (h : Ev (fun n => (if -2147483648 ≤ i3 + 1 ∧ i3 + 1 ≤ 2147483647 then (kf_142 n dp e 1 I L i1 i2 (i3 + 1)) else none)) P_) : Ev (fun n => kf_142 n dp e 2 I L i1 i2 i3) P_ := Ev_step (fun n => ke_142_2 n dp e I L i1 i2 i3) h
set_option maxRecDepth 100000 in
theorem ev_142_0 {dp : Nat} {e : EN} {I : JI} {L : JI} {i1 : Int} {i2 : Int} {i3 : Int} {P_ : (Int × JI × JI) → Prop} (h : Ev (fun n => (if 1 ≤ dp then ((kf_16 n (dp - 1) e 0 I L).bind (fun ⟨x0_6, I0_6, L0_6⟩ => (kf_142 n dp e 1 I0_6 L0_6 0 x0_6 0))) else none)) P_) : Ev (fun n => kf_142 n dp e 0 I L i1 i2 i3) P_ := Ev_step (fun n => ke_142_0 n dp e I L i1 i2 i3) h
end
/-! PLANS: given() -/
/-- the cutting that carcass i was told, of the class -/
def tdF (J : JI) (N : Nat) (i : Nat) : Int := if J (58 + 5 * clR (J 2 1) (J 2 2) (N - 1 - i)) 4 ≤ J 6 i then 0 else J 6 i
/-- what n of a part bring, and how many lack -/
def bgF (w pr ov n : Int) : Int := min w n * pr + (n - min w n) * ov
theorem bgF_b {w pr ov n : Int} (hw : 0 ≤ w ∧ w ≤ 8) (hp : 0 ≤ pr ∧ pr ≤ 999) (ho : 0 ≤ ov ∧ ov ≤ 999) (hn : 0 ≤ n ∧ n ≤ 1600) : (0 ≤ min w n * pr ∧ min w n * pr ≤ 8 * 999) ∧ (0 ≤ (n - min w n) * ov ∧ (n - min w n) * ov ≤ 1600 * 999) ∧ 0 ≤ bgF w pr ov n ∧ bgF w pr ov n ≤ 1606392 := by
  have a := mulb (a := min w n) (b := pr) (A := 8) (B := 999) (by omega) hp
  have b := mulb (a := n - min w n) (b := ov) (A := 1600) (B := 999) (by omega) ho
  unfold bgF
  exact ⟨a, b, by omega, by omega⟩
section KT
variable {e : EN} {L : JI}
theorem K140 {dp N i : Nat} {J : JI} (hd : 1 ≤ dp) (hQ : ∀ c : Nat, c < 3 → CtO e (58 + 5 * c) ∧ e.2.2 25 c = some (58 + 5 * c)) (hv : vlP (J 2 0) (J 2 1) (J 2 2)) (hN : J 2 0 + J 2 1 + J 2 2 = N) (hi : i < N) : Ev (fun n => kf_140 n dp e 0 J L i) (fun r => r = (tdF J N i, J, L)) := by
  unfold vlP at hv
  have c3 := clR_3 (b := J 2 1) (c := J 2 2) (i := N - 1 - i)
  refine ev_140_0 ?_
  refine Ev_t (by omega) (Ev_st (Ev_t hd (Ev_bind (K121 hv hN (show i + (N - 1 - i) + 1 = N by omega)) ?_)))
  rintro _ rfl
  dsimp only
  unfold tdF
  generalize clR (J 2 1) (J 2 2) (N - 1 - i) = cc at *
  obtain ⟨t1, t2⟩ := hQ cc c3
  have t2' : e.2.2 25 (Int.toNat (cc : Int)) = some (58 + 5 * cc) := by rw [show (cc : Int).toNat = cc by omega]; exact t2
  refine Ev_t (by omega) (Ev_R t2' (Ev_t t1.1 ?_))
  by_cases q : J (58 + 5 * cc) 4 ≤ J 6 i
  · exact Ev_t q (Ev_ret (by rw [if_pos q]))
  · exact Ev_f q (Ev_ret (by rw [if_neg q]))
theorem K139 {dp N : Nat} {J : JI} {p : Int} (hd : 2 ≤ dp) (hQ : ∀ c : Nat, c < 3 → CtO e (58 + 5 * c) ∧ e.2.2 25 c = some (58 + 5 * c)) (hv : vlP (J 2 0) (J 2 1) (J 2 2)) (hN : J 2 0 + J 2 1 + J 2 2 = N) (hC : ∀ c : Nat, c < 3 → ctK J c) (hf : fOk J (tdF J N) N) (hp : 0 ≤ p ∧ p < 10) : Ev (fun n => kf_139 n dp e 0 J L p 0 0 0) (fun r => r = (mnF J (tdF J N) N p N, J, L)) := by
  have hv0 := hv
  unfold vlP at hv0
  have key : ∀ i : Nat, i ≤ N → Ev (fun n => kf_139 n dp e 1 J L p (mnF J (tdF J N) N p i) N i) (fun r => r = (mnF J (tdF J N) N p N, J, L)) := by
    refine dec_ind N (fun i hi ih => ?_)
    refine ev_139_1 ?_
    by_cases ci : i < N
    · have ih := ih ci
      have mb := mnF_b hC hf hp i (by omega)
      obtain ⟨q1, q2, q3⟩ := hf i ci
      have c3 := clR_3 (b := J 2 1) (c := J 2 2) (i := N - 1 - i)
      have b := (hC _ c3).2 q3 (tdF J N i).toNat (by omega) p hp.1 hp.2
      rw [show ((tdF J N i).toNat : Int) = tdF J N i by omega] at b
      refine Ev_f (by omega) (Ev_t (by omega) (Ev_bind (K121 hv hN (show i + (N - 1 - i) + 1 = N by omega)) ?_))
      rintro _ rfl
      dsimp only
      rw [mnF] at ih
      have k140 := K140 (dp := dp - 1) (L := L) (by omega) hQ hv hN ci
      generalize tdF J N i = td at *
      generalize clR (J 2 1) (J 2 2) (N - 1 - i) = cc at *
      obtain ⟨t1, t2⟩ := hQ cc c3
      have t2' : e.2.2 25 (Int.toNat (cc : Int)) = some (58 + 5 * cc) := by rw [show (cc : Int).toNat = cc by omega]; exact t2
      refine Ev_t (by omega) (Ev_R t2' (Ev_t t1.1 (Ev_R t1.2.2.1.1 (Ev_t (by omega) (Ev_bind k140 ?_)))))
      rintro _ rfl
      dsimp only
      refine Ev_t (by omega) (Ev_t (arI t1.2.2.1.2 (by omega) (by omega)) ?_)
      rw [show td * 10 + p = 10 * td + p by omega]
      refine Ev_t (by omega) (Ev_st (Ev_t (by omega) ?_))
      rw [show (i : Int) + 1 = ((i + 1 : Nat) : Int) by omega]
      exact ih
    · have : i = N := by omega
      subst this
      exact Ev_t (by omega) (Ev_ret rfl)
  refine ev_139_0 ?_
  refine Ev_t (by omega) (Ev_bind (K16 (by omega)) ?_)
  rintro _ rfl
  dsimp only
  rw [hN]
  exact key 0 (by omega)
theorem K141 {dp : Nat} {J : JI} {p n : Int} (hd : 1 ≤ dp) (hm : mkO J) (hp : 0 ≤ p ∧ p < 10) (hn : 0 ≤ n ∧ n ≤ 1600) : Ev (fun k => kf_141 k dp e 0 J L p n) (fun r => r = (bgF (J 4 (20 + p)) (J 4 p) (J 4 (10 + p)) n, J, L)) := by
  have m := hm.1 p hp.1 hp.2
  obtain ⟨a, b, c⟩ := bgF_b (w := J 4 (20 + p)) (pr := J 4 p) (ov := J 4 (10 + p)) m.1 m.2.1 m.2.2 hn
  refine ev_141_0 ?_
  simp only [Int.zero_add]
  refine Ev_t (by omega) (Ev_t (by omega) (Ev_t hd (Ev_st (Ev_t (by omega) (Ev_t (by omega) (Ev_t (by omega) (Ev_t (by omega) (Ev_t ?_ (Ev_ret rfl)))))))))
  unfold bgF at c
  have m0 := m.1
  unfold wnC at m0
  omega
theorem K126 {dp : Nat} {J : JI} {p n : Int} (hd : 1 ≤ dp) (hm : mkO J) (hp : 0 ≤ p ∧ p < 10) (hn : 0 ≤ n ∧ n ≤ 1600) : Ev (fun k => kf_126 k dp e 0 J L p n) (fun r => r = (max 0 (J 4 (20 + p) - n), J, L)) := by
  have m := (hm.1 p hp.1 hp.2).1
  unfold wnC at m
  refine ev_126_0 ?_
  exact Ev_t (by omega) (Ev_t (by omega) (Ev_t hd (Ev_t (by omega) (Ev_ret rfl))))
theorem K138 {dp N : Nat} {J : JI} (hd : 3 ≤ dp) (hQ : ∀ c : Nat, c < 3 → CtO e (58 + 5 * c) ∧ e.2.2 25 c = some (58 + 5 * c)) (hv : vlP (J 2 0) (J 2 1) (J 2 2)) (hN : J 2 0 + J 2 1 + J 2 2 = N) (hm : mkO J) (hC : ∀ c : Nat, c < 3 → ctK J c) (hf : fOk J (tdF J N) N) : Ev (fun n => kf_138 n dp e 0 J L 0 0) (fun r => r = (sm (fun p => bgF (J 4 (20 + p)) (J 4 p) (J 4 (10 + p)) (mnF J (tdF J N) N p N)) 10, J, L)) := by
  have hv0 := hv
  unfold vlP at hv0
  have key : ∀ p : Nat, p ≤ 10 → Ev (fun n => kf_138 n dp e 1 J L (sm (fun p => bgF (J 4 (20 + p)) (J 4 p) (J 4 (10 + p)) (mnF J (tdF J N) N p N)) p) p) (fun r => r = (sm (fun p => bgF (J 4 (20 + p)) (J 4 p) (J 4 (10 + p)) (mnF J (tdF J N) N p N)) 10, J, L)) := by
    refine dec_ind 10 (fun p hp ih => ?_)
    refine ev_138_1 ?_
    by_cases cp : p < 10
    · have ih := ih cp
      have bb : ∀ i : Int, 0 ≤ i → i < p → 0 ≤ bgF (J 4 (20 + i)) (J 4 i) (J 4 (10 + i)) (mnF J (tdF J N) N i N) ∧ bgF (J 4 (20 + i)) (J 4 i) (J 4 (10 + i)) (mnF J (tdF J N) N i N) ≤ 1606392 := fun i x y => by
        have mb := mnF_b hC hf ⟨x, (by omega : i < 10)⟩ N (Nat.le_refl _)
        have m := hm.1 i x (by omega)
        exact (bgF_b (w := J 4 (20 + i)) m.1 m.2.1 m.2.2 (by omega)).2.2
      have sb := sm_bb (A := 1606392) (by decide) p bb
      have mb := mnF_b (p := p) hC hf (by omega) N (Nat.le_refl _)
      have m := hm.1 p (by omega) (by omega)
      have pb := (bgF_b (w := J 4 (20 + p)) m.1 m.2.1 m.2.2 (n := mnF J (tdF J N) N p N) (by omega)).2.2
      refine Ev_f (by omega) (Ev_t (by omega) (Ev_bind (K139 (by omega) hQ hv hN hC hf (by omega)) ?_))
      rintro _ rfl
      dsimp only
      refine Ev_t (by omega) (Ev_bind (K141 (by omega) hm (by omega) (by omega)) ?_)
      rintro _ rfl
      dsimp only
      rw [sm_s] at ih
      refine Ev_t (by omega) ?_
      rw [show (p : Int) + 1 = ((p + 1 : Nat) : Int) by omega]
      exact ih
    · have : p = 10 := by omega
      subst this
      exact Ev_t (by omega) (Ev_ret rfl)
  refine ev_138_0 ?_
  exact key 0 (by omega)
theorem K143 {dp N : Nat} {J : JI} (hd : 3 ≤ dp) (hQ : ∀ c : Nat, c < 3 → CtO e (58 + 5 * c) ∧ e.2.2 25 c = some (58 + 5 * c)) (hv : vlP (J 2 0) (J 2 1) (J 2 2)) (hN : J 2 0 + J 2 1 + J 2 2 = N) (hm : mkO J) (hC : ∀ c : Nat, c < 3 → ctK J c) (hf : fOk J (tdF J N) N) : Ev (fun n => kf_143 n dp e 0 J L 0 0) (fun r => r = (sm (fun p => max 0 (J 4 (20 + p) - mnF J (tdF J N) N p N)) 10, J, L)) := by
  have hv0 := hv
  unfold vlP at hv0
  have key : ∀ p : Nat, p ≤ 10 → Ev (fun n => kf_143 n dp e 1 J L (sm (fun p => max 0 (J 4 (20 + p) - mnF J (tdF J N) N p N)) p) p) (fun r => r = (sm (fun p => max 0 (J 4 (20 + p) - mnF J (tdF J N) N p N)) 10, J, L)) := by
    refine dec_ind 10 (fun p hp ih => ?_)
    refine ev_143_1 ?_
    by_cases cp : p < 10
    · have ih := ih cp
      have bb : ∀ i : Int, 0 ≤ i → i < p → 0 ≤ max 0 (J 4 (20 + i) - mnF J (tdF J N) N i N) ∧ max 0 (J 4 (20 + i) - mnF J (tdF J N) N i N) ≤ 8 := fun i x y => by
        have mb := mnF_b hC hf ⟨x, (by omega : i < 10)⟩ N (Nat.le_refl _)
        have m := (hm.1 i x (by omega)).1
        unfold wnC at m
        omega
      have sb := sm_bb (A := 8) (by decide) p bb
      have mb := mnF_b (p := p) hC hf (by omega) N (Nat.le_refl _)
      have m := (hm.1 p (by omega) (by omega)).1
      unfold wnC at m
      refine Ev_f (by omega) (Ev_t (by omega) (Ev_bind (K139 (by omega) hQ hv hN hC hf (by omega)) ?_))
      rintro _ rfl
      dsimp only
      refine Ev_t (by omega) (Ev_bind (K126 (by omega) hm (by omega) (by omega)) ?_)
      rintro _ rfl
      dsimp only
      rw [sm_s] at ih
      refine Ev_t (by omega) ?_
      rw [show (p : Int) + 1 = ((p + 1 : Nat) : Int) by omega]
      exact ih
    · have : p = 10 := by omega
      subst this
      exact Ev_t (by omega) (Ev_ret rfl)
  refine ev_143_0 ?_
  exact key 0 (by omega)
/-- how many are told otherwise than the first -/
def otF (f g : Nat → Int) : Nat → Int
  | 0 => 0
  | i + 1 => otF f g i + if f i = g i then 0 else 1
theorem otF_b {f g : Nat → Int} : ∀ i : Nat, 0 ≤ otF f g i ∧ otF f g i ≤ i
  | 0 => by rw [otF]; omega
  | i + 1 => by
    have := otF_b (f := f) (g := g) i
    rw [otF]
    split <;> omega
theorem otF_c {f g f' g' : Nat → Int} : ∀ n : Nat, (∀ i, i < n → f' i = f i ∧ g' i = g i) → otF f' g' n = otF f g n
  | 0, _ => rfl
  | n + 1, h => by rw [otF, otF, otF_c n (fun i hi => h i (by omega)), (h n (by omega)).1, (h n (by omega)).2]
theorem K142 {dp N : Nat} {J : JI} (hd : 2 ≤ dp) (hQ : ∀ c : Nat, c < 3 → CtO e (58 + 5 * c) ∧ e.2.2 25 c = some (58 + 5 * c)) (hv : vlP (J 2 0) (J 2 1) (J 2 2)) (hN : J 2 0 + J 2 1 + J 2 2 = N) : Ev (fun n => kf_142 n dp e 0 J L 0 0 0) (fun r => r = (otF (tdF J N) (fun i => J 55 i) N, J, L)) := by
  have hv0 := hv
  unfold vlP at hv0
  have key : ∀ i : Nat, i ≤ N → Ev (fun n => kf_142 n dp e 1 J L (otF (tdF J N) (fun i => J 55 i) i) N i) (fun r => r = (otF (tdF J N) (fun i => J 55 i) N, J, L)) := by
    refine dec_ind N (fun i hi ih => ?_)
    refine ev_142_1 ?_
    by_cases ci : i < N
    · have ih := ih ci
      rw [otF] at ih
      have ob := otF_b (f := tdF J N) (g := fun i => J 55 i) i
      refine Ev_f (by omega) (Ev_t (by omega) (Ev_bind (K140 (by omega) hQ hv hN ci) ?_))
      rintro _ rfl
      dsimp only
      have two : ∀ v : Int, v = otF (tdF J N) (fun i => J 55 i) i + (if tdF J N i = J 55 i then 0 else 1) → Ev (fun n => kf_142 n dp e 2 J L v N i) (fun r => r = (otF (tdF J N) (fun i => J 55 i) N, J, L)) := fun v hv' => by
        refine ev_142_2 ?_
        refine Ev_t (by omega) ?_
        rw [hv', show (i : Int) + 1 = ((i + 1 : Nat) : Int) by omega]
        exact ih
      refine Ev_t (by omega) ?_
      by_cases q : tdF J N i = J 55 i
      · exact Ev_t q (two _ (by rw [if_pos q]; omega))
      · exact Ev_f q (Ev_t (by omega) (two _ (by rw [if_neg q])))
    · have : i = N := by omega
      subst this
      exact Ev_t (by omega) (Ev_ret rfl)
  refine ev_142_0 ?_
  refine Ev_t (by omega) (Ev_bind (K16 (by omega)) ?_)
  rintro _ rfl
  dsimp only
  rw [hN]
  exact key 0 (by omega)
end KT
