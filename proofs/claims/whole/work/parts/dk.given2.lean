section
set_option maxRecDepth 100000 in
theorem ev_280_0 {dp : Nat} {e : EN} {I : JI} {L : JI} {i1 : Int} {P_ : (Int × JI × JI) → Prop} (h : Ev (fun n => (if (I 107 0) ≤ i1 then (if -2147483648 ≤ (I 107 0) + (I 107 1) ∧ (I 107 0) + (I 107 1) ≤ 2147483647 then (if ((I 107 0) + (I 107 1)) ≤ i1 then (some ((2 : Int), I, L)) else (some ((1 : Int), I, L))) else none) else (some ((0 : Int), I, L)))) P_) : Ev (fun n => kf_280 n dp e 0 I L i1) P_ := Ev_step (fun n => ke_280_0 n dp e I L i1) h
set_option maxRecDepth 100000 in
theorem ev_281_0 {dp : Nat} {e : EN} {I : JI} {L : JI} {i1 : Int} {P_ : (Int × JI × JI) → Prop} (h : Ev (fun n => (if -2147483648 ≤ 74 + i1 ∧ 74 + i1 ≤ 2147483647 then (if 0 ≤ (74 + i1) ∧ (74 + i1) < 1570 then (if 1 ≤ dp then ((kf_280 n (dp - 1) e 0 I L i1).bind (fun ⟨x0_15, I0_15, L0_15⟩ => (if 0 ≤ x0_15 ∧ x0_15 < 3 then (if (I0_15 120 x0_15) ≤ (I 107 (74 + i1)) then (some ((0 : Int), I0_15, L0_15)) else (if 0 ≤ (74 + i1) ∧ (74 + i1) < 1570 then (some (((I0_15 107 (74 + i1)) : Int), I0_15, L0_15)) else none)) else none))) else none) else none) else none)) P_) : Ev (fun n => kf_281 n dp e 0 I L i1) P_ := Ev_step (fun n => ke_281_0 n dp e I L i1) h
set_option maxRecDepth 100000 in
theorem ev_279_3 {dp : Nat} {e : EN} {I : JI} {L : JI} {i1 : Int} {i2 : Int} {i3 : Int} {i4 : Int} {i5 : Int} {i6 : Int} {i7 : Int} {P_ : (Int × JI × JI) → Prop} (h : Ev (fun n => (if 1 ≤ dp then ((kf_198 n (dp - 1) e 0 I L).bind (fun ⟨x0_189, I0_189, L0_189⟩ => (if x0_189 ≤ i5 then (if i1 = 0 then (some ((i2 : Int), I0_189, L0_189)) else (if i1 = 1 then (if -2147483648 ≤ (I0_189 105 53) - i2 ∧ (I0_189 105 53) - i2 ≤ 2147483647 then (some ((((I0_189 105 53) - i2) : Int), I0_189, L0_189)) else none) else (if i1 = 2 then (some ((i3 : Int), I0_189, L0_189)) else (some ((i4 : Int), I0_189, L0_189))))) else (if 1 ≤ dp then ((kf_281 n (dp - 1) e 0 I0_189 L0_189 i5).bind (fun ⟨x1_199, I1_199, L1_199⟩ => (if 0 ≤ i5 ∧ i5 < 8 then (if x1_199 = (I1_199 134 i5) then (if (-2147483648 ≤ i3 + 0 ∧ i3 + 0 ≤ 2147483647) ∧ (-2147483648 ≤ i5 + 1 ∧ i5 + 1 ≤ 2147483647) then (kf_279 n dp e 3 I1_199 L1_199 i1 i2 (i3 + 0) i4 (i5 + 1) 0 0) else none) else (if (-2147483648 ≤ i3 + 1 ∧ i3 + 1 ≤ 2147483647) ∧ (-2147483648 ≤ i5 + 1 ∧ i5 + 1 ≤ 2147483647) then (kf_279 n dp e 3 I1_199 L1_199 i1 i2 (i3 + 1) i4 (i5 + 1) 0 0) else none)) else none))) else none)))) else none)) P_) : Ev (fun n => kf_279 n dp e 3 I L i1 i2 i3 i4 i5 i6 i7) P_ := Ev_step (fun n => ke_279_3 n dp e I L i1 i2 i3 i4 i5 i6 i7) h
set_option maxRecDepth 100000 in
theorem ev_279_1 {dp : Nat} {e : EN} {I : JI} {L : JI} {i1 : Int} {i2 : Int} {i3 : Int} {i4 : Int} {i5 : Int} {i6 : Int} {i7 : Int} {P_ : (Int × JI × JI) → Prop} (h : Ev (fun n => (if 10 ≤ i5 then (kf_279 n dp e 3 I L i1 i2 i3 i4 0 0 0) else (kf_279 n dp e 2 I L i1 i2 i3 i4 i5 0 0))) P_) : Ev (fun n => kf_279 n dp e 1 I L i1 i2 i3 i4 i5 i6 i7) P_ := Ev_step (fun n => ke_279_1 n dp e I L i1 i2 i3 i4 i5 i6 i7) h
set_option maxRecDepth 100000 in
theorem ev_279_2 {dp : Nat} {e : EN} {I : JI} {L : JI} {i1 : Int} {i2 : Int} {i3 : Int} {i4 : Int} {i5 : Int} {i6 : Int} {i7 : Int} {P_ : (Int × JI × JI) → Prop} (h : Ev (fun n => (if 1 ≤ dp then ((kf_198 n (dp - 1) e 0 I L).bind (fun ⟨x0_52, I0_52, L0_52⟩ => (if x0_52 ≤ i7 then (if -2147483648 ≤ 60 + i5 ∧ 60 + i5 ≤ 2147483647 then (if 0 ≤ (60 + i5) ∧ (60 + i5) < 1570 then (stI (I0_52 107 (60 + i5)) (fun v_107 => (if v_107 ≤ i6 then (if -2147483648 ≤ 40 + i5 ∧ 40 + i5 ≤ 2147483647 then (if 0 ≤ (40 + i5) ∧ (40 + i5) < 1570 then (if i6 ≤ v_107 then (if -2147483648 ≤ 50 + i5 ∧ 50 + i5 ≤ 2147483647 then (if 0 ≤ (50 + i5) ∧ (50 + i5) < 1570 then (if (-2147483648 ≤ v_107 * (I0_52 107 (40 + i5)) ∧ v_107 * (I0_52 107 (40 + i5)) ≤ 2147483647) ∧ (-2147483648 ≤ 0 * (I0_52 107 (50 + i5)) ∧ 0 * (I0_52 107 (50 + i5)) ≤ 2147483647) ∧ (-2147483648 ≤ (v_107 * (I0_52 107 (40 + i5))) + (0 * (I0_52 107 (50 + i5))) ∧ (v_107 * (I0_52 107 (40 + i5))) + (0 * (I0_52 107 (50 + i5))) ≤ 2147483647) ∧ (-2147483648 ≤ i2 + ((v_107 * (I0_52 107 (40 + i5))) + (0 * (I0_52 107 (50 + i5)))) ∧ i2 + ((v_107 * (I0_52 107 (40 + i5))) + (0 * (I0_52 107 (50 + i5)))) ≤ 2147483647) then (stI (i2 + ((v_107 * (I0_52 107 (40 + i5))) + (0 * (I0_52 107 (50 + i5))))) (fun v_164 => (if 1 ≤ dp then ((kf_272 n (dp - 1) e 0 I0_52 L0_52 v_107 i6).bind (fun ⟨x1_171, I1_171, L1_171⟩ => (if (-2147483648 ≤ i4 + x1_171 ∧ i4 + x1_171 ≤ 2147483647) ∧ (-2147483648 ≤ i5 + 1 ∧ i5 + 1 ≤ 2147483647) then (kf_279 n dp e 1 I1_171 L1_171 i1 v_164 i3 (i4 + x1_171) (i5 + 1) 0 0) else none))) else none))) else none) else none) else none) else (if -2147483648 ≤ 50 + i5 ∧ 50 + i5 ≤ 2147483647 then (if 0 ≤ (50 + i5) ∧ (50 + i5) < 1570 then (if (-2147483648 ≤ v_107 * (I0_52 107 (40 + i5)) ∧ v_107 * (I0_52 107 (40 + i5)) ≤ 2147483647) ∧ (-2147483648 ≤ i6 - v_107 ∧ i6 - v_107 ≤ 2147483647) ∧ (-2147483648 ≤ (i6 - v_107) * (I0_52 107 (50 + i5)) ∧ (i6 - v_107) * (I0_52 107 (50 + i5)) ≤ 2147483647) ∧ (-2147483648 ≤ (v_107 * (I0_52 107 (40 + i5))) + ((i6 - v_107) * (I0_52 107 (50 + i5))) ∧ (v_107 * (I0_52 107 (40 + i5))) + ((i6 - v_107) * (I0_52 107 (50 + i5))) ≤ 2147483647) ∧ (-2147483648 ≤ i2 + ((v_107 * (I0_52 107 (40 + i5))) + ((i6 - v_107) * (I0_52 107 (50 + i5)))) ∧ i2 + ((v_107 * (I0_52 107 (40 + i5))) + ((i6 - v_107) * (I0_52 107 (50 + i5)))) ≤ 2147483647) then (stI (i2 + ((v_107 * (I0_52 107 (40 + i5))) + ((i6 - v_107) * (I0_52 107 (50 + i5))))) (fun v_164 => (if 1 ≤ dp then ((kf_272 n (dp - 1) e 0 I0_52 L0_52 v_107 i6).bind (fun ⟨x1_171, I1_171, L1_171⟩ => (if (-2147483648 ≤ i4 + x1_171 ∧ i4 + x1_171 ≤ 2147483647) ∧ (-2147483648 ≤ i5 + 1 ∧ i5 + 1 ≤ 2147483647) then (kf_279 n dp e 1 I1_171 L1_171 i1 v_164 i3 (i4 + x1_171) (i5 + 1) 0 0) else none))) else none))) else none) else none) else none)) else none) else none) else (if -2147483648 ≤ 40 + i5 ∧ 40 + i5 ≤ 2147483647 then (if 0 ≤ (40 + i5) ∧ (40 + i5) < 1570 then (if i6 ≤ v_107 then (if -2147483648 ≤ 50 + i5 ∧ 50 + i5 ≤ 2147483647 then (if 0 ≤ (50 + i5) ∧ (50 + i5) < 1570 then (if (-2147483648 ≤ i6 * (I0_52 107 (40 + i5)) ∧ i6 * (I0_52 107 (40 + i5)) ≤ 2147483647) ∧ (-2147483648 ≤ 0 * (I0_52 107 (50 + i5)) ∧ 0 * (I0_52 107 (50 + i5)) ≤ 2147483647) ∧ (-2147483648 ≤ (i6 * (I0_52 107 (40 + i5))) + (0 * (I0_52 107 (50 + i5))) ∧ (i6 * (I0_52 107 (40 + i5))) + (0 * (I0_52 107 (50 + i5))) ≤ 2147483647) ∧ (-2147483648 ≤ i2 + ((i6 * (I0_52 107 (40 + i5))) + (0 * (I0_52 107 (50 + i5)))) ∧ i2 + ((i6 * (I0_52 107 (40 + i5))) + (0 * (I0_52 107 (50 + i5)))) ≤ 2147483647) then (stI (i2 + ((i6 * (I0_52 107 (40 + i5))) + (0 * (I0_52 107 (50 + i5))))) (fun v_164 => (if 1 ≤ dp then ((kf_272 n (dp - 1) e 0 I0_52 L0_52 v_107 i6).bind (fun ⟨x1_171, I1_171, L1_171⟩ => (if (-2147483648 ≤ i4 + x1_171 ∧ i4 + x1_171 ≤ 2147483647) ∧ (-2147483648 ≤ i5 + 1 ∧ i5 + 1 ≤ 2147483647) then (kf_279 n dp e 1 I1_171 L1_171 i1 v_164 i3 (i4 + x1_171) (i5 + 1) 0 0) else none))) else none))) else none) else none) else none) else (if -2147483648 ≤ 50 + i5 ∧ 50 + i5 ≤ 2147483647 then (if 0 ≤ (50 + i5) ∧ (50 + i5) < 1570 then (if (-2147483648 ≤ i6 * (I0_52 107 (40 + i5)) ∧ i6 * (I0_52 107 (40 + i5)) ≤ 2147483647) ∧ (-2147483648 ≤ i6 - v_107 ∧ i6 - v_107 ≤ 2147483647) ∧ (-2147483648 ≤ (i6 - v_107) * (I0_52 107 (50 + i5)) ∧ (i6 - v_107) * (I0_52 107 (50 + i5)) ≤ 2147483647) ∧ (-2147483648 ≤ (i6 * (I0_52 107 (40 + i5))) + ((i6 - v_107) * (I0_52 107 (50 + i5))) ∧ (i6 * (I0_52 107 (40 + i5))) + ((i6 - v_107) * (I0_52 107 (50 + i5))) ≤ 2147483647) ∧ (-2147483648 ≤ i2 + ((i6 * (I0_52 107 (40 + i5))) + ((i6 - v_107) * (I0_52 107 (50 + i5)))) ∧ i2 + ((i6 * (I0_52 107 (40 + i5))) + ((i6 - v_107) * (I0_52 107 (50 + i5)))) ≤ 2147483647) then (stI (i2 + ((i6 * (I0_52 107 (40 + i5))) + ((i6 - v_107) * (I0_52 107 (50 + i5))))) (fun v_164 => (if 1 ≤ dp then ((kf_272 n (dp - 1) e 0 I0_52 L0_52 v_107 i6).bind (fun ⟨x1_171, I1_171, L1_171⟩ => (if (-2147483648 ≤ i4 + x1_171 ∧ i4 + x1_171 ≤ 2147483647) ∧ (-2147483648 ≤ i5 + 1 ∧ i5 + 1 ≤ 2147483647) then (kf_279 n dp e 1 I1_171 L1_171 i1 v_164 i3 (i4 + x1_171) (i5 + 1) 0 0) else none))) else none))) else none) else none) else none)) else none) else none)))) else none) else none) else (if 1 ≤ dp then ((kf_280 n (dp - 1) e 0 I0_52 L0_52 i7).bind (fun ⟨x1_70, I1_70, L1_70⟩ => (if 1 ≤ dp then ((kf_281 n (dp - 1) e 0 I1_70 L1_70 i7).bind (fun ⟨x2_79, I2_79, L2_79⟩ => (if (-2147483648 ≤ 640 * x1_70 ∧ 640 * x1_70 ≤ 2147483647) ∧ (-2147483648 ≤ 10 * x2_79 ∧ 10 * x2_79 ≤ 2147483647) ∧ (-2147483648 ≤ (640 * x1_70) + (10 * x2_79) ∧ (640 * x1_70) + (10 * x2_79) ≤ 2147483647) ∧ (-2147483648 ≤ ((640 * x1_70) + (10 * x2_79)) + i5 ∧ ((640 * x1_70) + (10 * x2_79)) + i5 ≤ 2147483647) then (if 0 ≤ (((640 * x1_70) + (10 * x2_79)) + i5) ∧ (((640 * x1_70) + (10 * x2_79)) + i5) < 1920 then (if -2147483648 ≤ i6 + (I2_79 122 (((640 * x1_70) + (10 * x2_79)) + i5)) ∧ i6 + (I2_79 122 (((640 * x1_70) + (10 * x2_79)) + i5)) ≤ 2147483647 then (stI (i6 + (I2_79 122 (((640 * x1_70) + (10 * x2_79)) + i5))) (fun v_89 => (if -2147483648 ≤ i7 + 1 ∧ i7 + 1 ≤ 2147483647 then (kf_279 n dp e 2 I2_79 L2_79 i1 i2 i3 i4 i5 v_89 (i7 + 1)) else none))) else none) else none) else none))) else none))) else none)))) else none)) P_) : Ev (fun n => kf_279 n dp e 2 I L i1 i2 i3 i4 i5 i6 i7) P_ := Ev_step (fun n => ke_279_2 n dp e I L i1 i2 i3 i4 i5 i6 i7) h
end
/-! PLANS: given(), of both -/
/-- the cutting that carcass i was told, of the reference -/
def tdM (J : JI) (i : Nat) : Int := if J 120 (clA (J 107 0) (J 107 1) i) ≤ J 107 (74 + i) then 0 else J 107 (74 + i)
def mnM (J : JI) (f : Nat → Int) (p : Int) : Nat → Int
  | 0 => 0
  | i + 1 => mnM J f p i + J 122 (640 * clA (J 107 0) (J 107 1) i + 10 * f i + p)
theorem clA_3 {a b i : Int} : 0 ≤ clA a b i ∧ clA a b i < 3 := by unfold clA; (repeat' split) <;> omega
section KU
variable {e : EN} {L : JI}
theorem K280 {dp i : Nat} {J : JI} (h0 : 0 ≤ J 107 0 ∧ J 107 0 ≤ 8) (h1 : 0 ≤ J 107 1 ∧ J 107 1 ≤ 8) : Ev (fun n => kf_280 n dp e 0 J L i) (fun r => r = (clA (J 107 0) (J 107 1) i, J, L)) := by
  unfold clA
  refine ev_280_0 ?_
  by_cases x : (i : Int) < J 107 0
  · exact Ev_f (by omega) (Ev_ret (by rw [if_pos x]))
  · refine Ev_t (by omega) (Ev_t (by omega) ?_)
    by_cases y : (i : Int) < J 107 0 + J 107 1
    · exact Ev_f (by omega) (Ev_ret (by rw [if_neg x, if_pos y]))
    · exact Ev_t (by omega) (Ev_ret (by rw [if_neg x, if_neg y]))
theorem K281 {dp i : Nat} {J : JI} (hd : 1 ≤ dp) (h0 : 0 ≤ J 107 0 ∧ J 107 0 ≤ 8) (h1 : 0 ≤ J 107 1 ∧ J 107 1 ≤ 8) (hi : i < 8) : Ev (fun n => kf_281 n dp e 0 J L i) (fun r => r = (tdM J i, J, L)) := by
  have c3 := clA_3 (a := J 107 0) (b := J 107 1) (i := i)
  refine ev_281_0 ?_
  refine Ev_t (by omega) (Ev_t (by omega) (Ev_t hd (Ev_bind (K280 h0 h1) ?_)))
  rintro _ rfl
  dsimp only
  unfold tdM
  refine Ev_t c3 ?_
  by_cases q : J 120 (clA (J 107 0) (J 107 1) i) ≤ J 107 (74 + i)
  · exact Ev_t q (Ev_ret (by rw [if_pos q]))
  · exact Ev_f q (Ev_t (by omega) (Ev_ret (by rw [if_neg q])))
theorem K272 {dp : Nat} {J : JI} {w n : Int} (hw : 0 ≤ w ∧ w ≤ 8) (hn : 0 ≤ n ∧ n ≤ 1600) : Ev (fun k => kf_272 k dp e 0 J L w n) (fun r => r = (max 0 (w - n), J, L)) := by
  refine ev_272_0 ?_
  by_cases q : w ≤ n
  · refine Ev_t q (Ev_ret ?_)
    rw [show max (0 : Int) (w - n) = 0 by omega]
  · refine Ev_f q (Ev_t (by omega) (Ev_ret ?_))
    rw [show max (0 : Int) (w - n) = w - n by omega]
set_option maxHeartbeats 1000000 in
theorem K279 {dp N : Nat} {J : JI} {x : Int} (hd : 3 ≤ dp) (hr : rwO (J 107)) (hN : J 107 0 + J 107 1 + J 107 2 = N) (hb : ∀ p : Int, 0 ≤ p → p < 10 → ∀ i : Nat, i < N → (0 ≤ tdM J i ∧ tdM J i < 64) ∧ 0 ≤ J 122 (640 * clA (J 107 0) (J 107 1) i + 10 * tdM J i + p) ∧ J 122 (640 * clA (J 107 0) (J 107 1) i + 10 * tdM J i + p) ≤ 200) (h53 : -1000000000 ≤ J 105 53 ∧ J 105 53 ≤ 1000000000) : Ev (fun n => kf_279 n dp e 1 J L x 0 0 0 0 0 0) (fun r => r = ((if x = 0 then sm (fun p => bgF (J 107 (60 + p)) (J 107 (40 + p)) (J 107 (50 + p)) (mnM J (tdM J) p N)) 10 else if x = 1 then J 105 53 - sm (fun p => bgF (J 107 (60 + p)) (J 107 (40 + p)) (J 107 (50 + p)) (mnM J (tdM J) p N)) 10 else if x = 2 then otF (tdM J) (fun i => J 134 i) N else sm (fun p => max 0 (J 107 (60 + p) - mnM J (tdM J) p N)) 10), J, L)) := by
  obtain ⟨u1, u2, u3, u4, u5, u6, u7, u8, u9, u10, u11, u12, u13⟩ := hr
  have b0 := u1 0 (by omega) (by omega)
  have b1 := u1 1 (by omega) (by omega)
  have b2 := u1 2 (by omega) (by omega)
  have mb : ∀ p : Int, 0 ≤ p → p < 10 → ∀ i : Nat, i ≤ N → 0 ≤ mnM J (tdM J) p i ∧ mnM J (tdM J) p i ≤ 200 * (i : Int) := fun p x y i => by
    induction i with
    | zero => intro _; rw [mnM]; omega
    | succ i ih =>
      intro hi
      have := ih (by omega)
      have := hb p x y i (by omega)
      rw [mnM]
      omega
  have gb : ∀ p : Int, 0 ≤ p → p < 10 → _ := fun p (x : 0 ≤ p) (y : p < 10) => bgF_b (w := J 107 (60 + p)) (pr := J 107 (40 + p)) (ov := J 107 (50 + p)) (n := mnM J (tdM J) p N) (u12 (60 + p) (by omega) (by omega)) (u11 (40 + p) (by omega) (by omega)) (u11 (50 + p) (by omega) (by omega)) (by have := mb p x y N (Nat.le_refl _); omega)
  /- the end -/
  have three : ∀ (V K : Int), (0 ≤ V ∧ V ≤ 16063920) → V = sm (fun p => bgF (J 107 (60 + p)) (J 107 (40 + p)) (J 107 (50 + p)) (mnM J (tdM J) p N)) 10 → K = sm (fun p => max 0 (J 107 (60 + p) - mnM J (tdM J) p N)) 10 → ∀ i : Nat, i ≤ N → Ev (fun n => kf_279 n dp e 3 J L x V (otF (tdM J) (fun i => J 134 i) i) K i 0 0) (fun r => r = ((if x = 0 then V else if x = 1 then J 105 53 - V else if x = 2 then otF (tdM J) (fun i => J 134 i) N else K), J, L)) := by
    intro V K vb _ _
    refine dec_ind N (fun i hi ih => ?_)
    have ob := otF_b (f := tdM J) (g := fun i => J 134 i) i
    refine ev_279_3 ?_
    refine Ev_t (by omega) (Ev_bind (K198 (by omega)) ?_)
    rintro _ rfl
    dsimp only
    rw [hN]
    by_cases ci : i < N
    · have ih := ih ci
      rw [otF] at ih
      refine Ev_f (by omega) (Ev_t (by omega) (Ev_bind (K281 (by omega) b0 b1 (by omega)) ?_))
      rintro _ rfl
      dsimp only
      refine Ev_t (by omega) ?_
      by_cases q : tdM J i = J 134 i
      · rw [if_pos q] at ih
        refine Ev_t q (Ev_t (by omega) ?_)
        rw [show (i : Int) + 1 = ((i + 1 : Nat) : Int) by omega]
        exact ih
      · rw [if_neg q] at ih
        refine Ev_f q (Ev_t (by omega) ?_)
        rw [show (i : Int) + 1 = ((i + 1 : Nat) : Int) by omega]
        exact ih
    · have : i = N := by omega
      subst this
      refine Ev_t (by omega) ?_
      by_cases x0 : x = 0
      · exact Ev_t x0 (Ev_ret (by rw [if_pos x0]))
      · refine Ev_f x0 ?_
        by_cases x1 : x = 1
        · exact Ev_t x1 (Ev_t (by omega) (Ev_ret (by rw [if_neg x0, if_pos x1])))
        · refine Ev_f x1 ?_
          by_cases x2 : x = 2
          · exact Ev_t x2 (Ev_ret (by rw [if_neg x0, if_neg x1, if_pos x2]))
          · exact Ev_f x2 (Ev_ret (by rw [if_neg x0, if_neg x1, if_neg x2]))
  have one : ∀ p : Nat, p ≤ 10 → Ev (fun n => kf_279 n dp e 1 J L x (sm (fun p => bgF (J 107 (60 + p)) (J 107 (40 + p)) (J 107 (50 + p)) (mnM J (tdM J) p N)) p) 0 (sm (fun p => max 0 (J 107 (60 + p) - mnM J (tdM J) p N)) p) p 0 0) (fun r => r = ((if x = 0 then sm (fun p => bgF (J 107 (60 + p)) (J 107 (40 + p)) (J 107 (50 + p)) (mnM J (tdM J) p N)) 10 else if x = 1 then J 105 53 - sm (fun p => bgF (J 107 (60 + p)) (J 107 (40 + p)) (J 107 (50 + p)) (mnM J (tdM J) p N)) 10 else if x = 2 then otF (tdM J) (fun i => J 134 i) N else sm (fun p => max 0 (J 107 (60 + p) - mnM J (tdM J) p N)) 10), J, L)) := by
    refine dec_ind 10 (fun p hp ihp => ?_)
    have sb := sm_bb (f := fun p => bgF (J 107 (60 + p)) (J 107 (40 + p)) (J 107 (50 + p)) (mnM J (tdM J) p N)) (A := 1606392) (by decide) p (fun i a b => (gb i a (by omega)).2.2)
    have kb := sm_bb (f := fun p => max 0 (J 107 (60 + p) - mnM J (tdM J) p N)) (A := 8) (by decide) p (fun i a b => by
      have := mb i a (by omega) N (Nat.le_refl _)
      have := u12 (60 + i) (by omega) (by omega)
      omega)
    refine ev_279_1 ?_
    by_cases cp : p < 10
    · have ihp := ihp cp
      refine Ev_f (by omega) ?_
      rw [sm_s, sm_s] at ihp
      have mN := mb p (by omega) (by omega) N (Nat.le_refl _)
      have w8 := u12 (60 + p) (by omega) (by omega)
      obtain ⟨g1, g2, g3⟩ := gb p (by omega) (by omega)
      generalize sm (fun p => bgF (J 107 (60 + p)) (J 107 (40 + p)) (J 107 (50 + p)) (mnM J (tdM J) p N)) p = V at *
      generalize sm (fun p => max 0 (J 107 (60 + p) - mnM J (tdM J) p N)) p = K at *
      have two : ∀ i : Nat, i ≤ N → Ev (fun n => kf_279 n dp e 2 J L x V 0 K p (mnM J (tdM J) p i) i) (fun r => r = ((if x = 0 then sm (fun p => bgF (J 107 (60 + p)) (J 107 (40 + p)) (J 107 (50 + p)) (mnM J (tdM J) p N)) 10 else if x = 1 then J 105 53 - sm (fun p => bgF (J 107 (60 + p)) (J 107 (40 + p)) (J 107 (50 + p)) (mnM J (tdM J) p N)) 10 else if x = 2 then otF (tdM J) (fun i => J 134 i) N else sm (fun p => max 0 (J 107 (60 + p) - mnM J (tdM J) p N)) 10), J, L)) := by
        refine dec_ind N (fun i hi ih => ?_)
        have mi := mb p (by omega) (by omega) i hi
        refine ev_279_2 ?_
        refine Ev_t (by omega) (Ev_bind (K198 (by omega)) ?_)
        rintro _ rfl
        dsimp only
        rw [hN]
        by_cases ci : i < N
        · have ih := ih ci
          rw [mnM] at ih
          have hbi := hb p (by omega) (by omega) i ci
          have c3 := clA_3 (a := J 107 0) (b := J 107 1) (i := i)
          refine Ev_f (by omega) (Ev_t (by omega) (Ev_bind (K280 b0 b1) ?_))
          rintro _ rfl
          dsimp only
          refine Ev_t (by omega) (Ev_bind (K281 (by omega) b0 b1 (by omega)) ?_)
          rintro _ rfl
          dsimp only
          generalize tdM J i = td at *
          generalize clA (J 107 0) (J 107 1) i = cc at *
          refine Ev_t (by omega) (Ev_t (by omega) (Ev_t (by omega) (Ev_st (Ev_t (by omega) ?_))))
          rw [show (i : Int) + 1 = ((i + 1 : Nat) : Int) by omega]
          exact ih
        · have : i = N := by omega
          subst this
          have k272 := K272 (e := e) (L := L) (dp := dp - 1) (J := J) (w := J 107 (60 + p)) (n := mnM J (tdM J) p i) w8 (by omega)
          unfold bgF at ihp g3
          generalize mnM J (tdM J) p i = n at *
          generalize J 107 (60 + p) = w at *
          refine Ev_t (by omega) (Ev_t (by omega) (Ev_t (by omega) (Ev_st ?_)))
          by_cases q1 : w ≤ n
          · rw [show min w n = w by omega] at ihp g1 g2 g3
            by_cases q2 : n ≤ w
            · rw [show n - w = 0 by omega] at ihp g2 g3
              refine Ev_t q1 (Ev_t (by omega) (Ev_t (by omega) (Ev_t q2 (Ev_t (by omega) (Ev_t (by omega) (Ev_t (by omega) (Ev_st (Ev_t (by omega) (Ev_bind k272 ?_)))))))))
              rintro _ rfl
              dsimp only
              refine Ev_t (by omega) ?_
              rw [show (p : Int) + 1 = ((p + 1 : Nat) : Int) by omega]
              exact ihp
            · refine Ev_t q1 (Ev_t (by omega) (Ev_t (by omega) (Ev_f q2 (Ev_t (by omega) (Ev_t (by omega) (Ev_t (by omega) (Ev_st (Ev_t (by omega) (Ev_bind k272 ?_)))))))))
              rintro _ rfl
              dsimp only
              refine Ev_t (by omega) ?_
              rw [show (p : Int) + 1 = ((p + 1 : Nat) : Int) by omega]
              exact ihp
          · rw [show min w n = n by omega] at ihp g1 g2 g3
            rw [show n - n = 0 by omega] at ihp g2 g3
            refine Ev_f q1 (Ev_t (by omega) (Ev_t (by omega) (Ev_t (by omega) (Ev_t (by omega) (Ev_t (by omega) (Ev_t (by omega) (Ev_st (Ev_t (by omega) (Ev_bind k272 ?_)))))))))
            rintro _ rfl
            dsimp only
            refine Ev_t (by omega) ?_
            rw [show (p : Int) + 1 = ((p + 1 : Nat) : Int) by omega]
            exact ihp
      exact two 0 (by omega)
    · have : p = 10 := by omega
      subst this
      refine Ev_t (by omega) ?_
      exact three _ _ (by omega) rfl rfl 0 (by omega)
  exact one 0 (by omega)
end KU
