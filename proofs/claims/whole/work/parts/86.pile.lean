section
set_option maxRecDepth 100000 in
theorem ev_225_0 {dp : Nat} {e : EN} {I : JI} {L : JI} {i1 : Int} {i2 : Int} {P_ : (JI × JI) → Prop} (h : Ev (fun n => (if 0 ≤ (I 105 22) ∧ (I 105 22) < 400 then (stI (w2 I 114 (I 105 22) i1) (fun I_9 => (if 0 ≤ (I_9 105 22) ∧ (I_9 105 22) < 400 then (stI (w2 I_9 115 (I_9 105 22) i2) (fun I_19 => (if -2147483648 ≤ (I_19 105 22) + 1 ∧ (I_19 105 22) + 1 ≤ 2147483647 then (stI (w2 I_19 105 22 ((I_19 105 22) + 1)) (fun I_27 => (some (I_27, L)))) else none))) else none))) else none)) P_) : Ev (fun n => kf_225 n dp e 0 I L i1 i2) P_ := Ev_step (fun n => ke_225_0 n dp e I L i1 i2) h
set_option maxRecDepth 100000 in
theorem ev_231_0 {dp : Nat} {e : EN} {I : JI} {L : JI} {i1 : Int} {i2 : Int} {P_ : (JI × JI) → Prop} (h : Ev (fun n => (if 0 ≤ (I 105 16) ∧ (I 105 16) < 400 then (stI (w2 I 112 (I 105 16) i1) (fun I_9 => (if 0 ≤ (I_9 105 16) ∧ (I_9 105 16) < 400 then (stI (w2 I_9 113 (I_9 105 16) i2) (fun I_19 => (if -2147483648 ≤ (I_19 105 16) + 1 ∧ (I_19 105 16) + 1 ≤ 2147483647 then (stI (w2 I_19 105 16 ((I_19 105 16) + 1)) (fun I_27 => (some (I_27, L)))) else none))) else none))) else none)) P_) : Ev (fun n => kf_231 n dp e 0 I L i1 i2) P_ := Ev_step (fun n => ke_231_0 n dp e I L i1 i2) h
set_option maxRecDepth 100000 in
theorem ev_233_0 {dp : Nat} {e : EN} {I : JI} {L : JI} {i0 : Int} {P_ : (Int × JI × JI) → Prop} (h : Ev (fun n => (if i0 < 30 then (if i0 = 29 then (some ((1 : Int), I, L)) else (if i0 = 28 then (some ((2 : Int), I, L)) else (if i0 = 27 then (some ((3 : Int), I, L)) else (if i0 < 24 then (if i0 < 22 then (some ((5 : Int), I, L)) else (some ((6 : Int), I, L))) else (some ((4 : Int), I, L)))))) else (some ((0 : Int), I, L)))) P_) : Ev (fun n => kf_233 n dp e 0 I L i0) P_ := Ev_step (fun n => ke_233_0 n dp e I L i0) h
set_option maxRecDepth 100000 in
theorem ev_234_0 {dp : Nat} {e : EN} {I : JI} {L : JI} {i1 : Int} {P_ : (JI × JI) → Prop} (h : Ev (fun n => (if (I 105 22) ≤ 0 then (some (I, L)) else (if -2147483648 ≤ (I 105 22) - 1 ∧ (I 105 22) - 1 ≤ 2147483647 then (if 0 ≤ ((I 105 22) - 1) ∧ ((I 105 22) - 1) < 400 then (if 1 ≤ dp then ((kf_233 n (dp - 1) e 0 I L (I 114 ((I 105 22) - 1))).bind (fun ⟨x0_18, I0_18, L0_18⟩ => (if x0_18 < i1 then (some (I0_18, L0_18)) else (if -2147483648 ≤ (I0_18 105 22) - 1 ∧ (I0_18 105 22) - 1 ≤ 2147483647 then (stI (w2 I0_18 105 22 ((I0_18 105 22) - 1)) (fun I_32 => (if 0 ≤ (I_32 105 22) ∧ (I_32 105 22) < 400 then (if (I_32 114 (I_32 105 22)) = 28 then (kf_234 n dp e 1 I_32 L0_18 i1) else (if 0 ≤ (I_32 105 22) ∧ (I_32 105 22) < 400 then (if (I_32 114 (I_32 105 22)) = 29 then (kf_234 n dp e 1 I_32 L0_18 i1) else (if 0 ≤ (I_32 105 22) ∧ (I_32 105 22) < 400 then (if 1 ≤ dp then ((kf_231 n (dp - 1) e 0 I_32 L0_18 (I_32 114 (I_32 105 22)) 0).bind (fun ⟨I1_95, L1_95⟩ => (kf_234 n dp e 0 I1_95 L1_95 i1))) else none) else none)) else none)) else none))) else none)))) else none) else none) else none))) P_) : Ev (fun n => kf_234 n dp e 0 I L i1) P_ := Ev_step (fun n => ke_234_0 n dp e I L i1) h
set_option maxRecDepth 100000 in
theorem ev_234_1 {dp : Nat} {e : EN} {I : JI} {L : JI} {i1 : Int} {P_ : (JI × JI) → Prop} (h : Ev (fun n => (if 0 ≤ (I 105 22) ∧ (I 105 22) < 400 then (if 0 ≤ (I 115 (I 105 22)) ∧ (I 115 (I 105 22)) < 400 then (stI (w2 I 113 (I 115 (I 105 22)) (I 105 16)) (fun I_80 => (kf_234 n dp e 0 I_80 L i1))) else none) else none)) P_) : Ev (fun n => kf_234 n dp e 1 I L i1) P_ := Ev_step (fun n => ke_234_1 n dp e I L i1) h
set_option maxRecDepth 100000 in
theorem ev_235_0 {dp : Nat} {e : EN} {I : JI} {L : JI} {i1 : Int} {i2 : Int} {P_ : (Int × JI × JI) → Prop} (h : Ev (fun n => (kf_235 n dp e 1 I L (-1) 0)) P_) : Ev (fun n => kf_235 n dp e 0 I L i1 i2) P_ := Ev_step (fun n => ke_235_0 n dp e I L i1 i2) h
set_option maxRecDepth 100000 in
theorem ev_235_1 {dp : Nat} {e : EN} {I : JI} {L : JI} {i1 : Int} {i2 : Int} {P_ : (Int × JI × JI) → Prop} (h : Ev (fun n => (if (I 105 22) ≤ i2 then (some ((i1 : Int), I, L)) else (if 0 ≤ i2 ∧ i2 < 400 then (if (I 114 i2) < 30 then (if -2147483648 ≤ i2 + 1 ∧ i2 + 1 ≤ 2147483647 then (kf_235 n dp e 1 I L i1 (i2 + 1)) else none) else (if 0 ≤ i2 ∧ i2 < 400 then (stI (I 114 i2) (fun v_33 => (if -2147483648 ≤ i2 + 1 ∧ i2 + 1 ≤ 2147483647 then (kf_235 n dp e 1 I L v_33 (i2 + 1)) else none))) else none)) else none))) P_) : Ev (fun n => kf_235 n dp e 1 I L i1 i2) P_ := Ev_step (fun n => ke_235_1 n dp e I L i1 i2) h
set_option maxRecDepth 100000 in
theorem ev_236_0 {dp : Nat} {e : EN} {I : JI} {L : JI} {i1 : Int} {P_ : (Int × JI × JI) → Prop} (h : Ev (fun n => (if -2147483648 ≤ (I 105 22) - 1 ∧ (I 105 22) - 1 ≤ 2147483647 then (stI ((I 105 22) - 1) (fun v_6 => (kf_236 n dp e 1 I L v_6))) else none)) P_) : Ev (fun n => kf_236 n dp e 0 I L i1) P_ := Ev_step (fun n => ke_236_0 n dp e I L i1) h
set_option maxRecDepth 100000 in
theorem ev_236_1 {dp : Nat} {e : EN} {I : JI} {L : JI} {i1 : Int} {P_ : (Int × JI × JI) → Prop} (h : Ev (fun n => (if i1 < 0 then (kf_236 n dp e 2 I L i1) else (if 0 ≤ i1 ∧ i1 < 400 then (if 1 ≤ dp then ((kf_193 n (dp - 1) e 0 I L (I 114 i1) 20 23).bind (fun ⟨x0_24, I0_24, L0_24⟩ => (if x0_24 = 0 then (kf_236 n dp e 2 I0_24 L0_24 i1) else (if -2147483648 ≤ i1 + (-1) ∧ i1 + (-1) ≤ 2147483647 then (kf_236 n dp e 1 I0_24 L0_24 (i1 + (-1))) else none)))) else none) else none))) P_) : Ev (fun n => kf_236 n dp e 1 I L i1) P_ := Ev_step (fun n => ke_236_1 n dp e I L i1) h
set_option maxRecDepth 100000 in
theorem ev_236_2 {dp : Nat} {e : EN} {I : JI} {L : JI} {i1 : Int} {P_ : (Int × JI × JI) → Prop} (h : Ev (fun n => (if i1 < 0 then (some ((0 : Int), I, L)) else (if 0 ≤ i1 ∧ i1 < 400 then (if 1 ≤ dp then ((kf_193 n (dp - 1) e 0 I L (I 114 i1) 24 26).bind (fun ⟨x0_53, I0_53, L0_53⟩ => (if x0_53 = 0 then (some ((0 : Int), I0_53, L0_53)) else (some ((1 : Int), I0_53, L0_53))))) else none) else none))) P_) : Ev (fun n => kf_236 n dp e 2 I L i1) P_ := Ev_step (fun n => ke_236_2 n dp e I L i1) h
set_option maxRecDepth 100000 in
theorem ev_219_0 {dp : Nat} {e : EN} {I : JI} {L : JI} {i1 : Int} {P_ : (JI × JI) → Prop} (h : Ev (fun n => (if (I 105 13) = 0 then (if i1 = 0 then (stI (w2 I 105 13 1) (fun I_13 => (stI (w2 I_13 105 12 (I_13 105 8)) (fun I_21 => (kf_219 n dp e 1 I_21 L i1))))) else (kf_219 n dp e 1 I L i1)) else (kf_219 n dp e 1 I L i1))) P_) : Ev (fun n => kf_219 n dp e 0 I L i1) P_ := Ev_step (fun n => ke_219_0 n dp e I L i1) h
set_option maxRecDepth 100000 in
theorem ev_219_1 {dp : Nat} {e : EN} {I : JI} {L : JI} {i1 : Int} {P_ : (JI × JI) → Prop} (h : Ev (fun n => (if (I 105 13) = 0 then (if 1 ≤ dp then ((kf_214 n (dp - 1) e 0 I L).bind (fun ⟨I0_32, L0_32⟩ => (some (I0_32, L0_32)))) else none) else (some (I, L)))) P_) : Ev (fun n => kf_219 n dp e 1 I L i1) P_ := Ev_step (fun n => ke_219_1 n dp e I L i1) h
set_option maxRecDepth 100000 in
theorem ev_227_0 {dp : Nat} {e : EN} {I : JI} {L : JI} {i1 : Int} {P_ : (JI × JI) → Prop} (h : Ev (fun n => (if 8 ≤ (I 105 23) then (if 1 ≤ dp then ((kf_219 n (dp - 1) e 0 I L 0).bind (fun ⟨I0_15, L0_15⟩ => (if (I0_15 105 13) = 0 then (if -2147483648 ≤ (I0_15 105 23) + 1 ∧ (I0_15 105 23) + 1 ≤ 2147483647 then (stI (w2 I0_15 105 23 ((I0_15 105 23) + 1)) (fun I_32 => (if 1 ≤ dp then ((kf_225 n (dp - 1) e 0 I_32 L0_15 i1 0).bind (fun ⟨I1_38, L1_38⟩ => (some (I1_38, L1_38)))) else none))) else none) else (some (I0_15, L0_15))))) else none) else (if 1 ≤ dp then ((kf_219 n (dp - 1) e 0 I L 1).bind (fun ⟨I0_15, L0_15⟩ => (if (I0_15 105 13) = 0 then (if -2147483648 ≤ (I0_15 105 23) + 1 ∧ (I0_15 105 23) + 1 ≤ 2147483647 then (stI (w2 I0_15 105 23 ((I0_15 105 23) + 1)) (fun I_32 => (if 1 ≤ dp then ((kf_225 n (dp - 1) e 0 I_32 L0_15 i1 0).bind (fun ⟨I1_38, L1_38⟩ => (some (I1_38, L1_38)))) else none))) else none) else (some (I0_15, L0_15))))) else none))) P_) : Ev (fun n => kf_227 n dp e 0 I L i1) P_ := Ev_step (fun n => ke_227_0 n dp e I L i1) h
set_option maxRecDepth 100000 in
theorem ev_230_0 {dp : Nat} {e : EN} {I : JI} {L : JI} {i1 : Int} {i2 : Int} {i3 : Int} {P_ : (JI × JI) → Prop} (h : Ev (fun n => (if i1 = 0 then (if 1 ≤ dp then ((kf_219 n (dp - 1) e 0 I L 0).bind (fun ⟨I0_19, L0_19⟩ => (if (I0_19 105 13) = 0 then (if 1 ≤ dp then ((kf_231 n (dp - 1) e 0 I0_19 L0_19 i2 i3).bind (fun ⟨I1_32, L1_32⟩ => (if -2147483648 ≤ (I1_32 105 19) + 1 ∧ (I1_32 105 19) + 1 ≤ 2147483647 then (stI (w2 I1_32 105 19 ((I1_32 105 19) + 1)) (fun I_42 => (some (I_42, L1_32)))) else none))) else none) else (some (I0_19, L0_19))))) else none) else (if 50 ≤ (I 105 19) then (if 1 ≤ dp then ((kf_219 n (dp - 1) e 0 I L 0).bind (fun ⟨I0_19, L0_19⟩ => (if (I0_19 105 13) = 0 then (if 1 ≤ dp then ((kf_231 n (dp - 1) e 0 I0_19 L0_19 i2 i3).bind (fun ⟨I1_32, L1_32⟩ => (if -2147483648 ≤ (I1_32 105 19) + 1 ∧ (I1_32 105 19) + 1 ≤ 2147483647 then (stI (w2 I1_32 105 19 ((I1_32 105 19) + 1)) (fun I_42 => (some (I_42, L1_32)))) else none))) else none) else (some (I0_19, L0_19))))) else none) else (if 1 ≤ dp then ((kf_219 n (dp - 1) e 0 I L 1).bind (fun ⟨I0_19, L0_19⟩ => (if (I0_19 105 13) = 0 then (if 1 ≤ dp then ((kf_231 n (dp - 1) e 0 I0_19 L0_19 i2 i3).bind (fun ⟨I1_32, L1_32⟩ => (if -2147483648 ≤ (I1_32 105 19) + 1 ∧ (I1_32 105 19) + 1 ≤ 2147483647 then (stI (w2 I1_32 105 19 ((I1_32 105 19) + 1)) (fun I_42 => (some (I_42, L1_32)))) else none))) else none) else (some (I0_19, L0_19))))) else none)))) P_) : Ev (fun n => kf_230 n dp e 0 I L i1 i2 i3) P_ := Ev_step (fun n => ke_230_0 n dp e I L i1 i2 i3) h
set_option maxRecDepth 100000 in
theorem ev_229_1 {dp : Nat} {e : EN} {I : JI} {L : JI} {i1 : Int} {i2 : Int} {P_ : (Int × JI × JI) → Prop} (h : Ev (fun n => (if 5 ≤ i2 then (some ((i1 : Int), I, L)) else (if 0 ≤ i2 ∧ i2 < 5 then (if 1 ≤ dp then ((kf_218 n (dp - 1) e 0 I L (L 116 i2)).bind (fun ⟨x0_16, I0_16, L0_16⟩ => (if x0_16 = 0 then (if -2147483648 ≤ i2 + 1 ∧ i2 + 1 ≤ 2147483647 then (kf_229 n dp e 1 I0_16 L0_16 i1 (i2 + 1)) else none) else (if -2147483648 ≤ i2 + 1 ∧ i2 + 1 ≤ 2147483647 then (kf_229 n dp e 1 I0_16 L0_16 (i2 + 1) (i2 + 1)) else none)))) else none) else none))) P_) : Ev (fun n => kf_229 n dp e 1 I L i1 i2) P_ := Ev_step (fun n => ke_229_1 n dp e I L i1 i2) h
set_option maxRecDepth 100000 in
theorem ev_229_0 {dp : Nat} {e : EN} {I : JI} {L : JI} {i1 : Int} {i2 : Int} {P_ : (Int × JI × JI) → Prop} (h : Ev (fun n => (kf_229 n dp e 1 I L (-1) 0)) P_) : Ev (fun n => kf_229 n dp e 0 I L i1 i2) P_ := Ev_step (fun n => ke_229_0 n dp e I L i1 i2) h
set_option maxRecDepth 100000 in
theorem ev_61_0 {dp : Nat} {e : EN} {I : JI} {L : JI} {i1 : Int} {i2 : Int} {a0 : Nat} {P_ : (Int × JI × JI) → Prop} (h : Ev (fun n => (if (a0 < e.1) ∧ ((e.2.1 a0).1 = 10) then (if 1 ≤ dp then (stI (min 399 (I a0 12)) (fun v_10 => (if (a0 < e.1) ∧ ((e.2.1 a0).1 = 10) then ((e.2.2 a0 8).bind (fun b_12 => (if ((b_12 < e.1) ∧ (((e.2.1 b_12).1 = 13) ∧ ((e.2.1 b_12).2 < (2 ^ 31)))) ∧ (0 ≤ v_10 ∧ v_10 < (((e.2.1 b_12).2 : Nat) : Int)) then (stI (w2 I b_12 v_10 i1) (fun I_17 => (if (a0 < e.1) ∧ ((e.2.1 a0).1 = 10) then ((e.2.2 a0 9).bind (fun b_19 => (if ((b_19 < e.1) ∧ (((e.2.1 b_19).1 = 13) ∧ ((e.2.1 b_19).2 < (2 ^ 31)))) ∧ (0 ≤ v_10 ∧ v_10 < (((e.2.1 b_19).2 : Nat) : Int)) then (stI (w2 I_17 b_19 v_10 i2) (fun I_24 => (if (a0 < e.1) ∧ ((e.2.1 a0).1 = 10) then (if -2147483648 ≤ v_10 + 1 ∧ v_10 + 1 ≤ 2147483647 then (stI (w2 I_24 a0 12 (v_10 + 1)) (fun I_29 => (some ((v_10 : Int), I_29, L)))) else none) else none))) else none))) else none))) else none))) else none))) else none) else none)) P_) : Ev (fun n => kf_61 n dp e 0 I L i1 i2 a0) P_ := Ev_step (fun n => ke_61_0 n dp e I L i1 i2 a0) h
end
/-! PARSER 7: the reference's pile, what it must, its leaves; a step more of the class -/
def cs (K : JI) : CS := (K 112, K 113, K 105 16)
theorem w2_up (K : JI) (a : Nat) (k v : Int) : w2 K a k v a = up1 (K a) k v := by
  funext j
  rw [w2_ap]
  unfold up1
  simp only [true_and]
theorem Pl_at {O A : Int → Int} : ∀ (q : List (Int × Int)), Pl O A q → ∀ i : Nat, i < q.length → ∃ x, q.drop (q.length - i - 1) = x :: q.drop (q.length - i) ∧ O i = x.1 ∧ A i = x.2
  | [], _, i, hi => absurd hi (Nat.not_lt_zero _)
  | x :: q, p, i, hi => by
    obtain ⟨p1, p2, p3⟩ := p
    simp only [List.length_cons] at hi ⊢
    by_cases c : i = q.length
    · subst c
      refine ⟨x, ?_, p1, p2⟩
      have e1 : q.length + 1 - q.length - 1 = 0 := by omega
      have e2 : q.length + 1 - q.length = 1 := by omega
      rw [e1, e2]; rfl
    · obtain ⟨y, y1, y2⟩ := Pl_at q p3 i (by omega)
      refine ⟨y, ?_, y2⟩
      have e1 : q.length + 1 - i - 1 = (q.length - i - 1) + 1 := by omega
      have e2 : q.length + 1 - i = (q.length - i) + 1 := by omega
      rw [e1, e2]
      exact y1
section PL
variable {dp : Nat} {e : EN} {K L : JI} {β : Type} {T : β → Prop}
theorem K225 {o a : Int} (h : 0 ≤ K 105 22 ∧ K 105 22 < 400) : Ev (fun n => kf_225 n dp e 0 K L o a) (fun r => r = (w2 (w2 (w2 K 114 (K 105 22) o) 115 (K 105 22) a) 105 22 (K 105 22 + 1), L)) := by
  refine ev_225_0 ?_
  exact Ev_t h (Ev_st (Ev_t h (Ev_st (Ev_t (by show -2147483648 ≤ K 105 22 + 1 ∧ K 105 22 + 1 ≤ 2147483647; omega) (Ev_st (Ev_ret rfl))))))
theorem K231 {o a : Int} (h : 0 ≤ K 105 16 ∧ K 105 16 < 400) : Ev (fun n => kf_231 n dp e 0 K L o a) (fun r => r = (w2 (w2 (w2 K 112 (K 105 16) o) 113 (K 105 16) a) 105 16 (K 105 16 + 1), L)) := by
  refine ev_231_0 ?_
  exact Ev_t h (Ev_st (Ev_t h (Ev_st (Ev_t (by show -2147483648 ≤ K 105 16 + 1 ∧ K 105 16 + 1 ≤ 2147483647; omega) (Ev_st (Ev_ret rfl))))))
theorem K233 {o : Int} : Ev (fun n => kf_233 n dp e 0 K L o) (fun r => r = (bnd o, K, L)) := by
  refine ev_233_0 ?_
  have le : ∀ v : Int, bnd o = v → Ev (fun _ : Nat => some (v, K, L)) (fun r => r = (bnd o, K, L)) := fun v h => Ev_ret (by rw [h])
  refine Ev_c (fun c => ?_) (fun c => le 0 (by unfold bnd; (repeat' split) <;> omega))
  refine Ev_c (fun d => le 1 (by unfold bnd; (repeat' split) <;> omega)) (fun d => ?_)
  refine Ev_c (fun d => le 2 (by unfold bnd; (repeat' split) <;> omega)) (fun d => ?_)
  refine Ev_c (fun d => le 3 (by unfold bnd; (repeat' split) <;> omega)) (fun d => ?_)
  refine Ev_c (fun d => ?_) (fun d => le 4 (by unfold bnd; (repeat' split) <;> omega))
  exact Ev_c (fun d => le 5 (by unfold bnd; (repeat' split) <;> omega)) (fun d => le 6 (by unfold bnd; (repeat' split) <;> omega))
def ST (r q : List (Int × Int)) (K K' : JI) : Prop := K' 105 22 = q.length ∧ cs K' = em r (cs K) ∧ ∀ a i, ¬ (a = 105 ∧ (i = 16 ∨ i = 22)) → ¬ a = 112 → ¬ a = 113 → K' a i = K a i
theorem K234 {l : Int} (hd : 1 ≤ dp) : ∀ (r q : List (Int × Int)) (K : JI), K 105 22 = (r ++ q).length → Pl (K 114) (K 115) (r ++ q) → (∀ x ∈ r, l ≤ bnd x.1 ∧ 0 ≤ x.2 ∧ x.2 < 400) → (∀ x p, q = x :: p → bnd x.1 < l) → 0 ≤ K 105 16 → K 105 16 + (r ++ q).length ≤ 400 → Ev (fun n => kf_234 n dp e 0 K L l) (fun s => s.2 = L ∧ ST r q K s.1)
  | [], q, K, h1, h2, h3, h4, h5, h6 => by
    refine ev_234_0 ?_
    cases q with
    | nil => exact Ev_t (by rw [h1]; decide) (Ev_ret ⟨rfl, h1, rfl, fun _ _ _ _ _ => rfl⟩)
    | cons x p =>
      simp only [List.nil_append, List.length_cons] at h1 h2 h6
      obtain ⟨p1, p2, p3⟩ := h2
      have e1 : K 105 22 - 1 = (p.length : Int) := by omega
      refine Ev_f (by omega) (Ev_t (by omega) (Ev_t (by omega) (Ev_t hd ?_)))
      rw [e1, p1]
      refine Ev_call K233 ?_
      exact Ev_t (h4 x p rfl) (Ev_ret ⟨rfl, by simp only [List.length_cons]; omega, rfl, fun _ _ _ _ _ => rfl⟩)
  | x :: r, q, K, h1, h2, h3, h4, h5, h6 => by
    simp only [List.cons_append, List.length_cons] at h1 h2 h6
    obtain ⟨p1, p2, p3⟩ := h2
    have e1 : K 105 22 - 1 = ((r ++ q).length : Int) := by omega
    have x0 := h3 x (List.mem_cons_self ..)
    refine ev_234_0 ?_
    refine Ev_f (by omega) (Ev_t (by omega) (Ev_t (by omega) (Ev_t hd ?_)))
    rw [e1, p1]
    refine Ev_call K233 ?_
    refine Ev_f (by omega) (Ev_t (by omega) (Ev_st ?_))
    have pr : ∀ K2 : JI, K2 105 22 = ((r ++ q).length : Int) → (∀ i, K2 114 i = K 114 i ∧ K2 115 i = K 115 i) → 0 ≤ K2 105 16 → K2 105 16 ≤ K 105 16 + 1 → cs K2 = em1 x (cs K) → (∀ a i, ¬ (a = 105 ∧ (i = 16 ∨ i = 22)) → ¬ a = 112 → ¬ a = 113 → K2 a i = K a i) → Ev (fun n => kf_234 n dp e 0 K2 L l) (fun s => s.2 = L ∧ ST (x :: r) q K s.1) := by
      intro K2 a1 a2 a3 a4 a5 a6
      refine Ev_mono (K234 hd r q K2 a1 (Pl_congr _ (fun i _ _ => a2 i) p3) (fun y hy => h3 y (List.mem_cons_of_mem _ hy)) h4 a3 (by omega)) ?_
      rintro s ⟨b1, b2, b3, b4⟩
      refine ⟨b1, b2, ?_, fun a i g1 g2 g3 => (b4 a i g1 g2 g3).trans (a6 a i g1 g2 g3)⟩
      rw [b3, a5]; rfl
    have t22 : w2 K 105 22 ((r ++ q).length : Int) 105 22 = ((r ++ q).length : Int) := by rw [w2_ap, if_pos ⟨rfl, rfl⟩]
    have t16 : ∀ v, w2 K 105 22 v 105 16 = K 105 16 := fun v => rfl
    have t114 : ∀ v i, w2 K 105 22 v 114 i = K 114 i := fun v i => rfl
    have t115 : ∀ v i, w2 K 105 22 v 115 i = K 115 i := fun v i => rfl
    rw [e1]
    simp only [t22, t114, p1]
    have one : x.1 = 28 ∨ x.1 = 29 → Ev (fun n => kf_234 n dp e 1 (w2 K 105 22 ((r ++ q).length : Int)) L l) (fun s => s.2 = L ∧ ST (x :: r) q K s.1) := by
      intro hx
      refine ev_234_1 ?_
      simp only [t22, t115, t16, p2]
      refine Ev_t (by omega) (Ev_t (by omega) (Ev_st ?_))
      refine pr _ t22 (fun i => ⟨rfl, rfl⟩) (by show 0 ≤ K 105 16; omega) (by show K 105 16 ≤ K 105 16 + 1; omega) ?_ (fun a i g1 g2 g3 => ?_)
      · unfold cs em1
        rw [if_pos hx, w2_up]
        rfl
      · simp (disch := omega) only [w2_n]
    refine Ev_t (by omega) (Ev_c (fun c => one (Or.inl c)) (fun c => Ev_t (by omega) (Ev_c (fun d => one (Or.inr d)) (fun d => Ev_t (by omega) (Ev_t hd ?_)))))
    refine Ev_call (K231 (by show 0 ≤ K 105 16 ∧ K 105 16 < 400; omega)) ?_
    refine pr _ t22 (fun i => ⟨rfl, rfl⟩) (by show 0 ≤ K 105 16 + 1; omega) (by show K 105 16 + 1 ≤ K 105 16 + 1; omega) ?_ (fun a i g1 g2 g3 => ?_)
    · unfold cs em1
      rw [if_neg (by omega)]
      have u1 : ∀ (X : JI) (m k v : Int) , w2 (w2 (w2 X 112 m k) 113 m v) 105 16 (m + 1) 112 = up1 (X 112) m k := fun X m k v => by
        rw [← w2_up]; rfl
      have u2 : ∀ (X : JI) (m k v : Int) , w2 (w2 (w2 X 112 m k) 113 m v) 105 16 (m + 1) 113 = up1 (X 113) m v := fun X m k v => by
        funext j
        show w2 (w2 X 112 m k) 113 m v 113 j = _
        rw [w2_up]; rfl
      dsimp only
      rw [u1, u2]
      rfl
    · simp (disch := omega) only [w2_n]
theorem K235 {q : List (Int × Int)} {x y : Int} (h1 : K 105 22 = q.length) (h2 : Pl (K 114) (K 115) q) (h3 : q.length ≤ 400) : Ev (fun n => kf_235 n dp e 0 K L x y) (fun r => r = (inn q, K, L)) := by
  refine ev_235_0 ?_
  have key : ∀ i : Nat, i ≤ q.length → Ev (fun n => kf_235 n dp e 1 K L (inn (q.drop (q.length - i))) i) (fun r => r = (inn q, K, L)) := by
    refine dec_ind _ (fun i hi ih => ?_)
    refine ev_235_1 ?_
    by_cases c : i < q.length
    · obtain ⟨z, z1, z2, z3⟩ := Pl_at q h2 i c
      have ih := ih c
      have e1 : q.length - (i + 1) = q.length - i - 1 := by omega
      rw [e1, z1] at ih
      refine Ev_f (by omega) (Ev_t (by omega) ?_)
      rw [z2]
      refine Ev_c (fun d => Ev_t (by omega) ?_) (fun d => Ev_t (by omega) (Ev_st (Ev_t (by omega) ?_)))
      · rw [inn, if_neg (by omega)] at ih; exact ih
      · rw [inn, if_pos (by omega)] at ih; exact ih
    · have : i = q.length := by omega
      subst this
      refine Ev_t (by omega) (Ev_ret ?_)
      rw [Nat.sub_self, List.drop_zero]
  have := key 0 (by omega)
  rw [Nat.sub_zero, List.drop_length] at this
  exact this
theorem K236 {q : List (Int × Int)} {x : Int} (hd : 1 ≤ dp) (h1 : K 105 22 = q.length) (h2 : Pl (K 114) (K 115) q) (h3 : q.length ≤ 400) : Ev (fun n => kf_236 n dp e 0 K L x) (fun r => r = (icp q, K, L)) := by
  refine ev_236_0 ?_
  refine Ev_t (by omega) (Ev_st ?_)
  rw [h1]
  have key : ∀ q : List (Int × Int), Pl (K 114) (K 115) q → q.length ≤ 400 → Ev (fun n => kf_236 n dp e 1 K L ((q.length : Int) - 1)) (fun r => r = (icp q, K, L)) := by
    intro q
    induction q with
    | nil =>
      intro _ _
      refine ev_236_1 ?_
      refine Ev_t (by decide) ?_
      refine ev_236_2 ?_
      exact Ev_t (by decide) (Ev_ret rfl)
    | cons z q ih =>
      intro p hl
      obtain ⟨p1, p2, p3⟩ := p
      simp only [List.length_cons] at hl
      have e1 : (((z :: q).length : Nat) : Int) - 1 = (q.length : Int) := by simp only [List.length_cons]; omega
      rw [e1]
      refine ev_236_1 ?_
      refine Ev_f (by omega) (Ev_t (by omega) (Ev_t hd ?_))
      rw [p1, icp]
      refine Ev193 (fun c => ?_) (fun c => ?_)
      · rw [if_pos c]
        refine Ev_f (by decide) (Ev_t (by omega) ?_)
        exact ih p3 (by omega)
      · rw [if_neg c]
        refine Ev_t rfl ?_
        refine ev_236_2 ?_
        refine Ev_f (by omega) (Ev_t (by omega) (Ev_t hd ?_))
        rw [p1]
        exact Ev193 (fun d => Ev_f (by decide) (Ev_ret (by rw [if_pos d]))) (fun d => Ev_t rfl (Ev_ret (by rw [if_neg d])))
  exact key q h2 h3
theorem K219t {x : Int} (hd : 2 ≤ dp) (hb : K 105 13 = 0) (hx : ¬ x = 0) (h : 0 ≤ K 105 9 ∧ K 105 9 ≤ K 105 7 ∧ K 105 7 ≤ 400) : Ev (fun n => kf_219 n dp e 0 K L x) (fun r => NX K L r.1 r.2) := by
  refine ev_219_0 ?_
  refine Ev_t hb (Ev_f hx ?_)
  refine ev_219_1 ?_
  refine Ev_t hb (Ev_t (by omega) (Ev_bind (K214 (by omega) h) (fun r hr => Ev_ret hr)))
theorem K219f {x : Int} (hb : K 105 13 = 0) (hx : x = 0) : Ev (fun n => kf_219 n dp e 0 K L x) (fun r => r = (w2 (w2 K 105 13 1) 105 12 (K 105 8), L)) := by
  refine ev_219_0 ?_
  refine Ev_t hb (Ev_t hx (Ev_st (Ev_st ?_)))
  refine ev_219_1 ?_
  exact Ev_f (by show ¬ ((1 : Int) = 0); decide) (Ev_ret rfl)
theorem NX_o {K1 L1 : JI} (h : NX K L K1 L1) : (∀ a i, ¬ (a = 105 ∧ 8 ≤ i ∧ i ≤ 10) → K1 a i = K a i) ∧ ∀ a i, ¬ (a = 105 ∧ i = 11) → L1 a i = L a i := by
  obtain ⟨f, t, kd, h1, h2, h3, h4, h5, h6, h7, h8, h9⟩ := h
  exact ⟨h8, h9⟩
theorem K227t {o : Int} (hd : 3 ≤ dp) (hb : K 105 13 = 0) (h8 : 0 ≤ K 105 23 ∧ K 105 23 < 8) (hp : 0 ≤ K 105 22 ∧ K 105 22 < 400) (h : 0 ≤ K 105 9 ∧ K 105 9 ≤ K 105 7 ∧ K 105 7 ≤ 400) : Ev (fun n => kf_227 n dp e 0 K L o) (fun r => ∃ K1, NX K L K1 r.2 ∧ r.1 = w2 (w2 (w2 (w2 K1 105 23 (K 105 23 + 1)) 114 (K 105 22) o) 115 (K 105 22) 0) 105 22 (K 105 22 + 1)) := by
  refine ev_227_0 ?_
  refine Ev_f (by omega) (Ev_t (by omega) (Ev_bind (K219t (by omega) hb (by decide) h) (fun r hr => ?_)))
  have o := (NX_o hr).1
  have o13 := o 105 13 (by omega)
  have o22 := o 105 22 (by omega)
  have o23 := o 105 23 (by omega)
  refine Ev_t (by omega) (Ev_t (by omega) (Ev_st (Ev_t (by omega) (Ev_call (K225 (by show 0 ≤ r.1 105 22 ∧ r.1 105 22 < 400; omega)) (Ev_ret ⟨r.1, hr, by rw [← o22, ← o23]; rfl⟩)))))
theorem K227f {o : Int} (hd : 1 ≤ dp) (hb : K 105 13 = 0) (h8 : 8 ≤ K 105 23) : Ev (fun n => kf_227 n dp e 0 K L o) (fun r => r = (w2 (w2 K 105 13 1) 105 12 (K 105 8), L)) := by
  refine ev_227_0 ?_
  refine Ev_t (by omega) (Ev_t (by omega) (Ev_call (K219f hb rfl) ?_))
  exact Ev_f (by show ¬ ((1 : Int) = 0); decide) (Ev_ret rfl)
theorem K230t {x o v : Int} (hd : 3 ≤ dp) (hb : K 105 13 = 0) (hx : ¬ x = 0) (h5 : 0 ≤ K 105 19 ∧ K 105 19 < 50) (hp : 0 ≤ K 105 16 ∧ K 105 16 < 400) (h : 0 ≤ K 105 9 ∧ K 105 9 ≤ K 105 7 ∧ K 105 7 ≤ 400) : Ev (fun n => kf_230 n dp e 0 K L x o v) (fun r => ∃ K1, NX K L K1 r.2 ∧ r.1 = w2 (w2 (w2 (w2 K1 112 (K 105 16) o) 113 (K 105 16) v) 105 16 (K 105 16 + 1)) 105 19 (K 105 19 + 1)) := by
  refine ev_230_0 ?_
  refine Ev_f hx (Ev_f (by omega) (Ev_t (by omega) (Ev_bind (K219t (by omega) hb (by decide) h) (fun r hr => ?_))))
  have o := (NX_o hr).1
  have o13 := o 105 13 (by omega)
  have o16 := o 105 16 (by omega)
  have o19 := o 105 19 (by omega)
  refine Ev_t (by omega) (Ev_t (by omega) (Ev_call (K231 (by omega)) (Ev_t (by show -2147483648 ≤ r.1 105 19 + 1 ∧ r.1 105 19 + 1 ≤ 2147483647; omega) (Ev_st (Ev_ret ⟨r.1, hr, by rw [← o16, ← o19]; rfl⟩)))))
theorem K230f {x o v : Int} (hd : 1 ≤ dp) (hb : K 105 13 = 0) (hx : x = 0 ∨ 50 ≤ K 105 19) : Ev (fun n => kf_230 n dp e 0 K L x o v) (fun r => r = (w2 (w2 K 105 13 1) 105 12 (K 105 8), L)) := by
  refine ev_230_0 ?_
  refine Ev_c (fun c => Ev_t (by omega) (Ev_call (K219f hb rfl) ?_)) (fun c => Ev_t (by omega) (Ev_t (by omega) (Ev_call (K219f hb rfl) ?_)))
  · exact Ev_f (by show ¬ ((1 : Int) = 0); decide) (Ev_ret rfl)
  · exact Ev_f (by show ¬ ((1 : Int) = 0); decide) (Ev_ret rfl)
theorem Ev229 {x y : Int} {k : Nat → Int × JI × JI → Option β} (hd : 1 ≤ dp) (hw : ∀ i : Nat, i < 5 → L 116 i = cws.getD (4 + i) 0) (ht : ∀ i : Nat, i < 5 → K 105 10 = 1 → L 105 11 = cws.getD (4 + i) 0 → Ev (fun n => k n ((i : Int) + 1, K, L)) T) (hf : (∀ i : Nat, i < 5 → ¬ (K 105 10 = 1 ∧ L 105 11 = cws.getD (4 + i) 0)) → Ev (fun n => k n (-1, K, L)) T) : Ev (fun n => (kf_229 n dp e 0 K L x y).bind (k n)) T := by
  have w0 : L 116 0 = 3540595 := hw 0 (by decide)
  have w1 : L 116 1 = 525908 := hw 1 (by decide)
  have w2 : L 116 2 = 23609 := hw 2 (by decide)
  have w3 : L 116 3 = 4153 := hw 3 (by decide)
  have w4 : L 116 4 = 777297172 := hw 4 (by decide)
  have st : ∀ (a i : Int) (P : Int × JI × JI → Prop), 0 ≤ i → i < 5 → (K 105 10 = 1 ∧ L 105 11 = L 116 i → Ev (fun n => kf_229 n dp e 1 K L (i + 1) (i + 1)) P) → (¬ (K 105 10 = 1 ∧ L 105 11 = L 116 i) → Ev (fun n => kf_229 n dp e 1 K L a (i + 1)) P) → Ev (fun n => kf_229 n dp e 1 K L a i) P := by
    intro a i P h0 h5 g1 g2
    refine ev_229_1 ?_
    refine Ev_f (by omega) (Ev_t (by omega) (Ev_t hd ?_))
    exact Ev218 (fun c => Ev_f (by decide) (Ev_t (by omega) (g1 c))) (fun c => Ev_t rfl (Ev_t (by omega) (g2 c)))
  have en : ∀ (a : Int) (P : Int × JI × JI → Prop), P (a, K, L) → Ev (fun n => kf_229 n dp e 1 K L a 5) P := by
    intro a P h
    refine ev_229_1 ?_
    exact Ev_t (by decide) (Ev_ret h)
  by_cases c : ∃ i : Nat, i < 5 ∧ K 105 10 = 1 ∧ L 105 11 = cws.getD (4 + i) 0
  · obtain ⟨i, i1, i2, i3⟩ := c
    refine Ev_call (v := ((i : Int) + 1, K, L)) ?_ (ht i i1 i2 i3)
    refine ev_229_0 ?_
    have i4 : i = 0 ∨ i = 1 ∨ i = 2 ∨ i = 3 ∨ i = 4 := by omega
    rcases i4 with rfl | rfl | rfl | rfl | rfl
    all_goals simp only [cws, List.getD_cons_succ, List.getD_cons_zero, Nat.reduceAdd] at i3
    all_goals
      refine st _ 0 _ (by decide) (by decide) (fun c => ?_) (fun c => ?_)
      all_goals refine st _ 1 _ (by decide) (by decide) (fun c => ?_) (fun c => ?_)
      all_goals refine st _ 2 _ (by decide) (by decide) (fun c => ?_) (fun c => ?_)
      all_goals refine st _ 3 _ (by decide) (by decide) (fun c => ?_) (fun c => ?_)
      all_goals refine st _ 4 _ (by decide) (by decide) (fun c => ?_) (fun c => ?_)
      all_goals first | (exfalso; omega) | exact en _ _ rfl
  · have c : ∀ i : Nat, i < 5 → ¬ (K 105 10 = 1 ∧ L 105 11 = cws.getD (4 + i) 0) := fun i hi q => c ⟨i, hi, q⟩
    refine Ev_call (v := (-1, K, L)) ?_ (hf c)
    refine ev_229_0 ?_
    refine st _ 0 _ (by decide) (by decide) (fun q => absurd q (by rw [w0]; exact c 0 (by decide))) (fun _ => ?_)
    refine st _ 1 _ (by decide) (by decide) (fun q => absurd q (by rw [w1]; exact c 1 (by decide))) (fun _ => ?_)
    refine st _ 2 _ (by decide) (by decide) (fun q => absurd q (by rw [w2]; exact c 2 (by decide))) (fun _ => ?_)
    refine st _ 3 _ (by decide) (by decide) (fun q => absurd q (by rw [w3]; exact c 3 (by decide))) (fun _ => ?_)
    refine st _ 4 _ (by decide) (by decide) (fun q => absurd q (by rw [w4]; exact c 4 (by decide))) (fun _ => ?_)
    exact en _ _ rfl
/-- a step more -/
theorem K61 {tr : Nat} {o x : Int} {J M : JI} (hT : TrO e tr) (hd : 1 ≤ dp) (h : 0 ≤ J tr 12 ∧ J tr 12 < 400) : Ev (fun n => kf_61 n dp e 0 J M o x tr) (fun r => r = (J tr 12, w2 (w2 (w2 J (tr + 9) (J tr 12) o) (tr + 10) (J tr 12) x) tr 12 (J tr 12 + 1), M)) := by
  obtain ⟨t0, t1, t2, t3, t4, t5, t6, t7, t8, t9, t10⟩ := hT
  refine ev_61_0 ?_
  have em : min 399 (J tr 12) = J tr 12 := by omega
  rw [em]
  refine Ev_t t0 (Ev_t hd (Ev_st (Ev_t t0 (Ev_R t9.1 (Ev_t ⟨⟨t9.2.1, t9.2.2.1, by rw [t9.2.2.2]; decide⟩, by rw [t9.2.2.2]; omega⟩ (Ev_st (Ev_t t0 (Ev_R t10.1 (Ev_t ⟨⟨t10.2.1, t10.2.2.1, by rw [t10.2.2.2]; decide⟩, by rw [t10.2.2.2]; omega⟩ (Ev_st (Ev_t t0 (Ev_t (by omega) (Ev_st (Ev_ret rfl))))))))))))))
end PL
