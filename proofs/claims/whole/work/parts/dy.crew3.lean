section
set_option maxRecDepth 100000 in
theorem ev_284_2 {dp : Nat} {e : EN} {I : JI} {L : JI} {i1 : Int} {i2 : Int} {i3 : Int} {i4 : Int} {i5 : Int} {i6 : Int} {P_ : (Int × JI × JI) → Prop} (h : Ev (fun n => (if i3 ≤ i4 then (if 0 ≤ i3 ∧ i3 < 110 then (some (((I 124 i3) : Int), I, L)) else none) else (if (-2147483648 ≤ 640 * i1 ∧ 640 * i1 ≤ 2147483647) ∧ (-2147483648 ≤ 10 * i2 ∧ 10 * i2 ≤ 2147483647) ∧ (-2147483648 ≤ (640 * i1) + (10 * i2) ∧ (640 * i1) + (10 * i2) ≤ 2147483647) ∧ (-2147483648 ≤ ((640 * i1) + (10 * i2)) + i4 ∧ ((640 * i1) + (10 * i2)) + i4 ≤ 2147483647) then (if 0 ≤ (((640 * i1) + (10 * i2)) + i4) ∧ (((640 * i1) + (10 * i2)) + i4) < 1920 then (stI (I 121 (((640 * i1) + (10 * i2)) + i4)) (fun v_60 => (if -2147483648 ≤ i4 + 1 ∧ i4 + 1 ≤ 2147483647 then (kf_284 n dp e 3 I L i1 i2 i3 i4 v_60 (i4 + 1)) else none))) else none) else none))) P_) : Ev (fun n => kf_284 n dp e 2 I L i1 i2 i3 i4 i5 i6) P_ := Ev_step (fun n => ke_284_2 n dp e I L i1 i2 i3 i4 i5 i6) h
set_option maxRecDepth 100000 in
theorem ev_284_4 {dp : Nat} {e : EN} {I : JI} {L : JI} {i1 : Int} {i2 : Int} {i3 : Int} {i4 : Int} {i5 : Int} {i6 : Int} {P_ : (Int × JI × JI) → Prop} (h : Ev (fun n => (if -2147483648 ≤ i4 + 1 ∧ i4 + 1 ≤ 2147483647 then (kf_284 n dp e 2 I L i1 i2 i3 (i4 + 1) 0 0) else none)) P_) : Ev (fun n => kf_284 n dp e 4 I L i1 i2 i3 i4 i5 i6) P_ := Ev_step (fun n => ke_284_4 n dp e I L i1 i2 i3 i4 i5 i6) h
set_option maxRecDepth 100000 in
theorem ev_284_3 {dp : Nat} {e : EN} {I : JI} {L : JI} {i1 : Int} {i2 : Int} {i3 : Int} {i4 : Int} {i5 : Int} {i6 : Int} {P_ : (Int × JI × JI) → Prop} (h : Ev (fun n => (if 10 ≤ i6 then (kf_284 n dp e 4 I L i1 i2 i3 i4 i5 i6) else (if i5 = (-1) then (kf_284 n dp e 4 I L i1 i2 i3 i4 i5 i6) else (if 0 ≤ i6 ∧ i6 < 110 then (if 0 ≤ i4 ∧ i4 < 110 then (if 1 ≤ dp then ((kf_241 n (dp - 1) e 0 I L i5 i6).bind (fun ⟨x0_101, I0_101, L0_101⟩ => (if 0 ≤ i6 ∧ i6 < 110 then (if (-2147483648 ≤ (I 124 i4) * x0_101 ∧ (I 124 i4) * x0_101 ≤ 2147483647) ∧ (-2147483648 ≤ (I 124 i6) + ((I 124 i4) * x0_101) ∧ (I 124 i6) + ((I 124 i4) * x0_101) ≤ 2147483647) then (stI (w2 I0_101 124 i6 ((I 124 i6) + ((I 124 i4) * x0_101))) (fun I_106 => (if -2147483648 ≤ i6 + 1 ∧ i6 + 1 ≤ 2147483647 then (kf_284 n dp e 3 I_106 L0_101 i1 i2 i3 i4 i5 (i6 + 1)) else none))) else none) else none))) else none) else none) else none)))) P_) : Ev (fun n => kf_284 n dp e 3 I L i1 i2 i3 i4 i5 i6) P_ := Ev_step (fun n => ke_284_3 n dp e I L i1 i2 i3 i4 i5 i6) h
set_option maxRecDepth 100000 in
theorem ev_284_1 {dp : Nat} {e : EN} {I : JI} {L : JI} {i1 : Int} {i2 : Int} {i3 : Int} {i4 : Int} {i5 : Int} {i6 : Int} {P_ : (Int × JI × JI) → Prop} (h : Ev (fun n => (if 10 ≤ i4 then (kf_284 n dp e 2 I L i1 i2 i3 0 0 0) else (if i4 = 0 then (if 0 ≤ i4 ∧ i4 < 110 then (stI (w2 I 124 i4 1) (fun I_26 => (if -2147483648 ≤ i4 + 1 ∧ i4 + 1 ≤ 2147483647 then (kf_284 n dp e 1 I_26 L i1 i2 i3 (i4 + 1) 0 0) else none))) else none) else (if 0 ≤ i4 ∧ i4 < 110 then (stI (w2 I 124 i4 0) (fun I_26 => (if -2147483648 ≤ i4 + 1 ∧ i4 + 1 ≤ 2147483647 then (kf_284 n dp e 1 I_26 L i1 i2 i3 (i4 + 1) 0 0) else none))) else none)))) P_) : Ev (fun n => kf_284 n dp e 1 I L i1 i2 i3 i4 i5 i6) P_ := Ev_step (fun n => ke_284_1 n dp e I L i1 i2 i3 i4 i5 i6) h
set_option maxRecDepth 100000 in
theorem ev_284_0 {dp : Nat} {e : EN} {I : JI} {L : JI} {i1 : Int} {i2 : Int} {i3 : Int} {i4 : Int} {i5 : Int} {i6 : Int} {P_ : (Int × JI × JI) → Prop} (h : Ev (fun n => (kf_284 n dp e 1 I L i1 i2 i3 0 0 0)) P_) : Ev (fun n => kf_284 n dp e 0 I L i1 i2 i3 i4 i5 i6) P_ := Ev_step (fun n => ke_284_0 n dp e I L i1 i2 i3 i4 i5 i6) h
set_option maxRecDepth 100000 in
theorem ev_283_1 {dp : Nat} {e : EN} {I : JI} {L : JI} {i1 : Int} {i2 : Int} {i3 : Int} {P_ : (JI × JI) → Prop} (h : Ev (fun n => (if 16 ≤ i1 then (some (I, L)) else (if 0 ≤ i1 ∧ i1 < 16 then (stI (w2 I 136 i1 0) (fun I_19 => (if 0 ≤ i1 ∧ i1 < 16 then (stI (w2 I_19 138 i1 0) (fun I_26 => (kf_283 n dp e 2 I_26 L i1 0 0))) else none))) else none))) P_) : Ev (fun n => kf_283 n dp e 1 I L i1 i2 i3) P_ := Ev_step (fun n => ke_283_1 n dp e I L i1 i2 i3) h
set_option maxRecDepth 100000 in
theorem ev_283_4 {dp : Nat} {e : EN} {I : JI} {L : JI} {i1 : Int} {i2 : Int} {i3 : Int} {P_ : (JI × JI) → Prop} (h : Ev (fun n => (if -2147483648 ≤ i1 + 1 ∧ i1 + 1 ≤ 2147483647 then (kf_283 n dp e 1 I L (i1 + 1) 0 0) else none)) P_) : Ev (fun n => kf_283 n dp e 4 I L i1 i2 i3) P_ := Ev_step (fun n => ke_283_4 n dp e I L i1 i2 i3) h
set_option maxRecDepth 100000 in
theorem ev_283_2 {dp : Nat} {e : EN} {I : JI} {L : JI} {i1 : Int} {i2 : Int} {i3 : Int} {P_ : (JI × JI) → Prop} (h : Ev (fun n => (if 1 ≤ dp then ((kf_198 n (dp - 1) e 0 I L).bind (fun ⟨x0_31, I0_31, L0_31⟩ => (if x0_31 ≤ i2 then (kf_283 n dp e 4 I0_31 L0_31 i1 i2 0) else (if (I0_31 107 9) ≤ i1 then (kf_283 n dp e 4 I0_31 L0_31 i1 i2 0) else (if 1 ≤ dp then ((kf_280 n (dp - 1) e 0 I0_31 L0_31 i2).bind (fun ⟨x1_50, I1_50, L1_50⟩ => (if 0 ≤ i2 ∧ i2 < 8 then (if 1 ≤ dp then ((kf_240 n (dp - 1) e 0 I1_50 L1_50 i1).bind (fun ⟨x2_75, I2_75, L2_75⟩ => (if (-2147483648 ≤ 640 * x1_50 ∧ 640 * x1_50 ≤ 2147483647) ∧ (-2147483648 ≤ 10 * (I1_50 134 i2) ∧ 10 * (I1_50 134 i2) ≤ 2147483647) ∧ (-2147483648 ≤ (640 * x1_50) + (10 * (I1_50 134 i2)) ∧ (640 * x1_50) + (10 * (I1_50 134 i2)) ≤ 2147483647) ∧ (-2147483648 ≤ ((640 * x1_50) + (10 * (I1_50 134 i2))) + x2_75 ∧ ((640 * x1_50) + (10 * (I1_50 134 i2))) + x2_75 ≤ 2147483647) then (if 0 ≤ (((640 * x1_50) + (10 * (I1_50 134 i2))) + x2_75) ∧ (((640 * x1_50) + (10 * (I1_50 134 i2))) + x2_75) < 1920 then (if (I2_75 121 (((640 * x1_50) + (10 * (I1_50 134 i2))) + x2_75)) = i1 then (if 0 ≤ i1 ∧ i1 < 16 then (if (I2_75 138 i1) = 0 then (if 1 ≤ dp then ((kf_251 n (dp - 1) e 0 I2_75 L2_75 i1 x1_50).bind (fun ⟨x3_110, I3_110, L3_110⟩ => (if 0 ≤ i1 ∧ i1 < 16 then (stI (w2 I3_110 137 i1 x3_110) (fun I_113 => (if 0 ≤ i1 ∧ i1 < 16 then (if (I_113 138 i1) = 0 then (if -2147483648 ≤ (I_113 105 60) + 1 ∧ (I_113 105 60) + 1 ≤ 2147483647 then (stI (w2 I_113 105 60 ((I_113 105 60) + 1)) (fun I_134 => (if 0 ≤ i1 ∧ i1 < 16 then (stI (w2 I_134 138 i1 1) (fun I_143 => (if 0 ≤ i1 ∧ i1 < 16 then (if 0 ≤ i2 ∧ i2 < 8 then (if 1 ≤ dp then ((kf_240 n (dp - 1) e 0 I_143 L3_110 i1).bind (fun ⟨x4_161, I4_161, L4_161⟩ => (if 1 ≤ dp then ((kf_284 n (dp - 1) e 0 I4_161 L4_161 x1_50 (I_143 134 i2) x4_161 0 0 0).bind (fun ⟨x5_164, I5_164, L5_164⟩ => (if 1 ≤ dp then ((kf_250 n (dp - 1) e 0 I5_164 L5_164 i1 x1_50).bind (fun ⟨x6_170, I6_170, L6_170⟩ => (if 0 ≤ i1 ∧ i1 < 16 then (if (-2147483648 ≤ x5_164 * x6_170 ∧ x5_164 * x6_170 ≤ 2147483647) ∧ (-2147483648 ≤ (I_143 136 i1) + (x5_164 * x6_170) ∧ (I_143 136 i1) + (x5_164 * x6_170) ≤ 2147483647) then (stI (w2 I6_170 136 i1 ((I_143 136 i1) + (x5_164 * x6_170))) (fun I_175 => (kf_283 n dp e 3 I_175 L6_170 i1 i2 x1_50))) else none) else none))) else none))) else none))) else none) else none) else none))) else none))) else none) else (if -2147483648 ≤ (I_113 105 60) + 0 ∧ (I_113 105 60) + 0 ≤ 2147483647 then (stI (w2 I_113 105 60 ((I_113 105 60) + 0)) (fun I_134 => (if 0 ≤ i1 ∧ i1 < 16 then (stI (w2 I_134 138 i1 1) (fun I_143 => (if 0 ≤ i1 ∧ i1 < 16 then (if 0 ≤ i2 ∧ i2 < 8 then (if 1 ≤ dp then ((kf_240 n (dp - 1) e 0 I_143 L3_110 i1).bind (fun ⟨x4_161, I4_161, L4_161⟩ => (if 1 ≤ dp then ((kf_284 n (dp - 1) e 0 I4_161 L4_161 x1_50 (I_143 134 i2) x4_161 0 0 0).bind (fun ⟨x5_164, I5_164, L5_164⟩ => (if 1 ≤ dp then ((kf_250 n (dp - 1) e 0 I5_164 L5_164 i1 x1_50).bind (fun ⟨x6_170, I6_170, L6_170⟩ => (if 0 ≤ i1 ∧ i1 < 16 then (if (-2147483648 ≤ x5_164 * x6_170 ∧ x5_164 * x6_170 ≤ 2147483647) ∧ (-2147483648 ≤ (I_143 136 i1) + (x5_164 * x6_170) ∧ (I_143 136 i1) + (x5_164 * x6_170) ≤ 2147483647) then (stI (w2 I6_170 136 i1 ((I_143 136 i1) + (x5_164 * x6_170))) (fun I_175 => (kf_283 n dp e 3 I_175 L6_170 i1 i2 x1_50))) else none) else none))) else none))) else none))) else none) else none) else none))) else none))) else none)) else none))) else none))) else none) else (if 0 ≤ i1 ∧ i1 < 16 then (if 0 ≤ i1 ∧ i1 < 16 then (stI (w2 I2_75 137 i1 (I2_75 137 i1)) (fun I_113 => (if 0 ≤ i1 ∧ i1 < 16 then (if (I_113 138 i1) = 0 then (if -2147483648 ≤ (I_113 105 60) + 1 ∧ (I_113 105 60) + 1 ≤ 2147483647 then (stI (w2 I_113 105 60 ((I_113 105 60) + 1)) (fun I_134 => (if 0 ≤ i1 ∧ i1 < 16 then (stI (w2 I_134 138 i1 1) (fun I_143 => (if 0 ≤ i1 ∧ i1 < 16 then (if 0 ≤ i2 ∧ i2 < 8 then (if 1 ≤ dp then ((kf_240 n (dp - 1) e 0 I_143 L2_75 i1).bind (fun ⟨x3_161, I3_161, L3_161⟩ => (if 1 ≤ dp then ((kf_284 n (dp - 1) e 0 I3_161 L3_161 x1_50 (I_143 134 i2) x3_161 0 0 0).bind (fun ⟨x4_164, I4_164, L4_164⟩ => (if 1 ≤ dp then ((kf_250 n (dp - 1) e 0 I4_164 L4_164 i1 x1_50).bind (fun ⟨x5_170, I5_170, L5_170⟩ => (if 0 ≤ i1 ∧ i1 < 16 then (if (-2147483648 ≤ x4_164 * x5_170 ∧ x4_164 * x5_170 ≤ 2147483647) ∧ (-2147483648 ≤ (I_143 136 i1) + (x4_164 * x5_170) ∧ (I_143 136 i1) + (x4_164 * x5_170) ≤ 2147483647) then (stI (w2 I5_170 136 i1 ((I_143 136 i1) + (x4_164 * x5_170))) (fun I_175 => (kf_283 n dp e 3 I_175 L5_170 i1 i2 x1_50))) else none) else none))) else none))) else none))) else none) else none) else none))) else none))) else none) else (if -2147483648 ≤ (I_113 105 60) + 0 ∧ (I_113 105 60) + 0 ≤ 2147483647 then (stI (w2 I_113 105 60 ((I_113 105 60) + 0)) (fun I_134 => (if 0 ≤ i1 ∧ i1 < 16 then (stI (w2 I_134 138 i1 1) (fun I_143 => (if 0 ≤ i1 ∧ i1 < 16 then (if 0 ≤ i2 ∧ i2 < 8 then (if 1 ≤ dp then ((kf_240 n (dp - 1) e 0 I_143 L2_75 i1).bind (fun ⟨x3_161, I3_161, L3_161⟩ => (if 1 ≤ dp then ((kf_284 n (dp - 1) e 0 I3_161 L3_161 x1_50 (I_143 134 i2) x3_161 0 0 0).bind (fun ⟨x4_164, I4_164, L4_164⟩ => (if 1 ≤ dp then ((kf_250 n (dp - 1) e 0 I4_164 L4_164 i1 x1_50).bind (fun ⟨x5_170, I5_170, L5_170⟩ => (if 0 ≤ i1 ∧ i1 < 16 then (if (-2147483648 ≤ x4_164 * x5_170 ∧ x4_164 * x5_170 ≤ 2147483647) ∧ (-2147483648 ≤ (I_143 136 i1) + (x4_164 * x5_170) ∧ (I_143 136 i1) + (x4_164 * x5_170) ≤ 2147483647) then (stI (w2 I5_170 136 i1 ((I_143 136 i1) + (x4_164 * x5_170))) (fun I_175 => (kf_283 n dp e 3 I_175 L5_170 i1 i2 x1_50))) else none) else none))) else none))) else none))) else none) else none) else none))) else none))) else none)) else none))) else none) else none)) else none) else (kf_283 n dp e 3 I2_75 L2_75 i1 i2 x1_50)) else none) else none))) else none) else none))) else none))))) else none)) P_) : Ev (fun n => kf_283 n dp e 2 I L i1 i2 i3) P_ := Ev_step (fun n => ke_283_2 n dp e I L i1 i2 i3) h
set_option maxRecDepth 100000 in
theorem ev_283_3 {dp : Nat} {e : EN} {I : JI} {L : JI} {i1 : Int} {i2 : Int} {i3 : Int} {P_ : (JI × JI) → Prop} (h : Ev (fun n => (if -2147483648 ≤ i2 + 1 ∧ i2 + 1 ≤ 2147483647 then (kf_283 n dp e 2 I L i1 (i2 + 1) 0) else none)) P_) : Ev (fun n => kf_283 n dp e 3 I L i1 i2 i3) P_ := Ev_step (fun n => ke_283_3 n dp e I L i1 i2 i3) h
set_option maxRecDepth 100000 in
theorem ev_283_0 {dp : Nat} {e : EN} {I : JI} {L : JI} {i1 : Int} {i2 : Int} {i3 : Int} {P_ : (JI × JI) → Prop} (h : Ev (fun n => (stI (w2 I 105 60 0) (fun I_2 => (kf_283 n dp e 1 I_2 L 0 0 0)))) P_) : Ev (fun n => kf_283 n dp e 0 I L i1 i2 i3) P_ := Ev_step (fun n => ke_283_0 n dp e I L i1 i2 i3) h
end
/-! TASKS: the reference lists them -/
theorem tk_no {ρ : Int → Int} {f : Nat → Int} {w : Int} (h : ρ 9 ≤ w) : ∀ i : Nat, tkM ρ f w i = 0 ∧ tkS ρ f w i = -1
  | 0 => ⟨rfl, rfl⟩
  | i + 1 => by
    have r := tk_no (f := f) h i
    have n : ¬ usX ρ f i w := fun z => by have := z.1; omega
    refine ⟨?_, ?_⟩
    · show tkM ρ f w i + (if usX ρ f i w then tkD ρ f i w else 0) = 0
      rw [if_neg n, r.1]; rfl
    · show (if usX ρ f i w ∧ tkS ρ f w i = -1 then skX ρ w (clA (ρ 0) (ρ 1) i) else tkS ρ f w i) = -1
      rw [if_neg (fun z => n z.1)]; exact r.2
theorem K250 {J K L : JI} {e : EN} {dp tr : Nat} {w c : Int} (h : AskO J tr (K 107)) (hw : 0 ≤ w ∧ w < K 107 9) (hc : 0 ≤ c ∧ c < 3) (hd : 4 ≤ dp) : Ev (fun n => kf_250 n dp e 0 K L w c) (fun r => (∀ a i, ¬ (a = 105 ∧ i = 29) → r.2.1 a i = K a i) ∧ (∀ a i, ¬ a = 118 → ¬ a = 119 → ¬ (a = 105 ∧ (i = 30 ∨ i = 31)) → r.2.2 a i = L a i) ∧ r.1 = miX (K 107) w c) := by
  refine ev_250_0 ?_
  refine Ev_t (by omega) (Ev_bind (K246 (hd := 0) h hw hc (by omega) (by omega) (Or.inl rfl)) ?_)
  rintro ⟨x, K1, L1⟩ ⟨y1, y2, y3⟩
  dsimp only at y1 y2 y3 ⊢
  exact Ev_ret ⟨y1, y2, y3⟩
theorem K251 {J K L : JI} {e : EN} {dp tr : Nat} {w c : Int} (h : AskO J tr (K 107)) (hw : 0 ≤ w ∧ w < K 107 9) (hc : 0 ≤ c ∧ c < 3) (hd : 4 ≤ dp) : Ev (fun n => kf_251 n dp e 0 K L w c) (fun r => (∀ a i, ¬ (a = 105 ∧ i = 29) → r.2.1 a i = K a i) ∧ (∀ a i, ¬ a = 118 → ¬ a = 119 → ¬ (a = 105 ∧ (i = 30 ∨ i = 31)) → r.2.2 a i = L a i) ∧ r.1 = skX (K 107) w c) := by
  refine ev_251_0 ?_
  refine Ev_t (by omega) (Ev_bind (K246 (hd := 1) h hw hc (by omega) (by omega) (Or.inr (Or.inl rfl))) ?_)
  rintro ⟨x, K1, L1⟩ ⟨y1, y2, y3⟩
  dsimp only at y1 y2 y3 ⊢
  exact Ev_ret ⟨y1, y2, y3⟩
section KR
variable {dp : Nat} {e : EN} {J L : JI} {tr : Nat} {f : Nat → Int} {N : Nat}
theorem K284 {K : JI} {i P : Nat} {c k : Int} (hA : AskO J tr (K 107)) (h11 : J tr 11 = K 107 9) (hd : 1 ≤ dp) (hP : P < 10) (hf : FxO (K 107) f N) (hi : i < N) (hc : 0 ≤ c ∧ c < 3) (hk : 0 ≤ k ∧ k < 64) (hch : ∀ p, 0 ≤ p → p < 10 → K 121 (640 * c + 10 * k + p) = chX (K 107) f i p) : Ev (fun n => kf_284 n dp e 0 K L c k P 0 0 0) (fun r => r.2.2 = L ∧ (∀ a q, ¬ a = 124 → r.2.1 a q = K a q) ∧ r.1 = cmX (K 107) f i P P) := by
  have hW := AskO_W hA h11
  have h9 := hA.2.2.1
  have parts : ∀ p : Nat, p ≤ P → ∀ K1 : JI, (∀ a q, ¬ a = 124 → K1 a q = K a q) → (∀ q : Int, p ≤ q → q < 10 → K1 124 q = cmX (K 107) f i p q) → Ev (fun n => kf_284 n dp e 2 K1 L c k P p 0 0) (fun r => r.2.2 = L ∧ (∀ a q, ¬ a = 124 → r.2.1 a q = K a q) ∧ r.1 = cmX (K 107) f i P P) := by
    refine dec_ind P (fun p hp ih => ?_)
    intro K1 k1 k2
    refine ev_284_2 ?_
    by_cases cp : p < P
    · have ih := ih cp
      have ev : K1 121 (640 * c + 10 * k + p) = chX (K 107) f i p := (k1 _ _ (by omega)).trans (hch p (by omega) (by omega))
      refine Ev_f (by omega) (Ev_t (by omega) (Ev_t (by omega) ?_))
      rw [ev]
      have hcb := chX_b hA h11 (f := f) (i := i) (p := p) (by omega)
      have ecm : cmX (K 107) f i (p + 1) = if chX (K 107) f i p = -1 then cmX (K 107) f i p else fun q => if (p : Int) < q ∧ q < 10 then cmX (K 107) f i p q + cmX (K 107) f i p p * K 107 (290 + (11 * chX (K 107) f i p + 1 + q)) else cmX (K 107) f i p q := by
        unfold cmX
        rw [cmg_s]
      have nxt : ∀ (K2 : JI) (x y : Int), (∀ a q, ¬ a = 124 → K2 a q = K a q) → (∀ q : Int, ((p + 1 : Nat) : Int) ≤ q → q < 10 → K2 124 q = cmX (K 107) f i (p + 1) q) → Ev (fun n => kf_284 n dp e 4 K2 L c k P p x y) (fun r => r.2.2 = L ∧ (∀ a q, ¬ a = 124 → r.2.1 a q = K a q) ∧ r.1 = cmX (K 107) f i P P) := fun K2 x y z1 z2 => by
        refine ev_284_4 ?_
        refine Ev_t (by omega) ?_
        rw [show (p : Int) + 1 = ((p + 1 : Nat) : Int) by omega]
        exact ih K2 z1 z2
      refine Ev_st (Ev_t (by omega) ?_)
      by_cases cv : chX (K 107) f i p = -1
      · rw [if_pos cv] at ecm
        rw [cv]
        refine ev_284_3 ?_
        exact Ev_f (by omega) (Ev_t rfl (nxt K1 _ _ k1 (fun q a b => by rw [ecm]; exact k2 q (by omega) b)))
      · rcases hcb with z | ⟨v0, v1, vp⟩
        · exact absurd z cv
        rw [if_neg cv] at ecm
        have ecmv : ∀ q : Int, (p : Int) < q → q < 10 → cmX (K 107) f i (p + 1) q = cmX (K 107) f i p q + cmX (K 107) f i p p * K 107 (290 + (11 * chX (K 107) f i p + 1 + q)) := fun q a b => by
          rw [ecm]
          show (if (p : Int) < q ∧ q < 10 then _ else _) = _
          rw [if_pos ⟨a, b⟩]
        clear ecm
        have hv := (hW.2.2 (chX (K 107) f i p) v0 (by omega)).2.2
        have cb := cmX_b hA h11 (p := p) (q := (p : Int)) (by omega) (by omega) hf hi
        generalize chX (K 107) f i p = v at *
        have lp : ∀ q : Nat, q ≤ 10 → ∀ K2 : JI, p + 1 ≤ q → (∀ a q, ¬ a = 124 → K2 a q = K a q) → (∀ q' : Int, (p : Int) + 1 ≤ q' → q' < q → K2 124 q' = cmX (K 107) f i (p + 1) q') → (∀ q' : Int, q ≤ q' → q' < 10 → K2 124 q' = cmX (K 107) f i p q') → K2 124 p = cmX (K 107) f i p p → Ev (fun n => kf_284 n dp e 3 K2 L c k P p v q) (fun r => r.2.2 = L ∧ (∀ a q, ¬ a = 124 → r.2.1 a q = K a q) ∧ r.1 = cmX (K 107) f i P P) := by
          refine dec_ind 10 (fun q hq ihq => ?_)
          intro K2 w0 w1 w2' w3 w4
          refine ev_284_3 ?_
          by_cases cq : q < 10
          · have ihq := ihq cq
            have pq := hv q (by omega) (by omega)
            have cq' := cmX_b hA h11 (p := p) (q := (q : Int)) (by omega) (by omega) hf hi
            have cpp : 0 ≤ cmX (K 107) f i p p * K 107 (290 + (11 * v + 1 + q)) ∧ cmX (K 107) f i p p * K 107 (290 + (11 * v + 1 + q)) ≤ 200 * 3600 := mulb cb ⟨pq.2.1, pq.2.2.1⟩
            have ecv := ecmv q (by omega) (by omega)
            refine Ev_f (by omega) (Ev_f (by omega) (Ev_t (by omega) (Ev_t (by omega) (Ev_t hd (Ev_call (K241 (by omega) (by omega)) ?_)))))
            dsimp only
            rw [w1 107 _ (by omega), show 290 + 11 * v + 1 + (q : Int) = 290 + (11 * v + 1 + q) by omega, w3 q (by omega) (by omega), w4]
            refine Ev_t (by omega) (Ev_t (by omega) (Ev_st (Ev_t (by omega) ?_)))
            rw [← ecv, show (q : Int) + 1 = ((q + 1 : Nat) : Int) by omega]
            refine ihq _ (by omega) (fun a q' x => by rw [w2_o x]; exact w1 a q' x) (fun q' a b => ?_) (fun q' a b => ?_) ?_
            · by_cases z : q' = q
              · subst z; rw [w2_ap, if_pos ⟨rfl, rfl⟩]
              · rw [w2_n (by omega)]; exact w2' q' a (by omega)
            · rw [w2_n (by omega)]; exact w3 q' (by omega) b
            · rw [w2_n (by omega)]; exact w4
          · have : q = 10 := by omega
            subst this
            exact Ev_t (by omega) (nxt K2 _ _ w1 (fun q' a b => w2' q' (by omega) (by omega)))
        rw [show (p : Int) + 1 = ((p + 1 : Nat) : Int) by omega]
        exact lp (p + 1) (by omega) K1 (Nat.le_refl _) k1 (fun q' a b => by omega) (fun q' a b => k2 q' (by omega) b) (k2 p (by omega) (by omega))
    · have : p = P := by omega
      subst this
      exact Ev_t (by omega) (Ev_t (by omega) (Ev_ret ⟨rfl, k1, k2 p (by omega) (by omega)⟩))
  have init : ∀ q : Nat, q ≤ 10 → ∀ K1 : JI, (∀ a q, ¬ a = 124 → K1 a q = K a q) → (∀ q' : Int, 0 ≤ q' → q' < q → K1 124 q' = cn0 q') → Ev (fun n => kf_284 n dp e 1 K1 L c k P q 0 0) (fun r => r.2.2 = L ∧ (∀ a q, ¬ a = 124 → r.2.1 a q = K a q) ∧ r.1 = cmX (K 107) f i P P) := by
    refine dec_ind 10 (fun q hq ih => ?_)
    intro K1 k1 k2
    refine ev_284_1 ?_
    by_cases cq : q < 10
    · have ih := ih cq
      have go : ∀ x : Int, x = cn0 q → Ev (fun n => kf_284 n dp e 1 (w2 K1 124 q x) L c k P ((q : Int) + 1) 0 0) (fun r => r.2.2 = L ∧ (∀ a q, ¬ a = 124 → r.2.1 a q = K a q) ∧ r.1 = cmX (K 107) f i P P) := fun x hx => by
        rw [show (q : Int) + 1 = ((q + 1 : Nat) : Int) by omega]
        refine ih _ (fun a q' y => by rw [w2_o y]; exact k1 a q' y) (fun q' a b => ?_)
        by_cases z : q' = q
        · subst z; rw [w2_ap, if_pos ⟨rfl, rfl⟩]; exact hx
        · rw [w2_n (by omega)]; exact k2 q' a (by omega)
      refine Ev_f (by omega) ?_
      by_cases c0 : (q : Int) = 0
      · exact Ev_t c0 (Ev_t (by omega) (Ev_st (Ev_t (by omega) (go 1 (by unfold cn0; rw [if_pos c0])))))
      · exact Ev_f c0 (Ev_t (by omega) (Ev_st (Ev_t (by omega) (go 0 (by unfold cn0; rw [if_neg c0])))))
    · have : q = 10 := by omega
      subst this
      exact Ev_t (by omega) (parts 0 (by omega) K1 k1 (fun q' a b => k2 q' (by omega) (by omega)))
  refine ev_284_0 ?_
  exact init 0 (by omega) K (fun _ _ _ => rfl) (fun q' a b => by omega)
def FrTm (K K' L L' : JI) : Prop := (∀ a i, ¬ (a = 105 ∧ (i = 29 ∨ i = 60)) → ¬ a = 124 → ¬ (136 ≤ a ∧ a ≤ 138) → K' a i = K a i) ∧ ∀ a i, ¬ a = 118 → ¬ a = 119 → ¬ (a = 105 ∧ (i = 30 ∨ i = 31)) → L' a i = L a i
/-- the reference's list of tasks -/
def TkR (K : JI) (ρ : Int → Int) (f : Nat → Int) (N n : Nat) : Prop := ∀ w : Nat, w < n → K 136 w = tkM ρ f w N ∧ K 138 w = (if tkS ρ f w N = -1 then 0 else 1) ∧ (¬ tkS ρ f w N = -1 → K 137 w = tkS ρ f w N)
set_option maxHeartbeats 4000000 in
theorem K283 {K : JI} {ρ : Int → Int} (hρ : K 107 = ρ) (hA : AskO J tr ρ) (h11 : J tr 11 = ρ 9) (hd : 6 ≤ dp) (h0 : 0 ≤ ρ 0 ∧ ρ 0 ≤ 8) (h1 : 0 ≤ ρ 1 ∧ ρ 1 ≤ 8) (h2 : 0 ≤ ρ 2 ∧ ρ 2 ≤ 8) (hN : ρ 0 + ρ 1 + ρ 2 = N) (h8 : N ≤ 8) (hL : ∀ c, 0 ≤ c → c < 3 → LsM c K (cuS ρ c)) (hf : FxO ρ f N) (h134 : ∀ i : Nat, i < N → K 134 i = f i) : Ev (fun n => kf_283 n dp e 0 K L 0 0 0) (fun r => FrTm K r.1 L r.2 ∧ TkR r.1 ρ f N 16 ∧ r.1 105 60 = ((tkL ρ f N 16).length : Int)) := by
  have h9 := hA.2.2.1
  have outer : ∀ w : Nat, w ≤ 16 → ∀ K1 L1 : JI, FrTm K K1 L L1 → TkR K1 ρ f N w → K1 105 60 = ((tkL ρ f N w).length : Int) → Ev (fun n => kf_283 n dp e 1 K1 L1 w 0 0) (fun r => FrTm K r.1 L r.2 ∧ TkR r.1 ρ f N 16 ∧ r.1 105 60 = ((tkL ρ f N 16).length : Int)) := by
    refine dec_ind 16 (fun w hw ih => ?_)
    intro K1 L1 k1 k2 k3
    refine ev_283_1 ?_
    by_cases cw : w < 16
    · have ih := ih cw
      have lb := tkL_n (ρ := ρ) (f := f) (N := N) w
      /- one way is done -/
      have fin : ∀ (K2 L2 : JI) (x y : Int), FrTm K K2 L L2 → TkR K2 ρ f N w → K2 136 w = tkM ρ f w N → K2 138 w = (if tkS ρ f w N = -1 then 0 else 1) → (¬ tkS ρ f w N = -1 → K2 137 w = tkS ρ f w N) → K2 105 60 = ((tkL ρ f N w).length : Int) + (if tkS ρ f w N = -1 then 0 else 1) → Ev (fun n => kf_283 n dp e 4 K2 L2 w x y) (fun r => FrTm K r.1 L r.2 ∧ TkR r.1 ρ f N 16 ∧ r.1 105 60 = ((tkL ρ f N 16).length : Int)) := fun K2 L2 x y z1 z2 z3 z4 z5 z6 => by
        refine ev_283_4 ?_
        refine Ev_t (by omega) ?_
        rw [show (w : Int) + 1 = ((w + 1 : Nat) : Int) by omega]
        refine ih K2 L2 z1 (fun v hv => ?_) ?_
        · by_cases q : v = w
          · subst q; exact ⟨z3, z4, z5⟩
          · exact z2 v (by omega)
        · rw [tkL_s, List.length_append, z6]
          split <;> simp
      have inner : ∀ i : Nat, i ≤ N → ∀ K2 L2 : JI, FrTm K K2 L L2 → TkR K2 ρ f N w → K2 136 w = tkM ρ f w i → K2 138 w = (if tkS ρ f w i = -1 then 0 else 1) → (¬ tkS ρ f w i = -1 → K2 137 w = tkS ρ f w i) → K2 105 60 = ((tkL ρ f N w).length : Int) + (if tkS ρ f w i = -1 then 0 else 1) → Ev (fun n => kf_283 n dp e 2 K2 L2 w i 0) (fun r => FrTm K r.1 L r.2 ∧ TkR r.1 ρ f N 16 ∧ r.1 105 60 = ((tkL ρ f N 16).length : Int)) := by
        refine dec_ind N (fun i hi ihi => ?_)
        intro K2 L2 y1 y2 y3 y4 y5 y6
        have e7 : K2 107 = ρ := (funext fun q => y1.1 _ _ (by omega) (by omega) (by omega)).trans hρ
        have e0 : ∀ q, K2 107 q = ρ q := fun q => by rw [e7]
        refine ev_283_2 ?_
        refine Ev_t (by omega) (Ev_call (K198 (by rw [e0, e0, e0]; omega)) ?_)
        dsimp only
        rw [e0 0, e0 1, e0 2, hN]
        by_cases ci : i < N
        · have ihi := ihi ci
          refine Ev_f (by omega) ?_
          by_cases c9 : ρ 9 ≤ (w : Int)
          · obtain ⟨t1, t2⟩ := tk_no (f := f) c9 i
            obtain ⟨t3, t4⟩ := tk_no (f := f) c9 N
            exact Ev_t (by rw [e0]; exact c9) (fin K2 L2 _ _ y1 y2 (by rw [t3, y3, t1]) (by rw [y4, t2, t4]) (fun z => absurd t4 z) (by rw [y6, t2, t4]))
          · have fb := (hf i ci).1
            obtain ⟨_, x, ex⟩ := hf i ci
            have echx : ∀ p, chX ρ f i p = x.1 p := fun p => by unfold chX; rw [ex]
            have hp : 0 ≤ wyP ρ w ∧ wyP ρ w ≤ 9 := (hA.1.1.1 w (by omega) (by omega)).1
            have c3 := clA_3 (a := ρ 0) (b := ρ 1) (i := i)
            have chM : ∀ K3 : JI, (∀ q, K3 121 q = K2 121 q) → ∀ p, 0 ≤ p → p < 10 → K3 121 (640 * clA (ρ 0) (ρ 1) i + 10 * f i + p) = chX ρ f i p := fun K3 g p a b => by
              have lo := (hL _ c3.1 c3.2).2 (f i).toNat (by omega) x ex p a b
              rw [echx, ← lo.1, g, y1.1 _ _ (by omega) (by omega) (by omega)]
              congr 1
              omega
            have e134 : K2 134 i = f i := (y1.1 _ _ (by omega) (by omega) (by omega)).trans (h134 i ci)
            have tb := tkD_b hA h11 (i := i) (w := (w : Int)) (by omega) hf ci
            have mb := tkM_b hA h11 (w := (w : Int)) (by omega) hf i (by omega)
            have ep : ρ (290 + 11 * (w : Int)) = wyP ρ w := rfl
            refine Ev_f (by rw [e0]; exact c9) (Ev_t (by omega) (Ev_bind (K280 (i := i) (J := K2) (by rw [e0]; exact h0) (by rw [e0]; exact h1)) ?_))
            rintro _ rfl
            dsimp only
            rw [e0 0, e0 1]
            refine Ev_t (by omega) (Ev_t (by omega) (Ev_call (K240 (by omega)) ?_))
            dsimp only
            simp only [e134, e0, ep]
            refine Ev_t (by omega) (Ev_t (by omega) ?_)
            rw [chM K2 (fun _ => rfl) (wyP ρ w) hp.1 (by omega)]
            have nx : ∀ (K3 L3 : JI) (z : Int), FrTm K K3 L L3 → TkR K3 ρ f N w → K3 136 w = tkM ρ f w (i + 1) → K3 138 w = (if tkS ρ f w (i + 1) = -1 then 0 else 1) → (¬ tkS ρ f w (i + 1) = -1 → K3 137 w = tkS ρ f w (i + 1)) → K3 105 60 = ((tkL ρ f N w).length : Int) + (if tkS ρ f w (i + 1) = -1 then 0 else 1) → Ev (fun n => kf_283 n dp e 3 K3 L3 w i z) (fun r => FrTm K r.1 L r.2 ∧ TkR r.1 ρ f N 16 ∧ r.1 105 60 = ((tkL ρ f N 16).length : Int)) := fun K3 L3 z z1 z2 z3 z4 z5 z6 => by
              refine ev_283_3 ?_
              refine Ev_t (by omega) ?_
              rw [show (i : Int) + 1 = ((i + 1 : Nat) : Int) by omega]
              exact ihi K3 L3 z1 z2 z3 z4 z5 z6
            have eM : tkM ρ f w (i + 1) = tkM ρ f w i + (if usX ρ f i w then tkD ρ f i w else 0) := rfl
            have eS : tkS ρ f w (i + 1) = if usX ρ f i w ∧ tkS ρ f w i = -1 then skX ρ w (clA (ρ 0) (ρ 1) i) else tkS ρ f w i := rfl
            by_cases cu : chX ρ f i (wyP ρ w) = w
            · have us : usX ρ f i w := ⟨by omega, cu⟩
              rw [if_pos us] at eM
              have sk : 0 ≤ skX ρ w (clA (ρ 0) (ρ 1) i) ∧ skX ρ w (clA (ρ 0) (ρ 1) i) ≤ 3 := clp_b (by decide)
              have nS : ¬ tkS ρ f w (i + 1) = -1 := by
                rw [eS]
                split
                · omega
                · rename_i z
                  intro z'
                  exact z ⟨us, z'⟩
              refine Ev_t cu (Ev_t (by omega) ?_)
              by_cases cs : tkS ρ f w i = -1
              · have eS1 : tkS ρ f w (i + 1) = skX ρ w (clA (ρ 0) (ρ 1) i) := by rw [eS, if_pos ⟨us, cs⟩]
                refine Ev_t (by rw [y4, if_pos cs]) (Ev_t (by omega) (Ev_bind (K251 (J := J) (tr := tr) (by rw [e7]; exact hA) (by rw [e7]; omega) c3 (by omega)) ?_))
                rintro ⟨x3, K3, L3⟩ ⟨u1, u2, u3⟩
                dsimp only at u1 u2 u3 ⊢
                rw [e7] at u3
                subst u3
                have m138 : w2 K3 137 w (skX ρ w (clA (ρ 0) (ρ 1) i)) 138 w = 0 := by rw [w2_o (by omega), u1 _ _ (by omega), y4, if_pos cs]
                have m60 : w2 K3 137 w (skX ρ w (clA (ρ 0) (ρ 1) i)) 105 60 = ((tkL ρ f N w).length : Int) := by rw [w2_o (by omega), u1 _ _ (by omega), y6, if_pos cs, Int.add_zero]
                refine Ev_t (by omega) (Ev_st (Ev_t (by omega) ?_))
                refine Ev_t m138 ?_
                simp only [m60]
                refine Ev_t (by omega) (Ev_st (Ev_t (by omega) (Ev_st ?_)))
                have n1 : ∀ (a : Nat) (q : Int), ¬ (a = 137 ∧ q = (w : Int)) → ¬ (a = 105 ∧ (q = 60 ∨ q = 29)) → ¬ (a = 138 ∧ q = (w : Int)) → w2 (w2 (w2 K3 137 w (skX ρ w (clA (ρ 0) (ρ 1) i))) 105 60 (((tkL ρ f N w).length : Int) + 1)) 138 w 1 a q = K2 a q := fun a q x1 x2 x3 => by rw [w2_n x3, w2_n (by omega), w2_n x1, u1 _ _ (by omega)]
                have n137 : w2 (w2 (w2 K3 137 w (skX ρ w (clA (ρ 0) (ρ 1) i))) 105 60 (((tkL ρ f N w).length : Int) + 1)) 138 w 1 137 w = tkS ρ f w (i + 1) := by rw [w2_o (by omega), w2_o (by omega), w2_ap, if_pos ⟨rfl, rfl⟩, eS1]
                have n60 : w2 (w2 (w2 K3 137 w (skX ρ w (clA (ρ 0) (ρ 1) i))) 105 60 (((tkL ρ f N w).length : Int) + 1)) 138 w 1 105 60 = ((tkL ρ f N w).length : Int) + 1 := by rw [w2_o (by omega), w2_ap, if_pos ⟨rfl, rfl⟩]
                have n138 : w2 (w2 (w2 K3 137 w (skX ρ w (clA (ρ 0) (ρ 1) i))) 105 60 (((tkL ρ f N w).length : Int) + 1)) 138 w 1 138 w = 1 := by rw [w2_ap, if_pos ⟨rfl, rfl⟩]
                generalize w2 (w2 (w2 K3 137 w (skX ρ w (clA (ρ 0) (ρ 1) i))) 105 60 (((tkL ρ f N w).length : Int) + 1)) 138 w 1 = K4 at n1 n137 n60 n138 ⊢
                have e7' : K4 107 = ρ := (funext fun q => n1 _ _ (by omega) (by omega) (by omega)).trans e7
                refine Ev_t (by omega) (Ev_t (by omega) (Ev_t (by omega) (Ev_call (K240 (by omega)) ?_)))
                dsimp only
                simp only [e7', ep, n1 134 (i : Int) (by omega) (by omega) (by omega), e134]
                obtain ⟨P, hP⟩ : ∃ P : Nat, wyP ρ w = P := ⟨(wyP ρ w).toNat, by omega⟩
                have eD : tkD ρ f i w = cmX ρ f i P P * miX ρ w (clA (ρ 0) (ρ 1) i) := by unfold tkD; rw [hP, Int.toNat_natCast]
                simp only [hP]
                refine Ev_t (by omega) (Ev_bind (K284 (J := J) (tr := tr) (f := f) (N := N) (i := i) (by rw [e7']; exact hA) (by rw [e7']; exact h11) (by omega) (by omega) (by rw [e7']; exact hf) ci c3 fb (fun p a b => by rw [e7']; exact chM K4 (fun q => n1 _ _ (by omega) (by omega) (by omega)) p a b)) ?_)
                rintro ⟨x5, K5, L5⟩ ⟨ez, s1, s2⟩
                dsimp only at ez
                subst ez
                dsimp only at s1 s2 ⊢
                rw [e7'] at s2
                subst s2
                have e7'' : K5 107 = ρ := (funext fun q => s1 _ _ (by omega)).trans e7'
                refine Ev_t (by omega) (Ev_bind (K250 (J := J) (tr := tr) (by rw [e7'']; exact hA) (by rw [e7'']; omega) c3 (by omega)) ?_)
                rintro ⟨x6, K6, L6⟩ ⟨r1, r2, r3⟩
                dsimp only at r1 r2 r3 ⊢
                rw [e7''] at r3
                subst r3
                simp only [n1 136 (w : Int) (by omega) (by omega) (by omega), y3, ← eD]
                refine Ev_t (by omega) (Ev_t (by omega) (Ev_st (nx _ _ _ ⟨fun a q x1 x2 x3 => ?_, fun a q x1 x2 x3 => ?_⟩ (fun v hv => ?_) ?_ ?_ (fun _ => ?_) ?_)))
                · rw [w2_n (by omega), r1 _ _ (by omega), s1 _ _ (by omega), n1 _ _ (by omega) (by omega) (by omega)]; exact y1.1 a q x1 x2 x3
                · rw [r2 a q x1 x2 x3, u2 a q x1 x2 x3]; exact y1.2 a q x1 x2 x3
                · have g : ∀ a, 136 ≤ a → a ≤ 138 → w2 K6 136 w (tkM ρ f w i + tkD ρ f i w) a v = K2 a v := fun a x1 x2 => by rw [w2_n (by omega), r1 _ _ (by omega), s1 _ _ (by omega), n1 _ _ (by omega) (by omega) (by omega)]
                  rw [g _ (by omega) (by omega), g _ (by omega) (by omega), g _ (by omega) (by omega)]
                  exact y2 v hv
                · rw [w2_ap, if_pos ⟨rfl, rfl⟩, eM]
                · rw [w2_n (by omega), r1 _ _ (by omega), s1 _ _ (by omega), n138, if_neg nS]
                · rw [w2_n (by omega), r1 _ _ (by omega), s1 _ _ (by omega), n137]
                · rw [w2_n (by omega), r1 _ _ (by omega), s1 _ _ (by omega), n60, if_neg nS]
              · have eS1 : tkS ρ f w (i + 1) = tkS ρ f w i := by rw [eS, if_neg (fun z => cs z.2)]
                refine Ev_f (by rw [y4, if_neg cs]; decide) (Ev_t (by omega) (Ev_t (by omega) (Ev_st (Ev_t (by omega) ?_))))
                simp only [w2_idv (rfl : K2 137 (w : Int) = K2 137 w)]
                refine Ev_f (by rw [y4, if_neg cs]; decide) (Ev_t (by have := y6; rw [if_neg cs] at this; omega) (Ev_st (Ev_t (by omega) (Ev_st ?_))))
                have n1 : ∀ (a : Nat) (q : Int), ¬ (a = 137 ∧ q = (w : Int)) → ¬ (a = 105 ∧ (q = 60 ∨ q = 29)) → ¬ (a = 138 ∧ q = (w : Int)) → w2 (w2 K2 105 60 (K2 105 60 + 0)) 138 w 1 a q = K2 a q := fun a q x1 x2 x3 => by rw [w2_n x3, w2_n (by omega)]
                have n137 : w2 (w2 K2 105 60 (K2 105 60 + 0)) 138 w 1 137 w = tkS ρ f w (i + 1) := by rw [w2_o (by omega), w2_o (by omega), eS1]; exact y5 cs
                have n60 : w2 (w2 K2 105 60 (K2 105 60 + 0)) 138 w 1 105 60 = ((tkL ρ f N w).length : Int) + 1 := by rw [w2_o (by omega), w2_ap, if_pos ⟨rfl, rfl⟩, y6, if_neg cs]; omega
                have n138 : w2 (w2 K2 105 60 (K2 105 60 + 0)) 138 w 1 138 w = 1 := by rw [w2_ap, if_pos ⟨rfl, rfl⟩]
                have u2 : ∀ a i, ¬ a = 118 → ¬ a = 119 → ¬ (a = 105 ∧ (i = 30 ∨ i = 31)) → L2 a i = L2 a i := fun _ _ _ _ _ => rfl
                generalize w2 (w2 K2 105 60 (K2 105 60 + 0)) 138 w 1 = K4 at n1 n137 n60 n138 ⊢
                have e7' : K4 107 = ρ := (funext fun q => n1 _ _ (by omega) (by omega) (by omega)).trans e7
                refine Ev_t (by omega) (Ev_t (by omega) (Ev_t (by omega) (Ev_call (K240 (by omega)) ?_)))
                dsimp only
                simp only [e7', ep, n1 134 (i : Int) (by omega) (by omega) (by omega), e134]
                obtain ⟨P, hP⟩ : ∃ P : Nat, wyP ρ w = P := ⟨(wyP ρ w).toNat, by omega⟩
                have eD : tkD ρ f i w = cmX ρ f i P P * miX ρ w (clA (ρ 0) (ρ 1) i) := by unfold tkD; rw [hP, Int.toNat_natCast]
                simp only [hP]
                refine Ev_t (by omega) (Ev_bind (K284 (J := J) (tr := tr) (f := f) (N := N) (i := i) (by rw [e7']; exact hA) (by rw [e7']; exact h11) (by omega) (by omega) (by rw [e7']; exact hf) ci c3 fb (fun p a b => by rw [e7']; exact chM K4 (fun q => n1 _ _ (by omega) (by omega) (by omega)) p a b)) ?_)
                rintro ⟨x5, K5, L5⟩ ⟨ez, s1, s2⟩
                dsimp only at ez
                subst ez
                dsimp only at s1 s2 ⊢
                rw [e7'] at s2
                subst s2
                have e7'' : K5 107 = ρ := (funext fun q => s1 _ _ (by omega)).trans e7'
                refine Ev_t (by omega) (Ev_bind (K250 (J := J) (tr := tr) (by rw [e7'']; exact hA) (by rw [e7'']; omega) c3 (by omega)) ?_)
                rintro ⟨x6, K6, L6⟩ ⟨r1, r2, r3⟩
                dsimp only at r1 r2 r3 ⊢
                rw [e7''] at r3
                subst r3
                simp only [n1 136 (w : Int) (by omega) (by omega) (by omega), y3, ← eD]
                refine Ev_t (by omega) (Ev_t (by omega) (Ev_st (nx _ _ _ ⟨fun a q x1 x2 x3 => ?_, fun a q x1 x2 x3 => ?_⟩ (fun v hv => ?_) ?_ ?_ (fun _ => ?_) ?_)))
                · rw [w2_n (by omega), r1 _ _ (by omega), s1 _ _ (by omega), n1 _ _ (by omega) (by omega) (by omega)]; exact y1.1 a q x1 x2 x3
                · rw [r2 a q x1 x2 x3, u2 a q x1 x2 x3]; exact y1.2 a q x1 x2 x3
                · have g : ∀ a, 136 ≤ a → a ≤ 138 → w2 K6 136 w (tkM ρ f w i + tkD ρ f i w) a v = K2 a v := fun a x1 x2 => by rw [w2_n (by omega), r1 _ _ (by omega), s1 _ _ (by omega), n1 _ _ (by omega) (by omega) (by omega)]
                  rw [g _ (by omega) (by omega), g _ (by omega) (by omega), g _ (by omega) (by omega)]
                  exact y2 v hv
                · rw [w2_ap, if_pos ⟨rfl, rfl⟩, eM]
                · rw [w2_n (by omega), r1 _ _ (by omega), s1 _ _ (by omega), n138, if_neg nS]
                · rw [w2_n (by omega), r1 _ _ (by omega), s1 _ _ (by omega), n137]
                · rw [w2_n (by omega), r1 _ _ (by omega), s1 _ _ (by omega), n60, if_neg nS]
            · have us : ¬ usX ρ f i w := fun z => cu z.2
              rw [if_neg us, Int.add_zero] at eM
              rw [if_neg (fun z => us z.1)] at eS
              exact Ev_f cu (nx K2 L2 _ y1 y2 (by rw [eM]; exact y3) (by rw [eS]; exact y4) (by rw [eS]; exact y5) (by rw [eS]; exact y6))
        · have : i = N := by omega
          subst this
          exact Ev_t (by omega) (fin K2 L2 _ _ y1 y2 y3 y4 y5 y6)
      refine Ev_f (by omega) (Ev_t (by omega) (Ev_st (Ev_t (by omega) (Ev_st ?_))))
      refine inner 0 (by omega) _ _ ⟨fun a q x1 x2 x3 => by rw [w2_n (by omega), w2_n (by omega)]; exact k1.1 a q x1 x2 x3, k1.2⟩ (fun v hv => ?_) (by rw [w2_o (by omega), w2_ap, if_pos ⟨rfl, rfl⟩]; rfl) (by rw [w2_ap, if_pos ⟨rfl, rfl⟩]; rfl) (fun z => absurd rfl z) (by rw [w2_n (by omega), w2_n (by omega), k3]; simp [tkS])
      have := k2 v hv
      rw [w2_n (by omega), w2_n (by omega), w2_n (by omega), w2_n (by omega), w2_n (by omega), w2_n (by omega)]
      exact this
    · have : w = 16 := by omega
      subst this
      exact Ev_t (by omega) (Ev_ret ⟨k1, k2, k3⟩)
  refine ev_283_0 ?_
  refine Ev_st (outer 0 (by omega) _ _ ⟨fun a q x1 x2 x3 => by rw [w2_n (by omega)], fun _ _ _ _ _ => rfl⟩ (fun w hw => absurd hw (Nat.not_lt_zero _)) (by rw [w2_ap, if_pos ⟨rfl, rfl⟩]; rfl))
end KR
