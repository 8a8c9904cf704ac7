section
set_option maxRecDepth 100000 in
theorem ev_80_0 {dp : Nat} {e : EN} {I : JI} {L : JI} {i1 : Int} {P_ : (Int × JI × JI) → Prop} (h : Ev (fun n => (if 1 ≤ dp then ((kf_14 n (dp - 1) e 0 I L i1 0 2).bind (fun ⟨x0_3, I0_3, L0_3⟩ => (if x0_3 = 0 then (some (((-1) : Int), I0_3, L0_3)) else (if 1 ≤ dp then ((kf_81 n (dp - 1) e 0 I0_3 L0_3 0 0 0 0).bind (fun ⟨I1_15, L1_15⟩ => (if 0 ≤ i1 ∧ i1 < 3 then ((e.2.2 25 (Int.toNat i1)).bind (fun b_26 => (if (b_26 < e.1) ∧ ((e.2.1 b_26).1 = 2) then (some (((I1_15 b_26 4) : Int), I1_15, L1_15)) else none))) else none))) else none)))) else none)) P_) : Ev (fun n => kf_80 n dp e 0 I L i1) P_ := Ev_step (fun n => ke_80_0 n dp e I L i1) h
set_option maxRecDepth 100000 in
theorem ev_252_0 {dp : Nat} {e : EN} {I : JI} {L : JI} {i1 : Int} {P_ : (Int × JI × JI) → Prop} (h : Ev (fun n => (stI (w2 I 105 0 0) (fun I_2 => (if 1 ≤ dp then ((kf_197 n (dp - 1) e 0 I_2 L i1).bind (fun ⟨x0_6, I0_6, L0_6⟩ => (if x0_6 = 0 then (some (((-1) : Int), I0_6, L0_6)) else (if 1 ≤ dp then ((kf_253 n (dp - 1) e 0 I0_6 L0_6 0 0).bind (fun ⟨I1_15, L1_15⟩ => (if 0 ≤ i1 ∧ i1 < 3 then (some (((I1_15 120 i1) : Int), I1_15, L1_15)) else none))) else none)))) else none)))) P_) : Ev (fun n => kf_252 n dp e 0 I L i1) P_ := Ev_step (fun n => ke_252_0 n dp e I L i1) h
set_option maxRecDepth 100000 in
theorem ev_88_0 {dp : Nat} {e : EN} {I : JI} {L : JI} {i1 : Int} {i2 : Int} {i3 : Int} {P_ : (Int × JI × JI) → Prop} (h : Ev (fun n => (if 1 ≤ dp then ((kf_14 n (dp - 1) e 0 I L i1 0 2).bind (fun ⟨x0_3, I0_3, L0_3⟩ => (if x0_3 = 0 then (some ((0 : Int), I0_3, L0_3)) else (if 1 ≤ dp then ((kf_14 n (dp - 1) e 0 I0_3 L0_3 i3 0 9).bind (fun ⟨x1_13, I1_13, L1_13⟩ => (if x1_13 = 0 then (some ((0 : Int), I1_13, L1_13)) else (if 1 ≤ dp then ((kf_81 n (dp - 1) e 0 I1_13 L1_13 0 0 0 0).bind (fun ⟨I2_25, L2_25⟩ => (if 0 ≤ i1 ∧ i1 < 3 then ((e.2.2 25 (Int.toNat i1)).bind (fun b_36 => (if (b_36 < e.1) ∧ ((e.2.1 b_36).1 = 2) then (if 64 < (I2_25 b_36 4) then (some ((0 : Int), I2_25, L2_25)) else (if 1 ≤ dp then (if -2147483648 ≤ (I2_25 b_36 4) - 1 ∧ (I2_25 b_36 4) - 1 ≤ 2147483647 then ((kf_14 n (dp - 1) e 0 I2_25 L2_25 i2 0 ((I2_25 b_36 4) - 1)).bind (fun ⟨x3_55, I3_55, L3_55⟩ => (if x3_55 = 0 then (some ((0 : Int), I3_55, L3_55)) else (some ((1 : Int), I3_55, L3_55))))) else none) else none)) else none))) else none))) else none)))) else none)))) else none)) P_) : Ev (fun n => kf_88 n dp e 0 I L i1 i2 i3) P_ := Ev_step (fun n => ke_88_0 n dp e I L i1 i2 i3) h
set_option maxRecDepth 100000 in
theorem ev_258_0 {dp : Nat} {e : EN} {I : JI} {L : JI} {i1 : Int} {i2 : Int} {P_ : (Int × JI × JI) → Prop} (h : Ev (fun n => (if 1 ≤ dp then ((kf_197 n (dp - 1) e 0 I L i1).bind (fun ⟨x0_1, I0_1, L0_1⟩ => (if x0_1 = 0 then (some ((0 : Int), I0_1, L0_1)) else (if 1 ≤ dp then ((kf_197 n (dp - 1) e 0 I0_1 L0_1 i1).bind (fun ⟨x1_12, I1_12, L1_12⟩ => (if x1_12 = 0 then (if 65 ≤ (I1_12 120 0) then (some ((0 : Int), I1_12, L1_12)) else (if 1 ≤ dp then ((kf_197 n (dp - 1) e 0 I1_12 L1_12 i1).bind (fun ⟨x2_37, I2_37, L2_37⟩ => (if x2_37 = 0 then (if 1 ≤ dp then (if -9223372036854775808 ≤ (I2_37 120 0) - 1 ∧ (I2_37 120 0) - 1 ≤ 9223372036854775807 then ((kf_193 n (dp - 1) e 0 I2_37 L2_37 i2 0 ((I2_37 120 0) - 1)).bind (fun ⟨x3_52, I3_52, L3_52⟩ => (if x3_52 = 0 then (some ((0 : Int), I3_52, L3_52)) else (some ((1 : Int), I3_52, L3_52))))) else none) else none) else (if 0 ≤ i1 ∧ i1 < 3 then (if 1 ≤ dp then (if -9223372036854775808 ≤ (I2_37 120 i1) - 1 ∧ (I2_37 120 i1) - 1 ≤ 9223372036854775807 then ((kf_193 n (dp - 1) e 0 I2_37 L2_37 i2 0 ((I2_37 120 i1) - 1)).bind (fun ⟨x3_52, I3_52, L3_52⟩ => (if x3_52 = 0 then (some ((0 : Int), I3_52, L3_52)) else (some ((1 : Int), I3_52, L3_52))))) else none) else none) else none)))) else none)) else (if 0 ≤ i1 ∧ i1 < 3 then (if 65 ≤ (I1_12 120 i1) then (some ((0 : Int), I1_12, L1_12)) else (if 1 ≤ dp then ((kf_197 n (dp - 1) e 0 I1_12 L1_12 i1).bind (fun ⟨x2_37, I2_37, L2_37⟩ => (if x2_37 = 0 then (if 1 ≤ dp then (if -9223372036854775808 ≤ (I2_37 120 0) - 1 ∧ (I2_37 120 0) - 1 ≤ 9223372036854775807 then ((kf_193 n (dp - 1) e 0 I2_37 L2_37 i2 0 ((I2_37 120 0) - 1)).bind (fun ⟨x3_52, I3_52, L3_52⟩ => (if x3_52 = 0 then (some ((0 : Int), I3_52, L3_52)) else (some ((1 : Int), I3_52, L3_52))))) else none) else none) else (if 0 ≤ i1 ∧ i1 < 3 then (if 1 ≤ dp then (if -9223372036854775808 ≤ (I2_37 120 i1) - 1 ∧ (I2_37 120 i1) - 1 ≤ 9223372036854775807 then ((kf_193 n (dp - 1) e 0 I2_37 L2_37 i2 0 ((I2_37 120 i1) - 1)).bind (fun ⟨x3_52, I3_52, L3_52⟩ => (if x3_52 = 0 then (some ((0 : Int), I3_52, L3_52)) else (some ((1 : Int), I3_52, L3_52))))) else none) else none) else none)))) else none)) else none)))) else none)))) else none)) P_) : Ev (fun n => kf_258 n dp e 0 I L i1 i2) P_ := Ev_step (fun n => ke_258_0 n dp e I L i1 i2) h
set_option maxRecDepth 100000 in
theorem ev_87_0 {dp : Nat} {e : EN} {I : JI} {L : JI} {i1 : Int} {i2 : Int} {i3 : Int} {P_ : (Int × JI × JI) → Prop} (h : Ev (fun n => (if 1 ≤ dp then ((kf_88 n (dp - 1) e 0 I L i1 i2 i3).bind (fun ⟨x0_4, I0_4, L0_4⟩ => (if x0_4 = 0 then (some (((-100000) : Int), I0_4, L0_4)) else (if 0 ≤ i1 ∧ i1 < 3 then ((e.2.2 25 (Int.toNat i1)).bind (fun b_21 => (if (b_21 < e.1) ∧ ((e.2.1 b_21).1 = 2) then ((e.2.2 b_21 0).bind (fun b_22 => (if (-2147483648 ≤ i2 * 10 ∧ i2 * 10 ≤ 2147483647) ∧ (-2147483648 ≤ (i2 * 10) + i3 ∧ (i2 * 10) + i3 ≤ 2147483647) then (if ((b_22 < e.1) ∧ (((e.2.1 b_22).1 = 13) ∧ ((e.2.1 b_22).2 < (2 ^ 31)))) ∧ (0 ≤ ((i2 * 10) + i3) ∧ ((i2 * 10) + i3) < (((e.2.1 b_22).2 : Nat) : Int)) then (some (((I0_4 b_22 ((i2 * 10) + i3)) : Int), I0_4, L0_4)) else none) else none))) else none))) else none)))) else none)) P_) : Ev (fun n => kf_87 n dp e 0 I L i1 i2 i3) P_ := Ev_step (fun n => ke_87_0 n dp e I L i1 i2 i3) h
set_option maxRecDepth 100000 in
theorem ev_257_0 {dp : Nat} {e : EN} {I : JI} {L : JI} {i1 : Int} {i2 : Int} {i3 : Int} {P_ : (Int × JI × JI) → Prop} (h : Ev (fun n => (stI (w2 I 105 0 0) (fun I_2 => (if 1 ≤ dp then ((kf_253 n (dp - 1) e 0 I_2 L 0 0).bind (fun ⟨I0_6, L0_6⟩ => (if 1 ≤ dp then ((kf_258 n (dp - 1) e 0 I0_6 L0_6 i1 i2).bind (fun ⟨x1_12, I1_12, L1_12⟩ => (if x1_12 = 0 then (some (((-100000) : Int), I1_12, L1_12)) else (if 1 ≤ dp then ((kf_202 n (dp - 1) e 0 I1_12 L1_12 i3).bind (fun ⟨x2_19, I2_19, L2_19⟩ => (if x2_19 = 0 then (some (((-100000) : Int), I2_19, L2_19)) else (if (-2147483648 ≤ 640 * i1 ∧ 640 * i1 ≤ 2147483647) ∧ (-2147483648 ≤ 10 * i2 ∧ 10 * i2 ≤ 2147483647) ∧ (-2147483648 ≤ (640 * i1) + (10 * i2) ∧ (640 * i1) + (10 * i2) ≤ 2147483647) ∧ (-2147483648 ≤ ((640 * i1) + (10 * i2)) + i3 ∧ ((640 * i1) + (10 * i2)) + i3 ≤ 2147483647) then (if 0 ≤ (((640 * i1) + (10 * i2)) + i3) ∧ (((640 * i1) + (10 * i2)) + i3) < 1920 then (some (((I2_19 121 (((640 * i1) + (10 * i2)) + i3)) : Int), I2_19, L2_19)) else none) else none)))) else none)))) else none))) else none)))) P_) : Ev (fun n => kf_257 n dp e 0 I L i1 i2 i3) P_ := Ev_step (fun n => ke_257_0 n dp e I L i1 i2 i3) h
set_option maxRecDepth 100000 in
theorem ev_89_0 {dp : Nat} {e : EN} {I : JI} {L : JI} {i1 : Int} {i2 : Int} {i3 : Int} {P_ : (Int × JI × JI) → Prop} (h : Ev (fun n => (if 1 ≤ dp then ((kf_88 n (dp - 1) e 0 I L i1 i2 i3).bind (fun ⟨x0_4, I0_4, L0_4⟩ => (if x0_4 = 0 then (some (((-1) : Int), I0_4, L0_4)) else (if 0 ≤ i1 ∧ i1 < 3 then ((e.2.2 25 (Int.toNat i1)).bind (fun b_20 => (if (b_20 < e.1) ∧ ((e.2.1 b_20).1 = 2) then ((e.2.2 b_20 1).bind (fun b_21 => (if (-2147483648 ≤ i2 * 10 ∧ i2 * 10 ≤ 2147483647) ∧ (-2147483648 ≤ (i2 * 10) + i3 ∧ (i2 * 10) + i3 ≤ 2147483647) then (if ((b_21 < e.1) ∧ (((e.2.1 b_21).1 = 13) ∧ ((e.2.1 b_21).2 < (2 ^ 31)))) ∧ (0 ≤ ((i2 * 10) + i3) ∧ ((i2 * 10) + i3) < (((e.2.1 b_21).2 : Nat) : Int)) then (some (((I0_4 b_21 ((i2 * 10) + i3)) : Int), I0_4, L0_4)) else none) else none))) else none))) else none)))) else none)) P_) : Ev (fun n => kf_89 n dp e 0 I L i1 i2 i3) P_ := Ev_step (fun n => ke_89_0 n dp e I L i1 i2 i3) h
set_option maxRecDepth 100000 in
theorem ev_259_0 {dp : Nat} {e : EN} {I : JI} {L : JI} {i1 : Int} {i2 : Int} {i3 : Int} {P_ : (Int × JI × JI) → Prop} (h : Ev (fun n => (stI (w2 I 105 0 0) (fun I_2 => (if 1 ≤ dp then ((kf_253 n (dp - 1) e 0 I_2 L 0 0).bind (fun ⟨I0_6, L0_6⟩ => (if 1 ≤ dp then ((kf_258 n (dp - 1) e 0 I0_6 L0_6 i1 i2).bind (fun ⟨x1_12, I1_12, L1_12⟩ => (if x1_12 = 0 then (some (((-1) : Int), I1_12, L1_12)) else (if 1 ≤ dp then ((kf_202 n (dp - 1) e 0 I1_12 L1_12 i3).bind (fun ⟨x2_19, I2_19, L2_19⟩ => (if x2_19 = 0 then (some (((-1) : Int), I2_19, L2_19)) else (if (-2147483648 ≤ 640 * i1 ∧ 640 * i1 ≤ 2147483647) ∧ (-2147483648 ≤ 10 * i2 ∧ 10 * i2 ≤ 2147483647) ∧ (-2147483648 ≤ (640 * i1) + (10 * i2) ∧ (640 * i1) + (10 * i2) ≤ 2147483647) ∧ (-2147483648 ≤ ((640 * i1) + (10 * i2)) + i3 ∧ ((640 * i1) + (10 * i2)) + i3 ≤ 2147483647) then (if 0 ≤ (((640 * i1) + (10 * i2)) + i3) ∧ (((640 * i1) + (10 * i2)) + i3) < 1920 then (some (((I2_19 122 (((640 * i1) + (10 * i2)) + i3)) : Int), I2_19, L2_19)) else none) else none)))) else none)))) else none))) else none)))) P_) : Ev (fun n => kf_259 n dp e 0 I L i1 i2 i3) P_ := Ev_step (fun n => ke_259_0 n dp e I L i1 i2 i3) h
end
/-! CUTTINGS: cuttings(), choice(), left() -/
def ShC (e : EN) (tr : Nat) : Prop := (tr = 9 ∨ tr = 93) ∧ TrO e tr ∧ e.2.2 1 7 = some tr ∧ ∀ c : Nat, c < 3 → CtO e (58 + 5 * c) ∧ e.2.2 25 c = some (58 + 5 * c)
def HaC (J : JI) (tr : Nat) : Prop := AskO J tr (J 107) ∧ ClsO J tr (J 107) ∧ (0 ≤ J 24 12 ∧ J 24 12 ≤ 1000000) ∧ J 105 0 = 0 ∧ (J 105 32 = 0 ∨ J 105 32 = 1)
/-- the cuttings kept: the class's for every tree that is there (TS), and if nothing is stale for the hall as it is; the model's -/
def CutI (tr : Nat) (TS : Nat → Prop) (J : JI) : Prop :=
  (∀ T, TS T → ∀ c : Nat, c < 3 → CuT J (58 + 5 * c) T) ∧ (J 24 13 = 0 → ∀ c : Nat, c < 3 → CuN J tr (J 107) c) ∧ (J 105 32 = 1 → ∀ c, 0 ≤ c → c < 3 → LsM c J (cuS (J 107) c)) ∧ (∀ T, TS T → J T 13 = J tr 13 → ∀ W nw, TrW J T W nw → TrW J tr W nw)
def TsO (tr : Nat) (TS : Nat → Prop) : Prop := TS tr ∧ ∀ T, TS T → T = 9 ∨ T = 93 ∨ 144 ≤ T
def FrCu (J J' M M' : JI) : Prop := (∀ a i, ¬ (a = 21 ∧ (i = 3 ∨ i = 4)) → ¬ a = 22 → ¬ a = 23 → ¬ (58 ≤ a ∧ a ≤ 72) → ¬ (a = 24 ∧ 12 ≤ i ∧ i ≤ 15) → ¬ (a = 105 ∧ (i = 29 ∨ i = 32)) → ¬ (120 ≤ a ∧ a ≤ 125) → J' a i = J a i) ∧ ∀ a i, ¬ a = 118 → ¬ a = 119 → ¬ (a = 105 ∧ (i = 30 ∨ i = 31)) → M' a i = M a i
def QuP (J J' : JI) : Prop := ((∀ a i, (58 ≤ a ∧ a ≤ 72) ∨ (a = 24 ∧ 12 ≤ i ∧ i ≤ 15 ∧ ¬ i = 13) → J' a i = J a i) ∨ (J' 24 14 = 1 ∧ J' 24 15 = 1 ∧ J' 24 12 = J 24 12 + 1 ∧ J' 24 13 = 0)) ∧ (J 105 32 = 1 → J' 105 32 = 1 ∧ ∀ a i, 120 ≤ a → a ≤ 125 → J' a i = J a i)
def CuP (tr : Nat) (TS : Nat → Prop) (J J' M M' : JI) : Prop := CutI tr TS J' ∧ FrCu J J' M M' ∧ QuP J J' ∧ (J' 24 13 = J 24 13 ∨ J' 24 13 = 0) ∧ (J' 105 32 = 0 ∨ J' 105 32 = 1)
section CO
variable {e : EN} {tr : Nat} {TS : Nat → Prop}
theorem CuP_r {J M : JI} (hH : HaC J tr) (h : CutI tr TS J) : CuP tr TS J J M M := ⟨h, ⟨fun _ _ _ _ _ _ _ _ _ => rfl, fun _ _ _ _ _ => rfl⟩, ⟨Or.inl (fun _ _ _ => rfl), fun z => ⟨z, fun _ _ _ _ => rfl⟩⟩, Or.inl rfl, hH.2.2.2.2⟩
theorem HaC_P {J J' M M' : JI} (htr : tr = 9 ∨ tr = 93) (hE : J 24 12 ≤ 999999) (hH : HaC J tr) (h : CuP tr TS J J' M M') : HaC J' tr := by
  obtain ⟨⟨hTT, h8, h9, h4, h6⟩, ⟨c1, c2, c3, c4, c5⟩, hE0, h0, _⟩ := hH
  obtain ⟨_, ⟨fr, _⟩, ⟨q, _⟩, _, hc⟩ := h
  have e7 : J' 107 = J 107 := funext fun i => fr _ _ (by omega) (by omega) (by omega) (by omega) (by omega) (by omega) (by omega)
  have hTr : ∀ a i, tr ≤ a → a ≤ tr + 10 → J' a i = J a i := fun a i d1 d2 => fr a i (by omega) (by omega) (by omega) (by omega) (by omega) (by omega) (by omega)
  refine ⟨?_, ?_, ?_, ?_, hc⟩
  · rw [e7]; exact ⟨TrT_j (fun a i d1 d2 => hTr a i (by omega) d2) hTT, h8, h9, h4, h6⟩
  · rw [e7]; exact ⟨fun v a b => by rw [hTr _ _ (by omega) (by omega)]; exact c1 v a b, by rw [fr _ _ (by omega) (by omega) (by omega) (by omega) (by omega) (by omega) (by omega)]; exact c2, fun i a b => by rw [fr _ _ (by omega) (by omega) (by omega) (by omega) (by omega) (by omega) (by omega)]; exact c3 i a b, by rw [hTr _ _ (by omega) (by omega)]; exact c4, by rw [hTr _ _ (by omega) (by omega)]; exact c5⟩
  · rcases q with q | q
    · rw [q 24 12 (by omega)]; exact hE0
    · rw [q.2.2.1]; omega
  · rw [fr _ _ (by omega) (by omega) (by omega) (by omega) (by omega) (by omega) (by omega)]; exact h0
/-- CutI looks at little -/
theorem CutI_c {J J' : JI} (hTS : TsO tr TS) (h7 : J' 107 = J 107) (h13 : J' 24 13 = J 24 13) (h32 : J' 105 32 = J 105 32) (hT : ∀ a i, (9 ≤ a ∧ a ≤ 19) ∨ (93 ≤ a ∧ a ≤ 103) ∨ 144 ≤ a → J' a i = J a i) (hC : ∀ a i, 58 ≤ a ∧ a ≤ 72 → ¬ (a = 61 ∨ a = 66 ∨ a = 71) → ¬ (a = 62 ∨ a = 67 ∨ a = 72) → J' a i = J a i) (hM : ∀ a i, 120 ≤ a → a ≤ 122 → J' a i = J a i) (h : CutI tr TS J) : CutI tr TS J' := by
  obtain ⟨h1, h2, h3, h4⟩ := h
  have hX : ∀ T, TS T → ∀ a i, T ≤ a → a ≤ T + 10 → J' a i = J a i := fun T hT' a i d1 d2 => hT a i (by rcases hTS.2 T hT' with rfl | rfl | z <;> omega)
  refine ⟨fun T hT' c hc => CuT_c (hX T hT' _ _ (by omega) (by omega)) (hX T hT') (fun a i d1 d2 => hC a i (by omega) (by omega) (by omega)) (h1 T hT' c hc), fun z c hc => ?_, fun z c a b => ?_, fun T hT' z W nw hW => ?_⟩
  · rw [h7]
    exact CuN_c (hX tr hTS.1) (fun a i d1 d2 => hC a i (by omega) (by omega) (by omega)) (h2 (by rw [← h13]; exact z) c hc)
  · have l := h3 (by rw [← h32]; exact z) c a b
    unfold LsM at *
    rw [h7, hM _ _ (by omega) (by omega)]
    exact LsO_c (fun i _ _ => ⟨hM _ _ (by omega) (by omega), hM _ _ (by omega) (by omega)⟩) l
  · rw [hX T hT' _ _ (by omega) (by omega), hX tr hTS.1 _ _ (by omega) (by omega)] at z
    exact TrW_c (hX tr hTS.1) (h4 T hT' z W nw (TrW_c (fun a i x y => (hX T hT' a i x y).symm) hW))
theorem R81 {dp : Nat} {J M : JI} (hS : ShC e tr) (hTS : TsO tr TS) (hd : 15 ≤ dp) (hH : HaC J tr) (h : CutI tr TS J) : Ev (fun n => kf_81 n dp e 0 J M 0 0 0 0) (fun r => r.2 = M ∧ CuP tr TS J r.1 M M ∧ r.1 105 32 = J 105 32 ∧ (∀ a i, 120 ≤ a → a ≤ 125 → r.1 a i = J a i) ∧ r.1 24 13 = 0 ∧ ∀ c : Nat, c < 3 → LsO (r.1 (58 + 5 * c) 4) (r.1 (58 + 5 * c + 1)) (r.1 (58 + 5 * c + 2)) (cuS (J 107) c)) := by
  obtain ⟨htr, hT, h17, hO⟩ := hS
  obtain ⟨h1, h2, h3, h4⟩ := h
  have hH' := hH
  obtain ⟨hA, hC, hE, h0, hc⟩ := hH
  refine Ev_mono (K81 htr hT h17 hO hd hA hC hE (h1 tr hTS.1) h2) ?_
  rintro ⟨J1, M1⟩ ⟨r1, r2, r3, r4, r5⟩
  dsimp only at r1 r2 r3 r4 r5 ⊢
  have f : ∀ a i, ¬ (a = 21 ∧ (i = 3 ∨ i = 4)) → ¬ a = 22 → ¬ a = 23 → ¬ (58 ≤ a ∧ a ≤ 72) → ¬ (a = 24 ∧ 12 ≤ i ∧ i ≤ 15) → J1 a i = J a i := r2
  have e7 : J1 107 = J 107 := funext fun i => f _ _ (by omega) (by omega) (by omega) (by omega) (by omega)
  have hX : ∀ T, TS T → ∀ a i, T ≤ a → a ≤ T + 10 → J1 a i = J a i := fun T hT' a i d1 d2 => by
    rcases hTS.2 T hT' with rfl | rfl | z <;> exact f a i (by omega) (by omega) (by omega) (by omega) (by omega)
  have e13 : ∀ c : Nat, c < 3 → J1 (58 + 5 * c) 5 = J1 tr 13 := fun c hc => (r4 c hc).1
  have hA1 : AskO J1 tr (J 107) := ⟨TrT_j (fun a i d1 d2 => hX tr hTS.1 a i (by omega) d2) hA.1, hA.2⟩
  have e11 : J1 tr 11 = J 107 9 := by rw [hX tr hTS.1 _ _ (by omega) (by omega)]; exact hC.2.2.2.2
  refine ⟨r1, ⟨⟨fun T hT' c hc => ?_, fun _ => by rw [e7]; exact r4, fun z c a b => ?_, fun T hT' z W nw hW => ?_⟩, ⟨fun a i d1 d2 d3 d4 d5 d6 d7 => f a i d1 d2 d3 d4 d5, fun _ _ _ _ _ => rfl⟩, ⟨?_, fun z => ⟨by rw [f _ _ (by omega) (by omega) (by omega) (by omega) (by omega)]; exact z, fun a i d1 d2 => f a i (by omega) (by omega) (by omega) (by omega) (by omega)⟩⟩, Or.inr r3, by rw [f _ _ (by omega) (by omega) (by omega) (by omega) (by omega)]; exact hc⟩, f _ _ (by omega) (by omega) (by omega) (by omega) (by omega), fun a i d1 d2 => f a i (by omega) (by omega) (by omega) (by omega) (by omega), r3, fun c hc => CuN_L hA1 e11 (r4 c hc)⟩
  · intro z W nw hW
    rw [e13 c hc, hX T hT' _ _ (by omega) (by omega), hX tr hTS.1 _ _ (by omega) (by omega)] at z
    exact (r4 c hc).2.2 (e13 c hc).symm W nw (TrW_c (hX tr hTS.1) (h4 T hT' z W nw (TrW_c (fun a i x y => (hX T hT' a i x y).symm) hW)))
  · have l := h3 (by rw [← f 105 32 (by omega) (by omega) (by omega) (by omega) (by omega)]; exact z) c a b
    unfold LsM at *
    rw [e7, f _ _ (by omega) (by omega) (by omega) (by omega) (by omega)]
    exact LsO_c (fun i _ _ => ⟨f _ _ (by omega) (by omega) (by omega) (by omega) (by omega), f _ _ (by omega) (by omega) (by omega) (by omega) (by omega)⟩) l
  · rw [hX T hT' _ _ (by omega) (by omega), hX tr hTS.1 _ _ (by omega) (by omega)] at z
    exact TrW_c (hX tr hTS.1) (h4 T hT' z W nw (TrW_c (fun a i x y => (hX T hT' a i x y).symm) hW))
  · rcases r5 with r5 | r5
    · exact Or.inl (fun a i z => r5 a i (by omega) (by omega) (by omega) (by omega))
    · exact Or.inr ⟨r5.1, r5.2.1, r5.2.2, r3⟩
theorem R253 {dp : Nat} {J M : JI} {x1 x2 : Int} (hS : ShC e tr) (hTS : TsO tr TS) (hd : 6 ≤ dp) (hH : HaC J tr) (h : CutI tr TS J) : Ev (fun n => kf_253 n dp e 0 J M x1 x2) (fun r => CuP tr TS J r.1 M r.2 ∧ (∀ a i, ¬ (a = 105 ∧ (i = 29 ∨ i = 32)) → ¬ (120 ≤ a ∧ a ≤ 125) → r.1 a i = J a i) ∧ r.1 105 32 = 1 ∧ ∀ c, 0 ≤ c → c < 3 → LsM c r.1 (cuS (J 107) c)) := by
  obtain ⟨htr, hT, h17, hO⟩ := hS
  by_cases z : J 105 32 = 0
  · refine Ev_mono (K253 hd htr hH.1 z) ?_
    rintro ⟨J1, M1⟩ ⟨⟨f, fm⟩, r2, r3⟩
    dsimp only at f fm r2 r3 ⊢
    have e7 : J1 107 = J 107 := funext fun i => f _ _ (by omega) (by omega)
    obtain ⟨h1, h2, h3, h4⟩ := h
    have hX : ∀ T, TS T → ∀ a i, T ≤ a → a ≤ T + 10 → J1 a i = J a i := fun T hT' a i d1 d2 => by
      rcases hTS.2 T hT' with rfl | rfl | z <;> exact f a i (by omega) (by omega)
    have hQ : ∀ c : Nat, c < 3 → ∀ a i, 58 + 5 * c ≤ a → a ≤ 58 + 5 * c + 2 → J1 a i = J a i := fun c hc a i d1 d2 => f a i (by omega) (by omega)
    refine ⟨⟨⟨fun T hT' c hc => CuT_c (hX T hT' _ _ (by omega) (by omega)) (hX T hT') (hQ c hc) (h1 T hT' c hc), fun z c hc => ?_, fun _ c a b => by rw [e7]; exact r3 c a b, fun T hT' z W nw hW => ?_⟩, ⟨fun a i d1 d2 d3 d4 d5 d6 d7 => f a i d6 d7, fm⟩, ⟨Or.inl (fun a i d => f a i (by omega) (by omega)), fun y => by omega⟩, Or.inl (f _ _ (by omega) (by omega)), Or.inr r2⟩, f, r2, r3⟩
    · rw [e7]
      exact CuN_c (hX tr hTS.1) (hQ c hc) (h2 (by rw [← f 24 13 (by omega) (by omega)]; exact z) c hc)
    · rw [hX T hT' _ _ (by omega) (by omega), hX tr hTS.1 _ _ (by omega) (by omega)] at z
      exact TrW_c (hX tr hTS.1) (h4 T hT' z W nw (TrW_c (fun a i x y => (hX T hT' a i x y).symm) hW))
  · have z1 : J 105 32 = 1 := by have := hH.2.2.2.2; omega
    have hh := h.2.2.1 z1
    refine ev_253_0 ?_
    exact Ev_f z (Ev_ret ⟨CuP_r hH h, fun _ _ _ _ => rfl, z1, hh⟩)
theorem CuP_t {J J1 J2 M M1 M2 : JI} (g0 : ∀ a i, (58 ≤ a ∧ a ≤ 72) ∨ a = 24 → J2 a i = J1 a i) (h : CuP tr TS J J1 M M1) (g : CuP tr TS J1 J2 M1 M2) : CuP tr TS J J2 M M2 := by
  obtain ⟨_, ⟨a1, a2⟩, ⟨b1, b2⟩, c1, _⟩ := h
  obtain ⟨k, ⟨d1, d2⟩, ⟨f1, f2⟩, g1, g2⟩ := g
  refine ⟨k, ⟨fun a i x1 x2 x3 x4 x5 x6 x7 => (d1 a i x1 x2 x3 x4 x5 x6 x7).trans (a1 a i x1 x2 x3 x4 x5 x6 x7), fun a i x1 x2 x3 => (d2 a i x1 x2 x3).trans (a2 a i x1 x2 x3)⟩, ⟨?_, fun z => ?_⟩, ?_, g2⟩
  · rcases b1 with b1 | b1
    · exact Or.inl (fun a i z => (g0 a i (by omega)).trans (b1 a i z))
    · exact Or.inr ⟨(g0 _ _ (by omega)).trans b1.1, (g0 _ _ (by omega)).trans b1.2.1, (g0 _ _ (by omega)).trans b1.2.2.1, (g0 24 13 (Or.inr rfl)).trans b1.2.2.2⟩
  · obtain ⟨p1, p2⟩ := b2 z
    obtain ⟨q1, q2⟩ := f2 p1
    exact ⟨q1, fun a i x y => (q2 a i x y).trans (p2 a i x y)⟩
  · omega
/-- both have their cuttings: then the answers are alike -/
theorem LsO_m {m m' : Int} {A B A' B' : Int → Int} {l : List CT} (h : LsO m A B l) (h' : LsO m' A' B' l) : m = m' := h.1.trans h'.1.symm
theorem LsO_e {m m' : Int} {A B A' B' : Int → Int} {l : List CT} (h : LsO m A B l) (h' : LsO m' A' B' l) {i p : Int} (hi : 0 ≤ i ∧ i < m) (hm : m ≤ 64) (hp : 0 ≤ p ∧ p < 10) : A (10 * i + p) = A' (10 * i + p) ∧ B (10 * i + p) = B' (10 * i + p) := by
  obtain ⟨k, rfl⟩ : ∃ k : Nat, i = k := ⟨i.toNat, by omega⟩
  have h1 := h.1
  have hl : k < l.length := by omega
  have x1 := h.2 k (by omega) l[k] (by simp [hl]) p hp.1 hp.2
  have x2 := h'.2 k (by omega) l[k] (by simp [hl]) p hp.1 hp.2
  exact ⟨x1.1.trans x2.1.symm, x1.2.trans x2.2.symm⟩
theorem LsO_b {m : Int} {A B : Int → Int} {l : List CT} (h : LsO m A B l) : 0 ≤ m ∧ m ≤ 65 := by have := h.1; omega
theorem o_cuttings {dp : Nat} {J M : JI} {c : Int} (hS : ShC e tr) (hTS : TsO tr TS) (hd : 17 ≤ dp) (hE : J 24 12 ≤ 999999) (hH : HaC J tr) (h : CutI tr TS J) : Ev (fun n => kf_80 n dp e 0 J M c) (fun r => Ev (fun n => kf_252 n dp e 0 r.2.1 r.2.2 c) (fun q => ∃ a, r.1 = a ∧ q.1 = a ∧ CuP tr TS J q.2.1 M q.2.2)) := by
  refine ev_80_0 ?_
  refine Ev_t (by omega) (Ev14 (fun hc => ?_) (fun hc => ?_))
  · dsimp only
    refine Ev_f (by omega) (Ev_t (by omega) (Ev_bind (R81 hS hTS (by omega) hH h) ?_))
    rintro ⟨J1, M1⟩ ⟨r1, r2, r3, r4, r5, r6⟩
    dsimp only at r1 r2 r3 r4 r5 r6 ⊢
    subst r1
    obtain ⟨k, rfl⟩ : ∃ k : Nat, c = k := ⟨c.toNat, by omega⟩
    obtain ⟨oc1, oc2⟩ := hS.2.2.2 k (by omega)
    refine Ev_t (by omega) ?_
    rw [Int.toNat_natCast]
    refine Ev_R oc2 (Ev_t oc1.1 (Ev_ret ?_))
    dsimp only
    have hH1 := HaC_P hS.1 hE hH r2
    refine ev_252_0 ?_
    refine Ev_th hH1.2.2.2.1 (Ev_t (by omega) (Ev197t (by omega) (by omega) ?_))
    dsimp only
    refine Ev_f (by omega) (Ev_t (by omega) (Ev_bind (R253 hS hTS (by omega) hH1 r2.1) ?_))
    rintro ⟨J2, M2⟩ ⟨q1, q2, q3, q4⟩
    dsimp only at q1 q2 q3 q4 ⊢
    refine Ev_t (by omega) (Ev_ret ⟨_, rfl, ?_, CuP_t (fun a i z => q2 a i (by omega) (by omega)) r2 q1⟩)
    have e7 : J1 107 = J 107 := funext fun i => r2.2.1.1 _ _ (by omega) (by omega) (by omega) (by omega) (by omega) (by omega) (by omega)
    have l := q4 k (by omega) (by omega)
    rw [e7] at l
    exact LsO_m l (r6 k (by omega))
  · dsimp only
    refine Ev_t (by first | trivial | rfl) (Ev_ret ?_)
    dsimp only
    refine ev_252_0 ?_
    refine Ev_th hH.2.2.2.1 (Ev_t (by omega) (Ev197f (by omega) (by omega) ?_))
    dsimp only
    exact Ev_t (by first | trivial | rfl) (Ev_ret ⟨_, rfl, rfl, CuP_r hH h⟩)
/-- isThere -/
theorem K88 {dp : Nat} {J M : JI} {c i p : Int} (hS : ShC e tr) (hTS : TsO tr TS) (hd : 16 ≤ dp) (hH : HaC J tr) (h : CutI tr TS J) : Ev (fun n => kf_88 n dp e 0 J M c i p) (fun r => r.2.2 = M ∧ CuP tr TS J r.2.1 M M ∧ ((r.1 = 0 ∧ ¬ (0 ≤ c ∧ c ≤ 2)) ∨ (r.1 = 0 ∧ (0 ≤ c ∧ c ≤ 2) ∧ ¬ (0 ≤ p ∧ p ≤ 9)) ∨ ((0 ≤ c ∧ c ≤ 2) ∧ (0 ≤ p ∧ p ≤ 9) ∧ LsO (r.2.1 (58 + 5 * c.toNat) 4) (r.2.1 (58 + 5 * c.toNat + 1)) (r.2.1 (58 + 5 * c.toNat + 2)) (cuS (J 107) c) ∧ r.1 = if r.2.1 (58 + 5 * c.toNat) 4 ≤ 64 ∧ 0 ≤ i ∧ i < r.2.1 (58 + 5 * c.toNat) 4 then 1 else 0))) := by
  refine ev_88_0 ?_
  refine Ev_t (by omega) (Ev14 (fun hc => ?_) (fun hc => ?_)) <;> dsimp only
  · refine Ev_f (by omega) (Ev_t (by omega) (Ev14 (fun hp => ?_) (fun hp => ?_))) <;> dsimp only
    · refine Ev_f (by omega) (Ev_t (by omega) (Ev_bind (R81 hS hTS (by omega) hH h) ?_))
      rintro ⟨J1, M1⟩ ⟨r1, r2, r3, r4, r5, r6⟩
      dsimp only at r1 r2 r3 r4 r5 r6 ⊢
      subst r1
      obtain ⟨k, rfl⟩ : ∃ k : Nat, c = k := ⟨c.toNat, by omega⟩
      obtain ⟨oc1, oc2⟩ := hS.2.2.2 k (by omega)
      have l := r6 k (by omega)
      have lb := LsO_b l
      refine Ev_t (by omega) ?_
      rw [Int.toNat_natCast]
      refine Ev_R oc2 (Ev_t oc1.1 (Ev_c (fun z => Ev_ret ⟨rfl, r2, Or.inr (Or.inr ⟨hc, hp, l, ?_⟩)⟩) (fun z => Ev_t (by omega) (Ev_t (by omega) ?_))))
      · dsimp only; rw [if_neg (by omega)]
      · refine Ev14 (fun hi => ?_) (fun hi => ?_) <;> dsimp only
        · refine Ev_f (by omega) (Ev_ret ⟨rfl, r2, Or.inr (Or.inr ⟨hc, hp, l, ?_⟩)⟩)
          dsimp only; rw [if_pos (by omega)]
        · refine Ev_t (by first | trivial | rfl) (Ev_ret ⟨rfl, r2, Or.inr (Or.inr ⟨hc, hp, l, ?_⟩)⟩)
          dsimp only; rw [if_neg (by omega)]
    · exact Ev_t (by first | trivial | rfl) (Ev_ret ⟨rfl, CuP_r hH h, Or.inr (Or.inl ⟨rfl, hc, hp⟩)⟩)
  · exact Ev_t (by first | trivial | rfl) (Ev_ret ⟨rfl, CuP_r hH h, Or.inl ⟨rfl, hc⟩⟩)
/-- isCutting -/
theorem K258 {dp : Nat} {J M : JI} {c i : Int} (hd : 3 ≤ dp) (hb : 0 ≤ c ∧ c ≤ 2 → 0 ≤ J 120 c ∧ J 120 c ≤ 65) : Ev (fun n => kf_258 n dp e 0 J M c i) (fun r => r = ((if (0 ≤ c ∧ c ≤ 2) ∧ J 120 c ≤ 64 ∧ 0 ≤ i ∧ i < J 120 c then 1 else 0), J, M)) := by
  refine ev_258_0 ?_
  refine Ev_t (by omega) (Ev197 (by omega) (fun hc => ?_) (fun hc => ?_)) <;> dsimp only
  · have hb := hb hc
    refine Ev_f (by omega) (Ev_t (by omega) (Ev197t (by omega) hc ?_))
    dsimp only
    refine Ev_f (by omega) (Ev_t (by omega) (Ev_c (fun z => Ev_ret ?_) (fun z => Ev_t (by omega) (Ev197t (by omega) hc ?_))))
    · rw [if_neg (by omega)]
    · dsimp only
      refine Ev_f (by omega) (Ev_t (by omega) (Ev_t (by omega) (Ev_t (by omega) (Ev193 (fun hi => ?_) (fun hi => ?_))))) <;> dsimp only
      · refine Ev_f (by omega) (Ev_ret ?_)
        rw [if_pos (by omega)]
      · refine Ev_t (by first | trivial | rfl) (Ev_ret ?_)
        rw [if_neg (by omega)]
  · refine Ev_t (by first | trivial | rfl) (Ev_ret ?_)
    rw [if_neg (by omega)]
theorem o_choice {dp : Nat} {J M : JI} {c i p : Int} (hS : ShC e tr) (hTS : TsO tr TS) (hd : 18 ≤ dp) (hE : J 24 12 ≤ 999999) (hH : HaC J tr) (h : CutI tr TS J) : Ev (fun n => kf_87 n dp e 0 J M c i p) (fun r => Ev (fun n => kf_257 n dp e 0 r.2.1 r.2.2 c i p) (fun q => ∃ a, r.1 = a ∧ q.1 = a ∧ CuP tr TS J q.2.1 M q.2.2)) := by
  refine ev_87_0 ?_
  refine Ev_t (by omega) (Ev_bind (K88 hS hTS (by omega) hH h) ?_)
  rintro ⟨u, J1, M1⟩ ⟨r1, r2, r3⟩
  dsimp only at r1 r2 r3 ⊢
  subst r1
  have hH1 := HaC_P hS.1 hE hH r2
  have e7 : J1 107 = J 107 := funext fun i => r2.2.1.1 _ _ (by omega) (by omega) (by omega) (by omega) (by omega) (by omega) (by omega)
  have mod : ∀ v : Int, (∀ J2 M2 : JI, CuP tr TS J J2 M1 M2 → (∀ c, 0 ≤ c → c < 3 → LsM c J2 (cuS (J 107) c)) → Ev (fun n => (if (if (0 ≤ c ∧ c ≤ 2) ∧ J2 120 c ≤ 64 ∧ 0 ≤ i ∧ i < J2 120 c then (1 : Int) else 0) = 0 then some ((-100000 : Int), J2, M2) else if 1 ≤ dp then (kf_202 n (dp - 1) e 0 J2 M2 p).bind (fun x => if x.1 = 0 then some ((-100000 : Int), x.2.1, x.2.2) else (if (-2147483648 ≤ 640 * c ∧ 640 * c ≤ 2147483647) ∧ (-2147483648 ≤ 10 * i ∧ 10 * i ≤ 2147483647) ∧ (-2147483648 ≤ (640 * c) + (10 * i) ∧ (640 * c) + (10 * i) ≤ 2147483647) ∧ (-2147483648 ≤ ((640 * c) + (10 * i)) + p ∧ ((640 * c) + (10 * i)) + p ≤ 2147483647) then (if 0 ≤ (((640 * c) + (10 * i)) + p) ∧ (((640 * c) + (10 * i)) + p) < 1920 then (some (((x.2.1 121 (((640 * c) + (10 * i)) + p)) : Int), x.2.1, x.2.2)) else none) else none)) else none)) (fun q => q.1 = v ∧ q.2.1 = J2 ∧ q.2.2 = M2)) → Ev (fun n => kf_257 n dp e 0 J1 M1 c i p) (fun q => ∃ a, v = a ∧ q.1 = a ∧ CuP tr TS J q.2.1 M1 q.2.2) := by
    intro v g
    refine ev_257_0 ?_
    refine Ev_th hH1.2.2.2.1 (Ev_t (by omega) (Ev_bind (R253 hS hTS (by omega) hH1 r2.1) ?_))
    rintro ⟨J2, M2⟩ ⟨q1, q2, q3, q4⟩
    dsimp only at q1 q2 q3 q4 ⊢
    rw [e7] at q4
    have P := CuP_t (fun a i z => q2 a i (by omega) (by omega)) r2 q1
    refine Ev_t (by omega) (Ev_bind (K258 (by omega) (fun hc => LsO_b (q4 c hc.1 (by omega)))) ?_)
    rintro _ rfl
    dsimp only
    refine Ev_mono (g J2 M2 P q4) ?_
    rintro ⟨x, J3, M3⟩ ⟨y1, y2, y3⟩
    dsimp only at y1 y2 y3 ⊢
    subst y2
    subst y3
    exact ⟨x, y1.symm, rfl, P⟩
  have no : u = 0 → (∀ J2 : JI, (∀ c, 0 ≤ c → c < 3 → LsM c J2 (cuS (J 107) c)) → ¬ ((0 ≤ c ∧ c ≤ 2) ∧ J2 120 c ≤ 64 ∧ 0 ≤ i ∧ i < J2 120 c) ∨ ¬ (0 ≤ p ∧ p ≤ 9)) → Ev (fun n => kf_257 n dp e 0 J1 M1 c i p) (fun q => ∃ a, (-100000 : Int) = a ∧ q.1 = a ∧ CuP tr TS J q.2.1 M1 q.2.2) := by
    intro _ g
    refine mod (-100000) (fun J2 M2 _ l => ?_)
    refine Ev_c (fun _ => Ev_ret ⟨rfl, rfl, rfl⟩) (fun z => Ev_t (by omega) ?_)
    have hp : ¬ (0 ≤ p ∧ p ≤ 9) := by
      rcases g J2 l with g | g
      · rw [if_neg g] at z; exact absurd rfl z
      · exact g
    exact Ev202f (by omega) hp (Ev_t (by first | trivial | rfl) (Ev_ret ⟨rfl, rfl, rfl⟩))
  rcases r3 with ⟨rfl, hc⟩ | ⟨rfl, hc, hp⟩ | ⟨hc, hp, l, hu⟩
  · exact Ev_t (by first | trivial | rfl) (Ev_ret (no rfl (fun J2 _ => Or.inl (fun z => hc z.1))))
  · exact Ev_t (by first | trivial | rfl) (Ev_ret (no rfl (fun J2 _ => Or.inr hp)))
  · by_cases ci : J1 (58 + 5 * c.toNat) 4 ≤ 64 ∧ 0 ≤ i ∧ i < J1 (58 + 5 * c.toNat) 4
    · rw [if_pos ci] at hu
      subst hu
      obtain ⟨oc1, oc2⟩ := hS.2.2.2 c.toNat (by omega)
      refine Ev_f (by omega) (Ev_t (by omega) (Ev_R oc2 (Ev_t oc1.1 (Ev_R oc1.2.1.1 (Ev_t (by omega) (Ev_t ⟨⟨oc1.2.1.2.1, oc1.2.1.2.2.1, by rw [oc1.2.1.2.2.2]; decide⟩, by rw [oc1.2.1.2.2.2]; omega⟩ (Ev_ret ?_)))))))
      refine mod _ (fun J2 M2 _ l2 => ?_)
      have l2 := l2 c hc.1 (by omega)
      have em := LsO_m l l2
      have ee := (LsO_e l l2 ci.2 ci.1 (p := p) (by omega)).1
      rw [if_pos (by omega)]
      refine Ev_f (by omega) (Ev_t (by omega) (Ev202t (by omega) hp (Ev_f (by omega) (Ev_t (by omega) (Ev_t (by omega) (Ev_ret ⟨?_, rfl, rfl⟩))))))
      dsimp only at ee ⊢
      rw [show i * 10 + p = 10 * i + p by omega, ee, show 640 * c + 10 * i + p = 640 * c + (10 * i + p) by omega]
    · rw [if_neg ci] at hu
      subst hu
      refine Ev_t (by first | trivial | rfl) (Ev_ret (no rfl (fun J2 l2 => Or.inl (fun z => ci ?_))))
      have em := LsO_m l (l2 c hc.1 (by omega))
      omega
theorem o_left {dp : Nat} {J M : JI} {c i p : Int} (hS : ShC e tr) (hTS : TsO tr TS) (hd : 18 ≤ dp) (hE : J 24 12 ≤ 999999) (hH : HaC J tr) (h : CutI tr TS J) : Ev (fun n => kf_89 n dp e 0 J M c i p) (fun r => Ev (fun n => kf_259 n dp e 0 r.2.1 r.2.2 c i p) (fun q => ∃ a, r.1 = a ∧ q.1 = a ∧ CuP tr TS J q.2.1 M q.2.2)) := by
  refine ev_89_0 ?_
  refine Ev_t (by omega) (Ev_bind (K88 hS hTS (by omega) hH h) ?_)
  rintro ⟨u, J1, M1⟩ ⟨r1, r2, r3⟩
  dsimp only at r1 r2 r3 ⊢
  subst r1
  have hH1 := HaC_P hS.1 hE hH r2
  have e7 : J1 107 = J 107 := funext fun i => r2.2.1.1 _ _ (by omega) (by omega) (by omega) (by omega) (by omega) (by omega) (by omega)
  have mod : ∀ v : Int, (∀ J2 M2 : JI, CuP tr TS J J2 M1 M2 → (∀ c, 0 ≤ c → c < 3 → LsM c J2 (cuS (J 107) c)) → Ev (fun n => (if (if (0 ≤ c ∧ c ≤ 2) ∧ J2 120 c ≤ 64 ∧ 0 ≤ i ∧ i < J2 120 c then (1 : Int) else 0) = 0 then some ((-1 : Int), J2, M2) else if 1 ≤ dp then (kf_202 n (dp - 1) e 0 J2 M2 p).bind (fun x => if x.1 = 0 then some ((-1 : Int), x.2.1, x.2.2) else (if (-2147483648 ≤ 640 * c ∧ 640 * c ≤ 2147483647) ∧ (-2147483648 ≤ 10 * i ∧ 10 * i ≤ 2147483647) ∧ (-2147483648 ≤ (640 * c) + (10 * i) ∧ (640 * c) + (10 * i) ≤ 2147483647) ∧ (-2147483648 ≤ ((640 * c) + (10 * i)) + p ∧ ((640 * c) + (10 * i)) + p ≤ 2147483647) then (if 0 ≤ (((640 * c) + (10 * i)) + p) ∧ (((640 * c) + (10 * i)) + p) < 1920 then (some (((x.2.1 122 (((640 * c) + (10 * i)) + p)) : Int), x.2.1, x.2.2)) else none) else none)) else none)) (fun q => q.1 = v ∧ q.2.1 = J2 ∧ q.2.2 = M2)) → Ev (fun n => kf_259 n dp e 0 J1 M1 c i p) (fun q => ∃ a, v = a ∧ q.1 = a ∧ CuP tr TS J q.2.1 M1 q.2.2) := by
    intro v g
    refine ev_259_0 ?_
    refine Ev_th hH1.2.2.2.1 (Ev_t (by omega) (Ev_bind (R253 hS hTS (by omega) hH1 r2.1) ?_))
    rintro ⟨J2, M2⟩ ⟨q1, q2, q3, q4⟩
    dsimp only at q1 q2 q3 q4 ⊢
    rw [e7] at q4
    have P := CuP_t (fun a i z => q2 a i (by omega) (by omega)) r2 q1
    refine Ev_t (by omega) (Ev_bind (K258 (by omega) (fun hc => LsO_b (q4 c hc.1 (by omega)))) ?_)
    rintro _ rfl
    dsimp only
    refine Ev_mono (g J2 M2 P q4) ?_
    rintro ⟨x, J3, M3⟩ ⟨y1, y2, y3⟩
    dsimp only at y1 y2 y3 ⊢
    subst y2
    subst y3
    exact ⟨x, y1.symm, rfl, P⟩
  have no : u = 0 → (∀ J2 : JI, (∀ c, 0 ≤ c → c < 3 → LsM c J2 (cuS (J 107) c)) → ¬ ((0 ≤ c ∧ c ≤ 2) ∧ J2 120 c ≤ 64 ∧ 0 ≤ i ∧ i < J2 120 c) ∨ ¬ (0 ≤ p ∧ p ≤ 9)) → Ev (fun n => kf_259 n dp e 0 J1 M1 c i p) (fun q => ∃ a, (-1 : Int) = a ∧ q.1 = a ∧ CuP tr TS J q.2.1 M1 q.2.2) := by
    intro _ g
    refine mod (-1) (fun J2 M2 _ l => ?_)
    refine Ev_c (fun _ => Ev_ret ⟨rfl, rfl, rfl⟩) (fun z => Ev_t (by omega) ?_)
    have hp : ¬ (0 ≤ p ∧ p ≤ 9) := by
      rcases g J2 l with g | g
      · rw [if_neg g] at z; exact absurd rfl z
      · exact g
    exact Ev202f (by omega) hp (Ev_t (by first | trivial | rfl) (Ev_ret ⟨rfl, rfl, rfl⟩))
  rcases r3 with ⟨rfl, hc⟩ | ⟨rfl, hc, hp⟩ | ⟨hc, hp, l, hu⟩
  · exact Ev_t (by first | trivial | rfl) (Ev_ret (no rfl (fun J2 _ => Or.inl (fun z => hc z.1))))
  · exact Ev_t (by first | trivial | rfl) (Ev_ret (no rfl (fun J2 _ => Or.inr hp)))
  · by_cases ci : J1 (58 + 5 * c.toNat) 4 ≤ 64 ∧ 0 ≤ i ∧ i < J1 (58 + 5 * c.toNat) 4
    · rw [if_pos ci] at hu
      subst hu
      obtain ⟨oc1, oc2⟩ := hS.2.2.2 c.toNat (by omega)
      refine Ev_f (by omega) (Ev_t (by omega) (Ev_R oc2 (Ev_t oc1.1 (Ev_R oc1.2.2.1.1 (Ev_t (by omega) (Ev_t ⟨⟨oc1.2.2.1.2.1, oc1.2.2.1.2.2.1, by rw [oc1.2.2.1.2.2.2]; decide⟩, by rw [oc1.2.2.1.2.2.2]; omega⟩ (Ev_ret ?_)))))))
      refine mod _ (fun J2 M2 _ l2 => ?_)
      have l2 := l2 c hc.1 (by omega)
      have em := LsO_m l l2
      have ee := (LsO_e l l2 ci.2 ci.1 (p := p) (by omega)).2
      rw [if_pos (by omega)]
      refine Ev_f (by omega) (Ev_t (by omega) (Ev202t (by omega) hp (Ev_f (by omega) (Ev_t (by omega) (Ev_t (by omega) (Ev_ret ⟨?_, rfl, rfl⟩))))))
      dsimp only at ee ⊢
      rw [show i * 10 + p = 10 * i + p by omega, ee, show 640 * c + 10 * i + p = 640 * c + (10 * i + p) by omega]
    · rw [if_neg ci] at hu
      subst hu
      refine Ev_t (by first | trivial | rfl) (Ev_ret (no rfl (fun J2 l2 => Or.inl (fun z => ci ?_))))
      have em := LsO_m l (l2 c hc.1 (by omega))
      omega
end CO
