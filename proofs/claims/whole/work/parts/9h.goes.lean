section
set_option maxRecDepth 100000 in
theorem ev_78_1 {dp : Nat} {e : EN} {I : JI} {L : JI} {i1 : Int} {i2 : Int} {i3 : Int} {i4 : Int} {P_ : (Int × JI × JI) → Prop} (h : Ev (fun n => (if 10 ≤ i4 then (some ((i3 : Int), I, L)) else ((e.2.2 1 7).bind (fun b_27 => (if (b_27 < e.1) ∧ ((e.2.1 b_27).1 = 10) then ((e.2.2 b_27 7).bind (fun b_30 => (if (-2147483648 ≤ i1 * 10 ∧ i1 * 10 ≤ 2147483647) ∧ (-2147483648 ≤ (i1 * 10) + i4 ∧ (i1 * 10) + i4 ≤ 2147483647) then (if ((b_30 < e.1) ∧ (((e.2.1 b_30).1 = 13) ∧ ((e.2.1 b_30).2 < (2 ^ 31)))) ∧ (0 ≤ ((i1 * 10) + i4) ∧ ((i1 * 10) + i4) < (((e.2.1 b_30).2 : Nat) : Int)) then (if 1 ≤ dp then ((kf_72 n (dp - 1) e 0 I L i4 i2).bind (fun ⟨x0_45, I0_45, L0_45⟩ => (if (-2147483648 ≤ (I b_30 ((i1 * 10) + i4)) * x0_45 ∧ (I b_30 ((i1 * 10) + i4)) * x0_45 ≤ 2147483647) ∧ (-2147483648 ≤ i3 - ((I b_30 ((i1 * 10) + i4)) * x0_45) ∧ i3 - ((I b_30 ((i1 * 10) + i4)) * x0_45) ≤ 2147483647) then (stI (i3 - ((I b_30 ((i1 * 10) + i4)) * x0_45)) (fun v_50 => (if -2147483648 ≤ i4 + 1 ∧ i4 + 1 ≤ 2147483647 then (kf_78 n dp e 1 I0_45 L0_45 i1 i2 v_50 (i4 + 1)) else none))) else none))) else none) else none) else none))) else none))))) P_) : Ev (fun n => kf_78 n dp e 1 I L i1 i2 i3 i4) P_ := Ev_step (fun n => ke_78_1 n dp e I L i1 i2 i3 i4) h
set_option maxRecDepth 100000 in
theorem ev_78_0 {dp : Nat} {e : EN} {I : JI} {L : JI} {i1 : Int} {i2 : Int} {i3 : Int} {i4 : Int} {P_ : (Int × JI × JI) → Prop} (h : Ev (fun n => ((e.2.2 1 7).bind (fun b_2 => (if (b_2 < e.1) ∧ ((e.2.1 b_2).1 = 10) then ((e.2.2 b_2 5).bind (fun b_5 => (if ((b_5 < e.1) ∧ (((e.2.1 b_5).1 = 13) ∧ ((e.2.1 b_5).2 < (2 ^ 31)))) ∧ (0 ≤ i1 ∧ i1 < (((e.2.1 b_5).2 : Nat) : Int)) then (if 1 ≤ dp then ((kf_72 n (dp - 1) e 0 I L (I b_5 i1) i2).bind (fun ⟨x0_11, I0_11, L0_11⟩ => (kf_78 n dp e 1 I0_11 L0_11 i1 i2 x0_11 0))) else none) else none))) else none)))) P_) : Ev (fun n => kf_78 n dp e 0 I L i1 i2 i3 i4) P_ := Ev_step (fun n => ke_78_0 n dp e I L i1 i2 i3 i4) h
set_option maxRecDepth 100000 in
theorem ev_243_1 {dp : Nat} {e : EN} {I : JI} {L : JI} {i1 : Int} {i2 : Int} {i3 : Int} {i4 : Int} {P_ : (Int × JI × JI) → Prop} (h : Ev (fun n => (if 10 ≤ i4 then (some ((i3 : Int), I, L)) else (if 1 ≤ dp then ((kf_241 n (dp - 1) e 0 I L i1 i4).bind (fun ⟨x0_26, I0_26, L0_26⟩ => (if 1 ≤ dp then ((kf_244 n (dp - 1) e 0 I0_26 L0_26 i4 i2).bind (fun ⟨x1_33, I1_33, L1_33⟩ => (if (-2147483648 ≤ x0_26 * x1_33 ∧ x0_26 * x1_33 ≤ 2147483647) ∧ (-2147483648 ≤ i3 - (x0_26 * x1_33) ∧ i3 - (x0_26 * x1_33) ≤ 2147483647) ∧ (-2147483648 ≤ i4 + 1 ∧ i4 + 1 ≤ 2147483647) then (kf_243 n dp e 1 I1_33 L1_33 i1 i2 (i3 - (x0_26 * x1_33)) (i4 + 1)) else none))) else none))) else none))) P_) : Ev (fun n => kf_243 n dp e 1 I L i1 i2 i3 i4) P_ := Ev_step (fun n => ke_243_1 n dp e I L i1 i2 i3 i4) h
set_option maxRecDepth 100000 in
theorem ev_243_0 {dp : Nat} {e : EN} {I : JI} {L : JI} {i1 : Int} {i2 : Int} {i3 : Int} {i4 : Int} {P_ : (Int × JI × JI) → Prop} (h : Ev (fun n => (if 1 ≤ dp then ((kf_240 n (dp - 1) e 0 I L i1).bind (fun ⟨x0_3, I0_3, L0_3⟩ => (if 1 ≤ dp then ((kf_244 n (dp - 1) e 0 I0_3 L0_3 x0_3 i2).bind (fun ⟨x1_7, I1_7, L1_7⟩ => (kf_243 n dp e 1 I1_7 L1_7 i1 i2 x1_7 0))) else none))) else none)) P_) : Ev (fun n => kf_243 n dp e 0 I L i1 i2 i3 i4) P_ := Ev_step (fun n => ke_243_0 n dp e I L i1 i2 i3 i4) h
set_option maxRecDepth 100000 in
theorem ev_79_1 {dp : Nat} {e : EN} {I : JI} {L : JI} {i1 : Int} {i2 : Int} {i3 : Int} {P_ : (Int × JI × JI) → Prop} (h : Ev (fun n => (some ((1 : Int), I, L))) P_) : Ev (fun n => kf_79 n dp e 1 I L i1 i2 i3) P_ := Ev_step (fun n => ke_79_1 n dp e I L i1 i2 i3) h
set_option maxRecDepth 100000 in
theorem ev_79_0 {dp : Nat} {e : EN} {I : JI} {L : JI} {i1 : Int} {i2 : Int} {i3 : Int} {P_ : (Int × JI × JI) → Prop} (h : Ev (fun n => (if 1 ≤ dp then ((kf_78 n (dp - 1) e 0 I L i1 i2 0 0).bind (fun ⟨x0_3, I0_3, L0_3⟩ => (if x0_3 < 0 then (kf_79 n dp e 1 I0_3 L0_3 i1 i2 x0_3) else ((e.2.2 1 7).bind (fun b_21 => (if (b_21 < e.1) ∧ ((e.2.1 b_21).1 = 10) then ((e.2.2 b_21 5).bind (fun b_24 => (if ((b_24 < e.1) ∧ (((e.2.1 b_24).1 = 13) ∧ ((e.2.1 b_24).2 < (2 ^ 31)))) ∧ (0 ≤ i1 ∧ i1 < (((e.2.1 b_24).2 : Nat) : Int)) then (if 1 ≤ dp then ((kf_72 n (dp - 1) e 0 I0_3 L0_3 (I0_3 b_24 i1) i2).bind (fun ⟨x1_30, I1_30, L1_30⟩ => (if (-2147483648 ≤ x0_3 * 100 ∧ x0_3 * 100 ≤ 2147483647) ∧ (-2147483648 ≤ (I0_3 1 12) * x1_30 ∧ (I0_3 1 12) * x1_30 ≤ 2147483647) then (if (x0_3 * 100) ≤ ((I0_3 1 12) * x1_30) then (some ((0 : Int), I1_30, L1_30)) else (kf_79 n dp e 1 I1_30 L1_30 i1 i2 x0_3)) else none))) else none) else none))) else none)))))) else none)) P_) : Ev (fun n => kf_79 n dp e 0 I L i1 i2 i3) P_ := Ev_step (fun n => ke_79_0 n dp e I L i1 i2 i3) h
set_option maxRecDepth 100000 in
theorem ev_242_0 {dp : Nat} {e : EN} {I : JI} {L : JI} {i1 : Int} {i2 : Int} {i3 : Int} {i4 : Int} {P_ : (Int × JI × JI) → Prop} (h : Ev (fun n => (stI (w2 I 105 0 0) (fun I_2 => (if 1 ≤ dp then ((kf_239 n (dp - 1) e 0 I_2 L i1).bind (fun ⟨x0_7, I0_7, L0_7⟩ => (if x0_7 = 0 then (some (((-100000) : Int), I0_7, L0_7)) else (if 1 ≤ dp then ((kf_197 n (dp - 1) e 0 I0_7 L0_7 i2).bind (fun ⟨x1_14, I1_14, L1_14⟩ => (if x1_14 = 0 then (some (((-100000) : Int), I1_14, L1_14)) else (if 1 ≤ dp then ((kf_243 n (dp - 1) e 0 I1_14 L1_14 i1 i2 0 0).bind (fun ⟨x2_27, I2_27, L2_27⟩ => (if i3 = 0 then (if 1 ≤ dp then ((kf_245 n (dp - 1) e 0 I2_27 L2_27 i1 i2).bind (fun ⟨x3_71, I3_71, L3_71⟩ => (if x3_71 = 0 then (some ((0 : Int), I3_71, L3_71)) else (some ((1 : Int), I3_71, L3_71))))) else none) else (if i3 = 1 then (if 1 ≤ dp then ((kf_250 n (dp - 1) e 0 I2_27 L2_27 i1 i2).bind (fun ⟨x3_86, I3_86, L3_86⟩ => (some ((x3_86 : Int), I3_86, L3_86)))) else none) else (if i3 = 2 then (if 1 ≤ dp then ((kf_251 n (dp - 1) e 0 I2_27 L2_27 i1 i2).bind (fun ⟨x3_93, I3_93, L3_93⟩ => (some ((x3_93 : Int), I3_93, L3_93)))) else none) else (if i3 = 3 then (some ((x2_27 : Int), I2_27, L2_27)) else (if i3 = 4 then (if x2_27 < 0 then (kf_242 n dp e 1 I2_27 L2_27 i1 i2 i3 x2_27) else (if 1 ≤ dp then ((kf_240 n (dp - 1) e 0 I2_27 L2_27 i1).bind (fun ⟨x3_122, I3_122, L3_122⟩ => (if 1 ≤ dp then ((kf_244 n (dp - 1) e 0 I3_122 L3_122 x3_122 i2).bind (fun ⟨x4_126, I4_126, L4_126⟩ => (if (-9223372036854775808 ≤ x2_27 * 100 ∧ x2_27 * 100 ≤ 9223372036854775807) ∧ (-9223372036854775808 ≤ (I2_27 107 5) * x4_126 ∧ (I2_27 107 5) * x4_126 ≤ 9223372036854775807) then (if (x2_27 * 100) ≤ ((I2_27 107 5) * x4_126) then (some ((0 : Int), I4_126, L4_126)) else (kf_242 n dp e 1 I4_126 L4_126 i1 i2 i3 x2_27)) else none))) else none))) else none)) else (some (((-100000) : Int), I2_27, L2_27))))))))) else none)))) else none)))) else none)))) P_) : Ev (fun n => kf_242 n dp e 0 I L i1 i2 i3 i4) P_ := Ev_step (fun n => ke_242_0 n dp e I L i1 i2 i3 i4) h
set_option maxRecDepth 100000 in
theorem ev_242_1 {dp : Nat} {e : EN} {I : JI} {L : JI} {i1 : Int} {i2 : Int} {i3 : Int} {i4 : Int} {P_ : (Int × JI × JI) → Prop} (h : Ev (fun n => (some ((1 : Int), I, L))) P_) : Ev (fun n => kf_242 n dp e 1 I L i1 i2 i3 i4) P_ := Ev_step (fun n => ke_242_1 n dp e I L i1 i2 i3 i4) h
set_option maxRecDepth 100000 in
theorem ev_69_0 {dp : Nat} {e : EN} {I : JI} {L : JI} {i1 : Int} {i2 : Int} {i3 : Int} {P_ : (Int × JI × JI) → Prop} (h : Ev (fun n => ((e.2.2 1 7).bind (fun b_6 => (if (b_6 < e.1) ∧ ((e.2.1 b_6).1 = 10) then (if 1 ≤ dp then (if -2147483648 ≤ (I b_6 11) - 1 ∧ (I b_6 11) - 1 ≤ 2147483647 then ((kf_14 n (dp - 1) e 0 I L i1 0 ((I b_6 11) - 1)).bind (fun ⟨x0_14, I0_14, L0_14⟩ => (if x0_14 = 0 then (some (((-100000) : Int), I0_14, L0_14)) else (if 1 ≤ dp then ((kf_14 n (dp - 1) e 0 I0_14 L0_14 i2 0 2).bind (fun ⟨x1_23, I1_23, L1_23⟩ => (if x1_23 = 0 then (some (((-100000) : Int), I1_23, L1_23)) else (if i3 = 0 then (if 1 ≤ dp then ((kf_70 n (dp - 1) e 0 I1_23 L1_23 i1 i2).bind (fun ⟨x2_74, I2_74, L2_74⟩ => (if x2_74 = 0 then (some ((0 : Int), I2_74, L2_74)) else (some ((1 : Int), I2_74, L2_74))))) else none) else (if i3 = 1 then (if 1 ≤ dp then ((kf_77 n (dp - 1) e 0 I1_23 L1_23 1 i1 i2 0 0).bind (fun ⟨x2_93, I2_93, L2_93⟩ => (some ((x2_93 : Int), I2_93, L2_93)))) else none) else (if i3 = 2 then (if 1 ≤ dp then ((kf_77 n (dp - 1) e 0 I1_23 L1_23 2 i1 i2 0 0).bind (fun ⟨x2_104, I2_104, L2_104⟩ => (some ((x2_104 : Int), I2_104, L2_104)))) else none) else (if i3 = 3 then (if 1 ≤ dp then ((kf_78 n (dp - 1) e 0 I1_23 L1_23 i1 i2 0 0).bind (fun ⟨x2_114, I2_114, L2_114⟩ => (some ((x2_114 : Int), I2_114, L2_114)))) else none) else (if i3 = 4 then (if 1 ≤ dp then ((kf_79 n (dp - 1) e 0 I1_23 L1_23 i1 i2 0).bind (fun ⟨x2_124, I2_124, L2_124⟩ => (if x2_124 = 0 then (some ((0 : Int), I2_124, L2_124)) else (some ((1 : Int), I2_124, L2_124))))) else none) else (some (((-100000) : Int), I1_23, L1_23)))))))))) else none)))) else none) else none) else none)))) P_) : Ev (fun n => kf_69 n dp e 0 I L i1 i2 i3) P_ := Ev_step (fun n => ke_69_0 n dp e I L i1 i2 i3) h
set_option maxRecDepth 100000 in
theorem ev_245_0 {dp : Nat} {e : EN} {I : JI} {L : JI} {i1 : Int} {i2 : Int} {P_ : (Int × JI × JI) → Prop} (h : Ev (fun n => (if 1 ≤ dp then ((kf_246 n (dp - 1) e 0 I L 2 i1 i2 0 1 0 0 0 0).bind (fun ⟨x0_6, I0_6, L0_6⟩ => (if x0_6 = 1 then (some ((1 : Int), I0_6, L0_6)) else (some ((0 : Int), I0_6, L0_6))))) else none)) P_) : Ev (fun n => kf_245 n dp e 0 I L i1 i2) P_ := Ev_step (fun n => ke_245_0 n dp e I L i1 i2) h
set_option maxRecDepth 100000 in
theorem ev_250_0 {dp : Nat} {e : EN} {I : JI} {L : JI} {i1 : Int} {i2 : Int} {P_ : (Int × JI × JI) → Prop} (h : Ev (fun n => (if 1 ≤ dp then ((kf_246 n (dp - 1) e 0 I L 0 i1 i2 1 60 0 0 0 0).bind (fun ⟨x0_7, I0_7, L0_7⟩ => (some ((x0_7 : Int), I0_7, L0_7)))) else none)) P_) : Ev (fun n => kf_250 n dp e 0 I L i1 i2) P_ := Ev_step (fun n => ke_250_0 n dp e I L i1 i2) h
set_option maxRecDepth 100000 in
theorem ev_251_0 {dp : Nat} {e : EN} {I : JI} {L : JI} {i1 : Int} {i2 : Int} {P_ : (Int × JI × JI) → Prop} (h : Ev (fun n => (if 1 ≤ dp then ((kf_246 n (dp - 1) e 0 I L 1 i1 i2 0 3 0 0 0 0).bind (fun ⟨x0_6, I0_6, L0_6⟩ => (some ((x0_6 : Int), I0_6, L0_6)))) else none)) P_) : Ev (fun n => kf_251 n dp e 0 I L i1 i2) P_ := Ev_step (fun n => ke_251_0 n dp e I L i1 i2) h
end
/-! GOES -/
def wsf (ρ : Int → Int) (w c : Int) : Int → Int := fun p => ρ (290 + 11 * w + 1 + p) * ρ (10 + 3 * p + c)
def wst (ρ : Int → Int) (w c : Int) (n : Nat) : Int := ρ (10 + 3 * ρ (290 + 11 * w) + c) - sm (wsf ρ w c) n
theorem mulb {a b A B : Int} (ha : 0 ≤ a ∧ a ≤ A) (hb : 0 ≤ b ∧ b ≤ B) : 0 ≤ a * b ∧ a * b ≤ A * B := ⟨Int.mul_nonneg ha.1 hb.1, Int.mul_le_mul ha.2 hb.2 hb.1 (by omega)⟩
theorem wst_b {J : JI} {tr : Nat} {ρ : Int → Int} {w c : Int} (hA : AskO J tr ρ) (hw : 0 ≤ w ∧ w < ρ 9) (hc : 0 ≤ c ∧ c < 3) : (∀ p, 0 ≤ p → p < 10 → 0 ≤ wsf ρ w c p ∧ wsf ρ w c p ≤ 35996400) ∧ ∀ n : Nat, n ≤ 10 → -359964000 ≤ wst ρ w c n ∧ wst ρ w c n ≤ 9999 := by
  obtain ⟨hf, hp⟩ := fc_g hA hw hc
  obtain ⟨hTT, h8, h9, h4, h6⟩ := hA
  obtain ⟨_, _, a3, _⟩ := hTT.1.1 w hw.1 hw.2
  have b1 : ∀ p, 0 ≤ p → p < 10 → 0 ≤ wsf ρ w c p ∧ wsf ρ w c p ≤ 35996400 := by
    intro p p0 p1
    have x := (a3 p p0 p1).2
    dsimp only at x
    have e1 : 290 + (11 * w + 1 + p) = 290 + 11 * w + 1 + p := by omega
    rw [e1] at x
    have y := h6 (10 + 3 * p + c) (by omega) (by omega)
    exact mulb (A := 3600) (B := 9999) ⟨x.1, x.2.1⟩ y
  refine ⟨b1, fun n hn => ?_⟩
  have s := sm_b (B := 35996400) n (fun i i0 i1 => b1 i i0 (by omega))
  have y := h6 (10 + 3 * ρ (290 + 11 * w) + c) (by omega) (by omega)
  unfold wst
  omega
section GOES
variable {dp : Nat} {e : EN}
theorem K78 {J M : JI} {tr : Nat} {w c x1 x2 : Int} {ρ : Int → Int} (htr : tr = 9 ∨ tr = 93) (hT : TrO e tr) (h17 : e.2.2 1 7 = some tr) (hd : 1 ≤ dp) (hA : AskO J tr ρ) (hC : ClsO J tr ρ) (hw : 0 ≤ w ∧ w < ρ 9) (hc : 0 ≤ c ∧ c < 3) : Ev (fun n => kf_78 n dp e 0 J M w c x1 x2) (fun r => r = (wst ρ w c 10, J, M)) := by
  obtain ⟨hf, hp⟩ := fc_g hA hw hc
  obtain ⟨b1, b2⟩ := wst_b hA hw hc
  have hA' := hA
  obtain ⟨hTT, h8, h9, h4, h6⟩ := hA
  obtain ⟨_, _, a3, _⟩ := hTT.1.1 w hw.1 hw.2
  obtain ⟨c1, c2, c3, c4, c5⟩ := hC
  have t6 := hT.2.2.2.2.2.2.1
  have t8 := hT.2.2.2.2.2.2.2.2.1
  have key : ∀ k : Nat, k ≤ 10 → Ev (fun n => kf_78 n dp e 1 J M w c (wst ρ w c k) k) (fun r => r = (wst ρ w c 10, J, M)) := by
    refine dec_ind 10 (fun k hk ih => ?_)
    refine ev_78_1 ?_
    by_cases ck : k < 10
    · have ih := ih ck
      have e8 : J (tr + 8) (w * 10 + k) = ρ (290 + 11 * w + 1 + k) := by
        have := (a3 k (by omega) (by omega)).1
        dsimp only at this
        rw [this]
        congr 1
        omega
      have e3 : J 3 (k * 3 + c) = ρ (10 + 3 * k + c) := by
        rw [c3 _ (by omega) (by omega)]
        congr 1
        omega
      have bk := b1 k (by omega) (by omega)
      have bs := b2 k (by omega)
      have bn := b2 (k + 1) (by omega)
      have es : wst ρ w c (k + 1) = wst ρ w c k - wsf ρ w c k := by unfold wst; rw [sm_s]; omega
      refine Ev_f (by omega) (Ev_R h17 (Ev_t hT.1 (Ev_R t8.1 (Ev_t (by omega) (Ev_t ⟨⟨t8.2.1, t8.2.2.1, by rw [t8.2.2.2]; decide⟩, by rw [t8.2.2.2]; omega⟩ (Ev_t hd (Ev_call (K72 (by omega) hc) ?_)))))))
      dsimp only
      rw [e8, e3]
      have ew : ρ (290 + 11 * w + 1 + k) * ρ (10 + 3 * k + c) = wsf ρ w c k := rfl
      rw [ew]
      refine Ev_t (by omega) (Ev_st (Ev_t (by omega) ?_))
      rw [← es]
      exact ih
    · have : k = 10 := by omega
      subst this
      exact Ev_t (by decide) (Ev_ret rfl)
  refine ev_78_0 ?_
  refine Ev_R h17 (Ev_t hT.1 (Ev_R t6.1 (Ev_t ⟨⟨t6.2.1, t6.2.2.1, by rw [t6.2.2.2]; decide⟩, by rw [t6.2.2.2]; omega⟩ (Ev_t hd ?_))))
  rw [c1 w hw.1 hw.2]
  refine Ev_call (K72 hp hc) ?_
  dsimp only
  have e0 : J 3 (ρ (290 + 11 * w) * 3 + c) = wst ρ w c 0 := by
    rw [c3 _ (by omega) (by omega)]
    unfold wst
    show _ = _ - 0
    rw [Int.sub_zero]
    congr 1
    omega
  rw [e0]
  exact key 0 (by omega)
theorem K243 {J K L : JI} {tr : Nat} {w c x1 x2 : Int} (hd : 1 ≤ dp) (hA : AskO J tr (K 107)) (hw : 0 ≤ w ∧ w < K 107 9) (hc : 0 ≤ c ∧ c < 3) : Ev (fun n => kf_243 n dp e 0 K L w c x1 x2) (fun r => r = (wst (K 107) w c 10, K, L)) := by
  obtain ⟨hf, hp⟩ := fc_g hA hw hc
  obtain ⟨b1, b2⟩ := wst_b hA hw hc
  obtain ⟨hTT, h8, h9, h4, h6⟩ := hA
  have key : ∀ k : Nat, k ≤ 10 → Ev (fun n => kf_243 n dp e 1 K L w c (wst (K 107) w c k) k) (fun r => r = (wst (K 107) w c 10, K, L)) := by
    refine dec_ind 10 (fun k hk ih => ?_)
    refine ev_243_1 ?_
    by_cases ck : k < 10
    · have ih := ih ck
      have bk := b1 k (by omega) (by omega)
      have bs := b2 k (by omega)
      have bn := b2 (k + 1) (by omega)
      have es : wst (K 107) w c (k + 1) = wst (K 107) w c k - wsf (K 107) w c k := by unfold wst; rw [sm_s]; omega
      refine Ev_f (by omega) (Ev_t hd (Ev_call (K241 (by omega) (by omega)) (Ev_t hd (Ev_call (K244 (by omega) hc) ?_))))
      dsimp only
      have ew : K 107 (290 + 11 * w + 1 + k) * K 107 (10 + 3 * k + c) = wsf (K 107) w c k := rfl
      rw [ew]
      refine Ev_t (by omega) ?_
      rw [← es]
      exact ih
    · have : k = 10 := by omega
      subst this
      exact Ev_t (by decide) (Ev_ret rfl)
  refine ev_243_0 ?_
  refine Ev_t hd (Ev_call (K240 (by omega)) (Ev_t hd (Ev_call (K244 hp hc) ?_)))
  have e0 : K 107 (10 + 3 * K 107 (290 + 11 * w) + c) = wst (K 107) w c 0 := by
    unfold wst
    show _ = _ - 0
    rw [Int.sub_zero]
  dsimp only
  rw [e0]
  exact key 0 (by omega)
theorem K79 {J M : JI} {tr : Nat} {w c x1 : Int} {ρ : Int → Int} (htr : tr = 9 ∨ tr = 93) (hT : TrO e tr) (h17 : e.2.2 1 7 = some tr) (hd : 2 ≤ dp) (hA : AskO J tr ρ) (hC : ClsO J tr ρ) (h12 : J 1 12 = ρ 5) (h5 : 0 ≤ ρ 5 ∧ ρ 5 ≤ 100) (hw : 0 ≤ w ∧ w < ρ 9) (hc : 0 ≤ c ∧ c < 3) : Ev (fun n => kf_79 n dp e 0 J M w c x1) (fun r => r = ((if wst ρ w c 10 < 0 ∨ ρ 5 * ρ (10 + 3 * ρ (290 + 11 * w) + c) < wst ρ w c 10 * 100 then 1 else 0), J, M)) := by
  obtain ⟨hf, hp⟩ := fc_g hA hw hc
  have b2 := (wst_b hA hw hc).2 10 (by omega)
  have hA' := hA
  obtain ⟨hTT, h8, h9, h4, h6⟩ := hA
  have hC' := hC
  obtain ⟨c1, c2, c3, c4, c5⟩ := hC
  have t6 := hT.2.2.2.2.2.2.1
  have y := h6 (10 + 3 * ρ (290 + 11 * w) + c) (by omega) (by omega)
  have pm := mulb h5 y
  have fin : ∀ x, (wst ρ w c 10 < 0 ∨ ρ 5 * ρ (10 + 3 * ρ (290 + 11 * w) + c) < wst ρ w c 10 * 100) → Ev (fun n => kf_79 n dp e 1 J M w c x) (fun r => r = ((if wst ρ w c 10 < 0 ∨ ρ 5 * ρ (10 + 3 * ρ (290 + 11 * w) + c) < wst ρ w c 10 * 100 then 1 else 0), J, M)) := by
    intro x hx
    refine ev_79_1 ?_
    exact Ev_ret (by rw [if_pos hx])
  refine ev_79_0 ?_
  refine Ev_t (by omega) (Ev_call (K78 htr hT h17 (by omega) hA' hC' hw hc) ?_)
  dsimp only
  refine Ev_c (fun z => fin _ (Or.inl z)) (fun z => ?_)
  refine Ev_R h17 (Ev_t hT.1 (Ev_R t6.1 (Ev_t ⟨⟨t6.2.1, t6.2.2.1, by rw [t6.2.2.2]; decide⟩, by rw [t6.2.2.2]; omega⟩ (Ev_t (by omega) ?_))))
  rw [c1 w hw.1 hw.2]
  refine Ev_call (K72 hp hc) ?_
  dsimp only
  have e0 : J 3 (ρ (290 + 11 * w) * 3 + c) = ρ (10 + 3 * ρ (290 + 11 * w) + c) := by
    rw [c3 _ (by omega) (by omega)]
    congr 1
    omega
  simp only [e0, h12]
  refine Ev_t (by omega) (Ev_c (fun q => Ev_ret ?_) (fun q => fin _ (Or.inr (by omega))))
  rw [if_neg (by omega)]
def mGo (J J' M M' : JI) : Prop := (∀ a i, ¬ (a = 21 ∧ (i = 3 ∨ i = 4)) → ¬ a = 22 → ¬ a = 23 → ¬ (a = 105 ∧ i = 29) → J' a i = J a i) ∧ ∀ a i, ¬ a = 118 → ¬ a = 119 → ¬ (a = 105 ∧ (i = 30 ∨ i = 31)) → M' a i = M a i
theorem o_goes {J M : JI} {tr : Nat} {w c x : Int} (htr : tr = 9 ∨ tr = 93) (hT : TrO e tr) (h17 : e.2.2 1 7 = some tr) (hd : 6 ≤ dp) (hA : AskO J tr (J 107)) (hC : ClsO J tr (J 107)) (h12 : J 1 12 = J 107 5) (h5 : 0 ≤ J 107 5 ∧ J 107 5 ≤ 100) (h0 : J 105 0 = 0) : Ev (fun n => kf_69 n dp e 0 J M w c x) (fun r => Ev (fun n => kf_242 n dp e 0 r.2.1 r.2.2 w c x 0) (fun q => ∃ a, r.1 = a ∧ q.1 = a ∧ mGo J q.2.1 M q.2.2)) := by
  have h9 := hA.2.2.1
  have h8 := hA.2.1
  have e11 : J tr 11 = J 107 9 := hC.2.2.2.2
  /- the reference's way to the question -/
  have ref : ∀ (K L : JI) (Q : Int × JI × JI → Prop), K 107 = J 107 → K 105 0 = 0 → AskO K tr (K 107) → (0 ≤ w ∧ w < J 107 9) → (0 ≤ c ∧ c < 3) → (x = 0 → Ev (fun n => kf_245 n (dp - 1) e 0 K L w c) (fun r => (r.1 = 0 → Q (0, r.2.1, r.2.2)) ∧ (¬ r.1 = 0 → Q (1, r.2.1, r.2.2)))) → (x = 1 → Ev (fun n => kf_250 n (dp - 1) e 0 K L w c) Q) → (x = 2 → Ev (fun n => kf_251 n (dp - 1) e 0 K L w c) Q) → (x = 3 → Q (wst (J 107) w c 10, K, L)) → (x = 4 → Q ((if wst (J 107) w c 10 < 0 ∨ J 107 5 * J 107 (10 + 3 * J 107 (290 + 11 * w) + c) < wst (J 107) w c 10 * 100 then 1 else 0), K, L)) → (¬ x = 0 → ¬ x = 1 → ¬ x = 2 → ¬ x = 3 → ¬ x = 4 → Q (-100000, K, L)) → Ev (fun n => kf_242 n dp e 0 K L w c x 0) Q := by
    intro K L Q k7 k0 kA hw hc g0 g1 g2 g3 g4 g5
    obtain ⟨hf, hp⟩ := fc_g hA hw hc
    have b2 := (wst_b hA hw hc).2 10 (by omega)
    have y := hA.2.2.2.2 (10 + 3 * J 107 (290 + 11 * w) + c) (by omega) (by omega)
    have pm := mulb h5 y
    refine ev_242_0 ?_
    refine Ev_th k0 (Ev_t (by omega) (Ev239t (by rw [k7]; omega) (by rw [k7]; exact hw) ?_))
    dsimp only
    refine Ev_f (by decide) (Ev_t (by omega) (Ev197t (by omega) (by omega) ?_))
    dsimp only
    refine Ev_f (by decide) (Ev_t (by omega) (Ev_call (K243 (by omega) kA (by rw [k7]; exact hw) hc) ?_))
    dsimp only
    simp only [k7]
    refine Ev_c (fun z => Ev_t (by omega) (Ev_bind (g0 z) (fun r hr => ?_))) (fun z0 => Ev_c (fun z => Ev_t (by omega) (Ev_bind (g1 z) (fun r hr => Ev_ret hr))) (fun z1 => Ev_c (fun z => Ev_t (by omega) (Ev_bind (g2 z) (fun r hr => Ev_ret hr))) (fun z2 => Ev_c (fun z => Ev_ret (g3 z)) (fun z3 => Ev_c (fun z => ?_) (fun z4 => Ev_ret (g5 z0 z1 z2 z3 z4))))))
    · exact Ev_c (fun q => Ev_ret (hr.1 q)) (fun q => Ev_ret (hr.2 q))
    · have g4 := g4 z
      have one : ∀ x4 : Int, (wst (J 107) w c 10 < 0 ∨ J 107 5 * J 107 (10 + 3 * J 107 (290 + 11 * w) + c) < wst (J 107) w c 10 * 100) → Ev (fun n => kf_242 n dp e 1 K L w c x x4) Q := by
        intro x4 hx
        rw [if_pos hx] at g4
        refine ev_242_1 ?_
        exact Ev_ret g4
      refine Ev_c (fun q => one _ (Or.inl q)) (fun q => Ev_t (by omega) (Ev_call (K240 (by omega)) (Ev_t (by omega) ?_)))
      dsimp only
      simp only [k7]
      refine Ev_call (K244 hp hc) ?_
      dsimp only
      simp only [k7]
      refine Ev_t (by omega) (Ev_c (fun q2 => Ev_ret ?_) (fun q2 => one _ (Or.inr (by omega))))
      rw [if_neg (by omega)] at g4
      exact g4
  refine ev_69_0 ?_
  refine Ev_R h17 (Ev_t hT.1 (Ev_t (by omega) (Ev_t (by omega) ?_)))
  have same : mGo J J M M := ⟨fun _ _ _ _ _ _ => rfl, fun _ _ _ _ _ => rfl⟩
  refine Ev14 (fun hw => ?_) (fun hw => ?_) <;> dsimp only
  · refine Ev_f (by decide) (Ev_t (by omega) (Ev14 (fun hc => ?_) (fun hc => ?_))) <;> dsimp only
    · have hw' : 0 ≤ w ∧ w < J 107 9 := by omega
      have hc' : 0 ≤ c ∧ c < 3 := by omega
      /- the state behind the class's question -/
      have ak : ∀ J1 : JI, FrG J J1 → J1 107 = J 107 ∧ J1 105 0 = 0 ∧ AskO J1 tr (J1 107) := by
        intro J1 f
        have e7 : J1 107 = J 107 := funext fun i => f 107 i (by omega) (by omega) (by omega)
        refine ⟨e7, (f 105 0 (by omega) (by omega) (by omega)).trans h0, ?_⟩
        rw [e7]
        exact ⟨TrT_j (fun a i g1 g2 => f a i (by omega) (by omega) (by omega)) hA.1, hA.2⟩
      have mg : ∀ (J1 J2 M2 : JI), FrG J J1 → (∀ a i, ¬ (a = 105 ∧ i = 29) → J2 a i = J1 a i) → (∀ a i, ¬ a = 118 → ¬ a = 119 → ¬ (a = 105 ∧ (i = 30 ∨ i = 31)) → M2 a i = M a i) → mGo J J2 M M2 := fun J1 J2 M2 f1 f2 f3 => ⟨fun a i g1 g2 g3 g4 => (f2 a i g4).trans (f1 a i g1 g2 g3), f3⟩
      refine Ev_f (by decide) (Ev_c (fun z => Ev_t (by omega) ?_) (fun z0 => Ev_c (fun z => Ev_t (by omega) ?_) (fun z1 => Ev_c (fun z => Ev_t (by omega) ?_) (fun z2 => Ev_c (fun z => Ev_t (by omega) ?_) (fun z3 => Ev_c (fun z => Ev_t (by omega) ?_) (fun z4 => Ev_ret ?_))))))
      · refine Ev_bind (K70 htr hT h17 (by omega) hA hC hw' hc') ?_
        rintro ⟨v, J1, M1⟩ ⟨q1, q2, q3⟩
        dsimp only at q1 q2 q3 ⊢
        subst q1
        obtain ⟨k7, k0, kA⟩ := ak J1 q2
        have m : Ev (fun n => kf_245 n (dp - 1) e 0 J1 M1 w c) (fun r => (r.1 = v ∧ (v = 0 ∨ v = 1)) ∧ mGo J r.2.1 M1 r.2.2) := by
          refine ev_245_0 ?_
          refine Ev_t (by omega) (Ev_bind (K246 (hd := 2) (df := 0) (mo := 1) kA (by rw [k7]; exact hw') hc' (by omega) (by omega) (by omega)) ?_)
          rintro ⟨u, K2, L2⟩ ⟨g1, g2, g3⟩
          dsimp only at g1 g2 g3 ⊢
          rw [k7] at g3
          have uv : u = v := g3.trans q3.symm
          have vb : v = 0 ∨ v = 1 := by rw [q3]; unfold clp; omega
          refine Ev_c (fun y => Ev_ret ⟨⟨?_, vb⟩, mg J1 K2 L2 q2 g1 g2⟩) (fun y => Ev_ret ⟨⟨?_, vb⟩, mg J1 K2 L2 q2 g1 g2⟩)
          · show (1 : Int) = v; omega
          · show (0 : Int) = v; omega
        refine Ev_c (fun y => Ev_ret ?_) (fun y => Ev_ret ?_)
        · refine ref J1 M1 _ k7 k0 kA hw' hc' (fun _ => Ev_mono m (fun r hr => ⟨fun q => ⟨0, rfl, rfl, hr.2⟩, fun q => absurd (hr.1.1.trans y) q⟩)) (fun q => absurd q (by omega)) (fun q => absurd q (by omega)) (fun q => absurd q (by omega)) (fun q => absurd q (by omega)) (fun q => absurd z q)
        · refine ref J1 M1 _ k7 k0 kA hw' hc' (fun _ => Ev_mono m (fun r hr => ⟨fun q => absurd (hr.1.1.symm.trans q) y, fun q => ⟨1, rfl, rfl, hr.2⟩⟩)) (fun q => absurd q (by omega)) (fun q => absurd q (by omega)) (fun q => absurd q (by omega)) (fun q => absurd q (by omega)) (fun q => absurd z q)
      · refine Ev_bind (K77 (hd := 0) (mo := 60) (df := 1) htr hT h17 (by omega) hA hC hw' hc' (by omega)) ?_
        rintro ⟨v, J1, M1⟩ ⟨q1, q2, q3⟩
        dsimp only at q1 q2 q3 ⊢
        subst q1
        obtain ⟨k7, k0, kA⟩ := ak J1 q2
        refine Ev_ret (ref J1 M1 _ k7 k0 kA hw' hc' (fun q => absurd q z0) (fun _ => ?_) (fun q => absurd q (by omega)) (fun q => absurd q (by omega)) (fun q => absurd q (by omega)) (fun _ q => absurd z q))
        refine ev_250_0 ?_
        refine Ev_t (by omega) (Ev_bind (K246 (hd := 0) (df := 1) (mo := 60) kA (by rw [k7]; exact hw') hc' (by omega) (by omega) (by omega)) ?_)
        rintro ⟨u, K2, L2⟩ ⟨g1, g2, g3⟩
        dsimp only at g1 g2 g3 ⊢
        rw [k7] at g3
        exact Ev_ret ⟨v, rfl, g3.trans q3.symm, mg J1 K2 L2 q2 g1 g2⟩
      · refine Ev_bind (K77 (hd := 1) (mo := 3) (df := 0) htr hT h17 (by omega) hA hC hw' hc' (by omega)) ?_
        rintro ⟨v, J1, M1⟩ ⟨q1, q2, q3⟩
        dsimp only at q1 q2 q3 ⊢
        subst q1
        obtain ⟨k7, k0, kA⟩ := ak J1 q2
        refine Ev_ret (ref J1 M1 _ k7 k0 kA hw' hc' (fun q => absurd q z0) (fun q => absurd q z1) (fun _ => ?_) (fun q => absurd q (by omega)) (fun q => absurd q (by omega)) (fun _ _ q => absurd z q))
        refine ev_251_0 ?_
        refine Ev_t (by omega) (Ev_bind (K246 (hd := 1) (df := 0) (mo := 3) kA (by rw [k7]; exact hw') hc' (by omega) (by omega) (by omega)) ?_)
        rintro ⟨u, K2, L2⟩ ⟨g1, g2, g3⟩
        dsimp only at g1 g2 g3 ⊢
        rw [k7] at g3
        exact Ev_ret ⟨v, rfl, g3.trans q3.symm, mg J1 K2 L2 q2 g1 g2⟩
      · refine Ev_call (K78 htr hT h17 (by omega) hA hC hw' hc') (Ev_ret ?_)
        refine ref J M _ rfl h0 hA hw' hc' (fun q => absurd q z0) (fun q => absurd q z1) (fun q => absurd q z2) (fun _ => ⟨_, rfl, rfl, same⟩) (fun q => absurd q (by omega)) (fun _ _ _ q => absurd z q)
      · refine Ev_call (K79 htr hT h17 (by omega) hA hC h12 h5 hw' hc') ?_
        dsimp only
        refine Ev_c (fun y => Ev_ret ?_) (fun y => Ev_ret ?_)
        · refine ref J M _ rfl h0 hA hw' hc' (fun q => absurd q z0) (fun q => absurd q z1) (fun q => absurd q z2) (fun q => absurd q z3) (fun _ => ⟨0, rfl, y, same⟩) (fun _ _ _ _ q => absurd z q)
        · refine ref J M _ rfl h0 hA hw' hc' (fun q => absurd q z0) (fun q => absurd q z1) (fun q => absurd q z2) (fun q => absurd q z3) (fun _ => ⟨1, rfl, ?_, same⟩) (fun _ _ _ _ q => absurd z q)
          dsimp only
          split
          · rfl
          · rename_i q
            exact absurd (if_neg q) y
      · exact ref J M _ rfl h0 hA hw' hc' (fun q => absurd q z0) (fun q => absurd q z1) (fun q => absurd q z2) (fun q => absurd q z3) (fun q => absurd q z4) (fun _ _ _ _ _ => ⟨_, rfl, rfl, same⟩)
    · refine Ev_t rfl (Ev_ret ?_)
      dsimp only
      refine ev_242_0 ?_
      refine Ev_th h0 (Ev_t (by omega) (Ev239t (by omega) (by omega) ?_))
      dsimp only
      refine Ev_f (by decide) (Ev_t (by omega) (Ev197f (by omega) (by omega) ?_))
      dsimp only
      exact Ev_t rfl (Ev_ret ⟨_, rfl, rfl, same⟩)
  · refine Ev_t rfl (Ev_ret ?_)
    dsimp only
    refine ev_242_0 ?_
    refine Ev_th h0 (Ev_t (by omega) (Ev239f (by omega) (by omega) ?_))
    dsimp only
    exact Ev_t rfl (Ev_ret ⟨_, rfl, rfl, same⟩)
end GOES
