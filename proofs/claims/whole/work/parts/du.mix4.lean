section
set_option maxRecDepth 100000 in
theorem ev_164_2 {dp : Nat} {e : EN} {I : JI} {L : JI} {i1 : Int} {i2 : Int} {i3 : Int} {i4 : Int} {i5 : Int} {P_ : (JI × JI) → Prop} (h : Ev (fun n => (stI (w2 I 81 8 i1) (fun I_50 => (stI (w2 I_50 81 9 i2) (fun I_55 => (stI (w2 I_55 81 10 i3) (fun I_60 => (stI (w2 I_60 81 12 0) (fun I_65 => (stI (w2 I_65 81 13 1000000000) (fun I_71 => (stI (w2 I_71 81 14 0) (fun I_76 => (if -2147483648 ≤ (bL 1 (I_76 81 6)) - 1 ∧ (bL 1 (I_76 81 6)) - 1 ≤ 2147483647 then (if 0 ≤ ((bL 1 (I_76 81 6)) - 1) ∧ ((bL 1 (I_76 81 6)) - 1) < 256 then (stI (I_76 83 ((bL 1 (I_76 81 6)) - 1)) (fun v_92 => (kf_164 n dp e 3 I_76 L i1 i2 i3 v_92 0))) else none) else none)))))))))))))) P_) : Ev (fun n => kf_164 n dp e 2 I L i1 i2 i3 i4 i5) P_ := Ev_step (fun n => ke_164_2 n dp e I L i1 i2 i3 i4 i5) h
set_option maxRecDepth 100000 in
theorem ev_164_3 {dp : Nat} {e : EN} {I : JI} {L : JI} {i1 : Int} {i2 : Int} {i3 : Int} {i4 : Int} {i5 : Int} {P_ : (JI × JI) → Prop} (h : Ev (fun n => (if (bL 1 (I 81 7)) ≤ i5 then (some (I, L)) else (if 0 ≤ i5 ∧ i5 < 256 then (if i2 < (I 85 i5) then (kf_164 n dp e 4 I L i1 i2 i3 i4 i5) else (if 0 ≤ i5 ∧ i5 < 256 then (if -2147483648 ≤ (I 85 i5) + i4 ∧ (I 85 i5) + i4 ≤ 2147483647 then (if ((I 85 i5) + i4) < i1 then (kf_164 n dp e 4 I L i1 i2 i3 i4 i5) else (if 1 ≤ dp then ((kf_167 n (dp - 1) e 0 I L i5 0 0 0 0 0).bind (fun ⟨I0_136, L0_136⟩ => (kf_164 n dp e 4 I0_136 L0_136 i1 i2 i3 i4 i5))) else none)) else none) else none)) else none))) P_) : Ev (fun n => kf_164 n dp e 3 I L i1 i2 i3 i4 i5) P_ := Ev_step (fun n => ke_164_3 n dp e I L i1 i2 i3 i4 i5) h
set_option maxRecDepth 100000 in
theorem ev_164_4 {dp : Nat} {e : EN} {I : JI} {L : JI} {i1 : Int} {i2 : Int} {i3 : Int} {i4 : Int} {i5 : Int} {P_ : (JI × JI) → Prop} (h : Ev (fun n => (if -2147483648 ≤ i5 + 1 ∧ i5 + 1 ≤ 2147483647 then (kf_164 n dp e 3 I L i1 i2 i3 i4 (i5 + 1)) else none)) P_) : Ev (fun n => kf_164 n dp e 4 I L i1 i2 i3 i4 i5) P_ := Ev_step (fun n => ke_164_4 n dp e I L i1 i2 i3 i4 i5) h
set_option maxRecDepth 100000 in
theorem ev_164_1 {dp : Nat} {e : EN} {I : JI} {L : JI} {i1 : Int} {i2 : Int} {i3 : Int} {i4 : Int} {i5 : Int} {P_ : (JI × JI) → Prop} (h : Ev (fun n => (if (I 81 11) = 0 then (kf_164 n dp e 2 I L i1 i2 i3 0 0) else (if 1 ≤ dp then ((kf_165 n (dp - 1) e 0 I L 0 0).bind (fun ⟨I0_40, L0_40⟩ => (stI (w2 I0_40 81 11 0) (fun I_45 => (kf_164 n dp e 2 I_45 L0_40 i1 i2 i3 0 0))))) else none))) P_) : Ev (fun n => kf_164 n dp e 1 I L i1 i2 i3 i4 i5) P_ := Ev_step (fun n => ke_164_1 n dp e I L i1 i2 i3 i4 i5) h
set_option maxRecDepth 100000 in
theorem ev_164_0 {dp : Nat} {e : EN} {I : JI} {L : JI} {i1 : Int} {i2 : Int} {i3 : Int} {i4 : Int} {i5 : Int} {P_ : (JI × JI) → Prop} (h : Ev (fun n => (if (I 81 11) = 0 then (if i1 = (I 81 8) then (if i2 = (I 81 9) then (if i3 = (I 81 10) then (some (I, L)) else (kf_164 n dp e 1 I L i1 i2 i3 0 0)) else (kf_164 n dp e 1 I L i1 i2 i3 0 0)) else (kf_164 n dp e 1 I L i1 i2 i3 0 0)) else (kf_164 n dp e 1 I L i1 i2 i3 0 0))) P_) : Ev (fun n => kf_164 n dp e 0 I L i1 i2 i3 i4 i5) P_ := Ev_step (fun n => ke_164_0 n dp e I L i1 i2 i3 i4 i5) h
set_option maxRecDepth 100000 in
theorem ev_295_2 {dp : Nat} {e : EN} {I : JI} {L : JI} {i1 : Int} {i2 : Int} {i3 : Int} {i4 : Int} {i5 : Int} {i6 : Int} {i7 : Int} {i8 : Int} {i9 : Int} {i10 : Int} {i11 : Int} {i12 : Int} {P_ : (Int × JI × JI) → Prop} (h : Ev (fun n => (if (bL 1 (I 107 6)) ≤ i9 then (if i4 = 2 then (some ((i5 : Int), I, L)) else (if i7 = (-1) then (some (((-1) : Int), I, L)) else (if i4 = 0 then (some ((i6 : Int), I, L)) else (some ((i7 : Int), I, L))))) else (if (bA i9 (bX i8 (-1))) = 0 then (kf_295 n dp e 3 I L i1 i2 i3 i4 i5 i6 i7 i8 i9 0 0 0) else (kf_295 n dp e 5 I L i1 i2 i3 i4 i5 i6 i7 i8 i9 0 0 0)))) P_) : Ev (fun n => kf_295 n dp e 2 I L i1 i2 i3 i4 i5 i6 i7 i8 i9 i10 i11 i12) P_ := Ev_step (fun n => ke_295_2 n dp e I L i1 i2 i3 i4 i5 i6 i7 i8 i9 i10 i11 i12) h
set_option maxRecDepth 100000 in
theorem ev_295_5 {dp : Nat} {e : EN} {I : JI} {L : JI} {i1 : Int} {i2 : Int} {i3 : Int} {i4 : Int} {i5 : Int} {i6 : Int} {i7 : Int} {i8 : Int} {i9 : Int} {i10 : Int} {i11 : Int} {i12 : Int} {P_ : (Int × JI × JI) → Prop} (h : Ev (fun n => (if -2147483648 ≤ i9 + 1 ∧ i9 + 1 ≤ 2147483647 then (kf_295 n dp e 2 I L i1 i2 i3 i4 i5 i6 i7 i8 (i9 + 1) 0 0 0) else none)) P_) : Ev (fun n => kf_295 n dp e 5 I L i1 i2 i3 i4 i5 i6 i7 i8 i9 i10 i11 i12) P_ := Ev_step (fun n => ke_295_5 n dp e I L i1 i2 i3 i4 i5 i6 i7 i8 i9 i10 i11 i12) h
set_option maxRecDepth 100000 in
theorem ev_295_3 {dp : Nat} {e : EN} {I : JI} {L : JI} {i1 : Int} {i2 : Int} {i3 : Int} {i4 : Int} {i5 : Int} {i6 : Int} {i7 : Int} {i8 : Int} {i9 : Int} {i10 : Int} {i11 : Int} {i12 : Int} {P_ : (Int × JI × JI) → Prop} (h : Ev (fun n => (if (I 107 6) ≤ i12 then (if 1 ≤ dp then ((kf_193 n (dp - 1) e 0 I L i10 i1 i2).bind (fun ⟨x0_219, I0_219, L0_219⟩ => (if x0_219 = 0 then (kf_295 n dp e 5 I0_219 L0_219 i1 i2 i3 i4 i5 i6 i7 i8 i9 0 0 0) else (if -2147483648 ≤ i3 * i10 ∧ i3 * i10 ≤ 2147483647 then (if i11 < (i3 * i10) then (kf_295 n dp e 5 I0_219 L0_219 i1 i2 i3 i4 i5 i6 i7 i8 i9 0 0 0) else (if -2147483648 ≤ i11 - (i3 * i10) ∧ i11 - (i3 * i10) ≤ 2147483647 then (if i6 ≤ (i11 - (i3 * i10)) then (if i6 ≤ (i11 - (i3 * i10)) then (if -2147483648 ≤ i5 + 1 ∧ i5 + 1 ≤ 2147483647 then (kf_295 n dp e 5 I0_219 L0_219 i1 i2 i3 i4 (i5 + 1) i6 i7 i8 i9 0 0 0) else none) else (if -2147483648 ≤ i5 + 1 ∧ i5 + 1 ≤ 2147483647 then (kf_295 n dp e 5 I0_219 L0_219 i1 i2 i3 i4 (i5 + 1) (i11 - (i3 * i10)) i7 i8 i9 0 0 0) else none)) else (if i6 ≤ (i11 - (i3 * i10)) then (if -2147483648 ≤ i5 + 1 ∧ i5 + 1 ≤ 2147483647 then (kf_295 n dp e 5 I0_219 L0_219 i1 i2 i3 i4 (i5 + 1) i6 i9 i8 i9 0 0 0) else none) else (if -2147483648 ≤ i5 + 1 ∧ i5 + 1 ≤ 2147483647 then (kf_295 n dp e 5 I0_219 L0_219 i1 i2 i3 i4 (i5 + 1) (i11 - (i3 * i10)) i9 i8 i9 0 0 0) else none))) else none)) else none)))) else none) else (if 1 ≤ dp then ((kf_287 n (dp - 1) e 0 I L i9 i12).bind (fun ⟨x0_168, I0_168, L0_168⟩ => (if x0_168 = 0 then (kf_295 n dp e 4 I0_168 L0_168 i1 i2 i3 i4 i5 i6 i7 i8 i9 i10 i11 i12) else (if 1 ≤ dp then ((kf_292 n (dp - 1) e 0 I0_168 L0_168 i12 0).bind (fun ⟨x1_180, I1_180, L1_180⟩ => (if 1 ≤ dp then ((kf_292 n (dp - 1) e 0 I1_180 L1_180 i12 0).bind (fun ⟨x2_192, I2_192, L2_192⟩ => (if 1 ≤ dp then ((kf_292 n (dp - 1) e 0 I2_192 L2_192 i12 1).bind (fun ⟨x3_199, I3_199, L3_199⟩ => (if (-2147483648 ≤ x2_192 * x3_199 ∧ x2_192 * x3_199 ≤ 2147483647) ∧ (-2147483648 ≤ i11 + (x2_192 * x3_199) ∧ i11 + (x2_192 * x3_199) ≤ 2147483647) then (stI (i11 + (x2_192 * x3_199)) (fun v_204 => (if -2147483648 ≤ i10 + x1_180 ∧ i10 + x1_180 ≤ 2147483647 then (kf_295 n dp e 4 I3_199 L3_199 i1 i2 i3 i4 i5 i6 i7 i8 i9 (i10 + x1_180) v_204 i12) else none))) else none))) else none))) else none))) else none)))) else none))) P_) : Ev (fun n => kf_295 n dp e 3 I L i1 i2 i3 i4 i5 i6 i7 i8 i9 i10 i11 i12) P_ := Ev_step (fun n => ke_295_3 n dp e I L i1 i2 i3 i4 i5 i6 i7 i8 i9 i10 i11 i12) h
set_option maxRecDepth 100000 in
theorem ev_295_4 {dp : Nat} {e : EN} {I : JI} {L : JI} {i1 : Int} {i2 : Int} {i3 : Int} {i4 : Int} {i5 : Int} {i6 : Int} {i7 : Int} {i8 : Int} {i9 : Int} {i10 : Int} {i11 : Int} {i12 : Int} {P_ : (Int × JI × JI) → Prop} (h : Ev (fun n => (if -2147483648 ≤ i12 + 1 ∧ i12 + 1 ≤ 2147483647 then (kf_295 n dp e 3 I L i1 i2 i3 i4 i5 i6 i7 i8 i9 i10 i11 (i12 + 1)) else none)) P_) : Ev (fun n => kf_295 n dp e 4 I L i1 i2 i3 i4 i5 i6 i7 i8 i9 i10 i11 i12) P_ := Ev_step (fun n => ke_295_4 n dp e I L i1 i2 i3 i4 i5 i6 i7 i8 i9 i10 i11 i12) h
set_option maxRecDepth 100000 in
theorem ev_287_0 {dp : Nat} {e : EN} {I : JI} {L : JI} {i0 : Int} {i1 : Int} {P_ : (Int × JI × JI) → Prop} (h : Ev (fun n => (if (bA (bR i0 i1) 1) = 1 then (some ((1 : Int), I, L)) else (some ((0 : Int), I, L)))) P_) : Ev (fun n => kf_287 n dp e 0 I L i0 i1) P_ := Ev_step (fun n => ke_287_0 n dp e I L i0 i1) h
set_option maxRecDepth 100000 in
theorem ev_295_1 {dp : Nat} {e : EN} {I : JI} {L : JI} {i1 : Int} {i2 : Int} {i3 : Int} {i4 : Int} {i5 : Int} {i6 : Int} {i7 : Int} {i8 : Int} {i9 : Int} {i10 : Int} {i11 : Int} {i12 : Int} {P_ : (Int × JI × JI) → Prop} (h : Ev (fun n => (if (I 107 6) ≤ i9 then (kf_295 n dp e 2 I L i1 i2 i3 i4 i5 i6 i7 i8 1 0 0 0) else (if 1 ≤ dp then ((kf_292 n (dp - 1) e 0 I L i9 6).bind (fun ⟨x0_92, I0_92, L0_92⟩ => (if x0_92 = 1 then (stI (bO i8 (bL 1 i9)) (fun v_108 => (if -2147483648 ≤ i9 + 1 ∧ i9 + 1 ≤ 2147483647 then (kf_295 n dp e 1 I0_92 L0_92 i1 i2 i3 i4 i5 i6 i7 v_108 (i9 + 1) 0 0 0) else none))) else (if -2147483648 ≤ i9 + 1 ∧ i9 + 1 ≤ 2147483647 then (kf_295 n dp e 1 I0_92 L0_92 i1 i2 i3 i4 i5 i6 i7 (bO i8 0) (i9 + 1) 0 0 0) else none)))) else none))) P_) : Ev (fun n => kf_295 n dp e 1 I L i1 i2 i3 i4 i5 i6 i7 i8 i9 i10 i11 i12) P_ := Ev_step (fun n => ke_295_1 n dp e I L i1 i2 i3 i4 i5 i6 i7 i8 i9 i10 i11 i12) h
set_option maxRecDepth 100000 in
theorem ev_163_0 {dp : Nat} {e : EN} {I : JI} {L : JI} {i1 : Int} {i2 : Int} {i3 : Int} {i4 : Int} {P_ : (Int × JI × JI) → Prop} (h : Ev (fun n => (if 1 ≤ dp then ((kf_14 n (dp - 1) e 0 I L i1 1 1584).bind (fun ⟨x0_5, I0_5, L0_5⟩ => (if x0_5 = 0 then (some (((-1) : Int), I0_5, L0_5)) else (if 1 ≤ dp then ((kf_14 n (dp - 1) e 0 I0_5 L0_5 i2 1 1584).bind (fun ⟨x1_16, I1_16, L1_16⟩ => (if x1_16 = 0 then (some (((-1) : Int), I1_16, L1_16)) else (if 1 ≤ dp then ((kf_14 n (dp - 1) e 0 I1_16 L1_16 i3 0 100).bind (fun ⟨x2_26, I2_26, L2_26⟩ => (if x2_26 = 0 then (some (((-1) : Int), I2_26, L2_26)) else (if 1 ≤ dp then ((kf_14 n (dp - 1) e 0 I2_26 L2_26 i4 0 2).bind (fun ⟨x3_36, I3_36, L3_36⟩ => (if x3_36 = 0 then (some (((-1) : Int), I3_36, L3_36)) else (if 1 ≤ dp then ((kf_164 n (dp - 1) e 0 I3_36 L3_36 i1 i2 i3 0 0).bind (fun ⟨I4_51, L4_51⟩ => (if i4 = 2 then (some (((I4_51 81 12) : Int), I4_51, L4_51)) else (if (I4_51 81 12) = 0 then (some (((-1) : Int), I4_51, L4_51)) else (if i4 = 0 then (some (((I4_51 81 13) : Int), I4_51, L4_51)) else (some (((I4_51 81 14) : Int), I4_51, L4_51))))))) else none)))) else none)))) else none)))) else none)))) else none)) P_) : Ev (fun n => kf_163 n dp e 0 I L i1 i2 i3 i4) P_ := Ev_step (fun n => ke_163_0 n dp e I L i1 i2 i3 i4) h
set_option maxRecDepth 100000 in
theorem ev_295_0 {dp : Nat} {e : EN} {I : JI} {L : JI} {i1 : Int} {i2 : Int} {i3 : Int} {i4 : Int} {i5 : Int} {i6 : Int} {i7 : Int} {i8 : Int} {i9 : Int} {i10 : Int} {i11 : Int} {i12 : Int} {P_ : (Int × JI × JI) → Prop} (h : Ev (fun n => (stI (w2 I 105 0 0) (fun I_2 => (if 1 ≤ dp then ((kf_193 n (dp - 1) e 0 I_2 L i1 1 1584).bind (fun ⟨x0_11, I0_11, L0_11⟩ => (if x0_11 = 0 then (some (((-1) : Int), I0_11, L0_11)) else (if 1 ≤ dp then ((kf_193 n (dp - 1) e 0 I0_11 L0_11 i2 1 1584).bind (fun ⟨x1_23, I1_23, L1_23⟩ => (if x1_23 = 0 then (some (((-1) : Int), I1_23, L1_23)) else (if 1 ≤ dp then ((kf_193 n (dp - 1) e 0 I1_23 L1_23 i3 0 100).bind (fun ⟨x2_35, I2_35, L2_35⟩ => (if x2_35 = 0 then (some (((-1) : Int), I2_35, L2_35)) else (if 1 ≤ dp then ((kf_193 n (dp - 1) e 0 I2_35 L2_35 i4 0 2).bind (fun ⟨x3_48, I3_48, L3_48⟩ => (if x3_48 = 0 then (some (((-1) : Int), I3_48, L3_48)) else (kf_295 n dp e 1 I3_48 L3_48 i1 i2 i3 i4 0 1000000000 (-1) 0 0 0 0 0)))) else none)))) else none)))) else none)))) else none)))) P_) : Ev (fun n => kf_295 n dp e 0 I L i1 i2 i3 i4 i5 i6 i7 i8 i9 i10 i11 i12) P_ := Ev_step (fun n => ke_295_0 n dp e I L i1 i2 i3 i4 i5 i6 i7 i8 i9 i10 i11 i12) h
end
/-! MIX: mix() of both -/
def MxI (J : JI) (ρ : Int → Int) : Prop := (J 81 11 = 0 ∨ J 81 11 = 1) ∧ (J 81 11 = 0 → (∃ nu lo hi, mxB J ρ nu lo hi) ∧ mxQ J (mxF (mxE ρ (J 81 8) (J 81 9) (J 81 10)) (0, 1000000000, 0) (2 ^ (ρ 6).toNat)))
def mxZ (J J' : JI) : Prop := ∀ a i, ¬ (a = 81 ∧ 6 ≤ i ∧ i ≤ 14) → ¬ (82 ≤ a ∧ a ≤ 86) → J' a i = J a i
set_option maxHeartbeats 2000000 in
theorem K164 {dp : Nat} {e : EN} {J L : JI} {ρ : Int → Int} {f t a : Int} (hd : 3 ≤ dp) (hr : rwO ρ) (h9 : J 1 9 = ρ 6) (h7 : ∀ i, 0 ≤ i → i < 112 → J 7 i = ρ (90 + i)) (har : ∀ a, 83 ≤ a → a ≤ 86 → arO e a 256) (hf : 1 ≤ f ∧ f ≤ 1584) (ht : 1 ≤ t ∧ t ≤ 1584) (ha : 0 ≤ a ∧ a ≤ 100) (hI : MxI J ρ) : Ev (fun n => kf_164 n dp e 0 J L f t a 0 0) (fun r => r.2 = L ∧ mxZ J r.1 ∧ MxI r.1 ρ ∧ mxQ r.1 (mxF (mxE ρ f t a) (0, 1000000000, 0) (2 ^ (ρ 6).toNat))) := by
  obtain ⟨i1, i2⟩ := hI
  have n16 := bxN hr
  /- with tables -/
  have two : ∀ K : JI, mxZ J K → K 81 11 = 0 → (∃ nu lo hi, mxB K ρ nu lo hi) → Ev (fun n => kf_164 n dp e 2 K L f t a 0 0) (fun r => r.2 = L ∧ mxZ J r.1 ∧ MxI r.1 ρ ∧ mxQ r.1 (mxF (mxE ρ f t a) (0, 1000000000, 0) (2 ^ (ρ 6).toNat))) := by
    rintro K k1 k11 ⟨nu, lo, hi, kB⟩
    refine ev_164_2 ?_
    refine Ev_st (Ev_st (Ev_st (Ev_st (Ev_st (Ev_st ?_)))))
    have n1 : ∀ a' i, ¬ (a' = 81 ∧ ((8 ≤ i ∧ i ≤ 10) ∨ (12 ≤ i ∧ i ≤ 14))) → w2 (w2 (w2 (w2 (w2 (w2 K 81 8 f) 81 9 t) 81 10 a) 81 12 0) 81 13 1000000000) 81 14 0 a' i = K a' i := fun a' i y => by
      rw [w2_n (by omega), w2_n (by omega), w2_n (by omega), w2_n (by omega), w2_n (by omega), w2_n (by omega)]
    have m8 : w2 (w2 (w2 (w2 (w2 (w2 K 81 8 f) 81 9 t) 81 10 a) 81 12 0) 81 13 1000000000) 81 14 0 81 8 = f := by
      rw [w2_n (by omega), w2_n (by omega), w2_n (by omega), w2_n (by omega), w2_n (by omega), w2_ap, if_pos ⟨rfl, rfl⟩]
    have m9 : w2 (w2 (w2 (w2 (w2 (w2 K 81 8 f) 81 9 t) 81 10 a) 81 12 0) 81 13 1000000000) 81 14 0 81 9 = t := by
      rw [w2_n (by omega), w2_n (by omega), w2_n (by omega), w2_n (by omega), w2_ap, if_pos ⟨rfl, rfl⟩]
    have m10 : w2 (w2 (w2 (w2 (w2 (w2 K 81 8 f) 81 9 t) 81 10 a) 81 12 0) 81 13 1000000000) 81 14 0 81 10 = a := by
      rw [w2_n (by omega), w2_n (by omega), w2_n (by omega), w2_ap, if_pos ⟨rfl, rfl⟩]
    have m12 : mxQ (w2 (w2 (w2 (w2 (w2 (w2 K 81 8 f) 81 9 t) 81 10 a) 81 12 0) 81 13 1000000000) 81 14 0) (0, 1000000000, 0) := by
      refine ⟨?_, ?_, ?_⟩
      · rw [w2_n (by omega), w2_n (by omega), w2_ap, if_pos ⟨rfl, rfl⟩]
      · rw [w2_n (by omega), w2_ap, if_pos ⟨rfl, rfl⟩]
      · rw [w2_ap, if_pos ⟨rfl, rfl⟩]
    generalize w2 (w2 (w2 (w2 (w2 (w2 K 81 8 f) 81 9 t) 81 10 a) 81 12 0) 81 13 1000000000) 81 14 0 = K1 at n1 m8 m9 m10 m12 ⊢
    have kB1 := mxB_c (n1 _ _ (by omega)) (n1 _ _ (by omega)) (fun a' i x y => n1 a' i (by omega)) kB
    have kB1' := kB1
    obtain ⟨q1, ⟨q2, q2a, q2b⟩, q3, q4, q5, q6, q7, q8, q9⟩ := kB1
    have ml := mxN_le (hr := bxH ρ) (ρ 6).toNat
    have lt := mxU_lt q1 _ (Nat.le_refl _)
    have p8 := p2_8 q2a
    have p8' := p2_8 q2b
    have p0 := Nat.two_pow_pos lo
    rw [q4, bL1 (by omega)]
    refine Ev_t (by omega) (Ev_t (by omega) (Ev_st ?_))
    have eall : K1 83 (((2 ^ lo : Nat) : Int) - 1) = mxW (fun j => bxW ρ (nu j)) (2 ^ lo - 1) lo := by
      rw [show ((2 ^ lo : Nat) : Int) - 1 = ((2 ^ lo - 1 : Nat) : Int) by omega]
      exact q6 _ (by omega)
    rw [eall]
    have ball := mxW_b (w := fun j => bxW ρ (nu j)) (s := 2 ^ lo - 1) (B := 99) lo (fun j hj => by have := (bx_b hr (lt j (by omega))).1; omega)
    have mall : ∀ l, mxW (fun j => bxW ρ (nu j)) l lo ≤ mxW (fun j => bxW ρ (nu j)) (2 ^ lo - 1) lo := fun l => mxW_m lo (fun j hj => ⟨Int.le_refl _, by have := (bx_b hr (lt j (by omega))).1; omega⟩)
    generalize mxW (fun j => bxW ρ (nu j)) (2 ^ lo - 1) lo = AL at *
    have key : ∀ h : Nat, h ≤ 2 ^ hi → ∀ K2 : JI, (∀ a i, ¬ (a = 81 ∧ 12 ≤ i ∧ i ≤ 14) → K2 a i = K1 a i) → mxQ K2 (mxF (mxD ρ nu f t a) (0, 1000000000, 0) (2 ^ lo * h)) → Ev (fun n => kf_164 n dp e 3 K2 L f t a AL h) (fun r => r.2 = L ∧ mxZ J r.1 ∧ MxI r.1 ρ ∧ mxQ r.1 (mxF (mxE ρ f t a) (0, 1000000000, 0) (2 ^ (ρ 6).toNat))) := by
      refine dec_ind (2 ^ hi) (fun h hh ih => ?_)
      intro K2 z1 z2
      refine ev_164_3 ?_
      rw [z1 81 7 (by omega), q5, bL1 (by omega)]
      by_cases ch : h < 2 ^ hi
      · have ih := ih ch
        have e85 : K2 85 h = mxW (fun j => bxW ρ (nu (lo + j))) h hi := (z1 _ _ (by omega)).trans (q8 h ch)
        have bH := mxW_b (w := fun j => bxW ρ (nu (lo + j))) (s := h) (B := 99) hi (fun j hj => by have := (bx_b hr (lt (lo + j) (by omega))).1; omega)
        have eN : 2 ^ lo * (h + 1) = 2 ^ lo * h + 2 ^ lo := by rw [Nat.mul_add, Nat.mul_one]
        have go : ∀ K3 : JI, (∀ a i, ¬ (a = 81 ∧ 12 ≤ i ∧ i ≤ 14) → K3 a i = K1 a i) → mxQ K3 (mxF (mxD ρ nu f t a) (0, 1000000000, 0) (2 ^ lo * h + 2 ^ lo)) → Ev (fun n => kf_164 n dp e 4 K3 L f t a AL h) (fun r => r.2 = L ∧ mxZ J r.1 ∧ MxI r.1 ρ ∧ mxQ r.1 (mxF (mxE ρ f t a) (0, 1000000000, 0) (2 ^ (ρ 6).toNat))) := fun K3 y1 y2 => by
          refine ev_164_4 ?_
          refine Ev_t (by omega) ?_
          rw [show (h : Int) + 1 = ((h + 1 : Nat) : Int) by omega]
          refine ih K3 y1 ?_
          rw [eN]
          exact y2
        have skip : (∀ l, l < 2 ^ lo → ¬ (f ≤ mxW (fun j => bxW ρ (nu j)) l lo + mxW (fun j => bxW ρ (nu (lo + j))) h hi ∧ mxW (fun j => bxW ρ (nu j)) l lo + mxW (fun j => bxW ρ (nu (lo + j))) h hi ≤ t)) → Ev (fun n => kf_164 n dp e 4 K2 L f t a AL h) (fun r => r.2 = L ∧ mxZ J r.1 ∧ MxI r.1 ρ ∧ mxQ r.1 (mxF (mxE ρ f t a) (0, 1000000000, 0) (2 ^ (ρ 6).toNat))) := fun no => by
          refine go K2 z1 ?_
          rw [mxF_add, mxF_n]
          · exact z2
          · intro l hl
            have := no l hl
            unfold mxD mxV
            rw [← q2, mxW_2 hl]
            rw [if_neg (fun z => this z.1)]
        refine Ev_f (by omega) (Ev_t (by omega) ?_)
        rw [e85]
        refine Ev_c (fun c1 => skip (fun l hl => ?_)) (fun c1 => ?_)
        · have bl := mxW_b (w := fun j => bxW ρ (nu j)) (s := l) (B := 99) lo (fun j hj => by have := (bx_b hr (lt j (by omega))).1; omega)
          omega
        · refine Ev_t (by omega) (Ev_t (by omega) (Ev_c (fun c2 => skip (fun l hl => ?_)) (fun c2 => ?_)))
          · have := mall l
            omega
          · refine Ev_t (by omega) (Ev_bind (K167 (by omega) hr (mxB_c (z1 _ _ (by omega)) (z1 _ _ (by omega)) (fun a' i x y => z1 a' i (by omega)) kB1') ((z1 _ _ (by omega)).trans m8) ((z1 _ _ (by omega)).trans m9) ((z1 _ _ (by omega)).trans m10) hf ht ha ch z2) ?_)
            rintro ⟨K3, L3⟩ ⟨ez, y1, y2⟩
            dsimp only at ez
            subst ez
            dsimp only at y1 y2 ⊢
            exact go K3 (fun a' i y => (y1 a' i y).trans (z1 a' i y)) y2
      · have : h = 2 ^ hi := by omega
        subst this
        refine Ev_t (by omega) ?_
        have zq : mxQ K2 (mxF (mxE ρ f t a) (0, 1000000000, 0) (2 ^ (ρ 6).toNat)) := by
          rw [← Nat.pow_add, q2, mxE_D q1] at z2
          exact z2
        have fz : mxZ J K2 := fun a' i y w => by rw [z1 a' i (by omega), n1 a' i (by omega)]; exact k1 a' i y w
        have f11 : K2 81 11 = 0 := by rw [z1 _ _ (by omega), n1 _ _ (by omega)]; exact k11
        refine Ev_ret ⟨rfl, fz, ⟨Or.inl f11, fun _ => ⟨⟨nu, lo, hi, mxB_c (z1 _ _ (by omega)) (z1 _ _ (by omega)) (fun a' i x y => z1 a' i (by omega)) kB1'⟩, ?_⟩⟩, zq⟩
        dsimp only
        rw [z1 81 8 (by omega), z1 81 9 (by omega), z1 81 10 (by omega), m8, m9, m10]
        exact zq
    exact key 0 (Nat.zero_le _) K1 (fun _ _ _ => rfl) m12
  have one : Ev (fun n => kf_164 n dp e 1 J L f t a 0 0) (fun r => r.2 = L ∧ mxZ J r.1 ∧ MxI r.1 ρ ∧ mxQ r.1 (mxF (mxE ρ f t a) (0, 1000000000, 0) (2 ^ (ρ 6).toNat))) := by
    refine ev_164_1 ?_
    rcases i1 with c | c
    · exact Ev_t c (two J (fun _ _ _ _ => rfl) c (i2 c).1)
    · refine Ev_f (by omega) (Ev_t (by omega) (Ev_bind (K165 (by omega) hr h9 h7 har) ?_))
      rintro ⟨K1, L1⟩ ⟨ez, y1, y2⟩
      dsimp only at ez
      subst ez
      dsimp only at y1 y2 ⊢
      obtain ⟨nu, lo, hi, y2⟩ := y2
      refine Ev_st (two _ (fun a' i x y => by rw [w2_n (by omega)]; exact y1 a' i (by omega) (by omega)) (by rw [w2_ap, if_pos ⟨rfl, rfl⟩]) ⟨nu, lo, hi, mxB_c (w2_n (by omega)) (w2_n (by omega)) (fun a' i x y => w2_n (by omega)) y2⟩)
  refine ev_164_0 ?_
  refine Ev_c (fun c1 => Ev_c (fun c2 => Ev_c (fun c3 => Ev_c (fun c4 => ?_) (fun _ => one)) (fun _ => one)) (fun _ => one)) (fun _ => one)
  have q := i2 c1
  refine Ev_ret ⟨rfl, fun _ _ _ _ => rfl, ⟨i1, i2⟩, ?_⟩
  rw [c2, c3, c4]
  exact q.2
/-! the reference -/
set_option maxHeartbeats 2000000 in
theorem K295 {dp : Nat} {e : EN} {J L : JI} {f t a w : Int} (hd : 1 ≤ dp) (hr : rwO (J 107)) (hf : 1 ≤ f ∧ f ≤ 1584) (ht : 1 ≤ t ∧ t ≤ 1584) (ha : 0 ≤ a ∧ a ≤ 100) : Ev (fun n => kf_295 n dp e 1 J L f t a w 0 1000000000 (-1) 0 0 0 0 0) (fun r => r.2 = (J, L) ∧ r.1 = if w = 2 then (mxF (mxE (J 107) f t a) (0, 1000000000, -1) (2 ^ (J 107 6).toNat)).1 else if (mxF (mxE (J 107) f t a) (0, 1000000000, -1) (2 ^ (J 107 6).toNat)).2.2 = -1 then -1 else if w = 0 then (mxF (mxE (J 107) f t a) (0, 1000000000, -1) (2 ^ (J 107 6).toNat)).2.1 else (mxF (mxE (J 107) f t a) (0, 1000000000, -1) (2 ^ (J 107 6).toNat)).2.2) := by
  have n16 := bxN hr
  have h6 := hr.2.2.2.2.2.1
  have hE := mxE_b (f := f) (t := t) hr ha.1
  have hfl : ∀ s : Nat, ∃ q, mxE (J 107) f t a s = q := fun s => ⟨_, rfl⟩
  obtain ⟨N, hN⟩ : ∃ N : Nat, (J 107 6).toNat = N := ⟨_, rfl⟩
  have eN : J 107 6 = N := by omega
  have pN : 2 ^ N ≤ 65536 := by
    have := Nat.pow_le_pow_right (n := 2) (by decide) (show N ≤ 16 by omega)
    omega
  have p0 := Nat.two_pow_pos N
  have unE : ∀ s, mxE (J 107) f t a s = if s &&& mxH (bxH (J 107)) N = s then mxV f t a (mxW (bxW (J 107)) s N) (mxW (bxL (J 107)) s N) s else none := fun s => by unfold mxE; rw [hN]
  rw [hN]
  generalize hX : mxF (mxE (J 107) f t a) (0, 1000000000, -1) (2 ^ N) = X
  have hH := mxH_lt (hr := bxH (J 107)) N 16 (by omega)
  /- the sets -/
  have sets : ∀ s : Nat, s ≤ 2 ^ N → ∀ (x : Int × Int × Int) (i10 i11 i12 : Int), 1 ≤ s → x = mxF (mxE (J 107) f t a) (0, 1000000000, -1) s → Ev (fun n => kf_295 n dp e 2 J L f t a w x.1 x.2.1 x.2.2 ((mxH (bxH (J 107)) N : Nat) : Int) s 0 0 0) (fun r => r.2 = (J, L) ∧ r.1 = if w = 2 then X.1 else if X.2.2 = -1 then -1 else if w = 0 then X.2.1 else X.2.2) := by
    refine dec_ind (2 ^ N) (fun s hs ih => ?_)
    intro x _ _ _ h1 hx
    refine ev_295_2 ?_
    rw [eN, bL1 (by omega)]
    by_cases cs : s < 2 ^ N
    · have ih := ih cs
      have b0 := mxF_b hE (x := (0, 1000000000, -1)) s
      rw [← hx] at b0
      have b1 : 0 ≤ x.1 ∧ x.1 ≤ 65536 := by
        have := b0.1
        have := b0.2.1
        simp only [Int.sub_zero] at *
        omega
      have eF : mxF (mxE (J 107) f t a) (0, 1000000000, -1) (s + 1) = mxS x (mxE (J 107) f t a s) := by rw [hx]; rfl
      have nx : ∀ y : Int × Int × Int, y = mxS x (mxE (J 107) f t a s) → Ev (fun n => kf_295 n dp e 5 J L f t a w y.1 y.2.1 y.2.2 ((mxH (bxH (J 107)) N : Nat) : Int) s 0 0 0) (fun r => r.2 = (J, L) ∧ r.1 = if w = 2 then X.1 else if X.2.2 = -1 then -1 else if w = 0 then X.2.1 else X.2.2) := fun y hy => by
        refine ev_295_5 ?_
        refine Ev_t (by omega) ?_
        rw [show (s : Int) + 1 = ((s + 1 : Nat) : Int) by omega]
        exact ih y 0 0 0 (by omega) (by rw [hy, eF])
      have hs2 := bX_s (s := s) (h := ((mxH (bxH (J 107)) N : Nat) : Int)) (by omega) (by omega)
      rw [Int.toNat_natCast, Int.toNat_natCast, ← nSub] at hs2
      have es := unE s
      refine Ev_f (by omega) ?_
      by_cases cz : s &&& mxH (bxH (J 107)) N = s
      · rw [if_pos cz] at es
        refine Ev_t (hs2.2 cz) ?_
        /- the boxes of it -/
        have bx : ∀ b : Nat, b ≤ N → Ev (fun n => kf_295 n dp e 3 J L f t a w x.1 x.2.1 x.2.2 ((mxH (bxH (J 107)) N : Nat) : Int) s (mxW (bxW (J 107)) s b) (mxW (bxL (J 107)) s b) b) (fun r => r.2 = (J, L) ∧ r.1 = if w = 2 then X.1 else if X.2.2 = -1 then -1 else if w = 0 then X.2.1 else X.2.2) := by
          refine dec_ind N (fun b hb ihb => ?_)
          have bW := mxW_b (w := bxW (J 107)) (s := s) (B := 99) b (fun j hj => by have := (bx_b hr (b := j) (by omega)).1; omega)
          have bL := mxW_b (w := bxL (J 107)) (s := s) (B := 9900) b (fun j hj => (bx_b hr (b := j) (by omega)).2.1)
          refine ev_295_3 ?_
          rw [eN]
          by_cases cb : b < N
          · have ihb := ihb cb
            have bb := bx_b hr (b := b) (by omega)
            have go : ∀ W V : Int, W = mxW (bxW (J 107)) s (b + 1) → V = mxW (bxL (J 107)) s (b + 1) → Ev (fun n => kf_295 n dp e 4 J L f t a w x.1 x.2.1 x.2.2 ((mxH (bxH (J 107)) N : Nat) : Int) s W V b) (fun r => r.2 = (J, L) ∧ r.1 = if w = 2 then X.1 else if X.2.2 = -1 then -1 else if w = 0 then X.2.1 else X.2.2) := fun W V hW hV => by
              refine ev_295_4 ?_
              refine Ev_t (by omega) ?_
              rw [show (b : Int) + 1 = ((b + 1 : Nat) : Int) by omega, hW, hV]
              exact ihb
            refine Ev_f (by omega) (Ev_t hd (Ev_call (v := (if s.testBit b then 1 else 0, J, L)) ?_ ?_))
            · refine ev_287_0 ?_
              rw [bA_1 (by omega) (by omega), Int.toNat_natCast]
              by_cases q : s.testBit b = true
              · rw [if_pos q]
                first | exact Ev_t rfl (Ev_ret rfl) | exact Ev_f (by decide) (Ev_ret rfl)
              · rw [if_neg q]
                first | exact Ev_f (by decide) (Ev_ret rfl) | exact Ev_t (by decide) (Ev_ret rfl)
            dsimp only
            by_cases q : s.testBit b = true
            · rw [if_pos q]
              refine Ev_f (by omega) (Ev_t hd (Ev_call (K292 (by omega)) (Ev_t hd (Ev_call (K292 (by omega)) (Ev_t hd (Ev_call (K292 (by omega)) ?_))))))
              dsimp only
              rw [show 90 + 7 * (b : Int) + 0 = 90 + 7 * b by omega]
              have e1 : J 107 (90 + 7 * (b : Int)) = bxW (J 107) b := rfl
              have e2 : J 107 (90 + 7 * (b : Int)) * J 107 (90 + 7 * b + 1) = bxL (J 107) b := rfl
              rw [e2, e1]
              refine Ev_t (by omega) (Ev_st (Ev_t (by omega) (go _ _ ?_ ?_)))
              · rw [mxW_s, if_pos q]
              · rw [mxW_s, if_pos q]
            · rw [if_neg q]
              refine Ev_t rfl (go _ _ ?_ ?_)
              · rw [mxW_s, if_neg q, Int.add_zero]
              · rw [mxW_s, if_neg q, Int.add_zero]
          · have : b = N := by omega
            subst this
            have mW : 0 ≤ mxW (bxW (J 107)) s b * a ∧ mxW (bxW (J 107)) s b * a ≤ 1584 * 100 := ⟨Int.mul_nonneg bW.1 ha.1, Int.mul_le_mul (by omega) ha.2 ha.1 (by decide)⟩
            have cm : a * mxW (bxW (J 107)) s b = mxW (bxW (J 107)) s b * a := Int.mul_comm _ _
            unfold mxV at es
            generalize mxW (bxW (J 107)) s b = W at *
            generalize mxW (bxL (J 107)) s b = V at *
            have no : ¬ ((f ≤ W ∧ W ≤ t) ∧ W * a ≤ V) → Ev (fun n => kf_295 n dp e 5 J L f t a w x.1 x.2.1 x.2.2 ((mxH (bxH (J 107)) b : Nat) : Int) s 0 0 0) (fun r => r.2 = (J, L) ∧ r.1 = if w = 2 then X.1 else if X.2.2 = -1 then -1 else if w = 0 then X.2.1 else X.2.2) := fun z => by
              rw [if_neg z] at es
              exact nx x (by rw [es]; rfl)
            refine Ev_t (by omega) (Ev_t hd (Ev193 (fun c1 => ?_) (fun c1 => Ev_t rfl (no (fun z => c1 z.1)))))
            refine Ev_f (by decide) ?_
            rw [cm]
            refine Ev_t (by omega) (Ev_c (fun c2 => no (fun z => by omega)) (fun c2 => ?_))
            have c3 : (f ≤ W ∧ W ≤ t) ∧ W * a ≤ V := ⟨c1, by omega⟩
            rw [if_pos c3] at es
            have e3 : mxS x (mxE (J 107) f t a s) = (x.1 + 1, if V - W * a < x.2.1 then (V - W * a, (s : Int)) else x.2) := by rw [es]; rfl
            refine Ev_t (by omega) ?_
            by_cases c4 : V - W * a < x.2.1
            · rw [if_pos c4] at e3
              refine Ev_f (by omega) (Ev_f (by omega) (Ev_t (by omega) ?_))
              exact nx (x.1 + 1, (V - W * a, (s : Int))) e3.symm
            · rw [if_neg c4] at e3
              refine Ev_t (by omega) (Ev_t (by omega) (Ev_t (by omega) ?_))
              exact nx (x.1 + 1, x.2) e3.symm
        exact bx 0 (Nat.zero_le _)
      · rw [if_neg cz] at es
        refine Ev_f (fun z => cz (hs2.1 z)) (nx x (by rw [es]; rfl))
    · have : s = 2 ^ N := by omega
      subst this
      have hx : x = X := hx.trans hX
      subst hx
      refine Ev_t (by omega) ?_
      by_cases c1 : w = 2
      · refine Ev_t c1 (Ev_ret ⟨rfl, ?_⟩)
        rw [if_pos c1]
      · refine Ev_f c1 ?_
        by_cases c2 : x.2.2 = -1
        · refine Ev_t c2 (Ev_ret ⟨rfl, ?_⟩)
          rw [if_neg c1, if_pos c2]
        · refine Ev_f c2 ?_
          by_cases c3 : w = 0
          · refine Ev_t c3 (Ev_ret ⟨rfl, ?_⟩)
            rw [if_neg c1, if_neg c2, if_pos c3]
          · refine Ev_f c3 (Ev_ret ⟨rfl, ?_⟩)
            rw [if_neg c1, if_neg c2, if_neg c3]
  /- which boxes are there -/
  have here : ∀ b : Nat, b ≤ N → Ev (fun n => kf_295 n dp e 1 J L f t a w 0 1000000000 (-1) ((mxH (bxH (J 107)) b : Nat) : Int) b 0 0 0) (fun r => r.2 = (J, L) ∧ r.1 = if w = 2 then X.1 else if X.2.2 = -1 then -1 else if w = 0 then X.2.1 else X.2.2) := by
    refine dec_ind N (fun b hb ih => ?_)
    refine ev_295_1 ?_
    rw [eN]
    by_cases cb : b < N
    · have ih := ih cb
      have hb2 := mxH_lt (hr := bxH (J 107)) b 16 (by omega)
      refine Ev_f (by omega) (Ev_t hd (Ev_call (K292 (by omega)) ?_))
      dsimp only
      by_cases c : J 107 (90 + 7 * (b : Int) + 6) = 1
      · have eH : bxH (J 107) b = true := by unfold bxH; simp [c]
        have e2 : bO ((mxH (bxH (J 107)) b : Nat) : Int) (bL 1 b) = ((mxH (bxH (J 107)) (b + 1) : Nat) : Int) := by
          show _ = ((mxH (bxH (J 107)) b ||| (if bxH (J 107) b then 2 ^ b else 0) : Nat) : Int)
          rw [if_pos eH, (bO_16 (by omega) (by omega)).1, Int.toNat_natCast]
        refine Ev_t c (Ev_st (Ev_t (by omega) ?_))
        rw [e2, show (b : Int) + 1 = ((b + 1 : Nat) : Int) by omega]
        exact ih
      · have eH : ¬ bxH (J 107) b = true := by unfold bxH; simp [c]
        have e2 : bO ((mxH (bxH (J 107)) b : Nat) : Int) 0 = ((mxH (bxH (J 107)) (b + 1) : Nat) : Int) := by
          show _ = ((mxH (bxH (J 107)) b ||| (if bxH (J 107) b then 2 ^ b else 0) : Nat) : Int)
          rw [if_neg eH, bO_n (by omega) (by omega), Int.toNat_natCast]
          rfl
        refine Ev_f c (Ev_t (by omega) ?_)
        rw [e2, show (b : Int) + 1 = ((b + 1 : Nat) : Int) by omega]
        exact ih
    · have : b = N := by omega
      subst this
      refine Ev_t (by omega) ?_
      refine sets 1 (by omega) (0, 1000000000, -1) 0 0 0 (Nat.le_refl _) ?_
      show _ = mxS (0, 1000000000, -1) (mxE (J 107) f t a 0)
      have z0 : ∀ w n, mxW w 0 n = 0 := fun w n => by
        induction n with
        | zero => rfl
        | succ n ihn => rw [mxW_s, ihn, Nat.zero_testBit]; rfl
      have hn : mxV f t a 0 0 0 = none := by
        unfold mxV
        rw [if_neg (fun z => by omega)]
      rw [unE 0, z0, z0, hn, ite_self]
      rfl
  exact here 0 (Nat.zero_le _)
theorem o_mix {dp : Nat} {e : EN} {J M : JI} {f t a w : Int} (hd : 5 ≤ dp) (h0 : J 105 0 = 0) (hr : rwO (J 107)) (h9 : J 1 9 = J 107 6) (h7 : ∀ i, 0 ≤ i → i < 112 → J 7 i = J 107 (90 + i)) (har : ∀ a, 83 ≤ a → a ≤ 86 → arO e a 256) (hI : MxI J (J 107)) : Ev (fun n => kf_163 n dp e 0 J M f t a w) (fun r => Ev (fun n => kf_295 n dp e 0 r.2.1 r.2.2 f t a w 0 0 0 0 0 0 0 0) (fun q => ∃ v, r.1 = v ∧ q.1 = v ∧ q.2.2 = M ∧ mxZ J q.2.1 ∧ MxI q.2.1 (J 107))) := by
  have rf : ∀ c : Prop, (c → False) → c → (∀ P : Prop, P) := fun c h z => absurd z (fun z => h z)
  refine ev_163_0 ?_
  have ref : ¬ ((1 ≤ f ∧ f ≤ 1584) ∧ (1 ≤ t ∧ t ≤ 1584) ∧ (0 ≤ a ∧ a ≤ 100) ∧ (0 ≤ w ∧ w ≤ 2)) → Ev (fun n => kf_295 n dp e 0 J M f t a w 0 0 0 0 0 0 0 0) (fun q => ∃ v, (-1 : Int) = v ∧ q.1 = v ∧ q.2.2 = M ∧ mxZ J q.2.1 ∧ MxI q.2.1 (J 107)) := fun z => by
    refine ev_295_0 ?_
    refine Ev_th h0 (Ev_t (by omega) (Ev193 (fun c1 => ?_) (fun c1 => ?_)))
    case' refine_2 => exact Ev_t rfl (Ev_ret ⟨-1, rfl, rfl, rfl, fun _ _ _ _ => rfl, hI⟩)
    refine Ev_f (by decide) (Ev_t (by omega) (Ev193 (fun c2 => ?_) (fun c2 => ?_)))
    case' refine_2 => exact Ev_t rfl (Ev_ret ⟨-1, rfl, rfl, rfl, fun _ _ _ _ => rfl, hI⟩)
    refine Ev_f (by decide) (Ev_t (by omega) (Ev193 (fun c3 => ?_) (fun c3 => ?_)))
    case' refine_2 => exact Ev_t rfl (Ev_ret ⟨-1, rfl, rfl, rfl, fun _ _ _ _ => rfl, hI⟩)
    refine Ev_f (by decide) (Ev_t (by omega) (Ev193 (fun c4 => ?_) (fun c4 => ?_)))
    case' refine_2 => exact Ev_t rfl (Ev_ret ⟨-1, rfl, rfl, rfl, fun _ _ _ _ => rfl, hI⟩)
    exact absurd ⟨c1, c2, c3, c4⟩ z
  refine Ev_t (by omega) (Ev14 (fun c1 => ?_) (fun c1 => ?_))
  case' refine_2 => exact Ev_t rfl (Ev_ret (ref (fun z => c1 z.1)))
  refine Ev_f (by decide) (Ev_t (by omega) (Ev14 (fun c2 => ?_) (fun c2 => ?_)))
  case' refine_2 => exact Ev_t rfl (Ev_ret (ref (fun z => c2 z.2.1)))
  refine Ev_f (by decide) (Ev_t (by omega) (Ev14 (fun c3 => ?_) (fun c3 => ?_)))
  case' refine_2 => exact Ev_t rfl (Ev_ret (ref (fun z => c3 z.2.2.1)))
  refine Ev_f (by decide) (Ev_t (by omega) (Ev14 (fun c4 => ?_) (fun c4 => ?_)))
  case' refine_2 => exact Ev_t rfl (Ev_ret (ref (fun z => c4 z.2.2.2)))
  refine Ev_f (by decide) (Ev_t (by omega) (Ev_bind (K164 (by omega) hr h9 h7 har c1 c2 c3 hI) ?_))
  rintro ⟨J1, M1⟩ ⟨ez, k1, k2, k3, k4, k5⟩
  dsimp only at ez
  subst ez
  dsimp only at k1 k2 k3 k4 k5 ⊢
  have e7 : J1 107 = J 107 := funext fun i => k1 _ _ (by omega) (by omega)
  have md : ∀ v : Int, (v = if w = 2 then (mxF (mxE (J 107) f t a) (0, 1000000000, -1) (2 ^ (J 107 6).toNat)).1 else if (mxF (mxE (J 107) f t a) (0, 1000000000, -1) (2 ^ (J 107 6).toNat)).2.2 = -1 then -1 else if w = 0 then (mxF (mxE (J 107) f t a) (0, 1000000000, -1) (2 ^ (J 107 6).toNat)).2.1 else (mxF (mxE (J 107) f t a) (0, 1000000000, -1) (2 ^ (J 107 6).toNat)).2.2) → Ev (fun n => kf_295 n dp e 0 J1 M1 f t a w 0 0 0 0 0 0 0 0) (fun q => ∃ u, v = u ∧ q.1 = u ∧ q.2.2 = M1 ∧ mxZ J q.2.1 ∧ MxI q.2.1 (J 107)) := fun v hv => by
    refine ev_295_0 ?_
    refine Ev_th (by rw [k1 _ _ (by omega) (by omega)]; exact h0) (Ev_t (by omega) (Ev193t c1 (Ev_f (by decide) (Ev_t (by omega) (Ev193t c2 (Ev_f (by decide) (Ev_t (by omega) (Ev193t c3 (Ev_f (by decide) (Ev_t (by omega) (Ev193t c4 (Ev_f (by decide) ?_))))))))))))
    refine Ev_mono (K295 (by omega) (by rw [e7]; exact hr) c1 c2 c3) ?_
    rintro ⟨u, J2, M2⟩ ⟨z1, z2⟩
    dsimp only at z1 z2
    cases z1
    rw [e7] at z2
    exact ⟨v, rfl, z2.trans hv.symm, rfl, k1, k2⟩
  have d0 := mxF_0 (B := 1000000000) (fun k v h => by have := mxE_b (f := f) (t := t) hr c3.1 k v h; omega) (2 ^ (J 107 6).toNat)
  by_cases c5 : w = 2
  · refine Ev_t c5 (Ev_ret (md _ ?_))
    rw [if_pos c5, k3]
    rcases d0 with ⟨d1, d2⟩ | ⟨d1, d2, d3⟩
    · rw [d1, d2]
    · rw [d1]
  · refine Ev_f c5 ?_
    rw [k3, k4, k5]
    rcases d0 with ⟨d1, d2⟩ | ⟨d1, d2, d3⟩
    · refine Ev_t (by rw [d2]) (Ev_ret (md _ ?_))
      rw [if_neg c5, d1, if_pos rfl]
    · refine Ev_f (by omega) ?_
      by_cases c6 : w = 0
      · refine Ev_t c6 (Ev_ret (md _ ?_))
        rw [if_neg c5, d1, if_neg (by omega), if_pos c6]
      · refine Ev_f c6 (Ev_ret (md _ ?_))
        rw [if_neg c5, d1, if_neg (by omega), if_neg c6]
