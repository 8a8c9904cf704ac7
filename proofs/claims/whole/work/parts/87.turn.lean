section
set_option maxRecDepth 100000 in
theorem ev_228_0 {dp : Nat} {e : EN} {I : JI} {L : JI} {i1 : Int} {P_ : (Int × JI × JI) → Prop} (h : Ev (fun n => (if 1 ≤ dp then ((kf_226 n (dp - 1) e 0 I L 91).bind (fun ⟨x0_3, I0_3, L0_3⟩ => (if x0_3 = 0 then (if 1 ≤ dp then ((kf_229 n (dp - 1) e 0 I0_3 L0_3 0 0).bind (fun ⟨x1_18, I1_18, L1_18⟩ => (if (I1_18 105 10) = 2 then (if 1000 < (L1_18 105 11) then (kf_228 n dp e 1 I1_18 L1_18 x1_18) else (if x1_18 = (-1) then (if (1 : Int) = 0 then (if x1_18 = (-1) then (if (1 : Int) = 0 then (if 1 ≤ dp then ((kf_230 n (dp - 1) e 0 I1_18 L1_18 0 0 0).bind (fun ⟨I2_85, L2_85⟩ => (some ((3 : Int), I2_85, L2_85)))) else none) else (if 1 ≤ dp then (if -2147483648 ≤ (L1_18 105 11) ∧ (L1_18 105 11) ≤ 2147483647 then ((kf_230 n (dp - 1) e 0 I1_18 L1_18 0 0 (L1_18 105 11)).bind (fun ⟨I2_85, L2_85⟩ => (some ((3 : Int), I2_85, L2_85)))) else none) else none)) else (if (1 : Int) = 0 then (if 1 ≤ dp then ((kf_230 n (dp - 1) e 0 I1_18 L1_18 0 x1_18 0).bind (fun ⟨I2_85, L2_85⟩ => (some ((3 : Int), I2_85, L2_85)))) else none) else (if 1 ≤ dp then (if -2147483648 ≤ (L1_18 105 11) ∧ (L1_18 105 11) ≤ 2147483647 then ((kf_230 n (dp - 1) e 0 I1_18 L1_18 0 x1_18 (L1_18 105 11)).bind (fun ⟨I2_85, L2_85⟩ => (some ((3 : Int), I2_85, L2_85)))) else none) else none))) else (if x1_18 = (-1) then (if (1 : Int) = 0 then (if 1 ≤ dp then ((kf_230 n (dp - 1) e 0 I1_18 L1_18 1 0 0).bind (fun ⟨I2_85, L2_85⟩ => (some ((3 : Int), I2_85, L2_85)))) else none) else (if 1 ≤ dp then (if -2147483648 ≤ (L1_18 105 11) ∧ (L1_18 105 11) ≤ 2147483647 then ((kf_230 n (dp - 1) e 0 I1_18 L1_18 1 0 (L1_18 105 11)).bind (fun ⟨I2_85, L2_85⟩ => (some ((3 : Int), I2_85, L2_85)))) else none) else none)) else (if (1 : Int) = 0 then (if 1 ≤ dp then ((kf_230 n (dp - 1) e 0 I1_18 L1_18 1 x1_18 0).bind (fun ⟨I2_85, L2_85⟩ => (some ((3 : Int), I2_85, L2_85)))) else none) else (if 1 ≤ dp then (if -2147483648 ≤ (L1_18 105 11) ∧ (L1_18 105 11) ≤ 2147483647 then ((kf_230 n (dp - 1) e 0 I1_18 L1_18 1 x1_18 (L1_18 105 11)).bind (fun ⟨I2_85, L2_85⟩ => (some ((3 : Int), I2_85, L2_85)))) else none) else none)))) else (if x1_18 = (-1) then (if (1 : Int) = 0 then (if 1 ≤ dp then ((kf_230 n (dp - 1) e 0 I1_18 L1_18 1 0 0).bind (fun ⟨I2_85, L2_85⟩ => (some ((3 : Int), I2_85, L2_85)))) else none) else (if 1 ≤ dp then (if -2147483648 ≤ (L1_18 105 11) ∧ (L1_18 105 11) ≤ 2147483647 then ((kf_230 n (dp - 1) e 0 I1_18 L1_18 1 0 (L1_18 105 11)).bind (fun ⟨I2_85, L2_85⟩ => (some ((3 : Int), I2_85, L2_85)))) else none) else none)) else (if (1 : Int) = 0 then (if 1 ≤ dp then ((kf_230 n (dp - 1) e 0 I1_18 L1_18 1 x1_18 0).bind (fun ⟨I2_85, L2_85⟩ => (some ((3 : Int), I2_85, L2_85)))) else none) else (if 1 ≤ dp then (if -2147483648 ≤ (L1_18 105 11) ∧ (L1_18 105 11) ≤ 2147483647 then ((kf_230 n (dp - 1) e 0 I1_18 L1_18 1 x1_18 (L1_18 105 11)).bind (fun ⟨I2_85, L2_85⟩ => (some ((3 : Int), I2_85, L2_85)))) else none) else none))))) else (kf_228 n dp e 1 I1_18 L1_18 x1_18)))) else none) else (if 1 ≤ dp then ((kf_227 n (dp - 1) e 0 I0_3 L0_3 31).bind (fun ⟨I1_12, L1_12⟩ => (some ((1 : Int), I1_12, L1_12)))) else none)))) else none)) P_) : Ev (fun n => kf_228 n dp e 0 I L i1) P_ := Ev_step (fun n => ke_228_0 n dp e I L i1) h
set_option maxRecDepth 100000 in
theorem ev_228_1 {dp : Nat} {e : EN} {I : JI} {L : JI} {i1 : Int} {P_ : (Int × JI × JI) → Prop} (h : Ev (fun n => (if i1 = (-1) then (if (0 : Int) = 0 then (if i1 = (-1) then (if (0 : Int) = 0 then (if 1 ≤ dp then ((kf_230 n (dp - 1) e 0 I L 0 0 0).bind (fun ⟨I0_85, L0_85⟩ => (some ((3 : Int), I0_85, L0_85)))) else none) else (if 1 ≤ dp then (if -2147483648 ≤ (L 105 11) ∧ (L 105 11) ≤ 2147483647 then ((kf_230 n (dp - 1) e 0 I L 0 0 (L 105 11)).bind (fun ⟨I0_85, L0_85⟩ => (some ((3 : Int), I0_85, L0_85)))) else none) else none)) else (if (0 : Int) = 0 then (if 1 ≤ dp then ((kf_230 n (dp - 1) e 0 I L 0 i1 0).bind (fun ⟨I0_85, L0_85⟩ => (some ((3 : Int), I0_85, L0_85)))) else none) else (if 1 ≤ dp then (if -2147483648 ≤ (L 105 11) ∧ (L 105 11) ≤ 2147483647 then ((kf_230 n (dp - 1) e 0 I L 0 i1 (L 105 11)).bind (fun ⟨I0_85, L0_85⟩ => (some ((3 : Int), I0_85, L0_85)))) else none) else none))) else (if i1 = (-1) then (if (0 : Int) = 0 then (if 1 ≤ dp then ((kf_230 n (dp - 1) e 0 I L 1 0 0).bind (fun ⟨I0_85, L0_85⟩ => (some ((3 : Int), I0_85, L0_85)))) else none) else (if 1 ≤ dp then (if -2147483648 ≤ (L 105 11) ∧ (L 105 11) ≤ 2147483647 then ((kf_230 n (dp - 1) e 0 I L 1 0 (L 105 11)).bind (fun ⟨I0_85, L0_85⟩ => (some ((3 : Int), I0_85, L0_85)))) else none) else none)) else (if (0 : Int) = 0 then (if 1 ≤ dp then ((kf_230 n (dp - 1) e 0 I L 1 i1 0).bind (fun ⟨I0_85, L0_85⟩ => (some ((3 : Int), I0_85, L0_85)))) else none) else (if 1 ≤ dp then (if -2147483648 ≤ (L 105 11) ∧ (L 105 11) ≤ 2147483647 then ((kf_230 n (dp - 1) e 0 I L 1 i1 (L 105 11)).bind (fun ⟨I0_85, L0_85⟩ => (some ((3 : Int), I0_85, L0_85)))) else none) else none)))) else (if i1 = (-1) then (if (0 : Int) = 0 then (if 1 ≤ dp then ((kf_230 n (dp - 1) e 0 I L 1 0 0).bind (fun ⟨I0_85, L0_85⟩ => (some ((3 : Int), I0_85, L0_85)))) else none) else (if 1 ≤ dp then (if -2147483648 ≤ (L 105 11) ∧ (L 105 11) ≤ 2147483647 then ((kf_230 n (dp - 1) e 0 I L 1 0 (L 105 11)).bind (fun ⟨I0_85, L0_85⟩ => (some ((3 : Int), I0_85, L0_85)))) else none) else none)) else (if (0 : Int) = 0 then (if 1 ≤ dp then ((kf_230 n (dp - 1) e 0 I L 1 i1 0).bind (fun ⟨I0_85, L0_85⟩ => (some ((3 : Int), I0_85, L0_85)))) else none) else (if 1 ≤ dp then (if -2147483648 ≤ (L 105 11) ∧ (L 105 11) ≤ 2147483647 then ((kf_230 n (dp - 1) e 0 I L 1 i1 (L 105 11)).bind (fun ⟨I0_85, L0_85⟩ => (some ((3 : Int), I0_85, L0_85)))) else none) else none))))) P_) : Ev (fun n => kf_228 n dp e 1 I L i1) P_ := Ev_step (fun n => ke_228_1 n dp e I L i1) h
set_option maxRecDepth 100000 in
theorem ev_224_0 {dp : Nat} {e : EN} {I : JI} {L : JI} {P_ : (Int × JI × JI) → Prop} (h : Ev (fun n => (if 1 ≤ dp then ((kf_218 n (dp - 1) e 0 I L 14836).bind (fun ⟨x0_4, I0_4, L0_4⟩ => (if x0_4 = 0 then (if 1 ≤ dp then ((kf_226 n (dp - 1) e 0 I0_4 L0_4 40).bind (fun ⟨x1_26, I1_26, L1_26⟩ => (if x1_26 = 0 then (if 1 ≤ dp then ((kf_228 n (dp - 1) e 0 I1_26 L1_26 0).bind (fun ⟨x2_41, I2_41, L2_41⟩ => (some ((x2_41 : Int), I2_41, L2_41)))) else none) else (if 1 ≤ dp then ((kf_227 n (dp - 1) e 0 I1_26 L1_26 30).bind (fun ⟨I2_35, L2_35⟩ => (some ((0 : Int), I2_35, L2_35)))) else none)))) else none) else (if 1 ≤ dp then ((kf_225 n (dp - 1) e 0 I0_4 L0_4 27 0).bind (fun ⟨I1_14, L1_14⟩ => (if 1 ≤ dp then ((kf_214 n (dp - 1) e 0 I1_14 L1_14).bind (fun ⟨I2_18, L2_18⟩ => (some ((0 : Int), I2_18, L2_18)))) else none))) else none)))) else none)) P_) : Ev (fun n => kf_224 n dp e 0 I L) P_ := Ev_step (fun n => ke_224_0 n dp e I L) h
set_option maxRecDepth 100000 in
theorem ev_223_1 {dp : Nat} {e : EN} {I : JI} {L : JI} {i1 : Int} {i2 : Int} {P_ : (JI × JI) → Prop} (h : Ev (fun n => (if (I 105 13) = 0 then (if i2 = 4 then (if 1 ≤ dp then ((kf_234 n (dp - 1) e 0 I L 1).bind (fun ⟨I0_78, L0_78⟩ => (some (I0_78, L0_78)))) else none) else (if i2 = 0 then (if 1 ≤ dp then ((kf_224 n (dp - 1) e 0 I L).bind (fun ⟨x0_37, I0_37, L0_37⟩ => (kf_223 n dp e 1 I0_37 L0_37 i1 x0_37))) else none) else (if i2 = 1 then (if 1 ≤ dp then ((kf_228 n (dp - 1) e 0 I L 0).bind (fun ⟨x0_49, I0_49, L0_49⟩ => (kf_223 n dp e 1 I0_49 L0_49 i1 x0_49))) else none) else (if i2 = 3 then (if 1 ≤ dp then ((kf_232 n (dp - 1) e 0 I L i1 0 0).bind (fun ⟨x0_62, I0_62, L0_62⟩ => (kf_223 n dp e 1 I0_62 L0_62 i1 x0_62))) else none) else (if 1 ≤ dp then ((kf_237 n (dp - 1) e 0 I L 0).bind (fun ⟨x0_69, I0_69, L0_69⟩ => (kf_223 n dp e 1 I0_69 L0_69 i1 x0_69))) else none))))) else (if 1 ≤ dp then ((kf_234 n (dp - 1) e 0 I L 1).bind (fun ⟨I0_78, L0_78⟩ => (some (I0_78, L0_78)))) else none))) P_) : Ev (fun n => kf_223 n dp e 1 I L i1 i2) P_ := Ev_step (fun n => ke_223_1 n dp e I L i1 i2) h
set_option maxRecDepth 100000 in
theorem ev_232_0 {dp : Nat} {e : EN} {I : JI} {L : JI} {i1 : Int} {i2 : Int} {i3 : Int} {P_ : (Int × JI × JI) → Prop} (h : Ev (fun n => (if 1 ≤ dp then ((kf_226 n (dp - 1) e 0 I L 43).bind (fun ⟨x0_3, I0_3, L0_3⟩ => (if x0_3 = 0 then (if 1 ≤ dp then ((kf_226 n (dp - 1) e 0 I0_3 L0_3 45).bind (fun ⟨x1_17, I1_17, L1_17⟩ => (if x1_17 = 0 then (if 1 ≤ dp then ((kf_226 n (dp - 1) e 0 I1_17 L1_17 42).bind (fun ⟨x2_31, I2_31, L2_31⟩ => (if x2_31 = 0 then (if 1 ≤ dp then ((kf_226 n (dp - 1) e 0 I2_31 L2_31 47).bind (fun ⟨x3_45, I3_45, L3_45⟩ => (if x3_45 = 0 then (if ((-1) : Int) = (-1) then (if 1 ≤ dp then ((kf_235 n (dp - 1) e 0 I3_45 L3_45 0 0).bind (fun ⟨x4_84, I4_84, L4_84⟩ => (if x4_84 = 31 then (if 1 ≤ dp then ((kf_226 n (dp - 1) e 0 I4_84 L4_84 93).bind (fun ⟨x5_98, I5_98, L5_98⟩ => (if 1 ≤ dp then ((kf_219 n (dp - 1) e 0 I5_98 L5_98 x5_98).bind (fun ⟨I6_101, L6_101⟩ => (if (I6_101 105 13) = 0 then (if 1 ≤ dp then ((kf_234 n (dp - 1) e 0 I6_101 L6_101 5).bind (fun ⟨I7_113, L7_113⟩ => (if -2147483648 ≤ (I7_113 105 22) - 1 ∧ (I7_113 105 22) - 1 ≤ 2147483647 then (stI (w2 I7_113 105 22 ((I7_113 105 22) - 1)) (fun I_123 => (if -2147483648 ≤ (I_123 105 23) - 1 ∧ (I_123 105 23) - 1 ≤ 2147483647 then (stI (w2 I_123 105 23 ((I_123 105 23) - 1)) (fun I_133 => (some ((3 : Int), I_133, L7_113)))) else none))) else none))) else none) else (some ((3 : Int), I6_101, L6_101))))) else none))) else none) else (if x4_84 = (-1) then (if i1 = 0 then (some ((4 : Int), I4_84, L4_84)) else (kf_232 n dp e 1 I4_84 L4_84 i1 (-1) x4_84)) else (kf_232 n dp e 1 I4_84 L4_84 i1 (-1) x4_84))))) else none) else (if 1 ≤ dp then ((kf_233 n (dp - 1) e 0 I3_45 L3_45 (-1)).bind (fun ⟨x4_65, I4_65, L4_65⟩ => (if 1 ≤ dp then ((kf_234 n (dp - 1) e 0 I4_65 L4_65 x4_65).bind (fun ⟨I5_68, L5_68⟩ => (if 1 ≤ dp then ((kf_225 n (dp - 1) e 0 I5_68 L5_68 (-1) 0).bind (fun ⟨I6_74, L6_74⟩ => (if 1 ≤ dp then ((kf_214 n (dp - 1) e 0 I6_74 L6_74).bind (fun ⟨I7_78, L7_78⟩ => (some ((1 : Int), I7_78, L7_78)))) else none))) else none))) else none))) else none)) else (if (23 : Int) = (-1) then (if 1 ≤ dp then ((kf_235 n (dp - 1) e 0 I3_45 L3_45 0 0).bind (fun ⟨x4_84, I4_84, L4_84⟩ => (if x4_84 = 31 then (if 1 ≤ dp then ((kf_226 n (dp - 1) e 0 I4_84 L4_84 93).bind (fun ⟨x5_98, I5_98, L5_98⟩ => (if 1 ≤ dp then ((kf_219 n (dp - 1) e 0 I5_98 L5_98 x5_98).bind (fun ⟨I6_101, L6_101⟩ => (if (I6_101 105 13) = 0 then (if 1 ≤ dp then ((kf_234 n (dp - 1) e 0 I6_101 L6_101 5).bind (fun ⟨I7_113, L7_113⟩ => (if -2147483648 ≤ (I7_113 105 22) - 1 ∧ (I7_113 105 22) - 1 ≤ 2147483647 then (stI (w2 I7_113 105 22 ((I7_113 105 22) - 1)) (fun I_123 => (if -2147483648 ≤ (I_123 105 23) - 1 ∧ (I_123 105 23) - 1 ≤ 2147483647 then (stI (w2 I_123 105 23 ((I_123 105 23) - 1)) (fun I_133 => (some ((3 : Int), I_133, L7_113)))) else none))) else none))) else none) else (some ((3 : Int), I6_101, L6_101))))) else none))) else none) else (if x4_84 = (-1) then (if i1 = 0 then (some ((4 : Int), I4_84, L4_84)) else (kf_232 n dp e 1 I4_84 L4_84 i1 23 x4_84)) else (kf_232 n dp e 1 I4_84 L4_84 i1 23 x4_84))))) else none) else (if 1 ≤ dp then ((kf_233 n (dp - 1) e 0 I3_45 L3_45 23).bind (fun ⟨x4_65, I4_65, L4_65⟩ => (if 1 ≤ dp then ((kf_234 n (dp - 1) e 0 I4_65 L4_65 x4_65).bind (fun ⟨I5_68, L5_68⟩ => (if 1 ≤ dp then ((kf_225 n (dp - 1) e 0 I5_68 L5_68 23 0).bind (fun ⟨I6_74, L6_74⟩ => (if 1 ≤ dp then ((kf_214 n (dp - 1) e 0 I6_74 L6_74).bind (fun ⟨I7_78, L7_78⟩ => (some ((1 : Int), I7_78, L7_78)))) else none))) else none))) else none))) else none))))) else none) else (if (22 : Int) = (-1) then (if 1 ≤ dp then ((kf_235 n (dp - 1) e 0 I2_31 L2_31 0 0).bind (fun ⟨x3_84, I3_84, L3_84⟩ => (if x3_84 = 31 then (if 1 ≤ dp then ((kf_226 n (dp - 1) e 0 I3_84 L3_84 93).bind (fun ⟨x4_98, I4_98, L4_98⟩ => (if 1 ≤ dp then ((kf_219 n (dp - 1) e 0 I4_98 L4_98 x4_98).bind (fun ⟨I5_101, L5_101⟩ => (if (I5_101 105 13) = 0 then (if 1 ≤ dp then ((kf_234 n (dp - 1) e 0 I5_101 L5_101 5).bind (fun ⟨I6_113, L6_113⟩ => (if -2147483648 ≤ (I6_113 105 22) - 1 ∧ (I6_113 105 22) - 1 ≤ 2147483647 then (stI (w2 I6_113 105 22 ((I6_113 105 22) - 1)) (fun I_123 => (if -2147483648 ≤ (I_123 105 23) - 1 ∧ (I_123 105 23) - 1 ≤ 2147483647 then (stI (w2 I_123 105 23 ((I_123 105 23) - 1)) (fun I_133 => (some ((3 : Int), I_133, L6_113)))) else none))) else none))) else none) else (some ((3 : Int), I5_101, L5_101))))) else none))) else none) else (if x3_84 = (-1) then (if i1 = 0 then (some ((4 : Int), I3_84, L3_84)) else (kf_232 n dp e 1 I3_84 L3_84 i1 22 x3_84)) else (kf_232 n dp e 1 I3_84 L3_84 i1 22 x3_84))))) else none) else (if 1 ≤ dp then ((kf_233 n (dp - 1) e 0 I2_31 L2_31 22).bind (fun ⟨x3_65, I3_65, L3_65⟩ => (if 1 ≤ dp then ((kf_234 n (dp - 1) e 0 I3_65 L3_65 x3_65).bind (fun ⟨I4_68, L4_68⟩ => (if 1 ≤ dp then ((kf_225 n (dp - 1) e 0 I4_68 L4_68 22 0).bind (fun ⟨I5_74, L5_74⟩ => (if 1 ≤ dp then ((kf_214 n (dp - 1) e 0 I5_74 L5_74).bind (fun ⟨I6_78, L6_78⟩ => (some ((1 : Int), I6_78, L6_78)))) else none))) else none))) else none))) else none))))) else none) else (if (21 : Int) = (-1) then (if 1 ≤ dp then ((kf_235 n (dp - 1) e 0 I1_17 L1_17 0 0).bind (fun ⟨x2_84, I2_84, L2_84⟩ => (if x2_84 = 31 then (if 1 ≤ dp then ((kf_226 n (dp - 1) e 0 I2_84 L2_84 93).bind (fun ⟨x3_98, I3_98, L3_98⟩ => (if 1 ≤ dp then ((kf_219 n (dp - 1) e 0 I3_98 L3_98 x3_98).bind (fun ⟨I4_101, L4_101⟩ => (if (I4_101 105 13) = 0 then (if 1 ≤ dp then ((kf_234 n (dp - 1) e 0 I4_101 L4_101 5).bind (fun ⟨I5_113, L5_113⟩ => (if -2147483648 ≤ (I5_113 105 22) - 1 ∧ (I5_113 105 22) - 1 ≤ 2147483647 then (stI (w2 I5_113 105 22 ((I5_113 105 22) - 1)) (fun I_123 => (if -2147483648 ≤ (I_123 105 23) - 1 ∧ (I_123 105 23) - 1 ≤ 2147483647 then (stI (w2 I_123 105 23 ((I_123 105 23) - 1)) (fun I_133 => (some ((3 : Int), I_133, L5_113)))) else none))) else none))) else none) else (some ((3 : Int), I4_101, L4_101))))) else none))) else none) else (if x2_84 = (-1) then (if i1 = 0 then (some ((4 : Int), I2_84, L2_84)) else (kf_232 n dp e 1 I2_84 L2_84 i1 21 x2_84)) else (kf_232 n dp e 1 I2_84 L2_84 i1 21 x2_84))))) else none) else (if 1 ≤ dp then ((kf_233 n (dp - 1) e 0 I1_17 L1_17 21).bind (fun ⟨x2_65, I2_65, L2_65⟩ => (if 1 ≤ dp then ((kf_234 n (dp - 1) e 0 I2_65 L2_65 x2_65).bind (fun ⟨I3_68, L3_68⟩ => (if 1 ≤ dp then ((kf_225 n (dp - 1) e 0 I3_68 L3_68 21 0).bind (fun ⟨I4_74, L4_74⟩ => (if 1 ≤ dp then ((kf_214 n (dp - 1) e 0 I4_74 L4_74).bind (fun ⟨I5_78, L5_78⟩ => (some ((1 : Int), I5_78, L5_78)))) else none))) else none))) else none))) else none))))) else none) else (if (20 : Int) = (-1) then (if 1 ≤ dp then ((kf_235 n (dp - 1) e 0 I0_3 L0_3 0 0).bind (fun ⟨x1_84, I1_84, L1_84⟩ => (if x1_84 = 31 then (if 1 ≤ dp then ((kf_226 n (dp - 1) e 0 I1_84 L1_84 93).bind (fun ⟨x2_98, I2_98, L2_98⟩ => (if 1 ≤ dp then ((kf_219 n (dp - 1) e 0 I2_98 L2_98 x2_98).bind (fun ⟨I3_101, L3_101⟩ => (if (I3_101 105 13) = 0 then (if 1 ≤ dp then ((kf_234 n (dp - 1) e 0 I3_101 L3_101 5).bind (fun ⟨I4_113, L4_113⟩ => (if -2147483648 ≤ (I4_113 105 22) - 1 ∧ (I4_113 105 22) - 1 ≤ 2147483647 then (stI (w2 I4_113 105 22 ((I4_113 105 22) - 1)) (fun I_123 => (if -2147483648 ≤ (I_123 105 23) - 1 ∧ (I_123 105 23) - 1 ≤ 2147483647 then (stI (w2 I_123 105 23 ((I_123 105 23) - 1)) (fun I_133 => (some ((3 : Int), I_133, L4_113)))) else none))) else none))) else none) else (some ((3 : Int), I3_101, L3_101))))) else none))) else none) else (if x1_84 = (-1) then (if i1 = 0 then (some ((4 : Int), I1_84, L1_84)) else (kf_232 n dp e 1 I1_84 L1_84 i1 20 x1_84)) else (kf_232 n dp e 1 I1_84 L1_84 i1 20 x1_84))))) else none) else (if 1 ≤ dp then ((kf_233 n (dp - 1) e 0 I0_3 L0_3 20).bind (fun ⟨x1_65, I1_65, L1_65⟩ => (if 1 ≤ dp then ((kf_234 n (dp - 1) e 0 I1_65 L1_65 x1_65).bind (fun ⟨I2_68, L2_68⟩ => (if 1 ≤ dp then ((kf_225 n (dp - 1) e 0 I2_68 L2_68 20 0).bind (fun ⟨I3_74, L3_74⟩ => (if 1 ≤ dp then ((kf_214 n (dp - 1) e 0 I3_74 L3_74).bind (fun ⟨I4_78, L4_78⟩ => (some ((1 : Int), I4_78, L4_78)))) else none))) else none))) else none))) else none))))) else none)) P_) : Ev (fun n => kf_232 n dp e 0 I L i1 i2 i3) P_ := Ev_step (fun n => ke_232_0 n dp e I L i1 i2 i3) h
set_option maxRecDepth 100000 in
theorem ev_232_1 {dp : Nat} {e : EN} {I : JI} {L : JI} {i1 : Int} {i2 : Int} {i3 : Int} {P_ : (Int × JI × JI) → Prop} (h : Ev (fun n => (if 1 ≤ dp then ((kf_236 n (dp - 1) e 0 I L 0).bind (fun ⟨x0_150, I0_150, L0_150⟩ => (if x0_150 = 0 then (if 1 ≤ dp then ((kf_226 n (dp - 1) e 0 I0_150 L0_150 60).bind (fun ⟨x1_161, I1_161, L1_161⟩ => (if x1_161 = 0 then (if 1 ≤ dp then ((kf_226 n (dp - 1) e 0 I1_161 L1_161 62).bind (fun ⟨x2_175, I2_175, L2_175⟩ => (if x2_175 = 0 then (if (26 : Int) = 26 then (if 1 ≤ dp then ((kf_226 n (dp - 1) e 0 I2_175 L2_175 61).bind (fun ⟨x3_199, I3_199, L3_199⟩ => (if x3_199 = 0 then (if 1 ≤ dp then ((kf_219 n (dp - 1) e 0 I3_199 L3_199 0).bind (fun ⟨I4_210, L4_210⟩ => (if (I4_210 105 13) = 0 then (if 1 ≤ dp then ((kf_234 n (dp - 1) e 0 I4_210 L4_210 5).bind (fun ⟨I5_222, L5_222⟩ => (if 1 ≤ dp then ((kf_225 n (dp - 1) e 0 I5_222 L5_222 26 0).bind (fun ⟨I6_228, L6_228⟩ => (some ((1 : Int), I6_228, L6_228)))) else none))) else none) else (some ((1 : Int), I4_210, L4_210))))) else none) else (if 1 ≤ dp then ((kf_219 n (dp - 1) e 0 I3_199 L3_199 1).bind (fun ⟨I4_210, L4_210⟩ => (if (I4_210 105 13) = 0 then (if 1 ≤ dp then ((kf_234 n (dp - 1) e 0 I4_210 L4_210 5).bind (fun ⟨I5_222, L5_222⟩ => (if 1 ≤ dp then ((kf_225 n (dp - 1) e 0 I5_222 L5_222 26 0).bind (fun ⟨I6_228, L6_228⟩ => (some ((1 : Int), I6_228, L6_228)))) else none))) else none) else (some ((1 : Int), I4_210, L4_210))))) else none)))) else none) else (if 1 ≤ dp then ((kf_219 n (dp - 1) e 0 I2_175 L2_175 1).bind (fun ⟨I3_210, L3_210⟩ => (if (I3_210 105 13) = 0 then (if 1 ≤ dp then ((kf_234 n (dp - 1) e 0 I3_210 L3_210 5).bind (fun ⟨I4_222, L4_222⟩ => (if 1 ≤ dp then ((kf_225 n (dp - 1) e 0 I4_222 L4_222 26 0).bind (fun ⟨I5_228, L5_228⟩ => (some ((1 : Int), I5_228, L5_228)))) else none))) else none) else (some ((1 : Int), I3_210, L3_210))))) else none)) else (if (25 : Int) = 26 then (if 1 ≤ dp then ((kf_226 n (dp - 1) e 0 I2_175 L2_175 61).bind (fun ⟨x3_199, I3_199, L3_199⟩ => (if x3_199 = 0 then (if 1 ≤ dp then ((kf_219 n (dp - 1) e 0 I3_199 L3_199 0).bind (fun ⟨I4_210, L4_210⟩ => (if (I4_210 105 13) = 0 then (if 1 ≤ dp then ((kf_234 n (dp - 1) e 0 I4_210 L4_210 5).bind (fun ⟨I5_222, L5_222⟩ => (if 1 ≤ dp then ((kf_225 n (dp - 1) e 0 I5_222 L5_222 25 0).bind (fun ⟨I6_228, L6_228⟩ => (some ((1 : Int), I6_228, L6_228)))) else none))) else none) else (some ((1 : Int), I4_210, L4_210))))) else none) else (if 1 ≤ dp then ((kf_219 n (dp - 1) e 0 I3_199 L3_199 1).bind (fun ⟨I4_210, L4_210⟩ => (if (I4_210 105 13) = 0 then (if 1 ≤ dp then ((kf_234 n (dp - 1) e 0 I4_210 L4_210 5).bind (fun ⟨I5_222, L5_222⟩ => (if 1 ≤ dp then ((kf_225 n (dp - 1) e 0 I5_222 L5_222 25 0).bind (fun ⟨I6_228, L6_228⟩ => (some ((1 : Int), I6_228, L6_228)))) else none))) else none) else (some ((1 : Int), I4_210, L4_210))))) else none)))) else none) else (if 1 ≤ dp then ((kf_219 n (dp - 1) e 0 I2_175 L2_175 1).bind (fun ⟨I3_210, L3_210⟩ => (if (I3_210 105 13) = 0 then (if 1 ≤ dp then ((kf_234 n (dp - 1) e 0 I3_210 L3_210 5).bind (fun ⟨I4_222, L4_222⟩ => (if 1 ≤ dp then ((kf_225 n (dp - 1) e 0 I4_222 L4_222 25 0).bind (fun ⟨I5_228, L5_228⟩ => (some ((1 : Int), I5_228, L5_228)))) else none))) else none) else (some ((1 : Int), I3_210, L3_210))))) else none))))) else none) else (if (24 : Int) = 26 then (if 1 ≤ dp then ((kf_226 n (dp - 1) e 0 I1_161 L1_161 61).bind (fun ⟨x2_199, I2_199, L2_199⟩ => (if x2_199 = 0 then (if 1 ≤ dp then ((kf_219 n (dp - 1) e 0 I2_199 L2_199 0).bind (fun ⟨I3_210, L3_210⟩ => (if (I3_210 105 13) = 0 then (if 1 ≤ dp then ((kf_234 n (dp - 1) e 0 I3_210 L3_210 5).bind (fun ⟨I4_222, L4_222⟩ => (if 1 ≤ dp then ((kf_225 n (dp - 1) e 0 I4_222 L4_222 24 0).bind (fun ⟨I5_228, L5_228⟩ => (some ((1 : Int), I5_228, L5_228)))) else none))) else none) else (some ((1 : Int), I3_210, L3_210))))) else none) else (if 1 ≤ dp then ((kf_219 n (dp - 1) e 0 I2_199 L2_199 1).bind (fun ⟨I3_210, L3_210⟩ => (if (I3_210 105 13) = 0 then (if 1 ≤ dp then ((kf_234 n (dp - 1) e 0 I3_210 L3_210 5).bind (fun ⟨I4_222, L4_222⟩ => (if 1 ≤ dp then ((kf_225 n (dp - 1) e 0 I4_222 L4_222 24 0).bind (fun ⟨I5_228, L5_228⟩ => (some ((1 : Int), I5_228, L5_228)))) else none))) else none) else (some ((1 : Int), I3_210, L3_210))))) else none)))) else none) else (if 1 ≤ dp then ((kf_219 n (dp - 1) e 0 I1_161 L1_161 1).bind (fun ⟨I2_210, L2_210⟩ => (if (I2_210 105 13) = 0 then (if 1 ≤ dp then ((kf_234 n (dp - 1) e 0 I2_210 L2_210 5).bind (fun ⟨I3_222, L3_222⟩ => (if 1 ≤ dp then ((kf_225 n (dp - 1) e 0 I3_222 L3_222 24 0).bind (fun ⟨I4_228, L4_228⟩ => (some ((1 : Int), I4_228, L4_228)))) else none))) else none) else (some ((1 : Int), I2_210, L2_210))))) else none))))) else none) else (some ((2 : Int), I0_150, L0_150))))) else none)) P_) : Ev (fun n => kf_232 n dp e 1 I L i1 i2 i3) P_ := Ev_step (fun n => ke_232_1 n dp e I L i1 i2 i3) h
set_option maxRecDepth 100000 in
theorem ev_237_0 {dp : Nat} {e : EN} {I : JI} {L : JI} {i1 : Int} {P_ : (Int × JI × JI) → Prop} (h : Ev (fun n => (if 1 ≤ dp then ((kf_218 n (dp - 1) e 0 I L 1476).bind (fun ⟨x0_4, I0_4, L0_4⟩ => (if x0_4 = 0 then (if 1 ≤ dp then ((kf_218 n (dp - 1) e 0 I0_4 L0_4 498).bind (fun ⟨x1_16, I1_16, L1_16⟩ => (if x1_16 = 0 then (if 1 ≤ dp then ((kf_235 n (dp - 1) e 0 I1_16 L1_16 0 0).bind (fun ⟨x2_77, I2_77, L2_77⟩ => (if x2_77 = (-1) then (some ((4 : Int), I2_77, L2_77)) else (if 1 ≤ dp then ((kf_226 n (dp - 1) e 0 I2_77 L2_77 41).bind (fun ⟨x3_90, I3_90, L3_90⟩ => (if 1 ≤ dp then ((kf_219 n (dp - 1) e 0 I3_90 L3_90 x3_90).bind (fun ⟨I4_93, L4_93⟩ => (if (I4_93 105 13) = 0 then (if 1 ≤ dp then ((kf_234 n (dp - 1) e 0 I4_93 L4_93 1).bind (fun ⟨I5_105, L5_105⟩ => (if -2147483648 ≤ (I5_105 105 22) - 1 ∧ (I5_105 105 22) - 1 ≤ 2147483647 then (stI (w2 I5_105 105 22 ((I5_105 105 22) - 1)) (fun I_115 => (if -2147483648 ≤ (I_115 105 23) - 1 ∧ (I_115 105 23) - 1 ≤ 2147483647 then (stI (w2 I_115 105 23 ((I_115 105 23) - 1)) (fun I_125 => (some ((2 : Int), I_125, L5_105)))) else none))) else none))) else none) else (some ((2 : Int), I4_93, L4_93))))) else none))) else none)))) else none) else (kf_237 n dp e 1 I1_16 L1_16 x0_4)))) else none) else (kf_237 n dp e 1 I0_4 L0_4 x0_4)))) else none)) P_) : Ev (fun n => kf_237 n dp e 0 I L i1) P_ := Ev_step (fun n => ke_237_0 n dp e I L i1) h
set_option maxRecDepth 100000 in
theorem ev_237_1 {dp : Nat} {e : EN} {I : JI} {L : JI} {i1 : Int} {P_ : (Int × JI × JI) → Prop} (h : Ev (fun n => (if i1 = 0 then (if 1 ≤ dp then ((kf_234 n (dp - 1) e 0 I L 1).bind (fun ⟨I0_32, L0_32⟩ => (if i1 = 0 then (if 1 ≤ dp then ((kf_225 n (dp - 1) e 0 I0_32 L0_32 29 (I0_32 105 16)).bind (fun ⟨I1_51, L1_51⟩ => (if i1 = 0 then (if 1 ≤ dp then ((kf_231 n (dp - 1) e 0 I1_51 L1_51 29 0).bind (fun ⟨I2_67, L2_67⟩ => (if 1 ≤ dp then ((kf_214 n (dp - 1) e 0 I2_67 L2_67).bind (fun ⟨I3_71, L3_71⟩ => (some ((0 : Int), I3_71, L3_71)))) else none))) else none) else (if 1 ≤ dp then ((kf_231 n (dp - 1) e 0 I1_51 L1_51 28 0).bind (fun ⟨I2_67, L2_67⟩ => (if 1 ≤ dp then ((kf_214 n (dp - 1) e 0 I2_67 L2_67).bind (fun ⟨I3_71, L3_71⟩ => (some ((0 : Int), I3_71, L3_71)))) else none))) else none)))) else none) else (if 1 ≤ dp then ((kf_225 n (dp - 1) e 0 I0_32 L0_32 28 (I0_32 105 16)).bind (fun ⟨I1_51, L1_51⟩ => (if i1 = 0 then (if 1 ≤ dp then ((kf_231 n (dp - 1) e 0 I1_51 L1_51 29 0).bind (fun ⟨I2_67, L2_67⟩ => (if 1 ≤ dp then ((kf_214 n (dp - 1) e 0 I2_67 L2_67).bind (fun ⟨I3_71, L3_71⟩ => (some ((0 : Int), I3_71, L3_71)))) else none))) else none) else (if 1 ≤ dp then ((kf_231 n (dp - 1) e 0 I1_51 L1_51 28 0).bind (fun ⟨I2_67, L2_67⟩ => (if 1 ≤ dp then ((kf_214 n (dp - 1) e 0 I2_67 L2_67).bind (fun ⟨I3_71, L3_71⟩ => (some ((0 : Int), I3_71, L3_71)))) else none))) else none)))) else none)))) else none) else (if 1 ≤ dp then ((kf_234 n (dp - 1) e 0 I L 2).bind (fun ⟨I0_32, L0_32⟩ => (if i1 = 0 then (if 1 ≤ dp then ((kf_225 n (dp - 1) e 0 I0_32 L0_32 29 (I0_32 105 16)).bind (fun ⟨I1_51, L1_51⟩ => (if i1 = 0 then (if 1 ≤ dp then ((kf_231 n (dp - 1) e 0 I1_51 L1_51 29 0).bind (fun ⟨I2_67, L2_67⟩ => (if 1 ≤ dp then ((kf_214 n (dp - 1) e 0 I2_67 L2_67).bind (fun ⟨I3_71, L3_71⟩ => (some ((0 : Int), I3_71, L3_71)))) else none))) else none) else (if 1 ≤ dp then ((kf_231 n (dp - 1) e 0 I1_51 L1_51 28 0).bind (fun ⟨I2_67, L2_67⟩ => (if 1 ≤ dp then ((kf_214 n (dp - 1) e 0 I2_67 L2_67).bind (fun ⟨I3_71, L3_71⟩ => (some ((0 : Int), I3_71, L3_71)))) else none))) else none)))) else none) else (if 1 ≤ dp then ((kf_225 n (dp - 1) e 0 I0_32 L0_32 28 (I0_32 105 16)).bind (fun ⟨I1_51, L1_51⟩ => (if i1 = 0 then (if 1 ≤ dp then ((kf_231 n (dp - 1) e 0 I1_51 L1_51 29 0).bind (fun ⟨I2_67, L2_67⟩ => (if 1 ≤ dp then ((kf_214 n (dp - 1) e 0 I2_67 L2_67).bind (fun ⟨I3_71, L3_71⟩ => (some ((0 : Int), I3_71, L3_71)))) else none))) else none) else (if 1 ≤ dp then ((kf_231 n (dp - 1) e 0 I1_51 L1_51 28 0).bind (fun ⟨I2_67, L2_67⟩ => (if 1 ≤ dp then ((kf_214 n (dp - 1) e 0 I2_67 L2_67).bind (fun ⟨I3_71, L3_71⟩ => (some ((0 : Int), I3_71, L3_71)))) else none))) else none)))) else none)))) else none))) P_) : Ev (fun n => kf_237 n dp e 1 I L i1) P_ := Ev_step (fun n => ke_237_1 n dp e I L i1) h
end
/-! PARSER 8: what the reference's reader does at each turn -/
section GO
variable {dp dm : Nat} {e : EN} {K L : JI} {β : Type} {T : β → Prop}
theorem Ev_ex {α : Type} {f : Nat → Option α} {P : α → Prop} (h : Ev f P) : ∃ r, P r ∧ Ev f (fun s => s = r) := by
  obtain ⟨N, r, h1, h2⟩ := h
  exact ⟨r, h2, N, r, h1, rfl⟩
theorem Ev226t {c : Int} {k : Nat → Int × JI × JI → Option β} (h : K 105 10 = 3 ∧ L 105 11 = c) (g : Ev (fun n => k n (1, K, L)) T) : Ev (fun n => (kf_226 n dp e 0 K L c).bind (k n)) T := Ev226 (fun _ => g) (fun c => absurd h c)
theorem Ev226f {c : Int} {k : Nat → Int × JI × JI → Option β} (h : ¬ (K 105 10 = 3 ∧ L 105 11 = c)) (g : Ev (fun n => k n (0, K, L)) T) : Ev (fun n => (kf_226 n dp e 0 K L c).bind (k n)) T := Ev226 (fun c => absurd c h) (fun _ => g)
theorem Ev218t {w : Int} {k : Nat → Int × JI × JI → Option β} (h : K 105 10 = 1 ∧ L 105 11 = w) (g : Ev (fun n => k n (1, K, L)) T) : Ev (fun n => (kf_218 n dp e 0 K L w).bind (k n)) T := Ev218 (fun _ => g) (fun c => absurd h c)
theorem Ev218f {w : Int} {k : Nat → Int × JI × JI → Option β} (h : ¬ (K 105 10 = 1 ∧ L 105 11 = w)) (g : Ev (fun n => k n (0, K, L)) T) : Ev (fun n => (kf_218 n dp e 0 K L w).bind (k n)) T := Ev218 (fun c => absurd c h) (fun _ => g)
def Go (dm : Nat) (e : EN) (tst t : Int) (K L : JI) (t' : Int) (K' L' : JI) : Prop := ∀ Q : JI × JI → Prop, Ev (fun n => kf_223 n dm e 1 K' L' tst t') Q → Ev (fun n => kf_223 n dm e 1 K L tst t) Q
theorem Go_t {tst t t1 t2 : Int} {K1 L1 K2 L2 : JI} (h : Go dm e tst t K L t1 K1 L1) (g : Go dm e tst t1 K1 L1 t2 K2 L2) : Go dm e tst t K L t2 K2 L2 := fun Q q => h Q (g Q q)
def KP (b : Int) (q : List (Int × Int)) (K L : JI) : Prop := K 105 13 = 0 ∧ (K 105 22 = q.length ∧ Pl (K 114) (K 115) q ∧ Pk (K 105 16) q) ∧ K 105 23 = b ∧ (0 ≤ K 105 16 ∧ K 105 16 + q.length ≤ 400) ∧ (0 ≤ K 105 9 ∧ K 105 9 ≤ K 105 7 ∧ K 105 7 ≤ 400) ∧ (∀ i : Nat, i < 5 → L 116 i = cws.getD (4 + i) 0) ∧ (0 ≤ K 105 19 ∧ K 105 19 ≤ 50) ∧ (0 ≤ b ∧ b ≤ 8) ∧ (K 105 10 = 2 → 0 ≤ L 105 11)
def badK (K : JI) : JI := w2 (w2 K 105 13 1) 105 12 (K 105 8)
def opn (o : Int) (K K1 : JI) : JI := w2 (w2 (w2 (w2 K1 105 23 (K 105 23 + 1)) 114 (K 105 22) o) 115 (K 105 22) 0) 105 22 (K 105 22 + 1)
def lef (o v : Int) (K K1 : JI) : JI := w2 (w2 (w2 (w2 K1 112 (K 105 16) o) 113 (K 105 16) v) 105 16 (K 105 16 + 1)) 105 19 (K 105 19 + 1)
def psh (o a : Int) (K : JI) : JI := w2 (w2 (w2 K 114 (K 105 22) o) 115 (K 105 22) a) 105 22 (K 105 22 + 1)
def emt (o a : Int) (K : JI) : JI := w2 (w2 (w2 K 112 (K 105 16) o) 113 (K 105 16) a) 105 16 (K 105 16 + 1)
def cls1 (K : JI) : JI := w2 (w2 K 105 22 (K 105 22 - 1)) 105 23 (K 105 23 - 1)
theorem K228a {b x : Int} {q : List (Int × Int)} (hd : 4 ≤ dp) (h : KP b q K L) (hk : K 105 16 + q.length < 400) (hs : K 105 10 = 3 ∧ L 105 11 = 91) (hb : b < 8) : Ev (fun n => kf_228 n dp e 0 K L x) (fun r => r.1 = 1 ∧ ∃ K1, NX K L K1 r.2.2 ∧ r.2.1 = opn 31 K K1) := by
  obtain ⟨h1, h2, h3, h4, h5, h6, h7, h8, h9⟩ := h
  refine ev_228_0 ?_
  repeat (first | (with_reducible refine Ev_t ?_ ?_; · omega) | (with_reducible refine Ev_f ?_ ?_; · omega) | (with_reducible refine Ev226t ?_ ?_; (· omega); try dsimp only) | (with_reducible refine Ev226f ?_ ?_; (· omega); try dsimp only) | (with_reducible refine Ev218t ?_ ?_; (· omega); try dsimp only) | (with_reducible refine Ev218f ?_ ?_; (· omega); try dsimp only))
  exact Ev_bind (K227t (by omega) h1 (by omega) (by omega) h5) (fun r ⟨K1, hr, he⟩ => Ev_ret ⟨rfl, K1, hr, he⟩)
theorem K228b {b x : Int} {q : List (Int × Int)} (hd : 4 ≤ dp) (h : KP b q K L) (hs : K 105 10 = 3 ∧ L 105 11 = 91) (hb : 8 ≤ b) : Ev (fun n => kf_228 n dp e 0 K L x) (fun r => r = (1, badK K, L)) := by
  obtain ⟨h1, h2, h3, h4, h5, h6, h7, h8, h9⟩ := h
  refine ev_228_0 ?_
  repeat (first | (with_reducible refine Ev_t ?_ ?_; · omega) | (with_reducible refine Ev_f ?_ ?_; · omega) | (with_reducible refine Ev226t ?_ ?_; (· omega); try dsimp only) | (with_reducible refine Ev226f ?_ ?_; (· omega); try dsimp only) | (with_reducible refine Ev218t ?_ ?_; (· omega); try dsimp only) | (with_reducible refine Ev218f ?_ ?_; (· omega); try dsimp only))
  exact Ev_call (K227f (by omega) h1 (by omega)) (Ev_ret rfl)
theorem K228c {b x o v : Int} {q : List (Int × Int)} (hd : 4 ≤ dp) (h : KP b q K L) (hk : K 105 16 + q.length < 400) (h5 : K 105 19 < 50) (hs : (K 105 10 = 2 ∧ L 105 11 ≤ 1000 ∧ o = 0 ∧ v = L 105 11) ∨ ∃ i : Nat, i < 5 ∧ (K 105 10 = 1 ∧ L 105 11 = cws.getD (4 + i) 0) ∧ o = (i : Int) + 1 ∧ v = 0) : Ev (fun n => kf_228 n dp e 0 K L x) (fun r => r.1 = 3 ∧ ∃ K1, NX K L K1 r.2.2 ∧ r.2.1 = lef o v K K1) := by
  obtain ⟨h1, h2, h3, h4, h5', h6, h7, h8, h9⟩ := h
  refine ev_228_0 ?_
  rcases hs with ⟨s1, s2, s3, s4⟩ | ⟨i, s0, s1, s3, s4⟩
  · subst s3; subst s4
    repeat (first | (with_reducible refine Ev_t ?_ ?_; · omega) | (with_reducible refine Ev_f ?_ ?_; · omega) | (with_reducible refine Ev226t ?_ ?_; (· omega); try dsimp only) | (with_reducible refine Ev226f ?_ ?_; (· omega); try dsimp only) | (with_reducible refine Ev218t ?_ ?_; (· omega); try dsimp only) | (with_reducible refine Ev218f ?_ ?_; (· omega); try dsimp only))
    refine Ev229 (by omega) h6 (fun i _ c => absurd c (by omega)) (fun _ => ?_)
    dsimp only
    repeat (first | (with_reducible refine Ev_t ?_ ?_; · omega) | (with_reducible refine Ev_f ?_ ?_; · omega) | (with_reducible refine Ev226t ?_ ?_; (· omega); try dsimp only) | (with_reducible refine Ev226f ?_ ?_; (· omega); try dsimp only) | (with_reducible refine Ev218t ?_ ?_; (· omega); try dsimp only) | (with_reducible refine Ev218f ?_ ?_; (· omega); try dsimp only))
    exact Ev_bind (K230t (by omega) h1 (by decide) (by omega) (by omega) h5') (fun r ⟨K1, hr, he⟩ => Ev_ret ⟨rfl, K1, hr, he⟩)
  · subst s3; subst s4
    repeat (first | (with_reducible refine Ev_t ?_ ?_; · omega) | (with_reducible refine Ev_f ?_ ?_; · omega) | (with_reducible refine Ev226t ?_ ?_; (· omega); try dsimp only) | (with_reducible refine Ev226f ?_ ?_; (· omega); try dsimp only) | (with_reducible refine Ev218t ?_ ?_; (· omega); try dsimp only) | (with_reducible refine Ev218f ?_ ?_; (· omega); try dsimp only))
    refine Ev229 (by omega) h6 (fun j hj j1 j2 => ?_) (fun c => absurd s1 (c i s0))
    have ij : i = j := by
      have i5 : i = 0 ∨ i = 1 ∨ i = 2 ∨ i = 3 ∨ i = 4 := by omega
      have j5 : j = 0 ∨ j = 1 ∨ j = 2 ∨ j = 3 ∨ j = 4 := by omega
      have e2 := s1.2.symm.trans j2
      rcases i5 with rfl | rfl | rfl | rfl | rfl <;> rcases j5 with rfl | rfl | rfl | rfl | rfl <;> first | rfl | (exfalso; revert e2; decide)
    subst ij
    dsimp only
    repeat (first | (with_reducible refine Ev_t ?_ ?_; · omega) | (with_reducible refine Ev_f ?_ ?_; · omega) | (with_reducible refine Ev226t ?_ ?_; (· omega); try dsimp only) | (with_reducible refine Ev226f ?_ ?_; (· omega); try dsimp only) | (with_reducible refine Ev218t ?_ ?_; (· omega); try dsimp only) | (with_reducible refine Ev218f ?_ ?_; (· omega); try dsimp only))
    refine ev_228_1 ?_
    repeat (first | (with_reducible refine Ev_t ?_ ?_; · omega) | (with_reducible refine Ev_f ?_ ?_; · omega) | (with_reducible refine Ev226t ?_ ?_; (· omega); try dsimp only) | (with_reducible refine Ev226f ?_ ?_; (· omega); try dsimp only) | (with_reducible refine Ev218t ?_ ?_; (· omega); try dsimp only) | (with_reducible refine Ev218f ?_ ?_; (· omega); try dsimp only))
    exact Ev_bind (K230t (by omega) h1 (by decide) (by omega) (by omega) h5') (fun r ⟨K1, hr, he⟩ => Ev_ret ⟨rfl, K1, hr, he⟩)
theorem K228d {b x : Int} {q : List (Int × Int)} (hd : 4 ≤ dp) (h : KP b q K L) (hn : ¬ (K 105 10 = 3 ∧ L 105 11 = 91)) (hs : 50 ≤ K 105 19 ∨ (¬ (K 105 10 = 2 ∧ L 105 11 ≤ 1000) ∧ ∀ i : Nat, i < 5 → ¬ (K 105 10 = 1 ∧ L 105 11 = cws.getD (4 + i) 0))) : Ev (fun n => kf_228 n dp e 0 K L x) (fun r => r = (3, badK K, L)) := by
  obtain ⟨h1, h2, h3, h4, h5', h6, h7, h8, h9⟩ := h
  refine ev_228_0 ?_
  repeat (first | (with_reducible refine Ev_t ?_ ?_; · omega) | (with_reducible refine Ev_f ?_ ?_; · omega) | (with_reducible refine Ev226t ?_ ?_; (· omega); try dsimp only) | (with_reducible refine Ev226f ?_ ?_; (· omega); try dsimp only) | (with_reducible refine Ev218t ?_ ?_; (· omega); try dsimp only) | (with_reducible refine Ev218f ?_ ?_; (· omega); try dsimp only))
  by_cases c2 : K 105 10 = 2 ∧ L 105 11 ≤ 1000
  · have := h9 c2.1
    have h50 : 50 ≤ K 105 19 := by
      rcases hs with a | ⟨a, _⟩
      · exact a
      · exact absurd c2 a
    refine Ev229 (by omega) h6 (fun i _ c => absurd c (by omega)) (fun _ => ?_)
    dsimp only
    repeat (first | (with_reducible refine Ev_t ?_ ?_; · omega) | (with_reducible refine Ev_f ?_ ?_; · omega) | (with_reducible refine Ev226t ?_ ?_; (· omega); try dsimp only) | (with_reducible refine Ev226f ?_ ?_; (· omega); try dsimp only) | (with_reducible refine Ev218t ?_ ?_; (· omega); try dsimp only) | (with_reducible refine Ev218f ?_ ?_; (· omega); try dsimp only))
    exact Ev_call (K230f (by omega) h1 (Or.inr h50)) (Ev_ret rfl)
  · refine Ev229 (by omega) h6 (fun i i5 i1 i2 => ?_) (fun c => ?_)
    · have h50 : 50 ≤ K 105 19 := by
        rcases hs with a | ⟨_, a⟩
        · exact a
        · exact absurd ⟨i1, i2⟩ (a i i5)
      dsimp only
      repeat (first | (with_reducible refine Ev_t ?_ ?_; · omega) | (with_reducible refine Ev_f ?_ ?_; · omega) | (with_reducible refine Ev226t ?_ ?_; (· omega); try dsimp only) | (with_reducible refine Ev226f ?_ ?_; (· omega); try dsimp only) | (with_reducible refine Ev218t ?_ ?_; (· omega); try dsimp only) | (with_reducible refine Ev218f ?_ ?_; (· omega); try dsimp only))
      refine ev_228_1 ?_
      repeat (first | (with_reducible refine Ev_t ?_ ?_; · omega) | (with_reducible refine Ev_f ?_ ?_; · omega) | (with_reducible refine Ev226t ?_ ?_; (· omega); try dsimp only) | (with_reducible refine Ev226f ?_ ?_; (· omega); try dsimp only) | (with_reducible refine Ev218t ?_ ?_; (· omega); try dsimp only) | (with_reducible refine Ev218f ?_ ?_; (· omega); try dsimp only))
      exact Ev_call (K230f (by omega) h1 (Or.inr h50)) (Ev_ret rfl)
    · dsimp only
      have fin : Ev (fun n => kf_228 n dp e 1 K L (-1)) (fun r => r = (3, badK K, L)) := by
        refine ev_228_1 ?_
        repeat (first | (with_reducible refine Ev_t ?_ ?_; · omega) | (with_reducible refine Ev_f ?_ ?_; · omega) | (with_reducible refine Ev226t ?_ ?_; (· omega); try dsimp only) | (with_reducible refine Ev226f ?_ ?_; (· omega); try dsimp only) | (with_reducible refine Ev218t ?_ ?_; (· omega); try dsimp only) | (with_reducible refine Ev218f ?_ ?_; (· omega); try dsimp only))
        exact Ev_call (K230f (by omega) h1 (Or.inl rfl)) (Ev_ret rfl)
      refine Ev_c (fun d => Ev_t (by omega) fin) (fun d => fin)
theorem K224not {b : Int} {q : List (Int × Int)} (hd : 4 ≤ dp) (h : KP b q K L) (hk : K 105 16 + q.length < 400) (hs : K 105 10 = 1 ∧ L 105 11 = 14836) : Ev (fun n => kf_224 n dp e 0 K L) (fun r => r.1 = 0 ∧ NX (psh 27 0 K) L r.2.1 r.2.2) := by
  obtain ⟨h1, h2, h3, h4, h5, h6, h7, h8, h9⟩ := h
  refine ev_224_0 ?_
  repeat (first | (with_reducible refine Ev_t ?_ ?_; · omega) | (with_reducible refine Ev_f ?_ ?_; · omega) | (with_reducible refine Ev226t ?_ ?_; (· omega); try dsimp only) | (with_reducible refine Ev226f ?_ ?_; (· omega); try dsimp only) | (with_reducible refine Ev218t ?_ ?_; (· omega); try dsimp only) | (with_reducible refine Ev218f ?_ ?_; (· omega); try dsimp only))
  refine Ev_call (K225 (by omega)) ?_
  dsimp only
  repeat (first | (with_reducible refine Ev_t ?_ ?_; · omega) | (with_reducible refine Ev_f ?_ ?_; · omega) | (with_reducible refine Ev226t ?_ ?_; (· omega); try dsimp only) | (with_reducible refine Ev226f ?_ ?_; (· omega); try dsimp only) | (with_reducible refine Ev218t ?_ ?_; (· omega); try dsimp only) | (with_reducible refine Ev218f ?_ ?_; (· omega); try dsimp only))
  exact Ev_bind (K214 (by omega) h5) (fun r hr => Ev_ret ⟨rfl, hr⟩)
theorem K224a {b : Int} {q : List (Int × Int)} (hd : 5 ≤ dp) (h : KP b q K L) (hk : K 105 16 + q.length < 400) (hs : K 105 10 = 3 ∧ L 105 11 = 40) (hb : b < 8) : Ev (fun n => kf_224 n dp e 0 K L) (fun r => r.1 = 0 ∧ ∃ K1, NX K L K1 r.2.2 ∧ r.2.1 = opn 30 K K1) := by
  obtain ⟨h1, h2, h3, h4, h5, h6, h7, h8, h9⟩ := h
  refine ev_224_0 ?_
  repeat (first | (with_reducible refine Ev_t ?_ ?_; · omega) | (with_reducible refine Ev_f ?_ ?_; · omega) | (with_reducible refine Ev226t ?_ ?_; (· omega); try dsimp only) | (with_reducible refine Ev226f ?_ ?_; (· omega); try dsimp only) | (with_reducible refine Ev218t ?_ ?_; (· omega); try dsimp only) | (with_reducible refine Ev218f ?_ ?_; (· omega); try dsimp only))
  exact Ev_bind (K227t (by omega) h1 (by omega) (by omega) h5) (fun r ⟨K1, hr, he⟩ => Ev_ret ⟨rfl, K1, hr, he⟩)
theorem K224b {b : Int} {q : List (Int × Int)} (hd : 5 ≤ dp) (h : KP b q K L) (hs : K 105 10 = 3 ∧ L 105 11 = 40) (hb : 8 ≤ b) : Ev (fun n => kf_224 n dp e 0 K L) (fun r => r = (0, badK K, L)) := by
  obtain ⟨h1, h2, h3, h4, h5, h6, h7, h8, h9⟩ := h
  refine ev_224_0 ?_
  repeat (first | (with_reducible refine Ev_t ?_ ?_; · omega) | (with_reducible refine Ev_f ?_ ?_; · omega) | (with_reducible refine Ev226t ?_ ?_; (· omega); try dsimp only) | (with_reducible refine Ev226f ?_ ?_; (· omega); try dsimp only) | (with_reducible refine Ev218t ?_ ?_; (· omega); try dsimp only) | (with_reducible refine Ev218f ?_ ?_; (· omega); try dsimp only))
  exact Ev_call (K227f (by omega) h1 (by omega)) (Ev_ret rfl)
/-- at turn 0 or 1 a part is read -/
theorem go_part {b tst t : Int} {q : List (Int × Int)} {P : Int × JI × JI → Prop} (hd : 6 ≤ dm) (h : KP b q K L) (ht : t = 1 ∨ (t = 0 ∧ ¬ (K 105 10 = 1 ∧ L 105 11 = 14836) ∧ ¬ (K 105 10 = 3 ∧ L 105 11 = 40))) (hP : ∀ d, 4 ≤ d → Ev (fun n => kf_228 n d e 0 K L 0) P) : ∃ r : Int × JI × JI, P r ∧ Go dm e tst t K L r.1 r.2.1 r.2.2 := by
  have h1 := h.1
  rcases ht with rfl | ⟨rfl, n1, n2⟩
  · obtain ⟨r, r1, r2⟩ := Ev_ex (hP (dm - 1) (by omega))
    refine ⟨r, r1, fun Q g => ?_⟩
    refine ev_223_1 ?_
    repeat (first | (with_reducible refine Ev_t ?_ ?_; · omega) | (with_reducible refine Ev_f ?_ ?_; · omega) | (with_reducible refine Ev226t ?_ ?_; (· omega); try dsimp only) | (with_reducible refine Ev226f ?_ ?_; (· omega); try dsimp only) | (with_reducible refine Ev218t ?_ ?_; (· omega); try dsimp only) | (with_reducible refine Ev218f ?_ ?_; (· omega); try dsimp only))
    exact Ev_call r2 g
  · obtain ⟨r, r1, r2⟩ := Ev_ex (hP (dm - 1 - 1) (by omega))
    refine ⟨r, r1, fun Q g => ?_⟩
    refine ev_223_1 ?_
    repeat (first | (with_reducible refine Ev_t ?_ ?_; · omega) | (with_reducible refine Ev_f ?_ ?_; · omega) | (with_reducible refine Ev226t ?_ ?_; (· omega); try dsimp only) | (with_reducible refine Ev226f ?_ ?_; (· omega); try dsimp only) | (with_reducible refine Ev218t ?_ ?_; (· omega); try dsimp only) | (with_reducible refine Ev218f ?_ ?_; (· omega); try dsimp only))
    refine Ev_call (v := r) ?_ g
    refine ev_224_0 ?_
    repeat (first | (with_reducible refine Ev_t ?_ ?_; · omega) | (with_reducible refine Ev_f ?_ ?_; · omega) | (with_reducible refine Ev226t ?_ ?_; (· omega); try dsimp only) | (with_reducible refine Ev226f ?_ ?_; (· omega); try dsimp only) | (with_reducible refine Ev218t ?_ ?_; (· omega); try dsimp only) | (with_reducible refine Ev218f ?_ ?_; (· omega); try dsimp only))
    exact Ev_call r2 (Ev_ret rfl)
theorem go_of0 {tst : Int} {P : Int × JI × JI → Prop} (hd : 1 ≤ dm) (h1 : K 105 13 = 0) (hP : Ev (fun n => kf_224 n (dm - 1) e 0 K L) P) : ∃ r : Int × JI × JI, P r ∧ Go dm e tst 0 K L r.1 r.2.1 r.2.2 := by
  obtain ⟨r, r1, r2⟩ := Ev_ex hP
  refine ⟨r, r1, fun Q g => ?_⟩
  refine ev_223_1 ?_
  repeat (first | (with_reducible refine Ev_t ?_ ?_; · omega) | (with_reducible refine Ev_f ?_ ?_; · omega) | (with_reducible refine Ev226t ?_ ?_; (· omega); try dsimp only) | (with_reducible refine Ev226f ?_ ?_; (· omega); try dsimp only) | (with_reducible refine Ev218t ?_ ?_; (· omega); try dsimp only) | (with_reducible refine Ev218f ?_ ?_; (· omega); try dsimp only))
  exact Ev_call r2 g
theorem go_of3 {tst : Int} {P : Int × JI × JI → Prop} (hd : 1 ≤ dm) (h1 : K 105 13 = 0) (hP : Ev (fun n => kf_232 n (dm - 1) e 0 K L tst 0 0) P) : ∃ r : Int × JI × JI, P r ∧ Go dm e tst 3 K L r.1 r.2.1 r.2.2 := by
  obtain ⟨r, r1, r2⟩ := Ev_ex hP
  refine ⟨r, r1, fun Q g => ?_⟩
  refine ev_223_1 ?_
  repeat (first | (with_reducible refine Ev_t ?_ ?_; · omega) | (with_reducible refine Ev_f ?_ ?_; · omega) | (with_reducible refine Ev226t ?_ ?_; (· omega); try dsimp only) | (with_reducible refine Ev226f ?_ ?_; (· omega); try dsimp only) | (with_reducible refine Ev218t ?_ ?_; (· omega); try dsimp only) | (with_reducible refine Ev218f ?_ ?_; (· omega); try dsimp only))
  exact Ev_call r2 g
theorem go_of2 {tst : Int} {P : Int × JI × JI → Prop} (hd : 1 ≤ dm) (h1 : K 105 13 = 0) (hP : Ev (fun n => kf_237 n (dm - 1) e 0 K L 0) P) : ∃ r : Int × JI × JI, P r ∧ Go dm e tst 2 K L r.1 r.2.1 r.2.2 := by
  obtain ⟨r, r1, r2⟩ := Ev_ex hP
  refine ⟨r, r1, fun Q g => ?_⟩
  refine ev_223_1 ?_
  repeat (first | (with_reducible refine Ev_t ?_ ?_; · omega) | (with_reducible refine Ev_f ?_ ?_; · omega) | (with_reducible refine Ev226t ?_ ?_; (· omega); try dsimp only) | (with_reducible refine Ev226f ?_ ?_; (· omega); try dsimp only) | (with_reducible refine Ev218t ?_ ?_; (· omega); try dsimp only) | (with_reducible refine Ev218f ?_ ?_; (· omega); try dsimp only))
  exact Ev_call r2 g
/-- the pile settled -/
theorem K234' {b l : Int} {r q : List (Int × Int)} {K' : JI} (hd : 1 ≤ dp) (h : KP b (r ++ q) K L) (ho : ∀ a i, ¬ (a = 105 ∧ 8 ≤ i ∧ i ≤ 10) → K' a i = K a i) (hr : ∀ x ∈ r, l ≤ bnd x.1) (hq : ∀ x p, q = x :: p → bnd x.1 < l) {L' : JI} : Ev (fun n => kf_234 n dp e 0 K' L' l) (fun s => s.2 = L' ∧ ST r q K' s.1) := by
  obtain ⟨h1, h2, h3, h4, h5, h6, h7, h8, h9⟩ := h
  refine K234 hd r q K' ?_ ?_ (fun x hx => ⟨hr x hx, ?_⟩) hq ?_ ?_
  · rw [ho _ _ (by omega)]; exact h2.1
  · exact Pl_congr _ (fun i _ _ => ⟨ho _ _ (by omega), ho _ _ (by omega)⟩) h2.2.1
  · have := h2.2.2 x (List.mem_append_left _ hx)
    omega
  · rw [ho _ _ (by omega)]; omega
  · rw [ho _ _ (by omega)]; omega
theorem K232ar {b tst o c y z : Int} {r q : List (Int × Int)} (hd : 4 ≤ dp) (h : KP b (r ++ q) K L) (hk : K 105 16 + (r ++ q).length < 400) (hs : K 105 10 = 3 ∧ L 105 11 = c) (ho : (c = 43 ∧ o = 20) ∨ (c = 45 ∧ o = 21) ∨ (c = 42 ∧ o = 22) ∨ (c = 47 ∧ o = 23)) (hr : ∀ x ∈ r, bnd o ≤ bnd x.1) (hq : ∀ x p, q = x :: p → bnd x.1 < bnd o) : Ev (fun n => kf_232 n dp e 0 K L tst y z) (fun s => s.1 = 1 ∧ ∃ K1, ST r q K K1 ∧ NX (psh o 0 K1) L s.2.1 s.2.2) := by
  have h' := h
  obtain ⟨h1, h2, h3, h4, h5, h6, h7, h8, h9⟩ := h
  have lq : (q.length : Int) ≤ (r ++ q).length := by rw [List.length_append]; omega
  refine ev_232_0 ?_
  rcases ho with ⟨rfl, rfl⟩ | ⟨rfl, rfl⟩ | ⟨rfl, rfl⟩ | ⟨rfl, rfl⟩
  all_goals
    repeat (first | (with_reducible refine Ev_t ?_ ?_; · omega) | (with_reducible refine Ev_f ?_ ?_; · omega) | (with_reducible refine Ev226t ?_ ?_; (· omega); try dsimp only) | (with_reducible refine Ev226f ?_ ?_; (· omega); try dsimp only) | (with_reducible refine Ev218t ?_ ?_; (· omega); try dsimp only) | (with_reducible refine Ev218f ?_ ?_; (· omega); try dsimp only))
    refine Ev_call K233 ?_
    dsimp only
    repeat (first | (with_reducible refine Ev_t ?_ ?_; · omega) | (with_reducible refine Ev_f ?_ ?_; · omega) | (with_reducible refine Ev226t ?_ ?_; (· omega); try dsimp only) | (with_reducible refine Ev226f ?_ ?_; (· omega); try dsimp only) | (with_reducible refine Ev218t ?_ ?_; (· omega); try dsimp only) | (with_reducible refine Ev218f ?_ ?_; (· omega); try dsimp only))
    refine Ev_bind (K234' (by omega) h' (fun _ _ _ => rfl) hr hq) (fun s hs => ?_)
    obtain ⟨s1, s2, s3, s4⟩ := hs
    refine Ev_t (by omega) (Ev_call (K225 (by omega)) ?_)
    dsimp only
    repeat (first | (with_reducible refine Ev_t ?_ ?_; · omega) | (with_reducible refine Ev_f ?_ ?_; · omega) | (with_reducible refine Ev226t ?_ ?_; (· omega); try dsimp only) | (with_reducible refine Ev226f ?_ ?_; (· omega); try dsimp only) | (with_reducible refine Ev218t ?_ ?_; (· omega); try dsimp only) | (with_reducible refine Ev218f ?_ ?_; (· omega); try dsimp only))
    refine Ev_bind (K214 (by omega) ?_) (fun u hu => Ev_ret ⟨rfl, s.1, ⟨s2, s3, s4⟩, by rw [← s1]; exact hu⟩)
    have a9 := s4 105 9 (by omega) (by decide) (by decide)
    have a7 := s4 105 7 (by omega) (by decide) (by decide)
    show 0 ≤ s.1 105 9 ∧ s.1 105 9 ≤ s.1 105 7 ∧ s.1 105 7 ≤ 400
    omega
def noA (K L : JI) : Prop := ¬ (K 105 10 = 3 ∧ L 105 11 = 43) ∧ ¬ (K 105 10 = 3 ∧ L 105 11 = 45) ∧ ¬ (K 105 10 = 3 ∧ L 105 11 = 42) ∧ ¬ (K 105 10 = 3 ∧ L 105 11 = 47)
theorem K232sqt {b tst y z : Int} {r q : List (Int × Int)} (hd : 4 ≤ dp) (h : KP b (r ++ (31, 0) :: q) K L) (hn : noA K L) (hs : K 105 10 = 3 ∧ L 105 11 = 93) (hr : ∀ x ∈ r, 5 ≤ bnd x.1) (hb : 1 ≤ b) : Ev (fun n => kf_232 n dp e 0 K L tst y z) (fun s => s.1 = 3 ∧ ∃ K1 K2, NX K L K1 s.2.2 ∧ ST r ((31, 0) :: q) K1 K2 ∧ s.2.1 = cls1 K2) := by
  have h' := h
  obtain ⟨h1, h2, h3, h4, h5, h6, h7, h8, h9⟩ := h
  obtain ⟨n1, n2, n3, n4⟩ := hn
  refine ev_232_0 ?_
  repeat (first | (with_reducible refine Ev_t ?_ ?_; · omega) | (with_reducible refine Ev_f ?_ ?_; · omega) | (with_reducible refine Ev226t ?_ ?_; (· omega); try dsimp only) | (with_reducible refine Ev226f ?_ ?_; (· omega); try dsimp only) | (with_reducible refine Ev218t ?_ ?_; (· omega); try dsimp only) | (with_reducible refine Ev218f ?_ ?_; (· omega); try dsimp only))
  refine Ev_call (K235 h2.1 h2.2.1 (by omega)) ?_
  dsimp only
  have ln : (r ++ (31, 0) :: q).length = r.length + (q.length + 1) := List.length_append
  have ei : inn (r ++ (31, 0) :: q) = 31 := by rw [inn_app _ _ (fun x hx => by have := hr x hx; omega)]; rfl
  rw [ei]
  repeat (first | (with_reducible refine Ev_t ?_ ?_; · omega) | (with_reducible refine Ev_f ?_ ?_; · omega) | (with_reducible refine Ev226t ?_ ?_; (· omega); try dsimp only) | (with_reducible refine Ev226f ?_ ?_; (· omega); try dsimp only) | (with_reducible refine Ev218t ?_ ?_; (· omega); try dsimp only) | (with_reducible refine Ev218f ?_ ?_; (· omega); try dsimp only))
  refine Ev_bind (K219t (by omega) h1 (by decide) h5) (fun u hu => ?_)
  have o := (NX_o hu).1
  have o13 := o 105 13 (by omega)
  have o23 := o 105 23 (by omega)
  refine Ev_t (by omega) (Ev_t (by omega) (Ev_bind (K234' (by omega) h' o hr (fun x p hp => by cases hp; decide)) (fun s hs => ?_)))
  obtain ⟨s1, s2, s3, s4⟩ := hs
  have s23 := s4 105 23 (by omega) (by decide) (by decide)
  simp only [List.length_cons] at s2
  refine Ev_t (by omega) (Ev_st (Ev_t ?_ (Ev_st (Ev_ret ⟨rfl, u.1, s.1, by rw [s1]; exact hu, ⟨by simp only [List.length_cons]; exact s2, s3, s4⟩, rfl⟩))))
  show -2147483648 ≤ s.1 105 23 - 1 ∧ s.1 105 23 - 1 ≤ 2147483647
  omega
theorem K232sqf {b tst y z : Int} {r q : List (Int × Int)} (hd : 4 ≤ dp) (h : KP b (r ++ (31, 0) :: q) K L) (hn : noA K L) (hs : ¬ (K 105 10 = 3 ∧ L 105 11 = 93)) (hr : ∀ x ∈ r, 5 ≤ bnd x.1) : Ev (fun n => kf_232 n dp e 0 K L tst y z) (fun s => s = (3, badK K, L)) := by
  obtain ⟨h1, h2, h3, h4, h5, h6, h7, h8, h9⟩ := h
  obtain ⟨n1, n2, n3, n4⟩ := hn
  refine ev_232_0 ?_
  repeat (first | (with_reducible refine Ev_t ?_ ?_; · omega) | (with_reducible refine Ev_f ?_ ?_; · omega) | (with_reducible refine Ev226t ?_ ?_; (· omega); try dsimp only) | (with_reducible refine Ev226f ?_ ?_; (· omega); try dsimp only) | (with_reducible refine Ev218t ?_ ?_; (· omega); try dsimp only) | (with_reducible refine Ev218f ?_ ?_; (· omega); try dsimp only))
  refine Ev_call (K235 h2.1 h2.2.1 (by omega)) ?_
  dsimp only
  have ln : (r ++ (31, 0) :: q).length = r.length + (q.length + 1) := List.length_append
  have ei : inn (r ++ (31, 0) :: q) = 31 := by rw [inn_app _ _ (fun x hx => by have := hr x hx; omega)]; rfl
  rw [ei]
  repeat (first | (with_reducible refine Ev_t ?_ ?_; · omega) | (with_reducible refine Ev_f ?_ ?_; · omega) | (with_reducible refine Ev226t ?_ ?_; (· omega); try dsimp only) | (with_reducible refine Ev226f ?_ ?_; (· omega); try dsimp only) | (with_reducible refine Ev218t ?_ ?_; (· omega); try dsimp only) | (with_reducible refine Ev218f ?_ ?_; (· omega); try dsimp only))
  refine Ev_call (K219f h1 rfl) ?_
  exact Ev_f (by show ¬ ((1 : Int) = 0); decide) (Ev_ret rfl)
theorem K232ov {b y z : Int} {q : List (Int × Int)} (hd : 4 ≤ dp) (h : KP b q K L) (hn : noA K L) (hi : inn q = -1) : Ev (fun n => kf_232 n dp e 0 K L 0 y z) (fun s => s = (4, K, L)) := by
  obtain ⟨h1, h2, h3, h4, h5, h6, h7, h8, h9⟩ := h
  obtain ⟨n1, n2, n3, n4⟩ := hn
  refine ev_232_0 ?_
  repeat (first | (with_reducible refine Ev_t ?_ ?_; · omega) | (with_reducible refine Ev_f ?_ ?_; · omega) | (with_reducible refine Ev226t ?_ ?_; (· omega); try dsimp only) | (with_reducible refine Ev226f ?_ ?_; (· omega); try dsimp only) | (with_reducible refine Ev218t ?_ ?_; (· omega); try dsimp only) | (with_reducible refine Ev218f ?_ ?_; (· omega); try dsimp only))
  refine Ev_call (K235 h2.1 h2.2.1 (by omega)) ?_
  dsimp only
  rw [hi]
  repeat (first | (with_reducible refine Ev_t ?_ ?_; · omega) | (with_reducible refine Ev_f ?_ ?_; · omega) | (with_reducible refine Ev226t ?_ ?_; (· omega); try dsimp only) | (with_reducible refine Ev226f ?_ ?_; (· omega); try dsimp only) | (with_reducible refine Ev218t ?_ ?_; (· omega); try dsimp only) | (with_reducible refine Ev218f ?_ ?_; (· omega); try dsimp only))
  exact Ev_ret rfl
theorem K232ce {b tst y z : Int} {q : List (Int × Int)} (hd : 4 ≤ dp) (h : KP b q K L) (hn : noA K L) (hi : ¬ inn q = 31) (ht : ¬ (inn q = -1 ∧ tst = 0)) (hc : icp q = 1) : Ev (fun n => kf_232 n dp e 0 K L tst y z) (fun s => s = (2, K, L)) := by
  obtain ⟨h1, h2, h3, h4, h5, h6, h7, h8, h9⟩ := h
  obtain ⟨n1, n2, n3, n4⟩ := hn
  have fin : ∀ x, Ev (fun n => kf_232 n dp e 1 K L tst (-1) x) (fun s => s = (2, K, L)) := by
    intro x
    refine ev_232_1 ?_
    refine Ev_t (by omega) (Ev_call (K236 (by omega) h2.1 h2.2.1 (by omega)) ?_)
    dsimp only
    rw [hc]
    repeat (first | (with_reducible refine Ev_t ?_ ?_; · omega) | (with_reducible refine Ev_f ?_ ?_; · omega) | (with_reducible refine Ev226t ?_ ?_; (· omega); try dsimp only) | (with_reducible refine Ev226f ?_ ?_; (· omega); try dsimp only) | (with_reducible refine Ev218t ?_ ?_; (· omega); try dsimp only) | (with_reducible refine Ev218f ?_ ?_; (· omega); try dsimp only))
    exact Ev_ret rfl
  refine ev_232_0 ?_
  repeat (first | (with_reducible refine Ev_t ?_ ?_; · omega) | (with_reducible refine Ev_f ?_ ?_; · omega) | (with_reducible refine Ev226t ?_ ?_; (· omega); try dsimp only) | (with_reducible refine Ev226f ?_ ?_; (· omega); try dsimp only) | (with_reducible refine Ev218t ?_ ?_; (· omega); try dsimp only) | (with_reducible refine Ev218f ?_ ?_; (· omega); try dsimp only))
  refine Ev_call (K235 h2.1 h2.2.1 (by omega)) ?_
  dsimp only
  refine Ev_f hi (Ev_c (fun c => Ev_f (by omega) (fin _)) (fun c => fin _))
theorem K232ct {b tst o c y z : Int} {r q : List (Int × Int)} (hd : 4 ≤ dp) (h : KP b (r ++ q) K L) (hk : K 105 16 + (r ++ q).length < 400) (hn : noA K L) (hi : ¬ inn (r ++ q) = 31) (ht : ¬ (inn (r ++ q) = -1 ∧ tst = 0)) (hc : icp (r ++ q) = 0) (hs : K 105 10 = 3 ∧ L 105 11 = c) (ho : (c = 60 ∧ o = 24) ∨ (c = 62 ∧ o = 25) ∨ (c = 61 ∧ o = 26)) (hr : ∀ x ∈ r, 5 ≤ bnd x.1) (hq : ∀ x p, q = x :: p → bnd x.1 < 5) : Ev (fun n => kf_232 n dp e 0 K L tst y z) (fun s => s.1 = 1 ∧ ∃ K1 K2, NX K L K1 s.2.2 ∧ ST r q K1 K2 ∧ s.2.1 = psh o 0 K2) := by
  have h' := h
  obtain ⟨h1, h2, h3, h4, h5, h6, h7, h8, h9⟩ := h
  obtain ⟨n1, n2, n3, n4⟩ := hn
  have lq : (q.length : Int) ≤ (r ++ q).length := by rw [List.length_append]; omega
  have fin : ∀ x, Ev (fun n => kf_232 n dp e 1 K L tst (-1) x) (fun s => s.1 = 1 ∧ ∃ K1 K2, NX K L K1 s.2.2 ∧ ST r q K1 K2 ∧ s.2.1 = psh o 0 K2) := by
    intro x
    refine ev_232_1 ?_
    refine Ev_t (by omega) (Ev_call (K236 (by omega) h2.1 h2.2.1 (by omega)) ?_)
    dsimp only
    rw [hc]
    rcases ho with ⟨rfl, rfl⟩ | ⟨rfl, rfl⟩ | ⟨rfl, rfl⟩
    all_goals
      repeat (first | (with_reducible refine Ev_t ?_ ?_; · omega) | (with_reducible refine Ev_f ?_ ?_; · omega) | (with_reducible refine Ev226t ?_ ?_; (· omega); try dsimp only) | (with_reducible refine Ev226f ?_ ?_; (· omega); try dsimp only) | (with_reducible refine Ev218t ?_ ?_; (· omega); try dsimp only) | (with_reducible refine Ev218f ?_ ?_; (· omega); try dsimp only))
      refine Ev_bind (K219t (by omega) h1 (by decide) h5) (fun u hu => ?_)
      have o := (NX_o hu).1
      have o13 := o 105 13 (by omega)
      have o16 := o 105 16 (by omega)
      refine Ev_t (by omega) (Ev_t (by omega) (Ev_bind (K234' (by omega) h' o hr hq) (fun s hs => ?_)))
      obtain ⟨s1, s2, s3, s4⟩ := hs
      refine Ev_t (by omega) (Ev_call (K225 (by omega)) (Ev_ret ⟨rfl, u.1, s.1, by rw [s1]; exact hu, ⟨s2, s3, s4⟩, rfl⟩))
  refine ev_232_0 ?_
  repeat (first | (with_reducible refine Ev_t ?_ ?_; · omega) | (with_reducible refine Ev_f ?_ ?_; · omega) | (with_reducible refine Ev226t ?_ ?_; (· omega); try dsimp only) | (with_reducible refine Ev226f ?_ ?_; (· omega); try dsimp only) | (with_reducible refine Ev218t ?_ ?_; (· omega); try dsimp only) | (with_reducible refine Ev218f ?_ ?_; (· omega); try dsimp only))
  refine Ev_call (K235 h2.1 h2.2.1 (by omega)) ?_
  dsimp only
  refine Ev_f hi (Ev_c (fun c => Ev_f (by omega) (fin _)) (fun c => fin _))
theorem K232cf {b tst y z : Int} {q : List (Int × Int)} (hd : 4 ≤ dp) (h : KP b q K L) (hn : noA K L) (hi : ¬ inn q = 31) (ht : ¬ (inn q = -1 ∧ tst = 0)) (hc : icp q = 0) (c1 : ¬ (K 105 10 = 3 ∧ L 105 11 = 60)) (c2 : ¬ (K 105 10 = 3 ∧ L 105 11 = 62)) (c3 : ¬ (K 105 10 = 3 ∧ L 105 11 = 61)) : Ev (fun n => kf_232 n dp e 0 K L tst y z) (fun s => s = (1, badK K, L)) := by
  obtain ⟨h1, h2, h3, h4, h5, h6, h7, h8, h9⟩ := h
  obtain ⟨n1, n2, n3, n4⟩ := hn
  have fin : ∀ x, Ev (fun n => kf_232 n dp e 1 K L tst (-1) x) (fun s => s = (1, badK K, L)) := by
    intro x
    refine ev_232_1 ?_
    refine Ev_t (by omega) (Ev_call (K236 (by omega) h2.1 h2.2.1 (by omega)) ?_)
    dsimp only
    rw [hc]
    repeat (first | (with_reducible refine Ev_t ?_ ?_; · omega) | (with_reducible refine Ev_f ?_ ?_; · omega) | (with_reducible refine Ev226t ?_ ?_; (· omega); try dsimp only) | (with_reducible refine Ev226f ?_ ?_; (· omega); try dsimp only) | (with_reducible refine Ev218t ?_ ?_; (· omega); try dsimp only) | (with_reducible refine Ev218f ?_ ?_; (· omega); try dsimp only))
    refine Ev_call (K219f h1 rfl) ?_
    exact Ev_f (by show ¬ ((1 : Int) = 0); decide) (Ev_ret rfl)
  refine ev_232_0 ?_
  repeat (first | (with_reducible refine Ev_t ?_ ?_; · omega) | (with_reducible refine Ev_f ?_ ?_; · omega) | (with_reducible refine Ev226t ?_ ?_; (· omega); try dsimp only) | (with_reducible refine Ev226f ?_ ?_; (· omega); try dsimp only) | (with_reducible refine Ev218t ?_ ?_; (· omega); try dsimp only) | (with_reducible refine Ev218f ?_ ?_; (· omega); try dsimp only))
  refine Ev_call (K235 h2.1 h2.2.1 (by omega)) ?_
  dsimp only
  refine Ev_f hi (Ev_c (fun c => Ev_f (by omega) (fin _)) (fun c => fin _))
theorem K237ao {b o l c y : Int} {r q : List (Int × Int)} (hd : 4 ≤ dp) (h : KP b (r ++ q) K L) (hk : K 105 16 + (r ++ q).length < 399) (hs : K 105 10 = 1 ∧ L 105 11 = c) (ho : (c = 1476 ∧ o = 28 ∧ l = 2) ∨ (c = 498 ∧ o = 29 ∧ l = 1)) (hr : ∀ x ∈ r, l ≤ bnd x.1) (hq : ∀ x p, q = x :: p → bnd x.1 < l) : Ev (fun n => kf_237 n dp e 0 K L y) (fun s => s.1 = 0 ∧ ∃ K1, ST r q K K1 ∧ NX (emt o 0 (psh o (K1 105 16) K1)) L s.2.1 s.2.2) := by
  have h' := h
  obtain ⟨h1, h2, h3, h4, h5, h6, h7, h8, h9⟩ := h
  have lq : (q.length : Int) ≤ (r ++ q).length := by rw [List.length_append]; omega
  have ln : (r ++ q).length = r.length + q.length := List.length_append
  refine ev_237_0 ?_
  rcases ho with ⟨rfl, rfl, rfl⟩ | ⟨rfl, rfl, rfl⟩
  all_goals
    repeat (first | (with_reducible refine Ev_t ?_ ?_; · omega) | (with_reducible refine Ev_f ?_ ?_; · omega) | (with_reducible refine Ev226t ?_ ?_; (· omega); try dsimp only) | (with_reducible refine Ev226f ?_ ?_; (· omega); try dsimp only) | (with_reducible refine Ev218t ?_ ?_; (· omega); try dsimp only) | (with_reducible refine Ev218f ?_ ?_; (· omega); try dsimp only))
    refine ev_237_1 ?_
    repeat (first | (with_reducible refine Ev_t ?_ ?_; · omega) | (with_reducible refine Ev_f ?_ ?_; · omega) | (with_reducible refine Ev226t ?_ ?_; (· omega); try dsimp only) | (with_reducible refine Ev226f ?_ ?_; (· omega); try dsimp only) | (with_reducible refine Ev218t ?_ ?_; (· omega); try dsimp only) | (with_reducible refine Ev218f ?_ ?_; (· omega); try dsimp only))
    refine Ev_bind (K234' (by omega) h' (fun _ _ _ => rfl) hr hq) (fun s hs => ?_)
    obtain ⟨s1, s2, s3, s4⟩ := hs
    have n16 := em_n r (cs K)
    rw [← s3] at n16
    have n16 : K 105 16 ≤ s.1 105 16 ∧ s.1 105 16 ≤ K 105 16 + r.length := n16
    dsimp only
    repeat (first | (with_reducible refine Ev_t ?_ ?_; · omega) | (with_reducible refine Ev_f ?_ ?_; · omega) | (with_reducible refine Ev226t ?_ ?_; (· omega); try dsimp only) | (with_reducible refine Ev226f ?_ ?_; (· omega); try dsimp only) | (with_reducible refine Ev218t ?_ ?_; (· omega); try dsimp only) | (with_reducible refine Ev218f ?_ ?_; (· omega); try dsimp only))
    refine Ev_call (K225 (by omega)) ?_
    dsimp only
    repeat (first | (with_reducible refine Ev_t ?_ ?_; · omega) | (with_reducible refine Ev_f ?_ ?_; · omega) | (with_reducible refine Ev226t ?_ ?_; (· omega); try dsimp only) | (with_reducible refine Ev226f ?_ ?_; (· omega); try dsimp only) | (with_reducible refine Ev218t ?_ ?_; (· omega); try dsimp only) | (with_reducible refine Ev218f ?_ ?_; (· omega); try dsimp only))
    refine Ev_call (K231 (by show 0 ≤ s.1 105 16 ∧ s.1 105 16 < 400; omega)) ?_
    dsimp only
    repeat (first | (with_reducible refine Ev_t ?_ ?_; · omega) | (with_reducible refine Ev_f ?_ ?_; · omega) | (with_reducible refine Ev226t ?_ ?_; (· omega); try dsimp only) | (with_reducible refine Ev226f ?_ ?_; (· omega); try dsimp only) | (with_reducible refine Ev218t ?_ ?_; (· omega); try dsimp only) | (with_reducible refine Ev218f ?_ ?_; (· omega); try dsimp only))
    refine Ev_bind (K214 (by omega) ?_) (fun u hu => Ev_ret ⟨rfl, s.1, ⟨s2, s3, s4⟩, by rw [← s1]; exact hu⟩)
    have a9 := s4 105 9 (by omega) (by decide) (by decide)
    have a7 := s4 105 7 (by omega) (by decide) (by decide)
    show 0 ≤ s.1 105 9 ∧ s.1 105 9 ≤ s.1 105 7 ∧ s.1 105 7 ≤ 400
    omega
theorem K237ov {b y : Int} {q : List (Int × Int)} (hd : 4 ≤ dp) (h : KP b q K L) (c1 : ¬ (K 105 10 = 1 ∧ L 105 11 = 1476)) (c2 : ¬ (K 105 10 = 1 ∧ L 105 11 = 498)) (hi : inn q = -1) : Ev (fun n => kf_237 n dp e 0 K L y) (fun s => s = (4, K, L)) := by
  obtain ⟨h1, h2, h3, h4, h5, h6, h7, h8, h9⟩ := h
  refine ev_237_0 ?_
  repeat (first | (with_reducible refine Ev_t ?_ ?_; · omega) | (with_reducible refine Ev_f ?_ ?_; · omega) | (with_reducible refine Ev226t ?_ ?_; (· omega); try dsimp only) | (with_reducible refine Ev226f ?_ ?_; (· omega); try dsimp only) | (with_reducible refine Ev218t ?_ ?_; (· omega); try dsimp only) | (with_reducible refine Ev218f ?_ ?_; (· omega); try dsimp only))
  refine Ev_call (K235 h2.1 h2.2.1 (by omega)) ?_
  dsimp only
  rw [hi]
  repeat (first | (with_reducible refine Ev_t ?_ ?_; · omega) | (with_reducible refine Ev_f ?_ ?_; · omega) | (with_reducible refine Ev226t ?_ ?_; (· omega); try dsimp only) | (with_reducible refine Ev226f ?_ ?_; (· omega); try dsimp only) | (with_reducible refine Ev218t ?_ ?_; (· omega); try dsimp only) | (with_reducible refine Ev218f ?_ ?_; (· omega); try dsimp only))
  exact Ev_ret rfl
theorem K237rt {b y : Int} {r q : List (Int × Int)} (hd : 4 ≤ dp) (h : KP b (r ++ (30, 0) :: q) K L) (hs : K 105 10 = 3 ∧ L 105 11 = 41) (hr : ∀ x ∈ r, 1 ≤ bnd x.1) (hb : 1 ≤ b) : Ev (fun n => kf_237 n dp e 0 K L y) (fun s => s.1 = 2 ∧ ∃ K1 K2, NX K L K1 s.2.2 ∧ ST r ((30, 0) :: q) K1 K2 ∧ s.2.1 = cls1 K2) := by
  have h' := h
  obtain ⟨h1, h2, h3, h4, h5, h6, h7, h8, h9⟩ := h
  refine ev_237_0 ?_
  repeat (first | (with_reducible refine Ev_t ?_ ?_; · omega) | (with_reducible refine Ev_f ?_ ?_; · omega) | (with_reducible refine Ev226t ?_ ?_; (· omega); try dsimp only) | (with_reducible refine Ev226f ?_ ?_; (· omega); try dsimp only) | (with_reducible refine Ev218t ?_ ?_; (· omega); try dsimp only) | (with_reducible refine Ev218f ?_ ?_; (· omega); try dsimp only))
  refine Ev_call (K235 h2.1 h2.2.1 (by omega)) ?_
  dsimp only
  have ln : (r ++ (30, 0) :: q).length = r.length + (q.length + 1) := List.length_append
  have ei : inn (r ++ (30, 0) :: q) = 30 := by rw [inn_app _ _ hr]; rfl
  rw [ei]
  repeat (first | (with_reducible refine Ev_t ?_ ?_; · omega) | (with_reducible refine Ev_f ?_ ?_; · omega) | (with_reducible refine Ev226t ?_ ?_; (· omega); try dsimp only) | (with_reducible refine Ev226f ?_ ?_; (· omega); try dsimp only) | (with_reducible refine Ev218t ?_ ?_; (· omega); try dsimp only) | (with_reducible refine Ev218f ?_ ?_; (· omega); try dsimp only))
  refine Ev_bind (K219t (by omega) h1 (by decide) h5) (fun u hu => ?_)
  have o := (NX_o hu).1
  have o13 := o 105 13 (by omega)
  have o23 := o 105 23 (by omega)
  refine Ev_t (by omega) (Ev_t (by omega) (Ev_bind (K234' (by omega) h' o hr (fun x p hp => by cases hp; decide)) (fun s hs => ?_)))
  obtain ⟨s1, s2, s3, s4⟩ := hs
  have s23 := s4 105 23 (by omega) (by decide) (by decide)
  simp only [List.length_cons] at s2
  refine Ev_t (by omega) (Ev_st (Ev_t ?_ (Ev_st (Ev_ret ⟨rfl, u.1, s.1, by rw [s1]; exact hu, ⟨by simp only [List.length_cons]; exact s2, s3, s4⟩, rfl⟩))))
  show -2147483648 ≤ s.1 105 23 - 1 ∧ s.1 105 23 - 1 ≤ 2147483647
  omega
theorem K237rf {b y : Int} {r q : List (Int × Int)} (hd : 4 ≤ dp) (h : KP b (r ++ (30, 0) :: q) K L) (c1 : ¬ (K 105 10 = 1 ∧ L 105 11 = 1476)) (c2 : ¬ (K 105 10 = 1 ∧ L 105 11 = 498)) (hs : ¬ (K 105 10 = 3 ∧ L 105 11 = 41)) (hr : ∀ x ∈ r, 1 ≤ bnd x.1) : Ev (fun n => kf_237 n dp e 0 K L y) (fun s => s = (2, badK K, L)) := by
  obtain ⟨h1, h2, h3, h4, h5, h6, h7, h8, h9⟩ := h
  refine ev_237_0 ?_
  repeat (first | (with_reducible refine Ev_t ?_ ?_; · omega) | (with_reducible refine Ev_f ?_ ?_; · omega) | (with_reducible refine Ev226t ?_ ?_; (· omega); try dsimp only) | (with_reducible refine Ev226f ?_ ?_; (· omega); try dsimp only) | (with_reducible refine Ev218t ?_ ?_; (· omega); try dsimp only) | (with_reducible refine Ev218f ?_ ?_; (· omega); try dsimp only))
  refine Ev_call (K235 h2.1 h2.2.1 (by omega)) ?_
  dsimp only
  have ln : (r ++ (30, 0) :: q).length = r.length + (q.length + 1) := List.length_append
  have ei : inn (r ++ (30, 0) :: q) = 30 := by rw [inn_app _ _ hr]; rfl
  rw [ei]
  repeat (first | (with_reducible refine Ev_t ?_ ?_; · omega) | (with_reducible refine Ev_f ?_ ?_; · omega) | (with_reducible refine Ev226t ?_ ?_; (· omega); try dsimp only) | (with_reducible refine Ev226f ?_ ?_; (· omega); try dsimp only) | (with_reducible refine Ev218t ?_ ?_; (· omega); try dsimp only) | (with_reducible refine Ev218f ?_ ?_; (· omega); try dsimp only))
  refine Ev_call (K219f h1 rfl) ?_
  exact Ev_f (by show ¬ ((1 : Int) = 0); decide) (Ev_ret rfl)
end GO
