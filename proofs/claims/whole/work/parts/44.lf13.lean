/-! lifted functions 13, printed by lift.py -/
set_option maxHeartbeats 4000000 in
set_option maxRecDepth 100000 in
def kf_56 : Nat → Nat → EN → Nat → JI → JI → Int → Int → Option (Int × JI × JI)
  | 0, _, _, _, _, _, _, _ => none
  | n + 1, dp, e, lab, I, L, i1, i2 =>
    if lab = 0 then (if 1 ≤ dp then ((kf_56 n (dp - 1) e 3 I L i1 0).bind (fun ⟨x0_2, I0_2, L0_2⟩ => (if x0_2 = 0 then (some ((0 : Int), I0_2, L0_2)) else (kf_56 n dp e 1 I0_2 L0_2 i1 0)))) else none)
    else if lab = 1 then (if 400 ≤ i2 then (some ((1 : Int), I, L)) else (if 1 ≤ dp then ((kf_59 n (dp - 1) e 0 I L 43).bind (fun ⟨x0_22, I0_22, L0_22⟩ => (if x0_22 = 0 then (if 1 ≤ dp then ((kf_59 n (dp - 1) e 0 I0_22 L0_22 45).bind (fun ⟨x1_31, I1_31, L1_31⟩ => (if x1_31 = 0 then (some ((1 : Int), I1_31, L1_31)) else (kf_56 n dp e 2 I1_31 L1_31 i1 i2)))) else none) else (kf_56 n dp e 2 I0_22 L0_22 i1 i2)))) else none))
    else if lab = 2 then (if 1 ≤ dp then ((kf_59 n (dp - 1) e 0 I L 43).bind (fun ⟨x0_40, I0_40, L0_40⟩ => (if x0_40 = 0 then (if 1 ≤ dp then ((kf_37 n (dp - 1) e 0 I0_40 L0_40 0).bind (fun ⟨I1_53, L1_53⟩ => (if 1 ≤ dp then ((kf_56 n (dp - 1) e 3 I1_53 L1_53 i1 0).bind (fun ⟨x2_58, I2_58, L2_58⟩ => (if x2_58 = 0 then (some ((0 : Int), I2_58, L2_58)) else ((e.2.2 104 1).bind (fun b_67 => (if (b_67 < e.1) ∧ ((e.2.1 b_67).1 = 10) then (if 1 ≤ dp then ((kf_61 n (dp - 1) e 0 I2_58 L2_58 3 0 b_67).bind (fun ⟨x3_72, I3_72, L3_72⟩ => (if -2147483648 ≤ i2 + 1 ∧ i2 + 1 ≤ 2147483647 then (kf_56 n dp e 1 I3_72 L3_72 i1 (i2 + 1)) else none))) else none) else none)))))) else none))) else none) else (if 1 ≤ dp then ((kf_37 n (dp - 1) e 0 I0_40 L0_40 0).bind (fun ⟨I1_53, L1_53⟩ => (if 1 ≤ dp then ((kf_56 n (dp - 1) e 3 I1_53 L1_53 i1 0).bind (fun ⟨x2_58, I2_58, L2_58⟩ => (if x2_58 = 0 then (some ((0 : Int), I2_58, L2_58)) else ((e.2.2 104 1).bind (fun b_67 => (if (b_67 < e.1) ∧ ((e.2.1 b_67).1 = 10) then (if 1 ≤ dp then ((kf_61 n (dp - 1) e 0 I2_58 L2_58 2 0 b_67).bind (fun ⟨x3_72, I3_72, L3_72⟩ => (if -2147483648 ≤ i2 + 1 ∧ i2 + 1 ≤ 2147483647 then (kf_56 n dp e 1 I3_72 L3_72 i1 (i2 + 1)) else none))) else none) else none)))))) else none))) else none)))) else none)
    else if lab = 3 then (if 1 ≤ dp then ((kf_56 n (dp - 1) e 6 I L i1 0).bind (fun ⟨x0_2, I0_2, L0_2⟩ => (if x0_2 = 0 then (some ((0 : Int), I0_2, L0_2)) else (kf_56 n dp e 4 I0_2 L0_2 i1 0)))) else none)
    else if lab = 4 then (if 400 ≤ i2 then (some ((1 : Int), I, L)) else (if 1 ≤ dp then ((kf_59 n (dp - 1) e 0 I L 42).bind (fun ⟨x0_22, I0_22, L0_22⟩ => (if x0_22 = 0 then (if 1 ≤ dp then ((kf_59 n (dp - 1) e 0 I0_22 L0_22 47).bind (fun ⟨x1_31, I1_31, L1_31⟩ => (if x1_31 = 0 then (some ((1 : Int), I1_31, L1_31)) else (kf_56 n dp e 5 I1_31 L1_31 i1 i2)))) else none) else (kf_56 n dp e 5 I0_22 L0_22 i1 i2)))) else none))
    else if lab = 5 then (if 1 ≤ dp then ((kf_59 n (dp - 1) e 0 I L 42).bind (fun ⟨x0_40, I0_40, L0_40⟩ => (if x0_40 = 0 then (if 1 ≤ dp then ((kf_37 n (dp - 1) e 0 I0_40 L0_40 0).bind (fun ⟨I1_53, L1_53⟩ => (if 1 ≤ dp then ((kf_56 n (dp - 1) e 6 I1_53 L1_53 i1 0).bind (fun ⟨x2_58, I2_58, L2_58⟩ => (if x2_58 = 0 then (some ((0 : Int), I2_58, L2_58)) else ((e.2.2 104 1).bind (fun b_67 => (if (b_67 < e.1) ∧ ((e.2.1 b_67).1 = 10) then (if 1 ≤ dp then ((kf_61 n (dp - 1) e 0 I2_58 L2_58 5 0 b_67).bind (fun ⟨x3_72, I3_72, L3_72⟩ => (if -2147483648 ≤ i2 + 1 ∧ i2 + 1 ≤ 2147483647 then (kf_56 n dp e 4 I3_72 L3_72 i1 (i2 + 1)) else none))) else none) else none)))))) else none))) else none) else (if 1 ≤ dp then ((kf_37 n (dp - 1) e 0 I0_40 L0_40 0).bind (fun ⟨I1_53, L1_53⟩ => (if 1 ≤ dp then ((kf_56 n (dp - 1) e 6 I1_53 L1_53 i1 0).bind (fun ⟨x2_58, I2_58, L2_58⟩ => (if x2_58 = 0 then (some ((0 : Int), I2_58, L2_58)) else ((e.2.2 104 1).bind (fun b_67 => (if (b_67 < e.1) ∧ ((e.2.1 b_67).1 = 10) then (if 1 ≤ dp then ((kf_61 n (dp - 1) e 0 I2_58 L2_58 4 0 b_67).bind (fun ⟨x3_72, I3_72, L3_72⟩ => (if -2147483648 ≤ i2 + 1 ∧ i2 + 1 ≤ 2147483647 then (kf_56 n dp e 4 I3_72 L3_72 i1 (i2 + 1)) else none))) else none) else none)))))) else none))) else none)))) else none)
    else if lab = 6 then (if 1 ≤ dp then ((kf_59 n (dp - 1) e 0 I L 91).bind (fun ⟨x0_3, I0_3, L0_3⟩ => (if x0_3 = 0 then (if (I0_3 104 7) < 50 then (if 1 ≤ dp then ((kf_54 n (dp - 1) e 0 I0_3 L0_3 0 1000).bind (fun ⟨x1_31, I1_31, L1_31⟩ => (if x1_31 = 0 then (if 1 ≤ dp then ((kf_41 n (dp - 1) e 0 I1_31 L1_31 0 4).bind (fun ⟨x2_56, I2_56, L2_56⟩ => (if x2_56 = 0 then (if 1 ≤ dp then ((kf_41 n (dp - 1) e 0 I2_56 L2_56 0 5).bind (fun ⟨x3_78, I3_78, L3_78⟩ => (if x3_78 = 0 then (if 1 ≤ dp then ((kf_41 n (dp - 1) e 0 I3_78 L3_78 0 6).bind (fun ⟨x4_100, I4_100, L4_100⟩ => (if x4_100 = 0 then (if 1 ≤ dp then ((kf_41 n (dp - 1) e 0 I4_100 L4_100 0 7).bind (fun ⟨x5_122, I5_122, L5_122⟩ => (if x5_122 = 0 then (if 1 ≤ dp then ((kf_41 n (dp - 1) e 0 I5_122 L5_122 0 8).bind (fun ⟨x6_144, I6_144, L6_144⟩ => (if x6_144 = 0 then (some ((0 : Int), I6_144, L6_144)) else ((e.2.2 104 1).bind (fun b_151 => (if (b_151 < e.1) ∧ ((e.2.1 b_151).1 = 10) then (if 1 ≤ dp then ((kf_61 n (dp - 1) e 0 I6_144 L6_144 1 4 b_151).bind (fun ⟨x7_156, I7_156, L7_156⟩ => (kf_56 n dp e 7 I7_156 L7_156 i1 0))) else none) else none)))))) else none) else ((e.2.2 104 1).bind (fun b_129 => (if (b_129 < e.1) ∧ ((e.2.1 b_129).1 = 10) then (if 1 ≤ dp then ((kf_61 n (dp - 1) e 0 I5_122 L5_122 1 3 b_129).bind (fun ⟨x6_134, I6_134, L6_134⟩ => (kf_56 n dp e 7 I6_134 L6_134 i1 0))) else none) else none)))))) else none) else ((e.2.2 104 1).bind (fun b_107 => (if (b_107 < e.1) ∧ ((e.2.1 b_107).1 = 10) then (if 1 ≤ dp then ((kf_61 n (dp - 1) e 0 I4_100 L4_100 1 2 b_107).bind (fun ⟨x5_112, I5_112, L5_112⟩ => (kf_56 n dp e 7 I5_112 L5_112 i1 0))) else none) else none)))))) else none) else ((e.2.2 104 1).bind (fun b_85 => (if (b_85 < e.1) ∧ ((e.2.1 b_85).1 = 10) then (if 1 ≤ dp then ((kf_61 n (dp - 1) e 0 I3_78 L3_78 1 1 b_85).bind (fun ⟨x4_90, I4_90, L4_90⟩ => (kf_56 n dp e 7 I4_90 L4_90 i1 0))) else none) else none)))))) else none) else ((e.2.2 104 1).bind (fun b_63 => (if (b_63 < e.1) ∧ ((e.2.1 b_63).1 = 10) then (if 1 ≤ dp then ((kf_61 n (dp - 1) e 0 I2_56 L2_56 1 0 b_63).bind (fun ⟨x3_68, I3_68, L3_68⟩ => (kf_56 n dp e 7 I3_68 L3_68 i1 0))) else none) else none)))))) else none) else ((e.2.2 104 1).bind (fun b_38 => (if (b_38 < e.1) ∧ ((e.2.1 b_38).1 = 10) then (if 1 ≤ dp then ((kf_61 n (dp - 1) e 0 I1_31 L1_31 0 (I1_31 104 6) b_38).bind (fun ⟨x2_46, I2_46, L2_46⟩ => (kf_56 n dp e 7 I2_46 L2_46 i1 0))) else none) else none)))))) else none) else (some ((0 : Int), I0_3, L0_3))) else (if 1 ≤ dp then ((kf_56 n (dp - 1) e 8 I0_3 L0_3 i1 0).bind (fun ⟨x1_11, I1_11, L1_11⟩ => (if (x1_11 = 0) ∨ (x1_11 = 1) then (some ((x1_11 : Int), I1_11, L1_11)) else none))) else none)))) else none)
    else if lab = 7 then (if -2147483648 ≤ (I 104 7) + 1 ∧ (I 104 7) + 1 ≤ 2147483647 then (stI (w2 I 104 7 ((I 104 7) + 1)) (fun I_172 => (if 1 ≤ dp then ((kf_37 n (dp - 1) e 0 I_172 L 0).bind (fun ⟨I0_176, L0_176⟩ => (some ((1 : Int), I0_176, L0_176)))) else none))) else none)
    else if lab = 8 then (if i1 < 8 then (if 1 ≤ dp then ((kf_37 n (dp - 1) e 0 I L 0).bind (fun ⟨I0_9, L0_9⟩ => (if 1 ≤ dp then (if -2147483648 ≤ i1 + 1 ∧ i1 + 1 ≤ 2147483647 then ((kf_56 n (dp - 1) e 0 I0_9 L0_9 (i1 + 1) 0).bind (fun ⟨x1_16, I1_16, L1_16⟩ => (if x1_16 = 0 then (some ((0 : Int), I1_16, L1_16)) else (if 1 ≤ dp then ((kf_59 n (dp - 1) e 0 I1_16 L1_16 93).bind (fun ⟨x2_25, I2_25, L2_25⟩ => (if x2_25 = 0 then (some ((0 : Int), I2_25, L2_25)) else (if 1 ≤ dp then ((kf_37 n (dp - 1) e 0 I2_25 L2_25 0).bind (fun ⟨I3_34, L3_34⟩ => (some ((1 : Int), I3_34, L3_34)))) else none)))) else none)))) else none) else none))) else none) else (some ((0 : Int), I, L)))
    else none
set_option maxRecDepth 100000 in
theorem ke_56_0 (n : Nat) (dp : Nat) (e : EN) (I : JI) (L : JI) (i1 : Int) (i2 : Int) : kf_56 (n + 1) dp e 0 I L i1 i2 = (if 1 ≤ dp then ((kf_56 n (dp - 1) e 3 I L i1 0).bind (fun ⟨x0_2, I0_2, L0_2⟩ => (if x0_2 = 0 then (some ((0 : Int), I0_2, L0_2)) else (kf_56 n dp e 1 I0_2 L0_2 i1 0)))) else none) := by rw [kf_56.eq_2, if_pos (show (0 : Nat) = 0 from rfl)]
set_option maxRecDepth 100000 in
theorem ke_56_1 (n : Nat) (dp : Nat) (e : EN) (I : JI) (L : JI) (i1 : Int) (i2 : Int) : kf_56 (n + 1) dp e 1 I L i1 i2 = (if 400 ≤ i2 then (some ((1 : Int), I, L)) else (if 1 ≤ dp then ((kf_59 n (dp - 1) e 0 I L 43).bind (fun ⟨x0_22, I0_22, L0_22⟩ => (if x0_22 = 0 then (if 1 ≤ dp then ((kf_59 n (dp - 1) e 0 I0_22 L0_22 45).bind (fun ⟨x1_31, I1_31, L1_31⟩ => (if x1_31 = 0 then (some ((1 : Int), I1_31, L1_31)) else (kf_56 n dp e 2 I1_31 L1_31 i1 i2)))) else none) else (kf_56 n dp e 2 I0_22 L0_22 i1 i2)))) else none)) := by rw [kf_56.eq_2, if_neg (show ¬ ((1 : Nat) = 0) by decide), if_pos (show (1 : Nat) = 1 from rfl)]
set_option maxRecDepth 100000 in
theorem ke_56_2 (n : Nat) (dp : Nat) (e : EN) (I : JI) (L : JI) (i1 : Int) (i2 : Int) : kf_56 (n + 1) dp e 2 I L i1 i2 = (if 1 ≤ dp then ((kf_59 n (dp - 1) e 0 I L 43).bind (fun ⟨x0_40, I0_40, L0_40⟩ => (if x0_40 = 0 then (if 1 ≤ dp then ((kf_37 n (dp - 1) e 0 I0_40 L0_40 0).bind (fun ⟨I1_53, L1_53⟩ => (if 1 ≤ dp then ((kf_56 n (dp - 1) e 3 I1_53 L1_53 i1 0).bind (fun ⟨x2_58, I2_58, L2_58⟩ => (if x2_58 = 0 then (some ((0 : Int), I2_58, L2_58)) else ((e.2.2 104 1).bind (fun b_67 => (if (b_67 < e.1) ∧ ((e.2.1 b_67).1 = 10) then (if 1 ≤ dp then ((kf_61 n (dp - 1) e 0 I2_58 L2_58 3 0 b_67).bind (fun ⟨x3_72, I3_72, L3_72⟩ => (if -2147483648 ≤ i2 + 1 ∧ i2 + 1 ≤ 2147483647 then (kf_56 n dp e 1 I3_72 L3_72 i1 (i2 + 1)) else none))) else none) else none)))))) else none))) else none) else (if 1 ≤ dp then ((kf_37 n (dp - 1) e 0 I0_40 L0_40 0).bind (fun ⟨I1_53, L1_53⟩ => (if 1 ≤ dp then ((kf_56 n (dp - 1) e 3 I1_53 L1_53 i1 0).bind (fun ⟨x2_58, I2_58, L2_58⟩ => (if x2_58 = 0 then (some ((0 : Int), I2_58, L2_58)) else ((e.2.2 104 1).bind (fun b_67 => (if (b_67 < e.1) ∧ ((e.2.1 b_67).1 = 10) then (if 1 ≤ dp then ((kf_61 n (dp - 1) e 0 I2_58 L2_58 2 0 b_67).bind (fun ⟨x3_72, I3_72, L3_72⟩ => (if -2147483648 ≤ i2 + 1 ∧ i2 + 1 ≤ 2147483647 then (kf_56 n dp e 1 I3_72 L3_72 i1 (i2 + 1)) else none))) else none) else none)))))) else none))) else none)))) else none) := by rw [kf_56.eq_2, if_neg (show ¬ ((2 : Nat) = 0) by decide), if_neg (show ¬ ((2 : Nat) = 1) by decide), if_pos (show (2 : Nat) = 2 from rfl)]
set_option maxRecDepth 100000 in
theorem ke_56_3 (n : Nat) (dp : Nat) (e : EN) (I : JI) (L : JI) (i1 : Int) (i2 : Int) : kf_56 (n + 1) dp e 3 I L i1 i2 = (if 1 ≤ dp then ((kf_56 n (dp - 1) e 6 I L i1 0).bind (fun ⟨x0_2, I0_2, L0_2⟩ => (if x0_2 = 0 then (some ((0 : Int), I0_2, L0_2)) else (kf_56 n dp e 4 I0_2 L0_2 i1 0)))) else none) := by rw [kf_56.eq_2, if_neg (show ¬ ((3 : Nat) = 0) by decide), if_neg (show ¬ ((3 : Nat) = 1) by decide), if_neg (show ¬ ((3 : Nat) = 2) by decide), if_pos (show (3 : Nat) = 3 from rfl)]
set_option maxRecDepth 100000 in
theorem ke_56_4 (n : Nat) (dp : Nat) (e : EN) (I : JI) (L : JI) (i1 : Int) (i2 : Int) : kf_56 (n + 1) dp e 4 I L i1 i2 = (if 400 ≤ i2 then (some ((1 : Int), I, L)) else (if 1 ≤ dp then ((kf_59 n (dp - 1) e 0 I L 42).bind (fun ⟨x0_22, I0_22, L0_22⟩ => (if x0_22 = 0 then (if 1 ≤ dp then ((kf_59 n (dp - 1) e 0 I0_22 L0_22 47).bind (fun ⟨x1_31, I1_31, L1_31⟩ => (if x1_31 = 0 then (some ((1 : Int), I1_31, L1_31)) else (kf_56 n dp e 5 I1_31 L1_31 i1 i2)))) else none) else (kf_56 n dp e 5 I0_22 L0_22 i1 i2)))) else none)) := by rw [kf_56.eq_2, if_neg (show ¬ ((4 : Nat) = 0) by decide), if_neg (show ¬ ((4 : Nat) = 1) by decide), if_neg (show ¬ ((4 : Nat) = 2) by decide), if_neg (show ¬ ((4 : Nat) = 3) by decide), if_pos (show (4 : Nat) = 4 from rfl)]
set_option maxRecDepth 100000 in
theorem ke_56_5 (n : Nat) (dp : Nat) (e : EN) (I : JI) (L : JI) (i1 : Int) (i2 : Int) : kf_56 (n + 1) dp e 5 I L i1 i2 = (if 1 ≤ dp then ((kf_59 n (dp - 1) e 0 I L 42).bind (fun ⟨x0_40, I0_40, L0_40⟩ => (if x0_40 = 0 then (if 1 ≤ dp then ((kf_37 n (dp - 1) e 0 I0_40 L0_40 0).bind (fun ⟨I1_53, L1_53⟩ => (if 1 ≤ dp then ((kf_56 n (dp - 1) e 6 I1_53 L1_53 i1 0).bind (fun ⟨x2_58, I2_58, L2_58⟩ => (if x2_58 = 0 then (some ((0 : Int), I2_58, L2_58)) else ((e.2.2 104 1).bind (fun b_67 => (if (b_67 < e.1) ∧ ((e.2.1 b_67).1 = 10) then (if 1 ≤ dp then ((kf_61 n (dp - 1) e 0 I2_58 L2_58 5 0 b_67).bind (fun ⟨x3_72, I3_72, L3_72⟩ => (if -2147483648 ≤ i2 + 1 ∧ i2 + 1 ≤ 2147483647 then (kf_56 n dp e 4 I3_72 L3_72 i1 (i2 + 1)) else none))) else none) else none)))))) else none))) else none) else (if 1 ≤ dp then ((kf_37 n (dp - 1) e 0 I0_40 L0_40 0).bind (fun ⟨I1_53, L1_53⟩ => (if 1 ≤ dp then ((kf_56 n (dp - 1) e 6 I1_53 L1_53 i1 0).bind (fun ⟨x2_58, I2_58, L2_58⟩ => (if x2_58 = 0 then (some ((0 : Int), I2_58, L2_58)) else ((e.2.2 104 1).bind (fun b_67 => (if (b_67 < e.1) ∧ ((e.2.1 b_67).1 = 10) then (if 1 ≤ dp then ((kf_61 n (dp - 1) e 0 I2_58 L2_58 4 0 b_67).bind (fun ⟨x3_72, I3_72, L3_72⟩ => (if -2147483648 ≤ i2 + 1 ∧ i2 + 1 ≤ 2147483647 then (kf_56 n dp e 4 I3_72 L3_72 i1 (i2 + 1)) else none))) else none) else none)))))) else none))) else none)))) else none) := by rw [kf_56.eq_2, if_neg (show ¬ ((5 : Nat) = 0) by decide), if_neg (show ¬ ((5 : Nat) = 1) by decide), if_neg (show ¬ ((5 : Nat) = 2) by decide), if_neg (show ¬ ((5 : Nat) = 3) by decide), if_neg (show ¬ ((5 : Nat) = 4) by decide), if_pos (show (5 : Nat) = 5 from rfl)]
set_option maxRecDepth 100000 in
theorem ke_56_6 (n : Nat) (dp : Nat) (e : EN) (I : JI) (L : JI) (i1 : Int) (i2 : Int) : kf_56 (n + 1) dp e 6 I L i1 i2 = (if 1 ≤ dp then ((kf_59 n (dp - 1) e 0 I L 91).bind (fun ⟨x0_3, I0_3, L0_3⟩ => (if x0_3 = 0 then (if (I0_3 104 7) < 50 then (if 1 ≤ dp then ((kf_54 n (dp - 1) e 0 I0_3 L0_3 0 1000).bind (fun ⟨x1_31, I1_31, L1_31⟩ => (if x1_31 = 0 then (if 1 ≤ dp then ((kf_41 n (dp - 1) e 0 I1_31 L1_31 0 4).bind (fun ⟨x2_56, I2_56, L2_56⟩ => (if x2_56 = 0 then (if 1 ≤ dp then ((kf_41 n (dp - 1) e 0 I2_56 L2_56 0 5).bind (fun ⟨x3_78, I3_78, L3_78⟩ => (if x3_78 = 0 then (if 1 ≤ dp then ((kf_41 n (dp - 1) e 0 I3_78 L3_78 0 6).bind (fun ⟨x4_100, I4_100, L4_100⟩ => (if x4_100 = 0 then (if 1 ≤ dp then ((kf_41 n (dp - 1) e 0 I4_100 L4_100 0 7).bind (fun ⟨x5_122, I5_122, L5_122⟩ => (if x5_122 = 0 then (if 1 ≤ dp then ((kf_41 n (dp - 1) e 0 I5_122 L5_122 0 8).bind (fun ⟨x6_144, I6_144, L6_144⟩ => (if x6_144 = 0 then (some ((0 : Int), I6_144, L6_144)) else ((e.2.2 104 1).bind (fun b_151 => (if (b_151 < e.1) ∧ ((e.2.1 b_151).1 = 10) then (if 1 ≤ dp then ((kf_61 n (dp - 1) e 0 I6_144 L6_144 1 4 b_151).bind (fun ⟨x7_156, I7_156, L7_156⟩ => (kf_56 n dp e 7 I7_156 L7_156 i1 0))) else none) else none)))))) else none) else ((e.2.2 104 1).bind (fun b_129 => (if (b_129 < e.1) ∧ ((e.2.1 b_129).1 = 10) then (if 1 ≤ dp then ((kf_61 n (dp - 1) e 0 I5_122 L5_122 1 3 b_129).bind (fun ⟨x6_134, I6_134, L6_134⟩ => (kf_56 n dp e 7 I6_134 L6_134 i1 0))) else none) else none)))))) else none) else ((e.2.2 104 1).bind (fun b_107 => (if (b_107 < e.1) ∧ ((e.2.1 b_107).1 = 10) then (if 1 ≤ dp then ((kf_61 n (dp - 1) e 0 I4_100 L4_100 1 2 b_107).bind (fun ⟨x5_112, I5_112, L5_112⟩ => (kf_56 n dp e 7 I5_112 L5_112 i1 0))) else none) else none)))))) else none) else ((e.2.2 104 1).bind (fun b_85 => (if (b_85 < e.1) ∧ ((e.2.1 b_85).1 = 10) then (if 1 ≤ dp then ((kf_61 n (dp - 1) e 0 I3_78 L3_78 1 1 b_85).bind (fun ⟨x4_90, I4_90, L4_90⟩ => (kf_56 n dp e 7 I4_90 L4_90 i1 0))) else none) else none)))))) else none) else ((e.2.2 104 1).bind (fun b_63 => (if (b_63 < e.1) ∧ ((e.2.1 b_63).1 = 10) then (if 1 ≤ dp then ((kf_61 n (dp - 1) e 0 I2_56 L2_56 1 0 b_63).bind (fun ⟨x3_68, I3_68, L3_68⟩ => (kf_56 n dp e 7 I3_68 L3_68 i1 0))) else none) else none)))))) else none) else ((e.2.2 104 1).bind (fun b_38 => (if (b_38 < e.1) ∧ ((e.2.1 b_38).1 = 10) then (if 1 ≤ dp then ((kf_61 n (dp - 1) e 0 I1_31 L1_31 0 (I1_31 104 6) b_38).bind (fun ⟨x2_46, I2_46, L2_46⟩ => (kf_56 n dp e 7 I2_46 L2_46 i1 0))) else none) else none)))))) else none) else (some ((0 : Int), I0_3, L0_3))) else (if 1 ≤ dp then ((kf_56 n (dp - 1) e 8 I0_3 L0_3 i1 0).bind (fun ⟨x1_11, I1_11, L1_11⟩ => (if (x1_11 = 0) ∨ (x1_11 = 1) then (some ((x1_11 : Int), I1_11, L1_11)) else none))) else none)))) else none) := by rw [kf_56.eq_2, if_neg (show ¬ ((6 : Nat) = 0) by decide), if_neg (show ¬ ((6 : Nat) = 1) by decide), if_neg (show ¬ ((6 : Nat) = 2) by decide), if_neg (show ¬ ((6 : Nat) = 3) by decide), if_neg (show ¬ ((6 : Nat) = 4) by decide), if_neg (show ¬ ((6 : Nat) = 5) by decide), if_pos (show (6 : Nat) = 6 from rfl)]
set_option maxRecDepth 100000 in
theorem ke_56_7 (n : Nat) (dp : Nat) (e : EN) (I : JI) (L : JI) (i1 : Int) (i2 : Int) : kf_56 (n + 1) dp e 7 I L i1 i2 = (if -2147483648 ≤ (I 104 7) + 1 ∧ (I 104 7) + 1 ≤ 2147483647 then (stI (w2 I 104 7 ((I 104 7) + 1)) (fun I_172 => (if 1 ≤ dp then ((kf_37 n (dp - 1) e 0 I_172 L 0).bind (fun ⟨I0_176, L0_176⟩ => (some ((1 : Int), I0_176, L0_176)))) else none))) else none) := by rw [kf_56.eq_2, if_neg (show ¬ ((7 : Nat) = 0) by decide), if_neg (show ¬ ((7 : Nat) = 1) by decide), if_neg (show ¬ ((7 : Nat) = 2) by decide), if_neg (show ¬ ((7 : Nat) = 3) by decide), if_neg (show ¬ ((7 : Nat) = 4) by decide), if_neg (show ¬ ((7 : Nat) = 5) by decide), if_neg (show ¬ ((7 : Nat) = 6) by decide), if_pos (show (7 : Nat) = 7 from rfl)]
set_option maxRecDepth 100000 in
theorem ke_56_8 (n : Nat) (dp : Nat) (e : EN) (I : JI) (L : JI) (i1 : Int) (i2 : Int) : kf_56 (n + 1) dp e 8 I L i1 i2 = (if i1 < 8 then (if 1 ≤ dp then ((kf_37 n (dp - 1) e 0 I L 0).bind (fun ⟨I0_9, L0_9⟩ => (if 1 ≤ dp then (if -2147483648 ≤ i1 + 1 ∧ i1 + 1 ≤ 2147483647 then ((kf_56 n (dp - 1) e 0 I0_9 L0_9 (i1 + 1) 0).bind (fun ⟨x1_16, I1_16, L1_16⟩ => (if x1_16 = 0 then (some ((0 : Int), I1_16, L1_16)) else (if 1 ≤ dp then ((kf_59 n (dp - 1) e 0 I1_16 L1_16 93).bind (fun ⟨x2_25, I2_25, L2_25⟩ => (if x2_25 = 0 then (some ((0 : Int), I2_25, L2_25)) else (if 1 ≤ dp then ((kf_37 n (dp - 1) e 0 I2_25 L2_25 0).bind (fun ⟨I3_34, L3_34⟩ => (some ((1 : Int), I3_34, L3_34)))) else none)))) else none)))) else none) else none))) else none) else (some ((0 : Int), I, L))) := by rw [kf_56.eq_2, if_neg (show ¬ ((8 : Nat) = 0) by decide), if_neg (show ¬ ((8 : Nat) = 1) by decide), if_neg (show ¬ ((8 : Nat) = 2) by decide), if_neg (show ¬ ((8 : Nat) = 3) by decide), if_neg (show ¬ ((8 : Nat) = 4) by decide), if_neg (show ¬ ((8 : Nat) = 5) by decide), if_neg (show ¬ ((8 : Nat) = 6) by decide), if_neg (show ¬ ((8 : Nat) = 7) by decide), if_pos (show (8 : Nat) = 8 from rfl)]
set_option maxHeartbeats 8000000 in
set_option maxRecDepth 100000 in
theorem ks_56 : ∀ (n : Nat) (dp : Nat) (e : EN) (lab : Nat) (I : Nat → Nat → Int32) (I' : JI) (L : Nat → Nat → Int64) (L' : JI) (i1 : Int32) (i1' : Int) (i2 : Int32) (i2' : Int), Rli I I' → Rll L L' → Ui i1 i1' → Ui i2 i2' → Sim R3 (g_56 n dp e lab I L i1 i2) (kf_56 n dp e lab I' L' i1' i2') := by
  intro n
  induction n with
  | zero => intros; rw [kf_56.eq_1]; exact Sn
  | succ n ih =>
    intro dp e lab I I' L L' i1 i1' i2 i2' u_I u_L u_i1 u_i2
    rw [g_56.eq_2, kf_56.eq_2]
    refine Sc Iff.rfl (fun _ => ?_) (fun _ => ?_)
    · refine Sc Iff.rfl (fun c1 => ?_) (fun _ => Sn)
      refine Sb3 (ih (dp - 1) e 3 _ _ _ _ _ _ _ _ u_I u_L u_i1 (rfl : Ui 0 0)) (fun x0_2 x0_2' I0_2 I0_2' L0_2 L0_2' u_x0_2 u_I0_2 u_L0_2 => ?_)
      refine Sc (eq_up u_x0_2 (rfl : Ui 0 0)) (fun c2 => ?_) (fun c2 => ?_)
      · exact Sr ⟨(rfl : Ui (0) (0)), u_I0_2, u_L0_2⟩
      · exact (ih dp e 1 _ _ _ _ _ _ _ _ u_I0_2 u_L0_2 u_i1 (rfl : Ui (0) (0)))
    refine Sc Iff.rfl (fun _ => ?_) (fun _ => ?_)
    · refine Sc (le_up (rfl : Ui (400) (400)) u_i2) (fun c1 => ?_) (fun c1 => ?_)
      · exact Sr ⟨(rfl : Ui (1) (1)), u_I, u_L⟩
      · refine Sc Iff.rfl (fun c2 => ?_) (fun _ => Sn)
        refine Sb3 (ks_59 n (dp - 1) e 0 _ _ _ _ _ _ u_I u_L (rfl : Ui (43) (43))) (fun x0_22 x0_22' I0_22 I0_22' L0_22 L0_22' u_x0_22 u_I0_22 u_L0_22 => ?_)
        refine Sc (eq_up u_x0_22 (rfl : Ui 0 0)) (fun c3 => ?_) (fun c3 => ?_)
        · refine Sc Iff.rfl (fun c4 => ?_) (fun _ => Sn)
          refine Sb3 (ks_59 n (dp - 1) e 0 _ _ _ _ _ _ u_I0_22 u_L0_22 (rfl : Ui (45) (45))) (fun x1_31 x1_31' I1_31 I1_31' L1_31 L1_31' u_x1_31 u_I1_31 u_L1_31 => ?_)
          refine Sc (eq_up u_x1_31 (rfl : Ui 0 0)) (fun c5 => ?_) (fun c5 => ?_)
          · exact Sr ⟨(rfl : Ui (1) (1)), u_I1_31, u_L1_31⟩
          · exact (ih dp e 2 _ _ _ _ _ _ _ _ u_I1_31 u_L1_31 u_i1 u_i2)
        · exact (ih dp e 2 _ _ _ _ _ _ _ _ u_I0_22 u_L0_22 u_i1 u_i2)
    refine Sc Iff.rfl (fun _ => ?_) (fun _ => ?_)
    · refine Sc Iff.rfl (fun c1 => ?_) (fun _ => Sn)
      refine Sb3 (ks_59 n (dp - 1) e 0 _ _ _ _ _ _ u_I u_L (rfl : Ui (43) (43))) (fun x0_40 x0_40' I0_40 I0_40' L0_40 L0_40' u_x0_40 u_I0_40 u_L0_40 => ?_)
      refine Sc (eq_up u_x0_40 (rfl : Ui 0 0)) (fun c2 => ?_) (fun c2 => ?_)
      · refine Sc Iff.rfl (fun c3 => ?_) (fun _ => Sn)
        refine Sb2 (ks_37 n (dp - 1) e 0 _ _ _ _ _ _ u_I0_40 u_L0_40 (rfl : Ui 0 0)) (fun I1_53 I1_53' L1_53 L1_53' u_I1_53 u_L1_53 => ?_)
        refine Sc Iff.rfl (fun c4 => ?_) (fun _ => Sn)
        refine Sb3 (ih (dp - 1) e 3 _ _ _ _ _ _ _ _ u_I1_53 u_L1_53 u_i1 (rfl : Ui 0 0)) (fun x2_58 x2_58' I2_58 I2_58' L2_58 L2_58' u_x2_58 u_I2_58 u_L2_58 => ?_)
        refine Sc (eq_up u_x2_58 (rfl : Ui 0 0)) (fun c5 => ?_) (fun c5 => ?_)
        · exact Sr ⟨(rfl : Ui (0) (0)), u_I2_58, u_L2_58⟩
        · refine SbE rfl (fun b_67 => ?_)
          refine Sc Iff.rfl (fun c6 => ?_) (fun _ => Sn)
          refine Sc Iff.rfl (fun c7 => ?_) (fun _ => Sn)
          refine Sb3 (ks_61 n (dp - 1) e 0 _ _ _ _ _ _ _ _ b_67 u_I2_58 u_L2_58 (rfl : Ui (3) (3)) (rfl : Ui (0) (0))) (fun x3_72 x3_72' I3_72 I3_72' L3_72 L3_72' u_x3_72 u_I3_72 u_L3_72 => ?_)
          refine Sg (fun g8 => ?_)
          exact (ih dp e 1 _ _ _ _ _ _ _ _ u_I3_72 u_L3_72 u_i1 (ui_add u_i2 (rfl : Ui (Int32.ofInt (1)) (1)) g8))
      · refine Sc Iff.rfl (fun c9 => ?_) (fun _ => Sn)
        refine Sb2 (ks_37 n (dp - 1) e 0 _ _ _ _ _ _ u_I0_40 u_L0_40 (rfl : Ui 0 0)) (fun I1_53 I1_53' L1_53 L1_53' u_I1_53 u_L1_53 => ?_)
        refine Sc Iff.rfl (fun c10 => ?_) (fun _ => Sn)
        refine Sb3 (ih (dp - 1) e 3 _ _ _ _ _ _ _ _ u_I1_53 u_L1_53 u_i1 (rfl : Ui 0 0)) (fun x2_58 x2_58' I2_58 I2_58' L2_58 L2_58' u_x2_58 u_I2_58 u_L2_58 => ?_)
        refine Sc (eq_up u_x2_58 (rfl : Ui 0 0)) (fun c11 => ?_) (fun c11 => ?_)
        · exact Sr ⟨(rfl : Ui (0) (0)), u_I2_58, u_L2_58⟩
        · refine SbE rfl (fun b_67 => ?_)
          refine Sc Iff.rfl (fun c12 => ?_) (fun _ => Sn)
          refine Sc Iff.rfl (fun c13 => ?_) (fun _ => Sn)
          refine Sb3 (ks_61 n (dp - 1) e 0 _ _ _ _ _ _ _ _ b_67 u_I2_58 u_L2_58 (rfl : Ui (2) (2)) (rfl : Ui (0) (0))) (fun x3_72 x3_72' I3_72 I3_72' L3_72 L3_72' u_x3_72 u_I3_72 u_L3_72 => ?_)
          refine Sg (fun g14 => ?_)
          exact (ih dp e 1 _ _ _ _ _ _ _ _ u_I3_72 u_L3_72 u_i1 (ui_add u_i2 (rfl : Ui (Int32.ofInt (1)) (1)) g14))
    refine Sc Iff.rfl (fun _ => ?_) (fun _ => ?_)
    · refine Sc Iff.rfl (fun c1 => ?_) (fun _ => Sn)
      refine Sb3 (ih (dp - 1) e 6 _ _ _ _ _ _ _ _ u_I u_L u_i1 (rfl : Ui 0 0)) (fun x0_2 x0_2' I0_2 I0_2' L0_2 L0_2' u_x0_2 u_I0_2 u_L0_2 => ?_)
      refine Sc (eq_up u_x0_2 (rfl : Ui 0 0)) (fun c2 => ?_) (fun c2 => ?_)
      · exact Sr ⟨(rfl : Ui (0) (0)), u_I0_2, u_L0_2⟩
      · exact (ih dp e 4 _ _ _ _ _ _ _ _ u_I0_2 u_L0_2 u_i1 (rfl : Ui (0) (0)))
    refine Sc Iff.rfl (fun _ => ?_) (fun _ => ?_)
    · refine Sc (le_up (rfl : Ui (400) (400)) u_i2) (fun c1 => ?_) (fun c1 => ?_)
      · exact Sr ⟨(rfl : Ui (1) (1)), u_I, u_L⟩
      · refine Sc Iff.rfl (fun c2 => ?_) (fun _ => Sn)
        refine Sb3 (ks_59 n (dp - 1) e 0 _ _ _ _ _ _ u_I u_L (rfl : Ui (42) (42))) (fun x0_22 x0_22' I0_22 I0_22' L0_22 L0_22' u_x0_22 u_I0_22 u_L0_22 => ?_)
        refine Sc (eq_up u_x0_22 (rfl : Ui 0 0)) (fun c3 => ?_) (fun c3 => ?_)
        · refine Sc Iff.rfl (fun c4 => ?_) (fun _ => Sn)
          refine Sb3 (ks_59 n (dp - 1) e 0 _ _ _ _ _ _ u_I0_22 u_L0_22 (rfl : Ui (47) (47))) (fun x1_31 x1_31' I1_31 I1_31' L1_31 L1_31' u_x1_31 u_I1_31 u_L1_31 => ?_)
          refine Sc (eq_up u_x1_31 (rfl : Ui 0 0)) (fun c5 => ?_) (fun c5 => ?_)
          · exact Sr ⟨(rfl : Ui (1) (1)), u_I1_31, u_L1_31⟩
          · exact (ih dp e 5 _ _ _ _ _ _ _ _ u_I1_31 u_L1_31 u_i1 u_i2)
        · exact (ih dp e 5 _ _ _ _ _ _ _ _ u_I0_22 u_L0_22 u_i1 u_i2)
    refine Sc Iff.rfl (fun _ => ?_) (fun _ => ?_)
    · refine Sc Iff.rfl (fun c1 => ?_) (fun _ => Sn)
      refine Sb3 (ks_59 n (dp - 1) e 0 _ _ _ _ _ _ u_I u_L (rfl : Ui (42) (42))) (fun x0_40 x0_40' I0_40 I0_40' L0_40 L0_40' u_x0_40 u_I0_40 u_L0_40 => ?_)
      refine Sc (eq_up u_x0_40 (rfl : Ui 0 0)) (fun c2 => ?_) (fun c2 => ?_)
      · refine Sc Iff.rfl (fun c3 => ?_) (fun _ => Sn)
        refine Sb2 (ks_37 n (dp - 1) e 0 _ _ _ _ _ _ u_I0_40 u_L0_40 (rfl : Ui 0 0)) (fun I1_53 I1_53' L1_53 L1_53' u_I1_53 u_L1_53 => ?_)
        refine Sc Iff.rfl (fun c4 => ?_) (fun _ => Sn)
        refine Sb3 (ih (dp - 1) e 6 _ _ _ _ _ _ _ _ u_I1_53 u_L1_53 u_i1 (rfl : Ui 0 0)) (fun x2_58 x2_58' I2_58 I2_58' L2_58 L2_58' u_x2_58 u_I2_58 u_L2_58 => ?_)
        refine Sc (eq_up u_x2_58 (rfl : Ui 0 0)) (fun c5 => ?_) (fun c5 => ?_)
        · exact Sr ⟨(rfl : Ui (0) (0)), u_I2_58, u_L2_58⟩
        · refine SbE rfl (fun b_67 => ?_)
          refine Sc Iff.rfl (fun c6 => ?_) (fun _ => Sn)
          refine Sc Iff.rfl (fun c7 => ?_) (fun _ => Sn)
          refine Sb3 (ks_61 n (dp - 1) e 0 _ _ _ _ _ _ _ _ b_67 u_I2_58 u_L2_58 (rfl : Ui (5) (5)) (rfl : Ui (0) (0))) (fun x3_72 x3_72' I3_72 I3_72' L3_72 L3_72' u_x3_72 u_I3_72 u_L3_72 => ?_)
          refine Sg (fun g8 => ?_)
          exact (ih dp e 4 _ _ _ _ _ _ _ _ u_I3_72 u_L3_72 u_i1 (ui_add u_i2 (rfl : Ui (Int32.ofInt (1)) (1)) g8))
      · refine Sc Iff.rfl (fun c9 => ?_) (fun _ => Sn)
        refine Sb2 (ks_37 n (dp - 1) e 0 _ _ _ _ _ _ u_I0_40 u_L0_40 (rfl : Ui 0 0)) (fun I1_53 I1_53' L1_53 L1_53' u_I1_53 u_L1_53 => ?_)
        refine Sc Iff.rfl (fun c10 => ?_) (fun _ => Sn)
        refine Sb3 (ih (dp - 1) e 6 _ _ _ _ _ _ _ _ u_I1_53 u_L1_53 u_i1 (rfl : Ui 0 0)) (fun x2_58 x2_58' I2_58 I2_58' L2_58 L2_58' u_x2_58 u_I2_58 u_L2_58 => ?_)
        refine Sc (eq_up u_x2_58 (rfl : Ui 0 0)) (fun c11 => ?_) (fun c11 => ?_)
        · exact Sr ⟨(rfl : Ui (0) (0)), u_I2_58, u_L2_58⟩
        · refine SbE rfl (fun b_67 => ?_)
          refine Sc Iff.rfl (fun c12 => ?_) (fun _ => Sn)
          refine Sc Iff.rfl (fun c13 => ?_) (fun _ => Sn)
          refine Sb3 (ks_61 n (dp - 1) e 0 _ _ _ _ _ _ _ _ b_67 u_I2_58 u_L2_58 (rfl : Ui (4) (4)) (rfl : Ui (0) (0))) (fun x3_72 x3_72' I3_72 I3_72' L3_72 L3_72' u_x3_72 u_I3_72 u_L3_72 => ?_)
          refine Sg (fun g14 => ?_)
          exact (ih dp e 4 _ _ _ _ _ _ _ _ u_I3_72 u_L3_72 u_i1 (ui_add u_i2 (rfl : Ui (Int32.ofInt (1)) (1)) g14))
    refine Sc Iff.rfl (fun _ => ?_) (fun _ => ?_)
    · refine Sc Iff.rfl (fun c1 => ?_) (fun _ => Sn)
      refine Sb3 (ks_59 n (dp - 1) e 0 _ _ _ _ _ _ u_I u_L (rfl : Ui (91) (91))) (fun x0_3 x0_3' I0_3 I0_3' L0_3 L0_3' u_x0_3 u_I0_3 u_L0_3 => ?_)
      refine Sc (eq_up u_x0_3 (rfl : Ui 0 0)) (fun c2 => ?_) (fun c2 => ?_)
      · refine Sc (lt_up (u_I0_3 104 7) (rfl : Ui (50) (50))) (fun c3 => ?_) (fun c3 => ?_)
        · refine Sc Iff.rfl (fun c4 => ?_) (fun _ => Sn)
          refine Sb3 (ks_54 n (dp - 1) e 0 _ _ _ _ _ _ _ _ u_I0_3 u_L0_3 (rfl : Ui (0) (0)) (rfl : Ui (1000) (1000))) (fun x1_31 x1_31' I1_31 I1_31' L1_31 L1_31' u_x1_31 u_I1_31 u_L1_31 => ?_)
          refine Sc (eq_up u_x1_31 (rfl : Ui 0 0)) (fun c5 => ?_) (fun c5 => ?_)
          · refine Sc Iff.rfl (fun c6 => ?_) (fun _ => Sn)
            refine Sb3 (ks_41 n (dp - 1) e 0 _ _ _ _ _ _ 4 u_I1_31 u_L1_31 (rfl : Ui 0 0)) (fun x2_56 x2_56' I2_56 I2_56' L2_56 L2_56' u_x2_56 u_I2_56 u_L2_56 => ?_)
            refine Sc (eq_up u_x2_56 (rfl : Ui 0 0)) (fun c7 => ?_) (fun c7 => ?_)
            · refine Sc Iff.rfl (fun c8 => ?_) (fun _ => Sn)
              refine Sb3 (ks_41 n (dp - 1) e 0 _ _ _ _ _ _ 5 u_I2_56 u_L2_56 (rfl : Ui 0 0)) (fun x3_78 x3_78' I3_78 I3_78' L3_78 L3_78' u_x3_78 u_I3_78 u_L3_78 => ?_)
              refine Sc (eq_up u_x3_78 (rfl : Ui 0 0)) (fun c9 => ?_) (fun c9 => ?_)
              · refine Sc Iff.rfl (fun c10 => ?_) (fun _ => Sn)
                refine Sb3 (ks_41 n (dp - 1) e 0 _ _ _ _ _ _ 6 u_I3_78 u_L3_78 (rfl : Ui 0 0)) (fun x4_100 x4_100' I4_100 I4_100' L4_100 L4_100' u_x4_100 u_I4_100 u_L4_100 => ?_)
                refine Sc (eq_up u_x4_100 (rfl : Ui 0 0)) (fun c11 => ?_) (fun c11 => ?_)
                · refine Sc Iff.rfl (fun c12 => ?_) (fun _ => Sn)
                  refine Sb3 (ks_41 n (dp - 1) e 0 _ _ _ _ _ _ 7 u_I4_100 u_L4_100 (rfl : Ui 0 0)) (fun x5_122 x5_122' I5_122 I5_122' L5_122 L5_122' u_x5_122 u_I5_122 u_L5_122 => ?_)
                  refine Sc (eq_up u_x5_122 (rfl : Ui 0 0)) (fun c13 => ?_) (fun c13 => ?_)
                  · refine Sc Iff.rfl (fun c14 => ?_) (fun _ => Sn)
                    refine Sb3 (ks_41 n (dp - 1) e 0 _ _ _ _ _ _ 8 u_I5_122 u_L5_122 (rfl : Ui 0 0)) (fun x6_144 x6_144' I6_144 I6_144' L6_144 L6_144' u_x6_144 u_I6_144 u_L6_144 => ?_)
                    refine Sc (eq_up u_x6_144 (rfl : Ui 0 0)) (fun c15 => ?_) (fun c15 => ?_)
                    · exact Sr ⟨(rfl : Ui (0) (0)), u_I6_144, u_L6_144⟩
                    · refine SbE rfl (fun b_151 => ?_)
                      refine Sc Iff.rfl (fun c16 => ?_) (fun _ => Sn)
                      refine Sc Iff.rfl (fun c17 => ?_) (fun _ => Sn)
                      refine Sb3 (ks_61 n (dp - 1) e 0 _ _ _ _ _ _ _ _ b_151 u_I6_144 u_L6_144 (rfl : Ui (1) (1)) (rfl : Ui (4) (4))) (fun x7_156 x7_156' I7_156 I7_156' L7_156 L7_156' u_x7_156 u_I7_156 u_L7_156 => ?_)
                      exact (ih dp e 7 _ _ _ _ _ _ _ _ u_I7_156 u_L7_156 u_i1 (rfl : Ui 0 0))
                  · refine SbE rfl (fun b_129 => ?_)
                    refine Sc Iff.rfl (fun c18 => ?_) (fun _ => Sn)
                    refine Sc Iff.rfl (fun c19 => ?_) (fun _ => Sn)
                    refine Sb3 (ks_61 n (dp - 1) e 0 _ _ _ _ _ _ _ _ b_129 u_I5_122 u_L5_122 (rfl : Ui (1) (1)) (rfl : Ui (3) (3))) (fun x6_134 x6_134' I6_134 I6_134' L6_134 L6_134' u_x6_134 u_I6_134 u_L6_134 => ?_)
                    exact (ih dp e 7 _ _ _ _ _ _ _ _ u_I6_134 u_L6_134 u_i1 (rfl : Ui 0 0))
                · refine SbE rfl (fun b_107 => ?_)
                  refine Sc Iff.rfl (fun c20 => ?_) (fun _ => Sn)
                  refine Sc Iff.rfl (fun c21 => ?_) (fun _ => Sn)
                  refine Sb3 (ks_61 n (dp - 1) e 0 _ _ _ _ _ _ _ _ b_107 u_I4_100 u_L4_100 (rfl : Ui (1) (1)) (rfl : Ui (2) (2))) (fun x5_112 x5_112' I5_112 I5_112' L5_112 L5_112' u_x5_112 u_I5_112 u_L5_112 => ?_)
                  exact (ih dp e 7 _ _ _ _ _ _ _ _ u_I5_112 u_L5_112 u_i1 (rfl : Ui 0 0))
              · refine SbE rfl (fun b_85 => ?_)
                refine Sc Iff.rfl (fun c22 => ?_) (fun _ => Sn)
                refine Sc Iff.rfl (fun c23 => ?_) (fun _ => Sn)
                refine Sb3 (ks_61 n (dp - 1) e 0 _ _ _ _ _ _ _ _ b_85 u_I3_78 u_L3_78 (rfl : Ui (1) (1)) (rfl : Ui (1) (1))) (fun x4_90 x4_90' I4_90 I4_90' L4_90 L4_90' u_x4_90 u_I4_90 u_L4_90 => ?_)
                exact (ih dp e 7 _ _ _ _ _ _ _ _ u_I4_90 u_L4_90 u_i1 (rfl : Ui 0 0))
            · refine SbE rfl (fun b_63 => ?_)
              refine Sc Iff.rfl (fun c24 => ?_) (fun _ => Sn)
              refine Sc Iff.rfl (fun c25 => ?_) (fun _ => Sn)
              refine Sb3 (ks_61 n (dp - 1) e 0 _ _ _ _ _ _ _ _ b_63 u_I2_56 u_L2_56 (rfl : Ui (1) (1)) (rfl : Ui (0) (0))) (fun x3_68 x3_68' I3_68 I3_68' L3_68 L3_68' u_x3_68 u_I3_68 u_L3_68 => ?_)
              exact (ih dp e 7 _ _ _ _ _ _ _ _ u_I3_68 u_L3_68 u_i1 (rfl : Ui 0 0))
          · refine SbE rfl (fun b_38 => ?_)
            refine Sc Iff.rfl (fun c26 => ?_) (fun _ => Sn)
            refine Sc Iff.rfl (fun c27 => ?_) (fun _ => Sn)
            refine Sb3 (ks_61 n (dp - 1) e 0 _ _ _ _ _ _ _ _ b_38 u_I1_31 u_L1_31 (rfl : Ui (0) (0)) (u_I1_31 104 6)) (fun x2_46 x2_46' I2_46 I2_46' L2_46 L2_46' u_x2_46 u_I2_46 u_L2_46 => ?_)
            exact (ih dp e 7 _ _ _ _ _ _ _ _ u_I2_46 u_L2_46 u_i1 (rfl : Ui 0 0))
        · exact Sr ⟨(rfl : Ui (0) (0)), u_I0_3, u_L0_3⟩
      · refine Sc Iff.rfl (fun c28 => ?_) (fun _ => Sn)
        refine Sb3 (ih (dp - 1) e 8 _ _ _ _ _ _ _ _ u_I0_3 u_L0_3 u_i1 (rfl : Ui 0 0)) (fun x1_11 x1_11' I1_11 I1_11' L1_11 L1_11' u_x1_11 u_I1_11 u_L1_11 => ?_)
        refine Sc (or_congr (eq_up u_x1_11 (rfl : Ui 0 0)) (eq_up u_x1_11 (rfl : Ui 1 1))) (fun c29 => ?_) (fun _ => Sn)
        exact Sr ⟨u_x1_11, u_I1_11, u_L1_11⟩
    refine Sc Iff.rfl (fun _ => ?_) (fun _ => ?_)
    · refine Sg (fun g1 => ?_)
      refine SsJ (ri_up u_I (rfl : ((7 : Nat) : Int) = 7) (ui_add (u_I 104 7) (rfl : Ui (1) (1)) g1)) (fun I_172 I_172' u_I_172 => ?_)
      refine Sc Iff.rfl (fun c2 => ?_) (fun _ => Sn)
      refine Sb2 (ks_37 n (dp - 1) e 0 _ _ _ _ _ _ u_I_172 u_L (rfl : Ui 0 0)) (fun I0_176 I0_176' L0_176 L0_176' u_I0_176 u_L0_176 => ?_)
      exact Sr ⟨(rfl : Ui (1) (1)), u_I0_176, u_L0_176⟩
    refine Sc Iff.rfl (fun _ => ?_) (fun _ => ?_)
    · refine Sc (lt_up u_i1 (rfl : Ui (8) (8))) (fun c1 => ?_) (fun c1 => ?_)
      · refine Sc Iff.rfl (fun c2 => ?_) (fun _ => Sn)
        refine Sb2 (ks_37 n (dp - 1) e 0 _ _ _ _ _ _ u_I u_L (rfl : Ui 0 0)) (fun I0_9 I0_9' L0_9 L0_9' u_I0_9 u_L0_9 => ?_)
        refine Sc Iff.rfl (fun c3 => ?_) (fun _ => Sn)
        refine Sg (fun g4 => ?_)
        refine Sb3 (ih (dp - 1) e 0 _ _ _ _ _ _ _ _ u_I0_9 u_L0_9 (ui_add u_i1 (rfl : Ui (1) (1)) g4) (rfl : Ui 0 0)) (fun x1_16 x1_16' I1_16 I1_16' L1_16 L1_16' u_x1_16 u_I1_16 u_L1_16 => ?_)
        refine Sc (eq_up u_x1_16 (rfl : Ui 0 0)) (fun c5 => ?_) (fun c5 => ?_)
        · exact Sr ⟨(rfl : Ui (0) (0)), u_I1_16, u_L1_16⟩
        · refine Sc Iff.rfl (fun c6 => ?_) (fun _ => Sn)
          refine Sb3 (ks_59 n (dp - 1) e 0 _ _ _ _ _ _ u_I1_16 u_L1_16 (rfl : Ui (93) (93))) (fun x2_25 x2_25' I2_25 I2_25' L2_25 L2_25' u_x2_25 u_I2_25 u_L2_25 => ?_)
          refine Sc (eq_up u_x2_25 (rfl : Ui 0 0)) (fun c7 => ?_) (fun c7 => ?_)
          · exact Sr ⟨(rfl : Ui (0) (0)), u_I2_25, u_L2_25⟩
          · refine Sc Iff.rfl (fun c8 => ?_) (fun _ => Sn)
            refine Sb2 (ks_37 n (dp - 1) e 0 _ _ _ _ _ _ u_I2_25 u_L2_25 (rfl : Ui 0 0)) (fun I3_34 I3_34' L3_34 L3_34' u_I3_34 u_L3_34 => ?_)
            exact Sr ⟨(rfl : Ui (1) (1)), u_I3_34, u_L3_34⟩
      · exact Sr ⟨(rfl : Ui (0) (0)), u_I, u_L⟩
    exact Sn
set_option maxHeartbeats 4000000 in
set_option maxRecDepth 100000 in
def kf_66 : Nat → Nat → EN → Nat → JI → JI → Int → Int → Option (Int × JI × JI)
  | 0, _, _, _, _, _, _, _ => none
  | n + 1, dp, e, lab, I, L, i1, i2 =>
    if lab = 0 then (if 1 ≤ dp then ((kf_56 n (dp - 1) e 0 I L i1 0).bind (fun ⟨x0_2, I0_2, L0_2⟩ => (if x0_2 = 0 then (some ((0 : Int), I0_2, L0_2)) else (if 1 ≤ dp then ((kf_59 n (dp - 1) e 0 I0_2 L0_2 60).bind (fun ⟨x1_13, I1_13, L1_13⟩ => (if x1_13 = 0 then (if 1 ≤ dp then ((kf_59 n (dp - 1) e 0 I1_13 L1_13 62).bind (fun ⟨x2_28, I2_28, L2_28⟩ => (if x2_28 = 0 then (if 1 ≤ dp then ((kf_59 n (dp - 1) e 0 I2_28 L2_28 61).bind (fun ⟨x3_43, I3_43, L3_43⟩ => (if x3_43 = 0 then (some ((0 : Int), I3_43, L3_43)) else (kf_66 n dp e 1 I3_43 L3_43 i1 8)))) else none) else (kf_66 n dp e 1 I2_28 L2_28 i1 7)))) else none) else (kf_66 n dp e 1 I1_13 L1_13 i1 6)))) else none)))) else none)
    else if lab = 1 then (if 1 ≤ dp then ((kf_37 n (dp - 1) e 0 I L 0).bind (fun ⟨I0_58, L0_58⟩ => (if 1 ≤ dp then ((kf_56 n (dp - 1) e 0 I0_58 L0_58 i1 0).bind (fun ⟨x1_63, I1_63, L1_63⟩ => (if x1_63 = 0 then (some ((0 : Int), I1_63, L1_63)) else ((e.2.2 104 1).bind (fun b_72 => (if (b_72 < e.1) ∧ ((e.2.1 b_72).1 = 10) then (if 1 ≤ dp then ((kf_61 n (dp - 1) e 0 I1_63 L1_63 i2 0 b_72).bind (fun ⟨x2_77, I2_77, L2_77⟩ => (some ((1 : Int), I2_77, L2_77)))) else none) else none)))))) else none))) else none)
    else none
set_option maxRecDepth 100000 in
theorem ke_66_0 (n : Nat) (dp : Nat) (e : EN) (I : JI) (L : JI) (i1 : Int) (i2 : Int) : kf_66 (n + 1) dp e 0 I L i1 i2 = (if 1 ≤ dp then ((kf_56 n (dp - 1) e 0 I L i1 0).bind (fun ⟨x0_2, I0_2, L0_2⟩ => (if x0_2 = 0 then (some ((0 : Int), I0_2, L0_2)) else (if 1 ≤ dp then ((kf_59 n (dp - 1) e 0 I0_2 L0_2 60).bind (fun ⟨x1_13, I1_13, L1_13⟩ => (if x1_13 = 0 then (if 1 ≤ dp then ((kf_59 n (dp - 1) e 0 I1_13 L1_13 62).bind (fun ⟨x2_28, I2_28, L2_28⟩ => (if x2_28 = 0 then (if 1 ≤ dp then ((kf_59 n (dp - 1) e 0 I2_28 L2_28 61).bind (fun ⟨x3_43, I3_43, L3_43⟩ => (if x3_43 = 0 then (some ((0 : Int), I3_43, L3_43)) else (kf_66 n dp e 1 I3_43 L3_43 i1 8)))) else none) else (kf_66 n dp e 1 I2_28 L2_28 i1 7)))) else none) else (kf_66 n dp e 1 I1_13 L1_13 i1 6)))) else none)))) else none) := by rw [kf_66.eq_2, if_pos (show (0 : Nat) = 0 from rfl)]
set_option maxRecDepth 100000 in
theorem ke_66_1 (n : Nat) (dp : Nat) (e : EN) (I : JI) (L : JI) (i1 : Int) (i2 : Int) : kf_66 (n + 1) dp e 1 I L i1 i2 = (if 1 ≤ dp then ((kf_37 n (dp - 1) e 0 I L 0).bind (fun ⟨I0_58, L0_58⟩ => (if 1 ≤ dp then ((kf_56 n (dp - 1) e 0 I0_58 L0_58 i1 0).bind (fun ⟨x1_63, I1_63, L1_63⟩ => (if x1_63 = 0 then (some ((0 : Int), I1_63, L1_63)) else ((e.2.2 104 1).bind (fun b_72 => (if (b_72 < e.1) ∧ ((e.2.1 b_72).1 = 10) then (if 1 ≤ dp then ((kf_61 n (dp - 1) e 0 I1_63 L1_63 i2 0 b_72).bind (fun ⟨x2_77, I2_77, L2_77⟩ => (some ((1 : Int), I2_77, L2_77)))) else none) else none)))))) else none))) else none) := by rw [kf_66.eq_2, if_neg (show ¬ ((1 : Nat) = 0) by decide), if_pos (show (1 : Nat) = 1 from rfl)]
set_option maxHeartbeats 8000000 in
set_option maxRecDepth 100000 in
theorem ks_66 : ∀ (n : Nat) (dp : Nat) (e : EN) (lab : Nat) (I : Nat → Nat → Int32) (I' : JI) (L : Nat → Nat → Int64) (L' : JI) (i1 : Int32) (i1' : Int) (i2 : Int32) (i2' : Int), Rli I I' → Rll L L' → Ui i1 i1' → Ui i2 i2' → Sim R3 (g_66 n dp e lab I L i1 i2) (kf_66 n dp e lab I' L' i1' i2') := by
  intro n
  induction n with
  | zero => intros; rw [kf_66.eq_1]; exact Sn
  | succ n ih =>
    intro dp e lab I I' L L' i1 i1' i2 i2' u_I u_L u_i1 u_i2
    rw [g_66.eq_2, kf_66.eq_2]
    refine Sc Iff.rfl (fun _ => ?_) (fun _ => ?_)
    · refine Sc Iff.rfl (fun c1 => ?_) (fun _ => Sn)
      refine Sb3 (ks_56 n (dp - 1) e 0 _ _ _ _ _ _ _ _ u_I u_L u_i1 (rfl : Ui 0 0)) (fun x0_2 x0_2' I0_2 I0_2' L0_2 L0_2' u_x0_2 u_I0_2 u_L0_2 => ?_)
      refine Sc (eq_up u_x0_2 (rfl : Ui 0 0)) (fun c2 => ?_) (fun c2 => ?_)
      · exact Sr ⟨(rfl : Ui (0) (0)), u_I0_2, u_L0_2⟩
      · refine Sc Iff.rfl (fun c3 => ?_) (fun _ => Sn)
        refine Sb3 (ks_59 n (dp - 1) e 0 _ _ _ _ _ _ u_I0_2 u_L0_2 (rfl : Ui (60) (60))) (fun x1_13 x1_13' I1_13 I1_13' L1_13 L1_13' u_x1_13 u_I1_13 u_L1_13 => ?_)
        refine Sc (eq_up u_x1_13 (rfl : Ui 0 0)) (fun c4 => ?_) (fun c4 => ?_)
        · refine Sc Iff.rfl (fun c5 => ?_) (fun _ => Sn)
          refine Sb3 (ks_59 n (dp - 1) e 0 _ _ _ _ _ _ u_I1_13 u_L1_13 (rfl : Ui (62) (62))) (fun x2_28 x2_28' I2_28 I2_28' L2_28 L2_28' u_x2_28 u_I2_28 u_L2_28 => ?_)
          refine Sc (eq_up u_x2_28 (rfl : Ui 0 0)) (fun c6 => ?_) (fun c6 => ?_)
          · refine Sc Iff.rfl (fun c7 => ?_) (fun _ => Sn)
            refine Sb3 (ks_59 n (dp - 1) e 0 _ _ _ _ _ _ u_I2_28 u_L2_28 (rfl : Ui (61) (61))) (fun x3_43 x3_43' I3_43 I3_43' L3_43 L3_43' u_x3_43 u_I3_43 u_L3_43 => ?_)
            refine Sc (eq_up u_x3_43 (rfl : Ui 0 0)) (fun c8 => ?_) (fun c8 => ?_)
            · exact Sr ⟨(rfl : Ui (0) (0)), u_I3_43, u_L3_43⟩
            · exact (ih dp e 1 _ _ _ _ _ _ _ _ u_I3_43 u_L3_43 u_i1 (rfl : Ui (8) (8)))
          · exact (ih dp e 1 _ _ _ _ _ _ _ _ u_I2_28 u_L2_28 u_i1 (rfl : Ui (7) (7)))
        · exact (ih dp e 1 _ _ _ _ _ _ _ _ u_I1_13 u_L1_13 u_i1 (rfl : Ui (6) (6)))
    refine Sc Iff.rfl (fun _ => ?_) (fun _ => ?_)
    · refine Sc Iff.rfl (fun c1 => ?_) (fun _ => Sn)
      refine Sb2 (ks_37 n (dp - 1) e 0 _ _ _ _ _ _ u_I u_L (rfl : Ui 0 0)) (fun I0_58 I0_58' L0_58 L0_58' u_I0_58 u_L0_58 => ?_)
      refine Sc Iff.rfl (fun c2 => ?_) (fun _ => Sn)
      refine Sb3 (ks_56 n (dp - 1) e 0 _ _ _ _ _ _ _ _ u_I0_58 u_L0_58 u_i1 (rfl : Ui 0 0)) (fun x1_63 x1_63' I1_63 I1_63' L1_63 L1_63' u_x1_63 u_I1_63 u_L1_63 => ?_)
      refine Sc (eq_up u_x1_63 (rfl : Ui 0 0)) (fun c3 => ?_) (fun c3 => ?_)
      · exact Sr ⟨(rfl : Ui (0) (0)), u_I1_63, u_L1_63⟩
      · refine SbE rfl (fun b_72 => ?_)
        refine Sc Iff.rfl (fun c4 => ?_) (fun _ => Sn)
        refine Sc Iff.rfl (fun c5 => ?_) (fun _ => Sn)
        refine Sb3 (ks_61 n (dp - 1) e 0 _ _ _ _ _ _ _ _ b_72 u_I1_63 u_L1_63 u_i2 (rfl : Ui (0) (0))) (fun x2_77 x2_77' I2_77 I2_77' L2_77 L2_77' u_x2_77 u_I2_77 u_L2_77 => ?_)
        exact Sr ⟨(rfl : Ui (1) (1)), u_I2_77, u_L2_77⟩
    exact Sn
set_option maxHeartbeats 4000000 in
set_option maxRecDepth 100000 in
def kf_62 : Nat → Nat → EN → Nat → JI → JI → Int → Int → Int → Option (Int × JI × JI)
  | 0, _, _, _, _, _, _, _, _ => none
  | n + 1, dp, e, lab, I, L, i1, i2, i3 =>
    if lab = 0 then (if 1 ≤ dp then ((kf_62 n (dp - 1) e 2 I L i1 0 0).bind (fun ⟨x0_2, I0_2, L0_2⟩ => (if x0_2 = 0 then (some ((0 : Int), I0_2, L0_2)) else (kf_62 n dp e 1 I0_2 L0_2 i1 0 0)))) else none)
    else if lab = 1 then (if 400 ≤ i2 then (some ((1 : Int), I, L)) else (if 1 ≤ dp then ((kf_41 n (dp - 1) e 0 I L 0 12).bind (fun ⟨x0_22, I0_22, L0_22⟩ => (if x0_22 = 0 then (some ((1 : Int), I0_22, L0_22)) else ((e.2.2 104 1).bind (fun b_29 => (if (b_29 < e.1) ∧ ((e.2.1 b_29).1 = 10) then (if 1 ≤ dp then ((kf_61 n (dp - 1) e 0 I0_22 L0_22 10 0 b_29).bind (fun ⟨x1_35, I1_35, L1_35⟩ => (if 1 ≤ dp then ((kf_37 n (dp - 1) e 0 I1_35 L1_35 0).bind (fun ⟨I2_40, L2_40⟩ => (if 1 ≤ dp then ((kf_62 n (dp - 1) e 2 I2_40 L2_40 i1 0 0).bind (fun ⟨x3_45, I3_45, L3_45⟩ => (if x3_45 = 0 then (some ((0 : Int), I3_45, L3_45)) else ((e.2.2 104 1).bind (fun b_54 => (if (b_54 < e.1) ∧ ((e.2.1 b_54).1 = 10) then ((e.2.2 b_54 9).bind (fun b_57 => ((e.2.2 104 1).bind (fun b_62 => (if (b_62 < e.1) ∧ ((e.2.1 b_62).1 = 10) then (if ((b_57 < e.1) ∧ (((e.2.1 b_57).1 = 13) ∧ ((e.2.1 b_57).2 < (2 ^ 31)))) ∧ (0 ≤ x1_35 ∧ x1_35 < (((e.2.1 b_57).2 : Nat) : Int)) then (stI (w2 I3_45 b_57 x1_35 (I3_45 b_62 12)) (fun I_68 => (if -2147483648 ≤ i2 + 1 ∧ i2 + 1 ≤ 2147483647 then (kf_62 n dp e 1 I_68 L3_45 i1 (i2 + 1) 0) else none))) else none) else none))))) else none)))))) else none))) else none))) else none) else none)))))) else none))
    else if lab = 2 then (if 1 ≤ dp then ((kf_62 n (dp - 1) e 4 I L i1 0 0).bind (fun ⟨x0_2, I0_2, L0_2⟩ => (if x0_2 = 0 then (some ((0 : Int), I0_2, L0_2)) else (kf_62 n dp e 3 I0_2 L0_2 i1 0 0)))) else none)
    else if lab = 3 then (if 400 ≤ i2 then (some ((1 : Int), I, L)) else (if 1 ≤ dp then ((kf_41 n (dp - 1) e 0 I L 0 2).bind (fun ⟨x0_22, I0_22, L0_22⟩ => (if x0_22 = 0 then (some ((1 : Int), I0_22, L0_22)) else ((e.2.2 104 1).bind (fun b_29 => (if (b_29 < e.1) ∧ ((e.2.1 b_29).1 = 10) then (if 1 ≤ dp then ((kf_61 n (dp - 1) e 0 I0_22 L0_22 11 0 b_29).bind (fun ⟨x1_35, I1_35, L1_35⟩ => (if 1 ≤ dp then ((kf_37 n (dp - 1) e 0 I1_35 L1_35 0).bind (fun ⟨I2_40, L2_40⟩ => (if 1 ≤ dp then ((kf_62 n (dp - 1) e 4 I2_40 L2_40 i1 0 0).bind (fun ⟨x3_45, I3_45, L3_45⟩ => (if x3_45 = 0 then (some ((0 : Int), I3_45, L3_45)) else ((e.2.2 104 1).bind (fun b_54 => (if (b_54 < e.1) ∧ ((e.2.1 b_54).1 = 10) then ((e.2.2 b_54 9).bind (fun b_57 => ((e.2.2 104 1).bind (fun b_62 => (if (b_62 < e.1) ∧ ((e.2.1 b_62).1 = 10) then (if ((b_57 < e.1) ∧ (((e.2.1 b_57).1 = 13) ∧ ((e.2.1 b_57).2 < (2 ^ 31)))) ∧ (0 ≤ x1_35 ∧ x1_35 < (((e.2.1 b_57).2 : Nat) : Int)) then (stI (w2 I3_45 b_57 x1_35 (I3_45 b_62 12)) (fun I_68 => (if -2147483648 ≤ i2 + 1 ∧ i2 + 1 ≤ 2147483647 then (kf_62 n dp e 3 I_68 L3_45 i1 (i2 + 1) 0) else none))) else none) else none))))) else none)))))) else none))) else none))) else none) else none)))))) else none))
    else if lab = 4 then (kf_62 n dp e 5 I L i1 0 0)
    else if lab = 5 then (if 400 ≤ i3 then (kf_62 n dp e 6 I L i1 i2 i3) else (if 1 ≤ dp then ((kf_41 n (dp - 1) e 0 I L 0 11).bind (fun ⟨x0_14, I0_14, L0_14⟩ => (if x0_14 = 0 then (kf_62 n dp e 6 I0_14 L0_14 i1 i2 i3) else (if i2 = 0 then (if 1 ≤ dp then ((kf_37 n (dp - 1) e 0 I0_14 L0_14 0).bind (fun ⟨I1_31, L1_31⟩ => (if -2147483648 ≤ i3 + 1 ∧ i3 + 1 ≤ 2147483647 then (kf_62 n dp e 5 I1_31 L1_31 i1 1 (i3 + 1)) else none))) else none) else (if 1 ≤ dp then ((kf_37 n (dp - 1) e 0 I0_14 L0_14 0).bind (fun ⟨I1_31, L1_31⟩ => (if -2147483648 ≤ i3 + 1 ∧ i3 + 1 ≤ 2147483647 then (kf_62 n dp e 5 I1_31 L1_31 i1 0 (i3 + 1)) else none))) else none))))) else none))
    else if lab = 6 then (if 1 ≤ dp then ((kf_59 n (dp - 1) e 0 I L 40).bind (fun ⟨x0_43, I0_43, L0_43⟩ => (if x0_43 = 0 then (if 1 ≤ dp then ((kf_66 n (dp - 1) e 0 I0_43 L0_43 i1 0).bind (fun ⟨x1_59, I1_59, L1_59⟩ => (if x1_59 = 0 then (if (x1_59 = 0) ∨ (x1_59 = 1) then (some ((x1_59 : Int), I1_59, L1_59)) else none) else (if i2 = 0 then (if (x1_59 = 0) ∨ (x1_59 = 1) then (some ((x1_59 : Int), I1_59, L1_59)) else none) else ((e.2.2 104 1).bind (fun b_72 => (if (b_72 < e.1) ∧ ((e.2.1 b_72).1 = 10) then (if 1 ≤ dp then ((kf_61 n (dp - 1) e 0 I1_59 L1_59 9 0 b_72).bind (fun ⟨x2_78, I2_78, L2_78⟩ => (if (x1_59 = 0) ∨ (x1_59 = 1) then (some ((x1_59 : Int), I2_78, L2_78)) else none))) else none) else none))))))) else none) else (if 1 ≤ dp then ((kf_62 n (dp - 1) e 7 I0_43 L0_43 i1 0 0).bind (fun ⟨x1_51, I1_51, L1_51⟩ => (if x1_51 = 0 then (if (x1_51 = 0) ∨ (x1_51 = 1) then (some ((x1_51 : Int), I1_51, L1_51)) else none) else (if i2 = 0 then (if (x1_51 = 0) ∨ (x1_51 = 1) then (some ((x1_51 : Int), I1_51, L1_51)) else none) else ((e.2.2 104 1).bind (fun b_72 => (if (b_72 < e.1) ∧ ((e.2.1 b_72).1 = 10) then (if 1 ≤ dp then ((kf_61 n (dp - 1) e 0 I1_51 L1_51 9 0 b_72).bind (fun ⟨x2_78, I2_78, L2_78⟩ => (if (x1_51 = 0) ∨ (x1_51 = 1) then (some ((x1_51 : Int), I2_78, L2_78)) else none))) else none) else none))))))) else none)))) else none)
    else if lab = 7 then (if i1 < 8 then (if 1 ≤ dp then ((kf_37 n (dp - 1) e 0 I L 0).bind (fun ⟨I0_9, L0_9⟩ => (if 1 ≤ dp then (if -2147483648 ≤ i1 + 1 ∧ i1 + 1 ≤ 2147483647 then ((kf_62 n (dp - 1) e 0 I0_9 L0_9 (i1 + 1) 0 0).bind (fun ⟨x1_16, I1_16, L1_16⟩ => (if x1_16 = 0 then (some ((0 : Int), I1_16, L1_16)) else (if 1 ≤ dp then ((kf_59 n (dp - 1) e 0 I1_16 L1_16 41).bind (fun ⟨x2_25, I2_25, L2_25⟩ => (if x2_25 = 0 then (some ((0 : Int), I2_25, L2_25)) else (if 1 ≤ dp then ((kf_37 n (dp - 1) e 0 I2_25 L2_25 0).bind (fun ⟨I3_34, L3_34⟩ => (some ((1 : Int), I3_34, L3_34)))) else none)))) else none)))) else none) else none))) else none) else (some ((0 : Int), I, L)))
    else none
set_option maxRecDepth 100000 in
theorem ke_62_0 (n : Nat) (dp : Nat) (e : EN) (I : JI) (L : JI) (i1 : Int) (i2 : Int) (i3 : Int) : kf_62 (n + 1) dp e 0 I L i1 i2 i3 = (if 1 ≤ dp then ((kf_62 n (dp - 1) e 2 I L i1 0 0).bind (fun ⟨x0_2, I0_2, L0_2⟩ => (if x0_2 = 0 then (some ((0 : Int), I0_2, L0_2)) else (kf_62 n dp e 1 I0_2 L0_2 i1 0 0)))) else none) := by rw [kf_62.eq_2, if_pos (show (0 : Nat) = 0 from rfl)]
set_option maxRecDepth 100000 in
theorem ke_62_1 (n : Nat) (dp : Nat) (e : EN) (I : JI) (L : JI) (i1 : Int) (i2 : Int) (i3 : Int) : kf_62 (n + 1) dp e 1 I L i1 i2 i3 = (if 400 ≤ i2 then (some ((1 : Int), I, L)) else (if 1 ≤ dp then ((kf_41 n (dp - 1) e 0 I L 0 12).bind (fun ⟨x0_22, I0_22, L0_22⟩ => (if x0_22 = 0 then (some ((1 : Int), I0_22, L0_22)) else ((e.2.2 104 1).bind (fun b_29 => (if (b_29 < e.1) ∧ ((e.2.1 b_29).1 = 10) then (if 1 ≤ dp then ((kf_61 n (dp - 1) e 0 I0_22 L0_22 10 0 b_29).bind (fun ⟨x1_35, I1_35, L1_35⟩ => (if 1 ≤ dp then ((kf_37 n (dp - 1) e 0 I1_35 L1_35 0).bind (fun ⟨I2_40, L2_40⟩ => (if 1 ≤ dp then ((kf_62 n (dp - 1) e 2 I2_40 L2_40 i1 0 0).bind (fun ⟨x3_45, I3_45, L3_45⟩ => (if x3_45 = 0 then (some ((0 : Int), I3_45, L3_45)) else ((e.2.2 104 1).bind (fun b_54 => (if (b_54 < e.1) ∧ ((e.2.1 b_54).1 = 10) then ((e.2.2 b_54 9).bind (fun b_57 => ((e.2.2 104 1).bind (fun b_62 => (if (b_62 < e.1) ∧ ((e.2.1 b_62).1 = 10) then (if ((b_57 < e.1) ∧ (((e.2.1 b_57).1 = 13) ∧ ((e.2.1 b_57).2 < (2 ^ 31)))) ∧ (0 ≤ x1_35 ∧ x1_35 < (((e.2.1 b_57).2 : Nat) : Int)) then (stI (w2 I3_45 b_57 x1_35 (I3_45 b_62 12)) (fun I_68 => (if -2147483648 ≤ i2 + 1 ∧ i2 + 1 ≤ 2147483647 then (kf_62 n dp e 1 I_68 L3_45 i1 (i2 + 1) 0) else none))) else none) else none))))) else none)))))) else none))) else none))) else none) else none)))))) else none)) := by rw [kf_62.eq_2, if_neg (show ¬ ((1 : Nat) = 0) by decide), if_pos (show (1 : Nat) = 1 from rfl)]
set_option maxRecDepth 100000 in
theorem ke_62_2 (n : Nat) (dp : Nat) (e : EN) (I : JI) (L : JI) (i1 : Int) (i2 : Int) (i3 : Int) : kf_62 (n + 1) dp e 2 I L i1 i2 i3 = (if 1 ≤ dp then ((kf_62 n (dp - 1) e 4 I L i1 0 0).bind (fun ⟨x0_2, I0_2, L0_2⟩ => (if x0_2 = 0 then (some ((0 : Int), I0_2, L0_2)) else (kf_62 n dp e 3 I0_2 L0_2 i1 0 0)))) else none) := by rw [kf_62.eq_2, if_neg (show ¬ ((2 : Nat) = 0) by decide), if_neg (show ¬ ((2 : Nat) = 1) by decide), if_pos (show (2 : Nat) = 2 from rfl)]
set_option maxRecDepth 100000 in
theorem ke_62_3 (n : Nat) (dp : Nat) (e : EN) (I : JI) (L : JI) (i1 : Int) (i2 : Int) (i3 : Int) : kf_62 (n + 1) dp e 3 I L i1 i2 i3 = (if 400 ≤ i2 then (some ((1 : Int), I, L)) else (if 1 ≤ dp then ((kf_41 n (dp - 1) e 0 I L 0 2).bind (fun ⟨x0_22, I0_22, L0_22⟩ => (if x0_22 = 0 then (some ((1 : Int), I0_22, L0_22)) else ((e.2.2 104 1).bind (fun b_29 => (if (b_29 < e.1) ∧ ((e.2.1 b_29).1 = 10) then (if 1 ≤ dp then ((kf_61 n (dp - 1) e 0 I0_22 L0_22 11 0 b_29).bind (fun ⟨x1_35, I1_35, L1_35⟩ => (if 1 ≤ dp then ((kf_37 n (dp - 1) e 0 I1_35 L1_35 0).bind (fun ⟨I2_40, L2_40⟩ => (if 1 ≤ dp then ((kf_62 n (dp - 1) e 4 I2_40 L2_40 i1 0 0).bind (fun ⟨x3_45, I3_45, L3_45⟩ => (if x3_45 = 0 then (some ((0 : Int), I3_45, L3_45)) else ((e.2.2 104 1).bind (fun b_54 => (if (b_54 < e.1) ∧ ((e.2.1 b_54).1 = 10) then ((e.2.2 b_54 9).bind (fun b_57 => ((e.2.2 104 1).bind (fun b_62 => (if (b_62 < e.1) ∧ ((e.2.1 b_62).1 = 10) then (if ((b_57 < e.1) ∧ (((e.2.1 b_57).1 = 13) ∧ ((e.2.1 b_57).2 < (2 ^ 31)))) ∧ (0 ≤ x1_35 ∧ x1_35 < (((e.2.1 b_57).2 : Nat) : Int)) then (stI (w2 I3_45 b_57 x1_35 (I3_45 b_62 12)) (fun I_68 => (if -2147483648 ≤ i2 + 1 ∧ i2 + 1 ≤ 2147483647 then (kf_62 n dp e 3 I_68 L3_45 i1 (i2 + 1) 0) else none))) else none) else none))))) else none)))))) else none))) else none))) else none) else none)))))) else none)) := by rw [kf_62.eq_2, if_neg (show ¬ ((3 : Nat) = 0) by decide), if_neg (show ¬ ((3 : Nat) = 1) by decide), if_neg (show ¬ ((3 : Nat) = 2) by decide), if_pos (show (3 : Nat) = 3 from rfl)]
set_option maxRecDepth 100000 in
theorem ke_62_4 (n : Nat) (dp : Nat) (e : EN) (I : JI) (L : JI) (i1 : Int) (i2 : Int) (i3 : Int) : kf_62 (n + 1) dp e 4 I L i1 i2 i3 = (kf_62 n dp e 5 I L i1 0 0) := by rw [kf_62.eq_2, if_neg (show ¬ ((4 : Nat) = 0) by decide), if_neg (show ¬ ((4 : Nat) = 1) by decide), if_neg (show ¬ ((4 : Nat) = 2) by decide), if_neg (show ¬ ((4 : Nat) = 3) by decide), if_pos (show (4 : Nat) = 4 from rfl)]
set_option maxRecDepth 100000 in
theorem ke_62_5 (n : Nat) (dp : Nat) (e : EN) (I : JI) (L : JI) (i1 : Int) (i2 : Int) (i3 : Int) : kf_62 (n + 1) dp e 5 I L i1 i2 i3 = (if 400 ≤ i3 then (kf_62 n dp e 6 I L i1 i2 i3) else (if 1 ≤ dp then ((kf_41 n (dp - 1) e 0 I L 0 11).bind (fun ⟨x0_14, I0_14, L0_14⟩ => (if x0_14 = 0 then (kf_62 n dp e 6 I0_14 L0_14 i1 i2 i3) else (if i2 = 0 then (if 1 ≤ dp then ((kf_37 n (dp - 1) e 0 I0_14 L0_14 0).bind (fun ⟨I1_31, L1_31⟩ => (if -2147483648 ≤ i3 + 1 ∧ i3 + 1 ≤ 2147483647 then (kf_62 n dp e 5 I1_31 L1_31 i1 1 (i3 + 1)) else none))) else none) else (if 1 ≤ dp then ((kf_37 n (dp - 1) e 0 I0_14 L0_14 0).bind (fun ⟨I1_31, L1_31⟩ => (if -2147483648 ≤ i3 + 1 ∧ i3 + 1 ≤ 2147483647 then (kf_62 n dp e 5 I1_31 L1_31 i1 0 (i3 + 1)) else none))) else none))))) else none)) := by rw [kf_62.eq_2, if_neg (show ¬ ((5 : Nat) = 0) by decide), if_neg (show ¬ ((5 : Nat) = 1) by decide), if_neg (show ¬ ((5 : Nat) = 2) by decide), if_neg (show ¬ ((5 : Nat) = 3) by decide), if_neg (show ¬ ((5 : Nat) = 4) by decide), if_pos (show (5 : Nat) = 5 from rfl)]
set_option maxRecDepth 100000 in
theorem ke_62_6 (n : Nat) (dp : Nat) (e : EN) (I : JI) (L : JI) (i1 : Int) (i2 : Int) (i3 : Int) : kf_62 (n + 1) dp e 6 I L i1 i2 i3 = (if 1 ≤ dp then ((kf_59 n (dp - 1) e 0 I L 40).bind (fun ⟨x0_43, I0_43, L0_43⟩ => (if x0_43 = 0 then (if 1 ≤ dp then ((kf_66 n (dp - 1) e 0 I0_43 L0_43 i1 0).bind (fun ⟨x1_59, I1_59, L1_59⟩ => (if x1_59 = 0 then (if (x1_59 = 0) ∨ (x1_59 = 1) then (some ((x1_59 : Int), I1_59, L1_59)) else none) else (if i2 = 0 then (if (x1_59 = 0) ∨ (x1_59 = 1) then (some ((x1_59 : Int), I1_59, L1_59)) else none) else ((e.2.2 104 1).bind (fun b_72 => (if (b_72 < e.1) ∧ ((e.2.1 b_72).1 = 10) then (if 1 ≤ dp then ((kf_61 n (dp - 1) e 0 I1_59 L1_59 9 0 b_72).bind (fun ⟨x2_78, I2_78, L2_78⟩ => (if (x1_59 = 0) ∨ (x1_59 = 1) then (some ((x1_59 : Int), I2_78, L2_78)) else none))) else none) else none))))))) else none) else (if 1 ≤ dp then ((kf_62 n (dp - 1) e 7 I0_43 L0_43 i1 0 0).bind (fun ⟨x1_51, I1_51, L1_51⟩ => (if x1_51 = 0 then (if (x1_51 = 0) ∨ (x1_51 = 1) then (some ((x1_51 : Int), I1_51, L1_51)) else none) else (if i2 = 0 then (if (x1_51 = 0) ∨ (x1_51 = 1) then (some ((x1_51 : Int), I1_51, L1_51)) else none) else ((e.2.2 104 1).bind (fun b_72 => (if (b_72 < e.1) ∧ ((e.2.1 b_72).1 = 10) then (if 1 ≤ dp then ((kf_61 n (dp - 1) e 0 I1_51 L1_51 9 0 b_72).bind (fun ⟨x2_78, I2_78, L2_78⟩ => (if (x1_51 = 0) ∨ (x1_51 = 1) then (some ((x1_51 : Int), I2_78, L2_78)) else none))) else none) else none))))))) else none)))) else none) := by rw [kf_62.eq_2, if_neg (show ¬ ((6 : Nat) = 0) by decide), if_neg (show ¬ ((6 : Nat) = 1) by decide), if_neg (show ¬ ((6 : Nat) = 2) by decide), if_neg (show ¬ ((6 : Nat) = 3) by decide), if_neg (show ¬ ((6 : Nat) = 4) by decide), if_neg (show ¬ ((6 : Nat) = 5) by decide), if_pos (show (6 : Nat) = 6 from rfl)]
set_option maxRecDepth 100000 in
theorem ke_62_7 (n : Nat) (dp : Nat) (e : EN) (I : JI) (L : JI) (i1 : Int) (i2 : Int) (i3 : Int) : kf_62 (n + 1) dp e 7 I L i1 i2 i3 = (if i1 < 8 then (if 1 ≤ dp then ((kf_37 n (dp - 1) e 0 I L 0).bind (fun ⟨I0_9, L0_9⟩ => (if 1 ≤ dp then (if -2147483648 ≤ i1 + 1 ∧ i1 + 1 ≤ 2147483647 then ((kf_62 n (dp - 1) e 0 I0_9 L0_9 (i1 + 1) 0 0).bind (fun ⟨x1_16, I1_16, L1_16⟩ => (if x1_16 = 0 then (some ((0 : Int), I1_16, L1_16)) else (if 1 ≤ dp then ((kf_59 n (dp - 1) e 0 I1_16 L1_16 41).bind (fun ⟨x2_25, I2_25, L2_25⟩ => (if x2_25 = 0 then (some ((0 : Int), I2_25, L2_25)) else (if 1 ≤ dp then ((kf_37 n (dp - 1) e 0 I2_25 L2_25 0).bind (fun ⟨I3_34, L3_34⟩ => (some ((1 : Int), I3_34, L3_34)))) else none)))) else none)))) else none) else none))) else none) else (some ((0 : Int), I, L))) := by rw [kf_62.eq_2, if_neg (show ¬ ((7 : Nat) = 0) by decide), if_neg (show ¬ ((7 : Nat) = 1) by decide), if_neg (show ¬ ((7 : Nat) = 2) by decide), if_neg (show ¬ ((7 : Nat) = 3) by decide), if_neg (show ¬ ((7 : Nat) = 4) by decide), if_neg (show ¬ ((7 : Nat) = 5) by decide), if_neg (show ¬ ((7 : Nat) = 6) by decide), if_pos (show (7 : Nat) = 7 from rfl)]
set_option maxHeartbeats 8000000 in
set_option maxRecDepth 100000 in
theorem ks_62 : ∀ (n : Nat) (dp : Nat) (e : EN) (lab : Nat) (I : Nat → Nat → Int32) (I' : JI) (L : Nat → Nat → Int64) (L' : JI) (i1 : Int32) (i1' : Int) (i2 : Int32) (i2' : Int) (i3 : Int32) (i3' : Int), Rli I I' → Rll L L' → Ui i1 i1' → Ui i2 i2' → Ui i3 i3' → Sim R3 (g_62 n dp e lab I L i1 i2 i3) (kf_62 n dp e lab I' L' i1' i2' i3') := by
  intro n
  induction n with
  | zero => intros; rw [kf_62.eq_1]; exact Sn
  | succ n ih =>
    intro dp e lab I I' L L' i1 i1' i2 i2' i3 i3' u_I u_L u_i1 u_i2 u_i3
    rw [g_62.eq_2, kf_62.eq_2]
    refine Sc Iff.rfl (fun _ => ?_) (fun _ => ?_)
    · refine Sc Iff.rfl (fun c1 => ?_) (fun _ => Sn)
      refine Sb3 (ih (dp - 1) e 2 _ _ _ _ _ _ _ _ _ _ u_I u_L u_i1 (rfl : Ui 0 0) (rfl : Ui 0 0)) (fun x0_2 x0_2' I0_2 I0_2' L0_2 L0_2' u_x0_2 u_I0_2 u_L0_2 => ?_)
      refine Sc (eq_up u_x0_2 (rfl : Ui 0 0)) (fun c2 => ?_) (fun c2 => ?_)
      · exact Sr ⟨(rfl : Ui (0) (0)), u_I0_2, u_L0_2⟩
      · exact (ih dp e 1 _ _ _ _ _ _ _ _ _ _ u_I0_2 u_L0_2 u_i1 (rfl : Ui (0) (0)) (rfl : Ui 0 0))
    refine Sc Iff.rfl (fun _ => ?_) (fun _ => ?_)
    · refine Sc (le_up (rfl : Ui (400) (400)) u_i2) (fun c1 => ?_) (fun c1 => ?_)
      · exact Sr ⟨(rfl : Ui (1) (1)), u_I, u_L⟩
      · refine Sc Iff.rfl (fun c2 => ?_) (fun _ => Sn)
        refine Sb3 (ks_41 n (dp - 1) e 0 _ _ _ _ _ _ 12 u_I u_L (rfl : Ui 0 0)) (fun x0_22 x0_22' I0_22 I0_22' L0_22 L0_22' u_x0_22 u_I0_22 u_L0_22 => ?_)
        refine Sc (eq_up u_x0_22 (rfl : Ui 0 0)) (fun c3 => ?_) (fun c3 => ?_)
        · exact Sr ⟨(rfl : Ui (1) (1)), u_I0_22, u_L0_22⟩
        · refine SbE rfl (fun b_29 => ?_)
          refine Sc Iff.rfl (fun c4 => ?_) (fun _ => Sn)
          refine Sc Iff.rfl (fun c5 => ?_) (fun _ => Sn)
          refine Sb3 (ks_61 n (dp - 1) e 0 _ _ _ _ _ _ _ _ b_29 u_I0_22 u_L0_22 (rfl : Ui (10) (10)) (rfl : Ui (0) (0))) (fun x1_35 x1_35' I1_35 I1_35' L1_35 L1_35' u_x1_35 u_I1_35 u_L1_35 => ?_)
          refine Sc Iff.rfl (fun c6 => ?_) (fun _ => Sn)
          refine Sb2 (ks_37 n (dp - 1) e 0 _ _ _ _ _ _ u_I1_35 u_L1_35 (rfl : Ui 0 0)) (fun I2_40 I2_40' L2_40 L2_40' u_I2_40 u_L2_40 => ?_)
          refine Sc Iff.rfl (fun c7 => ?_) (fun _ => Sn)
          refine Sb3 (ih (dp - 1) e 2 _ _ _ _ _ _ _ _ _ _ u_I2_40 u_L2_40 u_i1 (rfl : Ui 0 0) (rfl : Ui 0 0)) (fun x3_45 x3_45' I3_45 I3_45' L3_45 L3_45' u_x3_45 u_I3_45 u_L3_45 => ?_)
          refine Sc (eq_up u_x3_45 (rfl : Ui 0 0)) (fun c8 => ?_) (fun c8 => ?_)
          · exact Sr ⟨(rfl : Ui (0) (0)), u_I3_45, u_L3_45⟩
          · refine SbE rfl (fun b_54 => ?_)
            refine Sc Iff.rfl (fun c9 => ?_) (fun _ => Sn)
            refine SbE rfl (fun b_57 => ?_)
            refine SbE rfl (fun b_62 => ?_)
            refine Sc Iff.rfl (fun c10 => ?_) (fun _ => Sn)
            refine Sc (and_congr Iff.rfl (ix_up u_x1_35)) (fun c11 => ?_) (fun _ => Sn)
            refine SsJ (ri_up u_I3_45 (kc_up u_x1_35 c11.2.1) (u_I3_45 b_62 12)) (fun I_68 I_68' u_I_68 => ?_)
            refine Sg (fun g12 => ?_)
            exact (ih dp e 1 _ _ _ _ _ _ _ _ _ _ u_I_68 u_L3_45 u_i1 (ui_add u_i2 (rfl : Ui (Int32.ofInt (1)) (1)) g12) (rfl : Ui 0 0))
    refine Sc Iff.rfl (fun _ => ?_) (fun _ => ?_)
    · refine Sc Iff.rfl (fun c1 => ?_) (fun _ => Sn)
      refine Sb3 (ih (dp - 1) e 4 _ _ _ _ _ _ _ _ _ _ u_I u_L u_i1 (rfl : Ui 0 0) (rfl : Ui 0 0)) (fun x0_2 x0_2' I0_2 I0_2' L0_2 L0_2' u_x0_2 u_I0_2 u_L0_2 => ?_)
      refine Sc (eq_up u_x0_2 (rfl : Ui 0 0)) (fun c2 => ?_) (fun c2 => ?_)
      · exact Sr ⟨(rfl : Ui (0) (0)), u_I0_2, u_L0_2⟩
      · exact (ih dp e 3 _ _ _ _ _ _ _ _ _ _ u_I0_2 u_L0_2 u_i1 (rfl : Ui (0) (0)) (rfl : Ui 0 0))
    refine Sc Iff.rfl (fun _ => ?_) (fun _ => ?_)
    · refine Sc (le_up (rfl : Ui (400) (400)) u_i2) (fun c1 => ?_) (fun c1 => ?_)
      · exact Sr ⟨(rfl : Ui (1) (1)), u_I, u_L⟩
      · refine Sc Iff.rfl (fun c2 => ?_) (fun _ => Sn)
        refine Sb3 (ks_41 n (dp - 1) e 0 _ _ _ _ _ _ 2 u_I u_L (rfl : Ui 0 0)) (fun x0_22 x0_22' I0_22 I0_22' L0_22 L0_22' u_x0_22 u_I0_22 u_L0_22 => ?_)
        refine Sc (eq_up u_x0_22 (rfl : Ui 0 0)) (fun c3 => ?_) (fun c3 => ?_)
        · exact Sr ⟨(rfl : Ui (1) (1)), u_I0_22, u_L0_22⟩
        · refine SbE rfl (fun b_29 => ?_)
          refine Sc Iff.rfl (fun c4 => ?_) (fun _ => Sn)
          refine Sc Iff.rfl (fun c5 => ?_) (fun _ => Sn)
          refine Sb3 (ks_61 n (dp - 1) e 0 _ _ _ _ _ _ _ _ b_29 u_I0_22 u_L0_22 (rfl : Ui (11) (11)) (rfl : Ui (0) (0))) (fun x1_35 x1_35' I1_35 I1_35' L1_35 L1_35' u_x1_35 u_I1_35 u_L1_35 => ?_)
          refine Sc Iff.rfl (fun c6 => ?_) (fun _ => Sn)
          refine Sb2 (ks_37 n (dp - 1) e 0 _ _ _ _ _ _ u_I1_35 u_L1_35 (rfl : Ui 0 0)) (fun I2_40 I2_40' L2_40 L2_40' u_I2_40 u_L2_40 => ?_)
          refine Sc Iff.rfl (fun c7 => ?_) (fun _ => Sn)
          refine Sb3 (ih (dp - 1) e 4 _ _ _ _ _ _ _ _ _ _ u_I2_40 u_L2_40 u_i1 (rfl : Ui 0 0) (rfl : Ui 0 0)) (fun x3_45 x3_45' I3_45 I3_45' L3_45 L3_45' u_x3_45 u_I3_45 u_L3_45 => ?_)
          refine Sc (eq_up u_x3_45 (rfl : Ui 0 0)) (fun c8 => ?_) (fun c8 => ?_)
          · exact Sr ⟨(rfl : Ui (0) (0)), u_I3_45, u_L3_45⟩
          · refine SbE rfl (fun b_54 => ?_)
            refine Sc Iff.rfl (fun c9 => ?_) (fun _ => Sn)
            refine SbE rfl (fun b_57 => ?_)
            refine SbE rfl (fun b_62 => ?_)
            refine Sc Iff.rfl (fun c10 => ?_) (fun _ => Sn)
            refine Sc (and_congr Iff.rfl (ix_up u_x1_35)) (fun c11 => ?_) (fun _ => Sn)
            refine SsJ (ri_up u_I3_45 (kc_up u_x1_35 c11.2.1) (u_I3_45 b_62 12)) (fun I_68 I_68' u_I_68 => ?_)
            refine Sg (fun g12 => ?_)
            exact (ih dp e 3 _ _ _ _ _ _ _ _ _ _ u_I_68 u_L3_45 u_i1 (ui_add u_i2 (rfl : Ui (Int32.ofInt (1)) (1)) g12) (rfl : Ui 0 0))
    refine Sc Iff.rfl (fun _ => ?_) (fun _ => ?_)
    · exact (ih dp e 5 _ _ _ _ _ _ _ _ _ _ u_I u_L u_i1 (rfl : Ui (0) (0)) (rfl : Ui (0) (0)))
    refine Sc Iff.rfl (fun _ => ?_) (fun _ => ?_)
    · refine Sc (le_up (rfl : Ui (400) (400)) u_i3) (fun c1 => ?_) (fun c1 => ?_)
      · exact (ih dp e 6 _ _ _ _ _ _ _ _ _ _ u_I u_L u_i1 u_i2 u_i3)
      · refine Sc Iff.rfl (fun c2 => ?_) (fun _ => Sn)
        refine Sb3 (ks_41 n (dp - 1) e 0 _ _ _ _ _ _ 11 u_I u_L (rfl : Ui 0 0)) (fun x0_14 x0_14' I0_14 I0_14' L0_14 L0_14' u_x0_14 u_I0_14 u_L0_14 => ?_)
        refine Sc (eq_up u_x0_14 (rfl : Ui 0 0)) (fun c3 => ?_) (fun c3 => ?_)
        · exact (ih dp e 6 _ _ _ _ _ _ _ _ _ _ u_I0_14 u_L0_14 u_i1 u_i2 u_i3)
        · refine Sc (eq_up u_i2 (rfl : Ui 0 0)) (fun c4 => ?_) (fun c4 => ?_)
          · refine Sc Iff.rfl (fun c5 => ?_) (fun _ => Sn)
            refine Sb2 (ks_37 n (dp - 1) e 0 _ _ _ _ _ _ u_I0_14 u_L0_14 (rfl : Ui 0 0)) (fun I1_31 I1_31' L1_31 L1_31' u_I1_31 u_L1_31 => ?_)
            refine Sg (fun g6 => ?_)
            exact (ih dp e 5 _ _ _ _ _ _ _ _ _ _ u_I1_31 u_L1_31 u_i1 (rfl : Ui (1) (1)) (ui_add u_i3 (rfl : Ui (Int32.ofInt (1)) (1)) g6))
          · refine Sc Iff.rfl (fun c7 => ?_) (fun _ => Sn)
            refine Sb2 (ks_37 n (dp - 1) e 0 _ _ _ _ _ _ u_I0_14 u_L0_14 (rfl : Ui 0 0)) (fun I1_31 I1_31' L1_31 L1_31' u_I1_31 u_L1_31 => ?_)
            refine Sg (fun g8 => ?_)
            exact (ih dp e 5 _ _ _ _ _ _ _ _ _ _ u_I1_31 u_L1_31 u_i1 (rfl : Ui (0) (0)) (ui_add u_i3 (rfl : Ui (Int32.ofInt (1)) (1)) g8))
    refine Sc Iff.rfl (fun _ => ?_) (fun _ => ?_)
    · refine Sc Iff.rfl (fun c1 => ?_) (fun _ => Sn)
      refine Sb3 (ks_59 n (dp - 1) e 0 _ _ _ _ _ _ u_I u_L (rfl : Ui (40) (40))) (fun x0_43 x0_43' I0_43 I0_43' L0_43 L0_43' u_x0_43 u_I0_43 u_L0_43 => ?_)
      refine Sc (eq_up u_x0_43 (rfl : Ui 0 0)) (fun c2 => ?_) (fun c2 => ?_)
      · refine Sc Iff.rfl (fun c3 => ?_) (fun _ => Sn)
        refine Sb3 (ks_66 n (dp - 1) e 0 _ _ _ _ _ _ _ _ u_I0_43 u_L0_43 u_i1 (rfl : Ui 0 0)) (fun x1_59 x1_59' I1_59 I1_59' L1_59 L1_59' u_x1_59 u_I1_59 u_L1_59 => ?_)
        refine Sc (eq_up u_x1_59 (rfl : Ui 0 0)) (fun c4 => ?_) (fun c4 => ?_)
        · refine Sc (or_congr (eq_up u_x1_59 (rfl : Ui 0 0)) (eq_up u_x1_59 (rfl : Ui 1 1))) (fun c5 => ?_) (fun _ => Sn)
          exact Sr ⟨u_x1_59, u_I1_59, u_L1_59⟩
        · refine Sc (eq_up u_i2 (rfl : Ui 0 0)) (fun c6 => ?_) (fun c6 => ?_)
          · refine Sc (or_congr (eq_up u_x1_59 (rfl : Ui 0 0)) (eq_up u_x1_59 (rfl : Ui 1 1))) (fun c7 => ?_) (fun _ => Sn)
            exact Sr ⟨u_x1_59, u_I1_59, u_L1_59⟩
          · refine SbE rfl (fun b_72 => ?_)
            refine Sc Iff.rfl (fun c8 => ?_) (fun _ => Sn)
            refine Sc Iff.rfl (fun c9 => ?_) (fun _ => Sn)
            refine Sb3 (ks_61 n (dp - 1) e 0 _ _ _ _ _ _ _ _ b_72 u_I1_59 u_L1_59 (rfl : Ui (9) (9)) (rfl : Ui (0) (0))) (fun x2_78 x2_78' I2_78 I2_78' L2_78 L2_78' u_x2_78 u_I2_78 u_L2_78 => ?_)
            refine Sc (or_congr (eq_up u_x1_59 (rfl : Ui 0 0)) (eq_up u_x1_59 (rfl : Ui 1 1))) (fun c10 => ?_) (fun _ => Sn)
            exact Sr ⟨u_x1_59, u_I2_78, u_L2_78⟩
      · refine Sc Iff.rfl (fun c11 => ?_) (fun _ => Sn)
        refine Sb3 (ih (dp - 1) e 7 _ _ _ _ _ _ _ _ _ _ u_I0_43 u_L0_43 u_i1 (rfl : Ui 0 0) (rfl : Ui 0 0)) (fun x1_51 x1_51' I1_51 I1_51' L1_51 L1_51' u_x1_51 u_I1_51 u_L1_51 => ?_)
        refine Sc (eq_up u_x1_51 (rfl : Ui 0 0)) (fun c12 => ?_) (fun c12 => ?_)
        · refine Sc (or_congr (eq_up u_x1_51 (rfl : Ui 0 0)) (eq_up u_x1_51 (rfl : Ui 1 1))) (fun c13 => ?_) (fun _ => Sn)
          exact Sr ⟨u_x1_51, u_I1_51, u_L1_51⟩
        · refine Sc (eq_up u_i2 (rfl : Ui 0 0)) (fun c14 => ?_) (fun c14 => ?_)
          · refine Sc (or_congr (eq_up u_x1_51 (rfl : Ui 0 0)) (eq_up u_x1_51 (rfl : Ui 1 1))) (fun c15 => ?_) (fun _ => Sn)
            exact Sr ⟨u_x1_51, u_I1_51, u_L1_51⟩
          · refine SbE rfl (fun b_72 => ?_)
            refine Sc Iff.rfl (fun c16 => ?_) (fun _ => Sn)
            refine Sc Iff.rfl (fun c17 => ?_) (fun _ => Sn)
            refine Sb3 (ks_61 n (dp - 1) e 0 _ _ _ _ _ _ _ _ b_72 u_I1_51 u_L1_51 (rfl : Ui (9) (9)) (rfl : Ui (0) (0))) (fun x2_78 x2_78' I2_78 I2_78' L2_78 L2_78' u_x2_78 u_I2_78 u_L2_78 => ?_)
            refine Sc (or_congr (eq_up u_x1_51 (rfl : Ui 0 0)) (eq_up u_x1_51 (rfl : Ui 1 1))) (fun c18 => ?_) (fun _ => Sn)
            exact Sr ⟨u_x1_51, u_I2_78, u_L2_78⟩
    refine Sc Iff.rfl (fun _ => ?_) (fun _ => ?_)
    · refine Sc (lt_up u_i1 (rfl : Ui (8) (8))) (fun c1 => ?_) (fun c1 => ?_)
      · refine Sc Iff.rfl (fun c2 => ?_) (fun _ => Sn)
        refine Sb2 (ks_37 n (dp - 1) e 0 _ _ _ _ _ _ u_I u_L (rfl : Ui 0 0)) (fun I0_9 I0_9' L0_9 L0_9' u_I0_9 u_L0_9 => ?_)
        refine Sc Iff.rfl (fun c3 => ?_) (fun _ => Sn)
        refine Sg (fun g4 => ?_)
        refine Sb3 (ih (dp - 1) e 0 _ _ _ _ _ _ _ _ _ _ u_I0_9 u_L0_9 (ui_add u_i1 (rfl : Ui (1) (1)) g4) (rfl : Ui 0 0) (rfl : Ui 0 0)) (fun x1_16 x1_16' I1_16 I1_16' L1_16 L1_16' u_x1_16 u_I1_16 u_L1_16 => ?_)
        refine Sc (eq_up u_x1_16 (rfl : Ui 0 0)) (fun c5 => ?_) (fun c5 => ?_)
        · exact Sr ⟨(rfl : Ui (0) (0)), u_I1_16, u_L1_16⟩
        · refine Sc Iff.rfl (fun c6 => ?_) (fun _ => Sn)
          refine Sb3 (ks_59 n (dp - 1) e 0 _ _ _ _ _ _ u_I1_16 u_L1_16 (rfl : Ui (41) (41))) (fun x2_25 x2_25' I2_25 I2_25' L2_25 L2_25' u_x2_25 u_I2_25 u_L2_25 => ?_)
          refine Sc (eq_up u_x2_25 (rfl : Ui 0 0)) (fun c7 => ?_) (fun c7 => ?_)
          · exact Sr ⟨(rfl : Ui (0) (0)), u_I2_25, u_L2_25⟩
          · refine Sc Iff.rfl (fun c8 => ?_) (fun _ => Sn)
            refine Sb2 (ks_37 n (dp - 1) e 0 _ _ _ _ _ _ u_I2_25 u_L2_25 (rfl : Ui 0 0)) (fun I3_34 I3_34' L3_34 L3_34' u_I3_34 u_L3_34 => ?_)
            exact Sr ⟨(rfl : Ui (1) (1)), u_I3_34, u_L3_34⟩
      · exact Sr ⟨(rfl : Ui (0) (0)), u_I, u_L⟩
    exact Sn
set_option maxHeartbeats 4000000 in
set_option maxRecDepth 100000 in
def kf_40 : Nat → Nat → EN → Nat → JI → JI → Int → Int → Option (Int × JI × JI)
  | 0, _, _, _, _, _, _, _ => none
  | n + 1, dp, e, lab, I, L, i1, i2 =>
    if lab = 0 then ((e.2.2 104 1).bind (fun b_1 => (if (b_1 < e.1) ∧ ((e.2.1 b_1).1 = 10) then ((e.2.2 b_1 1).bind (fun b_4 => ((e.2.2 104 1).bind (fun b_9 => (if (b_9 < e.1) ∧ ((e.2.1 b_9).1 = 10) then (if ((b_4 < e.1) ∧ (((e.2.1 b_4).1 = 13) ∧ ((e.2.1 b_4).2 < (2 ^ 31)))) ∧ (0 ≤ i1 ∧ i1 < (((e.2.1 b_4).2 : Nat) : Int)) then (stI (w2 I b_4 i1 (I b_9 12)) (fun I_15 => (if 1 ≤ dp then ((kf_41 n (dp - 1) e 0 I_15 L 0 0).bind (fun ⟨x0_19, I0_19, L0_19⟩ => (if x0_19 = 0 then (if 1 ≤ dp then ((kf_41 n (dp - 1) e 0 I0_19 L0_19 0 3).bind (fun ⟨x1_47, I1_47, L1_47⟩ => (if x1_47 = 0 then (if 1 ≤ dp then ((kf_41 n (dp - 1) e 0 I1_47 L1_47 0 9).bind (fun ⟨x2_79, I2_79, L2_79⟩ => (if x2_79 = 0 then (kf_40 n dp e 1 I2_79 L2_79 i1 0) else ((e.2.2 104 1).bind (fun b_86 => (if (b_86 < e.1) ∧ ((e.2.1 b_86).1 = 10) then ((e.2.2 b_86 0).bind (fun b_89 => (if ((b_89 < e.1) ∧ (((e.2.1 b_89).1 = 13) ∧ ((e.2.1 b_89).2 < (2 ^ 31)))) ∧ (0 ≤ i1 ∧ i1 < (((e.2.1 b_89).2 : Nat) : Int)) then (stI (w2 I2_79 b_89 i1 2) (fun I_94 => (if 1 ≤ dp then ((kf_37 n (dp - 1) e 0 I_94 L2_79 0).bind (fun ⟨I3_96, L3_96⟩ => (if 1 ≤ dp then ((kf_56 n (dp - 1) e 0 I3_96 L3_96 0 0).bind (fun ⟨x4_101, I4_101, L4_101⟩ => (kf_40 n dp e 1 I4_101 L4_101 i1 x4_101))) else none))) else none))) else none))) else none)))))) else none) else ((e.2.2 104 1).bind (fun b_54 => (if (b_54 < e.1) ∧ ((e.2.1 b_54).1 = 10) then ((e.2.2 b_54 0).bind (fun b_57 => (if ((b_57 < e.1) ∧ (((e.2.1 b_57).1 = 13) ∧ ((e.2.1 b_57).2 < (2 ^ 31)))) ∧ (0 ≤ i1 ∧ i1 < (((e.2.1 b_57).2 : Nat) : Int)) then (stI (w2 I1_47 b_57 i1 1) (fun I_62 => (if 1 ≤ dp then ((kf_37 n (dp - 1) e 0 I_62 L1_47 0).bind (fun ⟨I2_64, L2_64⟩ => (if 1 ≤ dp then ((kf_56 n (dp - 1) e 0 I2_64 L2_64 0 0).bind (fun ⟨x3_69, I3_69, L3_69⟩ => (kf_40 n dp e 1 I3_69 L3_69 i1 x3_69))) else none))) else none))) else none))) else none)))))) else none) else ((e.2.2 104 1).bind (fun b_26 => (if (b_26 < e.1) ∧ ((e.2.1 b_26).1 = 10) then ((e.2.2 b_26 0).bind (fun b_29 => (if ((b_29 < e.1) ∧ (((e.2.1 b_29).1 = 13) ∧ ((e.2.1 b_29).2 < (2 ^ 31)))) ∧ (0 ≤ i1 ∧ i1 < (((e.2.1 b_29).2 : Nat) : Int)) then (stI (w2 I0_19 b_29 i1 0) (fun I_34 => (if 1 ≤ dp then ((kf_53 n (dp - 1) e 0 I_34 L0_19 i1 0 0).bind (fun ⟨x1_37, I1_37, L1_37⟩ => (kf_40 n dp e 1 I1_37 L1_37 i1 x1_37))) else none))) else none))) else none)))))) else none))) else none) else none))))) else none)))
    else if lab = 1 then ((e.2.2 104 1).bind (fun b_111 => (if (b_111 < e.1) ∧ ((e.2.1 b_111).1 = 10) then ((e.2.2 b_111 2).bind (fun b_114 => ((e.2.2 104 1).bind (fun b_119 => (if (b_119 < e.1) ∧ ((e.2.1 b_119).1 = 10) then (if ((b_114 < e.1) ∧ (((e.2.1 b_114).1 = 13) ∧ ((e.2.1 b_114).2 < (2 ^ 31)))) ∧ (0 ≤ i1 ∧ i1 < (((e.2.1 b_114).2 : Nat) : Int)) then (stI (w2 I b_114 i1 (I b_119 12)) (fun I_125 => ((e.2.2 104 1).bind (fun b_127 => (if (b_127 < e.1) ∧ ((e.2.1 b_127).1 = 10) then ((e.2.2 b_127 3).bind (fun b_130 => ((e.2.2 104 1).bind (fun b_135 => (if (b_135 < e.1) ∧ ((e.2.1 b_135).1 = 10) then (if ((b_130 < e.1) ∧ (((e.2.1 b_130).1 = 13) ∧ ((e.2.1 b_130).2 < (2 ^ 31)))) ∧ (0 ≤ i1 ∧ i1 < (((e.2.1 b_130).2 : Nat) : Int)) then (stI (w2 I_125 b_130 i1 (I_125 b_135 12)) (fun I_141 => (if i2 = 0 then (kf_40 n dp e 2 I_141 L i1 i2) else (if 1 ≤ dp then ((kf_41 n (dp - 1) e 0 I_141 L 0 10).bind (fun ⟨x0_149, I0_149, L0_149⟩ => (if x0_149 = 0 then (kf_40 n dp e 2 I0_149 L0_149 i1 i2) else (if 1 ≤ dp then ((kf_37 n (dp - 1) e 0 I0_149 L0_149 0).bind (fun ⟨I1_156, L1_156⟩ => (if 1 ≤ dp then ((kf_62 n (dp - 1) e 0 I1_156 L1_156 0 0 0).bind (fun ⟨x2_161, I2_161, L2_161⟩ => (kf_40 n dp e 2 I2_161 L2_161 i1 x2_161))) else none))) else none)))) else none)))) else none) else none))))) else none))))) else none) else none))))) else none)))
    else if lab = 2 then ((e.2.2 104 1).bind (fun b_166 => (if (b_166 < e.1) ∧ ((e.2.1 b_166).1 = 10) then ((e.2.2 b_166 4).bind (fun b_169 => ((e.2.2 104 1).bind (fun b_174 => (if (b_174 < e.1) ∧ ((e.2.1 b_174).1 = 10) then (if ((b_169 < e.1) ∧ (((e.2.1 b_169).1 = 13) ∧ ((e.2.1 b_169).2 < (2 ^ 31)))) ∧ (0 ≤ i1 ∧ i1 < (((e.2.1 b_169).2 : Nat) : Int)) then (stI (w2 I b_169 i1 (I b_174 12)) (fun I_180 => (if (i2 = 0) ∨ (i2 = 1) then (some ((i2 : Int), I_180, L)) else none))) else none) else none))))) else none)))
    else none
set_option maxRecDepth 100000 in
theorem ke_40_0 (n : Nat) (dp : Nat) (e : EN) (I : JI) (L : JI) (i1 : Int) (i2 : Int) : kf_40 (n + 1) dp e 0 I L i1 i2 = ((e.2.2 104 1).bind (fun b_1 => (if (b_1 < e.1) ∧ ((e.2.1 b_1).1 = 10) then ((e.2.2 b_1 1).bind (fun b_4 => ((e.2.2 104 1).bind (fun b_9 => (if (b_9 < e.1) ∧ ((e.2.1 b_9).1 = 10) then (if ((b_4 < e.1) ∧ (((e.2.1 b_4).1 = 13) ∧ ((e.2.1 b_4).2 < (2 ^ 31)))) ∧ (0 ≤ i1 ∧ i1 < (((e.2.1 b_4).2 : Nat) : Int)) then (stI (w2 I b_4 i1 (I b_9 12)) (fun I_15 => (if 1 ≤ dp then ((kf_41 n (dp - 1) e 0 I_15 L 0 0).bind (fun ⟨x0_19, I0_19, L0_19⟩ => (if x0_19 = 0 then (if 1 ≤ dp then ((kf_41 n (dp - 1) e 0 I0_19 L0_19 0 3).bind (fun ⟨x1_47, I1_47, L1_47⟩ => (if x1_47 = 0 then (if 1 ≤ dp then ((kf_41 n (dp - 1) e 0 I1_47 L1_47 0 9).bind (fun ⟨x2_79, I2_79, L2_79⟩ => (if x2_79 = 0 then (kf_40 n dp e 1 I2_79 L2_79 i1 0) else ((e.2.2 104 1).bind (fun b_86 => (if (b_86 < e.1) ∧ ((e.2.1 b_86).1 = 10) then ((e.2.2 b_86 0).bind (fun b_89 => (if ((b_89 < e.1) ∧ (((e.2.1 b_89).1 = 13) ∧ ((e.2.1 b_89).2 < (2 ^ 31)))) ∧ (0 ≤ i1 ∧ i1 < (((e.2.1 b_89).2 : Nat) : Int)) then (stI (w2 I2_79 b_89 i1 2) (fun I_94 => (if 1 ≤ dp then ((kf_37 n (dp - 1) e 0 I_94 L2_79 0).bind (fun ⟨I3_96, L3_96⟩ => (if 1 ≤ dp then ((kf_56 n (dp - 1) e 0 I3_96 L3_96 0 0).bind (fun ⟨x4_101, I4_101, L4_101⟩ => (kf_40 n dp e 1 I4_101 L4_101 i1 x4_101))) else none))) else none))) else none))) else none)))))) else none) else ((e.2.2 104 1).bind (fun b_54 => (if (b_54 < e.1) ∧ ((e.2.1 b_54).1 = 10) then ((e.2.2 b_54 0).bind (fun b_57 => (if ((b_57 < e.1) ∧ (((e.2.1 b_57).1 = 13) ∧ ((e.2.1 b_57).2 < (2 ^ 31)))) ∧ (0 ≤ i1 ∧ i1 < (((e.2.1 b_57).2 : Nat) : Int)) then (stI (w2 I1_47 b_57 i1 1) (fun I_62 => (if 1 ≤ dp then ((kf_37 n (dp - 1) e 0 I_62 L1_47 0).bind (fun ⟨I2_64, L2_64⟩ => (if 1 ≤ dp then ((kf_56 n (dp - 1) e 0 I2_64 L2_64 0 0).bind (fun ⟨x3_69, I3_69, L3_69⟩ => (kf_40 n dp e 1 I3_69 L3_69 i1 x3_69))) else none))) else none))) else none))) else none)))))) else none) else ((e.2.2 104 1).bind (fun b_26 => (if (b_26 < e.1) ∧ ((e.2.1 b_26).1 = 10) then ((e.2.2 b_26 0).bind (fun b_29 => (if ((b_29 < e.1) ∧ (((e.2.1 b_29).1 = 13) ∧ ((e.2.1 b_29).2 < (2 ^ 31)))) ∧ (0 ≤ i1 ∧ i1 < (((e.2.1 b_29).2 : Nat) : Int)) then (stI (w2 I0_19 b_29 i1 0) (fun I_34 => (if 1 ≤ dp then ((kf_53 n (dp - 1) e 0 I_34 L0_19 i1 0 0).bind (fun ⟨x1_37, I1_37, L1_37⟩ => (kf_40 n dp e 1 I1_37 L1_37 i1 x1_37))) else none))) else none))) else none)))))) else none))) else none) else none))))) else none))) := by rw [kf_40.eq_2, if_pos (show (0 : Nat) = 0 from rfl)]
set_option maxRecDepth 100000 in
theorem ke_40_1 (n : Nat) (dp : Nat) (e : EN) (I : JI) (L : JI) (i1 : Int) (i2 : Int) : kf_40 (n + 1) dp e 1 I L i1 i2 = ((e.2.2 104 1).bind (fun b_111 => (if (b_111 < e.1) ∧ ((e.2.1 b_111).1 = 10) then ((e.2.2 b_111 2).bind (fun b_114 => ((e.2.2 104 1).bind (fun b_119 => (if (b_119 < e.1) ∧ ((e.2.1 b_119).1 = 10) then (if ((b_114 < e.1) ∧ (((e.2.1 b_114).1 = 13) ∧ ((e.2.1 b_114).2 < (2 ^ 31)))) ∧ (0 ≤ i1 ∧ i1 < (((e.2.1 b_114).2 : Nat) : Int)) then (stI (w2 I b_114 i1 (I b_119 12)) (fun I_125 => ((e.2.2 104 1).bind (fun b_127 => (if (b_127 < e.1) ∧ ((e.2.1 b_127).1 = 10) then ((e.2.2 b_127 3).bind (fun b_130 => ((e.2.2 104 1).bind (fun b_135 => (if (b_135 < e.1) ∧ ((e.2.1 b_135).1 = 10) then (if ((b_130 < e.1) ∧ (((e.2.1 b_130).1 = 13) ∧ ((e.2.1 b_130).2 < (2 ^ 31)))) ∧ (0 ≤ i1 ∧ i1 < (((e.2.1 b_130).2 : Nat) : Int)) then (stI (w2 I_125 b_130 i1 (I_125 b_135 12)) (fun I_141 => (if i2 = 0 then (kf_40 n dp e 2 I_141 L i1 i2) else (if 1 ≤ dp then ((kf_41 n (dp - 1) e 0 I_141 L 0 10).bind (fun ⟨x0_149, I0_149, L0_149⟩ => (if x0_149 = 0 then (kf_40 n dp e 2 I0_149 L0_149 i1 i2) else (if 1 ≤ dp then ((kf_37 n (dp - 1) e 0 I0_149 L0_149 0).bind (fun ⟨I1_156, L1_156⟩ => (if 1 ≤ dp then ((kf_62 n (dp - 1) e 0 I1_156 L1_156 0 0 0).bind (fun ⟨x2_161, I2_161, L2_161⟩ => (kf_40 n dp e 2 I2_161 L2_161 i1 x2_161))) else none))) else none)))) else none)))) else none) else none))))) else none))))) else none) else none))))) else none))) := by rw [kf_40.eq_2, if_neg (show ¬ ((1 : Nat) = 0) by decide), if_pos (show (1 : Nat) = 1 from rfl)]
set_option maxRecDepth 100000 in
theorem ke_40_2 (n : Nat) (dp : Nat) (e : EN) (I : JI) (L : JI) (i1 : Int) (i2 : Int) : kf_40 (n + 1) dp e 2 I L i1 i2 = ((e.2.2 104 1).bind (fun b_166 => (if (b_166 < e.1) ∧ ((e.2.1 b_166).1 = 10) then ((e.2.2 b_166 4).bind (fun b_169 => ((e.2.2 104 1).bind (fun b_174 => (if (b_174 < e.1) ∧ ((e.2.1 b_174).1 = 10) then (if ((b_169 < e.1) ∧ (((e.2.1 b_169).1 = 13) ∧ ((e.2.1 b_169).2 < (2 ^ 31)))) ∧ (0 ≤ i1 ∧ i1 < (((e.2.1 b_169).2 : Nat) : Int)) then (stI (w2 I b_169 i1 (I b_174 12)) (fun I_180 => (if (i2 = 0) ∨ (i2 = 1) then (some ((i2 : Int), I_180, L)) else none))) else none) else none))))) else none))) := by rw [kf_40.eq_2, if_neg (show ¬ ((2 : Nat) = 0) by decide), if_neg (show ¬ ((2 : Nat) = 1) by decide), if_pos (show (2 : Nat) = 2 from rfl)]
set_option maxHeartbeats 8000000 in
set_option maxRecDepth 100000 in
theorem ks_40 : ∀ (n : Nat) (dp : Nat) (e : EN) (lab : Nat) (I : Nat → Nat → Int32) (I' : JI) (L : Nat → Nat → Int64) (L' : JI) (i1 : Int32) (i1' : Int) (i2 : Int32) (i2' : Int), Rli I I' → Rll L L' → Ui i1 i1' → Ui i2 i2' → Sim R3 (g_40 n dp e lab I L i1 i2) (kf_40 n dp e lab I' L' i1' i2') := by
  intro n
  induction n with
  | zero => intros; rw [kf_40.eq_1]; exact Sn
  | succ n ih =>
    intro dp e lab I I' L L' i1 i1' i2 i2' u_I u_L u_i1 u_i2
    rw [g_40.eq_2, kf_40.eq_2]
    refine Sc Iff.rfl (fun _ => ?_) (fun _ => ?_)
    · refine SbE rfl (fun b_1 => ?_)
      refine Sc Iff.rfl (fun c1 => ?_) (fun _ => Sn)
      refine SbE rfl (fun b_4 => ?_)
      refine SbE rfl (fun b_9 => ?_)
      refine Sc Iff.rfl (fun c2 => ?_) (fun _ => Sn)
      refine Sc (and_congr Iff.rfl (ix_up u_i1)) (fun c3 => ?_) (fun _ => Sn)
      refine SsJ (ri_up u_I (kc_up u_i1 c3.2.1) (u_I b_9 12)) (fun I_15 I_15' u_I_15 => ?_)
      refine Sc Iff.rfl (fun c4 => ?_) (fun _ => Sn)
      refine Sb3 (ks_41 n (dp - 1) e 0 _ _ _ _ _ _ 0 u_I_15 u_L (rfl : Ui 0 0)) (fun x0_19 x0_19' I0_19 I0_19' L0_19 L0_19' u_x0_19 u_I0_19 u_L0_19 => ?_)
      refine Sc (eq_up u_x0_19 (rfl : Ui 0 0)) (fun c5 => ?_) (fun c5 => ?_)
      · refine Sc Iff.rfl (fun c6 => ?_) (fun _ => Sn)
        refine Sb3 (ks_41 n (dp - 1) e 0 _ _ _ _ _ _ 3 u_I0_19 u_L0_19 (rfl : Ui 0 0)) (fun x1_47 x1_47' I1_47 I1_47' L1_47 L1_47' u_x1_47 u_I1_47 u_L1_47 => ?_)
        refine Sc (eq_up u_x1_47 (rfl : Ui 0 0)) (fun c7 => ?_) (fun c7 => ?_)
        · refine Sc Iff.rfl (fun c8 => ?_) (fun _ => Sn)
          refine Sb3 (ks_41 n (dp - 1) e 0 _ _ _ _ _ _ 9 u_I1_47 u_L1_47 (rfl : Ui 0 0)) (fun x2_79 x2_79' I2_79 I2_79' L2_79 L2_79' u_x2_79 u_I2_79 u_L2_79 => ?_)
          refine Sc (eq_up u_x2_79 (rfl : Ui 0 0)) (fun c9 => ?_) (fun c9 => ?_)
          · exact (ih dp e 1 _ _ _ _ _ _ _ _ u_I2_79 u_L2_79 u_i1 (rfl : Ui (0) (0)))
          · refine SbE rfl (fun b_86 => ?_)
            refine Sc Iff.rfl (fun c10 => ?_) (fun _ => Sn)
            refine SbE rfl (fun b_89 => ?_)
            refine Sc (and_congr Iff.rfl (ix_up u_i1)) (fun c11 => ?_) (fun _ => Sn)
            refine SsJ (ri_up u_I2_79 (kc_up u_i1 c11.2.1) (rfl : Ui (2) (2))) (fun I_94 I_94' u_I_94 => ?_)
            refine Sc Iff.rfl (fun c12 => ?_) (fun _ => Sn)
            refine Sb2 (ks_37 n (dp - 1) e 0 _ _ _ _ _ _ u_I_94 u_L2_79 (rfl : Ui 0 0)) (fun I3_96 I3_96' L3_96 L3_96' u_I3_96 u_L3_96 => ?_)
            refine Sc Iff.rfl (fun c13 => ?_) (fun _ => Sn)
            refine Sb3 (ks_56 n (dp - 1) e 0 _ _ _ _ _ _ _ _ u_I3_96 u_L3_96 (rfl : Ui (0) (0)) (rfl : Ui 0 0)) (fun x4_101 x4_101' I4_101 I4_101' L4_101 L4_101' u_x4_101 u_I4_101 u_L4_101 => ?_)
            exact (ih dp e 1 _ _ _ _ _ _ _ _ u_I4_101 u_L4_101 u_i1 u_x4_101)
        · refine SbE rfl (fun b_54 => ?_)
          refine Sc Iff.rfl (fun c14 => ?_) (fun _ => Sn)
          refine SbE rfl (fun b_57 => ?_)
          refine Sc (and_congr Iff.rfl (ix_up u_i1)) (fun c15 => ?_) (fun _ => Sn)
          refine SsJ (ri_up u_I1_47 (kc_up u_i1 c15.2.1) (rfl : Ui (1) (1))) (fun I_62 I_62' u_I_62 => ?_)
          refine Sc Iff.rfl (fun c16 => ?_) (fun _ => Sn)
          refine Sb2 (ks_37 n (dp - 1) e 0 _ _ _ _ _ _ u_I_62 u_L1_47 (rfl : Ui 0 0)) (fun I2_64 I2_64' L2_64 L2_64' u_I2_64 u_L2_64 => ?_)
          refine Sc Iff.rfl (fun c17 => ?_) (fun _ => Sn)
          refine Sb3 (ks_56 n (dp - 1) e 0 _ _ _ _ _ _ _ _ u_I2_64 u_L2_64 (rfl : Ui (0) (0)) (rfl : Ui 0 0)) (fun x3_69 x3_69' I3_69 I3_69' L3_69 L3_69' u_x3_69 u_I3_69 u_L3_69 => ?_)
          exact (ih dp e 1 _ _ _ _ _ _ _ _ u_I3_69 u_L3_69 u_i1 u_x3_69)
      · refine SbE rfl (fun b_26 => ?_)
        refine Sc Iff.rfl (fun c18 => ?_) (fun _ => Sn)
        refine SbE rfl (fun b_29 => ?_)
        refine Sc (and_congr Iff.rfl (ix_up u_i1)) (fun c19 => ?_) (fun _ => Sn)
        refine SsJ (ri_up u_I0_19 (kc_up u_i1 c19.2.1) (rfl : Ui (0) (0))) (fun I_34 I_34' u_I_34 => ?_)
        refine Sc Iff.rfl (fun c20 => ?_) (fun _ => Sn)
        refine Sb3 (ks_53 n (dp - 1) e 0 _ _ _ _ _ _ _ _ _ _ u_I_34 u_L0_19 u_i1 (rfl : Ui 0 0) (rfl : Ui 0 0)) (fun x1_37 x1_37' I1_37 I1_37' L1_37 L1_37' u_x1_37 u_I1_37 u_L1_37 => ?_)
        exact (ih dp e 1 _ _ _ _ _ _ _ _ u_I1_37 u_L1_37 u_i1 u_x1_37)
    refine Sc Iff.rfl (fun _ => ?_) (fun _ => ?_)
    · refine SbE rfl (fun b_111 => ?_)
      refine Sc Iff.rfl (fun c1 => ?_) (fun _ => Sn)
      refine SbE rfl (fun b_114 => ?_)
      refine SbE rfl (fun b_119 => ?_)
      refine Sc Iff.rfl (fun c2 => ?_) (fun _ => Sn)
      refine Sc (and_congr Iff.rfl (ix_up u_i1)) (fun c3 => ?_) (fun _ => Sn)
      refine SsJ (ri_up u_I (kc_up u_i1 c3.2.1) (u_I b_119 12)) (fun I_125 I_125' u_I_125 => ?_)
      refine SbE rfl (fun b_127 => ?_)
      refine Sc Iff.rfl (fun c4 => ?_) (fun _ => Sn)
      refine SbE rfl (fun b_130 => ?_)
      refine SbE rfl (fun b_135 => ?_)
      refine Sc Iff.rfl (fun c5 => ?_) (fun _ => Sn)
      refine Sc (and_congr Iff.rfl (ix_up u_i1)) (fun c6 => ?_) (fun _ => Sn)
      refine SsJ (ri_up u_I_125 (kc_up u_i1 c6.2.1) (u_I_125 b_135 12)) (fun I_141 I_141' u_I_141 => ?_)
      refine Sc (eq_up u_i2 (rfl : Ui 0 0)) (fun c7 => ?_) (fun c7 => ?_)
      · exact (ih dp e 2 _ _ _ _ _ _ _ _ u_I_141 u_L u_i1 u_i2)
      · refine Sc Iff.rfl (fun c8 => ?_) (fun _ => Sn)
        refine Sb3 (ks_41 n (dp - 1) e 0 _ _ _ _ _ _ 10 u_I_141 u_L (rfl : Ui 0 0)) (fun x0_149 x0_149' I0_149 I0_149' L0_149 L0_149' u_x0_149 u_I0_149 u_L0_149 => ?_)
        refine Sc (eq_up u_x0_149 (rfl : Ui 0 0)) (fun c9 => ?_) (fun c9 => ?_)
        · exact (ih dp e 2 _ _ _ _ _ _ _ _ u_I0_149 u_L0_149 u_i1 u_i2)
        · refine Sc Iff.rfl (fun c10 => ?_) (fun _ => Sn)
          refine Sb2 (ks_37 n (dp - 1) e 0 _ _ _ _ _ _ u_I0_149 u_L0_149 (rfl : Ui 0 0)) (fun I1_156 I1_156' L1_156 L1_156' u_I1_156 u_L1_156 => ?_)
          refine Sc Iff.rfl (fun c11 => ?_) (fun _ => Sn)
          refine Sb3 (ks_62 n (dp - 1) e 0 _ _ _ _ _ _ _ _ _ _ u_I1_156 u_L1_156 (rfl : Ui (0) (0)) (rfl : Ui 0 0) (rfl : Ui 0 0)) (fun x2_161 x2_161' I2_161 I2_161' L2_161 L2_161' u_x2_161 u_I2_161 u_L2_161 => ?_)
          exact (ih dp e 2 _ _ _ _ _ _ _ _ u_I2_161 u_L2_161 u_i1 u_x2_161)
    refine Sc Iff.rfl (fun _ => ?_) (fun _ => ?_)
    · refine SbE rfl (fun b_166 => ?_)
      refine Sc Iff.rfl (fun c1 => ?_) (fun _ => Sn)
      refine SbE rfl (fun b_169 => ?_)
      refine SbE rfl (fun b_174 => ?_)
      refine Sc Iff.rfl (fun c2 => ?_) (fun _ => Sn)
      refine Sc (and_congr Iff.rfl (ix_up u_i1)) (fun c3 => ?_) (fun _ => Sn)
      refine SsJ (ri_up u_I (kc_up u_i1 c3.2.1) (u_I b_174 12)) (fun I_180 I_180' u_I_180 => ?_)
      refine Sc (or_congr (eq_up u_i2 (rfl : Ui 0 0)) (eq_up u_i2 (rfl : Ui 1 1))) (fun c4 => ?_) (fun _ => Sn)
      exact Sr ⟨u_i2, u_I_180, u_L⟩
    exact Sn
set_option maxHeartbeats 4000000 in
set_option maxRecDepth 100000 in
def kf_187 : Nat → Nat → EN → Nat → JI → JI → Int → Option (Int × JI × JI)
  | 0, _, _, _, _, _, _ => none
  | n + 1, dp, e, lab, I, L, i1 =>
    if lab = 0 then (if 1 ≤ dp then ((kf_14 n (dp - 1) e 0 I L i1 0 1).bind (fun ⟨x0_3, I0_3, L0_3⟩ => (if x0_3 = 0 then (if 1 ≤ dp then ((kf_15 n (dp - 1) e 0 I0_3 L0_3 (-1)).bind (fun ⟨x1_11, I1_11, L1_11⟩ => (some ((x1_11 : Int), I1_11, L1_11)))) else none) else (if 0 ≤ i1 ∧ i1 < 2 then (stI (e.2.2 20 (Int.toNat i1)) (fun o_20 => (match o_20 with | none => (if 1 ≤ dp then ((kf_15 n (dp - 1) e 0 I0_3 L0_3 (-2)).bind (fun ⟨x1_29, I1_29, L1_29⟩ => (some ((x1_29 : Int), I1_29, L1_29)))) else none) | some bb_23 => (if 1 ≤ dp then ((kf_185 n (dp - 1) e 0 I0_3 L0_3 1 bb_23).bind (fun ⟨I1_38, L1_38⟩ => (if 1 ≤ dp then ((kf_21 n (dp - 1) e 0 I1_38 L1_38).bind (fun ⟨I2_42, L2_42⟩ => (if 1 ≤ dp then ((kf_25 n (dp - 1) e 0 I2_42 L2_42).bind (fun ⟨I3_49, L3_49⟩ => (if 1 ≤ dp then ((kf_157 n (dp - 1) e 0 I3_49 L3_49).bind (fun ⟨I4_56, L4_56⟩ => (if 1 ≤ dp then ((kf_19 n (dp - 1) e 0 I4_56 L4_56 0).bind (fun ⟨x5_61, I5_61, L5_61⟩ => (some ((x5_61 : Int), I5_61, L5_61)))) else none))) else none))) else none))) else none))) else none)))) else none)))) else none)
    else none
set_option maxRecDepth 100000 in
theorem ke_187_0 (n : Nat) (dp : Nat) (e : EN) (I : JI) (L : JI) (i1 : Int) : kf_187 (n + 1) dp e 0 I L i1 = (if 1 ≤ dp then ((kf_14 n (dp - 1) e 0 I L i1 0 1).bind (fun ⟨x0_3, I0_3, L0_3⟩ => (if x0_3 = 0 then (if 1 ≤ dp then ((kf_15 n (dp - 1) e 0 I0_3 L0_3 (-1)).bind (fun ⟨x1_11, I1_11, L1_11⟩ => (some ((x1_11 : Int), I1_11, L1_11)))) else none) else (if 0 ≤ i1 ∧ i1 < 2 then (stI (e.2.2 20 (Int.toNat i1)) (fun o_20 => (match o_20 with | none => (if 1 ≤ dp then ((kf_15 n (dp - 1) e 0 I0_3 L0_3 (-2)).bind (fun ⟨x1_29, I1_29, L1_29⟩ => (some ((x1_29 : Int), I1_29, L1_29)))) else none) | some bb_23 => (if 1 ≤ dp then ((kf_185 n (dp - 1) e 0 I0_3 L0_3 1 bb_23).bind (fun ⟨I1_38, L1_38⟩ => (if 1 ≤ dp then ((kf_21 n (dp - 1) e 0 I1_38 L1_38).bind (fun ⟨I2_42, L2_42⟩ => (if 1 ≤ dp then ((kf_25 n (dp - 1) e 0 I2_42 L2_42).bind (fun ⟨I3_49, L3_49⟩ => (if 1 ≤ dp then ((kf_157 n (dp - 1) e 0 I3_49 L3_49).bind (fun ⟨I4_56, L4_56⟩ => (if 1 ≤ dp then ((kf_19 n (dp - 1) e 0 I4_56 L4_56 0).bind (fun ⟨x5_61, I5_61, L5_61⟩ => (some ((x5_61 : Int), I5_61, L5_61)))) else none))) else none))) else none))) else none))) else none)))) else none)))) else none) := by rw [kf_187.eq_2, if_pos (show (0 : Nat) = 0 from rfl)]
set_option maxHeartbeats 8000000 in
set_option maxRecDepth 100000 in
theorem ks_187 : ∀ (n : Nat) (dp : Nat) (e : EN) (lab : Nat) (I : Nat → Nat → Int32) (I' : JI) (L : Nat → Nat → Int64) (L' : JI) (i1 : Int32) (i1' : Int), Rli I I' → Rll L L' → Ui i1 i1' → Sim R3 (g_187 n dp e lab I L i1) (kf_187 n dp e lab I' L' i1') := by
  intro n
  induction n with
  | zero => intros; rw [kf_187.eq_1]; exact Sn
  | succ n ih =>
    intro dp e lab I I' L L' i1 i1' u_I u_L u_i1
    rw [g_187.eq_2, kf_187.eq_2]
    refine Sc Iff.rfl (fun _ => ?_) (fun _ => ?_)
    · refine Sc Iff.rfl (fun c1 => ?_) (fun _ => Sn)
      refine Sb3 (ks_14 n (dp - 1) e 0 _ _ _ _ _ _ _ _ _ _ u_I u_L u_i1 (rfl : Ui (0) (0)) (rfl : Ui (1) (1))) (fun x0_3 x0_3' I0_3 I0_3' L0_3 L0_3' u_x0_3 u_I0_3 u_L0_3 => ?_)
      refine Sc (eq_up u_x0_3 (rfl : Ui 0 0)) (fun c2 => ?_) (fun c2 => ?_)
      · refine Sc Iff.rfl (fun c3 => ?_) (fun _ => Sn)
        refine Sb3 (ks_15 n (dp - 1) e 0 _ _ _ _ _ _ u_I0_3 u_L0_3 (rfl : Ui (-1) (-1))) (fun x1_11 x1_11' I1_11 I1_11' L1_11 L1_11' u_x1_11 u_I1_11 u_L1_11 => ?_)
        exact Sr ⟨u_x1_11, u_I1_11, u_L1_11⟩
      · refine Sc (ix_up u_i1) (fun c4 => ?_) (fun _ => Sn)
        refine SsE (by first | (rw [cl_up u_i1]; done) | (rw [cl_up u_i1]; rfl)) (fun o_20 => ?_)
        refine Sm ?_ (fun bb_23 => ?_)
        · refine Sc Iff.rfl (fun c5 => ?_) (fun _ => Sn)
          refine Sb3 (ks_15 n (dp - 1) e 0 _ _ _ _ _ _ u_I0_3 u_L0_3 (rfl : Ui (-2) (-2))) (fun x1_29 x1_29' I1_29 I1_29' L1_29 L1_29' u_x1_29 u_I1_29 u_L1_29 => ?_)
          exact Sr ⟨u_x1_29, u_I1_29, u_L1_29⟩
        · refine Sc Iff.rfl (fun c6 => ?_) (fun _ => Sn)
          refine Sb2 (ks_185 n (dp - 1) e 0 _ _ _ _ 1 bb_23 u_I0_3 u_L0_3) (fun I1_38 I1_38' L1_38 L1_38' u_I1_38 u_L1_38 => ?_)
          refine Sc Iff.rfl (fun c7 => ?_) (fun _ => Sn)
          refine Sb2 (ks_21 n (dp - 1) e 0 _ _ _ _ u_I1_38 u_L1_38) (fun I2_42 I2_42' L2_42 L2_42' u_I2_42 u_L2_42 => ?_)
          refine Sc Iff.rfl (fun c8 => ?_) (fun _ => Sn)
          refine Sb2 (ks_25 n (dp - 1) e 0 _ _ _ _ u_I2_42 u_L2_42) (fun I3_49 I3_49' L3_49 L3_49' u_I3_49 u_L3_49 => ?_)
          refine Sc Iff.rfl (fun c9 => ?_) (fun _ => Sn)
          refine Sb2 (ks_157 n (dp - 1) e 0 _ _ _ _ u_I3_49 u_L3_49) (fun I4_56 I4_56' L4_56 L4_56' u_I4_56 u_L4_56 => ?_)
          refine Sc Iff.rfl (fun c10 => ?_) (fun _ => Sn)
          refine Sb3 (ks_19 n (dp - 1) e 0 _ _ _ _ _ _ u_I4_56 u_L4_56 (rfl : Ui (0) (0))) (fun x5_61 x5_61' I5_61 I5_61' L5_61 L5_61' u_x5_61 u_I5_61 u_L5_61 => ?_)
          exact Sr ⟨u_x5_61, u_I5_61, u_L5_61⟩
    exact Sn
set_option maxHeartbeats 4000000 in
set_option maxRecDepth 100000 in
def kf_109 : Nat → Nat → Nat → Nat → (Nat → Nat × Nat) → JI → JI → (Nat → Nat → Option Nat) → Int → Nat → Option ((Nat × PSi) × Nat × Nat)
  | 0, _, _, _, _, _, _, _, _, _ => none
  | n + 1, dp, lab, z, kd, I, L, R, i1, a0 =>
    if lab = 0 then (if (a0 < z) ∧ ((kd a0).1 = 13) then (if (kd a0).2 < 2147483648 then (if i1 = (((kd a0).2 : Nat) : Int) then none else (if (¬ (i1 < 0)) ∧ ((Int.toNat i1) ≤ 10000000) then (adk 1 (Int.toNat i1) (stI (z + 1) (fun z_15 => (stI (va_up kd z (13, (Int.toNat i1))) (fun kd_15 => (stI (nw2 I z) (fun I_15 => (stI (nw2 L z) (fun L_15 => (stI (va_up R z (fun _ => none)) (fun R_15 => (if (a0 < z_15) ∧ ((kd_15 a0).1 = 13) then (if 1 ≤ dp then (if (a0 < z_15) ∧ ((kd_15 a0).1 = 13) then (if (z < z_15) ∧ ((kd_15 z).1 = 13) then (if (kd_15 a0).2 < 2147483648 then (if ((¬ ((0 : Int) < 0)) ∧ ((¬ ((0 : Int) < 0)) ∧ ((¬ ((min i1 (((kd_15 a0).2 : Nat) : Int)) < 0)) ∧ (((0 + (Int.toNat (min i1 (((kd_15 a0).2 : Nat) : Int)))) ≤ (kd_15 a0).2) ∧ ((0 + (Int.toNat (min i1 (((kd_15 a0).2 : Nat) : Int)))) ≤ (kd_15 z).2))))) ∧ (1 ≤ dp) then (if 0 ≤ (min i1 (((kd_15 a0).2 : Nat) : Int)) then (stI (cp2 I_15 z a0 0 0 (min i1 (((kd_15 a0).2 : Nat) : Int))) (fun I_28 => (some ((z, z_15, kd_15, I_28, L_15, R_15), 0, 0)))) else none) else none) else none) else none) else none) else none) else none)))))))))))) else none)) else none) else none)
    else none
set_option maxRecDepth 100000 in
theorem ke_109_0 (n : Nat) (dp : Nat) (z : Nat) (kd : (Nat → Nat × Nat)) (I : JI) (L : JI) (R : (Nat → Nat → Option Nat)) (i1 : Int) (a0 : Nat) : kf_109 (n + 1) dp 0 z kd I L R i1 a0 = (if (a0 < z) ∧ ((kd a0).1 = 13) then (if (kd a0).2 < 2147483648 then (if i1 = (((kd a0).2 : Nat) : Int) then none else (if (¬ (i1 < 0)) ∧ ((Int.toNat i1) ≤ 10000000) then (adk 1 (Int.toNat i1) (stI (z + 1) (fun z_15 => (stI (va_up kd z (13, (Int.toNat i1))) (fun kd_15 => (stI (nw2 I z) (fun I_15 => (stI (nw2 L z) (fun L_15 => (stI (va_up R z (fun _ => none)) (fun R_15 => (if (a0 < z_15) ∧ ((kd_15 a0).1 = 13) then (if 1 ≤ dp then (if (a0 < z_15) ∧ ((kd_15 a0).1 = 13) then (if (z < z_15) ∧ ((kd_15 z).1 = 13) then (if (kd_15 a0).2 < 2147483648 then (if ((¬ ((0 : Int) < 0)) ∧ ((¬ ((0 : Int) < 0)) ∧ ((¬ ((min i1 (((kd_15 a0).2 : Nat) : Int)) < 0)) ∧ (((0 + (Int.toNat (min i1 (((kd_15 a0).2 : Nat) : Int)))) ≤ (kd_15 a0).2) ∧ ((0 + (Int.toNat (min i1 (((kd_15 a0).2 : Nat) : Int)))) ≤ (kd_15 z).2))))) ∧ (1 ≤ dp) then (if 0 ≤ (min i1 (((kd_15 a0).2 : Nat) : Int)) then (stI (cp2 I_15 z a0 0 0 (min i1 (((kd_15 a0).2 : Nat) : Int))) (fun I_28 => (some ((z, z_15, kd_15, I_28, L_15, R_15), 0, 0)))) else none) else none) else none) else none) else none) else none) else none)))))))))))) else none)) else none) else none) := by rw [kf_109.eq_2, if_pos (show (0 : Nat) = 0 from rfl)]
set_option maxHeartbeats 8000000 in
set_option maxRecDepth 100000 in
theorem ks_109 : ∀ (n : Nat) (dp : Nat) (lab : Nat) (z : Nat) (kd : (Nat → Nat × Nat)) (I : Nat → Nat → Int32) (I' : JI) (L : Nat → Nat → Int64) (L' : JI) (R : (Nat → Nat → Option Nat)) (i1 : Int32) (i1' : Int) (a0 : Nat), Rli I I' → Rll L L' → Ui i1 i1' → Sim RPn (g_109 n dp lab z kd I L R i1 a0) (kf_109 n dp lab z kd I' L' R i1' a0) := by
  intro n
  induction n with
  | zero => intros; rw [kf_109.eq_1]; exact Sn
  | succ n ih =>
    intro dp lab z kd I I' L L' R i1 i1' a0 u_I u_L u_i1
    rw [g_109.eq_2, kf_109.eq_2]
    refine Sc Iff.rfl (fun _ => ?_) (fun _ => ?_)
    · refine Sc Iff.rfl (fun c1 => ?_) (fun _ => Sn)
      refine Sg (fun g2 => ?_)
      refine Sc (eq_up u_i1 (ui_nI g2)) (fun c3 => ?_) (fun c3 => ?_)
      · exact Sn
      · refine Sc (and_congr (not_congr (lt_up u_i1 (rfl : Ui 0 0))) (by first | (rw [cl_up u_i1]; done) | (rw [cl_up u_i1]; exact Iff.rfl))) (fun c4 => ?_) (fun _ => Sn)
        refine Sa_n (by first | (rw [cl_up u_i1]; done) | (rw [cl_up u_i1]; rfl)) ?_
        refine SsE rfl (fun z_15 => ?_)
        refine SsE (by first | (rw [cl_up u_i1]; done) | (rw [cl_up u_i1]; rfl)) (fun kd_15 => ?_)
        refine SsJ (ri_nw u_I) (fun I_15 I_15' u_I_15 => ?_)
        refine SsM (rl_nw u_L) (fun L_15 L_15' u_L_15 => ?_)
        refine SsE rfl (fun R_15 => ?_)
        refine Sc Iff.rfl (fun c5 => ?_) (fun _ => Sn)
        refine Sc Iff.rfl (fun c6 => ?_) (fun _ => Sn)
        refine Sc Iff.rfl (fun c7 => ?_) (fun _ => Sn)
        refine Sc Iff.rfl (fun c8 => ?_) (fun _ => Sn)
        refine Sg (fun g9 => ?_)
        refine Sc (and_congr (and_congr (not_congr (lt_up (rfl : Ui (0) (0)) (rfl : Ui 0 0))) (and_congr (not_congr (lt_up (rfl : Ui (0) (0)) (rfl : Ui 0 0))) (and_congr (not_congr (lt_up (ui_min u_i1 (ui_nI g9)) (rfl : Ui 0 0))) (and_congr (by first | (rw [cl_up (ui_min u_i1 (ui_nI g9))]; done) | (rw [cl_up (ui_min u_i1 (ui_nI g9))]; exact Iff.rfl)) (by first | (rw [cl_up (ui_min u_i1 (ui_nI g9))]; done) | (rw [cl_up (ui_min u_i1 (ui_nI g9))]; exact Iff.rfl)))))) Iff.rfl) (fun c10 => ?_) (fun _ => Sn)
        refine Sg (fun g11 => ?_)
        refine SsJ (ri_cp u_I_15 (rfl : Ui (0) (0)) (rfl : Ui (0) (0)) (ui_min u_i1 (ui_nI g9)) ⟨(show (0 : Int) ≤ 0 from (by decide)), (show (0 : Int) ≤ 0 from (by decide)), g11⟩) (fun I_28 I_28' u_I_28 => ?_)
        exact Sr ⟨rfl, ⟨rfl, rfl, u_I_28, u_L_15, rfl⟩, rfl⟩
    exact Sn
set_option maxHeartbeats 4000000 in
set_option maxRecDepth 100000 in
def kf_103 : Nat → Nat → Nat → Nat → (Nat → Nat × Nat) → JI → JI → (Nat → Nat → Option Nat) → Option (PSi × Nat × Nat)
  | 0, _, _, _, _, _, _, _ => none
  | n + 1, dp, lab, z, kd, I, L, R =>
    if lab = 0 then (stI (w2 I 44 3 0) (fun I_2 => (stI (w2 I_2 45 0 0) (fun I_11 => (stI (w2 I_11 45 1 1) (fun I_18 => ((R 44 4).bind (fun b_20 => (if ((b_20 < z) ∧ (((kd b_20).1 = 13) ∧ ((kd b_20).2 < (2 ^ 31)))) ∧ (((0 : Int) ≤ 0) ∧ (0 < (kd b_20).2)) then (stI (w2 I_18 b_20 0 (I_18 26 18)) (fun I_31 => ((R 44 5).bind (fun b_33 => (if ((b_33 < z) ∧ (((kd b_33).1 = 13) ∧ ((kd b_33).2 < (2 ^ 31)))) ∧ (((0 : Int) ≤ 0) ∧ (0 < (kd b_33).2)) then (stI (w2 I_31 b_33 0 0) (fun I_38 => ((R 44 6).bind (fun b_40 => (if ((b_40 < z) ∧ (((kd b_40).1 = 13) ∧ ((kd b_40).2 < (2 ^ 31)))) ∧ (((0 : Int) ≤ 0) ∧ (0 < (kd b_40).2)) then (stI (w2 I_38 b_40 0 1) (fun I_45 => ((R 44 7).bind (fun b_47 => (if (b_47 < z) ∧ ((kd b_47).1 = 13) then (if (kd b_47).2 < 2147483648 then (if (I_45 26 19) ≤ (((kd b_47).2 : Nat) : Int) then (some ((z, kd, I_45, L, R), 0, 0)) else ((R 44 7).bind (fun b_71 => (if (b_71 < z) ∧ ((kd b_71).1 = 13) then (if 1 ≤ dp then (if ((kd b_71).2 < 2147483648) ∧ (-2147483648 ≤ 2 * (((kd b_71).2 : Nat) : Int) ∧ 2 * (((kd b_71).2 : Nat) : Int) ≤ 2147483647) then (if (¬ ((max (I_45 26 19) (2 * (((kd b_71).2 : Nat) : Int))) < 0)) ∧ ((Int.toNat (max (I_45 26 19) (2 * (((kd b_71).2 : Nat) : Int)))) ≤ 10000000) then (adk 1 (Int.toNat (max (I_45 26 19) (2 * (((kd b_71).2 : Nat) : Int)))) (stI (z + 1) (fun z_79 => (stI (va_up kd z (13, (Int.toNat (max (I_45 26 19) (2 * (((kd b_71).2 : Nat) : Int)))))) (fun kd_79 => (stI (nw2 I_45 z) (fun I_79 => (stI (nw2 L z) (fun L_79 => (stI (va_up R z (fun _ => none)) (fun R_79 => (stI (u2 R_79 44 7 (some z)) (fun R_81 => (some ((z_79, kd_79, I_79, L_79, R_81), 0, 0))))))))))))))) else none) else none) else none) else none)))) else none) else none))))) else none))))) else none))))) else none)))))))))
    else none
set_option maxRecDepth 100000 in
theorem ke_103_0 (n : Nat) (dp : Nat) (z : Nat) (kd : (Nat → Nat × Nat)) (I : JI) (L : JI) (R : (Nat → Nat → Option Nat)) : kf_103 (n + 1) dp 0 z kd I L R = (stI (w2 I 44 3 0) (fun I_2 => (stI (w2 I_2 45 0 0) (fun I_11 => (stI (w2 I_11 45 1 1) (fun I_18 => ((R 44 4).bind (fun b_20 => (if ((b_20 < z) ∧ (((kd b_20).1 = 13) ∧ ((kd b_20).2 < (2 ^ 31)))) ∧ (((0 : Int) ≤ 0) ∧ (0 < (kd b_20).2)) then (stI (w2 I_18 b_20 0 (I_18 26 18)) (fun I_31 => ((R 44 5).bind (fun b_33 => (if ((b_33 < z) ∧ (((kd b_33).1 = 13) ∧ ((kd b_33).2 < (2 ^ 31)))) ∧ (((0 : Int) ≤ 0) ∧ (0 < (kd b_33).2)) then (stI (w2 I_31 b_33 0 0) (fun I_38 => ((R 44 6).bind (fun b_40 => (if ((b_40 < z) ∧ (((kd b_40).1 = 13) ∧ ((kd b_40).2 < (2 ^ 31)))) ∧ (((0 : Int) ≤ 0) ∧ (0 < (kd b_40).2)) then (stI (w2 I_38 b_40 0 1) (fun I_45 => ((R 44 7).bind (fun b_47 => (if (b_47 < z) ∧ ((kd b_47).1 = 13) then (if (kd b_47).2 < 2147483648 then (if (I_45 26 19) ≤ (((kd b_47).2 : Nat) : Int) then (some ((z, kd, I_45, L, R), 0, 0)) else ((R 44 7).bind (fun b_71 => (if (b_71 < z) ∧ ((kd b_71).1 = 13) then (if 1 ≤ dp then (if ((kd b_71).2 < 2147483648) ∧ (-2147483648 ≤ 2 * (((kd b_71).2 : Nat) : Int) ∧ 2 * (((kd b_71).2 : Nat) : Int) ≤ 2147483647) then (if (¬ ((max (I_45 26 19) (2 * (((kd b_71).2 : Nat) : Int))) < 0)) ∧ ((Int.toNat (max (I_45 26 19) (2 * (((kd b_71).2 : Nat) : Int)))) ≤ 10000000) then (adk 1 (Int.toNat (max (I_45 26 19) (2 * (((kd b_71).2 : Nat) : Int)))) (stI (z + 1) (fun z_79 => (stI (va_up kd z (13, (Int.toNat (max (I_45 26 19) (2 * (((kd b_71).2 : Nat) : Int)))))) (fun kd_79 => (stI (nw2 I_45 z) (fun I_79 => (stI (nw2 L z) (fun L_79 => (stI (va_up R z (fun _ => none)) (fun R_79 => (stI (u2 R_79 44 7 (some z)) (fun R_81 => (some ((z_79, kd_79, I_79, L_79, R_81), 0, 0))))))))))))))) else none) else none) else none) else none)))) else none) else none))))) else none))))) else none))))) else none))))))))) := by rw [kf_103.eq_2, if_pos (show (0 : Nat) = 0 from rfl)]
set_option maxHeartbeats 8000000 in
set_option maxRecDepth 100000 in
theorem ks_103 : ∀ (n : Nat) (dp : Nat) (lab : Nat) (z : Nat) (kd : (Nat → Nat × Nat)) (I : Nat → Nat → Int32) (I' : JI) (L : Nat → Nat → Int64) (L' : JI) (R : (Nat → Nat → Option Nat)), Rli I I' → Rll L L' → Sim RPv (g_103 n dp lab z kd I L R) (kf_103 n dp lab z kd I' L' R) := by
  intro n
  induction n with
  | zero => intros; rw [kf_103.eq_1]; exact Sn
  | succ n ih =>
    intro dp lab z kd I I' L L' R u_I u_L
    rw [g_103.eq_2, kf_103.eq_2]
    refine Sc Iff.rfl (fun _ => ?_) (fun _ => ?_)
    · refine SsJ (ri_up u_I (rfl : ((3 : Nat) : Int) = 3) (rfl : Ui (0) (0))) (fun I_2 I_2' u_I_2 => ?_)
      refine SsJ (ri_up u_I_2 (rfl : ((0 : Nat) : Int) = 0) (rfl : Ui (0) (0))) (fun I_11 I_11' u_I_11 => ?_)
      refine SsJ (ri_up u_I_11 (rfl : ((1 : Nat) : Int) = 1) (rfl : Ui (1) (1))) (fun I_18 I_18' u_I_18 => ?_)
      refine SbE rfl (fun b_20 => ?_)
      refine Sc (and_congr Iff.rfl (and_congr (le_up (rfl : Ui 0 0) (rfl : Ui (0) (0))) Iff.rfl)) (fun c1 => ?_) (fun _ => Sn)
      refine SsJ (ri_up u_I_18 (rfl : ((0 : Nat) : Int) = 0) (u_I_18 26 18)) (fun I_31 I_31' u_I_31 => ?_)
      refine SbE rfl (fun b_33 => ?_)
      refine Sc (and_congr Iff.rfl (and_congr (le_up (rfl : Ui 0 0) (rfl : Ui (0) (0))) Iff.rfl)) (fun c2 => ?_) (fun _ => Sn)
      refine SsJ (ri_up u_I_31 (rfl : ((0 : Nat) : Int) = 0) (rfl : Ui (0) (0))) (fun I_38 I_38' u_I_38 => ?_)
      refine SbE rfl (fun b_40 => ?_)
      refine Sc (and_congr Iff.rfl (and_congr (le_up (rfl : Ui 0 0) (rfl : Ui (0) (0))) Iff.rfl)) (fun c3 => ?_) (fun _ => Sn)
      refine SsJ (ri_up u_I_38 (rfl : ((0 : Nat) : Int) = 0) (rfl : Ui (1) (1))) (fun I_45 I_45' u_I_45 => ?_)
      refine SbE rfl (fun b_47 => ?_)
      refine Sc Iff.rfl (fun c4 => ?_) (fun _ => Sn)
      refine Sg (fun g5 => ?_)
      refine Sc (le_up (u_I_45 26 19) (ui_nI g5)) (fun c6 => ?_) (fun c6 => ?_)
      · exact Sr ⟨⟨rfl, rfl, u_I_45, u_L, rfl⟩, rfl⟩
      · refine SbE rfl (fun b_71 => ?_)
        refine Sc Iff.rfl (fun c7 => ?_) (fun _ => Sn)
        refine Sc Iff.rfl (fun c8 => ?_) (fun _ => Sn)
        refine Sg (fun g9 => ?_)
        refine Sc (and_congr (not_congr (lt_up (ui_max (u_I_45 26 19) (ui_mul (rfl : Ui (2) (2)) (ui_nI g9.1) g9.2)) (rfl : Ui 0 0))) (by first | (rw [cl_up (ui_max (u_I_45 26 19) (ui_mul (rfl : Ui (2) (2)) (ui_nI g9.1) g9.2))]; done) | (rw [cl_up (ui_max (u_I_45 26 19) (ui_mul (rfl : Ui (2) (2)) (ui_nI g9.1) g9.2))]; exact Iff.rfl))) (fun c10 => ?_) (fun _ => Sn)
        refine Sa_v (by first | (rw [cl_up (ui_max (u_I_45 26 19) (ui_mul (rfl : Ui (2) (2)) (ui_nI g9.1) g9.2))]; done) | (rw [cl_up (ui_max (u_I_45 26 19) (ui_mul (rfl : Ui (2) (2)) (ui_nI g9.1) g9.2))]; rfl)) ?_
        refine SsE rfl (fun z_79 => ?_)
        refine SsE (by first | (rw [cl_up (ui_max (u_I_45 26 19) (ui_mul (rfl : Ui (2) (2)) (ui_nI g9.1) g9.2))]; done) | (rw [cl_up (ui_max (u_I_45 26 19) (ui_mul (rfl : Ui (2) (2)) (ui_nI g9.1) g9.2))]; rfl)) (fun kd_79 => ?_)
        refine SsJ (ri_nw u_I_45) (fun I_79 I_79' u_I_79 => ?_)
        refine SsM (rl_nw u_L) (fun L_79 L_79' u_L_79 => ?_)
        refine SsE rfl (fun R_79 => ?_)
        refine SsE rfl (fun R_81 => ?_)
        exact Sr ⟨⟨rfl, rfl, u_I_79, u_L_79, rfl⟩, rfl⟩
    exact Sn
set_option maxHeartbeats 4000000 in
set_option maxRecDepth 100000 in
def kf_108 : Nat → Nat → Nat → Nat → (Nat → Nat × Nat) → JI → JI → (Nat → Nat → Option Nat) → Option (PSi × Nat × Nat)
  | 0, _, _, _, _, _, _, _ => none
  | n + 1, dp, lab, z, kd, I, L, R =>
    if lab = 0 then ((R 44 4).bind (fun b_1 => (if (b_1 < z) ∧ ((kd b_1).1 = 13) then (if ((kd b_1).2 < 2147483648) ∧ (-2147483648 ≤ (((kd b_1).2 : Nat) : Int) * 2 ∧ (((kd b_1).2 : Nat) : Int) * 2 ≤ 2147483647) then (stI ((((kd b_1).2 : Nat) : Int) * 2) (fun v_7 => ((R 44 4).bind (fun b_10 => (if 1 ≤ dp then ((kf_109 n (dp - 1) 0 z kd I L R v_7 b_10).bind (fun ⟨⟨x_14, z_14, kd_14, I_14, L_14, R_14⟩, ck_14, cm_14⟩ => (adk ck_14 cm_14 (stI (u2 R_14 44 4 (some x_14)) (fun R_17 => ((R_17 44 5).bind (fun b_22 => (if 1 ≤ dp then ((kf_109 n (dp - 1) 0 z_14 kd_14 I_14 L_14 R_17 v_7 b_22).bind (fun ⟨⟨x_26, z_26, kd_26, I_26, L_26, R_26⟩, ck_26, cm_26⟩ => (adk ck_26 cm_26 (stI (u2 R_26 44 5 (some x_26)) (fun R_29 => ((R_29 44 6).bind (fun b_34 => (if 1 ≤ dp then ((kf_109 n (dp - 1) 0 z_26 kd_26 I_26 L_26 R_29 v_7 b_34).bind (fun ⟨⟨x_38, z_38, kd_38, I_38, L_38, R_38⟩, ck_38, cm_38⟩ => (adk ck_38 cm_38 (stI (u2 R_38 44 6 (some x_38)) (fun R_41 => (some ((z_38, kd_38, I_38, L_38, R_41), 0, 0))))))) else none)))))))) else none)))))))) else none))))) else none) else none)))
    else none
set_option maxRecDepth 100000 in
theorem ke_108_0 (n : Nat) (dp : Nat) (z : Nat) (kd : (Nat → Nat × Nat)) (I : JI) (L : JI) (R : (Nat → Nat → Option Nat)) : kf_108 (n + 1) dp 0 z kd I L R = ((R 44 4).bind (fun b_1 => (if (b_1 < z) ∧ ((kd b_1).1 = 13) then (if ((kd b_1).2 < 2147483648) ∧ (-2147483648 ≤ (((kd b_1).2 : Nat) : Int) * 2 ∧ (((kd b_1).2 : Nat) : Int) * 2 ≤ 2147483647) then (stI ((((kd b_1).2 : Nat) : Int) * 2) (fun v_7 => ((R 44 4).bind (fun b_10 => (if 1 ≤ dp then ((kf_109 n (dp - 1) 0 z kd I L R v_7 b_10).bind (fun ⟨⟨x_14, z_14, kd_14, I_14, L_14, R_14⟩, ck_14, cm_14⟩ => (adk ck_14 cm_14 (stI (u2 R_14 44 4 (some x_14)) (fun R_17 => ((R_17 44 5).bind (fun b_22 => (if 1 ≤ dp then ((kf_109 n (dp - 1) 0 z_14 kd_14 I_14 L_14 R_17 v_7 b_22).bind (fun ⟨⟨x_26, z_26, kd_26, I_26, L_26, R_26⟩, ck_26, cm_26⟩ => (adk ck_26 cm_26 (stI (u2 R_26 44 5 (some x_26)) (fun R_29 => ((R_29 44 6).bind (fun b_34 => (if 1 ≤ dp then ((kf_109 n (dp - 1) 0 z_26 kd_26 I_26 L_26 R_29 v_7 b_34).bind (fun ⟨⟨x_38, z_38, kd_38, I_38, L_38, R_38⟩, ck_38, cm_38⟩ => (adk ck_38 cm_38 (stI (u2 R_38 44 6 (some x_38)) (fun R_41 => (some ((z_38, kd_38, I_38, L_38, R_41), 0, 0))))))) else none)))))))) else none)))))))) else none))))) else none) else none))) := by rw [kf_108.eq_2, if_pos (show (0 : Nat) = 0 from rfl)]
set_option maxHeartbeats 8000000 in
set_option maxRecDepth 100000 in
theorem ks_108 : ∀ (n : Nat) (dp : Nat) (lab : Nat) (z : Nat) (kd : (Nat → Nat × Nat)) (I : Nat → Nat → Int32) (I' : JI) (L : Nat → Nat → Int64) (L' : JI) (R : (Nat → Nat → Option Nat)), Rli I I' → Rll L L' → Sim RPv (g_108 n dp lab z kd I L R) (kf_108 n dp lab z kd I' L' R) := by
  intro n
  induction n with
  | zero => intros; rw [kf_108.eq_1]; exact Sn
  | succ n ih =>
    intro dp lab z kd I I' L L' R u_I u_L
    rw [g_108.eq_2, kf_108.eq_2]
    refine Sc Iff.rfl (fun _ => ?_) (fun _ => ?_)
    · refine SbE rfl (fun b_1 => ?_)
      refine Sc Iff.rfl (fun c1 => ?_) (fun _ => Sn)
      refine Sg (fun g2 => ?_)
      refine SsI (ui_mul (ui_nI g2.1) (rfl : Ui (2) (2)) g2.2) (fun v_7 v_7' u_v_7 => ?_)
      refine SbE rfl (fun b_10 => ?_)
      refine Sc Iff.rfl (fun c3 => ?_) (fun _ => Sn)
      refine SbPn (ks_109 n (dp - 1) 0 z kd _ _ _ _ R _ _ b_10 u_I u_L u_v_7) (fun x_14 z_14 kd_14 I_14 I_14' L_14 L_14' R_14 ck_14 cm_14 u_I_14 u_L_14 => ?_)
      refine Sa_v rfl ?_
      refine SsE rfl (fun R_17 => ?_)
      refine SbE rfl (fun b_22 => ?_)
      refine Sc Iff.rfl (fun c4 => ?_) (fun _ => Sn)
      refine SbPn (ks_109 n (dp - 1) 0 z_14 kd_14 _ _ _ _ R_17 _ _ b_22 u_I_14 u_L_14 u_v_7) (fun x_26 z_26 kd_26 I_26 I_26' L_26 L_26' R_26 ck_26 cm_26 u_I_26 u_L_26 => ?_)
      refine Sa_v rfl ?_
      refine SsE rfl (fun R_29 => ?_)
      refine SbE rfl (fun b_34 => ?_)
      refine Sc Iff.rfl (fun c5 => ?_) (fun _ => Sn)
      refine SbPn (ks_109 n (dp - 1) 0 z_26 kd_26 _ _ _ _ R_29 _ _ b_34 u_I_26 u_L_26 u_v_7) (fun x_38 z_38 kd_38 I_38 I_38' L_38 L_38' R_38 ck_38 cm_38 u_I_38 u_L_38 => ?_)
      refine Sa_v rfl ?_
      refine SsE rfl (fun R_41 => ?_)
      exact Sr ⟨⟨rfl, rfl, u_I_38, u_L_38, rfl⟩, rfl⟩
    exact Sn
set_option maxHeartbeats 4000000 in
set_option maxRecDepth 100000 in
def kf_107 : Nat → Nat → Nat → Nat → (Nat → Nat × Nat) → JI → JI → (Nat → Nat → Option Nat) → Int → Int → Int → Int → Int → Option (PSi × Nat × Nat)
  | 0, _, _, _, _, _, _, _, _, _, _, _, _ => none
  | n + 1, dp, lab, z, kd, I, L, R, i1, i2, i3, i4, i5 =>
    if lab = 0 then (if (I 44 3) < 8 then (if -2147483648 ≤ (I 44 3) + 1 ∧ (I 44 3) + 1 ≤ 2147483647 then (if 0 ≤ ((I 44 3) + 1) ∧ ((I 44 3) + 1) < 10 then (stI (I 45 ((I 44 3) + 1)) (fun v_21 => (if 0 ≤ (I 44 3) ∧ (I 44 3) < 10 then (stI (I 45 (I 44 3)) (fun v_34 => (kf_107 n dp 1 z kd I L R i1 i2 v_21 v_21 v_34))) else none))) else none) else none) else (some ((z, kd, I, L, R), 0, 0)))
    else if lab = 1 then (if i3 ≤ i5 then (kf_107 n dp 3 z kd I L R i1 i2 i3 i4 i3) else ((R 44 4).bind (fun b_43 => (if (b_43 < z) ∧ ((kd b_43).1 = 13) then (if ((kd b_43).2 < 2147483648) ∧ (-2147483648 ≤ (((kd b_43).2 : Nat) : Int) - i4 ∧ (((kd b_43).2 : Nat) : Int) - i4 ≤ 2147483647) then (if 64 ≤ ((((kd b_43).2 : Nat) : Int) - i4) then (kf_107 n dp 2 z kd I L R i1 i2 i3 i4 i5) else (if 1 ≤ dp then ((kf_108 n (dp - 1) 0 z kd I L R).bind (fun ⟨⟨z_56, kd_56, I_56, L_56, R_56⟩, ck_56, cm_56⟩ => (adk ck_56 cm_56 (kf_107 n dp 2 z_56 kd_56 I_56 L_56 R_56 i1 i2 i3 i4 i5)))) else none)) else none) else none))))
    else if lab = 2 then (if 1 ≤ dp then ((kf_110 n (dp - 1) (z, kd, R) 0 I L i5 i1 i2 i4 0 0 0 0 0 0 0 0 0).bind (fun ⟨x_66, I_66, L_66⟩ => (if -2147483648 ≤ i5 + 1 ∧ i5 + 1 ≤ 2147483647 then (kf_107 n dp 1 z kd I_66 L_66 R i1 i2 i3 x_66 (i5 + 1)) else none))) else none)
    else if lab = 3 then (if i4 ≤ i5 then (if 0 ≤ (I 44 3) ∧ (I 44 3) < 8 then (stI (w2 I 46 (I 44 3) i1) (fun I_122 => (if -2147483648 ≤ (I_122 44 3) + 1 ∧ (I_122 44 3) + 1 ≤ 2147483647 then (stI (w2 I_122 44 3 ((I_122 44 3) + 1)) (fun I_130 => (if -2147483648 ≤ (I_130 44 3) + 1 ∧ (I_130 44 3) + 1 ≤ 2147483647 then (if 0 ≤ ((I_130 44 3) + 1) ∧ ((I_130 44 3) + 1) < 10 then (stI (w2 I_130 45 ((I_130 44 3) + 1) i4) (fun I_145 => (some ((z, kd, I_145, L, R), 0, 0)))) else none) else none))) else none))) else none) else ((R 44 7).bind (fun b_88 => ((R 44 4).bind (fun b_96 => (if ((b_96 < z) ∧ (((kd b_96).1 = 13) ∧ ((kd b_96).2 < (2 ^ 31)))) ∧ (0 ≤ i5 ∧ i5 < (((kd b_96).2 : Nat) : Int)) then (if 1 ≤ dp then ((kf_112 n (dp - 1) (z, kd, R) 0 I L (I b_96 i5)).bind (fun ⟨x_102, I_102, L_102⟩ => (if ((b_88 < z) ∧ (((kd b_88).1 = 13) ∧ ((kd b_88).2 < (2 ^ 31)))) ∧ (0 ≤ x_102 ∧ x_102 < (((kd b_88).2 : Nat) : Int)) then (stI (w2 I_102 b_88 x_102 0) (fun I_106 => (if -2147483648 ≤ i5 + 1 ∧ i5 + 1 ≤ 2147483647 then (kf_107 n dp 3 z kd I_106 L_102 R i1 i2 i3 i4 (i5 + 1)) else none))) else none))) else none) else none))))))
    else none
set_option maxRecDepth 100000 in
theorem ke_107_0 (n : Nat) (dp : Nat) (z : Nat) (kd : (Nat → Nat × Nat)) (I : JI) (L : JI) (R : (Nat → Nat → Option Nat)) (i1 : Int) (i2 : Int) (i3 : Int) (i4 : Int) (i5 : Int) : kf_107 (n + 1) dp 0 z kd I L R i1 i2 i3 i4 i5 = (if (I 44 3) < 8 then (if -2147483648 ≤ (I 44 3) + 1 ∧ (I 44 3) + 1 ≤ 2147483647 then (if 0 ≤ ((I 44 3) + 1) ∧ ((I 44 3) + 1) < 10 then (stI (I 45 ((I 44 3) + 1)) (fun v_21 => (if 0 ≤ (I 44 3) ∧ (I 44 3) < 10 then (stI (I 45 (I 44 3)) (fun v_34 => (kf_107 n dp 1 z kd I L R i1 i2 v_21 v_21 v_34))) else none))) else none) else none) else (some ((z, kd, I, L, R), 0, 0))) := by rw [kf_107.eq_2, if_pos (show (0 : Nat) = 0 from rfl)]
set_option maxRecDepth 100000 in
theorem ke_107_1 (n : Nat) (dp : Nat) (z : Nat) (kd : (Nat → Nat × Nat)) (I : JI) (L : JI) (R : (Nat → Nat → Option Nat)) (i1 : Int) (i2 : Int) (i3 : Int) (i4 : Int) (i5 : Int) : kf_107 (n + 1) dp 1 z kd I L R i1 i2 i3 i4 i5 = (if i3 ≤ i5 then (kf_107 n dp 3 z kd I L R i1 i2 i3 i4 i3) else ((R 44 4).bind (fun b_43 => (if (b_43 < z) ∧ ((kd b_43).1 = 13) then (if ((kd b_43).2 < 2147483648) ∧ (-2147483648 ≤ (((kd b_43).2 : Nat) : Int) - i4 ∧ (((kd b_43).2 : Nat) : Int) - i4 ≤ 2147483647) then (if 64 ≤ ((((kd b_43).2 : Nat) : Int) - i4) then (kf_107 n dp 2 z kd I L R i1 i2 i3 i4 i5) else (if 1 ≤ dp then ((kf_108 n (dp - 1) 0 z kd I L R).bind (fun ⟨⟨z_56, kd_56, I_56, L_56, R_56⟩, ck_56, cm_56⟩ => (adk ck_56 cm_56 (kf_107 n dp 2 z_56 kd_56 I_56 L_56 R_56 i1 i2 i3 i4 i5)))) else none)) else none) else none)))) := by rw [kf_107.eq_2, if_neg (show ¬ ((1 : Nat) = 0) by decide), if_pos (show (1 : Nat) = 1 from rfl)]
set_option maxRecDepth 100000 in
theorem ke_107_2 (n : Nat) (dp : Nat) (z : Nat) (kd : (Nat → Nat × Nat)) (I : JI) (L : JI) (R : (Nat → Nat → Option Nat)) (i1 : Int) (i2 : Int) (i3 : Int) (i4 : Int) (i5 : Int) : kf_107 (n + 1) dp 2 z kd I L R i1 i2 i3 i4 i5 = (if 1 ≤ dp then ((kf_110 n (dp - 1) (z, kd, R) 0 I L i5 i1 i2 i4 0 0 0 0 0 0 0 0 0).bind (fun ⟨x_66, I_66, L_66⟩ => (if -2147483648 ≤ i5 + 1 ∧ i5 + 1 ≤ 2147483647 then (kf_107 n dp 1 z kd I_66 L_66 R i1 i2 i3 x_66 (i5 + 1)) else none))) else none) := by rw [kf_107.eq_2, if_neg (show ¬ ((2 : Nat) = 0) by decide), if_neg (show ¬ ((2 : Nat) = 1) by decide), if_pos (show (2 : Nat) = 2 from rfl)]
set_option maxRecDepth 100000 in
theorem ke_107_3 (n : Nat) (dp : Nat) (z : Nat) (kd : (Nat → Nat × Nat)) (I : JI) (L : JI) (R : (Nat → Nat → Option Nat)) (i1 : Int) (i2 : Int) (i3 : Int) (i4 : Int) (i5 : Int) : kf_107 (n + 1) dp 3 z kd I L R i1 i2 i3 i4 i5 = (if i4 ≤ i5 then (if 0 ≤ (I 44 3) ∧ (I 44 3) < 8 then (stI (w2 I 46 (I 44 3) i1) (fun I_122 => (if -2147483648 ≤ (I_122 44 3) + 1 ∧ (I_122 44 3) + 1 ≤ 2147483647 then (stI (w2 I_122 44 3 ((I_122 44 3) + 1)) (fun I_130 => (if -2147483648 ≤ (I_130 44 3) + 1 ∧ (I_130 44 3) + 1 ≤ 2147483647 then (if 0 ≤ ((I_130 44 3) + 1) ∧ ((I_130 44 3) + 1) < 10 then (stI (w2 I_130 45 ((I_130 44 3) + 1) i4) (fun I_145 => (some ((z, kd, I_145, L, R), 0, 0)))) else none) else none))) else none))) else none) else ((R 44 7).bind (fun b_88 => ((R 44 4).bind (fun b_96 => (if ((b_96 < z) ∧ (((kd b_96).1 = 13) ∧ ((kd b_96).2 < (2 ^ 31)))) ∧ (0 ≤ i5 ∧ i5 < (((kd b_96).2 : Nat) : Int)) then (if 1 ≤ dp then ((kf_112 n (dp - 1) (z, kd, R) 0 I L (I b_96 i5)).bind (fun ⟨x_102, I_102, L_102⟩ => (if ((b_88 < z) ∧ (((kd b_88).1 = 13) ∧ ((kd b_88).2 < (2 ^ 31)))) ∧ (0 ≤ x_102 ∧ x_102 < (((kd b_88).2 : Nat) : Int)) then (stI (w2 I_102 b_88 x_102 0) (fun I_106 => (if -2147483648 ≤ i5 + 1 ∧ i5 + 1 ≤ 2147483647 then (kf_107 n dp 3 z kd I_106 L_102 R i1 i2 i3 i4 (i5 + 1)) else none))) else none))) else none) else none)))))) := by rw [kf_107.eq_2, if_neg (show ¬ ((3 : Nat) = 0) by decide), if_neg (show ¬ ((3 : Nat) = 1) by decide), if_neg (show ¬ ((3 : Nat) = 2) by decide), if_pos (show (3 : Nat) = 3 from rfl)]
set_option maxHeartbeats 8000000 in
set_option maxRecDepth 100000 in
theorem ks_107 : ∀ (n : Nat) (dp : Nat) (lab : Nat) (z : Nat) (kd : (Nat → Nat × Nat)) (I : Nat → Nat → Int32) (I' : JI) (L : Nat → Nat → Int64) (L' : JI) (R : (Nat → Nat → Option Nat)) (i1 : Int32) (i1' : Int) (i2 : Int32) (i2' : Int) (i3 : Int32) (i3' : Int) (i4 : Int32) (i4' : Int) (i5 : Int32) (i5' : Int), Rli I I' → Rll L L' → Ui i1 i1' → Ui i2 i2' → Ui i3 i3' → Ui i4 i4' → Ui i5 i5' → Sim RPv (g_107 n dp lab z kd I L R i1 i2 i3 i4 i5) (kf_107 n dp lab z kd I' L' R i1' i2' i3' i4' i5') := by
  intro n
  induction n with
  | zero => intros; rw [kf_107.eq_1]; exact Sn
  | succ n ih =>
    intro dp lab z kd I I' L L' R i1 i1' i2 i2' i3 i3' i4 i4' i5 i5' u_I u_L u_i1 u_i2 u_i3 u_i4 u_i5
    rw [g_107.eq_2, kf_107.eq_2]
    refine Sc Iff.rfl (fun _ => ?_) (fun _ => ?_)
    · refine Sc (lt_up (u_I 44 3) (rfl : Ui (8) (8))) (fun c1 => ?_) (fun c1 => ?_)
      · refine Sg (fun g2 => ?_)
        refine Sc (ix_up (ui_add (u_I 44 3) (rfl : Ui (1) (1)) g2)) (fun c3 => ?_) (fun _ => Sn)
        refine SsI (ui_rd (a := 45) u_I (ui_add (u_I 44 3) (rfl : Ui (1) (1)) g2) c3.1) (fun v_21 v_21' u_v_21 => ?_)
        refine Sc (ix_up (u_I 44 3)) (fun c4 => ?_) (fun _ => Sn)
        refine SsI (ui_rd (a := 45) u_I (u_I 44 3) c4.1) (fun v_34 v_34' u_v_34 => ?_)
        exact (ih dp 1 z kd _ _ _ _ R _ _ _ _ _ _ _ _ _ _ u_I u_L u_i1 u_i2 u_v_21 u_v_21 u_v_34)
      · exact Sr ⟨⟨rfl, rfl, u_I, u_L, rfl⟩, rfl⟩
    refine Sc Iff.rfl (fun _ => ?_) (fun _ => ?_)
    · refine Sc (le_up u_i3 u_i5) (fun c1 => ?_) (fun c1 => ?_)
      · exact (ih dp 3 z kd _ _ _ _ R _ _ _ _ _ _ _ _ _ _ u_I u_L u_i1 u_i2 u_i3 u_i4 u_i3)
      · refine SbE rfl (fun b_43 => ?_)
        refine Sc Iff.rfl (fun c2 => ?_) (fun _ => Sn)
        refine Sg (fun g3 => ?_)
        refine Sc (le_up (rfl : Ui (64) (64)) (ui_sub (ui_nI g3.1) u_i4 g3.2)) (fun c4 => ?_) (fun c4 => ?_)
        · exact (ih dp 2 z kd _ _ _ _ R _ _ _ _ _ _ _ _ _ _ u_I u_L u_i1 u_i2 u_i3 u_i4 u_i5)
        · refine Sc Iff.rfl (fun c5 => ?_) (fun _ => Sn)
          refine SbPv (ks_108 n (dp - 1) 0 z kd _ _ _ _ R u_I u_L) (fun z_56 kd_56 I_56 I_56' L_56 L_56' R_56 ck_56 cm_56 u_I_56 u_L_56 => ?_)
          refine Sa_v rfl ?_
          exact (ih dp 2 z_56 kd_56 _ _ _ _ R_56 _ _ _ _ _ _ _ _ _ _ u_I_56 u_L_56 u_i1 u_i2 u_i3 u_i4 u_i5)
    refine Sc Iff.rfl (fun _ => ?_) (fun _ => ?_)
    · refine Sc Iff.rfl (fun c1 => ?_) (fun _ => Sn)
      refine Sb3 (ks_110 n (dp - 1) (z, kd, R) 0 _ _ _ _ _ _ _ _ _ _ _ _ _ _ _ _ _ _ _ _ _ _ _ _ _ _ _ _ _ _ u_I u_L u_i5 u_i1 u_i2 u_i4 (rfl : Ui 0 0) (rfl : Ui 0 0) (rfl : Ui 0 0) (rfl : Ui 0 0) (rfl : Ui 0 0) (rfl : Ui 0 0) (rfl : Ui 0 0) (rfl : Ui 0 0) (rfl : Ui 0 0)) (fun x_66 x_66' I_66 I_66' L_66 L_66' u_x_66 u_I_66 u_L_66 => ?_)
      refine Sg (fun g2 => ?_)
      exact (ih dp 1 z kd _ _ _ _ R _ _ _ _ _ _ _ _ _ _ u_I_66 u_L_66 u_i1 u_i2 u_i3 u_x_66 (ui_add u_i5 (rfl : Ui (Int32.ofInt (1)) (1)) g2))
    refine Sc Iff.rfl (fun _ => ?_) (fun _ => ?_)
    · refine Sc (le_up u_i4 u_i5) (fun c1 => ?_) (fun c1 => ?_)
      · refine Sc (ix_up (u_I 44 3)) (fun c2 => ?_) (fun _ => Sn)
        refine SsJ (ri_up u_I (kc_up (u_I 44 3) c2.1) u_i1) (fun I_122 I_122' u_I_122 => ?_)
        refine Sg (fun g3 => ?_)
        refine SsJ (ri_up u_I_122 (rfl : ((3 : Nat) : Int) = 3) (ui_add (u_I_122 44 3) (rfl : Ui (1) (1)) g3)) (fun I_130 I_130' u_I_130 => ?_)
        refine Sg (fun g4 => ?_)
        refine Sc (ix_up (ui_add (u_I_130 44 3) (rfl : Ui (1) (1)) g4)) (fun c5 => ?_) (fun _ => Sn)
        refine SsJ (ri_up u_I_130 (kc_up (ui_add (u_I_130 44 3) (rfl : Ui (1) (1)) g4) c5.1) u_i4) (fun I_145 I_145' u_I_145 => ?_)
        exact Sr ⟨⟨rfl, rfl, u_I_145, u_L, rfl⟩, rfl⟩
      · refine SbE rfl (fun b_88 => ?_)
        refine SbE rfl (fun b_96 => ?_)
        refine Sc (and_congr Iff.rfl (ix_up u_i5)) (fun c6 => ?_) (fun _ => Sn)
        refine Sc Iff.rfl (fun c7 => ?_) (fun _ => Sn)
        refine Sb3 (ks_112 n (dp - 1) (z, kd, R) 0 _ _ _ _ _ _ u_I u_L (ui_rd (a := b_96) u_I u_i5 c6.2.1)) (fun x_102 x_102' I_102 I_102' L_102 L_102' u_x_102 u_I_102 u_L_102 => ?_)
        refine Sc (and_congr Iff.rfl (ix_up u_x_102)) (fun c8 => ?_) (fun _ => Sn)
        refine SsJ (ri_up u_I_102 (kc_up u_x_102 c8.2.1) (rfl : Ui (0) (0))) (fun I_106 I_106' u_I_106 => ?_)
        refine Sg (fun g9 => ?_)
        exact (ih dp 3 z kd _ _ _ _ R _ _ _ _ _ _ _ _ _ _ u_I_106 u_L_102 u_i1 u_i2 u_i3 u_i4 (ui_add u_i5 (rfl : Ui (Int32.ofInt (1)) (1)) g9))
    exact Sn
set_option maxHeartbeats 4000000 in
set_option maxRecDepth 100000 in
def kf_106 : Nat → Nat → Nat → Nat → (Nat → Nat × Nat) → JI → JI → (Nat → Nat → Option Nat) → Int → Int → Int → Option (PSi × Nat × Nat)
  | 0, _, _, _, _, _, _, _, _, _, _ => none
  | n + 1, dp, lab, z, kd, I, L, R, i2, i3, i4 =>
    if lab = 0 then (kf_106 n dp 1 z kd I L R i2 0 0)
    else if lab = 1 then (if i2 ≤ i3 then (kf_106 n dp 2 z kd I L R i2 i3 0) else (if (I 44 3) ≤ i3 then (kf_106 n dp 2 z kd I L R i2 i3 0) else (if 0 ≤ i3 ∧ i3 < 8 then (if 0 ≤ i3 ∧ i3 < 8 then (if (I 46 i3) = (I 54 i3) then (if -2147483648 ≤ i3 + 1 ∧ i3 + 1 ≤ 2147483647 then (kf_106 n dp 1 z kd I L R i2 (i3 + 1) 0) else none) else (kf_106 n dp 2 z kd I L R i2 i3 0)) else none) else none)))
    else if lab = 2 then (stI (w2 I 44 3 i3) (fun I_35 => (kf_106 n dp 3 z kd I_35 L R i2 i3 i3)))
    else if lab = 3 then (if i2 ≤ i4 then (some ((z, kd, I, L, R), 0, 0)) else (if 8 ≤ i4 then (some ((z, kd, I, L, R), 0, 0)) else (if 0 ≤ i4 ∧ i4 < 8 then (if 1 ≤ dp then ((kf_107 n (dp - 1) 0 z kd I L R (I 54 i4) (-1) 0 0 0).bind (fun ⟨⟨z_60, kd_60, I_60, L_60, R_60⟩, ck_60, cm_60⟩ => (adk ck_60 cm_60 (if -2147483648 ≤ i4 + 1 ∧ i4 + 1 ≤ 2147483647 then (kf_106 n dp 3 z_60 kd_60 I_60 L_60 R_60 i2 i3 (i4 + 1)) else none)))) else none) else none)))
    else none
set_option maxRecDepth 100000 in
theorem ke_106_0 (n : Nat) (dp : Nat) (z : Nat) (kd : (Nat → Nat × Nat)) (I : JI) (L : JI) (R : (Nat → Nat → Option Nat)) (i2 : Int) (i3 : Int) (i4 : Int) : kf_106 (n + 1) dp 0 z kd I L R i2 i3 i4 = (kf_106 n dp 1 z kd I L R i2 0 0) := by rw [kf_106.eq_2, if_pos (show (0 : Nat) = 0 from rfl)]
set_option maxRecDepth 100000 in
theorem ke_106_1 (n : Nat) (dp : Nat) (z : Nat) (kd : (Nat → Nat × Nat)) (I : JI) (L : JI) (R : (Nat → Nat → Option Nat)) (i2 : Int) (i3 : Int) (i4 : Int) : kf_106 (n + 1) dp 1 z kd I L R i2 i3 i4 = (if i2 ≤ i3 then (kf_106 n dp 2 z kd I L R i2 i3 0) else (if (I 44 3) ≤ i3 then (kf_106 n dp 2 z kd I L R i2 i3 0) else (if 0 ≤ i3 ∧ i3 < 8 then (if 0 ≤ i3 ∧ i3 < 8 then (if (I 46 i3) = (I 54 i3) then (if -2147483648 ≤ i3 + 1 ∧ i3 + 1 ≤ 2147483647 then (kf_106 n dp 1 z kd I L R i2 (i3 + 1) 0) else none) else (kf_106 n dp 2 z kd I L R i2 i3 0)) else none) else none))) := by rw [kf_106.eq_2, if_neg (show ¬ ((1 : Nat) = 0) by decide), if_pos (show (1 : Nat) = 1 from rfl)]
set_option maxRecDepth 100000 in
theorem ke_106_2 (n : Nat) (dp : Nat) (z : Nat) (kd : (Nat → Nat × Nat)) (I : JI) (L : JI) (R : (Nat → Nat → Option Nat)) (i2 : Int) (i3 : Int) (i4 : Int) : kf_106 (n + 1) dp 2 z kd I L R i2 i3 i4 = (stI (w2 I 44 3 i3) (fun I_35 => (kf_106 n dp 3 z kd I_35 L R i2 i3 i3))) := by rw [kf_106.eq_2, if_neg (show ¬ ((2 : Nat) = 0) by decide), if_neg (show ¬ ((2 : Nat) = 1) by decide), if_pos (show (2 : Nat) = 2 from rfl)]
set_option maxRecDepth 100000 in
theorem ke_106_3 (n : Nat) (dp : Nat) (z : Nat) (kd : (Nat → Nat × Nat)) (I : JI) (L : JI) (R : (Nat → Nat → Option Nat)) (i2 : Int) (i3 : Int) (i4 : Int) : kf_106 (n + 1) dp 3 z kd I L R i2 i3 i4 = (if i2 ≤ i4 then (some ((z, kd, I, L, R), 0, 0)) else (if 8 ≤ i4 then (some ((z, kd, I, L, R), 0, 0)) else (if 0 ≤ i4 ∧ i4 < 8 then (if 1 ≤ dp then ((kf_107 n (dp - 1) 0 z kd I L R (I 54 i4) (-1) 0 0 0).bind (fun ⟨⟨z_60, kd_60, I_60, L_60, R_60⟩, ck_60, cm_60⟩ => (adk ck_60 cm_60 (if -2147483648 ≤ i4 + 1 ∧ i4 + 1 ≤ 2147483647 then (kf_106 n dp 3 z_60 kd_60 I_60 L_60 R_60 i2 i3 (i4 + 1)) else none)))) else none) else none))) := by rw [kf_106.eq_2, if_neg (show ¬ ((3 : Nat) = 0) by decide), if_neg (show ¬ ((3 : Nat) = 1) by decide), if_neg (show ¬ ((3 : Nat) = 2) by decide), if_pos (show (3 : Nat) = 3 from rfl)]
set_option maxHeartbeats 8000000 in
set_option maxRecDepth 100000 in
theorem ks_106 : ∀ (n : Nat) (dp : Nat) (lab : Nat) (z : Nat) (kd : (Nat → Nat × Nat)) (I : Nat → Nat → Int32) (I' : JI) (L : Nat → Nat → Int64) (L' : JI) (R : (Nat → Nat → Option Nat)) (i2 : Int32) (i2' : Int) (i3 : Int32) (i3' : Int) (i4 : Int32) (i4' : Int), Rli I I' → Rll L L' → Ui i2 i2' → Ui i3 i3' → Ui i4 i4' → Sim RPv (g_106 n dp lab z kd I L R i2 i3 i4) (kf_106 n dp lab z kd I' L' R i2' i3' i4') := by
  intro n
  induction n with
  | zero => intros; rw [kf_106.eq_1]; exact Sn
  | succ n ih =>
    intro dp lab z kd I I' L L' R i2 i2' i3 i3' i4 i4' u_I u_L u_i2 u_i3 u_i4
    rw [g_106.eq_2, kf_106.eq_2]
    refine Sc Iff.rfl (fun _ => ?_) (fun _ => ?_)
    · exact (ih dp 1 z kd _ _ _ _ R _ _ _ _ _ _ u_I u_L u_i2 (rfl : Ui (0) (0)) (rfl : Ui 0 0))
    refine Sc Iff.rfl (fun _ => ?_) (fun _ => ?_)
    · refine Sc (le_up u_i2 u_i3) (fun c1 => ?_) (fun c1 => ?_)
      · exact (ih dp 2 z kd _ _ _ _ R _ _ _ _ _ _ u_I u_L u_i2 u_i3 (rfl : Ui 0 0))
      · refine Sc (le_up (u_I 44 3) u_i3) (fun c2 => ?_) (fun c2 => ?_)
        · exact (ih dp 2 z kd _ _ _ _ R _ _ _ _ _ _ u_I u_L u_i2 u_i3 (rfl : Ui 0 0))
        · refine Sc (ix_up u_i3) (fun c3 => ?_) (fun _ => Sn)
          refine Sc (ix_up u_i3) (fun c4 => ?_) (fun _ => Sn)
          refine Sc (eq_up (ui_rd (a := 46) u_I u_i3 c4.1) (ui_rd (a := 54) u_I u_i3 c4.1)) (fun c5 => ?_) (fun c5 => ?_)
          · refine Sg (fun g6 => ?_)
            exact (ih dp 1 z kd _ _ _ _ R _ _ _ _ _ _ u_I u_L u_i2 (ui_add u_i3 (rfl : Ui (Int32.ofInt (1)) (1)) g6) (rfl : Ui 0 0))
          · exact (ih dp 2 z kd _ _ _ _ R _ _ _ _ _ _ u_I u_L u_i2 u_i3 (rfl : Ui 0 0))
    refine Sc Iff.rfl (fun _ => ?_) (fun _ => ?_)
    · refine SsJ (ri_up u_I (rfl : ((3 : Nat) : Int) = 3) u_i3) (fun I_35 I_35' u_I_35 => ?_)
      exact (ih dp 3 z kd _ _ _ _ R _ _ _ _ _ _ u_I_35 u_L u_i2 u_i3 u_i3)
    refine Sc Iff.rfl (fun _ => ?_) (fun _ => ?_)
    · refine Sc (le_up u_i2 u_i4) (fun c1 => ?_) (fun c1 => ?_)
      · exact Sr ⟨⟨rfl, rfl, u_I, u_L, rfl⟩, rfl⟩
      · refine Sc (le_up (rfl : Ui (8) (8)) u_i4) (fun c2 => ?_) (fun c2 => ?_)
        · exact Sr ⟨⟨rfl, rfl, u_I, u_L, rfl⟩, rfl⟩
        · refine Sc (ix_up u_i4) (fun c3 => ?_) (fun _ => Sn)
          refine Sc Iff.rfl (fun c4 => ?_) (fun _ => Sn)
          refine SbPv (ks_107 n (dp - 1) 0 z kd _ _ _ _ R _ _ _ _ _ _ _ _ _ _ u_I u_L (ui_rd (a := 54) u_I u_i4 c3.1) (rfl : Ui (-1) (-1)) (rfl : Ui 0 0) (rfl : Ui 0 0) (rfl : Ui 0 0)) (fun z_60 kd_60 I_60 I_60' L_60 L_60' R_60 ck_60 cm_60 u_I_60 u_L_60 => ?_)
          refine Sa_v rfl ?_
          refine Sg (fun g5 => ?_)
          exact (ih dp 3 z_60 kd_60 _ _ _ _ R_60 _ _ _ _ _ _ u_I_60 u_L_60 u_i2 u_i3 (ui_add u_i4 (rfl : Ui (Int32.ofInt (1)) (1)) g5))
    exact Sn
set_option maxHeartbeats 4000000 in
set_option maxRecDepth 100000 in
def kf_104 : Nat → Nat → Nat → Nat → (Nat → Nat × Nat) → JI → JI → (Nat → Nat → Option Nat) → Int → Int → Int → Option (PSi × Nat × Nat)
  | 0, _, _, _, _, _, _, _, _, _, _ => none
  | n + 1, dp, lab, z, kd, I, L, R, i1, i2, i3 =>
    if lab = 0 then (if 1 ≤ dp then ((kf_105 n (dp - 1) (z, kd, R) 0 I L i1 i2 i3 0 0).bind (fun ⟨x_4, I_4, L_4⟩ => (if x_4 = 0 then (stI (w2 I_4 44 8 0) (fun I_19 => (stI (w2 I_19 44 9 1) (fun I_27 => (some ((z, kd, I_27, L_4, R), 0, 0)))))) else (if 1 ≤ dp then (if -2147483648 ≤ x_4 - 1 ∧ x_4 - 1 ≤ 2147483647 then ((kf_106 n (dp - 1) 0 z kd I_4 L_4 R (x_4 - 1) 0 0).bind (fun ⟨⟨z_43, kd_43, I_43, L_43, R_43⟩, ck_43, cm_43⟩ => (adk ck_43 cm_43 (if 0 ≤ (x_4 - 1) ∧ (x_4 - 1) < 8 then (if 1 ≤ dp then ((kf_115 n (dp - 1) (z_43, kd_43, R_43) 0 I_43 L_43 (I_43 54 (x_4 - 1)) (-1) 0 0 0 0 0 0 0).bind (fun ⟨I_60, L_60⟩ => (some ((z_43, kd_43, I_60, L_60, R_43), 0, 0)))) else none) else none)))) else none) else none)))) else none)
    else none
set_option maxRecDepth 100000 in
theorem ke_104_0 (n : Nat) (dp : Nat) (z : Nat) (kd : (Nat → Nat × Nat)) (I : JI) (L : JI) (R : (Nat → Nat → Option Nat)) (i1 : Int) (i2 : Int) (i3 : Int) : kf_104 (n + 1) dp 0 z kd I L R i1 i2 i3 = (if 1 ≤ dp then ((kf_105 n (dp - 1) (z, kd, R) 0 I L i1 i2 i3 0 0).bind (fun ⟨x_4, I_4, L_4⟩ => (if x_4 = 0 then (stI (w2 I_4 44 8 0) (fun I_19 => (stI (w2 I_19 44 9 1) (fun I_27 => (some ((z, kd, I_27, L_4, R), 0, 0)))))) else (if 1 ≤ dp then (if -2147483648 ≤ x_4 - 1 ∧ x_4 - 1 ≤ 2147483647 then ((kf_106 n (dp - 1) 0 z kd I_4 L_4 R (x_4 - 1) 0 0).bind (fun ⟨⟨z_43, kd_43, I_43, L_43, R_43⟩, ck_43, cm_43⟩ => (adk ck_43 cm_43 (if 0 ≤ (x_4 - 1) ∧ (x_4 - 1) < 8 then (if 1 ≤ dp then ((kf_115 n (dp - 1) (z_43, kd_43, R_43) 0 I_43 L_43 (I_43 54 (x_4 - 1)) (-1) 0 0 0 0 0 0 0).bind (fun ⟨I_60, L_60⟩ => (some ((z_43, kd_43, I_60, L_60, R_43), 0, 0)))) else none) else none)))) else none) else none)))) else none) := by rw [kf_104.eq_2, if_pos (show (0 : Nat) = 0 from rfl)]
set_option maxHeartbeats 8000000 in
set_option maxRecDepth 100000 in
theorem ks_104 : ∀ (n : Nat) (dp : Nat) (lab : Nat) (z : Nat) (kd : (Nat → Nat × Nat)) (I : Nat → Nat → Int32) (I' : JI) (L : Nat → Nat → Int64) (L' : JI) (R : (Nat → Nat → Option Nat)) (i1 : Int32) (i1' : Int) (i2 : Int32) (i2' : Int) (i3 : Int32) (i3' : Int), Rli I I' → Rll L L' → Ui i1 i1' → Ui i2 i2' → Ui i3 i3' → Sim RPv (g_104 n dp lab z kd I L R i1 i2 i3) (kf_104 n dp lab z kd I' L' R i1' i2' i3') := by
  intro n
  induction n with
  | zero => intros; rw [kf_104.eq_1]; exact Sn
  | succ n ih =>
    intro dp lab z kd I I' L L' R i1 i1' i2 i2' i3 i3' u_I u_L u_i1 u_i2 u_i3
    rw [g_104.eq_2, kf_104.eq_2]
    refine Sc Iff.rfl (fun _ => ?_) (fun _ => ?_)
    · refine Sc Iff.rfl (fun c1 => ?_) (fun _ => Sn)
      refine Sb3 (ks_105 n (dp - 1) (z, kd, R) 0 _ _ _ _ _ _ _ _ _ _ _ _ _ _ u_I u_L u_i1 u_i2 u_i3 (rfl : Ui 0 0) (rfl : Ui 0 0)) (fun x_4 x_4' I_4 I_4' L_4 L_4' u_x_4 u_I_4 u_L_4 => ?_)
      refine Sc (eq_up u_x_4 (rfl : Ui 0 0)) (fun c2 => ?_) (fun c2 => ?_)
      · refine SsJ (ri_up u_I_4 (rfl : ((8 : Nat) : Int) = 8) (rfl : Ui (0) (0))) (fun I_19 I_19' u_I_19 => ?_)
        refine SsJ (ri_up u_I_19 (rfl : ((9 : Nat) : Int) = 9) (rfl : Ui (1) (1))) (fun I_27 I_27' u_I_27 => ?_)
        exact Sr ⟨⟨rfl, rfl, u_I_27, u_L_4, rfl⟩, rfl⟩
      · refine Sc Iff.rfl (fun c3 => ?_) (fun _ => Sn)
        refine Sg (fun g4 => ?_)
        refine SbPv (ks_106 n (dp - 1) 0 z kd _ _ _ _ R _ _ _ _ _ _ u_I_4 u_L_4 (ui_sub u_x_4 (rfl : Ui (1) (1)) g4) (rfl : Ui 0 0) (rfl : Ui 0 0)) (fun z_43 kd_43 I_43 I_43' L_43 L_43' R_43 ck_43 cm_43 u_I_43 u_L_43 => ?_)
        refine Sa_v rfl ?_
        refine Sc (ix_up (ui_sub u_x_4 (rfl : Ui (1) (1)) g4)) (fun c5 => ?_) (fun _ => Sn)
        refine Sc Iff.rfl (fun c6 => ?_) (fun _ => Sn)
        refine Sb2 (ks_115 n (dp - 1) (z_43, kd_43, R_43) 0 _ _ _ _ _ _ _ _ _ _ _ _ _ _ _ _ _ _ _ _ _ _ u_I_43 u_L_43 (ui_rd (a := 54) u_I_43 (ui_sub u_x_4 (rfl : Ui (1) (1)) g4) c5.1) (rfl : Ui (-1) (-1)) (rfl : Ui 0 0) (rfl : Ui 0 0) (rfl : Ui 0 0) (rfl : Ui 0 0) (rfl : Ui 0 0) (rfl : Ui 0 0) (rfl : Ui 0 0)) (fun I_60 I_60' L_60 L_60' u_I_60 u_L_60 => ?_)
        exact Sr ⟨⟨rfl, rfl, u_I_60, u_L_60, rfl⟩, rfl⟩
    exact Sn
set_option maxHeartbeats 4000000 in
set_option maxRecDepth 100000 in
def kf_95 : Nat → Nat → Nat → Nat → (Nat → Nat × Nat) → JI → JI → (Nat → Nat → Option Nat) → Option (PSi × Nat × Nat)
  | 0, _, _, _, _, _, _, _ => none
  | n + 1, dp, lab, z, kd, I, L, R =>
    if lab = 0 then (if (I 24 14) = 0 then (some ((z, kd, I, L, R), 0, 0)) else (if 1 ≤ dp then ((kf_96 n (dp - 1) (z, kd, R) 0 I L 0).bind (fun ⟨I_19, L_19⟩ => (if 1 ≤ dp then ((kf_103 n (dp - 1) 0 z kd I_19 L_19 R).bind (fun ⟨⟨z_26, kd_26, I_26, L_26, R_26⟩, ck_26, cm_26⟩ => (adk ck_26 cm_26 (stI (w2 I_26 24 14 0) (fun I_31 => (some ((z_26, kd_26, I_31, L_26, R_26), 0, 0))))))) else none))) else none))
    else none
set_option maxRecDepth 100000 in
theorem ke_95_0 (n : Nat) (dp : Nat) (z : Nat) (kd : (Nat → Nat × Nat)) (I : JI) (L : JI) (R : (Nat → Nat → Option Nat)) : kf_95 (n + 1) dp 0 z kd I L R = (if (I 24 14) = 0 then (some ((z, kd, I, L, R), 0, 0)) else (if 1 ≤ dp then ((kf_96 n (dp - 1) (z, kd, R) 0 I L 0).bind (fun ⟨I_19, L_19⟩ => (if 1 ≤ dp then ((kf_103 n (dp - 1) 0 z kd I_19 L_19 R).bind (fun ⟨⟨z_26, kd_26, I_26, L_26, R_26⟩, ck_26, cm_26⟩ => (adk ck_26 cm_26 (stI (w2 I_26 24 14 0) (fun I_31 => (some ((z_26, kd_26, I_31, L_26, R_26), 0, 0))))))) else none))) else none)) := by rw [kf_95.eq_2, if_pos (show (0 : Nat) = 0 from rfl)]
set_option maxHeartbeats 8000000 in
set_option maxRecDepth 100000 in
theorem ks_95 : ∀ (n : Nat) (dp : Nat) (lab : Nat) (z : Nat) (kd : (Nat → Nat × Nat)) (I : Nat → Nat → Int32) (I' : JI) (L : Nat → Nat → Int64) (L' : JI) (R : (Nat → Nat → Option Nat)), Rli I I' → Rll L L' → Sim RPv (g_95 n dp lab z kd I L R) (kf_95 n dp lab z kd I' L' R) := by
  intro n
  induction n with
  | zero => intros; rw [kf_95.eq_1]; exact Sn
  | succ n ih =>
    intro dp lab z kd I I' L L' R u_I u_L
    rw [g_95.eq_2, kf_95.eq_2]
    refine Sc Iff.rfl (fun _ => ?_) (fun _ => ?_)
    · refine Sc (eq_up (u_I 24 14) (rfl : Ui 0 0)) (fun c1 => ?_) (fun c1 => ?_)
      · exact Sr ⟨⟨rfl, rfl, u_I, u_L, rfl⟩, rfl⟩
      · refine Sc Iff.rfl (fun c2 => ?_) (fun _ => Sn)
        refine Sb2 (ks_96 n (dp - 1) (z, kd, R) 0 _ _ _ _ _ _ u_I u_L (rfl : Ui 0 0)) (fun I_19 I_19' L_19 L_19' u_I_19 u_L_19 => ?_)
        refine Sc Iff.rfl (fun c3 => ?_) (fun _ => Sn)
        refine SbPv (ks_103 n (dp - 1) 0 z kd _ _ _ _ R u_I_19 u_L_19) (fun z_26 kd_26 I_26 I_26' L_26 L_26' R_26 ck_26 cm_26 u_I_26 u_L_26 => ?_)
        refine Sa_v rfl ?_
        refine SsJ (ri_up u_I_26 (rfl : ((14 : Nat) : Int) = 14) (rfl : Ui (0) (0))) (fun I_31 I_31' u_I_31 => ?_)
        exact Sr ⟨⟨rfl, rfl, u_I_31, u_L_26, rfl⟩, rfl⟩
    exact Sn
set_option maxHeartbeats 4000000 in
set_option maxRecDepth 100000 in
def kf_92 : Nat → Nat → Nat → Nat → (Nat → Nat × Nat) → JI → JI → (Nat → Nat → Option Nat) → Int → Int → Int → Int → Option ((Int × PSi) × Nat × Nat)
  | 0, _, _, _, _, _, _, _, _, _, _, _ => none
  | n + 1, dp, lab, z, kd, I, L, R, i1, i2, i3, i4 =>
    if lab = 0 then (if 1 ≤ dp then ((kf_14 n (dp - 1) (z, kd, R) 0 I L i1 0 8).bind (fun ⟨x_4, I_4, L_4⟩ => (if x_4 = 0 then (some ((((-1) : Int), z, kd, I_4, L_4, R), 0, 0)) else (if 1 ≤ dp then ((kf_14 n (dp - 1) (z, kd, R) 0 I_4 L_4 i2 0 8).bind (fun ⟨x_14, I_14, L_14⟩ => (if x_14 = 0 then (some ((((-1) : Int), z, kd, I_14, L_14, R), 0, 0)) else (if 1 ≤ dp then ((kf_14 n (dp - 1) (z, kd, R) 0 I_14 L_14 i3 0 8).bind (fun ⟨x_24, I_24, L_24⟩ => (if x_24 = 0 then (some ((((-1) : Int), z, kd, I_24, L_24, R), 0, 0)) else (if (-2147483648 ≤ i1 + i2 ∧ i1 + i2 ≤ 2147483647) ∧ (-2147483648 ≤ (i1 + i2) + i3 ∧ (i1 + i2) + i3 ≤ 2147483647) then (if 8 < ((i1 + i2) + i3) then (some ((((-1) : Int), z, kd, I_24, L_24, R), 0, 0)) else (if 1 ≤ dp then ((kf_93 n (dp - 1) (z, kd, R) 0 I_24 L_24 i1 i2 i3).bind (fun ⟨x_44, I_44, L_44⟩ => (if x_44 = 0 then (some ((((-1) : Int), z, kd, I_44, L_44, R), 0, 0)) else (if 1 ≤ dp then ((kf_94 n (dp - 1) (z, kd, R) 0 I_44 L_44 i1 i2 i3).bind (fun ⟨x_55, I_55, L_55⟩ => (if 0 ≤ x_55 ∧ x_55 < 729 then (if (I_55 53 x_55) = (I_55 24 12) then (kf_92 n dp 1 z kd I_55 L_55 R i1 i2 i3 x_55) else (if 1 ≤ dp then ((kf_95 n (dp - 1) 0 z kd I_55 L_55 R).bind (fun ⟨⟨z_75, kd_75, I_75, L_75, R_75⟩, ck_75, cm_75⟩ => (adk ck_75 cm_75 (if 1 ≤ dp then ((kf_104 n (dp - 1) 0 z_75 kd_75 I_75 L_75 R_75 i1 i2 i3).bind (fun ⟨⟨z_82, kd_82, I_82, L_82, R_82⟩, ck_82, cm_82⟩ => (adk ck_82 cm_82 (if 0 ≤ x_55 ∧ x_55 < 729 then (stI (w2 I_82 53 x_55 (I_82 24 12)) (fun I_95 => (if 0 ≤ x_55 ∧ x_55 < 729 then (if -2147483647 ≤ (I_95 44 8) then (stI (w2 I_95 51 x_55 (Int.tdiv (I_95 44 8) 16)) (fun I_112 => (if 0 ≤ x_55 ∧ x_55 < 729 then (stI (w2 I_112 52 x_55 (I_112 44 9)) (fun I_126 => (kf_92 n dp 1 z_82 kd_82 I_126 L_82 R_82 i1 i2 i3 x_55))) else none))) else none) else none))) else none)))) else none)))) else none)) else none))) else none)))) else none)) else none)))) else none)))) else none)))) else none)
    else if lab = 1 then (if 0 ≤ i4 ∧ i4 < 729 then (some ((((I 51 i4) : Int), z, kd, I, L, R), 0, 0)) else none)
    else none
set_option maxRecDepth 100000 in
theorem ke_92_0 (n : Nat) (dp : Nat) (z : Nat) (kd : (Nat → Nat × Nat)) (I : JI) (L : JI) (R : (Nat → Nat → Option Nat)) (i1 : Int) (i2 : Int) (i3 : Int) (i4 : Int) : kf_92 (n + 1) dp 0 z kd I L R i1 i2 i3 i4 = (if 1 ≤ dp then ((kf_14 n (dp - 1) (z, kd, R) 0 I L i1 0 8).bind (fun ⟨x_4, I_4, L_4⟩ => (if x_4 = 0 then (some ((((-1) : Int), z, kd, I_4, L_4, R), 0, 0)) else (if 1 ≤ dp then ((kf_14 n (dp - 1) (z, kd, R) 0 I_4 L_4 i2 0 8).bind (fun ⟨x_14, I_14, L_14⟩ => (if x_14 = 0 then (some ((((-1) : Int), z, kd, I_14, L_14, R), 0, 0)) else (if 1 ≤ dp then ((kf_14 n (dp - 1) (z, kd, R) 0 I_14 L_14 i3 0 8).bind (fun ⟨x_24, I_24, L_24⟩ => (if x_24 = 0 then (some ((((-1) : Int), z, kd, I_24, L_24, R), 0, 0)) else (if (-2147483648 ≤ i1 + i2 ∧ i1 + i2 ≤ 2147483647) ∧ (-2147483648 ≤ (i1 + i2) + i3 ∧ (i1 + i2) + i3 ≤ 2147483647) then (if 8 < ((i1 + i2) + i3) then (some ((((-1) : Int), z, kd, I_24, L_24, R), 0, 0)) else (if 1 ≤ dp then ((kf_93 n (dp - 1) (z, kd, R) 0 I_24 L_24 i1 i2 i3).bind (fun ⟨x_44, I_44, L_44⟩ => (if x_44 = 0 then (some ((((-1) : Int), z, kd, I_44, L_44, R), 0, 0)) else (if 1 ≤ dp then ((kf_94 n (dp - 1) (z, kd, R) 0 I_44 L_44 i1 i2 i3).bind (fun ⟨x_55, I_55, L_55⟩ => (if 0 ≤ x_55 ∧ x_55 < 729 then (if (I_55 53 x_55) = (I_55 24 12) then (kf_92 n dp 1 z kd I_55 L_55 R i1 i2 i3 x_55) else (if 1 ≤ dp then ((kf_95 n (dp - 1) 0 z kd I_55 L_55 R).bind (fun ⟨⟨z_75, kd_75, I_75, L_75, R_75⟩, ck_75, cm_75⟩ => (adk ck_75 cm_75 (if 1 ≤ dp then ((kf_104 n (dp - 1) 0 z_75 kd_75 I_75 L_75 R_75 i1 i2 i3).bind (fun ⟨⟨z_82, kd_82, I_82, L_82, R_82⟩, ck_82, cm_82⟩ => (adk ck_82 cm_82 (if 0 ≤ x_55 ∧ x_55 < 729 then (stI (w2 I_82 53 x_55 (I_82 24 12)) (fun I_95 => (if 0 ≤ x_55 ∧ x_55 < 729 then (if -2147483647 ≤ (I_95 44 8) then (stI (w2 I_95 51 x_55 (Int.tdiv (I_95 44 8) 16)) (fun I_112 => (if 0 ≤ x_55 ∧ x_55 < 729 then (stI (w2 I_112 52 x_55 (I_112 44 9)) (fun I_126 => (kf_92 n dp 1 z_82 kd_82 I_126 L_82 R_82 i1 i2 i3 x_55))) else none))) else none) else none))) else none)))) else none)))) else none)) else none))) else none)))) else none)) else none)))) else none)))) else none)))) else none) := by rw [kf_92.eq_2, if_pos (show (0 : Nat) = 0 from rfl)]
set_option maxRecDepth 100000 in
theorem ke_92_1 (n : Nat) (dp : Nat) (z : Nat) (kd : (Nat → Nat × Nat)) (I : JI) (L : JI) (R : (Nat → Nat → Option Nat)) (i1 : Int) (i2 : Int) (i3 : Int) (i4 : Int) : kf_92 (n + 1) dp 1 z kd I L R i1 i2 i3 i4 = (if 0 ≤ i4 ∧ i4 < 729 then (some ((((I 51 i4) : Int), z, kd, I, L, R), 0, 0)) else none) := by rw [kf_92.eq_2, if_neg (show ¬ ((1 : Nat) = 0) by decide), if_pos (show (1 : Nat) = 1 from rfl)]
set_option maxHeartbeats 8000000 in
set_option maxRecDepth 100000 in
theorem ks_92 : ∀ (n : Nat) (dp : Nat) (lab : Nat) (z : Nat) (kd : (Nat → Nat × Nat)) (I : Nat → Nat → Int32) (I' : JI) (L : Nat → Nat → Int64) (L' : JI) (R : (Nat → Nat → Option Nat)) (i1 : Int32) (i1' : Int) (i2 : Int32) (i2' : Int) (i3 : Int32) (i3' : Int) (i4 : Int32) (i4' : Int), Rli I I' → Rll L L' → Ui i1 i1' → Ui i2 i2' → Ui i3 i3' → Ui i4 i4' → Sim RPi (g_92 n dp lab z kd I L R i1 i2 i3 i4) (kf_92 n dp lab z kd I' L' R i1' i2' i3' i4') := by
  intro n
  induction n with
  | zero => intros; rw [kf_92.eq_1]; exact Sn
  | succ n ih =>
    intro dp lab z kd I I' L L' R i1 i1' i2 i2' i3 i3' i4 i4' u_I u_L u_i1 u_i2 u_i3 u_i4
    rw [g_92.eq_2, kf_92.eq_2]
    refine Sc Iff.rfl (fun _ => ?_) (fun _ => ?_)
    · refine Sc Iff.rfl (fun c1 => ?_) (fun _ => Sn)
      refine Sb3 (ks_14 n (dp - 1) (z, kd, R) 0 _ _ _ _ _ _ _ _ _ _ u_I u_L u_i1 (rfl : Ui (0) (0)) (rfl : Ui (8) (8))) (fun x_4 x_4' I_4 I_4' L_4 L_4' u_x_4 u_I_4 u_L_4 => ?_)
      refine Sc (eq_up u_x_4 (rfl : Ui 0 0)) (fun c2 => ?_) (fun c2 => ?_)
      · exact Sr ⟨(rfl : Ui (-1) (-1)), ⟨rfl, rfl, u_I_4, u_L_4, rfl⟩, rfl⟩
      · refine Sc Iff.rfl (fun c3 => ?_) (fun _ => Sn)
        refine Sb3 (ks_14 n (dp - 1) (z, kd, R) 0 _ _ _ _ _ _ _ _ _ _ u_I_4 u_L_4 u_i2 (rfl : Ui (0) (0)) (rfl : Ui (8) (8))) (fun x_14 x_14' I_14 I_14' L_14 L_14' u_x_14 u_I_14 u_L_14 => ?_)
        refine Sc (eq_up u_x_14 (rfl : Ui 0 0)) (fun c4 => ?_) (fun c4 => ?_)
        · exact Sr ⟨(rfl : Ui (-1) (-1)), ⟨rfl, rfl, u_I_14, u_L_14, rfl⟩, rfl⟩
        · refine Sc Iff.rfl (fun c5 => ?_) (fun _ => Sn)
          refine Sb3 (ks_14 n (dp - 1) (z, kd, R) 0 _ _ _ _ _ _ _ _ _ _ u_I_14 u_L_14 u_i3 (rfl : Ui (0) (0)) (rfl : Ui (8) (8))) (fun x_24 x_24' I_24 I_24' L_24 L_24' u_x_24 u_I_24 u_L_24 => ?_)
          refine Sc (eq_up u_x_24 (rfl : Ui 0 0)) (fun c6 => ?_) (fun c6 => ?_)
          · exact Sr ⟨(rfl : Ui (-1) (-1)), ⟨rfl, rfl, u_I_24, u_L_24, rfl⟩, rfl⟩
          · refine Sg (fun g7 => ?_)
            refine Sc (lt_up (rfl : Ui (8) (8)) (ui_add (ui_add u_i1 u_i2 g7.1) u_i3 g7.2)) (fun c8 => ?_) (fun c8 => ?_)
            · exact Sr ⟨(rfl : Ui (-1) (-1)), ⟨rfl, rfl, u_I_24, u_L_24, rfl⟩, rfl⟩
            · refine Sc Iff.rfl (fun c9 => ?_) (fun _ => Sn)
              refine Sb3 (ks_93 n (dp - 1) (z, kd, R) 0 _ _ _ _ _ _ _ _ _ _ u_I_24 u_L_24 u_i1 u_i2 u_i3) (fun x_44 x_44' I_44 I_44' L_44 L_44' u_x_44 u_I_44 u_L_44 => ?_)
              refine Sc (eq_up u_x_44 (rfl : Ui 0 0)) (fun c10 => ?_) (fun c10 => ?_)
              · exact Sr ⟨(rfl : Ui (-1) (-1)), ⟨rfl, rfl, u_I_44, u_L_44, rfl⟩, rfl⟩
              · refine Sc Iff.rfl (fun c11 => ?_) (fun _ => Sn)
                refine Sb3 (ks_94 n (dp - 1) (z, kd, R) 0 _ _ _ _ _ _ _ _ _ _ u_I_44 u_L_44 u_i1 u_i2 u_i3) (fun x_55 x_55' I_55 I_55' L_55 L_55' u_x_55 u_I_55 u_L_55 => ?_)
                refine Sc (ix_up u_x_55) (fun c12 => ?_) (fun _ => Sn)
                refine Sc (eq_up (ui_rd (a := 53) u_I_55 u_x_55 c12.1) (u_I_55 24 12)) (fun c13 => ?_) (fun c13 => ?_)
                · exact (ih dp 1 z kd _ _ _ _ R _ _ _ _ _ _ _ _ u_I_55 u_L_55 u_i1 u_i2 u_i3 u_x_55)
                · refine Sc Iff.rfl (fun c14 => ?_) (fun _ => Sn)
                  refine SbPv (ks_95 n (dp - 1) 0 z kd _ _ _ _ R u_I_55 u_L_55) (fun z_75 kd_75 I_75 I_75' L_75 L_75' R_75 ck_75 cm_75 u_I_75 u_L_75 => ?_)
                  refine Sa_i rfl ?_
                  refine Sc Iff.rfl (fun c15 => ?_) (fun _ => Sn)
                  refine SbPv (ks_104 n (dp - 1) 0 z_75 kd_75 _ _ _ _ R_75 _ _ _ _ _ _ u_I_75 u_L_75 u_i1 u_i2 u_i3) (fun z_82 kd_82 I_82 I_82' L_82 L_82' R_82 ck_82 cm_82 u_I_82 u_L_82 => ?_)
                  refine Sa_i rfl ?_
                  refine Sc (ix_up u_x_55) (fun c16 => ?_) (fun _ => Sn)
                  refine SsJ (ri_up u_I_82 (kc_up u_x_55 c16.1) (u_I_82 24 12)) (fun I_95 I_95' u_I_95 => ?_)
                  refine Sc (ix_up u_x_55) (fun c17 => ?_) (fun _ => Sn)
                  refine Sg (fun g18 => ?_)
                  refine SsJ (ri_up u_I_95 (kc_up u_x_55 c17.1) (ui_div (u_I_95 44 8) (rfl : Ui (16) (16)) g18)) (fun I_112 I_112' u_I_112 => ?_)
                  refine Sc (ix_up u_x_55) (fun c19 => ?_) (fun _ => Sn)
                  refine SsJ (ri_up u_I_112 (kc_up u_x_55 c19.1) (u_I_112 44 9)) (fun I_126 I_126' u_I_126 => ?_)
                  exact (ih dp 1 z_82 kd_82 _ _ _ _ R_82 _ _ _ _ _ _ _ _ u_I_126 u_L_82 u_i1 u_i2 u_i3 u_x_55)
    refine Sc Iff.rfl (fun _ => ?_) (fun _ => ?_)
    · refine Sc (ix_up u_i4) (fun c1 => ?_) (fun _ => Sn)
      exact Sr ⟨(ui_rd (a := 51) u_I u_i4 c1.1), ⟨rfl, rfl, u_I, u_L, rfl⟩, rfl⟩
    exact Sn
