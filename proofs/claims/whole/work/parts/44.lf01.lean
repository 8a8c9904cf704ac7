/-! lifted functions 01, printed by lift.py -/
set_option maxHeartbeats 4000000 in
set_option maxRecDepth 100000 in
def kf_74 : Nat → Nat → EN → Nat → JI → JI → Int → Int → Int → Int → Int → Int → Int → Nat → Option (Int × JI × JI)
  | 0, _, _, _, _, _, _, _, _, _, _, _, _, _ => none
  | n + 1, dp, e, lab, I, L, i2, i3, i4, i5, i6, i7, i8, a1 =>
    if lab = 0 then (kf_74 n dp e 1 I L i2 i3 0 i2 i2 0 0 a1)
    else if lab = 1 then (if i3 ≤ i6 then (kf_74 n dp e 7 I L i2 i3 i4 i5 i6 0 0 a1) else (if i3 ≤ i5 then (kf_74 n dp e 7 I L i2 i3 i4 i5 i6 0 0 a1) else (if (I 21 3) = 0 then (if (a1 < e.1) ∧ ((e.2.1 a1).1 = 10) then ((e.2.2 a1 8).bind (fun b_29 => (if ((b_29 < e.1) ∧ (((e.2.1 b_29).1 = 13) ∧ ((e.2.1 b_29).2 < (2 ^ 31)))) ∧ (0 ≤ i5 ∧ i5 < (((e.2.1 b_29).2 : Nat) : Int)) then (stI (I b_29 i5) (fun v_35 => (if (a1 < e.1) ∧ ((e.2.1 a1).1 = 10) then ((e.2.2 a1 9).bind (fun b_38 => (if ((b_38 < e.1) ∧ (((e.2.1 b_38).1 = 13) ∧ ((e.2.1 b_38).2 < (2 ^ 31)))) ∧ (0 ≤ i5 ∧ i5 < (((e.2.1 b_38).2 : Nat) : Int)) then (stI (I b_38 i5) (fun v_44 => (if v_35 = 0 then (if -2147483648 ≤ i5 + 1 ∧ i5 + 1 ≤ 2147483647 then (kf_74 n dp e 2 I L i2 i3 i4 (i5 + 1) i6 v_35 v_44 a1) else none) else (if v_35 = 1 then (if -2147483648 ≤ i5 + 1 ∧ i5 + 1 ≤ 2147483647 then (kf_74 n dp e 2 I L i2 i3 i4 (i5 + 1) i6 v_35 v_44 a1) else none) else (if v_35 = 9 then (if i4 ≤ 0 then (if -2147483648 ≤ i5 + 1 ∧ i5 + 1 ≤ 2147483647 then (kf_74 n dp e 3 I L i2 i3 i4 (i5 + 1) i6 v_35 v_44 a1) else none) else (if -2147483648 ≤ i4 - 1 ∧ i4 - 1 ≤ 2147483647 then (if 0 ≤ (i4 - 1) ∧ (i4 - 1) < 64 then (if 0 ≤ (i4 - 1) ∧ (i4 - 1) < 64 then (if -2147483648 ≤ 1 - (I 23 (i4 - 1)) ∧ 1 - (I 23 (i4 - 1)) ≤ 2147483647 then (stI (w2 I 23 (i4 - 1) (1 - (I 23 (i4 - 1)))) (fun I_134 => (if -2147483648 ≤ i5 + 1 ∧ i5 + 1 ≤ 2147483647 then (kf_74 n dp e 6 I_134 L i2 i3 i4 (i5 + 1) i6 v_35 v_44 a1) else none))) else none) else none) else none) else none)) else (if -2147483648 ≤ i5 + 1 ∧ i5 + 1 ≤ 2147483647 then (kf_74 n dp e 3 I L i2 i3 i4 (i5 + 1) i6 v_35 v_44 a1) else none)))))) else none))) else none))) else none))) else none) else (kf_74 n dp e 7 I L i2 i3 i4 i5 i6 0 0 a1))))
    else if lab = 2 then (if 1 ≤ dp then (if i7 = 0 then (if 0 ≤ (min 63 i4) ∧ (min 63 i4) < 64 then (stI (w2 I 23 (min 63 i4) i8) (fun I_88 => (if 1 ≤ dp then (if -2147483648 ≤ i4 + 1 ∧ i4 + 1 ≤ 2147483647 then (stI (min 64 (i4 + 1)) (fun v_98 => (kf_74 n dp e 6 I_88 L i2 i3 v_98 i5 i6 i7 i8 a1))) else none) else none))) else none) else (if 0 ≤ i8 ∧ i8 < 5 then (if 0 ≤ (min 63 i4) ∧ (min 63 i4) < 64 then (stI (w2 I 23 (min 63 i4) (I 22 i8)) (fun I_88 => (if 1 ≤ dp then (if -2147483648 ≤ i4 + 1 ∧ i4 + 1 ≤ 2147483647 then (stI (min 64 (i4 + 1)) (fun v_98 => (kf_74 n dp e 6 I_88 L i2 i3 v_98 i5 i6 i7 i8 a1))) else none) else none))) else none) else none)) else none)
    else if lab = 3 then (if i7 = 10 then (kf_74 n dp e 4 I L i2 i3 i4 i5 i6 i7 i8 a1) else (if i7 = 11 then (kf_74 n dp e 4 I L i2 i3 i4 i5 i6 i7 i8 a1) else (kf_74 n dp e 5 I L i2 i3 i4 i5 i6 i7 i8 a1)))
    else if lab = 4 then (if i4 ≤ 0 then (kf_74 n dp e 5 I L i2 i3 i4 i5 i6 i7 i8 a1) else (if -2147483648 ≤ i4 - 1 ∧ i4 - 1 ≤ 2147483647 then (if 0 ≤ (i4 - 1) ∧ (i4 - 1) < 64 then (if i7 = 10 then (if (I 23 (i4 - 1)) = 1 then (if 1 ≤ dp then (stI (max i5 i8) (fun v_188 => (kf_74 n dp e 6 I L i2 i3 i4 v_188 i6 i7 i8 a1))) else none) else (if -2147483648 ≤ i4 + (-1) ∧ i4 + (-1) ≤ 2147483647 then (kf_74 n dp e 6 I L i2 i3 (i4 + (-1)) i5 i6 i7 i8 a1) else none)) else (if (I 23 (i4 - 1)) = 0 then (if 1 ≤ dp then (stI (max i5 i8) (fun v_188 => (kf_74 n dp e 6 I L i2 i3 i4 v_188 i6 i7 i8 a1))) else none) else (if -2147483648 ≤ i4 + (-1) ∧ i4 + (-1) ≤ 2147483647 then (kf_74 n dp e 6 I L i2 i3 (i4 + (-1)) i5 i6 i7 i8 a1) else none))) else none) else none))
    else if lab = 5 then (if i4 ≤ 1 then (kf_74 n dp e 6 I L i2 i3 i4 i5 i6 i7 i8 a1) else (if (-2147483648 ≤ i4 + (-1) ∧ i4 + (-1) ≤ 2147483647) ∧ (-2147483648 ≤ (i4 + (-1)) - 1 ∧ (i4 + (-1)) - 1 ≤ 2147483647) then (if 0 ≤ ((i4 + (-1)) - 1) ∧ ((i4 + (-1)) - 1) < 64 then (if 0 ≤ (i4 + (-1)) ∧ (i4 + (-1)) < 64 then (if 1 ≤ dp then ((kf_76 n (dp - 1) e 0 I L i7 (I 23 ((i4 + (-1)) - 1)) (I 23 (i4 + (-1)))).bind (fun ⟨x0_228, I0_228, L0_228⟩ => (if 1000000000 < x0_228 then (stI (w2 I0_228 21 3 1) (fun I_257 => (if 0 ≤ ((i4 + (-1)) - 1) ∧ ((i4 + (-1)) - 1) < 64 then (stI (w2 I_257 23 ((i4 + (-1)) - 1) (l2i x0_228)) (fun I_271 => (kf_74 n dp e 6 I_271 L0_228 i2 i3 (i4 + (-1)) i5 i6 i7 i8 a1))) else none))) else (if (-1000000000) ≤ x0_228 then (stI (w2 I0_228 21 3 0) (fun I_257 => (if 0 ≤ ((i4 + (-1)) - 1) ∧ ((i4 + (-1)) - 1) < 64 then (stI (w2 I_257 23 ((i4 + (-1)) - 1) (l2i x0_228)) (fun I_271 => (kf_74 n dp e 6 I_271 L0_228 i2 i3 (i4 + (-1)) i5 i6 i7 i8 a1))) else none))) else (stI (w2 I0_228 21 3 1) (fun I_257 => (if 0 ≤ ((i4 + (-1)) - 1) ∧ ((i4 + (-1)) - 1) < 64 then (stI (w2 I_257 23 ((i4 + (-1)) - 1) (l2i x0_228)) (fun I_271 => (kf_74 n dp e 6 I_271 L0_228 i2 i3 (i4 + (-1)) i5 i6 i7 i8 a1))) else none))))))) else none) else none) else none) else none))
    else if lab = 6 then (if -2147483648 ≤ i6 + 1 ∧ i6 + 1 ≤ 2147483647 then (kf_74 n dp e 1 I L i2 i3 i4 i5 (i6 + 1) 0 0 a1) else none)
    else if lab = 7 then (if i4 ≤ 0 then (some ((0 : Int), I, L)) else (if -2147483648 ≤ i4 - 1 ∧ i4 - 1 ≤ 2147483647 then (if 0 ≤ (i4 - 1) ∧ (i4 - 1) < 64 then (some (((I 23 (i4 - 1)) : Int), I, L)) else none) else none))
    else none
set_option maxRecDepth 100000 in
theorem ke_74_0 (n : Nat) (dp : Nat) (e : EN) (I : JI) (L : JI) (i2 : Int) (i3 : Int) (i4 : Int) (i5 : Int) (i6 : Int) (i7 : Int) (i8 : Int) (a1 : Nat) : kf_74 (n + 1) dp e 0 I L i2 i3 i4 i5 i6 i7 i8 a1 = (kf_74 n dp e 1 I L i2 i3 0 i2 i2 0 0 a1) := by rw [kf_74.eq_2, if_pos (show (0 : Nat) = 0 from rfl)]
set_option maxRecDepth 100000 in
theorem ke_74_1 (n : Nat) (dp : Nat) (e : EN) (I : JI) (L : JI) (i2 : Int) (i3 : Int) (i4 : Int) (i5 : Int) (i6 : Int) (i7 : Int) (i8 : Int) (a1 : Nat) : kf_74 (n + 1) dp e 1 I L i2 i3 i4 i5 i6 i7 i8 a1 = (if i3 ≤ i6 then (kf_74 n dp e 7 I L i2 i3 i4 i5 i6 0 0 a1) else (if i3 ≤ i5 then (kf_74 n dp e 7 I L i2 i3 i4 i5 i6 0 0 a1) else (if (I 21 3) = 0 then (if (a1 < e.1) ∧ ((e.2.1 a1).1 = 10) then ((e.2.2 a1 8).bind (fun b_29 => (if ((b_29 < e.1) ∧ (((e.2.1 b_29).1 = 13) ∧ ((e.2.1 b_29).2 < (2 ^ 31)))) ∧ (0 ≤ i5 ∧ i5 < (((e.2.1 b_29).2 : Nat) : Int)) then (stI (I b_29 i5) (fun v_35 => (if (a1 < e.1) ∧ ((e.2.1 a1).1 = 10) then ((e.2.2 a1 9).bind (fun b_38 => (if ((b_38 < e.1) ∧ (((e.2.1 b_38).1 = 13) ∧ ((e.2.1 b_38).2 < (2 ^ 31)))) ∧ (0 ≤ i5 ∧ i5 < (((e.2.1 b_38).2 : Nat) : Int)) then (stI (I b_38 i5) (fun v_44 => (if v_35 = 0 then (if -2147483648 ≤ i5 + 1 ∧ i5 + 1 ≤ 2147483647 then (kf_74 n dp e 2 I L i2 i3 i4 (i5 + 1) i6 v_35 v_44 a1) else none) else (if v_35 = 1 then (if -2147483648 ≤ i5 + 1 ∧ i5 + 1 ≤ 2147483647 then (kf_74 n dp e 2 I L i2 i3 i4 (i5 + 1) i6 v_35 v_44 a1) else none) else (if v_35 = 9 then (if i4 ≤ 0 then (if -2147483648 ≤ i5 + 1 ∧ i5 + 1 ≤ 2147483647 then (kf_74 n dp e 3 I L i2 i3 i4 (i5 + 1) i6 v_35 v_44 a1) else none) else (if -2147483648 ≤ i4 - 1 ∧ i4 - 1 ≤ 2147483647 then (if 0 ≤ (i4 - 1) ∧ (i4 - 1) < 64 then (if 0 ≤ (i4 - 1) ∧ (i4 - 1) < 64 then (if -2147483648 ≤ 1 - (I 23 (i4 - 1)) ∧ 1 - (I 23 (i4 - 1)) ≤ 2147483647 then (stI (w2 I 23 (i4 - 1) (1 - (I 23 (i4 - 1)))) (fun I_134 => (if -2147483648 ≤ i5 + 1 ∧ i5 + 1 ≤ 2147483647 then (kf_74 n dp e 6 I_134 L i2 i3 i4 (i5 + 1) i6 v_35 v_44 a1) else none))) else none) else none) else none) else none)) else (if -2147483648 ≤ i5 + 1 ∧ i5 + 1 ≤ 2147483647 then (kf_74 n dp e 3 I L i2 i3 i4 (i5 + 1) i6 v_35 v_44 a1) else none)))))) else none))) else none))) else none))) else none) else (kf_74 n dp e 7 I L i2 i3 i4 i5 i6 0 0 a1)))) := by rw [kf_74.eq_2, if_neg (show ¬ ((1 : Nat) = 0) by decide), if_pos (show (1 : Nat) = 1 from rfl)]
set_option maxRecDepth 100000 in
theorem ke_74_2 (n : Nat) (dp : Nat) (e : EN) (I : JI) (L : JI) (i2 : Int) (i3 : Int) (i4 : Int) (i5 : Int) (i6 : Int) (i7 : Int) (i8 : Int) (a1 : Nat) : kf_74 (n + 1) dp e 2 I L i2 i3 i4 i5 i6 i7 i8 a1 = (if 1 ≤ dp then (if i7 = 0 then (if 0 ≤ (min 63 i4) ∧ (min 63 i4) < 64 then (stI (w2 I 23 (min 63 i4) i8) (fun I_88 => (if 1 ≤ dp then (if -2147483648 ≤ i4 + 1 ∧ i4 + 1 ≤ 2147483647 then (stI (min 64 (i4 + 1)) (fun v_98 => (kf_74 n dp e 6 I_88 L i2 i3 v_98 i5 i6 i7 i8 a1))) else none) else none))) else none) else (if 0 ≤ i8 ∧ i8 < 5 then (if 0 ≤ (min 63 i4) ∧ (min 63 i4) < 64 then (stI (w2 I 23 (min 63 i4) (I 22 i8)) (fun I_88 => (if 1 ≤ dp then (if -2147483648 ≤ i4 + 1 ∧ i4 + 1 ≤ 2147483647 then (stI (min 64 (i4 + 1)) (fun v_98 => (kf_74 n dp e 6 I_88 L i2 i3 v_98 i5 i6 i7 i8 a1))) else none) else none))) else none) else none)) else none) := by rw [kf_74.eq_2, if_neg (show ¬ ((2 : Nat) = 0) by decide), if_neg (show ¬ ((2 : Nat) = 1) by decide), if_pos (show (2 : Nat) = 2 from rfl)]
set_option maxRecDepth 100000 in
theorem ke_74_3 (n : Nat) (dp : Nat) (e : EN) (I : JI) (L : JI) (i2 : Int) (i3 : Int) (i4 : Int) (i5 : Int) (i6 : Int) (i7 : Int) (i8 : Int) (a1 : Nat) : kf_74 (n + 1) dp e 3 I L i2 i3 i4 i5 i6 i7 i8 a1 = (if i7 = 10 then (kf_74 n dp e 4 I L i2 i3 i4 i5 i6 i7 i8 a1) else (if i7 = 11 then (kf_74 n dp e 4 I L i2 i3 i4 i5 i6 i7 i8 a1) else (kf_74 n dp e 5 I L i2 i3 i4 i5 i6 i7 i8 a1))) := by rw [kf_74.eq_2, if_neg (show ¬ ((3 : Nat) = 0) by decide), if_neg (show ¬ ((3 : Nat) = 1) by decide), if_neg (show ¬ ((3 : Nat) = 2) by decide), if_pos (show (3 : Nat) = 3 from rfl)]
set_option maxRecDepth 100000 in
theorem ke_74_4 (n : Nat) (dp : Nat) (e : EN) (I : JI) (L : JI) (i2 : Int) (i3 : Int) (i4 : Int) (i5 : Int) (i6 : Int) (i7 : Int) (i8 : Int) (a1 : Nat) : kf_74 (n + 1) dp e 4 I L i2 i3 i4 i5 i6 i7 i8 a1 = (if i4 ≤ 0 then (kf_74 n dp e 5 I L i2 i3 i4 i5 i6 i7 i8 a1) else (if -2147483648 ≤ i4 - 1 ∧ i4 - 1 ≤ 2147483647 then (if 0 ≤ (i4 - 1) ∧ (i4 - 1) < 64 then (if i7 = 10 then (if (I 23 (i4 - 1)) = 1 then (if 1 ≤ dp then (stI (max i5 i8) (fun v_188 => (kf_74 n dp e 6 I L i2 i3 i4 v_188 i6 i7 i8 a1))) else none) else (if -2147483648 ≤ i4 + (-1) ∧ i4 + (-1) ≤ 2147483647 then (kf_74 n dp e 6 I L i2 i3 (i4 + (-1)) i5 i6 i7 i8 a1) else none)) else (if (I 23 (i4 - 1)) = 0 then (if 1 ≤ dp then (stI (max i5 i8) (fun v_188 => (kf_74 n dp e 6 I L i2 i3 i4 v_188 i6 i7 i8 a1))) else none) else (if -2147483648 ≤ i4 + (-1) ∧ i4 + (-1) ≤ 2147483647 then (kf_74 n dp e 6 I L i2 i3 (i4 + (-1)) i5 i6 i7 i8 a1) else none))) else none) else none)) := by rw [kf_74.eq_2, if_neg (show ¬ ((4 : Nat) = 0) by decide), if_neg (show ¬ ((4 : Nat) = 1) by decide), if_neg (show ¬ ((4 : Nat) = 2) by decide), if_neg (show ¬ ((4 : Nat) = 3) by decide), if_pos (show (4 : Nat) = 4 from rfl)]
set_option maxRecDepth 100000 in
theorem ke_74_5 (n : Nat) (dp : Nat) (e : EN) (I : JI) (L : JI) (i2 : Int) (i3 : Int) (i4 : Int) (i5 : Int) (i6 : Int) (i7 : Int) (i8 : Int) (a1 : Nat) : kf_74 (n + 1) dp e 5 I L i2 i3 i4 i5 i6 i7 i8 a1 = (if i4 ≤ 1 then (kf_74 n dp e 6 I L i2 i3 i4 i5 i6 i7 i8 a1) else (if (-2147483648 ≤ i4 + (-1) ∧ i4 + (-1) ≤ 2147483647) ∧ (-2147483648 ≤ (i4 + (-1)) - 1 ∧ (i4 + (-1)) - 1 ≤ 2147483647) then (if 0 ≤ ((i4 + (-1)) - 1) ∧ ((i4 + (-1)) - 1) < 64 then (if 0 ≤ (i4 + (-1)) ∧ (i4 + (-1)) < 64 then (if 1 ≤ dp then ((kf_76 n (dp - 1) e 0 I L i7 (I 23 ((i4 + (-1)) - 1)) (I 23 (i4 + (-1)))).bind (fun ⟨x0_228, I0_228, L0_228⟩ => (if 1000000000 < x0_228 then (stI (w2 I0_228 21 3 1) (fun I_257 => (if 0 ≤ ((i4 + (-1)) - 1) ∧ ((i4 + (-1)) - 1) < 64 then (stI (w2 I_257 23 ((i4 + (-1)) - 1) (l2i x0_228)) (fun I_271 => (kf_74 n dp e 6 I_271 L0_228 i2 i3 (i4 + (-1)) i5 i6 i7 i8 a1))) else none))) else (if (-1000000000) ≤ x0_228 then (stI (w2 I0_228 21 3 0) (fun I_257 => (if 0 ≤ ((i4 + (-1)) - 1) ∧ ((i4 + (-1)) - 1) < 64 then (stI (w2 I_257 23 ((i4 + (-1)) - 1) (l2i x0_228)) (fun I_271 => (kf_74 n dp e 6 I_271 L0_228 i2 i3 (i4 + (-1)) i5 i6 i7 i8 a1))) else none))) else (stI (w2 I0_228 21 3 1) (fun I_257 => (if 0 ≤ ((i4 + (-1)) - 1) ∧ ((i4 + (-1)) - 1) < 64 then (stI (w2 I_257 23 ((i4 + (-1)) - 1) (l2i x0_228)) (fun I_271 => (kf_74 n dp e 6 I_271 L0_228 i2 i3 (i4 + (-1)) i5 i6 i7 i8 a1))) else none))))))) else none) else none) else none) else none)) := by rw [kf_74.eq_2, if_neg (show ¬ ((5 : Nat) = 0) by decide), if_neg (show ¬ ((5 : Nat) = 1) by decide), if_neg (show ¬ ((5 : Nat) = 2) by decide), if_neg (show ¬ ((5 : Nat) = 3) by decide), if_neg (show ¬ ((5 : Nat) = 4) by decide), if_pos (show (5 : Nat) = 5 from rfl)]
set_option maxRecDepth 100000 in
theorem ke_74_6 (n : Nat) (dp : Nat) (e : EN) (I : JI) (L : JI) (i2 : Int) (i3 : Int) (i4 : Int) (i5 : Int) (i6 : Int) (i7 : Int) (i8 : Int) (a1 : Nat) : kf_74 (n + 1) dp e 6 I L i2 i3 i4 i5 i6 i7 i8 a1 = (if -2147483648 ≤ i6 + 1 ∧ i6 + 1 ≤ 2147483647 then (kf_74 n dp e 1 I L i2 i3 i4 i5 (i6 + 1) 0 0 a1) else none) := by rw [kf_74.eq_2, if_neg (show ¬ ((6 : Nat) = 0) by decide), if_neg (show ¬ ((6 : Nat) = 1) by decide), if_neg (show ¬ ((6 : Nat) = 2) by decide), if_neg (show ¬ ((6 : Nat) = 3) by decide), if_neg (show ¬ ((6 : Nat) = 4) by decide), if_neg (show ¬ ((6 : Nat) = 5) by decide), if_pos (show (6 : Nat) = 6 from rfl)]
set_option maxRecDepth 100000 in
theorem ke_74_7 (n : Nat) (dp : Nat) (e : EN) (I : JI) (L : JI) (i2 : Int) (i3 : Int) (i4 : Int) (i5 : Int) (i6 : Int) (i7 : Int) (i8 : Int) (a1 : Nat) : kf_74 (n + 1) dp e 7 I L i2 i3 i4 i5 i6 i7 i8 a1 = (if i4 ≤ 0 then (some ((0 : Int), I, L)) else (if -2147483648 ≤ i4 - 1 ∧ i4 - 1 ≤ 2147483647 then (if 0 ≤ (i4 - 1) ∧ (i4 - 1) < 64 then (some (((I 23 (i4 - 1)) : Int), I, L)) else none) else none)) := by rw [kf_74.eq_2, if_neg (show ¬ ((7 : Nat) = 0) by decide), if_neg (show ¬ ((7 : Nat) = 1) by decide), if_neg (show ¬ ((7 : Nat) = 2) by decide), if_neg (show ¬ ((7 : Nat) = 3) by decide), if_neg (show ¬ ((7 : Nat) = 4) by decide), if_neg (show ¬ ((7 : Nat) = 5) by decide), if_neg (show ¬ ((7 : Nat) = 6) by decide), if_pos (show (7 : Nat) = 7 from rfl)]
set_option maxHeartbeats 8000000 in
set_option maxRecDepth 100000 in
theorem ks_74 : ∀ (n : Nat) (dp : Nat) (e : EN) (lab : Nat) (I : Nat → Nat → Int32) (I' : JI) (L : Nat → Nat → Int64) (L' : JI) (i2 : Int32) (i2' : Int) (i3 : Int32) (i3' : Int) (i4 : Int32) (i4' : Int) (i5 : Int32) (i5' : Int) (i6 : Int32) (i6' : Int) (i7 : Int32) (i7' : Int) (i8 : Int32) (i8' : Int) (a1 : Nat), Rli I I' → Rll L L' → Ui i2 i2' → Ui i3 i3' → Ui i4 i4' → Ui i5 i5' → Ui i6 i6' → Ui i7 i7' → Ui i8 i8' → Sim R3 (g_74 n dp e lab I L i2 i3 i4 i5 i6 i7 i8 a1) (kf_74 n dp e lab I' L' i2' i3' i4' i5' i6' i7' i8' a1) := by
  intro n
  induction n with
  | zero => intros; rw [kf_74.eq_1]; exact Sn
  | succ n ih =>
    intro dp e lab I I' L L' i2 i2' i3 i3' i4 i4' i5 i5' i6 i6' i7 i7' i8 i8' a1 u_I u_L u_i2 u_i3 u_i4 u_i5 u_i6 u_i7 u_i8
    rw [g_74.eq_2, kf_74.eq_2]
    refine Sc Iff.rfl (fun _ => ?_) (fun _ => ?_)
    · exact (ih dp e 1 _ _ _ _ _ _ _ _ _ _ _ _ _ _ _ _ _ _ a1 u_I u_L u_i2 u_i3 (rfl : Ui (0) (0)) u_i2 u_i2 (rfl : Ui 0 0) (rfl : Ui 0 0))
    refine Sc Iff.rfl (fun _ => ?_) (fun _ => ?_)
    · refine Sc (le_up u_i3 u_i6) (fun c1 => ?_) (fun c1 => ?_)
      · exact (ih dp e 7 _ _ _ _ _ _ _ _ _ _ _ _ _ _ _ _ _ _ a1 u_I u_L u_i2 u_i3 u_i4 u_i5 u_i6 (rfl : Ui 0 0) (rfl : Ui 0 0))
      · refine Sc (le_up u_i3 u_i5) (fun c2 => ?_) (fun c2 => ?_)
        · exact (ih dp e 7 _ _ _ _ _ _ _ _ _ _ _ _ _ _ _ _ _ _ a1 u_I u_L u_i2 u_i3 u_i4 u_i5 u_i6 (rfl : Ui 0 0) (rfl : Ui 0 0))
        · refine Sc (eq_up (u_I 21 3) (rfl : Ui 0 0)) (fun c3 => ?_) (fun c3 => ?_)
          · refine Sc Iff.rfl (fun c4 => ?_) (fun _ => Sn)
            refine SbE rfl (fun b_29 => ?_)
            refine Sc (and_congr Iff.rfl (ix_up u_i5)) (fun c5 => ?_) (fun _ => Sn)
            refine SsI (ui_rd (a := b_29) u_I u_i5 c5.2.1) (fun v_35 v_35' u_v_35 => ?_)
            refine Sc Iff.rfl (fun c6 => ?_) (fun _ => Sn)
            refine SbE rfl (fun b_38 => ?_)
            refine Sc (and_congr Iff.rfl (ix_up u_i5)) (fun c7 => ?_) (fun _ => Sn)
            refine SsI (ui_rd (a := b_38) u_I u_i5 c7.2.1) (fun v_44 v_44' u_v_44 => ?_)
            refine Sc (eq_up u_v_35 (rfl : Ui 0 0)) (fun c8 => ?_) (fun c8 => ?_)
            · refine Sg (fun g9 => ?_)
              exact (ih dp e 2 _ _ _ _ _ _ _ _ _ _ _ _ _ _ _ _ _ _ a1 u_I u_L u_i2 u_i3 u_i4 (ui_add u_i5 (rfl : Ui (Int32.ofInt (1)) (1)) g9) u_i6 u_v_35 u_v_44)
            · refine Sc (eq_up u_v_35 (rfl : Ui (1) (1))) (fun c10 => ?_) (fun c10 => ?_)
              · refine Sg (fun g11 => ?_)
                exact (ih dp e 2 _ _ _ _ _ _ _ _ _ _ _ _ _ _ _ _ _ _ a1 u_I u_L u_i2 u_i3 u_i4 (ui_add u_i5 (rfl : Ui (Int32.ofInt (1)) (1)) g11) u_i6 u_v_35 u_v_44)
              · refine Sc (eq_up u_v_35 (rfl : Ui (9) (9))) (fun c12 => ?_) (fun c12 => ?_)
                · refine Sc (le_up u_i4 (rfl : Ui 0 0)) (fun c13 => ?_) (fun c13 => ?_)
                  · refine Sg (fun g14 => ?_)
                    exact (ih dp e 3 _ _ _ _ _ _ _ _ _ _ _ _ _ _ _ _ _ _ a1 u_I u_L u_i2 u_i3 u_i4 (ui_add u_i5 (rfl : Ui (Int32.ofInt (1)) (1)) g14) u_i6 u_v_35 u_v_44)
                  · refine Sg (fun g15 => ?_)
                    refine Sc (ix_up (ui_sub u_i4 (rfl : Ui (1) (1)) g15)) (fun c16 => ?_) (fun _ => Sn)
                    refine Sc (ix_up (ui_sub u_i4 (rfl : Ui (1) (1)) g15)) (fun c17 => ?_) (fun _ => Sn)
                    refine Sg (fun g18 => ?_)
                    refine SsJ (ri_up u_I (kc_up (ui_sub u_i4 (rfl : Ui (1) (1)) g15) c17.1) (ui_sub (rfl : Ui (1) (1)) (ui_rd (a := 23) u_I (ui_sub u_i4 (rfl : Ui (1) (1)) g15) c17.1) g18)) (fun I_134 I_134' u_I_134 => ?_)
                    refine Sg (fun g19 => ?_)
                    exact (ih dp e 6 _ _ _ _ _ _ _ _ _ _ _ _ _ _ _ _ _ _ a1 u_I_134 u_L u_i2 u_i3 u_i4 (ui_add u_i5 (rfl : Ui (Int32.ofInt (1)) (1)) g19) u_i6 u_v_35 u_v_44)
                · refine Sg (fun g20 => ?_)
                  exact (ih dp e 3 _ _ _ _ _ _ _ _ _ _ _ _ _ _ _ _ _ _ a1 u_I u_L u_i2 u_i3 u_i4 (ui_add u_i5 (rfl : Ui (Int32.ofInt (1)) (1)) g20) u_i6 u_v_35 u_v_44)
          · exact (ih dp e 7 _ _ _ _ _ _ _ _ _ _ _ _ _ _ _ _ _ _ a1 u_I u_L u_i2 u_i3 u_i4 u_i5 u_i6 (rfl : Ui 0 0) (rfl : Ui 0 0))
    refine Sc Iff.rfl (fun _ => ?_) (fun _ => ?_)
    · refine Sc Iff.rfl (fun c1 => ?_) (fun _ => Sn)
      refine Sc (eq_up u_i7 (rfl : Ui 0 0)) (fun c2 => ?_) (fun c2 => ?_)
      · refine Sc (ix_up (ui_min (rfl : Ui (63) (63)) u_i4)) (fun c3 => ?_) (fun _ => Sn)
        refine SsJ (ri_up u_I (kc_up (ui_min (rfl : Ui (63) (63)) u_i4) c3.1) u_i8) (fun I_88 I_88' u_I_88 => ?_)
        refine Sc Iff.rfl (fun c4 => ?_) (fun _ => Sn)
        refine Sg (fun g5 => ?_)
        refine SsI (ui_min (rfl : Ui (64) (64)) (ui_add u_i4 (rfl : Ui (1) (1)) g5)) (fun v_98 v_98' u_v_98 => ?_)
        exact (ih dp e 6 _ _ _ _ _ _ _ _ _ _ _ _ _ _ _ _ _ _ a1 u_I_88 u_L u_i2 u_i3 u_v_98 u_i5 u_i6 u_i7 u_i8)
      · refine Sc (ix_up u_i8) (fun c6 => ?_) (fun _ => Sn)
        refine Sc (ix_up (ui_min (rfl : Ui (63) (63)) u_i4)) (fun c7 => ?_) (fun _ => Sn)
        refine SsJ (ri_up u_I (kc_up (ui_min (rfl : Ui (63) (63)) u_i4) c7.1) (ui_rd (a := 22) u_I u_i8 c6.1)) (fun I_88 I_88' u_I_88 => ?_)
        refine Sc Iff.rfl (fun c8 => ?_) (fun _ => Sn)
        refine Sg (fun g9 => ?_)
        refine SsI (ui_min (rfl : Ui (64) (64)) (ui_add u_i4 (rfl : Ui (1) (1)) g9)) (fun v_98 v_98' u_v_98 => ?_)
        exact (ih dp e 6 _ _ _ _ _ _ _ _ _ _ _ _ _ _ _ _ _ _ a1 u_I_88 u_L u_i2 u_i3 u_v_98 u_i5 u_i6 u_i7 u_i8)
    refine Sc Iff.rfl (fun _ => ?_) (fun _ => ?_)
    · refine Sc (eq_up u_i7 (rfl : Ui (10) (10))) (fun c1 => ?_) (fun c1 => ?_)
      · exact (ih dp e 4 _ _ _ _ _ _ _ _ _ _ _ _ _ _ _ _ _ _ a1 u_I u_L u_i2 u_i3 u_i4 u_i5 u_i6 u_i7 u_i8)
      · refine Sc (eq_up u_i7 (rfl : Ui (11) (11))) (fun c2 => ?_) (fun c2 => ?_)
        · exact (ih dp e 4 _ _ _ _ _ _ _ _ _ _ _ _ _ _ _ _ _ _ a1 u_I u_L u_i2 u_i3 u_i4 u_i5 u_i6 u_i7 u_i8)
        · exact (ih dp e 5 _ _ _ _ _ _ _ _ _ _ _ _ _ _ _ _ _ _ a1 u_I u_L u_i2 u_i3 u_i4 u_i5 u_i6 u_i7 u_i8)
    refine Sc Iff.rfl (fun _ => ?_) (fun _ => ?_)
    · refine Sc (le_up u_i4 (rfl : Ui 0 0)) (fun c1 => ?_) (fun c1 => ?_)
      · exact (ih dp e 5 _ _ _ _ _ _ _ _ _ _ _ _ _ _ _ _ _ _ a1 u_I u_L u_i2 u_i3 u_i4 u_i5 u_i6 u_i7 u_i8)
      · refine Sg (fun g2 => ?_)
        refine Sc (ix_up (ui_sub u_i4 (rfl : Ui (1) (1)) g2)) (fun c3 => ?_) (fun _ => Sn)
        refine Sc (eq_up u_i7 (rfl : Ui (10) (10))) (fun c4 => ?_) (fun c4 => ?_)
        · refine Sc (eq_up (ui_rd (a := 23) u_I (ui_sub u_i4 (rfl : Ui (1) (1)) g2) c3.1) (rfl : Ui (1) (1))) (fun c5 => ?_) (fun c5 => ?_)
          · refine Sc Iff.rfl (fun c6 => ?_) (fun _ => Sn)
            refine SsI (ui_max u_i5 u_i8) (fun v_188 v_188' u_v_188 => ?_)
            exact (ih dp e 6 _ _ _ _ _ _ _ _ _ _ _ _ _ _ _ _ _ _ a1 u_I u_L u_i2 u_i3 u_i4 u_v_188 u_i6 u_i7 u_i8)
          · refine Sg (fun g7 => ?_)
            exact (ih dp e 6 _ _ _ _ _ _ _ _ _ _ _ _ _ _ _ _ _ _ a1 u_I u_L u_i2 u_i3 (ui_add u_i4 (rfl : Ui (Int32.ofInt (-1)) (-1)) g7) u_i5 u_i6 u_i7 u_i8)
        · refine Sc (eq_up (ui_rd (a := 23) u_I (ui_sub u_i4 (rfl : Ui (1) (1)) g2) c3.1) (rfl : Ui (0) (0))) (fun c8 => ?_) (fun c8 => ?_)
          · refine Sc Iff.rfl (fun c9 => ?_) (fun _ => Sn)
            refine SsI (ui_max u_i5 u_i8) (fun v_188 v_188' u_v_188 => ?_)
            exact (ih dp e 6 _ _ _ _ _ _ _ _ _ _ _ _ _ _ _ _ _ _ a1 u_I u_L u_i2 u_i3 u_i4 u_v_188 u_i6 u_i7 u_i8)
          · refine Sg (fun g10 => ?_)
            exact (ih dp e 6 _ _ _ _ _ _ _ _ _ _ _ _ _ _ _ _ _ _ a1 u_I u_L u_i2 u_i3 (ui_add u_i4 (rfl : Ui (Int32.ofInt (-1)) (-1)) g10) u_i5 u_i6 u_i7 u_i8)
    refine Sc Iff.rfl (fun _ => ?_) (fun _ => ?_)
    · refine Sc (le_up u_i4 (rfl : Ui (1) (1))) (fun c1 => ?_) (fun c1 => ?_)
      · exact (ih dp e 6 _ _ _ _ _ _ _ _ _ _ _ _ _ _ _ _ _ _ a1 u_I u_L u_i2 u_i3 u_i4 u_i5 u_i6 u_i7 u_i8)
      · refine Sg (fun g2 => ?_)
        refine Sc (ix_up (ui_sub (ui_add u_i4 (rfl : Ui (Int32.ofInt (-1)) (-1)) g2.1) (rfl : Ui (1) (1)) g2.2)) (fun c3 => ?_) (fun _ => Sn)
        refine Sc (ix_up (ui_add u_i4 (rfl : Ui (Int32.ofInt (-1)) (-1)) g2.1)) (fun c4 => ?_) (fun _ => Sn)
        refine Sc Iff.rfl (fun c5 => ?_) (fun _ => Sn)
        refine Sb3l (ks_76 n (dp - 1) e 0 _ _ _ _ _ _ _ _ _ _ u_I u_L u_i7 (ul_i2l (ui_rd (a := 23) u_I (ui_sub (ui_add u_i4 (rfl : Ui (Int32.ofInt (-1)) (-1)) g2.1) (rfl : Ui (1) (1)) g2.2) c3.1)) (ul_i2l (ui_rd (a := 23) u_I (ui_add u_i4 (rfl : Ui (Int32.ofInt (-1)) (-1)) g2.1) c4.1))) (fun x0_228 x0_228' I0_228 I0_228' L0_228 L0_228' u_x0_228 u_I0_228 u_L0_228 => ?_)
        refine Sc (lcg_up u_x0_228 (rfl : Ul (1000000000) (1000000000))) (fun c6 => ?_) (fun c6 => ?_)
        · refine SsJ (ri_up u_I0_228 (rfl : ((3 : Nat) : Int) = 3) (rfl : Ui (1) (1))) (fun I_257 I_257' u_I_257 => ?_)
          refine Sc (ix_up (ui_sub (ui_add u_i4 (rfl : Ui (Int32.ofInt (-1)) (-1)) g2.1) (rfl : Ui (1) (1)) g2.2)) (fun c7 => ?_) (fun _ => Sn)
          refine SsJ (ri_up u_I_257 (kc_up (ui_sub (ui_add u_i4 (rfl : Ui (Int32.ofInt (-1)) (-1)) g2.1) (rfl : Ui (1) (1)) g2.2) c7.1) (ui_l2iw u_x0_228)) (fun I_271 I_271' u_I_271 => ?_)
          exact (ih dp e 6 _ _ _ _ _ _ _ _ _ _ _ _ _ _ _ _ _ _ a1 u_I_271 u_L0_228 u_i2 u_i3 (ui_add u_i4 (rfl : Ui (Int32.ofInt (-1)) (-1)) g2.1) u_i5 u_i6 u_i7 u_i8)
        · refine Sc (lcge_up u_x0_228 (rfl : Ul (-1000000000) (-1000000000))) (fun c8 => ?_) (fun c8 => ?_)
          · refine SsJ (ri_up u_I0_228 (rfl : ((3 : Nat) : Int) = 3) (rfl : Ui (0) (0))) (fun I_257 I_257' u_I_257 => ?_)
            refine Sc (ix_up (ui_sub (ui_add u_i4 (rfl : Ui (Int32.ofInt (-1)) (-1)) g2.1) (rfl : Ui (1) (1)) g2.2)) (fun c9 => ?_) (fun _ => Sn)
            refine SsJ (ri_up u_I_257 (kc_up (ui_sub (ui_add u_i4 (rfl : Ui (Int32.ofInt (-1)) (-1)) g2.1) (rfl : Ui (1) (1)) g2.2) c9.1) (ui_l2iw u_x0_228)) (fun I_271 I_271' u_I_271 => ?_)
            exact (ih dp e 6 _ _ _ _ _ _ _ _ _ _ _ _ _ _ _ _ _ _ a1 u_I_271 u_L0_228 u_i2 u_i3 (ui_add u_i4 (rfl : Ui (Int32.ofInt (-1)) (-1)) g2.1) u_i5 u_i6 u_i7 u_i8)
          · refine SsJ (ri_up u_I0_228 (rfl : ((3 : Nat) : Int) = 3) (rfl : Ui (1) (1))) (fun I_257 I_257' u_I_257 => ?_)
            refine Sc (ix_up (ui_sub (ui_add u_i4 (rfl : Ui (Int32.ofInt (-1)) (-1)) g2.1) (rfl : Ui (1) (1)) g2.2)) (fun c10 => ?_) (fun _ => Sn)
            refine SsJ (ri_up u_I_257 (kc_up (ui_sub (ui_add u_i4 (rfl : Ui (Int32.ofInt (-1)) (-1)) g2.1) (rfl : Ui (1) (1)) g2.2) c10.1) (ui_l2iw u_x0_228)) (fun I_271 I_271' u_I_271 => ?_)
            exact (ih dp e 6 _ _ _ _ _ _ _ _ _ _ _ _ _ _ _ _ _ _ a1 u_I_271 u_L0_228 u_i2 u_i3 (ui_add u_i4 (rfl : Ui (Int32.ofInt (-1)) (-1)) g2.1) u_i5 u_i6 u_i7 u_i8)
    refine Sc Iff.rfl (fun _ => ?_) (fun _ => ?_)
    · refine Sg (fun g1 => ?_)
      exact (ih dp e 1 _ _ _ _ _ _ _ _ _ _ _ _ _ _ _ _ _ _ a1 u_I u_L u_i2 u_i3 u_i4 u_i5 (ui_add u_i6 (rfl : Ui (Int32.ofInt (1)) (1)) g1) (rfl : Ui 0 0) (rfl : Ui 0 0))
    refine Sc Iff.rfl (fun _ => ?_) (fun _ => ?_)
    · refine Sc (le_up u_i4 (rfl : Ui 0 0)) (fun c1 => ?_) (fun c1 => ?_)
      · exact Sr ⟨(rfl : Ui (0) (0)), u_I, u_L⟩
      · refine Sg (fun g2 => ?_)
        refine Sc (ix_up (ui_sub u_i4 (rfl : Ui (1) (1)) g2)) (fun c3 => ?_) (fun _ => Sn)
        exact Sr ⟨(ui_rd (a := 23) u_I (ui_sub u_i4 (rfl : Ui (1) (1)) g2) c3.1), u_I, u_L⟩
    exact Sn
set_option maxHeartbeats 4000000 in
set_option maxRecDepth 100000 in
def kf_73 : Nat → Nat → EN → Nat → JI → JI → Int → Nat → Option (Int × JI × JI)
  | 0, _, _, _, _, _, _, _ => none
  | n + 1, dp, e, lab, I, L, i1, a2 =>
    if lab = 0 then ((e.2.2 1 7).bind (fun b_4 => (stI (w2 I 21 3 0) (fun I_10 => (if (b_4 < e.1) ∧ ((e.2.1 b_4).1 = 10) then ((e.2.2 b_4 4).bind (fun b_14 => (if ((b_14 < e.1) ∧ (((e.2.1 b_14).1 = 13) ∧ ((e.2.1 b_14).2 < (2 ^ 31)))) ∧ (0 ≤ i1 ∧ i1 < (((e.2.1 b_14).2 : Nat) : Int)) then (if (b_4 < e.1) ∧ ((e.2.1 b_4).1 = 10) then ((e.2.2 b_4 3).bind (fun b_20 => (if ((b_20 < e.1) ∧ (((e.2.1 b_20).1 = 13) ∧ ((e.2.1 b_20).2 < (2 ^ 31)))) ∧ (0 ≤ i1 ∧ i1 < (((e.2.1 b_20).2 : Nat) : Int)) then (if (I_10 b_14 i1) ≤ (I_10 b_20 i1) then (kf_73 n dp e 1 I_10 L i1 b_4) else (if (b_4 < e.1) ∧ ((e.2.1 b_4).1 = 10) then ((e.2.2 b_4 3).bind (fun b_31 => (if ((b_31 < e.1) ∧ (((e.2.1 b_31).1 = 13) ∧ ((e.2.1 b_31).2 < (2 ^ 31)))) ∧ (0 ≤ i1 ∧ i1 < (((e.2.1 b_31).2 : Nat) : Int)) then (if (b_4 < e.1) ∧ ((e.2.1 b_4).1 = 10) then ((e.2.2 b_4 4).bind (fun b_37 => (if ((b_37 < e.1) ∧ (((e.2.1 b_37).1 = 13) ∧ ((e.2.1 b_37).2 < (2 ^ 31)))) ∧ (0 ≤ i1 ∧ i1 < (((e.2.1 b_37).2 : Nat) : Int)) then (if 1 ≤ dp then ((kf_74 n (dp - 1) e 0 I_10 L (I_10 b_31 i1) (I_10 b_37 i1) 0 0 0 0 0 b_4).bind (fun ⟨x0_42, I0_42, L0_42⟩ => (if (I0_42 21 3) = 0 then (if x0_42 = 0 then (some ((0 : Int), I0_42, L0_42)) else (kf_73 n dp e 1 I0_42 L0_42 i1 b_4)) else (some ((0 : Int), I0_42, L0_42))))) else none) else none))) else none) else none))) else none)) else none))) else none) else none))) else none)))))
    else if lab = 1 then (if (a2 < e.1) ∧ ((e.2.1 a2).1 = 10) then ((e.2.2 a2 1).bind (fun b_63 => (if ((b_63 < e.1) ∧ (((e.2.1 b_63).1 = 13) ∧ ((e.2.1 b_63).2 < (2 ^ 31)))) ∧ (0 ≤ i1 ∧ i1 < (((e.2.1 b_63).2 : Nat) : Int)) then (if (a2 < e.1) ∧ ((e.2.1 a2).1 = 10) then ((e.2.2 a2 2).bind (fun b_69 => (if ((b_69 < e.1) ∧ (((e.2.1 b_69).1 = 13) ∧ ((e.2.1 b_69).2 < (2 ^ 31)))) ∧ (0 ≤ i1 ∧ i1 < (((e.2.1 b_69).2 : Nat) : Int)) then (if 1 ≤ dp then ((kf_74 n (dp - 1) e 0 I L (I b_63 i1) (I b_69 i1) 0 0 0 0 0 a2).bind (fun ⟨x0_74, I0_74, L0_74⟩ => (stI (w2 I0_74 21 4 x0_74) (fun I_77 => (if (I_77 21 3) = 0 then (some ((1 : Int), I_77, L0_74)) else (some ((0 : Int), I_77, L0_74))))))) else none) else none))) else none) else none))) else none)
    else none
set_option maxRecDepth 100000 in
theorem ke_73_0 (n : Nat) (dp : Nat) (e : EN) (I : JI) (L : JI) (i1 : Int) (a2 : Nat) : kf_73 (n + 1) dp e 0 I L i1 a2 = ((e.2.2 1 7).bind (fun b_4 => (stI (w2 I 21 3 0) (fun I_10 => (if (b_4 < e.1) ∧ ((e.2.1 b_4).1 = 10) then ((e.2.2 b_4 4).bind (fun b_14 => (if ((b_14 < e.1) ∧ (((e.2.1 b_14).1 = 13) ∧ ((e.2.1 b_14).2 < (2 ^ 31)))) ∧ (0 ≤ i1 ∧ i1 < (((e.2.1 b_14).2 : Nat) : Int)) then (if (b_4 < e.1) ∧ ((e.2.1 b_4).1 = 10) then ((e.2.2 b_4 3).bind (fun b_20 => (if ((b_20 < e.1) ∧ (((e.2.1 b_20).1 = 13) ∧ ((e.2.1 b_20).2 < (2 ^ 31)))) ∧ (0 ≤ i1 ∧ i1 < (((e.2.1 b_20).2 : Nat) : Int)) then (if (I_10 b_14 i1) ≤ (I_10 b_20 i1) then (kf_73 n dp e 1 I_10 L i1 b_4) else (if (b_4 < e.1) ∧ ((e.2.1 b_4).1 = 10) then ((e.2.2 b_4 3).bind (fun b_31 => (if ((b_31 < e.1) ∧ (((e.2.1 b_31).1 = 13) ∧ ((e.2.1 b_31).2 < (2 ^ 31)))) ∧ (0 ≤ i1 ∧ i1 < (((e.2.1 b_31).2 : Nat) : Int)) then (if (b_4 < e.1) ∧ ((e.2.1 b_4).1 = 10) then ((e.2.2 b_4 4).bind (fun b_37 => (if ((b_37 < e.1) ∧ (((e.2.1 b_37).1 = 13) ∧ ((e.2.1 b_37).2 < (2 ^ 31)))) ∧ (0 ≤ i1 ∧ i1 < (((e.2.1 b_37).2 : Nat) : Int)) then (if 1 ≤ dp then ((kf_74 n (dp - 1) e 0 I_10 L (I_10 b_31 i1) (I_10 b_37 i1) 0 0 0 0 0 b_4).bind (fun ⟨x0_42, I0_42, L0_42⟩ => (if (I0_42 21 3) = 0 then (if x0_42 = 0 then (some ((0 : Int), I0_42, L0_42)) else (kf_73 n dp e 1 I0_42 L0_42 i1 b_4)) else (some ((0 : Int), I0_42, L0_42))))) else none) else none))) else none) else none))) else none)) else none))) else none) else none))) else none))))) := by rw [kf_73.eq_2, if_pos (show (0 : Nat) = 0 from rfl)]
set_option maxRecDepth 100000 in
theorem ke_73_1 (n : Nat) (dp : Nat) (e : EN) (I : JI) (L : JI) (i1 : Int) (a2 : Nat) : kf_73 (n + 1) dp e 1 I L i1 a2 = (if (a2 < e.1) ∧ ((e.2.1 a2).1 = 10) then ((e.2.2 a2 1).bind (fun b_63 => (if ((b_63 < e.1) ∧ (((e.2.1 b_63).1 = 13) ∧ ((e.2.1 b_63).2 < (2 ^ 31)))) ∧ (0 ≤ i1 ∧ i1 < (((e.2.1 b_63).2 : Nat) : Int)) then (if (a2 < e.1) ∧ ((e.2.1 a2).1 = 10) then ((e.2.2 a2 2).bind (fun b_69 => (if ((b_69 < e.1) ∧ (((e.2.1 b_69).1 = 13) ∧ ((e.2.1 b_69).2 < (2 ^ 31)))) ∧ (0 ≤ i1 ∧ i1 < (((e.2.1 b_69).2 : Nat) : Int)) then (if 1 ≤ dp then ((kf_74 n (dp - 1) e 0 I L (I b_63 i1) (I b_69 i1) 0 0 0 0 0 a2).bind (fun ⟨x0_74, I0_74, L0_74⟩ => (stI (w2 I0_74 21 4 x0_74) (fun I_77 => (if (I_77 21 3) = 0 then (some ((1 : Int), I_77, L0_74)) else (some ((0 : Int), I_77, L0_74))))))) else none) else none))) else none) else none))) else none) := by rw [kf_73.eq_2, if_neg (show ¬ ((1 : Nat) = 0) by decide), if_pos (show (1 : Nat) = 1 from rfl)]
set_option maxHeartbeats 8000000 in
set_option maxRecDepth 100000 in
theorem ks_73 : ∀ (n : Nat) (dp : Nat) (e : EN) (lab : Nat) (I : Nat → Nat → Int32) (I' : JI) (L : Nat → Nat → Int64) (L' : JI) (i1 : Int32) (i1' : Int) (a2 : Nat), Rli I I' → Rll L L' → Ui i1 i1' → Sim R3 (g_73 n dp e lab I L i1 a2) (kf_73 n dp e lab I' L' i1' a2) := by
  intro n
  induction n with
  | zero => intros; rw [kf_73.eq_1]; exact Sn
  | succ n ih =>
    intro dp e lab I I' L L' i1 i1' a2 u_I u_L u_i1
    rw [g_73.eq_2, kf_73.eq_2]
    refine Sc Iff.rfl (fun _ => ?_) (fun _ => ?_)
    · refine SbE rfl (fun b_4 => ?_)
      refine SsJ (ri_up u_I (rfl : ((3 : Nat) : Int) = 3) (rfl : Ui (0) (0))) (fun I_10 I_10' u_I_10 => ?_)
      refine Sc Iff.rfl (fun c1 => ?_) (fun _ => Sn)
      refine SbE rfl (fun b_14 => ?_)
      refine Sc (and_congr Iff.rfl (ix_up u_i1)) (fun c2 => ?_) (fun _ => Sn)
      refine Sc Iff.rfl (fun c3 => ?_) (fun _ => Sn)
      refine SbE rfl (fun b_20 => ?_)
      refine Sc (and_congr Iff.rfl (ix_up u_i1)) (fun c4 => ?_) (fun _ => Sn)
      refine Sc (le_up (ui_rd (a := b_14) u_I_10 u_i1 c4.2.1) (ui_rd (a := b_20) u_I_10 u_i1 c4.2.1)) (fun c5 => ?_) (fun c5 => ?_)
      · exact (ih dp e 1 _ _ _ _ _ _ b_4 u_I_10 u_L u_i1)
      · refine Sc Iff.rfl (fun c6 => ?_) (fun _ => Sn)
        refine SbE rfl (fun b_31 => ?_)
        refine Sc (and_congr Iff.rfl (ix_up u_i1)) (fun c7 => ?_) (fun _ => Sn)
        refine Sc Iff.rfl (fun c8 => ?_) (fun _ => Sn)
        refine SbE rfl (fun b_37 => ?_)
        refine Sc (and_congr Iff.rfl (ix_up u_i1)) (fun c9 => ?_) (fun _ => Sn)
        refine Sc Iff.rfl (fun c10 => ?_) (fun _ => Sn)
        refine Sb3 (ks_74 n (dp - 1) e 0 _ _ _ _ _ _ _ _ _ _ _ _ _ _ _ _ _ _ b_4 u_I_10 u_L (ui_rd (a := b_31) u_I_10 u_i1 c9.2.1) (ui_rd (a := b_37) u_I_10 u_i1 c9.2.1) (rfl : Ui 0 0) (rfl : Ui 0 0) (rfl : Ui 0 0) (rfl : Ui 0 0) (rfl : Ui 0 0)) (fun x0_42 x0_42' I0_42 I0_42' L0_42 L0_42' u_x0_42 u_I0_42 u_L0_42 => ?_)
        refine Sc (eq_up (u_I0_42 21 3) (rfl : Ui 0 0)) (fun c11 => ?_) (fun c11 => ?_)
        · refine Sc (eq_up u_x0_42 (rfl : Ui 0 0)) (fun c12 => ?_) (fun c12 => ?_)
          · exact Sr ⟨(rfl : Ui (0) (0)), u_I0_42, u_L0_42⟩
          · exact (ih dp e 1 _ _ _ _ _ _ b_4 u_I0_42 u_L0_42 u_i1)
        · exact Sr ⟨(rfl : Ui (0) (0)), u_I0_42, u_L0_42⟩
    refine Sc Iff.rfl (fun _ => ?_) (fun _ => ?_)
    · refine Sc Iff.rfl (fun c1 => ?_) (fun _ => Sn)
      refine SbE rfl (fun b_63 => ?_)
      refine Sc (and_congr Iff.rfl (ix_up u_i1)) (fun c2 => ?_) (fun _ => Sn)
      refine Sc Iff.rfl (fun c3 => ?_) (fun _ => Sn)
      refine SbE rfl (fun b_69 => ?_)
      refine Sc (and_congr Iff.rfl (ix_up u_i1)) (fun c4 => ?_) (fun _ => Sn)
      refine Sc Iff.rfl (fun c5 => ?_) (fun _ => Sn)
      refine Sb3 (ks_74 n (dp - 1) e 0 _ _ _ _ _ _ _ _ _ _ _ _ _ _ _ _ _ _ a2 u_I u_L (ui_rd (a := b_63) u_I u_i1 c4.2.1) (ui_rd (a := b_69) u_I u_i1 c4.2.1) (rfl : Ui 0 0) (rfl : Ui 0 0) (rfl : Ui 0 0) (rfl : Ui 0 0) (rfl : Ui 0 0)) (fun x0_74 x0_74' I0_74 I0_74' L0_74 L0_74' u_x0_74 u_I0_74 u_L0_74 => ?_)
      refine SsJ (ri_up u_I0_74 (rfl : ((4 : Nat) : Int) = 4) u_x0_74) (fun I_77 I_77' u_I_77 => ?_)
      refine Sc (eq_up (u_I_77 21 3) (rfl : Ui 0 0)) (fun c6 => ?_) (fun c6 => ?_)
      · exact Sr ⟨(rfl : Ui (1) (1)), u_I_77, u_L0_74⟩
      · exact Sr ⟨(rfl : Ui (0) (0)), u_I_77, u_L0_74⟩
    exact Sn
set_option maxHeartbeats 4000000 in
set_option maxRecDepth 100000 in
def kf_70 : Nat → Nat → EN → Nat → JI → JI → Int → Int → Option (Int × JI × JI)
  | 0, _, _, _, _, _, _, _ => none
  | n + 1, dp, e, lab, I, L, i1, i2 =>
    if lab = 0 then (if 1 ≤ dp then ((kf_71 n (dp - 1) e 0 I L i1 i2).bind (fun ⟨I0_3, L0_3⟩ => ((e.2.2 1 7).bind (fun b_11 => (if (b_11 < e.1) ∧ ((e.2.1 b_11).1 = 10) then ((e.2.2 b_11 6).bind (fun b_14 => (if ((b_14 < e.1) ∧ (((e.2.1 b_14).1 = 13) ∧ ((e.2.1 b_14).2 < (2 ^ 31)))) ∧ (0 ≤ i1 ∧ i1 < (((e.2.1 b_14).2 : Nat) : Int)) then (if 1 ≤ dp then ((kf_73 n (dp - 1) e 0 I0_3 L0_3 (I0_3 b_14 i1) 0).bind (fun ⟨x1_19, I1_19, L1_19⟩ => (if (x1_19 = 0) ∨ (x1_19 = 1) then (some ((x1_19 : Int), I1_19, L1_19)) else none))) else none) else none))) else none))))) else none)
    else none
set_option maxRecDepth 100000 in
theorem ke_70_0 (n : Nat) (dp : Nat) (e : EN) (I : JI) (L : JI) (i1 : Int) (i2 : Int) : kf_70 (n + 1) dp e 0 I L i1 i2 = (if 1 ≤ dp then ((kf_71 n (dp - 1) e 0 I L i1 i2).bind (fun ⟨I0_3, L0_3⟩ => ((e.2.2 1 7).bind (fun b_11 => (if (b_11 < e.1) ∧ ((e.2.1 b_11).1 = 10) then ((e.2.2 b_11 6).bind (fun b_14 => (if ((b_14 < e.1) ∧ (((e.2.1 b_14).1 = 13) ∧ ((e.2.1 b_14).2 < (2 ^ 31)))) ∧ (0 ≤ i1 ∧ i1 < (((e.2.1 b_14).2 : Nat) : Int)) then (if 1 ≤ dp then ((kf_73 n (dp - 1) e 0 I0_3 L0_3 (I0_3 b_14 i1) 0).bind (fun ⟨x1_19, I1_19, L1_19⟩ => (if (x1_19 = 0) ∨ (x1_19 = 1) then (some ((x1_19 : Int), I1_19, L1_19)) else none))) else none) else none))) else none))))) else none) := by rw [kf_70.eq_2, if_pos (show (0 : Nat) = 0 from rfl)]
set_option maxHeartbeats 8000000 in
set_option maxRecDepth 100000 in
theorem ks_70 : ∀ (n : Nat) (dp : Nat) (e : EN) (lab : Nat) (I : Nat → Nat → Int32) (I' : JI) (L : Nat → Nat → Int64) (L' : JI) (i1 : Int32) (i1' : Int) (i2 : Int32) (i2' : Int), Rli I I' → Rll L L' → Ui i1 i1' → Ui i2 i2' → Sim R3 (g_70 n dp e lab I L i1 i2) (kf_70 n dp e lab I' L' i1' i2') := by
  intro n
  induction n with
  | zero => intros; rw [kf_70.eq_1]; exact Sn
  | succ n ih =>
    intro dp e lab I I' L L' i1 i1' i2 i2' u_I u_L u_i1 u_i2
    rw [g_70.eq_2, kf_70.eq_2]
    refine Sc Iff.rfl (fun _ => ?_) (fun _ => ?_)
    · refine Sc Iff.rfl (fun c1 => ?_) (fun _ => Sn)
      refine Sb2 (ks_71 n (dp - 1) e 0 _ _ _ _ _ _ _ _ u_I u_L u_i1 u_i2) (fun I0_3 I0_3' L0_3 L0_3' u_I0_3 u_L0_3 => ?_)
      refine SbE rfl (fun b_11 => ?_)
      refine Sc Iff.rfl (fun c2 => ?_) (fun _ => Sn)
      refine SbE rfl (fun b_14 => ?_)
      refine Sc (and_congr Iff.rfl (ix_up u_i1)) (fun c3 => ?_) (fun _ => Sn)
      refine Sc Iff.rfl (fun c4 => ?_) (fun _ => Sn)
      refine Sb3 (ks_73 n (dp - 1) e 0 _ _ _ _ _ _ 0 u_I0_3 u_L0_3 (ui_rd (a := b_14) u_I0_3 u_i1 c3.2.1)) (fun x1_19 x1_19' I1_19 I1_19' L1_19 L1_19' u_x1_19 u_I1_19 u_L1_19 => ?_)
      refine Sc (or_congr (eq_up u_x1_19 (rfl : Ui 0 0)) (eq_up u_x1_19 (rfl : Ui 1 1))) (fun c5 => ?_) (fun _ => Sn)
      exact Sr ⟨u_x1_19, u_I1_19, u_L1_19⟩
    exact Sn
set_option maxHeartbeats 4000000 in
set_option maxRecDepth 100000 in
def kf_77 : Nat → Nat → EN → Nat → JI → JI → Int → Int → Int → Int → Int → Option (Int × JI × JI)
  | 0, _, _, _, _, _, _, _, _, _, _ => none
  | n + 1, dp, e, lab, I, L, i1, i2, i3, i4, i5 =>
    if lab = 0 then (if i1 = 1 then (if 1 ≤ dp then ((kf_71 n (dp - 1) e 0 I L i2 i3).bind (fun ⟨I0_16, L0_16⟩ => ((e.2.2 1 7).bind (fun b_23 => (if (b_23 < e.1) ∧ ((e.2.1 b_23).1 = 10) then (if -2147483648 ≤ (I0_16 b_23 10) - 1 ∧ (I0_16 b_23 10) - 1 ≤ 2147483647 then (stI ((I0_16 b_23 10) - 1) (fun v_31 => (kf_77 n dp e 1 I0_16 L0_16 i1 i2 i3 60 v_31))) else none) else none))))) else none) else (if 1 ≤ dp then ((kf_71 n (dp - 1) e 0 I L i2 i3).bind (fun ⟨I0_16, L0_16⟩ => ((e.2.2 1 7).bind (fun b_23 => (if (b_23 < e.1) ∧ ((e.2.1 b_23).1 = 10) then (if -2147483648 ≤ (I0_16 b_23 10) - 1 ∧ (I0_16 b_23 10) - 1 ≤ 2147483647 then (stI ((I0_16 b_23 10) - 1) (fun v_31 => (kf_77 n dp e 1 I0_16 L0_16 i1 i2 i3 3 v_31))) else none) else none))))) else none))
    else if lab = 1 then (if i5 < 0 then (if i1 = 1 then (some ((1 : Int), I, L)) else (some ((0 : Int), I, L))) else ((e.2.2 1 7).bind (fun b_42 => (if (b_42 < e.1) ∧ ((e.2.1 b_42).1 = 10) then ((e.2.2 b_42 0).bind (fun b_45 => (if ((b_45 < e.1) ∧ (((e.2.1 b_45).1 = 13) ∧ ((e.2.1 b_45).2 < (2 ^ 31)))) ∧ (0 ≤ i5 ∧ i5 < (((e.2.1 b_45).2 : Nat) : Int)) then (if (I b_45 i5) = i1 then (if 1 ≤ dp then ((kf_73 n (dp - 1) e 0 I L i5 0).bind (fun ⟨x0_58, I0_58, L0_58⟩ => (if x0_58 = 0 then (kf_77 n dp e 2 I0_58 L0_58 i1 i2 i3 i4 i5) else (if 1 ≤ dp then (if 1 ≤ dp then (some (((max 0 (min (I0_58 21 4) i4)) : Int), I0_58, L0_58)) else none) else none)))) else none) else (kf_77 n dp e 2 I L i1 i2 i3 i4 i5)) else none))) else none))))
    else if lab = 2 then (if -2147483648 ≤ i5 + (-1) ∧ i5 + (-1) ≤ 2147483647 then (kf_77 n dp e 1 I L i1 i2 i3 i4 (i5 + (-1))) else none)
    else none
set_option maxRecDepth 100000 in
theorem ke_77_0 (n : Nat) (dp : Nat) (e : EN) (I : JI) (L : JI) (i1 : Int) (i2 : Int) (i3 : Int) (i4 : Int) (i5 : Int) : kf_77 (n + 1) dp e 0 I L i1 i2 i3 i4 i5 = (if i1 = 1 then (if 1 ≤ dp then ((kf_71 n (dp - 1) e 0 I L i2 i3).bind (fun ⟨I0_16, L0_16⟩ => ((e.2.2 1 7).bind (fun b_23 => (if (b_23 < e.1) ∧ ((e.2.1 b_23).1 = 10) then (if -2147483648 ≤ (I0_16 b_23 10) - 1 ∧ (I0_16 b_23 10) - 1 ≤ 2147483647 then (stI ((I0_16 b_23 10) - 1) (fun v_31 => (kf_77 n dp e 1 I0_16 L0_16 i1 i2 i3 60 v_31))) else none) else none))))) else none) else (if 1 ≤ dp then ((kf_71 n (dp - 1) e 0 I L i2 i3).bind (fun ⟨I0_16, L0_16⟩ => ((e.2.2 1 7).bind (fun b_23 => (if (b_23 < e.1) ∧ ((e.2.1 b_23).1 = 10) then (if -2147483648 ≤ (I0_16 b_23 10) - 1 ∧ (I0_16 b_23 10) - 1 ≤ 2147483647 then (stI ((I0_16 b_23 10) - 1) (fun v_31 => (kf_77 n dp e 1 I0_16 L0_16 i1 i2 i3 3 v_31))) else none) else none))))) else none)) := by rw [kf_77.eq_2, if_pos (show (0 : Nat) = 0 from rfl)]
set_option maxRecDepth 100000 in
theorem ke_77_1 (n : Nat) (dp : Nat) (e : EN) (I : JI) (L : JI) (i1 : Int) (i2 : Int) (i3 : Int) (i4 : Int) (i5 : Int) : kf_77 (n + 1) dp e 1 I L i1 i2 i3 i4 i5 = (if i5 < 0 then (if i1 = 1 then (some ((1 : Int), I, L)) else (some ((0 : Int), I, L))) else ((e.2.2 1 7).bind (fun b_42 => (if (b_42 < e.1) ∧ ((e.2.1 b_42).1 = 10) then ((e.2.2 b_42 0).bind (fun b_45 => (if ((b_45 < e.1) ∧ (((e.2.1 b_45).1 = 13) ∧ ((e.2.1 b_45).2 < (2 ^ 31)))) ∧ (0 ≤ i5 ∧ i5 < (((e.2.1 b_45).2 : Nat) : Int)) then (if (I b_45 i5) = i1 then (if 1 ≤ dp then ((kf_73 n (dp - 1) e 0 I L i5 0).bind (fun ⟨x0_58, I0_58, L0_58⟩ => (if x0_58 = 0 then (kf_77 n dp e 2 I0_58 L0_58 i1 i2 i3 i4 i5) else (if 1 ≤ dp then (if 1 ≤ dp then (some (((max 0 (min (I0_58 21 4) i4)) : Int), I0_58, L0_58)) else none) else none)))) else none) else (kf_77 n dp e 2 I L i1 i2 i3 i4 i5)) else none))) else none)))) := by rw [kf_77.eq_2, if_neg (show ¬ ((1 : Nat) = 0) by decide), if_pos (show (1 : Nat) = 1 from rfl)]
set_option maxRecDepth 100000 in
theorem ke_77_2 (n : Nat) (dp : Nat) (e : EN) (I : JI) (L : JI) (i1 : Int) (i2 : Int) (i3 : Int) (i4 : Int) (i5 : Int) : kf_77 (n + 1) dp e 2 I L i1 i2 i3 i4 i5 = (if -2147483648 ≤ i5 + (-1) ∧ i5 + (-1) ≤ 2147483647 then (kf_77 n dp e 1 I L i1 i2 i3 i4 (i5 + (-1))) else none) := by rw [kf_77.eq_2, if_neg (show ¬ ((2 : Nat) = 0) by decide), if_neg (show ¬ ((2 : Nat) = 1) by decide), if_pos (show (2 : Nat) = 2 from rfl)]
set_option maxHeartbeats 8000000 in
set_option maxRecDepth 100000 in
theorem ks_77 : ∀ (n : Nat) (dp : Nat) (e : EN) (lab : Nat) (I : Nat → Nat → Int32) (I' : JI) (L : Nat → Nat → Int64) (L' : JI) (i1 : Int32) (i1' : Int) (i2 : Int32) (i2' : Int) (i3 : Int32) (i3' : Int) (i4 : Int32) (i4' : Int) (i5 : Int32) (i5' : Int), Rli I I' → Rll L L' → Ui i1 i1' → Ui i2 i2' → Ui i3 i3' → Ui i4 i4' → Ui i5 i5' → Sim R3 (g_77 n dp e lab I L i1 i2 i3 i4 i5) (kf_77 n dp e lab I' L' i1' i2' i3' i4' i5') := by
  intro n
  induction n with
  | zero => intros; rw [kf_77.eq_1]; exact Sn
  | succ n ih =>
    intro dp e lab I I' L L' i1 i1' i2 i2' i3 i3' i4 i4' i5 i5' u_I u_L u_i1 u_i2 u_i3 u_i4 u_i5
    rw [g_77.eq_2, kf_77.eq_2]
    refine Sc Iff.rfl (fun _ => ?_) (fun _ => ?_)
    · refine Sc (eq_up u_i1 (rfl : Ui (1) (1))) (fun c1 => ?_) (fun c1 => ?_)
      · refine Sc Iff.rfl (fun c2 => ?_) (fun _ => Sn)
        refine Sb2 (ks_71 n (dp - 1) e 0 _ _ _ _ _ _ _ _ u_I u_L u_i2 u_i3) (fun I0_16 I0_16' L0_16 L0_16' u_I0_16 u_L0_16 => ?_)
        refine SbE rfl (fun b_23 => ?_)
        refine Sc Iff.rfl (fun c3 => ?_) (fun _ => Sn)
        refine Sg (fun g4 => ?_)
        refine SsI (ui_sub (u_I0_16 b_23 10) (rfl : Ui (1) (1)) g4) (fun v_31 v_31' u_v_31 => ?_)
        exact (ih dp e 1 _ _ _ _ _ _ _ _ _ _ _ _ _ _ u_I0_16 u_L0_16 u_i1 u_i2 u_i3 (rfl : Ui (60) (60)) u_v_31)
      · refine Sc Iff.rfl (fun c5 => ?_) (fun _ => Sn)
        refine Sb2 (ks_71 n (dp - 1) e 0 _ _ _ _ _ _ _ _ u_I u_L u_i2 u_i3) (fun I0_16 I0_16' L0_16 L0_16' u_I0_16 u_L0_16 => ?_)
        refine SbE rfl (fun b_23 => ?_)
        refine Sc Iff.rfl (fun c6 => ?_) (fun _ => Sn)
        refine Sg (fun g7 => ?_)
        refine SsI (ui_sub (u_I0_16 b_23 10) (rfl : Ui (1) (1)) g7) (fun v_31 v_31' u_v_31 => ?_)
        exact (ih dp e 1 _ _ _ _ _ _ _ _ _ _ _ _ _ _ u_I0_16 u_L0_16 u_i1 u_i2 u_i3 (rfl : Ui (3) (3)) u_v_31)
    refine Sc Iff.rfl (fun _ => ?_) (fun _ => ?_)
    · refine Sc (lt_up u_i5 (rfl : Ui 0 0)) (fun c1 => ?_) (fun c1 => ?_)
      · refine Sc (eq_up u_i1 (rfl : Ui (1) (1))) (fun c2 => ?_) (fun c2 => ?_)
        · exact Sr ⟨(rfl : Ui (1) (1)), u_I, u_L⟩
        · exact Sr ⟨(rfl : Ui (0) (0)), u_I, u_L⟩
      · refine SbE rfl (fun b_42 => ?_)
        refine Sc Iff.rfl (fun c3 => ?_) (fun _ => Sn)
        refine SbE rfl (fun b_45 => ?_)
        refine Sc (and_congr Iff.rfl (ix_up u_i5)) (fun c4 => ?_) (fun _ => Sn)
        refine Sc (eq_up (ui_rd (a := b_45) u_I u_i5 c4.2.1) u_i1) (fun c5 => ?_) (fun c5 => ?_)
        · refine Sc Iff.rfl (fun c6 => ?_) (fun _ => Sn)
          refine Sb3 (ks_73 n (dp - 1) e 0 _ _ _ _ _ _ 0 u_I u_L u_i5) (fun x0_58 x0_58' I0_58 I0_58' L0_58 L0_58' u_x0_58 u_I0_58 u_L0_58 => ?_)
          refine Sc (eq_up u_x0_58 (rfl : Ui 0 0)) (fun c7 => ?_) (fun c7 => ?_)
          · exact (ih dp e 2 _ _ _ _ _ _ _ _ _ _ _ _ _ _ u_I0_58 u_L0_58 u_i1 u_i2 u_i3 u_i4 u_i5)
          · refine Sc Iff.rfl (fun c8 => ?_) (fun _ => Sn)
            refine Sc Iff.rfl (fun c9 => ?_) (fun _ => Sn)
            exact Sr ⟨(ui_max (rfl : Ui (0) (0)) (ui_min (u_I0_58 21 4) u_i4)), u_I0_58, u_L0_58⟩
        · exact (ih dp e 2 _ _ _ _ _ _ _ _ _ _ _ _ _ _ u_I u_L u_i1 u_i2 u_i3 u_i4 u_i5)
    refine Sc Iff.rfl (fun _ => ?_) (fun _ => ?_)
    · refine Sg (fun g1 => ?_)
      exact (ih dp e 1 _ _ _ _ _ _ _ _ _ _ _ _ _ _ u_I u_L u_i1 u_i2 u_i3 u_i4 (ui_add u_i5 (rfl : Ui (Int32.ofInt (-1)) (-1)) g1))
    exact Sn
set_option maxHeartbeats 4000000 in
set_option maxRecDepth 100000 in
def kf_78 : Nat → Nat → EN → Nat → JI → JI → Int → Int → Int → Int → Option (Int × JI × JI)
  | 0, _, _, _, _, _, _, _, _, _ => none
  | n + 1, dp, e, lab, I, L, i1, i2, i3, i4 =>
    if lab = 0 then ((e.2.2 1 7).bind (fun b_2 => (if (b_2 < e.1) ∧ ((e.2.1 b_2).1 = 10) then ((e.2.2 b_2 5).bind (fun b_5 => (if ((b_5 < e.1) ∧ (((e.2.1 b_5).1 = 13) ∧ ((e.2.1 b_5).2 < (2 ^ 31)))) ∧ (0 ≤ i1 ∧ i1 < (((e.2.1 b_5).2 : Nat) : Int)) then (if 1 ≤ dp then ((kf_72 n (dp - 1) e 0 I L (I b_5 i1) i2).bind (fun ⟨x0_11, I0_11, L0_11⟩ => (kf_78 n dp e 1 I0_11 L0_11 i1 i2 x0_11 0))) else none) else none))) else none)))
    else if lab = 1 then (if 10 ≤ i4 then (some ((i3 : Int), I, L)) else ((e.2.2 1 7).bind (fun b_27 => (if (b_27 < e.1) ∧ ((e.2.1 b_27).1 = 10) then ((e.2.2 b_27 7).bind (fun b_30 => (if (-2147483648 ≤ i1 * 10 ∧ i1 * 10 ≤ 2147483647) ∧ (-2147483648 ≤ (i1 * 10) + i4 ∧ (i1 * 10) + i4 ≤ 2147483647) then (if ((b_30 < e.1) ∧ (((e.2.1 b_30).1 = 13) ∧ ((e.2.1 b_30).2 < (2 ^ 31)))) ∧ (0 ≤ ((i1 * 10) + i4) ∧ ((i1 * 10) + i4) < (((e.2.1 b_30).2 : Nat) : Int)) then (if 1 ≤ dp then ((kf_72 n (dp - 1) e 0 I L i4 i2).bind (fun ⟨x0_45, I0_45, L0_45⟩ => (if (-2147483648 ≤ (I b_30 ((i1 * 10) + i4)) * x0_45 ∧ (I b_30 ((i1 * 10) + i4)) * x0_45 ≤ 2147483647) ∧ (-2147483648 ≤ i3 - ((I b_30 ((i1 * 10) + i4)) * x0_45) ∧ i3 - ((I b_30 ((i1 * 10) + i4)) * x0_45) ≤ 2147483647) then (stI (i3 - ((I b_30 ((i1 * 10) + i4)) * x0_45)) (fun v_50 => (if -2147483648 ≤ i4 + 1 ∧ i4 + 1 ≤ 2147483647 then (kf_78 n dp e 1 I0_45 L0_45 i1 i2 v_50 (i4 + 1)) else none))) else none))) else none) else none) else none))) else none))))
    else none
set_option maxRecDepth 100000 in
theorem ke_78_0 (n : Nat) (dp : Nat) (e : EN) (I : JI) (L : JI) (i1 : Int) (i2 : Int) (i3 : Int) (i4 : Int) : kf_78 (n + 1) dp e 0 I L i1 i2 i3 i4 = ((e.2.2 1 7).bind (fun b_2 => (if (b_2 < e.1) ∧ ((e.2.1 b_2).1 = 10) then ((e.2.2 b_2 5).bind (fun b_5 => (if ((b_5 < e.1) ∧ (((e.2.1 b_5).1 = 13) ∧ ((e.2.1 b_5).2 < (2 ^ 31)))) ∧ (0 ≤ i1 ∧ i1 < (((e.2.1 b_5).2 : Nat) : Int)) then (if 1 ≤ dp then ((kf_72 n (dp - 1) e 0 I L (I b_5 i1) i2).bind (fun ⟨x0_11, I0_11, L0_11⟩ => (kf_78 n dp e 1 I0_11 L0_11 i1 i2 x0_11 0))) else none) else none))) else none))) := by rw [kf_78.eq_2, if_pos (show (0 : Nat) = 0 from rfl)]
set_option maxRecDepth 100000 in
theorem ke_78_1 (n : Nat) (dp : Nat) (e : EN) (I : JI) (L : JI) (i1 : Int) (i2 : Int) (i3 : Int) (i4 : Int) : kf_78 (n + 1) dp e 1 I L i1 i2 i3 i4 = (if 10 ≤ i4 then (some ((i3 : Int), I, L)) else ((e.2.2 1 7).bind (fun b_27 => (if (b_27 < e.1) ∧ ((e.2.1 b_27).1 = 10) then ((e.2.2 b_27 7).bind (fun b_30 => (if (-2147483648 ≤ i1 * 10 ∧ i1 * 10 ≤ 2147483647) ∧ (-2147483648 ≤ (i1 * 10) + i4 ∧ (i1 * 10) + i4 ≤ 2147483647) then (if ((b_30 < e.1) ∧ (((e.2.1 b_30).1 = 13) ∧ ((e.2.1 b_30).2 < (2 ^ 31)))) ∧ (0 ≤ ((i1 * 10) + i4) ∧ ((i1 * 10) + i4) < (((e.2.1 b_30).2 : Nat) : Int)) then (if 1 ≤ dp then ((kf_72 n (dp - 1) e 0 I L i4 i2).bind (fun ⟨x0_45, I0_45, L0_45⟩ => (if (-2147483648 ≤ (I b_30 ((i1 * 10) + i4)) * x0_45 ∧ (I b_30 ((i1 * 10) + i4)) * x0_45 ≤ 2147483647) ∧ (-2147483648 ≤ i3 - ((I b_30 ((i1 * 10) + i4)) * x0_45) ∧ i3 - ((I b_30 ((i1 * 10) + i4)) * x0_45) ≤ 2147483647) then (stI (i3 - ((I b_30 ((i1 * 10) + i4)) * x0_45)) (fun v_50 => (if -2147483648 ≤ i4 + 1 ∧ i4 + 1 ≤ 2147483647 then (kf_78 n dp e 1 I0_45 L0_45 i1 i2 v_50 (i4 + 1)) else none))) else none))) else none) else none) else none))) else none)))) := by rw [kf_78.eq_2, if_neg (show ¬ ((1 : Nat) = 0) by decide), if_pos (show (1 : Nat) = 1 from rfl)]
set_option maxHeartbeats 8000000 in
set_option maxRecDepth 100000 in
theorem ks_78 : ∀ (n : Nat) (dp : Nat) (e : EN) (lab : Nat) (I : Nat → Nat → Int32) (I' : JI) (L : Nat → Nat → Int64) (L' : JI) (i1 : Int32) (i1' : Int) (i2 : Int32) (i2' : Int) (i3 : Int32) (i3' : Int) (i4 : Int32) (i4' : Int), Rli I I' → Rll L L' → Ui i1 i1' → Ui i2 i2' → Ui i3 i3' → Ui i4 i4' → Sim R3 (g_78 n dp e lab I L i1 i2 i3 i4) (kf_78 n dp e lab I' L' i1' i2' i3' i4') := by
  intro n
  induction n with
  | zero => intros; rw [kf_78.eq_1]; exact Sn
  | succ n ih =>
    intro dp e lab I I' L L' i1 i1' i2 i2' i3 i3' i4 i4' u_I u_L u_i1 u_i2 u_i3 u_i4
    rw [g_78.eq_2, kf_78.eq_2]
    refine Sc Iff.rfl (fun _ => ?_) (fun _ => ?_)
    · refine SbE rfl (fun b_2 => ?_)
      refine Sc Iff.rfl (fun c1 => ?_) (fun _ => Sn)
      refine SbE rfl (fun b_5 => ?_)
      refine Sc (and_congr Iff.rfl (ix_up u_i1)) (fun c2 => ?_) (fun _ => Sn)
      refine Sc Iff.rfl (fun c3 => ?_) (fun _ => Sn)
      refine Sb3 (ks_72 n (dp - 1) e 0 _ _ _ _ _ _ _ _ u_I u_L (ui_rd (a := b_5) u_I u_i1 c2.2.1) u_i2) (fun x0_11 x0_11' I0_11 I0_11' L0_11 L0_11' u_x0_11 u_I0_11 u_L0_11 => ?_)
      exact (ih dp e 1 _ _ _ _ _ _ _ _ _ _ _ _ u_I0_11 u_L0_11 u_i1 u_i2 u_x0_11 (rfl : Ui (0) (0)))
    refine Sc Iff.rfl (fun _ => ?_) (fun _ => ?_)
    · refine Sc (le_up (rfl : Ui (10) (10)) u_i4) (fun c1 => ?_) (fun c1 => ?_)
      · exact Sr ⟨u_i3, u_I, u_L⟩
      · refine SbE rfl (fun b_27 => ?_)
        refine Sc Iff.rfl (fun c2 => ?_) (fun _ => Sn)
        refine SbE rfl (fun b_30 => ?_)
        refine Sg (fun g3 => ?_)
        refine Sc (and_congr Iff.rfl (ix_up (ui_add (ui_mul u_i1 (rfl : Ui (10) (10)) g3.1) u_i4 g3.2))) (fun c4 => ?_) (fun _ => Sn)
        refine Sc Iff.rfl (fun c5 => ?_) (fun _ => Sn)
        refine Sb3 (ks_72 n (dp - 1) e 0 _ _ _ _ _ _ _ _ u_I u_L u_i4 u_i2) (fun x0_45 x0_45' I0_45 I0_45' L0_45 L0_45' u_x0_45 u_I0_45 u_L0_45 => ?_)
        refine Sg (fun g6 => ?_)
        refine SsI (ui_sub u_i3 (ui_mul (ui_rd (a := b_30) u_I (ui_add (ui_mul u_i1 (rfl : Ui (10) (10)) g3.1) u_i4 g3.2) c4.2.1) u_x0_45 g6.1) g6.2) (fun v_50 v_50' u_v_50 => ?_)
        refine Sg (fun g7 => ?_)
        exact (ih dp e 1 _ _ _ _ _ _ _ _ _ _ _ _ u_I0_45 u_L0_45 u_i1 u_i2 u_v_50 (ui_add u_i4 (rfl : Ui (Int32.ofInt (1)) (1)) g7))
    exact Sn
set_option maxHeartbeats 4000000 in
set_option maxRecDepth 100000 in
def kf_79 : Nat → Nat → EN → Nat → JI → JI → Int → Int → Int → Option (Int × JI × JI)
  | 0, _, _, _, _, _, _, _, _ => none
  | n + 1, dp, e, lab, I, L, i1, i2, i3 =>
    if lab = 0 then (if 1 ≤ dp then ((kf_78 n (dp - 1) e 0 I L i1 i2 0 0).bind (fun ⟨x0_3, I0_3, L0_3⟩ => (if x0_3 < 0 then (kf_79 n dp e 1 I0_3 L0_3 i1 i2 x0_3) else ((e.2.2 1 7).bind (fun b_21 => (if (b_21 < e.1) ∧ ((e.2.1 b_21).1 = 10) then ((e.2.2 b_21 5).bind (fun b_24 => (if ((b_24 < e.1) ∧ (((e.2.1 b_24).1 = 13) ∧ ((e.2.1 b_24).2 < (2 ^ 31)))) ∧ (0 ≤ i1 ∧ i1 < (((e.2.1 b_24).2 : Nat) : Int)) then (if 1 ≤ dp then ((kf_72 n (dp - 1) e 0 I0_3 L0_3 (I0_3 b_24 i1) i2).bind (fun ⟨x1_30, I1_30, L1_30⟩ => (if (-2147483648 ≤ x0_3 * 100 ∧ x0_3 * 100 ≤ 2147483647) ∧ (-2147483648 ≤ (I0_3 1 12) * x1_30 ∧ (I0_3 1 12) * x1_30 ≤ 2147483647) then (if (x0_3 * 100) ≤ ((I0_3 1 12) * x1_30) then (some ((0 : Int), I1_30, L1_30)) else (kf_79 n dp e 1 I1_30 L1_30 i1 i2 x0_3)) else none))) else none) else none))) else none)))))) else none)
    else if lab = 1 then (some ((1 : Int), I, L))
    else none
set_option maxRecDepth 100000 in
theorem ke_79_0 (n : Nat) (dp : Nat) (e : EN) (I : JI) (L : JI) (i1 : Int) (i2 : Int) (i3 : Int) : kf_79 (n + 1) dp e 0 I L i1 i2 i3 = (if 1 ≤ dp then ((kf_78 n (dp - 1) e 0 I L i1 i2 0 0).bind (fun ⟨x0_3, I0_3, L0_3⟩ => (if x0_3 < 0 then (kf_79 n dp e 1 I0_3 L0_3 i1 i2 x0_3) else ((e.2.2 1 7).bind (fun b_21 => (if (b_21 < e.1) ∧ ((e.2.1 b_21).1 = 10) then ((e.2.2 b_21 5).bind (fun b_24 => (if ((b_24 < e.1) ∧ (((e.2.1 b_24).1 = 13) ∧ ((e.2.1 b_24).2 < (2 ^ 31)))) ∧ (0 ≤ i1 ∧ i1 < (((e.2.1 b_24).2 : Nat) : Int)) then (if 1 ≤ dp then ((kf_72 n (dp - 1) e 0 I0_3 L0_3 (I0_3 b_24 i1) i2).bind (fun ⟨x1_30, I1_30, L1_30⟩ => (if (-2147483648 ≤ x0_3 * 100 ∧ x0_3 * 100 ≤ 2147483647) ∧ (-2147483648 ≤ (I0_3 1 12) * x1_30 ∧ (I0_3 1 12) * x1_30 ≤ 2147483647) then (if (x0_3 * 100) ≤ ((I0_3 1 12) * x1_30) then (some ((0 : Int), I1_30, L1_30)) else (kf_79 n dp e 1 I1_30 L1_30 i1 i2 x0_3)) else none))) else none) else none))) else none)))))) else none) := by rw [kf_79.eq_2, if_pos (show (0 : Nat) = 0 from rfl)]
set_option maxRecDepth 100000 in
theorem ke_79_1 (n : Nat) (dp : Nat) (e : EN) (I : JI) (L : JI) (i1 : Int) (i2 : Int) (i3 : Int) : kf_79 (n + 1) dp e 1 I L i1 i2 i3 = (some ((1 : Int), I, L)) := by rw [kf_79.eq_2, if_neg (show ¬ ((1 : Nat) = 0) by decide), if_pos (show (1 : Nat) = 1 from rfl)]
set_option maxHeartbeats 8000000 in
set_option maxRecDepth 100000 in
theorem ks_79 : ∀ (n : Nat) (dp : Nat) (e : EN) (lab : Nat) (I : Nat → Nat → Int32) (I' : JI) (L : Nat → Nat → Int64) (L' : JI) (i1 : Int32) (i1' : Int) (i2 : Int32) (i2' : Int) (i3 : Int32) (i3' : Int), Rli I I' → Rll L L' → Ui i1 i1' → Ui i2 i2' → Ui i3 i3' → Sim R3 (g_79 n dp e lab I L i1 i2 i3) (kf_79 n dp e lab I' L' i1' i2' i3') := by
  intro n
  induction n with
  | zero => intros; rw [kf_79.eq_1]; exact Sn
  | succ n ih =>
    intro dp e lab I I' L L' i1 i1' i2 i2' i3 i3' u_I u_L u_i1 u_i2 u_i3
    rw [g_79.eq_2, kf_79.eq_2]
    refine Sc Iff.rfl (fun _ => ?_) (fun _ => ?_)
    · refine Sc Iff.rfl (fun c1 => ?_) (fun _ => Sn)
      refine Sb3 (ks_78 n (dp - 1) e 0 _ _ _ _ _ _ _ _ _ _ _ _ u_I u_L u_i1 u_i2 (rfl : Ui 0 0) (rfl : Ui 0 0)) (fun x0_3 x0_3' I0_3 I0_3' L0_3 L0_3' u_x0_3 u_I0_3 u_L0_3 => ?_)
      refine Sc (lt_up u_x0_3 (rfl : Ui 0 0)) (fun c2 => ?_) (fun c2 => ?_)
      · exact (ih dp e 1 _ _ _ _ _ _ _ _ _ _ u_I0_3 u_L0_3 u_i1 u_i2 u_x0_3)
      · refine SbE rfl (fun b_21 => ?_)
        refine Sc Iff.rfl (fun c3 => ?_) (fun _ => Sn)
        refine SbE rfl (fun b_24 => ?_)
        refine Sc (and_congr Iff.rfl (ix_up u_i1)) (fun c4 => ?_) (fun _ => Sn)
        refine Sc Iff.rfl (fun c5 => ?_) (fun _ => Sn)
        refine Sb3 (ks_72 n (dp - 1) e 0 _ _ _ _ _ _ _ _ u_I0_3 u_L0_3 (ui_rd (a := b_24) u_I0_3 u_i1 c4.2.1) u_i2) (fun x1_30 x1_30' I1_30 I1_30' L1_30 L1_30' u_x1_30 u_I1_30 u_L1_30 => ?_)
        refine Sg (fun g6 => ?_)
        refine Sc (le_up (ui_mul u_x0_3 (rfl : Ui (100) (100)) g6.1) (ui_mul (u_I0_3 1 12) u_x1_30 g6.2)) (fun c7 => ?_) (fun c7 => ?_)
        · exact Sr ⟨(rfl : Ui (0) (0)), u_I1_30, u_L1_30⟩
        · exact (ih dp e 1 _ _ _ _ _ _ _ _ _ _ u_I1_30 u_L1_30 u_i1 u_i2 u_x0_3)
    refine Sc Iff.rfl (fun _ => ?_) (fun _ => ?_)
    · exact Sr ⟨(rfl : Ui (1) (1)), u_I, u_L⟩
    exact Sn
set_option maxHeartbeats 4000000 in
set_option maxRecDepth 100000 in
def kf_69 : Nat → Nat → EN → Nat → JI → JI → Int → Int → Int → Option (Int × JI × JI)
  | 0, _, _, _, _, _, _, _, _ => none
  | n + 1, dp, e, lab, I, L, i1, i2, i3 =>
    if lab = 0 then ((e.2.2 1 7).bind (fun b_6 => (if (b_6 < e.1) ∧ ((e.2.1 b_6).1 = 10) then (if 1 ≤ dp then (if -2147483648 ≤ (I b_6 11) - 1 ∧ (I b_6 11) - 1 ≤ 2147483647 then ((kf_14 n (dp - 1) e 0 I L i1 0 ((I b_6 11) - 1)).bind (fun ⟨x0_14, I0_14, L0_14⟩ => (if x0_14 = 0 then (some (((-100000) : Int), I0_14, L0_14)) else (if 1 ≤ dp then ((kf_14 n (dp - 1) e 0 I0_14 L0_14 i2 0 2).bind (fun ⟨x1_23, I1_23, L1_23⟩ => (if x1_23 = 0 then (some (((-100000) : Int), I1_23, L1_23)) else (if i3 = 0 then (if 1 ≤ dp then ((kf_70 n (dp - 1) e 0 I1_23 L1_23 i1 i2).bind (fun ⟨x2_74, I2_74, L2_74⟩ => (if x2_74 = 0 then (some ((0 : Int), I2_74, L2_74)) else (some ((1 : Int), I2_74, L2_74))))) else none) else (if i3 = 1 then (if 1 ≤ dp then ((kf_77 n (dp - 1) e 0 I1_23 L1_23 1 i1 i2 0 0).bind (fun ⟨x2_93, I2_93, L2_93⟩ => (some ((x2_93 : Int), I2_93, L2_93)))) else none) else (if i3 = 2 then (if 1 ≤ dp then ((kf_77 n (dp - 1) e 0 I1_23 L1_23 2 i1 i2 0 0).bind (fun ⟨x2_104, I2_104, L2_104⟩ => (some ((x2_104 : Int), I2_104, L2_104)))) else none) else (if i3 = 3 then (if 1 ≤ dp then ((kf_78 n (dp - 1) e 0 I1_23 L1_23 i1 i2 0 0).bind (fun ⟨x2_114, I2_114, L2_114⟩ => (some ((x2_114 : Int), I2_114, L2_114)))) else none) else (if i3 = 4 then (if 1 ≤ dp then ((kf_79 n (dp - 1) e 0 I1_23 L1_23 i1 i2 0).bind (fun ⟨x2_124, I2_124, L2_124⟩ => (if x2_124 = 0 then (some ((0 : Int), I2_124, L2_124)) else (some ((1 : Int), I2_124, L2_124))))) else none) else (some (((-100000) : Int), I1_23, L1_23)))))))))) else none)))) else none) else none) else none)))
    else none
set_option maxRecDepth 100000 in
theorem ke_69_0 (n : Nat) (dp : Nat) (e : EN) (I : JI) (L : JI) (i1 : Int) (i2 : Int) (i3 : Int) : kf_69 (n + 1) dp e 0 I L i1 i2 i3 = ((e.2.2 1 7).bind (fun b_6 => (if (b_6 < e.1) ∧ ((e.2.1 b_6).1 = 10) then (if 1 ≤ dp then (if -2147483648 ≤ (I b_6 11) - 1 ∧ (I b_6 11) - 1 ≤ 2147483647 then ((kf_14 n (dp - 1) e 0 I L i1 0 ((I b_6 11) - 1)).bind (fun ⟨x0_14, I0_14, L0_14⟩ => (if x0_14 = 0 then (some (((-100000) : Int), I0_14, L0_14)) else (if 1 ≤ dp then ((kf_14 n (dp - 1) e 0 I0_14 L0_14 i2 0 2).bind (fun ⟨x1_23, I1_23, L1_23⟩ => (if x1_23 = 0 then (some (((-100000) : Int), I1_23, L1_23)) else (if i3 = 0 then (if 1 ≤ dp then ((kf_70 n (dp - 1) e 0 I1_23 L1_23 i1 i2).bind (fun ⟨x2_74, I2_74, L2_74⟩ => (if x2_74 = 0 then (some ((0 : Int), I2_74, L2_74)) else (some ((1 : Int), I2_74, L2_74))))) else none) else (if i3 = 1 then (if 1 ≤ dp then ((kf_77 n (dp - 1) e 0 I1_23 L1_23 1 i1 i2 0 0).bind (fun ⟨x2_93, I2_93, L2_93⟩ => (some ((x2_93 : Int), I2_93, L2_93)))) else none) else (if i3 = 2 then (if 1 ≤ dp then ((kf_77 n (dp - 1) e 0 I1_23 L1_23 2 i1 i2 0 0).bind (fun ⟨x2_104, I2_104, L2_104⟩ => (some ((x2_104 : Int), I2_104, L2_104)))) else none) else (if i3 = 3 then (if 1 ≤ dp then ((kf_78 n (dp - 1) e 0 I1_23 L1_23 i1 i2 0 0).bind (fun ⟨x2_114, I2_114, L2_114⟩ => (some ((x2_114 : Int), I2_114, L2_114)))) else none) else (if i3 = 4 then (if 1 ≤ dp then ((kf_79 n (dp - 1) e 0 I1_23 L1_23 i1 i2 0).bind (fun ⟨x2_124, I2_124, L2_124⟩ => (if x2_124 = 0 then (some ((0 : Int), I2_124, L2_124)) else (some ((1 : Int), I2_124, L2_124))))) else none) else (some (((-100000) : Int), I1_23, L1_23)))))))))) else none)))) else none) else none) else none))) := by rw [kf_69.eq_2, if_pos (show (0 : Nat) = 0 from rfl)]
set_option maxHeartbeats 8000000 in
set_option maxRecDepth 100000 in
theorem ks_69 : ∀ (n : Nat) (dp : Nat) (e : EN) (lab : Nat) (I : Nat → Nat → Int32) (I' : JI) (L : Nat → Nat → Int64) (L' : JI) (i1 : Int32) (i1' : Int) (i2 : Int32) (i2' : Int) (i3 : Int32) (i3' : Int), Rli I I' → Rll L L' → Ui i1 i1' → Ui i2 i2' → Ui i3 i3' → Sim R3 (g_69 n dp e lab I L i1 i2 i3) (kf_69 n dp e lab I' L' i1' i2' i3') := by
  intro n
  induction n with
  | zero => intros; rw [kf_69.eq_1]; exact Sn
  | succ n ih =>
    intro dp e lab I I' L L' i1 i1' i2 i2' i3 i3' u_I u_L u_i1 u_i2 u_i3
    rw [g_69.eq_2, kf_69.eq_2]
    refine Sc Iff.rfl (fun _ => ?_) (fun _ => ?_)
    · refine SbE rfl (fun b_6 => ?_)
      refine Sc Iff.rfl (fun c1 => ?_) (fun _ => Sn)
      refine Sc Iff.rfl (fun c2 => ?_) (fun _ => Sn)
      refine Sg (fun g3 => ?_)
      refine Sb3 (ks_14 n (dp - 1) e 0 _ _ _ _ _ _ _ _ _ _ u_I u_L u_i1 (rfl : Ui (0) (0)) (ui_sub (u_I b_6 11) (rfl : Ui (1) (1)) g3)) (fun x0_14 x0_14' I0_14 I0_14' L0_14 L0_14' u_x0_14 u_I0_14 u_L0_14 => ?_)
      refine Sc (eq_up u_x0_14 (rfl : Ui 0 0)) (fun c4 => ?_) (fun c4 => ?_)
      · exact Sr ⟨(rfl : Ui (-100000) (-100000)), u_I0_14, u_L0_14⟩
      · refine Sc Iff.rfl (fun c5 => ?_) (fun _ => Sn)
        refine Sb3 (ks_14 n (dp - 1) e 0 _ _ _ _ _ _ _ _ _ _ u_I0_14 u_L0_14 u_i2 (rfl : Ui (0) (0)) (rfl : Ui (2) (2))) (fun x1_23 x1_23' I1_23 I1_23' L1_23 L1_23' u_x1_23 u_I1_23 u_L1_23 => ?_)
        refine Sc (eq_up u_x1_23 (rfl : Ui 0 0)) (fun c6 => ?_) (fun c6 => ?_)
        · exact Sr ⟨(rfl : Ui (-100000) (-100000)), u_I1_23, u_L1_23⟩
        · refine Sc (eq_up u_i3 (rfl : Ui (0) (0))) (fun c7 => ?_) (fun c7 => ?_)
          · refine Sc Iff.rfl (fun c8 => ?_) (fun _ => Sn)
            refine Sb3 (ks_70 n (dp - 1) e 0 _ _ _ _ _ _ _ _ u_I1_23 u_L1_23 u_i1 u_i2) (fun x2_74 x2_74' I2_74 I2_74' L2_74 L2_74' u_x2_74 u_I2_74 u_L2_74 => ?_)
            refine Sc (eq_up u_x2_74 (rfl : Ui 0 0)) (fun c9 => ?_) (fun c9 => ?_)
            · exact Sr ⟨(rfl : Ui (0) (0)), u_I2_74, u_L2_74⟩
            · exact Sr ⟨(rfl : Ui (1) (1)), u_I2_74, u_L2_74⟩
          · refine Sc (eq_up u_i3 (rfl : Ui (1) (1))) (fun c10 => ?_) (fun c10 => ?_)
            · refine Sc Iff.rfl (fun c11 => ?_) (fun _ => Sn)
              refine Sb3 (ks_77 n (dp - 1) e 0 _ _ _ _ _ _ _ _ _ _ _ _ _ _ u_I1_23 u_L1_23 (rfl : Ui (1) (1)) u_i1 u_i2 (rfl : Ui 0 0) (rfl : Ui 0 0)) (fun x2_93 x2_93' I2_93 I2_93' L2_93 L2_93' u_x2_93 u_I2_93 u_L2_93 => ?_)
              exact Sr ⟨u_x2_93, u_I2_93, u_L2_93⟩
            · refine Sc (eq_up u_i3 (rfl : Ui (2) (2))) (fun c12 => ?_) (fun c12 => ?_)
              · refine Sc Iff.rfl (fun c13 => ?_) (fun _ => Sn)
                refine Sb3 (ks_77 n (dp - 1) e 0 _ _ _ _ _ _ _ _ _ _ _ _ _ _ u_I1_23 u_L1_23 (rfl : Ui (2) (2)) u_i1 u_i2 (rfl : Ui 0 0) (rfl : Ui 0 0)) (fun x2_104 x2_104' I2_104 I2_104' L2_104 L2_104' u_x2_104 u_I2_104 u_L2_104 => ?_)
                exact Sr ⟨u_x2_104, u_I2_104, u_L2_104⟩
              · refine Sc (eq_up u_i3 (rfl : Ui (3) (3))) (fun c14 => ?_) (fun c14 => ?_)
                · refine Sc Iff.rfl (fun c15 => ?_) (fun _ => Sn)
                  refine Sb3 (ks_78 n (dp - 1) e 0 _ _ _ _ _ _ _ _ _ _ _ _ u_I1_23 u_L1_23 u_i1 u_i2 (rfl : Ui 0 0) (rfl : Ui 0 0)) (fun x2_114 x2_114' I2_114 I2_114' L2_114 L2_114' u_x2_114 u_I2_114 u_L2_114 => ?_)
                  exact Sr ⟨u_x2_114, u_I2_114, u_L2_114⟩
                · refine Sc (eq_up u_i3 (rfl : Ui (4) (4))) (fun c16 => ?_) (fun c16 => ?_)
                  · refine Sc Iff.rfl (fun c17 => ?_) (fun _ => Sn)
                    refine Sb3 (ks_79 n (dp - 1) e 0 _ _ _ _ _ _ _ _ _ _ u_I1_23 u_L1_23 u_i1 u_i2 (rfl : Ui 0 0)) (fun x2_124 x2_124' I2_124 I2_124' L2_124 L2_124' u_x2_124 u_I2_124 u_L2_124 => ?_)
                    refine Sc (eq_up u_x2_124 (rfl : Ui 0 0)) (fun c18 => ?_) (fun c18 => ?_)
                    · exact Sr ⟨(rfl : Ui (0) (0)), u_I2_124, u_L2_124⟩
                    · exact Sr ⟨(rfl : Ui (1) (1)), u_I2_124, u_L2_124⟩
                  · exact Sr ⟨(rfl : Ui (-100000) (-100000)), u_I1_23, u_L1_23⟩
    exact Sn
set_option maxHeartbeats 4000000 in
set_option maxRecDepth 100000 in
def kf_84 : Nat → Nat → EN → Nat → JI → JI → Int → Nat → Option (JI × JI)
  | 0, _, _, _, _, _, _, _ => none
  | n + 1, dp, e, lab, I, L, i1, a0 =>
    if lab = 0 then (if (a0 < e.1) ∧ ((e.2.1 a0).1 = 2) then (if 64 ≤ (I a0 4) then (kf_84 n dp e 2 I L 0 a0) else (kf_84 n dp e 1 I L 0 a0)) else none)
    else if lab = 1 then (if 10 ≤ i1 then (kf_84 n dp e 2 I L 0 a0) else (if (a0 < e.1) ∧ ((e.2.1 a0).1 = 2) then ((e.2.2 a0 0).bind (fun b_18 => (if (a0 < e.1) ∧ ((e.2.1 a0).1 = 2) then (if (a0 < e.1) ∧ ((e.2.1 a0).1 = 2) then ((e.2.2 a0 2).bind (fun b_31 => (if ((b_31 < e.1) ∧ (((e.2.1 b_31).1 = 13) ∧ ((e.2.1 b_31).2 < (2 ^ 31)))) ∧ (0 ≤ i1 ∧ i1 < (((e.2.1 b_31).2 : Nat) : Int)) then (if (-2147483648 ≤ (I a0 4) * 10 ∧ (I a0 4) * 10 ≤ 2147483647) ∧ (-2147483648 ≤ ((I a0 4) * 10) + i1 ∧ ((I a0 4) * 10) + i1 ≤ 2147483647) then (if ((b_18 < e.1) ∧ (((e.2.1 b_18).1 = 13) ∧ ((e.2.1 b_18).2 < (2 ^ 31)))) ∧ (0 ≤ (((I a0 4) * 10) + i1) ∧ (((I a0 4) * 10) + i1) < (((e.2.1 b_18).2 : Nat) : Int)) then (stI (w2 I b_18 (((I a0 4) * 10) + i1) (I b_31 i1)) (fun I_36 => (if (a0 < e.1) ∧ ((e.2.1 a0).1 = 2) then ((e.2.2 a0 1).bind (fun b_38 => (if (a0 < e.1) ∧ ((e.2.1 a0).1 = 2) then (if (a0 < e.1) ∧ ((e.2.1 a0).1 = 2) then ((e.2.2 a0 2).bind (fun b_51 => (if ((b_51 < e.1) ∧ (((e.2.1 b_51).1 = 13) ∧ ((e.2.1 b_51).2 < (2 ^ 31)))) ∧ (0 ≤ i1 ∧ i1 < (((e.2.1 b_51).2 : Nat) : Int)) then (if (I_36 b_51 i1) = (-1) then (if (a0 < e.1) ∧ ((e.2.1 a0).1 = 2) then ((e.2.2 a0 3).bind (fun b_61 => (if ((b_61 < e.1) ∧ (((e.2.1 b_61).1 = 13) ∧ ((e.2.1 b_61).2 < (2 ^ 31)))) ∧ (0 ≤ i1 ∧ i1 < (((e.2.1 b_61).2 : Nat) : Int)) then (if (-2147483648 ≤ (I_36 a0 4) * 10 ∧ (I_36 a0 4) * 10 ≤ 2147483647) ∧ (-2147483648 ≤ ((I_36 a0 4) * 10) + i1 ∧ ((I_36 a0 4) * 10) + i1 ≤ 2147483647) then (if ((b_38 < e.1) ∧ (((e.2.1 b_38).1 = 13) ∧ ((e.2.1 b_38).2 < (2 ^ 31)))) ∧ (0 ≤ (((I_36 a0 4) * 10) + i1) ∧ (((I_36 a0 4) * 10) + i1) < (((e.2.1 b_38).2 : Nat) : Int)) then (stI (w2 I_36 b_38 (((I_36 a0 4) * 10) + i1) (I_36 b_61 i1)) (fun I_70 => (if -2147483648 ≤ i1 + 1 ∧ i1 + 1 ≤ 2147483647 then (kf_84 n dp e 1 I_70 L (i1 + 1) a0) else none))) else none) else none) else none))) else none) else (if (-2147483648 ≤ (I_36 a0 4) * 10 ∧ (I_36 a0 4) * 10 ≤ 2147483647) ∧ (-2147483648 ≤ ((I_36 a0 4) * 10) + i1 ∧ ((I_36 a0 4) * 10) + i1 ≤ 2147483647) then (if ((b_38 < e.1) ∧ (((e.2.1 b_38).1 = 13) ∧ ((e.2.1 b_38).2 < (2 ^ 31)))) ∧ (0 ≤ (((I_36 a0 4) * 10) + i1) ∧ (((I_36 a0 4) * 10) + i1) < (((e.2.1 b_38).2 : Nat) : Int)) then (stI (w2 I_36 b_38 (((I_36 a0 4) * 10) + i1) 0) (fun I_70 => (if -2147483648 ≤ i1 + 1 ∧ i1 + 1 ≤ 2147483647 then (kf_84 n dp e 1 I_70 L (i1 + 1) a0) else none))) else none) else none)) else none))) else none) else none))) else none))) else none) else none) else none))) else none) else none))) else none))
    else if lab = 2 then (if (a0 < e.1) ∧ ((e.2.1 a0).1 = 2) then (if (a0 < e.1) ∧ ((e.2.1 a0).1 = 2) then (if -2147483648 ≤ (I a0 4) + 1 ∧ (I a0 4) + 1 ≤ 2147483647 then (stI (w2 I a0 4 ((I a0 4) + 1)) (fun I_84 => (some (I_84, L)))) else none) else none) else none)
    else none
set_option maxRecDepth 100000 in
theorem ke_84_0 (n : Nat) (dp : Nat) (e : EN) (I : JI) (L : JI) (i1 : Int) (a0 : Nat) : kf_84 (n + 1) dp e 0 I L i1 a0 = (if (a0 < e.1) ∧ ((e.2.1 a0).1 = 2) then (if 64 ≤ (I a0 4) then (kf_84 n dp e 2 I L 0 a0) else (kf_84 n dp e 1 I L 0 a0)) else none) := by rw [kf_84.eq_2, if_pos (show (0 : Nat) = 0 from rfl)]
set_option maxRecDepth 100000 in
theorem ke_84_1 (n : Nat) (dp : Nat) (e : EN) (I : JI) (L : JI) (i1 : Int) (a0 : Nat) : kf_84 (n + 1) dp e 1 I L i1 a0 = (if 10 ≤ i1 then (kf_84 n dp e 2 I L 0 a0) else (if (a0 < e.1) ∧ ((e.2.1 a0).1 = 2) then ((e.2.2 a0 0).bind (fun b_18 => (if (a0 < e.1) ∧ ((e.2.1 a0).1 = 2) then (if (a0 < e.1) ∧ ((e.2.1 a0).1 = 2) then ((e.2.2 a0 2).bind (fun b_31 => (if ((b_31 < e.1) ∧ (((e.2.1 b_31).1 = 13) ∧ ((e.2.1 b_31).2 < (2 ^ 31)))) ∧ (0 ≤ i1 ∧ i1 < (((e.2.1 b_31).2 : Nat) : Int)) then (if (-2147483648 ≤ (I a0 4) * 10 ∧ (I a0 4) * 10 ≤ 2147483647) ∧ (-2147483648 ≤ ((I a0 4) * 10) + i1 ∧ ((I a0 4) * 10) + i1 ≤ 2147483647) then (if ((b_18 < e.1) ∧ (((e.2.1 b_18).1 = 13) ∧ ((e.2.1 b_18).2 < (2 ^ 31)))) ∧ (0 ≤ (((I a0 4) * 10) + i1) ∧ (((I a0 4) * 10) + i1) < (((e.2.1 b_18).2 : Nat) : Int)) then (stI (w2 I b_18 (((I a0 4) * 10) + i1) (I b_31 i1)) (fun I_36 => (if (a0 < e.1) ∧ ((e.2.1 a0).1 = 2) then ((e.2.2 a0 1).bind (fun b_38 => (if (a0 < e.1) ∧ ((e.2.1 a0).1 = 2) then (if (a0 < e.1) ∧ ((e.2.1 a0).1 = 2) then ((e.2.2 a0 2).bind (fun b_51 => (if ((b_51 < e.1) ∧ (((e.2.1 b_51).1 = 13) ∧ ((e.2.1 b_51).2 < (2 ^ 31)))) ∧ (0 ≤ i1 ∧ i1 < (((e.2.1 b_51).2 : Nat) : Int)) then (if (I_36 b_51 i1) = (-1) then (if (a0 < e.1) ∧ ((e.2.1 a0).1 = 2) then ((e.2.2 a0 3).bind (fun b_61 => (if ((b_61 < e.1) ∧ (((e.2.1 b_61).1 = 13) ∧ ((e.2.1 b_61).2 < (2 ^ 31)))) ∧ (0 ≤ i1 ∧ i1 < (((e.2.1 b_61).2 : Nat) : Int)) then (if (-2147483648 ≤ (I_36 a0 4) * 10 ∧ (I_36 a0 4) * 10 ≤ 2147483647) ∧ (-2147483648 ≤ ((I_36 a0 4) * 10) + i1 ∧ ((I_36 a0 4) * 10) + i1 ≤ 2147483647) then (if ((b_38 < e.1) ∧ (((e.2.1 b_38).1 = 13) ∧ ((e.2.1 b_38).2 < (2 ^ 31)))) ∧ (0 ≤ (((I_36 a0 4) * 10) + i1) ∧ (((I_36 a0 4) * 10) + i1) < (((e.2.1 b_38).2 : Nat) : Int)) then (stI (w2 I_36 b_38 (((I_36 a0 4) * 10) + i1) (I_36 b_61 i1)) (fun I_70 => (if -2147483648 ≤ i1 + 1 ∧ i1 + 1 ≤ 2147483647 then (kf_84 n dp e 1 I_70 L (i1 + 1) a0) else none))) else none) else none) else none))) else none) else (if (-2147483648 ≤ (I_36 a0 4) * 10 ∧ (I_36 a0 4) * 10 ≤ 2147483647) ∧ (-2147483648 ≤ ((I_36 a0 4) * 10) + i1 ∧ ((I_36 a0 4) * 10) + i1 ≤ 2147483647) then (if ((b_38 < e.1) ∧ (((e.2.1 b_38).1 = 13) ∧ ((e.2.1 b_38).2 < (2 ^ 31)))) ∧ (0 ≤ (((I_36 a0 4) * 10) + i1) ∧ (((I_36 a0 4) * 10) + i1) < (((e.2.1 b_38).2 : Nat) : Int)) then (stI (w2 I_36 b_38 (((I_36 a0 4) * 10) + i1) 0) (fun I_70 => (if -2147483648 ≤ i1 + 1 ∧ i1 + 1 ≤ 2147483647 then (kf_84 n dp e 1 I_70 L (i1 + 1) a0) else none))) else none) else none)) else none))) else none) else none))) else none))) else none) else none) else none))) else none) else none))) else none)) := by rw [kf_84.eq_2, if_neg (show ¬ ((1 : Nat) = 0) by decide), if_pos (show (1 : Nat) = 1 from rfl)]
set_option maxRecDepth 100000 in
theorem ke_84_2 (n : Nat) (dp : Nat) (e : EN) (I : JI) (L : JI) (i1 : Int) (a0 : Nat) : kf_84 (n + 1) dp e 2 I L i1 a0 = (if (a0 < e.1) ∧ ((e.2.1 a0).1 = 2) then (if (a0 < e.1) ∧ ((e.2.1 a0).1 = 2) then (if -2147483648 ≤ (I a0 4) + 1 ∧ (I a0 4) + 1 ≤ 2147483647 then (stI (w2 I a0 4 ((I a0 4) + 1)) (fun I_84 => (some (I_84, L)))) else none) else none) else none) := by rw [kf_84.eq_2, if_neg (show ¬ ((2 : Nat) = 0) by decide), if_neg (show ¬ ((2 : Nat) = 1) by decide), if_pos (show (2 : Nat) = 2 from rfl)]
set_option maxHeartbeats 8000000 in
set_option maxRecDepth 100000 in
theorem ks_84 : ∀ (n : Nat) (dp : Nat) (e : EN) (lab : Nat) (I : Nat → Nat → Int32) (I' : JI) (L : Nat → Nat → Int64) (L' : JI) (i1 : Int32) (i1' : Int) (a0 : Nat), Rli I I' → Rll L L' → Ui i1 i1' → Sim R2 (g_84 n dp e lab I L i1 a0) (kf_84 n dp e lab I' L' i1' a0) := by
  intro n
  induction n with
  | zero => intros; rw [kf_84.eq_1]; exact Sn
  | succ n ih =>
    intro dp e lab I I' L L' i1 i1' a0 u_I u_L u_i1
    rw [g_84.eq_2, kf_84.eq_2]
    refine Sc Iff.rfl (fun _ => ?_) (fun _ => ?_)
    · refine Sc Iff.rfl (fun c1 => ?_) (fun _ => Sn)
      refine Sc (le_up (rfl : Ui (64) (64)) (u_I a0 4)) (fun c2 => ?_) (fun c2 => ?_)
      · exact (ih dp e 2 _ _ _ _ _ _ a0 u_I u_L (rfl : Ui 0 0))
      · exact (ih dp e 1 _ _ _ _ _ _ a0 u_I u_L (rfl : Ui (0) (0)))
    refine Sc Iff.rfl (fun _ => ?_) (fun _ => ?_)
    · refine Sc (le_up (rfl : Ui (10) (10)) u_i1) (fun c1 => ?_) (fun c1 => ?_)
      · exact (ih dp e 2 _ _ _ _ _ _ a0 u_I u_L (rfl : Ui 0 0))
      · refine Sc Iff.rfl (fun c2 => ?_) (fun _ => Sn)
        refine SbE rfl (fun b_18 => ?_)
        refine Sc Iff.rfl (fun c3 => ?_) (fun _ => Sn)
        refine Sc Iff.rfl (fun c4 => ?_) (fun _ => Sn)
        refine SbE rfl (fun b_31 => ?_)
        refine Sc (and_congr Iff.rfl (ix_up u_i1)) (fun c5 => ?_) (fun _ => Sn)
        refine Sg (fun g6 => ?_)
        refine Sc (and_congr Iff.rfl (ix_up (ui_add (ui_mul (u_I a0 4) (rfl : Ui (10) (10)) g6.1) u_i1 g6.2))) (fun c7 => ?_) (fun _ => Sn)
        refine SsJ (ri_up u_I (kc_up (ui_add (ui_mul (u_I a0 4) (rfl : Ui (10) (10)) g6.1) u_i1 g6.2) c7.2.1) (ui_rd (a := b_31) u_I u_i1 c5.2.1)) (fun I_36 I_36' u_I_36 => ?_)
        refine Sc Iff.rfl (fun c8 => ?_) (fun _ => Sn)
        refine SbE rfl (fun b_38 => ?_)
        refine Sc Iff.rfl (fun c9 => ?_) (fun _ => Sn)
        refine Sc Iff.rfl (fun c10 => ?_) (fun _ => Sn)
        refine SbE rfl (fun b_51 => ?_)
        refine Sc (and_congr Iff.rfl (ix_up u_i1)) (fun c11 => ?_) (fun _ => Sn)
        refine Sc (eq_up (ui_rd (a := b_51) u_I_36 u_i1 c11.2.1) (rfl : Ui (-1) (-1))) (fun c12 => ?_) (fun c12 => ?_)
        · refine Sc Iff.rfl (fun c13 => ?_) (fun _ => Sn)
          refine SbE rfl (fun b_61 => ?_)
          refine Sc (and_congr Iff.rfl (ix_up u_i1)) (fun c14 => ?_) (fun _ => Sn)
          refine Sg (fun g15 => ?_)
          refine Sc (and_congr Iff.rfl (ix_up (ui_add (ui_mul (u_I_36 a0 4) (rfl : Ui (10) (10)) g15.1) u_i1 g15.2))) (fun c16 => ?_) (fun _ => Sn)
          refine SsJ (ri_up u_I_36 (kc_up (ui_add (ui_mul (u_I_36 a0 4) (rfl : Ui (10) (10)) g15.1) u_i1 g15.2) c16.2.1) (ui_rd (a := b_61) u_I_36 u_i1 c14.2.1)) (fun I_70 I_70' u_I_70 => ?_)
          refine Sg (fun g17 => ?_)
          exact (ih dp e 1 _ _ _ _ _ _ a0 u_I_70 u_L (ui_add u_i1 (rfl : Ui (Int32.ofInt (1)) (1)) g17))
        · refine Sg (fun g18 => ?_)
          refine Sc (and_congr Iff.rfl (ix_up (ui_add (ui_mul (u_I_36 a0 4) (rfl : Ui (10) (10)) g18.1) u_i1 g18.2))) (fun c19 => ?_) (fun _ => Sn)
          refine SsJ (ri_up u_I_36 (kc_up (ui_add (ui_mul (u_I_36 a0 4) (rfl : Ui (10) (10)) g18.1) u_i1 g18.2) c19.2.1) (rfl : Ui (0) (0))) (fun I_70 I_70' u_I_70 => ?_)
          refine Sg (fun g20 => ?_)
          exact (ih dp e 1 _ _ _ _ _ _ a0 u_I_70 u_L (ui_add u_i1 (rfl : Ui (Int32.ofInt (1)) (1)) g20))
    refine Sc Iff.rfl (fun _ => ?_) (fun _ => ?_)
    · refine Sc Iff.rfl (fun c1 => ?_) (fun _ => Sn)
      refine Sc Iff.rfl (fun c2 => ?_) (fun _ => Sn)
      refine Sg (fun g3 => ?_)
      refine SsJ (ri_up u_I (rfl : ((4 : Nat) : Int) = 4) (ui_add (u_I a0 4) (rfl : Ui (1) (1)) g3)) (fun I_84 I_84' u_I_84 => ?_)
      exact Sr ⟨u_I_84, u_L⟩
    exact Sn
set_option maxHeartbeats 4000000 in
set_option maxRecDepth 100000 in
def kf_85 : Nat → Nat → EN → Nat → JI → JI → Int → Int → Int → Nat → Option (Int × JI × JI)
  | 0, _, _, _, _, _, _, _, _, _ => none
  | n + 1, dp, e, lab, I, L, i1, i2, i3, a0 =>
    if lab = 0 then (kf_85 n dp e 1 I L i1 0 0 a0)
    else if lab = 1 then (if 10 ≤ i3 then (some ((i2 : Int), I, L)) else (if (a0 < e.1) ∧ ((e.2.1 a0).1 = 10) then ((e.2.2 a0 7).bind (fun b_12 => (if (-2147483648 ≤ i1 * 10 ∧ i1 * 10 ≤ 2147483647) ∧ (-2147483648 ≤ (i1 * 10) + i3 ∧ (i1 * 10) + i3 ≤ 2147483647) then (if ((b_12 < e.1) ∧ (((e.2.1 b_12).1 = 13) ∧ ((e.2.1 b_12).2 < (2 ^ 31)))) ∧ (0 ≤ ((i1 * 10) + i3) ∧ ((i1 * 10) + i3) < (((e.2.1 b_12).2 : Nat) : Int)) then (if -2147483648 ≤ i2 + (I b_12 ((i1 * 10) + i3)) ∧ i2 + (I b_12 ((i1 * 10) + i3)) ≤ 2147483647 then (stI (i2 + (I b_12 ((i1 * 10) + i3))) (fun v_23 => (if -2147483648 ≤ i3 + 1 ∧ i3 + 1 ≤ 2147483647 then (kf_85 n dp e 1 I L i1 v_23 (i3 + 1) a0) else none))) else none) else none) else none))) else none))
    else none
set_option maxRecDepth 100000 in
theorem ke_85_0 (n : Nat) (dp : Nat) (e : EN) (I : JI) (L : JI) (i1 : Int) (i2 : Int) (i3 : Int) (a0 : Nat) : kf_85 (n + 1) dp e 0 I L i1 i2 i3 a0 = (kf_85 n dp e 1 I L i1 0 0 a0) := by rw [kf_85.eq_2, if_pos (show (0 : Nat) = 0 from rfl)]
set_option maxRecDepth 100000 in
theorem ke_85_1 (n : Nat) (dp : Nat) (e : EN) (I : JI) (L : JI) (i1 : Int) (i2 : Int) (i3 : Int) (a0 : Nat) : kf_85 (n + 1) dp e 1 I L i1 i2 i3 a0 = (if 10 ≤ i3 then (some ((i2 : Int), I, L)) else (if (a0 < e.1) ∧ ((e.2.1 a0).1 = 10) then ((e.2.2 a0 7).bind (fun b_12 => (if (-2147483648 ≤ i1 * 10 ∧ i1 * 10 ≤ 2147483647) ∧ (-2147483648 ≤ (i1 * 10) + i3 ∧ (i1 * 10) + i3 ≤ 2147483647) then (if ((b_12 < e.1) ∧ (((e.2.1 b_12).1 = 13) ∧ ((e.2.1 b_12).2 < (2 ^ 31)))) ∧ (0 ≤ ((i1 * 10) + i3) ∧ ((i1 * 10) + i3) < (((e.2.1 b_12).2 : Nat) : Int)) then (if -2147483648 ≤ i2 + (I b_12 ((i1 * 10) + i3)) ∧ i2 + (I b_12 ((i1 * 10) + i3)) ≤ 2147483647 then (stI (i2 + (I b_12 ((i1 * 10) + i3))) (fun v_23 => (if -2147483648 ≤ i3 + 1 ∧ i3 + 1 ≤ 2147483647 then (kf_85 n dp e 1 I L i1 v_23 (i3 + 1) a0) else none))) else none) else none) else none))) else none)) := by rw [kf_85.eq_2, if_neg (show ¬ ((1 : Nat) = 0) by decide), if_pos (show (1 : Nat) = 1 from rfl)]
set_option maxHeartbeats 8000000 in
set_option maxRecDepth 100000 in
theorem ks_85 : ∀ (n : Nat) (dp : Nat) (e : EN) (lab : Nat) (I : Nat → Nat → Int32) (I' : JI) (L : Nat → Nat → Int64) (L' : JI) (i1 : Int32) (i1' : Int) (i2 : Int32) (i2' : Int) (i3 : Int32) (i3' : Int) (a0 : Nat), Rli I I' → Rll L L' → Ui i1 i1' → Ui i2 i2' → Ui i3 i3' → Sim R3 (g_85 n dp e lab I L i1 i2 i3 a0) (kf_85 n dp e lab I' L' i1' i2' i3' a0) := by
  intro n
  induction n with
  | zero => intros; rw [kf_85.eq_1]; exact Sn
  | succ n ih =>
    intro dp e lab I I' L L' i1 i1' i2 i2' i3 i3' a0 u_I u_L u_i1 u_i2 u_i3
    rw [g_85.eq_2, kf_85.eq_2]
    refine Sc Iff.rfl (fun _ => ?_) (fun _ => ?_)
    · exact (ih dp e 1 _ _ _ _ _ _ _ _ _ _ a0 u_I u_L u_i1 (rfl : Ui (0) (0)) (rfl : Ui (0) (0)))
    refine Sc Iff.rfl (fun _ => ?_) (fun _ => ?_)
    · refine Sc (le_up (rfl : Ui (10) (10)) u_i3) (fun c1 => ?_) (fun c1 => ?_)
      · exact Sr ⟨u_i2, u_I, u_L⟩
      · refine Sc Iff.rfl (fun c2 => ?_) (fun _ => Sn)
        refine SbE rfl (fun b_12 => ?_)
        refine Sg (fun g3 => ?_)
        refine Sc (and_congr Iff.rfl (ix_up (ui_add (ui_mul u_i1 (rfl : Ui (10) (10)) g3.1) u_i3 g3.2))) (fun c4 => ?_) (fun _ => Sn)
        refine Sg (fun g5 => ?_)
        refine SsI (ui_add u_i2 (ui_rd (a := b_12) u_I (ui_add (ui_mul u_i1 (rfl : Ui (10) (10)) g3.1) u_i3 g3.2) c4.2.1) g5) (fun v_23 v_23' u_v_23 => ?_)
        refine Sg (fun g6 => ?_)
        exact (ih dp e 1 _ _ _ _ _ _ _ _ _ _ a0 u_I u_L u_i1 u_v_23 (ui_add u_i3 (rfl : Ui (Int32.ofInt (1)) (1)) g6))
    exact Sn
set_option maxHeartbeats 4000000 in
set_option maxRecDepth 100000 in
def kf_86 : Nat → Nat → EN → Nat → JI → JI → Int → Int → Int → Nat → Nat → Option (JI × JI)
  | 0, _, _, _, _, _, _, _, _, _, _ => none
  | n + 1, dp, e, lab, I, L, i2, i3, i4, a0, a1 =>
    if lab = 0 then (kf_86 n dp e 1 I L i2 i3 0 a0 a1)
    else if lab = 1 then (if 10 ≤ i4 then (some (I, L)) else (if (a0 < e.1) ∧ ((e.2.1 a0).1 = 2) then ((e.2.2 a0 3).bind (fun b_11 => (if ((b_11 < e.1) ∧ (((e.2.1 b_11).1 = 13) ∧ ((e.2.1 b_11).2 < (2 ^ 31)))) ∧ (0 ≤ i4 ∧ i4 < (((e.2.1 b_11).2 : Nat) : Int)) then (if (a1 < e.1) ∧ ((e.2.1 a1).1 = 10) then ((e.2.2 a1 7).bind (fun b_20 => (if (-2147483648 ≤ i2 * 10 ∧ i2 * 10 ≤ 2147483647) ∧ (-2147483648 ≤ (i2 * 10) + i4 ∧ (i2 * 10) + i4 ≤ 2147483647) then (if ((b_20 < e.1) ∧ (((e.2.1 b_20).1 = 13) ∧ ((e.2.1 b_20).2 < (2 ^ 31)))) ∧ (0 ≤ ((i2 * 10) + i4) ∧ ((i2 * 10) + i4) < (((e.2.1 b_20).2 : Nat) : Int)) then (if ((b_11 < e.1) ∧ (((e.2.1 b_11).1 = 13) ∧ ((e.2.1 b_11).2 < (2 ^ 31)))) ∧ (0 ≤ i4 ∧ i4 < (((e.2.1 b_11).2 : Nat) : Int)) then (if (-2147483648 ≤ i3 * (I b_20 ((i2 * 10) + i4)) ∧ i3 * (I b_20 ((i2 * 10) + i4)) ≤ 2147483647) ∧ (-2147483648 ≤ (I b_11 i4) + (i3 * (I b_20 ((i2 * 10) + i4))) ∧ (I b_11 i4) + (i3 * (I b_20 ((i2 * 10) + i4))) ≤ 2147483647) then (stI (w2 I b_11 i4 ((I b_11 i4) + (i3 * (I b_20 ((i2 * 10) + i4))))) (fun I_33 => (if -2147483648 ≤ i4 + 1 ∧ i4 + 1 ≤ 2147483647 then (kf_86 n dp e 1 I_33 L i2 i3 (i4 + 1) a0 a1) else none))) else none) else none) else none) else none))) else none) else none))) else none))
    else none
set_option maxRecDepth 100000 in
theorem ke_86_0 (n : Nat) (dp : Nat) (e : EN) (I : JI) (L : JI) (i2 : Int) (i3 : Int) (i4 : Int) (a0 : Nat) (a1 : Nat) : kf_86 (n + 1) dp e 0 I L i2 i3 i4 a0 a1 = (kf_86 n dp e 1 I L i2 i3 0 a0 a1) := by rw [kf_86.eq_2, if_pos (show (0 : Nat) = 0 from rfl)]
set_option maxRecDepth 100000 in
theorem ke_86_1 (n : Nat) (dp : Nat) (e : EN) (I : JI) (L : JI) (i2 : Int) (i3 : Int) (i4 : Int) (a0 : Nat) (a1 : Nat) : kf_86 (n + 1) dp e 1 I L i2 i3 i4 a0 a1 = (if 10 ≤ i4 then (some (I, L)) else (if (a0 < e.1) ∧ ((e.2.1 a0).1 = 2) then ((e.2.2 a0 3).bind (fun b_11 => (if ((b_11 < e.1) ∧ (((e.2.1 b_11).1 = 13) ∧ ((e.2.1 b_11).2 < (2 ^ 31)))) ∧ (0 ≤ i4 ∧ i4 < (((e.2.1 b_11).2 : Nat) : Int)) then (if (a1 < e.1) ∧ ((e.2.1 a1).1 = 10) then ((e.2.2 a1 7).bind (fun b_20 => (if (-2147483648 ≤ i2 * 10 ∧ i2 * 10 ≤ 2147483647) ∧ (-2147483648 ≤ (i2 * 10) + i4 ∧ (i2 * 10) + i4 ≤ 2147483647) then (if ((b_20 < e.1) ∧ (((e.2.1 b_20).1 = 13) ∧ ((e.2.1 b_20).2 < (2 ^ 31)))) ∧ (0 ≤ ((i2 * 10) + i4) ∧ ((i2 * 10) + i4) < (((e.2.1 b_20).2 : Nat) : Int)) then (if ((b_11 < e.1) ∧ (((e.2.1 b_11).1 = 13) ∧ ((e.2.1 b_11).2 < (2 ^ 31)))) ∧ (0 ≤ i4 ∧ i4 < (((e.2.1 b_11).2 : Nat) : Int)) then (if (-2147483648 ≤ i3 * (I b_20 ((i2 * 10) + i4)) ∧ i3 * (I b_20 ((i2 * 10) + i4)) ≤ 2147483647) ∧ (-2147483648 ≤ (I b_11 i4) + (i3 * (I b_20 ((i2 * 10) + i4))) ∧ (I b_11 i4) + (i3 * (I b_20 ((i2 * 10) + i4))) ≤ 2147483647) then (stI (w2 I b_11 i4 ((I b_11 i4) + (i3 * (I b_20 ((i2 * 10) + i4))))) (fun I_33 => (if -2147483648 ≤ i4 + 1 ∧ i4 + 1 ≤ 2147483647 then (kf_86 n dp e 1 I_33 L i2 i3 (i4 + 1) a0 a1) else none))) else none) else none) else none) else none))) else none) else none))) else none)) := by rw [kf_86.eq_2, if_neg (show ¬ ((1 : Nat) = 0) by decide), if_pos (show (1 : Nat) = 1 from rfl)]
set_option maxHeartbeats 8000000 in
set_option maxRecDepth 100000 in
theorem ks_86 : ∀ (n : Nat) (dp : Nat) (e : EN) (lab : Nat) (I : Nat → Nat → Int32) (I' : JI) (L : Nat → Nat → Int64) (L' : JI) (i2 : Int32) (i2' : Int) (i3 : Int32) (i3' : Int) (i4 : Int32) (i4' : Int) (a0 : Nat) (a1 : Nat), Rli I I' → Rll L L' → Ui i2 i2' → Ui i3 i3' → Ui i4 i4' → Sim R2 (g_86 n dp e lab I L i2 i3 i4 a0 a1) (kf_86 n dp e lab I' L' i2' i3' i4' a0 a1) := by
  intro n
  induction n with
  | zero => intros; rw [kf_86.eq_1]; exact Sn
  | succ n ih =>
    intro dp e lab I I' L L' i2 i2' i3 i3' i4 i4' a0 a1 u_I u_L u_i2 u_i3 u_i4
    rw [g_86.eq_2, kf_86.eq_2]
    refine Sc Iff.rfl (fun _ => ?_) (fun _ => ?_)
    · exact (ih dp e 1 _ _ _ _ _ _ _ _ _ _ a0 a1 u_I u_L u_i2 u_i3 (rfl : Ui (0) (0)))
    refine Sc Iff.rfl (fun _ => ?_) (fun _ => ?_)
    · refine Sc (le_up (rfl : Ui (10) (10)) u_i4) (fun c1 => ?_) (fun c1 => ?_)
      · exact Sr ⟨u_I, u_L⟩
      · refine Sc Iff.rfl (fun c2 => ?_) (fun _ => Sn)
        refine SbE rfl (fun b_11 => ?_)
        refine Sc (and_congr Iff.rfl (ix_up u_i4)) (fun c3 => ?_) (fun _ => Sn)
        refine Sc Iff.rfl (fun c4 => ?_) (fun _ => Sn)
        refine SbE rfl (fun b_20 => ?_)
        refine Sg (fun g5 => ?_)
        refine Sc (and_congr Iff.rfl (ix_up (ui_add (ui_mul u_i2 (rfl : Ui (10) (10)) g5.1) u_i4 g5.2))) (fun c6 => ?_) (fun _ => Sn)
        refine Sc (and_congr Iff.rfl (ix_up u_i4)) (fun c7 => ?_) (fun _ => Sn)
        refine Sg (fun g8 => ?_)
        refine SsJ (ri_up u_I (kc_up u_i4 c7.2.1) (ui_add (ui_rd (a := b_11) u_I u_i4 c7.2.1) (ui_mul u_i3 (ui_rd (a := b_20) u_I (ui_add (ui_mul u_i2 (rfl : Ui (10) (10)) g5.1) u_i4 g5.2) c6.2.1) g8.1) g8.2)) (fun I_33 I_33' u_I_33 => ?_)
        refine Sg (fun g9 => ?_)
        exact (ih dp e 1 _ _ _ _ _ _ _ _ _ _ a0 a1 u_I_33 u_L u_i2 u_i3 (ui_add u_i4 (rfl : Ui (Int32.ofInt (1)) (1)) g9))
    exact Sn
set_option maxHeartbeats 4000000 in
set_option maxRecDepth 100000 in
def kf_83 : Nat → Nat → EN → Nat → JI → JI → Int → Int → Int → Int → Int → Nat → Nat → Option (JI × JI)
  | 0, _, _, _, _, _, _, _, _, _, _, _, _ => none
  | n + 1, dp, e, lab, I, L, i2, i3, i4, i5, i6, a0, a1 =>
    if lab = 0 then (if (a0 < e.1) ∧ ((e.2.1 a0).1 = 2) then (if (I a0 4) ≤ 64 then (if i2 < 10 then (if (a0 < e.1) ∧ ((e.2.1 a0).1 = 2) then ((e.2.2 a0 3).bind (fun b_22 => (if ((b_22 < e.1) ∧ (((e.2.1 b_22).1 = 13) ∧ ((e.2.1 b_22).2 < (2 ^ 31)))) ∧ (0 ≤ i2 ∧ i2 < (((e.2.1 b_22).2 : Nat) : Int)) then (stI (I b_22 i2) (fun v_27 => (if (a0 < e.1) ∧ ((e.2.1 a0).1 = 2) then ((e.2.2 a0 2).bind (fun b_30 => (if ((b_30 < e.1) ∧ (((e.2.1 b_30).1 = 13) ∧ ((e.2.1 b_30).2 < (2 ^ 31)))) ∧ (0 ≤ i2 ∧ i2 < (((e.2.1 b_30).2 : Nat) : Int)) then (stI (w2 I b_30 i2 (-1)) (fun I_35 => (if 1 ≤ dp then (if -2147483648 ≤ i2 + 1 ∧ i2 + 1 ≤ 2147483647 then ((kf_83 n (dp - 1) e 0 I_35 L (i2 + 1) i3 0 0 0 a0 a1).bind (fun ⟨I0_42, L0_42⟩ => (kf_83 n dp e 1 I0_42 L0_42 i2 i3 v_27 0 0 a0 a1))) else none) else none))) else none))) else none))) else none))) else none) else (if (a0 < e.1) ∧ ((e.2.1 a0).1 = 2) then (if 1 ≤ dp then ((kf_84 n (dp - 1) e 0 I L 0 a0).bind (fun ⟨I0_17, L0_17⟩ => (some (I0_17, L0_17)))) else none) else none)) else (some (I, L))) else none)
    else if lab = 1 then (if (a1 < e.1) ∧ ((e.2.1 a1).1 = 10) then (if (I a1 11) ≤ i5 then (some (I, L)) else (if i4 ≤ 0 then (some (I, L)) else (if (a1 < e.1) ∧ ((e.2.1 a1).1 = 10) then (if 1 ≤ dp then ((kf_85 n (dp - 1) e 0 I L i5 0 0 a1).bind (fun ⟨x0_68, I0_68, L0_68⟩ => (if (-2147483648 ≤ x0_68 - 1 ∧ x0_68 - 1 ≤ 2147483647) ∧ (-2147483648 ≤ i4 * (x0_68 - 1) ∧ i4 * (x0_68 - 1) ≤ 2147483647) ∧ (-2147483648 ≤ i3 + (i4 * (x0_68 - 1)) ∧ i3 + (i4 * (x0_68 - 1)) ≤ 2147483647) then (stI (i3 + (i4 * (x0_68 - 1))) (fun v_75 => (if (a1 < e.1) ∧ ((e.2.1 a1).1 = 10) then ((e.2.2 a1 5).bind (fun b_78 => (if ((b_78 < e.1) ∧ (((e.2.1 b_78).1 = 13) ∧ ((e.2.1 b_78).2 < (2 ^ 31)))) ∧ (0 ≤ i5 ∧ i5 < (((e.2.1 b_78).2 : Nat) : Int)) then (if (I0_68 b_78 i5) = i2 then (if (a0 < e.1) ∧ ((e.2.1 a0).1 = 2) then (if (bA (bR (I0_68 a0 6) i5) 1) = 1 then (if 200 < v_75 then (kf_83 n dp e 2 I0_68 L0_68 i2 i3 i4 i5 v_75 a0 a1) else (if (a0 < e.1) ∧ ((e.2.1 a0).1 = 2) then ((e.2.2 a0 2).bind (fun b_110 => (if ((b_110 < e.1) ∧ (((e.2.1 b_110).1 = 13) ∧ ((e.2.1 b_110).2 < (2 ^ 31)))) ∧ (0 ≤ i2 ∧ i2 < (((e.2.1 b_110).2 : Nat) : Int)) then (stI (w2 I0_68 b_110 i2 i5) (fun I_116 => (if (a0 < e.1) ∧ ((e.2.1 a0).1 = 2) then (if 1 ≤ dp then ((kf_86 n (dp - 1) e 0 I_116 L0_68 i5 i4 0 a0 a1).bind (fun ⟨I1_123, L1_123⟩ => (if 1 ≤ dp then (if -2147483648 ≤ i2 + 1 ∧ i2 + 1 ≤ 2147483647 then ((kf_83 n (dp - 1) e 0 I1_123 L1_123 (i2 + 1) v_75 0 0 0 a0 a1).bind (fun ⟨I2_133, L2_133⟩ => (if (a0 < e.1) ∧ ((e.2.1 a0).1 = 2) then (if 1 ≤ dp then (if -2147483648 ≤ -i4 ∧ -i4 ≤ 2147483647 then ((kf_86 n (dp - 1) e 0 I2_133 L2_133 i5 (-i4) 0 a0 a1).bind (fun ⟨I3_143, L3_143⟩ => (kf_83 n dp e 2 I3_143 L3_143 i2 i3 i4 i5 v_75 a0 a1))) else none) else none) else none))) else none) else none))) else none) else none))) else none))) else none)) else (kf_83 n dp e 2 I0_68 L0_68 i2 i3 i4 i5 v_75 a0 a1)) else none) else (kf_83 n dp e 2 I0_68 L0_68 i2 i3 i4 i5 v_75 a0 a1)) else none))) else none))) else none))) else none) else none))) else none)
    else if lab = 2 then (if -2147483648 ≤ i5 + 1 ∧ i5 + 1 ≤ 2147483647 then (kf_83 n dp e 1 I L i2 i3 i4 (i5 + 1) 0 a0 a1) else none)
    else none
set_option maxRecDepth 100000 in
theorem ke_83_0 (n : Nat) (dp : Nat) (e : EN) (I : JI) (L : JI) (i2 : Int) (i3 : Int) (i4 : Int) (i5 : Int) (i6 : Int) (a0 : Nat) (a1 : Nat) : kf_83 (n + 1) dp e 0 I L i2 i3 i4 i5 i6 a0 a1 = (if (a0 < e.1) ∧ ((e.2.1 a0).1 = 2) then (if (I a0 4) ≤ 64 then (if i2 < 10 then (if (a0 < e.1) ∧ ((e.2.1 a0).1 = 2) then ((e.2.2 a0 3).bind (fun b_22 => (if ((b_22 < e.1) ∧ (((e.2.1 b_22).1 = 13) ∧ ((e.2.1 b_22).2 < (2 ^ 31)))) ∧ (0 ≤ i2 ∧ i2 < (((e.2.1 b_22).2 : Nat) : Int)) then (stI (I b_22 i2) (fun v_27 => (if (a0 < e.1) ∧ ((e.2.1 a0).1 = 2) then ((e.2.2 a0 2).bind (fun b_30 => (if ((b_30 < e.1) ∧ (((e.2.1 b_30).1 = 13) ∧ ((e.2.1 b_30).2 < (2 ^ 31)))) ∧ (0 ≤ i2 ∧ i2 < (((e.2.1 b_30).2 : Nat) : Int)) then (stI (w2 I b_30 i2 (-1)) (fun I_35 => (if 1 ≤ dp then (if -2147483648 ≤ i2 + 1 ∧ i2 + 1 ≤ 2147483647 then ((kf_83 n (dp - 1) e 0 I_35 L (i2 + 1) i3 0 0 0 a0 a1).bind (fun ⟨I0_42, L0_42⟩ => (kf_83 n dp e 1 I0_42 L0_42 i2 i3 v_27 0 0 a0 a1))) else none) else none))) else none))) else none))) else none))) else none) else (if (a0 < e.1) ∧ ((e.2.1 a0).1 = 2) then (if 1 ≤ dp then ((kf_84 n (dp - 1) e 0 I L 0 a0).bind (fun ⟨I0_17, L0_17⟩ => (some (I0_17, L0_17)))) else none) else none)) else (some (I, L))) else none) := by rw [kf_83.eq_2, if_pos (show (0 : Nat) = 0 from rfl)]
set_option maxRecDepth 100000 in
theorem ke_83_1 (n : Nat) (dp : Nat) (e : EN) (I : JI) (L : JI) (i2 : Int) (i3 : Int) (i4 : Int) (i5 : Int) (i6 : Int) (a0 : Nat) (a1 : Nat) : kf_83 (n + 1) dp e 1 I L i2 i3 i4 i5 i6 a0 a1 = (if (a1 < e.1) ∧ ((e.2.1 a1).1 = 10) then (if (I a1 11) ≤ i5 then (some (I, L)) else (if i4 ≤ 0 then (some (I, L)) else (if (a1 < e.1) ∧ ((e.2.1 a1).1 = 10) then (if 1 ≤ dp then ((kf_85 n (dp - 1) e 0 I L i5 0 0 a1).bind (fun ⟨x0_68, I0_68, L0_68⟩ => (if (-2147483648 ≤ x0_68 - 1 ∧ x0_68 - 1 ≤ 2147483647) ∧ (-2147483648 ≤ i4 * (x0_68 - 1) ∧ i4 * (x0_68 - 1) ≤ 2147483647) ∧ (-2147483648 ≤ i3 + (i4 * (x0_68 - 1)) ∧ i3 + (i4 * (x0_68 - 1)) ≤ 2147483647) then (stI (i3 + (i4 * (x0_68 - 1))) (fun v_75 => (if (a1 < e.1) ∧ ((e.2.1 a1).1 = 10) then ((e.2.2 a1 5).bind (fun b_78 => (if ((b_78 < e.1) ∧ (((e.2.1 b_78).1 = 13) ∧ ((e.2.1 b_78).2 < (2 ^ 31)))) ∧ (0 ≤ i5 ∧ i5 < (((e.2.1 b_78).2 : Nat) : Int)) then (if (I0_68 b_78 i5) = i2 then (if (a0 < e.1) ∧ ((e.2.1 a0).1 = 2) then (if (bA (bR (I0_68 a0 6) i5) 1) = 1 then (if 200 < v_75 then (kf_83 n dp e 2 I0_68 L0_68 i2 i3 i4 i5 v_75 a0 a1) else (if (a0 < e.1) ∧ ((e.2.1 a0).1 = 2) then ((e.2.2 a0 2).bind (fun b_110 => (if ((b_110 < e.1) ∧ (((e.2.1 b_110).1 = 13) ∧ ((e.2.1 b_110).2 < (2 ^ 31)))) ∧ (0 ≤ i2 ∧ i2 < (((e.2.1 b_110).2 : Nat) : Int)) then (stI (w2 I0_68 b_110 i2 i5) (fun I_116 => (if (a0 < e.1) ∧ ((e.2.1 a0).1 = 2) then (if 1 ≤ dp then ((kf_86 n (dp - 1) e 0 I_116 L0_68 i5 i4 0 a0 a1).bind (fun ⟨I1_123, L1_123⟩ => (if 1 ≤ dp then (if -2147483648 ≤ i2 + 1 ∧ i2 + 1 ≤ 2147483647 then ((kf_83 n (dp - 1) e 0 I1_123 L1_123 (i2 + 1) v_75 0 0 0 a0 a1).bind (fun ⟨I2_133, L2_133⟩ => (if (a0 < e.1) ∧ ((e.2.1 a0).1 = 2) then (if 1 ≤ dp then (if -2147483648 ≤ -i4 ∧ -i4 ≤ 2147483647 then ((kf_86 n (dp - 1) e 0 I2_133 L2_133 i5 (-i4) 0 a0 a1).bind (fun ⟨I3_143, L3_143⟩ => (kf_83 n dp e 2 I3_143 L3_143 i2 i3 i4 i5 v_75 a0 a1))) else none) else none) else none))) else none) else none))) else none) else none))) else none))) else none)) else (kf_83 n dp e 2 I0_68 L0_68 i2 i3 i4 i5 v_75 a0 a1)) else none) else (kf_83 n dp e 2 I0_68 L0_68 i2 i3 i4 i5 v_75 a0 a1)) else none))) else none))) else none))) else none) else none))) else none) := by rw [kf_83.eq_2, if_neg (show ¬ ((1 : Nat) = 0) by decide), if_pos (show (1 : Nat) = 1 from rfl)]
set_option maxRecDepth 100000 in
theorem ke_83_2 (n : Nat) (dp : Nat) (e : EN) (I : JI) (L : JI) (i2 : Int) (i3 : Int) (i4 : Int) (i5 : Int) (i6 : Int) (a0 : Nat) (a1 : Nat) : kf_83 (n + 1) dp e 2 I L i2 i3 i4 i5 i6 a0 a1 = (if -2147483648 ≤ i5 + 1 ∧ i5 + 1 ≤ 2147483647 then (kf_83 n dp e 1 I L i2 i3 i4 (i5 + 1) 0 a0 a1) else none) := by rw [kf_83.eq_2, if_neg (show ¬ ((2 : Nat) = 0) by decide), if_neg (show ¬ ((2 : Nat) = 1) by decide), if_pos (show (2 : Nat) = 2 from rfl)]
set_option maxHeartbeats 8000000 in
set_option maxRecDepth 100000 in
theorem ks_83 : ∀ (n : Nat) (dp : Nat) (e : EN) (lab : Nat) (I : Nat → Nat → Int32) (I' : JI) (L : Nat → Nat → Int64) (L' : JI) (i2 : Int32) (i2' : Int) (i3 : Int32) (i3' : Int) (i4 : Int32) (i4' : Int) (i5 : Int32) (i5' : Int) (i6 : Int32) (i6' : Int) (a0 : Nat) (a1 : Nat), Rli I I' → Rll L L' → Ui i2 i2' → Ui i3 i3' → Ui i4 i4' → Ui i5 i5' → Ui i6 i6' → Sim R2 (g_83 n dp e lab I L i2 i3 i4 i5 i6 a0 a1) (kf_83 n dp e lab I' L' i2' i3' i4' i5' i6' a0 a1) := by
  intro n
  induction n with
  | zero => intros; rw [kf_83.eq_1]; exact Sn
  | succ n ih =>
    intro dp e lab I I' L L' i2 i2' i3 i3' i4 i4' i5 i5' i6 i6' a0 a1 u_I u_L u_i2 u_i3 u_i4 u_i5 u_i6
    rw [g_83.eq_2, kf_83.eq_2]
    refine Sc Iff.rfl (fun _ => ?_) (fun _ => ?_)
    · refine Sc Iff.rfl (fun c1 => ?_) (fun _ => Sn)
      refine Sc (le_up (u_I a0 4) (rfl : Ui (64) (64))) (fun c2 => ?_) (fun c2 => ?_)
      · refine Sc (lt_up u_i2 (rfl : Ui (10) (10))) (fun c3 => ?_) (fun c3 => ?_)
        · refine Sc Iff.rfl (fun c4 => ?_) (fun _ => Sn)
          refine SbE rfl (fun b_22 => ?_)
          refine Sc (and_congr Iff.rfl (ix_up u_i2)) (fun c5 => ?_) (fun _ => Sn)
          refine SsI (ui_rd (a := b_22) u_I u_i2 c5.2.1) (fun v_27 v_27' u_v_27 => ?_)
          refine Sc Iff.rfl (fun c6 => ?_) (fun _ => Sn)
          refine SbE rfl (fun b_30 => ?_)
          refine Sc (and_congr Iff.rfl (ix_up u_i2)) (fun c7 => ?_) (fun _ => Sn)
          refine SsJ (ri_up u_I (kc_up u_i2 c7.2.1) (rfl : Ui (-1) (-1))) (fun I_35 I_35' u_I_35 => ?_)
          refine Sc Iff.rfl (fun c8 => ?_) (fun _ => Sn)
          refine Sg (fun g9 => ?_)
          refine Sb2 (ih (dp - 1) e 0 _ _ _ _ _ _ _ _ _ _ _ _ _ _ a0 a1 u_I_35 u_L (ui_add u_i2 (rfl : Ui (1) (1)) g9) u_i3 (rfl : Ui 0 0) (rfl : Ui 0 0) (rfl : Ui 0 0)) (fun I0_42 I0_42' L0_42 L0_42' u_I0_42 u_L0_42 => ?_)
          exact (ih dp e 1 _ _ _ _ _ _ _ _ _ _ _ _ _ _ a0 a1 u_I0_42 u_L0_42 u_i2 u_i3 u_v_27 (rfl : Ui (0) (0)) (rfl : Ui 0 0))
        · refine Sc Iff.rfl (fun c10 => ?_) (fun _ => Sn)
          refine Sc Iff.rfl (fun c11 => ?_) (fun _ => Sn)
          refine Sb2 (ks_84 n (dp - 1) e 0 _ _ _ _ _ _ a0 u_I u_L (rfl : Ui 0 0)) (fun I0_17 I0_17' L0_17 L0_17' u_I0_17 u_L0_17 => ?_)
          exact Sr ⟨u_I0_17, u_L0_17⟩
      · exact Sr ⟨u_I, u_L⟩
    refine Sc Iff.rfl (fun _ => ?_) (fun _ => ?_)
    · refine Sc Iff.rfl (fun c1 => ?_) (fun _ => Sn)
      refine Sc (le_up (u_I a1 11) u_i5) (fun c2 => ?_) (fun c2 => ?_)
      · exact Sr ⟨u_I, u_L⟩
      · refine Sc (le_up u_i4 (rfl : Ui 0 0)) (fun c3 => ?_) (fun c3 => ?_)
        · exact Sr ⟨u_I, u_L⟩
        · refine Sc Iff.rfl (fun c4 => ?_) (fun _ => Sn)
          refine Sc Iff.rfl (fun c5 => ?_) (fun _ => Sn)
          refine Sb3 (ks_85 n (dp - 1) e 0 _ _ _ _ _ _ _ _ _ _ a1 u_I u_L u_i5 (rfl : Ui 0 0) (rfl : Ui 0 0)) (fun x0_68 x0_68' I0_68 I0_68' L0_68 L0_68' u_x0_68 u_I0_68 u_L0_68 => ?_)
          refine Sg (fun g6 => ?_)
          refine SsI (ui_add u_i3 (ui_mul u_i4 (ui_sub u_x0_68 (rfl : Ui (1) (1)) g6.1) g6.2.1) g6.2.2) (fun v_75 v_75' u_v_75 => ?_)
          refine Sc Iff.rfl (fun c7 => ?_) (fun _ => Sn)
          refine SbE rfl (fun b_78 => ?_)
          refine Sc (and_congr Iff.rfl (ix_up u_i5)) (fun c8 => ?_) (fun _ => Sn)
          refine Sc (eq_up (ui_rd (a := b_78) u_I0_68 u_i5 c8.2.1) u_i2) (fun c9 => ?_) (fun c9 => ?_)
          · refine Sc Iff.rfl (fun c10 => ?_) (fun _ => Sn)
            refine Sc (eq_up (ui_and (ui_shr (u_I0_68 a0 6) u_i5) (rfl : Ui (1) (1))) (rfl : Ui (1) (1))) (fun c11 => ?_) (fun c11 => ?_)
            · refine Sc (lt_up (rfl : Ui (200) (200)) u_v_75) (fun c12 => ?_) (fun c12 => ?_)
              · exact (ih dp e 2 _ _ _ _ _ _ _ _ _ _ _ _ _ _ a0 a1 u_I0_68 u_L0_68 u_i2 u_i3 u_i4 u_i5 u_v_75)
              · refine Sc Iff.rfl (fun c13 => ?_) (fun _ => Sn)
                refine SbE rfl (fun b_110 => ?_)
                refine Sc (and_congr Iff.rfl (ix_up u_i2)) (fun c14 => ?_) (fun _ => Sn)
                refine SsJ (ri_up u_I0_68 (kc_up u_i2 c14.2.1) u_i5) (fun I_116 I_116' u_I_116 => ?_)
                refine Sc Iff.rfl (fun c15 => ?_) (fun _ => Sn)
                refine Sc Iff.rfl (fun c16 => ?_) (fun _ => Sn)
                refine Sb2 (ks_86 n (dp - 1) e 0 _ _ _ _ _ _ _ _ _ _ a0 a1 u_I_116 u_L0_68 u_i5 u_i4 (rfl : Ui 0 0)) (fun I1_123 I1_123' L1_123 L1_123' u_I1_123 u_L1_123 => ?_)
                refine Sc Iff.rfl (fun c17 => ?_) (fun _ => Sn)
                refine Sg (fun g18 => ?_)
                refine Sb2 (ih (dp - 1) e 0 _ _ _ _ _ _ _ _ _ _ _ _ _ _ a0 a1 u_I1_123 u_L1_123 (ui_add u_i2 (rfl : Ui (1) (1)) g18) u_v_75 (rfl : Ui 0 0) (rfl : Ui 0 0) (rfl : Ui 0 0)) (fun I2_133 I2_133' L2_133 L2_133' u_I2_133 u_L2_133 => ?_)
                refine Sc Iff.rfl (fun c19 => ?_) (fun _ => Sn)
                refine Sc Iff.rfl (fun c20 => ?_) (fun _ => Sn)
                refine Sg (fun g21 => ?_)
                refine Sb2 (ks_86 n (dp - 1) e 0 _ _ _ _ _ _ _ _ _ _ a0 a1 u_I2_133 u_L2_133 u_i5 (ui_neg u_i4 g21) (rfl : Ui 0 0)) (fun I3_143 I3_143' L3_143 L3_143' u_I3_143 u_L3_143 => ?_)
                exact (ih dp e 2 _ _ _ _ _ _ _ _ _ _ _ _ _ _ a0 a1 u_I3_143 u_L3_143 u_i2 u_i3 u_i4 u_i5 u_v_75)
            · exact (ih dp e 2 _ _ _ _ _ _ _ _ _ _ _ _ _ _ a0 a1 u_I0_68 u_L0_68 u_i2 u_i3 u_i4 u_i5 u_v_75)
          · exact (ih dp e 2 _ _ _ _ _ _ _ _ _ _ _ _ _ _ a0 a1 u_I0_68 u_L0_68 u_i2 u_i3 u_i4 u_i5 u_v_75)
    refine Sc Iff.rfl (fun _ => ?_) (fun _ => ?_)
    · refine Sg (fun g1 => ?_)
      exact (ih dp e 1 _ _ _ _ _ _ _ _ _ _ _ _ _ _ a0 a1 u_I u_L u_i2 u_i3 u_i4 (ui_add u_i5 (rfl : Ui (Int32.ofInt (1)) (1)) g1) (rfl : Ui 0 0))
    exact Sn
set_option maxHeartbeats 4000000 in
set_option maxRecDepth 100000 in
def kf_82 : Nat → Nat → EN → Nat → JI → JI → Int → Nat → Nat → Option (Int × JI × JI)
  | 0, _, _, _, _, _, _, _, _ => none
  | n + 1, dp, e, lab, I, L, i2, a0, a1 =>
    if lab = 0 then (if (a1 < e.1) ∧ ((e.2.1 a1).1 = 10) then (if (a0 < e.1) ∧ ((e.2.1 a0).1 = 2) then (if (I a1 13) = (I a0 5) then (if (a0 < e.1) ∧ ((e.2.1 a0).1 = 2) then (if i2 = (I a0 6) then (some ((0 : Int), I, L)) else (kf_82 n dp e 1 I L i2 a0 a1)) else none) else (kf_82 n dp e 1 I L i2 a0 a1)) else none) else none)
    else if lab = 1 then (if (a1 < e.1) ∧ ((e.2.1 a1).1 = 10) then (if (a0 < e.1) ∧ ((e.2.1 a0).1 = 2) then (stI (w2 I a0 5 (I a1 13)) (fun I_26 => (if (a0 < e.1) ∧ ((e.2.1 a0).1 = 2) then (stI (w2 I_26 a0 6 i2) (fun I_31 => (if (a0 < e.1) ∧ ((e.2.1 a0).1 = 2) then (stI (w2 I_31 a0 4 0) (fun I_36 => (if (a0 < e.1) ∧ ((e.2.1 a0).1 = 2) then ((e.2.2 a0 3).bind (fun b_40 => (if 1 ≤ dp then ((kf_36 n (dp - 1) e 0 I_36 L 0 0 0 b_40).bind (fun ⟨I0_44, L0_44⟩ => (if (a0 < e.1) ∧ ((e.2.1 a0).1 = 2) then ((e.2.2 a0 3).bind (fun b_48 => (if ((b_48 < e.1) ∧ (((e.2.1 b_48).1 = 13) ∧ ((e.2.1 b_48).2 < (2 ^ 31)))) ∧ (((0 : Int) ≤ 0) ∧ (0 < (e.2.1 b_48).2)) then (stI (w2 I0_44 b_48 0 1) (fun I_53 => (if 1 ≤ dp then ((kf_83 n (dp - 1) e 0 I_53 L0_44 0 1 0 0 0 a0 a1).bind (fun ⟨I1_58, L1_58⟩ => (some ((1 : Int), I1_58, L1_58)))) else none))) else none))) else none))) else none))) else none))) else none))) else none))) else none) else none)
    else none
set_option maxRecDepth 100000 in
theorem ke_82_0 (n : Nat) (dp : Nat) (e : EN) (I : JI) (L : JI) (i2 : Int) (a0 : Nat) (a1 : Nat) : kf_82 (n + 1) dp e 0 I L i2 a0 a1 = (if (a1 < e.1) ∧ ((e.2.1 a1).1 = 10) then (if (a0 < e.1) ∧ ((e.2.1 a0).1 = 2) then (if (I a1 13) = (I a0 5) then (if (a0 < e.1) ∧ ((e.2.1 a0).1 = 2) then (if i2 = (I a0 6) then (some ((0 : Int), I, L)) else (kf_82 n dp e 1 I L i2 a0 a1)) else none) else (kf_82 n dp e 1 I L i2 a0 a1)) else none) else none) := by rw [kf_82.eq_2, if_pos (show (0 : Nat) = 0 from rfl)]
set_option maxRecDepth 100000 in
theorem ke_82_1 (n : Nat) (dp : Nat) (e : EN) (I : JI) (L : JI) (i2 : Int) (a0 : Nat) (a1 : Nat) : kf_82 (n + 1) dp e 1 I L i2 a0 a1 = (if (a1 < e.1) ∧ ((e.2.1 a1).1 = 10) then (if (a0 < e.1) ∧ ((e.2.1 a0).1 = 2) then (stI (w2 I a0 5 (I a1 13)) (fun I_26 => (if (a0 < e.1) ∧ ((e.2.1 a0).1 = 2) then (stI (w2 I_26 a0 6 i2) (fun I_31 => (if (a0 < e.1) ∧ ((e.2.1 a0).1 = 2) then (stI (w2 I_31 a0 4 0) (fun I_36 => (if (a0 < e.1) ∧ ((e.2.1 a0).1 = 2) then ((e.2.2 a0 3).bind (fun b_40 => (if 1 ≤ dp then ((kf_36 n (dp - 1) e 0 I_36 L 0 0 0 b_40).bind (fun ⟨I0_44, L0_44⟩ => (if (a0 < e.1) ∧ ((e.2.1 a0).1 = 2) then ((e.2.2 a0 3).bind (fun b_48 => (if ((b_48 < e.1) ∧ (((e.2.1 b_48).1 = 13) ∧ ((e.2.1 b_48).2 < (2 ^ 31)))) ∧ (((0 : Int) ≤ 0) ∧ (0 < (e.2.1 b_48).2)) then (stI (w2 I0_44 b_48 0 1) (fun I_53 => (if 1 ≤ dp then ((kf_83 n (dp - 1) e 0 I_53 L0_44 0 1 0 0 0 a0 a1).bind (fun ⟨I1_58, L1_58⟩ => (some ((1 : Int), I1_58, L1_58)))) else none))) else none))) else none))) else none))) else none))) else none))) else none))) else none) else none) := by rw [kf_82.eq_2, if_neg (show ¬ ((1 : Nat) = 0) by decide), if_pos (show (1 : Nat) = 1 from rfl)]
set_option maxHeartbeats 8000000 in
set_option maxRecDepth 100000 in
theorem ks_82 : ∀ (n : Nat) (dp : Nat) (e : EN) (lab : Nat) (I : Nat → Nat → Int32) (I' : JI) (L : Nat → Nat → Int64) (L' : JI) (i2 : Int32) (i2' : Int) (a0 : Nat) (a1 : Nat), Rli I I' → Rll L L' → Ui i2 i2' → Sim R3 (g_82 n dp e lab I L i2 a0 a1) (kf_82 n dp e lab I' L' i2' a0 a1) := by
  intro n
  induction n with
  | zero => intros; rw [kf_82.eq_1]; exact Sn
  | succ n ih =>
    intro dp e lab I I' L L' i2 i2' a0 a1 u_I u_L u_i2
    rw [g_82.eq_2, kf_82.eq_2]
    refine Sc Iff.rfl (fun _ => ?_) (fun _ => ?_)
    · refine Sc Iff.rfl (fun c1 => ?_) (fun _ => Sn)
      refine Sc Iff.rfl (fun c2 => ?_) (fun _ => Sn)
      refine Sc (eq_up (u_I a1 13) (u_I a0 5)) (fun c3 => ?_) (fun c3 => ?_)
      · refine Sc Iff.rfl (fun c4 => ?_) (fun _ => Sn)
        refine Sc (eq_up u_i2 (u_I a0 6)) (fun c5 => ?_) (fun c5 => ?_)
        · exact Sr ⟨(rfl : Ui (0) (0)), u_I, u_L⟩
        · exact (ih dp e 1 _ _ _ _ _ _ a0 a1 u_I u_L u_i2)
      · exact (ih dp e 1 _ _ _ _ _ _ a0 a1 u_I u_L u_i2)
    refine Sc Iff.rfl (fun _ => ?_) (fun _ => ?_)
    · refine Sc Iff.rfl (fun c1 => ?_) (fun _ => Sn)
      refine Sc Iff.rfl (fun c2 => ?_) (fun _ => Sn)
      refine SsJ (ri_up u_I (rfl : ((5 : Nat) : Int) = 5) (u_I a1 13)) (fun I_26 I_26' u_I_26 => ?_)
      refine Sc Iff.rfl (fun c3 => ?_) (fun _ => Sn)
      refine SsJ (ri_up u_I_26 (rfl : ((6 : Nat) : Int) = 6) u_i2) (fun I_31 I_31' u_I_31 => ?_)
      refine Sc Iff.rfl (fun c4 => ?_) (fun _ => Sn)
      refine SsJ (ri_up u_I_31 (rfl : ((4 : Nat) : Int) = 4) (rfl : Ui (0) (0))) (fun I_36 I_36' u_I_36 => ?_)
      refine Sc Iff.rfl (fun c5 => ?_) (fun _ => Sn)
      refine SbE rfl (fun b_40 => ?_)
      refine Sc Iff.rfl (fun c6 => ?_) (fun _ => Sn)
      refine Sb2 (ks_36 n (dp - 1) e 0 _ _ _ _ _ _ _ _ _ _ b_40 u_I_36 u_L (rfl : Ui (0) (0)) (rfl : Ui 0 0) (rfl : Ui 0 0)) (fun I0_44 I0_44' L0_44 L0_44' u_I0_44 u_L0_44 => ?_)
      refine Sc Iff.rfl (fun c7 => ?_) (fun _ => Sn)
      refine SbE rfl (fun b_48 => ?_)
      refine Sc (and_congr Iff.rfl (and_congr (le_up (rfl : Ui 0 0) (rfl : Ui (0) (0))) Iff.rfl)) (fun c8 => ?_) (fun _ => Sn)
      refine SsJ (ri_up u_I0_44 (rfl : ((0 : Nat) : Int) = 0) (rfl : Ui (1) (1))) (fun I_53 I_53' u_I_53 => ?_)
      refine Sc Iff.rfl (fun c9 => ?_) (fun _ => Sn)
      refine Sb2 (ks_83 n (dp - 1) e 0 _ _ _ _ _ _ _ _ _ _ _ _ _ _ a0 a1 u_I_53 u_L0_44 (rfl : Ui (0) (0)) (rfl : Ui (1) (1)) (rfl : Ui 0 0) (rfl : Ui 0 0) (rfl : Ui 0 0)) (fun I1_58 I1_58' L1_58 L1_58' u_I1_58 u_L1_58 => ?_)
      exact Sr ⟨(rfl : Ui (1) (1)), u_I1_58, u_L1_58⟩
    exact Sn
set_option maxHeartbeats 4000000 in
set_option maxRecDepth 100000 in
def kf_81 : Nat → Nat → EN → Nat → JI → JI → Int → Int → Int → Int → Option (JI × JI)
  | 0, _, _, _, _, _, _, _, _, _ => none
  | n + 1, dp, e, lab, I, L, i1, i2, i3, i4 =>
    if lab = 0 then (if (I 24 13) = 0 then (some (I, L)) else (kf_81 n dp e 1 I L 0 0 0 0))
    else if lab = 1 then (if 3 ≤ i2 then (stI (w2 I 24 13 0) (fun I_91 => (if i1 = 0 then (some (I_91, L)) else (if 1 ≤ dp then ((kf_25 n (dp - 1) e 0 I_91 L).bind (fun ⟨I0_99, L0_99⟩ => (some (I0_99, L0_99)))) else none)))) else (kf_81 n dp e 2 I L i1 i2 0 0))
    else if lab = 2 then ((e.2.2 1 7).bind (fun b_28 => (if (b_28 < e.1) ∧ ((e.2.1 b_28).1 = 10) then (if (I b_28 11) ≤ i4 then (if 0 ≤ i2 ∧ i2 < 3 then ((e.2.2 25 (Int.toNat i2)).bind (fun b_69 => ((e.2.2 1 7).bind (fun b_74 => (if (b_69 < e.1) ∧ ((e.2.1 b_69).1 = 2) then (if 1 ≤ dp then ((kf_82 n (dp - 1) e 0 I L i3 b_69 b_74).bind (fun ⟨x0_78, I0_78, L0_78⟩ => (if -2147483648 ≤ i2 + 1 ∧ i2 + 1 ≤ 2147483647 then (kf_81 n dp e 1 I0_78 L0_78 (bO i1 x0_78) (i2 + 1) 0 0) else none))) else none) else none))))) else none) else (if 1 ≤ dp then ((kf_70 n (dp - 1) e 0 I L i4 i2).bind (fun ⟨x0_44, I0_44, L0_44⟩ => (if x0_44 = 0 then (kf_81 n dp e 3 I0_44 L0_44 i1 i2 i3 i4) else (stI (bO i3 (bL 1 i4)) (fun v_56 => (kf_81 n dp e 3 I0_44 L0_44 i1 i2 v_56 i4)))))) else none)) else none)))
    else if lab = 3 then (if -2147483648 ≤ i4 + 1 ∧ i4 + 1 ≤ 2147483647 then (kf_81 n dp e 2 I L i1 i2 i3 (i4 + 1)) else none)
    else none
set_option maxRecDepth 100000 in
theorem ke_81_0 (n : Nat) (dp : Nat) (e : EN) (I : JI) (L : JI) (i1 : Int) (i2 : Int) (i3 : Int) (i4 : Int) : kf_81 (n + 1) dp e 0 I L i1 i2 i3 i4 = (if (I 24 13) = 0 then (some (I, L)) else (kf_81 n dp e 1 I L 0 0 0 0)) := by rw [kf_81.eq_2, if_pos (show (0 : Nat) = 0 from rfl)]
set_option maxRecDepth 100000 in
theorem ke_81_1 (n : Nat) (dp : Nat) (e : EN) (I : JI) (L : JI) (i1 : Int) (i2 : Int) (i3 : Int) (i4 : Int) : kf_81 (n + 1) dp e 1 I L i1 i2 i3 i4 = (if 3 ≤ i2 then (stI (w2 I 24 13 0) (fun I_91 => (if i1 = 0 then (some (I_91, L)) else (if 1 ≤ dp then ((kf_25 n (dp - 1) e 0 I_91 L).bind (fun ⟨I0_99, L0_99⟩ => (some (I0_99, L0_99)))) else none)))) else (kf_81 n dp e 2 I L i1 i2 0 0)) := by rw [kf_81.eq_2, if_neg (show ¬ ((1 : Nat) = 0) by decide), if_pos (show (1 : Nat) = 1 from rfl)]
set_option maxRecDepth 100000 in
theorem ke_81_2 (n : Nat) (dp : Nat) (e : EN) (I : JI) (L : JI) (i1 : Int) (i2 : Int) (i3 : Int) (i4 : Int) : kf_81 (n + 1) dp e 2 I L i1 i2 i3 i4 = ((e.2.2 1 7).bind (fun b_28 => (if (b_28 < e.1) ∧ ((e.2.1 b_28).1 = 10) then (if (I b_28 11) ≤ i4 then (if 0 ≤ i2 ∧ i2 < 3 then ((e.2.2 25 (Int.toNat i2)).bind (fun b_69 => ((e.2.2 1 7).bind (fun b_74 => (if (b_69 < e.1) ∧ ((e.2.1 b_69).1 = 2) then (if 1 ≤ dp then ((kf_82 n (dp - 1) e 0 I L i3 b_69 b_74).bind (fun ⟨x0_78, I0_78, L0_78⟩ => (if -2147483648 ≤ i2 + 1 ∧ i2 + 1 ≤ 2147483647 then (kf_81 n dp e 1 I0_78 L0_78 (bO i1 x0_78) (i2 + 1) 0 0) else none))) else none) else none))))) else none) else (if 1 ≤ dp then ((kf_70 n (dp - 1) e 0 I L i4 i2).bind (fun ⟨x0_44, I0_44, L0_44⟩ => (if x0_44 = 0 then (kf_81 n dp e 3 I0_44 L0_44 i1 i2 i3 i4) else (stI (bO i3 (bL 1 i4)) (fun v_56 => (kf_81 n dp e 3 I0_44 L0_44 i1 i2 v_56 i4)))))) else none)) else none))) := by rw [kf_81.eq_2, if_neg (show ¬ ((2 : Nat) = 0) by decide), if_neg (show ¬ ((2 : Nat) = 1) by decide), if_pos (show (2 : Nat) = 2 from rfl)]
set_option maxRecDepth 100000 in
theorem ke_81_3 (n : Nat) (dp : Nat) (e : EN) (I : JI) (L : JI) (i1 : Int) (i2 : Int) (i3 : Int) (i4 : Int) : kf_81 (n + 1) dp e 3 I L i1 i2 i3 i4 = (if -2147483648 ≤ i4 + 1 ∧ i4 + 1 ≤ 2147483647 then (kf_81 n dp e 2 I L i1 i2 i3 (i4 + 1)) else none) := by rw [kf_81.eq_2, if_neg (show ¬ ((3 : Nat) = 0) by decide), if_neg (show ¬ ((3 : Nat) = 1) by decide), if_neg (show ¬ ((3 : Nat) = 2) by decide), if_pos (show (3 : Nat) = 3 from rfl)]
set_option maxHeartbeats 8000000 in
set_option maxRecDepth 100000 in
theorem ks_81 : ∀ (n : Nat) (dp : Nat) (e : EN) (lab : Nat) (I : Nat → Nat → Int32) (I' : JI) (L : Nat → Nat → Int64) (L' : JI) (i1 : Int32) (i1' : Int) (i2 : Int32) (i2' : Int) (i3 : Int32) (i3' : Int) (i4 : Int32) (i4' : Int), Rli I I' → Rll L L' → Ui i1 i1' → Ui i2 i2' → Ui i3 i3' → Ui i4 i4' → Sim R2 (g_81 n dp e lab I L i1 i2 i3 i4) (kf_81 n dp e lab I' L' i1' i2' i3' i4') := by
  intro n
  induction n with
  | zero => intros; rw [kf_81.eq_1]; exact Sn
  | succ n ih =>
    intro dp e lab I I' L L' i1 i1' i2 i2' i3 i3' i4 i4' u_I u_L u_i1 u_i2 u_i3 u_i4
    rw [g_81.eq_2, kf_81.eq_2]
    refine Sc Iff.rfl (fun _ => ?_) (fun _ => ?_)
    · refine Sc (eq_up (u_I 24 13) (rfl : Ui 0 0)) (fun c1 => ?_) (fun c1 => ?_)
      · exact Sr ⟨u_I, u_L⟩
      · exact (ih dp e 1 _ _ _ _ _ _ _ _ _ _ _ _ u_I u_L (rfl : Ui (0) (0)) (rfl : Ui (0) (0)) (rfl : Ui 0 0) (rfl : Ui 0 0))
    refine Sc Iff.rfl (fun _ => ?_) (fun _ => ?_)
    · refine Sc (le_up (rfl : Ui (3) (3)) u_i2) (fun c1 => ?_) (fun c1 => ?_)
      · refine SsJ (ri_up u_I (rfl : ((13 : Nat) : Int) = 13) (rfl : Ui (0) (0))) (fun I_91 I_91' u_I_91 => ?_)
        refine Sc (eq_up u_i1 (rfl : Ui 0 0)) (fun c2 => ?_) (fun c2 => ?_)
        · exact Sr ⟨u_I_91, u_L⟩
        · refine Sc Iff.rfl (fun c3 => ?_) (fun _ => Sn)
          refine Sb2 (ks_25 n (dp - 1) e 0 _ _ _ _ u_I_91 u_L) (fun I0_99 I0_99' L0_99 L0_99' u_I0_99 u_L0_99 => ?_)
          exact Sr ⟨u_I0_99, u_L0_99⟩
      · exact (ih dp e 2 _ _ _ _ _ _ _ _ _ _ _ _ u_I u_L u_i1 u_i2 (rfl : Ui (0) (0)) (rfl : Ui (0) (0)))
    refine Sc Iff.rfl (fun _ => ?_) (fun _ => ?_)
    · refine SbE rfl (fun b_28 => ?_)
      refine Sc Iff.rfl (fun c1 => ?_) (fun _ => Sn)
      refine Sc (le_up (u_I b_28 11) u_i4) (fun c2 => ?_) (fun c2 => ?_)
      · refine Sc (ix_up u_i2) (fun c3 => ?_) (fun _ => Sn)
        refine SbE (by first | (rw [cl_up u_i2]; done) | (rw [cl_up u_i2]; rfl)) (fun b_69 => ?_)
        refine SbE rfl (fun b_74 => ?_)
        refine Sc Iff.rfl (fun c4 => ?_) (fun _ => Sn)
        refine Sc Iff.rfl (fun c5 => ?_) (fun _ => Sn)
        refine Sb3 (ks_82 n (dp - 1) e 0 _ _ _ _ _ _ b_69 b_74 u_I u_L u_i3) (fun x0_78 x0_78' I0_78 I0_78' L0_78 L0_78' u_x0_78 u_I0_78 u_L0_78 => ?_)
        refine Sg (fun g6 => ?_)
        exact (ih dp e 1 _ _ _ _ _ _ _ _ _ _ _ _ u_I0_78 u_L0_78 (ui_or u_i1 u_x0_78) (ui_add u_i2 (rfl : Ui (Int32.ofInt (1)) (1)) g6) (rfl : Ui 0 0) (rfl : Ui 0 0))
      · refine Sc Iff.rfl (fun c7 => ?_) (fun _ => Sn)
        refine Sb3 (ks_70 n (dp - 1) e 0 _ _ _ _ _ _ _ _ u_I u_L u_i4 u_i2) (fun x0_44 x0_44' I0_44 I0_44' L0_44 L0_44' u_x0_44 u_I0_44 u_L0_44 => ?_)
        refine Sc (eq_up u_x0_44 (rfl : Ui 0 0)) (fun c8 => ?_) (fun c8 => ?_)
        · exact (ih dp e 3 _ _ _ _ _ _ _ _ _ _ _ _ u_I0_44 u_L0_44 u_i1 u_i2 u_i3 u_i4)
        · refine SsI (ui_or u_i3 (ui_shl (rfl : Ui (1) (1)) u_i4)) (fun v_56 v_56' u_v_56 => ?_)
          exact (ih dp e 3 _ _ _ _ _ _ _ _ _ _ _ _ u_I0_44 u_L0_44 u_i1 u_i2 u_v_56 u_i4)
    refine Sc Iff.rfl (fun _ => ?_) (fun _ => ?_)
    · refine Sg (fun g1 => ?_)
      exact (ih dp e 2 _ _ _ _ _ _ _ _ _ _ _ _ u_I u_L u_i1 u_i2 u_i3 (ui_add u_i4 (rfl : Ui (Int32.ofInt (1)) (1)) g1))
    exact Sn
set_option maxHeartbeats 4000000 in
set_option maxRecDepth 100000 in
def kf_80 : Nat → Nat → EN → Nat → JI → JI → Int → Option (Int × JI × JI)
  | 0, _, _, _, _, _, _ => none
  | n + 1, dp, e, lab, I, L, i1 =>
    if lab = 0 then (if 1 ≤ dp then ((kf_14 n (dp - 1) e 0 I L i1 0 2).bind (fun ⟨x0_3, I0_3, L0_3⟩ => (if x0_3 = 0 then (some (((-1) : Int), I0_3, L0_3)) else (if 1 ≤ dp then ((kf_81 n (dp - 1) e 0 I0_3 L0_3 0 0 0 0).bind (fun ⟨I1_15, L1_15⟩ => (if 0 ≤ i1 ∧ i1 < 3 then ((e.2.2 25 (Int.toNat i1)).bind (fun b_26 => (if (b_26 < e.1) ∧ ((e.2.1 b_26).1 = 2) then (some (((I1_15 b_26 4) : Int), I1_15, L1_15)) else none))) else none))) else none)))) else none)
    else none
set_option maxRecDepth 100000 in
theorem ke_80_0 (n : Nat) (dp : Nat) (e : EN) (I : JI) (L : JI) (i1 : Int) : kf_80 (n + 1) dp e 0 I L i1 = (if 1 ≤ dp then ((kf_14 n (dp - 1) e 0 I L i1 0 2).bind (fun ⟨x0_3, I0_3, L0_3⟩ => (if x0_3 = 0 then (some (((-1) : Int), I0_3, L0_3)) else (if 1 ≤ dp then ((kf_81 n (dp - 1) e 0 I0_3 L0_3 0 0 0 0).bind (fun ⟨I1_15, L1_15⟩ => (if 0 ≤ i1 ∧ i1 < 3 then ((e.2.2 25 (Int.toNat i1)).bind (fun b_26 => (if (b_26 < e.1) ∧ ((e.2.1 b_26).1 = 2) then (some (((I1_15 b_26 4) : Int), I1_15, L1_15)) else none))) else none))) else none)))) else none) := by rw [kf_80.eq_2, if_pos (show (0 : Nat) = 0 from rfl)]
set_option maxHeartbeats 8000000 in
set_option maxRecDepth 100000 in
theorem ks_80 : ∀ (n : Nat) (dp : Nat) (e : EN) (lab : Nat) (I : Nat → Nat → Int32) (I' : JI) (L : Nat → Nat → Int64) (L' : JI) (i1 : Int32) (i1' : Int), Rli I I' → Rll L L' → Ui i1 i1' → Sim R3 (g_80 n dp e lab I L i1) (kf_80 n dp e lab I' L' i1') := by
  intro n
  induction n with
  | zero => intros; rw [kf_80.eq_1]; exact Sn
  | succ n ih =>
    intro dp e lab I I' L L' i1 i1' u_I u_L u_i1
    rw [g_80.eq_2, kf_80.eq_2]
    refine Sc Iff.rfl (fun _ => ?_) (fun _ => ?_)
    · refine Sc Iff.rfl (fun c1 => ?_) (fun _ => Sn)
      refine Sb3 (ks_14 n (dp - 1) e 0 _ _ _ _ _ _ _ _ _ _ u_I u_L u_i1 (rfl : Ui (0) (0)) (rfl : Ui (2) (2))) (fun x0_3 x0_3' I0_3 I0_3' L0_3 L0_3' u_x0_3 u_I0_3 u_L0_3 => ?_)
      refine Sc (eq_up u_x0_3 (rfl : Ui 0 0)) (fun c2 => ?_) (fun c2 => ?_)
      · exact Sr ⟨(rfl : Ui (-1) (-1)), u_I0_3, u_L0_3⟩
      · refine Sc Iff.rfl (fun c3 => ?_) (fun _ => Sn)
        refine Sb2 (ks_81 n (dp - 1) e 0 _ _ _ _ _ _ _ _ _ _ _ _ u_I0_3 u_L0_3 (rfl : Ui 0 0) (rfl : Ui 0 0) (rfl : Ui 0 0) (rfl : Ui 0 0)) (fun I1_15 I1_15' L1_15 L1_15' u_I1_15 u_L1_15 => ?_)
        refine Sc (ix_up u_i1) (fun c4 => ?_) (fun _ => Sn)
        refine SbE (by first | (rw [cl_up u_i1]; done) | (rw [cl_up u_i1]; rfl)) (fun b_26 => ?_)
        refine Sc Iff.rfl (fun c5 => ?_) (fun _ => Sn)
        exact Sr ⟨(u_I1_15 b_26 4), u_I1_15, u_L1_15⟩
    exact Sn
set_option maxHeartbeats 4000000 in
set_option maxRecDepth 100000 in
def kf_88 : Nat → Nat → EN → Nat → JI → JI → Int → Int → Int → Option (Int × JI × JI)
  | 0, _, _, _, _, _, _, _, _ => none
  | n + 1, dp, e, lab, I, L, i1, i2, i3 =>
    if lab = 0 then (if 1 ≤ dp then ((kf_14 n (dp - 1) e 0 I L i1 0 2).bind (fun ⟨x0_3, I0_3, L0_3⟩ => (if x0_3 = 0 then (some ((0 : Int), I0_3, L0_3)) else (if 1 ≤ dp then ((kf_14 n (dp - 1) e 0 I0_3 L0_3 i3 0 9).bind (fun ⟨x1_13, I1_13, L1_13⟩ => (if x1_13 = 0 then (some ((0 : Int), I1_13, L1_13)) else (if 1 ≤ dp then ((kf_81 n (dp - 1) e 0 I1_13 L1_13 0 0 0 0).bind (fun ⟨I2_25, L2_25⟩ => (if 0 ≤ i1 ∧ i1 < 3 then ((e.2.2 25 (Int.toNat i1)).bind (fun b_36 => (if (b_36 < e.1) ∧ ((e.2.1 b_36).1 = 2) then (if 64 < (I2_25 b_36 4) then (some ((0 : Int), I2_25, L2_25)) else (if 1 ≤ dp then (if -2147483648 ≤ (I2_25 b_36 4) - 1 ∧ (I2_25 b_36 4) - 1 ≤ 2147483647 then ((kf_14 n (dp - 1) e 0 I2_25 L2_25 i2 0 ((I2_25 b_36 4) - 1)).bind (fun ⟨x3_55, I3_55, L3_55⟩ => (if x3_55 = 0 then (some ((0 : Int), I3_55, L3_55)) else (some ((1 : Int), I3_55, L3_55))))) else none) else none)) else none))) else none))) else none)))) else none)))) else none)
    else none
set_option maxRecDepth 100000 in
theorem ke_88_0 (n : Nat) (dp : Nat) (e : EN) (I : JI) (L : JI) (i1 : Int) (i2 : Int) (i3 : Int) : kf_88 (n + 1) dp e 0 I L i1 i2 i3 = (if 1 ≤ dp then ((kf_14 n (dp - 1) e 0 I L i1 0 2).bind (fun ⟨x0_3, I0_3, L0_3⟩ => (if x0_3 = 0 then (some ((0 : Int), I0_3, L0_3)) else (if 1 ≤ dp then ((kf_14 n (dp - 1) e 0 I0_3 L0_3 i3 0 9).bind (fun ⟨x1_13, I1_13, L1_13⟩ => (if x1_13 = 0 then (some ((0 : Int), I1_13, L1_13)) else (if 1 ≤ dp then ((kf_81 n (dp - 1) e 0 I1_13 L1_13 0 0 0 0).bind (fun ⟨I2_25, L2_25⟩ => (if 0 ≤ i1 ∧ i1 < 3 then ((e.2.2 25 (Int.toNat i1)).bind (fun b_36 => (if (b_36 < e.1) ∧ ((e.2.1 b_36).1 = 2) then (if 64 < (I2_25 b_36 4) then (some ((0 : Int), I2_25, L2_25)) else (if 1 ≤ dp then (if -2147483648 ≤ (I2_25 b_36 4) - 1 ∧ (I2_25 b_36 4) - 1 ≤ 2147483647 then ((kf_14 n (dp - 1) e 0 I2_25 L2_25 i2 0 ((I2_25 b_36 4) - 1)).bind (fun ⟨x3_55, I3_55, L3_55⟩ => (if x3_55 = 0 then (some ((0 : Int), I3_55, L3_55)) else (some ((1 : Int), I3_55, L3_55))))) else none) else none)) else none))) else none))) else none)))) else none)))) else none) := by rw [kf_88.eq_2, if_pos (show (0 : Nat) = 0 from rfl)]
set_option maxHeartbeats 8000000 in
set_option maxRecDepth 100000 in
theorem ks_88 : ∀ (n : Nat) (dp : Nat) (e : EN) (lab : Nat) (I : Nat → Nat → Int32) (I' : JI) (L : Nat → Nat → Int64) (L' : JI) (i1 : Int32) (i1' : Int) (i2 : Int32) (i2' : Int) (i3 : Int32) (i3' : Int), Rli I I' → Rll L L' → Ui i1 i1' → Ui i2 i2' → Ui i3 i3' → Sim R3 (g_88 n dp e lab I L i1 i2 i3) (kf_88 n dp e lab I' L' i1' i2' i3') := by
  intro n
  induction n with
  | zero => intros; rw [kf_88.eq_1]; exact Sn
  | succ n ih =>
    intro dp e lab I I' L L' i1 i1' i2 i2' i3 i3' u_I u_L u_i1 u_i2 u_i3
    rw [g_88.eq_2, kf_88.eq_2]
    refine Sc Iff.rfl (fun _ => ?_) (fun _ => ?_)
    · refine Sc Iff.rfl (fun c1 => ?_) (fun _ => Sn)
      refine Sb3 (ks_14 n (dp - 1) e 0 _ _ _ _ _ _ _ _ _ _ u_I u_L u_i1 (rfl : Ui (0) (0)) (rfl : Ui (2) (2))) (fun x0_3 x0_3' I0_3 I0_3' L0_3 L0_3' u_x0_3 u_I0_3 u_L0_3 => ?_)
      refine Sc (eq_up u_x0_3 (rfl : Ui 0 0)) (fun c2 => ?_) (fun c2 => ?_)
      · exact Sr ⟨(rfl : Ui (0) (0)), u_I0_3, u_L0_3⟩
      · refine Sc Iff.rfl (fun c3 => ?_) (fun _ => Sn)
        refine Sb3 (ks_14 n (dp - 1) e 0 _ _ _ _ _ _ _ _ _ _ u_I0_3 u_L0_3 u_i3 (rfl : Ui (0) (0)) (rfl : Ui (9) (9))) (fun x1_13 x1_13' I1_13 I1_13' L1_13 L1_13' u_x1_13 u_I1_13 u_L1_13 => ?_)
        refine Sc (eq_up u_x1_13 (rfl : Ui 0 0)) (fun c4 => ?_) (fun c4 => ?_)
        · exact Sr ⟨(rfl : Ui (0) (0)), u_I1_13, u_L1_13⟩
        · refine Sc Iff.rfl (fun c5 => ?_) (fun _ => Sn)
          refine Sb2 (ks_81 n (dp - 1) e 0 _ _ _ _ _ _ _ _ _ _ _ _ u_I1_13 u_L1_13 (rfl : Ui 0 0) (rfl : Ui 0 0) (rfl : Ui 0 0) (rfl : Ui 0 0)) (fun I2_25 I2_25' L2_25 L2_25' u_I2_25 u_L2_25 => ?_)
          refine Sc (ix_up u_i1) (fun c6 => ?_) (fun _ => Sn)
          refine SbE (by first | (rw [cl_up u_i1]; done) | (rw [cl_up u_i1]; rfl)) (fun b_36 => ?_)
          refine Sc Iff.rfl (fun c7 => ?_) (fun _ => Sn)
          refine Sc (lt_up (rfl : Ui (64) (64)) (u_I2_25 b_36 4)) (fun c8 => ?_) (fun c8 => ?_)
          · exact Sr ⟨(rfl : Ui (0) (0)), u_I2_25, u_L2_25⟩
          · refine Sc Iff.rfl (fun c9 => ?_) (fun _ => Sn)
            refine Sg (fun g10 => ?_)
            refine Sb3 (ks_14 n (dp - 1) e 0 _ _ _ _ _ _ _ _ _ _ u_I2_25 u_L2_25 u_i2 (rfl : Ui (0) (0)) (ui_sub (u_I2_25 b_36 4) (rfl : Ui (1) (1)) g10)) (fun x3_55 x3_55' I3_55 I3_55' L3_55 L3_55' u_x3_55 u_I3_55 u_L3_55 => ?_)
            refine Sc (eq_up u_x3_55 (rfl : Ui 0 0)) (fun c11 => ?_) (fun c11 => ?_)
            · exact Sr ⟨(rfl : Ui (0) (0)), u_I3_55, u_L3_55⟩
            · exact Sr ⟨(rfl : Ui (1) (1)), u_I3_55, u_L3_55⟩
    exact Sn
set_option maxHeartbeats 4000000 in
set_option maxRecDepth 100000 in
def kf_87 : Nat → Nat → EN → Nat → JI → JI → Int → Int → Int → Option (Int × JI × JI)
  | 0, _, _, _, _, _, _, _, _ => none
  | n + 1, dp, e, lab, I, L, i1, i2, i3 =>
    if lab = 0 then (if 1 ≤ dp then ((kf_88 n (dp - 1) e 0 I L i1 i2 i3).bind (fun ⟨x0_4, I0_4, L0_4⟩ => (if x0_4 = 0 then (some (((-100000) : Int), I0_4, L0_4)) else (if 0 ≤ i1 ∧ i1 < 3 then ((e.2.2 25 (Int.toNat i1)).bind (fun b_21 => (if (b_21 < e.1) ∧ ((e.2.1 b_21).1 = 2) then ((e.2.2 b_21 0).bind (fun b_22 => (if (-2147483648 ≤ i2 * 10 ∧ i2 * 10 ≤ 2147483647) ∧ (-2147483648 ≤ (i2 * 10) + i3 ∧ (i2 * 10) + i3 ≤ 2147483647) then (if ((b_22 < e.1) ∧ (((e.2.1 b_22).1 = 13) ∧ ((e.2.1 b_22).2 < (2 ^ 31)))) ∧ (0 ≤ ((i2 * 10) + i3) ∧ ((i2 * 10) + i3) < (((e.2.1 b_22).2 : Nat) : Int)) then (some (((I0_4 b_22 ((i2 * 10) + i3)) : Int), I0_4, L0_4)) else none) else none))) else none))) else none)))) else none)
    else none
set_option maxRecDepth 100000 in
theorem ke_87_0 (n : Nat) (dp : Nat) (e : EN) (I : JI) (L : JI) (i1 : Int) (i2 : Int) (i3 : Int) : kf_87 (n + 1) dp e 0 I L i1 i2 i3 = (if 1 ≤ dp then ((kf_88 n (dp - 1) e 0 I L i1 i2 i3).bind (fun ⟨x0_4, I0_4, L0_4⟩ => (if x0_4 = 0 then (some (((-100000) : Int), I0_4, L0_4)) else (if 0 ≤ i1 ∧ i1 < 3 then ((e.2.2 25 (Int.toNat i1)).bind (fun b_21 => (if (b_21 < e.1) ∧ ((e.2.1 b_21).1 = 2) then ((e.2.2 b_21 0).bind (fun b_22 => (if (-2147483648 ≤ i2 * 10 ∧ i2 * 10 ≤ 2147483647) ∧ (-2147483648 ≤ (i2 * 10) + i3 ∧ (i2 * 10) + i3 ≤ 2147483647) then (if ((b_22 < e.1) ∧ (((e.2.1 b_22).1 = 13) ∧ ((e.2.1 b_22).2 < (2 ^ 31)))) ∧ (0 ≤ ((i2 * 10) + i3) ∧ ((i2 * 10) + i3) < (((e.2.1 b_22).2 : Nat) : Int)) then (some (((I0_4 b_22 ((i2 * 10) + i3)) : Int), I0_4, L0_4)) else none) else none))) else none))) else none)))) else none) := by rw [kf_87.eq_2, if_pos (show (0 : Nat) = 0 from rfl)]
set_option maxHeartbeats 8000000 in
set_option maxRecDepth 100000 in
theorem ks_87 : ∀ (n : Nat) (dp : Nat) (e : EN) (lab : Nat) (I : Nat → Nat → Int32) (I' : JI) (L : Nat → Nat → Int64) (L' : JI) (i1 : Int32) (i1' : Int) (i2 : Int32) (i2' : Int) (i3 : Int32) (i3' : Int), Rli I I' → Rll L L' → Ui i1 i1' → Ui i2 i2' → Ui i3 i3' → Sim R3 (g_87 n dp e lab I L i1 i2 i3) (kf_87 n dp e lab I' L' i1' i2' i3') := by
  intro n
  induction n with
  | zero => intros; rw [kf_87.eq_1]; exact Sn
  | succ n ih =>
    intro dp e lab I I' L L' i1 i1' i2 i2' i3 i3' u_I u_L u_i1 u_i2 u_i3
    rw [g_87.eq_2, kf_87.eq_2]
    refine Sc Iff.rfl (fun _ => ?_) (fun _ => ?_)
    · refine Sc Iff.rfl (fun c1 => ?_) (fun _ => Sn)
      refine Sb3 (ks_88 n (dp - 1) e 0 _ _ _ _ _ _ _ _ _ _ u_I u_L u_i1 u_i2 u_i3) (fun x0_4 x0_4' I0_4 I0_4' L0_4 L0_4' u_x0_4 u_I0_4 u_L0_4 => ?_)
      refine Sc (eq_up u_x0_4 (rfl : Ui 0 0)) (fun c2 => ?_) (fun c2 => ?_)
      · exact Sr ⟨(rfl : Ui (-100000) (-100000)), u_I0_4, u_L0_4⟩
      · refine Sc (ix_up u_i1) (fun c3 => ?_) (fun _ => Sn)
        refine SbE (by first | (rw [cl_up u_i1]; done) | (rw [cl_up u_i1]; rfl)) (fun b_21 => ?_)
        refine Sc Iff.rfl (fun c4 => ?_) (fun _ => Sn)
        refine SbE rfl (fun b_22 => ?_)
        refine Sg (fun g5 => ?_)
        refine Sc (and_congr Iff.rfl (ix_up (ui_add (ui_mul u_i2 (rfl : Ui (10) (10)) g5.1) u_i3 g5.2))) (fun c6 => ?_) (fun _ => Sn)
        exact Sr ⟨(ui_rd (a := b_22) u_I0_4 (ui_add (ui_mul u_i2 (rfl : Ui (10) (10)) g5.1) u_i3 g5.2) c6.2.1), u_I0_4, u_L0_4⟩
    exact Sn
set_option maxHeartbeats 4000000 in
set_option maxRecDepth 100000 in
def kf_89 : Nat → Nat → EN → Nat → JI → JI → Int → Int → Int → Option (Int × JI × JI)
  | 0, _, _, _, _, _, _, _, _ => none
  | n + 1, dp, e, lab, I, L, i1, i2, i3 =>
    if lab = 0 then (if 1 ≤ dp then ((kf_88 n (dp - 1) e 0 I L i1 i2 i3).bind (fun ⟨x0_4, I0_4, L0_4⟩ => (if x0_4 = 0 then (some (((-1) : Int), I0_4, L0_4)) else (if 0 ≤ i1 ∧ i1 < 3 then ((e.2.2 25 (Int.toNat i1)).bind (fun b_20 => (if (b_20 < e.1) ∧ ((e.2.1 b_20).1 = 2) then ((e.2.2 b_20 1).bind (fun b_21 => (if (-2147483648 ≤ i2 * 10 ∧ i2 * 10 ≤ 2147483647) ∧ (-2147483648 ≤ (i2 * 10) + i3 ∧ (i2 * 10) + i3 ≤ 2147483647) then (if ((b_21 < e.1) ∧ (((e.2.1 b_21).1 = 13) ∧ ((e.2.1 b_21).2 < (2 ^ 31)))) ∧ (0 ≤ ((i2 * 10) + i3) ∧ ((i2 * 10) + i3) < (((e.2.1 b_21).2 : Nat) : Int)) then (some (((I0_4 b_21 ((i2 * 10) + i3)) : Int), I0_4, L0_4)) else none) else none))) else none))) else none)))) else none)
    else none
set_option maxRecDepth 100000 in
theorem ke_89_0 (n : Nat) (dp : Nat) (e : EN) (I : JI) (L : JI) (i1 : Int) (i2 : Int) (i3 : Int) : kf_89 (n + 1) dp e 0 I L i1 i2 i3 = (if 1 ≤ dp then ((kf_88 n (dp - 1) e 0 I L i1 i2 i3).bind (fun ⟨x0_4, I0_4, L0_4⟩ => (if x0_4 = 0 then (some (((-1) : Int), I0_4, L0_4)) else (if 0 ≤ i1 ∧ i1 < 3 then ((e.2.2 25 (Int.toNat i1)).bind (fun b_20 => (if (b_20 < e.1) ∧ ((e.2.1 b_20).1 = 2) then ((e.2.2 b_20 1).bind (fun b_21 => (if (-2147483648 ≤ i2 * 10 ∧ i2 * 10 ≤ 2147483647) ∧ (-2147483648 ≤ (i2 * 10) + i3 ∧ (i2 * 10) + i3 ≤ 2147483647) then (if ((b_21 < e.1) ∧ (((e.2.1 b_21).1 = 13) ∧ ((e.2.1 b_21).2 < (2 ^ 31)))) ∧ (0 ≤ ((i2 * 10) + i3) ∧ ((i2 * 10) + i3) < (((e.2.1 b_21).2 : Nat) : Int)) then (some (((I0_4 b_21 ((i2 * 10) + i3)) : Int), I0_4, L0_4)) else none) else none))) else none))) else none)))) else none) := by rw [kf_89.eq_2, if_pos (show (0 : Nat) = 0 from rfl)]
set_option maxHeartbeats 8000000 in
set_option maxRecDepth 100000 in
theorem ks_89 : ∀ (n : Nat) (dp : Nat) (e : EN) (lab : Nat) (I : Nat → Nat → Int32) (I' : JI) (L : Nat → Nat → Int64) (L' : JI) (i1 : Int32) (i1' : Int) (i2 : Int32) (i2' : Int) (i3 : Int32) (i3' : Int), Rli I I' → Rll L L' → Ui i1 i1' → Ui i2 i2' → Ui i3 i3' → Sim R3 (g_89 n dp e lab I L i1 i2 i3) (kf_89 n dp e lab I' L' i1' i2' i3') := by
  intro n
  induction n with
  | zero => intros; rw [kf_89.eq_1]; exact Sn
  | succ n ih =>
    intro dp e lab I I' L L' i1 i1' i2 i2' i3 i3' u_I u_L u_i1 u_i2 u_i3
    rw [g_89.eq_2, kf_89.eq_2]
    refine Sc Iff.rfl (fun _ => ?_) (fun _ => ?_)
    · refine Sc Iff.rfl (fun c1 => ?_) (fun _ => Sn)
      refine Sb3 (ks_88 n (dp - 1) e 0 _ _ _ _ _ _ _ _ _ _ u_I u_L u_i1 u_i2 u_i3) (fun x0_4 x0_4' I0_4 I0_4' L0_4 L0_4' u_x0_4 u_I0_4 u_L0_4 => ?_)
      refine Sc (eq_up u_x0_4 (rfl : Ui 0 0)) (fun c2 => ?_) (fun c2 => ?_)
      · exact Sr ⟨(rfl : Ui (-1) (-1)), u_I0_4, u_L0_4⟩
      · refine Sc (ix_up u_i1) (fun c3 => ?_) (fun _ => Sn)
        refine SbE (by first | (rw [cl_up u_i1]; done) | (rw [cl_up u_i1]; rfl)) (fun b_20 => ?_)
        refine Sc Iff.rfl (fun c4 => ?_) (fun _ => Sn)
        refine SbE rfl (fun b_21 => ?_)
        refine Sg (fun g5 => ?_)
        refine Sc (and_congr Iff.rfl (ix_up (ui_add (ui_mul u_i2 (rfl : Ui (10) (10)) g5.1) u_i3 g5.2))) (fun c6 => ?_) (fun _ => Sn)
        exact Sr ⟨(ui_rd (a := b_21) u_I0_4 (ui_add (ui_mul u_i2 (rfl : Ui (10) (10)) g5.1) u_i3 g5.2) c6.2.1), u_I0_4, u_L0_4⟩
    exact Sn
set_option maxHeartbeats 4000000 in
set_option maxRecDepth 100000 in
def kf_93 : Nat → Nat → EN → Nat → JI → JI → Int → Int → Int → Option (Int × JI × JI)
  | 0, _, _, _, _, _, _, _, _ => none
  | n + 1, dp, e, lab, I, L, i1, i2, i3 =>
    if lab = 0 then (if i1 = 0 then (kf_93 n dp e 1 I L i1 i2 i3) else (if (0 : Int) ≤ 0 ∧ (0 : Int) < 3 then ((e.2.2 25 0).bind (fun b_9 => (if (b_9 < e.1) ∧ ((e.2.1 b_9).1 = 2) then (if 64 < (I b_9 4) then (some ((0 : Int), I, L)) else (kf_93 n dp e 1 I L i1 i2 i3)) else none))) else none))
    else if lab = 1 then (if i2 = 0 then (kf_93 n dp e 2 I L i1 i2 i3) else (if (0 : Int) ≤ 1 ∧ (1 : Int) < 3 then ((e.2.2 25 1).bind (fun b_27 => (if (b_27 < e.1) ∧ ((e.2.1 b_27).1 = 2) then (if 64 < (I b_27 4) then (some ((0 : Int), I, L)) else (kf_93 n dp e 2 I L i1 i2 i3)) else none))) else none))
    else if lab = 2 then (if i3 = 0 then (kf_93 n dp e 3 I L i1 i2 i3) else (if (0 : Int) ≤ 2 ∧ (2 : Int) < 3 then ((e.2.2 25 2).bind (fun b_45 => (if (b_45 < e.1) ∧ ((e.2.1 b_45).1 = 2) then (if 64 < (I b_45 4) then (some ((0 : Int), I, L)) else (kf_93 n dp e 3 I L i1 i2 i3)) else none))) else none))
    else if lab = 3 then (some ((1 : Int), I, L))
    else none
set_option maxRecDepth 100000 in
theorem ke_93_0 (n : Nat) (dp : Nat) (e : EN) (I : JI) (L : JI) (i1 : Int) (i2 : Int) (i3 : Int) : kf_93 (n + 1) dp e 0 I L i1 i2 i3 = (if i1 = 0 then (kf_93 n dp e 1 I L i1 i2 i3) else (if (0 : Int) ≤ 0 ∧ (0 : Int) < 3 then ((e.2.2 25 0).bind (fun b_9 => (if (b_9 < e.1) ∧ ((e.2.1 b_9).1 = 2) then (if 64 < (I b_9 4) then (some ((0 : Int), I, L)) else (kf_93 n dp e 1 I L i1 i2 i3)) else none))) else none)) := by rw [kf_93.eq_2, if_pos (show (0 : Nat) = 0 from rfl)]
set_option maxRecDepth 100000 in
theorem ke_93_1 (n : Nat) (dp : Nat) (e : EN) (I : JI) (L : JI) (i1 : Int) (i2 : Int) (i3 : Int) : kf_93 (n + 1) dp e 1 I L i1 i2 i3 = (if i2 = 0 then (kf_93 n dp e 2 I L i1 i2 i3) else (if (0 : Int) ≤ 1 ∧ (1 : Int) < 3 then ((e.2.2 25 1).bind (fun b_27 => (if (b_27 < e.1) ∧ ((e.2.1 b_27).1 = 2) then (if 64 < (I b_27 4) then (some ((0 : Int), I, L)) else (kf_93 n dp e 2 I L i1 i2 i3)) else none))) else none)) := by rw [kf_93.eq_2, if_neg (show ¬ ((1 : Nat) = 0) by decide), if_pos (show (1 : Nat) = 1 from rfl)]
set_option maxRecDepth 100000 in
theorem ke_93_2 (n : Nat) (dp : Nat) (e : EN) (I : JI) (L : JI) (i1 : Int) (i2 : Int) (i3 : Int) : kf_93 (n + 1) dp e 2 I L i1 i2 i3 = (if i3 = 0 then (kf_93 n dp e 3 I L i1 i2 i3) else (if (0 : Int) ≤ 2 ∧ (2 : Int) < 3 then ((e.2.2 25 2).bind (fun b_45 => (if (b_45 < e.1) ∧ ((e.2.1 b_45).1 = 2) then (if 64 < (I b_45 4) then (some ((0 : Int), I, L)) else (kf_93 n dp e 3 I L i1 i2 i3)) else none))) else none)) := by rw [kf_93.eq_2, if_neg (show ¬ ((2 : Nat) = 0) by decide), if_neg (show ¬ ((2 : Nat) = 1) by decide), if_pos (show (2 : Nat) = 2 from rfl)]
set_option maxRecDepth 100000 in
theorem ke_93_3 (n : Nat) (dp : Nat) (e : EN) (I : JI) (L : JI) (i1 : Int) (i2 : Int) (i3 : Int) : kf_93 (n + 1) dp e 3 I L i1 i2 i3 = (some ((1 : Int), I, L)) := by rw [kf_93.eq_2, if_neg (show ¬ ((3 : Nat) = 0) by decide), if_neg (show ¬ ((3 : Nat) = 1) by decide), if_neg (show ¬ ((3 : Nat) = 2) by decide), if_pos (show (3 : Nat) = 3 from rfl)]
set_option maxHeartbeats 8000000 in
set_option maxRecDepth 100000 in
theorem ks_93 : ∀ (n : Nat) (dp : Nat) (e : EN) (lab : Nat) (I : Nat → Nat → Int32) (I' : JI) (L : Nat → Nat → Int64) (L' : JI) (i1 : Int32) (i1' : Int) (i2 : Int32) (i2' : Int) (i3 : Int32) (i3' : Int), Rli I I' → Rll L L' → Ui i1 i1' → Ui i2 i2' → Ui i3 i3' → Sim R3 (g_93 n dp e lab I L i1 i2 i3) (kf_93 n dp e lab I' L' i1' i2' i3') := by
  intro n
  induction n with
  | zero => intros; rw [kf_93.eq_1]; exact Sn
  | succ n ih =>
    intro dp e lab I I' L L' i1 i1' i2 i2' i3 i3' u_I u_L u_i1 u_i2 u_i3
    rw [g_93.eq_2, kf_93.eq_2]
    refine Sc Iff.rfl (fun _ => ?_) (fun _ => ?_)
    · refine Sc (eq_up u_i1 (rfl : Ui 0 0)) (fun c1 => ?_) (fun c1 => ?_)
      · exact (ih dp e 1 _ _ _ _ _ _ _ _ _ _ u_I u_L u_i1 u_i2 u_i3)
      · refine Sc (ix_up (rfl : Ui (0) (0))) (fun c2 => ?_) (fun _ => Sn)
        refine SbE rfl (fun b_9 => ?_)
        refine Sc Iff.rfl (fun c3 => ?_) (fun _ => Sn)
        refine Sc (lt_up (rfl : Ui (64) (64)) (u_I b_9 4)) (fun c4 => ?_) (fun c4 => ?_)
        · exact Sr ⟨(rfl : Ui (0) (0)), u_I, u_L⟩
        · exact (ih dp e 1 _ _ _ _ _ _ _ _ _ _ u_I u_L u_i1 u_i2 u_i3)
    refine Sc Iff.rfl (fun _ => ?_) (fun _ => ?_)
    · refine Sc (eq_up u_i2 (rfl : Ui 0 0)) (fun c1 => ?_) (fun c1 => ?_)
      · exact (ih dp e 2 _ _ _ _ _ _ _ _ _ _ u_I u_L u_i1 u_i2 u_i3)
      · refine Sc (ix_up (rfl : Ui (1) (1))) (fun c2 => ?_) (fun _ => Sn)
        refine SbE rfl (fun b_27 => ?_)
        refine Sc Iff.rfl (fun c3 => ?_) (fun _ => Sn)
        refine Sc (lt_up (rfl : Ui (64) (64)) (u_I b_27 4)) (fun c4 => ?_) (fun c4 => ?_)
        · exact Sr ⟨(rfl : Ui (0) (0)), u_I, u_L⟩
        · exact (ih dp e 2 _ _ _ _ _ _ _ _ _ _ u_I u_L u_i1 u_i2 u_i3)
    refine Sc Iff.rfl (fun _ => ?_) (fun _ => ?_)
    · refine Sc (eq_up u_i3 (rfl : Ui 0 0)) (fun c1 => ?_) (fun c1 => ?_)
      · exact (ih dp e 3 _ _ _ _ _ _ _ _ _ _ u_I u_L u_i1 u_i2 u_i3)
      · refine Sc (ix_up (rfl : Ui (2) (2))) (fun c2 => ?_) (fun _ => Sn)
        refine SbE rfl (fun b_45 => ?_)
        refine Sc Iff.rfl (fun c3 => ?_) (fun _ => Sn)
        refine Sc (lt_up (rfl : Ui (64) (64)) (u_I b_45 4)) (fun c4 => ?_) (fun c4 => ?_)
        · exact Sr ⟨(rfl : Ui (0) (0)), u_I, u_L⟩
        · exact (ih dp e 3 _ _ _ _ _ _ _ _ _ _ u_I u_L u_i1 u_i2 u_i3)
    refine Sc Iff.rfl (fun _ => ?_) (fun _ => ?_)
    · exact Sr ⟨(rfl : Ui (1) (1)), u_I, u_L⟩
    exact Sn
set_option maxHeartbeats 4000000 in
set_option maxRecDepth 100000 in
def kf_94 : Nat → Nat → EN → Nat → JI → JI → Int → Int → Int → Option (Int × JI × JI)
  | 0, _, _, _, _, _, _, _, _ => none
  | n + 1, dp, e, lab, I, L, i0, i1, i2 =>
    if lab = 0 then (if (-2147483648 ≤ i0 * 9 ∧ i0 * 9 ≤ 2147483647) ∧ (-2147483648 ≤ (i0 * 9) + i1 ∧ (i0 * 9) + i1 ≤ 2147483647) ∧ (-2147483648 ≤ ((i0 * 9) + i1) * 9 ∧ ((i0 * 9) + i1) * 9 ≤ 2147483647) ∧ (-2147483648 ≤ (((i0 * 9) + i1) * 9) + i2 ∧ (((i0 * 9) + i1) * 9) + i2 ≤ 2147483647) then (some ((((((i0 * 9) + i1) * 9) + i2) : Int), I, L)) else none)
    else none
set_option maxRecDepth 100000 in
theorem ke_94_0 (n : Nat) (dp : Nat) (e : EN) (I : JI) (L : JI) (i0 : Int) (i1 : Int) (i2 : Int) : kf_94 (n + 1) dp e 0 I L i0 i1 i2 = (if (-2147483648 ≤ i0 * 9 ∧ i0 * 9 ≤ 2147483647) ∧ (-2147483648 ≤ (i0 * 9) + i1 ∧ (i0 * 9) + i1 ≤ 2147483647) ∧ (-2147483648 ≤ ((i0 * 9) + i1) * 9 ∧ ((i0 * 9) + i1) * 9 ≤ 2147483647) ∧ (-2147483648 ≤ (((i0 * 9) + i1) * 9) + i2 ∧ (((i0 * 9) + i1) * 9) + i2 ≤ 2147483647) then (some ((((((i0 * 9) + i1) * 9) + i2) : Int), I, L)) else none) := by rw [kf_94.eq_2, if_pos (show (0 : Nat) = 0 from rfl)]
set_option maxHeartbeats 8000000 in
set_option maxRecDepth 100000 in
theorem ks_94 : ∀ (n : Nat) (dp : Nat) (e : EN) (lab : Nat) (I : Nat → Nat → Int32) (I' : JI) (L : Nat → Nat → Int64) (L' : JI) (i0 : Int32) (i0' : Int) (i1 : Int32) (i1' : Int) (i2 : Int32) (i2' : Int), Rli I I' → Rll L L' → Ui i0 i0' → Ui i1 i1' → Ui i2 i2' → Sim R3 (g_94 n dp e lab I L i0 i1 i2) (kf_94 n dp e lab I' L' i0' i1' i2') := by
  intro n
  induction n with
  | zero => intros; rw [kf_94.eq_1]; exact Sn
  | succ n ih =>
    intro dp e lab I I' L L' i0 i0' i1 i1' i2 i2' u_I u_L u_i0 u_i1 u_i2
    rw [g_94.eq_2, kf_94.eq_2]
    refine Sc Iff.rfl (fun _ => ?_) (fun _ => ?_)
    · refine Sg (fun g1 => ?_)
      exact Sr ⟨(ui_add (ui_mul (ui_add (ui_mul u_i0 (rfl : Ui (9) (9)) g1.1) u_i1 g1.2.1) (rfl : Ui (9) (9)) g1.2.2.1) u_i2 g1.2.2.2), u_I, u_L⟩
    exact Sn
