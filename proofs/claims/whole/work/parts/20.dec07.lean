/-! 185 CutFloor$Hall.copyFrom(LCutFloor$Hall;)V -/
set_option maxHeartbeats 4000000 in
set_option maxRecDepth 100000 in
def g_185 : Nat → Nat → EN → Nat → (Nat → Nat → Int32) → (Nat → Nat → Int64) → Nat → Nat →  Option ((Nat → Nat → Int32) × (Nat → Nat → Int64))
  | 0, _, _, _, _, _, _, _ => none
  | n + 1, dp, e, lab, I, L, a0, a1 =>
    if lab = 0 then (if a1 < e.1 ∧ (e.2.1 a1).1 = 3 then ((e.2.2 a1 0).bind (fun b_1 => (if a0 < e.1 ∧ (e.2.1 a0).1 = 3 then ((e.2.2 a0 0).bind (fun b_6 => (if a0 < e.1 ∧ (e.2.1 a0).1 = 3 then ((e.2.2 a0 0).bind (fun b_11 => (if b_11 < e.1 ∧ (e.2.1 b_11).1 = 13 then (if b_1 < e.1 ∧ (e.2.1 b_1).1 = 13 then (if b_6 < e.1 ∧ (e.2.1 b_6).1 = 13 then (if ((¬ (0 : Int32) < 0) ∧ (¬ (0 : Int32) < 0) ∧ (¬ (nI (e.2.1 b_11).2) < 0) ∧ (Int32.toNatClampNeg (0 : Int32)) + (Int32.toNatClampNeg (nI (e.2.1 b_11).2)) ≤ (e.2.1 b_1).2 ∧ (Int32.toNatClampNeg (0 : Int32)) + (Int32.toNatClampNeg (nI (e.2.1 b_11).2)) ≤ (e.2.1 b_6).2) ∧ 1 ≤ dp then (stI (va_up I b_6 (va_cpy (I b_1) (I b_6) (Int32.toNatClampNeg (0 : Int32)) (Int32.toNatClampNeg (0 : Int32)) (Int32.toNatClampNeg (nI (e.2.1 b_11).2)))) (fun I_15 => (if a1 < e.1 ∧ (e.2.1 a1).1 = 3 then ((e.2.2 a1 1).bind (fun b_19 => (if a0 < e.1 ∧ (e.2.1 a0).1 = 3 then ((e.2.2 a0 1).bind (fun b_24 => (if a0 < e.1 ∧ (e.2.1 a0).1 = 3 then ((e.2.2 a0 1).bind (fun b_29 => (if b_29 < e.1 ∧ (e.2.1 b_29).1 = 13 then (if b_19 < e.1 ∧ (e.2.1 b_19).1 = 13 then (if b_24 < e.1 ∧ (e.2.1 b_24).1 = 13 then (if ((¬ (0 : Int32) < 0) ∧ (¬ (0 : Int32) < 0) ∧ (¬ (nI (e.2.1 b_29).2) < 0) ∧ (Int32.toNatClampNeg (0 : Int32)) + (Int32.toNatClampNeg (nI (e.2.1 b_29).2)) ≤ (e.2.1 b_19).2 ∧ (Int32.toNatClampNeg (0 : Int32)) + (Int32.toNatClampNeg (nI (e.2.1 b_29).2)) ≤ (e.2.1 b_24).2) ∧ 1 ≤ dp then (stI (va_up I_15 b_24 (va_cpy (I_15 b_19) (I_15 b_24) (Int32.toNatClampNeg (0 : Int32)) (Int32.toNatClampNeg (0 : Int32)) (Int32.toNatClampNeg (nI (e.2.1 b_29).2)))) (fun I_33 => (if a1 < e.1 ∧ (e.2.1 a1).1 = 3 then ((e.2.2 a1 2).bind (fun b_37 => (if a0 < e.1 ∧ (e.2.1 a0).1 = 3 then ((e.2.2 a0 2).bind (fun b_42 => (if a0 < e.1 ∧ (e.2.1 a0).1 = 3 then ((e.2.2 a0 2).bind (fun b_47 => (if b_47 < e.1 ∧ (e.2.1 b_47).1 = 13 then (if b_37 < e.1 ∧ (e.2.1 b_37).1 = 13 then (if b_42 < e.1 ∧ (e.2.1 b_42).1 = 13 then (if ((¬ (0 : Int32) < 0) ∧ (¬ (0 : Int32) < 0) ∧ (¬ (nI (e.2.1 b_47).2) < 0) ∧ (Int32.toNatClampNeg (0 : Int32)) + (Int32.toNatClampNeg (nI (e.2.1 b_47).2)) ≤ (e.2.1 b_37).2 ∧ (Int32.toNatClampNeg (0 : Int32)) + (Int32.toNatClampNeg (nI (e.2.1 b_47).2)) ≤ (e.2.1 b_42).2) ∧ 1 ≤ dp then (stI (va_up I_33 b_42 (va_cpy (I_33 b_37) (I_33 b_42) (Int32.toNatClampNeg (0 : Int32)) (Int32.toNatClampNeg (0 : Int32)) (Int32.toNatClampNeg (nI (e.2.1 b_47).2)))) (fun I_51 => (if a1 < e.1 ∧ (e.2.1 a1).1 = 3 then ((e.2.2 a1 3).bind (fun b_55 => (if a0 < e.1 ∧ (e.2.1 a0).1 = 3 then ((e.2.2 a0 3).bind (fun b_60 => (if a0 < e.1 ∧ (e.2.1 a0).1 = 3 then ((e.2.2 a0 3).bind (fun b_65 => (if b_65 < e.1 ∧ (e.2.1 b_65).1 = 13 then (if b_55 < e.1 ∧ (e.2.1 b_55).1 = 13 then (if b_60 < e.1 ∧ (e.2.1 b_60).1 = 13 then (if ((¬ (0 : Int32) < 0) ∧ (¬ (0 : Int32) < 0) ∧ (¬ (nI (e.2.1 b_65).2) < 0) ∧ (Int32.toNatClampNeg (0 : Int32)) + (Int32.toNatClampNeg (nI (e.2.1 b_65).2)) ≤ (e.2.1 b_55).2 ∧ (Int32.toNatClampNeg (0 : Int32)) + (Int32.toNatClampNeg (nI (e.2.1 b_65).2)) ≤ (e.2.1 b_60).2) ∧ 1 ≤ dp then (stI (va_up I_51 b_60 (va_cpy (I_51 b_55) (I_51 b_60) (Int32.toNatClampNeg (0 : Int32)) (Int32.toNatClampNeg (0 : Int32)) (Int32.toNatClampNeg (nI (e.2.1 b_65).2)))) (fun I_69 => (if a1 < e.1 ∧ (e.2.1 a1).1 = 3 then ((e.2.2 a1 4).bind (fun b_73 => (if a0 < e.1 ∧ (e.2.1 a0).1 = 3 then ((e.2.2 a0 4).bind (fun b_78 => (if a0 < e.1 ∧ (e.2.1 a0).1 = 3 then ((e.2.2 a0 4).bind (fun b_83 => (if b_83 < e.1 ∧ (e.2.1 b_83).1 = 13 then (if b_73 < e.1 ∧ (e.2.1 b_73).1 = 13 then (if b_78 < e.1 ∧ (e.2.1 b_78).1 = 13 then (if ((¬ (0 : Int32) < 0) ∧ (¬ (0 : Int32) < 0) ∧ (¬ (nI (e.2.1 b_83).2) < 0) ∧ (Int32.toNatClampNeg (0 : Int32)) + (Int32.toNatClampNeg (nI (e.2.1 b_83).2)) ≤ (e.2.1 b_73).2 ∧ (Int32.toNatClampNeg (0 : Int32)) + (Int32.toNatClampNeg (nI (e.2.1 b_83).2)) ≤ (e.2.1 b_78).2) ∧ 1 ≤ dp then (stI (va_up I_69 b_78 (va_cpy (I_69 b_73) (I_69 b_78) (Int32.toNatClampNeg (0 : Int32)) (Int32.toNatClampNeg (0 : Int32)) (Int32.toNatClampNeg (nI (e.2.1 b_83).2)))) (fun I_87 => (if a1 < e.1 ∧ (e.2.1 a1).1 = 3 then ((e.2.2 a1 5).bind (fun b_91 => (if a0 < e.1 ∧ (e.2.1 a0).1 = 3 then ((e.2.2 a0 5).bind (fun b_96 => (if a0 < e.1 ∧ (e.2.1 a0).1 = 3 then ((e.2.2 a0 5).bind (fun b_101 => (if b_101 < e.1 ∧ (e.2.1 b_101).1 = 13 then (if b_91 < e.1 ∧ (e.2.1 b_91).1 = 13 then (if b_96 < e.1 ∧ (e.2.1 b_96).1 = 13 then (if ((¬ (0 : Int32) < 0) ∧ (¬ (0 : Int32) < 0) ∧ (¬ (nI (e.2.1 b_101).2) < 0) ∧ (Int32.toNatClampNeg (0 : Int32)) + (Int32.toNatClampNeg (nI (e.2.1 b_101).2)) ≤ (e.2.1 b_91).2 ∧ (Int32.toNatClampNeg (0 : Int32)) + (Int32.toNatClampNeg (nI (e.2.1 b_101).2)) ≤ (e.2.1 b_96).2) ∧ 1 ≤ dp then (stI (va_up I_87 b_96 (va_cpy (I_87 b_91) (I_87 b_96) (Int32.toNatClampNeg (0 : Int32)) (Int32.toNatClampNeg (0 : Int32)) (Int32.toNatClampNeg (nI (e.2.1 b_101).2)))) (fun I_105 => (if a1 < e.1 ∧ (e.2.1 a1).1 = 3 then ((e.2.2 a1 6).bind (fun b_109 => (if a0 < e.1 ∧ (e.2.1 a0).1 = 3 then ((e.2.2 a0 6).bind (fun b_114 => (if a0 < e.1 ∧ (e.2.1 a0).1 = 3 then ((e.2.2 a0 6).bind (fun b_119 => (if b_119 < e.1 ∧ (e.2.1 b_119).1 = 13 then (if b_109 < e.1 ∧ (e.2.1 b_109).1 = 13 then (if b_114 < e.1 ∧ (e.2.1 b_114).1 = 13 then (if ((¬ (0 : Int32) < 0) ∧ (¬ (0 : Int32) < 0) ∧ (¬ (nI (e.2.1 b_119).2) < 0) ∧ (Int32.toNatClampNeg (0 : Int32)) + (Int32.toNatClampNeg (nI (e.2.1 b_119).2)) ≤ (e.2.1 b_109).2 ∧ (Int32.toNatClampNeg (0 : Int32)) + (Int32.toNatClampNeg (nI (e.2.1 b_119).2)) ≤ (e.2.1 b_114).2) ∧ 1 ≤ dp then (stI (va_up I_105 b_114 (va_cpy (I_105 b_109) (I_105 b_114) (Int32.toNatClampNeg (0 : Int32)) (Int32.toNatClampNeg (0 : Int32)) (Int32.toNatClampNeg (nI (e.2.1 b_119).2)))) (fun I_123 => (if a0 < e.1 ∧ (e.2.1 a0).1 = 3 then ((e.2.2 a0 7).bind (fun b_127 => (if a1 < e.1 ∧ (e.2.1 a1).1 = 3 then ((e.2.2 a1 7).bind (fun b_131 => (if b_127 < e.1 ∧ (e.2.1 b_127).1 = 10 then (if 1 ≤ dp then (g_186 n (dp - 1) e 0 I_123 L b_127 b_131).bind (fun ⟨I0_134, L0_134⟩ => (if a1 < e.1 ∧ (e.2.1 a1).1 = 3 then (if a0 < e.1 ∧ (e.2.1 a0).1 = 3 then (stI (u2 I0_134 a0 8 (I0_134 a1 8)) (fun I_142 => (if a1 < e.1 ∧ (e.2.1 a1).1 = 3 then (if a0 < e.1 ∧ (e.2.1 a0).1 = 3 then (stI (u2 I_142 a0 9 (I_142 a1 9)) (fun I_150 => (if a1 < e.1 ∧ (e.2.1 a1).1 = 3 then (if a0 < e.1 ∧ (e.2.1 a0).1 = 3 then (stI (u2 I_150 a0 10 (I_150 a1 10)) (fun I_158 => (if a1 < e.1 ∧ (e.2.1 a1).1 = 3 then (if a0 < e.1 ∧ (e.2.1 a0).1 = 3 then (stI (u2 I_158 a0 11 (I_158 a1 11)) (fun I_166 => (if a1 < e.1 ∧ (e.2.1 a1).1 = 3 then (if a0 < e.1 ∧ (e.2.1 a0).1 = 3 then (stI (u2 I_166 a0 12 (I_166 a1 12)) (fun I_174 => (some (I_174, L0_134)))) else none) else none))) else none) else none))) else none) else none))) else none) else none))) else none) else none)) else none) else none))) else none))) else none))) else none) else none) else none) else none))) else none))) else none))) else none))) else none) else none) else none) else none))) else none))) else none))) else none))) else none) else none) else none) else none))) else none))) else none))) else none))) else none) else none) else none) else none))) else none))) else none))) else none))) else none) else none) else none) else none))) else none))) else none))) else none))) else none) else none) else none) else none))) else none))) else none))) else none))) else none) else none) else none) else none))) else none))) else none))) else none)
    else none
set_option maxRecDepth 100000 in
theorem e_185_0 (n dp : Nat) (e : EN) (I : (Nat → Nat → Int32)) (L : (Nat → Nat → Int64)) (a0 : Nat) (a1 : Nat) : g_185 (n + 1) dp e 0 I L a0 a1 = (if a1 < e.1 ∧ (e.2.1 a1).1 = 3 then ((e.2.2 a1 0).bind (fun b_1 => (if a0 < e.1 ∧ (e.2.1 a0).1 = 3 then ((e.2.2 a0 0).bind (fun b_6 => (if a0 < e.1 ∧ (e.2.1 a0).1 = 3 then ((e.2.2 a0 0).bind (fun b_11 => (if b_11 < e.1 ∧ (e.2.1 b_11).1 = 13 then (if b_1 < e.1 ∧ (e.2.1 b_1).1 = 13 then (if b_6 < e.1 ∧ (e.2.1 b_6).1 = 13 then (if ((¬ (0 : Int32) < 0) ∧ (¬ (0 : Int32) < 0) ∧ (¬ (nI (e.2.1 b_11).2) < 0) ∧ (Int32.toNatClampNeg (0 : Int32)) + (Int32.toNatClampNeg (nI (e.2.1 b_11).2)) ≤ (e.2.1 b_1).2 ∧ (Int32.toNatClampNeg (0 : Int32)) + (Int32.toNatClampNeg (nI (e.2.1 b_11).2)) ≤ (e.2.1 b_6).2) ∧ 1 ≤ dp then (stI (va_up I b_6 (va_cpy (I b_1) (I b_6) (Int32.toNatClampNeg (0 : Int32)) (Int32.toNatClampNeg (0 : Int32)) (Int32.toNatClampNeg (nI (e.2.1 b_11).2)))) (fun I_15 => (if a1 < e.1 ∧ (e.2.1 a1).1 = 3 then ((e.2.2 a1 1).bind (fun b_19 => (if a0 < e.1 ∧ (e.2.1 a0).1 = 3 then ((e.2.2 a0 1).bind (fun b_24 => (if a0 < e.1 ∧ (e.2.1 a0).1 = 3 then ((e.2.2 a0 1).bind (fun b_29 => (if b_29 < e.1 ∧ (e.2.1 b_29).1 = 13 then (if b_19 < e.1 ∧ (e.2.1 b_19).1 = 13 then (if b_24 < e.1 ∧ (e.2.1 b_24).1 = 13 then (if ((¬ (0 : Int32) < 0) ∧ (¬ (0 : Int32) < 0) ∧ (¬ (nI (e.2.1 b_29).2) < 0) ∧ (Int32.toNatClampNeg (0 : Int32)) + (Int32.toNatClampNeg (nI (e.2.1 b_29).2)) ≤ (e.2.1 b_19).2 ∧ (Int32.toNatClampNeg (0 : Int32)) + (Int32.toNatClampNeg (nI (e.2.1 b_29).2)) ≤ (e.2.1 b_24).2) ∧ 1 ≤ dp then (stI (va_up I_15 b_24 (va_cpy (I_15 b_19) (I_15 b_24) (Int32.toNatClampNeg (0 : Int32)) (Int32.toNatClampNeg (0 : Int32)) (Int32.toNatClampNeg (nI (e.2.1 b_29).2)))) (fun I_33 => (if a1 < e.1 ∧ (e.2.1 a1).1 = 3 then ((e.2.2 a1 2).bind (fun b_37 => (if a0 < e.1 ∧ (e.2.1 a0).1 = 3 then ((e.2.2 a0 2).bind (fun b_42 => (if a0 < e.1 ∧ (e.2.1 a0).1 = 3 then ((e.2.2 a0 2).bind (fun b_47 => (if b_47 < e.1 ∧ (e.2.1 b_47).1 = 13 then (if b_37 < e.1 ∧ (e.2.1 b_37).1 = 13 then (if b_42 < e.1 ∧ (e.2.1 b_42).1 = 13 then (if ((¬ (0 : Int32) < 0) ∧ (¬ (0 : Int32) < 0) ∧ (¬ (nI (e.2.1 b_47).2) < 0) ∧ (Int32.toNatClampNeg (0 : Int32)) + (Int32.toNatClampNeg (nI (e.2.1 b_47).2)) ≤ (e.2.1 b_37).2 ∧ (Int32.toNatClampNeg (0 : Int32)) + (Int32.toNatClampNeg (nI (e.2.1 b_47).2)) ≤ (e.2.1 b_42).2) ∧ 1 ≤ dp then (stI (va_up I_33 b_42 (va_cpy (I_33 b_37) (I_33 b_42) (Int32.toNatClampNeg (0 : Int32)) (Int32.toNatClampNeg (0 : Int32)) (Int32.toNatClampNeg (nI (e.2.1 b_47).2)))) (fun I_51 => (if a1 < e.1 ∧ (e.2.1 a1).1 = 3 then ((e.2.2 a1 3).bind (fun b_55 => (if a0 < e.1 ∧ (e.2.1 a0).1 = 3 then ((e.2.2 a0 3).bind (fun b_60 => (if a0 < e.1 ∧ (e.2.1 a0).1 = 3 then ((e.2.2 a0 3).bind (fun b_65 => (if b_65 < e.1 ∧ (e.2.1 b_65).1 = 13 then (if b_55 < e.1 ∧ (e.2.1 b_55).1 = 13 then (if b_60 < e.1 ∧ (e.2.1 b_60).1 = 13 then (if ((¬ (0 : Int32) < 0) ∧ (¬ (0 : Int32) < 0) ∧ (¬ (nI (e.2.1 b_65).2) < 0) ∧ (Int32.toNatClampNeg (0 : Int32)) + (Int32.toNatClampNeg (nI (e.2.1 b_65).2)) ≤ (e.2.1 b_55).2 ∧ (Int32.toNatClampNeg (0 : Int32)) + (Int32.toNatClampNeg (nI (e.2.1 b_65).2)) ≤ (e.2.1 b_60).2) ∧ 1 ≤ dp then (stI (va_up I_51 b_60 (va_cpy (I_51 b_55) (I_51 b_60) (Int32.toNatClampNeg (0 : Int32)) (Int32.toNatClampNeg (0 : Int32)) (Int32.toNatClampNeg (nI (e.2.1 b_65).2)))) (fun I_69 => (if a1 < e.1 ∧ (e.2.1 a1).1 = 3 then ((e.2.2 a1 4).bind (fun b_73 => (if a0 < e.1 ∧ (e.2.1 a0).1 = 3 then ((e.2.2 a0 4).bind (fun b_78 => (if a0 < e.1 ∧ (e.2.1 a0).1 = 3 then ((e.2.2 a0 4).bind (fun b_83 => (if b_83 < e.1 ∧ (e.2.1 b_83).1 = 13 then (if b_73 < e.1 ∧ (e.2.1 b_73).1 = 13 then (if b_78 < e.1 ∧ (e.2.1 b_78).1 = 13 then (if ((¬ (0 : Int32) < 0) ∧ (¬ (0 : Int32) < 0) ∧ (¬ (nI (e.2.1 b_83).2) < 0) ∧ (Int32.toNatClampNeg (0 : Int32)) + (Int32.toNatClampNeg (nI (e.2.1 b_83).2)) ≤ (e.2.1 b_73).2 ∧ (Int32.toNatClampNeg (0 : Int32)) + (Int32.toNatClampNeg (nI (e.2.1 b_83).2)) ≤ (e.2.1 b_78).2) ∧ 1 ≤ dp then (stI (va_up I_69 b_78 (va_cpy (I_69 b_73) (I_69 b_78) (Int32.toNatClampNeg (0 : Int32)) (Int32.toNatClampNeg (0 : Int32)) (Int32.toNatClampNeg (nI (e.2.1 b_83).2)))) (fun I_87 => (if a1 < e.1 ∧ (e.2.1 a1).1 = 3 then ((e.2.2 a1 5).bind (fun b_91 => (if a0 < e.1 ∧ (e.2.1 a0).1 = 3 then ((e.2.2 a0 5).bind (fun b_96 => (if a0 < e.1 ∧ (e.2.1 a0).1 = 3 then ((e.2.2 a0 5).bind (fun b_101 => (if b_101 < e.1 ∧ (e.2.1 b_101).1 = 13 then (if b_91 < e.1 ∧ (e.2.1 b_91).1 = 13 then (if b_96 < e.1 ∧ (e.2.1 b_96).1 = 13 then (if ((¬ (0 : Int32) < 0) ∧ (¬ (0 : Int32) < 0) ∧ (¬ (nI (e.2.1 b_101).2) < 0) ∧ (Int32.toNatClampNeg (0 : Int32)) + (Int32.toNatClampNeg (nI (e.2.1 b_101).2)) ≤ (e.2.1 b_91).2 ∧ (Int32.toNatClampNeg (0 : Int32)) + (Int32.toNatClampNeg (nI (e.2.1 b_101).2)) ≤ (e.2.1 b_96).2) ∧ 1 ≤ dp then (stI (va_up I_87 b_96 (va_cpy (I_87 b_91) (I_87 b_96) (Int32.toNatClampNeg (0 : Int32)) (Int32.toNatClampNeg (0 : Int32)) (Int32.toNatClampNeg (nI (e.2.1 b_101).2)))) (fun I_105 => (if a1 < e.1 ∧ (e.2.1 a1).1 = 3 then ((e.2.2 a1 6).bind (fun b_109 => (if a0 < e.1 ∧ (e.2.1 a0).1 = 3 then ((e.2.2 a0 6).bind (fun b_114 => (if a0 < e.1 ∧ (e.2.1 a0).1 = 3 then ((e.2.2 a0 6).bind (fun b_119 => (if b_119 < e.1 ∧ (e.2.1 b_119).1 = 13 then (if b_109 < e.1 ∧ (e.2.1 b_109).1 = 13 then (if b_114 < e.1 ∧ (e.2.1 b_114).1 = 13 then (if ((¬ (0 : Int32) < 0) ∧ (¬ (0 : Int32) < 0) ∧ (¬ (nI (e.2.1 b_119).2) < 0) ∧ (Int32.toNatClampNeg (0 : Int32)) + (Int32.toNatClampNeg (nI (e.2.1 b_119).2)) ≤ (e.2.1 b_109).2 ∧ (Int32.toNatClampNeg (0 : Int32)) + (Int32.toNatClampNeg (nI (e.2.1 b_119).2)) ≤ (e.2.1 b_114).2) ∧ 1 ≤ dp then (stI (va_up I_105 b_114 (va_cpy (I_105 b_109) (I_105 b_114) (Int32.toNatClampNeg (0 : Int32)) (Int32.toNatClampNeg (0 : Int32)) (Int32.toNatClampNeg (nI (e.2.1 b_119).2)))) (fun I_123 => (if a0 < e.1 ∧ (e.2.1 a0).1 = 3 then ((e.2.2 a0 7).bind (fun b_127 => (if a1 < e.1 ∧ (e.2.1 a1).1 = 3 then ((e.2.2 a1 7).bind (fun b_131 => (if b_127 < e.1 ∧ (e.2.1 b_127).1 = 10 then (if 1 ≤ dp then (g_186 n (dp - 1) e 0 I_123 L b_127 b_131).bind (fun ⟨I0_134, L0_134⟩ => (if a1 < e.1 ∧ (e.2.1 a1).1 = 3 then (if a0 < e.1 ∧ (e.2.1 a0).1 = 3 then (stI (u2 I0_134 a0 8 (I0_134 a1 8)) (fun I_142 => (if a1 < e.1 ∧ (e.2.1 a1).1 = 3 then (if a0 < e.1 ∧ (e.2.1 a0).1 = 3 then (stI (u2 I_142 a0 9 (I_142 a1 9)) (fun I_150 => (if a1 < e.1 ∧ (e.2.1 a1).1 = 3 then (if a0 < e.1 ∧ (e.2.1 a0).1 = 3 then (stI (u2 I_150 a0 10 (I_150 a1 10)) (fun I_158 => (if a1 < e.1 ∧ (e.2.1 a1).1 = 3 then (if a0 < e.1 ∧ (e.2.1 a0).1 = 3 then (stI (u2 I_158 a0 11 (I_158 a1 11)) (fun I_166 => (if a1 < e.1 ∧ (e.2.1 a1).1 = 3 then (if a0 < e.1 ∧ (e.2.1 a0).1 = 3 then (stI (u2 I_166 a0 12 (I_166 a1 12)) (fun I_174 => (some (I_174, L0_134)))) else none) else none))) else none) else none))) else none) else none))) else none) else none))) else none) else none)) else none) else none))) else none))) else none))) else none) else none) else none) else none))) else none))) else none))) else none))) else none) else none) else none) else none))) else none))) else none))) else none))) else none) else none) else none) else none))) else none))) else none))) else none))) else none) else none) else none) else none))) else none))) else none))) else none))) else none) else none) else none) else none))) else none))) else none))) else none))) else none) else none) else none) else none))) else none))) else none))) else none))) else none) else none) else none) else none))) else none))) else none))) else none) := by rw [g_185.eq_2, if_pos (show (0 : Nat) = 0 from rfl)]
set_option maxHeartbeats 8000000 in
set_option maxRecDepth 100000 in
theorem w_185 (X : GX) {z : Nat} {kd : Nat → Nat × Nat} {Rf : Nat → Nat → Option Nat} (hS : Sh z kd Rf) : ∀ (n dp d : Nat), dp ≤ d → ∀ (I : (Nat → Nat → Int32)) (L : (Nat → Nat → Int64)) (a0 : Nat) (a1 : Nat) (I1 : (Nat → Nat → Int32)) (L1 : (Nat → Nat → Int64)), (g_185 n dp (z, kd, Rf) 0 I L a0 a1 = some (I1, L1) → K X d 185 0 0 (AV (fun τ => τ = (z, kd, I1, L1, Rf))) 0 [some (.ref a0), some (.ref a1)] [] (z, kd, I, L, Rf) 0 0) := by
  intro n
  induction n with
  | zero => intro dp d hdp I L a0 a1 I1 L1; exact fun h => by cases h
  | succ n ih =>
    intro dp d hdp I L a0 a1 I1 L1
    · intro h
      rw [e_185_0] at h
      refine K_of b_185_0 h_185_0 ?_
      refine q_aload rfl ?_
      obtain ⟨⟨z_1, k_1⟩, h⟩ := ite_some h
      obtain ⟨b_1, r_1, h⟩ := Option.bind_eq_some_iff.mp h
      refine q_getRs (c0 := 3) (j := 0) rfl rfl z_1 (fst_eq k_1) rfl (by decide) r_1 ?_
      refine q_iconst (0) (by decide) ?_
      refine q_aload rfl ?_
      obtain ⟨⟨z_6, k_6⟩, h⟩ := ite_some h
      obtain ⟨b_6, r_6, h⟩ := Option.bind_eq_some_iff.mp h
      refine q_getRs (c0 := 3) (j := 0) rfl rfl z_6 (fst_eq k_6) rfl (by decide) r_6 ?_
      refine q_iconst (0) (by decide) ?_
      refine q_aload rfl ?_
      obtain ⟨⟨z_11, k_11⟩, h⟩ := ite_some h
      obtain ⟨b_11, r_11, h⟩ := Option.bind_eq_some_iff.mp h
      refine q_getRs (c0 := 3) (j := 0) rfl rfl z_11 (fst_eq k_11) rfl (by decide) r_11 ?_
      obtain ⟨⟨z_14, k_14⟩, h⟩ := ite_some h
      refine q_alen z_14 (fst_eq k_14) (by decide) (by decide) ?_
      obtain ⟨ka_15, h⟩ := ite_some h
      obtain ⟨kb_15, h⟩ := ite_some h
      obtain ⟨⟨⟨q1_15, q2_15, q3_15, q4_15, q5_15⟩, d_15⟩, h⟩ := ite_some h
      refine q_copy (Nat.le_of_ble_eq_true rfl) ka_15.1 kb_15.1 (fst_eq ka_15.2) (fst_eq kb_15.2) q1_15 q2_15 q3_15 q4_15 q5_15 (Nat.le_trans d_15 hdp) ?_
      obtain ⟨I_15, nI_15, h⟩ := stI_some h
      refine q_nI nI_15 ?_
      refine q_aload rfl ?_
      obtain ⟨⟨z_19, k_19⟩, h⟩ := ite_some h
      obtain ⟨b_19, r_19, h⟩ := Option.bind_eq_some_iff.mp h
      refine q_getRs (c0 := 3) (j := 1) rfl rfl z_19 (fst_eq k_19) rfl (by decide) r_19 ?_
      refine q_iconst (0) (by decide) ?_
      refine q_aload rfl ?_
      obtain ⟨⟨z_24, k_24⟩, h⟩ := ite_some h
      obtain ⟨b_24, r_24, h⟩ := Option.bind_eq_some_iff.mp h
      refine q_getRs (c0 := 3) (j := 1) rfl rfl z_24 (fst_eq k_24) rfl (by decide) r_24 ?_
      refine q_iconst (0) (by decide) ?_
      refine q_aload rfl ?_
      obtain ⟨⟨z_29, k_29⟩, h⟩ := ite_some h
      obtain ⟨b_29, r_29, h⟩ := Option.bind_eq_some_iff.mp h
      refine q_getRs (c0 := 3) (j := 1) rfl rfl z_29 (fst_eq k_29) rfl (by decide) r_29 ?_
      obtain ⟨⟨z_32, k_32⟩, h⟩ := ite_some h
      refine q_alen z_32 (fst_eq k_32) (by decide) (by decide) ?_
      obtain ⟨ka_33, h⟩ := ite_some h
      obtain ⟨kb_33, h⟩ := ite_some h
      obtain ⟨⟨⟨q1_33, q2_33, q3_33, q4_33, q5_33⟩, d_33⟩, h⟩ := ite_some h
      refine q_copy (Nat.le_of_ble_eq_true rfl) ka_33.1 kb_33.1 (fst_eq ka_33.2) (fst_eq kb_33.2) q1_33 q2_33 q3_33 q4_33 q5_33 (Nat.le_trans d_33 hdp) ?_
      obtain ⟨I_33, nI_33, h⟩ := stI_some h
      refine q_nI nI_33 ?_
      refine q_aload rfl ?_
      obtain ⟨⟨z_37, k_37⟩, h⟩ := ite_some h
      obtain ⟨b_37, r_37, h⟩ := Option.bind_eq_some_iff.mp h
      refine q_getRs (c0 := 3) (j := 2) rfl rfl z_37 (fst_eq k_37) rfl (by decide) r_37 ?_
      refine q_iconst (0) (by decide) ?_
      refine q_aload rfl ?_
      obtain ⟨⟨z_42, k_42⟩, h⟩ := ite_some h
      obtain ⟨b_42, r_42, h⟩ := Option.bind_eq_some_iff.mp h
      refine q_getRs (c0 := 3) (j := 2) rfl rfl z_42 (fst_eq k_42) rfl (by decide) r_42 ?_
      refine q_iconst (0) (by decide) ?_
      refine q_aload rfl ?_
      obtain ⟨⟨z_47, k_47⟩, h⟩ := ite_some h
      obtain ⟨b_47, r_47, h⟩ := Option.bind_eq_some_iff.mp h
      refine q_getRs (c0 := 3) (j := 2) rfl rfl z_47 (fst_eq k_47) rfl (by decide) r_47 ?_
      obtain ⟨⟨z_50, k_50⟩, h⟩ := ite_some h
      refine q_alen z_50 (fst_eq k_50) (by decide) (by decide) ?_
      obtain ⟨ka_51, h⟩ := ite_some h
      obtain ⟨kb_51, h⟩ := ite_some h
      obtain ⟨⟨⟨q1_51, q2_51, q3_51, q4_51, q5_51⟩, d_51⟩, h⟩ := ite_some h
      refine q_copy (Nat.le_of_ble_eq_true rfl) ka_51.1 kb_51.1 (fst_eq ka_51.2) (fst_eq kb_51.2) q1_51 q2_51 q3_51 q4_51 q5_51 (Nat.le_trans d_51 hdp) ?_
      obtain ⟨I_51, nI_51, h⟩ := stI_some h
      refine q_nI nI_51 ?_
      refine q_aload rfl ?_
      obtain ⟨⟨z_55, k_55⟩, h⟩ := ite_some h
      obtain ⟨b_55, r_55, h⟩ := Option.bind_eq_some_iff.mp h
      refine q_getRs (c0 := 3) (j := 3) rfl rfl z_55 (fst_eq k_55) rfl (by decide) r_55 ?_
      refine q_iconst (0) (by decide) ?_
      refine q_aload rfl ?_
      obtain ⟨⟨z_60, k_60⟩, h⟩ := ite_some h
      obtain ⟨b_60, r_60, h⟩ := Option.bind_eq_some_iff.mp h
      refine q_getRs (c0 := 3) (j := 3) rfl rfl z_60 (fst_eq k_60) rfl (by decide) r_60 ?_
      refine q_iconst (0) (by decide) ?_
      refine q_aload rfl ?_
      obtain ⟨⟨z_65, k_65⟩, h⟩ := ite_some h
      obtain ⟨b_65, r_65, h⟩ := Option.bind_eq_some_iff.mp h
      refine q_getRs (c0 := 3) (j := 3) rfl rfl z_65 (fst_eq k_65) rfl (by decide) r_65 ?_
      obtain ⟨⟨z_68, k_68⟩, h⟩ := ite_some h
      refine q_alen z_68 (fst_eq k_68) (by decide) (by decide) ?_
      obtain ⟨ka_69, h⟩ := ite_some h
      obtain ⟨kb_69, h⟩ := ite_some h
      obtain ⟨⟨⟨q1_69, q2_69, q3_69, q4_69, q5_69⟩, d_69⟩, h⟩ := ite_some h
      refine q_copy (Nat.le_of_ble_eq_true rfl) ka_69.1 kb_69.1 (fst_eq ka_69.2) (fst_eq kb_69.2) q1_69 q2_69 q3_69 q4_69 q5_69 (Nat.le_trans d_69 hdp) ?_
      obtain ⟨I_69, nI_69, h⟩ := stI_some h
      refine q_nI nI_69 ?_
      refine q_aload rfl ?_
      obtain ⟨⟨z_73, k_73⟩, h⟩ := ite_some h
      obtain ⟨b_73, r_73, h⟩ := Option.bind_eq_some_iff.mp h
      refine q_getRs (c0 := 3) (j := 4) rfl rfl z_73 (fst_eq k_73) rfl (by decide) r_73 ?_
      refine q_iconst (0) (by decide) ?_
      refine q_aload rfl ?_
      obtain ⟨⟨z_78, k_78⟩, h⟩ := ite_some h
      obtain ⟨b_78, r_78, h⟩ := Option.bind_eq_some_iff.mp h
      refine q_getRs (c0 := 3) (j := 4) rfl rfl z_78 (fst_eq k_78) rfl (by decide) r_78 ?_
      refine q_iconst (0) (by decide) ?_
      refine q_aload rfl ?_
      obtain ⟨⟨z_83, k_83⟩, h⟩ := ite_some h
      obtain ⟨b_83, r_83, h⟩ := Option.bind_eq_some_iff.mp h
      refine q_getRs (c0 := 3) (j := 4) rfl rfl z_83 (fst_eq k_83) rfl (by decide) r_83 ?_
      obtain ⟨⟨z_86, k_86⟩, h⟩ := ite_some h
      refine q_alen z_86 (fst_eq k_86) (by decide) (by decide) ?_
      obtain ⟨ka_87, h⟩ := ite_some h
      obtain ⟨kb_87, h⟩ := ite_some h
      obtain ⟨⟨⟨q1_87, q2_87, q3_87, q4_87, q5_87⟩, d_87⟩, h⟩ := ite_some h
      refine q_copy (Nat.le_of_ble_eq_true rfl) ka_87.1 kb_87.1 (fst_eq ka_87.2) (fst_eq kb_87.2) q1_87 q2_87 q3_87 q4_87 q5_87 (Nat.le_trans d_87 hdp) ?_
      obtain ⟨I_87, nI_87, h⟩ := stI_some h
      refine q_nI nI_87 ?_
      refine q_aload rfl ?_
      obtain ⟨⟨z_91, k_91⟩, h⟩ := ite_some h
      obtain ⟨b_91, r_91, h⟩ := Option.bind_eq_some_iff.mp h
      refine q_getRs (c0 := 3) (j := 5) rfl rfl z_91 (fst_eq k_91) rfl (by decide) r_91 ?_
      refine q_iconst (0) (by decide) ?_
      refine q_aload rfl ?_
      obtain ⟨⟨z_96, k_96⟩, h⟩ := ite_some h
      obtain ⟨b_96, r_96, h⟩ := Option.bind_eq_some_iff.mp h
      refine q_getRs (c0 := 3) (j := 5) rfl rfl z_96 (fst_eq k_96) rfl (by decide) r_96 ?_
      refine q_iconst (0) (by decide) ?_
      refine q_aload rfl ?_
      obtain ⟨⟨z_101, k_101⟩, h⟩ := ite_some h
      obtain ⟨b_101, r_101, h⟩ := Option.bind_eq_some_iff.mp h
      refine q_getRs (c0 := 3) (j := 5) rfl rfl z_101 (fst_eq k_101) rfl (by decide) r_101 ?_
      obtain ⟨⟨z_104, k_104⟩, h⟩ := ite_some h
      refine q_alen z_104 (fst_eq k_104) (by decide) (by decide) ?_
      obtain ⟨ka_105, h⟩ := ite_some h
      obtain ⟨kb_105, h⟩ := ite_some h
      obtain ⟨⟨⟨q1_105, q2_105, q3_105, q4_105, q5_105⟩, d_105⟩, h⟩ := ite_some h
      refine q_copy (Nat.le_of_ble_eq_true rfl) ka_105.1 kb_105.1 (fst_eq ka_105.2) (fst_eq kb_105.2) q1_105 q2_105 q3_105 q4_105 q5_105 (Nat.le_trans d_105 hdp) ?_
      obtain ⟨I_105, nI_105, h⟩ := stI_some h
      refine q_nI nI_105 ?_
      refine q_aload rfl ?_
      obtain ⟨⟨z_109, k_109⟩, h⟩ := ite_some h
      obtain ⟨b_109, r_109, h⟩ := Option.bind_eq_some_iff.mp h
      refine q_getRs (c0 := 3) (j := 6) rfl rfl z_109 (fst_eq k_109) rfl (by decide) r_109 ?_
      refine q_iconst (0) (by decide) ?_
      refine q_aload rfl ?_
      obtain ⟨⟨z_114, k_114⟩, h⟩ := ite_some h
      obtain ⟨b_114, r_114, h⟩ := Option.bind_eq_some_iff.mp h
      refine q_getRs (c0 := 3) (j := 6) rfl rfl z_114 (fst_eq k_114) rfl (by decide) r_114 ?_
      refine q_iconst (0) (by decide) ?_
      refine q_aload rfl ?_
      obtain ⟨⟨z_119, k_119⟩, h⟩ := ite_some h
      obtain ⟨b_119, r_119, h⟩ := Option.bind_eq_some_iff.mp h
      refine q_getRs (c0 := 3) (j := 6) rfl rfl z_119 (fst_eq k_119) rfl (by decide) r_119 ?_
      obtain ⟨⟨z_122, k_122⟩, h⟩ := ite_some h
      refine q_alen z_122 (fst_eq k_122) (by decide) (by decide) ?_
      obtain ⟨ka_123, h⟩ := ite_some h
      obtain ⟨kb_123, h⟩ := ite_some h
      obtain ⟨⟨⟨q1_123, q2_123, q3_123, q4_123, q5_123⟩, d_123⟩, h⟩ := ite_some h
      refine q_copy (Nat.le_of_ble_eq_true rfl) ka_123.1 kb_123.1 (fst_eq ka_123.2) (fst_eq kb_123.2) q1_123 q2_123 q3_123 q4_123 q5_123 (Nat.le_trans d_123 hdp) ?_
      obtain ⟨I_123, nI_123, h⟩ := stI_some h
      refine q_nI nI_123 ?_
      refine q_aload rfl ?_
      obtain ⟨⟨z_127, k_127⟩, h⟩ := ite_some h
      obtain ⟨b_127, r_127, h⟩ := Option.bind_eq_some_iff.mp h
      refine q_getRs (c0 := 3) (j := 7) rfl rfl z_127 (fst_eq k_127) rfl (by decide) r_127 ?_
      refine q_aload rfl ?_
      obtain ⟨⟨z_131, k_131⟩, h⟩ := ite_some h
      obtain ⟨b_131, r_131, h⟩ := Option.bind_eq_some_iff.mp h
      refine q_getRs (c0 := 3) (j := 7) rfl rfl z_131 (fst_eq k_131) rfl (by decide) r_131 ?_
      obtain ⟨⟨z_134, k_134⟩, h⟩ := ite_some h
      obtain ⟨d_134, h⟩ := ite_some h
      obtain ⟨⟨I0_134, L0_134⟩, e_134, h⟩ := Option.bind_eq_some_iff.mp h
      dsimp only at h
      refine q_fv2V (a_186 X hS (d := d - 1) (by omega) e_134) (by omega) (Nat.le_refl _) (Nat.le_refl _) rfl (Nat.le_of_ble_eq_true rfl) ⟨z_134, k_134, by decide⟩ ?_
      refine q_aload rfl ?_
      refine q_aload rfl ?_
      obtain ⟨⟨z_139, k_139⟩, h⟩ := ite_some h
      refine q_getI (c0 := 3) (j := 8) rfl rfl z_139 (fst_eq k_139) (Or.inl rfl) (by decide) ?_
      obtain ⟨⟨z_142, k_142⟩, h⟩ := ite_some h
      refine q_putI (c0 := 3) (j := 8) rfl rfl z_142 (fst_eq k_142) rfl ?_
      obtain ⟨I_142, nI_142, h⟩ := stI_some h
      refine q_nI nI_142 ?_
      refine q_aload rfl ?_
      refine q_aload rfl ?_
      obtain ⟨⟨z_147, k_147⟩, h⟩ := ite_some h
      refine q_getI (c0 := 3) (j := 9) rfl rfl z_147 (fst_eq k_147) (Or.inl rfl) (by decide) ?_
      obtain ⟨⟨z_150, k_150⟩, h⟩ := ite_some h
      refine q_putI (c0 := 3) (j := 9) rfl rfl z_150 (fst_eq k_150) rfl ?_
      obtain ⟨I_150, nI_150, h⟩ := stI_some h
      refine q_nI nI_150 ?_
      refine q_aload rfl ?_
      refine q_aload rfl ?_
      obtain ⟨⟨z_155, k_155⟩, h⟩ := ite_some h
      refine q_getI (c0 := 3) (j := 10) rfl rfl z_155 (fst_eq k_155) (Or.inl rfl) (by decide) ?_
      obtain ⟨⟨z_158, k_158⟩, h⟩ := ite_some h
      refine q_putI (c0 := 3) (j := 10) rfl rfl z_158 (fst_eq k_158) rfl ?_
      obtain ⟨I_158, nI_158, h⟩ := stI_some h
      refine q_nI nI_158 ?_
      refine q_aload rfl ?_
      refine q_aload rfl ?_
      obtain ⟨⟨z_163, k_163⟩, h⟩ := ite_some h
      refine q_getI (c0 := 3) (j := 11) rfl rfl z_163 (fst_eq k_163) (Or.inl rfl) (by decide) ?_
      obtain ⟨⟨z_166, k_166⟩, h⟩ := ite_some h
      refine q_putI (c0 := 3) (j := 11) rfl rfl z_166 (fst_eq k_166) rfl ?_
      obtain ⟨I_166, nI_166, h⟩ := stI_some h
      refine q_nI nI_166 ?_
      refine q_aload rfl ?_
      refine q_aload rfl ?_
      obtain ⟨⟨z_171, k_171⟩, h⟩ := ite_some h
      refine q_getI (c0 := 3) (j := 12) rfl rfl z_171 (fst_eq k_171) (Or.inl rfl) (by decide) ?_
      obtain ⟨⟨z_174, k_174⟩, h⟩ := ite_some h
      refine q_putI (c0 := 3) (j := 12) rfl rfl z_174 (fst_eq k_174) rfl ?_
      obtain ⟨I_174, nI_174, h⟩ := stI_some h
      refine q_nI nI_174 ?_
      cases h
      exact q_vret rfl (Nat.le_refl _) (Nat.le_refl _) rfl
theorem a_185 (X : GX) {z : Nat} {kd : Nat → Nat × Nat} {Rf : Nat → Nat → Option Nat} (hS : Sh z kd Rf) {n dp d : Nat} (hd : dp ≤ d) {I : (Nat → Nat → Int32)} {L : (Nat → Nat → Int64)} {a0 : Nat} {a1 : Nat} {I1 : (Nat → Nat → Int32)} {L1 : (Nat → Nat → Int64)} (h : g_185 n dp (z, kd, Rf) 0 I L a0 a1 = some (I1, L1)) : Ct X d 185 0 0 [.ref a0, .ref a1] (z, kd, I, L, Rf) (AV (fun τ => τ = (z, kd, I1, L1, Rf))) :=
  Ct_of mu_185 (Nat.le_of_ble_eq_true rfl) ((w_185 X hS n dp d hd I L a0 a1 _ _) h)

/-! 189 CutFloor$Stock.boxesThere()I -/
set_option maxHeartbeats 4000000 in
set_option maxRecDepth 100000 in
def g_189 : Nat → Nat → EN → Nat → (Nat → Nat → Int32) → (Nat → Nat → Int64) → Int32 → Int32 →  Option (Int32 × (Nat → Nat → Int32) × (Nat → Nat → Int64))
  | 0, _, _, _, _, _, _, _ => none
  | n + 1, dp, e, lab, I, L, i1, i2 =>
    if lab = 0 then (g_189 n dp e 1 I L (0 : Int32) (0 : Int32))
    else if lab = 1 then (if (I 1 9) ≤ i2 then (some (i1, I, L)) else (if 0 ≤ ((i2 * (7 : Int32)) + (6 : Int32)) ∧ (Int32.toNatClampNeg ((i2 * (7 : Int32)) + (6 : Int32))) < 112 then (stI (i1 + (I 7 (Int32.toNatClampNeg ((i2 * (7 : Int32)) + (6 : Int32))))) (fun v_32 => (g_189 n dp e 1 I L v_32 (i2 + Int32.ofInt (1))))) else none))
    else none
set_option maxRecDepth 100000 in
theorem e_189_0 (n dp : Nat) (e : EN) (I : (Nat → Nat → Int32)) (L : (Nat → Nat → Int64)) (i1 : Int32) (i2 : Int32) : g_189 (n + 1) dp e 0 I L i1 i2 = (g_189 n dp e 1 I L (0 : Int32) (0 : Int32)) := by rw [g_189.eq_2, if_pos (show (0 : Nat) = 0 from rfl)]
set_option maxRecDepth 100000 in
theorem e_189_1 (n dp : Nat) (e : EN) (I : (Nat → Nat → Int32)) (L : (Nat → Nat → Int64)) (i1 : Int32) (i2 : Int32) : g_189 (n + 1) dp e 1 I L i1 i2 = (if (I 1 9) ≤ i2 then (some (i1, I, L)) else (if 0 ≤ ((i2 * (7 : Int32)) + (6 : Int32)) ∧ (Int32.toNatClampNeg ((i2 * (7 : Int32)) + (6 : Int32))) < 112 then (stI (i1 + (I 7 (Int32.toNatClampNeg ((i2 * (7 : Int32)) + (6 : Int32))))) (fun v_32 => (g_189 n dp e 1 I L v_32 (i2 + Int32.ofInt (1))))) else none)) := by rw [g_189.eq_2, if_neg (show ¬ ((1 : Nat) = 0) by decide), if_pos (show (1 : Nat) = 1 from rfl)]
set_option maxHeartbeats 8000000 in
set_option maxRecDepth 100000 in
theorem w_189 (X : GX) {z : Nat} {kd : Nat → Nat × Nat} {Rf : Nat → Nat → Option Nat} (hS : Sh z kd Rf) : ∀ (n dp d : Nat), dp ≤ d → ∀ (I : (Nat → Nat → Int32)) (L : (Nat → Nat → Int64)) (i1 : Int32) (i2 : Int32) (r : Int32) (I1 : (Nat → Nat → Int32)) (L1 : (Nat → Nat → Int64)), (g_189 n dp (z, kd, Rf) 0 I L i1 i2 = some (r, I1, L1) → K X d 189 0 0 (AI (fun x τ => x = r ∧ τ = (z, kd, I1, L1, Rf))) 0 [some (.ref 87), none, none] [] (z, kd, I, L, Rf) 0 0) ∧
    (g_189 n dp (z, kd, Rf) 1 I L i1 i2 = some (r, I1, L1) → K X d 189 0 0 (AI (fun x τ => x = r ∧ τ = (z, kd, I1, L1, Rf))) 4 [some (.ref 87), some (.int i1), some (.int i2)] [] (z, kd, I, L, Rf) 0 0) := by
  intro n
  induction n with
  | zero => intro dp d hdp I L i1 i2 r I1 L1; exact ⟨(fun h => by cases h), (fun h => by cases h)⟩
  | succ n ih =>
    intro dp d hdp I L i1 i2 r I1 L1
    refine ⟨?_, ?_⟩
    · intro h
      rw [e_189_0] at h
      refine K_of b_189_0 h_189_0 ?_
      refine q_iconst (0) (by decide) ?_
      refine q_istore (ls1 := [some (.ref 87), some (.int (0 : Int32)), none]) (Nat.le_of_ble_eq_true rfl) rfl ?_
      refine q_iconst (0) (by decide) ?_
      refine q_istore (ls1 := [some (.ref 87), some (.int (0 : Int32)), some (.int (0 : Int32))]) (Nat.le_of_ble_eq_true rfl) rfl ?_
      refine q_end ?_
      exact (ih dp d hdp _ _ (0 : Int32) (0 : Int32) _ _ _).2 h
    · intro h
      rw [e_189_1] at h
      refine K_of b_189_4 h_189_4 ?_
      refine q_iload rfl ?_
      refine q_aload rfl ?_
      refine q_getRs (c0 := 9) (j := 0) rfl rfl (zl hS 87 (by decide)) (sk hS 87 (by decide) rfl) rfl (by decide) (r_87_0 hS) ?_
      refine q_getI (c0 := 3) (j := 9) rfl rfl (zl hS 1 (by decide)) (sk hS 1 (by decide) rfl) (Or.inl rfl) (by decide) ?_
      refine q_icmp_ge (fun c_12 => ?_) (fun c_12 => ?_)
      · rw [if_pos c_12] at h
        refine K_of b_189_39 h_189_39 ?_
        refine q_iload rfl ?_
        cases h
        exact q_iret rfl (Nat.le_refl _) (Nat.le_refl _) ⟨rfl, rfl⟩
      · rw [if_neg c_12] at h
        refine q_iload rfl ?_
        refine q_aload rfl ?_
        refine q_getRs (c0 := 9) (j := 0) rfl rfl (zl hS 87 (by decide)) (sk hS 87 (by decide) rfl) rfl (by decide) (r_87_0 hS) ?_
        refine q_getRs (c0 := 3) (j := 5) rfl rfl (zl hS 1 (by decide)) (sk hS 1 (by decide) rfl) rfl (by decide) (r_1_5 hS) ?_
        refine q_iload rfl ?_
        refine q_iconst (7) (by decide) ?_
        refine q_imul ?_
        refine q_iconst (6) (by decide) ?_
        refine q_iadd ?_
        obtain ⟨⟨u_30, v_30⟩, h⟩ := ite_some h
        refine q_ialN (Int32.toNatClampNeg ((i2 * (7 : Int32)) + (6 : Int32))) (nx u_30) (zl hS 7 (by decide)) (sk hS 7 (by decide) rfl) v_30 (by decide) ?_
        refine q_iadd ?_
        obtain ⟨v_32, nv_32, h⟩ := stI_some h
        refine q_eqi nv_32.symm ?_
        refine q_istore (ls1 := [some (.ref 87), some (.int v_32), some (.int i2)]) (Nat.le_of_ble_eq_true rfl) rfl ?_
        refine q_iinc (ls1 := [some (.ref 87), some (.int v_32), some (.int (i2 + Int32.ofInt (1)))]) rfl rfl ?_
        refine q_goto ?_
        exact (ih dp d hdp _ _ v_32 (i2 + Int32.ofInt (1)) _ _ _).2 h
theorem a_189 (X : GX) {z : Nat} {kd : Nat → Nat × Nat} {Rf : Nat → Nat → Option Nat} (hS : Sh z kd Rf) {n dp d : Nat} (hd : dp ≤ d) {I : (Nat → Nat → Int32)} {L : (Nat → Nat → Int64)} {I1 : (Nat → Nat → Int32)} {L1 : (Nat → Nat → Int64)} {r : Int32} (h : g_189 n dp (z, kd, Rf) 0 I L 0 0 = some (r, I1, L1)) : Ct X d 189 0 0 [.ref 87] (z, kd, I, L, Rf) (AI (fun x τ => x = r ∧ τ = (z, kd, I1, L1, Rf))) :=
  Ct_of mu_189 (Nat.le_of_ble_eq_true rfl) ((w_189 X hS n dp d hd I L 0 0 _ _ _).1 h)

/-! 188 CutFloor.count(I)I -/
set_option maxHeartbeats 4000000 in
set_option maxRecDepth 100000 in
def g_188 : Nat → Nat → EN → Nat → (Nat → Nat → Int32) → (Nat → Nat → Int64) → Int32 →  Option (Int32 × (Nat → Nat → Int32) × (Nat → Nat → Int64))
  | 0, _, _, _, _, _, _ => none
  | n + 1, dp, e, lab, I, L, i1 =>
    if lab = 0 then (if 1 ≤ dp then (g_14 n (dp - 1) e 0 I L i1 (9 : Int32) (13 : Int32)).bind (fun ⟨x0_5, I0_5, L0_5⟩ => (if x0_5 = 0 then (if i1 = (0 : Int32) then (if 1 ≤ dp then (g_16 n (dp - 1) e 0 I0_5 L0_5).bind (fun ⟨x1_76, I1_76, L1_76⟩ => (some (x1_76, I1_76, L1_76))) else none) else (if i1 = (1 : Int32) then ((e.2.2 1 7).bind (fun b_84 => (if b_84 < e.1 ∧ (e.2.1 b_84).1 = 10 then (some ((I0_5 b_84 10), I0_5, L0_5)) else none))) else (if i1 = (2 : Int32) then ((e.2.2 1 7).bind (fun b_95 => (if b_95 < e.1 ∧ (e.2.1 b_95).1 = 10 then (some ((I0_5 b_95 11), I0_5, L0_5)) else none))) else (if i1 = (3 : Int32) then (some ((I0_5 1 8), I0_5, L0_5)) else (if i1 = (4 : Int32) then (if 1 ≤ dp then (g_189 n (dp - 1) e 0 I0_5 L0_5 0 0).bind (fun ⟨x1_114, I1_114, L1_114⟩ => (some (x1_114, I1_114, L1_114))) else none) else (if i1 = (5 : Int32) then (some ((I0_5 1 9), I0_5, L0_5)) else (if i1 = (6 : Int32) then (some ((I0_5 1 10), I0_5, L0_5)) else (if i1 = (7 : Int32) then (if 1 ≤ dp then (g_24 n (dp - 1) e 0 I0_5 L0_5 0 0).bind (fun ⟨x1_138, I1_138, L1_138⟩ => (some (x1_138, I1_138, L1_138))) else none) else (if i1 = (8 : Int32) then (some ((I0_5 0 13), I0_5, L0_5)) else (some ((-1 : Int32), I0_5, L0_5))))))))))) else (if 0 ≤ (i1 - (9 : Int32)) ∧ (Int32.toNatClampNeg (i1 - (9 : Int32))) < 5 then (some ((I0_5 92 (Int32.toNatClampNeg (i1 - (9 : Int32)))), I0_5, L0_5)) else none))) else none)
    else none
set_option maxRecDepth 100000 in
theorem e_188_0 (n dp : Nat) (e : EN) (I : (Nat → Nat → Int32)) (L : (Nat → Nat → Int64)) (i1 : Int32) : g_188 (n + 1) dp e 0 I L i1 = (if 1 ≤ dp then (g_14 n (dp - 1) e 0 I L i1 (9 : Int32) (13 : Int32)).bind (fun ⟨x0_5, I0_5, L0_5⟩ => (if x0_5 = 0 then (if i1 = (0 : Int32) then (if 1 ≤ dp then (g_16 n (dp - 1) e 0 I0_5 L0_5).bind (fun ⟨x1_76, I1_76, L1_76⟩ => (some (x1_76, I1_76, L1_76))) else none) else (if i1 = (1 : Int32) then ((e.2.2 1 7).bind (fun b_84 => (if b_84 < e.1 ∧ (e.2.1 b_84).1 = 10 then (some ((I0_5 b_84 10), I0_5, L0_5)) else none))) else (if i1 = (2 : Int32) then ((e.2.2 1 7).bind (fun b_95 => (if b_95 < e.1 ∧ (e.2.1 b_95).1 = 10 then (some ((I0_5 b_95 11), I0_5, L0_5)) else none))) else (if i1 = (3 : Int32) then (some ((I0_5 1 8), I0_5, L0_5)) else (if i1 = (4 : Int32) then (if 1 ≤ dp then (g_189 n (dp - 1) e 0 I0_5 L0_5 0 0).bind (fun ⟨x1_114, I1_114, L1_114⟩ => (some (x1_114, I1_114, L1_114))) else none) else (if i1 = (5 : Int32) then (some ((I0_5 1 9), I0_5, L0_5)) else (if i1 = (6 : Int32) then (some ((I0_5 1 10), I0_5, L0_5)) else (if i1 = (7 : Int32) then (if 1 ≤ dp then (g_24 n (dp - 1) e 0 I0_5 L0_5 0 0).bind (fun ⟨x1_138, I1_138, L1_138⟩ => (some (x1_138, I1_138, L1_138))) else none) else (if i1 = (8 : Int32) then (some ((I0_5 0 13), I0_5, L0_5)) else (some ((-1 : Int32), I0_5, L0_5))))))))))) else (if 0 ≤ (i1 - (9 : Int32)) ∧ (Int32.toNatClampNeg (i1 - (9 : Int32))) < 5 then (some ((I0_5 92 (Int32.toNatClampNeg (i1 - (9 : Int32)))), I0_5, L0_5)) else none))) else none) := by rw [g_188.eq_2, if_pos (show (0 : Nat) = 0 from rfl)]
set_option maxHeartbeats 8000000 in
set_option maxRecDepth 100000 in
theorem w_188 (X : GX) {z : Nat} {kd : Nat → Nat × Nat} {Rf : Nat → Nat → Option Nat} (hS : Sh z kd Rf) : ∀ (n dp d : Nat), dp ≤ d → ∀ (I : (Nat → Nat → Int32)) (L : (Nat → Nat → Int64)) (i1 : Int32) (r : Int32) (I1 : (Nat → Nat → Int32)) (L1 : (Nat → Nat → Int64)), (g_188 n dp (z, kd, Rf) 0 I L i1 = some (r, I1, L1) → K X d 188 0 0 (AI (fun x τ => x = r ∧ τ = (z, kd, I1, L1, Rf))) 0 [some (.ref 0), some (.int i1)] [] (z, kd, I, L, Rf) 0 0) := by
  intro n
  induction n with
  | zero => intro dp d hdp I L i1 r I1 L1; exact fun h => by cases h
  | succ n ih =>
    intro dp d hdp I L i1 r I1 L1
    · intro h
      rw [e_188_0] at h
      refine K_of b_188_0 h_188_0 ?_
      refine q_iload rfl ?_
      refine q_iconst (9) (by decide) ?_
      refine q_iconst (13) (by decide) ?_
      obtain ⟨d_5, h⟩ := ite_some h
      obtain ⟨⟨x0_5, I0_5, L0_5⟩, e_5, h⟩ := Option.bind_eq_some_iff.mp h
      dsimp only at h
      refine q_fs3I (a_14 X hS (d := d - 1) (by omega) e_5) (by omega) (Nat.le_refl _) (Nat.le_refl _) rfl (Nat.le_of_ble_eq_true rfl) ?_
      refine q_if_eq (fun c_8 => ?_) (fun c_8 => ?_)
      · rw [if_pos c_8] at h
        refine K_of b_188_21 h_188_21 ?_
        refine q_iload rfl ?_
        refine q_tsw (fun c_22 => ?_) (fun j t c_22 ht => ?_)
        · rw [if_neg (sw_ne c_22 (by decide) (by decide)), if_neg (sw_ne c_22 (by decide) (by decide)), if_neg (sw_ne c_22 (by decide) (by decide)), if_neg (sw_ne c_22 (by decide) (by decide)), if_neg (sw_ne c_22 (by decide) (by decide)), if_neg (sw_ne c_22 (by decide) (by decide)), if_neg (sw_ne c_22 (by decide) (by decide)), if_neg (sw_ne c_22 (by decide) (by decide)), if_neg (sw_ne c_22 (by decide) (by decide))] at h
          refine K_of b_188_147 h_188_147 ?_
          refine q_iconst (-1) (by decide) ?_
          cases h
          exact q_iret rfl (Nat.le_refl _) (Nat.le_refl _) ⟨rfl, rfl⟩
        · match j, ht with
          | 0, ht =>
            cases ht
            rw [if_pos (sw_eq c_22 (by decide))] at h
            refine K_of b_188_72 h_188_72 ?_
            refine q_aload rfl ?_
            refine q_getRs (c0 := 11) (j := 0) rfl rfl (zl hS 0 (by decide)) (sk hS 0 (by decide) rfl) rfl (by decide) (r_0_0 hS) ?_
            obtain ⟨d_76, h⟩ := ite_some h
            obtain ⟨⟨x1_76, I1_76, L1_76⟩, e_76, h⟩ := Option.bind_eq_some_iff.mp h
            dsimp only at h
            refine q_fv1I (a_16 X hS (d := d - 1) (by omega) e_76) (by omega) (Nat.le_refl _) (Nat.le_refl _) rfl (Nat.le_of_ble_eq_true rfl) ⟨(zl hS 1 (by decide)), congrArg Prod.fst (sk hS 1 (by decide) rfl), by decide⟩ ?_
            cases h
            exact q_iret rfl (Nat.le_refl _) (Nat.le_refl _) ⟨rfl, rfl⟩
          | 1, ht =>
            cases ht
            rw [if_neg (sw_nq c_22 (by decide)), if_pos (sw_eq c_22 (by decide))] at h
            refine K_of b_188_80 h_188_80 ?_
            refine q_aload rfl ?_
            refine q_getRs (c0 := 11) (j := 0) rfl rfl (zl hS 0 (by decide)) (sk hS 0 (by decide) rfl) rfl (by decide) (r_0_0 hS) ?_
            obtain ⟨b_84, r_84, h⟩ := Option.bind_eq_some_iff.mp h
            refine q_getRs (c0 := 3) (j := 7) rfl rfl (zl hS 1 (by decide)) (sk hS 1 (by decide) rfl) rfl (by decide) r_84 ?_
            obtain ⟨⟨z_87, k_87⟩, h⟩ := ite_some h
            refine q_getI (c0 := 10) (j := 10) rfl rfl z_87 (fst_eq k_87) (Or.inl rfl) (by decide) ?_
            cases h
            exact q_iret rfl (Nat.le_refl _) (Nat.le_refl _) ⟨rfl, rfl⟩
          | 2, ht =>
            cases ht
            rw [if_neg (sw_nq c_22 (by decide)), if_neg (sw_nq c_22 (by decide)), if_pos (sw_eq c_22 (by decide))] at h
            refine K_of b_188_91 h_188_91 ?_
            refine q_aload rfl ?_
            refine q_getRs (c0 := 11) (j := 0) rfl rfl (zl hS 0 (by decide)) (sk hS 0 (by decide) rfl) rfl (by decide) (r_0_0 hS) ?_
            obtain ⟨b_95, r_95, h⟩ := Option.bind_eq_some_iff.mp h
            refine q_getRs (c0 := 3) (j := 7) rfl rfl (zl hS 1 (by decide)) (sk hS 1 (by decide) rfl) rfl (by decide) r_95 ?_
            obtain ⟨⟨z_98, k_98⟩, h⟩ := ite_some h
            refine q_getI (c0 := 10) (j := 11) rfl rfl z_98 (fst_eq k_98) (Or.inl rfl) (by decide) ?_
            cases h
            exact q_iret rfl (Nat.le_refl _) (Nat.le_refl _) ⟨rfl, rfl⟩
          | 3, ht =>
            cases ht
            rw [if_neg (sw_nq c_22 (by decide)), if_neg (sw_nq c_22 (by decide)), if_neg (sw_nq c_22 (by decide)), if_pos (sw_eq c_22 (by decide))] at h
            refine K_of b_188_102 h_188_102 ?_
            refine q_aload rfl ?_
            refine q_getRs (c0 := 11) (j := 0) rfl rfl (zl hS 0 (by decide)) (sk hS 0 (by decide) rfl) rfl (by decide) (r_0_0 hS) ?_
            refine q_getI (c0 := 3) (j := 8) rfl rfl (zl hS 1 (by decide)) (sk hS 1 (by decide) rfl) (Or.inl rfl) (by decide) ?_
            cases h
            exact q_iret rfl (Nat.le_refl _) (Nat.le_refl _) ⟨rfl, rfl⟩
          | 4, ht =>
            cases ht
            rw [if_neg (sw_nq c_22 (by decide)), if_neg (sw_nq c_22 (by decide)), if_neg (sw_nq c_22 (by decide)), if_neg (sw_nq c_22 (by decide)), if_pos (sw_eq c_22 (by decide))] at h
            refine K_of b_188_110 h_188_110 ?_
            refine q_aload rfl ?_
            refine q_getRs (c0 := 11) (j := 6) rfl rfl (zl hS 0 (by decide)) (sk hS 0 (by decide) rfl) rfl (by decide) (r_0_6 hS) ?_
            obtain ⟨d_114, h⟩ := ite_some h
            obtain ⟨⟨x1_114, I1_114, L1_114⟩, e_114, h⟩ := Option.bind_eq_some_iff.mp h
            dsimp only at h
            refine q_fv1I (a_189 X hS (d := d - 1) (by omega) e_114) (by omega) (Nat.le_refl _) (Nat.le_refl _) rfl (Nat.le_of_ble_eq_true rfl) ⟨(zl hS 87 (by decide)), congrArg Prod.fst (sk hS 87 (by decide) rfl), by decide⟩ ?_
            cases h
            exact q_iret rfl (Nat.le_refl _) (Nat.le_refl _) ⟨rfl, rfl⟩
          | 5, ht =>
            cases ht
            rw [if_neg (sw_nq c_22 (by decide)), if_neg (sw_nq c_22 (by decide)), if_neg (sw_nq c_22 (by decide)), if_neg (sw_nq c_22 (by decide)), if_neg (sw_nq c_22 (by decide)), if_pos (sw_eq c_22 (by decide))] at h
            refine K_of b_188_118 h_188_118 ?_
            refine q_aload rfl ?_
            refine q_getRs (c0 := 11) (j := 0) rfl rfl (zl hS 0 (by decide)) (sk hS 0 (by decide) rfl) rfl (by decide) (r_0_0 hS) ?_
            refine q_getI (c0 := 3) (j := 9) rfl rfl (zl hS 1 (by decide)) (sk hS 1 (by decide) rfl) (Or.inl rfl) (by decide) ?_
            cases h
            exact q_iret rfl (Nat.le_refl _) (Nat.le_refl _) ⟨rfl, rfl⟩
          | 6, ht =>
            cases ht
            rw [if_neg (sw_nq c_22 (by decide)), if_neg (sw_nq c_22 (by decide)), if_neg (sw_nq c_22 (by decide)), if_neg (sw_nq c_22 (by decide)), if_neg (sw_nq c_22 (by decide)), if_neg (sw_nq c_22 (by decide)), if_pos (sw_eq c_22 (by decide))] at h
            refine K_of b_188_126 h_188_126 ?_
            refine q_aload rfl ?_
            refine q_getRs (c0 := 11) (j := 0) rfl rfl (zl hS 0 (by decide)) (sk hS 0 (by decide) rfl) rfl (by decide) (r_0_0 hS) ?_
            refine q_getI (c0 := 3) (j := 10) rfl rfl (zl hS 1 (by decide)) (sk hS 1 (by decide) rfl) (Or.inl rfl) (by decide) ?_
            cases h
            exact q_iret rfl (Nat.le_refl _) (Nat.le_refl _) ⟨rfl, rfl⟩
          | 7, ht =>
            cases ht
            rw [if_neg (sw_nq c_22 (by decide)), if_neg (sw_nq c_22 (by decide)), if_neg (sw_nq c_22 (by decide)), if_neg (sw_nq c_22 (by decide)), if_neg (sw_nq c_22 (by decide)), if_neg (sw_nq c_22 (by decide)), if_neg (sw_nq c_22 (by decide)), if_pos (sw_eq c_22 (by decide))] at h
            refine K_of b_188_134 h_188_134 ?_
            refine q_aload rfl ?_
            refine q_getRs (c0 := 11) (j := 0) rfl rfl (zl hS 0 (by decide)) (sk hS 0 (by decide) rfl) rfl (by decide) (r_0_0 hS) ?_
            obtain ⟨d_138, h⟩ := ite_some h
            obtain ⟨⟨x1_138, I1_138, L1_138⟩, e_138, h⟩ := Option.bind_eq_some_iff.mp h
            dsimp only at h
            refine q_fv1I (a_24 X hS (d := d - 1) (by omega) e_138) (by omega) (Nat.le_refl _) (Nat.le_refl _) rfl (Nat.le_of_ble_eq_true rfl) ⟨(zl hS 1 (by decide)), congrArg Prod.fst (sk hS 1 (by decide) rfl), by decide⟩ ?_
            cases h
            exact q_iret rfl (Nat.le_refl _) (Nat.le_refl _) ⟨rfl, rfl⟩
          | 8, ht =>
            cases ht
            rw [if_neg (sw_nq c_22 (by decide)), if_neg (sw_nq c_22 (by decide)), if_neg (sw_nq c_22 (by decide)), if_neg (sw_nq c_22 (by decide)), if_neg (sw_nq c_22 (by decide)), if_neg (sw_nq c_22 (by decide)), if_neg (sw_nq c_22 (by decide)), if_neg (sw_nq c_22 (by decide)), if_pos (sw_eq c_22 (by decide))] at h
            refine K_of b_188_142 h_188_142 ?_
            refine q_aload rfl ?_
            refine q_getI (c0 := 11) (j := 13) rfl rfl (zl hS 0 (by decide)) (sk hS 0 (by decide) rfl) (Or.inl rfl) (by decide) ?_
            cases h
            exact q_iret rfl (Nat.le_refl _) (Nat.le_refl _) ⟨rfl, rfl⟩
          | j + 9, ht => simp at ht
      · rw [if_neg c_8] at h
        refine q_aload rfl ?_
        refine q_getRs (c0 := 11) (j := 10) rfl rfl (zl hS 0 (by decide)) (sk hS 0 (by decide) rfl) rfl (by decide) (r_0_10 hS) ?_
        refine q_iload rfl ?_
        refine q_iconst (9) (by decide) ?_
        refine q_isub ?_
        obtain ⟨⟨u_19, v_19⟩, h⟩ := ite_some h
        refine q_ialN (Int32.toNatClampNeg (i1 - (9 : Int32))) (nx u_19) (zl hS 92 (by decide)) (sk hS 92 (by decide) rfl) v_19 (by decide) ?_
        cases h
        exact q_iret rfl (Nat.le_refl _) (Nat.le_refl _) ⟨rfl, rfl⟩
theorem a_188 (X : GX) {z : Nat} {kd : Nat → Nat × Nat} {Rf : Nat → Nat → Option Nat} (hS : Sh z kd Rf) {n dp d : Nat} (hd : dp ≤ d) {I : (Nat → Nat → Int32)} {L : (Nat → Nat → Int64)} {i1 : Int32} {I1 : (Nat → Nat → Int32)} {L1 : (Nat → Nat → Int64)} {r : Int32} (h : g_188 n dp (z, kd, Rf) 0 I L i1 = some (r, I1, L1)) : Ct X d 188 0 0 [.ref 0, .int i1] (z, kd, I, L, Rf) (AI (fun x τ => x = r ∧ τ = (z, kd, I1, L1, Rf))) :=
  Ct_of mu_188 (Nat.le_of_ble_eq_true rfl) ((w_188 X hS n dp d hd I L i1 _ _ _) h)

/-! 190 CutFloor.status()I -/
set_option maxHeartbeats 4000000 in
set_option maxRecDepth 100000 in
def g_190 : Nat → Nat → EN → Nat → (Nat → Nat → Int32) → (Nat → Nat → Int64) →  Option (Int32 × (Nat → Nat → Int32) × (Nat → Nat → Int64))
  | 0, _, _, _, _, _ => none
  | n + 1, dp, e, lab, I, L =>
    if lab = 0 then (some ((I 0 18), I, L))
    else none
set_option maxRecDepth 100000 in
theorem e_190_0 (n dp : Nat) (e : EN) (I : (Nat → Nat → Int32)) (L : (Nat → Nat → Int64)) : g_190 (n + 1) dp e 0 I L = (some ((I 0 18), I, L)) := by rw [g_190.eq_2, if_pos (show (0 : Nat) = 0 from rfl)]
set_option maxHeartbeats 8000000 in
set_option maxRecDepth 100000 in
theorem w_190 (X : GX) {z : Nat} {kd : Nat → Nat × Nat} {Rf : Nat → Nat → Option Nat} (hS : Sh z kd Rf) : ∀ (n dp d : Nat), dp ≤ d → ∀ (I : (Nat → Nat → Int32)) (L : (Nat → Nat → Int64)) (r : Int32) (I1 : (Nat → Nat → Int32)) (L1 : (Nat → Nat → Int64)), (g_190 n dp (z, kd, Rf) 0 I L = some (r, I1, L1) → K X d 190 0 0 (AI (fun x τ => x = r ∧ τ = (z, kd, I1, L1, Rf))) 0 [some (.ref 0)] [] (z, kd, I, L, Rf) 0 0) := by
  intro n
  induction n with
  | zero => intro dp d hdp I L r I1 L1; exact fun h => by cases h
  | succ n ih =>
    intro dp d hdp I L r I1 L1
    · intro h
      rw [e_190_0] at h
      refine K_of b_190_0 h_190_0 ?_
      refine q_aload rfl ?_
      refine q_getI (c0 := 11) (j := 18) rfl rfl (zl hS 0 (by decide)) (sk hS 0 (by decide) rfl) (Or.inl rfl) (by decide) ?_
      cases h
      exact q_iret rfl (Nat.le_refl _) (Nat.le_refl _) ⟨rfl, rfl⟩
theorem a_190 (X : GX) {z : Nat} {kd : Nat → Nat × Nat} {Rf : Nat → Nat → Option Nat} (hS : Sh z kd Rf) {n dp d : Nat} (hd : dp ≤ d) {I : (Nat → Nat → Int32)} {L : (Nat → Nat → Int64)} {I1 : (Nat → Nat → Int32)} {L1 : (Nat → Nat → Int64)} {r : Int32} (h : g_190 n dp (z, kd, Rf) 0 I L = some (r, I1, L1)) : Ct X d 190 0 0 [.ref 0] (z, kd, I, L, Rf) (AI (fun x τ => x = r ∧ τ = (z, kd, I1, L1, Rf))) :=
  Ct_of mu_190 (Nat.le_of_ble_eq_true rfl) ((w_190 X hS n dp d hd I L _ _ _) h)

/-! 193 CutFloorModel.in(JJJ)Z -/
set_option maxHeartbeats 4000000 in
set_option maxRecDepth 100000 in
def g_193 : Nat → Nat → EN → Nat → (Nat → Nat → Int32) → (Nat → Nat → Int64) → Int64 → Int64 → Int64 →  Option (Int32 × (Nat → Nat → Int32) × (Nat → Nat → Int64))
  | 0, _, _, _, _, _, _, _, _ => none
  | n + 1, dp, e, lab, I, L, j0, j2, j4 =>
    if lab = 0 then (if (lg_cmp j0 j2) < 0 then (some ((0 : Int32), I, L)) else (if 0 < (lg_cmp j0 j4) then (some ((0 : Int32), I, L)) else (some ((1 : Int32), I, L))))
    else none
set_option maxRecDepth 100000 in
theorem e_193_0 (n dp : Nat) (e : EN) (I : (Nat → Nat → Int32)) (L : (Nat → Nat → Int64)) (j0 : Int64) (j2 : Int64) (j4 : Int64) : g_193 (n + 1) dp e 0 I L j0 j2 j4 = (if (lg_cmp j0 j2) < 0 then (some ((0 : Int32), I, L)) else (if 0 < (lg_cmp j0 j4) then (some ((0 : Int32), I, L)) else (some ((1 : Int32), I, L)))) := by rw [g_193.eq_2, if_pos (show (0 : Nat) = 0 from rfl)]
set_option maxHeartbeats 8000000 in
set_option maxRecDepth 100000 in
theorem w_193 (X : GX) {z : Nat} {kd : Nat → Nat × Nat} {Rf : Nat → Nat → Option Nat} (hS : Sh z kd Rf) : ∀ (n dp d : Nat), dp ≤ d → ∀ (I : (Nat → Nat → Int32)) (L : (Nat → Nat → Int64)) (j0 : Int64) (j2 : Int64) (j4 : Int64) (r : Int32) (I1 : (Nat → Nat → Int32)) (L1 : (Nat → Nat → Int64)), (g_193 n dp (z, kd, Rf) 0 I L j0 j2 j4 = some (r, I1, L1) → K X d 193 0 0 (AI (fun x τ => x = r ∧ τ = (z, kd, I1, L1, Rf))) 0 [some (.long j0), none, some (.long j2), none, some (.long j4), none] [] (z, kd, I, L, Rf) 0 0) := by
  intro n
  induction n with
  | zero => intro dp d hdp I L j0 j2 j4 r I1 L1; exact fun h => by cases h
  | succ n ih =>
    intro dp d hdp I L j0 j2 j4 r I1 L1
    · intro h
      rw [e_193_0] at h
      refine K_of b_193_0 h_193_0 ?_
      refine q_lload rfl ?_
      refine q_lload rfl ?_
      refine q_lcmp ?_
      refine q_if_lt (fun c_3 => ?_) (fun c_3 => ?_)
      · rw [if_pos c_3] at h
        refine K_of b_193_17 h_193_17 ?_
        refine q_iconst (0) (by decide) ?_
        refine q_end ?_
        refine K_of b_193_18 h_193_18 ?_
        cases h
        exact q_iret rfl (Nat.le_refl _) (Nat.le_refl _) ⟨rfl, rfl⟩
      · rw [if_neg c_3] at h
        refine q_lload rfl ?_
        refine q_lload rfl ?_
        refine q_lcmp ?_
        refine q_if_gt (fun c_10 => ?_) (fun c_10 => ?_)
        · rw [if_pos c_10] at h
          refine K_of b_193_17 h_193_17 ?_
          refine q_iconst (0) (by decide) ?_
          refine q_end ?_
          refine K_of b_193_18 h_193_18 ?_
          cases h
          exact q_iret rfl (Nat.le_refl _) (Nat.le_refl _) ⟨rfl, rfl⟩
        · rw [if_neg c_10] at h
          refine q_iconst (1) (by decide) ?_
          refine q_goto ?_
          refine K_of b_193_18 h_193_18 ?_
          cases h
          exact q_iret rfl (Nat.le_refl _) (Nat.le_refl _) ⟨rfl, rfl⟩
theorem a_193 (X : GX) {z : Nat} {kd : Nat → Nat × Nat} {Rf : Nat → Nat → Option Nat} (hS : Sh z kd Rf) {n dp d : Nat} (hd : dp ≤ d) {I : (Nat → Nat → Int32)} {L : (Nat → Nat → Int64)} {j0 : Int64} {j2 : Int64} {j4 : Int64} {I1 : (Nat → Nat → Int32)} {L1 : (Nat → Nat → Int64)} {r : Int32} (h : g_193 n dp (z, kd, Rf) 0 I L j0 j2 j4 = some (r, I1, L1)) : Ct X d 193 0 0 [.long j0, .long j2, .long j4] (z, kd, I, L, Rf) (AI (fun x τ => x = r ∧ τ = (z, kd, I1, L1, Rf))) :=
  Ct_of mu_193 (Nat.le_of_ble_eq_true rfl) ((w_193 X hS n dp d hd I L j0 j2 j4 _ _ _) h)

/-! 194 CutFloorModel.tell(I)I -/
set_option maxHeartbeats 4000000 in
set_option maxRecDepth 100000 in
def g_194 : Nat → Nat → EN → Nat → (Nat → Nat → Int32) → (Nat → Nat → Int64) → Int32 →  Option (Int32 × (Nat → Nat → Int32) × (Nat → Nat → Int64))
  | 0, _, _, _, _, _, _ => none
  | n + 1, dp, e, lab, I, L, i1 =>
    if lab = 0 then (if 0 ≤ i1 then (stI (u2 I 105 1 (0 : Int32)) (fun I_10 => (if (I_10 105 32) = 0 then (stI (u2 I_10 105 32 (0 : Int32)) (fun I_30 => (if (I_30 105 51) = 0 then (stI (u2 I_30 105 51 (0 : Int32)) (fun I_50 => (if 0 ≤ i1 then (some (i1, I_50, L)) else (if 0 ≤ (-i1) ∧ (Int32.toNatClampNeg (-i1)) < 7 then (if 0 ≤ (-i1) ∧ (Int32.toNatClampNeg (-i1)) < 7 then (stI (u2 I_50 106 (Int32.toNatClampNeg (-i1)) ((I_50 106 (Int32.toNatClampNeg (-i1))) + (1 : Int32))) (fun I_67 => (some (i1, I_67, L)))) else none) else none)))) else (if 0 ≤ i1 then (stI (u2 I_30 105 51 (0 : Int32)) (fun I_50 => (if 0 ≤ i1 then (some (i1, I_50, L)) else (if 0 ≤ (-i1) ∧ (Int32.toNatClampNeg (-i1)) < 7 then (if 0 ≤ (-i1) ∧ (Int32.toNatClampNeg (-i1)) < 7 then (stI (u2 I_50 106 (Int32.toNatClampNeg (-i1)) ((I_50 106 (Int32.toNatClampNeg (-i1))) + (1 : Int32))) (fun I_67 => (some (i1, I_67, L)))) else none) else none)))) else (stI (u2 I_30 105 51 (1 : Int32)) (fun I_50 => (if 0 ≤ i1 then (some (i1, I_50, L)) else (if 0 ≤ (-i1) ∧ (Int32.toNatClampNeg (-i1)) < 7 then (if 0 ≤ (-i1) ∧ (Int32.toNatClampNeg (-i1)) < 7 then (stI (u2 I_50 106 (Int32.toNatClampNeg (-i1)) ((I_50 106 (Int32.toNatClampNeg (-i1))) + (1 : Int32))) (fun I_67 => (some (i1, I_67, L)))) else none) else none)))))))) else (if 0 ≤ i1 then (stI (u2 I_10 105 32 (0 : Int32)) (fun I_30 => (if (I_30 105 51) = 0 then (stI (u2 I_30 105 51 (0 : Int32)) (fun I_50 => (if 0 ≤ i1 then (some (i1, I_50, L)) else (if 0 ≤ (-i1) ∧ (Int32.toNatClampNeg (-i1)) < 7 then (if 0 ≤ (-i1) ∧ (Int32.toNatClampNeg (-i1)) < 7 then (stI (u2 I_50 106 (Int32.toNatClampNeg (-i1)) ((I_50 106 (Int32.toNatClampNeg (-i1))) + (1 : Int32))) (fun I_67 => (some (i1, I_67, L)))) else none) else none)))) else (if 0 ≤ i1 then (stI (u2 I_30 105 51 (0 : Int32)) (fun I_50 => (if 0 ≤ i1 then (some (i1, I_50, L)) else (if 0 ≤ (-i1) ∧ (Int32.toNatClampNeg (-i1)) < 7 then (if 0 ≤ (-i1) ∧ (Int32.toNatClampNeg (-i1)) < 7 then (stI (u2 I_50 106 (Int32.toNatClampNeg (-i1)) ((I_50 106 (Int32.toNatClampNeg (-i1))) + (1 : Int32))) (fun I_67 => (some (i1, I_67, L)))) else none) else none)))) else (stI (u2 I_30 105 51 (1 : Int32)) (fun I_50 => (if 0 ≤ i1 then (some (i1, I_50, L)) else (if 0 ≤ (-i1) ∧ (Int32.toNatClampNeg (-i1)) < 7 then (if 0 ≤ (-i1) ∧ (Int32.toNatClampNeg (-i1)) < 7 then (stI (u2 I_50 106 (Int32.toNatClampNeg (-i1)) ((I_50 106 (Int32.toNatClampNeg (-i1))) + (1 : Int32))) (fun I_67 => (some (i1, I_67, L)))) else none) else none)))))))) else (stI (u2 I_10 105 32 (1 : Int32)) (fun I_30 => (if (I_30 105 51) = 0 then (stI (u2 I_30 105 51 (0 : Int32)) (fun I_50 => (if 0 ≤ i1 then (some (i1, I_50, L)) else (if 0 ≤ (-i1) ∧ (Int32.toNatClampNeg (-i1)) < 7 then (if 0 ≤ (-i1) ∧ (Int32.toNatClampNeg (-i1)) < 7 then (stI (u2 I_50 106 (Int32.toNatClampNeg (-i1)) ((I_50 106 (Int32.toNatClampNeg (-i1))) + (1 : Int32))) (fun I_67 => (some (i1, I_67, L)))) else none) else none)))) else (if 0 ≤ i1 then (stI (u2 I_30 105 51 (0 : Int32)) (fun I_50 => (if 0 ≤ i1 then (some (i1, I_50, L)) else (if 0 ≤ (-i1) ∧ (Int32.toNatClampNeg (-i1)) < 7 then (if 0 ≤ (-i1) ∧ (Int32.toNatClampNeg (-i1)) < 7 then (stI (u2 I_50 106 (Int32.toNatClampNeg (-i1)) ((I_50 106 (Int32.toNatClampNeg (-i1))) + (1 : Int32))) (fun I_67 => (some (i1, I_67, L)))) else none) else none)))) else (stI (u2 I_30 105 51 (1 : Int32)) (fun I_50 => (if 0 ≤ i1 then (some (i1, I_50, L)) else (if 0 ≤ (-i1) ∧ (Int32.toNatClampNeg (-i1)) < 7 then (if 0 ≤ (-i1) ∧ (Int32.toNatClampNeg (-i1)) < 7 then (stI (u2 I_50 106 (Int32.toNatClampNeg (-i1)) ((I_50 106 (Int32.toNatClampNeg (-i1))) + (1 : Int32))) (fun I_67 => (some (i1, I_67, L)))) else none) else none)))))))))))) else (stI (u2 I 105 1 i1) (fun I_10 => (if (I_10 105 32) = 0 then (stI (u2 I_10 105 32 (0 : Int32)) (fun I_30 => (if (I_30 105 51) = 0 then (stI (u2 I_30 105 51 (0 : Int32)) (fun I_50 => (if 0 ≤ i1 then (some (i1, I_50, L)) else (if 0 ≤ (-i1) ∧ (Int32.toNatClampNeg (-i1)) < 7 then (if 0 ≤ (-i1) ∧ (Int32.toNatClampNeg (-i1)) < 7 then (stI (u2 I_50 106 (Int32.toNatClampNeg (-i1)) ((I_50 106 (Int32.toNatClampNeg (-i1))) + (1 : Int32))) (fun I_67 => (some (i1, I_67, L)))) else none) else none)))) else (if 0 ≤ i1 then (stI (u2 I_30 105 51 (0 : Int32)) (fun I_50 => (if 0 ≤ i1 then (some (i1, I_50, L)) else (if 0 ≤ (-i1) ∧ (Int32.toNatClampNeg (-i1)) < 7 then (if 0 ≤ (-i1) ∧ (Int32.toNatClampNeg (-i1)) < 7 then (stI (u2 I_50 106 (Int32.toNatClampNeg (-i1)) ((I_50 106 (Int32.toNatClampNeg (-i1))) + (1 : Int32))) (fun I_67 => (some (i1, I_67, L)))) else none) else none)))) else (stI (u2 I_30 105 51 (1 : Int32)) (fun I_50 => (if 0 ≤ i1 then (some (i1, I_50, L)) else (if 0 ≤ (-i1) ∧ (Int32.toNatClampNeg (-i1)) < 7 then (if 0 ≤ (-i1) ∧ (Int32.toNatClampNeg (-i1)) < 7 then (stI (u2 I_50 106 (Int32.toNatClampNeg (-i1)) ((I_50 106 (Int32.toNatClampNeg (-i1))) + (1 : Int32))) (fun I_67 => (some (i1, I_67, L)))) else none) else none)))))))) else (if 0 ≤ i1 then (stI (u2 I_10 105 32 (0 : Int32)) (fun I_30 => (if (I_30 105 51) = 0 then (stI (u2 I_30 105 51 (0 : Int32)) (fun I_50 => (if 0 ≤ i1 then (some (i1, I_50, L)) else (if 0 ≤ (-i1) ∧ (Int32.toNatClampNeg (-i1)) < 7 then (if 0 ≤ (-i1) ∧ (Int32.toNatClampNeg (-i1)) < 7 then (stI (u2 I_50 106 (Int32.toNatClampNeg (-i1)) ((I_50 106 (Int32.toNatClampNeg (-i1))) + (1 : Int32))) (fun I_67 => (some (i1, I_67, L)))) else none) else none)))) else (if 0 ≤ i1 then (stI (u2 I_30 105 51 (0 : Int32)) (fun I_50 => (if 0 ≤ i1 then (some (i1, I_50, L)) else (if 0 ≤ (-i1) ∧ (Int32.toNatClampNeg (-i1)) < 7 then (if 0 ≤ (-i1) ∧ (Int32.toNatClampNeg (-i1)) < 7 then (stI (u2 I_50 106 (Int32.toNatClampNeg (-i1)) ((I_50 106 (Int32.toNatClampNeg (-i1))) + (1 : Int32))) (fun I_67 => (some (i1, I_67, L)))) else none) else none)))) else (stI (u2 I_30 105 51 (1 : Int32)) (fun I_50 => (if 0 ≤ i1 then (some (i1, I_50, L)) else (if 0 ≤ (-i1) ∧ (Int32.toNatClampNeg (-i1)) < 7 then (if 0 ≤ (-i1) ∧ (Int32.toNatClampNeg (-i1)) < 7 then (stI (u2 I_50 106 (Int32.toNatClampNeg (-i1)) ((I_50 106 (Int32.toNatClampNeg (-i1))) + (1 : Int32))) (fun I_67 => (some (i1, I_67, L)))) else none) else none)))))))) else (stI (u2 I_10 105 32 (1 : Int32)) (fun I_30 => (if (I_30 105 51) = 0 then (stI (u2 I_30 105 51 (0 : Int32)) (fun I_50 => (if 0 ≤ i1 then (some (i1, I_50, L)) else (if 0 ≤ (-i1) ∧ (Int32.toNatClampNeg (-i1)) < 7 then (if 0 ≤ (-i1) ∧ (Int32.toNatClampNeg (-i1)) < 7 then (stI (u2 I_50 106 (Int32.toNatClampNeg (-i1)) ((I_50 106 (Int32.toNatClampNeg (-i1))) + (1 : Int32))) (fun I_67 => (some (i1, I_67, L)))) else none) else none)))) else (if 0 ≤ i1 then (stI (u2 I_30 105 51 (0 : Int32)) (fun I_50 => (if 0 ≤ i1 then (some (i1, I_50, L)) else (if 0 ≤ (-i1) ∧ (Int32.toNatClampNeg (-i1)) < 7 then (if 0 ≤ (-i1) ∧ (Int32.toNatClampNeg (-i1)) < 7 then (stI (u2 I_50 106 (Int32.toNatClampNeg (-i1)) ((I_50 106 (Int32.toNatClampNeg (-i1))) + (1 : Int32))) (fun I_67 => (some (i1, I_67, L)))) else none) else none)))) else (stI (u2 I_30 105 51 (1 : Int32)) (fun I_50 => (if 0 ≤ i1 then (some (i1, I_50, L)) else (if 0 ≤ (-i1) ∧ (Int32.toNatClampNeg (-i1)) < 7 then (if 0 ≤ (-i1) ∧ (Int32.toNatClampNeg (-i1)) < 7 then (stI (u2 I_50 106 (Int32.toNatClampNeg (-i1)) ((I_50 106 (Int32.toNatClampNeg (-i1))) + (1 : Int32))) (fun I_67 => (some (i1, I_67, L)))) else none) else none)))))))))))))
    else none
set_option maxRecDepth 100000 in
theorem e_194_0 (n dp : Nat) (e : EN) (I : (Nat → Nat → Int32)) (L : (Nat → Nat → Int64)) (i1 : Int32) : g_194 (n + 1) dp e 0 I L i1 = (if 0 ≤ i1 then (stI (u2 I 105 1 (0 : Int32)) (fun I_10 => (if (I_10 105 32) = 0 then (stI (u2 I_10 105 32 (0 : Int32)) (fun I_30 => (if (I_30 105 51) = 0 then (stI (u2 I_30 105 51 (0 : Int32)) (fun I_50 => (if 0 ≤ i1 then (some (i1, I_50, L)) else (if 0 ≤ (-i1) ∧ (Int32.toNatClampNeg (-i1)) < 7 then (if 0 ≤ (-i1) ∧ (Int32.toNatClampNeg (-i1)) < 7 then (stI (u2 I_50 106 (Int32.toNatClampNeg (-i1)) ((I_50 106 (Int32.toNatClampNeg (-i1))) + (1 : Int32))) (fun I_67 => (some (i1, I_67, L)))) else none) else none)))) else (if 0 ≤ i1 then (stI (u2 I_30 105 51 (0 : Int32)) (fun I_50 => (if 0 ≤ i1 then (some (i1, I_50, L)) else (if 0 ≤ (-i1) ∧ (Int32.toNatClampNeg (-i1)) < 7 then (if 0 ≤ (-i1) ∧ (Int32.toNatClampNeg (-i1)) < 7 then (stI (u2 I_50 106 (Int32.toNatClampNeg (-i1)) ((I_50 106 (Int32.toNatClampNeg (-i1))) + (1 : Int32))) (fun I_67 => (some (i1, I_67, L)))) else none) else none)))) else (stI (u2 I_30 105 51 (1 : Int32)) (fun I_50 => (if 0 ≤ i1 then (some (i1, I_50, L)) else (if 0 ≤ (-i1) ∧ (Int32.toNatClampNeg (-i1)) < 7 then (if 0 ≤ (-i1) ∧ (Int32.toNatClampNeg (-i1)) < 7 then (stI (u2 I_50 106 (Int32.toNatClampNeg (-i1)) ((I_50 106 (Int32.toNatClampNeg (-i1))) + (1 : Int32))) (fun I_67 => (some (i1, I_67, L)))) else none) else none)))))))) else (if 0 ≤ i1 then (stI (u2 I_10 105 32 (0 : Int32)) (fun I_30 => (if (I_30 105 51) = 0 then (stI (u2 I_30 105 51 (0 : Int32)) (fun I_50 => (if 0 ≤ i1 then (some (i1, I_50, L)) else (if 0 ≤ (-i1) ∧ (Int32.toNatClampNeg (-i1)) < 7 then (if 0 ≤ (-i1) ∧ (Int32.toNatClampNeg (-i1)) < 7 then (stI (u2 I_50 106 (Int32.toNatClampNeg (-i1)) ((I_50 106 (Int32.toNatClampNeg (-i1))) + (1 : Int32))) (fun I_67 => (some (i1, I_67, L)))) else none) else none)))) else (if 0 ≤ i1 then (stI (u2 I_30 105 51 (0 : Int32)) (fun I_50 => (if 0 ≤ i1 then (some (i1, I_50, L)) else (if 0 ≤ (-i1) ∧ (Int32.toNatClampNeg (-i1)) < 7 then (if 0 ≤ (-i1) ∧ (Int32.toNatClampNeg (-i1)) < 7 then (stI (u2 I_50 106 (Int32.toNatClampNeg (-i1)) ((I_50 106 (Int32.toNatClampNeg (-i1))) + (1 : Int32))) (fun I_67 => (some (i1, I_67, L)))) else none) else none)))) else (stI (u2 I_30 105 51 (1 : Int32)) (fun I_50 => (if 0 ≤ i1 then (some (i1, I_50, L)) else (if 0 ≤ (-i1) ∧ (Int32.toNatClampNeg (-i1)) < 7 then (if 0 ≤ (-i1) ∧ (Int32.toNatClampNeg (-i1)) < 7 then (stI (u2 I_50 106 (Int32.toNatClampNeg (-i1)) ((I_50 106 (Int32.toNatClampNeg (-i1))) + (1 : Int32))) (fun I_67 => (some (i1, I_67, L)))) else none) else none)))))))) else (stI (u2 I_10 105 32 (1 : Int32)) (fun I_30 => (if (I_30 105 51) = 0 then (stI (u2 I_30 105 51 (0 : Int32)) (fun I_50 => (if 0 ≤ i1 then (some (i1, I_50, L)) else (if 0 ≤ (-i1) ∧ (Int32.toNatClampNeg (-i1)) < 7 then (if 0 ≤ (-i1) ∧ (Int32.toNatClampNeg (-i1)) < 7 then (stI (u2 I_50 106 (Int32.toNatClampNeg (-i1)) ((I_50 106 (Int32.toNatClampNeg (-i1))) + (1 : Int32))) (fun I_67 => (some (i1, I_67, L)))) else none) else none)))) else (if 0 ≤ i1 then (stI (u2 I_30 105 51 (0 : Int32)) (fun I_50 => (if 0 ≤ i1 then (some (i1, I_50, L)) else (if 0 ≤ (-i1) ∧ (Int32.toNatClampNeg (-i1)) < 7 then (if 0 ≤ (-i1) ∧ (Int32.toNatClampNeg (-i1)) < 7 then (stI (u2 I_50 106 (Int32.toNatClampNeg (-i1)) ((I_50 106 (Int32.toNatClampNeg (-i1))) + (1 : Int32))) (fun I_67 => (some (i1, I_67, L)))) else none) else none)))) else (stI (u2 I_30 105 51 (1 : Int32)) (fun I_50 => (if 0 ≤ i1 then (some (i1, I_50, L)) else (if 0 ≤ (-i1) ∧ (Int32.toNatClampNeg (-i1)) < 7 then (if 0 ≤ (-i1) ∧ (Int32.toNatClampNeg (-i1)) < 7 then (stI (u2 I_50 106 (Int32.toNatClampNeg (-i1)) ((I_50 106 (Int32.toNatClampNeg (-i1))) + (1 : Int32))) (fun I_67 => (some (i1, I_67, L)))) else none) else none)))))))))))) else (stI (u2 I 105 1 i1) (fun I_10 => (if (I_10 105 32) = 0 then (stI (u2 I_10 105 32 (0 : Int32)) (fun I_30 => (if (I_30 105 51) = 0 then (stI (u2 I_30 105 51 (0 : Int32)) (fun I_50 => (if 0 ≤ i1 then (some (i1, I_50, L)) else (if 0 ≤ (-i1) ∧ (Int32.toNatClampNeg (-i1)) < 7 then (if 0 ≤ (-i1) ∧ (Int32.toNatClampNeg (-i1)) < 7 then (stI (u2 I_50 106 (Int32.toNatClampNeg (-i1)) ((I_50 106 (Int32.toNatClampNeg (-i1))) + (1 : Int32))) (fun I_67 => (some (i1, I_67, L)))) else none) else none)))) else (if 0 ≤ i1 then (stI (u2 I_30 105 51 (0 : Int32)) (fun I_50 => (if 0 ≤ i1 then (some (i1, I_50, L)) else (if 0 ≤ (-i1) ∧ (Int32.toNatClampNeg (-i1)) < 7 then (if 0 ≤ (-i1) ∧ (Int32.toNatClampNeg (-i1)) < 7 then (stI (u2 I_50 106 (Int32.toNatClampNeg (-i1)) ((I_50 106 (Int32.toNatClampNeg (-i1))) + (1 : Int32))) (fun I_67 => (some (i1, I_67, L)))) else none) else none)))) else (stI (u2 I_30 105 51 (1 : Int32)) (fun I_50 => (if 0 ≤ i1 then (some (i1, I_50, L)) else (if 0 ≤ (-i1) ∧ (Int32.toNatClampNeg (-i1)) < 7 then (if 0 ≤ (-i1) ∧ (Int32.toNatClampNeg (-i1)) < 7 then (stI (u2 I_50 106 (Int32.toNatClampNeg (-i1)) ((I_50 106 (Int32.toNatClampNeg (-i1))) + (1 : Int32))) (fun I_67 => (some (i1, I_67, L)))) else none) else none)))))))) else (if 0 ≤ i1 then (stI (u2 I_10 105 32 (0 : Int32)) (fun I_30 => (if (I_30 105 51) = 0 then (stI (u2 I_30 105 51 (0 : Int32)) (fun I_50 => (if 0 ≤ i1 then (some (i1, I_50, L)) else (if 0 ≤ (-i1) ∧ (Int32.toNatClampNeg (-i1)) < 7 then (if 0 ≤ (-i1) ∧ (Int32.toNatClampNeg (-i1)) < 7 then (stI (u2 I_50 106 (Int32.toNatClampNeg (-i1)) ((I_50 106 (Int32.toNatClampNeg (-i1))) + (1 : Int32))) (fun I_67 => (some (i1, I_67, L)))) else none) else none)))) else (if 0 ≤ i1 then (stI (u2 I_30 105 51 (0 : Int32)) (fun I_50 => (if 0 ≤ i1 then (some (i1, I_50, L)) else (if 0 ≤ (-i1) ∧ (Int32.toNatClampNeg (-i1)) < 7 then (if 0 ≤ (-i1) ∧ (Int32.toNatClampNeg (-i1)) < 7 then (stI (u2 I_50 106 (Int32.toNatClampNeg (-i1)) ((I_50 106 (Int32.toNatClampNeg (-i1))) + (1 : Int32))) (fun I_67 => (some (i1, I_67, L)))) else none) else none)))) else (stI (u2 I_30 105 51 (1 : Int32)) (fun I_50 => (if 0 ≤ i1 then (some (i1, I_50, L)) else (if 0 ≤ (-i1) ∧ (Int32.toNatClampNeg (-i1)) < 7 then (if 0 ≤ (-i1) ∧ (Int32.toNatClampNeg (-i1)) < 7 then (stI (u2 I_50 106 (Int32.toNatClampNeg (-i1)) ((I_50 106 (Int32.toNatClampNeg (-i1))) + (1 : Int32))) (fun I_67 => (some (i1, I_67, L)))) else none) else none)))))))) else (stI (u2 I_10 105 32 (1 : Int32)) (fun I_30 => (if (I_30 105 51) = 0 then (stI (u2 I_30 105 51 (0 : Int32)) (fun I_50 => (if 0 ≤ i1 then (some (i1, I_50, L)) else (if 0 ≤ (-i1) ∧ (Int32.toNatClampNeg (-i1)) < 7 then (if 0 ≤ (-i1) ∧ (Int32.toNatClampNeg (-i1)) < 7 then (stI (u2 I_50 106 (Int32.toNatClampNeg (-i1)) ((I_50 106 (Int32.toNatClampNeg (-i1))) + (1 : Int32))) (fun I_67 => (some (i1, I_67, L)))) else none) else none)))) else (if 0 ≤ i1 then (stI (u2 I_30 105 51 (0 : Int32)) (fun I_50 => (if 0 ≤ i1 then (some (i1, I_50, L)) else (if 0 ≤ (-i1) ∧ (Int32.toNatClampNeg (-i1)) < 7 then (if 0 ≤ (-i1) ∧ (Int32.toNatClampNeg (-i1)) < 7 then (stI (u2 I_50 106 (Int32.toNatClampNeg (-i1)) ((I_50 106 (Int32.toNatClampNeg (-i1))) + (1 : Int32))) (fun I_67 => (some (i1, I_67, L)))) else none) else none)))) else (stI (u2 I_30 105 51 (1 : Int32)) (fun I_50 => (if 0 ≤ i1 then (some (i1, I_50, L)) else (if 0 ≤ (-i1) ∧ (Int32.toNatClampNeg (-i1)) < 7 then (if 0 ≤ (-i1) ∧ (Int32.toNatClampNeg (-i1)) < 7 then (stI (u2 I_50 106 (Int32.toNatClampNeg (-i1)) ((I_50 106 (Int32.toNatClampNeg (-i1))) + (1 : Int32))) (fun I_67 => (some (i1, I_67, L)))) else none) else none))))))))))))) := by rw [g_194.eq_2, if_pos (show (0 : Nat) = 0 from rfl)]
set_option maxHeartbeats 8000000 in
set_option maxRecDepth 100000 in
theorem w_194 (X : GX) {z : Nat} {kd : Nat → Nat × Nat} {Rf : Nat → Nat → Option Nat} (hS : Sh z kd Rf) : ∀ (n dp d : Nat), dp ≤ d → ∀ (I : (Nat → Nat → Int32)) (L : (Nat → Nat → Int64)) (i1 : Int32) (r : Int32) (I1 : (Nat → Nat → Int32)) (L1 : (Nat → Nat → Int64)), (g_194 n dp (z, kd, Rf) 0 I L i1 = some (r, I1, L1) → K X d 194 0 0 (AI (fun x τ => x = r ∧ τ = (z, kd, I1, L1, Rf))) 0 [some (.ref 105), some (.int i1)] [] (z, kd, I, L, Rf) 0 0) := by
  intro n
  induction n with
  | zero => intro dp d hdp I L i1 r I1 L1; exact fun h => by cases h
  | succ n ih =>
    intro dp d hdp I L i1 r I1 L1
    · intro h
      rw [e_194_0] at h
      refine K_of b_194_0 h_194_0 ?_
      refine q_aload rfl ?_
      refine q_iload rfl ?_
      refine q_if_ge (fun c_2 => ?_) (fun c_2 => ?_)
      · rw [if_pos c_2] at h
        refine K_of b_194_9 h_194_9 ?_
        refine q_iconst (0) (by decide) ?_
        refine q_end ?_
        refine K_of b_194_10 h_194_10 ?_
        refine q_putI (c0 := 12) (j := 1) rfl rfl (zl hS 105 (by decide)) (sk hS 105 (by decide) rfl) rfl ?_
        obtain ⟨I_10, nI_10, h⟩ := stI_some h
        refine q_nI nI_10 ?_
        refine q_aload rfl ?_
        refine q_aload rfl ?_
        refine q_getI (c0 := 12) (j := 32) rfl rfl (zl hS 105 (by decide)) (sk hS 105 (by decide) rfl) (Or.inr rfl) (by decide) ?_
        refine q_if_eq (fun c_18 => ?_) (fun c_18 => ?_)
        · rw [if_pos c_18] at h
          refine K_of b_194_29 h_194_29 ?_
          refine q_iconst (0) (by decide) ?_
          refine q_end ?_
          refine K_of b_194_30 h_194_30 ?_
          refine q_putZ (c0 := 12) (j := 32) rfl rfl (zl hS 105 (by decide)) (sk hS 105 (by decide) rfl) rfl (Or.inl rfl) ?_
          obtain ⟨I_30, nI_30, h⟩ := stI_some h
          refine q_nI nI_30 ?_
          refine q_aload rfl ?_
          refine q_aload rfl ?_
          refine q_getI (c0 := 12) (j := 51) rfl rfl (zl hS 105 (by decide)) (sk hS 105 (by decide) rfl) (Or.inr rfl) (by decide) ?_
          refine q_if_eq (fun c_38 => ?_) (fun c_38 => ?_)
          · rw [if_pos c_38] at h
            refine K_of b_194_49 h_194_49 ?_
            refine q_iconst (0) (by decide) ?_
            refine q_end ?_
            refine K_of b_194_50 h_194_50 ?_
            refine q_putZ (c0 := 12) (j := 51) rfl rfl (zl hS 105 (by decide)) (sk hS 105 (by decide) rfl) rfl (Or.inl rfl) ?_
            obtain ⟨I_50, nI_50, h⟩ := stI_some h
            refine q_nI nI_50 ?_
            refine q_iload rfl ?_
            refine q_if_ge (fun c_54 => ?_) (fun c_54 => ?_)
            · rw [if_pos c_54] at h
              refine K_of b_194_68 h_194_68 ?_
              refine q_iload rfl ?_
              cases h
              exact q_iret rfl (Nat.le_refl _) (Nat.le_refl _) ⟨rfl, rfl⟩
            · rw [if_neg c_54] at h
              refine q_aload rfl ?_
              refine q_getRs (c0 := 12) (j := 2) rfl rfl (zl hS 105 (by decide)) (sk hS 105 (by decide) rfl) rfl (by decide) (r_105_2 hS) ?_
              refine q_iload rfl ?_
              refine q_ineg ?_
              refine q_dup2 rfl rfl ?_
              obtain ⟨⟨u_64, v_64⟩, h⟩ := ite_some h
              refine q_ialN (Int32.toNatClampNeg (-i1)) (nx u_64) (zl hS 106 (by decide)) (sk hS 106 (by decide) rfl) v_64 (by decide) ?_
              refine q_iconst (1) (by decide) ?_
              refine q_iadd ?_
              obtain ⟨⟨u_67, v_67⟩, h⟩ := ite_some h
              refine q_iasN (Int32.toNatClampNeg (-i1)) (nx u_67) (zl hS 106 (by decide)) (sk hS 106 (by decide) rfl) v_67 (by decide) ?_
              obtain ⟨I_67, nI_67, h⟩ := stI_some h
              refine q_nI nI_67 ?_
              refine q_end ?_
              refine K_of b_194_68 h_194_68 ?_
              refine q_iload rfl ?_
              cases h
              exact q_iret rfl (Nat.le_refl _) (Nat.le_refl _) ⟨rfl, rfl⟩
          · rw [if_neg c_38] at h
            refine q_iload rfl ?_
            refine q_if_ge (fun c_42 => ?_) (fun c_42 => ?_)
            · rw [if_pos c_42] at h
              refine K_of b_194_49 h_194_49 ?_
              refine q_iconst (0) (by decide) ?_
              refine q_end ?_
              refine K_of b_194_50 h_194_50 ?_
              refine q_putZ (c0 := 12) (j := 51) rfl rfl (zl hS 105 (by decide)) (sk hS 105 (by decide) rfl) rfl (Or.inl rfl) ?_
              obtain ⟨I_50, nI_50, h⟩ := stI_some h
              refine q_nI nI_50 ?_
              refine q_iload rfl ?_
              refine q_if_ge (fun c_54 => ?_) (fun c_54 => ?_)
              · rw [if_pos c_54] at h
                refine K_of b_194_68 h_194_68 ?_
                refine q_iload rfl ?_
                cases h
                exact q_iret rfl (Nat.le_refl _) (Nat.le_refl _) ⟨rfl, rfl⟩
              · rw [if_neg c_54] at h
                refine q_aload rfl ?_
                refine q_getRs (c0 := 12) (j := 2) rfl rfl (zl hS 105 (by decide)) (sk hS 105 (by decide) rfl) rfl (by decide) (r_105_2 hS) ?_
                refine q_iload rfl ?_
                refine q_ineg ?_
                refine q_dup2 rfl rfl ?_
                obtain ⟨⟨u_64, v_64⟩, h⟩ := ite_some h
                refine q_ialN (Int32.toNatClampNeg (-i1)) (nx u_64) (zl hS 106 (by decide)) (sk hS 106 (by decide) rfl) v_64 (by decide) ?_
                refine q_iconst (1) (by decide) ?_
                refine q_iadd ?_
                obtain ⟨⟨u_67, v_67⟩, h⟩ := ite_some h
                refine q_iasN (Int32.toNatClampNeg (-i1)) (nx u_67) (zl hS 106 (by decide)) (sk hS 106 (by decide) rfl) v_67 (by decide) ?_
                obtain ⟨I_67, nI_67, h⟩ := stI_some h
                refine q_nI nI_67 ?_
                refine q_end ?_
                refine K_of b_194_68 h_194_68 ?_
                refine q_iload rfl ?_
                cases h
                exact q_iret rfl (Nat.le_refl _) (Nat.le_refl _) ⟨rfl, rfl⟩
            · rw [if_neg c_42] at h
              refine q_iconst (1) (by decide) ?_
              refine q_goto ?_
              refine K_of b_194_50 h_194_50 ?_
              refine q_putZ (c0 := 12) (j := 51) rfl rfl (zl hS 105 (by decide)) (sk hS 105 (by decide) rfl) rfl (Or.inr rfl) ?_
              obtain ⟨I_50, nI_50, h⟩ := stI_some h
              refine q_nI nI_50 ?_
              refine q_iload rfl ?_
              refine q_if_ge (fun c_54 => ?_) (fun c_54 => ?_)
              · rw [if_pos c_54] at h
                refine K_of b_194_68 h_194_68 ?_
                refine q_iload rfl ?_
                cases h
                exact q_iret rfl (Nat.le_refl _) (Nat.le_refl _) ⟨rfl, rfl⟩
              · rw [if_neg c_54] at h
                refine q_aload rfl ?_
                refine q_getRs (c0 := 12) (j := 2) rfl rfl (zl hS 105 (by decide)) (sk hS 105 (by decide) rfl) rfl (by decide) (r_105_2 hS) ?_
                refine q_iload rfl ?_
                refine q_ineg ?_
                refine q_dup2 rfl rfl ?_
                obtain ⟨⟨u_64, v_64⟩, h⟩ := ite_some h
                refine q_ialN (Int32.toNatClampNeg (-i1)) (nx u_64) (zl hS 106 (by decide)) (sk hS 106 (by decide) rfl) v_64 (by decide) ?_
                refine q_iconst (1) (by decide) ?_
                refine q_iadd ?_
                obtain ⟨⟨u_67, v_67⟩, h⟩ := ite_some h
                refine q_iasN (Int32.toNatClampNeg (-i1)) (nx u_67) (zl hS 106 (by decide)) (sk hS 106 (by decide) rfl) v_67 (by decide) ?_
                obtain ⟨I_67, nI_67, h⟩ := stI_some h
                refine q_nI nI_67 ?_
                refine q_end ?_
                refine K_of b_194_68 h_194_68 ?_
                refine q_iload rfl ?_
                cases h
                exact q_iret rfl (Nat.le_refl _) (Nat.le_refl _) ⟨rfl, rfl⟩
        · rw [if_neg c_18] at h
          refine q_iload rfl ?_
          refine q_if_ge (fun c_22 => ?_) (fun c_22 => ?_)
          · rw [if_pos c_22] at h
            refine K_of b_194_29 h_194_29 ?_
            refine q_iconst (0) (by decide) ?_
            refine q_end ?_
            refine K_of b_194_30 h_194_30 ?_
            refine q_putZ (c0 := 12) (j := 32) rfl rfl (zl hS 105 (by decide)) (sk hS 105 (by decide) rfl) rfl (Or.inl rfl) ?_
            obtain ⟨I_30, nI_30, h⟩ := stI_some h
            refine q_nI nI_30 ?_
            refine q_aload rfl ?_
            refine q_aload rfl ?_
            refine q_getI (c0 := 12) (j := 51) rfl rfl (zl hS 105 (by decide)) (sk hS 105 (by decide) rfl) (Or.inr rfl) (by decide) ?_
            refine q_if_eq (fun c_38 => ?_) (fun c_38 => ?_)
            · rw [if_pos c_38] at h
              refine K_of b_194_49 h_194_49 ?_
              refine q_iconst (0) (by decide) ?_
              refine q_end ?_
              refine K_of b_194_50 h_194_50 ?_
              refine q_putZ (c0 := 12) (j := 51) rfl rfl (zl hS 105 (by decide)) (sk hS 105 (by decide) rfl) rfl (Or.inl rfl) ?_
              obtain ⟨I_50, nI_50, h⟩ := stI_some h
              refine q_nI nI_50 ?_
              refine q_iload rfl ?_
              refine q_if_ge (fun c_54 => ?_) (fun c_54 => ?_)
              · rw [if_pos c_54] at h
                refine K_of b_194_68 h_194_68 ?_
                refine q_iload rfl ?_
                cases h
                exact q_iret rfl (Nat.le_refl _) (Nat.le_refl _) ⟨rfl, rfl⟩
              · rw [if_neg c_54] at h
                refine q_aload rfl ?_
                refine q_getRs (c0 := 12) (j := 2) rfl rfl (zl hS 105 (by decide)) (sk hS 105 (by decide) rfl) rfl (by decide) (r_105_2 hS) ?_
                refine q_iload rfl ?_
                refine q_ineg ?_
                refine q_dup2 rfl rfl ?_
                obtain ⟨⟨u_64, v_64⟩, h⟩ := ite_some h
                refine q_ialN (Int32.toNatClampNeg (-i1)) (nx u_64) (zl hS 106 (by decide)) (sk hS 106 (by decide) rfl) v_64 (by decide) ?_
                refine q_iconst (1) (by decide) ?_
                refine q_iadd ?_
                obtain ⟨⟨u_67, v_67⟩, h⟩ := ite_some h
                refine q_iasN (Int32.toNatClampNeg (-i1)) (nx u_67) (zl hS 106 (by decide)) (sk hS 106 (by decide) rfl) v_67 (by decide) ?_
                obtain ⟨I_67, nI_67, h⟩ := stI_some h
                refine q_nI nI_67 ?_
                refine q_end ?_
                refine K_of b_194_68 h_194_68 ?_
                refine q_iload rfl ?_
                cases h
                exact q_iret rfl (Nat.le_refl _) (Nat.le_refl _) ⟨rfl, rfl⟩
            · rw [if_neg c_38] at h
              refine q_iload rfl ?_
              refine q_if_ge (fun c_42 => ?_) (fun c_42 => ?_)
              · rw [if_pos c_42] at h
                refine K_of b_194_49 h_194_49 ?_
                refine q_iconst (0) (by decide) ?_
                refine q_end ?_
                refine K_of b_194_50 h_194_50 ?_
                refine q_putZ (c0 := 12) (j := 51) rfl rfl (zl hS 105 (by decide)) (sk hS 105 (by decide) rfl) rfl (Or.inl rfl) ?_
                obtain ⟨I_50, nI_50, h⟩ := stI_some h
                refine q_nI nI_50 ?_
                refine q_iload rfl ?_
                refine q_if_ge (fun c_54 => ?_) (fun c_54 => ?_)
                · rw [if_pos c_54] at h
                  refine K_of b_194_68 h_194_68 ?_
                  refine q_iload rfl ?_
                  cases h
                  exact q_iret rfl (Nat.le_refl _) (Nat.le_refl _) ⟨rfl, rfl⟩
                · rw [if_neg c_54] at h
                  refine q_aload rfl ?_
                  refine q_getRs (c0 := 12) (j := 2) rfl rfl (zl hS 105 (by decide)) (sk hS 105 (by decide) rfl) rfl (by decide) (r_105_2 hS) ?_
                  refine q_iload rfl ?_
                  refine q_ineg ?_
                  refine q_dup2 rfl rfl ?_
                  obtain ⟨⟨u_64, v_64⟩, h⟩ := ite_some h
                  refine q_ialN (Int32.toNatClampNeg (-i1)) (nx u_64) (zl hS 106 (by decide)) (sk hS 106 (by decide) rfl) v_64 (by decide) ?_
                  refine q_iconst (1) (by decide) ?_
                  refine q_iadd ?_
                  obtain ⟨⟨u_67, v_67⟩, h⟩ := ite_some h
                  refine q_iasN (Int32.toNatClampNeg (-i1)) (nx u_67) (zl hS 106 (by decide)) (sk hS 106 (by decide) rfl) v_67 (by decide) ?_
                  obtain ⟨I_67, nI_67, h⟩ := stI_some h
                  refine q_nI nI_67 ?_
                  refine q_end ?_
                  refine K_of b_194_68 h_194_68 ?_
                  refine q_iload rfl ?_
                  cases h
                  exact q_iret rfl (Nat.le_refl _) (Nat.le_refl _) ⟨rfl, rfl⟩
              · rw [if_neg c_42] at h
                refine q_iconst (1) (by decide) ?_
                refine q_goto ?_
                refine K_of b_194_50 h_194_50 ?_
                refine q_putZ (c0 := 12) (j := 51) rfl rfl (zl hS 105 (by decide)) (sk hS 105 (by decide) rfl) rfl (Or.inr rfl) ?_
                obtain ⟨I_50, nI_50, h⟩ := stI_some h
                refine q_nI nI_50 ?_
                refine q_iload rfl ?_
                refine q_if_ge (fun c_54 => ?_) (fun c_54 => ?_)
                · rw [if_pos c_54] at h
                  refine K_of b_194_68 h_194_68 ?_
                  refine q_iload rfl ?_
                  cases h
                  exact q_iret rfl (Nat.le_refl _) (Nat.le_refl _) ⟨rfl, rfl⟩
                · rw [if_neg c_54] at h
                  refine q_aload rfl ?_
                  refine q_getRs (c0 := 12) (j := 2) rfl rfl (zl hS 105 (by decide)) (sk hS 105 (by decide) rfl) rfl (by decide) (r_105_2 hS) ?_
                  refine q_iload rfl ?_
                  refine q_ineg ?_
                  refine q_dup2 rfl rfl ?_
                  obtain ⟨⟨u_64, v_64⟩, h⟩ := ite_some h
                  refine q_ialN (Int32.toNatClampNeg (-i1)) (nx u_64) (zl hS 106 (by decide)) (sk hS 106 (by decide) rfl) v_64 (by decide) ?_
                  refine q_iconst (1) (by decide) ?_
                  refine q_iadd ?_
                  obtain ⟨⟨u_67, v_67⟩, h⟩ := ite_some h
                  refine q_iasN (Int32.toNatClampNeg (-i1)) (nx u_67) (zl hS 106 (by decide)) (sk hS 106 (by decide) rfl) v_67 (by decide) ?_
                  obtain ⟨I_67, nI_67, h⟩ := stI_some h
                  refine q_nI nI_67 ?_
                  refine q_end ?_
                  refine K_of b_194_68 h_194_68 ?_
                  refine q_iload rfl ?_
                  cases h
                  exact q_iret rfl (Nat.le_refl _) (Nat.le_refl _) ⟨rfl, rfl⟩
          · rw [if_neg c_22] at h
            refine q_iconst (1) (by decide) ?_
            refine q_goto ?_
            refine K_of b_194_30 h_194_30 ?_
            refine q_putZ (c0 := 12) (j := 32) rfl rfl (zl hS 105 (by decide)) (sk hS 105 (by decide) rfl) rfl (Or.inr rfl) ?_
            obtain ⟨I_30, nI_30, h⟩ := stI_some h
            refine q_nI nI_30 ?_
            refine q_aload rfl ?_
            refine q_aload rfl ?_
            refine q_getI (c0 := 12) (j := 51) rfl rfl (zl hS 105 (by decide)) (sk hS 105 (by decide) rfl) (Or.inr rfl) (by decide) ?_
            refine q_if_eq (fun c_38 => ?_) (fun c_38 => ?_)
            · rw [if_pos c_38] at h
              refine K_of b_194_49 h_194_49 ?_
              refine q_iconst (0) (by decide) ?_
              refine q_end ?_
              refine K_of b_194_50 h_194_50 ?_
              refine q_putZ (c0 := 12) (j := 51) rfl rfl (zl hS 105 (by decide)) (sk hS 105 (by decide) rfl) rfl (Or.inl rfl) ?_
              obtain ⟨I_50, nI_50, h⟩ := stI_some h
              refine q_nI nI_50 ?_
              refine q_iload rfl ?_
              refine q_if_ge (fun c_54 => ?_) (fun c_54 => ?_)
              · rw [if_pos c_54] at h
                refine K_of b_194_68 h_194_68 ?_
                refine q_iload rfl ?_
                cases h
                exact q_iret rfl (Nat.le_refl _) (Nat.le_refl _) ⟨rfl, rfl⟩
              · rw [if_neg c_54] at h
                refine q_aload rfl ?_
                refine q_getRs (c0 := 12) (j := 2) rfl rfl (zl hS 105 (by decide)) (sk hS 105 (by decide) rfl) rfl (by decide) (r_105_2 hS) ?_
                refine q_iload rfl ?_
                refine q_ineg ?_
                refine q_dup2 rfl rfl ?_
                obtain ⟨⟨u_64, v_64⟩, h⟩ := ite_some h
                refine q_ialN (Int32.toNatClampNeg (-i1)) (nx u_64) (zl hS 106 (by decide)) (sk hS 106 (by decide) rfl) v_64 (by decide) ?_
                refine q_iconst (1) (by decide) ?_
                refine q_iadd ?_
                obtain ⟨⟨u_67, v_67⟩, h⟩ := ite_some h
                refine q_iasN (Int32.toNatClampNeg (-i1)) (nx u_67) (zl hS 106 (by decide)) (sk hS 106 (by decide) rfl) v_67 (by decide) ?_
                obtain ⟨I_67, nI_67, h⟩ := stI_some h
                refine q_nI nI_67 ?_
                refine q_end ?_
                refine K_of b_194_68 h_194_68 ?_
                refine q_iload rfl ?_
                cases h
                exact q_iret rfl (Nat.le_refl _) (Nat.le_refl _) ⟨rfl, rfl⟩
            · rw [if_neg c_38] at h
              refine q_iload rfl ?_
              refine q_if_ge (fun c_42 => ?_) (fun c_42 => ?_)
              · rw [if_pos c_42] at h
                refine K_of b_194_49 h_194_49 ?_
                refine q_iconst (0) (by decide) ?_
                refine q_end ?_
                refine K_of b_194_50 h_194_50 ?_
                refine q_putZ (c0 := 12) (j := 51) rfl rfl (zl hS 105 (by decide)) (sk hS 105 (by decide) rfl) rfl (Or.inl rfl) ?_
                obtain ⟨I_50, nI_50, h⟩ := stI_some h
                refine q_nI nI_50 ?_
                refine q_iload rfl ?_
                refine q_if_ge (fun c_54 => ?_) (fun c_54 => ?_)
                · rw [if_pos c_54] at h
                  refine K_of b_194_68 h_194_68 ?_
                  refine q_iload rfl ?_
                  cases h
                  exact q_iret rfl (Nat.le_refl _) (Nat.le_refl _) ⟨rfl, rfl⟩
                · rw [if_neg c_54] at h
                  refine q_aload rfl ?_
                  refine q_getRs (c0 := 12) (j := 2) rfl rfl (zl hS 105 (by decide)) (sk hS 105 (by decide) rfl) rfl (by decide) (r_105_2 hS) ?_
                  refine q_iload rfl ?_
                  refine q_ineg ?_
                  refine q_dup2 rfl rfl ?_
                  obtain ⟨⟨u_64, v_64⟩, h⟩ := ite_some h
                  refine q_ialN (Int32.toNatClampNeg (-i1)) (nx u_64) (zl hS 106 (by decide)) (sk hS 106 (by decide) rfl) v_64 (by decide) ?_
                  refine q_iconst (1) (by decide) ?_
                  refine q_iadd ?_
                  obtain ⟨⟨u_67, v_67⟩, h⟩ := ite_some h
                  refine q_iasN (Int32.toNatClampNeg (-i1)) (nx u_67) (zl hS 106 (by decide)) (sk hS 106 (by decide) rfl) v_67 (by decide) ?_
                  obtain ⟨I_67, nI_67, h⟩ := stI_some h
                  refine q_nI nI_67 ?_
                  refine q_end ?_
                  refine K_of b_194_68 h_194_68 ?_
                  refine q_iload rfl ?_
                  cases h
                  exact q_iret rfl (Nat.le_refl _) (Nat.le_refl _) ⟨rfl, rfl⟩
              · rw [if_neg c_42] at h
                refine q_iconst (1) (by decide) ?_
                refine q_goto ?_
                refine K_of b_194_50 h_194_50 ?_
                refine q_putZ (c0 := 12) (j := 51) rfl rfl (zl hS 105 (by decide)) (sk hS 105 (by decide) rfl) rfl (Or.inr rfl) ?_
                obtain ⟨I_50, nI_50, h⟩ := stI_some h
                refine q_nI nI_50 ?_
                refine q_iload rfl ?_
                refine q_if_ge (fun c_54 => ?_) (fun c_54 => ?_)
                · rw [if_pos c_54] at h
                  refine K_of b_194_68 h_194_68 ?_
                  refine q_iload rfl ?_
                  cases h
                  exact q_iret rfl (Nat.le_refl _) (Nat.le_refl _) ⟨rfl, rfl⟩
                · rw [if_neg c_54] at h
                  refine q_aload rfl ?_
                  refine q_getRs (c0 := 12) (j := 2) rfl rfl (zl hS 105 (by decide)) (sk hS 105 (by decide) rfl) rfl (by decide) (r_105_2 hS) ?_
                  refine q_iload rfl ?_
                  refine q_ineg ?_
                  refine q_dup2 rfl rfl ?_
                  obtain ⟨⟨u_64, v_64⟩, h⟩ := ite_some h
                  refine q_ialN (Int32.toNatClampNeg (-i1)) (nx u_64) (zl hS 106 (by decide)) (sk hS 106 (by decide) rfl) v_64 (by decide) ?_
                  refine q_iconst (1) (by decide) ?_
                  refine q_iadd ?_
                  obtain ⟨⟨u_67, v_67⟩, h⟩ := ite_some h
                  refine q_iasN (Int32.toNatClampNeg (-i1)) (nx u_67) (zl hS 106 (by decide)) (sk hS 106 (by decide) rfl) v_67 (by decide) ?_
                  obtain ⟨I_67, nI_67, h⟩ := stI_some h
                  refine q_nI nI_67 ?_
                  refine q_end ?_
                  refine K_of b_194_68 h_194_68 ?_
                  refine q_iload rfl ?_
                  cases h
                  exact q_iret rfl (Nat.le_refl _) (Nat.le_refl _) ⟨rfl, rfl⟩
      · rw [if_neg c_2] at h
        refine q_iload rfl ?_
        refine q_goto ?_
        refine K_of b_194_10 h_194_10 ?_
        refine q_putI (c0 := 12) (j := 1) rfl rfl (zl hS 105 (by decide)) (sk hS 105 (by decide) rfl) rfl ?_
        obtain ⟨I_10, nI_10, h⟩ := stI_some h
        refine q_nI nI_10 ?_
        refine q_aload rfl ?_
        refine q_aload rfl ?_
        refine q_getI (c0 := 12) (j := 32) rfl rfl (zl hS 105 (by decide)) (sk hS 105 (by decide) rfl) (Or.inr rfl) (by decide) ?_
        refine q_if_eq (fun c_18 => ?_) (fun c_18 => ?_)
        · rw [if_pos c_18] at h
          refine K_of b_194_29 h_194_29 ?_
          refine q_iconst (0) (by decide) ?_
          refine q_end ?_
          refine K_of b_194_30 h_194_30 ?_
          refine q_putZ (c0 := 12) (j := 32) rfl rfl (zl hS 105 (by decide)) (sk hS 105 (by decide) rfl) rfl (Or.inl rfl) ?_
          obtain ⟨I_30, nI_30, h⟩ := stI_some h
          refine q_nI nI_30 ?_
          refine q_aload rfl ?_
          refine q_aload rfl ?_
          refine q_getI (c0 := 12) (j := 51) rfl rfl (zl hS 105 (by decide)) (sk hS 105 (by decide) rfl) (Or.inr rfl) (by decide) ?_
          refine q_if_eq (fun c_38 => ?_) (fun c_38 => ?_)
          · rw [if_pos c_38] at h
            refine K_of b_194_49 h_194_49 ?_
            refine q_iconst (0) (by decide) ?_
            refine q_end ?_
            refine K_of b_194_50 h_194_50 ?_
            refine q_putZ (c0 := 12) (j := 51) rfl rfl (zl hS 105 (by decide)) (sk hS 105 (by decide) rfl) rfl (Or.inl rfl) ?_
            obtain ⟨I_50, nI_50, h⟩ := stI_some h
            refine q_nI nI_50 ?_
            refine q_iload rfl ?_
            refine q_if_ge (fun c_54 => ?_) (fun c_54 => ?_)
            · rw [if_pos c_54] at h
              refine K_of b_194_68 h_194_68 ?_
              refine q_iload rfl ?_
              cases h
              exact q_iret rfl (Nat.le_refl _) (Nat.le_refl _) ⟨rfl, rfl⟩
            · rw [if_neg c_54] at h
              refine q_aload rfl ?_
              refine q_getRs (c0 := 12) (j := 2) rfl rfl (zl hS 105 (by decide)) (sk hS 105 (by decide) rfl) rfl (by decide) (r_105_2 hS) ?_
              refine q_iload rfl ?_
              refine q_ineg ?_
              refine q_dup2 rfl rfl ?_
              obtain ⟨⟨u_64, v_64⟩, h⟩ := ite_some h
              refine q_ialN (Int32.toNatClampNeg (-i1)) (nx u_64) (zl hS 106 (by decide)) (sk hS 106 (by decide) rfl) v_64 (by decide) ?_
              refine q_iconst (1) (by decide) ?_
              refine q_iadd ?_
              obtain ⟨⟨u_67, v_67⟩, h⟩ := ite_some h
              refine q_iasN (Int32.toNatClampNeg (-i1)) (nx u_67) (zl hS 106 (by decide)) (sk hS 106 (by decide) rfl) v_67 (by decide) ?_
              obtain ⟨I_67, nI_67, h⟩ := stI_some h
              refine q_nI nI_67 ?_
              refine q_end ?_
              refine K_of b_194_68 h_194_68 ?_
              refine q_iload rfl ?_
              cases h
              exact q_iret rfl (Nat.le_refl _) (Nat.le_refl _) ⟨rfl, rfl⟩
          · rw [if_neg c_38] at h
            refine q_iload rfl ?_
            refine q_if_ge (fun c_42 => ?_) (fun c_42 => ?_)
            · rw [if_pos c_42] at h
              refine K_of b_194_49 h_194_49 ?_
              refine q_iconst (0) (by decide) ?_
              refine q_end ?_
              refine K_of b_194_50 h_194_50 ?_
              refine q_putZ (c0 := 12) (j := 51) rfl rfl (zl hS 105 (by decide)) (sk hS 105 (by decide) rfl) rfl (Or.inl rfl) ?_
              obtain ⟨I_50, nI_50, h⟩ := stI_some h
              refine q_nI nI_50 ?_
              refine q_iload rfl ?_
              refine q_if_ge (fun c_54 => ?_) (fun c_54 => ?_)
              · rw [if_pos c_54] at h
                refine K_of b_194_68 h_194_68 ?_
                refine q_iload rfl ?_
                cases h
                exact q_iret rfl (Nat.le_refl _) (Nat.le_refl _) ⟨rfl, rfl⟩
              · rw [if_neg c_54] at h
                refine q_aload rfl ?_
                refine q_getRs (c0 := 12) (j := 2) rfl rfl (zl hS 105 (by decide)) (sk hS 105 (by decide) rfl) rfl (by decide) (r_105_2 hS) ?_
                refine q_iload rfl ?_
                refine q_ineg ?_
                refine q_dup2 rfl rfl ?_
                obtain ⟨⟨u_64, v_64⟩, h⟩ := ite_some h
                refine q_ialN (Int32.toNatClampNeg (-i1)) (nx u_64) (zl hS 106 (by decide)) (sk hS 106 (by decide) rfl) v_64 (by decide) ?_
                refine q_iconst (1) (by decide) ?_
                refine q_iadd ?_
                obtain ⟨⟨u_67, v_67⟩, h⟩ := ite_some h
                refine q_iasN (Int32.toNatClampNeg (-i1)) (nx u_67) (zl hS 106 (by decide)) (sk hS 106 (by decide) rfl) v_67 (by decide) ?_
                obtain ⟨I_67, nI_67, h⟩ := stI_some h
                refine q_nI nI_67 ?_
                refine q_end ?_
                refine K_of b_194_68 h_194_68 ?_
                refine q_iload rfl ?_
                cases h
                exact q_iret rfl (Nat.le_refl _) (Nat.le_refl _) ⟨rfl, rfl⟩
            · rw [if_neg c_42] at h
              refine q_iconst (1) (by decide) ?_
              refine q_goto ?_
              refine K_of b_194_50 h_194_50 ?_
              refine q_putZ (c0 := 12) (j := 51) rfl rfl (zl hS 105 (by decide)) (sk hS 105 (by decide) rfl) rfl (Or.inr rfl) ?_
              obtain ⟨I_50, nI_50, h⟩ := stI_some h
              refine q_nI nI_50 ?_
              refine q_iload rfl ?_
              refine q_if_ge (fun c_54 => ?_) (fun c_54 => ?_)
              · rw [if_pos c_54] at h
                refine K_of b_194_68 h_194_68 ?_
                refine q_iload rfl ?_
                cases h
                exact q_iret rfl (Nat.le_refl _) (Nat.le_refl _) ⟨rfl, rfl⟩
              · rw [if_neg c_54] at h
                refine q_aload rfl ?_
                refine q_getRs (c0 := 12) (j := 2) rfl rfl (zl hS 105 (by decide)) (sk hS 105 (by decide) rfl) rfl (by decide) (r_105_2 hS) ?_
                refine q_iload rfl ?_
                refine q_ineg ?_
                refine q_dup2 rfl rfl ?_
                obtain ⟨⟨u_64, v_64⟩, h⟩ := ite_some h
                refine q_ialN (Int32.toNatClampNeg (-i1)) (nx u_64) (zl hS 106 (by decide)) (sk hS 106 (by decide) rfl) v_64 (by decide) ?_
                refine q_iconst (1) (by decide) ?_
                refine q_iadd ?_
                obtain ⟨⟨u_67, v_67⟩, h⟩ := ite_some h
                refine q_iasN (Int32.toNatClampNeg (-i1)) (nx u_67) (zl hS 106 (by decide)) (sk hS 106 (by decide) rfl) v_67 (by decide) ?_
                obtain ⟨I_67, nI_67, h⟩ := stI_some h
                refine q_nI nI_67 ?_
                refine q_end ?_
                refine K_of b_194_68 h_194_68 ?_
                refine q_iload rfl ?_
                cases h
                exact q_iret rfl (Nat.le_refl _) (Nat.le_refl _) ⟨rfl, rfl⟩
        · rw [if_neg c_18] at h
          refine q_iload rfl ?_
          refine q_if_ge (fun c_22 => ?_) (fun c_22 => ?_)
          · rw [if_pos c_22] at h
            refine K_of b_194_29 h_194_29 ?_
            refine q_iconst (0) (by decide) ?_
            refine q_end ?_
            refine K_of b_194_30 h_194_30 ?_
            refine q_putZ (c0 := 12) (j := 32) rfl rfl (zl hS 105 (by decide)) (sk hS 105 (by decide) rfl) rfl (Or.inl rfl) ?_
            obtain ⟨I_30, nI_30, h⟩ := stI_some h
            refine q_nI nI_30 ?_
            refine q_aload rfl ?_
            refine q_aload rfl ?_
            refine q_getI (c0 := 12) (j := 51) rfl rfl (zl hS 105 (by decide)) (sk hS 105 (by decide) rfl) (Or.inr rfl) (by decide) ?_
            refine q_if_eq (fun c_38 => ?_) (fun c_38 => ?_)
            · rw [if_pos c_38] at h
              refine K_of b_194_49 h_194_49 ?_
              refine q_iconst (0) (by decide) ?_
              refine q_end ?_
              refine K_of b_194_50 h_194_50 ?_
              refine q_putZ (c0 := 12) (j := 51) rfl rfl (zl hS 105 (by decide)) (sk hS 105 (by decide) rfl) rfl (Or.inl rfl) ?_
              obtain ⟨I_50, nI_50, h⟩ := stI_some h
              refine q_nI nI_50 ?_
              refine q_iload rfl ?_
              refine q_if_ge (fun c_54 => ?_) (fun c_54 => ?_)
              · rw [if_pos c_54] at h
                refine K_of b_194_68 h_194_68 ?_
                refine q_iload rfl ?_
                cases h
                exact q_iret rfl (Nat.le_refl _) (Nat.le_refl _) ⟨rfl, rfl⟩
              · rw [if_neg c_54] at h
                refine q_aload rfl ?_
                refine q_getRs (c0 := 12) (j := 2) rfl rfl (zl hS 105 (by decide)) (sk hS 105 (by decide) rfl) rfl (by decide) (r_105_2 hS) ?_
                refine q_iload rfl ?_
                refine q_ineg ?_
                refine q_dup2 rfl rfl ?_
                obtain ⟨⟨u_64, v_64⟩, h⟩ := ite_some h
                refine q_ialN (Int32.toNatClampNeg (-i1)) (nx u_64) (zl hS 106 (by decide)) (sk hS 106 (by decide) rfl) v_64 (by decide) ?_
                refine q_iconst (1) (by decide) ?_
                refine q_iadd ?_
                obtain ⟨⟨u_67, v_67⟩, h⟩ := ite_some h
                refine q_iasN (Int32.toNatClampNeg (-i1)) (nx u_67) (zl hS 106 (by decide)) (sk hS 106 (by decide) rfl) v_67 (by decide) ?_
                obtain ⟨I_67, nI_67, h⟩ := stI_some h
                refine q_nI nI_67 ?_
                refine q_end ?_
                refine K_of b_194_68 h_194_68 ?_
                refine q_iload rfl ?_
                cases h
                exact q_iret rfl (Nat.le_refl _) (Nat.le_refl _) ⟨rfl, rfl⟩
            · rw [if_neg c_38] at h
              refine q_iload rfl ?_
              refine q_if_ge (fun c_42 => ?_) (fun c_42 => ?_)
              · rw [if_pos c_42] at h
                refine K_of b_194_49 h_194_49 ?_
                refine q_iconst (0) (by decide) ?_
                refine q_end ?_
                refine K_of b_194_50 h_194_50 ?_
                refine q_putZ (c0 := 12) (j := 51) rfl rfl (zl hS 105 (by decide)) (sk hS 105 (by decide) rfl) rfl (Or.inl rfl) ?_
                obtain ⟨I_50, nI_50, h⟩ := stI_some h
                refine q_nI nI_50 ?_
                refine q_iload rfl ?_
                refine q_if_ge (fun c_54 => ?_) (fun c_54 => ?_)
                · rw [if_pos c_54] at h
                  refine K_of b_194_68 h_194_68 ?_
                  refine q_iload rfl ?_
                  cases h
                  exact q_iret rfl (Nat.le_refl _) (Nat.le_refl _) ⟨rfl, rfl⟩
                · rw [if_neg c_54] at h
                  refine q_aload rfl ?_
                  refine q_getRs (c0 := 12) (j := 2) rfl rfl (zl hS 105 (by decide)) (sk hS 105 (by decide) rfl) rfl (by decide) (r_105_2 hS) ?_
                  refine q_iload rfl ?_
                  refine q_ineg ?_
                  refine q_dup2 rfl rfl ?_
                  obtain ⟨⟨u_64, v_64⟩, h⟩ := ite_some h
                  refine q_ialN (Int32.toNatClampNeg (-i1)) (nx u_64) (zl hS 106 (by decide)) (sk hS 106 (by decide) rfl) v_64 (by decide) ?_
                  refine q_iconst (1) (by decide) ?_
                  refine q_iadd ?_
                  obtain ⟨⟨u_67, v_67⟩, h⟩ := ite_some h
                  refine q_iasN (Int32.toNatClampNeg (-i1)) (nx u_67) (zl hS 106 (by decide)) (sk hS 106 (by decide) rfl) v_67 (by decide) ?_
                  obtain ⟨I_67, nI_67, h⟩ := stI_some h
                  refine q_nI nI_67 ?_
                  refine q_end ?_
                  refine K_of b_194_68 h_194_68 ?_
                  refine q_iload rfl ?_
                  cases h
                  exact q_iret rfl (Nat.le_refl _) (Nat.le_refl _) ⟨rfl, rfl⟩
              · rw [if_neg c_42] at h
                refine q_iconst (1) (by decide) ?_
                refine q_goto ?_
                refine K_of b_194_50 h_194_50 ?_
                refine q_putZ (c0 := 12) (j := 51) rfl rfl (zl hS 105 (by decide)) (sk hS 105 (by decide) rfl) rfl (Or.inr rfl) ?_
                obtain ⟨I_50, nI_50, h⟩ := stI_some h
                refine q_nI nI_50 ?_
                refine q_iload rfl ?_
                refine q_if_ge (fun c_54 => ?_) (fun c_54 => ?_)
                · rw [if_pos c_54] at h
                  refine K_of b_194_68 h_194_68 ?_
                  refine q_iload rfl ?_
                  cases h
                  exact q_iret rfl (Nat.le_refl _) (Nat.le_refl _) ⟨rfl, rfl⟩
                · rw [if_neg c_54] at h
                  refine q_aload rfl ?_
                  refine q_getRs (c0 := 12) (j := 2) rfl rfl (zl hS 105 (by decide)) (sk hS 105 (by decide) rfl) rfl (by decide) (r_105_2 hS) ?_
                  refine q_iload rfl ?_
                  refine q_ineg ?_
                  refine q_dup2 rfl rfl ?_
                  obtain ⟨⟨u_64, v_64⟩, h⟩ := ite_some h
                  refine q_ialN (Int32.toNatClampNeg (-i1)) (nx u_64) (zl hS 106 (by decide)) (sk hS 106 (by decide) rfl) v_64 (by decide) ?_
                  refine q_iconst (1) (by decide) ?_
                  refine q_iadd ?_
                  obtain ⟨⟨u_67, v_67⟩, h⟩ := ite_some h
                  refine q_iasN (Int32.toNatClampNeg (-i1)) (nx u_67) (zl hS 106 (by decide)) (sk hS 106 (by decide) rfl) v_67 (by decide) ?_
                  obtain ⟨I_67, nI_67, h⟩ := stI_some h
                  refine q_nI nI_67 ?_
                  refine q_end ?_
                  refine K_of b_194_68 h_194_68 ?_
                  refine q_iload rfl ?_
                  cases h
                  exact q_iret rfl (Nat.le_refl _) (Nat.le_refl _) ⟨rfl, rfl⟩
          · rw [if_neg c_22] at h
            refine q_iconst (1) (by decide) ?_
            refine q_goto ?_
            refine K_of b_194_30 h_194_30 ?_
            refine q_putZ (c0 := 12) (j := 32) rfl rfl (zl hS 105 (by decide)) (sk hS 105 (by decide) rfl) rfl (Or.inr rfl) ?_
            obtain ⟨I_30, nI_30, h⟩ := stI_some h
            refine q_nI nI_30 ?_
            refine q_aload rfl ?_
            refine q_aload rfl ?_
            refine q_getI (c0 := 12) (j := 51) rfl rfl (zl hS 105 (by decide)) (sk hS 105 (by decide) rfl) (Or.inr rfl) (by decide) ?_
            refine q_if_eq (fun c_38 => ?_) (fun c_38 => ?_)
            · rw [if_pos c_38] at h
              refine K_of b_194_49 h_194_49 ?_
              refine q_iconst (0) (by decide) ?_
              refine q_end ?_
              refine K_of b_194_50 h_194_50 ?_
              refine q_putZ (c0 := 12) (j := 51) rfl rfl (zl hS 105 (by decide)) (sk hS 105 (by decide) rfl) rfl (Or.inl rfl) ?_
              obtain ⟨I_50, nI_50, h⟩ := stI_some h
              refine q_nI nI_50 ?_
              refine q_iload rfl ?_
              refine q_if_ge (fun c_54 => ?_) (fun c_54 => ?_)
              · rw [if_pos c_54] at h
                refine K_of b_194_68 h_194_68 ?_
                refine q_iload rfl ?_
                cases h
                exact q_iret rfl (Nat.le_refl _) (Nat.le_refl _) ⟨rfl, rfl⟩
              · rw [if_neg c_54] at h
                refine q_aload rfl ?_
                refine q_getRs (c0 := 12) (j := 2) rfl rfl (zl hS 105 (by decide)) (sk hS 105 (by decide) rfl) rfl (by decide) (r_105_2 hS) ?_
                refine q_iload rfl ?_
                refine q_ineg ?_
                refine q_dup2 rfl rfl ?_
                obtain ⟨⟨u_64, v_64⟩, h⟩ := ite_some h
                refine q_ialN (Int32.toNatClampNeg (-i1)) (nx u_64) (zl hS 106 (by decide)) (sk hS 106 (by decide) rfl) v_64 (by decide) ?_
                refine q_iconst (1) (by decide) ?_
                refine q_iadd ?_
                obtain ⟨⟨u_67, v_67⟩, h⟩ := ite_some h
                refine q_iasN (Int32.toNatClampNeg (-i1)) (nx u_67) (zl hS 106 (by decide)) (sk hS 106 (by decide) rfl) v_67 (by decide) ?_
                obtain ⟨I_67, nI_67, h⟩ := stI_some h
                refine q_nI nI_67 ?_
                refine q_end ?_
                refine K_of b_194_68 h_194_68 ?_
                refine q_iload rfl ?_
                cases h
                exact q_iret rfl (Nat.le_refl _) (Nat.le_refl _) ⟨rfl, rfl⟩
            · rw [if_neg c_38] at h
              refine q_iload rfl ?_
              refine q_if_ge (fun c_42 => ?_) (fun c_42 => ?_)
              · rw [if_pos c_42] at h
                refine K_of b_194_49 h_194_49 ?_
                refine q_iconst (0) (by decide) ?_
                refine q_end ?_
                refine K_of b_194_50 h_194_50 ?_
                refine q_putZ (c0 := 12) (j := 51) rfl rfl (zl hS 105 (by decide)) (sk hS 105 (by decide) rfl) rfl (Or.inl rfl) ?_
                obtain ⟨I_50, nI_50, h⟩ := stI_some h
                refine q_nI nI_50 ?_
                refine q_iload rfl ?_
                refine q_if_ge (fun c_54 => ?_) (fun c_54 => ?_)
                · rw [if_pos c_54] at h
                  refine K_of b_194_68 h_194_68 ?_
                  refine q_iload rfl ?_
                  cases h
                  exact q_iret rfl (Nat.le_refl _) (Nat.le_refl _) ⟨rfl, rfl⟩
                · rw [if_neg c_54] at h
                  refine q_aload rfl ?_
                  refine q_getRs (c0 := 12) (j := 2) rfl rfl (zl hS 105 (by decide)) (sk hS 105 (by decide) rfl) rfl (by decide) (r_105_2 hS) ?_
                  refine q_iload rfl ?_
                  refine q_ineg ?_
                  refine q_dup2 rfl rfl ?_
                  obtain ⟨⟨u_64, v_64⟩, h⟩ := ite_some h
                  refine q_ialN (Int32.toNatClampNeg (-i1)) (nx u_64) (zl hS 106 (by decide)) (sk hS 106 (by decide) rfl) v_64 (by decide) ?_
                  refine q_iconst (1) (by decide) ?_
                  refine q_iadd ?_
                  obtain ⟨⟨u_67, v_67⟩, h⟩ := ite_some h
                  refine q_iasN (Int32.toNatClampNeg (-i1)) (nx u_67) (zl hS 106 (by decide)) (sk hS 106 (by decide) rfl) v_67 (by decide) ?_
                  obtain ⟨I_67, nI_67, h⟩ := stI_some h
                  refine q_nI nI_67 ?_
                  refine q_end ?_
                  refine K_of b_194_68 h_194_68 ?_
                  refine q_iload rfl ?_
                  cases h
                  exact q_iret rfl (Nat.le_refl _) (Nat.le_refl _) ⟨rfl, rfl⟩
              · rw [if_neg c_42] at h
                refine q_iconst (1) (by decide) ?_
                refine q_goto ?_
                refine K_of b_194_50 h_194_50 ?_
                refine q_putZ (c0 := 12) (j := 51) rfl rfl (zl hS 105 (by decide)) (sk hS 105 (by decide) rfl) rfl (Or.inr rfl) ?_
                obtain ⟨I_50, nI_50, h⟩ := stI_some h
                refine q_nI nI_50 ?_
                refine q_iload rfl ?_
                refine q_if_ge (fun c_54 => ?_) (fun c_54 => ?_)
                · rw [if_pos c_54] at h
                  refine K_of b_194_68 h_194_68 ?_
                  refine q_iload rfl ?_
                  cases h
                  exact q_iret rfl (Nat.le_refl _) (Nat.le_refl _) ⟨rfl, rfl⟩
                · rw [if_neg c_54] at h
                  refine q_aload rfl ?_
                  refine q_getRs (c0 := 12) (j := 2) rfl rfl (zl hS 105 (by decide)) (sk hS 105 (by decide) rfl) rfl (by decide) (r_105_2 hS) ?_
                  refine q_iload rfl ?_
                  refine q_ineg ?_
                  refine q_dup2 rfl rfl ?_
                  obtain ⟨⟨u_64, v_64⟩, h⟩ := ite_some h
                  refine q_ialN (Int32.toNatClampNeg (-i1)) (nx u_64) (zl hS 106 (by decide)) (sk hS 106 (by decide) rfl) v_64 (by decide) ?_
                  refine q_iconst (1) (by decide) ?_
                  refine q_iadd ?_
                  obtain ⟨⟨u_67, v_67⟩, h⟩ := ite_some h
                  refine q_iasN (Int32.toNatClampNeg (-i1)) (nx u_67) (zl hS 106 (by decide)) (sk hS 106 (by decide) rfl) v_67 (by decide) ?_
                  obtain ⟨I_67, nI_67, h⟩ := stI_some h
                  refine q_nI nI_67 ?_
                  refine q_end ?_
                  refine K_of b_194_68 h_194_68 ?_
                  refine q_iload rfl ?_
                  cases h
                  exact q_iret rfl (Nat.le_refl _) (Nat.le_refl _) ⟨rfl, rfl⟩
theorem a_194 (X : GX) {z : Nat} {kd : Nat → Nat × Nat} {Rf : Nat → Nat → Option Nat} (hS : Sh z kd Rf) {n dp d : Nat} (hd : dp ≤ d) {I : (Nat → Nat → Int32)} {L : (Nat → Nat → Int64)} {i1 : Int32} {I1 : (Nat → Nat → Int32)} {L1 : (Nat → Nat → Int64)} {r : Int32} (h : g_194 n dp (z, kd, Rf) 0 I L i1 = some (r, I1, L1)) : Ct X d 194 0 0 [.ref 105, .int i1] (z, kd, I, L, Rf) (AI (fun x τ => x = r ∧ τ = (z, kd, I1, L1, Rf))) :=
  Ct_of mu_194 (Nat.le_of_ble_eq_true rfl) ((w_194 X hS n dp d hd I L i1 _ _ _) h)

/-! 192 CutFloorModel.image(I)I -/
set_option maxHeartbeats 4000000 in
set_option maxRecDepth 100000 in
def g_192 : Nat → Nat → EN → Nat → (Nat → Nat → Int32) → (Nat → Nat → Int64) → Int32 → Int32 →  Option (Int32 × (Nat → Nat → Int32) × (Nat → Nat → Int64))
  | 0, _, _, _, _, _, _, _ => none
  | n + 1, dp, e, lab, I, L, i1, i2 =>
    if lab = 0 then (stI (u2 I 105 0 (0 : Int32)) (fun I_2 => (if 1 ≤ dp then (g_193 n (dp - 1) e 0 I_2 L (Int32.toInt64 i1) (0 : Int64) (1 : Int64)).bind (fun ⟨x0_9, I0_9, L0_9⟩ => (if x0_9 = 0 then (if 1 ≤ dp then (g_194 n (dp - 1) e 0 I0_9 L0_9 (-1 : Int32)).bind (fun ⟨x1_17, I1_17, L1_17⟩ => (some (x1_17, I1_17, L1_17))) else none) else (g_192 n dp e 1 I0_9 L0_9 i1 (0 : Int32)))) else none)))
    else if lab = 1 then (if (1570 : Int32) ≤ i2 then (if 0 ≤ i1 ∧ (Int32.toNatClampNeg i1) < 2 then (stI (u2 I 109 (Int32.toNatClampNeg i1) (1 : Int32)) (fun I_60 => (if 1 ≤ dp then (g_194 n (dp - 1) e 0 I_60 L (0 : Int32)).bind (fun ⟨x0_63, I0_63, L0_63⟩ => (some (x0_63, I0_63, L0_63))) else none))) else none) else (if 0 ≤ i2 ∧ (Int32.toNatClampNeg i2) < 1570 then (if 0 ≤ (((1570 : Int32) * i1) + i2) ∧ (Int32.toNatClampNeg (((1570 : Int32) * i1) + i2)) < 3140 then (stI (u2 I 108 (Int32.toNatClampNeg (((1570 : Int32) * i1) + i2)) (I 107 (Int32.toNatClampNeg i2))) (fun I_47 => (g_192 n dp e 1 I_47 L i1 (i2 + Int32.ofInt (1))))) else none) else none))
    else none
set_option maxRecDepth 100000 in
theorem e_192_0 (n dp : Nat) (e : EN) (I : (Nat → Nat → Int32)) (L : (Nat → Nat → Int64)) (i1 : Int32) (i2 : Int32) : g_192 (n + 1) dp e 0 I L i1 i2 = (stI (u2 I 105 0 (0 : Int32)) (fun I_2 => (if 1 ≤ dp then (g_193 n (dp - 1) e 0 I_2 L (Int32.toInt64 i1) (0 : Int64) (1 : Int64)).bind (fun ⟨x0_9, I0_9, L0_9⟩ => (if x0_9 = 0 then (if 1 ≤ dp then (g_194 n (dp - 1) e 0 I0_9 L0_9 (-1 : Int32)).bind (fun ⟨x1_17, I1_17, L1_17⟩ => (some (x1_17, I1_17, L1_17))) else none) else (g_192 n dp e 1 I0_9 L0_9 i1 (0 : Int32)))) else none))) := by rw [g_192.eq_2, if_pos (show (0 : Nat) = 0 from rfl)]
set_option maxRecDepth 100000 in
theorem e_192_1 (n dp : Nat) (e : EN) (I : (Nat → Nat → Int32)) (L : (Nat → Nat → Int64)) (i1 : Int32) (i2 : Int32) : g_192 (n + 1) dp e 1 I L i1 i2 = (if (1570 : Int32) ≤ i2 then (if 0 ≤ i1 ∧ (Int32.toNatClampNeg i1) < 2 then (stI (u2 I 109 (Int32.toNatClampNeg i1) (1 : Int32)) (fun I_60 => (if 1 ≤ dp then (g_194 n (dp - 1) e 0 I_60 L (0 : Int32)).bind (fun ⟨x0_63, I0_63, L0_63⟩ => (some (x0_63, I0_63, L0_63))) else none))) else none) else (if 0 ≤ i2 ∧ (Int32.toNatClampNeg i2) < 1570 then (if 0 ≤ (((1570 : Int32) * i1) + i2) ∧ (Int32.toNatClampNeg (((1570 : Int32) * i1) + i2)) < 3140 then (stI (u2 I 108 (Int32.toNatClampNeg (((1570 : Int32) * i1) + i2)) (I 107 (Int32.toNatClampNeg i2))) (fun I_47 => (g_192 n dp e 1 I_47 L i1 (i2 + Int32.ofInt (1))))) else none) else none)) := by rw [g_192.eq_2, if_neg (show ¬ ((1 : Nat) = 0) by decide), if_pos (show (1 : Nat) = 1 from rfl)]
set_option maxHeartbeats 8000000 in
set_option maxRecDepth 100000 in
theorem w_192 (X : GX) {z : Nat} {kd : Nat → Nat × Nat} {Rf : Nat → Nat → Option Nat} (hS : Sh z kd Rf) : ∀ (n dp d : Nat), dp ≤ d → ∀ (I : (Nat → Nat → Int32)) (L : (Nat → Nat → Int64)) (i1 : Int32) (i2 : Int32) (r : Int32) (I1 : (Nat → Nat → Int32)) (L1 : (Nat → Nat → Int64)), (g_192 n dp (z, kd, Rf) 0 I L i1 i2 = some (r, I1, L1) → K X d 192 0 0 (AI (fun x τ => x = r ∧ τ = (z, kd, I1, L1, Rf))) 0 [some (.ref 105), some (.int i1), none] [] (z, kd, I, L, Rf) 0 0) ∧
    (g_192 n dp (z, kd, Rf) 1 I L i1 i2 = some (r, I1, L1) → K X d 192 0 0 (AI (fun x τ => x = r ∧ τ = (z, kd, I1, L1, Rf))) 23 [some (.ref 105), some (.int i1), some (.int i2)] [] (z, kd, I, L, Rf) 0 0) := by
  intro n
  induction n with
  | zero => intro dp d hdp I L i1 i2 r I1 L1; exact ⟨(fun h => by cases h), (fun h => by cases h)⟩
  | succ n ih =>
    intro dp d hdp I L i1 i2 r I1 L1
    refine ⟨?_, ?_⟩
    · intro h
      rw [e_192_0] at h
      refine K_of b_192_0 h_192_0 ?_
      refine q_aload rfl ?_
      refine q_iconst (0) (by decide) ?_
      refine q_putI (c0 := 12) (j := 0) rfl rfl (zl hS 105 (by decide)) (sk hS 105 (by decide) rfl) rfl ?_
      obtain ⟨I_2, nI_2, h⟩ := stI_some h
      refine q_nI nI_2 ?_
      refine q_iload rfl ?_
      refine q_i2l ?_
      refine q_lconst (0) (by decide) ?_
      refine q_lconst (1) (by decide) ?_
      obtain ⟨d_9, h⟩ := ite_some h
      obtain ⟨⟨x0_9, I0_9, L0_9⟩, e_9, h⟩ := Option.bind_eq_some_iff.mp h
      dsimp only at h
      refine q_fs3I (a_193 X hS (d := d - 1) (by omega) e_9) (by omega) (Nat.le_refl _) (Nat.le_refl _) rfl (Nat.le_of_ble_eq_true rfl) ?_
      refine q_if_ne (fun c_12 => ?_) (fun c_12 => ?_)
      · rw [if_neg c_12] at h
        refine K_of b_192_21 h_192_21 ?_
        refine q_iconst (0) (by decide) ?_
        refine q_istore (ls1 := [some (.ref 105), some (.int i1), some (.int (0 : Int32))]) (Nat.le_of_ble_eq_true rfl) rfl ?_
        refine q_end ?_
        exact (ih dp d hdp _ _ i1 (0 : Int32) _ _ _).2 h
      · rw [if_pos c_12] at h
        refine q_aload rfl ?_
        refine q_iconst (-1) (by decide) ?_
        obtain ⟨d_17, h⟩ := ite_some h
        obtain ⟨⟨x1_17, I1_17, L1_17⟩, e_17, h⟩ := Option.bind_eq_some_iff.mp h
        dsimp only at h
        refine q_fv2I (a_194 X hS (d := d - 1) (by omega) e_17) (by omega) (Nat.le_refl _) (Nat.le_refl _) rfl (Nat.le_of_ble_eq_true rfl) ⟨(zl hS 105 (by decide)), congrArg Prod.fst (sk hS 105 (by decide) rfl), by decide⟩ ?_
        cases h
        exact q_iret rfl (Nat.le_refl _) (Nat.le_refl _) ⟨rfl, rfl⟩
    · intro h
      rw [e_192_1] at h
      refine K_of b_192_23 h_192_23 ?_
      refine q_iload rfl ?_
      refine q_iconst (1570) (by decide) ?_
      refine q_icmp_ge (fun c_27 => ?_) (fun c_27 => ?_)
      · rw [if_pos c_27] at h
        refine K_of b_192_54 h_192_54 ?_
        refine q_aload rfl ?_
        refine q_getRs (c0 := 12) (j := 5) rfl rfl (zl hS 105 (by decide)) (sk hS 105 (by decide) rfl) rfl (by decide) (r_105_5 hS) ?_
        refine q_iload rfl ?_
        refine q_iconst (1) (by decide) ?_
        obtain ⟨⟨u_60, v_60⟩, h⟩ := ite_some h
        refine q_zasN (Int32.toNatClampNeg i1) (nx u_60) (zl hS 109 (by decide)) (sk hS 109 (by decide) rfl) v_60 (by decide) (Or.inr rfl) ?_
        obtain ⟨I_60, nI_60, h⟩ := stI_some h
        refine q_nI nI_60 ?_
        refine q_aload rfl ?_
        refine q_iconst (0) (by decide) ?_
        obtain ⟨d_63, h⟩ := ite_some h
        obtain ⟨⟨x0_63, I0_63, L0_63⟩, e_63, h⟩ := Option.bind_eq_some_iff.mp h
        dsimp only at h
        refine q_fv2I (a_194 X hS (d := d - 1) (by omega) e_63) (by omega) (Nat.le_refl _) (Nat.le_refl _) rfl (Nat.le_of_ble_eq_true rfl) ⟨(zl hS 105 (by decide)), congrArg Prod.fst (sk hS 105 (by decide) rfl), by decide⟩ ?_
        cases h
        exact q_iret rfl (Nat.le_refl _) (Nat.le_refl _) ⟨rfl, rfl⟩
      · rw [if_neg c_27] at h
        refine q_aload rfl ?_
        refine q_getRs (c0 := 12) (j := 4) rfl rfl (zl hS 105 (by decide)) (sk hS 105 (by decide) rfl) rfl (by decide) (r_105_4 hS) ?_
        refine q_iconst (1570) (by decide) ?_
        refine q_iload rfl ?_
        refine q_imul ?_
        refine q_iload rfl ?_
        refine q_iadd ?_
        refine q_aload rfl ?_
        refine q_getRs (c0 := 12) (j := 3) rfl rfl (zl hS 105 (by decide)) (sk hS 105 (by decide) rfl) rfl (by decide) (r_105_3 hS) ?_
        refine q_iload rfl ?_
        obtain ⟨⟨u_46, v_46⟩, h⟩ := ite_some h
        refine q_ialN (Int32.toNatClampNeg i2) (nx u_46) (zl hS 107 (by decide)) (sk hS 107 (by decide) rfl) v_46 (by decide) ?_
        obtain ⟨⟨u_47, v_47⟩, h⟩ := ite_some h
        refine q_iasN (Int32.toNatClampNeg (((1570 : Int32) * i1) + i2)) (nx u_47) (zl hS 108 (by decide)) (sk hS 108 (by decide) rfl) v_47 (by decide) ?_
        obtain ⟨I_47, nI_47, h⟩ := stI_some h
        refine q_nI nI_47 ?_
        refine q_iinc (ls1 := [some (.ref 105), some (.int i1), some (.int (i2 + Int32.ofInt (1)))]) rfl rfl ?_
        refine q_goto ?_
        exact (ih dp d hdp _ _ i1 (i2 + Int32.ofInt (1)) _ _ _).2 h
theorem a_192 (X : GX) {z : Nat} {kd : Nat → Nat × Nat} {Rf : Nat → Nat → Option Nat} (hS : Sh z kd Rf) {n dp d : Nat} (hd : dp ≤ d) {I : (Nat → Nat → Int32)} {L : (Nat → Nat → Int64)} {i1 : Int32} {I1 : (Nat → Nat → Int32)} {L1 : (Nat → Nat → Int64)} {r : Int32} (h : g_192 n dp (z, kd, Rf) 0 I L i1 0 = some (r, I1, L1)) : Ct X d 192 0 0 [.ref 105, .int i1] (z, kd, I, L, Rf) (AI (fun x τ => x = r ∧ τ = (z, kd, I1, L1, Rf))) :=
  Ct_of mu_192 (Nat.le_of_ble_eq_true rfl) ((w_192 X hS n dp d hd I L i1 0 _ _ _).1 h)

/-! 195 CutFloorModel.back(I)I -/
set_option maxHeartbeats 4000000 in
set_option maxRecDepth 100000 in
def g_195 : Nat → Nat → EN → Nat → (Nat → Nat → Int32) → (Nat → Nat → Int64) → Int32 → Int32 →  Option (Int32 × (Nat → Nat → Int32) × (Nat → Nat → Int64))
  | 0, _, _, _, _, _, _, _ => none
  | n + 1, dp, e, lab, I, L, i1, i2 =>
    if lab = 0 then (stI (u2 I 105 0 (0 : Int32)) (fun I_2 => (if 1 ≤ dp then (g_193 n (dp - 1) e 0 I_2 L (Int32.toInt64 i1) (0 : Int64) (1 : Int64)).bind (fun ⟨x0_9, I0_9, L0_9⟩ => (if x0_9 = 0 then (if 1 ≤ dp then (g_194 n (dp - 1) e 0 I0_9 L0_9 (-1 : Int32)).bind (fun ⟨x1_17, I1_17, L1_17⟩ => (some (x1_17, I1_17, L1_17))) else none) else (if 0 ≤ i1 ∧ (Int32.toNatClampNeg i1) < 2 then (if (I0_9 109 (Int32.toNatClampNeg i1)) = 0 then (if 1 ≤ dp then (g_194 n (dp - 1) e 0 I0_9 L0_9 (-2 : Int32)).bind (fun ⟨x1_33, I1_33, L1_33⟩ => (some (x1_33, I1_33, L1_33))) else none) else (g_195 n dp e 1 I0_9 L0_9 i1 (0 : Int32))) else none))) else none)))
    else if lab = 1 then (if (1570 : Int32) ≤ i2 then (if 1 ≤ dp then (g_194 n (dp - 1) e 0 I L (0 : Int32)).bind (fun ⟨x0_72, I0_72, L0_72⟩ => (some (x0_72, I0_72, L0_72))) else none) else (if 0 ≤ (((1570 : Int32) * i1) + i2) ∧ (Int32.toNatClampNeg (((1570 : Int32) * i1) + i2)) < 3140 then (if 0 ≤ i2 ∧ (Int32.toNatClampNeg i2) < 1570 then (stI (u2 I 107 (Int32.toNatClampNeg i2) (I 108 (Int32.toNatClampNeg (((1570 : Int32) * i1) + i2)))) (fun I_63 => (g_195 n dp e 1 I_63 L i1 (i2 + Int32.ofInt (1))))) else none) else none))
    else none
set_option maxRecDepth 100000 in
theorem e_195_0 (n dp : Nat) (e : EN) (I : (Nat → Nat → Int32)) (L : (Nat → Nat → Int64)) (i1 : Int32) (i2 : Int32) : g_195 (n + 1) dp e 0 I L i1 i2 = (stI (u2 I 105 0 (0 : Int32)) (fun I_2 => (if 1 ≤ dp then (g_193 n (dp - 1) e 0 I_2 L (Int32.toInt64 i1) (0 : Int64) (1 : Int64)).bind (fun ⟨x0_9, I0_9, L0_9⟩ => (if x0_9 = 0 then (if 1 ≤ dp then (g_194 n (dp - 1) e 0 I0_9 L0_9 (-1 : Int32)).bind (fun ⟨x1_17, I1_17, L1_17⟩ => (some (x1_17, I1_17, L1_17))) else none) else (if 0 ≤ i1 ∧ (Int32.toNatClampNeg i1) < 2 then (if (I0_9 109 (Int32.toNatClampNeg i1)) = 0 then (if 1 ≤ dp then (g_194 n (dp - 1) e 0 I0_9 L0_9 (-2 : Int32)).bind (fun ⟨x1_33, I1_33, L1_33⟩ => (some (x1_33, I1_33, L1_33))) else none) else (g_195 n dp e 1 I0_9 L0_9 i1 (0 : Int32))) else none))) else none))) := by rw [g_195.eq_2, if_pos (show (0 : Nat) = 0 from rfl)]
set_option maxRecDepth 100000 in
theorem e_195_1 (n dp : Nat) (e : EN) (I : (Nat → Nat → Int32)) (L : (Nat → Nat → Int64)) (i1 : Int32) (i2 : Int32) : g_195 (n + 1) dp e 1 I L i1 i2 = (if (1570 : Int32) ≤ i2 then (if 1 ≤ dp then (g_194 n (dp - 1) e 0 I L (0 : Int32)).bind (fun ⟨x0_72, I0_72, L0_72⟩ => (some (x0_72, I0_72, L0_72))) else none) else (if 0 ≤ (((1570 : Int32) * i1) + i2) ∧ (Int32.toNatClampNeg (((1570 : Int32) * i1) + i2)) < 3140 then (if 0 ≤ i2 ∧ (Int32.toNatClampNeg i2) < 1570 then (stI (u2 I 107 (Int32.toNatClampNeg i2) (I 108 (Int32.toNatClampNeg (((1570 : Int32) * i1) + i2)))) (fun I_63 => (g_195 n dp e 1 I_63 L i1 (i2 + Int32.ofInt (1))))) else none) else none)) := by rw [g_195.eq_2, if_neg (show ¬ ((1 : Nat) = 0) by decide), if_pos (show (1 : Nat) = 1 from rfl)]
set_option maxHeartbeats 8000000 in
set_option maxRecDepth 100000 in
theorem w_195 (X : GX) {z : Nat} {kd : Nat → Nat × Nat} {Rf : Nat → Nat → Option Nat} (hS : Sh z kd Rf) : ∀ (n dp d : Nat), dp ≤ d → ∀ (I : (Nat → Nat → Int32)) (L : (Nat → Nat → Int64)) (i1 : Int32) (i2 : Int32) (r : Int32) (I1 : (Nat → Nat → Int32)) (L1 : (Nat → Nat → Int64)), (g_195 n dp (z, kd, Rf) 0 I L i1 i2 = some (r, I1, L1) → K X d 195 0 0 (AI (fun x τ => x = r ∧ τ = (z, kd, I1, L1, Rf))) 0 [some (.ref 105), some (.int i1), none] [] (z, kd, I, L, Rf) 0 0) ∧
    (g_195 n dp (z, kd, Rf) 1 I L i1 i2 = some (r, I1, L1) → K X d 195 0 0 (AI (fun x τ => x = r ∧ τ = (z, kd, I1, L1, Rf))) 39 [some (.ref 105), some (.int i1), some (.int i2)] [] (z, kd, I, L, Rf) 0 0) := by
  intro n
  induction n with
  | zero => intro dp d hdp I L i1 i2 r I1 L1; exact ⟨(fun h => by cases h), (fun h => by cases h)⟩
  | succ n ih =>
    intro dp d hdp I L i1 i2 r I1 L1
    refine ⟨?_, ?_⟩
    · intro h
      rw [e_195_0] at h
      refine K_of b_195_0 h_195_0 ?_
      refine q_aload rfl ?_
      refine q_iconst (0) (by decide) ?_
      refine q_putI (c0 := 12) (j := 0) rfl rfl (zl hS 105 (by decide)) (sk hS 105 (by decide) rfl) rfl ?_
      obtain ⟨I_2, nI_2, h⟩ := stI_some h
      refine q_nI nI_2 ?_
      refine q_iload rfl ?_
      refine q_i2l ?_
      refine q_lconst (0) (by decide) ?_
      refine q_lconst (1) (by decide) ?_
      obtain ⟨d_9, h⟩ := ite_some h
      obtain ⟨⟨x0_9, I0_9, L0_9⟩, e_9, h⟩ := Option.bind_eq_some_iff.mp h
      dsimp only at h
      refine q_fs3I (a_193 X hS (d := d - 1) (by omega) e_9) (by omega) (Nat.le_refl _) (Nat.le_refl _) rfl (Nat.le_of_ble_eq_true rfl) ?_
      refine q_if_ne (fun c_12 => ?_) (fun c_12 => ?_)
      · rw [if_neg c_12] at h
        refine K_of b_195_21 h_195_21 ?_
        refine q_aload rfl ?_
        refine q_getRs (c0 := 12) (j := 5) rfl rfl (zl hS 105 (by decide)) (sk hS 105 (by decide) rfl) rfl (by decide) (r_105_5 hS) ?_
        refine q_iload rfl ?_
        obtain ⟨⟨u_26, v_26⟩, h⟩ := ite_some h
        refine q_zalN (Int32.toNatClampNeg i1) (nx u_26) (zl hS 109 (by decide)) (sk hS 109 (by decide) rfl) v_26 (by decide) ?_
        refine q_if_ne (fun c_27 => ?_) (fun c_27 => ?_)
        · rw [if_neg c_27] at h
          refine K_of b_195_37 h_195_37 ?_
          refine q_iconst (0) (by decide) ?_
          refine q_istore (ls1 := [some (.ref 105), some (.int i1), some (.int (0 : Int32))]) (Nat.le_of_ble_eq_true rfl) rfl ?_
          refine q_end ?_
          exact (ih dp d hdp _ _ i1 (0 : Int32) _ _ _).2 h
        · rw [if_pos c_27] at h
          refine q_aload rfl ?_
          refine q_iconst (-2) (by decide) ?_
          obtain ⟨d_33, h⟩ := ite_some h
          obtain ⟨⟨x1_33, I1_33, L1_33⟩, e_33, h⟩ := Option.bind_eq_some_iff.mp h
          dsimp only at h
          refine q_fv2I (a_194 X hS (d := d - 1) (by omega) e_33) (by omega) (Nat.le_refl _) (Nat.le_refl _) rfl (Nat.le_of_ble_eq_true rfl) ⟨(zl hS 105 (by decide)), congrArg Prod.fst (sk hS 105 (by decide) rfl), by decide⟩ ?_
          cases h
          exact q_iret rfl (Nat.le_refl _) (Nat.le_refl _) ⟨rfl, rfl⟩
      · rw [if_pos c_12] at h
        refine q_aload rfl ?_
        refine q_iconst (-1) (by decide) ?_
        obtain ⟨d_17, h⟩ := ite_some h
        obtain ⟨⟨x1_17, I1_17, L1_17⟩, e_17, h⟩ := Option.bind_eq_some_iff.mp h
        dsimp only at h
        refine q_fv2I (a_194 X hS (d := d - 1) (by omega) e_17) (by omega) (Nat.le_refl _) (Nat.le_refl _) rfl (Nat.le_of_ble_eq_true rfl) ⟨(zl hS 105 (by decide)), congrArg Prod.fst (sk hS 105 (by decide) rfl), by decide⟩ ?_
        cases h
        exact q_iret rfl (Nat.le_refl _) (Nat.le_refl _) ⟨rfl, rfl⟩
    · intro h
      rw [e_195_1] at h
      refine K_of b_195_39 h_195_39 ?_
      refine q_iload rfl ?_
      refine q_iconst (1570) (by decide) ?_
      refine q_icmp_ge (fun c_43 => ?_) (fun c_43 => ?_)
      · rw [if_pos c_43] at h
        refine K_of b_195_70 h_195_70 ?_
        refine q_aload rfl ?_
        refine q_iconst (0) (by decide) ?_
        obtain ⟨d_72, h⟩ := ite_some h
        obtain ⟨⟨x0_72, I0_72, L0_72⟩, e_72, h⟩ := Option.bind_eq_some_iff.mp h
        dsimp only at h
        refine q_fv2I (a_194 X hS (d := d - 1) (by omega) e_72) (by omega) (Nat.le_refl _) (Nat.le_refl _) rfl (Nat.le_of_ble_eq_true rfl) ⟨(zl hS 105 (by decide)), congrArg Prod.fst (sk hS 105 (by decide) rfl), by decide⟩ ?_
        cases h
        exact q_iret rfl (Nat.le_refl _) (Nat.le_refl _) ⟨rfl, rfl⟩
      · rw [if_neg c_43] at h
        refine q_aload rfl ?_
        refine q_getRs (c0 := 12) (j := 3) rfl rfl (zl hS 105 (by decide)) (sk hS 105 (by decide) rfl) rfl (by decide) (r_105_3 hS) ?_
        refine q_iload rfl ?_
        refine q_aload rfl ?_
        refine q_getRs (c0 := 12) (j := 4) rfl rfl (zl hS 105 (by decide)) (sk hS 105 (by decide) rfl) rfl (by decide) (r_105_4 hS) ?_
        refine q_iconst (1570) (by decide) ?_
        refine q_iload rfl ?_
        refine q_imul ?_
        refine q_iload rfl ?_
        refine q_iadd ?_
        obtain ⟨⟨u_62, v_62⟩, h⟩ := ite_some h
        refine q_ialN (Int32.toNatClampNeg (((1570 : Int32) * i1) + i2)) (nx u_62) (zl hS 108 (by decide)) (sk hS 108 (by decide) rfl) v_62 (by decide) ?_
        obtain ⟨⟨u_63, v_63⟩, h⟩ := ite_some h
        refine q_iasN (Int32.toNatClampNeg i2) (nx u_63) (zl hS 107 (by decide)) (sk hS 107 (by decide) rfl) v_63 (by decide) ?_
        obtain ⟨I_63, nI_63, h⟩ := stI_some h
        refine q_nI nI_63 ?_
        refine q_iinc (ls1 := [some (.ref 105), some (.int i1), some (.int (i2 + Int32.ofInt (1)))]) rfl rfl ?_
        refine q_goto ?_
        exact (ih dp d hdp _ _ i1 (i2 + Int32.ofInt (1)) _ _ _).2 h
theorem a_195 (X : GX) {z : Nat} {kd : Nat → Nat × Nat} {Rf : Nat → Nat → Option Nat} (hS : Sh z kd Rf) {n dp d : Nat} (hd : dp ≤ d) {I : (Nat → Nat → Int32)} {L : (Nat → Nat → Int64)} {i1 : Int32} {I1 : (Nat → Nat → Int32)} {L1 : (Nat → Nat → Int64)} {r : Int32} (h : g_195 n dp (z, kd, Rf) 0 I L i1 0 = some (r, I1, L1)) : Ct X d 195 0 0 [.ref 105, .int i1] (z, kd, I, L, Rf) (AI (fun x τ => x = r ∧ τ = (z, kd, I1, L1, Rf))) :=
  Ct_of mu_195 (Nat.le_of_ble_eq_true rfl) ((w_195 X hS n dp d hd I L i1 0 _ _ _).1 h)

/-! 197 CutFloorModel.isClass(I)Z -/
set_option maxHeartbeats 4000000 in
set_option maxRecDepth 100000 in
def g_197 : Nat → Nat → EN → Nat → (Nat → Nat → Int32) → (Nat → Nat → Int64) → Int32 →  Option (Int32 × (Nat → Nat → Int32) × (Nat → Nat → Int64))
  | 0, _, _, _, _, _, _ => none
  | n + 1, dp, e, lab, I, L, i0 =>
    if lab = 0 then (if 1 ≤ dp then (g_193 n (dp - 1) e 0 I L (Int32.toInt64 i0) (0 : Int64) (2 : Int64)).bind (fun ⟨x0_6, I0_6, L0_6⟩ => (if x0_6 = 0 ∨ x0_6 = 1 then (some (x0_6, I0_6, L0_6)) else none)) else none)
    else none
set_option maxRecDepth 100000 in
theorem e_197_0 (n dp : Nat) (e : EN) (I : (Nat → Nat → Int32)) (L : (Nat → Nat → Int64)) (i0 : Int32) : g_197 (n + 1) dp e 0 I L i0 = (if 1 ≤ dp then (g_193 n (dp - 1) e 0 I L (Int32.toInt64 i0) (0 : Int64) (2 : Int64)).bind (fun ⟨x0_6, I0_6, L0_6⟩ => (if x0_6 = 0 ∨ x0_6 = 1 then (some (x0_6, I0_6, L0_6)) else none)) else none) := by rw [g_197.eq_2, if_pos (show (0 : Nat) = 0 from rfl)]
set_option maxHeartbeats 8000000 in
set_option maxRecDepth 100000 in
theorem w_197 (X : GX) {z : Nat} {kd : Nat → Nat × Nat} {Rf : Nat → Nat → Option Nat} (hS : Sh z kd Rf) : ∀ (n dp d : Nat), dp ≤ d → ∀ (I : (Nat → Nat → Int32)) (L : (Nat → Nat → Int64)) (i0 : Int32) (r : Int32) (I1 : (Nat → Nat → Int32)) (L1 : (Nat → Nat → Int64)), (g_197 n dp (z, kd, Rf) 0 I L i0 = some (r, I1, L1) → K X d 197 0 0 (AI (fun x τ => x = r ∧ τ = (z, kd, I1, L1, Rf))) 0 [some (.int i0)] [] (z, kd, I, L, Rf) 0 0) := by
  intro n
  induction n with
  | zero => intro dp d hdp I L i0 r I1 L1; exact fun h => by cases h
  | succ n ih =>
    intro dp d hdp I L i0 r I1 L1
    · intro h
      rw [e_197_0] at h
      refine K_of b_197_0 h_197_0 ?_
      refine q_iload rfl ?_
      refine q_i2l ?_
      refine q_lconst (0) (by decide) ?_
      refine q_lconst (2) (by decide) ?_
      obtain ⟨d_6, h⟩ := ite_some h
      obtain ⟨⟨x0_6, I0_6, L0_6⟩, e_6, h⟩ := Option.bind_eq_some_iff.mp h
      dsimp only at h
      refine q_fs3I (a_193 X hS (d := d - 1) (by omega) e_6) (by omega) (Nat.le_refl _) (Nat.le_refl _) rfl (Nat.le_of_ble_eq_true rfl) ?_
      obtain ⟨w_9, h⟩ := ite_some h
      cases h
      exact q_iret (narB w_9) (Nat.le_refl _) (Nat.le_refl _) ⟨rfl, rfl⟩
theorem a_197 (X : GX) {z : Nat} {kd : Nat → Nat × Nat} {Rf : Nat → Nat → Option Nat} (hS : Sh z kd Rf) {n dp d : Nat} (hd : dp ≤ d) {I : (Nat → Nat → Int32)} {L : (Nat → Nat → Int64)} {i0 : Int32} {I1 : (Nat → Nat → Int32)} {L1 : (Nat → Nat → Int64)} {r : Int32} (h : g_197 n dp (z, kd, Rf) 0 I L i0 = some (r, I1, L1)) : Ct X d 197 0 0 [.int i0] (z, kd, I, L, Rf) (AI (fun x τ => x = r ∧ τ = (z, kd, I1, L1, Rf))) :=
  Ct_of mu_197 (Nat.le_of_ble_eq_true rfl) ((w_197 X hS n dp d hd I L i0 _ _ _) h)

/-! 198 CutFloorModel.allCarcasses()I -/
set_option maxHeartbeats 4000000 in
set_option maxRecDepth 100000 in
def g_198 : Nat → Nat → EN → Nat → (Nat → Nat → Int32) → (Nat → Nat → Int64) →  Option (Int32 × (Nat → Nat → Int32) × (Nat → Nat → Int64))
  | 0, _, _, _, _, _ => none
  | n + 1, dp, e, lab, I, L =>
    if lab = 0 then (some ((((I 107 0) + (I 107 1)) + (I 107 2)), I, L))
    else none
set_option maxRecDepth 100000 in
theorem e_198_0 (n dp : Nat) (e : EN) (I : (Nat → Nat → Int32)) (L : (Nat → Nat → Int64)) : g_198 (n + 1) dp e 0 I L = (some ((((I 107 0) + (I 107 1)) + (I 107 2)), I, L)) := by rw [g_198.eq_2, if_pos (show (0 : Nat) = 0 from rfl)]
set_option maxHeartbeats 8000000 in
set_option maxRecDepth 100000 in
theorem w_198 (X : GX) {z : Nat} {kd : Nat → Nat × Nat} {Rf : Nat → Nat → Option Nat} (hS : Sh z kd Rf) : ∀ (n dp d : Nat), dp ≤ d → ∀ (I : (Nat → Nat → Int32)) (L : (Nat → Nat → Int64)) (r : Int32) (I1 : (Nat → Nat → Int32)) (L1 : (Nat → Nat → Int64)), (g_198 n dp (z, kd, Rf) 0 I L = some (r, I1, L1) → K X d 198 0 0 (AI (fun x τ => x = r ∧ τ = (z, kd, I1, L1, Rf))) 0 [some (.ref 105)] [] (z, kd, I, L, Rf) 0 0) := by
  intro n
  induction n with
  | zero => intro dp d hdp I L r I1 L1; exact fun h => by cases h
  | succ n ih =>
    intro dp d hdp I L r I1 L1
    · intro h
      rw [e_198_0] at h
      refine K_of b_198_0 h_198_0 ?_
      refine q_aload rfl ?_
      refine q_getRs (c0 := 12) (j := 3) rfl rfl (zl hS 105 (by decide)) (sk hS 105 (by decide) rfl) rfl (by decide) (r_105_3 hS) ?_
      refine q_iconst (0) (by decide) ?_
      refine q_ialN (0) rfl (zl hS 107 (by decide)) (sk hS 107 (by decide) rfl) (by decide) (by decide) ?_
      refine q_aload rfl ?_
      refine q_getRs (c0 := 12) (j := 3) rfl rfl (zl hS 105 (by decide)) (sk hS 105 (by decide) rfl) rfl (by decide) (r_105_3 hS) ?_
      refine q_iconst (1) (by decide) ?_
      refine q_ialN (1) rfl (zl hS 107 (by decide)) (sk hS 107 (by decide) rfl) (by decide) (by decide) ?_
      refine q_iadd ?_
      refine q_aload rfl ?_
      refine q_getRs (c0 := 12) (j := 3) rfl rfl (zl hS 105 (by decide)) (sk hS 105 (by decide) rfl) rfl (by decide) (r_105_3 hS) ?_
      refine q_iconst (2) (by decide) ?_
      refine q_ialN (2) rfl (zl hS 107 (by decide)) (sk hS 107 (by decide) rfl) (by decide) (by decide) ?_
      refine q_iadd ?_
      cases h
      exact q_iret rfl (Nat.le_refl _) (Nat.le_refl _) ⟨rfl, rfl⟩
theorem a_198 (X : GX) {z : Nat} {kd : Nat → Nat × Nat} {Rf : Nat → Nat → Option Nat} (hS : Sh z kd Rf) {n dp d : Nat} (hd : dp ≤ d) {I : (Nat → Nat → Int32)} {L : (Nat → Nat → Int64)} {I1 : (Nat → Nat → Int32)} {L1 : (Nat → Nat → Int64)} {r : Int32} (h : g_198 n dp (z, kd, Rf) 0 I L = some (r, I1, L1)) : Ct X d 198 0 0 [.ref 105] (z, kd, I, L, Rf) (AI (fun x τ => x = r ∧ τ = (z, kd, I1, L1, Rf))) :=
  Ct_of mu_198 (Nat.le_of_ble_eq_true rfl) ((w_198 X hS n dp d hd I L _ _ _) h)

/-! 200 CutFloorModel.was(I)I -/
set_option maxHeartbeats 4000000 in
set_option maxRecDepth 100000 in
def g_200 : Nat → Nat → EN → Nat → (Nat → Nat → Int32) → (Nat → Nat → Int64) → Int32 →  Option (Int32 × (Nat → Nat → Int32) × (Nat → Nat → Int64))
  | 0, _, _, _, _, _, _ => none
  | n + 1, dp, e, lab, I, L, i1 =>
    if lab = 0 then (stI (u2 I 105 1 (0 : Int32)) (fun I_2 => (stI (u2 I_2 105 32 (0 : Int32)) (fun I_7 => (stI (u2 I_7 105 51 (0 : Int32)) (fun I_12 => (some (i1, I_12, L))))))))
    else none
set_option maxRecDepth 100000 in
theorem e_200_0 (n dp : Nat) (e : EN) (I : (Nat → Nat → Int32)) (L : (Nat → Nat → Int64)) (i1 : Int32) : g_200 (n + 1) dp e 0 I L i1 = (stI (u2 I 105 1 (0 : Int32)) (fun I_2 => (stI (u2 I_2 105 32 (0 : Int32)) (fun I_7 => (stI (u2 I_7 105 51 (0 : Int32)) (fun I_12 => (some (i1, I_12, L)))))))) := by rw [g_200.eq_2, if_pos (show (0 : Nat) = 0 from rfl)]
set_option maxHeartbeats 8000000 in
set_option maxRecDepth 100000 in
theorem w_200 (X : GX) {z : Nat} {kd : Nat → Nat × Nat} {Rf : Nat → Nat → Option Nat} (hS : Sh z kd Rf) : ∀ (n dp d : Nat), dp ≤ d → ∀ (I : (Nat → Nat → Int32)) (L : (Nat → Nat → Int64)) (i1 : Int32) (r : Int32) (I1 : (Nat → Nat → Int32)) (L1 : (Nat → Nat → Int64)), (g_200 n dp (z, kd, Rf) 0 I L i1 = some (r, I1, L1) → K X d 200 0 0 (AI (fun x τ => x = r ∧ τ = (z, kd, I1, L1, Rf))) 0 [some (.ref 105), some (.int i1)] [] (z, kd, I, L, Rf) 0 0) := by
  intro n
  induction n with
  | zero => intro dp d hdp I L i1 r I1 L1; exact fun h => by cases h
  | succ n ih =>
    intro dp d hdp I L i1 r I1 L1
    · intro h
      rw [e_200_0] at h
      refine K_of b_200_0 h_200_0 ?_
      refine q_aload rfl ?_
      refine q_iconst (0) (by decide) ?_
      refine q_putI (c0 := 12) (j := 1) rfl rfl (zl hS 105 (by decide)) (sk hS 105 (by decide) rfl) rfl ?_
      obtain ⟨I_2, nI_2, h⟩ := stI_some h
      refine q_nI nI_2 ?_
      refine q_aload rfl ?_
      refine q_iconst (0) (by decide) ?_
      refine q_putZ (c0 := 12) (j := 32) rfl rfl (zl hS 105 (by decide)) (sk hS 105 (by decide) rfl) rfl (Or.inl rfl) ?_
      obtain ⟨I_7, nI_7, h⟩ := stI_some h
      refine q_nI nI_7 ?_
      refine q_aload rfl ?_
      refine q_iconst (0) (by decide) ?_
      refine q_putZ (c0 := 12) (j := 51) rfl rfl (zl hS 105 (by decide)) (sk hS 105 (by decide) rfl) rfl (Or.inl rfl) ?_
      obtain ⟨I_12, nI_12, h⟩ := stI_some h
      refine q_nI nI_12 ?_
      refine q_iload rfl ?_
      cases h
      exact q_iret rfl (Nat.le_refl _) (Nat.le_refl _) ⟨rfl, rfl⟩
theorem a_200 (X : GX) {z : Nat} {kd : Nat → Nat × Nat} {Rf : Nat → Nat → Option Nat} (hS : Sh z kd Rf) {n dp d : Nat} (hd : dp ≤ d) {I : (Nat → Nat → Int32)} {L : (Nat → Nat → Int64)} {i1 : Int32} {I1 : (Nat → Nat → Int32)} {L1 : (Nat → Nat → Int64)} {r : Int32} (h : g_200 n dp (z, kd, Rf) 0 I L i1 = some (r, I1, L1)) : Ct X d 200 0 0 [.ref 105, .int i1] (z, kd, I, L, Rf) (AI (fun x τ => x = r ∧ τ = (z, kd, I1, L1, Rf))) :=
  Ct_of mu_200 (Nat.le_of_ble_eq_true rfl) ((w_200 X hS n dp d hd I L i1 _ _ _) h)

/-! 199 CutFloorModel.become(II)I -/
set_option maxHeartbeats 4000000 in
set_option maxRecDepth 100000 in
def g_199 : Nat → Nat → EN → Nat → (Nat → Nat → Int32) → (Nat → Nat → Int64) → Int32 → Int32 →  Option (Int32 × (Nat → Nat → Int32) × (Nat → Nat → Int64))
  | 0, _, _, _, _, _, _, _ => none
  | n + 1, dp, e, lab, I, L, i1, i2 =>
    if lab = 0 then (if 0 ≤ i1 ∧ (Int32.toNatClampNeg i1) < 1570 then (stI (I 107 (Int32.toNatClampNeg i1)) (fun v_6 => (if 0 ≤ i1 ∧ (Int32.toNatClampNeg i1) < 1570 then (stI (u2 I 107 (Int32.toNatClampNeg i1) i2) (fun I_13 => (if 1 ≤ dp then (g_200 n (dp - 1) e 0 I_13 L v_6).bind (fun ⟨x0_16, I0_16, L0_16⟩ => (some (x0_16, I0_16, L0_16))) else none))) else none))) else none)
    else none
set_option maxRecDepth 100000 in
theorem e_199_0 (n dp : Nat) (e : EN) (I : (Nat → Nat → Int32)) (L : (Nat → Nat → Int64)) (i1 : Int32) (i2 : Int32) : g_199 (n + 1) dp e 0 I L i1 i2 = (if 0 ≤ i1 ∧ (Int32.toNatClampNeg i1) < 1570 then (stI (I 107 (Int32.toNatClampNeg i1)) (fun v_6 => (if 0 ≤ i1 ∧ (Int32.toNatClampNeg i1) < 1570 then (stI (u2 I 107 (Int32.toNatClampNeg i1) i2) (fun I_13 => (if 1 ≤ dp then (g_200 n (dp - 1) e 0 I_13 L v_6).bind (fun ⟨x0_16, I0_16, L0_16⟩ => (some (x0_16, I0_16, L0_16))) else none))) else none))) else none) := by rw [g_199.eq_2, if_pos (show (0 : Nat) = 0 from rfl)]
set_option maxHeartbeats 8000000 in
set_option maxRecDepth 100000 in
theorem w_199 (X : GX) {z : Nat} {kd : Nat → Nat × Nat} {Rf : Nat → Nat → Option Nat} (hS : Sh z kd Rf) : ∀ (n dp d : Nat), dp ≤ d → ∀ (I : (Nat → Nat → Int32)) (L : (Nat → Nat → Int64)) (i1 : Int32) (i2 : Int32) (r : Int32) (I1 : (Nat → Nat → Int32)) (L1 : (Nat → Nat → Int64)), (g_199 n dp (z, kd, Rf) 0 I L i1 i2 = some (r, I1, L1) → K X d 199 0 0 (AI (fun x τ => x = r ∧ τ = (z, kd, I1, L1, Rf))) 0 [some (.ref 105), some (.int i1), some (.int i2), none] [] (z, kd, I, L, Rf) 0 0) := by
  intro n
  induction n with
  | zero => intro dp d hdp I L i1 i2 r I1 L1; exact fun h => by cases h
  | succ n ih =>
    intro dp d hdp I L i1 i2 r I1 L1
    · intro h
      rw [e_199_0] at h
      refine K_of b_199_0 h_199_0 ?_
      refine q_aload rfl ?_
      refine q_getRs (c0 := 12) (j := 3) rfl rfl (zl hS 105 (by decide)) (sk hS 105 (by decide) rfl) rfl (by decide) (r_105_3 hS) ?_
      refine q_iload rfl ?_
      obtain ⟨⟨u_5, v_5⟩, h⟩ := ite_some h
      refine q_ialN (Int32.toNatClampNeg i1) (nx u_5) (zl hS 107 (by decide)) (sk hS 107 (by decide) rfl) v_5 (by decide) ?_
      obtain ⟨v_6, nv_6, h⟩ := stI_some h
      refine q_eqi nv_6.symm ?_
      refine q_istore (ls1 := [some (.ref 105), some (.int i1), some (.int i2), some (.int v_6)]) (Nat.le_of_ble_eq_true rfl) rfl ?_
      refine q_aload rfl ?_
      refine q_getRs (c0 := 12) (j := 3) rfl rfl (zl hS 105 (by decide)) (sk hS 105 (by decide) rfl) rfl (by decide) (r_105_3 hS) ?_
      refine q_iload rfl ?_
      refine q_iload rfl ?_
      obtain ⟨⟨u_13, v_13⟩, h⟩ := ite_some h
      refine q_iasN (Int32.toNatClampNeg i1) (nx u_13) (zl hS 107 (by decide)) (sk hS 107 (by decide) rfl) v_13 (by decide) ?_
      obtain ⟨I_13, nI_13, h⟩ := stI_some h
      refine q_nI nI_13 ?_
      refine q_aload rfl ?_
      refine q_iload rfl ?_
      obtain ⟨d_16, h⟩ := ite_some h
      obtain ⟨⟨x0_16, I0_16, L0_16⟩, e_16, h⟩ := Option.bind_eq_some_iff.mp h
      dsimp only at h
      refine q_fv2I (a_200 X hS (d := d - 1) (by omega) e_16) (by omega) (Nat.le_refl _) (Nat.le_refl _) rfl (Nat.le_of_ble_eq_true rfl) ⟨(zl hS 105 (by decide)), congrArg Prod.fst (sk hS 105 (by decide) rfl), by decide⟩ ?_
      cases h
      exact q_iret rfl (Nat.le_refl _) (Nat.le_refl _) ⟨rfl, rfl⟩
theorem a_199 (X : GX) {z : Nat} {kd : Nat → Nat × Nat} {Rf : Nat → Nat → Option Nat} (hS : Sh z kd Rf) {n dp d : Nat} (hd : dp ≤ d) {I : (Nat → Nat → Int32)} {L : (Nat → Nat → Int64)} {i1 : Int32} {i2 : Int32} {I1 : (Nat → Nat → Int32)} {L1 : (Nat → Nat → Int64)} {r : Int32} (h : g_199 n dp (z, kd, Rf) 0 I L i1 i2 = some (r, I1, L1)) : Ct X d 199 0 0 [.ref 105, .int i1, .int i2] (z, kd, I, L, Rf) (AI (fun x τ => x = r ∧ τ = (z, kd, I1, L1, Rf))) :=
  Ct_of mu_199 (Nat.le_of_ble_eq_true rfl) ((w_199 X hS n dp d hd I L i1 i2 _ _ _) h)

/-! 196 CutFloorModel.carcasses(II)I -/
set_option maxHeartbeats 4000000 in
set_option maxRecDepth 100000 in
def g_196 : Nat → Nat → EN → Nat → (Nat → Nat → Int32) → (Nat → Nat → Int64) → Int32 → Int32 →  Option (Int32 × (Nat → Nat → Int32) × (Nat → Nat → Int64))
  | 0, _, _, _, _, _, _, _ => none
  | n + 1, dp, e, lab, I, L, i1, i2 =>
    if lab = 0 then (stI (u2 I 105 0 (0 : Int32)) (fun I_2 => (if 1 ≤ dp then (g_197 n (dp - 1) e 0 I_2 L i1).bind (fun ⟨x0_6, I0_6, L0_6⟩ => (if x0_6 = 0 then (if 1 ≤ dp then (g_194 n (dp - 1) e 0 I0_6 L0_6 (-1 : Int32)).bind (fun ⟨x1_26, I1_26, L1_26⟩ => (some (x1_26, I1_26, L1_26))) else none) else (if 1 ≤ dp then (g_193 n (dp - 1) e 0 I0_6 L0_6 (Int32.toInt64 i2) (0 : Int64) (8 : Int64)).bind (fun ⟨x1_18, I1_18, L1_18⟩ => (if x1_18 = 0 then (if 1 ≤ dp then (g_194 n (dp - 1) e 0 I1_18 L1_18 (-1 : Int32)).bind (fun ⟨x2_26, I2_26, L2_26⟩ => (some (x2_26, I2_26, L2_26))) else none) else (if 1 ≤ dp then (g_198 n (dp - 1) e 0 I1_18 L1_18).bind (fun ⟨x2_31, I2_31, L2_31⟩ => (if 0 ≤ ((0 : Int32) + i1) ∧ (Int32.toNatClampNeg ((0 : Int32) + i1)) < 1570 then (if ((x2_31 - (I2_31 107 (Int32.toNatClampNeg ((0 : Int32) + i1)))) + i2) ≤ (8 : Int32) then (if 1 ≤ dp then (g_199 n (dp - 1) e 0 I2_31 L2_31 ((0 : Int32) + i1) i2).bind (fun ⟨x3_64, I3_64, L3_64⟩ => (some (x3_64, I3_64, L3_64))) else none) else (if 1 ≤ dp then (g_194 n (dp - 1) e 0 I2_31 L2_31 (-3 : Int32)).bind (fun ⟨x3_53, I3_53, L3_53⟩ => (some (x3_53, I3_53, L3_53))) else none)) else none)) else none))) else none))) else none)))
    else none
set_option maxRecDepth 100000 in
theorem e_196_0 (n dp : Nat) (e : EN) (I : (Nat → Nat → Int32)) (L : (Nat → Nat → Int64)) (i1 : Int32) (i2 : Int32) : g_196 (n + 1) dp e 0 I L i1 i2 = (stI (u2 I 105 0 (0 : Int32)) (fun I_2 => (if 1 ≤ dp then (g_197 n (dp - 1) e 0 I_2 L i1).bind (fun ⟨x0_6, I0_6, L0_6⟩ => (if x0_6 = 0 then (if 1 ≤ dp then (g_194 n (dp - 1) e 0 I0_6 L0_6 (-1 : Int32)).bind (fun ⟨x1_26, I1_26, L1_26⟩ => (some (x1_26, I1_26, L1_26))) else none) else (if 1 ≤ dp then (g_193 n (dp - 1) e 0 I0_6 L0_6 (Int32.toInt64 i2) (0 : Int64) (8 : Int64)).bind (fun ⟨x1_18, I1_18, L1_18⟩ => (if x1_18 = 0 then (if 1 ≤ dp then (g_194 n (dp - 1) e 0 I1_18 L1_18 (-1 : Int32)).bind (fun ⟨x2_26, I2_26, L2_26⟩ => (some (x2_26, I2_26, L2_26))) else none) else (if 1 ≤ dp then (g_198 n (dp - 1) e 0 I1_18 L1_18).bind (fun ⟨x2_31, I2_31, L2_31⟩ => (if 0 ≤ ((0 : Int32) + i1) ∧ (Int32.toNatClampNeg ((0 : Int32) + i1)) < 1570 then (if ((x2_31 - (I2_31 107 (Int32.toNatClampNeg ((0 : Int32) + i1)))) + i2) ≤ (8 : Int32) then (if 1 ≤ dp then (g_199 n (dp - 1) e 0 I2_31 L2_31 ((0 : Int32) + i1) i2).bind (fun ⟨x3_64, I3_64, L3_64⟩ => (some (x3_64, I3_64, L3_64))) else none) else (if 1 ≤ dp then (g_194 n (dp - 1) e 0 I2_31 L2_31 (-3 : Int32)).bind (fun ⟨x3_53, I3_53, L3_53⟩ => (some (x3_53, I3_53, L3_53))) else none)) else none)) else none))) else none))) else none))) := by rw [g_196.eq_2, if_pos (show (0 : Nat) = 0 from rfl)]
set_option maxHeartbeats 8000000 in
set_option maxRecDepth 100000 in
theorem w_196 (X : GX) {z : Nat} {kd : Nat → Nat × Nat} {Rf : Nat → Nat → Option Nat} (hS : Sh z kd Rf) : ∀ (n dp d : Nat), dp ≤ d → ∀ (I : (Nat → Nat → Int32)) (L : (Nat → Nat → Int64)) (i1 : Int32) (i2 : Int32) (r : Int32) (I1 : (Nat → Nat → Int32)) (L1 : (Nat → Nat → Int64)), (g_196 n dp (z, kd, Rf) 0 I L i1 i2 = some (r, I1, L1) → K X d 196 0 0 (AI (fun x τ => x = r ∧ τ = (z, kd, I1, L1, Rf))) 0 [some (.ref 105), some (.int i1), some (.int i2)] [] (z, kd, I, L, Rf) 0 0) := by
  intro n
  induction n with
  | zero => intro dp d hdp I L i1 i2 r I1 L1; exact fun h => by cases h
  | succ n ih =>
    intro dp d hdp I L i1 i2 r I1 L1
    · intro h
      rw [e_196_0] at h
      refine K_of b_196_0 h_196_0 ?_
      refine q_aload rfl ?_
      refine q_iconst (0) (by decide) ?_
      refine q_putI (c0 := 12) (j := 0) rfl rfl (zl hS 105 (by decide)) (sk hS 105 (by decide) rfl) rfl ?_
      obtain ⟨I_2, nI_2, h⟩ := stI_some h
      refine q_nI nI_2 ?_
      refine q_iload rfl ?_
      obtain ⟨d_6, h⟩ := ite_some h
      obtain ⟨⟨x0_6, I0_6, L0_6⟩, e_6, h⟩ := Option.bind_eq_some_iff.mp h
      dsimp only at h
      refine q_fs1I (a_197 X hS (d := d - 1) (by omega) e_6) (by omega) (Nat.le_refl _) (Nat.le_refl _) rfl (Nat.le_of_ble_eq_true rfl) ?_
      refine q_if_eq (fun c_9 => ?_) (fun c_9 => ?_)
      · rw [if_pos c_9] at h
        refine K_of b_196_24 h_196_24 ?_
        refine q_aload rfl ?_
        refine q_iconst (-1) (by decide) ?_
        obtain ⟨d_26, h⟩ := ite_some h
        obtain ⟨⟨x1_26, I1_26, L1_26⟩, e_26, h⟩ := Option.bind_eq_some_iff.mp h
        dsimp only at h
        refine q_fv2I (a_194 X hS (d := d - 1) (by omega) e_26) (by omega) (Nat.le_refl _) (Nat.le_refl _) rfl (Nat.le_of_ble_eq_true rfl) ⟨(zl hS 105 (by decide)), congrArg Prod.fst (sk hS 105 (by decide) rfl), by decide⟩ ?_
        cases h
        exact q_iret rfl (Nat.le_refl _) (Nat.le_refl _) ⟨rfl, rfl⟩
      · rw [if_neg c_9] at h
        refine q_iload rfl ?_
        refine q_i2l ?_
        refine q_lconst (0) (by decide) ?_
        refine q_lconst (8) (by decide) ?_
        obtain ⟨d_18, h⟩ := ite_some h
        obtain ⟨⟨x1_18, I1_18, L1_18⟩, e_18, h⟩ := Option.bind_eq_some_iff.mp h
        dsimp only at h
        refine q_fs3I (a_193 X hS (d := d - 1) (by omega) e_18) (by omega) (Nat.le_refl _) (Nat.le_refl _) rfl (Nat.le_of_ble_eq_true rfl) ?_
        refine q_if_ne (fun c_21 => ?_) (fun c_21 => ?_)
        · rw [if_neg c_21] at h
          refine K_of b_196_30 h_196_30 ?_
          refine q_aload rfl ?_
          obtain ⟨d_31, h⟩ := ite_some h
          obtain ⟨⟨x2_31, I2_31, L2_31⟩, e_31, h⟩ := Option.bind_eq_some_iff.mp h
          dsimp only at h
          refine q_fv1I (a_198 X hS (d := d - 1) (by omega) e_31) (by omega) (Nat.le_refl _) (Nat.le_refl _) rfl (Nat.le_of_ble_eq_true rfl) ⟨(zl hS 105 (by decide)), congrArg Prod.fst (sk hS 105 (by decide) rfl), by decide⟩ ?_
          refine q_aload rfl ?_
          refine q_getRs (c0 := 12) (j := 3) rfl rfl (zl hS 105 (by decide)) (sk hS 105 (by decide) rfl) rfl (by decide) (r_105_3 hS) ?_
          refine q_iconst (0) (by decide) ?_
          refine q_iload rfl ?_
          refine q_iadd ?_
          obtain ⟨⟨u_41, v_41⟩, h⟩ := ite_some h
          refine q_ialN (Int32.toNatClampNeg ((0 : Int32) + i1)) (nx u_41) (zl hS 107 (by decide)) (sk hS 107 (by decide) rfl) v_41 (by decide) ?_
          refine q_isub ?_
          refine q_iload rfl ?_
          refine q_iadd ?_
          refine q_iconst (8) (by decide) ?_
          refine q_icmp_le (fun c_47 => ?_) (fun c_47 => ?_)
          · rw [if_pos c_47] at h
            refine K_of b_196_59 h_196_59 ?_
            refine q_aload rfl ?_
            refine q_iconst (0) (by decide) ?_
            refine q_iload rfl ?_
            refine q_iadd ?_
            refine q_iload rfl ?_
            obtain ⟨d_64, h⟩ := ite_some h
            obtain ⟨⟨x3_64, I3_64, L3_64⟩, e_64, h⟩ := Option.bind_eq_some_iff.mp h
            dsimp only at h
            refine q_fv3I (a_199 X hS (d := d - 1) (by omega) e_64) (by omega) (Nat.le_refl _) (Nat.le_refl _) rfl (Nat.le_of_ble_eq_true rfl) ⟨(zl hS 105 (by decide)), congrArg Prod.fst (sk hS 105 (by decide) rfl), by decide⟩ ?_
            refine q_end ?_
            refine K_of b_196_67 h_196_67 ?_
            cases h
            exact q_iret rfl (Nat.le_refl _) (Nat.le_refl _) ⟨rfl, rfl⟩
          · rw [if_neg c_47] at h
            refine q_aload rfl ?_
            refine q_iconst (-3) (by decide) ?_
            obtain ⟨d_53, h⟩ := ite_some h
            obtain ⟨⟨x3_53, I3_53, L3_53⟩, e_53, h⟩ := Option.bind_eq_some_iff.mp h
            dsimp only at h
            refine q_fv2I (a_194 X hS (d := d - 1) (by omega) e_53) (by omega) (Nat.le_refl _) (Nat.le_refl _) rfl (Nat.le_of_ble_eq_true rfl) ⟨(zl hS 105 (by decide)), congrArg Prod.fst (sk hS 105 (by decide) rfl), by decide⟩ ?_
            refine q_goto ?_
            refine K_of b_196_67 h_196_67 ?_
            cases h
            exact q_iret rfl (Nat.le_refl _) (Nat.le_refl _) ⟨rfl, rfl⟩
        · rw [if_pos c_21] at h
          refine q_end ?_
          refine K_of b_196_24 h_196_24 ?_
          refine q_aload rfl ?_
          refine q_iconst (-1) (by decide) ?_
          obtain ⟨d_26, h⟩ := ite_some h
          obtain ⟨⟨x2_26, I2_26, L2_26⟩, e_26, h⟩ := Option.bind_eq_some_iff.mp h
          dsimp only at h
          refine q_fv2I (a_194 X hS (d := d - 1) (by omega) e_26) (by omega) (Nat.le_refl _) (Nat.le_refl _) rfl (Nat.le_of_ble_eq_true rfl) ⟨(zl hS 105 (by decide)), congrArg Prod.fst (sk hS 105 (by decide) rfl), by decide⟩ ?_
          cases h
          exact q_iret rfl (Nat.le_refl _) (Nat.le_refl _) ⟨rfl, rfl⟩
theorem a_196 (X : GX) {z : Nat} {kd : Nat → Nat × Nat} {Rf : Nat → Nat → Option Nat} (hS : Sh z kd Rf) {n dp d : Nat} (hd : dp ≤ d) {I : (Nat → Nat → Int32)} {L : (Nat → Nat → Int64)} {i1 : Int32} {i2 : Int32} {I1 : (Nat → Nat → Int32)} {L1 : (Nat → Nat → Int64)} {r : Int32} (h : g_196 n dp (z, kd, Rf) 0 I L i1 i2 = some (r, I1, L1)) : Ct X d 196 0 0 [.ref 105, .int i1, .int i2] (z, kd, I, L, Rf) (AI (fun x τ => x = r ∧ τ = (z, kd, I1, L1, Rf))) :=
  Ct_of mu_196 (Nat.le_of_ble_eq_true rfl) ((w_196 X hS n dp d hd I L i1 i2 _ _ _) h)

/-! 202 CutFloorModel.isPart(I)Z -/
set_option maxHeartbeats 4000000 in
set_option maxRecDepth 100000 in
def g_202 : Nat → Nat → EN → Nat → (Nat → Nat → Int32) → (Nat → Nat → Int64) → Int32 →  Option (Int32 × (Nat → Nat → Int32) × (Nat → Nat → Int64))
  | 0, _, _, _, _, _, _ => none
  | n + 1, dp, e, lab, I, L, i0 =>
    if lab = 0 then (if 1 ≤ dp then (g_193 n (dp - 1) e 0 I L (Int32.toInt64 i0) (0 : Int64) (9 : Int64)).bind (fun ⟨x0_6, I0_6, L0_6⟩ => (if x0_6 = 0 ∨ x0_6 = 1 then (some (x0_6, I0_6, L0_6)) else none)) else none)
    else none
set_option maxRecDepth 100000 in
theorem e_202_0 (n dp : Nat) (e : EN) (I : (Nat → Nat → Int32)) (L : (Nat → Nat → Int64)) (i0 : Int32) : g_202 (n + 1) dp e 0 I L i0 = (if 1 ≤ dp then (g_193 n (dp - 1) e 0 I L (Int32.toInt64 i0) (0 : Int64) (9 : Int64)).bind (fun ⟨x0_6, I0_6, L0_6⟩ => (if x0_6 = 0 ∨ x0_6 = 1 then (some (x0_6, I0_6, L0_6)) else none)) else none) := by rw [g_202.eq_2, if_pos (show (0 : Nat) = 0 from rfl)]
set_option maxHeartbeats 8000000 in
set_option maxRecDepth 100000 in
theorem w_202 (X : GX) {z : Nat} {kd : Nat → Nat × Nat} {Rf : Nat → Nat → Option Nat} (hS : Sh z kd Rf) : ∀ (n dp d : Nat), dp ≤ d → ∀ (I : (Nat → Nat → Int32)) (L : (Nat → Nat → Int64)) (i0 : Int32) (r : Int32) (I1 : (Nat → Nat → Int32)) (L1 : (Nat → Nat → Int64)), (g_202 n dp (z, kd, Rf) 0 I L i0 = some (r, I1, L1) → K X d 202 0 0 (AI (fun x τ => x = r ∧ τ = (z, kd, I1, L1, Rf))) 0 [some (.int i0)] [] (z, kd, I, L, Rf) 0 0) := by
  intro n
  induction n with
  | zero => intro dp d hdp I L i0 r I1 L1; exact fun h => by cases h
  | succ n ih =>
    intro dp d hdp I L i0 r I1 L1
    · intro h
      rw [e_202_0] at h
      refine K_of b_202_0 h_202_0 ?_
      refine q_iload rfl ?_
      refine q_i2l ?_
      refine q_lconst (0) (by decide) ?_
      refine q_lconst (9) (by decide) ?_
      obtain ⟨d_6, h⟩ := ite_some h
      obtain ⟨⟨x0_6, I0_6, L0_6⟩, e_6, h⟩ := Option.bind_eq_some_iff.mp h
      dsimp only at h
      refine q_fs3I (a_193 X hS (d := d - 1) (by omega) e_6) (by omega) (Nat.le_refl _) (Nat.le_refl _) rfl (Nat.le_of_ble_eq_true rfl) ?_
      obtain ⟨w_9, h⟩ := ite_some h
      cases h
      exact q_iret (narB w_9) (Nat.le_refl _) (Nat.le_refl _) ⟨rfl, rfl⟩
theorem a_202 (X : GX) {z : Nat} {kd : Nat → Nat × Nat} {Rf : Nat → Nat → Option Nat} (hS : Sh z kd Rf) {n dp d : Nat} (hd : dp ≤ d) {I : (Nat → Nat → Int32)} {L : (Nat → Nat → Int64)} {i0 : Int32} {I1 : (Nat → Nat → Int32)} {L1 : (Nat → Nat → Int64)} {r : Int32} (h : g_202 n dp (z, kd, Rf) 0 I L i0 = some (r, I1, L1)) : Ct X d 202 0 0 [.int i0] (z, kd, I, L, Rf) (AI (fun x τ => x = r ∧ τ = (z, kd, I1, L1, Rf))) :=
  Ct_of mu_202 (Nat.le_of_ble_eq_true rfl) ((w_202 X hS n dp d hd I L i0 _ _ _) h)

