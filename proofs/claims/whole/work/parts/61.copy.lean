section
set_option maxRecDepth 100000 in
theorem ev_186_0 {dp : Nat} {e : EN} {I : JI} {L : JI} {a0 : Nat} {a1 : Nat} {P_ : (JI × JI) → Prop} (h : Ev (fun n => (if (a1 < e.1) ∧ ((e.2.1 a1).1 = 10) then ((e.2.2 a1 0).bind (fun b_1 => (if (a0 < e.1) ∧ ((e.2.1 a0).1 = 10) then ((e.2.2 a0 0).bind (fun b_6 => (if (a1 < e.1) ∧ ((e.2.1 a1).1 = 10) then (if (b_1 < e.1) ∧ ((e.2.1 b_1).1 = 13) then (if (b_6 < e.1) ∧ ((e.2.1 b_6).1 = 13) then (if ((¬ ((0 : Int) < 0)) ∧ ((¬ ((0 : Int) < 0)) ∧ ((¬ ((I a1 10) < 0)) ∧ (((0 + (Int.toNat (I a1 10))) ≤ (e.2.1 b_1).2) ∧ ((0 + (Int.toNat (I a1 10))) ≤ (e.2.1 b_6).2))))) ∧ (1 ≤ dp) then (if 0 ≤ (I a1 10) then (stI (cp2 I b_6 b_1 0 0 (I a1 10)) (fun I_14 => (if (a1 < e.1) ∧ ((e.2.1 a1).1 = 10) then ((e.2.2 a1 1).bind (fun b_18 => (if (a0 < e.1) ∧ ((e.2.1 a0).1 = 10) then ((e.2.2 a0 1).bind (fun b_23 => (if (a1 < e.1) ∧ ((e.2.1 a1).1 = 10) then (if (b_18 < e.1) ∧ ((e.2.1 b_18).1 = 13) then (if (b_23 < e.1) ∧ ((e.2.1 b_23).1 = 13) then (if ((¬ ((0 : Int) < 0)) ∧ ((¬ ((0 : Int) < 0)) ∧ ((¬ ((I_14 a1 10) < 0)) ∧ (((0 + (Int.toNat (I_14 a1 10))) ≤ (e.2.1 b_18).2) ∧ ((0 + (Int.toNat (I_14 a1 10))) ≤ (e.2.1 b_23).2))))) ∧ (1 ≤ dp) then (if 0 ≤ (I_14 a1 10) then (stI (cp2 I_14 b_23 b_18 0 0 (I_14 a1 10)) (fun I_31 => (if (a1 < e.1) ∧ ((e.2.1 a1).1 = 10) then ((e.2.2 a1 2).bind (fun b_35 => (if (a0 < e.1) ∧ ((e.2.1 a0).1 = 10) then ((e.2.2 a0 2).bind (fun b_40 => (if (a1 < e.1) ∧ ((e.2.1 a1).1 = 10) then (if (b_35 < e.1) ∧ ((e.2.1 b_35).1 = 13) then (if (b_40 < e.1) ∧ ((e.2.1 b_40).1 = 13) then (if ((¬ ((0 : Int) < 0)) ∧ ((¬ ((0 : Int) < 0)) ∧ ((¬ ((I_31 a1 10) < 0)) ∧ (((0 + (Int.toNat (I_31 a1 10))) ≤ (e.2.1 b_35).2) ∧ ((0 + (Int.toNat (I_31 a1 10))) ≤ (e.2.1 b_40).2))))) ∧ (1 ≤ dp) then (if 0 ≤ (I_31 a1 10) then (stI (cp2 I_31 b_40 b_35 0 0 (I_31 a1 10)) (fun I_48 => (if (a1 < e.1) ∧ ((e.2.1 a1).1 = 10) then ((e.2.2 a1 3).bind (fun b_52 => (if (a0 < e.1) ∧ ((e.2.1 a0).1 = 10) then ((e.2.2 a0 3).bind (fun b_57 => (if (a1 < e.1) ∧ ((e.2.1 a1).1 = 10) then (if (b_52 < e.1) ∧ ((e.2.1 b_52).1 = 13) then (if (b_57 < e.1) ∧ ((e.2.1 b_57).1 = 13) then (if ((¬ ((0 : Int) < 0)) ∧ ((¬ ((0 : Int) < 0)) ∧ ((¬ ((I_48 a1 10) < 0)) ∧ (((0 + (Int.toNat (I_48 a1 10))) ≤ (e.2.1 b_52).2) ∧ ((0 + (Int.toNat (I_48 a1 10))) ≤ (e.2.1 b_57).2))))) ∧ (1 ≤ dp) then (if 0 ≤ (I_48 a1 10) then (stI (cp2 I_48 b_57 b_52 0 0 (I_48 a1 10)) (fun I_65 => (if (a1 < e.1) ∧ ((e.2.1 a1).1 = 10) then ((e.2.2 a1 4).bind (fun b_69 => (if (a0 < e.1) ∧ ((e.2.1 a0).1 = 10) then ((e.2.2 a0 4).bind (fun b_74 => (if (a1 < e.1) ∧ ((e.2.1 a1).1 = 10) then (if (b_69 < e.1) ∧ ((e.2.1 b_69).1 = 13) then (if (b_74 < e.1) ∧ ((e.2.1 b_74).1 = 13) then (if ((¬ ((0 : Int) < 0)) ∧ ((¬ ((0 : Int) < 0)) ∧ ((¬ ((I_65 a1 10) < 0)) ∧ (((0 + (Int.toNat (I_65 a1 10))) ≤ (e.2.1 b_69).2) ∧ ((0 + (Int.toNat (I_65 a1 10))) ≤ (e.2.1 b_74).2))))) ∧ (1 ≤ dp) then (if 0 ≤ (I_65 a1 10) then (stI (cp2 I_65 b_74 b_69 0 0 (I_65 a1 10)) (fun I_82 => (if (a1 < e.1) ∧ ((e.2.1 a1).1 = 10) then ((e.2.2 a1 5).bind (fun b_86 => (if (a0 < e.1) ∧ ((e.2.1 a0).1 = 10) then ((e.2.2 a0 5).bind (fun b_91 => (if (a1 < e.1) ∧ ((e.2.1 a1).1 = 10) then (if (b_86 < e.1) ∧ ((e.2.1 b_86).1 = 13) then (if (b_91 < e.1) ∧ ((e.2.1 b_91).1 = 13) then (if ((¬ ((0 : Int) < 0)) ∧ ((¬ ((0 : Int) < 0)) ∧ ((¬ ((I_82 a1 11) < 0)) ∧ (((0 + (Int.toNat (I_82 a1 11))) ≤ (e.2.1 b_86).2) ∧ ((0 + (Int.toNat (I_82 a1 11))) ≤ (e.2.1 b_91).2))))) ∧ (1 ≤ dp) then (if 0 ≤ (I_82 a1 11) then (stI (cp2 I_82 b_91 b_86 0 0 (I_82 a1 11)) (fun I_99 => (if (a1 < e.1) ∧ ((e.2.1 a1).1 = 10) then ((e.2.2 a1 6).bind (fun b_103 => (if (a0 < e.1) ∧ ((e.2.1 a0).1 = 10) then ((e.2.2 a0 6).bind (fun b_108 => (if (a1 < e.1) ∧ ((e.2.1 a1).1 = 10) then (if (b_103 < e.1) ∧ ((e.2.1 b_103).1 = 13) then (if (b_108 < e.1) ∧ ((e.2.1 b_108).1 = 13) then (if ((¬ ((0 : Int) < 0)) ∧ ((¬ ((0 : Int) < 0)) ∧ ((¬ ((I_99 a1 11) < 0)) ∧ (((0 + (Int.toNat (I_99 a1 11))) ≤ (e.2.1 b_103).2) ∧ ((0 + (Int.toNat (I_99 a1 11))) ≤ (e.2.1 b_108).2))))) ∧ (1 ≤ dp) then (if 0 ≤ (I_99 a1 11) then (stI (cp2 I_99 b_108 b_103 0 0 (I_99 a1 11)) (fun I_116 => (if (a1 < e.1) ∧ ((e.2.1 a1).1 = 10) then ((e.2.2 a1 7).bind (fun b_120 => (if (a0 < e.1) ∧ ((e.2.1 a0).1 = 10) then ((e.2.2 a0 7).bind (fun b_125 => (if (a0 < e.1) ∧ ((e.2.1 a0).1 = 10) then ((e.2.2 a0 7).bind (fun b_130 => (if (b_130 < e.1) ∧ ((e.2.1 b_130).1 = 13) then (if (b_120 < e.1) ∧ ((e.2.1 b_120).1 = 13) then (if (b_125 < e.1) ∧ ((e.2.1 b_125).1 = 13) then (if (e.2.1 b_130).2 < 2147483648 then (if ((¬ ((0 : Int) < 0)) ∧ ((¬ ((0 : Int) < 0)) ∧ ((¬ ((((e.2.1 b_130).2 : Nat) : Int) < 0)) ∧ (((0 + (Int.toNat (((e.2.1 b_130).2 : Nat) : Int))) ≤ (e.2.1 b_120).2) ∧ ((0 + (Int.toNat (((e.2.1 b_130).2 : Nat) : Int))) ≤ (e.2.1 b_125).2))))) ∧ (1 ≤ dp) then (if 0 ≤ (((e.2.1 b_130).2 : Nat) : Int) then (stI (cp2 I_116 b_125 b_120 0 0 (((e.2.1 b_130).2 : Nat) : Int)) (fun I_134 => (if (a1 < e.1) ∧ ((e.2.1 a1).1 = 10) then ((e.2.2 a1 8).bind (fun b_138 => (if (a0 < e.1) ∧ ((e.2.1 a0).1 = 10) then ((e.2.2 a0 8).bind (fun b_143 => (if (a1 < e.1) ∧ ((e.2.1 a1).1 = 10) then (if (b_138 < e.1) ∧ ((e.2.1 b_138).1 = 13) then (if (b_143 < e.1) ∧ ((e.2.1 b_143).1 = 13) then (if ((¬ ((0 : Int) < 0)) ∧ ((¬ ((0 : Int) < 0)) ∧ ((¬ ((I_134 a1 12) < 0)) ∧ (((0 + (Int.toNat (I_134 a1 12))) ≤ (e.2.1 b_138).2) ∧ ((0 + (Int.toNat (I_134 a1 12))) ≤ (e.2.1 b_143).2))))) ∧ (1 ≤ dp) then (if 0 ≤ (I_134 a1 12) then (stI (cp2 I_134 b_143 b_138 0 0 (I_134 a1 12)) (fun I_151 => (if (a1 < e.1) ∧ ((e.2.1 a1).1 = 10) then ((e.2.2 a1 9).bind (fun b_155 => (if (a0 < e.1) ∧ ((e.2.1 a0).1 = 10) then ((e.2.2 a0 9).bind (fun b_160 => (if (a1 < e.1) ∧ ((e.2.1 a1).1 = 10) then (if (b_155 < e.1) ∧ ((e.2.1 b_155).1 = 13) then (if (b_160 < e.1) ∧ ((e.2.1 b_160).1 = 13) then (if ((¬ ((0 : Int) < 0)) ∧ ((¬ ((0 : Int) < 0)) ∧ ((¬ ((I_151 a1 12) < 0)) ∧ (((0 + (Int.toNat (I_151 a1 12))) ≤ (e.2.1 b_155).2) ∧ ((0 + (Int.toNat (I_151 a1 12))) ≤ (e.2.1 b_160).2))))) ∧ (1 ≤ dp) then (if 0 ≤ (I_151 a1 12) then (stI (cp2 I_151 b_160 b_155 0 0 (I_151 a1 12)) (fun I_168 => (if (a1 < e.1) ∧ ((e.2.1 a1).1 = 10) then (if (a0 < e.1) ∧ ((e.2.1 a0).1 = 10) then (stI (w2 I_168 a0 10 (I_168 a1 10)) (fun I_176 => (if (a1 < e.1) ∧ ((e.2.1 a1).1 = 10) then (if (a0 < e.1) ∧ ((e.2.1 a0).1 = 10) then (stI (w2 I_176 a0 11 (I_176 a1 11)) (fun I_184 => (if (a1 < e.1) ∧ ((e.2.1 a1).1 = 10) then (if (a0 < e.1) ∧ ((e.2.1 a0).1 = 10) then (stI (w2 I_184 a0 12 (I_184 a1 12)) (fun I_192 => (if (a1 < e.1) ∧ ((e.2.1 a1).1 = 10) then (if (a0 < e.1) ∧ ((e.2.1 a0).1 = 10) then (stI (w2 I_192 a0 13 (I_192 a1 13)) (fun I_200 => (some (I_200, L)))) else none) else none))) else none) else none))) else none) else none))) else none) else none))) else none) else none) else none) else none) else none))) else none))) else none))) else none) else none) else none) else none) else none))) else none))) else none))) else none) else none) else none) else none) else none) else none))) else none))) else none))) else none))) else none) else none) else none) else none) else none))) else none))) else none))) else none) else none) else none) else none) else none))) else none))) else none))) else none) else none) else none) else none) else none))) else none))) else none))) else none) else none) else none) else none) else none))) else none))) else none))) else none) else none) else none) else none) else none))) else none))) else none))) else none) else none) else none) else none) else none))) else none))) else none))) else none) else none) else none) else none) else none))) else none))) else none)) P_) : Ev (fun n => kf_186 n dp e 0 I L a0 a1) P_ := Ev_step (fun n => ke_186_0 n dp e I L a0 a1) h
set_option maxRecDepth 100000 in
theorem ev_185_0 {dp : Nat} {e : EN} {I : JI} {L : JI} {a0 : Nat} {a1 : Nat} {P_ : (JI × JI) → Prop} (h : Ev (fun n => (if (a1 < e.1) ∧ ((e.2.1 a1).1 = 3) then ((e.2.2 a1 0).bind (fun b_1 => (if (a0 < e.1) ∧ ((e.2.1 a0).1 = 3) then ((e.2.2 a0 0).bind (fun b_6 => (if (a0 < e.1) ∧ ((e.2.1 a0).1 = 3) then ((e.2.2 a0 0).bind (fun b_11 => (if (b_11 < e.1) ∧ ((e.2.1 b_11).1 = 13) then (if (b_1 < e.1) ∧ ((e.2.1 b_1).1 = 13) then (if (b_6 < e.1) ∧ ((e.2.1 b_6).1 = 13) then (if (e.2.1 b_11).2 < 2147483648 then (if ((¬ ((0 : Int) < 0)) ∧ ((¬ ((0 : Int) < 0)) ∧ ((¬ ((((e.2.1 b_11).2 : Nat) : Int) < 0)) ∧ (((0 + (Int.toNat (((e.2.1 b_11).2 : Nat) : Int))) ≤ (e.2.1 b_1).2) ∧ ((0 + (Int.toNat (((e.2.1 b_11).2 : Nat) : Int))) ≤ (e.2.1 b_6).2))))) ∧ (1 ≤ dp) then (if 0 ≤ (((e.2.1 b_11).2 : Nat) : Int) then (stI (cp2 I b_6 b_1 0 0 (((e.2.1 b_11).2 : Nat) : Int)) (fun I_15 => (if (a1 < e.1) ∧ ((e.2.1 a1).1 = 3) then ((e.2.2 a1 1).bind (fun b_19 => (if (a0 < e.1) ∧ ((e.2.1 a0).1 = 3) then ((e.2.2 a0 1).bind (fun b_24 => (if (a0 < e.1) ∧ ((e.2.1 a0).1 = 3) then ((e.2.2 a0 1).bind (fun b_29 => (if (b_29 < e.1) ∧ ((e.2.1 b_29).1 = 13) then (if (b_19 < e.1) ∧ ((e.2.1 b_19).1 = 13) then (if (b_24 < e.1) ∧ ((e.2.1 b_24).1 = 13) then (if (e.2.1 b_29).2 < 2147483648 then (if ((¬ ((0 : Int) < 0)) ∧ ((¬ ((0 : Int) < 0)) ∧ ((¬ ((((e.2.1 b_29).2 : Nat) : Int) < 0)) ∧ (((0 + (Int.toNat (((e.2.1 b_29).2 : Nat) : Int))) ≤ (e.2.1 b_19).2) ∧ ((0 + (Int.toNat (((e.2.1 b_29).2 : Nat) : Int))) ≤ (e.2.1 b_24).2))))) ∧ (1 ≤ dp) then (if 0 ≤ (((e.2.1 b_29).2 : Nat) : Int) then (stI (cp2 I_15 b_24 b_19 0 0 (((e.2.1 b_29).2 : Nat) : Int)) (fun I_33 => (if (a1 < e.1) ∧ ((e.2.1 a1).1 = 3) then ((e.2.2 a1 2).bind (fun b_37 => (if (a0 < e.1) ∧ ((e.2.1 a0).1 = 3) then ((e.2.2 a0 2).bind (fun b_42 => (if (a0 < e.1) ∧ ((e.2.1 a0).1 = 3) then ((e.2.2 a0 2).bind (fun b_47 => (if (b_47 < e.1) ∧ ((e.2.1 b_47).1 = 13) then (if (b_37 < e.1) ∧ ((e.2.1 b_37).1 = 13) then (if (b_42 < e.1) ∧ ((e.2.1 b_42).1 = 13) then (if (e.2.1 b_47).2 < 2147483648 then (if ((¬ ((0 : Int) < 0)) ∧ ((¬ ((0 : Int) < 0)) ∧ ((¬ ((((e.2.1 b_47).2 : Nat) : Int) < 0)) ∧ (((0 + (Int.toNat (((e.2.1 b_47).2 : Nat) : Int))) ≤ (e.2.1 b_37).2) ∧ ((0 + (Int.toNat (((e.2.1 b_47).2 : Nat) : Int))) ≤ (e.2.1 b_42).2))))) ∧ (1 ≤ dp) then (if 0 ≤ (((e.2.1 b_47).2 : Nat) : Int) then (stI (cp2 I_33 b_42 b_37 0 0 (((e.2.1 b_47).2 : Nat) : Int)) (fun I_51 => (if (a1 < e.1) ∧ ((e.2.1 a1).1 = 3) then ((e.2.2 a1 3).bind (fun b_55 => (if (a0 < e.1) ∧ ((e.2.1 a0).1 = 3) then ((e.2.2 a0 3).bind (fun b_60 => (if (a0 < e.1) ∧ ((e.2.1 a0).1 = 3) then ((e.2.2 a0 3).bind (fun b_65 => (if (b_65 < e.1) ∧ ((e.2.1 b_65).1 = 13) then (if (b_55 < e.1) ∧ ((e.2.1 b_55).1 = 13) then (if (b_60 < e.1) ∧ ((e.2.1 b_60).1 = 13) then (if (e.2.1 b_65).2 < 2147483648 then (if ((¬ ((0 : Int) < 0)) ∧ ((¬ ((0 : Int) < 0)) ∧ ((¬ ((((e.2.1 b_65).2 : Nat) : Int) < 0)) ∧ (((0 + (Int.toNat (((e.2.1 b_65).2 : Nat) : Int))) ≤ (e.2.1 b_55).2) ∧ ((0 + (Int.toNat (((e.2.1 b_65).2 : Nat) : Int))) ≤ (e.2.1 b_60).2))))) ∧ (1 ≤ dp) then (if 0 ≤ (((e.2.1 b_65).2 : Nat) : Int) then (stI (cp2 I_51 b_60 b_55 0 0 (((e.2.1 b_65).2 : Nat) : Int)) (fun I_69 => (if (a1 < e.1) ∧ ((e.2.1 a1).1 = 3) then ((e.2.2 a1 4).bind (fun b_73 => (if (a0 < e.1) ∧ ((e.2.1 a0).1 = 3) then ((e.2.2 a0 4).bind (fun b_78 => (if (a0 < e.1) ∧ ((e.2.1 a0).1 = 3) then ((e.2.2 a0 4).bind (fun b_83 => (if (b_83 < e.1) ∧ ((e.2.1 b_83).1 = 13) then (if (b_73 < e.1) ∧ ((e.2.1 b_73).1 = 13) then (if (b_78 < e.1) ∧ ((e.2.1 b_78).1 = 13) then (if (e.2.1 b_83).2 < 2147483648 then (if ((¬ ((0 : Int) < 0)) ∧ ((¬ ((0 : Int) < 0)) ∧ ((¬ ((((e.2.1 b_83).2 : Nat) : Int) < 0)) ∧ (((0 + (Int.toNat (((e.2.1 b_83).2 : Nat) : Int))) ≤ (e.2.1 b_73).2) ∧ ((0 + (Int.toNat (((e.2.1 b_83).2 : Nat) : Int))) ≤ (e.2.1 b_78).2))))) ∧ (1 ≤ dp) then (if 0 ≤ (((e.2.1 b_83).2 : Nat) : Int) then (stI (cp2 I_69 b_78 b_73 0 0 (((e.2.1 b_83).2 : Nat) : Int)) (fun I_87 => (if (a1 < e.1) ∧ ((e.2.1 a1).1 = 3) then ((e.2.2 a1 5).bind (fun b_91 => (if (a0 < e.1) ∧ ((e.2.1 a0).1 = 3) then ((e.2.2 a0 5).bind (fun b_96 => (if (a0 < e.1) ∧ ((e.2.1 a0).1 = 3) then ((e.2.2 a0 5).bind (fun b_101 => (if (b_101 < e.1) ∧ ((e.2.1 b_101).1 = 13) then (if (b_91 < e.1) ∧ ((e.2.1 b_91).1 = 13) then (if (b_96 < e.1) ∧ ((e.2.1 b_96).1 = 13) then (if (e.2.1 b_101).2 < 2147483648 then (if ((¬ ((0 : Int) < 0)) ∧ ((¬ ((0 : Int) < 0)) ∧ ((¬ ((((e.2.1 b_101).2 : Nat) : Int) < 0)) ∧ (((0 + (Int.toNat (((e.2.1 b_101).2 : Nat) : Int))) ≤ (e.2.1 b_91).2) ∧ ((0 + (Int.toNat (((e.2.1 b_101).2 : Nat) : Int))) ≤ (e.2.1 b_96).2))))) ∧ (1 ≤ dp) then (if 0 ≤ (((e.2.1 b_101).2 : Nat) : Int) then (stI (cp2 I_87 b_96 b_91 0 0 (((e.2.1 b_101).2 : Nat) : Int)) (fun I_105 => (if (a1 < e.1) ∧ ((e.2.1 a1).1 = 3) then ((e.2.2 a1 6).bind (fun b_109 => (if (a0 < e.1) ∧ ((e.2.1 a0).1 = 3) then ((e.2.2 a0 6).bind (fun b_114 => (if (a0 < e.1) ∧ ((e.2.1 a0).1 = 3) then ((e.2.2 a0 6).bind (fun b_119 => (if (b_119 < e.1) ∧ ((e.2.1 b_119).1 = 13) then (if (b_109 < e.1) ∧ ((e.2.1 b_109).1 = 13) then (if (b_114 < e.1) ∧ ((e.2.1 b_114).1 = 13) then (if (e.2.1 b_119).2 < 2147483648 then (if ((¬ ((0 : Int) < 0)) ∧ ((¬ ((0 : Int) < 0)) ∧ ((¬ ((((e.2.1 b_119).2 : Nat) : Int) < 0)) ∧ (((0 + (Int.toNat (((e.2.1 b_119).2 : Nat) : Int))) ≤ (e.2.1 b_109).2) ∧ ((0 + (Int.toNat (((e.2.1 b_119).2 : Nat) : Int))) ≤ (e.2.1 b_114).2))))) ∧ (1 ≤ dp) then (if 0 ≤ (((e.2.1 b_119).2 : Nat) : Int) then (stI (cp2 I_105 b_114 b_109 0 0 (((e.2.1 b_119).2 : Nat) : Int)) (fun I_123 => (if (a0 < e.1) ∧ ((e.2.1 a0).1 = 3) then ((e.2.2 a0 7).bind (fun b_127 => (if (a1 < e.1) ∧ ((e.2.1 a1).1 = 3) then ((e.2.2 a1 7).bind (fun b_131 => (if (b_127 < e.1) ∧ ((e.2.1 b_127).1 = 10) then (if 1 ≤ dp then ((kf_186 n (dp - 1) e 0 I_123 L b_127 b_131).bind (fun ⟨I0_134, L0_134⟩ => (if (a1 < e.1) ∧ ((e.2.1 a1).1 = 3) then (if (a0 < e.1) ∧ ((e.2.1 a0).1 = 3) then (stI (w2 I0_134 a0 8 (I0_134 a1 8)) (fun I_142 => (if (a1 < e.1) ∧ ((e.2.1 a1).1 = 3) then (if (a0 < e.1) ∧ ((e.2.1 a0).1 = 3) then (stI (w2 I_142 a0 9 (I_142 a1 9)) (fun I_150 => (if (a1 < e.1) ∧ ((e.2.1 a1).1 = 3) then (if (a0 < e.1) ∧ ((e.2.1 a0).1 = 3) then (stI (w2 I_150 a0 10 (I_150 a1 10)) (fun I_158 => (if (a1 < e.1) ∧ ((e.2.1 a1).1 = 3) then (if (a0 < e.1) ∧ ((e.2.1 a0).1 = 3) then (stI (w2 I_158 a0 11 (I_158 a1 11)) (fun I_166 => (if (a1 < e.1) ∧ ((e.2.1 a1).1 = 3) then (if (a0 < e.1) ∧ ((e.2.1 a0).1 = 3) then (stI (w2 I_166 a0 12 (I_166 a1 12)) (fun I_174 => (some (I_174, L0_134)))) else none) else none))) else none) else none))) else none) else none))) else none) else none))) else none) else none))) else none) else none))) else none))) else none))) else none) else none) else none) else none) else none) else none))) else none))) else none))) else none))) else none) else none) else none) else none) else none) else none))) else none))) else none))) else none))) else none) else none) else none) else none) else none) else none))) else none))) else none))) else none))) else none) else none) else none) else none) else none) else none))) else none))) else none))) else none))) else none) else none) else none) else none) else none) else none))) else none))) else none))) else none))) else none) else none) else none) else none) else none) else none))) else none))) else none))) else none))) else none) else none) else none) else none) else none) else none))) else none))) else none))) else none)) P_) : Ev (fun n => kf_185 n dp e 0 I L a0 a1) P_ := Ev_step (fun n => ke_185_0 n dp e I L a0 a1) h
end
/-! COPIES (printed by gencopy.py) -/
theorem cc {m : Int} {x y : Nat} {q : Prop} (h0 : 0 ≤ m) (hx : m ≤ x) (hy : m ≤ y) (hq : q) : ((¬ ((0 : Int) < 0)) ∧ ((¬ ((0 : Int) < 0)) ∧ ((¬ (m < 0)) ∧ (((0 + Int.toNat m) ≤ x) ∧ ((0 + Int.toNat m) ≤ y))))) ∧ q := ⟨⟨by decide, by decide, by omega, by omega, by omega⟩, hq⟩
def tcp (J : JI) (a0 a1 : Nat) : JI := w2 (w2 (w2 (w2 (cp2 (cp2 (cp2 (cp2 (cp2 (cp2 (cp2 (cp2 (cp2 (cp2 J (a0 + 1) (a1 + 1) 0 0 (J a1 10)) (a0 + 2) (a1 + 2) 0 0 (J a1 10)) (a0 + 3) (a1 + 3) 0 0 (J a1 10)) (a0 + 4) (a1 + 4) 0 0 (J a1 10)) (a0 + 5) (a1 + 5) 0 0 (J a1 10)) (a0 + 6) (a1 + 6) 0 0 (J a1 11)) (a0 + 7) (a1 + 7) 0 0 (J a1 11)) (a0 + 8) (a1 + 8) 0 0 160) (a0 + 9) (a1 + 9) 0 0 (J a1 12)) (a0 + 10) (a1 + 10) 0 0 (J a1 12)) a0 10 (J a1 10)) a0 11 (J a1 11)) a0 12 (J a1 12)) a0 13 (J a1 13)
theorem tcp_o {J : JI} {a0 a1 b : Nat} {j : Int} (h : ¬ (a0 ≤ b ∧ b ≤ a0 + 10)) : tcp J a0 a1 b j = J b j := by
  unfold tcp
  simp (disch := omega) only [w2_o, cp2_o]
theorem tcp_1 {J : JI} {a0 a1 : Nat} {j : Int} (hs : a0 + 10 < a1 ∨ a1 + 10 < a0) (h : 0 ≤ j ∧ j < J a1 10) : tcp J a0 a1 (a0 + 1) j = J (a1 + 1) j ∧ tcp J a0 a1 (a0 + 2) j = J (a1 + 2) j ∧ tcp J a0 a1 (a0 + 3) j = J (a1 + 3) j ∧ tcp J a0 a1 (a0 + 4) j = J (a1 + 4) j ∧ tcp J a0 a1 (a0 + 5) j = J (a1 + 5) j := by
  unfold tcp
  refine ⟨?_, ?_, ?_, ?_, ?_⟩ <;> simp (disch := omega) only [w2_o, cp2_o, cp2_s]
theorem tcp_6 {J : JI} {a0 a1 : Nat} {j : Int} (hs : a0 + 10 < a1 ∨ a1 + 10 < a0) (h : 0 ≤ j ∧ j < J a1 11) : tcp J a0 a1 (a0 + 6) j = J (a1 + 6) j ∧ tcp J a0 a1 (a0 + 7) j = J (a1 + 7) j := by
  unfold tcp
  refine ⟨?_, ?_⟩ <;> simp (disch := omega) only [w2_o, cp2_o, cp2_s]
theorem tcp_8 {J : JI} {a0 a1 : Nat} {j : Int} (hs : a0 + 10 < a1 ∨ a1 + 10 < a0) (h : 0 ≤ j ∧ j < 160) : tcp J a0 a1 (a0 + 8) j = J (a1 + 8) j := by
  unfold tcp
  simp (disch := omega) only [w2_o, cp2_o, cp2_s]
theorem tcp_9 {J : JI} {a0 a1 : Nat} {j : Int} (hs : a0 + 10 < a1 ∨ a1 + 10 < a0) (h : 0 ≤ j ∧ j < J a1 12) : tcp J a0 a1 (a0 + 9) j = J (a1 + 9) j ∧ tcp J a0 a1 (a0 + 10) j = J (a1 + 10) j := by
  unfold tcp
  refine ⟨?_, ?_⟩ <;> simp (disch := omega) only [w2_o, cp2_o, cp2_s]
theorem tcp_c {J : JI} {a0 a1 : Nat} : tcp J a0 a1 a0 10 = J a1 10 ∧ tcp J a0 a1 a0 11 = J a1 11 ∧ tcp J a0 a1 a0 12 = J a1 12 ∧ tcp J a0 a1 a0 13 = J a1 13 := by
  unfold tcp
  simp only [w2_ap, true_and, Int.reduceEq, if_true, if_false, and_self]
section KB
variable {dp : Nat} {e : EN} {J M : JI}
set_option maxRecDepth 20000 in
set_option maxHeartbeats 4000000 in
theorem K186 {a0 a1 : Nat} (hd : 1 ≤ dp) (h0 : TrO e a0) (h1 : TrO e a1) (hs : a0 + 10 < a1 ∨ a1 + 10 < a0) (h10 : 0 ≤ J a1 10 ∧ J a1 10 ≤ 24) (h11 : 0 ≤ J a1 11 ∧ J a1 11 ≤ 16) (h12 : 0 ≤ J a1 12 ∧ J a1 12 ≤ 400) : Ev (fun n => kf_186 n dp e 0 J M a0 a1) (fun r => r = (tcp J a0 a1, M)) := by
  have n : ∀ j, j ≤ 10 → ¬ a1 = a0 + j := fun j hj => by omega
  obtain ⟨s0, ⟨s1, s1a, s1b, s1c⟩, ⟨s2, s2a, s2b, s2c⟩, ⟨s3, s3a, s3b, s3c⟩, ⟨s4, s4a, s4b, s4c⟩, ⟨s5, s5a, s5b, s5c⟩, ⟨s6, s6a, s6b, s6c⟩, ⟨s7, s7a, s7b, s7c⟩, ⟨s8, s8a, s8b, s8c⟩, ⟨s9, s9a, s9b, s9c⟩, ⟨s10, s10a, s10b, s10c⟩⟩ := h0
  obtain ⟨t0, ⟨t1, t1a, t1b, t1c⟩, ⟨t2, t2a, t2b, t2c⟩, ⟨t3, t3a, t3b, t3c⟩, ⟨t4, t4a, t4b, t4c⟩, ⟨t5, t5a, t5b, t5c⟩, ⟨t6, t6a, t6b, t6c⟩, ⟨t7, t7a, t7b, t7c⟩, ⟨t8, t8a, t8b, t8c⟩, ⟨t9, t9a, t9b, t9c⟩, ⟨t10, t10a, t10b, t10c⟩⟩ := h1
  refine ev_186_0 ?_
  refine Ev_t t0 ?_
  refine Ev_R t1 ?_
  try dsimp only
  refine Ev_t s0 ?_
  refine Ev_R s1 ?_
  try dsimp only
  refine Ev_t t0 ?_
  refine Ev_t ⟨t1a, t1b⟩ ?_
  refine Ev_t ⟨s1a, s1b⟩ ?_
  refine Ev_t (cc (by exact h10.1) (by rw [t1c]; exact h10.2) (by rw [s1c]; exact h10.2) hd) ?_
  refine Ev_t (by exact h10.1) ?_
  refine Ev_sn (fun I_14 qI_14 => ?_)
  have rI_14_10 : I_14 a1 10 = J a1 10 := by rw [qI_14, cp2_o (n 1 (by decide))]
  have rI_14_11 : I_14 a1 11 = J a1 11 := by rw [qI_14, cp2_o (n 1 (by decide))]
  have rI_14_12 : I_14 a1 12 = J a1 12 := by rw [qI_14, cp2_o (n 1 (by decide))]
  have rI_14_13 : I_14 a1 13 = J a1 13 := by rw [qI_14, cp2_o (n 1 (by decide))]
  refine Ev_t t0 ?_
  refine Ev_R t2 ?_
  try dsimp only
  refine Ev_t s0 ?_
  refine Ev_R s2 ?_
  try dsimp only
  refine Ev_t t0 ?_
  refine Ev_t ⟨t2a, t2b⟩ ?_
  refine Ev_t ⟨s2a, s2b⟩ ?_
  refine Ev_t (cc (by rw [rI_14_10]; exact h10.1) (by rw [rI_14_10]; rw [t2c]; exact h10.2) (by rw [rI_14_10]; rw [s2c]; exact h10.2) hd) ?_
  refine Ev_t (by rw [rI_14_10]; exact h10.1) ?_
  refine Ev_sn (fun I_31 qI_31 => ?_)
  rw [rI_14_10] at qI_31
  have rI_31_10 : I_31 a1 10 = J a1 10 := by rw [qI_31, cp2_o (n 2 (by decide))]; exact rI_14_10
  have rI_31_11 : I_31 a1 11 = J a1 11 := by rw [qI_31, cp2_o (n 2 (by decide))]; exact rI_14_11
  have rI_31_12 : I_31 a1 12 = J a1 12 := by rw [qI_31, cp2_o (n 2 (by decide))]; exact rI_14_12
  have rI_31_13 : I_31 a1 13 = J a1 13 := by rw [qI_31, cp2_o (n 2 (by decide))]; exact rI_14_13
  refine Ev_t t0 ?_
  refine Ev_R t3 ?_
  try dsimp only
  refine Ev_t s0 ?_
  refine Ev_R s3 ?_
  try dsimp only
  refine Ev_t t0 ?_
  refine Ev_t ⟨t3a, t3b⟩ ?_
  refine Ev_t ⟨s3a, s3b⟩ ?_
  refine Ev_t (cc (by rw [rI_31_10]; exact h10.1) (by rw [rI_31_10]; rw [t3c]; exact h10.2) (by rw [rI_31_10]; rw [s3c]; exact h10.2) hd) ?_
  refine Ev_t (by rw [rI_31_10]; exact h10.1) ?_
  refine Ev_sn (fun I_48 qI_48 => ?_)
  rw [rI_31_10] at qI_48
  have rI_48_10 : I_48 a1 10 = J a1 10 := by rw [qI_48, cp2_o (n 3 (by decide))]; exact rI_31_10
  have rI_48_11 : I_48 a1 11 = J a1 11 := by rw [qI_48, cp2_o (n 3 (by decide))]; exact rI_31_11
  have rI_48_12 : I_48 a1 12 = J a1 12 := by rw [qI_48, cp2_o (n 3 (by decide))]; exact rI_31_12
  have rI_48_13 : I_48 a1 13 = J a1 13 := by rw [qI_48, cp2_o (n 3 (by decide))]; exact rI_31_13
  refine Ev_t t0 ?_
  refine Ev_R t4 ?_
  try dsimp only
  refine Ev_t s0 ?_
  refine Ev_R s4 ?_
  try dsimp only
  refine Ev_t t0 ?_
  refine Ev_t ⟨t4a, t4b⟩ ?_
  refine Ev_t ⟨s4a, s4b⟩ ?_
  refine Ev_t (cc (by rw [rI_48_10]; exact h10.1) (by rw [rI_48_10]; rw [t4c]; exact h10.2) (by rw [rI_48_10]; rw [s4c]; exact h10.2) hd) ?_
  refine Ev_t (by rw [rI_48_10]; exact h10.1) ?_
  refine Ev_sn (fun I_65 qI_65 => ?_)
  rw [rI_48_10] at qI_65
  have rI_65_10 : I_65 a1 10 = J a1 10 := by rw [qI_65, cp2_o (n 4 (by decide))]; exact rI_48_10
  have rI_65_11 : I_65 a1 11 = J a1 11 := by rw [qI_65, cp2_o (n 4 (by decide))]; exact rI_48_11
  have rI_65_12 : I_65 a1 12 = J a1 12 := by rw [qI_65, cp2_o (n 4 (by decide))]; exact rI_48_12
  have rI_65_13 : I_65 a1 13 = J a1 13 := by rw [qI_65, cp2_o (n 4 (by decide))]; exact rI_48_13
  refine Ev_t t0 ?_
  refine Ev_R t5 ?_
  try dsimp only
  refine Ev_t s0 ?_
  refine Ev_R s5 ?_
  try dsimp only
  refine Ev_t t0 ?_
  refine Ev_t ⟨t5a, t5b⟩ ?_
  refine Ev_t ⟨s5a, s5b⟩ ?_
  refine Ev_t (cc (by rw [rI_65_10]; exact h10.1) (by rw [rI_65_10]; rw [t5c]; exact h10.2) (by rw [rI_65_10]; rw [s5c]; exact h10.2) hd) ?_
  refine Ev_t (by rw [rI_65_10]; exact h10.1) ?_
  refine Ev_sn (fun I_82 qI_82 => ?_)
  rw [rI_65_10] at qI_82
  have rI_82_10 : I_82 a1 10 = J a1 10 := by rw [qI_82, cp2_o (n 5 (by decide))]; exact rI_65_10
  have rI_82_11 : I_82 a1 11 = J a1 11 := by rw [qI_82, cp2_o (n 5 (by decide))]; exact rI_65_11
  have rI_82_12 : I_82 a1 12 = J a1 12 := by rw [qI_82, cp2_o (n 5 (by decide))]; exact rI_65_12
  have rI_82_13 : I_82 a1 13 = J a1 13 := by rw [qI_82, cp2_o (n 5 (by decide))]; exact rI_65_13
  refine Ev_t t0 ?_
  refine Ev_R t6 ?_
  try dsimp only
  refine Ev_t s0 ?_
  refine Ev_R s6 ?_
  try dsimp only
  refine Ev_t t0 ?_
  refine Ev_t ⟨t6a, t6b⟩ ?_
  refine Ev_t ⟨s6a, s6b⟩ ?_
  refine Ev_t (cc (by rw [rI_82_11]; exact h11.1) (by rw [rI_82_11]; rw [t6c]; exact h11.2) (by rw [rI_82_11]; rw [s6c]; exact h11.2) hd) ?_
  refine Ev_t (by rw [rI_82_11]; exact h11.1) ?_
  refine Ev_sn (fun I_99 qI_99 => ?_)
  rw [rI_82_11] at qI_99
  have rI_99_10 : I_99 a1 10 = J a1 10 := by rw [qI_99, cp2_o (n 6 (by decide))]; exact rI_82_10
  have rI_99_11 : I_99 a1 11 = J a1 11 := by rw [qI_99, cp2_o (n 6 (by decide))]; exact rI_82_11
  have rI_99_12 : I_99 a1 12 = J a1 12 := by rw [qI_99, cp2_o (n 6 (by decide))]; exact rI_82_12
  have rI_99_13 : I_99 a1 13 = J a1 13 := by rw [qI_99, cp2_o (n 6 (by decide))]; exact rI_82_13
  refine Ev_t t0 ?_
  refine Ev_R t7 ?_
  try dsimp only
  refine Ev_t s0 ?_
  refine Ev_R s7 ?_
  try dsimp only
  refine Ev_t t0 ?_
  refine Ev_t ⟨t7a, t7b⟩ ?_
  refine Ev_t ⟨s7a, s7b⟩ ?_
  refine Ev_t (cc (by rw [rI_99_11]; exact h11.1) (by rw [rI_99_11]; rw [t7c]; exact h11.2) (by rw [rI_99_11]; rw [s7c]; exact h11.2) hd) ?_
  refine Ev_t (by rw [rI_99_11]; exact h11.1) ?_
  refine Ev_sn (fun I_116 qI_116 => ?_)
  rw [rI_99_11] at qI_116
  have rI_116_10 : I_116 a1 10 = J a1 10 := by rw [qI_116, cp2_o (n 7 (by decide))]; exact rI_99_10
  have rI_116_11 : I_116 a1 11 = J a1 11 := by rw [qI_116, cp2_o (n 7 (by decide))]; exact rI_99_11
  have rI_116_12 : I_116 a1 12 = J a1 12 := by rw [qI_116, cp2_o (n 7 (by decide))]; exact rI_99_12
  have rI_116_13 : I_116 a1 13 = J a1 13 := by rw [qI_116, cp2_o (n 7 (by decide))]; exact rI_99_13
  refine Ev_t t0 ?_
  refine Ev_R t8 ?_
  try dsimp only
  refine Ev_t s0 ?_
  refine Ev_R s8 ?_
  try dsimp only
  refine Ev_t s0 ?_
  refine Ev_R s8 ?_
  try dsimp only
  refine Ev_t ⟨s8a, s8b⟩ ?_
  refine Ev_t ⟨t8a, t8b⟩ ?_
  refine Ev_t ⟨s8a, s8b⟩ ?_
  refine Ev_t (by rw [s8c]; decide) ?_
  rw [s8c]
  refine Ev_t (cc (by decide) (by first | decide | (rw [t8c]; decide)) (by first | decide | (rw [s8c]; decide)) hd) ?_
  refine Ev_t (by decide) ?_
  refine Ev_sn (fun I_134 qI_134 => ?_)
  have rI_134_10 : I_134 a1 10 = J a1 10 := by rw [qI_134, cp2_o (n 8 (by decide))]; exact rI_116_10
  have rI_134_11 : I_134 a1 11 = J a1 11 := by rw [qI_134, cp2_o (n 8 (by decide))]; exact rI_116_11
  have rI_134_12 : I_134 a1 12 = J a1 12 := by rw [qI_134, cp2_o (n 8 (by decide))]; exact rI_116_12
  have rI_134_13 : I_134 a1 13 = J a1 13 := by rw [qI_134, cp2_o (n 8 (by decide))]; exact rI_116_13
  refine Ev_t t0 ?_
  refine Ev_R t9 ?_
  try dsimp only
  refine Ev_t s0 ?_
  refine Ev_R s9 ?_
  try dsimp only
  refine Ev_t t0 ?_
  refine Ev_t ⟨t9a, t9b⟩ ?_
  refine Ev_t ⟨s9a, s9b⟩ ?_
  refine Ev_t (cc (by rw [rI_134_12]; exact h12.1) (by rw [rI_134_12]; rw [t9c]; exact h12.2) (by rw [rI_134_12]; rw [s9c]; exact h12.2) hd) ?_
  refine Ev_t (by rw [rI_134_12]; exact h12.1) ?_
  refine Ev_sn (fun I_151 qI_151 => ?_)
  rw [rI_134_12] at qI_151
  have rI_151_10 : I_151 a1 10 = J a1 10 := by rw [qI_151, cp2_o (n 9 (by decide))]; exact rI_134_10
  have rI_151_11 : I_151 a1 11 = J a1 11 := by rw [qI_151, cp2_o (n 9 (by decide))]; exact rI_134_11
  have rI_151_12 : I_151 a1 12 = J a1 12 := by rw [qI_151, cp2_o (n 9 (by decide))]; exact rI_134_12
  have rI_151_13 : I_151 a1 13 = J a1 13 := by rw [qI_151, cp2_o (n 9 (by decide))]; exact rI_134_13
  refine Ev_t t0 ?_
  refine Ev_R t10 ?_
  try dsimp only
  refine Ev_t s0 ?_
  refine Ev_R s10 ?_
  try dsimp only
  refine Ev_t t0 ?_
  refine Ev_t ⟨t10a, t10b⟩ ?_
  refine Ev_t ⟨s10a, s10b⟩ ?_
  refine Ev_t (cc (by rw [rI_151_12]; exact h12.1) (by rw [rI_151_12]; rw [t10c]; exact h12.2) (by rw [rI_151_12]; rw [s10c]; exact h12.2) hd) ?_
  refine Ev_t (by rw [rI_151_12]; exact h12.1) ?_
  refine Ev_sn (fun I_168 qI_168 => ?_)
  rw [rI_151_12] at qI_168
  have rI_168_10 : I_168 a1 10 = J a1 10 := by rw [qI_168, cp2_o (n 10 (by decide))]; exact rI_151_10
  have rI_168_11 : I_168 a1 11 = J a1 11 := by rw [qI_168, cp2_o (n 10 (by decide))]; exact rI_151_11
  have rI_168_12 : I_168 a1 12 = J a1 12 := by rw [qI_168, cp2_o (n 10 (by decide))]; exact rI_151_12
  have rI_168_13 : I_168 a1 13 = J a1 13 := by rw [qI_168, cp2_o (n 10 (by decide))]; exact rI_151_13
  refine Ev_t t0 ?_
  refine Ev_t s0 ?_
  refine Ev_sn (fun I_176 qI_176 => ?_)
  rw [rI_168_10] at qI_176
  have rI_176_10 : I_176 a1 10 = J a1 10 := by rw [qI_176, w2_o (show ¬ a1 = a0 from n 0 (by decide))]; exact rI_168_10
  have rI_176_11 : I_176 a1 11 = J a1 11 := by rw [qI_176, w2_o (show ¬ a1 = a0 from n 0 (by decide))]; exact rI_168_11
  have rI_176_12 : I_176 a1 12 = J a1 12 := by rw [qI_176, w2_o (show ¬ a1 = a0 from n 0 (by decide))]; exact rI_168_12
  have rI_176_13 : I_176 a1 13 = J a1 13 := by rw [qI_176, w2_o (show ¬ a1 = a0 from n 0 (by decide))]; exact rI_168_13
  refine Ev_t t0 ?_
  refine Ev_t s0 ?_
  refine Ev_sn (fun I_184 qI_184 => ?_)
  rw [rI_176_11] at qI_184
  have rI_184_10 : I_184 a1 10 = J a1 10 := by rw [qI_184, w2_o (show ¬ a1 = a0 from n 0 (by decide))]; exact rI_176_10
  have rI_184_11 : I_184 a1 11 = J a1 11 := by rw [qI_184, w2_o (show ¬ a1 = a0 from n 0 (by decide))]; exact rI_176_11
  have rI_184_12 : I_184 a1 12 = J a1 12 := by rw [qI_184, w2_o (show ¬ a1 = a0 from n 0 (by decide))]; exact rI_176_12
  have rI_184_13 : I_184 a1 13 = J a1 13 := by rw [qI_184, w2_o (show ¬ a1 = a0 from n 0 (by decide))]; exact rI_176_13
  refine Ev_t t0 ?_
  refine Ev_t s0 ?_
  refine Ev_sn (fun I_192 qI_192 => ?_)
  rw [rI_184_12] at qI_192
  have rI_192_10 : I_192 a1 10 = J a1 10 := by rw [qI_192, w2_o (show ¬ a1 = a0 from n 0 (by decide))]; exact rI_184_10
  have rI_192_11 : I_192 a1 11 = J a1 11 := by rw [qI_192, w2_o (show ¬ a1 = a0 from n 0 (by decide))]; exact rI_184_11
  have rI_192_12 : I_192 a1 12 = J a1 12 := by rw [qI_192, w2_o (show ¬ a1 = a0 from n 0 (by decide))]; exact rI_184_12
  have rI_192_13 : I_192 a1 13 = J a1 13 := by rw [qI_192, w2_o (show ¬ a1 = a0 from n 0 (by decide))]; exact rI_184_13
  refine Ev_t t0 ?_
  refine Ev_t s0 ?_
  refine Ev_sn (fun I_200 qI_200 => ?_)
  rw [rI_192_13] at qI_200
  have rI_200_10 : I_200 a1 10 = J a1 10 := by rw [qI_200, w2_o (show ¬ a1 = a0 from n 0 (by decide))]; exact rI_192_10
  have rI_200_11 : I_200 a1 11 = J a1 11 := by rw [qI_200, w2_o (show ¬ a1 = a0 from n 0 (by decide))]; exact rI_192_11
  have rI_200_12 : I_200 a1 12 = J a1 12 := by rw [qI_200, w2_o (show ¬ a1 = a0 from n 0 (by decide))]; exact rI_192_12
  have rI_200_13 : I_200 a1 13 = J a1 13 := by rw [qI_200, w2_o (show ¬ a1 = a0 from n 0 (by decide))]; exact rI_192_13
  subst qI_200
  subst qI_192
  subst qI_184
  subst qI_176
  subst qI_168
  subst qI_151
  subst qI_134
  subst qI_116
  subst qI_99
  subst qI_82
  subst qI_65
  subst qI_48
  subst qI_31
  subst qI_14
  exact Ev_ret rfl
def hcp (J : JI) (a0 a1 u0 u1 : Nat) : JI := w2 (w2 (w2 (w2 (w2 (tcp (cp2 (cp2 (cp2 (cp2 (cp2 (cp2 (cp2 J (a0 + 1) (a1 + 1) 0 0 3) (a0 + 2) (a1 + 2) 0 0 30) (a0 + 3) (a1 + 3) 0 0 30) (a0 + 4) (a1 + 4) 0 0 4) (a0 + 5) (a1 + 5) 0 0 8) (a0 + 6) (a1 + 6) 0 0 112) (a0 + 7) (a1 + 7) 0 0 40) u0 u1) a0 8 (J a1 8)) a0 9 (J a1 9)) a0 10 (J a1 10)) a0 11 (J a1 11)) a0 12 (J a1 12)
set_option maxRecDepth 20000 in
set_option maxHeartbeats 4000000 in
theorem K185 {a0 a1 u0 u1 : Nat} (hd2 : 2 ≤ dp) (h0 : HlO e a0 u0) (h1 : HlO e a1 u1) (hT0 : TrO e u0) (hT1 : TrO e u1) (n : ∀ j, j ≤ 7 → ¬ a1 = a0 + j) (nt : ∀ j, j ≤ 7 → ¬ u1 = a0 + j) (na : ¬ (u0 ≤ a1 ∧ a1 ≤ u0 + 10)) (hts : u0 + 10 < u1 ∨ u1 + 10 < u0) (c10 : 0 ≤ J u1 10 ∧ J u1 10 ≤ 24) (c11 : 0 ≤ J u1 11 ∧ J u1 11 ≤ 16) (c12 : 0 ≤ J u1 12 ∧ J u1 12 ≤ 400) : Ev (fun n => kf_185 n dp e 0 J M a0 a1) (fun r => r = (hcp J a0 a1 u0 u1, M)) := by
  have hd : 1 ≤ dp := by omega
  have hd1 : 1 ≤ dp - 1 := by omega
  obtain ⟨s0, ⟨s1, s1a, s1b, s1c⟩, ⟨s2, s2a, s2b, s2c⟩, ⟨s3, s3a, s3b, s3c⟩, ⟨s4, s4a, s4b, s4c⟩, ⟨s5, s5a, s5b, s5c⟩, ⟨s6, s6a, s6b, s6c⟩, ⟨s7, s7a, s7b, s7c⟩, s8⟩ := h0
  obtain ⟨t0, ⟨t1, t1a, t1b, t1c⟩, ⟨t2, t2a, t2b, t2c⟩, ⟨t3, t3a, t3b, t3c⟩, ⟨t4, t4a, t4b, t4c⟩, ⟨t5, t5a, t5b, t5c⟩, ⟨t6, t6a, t6b, t6c⟩, ⟨t7, t7a, t7b, t7c⟩, t8⟩ := h1
  refine ev_185_0 ?_
  refine Ev_t t0 ?_
  refine Ev_R t1 ?_
  try dsimp only
  refine Ev_t s0 ?_
  refine Ev_R s1 ?_
  try dsimp only
  refine Ev_t s0 ?_
  refine Ev_R s1 ?_
  try dsimp only
  refine Ev_t ⟨s1a, s1b⟩ ?_
  refine Ev_t ⟨t1a, t1b⟩ ?_
  refine Ev_t ⟨s1a, s1b⟩ ?_
  refine Ev_t (by rw [s1c]; decide) ?_
  rw [s1c]
  refine Ev_t (cc (by decide) (by first | decide | (rw [t1c]; decide)) (by first | decide | (rw [s1c]; decide)) hd) ?_
  refine Ev_t (by decide) ?_
  refine Ev_sn (fun I_15 qI_15 => ?_)
  have rI_15_8 : I_15 a1 8 = J a1 8 := by rw [qI_15, cp2_o (n 1 (by decide))]
  have rI_15_9 : I_15 a1 9 = J a1 9 := by rw [qI_15, cp2_o (n 1 (by decide))]
  have rI_15_10 : I_15 a1 10 = J a1 10 := by rw [qI_15, cp2_o (n 1 (by decide))]
  have rI_15_11 : I_15 a1 11 = J a1 11 := by rw [qI_15, cp2_o (n 1 (by decide))]
  have rI_15_12 : I_15 a1 12 = J a1 12 := by rw [qI_15, cp2_o (n 1 (by decide))]
  refine Ev_t t0 ?_
  refine Ev_R t2 ?_
  try dsimp only
  refine Ev_t s0 ?_
  refine Ev_R s2 ?_
  try dsimp only
  refine Ev_t s0 ?_
  refine Ev_R s2 ?_
  try dsimp only
  refine Ev_t ⟨s2a, s2b⟩ ?_
  refine Ev_t ⟨t2a, t2b⟩ ?_
  refine Ev_t ⟨s2a, s2b⟩ ?_
  refine Ev_t (by rw [s2c]; decide) ?_
  rw [s2c]
  refine Ev_t (cc (by decide) (by first | decide | (rw [t2c]; decide)) (by first | decide | (rw [s2c]; decide)) hd) ?_
  refine Ev_t (by decide) ?_
  refine Ev_sn (fun I_33 qI_33 => ?_)
  have rI_33_8 : I_33 a1 8 = J a1 8 := by rw [qI_33, cp2_o (n 2 (by decide))]; exact rI_15_8
  have rI_33_9 : I_33 a1 9 = J a1 9 := by rw [qI_33, cp2_o (n 2 (by decide))]; exact rI_15_9
  have rI_33_10 : I_33 a1 10 = J a1 10 := by rw [qI_33, cp2_o (n 2 (by decide))]; exact rI_15_10
  have rI_33_11 : I_33 a1 11 = J a1 11 := by rw [qI_33, cp2_o (n 2 (by decide))]; exact rI_15_11
  have rI_33_12 : I_33 a1 12 = J a1 12 := by rw [qI_33, cp2_o (n 2 (by decide))]; exact rI_15_12
  refine Ev_t t0 ?_
  refine Ev_R t3 ?_
  try dsimp only
  refine Ev_t s0 ?_
  refine Ev_R s3 ?_
  try dsimp only
  refine Ev_t s0 ?_
  refine Ev_R s3 ?_
  try dsimp only
  refine Ev_t ⟨s3a, s3b⟩ ?_
  refine Ev_t ⟨t3a, t3b⟩ ?_
  refine Ev_t ⟨s3a, s3b⟩ ?_
  refine Ev_t (by rw [s3c]; decide) ?_
  rw [s3c]
  refine Ev_t (cc (by decide) (by first | decide | (rw [t3c]; decide)) (by first | decide | (rw [s3c]; decide)) hd) ?_
  refine Ev_t (by decide) ?_
  refine Ev_sn (fun I_51 qI_51 => ?_)
  have rI_51_8 : I_51 a1 8 = J a1 8 := by rw [qI_51, cp2_o (n 3 (by decide))]; exact rI_33_8
  have rI_51_9 : I_51 a1 9 = J a1 9 := by rw [qI_51, cp2_o (n 3 (by decide))]; exact rI_33_9
  have rI_51_10 : I_51 a1 10 = J a1 10 := by rw [qI_51, cp2_o (n 3 (by decide))]; exact rI_33_10
  have rI_51_11 : I_51 a1 11 = J a1 11 := by rw [qI_51, cp2_o (n 3 (by decide))]; exact rI_33_11
  have rI_51_12 : I_51 a1 12 = J a1 12 := by rw [qI_51, cp2_o (n 3 (by decide))]; exact rI_33_12
  refine Ev_t t0 ?_
  refine Ev_R t4 ?_
  try dsimp only
  refine Ev_t s0 ?_
  refine Ev_R s4 ?_
  try dsimp only
  refine Ev_t s0 ?_
  refine Ev_R s4 ?_
  try dsimp only
  refine Ev_t ⟨s4a, s4b⟩ ?_
  refine Ev_t ⟨t4a, t4b⟩ ?_
  refine Ev_t ⟨s4a, s4b⟩ ?_
  refine Ev_t (by rw [s4c]; decide) ?_
  rw [s4c]
  refine Ev_t (cc (by decide) (by first | decide | (rw [t4c]; decide)) (by first | decide | (rw [s4c]; decide)) hd) ?_
  refine Ev_t (by decide) ?_
  refine Ev_sn (fun I_69 qI_69 => ?_)
  have rI_69_8 : I_69 a1 8 = J a1 8 := by rw [qI_69, cp2_o (n 4 (by decide))]; exact rI_51_8
  have rI_69_9 : I_69 a1 9 = J a1 9 := by rw [qI_69, cp2_o (n 4 (by decide))]; exact rI_51_9
  have rI_69_10 : I_69 a1 10 = J a1 10 := by rw [qI_69, cp2_o (n 4 (by decide))]; exact rI_51_10
  have rI_69_11 : I_69 a1 11 = J a1 11 := by rw [qI_69, cp2_o (n 4 (by decide))]; exact rI_51_11
  have rI_69_12 : I_69 a1 12 = J a1 12 := by rw [qI_69, cp2_o (n 4 (by decide))]; exact rI_51_12
  refine Ev_t t0 ?_
  refine Ev_R t5 ?_
  try dsimp only
  refine Ev_t s0 ?_
  refine Ev_R s5 ?_
  try dsimp only
  refine Ev_t s0 ?_
  refine Ev_R s5 ?_
  try dsimp only
  refine Ev_t ⟨s5a, s5b⟩ ?_
  refine Ev_t ⟨t5a, t5b⟩ ?_
  refine Ev_t ⟨s5a, s5b⟩ ?_
  refine Ev_t (by rw [s5c]; decide) ?_
  rw [s5c]
  refine Ev_t (cc (by decide) (by first | decide | (rw [t5c]; decide)) (by first | decide | (rw [s5c]; decide)) hd) ?_
  refine Ev_t (by decide) ?_
  refine Ev_sn (fun I_87 qI_87 => ?_)
  have rI_87_8 : I_87 a1 8 = J a1 8 := by rw [qI_87, cp2_o (n 5 (by decide))]; exact rI_69_8
  have rI_87_9 : I_87 a1 9 = J a1 9 := by rw [qI_87, cp2_o (n 5 (by decide))]; exact rI_69_9
  have rI_87_10 : I_87 a1 10 = J a1 10 := by rw [qI_87, cp2_o (n 5 (by decide))]; exact rI_69_10
  have rI_87_11 : I_87 a1 11 = J a1 11 := by rw [qI_87, cp2_o (n 5 (by decide))]; exact rI_69_11
  have rI_87_12 : I_87 a1 12 = J a1 12 := by rw [qI_87, cp2_o (n 5 (by decide))]; exact rI_69_12
  refine Ev_t t0 ?_
  refine Ev_R t6 ?_
  try dsimp only
  refine Ev_t s0 ?_
  refine Ev_R s6 ?_
  try dsimp only
  refine Ev_t s0 ?_
  refine Ev_R s6 ?_
  try dsimp only
  refine Ev_t ⟨s6a, s6b⟩ ?_
  refine Ev_t ⟨t6a, t6b⟩ ?_
  refine Ev_t ⟨s6a, s6b⟩ ?_
  refine Ev_t (by rw [s6c]; decide) ?_
  rw [s6c]
  refine Ev_t (cc (by decide) (by first | decide | (rw [t6c]; decide)) (by first | decide | (rw [s6c]; decide)) hd) ?_
  refine Ev_t (by decide) ?_
  refine Ev_sn (fun I_105 qI_105 => ?_)
  have rI_105_8 : I_105 a1 8 = J a1 8 := by rw [qI_105, cp2_o (n 6 (by decide))]; exact rI_87_8
  have rI_105_9 : I_105 a1 9 = J a1 9 := by rw [qI_105, cp2_o (n 6 (by decide))]; exact rI_87_9
  have rI_105_10 : I_105 a1 10 = J a1 10 := by rw [qI_105, cp2_o (n 6 (by decide))]; exact rI_87_10
  have rI_105_11 : I_105 a1 11 = J a1 11 := by rw [qI_105, cp2_o (n 6 (by decide))]; exact rI_87_11
  have rI_105_12 : I_105 a1 12 = J a1 12 := by rw [qI_105, cp2_o (n 6 (by decide))]; exact rI_87_12
  refine Ev_t t0 ?_
  refine Ev_R t7 ?_
  try dsimp only
  refine Ev_t s0 ?_
  refine Ev_R s7 ?_
  try dsimp only
  refine Ev_t s0 ?_
  refine Ev_R s7 ?_
  try dsimp only
  refine Ev_t ⟨s7a, s7b⟩ ?_
  refine Ev_t ⟨t7a, t7b⟩ ?_
  refine Ev_t ⟨s7a, s7b⟩ ?_
  refine Ev_t (by rw [s7c]; decide) ?_
  rw [s7c]
  refine Ev_t (cc (by decide) (by first | decide | (rw [t7c]; decide)) (by first | decide | (rw [s7c]; decide)) hd) ?_
  refine Ev_t (by decide) ?_
  refine Ev_sn (fun I_123 qI_123 => ?_)
  have rI_123_8 : I_123 a1 8 = J a1 8 := by rw [qI_123, cp2_o (n 7 (by decide))]; exact rI_105_8
  have rI_123_9 : I_123 a1 9 = J a1 9 := by rw [qI_123, cp2_o (n 7 (by decide))]; exact rI_105_9
  have rI_123_10 : I_123 a1 10 = J a1 10 := by rw [qI_123, cp2_o (n 7 (by decide))]; exact rI_105_10
  have rI_123_11 : I_123 a1 11 = J a1 11 := by rw [qI_123, cp2_o (n 7 (by decide))]; exact rI_105_11
  have rI_123_12 : I_123 a1 12 = J a1 12 := by rw [qI_123, cp2_o (n 7 (by decide))]; exact rI_105_12
  refine Ev_t s0 ?_
  refine Ev_R s8 ?_
  try dsimp only
  refine Ev_t t0 ?_
  refine Ev_R t8 ?_
  try dsimp only
  refine Ev_t hT0.1 ?_
  refine Ev_t hd ?_
  have rt10 : I_123 u1 10 = J u1 10 := by rw [qI_123, cp2_o (nt 7 (by decide)), qI_105, cp2_o (nt 6 (by decide)), qI_87, cp2_o (nt 5 (by decide)), qI_69, cp2_o (nt 4 (by decide)), qI_51, cp2_o (nt 3 (by decide)), qI_33, cp2_o (nt 2 (by decide)), qI_15, cp2_o (nt 1 (by decide))]
  have rt11 : I_123 u1 11 = J u1 11 := by rw [qI_123, cp2_o (nt 7 (by decide)), qI_105, cp2_o (nt 6 (by decide)), qI_87, cp2_o (nt 5 (by decide)), qI_69, cp2_o (nt 4 (by decide)), qI_51, cp2_o (nt 3 (by decide)), qI_33, cp2_o (nt 2 (by decide)), qI_15, cp2_o (nt 1 (by decide))]
  have rt12 : I_123 u1 12 = J u1 12 := by rw [qI_123, cp2_o (nt 7 (by decide)), qI_105, cp2_o (nt 6 (by decide)), qI_87, cp2_o (nt 5 (by decide)), qI_69, cp2_o (nt 4 (by decide)), qI_51, cp2_o (nt 3 (by decide)), qI_33, cp2_o (nt 2 (by decide)), qI_15, cp2_o (nt 1 (by decide))]
  refine Ev_call (K186 hd1 hT0 hT1 hts (by rw [rt10]; exact c10) (by rw [rt11]; exact c11) (by rw [rt12]; exact c12)) ?_
  have rT_8 : tcp I_123 u0 u1 a1 8 = J a1 8 := by rw [tcp_o (fun z => na (by omega))]; exact rI_123_8
  have rT_9 : tcp I_123 u0 u1 a1 9 = J a1 9 := by rw [tcp_o (fun z => na (by omega))]; exact rI_123_9
  have rT_10 : tcp I_123 u0 u1 a1 10 = J a1 10 := by rw [tcp_o (fun z => na (by omega))]; exact rI_123_10
  have rT_11 : tcp I_123 u0 u1 a1 11 = J a1 11 := by rw [tcp_o (fun z => na (by omega))]; exact rI_123_11
  have rT_12 : tcp I_123 u0 u1 a1 12 = J a1 12 := by rw [tcp_o (fun z => na (by omega))]; exact rI_123_12
  dsimp only
  refine Ev_t t0 ?_
  refine Ev_t s0 ?_
  refine Ev_sn (fun I_142 qI_142 => ?_)
  rw [rT_8] at qI_142
  have rI_142_8 : I_142 a1 8 = J a1 8 := by rw [qI_142, w2_o (show ¬ a1 = a0 from n 0 (by decide))]; exact rT_8
  have rI_142_9 : I_142 a1 9 = J a1 9 := by rw [qI_142, w2_o (show ¬ a1 = a0 from n 0 (by decide))]; exact rT_9
  have rI_142_10 : I_142 a1 10 = J a1 10 := by rw [qI_142, w2_o (show ¬ a1 = a0 from n 0 (by decide))]; exact rT_10
  have rI_142_11 : I_142 a1 11 = J a1 11 := by rw [qI_142, w2_o (show ¬ a1 = a0 from n 0 (by decide))]; exact rT_11
  have rI_142_12 : I_142 a1 12 = J a1 12 := by rw [qI_142, w2_o (show ¬ a1 = a0 from n 0 (by decide))]; exact rT_12
  refine Ev_t t0 ?_
  refine Ev_t s0 ?_
  refine Ev_sn (fun I_150 qI_150 => ?_)
  rw [rI_142_9] at qI_150
  have rI_150_8 : I_150 a1 8 = J a1 8 := by rw [qI_150, w2_o (show ¬ a1 = a0 from n 0 (by decide))]; exact rI_142_8
  have rI_150_9 : I_150 a1 9 = J a1 9 := by rw [qI_150, w2_o (show ¬ a1 = a0 from n 0 (by decide))]; exact rI_142_9
  have rI_150_10 : I_150 a1 10 = J a1 10 := by rw [qI_150, w2_o (show ¬ a1 = a0 from n 0 (by decide))]; exact rI_142_10
  have rI_150_11 : I_150 a1 11 = J a1 11 := by rw [qI_150, w2_o (show ¬ a1 = a0 from n 0 (by decide))]; exact rI_142_11
  have rI_150_12 : I_150 a1 12 = J a1 12 := by rw [qI_150, w2_o (show ¬ a1 = a0 from n 0 (by decide))]; exact rI_142_12
  refine Ev_t t0 ?_
  refine Ev_t s0 ?_
  refine Ev_sn (fun I_158 qI_158 => ?_)
  rw [rI_150_10] at qI_158
  have rI_158_8 : I_158 a1 8 = J a1 8 := by rw [qI_158, w2_o (show ¬ a1 = a0 from n 0 (by decide))]; exact rI_150_8
  have rI_158_9 : I_158 a1 9 = J a1 9 := by rw [qI_158, w2_o (show ¬ a1 = a0 from n 0 (by decide))]; exact rI_150_9
  have rI_158_10 : I_158 a1 10 = J a1 10 := by rw [qI_158, w2_o (show ¬ a1 = a0 from n 0 (by decide))]; exact rI_150_10
  have rI_158_11 : I_158 a1 11 = J a1 11 := by rw [qI_158, w2_o (show ¬ a1 = a0 from n 0 (by decide))]; exact rI_150_11
  have rI_158_12 : I_158 a1 12 = J a1 12 := by rw [qI_158, w2_o (show ¬ a1 = a0 from n 0 (by decide))]; exact rI_150_12
  refine Ev_t t0 ?_
  refine Ev_t s0 ?_
  refine Ev_sn (fun I_166 qI_166 => ?_)
  rw [rI_158_11] at qI_166
  have rI_166_8 : I_166 a1 8 = J a1 8 := by rw [qI_166, w2_o (show ¬ a1 = a0 from n 0 (by decide))]; exact rI_158_8
  have rI_166_9 : I_166 a1 9 = J a1 9 := by rw [qI_166, w2_o (show ¬ a1 = a0 from n 0 (by decide))]; exact rI_158_9
  have rI_166_10 : I_166 a1 10 = J a1 10 := by rw [qI_166, w2_o (show ¬ a1 = a0 from n 0 (by decide))]; exact rI_158_10
  have rI_166_11 : I_166 a1 11 = J a1 11 := by rw [qI_166, w2_o (show ¬ a1 = a0 from n 0 (by decide))]; exact rI_158_11
  have rI_166_12 : I_166 a1 12 = J a1 12 := by rw [qI_166, w2_o (show ¬ a1 = a0 from n 0 (by decide))]; exact rI_158_12
  refine Ev_t t0 ?_
  refine Ev_t s0 ?_
  refine Ev_sn (fun I_174 qI_174 => ?_)
  rw [rI_166_12] at qI_174
  have rI_174_8 : I_174 a1 8 = J a1 8 := by rw [qI_174, w2_o (show ¬ a1 = a0 from n 0 (by decide))]; exact rI_166_8
  have rI_174_9 : I_174 a1 9 = J a1 9 := by rw [qI_174, w2_o (show ¬ a1 = a0 from n 0 (by decide))]; exact rI_166_9
  have rI_174_10 : I_174 a1 10 = J a1 10 := by rw [qI_174, w2_o (show ¬ a1 = a0 from n 0 (by decide))]; exact rI_166_10
  have rI_174_11 : I_174 a1 11 = J a1 11 := by rw [qI_174, w2_o (show ¬ a1 = a0 from n 0 (by decide))]; exact rI_166_11
  have rI_174_12 : I_174 a1 12 = J a1 12 := by rw [qI_174, w2_o (show ¬ a1 = a0 from n 0 (by decide))]; exact rI_166_12
  subst qI_174
  subst qI_166
  subst qI_158
  subst qI_150
  subst qI_142
  subst qI_123
  subst qI_105
  subst qI_87
  subst qI_69
  subst qI_51
  subst qI_33
  subst qI_15
  exact Ev_ret rfl
end KB
