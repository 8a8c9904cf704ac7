section
set_option maxRecDepth 100000 in
theorem ev_56_6 {dp : Nat} {e : EN} {I : JI} {L : JI} {i1 : Int} {i2 : Int} {P_ : (Int × JI × JI) → Prop} (h : Ev (fun n => (if 1 ≤ dp then ((kf_59 n (dp - 1) e 0 I L 91).bind (fun ⟨x0_3, I0_3, L0_3⟩ => (if x0_3 = 0 then (if (I0_3 104 7) < 50 then (if 1 ≤ dp then ((kf_54 n (dp - 1) e 0 I0_3 L0_3 0 1000).bind (fun ⟨x1_31, I1_31, L1_31⟩ => (if x1_31 = 0 then (if 1 ≤ dp then ((kf_41 n (dp - 1) e 0 I1_31 L1_31 0 4).bind (fun ⟨x2_56, I2_56, L2_56⟩ => (if x2_56 = 0 then (if 1 ≤ dp then ((kf_41 n (dp - 1) e 0 I2_56 L2_56 0 5).bind (fun ⟨x3_78, I3_78, L3_78⟩ => (if x3_78 = 0 then (if 1 ≤ dp then ((kf_41 n (dp - 1) e 0 I3_78 L3_78 0 6).bind (fun ⟨x4_100, I4_100, L4_100⟩ => (if x4_100 = 0 then (if 1 ≤ dp then ((kf_41 n (dp - 1) e 0 I4_100 L4_100 0 7).bind (fun ⟨x5_122, I5_122, L5_122⟩ => (if x5_122 = 0 then (if 1 ≤ dp then ((kf_41 n (dp - 1) e 0 I5_122 L5_122 0 8).bind (fun ⟨x6_144, I6_144, L6_144⟩ => (if x6_144 = 0 then (some ((0 : Int), I6_144, L6_144)) else ((e.2.2 104 1).bind (fun b_151 => (if (b_151 < e.1) ∧ ((e.2.1 b_151).1 = 10) then (if 1 ≤ dp then ((kf_61 n (dp - 1) e 0 I6_144 L6_144 1 4 b_151).bind (fun ⟨x7_156, I7_156, L7_156⟩ => (kf_56 n dp e 7 I7_156 L7_156 i1 0))) else none) else none)))))) else none) else ((e.2.2 104 1).bind (fun b_129 => (if (b_129 < e.1) ∧ ((e.2.1 b_129).1 = 10) then (if 1 ≤ dp then ((kf_61 n (dp - 1) e 0 I5_122 L5_122 1 3 b_129).bind (fun ⟨x6_134, I6_134, L6_134⟩ => (kf_56 n dp e 7 I6_134 L6_134 i1 0))) else none) else none)))))) else none) else ((e.2.2 104 1).bind (fun b_107 => (if (b_107 < e.1) ∧ ((e.2.1 b_107).1 = 10) then (if 1 ≤ dp then ((kf_61 n (dp - 1) e 0 I4_100 L4_100 1 2 b_107).bind (fun ⟨x5_112, I5_112, L5_112⟩ => (kf_56 n dp e 7 I5_112 L5_112 i1 0))) else none) else none)))))) else none) else ((e.2.2 104 1).bind (fun b_85 => (if (b_85 < e.1) ∧ ((e.2.1 b_85).1 = 10) then (if 1 ≤ dp then ((kf_61 n (dp - 1) e 0 I3_78 L3_78 1 1 b_85).bind (fun ⟨x4_90, I4_90, L4_90⟩ => (kf_56 n dp e 7 I4_90 L4_90 i1 0))) else none) else none)))))) else none) else ((e.2.2 104 1).bind (fun b_63 => (if (b_63 < e.1) ∧ ((e.2.1 b_63).1 = 10) then (if 1 ≤ dp then ((kf_61 n (dp - 1) e 0 I2_56 L2_56 1 0 b_63).bind (fun ⟨x3_68, I3_68, L3_68⟩ => (kf_56 n dp e 7 I3_68 L3_68 i1 0))) else none) else none)))))) else none) else ((e.2.2 104 1).bind (fun b_38 => (if (b_38 < e.1) ∧ ((e.2.1 b_38).1 = 10) then (if 1 ≤ dp then ((kf_61 n (dp - 1) e 0 I1_31 L1_31 0 (I1_31 104 6) b_38).bind (fun ⟨x2_46, I2_46, L2_46⟩ => (kf_56 n dp e 7 I2_46 L2_46 i1 0))) else none) else none)))))) else none) else (some ((0 : Int), I0_3, L0_3))) else (if 1 ≤ dp then ((kf_56 n (dp - 1) e 8 I0_3 L0_3 i1 0).bind (fun ⟨x1_11, I1_11, L1_11⟩ => (if (x1_11 = 0) ∨ (x1_11 = 1) then (some ((x1_11 : Int), I1_11, L1_11)) else none))) else none)))) else none)) P_) : Ev (fun n => kf_56 n dp e 6 I L i1 i2) P_ := Ev_step (fun n => ke_56_6 n dp e I L i1 i2) h
set_option maxRecDepth 100000 in
theorem ev_56_8 {dp : Nat} {e : EN} {I : JI} {L : JI} {i1 : Int} {i2 : Int} {P_ : (Int × JI × JI) → Prop} (h : Ev (fun n => (if i1 < 8 then (if 1 ≤ dp then ((kf_37 n (dp - 1) e 0 I L 0).bind (fun ⟨I0_9, L0_9⟩ => (if 1 ≤ dp then (if -2147483648 ≤ i1 + 1 ∧ i1 + 1 ≤ 2147483647 then ((kf_56 n (dp - 1) e 0 I0_9 L0_9 (i1 + 1) 0).bind (fun ⟨x1_16, I1_16, L1_16⟩ => (if x1_16 = 0 then (some ((0 : Int), I1_16, L1_16)) else (if 1 ≤ dp then ((kf_59 n (dp - 1) e 0 I1_16 L1_16 93).bind (fun ⟨x2_25, I2_25, L2_25⟩ => (if x2_25 = 0 then (some ((0 : Int), I2_25, L2_25)) else (if 1 ≤ dp then ((kf_37 n (dp - 1) e 0 I2_25 L2_25 0).bind (fun ⟨I3_34, L3_34⟩ => (some ((1 : Int), I3_34, L3_34)))) else none)))) else none)))) else none) else none))) else none) else (some ((0 : Int), I, L)))) P_) : Ev (fun n => kf_56 n dp e 8 I L i1 i2) P_ := Ev_step (fun n => ke_56_8 n dp e I L i1 i2) h
set_option maxRecDepth 100000 in
theorem ev_56_7 {dp : Nat} {e : EN} {I : JI} {L : JI} {i1 : Int} {i2 : Int} {P_ : (Int × JI × JI) → Prop} (h : Ev (fun n => (if -2147483648 ≤ (I 104 7) + 1 ∧ (I 104 7) + 1 ≤ 2147483647 then (stI (w2 I 104 7 ((I 104 7) + 1)) (fun I_172 => (if 1 ≤ dp then ((kf_37 n (dp - 1) e 0 I_172 L 0).bind (fun ⟨I0_176, L0_176⟩ => (some ((1 : Int), I0_176, L0_176)))) else none))) else none)) P_) : Ev (fun n => kf_56 n dp e 7 I L i1 i2) P_ := Ev_step (fun n => ke_56_7 n dp e I L i1 i2) h
set_option maxRecDepth 100000 in
theorem ev_56_4 {dp : Nat} {e : EN} {I : JI} {L : JI} {i1 : Int} {i2 : Int} {P_ : (Int × JI × JI) → Prop} (h : Ev (fun n => (if 400 ≤ i2 then (some ((1 : Int), I, L)) else (if 1 ≤ dp then ((kf_59 n (dp - 1) e 0 I L 42).bind (fun ⟨x0_22, I0_22, L0_22⟩ => (if x0_22 = 0 then (if 1 ≤ dp then ((kf_59 n (dp - 1) e 0 I0_22 L0_22 47).bind (fun ⟨x1_31, I1_31, L1_31⟩ => (if x1_31 = 0 then (some ((1 : Int), I1_31, L1_31)) else (kf_56 n dp e 5 I1_31 L1_31 i1 i2)))) else none) else (kf_56 n dp e 5 I0_22 L0_22 i1 i2)))) else none))) P_) : Ev (fun n => kf_56 n dp e 4 I L i1 i2) P_ := Ev_step (fun n => ke_56_4 n dp e I L i1 i2) h
set_option maxRecDepth 100000 in
theorem ev_56_5 {dp : Nat} {e : EN} {I : JI} {L : JI} {i1 : Int} {i2 : Int} {P_ : (Int × JI × JI) → Prop} (h : Ev (fun n => (if 1 ≤ dp then ((kf_59 n (dp - 1) e 0 I L 42).bind (fun ⟨x0_40, I0_40, L0_40⟩ => (if x0_40 = 0 then (if 1 ≤ dp then ((kf_37 n (dp - 1) e 0 I0_40 L0_40 0).bind (fun ⟨I1_53, L1_53⟩ => (if 1 ≤ dp then ((kf_56 n (dp - 1) e 6 I1_53 L1_53 i1 0).bind (fun ⟨x2_58, I2_58, L2_58⟩ => (if x2_58 = 0 then (some ((0 : Int), I2_58, L2_58)) else ((e.2.2 104 1).bind (fun b_67 => (if (b_67 < e.1) ∧ ((e.2.1 b_67).1 = 10) then (if 1 ≤ dp then ((kf_61 n (dp - 1) e 0 I2_58 L2_58 5 0 b_67).bind (fun ⟨x3_72, I3_72, L3_72⟩ => (if -2147483648 ≤ i2 + 1 ∧ i2 + 1 ≤ 2147483647 then (kf_56 n dp e 4 I3_72 L3_72 i1 (i2 + 1)) else none))) else none) else none)))))) else none))) else none) else (if 1 ≤ dp then ((kf_37 n (dp - 1) e 0 I0_40 L0_40 0).bind (fun ⟨I1_53, L1_53⟩ => (if 1 ≤ dp then ((kf_56 n (dp - 1) e 6 I1_53 L1_53 i1 0).bind (fun ⟨x2_58, I2_58, L2_58⟩ => (if x2_58 = 0 then (some ((0 : Int), I2_58, L2_58)) else ((e.2.2 104 1).bind (fun b_67 => (if (b_67 < e.1) ∧ ((e.2.1 b_67).1 = 10) then (if 1 ≤ dp then ((kf_61 n (dp - 1) e 0 I2_58 L2_58 4 0 b_67).bind (fun ⟨x3_72, I3_72, L3_72⟩ => (if -2147483648 ≤ i2 + 1 ∧ i2 + 1 ≤ 2147483647 then (kf_56 n dp e 4 I3_72 L3_72 i1 (i2 + 1)) else none))) else none) else none)))))) else none))) else none)))) else none)) P_) : Ev (fun n => kf_56 n dp e 5 I L i1 i2) P_ := Ev_step (fun n => ke_56_5 n dp e I L i1 i2) h
set_option maxRecDepth 100000 in
theorem ev_56_3 {dp : Nat} {e : EN} {I : JI} {L : JI} {i1 : Int} {i2 : Int} {P_ : (Int × JI × JI) → Prop} (h : Ev (fun n => (if 1 ≤ dp then ((kf_56 n (dp - 1) e 6 I L i1 0).bind (fun ⟨x0_2, I0_2, L0_2⟩ => (if x0_2 = 0 then (some ((0 : Int), I0_2, L0_2)) else (kf_56 n dp e 4 I0_2 L0_2 i1 0)))) else none)) P_) : Ev (fun n => kf_56 n dp e 3 I L i1 i2) P_ := Ev_step (fun n => ke_56_3 n dp e I L i1 i2) h
set_option maxRecDepth 100000 in
theorem ev_56_1 {dp : Nat} {e : EN} {I : JI} {L : JI} {i1 : Int} {i2 : Int} {P_ : (Int × JI × JI) → Prop} (h : Ev (fun n => (if 400 ≤ i2 then (some ((1 : Int), I, L)) else (if 1 ≤ dp then ((kf_59 n (dp - 1) e 0 I L 43).bind (fun ⟨x0_22, I0_22, L0_22⟩ => (if x0_22 = 0 then (if 1 ≤ dp then ((kf_59 n (dp - 1) e 0 I0_22 L0_22 45).bind (fun ⟨x1_31, I1_31, L1_31⟩ => (if x1_31 = 0 then (some ((1 : Int), I1_31, L1_31)) else (kf_56 n dp e 2 I1_31 L1_31 i1 i2)))) else none) else (kf_56 n dp e 2 I0_22 L0_22 i1 i2)))) else none))) P_) : Ev (fun n => kf_56 n dp e 1 I L i1 i2) P_ := Ev_step (fun n => ke_56_1 n dp e I L i1 i2) h
set_option maxRecDepth 100000 in
theorem ev_56_2 {dp : Nat} {e : EN} {I : JI} {L : JI} {i1 : Int} {i2 : Int} {P_ : (Int × JI × JI) → Prop} (h : Ev (fun n => (if 1 ≤ dp then ((kf_59 n (dp - 1) e 0 I L 43).bind (fun ⟨x0_40, I0_40, L0_40⟩ => (if x0_40 = 0 then (if 1 ≤ dp then ((kf_37 n (dp - 1) e 0 I0_40 L0_40 0).bind (fun ⟨I1_53, L1_53⟩ => (if 1 ≤ dp then ((kf_56 n (dp - 1) e 3 I1_53 L1_53 i1 0).bind (fun ⟨x2_58, I2_58, L2_58⟩ => (if x2_58 = 0 then (some ((0 : Int), I2_58, L2_58)) else ((e.2.2 104 1).bind (fun b_67 => (if (b_67 < e.1) ∧ ((e.2.1 b_67).1 = 10) then (if 1 ≤ dp then ((kf_61 n (dp - 1) e 0 I2_58 L2_58 3 0 b_67).bind (fun ⟨x3_72, I3_72, L3_72⟩ => (if -2147483648 ≤ i2 + 1 ∧ i2 + 1 ≤ 2147483647 then (kf_56 n dp e 1 I3_72 L3_72 i1 (i2 + 1)) else none))) else none) else none)))))) else none))) else none) else (if 1 ≤ dp then ((kf_37 n (dp - 1) e 0 I0_40 L0_40 0).bind (fun ⟨I1_53, L1_53⟩ => (if 1 ≤ dp then ((kf_56 n (dp - 1) e 3 I1_53 L1_53 i1 0).bind (fun ⟨x2_58, I2_58, L2_58⟩ => (if x2_58 = 0 then (some ((0 : Int), I2_58, L2_58)) else ((e.2.2 104 1).bind (fun b_67 => (if (b_67 < e.1) ∧ ((e.2.1 b_67).1 = 10) then (if 1 ≤ dp then ((kf_61 n (dp - 1) e 0 I2_58 L2_58 2 0 b_67).bind (fun ⟨x3_72, I3_72, L3_72⟩ => (if -2147483648 ≤ i2 + 1 ∧ i2 + 1 ≤ 2147483647 then (kf_56 n dp e 1 I3_72 L3_72 i1 (i2 + 1)) else none))) else none) else none)))))) else none))) else none)))) else none)) P_) : Ev (fun n => kf_56 n dp e 2 I L i1 i2) P_ := Ev_step (fun n => ke_56_2 n dp e I L i1 i2) h
set_option maxRecDepth 100000 in
theorem ev_56_0 {dp : Nat} {e : EN} {I : JI} {L : JI} {i1 : Int} {i2 : Int} {P_ : (Int × JI × JI) → Prop} (h : Ev (fun n => (if 1 ≤ dp then ((kf_56 n (dp - 1) e 3 I L i1 0).bind (fun ⟨x0_2, I0_2, L0_2⟩ => (if x0_2 = 0 then (some ((0 : Int), I0_2, L0_2)) else (kf_56 n dp e 1 I0_2 L0_2 i1 0)))) else none)) P_) : Ev (fun n => kf_56 n dp e 0 I L i1 i2) P_ := Ev_step (fun n => ke_56_0 n dp e I L i1 i2) h
end
/-! PARSER 10: sums -/
def OKp (dm : Nat) (e : EN) (tr : Nat) (tst b l t t' : Int) (ty : Den → Prop) (ex : JI → Prop) (q : List (Int × Int)) (J K L J' : JI) : Prop := ∃ (r : List (Int × Int)) (K' L' : JI) (d : Den) (h : Nat), Go dm e tst t K L t' K' L' ∧ PR tr b (r ++ q) J' K' L' ∧ (∀ x ∈ r, l ≤ bnd x.1) ∧ FrC tr J J' ∧ FrM K L K' L' ∧ ty d ∧ J 104 4 < J' 104 4 ∧ (h : Int) ≤ J' 104 7 - J 104 7 ∧ J' tr 12 - J tr 12 ≤ J' 104 4 - J 104 4 ∧ Seg (cC tr J') (J tr 12) (J' tr 12) d h ∧ Seg (cM (em r (cs K'))) (K 105 16) (em r (cs K')).2.2 d h ∧ Sml (K 105 16) (cs K) (em r (cs K')) ∧ ex J'
def Flp (dm : Nat) (e : EN) (tr : Nat) (tst t : Int) (J K L J' : JI) : Prop := ∃ (K' L' : JI) (t' : Int) (p : List (Int × Int)), Go dm e tst t K L t' K' L' ∧ K' 105 13 = 1 ∧ (K' 105 12 = J' 104 4 ∧ 0 ≤ K' 105 12) ∧ FrC tr J J' ∧ FrM K L K' L' ∧ (K' 105 22 = p.length ∧ Pl (K' 114) (K' 115) p ∧ ∀ x ∈ p, 0 ≤ x.2 ∧ x.2 < 400) ∧ 0 ≤ K' 105 16 ∧ K' 105 16 + p.length ≤ 400
def Pst (dm : Nat) (e : EN) (tr : Nat) (tst b l t t' : Int) (ty : Den → Prop) (ex : JI → Prop) (q : List (Int × Int)) (M J K L : JI) (r : Int × JI × JI) : Prop := r.2.2 = M ∧ ((r.1 = 1 ∧ OKp dm e tr tst b l t t' ty ex q J K L r.2.1) ∨ (r.1 = 0 ∧ Flp dm e tr tst t J K L r.2.1))
theorem fl_bad {dm : Nat} {e : EN} {tr : Nat} {tst t0 t' b : Int} {p : List (Int × Int)} {J J' K0 L0 K L : JI} (hP : PR tr b p J' K L) (g : Go dm e tst t0 K0 L0 t' (badK K) L) (fc : FrC tr J J') (fm : FrM K0 L0 K L) : Flp dm e tr tst t0 J K0 L0 J' := by
  obtain ⟨h1, h2, h3, h4, h5, h6, h7, h8⟩ := hP
  obtain ⟨t1, t2, t3, t4, t5, t6, t7, t8, t9, t10⟩ := h1
  refine ⟨badK K, L, t', p, g, rfl, ⟨t3.1, by show 0 ≤ K 105 8; omega⟩, fc, FrM_t fm ⟨fun a i g1 g2 => ?_, fun _ _ _ => rfl⟩, ⟨h4.1, h4.2.1, fun x hx => ?_⟩, ?_, ?_⟩
  · unfold badK
    simp (disch := omega) only [w2_n]
  · have := h4.2.2 x hx; omega
  · show 0 ≤ K 105 16; omega
  · show K 105 16 + p.length ≤ 400; omega
theorem fl_t {dm : Nat} {e : EN} {tr : Nat} {tst t0 t1 : Int} {J J1 J' K0 L0 K L : JI} (g : Go dm e tst t0 K0 L0 t1 K L) (fc : FrC tr J J1) (fm : FrM K0 L0 K L) (f : Flp dm e tr tst t1 J1 K L J') : Flp dm e tr tst t0 J K0 L0 J' := by
  obtain ⟨K', L', t', p, f1, f2, f3, f4, f5, f6⟩ := f
  exact ⟨K', L', t', p, Go_t g f1, f2, f3, FrC_t fc f4, FrM_t fm f5, f6⟩
def stC (tr : Nat) (J : JI) (o x : Int) : JI := w2 (w2 (w2 J (tr + 9) (J tr 12) o) (tr + 10) (J tr 12) x) tr 12 (J tr 12 + 1)
theorem stC_12 (tr : Nat) (J : JI) (o x : Int) : stC tr J o x tr 12 = J tr 12 + 1 := by unfold stC; rw [w2_ap, if_pos ⟨rfl, rfl⟩]
theorem stC_fr (tr : Nat) (J : JI) (o x : Int) : FrC tr J (stC tr J o x) := by
  refine ⟨fun a i g1 g2 g3 g4 => ?_, fun i hi => ⟨?_, ?_⟩, ?_⟩
  · unfold stC; simp (disch := omega) only [w2_n]
  · unfold stC; simp (disch := omega) only [w2_n]
  · unfold stC; simp (disch := omega) only [w2_n]
  · rw [stC_12]; omega
theorem stC_at (tr : Nat) (J : JI) (o x : Int) : cC tr (stC tr J o x) (J tr 12) = (o, x) := by
  unfold cC stC
  have e1 : w2 (w2 (w2 J (tr + 9) (J tr 12) o) (tr + 10) (J tr 12) x) tr 12 (J tr 12 + 1) (tr + 9) (J tr 12) = o := by
    rw [w2_n (by omega), w2_n (by omega), w2_ap, if_pos ⟨rfl, rfl⟩]
  have e2 : w2 (w2 (w2 J (tr + 9) (J tr 12) o) (tr + 10) (J tr 12) x) tr 12 (J tr 12 + 1) (tr + 10) (J tr 12) = x := by
    rw [w2_n (by omega), w2_ap, if_pos ⟨rfl, rfl⟩]
  rw [e1, e2]
theorem stC_4 {tr : Nat} (htr : tr = 9 ∨ tr = 93) (J : JI) (o x i : Int) : stC tr J o x 104 i = J 104 i := by unfold stC; simp (disch := omega) only [w2_n]
theorem stC_89 {tr : Nat} (htr : tr = 9 ∨ tr = 93) (J : JI) (o x i : Int) : stC tr J o x 89 i = J 89 i := by unfold stC; simp (disch := omega) only [w2_n]
theorem cC_fr {tr : Nat} {J J' : JI} {a : Int} {d : Den} {h : Nat} (f : FrC tr J J') (s : Seg (cC tr J) a (J tr 12) d h) : Seg (cC tr J') a (J tr 12) d h := seg_congr (fun i _ hi => by unfold cC; rw [(f.2.1 i hi).1, (f.2.1 i hi).2]) s
theorem GN_fr {tr : Nat} {J J1 : JI} (htr : tr = 9 ∨ tr = 93) (g : GN J J1) : FrC tr J J1 := by
  have o := GN_o g
  refine ⟨fun a i g1 g2 g3 g4 => o a i (by omega), fun i hi => ⟨o _ _ (by omega), o _ _ (by omega)⟩, ?_⟩
  rw [o tr 12 (by omega)]; omega
/-- the class's step more leaves the token -/
theorem PR_stC {tr : Nat} {b : Int} {q : List (Int × Int)} {J K L : JI} {o x : Int} (htr : tr = 9 ∨ tr = 93) (h : PR tr b q J K L) (h1 : J tr 12 + 1 ≤ J 104 4) : PR tr b q (stC tr J o x) K L := by
  have f := stC_fr tr J o x
  have e4 := stC_4 htr J o x
  have e89 := stC_89 htr J o x
  obtain ⟨h1', h2, h3, h4, h5, h6, h7, h8⟩ := h
  refine ⟨TK_c h1' (fun i _ _ => e4 i) e89 (fun _ _ _ => rfl) (fun _ => rfl) rfl, h2, by rw [e4]; exact h3, h4, h5, by rw [e4]; exact h6, by rw [e4, stC_12]; omega, h8⟩
def tcd (t : Int) (K L : JI) : Prop := t = 1 ∨ (t = 0 ∧ ¬ (K 105 10 = 1 ∧ L 105 11 = 14836) ∧ ¬ (K 105 10 = 3 ∧ L 105 11 = 40))
def sgn (J : JI) (c : Int) : Prop := J 104 3 = 3 ∧ J 89 (J 104 4) = c
def exF (J : JI) : Prop := True
def exT (J : JI) : Prop := exF J ∧ ¬ sgn J 42 ∧ ¬ sgn J 47
def exS (J : JI) : Prop := exT J ∧ ¬ sgn J 43 ∧ ¬ sgn J 45
def anyD (d : Den) : Prop := True
theorem noA_of {J K L : JI} (h : TK J K L) (x : exS J) : noA K L := by
  obtain ⟨⟨_, x1, x2⟩, x3, x4⟩ := x
  exact ⟨fun c => x3 ((TK_s h 43).mpr c), fun c => x4 ((TK_s h 45).mpr c), fun c => x1 ((TK_s h 42).mpr c), fun c => x2 ((TK_s h 47).mpr c)⟩
section SUM
variable {dm : Nat} {e : EN} {tr : Nat} {tst : Int} {M : JI}
def RdT (dm : Nat) (e : EN) (tr : Nat) (tst : Int) (M : JI) (lab : Nat) (dl l : Int) (ex : JI → Prop) (m : Nat) : Prop := ∀ (dc : Nat) (b t : Int) (q : List (Int × Int)) (J K L : JI) (x : Int), (0 ≤ b ∧ b ≤ 8) → 4 * (8 - b) + dl ≤ (dc : Int) → PR tr b q J K L → J 104 2 - J 104 4 ≤ m → tcd t K L → (∀ x p, q = x :: p → bnd x.1 < l) → Ev (fun n => kf_56 n dc e lab J M b x) (Pst dm e tr tst b l t 3 anyD ex q M J K L)
/-- a leaf -/
theorem ok_leaf {b t o v oc xc : Int} {q : List (Int × Int)} {J J3 K L : JI} {d : Den} (htr : tr = 9 ∨ tr = 93) (hdm : 8 ≤ dm) (hb : 0 ≤ b ∧ b ≤ 8) (hP : PR tr b q J K L) (hk : ¬ J 104 3 = 0) (h50 : J 104 7 < 50) (ht : tcd t K L) (hs : (K 105 10 = 2 ∧ L 105 11 ≤ 1000 ∧ o = 0 ∧ v = L 105 11) ∨ ∃ i : Nat, i < 5 ∧ (K 105 10 = 1 ∧ L 105 11 = cws.getD (4 + i) 0) ∧ o = (i : Int) + 1 ∧ v = 0) (hn : nrm o v = (oc, xc)) (hd : (oc = 0 ∧ (-1000000000 ≤ xc ∧ xc ≤ 1000000000) ∧ d = dK xc) ∨ (oc = 1 ∧ (0 ≤ xc ∧ xc < 5) ∧ d = dL xc)) (g : GN (w2 (stC tr J oc xc) 104 7 (stC tr J oc xc 104 7 + 1)) J3) : OKp dm e tr tst b 7 t 3 anyD exF q J K L J3 := by
  have hKP := PR_KP hP hb
  have hl := PR_lt hP hk
  have h19 : K 105 19 < 50 := by clear hs; have := hP.2.2.1; omega
  have e4 := stC_4 htr J oc xc
  obtain ⟨s, ⟨s1, K1, s2, s3⟩, s4⟩ := go_part (dm := dm) (e := e) (tst := tst) (show 6 ≤ dm by clear hs; omega) hKP ht (fun dd hdd => K228c hdd hKP hl.1 h19 hs)
  clear hs
  have ef := ef_lef (o := o) (v := v) hKP s2
  rw [← s3] at ef
  rw [s1] at s4
  have go := GN_o g
  have gf := GN_f g
  have f2 : (w2 (stC tr J oc xc) 104 7 (stC tr J oc xc 104 7 + 1)) 104 5 = J 104 5 := by rw [w2_n (by omega), e4]
  have f3 : (w2 (stC tr J oc xc) 104 7 (stC tr J oc xc 104 7 + 1)) 104 2 = J 104 2 := by rw [w2_n (by omega), e4]
  have j7 : J3 104 7 = J 104 7 + 1 := by rw [go _ _ (by omega), w2_ap, if_pos ⟨rfl, rfl⟩, e4]
  have j12 : J3 tr 12 = J tr 12 + 1 := by rw [go _ _ (by omega), w2_n (by omega), stC_12]
  rw [f2, f3] at gf
  have hP' := hP
  obtain ⟨h1, h2, h3, h4, h5, h6, h7, h8⟩ := hP
  have P3 : PR tr b q J3 s.2.1 s.2.2 := by
    refine PR_of hP' ⟨f3, f2, fun i => ?_⟩ g ef (by omega) ?_ ?_ (by omega)
    · rw [w2_n (by omega)]; exact stC_89 htr J oc xc i
    · intro x hx
      have := h4.2.2 x hx
      dsimp only
      omega
    · dsimp only; omega
  have fw : FrC tr (stC tr J oc xc) (w2 (stC tr J oc xc) 104 7 (stC tr J oc xc 104 7 + 1)) := by
    refine ⟨fun a i g1 g2 g3 g4 => w2_n (by omega), fun i hi => ⟨w2_n (by omega), w2_n (by omega)⟩, ?_⟩
    rw [w2_n (by omega)]; omega
  have fr := FrC_t fw (GN_fr htr g)
  have cat : cC tr J3 (J tr 12) = (oc, xc) := by
    have := stC_at tr J oc xc
    rw [← this]
    unfold cC
    rw [(fr.2.1 (J tr 12) (by rw [stC_12]; omega)).1, (fr.2.1 (J tr 12) (by rw [stC_12]; omega)).2]
  have mat : cM (cs s.2.1) (K 105 16) = (oc, xc) := by rw [ef.2.2.1, cM_at, hn]
  have mn : (cs s.2.1).2.2 = K 105 16 + 1 := by rw [ef.2.2.1]
  refine ⟨[], s.2.1, s.2.2, d, 1, s4, P3, fun x hx => (nomatch hx), FrC_t (stC_fr tr J oc xc) fr, ef.2.2.2.2.2.1, trivial, by omega, by omega, by omega, ?_, ?_, ?_, trivial⟩
  · rw [j12]
    rcases hd with ⟨rfl, z, rfl⟩ | ⟨rfl, z, rfl⟩
    · exact seg_k cat z
    · exact seg_l cat z
  · show Seg (cM (cs s.2.1)) (K 105 16) (cs s.2.1).2.2 d 1
    rw [mn]
    rcases hd with ⟨rfl, z, rfl⟩ | ⟨rfl, z, rfl⟩
    · exact seg_k mat z
    · exact seg_l mat z
  · show Sml (K 105 16) (cs K) (cs s.2.1)
    rw [ef.2.2.1]
    exact Sml_up (s := cs K) (Int.le_refl _)
theorem rdF (htr : tr = 9 ∨ tr = 93) (hT : TrO e tr) (h104 : e.2.2 104 1 = some tr) (hdm : 8 ≤ dm) (m : Nat) (ihS : ∀ m', m' < m → RdT dm e tr tst M 0 8 5 exS m') : RdT dm e tr tst M 6 6 7 exF m := by
  intro dc b t q J K L x hb hdc hP hm ht hq
  have hKP := PR_KP hP hb
  have hP' := hP
  obtain ⟨h1, h2, h3, h4, h5, h6, h7, h8⟩ := hP
  have h1' := h1
  obtain ⟨t1, t2, t3, t4, t5, t6, t7, t8, t9, t10⟩ := h1
  have tb : 0 ≤ J 104 4 ∧ (J 104 3 = 3 → J 104 4 < 400) := ⟨by omega, fun c => by have := t7 (by omega); omega⟩
  refine ev_56_6 ?_
  refine Ev_t (by omega) (Ev59 tb (fun c => ?_) (fun c => ?_)) <;> dsimp only
  · refine Ev_f (by decide) (Ev_t (by omega) ?_)
    have hl := PR_lt hP' (by omega)
    have inner : Ev (fun n => kf_56 n (dc - 1) e 8 J M b 0) (Pst dm e tr tst b 7 t 3 anyD exF q M J K L) := by
      refine ev_56_8 ?_
      by_cases hb8 : b < 8
      · refine Ev_t hb8 (Ev_t (by omega) (Ev_bind (K37 (by omega) (by omega)) ?_))
        rintro ⟨J1, M1⟩ ⟨hM1, gn⟩
        dsimp only at hM1 gn ⊢
        subst hM1
        have go := GN_o gn
        have gf := GN_f gn
        have g2 := go 104 2 (by omega)
        have g7 := go 104 7 (by omega)
        have g12 := go tr 12 (by omega)
        obtain ⟨s, ⟨s1, K1, s2, s3⟩, s4⟩ := go_part (dm := dm) (e := e) (tst := tst) (by omega) hKP ht (fun dd hdd => K228a hdd hKP hl.1 ((TK_s h1' 91).mp c) hb8)
        have ef := ef_opn (o := 31) hKP s2
        rw [← s3] at ef
        rw [s1] at s4
        have P1 : PR tr (b + 1) ((31, 0) :: q) J1 s.2.1 s.2.2 := by
          refine PR_of hP' ⟨rfl, rfl, fun _ => rfl⟩ gn ef (by omega) ?_ ?_ (by omega)
          · intro x hx
            rcases List.mem_cons.mp hx with z | z
            · subst z; dsimp only; exact ⟨by decide, by decide, by decide, by decide, fun z => by rcases z with z | z <;> exact absurd z (by decide)⟩
            · exact h4.2.2 x z
          · simp only [List.length_cons]; show 0 ≤ K 105 16 ∧ K 105 16 + _ ≤ _; omega
        refine Ev_t (by omega) (Ev_t (by omega) (Ev_bind (ihS (m - 1) (by omega) (dc - 1 - 1) (b + 1) 1 ((31, 0) :: q) J1 s.2.1 s.2.2 0 (by omega) (by omega) P1 (by omega) (Or.inl rfl) (fun x p hp => by cases hp; decide)) ?_))
        rintro ⟨y, J2, M2⟩ ⟨hM2, hy⟩
        dsimp only at hM2 hy ⊢
        subst hM2
        rcases hy with ⟨rfl, ok⟩ | ⟨rfl, fl⟩
        · refine Ev_f (by decide) (Ev_t (by omega) ?_)
          obtain ⟨r2, K2, L2, d2, hh2, g3, P2, hr2, fC2, fM2, ty2, lt2, hl2, inc2, sC2, sM2, sml2, ex2⟩ := ok
          have P2' := P2
          obtain ⟨u1, u2, u3, u4, u5, u6, u7, u8⟩ := P2
          have u1' := u1
          obtain ⟨v1, v2, v3, v4, v5, v6, v7, v8, v9, v10⟩ := u1
          have hKP2 := PR_KP P2' (by omega)
          have n2 := noA_of u1' ex2
          have fcJ := GN_fr htr gn
          refine Ev59 ⟨by omega, fun c => by have := v7 (by omega); omega⟩ (fun c2 => ?_) (fun c2 => ?_) <;> dsimp only
          · refine Ev_f (by decide) (Ev_t (by omega) (Ev_bind (K37 (by omega) (by omega)) ?_))
            rintro ⟨J3, M3⟩ ⟨hM3, gn3⟩
            dsimp only at hM3 gn3 ⊢
            subst hM3
            have go3 := GN_o gn3
            have gf3 := GN_f gn3
            have w7 := go3 104 7 (by omega)
            have w12 := go3 tr 12 (by omega)
            have hlt2 := v7 (by omega)
            obtain ⟨z, ⟨z1, K3, K4, z2, z3, z4⟩, z5⟩ := go_of3 (e := e) (tst := tst) (dm := dm) (by omega) u2 (K232sqt (y := 0) (z := 0) (by omega) hKP2 n2 ((TK_s u1' 93).mp c2) hr2 (by omega))
            have ef3 := ef_cls (L1 := z.2.2) hKP2 z2 z3
            rw [← z4] at ef3
            rw [z1] at z5
            have en := em_n r2 (cs K2)
            have e16 : (cs K2).2.2 = K2 105 16 := rfl
            have la : (r2 ++ (31, 0) :: q).length = r2.length + (q.length + 1) := List.length_append
            have bb : b + 1 - 1 = b := by omega
            rw [bb] at ef3
            have cs1 : cs s.2.1 = cs K := ef.2.2.1
            have s16 : s.2.1 105 16 = K 105 16 := by have : (cs s.2.1).2.2 = (cs K).2.2 := by rw [cs1]
                                                     exact this
            have P3 : PR tr b q J3 z.2.1 z.2.2 := by
              refine PR_of P2' ⟨rfl, rfl, fun _ => rfl⟩ gn3 ef3 (by omega) ?_ (by omega) (by omega)
              intro x hx
              have := h4.2.2 x hx
              have q1 : K 105 16 ≤ (em r2 (cs K2)).2.2 := by have := sM2.1; omega
              omega
            refine Ev_ret ⟨rfl, Or.inl ⟨rfl, ?_⟩⟩
            dsimp only
            refine ⟨[], z.2.1, z.2.2, d2, hh2, Go_t s4 (Go_t g3 z5), P3, fun x hx => (nomatch hx), FrC_t fcJ (FrC_t fC2 (GN_fr htr gn3)), FrM_t ef.2.2.2.2.2.1 (FrM_t fM2 ef3.2.2.2.2.2.1), trivial, by omega, by omega, by omega, ?_, ?_, ?_, trivial⟩
            · have := cC_fr (GN_fr htr gn3) sC2
              rw [g12] at this
              rw [w12]
              exact this
            · show Seg (cM (cs z.2.1)) (K 105 16) (cs z.2.1).2.2 d2 hh2
              rw [ef3.2.2.1, ← s16]
              exact sM2
            · show Sml (K 105 16) (cs K) (cs z.2.1)
              rw [ef3.2.2.1, ← s16, ← cs1]
              exact sml2
          · refine Ev_t rfl (Ev_ret ⟨rfl, Or.inr ⟨rfl, ?_⟩⟩)
            obtain ⟨z, z1, z5⟩ := go_of3 (e := e) (tst := tst) (dm := dm) (by omega) u2 (K232sqf (y := 0) (z := 0) (by omega) hKP2 n2 (fun z => c2 ((TK_s u1' 93).mpr z)) hr2)
            subst z1
            exact fl_bad P2' (Go_t s4 (Go_t g3 z5)) (FrC_t fcJ fC2) (FrM_t ef.2.2.2.2.2.1 fM2)
        · exact Ev_t rfl (Ev_ret ⟨rfl, Or.inr ⟨rfl, fl_t s4 (GN_fr htr gn) ef.2.2.2.2.2.1 fl⟩⟩)
      · refine Ev_f hb8 (Ev_ret ⟨rfl, Or.inr ⟨rfl, ?_⟩⟩)
        obtain ⟨s, s1, s4⟩ := go_part (dm := dm) (e := e) (tst := tst) (by omega) hKP ht (fun dd hdd => K228b hdd hKP ((TK_s h1' 91).mp c) (by omega))
        subst s1
        exact fl_bad hP' s4 (FrC_r _ _) (FrM_r _ _)
    refine Ev_bind inner ?_
    rintro ⟨y, J2, M2⟩ hy
    dsimp only
    refine Ev_t ?_ (Ev_ret hy)
    rcases hy.2 with z | z
    · exact Or.inr z.1
    · exact Or.inl z.1
  · have n91 : ¬ (K 105 10 = 3 ∧ L 105 11 = 91) := fun z => c ((TK_s h1' 91).mpr z)
    have bad : (50 ≤ K 105 19 ∨ (¬ (K 105 10 = 2 ∧ L 105 11 ≤ 1000) ∧ ∀ i : Nat, i < 5 → ¬ (K 105 10 = 1 ∧ L 105 11 = cws.getD (4 + i) 0))) → Pst dm e tr tst b 7 t 3 anyD exF q M J K L (0, J, M) := by
      intro hx
      refine ⟨rfl, Or.inr ⟨rfl, ?_⟩⟩
      obtain ⟨s, s1, s4⟩ := go_part (dm := dm) (e := e) (tst := tst) (by omega) hKP ht (fun dd hdd => K228d hdd hKP n91 hx)
      subst s1
      exact fl_bad hP' s4 (FrC_r _ _) (FrM_r _ _)
    refine Ev_t rfl (Ev_c (fun c50 => ?_) (fun c50 => Ev_ret (bad (Or.inl (by omega)))))
    have leaf : ∀ (o v oc xc : Int) (d : Den), ¬ J 104 3 = 0 → ((K 105 10 = 2 ∧ L 105 11 ≤ 1000 ∧ o = 0 ∧ v = L 105 11) ∨ ∃ i : Nat, i < 5 ∧ (K 105 10 = 1 ∧ L 105 11 = cws.getD (4 + i) 0) ∧ o = (i : Int) + 1 ∧ v = 0) → nrm o v = (oc, xc) → ((oc = 0 ∧ (-1000000000 ≤ xc ∧ xc ≤ 1000000000) ∧ d = dK xc) ∨ (oc = 1 ∧ (0 ≤ xc ∧ xc < 5) ∧ d = dL xc)) → Ev (fun n => kf_56 n dc e 7 (stC tr J oc xc) M b 0) (Pst dm e tr tst b 7 t 3 anyD exF q M J K L) := by
      intro o v oc xc d k1 k2 k3 k4
      have e4 := stC_4 htr J oc xc
      refine ev_56_7 ?_
      refine Ev_t (by rw [e4]; omega) (Ev_st (Ev_t (by omega) (Ev_bind (K37 (by omega) ?_) ?_)))
      · rw [w2_n (by omega), w2_n (by omega), e4, e4]; omega
      · rintro ⟨J3, M3⟩ ⟨hM3, gn3⟩
        dsimp only at hM3 gn3 ⊢
        subst hM3
        exact Ev_ret ⟨rfl, Or.inl ⟨rfl, ok_leaf htr hdm hb hP' k1 c50 ht k2 k3 k4 gn3⟩⟩
    have h12 : ¬ J 104 3 = 0 → 0 ≤ J tr 12 ∧ J tr 12 < 400 := fun z => by have := PR_lt hP' z; omega
    refine Ev_t (by omega) (Ev54 (fun cn => ?_) (fun cn => ?_)) <;> dsimp only
    · refine Ev_f (by decide) (Ev_R h104 (Ev_t hT.1 (Ev_t (by omega) (Ev_call (K61 hT (by omega) (h12 (by omega))) ?_))))
      have q9 := t9 cn.1
      refine leaf 0 (L 105 11) 0 (J 104 6) (dK (J 104 6)) (by omega) (Or.inl ⟨by omega, by omega, rfl, rfl⟩) ?_ (Or.inl ⟨rfl, by omega, rfl⟩)
      unfold nrm
      rw [if_pos rfl, q9.2.2.2.2.2 (by omega)]
    · have wb : 0 ≤ J 104 4 ∧ J 104 4 ≤ J 104 5 ∧ J 104 5 ≤ 400 := by omega
      have wl : ∀ i : Nat, i < 5 → Wd J (4 + i) → Ev (fun n => kf_56 n dc e 7 (stC tr J 1 i) M b 0) (Pst dm e tr tst b 7 t 3 anyD exF q M J K L) := by
        intro i hi hw
        have := (TK_w h1' (s := 4 + i) (by omega)).mp hw
        refine leaf ((i : Int) + 1) 0 1 i (dL i) (by have := hw.1; omega) (Or.inr ⟨i, hi, this, rfl, rfl⟩) ?_ (Or.inr ⟨rfl, by omega, rfl⟩)
        unfold nrm
        rw [if_neg (by omega), if_pos (by omega)]
        congr 1
        omega
      refine Ev_t rfl ?_
      refine Ev_t (by omega) (Ev41 (by omega) (by decide) wb (fun w => ?_) (fun w4 => ?_)) <;> dsimp only
      · exact Ev_f (by decide) (Ev_R h104 (Ev_t hT.1 (Ev_t (by omega) (Ev_call (K61 hT (by omega) (h12 (by have := w.1; omega))) (wl 0 (by decide) w)))))
      refine Ev_t rfl ?_
      refine Ev_t (by omega) (Ev41 (by omega) (by decide) wb (fun w => ?_) (fun w5 => ?_)) <;> dsimp only
      · exact Ev_f (by decide) (Ev_R h104 (Ev_t hT.1 (Ev_t (by omega) (Ev_call (K61 hT (by omega) (h12 (by have := w.1; omega))) (wl 1 (by decide) w)))))
      refine Ev_t rfl ?_
      refine Ev_t (by omega) (Ev41 (by omega) (by decide) wb (fun w => ?_) (fun w6 => ?_)) <;> dsimp only
      · exact Ev_f (by decide) (Ev_R h104 (Ev_t hT.1 (Ev_t (by omega) (Ev_call (K61 hT (by omega) (h12 (by have := w.1; omega))) (wl 2 (by decide) w)))))
      refine Ev_t rfl ?_
      refine Ev_t (by omega) (Ev41 (by omega) (by decide) wb (fun w => ?_) (fun w7 => ?_)) <;> dsimp only
      · exact Ev_f (by decide) (Ev_R h104 (Ev_t hT.1 (Ev_t (by omega) (Ev_call (K61 hT (by omega) (h12 (by have := w.1; omega))) (wl 3 (by decide) w)))))
      refine Ev_t rfl ?_
      refine Ev_t (by omega) (Ev41 (by omega) (by decide) wb (fun w => ?_) (fun w8 => ?_)) <;> dsimp only
      · exact Ev_f (by decide) (Ev_R h104 (Ev_t hT.1 (Ev_t (by omega) (Ev_call (K61 hT (by omega) (h12 (by have := w.1; omega))) (wl 4 (by decide) w)))))
      refine Ev_t rfl (Ev_ret (bad (Or.inr ⟨fun z => cn ((TK_n h1' (lo := 0) (hi := 1000) (by omega)).mpr ⟨z.1, by have := t9 (by omega); omega, z.2⟩), fun i hi z => ?_⟩)))
      have z2 := (TK_w h1' (s := 4 + i) (by omega)).mpr z
      have i5 : i = 0 ∨ i = 1 ∨ i = 2 ∨ i = 3 ∨ i = 4 := by omega
      rcases i5 with rfl | rfl | rfl | rfl | rfl
      · exact w4 z2
      · exact w5 z2
      · exact w6 z2
      · exact w7 z2
      · exact w8 z2
theorem exF_c {J J' : JI} (a : J' 104 3 = J 104 3) (b : J' 104 4 = J 104 4) (c : ∀ i, J' 89 i = J 89 i) (h : exF J) : exF J' := trivial
theorem exT_c {J J' : JI} (a : J' 104 3 = J 104 3) (b : J' 104 4 = J 104 4) (c : ∀ i, J' 89 i = J 89 i) (h : exT J) : exT J' := by
  unfold exT sgn at *
  rw [a, b, c]; exact h
theorem lpT {b t0 : Int} {q : List (Int × Int)} {J0 K0 L0 : JI} {mm dc : Nat} (htr : tr = 9 ∨ tr = 93) (hT : TrO e tr) (h104 : e.2.2 104 1 = some tr) (hdm : 8 ≤ dm) (hb : 0 ≤ b ∧ b ≤ 8) (hdc : 4 * (8 - b) + 7 ≤ (dc : Int)) (hsub : ∀ m', m' < mm → RdT dm e tr tst M 6 6 7 exF m') (hq : ∀ x p, q = x :: p → bnd x.1 < 6) (h0 : 0 ≤ J0 104 4) (j12 : 0 ≤ J0 tr 12) (k16 : 0 ≤ K0 105 16) (m : Nat) : m ≤ mm → ∀ (J : JI) (i : Int), J 104 2 - J 104 4 ≤ m → 0 ≤ i → i + J0 104 4 + 1 ≤ J 104 4 → OKp dm e tr tst b 6 t0 3 anyD exF q J0 K0 L0 J → Ev (fun n => kf_56 n dc e 4 J M b i) (Pst dm e tr tst b 6 t0 3 anyD exT q M J0 K0 L0) := by
  refine Nat.strongRecOn m (fun m ih hmm J i hm hi hi2 ok => ?_)
  have ih := fun m' h => ih m' h (by omega)
  have ok' := ok
  obtain ⟨r, K, L, d, hh, g, P, hr, fC, fM, ty, lt, hl0, inc, sC, sM, sml, ex0⟩ := ok
  have P' := P
  have hKP := PR_KP P' hb
  obtain ⟨u1, u2, u3, u4, u5, u6, u7, u8⟩ := P
  have u1' := u1
  obtain ⟨v1, v2, v3, v4, v5, v6, v7, v8, v9, v10⟩ := u1
  have tb : 0 ≤ J 104 4 ∧ (J 104 3 = 3 → J 104 4 < 400) := ⟨by omega, fun c => by have := v7 (by omega); omega⟩
  refine ev_56_4 ?_
  refine Ev_f (by omega) (Ev_t (by omega) (Ev59 tb (fun cc => ?_) (fun cn => ?_))) <;> dsimp only
  · refine Ev_f (by decide) ?_
    refine ev_56_5 ?_
    refine Ev_t (by omega) (Ev59 tb (fun _ => ?_) (fun z => absurd cc z)) <;> dsimp only
    refine Ev_f (by decide) ?_
    have hl := PR_lt P' (by have := cc.1; omega)
    obtain ⟨s, ⟨s1, K1, s2, s3⟩, s4⟩ := go_of3 (e := e) (tst := tst) (dm := dm) (by omega) P'.2.1 (K232ar (o := 22) (c := 42) (y := 0) (z := 0) (by omega) hKP hl.1 ((TK_s P'.1 42).mp cc) (by omega) (fun x hx => by have := hr x hx; have eb : bnd 22 = 6 := (by decide); omega) (fun x p hp => by have := hq x p hp; have eb : bnd 22 = 6 := (by decide); omega))
    have ef := ef_ar (o := 22) hKP s2 s3
    rw [s1] at s4
    refine Ev_t (by omega) (Ev_bind (K37 (by omega) (by omega)) ?_)
    rintro ⟨J1, M1⟩ ⟨hM1, gn⟩
    dsimp only at hM1 gn ⊢
    subst hM1
    have go := GN_o gn
    have gf := GN_f gn
    have g2 := go 104 2 (by omega)
    have g7 := go 104 7 (by omega)
    have g12 := go tr 12 (by omega)
    have en := em_n r (cs K)
    have e16 : (cs K).2.2 = K 105 16 := rfl
    have la : (r ++ q).length = r.length + q.length := List.length_append
    have cs1 : cs s.2.1 = em r (cs K) := ef.2.2.1
    have s16 : s.2.1 105 16 = (em r (cs K)).2.2 := by rw [← cs1]; rfl
    have P1 : PR tr b ((22, 0) :: q) J1 s.2.1 s.2.2 := by
      refine PR_of P' ⟨rfl, rfl, fun _ => rfl⟩ gn ef (by omega) ?_ ?_ (by omega)
      · intro x hx
        rcases List.mem_cons.mp hx with z | z
        · subst z; dsimp only; exact ⟨by decide, by decide, by decide, by decide, fun z => by rcases z with z | z <;> exact absurd z (by decide)⟩
        · have := u4.2.2 x (List.mem_append_right _ z)
          omega
      · simp only [List.length_cons]; omega
    refine Ev_t (by omega) (Ev_bind (hsub (m - 1) (by omega) (dc - 1) b 1 ((22, 0) :: q) J1 s.2.1 s.2.2 0 hb (by omega) P1 (by omega) (Or.inl rfl) (fun x p hp => by cases hp; decide)) ?_)
    rintro ⟨y, J2, M2⟩ ⟨hM2, hy⟩
    dsimp only at hM2 hy ⊢
    subst hM2
    rcases hy with ⟨rfl, ok⟩ | ⟨rfl, fl⟩
    · obtain ⟨r2, K2, L2, d2, hh2, g3, P2, hr2, fC2, fM2, ty2, lt2, hl2, inc2, sC2, sM2, sml2, ex2⟩ := ok
      have P2' := P2
      obtain ⟨x1, x2, x3, x4, x5, x6, x7, x8⟩ := P2
      obtain ⟨y1, y2, y3, y4, y5, y6, y7, y8, y9, y10⟩ := x1
      refine Ev_f (by decide) (Ev_R h104 (Ev_t hT.1 (Ev_t (by omega) (Ev_call (K61 hT (by omega) (by omega)) (Ev_t (by omega) ?_)))))
      have e4 := stC_4 htr J2 4 0
      have e89 := stC_89 htr J2 4 0
      have e12 := stC_12 tr J2 4 0
      have h2N : J2 104 2 = J 104 2 := (fC2.1 104 2 (by omega) (by omega) (by omega) (by omega)).trans g2
      refine ih (m - 1) (by omega) (stC tr J2 4 0) (i + 1) (by rw [e4, e4]; omega) (by omega) (by rw [e4]; omega) ?_
      have ap : (r2 ++ [(22, 0)]) ++ q = r2 ++ (22, 0) :: q := by rw [List.append_assoc]; rfl
      have eme : em (r2 ++ [(22, 0)]) (cs K2) = em [(22, 0)] (em r2 (cs K2)) := em_app _ _ _
      have l1 := sM.1
      have l2 := sM2.1
      rw [s16, cs1] at sml2
      rw [s16] at sM2 l2
      rw [g12] at sC2 inc2
      refine ⟨r2 ++ [(22, 0)], K2, L2, dB 4 d d2, hh + hh2, Go_t g (Go_t s4 g3), ?_, ?_, FrC_t fC (FrC_t (GN_fr htr gn) (FrC_t fC2 (stC_fr tr J2 4 0))), FrM_t fM (FrM_t ef.2.2.2.2.2.1 fM2), trivial, by rw [e4]; omega, by rw [e4]; omega, by rw [e4, e12]; omega, ?_, ?_, ?_, ?_⟩
      · rw [ap]; exact PR_stC htr P2' (by omega)
      · intro x hx
        rcases List.mem_append.mp hx with z | z
        · have := hr2 x z; omega
        · have z : x = (22, 0) := by simpa using z
          subst z; decide
      · rw [e12]
        have f1 := FrC_t (GN_fr htr gn) (FrC_t fC2 (stC_fr tr J2 4 0))
        have f2 := stC_fr tr J2 4 0
        refine seg_b (cC_fr f1 sC) (cC_fr f2 sC2) (by rw [stC_at]) (by omega) ?_
        have := sC.2.1
        omega
      · rw [eme]
        have := sM.2.1
        exact em_op (o := 22) (cM_sml sml2 sM) sM2 (by omega) (by omega)
      · rw [eme]
        refine Sml_t (by omega) sml (Sml_t (b := (em r2 (cs K2)).2.2) (by omega) sml2 ?_)
        exact Sml_up (s := em r2 (cs K2)) (Int.le_refl _)
      · exact exF_c (e4 3) (e4 4) e89 ex2
    · exact Ev_t rfl (Ev_ret ⟨rfl, Or.inr ⟨rfl, fl_t (Go_t g s4) (FrC_t fC (GN_fr htr gn)) (FrM_t fM ef.2.2.2.2.2.1) fl⟩⟩)
  · refine Ev_t rfl (Ev_t (by omega) (Ev59 tb (fun cc => ?_) (fun cn2 => ?_))) <;> dsimp only
    · refine Ev_f (by decide) ?_
      refine ev_56_5 ?_
      refine Ev_t (by omega) (Ev59 tb (fun z => absurd z cn) (fun _ => ?_)) <;> dsimp only
      refine Ev_t rfl ?_
      have hl := PR_lt P' (by have := cc.1; omega)
      obtain ⟨s, ⟨s1, K1, s2, s3⟩, s4⟩ := go_of3 (e := e) (tst := tst) (dm := dm) (by omega) P'.2.1 (K232ar (o := 23) (c := 47) (y := 0) (z := 0) (by omega) hKP hl.1 ((TK_s P'.1 47).mp cc) (by omega) (fun x hx => by have := hr x hx; have eb : bnd 23 = 6 := (by decide); omega) (fun x p hp => by have := hq x p hp; have eb : bnd 23 = 6 := (by decide); omega))
      have ef := ef_ar (o := 23) hKP s2 s3
      rw [s1] at s4
      refine Ev_t (by omega) (Ev_bind (K37 (by omega) (by omega)) ?_)
      rintro ⟨J1, M1⟩ ⟨hM1, gn⟩
      dsimp only at hM1 gn ⊢
      subst hM1
      have go := GN_o gn
      have gf := GN_f gn
      have g2 := go 104 2 (by omega)
      have g7 := go 104 7 (by omega)
      have g12 := go tr 12 (by omega)
      have en := em_n r (cs K)
      have e16 : (cs K).2.2 = K 105 16 := rfl
      have la : (r ++ q).length = r.length + q.length := List.length_append
      have cs1 : cs s.2.1 = em r (cs K) := ef.2.2.1
      have s16 : s.2.1 105 16 = (em r (cs K)).2.2 := by rw [← cs1]; rfl
      have P1 : PR tr b ((23, 0) :: q) J1 s.2.1 s.2.2 := by
        refine PR_of P' ⟨rfl, rfl, fun _ => rfl⟩ gn ef (by omega) ?_ ?_ (by omega)
        · intro x hx
          rcases List.mem_cons.mp hx with z | z
          · subst z; dsimp only; exact ⟨by decide, by decide, by decide, by decide, fun z => by rcases z with z | z <;> exact absurd z (by decide)⟩
          · have := u4.2.2 x (List.mem_append_right _ z)
            omega
        · simp only [List.length_cons]; omega
      refine Ev_t (by omega) (Ev_bind (hsub (m - 1) (by omega) (dc - 1) b 1 ((23, 0) :: q) J1 s.2.1 s.2.2 0 hb (by omega) P1 (by omega) (Or.inl rfl) (fun x p hp => by cases hp; decide)) ?_)
      rintro ⟨y, J2, M2⟩ ⟨hM2, hy⟩
      dsimp only at hM2 hy ⊢
      subst hM2
      rcases hy with ⟨rfl, ok⟩ | ⟨rfl, fl⟩
      · obtain ⟨r2, K2, L2, d2, hh2, g3, P2, hr2, fC2, fM2, ty2, lt2, hl2, inc2, sC2, sM2, sml2, ex2⟩ := ok
        have P2' := P2
        obtain ⟨x1, x2, x3, x4, x5, x6, x7, x8⟩ := P2
        obtain ⟨y1, y2, y3, y4, y5, y6, y7, y8, y9, y10⟩ := x1
        refine Ev_f (by decide) (Ev_R h104 (Ev_t hT.1 (Ev_t (by omega) (Ev_call (K61 hT (by omega) (by omega)) (Ev_t (by omega) ?_)))))
        have e4 := stC_4 htr J2 5 0
        have e89 := stC_89 htr J2 5 0
        have e12 := stC_12 tr J2 5 0
        have h2N : J2 104 2 = J 104 2 := (fC2.1 104 2 (by omega) (by omega) (by omega) (by omega)).trans g2
        refine ih (m - 1) (by omega) (stC tr J2 5 0) (i + 1) (by rw [e4, e4]; omega) (by omega) (by rw [e4]; omega) ?_
        have ap : (r2 ++ [(23, 0)]) ++ q = r2 ++ (23, 0) :: q := by rw [List.append_assoc]; rfl
        have eme : em (r2 ++ [(23, 0)]) (cs K2) = em [(23, 0)] (em r2 (cs K2)) := em_app _ _ _
        have l1 := sM.1
        have l2 := sM2.1
        rw [s16, cs1] at sml2
        rw [s16] at sM2 l2
        rw [g12] at sC2 inc2
        refine ⟨r2 ++ [(23, 0)], K2, L2, dB 5 d d2, hh + hh2, Go_t g (Go_t s4 g3), ?_, ?_, FrC_t fC (FrC_t (GN_fr htr gn) (FrC_t fC2 (stC_fr tr J2 5 0))), FrM_t fM (FrM_t ef.2.2.2.2.2.1 fM2), trivial, by rw [e4]; omega, by rw [e4]; omega, by rw [e4, e12]; omega, ?_, ?_, ?_, ?_⟩
        · rw [ap]; exact PR_stC htr P2' (by omega)
        · intro x hx
          rcases List.mem_append.mp hx with z | z
          · have := hr2 x z; omega
          · have z : x = (23, 0) := by simpa using z
            subst z; decide
        · rw [e12]
          have f1 := FrC_t (GN_fr htr gn) (FrC_t fC2 (stC_fr tr J2 5 0))
          have f2 := stC_fr tr J2 5 0
          refine seg_b (cC_fr f1 sC) (cC_fr f2 sC2) (by rw [stC_at]) (by omega) ?_
          have := sC.2.1
          omega
        · rw [eme]
          have := sM.2.1
          exact em_op (o := 23) (cM_sml sml2 sM) sM2 (by omega) (by omega)
        · rw [eme]
          refine Sml_t (by omega) sml (Sml_t (b := (em r2 (cs K2)).2.2) (by omega) sml2 ?_)
          exact Sml_up (s := em r2 (cs K2)) (Int.le_refl _)
        · exact exF_c (e4 3) (e4 4) e89 ex2
      · exact Ev_t rfl (Ev_ret ⟨rfl, Or.inr ⟨rfl, fl_t (Go_t g s4) (FrC_t fC (GN_fr htr gn)) (FrM_t fM ef.2.2.2.2.2.1) fl⟩⟩)
    · refine Ev_t rfl (Ev_ret ⟨rfl, Or.inl ⟨rfl, r, K, L, d, hh, g, P', hr, fC, fM, ty, lt, hl0, inc, sC, sM, sml, ⟨ex0, cn, cn2⟩⟩⟩)
theorem rdT (htr : tr = 9 ∨ tr = 93) (hT : TrO e tr) (h104 : e.2.2 104 1 = some tr) (hdm : 8 ≤ dm) (m : Nat) (hsub : ∀ m', m' ≤ m → RdT dm e tr tst M 6 6 7 exF m') : RdT dm e tr tst M 3 7 6 exT m := by
  intro dc b t q J K L x hb hdc hP hm ht hq
  have h4 := hP.1.2.2.2.1
  have h7 := hP.2.2.2.2.2.2.1
  have h6 := hP.2.2.2.2.2.1
  refine ev_56_3 ?_
  refine Ev_t (by omega) (Ev_bind (hsub m (Nat.le_refl _) (dc - 1) b t q J K L 0 hb (by omega) hP hm ht (fun x p hp => by have := hq x p hp; omega)) ?_)
  rintro ⟨y, J1, M1⟩ ⟨hM1, hy⟩
  dsimp only at hM1 hy ⊢
  subst hM1
  rcases hy with ⟨rfl, ok⟩ | ⟨rfl, fl⟩
  · refine Ev_f (by decide) ?_
    obtain ⟨r, K', L', d, hh, g, P, hr, fC, fM, ty, lt, hl0, inc, sC, sM, sml, ex0⟩ := ok
    have e2 := fC.1 104 2 (by omega) (by omega) (by omega) (by omega)
    refine lpT htr hT h104 hdm hb hdc (mm := m) (fun m' h => hsub m' (by omega)) hq h4.1 h7.1 h6.1 m (Nat.le_refl _) J1 0 (by omega) (by omega) (by omega) ⟨r, K', L', d, hh, g, P, fun x hx => ?_, fC, fM, ty, lt, hl0, inc, sC, sM, sml, ex0⟩
    have := hr x hx
    omega
  · exact Ev_t rfl (Ev_ret ⟨rfl, Or.inr ⟨rfl, fl⟩⟩)
theorem lpS {b t0 : Int} {q : List (Int × Int)} {J0 K0 L0 : JI} {mm dc : Nat} (htr : tr = 9 ∨ tr = 93) (hT : TrO e tr) (h104 : e.2.2 104 1 = some tr) (hdm : 8 ≤ dm) (hb : 0 ≤ b ∧ b ≤ 8) (hdc : 4 * (8 - b) + 8 ≤ (dc : Int)) (hsub : ∀ m', m' < mm → RdT dm e tr tst M 3 7 6 exT m') (hq : ∀ x p, q = x :: p → bnd x.1 < 5) (h0 : 0 ≤ J0 104 4) (j12 : 0 ≤ J0 tr 12) (k16 : 0 ≤ K0 105 16) (m : Nat) : m ≤ mm → ∀ (J : JI) (i : Int), J 104 2 - J 104 4 ≤ m → 0 ≤ i → i + J0 104 4 + 1 ≤ J 104 4 → OKp dm e tr tst b 5 t0 3 anyD exT q J0 K0 L0 J → Ev (fun n => kf_56 n dc e 1 J M b i) (Pst dm e tr tst b 5 t0 3 anyD exS q M J0 K0 L0) := by
  refine Nat.strongRecOn m (fun m ih hmm J i hm hi hi2 ok => ?_)
  have ih := fun m' h => ih m' h (by omega)
  have ok' := ok
  obtain ⟨r, K, L, d, hh, g, P, hr, fC, fM, ty, lt, hl0, inc, sC, sM, sml, ex0⟩ := ok
  have P' := P
  have hKP := PR_KP P' hb
  obtain ⟨u1, u2, u3, u4, u5, u6, u7, u8⟩ := P
  have u1' := u1
  obtain ⟨v1, v2, v3, v4, v5, v6, v7, v8, v9, v10⟩ := u1
  have tb : 0 ≤ J 104 4 ∧ (J 104 3 = 3 → J 104 4 < 400) := ⟨by omega, fun c => by have := v7 (by omega); omega⟩
  refine ev_56_1 ?_
  refine Ev_f (by omega) (Ev_t (by omega) (Ev59 tb (fun cc => ?_) (fun cn => ?_))) <;> dsimp only
  · refine Ev_f (by decide) ?_
    refine ev_56_2 ?_
    refine Ev_t (by omega) (Ev59 tb (fun _ => ?_) (fun z => absurd cc z)) <;> dsimp only
    refine Ev_f (by decide) ?_
    have hl := PR_lt P' (by have := cc.1; omega)
    obtain ⟨s, ⟨s1, K1, s2, s3⟩, s4⟩ := go_of3 (e := e) (tst := tst) (dm := dm) (by omega) P'.2.1 (K232ar (o := 20) (c := 43) (y := 0) (z := 0) (by omega) hKP hl.1 ((TK_s P'.1 43).mp cc) (by omega) (fun x hx => by have := hr x hx; have eb : bnd 20 = 5 := (by decide); omega) (fun x p hp => by have := hq x p hp; have eb : bnd 20 = 5 := (by decide); omega))
    have ef := ef_ar (o := 20) hKP s2 s3
    rw [s1] at s4
    refine Ev_t (by omega) (Ev_bind (K37 (by omega) (by omega)) ?_)
    rintro ⟨J1, M1⟩ ⟨hM1, gn⟩
    dsimp only at hM1 gn ⊢
    subst hM1
    have go := GN_o gn
    have gf := GN_f gn
    have g2 := go 104 2 (by omega)
    have g7 := go 104 7 (by omega)
    have g12 := go tr 12 (by omega)
    have en := em_n r (cs K)
    have e16 : (cs K).2.2 = K 105 16 := rfl
    have la : (r ++ q).length = r.length + q.length := List.length_append
    have cs1 : cs s.2.1 = em r (cs K) := ef.2.2.1
    have s16 : s.2.1 105 16 = (em r (cs K)).2.2 := by rw [← cs1]; rfl
    have P1 : PR tr b ((20, 0) :: q) J1 s.2.1 s.2.2 := by
      refine PR_of P' ⟨rfl, rfl, fun _ => rfl⟩ gn ef (by omega) ?_ ?_ (by omega)
      · intro x hx
        rcases List.mem_cons.mp hx with z | z
        · subst z; dsimp only; exact ⟨by decide, by decide, by decide, by decide, fun z => by rcases z with z | z <;> exact absurd z (by decide)⟩
        · have := u4.2.2 x (List.mem_append_right _ z)
          omega
      · simp only [List.length_cons]; omega
    refine Ev_t (by omega) (Ev_bind (hsub (m - 1) (by omega) (dc - 1) b 1 ((20, 0) :: q) J1 s.2.1 s.2.2 0 hb (by omega) P1 (by omega) (Or.inl rfl) (fun x p hp => by cases hp; decide)) ?_)
    rintro ⟨y, J2, M2⟩ ⟨hM2, hy⟩
    dsimp only at hM2 hy ⊢
    subst hM2
    rcases hy with ⟨rfl, ok⟩ | ⟨rfl, fl⟩
    · obtain ⟨r2, K2, L2, d2, hh2, g3, P2, hr2, fC2, fM2, ty2, lt2, hl2, inc2, sC2, sM2, sml2, ex2⟩ := ok
      have P2' := P2
      obtain ⟨x1, x2, x3, x4, x5, x6, x7, x8⟩ := P2
      obtain ⟨y1, y2, y3, y4, y5, y6, y7, y8, y9, y10⟩ := x1
      refine Ev_f (by decide) (Ev_R h104 (Ev_t hT.1 (Ev_t (by omega) (Ev_call (K61 hT (by omega) (by omega)) (Ev_t (by omega) ?_)))))
      have e4 := stC_4 htr J2 2 0
      have e89 := stC_89 htr J2 2 0
      have e12 := stC_12 tr J2 2 0
      have h2N : J2 104 2 = J 104 2 := (fC2.1 104 2 (by omega) (by omega) (by omega) (by omega)).trans g2
      refine ih (m - 1) (by omega) (stC tr J2 2 0) (i + 1) (by rw [e4, e4]; omega) (by omega) (by rw [e4]; omega) ?_
      have ap : (r2 ++ [(20, 0)]) ++ q = r2 ++ (20, 0) :: q := by rw [List.append_assoc]; rfl
      have eme : em (r2 ++ [(20, 0)]) (cs K2) = em [(20, 0)] (em r2 (cs K2)) := em_app _ _ _
      have l1 := sM.1
      have l2 := sM2.1
      rw [s16, cs1] at sml2
      rw [s16] at sM2 l2
      rw [g12] at sC2 inc2
      refine ⟨r2 ++ [(20, 0)], K2, L2, dB 2 d d2, hh + hh2, Go_t g (Go_t s4 g3), ?_, ?_, FrC_t fC (FrC_t (GN_fr htr gn) (FrC_t fC2 (stC_fr tr J2 2 0))), FrM_t fM (FrM_t ef.2.2.2.2.2.1 fM2), trivial, by rw [e4]; omega, by rw [e4]; omega, by rw [e4, e12]; omega, ?_, ?_, ?_, ?_⟩
      · rw [ap]; exact PR_stC htr P2' (by omega)
      · intro x hx
        rcases List.mem_append.mp hx with z | z
        · have := hr2 x z; omega
        · have z : x = (20, 0) := by simpa using z
          subst z; decide
      · rw [e12]
        have f1 := FrC_t (GN_fr htr gn) (FrC_t fC2 (stC_fr tr J2 2 0))
        have f2 := stC_fr tr J2 2 0
        refine seg_b (cC_fr f1 sC) (cC_fr f2 sC2) (by rw [stC_at]) (by omega) ?_
        have := sC.2.1
        omega
      · rw [eme]
        have := sM.2.1
        exact em_op (o := 20) (cM_sml sml2 sM) sM2 (by omega) (by omega)
      · rw [eme]
        refine Sml_t (by omega) sml (Sml_t (b := (em r2 (cs K2)).2.2) (by omega) sml2 ?_)
        exact Sml_up (s := em r2 (cs K2)) (Int.le_refl _)
      · exact exT_c (e4 3) (e4 4) e89 ex2
    · exact Ev_t rfl (Ev_ret ⟨rfl, Or.inr ⟨rfl, fl_t (Go_t g s4) (FrC_t fC (GN_fr htr gn)) (FrM_t fM ef.2.2.2.2.2.1) fl⟩⟩)
  · refine Ev_t rfl (Ev_t (by omega) (Ev59 tb (fun cc => ?_) (fun cn2 => ?_))) <;> dsimp only
    · refine Ev_f (by decide) ?_
      refine ev_56_2 ?_
      refine Ev_t (by omega) (Ev59 tb (fun z => absurd z cn) (fun _ => ?_)) <;> dsimp only
      refine Ev_t rfl ?_
      have hl := PR_lt P' (by have := cc.1; omega)
      obtain ⟨s, ⟨s1, K1, s2, s3⟩, s4⟩ := go_of3 (e := e) (tst := tst) (dm := dm) (by omega) P'.2.1 (K232ar (o := 21) (c := 45) (y := 0) (z := 0) (by omega) hKP hl.1 ((TK_s P'.1 45).mp cc) (by omega) (fun x hx => by have := hr x hx; have eb : bnd 21 = 5 := (by decide); omega) (fun x p hp => by have := hq x p hp; have eb : bnd 21 = 5 := (by decide); omega))
      have ef := ef_ar (o := 21) hKP s2 s3
      rw [s1] at s4
      refine Ev_t (by omega) (Ev_bind (K37 (by omega) (by omega)) ?_)
      rintro ⟨J1, M1⟩ ⟨hM1, gn⟩
      dsimp only at hM1 gn ⊢
      subst hM1
      have go := GN_o gn
      have gf := GN_f gn
      have g2 := go 104 2 (by omega)
      have g7 := go 104 7 (by omega)
      have g12 := go tr 12 (by omega)
      have en := em_n r (cs K)
      have e16 : (cs K).2.2 = K 105 16 := rfl
      have la : (r ++ q).length = r.length + q.length := List.length_append
      have cs1 : cs s.2.1 = em r (cs K) := ef.2.2.1
      have s16 : s.2.1 105 16 = (em r (cs K)).2.2 := by rw [← cs1]; rfl
      have P1 : PR tr b ((21, 0) :: q) J1 s.2.1 s.2.2 := by
        refine PR_of P' ⟨rfl, rfl, fun _ => rfl⟩ gn ef (by omega) ?_ ?_ (by omega)
        · intro x hx
          rcases List.mem_cons.mp hx with z | z
          · subst z; dsimp only; exact ⟨by decide, by decide, by decide, by decide, fun z => by rcases z with z | z <;> exact absurd z (by decide)⟩
          · have := u4.2.2 x (List.mem_append_right _ z)
            omega
        · simp only [List.length_cons]; omega
      refine Ev_t (by omega) (Ev_bind (hsub (m - 1) (by omega) (dc - 1) b 1 ((21, 0) :: q) J1 s.2.1 s.2.2 0 hb (by omega) P1 (by omega) (Or.inl rfl) (fun x p hp => by cases hp; decide)) ?_)
      rintro ⟨y, J2, M2⟩ ⟨hM2, hy⟩
      dsimp only at hM2 hy ⊢
      subst hM2
      rcases hy with ⟨rfl, ok⟩ | ⟨rfl, fl⟩
      · obtain ⟨r2, K2, L2, d2, hh2, g3, P2, hr2, fC2, fM2, ty2, lt2, hl2, inc2, sC2, sM2, sml2, ex2⟩ := ok
        have P2' := P2
        obtain ⟨x1, x2, x3, x4, x5, x6, x7, x8⟩ := P2
        obtain ⟨y1, y2, y3, y4, y5, y6, y7, y8, y9, y10⟩ := x1
        refine Ev_f (by decide) (Ev_R h104 (Ev_t hT.1 (Ev_t (by omega) (Ev_call (K61 hT (by omega) (by omega)) (Ev_t (by omega) ?_)))))
        have e4 := stC_4 htr J2 3 0
        have e89 := stC_89 htr J2 3 0
        have e12 := stC_12 tr J2 3 0
        have h2N : J2 104 2 = J 104 2 := (fC2.1 104 2 (by omega) (by omega) (by omega) (by omega)).trans g2
        refine ih (m - 1) (by omega) (stC tr J2 3 0) (i + 1) (by rw [e4, e4]; omega) (by omega) (by rw [e4]; omega) ?_
        have ap : (r2 ++ [(21, 0)]) ++ q = r2 ++ (21, 0) :: q := by rw [List.append_assoc]; rfl
        have eme : em (r2 ++ [(21, 0)]) (cs K2) = em [(21, 0)] (em r2 (cs K2)) := em_app _ _ _
        have l1 := sM.1
        have l2 := sM2.1
        rw [s16, cs1] at sml2
        rw [s16] at sM2 l2
        rw [g12] at sC2 inc2
        refine ⟨r2 ++ [(21, 0)], K2, L2, dB 3 d d2, hh + hh2, Go_t g (Go_t s4 g3), ?_, ?_, FrC_t fC (FrC_t (GN_fr htr gn) (FrC_t fC2 (stC_fr tr J2 3 0))), FrM_t fM (FrM_t ef.2.2.2.2.2.1 fM2), trivial, by rw [e4]; omega, by rw [e4]; omega, by rw [e4, e12]; omega, ?_, ?_, ?_, ?_⟩
        · rw [ap]; exact PR_stC htr P2' (by omega)
        · intro x hx
          rcases List.mem_append.mp hx with z | z
          · have := hr2 x z; omega
          · have z : x = (21, 0) := by simpa using z
            subst z; decide
        · rw [e12]
          have f1 := FrC_t (GN_fr htr gn) (FrC_t fC2 (stC_fr tr J2 3 0))
          have f2 := stC_fr tr J2 3 0
          refine seg_b (cC_fr f1 sC) (cC_fr f2 sC2) (by rw [stC_at]) (by omega) ?_
          have := sC.2.1
          omega
        · rw [eme]
          have := sM.2.1
          exact em_op (o := 21) (cM_sml sml2 sM) sM2 (by omega) (by omega)
        · rw [eme]
          refine Sml_t (by omega) sml (Sml_t (b := (em r2 (cs K2)).2.2) (by omega) sml2 ?_)
          exact Sml_up (s := em r2 (cs K2)) (Int.le_refl _)
        · exact exT_c (e4 3) (e4 4) e89 ex2
      · exact Ev_t rfl (Ev_ret ⟨rfl, Or.inr ⟨rfl, fl_t (Go_t g s4) (FrC_t fC (GN_fr htr gn)) (FrM_t fM ef.2.2.2.2.2.1) fl⟩⟩)
    · refine Ev_t rfl (Ev_ret ⟨rfl, Or.inl ⟨rfl, r, K, L, d, hh, g, P', hr, fC, fM, ty, lt, hl0, inc, sC, sM, sml, ⟨ex0, cn, cn2⟩⟩⟩)
theorem rdS (htr : tr = 9 ∨ tr = 93) (hT : TrO e tr) (h104 : e.2.2 104 1 = some tr) (hdm : 8 ≤ dm) (m : Nat) (hsub : ∀ m', m' ≤ m → RdT dm e tr tst M 3 7 6 exT m') : RdT dm e tr tst M 0 8 5 exS m := by
  intro dc b t q J K L x hb hdc hP hm ht hq
  have h4 := hP.1.2.2.2.1
  have h7 := hP.2.2.2.2.2.2.1
  have h6 := hP.2.2.2.2.2.1
  refine ev_56_0 ?_
  refine Ev_t (by omega) (Ev_bind (hsub m (Nat.le_refl _) (dc - 1) b t q J K L 0 hb (by omega) hP hm ht (fun x p hp => by have := hq x p hp; omega)) ?_)
  rintro ⟨y, J1, M1⟩ ⟨hM1, hy⟩
  dsimp only at hM1 hy ⊢
  subst hM1
  rcases hy with ⟨rfl, ok⟩ | ⟨rfl, fl⟩
  · refine Ev_f (by decide) ?_
    obtain ⟨r, K', L', d, hh, g, P, hr, fC, fM, ty, lt, hl0, inc, sC, sM, sml, ex0⟩ := ok
    have e2 := fC.1 104 2 (by omega) (by omega) (by omega) (by omega)
    refine lpS htr hT h104 hdm hb hdc (mm := m) (fun m' h => hsub m' (by omega)) hq h4.1 h7.1 h6.1 m (Nat.le_refl _) J1 0 (by omega) (by omega) (by omega) ⟨r, K', L', d, hh, g, P, fun x hx => ?_, fC, fM, ty, lt, hl0, inc, sC, sM, sml, ex0⟩
    have := hr x hx
    omega
  · exact Ev_t rfl (Ev_ret ⟨rfl, Or.inr ⟨rfl, fl⟩⟩)
/-- sums are read alike -/
theorem rd_all (htr : tr = 9 ∨ tr = 93) (hT : TrO e tr) (h104 : e.2.2 104 1 = some tr) (hdm : 8 ≤ dm) (m : Nat) : RdT dm e tr tst M 0 8 5 exS m := by
  have key : ∀ m, ∀ m', m' ≤ m → RdT dm e tr tst M 6 6 7 exF m' ∧ RdT dm e tr tst M 3 7 6 exT m' ∧ RdT dm e tr tst M 0 8 5 exS m' := by
    intro m
    induction m with
    | zero =>
      intro m' h
      have z : m' = 0 := by omega
      subst z
      have f := rdF (tst := tst) (M := M) (dm := dm) htr hT h104 hdm 0 (fun m' h => absurd h (by omega))
      have t := rdT htr hT h104 hdm 0 (fun m' h => by have z : m' = 0 := by omega
                                                      subst z; exact f)
      exact ⟨f, t, rdS htr hT h104 hdm 0 (fun m' h => by have z : m' = 0 := by omega
                                                         subst z; exact t)⟩
    | succ m ih =>
      have fA : ∀ m', m' ≤ m + 1 → RdT dm e tr tst M 6 6 7 exF m' := fun m' h => by
        by_cases c : m' ≤ m
        · exact (ih m' c).1
        · exact rdF htr hT h104 hdm m' (fun m'' h2 => (ih m'' (by omega)).2.2)
      have tA : ∀ m', m' ≤ m + 1 → RdT dm e tr tst M 3 7 6 exT m' := fun m' h => rdT htr hT h104 hdm m' (fun m'' h2 => fA m'' (by omega))
      intro m' h
      exact ⟨fA m' h, tA m' h, rdS htr hT h104 hdm m' (fun m'' h2 => tA m'' (by omega))⟩
  exact (key m m (Nat.le_refl _)).2.2
end SUM
