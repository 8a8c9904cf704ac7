section
set_option maxRecDepth 100000 in
theorem ev_217_3 {dp : Nat} {e : EN} {I : JI} {L : JI} {i1 : Int} {i2 : Int} {i3 : Int} {P_ : (JI × JI) → Prop} (h : Ev (fun n => (if 8 ≤ i3 then (if 0 ≤ i2 ∧ i2 < 192 then (stI (w2 I 111 i2 i1) (fun I_133 => (if -2147483648 ≤ i2 + 1 ∧ i2 + 1 ≤ 2147483647 then (if 0 ≤ (i2 + 1) ∧ (i2 + 1) < 192 then (stI (w2 I_133 111 (i2 + 1) (I_133 105 26)) (fun I_145 => (if -2147483648 ≤ (I_145 105 14) + 1 ∧ (I_145 105 14) + 1 ≤ 2147483647 then (stI (w2 I_145 105 14 ((I_145 105 14) + 1)) (fun I_153 => (if -2147483648 ≤ i2 + 3 ∧ i2 + 3 ≤ 2147483647 then (if 0 ≤ (i2 + 3) ∧ (i2 + 3) < 192 then (stI (w2 I_153 111 (i2 + 3) (I_153 105 16)) (fun I_167 => (if i1 = 2 then (if 1 ≤ dp then ((kf_220 n (dp - 1) e 0 I_167 L 0 0).bind (fun ⟨I0_174, L0_174⟩ => (kf_217 n dp e 4 I0_174 L0_174 i1 i2 i3))) else none) else (if 1 ≤ dp then ((kf_223 n (dp - 1) e 0 I_167 L 0 0).bind (fun ⟨I0_182, L0_182⟩ => (kf_217 n dp e 4 I0_182 L0_182 i1 i2 i3))) else none)))) else none) else none))) else none))) else none) else none))) else none) else (if -2147483648 ≤ i2 + i3 ∧ i2 + i3 ≤ 2147483647 then (if 0 ≤ (i2 + i3) ∧ (i2 + i3) < 192 then (stI (w2 I 111 (i2 + i3) 0) (fun I_120 => (if -2147483648 ≤ i3 + 1 ∧ i3 + 1 ≤ 2147483647 then (kf_217 n dp e 3 I_120 L i1 i2 (i3 + 1)) else none))) else none) else none))) P_) : Ev (fun n => kf_217 n dp e 3 I L i1 i2 i3) P_ := Ev_step (fun n => ke_217_3 n dp e I L i1 i2 i3) h
set_option maxRecDepth 100000 in
theorem ev_217_2 {dp : Nat} {e : EN} {I : JI} {L : JI} {i1 : Int} {i2 : Int} {i3 : Int} {P_ : (JI × JI) → Prop} (h : Ev (fun n => (if (I 105 13) = 0 then (if 1 ≤ dp then ((kf_214 n (dp - 1) e 0 I L).bind (fun ⟨I0_93, L0_93⟩ => (if -2147483648 ≤ 8 * (I0_93 105 14) ∧ 8 * (I0_93 105 14) ≤ 2147483647 then (stI (8 * (I0_93 105 14)) (fun v_103 => (kf_217 n dp e 3 I0_93 L0_93 i1 v_103 0))) else none))) else none) else (some (I, L)))) P_) : Ev (fun n => kf_217 n dp e 2 I L i1 i2 i3) P_ := Ev_step (fun n => ke_217_2 n dp e I L i1 i2 i3) h
set_option maxRecDepth 100000 in
theorem ev_217_1 {dp : Nat} {e : EN} {I : JI} {L : JI} {i1 : Int} {i2 : Int} {i3 : Int} {P_ : (JI × JI) → Prop} (h : Ev (fun n => (if 1 ≤ dp then ((kf_219 n (dp - 1) e 0 I L 0).bind (fun ⟨I0_81, L0_81⟩ => (kf_217 n dp e 2 I0_81 L0_81 i1 0 0))) else none)) P_) : Ev (fun n => kf_217 n dp e 1 I L i1 i2 i3) P_ := Ev_step (fun n => ke_217_1 n dp e I L i1 i2 i3) h
set_option maxRecDepth 100000 in
theorem ev_40_0 {dp : Nat} {e : EN} {I : JI} {L : JI} {i1 : Int} {i2 : Int} {P_ : (Int × JI × JI) → Prop} (h : Ev (fun n => ((e.2.2 104 1).bind (fun b_1 => (if (b_1 < e.1) ∧ ((e.2.1 b_1).1 = 10) then ((e.2.2 b_1 1).bind (fun b_4 => ((e.2.2 104 1).bind (fun b_9 => (if (b_9 < e.1) ∧ ((e.2.1 b_9).1 = 10) then (if ((b_4 < e.1) ∧ (((e.2.1 b_4).1 = 13) ∧ ((e.2.1 b_4).2 < (2 ^ 31)))) ∧ (0 ≤ i1 ∧ i1 < (((e.2.1 b_4).2 : Nat) : Int)) then (stI (w2 I b_4 i1 (I b_9 12)) (fun I_15 => (if 1 ≤ dp then ((kf_41 n (dp - 1) e 0 I_15 L 0 0).bind (fun ⟨x0_19, I0_19, L0_19⟩ => (if x0_19 = 0 then (if 1 ≤ dp then ((kf_41 n (dp - 1) e 0 I0_19 L0_19 0 3).bind (fun ⟨x1_47, I1_47, L1_47⟩ => (if x1_47 = 0 then (if 1 ≤ dp then ((kf_41 n (dp - 1) e 0 I1_47 L1_47 0 9).bind (fun ⟨x2_79, I2_79, L2_79⟩ => (if x2_79 = 0 then (kf_40 n dp e 1 I2_79 L2_79 i1 0) else ((e.2.2 104 1).bind (fun b_86 => (if (b_86 < e.1) ∧ ((e.2.1 b_86).1 = 10) then ((e.2.2 b_86 0).bind (fun b_89 => (if ((b_89 < e.1) ∧ (((e.2.1 b_89).1 = 13) ∧ ((e.2.1 b_89).2 < (2 ^ 31)))) ∧ (0 ≤ i1 ∧ i1 < (((e.2.1 b_89).2 : Nat) : Int)) then (stI (w2 I2_79 b_89 i1 2) (fun I_94 => (if 1 ≤ dp then ((kf_37 n (dp - 1) e 0 I_94 L2_79 0).bind (fun ⟨I3_96, L3_96⟩ => (if 1 ≤ dp then ((kf_56 n (dp - 1) e 0 I3_96 L3_96 0 0).bind (fun ⟨x4_101, I4_101, L4_101⟩ => (kf_40 n dp e 1 I4_101 L4_101 i1 x4_101))) else none))) else none))) else none))) else none)))))) else none) else ((e.2.2 104 1).bind (fun b_54 => (if (b_54 < e.1) ∧ ((e.2.1 b_54).1 = 10) then ((e.2.2 b_54 0).bind (fun b_57 => (if ((b_57 < e.1) ∧ (((e.2.1 b_57).1 = 13) ∧ ((e.2.1 b_57).2 < (2 ^ 31)))) ∧ (0 ≤ i1 ∧ i1 < (((e.2.1 b_57).2 : Nat) : Int)) then (stI (w2 I1_47 b_57 i1 1) (fun I_62 => (if 1 ≤ dp then ((kf_37 n (dp - 1) e 0 I_62 L1_47 0).bind (fun ⟨I2_64, L2_64⟩ => (if 1 ≤ dp then ((kf_56 n (dp - 1) e 0 I2_64 L2_64 0 0).bind (fun ⟨x3_69, I3_69, L3_69⟩ => (kf_40 n dp e 1 I3_69 L3_69 i1 x3_69))) else none))) else none))) else none))) else none)))))) else none) else ((e.2.2 104 1).bind (fun b_26 => (if (b_26 < e.1) ∧ ((e.2.1 b_26).1 = 10) then ((e.2.2 b_26 0).bind (fun b_29 => (if ((b_29 < e.1) ∧ (((e.2.1 b_29).1 = 13) ∧ ((e.2.1 b_29).2 < (2 ^ 31)))) ∧ (0 ≤ i1 ∧ i1 < (((e.2.1 b_29).2 : Nat) : Int)) then (stI (w2 I0_19 b_29 i1 0) (fun I_34 => (if 1 ≤ dp then ((kf_53 n (dp - 1) e 0 I_34 L0_19 i1 0 0).bind (fun ⟨x1_37, I1_37, L1_37⟩ => (kf_40 n dp e 1 I1_37 L1_37 i1 x1_37))) else none))) else none))) else none)))))) else none))) else none) else none))))) else none)))) P_) : Ev (fun n => kf_40 n dp e 0 I L i1 i2) P_ := Ev_step (fun n => ke_40_0 n dp e I L i1 i2) h
set_option maxRecDepth 100000 in
theorem ev_217_0 {dp : Nat} {e : EN} {I : JI} {L : JI} {i1 : Int} {i2 : Int} {i3 : Int} {P_ : (JI × JI) → Prop} (h : Ev (fun n => (if 1 ≤ dp then ((kf_218 n (dp - 1) e 0 I L 3764).bind (fun ⟨x0_4, I0_4, L0_4⟩ => (if x0_4 = 0 then (if 1 ≤ dp then ((kf_218 n (dp - 1) e 0 I0_4 L0_4 14276022451).bind (fun ⟨x1_18, I1_18, L1_18⟩ => (if x1_18 = 0 then (if 1 ≤ dp then ((kf_218 n (dp - 1) e 0 I1_18 L1_18 20293004).bind (fun ⟨x2_32, I2_32, L2_32⟩ => (if x2_32 = 0 then (if (I2_32 105 13) = 0 then (if ((-1) : Int) = (-1) then (kf_217 n dp e 1 I2_32 L2_32 (-1) 0 0) else (if (I2_32 105 14) = 24 then (kf_217 n dp e 1 I2_32 L2_32 (-1) 0 0) else (if ((-1) : Int) = 2 then (if (I2_32 105 26) = 16 then (kf_217 n dp e 1 I2_32 L2_32 (-1) 0 0) else (kf_217 n dp e 2 I2_32 L2_32 (-1) 0 0)) else (kf_217 n dp e 2 I2_32 L2_32 (-1) 0 0)))) else (kf_217 n dp e 2 I2_32 L2_32 (-1) 0 0)) else (if (I2_32 105 13) = 0 then (if (1 : Int) = (-1) then (kf_217 n dp e 1 I2_32 L2_32 1 0 0) else (if (I2_32 105 14) = 24 then (kf_217 n dp e 1 I2_32 L2_32 1 0 0) else (if (1 : Int) = 2 then (if (I2_32 105 26) = 16 then (kf_217 n dp e 1 I2_32 L2_32 1 0 0) else (kf_217 n dp e 2 I2_32 L2_32 1 0 0)) else (kf_217 n dp e 2 I2_32 L2_32 1 0 0)))) else (kf_217 n dp e 2 I2_32 L2_32 1 0 0))))) else none) else (if (I1_18 105 13) = 0 then (if (0 : Int) = (-1) then (kf_217 n dp e 1 I1_18 L1_18 0 0 0) else (if (I1_18 105 14) = 24 then (kf_217 n dp e 1 I1_18 L1_18 0 0 0) else (if (0 : Int) = 2 then (if (I1_18 105 26) = 16 then (kf_217 n dp e 1 I1_18 L1_18 0 0 0) else (kf_217 n dp e 2 I1_18 L1_18 0 0 0)) else (kf_217 n dp e 2 I1_18 L1_18 0 0 0)))) else (kf_217 n dp e 2 I1_18 L1_18 0 0 0))))) else none) else (if (I0_4 105 13) = 0 then (if (2 : Int) = (-1) then (kf_217 n dp e 1 I0_4 L0_4 2 0 0) else (if (I0_4 105 14) = 24 then (kf_217 n dp e 1 I0_4 L0_4 2 0 0) else (if (2 : Int) = 2 then (if (I0_4 105 26) = 16 then (kf_217 n dp e 1 I0_4 L0_4 2 0 0) else (kf_217 n dp e 2 I0_4 L0_4 2 0 0)) else (kf_217 n dp e 2 I0_4 L0_4 2 0 0)))) else (kf_217 n dp e 2 I0_4 L0_4 2 0 0))))) else none)) P_) : Ev (fun n => kf_217 n dp e 0 I L i1 i2 i3) P_ := Ev_step (fun n => ke_217_0 n dp e I L i1 i2 i3) h
end
/-! PARSER 17: a clause is read alike, its head -/
def k3s (nc nw hd n : Int) (K : JI) : JI := w2 (w2 (w2 (w2 (zr K 111 (8 * nc) 8) 111 (8 * nc) hd) 111 (8 * nc + 1) nw) 105 14 (nc + 1)) 111 (8 * nc + 3) n
theorem k3s_n {nc nw hd n : Int} {K : JI} {a : Nat} {i : Int} (h : ¬ (a = 111 ∧ 8 * nc ≤ i ∧ i < 8 * nc + 8)) (h1 : ¬ (a = 105 ∧ i = 14)) : k3s nc nw hd n K a i = K a i := by
  unfold k3s
  rw [w2_n (by omega), w2_n (by omega), w2_n (by omega), w2_n (by omega), zr_n h]
theorem k3s_0 {nc nw hd n : Int} {K : JI} : k3s nc nw hd n K 111 (8 * nc) = hd := by
  unfold k3s
  rw [w2_n (by omega), w2_n (by omega), w2_n (by omega), w2_ap, if_pos ⟨rfl, rfl⟩]
theorem k3s_1 {nc nw hd n : Int} {K : JI} : k3s nc nw hd n K 111 (8 * nc + 1) = nw := by
  unfold k3s
  rw [w2_n (by omega), w2_n (by omega), w2_ap, if_pos ⟨rfl, rfl⟩]
theorem k3s_3 {nc nw hd n : Int} {K : JI} : k3s nc nw hd n K 111 (8 * nc + 3) = n := by
  unfold k3s
  rw [w2_ap, if_pos ⟨rfl, rfl⟩]
theorem k3s_14 {nc nw hd n : Int} {K : JI} : k3s nc nw hd n K 105 14 = nc + 1 := by
  unfold k3s
  rw [w2_n (by omega), w2_ap, if_pos ⟨rfl, rfl⟩]
theorem k3s_cs {nc nw hd n : Int} {K : JI} : cs (k3s nc nw hd n K) = cs K := by
  unfold k3s
  rw [cs_w (by decide) (by decide) (by omega), cs_w (by decide) (by decide) (by decide), cs_w (by decide) (by decide) (by omega), cs_w (by decide) (by decide) (by omega)]
  unfold cs
  have e1 : zr K 111 (8 * nc) 8 112 = K 112 := by funext j; exact zr_n (by omega)
  have e2 : zr K 111 (8 * nc) 8 113 = K 113 := by funext j; exact zr_n (by omega)
  rw [e1, e2, zr_n (by omega)]
section CLAUSE
variable {dp dm : Nat} {e : EN} {tr : Nat} {M : JI}
theorem K217z {K L : JI} {nc hd : Int} {Q : JI × JI → Prop} (hnc : 0 ≤ nc ∧ nc < 24) (g : Ev (fun n => kf_217 n dm e 3 (zr K 111 (8 * nc) 8) L hd (8 * nc) 8) Q) : Ev (fun n => kf_217 n dm e 3 K L hd (8 * nc) 0) Q := by
  have key : ∀ k : Nat, k ≤ 8 → Ev (fun n => kf_217 n dm e 3 (zr K 111 (8 * nc) k) L hd (8 * nc) k) Q := by
    refine dec_ind 8 (fun k hk ih => ?_)
    by_cases c : k < 8
    · have ih := ih c
      refine ev_217_3 ?_
      refine Ev_f (by omega) (Ev_t (by omega) (Ev_t (by omega) (Ev_st (Ev_t (by omega) ?_))))
      rw [zr_s]
      exact ih
    · have : k = 8 := by omega
      subst this
      exact g
  have := key 0 (by omega)
  rw [show ((0 : Nat) : Int) = 0 from rfl, zr_0] at this
  exact this
theorem mdIn {K K1 L L1 : JI} {nc nw hd : Int} {Q : JI × JI → Prop} (hdm : 1 ≤ dm) (hnc : 0 ≤ nc ∧ nc < 24) (hnw : 0 ≤ nw ∧ nw ≤ 16) (hb : K 105 13 = 0) (h14 : K1 105 14 = nc) (h26 : K1 105 26 = nw) (s2 : Ev (fun n => kf_214 n (dm - 1) e 0 K L) (fun s => s = (K1, L1))) (g : Ev (fun n => if hd = 2 then ((kf_220 n (dm - 1) e 0 (k3s nc nw hd (K1 105 16) K1) L1 0 0).bind (fun s => kf_217 n dm e 4 s.1 s.2 hd (8 * nc) 8)) else ((kf_223 n (dm - 1) e 0 (k3s nc nw hd (K1 105 16) K1) L1 0 0).bind (fun s => kf_217 n dm e 4 s.1 s.2 hd (8 * nc) 8))) Q) : Ev (fun n => kf_217 n dm e 2 K L hd 0 0) Q := by
  refine ev_217_2 ?_
  refine Ev_t hb (Ev_t (by omega) (Ev_call s2 ?_))
  dsimp only
  simp only [h14]
  refine Ev_t (by omega) (Ev_st (K217z hnc ?_))
  have z26 : ∀ v : Int, (w2 (zr K1 111 (8 * nc) 8) 111 (8 * nc) v) 105 26 = nw := fun v => by rw [w2_n (by omega), zr_n (by omega)]; exact h26
  have z14 : ∀ v w : Int, (w2 (w2 (zr K1 111 (8 * nc) 8) 111 (8 * nc) v) 111 (8 * nc + 1) w) 105 14 = nc := fun v w => by rw [w2_n (by omega), w2_n (by omega), zr_n (by omega)]; exact h14
  have z16 : ∀ v w x : Int, (w2 (w2 (w2 (zr K1 111 (8 * nc) 8) 111 (8 * nc) v) 111 (8 * nc + 1) w) 105 14 x) 105 16 = K1 105 16 := fun v w x => by rw [w2_n (by omega), w2_n (by omega), w2_n (by omega), zr_n (by omega)]
  refine ev_217_3 ?_
  refine Ev_t (by omega) (Ev_t (by omega) (Ev_st (Ev_t (by omega) (Ev_t (by omega) ?_))))
  simp only [z26]
  refine Ev_st ?_
  simp only [z14]
  refine Ev_t (by omega) (Ev_st (Ev_t (by omega) (Ev_t (by omega) ?_)))
  simp only [z16]
  refine Ev_st ?_
  by_cases c : hd = 2
  · simp only [if_pos c] at g ⊢
    exact Ev_t (by omega) g
  · simp only [if_neg c] at g ⊢
    exact Ev_t (by omega) g
def c5 (tr : Nat) (nc : Int) (J : JI) : JI := w2 (c3 tr nc J) (tr + 5) nc (J tr 12)
theorem clT {nc : Int} {J : JI} (hT : TrO e tr) (h104 : e.2.2 104 1 = some tr) (hnc : 0 ≤ nc ∧ nc < 24) : Ev (fun n => kf_40 n dp e 1 J M nc 0) (fun r => r = (0, c5 tr nc J, M)) := by
  refine tl1 hT h104 hnc (fun _ => ?_) (fun z => absurd rfl z)
  refine Ev_mono (tl2 hT h104 hnc (Or.inl rfl)) (fun r hr => ?_)
  subst hr
  unfold c5
  rw [c3_12]
theorem c5_fr {nc : Int} {J : JI} : FrA tr J (c5 tr nc J) := fun a i x y z => by
  unfold c5
  rw [w2_n (by omega)]
  exact c3_n (by omega) (by omega)
theorem c5_4 {nc : Int} {J : JI} (htr : tr = 9 ∨ tr = 93) : c5 tr nc J 104 4 = J 104 4 := by
  unfold c5
  rw [w2_n (by omega)]
  exact c3_n (by omega) (by omega)
/-- a clause -/
theorem rdCl {nc nw : Int} {dc : Nat} {J K L : JI} (htr : tr = 9 ∨ tr = 93) (hT : TrO e tr) (h104 : e.2.2 104 1 = some tr) (hdm : 10 ≤ dm) (hdc : 46 ≤ dc) (hnc : nc < 24) (h : CX tr nc nw J K L) : Ev (fun n => kf_40 n dc e 0 J M nc 0) (fun r => r.2.2 = M ∧ ∃ K' L', Ev (fun n => kf_217 n dm e 0 K L 0 0 0) (fun s => s = (K', L')) ∧ FrA tr J r.2.1 ∧ FrB K L K' L' ∧ ((r.1 = 1 ∧ (∃ nw', CX tr (nc + 1) nw' r.2.1 K' L') ∧ J 104 4 < r.2.1 104 4) ∨ (r.1 = 0 ∧ K' 105 13 = 1 ∧ (K' 105 12 = r.2.1 104 4 ∧ 0 ≤ K' 105 12)))) := by
  obtain ⟨m1, m2, m7, m8, m9⟩ := h
  have m1' := m1
  obtain ⟨p1, p2, p3, p4, p5, p6⟩ := m1
  have p1' := p1
  obtain ⟨t1, t2, t3, t4, t5, t6, t7, t8, t9, t10⟩ := p1
  have r2' := hT.2.2.1
  have r1' := hT.2.1
  have jn : ∀ a i, ¬ (a = tr + 2 ∧ i = nc) → w2 J (tr + 2) nc (J tr 12) a i = J a i := fun a i h => w2_n h
  have fr1 : FrA tr J (w2 J (tr + 2) nc (J tr 12)) := FrA_w (by omega)
  have tk1 : TK (w2 J (tr + 2) nc (J tr 12)) K L := TK_c p1' (fun i _ _ => jn _ _ (by omega)) (fun i => jn _ _ (by omega)) (fun _ _ _ => rfl) (fun _ => rfl) rfl
  have wb : 0 ≤ (w2 J (tr + 2) nc (J tr 12)) 104 4 ∧ (w2 J (tr + 2) nc (J tr 12)) 104 4 ≤ (w2 J (tr + 2) nc (J tr 12)) 104 5 ∧ (w2 J (tr + 2) nc (J tr 12)) 104 5 ≤ 400 := by
    rw [jn _ _ (by omega), jn _ _ (by omega)]; omega
  have fkb : FrB K L (badK K) L := ⟨fun a i x y z => by unfold badK; rw [w2_n (by omega), w2_n (by omega)], fun _ _ _ => rfl⟩
  /- a head that can't be -/
  have bad : ∀ hd : Int, Ev (fun n => kf_217 n dm e 1 K L hd 0 0) (fun s => s = (badK K, L)) := by
    intro hd
    refine ev_217_1 ?_
    refine Ev_t (by omega) (Ev_call (K219f p2 rfl) ?_)
    refine ev_217_2 ?_
    exact Ev_f (by show ¬ ((1 : Int) = 0); decide) (Ev_ret rfl)
  have nw0 : ∀ K1 L1, NX K L K1 L1 → K1 105 14 = nc ∧ K1 105 26 = nw ∧ K1 105 16 = K 105 16 := fun K1 L1 x => by
    have o := (NX_o x).1
    rw [o _ _ (by omega), o _ _ (by omega), o _ _ (by omega)]
    omega
  obtain ⟨s, s1, s2⟩ := Ev_ex (K214 (dp := dm - 1) (e := e) (K := K) (L := L) (by omega) (by omega))
  have so := (NX_o s1).1
  have sl := (NX_o s1).2
  obtain ⟨n14, n26, n16⟩ := nw0 s.1 s.2 s1
  have fk3 : ∀ hd, FrB K L (k3s nc nw hd (s.1 105 16) s.1) s.2 := fun hd => ⟨fun a i x y z => by rw [k3s_n (by omega) (by omega)]; exact so a i (by omega), sl⟩
  have csk : ∀ hd, cs (k3s nc nw hd (s.1 105 16) s.1) = cs K := fun hd => by rw [k3s_cs, cs_e so]
  have k117 : ∀ hd i, k3s nc nw hd (s.1 105 16) s.1 117 i = K 117 i := fun hd i => by rw [k3s_n (by omega) (by omega)]; exact so _ _ (by omega)
  have k111 : ∀ hd i, i < 8 * nc → k3s nc nw hd (s.1 105 16) s.1 111 i = K 111 i := fun hd i hi => by rw [k3s_n (by omega) (by omega)]; exact so _ _ (by omega)
  have k16 : ∀ hd, k3s nc nw hd (s.1 105 16) s.1 105 16 = K 105 16 := fun hd => by rw [k3s_n (by omega) (by omega)]; exact n16
  /- minutes and skill -/
  have sum : ∀ (k hd : Int), ((k = 1 ∧ hd = 0) ∨ (k = 2 ∧ hd = 1)) → ¬ J 104 3 = 0 → (∀ Q : JI × JI → Prop, Ev (fun n => kf_217 n dm e 2 K L hd 0 0) Q → Ev (fun n => kf_217 n dm e 0 K L 0 0 0) Q) → ∀ J3, GN (w2 (w2 J (tr + 2) nc (J tr 12)) (tr + 1) nc k) J3 → Ev (fun n => (kf_56 n (dc - 1) e 0 J3 M 0 0).bind (fun v => kf_40 n dc e 1 v.2.1 v.2.2 nc v.1)) (fun r => r.2.2 = M ∧ ∃ K' L', Ev (fun n => kf_217 n dm e 0 K L 0 0 0) (fun s => s = (K', L')) ∧ FrA tr J r.2.1 ∧ FrB K L K' L' ∧ ((r.1 = 1 ∧ (∃ nw', CX tr (nc + 1) nw' r.2.1 K' L') ∧ J 104 4 < r.2.1 104 4) ∨ (r.1 = 0 ∧ K' 105 13 = 1 ∧ (K' 105 12 = r.2.1 104 4 ∧ 0 ≤ K' 105 12)))) := by
    intro k hd hk hk0 ent J3 gn
    have lt := t7 hk0
    have go := GN_o gn
    have gf := GN_f gn
    have j2 : ∀ a i, ¬ (a = tr + 2 ∧ i = nc) → ¬ (a = tr + 1 ∧ i = nc) → w2 (w2 J (tr + 2) nc (J tr 12)) (tr + 1) nc k a i = J a i := fun a i x y => by rw [w2_n y, w2_n x]
    rw [j2 _ _ (by omega) (by omega), j2 _ _ (by omega) (by omega)] at gf
    have tk3 := TK_go (J2 := w2 (w2 J (tr + 2) nc (J tr 12)) (tr + 1) nc k) p1' ⟨j2 _ _ (by omega) (by omega), j2 _ _ (by omega) (by omega), fun i => j2 _ _ (by omega) (by omega)⟩ ⟨rfl, rfl, fun _ => rfl⟩ gn s1
    have j3 : ∀ a i, ¬ (a = 104 ∧ 3 ≤ i ∧ i ≤ 6) → ¬ (a = tr + 2 ∧ i = nc) → ¬ (a = tr + 1 ∧ i = nc) → J3 a i = J a i := fun a i x y z => by rw [go a i x]; exact j2 a i y z
    have pq : PQ tr J3 (k3s nc nw hd (s.1 105 16) s.1) s.2 := by
      refine ⟨TK_c tk3.1 (fun _ _ _ => rfl) (fun _ => rfl) (fun i _ _ => k3s_n (by omega) (by omega)) (fun i => k3s_n (by omega) (by omega)) rfl, ?_, ?_, ?_, ?_, fun i hi => ?_⟩
      · rw [k3s_n (by omega) (by omega), so _ _ (by omega)]; exact p2
      · rw [k3s_n (by omega) (by omega), so _ _ (by omega), j3 _ _ (by omega) (by omega) (by omega)]; exact p3
      · rw [k16]; omega
      · rw [j3 _ _ (by omega) (by omega) (by omega)]; omega
      · rw [sl _ _ (by omega)]; exact p6 i hi
    have fr3 : FrA tr J J3 := FrA_t (FrA_t fr1 (FrA_w (by omega))) (FrA_G gn)
    refine Ev_bind (ex_sum (x := 0) (dm := dm - 1) htr hT h104 (by omega) (by omega) pq) ?_
    rintro ⟨y, J4, M4⟩ ⟨hM4, K4, L4, v1, v2, v3, v4⟩
    dsimp only at hM4 v1 v2 v4 ⊢
    subst hM4
    have body : ∀ K' L', Ev (fun n => kf_217 n dm e 4 K4 L4 hd (8 * nc) 8) (fun s => s = (K', L')) → Ev (fun n => kf_217 n dm e 0 K L 0 0 0) (fun s => s = (K', L')) := by
      intro K' L' q
      refine ent _ (mdIn (by omega) (by omega) (by omega) p2 n14 n26 s2 ?_)
      exact Ev_f (by omega) (Ev_call v1 q)
    rcases v4 with ⟨rfl, ok⟩ | ⟨rfl, f1, f2⟩
    · obtain ⟨o1, o2, ⟨d, h, o3, o4, o5, o6⟩, o7⟩ := ok
      have v22 := v2.2.2
      have j312 : J3 tr 12 = J tr 12 := j3 _ _ (by omega) (by omega) (by omega)
      rw [j312] at o5 v22
      rw [k16] at o6 o7
      rw [csk] at o7
      have l6 := o6.1
      have l5 := o5.1
      have j4 : ∀ a i, ¬ (a = 104 ∧ 3 ≤ i ∧ i ≤ 7) → ¬ (a = tr ∧ i = 12) → ¬ a = tr + 9 → ¬ a = tr + 10 → ¬ (a = tr + 2 ∧ i = nc) → ¬ (a = tr + 1 ∧ i = nc) → J4 a i = J a i := fun a i x y z w x2 x1 => by
        rw [v2.1 a i x y z w]; exact j3 a i (by omega) x2 x1
      have k4 : ∀ a i, ¬ (a = 105 ∧ (8 ≤ i ∧ i ≤ 10 ∨ i = 12 ∨ i = 13 ∨ i = 16 ∨ i = 19 ∨ i = 22 ∨ i = 23)) → ¬ (112 ≤ a ∧ a ≤ 115) → K4 a i = k3s nc nw hd (s.1 105 16) s.1 a i := fun a i x y => v3.1 a i x y
      have cc : ∀ i, i < J tr 12 → cC tr J4 i = cC tr J i := fun i hi => by
        have := v2.2.1 i (by rw [j312]; exact hi)
        unfold cC
        rw [this.1, this.2, j3 _ _ (by omega) (by omega) (by omega), j3 _ _ (by omega) (by omega) (by omega)]
      have hcc : ∀ i, i < K 105 16 → cM (cs K4) i = cM (cs K) i := fun i hi => by unfold cM; rw [(o7 i hi).1, (o7 i hi).2]
      have n4 : ∀ i, 0 ≤ i → i < 8 * nc → K4 111 i = K 111 i := fun i _ hi => by rw [k4 _ _ (by omega) (by omega)]; exact k111 hd i hi
      have w4 : ∀ i, K4 117 i = K 117 i := fun i => by rw [k4 _ _ (by omega) (by omega)]; exact k117 hd i
      have j42 : J4 (tr + 2) nc = J tr 12 := by
        rw [v2.1 _ _ (by omega) (by omega) (by omega) (by omega), go _ _ (by omega), w2_n (by omega), w2_ap, if_pos ⟨rfl, rfl⟩]
      have j41 : J4 (tr + 1) nc = k := by
        rw [v2.1 _ _ (by omega) (by omega) (by omega) (by omega), go _ _ (by omega), w2_ap, if_pos ⟨rfl, rfl⟩]
      have mid : Mid tr nc nw J4 K4 L4 := by
        refine ⟨o1, fun w a b => ?_, fun c a b => ?_, ?_, ?_, ?_, ?_, ?_, fun i a b => ?_⟩
        · refine WyO_c (nc := nc) (j4 _ _ (by omega) (by omega) (by omega) (by omega) (by omega) (by omega)) (j4 _ _ (by omega) (by omega) (by omega) (by omega) (by omega) (by omega)) (fun p _ _ => j4 _ _ (by omega) (by omega) (by omega) (by omega) (by omega) (by omega)) (fun q _ _ => w4 _) n4 (by omega) (m2.1 w a b)
        · refine ClO_c (sN := J tr 12) (mN := K 105 16) ⟨j4 _ _ (by omega) (by omega) (by omega) (by omega) (by omega) (by omega), j4 _ _ (by omega) (by omega) (by omega) (by omega) (by omega) (by omega), j4 _ _ (by omega) (by omega) (by omega) (by omega) (by omega) (by omega), j4 _ _ (by omega) (by omega) (by omega) (by omega) (by omega) (by omega), j4 _ _ (by omega) (by omega) (by omega) (by omega) (by omega) (by omega)⟩ cc (fun q _ _ => n4 _ (by omega) (by omega)) (fun i _ hi => hcc i hi) (fun w _ _ => j4 _ _ (by omega) (by omega) (by omega) (by omega) (by omega) (by omega)) (Int.le_refl _) (by omega) (m2.2 c a b)
        · refine Or.inr ⟨?_, d, h, o4, by rw [j42]; exact o5, ?_⟩
          · rw [j41, k4 _ _ (by omega) (by omega), k3s_0]; omega
          · rw [k4 _ _ (by omega) (by omega), k3s_3, n16]; exact o6
        · rw [j42]; omega
        · rw [k4 _ _ (by omega) (by omega), k3s_3, n16]; omega
        · rw [k4 _ _ (by omega) (by omega), k3s_14]; omega
        · rw [k4 _ _ (by omega) (by omega), k3s_n (by omega) (by omega), n26, j4 _ _ (by omega) (by omega) (by omega) (by omega) (by omega) (by omega)]; omega
        · rw [j4 _ _ (by omega) (by omega) (by omega) (by omega) (by omega) (by omega)]; exact m9 i a b
      refine Ev_mono (rdH2 (hd := hd) (x := 8) (dm := dm) htr hT h104 (by omega) (by omega) mid) ?_
      rintro ⟨y, J5, M5⟩ ⟨hM5, K5, L5, w1, w2', w3, w4'⟩
      refine ⟨hM5, K5, L5, body K5 L5 w1, FrA_t (FrA_t fr3 (FrA_C v2)) w2', FrB_t (FrB_t (fk3 hd) (FrB_M v3)) w3, ?_⟩
      dsimp only at w4' ⊢
      rcases w4' with ⟨a1, a2, a3⟩ | a
      · exact Or.inl ⟨a1, ⟨nw, a2⟩, by omega⟩
      · exact Or.inr a
    · refine Ev_mono (clT hT h104 (by omega)) (fun r hr => ?_)
      subst hr
      refine ⟨rfl, _, _, body _ _ (tlM (by omega) (by omega)), FrA_t (FrA_t fr3 (FrA_C v2)) c5_fr, FrB_t (FrB_t (fk3 hd) (FrB_M v3)) (FrB_t FrB_w (FrB_t FrB_w FrB_w)), Or.inr ⟨rfl, ?_, ?_⟩⟩
      · rw [w2_n (by omega), w2_n (by omega), w2_n (by omega)]; exact f1
      · dsimp only; rw [w2_n (by omega), w2_n (by omega), w2_n (by omega), c5_4 htr]; exact f2
  refine ev_40_0 ?_
  refine Ev_R h104 (Ev_t hT.1 (Ev_R r2'.1 (Ev_R h104 (Ev_t hT.1 (Ev_t ⟨⟨r2'.2.1, r2'.2.2.1, by rw [r2'.2.2.2]; decide⟩, by rw [r2'.2.2.2]; omega⟩ (Ev_st (Ev_t (by omega) ?_)))))))
  refine Ev41 (by omega) (by decide) wb (fun wd => ?_) (fun wd0 => ?_) <;> dsimp only
  · have cw := (TK_w tk1 (s := 0) (by decide)).mp wd
    have cw : K 105 10 = 1 ∧ L 105 11 = 3764 := cw
    have wk : J 104 3 = 1 := by have := wd.1; rw [jn _ _ (by omega)] at this; exact this
    have lt := t7 (by omega)
    refine Ev_f (by decide) (Ev_R h104 (Ev_t hT.1 (Ev_R r1'.1 (Ev_t ⟨⟨r1'.2.1, r1'.2.2.1, by rw [r1'.2.2.2]; decide⟩, by rw [r1'.2.2.2]; omega⟩ (Ev_st (Ev_t (by omega) ?_))))))
    have j2 : ∀ a i, ¬ (a = tr + 2 ∧ i = nc) → ¬ (a = tr + 1 ∧ i = nc) → w2 (w2 J (tr + 2) nc (J tr 12)) (tr + 1) nc 0 a i = J a i := fun a i x y => by rw [w2_n y, w2_n x]
    have fr2 : FrA tr J (w2 (w2 J (tr + 2) nc (J tr 12)) (tr + 1) nc 0) := FrA_t fr1 (FrA_w (by omega))
    by_cases c16 : nw < 16
    · have ent : ∀ Q : JI × JI → Prop, Ev (fun n => kf_217 n dm e 2 K L 2 0 0) Q → Ev (fun n => kf_217 n dm e 0 K L 0 0 0) Q := by
        intro Q q
        refine ev_217_0 ?_
        repeat (first | (with_reducible refine Ev_t ?_ ?_; · omega) | (with_reducible refine Ev_f ?_ ?_; · omega) | (with_reducible refine Ev218t ?_ ?_; (· omega); try dsimp only) | (with_reducible refine Ev218f ?_ ?_; (· omega); try dsimp only))
        exact q
      refine Ev_bind (rdCut (w := nw) (c := nc) (K := k3s nc nw 2 (s.1 105 16) s.1) (L := s.2) (dm := dm - 1) htr hT h104 (by omega) (by omega) (by omega) ?_ ?_ ?_ ?_ ?_ ?_ ?_) ?_
      · rw [j2 _ _ (by omega) (by omega)]; exact m8.2.1
      · rw [k3s_n (by omega) (by omega)]; exact n26
      · rw [j2 _ _ (by omega) (by omega), j2 _ _ (by omega) (by omega)]; omega
      · rw [j2 _ _ (by omega) (by omega), j2 _ _ (by omega) (by omega)]; omega
      · intro J1 gn
        exact TK_c (TK_go (J2 := w2 (w2 J (tr + 2) nc (J tr 12)) (tr + 1) nc 0) p1' ⟨j2 _ _ (by omega) (by omega), j2 _ _ (by omega) (by omega), fun i => j2 _ _ (by omega) (by omega)⟩ ⟨rfl, rfl, fun _ => rfl⟩ gn s1).1 (fun _ _ _ => rfl) (fun _ => rfl) (fun i _ _ => k3s_n (by omega) (by omega)) (fun i => k3s_n (by omega) (by omega)) rfl
      · rw [k3s_n (by omega) (by omega), so _ _ (by omega)]; exact p2
      · intro p x y
        rw [j2 _ _ (by omega) (by omega)]; exact m9 _ (by omega) (by omega)
      · rintro ⟨y, J4, M4⟩ ⟨hM4, K4, L4, v1, v2, v3, v4⟩
        dsimp only at hM4 v1 v2 v4 ⊢
        subst hM4
        have body : ∀ K' L', Ev (fun n => kf_217 n dm e 4 K4 L4 2 (8 * nc) 8) (fun s => s = (K', L')) → Ev (fun n => kf_217 n dm e 0 K L 0 0 0) (fun s => s = (K', L')) := by
          intro K' L' q
          refine ent _ (mdIn (by omega) (by omega) (by omega) p2 n14 n26 s2 ?_)
          exact Ev_t rfl (Ev_call v1 q)
        rcases v4 with ⟨rfl, o1, o2, o3, o4, o5, o6, pt, o7, o8⟩ | ⟨rfl, f1, f2⟩
        · rw [j2 _ _ (by omega) (by omega)] at o6
          have j4 : ∀ a i, ¬ (a = 104 ∧ 3 ≤ i ∧ i ≤ 6) → ¬ (a = tr ∧ i = 11) → ¬ (a = tr + 6 ∧ i = nw) → ¬ (a = tr + 7 ∧ i = nw) → ¬ (a = tr + 8 ∧ nw * 10 ≤ i ∧ i < nw * 10 + 10) → ¬ (a = tr + 2 ∧ i = nc) → ¬ (a = tr + 1 ∧ i = nc) → J4 a i = J a i := fun a i x y z w u x2 x1 => by
            rw [v2 a i x y z w u]; exact j2 a i x2 x1
          have k4 : ∀ a i, ¬ (a = 105 ∧ (8 ≤ i ∧ i ≤ 10 ∨ i = 12 ∨ i = 13 ∨ i = 26)) → ¬ (a = 117 ∧ 11 * nw ≤ i ∧ i < 11 * nw + 11) → K4 a i = k3s nc nw 2 (s.1 105 16) s.1 a i := fun a i x y => v3.1 a i x y
          have j412 : J4 tr 12 = J tr 12 := j4 _ _ (by omega) (by omega) (by omega) (by omega) (by omega) (by omega) (by omega)
          have k416 : K4 105 16 = K 105 16 := by rw [k4 _ _ (by omega) (by omega)]; exact k16 2
          have cs4 : cs K4 = cs K := by
            rw [← csk 2]
            unfold cs
            have e1 : K4 112 = (k3s nc nw 2 (s.1 105 16) s.1) 112 := by funext j; exact k4 _ _ (by omega) (by omega)
            have e2 : K4 113 = (k3s nc nw 2 (s.1 105 16) s.1) 113 := by funext j; exact k4 _ _ (by omega) (by omega)
            rw [e1, e2, k4 _ _ (by omega) (by omega)]
          have cc : ∀ i, cC tr J4 i = cC tr J i := fun i => by
            unfold cC
            rw [j4 _ _ (by omega) (by omega) (by omega) (by omega) (by omega) (by omega) (by omega), j4 _ _ (by omega) (by omega) (by omega) (by omega) (by omega) (by omega) (by omega)]
          have n4 : ∀ i, 0 ≤ i → i < 8 * nc → K4 111 i = K 111 i := fun i _ hi => by rw [k4 _ _ (by omega) (by omega)]; exact k111 2 i hi
          have j42 : J4 (tr + 2) nc = J tr 12 := by
            rw [v2 _ _ (by omega) (by omega) (by omega) (by omega) (by omega), w2_n (by omega), w2_ap, if_pos ⟨rfl, rfl⟩]
          have j41 : J4 (tr + 1) nc = 0 := by
            rw [v2 _ _ (by omega) (by omega) (by omega) (by omega) (by omega), w2_ap, if_pos ⟨rfl, rfl⟩]
          have n0 : K4 111 (8 * nc) = 2 := by rw [k4 _ _ (by omega) (by omega), k3s_0]
          have n1 : K4 111 (8 * nc + 1) = nw := by rw [k4 _ _ (by omega) (by omega), k3s_1]
          have mid : Mid tr nc (nw + 1) J4 K4 L4 := by
            refine ⟨⟨o2, o1, ?_, ?_, ?_, fun i hi => ?_⟩, fun w a b => ?_, fun c a b => ?_, ?_, ?_, ?_, ?_, ?_, fun i a b => ?_⟩
            · rw [k4 _ _ (by omega) (by omega), k3s_n (by omega) (by omega), so _ _ (by omega), j4 _ _ (by omega) (by omega) (by omega) (by omega) (by omega) (by omega) (by omega)]; exact p3
            · rw [k416]; omega
            · rw [j412]; omega
            · rw [v3.2 _ _ (by omega), sl _ _ (by omega)]; exact p6 i hi
            · by_cases cw' : w = nw
              · subst cw'
                obtain ⟨q1, q2, q3, q4⟩ := o7
                obtain ⟨pp, q5, q6, q7⟩ := o8
                have u4 := o2.2.2.2.1
                have u1 := o2.1
                refine ⟨by rw [q3]; exact q1, by rw [q3]; exact q2, fun p x y => ?_, ⟨pp, q5, q6, q7⟩, by omega, by omega, by rw [o5]; exact n0, by rw [o5]; exact n1⟩
                have := q4 p x y
                exact ⟨this.1, this.2.1, by omega, by rw [q3]; exact this.2.2.2⟩
              · refine WyO_c (nc := nc) (j4 _ _ (by omega) (by omega) (by omega) (by omega) (by omega) (by omega) (by omega)) (j4 _ _ (by omega) (by omega) (by omega) (by omega) (by omega) (by omega) (by omega)) (fun p _ _ => j4 _ _ (by omega) (by omega) (by omega) (by omega) (by omega) (by omega) (by omega)) (fun q _ _ => by rw [k4 _ _ (by omega) (by omega)]; exact k117 2 _) n4 (by omega) (m2.1 w a (by omega))
            · have z : ∀ k, 1 ≤ k → k ≤ 5 → J4 (tr + k) c = J (tr + k) c := fun k _ _ => j4 _ _ (by omega) (by omega) (by omega) (by omega) (by omega) (by omega) (by omega)
              exact ClO_c (sN := J tr 12) (mN := K 105 16) ⟨z 1 (by omega) (by omega), z 2 (by omega) (by omega), z 3 (by omega) (by omega), z 4 (by omega) (by omega), z 5 (by omega) (by omega)⟩ (fun i _ => cc i) (fun q _ _ => n4 _ (by omega) (by omega)) (fun i _ _ => by rw [cs4]) (fun w _ _ => j4 _ _ (by omega) (by omega) (by omega) (by omega) (by omega) (by omega) (by omega)) (by omega) (by omega) (m2.2 c a b)
            · refine Or.inl ⟨j41, n0, ?_, by rw [j42, j412]⟩
              rw [n1]; exact ⟨by omega, by omega, o5⟩
            · rw [j42, j412]; omega
            · rw [k4 _ _ (by omega) (by omega), k3s_3, n16, k416]; omega
            · rw [k4 _ _ (by omega) (by omega), k3s_14]; omega
            · omega
            · rw [j4 _ _ (by omega) (by omega) (by omega) (by omega) (by omega) (by omega) (by omega)]; exact m9 i (by omega) b
          refine Ev_mono (rdH2 (hd := 2) (x := 8) (dm := dm) htr hT h104 (by omega) (by omega) mid) ?_
          rintro ⟨y, J5, M5⟩ ⟨hM5, K5, L5, w1, w2', w3, w4'⟩
          refine ⟨hM5, K5, L5, body K5 L5 w1, FrA_t (FrA_t fr2 (FrA_W v2)) w2', FrB_t (FrB_t (fk3 2) (FrB_W v3)) w3, ?_⟩
          dsimp only at w4' ⊢
          rcases w4' with ⟨a1, a2, a3⟩ | a
          · exact Or.inl ⟨a1, ⟨nw + 1, a2⟩, by omega⟩
          · exact Or.inr a
        · refine Ev_mono (clT hT h104 (by omega)) (fun r hr => ?_)
          subst hr
          refine ⟨rfl, _, _, body _ _ (tlM (by omega) (by omega)), FrA_t (FrA_t fr2 (FrA_W v2)) c5_fr, FrB_t (FrB_t (fk3 2) (FrB_W v3)) (FrB_t FrB_w (FrB_t FrB_w FrB_w)), Or.inr ⟨rfl, ?_, ?_⟩⟩
          · rw [w2_n (by omega), w2_n (by omega), w2_n (by omega)]; exact f1
          · dsimp only; rw [w2_n (by omega), w2_n (by omega), w2_n (by omega), c5_4 htr]; exact f2
    · have e53 : Ev (fun n => kf_53 n (dc - 1) e 0 (w2 (w2 J (tr + 2) nc (J tr 12)) (tr + 1) nc 0) M nc 0 0) (fun r => r = (0, w2 (w2 J (tr + 2) nc (J tr 12)) (tr + 1) nc 0, M)) := by
        refine ev_53_0 ?_
        refine Ev_R h104 (Ev_t hT.1 (Ev_f ?_ (Ev_ret rfl)))
        rw [j2 _ _ (by omega) (by omega)]; omega
      refine Ev_call e53 ?_
      dsimp only
      refine Ev_mono (clT hT h104 (by omega)) (fun r hr => ?_)
      subst hr
      refine ⟨rfl, badK K, L, ?_, FrA_t fr2 c5_fr, fkb, Or.inr ⟨rfl, rfl, ?_⟩⟩
      · refine ev_217_0 ?_
        repeat (first | (with_reducible refine Ev_t ?_ ?_; · omega) | (with_reducible refine Ev_f ?_ ?_; · omega) | (with_reducible refine Ev218t ?_ ?_; (· omega); try dsimp only) | (with_reducible refine Ev218f ?_ ?_; (· omega); try dsimp only))
        exact bad 2
      · dsimp only
        rw [c5_4 htr, j2 _ _ (by omega) (by omega)]
        exact ⟨t3.1, by show 0 ≤ K 105 8; omega⟩
  · have nw0 : ¬ (K 105 10 = 1 ∧ L 105 11 = 3764) := fun z => wd0 ((TK_w tk1 (s := 0) (by decide)).mpr z)
    refine Ev_t rfl (Ev_t (by omega) (Ev41 (by omega) (by decide) wb (fun wd => ?_) (fun wd3 => ?_))) <;> dsimp only
    · have cw : K 105 10 = 1 ∧ L 105 11 = 14276022451 := (TK_w tk1 (s := 3) (by decide)).mp wd
      refine Ev_f (by decide) (Ev_R h104 (Ev_t hT.1 (Ev_R r1'.1 (Ev_t ⟨⟨r1'.2.1, r1'.2.2.1, by rw [r1'.2.2.2]; decide⟩, by rw [r1'.2.2.2]; omega⟩ (Ev_st (Ev_t (by omega) (Ev_bind (K37 (by omega) ?_) ?_)))))))
      · rw [w2_n (by omega), w2_n (by omega), w2_n (by omega), w2_n (by omega)]; omega
      · rintro ⟨J3, M3⟩ ⟨hM3, gn⟩
        dsimp only at hM3 gn ⊢
        subst hM3
        refine Ev_t (by omega) (sum 1 0 (by omega) (by have := wd.1; rw [jn _ _ (by omega)] at this; omega) (fun Q q => ?_) J3 gn)
        refine ev_217_0 ?_
        repeat (first | (with_reducible refine Ev_t ?_ ?_; · omega) | (with_reducible refine Ev_f ?_ ?_; · omega) | (with_reducible refine Ev218t ?_ ?_; (· omega); try dsimp only) | (with_reducible refine Ev218f ?_ ?_; (· omega); try dsimp only))
        exact q
    · have nw3 : ¬ (K 105 10 = 1 ∧ L 105 11 = 14276022451) := fun z => wd3 ((TK_w tk1 (s := 3) (by decide)).mpr z)
      refine Ev_t rfl (Ev_t (by omega) (Ev41 (by omega) (by decide) wb (fun wd => ?_) (fun wd9 => ?_))) <;> dsimp only
      · have cw : K 105 10 = 1 ∧ L 105 11 = 20293004 := (TK_w tk1 (s := 9) (by decide)).mp wd
        refine Ev_f (by decide) (Ev_R h104 (Ev_t hT.1 (Ev_R r1'.1 (Ev_t ⟨⟨r1'.2.1, r1'.2.2.1, by rw [r1'.2.2.2]; decide⟩, by rw [r1'.2.2.2]; omega⟩ (Ev_st (Ev_t (by omega) (Ev_bind (K37 (by omega) ?_) ?_)))))))
        · rw [w2_n (by omega), w2_n (by omega), w2_n (by omega), w2_n (by omega)]; omega
        · rintro ⟨J3, M3⟩ ⟨hM3, gn⟩
          dsimp only at hM3 gn ⊢
          subst hM3
          refine Ev_t (by omega) (sum 2 1 (by omega) (by have := wd.1; rw [jn _ _ (by omega)] at this; omega) (fun Q q => ?_) J3 gn)
          refine ev_217_0 ?_
          repeat (first | (with_reducible refine Ev_t ?_ ?_; · omega) | (with_reducible refine Ev_f ?_ ?_; · omega) | (with_reducible refine Ev218t ?_ ?_; (· omega); try dsimp only) | (with_reducible refine Ev218f ?_ ?_; (· omega); try dsimp only))
          exact q
      · have nw9 : ¬ (K 105 10 = 1 ∧ L 105 11 = 20293004) := fun z => wd9 ((TK_w tk1 (s := 9) (by decide)).mpr z)
        refine Ev_t rfl (Ev_mono (clT hT h104 (by omega)) (fun r hr => ?_))
        subst hr
        refine ⟨rfl, badK K, L, ?_, FrA_t fr1 c5_fr, fkb, Or.inr ⟨rfl, rfl, ?_⟩⟩
        · refine ev_217_0 ?_
          repeat (first | (with_reducible refine Ev_t ?_ ?_; · omega) | (with_reducible refine Ev_f ?_ ?_; · omega) | (with_reducible refine Ev218t ?_ ?_; (· omega); try dsimp only) | (with_reducible refine Ev218f ?_ ?_; (· omega); try dsimp only))
          exact bad (-1)
        · dsimp only
          rw [c5_4 htr, jn _ _ (by omega)]
          exact ⟨t3.1, by show 0 ≤ K 105 8; omega⟩
end CLAUSE
