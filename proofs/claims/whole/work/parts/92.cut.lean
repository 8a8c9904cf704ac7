section
set_option maxRecDepth 100000 in
theorem ev_221_0 {dp : Nat} {e : EN} {I : JI} {L : JI} {j1 : Int} {j3 : Int} {P_ : (Int × JI × JI) → Prop} (h : Ev (fun n => (stI (l2i (L 105 11)) (fun v_5 => (if (I 105 10) = 2 then (if 1 ≤ dp then ((kf_193 n (dp - 1) e 0 I L (L 105 11) j1 j3).bind (fun ⟨x0_22, I0_22, L0_22⟩ => (if x0_22 = 0 then (if 1 ≤ dp then ((kf_219 n (dp - 1) e 0 I0_22 L0_22 0).bind (fun ⟨I1_33, L1_33⟩ => (some ((v_5 : Int), I1_33, L1_33)))) else none) else (if 1 ≤ dp then ((kf_219 n (dp - 1) e 0 I0_22 L0_22 1).bind (fun ⟨I1_33, L1_33⟩ => (some ((v_5 : Int), I1_33, L1_33)))) else none)))) else none) else (if 1 ≤ dp then ((kf_219 n (dp - 1) e 0 I L 0).bind (fun ⟨I0_33, L0_33⟩ => (some ((v_5 : Int), I0_33, L0_33)))) else none))))) P_) : Ev (fun n => kf_221 n dp e 0 I L j1 j3) P_ := Ev_step (fun n => ke_221_0 n dp e I L j1 j3) h
set_option maxRecDepth 100000 in
theorem ev_222_0 {dp : Nat} {e : EN} {I : JI} {L : JI} {i1 : Int} {i2 : Int} {P_ : (JI × JI) → Prop} (h : Ev (fun n => (if 1 ≤ dp then ((kf_221 n (dp - 1) e 0 I L 1 9).bind (fun ⟨x0_5, I0_5, L0_5⟩ => (if 1 ≤ dp then (if -9223372036854775808 ≤ i2 + 1 ∧ i2 + 1 ≤ 9223372036854775807 then ((kf_221 n (dp - 1) e 0 I0_5 L0_5 (i2 + 1) 9).bind (fun ⟨x1_17, I1_17, L1_17⟩ => (if (I1_17 105 13) = 0 then (if (-2147483648 ≤ i1 + 1 ∧ i1 + 1 ≤ 2147483647) ∧ (-2147483648 ≤ (i1 + 1) + x1_17 ∧ (i1 + 1) + x1_17 ≤ 2147483647) then (if 0 ≤ ((i1 + 1) + x1_17) ∧ ((i1 + 1) + x1_17) < 176 then (if 0 ≤ ((i1 + 1) + x1_17) ∧ ((i1 + 1) + x1_17) < 176 then (if -2147483648 ≤ (I1_17 117 ((i1 + 1) + x1_17)) + x0_5 ∧ (I1_17 117 ((i1 + 1) + x1_17)) + x0_5 ≤ 2147483647 then (stI (w2 I1_17 117 ((i1 + 1) + x1_17) ((I1_17 117 ((i1 + 1) + x1_17)) + x0_5)) (fun I_43 => (some (I_43, L1_17)))) else none) else none) else none) else none) else (some (I1_17, L1_17))))) else none) else none))) else none)) P_) : Ev (fun n => kf_222 n dp e 0 I L i1 i2) P_ := Ev_step (fun n => ke_222_0 n dp e I L i1 i2) h
set_option maxRecDepth 100000 in
theorem ev_55_0 {dp : Nat} {e : EN} {I : JI} {L : JI} {i1 : Int} {P_ : (Int × JI × JI) → Prop} (h : Ev (fun n => (if 1 ≤ dp then ((kf_37 n (dp - 1) e 0 I L 0).bind (fun ⟨I0_1, L0_1⟩ => (if 1 ≤ dp then ((kf_54 n (dp - 1) e 0 I0_1 L0_1 1 9).bind (fun ⟨x1_8, I1_8, L1_8⟩ => (if x1_8 = 0 then (some ((0 : Int), I1_8, L1_8)) else (if 1 ≤ dp then ((kf_37 n (dp - 1) e 0 I1_8 L1_8 0).bind (fun ⟨I2_22, L2_22⟩ => ((e.2.2 104 1).bind (fun b_27 => (if (b_27 < e.1) ∧ ((e.2.1 b_27).1 = 10) then ((e.2.2 b_27 5).bind (fun b_30 => (if ((b_30 < e.1) ∧ (((e.2.1 b_30).1 = 13) ∧ ((e.2.1 b_30).2 < (2 ^ 31)))) ∧ (0 ≤ i1 ∧ i1 < (((e.2.1 b_30).2 : Nat) : Int)) then (if 1 ≤ dp then (if -2147483648 ≤ (I2_22 b_30 i1) + 1 ∧ (I2_22 b_30 i1) + 1 ≤ 2147483647 then ((kf_54 n (dp - 1) e 0 I2_22 L2_22 ((I2_22 b_30 i1) + 1) 9).bind (fun ⟨x3_39, I3_39, L3_39⟩ => (if x3_39 = 0 then (some ((0 : Int), I3_39, L3_39)) else ((e.2.2 104 1).bind (fun b_48 => (if (b_48 < e.1) ∧ ((e.2.1 b_48).1 = 10) then ((e.2.2 b_48 7).bind (fun b_51 => (if (-2147483648 ≤ i1 * 10 ∧ i1 * 10 ≤ 2147483647) ∧ (-2147483648 ≤ (i1 * 10) + (I3_39 104 6) ∧ (i1 * 10) + (I3_39 104 6) ≤ 2147483647) then (if ((b_51 < e.1) ∧ (((e.2.1 b_51).1 = 13) ∧ ((e.2.1 b_51).2 < (2 ^ 31)))) ∧ (0 ≤ ((i1 * 10) + (I3_39 104 6)) ∧ ((i1 * 10) + (I3_39 104 6)) < (((e.2.1 b_51).2 : Nat) : Int)) then (if ((b_51 < e.1) ∧ (((e.2.1 b_51).1 = 13) ∧ ((e.2.1 b_51).2 < (2 ^ 31)))) ∧ (0 ≤ ((i1 * 10) + (I3_39 104 6)) ∧ ((i1 * 10) + (I3_39 104 6)) < (((e.2.1 b_51).2 : Nat) : Int)) then (if -2147483648 ≤ (I3_39 b_51 ((i1 * 10) + (I3_39 104 6))) + (I1_8 104 6) ∧ (I3_39 b_51 ((i1 * 10) + (I3_39 104 6))) + (I1_8 104 6) ≤ 2147483647 then (stI (w2 I3_39 b_51 ((i1 * 10) + (I3_39 104 6)) ((I3_39 b_51 ((i1 * 10) + (I3_39 104 6))) + (I1_8 104 6))) (fun I_67 => (if 1 ≤ dp then ((kf_37 n (dp - 1) e 0 I_67 L3_39 0).bind (fun ⟨I4_69, L4_69⟩ => (some ((1 : Int), I4_69, L4_69)))) else none))) else none) else none) else none) else none))) else none)))))) else none) else none) else none))) else none))))) else none)))) else none))) else none)) P_) : Ev (fun n => kf_55 n dp e 0 I L i1) P_ := Ev_step (fun n => ke_55_0 n dp e I L i1) h
end
/-! PARSER 13: numbers, pieces, cuts -/
theorem l2i_r (x : Int) : -2147483648 ≤ l2i x ∧ l2i x ≤ 2147483647 := by
  unfold l2i
  have h1 := @Int.le_bmod x (2 ^ 32) (by decide)
  have h2 := @Int.bmod_lt x (2 ^ 32) (by decide)
  omega
theorem l2i_s {x : Int} (h : -2147483648 ≤ x ∧ x ≤ 2147483647) : l2i x = x := bm32 h
section CUT
variable {dp dm : Nat} {e : EN} {K L : JI} {β : Type} {T : β → Prop}
theorem K219b {x : Int} (hb : ¬ K 105 13 = 0) : Ev (fun n => kf_219 n dp e 0 K L x) (fun r => r = (K, L)) := by
  refine ev_219_0 ?_
  refine Ev_f hb ?_
  refine ev_219_1 ?_
  exact Ev_f hb (Ev_ret rfl)
theorem K221t {lo hi : Int} (hd : 3 ≤ dp) (hb : K 105 13 = 0) (hk : K 105 10 = 2) (hr : lo ≤ L 105 11 ∧ L 105 11 ≤ hi) (h : 0 ≤ K 105 9 ∧ K 105 9 ≤ K 105 7 ∧ K 105 7 ≤ 400) : Ev (fun n => kf_221 n dp e 0 K L lo hi) (fun r => r.1 = l2i (L 105 11) ∧ NX K L r.2.1 r.2.2) := by
  refine ev_221_0 ?_
  refine Ev_st (Ev_t hk (Ev_t (by omega) (Ev193t hr ?_)))
  dsimp only
  exact Ev_f (by decide) (Ev_t (by omega) (Ev_bind (K219t (by omega) hb (by decide) h) (fun r hr => Ev_ret ⟨rfl, hr⟩)))
theorem K221f {lo hi : Int} (hd : 3 ≤ dp) (hb : K 105 13 = 0) (hk : ¬ (K 105 10 = 2 ∧ lo ≤ L 105 11 ∧ L 105 11 ≤ hi)) : Ev (fun n => kf_221 n dp e 0 K L lo hi) (fun r => r = (l2i (L 105 11), badK K, L)) := by
  refine ev_221_0 ?_
  refine Ev_st (Ev_c (fun c => Ev_t (by omega) (Ev193f (fun z => hk ⟨c, z⟩) ?_)) (fun c => ?_))
  · dsimp only
    exact Ev_t rfl (Ev_t (by omega) (Ev_call (K219f hb rfl) (Ev_ret rfl)))
  · exact Ev_t (by omega) (Ev_call (K219f hb rfl) (Ev_ret rfl))
theorem K221b {lo hi : Int} (hd : 3 ≤ dp) (hb : ¬ K 105 13 = 0) : Ev (fun n => kf_221 n dp e 0 K L lo hi) (fun r => r = (l2i (L 105 11), K, L)) := by
  refine ev_221_0 ?_
  refine Ev_st (Ev_c (fun c => Ev_t (by omega) (Ev193 (fun _ => ?_) (fun _ => ?_))) (fun c => ?_))
  · dsimp only
    exact Ev_f (by decide) (Ev_t (by omega) (Ev_call (K219b hb) (Ev_ret rfl)))
  · dsimp only
    exact Ev_t rfl (Ev_t (by omega) (Ev_call (K219b hb) (Ev_ret rfl)))
  · exact Ev_t (by omega) (Ev_call (K219b hb) (Ev_ret rfl))
/-- pieces read when the reading has failed already -/
theorem K222b {at' pt : Int} (hd : 4 ≤ dp) (hb : ¬ K 105 13 = 0) (hp : -2147483648 ≤ pt ∧ pt ≤ 2147483647) : Ev (fun n => kf_222 n dp e 0 K L at' pt) (fun r => r = (K, L)) := by
  refine ev_222_0 ?_
  refine Ev_t (by omega) (Ev_call (K221b (by omega) hb) (Ev_t (by omega) (Ev_t (by omega) (Ev_call (K221b (by omega) hb) ?_))))
  exact Ev_f hb (Ev_ret rfl)
/-- the cells that the reading of pieces changes -/
def FrP (tr : Nat) (w : Int) (J J' : JI) : Prop := ∀ a i, ¬ (a = 104 ∧ 3 ≤ i ∧ i ≤ 6) → ¬ (a = tr + 8 ∧ w * 10 ≤ i ∧ i < w * 10 + 10) → J' a i = J a i
def FmP (w : Int) (K L K' L' : JI) : Prop := (∀ a i, ¬ (a = 105 ∧ (8 ≤ i ∧ i ≤ 10 ∨ i = 12 ∨ i = 13)) → ¬ (a = 117 ∧ 11 * w ≤ i ∧ i < 11 * w + 11) → K' a i = K a i) ∧ ∀ a i, ¬ (a = 105 ∧ i = 11) → L' a i = L a i
theorem FrP_t {tr : Nat} {w : Int} {J J1 J2 : JI} (h : FrP tr w J J1) (g : FrP tr w J1 J2) : FrP tr w J J2 := fun a i x y => (g a i x y).trans (h a i x y)
theorem FmP_t {w : Int} {K L K1 L1 K2 L2 : JI} (h : FmP w K L K1 L1) (g : FmP w K1 L1 K2 L2) : FmP w K L K2 L2 := ⟨fun a i x y => (g.1 a i x y).trans (h.1 a i x y), fun a i x => (g.2 a i x).trans (h.2 a i x)⟩
theorem GN_P {tr : Nat} {w : Int} {J J1 : JI} (g : GN J J1) : FrP tr w J J1 := fun a i x y => GN_o g a i x
theorem NX_P {w : Int} {K1 L1 : JI} (x : NX K L K1 L1) : FmP w K L K1 L1 := ⟨fun a i y z => (NX_o x).1 a i (by omega), (NX_o x).2⟩
theorem bad_P {w : Int} : FmP w K L (badK K) L := ⟨fun a i y z => by unfold badK; simp (disch := omega) only [w2_n], fun _ _ _ => rfl⟩
/-- the way that is being read stands alike -/
def PcO (tr : Nat) (w pt : Int) (J K : JI) : Prop := (0 ≤ pt ∧ pt ≤ 9) ∧ J (tr + 6) w = pt ∧ K 117 (11 * w) = pt ∧ ∀ p, 0 ≤ p → p < 10 → J (tr + 8) (w * 10 + p) = K 117 (11 * w + 1 + p) ∧ 0 ≤ K 117 (11 * w + 1 + p) ∧ K 117 (11 * w + 1 + p) ≤ 9 * J 104 4 ∧ (p ≤ pt → K 117 (11 * w + 1 + p) = 0)
/-- going on in both -/
theorem TK_go {J J1 J2 K' K1 L1 : JI} (h : TK J K L) (hJ : J2 104 2 = J 104 2 ∧ J2 104 5 = J 104 5 ∧ ∀ i, J2 89 i = J 89 i) (hK : K' 105 7 = K 105 7 ∧ K' 105 9 = K 105 9 ∧ ∀ i, K' 110 i = K 110 i) (g : GN J2 J1) (x : NX K' L K1 L1) : TK J1 K1 L1 ∧ J 104 5 ≤ J1 104 4 := by
  obtain ⟨t1, t2, t3, t4, t5, t6, t7, t8, t9, t10⟩ := h
  have z := TK_of (J := J2) (K := K') (by rw [hJ.1, hK.1]; exact t1.1) (by rw [hJ.1]; omega) (fun i a c => by rw [hJ.2.2, hK.2.2]; rw [hJ.1] at c; exact t2 i a c) (by rw [hJ.2.1, hK.2.1]; omega) (by rw [hJ.2.1]; omega) g x
  refine ⟨z.1, ?_⟩
  rw [← hJ.2.1]
  exact z.2.1
variable {tr : Nat} {M : JI}
/-- the pieces: the class from the word ahead of them, the reference from behind it -/
theorem rdPc {w pt : Int} {J K1 L1 : JI} {dc : Nat} (htr : tr = 9 ∨ tr = 93) (hT : TrO e tr) (h104 : e.2.2 104 1 = some tr) (hdc : 3 ≤ dc) (hdm : 4 ≤ dm) (hw : 0 ≤ w ∧ w < 16) (hTK : TK J K L) (hk : ¬ J 104 3 = 0) (hb : K 105 13 = 0) (hP : PcO tr w pt J K) (x : NX K L K1 L1) : Ev (fun n => kf_55 n dc e 0 J M w) (fun r => r.2.2 = M ∧ ∃ K' L', Ev (fun n => kf_222 n dm e 0 K1 L1 (11 * w) pt) (fun s => s = (K', L')) ∧ FrP tr w J r.2.1 ∧ FmP w K L K' L' ∧ ((r.1 = 1 ∧ K' 105 13 = 0 ∧ TK r.2.1 K' L' ∧ PcO tr w pt r.2.1 K' ∧ J 104 4 + 3 ≤ r.2.1 104 4 ∧ ∃ p, 0 ≤ p ∧ p < 10 ∧ 1 ≤ K' 117 (11 * w + 1 + p)) ∨ (r.1 = 0 ∧ K' 105 13 = 1 ∧ (K' 105 12 = r.2.1 104 4 ∧ 0 ≤ K' 105 12)))) := by
  obtain ⟨p1, p2, p3, p4⟩ := hP
  have xo := (NX_o x).1
  have hTK' := hTK
  obtain ⟨t1, t2, t3, t4, t5, t6, t7, t8, t9, t10⟩ := hTK
  have t7 := t7 hk
  refine ev_55_0 ?_
  refine Ev_t (by omega) (Ev_bind (K37 (by omega) (by omega)) ?_)
  rintro ⟨J1, M1⟩ ⟨hM1, gn⟩
  dsimp only at hM1 gn ⊢
  subst hM1
  have g1 := TK_go hTK' ⟨rfl, rfl, fun _ => rfl⟩ ⟨rfl, rfl, fun _ => rfl⟩ gn x
  have u := g1.1
  obtain ⟨u1, u2, u3, u4, u5, u6, u7, u8, u9, u10⟩ := u
  have hb1 : K1 105 13 = 0 := (xo 105 13 (by omega)).trans hb
  refine Ev_t (by omega) (Ev54 (fun c => ?_) (fun c => ?_)) <;> dsimp only
  · refine Ev_f (by decide) (Ev_t (by omega) (Ev_bind (K37 (by omega) (by omega)) ?_))
    rintro ⟨J2, M2⟩ ⟨hM2, gn2⟩
    dsimp only at hM2 gn2 ⊢
    subst hM2
    have c1 := (TK_n g1.1 (lo := 1) (hi := 9) (by omega)).mp c
    have n1 := u9 c.1
    obtain ⟨r1, ⟨r2, r3⟩, r4⟩ := Ev_ex (K221t (dp := dm - 1) (e := e) (by omega) hb1 c1.1 c1.2 (by omega))
    have g2 := TK_go g1.1 ⟨rfl, rfl, fun _ => rfl⟩ ⟨rfl, rfl, fun _ => rfl⟩ gn2 r3
    have ro := (NX_o r3).1
    have hb2 : r1.2.1 105 13 = 0 := (ro 105 13 (by omega)).trans hb1
    have v := g2.1
    obtain ⟨v1, v2, v3, v4, v5, v6, v7, v8, v9, v10⟩ := v
    have e6 : J2 (tr + 6) w = pt := by rw [GN_o gn2 _ _ (by omega), GN_o gn _ _ (by omega)]; exact p2
    have t6' := hT.2.2.2.2.2.2.1
    have t8' := hT.2.2.2.2.2.2.2.2.1
    refine Ev_R h104 (Ev_t hT.1 (Ev_R t6'.1 (Ev_t ⟨⟨t6'.2.1, t6'.2.2.1, by rw [t6'.2.2.2]; decide⟩, by rw [t6'.2.2.2]; omega⟩ (Ev_t (by omega) (Ev_t (by rw [e6]; omega) ?_)))))
    rw [e6]
    have uu7 := u7 (by have := c.1; omega)
    refine Ev54 (fun d => ?_) (fun d => ?_) <;> dsimp only
    · have d1 := (TK_n g2.1 (lo := pt + 1) (hi := 9) (by omega)).mp d
      have n2 := v9 d.1
      have vv7 := v7 (by have := d.1; omega)
      have e8 : ∀ p, J2 (tr + 8) (w * 10 + p) = J (tr + 8) (w * 10 + p) := fun p => by rw [GN_o gn2 _ _ (by omega), GN_o gn _ _ (by omega)]
      have pp := p4 (J2 104 6) (by omega) (by omega)
      refine Ev_f (by decide) (Ev_R h104 (Ev_t hT.1 (Ev_R t8'.1 (Ev_t (by omega) (Ev_t ⟨⟨t8'.2.1, t8'.2.2.1, by rw [t8'.2.2.2]; decide⟩, by rw [t8'.2.2.2]; omega⟩ (Ev_t ⟨⟨t8'.2.1, t8'.2.2.1, by rw [t8'.2.2.2]; decide⟩, by rw [t8'.2.2.2]; omega⟩ (Ev_t (by rw [e8]; omega) (Ev_st (Ev_t (by omega) (Ev_bind (K37 (by omega) ?_) ?_))))))))))
      · rw [w2_n (by omega), w2_n (by omega)]; omega
      · rintro ⟨J3, M3⟩ ⟨hM3, gn3⟩
        dsimp only at hM3 gn3 ⊢
        subst hM3
        obtain ⟨s1, ⟨s2, s3⟩, s4⟩ := Ev_ex (K221t (dp := dm - 1) (e := e) (by omega) hb2 d1.1 d1.2 (by omega))
        have g3 := TK_go (J2 := w2 J2 (tr + 8) (w * 10 + J2 104 6) (J2 (tr + 8) (w * 10 + J2 104 6) + J1 104 6)) g2.1 ⟨w2_n (by omega), w2_n (by omega), fun i => w2_n (by omega)⟩ ⟨rfl, rfl, fun _ => rfl⟩ gn3 s3
        have so := (NX_o s3).1
        have hb3 : s1.2.1 105 13 = 0 := (so 105 13 (by omega)).trans hb2
        have a1 : r1.1 = J1 104 6 := by rw [r2, l2i_s (by omega)]; have := n1.2.2.2.2.2 (by omega); omega
        have a2 : s1.1 = J2 104 6 := by rw [s2, l2i_s (by omega)]; have := n2.2.2.2.2.2 (by omega); omega
        have k117 : ∀ i, s1.2.1 117 i = K 117 i := fun i => by rw [so _ _ (by omega), ro _ _ (by omega), xo _ _ (by omega)]
        have ix : 11 * w + 1 + J2 104 6 = 11 * w + 1 + s1.1 := by rw [a2]
        have pc : PcO tr w pt J3 (w2 s1.2.1 117 (11 * w + 1 + s1.1) (s1.2.1 117 (11 * w + 1 + s1.1) + r1.1)) := by
          refine ⟨p1, ?_, ?_, fun p hp0 hp1 => ?_⟩
          · rw [GN_o gn3 _ _ (by omega), w2_n (by omega)]; exact e6
          · rw [w2_n (by omega), k117]; exact p3
          · have q := p4 p hp0 hp1
            have gf3 := g3.2
            rw [GN_o gn3 _ _ (by omega)]
            by_cases cc : p = J2 104 6
            · subst cc
              rw [w2_ap, if_pos ⟨rfl, rfl⟩, w2_ap, if_pos ⟨rfl, ix⟩, e8, ← ix, k117, a1]
              refine ⟨by omega, by omega, by omega, fun z => by omega⟩
            · rw [w2_n (by omega), w2_n (by omega), e8, k117]
              exact ⟨q.1, q.2.1, by omega, q.2.2.2⟩
        refine Ev_ret ⟨rfl, w2 s1.2.1 117 (11 * w + 1 + s1.1) (s1.2.1 117 (11 * w + 1 + s1.1) + r1.1), s1.2.2, ?_, ?_, ?_, Or.inl ⟨rfl, hb3, ?_, pc, ?_, ?_⟩⟩
        · refine ev_222_0 ?_
          refine Ev_t (by omega) (Ev_call r4 (Ev_t (by omega) (Ev_t (by omega) (Ev_call s4 ?_))))
          refine Ev_t hb3 (Ev_t (by omega) (Ev_t (by omega) (Ev_t (by omega) (Ev_t ?_ (Ev_st (Ev_ret rfl))))))
          rw [← ix, k117, a1]
          omega
        · intro a i z1 z2
          dsimp only
          rw [GN_o gn3 _ _ z1, w2_n (by omega), GN_o gn2 _ _ z1, GN_o gn _ _ z1]
        · refine FmP_t (NX_P x) (FmP_t (NX_P r3) (FmP_t (NX_P s3) ⟨fun a i z1 z2 => w2_n (by omega), fun _ _ _ => rfl⟩))
        · exact TK_c g3.1 (fun _ _ _ => rfl) (fun _ => rfl) (fun _ _ _ => rfl) (fun _ => rfl) rfl
        · dsimp only; omega
        · refine ⟨J2 104 6, by omega, by omega, ?_⟩
          rw [w2_ap, if_pos ⟨rfl, ix⟩, ← ix, k117, a1]
          omega
    · have d1 : ¬ (r1.2.1 105 10 = 2 ∧ pt + 1 ≤ r1.2.2 105 11 ∧ r1.2.2 105 11 ≤ 9) := fun z => d ((TK_n g2.1 (lo := pt + 1) (hi := 9) (by omega)).mpr z)
      refine Ev_t rfl (Ev_ret ⟨rfl, badK r1.2.1, r1.2.2, ?_, FrP_t (GN_P gn) (GN_P gn2), FmP_t (NX_P x) (FmP_t (NX_P r3) bad_P), Or.inr ⟨rfl, rfl, v3.1, by show 0 ≤ r1.2.1 105 8; omega⟩⟩)
      refine ev_222_0 ?_
      refine Ev_t (by omega) (Ev_call r4 (Ev_t (by omega) (Ev_t (by omega) (Ev_call (K221f (by omega) hb2 d1) ?_))))
      exact Ev_f (by show ¬ ((1 : Int) = 0); decide) (Ev_ret rfl)
  · have c1 : ¬ (K1 105 10 = 2 ∧ 1 ≤ L1 105 11 ∧ L1 105 11 ≤ 9) := fun z => c ((TK_n g1.1 (lo := 1) (hi := 9) (by omega)).mpr z)
    have bb : ¬ (badK K1) 105 13 = 0 := by show ¬ ((1 : Int) = 0); decide
    refine Ev_t rfl (Ev_ret ⟨rfl, badK K1, L1, ?_, GN_P gn, FmP_t (NX_P x) bad_P, Or.inr ⟨rfl, rfl, u3.1, by show 0 ≤ K1 105 8; omega⟩⟩)
    refine ev_222_0 ?_
    refine Ev_t (by omega) (Ev_call (K221f (by omega) hb1 c1) (Ev_t (by omega) (Ev_t (by omega) (Ev_call (K221b (by omega) bb) ?_))))
    exact Ev_f bb (Ev_ret rfl)
end CUT
