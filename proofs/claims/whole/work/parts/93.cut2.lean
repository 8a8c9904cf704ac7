section
set_option maxRecDepth 100000 in
theorem ev_53_1 {dp : Nat} {e : EN} {I : JI} {L : JI} {i1 : Int} {i2 : Int} {i3 : Int} {P_ : (Int × JI × JI) → Prop} (h : Ev (fun n => (if 400 ≤ i3 then (kf_53 n dp e 2 I L i1 i2 i3) else (if 1 ≤ dp then ((kf_41 n (dp - 1) e 0 I L 0 2).bind (fun ⟨x0_90, I0_90, L0_90⟩ => (if x0_90 = 0 then (kf_53 n dp e 2 I0_90 L0_90 i1 i2 i3) else (if 1 ≤ dp then ((kf_55 n (dp - 1) e 0 I0_90 L0_90 i2).bind (fun ⟨x1_98, I1_98, L1_98⟩ => (if x1_98 = 0 then (some ((0 : Int), I1_98, L1_98)) else (if -2147483648 ≤ i3 + 1 ∧ i3 + 1 ≤ 2147483647 then (kf_53 n dp e 1 I1_98 L1_98 i1 i2 (i3 + 1)) else none)))) else none)))) else none))) P_) : Ev (fun n => kf_53 n dp e 1 I L i1 i2 i3) P_ := Ev_step (fun n => ke_53_1 n dp e I L i1 i2 i3) h
set_option maxRecDepth 100000 in
theorem ev_220_2 {dp : Nat} {e : EN} {I : JI} {L : JI} {i1 : Int} {i2 : Int} {P_ : (JI × JI) → Prop} (h : Ev (fun n => (if (I 105 13) = 0 then (if 1 ≤ dp then ((kf_218 n (dp - 1) e 0 I L 1476).bind (fun ⟨x0_75, I0_75, L0_75⟩ => (if x0_75 = 0 then (kf_220 n dp e 3 I0_75 L0_75 i1 i2) else (if 1 ≤ dp then ((kf_214 n (dp - 1) e 0 I0_75 L0_75).bind (fun ⟨I1_82, L1_82⟩ => (if 1 ≤ dp then ((kf_222 n (dp - 1) e 0 I1_82 L1_82 i1 i2).bind (fun ⟨I2_88, L2_88⟩ => (kf_220 n dp e 2 I2_88 L2_88 i1 i2))) else none))) else none)))) else none) else (kf_220 n dp e 3 I L i1 i2))) P_) : Ev (fun n => kf_220 n dp e 2 I L i1 i2) P_ := Ev_step (fun n => ke_220_2 n dp e I L i1 i2) h
set_option maxRecDepth 100000 in
theorem ev_220_3 {dp : Nat} {e : EN} {I : JI} {L : JI} {i1 : Int} {i2 : Int} {P_ : (JI × JI) → Prop} (h : Ev (fun n => (if -2147483648 ≤ (I 105 26) + 1 ∧ (I 105 26) + 1 ≤ 2147483647 then (stI (w2 I 105 26 ((I 105 26) + 1)) (fun I_101 => (some (I_101, L)))) else none)) P_) : Ev (fun n => kf_220 n dp e 3 I L i1 i2) P_ := Ev_step (fun n => ke_220_3 n dp e I L i1 i2) h
set_option maxRecDepth 100000 in
theorem ev_53_2 {dp : Nat} {e : EN} {I : JI} {L : JI} {i1 : Int} {i2 : Int} {i3 : Int} {P_ : (Int × JI × JI) → Prop} (h : Ev (fun n => ((e.2.2 104 1).bind (fun b_113 => (if (b_113 < e.1) ∧ ((e.2.1 b_113).1 = 10) then (if -2147483648 ≤ i2 + 1 ∧ i2 + 1 ≤ 2147483647 then (stI (w2 I b_113 11 (i2 + 1)) (fun I_119 => (some ((1 : Int), I_119, L)))) else none) else none)))) P_) : Ev (fun n => kf_53 n dp e 2 I L i1 i2 i3) P_ := Ev_step (fun n => ke_53_2 n dp e I L i1 i2 i3) h
set_option maxRecDepth 100000 in
theorem ev_220_1 {dp : Nat} {e : EN} {I : JI} {L : JI} {i1 : Int} {i2 : Int} {P_ : (JI × JI) → Prop} (h : Ev (fun n => (if 11 ≤ i2 then (if 1 ≤ dp then ((kf_221 n (dp - 1) e 0 I L 0 9).bind (fun ⟨x0_36, I0_36, L0_36⟩ => (if 0 ≤ i1 ∧ i1 < 176 then (stI (w2 I0_36 117 i1 x0_36) (fun I_46 => (if 1 ≤ dp then ((kf_218 n (dp - 1) e 0 I_46 L0_36 655).bind (fun ⟨x1_52, I1_52, L1_52⟩ => (if 1 ≤ dp then ((kf_219 n (dp - 1) e 0 I1_52 L1_52 x1_52).bind (fun ⟨I2_55, L2_55⟩ => (if 1 ≤ dp then ((kf_222 n (dp - 1) e 0 I2_55 L2_55 i1 x0_36).bind (fun ⟨I3_61, L3_61⟩ => (kf_220 n dp e 2 I3_61 L3_61 i1 x0_36))) else none))) else none))) else none))) else none))) else none) else (if -2147483648 ≤ i1 + i2 ∧ i1 + i2 ≤ 2147483647 then (if 0 ≤ (i1 + i2) ∧ (i1 + i2) < 176 then (stI (w2 I 117 (i1 + i2) 0) (fun I_24 => (if -2147483648 ≤ i2 + 1 ∧ i2 + 1 ≤ 2147483647 then (kf_220 n dp e 1 I_24 L i1 (i2 + 1)) else none))) else none) else none))) P_) : Ev (fun n => kf_220 n dp e 1 I L i1 i2) P_ := Ev_step (fun n => ke_220_1 n dp e I L i1 i2) h
set_option maxRecDepth 100000 in
theorem ev_53_0 {dp : Nat} {e : EN} {I : JI} {L : JI} {i1 : Int} {i2 : Int} {i3 : Int} {P_ : (Int × JI × JI) → Prop} (h : Ev (fun n => ((e.2.2 104 1).bind (fun b_1 => (if (b_1 < e.1) ∧ ((e.2.1 b_1).1 = 10) then (if (I b_1 11) < 16 then (if 1 ≤ dp then ((kf_37 n (dp - 1) e 0 I L 0).bind (fun ⟨I0_17, L0_17⟩ => (if 1 ≤ dp then ((kf_54 n (dp - 1) e 0 I0_17 L0_17 0 9).bind (fun ⟨x1_24, I1_24, L1_24⟩ => (if x1_24 = 0 then (some ((0 : Int), I1_24, L1_24)) else ((e.2.2 104 1).bind (fun b_33 => (if (b_33 < e.1) ∧ ((e.2.1 b_33).1 = 10) then ((e.2.2 b_33 5).bind (fun b_36 => (if ((b_36 < e.1) ∧ (((e.2.1 b_36).1 = 13) ∧ ((e.2.1 b_36).2 < (2 ^ 31)))) ∧ (0 ≤ (I b_1 11) ∧ (I b_1 11) < (((e.2.1 b_36).2 : Nat) : Int)) then (stI (w2 I1_24 b_36 (I b_1 11) (I1_24 104 6)) (fun I_44 => ((e.2.2 104 1).bind (fun b_46 => (if (b_46 < e.1) ∧ ((e.2.1 b_46).1 = 10) then ((e.2.2 b_46 6).bind (fun b_49 => (if ((b_49 < e.1) ∧ (((e.2.1 b_49).1 = 13) ∧ ((e.2.1 b_49).2 < (2 ^ 31)))) ∧ (0 ≤ (I b_1 11) ∧ (I b_1 11) < (((e.2.1 b_49).2 : Nat) : Int)) then (stI (w2 I_44 b_49 (I b_1 11) i1) (fun I_54 => (if 1 ≤ dp then ((kf_37 n (dp - 1) e 0 I_54 L1_24 0).bind (fun ⟨I2_56, L2_56⟩ => (if 1 ≤ dp then ((kf_41 n (dp - 1) e 0 I2_56 L2_56 0 1).bind (fun ⟨x3_62, I3_62, L3_62⟩ => (if x3_62 = 0 then (some ((0 : Int), I3_62, L3_62)) else (if 1 ≤ dp then ((kf_55 n (dp - 1) e 0 I3_62 L3_62 (I b_1 11)).bind (fun ⟨x4_70, I4_70, L4_70⟩ => (if x4_70 = 0 then (some ((0 : Int), I4_70, L4_70)) else (kf_53 n dp e 1 I4_70 L4_70 i1 (I b_1 11) 0)))) else none)))) else none))) else none))) else none))) else none))))) else none))) else none)))))) else none))) else none) else (some ((0 : Int), I, L))) else none)))) P_) : Ev (fun n => kf_53 n dp e 0 I L i1 i2 i3) P_ := Ev_step (fun n => ke_53_0 n dp e I L i1 i2 i3) h
set_option maxRecDepth 100000 in
theorem ev_220_0 {dp : Nat} {e : EN} {I : JI} {L : JI} {i1 : Int} {i2 : Int} {P_ : (JI × JI) → Prop} (h : Ev (fun n => (if -2147483648 ≤ 11 * (I 105 26) ∧ 11 * (I 105 26) ≤ 2147483647 then (stI (11 * (I 105 26)) (fun v_7 => (kf_220 n dp e 1 I L v_7 0))) else none)) P_) : Ev (fun n => kf_220 n dp e 0 I L i1 i2) P_ := Ev_step (fun n => ke_220_0 n dp e I L i1 i2) h
end
/-! PARSER 14: a cut is read alike -/
def FrW (tr : Nat) (w : Int) (J J' : JI) : Prop := ∀ a i, ¬ (a = 104 ∧ 3 ≤ i ∧ i ≤ 6) → ¬ (a = tr ∧ i = 11) → ¬ (a = tr + 6 ∧ i = w) → ¬ (a = tr + 7 ∧ i = w) → ¬ (a = tr + 8 ∧ w * 10 ≤ i ∧ i < w * 10 + 10) → J' a i = J a i
def FmW (w : Int) (K L K' L' : JI) : Prop := (∀ a i, ¬ (a = 105 ∧ (8 ≤ i ∧ i ≤ 10 ∨ i = 12 ∨ i = 13 ∨ i = 26)) → ¬ (a = 117 ∧ 11 * w ≤ i ∧ i < 11 * w + 11) → K' a i = K a i) ∧ ∀ a i, ¬ (a = 105 ∧ i = 11) → L' a i = L a i
def CutO (tr : Nat) (w c : Int) (J J' K' L' : JI) : Prop := K' 105 13 = 0 ∧ TK J' K' L' ∧ K' 105 26 = w + 1 ∧ J' tr 11 = w + 1 ∧ J' (tr + 7) w = c ∧ J 104 4 + 1 ≤ J' 104 4 ∧ ∃ pt, PcO tr w pt J' K' ∧ ∃ p, 0 ≤ p ∧ p < 10 ∧ 1 ≤ K' 117 (11 * w + 1 + p)
section CUT
variable {dp dm : Nat} {e : EN} {tr : Nat} {M : JI}
theorem lpCut {w pt c : Int} {dc : Nat} (htr : tr = 9 ∨ tr = 93) (hT : TrO e tr) (h104 : e.2.2 104 1 = some tr) (hdc : 5 ≤ dc) (hdm : 5 ≤ dm) (hw : 0 ≤ w ∧ w < 16) (m : Nat) : ∀ (J K L : JI) (i : Int), J 104 2 - J 104 4 ≤ m → 0 ≤ i → 3 * i ≤ J 104 4 → TK J K L → K 105 13 = 0 → K 105 26 = w → PcO tr w pt J K → (∃ p, 0 ≤ p ∧ p < 10 ∧ 1 ≤ K 117 (11 * w + 1 + p)) → J (tr + 7) w = c → Ev (fun n => kf_53 n dc e 1 J M c w i) (fun r => r.2.2 = M ∧ ∃ K' L', Ev (fun n => kf_220 n dm e 2 K L (11 * w) pt) (fun s => s = (K', L')) ∧ FrW tr w J r.2.1 ∧ FmW w K L K' L' ∧ ((r.1 = 1 ∧ J 104 4 ≤ r.2.1 104 4 ∧ K' 105 13 = 0 ∧ TK r.2.1 K' L' ∧ K' 105 26 = w + 1 ∧ r.2.1 tr 11 = w + 1 ∧ r.2.1 (tr + 7) w = c ∧ PcO tr w pt r.2.1 K' ∧ ∃ p, 0 ≤ p ∧ p < 10 ∧ 1 ≤ K' 117 (11 * w + 1 + p)) ∨ (r.1 = 0 ∧ K' 105 13 = 1 ∧ (K' 105 12 = r.2.1 104 4 ∧ 0 ≤ K' 105 12)))) := by
  refine Nat.strongRecOn m (fun m ih J K L i hm hi hi2 hTK hb h26 hP hex h7 => ?_)
  have hTK' := hTK
  obtain ⟨t1, t2, t3, t4, t5, t6, t7, t8, t9, t10⟩ := hTK
  refine ev_53_1 ?_
  refine Ev_f (by omega) (Ev_t (by omega) (Ev41 (by omega) (by decide) (by omega) (fun wd => ?_) (fun wd => ?_))) <;> dsimp only
  · refine Ev_f (by decide) (Ev_t (by omega) ?_)
    have wk := wd.1
    obtain ⟨s, s1, s2⟩ := Ev_ex (K214 (dp := dm - 1) (e := e) (K := K) (L := L) (by omega) (by omega))
    have cw := (TK_w hTK' (s := 2) (by decide)).mp wd
    refine Ev_bind (rdPc (dm := dm - 1) htr hT h104 (by omega) (by omega) hw hTK' (by omega) hb hP s1) ?_
    rintro ⟨y, J1, M1⟩ ⟨hM1, K1, L1, v1, v2, v3, v4⟩
    dsimp only at hM1 v1 v2 v4 ⊢
    subst hM1
    have enter : ∀ K' L', Ev (fun n => kf_220 n dm e 2 K1 L1 (11 * w) pt) (fun s => s = (K', L')) → Ev (fun n => kf_220 n dm e 2 K L (11 * w) pt) (fun s => s = (K', L')) := by
      intro K' L' h
      refine ev_220_2 ?_
      refine Ev_t hb (Ev_t (by omega) (Ev218t cw ?_))
      dsimp only
      exact Ev_f (by decide) (Ev_t (by omega) (Ev_call s2 (Ev_t (by omega) (Ev_call v1 h))))
    have k26 : K1 105 26 = w := (v3.1 105 26 (by omega) (by omega)).trans h26
    have fmw : FmW w K L K1 L1 := ⟨fun a i z1 z2 => v3.1 a i (by omega) z2, v3.2⟩
    have frw : FrW tr w J J1 := fun a i z1 z2 z3 z4 z5 => v2 a i z1 z5
    rcases v4 with ⟨rfl, b1, tk1, pc1, lt1, ex1⟩ | ⟨rfl, b1, f1⟩
    · have n2 : J1 104 2 = J 104 2 := v2 104 2 (by omega) (by omega)
      have h71 : J1 (tr + 7) w = c := (v2 _ _ (by omega) (by omega)).trans h7
      refine Ev_f (by decide) (Ev_t (by omega) ?_)
      refine Ev_mono (ih (m - 1) (by omega) J1 K1 L1 (i + 1) (by omega) (by omega) (by omega) tk1 b1 k26 pc1 ex1 h71) ?_
      rintro r ⟨q1, K', L', q2, q3, q4, q6⟩
      refine ⟨q1, K', L', enter K' L' q2, fun a i z1 z2 z3 z4 z5 => (q3 a i z1 z2 z3 z4 z5).trans (frw a i z1 z2 z3 z4 z5), ⟨fun a i z1 z2 => (q4.1 a i z1 z2).trans (fmw.1 a i z1 z2), fun a i z => (q4.2 a i z).trans (fmw.2 a i z)⟩, ?_⟩
      rcases q6 with ⟨z1, z2, z3⟩ | z
      · exact Or.inl ⟨z1, by omega, z3⟩
      · exact Or.inr z
    · refine Ev_t rfl (Ev_ret ⟨rfl, w2 K1 105 26 (w + 1), L1, enter _ _ ?_, frw, ⟨fun a i z1 z2 => by rw [w2_n (by omega)]; exact fmw.1 a i z1 z2, fmw.2⟩, Or.inr ⟨rfl, b1, f1⟩⟩)
      refine ev_220_2 ?_
      refine Ev_f (by omega) ?_
      refine ev_220_3 ?_
      rw [k26]
      exact Ev_t (by omega) (Ev_st (Ev_ret rfl))
  · refine Ev_t rfl ?_
    refine ev_53_2 ?_
    refine Ev_R h104 (Ev_t hT.1 (Ev_t (by omega) (Ev_st (Ev_ret ⟨rfl, w2 K 105 26 (w + 1), L, ?_, fun a i z1 z2 z3 z4 z5 => w2_n (by omega), ⟨fun a i z1 z2 => w2_n (by omega), fun _ _ _ => rfl⟩, Or.inl ⟨rfl, ?_, hb, ?_, ?_, ?_, ?_, ?_, hex⟩⟩))))
    · have cw : ¬ (K 105 10 = 1 ∧ L 105 11 = 1476) := fun z => wd ((TK_w hTK' (s := 2) (by decide)).mpr z)
      refine ev_220_2 ?_
      refine Ev_t hb (Ev_t (by omega) (Ev218f cw ?_))
      dsimp only
      refine Ev_t rfl ?_
      refine ev_220_3 ?_
      rw [h26]
      exact Ev_t (by omega) (Ev_st (Ev_ret rfl))
    · dsimp only; rw [w2_n (by omega)]; exact Int.le_refl _
    · exact TK_c hTK' (fun i _ _ => w2_n (by omega)) (fun i => w2_n (by omega)) (fun _ _ _ => w2_n (by omega)) (fun _ => w2_n (by omega)) rfl
    · show w2 K 105 26 (w + 1) 105 26 = w + 1
      rw [w2_ap, if_pos ⟨rfl, rfl⟩]
    · dsimp only; rw [w2_ap, if_pos ⟨rfl, rfl⟩]
    · dsimp only; rw [w2_n (by omega)]; exact h7
    · obtain ⟨p1, p2, p3, p4⟩ := hP
      refine ⟨p1, ?_, p3, fun p a b => ?_⟩
      · dsimp only; rw [w2_n (by omega)]; exact p2
      · dsimp only
        rw [w2_n (by omega), w2_n (show ¬ (104 = tr ∧ (4 : Int) = 11) by omega)]
        exact p4 p a b
/-- cells set to nothing -/
def zr (K : JI) (b : Nat) (p : Int) (k : Int) : JI := fun a i => if a = b ∧ p ≤ i ∧ i < p + k then 0 else K a i
theorem zr_0 (K : JI) (b : Nat) (p : Int) : zr K b p 0 = K := by
  funext a i
  unfold zr
  rw [if_neg (by omega)]
theorem zr_s (K : JI) (b : Nat) (p : Int) (k : Nat) : w2 (zr K b p k) b (p + k) 0 = zr K b p ((k + 1 : Nat) : Int) := by
  funext a i
  rw [w2_ap]
  unfold zr
  by_cases c : a = b ∧ i = p + k
  · rw [if_pos c, if_pos (by omega)]
  · rw [if_neg c]
    by_cases d : a = b ∧ p ≤ i ∧ i < p + k
    · rw [if_pos d, if_pos (by omega)]
    · rw [if_neg d, if_neg (by omega)]
theorem zr_n {K : JI} {b : Nat} {p k : Int} {a : Nat} {i : Int} (h : ¬ (a = b ∧ p ≤ i ∧ i < p + k)) : zr K b p k a i = K a i := if_neg h
theorem zr_p {K : JI} {b : Nat} {p k : Int} {a : Nat} {i : Int} (h : a = b ∧ p ≤ i ∧ i < p + k) : zr K b p k a i = 0 := if_pos h
theorem K220z {K L : JI} {w : Int} {Q : JI × JI → Prop} (hw : 0 ≤ w ∧ w < 16) (g : Ev (fun n => kf_220 n dm e 1 (zr K 117 (11 * w) 11) L (11 * w) 11) Q) : Ev (fun n => kf_220 n dm e 1 K L (11 * w) 0) Q := by
  have key : ∀ k : Nat, k ≤ 11 → Ev (fun n => kf_220 n dm e 1 (zr K 117 (11 * w) k) L (11 * w) k) Q := by
    refine dec_ind 11 (fun k hk ih => ?_)
    by_cases c : k < 11
    · have ih := ih c
      refine ev_220_1 ?_
      refine Ev_f (by omega) (Ev_t (by omega) (Ev_t (by omega) (Ev_st (Ev_t (by omega) ?_))))
      rw [zr_s]
      exact ih
    · have : k = 11 := by omega
      subst this
      exact g
  have := key 0 (by omega)
  rw [show ((0 : Nat) : Int) = 0 from rfl, zr_0] at this
  exact this
/-- a cut, from its head word on; the reference from behind it -/
theorem rdCut {w c : Int} {J K L : JI} {dc : Nat} (htr : tr = 9 ∨ tr = 93) (hT : TrO e tr) (h104 : e.2.2 104 1 = some tr) (hdc : 5 ≤ dc) (hdm : 5 ≤ dm) (hw : 0 ≤ w ∧ w < 16) (h11 : J tr 11 = w) (h26 : K 105 26 = w) (hj : 0 ≤ J 104 5 ∧ J 104 5 ≤ J 104 2 ∧ J 104 2 ≤ 400) (h45 : 0 ≤ J 104 4 ∧ J 104 4 < J 104 5) (hTK : ∀ J1, GN J J1 → TK J1 K L) (hb : K 105 13 = 0) (hz : ∀ p, 0 ≤ p → p < 10 → J (tr + 8) (w * 10 + p) = 0) : Ev (fun n => kf_53 n dc e 0 J M c 0 0) (fun r => r.2.2 = M ∧ ∃ K' L', Ev (fun n => kf_220 n dm e 0 K L 0 0) (fun s => s = (K', L')) ∧ FrW tr w J r.2.1 ∧ FmW w K L K' L' ∧ ((r.1 = 1 ∧ CutO tr w c J r.2.1 K' L') ∨ (r.1 = 0 ∧ K' 105 13 = 1 ∧ (K' 105 12 = r.2.1 104 4 ∧ 0 ≤ K' 105 12)))) := by
  have t6' := hT.2.2.2.2.2.2.1
  have t7' := hT.2.2.2.2.2.2.2.1
  refine ev_53_0 ?_
  refine Ev_R h104 ?_
  simp only [h11]
  refine Ev_t hT.1 (Ev_t hw.2 (Ev_t (by omega) (Ev_bind (K37 (by omega) hj) ?_)))
  rintro ⟨J1, M1⟩ ⟨hM1, gn⟩
  dsimp only at hM1 gn ⊢
  subst hM1
  have go := GN_o gn
  have gf := GN_f gn
  have u := hTK J1 gn
  have u' := u
  obtain ⟨u1, u2, u3, u4, u5, u6, u7, u8, u9, u10⟩ := u
  have tz : TK J1 (zr K 117 (11 * w) 11) L := TK_c u' (fun _ _ _ => rfl) (fun _ => rfl) (fun _ _ _ => zr_n (by omega)) (fun _ => zr_n (by omega)) rfl
  have bz : (zr K 117 (11 * w) 11) 105 13 = 0 := by rw [zr_n (by omega)]; exact hb
  have b9 : 0 ≤ (zr K 117 (11 * w) 11) 105 9 ∧ (zr K 117 (11 * w) 11) 105 9 ≤ (zr K 117 (11 * w) 11) 105 7 ∧ (zr K 117 (11 * w) 11) 105 7 ≤ 400 := by
    rw [zr_n (by omega), zr_n (by omega)]; omega
  have enter : ∀ K' L', Ev (fun n => kf_220 n dm e 1 (zr K 117 (11 * w) 11) L (11 * w) 11) (fun s => s = (K', L')) → Ev (fun n => kf_220 n dm e 0 K L 0 0) (fun s => s = (K', L')) := by
    intro K' L' h
    refine ev_220_0 ?_
    rw [h26]
    exact Ev_t (by omega) (Ev_st (K220z hw h))
  /- what is left of the reading once it has failed -/
  have rest : ∀ (K2 L2 : JI) (x : Int), ¬ K2 105 13 = 0 → K2 105 26 = w → (-2147483648 ≤ x ∧ x ≤ 2147483647) → Ev (fun n => kf_220 n dm e 2 K2 L2 (11 * w) x) (fun s => s = (w2 K2 105 26 (w + 1), L2)) := by
    intro K2 L2 x h1 h2 h3
    refine ev_220_2 ?_
    refine Ev_f h1 ?_
    refine ev_220_3 ?_
    rw [h2]
    exact Ev_t (by omega) (Ev_st (Ev_ret rfl))
  refine Ev_t (by omega) (Ev54 (fun cn => ?_) (fun cn => ?_)) <;> dsimp only
  · have uu7 := u7 (by have := cn.1; omega)
    have n1 := u9 cn.1
    have c1 := (TK_n tz (lo := 0) (hi := 9) (by omega)).mp cn
    refine Ev_f (by decide) (Ev_R h104 (Ev_t hT.1 (Ev_R t6'.1 (Ev_t ⟨⟨t6'.2.1, t6'.2.2.1, by rw [t6'.2.2.2]; decide⟩, by rw [t6'.2.2.2]; omega⟩ (Ev_st (Ev_R h104 (Ev_t hT.1 (Ev_R t7'.1 (Ev_t ⟨⟨t7'.2.1, t7'.2.2.1, by rw [t7'.2.2.2]; decide⟩, by rw [t7'.2.2.2]; omega⟩ (Ev_st (Ev_t (by omega) (Ev_bind (K37 (by omega) ?_) ?_))))))))))))
    · rw [w2_n (by omega), w2_n (by omega), w2_n (by omega), w2_n (by omega)]; omega
    · rintro ⟨J2, M2⟩ ⟨hM2, gn2⟩
      dsimp only at hM2 gn2 ⊢
      subst hM2
      have go2 := GN_o gn2
      obtain ⟨r1, ⟨r2, r3⟩, r4⟩ := Ev_ex (K221t (dp := dm - 1) (e := e) (L := L) (by omega) bz c1.1 c1.2 b9)
      have ro := (NX_o r3).1
      have a1 : r1.1 = J1 104 6 := by rw [r2, l2i_s (by omega)]; have := n1.2.2.2.2.2 (by omega); omega
      have g2 := TK_go (J2 := w2 (w2 J1 (tr + 6) w (J1 104 6)) (tr + 7) w c) tz ⟨by rw [w2_n (by omega), w2_n (by omega)], by rw [w2_n (by omega), w2_n (by omega)], fun i => by rw [w2_n (by omega), w2_n (by omega)]⟩ ⟨rfl, rfl, fun _ => rfl⟩ gn2 r3
      have k26 : r1.2.1 105 26 = w := by rw [ro _ _ (by omega), zr_n (by omega)]; exact h26
      have b1 : r1.2.1 105 13 = 0 := by rw [ro _ _ (by omega)]; exact bz
      have tk2 : TK J2 (w2 r1.2.1 117 (11 * w) r1.1) r1.2.2 := TK_c g2.1 (fun _ _ _ => rfl) (fun _ => rfl) (fun _ _ _ => w2_n (by omega)) (fun _ => w2_n (by omega)) rfl
      have tk2' := tk2
      obtain ⟨v1, v2, v3, v4, v5, v6, v7, v8, v9, v10⟩ := tk2
      have b2 : (w2 r1.2.1 117 (11 * w) r1.1) 105 13 = 0 := by rw [w2_n (by omega)]; exact b1
      have j7 : J2 (tr + 7) w = c := by rw [go2 _ _ (by omega), w2_ap, if_pos ⟨rfl, rfl⟩]
      have fr2 : FrW tr w J J2 := by
        intro a i z1 z2 z3 z4 z5
        rw [go2 _ _ z1, w2_n z4, w2_n z3, go _ _ z1]
      have fm2 : FmW w K L (w2 r1.2.1 117 (11 * w) r1.1) r1.2.2 := by
        refine ⟨fun a i z1 z2 => ?_, (NX_o r3).2⟩
        rw [w2_n (by omega), ro _ _ (by omega), zr_n z2]
      have pc : PcO tr w (J1 104 6) J2 (w2 r1.2.1 117 (11 * w) r1.1) := by
        refine ⟨by omega, ?_, ?_, fun p p0 p1 => ?_⟩
        · rw [go2 _ _ (by omega), w2_n (by omega), w2_ap, if_pos ⟨rfl, rfl⟩]
        · rw [w2_ap, if_pos ⟨rfl, rfl⟩, a1]
        · rw [go2 _ _ (by omega), w2_n (by omega), w2_n (by omega), go _ _ (by omega), hz p p0 p1, w2_n (by omega), ro _ _ (by omega), zr_p (by omega)]
          refine ⟨rfl, by omega, by omega, fun _ => rfl⟩
      have to2 : ∀ K' L' x, Ev (fun n => kf_218 n (dm - 1) e 0 (w2 r1.2.1 117 (11 * w) r1.1) r1.2.2 655) (fun s => s = (x, w2 r1.2.1 117 (11 * w) r1.1, r1.2.2)) → (∀ K4 L4, Ev (fun n => kf_219 n (dm - 1) e 0 (w2 r1.2.1 117 (11 * w) r1.1) r1.2.2 x) (fun s => s = (K4, L4)) → Ev (fun n => (kf_222 n (dm - 1) e 0 K4 L4 (11 * w) (J1 104 6)).bind (fun s => kf_220 n dm e 2 s.1 s.2 (11 * w) (J1 104 6))) (fun s => s = (K', L')) → Ev (fun n => kf_220 n dm e 1 (zr K 117 (11 * w) 11) L (11 * w) 11) (fun s => s = (K', L'))) := by
        intro K' L' x hx K4 L4 h4 h5
        refine ev_220_1 ?_
        refine Ev_t (by omega) (Ev_t (by omega) (Ev_call r4 (Ev_t (by omega) (Ev_st (Ev_t (by omega) (Ev_call hx (Ev_t (by omega) (Ev_call h4 (Ev_t (by omega) ?_)))))))))
        dsimp only
        rw [a1] at *
        exact h5
      have wb : 0 ≤ J2 104 4 ∧ J2 104 4 ≤ J2 104 5 ∧ J2 104 5 ≤ 400 := by omega
      refine Ev_t (by omega) (Ev41 (by omega) (by decide) wb (fun wd => ?_) (fun wd => ?_)) <;> dsimp only
      · have cw := (TK_w tk2' (s := 1) (by decide)).mp wd
        have e18 : Ev (fun n => kf_218 n (dm - 1) e 0 (w2 r1.2.1 117 (11 * w) r1.1) r1.2.2 655) (fun s => s = (1, w2 r1.2.1 117 (11 * w) r1.1, r1.2.2)) := by
          refine ev_218_0 ?_
          exact Ev_t cw.1 (Ev_t cw.2 (Ev_ret rfl))
        obtain ⟨s, s1, s2⟩ := Ev_ex (K219t (dp := dm - 1) (e := e) (x := 1) (K := w2 r1.2.1 117 (11 * w) r1.1) (L := r1.2.2) (by omega) b2 (by decide) (by omega))
        refine Ev_f (by decide) (Ev_t (by omega) (Ev_bind (rdPc (dm := dm - 1) htr hT h104 (by omega) (by omega) hw tk2' (by have := wd.1; omega) b2 pc s1) ?_))
        rintro ⟨y, J3, M3⟩ ⟨hM3, K3, L3, q1, q2, q3, q4⟩
        dsimp only at hM3 q1 q2 q4 ⊢
        subst hM3
        have k263 : K3 105 26 = w := (q3.1 105 26 (by omega) (by omega)).trans (by rw [w2_n (by omega)]; exact k26)
        have fr3 : FrW tr w J J3 := fun a i z1 z2 z3 z4 z5 => (q2 a i z1 z5).trans (fr2 a i z1 z2 z3 z4 z5)
        have fm3 : FmW w K L K3 L3 := ⟨fun a i z1 z2 => (q3.1 a i (by omega) z2).trans (fm2.1 a i z1 z2), fun a i z => (q3.2 a i z).trans (fm2.2 a i z)⟩
        rcases q4 with ⟨rfl, c1, c2, c3, c4, c5⟩ | ⟨rfl, c1, c2⟩
        · refine Ev_f (by decide) ?_
          have h73 : J3 (tr + 7) w = c := (q2 _ _ (by omega) (by omega)).trans j7
          refine Ev_mono (lpCut (dm := dm) htr hT h104 hdc hdm hw 400 J3 K3 L3 0 (by have := c2.1; have := c2.2.2.2.1; omega) (by omega) (by have := c2.2.2.2.1; omega) c2 c1 k263 c3 c5 h73) ?_
          rintro r ⟨w1, K', L', w2', w3, w4, w5⟩
          refine ⟨w1, K', L', enter K' L' (to2 K' L' 1 e18 s.1 s.2 s2 (Ev_call q1 w2')), fun a i z1 z2 z3 z4 z5 => (w3 a i z1 z2 z3 z4 z5).trans (fr3 a i z1 z2 z3 z4 z5), ⟨fun a i z1 z2 => (w4.1 a i z1 z2).trans (fm3.1 a i z1 z2), fun a i z => (w4.2 a i z).trans (fm3.2 a i z)⟩, ?_⟩
          rcases w5 with ⟨x1, x2, x3, x4, x5, x6, x7, x8, x9⟩ | x
          · exact Or.inl ⟨x1, x3, x4, x5, x6, x7, by omega, _, x8, x9⟩
          · exact Or.inr x
        · refine Ev_t rfl (Ev_ret ⟨rfl, w2 K3 105 26 (w + 1), L3, enter _ _ (to2 _ _ 1 e18 s.1 s.2 s2 (Ev_call q1 (rest K3 L3 _ (by omega) k263 (by omega)))), fr3, ⟨fun a i z1 z2 => ?_, fm3.2⟩, Or.inr ⟨rfl, c1, c2⟩⟩)
          rw [w2_n (by omega)]; exact fm3.1 a i z1 z2
      · have cw : ¬ ((w2 r1.2.1 117 (11 * w) r1.1) 105 10 = 1 ∧ r1.2.2 105 11 = 655) := fun z => wd ((TK_w tk2' (s := 1) (by decide)).mpr z)
        have e18 : Ev (fun n => kf_218 n (dm - 1) e 0 (w2 r1.2.1 117 (11 * w) r1.1) r1.2.2 655) (fun s => s = (0, w2 r1.2.1 117 (11 * w) r1.1, r1.2.2)) := by
          refine ev_218_0 ?_
          exact Ev_c (fun z1 => Ev_f (fun z2 => cw ⟨z1, z2⟩) (Ev_ret rfl)) (fun _ => Ev_ret rfl)
        have bb : ¬ (badK (w2 r1.2.1 117 (11 * w) r1.1)) 105 13 = 0 := by show ¬ ((1 : Int) = 0); decide
        have k26b : (badK (w2 r1.2.1 117 (11 * w) r1.1)) 105 26 = w := k26
        refine Ev_t rfl (Ev_ret ⟨rfl, w2 (badK (w2 r1.2.1 117 (11 * w) r1.1)) 105 26 (w + 1), r1.2.2, enter _ _ (to2 _ _ 0 e18 _ _ (K219f b2 rfl) (Ev_call (K222b (by omega) bb (by omega)) (rest _ _ _ bb k26b (by omega)))), fr2, ⟨fun a i z1 z2 => ?_, fm2.2⟩, Or.inr ⟨rfl, rfl, v3.1, ?_⟩⟩)
        · rw [w2_n (by omega)]
          unfold badK
          rw [w2_n (by omega), w2_n (by omega)]
          exact fm2.1 a i z1 z2
        · have v31 := v3.1
          show 0 ≤ (w2 r1.2.1 117 (11 * w) r1.1) 105 8
          omega
  · have c1 : ¬ ((zr K 117 (11 * w) 11) 105 10 = 2 ∧ 0 ≤ L 105 11 ∧ L 105 11 ≤ 9) := fun z => cn ((TK_n tz (lo := 0) (hi := 9) (by omega)).mpr z)
    have lr := l2i_r (L 105 11)
    have bb : ∀ v, ¬ (w2 (badK (zr K 117 (11 * w) 11)) 117 (11 * w) v) 105 13 = 0 := fun v => by show ¬ ((1 : Int) = 0); decide
    have k26b : ∀ v, (w2 (badK (zr K 117 (11 * w) 11)) 117 (11 * w) v) 105 26 = w := fun v => by
      rw [w2_n (by omega)]; unfold badK; rw [w2_n (by omega), w2_n (by omega), zr_n (by omega)]; exact h26
    refine Ev_t rfl (Ev_ret ⟨rfl, w2 (w2 (badK (zr K 117 (11 * w) 11)) 117 (11 * w) (l2i (L 105 11))) 105 26 (w + 1), L, enter _ _ ?_, fun a i z1 z2 z3 z4 z5 => go a i z1, ⟨fun a i z1 z2 => ?_, fun _ _ _ => rfl⟩, Or.inr ⟨rfl, rfl, ?_⟩⟩)
    · refine ev_220_1 ?_
      refine Ev_t (by omega) (Ev_t (by omega) (Ev_call (K221f (by omega) bz c1) (Ev_t (by omega) (Ev_st (Ev_t (by omega) ?_)))))
      refine Ev218 (fun _ => ?_) (fun _ => ?_) <;> dsimp only
      · exact Ev_t (by omega) (Ev_call (K219b (bb (l2i (L 105 11)))) (Ev_t (by omega) (Ev_call (K222b (by omega) (bb (l2i (L 105 11))) lr) (rest _ _ _ (bb (l2i (L 105 11))) (k26b (l2i (L 105 11))) lr))))
      · exact Ev_t (by omega) (Ev_call (K219b (bb (l2i (L 105 11)))) (Ev_t (by omega) (Ev_call (K222b (by omega) (bb (l2i (L 105 11))) lr) (rest _ _ _ (bb (l2i (L 105 11))) (k26b (l2i (L 105 11))) lr))))
    · rw [w2_n (by omega), w2_n (by omega)]
      unfold badK
      rw [w2_n (by omega), w2_n (by omega), zr_n z2]
    · show (zr K 117 (11 * w) 11) 105 8 = J1 104 4 ∧ 0 ≤ (zr K 117 (11 * w) 11) 105 8
      rw [zr_n (by omega)]; exact ⟨u3.1, by omega⟩
end CUT
