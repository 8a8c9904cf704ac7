section
set_option maxRecDepth 100000 in
theorem ev_73_1 {dp : Nat} {e : EN} {I : JI} {L : JI} {i1 : Int} {a2 : Nat} {P_ : (Int × JI × JI) → Prop} (h : Ev (fun n => (if (a2 < e.1) ∧ ((e.2.1 a2).1 = 10) then ((e.2.2 a2 1).bind (fun b_63 => (if ((b_63 < e.1) ∧ (((e.2.1 b_63).1 = 13) ∧ ((e.2.1 b_63).2 < (2 ^ 31)))) ∧ (0 ≤ i1 ∧ i1 < (((e.2.1 b_63).2 : Nat) : Int)) then (if (a2 < e.1) ∧ ((e.2.1 a2).1 = 10) then ((e.2.2 a2 2).bind (fun b_69 => (if ((b_69 < e.1) ∧ (((e.2.1 b_69).1 = 13) ∧ ((e.2.1 b_69).2 < (2 ^ 31)))) ∧ (0 ≤ i1 ∧ i1 < (((e.2.1 b_69).2 : Nat) : Int)) then (if 1 ≤ dp then ((kf_74 n (dp - 1) e 0 I L (I b_63 i1) (I b_69 i1) 0 0 0 0 0 a2).bind (fun ⟨x0_74, I0_74, L0_74⟩ => (stI (w2 I0_74 21 4 x0_74) (fun I_77 => (if (I_77 21 3) = 0 then (some ((1 : Int), I_77, L0_74)) else (some ((0 : Int), I_77, L0_74))))))) else none) else none))) else none) else none))) else none)) P_) : Ev (fun n => kf_73 n dp e 1 I L i1 a2) P_ := Ev_step (fun n => ke_73_1 n dp e I L i1 a2) h
set_option maxRecDepth 100000 in
theorem ev_73_0 {dp : Nat} {e : EN} {I : JI} {L : JI} {i1 : Int} {a2 : Nat} {P_ : (Int × JI × JI) → Prop} (h : Ev (fun n => ((e.2.2 1 7).bind (fun b_4 => (stI (w2 I 21 3 0) (fun I_10 => (if (b_4 < e.1) ∧ ((e.2.1 b_4).1 = 10) then ((e.2.2 b_4 4).bind (fun b_14 => (if ((b_14 < e.1) ∧ (((e.2.1 b_14).1 = 13) ∧ ((e.2.1 b_14).2 < (2 ^ 31)))) ∧ (0 ≤ i1 ∧ i1 < (((e.2.1 b_14).2 : Nat) : Int)) then (if (b_4 < e.1) ∧ ((e.2.1 b_4).1 = 10) then ((e.2.2 b_4 3).bind (fun b_20 => (if ((b_20 < e.1) ∧ (((e.2.1 b_20).1 = 13) ∧ ((e.2.1 b_20).2 < (2 ^ 31)))) ∧ (0 ≤ i1 ∧ i1 < (((e.2.1 b_20).2 : Nat) : Int)) then (if (I_10 b_14 i1) ≤ (I_10 b_20 i1) then (kf_73 n dp e 1 I_10 L i1 b_4) else (if (b_4 < e.1) ∧ ((e.2.1 b_4).1 = 10) then ((e.2.2 b_4 3).bind (fun b_31 => (if ((b_31 < e.1) ∧ (((e.2.1 b_31).1 = 13) ∧ ((e.2.1 b_31).2 < (2 ^ 31)))) ∧ (0 ≤ i1 ∧ i1 < (((e.2.1 b_31).2 : Nat) : Int)) then (if (b_4 < e.1) ∧ ((e.2.1 b_4).1 = 10) then ((e.2.2 b_4 4).bind (fun b_37 => (if ((b_37 < e.1) ∧ (((e.2.1 b_37).1 = 13) ∧ ((e.2.1 b_37).2 < (2 ^ 31)))) ∧ (0 ≤ i1 ∧ i1 < (((e.2.1 b_37).2 : Nat) : Int)) then (if 1 ≤ dp then ((kf_74 n (dp - 1) e 0 I_10 L (I_10 b_31 i1) (I_10 b_37 i1) 0 0 0 0 0 b_4).bind (fun ⟨x0_42, I0_42, L0_42⟩ => (if (I0_42 21 3) = 0 then (if x0_42 = 0 then (some ((0 : Int), I0_42, L0_42)) else (kf_73 n dp e 1 I0_42 L0_42 i1 b_4)) else (some ((0 : Int), I0_42, L0_42))))) else none) else none))) else none) else none))) else none)) else none))) else none) else none))) else none)))))) P_) : Ev (fun n => kf_73 n dp e 0 I L i1 a2) P_ := Ev_step (fun n => ke_73_0 n dp e I L i1 a2) h
set_option maxRecDepth 100000 in
theorem ev_244_0 {dp : Nat} {e : EN} {I : JI} {L : JI} {i1 : Int} {i2 : Int} {P_ : (Int × JI × JI) → Prop} (h : Ev (fun n => (if (-2147483648 ≤ 3 * i1 ∧ 3 * i1 ≤ 2147483647) ∧ (-2147483648 ≤ 10 + (3 * i1) ∧ 10 + (3 * i1) ≤ 2147483647) ∧ (-2147483648 ≤ (10 + (3 * i1)) + i2 ∧ (10 + (3 * i1)) + i2 ≤ 2147483647) then (if 0 ≤ ((10 + (3 * i1)) + i2) ∧ ((10 + (3 * i1)) + i2) < 1570 then (some (((I 107 ((10 + (3 * i1)) + i2)) : Int), I, L)) else none) else none)) P_) : Ev (fun n => kf_244 n dp e 0 I L i1 i2) P_ := Ev_step (fun n => ke_244_0 n dp e I L i1 i2) h
set_option maxRecDepth 100000 in
theorem ev_246_0 {dp : Nat} {e : EN} {I : JI} {L : JI} {i1 : Int} {i2 : Int} {i3 : Int} {i4 : Int} {i5 : Int} {i8 : Int} {i9 : Int} {i10 : Int} {j6 : Int} {P_ : (Int × JI × JI) → Prop} (h : Ev (fun n => (stI (w2 L 118 1 i3) (fun L_7 => (if 1 ≤ dp then ((kf_240 n (dp - 1) e 0 I L_7 i2).bind (fun ⟨x0_15, I0_15, L0_15⟩ => (stI (w2 L0_15 118 2 x0_15) (fun L_19 => (stI (w2 L_19 118 3 i2) (fun L_27 => (stI (w2 L_27 118 4 (I0_15 107 4)) (fun L_40 => (if 1 ≤ dp then ((kf_240 n (dp - 1) e 0 I0_15 L_40 i2).bind (fun ⟨x1_49, I1_49, L1_49⟩ => (if 1 ≤ dp then ((kf_244 n (dp - 1) e 0 I1_49 L1_49 x1_49 i3).bind (fun ⟨x2_53, I2_53, L2_53⟩ => (stI (w2 L2_53 118 5 x2_53) (fun L_57 => (kf_246 n dp e 1 I2_53 L_57 i1 i2 i3 i4 i5 0 0 0 i4))))) else none))) else none))))))))) else none)))) P_) : Ev (fun n => kf_246 n dp e 0 I L i1 i2 i3 i4 i5 i8 i9 i10 j6) P_ := Ev_step (fun n => ke_246_0 n dp e I L i1 i2 i3 i4 i5 i8 i9 i10 j6) h
set_option maxRecDepth 100000 in
theorem ev_246_1 {dp : Nat} {e : EN} {I : JI} {L : JI} {i1 : Int} {i2 : Int} {i3 : Int} {i4 : Int} {i5 : Int} {i8 : Int} {i9 : Int} {i10 : Int} {j6 : Int} {P_ : (Int × JI × JI) → Prop} (h : Ev (fun n => (if (I 107 471) ≤ i8 then (if 0 ≤ j6 then (if j6 ≤ i5 then (if -2147483648 ≤ j6 ∧ j6 ≤ 2147483647 then (some ((j6 : Int), I, L)) else none) else (some ((i5 : Int), I, L))) else (some ((0 : Int), I, L))) else (if (-2147483648 ≤ 8 * i8 ∧ 8 * i8 ≤ 2147483647) ∧ (-2147483648 ≤ 472 + (8 * i8) ∧ 472 + (8 * i8) ≤ 2147483647) then (stI (472 + (8 * i8)) (fun v_88 => (if 0 ≤ v_88 ∧ v_88 < 1570 then (if (I 107 v_88) = i1 then (if i1 = 2 then (if -2147483648 ≤ v_88 + 1 ∧ v_88 + 1 ≤ 2147483647 then (if 0 ≤ (v_88 + 1) ∧ (v_88 + 1) < 1570 then (if (I 107 (v_88 + 1)) = i2 then (kf_246 n dp e 2 I L i1 i2 i3 i4 i5 i8 v_88 0 j6) else (kf_246 n dp e 3 I L i1 i2 i3 i4 i5 i8 v_88 0 j6)) else none) else none) else (kf_246 n dp e 2 I L i1 i2 i3 i4 i5 i8 v_88 0 j6)) else (kf_246 n dp e 3 I L i1 i2 i3 i4 i5 i8 v_88 0 j6)) else none))) else none))) P_) : Ev (fun n => kf_246 n dp e 1 I L i1 i2 i3 i4 i5 i8 i9 i10 j6) P_ := Ev_step (fun n => ke_246_1 n dp e I L i1 i2 i3 i4 i5 i8 i9 i10 j6) h
set_option maxRecDepth 100000 in
theorem ev_246_4 {dp : Nat} {e : EN} {I : JI} {L : JI} {i1 : Int} {i2 : Int} {i3 : Int} {i4 : Int} {i5 : Int} {i8 : Int} {i9 : Int} {i10 : Int} {j6 : Int} {P_ : (Int × JI × JI) → Prop} (h : Ev (fun n => (if -2147483648 ≤ i8 + 1 ∧ i8 + 1 ≤ 2147483647 then (kf_246 n dp e 1 I L i1 i2 i3 i4 i5 (i8 + 1) 0 0 j6) else none)) P_) : Ev (fun n => kf_246 n dp e 4 I L i1 i2 i3 i4 i5 i8 i9 i10 j6) P_ := Ev_step (fun n => ke_246_4 n dp e I L i1 i2 i3 i4 i5 i8 i9 i10 j6) h
set_option maxRecDepth 100000 in
theorem ev_246_3 {dp : Nat} {e : EN} {I : JI} {L : JI} {i1 : Int} {i2 : Int} {i3 : Int} {i4 : Int} {i5 : Int} {i8 : Int} {i9 : Int} {i10 : Int} {j6 : Int} {P_ : (Int × JI × JI) → Prop} (h : Ev (fun n => (if (0 : Int) = 0 then (kf_246 n dp e 4 I L i1 i2 i3 i4 i5 i8 i9 0 j6) else (if 1 ≤ dp then ((kf_247 n (dp - 1) e 0 I L i9).bind (fun ⟨x0_134, I0_134, L0_134⟩ => (if x0_134 = 0 then (kf_246 n dp e 4 I0_134 L0_134 i1 i2 i3 i4 i5 i8 i9 0 j6) else (if i1 = 2 then (kf_246 n dp e 4 I0_134 L0_134 i1 i2 i3 i4 i5 i8 i9 0 1) else (kf_246 n dp e 4 I0_134 L0_134 i1 i2 i3 i4 i5 i8 i9 0 (L0_134 105 31)))))) else none))) P_) : Ev (fun n => kf_246 n dp e 3 I L i1 i2 i3 i4 i5 i8 i9 i10 j6) P_ := Ev_step (fun n => ke_246_3 n dp e I L i1 i2 i3 i4 i5 i8 i9 i10 j6) h
set_option maxRecDepth 100000 in
theorem ev_246_2 {dp : Nat} {e : EN} {I : JI} {L : JI} {i1 : Int} {i2 : Int} {i3 : Int} {i4 : Int} {i5 : Int} {i8 : Int} {i9 : Int} {i10 : Int} {j6 : Int} {P_ : (Int × JI × JI) → Prop} (h : Ev (fun n => (if (1 : Int) = 0 then (kf_246 n dp e 4 I L i1 i2 i3 i4 i5 i8 i9 1 j6) else (if 1 ≤ dp then ((kf_247 n (dp - 1) e 0 I L i9).bind (fun ⟨x0_134, I0_134, L0_134⟩ => (if x0_134 = 0 then (kf_246 n dp e 4 I0_134 L0_134 i1 i2 i3 i4 i5 i8 i9 1 j6) else (if i1 = 2 then (kf_246 n dp e 4 I0_134 L0_134 i1 i2 i3 i4 i5 i8 i9 1 1) else (kf_246 n dp e 4 I0_134 L0_134 i1 i2 i3 i4 i5 i8 i9 1 (L0_134 105 31)))))) else none))) P_) : Ev (fun n => kf_246 n dp e 2 I L i1 i2 i3 i4 i5 i8 i9 i10 j6) P_ := Ev_step (fun n => ke_246_2 n dp e I L i1 i2 i3 i4 i5 i8 i9 i10 j6) h
end
/-! ASKS: class and reference -/
theorem ClO_j {J J' : JI} {tr : Nat} {N : Int → Int} {C : Int → Int × Int} {nw c : Int} (hj : ∀ a i, tr + 1 ≤ a → a ≤ tr + 10 → J' a i = J a i) (h : ClO J tr N C nw 400 400 c) : ClO J' tr N C nw 400 400 c :=
  ClO_c ⟨hj _ _ (by omega) (by omega), hj _ _ (by omega) (by omega), hj _ _ (by omega) (by omega), hj _ _ (by omega) (by omega), hj _ _ (by omega) (by omega)⟩ (fun i _ => by unfold cC; rw [hj _ _ (by omega) (by omega), hj _ _ (by omega) (by omega)]) (fun _ _ _ => rfl) (fun _ _ _ => rfl) (fun w _ _ => hj _ _ (by omega) (by omega)) (Int.le_refl _) ⟨Int.le_refl _, Int.le_refl _⟩ h
def FrH (J J' : JI) : Prop := ∀ a i, ¬ (a = 21 ∧ (i = 3 ∨ i = 4)) → ¬ a = 23 → J' a i = J a i
section ASK
variable {dp : Nat} {e : EN}
theorem R74e {J M : JI} {tr : Nat} {a x1 x2 x3 x4 x5 : Int} : Ev (fun n => kf_74 n dp e 0 J M a a x1 x2 x3 x4 x5 tr) (fun r => r = (0, J, M)) := by
  refine ev_74_0 ?_
  refine ev_74_1 ?_
  refine Ev_t (Int.le_refl _) ?_
  refine ev_74_7 ?_
  exact Ev_t (by decide) (Ev_ret rfl)
theorem K73 {J M : JI} {tr : Nat} {nw c x : Int} {y : Nat} {φ ρ : Int → Int} (htr : tr = 9 ∨ tr = 93) (hT : TrO e tr) (h17 : e.2.2 1 7 = some tr) (hd : 2 ≤ dp) (hc : 0 ≤ c ∧ c < 24) (hcl : ClO J tr (fun i => ρ (472 + i)) (cR ρ) nw 400 400 c) (hf : Fg φ) (hφ : ∀ i, 0 ≤ i → i < 5 → J 22 i = φ i) : Ev (fun n => kf_73 n dp e 0 J M c y) (fun r => r.2.2 = M ∧ FrH J r.2.1 ∧ ((r.1 = 1 ∧ hld ρ φ c ∧ (¬ ρ (472 + 8 * c) = 2 → r.2.1 21 4 = sv ρ φ c)) ∨ (r.1 = 0 ∧ ¬ hld ρ φ c))) := by
  have hcl' := hcl
  obtain ⟨h1, h2, h3, h4⟩ := hcl
  dsimp only at h1 h2 h3 h4
  have e3 : 472 + (8 * c + 3) = 472 + 8 * c + 3 := by omega
  have e4 : 472 + (8 * c + 4) = 472 + 8 * c + 4 := by omega
  have e5 : 472 + (8 * c + 5) = 472 + 8 * c + 5 := by omega
  have e6 : 472 + (8 * c + 6) = 472 + 8 * c + 6 := by omega
  unfold HdO at h1
  dsimp only at h1
  rw [e3, e4, e5, e6] at h4
  rw [e5, e6] at h2
  rw [e3, e4] at h1
  have hT' := hT
  obtain ⟨t0, t1, t2, t3, t4, t5, _⟩ := hT
  have hT := hT'
  have snd : ∀ (J1 : JI), FrK J J1 → J1 21 3 = 0 → tok ρ φ c → Ev (fun n => kf_73 n dp e 1 J1 M c tr) (fun r => r.2.2 = M ∧ FrH J r.2.1 ∧ ((r.1 = 1 ∧ hld ρ φ c ∧ (¬ ρ (472 + 8 * c) = 2 → r.2.1 21 4 = sv ρ φ c)) ∨ (r.1 = 0 ∧ ¬ hld ρ φ c))) := by
    intro J1 f1 z3 ht
    have jj : ∀ a i, tr + 1 ≤ a → a ≤ tr + 10 → J1 a i = J a i := fun a i g1 g2 => f1 a i (by clear h1 h2; omega) (by clear h1 h2; omega)
    refine ev_73_1 ?_
    refine Ev_t t0 (Ev_R t2.1 (Ev_t ⟨⟨t2.2.1, t2.2.2.1, by rw [t2.2.2.2]; decide⟩, by rw [t2.2.2.2]; omega⟩ (Ev_t t0 (Ev_R t3.1 (Ev_t ⟨⟨t3.2.1, t3.2.2.1, by rw [t3.2.2.2]; decide⟩, by rw [t3.2.2.2]; omega⟩ (Ev_t (by omega) ?_))))))
    rw [jj (tr + 2) c (by omega) (by omega), jj (tr + 3) c (by omega) (by omega)]
    rcases h1 with ⟨_, z, _, z4⟩ | ⟨zk, d, h, a2, a3, a4⟩
    · rw [z4]
      refine Ev_call R74e (Ev_st ?_)
      refine Ev_t (by rw [w2_n (by omega)]; exact z3) (Ev_ret ⟨rfl, fun a i q1 q2 => ?_, Or.inl ⟨rfl, ⟨ht, Or.inl z⟩, fun y => absurd z y⟩⟩)
      dsimp only
      rw [w2_n (by omega)]; exact f1 a i (by omega) q2
    · have ed := den_s a4 (by omega) hf
      have sg : Seg (cC tr J1) (J (tr + 2) c) (J (tr + 3) c) d h := seg_congr (fun i _ _ => by unfold cC; rw [jj _ _ (by omega) (by omega), jj _ _ (by omega) (by omega)]) a3
      refine Ev_bind (R74 htr hT (by omega) sg a2 (by omega) (by omega) hf (fun i i0 i1 => by rw [f1 _ _ (by omega) (by omega)]; exact hφ i i0 i1) z3) ?_
      rintro ⟨v0, J2, M2⟩ ⟨q1, q2, q3⟩
      dsimp only at q1 q2 q3 ⊢
      subst q1
      have n2 : ¬ ρ (472 + 8 * c) = 2 := by omega
      have fr : FrH J (w2 J2 21 4 v0) := fun a i h1 h2 => by rw [w2_n (by omega), q2 a i (by omega) h2]; exact f1 a i (by omega) h2
      refine Ev_st ?_
      rcases q3 with ⟨v, dv, lv, bv⟩ | ⟨dn, bv⟩
      · refine Ev_t (by rw [w2_n (by omega)]; exact bv) (Ev_ret ⟨rfl, fr, Or.inl ⟨rfl, ⟨ht, Or.inr ⟨v, ed.trans dv⟩⟩, fun _ => ?_⟩⟩)
        show (w2 J2 21 4 v0) 21 4 = _
        rw [w2_ap, if_pos ⟨rfl, rfl⟩, lv]
        unfold sv
        rw [ed, dv]
        rfl
      · refine Ev_f (by rw [w2_n (by omega), bv]; decide) (Ev_ret ⟨rfl, fr, Or.inr ⟨rfl, fun z => ?_⟩⟩)
        rcases z.2 with z | ⟨v, z⟩
        · exact n2 z
        · rw [ed, dn] at z; cases z
  refine ev_73_0 ?_
  have jn : ∀ a i, tr + 1 ≤ a → a ≤ tr + 10 → w2 J 21 3 0 a i = J a i := fun a i g1 g2 => w2_n (by clear h1 h2; omega)
  refine Ev_R h17 (Ev_st (Ev_t t0 (Ev_R t5.1 (Ev_t ⟨⟨t5.2.1, t5.2.2.1, by rw [t5.2.2.2]; decide⟩, by rw [t5.2.2.2]; omega⟩ (Ev_t t0 (Ev_R t4.1 (Ev_t ⟨⟨t4.2.1, t4.2.2.1, by rw [t4.2.2.2]; decide⟩, by rw [t4.2.2.2]; omega⟩ ?_)))))))
  rw [jn (tr + 5) c (by omega) (by omega), jn (tr + 4) c (by omega) (by omega)]
  have f0 : FrK J (w2 J 21 3 0) := fun a i h1 h2 => w2_n h1
  have z0 : (w2 J 21 3 0) 21 3 = 0 := by rw [w2_ap, if_pos ⟨rfl, rfl⟩]
  rcases h2 with ⟨z5, z6⟩ | ⟨d, h, a1, a2, a3, a4⟩
  · exact Ev_t (by omega) (snd _ f0 z0 (Or.inl (by omega)))
  · have l3 := a3.1
    have l4 := a4.1
    have ed := den_s a4 (by omega) hf
    refine Ev_f (by omega) (Ev_t t0 (Ev_R t4.1 (Ev_t ⟨⟨t4.2.1, t4.2.2.1, by rw [t4.2.2.2]; decide⟩, by rw [t4.2.2.2]; omega⟩ (Ev_t t0 (Ev_R t5.1 (Ev_t ⟨⟨t5.2.1, t5.2.2.1, by rw [t5.2.2.2]; decide⟩, by rw [t5.2.2.2]; omega⟩ (Ev_t (by omega) ?_)))))))
    rw [jn (tr + 4) c (by omega) (by omega), jn (tr + 5) c (by omega) (by omega)]
    have sg : Seg (cC tr (w2 J 21 3 0)) (J (tr + 4) c) (J (tr + 5) c) d h := seg_congr (fun i _ _ => by unfold cC; rw [jn _ _ (by omega) (by omega), jn _ _ (by omega) (by omega)]) a3
    refine Ev_bind (R74 htr hT (by omega) sg a2 (by omega) (by omega) hf (fun i i0 i1 => by rw [w2_n (by omega)]; exact hφ i i0 i1) z0) ?_
    rintro ⟨v0, J2, M2⟩ ⟨q1, q2, q3⟩
    dsimp only at q1 q2 q3 ⊢
    subst q1
    have fk : FrK J J2 := fun a i h1 h2 => (q2 a i h1 h2).trans (f0 a i h1 h2)
    have fh : FrH J J2 := fun a i h1 h2 => fk a i (by omega) h2
    rcases q3 with ⟨v, dv, lv, bv⟩ | ⟨dn, bv⟩
    · refine Ev_t bv (Ev_c (fun z => Ev_ret ⟨rfl, fh, Or.inr ⟨rfl, fun y => ?_⟩⟩) (fun z => ?_))
      · rcases y.1 with y | ⟨w, y, y2⟩
        · omega
        · rw [ed, dv] at y; cases y; rw [lv] at z; exact y2 z
      · rw [lv] at z
        exact snd J2 fk bv (Or.inr ⟨v, ed.trans dv, z⟩)
    · refine Ev_f (by rw [bv]; decide) (Ev_ret ⟨rfl, fh, Or.inr ⟨rfl, fun y => ?_⟩⟩)
      rcases y.1 with y | ⟨w, y, y2⟩
      · omega
      · rw [ed, dn] at y; cases y
/-- what both want of the row and the tree -/
def AskO (J : JI) (tr : Nat) (ρ : Int → Int) : Prop := TrT J tr ρ ∧ (0 ≤ ρ 8 ∧ ρ 8 ≤ 24) ∧ (0 ≤ ρ 9 ∧ ρ 9 ≤ 16) ∧ (0 ≤ ρ 4 ∧ ρ 4 ≤ 99) ∧ (∀ i, 10 ≤ i → i < 40 → 0 ≤ ρ i ∧ ρ i ≤ 9999)
theorem fc_g {J : JI} {tr : Nat} {ρ : Int → Int} {w c : Int} (h : AskO J tr ρ) (hw : 0 ≤ w ∧ w < ρ 9) (hc : 0 ≤ c ∧ c < 3) : Fg (fc ρ w c) ∧ 0 ≤ ρ (290 + 11 * w) ∧ ρ (290 + 11 * w) ≤ 9 := by
  obtain ⟨⟨⟨h1, _⟩, _⟩, h3, h4, h5, h6⟩ := h
  have a : 0 ≤ ρ (290 + 11 * w) ∧ ρ (290 + 11 * w) ≤ 9 := (h1 w hw.1 hw.2).1
  refine ⟨fun i => ?_, a⟩
  have b := h6 (10 + 3 * ρ (290 + 11 * w) + c) (by omega) (by omega)
  unfold fc
  repeat' split
  all_goals omega
theorem K244 {K L : JI} {p c : Int} (hp : 0 ≤ p ∧ p ≤ 9) (hc : 0 ≤ c ∧ c < 3) : Ev (fun n => kf_244 n dp e 0 K L p c) (fun r => r = (K 107 (10 + 3 * p + c), K, L)) := by
  refine ev_244_0 ?_
  exact Ev_t (by omega) (Ev_t (by omega) (Ev_ret rfl))
theorem K246 {J K L : JI} {tr : Nat} {hd w c df mo x1 x2 x3 x4 : Int} (h : AskO J tr (K 107)) (hw : 0 ≤ w ∧ w < K 107 9) (hc : 0 ≤ c ∧ c < 3) (hdp : 3 ≤ dp) (hm : 0 ≤ mo ∧ mo ≤ 60) (hh : hd = 0 ∨ hd = 1 ∨ hd = 2) : Ev (fun n => kf_246 n dp e 0 K L hd w c df mo x1 x2 x3 x4) (fun r => (∀ a i, ¬ (a = 105 ∧ i = 29) → r.2.1 a i = K a i) ∧ (∀ a i, ¬ a = 118 → ¬ a = 119 → ¬ (a = 105 ∧ (i = 30 ∨ i = 31)) → r.2.2 a i = L a i) ∧ r.1 = clp mo (tls (K 107) hd w c df (K 107 8).toNat)) := by
  obtain ⟨hf, hp⟩ := fc_g h hw hc
  have h' := h
  obtain ⟨⟨⟨h1, h2⟩, h7⟩, h3, h4, h5, h6⟩ := h
  refine ev_246_0 ?_
  refine Ev_st (Ev_t (by omega) (Ev_call (K240 (by omega)) (Ev_st (Ev_st (Ev_st (Ev_t (by omega) (Ev_call (K240 (by omega)) (Ev_t (by omega) (Ev_call (K244 hp hc) (Ev_st ?_))))))))))
  obtain ⟨NC, hN⟩ : ∃ NC : Nat, (NC : Int) = K 107 8 := ⟨(K 107 8).toNat, by omega⟩
  have hN2 : (K 107 8).toNat = NC := by omega
  rw [hN2]
  have key : ∀ k : Nat, k ≤ NC → ∀ (K1 L1 : JI), (∀ a i, ¬ (a = 105 ∧ i = 29) → K1 a i = K a i) → (∀ a i, ¬ a = 118 → ¬ a = 119 → ¬ (a = 105 ∧ (i = 30 ∨ i = 31)) → L1 a i = L a i) → (∀ i, 0 ≤ i → i < 5 → L1 118 (i + 1) = fc (K 107) w c i) → Ev (fun n => kf_246 n dp e 1 K1 L1 hd w c df mo k 0 0 (tls (K 107) hd w c df k)) (fun r => (∀ a i, ¬ (a = 105 ∧ i = 29) → r.2.1 a i = K a i) ∧ (∀ a i, ¬ a = 118 → ¬ a = 119 → ¬ (a = 105 ∧ (i = 30 ∨ i = 31)) → r.2.2 a i = L a i) ∧ r.1 = clp mo (tls (K 107) hd w c df NC)) := by
    refine dec_ind NC (fun k hk ih => ?_)
    intro K1 L1 k1 l1 hφ
    have r1 : K1 107 = K 107 := funext fun i => k1 107 i (by omega)
    refine ev_246_1 ?_
    rw [r1, h7]
    by_cases ck : k < NC
    · have ih := ih ck
      refine Ev_f (by omega) (Ev_t (by omega) (Ev_st (Ev_t (by omega) ?_)))
      have nxt : ∀ (K2 L2 : JI) (x y : Int) , (∀ a i, ¬ (a = 105 ∧ i = 29) → K2 a i = K a i) → (∀ a i, ¬ a = 118 → ¬ a = 119 → ¬ (a = 105 ∧ (i = 30 ∨ i = 31)) → L2 a i = L a i) → (∀ i, 0 ≤ i → i < 5 → L2 118 (i + 1) = fc (K 107) w c i) → ∀ t, t = tls (K 107) hd w c df (k + 1) → Ev (fun n => kf_246 n dp e 4 K2 L2 hd w c df mo k x y t) (fun r => (∀ a i, ¬ (a = 105 ∧ i = 29) → r.2.1 a i = K a i) ∧ (∀ a i, ¬ a = 118 → ¬ a = 119 → ¬ (a = 105 ∧ (i = 30 ∨ i = 31)) → r.2.2 a i = L a i) ∧ r.1 = clp mo (tls (K 107) hd w c df NC)) := by
        intro K2 L2 x y g1 g2 g3 t ht
        subst ht
        refine ev_246_4 ?_
        exact Ev_t (by omega) (ih K2 L2 g1 g2 g3)
      have no : ¬ (K 107 (472 + 8 * k) = hd ∧ (¬ hd = 2 ∨ K 107 (472 + 8 * k + 1) = w)) → Ev (fun n => kf_246 n dp e 3 K1 L1 hd w c df mo k (472 + 8 * k) 0 (tls (K 107) hd w c df k)) (fun r => (∀ a i, ¬ (a = 105 ∧ i = 29) → r.2.1 a i = K a i) ∧ (∀ a i, ¬ a = 118 → ¬ a = 119 → ¬ (a = 105 ∧ (i = 30 ∨ i = 31)) → r.2.2 a i = L a i) ∧ r.1 = clp mo (tls (K 107) hd w c df NC)) := by
        intro hn
        refine ev_246_3 ?_
        refine Ev_t rfl (nxt K1 L1 _ _ k1 l1 hφ _ ?_)
        rw [tls, if_neg (fun z => hn ⟨z.1, z.2.1⟩)]
      have yes : K 107 (472 + 8 * k) = hd → (¬ hd = 2 ∨ K 107 (472 + 8 * k + 1) = w) → Ev (fun n => kf_246 n dp e 2 K1 L1 hd w c df mo k (472 + 8 * k) 0 (tls (K 107) hd w c df k)) (fun r => (∀ a i, ¬ (a = 105 ∧ i = 29) → r.2.1 a i = K a i) ∧ (∀ a i, ¬ a = 118 → ¬ a = 119 → ¬ (a = 105 ∧ (i = 30 ∨ i = 31)) → r.2.2 a i = L a i) ∧ r.1 = clp mo (tls (K 107) hd w c df NC)) := by
        intro y1 y2
        refine ev_246_2 ?_
        refine Ev_f (by decide) (Ev_t (by omega) ?_)
        have hcl : ClO J tr (fun i => K1 107 (472 + i)) (cR (K1 107)) (K 107 9) 400 400 k := by rw [r1]; exact h2 k (by omega) (by omega)
        refine Ev_bind (K247 (by omega) (by omega) hcl hf hφ) ?_
        rintro ⟨x0, K2, L2⟩ ⟨g1, g2, g3⟩
        dsimp only at g1 g2 g3 ⊢
        rw [r1] at g3
        have m1 : ∀ a i, ¬ (a = 105 ∧ i = 29) → K2 a i = K a i := fun a i q => (g1 a i q).trans (k1 a i q)
        have m2 : ∀ a i, ¬ a = 118 → ¬ a = 119 → ¬ (a = 105 ∧ (i = 30 ∨ i = 31)) → L2 a i = L a i := fun a i q1 q2 q3 => (g2 a i q2 q3).trans (l1 a i q1 q2 q3)
        have m3 : ∀ i, 0 ≤ i → i < 5 → L2 118 (i + 1) = fc (K 107) w c i := fun i i0 i1 => (g2 118 _ (by omega) (by omega)).trans (hφ i i0 i1)
        rcases g3 with ⟨rfl, g4, g5⟩ | ⟨rfl, g4⟩
        · refine Ev_f (by decide) (Ev_c (fun z => nxt K2 L2 _ _ m1 m2 m3 _ ?_) (fun z => nxt K2 L2 _ _ m1 m2 m3 _ ?_))
          · rw [tls, if_pos ⟨y1, y2, g4⟩, if_pos z]
          · rw [tls, if_pos ⟨y1, y2, g4⟩, if_neg z]
            exact g5 (by omega)
        · refine Ev_t rfl (nxt K2 L2 _ _ m1 m2 m3 _ ?_)
          rw [tls, if_neg (fun z => g4 z.2.2)]
      refine Ev_c (fun y1 => Ev_c (fun z => Ev_t (by omega) (Ev_t (by omega) (Ev_c (fun y2 => yes y1 (Or.inr y2)) (fun y2 => no (fun q => ?_))))) (fun z => yes y1 (Or.inl z))) (fun y1 => no (fun q => y1 q.1))
      rcases q.2 with q | q
      · exact q z
      · exact y2 q
    · have : k = NC := by omega
      subst this
      refine Ev_t (by omega) (Ev_c (fun z => Ev_c (fun y => Ev_t (by omega) (Ev_ret ⟨k1, l1, ?_⟩)) (fun y => Ev_ret ⟨k1, l1, ?_⟩)) (fun z => Ev_ret ⟨k1, l1, ?_⟩))
      · unfold clp; omega
      · unfold clp; omega
      · unfold clp; omega
  refine key 0 (by omega) K _ (fun _ _ _ => rfl) (fun a i q1 q2 q3 => ?_) (fun i i0 i1 => ?_)
  · rw [w2_n (by omega), w2_n (by omega), w2_n (by omega), w2_n (by omega), w2_n (by omega)]
  · have i5 : i = 0 ∨ i = 1 ∨ i = 2 ∨ i = 3 ∨ i = 4 := by omega
    rcases i5 with rfl | rfl | rfl | rfl | rfl <;> rfl
end ASK
