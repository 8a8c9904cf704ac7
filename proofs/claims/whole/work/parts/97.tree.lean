section
set_option maxRecDepth 100000 in
theorem ev_36_0 {dp : Nat} {e : EN} {I : JI} {L : JI} {i1 : Int} {i2 : Int} {i3 : Int} {a0 : Nat} {P_ : (JI × JI) → Prop} (h : Ev (fun n => (if (a0 < e.1) ∧ ((e.2.1 a0).1 = 13) then (if (e.2.1 a0).2 < 2147483648 then (kf_36 n dp e 1 I L i1 0 (((e.2.1 a0).2 : Nat) : Int) a0) else none) else none)) P_) : Ev (fun n => kf_36 n dp e 0 I L i1 i2 i3 a0) P_ := Ev_step (fun n => ke_36_0 n dp e I L i1 i2 i3 a0) h
set_option maxRecDepth 100000 in
theorem ev_36_1 {dp : Nat} {e : EN} {I : JI} {L : JI} {i1 : Int} {i2 : Int} {i3 : Int} {a0 : Nat} {P_ : (JI × JI) → Prop} (h : Ev (fun n => (if i3 ≤ i2 then (some (I, L)) else (if ((a0 < e.1) ∧ (((e.2.1 a0).1 = 13) ∧ ((e.2.1 a0).2 < (2 ^ 31)))) ∧ (0 ≤ i2 ∧ i2 < (((e.2.1 a0).2 : Nat) : Int)) then (stI (w2 I a0 i2 i1) (fun I_13 => (if -2147483648 ≤ i2 + 1 ∧ i2 + 1 ≤ 2147483647 then (kf_36 n dp e 1 I_13 L i1 (i2 + 1) i3 a0) else none))) else none))) P_) : Ev (fun n => kf_36 n dp e 1 I L i1 i2 i3 a0) P_ := Ev_step (fun n => ke_36_1 n dp e I L i1 i2 i3 a0) h
set_option maxRecDepth 100000 in
theorem ev_35_0 {dp : Nat} {e : EN} {I : JI} {L : JI} {a0 : Nat} {P_ : (JI × JI) → Prop} (h : Ev (fun n => (if (a0 < e.1) ∧ ((e.2.1 a0).1 = 10) then ((e.2.2 a0 7).bind (fun b_1 => (if 1 ≤ dp then ((kf_36 n (dp - 1) e 0 I L 0 0 0 b_1).bind (fun ⟨I0_5, L0_5⟩ => (if (a0 < e.1) ∧ ((e.2.1 a0).1 = 10) then (stI (w2 I0_5 a0 10 0) (fun I_10 => (if (a0 < e.1) ∧ ((e.2.1 a0).1 = 10) then (stI (w2 I_10 a0 11 0) (fun I_15 => (if (a0 < e.1) ∧ ((e.2.1 a0).1 = 10) then (stI (w2 I_15 a0 12 0) (fun I_20 => (some (I_20, L0_5)))) else none))) else none))) else none))) else none))) else none)) P_) : Ev (fun n => kf_35 n dp e 0 I L a0) P_ := Ev_step (fun n => ke_35_0 n dp e I L a0) h
set_option maxRecDepth 100000 in
theorem ev_212_1 {dp : Nat} {e : EN} {I : JI} {L : JI} {i1 : Int} {P_ : (Int × JI × JI) → Prop} (h : Ev (fun n => (if (I 105 13) = 0 then (if 1 ≤ dp then ((kf_226 n (dp - 1) e 0 I L 59).bind (fun ⟨x0_43, I0_43, L0_43⟩ => (if x0_43 = 0 then (kf_212 n dp e 2 I0_43 L0_43 0) else (if 1 ≤ dp then ((kf_214 n (dp - 1) e 0 I0_43 L0_43).bind (fun ⟨I1_50, L1_50⟩ => (if 1 ≤ dp then ((kf_217 n (dp - 1) e 0 I1_50 L1_50 0 0 0).bind (fun ⟨I2_54, L2_54⟩ => (kf_212 n dp e 1 I2_54 L2_54 0))) else none))) else none)))) else none) else (kf_212 n dp e 2 I L 0))) P_) : Ev (fun n => kf_212 n dp e 1 I L i1) P_ := Ev_step (fun n => ke_212_1 n dp e I L i1) h
set_option maxRecDepth 100000 in
theorem ev_212_2 {dp : Nat} {e : EN} {I : JI} {L : JI} {i1 : Int} {P_ : (Int × JI × JI) → Prop} (h : Ev (fun n => (if (I 105 13) = 0 then (if (I 105 10) = 0 then (kf_212 n dp e 3 I L 0) else (if 1 ≤ dp then ((kf_219 n (dp - 1) e 0 I L 0).bind (fun ⟨I0_76, L0_76⟩ => (kf_212 n dp e 3 I0_76 L0_76 0))) else none)) else (kf_212 n dp e 3 I L 0))) P_) : Ev (fun n => kf_212 n dp e 2 I L i1) P_ := Ev_step (fun n => ke_212_2 n dp e I L i1) h
set_option maxRecDepth 100000 in
theorem ev_33_1 {dp : Nat} {z : Nat} {kd : (Nat → Nat × Nat)} {I : JI} {L : JI} {R : (Nat → Nat → Option Nat)} {i1 : Int} {i3 : Int} {a2 : Nat} {P_ : ((Int × PSi) × Nat × Nat) → Prop} (h : Ev (fun n => (if 24 ≤ i3 then (some ((((I 104 4) : Int), z, kd, I, L, R), 0, 0)) else (if 1 ≤ dp then ((kf_40 n (dp - 1) (z, kd, R) 0 I L i3 0).bind (fun ⟨x_49, I_49, L_49⟩ => (if x_49 = 0 then (some ((((I_49 104 4) : Int), z, kd, I_49, L_49, R), 0, 0)) else ((R 104 1).bind (fun b_61 => (if (b_61 < z) ∧ ((kd b_61).1 = 10) then (if -2147483648 ≤ i3 + 1 ∧ i3 + 1 ≤ 2147483647 then (stI (w2 I_49 b_61 10 (i3 + 1)) (fun I_67 => (if (I_67 104 3) = 0 then (some ((((-1) : Int), z, kd, I_67, L_49, R), 0, 0)) else (if 1 ≤ dp then ((kf_59 n (dp - 1) (z, kd, R) 0 I_67 L_49 59).bind (fun ⟨x_82, I_82, L_82⟩ => (if x_82 = 0 then (some ((((I_82 104 4) : Int), z, kd, I_82, L_82, R), 0, 0)) else (if 1 ≤ dp then ((kf_37 n (dp - 1) (z, kd, R) 0 I_82 L_82 0).bind (fun ⟨I_94, L_94⟩ => (kf_33 n dp 1 z kd I_94 L_94 R i1 (i3 + 1) a2))) else none)))) else none)))) else none) else none)))))) else none))) P_) : Ev (fun n => kf_33 n dp 1 z kd I L R i1 i3 a2) P_ := Ev_step (fun n => ke_33_1 n dp z kd I L R i1 i3 a2) h
end
/-! PARSER 18: a tree is read alike -/
def fl (I : JI) (a0 : Nat) (N v : Int) : JI := fun c j => if c = a0 ∧ 0 ≤ j ∧ j < N then v else I c j
theorem fl_n {I : JI} {a0 : Nat} {N v : Int} {c : Nat} {j : Int} (h : ¬ (c = a0 ∧ 0 ≤ j ∧ j < N)) : fl I a0 N v c j = I c j := if_neg h
theorem fl_p {I : JI} {a0 : Nat} {N v : Int} {c : Nat} {j : Int} (h : c = a0 ∧ 0 ≤ j ∧ j < N) : fl I a0 N v c j = v := if_pos h
section TREE
variable {dp dm : Nat} {e : EN} {tr : Nat} {M : JI}
theorem K36 {I L : JI} {v x y : Int} {a0 N : Nat} (h : arO e a0 N) (hN : N ≤ 1000000) : Ev (fun n => kf_36 n dp e 0 I L v x y a0) (fun r => r = (fl I a0 N v, L)) := by
  obtain ⟨h1, h2, h3⟩ := h
  refine ev_36_0 ?_
  refine Ev_t ⟨h1, h2⟩ (Ev_t (by omega) ?_)
  rw [h3]
  have key : ∀ k : Nat, k ≤ N → Ev (fun n => kf_36 n dp e 1 (fl I a0 k v) L v k N a0) (fun r => r = (fl I a0 N v, L)) := by
    refine dec_ind N (fun k hk ih => ?_)
    refine ev_36_1 ?_
    by_cases c : k < N
    · have ih := ih c
      refine Ev_f (by omega) (Ev_t ⟨⟨h1, h2, by omega⟩, by omega⟩ (Ev_st (Ev_t (by omega) ?_)))
      have es : w2 (fl I a0 k v) a0 k v = fl I a0 (k + 1 : Nat) v := by
        funext b j
        rw [w2_ap]
        unfold fl
        by_cases c1 : b = a0 ∧ j = k
        · rw [if_pos c1, if_pos (by omega)]
        · rw [if_neg c1]
          by_cases c2 : b = a0 ∧ 0 ≤ j ∧ j < k
          · rw [if_pos c2, if_pos (by omega)]
          · rw [if_neg c2, if_neg (by omega)]
      rw [es]
      exact ih
    · have et : k = N := by omega
      subst et
      exact Ev_t (by omega) (Ev_ret rfl)
  have := key 0 (by omega)
  rw [show fl I a0 ((0 : Nat) : Int) v = I from funext fun b => funext fun j => if_neg (by omega)] at this
  exact this
theorem K35 {I L : JI} (hT : TrO e tr) (hd : 1 ≤ dp) : Ev (fun n => kf_35 n dp e 0 I L tr) (fun r => r = (w2 (w2 (w2 (fl I (tr + 8) 160 0) tr 10 0) tr 11 0) tr 12 0, L)) := by
  have t := hT.2.2.2.2.2.2.2.2.1
  refine ev_35_0 ?_
  exact Ev_t hT.1 (Ev_R t.1 (Ev_t hd (Ev_call (K36 t.2 (by decide)) (Ev_t hT.1 (Ev_st (Ev_t hT.1 (Ev_st (Ev_t hT.1 (Ev_st (Ev_ret rfl))))))))))
def FrT (tr : Nat) (J J' : JI) : Prop := ∀ a i, ¬ (a = 104 ∧ 2 ≤ i ∧ i ≤ 7) → ¬ (a = tr ∧ 10 ≤ i ∧ i ≤ 12) → ¬ (tr + 1 ≤ a ∧ a ≤ tr + 10) → J' a i = J a i
theorem FrT_t {tr : Nat} {J J1 J2 : JI} (h : FrT tr J J1) (g : FrT tr J1 J2) : FrT tr J J2 := fun a i x y z => (g a i x y z).trans (h a i x y z)
theorem FrT_A {tr : Nat} {J J1 : JI} (h : FrA tr J J1) : FrT tr J J1 := fun a i x y z => h a i (by omega) (by omega) z
theorem FrT_G {tr : Nat} {J J1 : JI} (h : GN J J1) : FrT tr J J1 := fun a i x y z => GN_o h a i (by omega)
theorem CX_10 {nc nw v : Int} {J K L : JI} (htr : tr = 9 ∨ tr = 93) (h : CX tr nc nw J K L) : CX tr nc nw (w2 J tr 10 v) K L := by
  obtain ⟨⟨p1, p2, p3, p4, p5, p6⟩, m2, m7, m8, m9⟩ := h
  have n : ∀ a i, ¬ (a = tr ∧ i = 10) → w2 J tr 10 v a i = J a i := fun a i h => w2_n h
  refine ⟨⟨TK_c p1 (fun i _ _ => n _ _ (by omega)) (fun i => n _ _ (by omega)) (fun _ _ _ => rfl) (fun _ => rfl) rfl, p2, by rw [n _ _ (by omega)]; exact p3, by rw [n _ _ (by omega)]; exact p4, by rw [n _ _ (by omega), n _ _ (by omega)]; exact p5, p6⟩, ⟨fun w a b => ?_, fun c a b => ?_⟩, m7, by rw [n _ _ (by omega)]; exact m8, fun i a b => by rw [n _ _ (by omega)]; exact m9 i a b⟩
  · exact WyO_c (nc := nc) (n _ _ (by omega)) (n _ _ (by omega)) (fun p _ _ => n _ _ (by omega)) (fun k _ _ => rfl) (fun i _ _ => rfl) (Int.le_refl _) (m2.1 w a b)
  · rw [n _ _ (by omega)]
    exact ClO_c (sN := J tr 12) (mN := K 105 16) ⟨n _ _ (by omega), n _ _ (by omega), n _ _ (by omega), n _ _ (by omega), n _ _ (by omega)⟩ (fun i _ => by unfold cC; rw [n _ _ (by omega), n _ _ (by omega)]) (fun k _ _ => rfl) (fun i _ _ => rfl) (fun w _ _ => n _ _ (by omega)) (Int.le_refl _) ⟨Int.le_refl _, Int.le_refl _⟩ (m2.2 c a b)
/-- the loop over the clauses -/
theorem lpTr {i1 : Int} {a2 : Nat} {dc z : Nat} {kd : KD} {R : RF} (htr : tr = 9 ∨ tr = 93) (hT : TrO (z, kd, R) tr) (h104 : R 104 1 = some tr) (hdm : 11 ≤ dm) (hdc : 47 ≤ dc) (m : Nat) : ∀ (nc nw : Int) (J K L : JI), J 104 2 - J 104 4 ≤ m → CX tr nc nw J K L → Ev (fun n => kf_33 n dc 1 z kd J M R i1 nc a2) (fun r => ∃ x J', r = ((x, z, kd, J', M, R), 0, 0) ∧ ∃ K' L', (∀ Q : Int × JI × JI → Prop, Ev (fun n => kf_212 n dm (z, kd, R) 3 K' L' 0) Q → Ev (fun n => (kf_217 n (dm - 1) (z, kd, R) 0 K L 0 0 0).bind (fun s => kf_212 n dm (z, kd, R) 1 s.1 s.2 0)) Q) ∧ FrT tr J J' ∧ FrB K L K' L' ∧ ((x = -1 ∧ ∃ nc nw, CX tr nc nw J' K' L' ∧ 1 ≤ nc ∧ J' tr 10 = nc) ∨ (x = J' 104 4 ∧ 0 ≤ x ∧ K' 105 13 = 1 ∧ K' 105 12 = x))) := by
  refine Nat.strongRecOn m (fun m ih nc nw J K L hm h => ?_)
  have h' := h
  obtain ⟨m1, m2, m7, m8, m9⟩ := h
  obtain ⟨p1, p2, p3, p4, p5, p6⟩ := m1
  have p1' := p1
  obtain ⟨t1, t2, t3, t4, t5, t6, t7, t8, t9, t10⟩ := p1
  have badend : ∀ (K1 L1 : JI), ¬ K1 105 13 = 0 → ∀ Q : Int × JI × JI → Prop, Ev (fun n => kf_212 n dm (z, kd, R) 3 K1 L1 0) Q → Ev (fun n => kf_212 n dm (z, kd, R) 1 K1 L1 0) Q := by
    intro K1 L1 hb Q q
    refine ev_212_1 ?_
    refine Ev_f hb ?_
    refine ev_212_2 ?_
    exact Ev_f hb q
  refine ev_33_1 ?_
  by_cases c24 : 24 ≤ nc
  · refine Ev_t c24 (Ev_ret ⟨J 104 4, J, rfl, badK K, L, fun Q q => ?_, fun _ _ _ _ _ => rfl, ⟨fun a i x y z => by unfold badK; rw [w2_n (by omega), w2_n (by omega)], fun _ _ _ => rfl⟩, Or.inr ⟨rfl, by omega, rfl, t3.1⟩⟩)
    have bad : ∀ hd : Int, Ev (fun n => kf_217 n (dm - 1) (z, kd, R) 1 K L hd 0 0) (fun s => s = (badK K, L)) := by
      intro hd
      refine ev_217_1 ?_
      refine Ev_t (by omega) (Ev_call (K219f p2 rfl) ?_)
      refine ev_217_2 ?_
      exact Ev_f (by show ¬ ((1 : Int) = 0); decide) (Ev_ret rfl)
    refine Ev_call (v := (badK K, L)) ?_ (badend _ _ (by show ¬ ((1 : Int) = 0); decide) Q q)
    refine ev_217_0 ?_
    refine Ev_t (by omega) (Ev218 (fun c1 => ?_) (fun c1 => ?_)) <;> dsimp only
    · refine Ev_f (by decide) (Ev_t p2 (Ev_f (by decide) (Ev_t (by omega) (bad _))))
    · refine Ev_t rfl (Ev_t (by omega) (Ev218 (fun c1 => ?_) (fun c1 => ?_))) <;> dsimp only
      · refine Ev_f (by decide) (Ev_t p2 (Ev_f (by decide) (Ev_t (by omega) (bad _))))
      · refine Ev_t rfl (Ev_t (by omega) (Ev218 (fun c1 => ?_) (fun c1 => ?_))) <;> dsimp only
        · refine Ev_f (by decide) (Ev_t p2 (Ev_f (by decide) (Ev_t (by omega) (bad _))))
        · refine Ev_t rfl (Ev_t p2 (Ev_t rfl (bad _)))
  · refine Ev_f c24 (Ev_t (by omega) (Ev_bind (rdCl (e := (z, kd, R)) (dm := dm - 1) htr hT h104 (by omega) (by omega) (by omega) h') ?_))
    rintro ⟨y, J1, M1⟩ ⟨hM1, K1, L1, v1, v2, v3, v4⟩
    dsimp only at hM1 v1 v2 v4 ⊢
    subst hM1
    rcases v4 with ⟨rfl, ⟨nw1, cx⟩, lt⟩ | ⟨rfl, f1, f2⟩
    · have cx1 := CX_10 (v := nc + 1) htr cx
      have cx1' := cx1
      obtain ⟨⟨q1, q2, q3, q4, q5, q6⟩, o2, o7, o8, o9⟩ := cx1
      have q1' := q1
      obtain ⟨u1, u2, u3, u4, u5, u6, u7, u8, u9, u10⟩ := q1
      have n : ∀ a i, ¬ (a = tr ∧ i = 10) → w2 J1 tr 10 (nc + 1) a i = J1 a i := fun a i h => w2_n h
      have e2 : J1 104 2 = J 104 2 := v2 _ _ (by omega) (by omega) (by omega)
      have fr1 : FrT tr J (w2 J1 tr 10 (nc + 1)) := FrT_t (FrT_A v2) (fun a i x y z => w2_n (by omega))
      refine Ev_f (by decide) (Ev_R h104 (Ev_t hT.1 (Ev_t (by omega) (Ev_st ?_))))
      by_cases c0 : (w2 J1 tr 10 (nc + 1)) 104 3 = 0
      · refine Ev_t c0 (Ev_ret ⟨-1, _, rfl, K1, L1, fun Q q => ?_, fr1, v3, Or.inl ⟨rfl, nc + 1, nw1, cx1', by omega, by rw [w2_ap, if_pos ⟨rfl, rfl⟩]⟩⟩)
        refine Ev_call v1 ?_
        dsimp only
        refine ev_212_1 ?_
        refine Ev_t q2 (Ev_t (by omega) (Ev226f (by omega) ?_))
        dsimp only
        refine Ev_t rfl ?_
        refine ev_212_2 ?_
        exact Ev_t q2 (Ev_t (by omega) q)
      · refine Ev_f c0 (Ev_t (by omega) ?_)
        have lt7 := u7 c0
        refine Ev59 ⟨by omega, fun c => by omega⟩ (fun ch => ?_) (fun ch => ?_) <;> dsimp only
        · refine Ev_f (by decide) (Ev_t (by omega) (Ev_bind (K37 (by omega) (by omega)) ?_))
          rintro ⟨J2, M2⟩ ⟨hM2, gn⟩
          dsimp only at hM2 gn ⊢
          subst hM2
          obtain ⟨s, s1, s2⟩ := Ev_ex (K214 (dp := dm - 1) (e := (z, kd, R)) (K := K1) (L := L1) (by omega) (by omega))
          have so := (NX_o s1).1
          have go := GN_o gn
          have tk2 := TK_go q1' ⟨rfl, rfl, fun _ => rfl⟩ ⟨rfl, rfl, fun _ => rfl⟩ gn s1
          have css : cs s.1 = cs K1 := cs_e so
          have cx2 : CX tr (nc + 1) nw1 J2 s.1 s.2 := by
            refine ⟨⟨tk2.1, by rw [so _ _ (by omega)]; exact q2, by rw [so _ _ (by omega), go _ _ (by omega)]; exact q3, by rw [so _ _ (by omega)]; omega, by rw [go _ _ (by omega)]; omega, fun i hi => by rw [(NX_o s1).2 _ _ (by omega)]; exact q6 i hi⟩, ⟨fun w a b => ?_, fun c a b => ?_⟩, by rw [so _ _ (by omega)]; exact o7, by rw [so _ _ (by omega), go _ _ (by omega)]; exact o8, fun i a b => by rw [go _ _ (by omega)]; exact o9 i a b⟩
            · exact WyO_c (nc := nc + 1) (go _ _ (by omega)) (go _ _ (by omega)) (fun p _ _ => go _ _ (by omega)) (fun k _ _ => so _ _ (by omega)) (fun i _ _ => so _ _ (by omega)) (Int.le_refl _) (o2.1 w a b)
            · refine ClO_c (sN := (w2 J1 tr 10 (nc + 1)) tr 12) (mN := K1 105 16) ⟨go _ _ (by omega), go _ _ (by omega), go _ _ (by omega), go _ _ (by omega), go _ _ (by omega)⟩ (fun i _ => by unfold cC; rw [go _ _ (by omega), go _ _ (by omega)]) (fun k _ _ => so _ _ (by omega)) (fun i _ _ => by rw [css]) (fun w _ _ => go _ _ (by omega)) (Int.le_refl _) ⟨?_, ?_⟩ (o2.2 c a b)
              · rw [go tr 12 (by omega)]; exact Int.le_refl _
              · rw [so 105 16 (by omega)]; exact Int.le_refl _
          have n2 : J2 104 2 = J 104 2 := by rw [go _ _ (by omega), n _ _ (by omega)]; exact e2
          have n4 : (w2 J1 tr 10 (nc + 1)) 104 4 = J1 104 4 := n _ _ (by omega)
          have n5 : (w2 J1 tr 10 (nc + 1)) 104 2 = J1 104 2 := n _ _ (by omega)
          have n6 := tk2.2
          refine Ev_mono (ih (m - 1) (by omega) (nc + 1) nw1 J2 s.1 s.2 (by omega) cx2) ?_
          rintro r ⟨x, J3, w1, K3, L3, w2', w3, w4, w5⟩
          refine ⟨x, J3, w1, K3, L3, fun Q q => ?_, FrT_t (FrT_t fr1 (FrT_G gn)) w3, FrB_t (FrB_t v3 (FrB_N s1)) w4, w5⟩
          have w2' := w2' Q q
          refine Ev_call v1 ?_
          dsimp only
          refine ev_212_1 ?_
          refine Ev_t q2 (Ev_t (by omega) (Ev226t ((TK_s q1' 59).mp ch) ?_))
          dsimp only
          exact Ev_f (by decide) (Ev_t (by omega) (Ev_call s2 (Ev_t (by omega) w2')))
        · refine Ev_t rfl (Ev_ret ⟨_, _, rfl, badK K1, L1, fun Q q => ?_, fr1, FrB_t v3 ⟨fun a i x y z => by unfold badK; rw [w2_n (by omega), w2_n (by omega)], fun _ _ _ => rfl⟩, Or.inr ⟨rfl, by omega, rfl, u3.1⟩⟩)
          refine Ev_call v1 ?_
          dsimp only
          refine ev_212_1 ?_
          refine Ev_t q2 (Ev_t (by omega) (Ev226f (fun z => ch ((TK_s q1' 59).mpr z)) ?_))
          dsimp only
          refine Ev_t rfl ?_
          refine ev_212_2 ?_
          exact Ev_t q2 (Ev_f (by omega) (Ev_t (by omega) (Ev_call (K219f q2 rfl) q)))
    · refine Ev_t rfl (Ev_ret ⟨_, _, rfl, K1, L1, fun Q q => Ev_call v1 (badend K1 L1 (by omega) Q q), FrT_A v2, v3, Or.inr ⟨rfl, ?_, f1, f2.1⟩⟩)
      omega
end TREE
