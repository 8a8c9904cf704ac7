section
set_option maxRecDepth 100000 in
theorem ev_33_0 {dp : Nat} {z : Nat} {kd : (Nat → Nat × Nat)} {I : JI} {L : JI} {R : (Nat → Nat → Option Nat)} {i1 : Int} {i3 : Int} {a2 : Nat} {P_ : ((Int × PSi) × Nat × Nat) → Prop} (h : Ev (fun n => (if 1 ≤ dp then (stI (w2 I 104 2 (min 400 i1)) (fun I_10 => (stI (u2 R 104 1 (some a2)) (fun R_15 => ((R_15 104 1).bind (fun b_19 => (if 1 ≤ dp then (if (b_19 < z) ∧ ((kd b_19).1 = 10) then ((kf_35 n (dp - 1) (z, kd, R_15) 0 I_10 L b_19).bind (fun ⟨I_22, L_22⟩ => (stI (w2 I_22 104 5 0) (fun I_27 => (stI (w2 I_27 104 7 0) (fun I_32 => (if 1 ≤ dp then ((kf_37 n (dp - 1) (z, kd, R_15) 0 I_32 L_22 0).bind (fun ⟨I_36, L_36⟩ => (kf_33 n dp 1 z kd I_36 L_36 R_15 i1 0 a2))) else none))))))) else none) else none))))))) else none)) P_) : Ev (fun n => kf_33 n dp 0 z kd I L R i1 i3 a2) P_ := Ev_step (fun n => ke_33_0 n dp z kd I L R i1 i3 a2) h
set_option maxRecDepth 100000 in
theorem ev_212_0 {dp : Nat} {e : EN} {I : JI} {L : JI} {i1 : Int} {P_ : (Int × JI × JI) → Prop} (h : Ev (fun n => (stI (w2 I 105 0 0) (fun I_2 => (if 1 ≤ dp then ((kf_213 n (dp - 1) e 0 I_2 L).bind (fun ⟨I0_6, L0_6⟩ => (stI (w2 I0_6 105 14 0) (fun I_11 => (stI (w2 I_11 105 16 0) (fun I_16 => (stI (w2 I_16 105 19 0) (fun I_21 => (stI (w2 I_21 105 26 0) (fun I_26 => (if 1 ≤ dp then ((kf_217 n (dp - 1) e 0 I_26 L0_6 0 0 0).bind (fun ⟨I1_30, L1_30⟩ => (kf_212 n dp e 1 I1_30 L1_30 0))) else none))))))))))) else none)))) P_) : Ev (fun n => kf_212 n dp e 0 I L i1) P_ := Ev_step (fun n => ke_212_0 n dp e I L i1) h
set_option maxRecDepth 100000 in
theorem ev_213_0 {dp : Nat} {e : EN} {I : JI} {L : JI} {P_ : (JI × JI) → Prop} (h : Ev (fun n => (stI (w2 I 105 9 0) (fun I_2 => (stI (w2 I_2 105 13 0) (fun I_7 => (stI (w2 I_7 105 12 (-1)) (fun I_12 => (if 1 ≤ dp then ((kf_214 n (dp - 1) e 0 I_12 L).bind (fun ⟨I0_16, L0_16⟩ => (some (I0_16, L0_16)))) else none)))))))) P_) : Ev (fun n => kf_213 n dp e 0 I L) P_ := Ev_step (fun n => ke_213_0 n dp e I L) h
set_option maxRecDepth 100000 in
theorem ev_32_0 {dp : Nat} {z : Nat} {kd : (Nat → Nat × Nat)} {I : JI} {L : JI} {R : (Nat → Nat → Option Nat)} {P_ : ((Int × PSi) × Nat × Nat) → Prop} (h : Ev (fun n => ((R 0 11).bind (fun b_1 => (if 1 ≤ dp then ((kf_33 n (dp - 1) 0 z kd I L R (I 0 13) 0 b_1).bind (fun ⟨⟨x_15, z_15, kd_15, I_15, L_15, R_15⟩, ck_15, cm_15⟩ => (adk ck_15 cm_15 (stI (w2 I_15 0 15 x_15) (fun I_18 => (stI (w2 I_18 0 13 0) (fun I_23 => (if (I_23 0 15) = (-1) then (if -2147483648 ≤ (I_23 0 14) + 1 ∧ (I_23 0 14) + 1 ≤ 2147483647 then (stI (w2 I_23 0 14 ((I_23 0 14) + 1)) (fun I_48 => (if (b_1 < z_15) ∧ ((kd_15 b_1).1 = 10) then (stI (w2 I_48 b_1 13 (I_48 0 14)) (fun I_56 => ((R_15 1 7).bind (fun b_64 => (stI (u2 R_15 0 11 (some b_64)) (fun R_67 => (stI (u2 R_67 1 7 (some b_1)) (fun R_75 => (if 1 ≤ dp then ((kf_21 n (dp - 1) (z_15, kd_15, R_75) 0 I_56 L_15).bind (fun ⟨I_79, L_79⟩ => (if (b_1 < z_15) ∧ ((kd_15 b_1).1 = 10) then (if 1 ≤ dp then ((kf_19 n (dp - 1) (z_15, kd_15, R_75) 0 I_79 L_79 (I_79 b_1 10)).bind (fun ⟨x_87, I_87, L_87⟩ => (some (((x_87 : Int), z_15, kd_15, I_87, L_87, R_75), 0, 0)))) else none) else none))) else none))))))))) else none))) else none) else (if 1 ≤ dp then ((kf_15 n (dp - 1) (z_15, kd_15, R_15) 0 I_23 L_15 (-6)).bind (fun ⟨x_37, I_37, L_37⟩ => (some (((x_37 : Int), z_15, kd_15, I_37, L_37, R_15), 0, 0)))) else none))))))))) else none)))) P_) : Ev (fun n => kf_32 n dp 0 z kd I L R) P_ := Ev_step (fun n => ke_32_0 n dp z kd I L R) h
end
/-! TREE: the call -/
def mTr (a : Nat) (i : Int) : Prop := (a = 105 ∧ (i = 0 ∨ i = 1 ∨ (7 ≤ i ∧ i ≤ 14) ∨ i = 16 ∨ i = 19 ∨ i = 22 ∨ i = 23 ∨ i = 26 ∨ i = 32 ∨ i = 51)) ∨ (111 ≤ a ∧ a ≤ 115) ∨ a = 117
def cTr (sp a : Nat) (i : Int) : Prop := (a = 0 ∧ (13 ≤ i ∧ i ≤ 18)) ∨ a = 104 ∨ (sp ≤ a ∧ a ≤ sp + 10)
/-- the reading in class and reference; what the reference then finishes with is left open -/
theorem rd_tree {dp dm z : Nat} {kd : KD} {R : RF} {J M : JI} {sp : Nat} (hd : 60 ≤ dp) (hdm : 60 ≤ dm) (hsp : sp = 9 ∨ sp = 93) (hSh : Sh z kd R) (h13 : 0 ≤ J 0 13 ∧ J 0 13 ≤ 400) (h0 : J 105 0 = 0) (h7 : J 105 7 = J 0 13) (ht : ∀ i, 0 ≤ i → i < 400 → J 89 i = J 110 i) (hM : ∀ i : Nat, i < 5 → M 116 i = cws.getD (4 + i) 0) :
    Ev (fun n => kf_33 n dp 0 z kd J M R (J 0 13) 0 sp) (fun r => ∃ x J', r = ((x, z, kd, J', M, u2 R 104 1 (some sp)), 0, 0) ∧ FrT sp J J' ∧ ∀ (X : JI) (e' : EN), (∀ a i, 105 ≤ a → a ≤ 143 → X a i = J a i) → ∃ K' L', (∀ Q : Int × JI × JI → Prop, Ev (fun n => kf_212 n dm e' 3 K' L' 0) Q → Ev (fun n => kf_212 n dm e' 0 X M 0) (fun q => Q q ∧ FI q.2.1)) ∧ FrB X M K' L' ∧ ((x = -1 ∧ ∃ nc nw, CX sp nc nw J' K' L' ∧ 1 ≤ nc ∧ J' sp 10 = nc) ∨ (x = J' 104 4 ∧ 0 ≤ x ∧ K' 105 13 = 1 ∧ K' 105 12 = x))) := by
  have hSh' : Sh z kd (u2 R 104 1 (some sp)) := Sh_u2 hSh (by decide)
  have hT : TrO (z, kd, u2 R 104 1 (some sp)) sp := TrO_sh hSh' hsp
  have h104 : (u2 R 104 1 (some sp)) 104 1 = some sp := by rw [u2_ite, if_pos ⟨rfl, rfl⟩]
  refine ev_33_0 ?_
  have e2 : min 400 (J 0 13) = J 0 13 := by omega
  rw [e2]
  refine Ev_t (by omega) (Ev_st (Ev_st (Ev_R h104 (Ev_t (by omega) (Ev_t hT.1 (Ev_call (K35 hT (by omega)) (Ev_st (Ev_st (Ev_t (by omega) ?_)))))))))
  dsimp only
  refine Ev_bind (K37 (J := jt4 sp J) (by omega) ?_) ?_
  · have j2 : jt4 sp J 104 2 = J 0 13 := by
      unfold jt4
      rw [w2_n (by omega), w2_n (by omega), w2_n (by omega), w2_n (by omega), w2_n (by omega), fl_n (by omega), w2_ap, if_pos ⟨rfl, rfl⟩]
    have j5 : jt4 sp J 104 5 = 0 := by unfold jt4; rw [w2_n (by omega), w2_ap, if_pos ⟨rfl, rfl⟩]
    rw [j2, j5]; omega
  · rintro ⟨J5, M5⟩ ⟨hM5, gn⟩
    dsimp only at hM5 gn ⊢
    subst hM5
    have k9 : ∀ X : JI, kt1 X 105 9 = 0 := fun X => by unfold kt1; rw [w2_n (by omega), w2_n (by omega), w2_ap, if_pos ⟨rfl, rfl⟩]
    have nx : ∀ X : JI, X 105 7 = J 0 13 → ∃ s : JI × JI, NX (kt1 X) M5 s.1 s.2 ∧ ∀ e' : EN, Ev (fun n => kf_214 n (dm - 1 - 1) e' 0 (kt1 X) M5) (fun q => q = s) := by
      intro X x7
      obtain ⟨s, s1, s2⟩ := Ev_ex (K214 (dp := dm - 1 - 1) (e := (z, kd, R)) (K := kt1 X) (L := M5) (by omega) (by rw [k9, kt1_n (by omega)]; omega))
      refine ⟨s, s1, fun e' => ?_⟩
      have : (fun n => kf_214 n (dm - 1 - 1) e' 0 (kt1 X) M5) = (fun n => kf_214 n (dm - 1 - 1) (z, kd, R) 0 (kt1 X) M5) := funext fun n => ei_214 e' (z, kd, R) n _ _ _ _
      rw [this]
      exact s2
    obtain ⟨s0, s01, _⟩ := nx J h7
    have t104 : ∀ K L, CX sp 0 0 J5 K L → J5 104 2 - J5 104 4 ≤ (400 : Nat) := fun K L c => by
      have := c.1.1.1
      have := c.1.1.2.2.2.1
      omega
    refine Ev_mono (Ev_all (ι := { p : JI × JI // CX sp 0 0 J5 p.1 p.2 }) ⟨(kt3 s0.1, s0.2), cx0 hsp h13 h7 ht hM gn s01⟩ (fun i => lpTr (i1 := J 0 13) (a2 := sp) (dm := dm) (dc := dp) hsp hT h104 (by omega) (by omega) 400 0 0 J5 i.1.1 i.1.2 (t104 _ _ i.2) i.2)) ?_
    intro r hr
    obtain ⟨x, J', w1, _⟩ := hr ⟨(kt3 s0.1, s0.2), cx0 hsp h13 h7 ht hM gn s01⟩
    have fJ : FrT sp J J5 := fun a i c1 c2 c3 => by
      rw [GN_o gn a i (by omega)]
      exact jt4_n (by omega) (by omega) (by omega)
    refine ⟨x, J', w1, ?_, fun X e' hX => ?_⟩
    · obtain ⟨x2, J2, y1, K2, L2, y2, y3, y4, y5⟩ := hr ⟨(kt3 s0.1, s0.2), cx0 hsp h13 h7 ht hM gn s01⟩
      have ej : J2 = J' := by rw [w1] at y1; cases y1; rfl
      rw [← ej]
      exact FrT_t fJ y3
    · have x7 : X 105 7 = J 0 13 := (hX 105 7 (by omega) (by omega)).trans h7
      obtain ⟨s, s1, s2⟩ := nx X x7
      have cx := cx0 (X := X) hsp h13 x7 (fun i a b => (ht i a b).trans (hX 110 i (by omega) (by omega)).symm) hM gn s1
      obtain ⟨x2, J2, y1, K2, L2, y2, y3, y4, y5⟩ := hr ⟨(kt3 s.1, s.2), cx⟩
      dsimp only at y2 y4
      have ex : x2 = x := by rw [w1] at y1; cases y1; rfl
      have ej : J2 = J' := by rw [w1] at y1; cases y1; rfl
      subst ex
      subst ej
      refine ⟨K2, L2, fun Q q => ?_, ?_, y5⟩
      · have q' : Ev (fun n => kf_212 n dm (z, kd, u2 R 104 1 (some sp)) 3 K2 L2 0) Q := by
          have : (fun n => kf_212 n dm (z, kd, u2 R 104 1 (some sp)) 3 K2 L2 0) = (fun n => kf_212 n dm e' 3 K2 L2 0) := funext fun n => ei_212 _ e' n _ _ _ _ _
          rw [this]
          exact q
        have y2 := y2 Q q'
        have fe : (fun n => (kf_217 n (dm - 1) (z, kd, u2 R 104 1 (some sp)) 0 (kt3 s.1) s.2 0 0 0).bind (fun u => kf_212 n dm (z, kd, u2 R 104 1 (some sp)) 1 u.1 u.2 0)) = (fun n => (kf_217 n (dm - 1) e' 0 (kt3 s.1) s.2 0 0 0).bind (fun u => kf_212 n dm e' 1 u.1 u.2 0)) := by
          funext n
          rw [ei_217 _ e' n]
          congr 1
          funext u
          exact ei_212 _ e' n _ _ _ _ _
        rw [fe] at y2
        have so := (NX_o s1).1
        have fk : FI (kt3 s.1) := fun _ => by
          rw [kt3_n (by omega), so _ _ (by omega)]
          rfl
        have y6 := Ev_pcx (Q := fun q => FI q.2.1) y2 (fun n r hr => F3_b2 (fi_217 e' n _ _ _ _ _ _ _ fk) (fun I L h => fi_212 e' n _ _ _ _ _ h) r hr)
        refine ev_212_0 ?_
        refine Ev_th ((hX 105 0 (by omega) (by omega)).trans h0) (Ev_t (by omega) (Ev_call (v := s) ?_ ?_))
        · refine ev_213_0 ?_
          exact Ev_st (Ev_st (Ev_st (Ev_t (by omega) (Ev_call (s2 e') (Ev_ret rfl)))))
        · exact Ev_st (Ev_st (Ev_st (Ev_st (Ev_t (by omega) y6))))
      · refine FrB_t (K1 := kt3 s.1) (L1 := s.2) ⟨fun a i c1 c2 c3 => ?_, (NX_o s1).2⟩ y4
        rw [kt3_n (by omega), (NX_o s1).1 a i (by omega), kt1_n (by omega)]
/-- what a call of tree() leaves -/
def TreeP (t tr : Nat) (z : Nat) (kd : KD) (R : RF) (J M : JI) (R1 : RF) (J' M' : JI) (x : Int) : Prop :=
  (∀ a i, ¬ (a = 105 ∧ i = 11) → M' a i = M a i) ∧ (∀ a i, ¬ mTr a i → ¬ cTr (102 - tr) a i → ¬ (a = 107 ∧ (i = 8 ∨ i = 9 ∨ 290 ≤ i)) → ¬ (a = 92 ∧ i = 4) → ¬ (a = 106 ∧ i = 6) → ¬ (a = 24 ∧ i = 13) → ¬ (a = 73 ∧ (i = 15 ∨ i = 16)) → J' a i = J a i) ∧
  ((x = -6 ∧ R1 = u2 R 104 1 (some (102 - tr)) ∧ InvB (t + 1) tr z kd R1 J' ∧ (∀ i, J' 107 i = J 107 i) ∧ J' 24 13 = J 24 13 ∧ J' 73 15 = J 73 15 ∧ J' 73 16 = J 73 16 ∧ J' 0 14 = J 0 14 ∧ J' 105 32 = J 105 32 ∧ J' 105 51 = J 105 51) ∨
  (1 ≤ x ∧ R1 = u2 (u2 (u2 R 104 1 (some (102 - tr))) 0 11 (some tr)) 1 7 (some (102 - tr)) ∧ InvB (t + 1) (102 - tr) z kd R1 J' ∧ TrT J' (102 - tr) (J' 107) ∧ J' 24 13 = 1 ∧ J' 73 15 = 1 ∧ J' 73 16 = 1 ∧ J' 0 14 = J 0 14 + 1 ∧ J' (102 - tr) 13 = J 0 14 + 1 ∧ J' 105 32 = 0 ∧ J' 105 51 = 0 ∧ ∀ c, 0 ≤ c → c < J' 107 8 → J' (102 - tr + 5) c ≤ J' (102 - tr) 12))
theorem iv_tree {dp t tr z : Nat} {kd : KD} {R : RF} {J M : JI} (hd : 62 ≤ dp) (ht : t < 512) (hI : InvB t tr z kd R J) (h14 : 0 ≤ J 0 14 ∧ J 0 14 ≤ 1000000) (hM : ∀ i : Nat, i < 5 → M 116 i = cws.getD (4 + i) 0) : Ev (fun n => kf_32 n dp 0 z kd J M R) (fun r => ∃ x J1 R1, r = ((x, z, kd, J1, M, R1), 0, 0) ∧ Ev (fun n => kf_212 n dp (z, kd, R1) 0 J1 M 0) (fun q => q.1 = x ∧ TreeP t tr z kd R J M R1 q.2.1 q.2.2 x)) := by
  have hI' := hI
  obtain ⟨q1, q2, q3, q4, q5, q6, q7, q8, q9⟩ := hI
  obtain ⟨s1, s2, s3, s4, s5, s6, s7, s8, s9, s10, s11, s12, s13, s14, s15, s16⟩ := q7
  have hsp : 102 - tr = 9 ∨ 102 - tr = 93 := by omega
  have r17 : R 1 7 = some tr := q3.2.2.2.2.2.2.2.2
  have n11 : (u2 R 104 1 (some (102 - tr))) 0 11 = some (102 - tr) := by rw [u2_ite, if_neg (by omega)]; exact q4
  refine ev_32_0 ?_
  refine Ev_R q4 (Ev_t (by omega) (Ev_bind (rd_tree (dm := dp) (sp := 102 - tr) (J := J) (by omega) (by omega) hsp q2 (by omega) s1 (by omega) (fun i a b => (s14 i a b).1) hM) ?_))
  rintro r ⟨x, J', w1, w2', w3⟩
  subst w1
  dsimp only
  refine Ev_adk ?_
  have sh1 : Sh z kd (u2 R 104 1 (some (102 - tr))) := Sh_u2 q2 (by decide)
  have hT := TrO_sh sh1 hsp
  have j0 : ∀ i, J' 0 i = J 0 i := fun i => w2' 0 i (by omega) (by omega) (by omega)
  refine Ev_st (Ev_st ?_)
  have ej : ∀ a i, ¬ (a = 0 ∧ (i = 13 ∨ i = 15)) → w2 (w2 J' 0 15 x) 0 13 0 a i = J' a i := fun a i h => by rw [w2_n (by omega), w2_n (by omega)]
  have ej15 : w2 (w2 J' 0 15 x) 0 13 0 0 15 = x := by rw [w2_n (by omega), w2_ap, if_pos ⟨rfl, rfl⟩]
  have ej13 : w2 (w2 J' 0 15 x) 0 13 0 0 13 = 0 := by rw [w2_ap, if_pos ⟨rfl, rfl⟩]
  have lo : ∀ a i, 105 ≤ a → J' a i = J a i := fun a i h => w2' a i (by omega) (by omega) (by omega)
  obtain ⟨_, _, _, _, dis⟩ := w3 J (z, kd, R) (fun _ _ _ _ => rfl)
  by_cases cx1 : x = -1
  · subst cx1
    clear dis
    have e14 : w2 (w2 J' 0 15 (-1)) 0 13 0 0 14 = J 0 14 := by rw [ej _ _ (by omega)]; exact j0 14
    have r3 : (u2 R 104 1 (some (102 - tr))) 1 7 = some tr := by rw [u2_ite, if_neg (by omega)]; exact r17
    refine Ev_t ej15 (Ev_t (by rw [e14]; omega) (Ev_st (Ev_t hT.1 (Ev_st (Ev_R r3 (Ev_st (Ev_st (Ev_t (by omega) (Ev_call (K21 (by omega)) (Ev_t hT.1 (Ev_t (by omega) (Ev_call K19 (Ev_ret ?_)))))))))))))
    have n14 : ∀ X : JI, ∀ v, (w2 X 0 14 v) 0 14 = v := fun X v => by rw [w2_ap, if_pos ⟨rfl, rfl⟩]
    rw [e14, n14]
    refine ⟨_, _, _, rfl, ?_⟩
    dsimp only
    have ean : w2 (w2 (w2 (w2 (w2 (w2 (w2 J' 0 15 (-1)) 0 13 0) 0 14 (J 0 14 + 1)) (102 - tr) 13 (J 0 14 + 1)) 24 13 1) 73 15 1) 73 16 1 (102 - tr) 10 = J' (102 - tr) 10 := by
      rw [w2_n (by omega), w2_n (by omega), w2_n (by omega), w2_n (by omega), w2_n (by omega), w2_n (by omega), w2_n (by omega)]
    rw [ean]
    generalize hJf : w2 (w2 (w2 (w2 (w2 (w2 (w2 (w2 J' 0 15 (-1)) 0 13 0) 0 14 (J 0 14 + 1)) (102 - tr) 13 (J 0 14 + 1)) 24 13 1) 73 15 1) 73 16 1) 0 18 0 = Jf
    have fA : ∀ a i, ¬ (a = 0 ∧ (i = 13 ∨ i = 14 ∨ i = 15 ∨ i = 18)) → ¬ (a = 102 - tr ∧ i = 13) → ¬ (a = 24 ∧ i = 13) → ¬ (a = 73 ∧ (i = 15 ∨ i = 16)) → Jf a i = J' a i := fun a i h1 h2 h3 h4 => by
      subst hJf
      rw [w2_n (by omega), w2_n (by omega), w2_n (by omega), w2_n (by omega), w2_n (by omega), w2_n (by omega), w2_n (by omega), w2_n (by omega)]
    have f18 : Jf 0 18 = 0 := by subst hJf; rw [w2_ap, if_pos ⟨rfl, rfl⟩]
    have f15 : Jf 0 15 = -1 := by
      subst hJf
      rw [w2_n (by omega), w2_n (by omega), w2_n (by omega), w2_n (by omega), w2_n (by omega), w2_n (by omega)]; exact ej15
    have f13 : Jf 0 13 = 0 := by
      subst hJf
      rw [w2_n (by omega), w2_n (by omega), w2_n (by omega), w2_n (by omega), w2_n (by omega), w2_n (by omega)]; exact ej13
    have f14 : Jf 0 14 = J 0 14 + 1 := by
      subst hJf
      rw [w2_n (by omega), w2_n (by omega), w2_n (by omega), w2_n (by omega), w2_n (by omega), n14]
    have fs13 : Jf (102 - tr) 13 = J 0 14 + 1 := by
      subst hJf
      rw [w2_n (by omega), w2_n (by omega), w2_n (by omega), w2_n (by omega), w2_ap, if_pos ⟨rfl, rfl⟩]
    have f24 : Jf 24 13 = 1 := by
      subst hJf
      rw [w2_n (by omega), w2_n (by omega), w2_n (by omega), w2_ap, if_pos ⟨rfl, rfl⟩]
    have f7315 : Jf 73 15 = 1 := by
      subst hJf
      rw [w2_n (by omega), w2_n (by omega), w2_ap, if_pos ⟨rfl, rfl⟩]
    have f7316 : Jf 73 16 = 1 := by
      subst hJf
      rw [w2_n (by omega), w2_ap, if_pos ⟨rfl, rfl⟩]
    clear hJf
    have fJ : ∀ a i, ¬ cTr (102 - tr) a i → ¬ (a = 24 ∧ i = 13) → ¬ (a = 73 ∧ (i = 15 ∨ i = 16)) → Jf a i = J a i := fun a i h1 h2 h3 => by
      unfold cTr at h1
      rw [fA a i (by omega) (by omega) h2 h3]
      exact w2' a i (by omega) (by omega) (by omega)
    obtain ⟨K', L', y1, y2, y3⟩ := w3 Jf (z, kd, u2 (u2 (u2 R 104 1 (some (102 - tr))) 0 11 (some tr)) 1 7 (some (102 - tr))) (fun a i h1 h2 => by
      rw [fA a i (by omega) (by omega) (by omega) (by omega)]; exact lo a i h1)
    rcases y3 with ⟨_, nc, nw, cx, hnc, hj10⟩ | ⟨_, y3, _⟩
    · have cx' := cx
      obtain ⟨⟨p1, p2, p3, p4, p5, p6⟩, m2, m7, m8, m9⟩ := cx
      have t4 := p1.2.2.2.1
      have t1 := p1.1
      refine Ev_mono (y1 _ (K212e (by omega) p2 m7.1 ⟨hnc, m7.2.2⟩ m8.1 m8.2.2 (by omega))) ?_
      rintro q ⟨hq, hfi⟩
      subst hq
      dsimp only at hfi ⊢
      generalize hJz : okM (rwT K' nc nw (K' 105 16)) = Jz at hfi ⊢
      have zo : ∀ a i, ¬ a = 107 → ¬ (a = 105 ∧ (i = 7 ∨ i = 1 ∨ i = 32 ∨ i = 51)) → Jz a i = K' a i := fun a i h1 h2 => by
        subst hJz
        unfold okM
        rw [w2_n (by omega), w2_n (by omega), w2_n (by omega), rwT_o h1 (by omega)]
      have z7 : ∀ i, Jz 107 i = rwT K' nc nw (K' 105 16) 107 i := fun i => by
        subst hJz
        unfold okM
        rw [w2_n (by omega), w2_n (by omega), w2_n (by omega)]
      have z1 : Jz 105 1 = 0 ∧ Jz 105 32 = 0 ∧ Jz 105 51 = 0 ∧ Jz 105 7 = 0 := by
        subst hJz
        unfold okM
        refine ⟨by rw [w2_n (by omega), w2_n (by omega), w2_ap, if_pos ⟨rfl, rfl⟩], by rw [w2_n (by omega), w2_ap, if_pos ⟨rfl, rfl⟩], by rw [w2_ap, if_pos ⟨rfl, rfl⟩], ?_⟩
        rw [w2_n (by omega), w2_n (by omega), w2_n (by omega)]
        unfold rwT ilv
        rw [if_neg (by omega)]
        unfold cp2
        rw [if_neg (by omega), w2_n (by omega), if_neg (by omega), w2_n (by omega), w2_n (by omega), w2_ap, if_pos ⟨rfl, rfl⟩]
      clear hJz
      have zA : ∀ a i, ¬ mTr a i → ¬ a = 107 → Jz a i = Jf a i := fun a i h1 h2 => by
        unfold mTr at h1
        rw [zo a i h2 (by omega)]
        exact y2.1 a i (by omega) (by omega) (by omega)
      have zl : ∀ i, i < 290 → ¬ i = 8 → ¬ i = 9 → Jz 107 i = J 107 i := fun i h1 h2 h3 => by
        rw [z7, rwT_l m8.2.2.2 m7.2.2 h1 h2 h3, y2.1 107 i (by omega) (by omega) (by omega)]
        exact fJ 107 i (by unfold cTr; omega) (by omega) (by omega)
      have z8 : Jz 107 8 = nc := by rw [z7, rwT_8]
      have z9 : Jz 107 9 = nw := by rw [z7, rwT_9]
      have zt : ∀ a i, (102 - tr) + 1 ≤ a → a ≤ (102 - tr) + 10 → Jz a i = J' a i := fun a i h1 h2 => by
        rw [zA a i (by unfold mTr; omega) (by omega)]
        exact fA a i (by omega) (by omega) (by omega) (by omega)
      have zt0 : ∀ i, ¬ i = 13 → Jz (102 - tr) i = J' (102 - tr) i := fun i h => by
        rw [zA _ i (by unfold mTr; omega) (by omega)]
        exact fA _ i (by omega) (by omega) (by omega) (by omega)
      have zJ : ∀ a i, ¬ mTr a i → ¬ a = 107 → ¬ cTr (102 - tr) a i → ¬ (a = 24 ∧ i = 13) → ¬ (a = 73 ∧ (i = 15 ∨ i = 16)) → Jz a i = J a i := fun a i h1 h2 h3 h4 h5 => by
        rw [zA a i h1 h2]; exact fJ a i h3 h4 h5
      have zj : ∀ a i, ¬ a = 105 → ¬ (111 ≤ a ∧ a ≤ 115) → ¬ a = 117 → ¬ a = 107 → ¬ (a = 0 ∧ 13 ≤ i ∧ i ≤ 18) → ¬ a = 104 → ¬ ((102 - tr) ≤ a ∧ a ≤ (102 - tr) + 10) → ¬ a = 24 → ¬ a = 73 → Jz a i = J a i := fun a i h1 h2 h3 h4 h5 h6 h7 h8 h9 => zJ a i (by unfold mTr; omega) h4 (by unfold cTr; omega) (by omega) (by omega)
      have z105 : ∀ i, 52 ≤ i → Jz 105 i = J 105 i := fun i h => zJ 105 i (by unfold mTr; omega) (by omega) (by unfold cTr; omega) (by omega) (by omega)
      have z12 : Jz 105 12 = -1 := hfi (by rw [zo _ _ (by omega) (by omega)]; exact p2)
      have z0 : ∀ i, Jz 0 i = Jf 0 i := fun i => zA 0 i (by unfold mTr; omega) (by omega)
      have z24 : Jz 24 12 = J 24 12 := zJ 24 12 (by unfold mTr; omega) (by omega) (by unfold cTr; omega) (by omega) (by omega)
      have zm0 : Jz 105 0 = 0 := by
        rw [zo _ _ (by omega) (by omega), y2.1 105 0 (by omega) (by omega) (by omega), fJ 105 0 (by unfold cTr; omega) (by omega) (by omega)]; exact s1
      have tpieces : ∀ w p, 0 ≤ w → w < nw → 0 ≤ p → p < 10 → Jz 107 (290 + 11 * w + 1 + p) = K' 117 (11 * w + 1 + p) := fun w p a b c d => by
        have e1 : 290 + 11 * w + 1 + p = 290 + (11 * w + 1 + p) := by omega
        rw [e1, z7, rwT_w m8.2.2.2 (by omega) (by omega)]
      have r3n : ∀ a j, ¬ a = 104 → ¬ a = 0 → ¬ (a = 1 ∧ j = 7) → (u2 (u2 (u2 R 104 1 (some (102 - tr))) 0 11 (some tr)) 1 7 (some (102 - tr))) a j = R a j := fun a j h1 h2 h3 => by
        rw [u2_ite, if_neg h3, u2_ite, if_neg (by omega), u2_ite, if_neg (by omega)]
      have trr : 102 - (102 - tr) = tr := by omega
      refine ⟨hj10.symm, fun a i h => y2.2 a i h, fun a i c1 c2 c3 c4 c5 c6 c7 => ?_, Or.inr ⟨by show 1 ≤ J' (102 - tr) 10; omega, rfl, ⟨hsp, ?_, ?_, ?_, ?_, ?_, ?_, ?_, ?_⟩, ?_, ?_, ?_, ?_, ?_, ?_, z1.2.1, z1.2.2.1, fun c a b => by
        rw [z8] at b
        rw [zt _ _ (by omega) (by omega), zt0 _ (by omega)]
        exact (m2.2 c a b).2.2.1.2.2.2.2⟩⟩
      · by_cases c107 : a = 107
        · subst c107; exact zl i (by omega) (by omega) (by omega)
        · exact zJ a i c1 c107 c2 c6 c7
      · exact Sh_u2 (Sh_u2 sh1 (by decide)) (by decide)
      · exact HlO_Rt (fun j h => r3n 1 j (by omega) (by omega) (by omega)) (by rw [u2_ite, if_pos ⟨rfl, rfl⟩]) q3
      · rw [u2_ite, if_neg (by omega), u2_ite, if_pos ⟨rfl, rfl⟩, trr]
      · exact rwO_t zl (by rw [z8]; omega) (by rw [z9]; omega) q5
      · refine hlC_t zl (fun a i h1 h2 => zj a i (by omega) (by omega) (by omega) (by omega) (by omega) (by omega) (by omega) (by omega) (by omega)) q5.2.2.2.2.2.2.1.2 ⟨?_, ?_, fun w a b => ?_, fun w p a b c d => ?_, ?_⟩ q6
        · rw [zt0 _ (by omega), z8]; exact hj10
        · rw [zt0 _ (by omega), z9]; exact m8.2.1
        · rw [z9] at b
          rw [zt _ _ (by omega) (by omega), (m2.1 w a b).2.1, z7, rwT_w m8.2.2.2 (by omega) (by omega)]
        · rw [z9] at b
          rw [zt _ _ (by omega) (by omega), ((m2.1 w a b).2.2.1 p c d).1, tpieces w p a b c d]
        · rw [zt0 _ (by omega)]; omega
      · refine ⟨zm0, Or.inl z1.2.1, Or.inl z1.2.2.1, ?_, ?_, ?_, ?_, ?_, ?_, ?_, ?_, ?_, ?_, fun i a b => ?_, fun i a b => ?_, ?_⟩
        · rw [zj 92 _ (by omega) (by omega) (by omega) (by omega) (by omega) (by omega) (by omega) (by omega) (by omega), zj 106 _ (by omega) (by omega) (by omega) (by omega) (by omega) (by omega) (by omega) (by omega) (by omega)]; omega
        · rw [zj 92 _ (by omega) (by omega) (by omega) (by omega) (by omega) (by omega) (by omega) (by omega) (by omega), zj 106 _ (by omega) (by omega) (by omega) (by omega) (by omega) (by omega) (by omega) (by omega) (by omega)]; omega
        · rw [zj 92 _ (by omega) (by omega) (by omega) (by omega) (by omega) (by omega) (by omega) (by omega) (by omega), zj 106 _ (by omega) (by omega) (by omega) (by omega) (by omega) (by omega) (by omega) (by omega) (by omega)]; omega
        · rw [zj 92 _ (by omega) (by omega) (by omega) (by omega) (by omega) (by omega) (by omega) (by omega) (by omega), zj 106 _ (by omega) (by omega) (by omega) (by omega) (by omega) (by omega) (by omega) (by omega) (by omega)]; omega
        · rw [zj 92 _ (by omega) (by omega) (by omega) (by omega) (by omega) (by omega) (by omega) (by omega) (by omega), zj 106 _ (by omega) (by omega) (by omega) (by omega) (by omega) (by omega) (by omega) (by omega) (by omega)]; omega
        · rw [z0, f13, z1.2.2.2]; omega
        · rw [z0, f15, z12]
        · rw [z0, z105 63 (by omega), fA 0 16 (by omega) (by omega) (by omega) (by omega), j0]; exact s11
        · rw [z0, f18, z1.1]
        · rw [z0, z105 67 (by omega), fA 0 17 (by omega) (by omega) (by omega) (by omega), j0]; exact s13
        · rw [zj 89 _ (by omega) (by omega) (by omega) (by omega) (by omega) (by omega) (by omega) (by omega) (by omega), zj 110 _ (by omega) (by omega) (by omega) (by omega) (by omega) (by omega) (by omega) (by omega) (by omega)]; exact s14 i a b
        · rw [zj 91 _ (by omega) (by omega) (by omega) (by omega) (by omega) (by omega) (by omega) (by omega) (by omega), zj 142 _ (by omega) (by omega) (by omega) (by omega) (by omega) (by omega) (by omega) (by omega) (by omega)]; exact s15 i a b
        · rw [z24]; omega
      · intro k hk
        rcases q8 k hk with ⟨a, b⟩ | ⟨h, b⟩
        · refine Or.inl ⟨by rw [r3n 20 k (by omega) (by omega) (by omega)]; exact a, ?_⟩
          rw [zj 109 _ (by omega) (by omega) (by omega) (by omega) (by omega) (by omega) (by omega) (by omega) (by omega)]; exact b
        · exact Or.inr ⟨h, imO_R (fun a j c => r3n a j (by omega) (by omega) (by omega)) (zj 109 _ (by omega) (by omega) (by omega) (by omega) (by omega) (by omega) (by omega) (by omega) (by omega)) (fun j => zj 108 _ (by omega) (by omega) (by omega) (by omega) (by omega) (by omega) (by omega) (by omega) (by omega)) (fun a c j => zj a _ (by omega) (by omega) (by omega) (by omega) (by omega) (by omega) (by omega) (by omega) (by omega)) b⟩
      · intro g h a b
        rw [r3n 20 0 (by omega) (by omega) (by omega)] at a
        rw [r3n 20 1 (by omega) (by omega) (by omega)] at b
        exact q9 g h a b
      · refine ⟨⟨fun w a b => ?_, fun c a b => ?_⟩, by rw [z8, z7, rwT_471 m8.2.2.2]⟩
        · rw [z9] at b
          rw [z8]
          exact WyO_c (nc := nc) (zt _ _ (by omega) (by omega)) (zt _ _ (by omega) (by omega)) (fun p _ _ => zt _ _ (by omega) (by omega)) (fun k c1 c2 => by
            show Jz 107 (290 + (11 * w + k)) = _
            rw [z7, rwT_w m8.2.2.2 (by omega) (by omega)]) (fun i c1 c2 => by
            show Jz 107 (472 + i) = _
            rw [z7, rwT_c m7.2.2 c1 c2]) (Int.le_refl _) (m2.1 w a b)
        · rw [z8] at b
          rw [z9]
          exact ClO_c (sN := J' (102 - tr) 12) (mN := K' 105 16) ⟨zt _ _ (by omega) (by omega), zt _ _ (by omega) (by omega), zt _ _ (by omega) (by omega), zt _ _ (by omega) (by omega), zt _ _ (by omega) (by omega)⟩ (fun i _ => by unfold cC; rw [zt _ _ (by omega) (by omega), zt _ _ (by omega) (by omega)]) (fun k c1 c2 => by
            show Jz 107 (472 + (8 * c + k)) = _
            rw [z7, rwT_c m7.2.2 (by omega) (by omega)]) (fun i h0 hi => by
            have := rwT_s (K := K') (nc := nc) (nw := nw) (n := K' 105 16) h0 hi
            show nrm (Jz 107 (664 + 2 * i)) (Jz 107 (664 + 2 * i + 1)) = nrm (K' 112 i) (K' 113 i)
            rw [z7, z7, this.1, this.2]) (fun w _ _ => zt _ _ (by omega) (by omega)) (Int.le_refl _) (by omega) (m2.2 c a b)
      · rw [zA 24 13 (by unfold mTr; omega) (by omega)]; exact f24
      · rw [zA 73 15 (by unfold mTr; omega) (by omega)]; exact f7315
      · rw [zA 73 16 (by unfold mTr; omega) (by omega)]; exact f7316
      · rw [z0]; exact f14
      · rw [zA _ 13 (by unfold mTr; omega) (by omega)]; exact fs13
    · exact absurd y3 (by decide)
  · have x0 : 0 ≤ x := by
      rcases dis with ⟨c, _⟩ | ⟨_, c, _⟩
      · exact absurd c cx1
      · exact c
    clear dis
    refine Ev_f (by rw [ej15]; exact cx1) (Ev_t (by omega) (Ev_call (K15 (b := -6) (j := 4) (by omega) (by omega) ?_) (Ev_ret ?_)))
    · rw [ej _ _ (by omega), w2' 92 4 (by omega) (by omega) (by omega)]; omega
    refine ⟨_, _, _, rfl, ?_⟩
    dsimp only
    have e92 : w2 (w2 J' 0 15 x) 0 13 0 92 4 = J 92 4 := by rw [ej _ _ (by omega)]; exact w2' 92 4 (by omega) (by omega) (by omega)
    rw [e92]
    generalize hJf : w2 (w2 (w2 (w2 J' 0 15 x) 0 13 0) 0 18 (-6)) 92 4 (J 92 4 + 1) = Jf
    have fA : ∀ a i, ¬ (a = 0 ∧ (i = 13 ∨ i = 15 ∨ i = 18)) → ¬ (a = 92 ∧ i = 4) → Jf a i = J' a i := fun a i h1 h2 => by
      subst hJf
      rw [w2_n (by omega), w2_n (by omega), w2_n (by omega), w2_n (by omega)]
    have f18 : Jf 0 18 = -6 := by subst hJf; rw [w2_n (by omega), w2_ap, if_pos ⟨rfl, rfl⟩]
    have f15 : Jf 0 15 = x := by subst hJf; rw [w2_n (by omega), w2_n (by omega)]; exact ej15
    have f13 : Jf 0 13 = 0 := by subst hJf; rw [w2_n (by omega), w2_n (by omega)]; exact ej13
    have f92 : Jf 92 4 = J 92 4 + 1 := by subst hJf; rw [w2_ap, if_pos ⟨rfl, rfl⟩]
    clear hJf
    have fJ : ∀ a i, ¬ cTr (102 - tr) a i → ¬ (a = 92 ∧ i = 4) → Jf a i = J a i := fun a i h1 h2 => by
      unfold cTr at h1
      rw [fA a i (by omega) (by omega)]
      exact w2' a i (by omega) (by omega) (by omega)
    obtain ⟨K', L', y1, y2, y3⟩ := w3 Jf (z, kd, u2 R 104 1 (some (102 - tr))) (fun a i h1 h2 => by
      rw [fA a i (by omega) (by omega)]; exact lo a i h1)
    rcases y3 with ⟨c, _⟩ | ⟨_, _, kb, kf⟩
    · exact absurd c cx1
    · have k106 : K' 106 6 = J 106 6 := by rw [y2.1 106 6 (by omega) (by omega) (by omega)]; exact fJ 106 6 (by unfold cTr; omega) (by omega)
      have k32 : K' 105 32 = J 105 32 := by rw [y2.1 105 32 (by omega) (by omega) (by omega)]; exact fJ 105 32 (by unfold cTr; omega) (by omega)
      have k51 : K' 105 51 = J 105 51 := by rw [y2.1 105 51 (by omega) (by omega) (by omega)]; exact fJ 105 51 (by unfold cTr; omega) (by omega)
      refine Ev_mono (y1 _ (K212f (by omega) kb (by rw [k106]; omega) (by rw [k32]; exact s2) (by rw [k51]; exact s3))) ?_
      rintro q ⟨hq, hfi⟩
      subst hq
      dsimp only
      rw [k106]
      generalize hJz : w2 (w2 (w2 K' 105 7 0) 105 1 (-6)) 106 6 (J 106 6 + 1) = Jz
      have zo : ∀ a i, ¬ (a = 105 ∧ (i = 7 ∨ i = 1)) → ¬ (a = 106 ∧ i = 6) → Jz a i = K' a i := fun a i h1 h2 => by
        subst hJz
        rw [w2_n (by omega), w2_n (by omega), w2_n (by omega)]
      have z1 : Jz 105 1 = -6 := by subst hJz; rw [w2_n (by omega), w2_ap, if_pos ⟨rfl, rfl⟩]
      have z57 : Jz 105 7 = 0 := by subst hJz; rw [w2_n (by omega), w2_n (by omega), w2_ap, if_pos ⟨rfl, rfl⟩]
      have z66 : Jz 106 6 = J 106 6 + 1 := by subst hJz; rw [w2_ap, if_pos ⟨rfl, rfl⟩]
      clear hJz
      have zA : ∀ a i, ¬ (a = 105 ∧ (i = 1 ∨ (7 ≤ i ∧ i ≤ 14) ∨ i = 16 ∨ i = 19 ∨ i = 22 ∨ i = 23 ∨ i = 26)) → ¬ (111 ≤ a ∧ a ≤ 115) → ¬ a = 117 → ¬ (a = 106 ∧ i = 6) → Jz a i = Jf a i := fun a i h1 h2 h3 h4 => by
        rw [zo a i (by omega) h4]
        exact y2.1 a i (by omega) (by omega) (by omega)
      have zj : ∀ a i, ¬ a = 105 → ¬ (111 ≤ a ∧ a ≤ 115) → ¬ a = 117 → ¬ (a = 106 ∧ i = 6) → ¬ (a = 0 ∧ 13 ≤ i ∧ i ≤ 18) → ¬ a = 104 → ¬ ((102 - tr) ≤ a ∧ a ≤ (102 - tr) + 10) → ¬ (a = 92 ∧ i = 4) → Jz a i = J a i := fun a i h1 h2 h3 h4 h5 h6 h7 h8 => by
        rw [zA a i (by omega) h2 h3 h4]
        exact fJ a i (by unfold cTr; omega) h8
      have z105 : ∀ i, i = 0 ∨ i = 32 ∨ i = 51 ∨ 52 ≤ i → Jz 105 i = J 105 i := fun i h => by
        rw [zA 105 i (by omega) (by omega) (by omega) (by omega)]
        exact fJ 105 i (by unfold cTr; omega) (by omega)
      have z0 : ∀ i, Jz 0 i = Jf 0 i := fun i => zA 0 i (by omega) (by omega) (by omega) (by omega)
      have z12 : Jz 105 12 = x := by rw [zo _ _ (by omega) (by omega)]; exact kf
      have r3n : ∀ a j, ¬ a = 104 → (u2 R 104 1 (some (102 - tr))) a j = R a j := fun a j h1 => by
        rw [u2_ite, if_neg (by omega)]
      have zp : ∀ a i, ¬ a = 105 → ¬ (111 ≤ a ∧ a ≤ 115) → ¬ a = 117 → ¬ a = 106 → ¬ a = 0 → ¬ a = 104 → ¬ ((102 - tr) ≤ a ∧ a ≤ (102 - tr) + 10) → ¬ a = 92 → Jz a i = J a i := fun a i h1 h2 h3 h4 h5 h6 h7 h8 => zj a i h1 h2 h3 (by omega) (by omega) h6 h7 (by omega)
      have zr : ∀ i, Jz 107 i = J 107 i := fun i => zp 107 i (by omega) (by omega) (by omega) (by omega) (by omega) (by omega) (by omega) (by omega)
      refine ⟨rfl, fun a i h => y2.2 a i h, fun a i c1 c2 c3 c4 c5 c6 c7 => ?_, Or.inl ⟨rfl, rfl, ⟨q1, sh1, HlO_Rt (fun j h => r3n 1 j (by omega)) (by rw [r3n 1 7 (by omega)]; exact r17) q3, by rw [r3n 0 11 (by omega)]; exact q4, rwO_congr (fun i _ _ => zr i) q5, ?_, ?_, ?_, ?_⟩, zr, ?_, ?_, ?_, ?_, z105 32 (by omega), z105 51 (by omega)⟩⟩
      · unfold mTr at c1
        rw [zA a i (by omega) (by omega) (by omega) c5]
        exact fJ a i c2 c4
      · refine hlC_congr (fun i _ _ => zr i) q5.2.2.2.2.2.2.1.2 q5.2.2.2.2.2.2.2.2.1.2 (fun a j h => zp a j (by omega) (by omega) (by omega) (by omega) (by omega) (by omega) (by omega) (by omega)) q6
      · refine ⟨by rw [z105 0 (by omega)]; exact s1, by rw [z105 32 (by omega)]; exact s2, by rw [z105 51 (by omega)]; exact s3, ?_, ?_, ?_, ?_, ?_, ?_, ?_, ?_, ?_, ?_, fun i a b => ?_, fun i a b => ?_, ?_⟩
        · rw [zj 92 _ (by omega) (by omega) (by omega) (by omega) (by omega) (by omega) (by omega) (by omega), zj 106 _ (by omega) (by omega) (by omega) (by omega) (by omega) (by omega) (by omega) (by omega)]; omega
        · rw [zj 92 _ (by omega) (by omega) (by omega) (by omega) (by omega) (by omega) (by omega) (by omega), zj 106 _ (by omega) (by omega) (by omega) (by omega) (by omega) (by omega) (by omega) (by omega)]; omega
        · rw [zj 92 _ (by omega) (by omega) (by omega) (by omega) (by omega) (by omega) (by omega) (by omega), zj 106 _ (by omega) (by omega) (by omega) (by omega) (by omega) (by omega) (by omega) (by omega)]; omega
        · rw [zj 92 _ (by omega) (by omega) (by omega) (by omega) (by omega) (by omega) (by omega) (by omega), zj 106 _ (by omega) (by omega) (by omega) (by omega) (by omega) (by omega) (by omega) (by omega)]; omega
        · rw [zA 92 _ (by omega) (by omega) (by omega) (by omega), f92, z66]; omega
        · rw [z0, f13, z57]; omega
        · rw [z0, f15, z12]
        · rw [z0, z105 63 (by omega), fA 0 16 (by omega) (by omega), j0]; exact s11
        · rw [z0, f18, z1]
        · rw [z0, z105 67 (by omega), fA 0 17 (by omega) (by omega), j0]; exact s13
        · rw [zp 89 _ (by omega) (by omega) (by omega) (by omega) (by omega) (by omega) (by omega) (by omega), zp 110 _ (by omega) (by omega) (by omega) (by omega) (by omega) (by omega) (by omega) (by omega)]; exact s14 i a b
        · rw [zp 91 _ (by omega) (by omega) (by omega) (by omega) (by omega) (by omega) (by omega) (by omega), zp 142 _ (by omega) (by omega) (by omega) (by omega) (by omega) (by omega) (by omega) (by omega)]; exact s15 i a b
        · rw [zp 24 _ (by omega) (by omega) (by omega) (by omega) (by omega) (by omega) (by omega) (by omega)]; omega
      · intro k hk
        rcases q8 k hk with ⟨a, b⟩ | ⟨h, b⟩
        · refine Or.inl ⟨by rw [r3n 20 k (by omega)]; exact a, ?_⟩
          rw [zp 109 _ (by omega) (by omega) (by omega) (by omega) (by omega) (by omega) (by omega) (by omega)]; exact b
        · exact Or.inr ⟨h, imO_R (fun a j c => r3n a j (by omega)) (zp 109 _ (by omega) (by omega) (by omega) (by omega) (by omega) (by omega) (by omega) (by omega)) (fun j => zp 108 _ (by omega) (by omega) (by omega) (by omega) (by omega) (by omega) (by omega) (by omega)) (fun a c j => zp a _ (by omega) (by omega) (by omega) (by omega) (by omega) (by omega) (by omega) (by omega)) b⟩
      · intro g h a b
        rw [r3n 20 0 (by omega)] at a
        rw [r3n 20 1 (by omega)] at b
        exact q9 g h a b
      · exact zp 24 _ (by omega) (by omega) (by omega) (by omega) (by omega) (by omega) (by omega) (by omega)
      · exact zp 73 _ (by omega) (by omega) (by omega) (by omega) (by omega) (by omega) (by omega) (by omega)
      · exact zp 73 _ (by omega) (by omega) (by omega) (by omega) (by omega) (by omega) (by omega) (by omega)
      · rw [z0, fA 0 14 (by omega) (by omega)]; exact j0 14
