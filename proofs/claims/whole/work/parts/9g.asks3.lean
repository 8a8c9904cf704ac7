section
set_option maxRecDepth 100000 in
theorem ev_72_0 {dp : Nat} {e : EN} {I : JI} {L : JI} {i1 : Int} {i2 : Int} {P_ : (Int × JI × JI) → Prop} (h : Ev (fun n => (if (-2147483648 ≤ i1 * 3 ∧ i1 * 3 ≤ 2147483647) ∧ (-2147483648 ≤ (i1 * 3) + i2 ∧ (i1 * 3) + i2 ≤ 2147483647) then (if 0 ≤ ((i1 * 3) + i2) ∧ ((i1 * 3) + i2) < 30 then (some (((I 3 ((i1 * 3) + i2)) : Int), I, L)) else none) else none)) P_) : Ev (fun n => kf_72 n dp e 0 I L i1 i2) P_ := Ev_step (fun n => ke_72_0 n dp e I L i1 i2) h
set_option maxRecDepth 100000 in
theorem ev_71_0 {dp : Nat} {e : EN} {I : JI} {L : JI} {i1 : Int} {i2 : Int} {P_ : (JI × JI) → Prop} (h : Ev (fun n => ((e.2.2 1 7).bind (fun b_4 => (if (b_4 < e.1) ∧ ((e.2.1 b_4).1 = 10) then ((e.2.2 b_4 5).bind (fun b_7 => (if ((b_7 < e.1) ∧ (((e.2.1 b_7).1 = 13) ∧ ((e.2.1 b_7).2 < (2 ^ 31)))) ∧ (0 ≤ i1 ∧ i1 < (((e.2.1 b_7).2 : Nat) : Int)) then (stI (I b_7 i1) (fun v_12 => (stI (w2 I 22 0 i2) (fun I_19 => (stI (w2 I_19 22 1 v_12) (fun I_26 => (stI (w2 I_26 22 2 i1) (fun I_33 => (stI (w2 I_33 22 3 (I_33 1 11)) (fun I_46 => (if 1 ≤ dp then ((kf_72 n (dp - 1) e 0 I_46 L v_12 i2).bind (fun ⟨x0_58, I0_58, L0_58⟩ => (stI (w2 I0_58 22 4 x0_58) (fun I_61 => (some (I_61, L0_58)))))) else none))))))))))) else none))) else none)))) P_) : Ev (fun n => kf_71 n dp e 0 I L i1 i2) P_ := Ev_step (fun n => ke_71_0 n dp e I L i1 i2) h
set_option maxRecDepth 100000 in
theorem ev_70_0 {dp : Nat} {e : EN} {I : JI} {L : JI} {i1 : Int} {i2 : Int} {P_ : (Int × JI × JI) → Prop} (h : Ev (fun n => (if 1 ≤ dp then ((kf_71 n (dp - 1) e 0 I L i1 i2).bind (fun ⟨I0_3, L0_3⟩ => ((e.2.2 1 7).bind (fun b_11 => (if (b_11 < e.1) ∧ ((e.2.1 b_11).1 = 10) then ((e.2.2 b_11 6).bind (fun b_14 => (if ((b_14 < e.1) ∧ (((e.2.1 b_14).1 = 13) ∧ ((e.2.1 b_14).2 < (2 ^ 31)))) ∧ (0 ≤ i1 ∧ i1 < (((e.2.1 b_14).2 : Nat) : Int)) then (if 1 ≤ dp then ((kf_73 n (dp - 1) e 0 I0_3 L0_3 (I0_3 b_14 i1) 0).bind (fun ⟨x1_19, I1_19, L1_19⟩ => (if (x1_19 = 0) ∨ (x1_19 = 1) then (some ((x1_19 : Int), I1_19, L1_19)) else none))) else none) else none))) else none))))) else none)) P_) : Ev (fun n => kf_70 n dp e 0 I L i1 i2) P_ := Ev_step (fun n => ke_70_0 n dp e I L i1 i2) h
set_option maxRecDepth 100000 in
theorem ev_77_1 {dp : Nat} {e : EN} {I : JI} {L : JI} {i1 : Int} {i2 : Int} {i3 : Int} {i4 : Int} {i5 : Int} {P_ : (Int × JI × JI) → Prop} (h : Ev (fun n => (if i5 < 0 then (if i1 = 1 then (some ((1 : Int), I, L)) else (some ((0 : Int), I, L))) else ((e.2.2 1 7).bind (fun b_42 => (if (b_42 < e.1) ∧ ((e.2.1 b_42).1 = 10) then ((e.2.2 b_42 0).bind (fun b_45 => (if ((b_45 < e.1) ∧ (((e.2.1 b_45).1 = 13) ∧ ((e.2.1 b_45).2 < (2 ^ 31)))) ∧ (0 ≤ i5 ∧ i5 < (((e.2.1 b_45).2 : Nat) : Int)) then (if (I b_45 i5) = i1 then (if 1 ≤ dp then ((kf_73 n (dp - 1) e 0 I L i5 0).bind (fun ⟨x0_58, I0_58, L0_58⟩ => (if x0_58 = 0 then (kf_77 n dp e 2 I0_58 L0_58 i1 i2 i3 i4 i5) else (if 1 ≤ dp then (if 1 ≤ dp then (some (((max 0 (min (I0_58 21 4) i4)) : Int), I0_58, L0_58)) else none) else none)))) else none) else (kf_77 n dp e 2 I L i1 i2 i3 i4 i5)) else none))) else none))))) P_) : Ev (fun n => kf_77 n dp e 1 I L i1 i2 i3 i4 i5) P_ := Ev_step (fun n => ke_77_1 n dp e I L i1 i2 i3 i4 i5) h
set_option maxRecDepth 100000 in
theorem ev_77_2 {dp : Nat} {e : EN} {I : JI} {L : JI} {i1 : Int} {i2 : Int} {i3 : Int} {i4 : Int} {i5 : Int} {P_ : (Int × JI × JI) → Prop} (h : Ev (fun n => (if -2147483648 ≤ i5 + (-1) ∧ i5 + (-1) ≤ 2147483647 then (kf_77 n dp e 1 I L i1 i2 i3 i4 (i5 + (-1))) else none)) P_) : Ev (fun n => kf_77 n dp e 2 I L i1 i2 i3 i4 i5) P_ := Ev_step (fun n => ke_77_2 n dp e I L i1 i2 i3 i4 i5) h
set_option maxRecDepth 100000 in
theorem ev_77_0 {dp : Nat} {e : EN} {I : JI} {L : JI} {i1 : Int} {i2 : Int} {i3 : Int} {i4 : Int} {i5 : Int} {P_ : (Int × JI × JI) → Prop} (h : Ev (fun n => (if i1 = 1 then (if 1 ≤ dp then ((kf_71 n (dp - 1) e 0 I L i2 i3).bind (fun ⟨I0_16, L0_16⟩ => ((e.2.2 1 7).bind (fun b_23 => (if (b_23 < e.1) ∧ ((e.2.1 b_23).1 = 10) then (if -2147483648 ≤ (I0_16 b_23 10) - 1 ∧ (I0_16 b_23 10) - 1 ≤ 2147483647 then (stI ((I0_16 b_23 10) - 1) (fun v_31 => (kf_77 n dp e 1 I0_16 L0_16 i1 i2 i3 60 v_31))) else none) else none))))) else none) else (if 1 ≤ dp then ((kf_71 n (dp - 1) e 0 I L i2 i3).bind (fun ⟨I0_16, L0_16⟩ => ((e.2.2 1 7).bind (fun b_23 => (if (b_23 < e.1) ∧ ((e.2.1 b_23).1 = 10) then (if -2147483648 ≤ (I0_16 b_23 10) - 1 ∧ (I0_16 b_23 10) - 1 ≤ 2147483647 then (stI ((I0_16 b_23 10) - 1) (fun v_31 => (kf_77 n dp e 1 I0_16 L0_16 i1 i2 i3 3 v_31))) else none) else none))))) else none))) P_) : Ev (fun n => kf_77 n dp e 0 I L i1 i2 i3 i4 i5) P_ := Ev_step (fun n => ke_77_0 n dp e I L i1 i2 i3 i4 i5) h
end
/-! ASKS: the class's questions -/
def ClsO (J : JI) (tr : Nat) (ρ : Int → Int) : Prop := (∀ w, 0 ≤ w → w < ρ 9 → J (tr + 6) w = ρ (290 + 11 * w)) ∧ J 1 11 = ρ 4 ∧ (∀ i, 0 ≤ i → i < 30 → J 3 i = ρ (10 + i)) ∧ J tr 10 = ρ 8 ∧ J tr 11 = ρ 9
def FrG (J J' : JI) : Prop := ∀ a i, ¬ (a = 21 ∧ (i = 3 ∨ i = 4)) → ¬ a = 22 → ¬ a = 23 → J' a i = J a i
theorem TrT_j {J J' : JI} {tr : Nat} {ρ : Int → Int} (hj : ∀ a i, tr + 1 ≤ a → a ≤ tr + 10 → J' a i = J a i) (h : TrT J tr ρ) : TrT J' tr ρ :=
  ⟨⟨fun w a b => WyO_c (nc := ρ 8) (hj _ _ (by omega) (by omega)) (hj _ _ (by omega) (by omega)) (fun p _ _ => hj _ _ (by omega) (by omega)) (fun _ _ _ => rfl) (fun _ _ _ => rfl) (Int.le_refl _) (h.1.1 w a b), fun c a b => ClO_j hj (h.1.2 c a b)⟩, h.2⟩
/-- the one clause that cuts by a way -/
theorem tls_cut {J : JI} {tr : Nat} {ρ : Int → Int} {w c : Int} (h : TrT J tr ρ) (hw : 0 ≤ w ∧ w < ρ 9) : ∀ n : Nat, n ≤ ρ 8 → tls ρ 2 w c 0 n = @ite Int (J (tr + 7) w < n ∧ hld ρ (fc ρ w c) (J (tr + 7) w)) (Classical.propDecidable _) 1 0
  | 0, _ => by
    have := (h.1.1 w hw.1 hw.2).2.2.2.2.1
    rw [tls, if_neg (fun z => by omega)]
  | n + 1, hn => by
    have ih := tls_cut (c := c) h hw n (by omega)
    obtain ⟨_, _, _, _, a7, a8, a9, a10⟩ := h.1.1 w hw.1 hw.2
    dsimp only at a9 a10
    rw [tls]
    by_cases q : J (tr + 7) w = n
    · rw [← q]
      have e1 : 472 + 8 * J (tr + 7) w + 1 = 472 + (8 * J (tr + 7) w + 1) := by omega
      by_cases z : hld ρ (fc ρ w c) (J (tr + 7) w)
      · rw [if_pos ⟨a9, Or.inr (by rw [e1]; exact a10), z⟩, if_pos rfl, if_pos ⟨by omega, z⟩]
      · rw [if_neg (fun y => z y.2.2), if_neg (fun y => z y.2), ih, if_neg (fun y => z y.2)]
    · have hn' : ¬ (ρ (472 + 8 * n) = 2 ∧ (¬ (2 : Int) = 2 ∨ ρ (472 + 8 * n + 1) = w) ∧ hld ρ (fc ρ w c) n) := by
        rintro ⟨y1, y2, _⟩
        rcases y2 with y2 | y2
        · exact y2 rfl
        · have e1 : 472 + 8 * (n : Int) + 1 = 472 + (8 * n + 1) := by omega
          rw [e1] at y2
          rcases (h.1.2 n (by omega) (by omega)).1 with ⟨_, _, z, _⟩ | ⟨z, _⟩
          · dsimp only at z
            rw [y2] at z
            exact q z.2.2
          · dsimp only at z; omega
      rw [if_neg hn', ih]
      by_cases z : hld ρ (fc ρ w c) (J (tr + 7) w)
      · by_cases y : J (tr + 7) w < n
        · rw [if_pos ⟨y, z⟩, if_pos ⟨by omega, z⟩]
        · rw [if_neg (fun x => y x.1), if_neg (fun x => by have := x.1; omega)]
      · rw [if_neg (fun x => z x.2), if_neg (fun x => z x.2)]
section ASK
variable {dp : Nat} {e : EN}
theorem K72 {J M : JI} {p c : Int} (hp : 0 ≤ p ∧ p ≤ 9) (hc : 0 ≤ c ∧ c < 3) : Ev (fun n => kf_72 n dp e 0 J M p c) (fun r => r = (J 3 (p * 3 + c), J, M)) := by
  refine ev_72_0 ?_
  exact Ev_t (by omega) (Ev_t (by omega) (Ev_ret rfl))
theorem K71 {J M : JI} {tr : Nat} {w c : Int} {ρ : Int → Int} (htr : tr = 9 ∨ tr = 93) (hT : TrO e tr) (h17 : e.2.2 1 7 = some tr) (hd : 1 ≤ dp) (hC : ClsO J tr ρ) (hw : 0 ≤ w ∧ w < ρ 9) (h9 : ρ 9 ≤ 16) (hp : 0 ≤ ρ (290 + 11 * w) ∧ ρ (290 + 11 * w) ≤ 9) (hc : 0 ≤ c ∧ c < 3) : Ev (fun n => kf_71 n dp e 0 J M w c) (fun r => r.2 = M ∧ (∀ i, 0 ≤ i → i < 5 → r.1 22 i = fc ρ w c i) ∧ ∀ a i, ¬ a = 22 → r.1 a i = J a i) := by
  obtain ⟨c1, c2, c3, c4, c5⟩ := hC
  have t6 := hT.2.2.2.2.2.2.1
  have ep := c1 w hw.1 hw.2
  refine ev_71_0 ?_
  refine Ev_R h17 (Ev_t hT.1 (Ev_R t6.1 (Ev_t ⟨⟨t6.2.1, t6.2.2.1, by rw [t6.2.2.2]; decide⟩, by rw [t6.2.2.2]; omega⟩ (Ev_st ?_))))
  rw [ep]
  refine Ev_st (Ev_st (Ev_st (Ev_st (Ev_t hd (Ev_call (K72 hp hc) (Ev_st (Ev_ret ⟨rfl, fun i i0 i1 => ?_, fun a i h => ?_⟩)))))))
  · dsimp only
    have i5 : i = 0 ∨ i = 1 ∨ i = 2 ∨ i = 3 ∨ i = 4 := by omega
    rcases i5 with rfl | rfl | rfl | rfl | rfl
    · rfl
    · rfl
    · rfl
    · exact c2
    · show J 3 (ρ (290 + 11 * w) * 3 + c) = ρ (10 + 3 * ρ (290 + 11 * w) + c)
      rw [c3 _ (by omega) (by omega)]
      congr 1
      omega
  · dsimp only
    rw [w2_n (by omega), w2_n (by omega), w2_n (by omega), w2_n (by omega), w2_n (by omega)]
theorem K70 {J M : JI} {tr : Nat} {w c : Int} {ρ : Int → Int} (htr : tr = 9 ∨ tr = 93) (hT : TrO e tr) (h17 : e.2.2 1 7 = some tr) (hd : 3 ≤ dp) (hA : AskO J tr ρ) (hC : ClsO J tr ρ) (hw : 0 ≤ w ∧ w < ρ 9) (hc : 0 ≤ c ∧ c < 3) : Ev (fun n => kf_70 n dp e 0 J M w c) (fun r => r.2.2 = M ∧ FrG J r.2.1 ∧ r.1 = clp 1 (tls ρ 2 w c 0 (ρ 8).toNat)) := by
  obtain ⟨hf, hp⟩ := fc_g hA hw hc
  have hA' := hA
  obtain ⟨hTT, h8, h9, _⟩ := hA
  have t7 := hT.2.2.2.2.2.2.2.1
  obtain ⟨_, _, _, _, a7, a8, a9, a10⟩ := hTT.1.1 w hw.1 hw.2
  have ec := tls_cut (c := c) hTT hw (ρ 8).toNat (by omega)
  refine ev_70_0 ?_
  refine Ev_t (by omega) (Ev_bind (K71 htr hT h17 (by omega) hC hw h9.2 hp hc) ?_)
  rintro ⟨J1, M1⟩ ⟨q1, q2, q3⟩
  dsimp only at q1 q2 q3 ⊢
  subst q1
  have e7 : J1 (tr + 7) w = J (tr + 7) w := q3 _ _ (by omega)
  refine Ev_R h17 (Ev_t hT.1 (Ev_R t7.1 (Ev_t ⟨⟨t7.2.1, t7.2.2.1, by rw [t7.2.2.2]; decide⟩, by rw [t7.2.2.2]; omega⟩ (Ev_t (by omega) ?_))))
  rw [e7]
  have hcl := ClO_j (J' := J1) (fun a i g1 g2 => q3 a i (by omega)) (hTT.1.2 (J (tr + 7) w) a7 a8)
  refine Ev_bind (K73 (x := 0) htr hT h17 (by omega) (by omega) hcl hf q2) ?_
  rintro ⟨x, J2, M2⟩ ⟨g1, g2, g3⟩
  dsimp only at g1 g2 g3 ⊢
  have fr : FrG J J2 := fun a i c1 c2 c3 => (g2 a i c1 c3).trans (q3 a i c2)
  rcases g3 with ⟨rfl, g4, _⟩ | ⟨rfl, g4⟩
  · refine Ev_t (Or.inr rfl) (Ev_ret ⟨g1, fr, ?_⟩)
    dsimp only
    rw [ec, if_pos ⟨by omega, g4⟩]
    rfl
  · refine Ev_t (Or.inl rfl) (Ev_ret ⟨g1, fr, ?_⟩)
    dsimp only
    rw [ec, if_neg (fun z => g4 z.2)]
    rfl
theorem K77 {J M : JI} {tr : Nat} {k hd mo df w c x1 x2 : Int} {ρ : Int → Int} (htr : tr = 9 ∨ tr = 93) (hT : TrO e tr) (h17 : e.2.2 1 7 = some tr) (hdp : 3 ≤ dp) (hA : AskO J tr ρ) (hC : ClsO J tr ρ) (hw : 0 ≤ w ∧ w < ρ 9) (hc : 0 ≤ c ∧ c < 3) (hk : (k = 1 ∧ hd = 0 ∧ mo = 60 ∧ df = 1) ∨ (k = 2 ∧ hd = 1 ∧ mo = 3 ∧ df = 0)) : Ev (fun n => kf_77 n dp e 0 J M k w c x1 x2) (fun r => r.2.2 = M ∧ FrG J r.2.1 ∧ r.1 = clp mo (tls ρ hd w c df (ρ 8).toNat)) := by
  obtain ⟨hf, hp⟩ := fc_g hA hw hc
  obtain ⟨hTT, h8, h9, _⟩ := hA
  have hC' := hC
  obtain ⟨c1, c2, c3, c4, c5⟩ := hC
  have t1 := hT.2.1
  obtain ⟨NC, hN⟩ : ∃ NC : Nat, (NC : Int) = ρ 8 := ⟨(ρ 8).toNat, by omega⟩
  have hN2 : (ρ 8).toNat = NC := by omega
  rw [hN2]
  have key : ∀ n : Nat, n ≤ NC → ∀ J1 : JI, FrG J J1 → (∀ i, 0 ≤ i → i < 5 → J1 22 i = fc ρ w c i) → Ev (fun m => kf_77 m dp e 1 J1 M k w c mo ((n : Int) - 1)) (fun r => r.2.2 = M ∧ FrG J r.2.1 ∧ r.1 = clp mo (tls ρ hd w c df n)) := by
    intro n
    induction n with
    | zero =>
      intro _ J1 f1 hφ
      refine ev_77_1 ?_
      refine Ev_t (by decide) (Ev_c (fun z => Ev_ret ⟨rfl, f1, ?_⟩) (fun z => Ev_ret ⟨rfl, f1, ?_⟩))
      · show (1 : Int) = clp mo df
        unfold clp; omega
      · show (0 : Int) = clp mo df
        unfold clp; omega
    | succ n ih =>
      intro hn J1 f1 hφ
      have ih := ih (by omega)
      have en : ((n + 1 : Nat) : Int) - 1 = n := by omega
      rw [en]
      have jt : ∀ a i, tr + 1 ≤ a → a ≤ tr + 10 → J1 a i = J a i := fun a i g1 g2 => f1 a i (by omega) (by omega) (by omega)
      have hcl := ClO_j (J' := J1) jt (hTT.1.2 n (by omega) (by omega))
      have e1 := jt (tr + 1) n (by omega) (by omega)
      have kd : J (tr + 1) n = k ↔ ρ (472 + 8 * n) = hd := by
        rcases (hTT.1.2 n (by omega) (by omega)).1 with ⟨z1, z2, _⟩ | ⟨z, _⟩
        · dsimp only at z2; omega
        · dsimp only at z; omega
      have down : ∀ J2 : JI, FrG J J2 → (∀ i, 0 ≤ i → i < 5 → J2 22 i = fc ρ w c i) → tls ρ hd w c df (n + 1) = tls ρ hd w c df n → Ev (fun m => kf_77 m dp e 2 J2 M k w c mo n) (fun r => r.2.2 = M ∧ FrG J r.2.1 ∧ r.1 = clp mo (tls ρ hd w c df (n + 1))) := by
        intro J2 f2 hφ2 ht
        rw [ht]
        refine ev_77_2 ?_
        exact Ev_t (by omega) (ih J2 f2 hφ2)
      refine ev_77_1 ?_
      refine Ev_f (by omega) (Ev_R h17 (Ev_t hT.1 (Ev_R t1.1 (Ev_t ⟨⟨t1.2.1, t1.2.2.1, by rw [t1.2.2.2]; decide⟩, by rw [t1.2.2.2]; omega⟩ ?_))))
      rw [e1]
      refine Ev_c (fun z => Ev_t (by omega) ?_) (fun z => down J1 f1 hφ ?_)
      · refine Ev_bind (K73 (x := 0) htr hT h17 (by omega) (by omega) hcl hf hφ) ?_
        rintro ⟨x, J2, M2⟩ ⟨g1, g2, g3⟩
        dsimp only at g1 g2 g3 ⊢
        subst g1
        have fr : FrG J J2 := fun a i c1 c2 c3 => (g2 a i c1 c3).trans (f1 a i c1 c2 c3)
        rcases g3 with ⟨rfl, g4, g5⟩ | ⟨rfl, g4⟩
        · refine Ev_f (by decide) (Ev_t (by omega) (Ev_t (by omega) (Ev_ret ⟨rfl, fr, ?_⟩)))
          have y1 := kd.mp z
          rw [tls, if_pos ⟨y1, Or.inl (by omega), g4⟩, if_neg (by omega)]
          show max 0 (min (J2 21 4) mo) = clp mo _
          rw [g5 (by omega)]
          rfl
        · refine Ev_t rfl (down J2 fr (fun i i0 i1 => (g2 22 i (by omega) (by omega)).trans (hφ i i0 i1)) ?_)
          rw [tls, if_neg (fun y => g4 y.2.2)]
      · rw [tls, if_neg (fun y => z (kd.mpr y.1))]
  have st : ∀ J1 : JI, (∀ i, 0 ≤ i → i < 5 → J1 22 i = fc ρ w c i) → (∀ a i, ¬ a = 22 → J1 a i = J a i) → Ev (fun m => kf_77 m dp e 1 J1 M k w c mo (ρ 8 - 1)) (fun r => r.2.2 = M ∧ FrG J r.2.1 ∧ r.1 = clp mo (tls ρ hd w c df NC)) := by
    intro J1 q2 q3
    rw [← hN]
    exact key NC (Nat.le_refl _) J1 (fun a i _ g _ => q3 a i g) q2
  refine ev_77_0 ?_
  rcases hk with ⟨rfl, rfl, rfl, rfl⟩ | ⟨rfl, rfl, rfl, rfl⟩
  · refine Ev_t rfl (Ev_t (by omega) (Ev_bind (K71 htr hT h17 (by omega) hC' hw h9.2 hp hc) ?_))
    rintro ⟨J1, M1⟩ ⟨q1, q2, q3⟩
    dsimp only at q1 q2 q3 ⊢
    subst q1
    have e10 : J1 tr 10 = ρ 8 := (q3 _ _ (by omega)).trans c4
    refine Ev_R h17 (Ev_t hT.1 ?_)
    rw [e10]
    exact Ev_t (by omega) (Ev_st (st J1 q2 q3))
  · refine Ev_f (by decide) (Ev_t (by omega) (Ev_bind (K71 htr hT h17 (by omega) hC' hw h9.2 hp hc) ?_))
    rintro ⟨J1, M1⟩ ⟨q1, q2, q3⟩
    dsimp only at q1 q2 q3 ⊢
    subst q1
    have e10 : J1 tr 10 = ρ 8 := (q3 _ _ (by omega)).trans c4
    refine Ev_R h17 (Ev_t hT.1 ?_)
    rw [e10]
    exact Ev_t (by omega) (Ev_st (st J1 q2 q3))
end ASK
