section
set_option maxRecDepth 100000 in
theorem ev_82_1 {dp : Nat} {e : EN} {I : JI} {L : JI} {i2 : Int} {a0 : Nat} {a1 : Nat} {P_ : (Int × JI × JI) → Prop} (h : Ev (fun n => (if (a1 < e.1) ∧ ((e.2.1 a1).1 = 10) then (if (a0 < e.1) ∧ ((e.2.1 a0).1 = 2) then (stI (w2 I a0 5 (I a1 13)) (fun I_26 => (if (a0 < e.1) ∧ ((e.2.1 a0).1 = 2) then (stI (w2 I_26 a0 6 i2) (fun I_31 => (if (a0 < e.1) ∧ ((e.2.1 a0).1 = 2) then (stI (w2 I_31 a0 4 0) (fun I_36 => (if (a0 < e.1) ∧ ((e.2.1 a0).1 = 2) then ((e.2.2 a0 3).bind (fun b_40 => (if 1 ≤ dp then ((kf_36 n (dp - 1) e 0 I_36 L 0 0 0 b_40).bind (fun ⟨I0_44, L0_44⟩ => (if (a0 < e.1) ∧ ((e.2.1 a0).1 = 2) then ((e.2.2 a0 3).bind (fun b_48 => (if ((b_48 < e.1) ∧ (((e.2.1 b_48).1 = 13) ∧ ((e.2.1 b_48).2 < (2 ^ 31)))) ∧ (((0 : Int) ≤ 0) ∧ (0 < (e.2.1 b_48).2)) then (stI (w2 I0_44 b_48 0 1) (fun I_53 => (if 1 ≤ dp then ((kf_83 n (dp - 1) e 0 I_53 L0_44 0 1 0 0 0 a0 a1).bind (fun ⟨I1_58, L1_58⟩ => (some ((1 : Int), I1_58, L1_58)))) else none))) else none))) else none))) else none))) else none))) else none))) else none))) else none) else none)) P_) : Ev (fun n => kf_82 n dp e 1 I L i2 a0 a1) P_ := Ev_step (fun n => ke_82_1 n dp e I L i2 a0 a1) h
set_option maxRecDepth 100000 in
theorem ev_82_0 {dp : Nat} {e : EN} {I : JI} {L : JI} {i2 : Int} {a0 : Nat} {a1 : Nat} {P_ : (Int × JI × JI) → Prop} (h : Ev (fun n => (if (a1 < e.1) ∧ ((e.2.1 a1).1 = 10) then (if (a0 < e.1) ∧ ((e.2.1 a0).1 = 2) then (if (I a1 13) = (I a0 5) then (if (a0 < e.1) ∧ ((e.2.1 a0).1 = 2) then (if i2 = (I a0 6) then (some ((0 : Int), I, L)) else (kf_82 n dp e 1 I L i2 a0 a1)) else none) else (kf_82 n dp e 1 I L i2 a0 a1)) else none) else none)) P_) : Ev (fun n => kf_82 n dp e 0 I L i2 a0 a1) P_ := Ev_step (fun n => ke_82_0 n dp e I L i2 a0 a1) h
set_option maxRecDepth 100000 in
theorem ev_81_0 {dp : Nat} {e : EN} {I : JI} {L : JI} {i1 : Int} {i2 : Int} {i3 : Int} {i4 : Int} {P_ : (JI × JI) → Prop} (h : Ev (fun n => (if (I 24 13) = 0 then (some (I, L)) else (kf_81 n dp e 1 I L 0 0 0 0))) P_) : Ev (fun n => kf_81 n dp e 0 I L i1 i2 i3 i4) P_ := Ev_step (fun n => ke_81_0 n dp e I L i1 i2 i3 i4) h
set_option maxRecDepth 100000 in
theorem ev_81_1 {dp : Nat} {e : EN} {I : JI} {L : JI} {i1 : Int} {i2 : Int} {i3 : Int} {i4 : Int} {P_ : (JI × JI) → Prop} (h : Ev (fun n => (if 3 ≤ i2 then (stI (w2 I 24 13 0) (fun I_91 => (if i1 = 0 then (some (I_91, L)) else (if 1 ≤ dp then ((kf_25 n (dp - 1) e 0 I_91 L).bind (fun ⟨I0_99, L0_99⟩ => (some (I0_99, L0_99)))) else none)))) else (kf_81 n dp e 2 I L i1 i2 0 0))) P_) : Ev (fun n => kf_81 n dp e 1 I L i1 i2 i3 i4) P_ := Ev_step (fun n => ke_81_1 n dp e I L i1 i2 i3 i4) h
set_option maxRecDepth 100000 in
theorem ev_81_2 {dp : Nat} {e : EN} {I : JI} {L : JI} {i1 : Int} {i2 : Int} {i3 : Int} {i4 : Int} {P_ : (JI × JI) → Prop} (h : Ev (fun n => ((e.2.2 1 7).bind (fun b_28 => (if (b_28 < e.1) ∧ ((e.2.1 b_28).1 = 10) then (if (I b_28 11) ≤ i4 then (if 0 ≤ i2 ∧ i2 < 3 then ((e.2.2 25 (Int.toNat i2)).bind (fun b_69 => ((e.2.2 1 7).bind (fun b_74 => (if (b_69 < e.1) ∧ ((e.2.1 b_69).1 = 2) then (if 1 ≤ dp then ((kf_82 n (dp - 1) e 0 I L i3 b_69 b_74).bind (fun ⟨x0_78, I0_78, L0_78⟩ => (if -2147483648 ≤ i2 + 1 ∧ i2 + 1 ≤ 2147483647 then (kf_81 n dp e 1 I0_78 L0_78 (bO i1 x0_78) (i2 + 1) 0 0) else none))) else none) else none))))) else none) else (if 1 ≤ dp then ((kf_70 n (dp - 1) e 0 I L i4 i2).bind (fun ⟨x0_44, I0_44, L0_44⟩ => (if x0_44 = 0 then (kf_81 n dp e 3 I0_44 L0_44 i1 i2 i3 i4) else (stI (bO i3 (bL 1 i4)) (fun v_56 => (kf_81 n dp e 3 I0_44 L0_44 i1 i2 v_56 i4)))))) else none)) else none)))) P_) : Ev (fun n => kf_81 n dp e 2 I L i1 i2 i3 i4) P_ := Ev_step (fun n => ke_81_2 n dp e I L i1 i2 i3 i4) h
set_option maxRecDepth 100000 in
theorem ev_81_3 {dp : Nat} {e : EN} {I : JI} {L : JI} {i1 : Int} {i2 : Int} {i3 : Int} {i4 : Int} {P_ : (JI × JI) → Prop} (h : Ev (fun n => (if -2147483648 ≤ i4 + 1 ∧ i4 + 1 ≤ 2147483647 then (kf_81 n dp e 2 I L i1 i2 i3 (i4 + 1)) else none)) P_) : Ev (fun n => kf_81 n dp e 3 I L i1 i2 i3 i4) P_ := Ev_step (fun n => ke_81_3 n dp e I L i1 i2 i3 i4) h
end
/-! CUTTINGS: renewed by the class -/
theorem bR_k : ∀ k : Fin 31, (Int32.ofInt ((k : Nat) : Int) &&& 31).toBitVec.smod 32 = BitVec.ofNat 32 k := by decide
theorem bR_n {x : Int} {k : Nat} (hx : 0 ≤ x ∧ x ≤ 2147483647) (hk : k < 31) : bR x k = ((x.toNat / 2 ^ k : Nat) : Int) := by
  unfold bR
  have h := bR_k ⟨k, hk⟩
  rw [← Int32.toInt_toBitVec, Int32.toBitVec_shiftRight, h]
  rw [BitVec.sshiftRight_eq', BitVec.toInt_sshiftRight]
  have e : (Int32.ofInt x).toBitVec.toInt = (x.toNat : Int) := by
    rw [bv_i (by rw [i32_n hx]; omega), i32_n hx]
  rw [e]
  have : (BitVec.ofNat 32 k).toNat = k := by rw [BitVec.toNat_ofNat]; exact Nat.mod_eq_of_lt (by omega)
  rw [this, Int.shiftRight_eq_div_pow]
  rfl
theorem bt_n {x : Int} {k : Nat} (hx : 0 ≤ x ∧ x ≤ 2147483647) (hk : k < 31) : bA (bR x k) 1 = 1 ↔ x.toNat.testBit k = true := by
  have h0 : x.toNat / 2 ^ k ≤ x.toNat := Nat.div_le_self _ _
  rw [Nat.testBit_eq_decide_div_mod_eq, decide_eq_true_iff]
  rw [bR_n hx hk]
  generalize x.toNat / 2 ^ k = y at h0
  rw [bA_n (by omega) (by omega)]
  show ((y &&& 1 : Nat) : Int) = 1 ↔ _
  rw [Nat.and_one_is_mod]
  omega
/-- bit w of x -/
def btO (x w : Int) : Int := if bA (bR x w) 1 = 1 then 1 else 0
theorem btO_0 {w : Int} (hw : 0 ≤ w ∧ w < 16) : btO 0 w = 0 := by
  obtain ⟨k, rfl⟩ : ∃ k : Nat, w = k := ⟨w.toNat, by omega⟩
  unfold btO
  rw [if_neg]
  rw [bt_n (by omega) (by omega)]
  simp
theorem btO_s {x w : Int} {k : Nat} (hx : 0 ≤ x ∧ x < 65536) (hk : k < 16) (hw : 0 ≤ w ∧ w < 16) : btO (bO x (bL 1 k)) w = if w = k then 1 else btO x w := by
  obtain ⟨j, rfl⟩ : ∃ j : Nat, w = j := ⟨w.toNat, by omega⟩
  obtain ⟨h1, h2, h3⟩ := bO_16 hx hk
  have c1 := bt_n (x := bO x (bL 1 k)) (k := j) (by omega) (by omega)
  have c2 := bt_n (x := x) (k := j) (by omega) (by omega)
  unfold btO
  rw [h1] at c1 ⊢
  rw [Int.toNat_natCast, Nat.testBit_or, Nat.testBit_two_pow] at c1
  by_cases c : (j : Int) = k
  · rw [if_pos c, if_pos]
    rw [c1]
    have : k = j := by omega
    simp [this]
  · rw [if_neg c]
    have : ¬ k = j := by omega
    rw [decide_eq_false this, Bool.or_false] at c1
    by_cases d : bA (bR x j) 1 = 1
    · rw [if_pos d, if_pos (c1.2 (c2.1 d))]
    · rw [if_neg d, if_neg (fun z => d (c2.2 (c1.1 z)))]
/-- what the class keeps of cuttings is right for the tree at T, if its number is the tree's -/
def CuT (J : JI) (a0 T : Nat) : Prop := J T 13 = J a0 5 → ∀ (W : Int → Int) (nw : Nat), TrW J T W nw → LsO (J a0 4) (J (a0 + 1)) (J (a0 + 2)) (En W (btO (J a0 6)) nw 10 cn0 (fun _ => 0))
/-- only cuttings a0 have changed -/
def FrU (a0 : Nat) (J J' : JI) : Prop := ∀ a i, ¬ (a = a0 ∧ 4 ≤ i ∧ i ≤ 6) → ¬ (a0 + 1 ≤ a ∧ a ≤ a0 + 4) → J' a i = J a i
section RN
variable {e : EN} {M : JI} {a0 tr : Nat}
theorem K82 {dp : Nat} {J : JI} {ow : Int} {W : Int → Int} {nw : Nat} (hs : a0 = 58 ∨ a0 = 63 ∨ a0 = 68) (htr : tr = 9 ∨ tr = 93) (hO : CtO e a0) (hT : TrO e tr) (hd : 13 ≤ dp) (hW : TrW J tr W nw) (hC : CuT J a0 tr) : Ev (fun n => kf_82 n dp e 0 J M ow a0 tr) (fun r => r.2.2 = M ∧ FrU a0 J r.2.1 ∧ r.2.1 a0 5 = J tr 13 ∧ r.2.1 a0 6 = ow ∧ LsO (r.2.1 a0 4) (r.2.1 (a0 + 1)) (r.2.1 (a0 + 2)) (En W (btO ow) nw 10 cn0 (fun _ => 0)) ∧ ((r.1 = 0 ∧ r.2.1 = J) ∨ r.1 = 1)) := by
  have hO' := hO
  obtain ⟨o0, o1, o2, o3, o4⟩ := hO
  have t0 : tr < e.1 ∧ (e.2.1 tr).1 = 10 := hT.1
  have new : Ev (fun n => kf_82 n dp e 1 J M ow a0 tr) (fun r => r.2.2 = M ∧ FrU a0 J r.2.1 ∧ r.2.1 a0 5 = J tr 13 ∧ r.2.1 a0 6 = ow ∧ LsO (r.2.1 a0 4) (r.2.1 (a0 + 1)) (r.2.1 (a0 + 2)) (En W (btO ow) nw 10 cn0 (fun _ => 0)) ∧ ((r.1 = 0 ∧ r.2.1 = J) ∨ r.1 = 1)) := by
    refine ev_82_1 ?_
    refine Ev_t t0 (Ev_t o0 (Ev_st (Ev_t o0 (Ev_st (Ev_t o0 (Ev_st (Ev_t o0 (Ev_R o4.1 (Ev_t (by omega) ?_)))))))))
    refine Ev_bind (K36 (N := 10) o4.2 (by omega)) ?_
    rintro _ rfl
    dsimp only
    refine Ev_t o0 (Ev_R o4.1 (Ev_t ⟨⟨o4.2.1, o4.2.2.1, by rw [o4.2.2.2]; decide⟩, by rw [o4.2.2.2]; decide⟩ (Ev_st (Ev_t (by omega) ?_))))
    generalize eJ1 : w2 (fl (w2 (w2 (w2 J a0 5 (J tr 13)) a0 6 ow) a0 4 0) (a0 + 4) 10 0) (a0 + 4) 0 1 = J1
    have f1 : ∀ a i, ¬ (a = a0 ∧ 4 ≤ i ∧ i ≤ 6) → ¬ a = a0 + 4 → J1 a i = J a i := fun a i h1 h2 => by
      rw [← eJ1, w2_n (by omega), fl_n (by omega), w2_n (by omega), w2_n (by omega), w2_n (by omega)]
    have f5 : J1 a0 5 = J tr 13 := by
      rw [← eJ1, w2_n (by omega), fl_n (by omega), w2_n (by omega), w2_n (by omega), w2_ap, if_pos ⟨rfl, rfl⟩]
    have f6 : J1 a0 6 = ow := by
      rw [← eJ1, w2_n (by omega), fl_n (by omega), w2_n (by omega), w2_ap, if_pos ⟨rfl, rfl⟩]
    have f4 : J1 a0 4 = 0 := by
      rw [← eJ1, w2_n (by omega), fl_n (by omega), w2_ap, if_pos ⟨rfl, rfl⟩]
    have fc : ∀ q, 0 ≤ q → q < 10 → J1 (a0 + 4) q = cn0 q := fun q q0 q1 => by
      rw [← eJ1, w2_ap]
      unfold cn0
      by_cases c : q = 0
      · rw [if_pos ⟨rfl, c⟩, if_pos c]
      · rw [if_neg (by omega), if_neg c, fl_p ⟨rfl, q0, q1⟩]
    have hsum : sm cn0 10 = 1 := by decide
    have r := K83 (M := M) (W := W) (op := btO ow) (nw := nw) hs htr hO' hT 10 (dp - 1) J1 cn0 (fun _ => 0) [] 0 0 0 (by omega) (by omega) (TrW_c (fun a i _ _ => f1 a i (by omega) (by omega)) hW) (fun w a b => by
      rw [f6]
      unfold btO
      by_cases c : bA (bR ow w) 1 = 1
      · rw [if_pos c]; exact ⟨fun _ => rfl, fun _ => c⟩
      · rw [if_neg c]; exact ⟨fun z => absurd z c, fun z => by omega⟩) (fun q q0 q1 => ⟨by rw [fc q q0 q1]; unfold cn0; split <;> omega, fun z => by omega, fun _ => fc q q0 q1⟩) (fun q _ _ => by unfold cn0; split <;> omega) (by rw [hsum]; decide) ⟨by rw [f4]; rfl, fun i _ x hx => by simp at hx⟩
    rw [hsum] at r
    refine Ev_bind r ?_
    rintro ⟨J2, M2⟩ ⟨r1, r2, r3, r4, r5⟩
    dsimp only at r1 r2 r3 r4 r5 ⊢
    refine Ev_ret ⟨r1, fun a i h1 h2 => ?_, ?_, ?_, r5, Or.inr rfl⟩
    · exact (r2 a i (by omega) (by omega) (by omega) (by omega) (by omega)).trans (f1 a i h1 (by omega))
    · exact (r2 _ _ (by omega) (by omega) (by omega) (by omega) (by omega)).trans f5
    · exact (r2 _ _ (by omega) (by omega) (by omega) (by omega) (by omega)).trans f6
  refine ev_82_0 ?_
  refine Ev_t t0 (Ev_t o0 ?_)
  by_cases c1 : J tr 13 = J a0 5
  · refine Ev_t c1 (Ev_t o0 ?_)
    by_cases c2 : ow = J a0 6
    · refine Ev_t c2 (Ev_ret ⟨rfl, fun a i _ _ => rfl, c1.symm, c2.symm, ?_, Or.inl ⟨rfl, rfl⟩⟩)
      rw [c2]
      exact hC c1 W nw hW
    · exact Ev_f c2 new
  · exact Ev_f c1 new
/-- the cuttings of class c stand for the tree and the hall as they are -/
def CuN (J : JI) (tr : Nat) (ρ : Int → Int) (c : Nat) : Prop := J (58 + 5 * c) 5 = J tr 13 ∧ (∀ w, 0 ≤ w → w < ρ 9 → btO (J (58 + 5 * c) 6) w = clp 1 (tls ρ 2 w c 0 (ρ 8).toNat)) ∧ CuT J (58 + 5 * c) tr
theorem AskO_W {J : JI} {ρ : Int → Int} (hA : AskO J tr ρ) (h11 : J tr 11 = ρ 9) : TrW J tr (fun i => ρ (290 + i)) (ρ 9).toNat := by
  obtain ⟨hTT, h8, h9, h4, h6⟩ := hA
  refine ⟨by omega, by omega, fun v a b => ?_⟩
  obtain ⟨a1, a2, a3, _⟩ := hTT.1.1 v a (by omega)
  exact ⟨a2, a1, fun p c d => a3 p c d⟩
theorem CuN_L {J : JI} {ρ : Int → Int} {c : Nat} (hA : AskO J tr ρ) (h11 : J tr 11 = ρ 9) (h : CuN J tr ρ c) : LsO (J (58 + 5 * c) 4) (J (58 + 5 * c + 1)) (J (58 + 5 * c + 2)) (cuS ρ c) := by
  have q := h.2.2 h.1.symm _ _ (AskO_W hA h11)
  have e : cuS ρ c = En (fun i => ρ (290 + i)) (btO (J (58 + 5 * c) 6)) (ρ 9).toNat 10 cn0 (fun _ => 0) := by
    unfold cuS
    refine En_c (fun w a b => ⟨?_, rfl, fun _ _ _ => rfl⟩) _ _ _
    exact (h.2.1 w a (by have := hA.2.2.1; omega)).symm
  rw [e]
  exact q
theorem CuT_c {J J' : JI} {T : Nat} (h13 : J' T 13 = J T 13) (hT : ∀ a i, T ≤ a → a ≤ T + 10 → J' a i = J a i) (hc : ∀ a i, a0 ≤ a → a ≤ a0 + 2 → J' a i = J a i) (h : CuT J a0 T) : CuT J' a0 T := by
  intro e W nw hW
  rw [hc a0 4 (by omega) (by omega), hc a0 6 (by omega) (by omega)]
  rw [h13, hc a0 5 (by omega) (by omega)] at e
  exact LsO_c (fun i _ _ => ⟨hc _ _ (by omega) (by omega), hc _ _ (by omega) (by omega)⟩) (h e W nw (TrW_c (fun a i x y => (hT a i x y).symm) hW))
theorem CuN_c {J J' : JI} {ρ : Int → Int} {c : Nat} (hT : ∀ a i, tr ≤ a → a ≤ tr + 10 → J' a i = J a i) (hc : ∀ a i, 58 + 5 * c ≤ a → a ≤ 58 + 5 * c + 2 → J' a i = J a i) (h : CuN J tr ρ c) : CuN J' tr ρ c :=
  ⟨by rw [hc _ _ (by omega) (by omega), hT _ _ (by omega) (by omega)]; exact h.1, by rw [hc _ _ (by omega) (by omega)]; exact h.2.1, CuT_c (hT _ _ (by omega) (by omega)) hT hc h.2.2⟩
/-- renewCuttings has changed no more than this -/
def Fr81 (J J' : JI) : Prop := ∀ a i, ¬ (a = 21 ∧ (i = 3 ∨ i = 4)) → ¬ a = 22 → ¬ a = 23 → ¬ (58 ≤ a ∧ a ≤ 72) → ¬ (a = 24 ∧ 12 ≤ i ∧ i ≤ 15) → J' a i = J a i
def Q81 (J J' : JI) : Prop := (∀ a i, ¬ (a = 21 ∧ (i = 3 ∨ i = 4)) → ¬ a = 22 → ¬ a = 23 → ¬ (a = 24 ∧ i = 13) → J' a i = J a i) ∨ (J' 24 14 = 1 ∧ J' 24 15 = 1 ∧ J' 24 12 = J 24 12 + 1)
theorem K81 {dp : Nat} {J : JI} {ρ : Int → Int} (htr : tr = 9 ∨ tr = 93) (hT : TrO e tr) (h17 : e.2.2 1 7 = some tr) (hO : ∀ c : Nat, c < 3 → CtO e (58 + 5 * c) ∧ e.2.2 25 c = some (58 + 5 * c)) (hd : 15 ≤ dp) (hA : AskO J tr ρ) (hC : ClsO J tr ρ) (hE : 0 ≤ J 24 12 ∧ J 24 12 ≤ 1000000) (hU : ∀ c : Nat, c < 3 → CuT J (58 + 5 * c) tr) (h0 : J 24 13 = 0 → ∀ c : Nat, c < 3 → CuN J tr ρ c) : Ev (fun n => kf_81 n dp e 0 J M 0 0 0 0) (fun r => r.2 = M ∧ Fr81 J r.1 ∧ r.1 24 13 = 0 ∧ (∀ c : Nat, c < 3 → CuN r.1 tr ρ c) ∧ Q81 J r.1) := by
  refine ev_81_0 ?_
  refine Ev_c (fun z => Ev_ret ⟨rfl, fun _ _ _ _ _ _ _ => rfl, z, h0 z, Or.inl (fun _ _ _ _ _ _ => rfl)⟩) (fun z => ?_)
  clear h0
  obtain ⟨hTT, h8, h9, h4, h6⟩ := hA
  have hA : AskO J tr ρ := ⟨hTT, h8, h9, h4, h6⟩
  obtain ⟨c1, c2, c3, c4, c5⟩ := hC
  have hW := AskO_W hA c5
  obtain ⟨NW, hN⟩ : ∃ NW : Nat, (NW : Int) = ρ 9 := ⟨(ρ 9).toNat, by omega⟩
  have key : ∀ cc : Nat, cc ≤ 3 → ∀ (J1 : JI) (f : Int), (∀ a i, ¬ (a = 21 ∧ (i = 3 ∨ i = 4)) → ¬ a = 22 → ¬ a = 23 → ¬ (58 ≤ a ∧ a ≤ 72) → J1 a i = J a i) → (∀ a i, 58 + 5 * cc ≤ a → a ≤ 72 → J1 a i = J a i) → (∀ c : Nat, c < cc → CuN J1 tr ρ c) → ((f = 0 ∧ ∀ a i, ¬ (a = 21 ∧ (i = 3 ∨ i = 4)) → ¬ a = 22 → ¬ a = 23 → J1 a i = J a i) ∨ f = 1) → Ev (fun n => kf_81 n dp e 1 J1 M f cc 0 0) (fun r => r.2 = M ∧ Fr81 J r.1 ∧ r.1 24 13 = 0 ∧ (∀ c : Nat, c < 3 → CuN r.1 tr ρ c) ∧ Q81 J r.1) := by
    refine dec_ind 3 (fun cc hcc ih => ?_)
    intro J1 f k1 k2 k3 k4
    refine ev_81_1 ?_
    by_cases ck : cc < 3
    · have ih := ih ck
      refine Ev_f (by omega) ?_
      have ways : ∀ w : Nat, w ≤ NW → ∀ (J2 : JI) (x : Int), (∀ a i, ¬ (a = 21 ∧ (i = 3 ∨ i = 4)) → ¬ a = 22 → ¬ a = 23 → J2 a i = J1 a i) → (0 ≤ x ∧ x < 65536) → (∀ v : Int, 0 ≤ v → v < 16 → btO x v = if v < w then clp 1 (tls ρ 2 v cc 0 (ρ 8).toNat) else 0) → Ev (fun n => kf_81 n dp e 2 J2 M f cc x w) (fun r => r.2 = M ∧ Fr81 J r.1 ∧ r.1 24 13 = 0 ∧ (∀ c : Nat, c < 3 → CuN r.1 tr ρ c) ∧ Q81 J r.1) := by
        refine dec_ind NW (fun w hw iw => ?_)
        intro J2 x m1 m2 m3
        have fr : ∀ a i, ¬ (a = 21 ∧ (i = 3 ∨ i = 4)) → ¬ a = 22 → ¬ a = 23 → ¬ (58 ≤ a ∧ a ≤ 72) → J2 a i = J a i := fun a i d1 d2 d3 d4 => (m1 a i d1 d2 d3).trans (k1 a i d1 d2 d3 d4)
        have hTr : ∀ a i, tr ≤ a → a ≤ tr + 10 → J2 a i = J a i := fun a i d1 d2 => fr a i (by omega) (by omega) (by omega) (by omega)
        have hA2 : AskO J2 tr ρ := ⟨TrT_j (fun a i d1 d2 => hTr a i (by omega) d2) hTT, h8, h9, h4, h6⟩
        have hC2 : ClsO J2 tr ρ := ⟨fun v a b => by rw [hTr _ _ (by omega) (by omega)]; exact c1 v a b, by rw [fr _ _ (by omega) (by omega) (by omega) (by omega)]; exact c2, fun i a b => by rw [fr _ _ (by omega) (by omega) (by omega) (by omega)]; exact c3 i a b, by rw [hTr _ _ (by omega) (by omega)]; exact c4, by rw [hTr _ _ (by omega) (by omega)]; exact c5⟩
        refine ev_81_2 ?_
        refine Ev_R h17 (Ev_t hT.1 ?_)
        have e11 : J2 tr 11 = NW := by rw [hC2.2.2.2.2, hN]
        by_cases cw : w < NW
        · have iw := iw cw
          refine Ev_f (by omega) (Ev_t (by omega) (Ev_bind (K70 (dp := dp - 1) htr hT h17 (by omega) hA2 hC2 (by omega) (by omega)) ?_))
          rintro ⟨u, J3, M3⟩ ⟨y1, y2, y3⟩
          dsimp only at y1 y2 y3 ⊢
          subst y1
          have ub : u = 0 ∨ u = 1 := by rw [y3]; unfold clp; omega
          have m1' : ∀ a i, ¬ (a = 21 ∧ (i = 3 ∨ i = 4)) → ¬ a = 22 → ¬ a = 23 → J3 a i = J1 a i := fun a i d1 d2 d3 => (y2 a i d1 d2 d3).trans (m1 a i d1 d2 d3)
          refine Ev_c (fun zu => ?_) (fun zu => Ev_st ?_)
          · refine ev_81_3 ?_
            refine Ev_t (by omega) (iw J3 x m1' m2 (fun v a b => ?_))
            rw [m3 v a b]
            by_cases vw : v = w
            · rw [if_neg (by omega), if_pos (by omega), vw, ← y3, zu]
            · by_cases vl : v < w
              · rw [if_pos vl, if_pos (by omega)]
              · rw [if_neg vl, if_neg (by omega)]
          · refine ev_81_3 ?_
            obtain ⟨b1, b2, b3⟩ := bO_16 m2 (show w < 16 by omega)
            refine Ev_t (by omega) (iw J3 _ m1' ⟨b2, b3⟩ (fun v a b => ?_))
            rw [btO_s m2 (by omega) ⟨a, b⟩]
            by_cases vw : v = w
            · rw [if_pos vw, if_pos (by omega), vw, ← y3]; omega
            · rw [if_neg vw, m3 v a b]
              by_cases vl : v < w
              · rw [if_pos vl, if_pos (by omega)]
              · rw [if_neg vl, if_neg (by omega)]
        · have ew : w = NW := by omega
          subst ew
          obtain ⟨oc1, oc2⟩ := hO cc ck
          have hs : 58 + 5 * cc = 58 ∨ 58 + 5 * cc = 63 ∨ 58 + 5 * cc = 68 := by omega
          refine Ev_t (by omega) (Ev_t (by omega) ?_)
          rw [Int.toNat_natCast]
          refine Ev_R oc2 (Ev_R h17 (Ev_t oc1.1 (Ev_t (by omega) ?_)))
          have hU2 : CuT J2 (58 + 5 * cc) tr := CuT_c (hTr _ _ (by omega) (by omega)) hTr (fun a i d1 d2 => by rw [m1 a i (by omega) (by omega) (by omega)]; exact k2 a i d1 (by omega)) (hU cc ck)
          refine Ev_bind (K82 (dp := dp - 1) hs htr oc1 hT (by omega) (AskO_W hA2 hC2.2.2.2.2) hU2) ?_
          rintro ⟨u, J3, M3⟩ ⟨y1, y2, y3, y4, y5, y6⟩
          dsimp only at y1 y2 y3 y4 y5 y6 ⊢
          subst y1
          have hTr3 : ∀ a i, tr ≤ a → a ≤ tr + 10 → J3 a i = J2 a i := fun a i d1 d2 => y2 a i (by omega) (by omega)
          refine Ev_t (by omega) (ih J3 _ (fun a i d1 d2 d3 d4 => (y2 a i (by omega) (by omega)).trans (fr a i d1 d2 d3 d4)) (fun a i d1 d2 => ?_) (fun c hc => ?_) ?_)
          · rw [y2 a i (by omega) (by omega), m1 a i (by omega) (by omega) (by omega)]
            exact k2 a i (by omega) d2
          · by_cases zc : c = cc
            · subst zc
              refine ⟨by rw [y3, hTr3 _ _ (by omega) (by omega)], fun v a b => ?_, fun _ W nw hW' => ?_⟩
              · rw [y4, m3 v a (by omega), if_pos (by omega)]
              · rw [y4]
                have e2 : En W (btO x) nw 10 cn0 (fun _ => 0) = En (fun i => ρ (290 + i)) (btO x) (ρ 9).toNat 10 cn0 (fun _ => 0) := by
                  have hx := AskO_W hA2 hC2.2.2.2.2
                  have hW'' := TrW_c (fun a i x y => (hTr3 a i x y).symm) hW'
                  have en : nw = (ρ 9).toNat := by have := hx.1; have := hW''.1; omega
                  subst en
                  refine En_c (fun w a b => ?_) _ _ _
                  obtain ⟨p1, p2, p3⟩ := hx.2.2 w a b
                  obtain ⟨q1, q2, q3⟩ := hW''.2.2 w a b
                  exact ⟨rfl, q1.symm.trans p1, fun q g1 g2 => (q3 q g1 g2).1.symm.trans (p3 q g1 g2).1⟩
                rw [e2]
                exact y5
            · exact CuN_c (fun a i d1 d2 => (hTr3 a i d1 d2).trans (m1 a i (by omega) (by omega) (by omega))) (fun a i d1 d2 => by rw [y2 a i (by omega) (by omega)]; exact m1 a i (by omega) (by omega) (by omega)) (k3 c (by omega))
          · rcases k4 with ⟨rfl, k4⟩ | rfl
            · rcases y6 with ⟨rfl, rfl⟩ | rfl
              · exact Or.inl ⟨by decide, fun a i d1 d2 d3 => (m1 a i d1 d2 d3).trans (k4 a i d1 d2 d3)⟩
              · exact Or.inr (by decide)
            · rcases y6 with ⟨rfl, _⟩ | rfl
              · exact Or.inr (by decide)
              · exact Or.inr (by decide)
      refine ways 0 (by omega) J1 0 (fun _ _ _ _ _ => rfl) (by omega) (fun v a b => ?_)
      rw [btO_0 ⟨a, b⟩, if_neg (by omega)]
    · have : cc = 3 := by omega
      subst this
      refine Ev_t (by decide) (Ev_st ?_)
      have nn : ∀ (a : Nat) (i : Int), ¬ (a = 24 ∧ i = 13) → w2 J1 24 13 0 a i = J1 a i := fun a i h => w2_n h
      rcases k4 with ⟨rfl, k4⟩ | rfl
      · refine Ev_t (by first | trivial | rfl) (Ev_ret ⟨rfl, fun a i d1 d2 d3 d4 d5 => ?_, by show w2 J1 24 13 0 24 13 = 0; rw [w2_ap, if_pos ⟨rfl, rfl⟩], fun c hc => ?_, Or.inl (fun a i d1 d2 d3 d4 => ?_)⟩)
        · exact (nn a i (by omega)).trans (k1 a i d1 d2 d3 d4)
        · exact CuN_c (fun a i _ _ => nn a i (by omega)) (fun a i _ _ => nn a i (by omega)) (k3 c hc)
        · exact (nn a i d4).trans (k4 a i d1 d2 d3)
      · have e12 : w2 J1 24 13 0 24 12 = J 24 12 := (nn _ _ (by omega)).trans (k1 _ _ (by omega) (by omega) (by omega) (by omega))
        refine Ev_f (by omega) (Ev_t (by omega) (Ev_bind (K25 (by rw [e12]; exact hE)) ?_))
        rintro _ rfl
        dsimp only
        refine Ev_ret ⟨rfl, fun a i d1 d2 d3 d4 d5 => ?_, ?_, fun c hc => ?_, Or.inr ⟨?_, ?_, ?_⟩⟩
        · dsimp only; rw [w2_n (by omega), w2_n (by omega), w2_n (by omega), nn a i (by omega)]; exact k1 a i d1 d2 d3 d4
        · dsimp only; rw [w2_n (by omega), w2_n (by omega), w2_n (by omega), w2_ap, if_pos ⟨rfl, rfl⟩]
        · exact CuN_c (fun a i _ _ => by dsimp only; rw [w2_n (by omega), w2_n (by omega), w2_n (by omega), nn a i (by omega)]) (fun a i _ _ => by dsimp only; rw [w2_n (by omega), w2_n (by omega), w2_n (by omega), nn a i (by omega)]) (k3 c hc)
        · dsimp only; rw [w2_n (by omega), w2_n (by omega), w2_ap, if_pos ⟨rfl, rfl⟩]
        · dsimp only; rw [w2_n (by omega), w2_ap, if_pos ⟨rfl, rfl⟩]
        · dsimp only; rw [w2_ap, if_pos ⟨rfl, rfl⟩, e12]
  exact key 0 (by omega) J 0 (fun _ _ _ _ _ _ => rfl) (fun _ _ _ _ => rfl) (fun c hc => by omega) (Or.inl ⟨rfl, fun _ _ _ _ _ => rfl⟩)
end RN
