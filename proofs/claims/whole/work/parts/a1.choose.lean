section
set_option maxRecDepth 100000 in
theorem ev_85_0 {dp : Nat} {e : EN} {I : JI} {L : JI} {i1 : Int} {i2 : Int} {i3 : Int} {a0 : Nat} {P_ : (Int × JI × JI) → Prop} (h : Ev (fun n => (kf_85 n dp e 1 I L i1 0 0 a0)) P_) : Ev (fun n => kf_85 n dp e 0 I L i1 i2 i3 a0) P_ := Ev_step (fun n => ke_85_0 n dp e I L i1 i2 i3 a0) h
set_option maxRecDepth 100000 in
theorem ev_85_1 {dp : Nat} {e : EN} {I : JI} {L : JI} {i1 : Int} {i2 : Int} {i3 : Int} {a0 : Nat} {P_ : (Int × JI × JI) → Prop} (h : Ev (fun n => (if 10 ≤ i3 then (some ((i2 : Int), I, L)) else (if (a0 < e.1) ∧ ((e.2.1 a0).1 = 10) then ((e.2.2 a0 7).bind (fun b_12 => (if (-2147483648 ≤ i1 * 10 ∧ i1 * 10 ≤ 2147483647) ∧ (-2147483648 ≤ (i1 * 10) + i3 ∧ (i1 * 10) + i3 ≤ 2147483647) then (if ((b_12 < e.1) ∧ (((e.2.1 b_12).1 = 13) ∧ ((e.2.1 b_12).2 < (2 ^ 31)))) ∧ (0 ≤ ((i1 * 10) + i3) ∧ ((i1 * 10) + i3) < (((e.2.1 b_12).2 : Nat) : Int)) then (if -2147483648 ≤ i2 + (I b_12 ((i1 * 10) + i3)) ∧ i2 + (I b_12 ((i1 * 10) + i3)) ≤ 2147483647 then (stI (i2 + (I b_12 ((i1 * 10) + i3))) (fun v_23 => (if -2147483648 ≤ i3 + 1 ∧ i3 + 1 ≤ 2147483647 then (kf_85 n dp e 1 I L i1 v_23 (i3 + 1) a0) else none))) else none) else none) else none))) else none))) P_) : Ev (fun n => kf_85 n dp e 1 I L i1 i2 i3 a0) P_ := Ev_step (fun n => ke_85_1 n dp e I L i1 i2 i3 a0) h
set_option maxRecDepth 100000 in
theorem ev_86_0 {dp : Nat} {e : EN} {I : JI} {L : JI} {i2 : Int} {i3 : Int} {i4 : Int} {a0 : Nat} {a1 : Nat} {P_ : (JI × JI) → Prop} (h : Ev (fun n => (kf_86 n dp e 1 I L i2 i3 0 a0 a1)) P_) : Ev (fun n => kf_86 n dp e 0 I L i2 i3 i4 a0 a1) P_ := Ev_step (fun n => ke_86_0 n dp e I L i2 i3 i4 a0 a1) h
set_option maxRecDepth 100000 in
theorem ev_86_1 {dp : Nat} {e : EN} {I : JI} {L : JI} {i2 : Int} {i3 : Int} {i4 : Int} {a0 : Nat} {a1 : Nat} {P_ : (JI × JI) → Prop} (h : Ev (fun n => (if 10 ≤ i4 then (some (I, L)) else (if (a0 < e.1) ∧ ((e.2.1 a0).1 = 2) then ((e.2.2 a0 3).bind (fun b_11 => (if ((b_11 < e.1) ∧ (((e.2.1 b_11).1 = 13) ∧ ((e.2.1 b_11).2 < (2 ^ 31)))) ∧ (0 ≤ i4 ∧ i4 < (((e.2.1 b_11).2 : Nat) : Int)) then (if (a1 < e.1) ∧ ((e.2.1 a1).1 = 10) then ((e.2.2 a1 7).bind (fun b_20 => (if (-2147483648 ≤ i2 * 10 ∧ i2 * 10 ≤ 2147483647) ∧ (-2147483648 ≤ (i2 * 10) + i4 ∧ (i2 * 10) + i4 ≤ 2147483647) then (if ((b_20 < e.1) ∧ (((e.2.1 b_20).1 = 13) ∧ ((e.2.1 b_20).2 < (2 ^ 31)))) ∧ (0 ≤ ((i2 * 10) + i4) ∧ ((i2 * 10) + i4) < (((e.2.1 b_20).2 : Nat) : Int)) then (if ((b_11 < e.1) ∧ (((e.2.1 b_11).1 = 13) ∧ ((e.2.1 b_11).2 < (2 ^ 31)))) ∧ (0 ≤ i4 ∧ i4 < (((e.2.1 b_11).2 : Nat) : Int)) then (if (-2147483648 ≤ i3 * (I b_20 ((i2 * 10) + i4)) ∧ i3 * (I b_20 ((i2 * 10) + i4)) ≤ 2147483647) ∧ (-2147483648 ≤ (I b_11 i4) + (i3 * (I b_20 ((i2 * 10) + i4))) ∧ (I b_11 i4) + (i3 * (I b_20 ((i2 * 10) + i4))) ≤ 2147483647) then (stI (w2 I b_11 i4 ((I b_11 i4) + (i3 * (I b_20 ((i2 * 10) + i4))))) (fun I_33 => (if -2147483648 ≤ i4 + 1 ∧ i4 + 1 ≤ 2147483647 then (kf_86 n dp e 1 I_33 L i2 i3 (i4 + 1) a0 a1) else none))) else none) else none) else none) else none))) else none) else none))) else none))) P_) : Ev (fun n => kf_86 n dp e 1 I L i2 i3 i4 a0 a1) P_ := Ev_step (fun n => ke_86_1 n dp e I L i2 i3 i4 a0 a1) h
set_option maxRecDepth 100000 in
theorem ev_84_2 {dp : Nat} {e : EN} {I : JI} {L : JI} {i1 : Int} {a0 : Nat} {P_ : (JI × JI) → Prop} (h : Ev (fun n => (if (a0 < e.1) ∧ ((e.2.1 a0).1 = 2) then (if (a0 < e.1) ∧ ((e.2.1 a0).1 = 2) then (if -2147483648 ≤ (I a0 4) + 1 ∧ (I a0 4) + 1 ≤ 2147483647 then (stI (w2 I a0 4 ((I a0 4) + 1)) (fun I_84 => (some (I_84, L)))) else none) else none) else none)) P_) : Ev (fun n => kf_84 n dp e 2 I L i1 a0) P_ := Ev_step (fun n => ke_84_2 n dp e I L i1 a0) h
set_option maxRecDepth 100000 in
theorem ev_84_1 {dp : Nat} {e : EN} {I : JI} {L : JI} {i1 : Int} {a0 : Nat} {P_ : (JI × JI) → Prop} (h : Ev (fun n => (if 10 ≤ i1 then (kf_84 n dp e 2 I L 0 a0) else (if (a0 < e.1) ∧ ((e.2.1 a0).1 = 2) then ((e.2.2 a0 0).bind (fun b_18 => (if (a0 < e.1) ∧ ((e.2.1 a0).1 = 2) then (if (a0 < e.1) ∧ ((e.2.1 a0).1 = 2) then ((e.2.2 a0 2).bind (fun b_31 => (if ((b_31 < e.1) ∧ (((e.2.1 b_31).1 = 13) ∧ ((e.2.1 b_31).2 < (2 ^ 31)))) ∧ (0 ≤ i1 ∧ i1 < (((e.2.1 b_31).2 : Nat) : Int)) then (if (-2147483648 ≤ (I a0 4) * 10 ∧ (I a0 4) * 10 ≤ 2147483647) ∧ (-2147483648 ≤ ((I a0 4) * 10) + i1 ∧ ((I a0 4) * 10) + i1 ≤ 2147483647) then (if ((b_18 < e.1) ∧ (((e.2.1 b_18).1 = 13) ∧ ((e.2.1 b_18).2 < (2 ^ 31)))) ∧ (0 ≤ (((I a0 4) * 10) + i1) ∧ (((I a0 4) * 10) + i1) < (((e.2.1 b_18).2 : Nat) : Int)) then (stI (w2 I b_18 (((I a0 4) * 10) + i1) (I b_31 i1)) (fun I_36 => (if (a0 < e.1) ∧ ((e.2.1 a0).1 = 2) then ((e.2.2 a0 1).bind (fun b_38 => (if (a0 < e.1) ∧ ((e.2.1 a0).1 = 2) then (if (a0 < e.1) ∧ ((e.2.1 a0).1 = 2) then ((e.2.2 a0 2).bind (fun b_51 => (if ((b_51 < e.1) ∧ (((e.2.1 b_51).1 = 13) ∧ ((e.2.1 b_51).2 < (2 ^ 31)))) ∧ (0 ≤ i1 ∧ i1 < (((e.2.1 b_51).2 : Nat) : Int)) then (if (I_36 b_51 i1) = (-1) then (if (a0 < e.1) ∧ ((e.2.1 a0).1 = 2) then ((e.2.2 a0 3).bind (fun b_61 => (if ((b_61 < e.1) ∧ (((e.2.1 b_61).1 = 13) ∧ ((e.2.1 b_61).2 < (2 ^ 31)))) ∧ (0 ≤ i1 ∧ i1 < (((e.2.1 b_61).2 : Nat) : Int)) then (if (-2147483648 ≤ (I_36 a0 4) * 10 ∧ (I_36 a0 4) * 10 ≤ 2147483647) ∧ (-2147483648 ≤ ((I_36 a0 4) * 10) + i1 ∧ ((I_36 a0 4) * 10) + i1 ≤ 2147483647) then (if ((b_38 < e.1) ∧ (((e.2.1 b_38).1 = 13) ∧ ((e.2.1 b_38).2 < (2 ^ 31)))) ∧ (0 ≤ (((I_36 a0 4) * 10) + i1) ∧ (((I_36 a0 4) * 10) + i1) < (((e.2.1 b_38).2 : Nat) : Int)) then (stI (w2 I_36 b_38 (((I_36 a0 4) * 10) + i1) (I_36 b_61 i1)) (fun I_70 => (if -2147483648 ≤ i1 + 1 ∧ i1 + 1 ≤ 2147483647 then (kf_84 n dp e 1 I_70 L (i1 + 1) a0) else none))) else none) else none) else none))) else none) else (if (-2147483648 ≤ (I_36 a0 4) * 10 ∧ (I_36 a0 4) * 10 ≤ 2147483647) ∧ (-2147483648 ≤ ((I_36 a0 4) * 10) + i1 ∧ ((I_36 a0 4) * 10) + i1 ≤ 2147483647) then (if ((b_38 < e.1) ∧ (((e.2.1 b_38).1 = 13) ∧ ((e.2.1 b_38).2 < (2 ^ 31)))) ∧ (0 ≤ (((I_36 a0 4) * 10) + i1) ∧ (((I_36 a0 4) * 10) + i1) < (((e.2.1 b_38).2 : Nat) : Int)) then (stI (w2 I_36 b_38 (((I_36 a0 4) * 10) + i1) 0) (fun I_70 => (if -2147483648 ≤ i1 + 1 ∧ i1 + 1 ≤ 2147483647 then (kf_84 n dp e 1 I_70 L (i1 + 1) a0) else none))) else none) else none)) else none))) else none) else none))) else none))) else none) else none) else none))) else none) else none))) else none))) P_) : Ev (fun n => kf_84 n dp e 1 I L i1 a0) P_ := Ev_step (fun n => ke_84_1 n dp e I L i1 a0) h
set_option maxRecDepth 100000 in
theorem ev_84_0 {dp : Nat} {e : EN} {I : JI} {L : JI} {i1 : Int} {a0 : Nat} {P_ : (JI × JI) → Prop} (h : Ev (fun n => (if (a0 < e.1) ∧ ((e.2.1 a0).1 = 2) then (if 64 ≤ (I a0 4) then (kf_84 n dp e 2 I L 0 a0) else (kf_84 n dp e 1 I L 0 a0)) else none)) P_) : Ev (fun n => kf_84 n dp e 0 I L i1 a0) P_ := Ev_step (fun n => ke_84_0 n dp e I L i1 a0) h
end
/-! CUTTINGS: the class's -/
def CtO (e : EN) (a0 : Nat) : Prop := (a0 < e.1 ∧ (e.2.1 a0).1 = 2) ∧ (e.2.2 a0 0 = some (a0 + 1) ∧ arO e (a0 + 1) 640) ∧ (e.2.2 a0 1 = some (a0 + 2) ∧ arO e (a0 + 2) 640) ∧ (e.2.2 a0 2 = some (a0 + 3) ∧ arO e (a0 + 3) 10) ∧ (e.2.2 a0 3 = some (a0 + 4) ∧ arO e (a0 + 4) 10)
def CmR (J : JI) (a0 : Nat) (p : Int) (cnt ch : Int → Int) : Prop := ∀ q, 0 ≤ q → q < 10 → (0 ≤ J (a0 + 4) q ∧ J (a0 + 4) q ≤ 200) ∧ (q < p → J (a0 + 3) q = ch q ∧ (ch q = -1 → J (a0 + 4) q = cnt q) ∧ (¬ ch q = -1 → cnt q = 0)) ∧ (p ≤ q → J (a0 + 4) q = cnt q)
def FrX (a0 : Nat) (J J' : JI) : Prop := ∀ a i, ¬ (a = a0 ∧ i = 4) → ¬ a = a0 + 1 → ¬ a = a0 + 2 → ¬ a = a0 + 3 → ¬ a = a0 + 4 → J' a i = J a i
def TrW (J : JI) (tr : Nat) (W : Int → Int) (nw : Nat) : Prop := J tr 11 = nw ∧ nw ≤ 16 ∧ ∀ w : Int, 0 ≤ w → w < nw → J (tr + 6) w = W (11 * w) ∧ (0 ≤ W (11 * w) ∧ W (11 * w) ≤ 9) ∧ ∀ q, 0 ≤ q → q < 10 → J (tr + 8) (w * 10 + q) = W (11 * w + 1 + q) ∧ 0 ≤ W (11 * w + 1 + q) ∧ W (11 * w + 1 + q) ≤ 3600 ∧ (q ≤ W (11 * w) → W (11 * w + 1 + q) = 0)
theorem TrW_c {J J' : JI} {tr : Nat} {W : Int → Int} {nw : Nat} (hj : ∀ a i, tr ≤ a → a ≤ tr + 10 → J' a i = J a i) (h : TrW J tr W nw) : TrW J' tr W nw :=
  ⟨(hj _ _ (by omega) (by omega)).trans h.1, h.2.1, fun w a b => ⟨(hj _ _ (by omega) (by omega)).trans (h.2.2 w a b).1, (h.2.2 w a b).2.1, fun q c d => ⟨(hj _ _ (by omega) (by omega)).trans ((h.2.2 w a b).2.2 q c d).1, ((h.2.2 w a b).2.2 q c d).2⟩⟩⟩
section CH
variable {dp : Nat} {e : EN} {M : JI} {a0 tr : Nat} {W op : Int → Int} {nw : Nat}
theorem K85 {J : JI} {w x1 x2 : Int} (hT : TrO e tr) (hW : TrW J tr W nw) (hw : 0 ≤ w ∧ w < nw) : Ev (fun n => kf_85 n dp e 0 J M w x1 x2 tr) (fun r => r = (sm (fun q => W (11 * w + 1 + q)) 10, J, M)) := by
  have t8 := hT.2.2.2.2.2.2.2.2.1
  have h16 := hW.2.1
  have hq := (hW.2.2 w hw.1 hw.2).2.2
  refine ev_85_0 ?_
  have key : ∀ k : Nat, k ≤ 10 → Ev (fun n => kf_85 n dp e 1 J M w (sm (fun q => W (11 * w + 1 + q)) k) k tr) (fun r => r = (sm (fun q => W (11 * w + 1 + q)) 10, J, M)) := by
    refine dec_ind 10 (fun k hk ih => ?_)
    have b := sm_b (f := fun q => W (11 * w + 1 + q)) (B := 3600) k (fun i a b => ⟨(hq i a (by omega)).2.1, (hq i a (by omega)).2.2.1⟩)
    refine ev_85_1 ?_
    by_cases c : k < 10
    · have ih := ih c
      have q0 := hq k (by omega) (by omega)
      rw [sm_s] at ih
      refine Ev_f (by omega) (Ev_t hT.1 (Ev_R t8.1 (Ev_t (by omega) (Ev_t ⟨⟨t8.2.1, t8.2.2.1, by rw [t8.2.2.2]; decide⟩, by rw [t8.2.2.2]; omega⟩ ?_))))
      rw [q0.1]
      exact Ev_t (by omega) (Ev_st (Ev_t (by omega) ih))
    · have : k = 10 := by omega
      subst this
      exact Ev_t (by decide) (Ev_ret rfl)
  exact key 0 (by omega)
theorem K86 {J : JI} {w t x1 : Int} (hs : a0 = 58 ∨ a0 = 63 ∨ a0 = 68) (htr : tr = 9 ∨ tr = 93) (hO : CtO e a0) (hT : TrO e tr) (hW : TrW J tr W nw) (hw : 0 ≤ w ∧ w < nw) (ht : ∀ q, 0 ≤ q → q < 10 → -1000000 ≤ t * W (11 * w + 1 + q) ∧ t * W (11 * w + 1 + q) ≤ 1000000) (hc : ∀ q, 0 ≤ q → q < 10 → -1000000 ≤ J (a0 + 4) q ∧ J (a0 + 4) q ≤ 1000000) : Ev (fun n => kf_86 n dp e 0 J M w t x1 a0 tr) (fun r => r.2 = M ∧ (∀ a i, ¬ (a = a0 + 4 ∧ 0 ≤ i ∧ i < 10) → r.1 a i = J a i) ∧ ∀ q, 0 ≤ q → q < 10 → r.1 (a0 + 4) q = J (a0 + 4) q + t * W (11 * w + 1 + q)) := by
  have t8 := hT.2.2.2.2.2.2.2.2.1
  have o4 := hO.2.2.2.2
  have h16 := hW.2.1
  have hq := (hW.2.2 w hw.1 hw.2).2.2
  refine ev_86_0 ?_
  have key : ∀ k : Nat, k ≤ 10 → ∀ J1 : JI, (∀ a i, ¬ (a = a0 + 4 ∧ 0 ≤ i ∧ i < 10) → J1 a i = J a i) → (∀ q, 0 ≤ q → q < 10 → J1 (a0 + 4) q = J (a0 + 4) q + (if q < k then t * W (11 * w + 1 + q) else 0)) → Ev (fun n => kf_86 n dp e 1 J1 M w t k a0 tr) (fun r => r.2 = M ∧ (∀ a i, ¬ (a = a0 + 4 ∧ 0 ≤ i ∧ i < 10) → r.1 a i = J a i) ∧ ∀ q, 0 ≤ q → q < 10 → r.1 (a0 + 4) q = J (a0 + 4) q + t * W (11 * w + 1 + q)) := by
    refine dec_ind 10 (fun k hk ih => ?_)
    intro J1 f1 f2
    refine ev_86_1 ?_
    by_cases c : k < 10
    · have ih := ih c
      have q0 := (hq k (by omega) (by omega)).1
      have e8 : J1 (tr + 8) (w * 10 + k) = W (11 * w + 1 + k) := by rw [f1 _ _ (by omega)]; exact q0
      have e4 : J1 (a0 + 4) k = J (a0 + 4) k := by rw [f2 k (by omega) (by omega), if_neg (by omega)]; omega
      have tb := ht k (by omega) (by omega)
      have cb := hc k (by omega) (by omega)
      refine Ev_f (by omega) (Ev_t hO.1 (Ev_R o4.1 (Ev_t ⟨⟨o4.2.1, o4.2.2.1, by rw [o4.2.2.2]; decide⟩, by rw [o4.2.2.2]; omega⟩ (Ev_t hT.1 (Ev_R t8.1 (Ev_t (by omega) (Ev_t ⟨⟨t8.2.1, t8.2.2.1, by rw [t8.2.2.2]; decide⟩, by rw [t8.2.2.2]; omega⟩ (Ev_t ⟨⟨o4.2.1, o4.2.2.1, by rw [o4.2.2.2]; decide⟩, by rw [o4.2.2.2]; omega⟩ ?_))))))))
      rw [e8, e4]
      refine Ev_t (by omega) (Ev_st (Ev_t (by omega) (ih _ (fun a i h => ?_) (fun q a b => ?_))))
      · rw [w2_n (by omega)]; exact f1 a i h
      · by_cases z : q = k
        · subst z
          rw [w2_ap, if_pos ⟨rfl, rfl⟩, if_pos (by omega)]
        · rw [w2_n (by omega), f2 q a b]
          by_cases y : q < k
          · rw [if_pos y, if_pos (by omega)]
          · rw [if_neg y, if_neg (by omega)]
    · have : k = 10 := by omega
      subst this
      refine Ev_t (by decide) (Ev_ret ⟨rfl, f1, fun q a b => ?_⟩)
      dsimp only
      rw [f2 q a b, if_pos (by omega)]
  exact key 0 (by omega) J (fun _ _ _ => rfl) (fun q a b => by rw [if_neg (by omega)]; omega)
theorem K84 {J : JI} {x1 : Int} {cnt ch : Int → Int} {ls : List CT} (hs : a0 = 58 ∨ a0 = 63 ∨ a0 = 68) (hO : CtO e a0) (hm : J a0 4 ≤ 64) (hC : CmR J a0 10 cnt ch) (hL : LsO (J a0 4) (J (a0 + 1)) (J (a0 + 2)) ls) : Ev (fun n => kf_84 n dp e 0 J M x1 a0) (fun r => r.2 = M ∧ FrX a0 J r.1 ∧ (∀ q, r.1 (a0 + 4) q = J (a0 + 4) q) ∧ (∀ q, r.1 (a0 + 3) q = J (a0 + 3) q) ∧ LsO (r.1 a0 4) (r.1 (a0 + 1)) (r.1 (a0 + 2)) (ls ++ [(ch, cnt)])) := by
  obtain ⟨o0, o1, o2, o3, o4⟩ := hO
  have h1 := hL.1
  have two : ∀ J1 : JI, J1 a0 4 = J a0 4 → (∀ a i, ¬ a = a0 + 1 → ¬ a = a0 + 2 → J1 a i = J a i) → LsO (J a0 4 + 1) (J1 (a0 + 1)) (J1 (a0 + 2)) (ls ++ [(ch, cnt)]) → Ev (fun n => kf_84 n dp e 2 J1 M 0 a0) (fun r => r.2 = M ∧ FrX a0 J r.1 ∧ (∀ q, r.1 (a0 + 4) q = J (a0 + 4) q) ∧ (∀ q, r.1 (a0 + 3) q = J (a0 + 3) q) ∧ LsO (r.1 a0 4) (r.1 (a0 + 1)) (r.1 (a0 + 2)) (ls ++ [(ch, cnt)])) := by
    intro J1 z f l
    refine ev_84_2 ?_
    refine Ev_t o0 (Ev_t o0 (Ev_t (by omega) (Ev_st (Ev_ret ⟨rfl, fun a i c1 c2 c3 c4 c5 => ?_, fun q => ?_, fun q => ?_, ?_⟩))))
    · dsimp only; rw [w2_n c1]; exact f a i c2 c3
    · dsimp only; rw [w2_n (by omega)]; exact f _ _ (by omega) (by omega)
    · dsimp only; rw [w2_n (by omega)]; exact f _ _ (by omega) (by omega)
    · dsimp only
      rw [w2_ap, if_pos ⟨rfl, rfl⟩, z]
      exact LsO_c (fun i _ _ => ⟨w2_n (by omega), w2_n (by omega)⟩) l
  have len : (ls ++ [(ch, cnt)]).length = ls.length + 1 := by rw [List.length_append]; rfl
  have key : J a0 4 < 64 → ∀ k : Nat, k ≤ 10 → ∀ J1 : JI, (∀ a i, ¬ a = a0 + 1 → ¬ a = a0 + 2 → J1 a i = J a i) → (∀ i, i < 10 * J a0 4 → J1 (a0 + 1) i = J (a0 + 1) i ∧ J1 (a0 + 2) i = J (a0 + 2) i) → (∀ q : Int, 0 ≤ q → q < k → J1 (a0 + 1) (10 * J a0 4 + q) = ch q ∧ J1 (a0 + 2) (10 * J a0 4 + q) = cnt q) → Ev (fun n => kf_84 n dp e 1 J1 M k a0) (fun r => r.2 = M ∧ FrX a0 J r.1 ∧ (∀ q, r.1 (a0 + 4) q = J (a0 + 4) q) ∧ (∀ q, r.1 (a0 + 3) q = J (a0 + 3) q) ∧ LsO (r.1 a0 4) (r.1 (a0 + 1)) (r.1 (a0 + 2)) (ls ++ [(ch, cnt)])) := by
    intro hlt
    refine dec_ind 10 (fun k hk ih => ?_)
    intro J1 f1 f2 f3
    have z4 : J1 a0 4 = J a0 4 := f1 _ _ (by omega) (by omega)
    refine ev_84_1 ?_
    by_cases c : k < 10
    · have ih := ih c
      obtain ⟨cb, c1, _⟩ := hC k (by omega) (by omega)
      obtain ⟨c11, c12, c13⟩ := c1 (by omega)
      have e3 : J1 (a0 + 3) k = ch k := (f1 _ _ (by omega) (by omega)).trans c11
      have e4 : J1 (a0 + 4) k = J (a0 + 4) k := f1 _ _ (by omega) (by omega)
      have m10 : J a0 4 * 10 + (k : Int) = 10 * J a0 4 + k := by omega
      have fin : ∀ v : Int, v = cnt k → Ev (fun n => kf_84 n dp e 1 (w2 (w2 J1 (a0 + 1) (10 * J a0 4 + k) (ch k)) (a0 + 2) (10 * J a0 4 + k) v) M (k + 1) a0) (fun r => r.2 = M ∧ FrX a0 J r.1 ∧ (∀ q, r.1 (a0 + 4) q = J (a0 + 4) q) ∧ (∀ q, r.1 (a0 + 3) q = J (a0 + 3) q) ∧ LsO (r.1 a0 4) (r.1 (a0 + 1)) (r.1 (a0 + 2)) (ls ++ [(ch, cnt)])) := by
        intro v hv
        refine ih _ (fun a i g1 g2 => ?_) (fun i hi => ?_) (fun q a b => ?_)
        · rw [w2_n (by omega), w2_n (by omega)]; exact f1 a i g1 g2
        · rw [w2_n (by omega), w2_n (by omega), w2_n (by omega), w2_n (by omega)]; exact f2 i hi
        · by_cases z : q = k
          · subst z
            refine ⟨by rw [w2_n (by omega), w2_ap, if_pos ⟨rfl, rfl⟩], by rw [w2_ap, if_pos ⟨rfl, rfl⟩]; exact hv⟩
          · rw [w2_n (by omega), w2_n (by omega), w2_n (by omega), w2_n (by omega)]
            exact f3 q a (by omega)
      have s3 : ∀ v, (w2 J1 (a0 + 1) (10 * J a0 4 + k) v) (a0 + 3) k = ch k := fun v => by rw [w2_n (by omega)]; exact e3
      have s4 : ∀ v, (w2 J1 (a0 + 1) (10 * J a0 4 + k) v) (a0 + 4) k = J (a0 + 4) k := fun v => by rw [w2_n (by omega)]; exact e4
      have s0 : ∀ v, (w2 J1 (a0 + 1) (10 * J a0 4 + k) v) a0 4 = J a0 4 := fun v => by rw [w2_n (by omega)]; exact z4
      refine Ev_f (by omega) (Ev_t o0 (Ev_R o1.1 (Ev_t o0 (Ev_t o0 (Ev_R o3.1 (Ev_t ⟨⟨o3.2.1, o3.2.2.1, by rw [o3.2.2.2]; decide⟩, by rw [o3.2.2.2]; omega⟩ ?_))))))
      simp only [z4, e3, m10]
      refine Ev_t (by omega) (Ev_t ⟨⟨o1.2.1, o1.2.2.1, by rw [o1.2.2.2]; decide⟩, by rw [o1.2.2.2]; omega⟩ (Ev_st (Ev_t o0 (Ev_R o2.1 (Ev_t o0 (Ev_t o0 (Ev_R o3.1 (Ev_t ⟨⟨o3.2.1, o3.2.2.1, by rw [o3.2.2.2]; decide⟩, by rw [o3.2.2.2]; omega⟩ ?_))))))))
      simp only [s3, s4, s0, m10]
      refine Ev_c (fun y => Ev_t o0 (Ev_R o4.1 (Ev_t ⟨⟨o4.2.1, o4.2.2.1, by rw [o4.2.2.2]; decide⟩, by rw [o4.2.2.2]; omega⟩ (Ev_t (by omega) (Ev_t ⟨⟨o2.2.1, o2.2.2.1, by rw [o2.2.2.2]; decide⟩, by rw [o2.2.2.2]; omega⟩ (Ev_st (Ev_t (by omega) (fin _ ((s4 _).trans (c12 y)))))))))) (fun y => Ev_t (by omega) (Ev_t ⟨⟨o2.2.1, o2.2.2.1, by rw [o2.2.2.2]; decide⟩, by rw [o2.2.2.2]; omega⟩ (Ev_st (Ev_t (by omega) (fin _ (c13 y).symm)))))
    · have : k = 10 := by omega
      subst this
      refine Ev_t (by decide) (two J1 z4 f1 ⟨by rw [len]; omega, fun i hi x hx p a b => ?_⟩)
      by_cases y : i < ls.length
      · rw [List.getElem?_append_left y] at hx
        rw [(f2 _ (by omega)).1, (f2 _ (by omega)).2]
        exact hL.2 i hi x hx p a b
      · have yi : i = ls.length := by
          have := (List.getElem?_eq_some_iff.mp hx).1
          rw [len] at this
          omega
        rw [List.getElem?_append_right (by omega), yi, Nat.sub_self] at hx
        cases hx
        have e10 : 10 * ((i : Nat) : Int) + p = 10 * J a0 4 + p := by omega
        rw [e10]
        exact f3 p a (by omega)
  refine ev_84_0 ?_
  refine Ev_t o0 (Ev_c (fun z => two J rfl (fun _ _ _ _ => rfl) ?_) (fun z => key (by omega) 0 (by omega) J (fun _ _ _ _ => rfl) (fun _ _ => ⟨rfl, rfl⟩) (fun q a b => by omega)))
  refine ⟨by rw [len]; omega, fun i hi x hx p a b => ?_⟩
  rw [List.getElem?_append_left (by omega)] at hx
  exact hL.2 i hi x hx p a b
end CH
