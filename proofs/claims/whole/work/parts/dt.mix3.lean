section
set_option maxRecDepth 100000 in
theorem ev_167_1 {dp : Nat} {e : EN} {I : JI} {L : JI} {i1 : Int} {i2 : Int} {i3 : Int} {i4 : Int} {i5 : Int} {i6 : Int} {P_ : (JI × JI) → Prop} (h : Ev (fun n => (if (bL 1 (I 81 6)) ≤ i5 then (some (I, L)) else (if 0 ≤ i5 ∧ i5 < 256 then (stI (I 83 i5) (fun v_65 => (if v_65 < i2 then (kf_167 n dp e 2 I L i1 i2 i3 i4 i5 v_65) else (if v_65 ≤ i3 then (if 0 ≤ i5 ∧ i5 < 256 then (if (-2147483648 ≤ i4 + (I 84 i5) ∧ i4 + (I 84 i5) ≤ 2147483647) ∧ (-2147483648 ≤ v_65 * (I 81 10) ∧ v_65 * (I 81 10) ≤ 2147483647) ∧ (-2147483648 ≤ (i4 + (I 84 i5)) - (v_65 * (I 81 10)) ∧ (i4 + (I 84 i5)) - (v_65 * (I 81 10)) ≤ 2147483647) then (stI ((i4 + (I 84 i5)) - (v_65 * (I 81 10))) (fun v_100 => (if v_100 < 0 then (kf_167 n dp e 2 I L i1 i2 i3 i4 i5 v_65) else (if -2147483648 ≤ (I 81 12) + 1 ∧ (I 81 12) + 1 ≤ 2147483647 then (stI (w2 I 81 12 ((I 81 12) + 1)) (fun I_114 => (if (I_114 81 13) ≤ v_100 then (kf_167 n dp e 2 I_114 L i1 i2 i3 i4 i5 v_65) else (stI (w2 I_114 81 13 v_100) (fun I_129 => (if 1 ≤ dp then ((kf_168 n (dp - 1) e 0 I_129 L (bO (bL i1 (I_129 81 6)) i5) 0 0).bind (fun ⟨x0_143, I0_143, L0_143⟩ => (stI (w2 I0_143 81 14 x0_143) (fun I_146 => (kf_167 n dp e 2 I_146 L0_143 i1 i2 i3 i4 i5 v_65))))) else none)))))) else none)))) else none) else none) else (kf_167 n dp e 2 I L i1 i2 i3 i4 i5 v_65))))) else none))) P_) : Ev (fun n => kf_167 n dp e 1 I L i1 i2 i3 i4 i5 i6) P_ := Ev_step (fun n => ke_167_1 n dp e I L i1 i2 i3 i4 i5 i6) h
set_option maxRecDepth 100000 in
theorem ev_167_2 {dp : Nat} {e : EN} {I : JI} {L : JI} {i1 : Int} {i2 : Int} {i3 : Int} {i4 : Int} {i5 : Int} {i6 : Int} {P_ : (JI × JI) → Prop} (h : Ev (fun n => (if -2147483648 ≤ i5 + 1 ∧ i5 + 1 ≤ 2147483647 then (kf_167 n dp e 1 I L i1 i2 i3 i4 (i5 + 1) 0) else none)) P_) : Ev (fun n => kf_167 n dp e 2 I L i1 i2 i3 i4 i5 i6) P_ := Ev_step (fun n => ke_167_2 n dp e I L i1 i2 i3 i4 i5 i6) h
set_option maxRecDepth 100000 in
theorem ev_167_0 {dp : Nat} {e : EN} {I : JI} {L : JI} {i1 : Int} {i2 : Int} {i3 : Int} {i4 : Int} {i5 : Int} {i6 : Int} {P_ : (JI × JI) → Prop} (h : Ev (fun n => (if 0 ≤ i1 ∧ i1 < 256 then (if -2147483648 ≤ (I 81 8) - (I 85 i1) ∧ (I 81 8) - (I 85 i1) ≤ 2147483647 then (stI ((I 81 8) - (I 85 i1)) (fun v_11 => (if 0 ≤ i1 ∧ i1 < 256 then (if -2147483648 ≤ (I 81 9) - (I 85 i1) ∧ (I 81 9) - (I 85 i1) ≤ 2147483647 then (stI ((I 81 9) - (I 85 i1)) (fun v_23 => (if 0 ≤ i1 ∧ i1 < 256 then (if 0 ≤ i1 ∧ i1 < 256 then (if (-2147483648 ≤ (I 85 i1) * (I 81 10) ∧ (I 85 i1) * (I 81 10) ≤ 2147483647) ∧ (-2147483648 ≤ (I 86 i1) - ((I 85 i1) * (I 81 10)) ∧ (I 86 i1) - ((I 85 i1) * (I 81 10)) ≤ 2147483647) then (stI ((I 86 i1) - ((I 85 i1) * (I 81 10))) (fun v_42 => (kf_167 n dp e 1 I L i1 v_11 v_23 v_42 0 0))) else none) else none) else none))) else none) else none))) else none) else none)) P_) : Ev (fun n => kf_167 n dp e 0 I L i1 i2 i3 i4 i5 i6) P_ := Ev_step (fun n => ke_167_0 n dp e I L i1 i2 i3 i4 i5 i6) h
end
/-! MIX: the class seeks through both halves -/
theorem mxX {l h lo hi : Nat} (hl : l < 2 ^ lo) (hh : h < 2 ^ hi) : 2 ^ lo * h + l < 2 ^ (lo + hi) := by
  have a : 2 ^ lo * (h + 1) ≤ 2 ^ lo * 2 ^ hi := Nat.mul_le_mul_left _ hh
  rw [Nat.mul_add, Nat.mul_one] at a
  rw [Nat.pow_add]
  omega
theorem mxB_c {J J' : JI} {ρ : Int → Int} {nu : Nat → Nat} {lo hi : Nat} (h6 : J' 81 6 = J 81 6) (h7 : J' 81 7 = J 81 7) (h : ∀ a i, 82 ≤ a → a ≤ 86 → J' a i = J a i) (q : mxB J ρ nu lo hi) : mxB J' ρ nu lo hi := by
  obtain ⟨q1, q2, q3, q4, q5, q6, q7, q8, q9⟩ := q
  exact ⟨q1, q2, fun j hj => by rw [h _ _ (by omega) (by omega)]; exact q3 j hj, h6.trans q4, h7.trans q5, fun x hx => by rw [h _ _ (by omega) (by omega)]; exact q6 x hx, fun x hx => by rw [h _ _ (by omega) (by omega)]; exact q7 x hx, fun x hx => by rw [h _ _ (by omega) (by omega)]; exact q8 x hx, fun x hx => by rw [h _ _ (by omega) (by omega)]; exact q9 x hx⟩
theorem mxV_b {f t a W V : Int} {s : Nat} {v : Int × Int} (hV : V ≤ 1000000) (hW : 0 ≤ W * a) (hs : s < 65536) (h : mxV f t a W V s = some v) : 0 ≤ v.1 ∧ v.1 ≤ 1000000 ∧ 0 ≤ v.2 ∧ v.2 ≤ 65535 := by
  unfold mxV at h
  split at h
  · rename_i c
    cases h
    dsimp only
    omega
  · cases h
theorem bxN {ρ : Int → Int} (hr : rwO ρ) : (ρ 6).toNat ≤ 16 := by
  have := hr.2.2.2.2.2.1
  omega
theorem mxD_b {ρ : Int → Int} {nu : Nat → Nat} {f t a : Int} (hr : rwO ρ) (hU : mxU (bxH ρ) nu (ρ 6).toNat) (ha : 0 ≤ a) : ∀ k v, mxD ρ nu f t a k = some v → 0 ≤ v.1 ∧ v.1 ≤ 1000000 ∧ 0 ≤ v.2 ∧ v.2 ≤ 65535 := fun k v h => by
  have n16 := bxN hr
  have lt := mxU_lt hU _ (Nat.le_refl _)
  have ml := mxN_le (hr := bxH ρ) (ρ 6).toNat
  have bW := mxW_b (w := fun j => bxW ρ (nu j)) (s := k) (B := 99) (mxN (bxH ρ) (ρ 6).toNat) (fun j hj => by have := (bx_b hr (lt j hj)).1; omega)
  have bL := mxW_b (w := fun j => bxL ρ (nu j)) (s := k) (B := 9900) (mxN (bxH ρ) (ρ 6).toNat) (fun j hj => (bx_b hr (lt j hj)).2.1)
  have g : mxG nu k (mxN (bxH ρ) (ρ 6).toNat) < 2 ^ 16 := mxG_lt _ (fun j hj => by have := lt j hj; omega)
  exact mxV_b (by omega) (Int.mul_nonneg bW.1 ha) (by omega) h
theorem mxE_b {ρ : Int → Int} {f t a : Int} (hr : rwO ρ) (ha : 0 ≤ a) : ∀ k v, mxE ρ f t a k = some v → 0 ≤ v.1 ∧ v.1 ≤ 1000000 ∧ 0 ≤ v.2 ∧ v.2 ≤ 65535 := fun k v h => by
  have n16 := bxN hr
  unfold mxE at h
  split at h
  · rename_i c
    have bW := mxW_b (w := bxW ρ) (s := k) (B := 99) (ρ 6).toNat (fun j hj => by have := (bx_b hr hj).1; omega)
    have bL := mxW_b (w := bxL ρ) (s := k) (B := 9900) (ρ 6).toNat (fun j hj => (bx_b hr hj).2.1)
    have g : mxH (bxH ρ) (ρ 6).toNat < 2 ^ 16 := mxH_lt _ 16 n16
    have l : k &&& mxH (bxH ρ) (ρ 6).toNat ≤ mxH (bxH ρ) (ρ 6).toNat := Nat.and_le_right
    exact mxV_b (by omega) (Int.mul_nonneg bW.1 ha) (by omega) h
  · cases h
set_option maxHeartbeats 2000000 in
theorem K167 {dp : Nat} {e : EN} {J L : JI} {ρ : Int → Int} {nu : Nat → Nat} {lo hi h : Nat} {f t a : Int} (hd : 1 ≤ dp) (hr : rwO ρ) (hB : mxB J ρ nu lo hi) (h8 : J 81 8 = f) (h9 : J 81 9 = t) (h10 : J 81 10 = a) (hf : 1 ≤ f ∧ f ≤ 1584) (ht : 1 ≤ t ∧ t ≤ 1584) (ha : 0 ≤ a ∧ a ≤ 100) (hh : h < 2 ^ hi) (hQ : mxQ J (mxF (mxD ρ nu f t a) (0, 1000000000, 0) (2 ^ lo * h))) : Ev (fun n => kf_167 n dp e 0 J L h 0 0 0 0 0) (fun r => r.2 = L ∧ (∀ a i, ¬ (a = 81 ∧ 12 ≤ i ∧ i ≤ 14) → r.1 a i = J a i) ∧ mxQ r.1 (mxF (mxD ρ nu f t a) (0, 1000000000, 0) (2 ^ lo * h + 2 ^ lo))) := by
  obtain ⟨q1, ⟨q2, q2a, q2b⟩, q3, q4, q5, q6, q7, q8, q9⟩ := hB
  have n16 := bxN hr
  have ml := mxN_le (hr := bxH ρ) (ρ 6).toNat
  have lt := mxU_lt q1 _ (Nat.le_refl _)
  have p8 := p2_8 q2a
  have p8' := p2_8 q2b
  have pm : 2 ^ (lo + hi) ≤ 65536 := by
    have := Nat.pow_le_pow_right (n := 2) (by decide) (show lo + hi ≤ 16 by omega)
    omega
  have hDb := mxD_b (f := f) (t := t) hr q1 ha.1
  have eW := q8 h hh
  have eL := q9 h hh
  have bW := mxW_b (w := fun j => bxW ρ (nu (lo + j))) (s := h) (B := 99) hi (fun j hj => by have := (bx_b hr (lt (lo + j) (by omega))).1; omega)
  have bL' := mxW_b (w := fun j => bxL ρ (nu (lo + j))) (s := h) (B := 9900) hi (fun j hj => (bx_b hr (lt (lo + j) (by omega))).2.1)
  generalize eHW : mxW (fun j => bxW ρ (nu (lo + j))) h hi = HW at *
  generalize eHL : mxW (fun j => bxL ρ (nu (lo + j))) h hi = HL at *
  have mW : 0 ≤ HW * a ∧ HW * a ≤ 792 * 100 := ⟨Int.mul_nonneg bW.1 ha.1, Int.mul_le_mul (by omega) ha.2 ha.1 (by decide)⟩
  have key : ∀ l : Nat, l ≤ 2 ^ lo → ∀ K : JI, (∀ a i, ¬ (a = 81 ∧ 12 ≤ i ∧ i ≤ 14) → K a i = J a i) → mxQ K (mxF (mxD ρ nu f t a) (0, 1000000000, 0) (2 ^ lo * h + l)) → Ev (fun n => kf_167 n dp e 1 K L h (f - HW) (t - HW) (HL - HW * a) l 0) (fun r => r.2 = L ∧ (∀ a i, ¬ (a = 81 ∧ 12 ≤ i ∧ i ≤ 14) → r.1 a i = J a i) ∧ mxQ r.1 (mxF (mxD ρ nu f t a) (0, 1000000000, 0) (2 ^ lo * h + 2 ^ lo))) := by
    refine dec_ind (2 ^ lo) (fun l hl ih => ?_)
    intro K k1 k2
    refine ev_167_1 ?_
    have e6 : K 81 6 = lo := (k1 _ _ (by omega)).trans q4
    have e10 : K 81 10 = a := (k1 _ _ (by omega)).trans h10
    rw [e6, bL1 (by omega)]
    by_cases cl : l < 2 ^ lo
    · have ih := ih cl
      have e83 : K 83 l = mxW (fun j => bxW ρ (nu j)) l lo := (k1 _ _ (by omega)).trans (q6 l cl)
      have e84 : K 84 l = mxW (fun j => bxL ρ (nu j)) l lo := (k1 _ _ (by omega)).trans (q7 l cl)
      have lW := mxW_b (w := fun j => bxW ρ (nu j)) (s := l) (B := 99) lo (fun j hj => by have := (bx_b hr (lt j (by omega))).1; omega)
      have lL := mxW_b (w := fun j => bxL ρ (nu j)) (s := l) (B := 9900) lo (fun j hj => (bx_b hr (lt j (by omega))).2.1)
      have sW := mxW_2 (w := fun j => bxW ρ (nu j)) (h := h) cl hi
      have sL := mxW_2 (w := fun j => bxL ρ (nu j)) (h := h) cl hi
      rw [eHW] at sW
      rw [eHL] at sL
      have eD : mxD ρ nu f t a (2 ^ lo * h + l) = mxV f t a (mxW (fun j => bxW ρ (nu j)) l lo + HW) (mxW (fun j => bxL ρ (nu j)) l lo + HL) (mxG nu (2 ^ lo * h + l) (lo + hi)) := by
        unfold mxD
        rw [← q2, sW, sL]
      have cx := mxX cl hh
      generalize mxW (fun j => bxW ρ (nu j)) l lo = LW at *
      generalize mxW (fun j => bxL ρ (nu j)) l lo = LL at *
      have mL : 0 ≤ LW * a ∧ LW * a ≤ 792 * 100 := ⟨Int.mul_nonneg lW.1 ha.1, Int.mul_le_mul (by omega) ha.2 ha.1 (by decide)⟩
      have eA : (LW + HW) * a = LW * a + HW * a := Int.add_mul _ _ _
      have eF : mxF (mxD ρ nu f t a) (0, 1000000000, 0) (2 ^ lo * h + (l + 1)) = mxS (mxF (mxD ρ nu f t a) (0, 1000000000, 0) (2 ^ lo * h + l)) (mxD ρ nu f t a (2 ^ lo * h + l)) := rfl
      have no : mxD ρ nu f t a (2 ^ lo * h + l) = none → Ev (fun n => kf_167 n dp e 2 K L h (f - HW) (t - HW) (HL - HW * a) l LW) (fun r => r.2 = L ∧ (∀ a i, ¬ (a = 81 ∧ 12 ≤ i ∧ i ≤ 14) → r.1 a i = J a i) ∧ mxQ r.1 (mxF (mxD ρ nu f t a) (0, 1000000000, 0) (2 ^ lo * h + 2 ^ lo))) := fun z => by
        refine ev_167_2 ?_
        refine Ev_t (by omega) ?_
        rw [show (l : Int) + 1 = ((l + 1 : Nat) : Int) by omega]
        refine ih K k1 ?_
        rw [eF, z]
        exact k2
      have nn : ¬ ((f ≤ LW + HW ∧ LW + HW ≤ t) ∧ (LW + HW) * a ≤ LL + HL) → mxD ρ nu f t a (2 ^ lo * h + l) = none := fun z => by
        rw [eD]
        unfold mxV
        rw [if_neg z]
      refine Ev_f (by omega) (Ev_t (by omega) (Ev_st ?_))
      rw [e83, e84, e10]
      refine Ev_c (fun c1 => no (nn (by omega))) (fun c1 => Ev_c (fun c2 => ?_) (fun c2 => no (nn (by omega))))
      refine Ev_t (by omega) (Ev_t (by omega) (Ev_st (Ev_c (fun c3 => no (nn (by omega))) (fun c3 => ?_))))
      have b0 := mxF_b hDb (x := (0, 1000000000, 0)) (2 ^ lo * h + l)
      obtain ⟨k12, k13, k14⟩ := k2
      have eS : mxD ρ nu f t a (2 ^ lo * h + l) = some (LL + HL - (LW + HW) * a, ((mxG nu (2 ^ lo * h + l) (lo + hi) : Nat) : Int)) := by
        rw [eD]
        unfold mxV
        rw [if_pos (by omega)]
      rw [eS] at eF
      generalize hx : mxF (mxD ρ nu f t a) (0, 1000000000, 0) (2 ^ lo * h + l) = x at *
      have b1 : 0 ≤ x.1 ∧ x.1 ≤ 65536 := by
        have := b0.1
        have := b0.2.1
        simp only [Int.sub_zero] at *
        omega
      rw [k12]
      refine Ev_t (by omega) (Ev_st ?_)
      have m13 : w2 K 81 12 (x.1 + 1) 81 13 = x.2.1 := by rw [w2_n (by omega)]; exact k13
      rw [m13]
      refine Ev_c (fun c4 => ?_) (fun c4 => ?_)
      · refine ev_167_2 ?_
        refine Ev_t (by omega) ?_
        rw [show (l : Int) + 1 = ((l + 1 : Nat) : Int) by omega]
        refine ih _ (fun a i y => by rw [w2_n (by omega)]; exact k1 a i y) ?_
        rw [eF]
        have e2 : mxS x (some (LL + HL - (LW + HW) * a, ((mxG nu (2 ^ lo * h + l) (lo + hi) : Nat) : Int))) = (x.1 + 1, x.2) := by
          show (x.1 + 1, if LL + HL - (LW + HW) * a < x.2.1 then _ else x.2) = _
          rw [if_neg (by omega)]
        rw [e2]
        exact ⟨by rw [w2_ap, if_pos ⟨rfl, rfl⟩], m13, by rw [w2_n (by omega)]; exact k14⟩
      · have e2 : mxS x (some (LL + HL - (LW + HW) * a, ((mxG nu (2 ^ lo * h + l) (lo + hi) : Nat) : Int))) = (x.1 + 1, (LL + HL - (LW + HW) * a, ((mxG nu (2 ^ lo * h + l) (lo + hi) : Nat) : Int))) := by
          show (x.1 + 1, if LL + HL - (LW + HW) * a < x.2.1 then _ else x.2) = _
          rw [if_pos (by omega)]
        refine Ev_st (Ev_t hd ?_)
        have n3 : ∀ a' i, ¬ (a' = 81 ∧ 12 ≤ i ∧ i ≤ 14) → w2 (w2 K 81 12 (x.1 + 1)) 81 13 (HL - HW * a + LL - LW * a) a' i = J a' i := fun a' i y => by rw [w2_n (by omega), w2_n (by omega)]; exact k1 a' i y
        have e6' : w2 (w2 K 81 12 (x.1 + 1)) 81 13 (HL - HW * a + LL - LW * a) 81 6 = lo := (n3 _ _ (by omega)).trans q4
        have e7' : w2 (w2 K 81 12 (x.1 + 1)) 81 13 (HL - HW * a + LL - LW * a) 81 7 = hi := (n3 _ _ (by omega)).trans q5
        have a12 : w2 (w2 K 81 12 (x.1 + 1)) 81 13 (HL - HW * a + LL - LW * a) 81 12 = x.1 + 1 := by rw [w2_n (by omega), w2_ap, if_pos ⟨rfl, rfl⟩]
        have a13 : w2 (w2 K 81 12 (x.1 + 1)) 81 13 (HL - HW * a + LL - LW * a) 81 13 = HL - HW * a + LL - LW * a := by rw [w2_ap, if_pos ⟨rfl, rfl⟩]
        rw [e6', bL_h ⟨h, by omega⟩ ⟨lo, by omega⟩]
        dsimp only
        have p0 := Nat.two_pow_add_eq_or_of_lt cl h
        rw [bO_n (by omega) (by omega), Int.toNat_natCast, Int.toNat_natCast, ← p0]
        generalize w2 (w2 K 81 12 (x.1 + 1)) 81 13 (HL - HW * a + LL - LW * a) = K1 at n3 e6' e7' a12 a13 ⊢
        refine Ev_bind (K168 (nu := nu) e6' e7' (by omega) (fun j hj => ⟨(n3 _ _ (by omega)).trans (q3 j hj), by have := lt j (by omega); omega⟩) (by omega)) ?_
        rintro _ rfl
        dsimp only
        refine Ev_st ?_
        refine ev_167_2 ?_
        refine Ev_t (by omega) ?_
        rw [show (l : Int) + 1 = ((l + 1 : Nat) : Int) by omega]
        refine ih _ (fun a i y => by rw [w2_n (by omega)]; exact n3 a i y) ?_
        rw [eF, e2]
        exact ⟨by rw [w2_n (by omega)]; exact a12, by rw [w2_n (by omega), a13]; show _ = LL + HL - (LW + HW) * a; omega, by rw [w2_ap, if_pos ⟨rfl, rfl⟩]⟩
    · have : l = 2 ^ lo := by omega
      subst this
      exact Ev_t (by omega) (Ev_ret ⟨rfl, k1, k2⟩)
  refine ev_167_0 ?_
  rw [h8, h9, h10, eW, eL]
  exact Ev_t (by omega) (Ev_t (by omega) (Ev_st (Ev_t (by omega) (Ev_t (by omega) (Ev_st (Ev_t (by omega) (Ev_t (by omega) (Ev_t (by omega) (Ev_st (key 0 (Nat.zero_le _) J (fun _ _ _ => rfl) hQ))))))))))
