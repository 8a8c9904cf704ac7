section
set_option maxRecDepth 100000 in
theorem ev_166_1 {dp : Nat} {e : EN} {I : JI} {L : JI} {i1 : Int} {i2 : Int} {i5 : Int} {i6 : Int} {i7 : Int} {i8 : Int} {i9 : Int} {i10 : Int} {a3 : Nat} {a4 : Nat} {P_ : (JI × JI) → Prop} (h : Ev (fun n => (if i2 ≤ i5 then (some (I, L)) else (if -2147483648 ≤ i1 + i5 ∧ i1 + i5 ≤ 2147483647 then (if 0 ≤ (i1 + i5) ∧ (i1 + i5) < 16 then (if -2147483648 ≤ (I 82 (i1 + i5)) * 7 ∧ (I 82 (i1 + i5)) * 7 ≤ 2147483647 then (stI ((I 82 (i1 + i5)) * 7) (fun v_30 => (if -2147483648 ≤ v_30 + 0 ∧ v_30 + 0 ≤ 2147483647 then (if 0 ≤ (v_30 + 0) ∧ (v_30 + 0) < 112 then (stI (I 7 (v_30 + 0)) (fun v_44 => (if -2147483648 ≤ v_30 + 1 ∧ v_30 + 1 ≤ 2147483647 then (if 0 ≤ (v_30 + 1) ∧ (v_30 + 1) < 112 then (if -2147483648 ≤ v_44 * (I 7 (v_30 + 1)) ∧ v_44 * (I 7 (v_30 + 1)) ≤ 2147483647 then (stI (v_44 * (I 7 (v_30 + 1))) (fun v_61 => (stI (bL 1 i5) (fun v_67 => (kf_166 n dp e 2 I L i1 i2 i5 v_30 v_44 v_61 v_67 0 a3 a4))))) else none) else none) else none))) else none) else none))) else none) else none) else none))) P_) : Ev (fun n => kf_166 n dp e 1 I L i1 i2 i5 i6 i7 i8 i9 i10 a3 a4) P_ := Ev_step (fun n => ke_166_1 n dp e I L i1 i2 i5 i6 i7 i8 i9 i10 a3 a4) h
set_option maxRecDepth 100000 in
theorem ev_166_2 {dp : Nat} {e : EN} {I : JI} {L : JI} {i1 : Int} {i2 : Int} {i5 : Int} {i6 : Int} {i7 : Int} {i8 : Int} {i9 : Int} {i10 : Int} {a3 : Nat} {a4 : Nat} {P_ : (JI × JI) → Prop} (h : Ev (fun n => (if i9 ≤ i10 then (if -2147483648 ≤ i5 + 1 ∧ i5 + 1 ≤ 2147483647 then (kf_166 n dp e 1 I L i1 i2 (i5 + 1) 0 0 0 0 0 a3 a4) else none) else (if ((a3 < e.1) ∧ (((e.2.1 a3).1 = 13) ∧ ((e.2.1 a3).2 < (2 ^ 31)))) ∧ (0 ≤ i10 ∧ i10 < (((e.2.1 a3).2 : Nat) : Int)) then (if -2147483648 ≤ i9 + i10 ∧ i9 + i10 ≤ 2147483647 then (if ((a3 < e.1) ∧ (((e.2.1 a3).1 = 13) ∧ ((e.2.1 a3).2 < (2 ^ 31)))) ∧ (0 ≤ (i9 + i10) ∧ (i9 + i10) < (((e.2.1 a3).2 : Nat) : Int)) then (if -2147483648 ≤ (I a3 i10) + i7 ∧ (I a3 i10) + i7 ≤ 2147483647 then (stI (w2 I a3 (i9 + i10) ((I a3 i10) + i7)) (fun I_92 => (if ((a4 < e.1) ∧ (((e.2.1 a4).1 = 13) ∧ ((e.2.1 a4).2 < (2 ^ 31)))) ∧ (0 ≤ i10 ∧ i10 < (((e.2.1 a4).2 : Nat) : Int)) then (if ((a4 < e.1) ∧ (((e.2.1 a4).1 = 13) ∧ ((e.2.1 a4).2 < (2 ^ 31)))) ∧ (0 ≤ (i9 + i10) ∧ (i9 + i10) < (((e.2.1 a4).2 : Nat) : Int)) then (if -2147483648 ≤ (I_92 a4 i10) + i8 ∧ (I_92 a4 i10) + i8 ≤ 2147483647 then (stI (w2 I_92 a4 (i9 + i10) ((I_92 a4 i10) + i8)) (fun I_108 => (if -2147483648 ≤ i10 + 1 ∧ i10 + 1 ≤ 2147483647 then (kf_166 n dp e 2 I_108 L i1 i2 i5 i6 i7 i8 i9 (i10 + 1) a3 a4) else none))) else none) else none) else none))) else none) else none) else none) else none))) P_) : Ev (fun n => kf_166 n dp e 2 I L i1 i2 i5 i6 i7 i8 i9 i10 a3 a4) P_ := Ev_step (fun n => ke_166_2 n dp e I L i1 i2 i5 i6 i7 i8 i9 i10 a3 a4) h
set_option maxRecDepth 100000 in
theorem ev_166_0 {dp : Nat} {e : EN} {I : JI} {L : JI} {i1 : Int} {i2 : Int} {i5 : Int} {i6 : Int} {i7 : Int} {i8 : Int} {i9 : Int} {i10 : Int} {a3 : Nat} {a4 : Nat} {P_ : (JI × JI) → Prop} (h : Ev (fun n => (if ((a3 < e.1) ∧ (((e.2.1 a3).1 = 13) ∧ ((e.2.1 a3).2 < (2 ^ 31)))) ∧ (((0 : Int) ≤ 0) ∧ (0 < (e.2.1 a3).2)) then (stI (w2 I a3 0 0) (fun I_3 => (if ((a4 < e.1) ∧ (((e.2.1 a4).1 = 13) ∧ ((e.2.1 a4).2 < (2 ^ 31)))) ∧ (((0 : Int) ≤ 0) ∧ (0 < (e.2.1 a4).2)) then (stI (w2 I_3 a4 0 0) (fun I_8 => (kf_166 n dp e 1 I_8 L i1 i2 0 0 0 0 0 0 a3 a4))) else none))) else none)) P_) : Ev (fun n => kf_166 n dp e 0 I L i1 i2 i5 i6 i7 i8 i9 i10 a3 a4) P_ := Ev_step (fun n => ke_166_0 n dp e I L i1 i2 i5 i6 i7 i8 i9 i10 a3 a4) h
set_option maxRecDepth 100000 in
theorem ev_165_1 {dp : Nat} {e : EN} {I : JI} {L : JI} {i1 : Int} {i2 : Int} {P_ : (JI × JI) → Prop} (h : Ev (fun n => (if (I 1 9) ≤ i2 then (if 1 ≤ dp then (stI (w2 I 81 6 (min 8 i1)) (fun I_57 => (if -2147483648 ≤ i1 - (I_57 81 6) ∧ i1 - (I_57 81 6) ≤ 2147483647 then (stI (w2 I_57 81 7 (i1 - (I_57 81 6))) (fun I_67 => (if 1 ≤ dp then ((kf_166 n (dp - 1) e 0 I_67 L 0 (I_67 81 6) 0 0 0 0 0 0 83 84).bind (fun ⟨I0_84, L0_84⟩ => (if 1 ≤ dp then ((kf_166 n (dp - 1) e 0 I0_84 L0_84 (I0_84 81 6) (I0_84 81 7) 0 0 0 0 0 0 85 86).bind (fun ⟨I1_104, L1_104⟩ => (some (I1_104, L1_104)))) else none))) else none))) else none))) else none) else (if (-2147483648 ≤ i2 * 7 ∧ i2 * 7 ≤ 2147483647) ∧ (-2147483648 ≤ (i2 * 7) + 6 ∧ (i2 * 7) + 6 ≤ 2147483647) then (if 0 ≤ ((i2 * 7) + 6) ∧ ((i2 * 7) + 6) < 112 then (if (I 7 ((i2 * 7) + 6)) = 1 then (if 0 ≤ i1 ∧ i1 < 16 then (stI (w2 I 82 i1 i2) (fun I_40 => (if -2147483648 ≤ i1 + 1 ∧ i1 + 1 ≤ 2147483647 then (kf_165 n dp e 2 I_40 L (i1 + 1) i2) else none))) else none) else (kf_165 n dp e 2 I L i1 i2)) else none) else none))) P_) : Ev (fun n => kf_165 n dp e 1 I L i1 i2) P_ := Ev_step (fun n => ke_165_1 n dp e I L i1 i2) h
set_option maxRecDepth 100000 in
theorem ev_165_2 {dp : Nat} {e : EN} {I : JI} {L : JI} {i1 : Int} {i2 : Int} {P_ : (JI × JI) → Prop} (h : Ev (fun n => (if -2147483648 ≤ i2 + 1 ∧ i2 + 1 ≤ 2147483647 then (kf_165 n dp e 1 I L i1 (i2 + 1)) else none)) P_) : Ev (fun n => kf_165 n dp e 2 I L i1 i2) P_ := Ev_step (fun n => ke_165_2 n dp e I L i1 i2) h
set_option maxRecDepth 100000 in
theorem ev_165_0 {dp : Nat} {e : EN} {I : JI} {L : JI} {i1 : Int} {i2 : Int} {P_ : (JI × JI) → Prop} (h : Ev (fun n => (kf_165 n dp e 1 I L 0 0)) P_) : Ev (fun n => kf_165 n dp e 0 I L i1 i2) P_ := Ev_step (fun n => ke_165_0 n dp e I L i1 i2) h
end
/-! MIX: the class adds up -/
def mxT (T : Int → Int) (w : Nat → Int) (n : Nat) : Prop := ∀ x : Nat, x < 2 ^ n → T x = mxW w x n
theorem ixO {e : EN} {a : Nat} {i : Int} (h : arO e a 256) (hi : 0 ≤ i ∧ i < 256) : ((a < e.1) ∧ (((e.2.1 a).1 = 13) ∧ ((e.2.1 a).2 < (2 ^ 31)))) ∧ (0 ≤ i ∧ i < (((e.2.1 a).2 : Nat) : Int)) := by
  obtain ⟨h1, h2, h3⟩ := h
  exact ⟨⟨h1, h2, by rw [h3]; decide⟩, hi.1, by rw [h3]; exact hi.2⟩
theorem ixZ {e : EN} {a : Nat} (h : arO e a 256) : ((a < e.1) ∧ (((e.2.1 a).1 = 13) ∧ ((e.2.1 a).2 < (2 ^ 31)))) ∧ (((0 : Int) ≤ 0) ∧ (0 < (e.2.1 a).2)) := by
  obtain ⟨h1, h2, h3⟩ := h
  exact ⟨⟨h1, h2, by rw [h3]; decide⟩, Int.le_refl _, by rw [h3]; decide⟩
theorem p2_8 {i : Nat} (h : i ≤ 8) : 2 ^ i ≤ 256 := Nat.pow_le_pow_right (by decide) h
theorem K166 {dp : Nat} {e : EN} {J L : JI} {o m : Nat} {nu : Nat → Nat} {a3 a4 : Nat} {w l : Nat → Int} (h3 : arO e a3 256) (h4 : arO e a4 256) (hne : (a3 = 83 ∧ a4 = 84) ∨ (a3 = 85 ∧ a4 = 86)) (hm : m ≤ 8) (ho : o + m ≤ 16) (hnu : ∀ j, j < m → J 82 ((o : Int) + j) = nu j ∧ nu j < 16 ∧ J 7 ((nu j : Int) * 7) = w j ∧ w j * J 7 ((nu j : Int) * 7 + 1) = l j ∧ (0 ≤ w j ∧ w j ≤ 99) ∧ 0 ≤ l j ∧ l j ≤ 9900) : Ev (fun n => kf_166 n dp e 0 J L o m 0 0 0 0 0 0 a3 a4) (fun r => r.2 = L ∧ (∀ a i, ¬ a = a3 → ¬ a = a4 → r.1 a i = J a i) ∧ mxT (r.1 a3) w m ∧ mxT (r.1 a4) l m) := by
  have outer : ∀ i : Nat, i ≤ m → ∀ K : JI, (∀ a q, ¬ a = a3 → ¬ a = a4 → K a q = J a q) → mxT (K a3) w i → mxT (K a4) l i → Ev (fun n => kf_166 n dp e 1 K L o m i 0 0 0 0 0 a3 a4) (fun r => r.2 = L ∧ (∀ a i, ¬ a = a3 → ¬ a = a4 → r.1 a i = J a i) ∧ mxT (r.1 a3) w m ∧ mxT (r.1 a4) l m) := by
    refine dec_ind m (fun i hi ih => ?_)
    intro K k1 k2 k3
    refine ev_166_1 ?_
    by_cases ci : i < m
    · have ih := ih ci
      obtain ⟨n1, n2, n3, n4, n5, n6⟩ := hnu i ci
      have e82 : K 82 ((o : Int) + i) = nu i := by rw [k1 _ _ (by omega) (by omega)]; exact n1
      have e7 : K 7 ((nu i : Int) * 7) = w i := by rw [k1 _ _ (by omega) (by omega)]; exact n3
      have e8 : w i * K 7 ((nu i : Int) * 7 + 1) = l i := by rw [k1 _ _ (by omega) (by omega)]; exact n4
      have p8 := p2_8 (i := i) (by omega)
      have p9 := p2_8 (i := i + 1) (by omega)
      have pp : 2 ^ (i + 1) = 2 ^ i + 2 ^ i := by rw [Nat.pow_succ]; omega
      refine Ev_f (by omega) (Ev_t (by omega) (Ev_t (by omega) ?_))
      rw [e82]
      refine Ev_t (by omega) (Ev_st (Ev_t (by omega) (Ev_t (by omega) (Ev_st (Ev_t (by omega) (Ev_t (by omega) ?_))))))
      rw [show (nu i : Int) * 7 + 0 = nu i * 7 by omega, e7, e8]
      refine Ev_t (by omega) (Ev_st (Ev_st ?_))
      rw [bL1 (by omega)]
      have bw : ∀ x, 0 ≤ mxW w x i ∧ mxW w x i ≤ 99 * (i : Int) := fun x => mxW_b i (fun j hj => (hnu j (by omega)).2.2.2.2.1)
      have bl : ∀ x, 0 ≤ mxW l x i ∧ mxW l x i ≤ 9900 * (i : Int) := fun x => mxW_b i (fun j hj => (hnu j (by omega)).2.2.2.2.2)
      have inner : ∀ x : Nat, x ≤ 2 ^ i → ∀ K : JI, (∀ a q, ¬ a = a3 → ¬ a = a4 → K a q = J a q) → mxT (K a3) w i → mxT (K a4) l i → (∀ y : Nat, y < x → K a3 ((2 ^ i + y : Nat) : Int) = mxW w (2 ^ i + y) (i + 1) ∧ K a4 ((2 ^ i + y : Nat) : Int) = mxW l (2 ^ i + y) (i + 1)) → Ev (fun n => kf_166 n dp e 2 K L o m i ((nu i : Int) * 7) (w i) (l i) ((2 ^ i : Nat) : Int) x a3 a4) (fun r => r.2 = L ∧ (∀ a i, ¬ a = a3 → ¬ a = a4 → r.1 a i = J a i) ∧ mxT (r.1 a3) w m ∧ mxT (r.1 a4) l m) := by
        refine dec_ind (2 ^ i) (fun x hx ihx => ?_)
        intro K k1 k2 k3 k4
        refine ev_166_2 ?_
        by_cases cx : x < 2 ^ i
        · have ihx := ihx cx
          have bw := bw x
          have bl := bl x
          refine Ev_f (by omega) (Ev_t (ixO h3 (by omega)) (Ev_t (by omega) (Ev_t (ixO h3 (by omega)) ?_)))
          rw [k2 x cx]
          refine Ev_t (by omega) (Ev_st (Ev_t (ixO h4 (by omega)) (Ev_t (ixO h4 (by omega)) ?_)))
          rw [w2_o (show ¬ a4 = a3 by omega), k3 x cx]
          refine Ev_t (by omega) (Ev_st (Ev_t (by omega) ?_))
          have d3 : mxW w (2 ^ i + x) (i + 1) = mxW w x i + w i := mxW_d cx
          have d4 : mxW l (2 ^ i + x) (i + 1) = mxW l x i + l i := mxW_d cx
          rw [show ((2 ^ i : Nat) : Int) + (x : Int) = ((2 ^ i + x : Nat) : Int) by omega, show (x : Int) + 1 = ((x + 1 : Nat) : Int) by omega, ← d3, ← d4]
          have r3 : ∀ q, w2 (w2 K a3 ((2 ^ i + x : Nat) : Int) (mxW w (2 ^ i + x) (i + 1))) a4 ((2 ^ i + x : Nat) : Int) (mxW l (2 ^ i + x) (i + 1)) a3 q = if q = ((2 ^ i + x : Nat) : Int) then mxW w (2 ^ i + x) (i + 1) else K a3 q := fun q => by
            rw [w2_o (show ¬ a3 = a4 by omega), w2_ap]
            simp only [true_and]
          have r4 : ∀ q, w2 (w2 K a3 ((2 ^ i + x : Nat) : Int) (mxW w (2 ^ i + x) (i + 1))) a4 ((2 ^ i + x : Nat) : Int) (mxW l (2 ^ i + x) (i + 1)) a4 q = if q = ((2 ^ i + x : Nat) : Int) then mxW l (2 ^ i + x) (i + 1) else K a4 q := fun q => by
            rw [w2_ap, w2_o (show ¬ a4 = a3 by omega)]
            simp only [true_and]
          refine ihx _ (fun a q x1 x2 => by rw [w2_o x2, w2_o x1]; exact k1 a q x1 x2) (fun y hy => ?_) (fun y hy => ?_) (fun y hy => ?_)
          · rw [r3, if_neg (by omega)]; exact k2 y hy
          · rw [r4, if_neg (by omega)]; exact k3 y hy
          · rw [r3, r4]
            by_cases q : y = x
            · subst q; rw [if_pos rfl, if_pos rfl]; exact ⟨rfl, rfl⟩
            · rw [if_neg (by omega), if_neg (by omega)]; exact k4 y (by omega)
        · have ex : x = 2 ^ i := by omega
          refine Ev_t (by omega) (Ev_t (by omega) ?_)
          rw [show (i : Int) + 1 = ((i + 1 : Nat) : Int) by omega]
          refine ih K k1 (fun y hy => ?_) (fun y hy => ?_)
          · by_cases q : y < 2 ^ i
            · rw [mxW_e q]; exact k2 y q
            · obtain ⟨z, rfl⟩ : ∃ z, y = 2 ^ i + z := ⟨y - 2 ^ i, by omega⟩
              exact (k4 z (by omega)).1
          · by_cases q : y < 2 ^ i
            · rw [mxW_e q]; exact k3 y q
            · obtain ⟨z, rfl⟩ : ∃ z, y = 2 ^ i + z := ⟨y - 2 ^ i, by omega⟩
              exact (k4 z (by omega)).2
      exact inner 0 (Nat.zero_le _) K k1 k2 k3 (fun y hy => absurd hy (Nat.not_lt_zero _))
    · have : i = m := by omega
      subst this
      exact Ev_t (by omega) (Ev_ret ⟨rfl, k1, k2, k3⟩)
  refine ev_166_0 ?_
  refine Ev_t (ixZ h3) (Ev_st (Ev_t (ixZ h4) (Ev_st ?_)))
  refine outer 0 (by omega) _ (fun a q x1 x2 => by rw [w2_o x2, w2_o x1]) (fun x hx => ?_) (fun x hx => ?_)
  · have : x = 0 := by omega
    subst this
    rw [w2_o (show ¬ a3 = a4 by omega), w2_ap, if_pos ⟨rfl, rfl⟩]; rfl
  · have : x = 0 := by omega
    subst this
    rw [w2_ap, if_pos ⟨rfl, rfl⟩]; rfl
/-! the boxes as a row says them -/
def bxW (ρ : Int → Int) (b : Nat) : Int := ρ (90 + 7 * b)
def bxL (ρ : Int → Int) (b : Nat) : Int := ρ (90 + 7 * b) * ρ (90 + 7 * b + 1)
def bxH (ρ : Int → Int) (b : Nat) : Bool := decide (ρ (90 + 7 * b + 6) = 1)
/-- the class's tables of all choices -/
def mxB (J : JI) (ρ : Int → Int) (nu : Nat → Nat) (lo hi : Nat) : Prop :=
  mxU (bxH ρ) nu (ρ 6).toNat ∧ (lo + hi = mxN (bxH ρ) (ρ 6).toNat ∧ lo ≤ 8 ∧ hi ≤ 8) ∧ (∀ j : Nat, j < lo + hi → J 82 j = nu j) ∧ J 81 6 = lo ∧ J 81 7 = hi ∧
  mxT (J 83) (fun j => bxW ρ (nu j)) lo ∧ mxT (J 84) (fun j => bxL ρ (nu j)) lo ∧ mxT (J 85) (fun j => bxW ρ (nu (lo + j))) hi ∧ mxT (J 86) (fun j => bxL ρ (nu (lo + j))) hi
theorem bx_b {ρ : Int → Int} (hr : rwO ρ) {b : Nat} (hb : b < (ρ 6).toNat) : (1 ≤ bxW ρ b ∧ bxW ρ b ≤ 99) ∧ (0 ≤ bxL ρ b ∧ bxL ρ b ≤ 9900) ∧ (0 ≤ ρ (90 + 7 * b + 1) ∧ ρ (90 + 7 * b + 1) ≤ 100) := by
  obtain ⟨u1, u2, u3, u4, u5, u6, u7, u8, u9, u10, u11, u12, u13, u14, u15, u16, u17⟩ := hr
  have w := (u16 b (by omega) (by omega)).1
  unfold bxok at w
  have a : (1 ≤ bxW ρ b ∧ bxW ρ b ≤ 99) ∧ (0 ≤ ρ (90 + 7 * b + 1) ∧ ρ (90 + 7 * b + 1) ≤ 100) := by unfold bxW; omega
  refine ⟨a.1, ?_, a.2⟩
  unfold bxL
  have m1 := Int.mul_nonneg (show 0 ≤ ρ (90 + 7 * (b : Int)) by unfold bxW at a; omega) a.2.1
  have m2 := Int.mul_le_mul (show ρ (90 + 7 * (b : Int)) ≤ 99 by unfold bxW at a; omega) a.2.2 a.2.1 (by decide)
  omega
set_option maxHeartbeats 2000000 in
theorem K165 {dp : Nat} {e : EN} {J L : JI} {ρ : Int → Int} (hd : 1 ≤ dp) (hr : rwO ρ) (h9 : J 1 9 = ρ 6) (h7 : ∀ i, 0 ≤ i → i < 112 → J 7 i = ρ (90 + i)) (ha : ∀ a, 83 ≤ a → a ≤ 86 → arO e a 256) : Ev (fun n => kf_165 n dp e 0 J L 0 0) (fun r => r.2 = L ∧ (∀ a i, ¬ (a = 81 ∧ (i = 6 ∨ i = 7)) → ¬ (82 ≤ a ∧ a ≤ 86) → r.1 a i = J a i) ∧ ∃ nu lo hi, mxB r.1 ρ nu lo hi) := by
  have h6 := hr.2.2.2.2.2.1
  obtain ⟨N, hN⟩ : ∃ N : Nat, ρ 6 = N := ⟨(ρ 6).toNat, by omega⟩
  have eN : (ρ 6).toNat = N := by omega
  have key : ∀ b : Nat, b ≤ N → ∀ K : JI, (∀ a i, ¬ a = 82 → K a i = J a i) → (∀ b' : Nat, b' < b → bxH ρ b' = true → K 82 (mxN (bxH ρ) b') = b') → (∀ j : Nat, j < mxN (bxH ρ) b → 0 ≤ K 82 j ∧ K 82 j < b) → Ev (fun n => kf_165 n dp e 1 K L (mxN (bxH ρ) b) b) (fun r => r.2 = L ∧ (∀ a i, ¬ (a = 81 ∧ (i = 6 ∨ i = 7)) → ¬ (82 ≤ a ∧ a ≤ 86) → r.1 a i = J a i) ∧ ∃ nu lo hi, mxB r.1 ρ nu lo hi) := by
    refine dec_ind N (fun b hb ih => ?_)
    intro K k1 k2 k3
    refine ev_165_1 ?_
    have e9 : K 1 9 = N := by rw [k1 _ _ (by omega), h9, hN]
    rw [e9]
    by_cases cb : b < N
    · have ih := ih cb
      have e7 : K 7 ((b : Int) * 7 + 6) = ρ (90 + 7 * b + 6) := by rw [k1 _ _ (by omega), h7 _ (by omega) (by omega), show 90 + ((b : Int) * 7 + 6) = 90 + 7 * b + 6 by omega]
      have nl := mxN_le (hr := bxH ρ) b
      refine Ev_f (by omega) (Ev_t (by omega) (Ev_t (by omega) ?_))
      rw [e7]
      by_cases c : ρ (90 + 7 * b + 6) = 1
      · have eH : bxH ρ b = true := by unfold bxH; simp [c]
        have en : mxN (bxH ρ) (b + 1) = mxN (bxH ρ) b + 1 := by show mxN (bxH ρ) b + (if bxH ρ b then 1 else 0) = _; rw [if_pos eH]
        refine Ev_t c (Ev_t (by omega) (Ev_st (Ev_t (by omega) ?_)))
        refine ev_165_2 ?_
        refine Ev_t (by omega) ?_
        rw [show (mxN (bxH ρ) b : Int) + 1 = ((mxN (bxH ρ) (b + 1) : Nat) : Int) by omega, show (b : Int) + 1 = ((b + 1 : Nat) : Int) by omega]
        refine ih _ (fun a i x => by rw [w2_o x]; exact k1 a i x) (fun b' hb' hh => ?_) (fun j hj => ?_)
        · by_cases q : b' = b
          · subst q; rw [w2_ap, if_pos ⟨rfl, rfl⟩]
          · have := mxN_mo (hr := bxH ρ) (a := b' + 1) b (by omega)
            have e1 : mxN (bxH ρ) (b' + 1) = mxN (bxH ρ) b' + 1 := by show mxN (bxH ρ) b' + (if bxH ρ b' then 1 else 0) = _; rw [if_pos hh]
            rw [w2_n (by omega)]; exact k2 b' (by omega) hh
        · by_cases q : j = mxN (bxH ρ) b
          · subst q; rw [w2_ap, if_pos ⟨rfl, rfl⟩]; omega
          · rw [w2_n (by omega)]
            have := k3 j (by omega)
            omega
      · have eH : ¬ bxH ρ b = true := by unfold bxH; simp [c]
        have en : mxN (bxH ρ) (b + 1) = mxN (bxH ρ) b := by show mxN (bxH ρ) b + (if bxH ρ b then 1 else 0) = _; rw [if_neg eH]; rfl
        refine Ev_f c ?_
        refine ev_165_2 ?_
        refine Ev_t (by omega) ?_
        rw [show (b : Int) + 1 = ((b + 1 : Nat) : Int) by omega, ← en]
        refine ih _ k1 (fun b' hb' hh => k2 b' (by
          by_cases q : b' = b
          · subst q; exact absurd hh eH
          · omega) hh) (fun j hj => ?_)
        have := k3 j (by omega)
        omega
    · have : b = N := by omega
      subst this
      have nl := mxN_le (hr := bxH ρ) b
      have hU : mxU (bxH ρ) (fun j => (K 82 j).toNat) b := fun b' hb' hh => by
        show (K 82 (mxN (bxH ρ) b')).toNat = b'
        rw [k2 b' hb' hh]; omega
      have hlt := mxU_lt hU b (Nat.le_refl _)
      generalize hm : mxN (bxH ρ) b = m at *
      have k82 : ∀ j : Nat, j < m → K 82 j = (K 82 j).toNat := fun j hj => by have := k3 j hj; omega
      have bx : ∀ j, j < m → (K 82 j).toNat < b := fun j hj => by have := k3 j hj; omega
      obtain ⟨lo, hlo⟩ : ∃ lo : Nat, min 8 (m : Int) = lo := ⟨min 8 m, by omega⟩
      refine Ev_t (by omega) (Ev_t hd ?_)
      rw [hlo]
      have n1 : ∀ a i, ¬ (a = 81 ∧ i = 6) → ¬ (a = 81 ∧ i = 7) → w2 (w2 K 81 6 lo) 81 7 ((m : Int) - lo) a i = K a i := fun a i x y => by rw [w2_n y, w2_n x]
      have n6 : w2 (w2 K 81 6 lo) 81 7 ((m : Int) - lo) 81 6 = lo := by rw [w2_n (by omega), w2_ap, if_pos ⟨rfl, rfl⟩]
      have n7 : w2 (w2 K 81 6 lo) 81 7 ((m : Int) - lo) 81 7 = (m : Int) - lo := by rw [w2_ap, if_pos ⟨rfl, rfl⟩]
      have x6 : w2 K 81 6 lo 81 6 = lo := by rw [w2_ap, if_pos ⟨rfl, rfl⟩]
      refine Ev_st ?_
      rw [x6]
      refine Ev_t (by omega) (Ev_st ?_)
      rw [n6]
      generalize w2 (w2 K 81 6 lo) 81 7 ((m : Int) - lo) = K1 at n1 n6 n7 ⊢
      obtain ⟨hi, hhi⟩ : ∃ hi : Nat, (m : Int) - lo = hi := ⟨m - lo, by omega⟩
      have kb : ∀ j : Nat, j < m → K1 82 j = ((K 82 j).toNat : Int) ∧ (K 82 j).toNat < 16 ∧ K1 7 (((K 82 j).toNat : Int) * 7) = bxW ρ (K 82 j).toNat ∧ bxW ρ (K 82 j).toNat * K1 7 (((K 82 j).toNat : Int) * 7 + 1) = bxL ρ (K 82 j).toNat ∧ (0 ≤ bxW ρ (K 82 j).toNat ∧ bxW ρ (K 82 j).toNat ≤ 99) ∧ 0 ≤ bxL ρ (K 82 j).toNat ∧ bxL ρ (K 82 j).toNat ≤ 9900 := fun j hj => by
        have b1 := bx j hj
        have b2 := bx_b hr (b := (K 82 j).toNat) (by omega)
        refine ⟨by rw [n1 _ _ (by omega) (by omega)]; exact k82 j hj, by omega, ?_, ?_, by omega, by omega⟩
        · rw [n1 _ _ (by omega) (by omega), k1 _ _ (by omega), h7 _ (by omega) (by omega)]
          unfold bxW
          rw [show 90 + ((K 82 j).toNat : Int) * 7 = 90 + 7 * ((K 82 j).toNat : Int) by omega]
        · rw [n1 7 _ (by omega) (by omega), k1 7 _ (by omega), h7 _ (by omega) (by omega)]
          unfold bxW bxL
          rw [show 90 + (((K 82 j).toNat : Int) * 7 + 1) = 90 + 7 * ((K 82 j).toNat : Int) + 1 by omega]
      refine Ev_t hd (Ev_bind (K166 (o := 0) (m := lo) (nu := fun j => (K 82 j).toNat) (w := fun j => bxW ρ (K 82 j).toNat) (l := fun j => bxL ρ (K 82 j).toNat) (ha 83 (by omega) (by omega)) (ha 84 (by omega) (by omega)) (Or.inl ⟨rfl, rfl⟩) (by omega) (by omega) (fun j hj => ?_)) ?_)
      · rw [show ((0 : Nat) : Int) + (j : Int) = j by omega]
        exact kb j (by omega)
      rintro ⟨K2, L2⟩ ⟨ez, p1, p2, p3⟩
      dsimp only at ez
      subst ez
      dsimp only at p1 p2 p3 ⊢
      have q6 : K2 81 6 = lo := by rw [p1 _ _ (by omega) (by omega)]; exact n6
      have q7 : K2 81 7 = hi := by rw [p1 _ _ (by omega) (by omega), n7]; exact hhi
      rw [q6, q7]
      refine Ev_t hd (Ev_bind (K166 (o := lo) (m := hi) (nu := fun j => (K 82 ((lo + j : Nat) : Int)).toNat) (w := fun j => bxW ρ (K 82 ((lo + j : Nat) : Int)).toNat) (l := fun j => bxL ρ (K 82 ((lo + j : Nat) : Int)).toNat) (ha 85 (by omega) (by omega)) (ha 86 (by omega) (by omega)) (Or.inr ⟨rfl, rfl⟩) (by omega) (by omega) (fun j hj => ?_)) ?_)
      · rw [show (lo : Int) + (j : Int) = ((lo + j : Nat) : Int) by omega, p1 _ _ (by omega) (by omega), p1 _ _ (by omega) (by omega), p1 _ _ (by omega) (by omega)]
        exact kb (lo + j) (by omega)
      rintro ⟨K3, L3⟩ ⟨ez, r1, r2, r3⟩
      dsimp only at ez
      subst ez
      dsimp only at r1 r2 r3 ⊢
      refine Ev_ret ⟨rfl, fun a i x y => ?_, fun j => (K 82 j).toNat, lo, hi, ?_, ⟨?_, by omega, by omega⟩, fun j hj => ?_, ?_, ?_, fun x hx => ?_, fun x hx => ?_, r2, r3⟩
      · dsimp only
        rw [r1 _ _ (by omega) (by omega), p1 _ _ (by omega) (by omega), n1 _ _ (by omega) (by omega), k1 _ _ (by omega)]
      · rw [eN]; exact hU
      · rw [eN, hm]; omega
      · dsimp only
        rw [r1 _ _ (by omega) (by omega), p1 _ _ (by omega) (by omega)]
        exact (kb j (by omega)).1
      · dsimp only
        rw [r1 _ _ (by omega) (by omega)]; exact q6
      · dsimp only
        rw [r1 _ _ (by omega) (by omega)]; exact q7
      · dsimp only
        rw [r1 _ _ (by omega) (by omega)]; exact p2 x hx
      · dsimp only
        rw [r1 _ _ (by omega) (by omega)]; exact p3 x hx
  refine ev_165_0 ?_
  exact key 0 (by omega) J (fun _ _ _ => rfl) (fun b' hb' _ => absurd hb' (Nat.not_lt_zero _)) (fun j hj => absurd hj (Nat.not_lt_zero _))
