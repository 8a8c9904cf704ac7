section
set_option maxRecDepth 100000 in
theorem ev_265_1 {dp : Nat} {e : EN} {I : JI} {L : JI} {i1 : Int} {i2 : Int} {i3 : Int} {P_ : (JI × JI) → Prop} (h : Ev (fun n => (if (I 105 43) ≤ i3 then (some (I, L)) else (if 0 ≤ i3 ∧ i3 < 5 then (if 0 ≤ (I 128 i3) ∧ (I 128 i3) < 10 then (if -2147483648 ≤ (I 127 (I 128 i3)) + 1 ∧ (I 127 (I 128 i3)) + 1 ≤ 2147483647 then (stI ((I 127 (I 128 i3)) + 1) (fun v_25 => (if ¬ (v_25 = 0) then (if 0 ≤ i3 ∧ i3 < 5 then (if -2147483647 ≤ i2 then (stI (w2 I 133 i3 (Int.tmod i2 v_25)) (fun I_36 => (if ¬ (v_25 = 0) then (if -2147483648 ≤ i3 + 1 ∧ i3 + 1 ≤ 2147483647 then (kf_265 n dp e 1 I_36 L i1 (Int.tdiv i2 v_25) (i3 + 1)) else none) else none))) else none) else none) else none))) else none) else none) else none))) P_) : Ev (fun n => kf_265 n dp e 1 I L i1 i2 i3) P_ := Ev_step (fun n => ke_265_1 n dp e I L i1 i2 i3) h
set_option maxRecDepth 100000 in
theorem ev_265_0 {dp : Nat} {e : EN} {I : JI} {L : JI} {i1 : Int} {i2 : Int} {i3 : Int} {P_ : (JI × JI) → Prop} (h : Ev (fun n => (kf_265 n dp e 1 I L i1 i1 0)) P_) : Ev (fun n => kf_265 n dp e 0 I L i1 i2 i3) P_ := Ev_step (fun n => ke_265_0 n dp e I L i1 i2 i3) h
set_option maxRecDepth 100000 in
theorem ev_266_1 {dp : Nat} {e : EN} {I : JI} {L : JI} {i1 : Int} {i2 : Int} {i3 : Int} {i4 : Int} {i5 : Int} {P_ : (Int × JI × JI) → Prop} (h : Ev (fun n => (if i5 < 0 then (some ((i4 : Int), I, L)) else (if 0 ≤ i5 ∧ i5 < 5 then (if 0 ≤ (I 128 i5) ∧ (I 128 i5) < 10 then (stI (I 127 (I 128 i5)) (fun v_39 => (if 0 ≤ i5 ∧ i5 < 5 then (if 0 ≤ i5 ∧ i5 < 5 then (if -2147483648 ≤ i3 + (I 128 i5) ∧ i3 + (I 128 i5) ≤ 2147483647 then (if 0 ≤ (i3 + (I 128 i5)) ∧ (i3 + (I 128 i5)) < 1920 then (if -2147483648 ≤ (I 133 i5) + (I 122 (i3 + (I 128 i5))) ∧ (I 133 i5) + (I 122 (i3 + (I 128 i5))) ≤ 2147483647 then (stI ((I 133 i5) + (I 122 (i3 + (I 128 i5)))) (fun v_63 => (if v_63 ≤ v_39 then (if (-2147483648 ≤ v_39 + 1 ∧ v_39 + 1 ≤ 2147483647) ∧ (-2147483648 ≤ i4 * (v_39 + 1) ∧ i4 * (v_39 + 1) ≤ 2147483647) ∧ (-2147483648 ≤ (i4 * (v_39 + 1)) + v_63 ∧ (i4 * (v_39 + 1)) + v_63 ≤ 2147483647) then (stI ((i4 * (v_39 + 1)) + v_63) (fun v_87 => (if -2147483648 ≤ i5 + (-1) ∧ i5 + (-1) ≤ 2147483647 then (kf_266 n dp e 1 I L i1 i2 i3 v_87 (i5 + (-1))) else none))) else none) else (if (-2147483648 ≤ v_39 + 1 ∧ v_39 + 1 ≤ 2147483647) ∧ (-2147483648 ≤ i4 * (v_39 + 1) ∧ i4 * (v_39 + 1) ≤ 2147483647) ∧ (-2147483648 ≤ (i4 * (v_39 + 1)) + v_39 ∧ (i4 * (v_39 + 1)) + v_39 ≤ 2147483647) then (stI ((i4 * (v_39 + 1)) + v_39) (fun v_87 => (if -2147483648 ≤ i5 + (-1) ∧ i5 + (-1) ≤ 2147483647 then (kf_266 n dp e 1 I L i1 i2 i3 v_87 (i5 + (-1))) else none))) else none)))) else none) else none) else none) else none) else none))) else none) else none))) P_) : Ev (fun n => kf_266 n dp e 1 I L i1 i2 i3 i4 i5) P_ := Ev_step (fun n => ke_266_1 n dp e I L i1 i2 i3 i4 i5) h
set_option maxRecDepth 100000 in
theorem ev_266_0 {dp : Nat} {e : EN} {I : JI} {L : JI} {i1 : Int} {i2 : Int} {i3 : Int} {i4 : Int} {i5 : Int} {P_ : (Int × JI × JI) → Prop} (h : Ev (fun n => (if (-2147483648 ≤ 640 * i1 ∧ 640 * i1 ≤ 2147483647) ∧ (-2147483648 ≤ 10 * i2 ∧ 10 * i2 ≤ 2147483647) ∧ (-2147483648 ≤ (640 * i1) + (10 * i2) ∧ (640 * i1) + (10 * i2) ≤ 2147483647) then (stI ((640 * i1) + (10 * i2)) (fun v_10 => (if -2147483648 ≤ (I 105 43) - 1 ∧ (I 105 43) - 1 ≤ 2147483647 then (stI ((I 105 43) - 1) (fun v_20 => (kf_266 n dp e 1 I L i1 i2 v_10 0 v_20))) else none))) else none)) P_) : Ev (fun n => kf_266 n dp e 0 I L i1 i2 i3 i4 i5) P_ := Ev_step (fun n => ke_266_0 n dp e I L i1 i2 i3 i4 i5) h
end
/-! PLANS: the reference's states -/
def lfS (B : Nat → Int) (s : Int) : Nat → Int
  | 0 => s
  | k + 1 => lfS B s k / B k
def dgS (B : Nat → Int) (s : Int) (k : Nat) : Int := lfS B s k % B k
def csE (B D : Nat → Int) : Nat → Nat → Int
  | _, 0 => 0
  | k, j + 1 => csE B D (k + 1) j * B k + D k
def prE (B : Nat → Int) : Nat → Nat → Int
  | _, 0 => 1
  | k, j + 1 => prE B (k + 1) j * B k
def prL (B : Nat → Int) : Nat → Int
  | 0 => 1
  | k + 1 => prL B k * B k
theorem prE_L {B : Nat → Int} : ∀ (j k : Nat), prL B k * prE B k j = prL B (k + j)
  | 0, k => by rw [prE, Int.mul_one]; rfl
  | j + 1, k => by
    have h := prE_L (B := B) j (k + 1)
    rw [prL] at h
    rw [prE, show k + (j + 1) = k + 1 + j by omega, ← h, Int.mul_assoc, Int.mul_comm (B k)]
theorem prL_b {B : Nat → Int} : ∀ (m : Nat), (∀ k, k < m → 1 ≤ B k ∧ B k ≤ 9) → 1 ≤ prL B m ∧ prL B m ≤ 9 ^ m
  | 0, _ => by rw [prL]; decide
  | m + 1, h => by
    have r := prL_b m (fun k hk => h k (by omega))
    have b := h m (by omega)
    rw [prL, Int.pow_succ]
    have p1 := Int.mul_le_mul_of_nonneg_right r.1 (show 0 ≤ B m by omega)
    have p2 := Int.mul_le_mul r.2 b.2 (by omega) (by have := r.1; omega)
    omega
theorem csE_b {B D : Nat → Int} : ∀ (j k : Nat), (∀ i, k ≤ i → i < k + j → 0 ≤ D i ∧ D i < B i) → 0 ≤ csE B D k j ∧ csE B D k j < prE B k j
  | 0, k, _ => by rw [csE, prE]; decide
  | j + 1, k, h => by
    have r := csE_b j (k + 1) (fun i a b => h i (by omega) (by omega))
    have d := h k (by omega) (by omega)
    rw [csE, prE]
    have p1 := Int.mul_nonneg r.1 (show 0 ≤ B k by omega)
    have p2 := Int.mul_le_mul_of_nonneg_right (show csE B D (k + 1) j + 1 ≤ prE B (k + 1) j by omega) (show 0 ≤ B k by omega)
    rw [Int.add_mul, Int.one_mul] at p2
    omega
theorem lf_cs {B D : Nat → Int} {m : Nat} (h : ∀ i, i < m → 0 ≤ D i ∧ D i < B i) : ∀ (k j : Nat), k + j = m → lfS B (csE B D 0 m) k = csE B D k j
  | 0, j, e => by rw [lfS]; congr 1; omega
  | k + 1, j, e => by
    rw [lfS, lf_cs h k (j + 1) (by omega), csE]
    have d := h k (by omega)
    rw [Int.add_comm, Int.add_mul_ediv_right _ _ (by omega), Int.ediv_eq_zero_of_lt d.1 d.2]
    omega
theorem dg_cs {B D : Nat → Int} {m : Nat} (h : ∀ i, i < m → 0 ≤ D i ∧ D i < B i) {k : Nat} (hk : k < m) : dgS B (csE B D 0 m) k = D k := by
  unfold dgS
  have d := h k hk
  rw [lf_cs h k (m - k - 1 + 1) (by omega), csE, Int.add_comm, Int.add_mul_emod_self_right, Int.emod_eq_of_lt d.1 d.2]
theorem lf_n {B : Nat → Int} {s : Int} (hs : 0 ≤ s) : ∀ k : Nat, (∀ i, i < k → 1 ≤ B i) → 0 ≤ lfS B s k ∧ lfS B s k ≤ s
  | 0, _ => ⟨hs, Int.le_refl _⟩
  | k + 1, h => by
    have r := lf_n hs k (fun i a => h i (by omega))
    have b := h k (by omega)
    rw [lfS]
    refine ⟨Int.ediv_nonneg r.1 (by omega), Int.le_trans (Int.ediv_le_self _ r.1) r.2⟩
theorem dg_b {B : Nat → Int} {s : Int} {k : Nat} (h : 1 ≤ B k) : 0 ≤ dgS B s k ∧ dgS B s k < B k := ⟨Int.emod_nonneg _ (by omega), Int.emod_lt_of_pos _ (by omega)⟩
/-- the orders laid out -/
def OrM (K : JI) (m : Nat) (od : Nat → Int) (wn : Int → Int) : Prop := K 105 43 = m ∧ m ≤ 5 ∧ (∀ k : Nat, k < m → K 128 k = od k ∧ 0 ≤ od k ∧ od k < 10) ∧ (∀ p : Int, 0 ≤ p → p < 10 → K 127 p = wn p ∧ 0 ≤ wn p ∧ wn p ≤ 8) ∧ K 105 44 = prL (fun k => wn (od k) + 1) m
theorem OrM_c {K K' : JI} {m : Nat} {od : Nat → Int} {wn : Int → Int} (h3 : K' 105 43 = K 105 43) (h4 : K' 105 44 = K 105 44) (h8 : ∀ i, K' 128 i = K 128 i) (h7 : ∀ i, K' 127 i = K 127 i) (h : OrM K m od wn) : OrM K' m od wn :=
  ⟨h3.trans h.1, h.2.1, fun k hk => by rw [h8]; exact h.2.2.1 k hk, fun p a b => by rw [h7]; exact h.2.2.2.1 p a b, h4.trans h.2.2.2.2⟩
section PM
variable {e : EN} {L : JI} {m : Nat} {od : Nat → Int} {wn : Int → Int}
theorem K265 {dp : Nat} {K : JI} {s x y : Int} (hO : OrM K m od wn) (hs : 0 ≤ s ∧ s ≤ 1000000) : Ev (fun n => kf_265 n dp e 0 K L s x y) (fun r => r.2 = L ∧ (∀ a i, ¬ a = 133 → r.1 a i = K a i) ∧ ∀ k : Nat, k < m → r.1 133 k = dgS (fun k => wn (od k) + 1) s k) := by
  obtain ⟨o1, o2, o3, o4, o5⟩ := hO
  have key : ∀ k : Nat, k ≤ m → ∀ K1 : JI, (∀ a i, ¬ a = 133 → K1 a i = K a i) → (∀ j : Nat, j < k → K1 133 j = dgS (fun k => wn (od k) + 1) s j) → Ev (fun n => kf_265 n dp e 1 K1 L s (lfS (fun k => wn (od k) + 1) s k) k) (fun r => r.2 = L ∧ (∀ a i, ¬ a = 133 → r.1 a i = K a i) ∧ ∀ k : Nat, k < m → r.1 133 k = dgS (fun k => wn (od k) + 1) s k) := by
    refine dec_ind m (fun k hk ih => ?_)
    intro K1 f1 f2
    refine ev_265_1 ?_
    rw [f1 105 43 (by omega), o1]
    by_cases c : k < m
    · have ih := ih c
      obtain ⟨d1, d2, d3⟩ := o3 k c
      obtain ⟨w1, w2', w3⟩ := o4 (od k) d2 d3
      have lb := lf_n (B := fun k => wn (od k) + 1) hs.1 k (fun i hi => by have := o3 i (by omega); have := o4 (od i) this.2.1 this.2.2; omega)
      simp only [f1 128 _ (show ¬ (128 : Nat) = 133 by omega), f1 127 _ (show ¬ (127 : Nat) = 133 by omega), d1, w1]
      refine Ev_f (by omega) (Ev_t (by omega) (Ev_t (by omega) (Ev_t (by omega) (Ev_st (Ev_t (by omega) (Ev_t (by omega) (Ev_t (by omega) (Ev_st (Ev_t (by omega) (Ev_t (by omega) ?_))))))))))
      rw [Int.tmod_eq_emod_of_nonneg lb.1, Int.tdiv_eq_ediv_of_nonneg lb.1]
      refine ih _ (fun a i h => ?_) (fun j hj => ?_)
      · rw [w2_n (by omega)]; exact f1 a i h
      · by_cases z : j = k
        · subst z
          rw [w2_ap, if_pos ⟨rfl, rfl⟩]; rfl
        · rw [w2_n (by omega)]; exact f2 j (by omega)
    · have : k = m := by omega
      subst this
      exact Ev_t (by omega) (Ev_ret ⟨rfl, f1, f2⟩)
  refine ev_265_0 ?_
  exact key 0 (by omega) K (fun _ _ _ => rfl) (fun j hj => by omega)
/-- behind -/
theorem K266 {dp : Nat} {K : JI} {c : Int} {k : Nat} {x1 x2 x3 : Int} {D Lk : Nat → Int} (hO : OrM K m od wn) (hc : 0 ≤ c ∧ c < 3) (hk : k < 64) (hD : ∀ i : Nat, i < m → K 133 i = D i ∧ 0 ≤ D i ∧ D i ≤ wn (od i)) (hL : ∀ i : Nat, i < m → K 122 (640 * c + 10 * k + od i) = Lk i ∧ 0 ≤ Lk i ∧ Lk i ≤ 200) : Ev (fun n => kf_266 n dp e 0 K L c k x1 x2 x3) (fun r => r = (csE (fun k => wn (od k) + 1) (fun i => min (wn (od i)) (D i + Lk i)) 0 m, K, L)) := by
  obtain ⟨o1, o2, o3, o4, o5⟩ := hO
  have key : ∀ j : Nat, j ≤ m → Ev (fun n => kf_266 n dp e 1 K L c k (640 * c + 10 * k) (csE (fun k => wn (od k) + 1) (fun i => min (wn (od i)) (D i + Lk i)) j (m - j)) ((j : Int) - 1)) (fun r => r = (csE (fun k => wn (od k) + 1) (fun i => min (wn (od i)) (D i + Lk i)) 0 m, K, L)) := by
    intro j
    induction j with
    | zero => intro _; refine ev_266_1 ?_
              exact Ev_t (by omega) (Ev_ret rfl)
    | succ j ih =>
      intro hj
      have ih := ih (by omega)
      obtain ⟨d1, d2, d3⟩ := o3 j (by omega)
      obtain ⟨w1, w2', w3⟩ := o4 (od j) d2 d3
      obtain ⟨g1, g2, g3⟩ := hD j (by omega)
      obtain ⟨l1, l2, l3⟩ := hL j (by omega)
      have cb := csE_b (B := fun k => wn (od k) + 1) (D := fun i => min (wn (od i)) (D i + Lk i)) (m - (j + 1)) (j + 1) (fun i a b => by
        have q1 := o3 i (by omega); have q2 := o4 (od i) q1.2.1 q1.2.2; have q3 := hD i (by omega); have q4 := hL i (by omega)
        omega)
      have pe := prE_L (B := fun k => wn (od k) + 1) (m - (j + 1)) (j + 1)
      rw [show j + 1 + (m - (j + 1)) = m by omega] at pe
      have pb := prL_b (B := fun k => wn (od k) + 1) m (fun i hi => by have q1 := o3 i hi; have q2 := o4 (od i) q1.2.1 q1.2.2; omega)
      have pb1 := prL_b (B := fun k => wn (od k) + 1) (j + 1) (fun i hi => by have q1 := o3 i (by omega); have q2 := o4 (od i) q1.2.1 q1.2.2; omega)
      have p9 : (9 : Int) ^ m ≤ 59049 := by
        have : m = 0 ∨ m = 1 ∨ m = 2 ∨ m = 3 ∨ m = 4 ∨ m = 5 := by omega
        rcases this with h | h | h | h | h | h <;> rw [h] <;> decide
      have pq : prE (fun k => wn (od k) + 1) (j + 1) (m - (j + 1)) ≤ 59049 := by
        have := Int.mul_le_mul_of_nonneg_right pb1.1 (show 0 ≤ prE (fun k => wn (od k) + 1) (j + 1) (m - (j + 1)) by omega)
        omega
      have eq : csE (fun k => wn (od k) + 1) (fun i => min (wn (od i)) (D i + Lk i)) j (m - j) = csE (fun k => wn (od k) + 1) (fun i => min (wn (od i)) (D i + Lk i)) (j + 1) (m - (j + 1)) * (wn (od j) + 1) + min (wn (od j)) (D j + Lk j) := by
        rw [show m - j = m - (j + 1) + 1 by omega, csE]
      rw [eq] at ih
      generalize csE (fun k => wn (od k) + 1) (fun i => min (wn (od i)) (D i + Lk i)) (j + 1) (m - (j + 1)) = z at cb ih ⊢
      have zb := mulb (a := z) (b := wn (od j) + 1) (A := 59049) (B := 9) (by omega) (by omega)
      refine ev_266_1 ?_
      rw [show ((j + 1 : Nat) : Int) - 1 = j by omega]
      simp only [d1, w1, g1]
      rw [l1]
      refine Ev_f (by omega) (Ev_t (by omega) (Ev_t (by omega) (Ev_st (Ev_t (by omega) (Ev_t (by omega) (Ev_t (by omega) (Ev_t (by omega) (Ev_t (by omega) (Ev_st ?_)))))))))
      refine Ev_c (fun q => Ev_t (by omega) (Ev_st (Ev_t (by omega) ?_))) (fun q => Ev_t (by omega) (Ev_st (Ev_t (by omega) ?_)))
      · rw [show min (wn (od j)) (D j + Lk j) = D j + Lk j by omega] at ih
        exact ih
      · rw [show min (wn (od j)) (D j + Lk j) = wn (od j) by omega] at ih
        exact ih
  refine ev_266_0 ?_
  refine Ev_t (by omega) (Ev_st (Ev_t (by omega) (Ev_st ?_)))
  have := key m (by omega)
  rw [show m - m = 0 by omega, csE] at this
  rw [o1]
  exact this
end PM
