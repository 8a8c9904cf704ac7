/-! THE INVARIANT: row, send, mix, goes, cuttings, choice, left -/
theorem Ev_2m {f : Nat → Option (Int × JI × JI)} {g : (Int × JI × JI) → Nat → Option (Int × JI × JI)} {A B : JI → JI → Prop} (k : ∀ J' M', A J' M' → B J' M') (h : Ev f (fun r => Ev (g r) (fun q => ∃ a, r.1 = a ∧ q.1 = a ∧ A q.2.1 q.2.2))) : Ev f (fun r => Ev (g r) (fun q => ∃ a, r.1 = a ∧ q.1 = a ∧ B q.2.1 q.2.2)) :=
  Ev_mono h (fun r x => Ev_mono x (fun q y => by
    obtain ⟨a, a1, a2, a3⟩ := y
    exact ⟨a, a1, a2, k _ _ a3⟩))
/-- boxes that can be -/
def bxs (f : Int → Int) (c : Int) : Prop := ∀ b, 0 ≤ b → b < c → bxok (f (7 * b)) (f (7 * b + 1)) (f (7 * b + 2)) (f (7 * b + 3)) (f (7 * b + 4)) (f (7 * b + 5)) ∧ 0 ≤ f (7 * b + 6) ∧ f (7 * b + 6) ≤ 1
theorem up7_o {f : Int → Int} {a w l m t h c j : Int} (hj : j < a ∨ a + 6 < j) : up7 f a w l m t h c j = f j := by
  unfold up7
  rw [if_neg (by omega), if_neg (by omega), if_neg (by omega), if_neg (by omega), if_neg (by omega), if_neg (by omega), if_neg (by omega)]
theorem up7_ok {f : Int → Int} {n w l m t h c : Int} (hf : bxs f n) (hb : bxok w l m t h c) : bxs (up7 f (n * 7) w l m t h c) (n + 1) := fun b b0 b1 => by
  by_cases q : b = n
  · have e0 : up7 f (n * 7) w l m t h c (7 * b) = w := by
      unfold up7
      rw [if_neg (by omega), if_neg (by omega), if_neg (by omega), if_neg (by omega), if_neg (by omega), if_neg (by omega), if_pos (by omega)]
    have e1 : up7 f (n * 7) w l m t h c (7 * b + 1) = l := by
      unfold up7
      rw [if_neg (by omega), if_neg (by omega), if_neg (by omega), if_neg (by omega), if_neg (by omega), if_pos (by omega)]
    have e2 : up7 f (n * 7) w l m t h c (7 * b + 2) = m := by
      unfold up7
      rw [if_neg (by omega), if_neg (by omega), if_neg (by omega), if_neg (by omega), if_pos (by omega)]
    have e3 : up7 f (n * 7) w l m t h c (7 * b + 3) = t := by
      unfold up7
      rw [if_neg (by omega), if_neg (by omega), if_neg (by omega), if_pos (by omega)]
    have e4 : up7 f (n * 7) w l m t h c (7 * b + 4) = h := by
      unfold up7
      rw [if_neg (by omega), if_neg (by omega), if_pos (by omega)]
    have e5 : up7 f (n * 7) w l m t h c (7 * b + 5) = c := by
      unfold up7
      rw [if_neg (by omega), if_pos (by omega)]
    have e6 : up7 f (n * 7) w l m t h c (7 * b + 6) = 1 := by
      unfold up7
      rw [if_pos (by omega)]
    rw [e0, e1, e2, e3, e4, e5, e6]
    exact ⟨hb, by omega, by omega⟩
  · rw [up7_o (j := 7 * b) (by omega), up7_o (j := 7 * b + 1) (by omega), up7_o (j := 7 * b + 2) (by omega), up7_o (j := 7 * b + 3) (by omega), up7_o (j := 7 * b + 4) (by omega), up7_o (j := 7 * b + 5) (by omega), up7_o (j := 7 * b + 6) (by omega)]
    exact hf b b0 (by omega)
theorem ab_ok {t f : Int → Int} {c : Int} (hf : bxs f c) : ∀ k : Nat, bxs (ab t f c k).1 (ab t f c k).2
  | 0 => hf
  | k + 1 => by
    have ih := ab_ok hf k (t := t)
    by_cases h : bxok (t (6 * k)) (t (6 * k + 1)) (t (6 * k + 2)) (t (6 * k + 3)) (t (6 * k + 4)) (t (6 * k + 5)) ∧ (ab t f c k).2 < 16
    · rw [ab_t h]
      exact up7_ok ih h.1
    · rw [ab_f h]
      exact ih
theorem sdR_out {lo hi N : Int} {f : Int → Int} {b : Int} : ∀ (k : Nat) (g : Int → Int) (c : Int), sdR lo hi N k f b g c → ∀ j : Int, N * 7 ≤ j → g j = f j
  | 0, g, c, ⟨h1, _⟩, j, _ => by rw [h1]
  | k + 1, g, c, ⟨u, d, h1, x, h2, h3⟩, j, j0 => by
    have ih := sdR_out k u d h1 j j0
    rcases h3 with ⟨a1, a2, a3⟩ | ⟨a1, a2, a3⟩
    · rw [a2, ih]
    · have hx : x < N := by
        rcases h2 with ⟨y, _⟩ | ⟨_, y, _⟩
        · exact absurd y a1
        · exact y
      rw [a2]
      dsimp only
      rw [if_neg (by omega), ih]
theorem sdR_6 {lo hi N : Int} {f : Int → Int} {b : Int} : ∀ (k : Nat) (g : Int → Int) (c : Int), sdR lo hi N k f b g c → ∀ j : Int, g j = f j ∨ g j = 0
  | 0, g, c, ⟨h1, _⟩, j => Or.inl (by rw [h1])
  | k + 1, g, c, ⟨u, d, h1, x, h2, h3⟩, j => by
    have ih := sdR_6 k u d h1 j
    rcases h3 with ⟨a1, a2, a3⟩ | ⟨a1, a2, a3⟩
    · rw [a2]; exact ih
    · rw [a2]
      dsimp only
      by_cases q : j = x * 7 + 6
      · exact Or.inr (if_pos q)
      · rw [if_neg q]; exact ih
section OPX
variable {dp : Nat} {e : EN} {J M : JI} {P : Int → JI → JI → Prop}
theorem o_send3 {m day lo hi : Int} {N : Nat} (hd : 5 ≤ dp) (hB : Bs J) (h1 : J 1 9 = N) (h2 : J 107 6 = N) (hN : N ≤ 16) (h5 : ∀ j : Int, 0 ≤ j → j < 112 → J 7 j = J 107 (90 + j)) (h6 : ∀ b : Int, 0 ≤ b → b < N → 0 ≤ J 107 (90 + (b * 7 + 2)) ∧ J 107 (90 + (b * 7 + 2)) ≤ 99)
    (p1 : ¬ ((1 ≤ m ∧ m ≤ 16) ∧ (0 ≤ day ∧ day ≤ 99) ∧ (0 ≤ lo ∧ lo ≤ 99) ∧ 0 ≤ hi ∧ hi ≤ 99) → P (-1) (rfJ J (-1) 0 1) M)
    (p2 : ((1 ≤ m ∧ m ≤ 16) ∧ (0 ≤ day ∧ day ≤ 99) ∧ (0 ≤ lo ∧ lo ≤ 99) ∧ 0 ≤ hi ∧ hi ≤ 99) → ∀ J' c, sendF J J' → sdR (day - hi) (day - lo) N m.toNat (J 7) 0 (J' 7) c → (∀ j : Int, 0 ≤ j → j < 112 → J' 7 j = J' 107 (90 + j)) → P c J' M) :
    Ev (fun n => kf_169 n dp e 0 J M m day lo hi) (fun r => Ev (fun n => kf_296 n dp e 0 r.2.1 r.2.2 m day lo hi 0 0 0 0 0) (fun q => ∃ a, r.1 = a ∧ q.1 = a ∧ P a q.2.1 q.2.2)) := by
  obtain ⟨b0, b1, b2, b3, b4, b5, b6, b7, b8, b9, b10, b11, b12⟩ := hB
  by_cases c : (1 ≤ m ∧ m ≤ 16) ∧ (0 ≤ day ∧ day ≤ 99) ∧ (0 ≤ lo ∧ lo ≤ 99) ∧ 0 ≤ hi ∧ hi ≤ 99
  · refine ev_169_0 ?_
    refine Ev_t (by omega) (Ev14t c.1 (Ev_f (by decide) (Ev_t (by omega) (Ev14t c.2.1 (Ev_f (by decide) (Ev_t (by omega) (Ev14t c.2.2.1 (Ev_f (by decide) (Ev_t (by omega) (Ev14t c.2.2.2 (Ev_f (by decide) ?_)))))))))))
    refine Ev_t (by omega) (Ev_call K157 (Ev_t (by omega) (Ev_bind (K170 (N := N) (K := m.toNat) (by omega) (by omega) (by omega) h1 hN c.2.1 c.2.2.1 c.2.2.2 (fun b x0 x1 => ?_)) ?_)))
    · rw [show w2 J 81 11 1 7 = J 7 from rfl, h5 (b * 7 + 2) (by omega) (by omega)]; exact h6 b x0 x1
    · rintro r ⟨J1, cc, rfl, g1, g2, g3, g4⟩
      rw [show w2 J 81 11 1 7 = J 7 from rfl] at g2
      have g1' : ∀ b j, ¬ b = 7 → ¬ (b = 81 ∧ j = 11) → J1 b j = J b j := fun b j h1 h2 => by rw [g1 b j h1, w2_ap, if_neg h2]
      dsimp only
      refine Ev_t (by omega) (Ev_call K19 (Ev_ret ?_))
      dsimp only
      have fr : ∀ b j, ¬ b = 7 → ¬ (b = 81 ∧ j = 11) → ¬ (b = 0 ∧ j = 18) → w2 J1 0 18 0 b j = J b j := fun b j h1 h2 h3 => by rw [w2_ap, if_neg h3]; exact g1' b j h1 h2
      have fr0 : (fun j => w2 J1 0 18 0 107 (90 + j)) = fun j => J 107 (90 + j) := funext fun j => fr 107 (90 + j) (by omega) (by omega) (by omega)
      refine ev_296_0 ?_
      refine Ev_th (by rw [fr 105 0 (by omega) (by omega) (by omega)]; exact b0) (Ev_t (by omega) (Ev193t c.1 (Ev_f (by decide) (Ev_t (by omega) (Ev193t c.2.1 (Ev_f (by decide) (Ev_t (by omega) (Ev193t c.2.2.1 (Ev_f (by decide) (Ev_t (by omega) (Ev193t c.2.2.2 (Ev_f (by decide) ?_))))))))))))
      have k := K296 (dp := dp) (e := e) (J := w2 J1 0 18 0) (M := M) (m := m) (N := N) (K := m.toNat) (by omega) (by omega) (by omega) (by rw [fr 107 6 (by omega) (by omega) (by omega)]; exact h2) hN c.2.1 c.2.2.1 c.2.2.2 (fun b x0 x1 => by rw [fr 107 _ (by omega) (by omega) (by omega)]; exact h6 b x0 x1)
      rw [fr0] at k
      refine Ev_mono k ?_
      rintro r ⟨J2, d, rfl, k1, k2, k3, k4, k5⟩
      have dt := sdR_det (f := J 7) (f' := fun j => J 107 (90 + j)) (fun j x y => h5 j x (by omega)) _ _ _ _ _ g2 k3
      have e7 : J2 7 = J1 7 := funext fun j => by rw [k1 7 j (by omega)]; rfl
      refine ⟨cc, rfl, dt.1.symm, p2 c (okM J2) cc ⟨?_, ?_, rfl, rfl, rfl, ?_⟩ ?_ ?_⟩
      · intro b j n0 n7 n81 n105 n107
        show okM J2 b j = _
        unfold okM
        simp only [w2_ap]
        rw [if_neg (fun z => n105 ⟨z.1, by omega⟩), if_neg (fun z => n105 ⟨z.1, by omega⟩), if_neg (fun z => n105 ⟨z.1, by omega⟩), k1 b j n107]
        exact fr b j n7 n81 n0
      · show J2 0 18 = 0
        rw [k1 0 18 (by omega)]; rfl
      · show J2 81 11 = 1
        rw [k1 81 11 (by omega)]
        show J1 81 11 = 1
        rw [g1 81 11 (by decide)]; rfl
      · show sdR _ _ _ _ _ _ (J2 7) _
        rw [e7]; exact g2
      · intro j j0 j1
        show J2 7 j = J2 107 (90 + j)
        rw [e7]
        by_cases jn : j < N * 7
        · exact dt.2 j j0 jn
        · rw [sdR_out _ _ _ g2 j (by omega)]
          have := sdR_out _ _ _ k3 j (by omega)
          try dsimp only at this
          rw [this]; exact h5 j j0 j1
  · repeat' (first | (with_reducible refine Ev_t ?_ ?_; (· omega)) | (with_reducible refine Ev_f ?_ ?_; (· omega)) | (with_reducible refine Ev_th ?_ ?_; (· first | assumption | (simp only [w2_ap, true_and, false_and, and_true, and_false, if_true, if_false, Int.zero_add, Int.add_zero, not_false_eq_true, not_true_eq_false, Nat.reduceEqDiff, Int.reduceEq, Int.reduceAdd, Int.reduceSub, Int.reduceMul, Int.reduceNeg, Int.reduceLE, Int.reduceLT]; assumption))) | (with_reducible refine Ev_st ?_; try simp only [w2_ap, true_and, false_and, and_true, and_false, if_true, if_false, Int.zero_add, Int.add_zero, not_false_eq_true, not_true_eq_false, Nat.reduceEqDiff, Int.reduceEq, Int.reduceAdd, Int.reduceSub, Int.reduceMul, Int.reduceNeg, Int.reduceLE, Int.reduceLT]) | (with_reducible apply Ev_R; (· assumption); try dsimp only) | (with_reducible refine Ev14t ?_ ?_; (· omega); try dsimp only) | (with_reducible refine Ev14f ?_ ?_; (· omega); try dsimp only) | (with_reducible refine Ev14 (fun _ => ?_) (fun _ => ?_) <;> try dsimp only) | (with_reducible refine Ev193t ?_ ?_; (· omega); try dsimp only) | (with_reducible refine Ev193f ?_ ?_; (· omega); try dsimp only) | (with_reducible refine Ev193 (fun _ => ?_) (fun _ => ?_) <;> try dsimp only) | (with_reducible refine Ev197t ?_ ?_ ?_; (· omega); (· omega); try dsimp only) | (with_reducible refine Ev197f ?_ ?_ ?_; (· omega); (· omega); try dsimp only) | (with_reducible refine Ev197 ?_ (fun _ => ?_) (fun _ => ?_) <;> first | omega | (try dsimp only)) | (with_reducible refine Ev202t ?_ ?_ ?_; (· omega); (· omega); try dsimp only) | (with_reducible refine Ev202f ?_ ?_ ?_; (· omega); (· omega); try dsimp only) | (with_reducible refine Ev202 ?_ (fun _ => ?_) (fun _ => ?_) <;> first | omega | (try dsimp only)) | (with_reducible refine Ev_call (K18) ?_; try dsimp only) | (with_reducible refine Ev_call (K17) ?_; try dsimp only) | (with_reducible refine Ev_call (K22) ?_; try dsimp only) | (with_reducible refine Ev_call (K19) ?_; try dsimp only) | (with_reducible refine Ev_call (K200) ?_; try dsimp only) | (with_reducible refine Ev_call (K21 ?_) ?_; (· (first | omega | (simp only [w2_ap, true_and, false_and, and_true, and_false, if_true, if_false, Int.zero_add, Int.add_zero, not_false_eq_true, not_true_eq_false, Nat.reduceEqDiff, Int.reduceEq, Int.reduceAdd, Int.reduceSub, Int.reduceMul, Int.reduceNeg, Int.reduceLE, Int.reduceLT]; omega) | assumption | (simp only [w2_ap, true_and, false_and, and_true, and_false, if_true, if_false, Int.zero_add, Int.add_zero, not_false_eq_true, not_true_eq_false, Nat.reduceEqDiff, Int.reduceEq, Int.reduceAdd, Int.reduceSub, Int.reduceMul, Int.reduceNeg, Int.reduceLE, Int.reduceLT]; done))); try dsimp only) | (with_reducible refine Ev_call (K25 ?_) ?_; (· (first | omega | (simp only [w2_ap, true_and, false_and, and_true, and_false, if_true, if_false, Int.zero_add, Int.add_zero, not_false_eq_true, not_true_eq_false, Nat.reduceEqDiff, Int.reduceEq, Int.reduceAdd, Int.reduceSub, Int.reduceMul, Int.reduceNeg, Int.reduceLE, Int.reduceLT]; omega) | assumption | (simp only [w2_ap, true_and, false_and, and_true, and_false, if_true, if_false, Int.zero_add, Int.add_zero, not_false_eq_true, not_true_eq_false, Nat.reduceEqDiff, Int.reduceEq, Int.reduceAdd, Int.reduceSub, Int.reduceMul, Int.reduceNeg, Int.reduceLE, Int.reduceLT]; done))); try dsimp only) | (with_reducible refine Ev_call (K199 ?_ ?_) ?_; (· (first | omega | (simp only [w2_ap, true_and, false_and, and_true, and_false, if_true, if_false, Int.zero_add, Int.add_zero, not_false_eq_true, not_true_eq_false, Nat.reduceEqDiff, Int.reduceEq, Int.reduceAdd, Int.reduceSub, Int.reduceMul, Int.reduceNeg, Int.reduceLE, Int.reduceLT]; omega) | assumption | (simp only [w2_ap, true_and, false_and, and_true, and_false, if_true, if_false, Int.zero_add, Int.add_zero, not_false_eq_true, not_true_eq_false, Nat.reduceEqDiff, Int.reduceEq, Int.reduceAdd, Int.reduceSub, Int.reduceMul, Int.reduceNeg, Int.reduceLE, Int.reduceLT]; done))); (· (first | omega | (simp only [w2_ap, true_and, false_and, and_true, and_false, if_true, if_false, Int.zero_add, Int.add_zero, not_false_eq_true, not_true_eq_false, Nat.reduceEqDiff, Int.reduceEq, Int.reduceAdd, Int.reduceSub, Int.reduceMul, Int.reduceNeg, Int.reduceLE, Int.reduceLT]; omega) | assumption | (simp only [w2_ap, true_and, false_and, and_true, and_false, if_true, if_false, Int.zero_add, Int.add_zero, not_false_eq_true, not_true_eq_false, Nat.reduceEqDiff, Int.reduceEq, Int.reduceAdd, Int.reduceSub, Int.reduceMul, Int.reduceNeg, Int.reduceLE, Int.reduceLT]; done))); try dsimp only) | (with_reducible refine Ev_call (K16 ?_) ?_; (· (first | omega | (simp only [w2_ap, true_and, false_and, and_true, and_false, if_true, if_false, Int.zero_add, Int.add_zero, not_false_eq_true, not_true_eq_false, Nat.reduceEqDiff, Int.reduceEq, Int.reduceAdd, Int.reduceSub, Int.reduceMul, Int.reduceNeg, Int.reduceLE, Int.reduceLT]; omega) | assumption | (simp only [w2_ap, true_and, false_and, and_true, and_false, if_true, if_false, Int.zero_add, Int.add_zero, not_false_eq_true, not_true_eq_false, Nat.reduceEqDiff, Int.reduceEq, Int.reduceAdd, Int.reduceSub, Int.reduceMul, Int.reduceNeg, Int.reduceLE, Int.reduceLT]; done))); try dsimp only) | (with_reducible refine Ev_call (K198 ?_) ?_; (· (first | omega | (simp only [w2_ap, true_and, false_and, and_true, and_false, if_true, if_false, Int.zero_add, Int.add_zero, not_false_eq_true, not_true_eq_false, Nat.reduceEqDiff, Int.reduceEq, Int.reduceAdd, Int.reduceSub, Int.reduceMul, Int.reduceNeg, Int.reduceLE, Int.reduceLT]; omega) | assumption | (simp only [w2_ap, true_and, false_and, and_true, and_false, if_true, if_false, Int.zero_add, Int.add_zero, not_false_eq_true, not_true_eq_false, Nat.reduceEqDiff, Int.reduceEq, Int.reduceAdd, Int.reduceSub, Int.reduceMul, Int.reduceNeg, Int.reduceLE, Int.reduceLT]; done))); try dsimp only) | (with_reducible refine Ev_call (K292 ?_) ?_; (· (first | omega | (simp only [w2_ap, true_and, false_and, and_true, and_false, if_true, if_false, Int.zero_add, Int.add_zero, not_false_eq_true, not_true_eq_false, Nat.reduceEqDiff, Int.reduceEq, Int.reduceAdd, Int.reduceSub, Int.reduceMul, Int.reduceNeg, Int.reduceLE, Int.reduceLT]; omega) | assumption | (simp only [w2_ap, true_and, false_and, and_true, and_false, if_true, if_false, Int.zero_add, Int.add_zero, not_false_eq_true, not_true_eq_false, Nat.reduceEqDiff, Int.reduceEq, Int.reduceAdd, Int.reduceSub, Int.reduceMul, Int.reduceNeg, Int.reduceLE, Int.reduceLT]; done))); try dsimp only) | (with_reducible refine Ev_call (K157) ?_; try dsimp only) | (with_reducible refine Ev_call (K15 (b := -1) (j := 0) ?_ ?_ ?_) ?_; (· (first | omega | (simp only [w2_ap, true_and, false_and, and_true, and_false, if_true, if_false, Int.zero_add, Int.add_zero, not_false_eq_true, not_true_eq_false, Nat.reduceEqDiff, Int.reduceEq, Int.reduceAdd, Int.reduceSub, Int.reduceMul, Int.reduceNeg, Int.reduceLE, Int.reduceLT]; omega) | assumption | (simp only [w2_ap, true_and, false_and, and_true, and_false, if_true, if_false, Int.zero_add, Int.add_zero, not_false_eq_true, not_true_eq_false, Nat.reduceEqDiff, Int.reduceEq, Int.reduceAdd, Int.reduceSub, Int.reduceMul, Int.reduceNeg, Int.reduceLE, Int.reduceLT]; done))); (· (first | omega | (simp only [w2_ap, true_and, false_and, and_true, and_false, if_true, if_false, Int.zero_add, Int.add_zero, not_false_eq_true, not_true_eq_false, Nat.reduceEqDiff, Int.reduceEq, Int.reduceAdd, Int.reduceSub, Int.reduceMul, Int.reduceNeg, Int.reduceLE, Int.reduceLT]; omega) | assumption | (simp only [w2_ap, true_and, false_and, and_true, and_false, if_true, if_false, Int.zero_add, Int.add_zero, not_false_eq_true, not_true_eq_false, Nat.reduceEqDiff, Int.reduceEq, Int.reduceAdd, Int.reduceSub, Int.reduceMul, Int.reduceNeg, Int.reduceLE, Int.reduceLT]; done))); (· (first | omega | (simp only [w2_ap, true_and, false_and, and_true, and_false, if_true, if_false, Int.zero_add, Int.add_zero, not_false_eq_true, not_true_eq_false, Nat.reduceEqDiff, Int.reduceEq, Int.reduceAdd, Int.reduceSub, Int.reduceMul, Int.reduceNeg, Int.reduceLE, Int.reduceLT]; omega) | assumption | (simp only [w2_ap, true_and, false_and, and_true, and_false, if_true, if_false, Int.zero_add, Int.add_zero, not_false_eq_true, not_true_eq_false, Nat.reduceEqDiff, Int.reduceEq, Int.reduceAdd, Int.reduceSub, Int.reduceMul, Int.reduceNeg, Int.reduceLE, Int.reduceLT]; done))); try dsimp only) | (with_reducible refine Ev_call (K15 (b := -2) (j := 1) ?_ ?_ ?_) ?_; (· (first | omega | (simp only [w2_ap, true_and, false_and, and_true, and_false, if_true, if_false, Int.zero_add, Int.add_zero, not_false_eq_true, not_true_eq_false, Nat.reduceEqDiff, Int.reduceEq, Int.reduceAdd, Int.reduceSub, Int.reduceMul, Int.reduceNeg, Int.reduceLE, Int.reduceLT]; omega) | assumption | (simp only [w2_ap, true_and, false_and, and_true, and_false, if_true, if_false, Int.zero_add, Int.add_zero, not_false_eq_true, not_true_eq_false, Nat.reduceEqDiff, Int.reduceEq, Int.reduceAdd, Int.reduceSub, Int.reduceMul, Int.reduceNeg, Int.reduceLE, Int.reduceLT]; done))); (· (first | omega | (simp only [w2_ap, true_and, false_and, and_true, and_false, if_true, if_false, Int.zero_add, Int.add_zero, not_false_eq_true, not_true_eq_false, Nat.reduceEqDiff, Int.reduceEq, Int.reduceAdd, Int.reduceSub, Int.reduceMul, Int.reduceNeg, Int.reduceLE, Int.reduceLT]; omega) | assumption | (simp only [w2_ap, true_and, false_and, and_true, and_false, if_true, if_false, Int.zero_add, Int.add_zero, not_false_eq_true, not_true_eq_false, Nat.reduceEqDiff, Int.reduceEq, Int.reduceAdd, Int.reduceSub, Int.reduceMul, Int.reduceNeg, Int.reduceLE, Int.reduceLT]; done))); (· (first | omega | (simp only [w2_ap, true_and, false_and, and_true, and_false, if_true, if_false, Int.zero_add, Int.add_zero, not_false_eq_true, not_true_eq_false, Nat.reduceEqDiff, Int.reduceEq, Int.reduceAdd, Int.reduceSub, Int.reduceMul, Int.reduceNeg, Int.reduceLE, Int.reduceLT]; omega) | assumption | (simp only [w2_ap, true_and, false_and, and_true, and_false, if_true, if_false, Int.zero_add, Int.add_zero, not_false_eq_true, not_true_eq_false, Nat.reduceEqDiff, Int.reduceEq, Int.reduceAdd, Int.reduceSub, Int.reduceMul, Int.reduceNeg, Int.reduceLE, Int.reduceLT]; done))); try dsimp only) | (with_reducible refine Ev_call (K15 (b := -3) (j := 2) ?_ ?_ ?_) ?_; (· (first | omega | (simp only [w2_ap, true_and, false_and, and_true, and_false, if_true, if_false, Int.zero_add, Int.add_zero, not_false_eq_true, not_true_eq_false, Nat.reduceEqDiff, Int.reduceEq, Int.reduceAdd, Int.reduceSub, Int.reduceMul, Int.reduceNeg, Int.reduceLE, Int.reduceLT]; omega) | assumption | (simp only [w2_ap, true_and, false_and, and_true, and_false, if_true, if_false, Int.zero_add, Int.add_zero, not_false_eq_true, not_true_eq_false, Nat.reduceEqDiff, Int.reduceEq, Int.reduceAdd, Int.reduceSub, Int.reduceMul, Int.reduceNeg, Int.reduceLE, Int.reduceLT]; done))); (· (first | omega | (simp only [w2_ap, true_and, false_and, and_true, and_false, if_true, if_false, Int.zero_add, Int.add_zero, not_false_eq_true, not_true_eq_false, Nat.reduceEqDiff, Int.reduceEq, Int.reduceAdd, Int.reduceSub, Int.reduceMul, Int.reduceNeg, Int.reduceLE, Int.reduceLT]; omega) | assumption | (simp only [w2_ap, true_and, false_and, and_true, and_false, if_true, if_false, Int.zero_add, Int.add_zero, not_false_eq_true, not_true_eq_false, Nat.reduceEqDiff, Int.reduceEq, Int.reduceAdd, Int.reduceSub, Int.reduceMul, Int.reduceNeg, Int.reduceLE, Int.reduceLT]; done))); (· (first | omega | (simp only [w2_ap, true_and, false_and, and_true, and_false, if_true, if_false, Int.zero_add, Int.add_zero, not_false_eq_true, not_true_eq_false, Nat.reduceEqDiff, Int.reduceEq, Int.reduceAdd, Int.reduceSub, Int.reduceMul, Int.reduceNeg, Int.reduceLE, Int.reduceLT]; omega) | assumption | (simp only [w2_ap, true_and, false_and, and_true, and_false, if_true, if_false, Int.zero_add, Int.add_zero, not_false_eq_true, not_true_eq_false, Nat.reduceEqDiff, Int.reduceEq, Int.reduceAdd, Int.reduceSub, Int.reduceMul, Int.reduceNeg, Int.reduceLE, Int.reduceLT]; done))); try dsimp only) | (with_reducible refine Ev_call (K15 (b := -5) (j := 3) ?_ ?_ ?_) ?_; (· (first | omega | (simp only [w2_ap, true_and, false_and, and_true, and_false, if_true, if_false, Int.zero_add, Int.add_zero, not_false_eq_true, not_true_eq_false, Nat.reduceEqDiff, Int.reduceEq, Int.reduceAdd, Int.reduceSub, Int.reduceMul, Int.reduceNeg, Int.reduceLE, Int.reduceLT]; omega) | assumption | (simp only [w2_ap, true_and, false_and, and_true, and_false, if_true, if_false, Int.zero_add, Int.add_zero, not_false_eq_true, not_true_eq_false, Nat.reduceEqDiff, Int.reduceEq, Int.reduceAdd, Int.reduceSub, Int.reduceMul, Int.reduceNeg, Int.reduceLE, Int.reduceLT]; done))); (· (first | omega | (simp only [w2_ap, true_and, false_and, and_true, and_false, if_true, if_false, Int.zero_add, Int.add_zero, not_false_eq_true, not_true_eq_false, Nat.reduceEqDiff, Int.reduceEq, Int.reduceAdd, Int.reduceSub, Int.reduceMul, Int.reduceNeg, Int.reduceLE, Int.reduceLT]; omega) | assumption | (simp only [w2_ap, true_and, false_and, and_true, and_false, if_true, if_false, Int.zero_add, Int.add_zero, not_false_eq_true, not_true_eq_false, Nat.reduceEqDiff, Int.reduceEq, Int.reduceAdd, Int.reduceSub, Int.reduceMul, Int.reduceNeg, Int.reduceLE, Int.reduceLT]; done))); (· (first | omega | (simp only [w2_ap, true_and, false_and, and_true, and_false, if_true, if_false, Int.zero_add, Int.add_zero, not_false_eq_true, not_true_eq_false, Nat.reduceEqDiff, Int.reduceEq, Int.reduceAdd, Int.reduceSub, Int.reduceMul, Int.reduceNeg, Int.reduceLE, Int.reduceLT]; omega) | assumption | (simp only [w2_ap, true_and, false_and, and_true, and_false, if_true, if_false, Int.zero_add, Int.add_zero, not_false_eq_true, not_true_eq_false, Nat.reduceEqDiff, Int.reduceEq, Int.reduceAdd, Int.reduceSub, Int.reduceMul, Int.reduceNeg, Int.reduceLE, Int.reduceLT]; done))); try dsimp only) | (with_reducible refine Ev_call (K15 (b := -6) (j := 4) ?_ ?_ ?_) ?_; (· (first | omega | (simp only [w2_ap, true_and, false_and, and_true, and_false, if_true, if_false, Int.zero_add, Int.add_zero, not_false_eq_true, not_true_eq_false, Nat.reduceEqDiff, Int.reduceEq, Int.reduceAdd, Int.reduceSub, Int.reduceMul, Int.reduceNeg, Int.reduceLE, Int.reduceLT]; omega) | assumption | (simp only [w2_ap, true_and, false_and, and_true, and_false, if_true, if_false, Int.zero_add, Int.add_zero, not_false_eq_true, not_true_eq_false, Nat.reduceEqDiff, Int.reduceEq, Int.reduceAdd, Int.reduceSub, Int.reduceMul, Int.reduceNeg, Int.reduceLE, Int.reduceLT]; done))); (· (first | omega | (simp only [w2_ap, true_and, false_and, and_true, and_false, if_true, if_false, Int.zero_add, Int.add_zero, not_false_eq_true, not_true_eq_false, Nat.reduceEqDiff, Int.reduceEq, Int.reduceAdd, Int.reduceSub, Int.reduceMul, Int.reduceNeg, Int.reduceLE, Int.reduceLT]; omega) | assumption | (simp only [w2_ap, true_and, false_and, and_true, and_false, if_true, if_false, Int.zero_add, Int.add_zero, not_false_eq_true, not_true_eq_false, Nat.reduceEqDiff, Int.reduceEq, Int.reduceAdd, Int.reduceSub, Int.reduceMul, Int.reduceNeg, Int.reduceLE, Int.reduceLT]; done))); (· (first | omega | (simp only [w2_ap, true_and, false_and, and_true, and_false, if_true, if_false, Int.zero_add, Int.add_zero, not_false_eq_true, not_true_eq_false, Nat.reduceEqDiff, Int.reduceEq, Int.reduceAdd, Int.reduceSub, Int.reduceMul, Int.reduceNeg, Int.reduceLE, Int.reduceLT]; omega) | assumption | (simp only [w2_ap, true_and, false_and, and_true, and_false, if_true, if_false, Int.zero_add, Int.add_zero, not_false_eq_true, not_true_eq_false, Nat.reduceEqDiff, Int.reduceEq, Int.reduceAdd, Int.reduceSub, Int.reduceMul, Int.reduceNeg, Int.reduceLE, Int.reduceLT]; done))); try dsimp only) | (with_reducible refine Ev_call (K194n (b := -1) (j := 1) ?_ ?_ ?_ ?_) ?_; (· (first | omega | (simp only [w2_ap, true_and, false_and, and_true, and_false, if_true, if_false, Int.zero_add, Int.add_zero, not_false_eq_true, not_true_eq_false, Nat.reduceEqDiff, Int.reduceEq, Int.reduceAdd, Int.reduceSub, Int.reduceMul, Int.reduceNeg, Int.reduceLE, Int.reduceLT]; omega) | assumption | (simp only [w2_ap, true_and, false_and, and_true, and_false, if_true, if_false, Int.zero_add, Int.add_zero, not_false_eq_true, not_true_eq_false, Nat.reduceEqDiff, Int.reduceEq, Int.reduceAdd, Int.reduceSub, Int.reduceMul, Int.reduceNeg, Int.reduceLE, Int.reduceLT]; done))); (· (first | omega | (simp only [w2_ap, true_and, false_and, and_true, and_false, if_true, if_false, Int.zero_add, Int.add_zero, not_false_eq_true, not_true_eq_false, Nat.reduceEqDiff, Int.reduceEq, Int.reduceAdd, Int.reduceSub, Int.reduceMul, Int.reduceNeg, Int.reduceLE, Int.reduceLT]; omega) | assumption | (simp only [w2_ap, true_and, false_and, and_true, and_false, if_true, if_false, Int.zero_add, Int.add_zero, not_false_eq_true, not_true_eq_false, Nat.reduceEqDiff, Int.reduceEq, Int.reduceAdd, Int.reduceSub, Int.reduceMul, Int.reduceNeg, Int.reduceLE, Int.reduceLT]; done))); (· (first | omega | (simp only [w2_ap, true_and, false_and, and_true, and_false, if_true, if_false, Int.zero_add, Int.add_zero, not_false_eq_true, not_true_eq_false, Nat.reduceEqDiff, Int.reduceEq, Int.reduceAdd, Int.reduceSub, Int.reduceMul, Int.reduceNeg, Int.reduceLE, Int.reduceLT]; omega) | assumption | (simp only [w2_ap, true_and, false_and, and_true, and_false, if_true, if_false, Int.zero_add, Int.add_zero, not_false_eq_true, not_true_eq_false, Nat.reduceEqDiff, Int.reduceEq, Int.reduceAdd, Int.reduceSub, Int.reduceMul, Int.reduceNeg, Int.reduceLE, Int.reduceLT]; done))); (· (first | omega | (simp only [w2_ap, true_and, false_and, and_true, and_false, if_true, if_false, Int.zero_add, Int.add_zero, not_false_eq_true, not_true_eq_false, Nat.reduceEqDiff, Int.reduceEq, Int.reduceAdd, Int.reduceSub, Int.reduceMul, Int.reduceNeg, Int.reduceLE, Int.reduceLT]; omega) | assumption | (simp only [w2_ap, true_and, false_and, and_true, and_false, if_true, if_false, Int.zero_add, Int.add_zero, not_false_eq_true, not_true_eq_false, Nat.reduceEqDiff, Int.reduceEq, Int.reduceAdd, Int.reduceSub, Int.reduceMul, Int.reduceNeg, Int.reduceLE, Int.reduceLT]; done))); try dsimp only) | (with_reducible refine Ev_call (K194n (b := -2) (j := 2) ?_ ?_ ?_ ?_) ?_; (· (first | omega | (simp only [w2_ap, true_and, false_and, and_true, and_false, if_true, if_false, Int.zero_add, Int.add_zero, not_false_eq_true, not_true_eq_false, Nat.reduceEqDiff, Int.reduceEq, Int.reduceAdd, Int.reduceSub, Int.reduceMul, Int.reduceNeg, Int.reduceLE, Int.reduceLT]; omega) | assumption | (simp only [w2_ap, true_and, false_and, and_true, and_false, if_true, if_false, Int.zero_add, Int.add_zero, not_false_eq_true, not_true_eq_false, Nat.reduceEqDiff, Int.reduceEq, Int.reduceAdd, Int.reduceSub, Int.reduceMul, Int.reduceNeg, Int.reduceLE, Int.reduceLT]; done))); (· (first | omega | (simp only [w2_ap, true_and, false_and, and_true, and_false, if_true, if_false, Int.zero_add, Int.add_zero, not_false_eq_true, not_true_eq_false, Nat.reduceEqDiff, Int.reduceEq, Int.reduceAdd, Int.reduceSub, Int.reduceMul, Int.reduceNeg, Int.reduceLE, Int.reduceLT]; omega) | assumption | (simp only [w2_ap, true_and, false_and, and_true, and_false, if_true, if_false, Int.zero_add, Int.add_zero, not_false_eq_true, not_true_eq_false, Nat.reduceEqDiff, Int.reduceEq, Int.reduceAdd, Int.reduceSub, Int.reduceMul, Int.reduceNeg, Int.reduceLE, Int.reduceLT]; done))); (· (first | omega | (simp only [w2_ap, true_and, false_and, and_true, and_false, if_true, if_false, Int.zero_add, Int.add_zero, not_false_eq_true, not_true_eq_false, Nat.reduceEqDiff, Int.reduceEq, Int.reduceAdd, Int.reduceSub, Int.reduceMul, Int.reduceNeg, Int.reduceLE, Int.reduceLT]; omega) | assumption | (simp only [w2_ap, true_and, false_and, and_true, and_false, if_true, if_false, Int.zero_add, Int.add_zero, not_false_eq_true, not_true_eq_false, Nat.reduceEqDiff, Int.reduceEq, Int.reduceAdd, Int.reduceSub, Int.reduceMul, Int.reduceNeg, Int.reduceLE, Int.reduceLT]; done))); (· (first | omega | (simp only [w2_ap, true_and, false_and, and_true, and_false, if_true, if_false, Int.zero_add, Int.add_zero, not_false_eq_true, not_true_eq_false, Nat.reduceEqDiff, Int.reduceEq, Int.reduceAdd, Int.reduceSub, Int.reduceMul, Int.reduceNeg, Int.reduceLE, Int.reduceLT]; omega) | assumption | (simp only [w2_ap, true_and, false_and, and_true, and_false, if_true, if_false, Int.zero_add, Int.add_zero, not_false_eq_true, not_true_eq_false, Nat.reduceEqDiff, Int.reduceEq, Int.reduceAdd, Int.reduceSub, Int.reduceMul, Int.reduceNeg, Int.reduceLE, Int.reduceLT]; done))); try dsimp only) | (with_reducible refine Ev_call (K194n (b := -3) (j := 3) ?_ ?_ ?_ ?_) ?_; (· (first | omega | (simp only [w2_ap, true_and, false_and, and_true, and_false, if_true, if_false, Int.zero_add, Int.add_zero, not_false_eq_true, not_true_eq_false, Nat.reduceEqDiff, Int.reduceEq, Int.reduceAdd, Int.reduceSub, Int.reduceMul, Int.reduceNeg, Int.reduceLE, Int.reduceLT]; omega) | assumption | (simp only [w2_ap, true_and, false_and, and_true, and_false, if_true, if_false, Int.zero_add, Int.add_zero, not_false_eq_true, not_true_eq_false, Nat.reduceEqDiff, Int.reduceEq, Int.reduceAdd, Int.reduceSub, Int.reduceMul, Int.reduceNeg, Int.reduceLE, Int.reduceLT]; done))); (· (first | omega | (simp only [w2_ap, true_and, false_and, and_true, and_false, if_true, if_false, Int.zero_add, Int.add_zero, not_false_eq_true, not_true_eq_false, Nat.reduceEqDiff, Int.reduceEq, Int.reduceAdd, Int.reduceSub, Int.reduceMul, Int.reduceNeg, Int.reduceLE, Int.reduceLT]; omega) | assumption | (simp only [w2_ap, true_and, false_and, and_true, and_false, if_true, if_false, Int.zero_add, Int.add_zero, not_false_eq_true, not_true_eq_false, Nat.reduceEqDiff, Int.reduceEq, Int.reduceAdd, Int.reduceSub, Int.reduceMul, Int.reduceNeg, Int.reduceLE, Int.reduceLT]; done))); (· (first | omega | (simp only [w2_ap, true_and, false_and, and_true, and_false, if_true, if_false, Int.zero_add, Int.add_zero, not_false_eq_true, not_true_eq_false, Nat.reduceEqDiff, Int.reduceEq, Int.reduceAdd, Int.reduceSub, Int.reduceMul, Int.reduceNeg, Int.reduceLE, Int.reduceLT]; omega) | assumption | (simp only [w2_ap, true_and, false_and, and_true, and_false, if_true, if_false, Int.zero_add, Int.add_zero, not_false_eq_true, not_true_eq_false, Nat.reduceEqDiff, Int.reduceEq, Int.reduceAdd, Int.reduceSub, Int.reduceMul, Int.reduceNeg, Int.reduceLE, Int.reduceLT]; done))); (· (first | omega | (simp only [w2_ap, true_and, false_and, and_true, and_false, if_true, if_false, Int.zero_add, Int.add_zero, not_false_eq_true, not_true_eq_false, Nat.reduceEqDiff, Int.reduceEq, Int.reduceAdd, Int.reduceSub, Int.reduceMul, Int.reduceNeg, Int.reduceLE, Int.reduceLT]; omega) | assumption | (simp only [w2_ap, true_and, false_and, and_true, and_false, if_true, if_false, Int.zero_add, Int.add_zero, not_false_eq_true, not_true_eq_false, Nat.reduceEqDiff, Int.reduceEq, Int.reduceAdd, Int.reduceSub, Int.reduceMul, Int.reduceNeg, Int.reduceLE, Int.reduceLT]; done))); try dsimp only) | (with_reducible refine Ev_call (K194n (b := -5) (j := 5) ?_ ?_ ?_ ?_) ?_; (· (first | omega | (simp only [w2_ap, true_and, false_and, and_true, and_false, if_true, if_false, Int.zero_add, Int.add_zero, not_false_eq_true, not_true_eq_false, Nat.reduceEqDiff, Int.reduceEq, Int.reduceAdd, Int.reduceSub, Int.reduceMul, Int.reduceNeg, Int.reduceLE, Int.reduceLT]; omega) | assumption | (simp only [w2_ap, true_and, false_and, and_true, and_false, if_true, if_false, Int.zero_add, Int.add_zero, not_false_eq_true, not_true_eq_false, Nat.reduceEqDiff, Int.reduceEq, Int.reduceAdd, Int.reduceSub, Int.reduceMul, Int.reduceNeg, Int.reduceLE, Int.reduceLT]; done))); (· (first | omega | (simp only [w2_ap, true_and, false_and, and_true, and_false, if_true, if_false, Int.zero_add, Int.add_zero, not_false_eq_true, not_true_eq_false, Nat.reduceEqDiff, Int.reduceEq, Int.reduceAdd, Int.reduceSub, Int.reduceMul, Int.reduceNeg, Int.reduceLE, Int.reduceLT]; omega) | assumption | (simp only [w2_ap, true_and, false_and, and_true, and_false, if_true, if_false, Int.zero_add, Int.add_zero, not_false_eq_true, not_true_eq_false, Nat.reduceEqDiff, Int.reduceEq, Int.reduceAdd, Int.reduceSub, Int.reduceMul, Int.reduceNeg, Int.reduceLE, Int.reduceLT]; done))); (· (first | omega | (simp only [w2_ap, true_and, false_and, and_true, and_false, if_true, if_false, Int.zero_add, Int.add_zero, not_false_eq_true, not_true_eq_false, Nat.reduceEqDiff, Int.reduceEq, Int.reduceAdd, Int.reduceSub, Int.reduceMul, Int.reduceNeg, Int.reduceLE, Int.reduceLT]; omega) | assumption | (simp only [w2_ap, true_and, false_and, and_true, and_false, if_true, if_false, Int.zero_add, Int.add_zero, not_false_eq_true, not_true_eq_false, Nat.reduceEqDiff, Int.reduceEq, Int.reduceAdd, Int.reduceSub, Int.reduceMul, Int.reduceNeg, Int.reduceLE, Int.reduceLT]; done))); (· (first | omega | (simp only [w2_ap, true_and, false_and, and_true, and_false, if_true, if_false, Int.zero_add, Int.add_zero, not_false_eq_true, not_true_eq_false, Nat.reduceEqDiff, Int.reduceEq, Int.reduceAdd, Int.reduceSub, Int.reduceMul, Int.reduceNeg, Int.reduceLE, Int.reduceLT]; omega) | assumption | (simp only [w2_ap, true_and, false_and, and_true, and_false, if_true, if_false, Int.zero_add, Int.add_zero, not_false_eq_true, not_true_eq_false, Nat.reduceEqDiff, Int.reduceEq, Int.reduceAdd, Int.reduceSub, Int.reduceMul, Int.reduceNeg, Int.reduceLE, Int.reduceLT]; done))); try dsimp only) | (with_reducible refine Ev_call (K194n (b := -6) (j := 6) ?_ ?_ ?_ ?_) ?_; (· (first | omega | (simp only [w2_ap, true_and, false_and, and_true, and_false, if_true, if_false, Int.zero_add, Int.add_zero, not_false_eq_true, not_true_eq_false, Nat.reduceEqDiff, Int.reduceEq, Int.reduceAdd, Int.reduceSub, Int.reduceMul, Int.reduceNeg, Int.reduceLE, Int.reduceLT]; omega) | assumption | (simp only [w2_ap, true_and, false_and, and_true, and_false, if_true, if_false, Int.zero_add, Int.add_zero, not_false_eq_true, not_true_eq_false, Nat.reduceEqDiff, Int.reduceEq, Int.reduceAdd, Int.reduceSub, Int.reduceMul, Int.reduceNeg, Int.reduceLE, Int.reduceLT]; done))); (· (first | omega | (simp only [w2_ap, true_and, false_and, and_true, and_false, if_true, if_false, Int.zero_add, Int.add_zero, not_false_eq_true, not_true_eq_false, Nat.reduceEqDiff, Int.reduceEq, Int.reduceAdd, Int.reduceSub, Int.reduceMul, Int.reduceNeg, Int.reduceLE, Int.reduceLT]; omega) | assumption | (simp only [w2_ap, true_and, false_and, and_true, and_false, if_true, if_false, Int.zero_add, Int.add_zero, not_false_eq_true, not_true_eq_false, Nat.reduceEqDiff, Int.reduceEq, Int.reduceAdd, Int.reduceSub, Int.reduceMul, Int.reduceNeg, Int.reduceLE, Int.reduceLT]; done))); (· (first | omega | (simp only [w2_ap, true_and, false_and, and_true, and_false, if_true, if_false, Int.zero_add, Int.add_zero, not_false_eq_true, not_true_eq_false, Nat.reduceEqDiff, Int.reduceEq, Int.reduceAdd, Int.reduceSub, Int.reduceMul, Int.reduceNeg, Int.reduceLE, Int.reduceLT]; omega) | assumption | (simp only [w2_ap, true_and, false_and, and_true, and_false, if_true, if_false, Int.zero_add, Int.add_zero, not_false_eq_true, not_true_eq_false, Nat.reduceEqDiff, Int.reduceEq, Int.reduceAdd, Int.reduceSub, Int.reduceMul, Int.reduceNeg, Int.reduceLE, Int.reduceLT]; done))); (· (first | omega | (simp only [w2_ap, true_and, false_and, and_true, and_false, if_true, if_false, Int.zero_add, Int.add_zero, not_false_eq_true, not_true_eq_false, Nat.reduceEqDiff, Int.reduceEq, Int.reduceAdd, Int.reduceSub, Int.reduceMul, Int.reduceNeg, Int.reduceLE, Int.reduceLT]; omega) | assumption | (simp only [w2_ap, true_and, false_and, and_true, and_false, if_true, if_false, Int.zero_add, Int.add_zero, not_false_eq_true, not_true_eq_false, Nat.reduceEqDiff, Int.reduceEq, Int.reduceAdd, Int.reduceSub, Int.reduceMul, Int.reduceNeg, Int.reduceLE, Int.reduceLT]; done))); try dsimp only) | (with_reducible refine Ev_call (K194p ?_) ?_; (· (first | omega | (simp only [w2_ap, true_and, false_and, and_true, and_false, if_true, if_false, Int.zero_add, Int.add_zero, not_false_eq_true, not_true_eq_false, Nat.reduceEqDiff, Int.reduceEq, Int.reduceAdd, Int.reduceSub, Int.reduceMul, Int.reduceNeg, Int.reduceLE, Int.reduceLT]; omega) | assumption | (simp only [w2_ap, true_and, false_and, and_true, and_false, if_true, if_false, Int.zero_add, Int.add_zero, not_false_eq_true, not_true_eq_false, Nat.reduceEqDiff, Int.reduceEq, Int.reduceAdd, Int.reduceSub, Int.reduceMul, Int.reduceNeg, Int.reduceLE, Int.reduceLT]; done))); try dsimp only) | (with_reducible apply ev_169_0) | (with_reducible apply ev_296_0) | simp only [w2_ap, true_and, false_and, and_true, and_false, if_true, if_false, Int.zero_add, Int.add_zero, not_false_eq_true, not_true_eq_false, Nat.reduceEqDiff, Int.reduceEq, Int.reduceAdd, Int.reduceSub, Int.reduceMul, Int.reduceNeg, Int.reduceLE, Int.reduceLT] | simp (disch := omega) only [if_neg, if_pos] | (with_reducible refine Ev_c (fun _ => ?_) (fun _ => ?_)) | (with_reducible refine Ev_ret ?_; try dsimp only))
    all_goals first | exact ⟨_, by omega, by omega, p1 (by first | assumption | omega)⟩
end OPX
section OPC
variable {dp t tr : Nat} {TS : Nat → Prop} {z : Nat} {kd : KD} {R : RF} {J M : JI} {b4 b5 b6 b7 len sl : Nat}
theorem ia_row (hd : 30 ≤ dp) (ht : t < 512) (h : InvA t tr TS z kd R J M b4 b5 b6 b7 len sl) : Ev (fun n => kf_160 n dp (z, kd, R) 0 J M) (fun r => Ev (fun n => kf_293 n dp (z, kd, R) 0 r.2.1 r.2.2 0 0 0 0) (fun q => ∃ a, r.1 = a ∧ q.1 = a ∧ InvA (t + 1) tr TS z kd R q.2.1 q.2.2 b4 b5 b6 b7 len sl)) := by
  have hI := h.1
  have hI' := hI
  obtain ⟨q1, q2, q3, q4, q5, q6, q7, q8, q9⟩ := hI
  obtain ⟨u1, u2, u3, u4, u5, u6, u7, u8, u9, u10, u11, u12, u13, u14, u15, u16, u17⟩ := q5
  obtain ⟨v1, v2, v3, v4, v5, v6, v7, v8, v9, v10, v11, v12, v13, v14, v15, v16, v17⟩ := q6
  simp only [Nat.reduceAdd] at v1 v2 v3 v4 v5 v6 v7
  obtain ⟨s1, s2, s3, s4, s5, s6, s7, s8, s9, s10, s11, s12, s13, s14, s15, s16⟩ := q7
  obtain ⟨N, hN⟩ : ∃ N : Nat, J 105 7 = N := ⟨(J 105 7).toNat, by omega⟩
  refine o_row (P := fun _ J' M' => InvA (t + 1) tr TS z kd R J' M' b4 b5 b6 b7 len sl) (N := N) (by omega) (smO_Bs (by omega) hI'.2.2.2.2.2.2.1) (by omega) hN (by omega) v9 u6 (fun j a b => v6 j a b) (fun j a b => (s14 j a b).1) (fun hz => ?_) (fun hz J1 F => ?_)
  · have e : w2 (w2 (w2 J 0 18 (-6)) 92 4 (J 92 4 + 1)) 105 7 0 = w2 (w2 J 0 18 (-6)) 92 4 (J 92 4 + 1) := w2_idv (by rw [w2_n (by omega), w2_n (by omega)]; omega)
    rw [e]
    exact InvA_rf (b := -6) (j := 4) (i := 6) (by omega) h
  have hb0 : bxs (fun j => J 107 (90 + j)) (J 107 6) := fun b b0 b1 => by
    have u := u16 b b0 b1
    have c1 : ∀ d : Int, (90 : Int) + (7 * b + d) = 90 + 7 * b + d := fun d => by omega
    dsimp only
    rw [c1 1, c1 2, c1 3, c1 4, c1 5, c1 6]; exact u
  have bb := ab_b u6 (N / 6) (t := J 110) (f := fun j => J 107 (90 + j))
  have ok := ab_ok hb0 (N / 6) (t := J 110)
  generalize ab (J 110) (fun j => J 107 (90 + j)) (J 107 6) (N / 6) = A at F bb ok
  obtain ⟨n, f13, f7, f16, f18, f1, f32, f51, f11, f9, f6, f78⟩ := F
  have n' : ∀ i, ¬ (i = 6 ∨ 90 ≤ i ∧ i < 202) → J1 107 i = J 107 i := fun i x => n 107 i (by omega) (by omega) (by omega) (by omega) (by omega) (by omega)
  have nn : ∀ a i, ¬ a = 0 → ¬ (a = 1 ∧ i = 9) → ¬ a = 7 → ¬ a = 81 → ¬ a = 105 → ¬ a = 107 → J1 a i = J a i := fun a i x0 x1 x2 x3 x4 x5 => n a i (by omega) (by omega) (by omega) (by omega) (by omega) (by omega)
  have nS : ∀ a i, (a = 0 ∧ (i = 15 ∨ i = 17)) ∨ (a = 105 ∧ (i = 0 ∨ i = 12 ∨ i = 67)) ∨ a = 89 ∨ a = 91 ∨ a = 92 ∨ a = 106 ∨ a = 110 ∨ a = 142 ∨ a = 24 → J1 a i = J a i := fun a i x => n a i (by omega) (by omega) (by omega) (by omega) (by omega) (by omega)
  have hB : InvB (t + 1) tr z kd R J1 := by
    refine InvB_hall hI' (fun j => nn _ _ (by omega) (by omega) (by omega) (by omega) (by omega) (by omega)) (fun j => nn _ _ (by omega) (by omega) (by omega) (by omega) (by omega) (by omega)) (fun a ha j => nn _ _ (by omega) (by omega) (by omega) (by omega) (by omega) (by omega)) ?_ ?_ ?_
    · refine rwO_g hI'.2.2.2.2.1 (fun i a b => n' i (by omega)) (by rw [n' 3 (by omega)]; exact u3) (by rw [n' 4 (by omega)]; exact u4) (by rw [n' 5 (by omega)]; exact u5) (by rw [f6]; omega) (by rw [n' 7 (by omega)]; exact u7) ⟨n' 8 (by omega), n' 9 (by omega)⟩ (fun i a b => by rw [n' i (by omega)]; exact u10 i a b) (fun i a b => n' i (by omega)) (fun i a b => by rw [n' i (by omega)]; exact u14 i a b) (fun i a b => n' i (by omega)) (fun b a x => ?_) (fun i a b => ?_)
      · rw [f6] at x
        have g : ∀ d : Int, 0 ≤ d → d < 7 → J1 107 (90 + 7 * b + d) = A.1 (7 * b + d) := fun d x y => by rw [← (f78 (7 * b + d) (by omega) (by omega)).2]; congr 1; omega
        have g0 : J1 107 (90 + 7 * b) = A.1 (7 * b) := (f78 (7 * b) (by omega) (by omega)).2
        rw [g0, g 1 (by omega) (by omega), g 2 (by omega) (by omega), g 3 (by omega) (by omega), g 4 (by omega) (by omega), g 5 (by omega) (by omega), g 6 (by omega) (by omega)]
        exact ok b a x
      · rw [n' 7 (by omega)] at b
        rw [n' (202 + 2 * i) (by omega), n' (202 + 2 * i + 1) (by omega)]; exact u17 i a b
    · refine hlC_g hI'.2.2.2.2.2.1 (fun c a b => by rw [nn 2 c (by omega) (by omega) (by omega) (by omega) (by omega) (by omega), n' c (by omega)]; exact v1 c a b) (fun i a b => by rw [nn 3 i (by omega) (by omega) (by omega) (by omega) (by omega) (by omega), n' _ (by omega)]; exact v2 i a b) (fun i a b => by rw [nn 4 i (by omega) (by omega) (by omega) (by omega) (by omega) (by omega), n' _ (by omega)]; exact v3 i a b) (fun i a b => by rw [nn 5 i (by omega) (by omega) (by omega) (by omega) (by omega) (by omega), n' _ (by omega)]; exact v4 i a b) (fun i a b => by rw [nn 6 i (by omega) (by omega) (by omega) (by omega) (by omega) (by omega), n' _ (by omega)]; exact v5 i a b) (fun i a b => by rw [(f78 i a b).1, (f78 i a b).2]) (fun i a b => ?_) ⟨by rw [nn 1 8 (by omega) (by omega) (by omega) (by omega) (by omega) (by omega), n' 3 (by omega)]; exact v8, by rw [f9, f6], by rw [nn 1 10 (by omega) (by omega) (by omega) (by omega) (by omega) (by omega), n' 7 (by omega)]; exact v10, by rw [nn 1 11 (by omega) (by omega) (by omega) (by omega) (by omega) (by omega), n' 4 (by omega)]; exact v11, by rw [nn 1 12 (by omega) (by omega) (by omega) (by omega) (by omega) (by omega), n' 5 (by omega)]; exact v12⟩ (fun a i x y => nn a i (by omega) (by omega) (by omega) (by omega) (by omega) (by omega)) (fun i x => n' i (by omega))
      rw [n' 7 (by omega)] at b
      rw [nn 8 i (by omega) (by omega) (by omega) (by omega) (by omega) (by omega), n' (202 + 2 * i) (by omega), n' (202 + 2 * i + 1) (by omega)]; exact v7 i a b
    · refine ⟨by rw [nS 105 0 (by omega)]; exact s1, Or.inl f32, Or.inl f51, by rw [nS 92 0 (by omega), nS 106 1 (by omega)]; omega, by rw [nS 92 1 (by omega), nS 106 2 (by omega)]; omega, by rw [nS 92 2 (by omega), nS 106 3 (by omega)]; omega, by rw [nS 92 3 (by omega), nS 106 5 (by omega)]; omega, by rw [nS 92 4 (by omega), nS 106 6 (by omega)]; omega, by rw [f13, f7]; omega, by rw [nS 0 15 (by omega), nS 105 12 (by omega)]; exact s10, f16, by rw [f18, f1], by rw [nS 0 17 (by omega), nS 105 67 (by omega)]; exact s13, fun i a b => by rw [nS 89 i (by omega), nS 110 i (by omega)]; exact s14 i a b, fun i a b => by rw [nS 91 i (by omega), nS 142 i (by omega)]; exact s15 i a b, by rw [nS 24 12 (by omega)]; omega⟩
  exact InvA_s h hB (fun a i x y w => n a i (fun s => by first | exact x (by unfold XS1; omega) | exact y (by omega) | exact w ⟨by omega, by unfold ySm; omega⟩) (fun s => by first | exact x (by unfold XS1; omega) | exact y (by omega) | exact w ⟨by omega, by unfold ySm; omega⟩) (fun s => by first | exact x (by unfold XS1; omega) | exact y (by omega) | exact w ⟨by omega, by unfold ySm; omega⟩) (fun s => by first | exact x (by unfold XS1; omega) | exact y (by omega) | exact w ⟨by omega, by unfold ySm; omega⟩) (fun s => by
      by_cases k : i = 32 ∨ i = 51
      · exact y ⟨s.1, k⟩
      · exact x (by unfold XS1; omega)) (fun s => by first | exact x (by unfold XS1; omega) | exact y (by omega) | exact w ⟨by omega, by unfold ySm; omega⟩)) (Or.inr ⟨f32, f51⟩) (CrI_s h (fun a i x y => nn a i (by omega) (by omega) (by omega) (by omega) (by omega) (by omega)) (fun i x => n' i (by omega))) (MxI_1 f11) (fun _ => rfl)
theorem ia_send {m day lo hi : Int} (hd : 30 ≤ dp) (ht : t < 512) (h : InvA t tr TS z kd R J M b4 b5 b6 b7 len sl) : Ev (fun n => kf_169 n dp (z, kd, R) 0 J M m day lo hi) (fun r => Ev (fun n => kf_296 n dp (z, kd, R) 0 r.2.1 r.2.2 m day lo hi 0 0 0 0 0) (fun q => ∃ a, r.1 = a ∧ q.1 = a ∧ InvA (t + 1) tr TS z kd R q.2.1 q.2.2 b4 b5 b6 b7 len sl)) := by
  have hI := h.1
  have hI' := hI
  obtain ⟨q1, q2, q3, q4, q5, q6, q7, q8, q9⟩ := hI
  obtain ⟨u1, u2, u3, u4, u5, u6, u7, u8, u9, u10, u11, u12, u13, u14, u15, u16, u17⟩ := q5
  obtain ⟨v1, v2, v3, v4, v5, v6, v7, v8, v9, v10, v11, v12, v13, v14, v15, v16, v17⟩ := q6
  simp only [Nat.reduceAdd] at v1 v2 v3 v4 v5 v6 v7
  obtain ⟨s1, s2, s3, s4, s5, s6, s7, s8, s9, s10, s11, s12, s13, s14, s15, s16⟩ := q7
  obtain ⟨N, hN⟩ : ∃ N : Nat, J 107 6 = N := ⟨(J 107 6).toNat, by omega⟩
  refine o_send3 (P := fun _ J' M' => InvA (t + 1) tr TS z kd R J' M' b4 b5 b6 b7 len sl) (N := N) (by omega) (smO_Bs (by omega) hI'.2.2.2.2.2.2.1) (by omega) hN (by omega) (fun j a b => v6 j a b) (fun b b0 b1 => ?_) (fun _ => InvA_rf (by omega) h) (fun _ J1 c F sd e78 => ?_)
  · have u := (u16 b b0 (by omega)).1.2.2.1
    rw [show (90 : Int) + (b * 7 + 2) = 90 + 7 * b + 2 by omega]; exact u
  obtain ⟨n, f18, f1, f32, f51, f11⟩ := F
  have n' : ∀ i, ¬ (90 ≤ i ∧ i < 202) → J1 107 i = J 107 i := fun i x => n 107 i (by omega) (by omega) (by omega) (by omega) (by omega)
  have nn : ∀ a i, ¬ a = 0 → ¬ a = 7 → ¬ a = 81 → ¬ a = 105 → ¬ a = 107 → J1 a i = J a i := fun a i x0 x1 x2 x3 x4 => n a i (by omega) (by omega) (by omega) (by omega) (by omega)
  have hB : InvB (t + 1) tr z kd R J1 := by
    refine InvB_hall hI' (fun j => nn _ _ (by omega) (by omega) (by omega) (by omega) (by omega)) (fun j => nn _ _ (by omega) (by omega) (by omega) (by omega) (by omega)) (fun a ha j => nn _ _ (by omega) (by omega) (by omega) (by omega) (by omega)) ?_ ?_ (smO_k hI'.2.2.2.2.2.2.1 (fun a i x => n a i (by omega) (by omega) (by omega) (by omega) (by omega)) f18 f1 f32 f51 (by rw [nn 24 12 (by omega) (by omega) (by omega) (by omega) (by omega)]; omega))
    · refine rwO_g hI'.2.2.2.2.1 (fun i a b => n' i (by omega)) (by rw [n' 3 (by omega)]; exact u3) (by rw [n' 4 (by omega)]; exact u4) (by rw [n' 5 (by omega)]; exact u5) (by rw [n' 6 (by omega)]; exact u6) (by rw [n' 7 (by omega)]; exact u7) ⟨n' 8 (by omega), n' 9 (by omega)⟩ (fun i a b => by rw [n' i (by omega)]; exact u10 i a b) (fun i a b => n' i (by omega)) (fun i a b => by rw [n' i (by omega)]; exact u14 i a b) (fun i a b => n' i (by omega)) (fun b a x => ?_) (fun i a b => ?_)
      · rw [n' 6 (by omega)] at x
        have g : ∀ d : Int, 0 ≤ d → d < 7 → J1 107 (90 + 7 * b + d) = J1 7 (b * 7 + d) := fun d x y => by rw [e78 (b * 7 + d) (by omega) (by omega)]; congr 1; omega
        have g' : ∀ d : Int, 0 ≤ d → d < 6 → J1 107 (90 + 7 * b + d) = J 107 (90 + 7 * b + d) := fun d x y => by
          rw [g d x (by omega), sdR_2 _ _ _ sd b d x y, v6 (b * 7 + d) (by omega) (by omega)]; congr 1; omega
        have g0 : J1 107 (90 + 7 * b) = J 107 (90 + 7 * b) := by
          have := g' 0 (by omega) (by omega)
          rwa [show (90 : Int) + 7 * b + 0 = 90 + 7 * b by omega] at this
        rw [g0, g' 1 (by omega) (by omega), g' 2 (by omega) (by omega), g' 3 (by omega) (by omega), g' 4 (by omega) (by omega), g' 5 (by omega) (by omega), g 6 (by omega) (by omega)]
        refine ⟨(u16 b a x).1, ?_⟩
        rcases sdR_6 _ _ _ sd (b * 7 + 6) with y | y
        · rw [y, v6 (b * 7 + 6) (by omega) (by omega), show (90 : Int) + (b * 7 + 6) = 90 + 7 * b + 6 by omega]
          exact (u16 b a x).2
        · rw [y]; omega
      · rw [n' 7 (by omega)] at b
        rw [n' (202 + 2 * i) (by omega), n' (202 + 2 * i + 1) (by omega)]; exact u17 i a b
    · refine hlC_g hI'.2.2.2.2.2.1 (fun c a b => by rw [nn 2 c (by omega) (by omega) (by omega) (by omega) (by omega), n' c (by omega)]; exact v1 c a b) (fun i a b => by rw [nn 3 i (by omega) (by omega) (by omega) (by omega) (by omega), n' _ (by omega)]; exact v2 i a b) (fun i a b => by rw [nn 4 i (by omega) (by omega) (by omega) (by omega) (by omega), n' _ (by omega)]; exact v3 i a b) (fun i a b => by rw [nn 5 i (by omega) (by omega) (by omega) (by omega) (by omega), n' _ (by omega)]; exact v4 i a b) (fun i a b => by rw [nn 6 i (by omega) (by omega) (by omega) (by omega) (by omega), n' _ (by omega)]; exact v5 i a b) (fun i a b => e78 i a b) (fun i a b => ?_) ⟨by rw [nn 1 8 (by omega) (by omega) (by omega) (by omega) (by omega), n' 3 (by omega)]; exact v8, by rw [nn 1 9 (by omega) (by omega) (by omega) (by omega) (by omega), n' 6 (by omega)]; exact v9, by rw [nn 1 10 (by omega) (by omega) (by omega) (by omega) (by omega), n' 7 (by omega)]; exact v10, by rw [nn 1 11 (by omega) (by omega) (by omega) (by omega) (by omega), n' 4 (by omega)]; exact v11, by rw [nn 1 12 (by omega) (by omega) (by omega) (by omega) (by omega), n' 5 (by omega)]; exact v12⟩ (fun a i x y => nn a i (by omega) (by omega) (by omega) (by omega) (by omega)) (fun i x => n' i (by omega))
      rw [n' 7 (by omega)] at b
      rw [nn 8 i (by omega) (by omega) (by omega) (by omega) (by omega), n' (202 + 2 * i) (by omega), n' (202 + 2 * i + 1) (by omega)]; exact v7 i a b
  exact InvA_s h hB (fun a i x y w => n a i (fun s => by first | exact x (by unfold XS1; omega) | exact y (by omega) | exact w ⟨by omega, by unfold ySm; omega⟩) (fun s => by first | exact x (by unfold XS1; omega) | exact y (by omega) | exact w ⟨by omega, by unfold ySm; omega⟩) (fun s => by first | exact x (by unfold XS1; omega) | exact y (by omega) | exact w ⟨by omega, by unfold ySm; omega⟩) (fun s => by
      by_cases k : i = 32 ∨ i = 51
      · exact y ⟨s.1, k⟩
      · exact x (by unfold XS1; omega)) (fun s => by first | exact x (by unfold XS1; omega) | exact y (by omega) | exact w ⟨by omega, by unfold ySm; omega⟩)) (Or.inr ⟨f32, f51⟩) (CrI_s h (fun a i x y => nn a i (by omega) (by omega) (by omega) (by omega) (by omega)) (fun i x => n' i (by omega))) (MxI_1 f11) (fun _ => rfl)
theorem ia_mix {f tt a w : Int} (hd : 30 ≤ dp) (ht : t < 512) (h : InvA t tr TS z kd R J M b4 b5 b6 b7 len sl) : Ev (fun n => kf_163 n dp (z, kd, R) 0 J M f tt a w) (fun r => Ev (fun n => kf_295 n dp (z, kd, R) 0 r.2.1 r.2.2 f tt a w 0 0 0 0 0 0 0 0) (fun q => ∃ a, r.1 = a ∧ q.1 = a ∧ InvA (t + 1) tr TS z kd R q.2.1 q.2.2 b4 b5 b6 b7 len sl)) := by
  have hI := h.1
  have hI' := hI
  obtain ⟨q1, q2, q3, q4, q5, q6, q7, q8, q9⟩ := hI
  obtain ⟨u1, u2, u3, u4, u5, u6, u7, u8, u9, u10, u11, u12, u13, u14, u15, u16, u17⟩ := q5
  obtain ⟨v1, v2, v3, v4, v5, v6, v7, v8, v9, v10, v11, v12, v13, v14, v15, v16, v17⟩ := q6
  simp only [Nat.reduceAdd] at v1 v2 v3 v4 v5 v6 v7
  obtain ⟨s1, s2, s3, s4, s5, s6, s7, s8, s9, s10, s11, s12, s13, s14, s15, s16⟩ := q7
  have har : ∀ a, 83 ≤ a → a ≤ 86 → arO (z, kd, R) a 256 := fun a x y => by
    have k := q2.2.1
    have l := q2.1
    rcases (show a = 83 ∨ a = 84 ∨ a = 85 ∨ a = 86 by omega) with rfl | rfl | rfl | rfl
    · exact ⟨by show 83 < z; omega, by show (kd 83).1 = 13; rw [k 83 (by decide)]; rfl, by show (kd 83).2 = 256; rw [k 83 (by decide)]; rfl⟩
    · exact ⟨by show 84 < z; omega, by show (kd 84).1 = 13; rw [k 84 (by decide)]; rfl, by show (kd 84).2 = 256; rw [k 84 (by decide)]; rfl⟩
    · exact ⟨by show 85 < z; omega, by show (kd 85).1 = 13; rw [k 85 (by decide)]; rfl, by show (kd 85).2 = 256; rw [k 85 (by decide)]; rfl⟩
    · exact ⟨by show 86 < z; omega, by show (kd 86).1 = 13; rw [k 86 (by decide)]; rfl, by show (kd 86).2 = 256; rw [k 86 (by decide)]; rfl⟩
  refine Ev_mono (o_mix (e := (z, kd, R)) (by omega) s1 hI'.2.2.2.2.1 v9 (fun i a b => v6 i a b) har h.2.2.1.2) (fun r x => Ev_mono x (fun q y => ?_))
  obtain ⟨v, a1, a2, a3, n, mx⟩ := y
  refine ⟨v, a1, a2, ?_⟩
  rw [a3]
  generalize q.2.1 = J1 at n mx ⊢
  have e7 : J1 107 = J 107 := funext fun i => n _ _ (by omega) (by omega)
  have hB : InvB (t + 1) tr z kd R J1 := InvB_sm hI' (fun a ha j => n _ _ (by omega) (by omega)) (smO_p hI'.2.2.2.2.2.2.1 (fun a i x => n _ _ (by omega) (by omega)) (by rw [n 105 32 (by omega) (by omega)]; exact s2) (by rw [n 105 51 (by omega) (by omega)]; exact s3) (by rw [n 24 12 (by omega) (by omega)]; omega))
  refine InvA_s h hB (fun a i x y w => n a i (fun s => x (by unfold XS1; omega)) (fun s => x (by unfold XS1; omega))) (Or.inl ⟨⟨n _ _ (by omega) (by omega), n _ _ (by omega) (by omega)⟩, fun i => n _ _ (by omega) (by omega)⟩) ?_ ?_ (fun _ => rfl)
  · rw [e7]; exact CrI_c (fun a i x y => n a i (by omega) (by omega)) h.2.2.1.1
  · rw [e7]; exact mx
/-- the class's part of what the calls for cuttings leave -/
def cuK (J J2 : JI) : JI := fun a i => if (a = 105 ∧ (i = 29 ∨ i = 32)) ∨ (120 ≤ a ∧ a ≤ 125) then J a i else J2 a i
theorem cuK_t {J J2 : JI} {a : Nat} {i : Int} (h : (a = 105 ∧ (i = 29 ∨ i = 32)) ∨ (120 ≤ a ∧ a ≤ 125)) : cuK J J2 a i = J a i := if_pos h
theorem cuK_f {J J2 : JI} {a : Nat} {i : Int} (h : ¬ ((a = 105 ∧ (i = 29 ∨ i = 32)) ∨ (120 ≤ a ∧ a ≤ 125))) : cuK J J2 a i = J2 a i := if_neg h
theorem PW_U {J2 M2 : JI} (h : PW tr TS z kd R J b4 b5 b6 b7 len sl) (hE : J 24 12 ≤ 999999) (hU : CuP tr TS J J2 M M2) : PW tr TS z kd R J2 b4 b5 b6 b7 len sl ∧ (J2 24 12 ≤ J 24 12 + 1 ∧ J 24 12 ≤ J2 24 12) := by
  obtain ⟨hC2, ⟨fr, frM⟩, ⟨qu, q32⟩, q13, c32⟩ := hU
  have hTS := h.1.2.1
  have hCJ := h.2.1.2
  have hM := h.2.2.2.2.2.1
  have h51 := h.2.2.2.2.2.2
  have e7 : J2 107 = J 107 := funext fun i => fr _ _ (by omega) (by omega) (by omega) (by omega) (by omega) (by omega) (by omega)
  have k : ∀ a i, ¬ a = 105 → ¬ (120 ≤ a ∧ a ≤ 125) → cuK J J2 a i = J2 a i := fun a i x y => cuK_f (by omega)
  have k7 : cuK J J2 107 = J2 107 := funext fun i => k _ _ (by omega) (by omega)
  have kT : ∀ T, TS T → ∀ a i, T ≤ a → a ≤ T + 10 → cuK J J2 a i = J2 a i := fun T hT a i x y => by
    rcases hTS.2 T hT with rfl | rfl | u <;> exact k a i (by omega) (by omega)
  have hC1 : CutI tr TS (cuK J J2) := by
    obtain ⟨k1, k2, k3, k4⟩ := hC2
    refine ⟨fun T hT c hc => CuT_c (kT T hT _ _ (by omega) (by omega)) (kT T hT) (fun a i x y => k _ _ (by omega) (by omega)) (k1 T hT c hc), fun w c hc => ?_, fun w c a b => ?_, fun T hT e W nw hW => ?_⟩
    · rw [k7]
      exact CuN_c (kT tr hTS.1) (fun a i x y => k _ _ (by omega) (by omega)) (k2 (by rw [← k 24 13 (by omega) (by omega)]; exact w) c hc)
    · have l := hCJ.2.2.1 (by rw [← cuK_t (J := J) (J2 := J2) (a := 105) (i := 32) (by omega)]; exact w) c a b
      unfold LsM at *
      rw [k7, e7, cuK_t (by omega)]
      exact LsO_c (fun i _ _ => ⟨cuK_t (by omega), cuK_t (by omega)⟩) l
    · rw [kT T hT _ _ (by omega) (by omega), kT tr hTS.1 _ _ (by omega) (by omega)] at e
      exact TrW_c (kT tr hTS.1) (k4 T hT e W nw (TrW_c (fun a i x y => (kT T hT a i x y).symm) hW))
  have hU1 : CuP tr TS J (cuK J J2) M M := by
    refine ⟨hC1, ⟨fun a i x1 x2 x3 x4 x5 x6 x7 => by rw [cuK_f (by omega)]; exact fr a i x1 x2 x3 x4 x5 x6 x7, fun _ _ _ _ _ => rfl⟩, ⟨?_, fun w => ⟨by rw [cuK_t (by omega)]; exact w, fun a i x y => cuK_t (by omega)⟩⟩, by rw [k 24 13 (by omega) (by omega)]; exact q13, by rw [cuK_t (by omega)]; exact h.2.1.1.2.2.2.2⟩
    rcases qu with qu | ⟨y1, y2, y3, y4⟩
    · exact Or.inl (fun a i x => by rw [k a i (by omega) (by omega)]; exact qu a i x)
    · exact Or.inr ⟨by rw [k _ _ (by omega) (by omega)]; exact y1, by rw [k _ _ (by omega) (by omega)]; exact y2, by rw [k _ _ (by omega) (by omega)]; exact y3, by rw [k _ _ (by omega) (by omega)]; exact y4⟩
  obtain ⟨W, d1, d2⟩ := PW_u' h hE hU1 (cuK_t (by omega)) (fun a i x y => cuK_t (by omega))
  rw [k 24 12 (by omega) (by omega)] at d1 d2
  refine ⟨PW_m (M := M) (M' := M) W ⟨fun a i x y => ?_, fun _ _ _ _ _ => rfl⟩ hC2 c32 ?_ ?_, d1, d2⟩
  · exact (cuK_f (by omega)).symm
  · intro w
    have w' : J 105 51 = 1 := by rw [← fr 105 51 (by omega) (by omega) (by omega) (by omega) (by omega) (by omega) (by omega)]; exact w
    have j32 := (hM w').1
    refine PlM_c e7 (fun i x => ?_) (fun i => fr _ _ (by omega) (by omega) (by omega) (by omega) (by omega) (by omega) (by omega)) (fun i => fr _ _ (by omega) (by omega) (by omega) (by omega) (by omega) (by omega) (by omega)) hM w
    by_cases y : i = 32
    · subst y; rw [j32]; exact (q32 j32).1
    · exact fr 105 i (by omega) (by omega) (by omega) (by omega) (by omega) (by omega) (by omega)
  · rw [fr 105 51 (by omega) (by omega) (by omega) (by omega) (by omega) (by omega) (by omega)]; exact h51
/-- the whole invariant behind the calls for cuttings -/
theorem InvA_u {J2 M2 : JI} (h : InvA t tr TS z kd R J M b4 b5 b6 b7 len sl) (ht : t < 512) (hU : CuP tr TS J J2 M M2) : InvA (t + 1) tr TS z kd R J2 M2 b4 b5 b6 b7 len sl := by
  have hE := InvA_E h ht
  obtain ⟨W, d1, d2⟩ := PW_U h.2.1 (by omega) hU
  obtain ⟨hC2, ⟨fr, frM⟩, ⟨qu, q32⟩, q13, c32⟩ := hU
  have hTS := h.2.1.1.2.1
  have hs := h.1.2.2.2.2.2.2.1
  have s3 := hs.2.2.1
  have s16 := hs.2.2.2.2.2.2.2.2.2.2.2.2.2.2.2
  have f : ∀ a i, ¬ (21 ≤ a ∧ a ≤ 24) → ¬ (58 ≤ a ∧ a ≤ 72) → ¬ (a = 105 ∧ (i = 29 ∨ i = 32)) → ¬ (120 ≤ a ∧ a ≤ 125) → J2 a i = J a i := fun a i x1 x2 x3 x4 => fr a i (by omega) (by omega) (by omega) (by omega) (by omega) (by omega) (by omega)
  have e7 : J2 107 = J 107 := funext fun i => f _ _ (by omega) (by omega) (by omega) (by omega)
  refine InvA_G h (InvB_sm h.1 (fun a ha j => f _ _ (by omega) (by omega) (by omega) (by omega)) (smO_p hs (fun a i x => f _ _ (by omega) (by omega) (by omega) (by omega)) c32 (by rw [f 105 51 (by omega) (by omega) (by omega) (by omega)]; exact s3) ⟨by omega, d1⟩)) W ?_ ?_ (f _ _ (by omega) (by omega) (by omega) (by omega)) (fun T hT a i x y => by
    rcases hTS.2 T hT with rfl | rfl | u <;> exact f a i (by omega) (by omega) (by omega) (by omega)) (fun i => f _ _ (by omega) (by omega) (by omega) (by omega)) (fun i => frM _ _ (by omega) (by omega) (by omega))
  · rw [e7]; exact CrI_c (fun a i x y => f a i (by omega) (by omega) (by omega) (by omega)) h.2.2.1.1
  · rw [e7]; exact MxI_c (fun a i x y => f a i (by omega) (by omega) (by omega) (by omega)) h.2.2.1.2
theorem ia_cuttings {c : Int} (hd : 30 ≤ dp) (ht : t < 512) (h : InvA t tr TS z kd R J M b4 b5 b6 b7 len sl) : Ev (fun n => kf_80 n dp (z, kd, R) 0 J M c) (fun r => Ev (fun n => kf_252 n dp (z, kd, R) 0 r.2.1 r.2.2 c) (fun q => ∃ a, r.1 = a ∧ q.1 = a ∧ InvA (t + 1) tr TS z kd R q.2.1 q.2.2 b4 b5 b6 b7 len sl)) := by
  have hE := InvA_E h ht
  exact Ev_2m (A := fun J' M' => CuP tr TS J J' M M') (fun J' M' x => InvA_u h ht x) (o_cuttings (dp := dp) (e := (z, kd, R)) (J := J) (M := M) h.2.1.1.1 h.2.1.1.2.1 (by omega) (by omega) h.2.1.2.1.1 h.2.1.2.1.2)
theorem ia_choice {c i p : Int} (hd : 30 ≤ dp) (ht : t < 512) (h : InvA t tr TS z kd R J M b4 b5 b6 b7 len sl) : Ev (fun n => kf_87 n dp (z, kd, R) 0 J M c i p) (fun r => Ev (fun n => kf_257 n dp (z, kd, R) 0 r.2.1 r.2.2 c i p) (fun q => ∃ a, r.1 = a ∧ q.1 = a ∧ InvA (t + 1) tr TS z kd R q.2.1 q.2.2 b4 b5 b6 b7 len sl)) := by
  have hE := InvA_E h ht
  exact Ev_2m (A := fun J' M' => CuP tr TS J J' M M') (fun J' M' x => InvA_u h ht x) (o_choice (dp := dp) (e := (z, kd, R)) (J := J) (M := M) h.2.1.1.1 h.2.1.1.2.1 (by omega) (by omega) h.2.1.2.1.1 h.2.1.2.1.2)
theorem ia_left {c i p : Int} (hd : 30 ≤ dp) (ht : t < 512) (h : InvA t tr TS z kd R J M b4 b5 b6 b7 len sl) : Ev (fun n => kf_89 n dp (z, kd, R) 0 J M c i p) (fun r => Ev (fun n => kf_259 n dp (z, kd, R) 0 r.2.1 r.2.2 c i p) (fun q => ∃ a, r.1 = a ∧ q.1 = a ∧ InvA (t + 1) tr TS z kd R q.2.1 q.2.2 b4 b5 b6 b7 len sl)) := by
  have hE := InvA_E h ht
  exact Ev_2m (A := fun J' M' => CuP tr TS J J' M M') (fun J' M' x => InvA_u h ht x) (o_left (dp := dp) (e := (z, kd, R)) (J := J) (M := M) h.2.1.1.1 h.2.1.1.2.1 (by omega) (by omega) h.2.1.2.1.1 h.2.1.2.1.2)
theorem ia_goes {w c x : Int} (hd : 30 ≤ dp) (ht : t < 512) (h : InvA t tr TS z kd R J M b4 b5 b6 b7 len sl) : Ev (fun n => kf_69 n dp (z, kd, R) 0 J M w c x) (fun r => Ev (fun n => kf_242 n dp (z, kd, R) 0 r.2.1 r.2.2 w c x 0) (fun q => ∃ a, r.1 = a ∧ q.1 = a ∧ InvA (t + 1) tr TS z kd R q.2.1 q.2.2 b4 b5 b6 b7 len sl)) := by
  have hI := h.1
  have hI' := hI
  obtain ⟨q1, q2, q3, q4, q5, q6, q7, q8, q9⟩ := hI
  obtain ⟨u1, u2, u3, u4, u5, u6, u7, u8, u9, u10, u11, u12, u13, u14, u15, u16, u17⟩ := q5
  obtain ⟨v1, v2, v3, v4, v5, v6, v7, v8, v9, v10, v11, v12, v13, v14, v15, v16, v17⟩ := q6
  simp only [Nat.reduceAdd] at v1 v2 v3 v4 v5 v6 v7
  have hTS := h.2.1.1.2.1
  refine Ev_2m (A := fun J' M' => mGo J J' M M') (B := fun J' M' => InvA (t + 1) tr TS z kd R J' M' b4 b5 b6 b7 len sl) (fun J' M' y0 => ?_) (o_goes (dp := dp) (e := (z, kd, R)) (J := J) (M := M) q1 (TrO_sh q2 q1) q3.2.2.2.2.2.2.2.2 (by omega) h.2.1.2.1.1.1 h.2.1.2.1.1.2.1 v12 u5 q7.1)
  refine InvA_u h ht ?_
  obtain ⟨n, nM⟩ := y0
  have f : ∀ a i, ¬ (21 ≤ a ∧ a ≤ 23) → ¬ (a = 105 ∧ i = 29) → J' a i = J a i := fun a i x y => n a i (by omega) (by omega) (by omega) y
  have e7 : J' 107 = J 107 := funext fun i => f _ _ (by omega) (by omega)
  exact ⟨CutI_c hTS e7 (f _ _ (by omega) (by omega)) (f _ _ (by omega) (by omega)) (fun a i x => f _ _ (by omega) (by omega)) (fun a i x _ _ => f _ _ (by omega) (by omega)) (fun a i x y => f _ _ (by omega) (by omega)) h.2.1.2.1.2, ⟨fun a i x1 x2 x3 x4 x5 x6 x7 => n a i x1 x2 x3 (by omega), fun a i x y w => nM a i x y w⟩, ⟨Or.inl (fun a i x => f _ _ (by omega) (by omega)), fun w => ⟨by rw [f _ _ (by omega) (by omega)]; exact w, fun a i x y => f _ _ (by omega) (by omega)⟩⟩, Or.inl (f _ _ (by omega) (by omega)), by rw [f _ _ (by omega) (by omega)]; exact h.2.1.2.1.1.2.2.2.2⟩
end OPC
