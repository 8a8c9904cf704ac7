section
theorem ev_171_0 {dp : Nat} {e : EN} {I : JI} {L : JI} {i1 : Int} {i2 : Int} {i3 : Int} {i4 : Int} {i5 : Int} {i6 : Int} {P_ : (Int × JI × JI) → Prop} (h : Ev (fun n => (if -2147483648 ≤ i2 + 1 ∧ i2 + 1 ≤ 2147483647 then (kf_171 n dp e 1 I L i1 i2 (-1) (i2 + 1) 0 0) else none)) P_) : Ev (fun n => kf_171 n dp e 0 I L i1 i2 i3 i4 i5 i6) P_ := Ev_step (fun n => ke_171_0 n dp e I L i1 i2 i3 i4 i5 i6) h
theorem ev_171_2 {dp : Nat} {e : EN} {I : JI} {L : JI} {i1 : Int} {i2 : Int} {i3 : Int} {i4 : Int} {i5 : Int} {i6 : Int} {P_ : (Int × JI × JI) → Prop} (h : Ev (fun n => (if -2147483648 ≤ i5 + 1 ∧ i5 + 1 ≤ 2147483647 then (kf_171 n dp e 1 I L i1 i2 i3 i4 (i5 + 1) 0) else none)) P_) : Ev (fun n => kf_171 n dp e 2 I L i1 i2 i3 i4 i5 i6) P_ := Ev_step (fun n => ke_171_2 n dp e I L i1 i2 i3 i4 i5 i6) h
theorem ev_171_1 {dp : Nat} {e : EN} {I : JI} {L : JI} {i1 : Int} {i2 : Int} {i3 : Int} {i4 : Int} {i5 : Int} {i6 : Int} {P_ : (Int × JI × JI) → Prop} (h : Ev (fun n => (if (I 1 9) ≤ i5 then (some ((i3 : Int), I, L)) else (if (-2147483648 ≤ i5 * 7 ∧ i5 * 7 ≤ 2147483647) ∧ (-2147483648 ≤ (i5 * 7) + 2 ∧ (i5 * 7) + 2 ≤ 2147483647) then (if 0 ≤ ((i5 * 7) + 2) ∧ ((i5 * 7) + 2) < 112 then (stI (I 7 ((i5 * 7) + 2)) (fun v_37 => (if -2147483648 ≤ (i5 * 7) + 6 ∧ (i5 * 7) + 6 ≤ 2147483647 then (if 0 ≤ ((i5 * 7) + 6) ∧ ((i5 * 7) + 6) < 112 then (if (I 7 ((i5 * 7) + 6)) = 1 then (if v_37 < i1 then (kf_171 n dp e 2 I L i1 i2 i3 i4 i5 v_37) else (if i4 ≤ v_37 then (kf_171 n dp e 2 I L i1 i2 i3 i4 i5 v_37) else (kf_171 n dp e 2 I L i1 i2 i5 v_37 i5 v_37))) else (kf_171 n dp e 2 I L i1 i2 i3 i4 i5 v_37)) else none) else none))) else none) else none))) P_) : Ev (fun n => kf_171 n dp e 1 I L i1 i2 i3 i4 i5 i6) P_ := Ev_step (fun n => ke_171_1 n dp e I L i1 i2 i3 i4 i5 i6) h
end
/-! SEND -/
def cdt (f : Int → Int) (lo hi : Int) (b : Int) : Prop := f (b * 7 + 6) = 1 ∧ lo ≤ f (b * 7 + 2) ∧ f (b * 7 + 2) ≤ hi
/-- x is the oldest of n -/
def isO (f : Int → Int) (lo hi : Int) (n : Int) (x : Int) : Prop := (x = -1 ∧ ∀ b, 0 ≤ b → b < n → ¬ cdt f lo hi b) ∨ (0 ≤ x ∧ x < n ∧ cdt f lo hi x ∧ ∀ b, 0 ≤ b → b < n → cdt f lo hi b → f (x * 7 + 2) < f (b * 7 + 2) ∨ f (x * 7 + 2) = f (b * 7 + 2) ∧ x ≤ b)
theorem isO_u {f : Int → Int} {lo hi n x y : Int} (hx : isO f lo hi n x) (hy : isO f lo hi n y) : x = y := by
  rcases hx with ⟨h1, h2⟩ | ⟨h1, h2, h3, h4⟩
  · rcases hy with ⟨g1, g2⟩ | ⟨g1, g2, g3, g4⟩
    · rw [h1, g1]
    · exact absurd g3 (h2 y g1 g2)
  · rcases hy with ⟨g1, g2⟩ | ⟨g1, g2, g3, g4⟩
    · exact absurd h3 (g2 x h1 h2)
    · have a := h4 y g1 g2 g3
      have b := g4 x h1 h2 h3
      omega
theorem cdt_congr {f g : Int → Int} {lo hi n b : Int} (h : ∀ j, 0 ≤ j → j < n * 7 → f j = g j) (h0 : 0 ≤ b) (h1 : b < n) : cdt f lo hi b ↔ cdt g lo hi b := by
  unfold cdt
  rw [h (b * 7 + 6) (by omega) (by omega), h (b * 7 + 2) (by omega) (by omega)]
theorem isO_congr {f g : Int → Int} {lo hi n x : Int} (h : ∀ j, 0 ≤ j → j < n * 7 → f j = g j) (hx : isO f lo hi n x) : isO g lo hi n x := by
  rcases hx with ⟨h1, h2⟩ | ⟨h1, h2, h3, h4⟩
  · exact Or.inl ⟨h1, fun b b0 b1 q => h2 b b0 b1 ((cdt_congr h b0 b1).mpr q)⟩
  · refine Or.inr ⟨h1, h2, (cdt_congr h h1 h2).mp h3, fun b b0 b1 q => ?_⟩
    have := h4 b b0 b1 ((cdt_congr h b0 b1).mpr q)
    rw [h (x * 7 + 2) (by omega) (by omega), h (b * 7 + 2) (by omega) (by omega)] at this
    exact this
section LP
variable {dp : Nat} {e : EN} {J M : JI}
theorem K171 {lo hi : Int} {N : Nat} (hN : J 1 9 = N) (hN2 : N ≤ 16) (hh : -1000 ≤ hi ∧ hi ≤ 1000) (hf : ∀ b : Int, 0 ≤ b → b < N → 0 ≤ J 7 (b * 7 + 2) ∧ J 7 (b * 7 + 2) ≤ 99) : Ev (fun n => kf_171 n dp e 0 J M lo hi 0 0 0 0) (fun r => ∃ x, r = (x, J, M) ∧ isO (J 7) lo hi N x) := by
  refine ev_171_0 ?_
  refine Ev_t (by omega) ?_
  have key : ∀ k : Nat, k ≤ N → ∀ x y : Int, isO (J 7) lo hi k x → (x = -1 → y = hi + 1) → (¬ x = -1 → y = J 7 (x * 7 + 2)) → Ev (fun n => kf_171 n dp e 1 J M lo hi x y k 0) (fun r => ∃ x, r = (x, J, M) ∧ isO (J 7) lo hi N x) := by
    refine dec_ind N (fun k hk ih => ?_)
    intro x y hx y1 y2
    by_cases c : k < N
    · have ih := ih c
      have b2 := hf k (by omega) (by omega)
      have two : ∀ x y, isO (J 7) lo hi (k + 1 : Nat) x → (x = -1 → y = hi + 1) → (¬ x = -1 → y = J 7 (x * 7 + 2)) → ∀ z, Ev (fun n => kf_171 n dp e 2 J M lo hi x y k z) (fun r => ∃ x, r = (x, J, M) ∧ isO (J 7) lo hi N x) := by
        intro x y h1 h2 h3 z
        refine ev_171_2 ?_
        refine Ev_t (by omega) ?_
        exact ih x y h1 h2 h3
      -- k is no better
      have stay : ¬ (cdt (J 7) lo hi k ∧ J 7 (k * 7 + 2) < y) → isO (J 7) lo hi (k + 1 : Nat) x := by
        intro hn
        rcases hx with ⟨h1, h2⟩ | ⟨h1, h2, h3, h4⟩
        · refine Or.inl ⟨h1, fun b b0 b1 q => ?_⟩
          by_cases eb : b = k
          · subst eb
            have := y1 h1
            exact hn ⟨q, by have := q.2.2; omega⟩
          · exact h2 b b0 (by omega) q
        · refine Or.inr ⟨h1, by omega, h3, fun b b0 b1 q => ?_⟩
          by_cases eb : b = k
          · subst eb
            have := y2 (by omega)
            have : ¬ J 7 (k * 7 + 2) < y := fun z => hn ⟨q, z⟩
            omega
          · exact h4 b b0 (by omega) q
      have take : cdt (J 7) lo hi k → J 7 (k * 7 + 2) < y → isO (J 7) lo hi (k + 1 : Nat) k := by
        intro hc hl
        refine Or.inr ⟨by omega, by omega, hc, fun b b0 b1 q => ?_⟩
        by_cases eb : b = k
        · subst eb; right; exact ⟨rfl, by omega⟩
        · left
          rcases hx with ⟨h1, h2⟩ | ⟨h1, h2, h3, h4⟩
          · exact absurd q (h2 b b0 (by omega))
          · have := y2 (by omega)
            have := h4 b b0 (by omega) q
            omega
      have yh : y ≤ hi + 1 := by
        rcases hx with ⟨h1, h2⟩ | ⟨h1, h2, h3, h4⟩
        · rw [y1 h1]; omega
        · have := y2 (by omega)
          have := h3.2.2
          omega
      refine ev_171_1 ?_
      repeat' (first | (with_reducible refine Ev_t ?_ ?_; (· omega)) | (with_reducible refine Ev_f ?_ ?_; (· omega)) | (with_reducible refine Ev_th ?_ ?_; (· first | assumption | (simp only [w2_ap, true_and, false_and, and_true, and_false, if_true, if_false, Int.zero_add, Int.add_zero, not_false_eq_true, not_true_eq_false, Nat.reduceEqDiff, Int.reduceEq, Int.reduceAdd, Int.reduceSub, Int.reduceMul, Int.reduceNeg, Int.reduceLE, Int.reduceLT]; assumption))) | (with_reducible refine Ev_st ?_; try simp only [w2_ap, true_and, false_and, and_true, and_false, if_true, if_false, Int.zero_add, Int.add_zero, not_false_eq_true, not_true_eq_false, Nat.reduceEqDiff, Int.reduceEq, Int.reduceAdd, Int.reduceSub, Int.reduceMul, Int.reduceNeg, Int.reduceLE, Int.reduceLT]) | (with_reducible apply Ev_R; (· assumption); try dsimp only) | (with_reducible refine Ev14t ?_ ?_; (· omega); try dsimp only) | (with_reducible refine Ev14f ?_ ?_; (· omega); try dsimp only) | (with_reducible refine Ev193t ?_ ?_; (· omega); try dsimp only) | (with_reducible refine Ev193f ?_ ?_; (· omega); try dsimp only) | (with_reducible refine Ev14 (fun _ => ?_) (fun _ => ?_) <;> try dsimp only) | (with_reducible refine Ev193 (fun _ => ?_) (fun _ => ?_) <;> try dsimp only) | (with_reducible refine Ev_c (fun _ => ?_) (fun _ => ?_)) | (with_reducible refine Ev_ret ?_; try dsimp only))
      · exact two _ _ (stay (fun z => by have := z.1.2.1; omega)) y1 y2 _
      · exact two _ _ (stay (fun z => by have := z.2; omega)) y1 y2 _
      · refine two _ _ (take ⟨by assumption, by omega, by omega⟩ (by omega)) (fun z => by omega) (fun _ => rfl) _
      · exact two _ _ (stay (fun z => by have := z.1.1; omega)) y1 y2 _
    · have ek : k = N := by omega
      subst ek
      refine ev_171_1 ?_
      exact Ev_t (by omega) (Ev_ret ⟨x, rfl, hx⟩)
  exact key 0 (by omega) (-1) (hi + 1) (Or.inl ⟨rfl, fun b b0 b1 => by omega⟩) (fun _ => rfl) (fun z => absurd rfl z)
end LP
