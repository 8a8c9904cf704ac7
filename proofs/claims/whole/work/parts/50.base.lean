/-! the lifted functions: help -/
theorem w2_ap (f : JI) (a : Nat) (k v : Int) (b : Nat) (j : Int) : w2 f a k v b j = if b = a ∧ j = k then v else f b j := rfl
theorem w2_idv {f : JI} {a : Nat} {k v : Int} (h : f a k = v) : w2 f a k v = f := by
  funext b j
  rw [w2_ap]
  by_cases c : b = a ∧ j = k
  · rw [if_pos c, c.1, c.2, h]
  · rw [if_neg c]
theorem w2_w2 {f : JI} {a : Nat} {k v w : Int} : w2 (w2 f a k v) a k w = w2 f a k w := by
  funext b j
  rw [w2_ap, w2_ap, w2_ap]
  by_cases c : b = a ∧ j = k
  · rw [if_pos c, if_pos c]
  · rw [if_neg c, if_neg c, if_neg c]
section KB
variable {dp : Nat} {e : EN} {J M : JI} {β : Type} {T : β → Prop}
theorem Ev14 {x lo hi : Int} {k : Nat → Int × JI × JI → Option β} (ht : lo ≤ x ∧ x ≤ hi → Ev (fun n => k n (1, J, M)) T) (hf : ¬ (lo ≤ x ∧ x ≤ hi) → Ev (fun n => k n (0, J, M)) T) : Ev (fun n => (kf_14 n dp e 0 J M x lo hi).bind (k n)) T := by
  by_cases h : lo ≤ x ∧ x ≤ hi
  · refine Ev_call (v := (1, J, M)) ?_ (ht h)
    refine Ev_step (fun n => ke_14_0 n _ _ _ _ _ _ _) ?_
    exact Ev_f (by omega) (Ev_f (by omega) (Ev_ret rfl))
  · refine Ev_call (v := (0, J, M)) ?_ (hf h)
    refine Ev_step (fun n => ke_14_0 n _ _ _ _ _ _ _) ?_
    refine Ev_c (fun c => Ev_ret rfl) (fun c => ?_)
    exact Ev_t (by omega) (Ev_ret rfl)
theorem Ev193 {x lo hi : Int} {k : Nat → Int × JI × JI → Option β} (ht : lo ≤ x ∧ x ≤ hi → Ev (fun n => k n (1, J, M)) T) (hf : ¬ (lo ≤ x ∧ x ≤ hi) → Ev (fun n => k n (0, J, M)) T) : Ev (fun n => (kf_193 n dp e 0 J M x lo hi).bind (k n)) T := by
  by_cases h : lo ≤ x ∧ x ≤ hi
  · refine Ev_call (v := (1, J, M)) ?_ (ht h)
    refine Ev_step (fun n => ke_193_0 n _ _ _ _ _ _ _) ?_
    exact Ev_f (by omega) (Ev_f (by omega) (Ev_ret rfl))
  · refine Ev_call (v := (0, J, M)) ?_ (hf h)
    refine Ev_step (fun n => ke_193_0 n _ _ _ _ _ _ _) ?_
    refine Ev_c (fun c => Ev_ret rfl) (fun c => ?_)
    exact Ev_t (by omega) (Ev_ret rfl)
theorem Ev197 {x : Int} {k : Nat → Int × JI × JI → Option β} (hd : 1 ≤ dp) (ht : 0 ≤ x ∧ x ≤ 2 → Ev (fun n => k n (1, J, M)) T) (hf : ¬ (0 ≤ x ∧ x ≤ 2) → Ev (fun n => k n (0, J, M)) T) : Ev (fun n => (kf_197 n dp e 0 J M x).bind (k n)) T := by
  by_cases h : 0 ≤ x ∧ x ≤ 2
  · refine Ev_call (v := (1, J, M)) ?_ (ht h)
    refine Ev_step (fun n => ke_197_0 n _ _ _ _ _) ?_
    refine Ev_t hd (Ev193 (fun _ => ?_) (fun c => absurd h c))
    exact Ev_t (Or.inr rfl) (Ev_ret rfl)
  · refine Ev_call (v := (0, J, M)) ?_ (hf h)
    refine Ev_step (fun n => ke_197_0 n _ _ _ _ _) ?_
    refine Ev_t hd (Ev193 (fun c => absurd c h) (fun c => ?_))
    exact Ev_t (Or.inl rfl) (Ev_ret rfl)
theorem Ev202 {x : Int} {k : Nat → Int × JI × JI → Option β} (hd : 1 ≤ dp) (ht : 0 ≤ x ∧ x ≤ 9 → Ev (fun n => k n (1, J, M)) T) (hf : ¬ (0 ≤ x ∧ x ≤ 9) → Ev (fun n => k n (0, J, M)) T) : Ev (fun n => (kf_202 n dp e 0 J M x).bind (k n)) T := by
  by_cases h : 0 ≤ x ∧ x ≤ 9
  · refine Ev_call (v := (1, J, M)) ?_ (ht h)
    refine Ev_step (fun n => ke_202_0 n _ _ _ _ _) ?_
    refine Ev_t hd (Ev193 (fun _ => ?_) (fun c => absurd h c))
    exact Ev_t (Or.inr rfl) (Ev_ret rfl)
  · refine Ev_call (v := (0, J, M)) ?_ (hf h)
    refine Ev_step (fun n => ke_202_0 n _ _ _ _ _) ?_
    refine Ev_t hd (Ev193 (fun c => absurd c h) (fun c => ?_))
    exact Ev_t (Or.inl rfl) (Ev_ret rfl)
theorem K18 : Ev (fun n => kf_18 n dp e 0 J M) (fun r => r = (w2 (w2 J 73 15 1) 73 16 1, M)) := by
  refine Ev_step (fun n => ke_18_0 n _ _ _ _) ?_
  exact Ev_st (Ev_st (Ev_ret rfl))
theorem K17 : Ev (fun n => kf_17 n dp e 0 J M) (fun r => r = (w2 J 24 15 1, M)) := by
  refine Ev_step (fun n => ke_17_0 n _ _ _ _) ?_
  exact Ev_st (Ev_ret rfl)
theorem K22 : Ev (fun n => kf_22 n dp e 0 J M) (fun r => r = (w2 J 24 13 1, M)) := by
  refine Ev_step (fun n => ke_22_0 n _ _ _ _) ?_
  exact Ev_st (Ev_ret rfl)
theorem K21 (hd : 1 ≤ dp) : Ev (fun n => kf_21 n dp e 0 J M) (fun r => r = (w2 (w2 (w2 J 24 13 1) 73 15 1) 73 16 1, M)) := by
  refine Ev_step (fun n => ke_21_0 n _ _ _ _) ?_
  exact Ev_t hd (Ev_call K22 (Ev_t hd (Ev_call K18 (Ev_ret rfl))))
theorem K25 (h : 0 ≤ J 24 12 ∧ J 24 12 ≤ 1000000) : Ev (fun n => kf_25 n dp e 0 J M) (fun r => r = (w2 (w2 (w2 J 24 14 1) 24 15 1) 24 12 (J 24 12 + 1), M)) := by
  refine Ev_step (fun n => ke_25_0 n _ _ _ _) ?_
  repeat (first | (with_reducible refine Ev_t ?_ ?_; · omega) | (with_reducible refine Ev_f ?_ ?_; · omega) | (with_reducible refine Ev_st ?_; try simp +decide only [w2_ap, true_and, false_and, and_true, and_false, if_true, if_false, ite_self, Int.zero_add, Int.add_zero]) | simp +decide only [w2_ap, true_and, false_and, and_true, and_false, if_true, if_false, ite_self, Int.zero_add, Int.add_zero])
  exact Ev_ret rfl
theorem K19 {v : Int} : Ev (fun n => kf_19 n dp e 0 J M v) (fun r => r = (v, w2 J 0 18 0, M)) := by
  refine Ev_step (fun n => ke_19_0 n _ _ _ _ _) ?_
  exact Ev_st (Ev_ret rfl)
theorem K200 {v : Int} : Ev (fun n => kf_200 n dp e 0 J M v) (fun r => r = (v, w2 (w2 (w2 J 105 1 0) 105 32 0) 105 51 0, M)) := by
  refine Ev_step (fun n => ke_200_0 n _ _ _ _ _) ?_
  exact Ev_st (Ev_st (Ev_st (Ev_ret rfl)))
theorem K199 {i v : Int} (hd : 1 ≤ dp) (hi : 0 ≤ i ∧ i < 1570) : Ev (fun n => kf_199 n dp e 0 J M i v) (fun r => r = (J 107 i, w2 (w2 (w2 (w2 J 107 i v) 105 1 0) 105 32 0) 105 51 0, M)) := by
  refine Ev_step (fun n => ke_199_0 n _ _ _ _ _ _) ?_
  exact Ev_t hi (Ev_st (Ev_t hi (Ev_st (Ev_t hd (Ev_call K200 (Ev_ret rfl))))))
theorem K15 {b j : Int} (hd : 1 ≤ dp) (hb : (b = -1 ∧ j = 0) ∨ (b = -2 ∧ j = 1) ∨ (b = -3 ∧ j = 2) ∨ (b = -5 ∧ j = 3) ∨ (b = -6 ∧ j = 4)) (h : 0 ≤ J 92 j ∧ J 92 j ≤ 1000000) : Ev (fun n => kf_15 n dp e 0 J M b) (fun r => r = (b, w2 (w2 J 0 18 b) 92 j (J 92 j + 1), M)) := by
  refine Ev_step (fun n => ke_15_0 n _ _ _ _ _) ?_
  refine Ev_st ?_
  by_cases c : b < -3
  · have ej : -2 - b = j := by omega
    simp only [ej]
    refine Ev_t c (Ev_t hd (Ev_t (by omega) (Ev14 (fun _ => ?_) (fun q => absurd (show 0 ≤ j ∧ j ≤ 4 by omega) q))))
    dsimp only
    repeat (first | (with_reducible refine Ev_t ?_ ?_; · omega) | (with_reducible refine Ev_f ?_ ?_; · omega) | (with_reducible refine Ev_st ?_; try simp +decide only [w2_ap, true_and, false_and, and_true, and_false, if_true, if_false, ite_self, Int.zero_add, Int.add_zero]) | simp +decide only [w2_ap, true_and, false_and, and_true, and_false, if_true, if_false, ite_self, Int.zero_add, Int.add_zero])
    exact Ev_ret rfl
  · have ej : -1 - b = j := by omega
    simp only [ej]
    refine Ev_f c (Ev_t hd (Ev_t (by omega) (Ev14 (fun _ => ?_) (fun q => absurd (show 0 ≤ j ∧ j ≤ 4 by omega) q))))
    dsimp only
    repeat (first | (with_reducible refine Ev_t ?_ ?_; · omega) | (with_reducible refine Ev_f ?_ ?_; · omega) | (with_reducible refine Ev_st ?_; try simp +decide only [w2_ap, true_and, false_and, and_true, and_false, if_true, if_false, ite_self, Int.zero_add, Int.add_zero]) | simp +decide only [w2_ap, true_and, false_and, and_true, and_false, if_true, if_false, ite_self, Int.zero_add, Int.add_zero])
    exact Ev_ret rfl
theorem K194n {b j : Int} (hb : (b = -1 ∧ j = 1) ∨ (b = -2 ∧ j = 2) ∨ (b = -3 ∧ j = 3) ∨ (b = -5 ∧ j = 5) ∨ (b = -6 ∧ j = 6)) (h : 0 ≤ J 106 j ∧ J 106 j ≤ 1000000) (h1 : J 105 32 = 0 ∨ J 105 32 = 1) (h2 : J 105 51 = 0 ∨ J 105 51 = 1) : Ev (fun n => kf_194 n dp e 0 J M b) (fun r => r = (b, w2 (w2 J 105 1 b) 106 j (J 106 j + 1), M)) := by
  have ej : -b = j := by omega
  have q1 : ∀ v, (w2 J 105 1 v) 105 32 = J 105 32 := fun v => rfl
  have q2 : ∀ v, (w2 J 105 1 v) 105 51 = J 105 51 := fun v => rfl
  refine Ev_step (fun n => ke_194_0 n _ _ _ _ _) ?_
  simp only [ej]
  refine Ev_f (by omega) (Ev_st ?_)
  rcases h1 with c1 | c1
  · refine Ev_t (by rw [q1, c1]) (Ev_st ?_)
    rw [w2_idv (by rw [q1, c1])]
    rcases h2 with c2 | c2
    · refine Ev_t (by rw [q2, c2]) (Ev_st ?_)
      rw [w2_idv (by rw [q2, c2])]
      repeat (first | (with_reducible refine Ev_t ?_ ?_; · omega) | (with_reducible refine Ev_f ?_ ?_; · omega) | (with_reducible refine Ev_st ?_; try simp +decide only [w2_ap, true_and, false_and, and_true, and_false, if_true, if_false, ite_self, Int.zero_add, Int.add_zero]) | simp +decide only [w2_ap, true_and, false_and, and_true, and_false, if_true, if_false, ite_self, Int.zero_add, Int.add_zero])
      exact Ev_ret rfl
    · refine Ev_f (by rw [q2, c2]; decide) (Ev_f (by omega) (Ev_st ?_))
      rw [w2_idv (by rw [q2, c2])]
      repeat (first | (with_reducible refine Ev_t ?_ ?_; · omega) | (with_reducible refine Ev_f ?_ ?_; · omega) | (with_reducible refine Ev_st ?_; try simp +decide only [w2_ap, true_and, false_and, and_true, and_false, if_true, if_false, ite_self, Int.zero_add, Int.add_zero]) | simp +decide only [w2_ap, true_and, false_and, and_true, and_false, if_true, if_false, ite_self, Int.zero_add, Int.add_zero])
      exact Ev_ret rfl
  · refine Ev_f (by rw [q1, c1]; decide) (Ev_f (by omega) (Ev_st ?_))
    rw [w2_idv (by rw [q1, c1])]
    rcases h2 with c2 | c2
    · refine Ev_t (by rw [q2, c2]) (Ev_st ?_)
      rw [w2_idv (by rw [q2, c2])]
      repeat (first | (with_reducible refine Ev_t ?_ ?_; · omega) | (with_reducible refine Ev_f ?_ ?_; · omega) | (with_reducible refine Ev_st ?_; try simp +decide only [w2_ap, true_and, false_and, and_true, and_false, if_true, if_false, ite_self, Int.zero_add, Int.add_zero]) | simp +decide only [w2_ap, true_and, false_and, and_true, and_false, if_true, if_false, ite_self, Int.zero_add, Int.add_zero])
      exact Ev_ret rfl
    · refine Ev_f (by rw [q2, c2]; decide) (Ev_f (by omega) (Ev_st ?_))
      rw [w2_idv (by rw [q2, c2])]
      repeat (first | (with_reducible refine Ev_t ?_ ?_; · omega) | (with_reducible refine Ev_f ?_ ?_; · omega) | (with_reducible refine Ev_st ?_; try simp +decide only [w2_ap, true_and, false_and, and_true, and_false, if_true, if_false, ite_self, Int.zero_add, Int.add_zero]) | simp +decide only [w2_ap, true_and, false_and, and_true, and_false, if_true, if_false, ite_self, Int.zero_add, Int.add_zero])
      exact Ev_ret rfl
theorem K194p {b : Int} (hb : 0 ≤ b) : Ev (fun n => kf_194 n dp e 0 J M b) (fun r => r = (b, w2 (w2 (w2 J 105 1 0) 105 32 0) 105 51 0, M)) := by
  refine Ev_step (fun n => ke_194_0 n _ _ _ _ _) ?_
  refine Ev_t hb (Ev_st ?_)
  refine Ev_c (fun c => Ev_st ?_) (fun c => Ev_t hb (Ev_st ?_))
  · refine Ev_c (fun c => Ev_st (Ev_t hb (Ev_ret rfl))) (fun c => Ev_t hb (Ev_st (Ev_t hb (Ev_ret rfl))))
  · refine Ev_c (fun c => Ev_st (Ev_t hb (Ev_ret rfl))) (fun c => Ev_t hb (Ev_st (Ev_t hb (Ev_ret rfl))))
theorem Ev14t {x lo hi : Int} {k : Nat → Int × JI × JI → Option β} (h : lo ≤ x ∧ x ≤ hi) (g : Ev (fun n => k n (1, J, M)) T) : Ev (fun n => (kf_14 n dp e 0 J M x lo hi).bind (k n)) T := Ev14 (fun _ => g) (fun c => absurd h c)
theorem Ev14f {x lo hi : Int} {k : Nat → Int × JI × JI → Option β} (h : ¬ (lo ≤ x ∧ x ≤ hi)) (g : Ev (fun n => k n (0, J, M)) T) : Ev (fun n => (kf_14 n dp e 0 J M x lo hi).bind (k n)) T := Ev14 (fun c => absurd c h) (fun _ => g)
theorem Ev193t {x lo hi : Int} {k : Nat → Int × JI × JI → Option β} (h : lo ≤ x ∧ x ≤ hi) (g : Ev (fun n => k n (1, J, M)) T) : Ev (fun n => (kf_193 n dp e 0 J M x lo hi).bind (k n)) T := Ev193 (fun _ => g) (fun c => absurd h c)
theorem Ev193f {x lo hi : Int} {k : Nat → Int × JI × JI → Option β} (h : ¬ (lo ≤ x ∧ x ≤ hi)) (g : Ev (fun n => k n (0, J, M)) T) : Ev (fun n => (kf_193 n dp e 0 J M x lo hi).bind (k n)) T := Ev193 (fun c => absurd c h) (fun _ => g)
theorem Ev197t {x : Int} {k : Nat → Int × JI × JI → Option β} (hd : 1 ≤ dp) (h : 0 ≤ x ∧ x ≤ 2) (g : Ev (fun n => k n (1, J, M)) T) : Ev (fun n => (kf_197 n dp e 0 J M x).bind (k n)) T := Ev197 hd (fun _ => g) (fun c => absurd h c)
theorem Ev197f {x : Int} {k : Nat → Int × JI × JI → Option β} (hd : 1 ≤ dp) (h : ¬ (0 ≤ x ∧ x ≤ 2)) (g : Ev (fun n => k n (0, J, M)) T) : Ev (fun n => (kf_197 n dp e 0 J M x).bind (k n)) T := Ev197 hd (fun c => absurd c h) (fun _ => g)
theorem Ev202t {x : Int} {k : Nat → Int × JI × JI → Option β} (hd : 1 ≤ dp) (h : 0 ≤ x ∧ x ≤ 9) (g : Ev (fun n => k n (1, J, M)) T) : Ev (fun n => (kf_202 n dp e 0 J M x).bind (k n)) T := Ev202 hd (fun _ => g) (fun c => absurd h c)
theorem Ev202f {x : Int} {k : Nat → Int × JI × JI → Option β} (hd : 1 ≤ dp) (h : ¬ (0 ≤ x ∧ x ≤ 9)) (g : Ev (fun n => k n (0, J, M)) T) : Ev (fun n => (kf_202 n dp e 0 J M x).bind (k n)) T := Ev202 hd (fun c => absurd c h) (fun _ => g)
theorem Ev_th {k : Nat → JI → Option β} (h : J 105 0 = 0) (g : Ev (fun n => k n J) T) : Ev (fun n => stI (w2 J 105 0 0) (k n)) T := by
  refine Ev_st ?_
  rw [w2_idv h]
  exact g
theorem K16 (h : (0 ≤ J 2 0 ∧ J 2 0 ≤ 1000000) ∧ (0 ≤ J 2 1 ∧ J 2 1 ≤ 1000000) ∧ (0 ≤ J 2 2 ∧ J 2 2 ≤ 1000000)) : Ev (fun n => kf_16 n dp e 0 J M) (fun r => r = (J 2 0 + J 2 1 + J 2 2, J, M)) := by
  refine Ev_step (fun n => ke_16_0 n _ _ _ _) ?_
  repeat (first | (with_reducible refine Ev_t ?_ ?_; · omega) | (with_reducible refine Ev_f ?_ ?_; · omega) | (with_reducible refine Ev_st ?_; try simp +decide only [w2_ap, true_and, false_and, and_true, and_false, if_true, if_false, ite_self, Int.zero_add, Int.add_zero]) | simp +decide only [w2_ap, true_and, false_and, and_true, and_false, if_true, if_false, ite_self, Int.zero_add, Int.add_zero])
  exact Ev_ret rfl
theorem K198 (h : (0 ≤ J 107 0 ∧ J 107 0 ≤ 1000000) ∧ (0 ≤ J 107 1 ∧ J 107 1 ≤ 1000000) ∧ (0 ≤ J 107 2 ∧ J 107 2 ≤ 1000000)) : Ev (fun n => kf_198 n dp e 0 J M) (fun r => r = (J 107 0 + J 107 1 + J 107 2, J, M)) := by
  refine Ev_step (fun n => ke_198_0 n _ _ _ _) ?_
  repeat (first | (with_reducible refine Ev_t ?_ ?_; · omega) | (with_reducible refine Ev_f ?_ ?_; · omega) | (with_reducible refine Ev_st ?_; try simp +decide only [w2_ap, true_and, false_and, and_true, and_false, if_true, if_false, ite_self, Int.zero_add, Int.add_zero]) | simp +decide only [w2_ap, true_and, false_and, and_true, and_false, if_true, if_false, ite_self, Int.zero_add, Int.add_zero])
  exact Ev_ret rfl
theorem K292 {b w : Int} (h : 0 ≤ b ∧ b < 16 ∧ 0 ≤ w ∧ w < 7) : Ev (fun n => kf_292 n dp e 0 J M b w) (fun r => r = (J 107 (90 + 7 * b + w), J, M)) := by
  refine Ev_step (fun n => ke_292_0 n _ _ _ _ _ _) ?_
  repeat (first | (with_reducible refine Ev_t ?_ ?_; · omega) | (with_reducible refine Ev_f ?_ ?_; · omega) | (with_reducible refine Ev_st ?_; try simp +decide only [w2_ap, true_and, false_and, and_true, and_false, if_true, if_false, ite_self, Int.zero_add, Int.add_zero]) | simp +decide only [w2_ap, true_and, false_and, and_true, and_false, if_true, if_false, ite_self, Int.zero_add, Int.add_zero])
  exact Ev_ret rfl
theorem K157 : Ev (fun n => kf_157 n dp e 0 J M) (fun r => r = (w2 J 81 11 1, M)) := by
  refine Ev_step (fun n => ke_157_0 n _ _ _ _) ?_
  exact Ev_st (Ev_ret rfl)
end KB
