section
set_option maxRecDepth 100000 in
theorem ev_212_3 {dp : Nat} {e : EN} {I : JI} {L : JI} {i1 : Int} {P_ : (Int × JI × JI) → Prop} (h : Ev (fun n => (stI (w2 I 105 7 0) (fun I_81 => (if (I_81 105 13) = 0 then (stI (w2 I_81 107 8 (I_81 105 14)) (fun I_108 => (stI (w2 I_108 107 9 (I_108 105 26)) (fun I_119 => (kf_212 n dp e 4 I_119 L 0))))) else (if 1 ≤ dp then ((kf_194 n (dp - 1) e 0 I_81 L (-6)).bind (fun ⟨x0_94, I0_94, L0_94⟩ => (some ((x0_94 : Int), I0_94, L0_94)))) else none))))) P_) : Ev (fun n => kf_212 n dp e 3 I L i1) P_ := Ev_step (fun n => ke_212_3 n dp e I L i1) h
set_option maxRecDepth 100000 in
theorem ev_212_6 {dp : Nat} {e : EN} {I : JI} {L : JI} {i1 : Int} {P_ : (Int × JI × JI) → Prop} (h : Ev (fun n => (if (I 105 16) ≤ i1 then (if 1 ≤ dp then ((kf_194 n (dp - 1) e 0 I L (I 105 14)).bind (fun ⟨x0_261, I0_261, L0_261⟩ => (some ((x0_261 : Int), I0_261, L0_261)))) else none) else (if 0 ≤ i1 ∧ i1 < 400 then (if (-2147483648 ≤ 2 * i1 ∧ 2 * i1 ≤ 2147483647) ∧ (-2147483648 ≤ 664 + (2 * i1) ∧ 664 + (2 * i1) ≤ 2147483647) then (if 0 ≤ (664 + (2 * i1)) ∧ (664 + (2 * i1)) < 1570 then (stI (w2 I 107 (664 + (2 * i1)) (I 112 i1)) (fun I_229 => (if 0 ≤ i1 ∧ i1 < 400 then (if -2147483648 ≤ (664 + (2 * i1)) + 1 ∧ (664 + (2 * i1)) + 1 ≤ 2147483647 then (if 0 ≤ ((664 + (2 * i1)) + 1) ∧ ((664 + (2 * i1)) + 1) < 1570 then (stI (w2 I_229 107 ((664 + (2 * i1)) + 1) (I_229 113 i1)) (fun I_249 => (if -2147483648 ≤ i1 + 1 ∧ i1 + 1 ≤ 2147483647 then (kf_212 n dp e 6 I_249 L (i1 + 1)) else none))) else none) else none) else none))) else none) else none) else none))) P_) : Ev (fun n => kf_212 n dp e 6 I L i1) P_ := Ev_step (fun n => ke_212_6 n dp e I L i1) h
set_option maxRecDepth 100000 in
theorem ev_212_5 {dp : Nat} {e : EN} {I : JI} {L : JI} {i1 : Int} {P_ : (Int × JI × JI) → Prop} (h : Ev (fun n => (if -2147483648 ≤ 8 * (I 105 14) ∧ 8 * (I 105 14) ≤ 2147483647 then (if (8 * (I 105 14)) ≤ i1 then (kf_212 n dp e 6 I L 0) else (if 0 ≤ i1 ∧ i1 < 192 then (if -2147483648 ≤ 472 + i1 ∧ 472 + i1 ≤ 2147483647 then (if 0 ≤ (472 + i1) ∧ (472 + i1) < 1570 then (stI (w2 I 107 (472 + i1) (I 111 i1)) (fun I_195 => (if -2147483648 ≤ i1 + 1 ∧ i1 + 1 ≤ 2147483647 then (kf_212 n dp e 5 I_195 L (i1 + 1)) else none))) else none) else none) else none)) else none)) P_) : Ev (fun n => kf_212 n dp e 5 I L i1) P_ := Ev_step (fun n => ke_212_5 n dp e I L i1) h
set_option maxRecDepth 100000 in
theorem ev_212_4 {dp : Nat} {e : EN} {I : JI} {L : JI} {i1 : Int} {P_ : (Int × JI × JI) → Prop} (h : Ev (fun n => (if -2147483648 ≤ 11 * (I 105 26) ∧ 11 * (I 105 26) ≤ 2147483647 then (if (11 * (I 105 26)) ≤ i1 then (stI (w2 I 107 471 (I 105 14)) (fun I_166 => (kf_212 n dp e 5 I_166 L 0))) else (if 0 ≤ i1 ∧ i1 < 176 then (if -2147483648 ≤ 290 + i1 ∧ 290 + i1 ≤ 2147483647 then (if 0 ≤ (290 + i1) ∧ (290 + i1) < 1570 then (stI (w2 I 107 (290 + i1) (I 117 i1)) (fun I_148 => (if -2147483648 ≤ i1 + 1 ∧ i1 + 1 ≤ 2147483647 then (kf_212 n dp e 4 I_148 L (i1 + 1)) else none))) else none) else none) else none)) else none)) P_) : Ev (fun n => kf_212 n dp e 4 I L i1) P_ := Ev_step (fun n => ke_212_4 n dp e I L i1) h
end
/-! PARSER 19: tree() -/
theorem Ev_all {ι α : Type} {f : Nat → Option α} {P : ι → α → Prop} (i0 : ι) (h : ∀ i, Ev f (P i)) : Ev f (fun r => ∀ i, P i r) := by
  obtain ⟨N, r, h1, h2⟩ := h i0
  refine ⟨N, r, h1, fun i => ?_⟩
  obtain ⟨N', r', g1, g2⟩ := h i
  have e1 := h1 (max N N') (Nat.le_max_left _ _)
  have e2 := g1 (max N N') (Nat.le_max_right _ _)
  rw [e1] at e2
  cases e2
  exact g2
theorem Ev_pcx {α : Type} {f : Nat → Option α} {P Q : α → Prop} (h : Ev f P) (g : ∀ n r, f n = some r → Q r) : Ev f (fun r => P r ∧ Q r) := by
  obtain ⟨N, r, h1, h2⟩ := h
  exact ⟨N, r, h1, h2, g N r (h1 N (Nat.le_refl _))⟩
def ilv (K : JI) (k : Int) : JI := fun c j => if c = 107 ∧ 664 ≤ j ∧ j < 664 + 2 * k then (if (j - 664) % 2 = 0 then K 112 ((j - 664) / 2) else K 113 ((j - 664) / 2)) else K c j
theorem cpt_s {K : JI} {a b : Nat} {p : Int} {k : Nat} (h : ¬ a = b) : w2 (cp2 K b a 0 p k) b (p + k) (cp2 K b a 0 p k a k) = cp2 K b a 0 p ((k + 1 : Nat) : Int) := by
  funext c j
  rw [w2_ap]
  have e : cp2 K b a 0 p k a k = K a k := by unfold cp2; rw [if_neg (fun z => h z.1)]
  rw [e]
  unfold cp2
  by_cases c1 : c = b ∧ j = p + k
  · rw [if_pos c1, if_pos (by omega)]
    congr 1
    omega
  · rw [if_neg c1]
    by_cases c2 : c = b ∧ p ≤ j ∧ j < p + k
    · rw [if_pos c2, if_pos (by omega)]
    · rw [if_neg c2, if_neg (by omega)]
theorem cpt_0 {K : JI} {a b : Nat} {p : Int} : cp2 K b a 0 p ((0 : Nat) : Int) = K := by
  funext c j
  unfold cp2
  rw [if_neg (by omega)]
theorem ilv_0 {K : JI} : ilv K ((0 : Nat) : Int) = K := by
  funext c j
  unfold ilv
  rw [if_neg (by omega)]
theorem ilv_s {K : JI} {k : Nat} : w2 (w2 (ilv K k) 107 (664 + 2 * k) (ilv K k 112 k)) 107 (664 + 2 * k + 1) (ilv K k 113 k) = ilv K ((k + 1 : Nat) : Int) := by
  funext c j
  have e1 : ilv K k 112 k = K 112 k := by unfold ilv; rw [if_neg (by omega)]
  have e2 : ilv K k 113 k = K 113 k := by unfold ilv; rw [if_neg (by omega)]
  rw [e1, e2, w2_ap, w2_ap]
  unfold ilv
  by_cases c1 : c = 107 ∧ j = 664 + 2 * k + 1
  · rw [if_pos c1, if_pos (by omega), if_neg (by omega)]
    congr 1
    omega
  · rw [if_neg c1]
    by_cases c2 : c = 107 ∧ j = 664 + 2 * k
    · rw [if_pos c2, if_pos (by omega), if_pos (by omega)]
      congr 1
      omega
    · rw [if_neg c2]
      by_cases c3 : c = 107 ∧ 664 ≤ j ∧ j < 664 + 2 * k
      · have d : c = 107 ∧ 664 ≤ j ∧ j < 664 + 2 * ((k + 1 : Nat) : Int) := by omega
        rw [if_pos c3, if_pos d]
      · rw [if_neg c3, if_neg (by omega)]
def rwT (K : JI) (nc nw n : Int) : JI := ilv (cp2 (w2 (cp2 (w2 (w2 (w2 K 105 7 0) 107 8 nc) 107 9 nw) 107 117 0 290 (11 * nw)) 107 471 nc) 107 111 0 472 (8 * nc)) n
section TREE
variable {dp dm : Nat} {e : EN} {M : JI}
theorem K212e {K L : JI} {nc nw : Int} (hd : 1 ≤ dm) (hb : K 105 13 = 0) (h14 : K 105 14 = nc) (hnc : 1 ≤ nc ∧ nc ≤ 24) (h26 : K 105 26 = nw) (hnw : 0 ≤ nw ∧ nw ≤ 16) (h16 : 0 ≤ K 105 16 ∧ K 105 16 ≤ 400) : Ev (fun n => kf_212 n dm e 3 K L 0) (fun r => r = (nc, okM (rwT K nc nw (K 105 16)), L)) := by
  refine ev_212_3 ?_
  refine Ev_st (Ev_t hb (Ev_st (Ev_st ?_)))
  have a14 : (w2 K 105 7 0) 105 14 = nc := h14
  have a26 : (w2 (w2 K 105 7 0) 107 8 nc) 105 26 = nw := h26
  rw [a14, a26]
  obtain ⟨W, hW⟩ : ∃ W : Nat, (W : Int) = 11 * nw := ⟨(11 * nw).toNat, by omega⟩
  obtain ⟨C, hC⟩ : ∃ C : Nat, (C : Int) = 8 * nc := ⟨(8 * nc).toNat, by omega⟩
  obtain ⟨S, hS⟩ : ∃ S : Nat, (S : Int) = K 105 16 := ⟨(K 105 16).toNat, by omega⟩
  have k6 : ∀ X : JI, X 105 14 = nc → X 105 16 = S → (∀ i : Nat, i ≤ S → Ev (fun n => kf_212 n dm e 6 (ilv X i) L i) (fun r => r = (nc, okM (ilv X S), L))) := by
    intro X x14 x16
    refine dec_ind S (fun i hi ih => ?_)
    have y16 : (ilv X i) 105 16 = S := by unfold ilv; rw [if_neg (by omega)]; exact x16
    have y14 : (ilv X i) 105 14 = nc := by unfold ilv; rw [if_neg (by omega)]; exact x14
    refine ev_212_6 ?_
    by_cases c : i < S
    · have ih := ih c
      refine Ev_f (by omega) (Ev_t (by omega) (Ev_t (by omega) (Ev_t (by omega) (Ev_st (Ev_t (by omega) (Ev_t (by omega) (Ev_t (by omega) (Ev_st (Ev_t (by omega) ?_)))))))))
      have e2 : w2 (ilv X i) 107 (664 + 2 * i) (ilv X i 112 i) 113 i = ilv X i 113 i := w2_n (by omega)
      rw [e2, ilv_s]
      exact ih
    · have : i = S := by omega
      subst this
      refine Ev_t (by omega) (Ev_t hd ?_)
      rw [y14]
      exact Ev_call (K194p (by omega)) (Ev_ret rfl)
  have k5 : ∀ X : JI, X 105 14 = nc → X 105 16 = S → (∀ i : Nat, i ≤ C → Ev (fun n => kf_212 n dm e 5 (cp2 X 107 111 0 472 i) L i) (fun r => r = (nc, okM (ilv (cp2 X 107 111 0 472 C) S), L))) := by
    intro X x14 x16
    refine dec_ind C (fun i hi ih => ?_)
    have y14 : (cp2 X 107 111 0 472 i) 105 14 = nc := by unfold cp2; rw [if_neg (by omega)]; exact x14
    have y16 : (cp2 X 107 111 0 472 i) 105 16 = S := by unfold cp2; rw [if_neg (by omega)]; exact x16
    refine ev_212_5 ?_
    by_cases c : i < C
    · have ih := ih c
      refine Ev_t (by omega) (Ev_f (by omega) (Ev_t (by omega) (Ev_t (by omega) (Ev_t (by omega) (Ev_st (Ev_t (by omega) ?_))))))
      rw [cpt_s (by decide)]
      exact ih
    · have : i = C := by omega
      subst this
      refine Ev_t (by omega) (Ev_t (by omega) ?_)
      have := k6 _ y14 y16 0 (by omega)
      rw [ilv_0] at this
      exact this
  have k4 : ∀ X : JI, X 105 14 = nc → X 105 26 = nw → X 105 16 = S → (∀ i : Nat, i ≤ W → Ev (fun n => kf_212 n dm e 4 (cp2 X 107 117 0 290 i) L i) (fun r => r = (nc, okM (ilv (cp2 (w2 (cp2 X 107 117 0 290 W) 107 471 nc) 107 111 0 472 C) S), L))) := by
    intro X x14 x26 x16
    refine dec_ind W (fun i hi ih => ?_)
    have y14 : (cp2 X 107 117 0 290 i) 105 14 = nc := by unfold cp2; rw [if_neg (by omega)]; exact x14
    have y26 : (cp2 X 107 117 0 290 i) 105 26 = nw := by unfold cp2; rw [if_neg (by omega)]; exact x26
    have y16 : (cp2 X 107 117 0 290 i) 105 16 = S := by unfold cp2; rw [if_neg (by omega)]; exact x16
    refine ev_212_4 ?_
    by_cases c : i < W
    · have ih := ih c
      refine Ev_t (by omega) (Ev_f (by omega) (Ev_t (by omega) (Ev_t (by omega) (Ev_t (by omega) (Ev_st (Ev_t (by omega) ?_))))))
      rw [cpt_s (by decide)]
      exact ih
    · have : i = W := by omega
      subst this
      refine Ev_t (by omega) (Ev_t (by omega) (Ev_st ?_))
      rw [y14]
      have := k5 (w2 (cp2 X 107 117 0 290 i) 107 471 nc) y14 y16 0 (by omega)
      rw [cpt_0] at this
      exact this
  have := k4 (w2 (w2 (w2 K 105 7 0) 107 8 nc) 107 9 nw) h14 h26 hS.symm 0 (by omega)
  rw [cpt_0, hW, hC, hS] at this
  exact this
theorem K212f {K L : JI} (hd : 1 ≤ dm) (hb : K 105 13 = 1) (h6 : 0 ≤ K 106 6 ∧ K 106 6 ≤ 1000000) (h1 : K 105 32 = 0 ∨ K 105 32 = 1) (h2 : K 105 51 = 0 ∨ K 105 51 = 1) : Ev (fun n => kf_212 n dm e 3 K L 0) (fun r => r = (-6, w2 (w2 (w2 K 105 7 0) 105 1 (-6)) 106 6 (K 106 6 + 1), L)) := by
  refine ev_212_3 ?_
  refine Ev_st (Ev_f (by show ¬ (K 105 13 = 0); omega) (Ev_t hd ?_))
  exact Ev_call (K194n (b := -6) (j := 6) (by omega) h6 h1 h2) (Ev_ret rfl)
end TREE
section RW
variable {K : JI} {nc nw n : Int}
theorem rwT_o {a : Nat} {i : Int} (h : ¬ a = 107) (h7 : ¬ (a = 105 ∧ i = 7)) : rwT K nc nw n a i = K a i := by
  unfold rwT ilv
  rw [if_neg (by omega)]
  unfold cp2
  rw [if_neg (by omega), w2_n (by omega), if_neg (by omega), w2_n (by omega), w2_n (by omega), w2_n h7]
theorem rwT_l {i : Int} (hw : nw ≤ 16) (hc : nc ≤ 24) (h : i < 290) (h8 : ¬ i = 8) (h9 : ¬ i = 9) : rwT K nc nw n 107 i = K 107 i := by
  unfold rwT ilv
  rw [if_neg (by omega)]
  unfold cp2
  rw [if_neg (by omega), w2_n (by omega), if_neg (by omega), w2_n (by omega), w2_n (by omega), w2_n (by omega)]
theorem rwT_8 : rwT K nc nw n 107 8 = nc := by
  unfold rwT ilv
  rw [if_neg (by omega)]
  unfold cp2
  rw [if_neg (by omega), w2_n (by omega), if_neg (by omega), w2_n (by omega), w2_ap, if_pos ⟨rfl, rfl⟩]
theorem rwT_9 : rwT K nc nw n 107 9 = nw := by
  unfold rwT ilv
  rw [if_neg (by omega)]
  unfold cp2
  rw [if_neg (by omega), w2_n (by omega), if_neg (by omega), w2_ap, if_pos ⟨rfl, rfl⟩]
theorem rwT_w {k : Int} (hw : nw ≤ 16) (h0 : 0 ≤ k) (h : k < 11 * nw) : rwT K nc nw n 107 (290 + k) = K 117 k := by
  unfold rwT ilv
  rw [if_neg (by omega)]
  unfold cp2
  rw [if_neg (by omega), w2_n (by omega), if_pos (by omega), w2_n (by omega), w2_n (by omega), w2_n (by omega)]
  congr 1
  omega
theorem rwT_471 (hw : nw ≤ 16) : rwT K nc nw n 107 471 = nc := by
  unfold rwT ilv
  rw [if_neg (by omega)]
  unfold cp2
  rw [if_neg (by omega), w2_ap, if_pos ⟨rfl, rfl⟩]
theorem rwT_c {k : Int} (hc : nc ≤ 24) (h0 : 0 ≤ k) (h : k < 8 * nc) : rwT K nc nw n 107 (472 + k) = K 111 k := by
  unfold rwT ilv
  rw [if_neg (by omega)]
  unfold cp2
  rw [if_pos (by omega), w2_n (by omega), if_neg (by omega), w2_n (by omega), w2_n (by omega), w2_n (by omega)]
  congr 1
  omega
theorem rwT_s {k : Int} (h0 : 0 ≤ k) (h : k < n) : rwT K nc nw n 107 (664 + 2 * k) = K 112 k ∧ rwT K nc nw n 107 (664 + 2 * k + 1) = K 113 k := by
  have o : ∀ a i, a = 112 ∨ a = 113 → (cp2 (w2 (cp2 (w2 (w2 (w2 K 105 7 0) 107 8 nc) 107 9 nw) 107 117 0 290 (11 * nw)) 107 471 nc) 107 111 0 472 (8 * nc)) a i = K a i := by
    intro a i ha
    unfold cp2
    rw [if_neg (by omega), w2_n (by omega), if_neg (by omega), w2_n (by omega), w2_n (by omega), w2_n (by omega)]
  unfold rwT ilv
  rw [if_pos (by omega), if_pos (by omega), if_pos (by omega), if_neg (by omega), o _ _ (by omega), o _ _ (by omega)]
  exact ⟨by congr 1; omega, by congr 1; omega⟩
end RW
