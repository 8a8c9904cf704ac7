section
set_option maxRecDepth 100000 in
theorem ev_249_0 {dp : Nat} {e : EN} {I : JI} {L : JI} {i1 : Int} {j2 : Int} {j4 : Int} {P_ : (Int × JI × JI) → Prop} (h : Ev (fun n => (if i1 = 20 then (if -9223372036854775808 ≤ j2 + j4 ∧ j2 + j4 ≤ 9223372036854775807 then (some (((j2 + j4) : Int), I, L)) else none) else (if i1 = 21 then (if -9223372036854775808 ≤ j2 - j4 ∧ j2 - j4 ≤ 9223372036854775807 then (some (((j2 - j4) : Int), I, L)) else none) else (if i1 = 22 then (if -9223372036854775808 ≤ j2 * j4 ∧ j2 * j4 ≤ 9223372036854775807 then (some (((j2 * j4) : Int), I, L)) else none) else (if i1 = 23 then (if j4 = 0 then (stI (w2 I 105 29 1) (fun I_68 => (if (I_68 105 29) = 0 then (if ¬ (j4 = 0) then (if -9223372036854775807 ≤ j2 then (some (((Int.tdiv j2 j4) : Int), I_68, L)) else none) else none) else (some ((0 : Int), I_68, L))))) else (stI (w2 I 105 29 0) (fun I_68 => (if (I_68 105 29) = 0 then (if ¬ (j4 = 0) then (if -9223372036854775807 ≤ j2 then (some (((Int.tdiv j2 j4) : Int), I_68, L)) else none) else none) else (some ((0 : Int), I_68, L)))))) else (if i1 = 24 then (if j4 ≤ j2 then (some ((0 : Int), I, L)) else (some ((1 : Int), I, L))) else (if i1 = 25 then (if j2 ≤ j4 then (some ((0 : Int), I, L)) else (some ((1 : Int), I, L))) else (if j2 = j4 then (some ((1 : Int), I, L)) else (some ((0 : Int), I, L)))))))))) P_) : Ev (fun n => kf_249 n dp e 0 I L i1 j2 j4) P_ := Ev_step (fun n => ke_249_0 n dp e I L i1 j2 j4) h
set_option maxRecDepth 100000 in
theorem ev_248_0 {dp : Nat} {e : EN} {I : JI} {L : JI} {i1 : Int} {i2 : Int} {i3 : Int} {i4 : Int} {i5 : Int} {i6 : Int} {P_ : (JI × JI) → Prop} (h : Ev (fun n => (stI (w2 I 105 29 0) (fun I_2 => (kf_248 n dp e 1 I_2 L i1 i2 0 i1 0 0)))) P_) : Ev (fun n => kf_248 n dp e 0 I L i1 i2 i3 i4 i5 i6) P_ := Ev_step (fun n => ke_248_0 n dp e I L i1 i2 i3 i4 i5 i6) h
set_option maxRecDepth 100000 in
theorem ev_248_2 {dp : Nat} {e : EN} {I : JI} {L : JI} {i1 : Int} {i2 : Int} {i3 : Int} {i4 : Int} {i5 : Int} {i6 : Int} {P_ : (JI × JI) → Prop} (h : Ev (fun n => (kf_248 n dp e 1 I L i1 i2 i3 i4 0 0)) P_) : Ev (fun n => kf_248 n dp e 2 I L i1 i2 i3 i4 i5 i6) P_ := Ev_step (fun n => ke_248_2 n dp e I L i1 i2 i3 i4 i5 i6) h
set_option maxRecDepth 100000 in
theorem ev_248_1 {dp : Nat} {e : EN} {I : JI} {L : JI} {i1 : Int} {i2 : Int} {i3 : Int} {i4 : Int} {i5 : Int} {i6 : Int} {P_ : (JI × JI) → Prop} (h : Ev (fun n => (if i2 ≤ i4 then (kf_248 n dp e 3 I L i1 i2 i3 i4 0 0) else (if (I 105 29) = 0 then (if (-2147483648 ≤ 2 * i4 ∧ 2 * i4 ≤ 2147483647) ∧ (-2147483648 ≤ 664 + (2 * i4) ∧ 664 + (2 * i4) ≤ 2147483647) then (if 0 ≤ (664 + (2 * i4)) ∧ (664 + (2 * i4)) < 1570 then (stI (I 107 (664 + (2 * i4))) (fun v_36 => (if -2147483648 ≤ (664 + (2 * i4)) + 1 ∧ (664 + (2 * i4)) + 1 ≤ 2147483647 then (if 0 ≤ ((664 + (2 * i4)) + 1) ∧ ((664 + (2 * i4)) + 1) < 1570 then (stI (I 107 ((664 + (2 * i4)) + 1)) (fun v_53 => (if 20 ≤ v_36 then (if 27 ≤ v_36 then (if v_36 = 27 then (if -2147483648 ≤ i3 - 1 ∧ i3 - 1 ≤ 2147483647 then (if 0 ≤ (i3 - 1) ∧ (i3 - 1) < 400 then (if 0 ≤ (i3 - 1) ∧ (i3 - 1) < 400 then (if -9223372036854775808 ≤ 1 - (L 119 (i3 - 1)) ∧ 1 - (L 119 (i3 - 1)) ≤ 9223372036854775807 then (stI (w2 L 119 (i3 - 1) (1 - (L 119 (i3 - 1)))) (fun L_196 => (if -2147483648 ≤ i4 + 1 ∧ i4 + 1 ≤ 2147483647 then (kf_248 n dp e 2 I L_196 i1 i2 i3 (i4 + 1) v_36 v_53) else none))) else none) else none) else none) else none) else (if -2147483648 ≤ i3 - 1 ∧ i3 - 1 ≤ 2147483647 then (if 0 ≤ (i3 - 1) ∧ (i3 - 1) < 400 then (if v_36 = 28 then (if (L 119 (i3 - 1)) = 0 then (kf_248 n dp e 2 I L i1 i2 i3 v_53 v_36 v_53) else (if (-2147483648 ≤ i3 + (-1) ∧ i3 + (-1) ≤ 2147483647) ∧ (-2147483648 ≤ i4 + 1 ∧ i4 + 1 ≤ 2147483647) then (kf_248 n dp e 2 I L i1 i2 (i3 + (-1)) (i4 + 1) v_36 v_53) else none)) else (if (L 119 (i3 - 1)) = 1 then (kf_248 n dp e 2 I L i1 i2 i3 v_53 v_36 v_53) else (if (-2147483648 ≤ i3 + (-1) ∧ i3 + (-1) ≤ 2147483647) ∧ (-2147483648 ≤ i4 + 1 ∧ i4 + 1 ≤ 2147483647) then (kf_248 n dp e 2 I L i1 i2 (i3 + (-1)) (i4 + 1) v_36 v_53) else none))) else none) else none)) else (if (-2147483648 ≤ i3 + (-1) ∧ i3 + (-1) ≤ 2147483647) ∧ (-2147483648 ≤ (i3 + (-1)) - 1 ∧ (i3 + (-1)) - 1 ≤ 2147483647) then (if 0 ≤ ((i3 + (-1)) - 1) ∧ ((i3 + (-1)) - 1) < 400 then (if 0 ≤ (i3 + (-1)) ∧ (i3 + (-1)) < 400 then (if 1 ≤ dp then ((kf_249 n (dp - 1) e 0 I L v_36 (L 119 ((i3 + (-1)) - 1)) (L 119 (i3 + (-1)))).bind (fun ⟨x0_129, I0_129, L0_129⟩ => (if 0 ≤ ((i3 + (-1)) - 1) ∧ ((i3 + (-1)) - 1) < 400 then (stI (w2 L0_129 119 ((i3 + (-1)) - 1) x0_129) (fun L_132 => (if (I0_129 105 29) = 0 then (if 0 ≤ ((i3 + (-1)) - 1) ∧ ((i3 + (-1)) - 1) < 400 then (if 1 ≤ dp then ((kf_193 n (dp - 1) e 0 I0_129 L_132 (L_132 119 ((i3 + (-1)) - 1)) (-1000000000) 1000000000).bind (fun ⟨x1_155, I1_155, L1_155⟩ => (if x1_155 = 0 then (stI (w2 I1_155 105 29 1) (fun I_166 => (if -2147483648 ≤ i4 + 1 ∧ i4 + 1 ≤ 2147483647 then (kf_248 n dp e 2 I_166 L1_155 i1 i2 (i3 + (-1)) (i4 + 1) v_36 v_53) else none))) else (stI (w2 I1_155 105 29 0) (fun I_166 => (if -2147483648 ≤ i4 + 1 ∧ i4 + 1 ≤ 2147483647 then (kf_248 n dp e 2 I_166 L1_155 i1 i2 (i3 + (-1)) (i4 + 1) v_36 v_53) else none)))))) else none) else none) else (stI (w2 I0_129 105 29 1) (fun I_166 => (if -2147483648 ≤ i4 + 1 ∧ i4 + 1 ≤ 2147483647 then (kf_248 n dp e 2 I_166 L_132 i1 i2 (i3 + (-1)) (i4 + 1) v_36 v_53) else none)))))) else none))) else none) else none) else none) else none)) else (if v_36 = 0 then (if 0 ≤ i3 ∧ i3 < 400 then (stI (w2 L 119 i3 v_53) (fun L_88 => (if (-2147483648 ≤ i3 + 1 ∧ i3 + 1 ≤ 2147483647) ∧ (-2147483648 ≤ i4 + 1 ∧ i4 + 1 ≤ 2147483647) then (kf_248 n dp e 2 I L_88 i1 i2 (i3 + 1) (i4 + 1) v_36 v_53) else none))) else none) else (if 0 ≤ v_36 ∧ v_36 < 13 then (if 0 ≤ i3 ∧ i3 < 400 then (stI (w2 L 119 i3 (L 118 v_36)) (fun L_88 => (if (-2147483648 ≤ i3 + 1 ∧ i3 + 1 ≤ 2147483647) ∧ (-2147483648 ≤ i4 + 1 ∧ i4 + 1 ≤ 2147483647) then (kf_248 n dp e 2 I L_88 i1 i2 (i3 + 1) (i4 + 1) v_36 v_53) else none))) else none) else none))))) else none) else none))) else none) else none) else (kf_248 n dp e 3 I L i1 i2 i3 i4 0 0)))) P_) : Ev (fun n => kf_248 n dp e 1 I L i1 i2 i3 i4 i5 i6) P_ := Ev_step (fun n => ke_248_1 n dp e I L i1 i2 i3 i4 i5 i6) h
set_option maxRecDepth 100000 in
theorem ev_248_3 {dp : Nat} {e : EN} {I : JI} {L : JI} {i1 : Int} {i2 : Int} {i3 : Int} {i4 : Int} {i5 : Int} {i6 : Int} {P_ : (JI × JI) → Prop} (h : Ev (fun n => (if i3 ≤ 0 then (stI (w2 L 105 30 0) (fun L_252 => (some (I, L_252)))) else (stI (w2 L 105 30 (L 119 0)) (fun L_252 => (some (I, L_252)))))) P_) : Ev (fun n => kf_248 n dp e 3 I L i1 i2 i3 i4 i5 i6) P_ := Ev_step (fun n => ke_248_3 n dp e I L i1 i2 i3 i4 i5 i6) h
end
/-! RECKON: the reference's steps -/
section RECK
variable {dp : Nat} {e : EN}
theorem K249 {K L : JI} {o a b : Int} (ho : 20 ≤ o ∧ o ≤ 26) (ha : -1000000000 ≤ a ∧ a ≤ 1000000000) (hb : -1000000000 ≤ b ∧ b ≤ 1000000000) (h0 : K 105 29 = 0) : Ev (fun n => kf_249 n dp e 0 K L o a b) (fun r => r.2.2 = L ∧ (∀ a i, ¬ (a = 105 ∧ i = 29) → r.2.1 a i = K a i) ∧ ((jn (o - 18) a b = none ∧ (r.2.1 105 29 = 1 ∨ (r.2.1 105 29 = 0 ∧ (1000000000 < r.1 ∨ r.1 < -1000000000)))) ∨ (∃ w, jn (o - 18) a b = some w ∧ r.1 = w ∧ r.2.1 105 29 = 0))) := by
  have mr := mul_rg ha hb
  have fin : ∀ v, (jn (o - 18) a b = none → 1000000000 < v ∨ v < -1000000000) → (∀ w, jn (o - 18) a b = some w → v = w) → Ev (fun _ : Nat => some (v, K, L)) (fun r => r.2.2 = L ∧ (∀ a i, ¬ (a = 105 ∧ i = 29) → r.2.1 a i = K a i) ∧ ((jn (o - 18) a b = none ∧ (r.2.1 105 29 = 1 ∨ (r.2.1 105 29 = 0 ∧ (1000000000 < r.1 ∨ r.1 < -1000000000)))) ∨ (∃ w, jn (o - 18) a b = some w ∧ r.1 = w ∧ r.2.1 105 29 = 0))) := by
    intro v h1 h2
    refine Ev_ret ⟨rfl, fun _ _ _ => rfl, ?_⟩
    cases ej : jn (o - 18) a b with
    | none => exact Or.inl ⟨rfl, Or.inr ⟨h0, h1 ej⟩⟩
    | some w => exact Or.inr ⟨w, rfl, h2 w ej, h0⟩
  refine ev_249_0 ?_
  unfold jn at *
  refine Ev_c (fun c => Ev_t (by omega) ?_) (fun c => ?_)
  · simp only [if_pos (show o - 18 = 2 by omega)] at fin ⊢
    refine fin _ (fun h => ?_) (fun w h => ?_)
    · split at h
      · omega
      · cases h
    · split at h
      · cases h
      · cases h; rfl
  simp only [if_neg (show ¬ o - 18 = 2 by omega)] at fin ⊢
  refine Ev_c (fun c => Ev_t (by omega) ?_) (fun c => ?_)
  · simp only [if_pos (show o - 18 = 3 by omega)] at fin ⊢
    refine fin _ (fun h => ?_) (fun w h => ?_)
    · split at h
      · omega
      · cases h
    · split at h
      · cases h
      · cases h; rfl
  simp only [if_neg (show ¬ o - 18 = 3 by omega)] at fin ⊢
  refine Ev_c (fun c => Ev_t (by omega) ?_) (fun c => ?_)
  · simp only [if_pos (show o - 18 = 4 by omega)] at fin ⊢
    refine fin _ (fun h => ?_) (fun w h => ?_)
    · split at h
      · omega
      · cases h
    · split at h
      · cases h
      · cases h; rfl
  simp only [if_neg (show ¬ o - 18 = 4 by omega)] at fin ⊢
  refine Ev_c (fun c => ?_) (fun c => ?_)
  · simp only [if_pos (show o - 18 = 5 by omega)] at fin ⊢
    refine Ev_c (fun d => Ev_st ?_) (fun d => Ev_st ?_)
    · simp only [if_pos (show b = 0 ∨ Int.tdiv a b < -1000000000 ∨ 1000000000 < Int.tdiv a b from Or.inl d)]
      refine Ev_f (by show ¬ ((1 : Int) = 0); decide) (Ev_ret ⟨rfl, fun a i h => by dsimp only; exact w2_n h, Or.inl ⟨trivial, Or.inl (by dsimp only; rw [w2_ap, if_pos ⟨rfl, rfl⟩])⟩⟩)
    · rw [w2_idv h0]
      refine Ev_t h0 (Ev_t d (Ev_t (by omega) ?_))
      refine fin _ (fun h => ?_) (fun w h => ?_)
      · split at h
        · omega
        · cases h
      · split at h
        · cases h
        · cases h; rfl
  simp only [if_neg (show ¬ o - 18 = 5 by omega)] at fin ⊢
  refine Ev_c (fun c => ?_) (fun c => ?_)
  · simp only [if_pos (show o - 18 = 6 by omega)] at fin ⊢
    refine Ev_c (fun d => ?_) (fun d => ?_)
    · simp only [if_neg (show ¬ a < b by omega)] at fin ⊢; exact fin 0 (fun h => (nomatch h)) (fun w h => by cases h; rfl)
    · simp only [if_pos (show a < b by omega)] at fin ⊢; exact fin 1 (fun h => (nomatch h)) (fun w h => by cases h; rfl)
  simp only [if_neg (show ¬ o - 18 = 6 by omega)] at fin ⊢
  refine Ev_c (fun c => ?_) (fun c => ?_)
  · simp only [if_pos (show o - 18 = 7 by omega)] at fin ⊢
    refine Ev_c (fun d => ?_) (fun d => ?_)
    · simp only [if_neg (show ¬ b < a by omega)] at fin ⊢; exact fin 0 (fun h => (nomatch h)) (fun w h => by cases h; rfl)
    · simp only [if_pos (show b < a by omega)] at fin ⊢; exact fin 1 (fun h => (nomatch h)) (fun w h => by cases h; rfl)
  simp only [if_neg (show ¬ o - 18 = 7 by omega)] at fin ⊢
  refine Ev_c (fun d => ?_) (fun d => ?_)
  · simp only [if_pos d] at fin ⊢; exact fin 1 (fun h => (nomatch h)) (fun w h => by cases h; rfl)
  · simp only [if_neg d] at fin ⊢; exact fin 0 (fun h => (nomatch h)) (fun w h => by cases h; rfl)
theorem nrm_i {o x : Int} (h : Wf (nrm o x)) : (o = 0 ∧ nrm o x = (0, x)) ∨ ((1 ≤ o ∧ o ≤ 5) ∧ nrm o x = (1, o - 1)) ∨ ((20 ≤ o ∧ o ≤ 26) ∧ nrm o x = (o - 18, 0)) ∨ (o = 27 ∧ nrm o x = (9, 0)) ∨ (o = 28 ∧ nrm o x = (11, x)) ∨ (29 ≤ o ∧ nrm o x = (10, x)) := by
  unfold nrm at *
  by_cases c0 : o = 0
  · rw [if_pos c0]; exact Or.inl ⟨c0, rfl⟩
  rw [if_neg c0] at *
  by_cases c1 : o < 20
  · rw [if_pos c1] at *
    have := h.2.2 rfl
    dsimp only at this
    exact Or.inr (Or.inl ⟨by omega, rfl⟩)
  rw [if_neg c1] at *
  by_cases c2 : o < 27
  · rw [if_pos c2] at *; exact Or.inr (Or.inr (Or.inl ⟨by omega, rfl⟩))
  rw [if_neg c2] at *
  by_cases c3 : o = 27
  · rw [if_pos c3]; exact Or.inr (Or.inr (Or.inr (Or.inl ⟨c3, rfl⟩)))
  rw [if_neg c3] at *
  by_cases c4 : o = 28
  · rw [if_pos c4]; exact Or.inr (Or.inr (Or.inr (Or.inr (Or.inl ⟨c4, rfl⟩))))
  rw [if_neg c4] at *
  exact Or.inr (Or.inr (Or.inr (Or.inr (Or.inr ⟨by omega, rfl⟩))))
def FrN (K L K' L' : JI) : Prop := (∀ a i, ¬ (a = 105 ∧ i = 29) → K' a i = K a i) ∧ ∀ a i, ¬ a = 119 → L' a i = L a i
theorem R248 {K L : JI} {a b : Int} {d : Den} {h : Nat} {φ : Int → Int} {x1 x2 x3 x4 : Int} (hd : 1 ≤ dp) (hs : Seg (cR (K 107)) a b d h) (hh : h ≤ 50) (ha : 0 ≤ a) (hb : b ≤ 400) (hf : Fg φ) (hφ : ∀ i, 0 ≤ i → i < 5 → L 118 (i + 1) = φ i) : Ev (fun n => kf_248 n dp e 0 K L a b x1 x2 x3 x4) (fun r => (∀ a i, ¬ (a = 105 ∧ i = 29) → r.1 a i = K a i) ∧ (∀ a i, ¬ a = 119 → ¬ (a = 105 ∧ i = 30) → r.2 a i = L a i) ∧ ((∃ v, d φ = some v ∧ r.2 105 30 = v ∧ r.1 105 29 = 0) ∨ (d φ = none ∧ r.1 105 29 = 1))) := by
  obtain ⟨l1, l2, l3, l4⟩ := hs
  have key := l4 φ hf (fun p s => ∀ (K' L' : JI), FrN K L K' L' → K' 105 29 = 0 → Stk (L' 119) s → a ≤ p → p ≤ b → Ev (fun n => kf_248 n dp e 1 K' L' a b s.length p 0 0) (fun r => (∀ a i, ¬ (a = 105 ∧ i = 29) → r.1 a i = K a i) ∧ (∀ a i, ¬ a = 119 → ¬ (a = 105 ∧ i = 30) → r.2 a i = L a i) ∧ ((∃ v, d φ = some v ∧ r.2 105 30 = v ∧ r.1 105 29 = 0) ∨ (d φ = none ∧ r.1 105 29 = 1)))) (d φ = none) 50 ?_ [] ⟨by simp, fun v hv => (nomatch hv)⟩ (by simp only [List.length_nil]; omega) ⟨fun h => h, fun v hv K' L' f1 f2 f3 p1 p2 => ?_⟩
  · refine ev_248_0 ?_
    refine Ev_st (key (w2 K 105 29 0) L ⟨fun a i h => w2_n h, fun _ _ _ => rfl⟩ rfl trivial (by omega) (by omega))
  · intro p s pa pb wf gd af K' L' f1 f2 f3 _ _
    have gl := gd.1
    have c0 : K' 107 (664 + 2 * p) = K 107 (664 + 2 * p) := f1.1 _ _ (by omega)
    have c1 : K' 107 (664 + 2 * p + 1) = K 107 (664 + 2 * p + 1) := f1.1 _ _ (by omega)
    have two : ∀ (K2 L2 : JI) (q : Int) (u : List Int) (y z : Int), FrN K L K2 L2 → K2 105 29 = 0 → Stk (L2 119) u → p < q → q ≤ b → (∀ (K' L' : JI), FrN K L K' L' → K' 105 29 = 0 → Stk (L' 119) u → a ≤ q → q ≤ b → Ev (fun n => kf_248 n dp e 1 K' L' a b u.length q 0 0) (fun r => (∀ a i, ¬ (a = 105 ∧ i = 29) → r.1 a i = K a i) ∧ (∀ a i, ¬ a = 119 → ¬ (a = 105 ∧ i = 30) → r.2 a i = L a i) ∧ ((∃ v, d φ = some v ∧ r.2 105 30 = v ∧ r.1 105 29 = 0) ∨ (d φ = none ∧ r.1 105 29 = 1)))) → Ev (fun n => kf_248 n dp e 2 K2 L2 a b u.length q y z) (fun r => (∀ a i, ¬ (a = 105 ∧ i = 29) → r.1 a i = K a i) ∧ (∀ a i, ¬ a = 119 → ¬ (a = 105 ∧ i = 30) → r.2 a i = L a i) ∧ ((∃ v, d φ = some v ∧ r.2 105 30 = v ∧ r.1 105 29 = 0) ∨ (d φ = none ∧ r.1 105 29 = 1))) := by
      intro K2 L2 q u y z k1 k2 k3 k4 k5 k6
      refine ev_248_2 ?_
      exact k6 K2 L2 k1 k2 k3 (by omega) k5
    have pL : ∀ (k v : Int), FrN K L K' (w2 L' 119 k v) := fun k v => ⟨f1.1, fun a i h => by rw [w2_n (by omega)]; exact f1.2 a i h⟩
    unfold stp at af
    refine ev_248_1 ?_
    refine Ev_f (by omega) (Ev_t f2 (Ev_t (by omega) (Ev_t (by omega) (Ev_st (Ev_t (by omega) (Ev_t (by omega) (Ev_st ?_)))))))
    rw [c0, c1]
    have wf' : Wf (nrm (K 107 (664 + 2 * p)) (K 107 (664 + 2 * p + 1))) := wf
    have ecr : cR (K 107) p = nrm (K 107 (664 + 2 * p)) (K 107 (664 + 2 * p + 1)) := rfl
    rw [ecr] at af
    generalize K 107 (664 + 2 * p) = o at *
    generalize K 107 (664 + 2 * p + 1) = xx at *
    rcases nrm_i wf' with ⟨ho, hn⟩ | ⟨ho, hn⟩ | ⟨ho, hn⟩ | ⟨ho, hn⟩ | ⟨ho, hn⟩ | ⟨ho, hn⟩
    · subst ho
      rw [hn, if_pos rfl] at af
      obtain ⟨q1, q2, q3, q4⟩ := af.2 _ rfl
      dsimp only at q1 q2 q3 q4
      have g3 := q3.1
      simp only [List.length_cons] at g3
      refine Ev_f (by decide) (Ev_t rfl (Ev_t (by omega) (Ev_st (Ev_t (by omega) ?_))))
      have := two K' (w2 L' 119 s.length xx) (p + 1) (xx :: s) 0 xx (pL _ _) f2 ⟨by rw [w2_ap, if_pos ⟨rfl, rfl⟩], Stk_c s (fun i i0 i1 => w2_n (by omega)) f3⟩ q1 q2 q4
      exact this
    · rw [hn, if_neg (by dsimp only; decide), if_pos rfl] at af
      obtain ⟨q1, q2, q3, q4⟩ := af.2 _ rfl
      dsimp only at q1 q2 q3 q4
      have g3 := q3.1
      simp only [List.length_cons] at g3
      have ef : L' 118 o = φ (o - 1) := by
        rw [f1.2 _ _ (by omega)]
        have := hφ (o - 1) (by omega) (by omega)
        rw [show o - 1 + 1 = o by omega] at this
        exact this
      rw [ef]
      refine Ev_f (by omega) (Ev_f (by omega) (Ev_t (by omega) (Ev_t (by omega) (Ev_st (Ev_t (by omega) ?_)))))
      have := two K' (w2 L' 119 s.length (φ (o - 1))) (p + 1) (φ (o - 1) :: s) o xx (pL _ _) f2 ⟨by rw [w2_ap, if_pos ⟨rfl, rfl⟩], Stk_c s (fun i i0 i1 => w2_n (by omega)) f3⟩ q1 q2 q4
      exact this
    · rw [hn, if_neg (by dsimp only; omega), if_neg (by dsimp only; omega), if_neg (by dsimp only; omega), if_neg (by dsimp only; omega)] at af
      cases s with
      | nil => have := (af.2 _ rfl).1; dsimp only at this; omega
      | cons y s =>
        cases s with
        | nil => have := (af.2 _ rfl).1; dsimp only at this; omega
        | cons x s =>
          obtain ⟨f31, f32, f33⟩ := f3
          have gl' := gl
          have gy := gd.2 y (List.mem_cons_self ..)
          have gx := gd.2 x (List.mem_cons_of_mem _ (List.mem_cons_self ..))
          simp only [List.length_cons] at gl' f31 ⊢
          have e1 : ((s.length + 1 + 1 : Nat) : Int) + (-1) - 1 = s.length := by omega
          have e2 : ((s.length + 1 + 1 : Nat) : Int) + (-1) = ((s.length + 1 : Nat) : Int) := by omega
          refine Ev_t (by omega) (Ev_f (by omega) (Ev_t (by omega) (Ev_t (by omega) (Ev_t (by omega) (Ev_t hd ?_)))))
          rw [e1, e2, f31, f32]
          refine Ev_bind (K249 ho gx gy f2) ?_
          rintro ⟨v, K2, L2⟩ ⟨v1, v2, v3⟩
          dsimp only at v1 v2 v3 af ⊢
          subst v1
          have vn : (w2 L2 119 s.length v) 119 s.length = v := by rw [w2_ap, if_pos ⟨rfl, rfl⟩]
          have brk : ∀ (K3 L3 : JI) , jn (o - 18) x y = none → (∀ a i, ¬ (a = 105 ∧ i = 29) → K3 a i = K2 a i) → K3 105 29 = 1 → (∀ a i, ¬ a = 119 → L3 a i = L2 a i) → Ev (fun n => kf_248 n dp e 2 K3 L3 a b ((s.length + 1 : Nat) : Int) (p + 1) o xx) (fun r => (∀ a i, ¬ (a = 105 ∧ i = 29) → r.1 a i = K a i) ∧ (∀ a i, ¬ a = 119 → ¬ (a = 105 ∧ i = 30) → r.2 a i = L a i) ∧ ((∃ v, d φ = some v ∧ r.2 105 30 = v ∧ r.1 105 29 = 0) ∨ (d φ = none ∧ r.1 105 29 = 1))) := by
            intro K3 L3 ej k1 k2 k3
            rw [ej] at af
            have dn := af.1 rfl
            have sev : ∀ t, Ev (fun n => kf_248 n dp e 3 K3 L3 a b ((s.length + 1 : Nat) : Int) t 0 0) (fun r => (∀ a i, ¬ (a = 105 ∧ i = 29) → r.1 a i = K a i) ∧ (∀ a i, ¬ a = 119 → ¬ (a = 105 ∧ i = 30) → r.2 a i = L a i) ∧ ((∃ v, d φ = some v ∧ r.2 105 30 = v ∧ r.1 105 29 = 0) ∨ (d φ = none ∧ r.1 105 29 = 1))) := by
              intro t
              refine ev_248_3 ?_
              refine Ev_f (by omega) (Ev_st (Ev_ret ⟨fun a i h => ?_, fun a i h1 h2 => ?_, Or.inr ⟨dn, k2⟩⟩))
              · dsimp only; rw [k1 a i h, v2 a i h]; exact f1.1 a i h
              · dsimp only
                rw [w2_n h2, k3 a i h1]; exact f1.2 a i h1
            refine ev_248_2 ?_
            refine ev_248_1 ?_
            exact Ev_c (fun _ => sev _) (fun _ => Ev_f (by rw [k2]; decide) (sev _))
          refine Ev_t (by omega) (Ev_st ?_)
          rcases v3 with ⟨ej, v4 | ⟨v4, v5⟩⟩ | ⟨w, ej, vw, v4⟩
          · refine Ev_f (by rw [v4]; decide) (Ev_st (Ev_t (by omega) ?_))
            exact brk _ _ ej (fun a i h => w2_n h) (by rw [w2_ap, if_pos ⟨rfl, rfl⟩]) (fun a i h => w2_n (by omega))
          · refine Ev_t v4 (Ev_t (by omega) (Ev_t hd ?_))
            rw [vn]
            refine Ev193f (by omega) ?_
            dsimp only
            refine Ev_t rfl (Ev_st (Ev_t (by omega) ?_))
            exact brk _ _ ej (fun a i h => w2_n h) (by rw [w2_ap, if_pos ⟨rfl, rfl⟩]) (fun a i h => w2_n (by omega))
          · have jb := jn_b ej
            rw [ej] at af
            obtain ⟨q1, q2, q3, q4⟩ := af.2 _ rfl
            dsimp only at q1 q2 q3 q4
            subst vw
            refine Ev_t v4 (Ev_t (by omega) (Ev_t hd ?_))
            rw [vn]
            refine Ev193t (by omega) ?_
            dsimp only
            refine Ev_f (by decide) (Ev_st (Ev_t (by omega) ?_))
            have := two (w2 K2 105 29 0) (w2 L2 119 s.length v) (p + 1) (v :: s) o xx ⟨fun a i h => by rw [w2_n h, v2 a i h]; exact f1.1 a i h, fun a i h => by rw [w2_n (by omega)]; exact f1.2 a i h⟩ (by rw [w2_ap, if_pos ⟨rfl, rfl⟩]) ⟨vn, Stk_c s (fun i i0 i1 => w2_n (by omega)) f33⟩ q1 q2 q4
            simp only [List.length_cons] at this
            exact this
    · subst ho
      rw [hn, if_neg (by dsimp only; decide), if_neg (by dsimp only; decide), if_pos rfl] at af
      cases s with
      | nil => have := (af.2 _ rfl).1; dsimp only at this; omega
      | cons v s =>
        obtain ⟨q1, q2, q3, q4⟩ := af.2 _ rfl
        dsimp only at q1 q2 q3 q4
        have g3 := q3.1
        have gv := gd.2 v (List.mem_cons_self ..)
        obtain ⟨f31, f32⟩ := f3
        simp only [List.length_cons] at g3 ⊢
        have e1 : (((s.length + 1 : Nat) : Int) - 1) = s.length := by omega
        rw [e1, f31]
        refine Ev_t (by decide) (Ev_t (by decide) (Ev_t (by first | trivial | rfl) (Ev_t (by omega) (Ev_t (by omega) (Ev_t (by omega) (Ev_t (by omega) (Ev_st (Ev_t (by omega) ?_))))))))
        have := two K' (w2 L' 119 s.length (1 - v)) (p + 1) ((1 - v) :: s) 27 xx (pL _ _) f2 ⟨by rw [w2_ap, if_pos ⟨rfl, rfl⟩], Stk_c s (fun i i0 i1 => w2_n (by omega)) f32⟩ q1 q2 q4
        simp only [List.length_cons] at this
        exact this
    · subst ho
      rw [hn, if_neg (by dsimp only; decide), if_neg (by dsimp only; decide), if_neg (by dsimp only; decide), if_pos (Or.inr rfl)] at af
      cases s with
      | nil => have := (af.2 _ rfl).1; dsimp only at this; omega
      | cons v s =>
        obtain ⟨f31, f32⟩ := f3
        have gl' := gl
        simp only [List.length_cons] at gl' ⊢
        have e1 : (((s.length + 1 : Nat) : Int) - 1) = s.length := by omega
        have e4 : ((s.length + 1 : Nat) : Int) + (-1) = s.length := by omega
        rw [e1, f31, e4]
        dsimp only at af
        rw [if_neg (show ¬ ((11 : Int) = 10) by decide)] at af
        refine Ev_t (by decide) (Ev_t (by decide) (Ev_f (by decide) (Ev_t (by omega) (Ev_t (by omega) (Ev_t (by first | trivial | rfl) ?_)))))
        refine Ev_c (fun c => ?_) (fun c => Ev_t (by omega) ?_)
        · rw [if_pos c] at af
          obtain ⟨q1, q2, q3, q4⟩ := af.2 _ rfl
          have := two K' L' xx (v :: s) 28 xx f1 f2 ⟨f31, f32⟩ q1 q2 q4
          simp only [List.length_cons] at this
          exact this
        · rw [if_neg c] at af
          obtain ⟨q1, q2, q3, q4⟩ := af.2 _ rfl
          exact two K' L' (p + 1) s 28 xx f1 f2 f32 q1 q2 q4
    · rw [hn, if_neg (by dsimp only; decide), if_neg (by dsimp only; decide), if_neg (by dsimp only; decide), if_pos (Or.inl rfl)] at af
      cases s with
      | nil => have := (af.2 _ rfl).1; dsimp only at this; omega
      | cons v s =>
        obtain ⟨f31, f32⟩ := f3
        have gl' := gl
        simp only [List.length_cons] at gl' ⊢
        have e1 : (((s.length + 1 : Nat) : Int) - 1) = s.length := by omega
        have e4 : ((s.length + 1 : Nat) : Int) + (-1) = s.length := by omega
        rw [e1, f31, e4]
        dsimp only at af
        rw [if_pos (show ((10 : Int) = 10) from rfl)] at af
        refine Ev_t (by omega) (Ev_t (by omega) (Ev_f (by omega) (Ev_t (by omega) (Ev_t (by omega) (Ev_f (by omega) ?_)))))
        refine Ev_c (fun c => ?_) (fun c => Ev_t (by omega) ?_)
        · rw [if_pos c] at af
          obtain ⟨q1, q2, q3, q4⟩ := af.2 _ rfl
          have := two K' L' xx (v :: s) o xx f1 f2 ⟨f31, f32⟩ q1 q2 q4
          simp only [List.length_cons] at this
          exact this
        · rw [if_neg c] at af
          obtain ⟨q1, q2, q3, q4⟩ := af.2 _ rfl
          exact two K' L' (p + 1) s o xx f1 f2 f32 q1 q2 q4
  · have sev : Ev (fun n => kf_248 n dp e 3 K' L' a b 1 b 0 0) (fun r => (∀ a i, ¬ (a = 105 ∧ i = 29) → r.1 a i = K a i) ∧ (∀ a i, ¬ a = 119 → ¬ (a = 105 ∧ i = 30) → r.2 a i = L a i) ∧ ((∃ v, d φ = some v ∧ r.2 105 30 = v ∧ r.1 105 29 = 0) ∨ (d φ = none ∧ r.1 105 29 = 1))) := by
      refine ev_248_3 ?_
      refine Ev_f (by decide) (Ev_st (Ev_ret ⟨f1.1, fun a i h1 h2 => ?_, Or.inl ⟨v, hv, ?_, f2⟩⟩))
      · dsimp only; rw [w2_n h2]; exact f1.2 a i h1
      · dsimp only; rw [w2_ap, if_pos ⟨rfl, rfl⟩]; exact f3.1
    show Ev (fun n => kf_248 n dp e 1 K' L' a b 1 b 0 0) _
    refine ev_248_1 ?_
    exact Ev_t (by omega) sev
end RECK
