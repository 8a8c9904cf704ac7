/-! RECALL of the class -/
section RC
variable {dp : Nat} {e : EN} {I : Nat → Nat → Int32} {L : Nat → Nat → Int64}
theorem l7 : (7 : Int32) = nI 7 := rfl
theorem l5 : (5 : Int32) = nI 5 := rfl
theorem l4 : (4 : Int32) = nI 4 := rfl
theorem l3 : (3 : Int32) = nI 3 := rfl
theorem l2 : (2 : Int32) = nI 2 := rfl
theorem E177 {a b : Nat} (ha : a < 16) (hb : b < 16) : Ev (fun n => g_177 n dp e 0 I L (nI a * 7) (nI b * 7)) (fun r => r = (pif (tch (I 7) a b) 1 0, I, L)) := by
  have e1 : ∀ k, nI a * nI 7 + nI k = nI (7 * a + k) := fun k => by rw [pk_mul, nI_add, Nat.mul_comm]
  have e2 : ∀ k, nI b * nI 7 + nI k = nI (7 * b + k) := fun k => by rw [pk_mul, nI_add, Nat.mul_comm]
  refine Ev_step (fun n => e_177_0 n _ _ _ _ _ _) ?_
  simp only [l7, l5, l2, l3, l4, e1, e2, nI_clamp (show 7 * a + 5 < 2 ^ 31 by omega), nI_clamp (show 7 * b + 5 < 2 ^ 31 by omega), nI_clamp (show 7 * a + 2 < 2 ^ 31 by omega), nI_clamp (show 7 * b + 2 < 2 ^ 31 by omega), nI_clamp (show 7 * a + 3 < 2 ^ 31 by omega), nI_clamp (show 7 * b + 3 < 2 ^ 31 by omega), nI_clamp (show 7 * a + 4 < 2 ^ 31 by omega), nI_clamp (show 7 * b + 4 < 2 ^ 31 by omega)]
  refine Ev_t ⟨nI_pos' (by omega), by omega⟩ (Ev_t ⟨nI_pos' (by omega), by omega⟩ (Ev_c (fun h1 => ?_) (fun h1 => ?_)))
  · refine Ev_t ⟨nI_pos' (by omega), by omega⟩ (Ev_t ⟨nI_pos' (by omega), by omega⟩ (Ev_c (fun h2 => ?_) (fun h2 => ?_)))
    · refine Ev_t ⟨nI_pos' (by omega), by omega⟩ (Ev_t ⟨nI_pos' (by omega), by omega⟩ (Ev_c (fun h3 => ?_) (fun h3 => ?_)))
      · refine Ev_t ⟨nI_pos' (by omega), by omega⟩ (Ev_t ⟨nI_pos' (by omega), by omega⟩ (Ev_c (fun h4 => ?_) (fun h4 => ?_)))
        · exact Ev_ret (by rw [pif_t (show tch (I 7) a b from Or.inr ⟨h2, h3, h4⟩)])
        · exact Ev_ret (by rw [pif_f (fun q => q.elim (fun z => z h1) (fun z => h4 z.2.2))])
      · exact Ev_ret (by rw [pif_f (fun q => q.elim (fun z => z h1) (fun z => h3 z.2.1))])
    · exact Ev_ret (by rw [pif_f (fun q => q.elim (fun z => z h1) (fun z => h2 z.1))])
  · exact Ev_ret (by rw [pif_t (show tch (I 7) a b from Or.inl h1)])
/-- touchesRound -/
theorem E176 (hd : 1 ≤ dp) {N b : Nat} {q : Int32} (hN : I 1 9 = nI N) (hN2 : N ≤ 16) (hb : b < 16) : Ev (fun n => g_176 n dp e 0 I L (nI b) q 0) (fun r => r = (pif (∃ o, o < N ∧ I 88 o = q ∧ tch (I 7) b o) 1 0, I, L)) := by
  refine Ev_step (fun n => e_176_0 n _ _ _ _ _ _ _) ?_
  have key : ∀ i, i ≤ N → (∀ o, o < i → ¬ (I 88 o = q ∧ tch (I 7) b o)) → Ev (fun n => g_176 n dp e 1 I L (nI b) q (nI i)) (fun r => r = (pif (∃ o, o < N ∧ I 88 o = q ∧ tch (I 7) b o) 1 0, I, L)) := by
    refine dec_ind N (fun i hi ih hno => ?_)
    refine Ev_step (fun n => e_176_1 n _ _ _ _ _ _ _) ?_
    rw [hN]
    by_cases hiN : i < N
    · have next : (∀ o, o < i + 1 → ¬ (I 88 o = q ∧ tch (I 7) b o)) → Ev (fun n => g_176 n dp e 2 I L (nI b) q (nI i)) (fun r => r = (pif (∃ o, o < N ∧ I 88 o = q ∧ tch (I 7) b o) 1 0, I, L)) := by
        intro h
        refine Ev_step (fun n => e_176_2 n _ _ _ _ _ _ _) ?_
        rw [i1, nI_add]
        exact ih hiN h
      have ext : ¬ (I 88 i = q ∧ tch (I 7) b i) → ∀ o, o < i + 1 → ¬ (I 88 o = q ∧ tch (I 7) b o) := fun h o ho => by
        by_cases e : o = i
        · rw [e]; exact h
        · exact hno o (by omega)
      refine Ev_f (nle (by omega) (by omega)) (Ev_t (ixn (by omega) (by decide)) ?_)
      rw [nI_clamp (show i < 2 ^ 31 by omega)]
      refine Ev_c (fun h1 => ?_) (fun h1 => next (ext (fun z => h1 z.1)))
      refine Ev_t hd (Ev_call (E177 hb (by omega)) ?_)
      dsimp only
      by_cases ht : tch (I 7) b i
      · rw [pif_t ht]
        refine Ev_f (by decide) (Ev_ret ?_)
        rw [pif_t ⟨i, hiN, h1, ht⟩]
      · rw [pif_f ht]
        exact Ev_t rfl (next (ext (fun z => ht z.2)))
    · refine Ev_t (nI_le (by omega) (by omega)) (Ev_ret ?_)
      rw [pif_f]
      rintro ⟨o, ho, h⟩
      exact hno o (by omega) h
  exact key 0 (by omega) (fun o ho => by omega)
theorem rnd_eqN {f : Nat → Int32} {N : Nat} {cs : Int32} {r : Nat} (hr : r < 2 ^ 29) (hn : N ≤ r + 1) : ∀ b, b < N → rnd f N cs r b = rnd f N cs N b := by
  intro b hb
  by_cases h : N ≤ r
  · have := rnd_end (f := f) (n := N) (cs := cs) (r := N) (by omega) (by omega) (r - N) b hb
    rw [show N + (r - N) = r by omega] at this
    exact this
  · have := rnd_end (f := f) (n := N) (cs := cs) (r := r) hr hn 1 b hb
    rw [show r + 1 = N by omega] at this
    exact this.symm
theorem E175 (hd : 2 ≤ dp) {N : Nat} {cs : Int32} (hN : I 1 9 = nI N) (hN2 : N ≤ 16) : Ev (fun n => g_175 n dp e 0 I L cs 0 0 0) (fun r => ∃ g, r = (va_up I 88 g, L) ∧ ∀ b, b < N → g b = rnd (I 7) N cs N b) := by
  have hv : ∀ g : Nat → Int32, va_up I 88 g 1 9 = nI N := fun g => hN
  have h7 : ∀ g : Nat → Int32, va_up I 88 g 7 = I 7 := fun g => rfl
  have h8 : ∀ g : Nat → Int32, va_up I 88 g 88 = g := fun g => vu_same
  refine Ev_step (fun n => e_175_0 n _ _ _ _ _ _ _ _) ?_
  -- rounds: label 2 and label 3
  have two : ∀ k s, s + k = 15 → ∀ g more, (∀ b, b < N → g b = rnd (I 7) N cs s b) → (more = 1 ∨ more = 0 ∧ ∀ k b, b < N → rnd (I 7) N cs (s + k) b = rnd (I 7) N cs s b) → Ev (fun n => g_175 n dp e 2 (va_up I 88 g) L cs more (nI (s + 1)) 0) (fun r => ∃ g, r = (va_up I 88 g, L) ∧ ∀ b, b < N → g b = rnd (I 7) N cs N b) := by
    intro k
    induction k with
    | zero =>
      intro s hs g more hg hm
      refine Ev_step (fun n => e_175_2 n _ _ _ _ _ _ _ _) ?_
      refine Ev_t (show nI 16 ≤ nI (s + 1) from nI_le (by omega) (by omega)) (Ev_ret ⟨g, rfl, fun b hb => ?_⟩)
      rw [hg b hb]
      exact rnd_eqN (by omega) (by omega) b hb
    | succ k ih =>
      intro s hs g more hg hm
      refine Ev_step (fun n => e_175_2 n _ _ _ _ _ _ _ _) ?_
      refine Ev_f (show ¬ nI 16 ≤ nI (s + 1) from nle (by omega) (by omega)) ?_
      rcases hm with rfl | ⟨rfl, hst⟩
      · refine Ev_f (by decide) ?_
        -- one round
        have three : ∀ i, i ≤ N → ∀ g more, (∀ b, b < N → g b = if b < i then rnd (I 7) N cs (s + 1) b else rnd (I 7) N cs s b) → (more = 1 ∨ more = 0 ∧ ∀ b, b < i → rnd (I 7) N cs (s + 1) b = rnd (I 7) N cs s b) → Ev (fun n => g_175 n dp e 3 (va_up I 88 g) L cs more (nI (s + 1)) (nI i)) (fun r => ∃ g, r = (va_up I 88 g, L) ∧ ∀ b, b < N → g b = rnd (I 7) N cs N b) := by
          refine dec_ind N (fun i hi ihi => ?_)
          intro g more hg hm
          refine Ev_step (fun n => e_175_3 n _ _ _ _ _ _ _ _) ?_
          rw [hv]
          by_cases hiN : i < N
          · have four : ∀ g more, (∀ b, b < N → g b = if b < i + 1 then rnd (I 7) N cs (s + 1) b else rnd (I 7) N cs s b) → (more = 1 ∨ more = 0 ∧ ∀ b, b < i + 1 → rnd (I 7) N cs (s + 1) b = rnd (I 7) N cs s b) → Ev (fun n => g_175 n dp e 4 (va_up I 88 g) L cs more (nI (s + 1)) (nI i)) (fun r => ∃ g, r = (va_up I 88 g, L) ∧ ∀ b, b < N → g b = rnd (I 7) N cs N b) := by
              intro g more hg hm
              refine Ev_step (fun n => e_175_4 n _ _ _ _ _ _ _ _) ?_
              rw [i1, nI_add]
              exact ihi hiN g more hg hm
            have gi : g i = rnd (I 7) N cs s i := by rw [hg i hiN, if_neg (by omega)]
            have same : rnd (I 7) N cs (s + 1) i = rnd (I 7) N cs s i → (∀ b, b < N → g b = if b < i + 1 then rnd (I 7) N cs (s + 1) b else rnd (I 7) N cs s b) ∧ (more = 1 ∨ more = 0 ∧ ∀ b, b < i + 1 → rnd (I 7) N cs (s + 1) b = rnd (I 7) N cs s b) := by
              intro h
              refine ⟨fun b hb => ?_, ?_⟩
              · by_cases e : b = i
                · rw [e, gi, if_pos (by omega), h]
                · rw [hg b hb]
                  by_cases e2 : b < i
                  · rw [if_pos e2, if_pos (by omega)]
                  · rw [if_neg e2, if_neg (by omega)]
              · rcases hm with rfl | ⟨rfl, hm⟩
                · exact Or.inl rfl
                · refine Or.inr ⟨rfl, fun b hb => ?_⟩
                  by_cases e : b = i
                  · rw [e, h]
                  · exact hm b (by omega)
            refine Ev_f (nle (by omega) (by omega)) (Ev_t (ixn (by omega) (by decide)) ?_)
            rw [nI_clamp (show i < 2 ^ 31 by omega), h8, gi]
            refine Ev_c (fun h1 => ?_) (fun h1 => ?_)
            · refine Ev_t (by omega) ?_
              have hq : nI (s + 1) - 1 = nI s := nI_pred s
              rw [hq]
              refine Ev_call (E176 (by omega) (hv g) hN2 (by omega)) ?_
              dsimp only
              rw [h7, h8]
              have heq : (∃ o, o < N ∧ g o = nI s ∧ tch (I 7) i o) ↔ (∃ o, o < N ∧ rnd (I 7) N cs s o = nI s ∧ tch (I 7) i o) := by
                have one : ∀ o, o < N → (g o = nI s ↔ rnd (I 7) N cs s o = nI s) := by
                  intro o ho
                  rw [hg o ho]
                  by_cases e : o < i
                  · rw [if_pos e]
                    refine ⟨fun h => ?_, fun h => ?_⟩
                    · rcases rnd_succ (f := I 7) (n := N) (cs := cs) (r := s) (b := o) (by omega) with ⟨q1, -⟩ | ⟨q1, -⟩
                      · rw [q1] at h
                        have := (nI_eq (by omega) (by omega)).mp h
                        omega
                      · rw [← q1]; exact h
                    · rw [rnd_keep (by rw [h]; exact nI_m1 (by omega)), h]
                  · rw [if_neg e]
                exact ⟨fun ⟨o, a1, a2, a3⟩ => ⟨o, a1, (one o a1).mp a2, a3⟩, fun ⟨o, a1, a2, a3⟩ => ⟨o, a1, (one o a1).mpr a2, a3⟩⟩
              rcases rnd_succ (f := I 7) (n := N) (cs := cs) (r := s) (b := i) (by omega) with ⟨q1, q2, q3⟩ | ⟨q1, q2⟩
              · rw [pif_t (heq.mpr q3)]
                refine Ev_f (by decide) (Ev_t ⟨nI_pos' (by omega), by omega⟩ (Ev_st ?_))
                rw [vu_u2]
                refine four _ _ (fun b hb => ?_) (Or.inl rfl)
                by_cases e : b = i
                · rw [e, vu_same, if_pos (by omega), q1]
                · rw [vu_ne e, hg b hb]
                  by_cases e2 : b < i
                  · rw [if_pos e2, if_pos (by omega)]
                  · rw [if_neg e2, if_neg (by omega)]
              · rw [pif_f (fun z => q2 ⟨h1, heq.mp z⟩)]
                exact Ev_t rfl (four _ _ (same q1).1 (same q1).2)
            · have q := rnd_keep h1
              exact four _ _ (same q).1 (same q).2
          · have hiN' : i = N := by omega
            refine Ev_t (nI_le (by omega) (by omega)) ?_
            rw [i1, nI_add]
            refine ih (s + 1) (by omega) g more (fun b hb => by rw [hg b hb, if_pos (by omega)]) ?_
            rcases hm with rfl | ⟨rfl, hm⟩
            · exact Or.inl rfl
            · refine Or.inr ⟨rfl, fun k b hb => ?_⟩
              have e1 := rnd_fix (f := I 7) (n := N) (cs := cs) (r := s) (fun b hb => hm b (by omega)) (by omega) (1 + k) b hb
              rw [show s + (1 + k) = s + 1 + k by omega] at e1
              rw [e1, hm b (by omega)]
        exact three 0 (by omega) g 0 (fun b hb => by rw [hg b hb, if_neg (by omega)]) (Or.inr ⟨rfl, fun b hb => by omega⟩)
      · refine Ev_t rfl (Ev_ret ⟨g, rfl, fun b hb => ?_⟩)
        rw [hg b hb]
        by_cases h : s ≤ N
        · have := hst (N - s) b hb
          rw [show s + (N - s) = N by omega] at this
          exact this.symm
        · exact rnd_eqN (by omega) (by omega) b hb
  -- the boxes that were touched
  have one : ∀ i, i ≤ N → ∀ g, (∀ b, b < i → g b = rnd (I 7) N cs 0 b) → Ev (fun n => g_175 n dp e 1 (va_up I 88 g) L cs (nI i) 0 0) (fun r => ∃ g, r = (va_up I 88 g, L) ∧ ∀ b, b < N → g b = rnd (I 7) N cs N b) := by
    refine dec_ind N (fun i hi ihi => ?_)
    intro g hg
    refine Ev_step (fun n => e_175_1 n _ _ _ _ _ _ _ _) ?_
    rw [hv]
    by_cases hiN : i < N
    · have ha : nI i * 7 + 5 = nI (7 * i + 5) := by rw [l7, l5, pk_mul, nI_add, Nat.mul_comm]
      rw [ha]
      refine Ev_f (nle (by omega) (by omega)) (Ev_t (ixn (by omega) (by decide)) ?_)
      rw [nI_clamp (show 7 * i + 5 < 2 ^ 31 by omega), nI_clamp (show i < 2 ^ 31 by omega), h7, i1, nI_add]
      refine Ev_c (fun h1 => ?_) (fun h1 => ?_)
      · refine Ev_t ⟨nI_pos' (by omega), by omega⟩ (Ev_st ?_)
        rw [vu_u2]
        refine ihi hiN _ (fun b hb => ?_)
        by_cases e : b = i
        · rw [e, vu_same, rnd, if_pos h1]
        · rw [vu_ne e]; exact hg b (by omega)
      · refine Ev_t ⟨nI_pos' (by omega), by omega⟩ (Ev_st ?_)
        rw [vu_u2]
        refine ihi hiN _ (fun b hb => ?_)
        by_cases e : b = i
        · rw [e, vu_same, rnd, if_neg h1]
        · rw [vu_ne e]; exact hg b (by omega)
    · have hiN' : i = N := by omega
      refine Ev_t (nI_le (by omega) (by omega)) ?_
      exact two 15 0 rfl g 1 (fun b hb => hg b (by omega)) (Or.inl rfl)
  have := one 0 (by omega) (I 88) (fun b hb => by omega)
  rw [vu_id] at this
  exact this
/-- the bits of the boxes of which p holds -/
noncomputable def bts (p : Nat → Prop) : Nat → Int32
  | 0 => 0
  | n + 1 => pif (p n) (bts p n ||| 1 <<< (nI n &&& 31)) (bts p n)
theorem bts_congr {p q : Nat → Prop} : ∀ n, (∀ b, b < n → (p b ↔ q b)) → bts p n = bts q n
  | 0, _ => rfl
  | n + 1, h => by
    unfold bts
    rw [bts_congr n (fun b hb => h b (by omega))]
    by_cases c : p n
    · rw [pif_t c, pif_t ((h n (by omega)).mp c)]
    · rw [pif_f c, pif_f (fun z => c ((h n (by omega)).mpr z))]
theorem E174 (hd : 3 ≤ dp) {N : Nat} {cs : Int32} (hN : I 1 9 = nI N) (hN2 : N ≤ 16) : Ev (fun n => g_174 n dp e 0 I L cs 0 0) (fun r => ∃ g, r = (bts (fun b => ¬ rnd (I 7) N cs N b = -1) N, va_up I 88 g, L)) := by
  refine Ev_step (fun n => e_174_0 n _ _ _ _ _ _ _) ?_
  refine Ev_t (by omega) (Ev_bind (E175 (by omega) hN hN2) ?_)
  rintro r ⟨g, rfl, hg⟩
  dsimp only
  have key : ∀ i, i ≤ N → Ev (fun n => g_174 n dp e 1 (va_up I 88 g) L cs (bts (fun b => ¬ rnd (I 7) N cs N b = -1) i) (nI i)) (fun r => ∃ g, r = (bts (fun b => ¬ rnd (I 7) N cs N b = -1) N, va_up I 88 g, L)) := by
    refine dec_ind N (fun i hi ihi => ?_)
    refine Ev_step (fun n => e_174_1 n _ _ _ _ _ _ _) ?_
    rw [show va_up I 88 g 1 9 = nI N from hN]
    by_cases hiN : i < N
    · have two : Ev (fun n => g_174 n dp e 2 (va_up I 88 g) L cs (bts (fun b => ¬ rnd (I 7) N cs N b = -1) (i + 1)) (nI i)) (fun r => ∃ g, r = (bts (fun b => ¬ rnd (I 7) N cs N b = -1) N, va_up I 88 g, L)) := by
        refine Ev_step (fun n => e_174_2 n _ _ _ _ _ _ _) ?_
        rw [i1, nI_add]
        exact ihi hiN
      refine Ev_f (nle (by omega) (by omega)) (Ev_t (ixn (by omega) (by decide)) ?_)
      rw [nI_clamp (show i < 2 ^ 31 by omega), vu_same, hg i hiN]
      refine Ev_c (fun h1 => ?_) (fun h1 => Ev_st ?_)
      · rw [bts, pif_f (fun z => z h1)] at two
        exact two
      · rw [bts, pif_t h1] at two
        exact two
    · have : i = N := by omega
      subst this
      exact Ev_t (nI_le (by omega) (by omega)) (Ev_ret ⟨g, rfl⟩)
  exact key 0 (by omega)
theorem E178 (hd : 3 ≤ dp) {N b : Nat} {cs : Int32} (hN : I 1 9 = nI N) (hN2 : N ≤ 16) (hb : b < N) : Ev (fun n => g_178 n dp e 0 I L cs (nI b)) (fun r => ∃ g, r = (rnd (I 7) N cs N b, va_up I 88 g, L)) := by
  refine Ev_step (fun n => e_178_0 n _ _ _ _ _ _) ?_
  refine Ev_t (by omega) (Ev_bind (E175 (by omega) hN hN2) ?_)
  rintro r ⟨g, rfl, hg⟩
  dsimp only
  refine Ev_t (ixn (by omega) (by decide)) ?_
  rw [nI_clamp (show b < 2 ^ 31 by omega), vu_same, hg b hb]
  exact Ev_ret ⟨g, rfl⟩
/-- what recall answers -/
noncomputable def rcl (f : Nat → Int32) (N : Nat) (cs b : Int32) : Int32 := pif ((0 ≤ cs ∧ cs ≤ 255) ∧ -1 ≤ b ∧ b ≤ nI N - 1) (pif (b = -1) (bts (fun q => ¬ rnd f N cs N q = -1) N) (rnd f N cs N b.toNatClampNeg)) (-1)
theorem le_pred {x : Int32} {N : Nat} (hN : N < 2 ^ 31) (h0 : 0 ≤ x) (h : x ≤ nI N - 1) : ∃ b, b < N ∧ x = nI b := by
  obtain ⟨j, hj, rfl⟩ := nI_of (Int32.not_lt.mpr h0)
  cases N with
  | zero => exfalso; rw [show nI 0 - 1 = -1 from rfl] at h; exact absurd (Int32.le_trans h0 h) (by decide)
  | succ N =>
    rw [nI_pred, nI_leI hj (by omega)] at h
    exact ⟨j, by omega, rfl⟩
theorem E173 (hd : 4 ≤ dp) {N : Nat} {cs b : Int32} (hN : I 1 9 = nI N) (hN2 : N ≤ 16) : Ev (fun n => g_173 n dp e 0 I L cs b) (fun r => ∃ g, r = (rcl (I 7) N cs b, va_up I 88 g, L)) := by
  refine Ev_step (fun n => e_173_0 n _ _ _ _ _ _) ?_
  refine Ev_t (by omega) (Ev_call E14 ?_)
  dsimp only
  by_cases h1 : 0 ≤ cs ∧ cs ≤ 255
  · rw [wi_t h1]
    refine Ev_f (by decide) (Ev_t (by omega) (Ev_call E14 ?_))
    dsimp only
    rw [hN]
    by_cases h2 : -1 ≤ b ∧ b ≤ nI N - 1
    · rw [wi_t h2]
      refine Ev_f (by decide) (Ev_c (fun h3 => ?_) (fun h3 => ?_))
      · refine Ev_t (by omega) (Ev_bind (E174 (by omega) hN hN2) ?_)
        rintro r ⟨g, rfl⟩
        exact Ev_ret ⟨g, by rw [rcl, pif_t ⟨h1, h2⟩, pif_t h3]⟩
      · have h0 : 0 ≤ b := by
          have := Int32.lt_of_le_of_ne h2.1 (fun q => h3 q.symm)
          rw [Int32.lt_iff_toInt_lt] at this
          rw [Int32.le_iff_toInt_le]
          have e1 : (-1 : Int32).toInt = -1 := rfl
          have e2 : (0 : Int32).toInt = 0 := rfl
          omega
        obtain ⟨j, hj, rfl⟩ := le_pred (by omega) h0 h2.2
        refine Ev_t (by omega) (Ev_bind (E178 (by omega) hN hN2 hj) ?_)
        rintro r ⟨g, rfl⟩
        exact Ev_ret ⟨g, by rw [rcl, pif_t ⟨h1, h2⟩, pif_f h3, nI_clamp (by omega)]⟩
    · rw [wi_f h2]
      exact Ev_t rfl (Ev_ret ⟨I 88, by rw [rcl, pif_f (fun z => h2 z.2), vu_id]⟩)
  · rw [wi_f h1]
    exact Ev_t rfl (Ev_ret ⟨I 88, by rw [rcl, pif_f (fun z => h1 z.1), vu_id]⟩)
end RC
