/-! RECALL of the model -/
theorem L1 : (1 : Int64) = lN 1 := rfl
theorem lpred {n : Nat} (h : n < 2 ^ 31) : (nI n).toInt64 - 1 = (nI n - 1).toInt64 := by
  cases n with
  | zero => decide
  | succ n =>
    rw [L1, nI_pred, nI_l h, nI_l (by omega), lN_sub (by omega)]
    rfl
theorem wl_1 {x lo hi : Int32} {a b : Int64} (ha : a = lo.toInt64) (hb : b = hi.toInt64) : wl x.toInt64 a b = wi x lo hi := by subst ha; subst hb; exact wl_i x lo hi
section RM
variable {dp : Nat} {e : EN} {I : Nat → Nat → Int32} {L : Nat → Nat → Int64}
/-- the boxes of the model's row -/
def mbx (I : Nat → Nat → Int32) : Nat → Int32 := fun j => I 107 (90 + j)
theorem E292 {b k : Nat} (hb : b < 16) (hk : k < 7) : Ev (fun n => g_292 n dp e 0 I L (nI b) (nI k)) (fun r => r = (mbx I (7 * b + k), I, L)) := by
  refine Ev_step (fun n => e_292_0 n _ _ _ _ _ _) ?_
  rw [show (90 : Int32) = nI 90 from rfl, l7, pk_mul, nI_add, nI_add, nI_clamp (by omega)]
  refine Ev_t ⟨nI_pos' (by omega), by omega⟩ (Ev_ret ?_)
  rw [mbx, Nat.add_assoc]
theorem E299 (hd : 1 ≤ dp) {a b : Nat} (ha : a < 16) (hb : b < 16) : Ev (fun n => g_299 n dp e 0 I L (nI a) (nI b) 0) (fun r => r = (pif (tch (mbx I) a b) 1 0, I, L)) := by
  have one : (¬ (mbx I (7 * a + 2) = mbx I (7 * b + 2) ∧ mbx I (7 * a + 3) = mbx I (7 * b + 3) ∧ mbx I (7 * a + 4) = mbx I (7 * b + 4))) → Ev (fun n => g_299 n dp e 1 I L (nI a) (nI b) 0) (fun r => r = (pif (tch (mbx I) a b) 1 0, I, L)) := by
    intro hn
    refine Ev_step (fun n => e_299_1 n _ _ _ _ _ _ _) ?_
    refine Ev_t rfl (Ev_t hd (Ev_call (E292 ha (k := 5) (by decide)) ?_))
    dsimp only
    refine Ev_t hd (Ev_call (E292 hb (k := 5) (by decide)) ?_)
    dsimp only
    refine Ev_c (fun h => ?_) (fun h => ?_)
    · exact Ev_ret (by rw [pif_f (show ¬ tch (mbx I) a b from fun q => q.elim (fun z => z h) hn)])
    · refine Ev_step (fun n => e_299_2 n _ _ _ _ _ _ _) (Ev_ret ?_)
      rw [pif_t (show tch (mbx I) a b from Or.inl h)]
  refine Ev_step (fun n => e_299_0 n _ _ _ _ _ _ _) ?_
  refine Ev_t hd (Ev_call (E292 ha (k := 2) (by decide)) ?_)
  dsimp only
  refine Ev_t hd (Ev_call (E292 hb (k := 2) (by decide)) ?_)
  dsimp only
  refine Ev_c (fun h1 => ?_) (fun h1 => one (fun z => h1 z.1))
  refine Ev_t hd (Ev_call (E292 ha (k := 3) (by decide)) ?_)
  dsimp only
  refine Ev_t hd (Ev_call (E292 hb (k := 3) (by decide)) ?_)
  dsimp only
  refine Ev_c (fun h2 => ?_) (fun h2 => one (fun z => h2 z.2.1))
  refine Ev_t hd (Ev_call (E292 ha (k := 4) (by decide)) ?_)
  dsimp only
  refine Ev_t hd (Ev_call (E292 hb (k := 4) (by decide)) ?_)
  dsimp only
  refine Ev_c (fun h3 => ?_) (fun h3 => one (fun z => h3 z.2.2))
  refine Ev_f (by decide) ?_
  refine Ev_step (fun n => e_299_2 n _ _ _ _ _ _ _) (Ev_ret ?_)
  rw [pif_t (show tch (mbx I) a b from Or.inr ⟨h1, h2, h3⟩)]
theorem E298 (hd : 2 ≤ dp) {N : Nat} {cs b : Int32} (hN : I 107 6 = nI N) (hN2 : N ≤ 16) : Ev (fun n => g_298 n dp e 0 I L cs b 0 0 0 0 0) (fun r => ∃ g, r = (rcl (mbx I) N cs b, va_up (u2 I 105 0 0) 141 g, L)) := by
  have hN' : u2 I 105 0 0 107 6 = nI N := hN
  have hm : mbx (u2 I 105 0 0) = mbx I := rfl
  rw [← hm]
  refine Ev_step (fun n => e_298_0 n _ _ _ _ _ _ _ _ _ _ _) (Ev_st ?_)
  generalize u2 I 105 0 0 = J at *
  have hmg : ∀ g : Nat → Int32, mbx (va_up J 141 g) = mbx J := fun g => rfl
  have h8 : ∀ g : Nat → Int32, va_up J 141 g 141 = g := fun g => vu_same
  -- the end: bits
  have six : ((0 ≤ cs ∧ cs ≤ 255) ∧ -1 ≤ b ∧ b ≤ nI N - 1) → ∀ g, (∀ q, q < N → g q = rnd (mbx J) N cs N q) → ∀ i, i ≤ N → Ev (fun n => g_298 n dp e 6 (va_up J 141 g) L cs b (nI N) (bts (fun q => ¬ rnd (mbx J) N cs N q = -1) i) (nI i) 0 0) (fun r => ∃ g, r = (rcl (mbx J) N cs b, va_up J 141 g, L)) := by
    intro hok g hg
    refine dec_ind N (fun i hi ihi => ?_)
    refine Ev_step (fun n => e_298_6 n _ _ _ _ _ _ _ _ _ _ _) ?_
    by_cases hiN : i < N
    · refine Ev_f (nle (by omega) (by omega)) (Ev_t (ixn (by omega) (by decide)) ?_)
      rw [nI_clamp (show i < 2 ^ 31 by omega), h8, hg i hiN, i1, nI_add]
      have := ihi hiN
      refine Ev_c (fun h1 => ?_) (fun h1 => Ev_st ?_)
      · rw [bts, pif_f (fun z => z h1)] at this
        rw [show (bts (fun q => ¬ rnd (mbx J) N cs N q = -1) i ||| (0 : Int32)) = bts (fun q => ¬ rnd (mbx J) N cs N q = -1) i from Int32.or_zero]
        exact this
      · rw [bts, pif_t h1] at this
        exact this
    · have : i = N := by omega
      subst this
      refine Ev_t (nI_le (by omega) (by omega)) (Ev_c (fun h3 => ?_) (fun h3 => ?_))
      · exact Ev_ret ⟨g, by rw [rcl, pif_t hok, pif_t h3]⟩
      · have h0 : 0 ≤ b := by
          have := Int32.lt_of_le_of_ne hok.2.1 (fun q => h3 q.symm)
          rw [Int32.lt_iff_toInt_lt] at this
          rw [Int32.le_iff_toInt_le]
          have e1 : (-1 : Int32).toInt = -1 := rfl
          have e2 : (0 : Int32).toInt = 0 := rfl
          omega
        obtain ⟨j, hj, hjb⟩ := le_pred (by omega) h0 hok.2.2
        rw [hjb]
        refine Ev_t (ixn (by omega) (by decide)) ?_
        rw [nI_clamp (show j < 2 ^ 31 by omega), h8, hg j hj]
        exact Ev_ret ⟨g, by rw [rcl, ← hjb, pif_t hok, pif_f h3, hjb, nI_clamp (by omega)]⟩
  -- the rounds
  have three : ((0 ≤ cs ∧ cs ≤ 255) ∧ -1 ≤ b ∧ b ≤ nI N - 1) → ∀ k s, s + k = N → ∀ g, (∀ q, q < N → g q = rnd (mbx J) N cs s q) → Ev (fun n => g_298 n dp e 3 (va_up J 141 g) L cs b (nI N) 0 (nI (s + 1)) 0 0) (fun r => ∃ g, r = (rcl (mbx J) N cs b, va_up J 141 g, L)) := by
    intro hok k
    induction k with
    | zero =>
      intro s hs g hg
      refine Ev_step (fun n => e_298_3 n _ _ _ _ _ _ _ _ _ _ _) ?_
      have : s = N := by omega
      subst this
      exact Ev_t (nI_lt (by omega) (by omega)) (six hok g hg 0 (by omega))
    | succ k ih =>
      intro s hs g hg
      refine Ev_step (fun n => e_298_3 n _ _ _ _ _ _ _ _ _ _ _) ?_
      refine Ev_f (nI_nlt (by omega) (by omega)) ?_
      have four : ∀ i, i ≤ N → ∀ g, (∀ q, q < N → g q = if q < i then rnd (mbx J) N cs (s + 1) q else rnd (mbx J) N cs s q) → Ev (fun n => g_298 n dp e 4 (va_up J 141 g) L cs b (nI N) 0 (nI (s + 1)) (nI i) 0) (fun r => ∃ g, r = (rcl (mbx J) N cs b, va_up J 141 g, L)) := by
        refine dec_ind N (fun i hi ihi => ?_)
        intro g hg
        refine Ev_step (fun n => e_298_4 n _ _ _ _ _ _ _ _ _ _ _) ?_
        by_cases hiN : i < N
        · refine Ev_f (nle (by omega) (by omega)) ?_
          -- one box against all others
          have five : ∀ o, o ≤ N → ∀ g, (∀ q, q < N → q ≠ i → g q = if q < i then rnd (mbx J) N cs (s + 1) q else rnd (mbx J) N cs s q) → g i = pif (rnd (mbx J) N cs s i = -1 ∧ ∃ p, p < o ∧ 0 ≤ rnd (mbx J) N cs s p ∧ tch (mbx J) i p) (nI (s + 1)) (rnd (mbx J) N cs s i) → Ev (fun n => g_298 n dp e 5 (va_up J 141 g) L cs b (nI N) 0 (nI (s + 1)) (nI i) (nI o)) (fun r => ∃ g, r = (rcl (mbx J) N cs b, va_up J 141 g, L)) := by
            refine dec_ind N (fun o ho iho => ?_)
            intro g hg hgi
            refine Ev_step (fun n => e_298_5 n _ _ _ _ _ _ _ _ _ _ _) ?_
            by_cases hoN : o < N
            · rw [nI_clamp (show i < 2 ^ 31 by omega), nI_clamp (show o < 2 ^ 31 by omega), h8, i1, nI_add]
              have stay : g i = pif (rnd (mbx J) N cs s i = -1 ∧ ∃ p, p < o + 1 ∧ 0 ≤ rnd (mbx J) N cs s p ∧ tch (mbx J) i p) (nI (s + 1)) (rnd (mbx J) N cs s i) → Ev (fun n => g_298 n dp e 5 (u2 (va_up J 141 g) 141 i (g i)) L cs b (nI N) 0 (nI (s + 1)) (nI i) (nI (o + 1))) (fun r => ∃ g, r = (rcl (mbx J) N cs b, va_up J 141 g, L)) := by
                intro h
                have e : u2 (va_up J 141 g) 141 i (g i) = va_up J 141 g := by
                  rw [vu_u2]
                  refine congrArg (va_up J 141) (funext fun q => ?_)
                  by_cases e : q = i
                  · rw [e, vu_same]
                  · rw [vu_ne e]
                rw [e]
                exact iho hoN g hg h
              have grow : ∀ P : Prop, ¬ P → (P ↔ (0 ≤ rnd (mbx J) N cs s o ∧ tch (mbx J) i o)) → g i = pif (rnd (mbx J) N cs s i = -1 ∧ ∃ p, p < o + 1 ∧ 0 ≤ rnd (mbx J) N cs s p ∧ tch (mbx J) i p) (nI (s + 1)) (rnd (mbx J) N cs s i) := by
                intro P hP hPi
                rw [hgi]
                have : (∃ p, p < o ∧ 0 ≤ rnd (mbx J) N cs s p ∧ tch (mbx J) i p) ↔ (∃ p, p < o + 1 ∧ 0 ≤ rnd (mbx J) N cs s p ∧ tch (mbx J) i p) := by
                  refine ⟨fun ⟨p, a, c⟩ => ⟨p, by omega, c⟩, fun ⟨p, a, c⟩ => ?_⟩
                  by_cases e : p = o
                  · subst e; exact absurd (hPi.mpr c) hP
                  · exact ⟨p, by omega, c⟩
                rw [this]
              refine Ev_f (nle (by omega) (by omega)) (Ev_t ⟨nI_pos' (by omega), by omega⟩ (Ev_c (fun h1 => ?_) (fun h1 => ?_)))
              · -- not yet touched
                have hni : ¬ (rnd (mbx J) N cs s i = -1 ∧ ∃ p, p < o ∧ 0 ≤ rnd (mbx J) N cs s p ∧ tch (mbx J) i p) := fun z => by
                  rw [hgi, pif_t z] at h1; exact nI_m1 (by omega) h1
                have hri : rnd (mbx J) N cs s i = -1 := by rw [hgi, pif_f hni] at h1; exact h1
                refine Ev_t ⟨nI_pos' (by omega), by omega⟩ (Ev_t (by omega) (Ev_call E193 ?_))
                dsimp only
                rw [h8]
                have hin : wl (g o).toInt64 0 ((nI (s + 1)).toInt64 - 1) = wi (g o) 0 (nI s) := wl_1 rfl (by rw [lpred (by omega), nI_pred])
                rw [hin]
                have hgo : (0 ≤ g o ∧ g o ≤ nI s) ↔ 0 ≤ rnd (mbx J) N cs s o := by
                  by_cases e : o = i
                  · rw [e, hri, h1]
                    exact ⟨fun z => z.1, fun z => absurd z (by decide)⟩
                  · rw [hg o hoN e]
                    have vs : 0 ≤ rnd (mbx J) N cs s o → rnd (mbx J) N cs s o ≤ nI s := fun z => by
                      rcases rnd_v (f := mbx J) (n := N) (cs := cs) s o with h | ⟨q, hq, h⟩
                      · rw [h] at z; exact absurd z (by decide)
                      · rw [h]; exact nI_le hq (by omega)
                    by_cases e2 : o < i
                    · rw [if_pos e2]
                      rcases rnd_succ (f := mbx J) (n := N) (cs := cs) (r := s) (b := o) (by omega) with ⟨q1, q2, -⟩ | ⟨q1, -⟩
                      · rw [q1, q2]
                        exact ⟨fun z => absurd z.2 (nle (by omega) (by omega)), fun z => absurd z (by decide)⟩
                      · rw [q1]; exact ⟨fun z => z.1, fun z => ⟨z, vs z⟩⟩
                    · rw [if_neg e2]; exact ⟨fun z => z.1, fun z => ⟨z, vs z⟩⟩
                by_cases c1 : 0 ≤ g o ∧ g o ≤ nI s
                · rw [wi_t c1]
                  refine Ev_f (by decide) (Ev_t (by omega) (Ev_call (E299 (by omega) (by omega) (by omega)) ?_))
                  dsimp only
                  rw [hmg, h8]
                  by_cases c2 : tch (mbx J) i o
                  · rw [pif_t c2]
                    refine Ev_f (by decide) (Ev_t ⟨nI_pos' (by omega), by omega⟩ (Ev_st ?_))
                    rw [vu_u2, nI_add]
                    refine iho hoN _ (fun q hq hqi => by rw [vu_ne hqi]; exact hg q hq hqi) ?_
                    rw [vu_same, pif_t ⟨hri, o, by omega, hgo.mp c1, c2⟩]
                  · rw [pif_f c2]
                    refine Ev_t rfl (Ev_t ⟨nI_pos' (by omega), by omega⟩ (Ev_t ⟨nI_pos' (by omega), by omega⟩ (Ev_st ?_)))
                    rw [nI_add]
                    exact stay (grow (0 ≤ rnd (mbx J) N cs s o ∧ tch (mbx J) i o) (fun z => c2 z.2) Iff.rfl)
                · rw [wi_f c1]
                  refine Ev_t rfl (Ev_t ⟨nI_pos' (by omega), by omega⟩ (Ev_t ⟨nI_pos' (by omega), by omega⟩ (Ev_st ?_)))
                  rw [nI_add]
                  exact stay (grow (0 ≤ rnd (mbx J) N cs s o ∧ tch (mbx J) i o) (fun z => c1 (hgo.mpr z.1)) Iff.rfl)
              · refine Ev_t ⟨nI_pos' (by omega), by omega⟩ (Ev_t ⟨nI_pos' (by omega), by omega⟩ (Ev_st ?_))
                rw [nI_add]
                refine stay ?_
                rw [hgi]
                by_cases c : rnd (mbx J) N cs s i = -1 ∧ ∃ p, p < o ∧ 0 ≤ rnd (mbx J) N cs s p ∧ tch (mbx J) i p
                · obtain ⟨c1, p, c2, c3⟩ := c
                  rw [pif_t ⟨c1, p, c2, c3⟩, pif_t ⟨c1, p, by omega, c3⟩]
                · rw [pif_f c]
                  rw [hgi, pif_f c] at h1
                  rw [pif_f (fun z => h1 z.1)]
            · have : o = N := by omega
              subst this
              refine Ev_t (nI_le (by omega) (by omega)) ?_
              rw [i1, nI_add]
              refine ihi hiN g (fun q hq => ?_)
              by_cases e : q = i
              · rw [e, if_pos (by omega), hgi, rnd]
              · rw [hg q hq e]
                by_cases e2 : q < i
                · rw [if_pos e2, if_pos (by omega)]
                · rw [if_neg e2, if_neg (by omega)]
          refine five 0 (by omega) g (fun q hq _ => hg q hq) ?_
          rw [hg i hiN, if_neg (by omega), pif_f (fun z => by obtain ⟨-, p, hp, -⟩ := z; omega)]
        · have : i = N := by omega
          subst this
          refine Ev_t (nI_le (by omega) (by omega)) ?_
          rw [i1, nI_add]
          exact ih (s + 1) (by omega) g (fun q hq => by rw [hg q hq, if_pos hq])
      exact four 0 (by omega) g (fun q hq => by rw [hg q hq, if_neg (by omega)])
  have one : ((0 ≤ cs ∧ cs ≤ 255) ∧ -1 ≤ b ∧ b ≤ nI N - 1) → Ev (fun n => g_298 n dp e 1 J L cs b (nI N) 0 0 0 0) (fun r => ∃ g, r = (rcl (mbx J) N cs b, va_up J 141 g, L)) := by
    intro hok
    refine Ev_step (fun n => e_298_1 n _ _ _ _ _ _ _ _ _ _ _) ?_
    have two : ∀ i, i ≤ N → ∀ g, (∀ q, q < i → g q = rnd (mbx J) N cs 0 q) → Ev (fun n => g_298 n dp e 2 (va_up J 141 g) L cs b (nI N) 0 (nI i) 0 0) (fun r => ∃ g, r = (rcl (mbx J) N cs b, va_up J 141 g, L)) := by
      refine dec_ind N (fun i hi ihi => ?_)
      intro g hg
      refine Ev_step (fun n => e_298_2 n _ _ _ _ _ _ _ _ _ _ _) ?_
      by_cases hiN : i < N
      · refine Ev_f (nle (by omega) (by omega)) (Ev_t (by omega) (Ev_call (E292 (k := 5) (by omega) (by decide)) ?_))
        dsimp only
        rw [hmg, nI_clamp (show i < 2 ^ 31 by omega), i1, nI_add]
        refine Ev_c (fun h1 => ?_) (fun h1 => ?_)
        · refine Ev_t ⟨nI_pos' (by omega), by omega⟩ (Ev_st ?_)
          rw [vu_u2]
          refine ihi hiN _ (fun q hq => ?_)
          by_cases e : q = i
          · rw [e, vu_same, rnd, if_pos h1]
          · rw [vu_ne e]; exact hg q (by omega)
        · refine Ev_t ⟨nI_pos' (by omega), by omega⟩ (Ev_st ?_)
          rw [vu_u2]
          refine ihi hiN _ (fun q hq => ?_)
          by_cases e : q = i
          · rw [e, vu_same, rnd, if_neg h1]
          · rw [vu_ne e]; exact hg q (by omega)
      · have : i = N := by omega
        subst this
        exact Ev_t (nI_le (by omega) (by omega)) (three hok i 0 (by omega) g hg)
    have := two 0 (by omega) (J 141) (fun b hb => by omega)
    rw [vu_id] at this
    exact this
  rw [hN']
  refine Ev_t (by omega) (Ev_call E193 ?_)
  dsimp only
  have w1 : wl cs.toInt64 0 255 = wi cs 0 255 := wl_i cs 0 255
  rw [w1]
  by_cases h1 : 0 ≤ cs ∧ cs ≤ 255
  · rw [wi_t h1]
    refine Ev_f (by decide) (Ev_c (fun h2 => ?_) (fun h2 => ?_))
    · refine one ⟨h1, by rw [h2]; exact Int32.le_refl _, ?_⟩
      rw [h2]
      cases hN0 : N with
      | zero => decide
      | succ M => rw [nI_pred]; exact Int32.le_trans (by decide) (nI_pos' (n := M) (by omega))
    · refine Ev_t (by omega) (Ev_call E193 ?_)
      dsimp only
      rw [wl_1 (x := b) (lo := 0) (hi := nI N - 1) (a := 0) (b := (nI N).toInt64 - 1) rfl (lpred (by omega))]
      by_cases h3 : 0 ≤ b ∧ b ≤ nI N - 1
      · rw [wi_t h3]
        exact Ev_f (by decide) (one ⟨h1, Int32.le_trans (by decide) h3.1, h3.2⟩)
      · rw [wi_f h3]
        refine Ev_t rfl (Ev_ret ⟨J 141, ?_⟩)
        rw [vu_id, rcl, pif_f]
        rintro ⟨-, q1, q2⟩
        refine h3 ⟨?_, q2⟩
        have := Int32.lt_of_le_of_ne q1 (fun q => h2 q.symm)
        rw [Int32.lt_iff_toInt_lt] at this
        rw [Int32.le_iff_toInt_le]
        have e1 : (-1 : Int32).toInt = -1 := rfl
        have e2 : (0 : Int32).toInt = 0 := rfl
        omega
  · rw [wi_f h1]
    exact Ev_t rfl (Ev_ret ⟨J 141, by rw [rcl, pif_f (fun z => h1 z.1), vu_id]⟩)
end RM
