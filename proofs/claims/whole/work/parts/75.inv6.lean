/-! THE INVARIANT 6: feed -/
theorem bA_255 (x : Int) : 0 ≤ bA x 255 ∧ bA x 255 ≤ 255 := by
  have e : (Int32.ofInt x &&& Int32.ofInt 255).toBitVec.toNat = (Int32.ofInt x).toBitVec.toNat &&& 255 := by rw [Int32.toBitVec_and, BitVec.toNat_and]; rfl
  have l : (Int32.ofInt x).toBitVec.toNat &&& 255 ≤ 255 := Nat.and_le_right
  show 0 ≤ (Int32.ofInt x &&& Int32.ofInt 255).toBitVec.toInt ∧ (Int32.ofInt x &&& Int32.ofInt 255).toBitVec.toInt ≤ 255
  rw [bv_i (by omega), e]
  omega
def ft (sh : Int → Int → Int) (t : Int → Int) (n a : Int) : Int → Int := fun i => if i = n + 1 + 1 + 1 then bA (sh a 0) 255 else if i = n + 1 + 1 then bA (sh a 8) 255 else if i = n + 1 then bA (sh a 16) 255 else if i = n then bA (sh a 24) 255 else t i
theorem fdC_89 {J : JI} {a i : Int} : fdC J a 89 i = ft bU (J 89) (J 0 13) a i := by
  unfold fdC ft
  simp only [w2_ap, Nat.reduceEqDiff, false_and, true_and, if_false]
theorem fdM_110 {J : JI} {a i : Int} : fdM J a 110 i = ft bR (J 110) (J 105 7) a i := by
  unfold fdM ft
  simp only [w2_ap, Nat.reduceEqDiff, false_and, true_and, if_false]
theorem ft_eq {t s : Int → Int} {n m a i : Int} (hn : n = m) (h : t i = s i ∧ 0 ≤ s i ∧ s i ≤ 255) : ft bU t n a i = ft bR s m a i ∧ 0 ≤ ft bR s m a i ∧ ft bR s m a i ≤ 255 := by
  subst hn
  unfold ft
  rw [byte_same a 0 (by decide), byte_same a 8 (by decide), byte_same a 16 (by decide), byte_same a 24 (by decide), h.1]
  refine ⟨rfl, ?_⟩
  have x0 := bA_255 (bR a 0)
  have x8 := bA_255 (bR a 8)
  have x16 := bA_255 (bR a 16)
  have x24 := bA_255 (bR a 24)
  have h2 := h.2
  (repeat' split) <;> omega
section OPS
variable {dp : Nat} {z : Nat} {kd : KD} {R : RF} {J M : JI}
theorem iv_feed {t tr : Nat} {a b c d f : Int} (hd : 5 ≤ dp) (ht : t < 512) (hI : InvB t tr z kd R J) : Ev (fun n => kf_29 n dp (z, kd, R) 0 J M a b c d f) (fun r => Ev (fun n => kf_208 n dp (z, kd, R) 0 r.2.1 r.2.2 a b c d f) (fun q => ∃ a, r.1 = a ∧ q.1 = a ∧ InvB (t + 1) tr z kd R q.2.1)) := by
  have hI' := hI
  obtain ⟨q1, q2, q3, q4, q5, q6, q7, q8, q9⟩ := hI
  obtain ⟨u1, u2, u3, u4, u5, u6, u7, u8, u9, u10, u11, u12, u13, u14, u15, u16, u17⟩ := q5
  obtain ⟨v1, v2, v3, v4, v5, v6, v7, v8, v9, v10, v11, v12, v13, v14, v15, v16, v17⟩ := q6
  simp only [Nat.reduceAdd] at v1 v2 v3 v4 v5 v6 v7
  obtain ⟨s1, s2, s3, s4, s5, s6, s7, s8, s9, s10, s11, s12, s13, s14, s15, s16⟩ := q7
  refine o_feed (P := fun _ J' _ => InvB (t + 1) tr z kd R J') (by omega) (smO_Bs (by omega) hI'.2.2.2.2.2.2.1) s9.1 s9.2 (fun _ => InvB_up hI') (fun h => ?_)
  have fr : ∀ x (j : Int), ¬ x = 0 → ¬ x = 89 → ¬ x = 105 → ¬ x = 110 → fdM (fdM (fdM (fdM (fdM (fdC (fdC (fdC (fdC (fdC J a) b) c) d) f) a) b) c) d) f x j = J x j := fun x j h0 h1 h2 h3 => by
    rw [fdM_o h3 h2, fdM_o h3 h2, fdM_o h3 h2, fdM_o h3 h2, fdM_o h3 h2, fdC_o h1 h0, fdC_o h1 h0, fdC_o h1 h0, fdC_o h1 h0, fdC_o h1 h0]
  refine InvB_sm hI' (fun x hx j => fr x j (by omega) (by omega) (by omega) (by omega)) ?_
  have c0 : ∀ (K : JI) (a j : Int), ¬ j = 13 → fdC K a 0 j = K 0 j := fun K a j hj => by unfold fdC; simp only [w2_ap, Nat.reduceEqDiff, false_and, true_and, if_false, hj]
  have m0 : ∀ (K : JI) (a j : Int), ¬ j = 7 → fdM K a 105 j = K 105 j := fun K a j hj => by unfold fdM; simp only [w2_ap, Nat.reduceEqDiff, false_and, true_and, if_false, hj]
  have oM : ∀ (K : JI) (a : Int) (x : Nat) (j : Int), x = 0 ∨ x = 89 → fdM K a x j = K x j := fun K a x j h => fdM_o (by omega) (by omega)
  have oC : ∀ (K : JI) (a : Int) (x : Nat) (j : Int), x = 105 ∨ x = 110 → fdC K a x j = K x j := fun K a x j h => fdC_o (by omega) (by omega)
  have e0 : ∀ j, ¬ j = 13 → fdM (fdM (fdM (fdM (fdM (fdC (fdC (fdC (fdC (fdC J a) b) c) d) f) a) b) c) d) f 0 j = J 0 j := fun j hj => by
    rw [oM _ _ 0 _ (Or.inl rfl), oM _ _ 0 _ (Or.inl rfl), oM _ _ 0 _ (Or.inl rfl), oM _ _ 0 _ (Or.inl rfl), oM _ _ 0 _ (Or.inl rfl), c0 _ _ _ hj, c0 _ _ _ hj, c0 _ _ _ hj, c0 _ _ _ hj, c0 _ _ _ hj]
  have e105 : ∀ j, ¬ j = 7 → fdM (fdM (fdM (fdM (fdM (fdC (fdC (fdC (fdC (fdC J a) b) c) d) f) a) b) c) d) f 105 j = J 105 j := fun j hj => by
    rw [m0 _ _ _ hj, m0 _ _ _ hj, m0 _ _ _ hj, m0 _ _ _ hj, m0 _ _ _ hj, oC _ _ 105 _ (Or.inl rfl), oC _ _ 105 _ (Or.inl rfl), oC _ _ 105 _ (Or.inl rfl), oC _ _ 105 _ (Or.inl rfl), oC _ _ 105 _ (Or.inl rfl)]
  have l0 : fdM (fdM (fdM (fdM (fdM (fdC (fdC (fdC (fdC (fdC J a) b) c) d) f) a) b) c) d) f 0 13 = J 0 13 + 20 := by
    rw [oM _ _ 0 _ (Or.inl rfl), oM _ _ 0 _ (Or.inl rfl), oM _ _ 0 _ (Or.inl rfl), oM _ _ 0 _ (Or.inl rfl), oM _ _ 0 _ (Or.inl rfl), fdC_l, fdC_l, fdC_l, fdC_l, fdC_l]; omega
  have l1 : fdM (fdM (fdM (fdM (fdM (fdC (fdC (fdC (fdC (fdC J a) b) c) d) f) a) b) c) d) f 105 7 = J 105 7 + 20 := by
    rw [fdM_l, fdM_l, fdM_l, fdM_l, fdM_l, oC _ _ 105 _ (Or.inl rfl), oC _ _ 105 _ (Or.inl rfl), oC _ _ 105 _ (Or.inl rfl), oC _ _ 105 _ (Or.inl rfl), oC _ _ 105 _ (Or.inl rfl)]; omega
  have f106 : ∀ j : Int, fdM (fdM (fdM (fdM (fdM (fdC (fdC (fdC (fdC (fdC J a) b) c) d) f) a) b) c) d) f 106 j = J 106 j := fun j => fr 106 j (by decide) (by decide) (by decide) (by decide)
  have f92 : ∀ j : Int, fdM (fdM (fdM (fdM (fdM (fdC (fdC (fdC (fdC (fdC J a) b) c) d) f) a) b) c) d) f 92 j = J 92 j := fun j => fr 92 j (by decide) (by decide) (by decide) (by decide)
  refine ⟨?_, ?_, ?_, ?_, ?_, ?_, ?_, ?_, ?_, ?_, ?_, ?_, ?_, fun i i0 i1 => ?_, fun i i0 i1 => ?_, ?_⟩
  · rw [e105 0 (by decide)]; exact s1
  · rw [e105 32 (by decide)]; exact s2
  · rw [e105 51 (by decide)]; exact s3
  · rw [f106, f92]; omega
  · rw [f106, f92]; omega
  · rw [f106, f92]; omega
  · rw [f106, f92]; omega
  · rw [f106, f92]; omega
  · rw [l0, l1]; omega
  · rw [e0 15 (by decide), e105 12 (by decide)]; exact s10
  · rw [e0 16 (by decide), e105 63 (by decide)]; exact s11
  · rw [e0 18 (by decide), e105 1 (by decide)]; exact s12
  · rw [e0 17 (by decide), e105 67 (by decide)]; exact s13
  · rw [oM _ _ 89 _ (Or.inr rfl), oM _ _ 89 _ (Or.inr rfl), oM _ _ 89 _ (Or.inr rfl), oM _ _ 89 _ (Or.inr rfl), oM _ _ 89 _ (Or.inr rfl)]
    have st : ∀ (K L : JI) (a : Int), K 0 13 = L 105 7 → (K 89 i = L 110 i ∧ 0 ≤ L 110 i ∧ L 110 i ≤ 255) → fdC K a 89 i = fdM L a 110 i ∧ 0 ≤ fdM L a 110 i ∧ fdM L a 110 i ≤ 255 := fun K L a h1 h2 => by
      rw [fdC_89, fdM_110]; exact ft_eq h1 h2
    have cl : ∀ x j, x = 105 ∨ x = 110 → fdC (fdC (fdC (fdC (fdC J a) b) c) d) f x j = J x j := fun x j h => by rw [oC _ _ x _ h, oC _ _ x _ h, oC _ _ x _ h, oC _ _ x _ h, oC _ _ x _ h]
    refine st _ _ f ?_ (st _ _ d ?_ (st _ _ c ?_ (st _ _ b ?_ (st _ _ a ?_ ?_))))
    · rw [fdC_l, fdC_l, fdC_l, fdC_l, fdM_l, fdM_l, fdM_l, fdM_l, cl 105 7 (Or.inl rfl), s9.1]
    · rw [fdC_l, fdC_l, fdC_l, fdM_l, fdM_l, fdM_l, cl 105 7 (Or.inl rfl), s9.1]
    · rw [fdC_l, fdC_l, fdM_l, fdM_l, cl 105 7 (Or.inl rfl), s9.1]
    · rw [fdC_l, fdM_l, cl 105 7 (Or.inl rfl), s9.1]
    · rw [cl 105 7 (Or.inl rfl), s9.1]
    · rw [cl 110 i (Or.inr rfl)]; exact s14 i i0 i1
  · rw [fr 91 i (by decide) (by decide) (by decide) (by decide), fr 142 i (by decide) (by decide) (by decide) (by decide)]; exact s15 i i0 i1
  · rw [fr 24 12 (by decide) (by decide) (by decide) (by decide)]; omega
end OPS
