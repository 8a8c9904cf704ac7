/-! THE INVARIANT: image, with the cells that it makes -/
theorem imN_s {R R' : RF} {k z : Nat} (hk : k < 2) (r20 : ∀ j, R' 20 j = R 20 j) (e : R 20 k = none) : imN (u2 R' 20 k (some z)) = imN R + 1 := by
  have r : ∀ j, ¬ j = k → u2 R' 20 k (some z) 20 j = R 20 j := fun j hj => by rw [u2_ite, if_neg (fun x => hj x.2)]; exact r20 j
  have rk : u2 R' 20 k (some z) 20 k = some z := by rw [u2_ite, if_pos ⟨rfl, rfl⟩]
  unfold imN
  rcases (show k = 0 ∨ k = 1 by omega) with rfl | rfl
  · rw [rk, r 1 (by omega), e]
    generalize (if (R 20 1).isSome then 1 else 0) = x
    show 1 + x = 0 + x + 1
    omega
  · rw [rk, r 0 (by omega), e]
    generalize (if (R 20 0).isSome then 1 else 0) = x
    show x + 1 = x + 0 + 1
    omega
section IMH
variable {dp t tr : Nat} {TS : Nat → Prop} {z z' : Nat} {kd kd' : KD} {R R' : RF} {J J' M M' : JI} {b4 b5 b6 b7 len sl : Nat}
/-- new cells beyond all that is there -/
theorem InvA_n (h : InvA t tr TS z kd R J M b4 b5 b6 b7 len sl) (hz : z ≤ z') (e : ∀ a, a < z → kd' a = kd a ∧ (∀ j, R' a j = R a j) ∧ (∀ j, J' a j = J a j) ∧ (∀ j, M' a j = M a j)) : InvA (t + 1) tr TS z' kd' R' J' M' b4 b5 b6 b7 len sl := by
  have hI := h.2.1.2.2.2.1
  have z144 := h.1.2.1.1
  have l4 : b4 < z := hI.1.2.1.1.1
  have l5 : b5 < z := hI.1.2.1.2.1.1
  have l6 : b6 < z := hI.1.2.1.2.2.1.1
  have l7 : b7 < z := hI.1.2.1.2.2.2.1
  have g : ∀ X : Nat → Int → Prop, FrGx X b4 b5 b6 b7 z kd J M R b4 b5 b6 b7 z' kd' J' M' R' := fun X => ⟨hz, fun a ha => ⟨(e a ha).1, fun j _ => (e a ha).2.1 j, fun i _ _ => (e a ha).2.2.1 i, (e a ha).2.2.2⟩, Or.inl rfl, Or.inl rfl, Or.inl rfl, Or.inl rfl⟩
  have ej : ∀ a, a < 144 → ∀ i, J' a i = J a i := fun a ha i => (e a (by omega)).2.2.1 i
  have eF : ∀ a, a < 144 → J' a = J a := fun a ha => funext fun i => ej a ha i
  have hI' : PlI z' kd' R' J' b4 b5 b6 b7 len sl := by
    obtain ⟨⟨⟨a, b, c, d⟩, ⟨x4, x5, x6, x7⟩, r⟩, s⟩ := PlI_k2 (J1 := J') hI (fun a i x => (e a (by omega)).2.2.1 i)
    have e44 : ∀ j, R' 44 j = R 44 j := fun j => (e 44 (by omega)).2.1 j
    exact ⟨⟨⟨(e44 4).trans a, (e44 5).trans b, (e44 6).trans c, (e44 7).trans d⟩, ⟨arO_x (g XP) x4, arO_x (g XP) x5, arO_x (g XP) x6, arO_x (g XP) x7⟩, r⟩, s⟩
  have hF' : FiK J' := FiK_c (ej 24 (by omega) _) (eF 4 (by omega)) (eF 2 (by omega)) (fun x i _ _ => ej x (by omega) i) h.2.1.2.2.2.2.1
  have hs := h.1.2.2.2.2.2.2.1
  have s2 := hs.2.1
  have s3 := hs.2.2.1
  have s16 := hs.2.2.2.2.2.2.2.2.2.2.2.2.2.2.2
  refine InvA_x h (g XA) (PW_x h.2.1 (g XP) hI' hF') (fun _ _ _ _ _ => rfl) (fun _ => rfl) (smO_p hs (fun a i x => ej a (by omega) i) (by rw [ej 105 (by omega)]; exact s2) (by rw [ej 105 (by omega)]; exact s3) (by rw [ej 24 (by omega)]; omega)) ?_
  rw [eF 107 (by omega)]
  exact CrI_c (fun a i x y => ej a (by omega) i) h.2.2.1.1
theorem ia_image {k : Int} (hd : 30 ≤ dp) (ht : t < 512) (h : InvA t tr TS z kd R J M b4 b5 b6 b7 len sl) : Ev (fun n => kf_184 n dp 0 z kd J M R k 0) (PostA t R len sl (fun n e J M => kf_192 n dp e 0 J M k 0)) := by
  have hI := h.1
  have hI' := hI
  obtain ⟨q1, q2, q3, q4, q5, q6, q7, q8, q9⟩ := hI
  obtain ⟨u1, u2, u3, u4, u5, u6, u7, u8, u9, u10, u11, u12, u13, u14, u15, u16, u17⟩ := q5
  obtain ⟨v1, v2, v3, v4, v5, v6, v7, v8, v9, v10, v11, v12, v13, v14, v15, v16, v17⟩ := q6
  simp only [Nat.reduceAdd] at v1 v2 v3 v4 v5 v6 v7
  clear u2
  have h8 := h.2.2.2.2.1.2.2
  have s16 := q7.2.2.2.2.2.2.2.2.2.2.2.2.2.2.2
  have im : ∀ j b : Nat, j < 2 → R 20 j = some b → imO z kd R J j b := fun j b hj e => by
    rcases q8 j hj with ⟨y, _⟩ | ⟨h', y⟩
    · rw [e] at y; cases y
    · have y1 := y.1
      rw [e] at y1; cases y1; exact y
  refine Ev_mono (o_image (P := fun _ z' kd' R' J' M' ck cm => ∃ (tr' : Nat) (TS' : Nat → Prop) (c4 c5 c6 c7 len' sl' : Nat), InvA (t + 1) tr' TS' z' kd' R' J' M' c4 c5 c6 c7 len' sl' ∧ ∀ CK CM, RmP R len sl CK CM → RmP R' len' sl' (CK + ck) (CM + cm)) (by omega) (smO_Bs (by omega) q7) q2.1 q3 (TrO_sh q2 q1) q1 ?_ ?_ v17 (fun hk => ?_) (fun _ => ?_) (fun hk a e => ?_) (fun hk e z' kd' J' M' R' N => ?_)) (fun r ev => ⟨r.1.2.1, r.1.2.2.1, r.1.2.2.2.1, r.1.2.2.2.2.1, r.1.2.2.2.2.2, rfl, Ev_mono ev (fun q y => by
    obtain ⟨a, a1, a2, a3⟩ := y
    exact ⟨by rw [a2, ← a1], a3⟩)⟩)
  · rw [v13]; exact u8
  · rw [v14]; exact u9
  · rcases q8 k.toNat (by omega) with ⟨y1, _⟩ | ⟨a, i1, i2, i3, i4, i5, i6, _⟩
    · exact Or.inl y1
    · exact Or.inr ⟨a, i1, i3, i5, i6⟩
  · exact ⟨tr, TS, b4, b5, b6, b7, len, sl, InvA_rf (by omega) h, RmP_e (fun _ => rfl)⟩
  · have ek : ((k.toNat : Nat) : Int) = k := by omega
    obtain ⟨i1, i2, i3, i4, i5, i6, _⟩ := im k.toNat a (by omega) e
    have eR : u2 R 20 k.toNat (some a) = R := by
      funext b j
      rw [u2_ite]
      by_cases c : b = 20 ∧ j = k.toNat
      · rw [if_pos c, c.1, c.2, e]
      · rw [if_neg c]
    have A := imgB (u := t + 1) (kk := k.toNat) (a := a) h (by omega) i3 i4 i5 i6 (fun b hb => h8 k.toNat a (by omega) e b hb) (fun j b hj hn e' => by
      rcases (show (k.toNat = 0 ∧ j = 1) ∨ (k.toNat = 1 ∧ j = 0) by omega) with ⟨c1, c2⟩ | ⟨c1, c2⟩
      · rw [c1] at e
        rw [c2] at e'
        have := q9 a b e e'
        omega
      · rw [c1] at e
        rw [c2] at e'
        exact q9 b a e' e) (fun J1 n a b c d => smO_k q7 (fun x i y => n x i (by omega)) a b c d (by rw [n 24 12 (by omega)]; omega)) (by omega)
    rw [eR, ek] at A
    exact ⟨tr, _, b4, b5, b6, b7, len, sl, A, RmP_e (fun _ => rfl)⟩
  · have ek : ((k.toNat : Nat) : Int) = k := by omega
    obtain ⟨n1, n2, n3, n4, _⟩ := N
    have hIl := h.2.1.2.2.2.1
    have l4 : b4 < z := hIl.1.2.1.1.1
    have l5 : b5 < z := hIl.1.2.1.2.1.1
    have l6 : b6 < z := hIl.1.2.1.2.2.1.1
    have l7 : b7 < z := hIl.1.2.1.2.2.2.1
    have z144 := q2.1
    have ez : ∀ a, a < 144 → ∀ i, J' a i = J a i := fun a ha i => (n4 a (by omega)).2.2.1 i
    have A := imgB (u := t + 1) (kk := k.toNat) (a := z) (InvA_n h (by omega) n4) (by omega) (by omega) (by omega) n2 n3 (fun b hb => by omega) (fun j b hj hn e' => by
      rw [(n4 20 (by omega)).2.1] at e'
      have := (im j b hj e').2.2.2.1
      omega) (fun J1 n a b c d => smO_k q7 (fun x i y => (n x i (by omega)).trans (ez x (by omega) i)) a b c d (by rw [n 24 12 (by omega), ez 24 (by omega)]; omega)) (by omega)
    rw [ek] at A
    refine ⟨tr, _, b4, b5, b6, b7, len, sl, A, fun CK CM ⟨a, b, p, q, r⟩ => ⟨a, b, p, ?_⟩⟩
    have ei := imN_s (z := z) (show k.toNat < 2 by omega) (fun j => (n4 20 (by omega)).2.1 j) e
    have ec : (clN 10).2.2 + (clN 3).2.2 ≤ 1000 := by decide
    rw [ei]
    omega
end IMH
