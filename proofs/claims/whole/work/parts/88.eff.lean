/-! PARSER 9: what a turn changes; class and reference side by side -/
def FrM (K L K' L' : JI) : Prop := (∀ a i, ¬ (a = 105 ∧ (8 ≤ i ∧ i ≤ 10 ∨ i = 12 ∨ i = 13 ∨ i = 16 ∨ i = 19 ∨ i = 22 ∨ i = 23)) → ¬ (112 ≤ a ∧ a ≤ 115) → K' a i = K a i) ∧ ∀ a i, ¬ (a = 105 ∧ i = 11) → L' a i = L a i
def FrC (tr : Nat) (J J' : JI) : Prop := (∀ a i, ¬ (a = 104 ∧ 3 ≤ i ∧ i ≤ 7) → ¬ (a = tr ∧ i = 12) → ¬ a = tr + 9 → ¬ a = tr + 10 → J' a i = J a i) ∧ (∀ i, i < J tr 12 → J' (tr + 9) i = J (tr + 9) i ∧ J' (tr + 10) i = J (tr + 10) i) ∧ J tr 12 ≤ J' tr 12
def cC (tr : Nat) (J : JI) : Int → Int × Int := fun i => (J (tr + 9) i, J (tr + 10) i)
theorem FrM_r (K L : JI) : FrM K L K L := ⟨fun _ _ _ _ => rfl, fun _ _ _ => rfl⟩
theorem FrM_t {K L K1 L1 K2 L2 : JI} (h : FrM K L K1 L1) (g : FrM K1 L1 K2 L2) : FrM K L K2 L2 := ⟨fun a i x y => (g.1 a i x y).trans (h.1 a i x y), fun a i x => (g.2 a i x).trans (h.2 a i x)⟩
theorem FrC_r (tr : Nat) (J : JI) : FrC tr J J := ⟨fun _ _ _ _ _ _ => rfl, fun _ _ => ⟨rfl, rfl⟩, Int.le_refl _⟩
theorem FrC_t {tr : Nat} {J J1 J2 : JI} (h : FrC tr J J1) (g : FrC tr J1 J2) : FrC tr J J2 := ⟨fun a i x y z w => (g.1 a i x y z w).trans (h.1 a i x y z w), fun i hi => ⟨(g.2.1 i (by have := h.2.2; omega)).1.trans (h.2.1 i hi).1, (g.2.1 i (by have := h.2.2; omega)).2.trans (h.2.1 i hi).2⟩, by have := h.2.2; have := g.2.2; omega⟩
def PR (tr : Nat) (b : Int) (q : List (Int × Int)) (J K L : JI) : Prop :=
  TK J K L ∧ K 105 13 = 0 ∧ (K 105 19 = J 104 7 ∧ 0 ≤ J 104 7 ∧ J 104 7 ≤ 50) ∧ (K 105 22 = q.length ∧ Pl (K 114) (K 115) q ∧ Pk (K 105 16) q) ∧ K 105 23 = b ∧ (0 ≤ K 105 16 ∧ K 105 16 + q.length ≤ J 104 4) ∧ (0 ≤ J tr 12 ∧ J tr 12 ≤ J 104 4) ∧ (∀ i : Nat, i < 5 → L 116 i = cws.getD (4 + i) 0)
theorem PR_KP {tr : Nat} {b : Int} {q : List (Int × Int)} {J K L : JI} (h : PR tr b q J K L) (hb : 0 ≤ b ∧ b ≤ 8) : KP b q K L := by
  obtain ⟨h1, h2, h3, h4, h5, h6, h7, h8⟩ := h
  obtain ⟨t1, t2, t3, t4, t5, t6, t7, t8, t9, t10⟩ := h1
  exact ⟨h2, h4, h5, by omega, by omega, h8, by omega, hb, fun c => by have := t9 (by omega); omega⟩
theorem PR_lt {tr : Nat} {b : Int} {q : List (Int × Int)} {J K L : JI} (h : PR tr b q J K L) (hk : ¬ J 104 3 = 0) : K 105 16 + q.length < 400 ∧ J tr 12 < 400 ∧ J 104 4 < J 104 5 := by
  obtain ⟨h1, h2, h3, h4, h5, h6, h7, h8⟩ := h
  obtain ⟨t1, t2, t3, t4, t5, t6, t7, t8, t9, t10⟩ := h1
  have := t7 hk
  omega
def Ef (K L K' L' : JI) (q' : List (Int × Int)) (s' : CS) (lv b' : Int) : Prop := K' 105 13 = 0 ∧ (K' 105 22 = q'.length ∧ Pl (K' 114) (K' 115) q') ∧ cs K' = s' ∧ K' 105 19 = lv ∧ K' 105 23 = b' ∧ FrM K L K' L' ∧ ∃ K2 K1, (K2 105 7 = K 105 7 ∧ K2 105 9 = K 105 9 ∧ ∀ i, K2 110 i = K 110 i) ∧ NX K2 L K1 L' ∧ (∀ i, 7 ≤ i → i ≤ 10 → K' 105 i = K1 105 i) ∧ ∀ i, K' 110 i = K1 110 i
theorem cs_w {K : JI} {a : Nat} {k v : Int} (h : ¬ a = 112) (h1 : ¬ a = 113) (h2 : ¬ (a = 105 ∧ k = 16)) : cs (w2 K a k v) = cs K := by
  unfold cs
  have e1 : w2 K a k v 112 = K 112 := by funext j; exact w2_n (by omega)
  have e2 : w2 K a k v 113 = K 113 := by funext j; exact w2_n (by omega)
  rw [e1, e2, w2_n (by omega)]
theorem cs_e {K K1 : JI} (h : ∀ a i, ¬ (a = 105 ∧ 8 ≤ i ∧ i ≤ 10) → K1 a i = K a i) : cs K1 = cs K := by
  unfold cs
  have e1 : K1 112 = K 112 := by funext j; exact h _ _ (by omega)
  have e2 : K1 113 = K 113 := by funext j; exact h _ _ (by omega)
  rw [e1, e2, h _ _ (by omega)]
theorem cs_add {K : JI} {n o v : Int} : cs (w2 (w2 (w2 K 112 n o) 113 n v) 105 16 (n + 1)) = (up1 (K 112) n o, up1 (K 113) n v, n + 1) := by
  unfold cs
  have e1 : w2 (w2 (w2 K 112 n o) 113 n v) 105 16 (n + 1) 112 = up1 (K 112) n o := by
    rw [← w2_up]; rfl
  have e2 : w2 (w2 (w2 K 112 n o) 113 n v) 105 16 (n + 1) 113 = up1 (K 113) n v := by
    funext j
    show w2 (w2 K 112 n o) 113 n v 113 j = _
    rw [w2_up]; rfl
  rw [e1, e2]; rfl
section EF
variable {K L K1 L1 : JI} {b o v : Int} {q r : List (Int × Int)}
theorem ef_lef (h : KP b q K L) (x : NX K L K1 L1) : Ef K L (lef o v K K1) L1 q (up1 (K 112) (K 105 16) o, up1 (K 113) (K 105 16) v, K 105 16 + 1) (K 105 19 + 1) b := by
  obtain ⟨h1, h2, h3, h4, h5, h6, h7, h8, h9⟩ := h
  obtain ⟨xo, xl⟩ := NX_o x
  have x13 := xo 105 13 (by omega)
  have x22 := xo 105 22 (by omega)
  have x23 := xo 105 23 (by omega)
  refine ⟨x13.trans h1, ⟨x22.trans h2.1, Pl_congr q (fun i _ _ => ⟨xo 114 i (by omega), xo 115 i (by omega)⟩) h2.2.1⟩, ?_, rfl, x23.trans h3, ⟨fun a i g1 g2 => ?_, xl⟩, K, K1, ⟨rfl, rfl, fun _ => rfl⟩, x, fun i g1 g2 => ?_, fun i => rfl⟩
  · unfold lef
    rw [cs_w (by decide) (by decide) (by omega), cs_add]
    have e1 : K1 112 = K 112 := by funext j; exact xo _ _ (by omega)
    have e2 : K1 113 = K 113 := by funext j; exact xo _ _ (by omega)
    rw [e1, e2]
  · unfold lef
    simp (disch := omega) only [w2_n]
    exact xo a i (by omega)
  · unfold lef
    simp (disch := omega) only [w2_n]
theorem ef_opn (h : KP b q K L) (x : NX K L K1 L1) : Ef K L (opn o K K1) L1 ((o, 0) :: q) (cs K) (K 105 19) (b + 1) := by
  obtain ⟨h1, h2, h3, h4, h5, h6, h7, h8, h9⟩ := h
  obtain ⟨xo, xl⟩ := NX_o x
  have x13 := xo 105 13 (by omega)
  have x19 := xo 105 19 (by omega)
  have x23 := xo 105 23 (by omega)
  refine ⟨x13.trans h1, ⟨?_, ?_, ?_, Pl_congr q (fun i i0 i1 => ⟨?_, ?_⟩) h2.2.1⟩, ?_, x19, ?_, ⟨fun a i g1 g2 => ?_, xl⟩, K, K1, ⟨rfl, rfl, fun _ => rfl⟩, x, fun i g1 g2 => ?_, fun i => rfl⟩
  · show K 105 22 + 1 = _
    rw [h2.1]; simp only [List.length_cons]; omega
  · unfold opn
    rw [h2.1]
    simp only [w2_ap, and_self, if_true, true_and, false_and, if_false, Nat.reduceEqDiff]
  · unfold opn
    rw [h2.1]
    simp only [w2_ap, and_self, if_true, true_and, false_and, if_false, Nat.reduceEqDiff]
  · unfold opn
    simp (disch := omega) only [w2_n]
    exact xo _ _ (by omega)
  · unfold opn
    simp (disch := omega) only [w2_n]
    exact xo _ _ (by omega)
  · unfold opn
    rw [cs_w (by decide) (by decide) (by omega), cs_w (by decide) (by decide) (by omega), cs_w (by decide) (by decide) (by omega), cs_w (by decide) (by decide) (by omega), cs_e xo]
  · show K 105 23 + 1 = _
    omega
  · unfold opn
    simp (disch := omega) only [w2_n]
    exact xo a i (by omega)
  · unfold opn
    simp (disch := omega) only [w2_n]
theorem psh_pl {K : JI} (h2 : K 105 22 = q.length) (h3 : Pl (K 114) (K 115) q) : (psh o v K) 105 22 = (((o, v) :: q).length : Nat) ∧ Pl ((psh o v K) 114) ((psh o v K) 115) ((o, v) :: q) := by
  refine ⟨?_, ?_, ?_, Pl_congr q (fun i i0 i1 => ⟨?_, ?_⟩) h3⟩
  · show K 105 22 + 1 = _
    rw [h2]; simp only [List.length_cons]; omega
  · unfold psh
    rw [h2]
    simp only [w2_ap, and_self, if_true, true_and, false_and, if_false, Nat.reduceEqDiff]
  · unfold psh
    rw [h2]
    simp only [w2_ap, and_self, if_true, true_and, false_and, if_false, Nat.reduceEqDiff]
  · unfold psh
    simp (disch := omega) only [w2_n]
  · unfold psh
    simp (disch := omega) only [w2_n]
theorem psh_cs {K : JI} : cs (psh o v K) = cs K := by
  unfold psh
  rw [cs_w (by decide) (by decide) (by omega), cs_w (by decide) (by decide) (by omega), cs_w (by decide) (by decide) (by omega)]
theorem ef_ar {K2 L2 : JI} (h : KP b (r ++ q) K L) (s : ST r q K K1) (x : NX (psh o 0 K1) L K2 L2) : Ef K L K2 L2 ((o, 0) :: q) (em r (cs K)) (K 105 19) b := by
  obtain ⟨h1, h2, h3, h4, h5, h6, h7, h8, h9⟩ := h
  obtain ⟨s1, s2, s3⟩ := s
  obtain ⟨xo, xl⟩ := NX_o x
  have p := psh_pl (o := o) (v := 0) s1 (Pl_congr q (fun i _ _ => ⟨s3 114 i (by omega) (by decide) (by decide), s3 115 i (by omega) (by decide) (by decide)⟩) (Pl_app r q h2.2.1))
  have x13 := xo 105 13 (by omega)
  have x22 := xo 105 22 (by omega)
  refine ⟨x13.trans ((s3 105 13 (by omega) (by decide) (by decide)).trans h1), ⟨x22.trans p.1, Pl_congr _ (fun i _ _ => ⟨xo 114 i (by omega), xo 115 i (by omega)⟩) p.2⟩, ?_, (xo 105 19 (by omega)).trans (s3 105 19 (by omega) (by decide) (by decide)), (xo 105 23 (by omega)).trans ((s3 105 23 (by omega) (by decide) (by decide)).trans h3), ⟨fun a i g1 g2 => ?_, xl⟩, psh o 0 K1, K2, ⟨s3 105 7 (by omega) (by decide) (by decide), s3 105 9 (by omega) (by decide) (by decide), fun i => s3 110 i (by omega) (by decide) (by decide)⟩, x, fun _ _ _ => rfl, fun _ => rfl⟩
  · rw [cs_e xo, psh_cs, s2]
  · rw [xo a i (by omega)]
    unfold psh
    simp (disch := omega) only [w2_n]
    exact s3 a i (by omega) (by omega) (by omega)
theorem ef_not (h : KP b q K L) {K2 L2 : JI} (x : NX (psh 27 0 K) L K2 L2) : Ef K L K2 L2 ((27, 0) :: q) (cs K) (K 105 19) b :=
  ef_ar (r := []) h ⟨h.2.1.1, rfl, fun _ _ _ _ _ => rfl⟩ x
theorem ef_cls {K2 : JI} (h : KP b (r ++ (o, 0) :: q) K L) (x : NX K L K1 L1) (s : ST r ((o, 0) :: q) K1 K2) : Ef K L (cls1 K2) L1 q (em r (cs K)) (K 105 19) (b - 1) := by
  obtain ⟨h1, h2, h3, h4, h5, h6, h7, h8, h9⟩ := h
  obtain ⟨s1, s2, s3⟩ := s
  obtain ⟨xo, xl⟩ := NX_o x
  have z := fun a i g1 g2 g3 => (s3 a i g1 g2 g3)
  have p := Pl_app _ _ (Pl_app r _ h2.2.1 : Pl (K 114) (K 115) ([(o, 0)] ++ q))
  simp only [List.length_cons] at s1
  refine ⟨(s3 105 13 (by omega) (by decide) (by decide)).trans ((xo 105 13 (by omega)).trans h1), ⟨?_, Pl_congr _ (fun i _ _ => ⟨(s3 114 i (by omega) (by decide) (by decide)).trans (xo 114 i (by omega)), (s3 115 i (by omega) (by decide) (by decide)).trans (xo 115 i (by omega))⟩) p⟩, ?_, (s3 105 19 (by omega) (by decide) (by decide)).trans (xo 105 19 (by omega)), ?_, ⟨fun a i g1 g2 => ?_, xl⟩, K, K1, ⟨rfl, rfl, fun _ => rfl⟩, x, fun i g1 g2 => ?_, fun i => s3 110 i (by omega) (by decide) (by decide)⟩
  · show K2 105 22 - 1 = _
    omega
  · unfold cls1
    rw [cs_w (by decide) (by decide) (by omega), cs_w (by decide) (by decide) (by omega), s2, cs_e xo]
  · show K2 105 23 - 1 = _
    rw [s3 105 23 (by omega) (by decide) (by decide), xo 105 23 (by omega), h3]
  · unfold cls1
    simp (disch := omega) only [w2_n]
    rw [s3 a i (by omega) (by omega) (by omega)]
    exact xo a i (by omega)
  · unfold cls1
    simp (disch := omega) only [w2_n]
    exact s3 _ _ (by omega) (by decide) (by decide)
theorem ef_cmp {K2 : JI} (h : KP b (r ++ q) K L) (x : NX K L K1 L1) (s : ST r q K1 K2) : Ef K L (psh o 0 K2) L1 ((o, 0) :: q) (em r (cs K)) (K 105 19) b := by
  obtain ⟨h1, h2, h3, h4, h5, h6, h7, h8, h9⟩ := h
  obtain ⟨s1, s2, s3⟩ := s
  obtain ⟨xo, xl⟩ := NX_o x
  have p := psh_pl (o := o) (v := 0) s1 (Pl_congr q (fun i _ _ => ⟨(s3 114 i (by omega) (by decide) (by decide)).trans (xo 114 i (by omega)), (s3 115 i (by omega) (by decide) (by decide)).trans (xo 115 i (by omega))⟩) (Pl_app r q h2.2.1))
  refine ⟨(s3 105 13 (by omega) (by decide) (by decide)).trans ((xo 105 13 (by omega)).trans h1), p, ?_, (s3 105 19 (by omega) (by decide) (by decide)).trans (xo 105 19 (by omega)), (s3 105 23 (by omega) (by decide) (by decide)).trans ((xo 105 23 (by omega)).trans h3), ⟨fun a i g1 g2 => ?_, xl⟩, K, K1, ⟨rfl, rfl, fun _ => rfl⟩, x, fun i g1 g2 => ?_, fun i => s3 110 i (by omega) (by decide) (by decide)⟩
  · rw [psh_cs, s2, cs_e xo]
  · unfold psh
    simp (disch := omega) only [w2_n]
    rw [s3 a i (by omega) (by omega) (by omega)]
    exact xo a i (by omega)
  · unfold psh
    simp (disch := omega) only [w2_n]
    exact s3 _ _ (by omega) (by decide) (by decide)
theorem ef_ao {K2 L2 : JI} (h : KP b (r ++ q) K L) (s : ST r q K K1) (x : NX (emt o 0 (psh o (K1 105 16) K1)) L K2 L2) : Ef K L K2 L2 ((o, (em r (cs K)).2.2) :: q) (up1 (em r (cs K)).1 (em r (cs K)).2.2 o, up1 (em r (cs K)).2.1 (em r (cs K)).2.2 0, (em r (cs K)).2.2 + 1) (K 105 19) b := by
  obtain ⟨h1, h2, h3, h4, h5, h6, h7, h8, h9⟩ := h
  obtain ⟨s1, s2, s3⟩ := s
  obtain ⟨xo, xl⟩ := NX_o x
  have p := psh_pl (o := o) (v := K1 105 16) s1 (Pl_congr q (fun i _ _ => ⟨s3 114 i (by omega) (by decide) (by decide), s3 115 i (by omega) (by decide) (by decide)⟩) (Pl_app r q h2.2.1))
  have e16 : (em r (cs K)).2.2 = K1 105 16 := by rw [← s2]; rfl
  rw [e16]
  refine ⟨(xo 105 13 (by omega)).trans ((s3 105 13 (by omega) (by decide) (by decide)).trans h1), ⟨(xo 105 22 (by omega)).trans p.1, Pl_congr _ (fun i _ _ => ⟨xo 114 i (by omega), xo 115 i (by omega)⟩) p.2⟩, ?_, (xo 105 19 (by omega)).trans (s3 105 19 (by omega) (by decide) (by decide)), (xo 105 23 (by omega)).trans ((s3 105 23 (by omega) (by decide) (by decide)).trans h3), ⟨fun a i g1 g2 => ?_, xl⟩, emt o 0 (psh o (K1 105 16) K1), K2, ⟨s3 105 7 (by omega) (by decide) (by decide), s3 105 9 (by omega) (by decide) (by decide), fun i => s3 110 i (by omega) (by decide) (by decide)⟩, x, fun _ _ _ => rfl, fun _ => rfl⟩
  · rw [cs_e xo]
    have e0 : (psh o (K1 105 16) K1) 105 16 = K1 105 16 := rfl
    unfold emt
    rw [cs_add, e0]
    have e1 : (psh o (K1 105 16) K1) 112 = (em r (cs K)).1 := by rw [← s2]; rfl
    have e2 : (psh o (K1 105 16) K1) 113 = (em r (cs K)).2.1 := by rw [← s2]; rfl
    rw [e1, e2]
  · rw [xo a i (by omega)]
    unfold emt psh
    simp (disch := omega) only [w2_n]
    exact s3 a i (by omega) (by omega) (by omega)
end EF
theorem PR_of {tr : Nat} {b b' lv : Int} {q q' : List (Int × Int)} {s' : CS} {J J2 J3 K L K' L' : JI} (h : PR tr b q J K L) (hJ : J2 104 2 = J 104 2 ∧ J2 104 5 = J 104 5 ∧ ∀ i, J2 89 i = J 89 i) (g : GN J2 J3) (f : Ef K L K' L' q' s' lv b') (hl : lv = J3 104 7 ∧ 0 ≤ lv ∧ lv ≤ 50) (hp : Pk s'.2.2 q') (hs : 0 ≤ s'.2.2 ∧ s'.2.2 + q'.length ≤ J3 104 4) (ht : 0 ≤ J3 tr 12 ∧ J3 tr 12 ≤ J3 104 4) : PR tr b' q' J3 K' L' := by
  obtain ⟨h1, h2, h3, h4, h5, h6, h7, h8⟩ := h
  obtain ⟨f1, f2, f3, f4, f5, f6, K2, K1, ⟨e7, e9, e110⟩, x, f7, f8⟩ := f
  have h1' := h1
  obtain ⟨t1, t2, t3, t4, t5, t6, t7, t8, t9, t10⟩ := h1
  have z := TK_of (J := J2) (K := K2) (by rw [hJ.1, e7]; exact t1.1) (by rw [hJ.1]; omega) (fun i a c => by rw [hJ.2.2, e110]; rw [hJ.1] at c; exact t2 i a c) (by rw [hJ.2.1, e9]; omega) (by rw [hJ.2.1]; omega) g x
  have e16 : K' 105 16 = s'.2.2 := by rw [← f3]; rfl
  refine ⟨TK_c z.1 (fun _ _ _ => rfl) (fun _ => rfl) f7 f8 rfl, f1, ⟨by rw [f4]; exact hl.1, by omega, by omega⟩, ⟨f2.1, f2.2, by rw [e16]; exact hp⟩, f5, by rw [e16]; exact hs, ht, fun i hi => ?_⟩
  rw [f6.2 _ _ (by omega)]
  exact h8 i hi
theorem GN_o {J J1 : JI} (g : GN J J1) : ∀ a i, ¬ (a = 104 ∧ 3 ≤ i ∧ i ≤ 6) → J1 a i = J a i := by
  obtain ⟨f, t, kd, _, _, _, _, _, g7⟩ := g
  exact g7
theorem GN_f {J J1 : JI} (g : GN J J1) : J 104 5 ≤ J1 104 4 ∧ J1 104 4 ≤ J 104 2 := by
  obtain ⟨f, t, kd, ⟨g1, _⟩, g3, _⟩ := g
  rw [g3]
  exact ⟨g1.1, g1.2.1⟩
