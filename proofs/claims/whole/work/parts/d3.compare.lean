/-! PLANS: class and reference compared -/
theorem vT_16 {wn bn T : Int → Int} {x : SX} : vT wn bn 16 T (16 * x.1, x.2) = 16 * vT wn bn 1 T x := by
  unfold vT
  dsimp only
  omega
theorem MxH_16 {wn bn T : Int → Int} {os : List OF} {b n : Int} (h : MxH (Sq os) (vT wn bn 1 T) (fun _ => True) b n) : MxH (Sq (os.map (scO 16))) (vT wn bn 16 T) (fun _ => True) (16 * b) n := by
  rw [Sq_sc]
  refine MxH_m ?_
  have q := MxH_v (s := 16) (d := 0) (by decide) h
  rw [Int.add_zero] at q
  refine MxH_c (fun _ _ => Iff.rfl) (fun x _ _ => ?_) q
  rw [vT_16]
  omega
theorem MxB_16 {wn bn T : Int → Int} {os : List OF} {b : Int} : MxB (Sq (os.map (scO 16))) (vT wn bn 16 T) (16 * b) ↔ MxB (Sq os) (vT wn bn 1 T) b := by
  rw [Sq_sc]
  constructor
  · rintro ⟨h1, x, hx, vx⟩
    obtain ⟨y, hy, rfl⟩ := List.mem_map.1 hx
    rw [vT_16] at vx
    refine ⟨fun w hw => ?_, y, hy, by omega⟩
    have := h1 _ (List.mem_map.2 ⟨w, hw, rfl⟩)
    rw [vT_16] at this
    omega
  · rintro ⟨h1, x, hx, vx⟩
    refine ⟨fun w hw => ?_, _, List.mem_map.2 ⟨x, hx, rfl⟩, by rw [vT_16, vx]⟩
    obtain ⟨y, hy, rfl⟩ := List.mem_map.1 hw
    have := h1 y hy
    rw [vT_16]
    omega
theorem FsO_16 {wn bn : Int → Int} : ∀ {os : List OF} {T : Int → Int} {f : Nat → Int}, FsO wn bn 1 os T f → FsO wn bn 16 (os.map (scO 16)) T f
  | [], _, _, _ => by rw [List.map_nil, FsO]; trivial
  | o :: os, T, f, h => by
    rw [FsO] at h
    rw [List.map_cons, FsO]
    obtain ⟨⟨k, b, h1, h2, h3, h4, h5⟩, h6⟩ := h
    refine ⟨⟨k, 16 * b, h1, h2, ?_, ?_, fun k' hk' z => h5 k' hk' ?_⟩, fun k hk => FsO_16 (h6 k hk)⟩
    · rw [← List.map_cons]; exact MxB_16.2 h3
    · have := MxB_16.2 h4
      rw [Int.mul_sub] at this
      exact this
    · refine MxB_16.1 ?_
      rw [Int.mul_sub]
      exact z
theorem of0_G {J : JI} {c : Nat} {l : List CT} {ov : Int → Int} (hL : LsO (J (58 + 5 * c) 4) (J (58 + 5 * c + 1)) (J (58 + 5 * c + 2)) l) (h64 : l.length ≤ 64) (hov : ∀ p : Int, 0 ≤ p → p < 10 → J 4 (10 + p) = ov p) : eqO (of0 J c) (scO 16 (ofG ov 1 (fun _ => 0) l)) := by
  obtain ⟨h1, h2⟩ := hL
  have hm : (J (58 + 5 * c) 4).toNat = l.length := by omega
  refine ⟨hm, fun k hk => ?_⟩
  have hk' : k < l.length := by rw [← hm]; exact hk
  have hx : ∀ p : Int, 0 ≤ p → p < 10 → J (58 + 5 * c + 2) (10 * k + p) = lvG l k p := fun p x y => by
    have := (h2 k (by omega) l[k] (by simp [hk']) p x y).2
    unfold lvG
    rw [if_pos ⟨x, y⟩, List.getElem?_eq_getElem hk']
    exact this
  refine ⟨?_, funext fun p => ?_⟩
  · show 16 * ovK J (58 + 5 * c) k = 16 * (1 * sm (fun p => ov p * lvG l k p) 10 - 0)
    have : ovK J (58 + 5 * c) k = sm (fun p => ov p * lvG l k p) 10 := sm_congr 10 (fun p x y => by rw [hx p x (by omega), hov p x (by omega), Int.mul_comm])
    rw [this]
    omega
  · show lfC J c k p = lvG l k p
    unfold lfC
    by_cases q : 0 ≤ p ∧ p < 10
    · rw [if_pos q]; exact hx p q.1 q.2
    · rw [if_neg q]; unfold lvG; rw [if_neg q]
/-- the class's cuttings are those of the lists lc -/
def LsC (J : JI) (lc : Int → List CT) : Prop := ∀ c : Nat, c < 3 → LsO (J (58 + 5 * c) 4) (J (58 + 5 * c + 1)) (J (58 + 5 * c + 2)) (lc c)
theorem PlK_N {J : JI} {lc : Int → List CT} {a b c : Int} (h : LsC J lc) : PlK J a b c ↔ PlN lc a b c := by
  have h0 := (h 0 (by omega)).1
  have h1 := (h 1 (by omega)).1
  have h2 := (h 2 (by omega)).1
  simp only [Nat.mul_zero, Nat.add_zero, Nat.reduceMul, Nat.reduceAdd, Int.natCast_zero, Int.cast_ofNat_Int, Int.natCast_one] at h0 h1 h2
  unfold PlK PlN
  constructor
  · rintro ⟨x, y, z⟩
    exact ⟨fun q => by have := x q; omega, fun q => by have := y q; omega, fun q => by have := z q; omega⟩
  · rintro ⟨x, y, z⟩
    exact ⟨fun q => by have := x q; omega, fun q => by have := y q; omega, fun q => by have := z q; omega⟩
theorem lyC_G {J : JI} {lc : Int → List CT} {a b c : Int} {ov : Int → Int} (h : LsC J lc) (hP : PlN lc a b c) (ha : 0 ≤ a) (hb : 0 ≤ b) (hc : 0 ≤ c) (hov : ∀ p : Int, 0 ≤ p → p < 10 → J 4 (10 + p) = ov p) : eqOs (lyC J a b c) ((ofLs lc ov 1 (fun _ _ => 0) (fun i => clA a b i) 0 (a + b + c).toNat).map (scO 16)) := by
  obtain ⟨N, hN⟩ : ∃ N : Nat, a + b + c = N := ⟨(a + b + c).toNat, by omega⟩
  unfold lyC
  rw [hN, show ((N : Int)).toNat = N by omega]
  have key : ∀ (j i : Nat), i + j = N → eqOs (lyL (fun i => of0 J (clR b c i)) j) ((ofLs lc ov 1 (fun _ _ => 0) (fun i => clA a b i) i j).map (scO 16)) := by
    intro j
    induction j with
    | zero => intro i _; rw [lyL, ofLs, List.map_nil, eqOs]; trivial
    | succ j ih =>
      intro i e
      rw [lyL, ofLs, List.map_cons, eqOs]
      refine ⟨?_, ih (i + 1) (by omega)⟩
      have ec : clA a b i = ((clR b c j : Nat) : Int) := by
        unfold clA clR
        by_cases x : (i : Int) < a
        · rw [if_pos x, if_neg (by omega), if_neg (by omega)]; rfl
        · rw [if_neg x]
          by_cases y : (i : Int) < a + b
          · rw [if_pos y, if_neg (by omega), if_pos (by omega)]; rfl
          · rw [if_neg y, if_pos (by omega)]; rfl
      have h64 : (lc (clA a b i)).length ≤ 64 := by
        unfold clA
        by_cases x : (i : Int) < a
        · rw [if_pos x]; exact hP.1 (by omega)
        · rw [if_neg x]
          by_cases y : (i : Int) < a + b
          · rw [if_pos y]; exact hP.2.1 (by omega)
          · rw [if_neg y]; exact hP.2.2 (by omega)
      have c3 : clR b c j < 3 := by unfold clR; (repeat' split) <;> omega
      rw [ec] at h64 ⊢
      exact of0_G (h _ c3) h64 hov
  exact key N 0 (by omega)
/-- what both reckon as best is the same -/
theorem bs_e {J : JI} {lc : Int → List CT} {a b c : Int} {ov wn bn : Int → Int} {B n : Int} (h : LsC J lc) (hv : vlP a b c) (hP : PlN lc a b c) (hov : ∀ p : Int, 0 ≤ p → p < 10 → J 4 (10 + p) = ov p) (hwn : ∀ p : Int, 0 ≤ p → p < 10 → wnC J p = wn p ∧ bnC J p = bn p) (hB : BsO J a b c) (hM : MxH (Sq (ofLs lc ov 1 (fun _ _ => 0) (fun i => clA a b i) 0 (a + b + c).toNat)) (vT wn bn 1 (fun _ => 0)) (fun _ => True) B n) : J 51 (spt a b c) = B ∧ (n ≤ 1000000000 → J 52 (spt a b c) = n) := by
  have m := MxH_16 hM
  rw [← Sq_e (lyC_G h hP hv.1 hv.2.1 hv.2.2.1 hov)] at m
  have m' : MxH (Sq (lyC J a b c)) (vT (wnC J) (bnC J) 16 (fun _ => 0)) (fun _ => True) (16 * B) n := by
    refine MxH_c (fun _ _ => Iff.rfl) (fun x _ _ => ?_) m
    unfold vT
    congr 2
    exact sm_congr 10 (fun p y z => by rw [(hwn p y (by omega)).1, (hwn p y (by omega)).2])
  obtain ⟨u1, u2⟩ := MxH_u hB.2.1 m'
  have n0 := m'.2.2.1
  have n1 := hB.2.1.2.2.1
  have n2 := hB.2.2.2
  exact ⟨by omega, fun z => by omega⟩
theorem vT_c {wn bn wn' bn' T : Int → Int} {t : Int} (hwn : ∀ p : Int, 0 ≤ p → p < 10 → wn' p = wn p ∧ bn' p = bn p) : vT wn' bn' t T = vT wn bn t T := by
  funext x
  unfold vT
  congr 2
  exact sm_congr 10 (fun p y z => by rw [(hwn p y (by omega)).1, (hwn p y (by omega)).2])
theorem FsO_w {wn bn wn' bn' : Int → Int} {t : Int} (hwn : ∀ p : Int, 0 ≤ p → p < 10 → wn' p = wn p ∧ bn' p = bn p) : ∀ {os : List OF} {T : Int → Int} {f : Nat → Int}, FsO wn bn t os T f → FsO wn' bn' t os T f
  | [], _, _, _ => by rw [FsO]; trivial
  | o :: os, T, f, h => by
    rw [FsO] at h ⊢
    obtain ⟨⟨k, b, h1, h2, h3, h4, h5⟩, h6⟩ := h
    refine ⟨⟨k, b, h1, h2, by rw [vT_c hwn]; exact h3, by rw [vT_c hwn]; exact h4, fun k' hk' z => h5 k' hk' (by rw [vT_c hwn] at z; exact z)⟩, fun k hk => FsO_w hwn (h6 k hk)⟩
theorem eqOs_s : ∀ {os os' : List OF}, eqOs os os' → eqOs os' os
  | [], [], _ => by rw [eqOs]; trivial
  | [], _ :: _, h => by rw [eqOs] at h <;> first | exact h.elim | (intros; simp)
  | _ :: _, [], h => by rw [eqOs] at h <;> first | exact h.elim | (intros; simp)
  | o :: os, o' :: os', h => by
    rw [eqOs] at h ⊢
    obtain ⟨⟨h1, h2⟩, h3⟩ := h
    exact ⟨⟨h1.symm, fun k hk => by rw [← h1] at hk; exact ⟨((h2 k hk).1).symm, ((h2 k hk).2).symm⟩⟩, eqOs_s h3⟩
theorem eqOs_n : ∀ {os os' : List OF}, eqOs os os' → os.length = os'.length
  | [], [], _ => rfl
  | [], _ :: _, h => by rw [eqOs] at h <;> first | exact h.elim | (intros; simp)
  | _ :: _, [], h => by rw [eqOs] at h <;> first | exact h.elim | (intros; simp)
  | o :: os, o' :: os', h => by
    rw [eqOs] at h
    rw [List.length_cons, List.length_cons, eqOs_n h.2]
/-- the first is the same -/
theorem fi_e {J : JI} {lc : Int → List CT} {ov wn bn : Int → Int} {f : Nat → Int} (h : LsC J lc) (hv : vlP (J 2 0) (J 2 1) (J 2 2)) (hP : PlN lc (J 2 0) (J 2 1) (J 2 2)) (hov : ∀ p : Int, 0 ≤ p → p < 10 → J 4 (10 + p) = ov p) (hwn : ∀ p : Int, 0 ≤ p → p < 10 → wnC J p = wn p ∧ bnC J p = bn p) (hF : FiI J) (hM : FsO wn bn 1 (ofLs lc ov 1 (fun _ _ => 0) (fun i => clA (J 2 0) (J 2 1) i) 0 (J 2 0 + J 2 1 + J 2 2).toNat) (fun _ => 0) f) : ∀ i : Nat, (i : Int) < J 2 0 + J 2 1 + J 2 2 → J 55 i = f i := by
  intro i hi
  have m := FsO_w (wn' := wnC J) (bn' := bnC J) hwn (FsO_e (eqOs_s (lyC_G h hP hv.1 hv.2.1 hv.2.2.1 hov)) (FsO_16 hM))
  refine FsO_u _ _ _ _ hF m i ?_
  unfold lyC
  rw [lyL_n]
  omega
