/-! making cells; the copy; calls -/
theorem CL_word {z : Nat × Nat × Nat × Nat} (h : z ∈ CL) : Cond.classLink (onN z.2.1) z.2.2.1 (clN z.2.2.2).1 ∈ lw_tbl := at_in (List.all_eq_true.mp CL_ok z h)
theorem SL_word {z : Nat × Nat × Nat × Nat} (h : z ∈ SLt) : Cond.methodLink (onN z.2.1) z.2.2.1 (snm z.2.2.2) ∈ lw_tbl := at_in (List.all_eq_true.mp SL_ok z h)
theorem AL_word {z : Nat × Nat × Nat × Nat} (h : z ∈ ALt) : Cond.classLink (onN z.2.1) z.2.2.1 (if z.2.2.2 = 16 then RX2 else RX3) ∈ lw_tbl := at_in (List.all_eq_true.mp AL_ok z h)
section S3
variable {X : GX} {q : MI} {p : Program} {e : Env} {R : Room} {s : State} {m : MethodId} {args : Array Value} {below : List Frame} {meth : Method} {c : Code} {E : State → Prop} {d MC MS : Nat}
variable {pc : Nat} {ls : LcT} {r : List Value} {σ : PS} {k n : Nat}
theorem w_push {τ : PS} {E1 : va_E} {H H1 : Heap} (hw : wldH X σ H) (h1 : τ.1 = σ.1 + 1) (he : pcell X τ σ.1 = E1) (h5 : ∀ b, b < σ.1 → pcell X τ b = pcell X σ b) (i1 : va_at X.1 cls (gb X + σ.1, E1) H1) (i2 : H1.size = gb X + σ.1 + 1) (i3 : ∀ z : Nat, z < gb X + σ.1 → H1[z]? = H[z]?) : wldH X τ H1 := by
  refine ⟨by rw [i2, h1]; omega, ?_⟩
  rw [← pws_push h1 he h5]
  refine va_P.app (hw.2.kept (fun j x hx => i3 x.1 (by have := (hw.2 j x hx).lt; rw [hw.1] at this; exact this))) (fun j x hx => ?_)
  have hz : j < 1 := (List.getElem?_eq_some_iff.mp hx).1
  rw [show j = 0 by omega] at hx
  cases hx
  exact i1
theorem s_grow {H H1 : Heap} {locs : List Loc} (hw : wldH X σ H) (hs : va_S (gA X) s.heap H locs) (i2 : H1.size = gb X + σ.1 + 1) (i3 : ∀ z : Nat, z < gb X + σ.1 → H1[z]? = H[z]?) : va_S (gA X) s.heap H1 locs :=
  ⟨by have := hs.1; rw [hw.1] at this; omega, fun z g1 g2 => (i3 z (by have := hs.1; rw [hw.1] at this; omega)).trans (hs.2.1 z g1 g2), hs.2.2⟩
theorem pc_alo {c0 m0 : Nat} : (alo σ c0 m0).2.1 σ.1 = (c0, m0) := by simp [va_up]
theorem s_newa (ac : AC X q p s m args meth c) (hR : Rn R d MC MS) {t : ArrayType} {x : Int32} (hd : decode q.2.2.1 pc = .ok (.newarray t, 2)) (ht : akd t ≠ 99) (h0 : ¬ x < 0) (hB : x.toNatClampNeg ≤ 10000000) (hk1 : k + 1 ≤ MC) (hn1 : n + x.toNatClampNeg ≤ MS)
    (g : OK X q p e R s m args below meth c E (pc + 2) ls (.ref σ.1 :: r) (alo σ (akd t) x.toNatClampNeg) (k + 1) (n + x.toNatClampNeg)) : OK X q p e R s m args below meth c E pc ls (.int x :: r) σ k n := by
  intro H locs lsM hw hs hl
  obtain ⟨hx, hb, hml, hlk, hown, hts, hgf, hini⟩ := ac
  obtain ⟨r1, r2, r3, r4⟩ := hR
  have tc : (t = .int ∨ t = .long ∨ t = .boolean) := by cases t <;> simp [akd] at ht ⊢
  have key : ∀ (H1 : Heap) (cA : ClassId), H1[gb X + σ.1]? = some (arrV cA x.toNatClampNeg (fun _ => defaultValue (newarray.typeOf t))) → H1.size = gb X + σ.1 + 1 → (∀ z, z < gb X + σ.1 → H1[z]? = H[z]?) → cA = gt X (akd t) → W p (gl X) e R s m args below meth c H1 locs (k + 1) (n + x.toNatClampNeg) E (F0 m (pc + 2) lsM (.ref (gb X + σ.1) :: r.map (mv X))) := by
    intro H1 cA i1 i2 i3 i4
    subst i4
    refine g H1 locs lsM (w_push hw rfl rfl (fun b hb => pcell_alo hb) ?_ i2 i3) (s_grow hw hs i2 i3) hl
    rcases tc with rfl | rfl | rfl
    · rw [pc_int (pc_alo (σ := σ) (c0 := akd .int))]
      refine Eq.trans i1 (congrArg some ?_)
      show arrV _ _ _ = arrV _ _ (fun j => Value.int (va_up σ.2.2.1 σ.1 (fun _ => 0) σ.1 j))
      simp [va_up, defaultValue, newarray.typeOf, akd]
    · rw [pc_long (pc_alo (σ := σ) (c0 := akd .long))]
      refine Eq.trans i1 (congrArg some ?_)
      show arrV _ _ _ = arrV _ _ (fun j => Value.long (va_up σ.2.2.2.1 σ.1 (fun _ => 0) σ.1 j))
      simp [va_up, defaultValue, newarray.typeOf, akd]
    · rw [pc_bool (pc_alo (σ := σ) (c0 := akd .boolean))]
      refine Eq.trans i1 (congrArg some ?_)
      show arrV _ _ _ = arrV _ _ (fun j => Value.int (va_up σ.2.2.1 σ.1 (fun _ => 0) σ.1 j))
      simp [va_up, defaultValue, newarray.typeOf, akd]
  rcases tc with rfl | rfl | rfl
  · exact va_newaK (atype := .int) hx hb (hts _ wd_aint) rfl hd rfl h0 rfl (by show _ * 4 ≤ _; omega) (by omega) (by omega) hw.1 (fun H1 cA i1 i2 i3 i4 i5 => key H1 cA i1 i2 i3 (Option.some.inj (i5.symm.trans (hgf.1.2 0 _ (tys_at X).1).2)))
  · exact va_newaK (atype := .long) hx hb (hts _ wd_along) rfl hd rfl h0 rfl (by show _ * 8 ≤ _; omega) (by omega) (by omega) hw.1 (fun H1 cA i1 i2 i3 i4 i5 => key H1 cA i1 i2 i3 (Option.some.inj (i5.symm.trans (hgf.1.2 1 _ (tys_at X).2.1).2)))
  · exact va_newaK (atype := .boolean) hx hb (hts _ wd_aboolean) rfl hd rfl h0 rfl (by show _ * 1 ≤ _; omega) (by omega) (by omega) hw.1 (fun H1 cA i1 i2 i3 i4 i5 => key H1 cA i1 i2 i3 (Option.some.inj (i5.symm.trans (hgf.1.2 2 _ (tys_at X).2.2.1).2)))
theorem s_anew (ac : AC X q p s m args meth c) (hR : Rn R d MC MS) {t y : Nat} {x : Int32} (hd : decode q.2.2.1 pc = .ok (.anewarray y, 3)) (ht : t = 16 ∨ t = 17) (hck : ALt.any (fun z => z.2.1 == q.1 && z.2.2.1 == y && z.2.2.2 == t) = true) (h0 : ¬ x < 0) (hB : x.toNatClampNeg ≤ 10000000) (hk1 : k + 1 ≤ MC) (hn1 : n + x.toNatClampNeg ≤ MS)
    (g : OK X q p e R s m args below meth c E (pc + 3) ls (.ref σ.1 :: r) (alo σ t x.toNatClampNeg) (k + 1) (n + x.toNatClampNeg)) : OK X q p e R s m args below meth c E pc ls (.int x :: r) σ k n := by
  intro H locs lsM hw hs hl
  obtain ⟨hx, hb, hml, hlk, hown, hts, hgf, hini⟩ := ac
  obtain ⟨r1, r2, r3, r4⟩ := hR
  obtain ⟨z, hz, hz2⟩ := List.any_eq_true.mp hck
  simp only [Bool.and_eq_true, beq_iff_eq] at hz2
  obtain ⟨⟨e1, e2⟩, e3⟩ := hz2
  have hword := AL_word hz
  rw [e1, e2, e3] at hword
  have key : ∀ (C : String) (cA : ClassId), s.vm.findClass ("[" ++ (FieldType.object C).toString) = some cA → va_RA s (gt X t) (.object C) → W p (gl X) e R s m args below meth c (H.push { cls := cA, slots := Array.replicate x.toNatClampNeg .null, vm := .none }) locs (k + 1) (n + x.toNatClampNeg) E (F0 m (pc + 3) lsM (.ref H.size :: r.map (mv X))) := by
    intro C cA j1 j2
    obtain ⟨kA, comp, -, -, -, j3⟩ := j2
    have hcA : cA = gt X t := Option.some.inj (j1.symm.trans j3)
    subst hcA
    have i2 : (H.push ({ cls := gt X t, slots := Array.replicate x.toNatClampNeg .null, vm := .none } : Cell)).size = gb X + σ.1 + 1 := by rw [Array.size_push, hw.1]
    have i1 : (H.push ({ cls := gt X t, slots := Array.replicate x.toNatClampNeg .null, vm := .none } : Cell))[gb X + σ.1]? = some (arrV (gt X t) x.toNatClampNeg (fun _ => .null)) := by rw [← hw.1, Array.getElem?_push_size, ← arrV_new]
    have i3 : ∀ z : Nat, z < gb X + σ.1 → (H.push ({ cls := gt X t, slots := Array.replicate x.toNatClampNeg .null, vm := .none } : Cell))[z]? = H[z]? := fun z hz => by rw [Array.getElem?_push, if_neg (by rw [hw.1]; omega)]
    rw [show H.size = gb X + σ.1 from hw.1]
    refine g _ locs lsM (w_push hw rfl rfl (fun b hb => pcell_alo hb) ?_ i2 i3) (s_grow hw hs i2 i3) hl
    rw [pc_ref (pc_alo (σ := σ) (c0 := t)) ht]
    refine Eq.trans i1 (congrArg some ?_)
    show arrV _ _ _ = arrV _ _ (fun j => va_rf (mr X (va_up σ.2.2.2.2 σ.1 (fun _ => none) σ.1 j)))
    simp [va_up, mr, va_rf]
  rcases ht with rfl | rfl
  · exact W.anew hx hb hown (hts _ (gtb_in hword rfl)) (va_AO.use hgf.2.2.1) rfl hd rfl h0 (by omega) (by omega) (by omega) (fun cA kA comp f1 f2 f3 f4 => key RX2 cA f1 (hgf.1.2 3 _ (tys_at X).2.2.2.1).2)
  · exact W.anew hx hb hown (hts _ (gtb_in hword rfl)) (va_AO.use hgf.2.2.2.1) rfl hd rfl h0 (by omega) (by omega) (by omega) (fun cA kA comp f1 f2 f3 f4 => key RX3 cA f1 (hgf.1.2 4 _ (tys_at X).2.2.2.2).2)
theorem s_new (ac : AC X q p s m args meth c) (hR : Rn R d MC MS) {t y : Nat} (hd : decode q.2.2.1 pc = .ok (.new y, 3)) (ht : t < 13) (hck : CL.any (fun z => z.2.1 == q.1 && z.2.2.1 == y && z.2.2.2 == t) = true) (hk1 : k + 1 ≤ MC) (hn1 : n + (clN t).2.2 ≤ MS)
    (g : OK X q p e R s m args below meth c E (pc + 3) ls (.ref σ.1 :: r) (alo σ t 0) (k + 1) (n + (clN t).2.2)) : OK X q p e R s m args below meth c E pc ls r σ k n := by
  intro H locs lsM hw hs hl
  obtain ⟨hx, hb, hml, hlk, hown, hts, hgf, hini⟩ := ac
  obtain ⟨r1, r2, r3, r4⟩ := hR
  obtain ⟨z, hz, hz2⟩ := List.any_eq_true.mp hck
  simp only [Bool.and_eq_true, beq_iff_eq] at hz2
  obtain ⟨⟨e1, e2⟩, e3⟩ := hz2
  have hword := CL_word hz
  rw [e1, e2, e3] at hword
  obtain ⟨c1, c2, c3, c4, c5, c6, c7, c8, c9, c10⟩ := cokA t ht
  have hKn := hgf.1.1 t _ c1
  refine W.newcK hx hb hown (hts _ (gtb_in hword rfl)) (hts _ c8) (hts _ c9) rfl hd (by omega) (by omega) hKn.2.1 hw.1 fun H1 kC hkC i1 i2 i3 => ?_
  refine g H1 locs lsM (w_push hw rfl rfl (fun b hb => pcell_alo hb) ?_ i2 i3) (s_grow hw hs i2 i3) hl
  rw [pc_obj (c := t) (by rw [pc_alo]) ht]
  refine ⟨_, c1, (u_born (tyT t) hts c2 hKn hkC i1 c3).to (fun j hj => ?_)⟩
  have h7 := c7 j hj
  have hjl : j < (fty t).length := by rw [c6]; exact hj
  have ej : (fty t)[j]? = some ((fty t)[j]) := List.getElem?_eq_getElem hjl
  have h8 : (fty t).getD j 9 = (fty t)[j] := by simp [ej]
  rw [h8] at h7
  show defaultValue (tyT t j) = ((fty t).mapIdx (fun j t' => mv X (fv (alo σ t 0) t' σ.1 j))).getD j .null
  rw [List.getD_eq_getElem?_getD, List.getElem?_mapIdx, ej]
  show defaultValue (tyT t j) = mv X (fv (alo σ t 0) ((fty t)[j]) σ.1 j)
  generalize (fty t)[j] = t0 at h7
  generalize tyT t j = ty at h7
  unfold tyB at h7
  split at h7 <;> first | (simp [fv, va_up, va_rf, defaultValue, mv]; done) | cases h7
end S3
