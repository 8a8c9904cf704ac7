/-! the copy; one step; a list of steps; a method -/
section S5
variable {X : GX} {q : MI} {p : Program} {e : Env} {R : Room} {s : State} {m : MethodId} {args : Array Value} {below : List Frame} {meth : Method} {c : Code} {E : State → Prop} {d MC MS : Nat}
variable {pc : Nat} {ls : LcT} {r : List Value} {σ : PS} {k n : Nat}
theorem cs_map (X : GX) (r : List Value) : ((r.map (mv X)).map fun v => v.category).sum = csum r := by
  unfold csum
  rw [List.map_map]
  exact congrArg List.sum (List.map_congr_left (fun v _ => mv_cat X v))
theorem s_copy (ac : AC X q p s m args meth c) (hR : Rn R d MC MS) {y : Nat} {x dp sp : Int32} {a b na nb : Nat} (hd : decode q.2.2.1 pc = .ok (.invokestatic y, 3)) (hck : SLt.any (fun z => z.2.1 == q.1 && z.2.2.1 == y && z.2.2.2 == 0) = true) (hcs : csum r ≤ 8) (ha : a < σ.1) (hb : b < σ.1) (hka : σ.2.1 a = (13, na)) (hkb : σ.2.1 b = (13, nb)) (h1 : ¬ sp < 0) (h2 : ¬ dp < 0) (h3 : ¬ x < 0) (h4 : sp.toNatClampNeg + x.toNatClampNeg ≤ na) (h5 : dp.toNatClampNeg + x.toNatClampNeg ≤ nb) (hd1 : 1 ≤ d)
    (g : OK X q p e R s m args below meth c E (pc + 3) ls r (setW σ b (va_cpy (σ.2.2.1 a) (σ.2.2.1 b) sp.toNatClampNeg dp.toNatClampNeg x.toNatClampNeg)) k n) : OK X q p e R s m args below meth c E pc ls (.int x :: .int dp :: .ref b :: .int sp :: .ref a :: r) σ k n := by
  intro H locs lsM hw hs hl
  obtain ⟨hx, hb0, hml, hlk, hown, hts, hgf, hini⟩ := ac
  obtain ⟨r1, r2, r3, r4⟩ := hR
  obtain ⟨z, hz, hz2⟩ := List.any_eq_true.mp hck
  simp only [Bool.and_eq_true, beq_iff_eq] at hz2
  obtain ⟨⟨e1, e2⟩, e3⟩ := hz2
  have hword := SL_word hz
  rw [e1, e2, e3] at hword
  have nn : ∀ z : Int32, ¬ z < 0 → z.toInt = (z.toNatClampNeg : Int) := by
    intro z hz
    have hz0 : (0 : Int) ≤ z.toInt := by
      have := Int32.not_lt.mp hz
      simpa using Int32.le_iff_toInt_le.mp this
    show z.toInt = ((z.toInt.toNat : Nat) : Int)
    omega
  intro T hT Y
  have hc0 : H[gb X + a]? = some (vp_cell (gt X 13) (na, .inl (σ.2.2.1 a))) := by
    have := hw.2 a _ (pws_at ha)
    rw [pc_int hka] at this
    exact this
  have hc1 : H[gb X + b]? = some (vp_cell (gt X 13) (nb, .inl (σ.2.2.1 b))) := by
    have := hw.2 b _ (pws_at hb)
    rw [pc_int hkb] at this
    exact this
  obtain ⟨-, k0, hk0, cm0, hkk0⟩ := (hgf.1.2 0 _ (tys_at X).1).1 na (fun j => .int (σ.2.2.1 a j))
  obtain ⟨-, k1, hk1, cm1, hkk1⟩ := (hgf.1.2 0 _ (tys_at X).1).1 nb (fun j => .int (σ.2.2.1 b j))
  obtain ⟨vm', Y', step⟩ := Y.arraycopy hx hown (hts _ (gtb_in hword rfl)) (hts _ wd_acn) (hts _ wd_acs) (hts _ wd_sys) (src := gb X + a) (dst := gb X + b) (cs := vp_cell (gt X 13) (na, .inl (σ.2.2.1 a))) (cd := vp_cell (gt X 13) (nb, .inl (σ.2.2.1 b))) (srcPos := sp) (destPos := dp) (n := x) (by rw [hT]; exact hc0) (by rw [hT]; exact hc1)
    (fun _ h => by cases h) (fun _ h => by cases h) (fun h => by cases h) (fun h => by cases h) hk0 hk1 hkk0 hkk1 (by simp [refKind]) h1 h2 h3
    (by rw [nn sp h1, nn x h3]; show ¬ _ > ((arrV (gt X 13) na (fun j => .int (σ.2.2.1 a j))).slots.size : Int); rw [arrV_size]; omega)
    (by rw [nn dp h2, nn x h3]; show ¬ _ > ((arrV (gt X 13) nb (fun j => .int (σ.2.2.1 b j))).slots.size : Int); rw [arrV_size]; omega)
    (fun vm₁ _ i hi => by
      have e : (vp_cell (gt X 13) (na, .inl (σ.2.2.1 a))).slots.getD (sp.toNatClampNeg + i) .null = .int (σ.2.2.1 a (sp.toNatClampNeg + i)) := by
        show (arrV (gt X 13) na (fun j => .int (σ.2.2.1 a j))).slots.getD _ _ = _
        rw [Array.getD_eq_getD_getElem?, arrV_read _ _ (by omega)]
        rfl
      refine ⟨?_, ?_⟩
      · rw [e]
        rfl
      · rw [e]
        exact trivial)
    (g := F0 m pc lsM ((.int x :: .int dp :: .ref b :: .int sp :: .ref a :: r).map (mv X))) rfl (by rw [hml, ← hl.2.1]) (rest := r.map (mv X)) rfl (by rw [hb0]; exact hd) (by omega) (by
      show 2 * 0 + _ + _ ≤ _
      rw [cs_map]
      have : nativeFrameWords "java/lang/System" "arraycopy" 5 + 11 ≤ 32 := by decide +kernel
      omega)
  have e1 : copied (vp_cell (gt X 13) (na, .inl (σ.2.2.1 a))) (vp_cell (gt X 13) (nb, .inl (σ.2.2.1 b))) sp dp x = vp_cell (gt X 13) (nb, .inl (va_cpy (σ.2.2.1 a) (σ.2.2.1 b) sp.toNatClampNeg dp.toNatClampNeg x.toNatClampNeg)) := va_copied (fun z => .int z) (gt X 13) (gt X 13) (σ.2.2.1 a) (σ.2.2.1 b) h4
  rw [e1] at Y' step
  have hlt : gb X + b < H.size := (Array.getElem?_eq_some_iff.mp hc1).1
  generalize hnew : vp_cell (gt X 13) (nb, .inl (va_cpy (σ.2.2.1 a) (σ.2.2.1 b) sp.toNatClampNeg dp.toNatClampNeg x.toNatClampNeg)) = newc at Y' step
  have hheap : ((T.setVm vm').setCell (gb X + b) newc).heap = H.setIfInBounds (gb X + b) newc := by rw [← hT]; rfl
  have oq : ∀ z : Nat, z ≠ gb X + b → (H.setIfInBounds (gb X + b) newc)[z]? = H[z]? := fun z hz => by simp [Array.getElem?_setIfInBounds, Ne.symm hz]
  have hsame : (H.setIfInBounds (gb X + b) newc)[gb X + b]? = some newc := by simp [Array.getElem?_setIfInBounds, hlt]
  have hW2 : wldH X (setW σ b (va_cpy (σ.2.2.1 a) (σ.2.2.1 b) sp.toNatClampNeg dp.toNatClampNeg x.toNatClampNeg)) (H.setIfInBounds (gb X + b) newc) := by
    refine w_set hw hb rfl (pc_int (X := X) (σ := setW σ b _) hkb) (fun b' hb' => pcell_W hb') ?_ (by simp) oq
    refine Eq.trans hsame (congrArg some ?_)
    rw [← hnew]
    simp [va_up]
  obtain ⟨t, a1, b1⟩ := g _ _ lsM hW2 ⟨by simp; exact hs.1, fun z g1 g2 => by
      rw [oq z (fun e => g2 (by rw [e]; show gb X ≤ gb X + b; omega))]
      exact hs.2.1 z g1 g2, fun z hq => by
      rcases List.mem_append.mp hq with h | h
      · exact hs.2.2 z h
      · obtain ⟨w, -, hz⟩ := List.mem_map.mp h
        rw [← hz]
        show gb X ≤ gb X + b
        omega⟩ hl _ hheap Y'
  exact ⟨t, step t a1, b1⟩
end S5
