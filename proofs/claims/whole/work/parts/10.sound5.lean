/-! what holds of the tables goes along; calls; the copy; the end of a method -/
theorem GF_warm {X : GX} {s U : State} (hW : s.WarmedH U.vm) (hz : s.heap.size ≤ U.heap.size) (hh : ∀ q : Nat, q < s.heap.size → ¬ gA X q → U.heap[q]? = s.heap[q]?) (h : GF X s) : GF X U := by
  obtain ⟨h1, h2, h3, h4, h5, h6, h7, h8, h9, h10, h11⟩ := h
  refine ⟨h1.moved hW.alike, fun w hw hn => ?_, h3.moved hW.alike, h4.moved hW.alike, (h5.moved hW.alike).kept hh, fun j idx tx hj => (h6 j idx tx hj).warm hW, (h7.moved hW.alike).kept hh, (h8.moved hW.alike).kept hh, (h9.moved hW.alike).kept (hh _ (by omega) (fun z => by unfold gA at z; omega)), h10, by omega⟩
  have := h2 w hw hn
  cases w <;> first | (cases hn; done) | exact va_Nw.warmF hW this | exact va_Nw.warmM hW this
theorem GF_same {X : GX} {s U : State} (hv : s.vm = U.vm) (hh : U.heap = s.heap) (h : GF X s) : GF X U :=
  GF_warm (by rw [← hv]; exact State.WarmedH.refl s) (by rw [hh]; exact Nat.le_refl _) (fun q _ _ => by rw [hh]) h
theorem PcX_blind (X : GX) (av : List Value) (σ : PS) : FrameBlind (PcX X av σ) := by
  intro a U g mk h
  obtain ⟨h1, h2, h3⟩ := h
  exact ⟨h1, h2, GF_same (s := U) (U := U.calling g mk a) rfl rfl h3⟩
section S4
variable {X : GX} {q : MI} {p : Program} {e : Env} {R : Room} {s : State} {m : MethodId} {args : Array Value} {below : List Frame} {meth : Method} {c : Code} {E : State → Prop} {d MC MS : Nat}
variable {pc : Nat} {ls : LcT} {r : List Value} {σ : PS} {k n : Nat}
theorem s_run {H : Heap} {locs : List Loc} {lsM : Array Slot} {rest st0 : List Value} {mc ms : Nat} {a : Array Value} {Q : Option Value → PS → Prop} (hr : va_Run p (gl X) e R s m args below meth c H locs k n mc ms (F0 m pc lsM st0) rest (QcX X Q a) (gA X)) (hs : va_S (gA X) s.heap H locs)
    (kk : ∀ (rv : Option Value) (τ : PS) (H1 : Heap) (locs1 : List Loc), Q rv τ → wldH X τ H1 → va_S (gA X) s.heap H1 locs1 → W p (gl X) e R s m args below meth c H1 locs1 (k + mc) (n + ms) E (F0 m (pc + 3) lsM ((rv.map (mv X)).toList ++ rest))) : W p (gl X) e R s m args below meth c H locs k n E (F0 m pc lsM st0) := by
  intro T hT Y
  obtain ⟨v, st₀, t, T', L, h0, Y', hL, e1, e2, ⟨⟨rv, τ, hv, hp, hb⟩, hz, hk⟩, st⟩ := hr T hT Y
  cases hv
  rw [h0] at hz hk
  obtain ⟨t2, a1, b1⟩ := kk rv τ T'.heap (locs ++ L) hp (by rw [e1]; exact hb)
    ⟨Nat.le_trans hs.1 (by rw [e1]; exact hz), fun z h1 h2 => by rw [e1, hk z (Nat.lt_of_lt_of_le h1 hs.1) h2]; exact hs.2.1 z h1 h2, fun z hq => by
      rcases List.mem_append.mp hq with h | h
      · exact hs.2.2 z h
      · exact hL z h⟩ T' rfl Y'
  exact ⟨t2, st t2 a1, b1⟩
/-- a call of any of our methods -/
theorem s_call (ac : AC X q p s m args meth c) (hR : Rn R d MC MS) {x mi kd na : Nat} {vt : Bool} {st : List Value} {G : GT} (hck : ckM q x mi kd = true)
    (hd : (kd = 0 ∧ na = (mt mi).2.2.2.2.2.1 ∧ vt = false ∧ decode q.2.2.1 pc = .ok (.invokestatic x, 3)) ∨ (kd = 1 ∧ na = (mt mi).2.2.2.2.2.1 + 1 ∧ vt = true ∧ decode q.2.2.1 pc = .ok (.invokevirtual x, 3)) ∨ (kd = 2 ∧ na = (mt mi).2.2.2.2.2.1 + 1 ∧ vt = true ∧ decode q.2.2.1 pc = .ok (.invokespecial x, 3)))
    (hc : calw X d MC MS mi na vt ls st σ k n G) (hG : ∀ ls st σ k n, G ls st σ k n → OK X q p e R s m args below meth c E (pc + 3) ls st σ k n) : OK X q p e R s m args below meth c E pc ls st σ k n := by
  intro H locs lsM hw hs hl
  have ac0 := ac
  obtain ⟨hx, hb, hml, hlk, hown, hts, hgf, hini⟩ := ac
  obtain ⟨r1, r2, r3, r4⟩ := hR
  obtain ⟨av, rs, d', mc, ms, Q, rfl, hna, hcs, hdd, hmc, hms, hrcv, hM, hQ⟩ := hc
  unfold ckM at hck
  simp only [Bool.and_eq_true, beq_iff_eq, List.contains_iff_mem] at hck
  obtain ⟨⟨hm, hmu⟩, hkd⟩ := hck
  obtain ⟨z, hz, hz2⟩ := List.any_eq_true.mp hm
  simp only [Bool.and_eq_true, beq_iff_eq] at hz2
  obtain ⟨⟨e1, e2⟩, e3⟩ := hz2
  have hword := ML_word hz
  obtain ⟨m1, m2, ⟨m3a, m3b, m3c⟩, m4, m5, m6, m7, m8, m9⟩ := mokL mi hmu
  have hcodeG : Cond.code (mt mi).2.1 (mt mi).2.2.1 (mt mi).2.2.2.1 (mt mi).2.2.2.2.1 ∈ gtb := gtb_in m1 rfl
  have hGood : GoodIn gtb (Cond.code (mt mi).2.1 (mt mi).2.2.1 (mt mi).2.2.2.1 (mt mi).2.2.2.2.1 :: gtb) := by
    intro w hw'
    rcases List.mem_cons.mp hw' with h | h
    · rw [h]; exact gtb_good _ hcodeG
    · exact gtb_good _ h
  have hini' := hts _ (gtb_in m5 rfl)
  have hrm : (rmo d' mc ms).frames + 1 ≤ R.frames ∧ 8 + ((mt mi).2.2.2.1 + 11) + (rmo d' mc ms).locals ≤ R.locals := ⟨by show d' + 1 ≤ _; omega, by show 8 + (_ + 11) + 40 * d' ≤ _; omega⟩
  have hpre : ∀ U : State, U.heap = H → s.WarmedH U.vm → PcX X av σ (av.map (mv X)).toArray U := fun U hU hWU =>
    ⟨rfl, by rw [hU]; exact hw, GF_warm hWU (by rw [hU]; exact hs.1) (fun z g1 g2 => by rw [hU]; exact hs.2.1 z g1 g2) hgf⟩
  have hfix : CallFix p m c q.2.2.1 q.2.2.2.1 s args gtb (onN q.1) := ⟨hx, hb, hml, hown, hts⟩
  have hW : 2 * (F0 m pc lsM ((av.reverse ++ rs).map (mv X))).monitorRoom + ((rs.map (mv X)).map fun v => v.category).sum ≤ 8 := by
    have e9 : ((rs.map (mv X)).map fun v => v.category) = rs.map fun v => v.category := by
      rw [List.map_map]
      exact List.map_congr_left (fun v _ => mv_cat X v)
    show 2 * 0 + _ ≤ 8
    rw [e9]
    unfold csum at hcs
    omega
  have hfin : ∀ (rv : Option Value) (τ : PS) (H1 : Heap) (locs1 : List Loc), Q rv τ → wldH X τ H1 → va_S (gA X) s.heap H1 locs1 → W p (gl X) e R s m args below meth c H1 locs1 (k + mc) (n + ms) E (F0 m (pc + 3) lsM ((rv.map (mv X)).toList ++ rs.map (mv X))) := by
    intro rv τ H1 locs1 a1 a2 a3
    have := hG _ _ _ _ _ (hQ rv τ a1) H1 locs1 lsM a2 a3 hl
    rw [List.map_append] at this
    have e8 : (rv.map (mv X)).toList = rv.toList.map (mv X) := by cases rv <;> rfl
    rw [e8]
    exact this
  have hsz : (F0 m pc lsM ((av.reverse ++ rs).map (mv X))).locals.size = q.2.2.2.1 := hl.2.1
  have hff : k + mc ≤ R.cells ∧ n + ms ≤ R.slots := ⟨by omega, by omega⟩
  rcases hd with ⟨rfl, rfl, rfl, hd⟩ | ⟨rfl, rfl, rfl, hd⟩ | ⟨rfl, rfl, rfl, hd⟩
  · -- static
    have hst : (av.reverse ++ rs).map (mv X) = (av.map (mv X)).reverse ++ rs.map (mv X) := by rw [List.map_append, List.map_reverse]
    obtain ⟨zp, z1, z2, z3, z4⟩ := z
    subst e1; subst e2; subst e3
    cases z4 with
    | false =>
      exact s_run (va_runS (As := av.map (mv X)) (rest := rs.map (mv X)) hfix hM ⟨callB_of _ hts hGood rfl rfl rfl hini' (hts _ (gtb_in hword rfl)) ⟨m3a, m3b, m3c⟩ hrm, hts _ (gtb_in (m7 hkd) rfl)⟩ ⟨PcX_blind X av σ, hpre⟩ rfl (by rw [List.length_map]; exact hna) hsz hst hW hd hff) hs hfin
    | true =>
      exact s_run (va_runSN (As := av.map (mv X)) (rest := rs.map (mv X)) hfix hM ⟨va_cnB _ hts hGood rfl rfl rfl (hgf.2.1 _ hword rfl) hini' ⟨m3a, m3b, m3c⟩ hrm, hts _ (gtb_in (m7 hkd) rfl), trivial⟩ ⟨PcX_blind X av σ, hpre⟩ rfl (by rw [List.length_map]; exact hna) hsz hst hW hd hff) hs hfin
  · -- virtual
    obtain ⟨v0, av', rfl⟩ : ∃ v0 av', av = v0 :: av' := by
      cases av with
      | nil => simp at hna
      | cons v0 av' => exact ⟨v0, av', rfl⟩
    have hcls : ∃ b, mv X v0 = .ref b ∧ ∃ cellB : Cell, H[b]? = some cellB ∧ cellB.vm.isStatics = false ∧ s.vm.findClass (mt mi).2.1.cls = some cellB.cls := by
      have h9 := hrcv rfl
      cases v0 with
      | ref a =>
        obtain ⟨g1, g2, g3⟩ := h9
        obtain ⟨c1, c2, c3, c4, c5, c6, c7, c8, c9, c10⟩ := cokA (mt mi).1 g3
        have hat := pws_at (X := X) (σ := σ) g1
        rw [pc_obj g2 g3] at hat
        refine ⟨gb X + a, rfl, ?_⟩
        have := va_recv hgf.1 hw.2 c1 hat
        have h10 : (mt mi).2.1.cls = (clN (mt mi).1).1 := by
          rcases m6 with m6 | m6
          · omega
          · rw [← c10]
            simp [onN, m6]
        rw [h10]
        exact this
      | retAddr j =>
        obtain ⟨g1, g2⟩ := h9
        have h10 : (mt mi).2.1.cls = "java/lang/String" := by
          rcases m6 with m6 | m6
          · omega
          · rw [g2] at m6
            exact (Option.some.inj m6).symm
        rw [h10]
        exact ⟨gs X j, rfl, vk_recv (hgf.2.2.2.2.1) g1 hs⟩
      | _ => exact h9.elim
    obtain ⟨b, hb0, hcell⟩ := hcls
    have hst : ((v0 :: av').reverse ++ rs).map (mv X) = (av'.map (mv X)).reverse ++ .ref b :: rs.map (mv X) := by
      rw [List.map_append, List.reverse_cons, List.map_append, List.map_reverse]
      simp [hb0]
    have hpre' : ∀ U : State, U.heap = H → s.WarmedH U.vm → PcX X (v0 :: av') σ (Value.ref b :: av'.map (mv X)).toArray U := by
      intro U h1 h2
      have := hpre U h1 h2
      rw [List.map_cons, hb0] at this
      exact this
    have hlen : (av'.map (mv X)).length = (mt mi).2.2.2.2.2.1 := by rw [List.length_map]; simpa using hna
    have harg : (Value.ref b :: av'.map (mv X)) = (v0 :: av').map (mv X) := by rw [List.map_cons, hb0]
    obtain ⟨zp, z1, z2, z3, z4⟩ := z
    subst e1; subst e2; subst e3
    cases z4 with
    | false =>
      exact s_run (va_runV (C := (mt z3).2.1.cls) (b := b) (As := av'.map (mv X)) (rest := rs.map (mv X)) hfix hM ⟨callB_of _ hts hGood rfl rfl rfl hini' (hts _ (gtb_in hword rfl)) ⟨m3a, m3b, m3c⟩ hrm, hts _ (gtb_in (m8 hkd).1 rfl), hts _ (gtb_in (m8 hkd).2 rfl)⟩ ⟨PcX_blind X _ σ, hcell, hpre'⟩ rfl hlen hsz hst hW hd hff) hs hfin
    | true =>
      exact s_run (va_runVN (C := (mt z3).2.1.cls) (b := b) (As := av'.map (mv X)) (rest := rs.map (mv X)) hfix hM ⟨va_cnB _ hts hGood rfl rfl rfl (hgf.2.1 _ hword rfl) hini' ⟨m3a, m3b, m3c⟩ hrm, hts _ (gtb_in (m8 hkd).1 rfl), hts _ (gtb_in (m8 hkd).2 rfl)⟩ ⟨PcX_blind X _ σ, hcell, hpre'⟩ rfl hlen hsz hst hW hd hff) hs hfin
  · -- special
    obtain ⟨v0, av', rfl⟩ : ∃ v0 av', av = v0 :: av' := by
      cases av with
      | nil => simp at hna
      | cons v0 av' => exact ⟨v0, av', rfl⟩
    obtain ⟨b, hb0⟩ : ∃ b, mv X v0 = .ref b := by
      have h9 := hrcv rfl
      cases v0 <;> first | exact ⟨_, rfl⟩ | exact h9.elim
    have hst : ((v0 :: av').reverse ++ rs).map (mv X) = (av'.map (mv X)).reverse ++ .ref b :: rs.map (mv X) := by
      rw [List.map_append, List.reverse_cons, List.map_append, List.map_reverse]
      simp [hb0]
    have hpre' : ∀ U : State, U.heap = H → s.WarmedH U.vm → PcX X (v0 :: av') σ (Value.ref b :: av'.map (mv X)).toArray U := by
      intro U h1 h2
      have := hpre U h1 h2
      rw [List.map_cons, hb0] at this
      exact this
    have hlen : (av'.map (mv X)).length = (mt mi).2.2.2.2.2.1 := by rw [List.length_map]; simpa using hna
    obtain ⟨m9a, m9b, m9c⟩ := m9 hkd
    have hM2 := hM
    unfold Ct at hM2
    rw [m9c] at hM2 hGood
    obtain ⟨zp, z1, z2, z3, z4⟩ := z
    subst e1; subst e2; subst e3
    cases z4 with
    | false =>
      exact s_run (va_runI (b := b) (As := av'.map (mv X)) (rest := rs.map (mv X)) hfix hM2 ⟨callB_of _ hts hGood rfl rfl rfl hini' (hts _ (gtb_in hword rfl)) ⟨m3a, m3b, m3c⟩ hrm, m9b, hts _ (gtb_in m9a rfl)⟩ ⟨PcX_blind X _ σ, hpre'⟩ rfl hlen hsz hst hW hd hff) hs hfin
    | true =>
      exact s_run (va_runIN (b := b) (As := av'.map (mv X)) (rest := rs.map (mv X)) hfix hM2 ⟨va_cnB _ hts hGood rfl rfl rfl (hgf.2.1 _ hword rfl) hini' ⟨m3a, m3b, m3c⟩ hrm, m9b, hts _ (gtb_in m9a rfl)⟩ ⟨PcX_blind X _ σ, hpre'⟩ rfl hlen hsz hst hW hd hff) hs hfin
end S4
