/-! a list of steps; a method out of its walk -/
section S7
variable {X : GX} {q : MI} {p : Program} {e : Env} {R : Room} {s : State} {m : MethodId} {args : Array Value} {below : List Frame} {meth : Method} {c : Code} {E : State → Prop} {d MC MS : Nat}
theorem wp_sound (ac : AC X q p s m args meth c) (hR : Rn R d MC MS) {rt : Option FieldType} {J : JT} {RT : Option Value → PS → Nat → Nat → Prop} (hJ : ∀ pc ls st σ k n, J pc ls st σ k n → OK X q p e R s m args below meth c E pc ls st σ k n) (hRT : ∀ v σ k n, RT v σ k n → RtOK X q p e R s m args below meth c E rt v σ k n) (en : Nat) :
    ∀ (is : List (Nat × Instr)) (pc : Nat) (ls : LcT) (st : List Value) (σ : PS) (k n : Nat), chk q en pc is = true → wp X d MC MS rt J RT en is ls st σ k n → OK X q p e R s m args below meth c E pc ls st σ k n := by
  intro is
  induction is with
  | nil =>
    intro pc ls st σ k n hc hw
    have h : pc = en := by simpa [chk] using hc
    subst h
    exact hJ _ _ _ _ _ _ hw
  | cons z is ih =>
    intro pc ls st σ k n hc hw
    unfold chk at hc
    simp only [Bool.and_eq_true, beq_iff_eq] at hc
    obtain ⟨-, hc2⟩ := hc
    split at hc2
    · rename_i al hd
      rw [Bool.and_eq_true] at hc2
      exact stp_sound ac hR hJ hRT z.2 hd hc2.1 hw (fun ls st σ k n h => ih _ _ _ _ _ _ hc2.2 h)
    · cases hc2
end S7
/-- the judgement of the walks: at a place of method mi, at depth d, with mc cells of ms slots to make in all, the method ends with Q -/
def K (X : GX) (d mi mc ms : Nat) (Q : Option Value → PS → Prop) : JT := fun pc ls st σ k n =>
  ∀ (p : Program) (e : Env) (s : State) (m : MethodId) (args : Array Value) (below : List Frame) (meth : Method) (c : Code), AC X (mt mi) p s m args meth c → meth.sig.returnType = (mt mi).2.2.2.2.1 →
    OK X (mt mi) p e (rmo d mc ms) s m args below meth c (MQ below (QcX X Q) args s mc ms (gA X)) pc ls st σ k n
/-- the end: what is asked of a return -/
def Rq (mc ms : Nat) (Q : Option Value → PS → Prop) (v : Option Value) (σ : PS) (k n : Nat) : Prop := Q v σ ∧ k ≤ mc ∧ n ≤ ms
theorem ret_ok {X : GX} {q : MI} {p : Program} {e : Env} {R : Room} {s : State} {m : MethodId} {args : Array Value} {below : List Frame} {meth : Method} {c : Code} {mc ms : Nat} {Q : Option Value → PS → Prop} (ac : AC X q p s m args meth c) (hr : meth.sig.returnType = q.2.2.2.2.1) {v : Option Value} {σ : PS} {k n : Nat} (h : Rq mc ms Q v σ k n) (hv : v = none → q.2.2.2.2.1 = none) (hl : ∀ x, v = some (.long x) → q.2.2.2.2.1 = some .long) (ha : ∀ a, v = some (.ref a) → ∃ t, q.2.2.2.2.1 = some (.array t)) :
    RtOK X q p e R s m args below meth c (MQ below (QcX X Q) args s mc ms (gA X)) q.2.2.2.2.1 v σ k n := by
  obtain ⟨hQ, hk, hn⟩ := h
  intro H locs lsM pc ins hw hs hd hri
  have hx := ac.1
  have hb := ac.2.1
  have hlk := ac.2.2.2.1
  refine W.widen hk hn ?_
  rcases hri with ⟨rfl, rfl⟩ | ⟨x, rfl, rfl, hnar⟩ | ⟨x, rfl, rfl⟩ | ⟨a, rfl, rfl⟩
  · exact W.vret hx hb (by rw [hr]; exact hv rfl) (fun t ht hW => ⟨⟨none, σ, rfl, hQ, by rw [ht]; exact hw⟩, hs.F ht⟩) hs.2.2 hd hlk
  · cases hrt : q.2.2.2.2.1 with
    | none => rw [hrt] at hnar; exact hnar.elim
    | some ty =>
      rw [hrt] at hnar hr
      exact W.zret hx hb hr hnar (fun t ht hW => ⟨⟨some (.int x), σ, rfl, hQ, by rw [ht]; exact hw⟩, hs.F ht⟩) hs.2.2 hd hlk
  · exact W.lret hx hb (by rw [hr]; exact hl x rfl) (fun t ht hW => ⟨⟨some (.long x), σ, rfl, hQ, by rw [ht]; exact hw⟩, hs.F ht⟩) hs.2.2 hd hlk
  · obtain ⟨ty, hty⟩ := ha a rfl
    exact W.aret hx hb (by rw [hr]; exact hty) (Or.inr ⟨ty, rfl⟩) (Or.inr ⟨_, rfl⟩) (fun t ht hW => ⟨⟨some (.ref a), σ, rfl, hQ, by rw [ht]; exact hw⟩, hs.F ht⟩) hs.2.2 hd hlk
/-- what a value must be, for a return of this type -/
def okr (rt : Option FieldType) (v : Option Value) : Prop := (v = none → rt = none) ∧ (∀ x, v = some (.long x) → rt = some .long) ∧ (∀ a, v = some (.ref a) → ∃ t, rt = some (.array t))
/-- a walk of a block: K at its place out of wp of its list -/
theorem K_of {X : GX} {d mi mc ms : Nat} {Q : Option Value → PS → Prop} {en pc : Nat} (is : List (Nat × Instr)) {ls : LcT} {st : List Value} {σ : PS} {k n : Nat} (hc : chk (mt mi) en pc is = true)
    (hw : wp X d mc ms (mt mi).2.2.2.2.1 (K X d mi mc ms Q) (fun v σ k n => okr (mt mi).2.2.2.2.1 v ∧ Rq mc ms Q v σ k n) en is ls st σ k n) : K X d mi mc ms Q pc ls st σ k n := by
  intro p e s m args below meth c ac hr
  refine wp_sound ac (d := d) (MC := mc) (MS := ms) ⟨Nat.le_refl _, Nat.le_refl _, rfl, rfl⟩ (fun pc ls st σ k n h => h p e s m args below meth c ac hr) (fun v σ k n h => ret_ok ac hr h.2 h.1.1 h.1.2.1 h.1.2.2) en is pc ls st σ k n hc hw
/-- locals at a method's entry -/
def entl : List Value → LcT
  | [] => []
  | v :: vs => if v.category = 2 then some v :: none :: entl vs else some v :: entl vs
def ent (av : List Value) (n : Nat) : LcT := entl av ++ List.replicate (n - (entl av).length) none
theorem entl_args (X : GX) : ∀ (av : List Value) (i j : Nat) (v : Value), (entl av)[j]? = some (some v) → (i + j, mv X v) ∈ lv_args i (av.map (mv X)) := by
  intro av
  induction av with
  | nil => intro i j v h; simp [entl] at h
  | cons w av ih =>
    intro i j v h
    rw [List.map_cons, lv_args, mv_cat]
    by_cases hc : w.category = 2
    · rw [entl, if_pos hc] at h
      rw [if_pos hc]
      match j, h with
      | 0, h => cases h; exact List.mem_cons_self
      | 1, h => cases h
      | j + 2, h =>
        have := ih (i + 2) j v h
        rw [show i + (j + 2) = i + 2 + j by omega]
        exact List.mem_cons_of_mem _ this
    · rw [entl, if_neg hc] at h
      rw [if_neg hc]
      match j, h with
      | 0, h => cases h; exact List.mem_cons_self
      | j + 1, h =>
        have := ih (i + 1) j v h
        rw [show i + (j + 1) = i + 1 + j by omega]
        exact List.mem_cons_of_mem _ this
theorem entl_len (X : GX) (av : List Value) : (lg_sl (av.map (mv X))).length = (entl av).length := by
  induction av with
  | nil => rfl
  | cons w av ih =>
    rw [List.map_cons]
    unfold lg_sl at *
    rw [List.flatMap_cons, List.length_append, ih, mv_cat, entl]
    by_cases hc : w.category = 2
    · rw [if_pos hc, if_pos hc]; simp; omega
    · rw [if_neg hc, if_neg hc]; simp; omega
set_option maxRecDepth 100000 in
theorem own99 : muse.all (fun i => !((mt i).1 == 99)) = true := by decide +kernel
/-- THE CONTRACT out of the walk from the entry -/
theorem Ct_of {X : GX} {d mi mc ms : Nat} {av : List Value} {σ : PS} {Q : Option Value → PS → Prop} (hmu : mi ∈ muse) (hlen : (entl av).length ≤ (mt mi).2.2.2.1) (hk : K X d mi mc ms Q 0 (ent av (mt mi).2.2.2.1) [] σ 0 0) : Ct X d mi mc ms av σ Q := by
  obtain ⟨m1, m2, ⟨m3a, m3b, m3c⟩, m4, m5, m6, m7, m8, m9⟩ := mokL mi hmu
  unfold Ct
  refine Met.ofW (cc := (mt mi).2.2.1) (maxL := (mt mi).2.2.2.1) (ret := (mt mi).2.2.2.2.1) m2 rfl ?_
  intro p e s m args below meth c s₁ B hml hv
  obtain ⟨rfl, hw, hgf⟩ := hv
  have hts := atoms_spec (ws := Cond.code (mt mi).2.1 (mt mi).2.2.1 (mt mi).2.2.2.1 (mt mi).2.2.2.2.1 :: gtb) B.pre
  have hown0 : s.vm.findClass (mt mi).2.1.cls = some m.cls := findClass_of_methodNamed B.named
  have hon : (mt mi).2.1.cls = onN (mt mi).1 := by
    rcases m6 with h9 | h9
    · have := List.all_eq_true.mp own99 mi hmu
      rw [h9] at this
      cases this
    · simp [onN, h9]
  have ac : AC X (mt mi) p s m (av.map (mv X)).toArray meth c := by
    refine ⟨B.exec, B.bytes, hml, B.notSynchronized, by rw [← hon]; exact hown0, fun w hw => hts w (List.mem_cons_of_mem _ hw), hgf, fun h2 => ?_⟩
    have := (name_of_methodNamed B.named B.method).1
    rw [this]
    exact (m9 h2).2.1
  rw [lg_entry_eq]
  have hl := lv_entry (av.map (mv X)) (n := (mt mi).2.2.2.1) (by rw [entl_len]; exact hlen)
  refine hk p e s m _ below meth c ac B.returns s.heap [] _ hw va_S.rf ⟨?_, hl.1, hl.2.1, fun j v hj => ?_⟩
  · unfold ent
    rw [List.length_append, List.length_replicate]
    omega
  · unfold ent at hj
    by_cases hjl : j < (entl av).length
    · rw [List.getElem?_append_left hjl] at hj
      have := entl_args X av 0 j v hj
      rw [Nat.zero_add] at this
      exact hl.2.2 _ this
    · rw [List.getElem?_append_right (by omega)] at hj
      rw [List.getElem?_replicate] at hj
      split at hj <;> cases hj
