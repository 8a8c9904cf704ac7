/-! locals; one instruction -/
def LR (X : GX) (nL : Nat) (ls : LcT) (lsM : Array Slot) : Prop := ls.length = nL ∧ lsM.size = nL ∧ lv_wf lsM ∧ ∀ (j : Nat) (v : Value), ls[j]? = some (some v) → lsM[j]? = some (.val (mv X v))
def prM (X : GX) (ls : LcT) : List (Nat × Value) := (List.range ls.length).filterMap (fun j => match ls[j]? with
  | some (some v) => some (j, mv X v)
  | _ => none)
theorem prM_mem {X : GX} {ls : LcT} {j : Nat} {v : Value} (h : ls[j]? = some (some v)) : (j, mv X v) ∈ prM X ls := by
  have hj : j < ls.length := (List.getElem?_eq_some_iff.mp h).1
  exact List.mem_filterMap.mpr ⟨j, List.mem_range.mpr hj, by rw [h]⟩
theorem LR.has {X : GX} {nL : Nat} {ls : LcT} {lsM : Array Slot} (h : LR X nL ls lsM) : lv_has lsM nL (prM X ls) := by
  refine ⟨h.2.1, h.2.2.1, fun q hq => ?_⟩
  obtain ⟨j, -, hj⟩ := List.mem_filterMap.mp hq
  split at hj
  · rename_i v hv
    cases hj
    exact h.2.2.2 j v hv
  · cases hj
theorem klg_s (ls : LcT) (j : Nat) : klg ls (j + 1) = if isLg ls[j]? then ls.set j none else ls := rfl
theorem klg_len (ls : LcT) (j : Nat) : (klg ls j).length = ls.length := by
  cases j with
  | zero => rfl
  | succ j =>
    rw [klg_s]
    by_cases hg : isLg ls[j]? = true
    · rw [if_pos hg, List.length_set]
    · rw [if_neg hg]
theorem klg_at {ls : LcT} {j i : Nat} {w : Value} (h : (klg ls j)[i]? = some (some w)) : ls[i]? = some (some w) ∧ ¬ (i + 1 = j ∧ w.category = 2) := by
  cases j with
  | zero => exact ⟨h, fun q => by omega⟩
  | succ j =>
    rw [klg_s] at h
    by_cases hg : isLg ls[j]? = true
    · rw [if_pos hg] at h
      by_cases hi : i = j
      · subst hi
        by_cases hl : i < ls.length
        · rw [List.getElem?_set_self hl] at h
          cases h
        · rw [List.getElem?_eq_none (by rw [List.length_set]; omega)] at h
          cases h
      · rw [List.getElem?_set_ne (fun q => hi q.symm)] at h
        exact ⟨h, fun q => by omega⟩
    · rw [if_neg hg] at h
      refine ⟨h, fun q => hg ?_⟩
      have hi : i = j := by omega
      subst hi
      rw [h]
      have hc := q.2
      cases w <;> first | rfl | (simp [Value.category] at hc)
theorem LR_st1 {X : GX} {nL : Nat} {ls : LcT} {lsM ls' : Array Slot} {j : Nat} {v : Value} (h : LR X nL ls lsM) (h' : lv_has ls' nL ((j, mv X v) :: (prM X ls).filter (fun q => !(q.1 == j) && !(q.1 + 1 == j && q.2.category == 2)))) : LR X nL (st1 ls j v) ls' := by
  refine ⟨by rw [st1, List.length_set, klg_len]; exact h.1, h'.1, h'.2.1, fun i w hi => ?_⟩
  rw [st1] at hi
  by_cases hij : i = j
  · subst hij
    by_cases hl : i < (klg ls i).length
    · rw [List.getElem?_set_self hl] at hi
      cases hi
      exact h'.2.2 _ List.mem_cons_self
    · rw [List.getElem?_eq_none (by rw [List.length_set]; omega)] at hi
      cases hi
  · rw [List.getElem?_set_ne (fun q => hij q.symm)] at hi
    obtain ⟨h1, h2⟩ := klg_at hi
    refine h'.2.2 (i, mv X w) (List.mem_cons_of_mem _ (List.mem_filter.mpr ⟨prM_mem h1, ?_⟩))
    simp only [Bool.and_eq_true, Bool.not_eq_true', beq_eq_false_iff_ne, ne_eq, Bool.and_eq_false_iff, mv_cat]
    refine ⟨hij, ?_⟩
    by_cases q : i + 1 = j
    · exact Or.inr (fun z => h2 ⟨q, z⟩)
    · exact Or.inl q
theorem LR_st2 {X : GX} {nL : Nat} {ls : LcT} {lsM ls' : Array Slot} {j : Nat} {v : Value} (h : LR X nL ls lsM) (h' : lv_has ls' nL ((j, mv X v) :: (prM X ls).filter (fun q => !(q.1 == j) && (!(q.1 == j + 1) && !(q.1 + 1 == j && q.2.category == 2))))) : LR X nL (st2 ls j v) ls' := by
  refine ⟨by rw [st2, List.length_set, List.length_set, klg_len]; exact h.1, h'.1, h'.2.1, fun i w hi => ?_⟩
  rw [st2] at hi
  by_cases hi1 : i = j + 1
  · subst hi1
    by_cases hl : j + 1 < ((klg ls j).set j (some v)).length
    · rw [List.getElem?_set_self hl] at hi
      cases hi
    · rw [List.getElem?_eq_none (by rw [List.length_set]; omega)] at hi
      cases hi
  · rw [List.getElem?_set_ne (fun q => hi1 q.symm)] at hi
    by_cases hij : i = j
    · subst hij
      by_cases hl : i < (klg ls i).length
      · rw [List.getElem?_set_self hl] at hi
        cases hi
        exact h'.2.2 _ List.mem_cons_self
      · rw [List.getElem?_eq_none (by rw [List.length_set]; omega)] at hi
        cases hi
    · rw [List.getElem?_set_ne (fun q => hij q.symm)] at hi
      obtain ⟨h1, h2⟩ := klg_at hi
      refine h'.2.2 (i, mv X w) (List.mem_cons_of_mem _ (List.mem_filter.mpr ⟨prM_mem h1, ?_⟩))
      simp only [Bool.and_eq_true, Bool.not_eq_true', beq_eq_false_iff_ne, ne_eq, Bool.and_eq_false_iff, mv_cat]
      refine ⟨hij, hi1, ?_⟩
      by_cases q : i + 1 = j
      · exact Or.inr (fun z => h2 ⟨q, z⟩)
      · exact Or.inl q
/-- what holds in a method's own run -/
def AC (X : GX) (q : MI) (p : Program) (s : State) (m : MethodId) (args : Array Value) (meth : Method) (c : Code) : Prop :=
  p.tables.exec = Jvm.exec ∧ c.code = q.2.2.1 ∧ c.maxLocals = q.2.2.2.1 ∧ meth.locks = false ∧ s.vm.findClass (onN q.1) = some m.cls ∧ (∀ w ∈ gtb, w.before args s = true) ∧ GF X s ∧ (q.2.2.2.2.2.2 = 2 → meth.name = "<init>")
def Rn (R : Room) (d MC MS : Nat) : Prop := d ≤ R.frames ∧ 40 * d ≤ R.locals ∧ R.cells = MC ∧ R.slots = MS
/-- the machine's own judgement, at a place of the method's code -/
def OK (X : GX) (q : MI) (p : Program) (e : Env) (R : Room) (s : State) (m : MethodId) (args : Array Value) (below : List Frame) (meth : Method) (c : Code) (E : State → Prop) : JT := fun pc ls st σ k n =>
  ∀ (H : Heap) (locs : List Loc) (lsM : Array Slot), wldH X σ H → va_S (gA X) s.heap H locs → LR X q.2.2.2.1 ls lsM → W p (gl X) e R s m args below meth c H locs k n E (F0 m pc lsM (st.map (mv X)))
section S1
variable {X : GX} {q : MI} {p : Program} {e : Env} {R : Room} {s : State} {m : MethodId} {args : Array Value} {below : List Frame} {meth : Method} {c : Code} {E : State → Prop} {d MC MS : Nat}
variable {pc : Nat} {ls : LcT} {r : List Value} {σ : PS} {k n : Nat}
theorem s_iadd (ac : AC X q p s m args meth c) {x y : Int32} (hd : decode q.2.2.1 pc = .ok (.iadd, 1)) (g : OK X q p e R s m args below meth c E (pc + 1) ls (.int (x + y) :: r) σ k n) : OK X q p e R s m args below meth c E pc ls (.int y :: .int x :: r) σ k n :=
  fun H locs lsM hw hs hl => lv_iadd ac.1 ac.2.1 hd (g H locs lsM hw hs hl)
theorem s_istore (ac : AC X q p s m args meth c) {j : Nat} {x : Int32} (hd : decode q.2.2.1 pc = .ok (.istore j, 2)) (hj : j < ls.length) (g : OK X q p e R s m args below meth c E (pc + 2) (st1 ls j (.int x)) r σ k n) : OK X q p e R s m args below meth c E pc ls (.int x :: r) σ k n :=
  fun H locs lsM hw hs hl => lv_istore ac.1 ac.2.1 hd hl.has (by rw [← hl.1]; exact hj) rfl (fun ls' h' => g H locs ls' hw hs (LR_st1 hl h'))
end S1
