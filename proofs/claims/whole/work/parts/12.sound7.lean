/-! what the check says of the bytes -/
theorem ck_aload {q : MI} {pc j : Nat} {al : Instr × Nat} (h : ck q pc al (.aload j) = true) : (∃ t : Fin 4, al = (.aload_n t, 1) ∧ (t : Nat) = j) ∨ al = (.aload j, 2) := by
  simp only [ck] at h
  split at h
  · exact Or.inl ⟨_, rfl, by simpa using h⟩
  · exact Or.inr (by have h9 := eq_of_beq h; rw [h9])
  · cases h
theorem ck_iload {q : MI} {pc j : Nat} {al : Instr × Nat} (h : ck q pc al (.iload j) = true) : (∃ t : Fin 4, al = (.iload_n t, 1) ∧ (t : Nat) = j) ∨ al = (.iload j, 2) := by
  simp only [ck] at h
  split at h
  · exact Or.inl ⟨_, rfl, by simpa using h⟩
  · exact Or.inr (by have h9 := eq_of_beq h; rw [h9])
  · cases h
theorem ck_lload {q : MI} {pc j : Nat} {al : Instr × Nat} (h : ck q pc al (.lload j) = true) : (∃ t : Fin 4, al = (.lload_n t, 1) ∧ (t : Nat) = j) ∨ al = (.lload j, 2) := by
  simp only [ck] at h
  split at h
  · exact Or.inl ⟨_, rfl, by simpa using h⟩
  · exact Or.inr (by have h9 := eq_of_beq h; rw [h9])
  · cases h
theorem ck_astore {q : MI} {pc j : Nat} {al : Instr × Nat} (h : ck q pc al (.astore j) = true) : (∃ t : Fin 4, al = (.astore_n t, 1) ∧ (t : Nat) = j) ∨ al = (.astore j, 2) := by
  simp only [ck] at h
  split at h
  · exact Or.inl ⟨_, rfl, by simpa using h⟩
  · exact Or.inr (by have h9 := eq_of_beq h; rw [h9])
  · cases h
theorem ck_istore {q : MI} {pc j : Nat} {al : Instr × Nat} (h : ck q pc al (.istore j) = true) : (∃ t : Fin 4, al = (.istore_n t, 1) ∧ (t : Nat) = j) ∨ al = (.istore j, 2) := by
  simp only [ck] at h
  split at h
  · exact Or.inl ⟨_, rfl, by simpa using h⟩
  · exact Or.inr (by have h9 := eq_of_beq h; rw [h9])
  · cases h
theorem ck_lstore {q : MI} {pc j : Nat} {al : Instr × Nat} (h : ck q pc al (.lstore j) = true) : (∃ t : Fin 4, al = (.lstore_n t, 1) ∧ (t : Nat) = j) ∨ al = (.lstore j, 2) := by
  simp only [ck] at h
  split at h
  · exact Or.inl ⟨_, rfl, by simpa using h⟩
  · exact Or.inr (by have h9 := eq_of_beq h; rw [h9])
  · cases h
theorem ck_iconst {q : MI} {pc : Nat} {v : Int} {al : Instr × Nat} (h : ck q pc al (.iconst v) = true) : (∃ w, al = (.iconst w, 1) ∧ Int32.ofInt w = Int32.ofInt v) ∨ (∃ w, al = (.bipush w, 2) ∧ (Int8.ofInt w).toInt32 = Int32.ofInt v) ∨ (∃ w, al = (.sipush w, 3) ∧ (Int16.ofInt w).toInt32 = Int32.ofInt v) ∨ (∃ x, (al = (.ldc x, 2) ∨ al = (.ldc_w x, 3)) ∧ Cond.constant (onN q.1) x (Int32.ofInt v) ∈ gtb) := by
  have key : ∀ x, KI.any (fun z => z.2.1 == q.1 && z.2.2.1 == x && decide (z.2.2.2 = v)) = true → Cond.constant (onN q.1) x (Int32.ofInt v) ∈ gtb := by
    intro x hx
    obtain ⟨z, hz, hz2⟩ := List.any_eq_true.mp hx
    simp only [Bool.and_eq_true, beq_iff_eq, decide_eq_true_eq] at hz2
    have := at_in (List.all_eq_true.mp KI_ok z hz)
    rw [hz2.1.1, hz2.1.2, hz2.2] at this
    exact gtb_in this rfl
  simp only [ck] at h
  split at h
  · exact Or.inl ⟨_, rfl, by simpa using h⟩
  · exact Or.inr (Or.inl ⟨_, rfl, by simpa using h⟩)
  · exact Or.inr (Or.inr (Or.inl ⟨_, rfl, by simpa using h⟩))
  · exact Or.inr (Or.inr (Or.inr ⟨_, Or.inl rfl, key _ h⟩))
  · exact Or.inr (Or.inr (Or.inr ⟨_, Or.inr rfl, key _ h⟩))
  · cases h
theorem ck_lconst {q : MI} {pc : Nat} {v : Int} {al : Instr × Nat} (h : ck q pc al (.sipush v) = true) : (∃ t : Fin 2, al = (.lconst t, 1) ∧ Int64.ofNat (t : Nat) = Int64.ofInt v) ∨ (∃ x, al = (.ldc2_w x, 3) ∧ Cond.constantLong (onN q.1) x (Int64.ofInt v) ∈ gtb) := by
  simp only [ck] at h
  split at h
  · exact Or.inl ⟨_, rfl, by simpa using h⟩
  · rename_i x
    refine Or.inr ⟨x, rfl, ?_⟩
    obtain ⟨z, hz, hz2⟩ := List.any_eq_true.mp h
    simp only [Bool.and_eq_true, beq_iff_eq, decide_eq_true_eq] at hz2
    have := at_in (List.all_eq_true.mp KJ_ok z hz)
    rw [hz2.1.1, hz2.1.2, hz2.2] at this
    exact gtb_in this rfl
  · cases h
theorem ck_ldc {q : MI} {pc j : Nat} {al : Instr × Nat} (h : ck q pc al (.ldc j) = true) : ∃ x tx, al = (.ldc x, 2) ∧ q.1 = 8 ∧ sIdx[j]? = some (x, tx) := by
  simp only [ck] at h
  split at h
  · rename_i x
    simp only [Bool.and_eq_true, beq_iff_eq, List.getElem?_map] at h
    cases hs : sIdx[j]? with
    | none => rw [hs] at h; simp at h
    | some z =>
      rw [hs] at h
      obtain ⟨z1, z2⟩ := z
      simp at h
      exact ⟨x, z2, rfl, h.1, by rw [h.2]⟩
  · cases h
theorem ck_goto {q : MI} {pc : Nat} {t : Int} {al : Instr × Nat} (h : ck q pc al (.goto t) = true) : ∃ w, al = (.goto w, 3) ∧ (pc : Int) + w = (t.toNat : Int) := by
  simp only [ck] at h
  split at h
  · simp only [Bool.and_eq_true, decide_eq_true_eq] at h
    exact ⟨_, rfl, by omega⟩
  · cases h
theorem ck_icmp {q : MI} {pc : Nat} {b : ClassFile.Cond} {t : Int} {al : Instr × Nat} (h : ck q pc al (.if_icmp b t) = true) : ∃ w, al = (.if_icmp b w, 3) ∧ (pc : Int) + w = (t.toNat : Int) := by
  simp only [ck] at h
  split at h
  · simp only [Bool.and_eq_true, decide_eq_true_eq] at h
    exact ⟨_, by rw [h.1.1], by omega⟩
  · cases h
theorem ck_if {q : MI} {pc : Nat} {b : ClassFile.Cond} {t : Int} {al : Instr × Nat} (h : ck q pc al (.ifCond b t) = true) : ∃ w, al = (.ifCond b w, 3) ∧ (pc : Int) + w = (t.toNat : Int) := by
  simp only [ck] at h
  split at h
  · simp only [Bool.and_eq_true, decide_eq_true_eq] at h
    exact ⟨_, by rw [h.1.1], by omega⟩
  · cases h
theorem ck_ifnn {q : MI} {pc : Nat} {t : Int} {al : Instr × Nat} (h : ck q pc al (.ifnonnull t) = true) : ∃ w, al = (.ifnonnull w, 3) ∧ (pc : Int) + w = (t.toNat : Int) := by
  simp only [ck] at h
  split at h
  · simp only [Bool.and_eq_true, decide_eq_true_eq] at h
    exact ⟨_, rfl, by omega⟩
  · cases h
theorem ck_tsw {q : MI} {pc : Nat} {df lo hi : Int} {ts : Array Int} {al : Instr × Nat} (h : ck q pc al (.tableswitch df lo hi ts) = true) : ∃ w ws len, al = (.tableswitch w lo hi ws, len) ∧ (pc : Int) + w = (df.toNat : Int) ∧ (ts.size : Int) = hi - lo + 1 ∧ ∀ (j : Nat) (t : Int), ts[j]? = some t → ∃ z, ws[j]? = some z ∧ (pc : Int) + z = (t.toNat : Int) := by
  simp only [ck] at h
  split at h
  · rename_i w lo' hi' ws len
    simp only [Bool.and_eq_true, decide_eq_true_eq] at h
    obtain ⟨⟨⟨⟨⟨⟨h1, h2⟩, h3⟩, h4⟩, h5⟩, h6⟩, h7⟩ := h
    subst h1; subst h2
    refine ⟨w, ws, len, rfl, by omega, h7, fun j t hj => ?_⟩
    have hj' : ts.toList[j]? = some t := by simpa using hj
    rw [← h5, List.getElem?_map] at hj'
    have ht : 0 ≤ t := by
      have := List.all_eq_true.mp h6 t (List.mem_of_getElem? (by simpa using hj))
      simpa using this
    cases hw : ws[j]? with
    | none => simp [hw] at hj'
    | some z =>
      refine ⟨z, rfl, ?_⟩
      simp [hw] at hj'
      omega
  · cases h
theorem ck_getf {q : MI} {pc f : Nat} {al : Instr × Nat} (h : ck q pc al (.getfield f) = true) : ∃ x, al = (.getfield x, 3) ∧ ((f = 5000 ∧ q.1 = 16 ∧ x = 9) ∨ (f = 5001 ∧ q.1 = 16 ∧ x = 15) ∨ (f ≠ 5000 ∧ f ≠ 5001 ∧ ckF q x f = true)) := by
  simp only [ck] at h
  split at h
  · rename_i x
    refine ⟨x, rfl, ?_⟩
    by_cases h1 : f = 5000
    · rw [if_pos h1] at h
      simp at h
      exact Or.inl ⟨h1, h.1, h.2⟩
    · rw [if_neg h1] at h
      by_cases h2 : f = 5001
      · rw [if_pos h2] at h
        simp at h
        exact Or.inr (Or.inl ⟨h2, h.1, h.2⟩)
      · rw [if_neg h2] at h
        exact Or.inr (Or.inr ⟨h1, h2, h⟩)
  · cases h
theorem ck_putf {q : MI} {pc f : Nat} {al : Instr × Nat} (h : ck q pc al (.putfield f) = true) : ∃ x, al = (.putfield x, 3) ∧ ckP q x f = true := by
  simp only [ck] at h
  split at h
  · exact ⟨_, rfl, h⟩
  · cases h
theorem ck_gets {q : MI} {pc j : Nat} {al : Instr × Nat} (h : ck q pc al (.getstatic j) = true) : ∃ x, al = (.getstatic x, 3) ∧ q.1 = 16 ∧ ((j = 0 ∧ x = 38) ∨ (j = 1 ∧ x = 1053)) := by
  simp only [ck] at h
  split at h
  · simp at h
    exact ⟨_, rfl, h.1, h.2⟩
  · cases h
theorem ck_anew {q : MI} {pc t : Nat} {al : Instr × Nat} (h : ck q pc al (.anewarray t) = true) : ∃ x, al = (.anewarray x, 3) ∧ (t = 16 ∨ t = 17) ∧ ALt.any (fun z => z.2.1 == q.1 && z.2.2.1 == x && z.2.2.2 == t) = true := by
  simp only [ck] at h
  split at h
  · rw [Bool.and_eq_true] at h
    exact ⟨_, rfl, by simpa using h.1, h.2⟩
  · cases h
theorem ck_new {q : MI} {pc t : Nat} {al : Instr × Nat} (h : ck q pc al (.new t) = true) : ∃ x, al = (.new x, 3) ∧ t < 13 ∧ CL.any (fun z => z.2.1 == q.1 && z.2.2.1 == x && z.2.2.2 == t) = true := by
  simp only [ck] at h
  split at h
  · rw [Bool.and_eq_true] at h
    exact ⟨_, rfl, by simpa using h.1, h.2⟩
  · cases h
theorem ck_ivs {q : MI} {pc mi : Nat} {al : Instr × Nat} (h : ck q pc al (.invokestatic mi) = true) : ∃ x, al = (.invokestatic x, 3) ∧ ckM q x mi 0 = true := by
  simp only [ck] at h
  split at h
  · exact ⟨_, rfl, h⟩
  · cases h
theorem ck_ivv {q : MI} {pc mi : Nat} {al : Instr × Nat} (h : ck q pc al (.invokevirtual mi) = true) : ∃ x, al = (.invokevirtual x, 3) ∧ ckM q x mi 1 = true := by
  simp only [ck] at h
  split at h
  · exact ⟨_, rfl, h⟩
  · cases h
theorem ck_ivi {q : MI} {pc mi : Nat} {al : Instr × Nat} (h : ck q pc al (.invokespecial mi) = true) : ∃ x, al = (.invokespecial x, 3) ∧ ckM q x mi 2 = true := by
  simp only [ck] at h
  split at h
  · exact ⟨_, rfl, h⟩
  · cases h
theorem ck_ivd {q : MI} {pc j : Nat} {al : Instr × Nat} (h : ck q pc al (.invokedynamic j) = true) : ∃ x, ((j ≠ 1 ∧ al = (.invokestatic x, 3)) ∨ (j = 1 ∧ al = (.invokespecial x, 3))) ∧ SLt.any (fun z => z.2.1 == q.1 && z.2.2.1 == x && z.2.2.2 == j) = true := by
  simp only [ck] at h
  split at h
  · rw [Bool.and_eq_true] at h
    exact ⟨_, Or.inl ⟨by simpa using h.1, rfl⟩, h.2⟩
  · rw [Bool.and_eq_true] at h
    exact ⟨_, Or.inr ⟨by simpa using h.1, rfl⟩, h.2⟩
  · cases h
