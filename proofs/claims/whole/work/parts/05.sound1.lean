/-! lemmas on the picture -/
theorem pws_at {X : GX} {σ : PS} {a : Nat} (h : a < σ.1) : (pws X σ)[a]? = some (gb X + a, pcell X σ a) := by
  simp [pws, h]
theorem pws_len (X : GX) (σ : PS) : (pws X σ).length = σ.1 := by simp [pws]
theorem pws_set {X : GX} {σ τ : PS} {a : Nat} {e : va_E} (hz : τ.1 = σ.1) (h : a < σ.1) (he : pcell X τ a = e) (ho : ∀ b, b ≠ a → pcell X τ b = pcell X σ b) : (pws X σ).set a (gb X + a, e) = pws X τ := by
  apply List.ext_getElem?
  intro i
  by_cases hi : i < σ.1
  · rw [pws_at (σ := τ) (by omega)]
    by_cases ha : i = a
    · subst ha
      rw [List.getElem?_set_self (by rw [pws_len]; exact hi), he]
    · rw [List.getElem?_set_ne (fun q => ha q.symm), pws_at hi, ho i ha]
  · rw [List.getElem?_eq_none (by rw [List.length_set, pws_len]; omega), List.getElem?_eq_none (by rw [pws_len]; omega)]
theorem pws_push {X : GX} {σ τ : PS} {e : va_E} (hz : τ.1 = σ.1 + 1) (he : pcell X τ σ.1 = e) (ho : ∀ b, b < σ.1 → pcell X τ b = pcell X σ b) : pws X σ ++ [(gb X + σ.1, e)] = pws X τ := by
  apply List.ext_getElem?
  intro i
  by_cases hi : i < σ.1
  · rw [pws_at (σ := τ) (by omega), List.getElem?_append_left (by rw [pws_len]; exact hi), pws_at hi, ho i hi]
  · by_cases hi2 : i = σ.1
    · subst hi2
      rw [pws_at (σ := τ) (by omega), List.getElem?_append_right (by rw [pws_len]; omega), pws_len, Nat.sub_self, he]
      rfl
    · rw [List.getElem?_eq_none (by rw [List.length_append, pws_len]; simp; omega), List.getElem?_eq_none (by rw [pws_len]; omega)]
theorem pws_D (X : GX) (σ : PS) : va_D (gA X) (pws X σ) := by
  have key : ∀ (k : Nat) (q : Nat × va_E), (pws X σ)[k]? = some q → q.1 = gb X + k := by
    intro k q h
    have hk : k < σ.1 := by
      have := (List.getElem?_eq_some_iff.mp h).1
      rwa [pws_len] at this
    rw [pws_at hk] at h
    cases h
    rfl
  refine ⟨fun i j p q hp hq e => ?_, fun k q h => ?_⟩
  · have := key i p hp
    have := key j q hq
    omega
  · show gb X ≤ q.1
    rw [key k q h]
    omega
theorem mv_rf (X : GX) (r : Option Nat) : mv X (va_rf r) = va_rf (mr X r) := by cases r <;> rfl
theorem mv_cat (X : GX) (v : Value) : (mv X v).category = v.category := by cases v <;> rfl
theorem u2_eq {α : Type} (f : Nat → Nat → α) (a k : Nat) (v : α) : u2 f a k v a = va_up (f a) k v := by simp [u2, va_up]
theorem u2_ne {α : Type} (f : Nat → Nat → α) {a b : Nat} (k : Nat) (v : α) (h : b ≠ a) : u2 f a k v b = f b := by simp [u2, va_up, h]
theorem upd_up (f : Nat → Int32) (k : Nat) (x : Int32) : upd f k x = va_up f k x := by funext j; simp [upd, va_up]
/-- an int stored: the other cells -/
theorem pcell_I {X : GX} {σ : PS} {a b k : Nat} {v : Int32} (h : b ≠ a) : pcell X (setI σ a k v) b = pcell X σ b := by
  simp only [pcell, fv, u2_ne _ _ _ h]
theorem pcell_L {X : GX} {σ : PS} {a b k : Nat} {v : Int64} (h : b ≠ a) : pcell X (setL σ a k v) b = pcell X σ b := by
  simp only [pcell, fv, u2_ne _ _ _ h]
theorem pcell_R {X : GX} {σ : PS} {a b k : Nat} {v : Option Nat} (h : b ≠ a) : pcell X (setR σ a k v) b = pcell X σ b := by
  simp only [pcell, fv, u2_ne _ _ _ h]
theorem pcell_W {X : GX} {σ : PS} {a b : Nat} {f : Nat → Int32} (h : b ≠ a) : pcell X (setW σ a f) b = pcell X σ b := by
  simp only [pcell, fv, va_up, if_neg h]
theorem pcell_alo {X : GX} {σ : PS} {b c n : Nat} (h : b < σ.1) : pcell X (alo σ c n) b = pcell X σ b := by
  have h' : b ≠ σ.1 := by omega
  simp only [pcell, fv, va_up, if_neg h']
theorem pc_int {X : GX} {σ : PS} {a m : Nat} (h : σ.2.1 a = (13, m)) : pcell X σ a = .inl (gt X 13, m, .inl (σ.2.2.1 a)) := by simp [pcell, h]
theorem pc_bool {X : GX} {σ : PS} {a m : Nat} (h : σ.2.1 a = (15, m)) : pcell X σ a = .inl (gt X 15, m, .inl (σ.2.2.1 a)) := by simp [pcell, h]
theorem pc_long {X : GX} {σ : PS} {a m : Nat} (h : σ.2.1 a = (14, m)) : pcell X σ a = .inl (gt X 14, m, .inr (.inl (σ.2.2.2.1 a))) := by simp [pcell, h]
theorem pc_ref {X : GX} {σ : PS} {a c m : Nat} (h : σ.2.1 a = (c, m)) (hc : c = 16 ∨ c = 17) : pcell X σ a = .inl (gt X c, m, .inr (.inr (.inr (.inr (fun j => mr X (σ.2.2.2.2 a j)))))) := by
  rcases hc with rfl | rfl <;> simp [pcell, h]
theorem pc_obj {X : GX} {σ : PS} {a c : Nat} (h : (σ.2.1 a).1 = c) (hc : c < 13) : pcell X σ a = .inr (c, (fty c).mapIdx (fun j t => mv X (fv σ t a j))) := by
  unfold pcell
  rw [h, if_neg (by omega), if_neg (by omega), if_neg (by omega)]
theorem mapIdx_set {α β : Type} {l : List α} {f g : Nat → α → β} {k : Nat} {t : α} {v : β} (hk : l[k]? = some t) (hv : g k t = v) (ho : ∀ j x, j ≠ k → g j x = f j x) : (l.mapIdx f).set k v = l.mapIdx g := by
  apply List.ext_getElem?
  intro i
  have hkl : k < l.length := (List.getElem?_eq_some_iff.mp hk).1
  by_cases hi : i = k
  · subst hi
    rw [List.getElem?_set_self (by simpa using hkl), List.getElem?_mapIdx, hk]
    simp [hv]
  · rw [List.getElem?_set_ne (fun q => hi q.symm), List.getElem?_mapIdx, List.getElem?_mapIdx]
    cases l[i]? with
    | none => rfl
    | some x => simp [ho i x hi]
