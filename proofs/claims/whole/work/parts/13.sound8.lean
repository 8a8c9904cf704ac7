/-! ONE STEP, whatever it is -/
def RI (rt : Option FieldType) (v : Option Value) (ins : Instr) : Prop := (v = none ∧ ins = .return_) ∨ (∃ x, v = some (.int x) ∧ ins = .ireturn ∧ nar rt x) ∨ (∃ x, v = some (.long x) ∧ ins = .lreturn) ∨ (∃ a, v = some (.ref a) ∧ ins = .areturn)
def RtOK (X : GX) (q : MI) (p : Program) (e : Env) (R : Room) (s : State) (m : MethodId) (args : Array Value) (below : List Frame) (meth : Method) (c : Code) (E : State → Prop) (rt : Option FieldType) (v : Option Value) (σ : PS) (k n : Nat) : Prop :=
  ∀ (H : Heap) (locs : List Loc) (lsM : Array Slot) (pc : Nat) (ins : Instr), wldH X σ H → va_S (gA X) s.heap H locs → decode q.2.2.1 pc = .ok (ins, 1) → RI rt v ins → W p (gl X) e R s m args below meth c H locs k n E (F0 m pc lsM (v.toList.map (mv X)))
section S6
variable {X : GX} {q : MI} {p : Program} {e : Env} {R : Room} {s : State} {m : MethodId} {args : Array Value} {below : List Frame} {meth : Method} {c : Code} {E : State → Prop} {d MC MS : Nat}
variable {pc : Nat} {ls : LcT} {σ : PS} {k n : Nat}
theorem fv_I {a j t : Nat} {v : Int32} {j' t' : Nat} (h : j' ≠ j) : fv (setI σ a j v) t' a j' = fv σ t' a j' := by
  simp [fv, u2_eq, va_up, h]
theorem fv_L {a j t : Nat} {v : Int64} {j' t' : Nat} (h : j' ≠ j) : fv (setL σ a j v) t' a j' = fv σ t' a j' := by
  simp [fv, u2_eq, va_up, h]
theorem fv_R {a j t : Nat} {v : Option Nat} {j' t' : Nat} (h : j' ≠ j) : fv (setR σ a j v) t' a j' = fv σ t' a j' := by
  simp [fv, u2_eq, va_up, h]
set_option maxHeartbeats 4000000 in
theorem stp_sound (ac : AC X q p s m args meth c) (hR : Rn R d MC MS) {rt : Option FieldType} {J : JT} {RT : Option Value → PS → Nat → Nat → Prop} (hJ : ∀ pc ls st σ k n, J pc ls st σ k n → OK X q p e R s m args below meth c E pc ls st σ k n) (hRT : ∀ v σ k n, RT v σ k n → RtOK X q p e R s m args below meth c E rt v σ k n)
    (i : Instr) {al : Instr × Nat} {st : List Value} {G : GT} (hd : decode q.2.2.1 pc = .ok al) (hc : ck q pc al i = true) (hw : stpw X d MC MS rt J RT i ls st σ k n G) (hG : ∀ ls st σ k n, G ls st σ k n → OK X q p e R s m args below meth c E (pc + al.2) ls st σ k n) : OK X q p e R s m args below meth c E pc ls st σ k n := by
  have hx := ac.1
  have hb := ac.2.1
  have hts := ac.2.2.2.2.2.1
  have hgf := ac.2.2.2.2.2.2.1
  have hown := ac.2.2.2.2.1
  cases i
  case aload j =>
    obtain ⟨v, h1, h2, hg⟩ := hw
    rcases ck_aload hc with ⟨t, rfl, ht⟩ | rfl
    · intro H locs lsM a1 a2 a3
      have h3 := a3.2.2.2 j v h1
      have g1 := hG _ _ _ _ _ hg H locs lsM a1 a2 a3
      cases v <;> first | (cases h2; done) | exact lv_aload_n hx hb hd ht h3 g1 | exact lv_aload_nN hx hb hd ht h3 g1
    · intro H locs lsM a1 a2 a3
      have h3 := a3.2.2.2 j v h1
      have g1 := hG _ _ _ _ _ hg H locs lsM a1 a2 a3
      cases v <;> first | (cases h2; done) | exact lv_aload hx hb hd h3 g1 | exact lv_aloadN hx hb hd h3 g1
  case iload j =>
    obtain ⟨v, h1, hg⟩ := hw
    rcases ck_iload hc with ⟨t, rfl, ht⟩ | rfl
    · exact fun H locs lsM a1 a2 a3 => lv_iload_n hx hb hd ht (a3.2.2.2 j _ h1) (hG _ _ _ _ _ hg H locs lsM a1 a2 a3)
    · exact fun H locs lsM a1 a2 a3 => lv_iload hx hb hd (a3.2.2.2 j _ h1) (hG _ _ _ _ _ hg H locs lsM a1 a2 a3)
  case lload j =>
    obtain ⟨v, h1, hg⟩ := hw
    rcases ck_lload hc with ⟨t, rfl, ht⟩ | rfl
    · exact fun H locs lsM a1 a2 a3 => lv_lload_n hx hb hd ht (a3.2.2.2 j _ h1) (hG _ _ _ _ _ hg H locs lsM a1 a2 a3)
    · exact fun H locs lsM a1 a2 a3 => lv_lload hx hb hd (a3.2.2.2 j _ h1) (hG _ _ _ _ _ hg H locs lsM a1 a2 a3)
  case astore j =>
    obtain ⟨v, r, rfl, h2, hj, hg⟩ := hw
    rcases ck_astore hc with ⟨t, rfl, ht⟩ | rfl
    · intro H locs lsM a1 a2 a3
      have hn : j < q.2.2.2.1 := by rw [← a3.1]; exact hj
      cases v <;> first | (cases h2; done) | exact lv_astore_n hx hb hd ht a3.has hn rfl (fun ls' h' => hG _ _ _ _ _ hg H locs ls' a1 a2 (LR_st1 a3 h')) | exact lv_astore_nN hx hb hd ht a3.has hn rfl (fun ls' h' => hG _ _ _ _ _ hg H locs ls' a1 a2 (LR_st1 a3 h'))
    · intro H locs lsM a1 a2 a3
      have hn : j < q.2.2.2.1 := by rw [← a3.1]; exact hj
      cases v <;> first | (cases h2; done) | exact lv_astore hx hb hd a3.has hn rfl (fun ls' h' => hG _ _ _ _ _ hg H locs ls' a1 a2 (LR_st1 a3 h')) | exact lv_astoreN hx hb hd a3.has hn rfl (fun ls' h' => hG _ _ _ _ _ hg H locs ls' a1 a2 (LR_st1 a3 h'))
  case istore j =>
    obtain ⟨v, r, rfl, hj, hg⟩ := hw
    rcases ck_istore hc with ⟨t, rfl, ht⟩ | rfl
    · exact fun H locs lsM a1 a2 a3 => lv_istore_n hx hb hd ht a3.has (by rw [← a3.1]; exact hj) rfl (fun ls' h' => hG _ _ _ _ _ hg H locs ls' a1 a2 (LR_st1 a3 h'))
    · exact fun H locs lsM a1 a2 a3 => lv_istore hx hb hd a3.has (by rw [← a3.1]; exact hj) rfl (fun ls' h' => hG _ _ _ _ _ hg H locs ls' a1 a2 (LR_st1 a3 h'))
  case lstore j =>
    obtain ⟨v, r, rfl, hj, hg⟩ := hw
    rcases ck_lstore hc with ⟨t, rfl, ht⟩ | rfl
    · exact fun H locs lsM a1 a2 a3 => lv_lstore_n hx hb hd ht a3.has (by rw [← a3.1]; exact hj) rfl (fun ls' h' => hG _ _ _ _ _ hg H locs ls' a1 a2 (LR_st2 a3 h'))
    · exact fun H locs lsM a1 a2 a3 => lv_lstore hx hb hd a3.has (by rw [← a3.1]; exact hj) rfl (fun ls' h' => hG _ _ _ _ _ hg H locs ls' a1 a2 (LR_st2 a3 h'))
  case iinc j w =>
    obtain ⟨x, h1, hg⟩ := hw
    have e1 := of_decide_eq_true hc
    subst e1
    intro H locs lsM a1 a2 a3
    obtain ⟨kk, hkk⟩ := List.getElem?_of_mem (prM_mem (X := X) h1)
    exact lv_iinc hx hb hd a3.has hkk rfl (by rw [← a3.1]; exact (List.getElem?_eq_some_iff.mp h1).1) rfl (fun ls' h' => hG _ _ _ _ _ hg H locs ls' a1 a2 (LR_st1 a3 h'))
  case iconst v =>
    rcases ck_iconst hc with ⟨w, rfl, hv⟩ | ⟨w, rfl, hv⟩ | ⟨w, rfl, hv⟩ | ⟨x, rfl | rfl, hv⟩
    · exact fun H locs lsM a1 a2 a3 => lv_iconst hx hb hd hv (hG _ _ _ _ _ hw H locs lsM a1 a2 a3)
    · exact fun H locs lsM a1 a2 a3 => lv_bipush hx hb hd hv (hG _ _ _ _ _ hw H locs lsM a1 a2 a3)
    · exact fun H locs lsM a1 a2 a3 => lv_sipush hx hb hd hv (hG _ _ _ _ _ hw H locs lsM a1 a2 a3)
    · exact fun H locs lsM a1 a2 a3 => lv_ldc hx hb hown (hts _ hv) hd (hG _ _ _ _ _ hw H locs lsM a1 a2 a3)
    · exact fun H locs lsM a1 a2 a3 => lv_ldcw hx hb hown (hts _ hv) hd (hG _ _ _ _ _ hw H locs lsM a1 a2 a3)
  case sipush v =>
    rcases ck_lconst hc with ⟨t, rfl, hv⟩ | ⟨x, rfl, hv⟩
    · exact fun H locs lsM a1 a2 a3 => lv_lconst hx hb hd hv (hG _ _ _ _ _ hw H locs lsM a1 a2 a3)
    · exact fun H locs lsM a1 a2 a3 => lv_ldc2 hx hb hown (hts _ hv) hd (hG _ _ _ _ _ hw H locs lsM a1 a2 a3)
  case ldc j =>
    obtain ⟨hj, hg⟩ := hw
    obtain ⟨x, tx, rfl, hq8, hs⟩ := ck_ldc hc
    have hown8 : s.vm.findClass RX8 = some m.cls := by
      have := hown
      rw [hq8] at this
      exact this
    exact fun H locs lsM a1 a2 a3 => va_ldcS hx hb hown8 (hgf.2.2.2.2.2.1 j x tx hs) hd (hG _ _ _ _ _ hg H locs lsM a1 a2 a3)
  case dup =>
    obtain ⟨v, r, rfl, h1, hg⟩ := hw
    have e1 := of_decide_eq_true hc
    subst e1
    exact fun H locs lsM a1 a2 a3 => lv_dup hx hb hd (by rw [mv_cat]; exact h1) (hG _ _ _ _ _ hg H locs lsM a1 a2 a3)
  case dup2 =>
    obtain ⟨v, w, r, rfl, h1, h2, hg⟩ := hw
    have e1 := of_decide_eq_true hc
    subst e1
    exact fun H locs lsM a1 a2 a3 => lv_dup2_11 hx hb hd (by rw [mv_cat]; exact h1) (by rw [mv_cat]; exact h2) (hG _ _ _ _ _ hg H locs lsM a1 a2 a3)
  case pop =>
    obtain ⟨v, r, rfl, h1, hg⟩ := hw
    have e1 := of_decide_eq_true hc
    subst e1
    exact fun H locs lsM a1 a2 a3 => lv_pop hx hb hd (by rw [mv_cat]; exact h1) (hG _ _ _ _ _ hg H locs lsM a1 a2 a3)
  case iadd =>
    obtain ⟨y, x, r, rfl, hg⟩ := hw
    have e1 := of_decide_eq_true hc
    subst e1
    exact fun H locs lsM a1 a2 a3 => lv_iadd hx hb hd (hG _ _ _ _ _ hg H locs lsM a1 a2 a3)
  case isub =>
    obtain ⟨y, x, r, rfl, hg⟩ := hw
    have e1 := of_decide_eq_true hc
    subst e1
    exact fun H locs lsM a1 a2 a3 => lv_isub hx hb hd (hG _ _ _ _ _ hg H locs lsM a1 a2 a3)
  case imul =>
    obtain ⟨y, x, r, rfl, hg⟩ := hw
    have e1 := of_decide_eq_true hc
    subst e1
    exact fun H locs lsM a1 a2 a3 => lv_imul hx hb hd (hG _ _ _ _ _ hg H locs lsM a1 a2 a3)
  case idiv =>
    obtain ⟨y, x, r, rfl, h0, hg⟩ := hw
    have e1 := of_decide_eq_true hc
    subst e1
    exact fun H locs lsM a1 a2 a3 => lv_idiv hx hb hd h0 (hG _ _ _ _ _ hg H locs lsM a1 a2 a3)
  case irem =>
    obtain ⟨y, x, r, rfl, h0, hg⟩ := hw
    have e1 := of_decide_eq_true hc
    subst e1
    exact fun H locs lsM a1 a2 a3 => lv_irem hx hb hd h0 (hG _ _ _ _ _ hg H locs lsM a1 a2 a3)
  case ineg =>
    obtain ⟨x, r, rfl, hg⟩ := hw
    have e1 := of_decide_eq_true hc
    subst e1
    exact fun H locs lsM a1 a2 a3 => lv_ineg hx hb hd (hG _ _ _ _ _ hg H locs lsM a1 a2 a3)
  case iand =>
    obtain ⟨y, x, r, rfl, hg⟩ := hw
    have e1 := of_decide_eq_true hc
    subst e1
    exact fun H locs lsM a1 a2 a3 => lv_iand hx hb hd (hG _ _ _ _ _ hg H locs lsM a1 a2 a3)
  case ior =>
    obtain ⟨y, x, r, rfl, hg⟩ := hw
    have e1 := of_decide_eq_true hc
    subst e1
    exact fun H locs lsM a1 a2 a3 => lv_ior hx hb hd (hG _ _ _ _ _ hg H locs lsM a1 a2 a3)
  case ixor =>
    obtain ⟨y, x, r, rfl, hg⟩ := hw
    have e1 := of_decide_eq_true hc
    subst e1
    exact fun H locs lsM a1 a2 a3 => lv_ixor hx hb hd (hG _ _ _ _ _ hg H locs lsM a1 a2 a3)
  case ishl =>
    obtain ⟨y, x, r, rfl, hg⟩ := hw
    have e1 := of_decide_eq_true hc
    subst e1
    exact fun H locs lsM a1 a2 a3 => lv_ishl hx hb hd (hG _ _ _ _ _ hg H locs lsM a1 a2 a3)
  case ishr =>
    obtain ⟨y, x, r, rfl, hg⟩ := hw
    have e1 := of_decide_eq_true hc
    subst e1
    exact fun H locs lsM a1 a2 a3 => lv_ishr hx hb hd (hG _ _ _ _ _ hg H locs lsM a1 a2 a3)
  case iushr =>
    obtain ⟨y, x, r, rfl, hg⟩ := hw
    have e1 := of_decide_eq_true hc
    subst e1
    exact fun H locs lsM a1 a2 a3 => lv_iushr hx hb hd rfl (hG _ _ _ _ _ hg H locs lsM a1 a2 a3)
  case ladd =>
    obtain ⟨y, x, r, rfl, hg⟩ := hw
    have e1 := of_decide_eq_true hc
    subst e1
    exact fun H locs lsM a1 a2 a3 => lv_ladd hx hb hd (hG _ _ _ _ _ hg H locs lsM a1 a2 a3)
  case lsub =>
    obtain ⟨y, x, r, rfl, hg⟩ := hw
    have e1 := of_decide_eq_true hc
    subst e1
    exact fun H locs lsM a1 a2 a3 => lv_lsub hx hb hd (hG _ _ _ _ _ hg H locs lsM a1 a2 a3)
  case lmul =>
    obtain ⟨y, x, r, rfl, hg⟩ := hw
    have e1 := of_decide_eq_true hc
    subst e1
    exact fun H locs lsM a1 a2 a3 => lv_lmul hx hb hd (hG _ _ _ _ _ hg H locs lsM a1 a2 a3)
  case ldiv =>
    obtain ⟨y, x, r, rfl, h0, hg⟩ := hw
    have e1 := of_decide_eq_true hc
    subst e1
    exact fun H locs lsM a1 a2 a3 => lv_ldiv hx hb hd h0 (hG _ _ _ _ _ hg H locs lsM a1 a2 a3)
  case lrem =>
    obtain ⟨y, x, r, rfl, h0, hg⟩ := hw
    have e1 := of_decide_eq_true hc
    subst e1
    exact fun H locs lsM a1 a2 a3 => lv_lrem hx hb hd h0 (hG _ _ _ _ _ hg H locs lsM a1 a2 a3)
  case lcmp =>
    obtain ⟨y, x, r, rfl, hg⟩ := hw
    have e1 := of_decide_eq_true hc
    subst e1
    exact fun H locs lsM a1 a2 a3 => W.lcmp hx hb hd (hG _ _ _ _ _ hg H locs lsM a1 a2 a3)
  case i2l =>
    obtain ⟨x, r, rfl, hg⟩ := hw
    have e1 := of_decide_eq_true hc
    subst e1
    exact fun H locs lsM a1 a2 a3 => lv_i2l hx hb hd rfl (hG _ _ _ _ _ hg H locs lsM a1 a2 a3)
  case l2i =>
    obtain ⟨x, r, rfl, hg⟩ := hw
    have e1 := of_decide_eq_true hc
    subst e1
    exact fun H locs lsM a1 a2 a3 => lv_l2i hx hb hd rfl (hG _ _ _ _ _ hg H locs lsM a1 a2 a3)
  case i2c =>
    obtain ⟨x, r, rfl, hg⟩ := hw
    have e1 := of_decide_eq_true hc
    subst e1
    exact fun H locs lsM a1 a2 a3 => lv_i2c hx hb hd rfl (hG _ _ _ _ _ hg H locs lsM a1 a2 a3)
  case goto t =>
    obtain ⟨w, rfl, ht⟩ := ck_goto hc
    exact fun H locs lsM a1 a2 a3 => lv_goto hx hb hd ht (hJ _ _ _ _ _ _ hw H locs lsM a1 a2 a3)
  case if_icmp b t =>
    obtain ⟨y, x, r, rfl, h1, h2⟩ := hw
    obtain ⟨w, rfl, ht⟩ := ck_icmp hc
    intro H locs lsM a1 a2 a3
    have k1 := fun z => hJ _ _ _ _ _ _ (h1 z) H locs lsM a1 a2 a3
    have k2 := fun z => hG _ _ _ _ _ (h2 z) H locs lsM a1 a2 a3
    cases b
    · exact lv_icmp_eq hx hb hd ht k1 k2
    · exact lv_icmp_ne hx hb hd ht k1 k2
    · exact lv_icmp_lt hx hb hd ht k1 k2
    · exact lv_icmp_ge hx hb hd ht k1 k2
    · exact lv_icmp_gt hx hb hd ht k1 k2
    · exact lv_icmp_le hx hb hd ht k1 k2
  case ifCond b t =>
    obtain ⟨x, r, rfl, h1, h2⟩ := hw
    obtain ⟨w, rfl, ht⟩ := ck_if hc
    intro H locs lsM a1 a2 a3
    have k1 := fun z => hJ _ _ _ _ _ _ (h1 z) H locs lsM a1 a2 a3
    have k2 := fun z => hG _ _ _ _ _ (h2 z) H locs lsM a1 a2 a3
    cases b
    · exact lv_if_eq hx hb hd ht k1 k2
    · exact lv_if_ne hx hb hd ht k1 k2
    · exact lv_if_lt hx hb hd ht k1 k2
    · exact lv_if_ge hx hb hd ht k1 k2
    · exact lv_if_gt hx hb hd ht k1 k2
    · exact lv_if_le hx hb hd ht k1 k2
  case ifnonnull t =>
    obtain ⟨z, r, rfl, h1, h2⟩ := hw
    obtain ⟨w, rfl, ht⟩ := ck_ifnn hc
    intro H locs lsM a1 a2 a3
    cases z with
    | none => exact lv_ifnonnullN hx hb hd (hG _ _ _ _ _ (h1 rfl) H locs lsM a1 a2 a3)
    | some a => exact lv_ifnonnull hx hb hd ht (hJ _ _ _ _ _ _ (h2 a rfl) H locs lsM a1 a2 a3)
  case tableswitch df lo hi ts =>
    obtain ⟨x, r, rfl, h1, h2⟩ := hw
    obtain ⟨w, ws, len, rfl, hdf, hsz, hts2⟩ := ck_tsw hc
    intro H locs lsM a1 a2 a3
    by_cases hlo : x.toInt < lo
    · exact lv_tableOut hx hb hd (Or.inl hlo) hdf (hJ _ _ _ _ _ _ (h1 (Or.inl hlo)) H locs lsM a1 a2 a3)
    · by_cases hhi : hi < x.toInt
      · exact lv_tableOut hx hb hd (Or.inr hhi) hdf (hJ _ _ _ _ _ _ (h1 (Or.inr hhi)) H locs lsM a1 a2 a3)
      · have hj : (x.toInt - lo).toNat < ts.size := by omega
        have ej : ts[(x.toInt - lo).toNat]? = some (ts[(x.toInt - lo).toNat]) := Array.getElem?_eq_getElem hj
        obtain ⟨z, hz1, hz2⟩ := hts2 _ _ ej
        exact lv_tableIn hx hb hd hlo hhi hz1 hz2 (hJ _ _ _ _ _ _ (h2 _ _ (by omega) ej) H locs lsM a1 a2 a3)
  case getfield f =>
    obtain ⟨x, rfl, hf⟩ := ck_getf hc
    rcases hf with ⟨rfl, hq, rfl⟩ | ⟨rfl, hq, rfl⟩ | ⟨n1, n2, hck⟩
    · obtain ⟨j, r, rfl, hj, hg⟩ := hw
      have hown6 : s.vm.findClass "java/lang/String" = some m.cls := by
        have := hown
        rw [hq] at this
        exact this
      exact fun H locs lsM a1 a2 a3 => vk_getf hx hb (hgf.2.2.2.2.1.1 j hj).2.2.1 a2 hown6 (hts _ wd_val) (fun _ h => h) hd (hG _ _ _ _ _ hg H locs lsM a1 a2 a3)
    · obtain ⟨j, r, rfl, hj, hg⟩ := hw
      have hown6 : s.vm.findClass "java/lang/String" = some m.cls := by
        have := hown
        rw [hq] at this
        exact this
      exact fun H locs lsM a1 a2 a3 => vk_getf hx hb (hgf.2.2.2.2.1.1 j hj).2.1 a2 hown6 (hts _ wd_cod) (fun _ h => h) hd (hG _ _ _ _ _ hg H locs lsM a1 a2 a3)
    · unfold stpw at hw
      dsimp only at hw
      rw [if_neg n1, if_neg n2] at hw
      obtain ⟨a, r, rfl, ha, hk, t, ht, hg⟩ := hw
      exact s_getf ac hd hck ha hk ht (hG _ _ _ _ _ hg)
  case putfield f =>
    obtain ⟨v, a, r, rfl, ha, hk, t, ht, hv⟩ := hw
    obtain ⟨x, rfl, hck⟩ := ck_putf hc
    rcases hv with ⟨rfl, y, rfl, hg⟩ | ⟨rfl, y, rfl, hy, hg⟩ | ⟨rfl, y, rfl, hg⟩ | ⟨rfl, y, rfl, hg⟩
    · refine s_putf (τ := setI σ a (f % 100) y) ac hd hck ha hk ht (fun ty hty => ?_) rfl rfl ?_ (fun j t' hj => fv_I (t := 0) hj) (fun b hb => pcell_I hb) (hG _ _ _ _ _ hg)
      · cases ty <;> first | (cases hty; done) | exact ⟨rfl, rfl⟩
      · simp [fv, u2_eq, va_up]
    · refine s_putf (τ := setI σ a (f % 100) y) ac hd hck ha hk ht (fun ty hty => ?_) rfl rfl ?_ (fun j t' hj => fv_I (t := 0) hj) (fun b hb => pcell_I hb) (hG _ _ _ _ _ hg)
      · cases ty <;> first | (cases hty; done) | (rcases hy with rfl | rfl <;> exact ⟨rfl, rfl⟩)
      · simp [fv, u2_eq, va_up]
    · refine s_putf (τ := setR σ a (f % 100) y) ac hd hck ha hk ht (fun ty hty => ?_) rfl rfl ?_ (fun j t' hj => fv_R (t := 0) hj) (fun b hb => pcell_R hb) (hG _ _ _ _ _ hg)
      · cases ty <;> first | (cases hty; done) | (cases y <;> exact ⟨rfl, rfl⟩)
      · simp [fv, u2_eq, va_up]
    · refine s_putf (τ := setL σ a (f % 100) y) ac hd hck ha hk ht (fun ty hty => ?_) rfl rfl ?_ (fun j t' hj => fv_L (t := 0) hj) (fun b hb => pcell_L hb) (hG _ _ _ _ _ hg)
      · cases ty <;> first | (cases hty; done) | exact ⟨rfl, rfl⟩
      · simp [fv, u2_eq, va_up]
  case getstatic j =>
    obtain ⟨x, rfl, hq, hj⟩ := ck_gets hc
    have hown6 : s.vm.findClass "java/lang/String" = some m.cls := by
      have := hown
      rw [hq] at this
      exact this
    rcases hj with ⟨rfl, rfl⟩ | ⟨rfl, rfl⟩
    · exact fun H locs lsM a1 a2 a3 => va_gets hx hb hgf.2.2.2.2.2.2.1 a2 hown6 (hts _ wd_com) (fun _ h => h) hd (hG _ _ _ _ _ hw H locs lsM a1 a2 a3)
    · intro H locs lsM a1 a2 a3
      refine va_gets hx hb hgf.2.2.2.2.2.2.2.1 a2 hown6 (hts _ wd_fmt) (fun _ h => h) hd ?_
      have := hG _ _ _ _ _ hw H locs lsM a1 a2 a3
      by_cases hf : gf X = true
      · rw [if_pos hf] at this ⊢; exact this
      · rw [if_neg hf] at this ⊢; exact this
  case iaload =>
    obtain ⟨i, v, r, rfl, hv⟩ := hw
    have e1 := of_decide_eq_true hc
    subst e1
    rcases hv with ⟨a, m0, rfl, ha, hk, hi, hg⟩ | ⟨rfl, hi, hg⟩
    · intro H locs lsM a1 a2 a3
      have hat := pws_at (X := X) ha
      rw [pc_int hk] at hat
      exact va_iald hx hb hgf.1 a1.2 a 0 hat (tys_at X).1 hi hd (hG _ _ _ _ _ hg H locs lsM a1 a2 a3)
    · exact fun H locs lsM a1 a2 a3 => va_sld hx hb hgf.2.2.2.2.2.2.2.2.1 (by have := hgf.2.2.2.2.2.2.2.2.2; omega) (show ¬ gb X ≤ gs X 100 by have := hgf.2.2.2.2.2.2.2.2.2; omega) a2 hi hd (hG _ _ _ _ _ hg H locs lsM a1 a2 a3)
  case laload =>
    obtain ⟨i, a, m0, r, rfl, ha, hk, hi, hg⟩ := hw
    have e1 := of_decide_eq_true hc
    subst e1
    intro H locs lsM a1 a2 a3
    have hat := pws_at (X := X) ha
    rw [pc_long hk] at hat
    exact va_lald hx hb hgf.1 a1.2 a 1 hat (tys_at X).2.1 hi hd (hG _ _ _ _ _ hg H locs lsM a1 a2 a3)
  case baload =>
    obtain ⟨i, v, r, rfl, hv⟩ := hw
    have e1 := of_decide_eq_true hc
    subst e1
    rcases hv with ⟨a, m0, rfl, ha, hk, hi, hg⟩ | ⟨j, rfl, hj, hi, hg⟩
    · intro H locs lsM a1 a2 a3
      have hat := pws_at (X := X) ha
      rw [pc_bool hk] at hat
      exact va_zald hx hb hgf.1 a1.2 a 2 hat (tys_at X).2.2.1 hi hd (hG _ _ _ _ _ hg H locs lsM a1 a2 a3)
    · intro H locs lsM a1 a2 a3
      have g1 := hG _ _ _ _ _ hg H locs lsM a1 a2 a3
      exact va_tb hx hb (hgf.2.2.2.2.1.1 j hj).2.2.2 a2 hi rfl hd g1
  case aaload =>
    obtain ⟨i, a, c0, m0, r, rfl, ha, hk, hc0, hi, hg⟩ := hw
    have e1 := of_decide_eq_true hc
    subst e1
    intro H locs lsM a1 a2 a3
    have hat := pws_at (X := X) ha
    rw [pc_ref hk hc0] at hat
    have g1 := hG _ _ _ _ _ hg H locs lsM a1 a2 a3
    rw [List.map_cons, mv_rf] at g1
    rcases hc0 with rfl | rfl
    · exact va_aldq hx hb hgf.1 a1.2 a 3 hat (tys_at X).2.2.2.1 hi hd g1
    · exact va_aldq hx hb hgf.1 a1.2 a 4 hat (tys_at X).2.2.2.2 hi hd g1
  case iastore =>
    obtain ⟨x, i, a, m0, r, rfl, ha, hk, hi, hg⟩ := hw
    have e1 := of_decide_eq_true hc
    subst e1
    exact s_iast ac hd ha hk hi (hG _ _ _ _ _ hg)
  case lastore =>
    obtain ⟨x, i, a, m0, r, rfl, ha, hk, hi, hg⟩ := hw
    have e1 := of_decide_eq_true hc
    subst e1
    exact s_last ac hd ha hk hi (hG _ _ _ _ _ hg)
  case bastore =>
    obtain ⟨x, i, a, m0, r, rfl, ha, hk, hi, h01, hg⟩ := hw
    have e1 := of_decide_eq_true hc
    subst e1
    exact s_bast ac hd ha hk hi h01 (hG _ _ _ _ _ hg)
  case aastore =>
    obtain ⟨v, i, a, c0, m0, r, rfl, ha, hv, hk, hc0, hi, hg⟩ := hw
    have e1 := of_decide_eq_true hc
    subst e1
    exact s_aast ac hd ha hv hk hc0 hi (hG _ _ _ _ _ hg)
  case arraylength =>
    obtain ⟨v, r, rfl, hv⟩ := hw
    have e1 := of_decide_eq_true hc
    subst e1
    rcases hv with ⟨a, c0, m0, rfl, ha, hk, h13, h17, hg⟩ | ⟨rfl, hg⟩ | ⟨j, rfl, hj, hg⟩
    · intro H locs lsM a1 a2 a3
      have g1 := hG _ _ _ _ _ hg H locs lsM a1 a2 a3
      have hat := pws_at (X := X) ha
      have h5 : c0 = 13 ∨ c0 = 14 ∨ c0 = 15 ∨ c0 = 16 ∨ c0 = 17 := by omega
      rcases h5 with rfl | rfl | rfl | rfl | rfl
      · rw [pc_int hk] at hat
        exact va_alen hx hb hgf.1 a1.2 a 0 hat (tys_at X).1 rfl hd g1
      · rw [pc_long hk] at hat
        exact va_alen hx hb hgf.1 a1.2 a 1 hat (tys_at X).2.1 rfl hd g1
      · rw [pc_bool hk] at hat
        exact va_alen hx hb hgf.1 a1.2 a 2 hat (tys_at X).2.2.1 rfl hd g1
      · rw [pc_ref hk (Or.inl rfl)] at hat
        exact va_alen hx hb hgf.1 a1.2 a 3 hat (tys_at X).2.2.2.1 rfl hd g1
      · rw [pc_ref hk (Or.inr rfl)] at hat
        exact va_alen hx hb hgf.1 a1.2 a 4 hat (tys_at X).2.2.2.2 rfl hd g1
    · exact fun H locs lsM a1 a2 a3 => va_slen hx hb hgf.2.2.2.2.2.2.2.2.1 (by have := hgf.2.2.2.2.2.2.2.2.2; omega) (show ¬ gb X ≤ gs X 100 by have := hgf.2.2.2.2.2.2.2.2.2; omega) a2 hd (hG _ _ _ _ _ hg H locs lsM a1 a2 a3)
    · intro H locs lsM a1 a2 a3
      have g1 := hG _ _ _ _ _ hg H locs lsM a1 a2 a3
      exact va_tlen hx hb (hgf.2.2.2.2.1.1 j hj).2.2.2 a2 rfl hd g1
  case newarray t =>
    obtain ⟨x, r, rfl, h1, h2, h3, h4, h5, hg⟩ := hw
    have e1 := of_decide_eq_true hc
    subst e1
    exact s_newa ac hR hd h1 h2 h3 h4 h5 (hG _ _ _ _ _ hg)
  case anewarray t =>
    obtain ⟨x, r, rfl, h2, h3, h4, h5, hg⟩ := hw
    obtain ⟨y, rfl, ht, hck⟩ := ck_anew hc
    exact s_anew ac hR hd ht hck h2 h3 h4 h5 (hG _ _ _ _ _ hg)
  case new t =>
    obtain ⟨h4, h5, hg⟩ := hw
    obtain ⟨y, rfl, ht, hck⟩ := ck_new hc
    exact s_new ac hR hd ht hck h4 h5 (hG _ _ _ _ _ hg)
  case invokestatic mi =>
    obtain ⟨x, rfl, hck⟩ := ck_ivs hc
    exact s_call ac hR hck (Or.inl ⟨rfl, rfl, rfl, hd⟩) hw hG
  case invokevirtual mi =>
    obtain ⟨x, rfl, hck⟩ := ck_ivv hc
    exact s_call ac hR hck (Or.inr (Or.inl ⟨rfl, rfl, rfl, hd⟩)) hw hG
  case invokespecial mi =>
    obtain ⟨x, rfl, hck⟩ := ck_ivi hc
    exact s_call ac hR hck (Or.inr (Or.inr ⟨rfl, rfl, rfl, hd⟩)) hw hG
  case invokedynamic j =>
    obtain ⟨x, hal, hck⟩ := ck_ivd hc
    have hR2 := hR
    obtain ⟨r1, r2, r3, r4⟩ := hR
    obtain ⟨z, hz, hz2⟩ := List.any_eq_true.mp hck
    simp only [Bool.and_eq_true, beq_iff_eq] at hz2
    obtain ⟨⟨e1, e2⟩, e3⟩ := hz2
    have hword := SL_word hz
    rw [e1, e2, e3] at hword
    have hml := ac.2.2.1
    unfold stpw at hw
    dsimp only at hw
    by_cases j0 : j = 0
    · subst j0
      rw [if_pos rfl] at hw
      rcases hal with ⟨-, rfl⟩ | ⟨hh, -⟩
      · obtain ⟨m0, dp, b, sp, a, r, na, nb, rfl, h1, h2, h3, h4, h5, h6, h7, h8, h9, h10, h11, hg⟩ := hw
        exact s_copy ac hR2 hd hck h1 h2 h3 h4 h5 h6 h7 h8 h9 h10 h11 (hG _ _ _ _ _ hg)
      · cases hh
    · rw [if_neg j0] at hw
      by_cases j1 : j = 1
      · subst j1
        rw [if_pos rfl] at hw
        rcases hal with ⟨hh, -⟩ | ⟨-, rfl⟩
        · exact absurd rfl hh
        · obtain ⟨a, r, rfl, h1, h2, hg⟩ := hw
          exact fun H locs lsM a1 a2 a3 => W.objInit hx hb hown (hts _ (gtb_in hword rfl)) (hts _ wd_obi) (hts _ wd_obj) rfl (by rw [hml]; exact a3.2.1) rfl hd (by omega) (by show 2 * 0 + _ + 12 ≤ _; rw [cs_map]; omega) (hG _ _ _ _ _ hg H locs lsM a1 a2 a3)
      · rw [if_neg j1] at hw
        rcases hal with ⟨-, rfl⟩ | ⟨hh, -⟩
        · by_cases j2 : j = 2
          · subst j2
            rw [if_pos rfl] at hw
            obtain ⟨y, x, r, rfl, h1, h2, h3, h4, hg⟩ := hw
            exact fun H locs lsM a1 a2 a3 => va_mmax hx hb (by rw [hml]; exact a3.2.1.symm) hown (hts _ (gtb_in hword rfl)) (hts _ wd_maxs) (hts _ wd_mat) (hts _ wd_max) (by omega) (by rw [cs_map]; omega) (by omega) (by omega) hd (hG _ _ _ _ _ hg H locs lsM a1 a2 a3)
          · rw [if_neg j2] at hw
            by_cases j3 : j = 3
            · subst j3
              rw [if_pos rfl] at hw
              obtain ⟨y, x, r, rfl, h1, h2, h3, h4, hg⟩ := hw
              exact fun H locs lsM a1 a2 a3 => va_mmin hx hb (by rw [hml]; exact a3.2.1.symm) hown (hts _ (gtb_in hword rfl)) (hts _ wd_mins) (hts _ wd_mat) (hts _ wd_min) (by omega) (by rw [cs_map]; omega) (by omega) (by omega) hd (hG _ _ _ _ _ hg H locs lsM a1 a2 a3)
            · rw [if_neg j3] at hw
              by_cases j4 : j = 4
              · exact absurd (e3.trans j4) (of_decide_eq_true (List.all_eq_true.mp SL_no4 z hz))
              · rw [if_neg j4] at hw
                exact hw.elim
        · exact absurd hh j1
  case return_ =>
    obtain ⟨rfl, hg⟩ := hw
    have e1 := of_decide_eq_true hc
    subst e1
    exact fun H locs lsM a1 a2 a3 => hRT _ _ _ _ hg H locs lsM pc _ a1 a2 hd (Or.inl ⟨rfl, rfl⟩)
  case ireturn =>
    obtain ⟨x, rfl, hn, hg⟩ := hw
    have e1 := of_decide_eq_true hc
    subst e1
    exact fun H locs lsM a1 a2 a3 => hRT _ _ _ _ hg H locs lsM pc _ a1 a2 hd (Or.inr (Or.inl ⟨x, rfl, rfl, hn⟩))
  case lreturn =>
    obtain ⟨x, rfl, hg⟩ := hw
    have e1 := of_decide_eq_true hc
    subst e1
    exact fun H locs lsM a1 a2 a3 => hRT _ _ _ _ hg H locs lsM pc _ a1 a2 hd (Or.inr (Or.inr (Or.inl ⟨x, rfl, rfl⟩)))
  case areturn =>
    obtain ⟨a, rfl, hg⟩ := hw
    have e1 := of_decide_eq_true hc
    subst e1
    exact fun H locs lsM a1 a2 a3 => hRT _ _ _ _ hg H locs lsM pc _ a1 a2 hd (Or.inr (Or.inr (Or.inr ⟨a, rfl, rfl⟩)))
  all_goals exact hw.elim
end S6
