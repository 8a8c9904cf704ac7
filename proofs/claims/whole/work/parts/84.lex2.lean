section
set_option maxRecDepth 100000 in
theorem ev_214_1 {dp : Nat} {e : EN} {I : JI} {L : JI} {P_ : (JI × JI) → Prop} (h : Ev (fun n => (if (I 105 7) ≤ (I 105 8) then (kf_214 n dp e 2 I L) else (if 0 ≤ (I 105 8) ∧ (I 105 8) < 400 then (if (I 110 (I 105 8)) = 32 then (if -2147483648 ≤ (I 105 8) + 1 ∧ (I 105 8) + 1 ≤ 2147483647 then (stI (w2 I 105 8 ((I 105 8) + 1)) (fun I_40 => (kf_214 n dp e 1 I_40 L))) else none) else (kf_214 n dp e 2 I L)) else none))) P_) : Ev (fun n => kf_214 n dp e 1 I L) P_ := Ev_step (fun n => ke_214_1 n dp e I L) h
set_option maxRecDepth 100000 in
theorem ev_214_3 {dp : Nat} {e : EN} {I : JI} {L : JI} {P_ : (JI × JI) → Prop} (h : Ev (fun n => (if (I 105 10) = 1 then (if (I 105 7) ≤ (I 105 9) then (kf_214 n dp e 4 I L) else (if 0 ≤ (I 105 9) ∧ (I 105 9) < 400 then (if 1 ≤ dp then ((kf_215 n (dp - 1) e 0 I L (I 110 (I 105 9))).bind (fun ⟨x0_177, I0_177, L0_177⟩ => (if x0_177 = 0 then (kf_214 n dp e 4 I0_177 L0_177) else (if -2147483648 ≤ (I0_177 105 9) - (I0_177 105 8) ∧ (I0_177 105 9) - (I0_177 105 8) ≤ 2147483647 then (if 10 ≤ ((I0_177 105 9) - (I0_177 105 8)) then (stI (w2 L0_177 105 11 (-1)) (fun L_227 => (if -2147483648 ≤ (I0_177 105 9) + 1 ∧ (I0_177 105 9) + 1 ≤ 2147483647 then (stI (w2 I0_177 105 9 ((I0_177 105 9) + 1)) (fun I_237 => (kf_214 n dp e 3 I_237 L_227))) else none))) else (if 0 ≤ (I0_177 105 9) ∧ (I0_177 105 9) < 400 then (if (-9223372036854775808 ≤ (L0_177 105 11) * 32 ∧ (L0_177 105 11) * 32 ≤ 9223372036854775807) ∧ (-9223372036854775808 ≤ ((L0_177 105 11) * 32) + (I0_177 110 (I0_177 105 9)) ∧ ((L0_177 105 11) * 32) + (I0_177 110 (I0_177 105 9)) ≤ 9223372036854775807) ∧ (-9223372036854775808 ≤ (((L0_177 105 11) * 32) + (I0_177 110 (I0_177 105 9))) - 96 ∧ (((L0_177 105 11) * 32) + (I0_177 110 (I0_177 105 9))) - 96 ≤ 9223372036854775807) then (stI (w2 L0_177 105 11 ((((L0_177 105 11) * 32) + (I0_177 110 (I0_177 105 9))) - 96)) (fun L_227 => (if -2147483648 ≤ (I0_177 105 9) + 1 ∧ (I0_177 105 9) + 1 ≤ 2147483647 then (stI (w2 I0_177 105 9 ((I0_177 105 9) + 1)) (fun I_237 => (kf_214 n dp e 3 I_237 L_227))) else none))) else none) else none)) else none)))) else none) else none)) else (kf_214 n dp e 4 I L))) P_) : Ev (fun n => kf_214 n dp e 3 I L) P_ := Ev_step (fun n => ke_214_3 n dp e I L) h
set_option maxRecDepth 100000 in
theorem ev_214_4 {dp : Nat} {e : EN} {I : JI} {L : JI} {P_ : (JI × JI) → Prop} (h : Ev (fun n => (if (I 105 10) = 2 then (if (I 105 7) ≤ (I 105 9) then (some (I, L)) else (if 0 ≤ (I 105 9) ∧ (I 105 9) < 400 then (if 1 ≤ dp then ((kf_216 n (dp - 1) e 0 I L (I 110 (I 105 9))).bind (fun ⟨x0_271, I0_271, L0_271⟩ => (if x0_271 = 0 then (some (I0_271, L0_271)) else (if (L0_271 105 11) ≤ 1000000 then (if 0 ≤ (I0_271 105 9) ∧ (I0_271 105 9) < 400 then (if (-9223372036854775808 ≤ (L0_271 105 11) * 10 ∧ (L0_271 105 11) * 10 ≤ 9223372036854775807) ∧ (-9223372036854775808 ≤ ((L0_271 105 11) * 10) + (I0_271 110 (I0_271 105 9)) ∧ ((L0_271 105 11) * 10) + (I0_271 110 (I0_271 105 9)) ≤ 9223372036854775807) ∧ (-9223372036854775808 ≤ (((L0_271 105 11) * 10) + (I0_271 110 (I0_271 105 9))) - 48 ∧ (((L0_271 105 11) * 10) + (I0_271 110 (I0_271 105 9))) - 48 ≤ 9223372036854775807) then (stI (w2 L0_271 105 11 ((((L0_271 105 11) * 10) + (I0_271 110 (I0_271 105 9))) - 48)) (fun L_319 => (if -2147483648 ≤ (I0_271 105 9) + 1 ∧ (I0_271 105 9) + 1 ≤ 2147483647 then (stI (w2 I0_271 105 9 ((I0_271 105 9) + 1)) (fun I_329 => (kf_214 n dp e 4 I_329 L_319))) else none))) else none) else none) else (stI (w2 L0_271 105 11 (L0_271 105 11)) (fun L_319 => (if -2147483648 ≤ (I0_271 105 9) + 1 ∧ (I0_271 105 9) + 1 ≤ 2147483647 then (stI (w2 I0_271 105 9 ((I0_271 105 9) + 1)) (fun I_329 => (kf_214 n dp e 4 I_329 L_319))) else none))))))) else none) else none)) else (some (I, L)))) P_) : Ev (fun n => kf_214 n dp e 4 I L) P_ := Ev_step (fun n => ke_214_4 n dp e I L) h
set_option maxRecDepth 100000 in
theorem ev_214_0 {dp : Nat} {e : EN} {I : JI} {L : JI} {P_ : (JI × JI) → Prop} (h : Ev (fun n => (stI (w2 I 105 8 (I 105 9)) (fun I_5 => (kf_214 n dp e 1 I_5 L)))) P_) : Ev (fun n => kf_214 n dp e 0 I L) P_ := Ev_step (fun n => ke_214_0 n dp e I L) h
set_option maxRecDepth 100000 in
theorem ev_214_2 {dp : Nat} {e : EN} {I : JI} {L : JI} {P_ : (JI × JI) → Prop} (h : Ev (fun n => (stI (w2 I 105 9 (I 105 8)) (fun I_51 => (stI (w2 L 105 11 0) (fun L_56 => (if (I_51 105 8) = (I_51 105 7) then (stI (w2 I_51 105 10 0) (fun I_114 => (if (I_114 105 10) = 3 then (if 0 ≤ (I_114 105 8) ∧ (I_114 105 8) < 400 then (stI (w2 L_56 105 11 (I_114 110 (I_114 105 8))) (fun L_136 => (if -2147483648 ≤ (I_114 105 9) + 1 ∧ (I_114 105 9) + 1 ≤ 2147483647 then (stI (w2 I_114 105 9 ((I_114 105 9) + 1)) (fun I_146 => (kf_214 n dp e 3 I_146 L_136))) else none))) else none) else (kf_214 n dp e 3 I_114 L_56)))) else (if 0 ≤ (I_51 105 8) ∧ (I_51 105 8) < 400 then (if 1 ≤ dp then ((kf_215 n (dp - 1) e 0 I_51 L_56 (I_51 110 (I_51 105 8))).bind (fun ⟨x0_84, I0_84, L0_84⟩ => (if x0_84 = 0 then (if 0 ≤ (I0_84 105 8) ∧ (I0_84 105 8) < 400 then (if 1 ≤ dp then ((kf_216 n (dp - 1) e 0 I0_84 L0_84 (I0_84 110 (I0_84 105 8))).bind (fun ⟨x1_103, I1_103, L1_103⟩ => (if x1_103 = 0 then (stI (w2 I1_103 105 10 3) (fun I_114 => (if (I_114 105 10) = 3 then (if 0 ≤ (I_114 105 8) ∧ (I_114 105 8) < 400 then (stI (w2 L1_103 105 11 (I_114 110 (I_114 105 8))) (fun L_136 => (if -2147483648 ≤ (I_114 105 9) + 1 ∧ (I_114 105 9) + 1 ≤ 2147483647 then (stI (w2 I_114 105 9 ((I_114 105 9) + 1)) (fun I_146 => (kf_214 n dp e 3 I_146 L_136))) else none))) else none) else (kf_214 n dp e 3 I_114 L1_103)))) else (stI (w2 I1_103 105 10 2) (fun I_114 => (if (I_114 105 10) = 3 then (if 0 ≤ (I_114 105 8) ∧ (I_114 105 8) < 400 then (stI (w2 L1_103 105 11 (I_114 110 (I_114 105 8))) (fun L_136 => (if -2147483648 ≤ (I_114 105 9) + 1 ∧ (I_114 105 9) + 1 ≤ 2147483647 then (stI (w2 I_114 105 9 ((I_114 105 9) + 1)) (fun I_146 => (kf_214 n dp e 3 I_146 L_136))) else none))) else none) else (kf_214 n dp e 3 I_114 L1_103))))))) else none) else none) else (stI (w2 I0_84 105 10 1) (fun I_114 => (if (I_114 105 10) = 3 then (if 0 ≤ (I_114 105 8) ∧ (I_114 105 8) < 400 then (stI (w2 L0_84 105 11 (I_114 110 (I_114 105 8))) (fun L_136 => (if -2147483648 ≤ (I_114 105 9) + 1 ∧ (I_114 105 9) + 1 ≤ 2147483647 then (stI (w2 I_114 105 9 ((I_114 105 9) + 1)) (fun I_146 => (kf_214 n dp e 3 I_146 L_136))) else none))) else none) else (kf_214 n dp e 3 I_114 L0_84))))))) else none) else none))))))) P_) : Ev (fun n => kf_214 n dp e 2 I L) P_ := Ev_step (fun n => ke_214_2 n dp e I L) h
end
/-! PARSER 5: tokens of the reference -/
section LX
variable {dp : Nat} {e : EN} {J M : JI} {β : Type} {T : β → Prop}
theorem K214_1 {L : JI} {Q : JI × JI → Prop} : ∀ (k : Nat) (K : JI), K 105 7 ≤ 400 → K 105 7 - K 105 8 ≤ k → 0 ≤ K 105 8 → K 105 8 ≤ K 105 7 → (∀ f, Run (K 110) (K 105 7) 32 32 (K 105 8) f → Ev (fun n => kf_214 n dp e 2 (w2 K 105 8 f) L) Q) → Ev (fun n => kf_214 n dp e 1 K L) Q := by
  intro k
  induction k with
  | zero =>
    intro K hN h1 h2 h3 g
    have g := g (K 105 8) (Run_0 h3 (by omega))
    rw [w2_idv rfl] at g
    refine ev_214_1 ?_
    exact Ev_t (by omega) g
  | succ k ih =>
    intro K hN h1 h2 h3 g
    refine ev_214_1 ?_
    refine Ev_c (fun c => ?_) (fun c => Ev_t (by omega) ?_)
    · have g := g (K 105 8) (Run_0 h3 (by omega))
      rw [w2_idv rfl] at g
      exact g
    · refine Ev_c (fun d => Ev_t (by omega) (Ev_st ?_)) (fun d => ?_)
      · refine ih (w2 K 105 8 (K 105 8 + 1)) hN (by show K 105 7 - (K 105 8 + 1) ≤ k; omega) (by show 0 ≤ K 105 8 + 1; omega) (by show K 105 8 + 1 ≤ K 105 7; omega) (fun f hf => ?_)
        rw [w2_w2]
        exact g f (Run_s (by omega) hf)
      · have g := g (K 105 8) (Run_0 h3 (by omega))
        rw [w2_idv rfl] at g
        exact g
theorem K214_3 {f : Int} (hd : 1 ≤ dp) (hf : 0 ≤ f) : ∀ (k : Nat) (I L : JI), I 105 7 ≤ 400 → I 105 7 - I 105 9 ≤ k → f ≤ I 105 9 → I 105 9 ≤ I 105 7 → I 105 10 = 1 → I 105 8 = f → (∀ i, f ≤ i → i < I 105 9 → 97 ≤ I 110 i ∧ I 110 i ≤ 122) → L 105 11 = hM (I 110) f (I 105 9 - f).toNat → Ev (fun n => kf_214 n dp e 3 I L) (fun r => ∃ t, Run (I 110) (I 105 7) 97 122 (I 105 9) t ∧ r = (w2 I 105 9 t, w2 L 105 11 (hM (I 110) f (t - f).toNat))) := by
  intro k
  induction k with
  | zero =>
    intro I L hN h1 h2 h3 hk he hr hv
    refine ev_214_3 ?_
    refine Ev_t hk (Ev_t (by omega) ?_)
    refine ev_214_4 ?_
    refine Ev_f (by omega) (Ev_ret ⟨I 105 9, Run_0 h3 (by omega), ?_⟩)
    rw [w2_idv rfl, w2_idv hv]
  | succ k ih =>
    intro I L hN h1 h2 h3 hk he hr hv
    have bb := hM_b (I 110) f (I 105 9 - f).toNat (fun i hi => hr (f + i) (by omega) (by omega))
    have fin : ∀ x : Int, x = I 105 9 → (I 105 7 ≤ I 105 9 ∨ ¬ (97 ≤ I 110 (I 105 9) ∧ I 110 (I 105 9) ≤ 122)) → Ev (fun n => kf_214 n dp e 4 I L) (fun r => ∃ t, Run (I 110) (I 105 7) 97 122 (I 105 9) t ∧ r = (w2 I 105 9 t, w2 L 105 11 (hM (I 110) f (t - f).toNat))) := by
      intro x hx hh
      refine ev_214_4 ?_
      refine Ev_f (by omega) (Ev_ret ⟨I 105 9, Run_0 h3 hh, ?_⟩)
      rw [w2_idv rfl, w2_idv hv]
    refine ev_214_3 ?_
    refine Ev_t hk (Ev_c (fun c => fin _ rfl (Or.inl c)) (fun c => Ev_t (by omega) (Ev_t hd ?_)))
    refine Ev215 (fun d => ?_) (fun d => Ev_t rfl (fin _ rfl (Or.inr d)))
    have step : ∀ v, v = hM (I 110) f (I 105 9 + 1 - f).toNat → Ev (fun n => kf_214 n dp e 3 (w2 I 105 9 (I 105 9 + 1)) (w2 L 105 11 v)) (fun r => ∃ t, Run (I 110) (I 105 7) 97 122 (I 105 9) t ∧ r = (w2 I 105 9 t, w2 L 105 11 (hM (I 110) f (t - f).toNat))) := by
      intro v hv2
      refine Ev_mono (ih (w2 I 105 9 (I 105 9 + 1)) (w2 L 105 11 v) hN (by show I 105 7 - (I 105 9 + 1) ≤ k; omega) (by show f ≤ I 105 9 + 1; omega) (by show I 105 9 + 1 ≤ I 105 7; omega) hk he ?_ hv2) ?_
      · intro i a b
        have b : i < I 105 9 + 1 := b
        by_cases q : i = I 105 9
        · subst q; exact d
        · exact hr i a (by omega)
      · rintro r ⟨t, q1, q2⟩
        rw [w2_w2, w2_w2] at q2
        exact ⟨t, Run_s d q1, q2⟩
    have e1 : (I 105 9 + 1 - f).toNat = (I 105 9 - f).toNat + 1 := by omega
    have e2 : f + ((I 105 9 - f).toNat : Int) = I 105 9 := by omega
    refine Ev_f (by decide) (Ev_t (by omega) ?_)
    refine Ev_c (fun q => Ev_st (Ev_t (by omega) (Ev_st ?_))) (fun q => ?_)
    · refine step _ ?_
      rw [e1, hM, if_pos (by omega)]
    · have b3 := bb.2.2 (by omega)
      refine Ev_t (by omega) (Ev_t (by omega) (Ev_st (Ev_t (by omega) (Ev_st ?_))))
      refine step _ ?_
      rw [e1, hM, if_neg (by omega), e2, ← hv]
theorem K214_4 {f : Int} (hd : 1 ≤ dp) (hf : 0 ≤ f) : ∀ (k : Nat) (I L : JI), I 105 7 ≤ 400 → I 105 7 - I 105 9 ≤ k → f ≤ I 105 9 → I 105 9 ≤ I 105 7 → I 105 10 = 2 → (∀ i, f ≤ i → i < I 105 9 → 48 ≤ I 110 i ∧ I 110 i ≤ 57) → L 105 11 = nM (I 110) f (I 105 9 - f).toNat → Ev (fun n => kf_214 n dp e 4 I L) (fun r => ∃ t, Run (I 110) (I 105 7) 48 57 (I 105 9) t ∧ r = (w2 I 105 9 t, w2 L 105 11 (nM (I 110) f (t - f).toNat))) := by
  intro k
  induction k with
  | zero =>
    intro I L hN h1 h2 h3 hk hr hv
    refine ev_214_4 ?_
    refine Ev_t hk (Ev_t (by omega) (Ev_ret ⟨I 105 9, Run_0 h3 (by omega), ?_⟩))
    rw [w2_idv rfl, w2_idv hv]
  | succ k ih =>
    intro I L hN h1 h2 h3 hk hr hv
    have bb := nM_b (I 110) f (I 105 9 - f).toNat (fun i hi => hr (f + i) (by omega) (by omega))
    refine ev_214_4 ?_
    refine Ev_t hk (Ev_c (fun c => Ev_ret ⟨I 105 9, Run_0 h3 (Or.inl c), by rw [w2_idv rfl, w2_idv hv]⟩) (fun c => Ev_t (by omega) (Ev_t hd ?_)))
    refine Ev216 (fun d => ?_) (fun d => Ev_t rfl (Ev_ret ⟨I 105 9, Run_0 h3 (Or.inr d), by rw [w2_idv rfl, w2_idv hv]⟩))
    have step : ∀ v, v = nM (I 110) f (I 105 9 + 1 - f).toNat → Ev (fun n => kf_214 n dp e 4 (w2 I 105 9 (I 105 9 + 1)) (w2 L 105 11 v)) (fun r => ∃ t, Run (I 110) (I 105 7) 48 57 (I 105 9) t ∧ r = (w2 I 105 9 t, w2 L 105 11 (nM (I 110) f (t - f).toNat))) := by
      intro v hv2
      refine Ev_mono (ih (w2 I 105 9 (I 105 9 + 1)) (w2 L 105 11 v) hN (by show I 105 7 - (I 105 9 + 1) ≤ k; omega) (by show f ≤ I 105 9 + 1; omega) (by show I 105 9 + 1 ≤ I 105 7; omega) hk ?_ hv2) ?_
      · intro i a b
        have b : i < I 105 9 + 1 := b
        by_cases q : i = I 105 9
        · subst q; exact d
        · exact hr i a (by omega)
      · rintro r ⟨t, q1, q2⟩
        rw [w2_w2, w2_w2] at q2
        exact ⟨t, Run_s d q1, q2⟩
    have e1 : (I 105 9 + 1 - f).toNat = (I 105 9 - f).toNat + 1 := by omega
    have e2 : f + ((I 105 9 - f).toNat : Int) = I 105 9 := by omega
    refine Ev_f (by decide) ?_
    refine Ev_c (fun q => ?_) (fun q => Ev_st (Ev_t (by omega) (Ev_st ?_)))
    · refine Ev_t (by omega) (Ev_t (by omega) (Ev_st (Ev_t (by omega) (Ev_st ?_))))
      refine step _ ?_
      rw [e1, nM, if_pos (by omega), e2, ← hv]
    · refine step _ ?_
      rw [e1, nM, if_neg (by omega), ← hv]
theorem K214 {K L : JI} (hd : 1 ≤ dp) (h : 0 ≤ K 105 9 ∧ K 105 9 ≤ K 105 7 ∧ K 105 7 ≤ 400) : Ev (fun n => kf_214 n dp e 0 K L) (fun r => NX K L r.1 r.2) := by
  refine ev_214_0 ?_
  refine Ev_st ?_
  refine K214_1 400 (w2 K 105 8 (K 105 9)) h.2.2 (by show K 105 7 - K 105 9 ≤ (400 : Nat); omega) (by show 0 ≤ K 105 9; omega) (by show K 105 9 ≤ K 105 7; omega) (fun f hf => ?_)
  have hf' := hf
  obtain ⟨f1, f2, f3, f4⟩ := hf
  have hf' : Run (K 110) (K 105 7) 32 32 (K 105 9) f := hf'
  have f1 : K 105 9 ≤ f := f1
  have f2 : f ≤ K 105 7 := f2
  rw [w2_w2]
  refine ev_214_2 ?_
  refine Ev_st (Ev_st ?_)
  refine Ev_c (fun c => ?_) (fun c => ?_)
  · have c : f = K 105 7 := c
    refine Ev_st (Ev_f (by show ¬ ((0 : Int) = 3); decide) ?_)
    refine ev_214_3 ?_
    refine Ev_f (by show ¬ ((0 : Int) = 1); decide) ?_
    refine ev_214_4 ?_
    refine Ev_f (by show ¬ ((0 : Int) = 2); decide) (Ev_ret ?_)
    refine ⟨f, f, 0, ⟨hf', Or.inl ⟨c, rfl, rfl⟩⟩, rfl, rfl, rfl, fun z => absurd z (by decide), fun z => absurd z (by decide), fun z => absurd z (by decide), fun a i g => ?_, fun a i g => ?_⟩
    · simp (disch := omega) only [w2_n]
    · simp (disch := omega) only [w2_n]
  · have c : ¬ f = K 105 7 := c
    refine Ev_t (by show 0 ≤ f ∧ f < 400; omega) (Ev_t hd ?_)
    refine Ev215 (fun d => ?_) (fun d => ?_)
    · have d : 97 ≤ K 110 f ∧ K 110 f ≤ 122 := d
      refine Ev_f (by decide) (Ev_st (Ev_f (by show ¬ ((1 : Int) = 3); decide) ?_))
      refine Ev_mono (K214_3 (f := f) hd (by omega) 400 _ _ h.2.2 (by show K 105 7 - f ≤ (400 : Nat); omega) (by show f ≤ f; omega) (by show f ≤ K 105 7; omega) rfl rfl (fun i a b => by have b : i < f := b; omega) ?_) (fun r ⟨t, q1, q2⟩ => ?_)
      · have : (f - f).toNat = 0 := by omega
        show (0 : Int) = hM (K 110) f (f - f).toNat
        rw [this]; rfl
      · subst q2
        refine ⟨f, t, 1, ⟨hf', Or.inr (Or.inl ⟨by omega, d, rfl, q1⟩)⟩, rfl, rfl, rfl, fun _ => rfl, fun z => absurd z (by decide), fun z => absurd z (by decide), fun a i g => ?_, fun a i g => ?_⟩
        · simp (disch := omega) only [w2_n]
        · simp (disch := omega) only [w2_n]
    · have d : ¬ (97 ≤ K 110 f ∧ K 110 f ≤ 122) := d
      refine Ev_t rfl (Ev_t (by show 0 ≤ f ∧ f < 400; omega) (Ev_t hd ?_))
      refine Ev216 (fun d2 => ?_) (fun d2 => ?_)
      · have d2 : 48 ≤ K 110 f ∧ K 110 f ≤ 57 := d2
        refine Ev_f (by decide) (Ev_st (Ev_f (by show ¬ ((2 : Int) = 3); decide) ?_))
        refine ev_214_3 ?_
        refine Ev_f (by show ¬ ((2 : Int) = 1); decide) ?_
        refine Ev_mono (K214_4 (f := f) hd (by omega) 400 _ _ h.2.2 (by show K 105 7 - f ≤ (400 : Nat); omega) (by show f ≤ f; omega) (by show f ≤ K 105 7; omega) rfl (fun i a b => by have b : i < f := b; omega) ?_) (fun r ⟨t, q1, q2⟩ => ?_)
        · have : (f - f).toNat = 0 := by omega
          show (0 : Int) = nM (K 110) f (f - f).toNat
          rw [this]; rfl
        · subst q2
          refine ⟨f, t, 2, ⟨hf', Or.inr (Or.inr (Or.inl ⟨by omega, d2, rfl, q1⟩))⟩, rfl, rfl, rfl, fun z => absurd z (by decide), fun _ => rfl, fun z => absurd z (by decide), fun a i g => ?_, fun a i g => ?_⟩
          · simp (disch := omega) only [w2_n]
          · simp (disch := omega) only [w2_n]
      · have d2 : ¬ (48 ≤ K 110 f ∧ K 110 f ≤ 57) := d2
        refine Ev_t rfl (Ev_st (Ev_t (by show (3 : Int) = 3; rfl) (Ev_t (by show 0 ≤ f ∧ f < 400; omega) (Ev_st (Ev_t (by show -2147483648 ≤ f + 1 ∧ f + 1 ≤ 2147483647; omega) (Ev_st ?_))))))
        refine ev_214_3 ?_
        refine Ev_f (by show ¬ ((3 : Int) = 1); decide) ?_
        refine ev_214_4 ?_
        refine Ev_f (by show ¬ ((3 : Int) = 2); decide) (Ev_ret ?_)
        refine ⟨f, f + 1, 3, ⟨hf', Or.inr (Or.inr (Or.inr ⟨by omega, d, d2, rfl, rfl⟩))⟩, rfl, rfl, rfl, fun z => absurd z (by decide), fun z => absurd z (by decide), fun _ => rfl, fun a i g => ?_, fun a i g => ?_⟩
        · simp (disch := omega) only [w2_n]
        · simp (disch := omega) only [w2_n]
end LX
