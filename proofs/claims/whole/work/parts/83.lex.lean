section
set_option maxRecDepth 100000 in
theorem ev_37_1 {dp : Nat} {e : EN} {I : JI} {L : JI} {i1 : Int} {P_ : (JI × JI) → Prop} (h : Ev (fun n => (if (I 104 2) ≤ i1 then (kf_37 n dp e 2 I L i1) else (if 0 ≤ i1 ∧ i1 < 400 then (if (I 89 i1) = 32 then (if -2147483648 ≤ i1 + 1 ∧ i1 + 1 ≤ 2147483647 then (kf_37 n dp e 1 I L (i1 + 1)) else none) else (kf_37 n dp e 2 I L i1)) else none))) P_) : Ev (fun n => kf_37 n dp e 1 I L i1) P_ := Ev_step (fun n => ke_37_1 n dp e I L i1) h
set_option maxRecDepth 100000 in
theorem ev_37_3 {dp : Nat} {e : EN} {I : JI} {L : JI} {i1 : Int} {P_ : (JI × JI) → Prop} (h : Ev (fun n => (if (I 104 2) ≤ i1 then (stI (w2 I 104 5 i1) (fun I_178 => (some (I_178, L)))) else (if 0 ≤ i1 ∧ i1 < 400 then (if 1 ≤ dp then ((kf_38 n (dp - 1) e 0 I L (I 89 i1)).bind (fun ⟨x0_82, I0_82, L0_82⟩ => (if x0_82 = 0 then (stI (w2 I0_82 104 5 i1) (fun I_178 => (some (I_178, L0_82)))) else (if -2147483648 ≤ i1 + 1 ∧ i1 + 1 ≤ 2147483647 then (kf_37 n dp e 3 I0_82 L0_82 (i1 + 1)) else none)))) else none) else none))) P_) : Ev (fun n => kf_37 n dp e 3 I L i1) P_ := Ev_step (fun n => ke_37_3 n dp e I L i1) h
set_option maxRecDepth 100000 in
theorem ev_37_4 {dp : Nat} {e : EN} {I : JI} {L : JI} {i1 : Int} {P_ : (JI × JI) → Prop} (h : Ev (fun n => (if (I 104 2) ≤ i1 then (stI (w2 I 104 5 i1) (fun I_178 => (some (I_178, L)))) else (if 0 ≤ i1 ∧ i1 < 400 then (if 1 ≤ dp then ((kf_39 n (dp - 1) e 0 I L (I 89 i1)).bind (fun ⟨x0_130, I0_130, L0_130⟩ => (if x0_130 = 0 then (stI (w2 I0_130 104 5 i1) (fun I_178 => (some (I_178, L0_130)))) else (if 0 ≤ i1 ∧ i1 < 400 then (if 1 ≤ dp then (if (-2147483648 ≤ (I0_130 104 6) * 10 ∧ (I0_130 104 6) * 10 ≤ 2147483647) ∧ (-2147483648 ≤ ((I0_130 104 6) * 10) + (I0_130 89 i1) ∧ ((I0_130 104 6) * 10) + (I0_130 89 i1) ≤ 2147483647) ∧ (-2147483648 ≤ (((I0_130 104 6) * 10) + (I0_130 89 i1)) - 48 ∧ (((I0_130 104 6) * 10) + (I0_130 89 i1)) - 48 ≤ 2147483647) then (stI (w2 I0_130 104 6 (min ((((I0_130 104 6) * 10) + (I0_130 89 i1)) - 48) 100000)) (fun I_159 => (if -2147483648 ≤ i1 + 1 ∧ i1 + 1 ≤ 2147483647 then (kf_37 n dp e 4 I_159 L0_130 (i1 + 1)) else none))) else none) else none) else none)))) else none) else none))) P_) : Ev (fun n => kf_37 n dp e 4 I L i1) P_ := Ev_step (fun n => ke_37_4 n dp e I L i1) h
set_option maxRecDepth 100000 in
theorem ev_37_0 {dp : Nat} {e : EN} {I : JI} {L : JI} {i1 : Int} {P_ : (JI × JI) → Prop} (h : Ev (fun n => (kf_37 n dp e 1 I L (I 104 5))) P_) : Ev (fun n => kf_37 n dp e 0 I L i1) P_ := Ev_step (fun n => ke_37_0 n dp e I L i1) h
set_option maxRecDepth 100000 in
theorem ev_37_2 {dp : Nat} {e : EN} {I : JI} {L : JI} {i1 : Int} {P_ : (JI × JI) → Prop} (h : Ev (fun n => (stI (w2 I 104 4 i1) (fun I_32 => (if i1 < (I_32 104 2) then (if 0 ≤ i1 ∧ i1 < 400 then (if 1 ≤ dp then ((kf_38 n (dp - 1) e 0 I_32 L (I_32 89 i1)).bind (fun ⟨x0_57, I0_57, L0_57⟩ => (if x0_57 = 0 then (if 0 ≤ i1 ∧ i1 < 400 then (if 1 ≤ dp then ((kf_39 n (dp - 1) e 0 I0_57 L0_57 (I0_57 89 i1)).bind (fun ⟨x1_100, I1_100, L1_100⟩ => (if x1_100 = 0 then (stI (w2 I1_100 104 3 3) (fun I_170 => (if -2147483648 ≤ i1 + 1 ∧ i1 + 1 ≤ 2147483647 then (stI (w2 I_170 104 5 (i1 + 1)) (fun I_178 => (some (I_178, L1_100)))) else none))) else (stI (w2 I1_100 104 3 2) (fun I_108 => (stI (w2 I_108 104 6 0) (fun I_113 => (kf_37 n dp e 4 I_113 L1_100 i1)))))))) else none) else none) else (stI (w2 I0_57 104 3 1) (fun I_65 => (kf_37 n dp e 3 I_65 L0_57 i1)))))) else none) else none) else (stI (w2 I_32 104 3 0) (fun I_45 => (stI (w2 I_45 104 5 i1) (fun I_178 => (some (I_178, L)))))))))) P_) : Ev (fun n => kf_37 n dp e 2 I L i1) P_ := Ev_step (fun n => ke_37_2 n dp e I L i1) h
end
/-! PARSER 4: tokens of class and reference -/
section LX
variable {dp : Nat} {e : EN} {J M : JI} {β : Type} {T : β → Prop}
theorem Ev38 {x : Int} {k : Nat → Int × JI × JI → Option β} (ht : 97 ≤ x ∧ x ≤ 122 → Ev (fun n => k n (1, J, M)) T) (hf : ¬ (97 ≤ x ∧ x ≤ 122) → Ev (fun n => k n (0, J, M)) T) : Ev (fun n => (kf_38 n dp e 0 J M x).bind (k n)) T := by
  by_cases h : 97 ≤ x ∧ x ≤ 122
  · refine Ev_call (v := (1, J, M)) ?_ (ht h)
    refine Ev_step (fun n => ke_38_0 n _ _ _ _ _) ?_
    exact Ev_f (by omega) (Ev_f (by omega) (Ev_ret rfl))
  · refine Ev_call (v := (0, J, M)) ?_ (hf h)
    refine Ev_step (fun n => ke_38_0 n _ _ _ _ _) ?_
    refine Ev_c (fun c => Ev_ret rfl) (fun c => ?_)
    exact Ev_t (by omega) (Ev_ret rfl)
theorem Ev38t {x : Int} {k : Nat → Int × JI × JI → Option β} (h : 97 ≤ x ∧ x ≤ 122) (g : Ev (fun n => k n (1, J, M)) T) : Ev (fun n => (kf_38 n dp e 0 J M x).bind (k n)) T := Ev38 (fun _ => g) (fun c => absurd h c)
theorem Ev38f {x : Int} {k : Nat → Int × JI × JI → Option β} (h : ¬ (97 ≤ x ∧ x ≤ 122)) (g : Ev (fun n => k n (0, J, M)) T) : Ev (fun n => (kf_38 n dp e 0 J M x).bind (k n)) T := Ev38 (fun c => absurd c h) (fun _ => g)
theorem Ev215 {x : Int} {k : Nat → Int × JI × JI → Option β} (ht : 97 ≤ x ∧ x ≤ 122 → Ev (fun n => k n (1, J, M)) T) (hf : ¬ (97 ≤ x ∧ x ≤ 122) → Ev (fun n => k n (0, J, M)) T) : Ev (fun n => (kf_215 n dp e 0 J M x).bind (k n)) T := by
  by_cases h : 97 ≤ x ∧ x ≤ 122
  · refine Ev_call (v := (1, J, M)) ?_ (ht h)
    refine Ev_step (fun n => ke_215_0 n _ _ _ _ _) ?_
    exact Ev_f (by omega) (Ev_f (by omega) (Ev_ret rfl))
  · refine Ev_call (v := (0, J, M)) ?_ (hf h)
    refine Ev_step (fun n => ke_215_0 n _ _ _ _ _) ?_
    refine Ev_c (fun c => Ev_ret rfl) (fun c => ?_)
    exact Ev_t (by omega) (Ev_ret rfl)
theorem Ev215t {x : Int} {k : Nat → Int × JI × JI → Option β} (h : 97 ≤ x ∧ x ≤ 122) (g : Ev (fun n => k n (1, J, M)) T) : Ev (fun n => (kf_215 n dp e 0 J M x).bind (k n)) T := Ev215 (fun _ => g) (fun c => absurd h c)
theorem Ev215f {x : Int} {k : Nat → Int × JI × JI → Option β} (h : ¬ (97 ≤ x ∧ x ≤ 122)) (g : Ev (fun n => k n (0, J, M)) T) : Ev (fun n => (kf_215 n dp e 0 J M x).bind (k n)) T := Ev215 (fun c => absurd c h) (fun _ => g)
theorem Ev39 {x : Int} {k : Nat → Int × JI × JI → Option β} (ht : 48 ≤ x ∧ x ≤ 57 → Ev (fun n => k n (1, J, M)) T) (hf : ¬ (48 ≤ x ∧ x ≤ 57) → Ev (fun n => k n (0, J, M)) T) : Ev (fun n => (kf_39 n dp e 0 J M x).bind (k n)) T := by
  by_cases h : 48 ≤ x ∧ x ≤ 57
  · refine Ev_call (v := (1, J, M)) ?_ (ht h)
    refine Ev_step (fun n => ke_39_0 n _ _ _ _ _) ?_
    exact Ev_f (by omega) (Ev_f (by omega) (Ev_ret rfl))
  · refine Ev_call (v := (0, J, M)) ?_ (hf h)
    refine Ev_step (fun n => ke_39_0 n _ _ _ _ _) ?_
    refine Ev_c (fun c => Ev_ret rfl) (fun c => ?_)
    exact Ev_t (by omega) (Ev_ret rfl)
theorem Ev39t {x : Int} {k : Nat → Int × JI × JI → Option β} (h : 48 ≤ x ∧ x ≤ 57) (g : Ev (fun n => k n (1, J, M)) T) : Ev (fun n => (kf_39 n dp e 0 J M x).bind (k n)) T := Ev39 (fun _ => g) (fun c => absurd h c)
theorem Ev39f {x : Int} {k : Nat → Int × JI × JI → Option β} (h : ¬ (48 ≤ x ∧ x ≤ 57)) (g : Ev (fun n => k n (0, J, M)) T) : Ev (fun n => (kf_39 n dp e 0 J M x).bind (k n)) T := Ev39 (fun c => absurd c h) (fun _ => g)
theorem Ev216 {x : Int} {k : Nat → Int × JI × JI → Option β} (ht : 48 ≤ x ∧ x ≤ 57 → Ev (fun n => k n (1, J, M)) T) (hf : ¬ (48 ≤ x ∧ x ≤ 57) → Ev (fun n => k n (0, J, M)) T) : Ev (fun n => (kf_216 n dp e 0 J M x).bind (k n)) T := by
  by_cases h : 48 ≤ x ∧ x ≤ 57
  · refine Ev_call (v := (1, J, M)) ?_ (ht h)
    refine Ev_step (fun n => ke_216_0 n _ _ _ _ _) ?_
    exact Ev_f (by omega) (Ev_f (by omega) (Ev_ret rfl))
  · refine Ev_call (v := (0, J, M)) ?_ (hf h)
    refine Ev_step (fun n => ke_216_0 n _ _ _ _ _) ?_
    refine Ev_c (fun c => Ev_ret rfl) (fun c => ?_)
    exact Ev_t (by omega) (Ev_ret rfl)
theorem Ev216t {x : Int} {k : Nat → Int × JI × JI → Option β} (h : 48 ≤ x ∧ x ≤ 57) (g : Ev (fun n => k n (1, J, M)) T) : Ev (fun n => (kf_216 n dp e 0 J M x).bind (k n)) T := Ev216 (fun _ => g) (fun c => absurd h c)
theorem Ev216f {x : Int} {k : Nat → Int × JI × JI → Option β} (h : ¬ (48 ≤ x ∧ x ≤ 57)) (g : Ev (fun n => k n (0, J, M)) T) : Ev (fun n => (kf_216 n dp e 0 J M x).bind (k n)) T := Ev216 (fun c => absurd c h) (fun _ => g)
theorem w2_n {f : JI} {a : Nat} {k v : Int} {b : Nat} {j : Int} (h : ¬ (b = a ∧ j = k)) : w2 f a k v b j = f b j := by rw [w2_ap, if_neg h]
def Tok (τ : Int → Int) (N p f t kd : Int) : Prop := Run τ N 32 32 p f ∧ ((f = N ∧ kd = 0 ∧ t = f) ∨ (f < N ∧ (97 ≤ τ f ∧ τ f ≤ 122) ∧ kd = 1 ∧ Run τ N 97 122 f t) ∨ (f < N ∧ (48 ≤ τ f ∧ τ f ≤ 57) ∧ kd = 2 ∧ Run τ N 48 57 f t) ∨ (f < N ∧ ¬ (97 ≤ τ f ∧ τ f ≤ 122) ∧ ¬ (48 ≤ τ f ∧ τ f ≤ 57) ∧ kd = 3 ∧ t = f + 1))
def GN (J J1 : JI) : Prop := ∃ f t kd, Tok (J 89) (J 104 2) (J 104 5) f t kd ∧ J1 104 4 = f ∧ J1 104 5 = t ∧ J1 104 3 = kd ∧ (kd = 2 → J1 104 6 = nC (J 89) f (t - f).toNat) ∧ ∀ a i, ¬ (a = 104 ∧ 3 ≤ i ∧ i ≤ 6) → J1 a i = J a i
def NX (K L K1 L1 : JI) : Prop := ∃ f t kd, Tok (K 110) (K 105 7) (K 105 9) f t kd ∧ K1 105 8 = f ∧ K1 105 9 = t ∧ K1 105 10 = kd ∧ (kd = 1 → L1 105 11 = hM (K 110) f (t - f).toNat) ∧ (kd = 2 → L1 105 11 = nM (K 110) f (t - f).toNat) ∧ (kd = 3 → L1 105 11 = K 110 f) ∧ (∀ a i, ¬ (a = 105 ∧ 8 ≤ i ∧ i ≤ 10) → K1 a i = K a i) ∧ ∀ a i, ¬ (a = 105 ∧ i = 11) → L1 a i = L a i
theorem K37_1 {Q : JI × JI → Prop} (hN : J 104 2 ≤ 400) : ∀ (k : Nat) (p : Int), J 104 2 - p ≤ k → 0 ≤ p → p ≤ J 104 2 → (∀ f, Run (J 89) (J 104 2) 32 32 p f → Ev (fun n => kf_37 n dp e 2 J M f) Q) → Ev (fun n => kf_37 n dp e 1 J M p) Q := by
  intro k
  induction k with
  | zero =>
    intro p h1 h2 h3 g
    refine ev_37_1 ?_
    refine Ev_t (by omega) ?_
    exact g p (Run_0 h3 (by omega))
  | succ k ih =>
    intro p h1 h2 h3 g
    refine ev_37_1 ?_
    refine Ev_c (fun c => g p (Run_0 h3 (by omega))) (fun c => Ev_t (by omega) ?_)
    refine Ev_c (fun d => Ev_t (by omega) ?_) (fun d => g p (Run_0 h3 (by omega)))
    exact ih (p + 1) (by omega) (by omega) (by omega) (fun f hf => g f (Run_s (by omega) hf))
theorem K37_3 {I : JI} (hd : 1 ≤ dp) (hN : I 104 2 ≤ 400) : ∀ (k : Nat) (p : Int), I 104 2 - p ≤ k → 0 ≤ p → p ≤ I 104 2 → Ev (fun n => kf_37 n dp e 3 I M p) (fun r => ∃ t, Run (I 89) (I 104 2) 97 122 p t ∧ r = (w2 I 104 5 t, M)) := by
  intro k
  induction k with
  | zero =>
    intro p h1 h2 h3
    refine ev_37_3 ?_
    exact Ev_t (by omega) (Ev_st (Ev_ret ⟨p, Run_0 h3 (by omega), rfl⟩))
  | succ k ih =>
    intro p h1 h2 h3
    refine ev_37_3 ?_
    refine Ev_c (fun c => Ev_st (Ev_ret ⟨p, Run_0 h3 (by omega), rfl⟩)) (fun c => Ev_t (by omega) (Ev_t hd ?_))
    refine Ev38 (fun d => ?_) (fun d => ?_)
    · refine Ev_f (by decide) (Ev_t (by omega) ?_)
      exact Ev_mono (ih (p + 1) (by omega) (by omega) (by omega)) (fun r ⟨t, h, q⟩ => ⟨t, Run_s d h, q⟩)
    · exact Ev_t rfl (Ev_st (Ev_ret ⟨p, Run_0 h3 (Or.inr d), rfl⟩))
theorem K37_4 {f : Int} (hd : 1 ≤ dp) (hf : 0 ≤ f) : ∀ (k : Nat) (I : JI) (p : Int), I 104 2 ≤ 400 → I 104 2 - p ≤ k → f ≤ p → p ≤ I 104 2 → (∀ i, f ≤ i → i < p → 48 ≤ I 89 i ∧ I 89 i ≤ 57) → I 104 6 = nC (I 89) f (p - f).toNat → Ev (fun n => kf_37 n dp e 4 I M p) (fun r => r.2 = M ∧ ∃ t, Run (I 89) (I 104 2) 48 57 p t ∧ r.1 104 5 = t ∧ r.1 104 6 = nC (I 89) f (t - f).toNat ∧ ∀ a i, ¬ (a = 104 ∧ 5 ≤ i ∧ i ≤ 6) → r.1 a i = I a i) := by
  intro k
  induction k with
  | zero =>
    intro I p hN h1 h2 h3 hr hv
    refine ev_37_4 ?_
    refine Ev_t (by omega) (Ev_st (Ev_ret ⟨rfl, p, Run_0 h3 (by omega), rfl, hv, fun a i h => ?_⟩))
    exact w2_n (by omega)
  | succ k ih =>
    intro I p hN h1 h2 h3 hr hv
    have bb := nC_b (I 89) f (p - f).toNat (fun i hi => hr (f + i) (by omega) (by omega))
    refine ev_37_4 ?_
    refine Ev_c (fun c => Ev_st (Ev_ret ⟨rfl, p, Run_0 h3 (by omega), rfl, hv, fun a i h => w2_n (by omega)⟩)) (fun c => Ev_t (by omega) (Ev_t hd ?_))
    refine Ev39 (fun d => ?_) (fun d => ?_)
    · refine Ev_f (by decide) (Ev_t (by omega) (Ev_t hd (Ev_t (by omega) (Ev_st (Ev_t (by omega) ?_)))))
      refine Ev_mono (ih (w2 I 104 6 (min (I 104 6 * 10 + I 89 p - 48) 100000)) (p + 1) hN (by show I 104 2 - (p + 1) ≤ k; omega) (by omega) (by show p + 1 ≤ I 104 2; omega) ?_ ?_) ?_
      · intro i a b
        by_cases q : i = p
        · subst q; exact d
        · exact hr i a (by omega)
      · have e : (p + 1 - f).toNat = (p - f).toNat + 1 := by omega
        rw [e]
        show min (I 104 6 * 10 + I 89 p - 48) 100000 = nC (I 89) f ((p - f).toNat + 1)
        unfold nC
        rw [hv]
        have e2 : f + ((p - f).toNat : Int) = p := by omega
        rw [e2]
      · rintro r ⟨q1, t, q2, q3, q4, q5⟩
        refine ⟨q1, t, Run_s d q2, q3, q4, fun a i h => ?_⟩
        rw [q5 a i h]
        exact w2_n (by omega)
    · exact Ev_t rfl (Ev_st (Ev_ret ⟨rfl, p, Run_0 h3 (Or.inr d), rfl, hv, fun a i h => w2_n (by omega)⟩))
theorem K37 {x : Int} (hd : 1 ≤ dp) (h : 0 ≤ J 104 5 ∧ J 104 5 ≤ J 104 2 ∧ J 104 2 ≤ 400) : Ev (fun n => kf_37 n dp e 0 J M x) (fun r => r.2 = M ∧ GN J r.1) := by
  refine ev_37_0 ?_
  refine K37_1 h.2.2 400 (J 104 5) (by omega) (by omega) (by omega) (fun f hf => ?_)
  have hf' := hf
  obtain ⟨f1, f2, f3, f4⟩ := hf
  refine ev_37_2 ?_
  refine Ev_st ?_
  refine Ev_c (fun c => ?_) (fun c => ?_)
  · have c : f < J 104 2 := c
    refine Ev_t (by omega) (Ev_t hd ?_)
    refine Ev38 (fun d => ?_) (fun d => ?_)
    · have d : 97 ≤ J 89 f ∧ J 89 f ≤ 122 := d
      refine Ev_f (by decide) (Ev_st ?_)
      refine Ev_mono (K37_3 (I := w2 (w2 J 104 4 f) 104 3 1) hd h.2.2 400 f (by show J 104 2 - f ≤ (400 : Nat); omega) (by omega) (by show f ≤ J 104 2; omega)) (fun r ⟨t, q1, q2⟩ => ?_)
      subst q2
      refine ⟨rfl, f, t, 1, ⟨hf', Or.inr (Or.inl ⟨c, d, rfl, q1⟩)⟩, rfl, rfl, rfl, fun z => absurd z (by decide), fun a i g => ?_⟩
      simp (disch := omega) only [w2_n]
    · have d : ¬ (97 ≤ J 89 f ∧ J 89 f ≤ 122) := d
      refine Ev_t rfl (Ev_t (by omega) (Ev_t hd ?_))
      refine Ev39 (fun d2 => ?_) (fun d2 => ?_)
      · have d2 : 48 ≤ J 89 f ∧ J 89 f ≤ 57 := d2
        refine Ev_f (by decide) (Ev_st (Ev_st ?_))
        refine Ev_mono (K37_4 (f := f) hd (by omega) 400 _ f h.2.2 (by show J 104 2 - f ≤ (400 : Nat); omega) (by omega) (by show f ≤ J 104 2; omega) (fun i a b => by omega) ?_) (fun r ⟨q1, t, q2, q3, q4, q5⟩ => ?_)
        · have : (f - f).toNat = 0 := by omega
          rw [this]; rfl
        · refine ⟨q1, f, t, 2, ⟨hf', Or.inr (Or.inr (Or.inl ⟨c, d2, rfl, q2⟩))⟩, ?_, q3, ?_, fun _ => q4, fun a i g => ?_⟩
          · rw [q5 _ _ (by omega)]; rfl
          · rw [q5 _ _ (by omega)]; rfl
          · rw [q5 _ _ (by omega)]; simp (disch := omega) only [w2_n]
      · have d2 : ¬ (48 ≤ J 89 f ∧ J 89 f ≤ 57) := d2
        refine Ev_t rfl (Ev_st (Ev_t (by omega) (Ev_st (Ev_ret ?_))))
        refine ⟨rfl, f, f + 1, 3, ⟨hf', Or.inr (Or.inr (Or.inr ⟨c, d, d2, rfl, rfl⟩))⟩, rfl, rfl, rfl, fun z => absurd z (by decide), fun a i g => ?_⟩
        simp (disch := omega) only [w2_n]
  · have c : ¬ f < J 104 2 := c
    refine Ev_st (Ev_st (Ev_ret ?_))
    refine ⟨rfl, f, f, 0, ⟨hf', Or.inl ⟨by omega, rfl, rfl⟩⟩, rfl, rfl, rfl, fun z => absurd z (by decide), fun a i g => ?_⟩
    simp (disch := omega) only [w2_n]
end LX
