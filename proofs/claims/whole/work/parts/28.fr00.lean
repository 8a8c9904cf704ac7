/-! frames: what a decompiled function leaves as it was -/
def Pc {α : Type} (x : Option α) (P : α → Prop) : Prop := ∀ r, x = some r → P r
def fw (W : List (Nat × Nat)) (a j : Nat) : Bool := W.any (fun q => q.1 == a && (q.2 == 0 || q.2 == j + 1))
def fwa (W : List (Nat × Nat)) (a : Nat) : Bool := W.any (fun q => q.1 == a && q.2 == 0)
def FR {α : Type} (W : List (Nat × Nat)) (f g : Nat → Nat → α) : Prop := ∀ a j, fw W a j = false → g a j = f a j
def sbs (W V : List (Nat × Nat)) : Prop := ∀ q, q ∈ W → q ∈ V
theorem sbs_of {W V : List (Nat × Nat)} (h : (W.all fun q => V.contains q) = true) : sbs W V := fun q hq => List.contains_iff_mem.mp (List.all_eq_true.mp h q hq)
theorem sbs_nil {V : List (Nat × Nat)} : sbs [] V := fun _ h => absurd h List.not_mem_nil
theorem sbs_cons {q : Nat × Nat} {W V : List (Nat × Nat)} (h : q ∈ V) (g : sbs W V) : sbs (q :: W) V := fun r hr => by
  rcases List.mem_cons.mp hr with rfl | h1
  · exact h
  · exact g r h1
theorem mem_at {W : List (Nat × Nat)} {q : Nat × Nat} (i : Nat) (h : W[i]? = some q) : q ∈ W := List.mem_of_getElem? h
theorem fw_at {W : List (Nat × Nat)} {a j : Nat} (i : Nat) (h : W[i]? = some (a, 0)) : fw W a j = true := List.any_eq_true.mpr ⟨(a, 0), mem_at i h, by simp⟩
theorem fw_as {W : List (Nat × Nat)} {a j : Nat} (i : Nat) (h : W[i]? = some (a, j + 1)) : fw W a j = true := List.any_eq_true.mpr ⟨(a, j + 1), mem_at i h, by simp⟩
theorem fwa_at {W : List (Nat × Nat)} {a : Nat} (i : Nat) (h : W[i]? = some (a, 0)) : fwa W a = true := List.any_eq_true.mpr ⟨(a, 0), mem_at i h, by simp⟩
theorem fw_sub {W V : List (Nat × Nat)} (h : sbs W V) {a j : Nat} (g : fw V a j = false) : fw W a j = false := by
  rw [Bool.eq_false_iff] at g ⊢
  intro q
  obtain ⟨x, hx, hy⟩ := List.any_eq_true.mp q
  exact g (List.any_eq_true.mpr ⟨x, h x hx, hy⟩)
theorem FR_refl {α : Type} {W : List (Nat × Nat)} {f : Nat → Nat → α} : FR W f f := fun _ _ _ => rfl
theorem FR_trans {α : Type} {W V : List (Nat × Nat)} {f g k : Nat → Nat → α} (s : sbs W V) (h : FR W f g) (q : FR V g k) : FR V f k := fun a j e => (q a j e).trans (h a j (fw_sub s e))
theorem FR_u2 {α : Type} {W : List (Nat × Nat)} {f k : Nat → Nat → α} {a j : Nat} {v : α} (h : fw W a j = true) (q : FR W (u2 f a j v) k) : FR W f k := by
  intro b i e
  rw [q b i e]
  unfold u2 va_up
  by_cases h1 : b = a
  · rw [if_pos h1]
    by_cases h2 : i = j
    · subst h1; subst h2; rw [h] at e; cases e
    · rw [if_neg h2, h1]
  · rw [if_neg h1]
theorem FR_up {α : Type} {W : List (Nat × Nat)} {f k : Nat → Nat → α} {a : Nat} {v : Nat → α} (h : fwa W a = true) (q : FR W (va_up f a v) k) : FR W f k := by
  intro b i e
  rw [q b i e]
  unfold va_up
  by_cases h1 : b = a
  · subst h1
    obtain ⟨x, hx, hy⟩ := List.any_eq_true.mp h
    rw [Bool.and_eq_true] at hy
    rw [Bool.eq_false_iff] at e
    exact absurd (List.any_eq_true.mpr ⟨x, hx, by rw [hy.1, hy.2]; rfl⟩) e
  · rw [if_neg h1]
def F3 {β : Type} (W V : List (Nat × Nat)) (I : Nat → Nat → Int32) (L : Nat → Nat → Int64) (r : β × (Nat → Nat → Int32) × (Nat → Nat → Int64)) : Prop := FR W I r.2.1 ∧ FR V L r.2.2
def F2 (W V : List (Nat × Nat)) (I : Nat → Nat → Int32) (L : Nat → Nat → Int64) (r : (Nat → Nat → Int32) × (Nat → Nat → Int64)) : Prop := FR W I r.1 ∧ FR V L r.2
theorem Pc_none {α : Type} {P : α → Prop} : Pc none P := fun _ h => by cases h
theorem Pc_st {α β : Type} {v : α} {k : α → Option β} {P : β → Prop} (h : ∀ y, Pc (k y) P) : Pc (stI v k) P := h v
theorem Pc_ite {α : Type} {c : Prop} [Decidable c] {x y : Option α} {P : α → Prop} (h : Pc x P) (g : Pc y P) : Pc (if c then x else y) P := by
  by_cases hc : c
  · rw [if_pos hc]; exact h
  · rw [if_neg hc]; exact g
theorem Pc_bR {β : Type} {o : Option Nat} {k : Nat → Option β} {P : β → Prop} (h : Pc (k (o.getD 0)) P) : Pc (o.bind k) P := by
  cases o with
  | none => exact Pc_none
  | some b => exact h
section PF
variable {W V W' V' : List (Nat × Nat)} {I : Nat → Nat → Int32} {L : Nat → Nat → Int64} {β γ : Type}
theorem Pc_s3 {r : β} : Pc (some (r, I, L)) (F3 W V I L) := fun _ h => by cases h; exact ⟨FR_refl, FR_refl⟩
theorem Pc_s2 : Pc (some (I, L)) (F2 W V I L) := fun _ h => by cases h; exact ⟨FR_refl, FR_refl⟩
theorem Pc_u3 {a j : Nat} {v : Int32} {k : (Nat → Nat → Int32) → Option (β × (Nat → Nat → Int32) × (Nat → Nat → Int64))} (h : fw W a j = true) (g : ∀ I1, Pc (k I1) (F3 W V I1 L)) : Pc (stI (u2 I a j v) k) (F3 W V I L) := fun r e => ⟨FR_u2 h (g _ r e).1, (g _ r e).2⟩
theorem Pc_u2 {a j : Nat} {v : Int32} {k : (Nat → Nat → Int32) → Option ((Nat → Nat → Int32) × (Nat → Nat → Int64))} (h : fw W a j = true) (g : ∀ I1, Pc (k I1) (F2 W V I1 L)) : Pc (stI (u2 I a j v) k) (F2 W V I L) := fun r e => ⟨FR_u2 h (g _ r e).1, (g _ r e).2⟩
theorem Pc_v3 {a : Nat} {v : Nat → Int32} {k : (Nat → Nat → Int32) → Option (β × (Nat → Nat → Int32) × (Nat → Nat → Int64))} (h : fwa W a = true) (g : ∀ I1, Pc (k I1) (F3 W V I1 L)) : Pc (stI (va_up I a v) k) (F3 W V I L) := fun r e => ⟨FR_up h (g _ r e).1, (g _ r e).2⟩
theorem Pc_v2 {a : Nat} {v : Nat → Int32} {k : (Nat → Nat → Int32) → Option ((Nat → Nat → Int32) × (Nat → Nat → Int64))} (h : fwa W a = true) (g : ∀ I1, Pc (k I1) (F2 W V I1 L)) : Pc (stI (va_up I a v) k) (F2 W V I L) := fun r e => ⟨FR_up h (g _ r e).1, (g _ r e).2⟩
theorem Pc_l3 {a j : Nat} {v : Int64} {k : (Nat → Nat → Int64) → Option (β × (Nat → Nat → Int32) × (Nat → Nat → Int64))} (h : fw V a j = true) (g : ∀ L1, Pc (k L1) (F3 W V I L1)) : Pc (stI (u2 L a j v) k) (F3 W V I L) := fun r e => ⟨(g _ r e).1, FR_u2 h (g _ r e).2⟩
theorem Pc_l2 {a j : Nat} {v : Int64} {k : (Nat → Nat → Int64) → Option ((Nat → Nat → Int32) × (Nat → Nat → Int64))} (h : fw V a j = true) (g : ∀ L1, Pc (k L1) (F2 W V I L1)) : Pc (stI (u2 L a j v) k) (F2 W V I L) := fun r e => ⟨(g _ r e).1, FR_u2 h (g _ r e).2⟩
theorem Pc_c33 {x : Option (γ × (Nat → Nat → Int32) × (Nat → Nat → Int64))} {k : (γ × (Nat → Nat → Int32) × (Nat → Nat → Int64)) → Option (β × (Nat → Nat → Int32) × (Nat → Nat → Int64))} (h : Pc x (F3 W' V' I L)) (s : sbs W' W) (t : sbs V' V) (g : ∀ r I1 L1, Pc (k (r, I1, L1)) (F3 W V I1 L1)) : Pc (x.bind k) (F3 W V I L) := fun r e => by
  obtain ⟨⟨q, I1, L1⟩, e1, e2⟩ := Option.bind_eq_some_iff.mp e
  exact ⟨FR_trans s (h _ e1).1 (g q I1 L1 r e2).1, FR_trans t (h _ e1).2 (g q I1 L1 r e2).2⟩
theorem Pc_c32 {x : Option (γ × (Nat → Nat → Int32) × (Nat → Nat → Int64))} {k : (γ × (Nat → Nat → Int32) × (Nat → Nat → Int64)) → Option ((Nat → Nat → Int32) × (Nat → Nat → Int64))} (h : Pc x (F3 W' V' I L)) (s : sbs W' W) (t : sbs V' V) (g : ∀ r I1 L1, Pc (k (r, I1, L1)) (F2 W V I1 L1)) : Pc (x.bind k) (F2 W V I L) := fun r e => by
  obtain ⟨⟨q, I1, L1⟩, e1, e2⟩ := Option.bind_eq_some_iff.mp e
  exact ⟨FR_trans s (h _ e1).1 (g q I1 L1 r e2).1, FR_trans t (h _ e1).2 (g q I1 L1 r e2).2⟩
theorem Pc_c23 {x : Option ((Nat → Nat → Int32) × (Nat → Nat → Int64))} {k : ((Nat → Nat → Int32) × (Nat → Nat → Int64)) → Option (β × (Nat → Nat → Int32) × (Nat → Nat → Int64))} (h : Pc x (F2 W' V' I L)) (s : sbs W' W) (t : sbs V' V) (g : ∀ I1 L1, Pc (k (I1, L1)) (F3 W V I1 L1)) : Pc (x.bind k) (F3 W V I L) := fun r e => by
  obtain ⟨⟨I1, L1⟩, e1, e2⟩ := Option.bind_eq_some_iff.mp e
  exact ⟨FR_trans s (h _ e1).1 (g I1 L1 r e2).1, FR_trans t (h _ e1).2 (g I1 L1 r e2).2⟩
theorem Pc_c22 {x : Option ((Nat → Nat → Int32) × (Nat → Nat → Int64))} {k : ((Nat → Nat → Int32) × (Nat → Nat → Int64)) → Option ((Nat → Nat → Int32) × (Nat → Nat → Int64))} (h : Pc x (F2 W' V' I L)) (s : sbs W' W) (t : sbs V' V) (g : ∀ I1 L1, Pc (k (I1, L1)) (F2 W V I1 L1)) : Pc (x.bind k) (F2 W V I L) := fun r e => by
  obtain ⟨⟨I1, L1⟩, e1, e2⟩ := Option.bind_eq_some_iff.mp e
  exact ⟨FR_trans s (h _ e1).1 (g I1 L1 r e2).1, FR_trans t (h _ e1).2 (g I1 L1 r e2).2⟩
end PF
def WI_14 : List (Nat × Nat) := []
def WL_14 : List (Nat × Nat) := []
set_option maxHeartbeats 8000000 in
set_option maxRecDepth 100000 in
theorem fa_14 : ∀ (n dp : Nat) (e : EN) (I : (Nat → Nat → Int32)) (L : (Nat → Nat → Int64)) (i0 : Int32) (i1 : Int32) (i2 : Int32), Pc (g_14 n dp e 0 I L i0 i1 i2) (F3 WI_14 WL_14 I L) := by
  intro n
  induction n with
  | zero => intro dp e I L i0 i1 i2; exact Pc_none
  | succ n ih =>
    intro dp e I L i0 i1 i2
    · rw [e_14_0]
      repeat' first
        | with_reducible exact Pc_none
        | with_reducible exact Pc_s3
        | with_reducible refine Pc_ite ?_ ?_
theorem f_14_0 (n dp : Nat) (e : EN) (I : (Nat → Nat → Int32)) (L : (Nat → Nat → Int64)) (i0 : Int32) (i1 : Int32) (i2 : Int32) : Pc (g_14 n dp e 0 I L i0 i1 i2) (F3 WI_14 WL_14 I L) := (fa_14 n dp e I L i0 i1 i2)
def WI_15 : List (Nat × Nat) := [(0, 0), (92, 0)]
def WL_15 : List (Nat × Nat) := []
set_option maxHeartbeats 8000000 in
set_option maxRecDepth 100000 in
theorem fa_15 : ∀ (n dp : Nat) (e : EN) (I : (Nat → Nat → Int32)) (L : (Nat → Nat → Int64)) (i1 : Int32), Pc (g_15 n dp e 0 I L i1) (F3 WI_15 WL_15 I L) := by
  intro n
  induction n with
  | zero => intro dp e I L i1; exact Pc_none
  | succ n ih =>
    intro dp e I L i1
    · rw [e_15_0]
      repeat' first
        | with_reducible exact Pc_none
        | with_reducible exact Pc_s3
        | with_reducible refine Pc_ite ?_ ?_
        | ((with_reducible refine Pc_c33 (f_14_0 _ _ _ _ _ _ _ _) ?_ ?_ (fun _ _ _ => ?_)); exact (sbs_of rfl); exact sbs_of rfl; dsimp only)
        | ((with_reducible refine Pc_u3 ?_ (fun _ => ?_)); exact rfl)
        | with_reducible refine Pc_st (fun _ => ?_)
theorem f_15_0 (n dp : Nat) (e : EN) (I : (Nat → Nat → Int32)) (L : (Nat → Nat → Int64)) (i1 : Int32) : Pc (g_15 n dp e 0 I L i1) (F3 WI_15 WL_15 I L) := (fa_15 n dp e I L i1)
def WI_16 : List (Nat × Nat) := []
def WL_16 : List (Nat × Nat) := []
set_option maxHeartbeats 8000000 in
set_option maxRecDepth 100000 in
theorem fa_16 : ∀ (n dp : Nat) (e : EN) (I : (Nat → Nat → Int32)) (L : (Nat → Nat → Int64)), Pc (g_16 n dp e 0 I L) (F3 WI_16 WL_16 I L) := by
  intro n
  induction n with
  | zero => intro dp e I L; exact Pc_none
  | succ n ih =>
    intro dp e I L
    · rw [e_16_0]
      repeat' first
        | with_reducible exact Pc_none
        | with_reducible exact Pc_s3
theorem f_16_0 (n dp : Nat) (e : EN) (I : (Nat → Nat → Int32)) (L : (Nat → Nat → Int64)) : Pc (g_16 n dp e 0 I L) (F3 WI_16 WL_16 I L) := (fa_16 n dp e I L)
def WI_17 : List (Nat × Nat) := [(24, 0)]
def WL_17 : List (Nat × Nat) := []
set_option maxHeartbeats 8000000 in
set_option maxRecDepth 100000 in
theorem fa_17 : ∀ (n dp : Nat) (e : EN) (I : (Nat → Nat → Int32)) (L : (Nat → Nat → Int64)), Pc (g_17 n dp e 0 I L) (F2 WI_17 WL_17 I L) := by
  intro n
  induction n with
  | zero => intro dp e I L; exact Pc_none
  | succ n ih =>
    intro dp e I L
    · rw [e_17_0]
      repeat' first
        | with_reducible exact Pc_none
        | with_reducible exact Pc_s2
        | ((with_reducible refine Pc_u2 ?_ (fun _ => ?_)); exact rfl)
        | with_reducible refine Pc_st (fun _ => ?_)
theorem f_17_0 (n dp : Nat) (e : EN) (I : (Nat → Nat → Int32)) (L : (Nat → Nat → Int64)) : Pc (g_17 n dp e 0 I L) (F2 WI_17 WL_17 I L) := (fa_17 n dp e I L)
def WI_18 : List (Nat × Nat) := [(73, 0)]
def WL_18 : List (Nat × Nat) := []
set_option maxHeartbeats 8000000 in
set_option maxRecDepth 100000 in
theorem fa_18 : ∀ (n dp : Nat) (e : EN) (I : (Nat → Nat → Int32)) (L : (Nat → Nat → Int64)), Pc (g_18 n dp e 0 I L) (F2 WI_18 WL_18 I L) := by
  intro n
  induction n with
  | zero => intro dp e I L; exact Pc_none
  | succ n ih =>
    intro dp e I L
    · rw [e_18_0]
      repeat' first
        | with_reducible exact Pc_none
        | with_reducible exact Pc_s2
        | ((with_reducible refine Pc_u2 ?_ (fun _ => ?_)); exact rfl)
        | with_reducible refine Pc_st (fun _ => ?_)
theorem f_18_0 (n dp : Nat) (e : EN) (I : (Nat → Nat → Int32)) (L : (Nat → Nat → Int64)) : Pc (g_18 n dp e 0 I L) (F2 WI_18 WL_18 I L) := (fa_18 n dp e I L)
def WI_19 : List (Nat × Nat) := [(0, 0)]
def WL_19 : List (Nat × Nat) := []
set_option maxHeartbeats 8000000 in
set_option maxRecDepth 100000 in
theorem fa_19 : ∀ (n dp : Nat) (e : EN) (I : (Nat → Nat → Int32)) (L : (Nat → Nat → Int64)) (i1 : Int32), Pc (g_19 n dp e 0 I L i1) (F3 WI_19 WL_19 I L) := by
  intro n
  induction n with
  | zero => intro dp e I L i1; exact Pc_none
  | succ n ih =>
    intro dp e I L i1
    · rw [e_19_0]
      repeat' first
        | with_reducible exact Pc_none
        | with_reducible exact Pc_s3
        | ((with_reducible refine Pc_u3 ?_ (fun _ => ?_)); exact rfl)
        | with_reducible refine Pc_st (fun _ => ?_)
theorem f_19_0 (n dp : Nat) (e : EN) (I : (Nat → Nat → Int32)) (L : (Nat → Nat → Int64)) (i1 : Int32) : Pc (g_19 n dp e 0 I L i1) (F3 WI_19 WL_19 I L) := (fa_19 n dp e I L i1)
def WI_13 : List (Nat × Nat) := [(2, 0), (0, 0), (92, 0), (24, 0), (73, 0)]
def WL_13 : List (Nat × Nat) := []
set_option maxHeartbeats 8000000 in
set_option maxRecDepth 100000 in
theorem fa_13 : ∀ (n dp : Nat) (e : EN) (I : (Nat → Nat → Int32)) (L : (Nat → Nat → Int64)) (i1 : Int32) (i2 : Int32), Pc (g_13 n dp e 0 I L i1 i2) (F3 WI_13 WL_13 I L) := by
  intro n
  induction n with
  | zero => intro dp e I L i1 i2; exact Pc_none
  | succ n ih =>
    intro dp e I L i1 i2
    · rw [e_13_0]
      repeat' first
        | with_reducible exact Pc_none
        | with_reducible exact Pc_s3
        | with_reducible refine Pc_ite ?_ ?_
        | ((with_reducible refine Pc_c33 (f_14_0 _ _ _ _ _ _ _ _) ?_ ?_ (fun _ _ _ => ?_)); exact (sbs_of rfl); exact sbs_of rfl; dsimp only)
        | ((with_reducible refine Pc_c33 (f_15_0 _ _ _ _ _ _) ?_ ?_ (fun _ _ _ => ?_)); exact (sbs_of rfl); exact sbs_of rfl; dsimp only)
        | ((with_reducible refine Pc_c33 (f_16_0 _ _ _ _ _) ?_ ?_ (fun _ _ _ => ?_)); exact (sbs_of rfl); exact sbs_of rfl; dsimp only)
        | ((with_reducible refine Pc_c23 (f_17_0 _ _ _ _ _) ?_ ?_ (fun _ _ => ?_)); exact (sbs_of rfl); exact sbs_of rfl; dsimp only)
        | ((with_reducible refine Pc_c23 (f_18_0 _ _ _ _ _) ?_ ?_ (fun _ _ => ?_)); exact (sbs_of rfl); exact sbs_of rfl; dsimp only)
        | ((with_reducible refine Pc_c33 (f_19_0 _ _ _ _ _ _) ?_ ?_ (fun _ _ _ => ?_)); exact (sbs_of rfl); exact sbs_of rfl; dsimp only)
        | ((with_reducible refine Pc_u3 ?_ (fun _ => ?_)); exact rfl)
        | with_reducible refine Pc_st (fun _ => ?_)
theorem f_13_0 (n dp : Nat) (e : EN) (I : (Nat → Nat → Int32)) (L : (Nat → Nat → Int64)) (i1 : Int32) (i2 : Int32) : Pc (g_13 n dp e 0 I L i1 i2) (F3 WI_13 WL_13 I L) := (fa_13 n dp e I L i1 i2)
def WI_22 : List (Nat × Nat) := [(24, 0)]
def WL_22 : List (Nat × Nat) := []
set_option maxHeartbeats 8000000 in
set_option maxRecDepth 100000 in
theorem fa_22 : ∀ (n dp : Nat) (e : EN) (I : (Nat → Nat → Int32)) (L : (Nat → Nat → Int64)), Pc (g_22 n dp e 0 I L) (F2 WI_22 WL_22 I L) := by
  intro n
  induction n with
  | zero => intro dp e I L; exact Pc_none
  | succ n ih =>
    intro dp e I L
    · rw [e_22_0]
      repeat' first
        | with_reducible exact Pc_none
        | with_reducible exact Pc_s2
        | ((with_reducible refine Pc_u2 ?_ (fun _ => ?_)); exact rfl)
        | with_reducible refine Pc_st (fun _ => ?_)
theorem f_22_0 (n dp : Nat) (e : EN) (I : (Nat → Nat → Int32)) (L : (Nat → Nat → Int64)) : Pc (g_22 n dp e 0 I L) (F2 WI_22 WL_22 I L) := (fa_22 n dp e I L)
def WI_21 : List (Nat × Nat) := [(24, 0), (73, 0)]
def WL_21 : List (Nat × Nat) := []
set_option maxHeartbeats 8000000 in
set_option maxRecDepth 100000 in
theorem fa_21 : ∀ (n dp : Nat) (e : EN) (I : (Nat → Nat → Int32)) (L : (Nat → Nat → Int64)), Pc (g_21 n dp e 0 I L) (F2 WI_21 WL_21 I L) := by
  intro n
  induction n with
  | zero => intro dp e I L; exact Pc_none
  | succ n ih =>
    intro dp e I L
    · rw [e_21_0]
      repeat' first
        | with_reducible exact Pc_none
        | with_reducible exact Pc_s2
        | with_reducible refine Pc_ite ?_ ?_
        | ((with_reducible refine Pc_c22 (f_22_0 _ _ _ _ _) ?_ ?_ (fun _ _ => ?_)); exact (sbs_of rfl); exact sbs_of rfl; dsimp only)
        | ((with_reducible refine Pc_c22 (f_18_0 _ _ _ _ _) ?_ ?_ (fun _ _ => ?_)); exact (sbs_of rfl); exact sbs_of rfl; dsimp only)
theorem f_21_0 (n dp : Nat) (e : EN) (I : (Nat → Nat → Int32)) (L : (Nat → Nat → Int64)) : Pc (g_21 n dp e 0 I L) (F2 WI_21 WL_21 I L) := (fa_21 n dp e I L)
def WI_20 : List (Nat × Nat) := [(3, 0), (0, 0), (92, 0), (24, 0), (73, 0)]
def WL_20 : List (Nat × Nat) := []
set_option maxHeartbeats 8000000 in
set_option maxRecDepth 100000 in
theorem fa_20 : ∀ (n dp : Nat) (e : EN) (I : (Nat → Nat → Int32)) (L : (Nat → Nat → Int64)) (i1 : Int32) (i2 : Int32) (i3 : Int32), Pc (g_20 n dp e 0 I L i1 i2 i3) (F3 WI_20 WL_20 I L) := by
  intro n
  induction n with
  | zero => intro dp e I L i1 i2 i3; exact Pc_none
  | succ n ih =>
    intro dp e I L i1 i2 i3
    · rw [e_20_0]
      repeat' first
        | with_reducible exact Pc_none
        | with_reducible exact Pc_s3
        | with_reducible refine Pc_ite ?_ ?_
        | ((with_reducible refine Pc_c33 (f_14_0 _ _ _ _ _ _ _ _) ?_ ?_ (fun _ _ _ => ?_)); exact (sbs_of rfl); exact sbs_of rfl; dsimp only)
        | ((with_reducible refine Pc_c33 (f_15_0 _ _ _ _ _ _) ?_ ?_ (fun _ _ _ => ?_)); exact (sbs_of rfl); exact sbs_of rfl; dsimp only)
        | ((with_reducible refine Pc_c23 (f_21_0 _ _ _ _ _) ?_ ?_ (fun _ _ => ?_)); exact (sbs_of rfl); exact sbs_of rfl; dsimp only)
        | ((with_reducible refine Pc_c33 (f_19_0 _ _ _ _ _ _) ?_ ?_ (fun _ _ _ => ?_)); exact (sbs_of rfl); exact sbs_of rfl; dsimp only)
        | ((with_reducible refine Pc_u3 ?_ (fun _ => ?_)); exact rfl)
        | with_reducible refine Pc_st (fun _ => ?_)
theorem f_20_0 (n dp : Nat) (e : EN) (I : (Nat → Nat → Int32)) (L : (Nat → Nat → Int64)) (i1 : Int32) (i2 : Int32) (i3 : Int32) : Pc (g_20 n dp e 0 I L i1 i2 i3) (F3 WI_20 WL_20 I L) := (fa_20 n dp e I L i1 i2 i3)
def WI_24 : List (Nat × Nat) := []
def WL_24 : List (Nat × Nat) := []
set_option maxHeartbeats 8000000 in
set_option maxRecDepth 100000 in
theorem fa_24 : ∀ (n dp : Nat) (e : EN) (I : (Nat → Nat → Int32)) (L : (Nat → Nat → Int64)) (i1 : Int32) (i2 : Int32), Pc (g_24 n dp e 0 I L i1 i2) (F3 WI_24 WL_24 I L) ∧
    Pc (g_24 n dp e 1 I L i1 i2) (F3 WI_24 WL_24 I L) ∧
    Pc (g_24 n dp e 2 I L i1 i2) (F3 WI_24 WL_24 I L) := by
  intro n
  induction n with
  | zero => intro dp e I L i1 i2; exact ⟨Pc_none, Pc_none, Pc_none⟩
  | succ n ih =>
    intro dp e I L i1 i2
    refine ⟨?_, ?_, ?_⟩
    · rw [e_24_0]
      repeat' first
        | with_reducible exact Pc_none
        | with_reducible exact Pc_s3
        | with_reducible exact (ih _ _ _ _ _ _).2.1
    · rw [e_24_1]
      repeat' first
        | with_reducible exact Pc_none
        | with_reducible exact Pc_s3
        | with_reducible refine Pc_ite ?_ ?_
        | with_reducible exact (ih _ _ _ _ _ _).2.2
    · rw [e_24_2]
      repeat' first
        | with_reducible exact Pc_none
        | with_reducible exact Pc_s3
        | with_reducible exact (ih _ _ _ _ _ _).2.1
theorem f_24_0 (n dp : Nat) (e : EN) (I : (Nat → Nat → Int32)) (L : (Nat → Nat → Int64)) (i1 : Int32) (i2 : Int32) : Pc (g_24 n dp e 0 I L i1 i2) (F3 WI_24 WL_24 I L) := (fa_24 n dp e I L i1 i2).1
theorem f_24_1 (n dp : Nat) (e : EN) (I : (Nat → Nat → Int32)) (L : (Nat → Nat → Int64)) (i1 : Int32) (i2 : Int32) : Pc (g_24 n dp e 1 I L i1 i2) (F3 WI_24 WL_24 I L) := (fa_24 n dp e I L i1 i2).2.1
theorem f_24_2 (n dp : Nat) (e : EN) (I : (Nat → Nat → Int32)) (L : (Nat → Nat → Int64)) (i1 : Int32) (i2 : Int32) : Pc (g_24 n dp e 2 I L i1 i2) (F3 WI_24 WL_24 I L) := (fa_24 n dp e I L i1 i2).2.2
def WI_25 : List (Nat × Nat) := [(24, 0)]
def WL_25 : List (Nat × Nat) := []
set_option maxHeartbeats 8000000 in
set_option maxRecDepth 100000 in
theorem fa_25 : ∀ (n dp : Nat) (e : EN) (I : (Nat → Nat → Int32)) (L : (Nat → Nat → Int64)), Pc (g_25 n dp e 0 I L) (F2 WI_25 WL_25 I L) := by
  intro n
  induction n with
  | zero => intro dp e I L; exact Pc_none
  | succ n ih =>
    intro dp e I L
    · rw [e_25_0]
      repeat' first
        | with_reducible exact Pc_none
        | with_reducible exact Pc_s2
        | ((with_reducible refine Pc_u2 ?_ (fun _ => ?_)); exact rfl)
        | with_reducible refine Pc_st (fun _ => ?_)
theorem f_25_0 (n dp : Nat) (e : EN) (I : (Nat → Nat → Int32)) (L : (Nat → Nat → Int64)) : Pc (g_25 n dp e 0 I L) (F2 WI_25 WL_25 I L) := (fa_25 n dp e I L)
def WI_23 : List (Nat × Nat) := [(0, 0), (92, 0), (4, 0), (24, 0), (73, 0)]
def WL_23 : List (Nat × Nat) := []
set_option maxHeartbeats 8000000 in
set_option maxRecDepth 100000 in
theorem fa_23 : ∀ (n dp : Nat) (e : EN) (I : (Nat → Nat → Int32)) (L : (Nat → Nat → Int64)) (i1 : Int32) (i2 : Int32) (i3 : Int32) (i4 : Int32) (i5 : Int32), Pc (g_23 n dp e 0 I L i1 i2 i3 i4 i5) (F3 WI_23 WL_23 I L) ∧
    Pc (g_23 n dp e 1 I L i1 i2 i3 i4 i5) (F3 WI_23 WL_23 I L) := by
  intro n
  induction n with
  | zero => intro dp e I L i1 i2 i3 i4 i5; exact ⟨Pc_none, Pc_none⟩
  | succ n ih =>
    intro dp e I L i1 i2 i3 i4 i5
    refine ⟨?_, ?_⟩
    · rw [e_23_0]
      repeat' first
        | with_reducible exact Pc_none
        | with_reducible exact Pc_s3
        | with_reducible refine Pc_ite ?_ ?_
        | ((with_reducible refine Pc_c33 (f_14_0 _ _ _ _ _ _ _ _) ?_ ?_ (fun _ _ _ => ?_)); exact (sbs_of rfl); exact sbs_of rfl; dsimp only)
        | ((with_reducible refine Pc_c33 (f_15_0 _ _ _ _ _ _) ?_ ?_ (fun _ _ _ => ?_)); exact (sbs_of rfl); exact sbs_of rfl; dsimp only)
        | with_reducible exact (ih _ _ _ _ _ _ _ _ _).2
        | ((with_reducible refine Pc_c33 (f_24_0 _ _ _ _ _ _ _) ?_ ?_ (fun _ _ _ => ?_)); exact (sbs_of rfl); exact sbs_of rfl; dsimp only)
        | with_reducible refine Pc_st (fun _ => ?_)
    · rw [e_23_1]
      repeat' first
        | with_reducible exact Pc_none
        | with_reducible exact Pc_s3
        | with_reducible refine Pc_ite ?_ ?_
        | ((with_reducible refine Pc_c23 (f_25_0 _ _ _ _ _) ?_ ?_ (fun _ _ => ?_)); exact (sbs_of rfl); exact sbs_of rfl; dsimp only)
        | ((with_reducible refine Pc_c23 (f_18_0 _ _ _ _ _) ?_ ?_ (fun _ _ => ?_)); exact (sbs_of rfl); exact sbs_of rfl; dsimp only)
        | ((with_reducible refine Pc_c33 (f_19_0 _ _ _ _ _ _) ?_ ?_ (fun _ _ _ => ?_)); exact (sbs_of rfl); exact sbs_of rfl; dsimp only)
        | ((with_reducible refine Pc_u3 ?_ (fun _ => ?_)); exact rfl)
        | with_reducible refine Pc_st (fun _ => ?_)
theorem f_23_0 (n dp : Nat) (e : EN) (I : (Nat → Nat → Int32)) (L : (Nat → Nat → Int64)) (i1 : Int32) (i2 : Int32) (i3 : Int32) (i4 : Int32) (i5 : Int32) : Pc (g_23 n dp e 0 I L i1 i2 i3 i4 i5) (F3 WI_23 WL_23 I L) := (fa_23 n dp e I L i1 i2 i3 i4 i5).1
theorem f_23_1 (n dp : Nat) (e : EN) (I : (Nat → Nat → Int32)) (L : (Nat → Nat → Int64)) (i1 : Int32) (i2 : Int32) (i3 : Int32) (i4 : Int32) (i5 : Int32) : Pc (g_23 n dp e 1 I L i1 i2 i3 i4 i5) (F3 WI_23 WL_23 I L) := (fa_23 n dp e I L i1 i2 i3 i4 i5).2
def WI_26 : List (Nat × Nat) := [(5, 0), (1, 0), (0, 0), (92, 0), (73, 0)]
def WL_26 : List (Nat × Nat) := []
set_option maxHeartbeats 8000000 in
set_option maxRecDepth 100000 in
theorem fa_26 : ∀ (n dp : Nat) (e : EN) (I : (Nat → Nat → Int32)) (L : (Nat → Nat → Int64)) (i1 : Int32), Pc (g_26 n dp e 0 I L i1) (F3 WI_26 WL_26 I L) := by
  intro n
  induction n with
  | zero => intro dp e I L i1; exact Pc_none
  | succ n ih =>
    intro dp e I L i1
    · rw [e_26_0]
      repeat' first
        | with_reducible exact Pc_none
        | with_reducible exact Pc_s3
        | with_reducible refine Pc_ite ?_ ?_
        | ((with_reducible refine Pc_c33 (f_14_0 _ _ _ _ _ _ _ _) ?_ ?_ (fun _ _ _ => ?_)); exact (sbs_of rfl); exact sbs_of rfl; dsimp only)
        | ((with_reducible refine Pc_c33 (f_15_0 _ _ _ _ _ _) ?_ ?_ (fun _ _ _ => ?_)); exact (sbs_of rfl); exact sbs_of rfl; dsimp only)
        | ((with_reducible refine Pc_c23 (f_18_0 _ _ _ _ _) ?_ ?_ (fun _ _ => ?_)); exact (sbs_of rfl); exact sbs_of rfl; dsimp only)
        | ((with_reducible refine Pc_c33 (f_19_0 _ _ _ _ _ _) ?_ ?_ (fun _ _ _ => ?_)); exact (sbs_of rfl); exact sbs_of rfl; dsimp only)
        | ((with_reducible refine Pc_u3 ?_ (fun _ => ?_)); exact rfl)
        | with_reducible refine Pc_st (fun _ => ?_)
theorem f_26_0 (n dp : Nat) (e : EN) (I : (Nat → Nat → Int32)) (L : (Nat → Nat → Int64)) (i1 : Int32) : Pc (g_26 n dp e 0 I L i1) (F3 WI_26 WL_26 I L) := (fa_26 n dp e I L i1)
def WI_27 : List (Nat × Nat) := [(5, 0), (0, 0), (92, 0), (73, 0)]
def WL_27 : List (Nat × Nat) := []
set_option maxHeartbeats 8000000 in
set_option maxRecDepth 100000 in
theorem fa_27 : ∀ (n dp : Nat) (e : EN) (I : (Nat → Nat → Int32)) (L : (Nat → Nat → Int64)) (i1 : Int32) (i2 : Int32), Pc (g_27 n dp e 0 I L i1 i2) (F3 WI_27 WL_27 I L) := by
  intro n
  induction n with
  | zero => intro dp e I L i1 i2; exact Pc_none
  | succ n ih =>
    intro dp e I L i1 i2
    · rw [e_27_0]
      repeat' first
        | with_reducible exact Pc_none
        | with_reducible exact Pc_s3
        | with_reducible refine Pc_ite ?_ ?_
        | ((with_reducible refine Pc_c33 (f_14_0 _ _ _ _ _ _ _ _) ?_ ?_ (fun _ _ _ => ?_)); exact (sbs_of rfl); exact sbs_of rfl; dsimp only)
        | ((with_reducible refine Pc_c33 (f_15_0 _ _ _ _ _ _) ?_ ?_ (fun _ _ _ => ?_)); exact (sbs_of rfl); exact sbs_of rfl; dsimp only)
        | ((with_reducible refine Pc_c23 (f_18_0 _ _ _ _ _) ?_ ?_ (fun _ _ => ?_)); exact (sbs_of rfl); exact sbs_of rfl; dsimp only)
        | ((with_reducible refine Pc_c33 (f_19_0 _ _ _ _ _ _) ?_ ?_ (fun _ _ _ => ?_)); exact (sbs_of rfl); exact sbs_of rfl; dsimp only)
        | ((with_reducible refine Pc_u3 ?_ (fun _ => ?_)); exact rfl)
        | with_reducible refine Pc_st (fun _ => ?_)
theorem f_27_0 (n dp : Nat) (e : EN) (I : (Nat → Nat → Int32)) (L : (Nat → Nat → Int64)) (i1 : Int32) (i2 : Int32) : Pc (g_27 n dp e 0 I L i1 i2) (F3 WI_27 WL_27 I L) := (fa_27 n dp e I L i1 i2)
def WI_28 : List (Nat × Nat) := [(1, 0), (0, 0), (92, 0), (24, 0), (73, 0)]
def WL_28 : List (Nat × Nat) := []
set_option maxHeartbeats 8000000 in
set_option maxRecDepth 100000 in
theorem fa_28 : ∀ (n dp : Nat) (e : EN) (I : (Nat → Nat → Int32)) (L : (Nat → Nat → Int64)) (i1 : Int32) (i2 : Int32), Pc (g_28 n dp e 0 I L i1 i2) (F3 WI_28 WL_28 I L) := by
  intro n
  induction n with
  | zero => intro dp e I L i1 i2; exact Pc_none
  | succ n ih =>
    intro dp e I L i1 i2
    · rw [e_28_0]
      repeat' first
        | with_reducible exact Pc_none
        | with_reducible exact Pc_s3
        | with_reducible refine Pc_ite ?_ ?_
        | ((with_reducible refine Pc_c33 (f_14_0 _ _ _ _ _ _ _ _) ?_ ?_ (fun _ _ _ => ?_)); exact (sbs_of rfl); exact sbs_of rfl; dsimp only)
        | ((with_reducible refine Pc_c33 (f_15_0 _ _ _ _ _ _) ?_ ?_ (fun _ _ _ => ?_)); exact (sbs_of rfl); exact sbs_of rfl; dsimp only)
        | ((with_reducible refine Pc_c33 (f_19_0 _ _ _ _ _ _) ?_ ?_ (fun _ _ _ => ?_)); exact (sbs_of rfl); exact sbs_of rfl; dsimp only)
        | ((with_reducible refine Pc_c23 (f_21_0 _ _ _ _ _) ?_ ?_ (fun _ _ => ?_)); exact (sbs_of rfl); exact sbs_of rfl; dsimp only)
        | ((with_reducible refine Pc_u3 ?_ (fun _ => ?_)); exact rfl)
        | with_reducible refine Pc_st (fun _ => ?_)
theorem f_28_0 (n dp : Nat) (e : EN) (I : (Nat → Nat → Int32)) (L : (Nat → Nat → Int64)) (i1 : Int32) (i2 : Int32) : Pc (g_28 n dp e 0 I L i1 i2) (F3 WI_28 WL_28 I L) := (fa_28 n dp e I L i1 i2)
def WI_30 : List (Nat × Nat) := [(89, 0), (0, 0)]
def WL_30 : List (Nat × Nat) := []
set_option maxHeartbeats 8000000 in
set_option maxRecDepth 100000 in
theorem fa_30 : ∀ (n dp : Nat) (e : EN) (I : (Nat → Nat → Int32)) (L : (Nat → Nat → Int64)) (i1 : Int32) (i2 : Int32), Pc (g_30 n dp e 0 I L i1 i2) (F2 WI_30 WL_30 I L) ∧
    Pc (g_30 n dp e 1 I L i1 i2) (F2 WI_30 WL_30 I L) := by
  intro n
  induction n with
  | zero => intro dp e I L i1 i2; exact ⟨Pc_none, Pc_none⟩
  | succ n ih =>
    intro dp e I L i1 i2
    refine ⟨?_, ?_⟩
    · rw [e_30_0]
      repeat' first
        | with_reducible exact Pc_none
        | with_reducible exact Pc_s2
        | with_reducible exact (ih _ _ _ _ _ _).2
    · rw [e_30_1]
      repeat' first
        | with_reducible exact Pc_none
        | with_reducible exact Pc_s2
        | with_reducible refine Pc_ite ?_ ?_
        | with_reducible exact (ih _ _ _ _ _ _).2
        | ((with_reducible refine Pc_u2 ?_ (fun _ => ?_)); exact rfl)
        | with_reducible refine Pc_st (fun _ => ?_)
theorem f_30_0 (n dp : Nat) (e : EN) (I : (Nat → Nat → Int32)) (L : (Nat → Nat → Int64)) (i1 : Int32) (i2 : Int32) : Pc (g_30 n dp e 0 I L i1 i2) (F2 WI_30 WL_30 I L) := (fa_30 n dp e I L i1 i2).1
theorem f_30_1 (n dp : Nat) (e : EN) (I : (Nat → Nat → Int32)) (L : (Nat → Nat → Int64)) (i1 : Int32) (i2 : Int32) : Pc (g_30 n dp e 1 I L i1 i2) (F2 WI_30 WL_30 I L) := (fa_30 n dp e I L i1 i2).2
def WI_29 : List (Nat × Nat) := [(89, 0), (0, 0)]
def WL_29 : List (Nat × Nat) := []
set_option maxHeartbeats 8000000 in
set_option maxRecDepth 100000 in
theorem fa_29 : ∀ (n dp : Nat) (e : EN) (I : (Nat → Nat → Int32)) (L : (Nat → Nat → Int64)) (i1 : Int32) (i2 : Int32) (i3 : Int32) (i4 : Int32) (i5 : Int32), Pc (g_29 n dp e 0 I L i1 i2 i3 i4 i5) (F3 WI_29 WL_29 I L) := by
  intro n
  induction n with
  | zero => intro dp e I L i1 i2 i3 i4 i5; exact Pc_none
  | succ n ih =>
    intro dp e I L i1 i2 i3 i4 i5
    · rw [e_29_0]
      repeat' first
        | with_reducible exact Pc_none
        | with_reducible exact Pc_s3
        | with_reducible refine Pc_ite ?_ ?_
        | ((with_reducible refine Pc_c23 (f_30_0 _ _ _ _ _ _ _) ?_ ?_ (fun _ _ => ?_)); exact (sbs_of rfl); exact sbs_of rfl; dsimp only)
theorem f_29_0 (n dp : Nat) (e : EN) (I : (Nat → Nat → Int32)) (L : (Nat → Nat → Int64)) (i1 : Int32) (i2 : Int32) (i3 : Int32) (i4 : Int32) (i5 : Int32) : Pc (g_29 n dp e 0 I L i1 i2 i3 i4 i5) (F3 WI_29 WL_29 I L) := (fa_29 n dp e I L i1 i2 i3 i4 i5)
def WI_31 : List (Nat × Nat) := [(0, 0)]
def WL_31 : List (Nat × Nat) := []
set_option maxHeartbeats 8000000 in
set_option maxRecDepth 100000 in
theorem fa_31 : ∀ (n dp : Nat) (e : EN) (I : (Nat → Nat → Int32)) (L : (Nat → Nat → Int64)) (i1 : Int32), Pc (g_31 n dp e 0 I L i1) (F3 WI_31 WL_31 I L) := by
  intro n
  induction n with
  | zero => intro dp e I L i1; exact Pc_none
  | succ n ih =>
    intro dp e I L i1
    · rw [e_31_0]
      repeat' first
        | with_reducible exact Pc_none
        | with_reducible exact Pc_s3
        | with_reducible refine Pc_ite ?_ ?_
        | ((with_reducible refine Pc_c33 (f_14_0 _ _ _ _ _ _ _ _) ?_ ?_ (fun _ _ _ => ?_)); exact (sbs_of rfl); exact sbs_of rfl; dsimp only)
        | ((with_reducible refine Pc_u3 ?_ (fun _ => ?_)); exact rfl)
        | with_reducible refine Pc_st (fun _ => ?_)
theorem f_31_0 (n dp : Nat) (e : EN) (I : (Nat → Nat → Int32)) (L : (Nat → Nat → Int64)) (i1 : Int32) : Pc (g_31 n dp e 0 I L i1) (F3 WI_31 WL_31 I L) := (fa_31 n dp e I L i1)
def WI_36 (a0 : Nat) : List (Nat × Nat) := [(a0, 0)]
def WL_36 : List (Nat × Nat) := []
set_option maxHeartbeats 8000000 in
set_option maxRecDepth 100000 in
theorem fa_36 : ∀ (n dp : Nat) (e : EN) (I : (Nat → Nat → Int32)) (L : (Nat → Nat → Int64)) (i1 : Int32) (i2 : Int32) (i3 : Int32) (a0 : Nat), Pc (g_36 n dp e 0 I L i1 i2 i3 a0) (F2 (WI_36 a0) WL_36 I L) ∧
    Pc (g_36 n dp e 1 I L i1 i2 i3 a0) (F2 (WI_36 a0) WL_36 I L) := by
  intro n
  induction n with
  | zero => intro dp e I L i1 i2 i3 a0; exact ⟨Pc_none, Pc_none⟩
  | succ n ih =>
    intro dp e I L i1 i2 i3 a0
    refine ⟨?_, ?_⟩
    · rw [e_36_0]
      repeat' first
        | with_reducible exact Pc_none
        | with_reducible exact Pc_s2
        | with_reducible refine Pc_ite ?_ ?_
        | with_reducible exact (ih _ _ _ _ _ _ _ _).2
    · rw [e_36_1]
      repeat' first
        | with_reducible exact Pc_none
        | with_reducible exact Pc_s2
        | with_reducible refine Pc_ite ?_ ?_
        | with_reducible exact (ih _ _ _ _ _ _ _ _).2
        | ((with_reducible refine Pc_u2 ?_ (fun _ => ?_)); exact (by first | exact rfl | exact fw_at 0 rfl))
        | with_reducible refine Pc_st (fun _ => ?_)
theorem f_36_0 (n dp : Nat) (e : EN) (I : (Nat → Nat → Int32)) (L : (Nat → Nat → Int64)) (i1 : Int32) (i2 : Int32) (i3 : Int32) (a0 : Nat) : Pc (g_36 n dp e 0 I L i1 i2 i3 a0) (F2 (WI_36 a0) WL_36 I L) := (fa_36 n dp e I L i1 i2 i3 a0).1
theorem f_36_1 (n dp : Nat) (e : EN) (I : (Nat → Nat → Int32)) (L : (Nat → Nat → Int64)) (i1 : Int32) (i2 : Int32) (i3 : Int32) (a0 : Nat) : Pc (g_36 n dp e 1 I L i1 i2 i3 a0) (F2 (WI_36 a0) WL_36 I L) := (fa_36 n dp e I L i1 i2 i3 a0).2
def WI_35 (e : EN) (a0 : Nat) : List (Nat × Nat) := [(a0, 11), (a0, 12), (a0, 13), (((e.2.2 a0 7).getD 0), 0)]
def WL_35 : List (Nat × Nat) := []
set_option maxHeartbeats 8000000 in
set_option maxRecDepth 100000 in
theorem fa_35 : ∀ (n dp : Nat) (e : EN) (I : (Nat → Nat → Int32)) (L : (Nat → Nat → Int64)) (a0 : Nat), Pc (g_35 n dp e 0 I L a0) (F2 (WI_35 e a0) WL_35 I L) := by
  intro n
  induction n with
  | zero => intro dp e I L a0; exact Pc_none
  | succ n ih =>
    intro dp e I L a0
    · rw [e_35_0]
      repeat' first
        | with_reducible exact Pc_none
        | with_reducible exact Pc_s2
        | with_reducible refine Pc_ite ?_ ?_
        | ((with_reducible refine Pc_c22 (f_36_0 _ _ _ _ _ _ _ _ _) ?_ ?_ (fun _ _ => ?_)); exact (sbs_cons (mem_at 3 rfl) (sbs_nil)); exact sbs_of rfl; dsimp only)
        | ((with_reducible refine Pc_u2 ?_ (fun _ => ?_)); exact (by first | exact rfl | exact fw_as 0 rfl | exact fw_as 1 rfl | exact fw_as 2 rfl | exact fw_at 3 rfl))
        | with_reducible refine Pc_bR ?_
        | with_reducible refine Pc_st (fun _ => ?_)
theorem f_35_0 (n dp : Nat) (e : EN) (I : (Nat → Nat → Int32)) (L : (Nat → Nat → Int64)) (a0 : Nat) : Pc (g_35 n dp e 0 I L a0) (F2 (WI_35 e a0) WL_35 I L) := (fa_35 n dp e I L a0)
def WI_38 : List (Nat × Nat) := []
def WL_38 : List (Nat × Nat) := []
set_option maxHeartbeats 8000000 in
set_option maxRecDepth 100000 in
theorem fa_38 : ∀ (n dp : Nat) (e : EN) (I : (Nat → Nat → Int32)) (L : (Nat → Nat → Int64)) (i0 : Int32), Pc (g_38 n dp e 0 I L i0) (F3 WI_38 WL_38 I L) := by
  intro n
  induction n with
  | zero => intro dp e I L i0; exact Pc_none
  | succ n ih =>
    intro dp e I L i0
    · rw [e_38_0]
      repeat' first
        | with_reducible exact Pc_none
        | with_reducible exact Pc_s3
        | with_reducible refine Pc_ite ?_ ?_
theorem f_38_0 (n dp : Nat) (e : EN) (I : (Nat → Nat → Int32)) (L : (Nat → Nat → Int64)) (i0 : Int32) : Pc (g_38 n dp e 0 I L i0) (F3 WI_38 WL_38 I L) := (fa_38 n dp e I L i0)
def WI_39 : List (Nat × Nat) := []
def WL_39 : List (Nat × Nat) := []
set_option maxHeartbeats 8000000 in
set_option maxRecDepth 100000 in
theorem fa_39 : ∀ (n dp : Nat) (e : EN) (I : (Nat → Nat → Int32)) (L : (Nat → Nat → Int64)) (i0 : Int32), Pc (g_39 n dp e 0 I L i0) (F3 WI_39 WL_39 I L) := by
  intro n
  induction n with
  | zero => intro dp e I L i0; exact Pc_none
  | succ n ih =>
    intro dp e I L i0
    · rw [e_39_0]
      repeat' first
        | with_reducible exact Pc_none
        | with_reducible exact Pc_s3
        | with_reducible refine Pc_ite ?_ ?_
theorem f_39_0 (n dp : Nat) (e : EN) (I : (Nat → Nat → Int32)) (L : (Nat → Nat → Int64)) (i0 : Int32) : Pc (g_39 n dp e 0 I L i0) (F3 WI_39 WL_39 I L) := (fa_39 n dp e I L i0)
def WI_37 : List (Nat × Nat) := [(104, 0)]
def WL_37 : List (Nat × Nat) := []
set_option maxHeartbeats 8000000 in
set_option maxRecDepth 100000 in
theorem fa_37 : ∀ (n dp : Nat) (e : EN) (I : (Nat → Nat → Int32)) (L : (Nat → Nat → Int64)) (i1 : Int32), Pc (g_37 n dp e 0 I L i1) (F2 WI_37 WL_37 I L) ∧
    Pc (g_37 n dp e 1 I L i1) (F2 WI_37 WL_37 I L) ∧
    Pc (g_37 n dp e 2 I L i1) (F2 WI_37 WL_37 I L) ∧
    Pc (g_37 n dp e 3 I L i1) (F2 WI_37 WL_37 I L) ∧
    Pc (g_37 n dp e 4 I L i1) (F2 WI_37 WL_37 I L) := by
  intro n
  induction n with
  | zero => intro dp e I L i1; exact ⟨Pc_none, Pc_none, Pc_none, Pc_none, Pc_none⟩
  | succ n ih =>
    intro dp e I L i1
    refine ⟨?_, ?_, ?_, ?_, ?_⟩
    · rw [e_37_0]
      repeat' first
        | with_reducible exact Pc_none
        | with_reducible exact Pc_s2
        | with_reducible exact (ih _ _ _ _ _).2.1
    · rw [e_37_1]
      repeat' first
        | with_reducible exact Pc_none
        | with_reducible exact Pc_s2
        | with_reducible refine Pc_ite ?_ ?_
        | with_reducible exact (ih _ _ _ _ _).2.2.1
        | with_reducible exact (ih _ _ _ _ _).2.1
    · rw [e_37_2]
      repeat' first
        | with_reducible exact Pc_none
        | with_reducible exact Pc_s2
        | with_reducible refine Pc_ite ?_ ?_
        | ((with_reducible refine Pc_c32 (f_38_0 _ _ _ _ _ _) ?_ ?_ (fun _ _ _ => ?_)); exact (sbs_of rfl); exact sbs_of rfl; dsimp only)
        | ((with_reducible refine Pc_c32 (f_39_0 _ _ _ _ _ _) ?_ ?_ (fun _ _ _ => ?_)); exact (sbs_of rfl); exact sbs_of rfl; dsimp only)
        | with_reducible exact (ih _ _ _ _ _).2.2.2.2
        | with_reducible exact (ih _ _ _ _ _).2.2.2.1
        | ((with_reducible refine Pc_u2 ?_ (fun _ => ?_)); exact rfl)
        | with_reducible refine Pc_st (fun _ => ?_)
    · rw [e_37_3]
      repeat' first
        | with_reducible exact Pc_none
        | with_reducible exact Pc_s2
        | with_reducible refine Pc_ite ?_ ?_
        | ((with_reducible refine Pc_c32 (f_38_0 _ _ _ _ _ _) ?_ ?_ (fun _ _ _ => ?_)); exact (sbs_of rfl); exact sbs_of rfl; dsimp only)
        | with_reducible exact (ih _ _ _ _ _).2.2.2.1
        | ((with_reducible refine Pc_u2 ?_ (fun _ => ?_)); exact rfl)
        | with_reducible refine Pc_st (fun _ => ?_)
    · rw [e_37_4]
      repeat' first
        | with_reducible exact Pc_none
        | with_reducible exact Pc_s2
        | with_reducible refine Pc_ite ?_ ?_
        | ((with_reducible refine Pc_c32 (f_39_0 _ _ _ _ _ _) ?_ ?_ (fun _ _ _ => ?_)); exact (sbs_of rfl); exact sbs_of rfl; dsimp only)
        | with_reducible exact (ih _ _ _ _ _).2.2.2.2
        | ((with_reducible refine Pc_u2 ?_ (fun _ => ?_)); exact rfl)
        | with_reducible refine Pc_st (fun _ => ?_)
theorem f_37_0 (n dp : Nat) (e : EN) (I : (Nat → Nat → Int32)) (L : (Nat → Nat → Int64)) (i1 : Int32) : Pc (g_37 n dp e 0 I L i1) (F2 WI_37 WL_37 I L) := (fa_37 n dp e I L i1).1
theorem f_37_1 (n dp : Nat) (e : EN) (I : (Nat → Nat → Int32)) (L : (Nat → Nat → Int64)) (i1 : Int32) : Pc (g_37 n dp e 1 I L i1) (F2 WI_37 WL_37 I L) := (fa_37 n dp e I L i1).2.1
theorem f_37_2 (n dp : Nat) (e : EN) (I : (Nat → Nat → Int32)) (L : (Nat → Nat → Int64)) (i1 : Int32) : Pc (g_37 n dp e 2 I L i1) (F2 WI_37 WL_37 I L) := (fa_37 n dp e I L i1).2.2.1
theorem f_37_3 (n dp : Nat) (e : EN) (I : (Nat → Nat → Int32)) (L : (Nat → Nat → Int64)) (i1 : Int32) : Pc (g_37 n dp e 3 I L i1) (F2 WI_37 WL_37 I L) := (fa_37 n dp e I L i1).2.2.2.1
theorem f_37_4 (n dp : Nat) (e : EN) (I : (Nat → Nat → Int32)) (L : (Nat → Nat → Int64)) (i1 : Int32) : Pc (g_37 n dp e 4 I L i1) (F2 WI_37 WL_37 I L) := (fa_37 n dp e I L i1).2.2.2.2
def WI_41 : List (Nat × Nat) := []
def WL_41 : List (Nat × Nat) := []
set_option maxHeartbeats 8000000 in
set_option maxRecDepth 100000 in
theorem fa_41 : ∀ (n dp : Nat) (e : EN) (I : (Nat → Nat → Int32)) (L : (Nat → Nat → Int64)) (i2 : Int32) (s1 : Nat), Pc (g_41 n dp e 0 I L i2 s1) (F3 WI_41 WL_41 I L) ∧
    Pc (g_41 n dp e 1 I L i2 s1) (F3 WI_41 WL_41 I L) := by
  intro n
  induction n with
  | zero => intro dp e I L i2 s1; exact ⟨Pc_none, Pc_none⟩
  | succ n ih =>
    intro dp e I L i2 s1
    refine ⟨?_, ?_⟩
    · rw [e_41_0]
      repeat' first
        | with_reducible exact Pc_none
        | with_reducible exact Pc_s3
        | with_reducible refine Pc_ite ?_ ?_
        | with_reducible exact (ih _ _ _ _ _ _).2
    · rw [e_41_1]
      repeat' first
        | with_reducible exact Pc_none
        | with_reducible exact Pc_s3
        | with_reducible refine Pc_ite ?_ ?_
        | with_reducible exact (ih _ _ _ _ _ _).2
theorem f_41_0 (n dp : Nat) (e : EN) (I : (Nat → Nat → Int32)) (L : (Nat → Nat → Int64)) (i2 : Int32) (s1 : Nat) : Pc (g_41 n dp e 0 I L i2 s1) (F3 WI_41 WL_41 I L) := (fa_41 n dp e I L i2 s1).1
theorem f_41_1 (n dp : Nat) (e : EN) (I : (Nat → Nat → Int32)) (L : (Nat → Nat → Int64)) (i2 : Int32) (s1 : Nat) : Pc (g_41 n dp e 1 I L i2 s1) (F3 WI_41 WL_41 I L) := (fa_41 n dp e I L i2 s1).2
def WI_54 : List (Nat × Nat) := []
def WL_54 : List (Nat × Nat) := []
set_option maxHeartbeats 8000000 in
set_option maxRecDepth 100000 in
theorem fa_54 : ∀ (n dp : Nat) (e : EN) (I : (Nat → Nat → Int32)) (L : (Nat → Nat → Int64)) (i1 : Int32) (i2 : Int32), Pc (g_54 n dp e 0 I L i1 i2) (F3 WI_54 WL_54 I L) := by
  intro n
  induction n with
  | zero => intro dp e I L i1 i2; exact Pc_none
  | succ n ih =>
    intro dp e I L i1 i2
    · rw [e_54_0]
      repeat' first
        | with_reducible exact Pc_none
        | with_reducible exact Pc_s3
        | with_reducible refine Pc_ite ?_ ?_
theorem f_54_0 (n dp : Nat) (e : EN) (I : (Nat → Nat → Int32)) (L : (Nat → Nat → Int64)) (i1 : Int32) (i2 : Int32) : Pc (g_54 n dp e 0 I L i1 i2) (F3 WI_54 WL_54 I L) := (fa_54 n dp e I L i1 i2)
def WI_55 (e : EN) : List (Nat × Nat) := [(((e.2.2 ((e.2.2 104 1).getD 0) 7).getD 0), 0), (104, 0)]
def WL_55 : List (Nat × Nat) := []
set_option maxHeartbeats 8000000 in
set_option maxRecDepth 100000 in
theorem fa_55 : ∀ (n dp : Nat) (e : EN) (I : (Nat → Nat → Int32)) (L : (Nat → Nat → Int64)) (i1 : Int32), Pc (g_55 n dp e 0 I L i1) (F3 (WI_55 e) WL_55 I L) := by
  intro n
  induction n with
  | zero => intro dp e I L i1; exact Pc_none
  | succ n ih =>
    intro dp e I L i1
    · rw [e_55_0]
      repeat' first
        | with_reducible exact Pc_none
        | with_reducible exact Pc_s3
        | with_reducible refine Pc_ite ?_ ?_
        | ((with_reducible refine Pc_c23 (f_37_0 _ _ _ _ _ _) ?_ ?_ (fun _ _ => ?_)); exact (sbs_cons (mem_at 1 rfl) (sbs_nil)); exact sbs_of rfl; dsimp only)
        | ((with_reducible refine Pc_c33 (f_54_0 _ _ _ _ _ _ _) ?_ ?_ (fun _ _ _ => ?_)); exact (sbs_nil); exact sbs_of rfl; dsimp only)
        | ((with_reducible refine Pc_u3 ?_ (fun _ => ?_)); exact (by first | exact rfl | exact fw_at 0 rfl | exact fw_at 1 rfl))
        | with_reducible refine Pc_bR ?_
        | with_reducible refine Pc_st (fun _ => ?_)
theorem f_55_0 (n dp : Nat) (e : EN) (I : (Nat → Nat → Int32)) (L : (Nat → Nat → Int64)) (i1 : Int32) : Pc (g_55 n dp e 0 I L i1) (F3 (WI_55 e) WL_55 I L) := (fa_55 n dp e I L i1)
def WI_53 (e : EN) : List (Nat × Nat) := [(((e.2.2 ((e.2.2 104 1).getD 0) 5).getD 0), 0), (((e.2.2 ((e.2.2 104 1).getD 0) 6).getD 0), 0), (104, 0), (((e.2.2 ((e.2.2 104 1).getD 0) 7).getD 0), 0), (((e.2.2 104 1).getD 0), 12)]
def WL_53 : List (Nat × Nat) := []
set_option maxHeartbeats 8000000 in
set_option maxRecDepth 100000 in
theorem fa_53 : ∀ (n dp : Nat) (e : EN) (I : (Nat → Nat → Int32)) (L : (Nat → Nat → Int64)) (i1 : Int32) (i2 : Int32) (i3 : Int32), Pc (g_53 n dp e 0 I L i1 i2 i3) (F3 (WI_53 e) WL_53 I L) ∧
    Pc (g_53 n dp e 1 I L i1 i2 i3) (F3 (WI_53 e) WL_53 I L) ∧
    Pc (g_53 n dp e 2 I L i1 i2 i3) (F3 (WI_53 e) WL_53 I L) := by
  intro n
  induction n with
  | zero => intro dp e I L i1 i2 i3; exact ⟨Pc_none, Pc_none, Pc_none⟩
  | succ n ih =>
    intro dp e I L i1 i2 i3
    refine ⟨?_, ?_, ?_⟩
    · rw [e_53_0]
      repeat' first
        | with_reducible exact Pc_none
        | with_reducible exact Pc_s3
        | with_reducible refine Pc_ite ?_ ?_
        | ((with_reducible refine Pc_c23 (f_37_0 _ _ _ _ _ _) ?_ ?_ (fun _ _ => ?_)); exact (sbs_cons (mem_at 2 rfl) (sbs_nil)); exact sbs_of rfl; dsimp only)
        | ((with_reducible refine Pc_c33 (f_54_0 _ _ _ _ _ _ _) ?_ ?_ (fun _ _ _ => ?_)); exact (sbs_nil); exact sbs_of rfl; dsimp only)
        | ((with_reducible refine Pc_c33 (f_41_0 _ _ _ _ _ _ _) ?_ ?_ (fun _ _ _ => ?_)); exact (sbs_nil); exact sbs_of rfl; dsimp only)
        | ((with_reducible refine Pc_c33 (f_55_0 _ _ _ _ _ _) ?_ ?_ (fun _ _ _ => ?_)); exact (sbs_cons (mem_at 3 rfl) (sbs_cons (mem_at 2 rfl) (sbs_nil))); exact sbs_of rfl; dsimp only)
        | with_reducible exact (ih _ _ _ _ _ _ _).2.1
        | ((with_reducible refine Pc_u3 ?_ (fun _ => ?_)); exact (by first | exact rfl | exact fw_at 0 rfl | exact fw_at 1 rfl | exact fw_at 2 rfl | exact fw_at 3 rfl | exact fw_as 4 rfl))
        | with_reducible refine Pc_bR ?_
        | with_reducible refine Pc_st (fun _ => ?_)
    · rw [e_53_1]
      repeat' first
        | with_reducible exact Pc_none
        | with_reducible exact Pc_s3
        | with_reducible refine Pc_ite ?_ ?_
        | with_reducible exact (ih _ _ _ _ _ _ _).2.2
        | ((with_reducible refine Pc_c33 (f_41_0 _ _ _ _ _ _ _) ?_ ?_ (fun _ _ _ => ?_)); exact (sbs_nil); exact sbs_of rfl; dsimp only)
        | ((with_reducible refine Pc_c33 (f_55_0 _ _ _ _ _ _) ?_ ?_ (fun _ _ _ => ?_)); exact (sbs_cons (mem_at 3 rfl) (sbs_cons (mem_at 2 rfl) (sbs_nil))); exact sbs_of rfl; dsimp only)
        | with_reducible exact (ih _ _ _ _ _ _ _).2.1
    · rw [e_53_2]
      repeat' first
        | with_reducible exact Pc_none
        | with_reducible exact Pc_s3
        | with_reducible refine Pc_ite ?_ ?_
        | ((with_reducible refine Pc_u3 ?_ (fun _ => ?_)); exact (by first | exact rfl | exact fw_at 0 rfl | exact fw_at 1 rfl | exact fw_at 2 rfl | exact fw_at 3 rfl | exact fw_as 4 rfl))
        | with_reducible refine Pc_bR ?_
        | with_reducible refine Pc_st (fun _ => ?_)
theorem f_53_0 (n dp : Nat) (e : EN) (I : (Nat → Nat → Int32)) (L : (Nat → Nat → Int64)) (i1 : Int32) (i2 : Int32) (i3 : Int32) : Pc (g_53 n dp e 0 I L i1 i2 i3) (F3 (WI_53 e) WL_53 I L) := (fa_53 n dp e I L i1 i2 i3).1
theorem f_53_1 (n dp : Nat) (e : EN) (I : (Nat → Nat → Int32)) (L : (Nat → Nat → Int64)) (i1 : Int32) (i2 : Int32) (i3 : Int32) : Pc (g_53 n dp e 1 I L i1 i2 i3) (F3 (WI_53 e) WL_53 I L) := (fa_53 n dp e I L i1 i2 i3).2.1
theorem f_53_2 (n dp : Nat) (e : EN) (I : (Nat → Nat → Int32)) (L : (Nat → Nat → Int64)) (i1 : Int32) (i2 : Int32) (i3 : Int32) : Pc (g_53 n dp e 2 I L i1 i2 i3) (F3 (WI_53 e) WL_53 I L) := (fa_53 n dp e I L i1 i2 i3).2.2
def WI_59 : List (Nat × Nat) := []
def WL_59 : List (Nat × Nat) := []
set_option maxHeartbeats 8000000 in
set_option maxRecDepth 100000 in
theorem fa_59 : ∀ (n dp : Nat) (e : EN) (I : (Nat → Nat → Int32)) (L : (Nat → Nat → Int64)) (i1 : Int32), Pc (g_59 n dp e 0 I L i1) (F3 WI_59 WL_59 I L) := by
  intro n
  induction n with
  | zero => intro dp e I L i1; exact Pc_none
  | succ n ih =>
    intro dp e I L i1
    · rw [e_59_0]
      repeat' first
        | with_reducible exact Pc_none
        | with_reducible exact Pc_s3
        | with_reducible refine Pc_ite ?_ ?_
theorem f_59_0 (n dp : Nat) (e : EN) (I : (Nat → Nat → Int32)) (L : (Nat → Nat → Int64)) (i1 : Int32) : Pc (g_59 n dp e 0 I L i1) (F3 WI_59 WL_59 I L) := (fa_59 n dp e I L i1)
def WI_61 (e : EN) (a0 : Nat) : List (Nat × Nat) := [(((e.2.2 a0 8).getD 0), 0), (((e.2.2 a0 9).getD 0), 0), (a0, 13)]
def WL_61 : List (Nat × Nat) := []
set_option maxHeartbeats 8000000 in
set_option maxRecDepth 100000 in
theorem fa_61 : ∀ (n dp : Nat) (e : EN) (I : (Nat → Nat → Int32)) (L : (Nat → Nat → Int64)) (i1 : Int32) (i2 : Int32) (a0 : Nat), Pc (g_61 n dp e 0 I L i1 i2 a0) (F3 (WI_61 e a0) WL_61 I L) := by
  intro n
  induction n with
  | zero => intro dp e I L i1 i2 a0; exact Pc_none
  | succ n ih =>
    intro dp e I L i1 i2 a0
    · rw [e_61_0]
      repeat' first
        | with_reducible exact Pc_none
        | with_reducible exact Pc_s3
        | with_reducible refine Pc_ite ?_ ?_
        | ((with_reducible refine Pc_u3 ?_ (fun _ => ?_)); exact (by first | exact rfl | exact fw_at 0 rfl | exact fw_at 1 rfl | exact fw_as 2 rfl))
        | with_reducible refine Pc_bR ?_
        | with_reducible refine Pc_st (fun _ => ?_)
theorem f_61_0 (n dp : Nat) (e : EN) (I : (Nat → Nat → Int32)) (L : (Nat → Nat → Int64)) (i1 : Int32) (i2 : Int32) (a0 : Nat) : Pc (g_61 n dp e 0 I L i1 i2 a0) (F3 (WI_61 e a0) WL_61 I L) := (fa_61 n dp e I L i1 i2 a0)
def WI_56 (e : EN) : List (Nat × Nat) := [(104, 0), (((e.2.2 ((e.2.2 104 1).getD 0) 8).getD 0), 0), (((e.2.2 ((e.2.2 104 1).getD 0) 9).getD 0), 0), (((e.2.2 104 1).getD 0), 13)]
def WL_56 : List (Nat × Nat) := []
set_option maxHeartbeats 8000000 in
set_option maxRecDepth 100000 in
theorem fa_56 : ∀ (n dp : Nat) (e : EN) (I : (Nat → Nat → Int32)) (L : (Nat → Nat → Int64)) (i1 : Int32) (i2 : Int32), Pc (g_56 n dp e 0 I L i1 i2) (F3 (WI_56 e) WL_56 I L) ∧
    Pc (g_56 n dp e 1 I L i1 i2) (F3 (WI_56 e) WL_56 I L) ∧
    Pc (g_56 n dp e 2 I L i1 i2) (F3 (WI_56 e) WL_56 I L) ∧
    Pc (g_56 n dp e 3 I L i1 i2) (F3 (WI_56 e) WL_56 I L) ∧
    Pc (g_56 n dp e 4 I L i1 i2) (F3 (WI_56 e) WL_56 I L) ∧
    Pc (g_56 n dp e 5 I L i1 i2) (F3 (WI_56 e) WL_56 I L) ∧
    Pc (g_56 n dp e 6 I L i1 i2) (F3 (WI_56 e) WL_56 I L) ∧
    Pc (g_56 n dp e 7 I L i1 i2) (F3 (WI_56 e) WL_56 I L) ∧
    Pc (g_56 n dp e 8 I L i1 i2) (F3 (WI_56 e) WL_56 I L) := by
  intro n
  induction n with
  | zero => intro dp e I L i1 i2; exact ⟨Pc_none, Pc_none, Pc_none, Pc_none, Pc_none, Pc_none, Pc_none, Pc_none, Pc_none⟩
  | succ n ih =>
    intro dp e I L i1 i2
    refine ⟨?_, ?_, ?_, ?_, ?_, ?_, ?_, ?_, ?_⟩
    · rw [e_56_0]
      repeat' first
        | with_reducible exact Pc_none
        | with_reducible exact Pc_s3
        | with_reducible refine Pc_ite ?_ ?_
        | with_reducible exact (ih _ _ _ _ _ _).2.2.2.1
        | ((with_reducible refine Pc_c33 (ih _ _ _ _ _ _).2.2.2.1 ?_ ?_ (fun _ _ _ => ?_)); exact (fun _ h => h); exact (fun _ h => h); dsimp only)
        | with_reducible exact (ih _ _ _ _ _ _).2.1
    · rw [e_56_1]
      repeat' first
        | with_reducible exact Pc_none
        | with_reducible exact Pc_s3
        | with_reducible refine Pc_ite ?_ ?_
        | ((with_reducible refine Pc_c33 (f_59_0 _ _ _ _ _ _) ?_ ?_ (fun _ _ _ => ?_)); exact (sbs_nil); exact sbs_of rfl; dsimp only)
        | with_reducible exact (ih _ _ _ _ _ _).2.2.1
    · rw [e_56_2]
      repeat' first
        | with_reducible exact Pc_none
        | with_reducible exact Pc_s3
        | with_reducible refine Pc_ite ?_ ?_
        | ((with_reducible refine Pc_c33 (f_59_0 _ _ _ _ _ _) ?_ ?_ (fun _ _ _ => ?_)); exact (sbs_nil); exact sbs_of rfl; dsimp only)
        | ((with_reducible refine Pc_c23 (f_37_0 _ _ _ _ _ _) ?_ ?_ (fun _ _ => ?_)); exact (sbs_cons (mem_at 0 rfl) (sbs_nil)); exact sbs_of rfl; dsimp only)
        | with_reducible exact (ih _ _ _ _ _ _).2.2.2.1
        | ((with_reducible refine Pc_c33 (ih _ _ _ _ _ _).2.2.2.1 ?_ ?_ (fun _ _ _ => ?_)); exact (fun _ h => h); exact (fun _ h => h); dsimp only)
        | ((with_reducible refine Pc_c33 (f_61_0 _ _ _ _ _ _ _ _) ?_ ?_ (fun _ _ _ => ?_)); exact (sbs_cons (mem_at 1 rfl) (sbs_cons (mem_at 2 rfl) (sbs_cons (mem_at 3 rfl) (sbs_nil)))); exact sbs_of rfl; dsimp only)
        | with_reducible exact (ih _ _ _ _ _ _).2.1
        | with_reducible refine Pc_bR ?_
    · rw [e_56_3]
      repeat' first
        | with_reducible exact Pc_none
        | with_reducible exact Pc_s3
        | with_reducible refine Pc_ite ?_ ?_
        | with_reducible exact (ih _ _ _ _ _ _).2.2.2.2.2.2.1
        | ((with_reducible refine Pc_c33 (ih _ _ _ _ _ _).2.2.2.2.2.2.1 ?_ ?_ (fun _ _ _ => ?_)); exact (fun _ h => h); exact (fun _ h => h); dsimp only)
        | with_reducible exact (ih _ _ _ _ _ _).2.2.2.2.1
    · rw [e_56_4]
      repeat' first
        | with_reducible exact Pc_none
        | with_reducible exact Pc_s3
        | with_reducible refine Pc_ite ?_ ?_
        | ((with_reducible refine Pc_c33 (f_59_0 _ _ _ _ _ _) ?_ ?_ (fun _ _ _ => ?_)); exact (sbs_nil); exact sbs_of rfl; dsimp only)
        | with_reducible exact (ih _ _ _ _ _ _).2.2.2.2.2.1
    · rw [e_56_5]
      repeat' first
        | with_reducible exact Pc_none
        | with_reducible exact Pc_s3
        | with_reducible refine Pc_ite ?_ ?_
        | ((with_reducible refine Pc_c33 (f_59_0 _ _ _ _ _ _) ?_ ?_ (fun _ _ _ => ?_)); exact (sbs_nil); exact sbs_of rfl; dsimp only)
        | ((with_reducible refine Pc_c23 (f_37_0 _ _ _ _ _ _) ?_ ?_ (fun _ _ => ?_)); exact (sbs_cons (mem_at 0 rfl) (sbs_nil)); exact sbs_of rfl; dsimp only)
        | with_reducible exact (ih _ _ _ _ _ _).2.2.2.2.2.2.1
        | ((with_reducible refine Pc_c33 (ih _ _ _ _ _ _).2.2.2.2.2.2.1 ?_ ?_ (fun _ _ _ => ?_)); exact (fun _ h => h); exact (fun _ h => h); dsimp only)
        | ((with_reducible refine Pc_c33 (f_61_0 _ _ _ _ _ _ _ _) ?_ ?_ (fun _ _ _ => ?_)); exact (sbs_cons (mem_at 1 rfl) (sbs_cons (mem_at 2 rfl) (sbs_cons (mem_at 3 rfl) (sbs_nil)))); exact sbs_of rfl; dsimp only)
        | with_reducible exact (ih _ _ _ _ _ _).2.2.2.2.1
        | with_reducible refine Pc_bR ?_
    · rw [e_56_6]
      repeat' first
        | with_reducible exact Pc_none
        | with_reducible exact Pc_s3
        | with_reducible refine Pc_ite ?_ ?_
        | ((with_reducible refine Pc_c33 (f_59_0 _ _ _ _ _ _) ?_ ?_ (fun _ _ _ => ?_)); exact (sbs_nil); exact sbs_of rfl; dsimp only)
        | ((with_reducible refine Pc_c33 (f_54_0 _ _ _ _ _ _ _) ?_ ?_ (fun _ _ _ => ?_)); exact (sbs_nil); exact sbs_of rfl; dsimp only)
        | ((with_reducible refine Pc_c33 (f_41_0 _ _ _ _ _ _ _) ?_ ?_ (fun _ _ _ => ?_)); exact (sbs_nil); exact sbs_of rfl; dsimp only)
        | ((with_reducible refine Pc_c33 (f_61_0 _ _ _ _ _ _ _ _) ?_ ?_ (fun _ _ _ => ?_)); exact (sbs_cons (mem_at 1 rfl) (sbs_cons (mem_at 2 rfl) (sbs_cons (mem_at 3 rfl) (sbs_nil)))); exact sbs_of rfl; dsimp only)
        | with_reducible exact (ih _ _ _ _ _ _).2.2.2.2.2.2.2.1
        | with_reducible exact (ih _ _ _ _ _ _).2.2.2.2.2.2.2.2
        | ((with_reducible refine Pc_c33 (ih _ _ _ _ _ _).2.2.2.2.2.2.2.2 ?_ ?_ (fun _ _ _ => ?_)); exact (fun _ h => h); exact (fun _ h => h); dsimp only)
        | with_reducible refine Pc_bR ?_
    · rw [e_56_7]
      repeat' first
        | with_reducible exact Pc_none
        | with_reducible exact Pc_s3
        | with_reducible refine Pc_ite ?_ ?_
        | ((with_reducible refine Pc_c23 (f_37_0 _ _ _ _ _ _) ?_ ?_ (fun _ _ => ?_)); exact (sbs_cons (mem_at 0 rfl) (sbs_nil)); exact sbs_of rfl; dsimp only)
        | ((with_reducible refine Pc_u3 ?_ (fun _ => ?_)); exact (by first | exact rfl | exact fw_at 0 rfl | exact fw_at 1 rfl | exact fw_at 2 rfl | exact fw_as 3 rfl))
        | with_reducible refine Pc_st (fun _ => ?_)
    · rw [e_56_8]
      repeat' first
        | with_reducible exact Pc_none
        | with_reducible exact Pc_s3
        | with_reducible refine Pc_ite ?_ ?_
        | ((with_reducible refine Pc_c23 (f_37_0 _ _ _ _ _ _) ?_ ?_ (fun _ _ => ?_)); exact (sbs_cons (mem_at 0 rfl) (sbs_nil)); exact sbs_of rfl; dsimp only)
        | with_reducible exact (ih _ _ _ _ _ _).1
        | ((with_reducible refine Pc_c33 (ih _ _ _ _ _ _).1 ?_ ?_ (fun _ _ _ => ?_)); exact (fun _ h => h); exact (fun _ h => h); dsimp only)
        | ((with_reducible refine Pc_c33 (f_59_0 _ _ _ _ _ _) ?_ ?_ (fun _ _ _ => ?_)); exact (sbs_nil); exact sbs_of rfl; dsimp only)
theorem f_56_0 (n dp : Nat) (e : EN) (I : (Nat → Nat → Int32)) (L : (Nat → Nat → Int64)) (i1 : Int32) (i2 : Int32) : Pc (g_56 n dp e 0 I L i1 i2) (F3 (WI_56 e) WL_56 I L) := (fa_56 n dp e I L i1 i2).1
theorem f_56_1 (n dp : Nat) (e : EN) (I : (Nat → Nat → Int32)) (L : (Nat → Nat → Int64)) (i1 : Int32) (i2 : Int32) : Pc (g_56 n dp e 1 I L i1 i2) (F3 (WI_56 e) WL_56 I L) := (fa_56 n dp e I L i1 i2).2.1
theorem f_56_2 (n dp : Nat) (e : EN) (I : (Nat → Nat → Int32)) (L : (Nat → Nat → Int64)) (i1 : Int32) (i2 : Int32) : Pc (g_56 n dp e 2 I L i1 i2) (F3 (WI_56 e) WL_56 I L) := (fa_56 n dp e I L i1 i2).2.2.1
theorem f_56_3 (n dp : Nat) (e : EN) (I : (Nat → Nat → Int32)) (L : (Nat → Nat → Int64)) (i1 : Int32) (i2 : Int32) : Pc (g_56 n dp e 3 I L i1 i2) (F3 (WI_56 e) WL_56 I L) := (fa_56 n dp e I L i1 i2).2.2.2.1
theorem f_56_4 (n dp : Nat) (e : EN) (I : (Nat → Nat → Int32)) (L : (Nat → Nat → Int64)) (i1 : Int32) (i2 : Int32) : Pc (g_56 n dp e 4 I L i1 i2) (F3 (WI_56 e) WL_56 I L) := (fa_56 n dp e I L i1 i2).2.2.2.2.1
theorem f_56_5 (n dp : Nat) (e : EN) (I : (Nat → Nat → Int32)) (L : (Nat → Nat → Int64)) (i1 : Int32) (i2 : Int32) : Pc (g_56 n dp e 5 I L i1 i2) (F3 (WI_56 e) WL_56 I L) := (fa_56 n dp e I L i1 i2).2.2.2.2.2.1
theorem f_56_6 (n dp : Nat) (e : EN) (I : (Nat → Nat → Int32)) (L : (Nat → Nat → Int64)) (i1 : Int32) (i2 : Int32) : Pc (g_56 n dp e 6 I L i1 i2) (F3 (WI_56 e) WL_56 I L) := (fa_56 n dp e I L i1 i2).2.2.2.2.2.2.1
theorem f_56_7 (n dp : Nat) (e : EN) (I : (Nat → Nat → Int32)) (L : (Nat → Nat → Int64)) (i1 : Int32) (i2 : Int32) : Pc (g_56 n dp e 7 I L i1 i2) (F3 (WI_56 e) WL_56 I L) := (fa_56 n dp e I L i1 i2).2.2.2.2.2.2.2.1
theorem f_56_8 (n dp : Nat) (e : EN) (I : (Nat → Nat → Int32)) (L : (Nat → Nat → Int64)) (i1 : Int32) (i2 : Int32) : Pc (g_56 n dp e 8 I L i1 i2) (F3 (WI_56 e) WL_56 I L) := (fa_56 n dp e I L i1 i2).2.2.2.2.2.2.2.2
def WI_66 (e : EN) : List (Nat × Nat) := [(104, 0), (((e.2.2 ((e.2.2 104 1).getD 0) 8).getD 0), 0), (((e.2.2 ((e.2.2 104 1).getD 0) 9).getD 0), 0), (((e.2.2 104 1).getD 0), 13)]
def WL_66 : List (Nat × Nat) := []
set_option maxHeartbeats 8000000 in
set_option maxRecDepth 100000 in
theorem fa_66 : ∀ (n dp : Nat) (e : EN) (I : (Nat → Nat → Int32)) (L : (Nat → Nat → Int64)) (i1 : Int32) (i2 : Int32), Pc (g_66 n dp e 0 I L i1 i2) (F3 (WI_66 e) WL_66 I L) ∧
    Pc (g_66 n dp e 1 I L i1 i2) (F3 (WI_66 e) WL_66 I L) := by
  intro n
  induction n with
  | zero => intro dp e I L i1 i2; exact ⟨Pc_none, Pc_none⟩
  | succ n ih =>
    intro dp e I L i1 i2
    refine ⟨?_, ?_⟩
    · rw [e_66_0]
      repeat' first
        | with_reducible exact Pc_none
        | with_reducible exact Pc_s3
        | with_reducible refine Pc_ite ?_ ?_
        | ((with_reducible refine Pc_c33 (f_56_0 _ _ _ _ _ _ _) ?_ ?_ (fun _ _ _ => ?_)); exact (sbs_cons (mem_at 0 rfl) (sbs_cons (mem_at 1 rfl) (sbs_cons (mem_at 2 rfl) (sbs_cons (mem_at 3 rfl) (sbs_nil))))); exact sbs_of rfl; dsimp only)
        | ((with_reducible refine Pc_c33 (f_59_0 _ _ _ _ _ _) ?_ ?_ (fun _ _ _ => ?_)); exact (sbs_nil); exact sbs_of rfl; dsimp only)
        | with_reducible exact (ih _ _ _ _ _ _).2
    · rw [e_66_1]
      repeat' first
        | with_reducible exact Pc_none
        | with_reducible exact Pc_s3
        | with_reducible refine Pc_ite ?_ ?_
        | ((with_reducible refine Pc_c23 (f_37_0 _ _ _ _ _ _) ?_ ?_ (fun _ _ => ?_)); exact (sbs_cons (mem_at 0 rfl) (sbs_nil)); exact sbs_of rfl; dsimp only)
        | ((with_reducible refine Pc_c33 (f_56_0 _ _ _ _ _ _ _) ?_ ?_ (fun _ _ _ => ?_)); exact (sbs_cons (mem_at 0 rfl) (sbs_cons (mem_at 1 rfl) (sbs_cons (mem_at 2 rfl) (sbs_cons (mem_at 3 rfl) (sbs_nil))))); exact sbs_of rfl; dsimp only)
        | ((with_reducible refine Pc_c33 (f_61_0 _ _ _ _ _ _ _ _) ?_ ?_ (fun _ _ _ => ?_)); exact (sbs_cons (mem_at 1 rfl) (sbs_cons (mem_at 2 rfl) (sbs_cons (mem_at 3 rfl) (sbs_nil)))); exact sbs_of rfl; dsimp only)
        | with_reducible refine Pc_bR ?_
theorem f_66_0 (n dp : Nat) (e : EN) (I : (Nat → Nat → Int32)) (L : (Nat → Nat → Int64)) (i1 : Int32) (i2 : Int32) : Pc (g_66 n dp e 0 I L i1 i2) (F3 (WI_66 e) WL_66 I L) := (fa_66 n dp e I L i1 i2).1
theorem f_66_1 (n dp : Nat) (e : EN) (I : (Nat → Nat → Int32)) (L : (Nat → Nat → Int64)) (i1 : Int32) (i2 : Int32) : Pc (g_66 n dp e 1 I L i1 i2) (F3 (WI_66 e) WL_66 I L) := (fa_66 n dp e I L i1 i2).2
def WI_62 (e : EN) : List (Nat × Nat) := [(((e.2.2 ((e.2.2 104 1).getD 0) 9).getD 0), 0), (((e.2.2 ((e.2.2 104 1).getD 0) 8).getD 0), 0), (((e.2.2 104 1).getD 0), 13), (104, 0)]
def WL_62 : List (Nat × Nat) := []
set_option maxHeartbeats 8000000 in
set_option maxRecDepth 100000 in
theorem fa_62 : ∀ (n dp : Nat) (e : EN) (I : (Nat → Nat → Int32)) (L : (Nat → Nat → Int64)) (i1 : Int32) (i2 : Int32) (i3 : Int32), Pc (g_62 n dp e 0 I L i1 i2 i3) (F3 (WI_62 e) WL_62 I L) ∧
    Pc (g_62 n dp e 1 I L i1 i2 i3) (F3 (WI_62 e) WL_62 I L) ∧
    Pc (g_62 n dp e 2 I L i1 i2 i3) (F3 (WI_62 e) WL_62 I L) ∧
    Pc (g_62 n dp e 3 I L i1 i2 i3) (F3 (WI_62 e) WL_62 I L) ∧
    Pc (g_62 n dp e 4 I L i1 i2 i3) (F3 (WI_62 e) WL_62 I L) ∧
    Pc (g_62 n dp e 5 I L i1 i2 i3) (F3 (WI_62 e) WL_62 I L) ∧
    Pc (g_62 n dp e 6 I L i1 i2 i3) (F3 (WI_62 e) WL_62 I L) ∧
    Pc (g_62 n dp e 7 I L i1 i2 i3) (F3 (WI_62 e) WL_62 I L) := by
  intro n
  induction n with
  | zero => intro dp e I L i1 i2 i3; exact ⟨Pc_none, Pc_none, Pc_none, Pc_none, Pc_none, Pc_none, Pc_none, Pc_none⟩
  | succ n ih =>
    intro dp e I L i1 i2 i3
    refine ⟨?_, ?_, ?_, ?_, ?_, ?_, ?_, ?_⟩
    · rw [e_62_0]
      repeat' first
        | with_reducible exact Pc_none
        | with_reducible exact Pc_s3
        | with_reducible refine Pc_ite ?_ ?_
        | with_reducible exact (ih _ _ _ _ _ _ _).2.2.1
        | ((with_reducible refine Pc_c33 (ih _ _ _ _ _ _ _).2.2.1 ?_ ?_ (fun _ _ _ => ?_)); exact (fun _ h => h); exact (fun _ h => h); dsimp only)
        | with_reducible exact (ih _ _ _ _ _ _ _).2.1
    · rw [e_62_1]
      repeat' first
        | with_reducible exact Pc_none
        | with_reducible exact Pc_s3
        | with_reducible refine Pc_ite ?_ ?_
        | ((with_reducible refine Pc_c33 (f_41_0 _ _ _ _ _ _ _) ?_ ?_ (fun _ _ _ => ?_)); exact (sbs_nil); exact sbs_of rfl; dsimp only)
        | ((with_reducible refine Pc_c33 (f_61_0 _ _ _ _ _ _ _ _) ?_ ?_ (fun _ _ _ => ?_)); exact (sbs_cons (mem_at 1 rfl) (sbs_cons (mem_at 0 rfl) (sbs_cons (mem_at 2 rfl) (sbs_nil)))); exact sbs_of rfl; dsimp only)
        | ((with_reducible refine Pc_c23 (f_37_0 _ _ _ _ _ _) ?_ ?_ (fun _ _ => ?_)); exact (sbs_cons (mem_at 3 rfl) (sbs_nil)); exact sbs_of rfl; dsimp only)
        | with_reducible exact (ih _ _ _ _ _ _ _).2.2.1
        | ((with_reducible refine Pc_c33 (ih _ _ _ _ _ _ _).2.2.1 ?_ ?_ (fun _ _ _ => ?_)); exact (fun _ h => h); exact (fun _ h => h); dsimp only)
        | with_reducible exact (ih _ _ _ _ _ _ _).2.1
        | ((with_reducible refine Pc_u3 ?_ (fun _ => ?_)); exact (by first | exact rfl | exact fw_at 0 rfl | exact fw_at 1 rfl | exact fw_as 2 rfl | exact fw_at 3 rfl))
        | with_reducible refine Pc_bR ?_
        | with_reducible refine Pc_st (fun _ => ?_)
    · rw [e_62_2]
      repeat' first
        | with_reducible exact Pc_none
        | with_reducible exact Pc_s3
        | with_reducible refine Pc_ite ?_ ?_
        | with_reducible exact (ih _ _ _ _ _ _ _).2.2.2.2.1
        | ((with_reducible refine Pc_c33 (ih _ _ _ _ _ _ _).2.2.2.2.1 ?_ ?_ (fun _ _ _ => ?_)); exact (fun _ h => h); exact (fun _ h => h); dsimp only)
        | with_reducible exact (ih _ _ _ _ _ _ _).2.2.2.1
    · rw [e_62_3]
      repeat' first
        | with_reducible exact Pc_none
        | with_reducible exact Pc_s3
        | with_reducible refine Pc_ite ?_ ?_
        | ((with_reducible refine Pc_c33 (f_41_0 _ _ _ _ _ _ _) ?_ ?_ (fun _ _ _ => ?_)); exact (sbs_nil); exact sbs_of rfl; dsimp only)
        | ((with_reducible refine Pc_c33 (f_61_0 _ _ _ _ _ _ _ _) ?_ ?_ (fun _ _ _ => ?_)); exact (sbs_cons (mem_at 1 rfl) (sbs_cons (mem_at 0 rfl) (sbs_cons (mem_at 2 rfl) (sbs_nil)))); exact sbs_of rfl; dsimp only)
        | ((with_reducible refine Pc_c23 (f_37_0 _ _ _ _ _ _) ?_ ?_ (fun _ _ => ?_)); exact (sbs_cons (mem_at 3 rfl) (sbs_nil)); exact sbs_of rfl; dsimp only)
        | with_reducible exact (ih _ _ _ _ _ _ _).2.2.2.2.1
        | ((with_reducible refine Pc_c33 (ih _ _ _ _ _ _ _).2.2.2.2.1 ?_ ?_ (fun _ _ _ => ?_)); exact (fun _ h => h); exact (fun _ h => h); dsimp only)
        | with_reducible exact (ih _ _ _ _ _ _ _).2.2.2.1
        | ((with_reducible refine Pc_u3 ?_ (fun _ => ?_)); exact (by first | exact rfl | exact fw_at 0 rfl | exact fw_at 1 rfl | exact fw_as 2 rfl | exact fw_at 3 rfl))
        | with_reducible refine Pc_bR ?_
        | with_reducible refine Pc_st (fun _ => ?_)
    · rw [e_62_4]
      repeat' first
        | with_reducible exact Pc_none
        | with_reducible exact Pc_s3
        | with_reducible exact (ih _ _ _ _ _ _ _).2.2.2.2.2.1
    · rw [e_62_5]
      repeat' first
        | with_reducible exact Pc_none
        | with_reducible exact Pc_s3
        | with_reducible refine Pc_ite ?_ ?_
        | with_reducible exact (ih _ _ _ _ _ _ _).2.2.2.2.2.2.1
        | ((with_reducible refine Pc_c33 (f_41_0 _ _ _ _ _ _ _) ?_ ?_ (fun _ _ _ => ?_)); exact (sbs_nil); exact sbs_of rfl; dsimp only)
        | ((with_reducible refine Pc_c23 (f_37_0 _ _ _ _ _ _) ?_ ?_ (fun _ _ => ?_)); exact (sbs_cons (mem_at 3 rfl) (sbs_nil)); exact sbs_of rfl; dsimp only)
        | with_reducible exact (ih _ _ _ _ _ _ _).2.2.2.2.2.1
    · rw [e_62_6]
      repeat' first
        | with_reducible exact Pc_none
        | with_reducible exact Pc_s3
        | with_reducible refine Pc_ite ?_ ?_
        | ((with_reducible refine Pc_c33 (f_59_0 _ _ _ _ _ _) ?_ ?_ (fun _ _ _ => ?_)); exact (sbs_nil); exact sbs_of rfl; dsimp only)
        | ((with_reducible refine Pc_c33 (f_66_0 _ _ _ _ _ _ _) ?_ ?_ (fun _ _ _ => ?_)); exact (sbs_cons (mem_at 3 rfl) (sbs_cons (mem_at 1 rfl) (sbs_cons (mem_at 0 rfl) (sbs_cons (mem_at 2 rfl) (sbs_nil))))); exact sbs_of rfl; dsimp only)
        | ((with_reducible refine Pc_c33 (f_61_0 _ _ _ _ _ _ _ _) ?_ ?_ (fun _ _ _ => ?_)); exact (sbs_cons (mem_at 1 rfl) (sbs_cons (mem_at 0 rfl) (sbs_cons (mem_at 2 rfl) (sbs_nil)))); exact sbs_of rfl; dsimp only)
        | with_reducible exact (ih _ _ _ _ _ _ _).2.2.2.2.2.2.2
        | ((with_reducible refine Pc_c33 (ih _ _ _ _ _ _ _).2.2.2.2.2.2.2 ?_ ?_ (fun _ _ _ => ?_)); exact (fun _ h => h); exact (fun _ h => h); dsimp only)
        | with_reducible refine Pc_bR ?_
    · rw [e_62_7]
      repeat' first
        | with_reducible exact Pc_none
        | with_reducible exact Pc_s3
        | with_reducible refine Pc_ite ?_ ?_
        | ((with_reducible refine Pc_c23 (f_37_0 _ _ _ _ _ _) ?_ ?_ (fun _ _ => ?_)); exact (sbs_cons (mem_at 3 rfl) (sbs_nil)); exact sbs_of rfl; dsimp only)
        | with_reducible exact (ih _ _ _ _ _ _ _).1
        | ((with_reducible refine Pc_c33 (ih _ _ _ _ _ _ _).1 ?_ ?_ (fun _ _ _ => ?_)); exact (fun _ h => h); exact (fun _ h => h); dsimp only)
        | ((with_reducible refine Pc_c33 (f_59_0 _ _ _ _ _ _) ?_ ?_ (fun _ _ _ => ?_)); exact (sbs_nil); exact sbs_of rfl; dsimp only)
theorem f_62_0 (n dp : Nat) (e : EN) (I : (Nat → Nat → Int32)) (L : (Nat → Nat → Int64)) (i1 : Int32) (i2 : Int32) (i3 : Int32) : Pc (g_62 n dp e 0 I L i1 i2 i3) (F3 (WI_62 e) WL_62 I L) := (fa_62 n dp e I L i1 i2 i3).1
theorem f_62_1 (n dp : Nat) (e : EN) (I : (Nat → Nat → Int32)) (L : (Nat → Nat → Int64)) (i1 : Int32) (i2 : Int32) (i3 : Int32) : Pc (g_62 n dp e 1 I L i1 i2 i3) (F3 (WI_62 e) WL_62 I L) := (fa_62 n dp e I L i1 i2 i3).2.1
theorem f_62_2 (n dp : Nat) (e : EN) (I : (Nat → Nat → Int32)) (L : (Nat → Nat → Int64)) (i1 : Int32) (i2 : Int32) (i3 : Int32) : Pc (g_62 n dp e 2 I L i1 i2 i3) (F3 (WI_62 e) WL_62 I L) := (fa_62 n dp e I L i1 i2 i3).2.2.1
theorem f_62_3 (n dp : Nat) (e : EN) (I : (Nat → Nat → Int32)) (L : (Nat → Nat → Int64)) (i1 : Int32) (i2 : Int32) (i3 : Int32) : Pc (g_62 n dp e 3 I L i1 i2 i3) (F3 (WI_62 e) WL_62 I L) := (fa_62 n dp e I L i1 i2 i3).2.2.2.1
theorem f_62_4 (n dp : Nat) (e : EN) (I : (Nat → Nat → Int32)) (L : (Nat → Nat → Int64)) (i1 : Int32) (i2 : Int32) (i3 : Int32) : Pc (g_62 n dp e 4 I L i1 i2 i3) (F3 (WI_62 e) WL_62 I L) := (fa_62 n dp e I L i1 i2 i3).2.2.2.2.1
theorem f_62_5 (n dp : Nat) (e : EN) (I : (Nat → Nat → Int32)) (L : (Nat → Nat → Int64)) (i1 : Int32) (i2 : Int32) (i3 : Int32) : Pc (g_62 n dp e 5 I L i1 i2 i3) (F3 (WI_62 e) WL_62 I L) := (fa_62 n dp e I L i1 i2 i3).2.2.2.2.2.1
theorem f_62_6 (n dp : Nat) (e : EN) (I : (Nat → Nat → Int32)) (L : (Nat → Nat → Int64)) (i1 : Int32) (i2 : Int32) (i3 : Int32) : Pc (g_62 n dp e 6 I L i1 i2 i3) (F3 (WI_62 e) WL_62 I L) := (fa_62 n dp e I L i1 i2 i3).2.2.2.2.2.2.1
theorem f_62_7 (n dp : Nat) (e : EN) (I : (Nat → Nat → Int32)) (L : (Nat → Nat → Int64)) (i1 : Int32) (i2 : Int32) (i3 : Int32) : Pc (g_62 n dp e 7 I L i1 i2 i3) (F3 (WI_62 e) WL_62 I L) := (fa_62 n dp e I L i1 i2 i3).2.2.2.2.2.2.2
def WI_40 (e : EN) : List (Nat × Nat) := [(((e.2.2 ((e.2.2 104 1).getD 0) 1).getD 0), 0), (((e.2.2 ((e.2.2 104 1).getD 0) 0).getD 0), 0), (104, 0), (((e.2.2 ((e.2.2 104 1).getD 0) 8).getD 0), 0), (((e.2.2 ((e.2.2 104 1).getD 0) 9).getD 0), 0), (((e.2.2 104 1).getD 0), 13), (((e.2.2 ((e.2.2 104 1).getD 0) 5).getD 0), 0), (((e.2.2 ((e.2.2 104 1).getD 0) 6).getD 0), 0), (((e.2.2 ((e.2.2 104 1).getD 0) 7).getD 0), 0), (((e.2.2 104 1).getD 0), 12), (((e.2.2 ((e.2.2 104 1).getD 0) 2).getD 0), 0), (((e.2.2 ((e.2.2 104 1).getD 0) 3).getD 0), 0), (((e.2.2 ((e.2.2 104 1).getD 0) 4).getD 0), 0)]
def WL_40 : List (Nat × Nat) := []
set_option maxHeartbeats 8000000 in
set_option maxRecDepth 100000 in
theorem fa_40 : ∀ (n dp : Nat) (e : EN) (I : (Nat → Nat → Int32)) (L : (Nat → Nat → Int64)) (i1 : Int32) (i2 : Int32), Pc (g_40 n dp e 0 I L i1 i2) (F3 (WI_40 e) WL_40 I L) ∧
    Pc (g_40 n dp e 1 I L i1 i2) (F3 (WI_40 e) WL_40 I L) ∧
    Pc (g_40 n dp e 2 I L i1 i2) (F3 (WI_40 e) WL_40 I L) := by
  intro n
  induction n with
  | zero => intro dp e I L i1 i2; exact ⟨Pc_none, Pc_none, Pc_none⟩
  | succ n ih =>
    intro dp e I L i1 i2
    refine ⟨?_, ?_, ?_⟩
    · rw [e_40_0]
      repeat' first
        | with_reducible exact Pc_none
        | with_reducible exact Pc_s3
        | with_reducible refine Pc_ite ?_ ?_
        | ((with_reducible refine Pc_c33 (f_41_0 _ _ _ _ _ _ _) ?_ ?_ (fun _ _ _ => ?_)); exact (sbs_nil); exact sbs_of rfl; dsimp only)
        | with_reducible exact (ih _ _ _ _ _ _).2.1
        | ((with_reducible refine Pc_c23 (f_37_0 _ _ _ _ _ _) ?_ ?_ (fun _ _ => ?_)); exact (sbs_cons (mem_at 2 rfl) (sbs_nil)); exact sbs_of rfl; dsimp only)
        | ((with_reducible refine Pc_c33 (f_56_0 _ _ _ _ _ _ _) ?_ ?_ (fun _ _ _ => ?_)); exact (sbs_cons (mem_at 2 rfl) (sbs_cons (mem_at 3 rfl) (sbs_cons (mem_at 4 rfl) (sbs_cons (mem_at 5 rfl) (sbs_nil))))); exact sbs_of rfl; dsimp only)
        | ((with_reducible refine Pc_c33 (f_53_0 _ _ _ _ _ _ _ _) ?_ ?_ (fun _ _ _ => ?_)); exact (sbs_cons (mem_at 6 rfl) (sbs_cons (mem_at 7 rfl) (sbs_cons (mem_at 2 rfl) (sbs_cons (mem_at 8 rfl) (sbs_cons (mem_at 9 rfl) (sbs_nil)))))); exact sbs_of rfl; dsimp only)
        | ((with_reducible refine Pc_u3 ?_ (fun _ => ?_)); exact (by first | exact rfl | exact fw_at 0 rfl | exact fw_at 1 rfl | exact fw_at 2 rfl | exact fw_at 3 rfl | exact fw_at 4 rfl | exact fw_as 5 rfl | exact fw_at 6 rfl | exact fw_at 7 rfl | exact fw_at 8 rfl | exact fw_as 9 rfl | exact fw_at 10 rfl | exact fw_at 11 rfl | exact fw_at 12 rfl))
        | with_reducible refine Pc_bR ?_
        | with_reducible refine Pc_st (fun _ => ?_)
    · rw [e_40_1]
      repeat' first
        | with_reducible exact Pc_none
        | with_reducible exact Pc_s3
        | with_reducible refine Pc_ite ?_ ?_
        | with_reducible exact (ih _ _ _ _ _ _).2.2
        | ((with_reducible refine Pc_c33 (f_41_0 _ _ _ _ _ _ _) ?_ ?_ (fun _ _ _ => ?_)); exact (sbs_nil); exact sbs_of rfl; dsimp only)
        | ((with_reducible refine Pc_c23 (f_37_0 _ _ _ _ _ _) ?_ ?_ (fun _ _ => ?_)); exact (sbs_cons (mem_at 2 rfl) (sbs_nil)); exact sbs_of rfl; dsimp only)
        | ((with_reducible refine Pc_c33 (f_62_0 _ _ _ _ _ _ _ _) ?_ ?_ (fun _ _ _ => ?_)); exact (sbs_cons (mem_at 4 rfl) (sbs_cons (mem_at 3 rfl) (sbs_cons (mem_at 5 rfl) (sbs_cons (mem_at 2 rfl) (sbs_nil))))); exact sbs_of rfl; dsimp only)
        | ((with_reducible refine Pc_u3 ?_ (fun _ => ?_)); exact (by first | exact rfl | exact fw_at 0 rfl | exact fw_at 1 rfl | exact fw_at 2 rfl | exact fw_at 3 rfl | exact fw_at 4 rfl | exact fw_as 5 rfl | exact fw_at 6 rfl | exact fw_at 7 rfl | exact fw_at 8 rfl | exact fw_as 9 rfl | exact fw_at 10 rfl | exact fw_at 11 rfl | exact fw_at 12 rfl))
        | with_reducible refine Pc_bR ?_
        | with_reducible refine Pc_st (fun _ => ?_)
    · rw [e_40_2]
      repeat' first
        | with_reducible exact Pc_none
        | with_reducible exact Pc_s3
        | with_reducible refine Pc_ite ?_ ?_
        | ((with_reducible refine Pc_u3 ?_ (fun _ => ?_)); exact (by first | exact rfl | exact fw_at 0 rfl | exact fw_at 1 rfl | exact fw_at 2 rfl | exact fw_at 3 rfl | exact fw_at 4 rfl | exact fw_as 5 rfl | exact fw_at 6 rfl | exact fw_at 7 rfl | exact fw_at 8 rfl | exact fw_as 9 rfl | exact fw_at 10 rfl | exact fw_at 11 rfl | exact fw_at 12 rfl))
        | with_reducible refine Pc_bR ?_
        | with_reducible refine Pc_st (fun _ => ?_)
theorem f_40_0 (n dp : Nat) (e : EN) (I : (Nat → Nat → Int32)) (L : (Nat → Nat → Int64)) (i1 : Int32) (i2 : Int32) : Pc (g_40 n dp e 0 I L i1 i2) (F3 (WI_40 e) WL_40 I L) := (fa_40 n dp e I L i1 i2).1
theorem f_40_1 (n dp : Nat) (e : EN) (I : (Nat → Nat → Int32)) (L : (Nat → Nat → Int64)) (i1 : Int32) (i2 : Int32) : Pc (g_40 n dp e 1 I L i1 i2) (F3 (WI_40 e) WL_40 I L) := (fa_40 n dp e I L i1 i2).2.1
theorem f_40_2 (n dp : Nat) (e : EN) (I : (Nat → Nat → Int32)) (L : (Nat → Nat → Int64)) (i1 : Int32) (i2 : Int32) : Pc (g_40 n dp e 2 I L i1 i2) (F3 (WI_40 e) WL_40 I L) := (fa_40 n dp e I L i1 i2).2.2
def WI_67 : List (Nat × Nat) := []
def WL_67 : List (Nat × Nat) := []
set_option maxHeartbeats 8000000 in
set_option maxRecDepth 100000 in
theorem fa_67 : ∀ (n dp : Nat) (e : EN) (I : (Nat → Nat → Int32)) (L : (Nat → Nat → Int64)), Pc (g_67 n dp e 0 I L) (F3 WI_67 WL_67 I L) := by
  intro n
  induction n with
  | zero => intro dp e I L; exact Pc_none
  | succ n ih =>
    intro dp e I L
    · rw [e_67_0]
      repeat' first
        | with_reducible exact Pc_none
        | with_reducible exact Pc_s3
theorem f_67_0 (n dp : Nat) (e : EN) (I : (Nat → Nat → Int32)) (L : (Nat → Nat → Int64)) : Pc (g_67 n dp e 0 I L) (F3 WI_67 WL_67 I L) := (fa_67 n dp e I L)
def WI_68 : List (Nat × Nat) := []
def WL_68 : List (Nat × Nat) := []
set_option maxHeartbeats 8000000 in
set_option maxRecDepth 100000 in
theorem fa_68 : ∀ (n dp : Nat) (e : EN) (I : (Nat → Nat → Int32)) (L : (Nat → Nat → Int64)) (i1 : Int32) (i2 : Int32), Pc (g_68 n dp e 0 I L i1 i2) (F3 WI_68 WL_68 I L) := by
  intro n
  induction n with
  | zero => intro dp e I L i1 i2; exact Pc_none
  | succ n ih =>
    intro dp e I L i1 i2
    · rw [e_68_0]
      repeat' first
        | with_reducible exact Pc_none
        | with_reducible exact Pc_s3
        | with_reducible refine Pc_ite ?_ ?_
        | ((with_reducible refine Pc_c33 (f_14_0 _ _ _ _ _ _ _ _) ?_ ?_ (fun _ _ _ => ?_)); exact (sbs_of rfl); exact sbs_of rfl; dsimp only)
        | with_reducible refine Pc_bR ?_
theorem f_68_0 (n dp : Nat) (e : EN) (I : (Nat → Nat → Int32)) (L : (Nat → Nat → Int64)) (i1 : Int32) (i2 : Int32) : Pc (g_68 n dp e 0 I L i1 i2) (F3 WI_68 WL_68 I L) := (fa_68 n dp e I L i1 i2)
def WI_72 : List (Nat × Nat) := []
def WL_72 : List (Nat × Nat) := []
set_option maxHeartbeats 8000000 in
set_option maxRecDepth 100000 in
theorem fa_72 : ∀ (n dp : Nat) (e : EN) (I : (Nat → Nat → Int32)) (L : (Nat → Nat → Int64)) (i1 : Int32) (i2 : Int32), Pc (g_72 n dp e 0 I L i1 i2) (F3 WI_72 WL_72 I L) := by
  intro n
  induction n with
  | zero => intro dp e I L i1 i2; exact Pc_none
  | succ n ih =>
    intro dp e I L i1 i2
    · rw [e_72_0]
      repeat' first
        | with_reducible exact Pc_none
        | with_reducible exact Pc_s3
        | with_reducible refine Pc_ite ?_ ?_
theorem f_72_0 (n dp : Nat) (e : EN) (I : (Nat → Nat → Int32)) (L : (Nat → Nat → Int64)) (i1 : Int32) (i2 : Int32) : Pc (g_72 n dp e 0 I L i1 i2) (F3 WI_72 WL_72 I L) := (fa_72 n dp e I L i1 i2)
def WI_71 : List (Nat × Nat) := [(22, 0)]
def WL_71 : List (Nat × Nat) := []
set_option maxHeartbeats 8000000 in
set_option maxRecDepth 100000 in
theorem fa_71 : ∀ (n dp : Nat) (e : EN) (I : (Nat → Nat → Int32)) (L : (Nat → Nat → Int64)) (i1 : Int32) (i2 : Int32), Pc (g_71 n dp e 0 I L i1 i2) (F2 WI_71 WL_71 I L) := by
  intro n
  induction n with
  | zero => intro dp e I L i1 i2; exact Pc_none
  | succ n ih =>
    intro dp e I L i1 i2
    · rw [e_71_0]
      repeat' first
        | with_reducible exact Pc_none
        | with_reducible exact Pc_s2
        | with_reducible refine Pc_ite ?_ ?_
        | ((with_reducible refine Pc_c32 (f_72_0 _ _ _ _ _ _ _) ?_ ?_ (fun _ _ _ => ?_)); exact (sbs_of rfl); exact sbs_of rfl; dsimp only)
        | ((with_reducible refine Pc_u2 ?_ (fun _ => ?_)); exact rfl)
        | with_reducible refine Pc_bR ?_
        | with_reducible refine Pc_st (fun _ => ?_)
theorem f_71_0 (n dp : Nat) (e : EN) (I : (Nat → Nat → Int32)) (L : (Nat → Nat → Int64)) (i1 : Int32) (i2 : Int32) : Pc (g_71 n dp e 0 I L i1 i2) (F2 WI_71 WL_71 I L) := (fa_71 n dp e I L i1 i2)
def WI_76 : List (Nat × Nat) := []
def WL_76 : List (Nat × Nat) := []
set_option maxHeartbeats 8000000 in
set_option maxRecDepth 100000 in
theorem fa_76 : ∀ (n dp : Nat) (e : EN) (I : (Nat → Nat → Int32)) (L : (Nat → Nat → Int64)) (i0 : Int32) (j1 : Int64) (j3 : Int64), Pc (g_76 n dp e 0 I L i0 j1 j3) (F3 WI_76 WL_76 I L) := by
  intro n
  induction n with
  | zero => intro dp e I L i0 j1 j3; exact Pc_none
  | succ n ih =>
    intro dp e I L i0 j1 j3
    · rw [e_76_0]
      repeat' first
        | with_reducible exact Pc_none
        | with_reducible exact Pc_s3
        | with_reducible refine Pc_ite ?_ ?_
theorem f_76_0 (n dp : Nat) (e : EN) (I : (Nat → Nat → Int32)) (L : (Nat → Nat → Int64)) (i0 : Int32) (j1 : Int64) (j3 : Int64) : Pc (g_76 n dp e 0 I L i0 j1 j3) (F3 WI_76 WL_76 I L) := (fa_76 n dp e I L i0 j1 j3)
def WI_74 : List (Nat × Nat) := [(23, 0), (21, 0)]
def WL_74 : List (Nat × Nat) := []
set_option maxHeartbeats 8000000 in
set_option maxRecDepth 100000 in
theorem fa_74 : ∀ (n dp : Nat) (e : EN) (I : (Nat → Nat → Int32)) (L : (Nat → Nat → Int64)) (i2 : Int32) (i3 : Int32) (i4 : Int32) (i5 : Int32) (i6 : Int32) (i7 : Int32) (i8 : Int32) (a1 : Nat), Pc (g_74 n dp e 0 I L i2 i3 i4 i5 i6 i7 i8 a1) (F3 WI_74 WL_74 I L) ∧
    Pc (g_74 n dp e 1 I L i2 i3 i4 i5 i6 i7 i8 a1) (F3 WI_74 WL_74 I L) ∧
    Pc (g_74 n dp e 2 I L i2 i3 i4 i5 i6 i7 i8 a1) (F3 WI_74 WL_74 I L) ∧
    Pc (g_74 n dp e 3 I L i2 i3 i4 i5 i6 i7 i8 a1) (F3 WI_74 WL_74 I L) ∧
    Pc (g_74 n dp e 4 I L i2 i3 i4 i5 i6 i7 i8 a1) (F3 WI_74 WL_74 I L) ∧
    Pc (g_74 n dp e 5 I L i2 i3 i4 i5 i6 i7 i8 a1) (F3 WI_74 WL_74 I L) ∧
    Pc (g_74 n dp e 6 I L i2 i3 i4 i5 i6 i7 i8 a1) (F3 WI_74 WL_74 I L) ∧
    Pc (g_74 n dp e 7 I L i2 i3 i4 i5 i6 i7 i8 a1) (F3 WI_74 WL_74 I L) := by
  intro n
  induction n with
  | zero => intro dp e I L i2 i3 i4 i5 i6 i7 i8 a1; exact ⟨Pc_none, Pc_none, Pc_none, Pc_none, Pc_none, Pc_none, Pc_none, Pc_none⟩
  | succ n ih =>
    intro dp e I L i2 i3 i4 i5 i6 i7 i8 a1
    refine ⟨?_, ?_, ?_, ?_, ?_, ?_, ?_, ?_⟩
    · rw [e_74_0]
      repeat' first
        | with_reducible exact Pc_none
        | with_reducible exact Pc_s3
        | with_reducible exact (ih _ _ _ _ _ _ _ _ _ _ _ _).2.1
    · rw [e_74_1]
      repeat' first
        | with_reducible exact Pc_none
        | with_reducible exact Pc_s3
        | with_reducible refine Pc_ite ?_ ?_
        | with_reducible exact (ih _ _ _ _ _ _ _ _ _ _ _ _).2.2.2.2.2.2.2
        | with_reducible exact (ih _ _ _ _ _ _ _ _ _ _ _ _).2.2.1
        | with_reducible exact (ih _ _ _ _ _ _ _ _ _ _ _ _).2.2.2.1
        | with_reducible exact (ih _ _ _ _ _ _ _ _ _ _ _ _).2.2.2.2.2.2.1
        | ((with_reducible refine Pc_u3 ?_ (fun _ => ?_)); exact rfl)
        | with_reducible refine Pc_bR ?_
        | with_reducible refine Pc_st (fun _ => ?_)
    · rw [e_74_2]
      repeat' first
        | with_reducible exact Pc_none
        | with_reducible exact Pc_s3
        | with_reducible refine Pc_ite ?_ ?_
        | with_reducible exact (ih _ _ _ _ _ _ _ _ _ _ _ _).2.2.2.2.2.2.1
        | ((with_reducible refine Pc_u3 ?_ (fun _ => ?_)); exact rfl)
        | with_reducible refine Pc_st (fun _ => ?_)
    · rw [e_74_3]
      repeat' first
        | with_reducible exact Pc_none
        | with_reducible exact Pc_s3
        | with_reducible refine Pc_ite ?_ ?_
        | with_reducible exact (ih _ _ _ _ _ _ _ _ _ _ _ _).2.2.2.2.1
        | with_reducible exact (ih _ _ _ _ _ _ _ _ _ _ _ _).2.2.2.2.2.1
    · rw [e_74_4]
      repeat' first
        | with_reducible exact Pc_none
        | with_reducible exact Pc_s3
        | with_reducible refine Pc_ite ?_ ?_
        | with_reducible exact (ih _ _ _ _ _ _ _ _ _ _ _ _).2.2.2.2.2.1
        | with_reducible exact (ih _ _ _ _ _ _ _ _ _ _ _ _).2.2.2.2.2.2.1
        | with_reducible refine Pc_st (fun _ => ?_)
    · rw [e_74_5]
      repeat' first
        | with_reducible exact Pc_none
        | with_reducible exact Pc_s3
        | with_reducible refine Pc_ite ?_ ?_
        | with_reducible exact (ih _ _ _ _ _ _ _ _ _ _ _ _).2.2.2.2.2.2.1
        | ((with_reducible refine Pc_c33 (f_76_0 _ _ _ _ _ _ _ _) ?_ ?_ (fun _ _ _ => ?_)); exact (sbs_of rfl); exact sbs_of rfl; dsimp only)
        | ((with_reducible refine Pc_u3 ?_ (fun _ => ?_)); exact rfl)
        | with_reducible refine Pc_st (fun _ => ?_)
    · rw [e_74_6]
      repeat' first
        | with_reducible exact Pc_none
        | with_reducible exact Pc_s3
        | with_reducible exact (ih _ _ _ _ _ _ _ _ _ _ _ _).2.1
    · rw [e_74_7]
      repeat' first
        | with_reducible exact Pc_none
        | with_reducible exact Pc_s3
        | with_reducible refine Pc_ite ?_ ?_
theorem f_74_0 (n dp : Nat) (e : EN) (I : (Nat → Nat → Int32)) (L : (Nat → Nat → Int64)) (i2 : Int32) (i3 : Int32) (i4 : Int32) (i5 : Int32) (i6 : Int32) (i7 : Int32) (i8 : Int32) (a1 : Nat) : Pc (g_74 n dp e 0 I L i2 i3 i4 i5 i6 i7 i8 a1) (F3 WI_74 WL_74 I L) := (fa_74 n dp e I L i2 i3 i4 i5 i6 i7 i8 a1).1
theorem f_74_1 (n dp : Nat) (e : EN) (I : (Nat → Nat → Int32)) (L : (Nat → Nat → Int64)) (i2 : Int32) (i3 : Int32) (i4 : Int32) (i5 : Int32) (i6 : Int32) (i7 : Int32) (i8 : Int32) (a1 : Nat) : Pc (g_74 n dp e 1 I L i2 i3 i4 i5 i6 i7 i8 a1) (F3 WI_74 WL_74 I L) := (fa_74 n dp e I L i2 i3 i4 i5 i6 i7 i8 a1).2.1
theorem f_74_2 (n dp : Nat) (e : EN) (I : (Nat → Nat → Int32)) (L : (Nat → Nat → Int64)) (i2 : Int32) (i3 : Int32) (i4 : Int32) (i5 : Int32) (i6 : Int32) (i7 : Int32) (i8 : Int32) (a1 : Nat) : Pc (g_74 n dp e 2 I L i2 i3 i4 i5 i6 i7 i8 a1) (F3 WI_74 WL_74 I L) := (fa_74 n dp e I L i2 i3 i4 i5 i6 i7 i8 a1).2.2.1
theorem f_74_3 (n dp : Nat) (e : EN) (I : (Nat → Nat → Int32)) (L : (Nat → Nat → Int64)) (i2 : Int32) (i3 : Int32) (i4 : Int32) (i5 : Int32) (i6 : Int32) (i7 : Int32) (i8 : Int32) (a1 : Nat) : Pc (g_74 n dp e 3 I L i2 i3 i4 i5 i6 i7 i8 a1) (F3 WI_74 WL_74 I L) := (fa_74 n dp e I L i2 i3 i4 i5 i6 i7 i8 a1).2.2.2.1
theorem f_74_4 (n dp : Nat) (e : EN) (I : (Nat → Nat → Int32)) (L : (Nat → Nat → Int64)) (i2 : Int32) (i3 : Int32) (i4 : Int32) (i5 : Int32) (i6 : Int32) (i7 : Int32) (i8 : Int32) (a1 : Nat) : Pc (g_74 n dp e 4 I L i2 i3 i4 i5 i6 i7 i8 a1) (F3 WI_74 WL_74 I L) := (fa_74 n dp e I L i2 i3 i4 i5 i6 i7 i8 a1).2.2.2.2.1
theorem f_74_5 (n dp : Nat) (e : EN) (I : (Nat → Nat → Int32)) (L : (Nat → Nat → Int64)) (i2 : Int32) (i3 : Int32) (i4 : Int32) (i5 : Int32) (i6 : Int32) (i7 : Int32) (i8 : Int32) (a1 : Nat) : Pc (g_74 n dp e 5 I L i2 i3 i4 i5 i6 i7 i8 a1) (F3 WI_74 WL_74 I L) := (fa_74 n dp e I L i2 i3 i4 i5 i6 i7 i8 a1).2.2.2.2.2.1
theorem f_74_6 (n dp : Nat) (e : EN) (I : (Nat → Nat → Int32)) (L : (Nat → Nat → Int64)) (i2 : Int32) (i3 : Int32) (i4 : Int32) (i5 : Int32) (i6 : Int32) (i7 : Int32) (i8 : Int32) (a1 : Nat) : Pc (g_74 n dp e 6 I L i2 i3 i4 i5 i6 i7 i8 a1) (F3 WI_74 WL_74 I L) := (fa_74 n dp e I L i2 i3 i4 i5 i6 i7 i8 a1).2.2.2.2.2.2.1
theorem f_74_7 (n dp : Nat) (e : EN) (I : (Nat → Nat → Int32)) (L : (Nat → Nat → Int64)) (i2 : Int32) (i3 : Int32) (i4 : Int32) (i5 : Int32) (i6 : Int32) (i7 : Int32) (i8 : Int32) (a1 : Nat) : Pc (g_74 n dp e 7 I L i2 i3 i4 i5 i6 i7 i8 a1) (F3 WI_74 WL_74 I L) := (fa_74 n dp e I L i2 i3 i4 i5 i6 i7 i8 a1).2.2.2.2.2.2.2
def WI_73 : List (Nat × Nat) := [(21, 0), (23, 0)]
def WL_73 : List (Nat × Nat) := []
set_option maxHeartbeats 8000000 in
set_option maxRecDepth 100000 in
theorem fa_73 : ∀ (n dp : Nat) (e : EN) (I : (Nat → Nat → Int32)) (L : (Nat → Nat → Int64)) (i1 : Int32) (a2 : Nat), Pc (g_73 n dp e 0 I L i1 a2) (F3 WI_73 WL_73 I L) ∧
    Pc (g_73 n dp e 1 I L i1 a2) (F3 WI_73 WL_73 I L) := by
  intro n
  induction n with
  | zero => intro dp e I L i1 a2; exact ⟨Pc_none, Pc_none⟩
  | succ n ih =>
    intro dp e I L i1 a2
    refine ⟨?_, ?_⟩
    · rw [e_73_0]
      repeat' first
        | with_reducible exact Pc_none
        | with_reducible exact Pc_s3
        | with_reducible refine Pc_ite ?_ ?_
        | with_reducible exact (ih _ _ _ _ _ _).2
        | ((with_reducible refine Pc_c33 (f_74_0 _ _ _ _ _ _ _ _ _ _ _ _ _) ?_ ?_ (fun _ _ _ => ?_)); exact (sbs_of rfl); exact sbs_of rfl; dsimp only)
        | ((with_reducible refine Pc_u3 ?_ (fun _ => ?_)); exact rfl)
        | with_reducible refine Pc_bR ?_
        | with_reducible refine Pc_st (fun _ => ?_)
    · rw [e_73_1]
      repeat' first
        | with_reducible exact Pc_none
        | with_reducible exact Pc_s3
        | with_reducible refine Pc_ite ?_ ?_
        | ((with_reducible refine Pc_c33 (f_74_0 _ _ _ _ _ _ _ _ _ _ _ _ _) ?_ ?_ (fun _ _ _ => ?_)); exact (sbs_of rfl); exact sbs_of rfl; dsimp only)
        | ((with_reducible refine Pc_u3 ?_ (fun _ => ?_)); exact rfl)
        | with_reducible refine Pc_bR ?_
        | with_reducible refine Pc_st (fun _ => ?_)
theorem f_73_0 (n dp : Nat) (e : EN) (I : (Nat → Nat → Int32)) (L : (Nat → Nat → Int64)) (i1 : Int32) (a2 : Nat) : Pc (g_73 n dp e 0 I L i1 a2) (F3 WI_73 WL_73 I L) := (fa_73 n dp e I L i1 a2).1
theorem f_73_1 (n dp : Nat) (e : EN) (I : (Nat → Nat → Int32)) (L : (Nat → Nat → Int64)) (i1 : Int32) (a2 : Nat) : Pc (g_73 n dp e 1 I L i1 a2) (F3 WI_73 WL_73 I L) := (fa_73 n dp e I L i1 a2).2
def WI_70 : List (Nat × Nat) := [(22, 0), (21, 0), (23, 0)]
def WL_70 : List (Nat × Nat) := []
set_option maxHeartbeats 8000000 in
set_option maxRecDepth 100000 in
theorem fa_70 : ∀ (n dp : Nat) (e : EN) (I : (Nat → Nat → Int32)) (L : (Nat → Nat → Int64)) (i1 : Int32) (i2 : Int32), Pc (g_70 n dp e 0 I L i1 i2) (F3 WI_70 WL_70 I L) := by
  intro n
  induction n with
  | zero => intro dp e I L i1 i2; exact Pc_none
  | succ n ih =>
    intro dp e I L i1 i2
    · rw [e_70_0]
      repeat' first
        | with_reducible exact Pc_none
        | with_reducible exact Pc_s3
        | with_reducible refine Pc_ite ?_ ?_
        | ((with_reducible refine Pc_c23 (f_71_0 _ _ _ _ _ _ _) ?_ ?_ (fun _ _ => ?_)); exact (sbs_of rfl); exact sbs_of rfl; dsimp only)
        | ((with_reducible refine Pc_c33 (f_73_0 _ _ _ _ _ _ _) ?_ ?_ (fun _ _ _ => ?_)); exact (sbs_of rfl); exact sbs_of rfl; dsimp only)
        | with_reducible refine Pc_bR ?_
theorem f_70_0 (n dp : Nat) (e : EN) (I : (Nat → Nat → Int32)) (L : (Nat → Nat → Int64)) (i1 : Int32) (i2 : Int32) : Pc (g_70 n dp e 0 I L i1 i2) (F3 WI_70 WL_70 I L) := (fa_70 n dp e I L i1 i2)
def WI_77 : List (Nat × Nat) := [(22, 0), (21, 0), (23, 0)]
def WL_77 : List (Nat × Nat) := []
set_option maxHeartbeats 8000000 in
set_option maxRecDepth 100000 in
theorem fa_77 : ∀ (n dp : Nat) (e : EN) (I : (Nat → Nat → Int32)) (L : (Nat → Nat → Int64)) (i1 : Int32) (i2 : Int32) (i3 : Int32) (i4 : Int32) (i5 : Int32), Pc (g_77 n dp e 0 I L i1 i2 i3 i4 i5) (F3 WI_77 WL_77 I L) ∧
    Pc (g_77 n dp e 1 I L i1 i2 i3 i4 i5) (F3 WI_77 WL_77 I L) ∧
    Pc (g_77 n dp e 2 I L i1 i2 i3 i4 i5) (F3 WI_77 WL_77 I L) := by
  intro n
  induction n with
  | zero => intro dp e I L i1 i2 i3 i4 i5; exact ⟨Pc_none, Pc_none, Pc_none⟩
  | succ n ih =>
    intro dp e I L i1 i2 i3 i4 i5
    refine ⟨?_, ?_, ?_⟩
    · rw [e_77_0]
      repeat' first
        | with_reducible exact Pc_none
        | with_reducible exact Pc_s3
        | with_reducible refine Pc_ite ?_ ?_
        | ((with_reducible refine Pc_c23 (f_71_0 _ _ _ _ _ _ _) ?_ ?_ (fun _ _ => ?_)); exact (sbs_of rfl); exact sbs_of rfl; dsimp only)
        | with_reducible exact (ih _ _ _ _ _ _ _ _ _).2.1
        | with_reducible refine Pc_bR ?_
        | with_reducible refine Pc_st (fun _ => ?_)
    · rw [e_77_1]
      repeat' first
        | with_reducible exact Pc_none
        | with_reducible exact Pc_s3
        | with_reducible refine Pc_ite ?_ ?_
        | ((with_reducible refine Pc_c33 (f_73_0 _ _ _ _ _ _ _) ?_ ?_ (fun _ _ _ => ?_)); exact (sbs_of rfl); exact sbs_of rfl; dsimp only)
        | with_reducible exact (ih _ _ _ _ _ _ _ _ _).2.2
        | with_reducible refine Pc_bR ?_
    · rw [e_77_2]
      repeat' first
        | with_reducible exact Pc_none
        | with_reducible exact Pc_s3
        | with_reducible exact (ih _ _ _ _ _ _ _ _ _).2.1
theorem f_77_0 (n dp : Nat) (e : EN) (I : (Nat → Nat → Int32)) (L : (Nat → Nat → Int64)) (i1 : Int32) (i2 : Int32) (i3 : Int32) (i4 : Int32) (i5 : Int32) : Pc (g_77 n dp e 0 I L i1 i2 i3 i4 i5) (F3 WI_77 WL_77 I L) := (fa_77 n dp e I L i1 i2 i3 i4 i5).1
theorem f_77_1 (n dp : Nat) (e : EN) (I : (Nat → Nat → Int32)) (L : (Nat → Nat → Int64)) (i1 : Int32) (i2 : Int32) (i3 : Int32) (i4 : Int32) (i5 : Int32) : Pc (g_77 n dp e 1 I L i1 i2 i3 i4 i5) (F3 WI_77 WL_77 I L) := (fa_77 n dp e I L i1 i2 i3 i4 i5).2.1
theorem f_77_2 (n dp : Nat) (e : EN) (I : (Nat → Nat → Int32)) (L : (Nat → Nat → Int64)) (i1 : Int32) (i2 : Int32) (i3 : Int32) (i4 : Int32) (i5 : Int32) : Pc (g_77 n dp e 2 I L i1 i2 i3 i4 i5) (F3 WI_77 WL_77 I L) := (fa_77 n dp e I L i1 i2 i3 i4 i5).2.2
def WI_78 : List (Nat × Nat) := []
def WL_78 : List (Nat × Nat) := []
set_option maxHeartbeats 8000000 in
set_option maxRecDepth 100000 in
theorem fa_78 : ∀ (n dp : Nat) (e : EN) (I : (Nat → Nat → Int32)) (L : (Nat → Nat → Int64)) (i1 : Int32) (i2 : Int32) (i3 : Int32) (i4 : Int32), Pc (g_78 n dp e 0 I L i1 i2 i3 i4) (F3 WI_78 WL_78 I L) ∧
    Pc (g_78 n dp e 1 I L i1 i2 i3 i4) (F3 WI_78 WL_78 I L) := by
  intro n
  induction n with
  | zero => intro dp e I L i1 i2 i3 i4; exact ⟨Pc_none, Pc_none⟩
  | succ n ih =>
    intro dp e I L i1 i2 i3 i4
    refine ⟨?_, ?_⟩
    · rw [e_78_0]
      repeat' first
        | with_reducible exact Pc_none
        | with_reducible exact Pc_s3
        | with_reducible refine Pc_ite ?_ ?_
        | ((with_reducible refine Pc_c33 (f_72_0 _ _ _ _ _ _ _) ?_ ?_ (fun _ _ _ => ?_)); exact (sbs_of rfl); exact sbs_of rfl; dsimp only)
        | with_reducible exact (ih _ _ _ _ _ _ _ _).2
        | with_reducible refine Pc_bR ?_
    · rw [e_78_1]
      repeat' first
        | with_reducible exact Pc_none
        | with_reducible exact Pc_s3
        | with_reducible refine Pc_ite ?_ ?_
        | ((with_reducible refine Pc_c33 (f_72_0 _ _ _ _ _ _ _) ?_ ?_ (fun _ _ _ => ?_)); exact (sbs_of rfl); exact sbs_of rfl; dsimp only)
        | with_reducible exact (ih _ _ _ _ _ _ _ _).2
        | with_reducible refine Pc_bR ?_
        | with_reducible refine Pc_st (fun _ => ?_)
theorem f_78_0 (n dp : Nat) (e : EN) (I : (Nat → Nat → Int32)) (L : (Nat → Nat → Int64)) (i1 : Int32) (i2 : Int32) (i3 : Int32) (i4 : Int32) : Pc (g_78 n dp e 0 I L i1 i2 i3 i4) (F3 WI_78 WL_78 I L) := (fa_78 n dp e I L i1 i2 i3 i4).1
theorem f_78_1 (n dp : Nat) (e : EN) (I : (Nat → Nat → Int32)) (L : (Nat → Nat → Int64)) (i1 : Int32) (i2 : Int32) (i3 : Int32) (i4 : Int32) : Pc (g_78 n dp e 1 I L i1 i2 i3 i4) (F3 WI_78 WL_78 I L) := (fa_78 n dp e I L i1 i2 i3 i4).2
def WI_79 : List (Nat × Nat) := []
def WL_79 : List (Nat × Nat) := []
set_option maxHeartbeats 8000000 in
set_option maxRecDepth 100000 in
theorem fa_79 : ∀ (n dp : Nat) (e : EN) (I : (Nat → Nat → Int32)) (L : (Nat → Nat → Int64)) (i1 : Int32) (i2 : Int32) (i3 : Int32), Pc (g_79 n dp e 0 I L i1 i2 i3) (F3 WI_79 WL_79 I L) ∧
    Pc (g_79 n dp e 1 I L i1 i2 i3) (F3 WI_79 WL_79 I L) := by
  intro n
  induction n with
  | zero => intro dp e I L i1 i2 i3; exact ⟨Pc_none, Pc_none⟩
  | succ n ih =>
    intro dp e I L i1 i2 i3
    refine ⟨?_, ?_⟩
    · rw [e_79_0]
      repeat' first
        | with_reducible exact Pc_none
        | with_reducible exact Pc_s3
        | with_reducible refine Pc_ite ?_ ?_
        | ((with_reducible refine Pc_c33 (f_78_0 _ _ _ _ _ _ _ _ _) ?_ ?_ (fun _ _ _ => ?_)); exact (sbs_of rfl); exact sbs_of rfl; dsimp only)
        | with_reducible exact (ih _ _ _ _ _ _ _).2
        | ((with_reducible refine Pc_c33 (f_72_0 _ _ _ _ _ _ _) ?_ ?_ (fun _ _ _ => ?_)); exact (sbs_of rfl); exact sbs_of rfl; dsimp only)
        | with_reducible refine Pc_bR ?_
    · rw [e_79_1]
      repeat' first
        | with_reducible exact Pc_none
        | with_reducible exact Pc_s3
theorem f_79_0 (n dp : Nat) (e : EN) (I : (Nat → Nat → Int32)) (L : (Nat → Nat → Int64)) (i1 : Int32) (i2 : Int32) (i3 : Int32) : Pc (g_79 n dp e 0 I L i1 i2 i3) (F3 WI_79 WL_79 I L) := (fa_79 n dp e I L i1 i2 i3).1
theorem f_79_1 (n dp : Nat) (e : EN) (I : (Nat → Nat → Int32)) (L : (Nat → Nat → Int64)) (i1 : Int32) (i2 : Int32) (i3 : Int32) : Pc (g_79 n dp e 1 I L i1 i2 i3) (F3 WI_79 WL_79 I L) := (fa_79 n dp e I L i1 i2 i3).2
def WI_69 : List (Nat × Nat) := [(22, 0), (21, 0), (23, 0)]
def WL_69 : List (Nat × Nat) := []
set_option maxHeartbeats 8000000 in
set_option maxRecDepth 100000 in
theorem fa_69 : ∀ (n dp : Nat) (e : EN) (I : (Nat → Nat → Int32)) (L : (Nat → Nat → Int64)) (i1 : Int32) (i2 : Int32) (i3 : Int32), Pc (g_69 n dp e 0 I L i1 i2 i3) (F3 WI_69 WL_69 I L) := by
  intro n
  induction n with
  | zero => intro dp e I L i1 i2 i3; exact Pc_none
  | succ n ih =>
    intro dp e I L i1 i2 i3
    · rw [e_69_0]
      repeat' first
        | with_reducible exact Pc_none
        | with_reducible exact Pc_s3
        | with_reducible refine Pc_ite ?_ ?_
        | ((with_reducible refine Pc_c33 (f_14_0 _ _ _ _ _ _ _ _) ?_ ?_ (fun _ _ _ => ?_)); exact (sbs_of rfl); exact sbs_of rfl; dsimp only)
        | ((with_reducible refine Pc_c33 (f_70_0 _ _ _ _ _ _ _) ?_ ?_ (fun _ _ _ => ?_)); exact (sbs_of rfl); exact sbs_of rfl; dsimp only)
        | ((with_reducible refine Pc_c33 (f_77_0 _ _ _ _ _ _ _ _ _ _) ?_ ?_ (fun _ _ _ => ?_)); exact (sbs_of rfl); exact sbs_of rfl; dsimp only)
        | ((with_reducible refine Pc_c33 (f_78_0 _ _ _ _ _ _ _ _ _) ?_ ?_ (fun _ _ _ => ?_)); exact (sbs_of rfl); exact sbs_of rfl; dsimp only)
        | ((with_reducible refine Pc_c33 (f_79_0 _ _ _ _ _ _ _ _) ?_ ?_ (fun _ _ _ => ?_)); exact (sbs_of rfl); exact sbs_of rfl; dsimp only)
        | with_reducible refine Pc_bR ?_
theorem f_69_0 (n dp : Nat) (e : EN) (I : (Nat → Nat → Int32)) (L : (Nat → Nat → Int64)) (i1 : Int32) (i2 : Int32) (i3 : Int32) : Pc (g_69 n dp e 0 I L i1 i2 i3) (F3 WI_69 WL_69 I L) := (fa_69 n dp e I L i1 i2 i3)
def WI_84 (e : EN) (a0 : Nat) : List (Nat × Nat) := [(((e.2.2 a0 0).getD 0), 0), (((e.2.2 a0 1).getD 0), 0), (a0, 5)]
def WL_84 : List (Nat × Nat) := []
set_option maxHeartbeats 8000000 in
set_option maxRecDepth 100000 in
theorem fa_84 : ∀ (n dp : Nat) (e : EN) (I : (Nat → Nat → Int32)) (L : (Nat → Nat → Int64)) (i1 : Int32) (a0 : Nat), Pc (g_84 n dp e 0 I L i1 a0) (F2 (WI_84 e a0) WL_84 I L) ∧
    Pc (g_84 n dp e 1 I L i1 a0) (F2 (WI_84 e a0) WL_84 I L) ∧
    Pc (g_84 n dp e 2 I L i1 a0) (F2 (WI_84 e a0) WL_84 I L) := by
  intro n
  induction n with
  | zero => intro dp e I L i1 a0; exact ⟨Pc_none, Pc_none, Pc_none⟩
  | succ n ih =>
    intro dp e I L i1 a0
    refine ⟨?_, ?_, ?_⟩
    · rw [e_84_0]
      repeat' first
        | with_reducible exact Pc_none
        | with_reducible exact Pc_s2
        | with_reducible refine Pc_ite ?_ ?_
        | with_reducible exact (ih _ _ _ _ _ _).2.2
        | with_reducible exact (ih _ _ _ _ _ _).2.1
    · rw [e_84_1]
      repeat' first
        | with_reducible exact Pc_none
        | with_reducible exact Pc_s2
        | with_reducible refine Pc_ite ?_ ?_
        | with_reducible exact (ih _ _ _ _ _ _).2.2
        | with_reducible exact (ih _ _ _ _ _ _).2.1
        | ((with_reducible refine Pc_u2 ?_ (fun _ => ?_)); exact (by first | exact rfl | exact fw_at 0 rfl | exact fw_at 1 rfl | exact fw_as 2 rfl))
        | with_reducible refine Pc_bR ?_
        | with_reducible refine Pc_st (fun _ => ?_)
    · rw [e_84_2]
      repeat' first
        | with_reducible exact Pc_none
        | with_reducible exact Pc_s2
        | with_reducible refine Pc_ite ?_ ?_
        | ((with_reducible refine Pc_u2 ?_ (fun _ => ?_)); exact (by first | exact rfl | exact fw_at 0 rfl | exact fw_at 1 rfl | exact fw_as 2 rfl))
        | with_reducible refine Pc_st (fun _ => ?_)
theorem f_84_0 (n dp : Nat) (e : EN) (I : (Nat → Nat → Int32)) (L : (Nat → Nat → Int64)) (i1 : Int32) (a0 : Nat) : Pc (g_84 n dp e 0 I L i1 a0) (F2 (WI_84 e a0) WL_84 I L) := (fa_84 n dp e I L i1 a0).1
theorem f_84_1 (n dp : Nat) (e : EN) (I : (Nat → Nat → Int32)) (L : (Nat → Nat → Int64)) (i1 : Int32) (a0 : Nat) : Pc (g_84 n dp e 1 I L i1 a0) (F2 (WI_84 e a0) WL_84 I L) := (fa_84 n dp e I L i1 a0).2.1
theorem f_84_2 (n dp : Nat) (e : EN) (I : (Nat → Nat → Int32)) (L : (Nat → Nat → Int64)) (i1 : Int32) (a0 : Nat) : Pc (g_84 n dp e 2 I L i1 a0) (F2 (WI_84 e a0) WL_84 I L) := (fa_84 n dp e I L i1 a0).2.2
def WI_85 : List (Nat × Nat) := []
def WL_85 : List (Nat × Nat) := []
set_option maxHeartbeats 8000000 in
set_option maxRecDepth 100000 in
theorem fa_85 : ∀ (n dp : Nat) (e : EN) (I : (Nat → Nat → Int32)) (L : (Nat → Nat → Int64)) (i1 : Int32) (i2 : Int32) (i3 : Int32) (a0 : Nat), Pc (g_85 n dp e 0 I L i1 i2 i3 a0) (F3 WI_85 WL_85 I L) ∧
    Pc (g_85 n dp e 1 I L i1 i2 i3 a0) (F3 WI_85 WL_85 I L) := by
  intro n
  induction n with
  | zero => intro dp e I L i1 i2 i3 a0; exact ⟨Pc_none, Pc_none⟩
  | succ n ih =>
    intro dp e I L i1 i2 i3 a0
    refine ⟨?_, ?_⟩
    · rw [e_85_0]
      repeat' first
        | with_reducible exact Pc_none
        | with_reducible exact Pc_s3
        | with_reducible exact (ih _ _ _ _ _ _ _ _).2
    · rw [e_85_1]
      repeat' first
        | with_reducible exact Pc_none
        | with_reducible exact Pc_s3
        | with_reducible refine Pc_ite ?_ ?_
        | with_reducible exact (ih _ _ _ _ _ _ _ _).2
        | with_reducible refine Pc_bR ?_
        | with_reducible refine Pc_st (fun _ => ?_)
theorem f_85_0 (n dp : Nat) (e : EN) (I : (Nat → Nat → Int32)) (L : (Nat → Nat → Int64)) (i1 : Int32) (i2 : Int32) (i3 : Int32) (a0 : Nat) : Pc (g_85 n dp e 0 I L i1 i2 i3 a0) (F3 WI_85 WL_85 I L) := (fa_85 n dp e I L i1 i2 i3 a0).1
theorem f_85_1 (n dp : Nat) (e : EN) (I : (Nat → Nat → Int32)) (L : (Nat → Nat → Int64)) (i1 : Int32) (i2 : Int32) (i3 : Int32) (a0 : Nat) : Pc (g_85 n dp e 1 I L i1 i2 i3 a0) (F3 WI_85 WL_85 I L) := (fa_85 n dp e I L i1 i2 i3 a0).2
def WI_86 (e : EN) (a0 : Nat) : List (Nat × Nat) := [(((e.2.2 a0 3).getD 0), 0)]
def WL_86 : List (Nat × Nat) := []
set_option maxHeartbeats 8000000 in
set_option maxRecDepth 100000 in
theorem fa_86 : ∀ (n dp : Nat) (e : EN) (I : (Nat → Nat → Int32)) (L : (Nat → Nat → Int64)) (i2 : Int32) (i3 : Int32) (i4 : Int32) (a0 : Nat) (a1 : Nat), Pc (g_86 n dp e 0 I L i2 i3 i4 a0 a1) (F2 (WI_86 e a0) WL_86 I L) ∧
    Pc (g_86 n dp e 1 I L i2 i3 i4 a0 a1) (F2 (WI_86 e a0) WL_86 I L) := by
  intro n
  induction n with
  | zero => intro dp e I L i2 i3 i4 a0 a1; exact ⟨Pc_none, Pc_none⟩
  | succ n ih =>
    intro dp e I L i2 i3 i4 a0 a1
    refine ⟨?_, ?_⟩
    · rw [e_86_0]
      repeat' first
        | with_reducible exact Pc_none
        | with_reducible exact Pc_s2
        | with_reducible exact (ih _ _ _ _ _ _ _ _ _).2
    · rw [e_86_1]
      repeat' first
        | with_reducible exact Pc_none
        | with_reducible exact Pc_s2
        | with_reducible refine Pc_ite ?_ ?_
        | with_reducible exact (ih _ _ _ _ _ _ _ _ _).2
        | ((with_reducible refine Pc_u2 ?_ (fun _ => ?_)); exact (by first | exact rfl | exact fw_at 0 rfl))
        | with_reducible refine Pc_bR ?_
        | with_reducible refine Pc_st (fun _ => ?_)
theorem f_86_0 (n dp : Nat) (e : EN) (I : (Nat → Nat → Int32)) (L : (Nat → Nat → Int64)) (i2 : Int32) (i3 : Int32) (i4 : Int32) (a0 : Nat) (a1 : Nat) : Pc (g_86 n dp e 0 I L i2 i3 i4 a0 a1) (F2 (WI_86 e a0) WL_86 I L) := (fa_86 n dp e I L i2 i3 i4 a0 a1).1
theorem f_86_1 (n dp : Nat) (e : EN) (I : (Nat → Nat → Int32)) (L : (Nat → Nat → Int64)) (i2 : Int32) (i3 : Int32) (i4 : Int32) (a0 : Nat) (a1 : Nat) : Pc (g_86 n dp e 1 I L i2 i3 i4 a0 a1) (F2 (WI_86 e a0) WL_86 I L) := (fa_86 n dp e I L i2 i3 i4 a0 a1).2
def WI_83 (e : EN) (a0 : Nat) : List (Nat × Nat) := [(((e.2.2 a0 2).getD 0), 0), (((e.2.2 a0 0).getD 0), 0), (((e.2.2 a0 1).getD 0), 0), (a0, 5), (((e.2.2 a0 3).getD 0), 0)]
def WL_83 : List (Nat × Nat) := []
set_option maxHeartbeats 8000000 in
set_option maxRecDepth 100000 in
theorem fa_83 : ∀ (n dp : Nat) (e : EN) (I : (Nat → Nat → Int32)) (L : (Nat → Nat → Int64)) (i2 : Int32) (i3 : Int32) (i4 : Int32) (i5 : Int32) (i6 : Int32) (a0 : Nat) (a1 : Nat), Pc (g_83 n dp e 0 I L i2 i3 i4 i5 i6 a0 a1) (F2 (WI_83 e a0) WL_83 I L) ∧
    Pc (g_83 n dp e 1 I L i2 i3 i4 i5 i6 a0 a1) (F2 (WI_83 e a0) WL_83 I L) ∧
    Pc (g_83 n dp e 2 I L i2 i3 i4 i5 i6 a0 a1) (F2 (WI_83 e a0) WL_83 I L) := by
  intro n
  induction n with
  | zero => intro dp e I L i2 i3 i4 i5 i6 a0 a1; exact ⟨Pc_none, Pc_none, Pc_none⟩
  | succ n ih =>
    intro dp e I L i2 i3 i4 i5 i6 a0 a1
    refine ⟨?_, ?_, ?_⟩
    · rw [e_83_0]
      repeat' first
        | with_reducible exact Pc_none
        | with_reducible exact Pc_s2
        | with_reducible refine Pc_ite ?_ ?_
        | with_reducible exact (ih _ _ _ _ _ _ _ _ _ _ _).1
        | ((with_reducible refine Pc_c22 (ih _ _ _ _ _ _ _ _ _ _ _).1 ?_ ?_ (fun _ _ => ?_)); exact (fun _ h => h); exact (fun _ h => h); dsimp only)
        | with_reducible exact (ih _ _ _ _ _ _ _ _ _ _ _).2.1
        | ((with_reducible refine Pc_c22 (f_84_0 _ _ _ _ _ _ _) ?_ ?_ (fun _ _ => ?_)); exact (sbs_cons (mem_at 1 rfl) (sbs_cons (mem_at 2 rfl) (sbs_cons (mem_at 3 rfl) (sbs_nil)))); exact sbs_of rfl; dsimp only)
        | ((with_reducible refine Pc_u2 ?_ (fun _ => ?_)); exact (by first | exact rfl | exact fw_at 0 rfl | exact fw_at 1 rfl | exact fw_at 2 rfl | exact fw_as 3 rfl | exact fw_at 4 rfl))
        | with_reducible refine Pc_bR ?_
        | with_reducible refine Pc_st (fun _ => ?_)
    · rw [e_83_1]
      repeat' first
        | with_reducible exact Pc_none
        | with_reducible exact Pc_s2
        | with_reducible refine Pc_ite ?_ ?_
        | ((with_reducible refine Pc_c32 (f_85_0 _ _ _ _ _ _ _ _ _) ?_ ?_ (fun _ _ _ => ?_)); exact (sbs_nil); exact sbs_of rfl; dsimp only)
        | with_reducible exact (ih _ _ _ _ _ _ _ _ _ _ _).2.2
        | ((with_reducible refine Pc_c22 (f_86_0 _ _ _ _ _ _ _ _ _ _) ?_ ?_ (fun _ _ => ?_)); exact (sbs_cons (mem_at 4 rfl) (sbs_nil)); exact sbs_of rfl; dsimp only)
        | with_reducible exact (ih _ _ _ _ _ _ _ _ _ _ _).1
        | ((with_reducible refine Pc_c22 (ih _ _ _ _ _ _ _ _ _ _ _).1 ?_ ?_ (fun _ _ => ?_)); exact (fun _ h => h); exact (fun _ h => h); dsimp only)
        | ((with_reducible refine Pc_u2 ?_ (fun _ => ?_)); exact (by first | exact rfl | exact fw_at 0 rfl | exact fw_at 1 rfl | exact fw_at 2 rfl | exact fw_as 3 rfl | exact fw_at 4 rfl))
        | with_reducible refine Pc_bR ?_
        | with_reducible refine Pc_st (fun _ => ?_)
    · rw [e_83_2]
      repeat' first
        | with_reducible exact Pc_none
        | with_reducible exact Pc_s2
        | with_reducible exact (ih _ _ _ _ _ _ _ _ _ _ _).2.1
theorem f_83_0 (n dp : Nat) (e : EN) (I : (Nat → Nat → Int32)) (L : (Nat → Nat → Int64)) (i2 : Int32) (i3 : Int32) (i4 : Int32) (i5 : Int32) (i6 : Int32) (a0 : Nat) (a1 : Nat) : Pc (g_83 n dp e 0 I L i2 i3 i4 i5 i6 a0 a1) (F2 (WI_83 e a0) WL_83 I L) := (fa_83 n dp e I L i2 i3 i4 i5 i6 a0 a1).1
theorem f_83_1 (n dp : Nat) (e : EN) (I : (Nat → Nat → Int32)) (L : (Nat → Nat → Int64)) (i2 : Int32) (i3 : Int32) (i4 : Int32) (i5 : Int32) (i6 : Int32) (a0 : Nat) (a1 : Nat) : Pc (g_83 n dp e 1 I L i2 i3 i4 i5 i6 a0 a1) (F2 (WI_83 e a0) WL_83 I L) := (fa_83 n dp e I L i2 i3 i4 i5 i6 a0 a1).2.1
theorem f_83_2 (n dp : Nat) (e : EN) (I : (Nat → Nat → Int32)) (L : (Nat → Nat → Int64)) (i2 : Int32) (i3 : Int32) (i4 : Int32) (i5 : Int32) (i6 : Int32) (a0 : Nat) (a1 : Nat) : Pc (g_83 n dp e 2 I L i2 i3 i4 i5 i6 a0 a1) (F2 (WI_83 e a0) WL_83 I L) := (fa_83 n dp e I L i2 i3 i4 i5 i6 a0 a1).2.2
def WI_82 (e : EN) (a0 : Nat) : List (Nat × Nat) := [(a0, 6), (a0, 7), (a0, 5), (((e.2.2 a0 3).getD 0), 0), (((e.2.2 a0 2).getD 0), 0), (((e.2.2 a0 0).getD 0), 0), (((e.2.2 a0 1).getD 0), 0)]
def WL_82 : List (Nat × Nat) := []
set_option maxHeartbeats 8000000 in
set_option maxRecDepth 100000 in
theorem fa_82 : ∀ (n dp : Nat) (e : EN) (I : (Nat → Nat → Int32)) (L : (Nat → Nat → Int64)) (i2 : Int32) (a0 : Nat) (a1 : Nat), Pc (g_82 n dp e 0 I L i2 a0 a1) (F3 (WI_82 e a0) WL_82 I L) ∧
    Pc (g_82 n dp e 1 I L i2 a0 a1) (F3 (WI_82 e a0) WL_82 I L) := by
  intro n
  induction n with
  | zero => intro dp e I L i2 a0 a1; exact ⟨Pc_none, Pc_none⟩
  | succ n ih =>
    intro dp e I L i2 a0 a1
    refine ⟨?_, ?_⟩
    · rw [e_82_0]
      repeat' first
        | with_reducible exact Pc_none
        | with_reducible exact Pc_s3
        | with_reducible refine Pc_ite ?_ ?_
        | with_reducible exact (ih _ _ _ _ _ _ _).2
    · rw [e_82_1]
      repeat' first
        | with_reducible exact Pc_none
        | with_reducible exact Pc_s3
        | with_reducible refine Pc_ite ?_ ?_
        | ((with_reducible refine Pc_c23 (f_36_0 _ _ _ _ _ _ _ _ _) ?_ ?_ (fun _ _ => ?_)); exact (sbs_cons (mem_at 3 rfl) (sbs_nil)); exact sbs_of rfl; dsimp only)
        | ((with_reducible refine Pc_c23 (f_83_0 _ _ _ _ _ _ _ _ _ _ _ _) ?_ ?_ (fun _ _ => ?_)); exact (sbs_cons (mem_at 4 rfl) (sbs_cons (mem_at 5 rfl) (sbs_cons (mem_at 6 rfl) (sbs_cons (mem_at 2 rfl) (sbs_cons (mem_at 3 rfl) (sbs_nil)))))); exact sbs_of rfl; dsimp only)
        | ((with_reducible refine Pc_u3 ?_ (fun _ => ?_)); exact (by first | exact rfl | exact fw_as 0 rfl | exact fw_as 1 rfl | exact fw_as 2 rfl | exact fw_at 3 rfl | exact fw_at 4 rfl | exact fw_at 5 rfl | exact fw_at 6 rfl))
        | with_reducible refine Pc_bR ?_
        | with_reducible refine Pc_st (fun _ => ?_)
theorem f_82_0 (n dp : Nat) (e : EN) (I : (Nat → Nat → Int32)) (L : (Nat → Nat → Int64)) (i2 : Int32) (a0 : Nat) (a1 : Nat) : Pc (g_82 n dp e 0 I L i2 a0 a1) (F3 (WI_82 e a0) WL_82 I L) := (fa_82 n dp e I L i2 a0 a1).1
theorem f_82_1 (n dp : Nat) (e : EN) (I : (Nat → Nat → Int32)) (L : (Nat → Nat → Int64)) (i2 : Int32) (a0 : Nat) (a1 : Nat) : Pc (g_82 n dp e 1 I L i2 a0 a1) (F3 (WI_82 e a0) WL_82 I L) := (fa_82 n dp e I L i2 a0 a1).2
def WI_93 : List (Nat × Nat) := []
def WL_93 : List (Nat × Nat) := []
set_option maxHeartbeats 8000000 in
set_option maxRecDepth 100000 in
theorem fa_93 : ∀ (n dp : Nat) (e : EN) (I : (Nat → Nat → Int32)) (L : (Nat → Nat → Int64)) (i1 : Int32) (i2 : Int32) (i3 : Int32), Pc (g_93 n dp e 0 I L i1 i2 i3) (F3 WI_93 WL_93 I L) ∧
    Pc (g_93 n dp e 1 I L i1 i2 i3) (F3 WI_93 WL_93 I L) ∧
    Pc (g_93 n dp e 2 I L i1 i2 i3) (F3 WI_93 WL_93 I L) ∧
    Pc (g_93 n dp e 3 I L i1 i2 i3) (F3 WI_93 WL_93 I L) := by
  intro n
  induction n with
  | zero => intro dp e I L i1 i2 i3; exact ⟨Pc_none, Pc_none, Pc_none, Pc_none⟩
  | succ n ih =>
    intro dp e I L i1 i2 i3
    refine ⟨?_, ?_, ?_, ?_⟩
    · rw [e_93_0]
      repeat' first
        | with_reducible exact Pc_none
        | with_reducible exact Pc_s3
        | with_reducible refine Pc_ite ?_ ?_
        | with_reducible exact (ih _ _ _ _ _ _ _).2.1
        | with_reducible refine Pc_bR ?_
    · rw [e_93_1]
      repeat' first
        | with_reducible exact Pc_none
        | with_reducible exact Pc_s3
        | with_reducible refine Pc_ite ?_ ?_
        | with_reducible exact (ih _ _ _ _ _ _ _).2.2.1
        | with_reducible refine Pc_bR ?_
    · rw [e_93_2]
      repeat' first
        | with_reducible exact Pc_none
        | with_reducible exact Pc_s3
        | with_reducible refine Pc_ite ?_ ?_
        | with_reducible exact (ih _ _ _ _ _ _ _).2.2.2
        | with_reducible refine Pc_bR ?_
    · rw [e_93_3]
      repeat' first
        | with_reducible exact Pc_none
        | with_reducible exact Pc_s3
theorem f_93_0 (n dp : Nat) (e : EN) (I : (Nat → Nat → Int32)) (L : (Nat → Nat → Int64)) (i1 : Int32) (i2 : Int32) (i3 : Int32) : Pc (g_93 n dp e 0 I L i1 i2 i3) (F3 WI_93 WL_93 I L) := (fa_93 n dp e I L i1 i2 i3).1
theorem f_93_1 (n dp : Nat) (e : EN) (I : (Nat → Nat → Int32)) (L : (Nat → Nat → Int64)) (i1 : Int32) (i2 : Int32) (i3 : Int32) : Pc (g_93 n dp e 1 I L i1 i2 i3) (F3 WI_93 WL_93 I L) := (fa_93 n dp e I L i1 i2 i3).2.1
theorem f_93_2 (n dp : Nat) (e : EN) (I : (Nat → Nat → Int32)) (L : (Nat → Nat → Int64)) (i1 : Int32) (i2 : Int32) (i3 : Int32) : Pc (g_93 n dp e 2 I L i1 i2 i3) (F3 WI_93 WL_93 I L) := (fa_93 n dp e I L i1 i2 i3).2.2.1
theorem f_93_3 (n dp : Nat) (e : EN) (I : (Nat → Nat → Int32)) (L : (Nat → Nat → Int64)) (i1 : Int32) (i2 : Int32) (i3 : Int32) : Pc (g_93 n dp e 3 I L i1 i2 i3) (F3 WI_93 WL_93 I L) := (fa_93 n dp e I L i1 i2 i3).2.2.2
def WI_94 : List (Nat × Nat) := []
def WL_94 : List (Nat × Nat) := []
set_option maxHeartbeats 8000000 in
set_option maxRecDepth 100000 in
theorem fa_94 : ∀ (n dp : Nat) (e : EN) (I : (Nat → Nat → Int32)) (L : (Nat → Nat → Int64)) (i0 : Int32) (i1 : Int32) (i2 : Int32), Pc (g_94 n dp e 0 I L i0 i1 i2) (F3 WI_94 WL_94 I L) := by
  intro n
  induction n with
  | zero => intro dp e I L i0 i1 i2; exact Pc_none
  | succ n ih =>
    intro dp e I L i0 i1 i2
    · rw [e_94_0]
      repeat' first
        | with_reducible exact Pc_none
        | with_reducible exact Pc_s3
theorem f_94_0 (n dp : Nat) (e : EN) (I : (Nat → Nat → Int32)) (L : (Nat → Nat → Int64)) (i0 : Int32) (i1 : Int32) (i2 : Int32) : Pc (g_94 n dp e 0 I L i0 i1 i2) (F3 WI_94 WL_94 I L) := (fa_94 n dp e I L i0 i1 i2)
def WI_97 : List (Nat × Nat) := [(26, 0), (35, 0), (34, 0), (36, 0), (37, 0)]
def WL_97 : List (Nat × Nat) := []
set_option maxHeartbeats 8000000 in
set_option maxRecDepth 100000 in
theorem fa_97 : ∀ (n dp : Nat) (e : EN) (I : (Nat → Nat → Int32)) (L : (Nat → Nat → Int64)) (i2 : Int32) (i3 : Int32) (i4 : Int32), Pc (g_97 n dp e 0 I L i2 i3 i4) (F2 WI_97 WL_97 I L) ∧
    Pc (g_97 n dp e 1 I L i2 i3 i4) (F2 WI_97 WL_97 I L) ∧
    Pc (g_97 n dp e 2 I L i2 i3 i4) (F2 WI_97 WL_97 I L) ∧
    Pc (g_97 n dp e 3 I L i2 i3 i4) (F2 WI_97 WL_97 I L) ∧
    Pc (g_97 n dp e 4 I L i2 i3 i4) (F2 WI_97 WL_97 I L) := by
  intro n
  induction n with
  | zero => intro dp e I L i2 i3 i4; exact ⟨Pc_none, Pc_none, Pc_none, Pc_none, Pc_none⟩
  | succ n ih =>
    intro dp e I L i2 i3 i4
    refine ⟨?_, ?_, ?_, ?_, ?_⟩
    · rw [e_97_0]
      repeat' first
        | with_reducible exact Pc_none
        | with_reducible exact Pc_s2
        | with_reducible refine Pc_ite ?_ ?_
        | ((with_reducible refine Pc_c22 (f_36_0 _ _ _ _ _ _ _ _ _) ?_ ?_ (fun _ _ => ?_)); exact (sbs_cons (mem_at 1 rfl) (sbs_nil)); exact sbs_of rfl; dsimp only)
        | with_reducible exact (ih _ _ _ _ _ _ _).2.1
        | ((with_reducible refine Pc_u2 ?_ (fun _ => ?_)); exact rfl)
        | with_reducible refine Pc_st (fun _ => ?_)
    · rw [e_97_1]
      repeat' first
        | with_reducible exact Pc_none
        | with_reducible exact Pc_s2
        | with_reducible refine Pc_ite ?_ ?_
        | with_reducible exact (ih _ _ _ _ _ _ _).2.2.2.1
        | with_reducible exact (ih _ _ _ _ _ _ _).2.2.1
        | ((with_reducible refine Pc_u2 ?_ (fun _ => ?_)); exact rfl)
        | with_reducible refine Pc_st (fun _ => ?_)
    · rw [e_97_2]
      repeat' first
        | with_reducible exact Pc_none
        | with_reducible exact Pc_s2
        | with_reducible exact (ih _ _ _ _ _ _ _).2.1
    · rw [e_97_3]
      repeat' first
        | with_reducible exact Pc_none
        | with_reducible exact Pc_s2
        | with_reducible exact (ih _ _ _ _ _ _ _).2.2.2.2
    · rw [e_97_4]
      repeat' first
        | with_reducible exact Pc_none
        | with_reducible exact Pc_s2
        | with_reducible refine Pc_ite ?_ ?_
        | with_reducible exact (ih _ _ _ _ _ _ _).2.2.2.2
        | ((with_reducible refine Pc_u2 ?_ (fun _ => ?_)); exact rfl)
        | with_reducible refine Pc_st (fun _ => ?_)
theorem f_97_0 (n dp : Nat) (e : EN) (I : (Nat → Nat → Int32)) (L : (Nat → Nat → Int64)) (i2 : Int32) (i3 : Int32) (i4 : Int32) : Pc (g_97 n dp e 0 I L i2 i3 i4) (F2 WI_97 WL_97 I L) := (fa_97 n dp e I L i2 i3 i4).1
theorem f_97_1 (n dp : Nat) (e : EN) (I : (Nat → Nat → Int32)) (L : (Nat → Nat → Int64)) (i2 : Int32) (i3 : Int32) (i4 : Int32) : Pc (g_97 n dp e 1 I L i2 i3 i4) (F2 WI_97 WL_97 I L) := (fa_97 n dp e I L i2 i3 i4).2.1
theorem f_97_2 (n dp : Nat) (e : EN) (I : (Nat → Nat → Int32)) (L : (Nat → Nat → Int64)) (i2 : Int32) (i3 : Int32) (i4 : Int32) : Pc (g_97 n dp e 2 I L i2 i3 i4) (F2 WI_97 WL_97 I L) := (fa_97 n dp e I L i2 i3 i4).2.2.1
theorem f_97_3 (n dp : Nat) (e : EN) (I : (Nat → Nat → Int32)) (L : (Nat → Nat → Int64)) (i2 : Int32) (i3 : Int32) (i4 : Int32) : Pc (g_97 n dp e 3 I L i2 i3 i4) (F2 WI_97 WL_97 I L) := (fa_97 n dp e I L i2 i3 i4).2.2.2.1
theorem f_97_4 (n dp : Nat) (e : EN) (I : (Nat → Nat → Int32)) (L : (Nat → Nat → Int64)) (i2 : Int32) (i3 : Int32) (i4 : Int32) : Pc (g_97 n dp e 4 I L i2 i3 i4) (F2 WI_97 WL_97 I L) := (fa_97 n dp e I L i2 i3 i4).2.2.2.2
def WI_98 (a3 : Nat) (a4 : Nat) : List (Nat × Nat) := [(a3, 0), (a4, 0)]
def WL_98 : List (Nat × Nat) := []
set_option maxHeartbeats 8000000 in
set_option maxRecDepth 100000 in
theorem fa_98 : ∀ (n dp : Nat) (e : EN) (I : (Nat → Nat → Int32)) (L : (Nat → Nat → Int64)) (i1 : Int32) (i2 : Int32) (i5 : Int32) (i6 : Int32) (i7 : Int32) (i8 : Int32) (i9 : Int32) (i10 : Int32) (i11 : Int32) (a3 : Nat) (a4 : Nat), Pc (g_98 n dp e 0 I L i1 i2 i5 i6 i7 i8 i9 i10 i11 a3 a4) (F2 (WI_98 a3 a4) WL_98 I L) ∧
    Pc (g_98 n dp e 1 I L i1 i2 i5 i6 i7 i8 i9 i10 i11 a3 a4) (F2 (WI_98 a3 a4) WL_98 I L) ∧
    Pc (g_98 n dp e 2 I L i1 i2 i5 i6 i7 i8 i9 i10 i11 a3 a4) (F2 (WI_98 a3 a4) WL_98 I L) := by
  intro n
  induction n with
  | zero => intro dp e I L i1 i2 i5 i6 i7 i8 i9 i10 i11 a3 a4; exact ⟨Pc_none, Pc_none, Pc_none⟩
  | succ n ih =>
    intro dp e I L i1 i2 i5 i6 i7 i8 i9 i10 i11 a3 a4
    refine ⟨?_, ?_, ?_⟩
    · rw [e_98_0]
      repeat' first
        | with_reducible exact Pc_none
        | with_reducible exact Pc_s2
        | with_reducible refine Pc_ite ?_ ?_
        | with_reducible exact (ih _ _ _ _ _ _ _ _ _ _ _ _ _ _ _).2.1
        | with_reducible refine Pc_st (fun _ => ?_)
    · rw [e_98_1]
      repeat' first
        | with_reducible exact Pc_none
        | with_reducible exact Pc_s2
        | with_reducible refine Pc_ite ?_ ?_
        | with_reducible exact (ih _ _ _ _ _ _ _ _ _ _ _ _ _ _ _).2.2
        | with_reducible refine Pc_st (fun _ => ?_)
    · rw [e_98_2]
      repeat' first
        | with_reducible exact Pc_none
        | with_reducible exact Pc_s2
        | with_reducible refine Pc_ite ?_ ?_
        | with_reducible exact (ih _ _ _ _ _ _ _ _ _ _ _ _ _ _ _).2.1
        | with_reducible exact (ih _ _ _ _ _ _ _ _ _ _ _ _ _ _ _).2.2
        | ((with_reducible refine Pc_u2 ?_ (fun _ => ?_)); exact (by first | exact rfl | exact fw_at 0 rfl | exact fw_at 1 rfl))
        | with_reducible refine Pc_st (fun _ => ?_)
theorem f_98_0 (n dp : Nat) (e : EN) (I : (Nat → Nat → Int32)) (L : (Nat → Nat → Int64)) (i1 : Int32) (i2 : Int32) (i5 : Int32) (i6 : Int32) (i7 : Int32) (i8 : Int32) (i9 : Int32) (i10 : Int32) (i11 : Int32) (a3 : Nat) (a4 : Nat) : Pc (g_98 n dp e 0 I L i1 i2 i5 i6 i7 i8 i9 i10 i11 a3 a4) (F2 (WI_98 a3 a4) WL_98 I L) := (fa_98 n dp e I L i1 i2 i5 i6 i7 i8 i9 i10 i11 a3 a4).1
theorem f_98_1 (n dp : Nat) (e : EN) (I : (Nat → Nat → Int32)) (L : (Nat → Nat → Int64)) (i1 : Int32) (i2 : Int32) (i5 : Int32) (i6 : Int32) (i7 : Int32) (i8 : Int32) (i9 : Int32) (i10 : Int32) (i11 : Int32) (a3 : Nat) (a4 : Nat) : Pc (g_98 n dp e 1 I L i1 i2 i5 i6 i7 i8 i9 i10 i11 a3 a4) (F2 (WI_98 a3 a4) WL_98 I L) := (fa_98 n dp e I L i1 i2 i5 i6 i7 i8 i9 i10 i11 a3 a4).2.1
theorem f_98_2 (n dp : Nat) (e : EN) (I : (Nat → Nat → Int32)) (L : (Nat → Nat → Int64)) (i1 : Int32) (i2 : Int32) (i5 : Int32) (i6 : Int32) (i7 : Int32) (i8 : Int32) (i9 : Int32) (i10 : Int32) (i11 : Int32) (a3 : Nat) (a4 : Nat) : Pc (g_98 n dp e 2 I L i1 i2 i5 i6 i7 i8 i9 i10 i11 a3 a4) (F2 (WI_98 a3 a4) WL_98 I L) := (fa_98 n dp e I L i1 i2 i5 i6 i7 i8 i9 i10 i11 a3 a4).2.2
def WI_100 : List (Nat × Nat) := []
def WL_100 : List (Nat × Nat) := []
set_option maxHeartbeats 8000000 in
set_option maxRecDepth 100000 in
theorem fa_100 : ∀ (n dp : Nat) (e : EN) (I : (Nat → Nat → Int32)) (L : (Nat → Nat → Int64)) (i2 : Int32) (i3 : Int32) (i4 : Int32) (a1 : Nat), Pc (g_100 n dp e 0 I L i2 i3 i4 a1) (F3 WI_100 WL_100 I L) ∧
    Pc (g_100 n dp e 1 I L i2 i3 i4 a1) (F3 WI_100 WL_100 I L) := by
  intro n
  induction n with
  | zero => intro dp e I L i2 i3 i4 a1; exact ⟨Pc_none, Pc_none⟩
  | succ n ih =>
    intro dp e I L i2 i3 i4 a1
    refine ⟨?_, ?_⟩
    · rw [e_100_0]
      repeat' first
        | with_reducible exact Pc_none
        | with_reducible exact Pc_s3
        | with_reducible exact (ih _ _ _ _ _ _ _ _).2
    · rw [e_100_1]
      repeat' first
        | with_reducible exact Pc_none
        | with_reducible exact Pc_s3
        | with_reducible refine Pc_ite ?_ ?_
        | with_reducible exact (ih _ _ _ _ _ _ _ _).2
        | with_reducible refine Pc_bR ?_
        | with_reducible refine Pc_st (fun _ => ?_)
theorem f_100_0 (n dp : Nat) (e : EN) (I : (Nat → Nat → Int32)) (L : (Nat → Nat → Int64)) (i2 : Int32) (i3 : Int32) (i4 : Int32) (a1 : Nat) : Pc (g_100 n dp e 0 I L i2 i3 i4 a1) (F3 WI_100 WL_100 I L) := (fa_100 n dp e I L i2 i3 i4 a1).1
theorem f_100_1 (n dp : Nat) (e : EN) (I : (Nat → Nat → Int32)) (L : (Nat → Nat → Int64)) (i2 : Int32) (i3 : Int32) (i4 : Int32) (a1 : Nat) : Pc (g_100 n dp e 1 I L i2 i3 i4 a1) (F3 WI_100 WL_100 I L) := (fa_100 n dp e I L i2 i3 i4 a1).2
def WI_101 : List (Nat × Nat) := []
def WL_101 : List (Nat × Nat) := []
set_option maxHeartbeats 8000000 in
set_option maxRecDepth 100000 in
theorem fa_101 : ∀ (n dp : Nat) (e : EN) (I : (Nat → Nat → Int32)) (L : (Nat → Nat → Int64)) (i2 : Int32) (i3 : Int32) (i4 : Int32) (a1 : Nat), Pc (g_101 n dp e 0 I L i2 i3 i4 a1) (F3 WI_101 WL_101 I L) ∧
    Pc (g_101 n dp e 1 I L i2 i3 i4 a1) (F3 WI_101 WL_101 I L) := by
  intro n
  induction n with
  | zero => intro dp e I L i2 i3 i4 a1; exact ⟨Pc_none, Pc_none⟩
  | succ n ih =>
    intro dp e I L i2 i3 i4 a1
    refine ⟨?_, ?_⟩
    · rw [e_101_0]
      repeat' first
        | with_reducible exact Pc_none
        | with_reducible exact Pc_s3
        | with_reducible exact (ih _ _ _ _ _ _ _ _).2
    · rw [e_101_1]
      repeat' first
        | with_reducible exact Pc_none
        | with_reducible exact Pc_s3
        | with_reducible refine Pc_ite ?_ ?_
        | with_reducible exact (ih _ _ _ _ _ _ _ _).2
        | with_reducible refine Pc_bR ?_
        | with_reducible refine Pc_st (fun _ => ?_)
theorem f_101_0 (n dp : Nat) (e : EN) (I : (Nat → Nat → Int32)) (L : (Nat → Nat → Int64)) (i2 : Int32) (i3 : Int32) (i4 : Int32) (a1 : Nat) : Pc (g_101 n dp e 0 I L i2 i3 i4 a1) (F3 WI_101 WL_101 I L) := (fa_101 n dp e I L i2 i3 i4 a1).1
theorem f_101_1 (n dp : Nat) (e : EN) (I : (Nat → Nat → Int32)) (L : (Nat → Nat → Int64)) (i2 : Int32) (i3 : Int32) (i4 : Int32) (a1 : Nat) : Pc (g_101 n dp e 1 I L i2 i3 i4 a1) (F3 WI_101 WL_101 I L) := (fa_101 n dp e I L i2 i3 i4 a1).2
def WI_102 : List (Nat × Nat) := []
def WL_102 : List (Nat × Nat) := []
set_option maxHeartbeats 8000000 in
set_option maxRecDepth 100000 in
theorem fa_102 : ∀ (n dp : Nat) (e : EN) (I : (Nat → Nat → Int32)) (L : (Nat → Nat → Int64)) (i1 : Int32) (i2 : Int32) (i3 : Int32), Pc (g_102 n dp e 0 I L i1 i2 i3) (F3 WI_102 WL_102 I L) ∧
    Pc (g_102 n dp e 1 I L i1 i2 i3) (F3 WI_102 WL_102 I L) := by
  intro n
  induction n with
  | zero => intro dp e I L i1 i2 i3; exact ⟨Pc_none, Pc_none⟩
  | succ n ih =>
    intro dp e I L i1 i2 i3
    refine ⟨?_, ?_⟩
    · rw [e_102_0]
      repeat' first
        | with_reducible exact Pc_none
        | with_reducible exact Pc_s3
        | with_reducible exact (ih _ _ _ _ _ _ _).2
    · rw [e_102_1]
      repeat' first
        | with_reducible exact Pc_none
        | with_reducible exact Pc_s3
        | with_reducible refine Pc_ite ?_ ?_
        | with_reducible exact (ih _ _ _ _ _ _ _).2
        | with_reducible refine Pc_st (fun _ => ?_)
theorem f_102_0 (n dp : Nat) (e : EN) (I : (Nat → Nat → Int32)) (L : (Nat → Nat → Int64)) (i1 : Int32) (i2 : Int32) (i3 : Int32) : Pc (g_102 n dp e 0 I L i1 i2 i3) (F3 WI_102 WL_102 I L) := (fa_102 n dp e I L i1 i2 i3).1
theorem f_102_1 (n dp : Nat) (e : EN) (I : (Nat → Nat → Int32)) (L : (Nat → Nat → Int64)) (i1 : Int32) (i2 : Int32) (i3 : Int32) : Pc (g_102 n dp e 1 I L i1 i2 i3) (F3 WI_102 WL_102 I L) := (fa_102 n dp e I L i1 i2 i3).2
def WI_99 : List (Nat × Nat) := [(33, 0), (31, 0), (32, 0), (27, 0), (29, 0), (28, 0), (30, 0)]
def WL_99 : List (Nat × Nat) := []
set_option maxHeartbeats 8000000 in
set_option maxRecDepth 100000 in
theorem fa_99 : ∀ (n dp : Nat) (e : EN) (I : (Nat → Nat → Int32)) (L : (Nat → Nat → Int64)) (i2 : Int32) (i4 : Int32) (i5 : Int32) (i6 : Int32) (i7 : Int32) (i8 : Int32) (i9 : Int32) (a3 : Nat), Pc (g_99 n dp e 0 I L i2 i4 i5 i6 i7 i8 i9 a3) (F2 WI_99 WL_99 I L) ∧
    Pc (g_99 n dp e 1 I L i2 i4 i5 i6 i7 i8 i9 a3) (F2 WI_99 WL_99 I L) ∧
    Pc (g_99 n dp e 2 I L i2 i4 i5 i6 i7 i8 i9 a3) (F2 WI_99 WL_99 I L) ∧
    Pc (g_99 n dp e 3 I L i2 i4 i5 i6 i7 i8 i9 a3) (F2 WI_99 WL_99 I L) ∧
    Pc (g_99 n dp e 4 I L i2 i4 i5 i6 i7 i8 i9 a3) (F2 WI_99 WL_99 I L) ∧
    Pc (g_99 n dp e 5 I L i2 i4 i5 i6 i7 i8 i9 a3) (F2 WI_99 WL_99 I L) ∧
    Pc (g_99 n dp e 6 I L i2 i4 i5 i6 i7 i8 i9 a3) (F2 WI_99 WL_99 I L) := by
  intro n
  induction n with
  | zero => intro dp e I L i2 i4 i5 i6 i7 i8 i9 a3; exact ⟨Pc_none, Pc_none, Pc_none, Pc_none, Pc_none, Pc_none, Pc_none⟩
  | succ n ih =>
    intro dp e I L i2 i4 i5 i6 i7 i8 i9 a3
    refine ⟨?_, ?_, ?_, ?_, ?_, ?_, ?_⟩
    · rw [e_99_0]
      repeat' first
        | with_reducible exact Pc_none
        | with_reducible exact Pc_s2
        | with_reducible exact (ih _ _ _ _ _ _ _ _ _ _ _ _).2.1
    · rw [e_99_1]
      repeat' first
        | with_reducible exact Pc_none
        | with_reducible exact Pc_s2
        | with_reducible refine Pc_ite ?_ ?_
        | ((with_reducible refine Pc_c32 (f_100_0 _ _ _ _ _ _ _ _ _) ?_ ?_ (fun _ _ _ => ?_)); exact (sbs_of rfl); exact sbs_of rfl; dsimp only)
        | ((with_reducible refine Pc_c32 (f_101_0 _ _ _ _ _ _ _ _ _) ?_ ?_ (fun _ _ _ => ?_)); exact (sbs_of rfl); exact sbs_of rfl; dsimp only)
        | ((with_reducible refine Pc_c32 (f_102_0 _ _ _ _ _ _ _ _) ?_ ?_ (fun _ _ _ => ?_)); exact (sbs_of rfl); exact sbs_of rfl; dsimp only)
        | with_reducible exact (ih _ _ _ _ _ _ _ _ _ _ _ _).2.2.1
        | ((with_reducible refine Pc_u2 ?_ (fun _ => ?_)); exact rfl)
        | with_reducible refine Pc_st (fun _ => ?_)
    · rw [e_99_2]
      repeat' first
        | with_reducible exact Pc_none
        | with_reducible exact Pc_s2
        | with_reducible refine Pc_ite ?_ ?_
        | with_reducible exact (ih _ _ _ _ _ _ _ _ _ _ _ _).2.2.2.1
        | with_reducible exact (ih _ _ _ _ _ _ _ _ _ _ _ _).2.2.1
    · rw [e_99_3]
      repeat' first
        | with_reducible exact Pc_none
        | with_reducible exact Pc_s2
        | with_reducible refine Pc_ite ?_ ?_
        | with_reducible exact (ih _ _ _ _ _ _ _ _ _ _ _ _).2.2.2.2.1
        | ((with_reducible refine Pc_u2 ?_ (fun _ => ?_)); exact rfl)
        | with_reducible refine Pc_st (fun _ => ?_)
    · rw [e_99_4]
      repeat' first
        | with_reducible exact Pc_none
        | with_reducible exact Pc_s2
        | with_reducible refine Pc_ite ?_ ?_
        | with_reducible exact (ih _ _ _ _ _ _ _ _ _ _ _ _).2.2.2.2.2.1
        | with_reducible exact (ih _ _ _ _ _ _ _ _ _ _ _ _).2.2.2.2.2.2
        | ((with_reducible refine Pc_u2 ?_ (fun _ => ?_)); exact rfl)
        | with_reducible refine Pc_st (fun _ => ?_)
    · rw [e_99_5]
      repeat' first
        | with_reducible exact Pc_none
        | with_reducible exact Pc_s2
        | with_reducible refine Pc_ite ?_ ?_
        | with_reducible exact (ih _ _ _ _ _ _ _ _ _ _ _ _).2.2.2.2.2.2
        | ((with_reducible refine Pc_u2 ?_ (fun _ => ?_)); exact rfl)
        | with_reducible refine Pc_st (fun _ => ?_)
    · rw [e_99_6]
      repeat' first
        | with_reducible exact Pc_none
        | with_reducible exact Pc_s2
        | with_reducible exact (ih _ _ _ _ _ _ _ _ _ _ _ _).2.1
theorem f_99_0 (n dp : Nat) (e : EN) (I : (Nat → Nat → Int32)) (L : (Nat → Nat → Int64)) (i2 : Int32) (i4 : Int32) (i5 : Int32) (i6 : Int32) (i7 : Int32) (i8 : Int32) (i9 : Int32) (a3 : Nat) : Pc (g_99 n dp e 0 I L i2 i4 i5 i6 i7 i8 i9 a3) (F2 WI_99 WL_99 I L) := (fa_99 n dp e I L i2 i4 i5 i6 i7 i8 i9 a3).1
theorem f_99_1 (n dp : Nat) (e : EN) (I : (Nat → Nat → Int32)) (L : (Nat → Nat → Int64)) (i2 : Int32) (i4 : Int32) (i5 : Int32) (i6 : Int32) (i7 : Int32) (i8 : Int32) (i9 : Int32) (a3 : Nat) : Pc (g_99 n dp e 1 I L i2 i4 i5 i6 i7 i8 i9 a3) (F2 WI_99 WL_99 I L) := (fa_99 n dp e I L i2 i4 i5 i6 i7 i8 i9 a3).2.1
theorem f_99_2 (n dp : Nat) (e : EN) (I : (Nat → Nat → Int32)) (L : (Nat → Nat → Int64)) (i2 : Int32) (i4 : Int32) (i5 : Int32) (i6 : Int32) (i7 : Int32) (i8 : Int32) (i9 : Int32) (a3 : Nat) : Pc (g_99 n dp e 2 I L i2 i4 i5 i6 i7 i8 i9 a3) (F2 WI_99 WL_99 I L) := (fa_99 n dp e I L i2 i4 i5 i6 i7 i8 i9 a3).2.2.1
theorem f_99_3 (n dp : Nat) (e : EN) (I : (Nat → Nat → Int32)) (L : (Nat → Nat → Int64)) (i2 : Int32) (i4 : Int32) (i5 : Int32) (i6 : Int32) (i7 : Int32) (i8 : Int32) (i9 : Int32) (a3 : Nat) : Pc (g_99 n dp e 3 I L i2 i4 i5 i6 i7 i8 i9 a3) (F2 WI_99 WL_99 I L) := (fa_99 n dp e I L i2 i4 i5 i6 i7 i8 i9 a3).2.2.2.1
theorem f_99_4 (n dp : Nat) (e : EN) (I : (Nat → Nat → Int32)) (L : (Nat → Nat → Int64)) (i2 : Int32) (i4 : Int32) (i5 : Int32) (i6 : Int32) (i7 : Int32) (i8 : Int32) (i9 : Int32) (a3 : Nat) : Pc (g_99 n dp e 4 I L i2 i4 i5 i6 i7 i8 i9 a3) (F2 WI_99 WL_99 I L) := (fa_99 n dp e I L i2 i4 i5 i6 i7 i8 i9 a3).2.2.2.2.1
theorem f_99_5 (n dp : Nat) (e : EN) (I : (Nat → Nat → Int32)) (L : (Nat → Nat → Int64)) (i2 : Int32) (i4 : Int32) (i5 : Int32) (i6 : Int32) (i7 : Int32) (i8 : Int32) (i9 : Int32) (a3 : Nat) : Pc (g_99 n dp e 5 I L i2 i4 i5 i6 i7 i8 i9 a3) (F2 WI_99 WL_99 I L) := (fa_99 n dp e I L i2 i4 i5 i6 i7 i8 i9 a3).2.2.2.2.2.1
theorem f_99_6 (n dp : Nat) (e : EN) (I : (Nat → Nat → Int32)) (L : (Nat → Nat → Int64)) (i2 : Int32) (i4 : Int32) (i5 : Int32) (i6 : Int32) (i7 : Int32) (i8 : Int32) (i9 : Int32) (a3 : Nat) : Pc (g_99 n dp e 6 I L i2 i4 i5 i6 i7 i8 i9 a3) (F2 WI_99 WL_99 I L) := (fa_99 n dp e I L i2 i4 i5 i6 i7 i8 i9 a3).2.2.2.2.2.2
def WI_96 : List (Nat × Nat) := [(26, 0), (35, 0), (34, 0), (36, 0), (37, 0), (38, 0), (41, 0), (39, 0), (42, 0), (40, 0), (43, 0), (32, 0), (33, 0), (31, 0), (27, 0), (29, 0), (28, 0), (30, 0)]
def WL_96 : List (Nat × Nat) := []
set_option maxHeartbeats 8000000 in
set_option maxRecDepth 100000 in
theorem fa_96 : ∀ (n dp : Nat) (e : EN) (I : (Nat → Nat → Int32)) (L : (Nat → Nat → Int64)) (i3 : Int32), Pc (g_96 n dp e 0 I L i3) (F2 WI_96 WL_96 I L) ∧
    Pc (g_96 n dp e 1 I L i3) (F2 WI_96 WL_96 I L) ∧
    Pc (g_96 n dp e 2 I L i3) (F2 WI_96 WL_96 I L) := by
  intro n
  induction n with
  | zero => intro dp e I L i3; exact ⟨Pc_none, Pc_none, Pc_none⟩
  | succ n ih =>
    intro dp e I L i3
    refine ⟨?_, ?_, ?_⟩
    · rw [e_96_0]
      repeat' first
        | with_reducible exact Pc_none
        | with_reducible exact Pc_s2
        | with_reducible refine Pc_ite ?_ ?_
        | ((with_reducible refine Pc_c22 (f_97_0 _ _ _ _ _ _ _ _) ?_ ?_ (fun _ _ => ?_)); exact (sbs_of rfl); exact sbs_of rfl; dsimp only)
        | ((with_reducible refine Pc_c22 (f_98_0 _ _ _ _ _ _ _ _ _ _ _ _ _ _ _ _) ?_ ?_ (fun _ _ => ?_)); exact (sbs_cons (mem_at 5 rfl) (sbs_cons (mem_at 6 rfl) (sbs_nil))); exact sbs_of rfl; dsimp only)
        | ((with_reducible refine Pc_c22 (f_98_0 _ _ _ _ _ _ _ _ _ _ _ _ _ _ _ _) ?_ ?_ (fun _ _ => ?_)); exact (sbs_cons (mem_at 7 rfl) (sbs_cons (mem_at 8 rfl) (sbs_nil))); exact sbs_of rfl; dsimp only)
        | ((with_reducible refine Pc_c22 (f_98_0 _ _ _ _ _ _ _ _ _ _ _ _ _ _ _ _) ?_ ?_ (fun _ _ => ?_)); exact (sbs_cons (mem_at 9 rfl) (sbs_cons (mem_at 10 rfl) (sbs_nil))); exact sbs_of rfl; dsimp only)
        | with_reducible exact (ih _ _ _ _ _).2.1
    · rw [e_96_1]
      repeat' first
        | with_reducible exact Pc_none
        | with_reducible exact Pc_s2
        | with_reducible refine Pc_ite ?_ ?_
        | with_reducible exact (ih _ _ _ _ _).2.2
        | ((with_reducible refine Pc_c22 (f_99_0 _ _ _ _ _ _ _ _ _ _ _ _ _) ?_ ?_ (fun _ _ => ?_)); exact (sbs_of rfl); exact sbs_of rfl; dsimp only)
        | ((with_reducible refine Pc_u2 ?_ (fun _ => ?_)); exact rfl)
        | with_reducible refine Pc_bR ?_
        | with_reducible refine Pc_st (fun _ => ?_)
    · rw [e_96_2]
      repeat' first
        | with_reducible exact Pc_none
        | with_reducible exact Pc_s2
        | with_reducible exact (ih _ _ _ _ _).2.1
theorem f_96_0 (n dp : Nat) (e : EN) (I : (Nat → Nat → Int32)) (L : (Nat → Nat → Int64)) (i3 : Int32) : Pc (g_96 n dp e 0 I L i3) (F2 WI_96 WL_96 I L) := (fa_96 n dp e I L i3).1
theorem f_96_1 (n dp : Nat) (e : EN) (I : (Nat → Nat → Int32)) (L : (Nat → Nat → Int64)) (i3 : Int32) : Pc (g_96 n dp e 1 I L i3) (F2 WI_96 WL_96 I L) := (fa_96 n dp e I L i3).2.1
theorem f_96_2 (n dp : Nat) (e : EN) (I : (Nat → Nat → Int32)) (L : (Nat → Nat → Int64)) (i3 : Int32) : Pc (g_96 n dp e 2 I L i3) (F2 WI_96 WL_96 I L) := (fa_96 n dp e I L i3).2.2
def WI_105 : List (Nat × Nat) := [(54, 0)]
def WL_105 : List (Nat × Nat) := []
set_option maxHeartbeats 8000000 in
set_option maxRecDepth 100000 in
theorem fa_105 : ∀ (n dp : Nat) (e : EN) (I : (Nat → Nat → Int32)) (L : (Nat → Nat → Int64)) (i1 : Int32) (i2 : Int32) (i3 : Int32) (i4 : Int32) (i5 : Int32), Pc (g_105 n dp e 0 I L i1 i2 i3 i4 i5) (F3 WI_105 WL_105 I L) ∧
    Pc (g_105 n dp e 1 I L i1 i2 i3 i4 i5) (F3 WI_105 WL_105 I L) := by
  intro n
  induction n with
  | zero => intro dp e I L i1 i2 i3 i4 i5; exact ⟨Pc_none, Pc_none⟩
  | succ n ih =>
    intro dp e I L i1 i2 i3 i4 i5
    refine ⟨?_, ?_⟩
    · rw [e_105_0]
      repeat' first
        | with_reducible exact Pc_none
        | with_reducible exact Pc_s3
        | with_reducible refine Pc_ite ?_ ?_
        | with_reducible exact (ih _ _ _ _ _ _ _ _ _).2
        | with_reducible refine Pc_st (fun _ => ?_)
    · rw [e_105_1]
      repeat' first
        | with_reducible exact Pc_none
        | with_reducible exact Pc_s3
        | with_reducible refine Pc_ite ?_ ?_
        | with_reducible exact (ih _ _ _ _ _ _ _ _ _).2
        | ((with_reducible refine Pc_u3 ?_ (fun _ => ?_)); exact rfl)
        | with_reducible refine Pc_st (fun _ => ?_)
theorem f_105_0 (n dp : Nat) (e : EN) (I : (Nat → Nat → Int32)) (L : (Nat → Nat → Int64)) (i1 : Int32) (i2 : Int32) (i3 : Int32) (i4 : Int32) (i5 : Int32) : Pc (g_105 n dp e 0 I L i1 i2 i3 i4 i5) (F3 WI_105 WL_105 I L) := (fa_105 n dp e I L i1 i2 i3 i4 i5).1
theorem f_105_1 (n dp : Nat) (e : EN) (I : (Nat → Nat → Int32)) (L : (Nat → Nat → Int64)) (i1 : Int32) (i2 : Int32) (i3 : Int32) (i4 : Int32) (i5 : Int32) : Pc (g_105 n dp e 1 I L i1 i2 i3 i4 i5) (F3 WI_105 WL_105 I L) := (fa_105 n dp e I L i1 i2 i3 i4 i5).2
def WI_111 : List (Nat × Nat) := []
def WL_111 : List (Nat × Nat) := []
set_option maxHeartbeats 8000000 in
set_option maxRecDepth 100000 in
theorem fa_111 : ∀ (n dp : Nat) (e : EN) (I : (Nat → Nat → Int32)) (L : (Nat → Nat → Int64)) (i0 : Int32) (i1 : Int32), Pc (g_111 n dp e 0 I L i0 i1) (F3 WI_111 WL_111 I L) := by
  intro n
  induction n with
  | zero => intro dp e I L i0 i1; exact Pc_none
  | succ n ih =>
    intro dp e I L i0 i1
    · rw [e_111_0]
      repeat' first
        | with_reducible exact Pc_none
        | with_reducible exact Pc_s3
        | with_reducible refine Pc_st (fun _ => ?_)
theorem f_111_0 (n dp : Nat) (e : EN) (I : (Nat → Nat → Int32)) (L : (Nat → Nat → Int64)) (i0 : Int32) (i1 : Int32) : Pc (g_111 n dp e 0 I L i0 i1) (F3 WI_111 WL_111 I L) := (fa_111 n dp e I L i0 i1)
def WI_112 : List (Nat × Nat) := []
def WL_112 : List (Nat × Nat) := []
set_option maxHeartbeats 8000000 in
set_option maxRecDepth 100000 in
theorem fa_112 : ∀ (n dp : Nat) (e : EN) (I : (Nat → Nat → Int32)) (L : (Nat → Nat → Int64)) (i1 : Int32), Pc (g_112 n dp e 0 I L i1) (F3 WI_112 WL_112 I L) := by
  intro n
  induction n with
  | zero => intro dp e I L i1; exact Pc_none
  | succ n ih =>
    intro dp e I L i1
    · rw [e_112_0]
      repeat' first
        | with_reducible exact Pc_none
        | with_reducible exact Pc_s3
        | with_reducible refine Pc_ite ?_ ?_
theorem f_112_0 (n dp : Nat) (e : EN) (I : (Nat → Nat → Int32)) (L : (Nat → Nat → Int64)) (i1 : Int32) : Pc (g_112 n dp e 0 I L i1) (F3 WI_112 WL_112 I L) := (fa_112 n dp e I L i1)
def WI_113 : List (Nat × Nat) := []
def WL_113 : List (Nat × Nat) := []
set_option maxHeartbeats 8000000 in
set_option maxRecDepth 100000 in
theorem fa_113 : ∀ (n dp : Nat) (e : EN) (I : (Nat → Nat → Int32)) (L : (Nat → Nat → Int64)) (i0 : Int32) (i1 : Int32) (i2 : Int32), Pc (g_113 n dp e 0 I L i0 i1 i2) (F3 WI_113 WL_113 I L) := by
  intro n
  induction n with
  | zero => intro dp e I L i0 i1 i2; exact Pc_none
  | succ n ih =>
    intro dp e I L i0 i1 i2
    · rw [e_113_0]
      repeat' first
        | with_reducible exact Pc_none
        | with_reducible exact Pc_s3
        | with_reducible refine Pc_ite ?_ ?_
        | with_reducible refine Pc_st (fun _ => ?_)
theorem f_113_0 (n dp : Nat) (e : EN) (I : (Nat → Nat → Int32)) (L : (Nat → Nat → Int64)) (i0 : Int32) (i1 : Int32) (i2 : Int32) : Pc (g_113 n dp e 0 I L i0 i1 i2) (F3 WI_113 WL_113 I L) := (fa_113 n dp e I L i0 i1 i2)
def WI_110 (e : EN) : List (Nat × Nat) := [(((e.2.2 44 6).getD 0), 0), (((e.2.2 44 5).getD 0), 0), (((e.2.2 44 7).getD 0), 0), (((e.2.2 44 4).getD 0), 0)]
def WL_110 : List (Nat × Nat) := []
set_option maxHeartbeats 8000000 in
set_option maxRecDepth 100000 in
theorem fa_110 : ∀ (n dp : Nat) (e : EN) (I : (Nat → Nat → Int32)) (L : (Nat → Nat → Int64)) (i1 : Int32) (i2 : Int32) (i3 : Int32) (i4 : Int32) (i7 : Int32) (i8 : Int32) (i9 : Int32) (i10 : Int32) (i11 : Int32) (i12 : Int32) (i13 : Int32) (i14 : Int32) (i15 : Int32), Pc (g_110 n dp e 0 I L i1 i2 i3 i4 i7 i8 i9 i10 i11 i12 i13 i14 i15) (F3 (WI_110 e) WL_110 I L) ∧
    Pc (g_110 n dp e 1 I L i1 i2 i3 i4 i7 i8 i9 i10 i11 i12 i13 i14 i15) (F3 (WI_110 e) WL_110 I L) ∧
    Pc (g_110 n dp e 2 I L i1 i2 i3 i4 i7 i8 i9 i10 i11 i12 i13 i14 i15) (F3 (WI_110 e) WL_110 I L) := by
  intro n
  induction n with
  | zero => intro dp e I L i1 i2 i3 i4 i7 i8 i9 i10 i11 i12 i13 i14 i15; exact ⟨Pc_none, Pc_none, Pc_none⟩
  | succ n ih =>
    intro dp e I L i1 i2 i3 i4 i7 i8 i9 i10 i11 i12 i13 i14 i15
    refine ⟨?_, ?_, ?_⟩
    · rw [e_110_0]
      repeat' first
        | with_reducible exact Pc_none
        | with_reducible exact Pc_s3
        | with_reducible refine Pc_ite ?_ ?_
        | with_reducible exact (ih _ _ _ _ _ _ _ _ _ _ _ _ _ _ _ _ _).2.1
        | with_reducible refine Pc_bR ?_
        | with_reducible refine Pc_st (fun _ => ?_)
    · rw [e_110_1]
      repeat' first
        | with_reducible exact Pc_none
        | with_reducible exact Pc_s3
        | with_reducible refine Pc_ite ?_ ?_
        | ((with_reducible refine Pc_c33 (f_111_0 _ _ _ _ _ _ _) ?_ ?_ (fun _ _ _ => ?_)); exact (sbs_nil); exact sbs_of rfl; dsimp only)
        | ((with_reducible refine Pc_c33 (f_112_0 _ _ _ _ _ _) ?_ ?_ (fun _ _ _ => ?_)); exact (sbs_nil); exact sbs_of rfl; dsimp only)
        | ((with_reducible refine Pc_c33 (f_113_0 _ _ _ _ _ _ _ _) ?_ ?_ (fun _ _ _ => ?_)); exact (sbs_nil); exact sbs_of rfl; dsimp only)
        | with_reducible exact (ih _ _ _ _ _ _ _ _ _ _ _ _ _ _ _ _ _).2.2
        | ((with_reducible refine Pc_u3 ?_ (fun _ => ?_)); exact (by first | exact rfl | exact fw_at 0 rfl | exact fw_at 1 rfl | exact fw_at 2 rfl | exact fw_at 3 rfl))
        | with_reducible refine Pc_bR ?_
        | with_reducible refine Pc_st (fun _ => ?_)
    · rw [e_110_2]
      repeat' first
        | with_reducible exact Pc_none
        | with_reducible exact Pc_s3
        | with_reducible exact (ih _ _ _ _ _ _ _ _ _ _ _ _ _ _ _ _ _).2.1
theorem f_110_0 (n dp : Nat) (e : EN) (I : (Nat → Nat → Int32)) (L : (Nat → Nat → Int64)) (i1 : Int32) (i2 : Int32) (i3 : Int32) (i4 : Int32) (i7 : Int32) (i8 : Int32) (i9 : Int32) (i10 : Int32) (i11 : Int32) (i12 : Int32) (i13 : Int32) (i14 : Int32) (i15 : Int32) : Pc (g_110 n dp e 0 I L i1 i2 i3 i4 i7 i8 i9 i10 i11 i12 i13 i14 i15) (F3 (WI_110 e) WL_110 I L) := (fa_110 n dp e I L i1 i2 i3 i4 i7 i8 i9 i10 i11 i12 i13 i14 i15).1
theorem f_110_1 (n dp : Nat) (e : EN) (I : (Nat → Nat → Int32)) (L : (Nat → Nat → Int64)) (i1 : Int32) (i2 : Int32) (i3 : Int32) (i4 : Int32) (i7 : Int32) (i8 : Int32) (i9 : Int32) (i10 : Int32) (i11 : Int32) (i12 : Int32) (i13 : Int32) (i14 : Int32) (i15 : Int32) : Pc (g_110 n dp e 1 I L i1 i2 i3 i4 i7 i8 i9 i10 i11 i12 i13 i14 i15) (F3 (WI_110 e) WL_110 I L) := (fa_110 n dp e I L i1 i2 i3 i4 i7 i8 i9 i10 i11 i12 i13 i14 i15).2.1
theorem f_110_2 (n dp : Nat) (e : EN) (I : (Nat → Nat → Int32)) (L : (Nat → Nat → Int64)) (i1 : Int32) (i2 : Int32) (i3 : Int32) (i4 : Int32) (i7 : Int32) (i8 : Int32) (i9 : Int32) (i10 : Int32) (i11 : Int32) (i12 : Int32) (i13 : Int32) (i14 : Int32) (i15 : Int32) : Pc (g_110 n dp e 2 I L i1 i2 i3 i4 i7 i8 i9 i10 i11 i12 i13 i14 i15) (F3 (WI_110 e) WL_110 I L) := (fa_110 n dp e I L i1 i2 i3 i4 i7 i8 i9 i10 i11 i12 i13 i14 i15).2.2
def WI_116 : List (Nat × Nat) := []
def WL_116 : List (Nat × Nat) := []
set_option maxHeartbeats 8000000 in
set_option maxRecDepth 100000 in
theorem fa_116 : ∀ (n dp : Nat) (e : EN) (I : (Nat → Nat → Int32)) (L : (Nat → Nat → Int64)) (i1 : Int32), Pc (g_116 n dp e 0 I L i1) (F3 WI_116 WL_116 I L) := by
  intro n
  induction n with
  | zero => intro dp e I L i1; exact Pc_none
  | succ n ih =>
    intro dp e I L i1
    · rw [e_116_0]
      repeat' first
        | with_reducible exact Pc_none
        | with_reducible exact Pc_s3
        | with_reducible refine Pc_ite ?_ ?_
theorem f_116_0 (n dp : Nat) (e : EN) (I : (Nat → Nat → Int32)) (L : (Nat → Nat → Int64)) (i1 : Int32) : Pc (g_116 n dp e 0 I L i1) (F3 WI_116 WL_116 I L) := (fa_116 n dp e I L i1)
def WI_115 : List (Nat × Nat) := [(44, 0)]
def WL_115 : List (Nat × Nat) := []
set_option maxHeartbeats 8000000 in
set_option maxRecDepth 100000 in
theorem fa_115 : ∀ (n dp : Nat) (e : EN) (I : (Nat → Nat → Int32)) (L : (Nat → Nat → Int64)) (i1 : Int32) (i2 : Int32) (i3 : Int32) (i4 : Int32) (i5 : Int32) (i6 : Int32) (i7 : Int32) (i8 : Int32) (i9 : Int32), Pc (g_115 n dp e 0 I L i1 i2 i3 i4 i5 i6 i7 i8 i9) (F2 WI_115 WL_115 I L) ∧
    Pc (g_115 n dp e 1 I L i1 i2 i3 i4 i5 i6 i7 i8 i9) (F2 WI_115 WL_115 I L) ∧
    Pc (g_115 n dp e 2 I L i1 i2 i3 i4 i5 i6 i7 i8 i9) (F2 WI_115 WL_115 I L) ∧
    Pc (g_115 n dp e 3 I L i1 i2 i3 i4 i5 i6 i7 i8 i9) (F2 WI_115 WL_115 I L) ∧
    Pc (g_115 n dp e 4 I L i1 i2 i3 i4 i5 i6 i7 i8 i9) (F2 WI_115 WL_115 I L) := by
  intro n
  induction n with
  | zero => intro dp e I L i1 i2 i3 i4 i5 i6 i7 i8 i9; exact ⟨Pc_none, Pc_none, Pc_none, Pc_none, Pc_none⟩
  | succ n ih =>
    intro dp e I L i1 i2 i3 i4 i5 i6 i7 i8 i9
    refine ⟨?_, ?_, ?_, ?_, ?_⟩
    · rw [e_115_0]
      repeat' first
        | with_reducible exact Pc_none
        | with_reducible exact Pc_s2
        | with_reducible refine Pc_ite ?_ ?_
        | with_reducible exact (ih _ _ _ _ _ _ _ _ _ _ _ _ _).2.1
        | ((with_reducible refine Pc_u2 ?_ (fun _ => ?_)); exact rfl)
        | with_reducible refine Pc_st (fun _ => ?_)
    · rw [e_115_1]
      repeat' first
        | with_reducible exact Pc_none
        | with_reducible exact Pc_s2
        | with_reducible refine Pc_ite ?_ ?_
        | ((with_reducible refine Pc_c32 (f_116_0 _ _ _ _ _ _) ?_ ?_ (fun _ _ _ => ?_)); exact (sbs_of rfl); exact sbs_of rfl; dsimp only)
        | with_reducible exact (ih _ _ _ _ _ _ _ _ _ _ _ _ _).2.2.1
        | with_reducible exact (ih _ _ _ _ _ _ _ _ _ _ _ _ _).2.2.2.2
        | with_reducible refine Pc_bR ?_
        | with_reducible refine Pc_st (fun _ => ?_)
    · rw [e_115_2]
      repeat' first
        | with_reducible exact Pc_none
        | with_reducible exact Pc_s2
        | with_reducible refine Pc_ite ?_ ?_
        | with_reducible exact (ih _ _ _ _ _ _ _ _ _ _ _ _ _).2.2.2.2
        | ((with_reducible refine Pc_c32 (f_111_0 _ _ _ _ _ _ _) ?_ ?_ (fun _ _ _ => ?_)); exact (sbs_of rfl); exact sbs_of rfl; dsimp only)
        | ((with_reducible refine Pc_c32 (f_116_0 _ _ _ _ _ _) ?_ ?_ (fun _ _ _ => ?_)); exact (sbs_of rfl); exact sbs_of rfl; dsimp only)
        | ((with_reducible refine Pc_c32 (f_113_0 _ _ _ _ _ _ _ _) ?_ ?_ (fun _ _ _ => ?_)); exact (sbs_of rfl); exact sbs_of rfl; dsimp only)
        | with_reducible exact (ih _ _ _ _ _ _ _ _ _ _ _ _ _).2.2.2.1
        | ((with_reducible refine Pc_u2 ?_ (fun _ => ?_)); exact rfl)
        | with_reducible refine Pc_bR ?_
        | with_reducible refine Pc_st (fun _ => ?_)
    · rw [e_115_3]
      repeat' first
        | with_reducible exact Pc_none
        | with_reducible exact Pc_s2
        | with_reducible exact (ih _ _ _ _ _ _ _ _ _ _ _ _ _).2.2.1
    · rw [e_115_4]
      repeat' first
        | with_reducible exact Pc_none
        | with_reducible exact Pc_s2
        | with_reducible exact (ih _ _ _ _ _ _ _ _ _ _ _ _ _).2.1
theorem f_115_0 (n dp : Nat) (e : EN) (I : (Nat → Nat → Int32)) (L : (Nat → Nat → Int64)) (i1 : Int32) (i2 : Int32) (i3 : Int32) (i4 : Int32) (i5 : Int32) (i6 : Int32) (i7 : Int32) (i8 : Int32) (i9 : Int32) : Pc (g_115 n dp e 0 I L i1 i2 i3 i4 i5 i6 i7 i8 i9) (F2 WI_115 WL_115 I L) := (fa_115 n dp e I L i1 i2 i3 i4 i5 i6 i7 i8 i9).1
theorem f_115_1 (n dp : Nat) (e : EN) (I : (Nat → Nat → Int32)) (L : (Nat → Nat → Int64)) (i1 : Int32) (i2 : Int32) (i3 : Int32) (i4 : Int32) (i5 : Int32) (i6 : Int32) (i7 : Int32) (i8 : Int32) (i9 : Int32) : Pc (g_115 n dp e 1 I L i1 i2 i3 i4 i5 i6 i7 i8 i9) (F2 WI_115 WL_115 I L) := (fa_115 n dp e I L i1 i2 i3 i4 i5 i6 i7 i8 i9).2.1
theorem f_115_2 (n dp : Nat) (e : EN) (I : (Nat → Nat → Int32)) (L : (Nat → Nat → Int64)) (i1 : Int32) (i2 : Int32) (i3 : Int32) (i4 : Int32) (i5 : Int32) (i6 : Int32) (i7 : Int32) (i8 : Int32) (i9 : Int32) : Pc (g_115 n dp e 2 I L i1 i2 i3 i4 i5 i6 i7 i8 i9) (F2 WI_115 WL_115 I L) := (fa_115 n dp e I L i1 i2 i3 i4 i5 i6 i7 i8 i9).2.2.1
theorem f_115_3 (n dp : Nat) (e : EN) (I : (Nat → Nat → Int32)) (L : (Nat → Nat → Int64)) (i1 : Int32) (i2 : Int32) (i3 : Int32) (i4 : Int32) (i5 : Int32) (i6 : Int32) (i7 : Int32) (i8 : Int32) (i9 : Int32) : Pc (g_115 n dp e 3 I L i1 i2 i3 i4 i5 i6 i7 i8 i9) (F2 WI_115 WL_115 I L) := (fa_115 n dp e I L i1 i2 i3 i4 i5 i6 i7 i8 i9).2.2.2.1
theorem f_115_4 (n dp : Nat) (e : EN) (I : (Nat → Nat → Int32)) (L : (Nat → Nat → Int64)) (i1 : Int32) (i2 : Int32) (i3 : Int32) (i4 : Int32) (i5 : Int32) (i6 : Int32) (i7 : Int32) (i8 : Int32) (i9 : Int32) : Pc (g_115 n dp e 4 I L i1 i2 i3 i4 i5 i6 i7 i8 i9) (F2 WI_115 WL_115 I L) := (fa_115 n dp e I L i1 i2 i3 i4 i5 i6 i7 i8 i9).2.2.2.2
def WI_117 : List (Nat × Nat) := []
def WL_117 : List (Nat × Nat) := []
set_option maxHeartbeats 8000000 in
set_option maxRecDepth 100000 in
theorem fa_117 : ∀ (n dp : Nat) (e : EN) (I : (Nat → Nat → Int32)) (L : (Nat → Nat → Int64)), Pc (g_117 n dp e 0 I L) (F3 WI_117 WL_117 I L) := by
  intro n
  induction n with
  | zero => intro dp e I L; exact Pc_none
  | succ n ih =>
    intro dp e I L
    · rw [e_117_0]
      repeat' first
        | with_reducible exact Pc_none
        | with_reducible exact Pc_s3
        | with_reducible refine Pc_ite ?_ ?_
        | ((with_reducible refine Pc_c33 (f_94_0 _ _ _ _ _ _ _ _) ?_ ?_ (fun _ _ _ => ?_)); exact (sbs_of rfl); exact sbs_of rfl; dsimp only)
theorem f_117_0 (n dp : Nat) (e : EN) (I : (Nat → Nat → Int32)) (L : (Nat → Nat → Int64)) : Pc (g_117 n dp e 0 I L) (F3 WI_117 WL_117 I L) := (fa_117 n dp e I L)
def WI_118 : List (Nat × Nat) := []
def WL_118 : List (Nat × Nat) := []
set_option maxHeartbeats 8000000 in
set_option maxRecDepth 100000 in
theorem fa_118 : ∀ (n dp : Nat) (e : EN) (I : (Nat → Nat → Int32)) (L : (Nat → Nat → Int64)), Pc (g_118 n dp e 0 I L) (F3 WI_118 WL_118 I L) := by
  intro n
  induction n with
  | zero => intro dp e I L; exact Pc_none
  | succ n ih =>
    intro dp e I L
    · rw [e_118_0]
      repeat' first
        | with_reducible exact Pc_none
        | with_reducible exact Pc_s3
        | with_reducible refine Pc_ite ?_ ?_
        | ((with_reducible refine Pc_c33 (f_94_0 _ _ _ _ _ _ _ _) ?_ ?_ (fun _ _ _ => ?_)); exact (sbs_of rfl); exact sbs_of rfl; dsimp only)
theorem f_118_0 (n dp : Nat) (e : EN) (I : (Nat → Nat → Int32)) (L : (Nat → Nat → Int64)) : Pc (g_118 n dp e 0 I L) (F3 WI_118 WL_118 I L) := (fa_118 n dp e I L)
def WI_121 : List (Nat × Nat) := []
def WL_121 : List (Nat × Nat) := []
set_option maxHeartbeats 8000000 in
set_option maxRecDepth 100000 in
theorem fa_121 : ∀ (n dp : Nat) (e : EN) (I : (Nat → Nat → Int32)) (L : (Nat → Nat → Int64)) (i1 : Int32), Pc (g_121 n dp e 0 I L i1) (F3 WI_121 WL_121 I L) := by
  intro n
  induction n with
  | zero => intro dp e I L i1; exact Pc_none
  | succ n ih =>
    intro dp e I L i1
    · rw [e_121_0]
      repeat' first
        | with_reducible exact Pc_none
        | with_reducible exact Pc_s3
        | with_reducible refine Pc_ite ?_ ?_
theorem f_121_0 (n dp : Nat) (e : EN) (I : (Nat → Nat → Int32)) (L : (Nat → Nat → Int64)) (i1 : Int32) : Pc (g_121 n dp e 0 I L i1) (F3 WI_121 WL_121 I L) := (fa_121 n dp e I L i1)
def WI_123 : List (Nat × Nat) := []
def WL_123 : List (Nat × Nat) := []
set_option maxHeartbeats 8000000 in
set_option maxRecDepth 100000 in
theorem fa_123 : ∀ (n dp : Nat) (e : EN) (I : (Nat → Nat → Int32)) (L : (Nat → Nat → Int64)) (i1 : Int32) (i2 : Int32) (i3 : Int32) (i4 : Int32) (i5 : Int32), Pc (g_123 n dp e 0 I L i1 i2 i3 i4 i5) (F3 WI_123 WL_123 I L) ∧
    Pc (g_123 n dp e 1 I L i1 i2 i3 i4 i5) (F3 WI_123 WL_123 I L) := by
  intro n
  induction n with
  | zero => intro dp e I L i1 i2 i3 i4 i5; exact ⟨Pc_none, Pc_none⟩
  | succ n ih =>
    intro dp e I L i1 i2 i3 i4 i5
    refine ⟨?_, ?_⟩
    · rw [e_123_0]
      repeat' first
        | with_reducible exact Pc_none
        | with_reducible exact Pc_s3
        | with_reducible refine Pc_ite ?_ ?_
        | with_reducible exact (ih _ _ _ _ _ _ _ _ _).2
        | with_reducible refine Pc_st (fun _ => ?_)
    · rw [e_123_1]
      repeat' first
        | with_reducible exact Pc_none
        | with_reducible exact Pc_s3
        | with_reducible refine Pc_ite ?_ ?_
        | ((with_reducible refine Pc_c33 (f_111_0 _ _ _ _ _ _ _) ?_ ?_ (fun _ _ _ => ?_)); exact (sbs_of rfl); exact sbs_of rfl; dsimp only)
        | ((with_reducible refine Pc_c33 (f_116_0 _ _ _ _ _ _) ?_ ?_ (fun _ _ _ => ?_)); exact (sbs_of rfl); exact sbs_of rfl; dsimp only)
        | with_reducible exact (ih _ _ _ _ _ _ _ _ _).2
        | with_reducible refine Pc_bR ?_
theorem f_123_0 (n dp : Nat) (e : EN) (I : (Nat → Nat → Int32)) (L : (Nat → Nat → Int64)) (i1 : Int32) (i2 : Int32) (i3 : Int32) (i4 : Int32) (i5 : Int32) : Pc (g_123 n dp e 0 I L i1 i2 i3 i4 i5) (F3 WI_123 WL_123 I L) := (fa_123 n dp e I L i1 i2 i3 i4 i5).1
theorem f_123_1 (n dp : Nat) (e : EN) (I : (Nat → Nat → Int32)) (L : (Nat → Nat → Int64)) (i1 : Int32) (i2 : Int32) (i3 : Int32) (i4 : Int32) (i5 : Int32) : Pc (g_123 n dp e 1 I L i1 i2 i3 i4 i5) (F3 WI_123 WL_123 I L) := (fa_123 n dp e I L i1 i2 i3 i4 i5).2
def WI_122 : List (Nat × Nat) := []
def WL_122 : List (Nat × Nat) := []
set_option maxHeartbeats 8000000 in
set_option maxRecDepth 100000 in
theorem fa_122 : ∀ (n dp : Nat) (e : EN) (I : (Nat → Nat → Int32)) (L : (Nat → Nat → Int64)) (i1 : Int32) (i2 : Int32) (i3 : Int32) (i4 : Int32) (i5 : Int32) (i6 : Int32) (i7 : Int32), Pc (g_122 n dp e 0 I L i1 i2 i3 i4 i5 i6 i7) (F3 WI_122 WL_122 I L) ∧
    Pc (g_122 n dp e 1 I L i1 i2 i3 i4 i5 i6 i7) (F3 WI_122 WL_122 I L) ∧
    Pc (g_122 n dp e 2 I L i1 i2 i3 i4 i5 i6 i7) (F3 WI_122 WL_122 I L) := by
  intro n
  induction n with
  | zero => intro dp e I L i1 i2 i3 i4 i5 i6 i7; exact ⟨Pc_none, Pc_none, Pc_none⟩
  | succ n ih =>
    intro dp e I L i1 i2 i3 i4 i5 i6 i7
    refine ⟨?_, ?_, ?_⟩
    · rw [e_122_0]
      repeat' first
        | with_reducible exact Pc_none
        | with_reducible exact Pc_s3
        | with_reducible exact (ih _ _ _ _ _ _ _ _ _ _ _).2.1
    · rw [e_122_1]
      repeat' first
        | with_reducible exact Pc_none
        | with_reducible exact Pc_s3
        | with_reducible refine Pc_ite ?_ ?_
        | ((with_reducible refine Pc_c33 (f_111_0 _ _ _ _ _ _ _) ?_ ?_ (fun _ _ _ => ?_)); exact (sbs_of rfl); exact sbs_of rfl; dsimp only)
        | ((with_reducible refine Pc_c33 (f_123_0 _ _ _ _ _ _ _ _ _ _) ?_ ?_ (fun _ _ _ => ?_)); exact (sbs_of rfl); exact sbs_of rfl; dsimp only)
        | with_reducible exact (ih _ _ _ _ _ _ _ _ _ _ _).2.2
        | with_reducible refine Pc_bR ?_
        | with_reducible refine Pc_st (fun _ => ?_)
    · rw [e_122_2]
      repeat' first
        | with_reducible exact Pc_none
        | with_reducible exact Pc_s3
        | with_reducible exact (ih _ _ _ _ _ _ _ _ _ _ _).2.1
theorem f_122_0 (n dp : Nat) (e : EN) (I : (Nat → Nat → Int32)) (L : (Nat → Nat → Int64)) (i1 : Int32) (i2 : Int32) (i3 : Int32) (i4 : Int32) (i5 : Int32) (i6 : Int32) (i7 : Int32) : Pc (g_122 n dp e 0 I L i1 i2 i3 i4 i5 i6 i7) (F3 WI_122 WL_122 I L) := (fa_122 n dp e I L i1 i2 i3 i4 i5 i6 i7).1
theorem f_122_1 (n dp : Nat) (e : EN) (I : (Nat → Nat → Int32)) (L : (Nat → Nat → Int64)) (i1 : Int32) (i2 : Int32) (i3 : Int32) (i4 : Int32) (i5 : Int32) (i6 : Int32) (i7 : Int32) : Pc (g_122 n dp e 1 I L i1 i2 i3 i4 i5 i6 i7) (F3 WI_122 WL_122 I L) := (fa_122 n dp e I L i1 i2 i3 i4 i5 i6 i7).2.1
theorem f_122_2 (n dp : Nat) (e : EN) (I : (Nat → Nat → Int32)) (L : (Nat → Nat → Int64)) (i1 : Int32) (i2 : Int32) (i3 : Int32) (i4 : Int32) (i5 : Int32) (i6 : Int32) (i7 : Int32) : Pc (g_122 n dp e 2 I L i1 i2 i3 i4 i5 i6 i7) (F3 WI_122 WL_122 I L) := (fa_122 n dp e I L i1 i2 i3 i4 i5 i6 i7).2.2
def WI_125 : List (Nat × Nat) := []
def WL_125 : List (Nat × Nat) := []
set_option maxHeartbeats 8000000 in
set_option maxRecDepth 100000 in
theorem fa_125 : ∀ (n dp : Nat) (e : EN) (I : (Nat → Nat → Int32)) (L : (Nat → Nat → Int64)) (i1 : Int32) (i2 : Int32) (i3 : Int32) (i4 : Int32), Pc (g_125 n dp e 0 I L i1 i2 i3 i4) (F3 WI_125 WL_125 I L) ∧
    Pc (g_125 n dp e 1 I L i1 i2 i3 i4) (F3 WI_125 WL_125 I L) := by
  intro n
  induction n with
  | zero => intro dp e I L i1 i2 i3 i4; exact ⟨Pc_none, Pc_none⟩
  | succ n ih =>
    intro dp e I L i1 i2 i3 i4
    refine ⟨?_, ?_⟩
    · rw [e_125_0]
      repeat' first
        | with_reducible exact Pc_none
        | with_reducible exact Pc_s3
        | with_reducible refine Pc_ite ?_ ?_
        | ((with_reducible refine Pc_c33 (f_16_0 _ _ _ _ _) ?_ ?_ (fun _ _ _ => ?_)); exact (sbs_of rfl); exact sbs_of rfl; dsimp only)
        | with_reducible exact (ih _ _ _ _ _ _ _ _).2
    · rw [e_125_1]
      repeat' first
        | with_reducible exact Pc_none
        | with_reducible exact Pc_s3
        | with_reducible refine Pc_ite ?_ ?_
        | ((with_reducible refine Pc_c33 (f_121_0 _ _ _ _ _ _) ?_ ?_ (fun _ _ _ => ?_)); exact (sbs_of rfl); exact sbs_of rfl; dsimp only)
        | with_reducible exact (ih _ _ _ _ _ _ _ _).2
        | with_reducible refine Pc_bR ?_
        | with_reducible refine Pc_st (fun _ => ?_)
theorem f_125_0 (n dp : Nat) (e : EN) (I : (Nat → Nat → Int32)) (L : (Nat → Nat → Int64)) (i1 : Int32) (i2 : Int32) (i3 : Int32) (i4 : Int32) : Pc (g_125 n dp e 0 I L i1 i2 i3 i4) (F3 WI_125 WL_125 I L) := (fa_125 n dp e I L i1 i2 i3 i4).1
theorem f_125_1 (n dp : Nat) (e : EN) (I : (Nat → Nat → Int32)) (L : (Nat → Nat → Int64)) (i1 : Int32) (i2 : Int32) (i3 : Int32) (i4 : Int32) : Pc (g_125 n dp e 1 I L i1 i2 i3 i4) (F3 WI_125 WL_125 I L) := (fa_125 n dp e I L i1 i2 i3 i4).2
