/-! unless the reading is bad there is no fault -/
def FI (I : JI) : Prop := I 105 13 = 0 → I 105 12 = -1
def F3i (o : Option (Int × JI × JI)) : Prop := ∀ r, o = some r → FI r.2.1
def F2i (o : Option (JI × JI)) : Prop := ∀ r, o = some r → FI r.1
theorem FI_w {I : JI} {a : Nat} {k v : Int} (h : ¬ (a = 105 ∧ (k = 12 ∨ k = 13))) (g : FI I) : FI (w2 I a k v) := by
  unfold FI at *
  rw [w2_n (by omega), w2_n (by omega)]
  exact g
theorem FI_13 {I : JI} {v : Int} : FI (w2 (w2 I 105 13 1) 105 12 v) := fun h => absurd h (by show ¬ ((1 : Int) = 0); decide)
theorem FI_12 {I : JI} : FI (w2 I 105 12 (-1)) := fun _ => rfl
theorem F3_n : F3i none := fun _ h => (nomatch h)
theorem F2_n : F2i none := fun _ h => (nomatch h)
theorem F3_r {x : Int} {I L : JI} (h : FI I) : F3i (some (x, I, L)) := fun r e => by cases e; exact h
theorem F2_r {I L : JI} (h : FI I) : F2i (some (I, L)) := fun r e => by cases e; exact h
theorem F3_c {c : Prop} [Decidable c] {a b : Option (Int × JI × JI)} (h : F3i a) (g : F3i b) : F3i (if c then a else b) := by split; exact h; exact g
theorem F2_c {c : Prop} [Decidable c] {a b : Option (JI × JI)} (h : F2i a) (g : F2i b) : F2i (if c then a else b) := by split; exact h; exact g
theorem F3_b3 {o : Option (Int × JI × JI)} {k : Int × JI × JI → Option (Int × JI × JI)} (h : F3i o) (g : ∀ x I L, FI I → F3i (k (x, I, L))) : F3i (o.bind k) := by
  cases o with
  | none => exact F3_n
  | some r => exact g r.1 r.2.1 r.2.2 (h r rfl)
theorem F3_b2 {o : Option (JI × JI)} {k : JI × JI → Option (Int × JI × JI)} (h : F2i o) (g : ∀ I L, FI I → F3i (k (I, L))) : F3i (o.bind k) := by
  cases o with
  | none => exact F3_n
  | some r => exact g r.1 r.2 (h r rfl)
theorem F2_b3 {o : Option (Int × JI × JI)} {k : Int × JI × JI → Option (JI × JI)} (h : F3i o) (g : ∀ x I L, FI I → F2i (k (x, I, L))) : F2i (o.bind k) := by
  cases o with
  | none => exact F2_n
  | some r => exact g r.1 r.2.1 r.2.2 (h r rfl)
theorem F2_b2 {o : Option (JI × JI)} {k : JI × JI → Option (JI × JI)} (h : F2i o) (g : ∀ I L, FI I → F2i (k (I, L))) : F2i (o.bind k) := by
  cases o with
  | none => exact F2_n
  | some r => exact g r.1 r.2 (h r rfl)
theorem F3_s {α : Type} {v : α} {k : α → Option (Int × JI × JI)} (h : F3i (k v)) : F3i (stI v k) := h
theorem F2_s {α : Type} {v : α} {k : α → Option (JI × JI)} (h : F2i (k v)) : F2i (stI v k) := h
section FI
variable (e : EN)
set_option maxRecDepth 100000 in
theorem fi_193 : ∀ (n dp lab : Nat) (I : JI) (L : JI) (j0 : Int) (j2 : Int) (j4 : Int), FI I → F3i (kf_193 n dp e lab I L j0 j2 j4) := by
  intro n
  induction n with
  | zero => intros; rw [kf_193.eq_1]; exact F3_n
  | succ n ih =>
    intro dp lab I L j0 j2 j4 hI
    rw [kf_193.eq_2]
    repeat' (with_reducible first | (refine ih _ _ _ _ _ _ _ ?_) | refine F3_r ?_ | exact F3_n | refine F3_c ?_ ?_ | (refine F3_s ?_; try dsimp only) | (refine F3_b3 ?_ (fun x I L h => ?_) <;> try dsimp only) | (refine F3_b2 ?_ (fun I L h => ?_) <;> try dsimp only))
    all_goals (first | (first | assumption | exact FI_13 | exact FI_12 | (refine FI_w ?_ ?_ <;> first | omega | assumption | exact FI_13 | exact FI_12 | (refine FI_w ?_ ?_ <;> first | omega | assumption | exact FI_13 | exact FI_12 | (refine FI_w ?_ ?_ <;> first | omega | assumption | exact FI_13 | exact FI_12 | (refine FI_w ?_ ?_ <;> first | omega | assumption | exact FI_12 | (refine FI_w ?_ ?_ <;> first | omega | assumption)))))))
set_option maxRecDepth 100000 in
theorem fi_194 : ∀ (n dp lab : Nat) (I : JI) (L : JI) (i1 : Int), FI I → F3i (kf_194 n dp e lab I L i1) := by
  intro n
  induction n with
  | zero => intros; rw [kf_194.eq_1]; exact F3_n
  | succ n ih =>
    intro dp lab I L i1 hI
    rw [kf_194.eq_2]
    repeat' (with_reducible first | (refine ih _ _ _ _ _ ?_) | refine F3_r ?_ | exact F3_n | refine F3_c ?_ ?_ | (refine F3_s ?_; try dsimp only) | (refine F3_b3 ?_ (fun x I L h => ?_) <;> try dsimp only) | (refine F3_b2 ?_ (fun I L h => ?_) <;> try dsimp only))
    all_goals (first | (first | assumption | exact FI_13 | exact FI_12 | (refine FI_w ?_ ?_ <;> first | omega | assumption | exact FI_13 | exact FI_12 | (refine FI_w ?_ ?_ <;> first | omega | assumption | exact FI_13 | exact FI_12 | (refine FI_w ?_ ?_ <;> first | omega | assumption | exact FI_13 | exact FI_12 | (refine FI_w ?_ ?_ <;> first | omega | assumption | exact FI_12 | (refine FI_w ?_ ?_ <;> first | omega | assumption)))))))
set_option maxRecDepth 100000 in
theorem fi_215 : ∀ (n dp lab : Nat) (I : JI) (L : JI) (i0 : Int), FI I → F3i (kf_215 n dp e lab I L i0) := by
  intro n
  induction n with
  | zero => intros; rw [kf_215.eq_1]; exact F3_n
  | succ n ih =>
    intro dp lab I L i0 hI
    rw [kf_215.eq_2]
    repeat' (with_reducible first | (refine ih _ _ _ _ _ ?_) | refine F3_r ?_ | exact F3_n | refine F3_c ?_ ?_ | (refine F3_s ?_; try dsimp only) | (refine F3_b3 ?_ (fun x I L h => ?_) <;> try dsimp only) | (refine F3_b2 ?_ (fun I L h => ?_) <;> try dsimp only))
    all_goals (first | (first | assumption | exact FI_13 | exact FI_12 | (refine FI_w ?_ ?_ <;> first | omega | assumption | exact FI_13 | exact FI_12 | (refine FI_w ?_ ?_ <;> first | omega | assumption | exact FI_13 | exact FI_12 | (refine FI_w ?_ ?_ <;> first | omega | assumption | exact FI_13 | exact FI_12 | (refine FI_w ?_ ?_ <;> first | omega | assumption | exact FI_12 | (refine FI_w ?_ ?_ <;> first | omega | assumption)))))))
set_option maxRecDepth 100000 in
theorem fi_216 : ∀ (n dp lab : Nat) (I : JI) (L : JI) (i0 : Int), FI I → F3i (kf_216 n dp e lab I L i0) := by
  intro n
  induction n with
  | zero => intros; rw [kf_216.eq_1]; exact F3_n
  | succ n ih =>
    intro dp lab I L i0 hI
    rw [kf_216.eq_2]
    repeat' (with_reducible first | (refine ih _ _ _ _ _ ?_) | refine F3_r ?_ | exact F3_n | refine F3_c ?_ ?_ | (refine F3_s ?_; try dsimp only) | (refine F3_b3 ?_ (fun x I L h => ?_) <;> try dsimp only) | (refine F3_b2 ?_ (fun I L h => ?_) <;> try dsimp only))
    all_goals (first | (first | assumption | exact FI_13 | exact FI_12 | (refine FI_w ?_ ?_ <;> first | omega | assumption | exact FI_13 | exact FI_12 | (refine FI_w ?_ ?_ <;> first | omega | assumption | exact FI_13 | exact FI_12 | (refine FI_w ?_ ?_ <;> first | omega | assumption | exact FI_13 | exact FI_12 | (refine FI_w ?_ ?_ <;> first | omega | assumption | exact FI_12 | (refine FI_w ?_ ?_ <;> first | omega | assumption)))))))
set_option maxRecDepth 100000 in
theorem fi_214 : ∀ (n dp lab : Nat) (I : JI) (L : JI), FI I → F2i (kf_214 n dp e lab I L) := by
  intro n
  induction n with
  | zero => intros; rw [kf_214.eq_1]; exact F2_n
  | succ n ih =>
    intro dp lab I L hI
    rw [kf_214.eq_2]
    repeat' (with_reducible first | (refine ih _ _ _ _ ?_) | (refine fi_215 e n _ _ _ _ _ ?_) | (refine fi_216 e n _ _ _ _ _ ?_) | refine F2_r ?_ | exact F2_n | refine F2_c ?_ ?_ | (refine F2_s ?_; try dsimp only) | (refine F2_b3 ?_ (fun x I L h => ?_) <;> try dsimp only) | (refine F2_b2 ?_ (fun I L h => ?_) <;> try dsimp only))
    all_goals (first | (first | assumption | exact FI_13 | exact FI_12 | (refine FI_w ?_ ?_ <;> first | omega | assumption | exact FI_13 | exact FI_12 | (refine FI_w ?_ ?_ <;> first | omega | assumption | exact FI_13 | exact FI_12 | (refine FI_w ?_ ?_ <;> first | omega | assumption | exact FI_13 | exact FI_12 | (refine FI_w ?_ ?_ <;> first | omega | assumption | exact FI_12 | (refine FI_w ?_ ?_ <;> first | omega | assumption)))))))
set_option maxRecDepth 100000 in
theorem fi_218 : ∀ (n dp lab : Nat) (I : JI) (L : JI) (j1 : Int), FI I → F3i (kf_218 n dp e lab I L j1) := by
  intro n
  induction n with
  | zero => intros; rw [kf_218.eq_1]; exact F3_n
  | succ n ih =>
    intro dp lab I L j1 hI
    rw [kf_218.eq_2]
    repeat' (with_reducible first | (refine ih _ _ _ _ _ ?_) | refine F3_r ?_ | exact F3_n | refine F3_c ?_ ?_ | (refine F3_s ?_; try dsimp only) | (refine F3_b3 ?_ (fun x I L h => ?_) <;> try dsimp only) | (refine F3_b2 ?_ (fun I L h => ?_) <;> try dsimp only))
    all_goals (first | (first | assumption | exact FI_13 | exact FI_12 | (refine FI_w ?_ ?_ <;> first | omega | assumption | exact FI_13 | exact FI_12 | (refine FI_w ?_ ?_ <;> first | omega | assumption | exact FI_13 | exact FI_12 | (refine FI_w ?_ ?_ <;> first | omega | assumption | exact FI_13 | exact FI_12 | (refine FI_w ?_ ?_ <;> first | omega | assumption | exact FI_12 | (refine FI_w ?_ ?_ <;> first | omega | assumption)))))))
set_option maxRecDepth 100000 in
theorem fi_226 : ∀ (n dp lab : Nat) (I : JI) (L : JI) (i1 : Int), FI I → F3i (kf_226 n dp e lab I L i1) := by
  intro n
  induction n with
  | zero => intros; rw [kf_226.eq_1]; exact F3_n
  | succ n ih =>
    intro dp lab I L i1 hI
    rw [kf_226.eq_2]
    repeat' (with_reducible first | (refine ih _ _ _ _ _ ?_) | refine F3_r ?_ | exact F3_n | refine F3_c ?_ ?_ | (refine F3_s ?_; try dsimp only) | (refine F3_b3 ?_ (fun x I L h => ?_) <;> try dsimp only) | (refine F3_b2 ?_ (fun I L h => ?_) <;> try dsimp only))
    all_goals (first | (first | assumption | exact FI_13 | exact FI_12 | (refine FI_w ?_ ?_ <;> first | omega | assumption | exact FI_13 | exact FI_12 | (refine FI_w ?_ ?_ <;> first | omega | assumption | exact FI_13 | exact FI_12 | (refine FI_w ?_ ?_ <;> first | omega | assumption | exact FI_13 | exact FI_12 | (refine FI_w ?_ ?_ <;> first | omega | assumption | exact FI_12 | (refine FI_w ?_ ?_ <;> first | omega | assumption)))))))
set_option maxRecDepth 100000 in
theorem fi_219 : ∀ (n dp lab : Nat) (I : JI) (L : JI) (i1 : Int), FI I → F2i (kf_219 n dp e lab I L i1) := by
  intro n
  induction n with
  | zero => intros; rw [kf_219.eq_1]; exact F2_n
  | succ n ih =>
    intro dp lab I L i1 hI
    rw [kf_219.eq_2]
    repeat' (with_reducible first | (refine ih _ _ _ _ _ ?_) | (refine fi_214 e n _ _ _ _ ?_) | refine F2_r ?_ | exact F2_n | refine F2_c ?_ ?_ | (refine F2_s ?_; try dsimp only) | (refine F2_b3 ?_ (fun x I L h => ?_) <;> try dsimp only) | (refine F2_b2 ?_ (fun I L h => ?_) <;> try dsimp only))
    all_goals (first | (first | assumption | exact FI_13 | exact FI_12 | (refine FI_w ?_ ?_ <;> first | omega | assumption | exact FI_13 | exact FI_12 | (refine FI_w ?_ ?_ <;> first | omega | assumption | exact FI_13 | exact FI_12 | (refine FI_w ?_ ?_ <;> first | omega | assumption | exact FI_13 | exact FI_12 | (refine FI_w ?_ ?_ <;> first | omega | assumption | exact FI_12 | (refine FI_w ?_ ?_ <;> first | omega | assumption)))))))
set_option maxRecDepth 100000 in
theorem fi_221 : ∀ (n dp lab : Nat) (I : JI) (L : JI) (j1 : Int) (j3 : Int), FI I → F3i (kf_221 n dp e lab I L j1 j3) := by
  intro n
  induction n with
  | zero => intros; rw [kf_221.eq_1]; exact F3_n
  | succ n ih =>
    intro dp lab I L j1 j3 hI
    rw [kf_221.eq_2]
    repeat' (with_reducible first | (refine ih _ _ _ _ _ _ ?_) | (refine fi_193 e n _ _ _ _ _ _ _ ?_) | (refine fi_219 e n _ _ _ _ _ ?_) | refine F3_r ?_ | exact F3_n | refine F3_c ?_ ?_ | (refine F3_s ?_; try dsimp only) | (refine F3_b3 ?_ (fun x I L h => ?_) <;> try dsimp only) | (refine F3_b2 ?_ (fun I L h => ?_) <;> try dsimp only))
    all_goals (first | (first | assumption | exact FI_13 | exact FI_12 | (refine FI_w ?_ ?_ <;> first | omega | assumption | exact FI_13 | exact FI_12 | (refine FI_w ?_ ?_ <;> first | omega | assumption | exact FI_13 | exact FI_12 | (refine FI_w ?_ ?_ <;> first | omega | assumption | exact FI_13 | exact FI_12 | (refine FI_w ?_ ?_ <;> first | omega | assumption | exact FI_12 | (refine FI_w ?_ ?_ <;> first | omega | assumption)))))))
set_option maxRecDepth 100000 in
theorem fi_222 : ∀ (n dp lab : Nat) (I : JI) (L : JI) (i1 : Int) (i2 : Int), FI I → F2i (kf_222 n dp e lab I L i1 i2) := by
  intro n
  induction n with
  | zero => intros; rw [kf_222.eq_1]; exact F2_n
  | succ n ih =>
    intro dp lab I L i1 i2 hI
    rw [kf_222.eq_2]
    repeat' (with_reducible first | (refine ih _ _ _ _ _ _ ?_) | (refine fi_221 e n _ _ _ _ _ _ ?_) | refine F2_r ?_ | exact F2_n | refine F2_c ?_ ?_ | (refine F2_s ?_; try dsimp only) | (refine F2_b3 ?_ (fun x I L h => ?_) <;> try dsimp only) | (refine F2_b2 ?_ (fun I L h => ?_) <;> try dsimp only))
    all_goals (first | (first | assumption | exact FI_13 | exact FI_12 | (refine FI_w ?_ ?_ <;> first | omega | assumption | exact FI_13 | exact FI_12 | (refine FI_w ?_ ?_ <;> first | omega | assumption | exact FI_13 | exact FI_12 | (refine FI_w ?_ ?_ <;> first | omega | assumption | exact FI_13 | exact FI_12 | (refine FI_w ?_ ?_ <;> first | omega | assumption | exact FI_12 | (refine FI_w ?_ ?_ <;> first | omega | assumption)))))))
set_option maxRecDepth 100000 in
theorem fi_220 : ∀ (n dp lab : Nat) (I : JI) (L : JI) (i1 : Int) (i2 : Int), FI I → F2i (kf_220 n dp e lab I L i1 i2) := by
  intro n
  induction n with
  | zero => intros; rw [kf_220.eq_1]; exact F2_n
  | succ n ih =>
    intro dp lab I L i1 i2 hI
    rw [kf_220.eq_2]
    repeat' (with_reducible first | (refine ih _ _ _ _ _ _ ?_) | (refine fi_214 e n _ _ _ _ ?_) | (refine fi_218 e n _ _ _ _ _ ?_) | (refine fi_219 e n _ _ _ _ _ ?_) | (refine fi_221 e n _ _ _ _ _ _ ?_) | (refine fi_222 e n _ _ _ _ _ _ ?_) | refine F2_r ?_ | exact F2_n | refine F2_c ?_ ?_ | (refine F2_s ?_; try dsimp only) | (refine F2_b3 ?_ (fun x I L h => ?_) <;> try dsimp only) | (refine F2_b2 ?_ (fun I L h => ?_) <;> try dsimp only))
    all_goals (first | (first | assumption | exact FI_13 | exact FI_12 | (refine FI_w ?_ ?_ <;> first | omega | assumption | exact FI_13 | exact FI_12 | (refine FI_w ?_ ?_ <;> first | omega | assumption | exact FI_13 | exact FI_12 | (refine FI_w ?_ ?_ <;> first | omega | assumption | exact FI_13 | exact FI_12 | (refine FI_w ?_ ?_ <;> first | omega | assumption | exact FI_12 | (refine FI_w ?_ ?_ <;> first | omega | assumption)))))))
set_option maxRecDepth 100000 in
theorem fi_225 : ∀ (n dp lab : Nat) (I : JI) (L : JI) (i1 : Int) (i2 : Int), FI I → F2i (kf_225 n dp e lab I L i1 i2) := by
  intro n
  induction n with
  | zero => intros; rw [kf_225.eq_1]; exact F2_n
  | succ n ih =>
    intro dp lab I L i1 i2 hI
    rw [kf_225.eq_2]
    repeat' (with_reducible first | (refine ih _ _ _ _ _ _ ?_) | refine F2_r ?_ | exact F2_n | refine F2_c ?_ ?_ | (refine F2_s ?_; try dsimp only) | (refine F2_b3 ?_ (fun x I L h => ?_) <;> try dsimp only) | (refine F2_b2 ?_ (fun I L h => ?_) <;> try dsimp only))
    all_goals (first | (first | assumption | exact FI_13 | exact FI_12 | (refine FI_w ?_ ?_ <;> first | omega | assumption | exact FI_13 | exact FI_12 | (refine FI_w ?_ ?_ <;> first | omega | assumption | exact FI_13 | exact FI_12 | (refine FI_w ?_ ?_ <;> first | omega | assumption | exact FI_13 | exact FI_12 | (refine FI_w ?_ ?_ <;> first | omega | assumption | exact FI_12 | (refine FI_w ?_ ?_ <;> first | omega | assumption)))))))
set_option maxRecDepth 100000 in
theorem fi_231 : ∀ (n dp lab : Nat) (I : JI) (L : JI) (i1 : Int) (i2 : Int), FI I → F2i (kf_231 n dp e lab I L i1 i2) := by
  intro n
  induction n with
  | zero => intros; rw [kf_231.eq_1]; exact F2_n
  | succ n ih =>
    intro dp lab I L i1 i2 hI
    rw [kf_231.eq_2]
    repeat' (with_reducible first | (refine ih _ _ _ _ _ _ ?_) | refine F2_r ?_ | exact F2_n | refine F2_c ?_ ?_ | (refine F2_s ?_; try dsimp only) | (refine F2_b3 ?_ (fun x I L h => ?_) <;> try dsimp only) | (refine F2_b2 ?_ (fun I L h => ?_) <;> try dsimp only))
    all_goals (first | (first | assumption | exact FI_13 | exact FI_12 | (refine FI_w ?_ ?_ <;> first | omega | assumption | exact FI_13 | exact FI_12 | (refine FI_w ?_ ?_ <;> first | omega | assumption | exact FI_13 | exact FI_12 | (refine FI_w ?_ ?_ <;> first | omega | assumption | exact FI_13 | exact FI_12 | (refine FI_w ?_ ?_ <;> first | omega | assumption | exact FI_12 | (refine FI_w ?_ ?_ <;> first | omega | assumption)))))))
set_option maxRecDepth 100000 in
theorem fi_233 : ∀ (n dp lab : Nat) (I : JI) (L : JI) (i0 : Int), FI I → F3i (kf_233 n dp e lab I L i0) := by
  intro n
  induction n with
  | zero => intros; rw [kf_233.eq_1]; exact F3_n
  | succ n ih =>
    intro dp lab I L i0 hI
    rw [kf_233.eq_2]
    repeat' (with_reducible first | (refine ih _ _ _ _ _ ?_) | refine F3_r ?_ | exact F3_n | refine F3_c ?_ ?_ | (refine F3_s ?_; try dsimp only) | (refine F3_b3 ?_ (fun x I L h => ?_) <;> try dsimp only) | (refine F3_b2 ?_ (fun I L h => ?_) <;> try dsimp only))
    all_goals (first | (first | assumption | exact FI_13 | exact FI_12 | (refine FI_w ?_ ?_ <;> first | omega | assumption | exact FI_13 | exact FI_12 | (refine FI_w ?_ ?_ <;> first | omega | assumption | exact FI_13 | exact FI_12 | (refine FI_w ?_ ?_ <;> first | omega | assumption | exact FI_13 | exact FI_12 | (refine FI_w ?_ ?_ <;> first | omega | assumption | exact FI_12 | (refine FI_w ?_ ?_ <;> first | omega | assumption)))))))
set_option maxRecDepth 100000 in
theorem fi_234 : ∀ (n dp lab : Nat) (I : JI) (L : JI) (i1 : Int), FI I → F2i (kf_234 n dp e lab I L i1) := by
  intro n
  induction n with
  | zero => intros; rw [kf_234.eq_1]; exact F2_n
  | succ n ih =>
    intro dp lab I L i1 hI
    rw [kf_234.eq_2]
    repeat' (with_reducible first | (refine ih _ _ _ _ _ ?_) | (refine fi_231 e n _ _ _ _ _ _ ?_) | (refine fi_233 e n _ _ _ _ _ ?_) | refine F2_r ?_ | exact F2_n | refine F2_c ?_ ?_ | (refine F2_s ?_; try dsimp only) | (refine F2_b3 ?_ (fun x I L h => ?_) <;> try dsimp only) | (refine F2_b2 ?_ (fun I L h => ?_) <;> try dsimp only))
    all_goals (first | (first | assumption | exact FI_13 | exact FI_12 | (refine FI_w ?_ ?_ <;> first | omega | assumption | exact FI_13 | exact FI_12 | (refine FI_w ?_ ?_ <;> first | omega | assumption | exact FI_13 | exact FI_12 | (refine FI_w ?_ ?_ <;> first | omega | assumption | exact FI_13 | exact FI_12 | (refine FI_w ?_ ?_ <;> first | omega | assumption | exact FI_12 | (refine FI_w ?_ ?_ <;> first | omega | assumption)))))))
set_option maxRecDepth 100000 in
theorem fi_235 : ∀ (n dp lab : Nat) (I : JI) (L : JI) (i1 : Int) (i2 : Int), FI I → F3i (kf_235 n dp e lab I L i1 i2) := by
  intro n
  induction n with
  | zero => intros; rw [kf_235.eq_1]; exact F3_n
  | succ n ih =>
    intro dp lab I L i1 i2 hI
    rw [kf_235.eq_2]
    repeat' (with_reducible first | (refine ih _ _ _ _ _ _ ?_) | refine F3_r ?_ | exact F3_n | refine F3_c ?_ ?_ | (refine F3_s ?_; try dsimp only) | (refine F3_b3 ?_ (fun x I L h => ?_) <;> try dsimp only) | (refine F3_b2 ?_ (fun I L h => ?_) <;> try dsimp only))
    all_goals (first | (first | assumption | exact FI_13 | exact FI_12 | (refine FI_w ?_ ?_ <;> first | omega | assumption | exact FI_13 | exact FI_12 | (refine FI_w ?_ ?_ <;> first | omega | assumption | exact FI_13 | exact FI_12 | (refine FI_w ?_ ?_ <;> first | omega | assumption | exact FI_13 | exact FI_12 | (refine FI_w ?_ ?_ <;> first | omega | assumption | exact FI_12 | (refine FI_w ?_ ?_ <;> first | omega | assumption)))))))
set_option maxRecDepth 100000 in
theorem fi_236 : ∀ (n dp lab : Nat) (I : JI) (L : JI) (i1 : Int), FI I → F3i (kf_236 n dp e lab I L i1) := by
  intro n
  induction n with
  | zero => intros; rw [kf_236.eq_1]; exact F3_n
  | succ n ih =>
    intro dp lab I L i1 hI
    rw [kf_236.eq_2]
    repeat' (with_reducible first | (refine ih _ _ _ _ _ ?_) | (refine fi_193 e n _ _ _ _ _ _ _ ?_) | refine F3_r ?_ | exact F3_n | refine F3_c ?_ ?_ | (refine F3_s ?_; try dsimp only) | (refine F3_b3 ?_ (fun x I L h => ?_) <;> try dsimp only) | (refine F3_b2 ?_ (fun I L h => ?_) <;> try dsimp only))
    all_goals (first | (first | assumption | exact FI_13 | exact FI_12 | (refine FI_w ?_ ?_ <;> first | omega | assumption | exact FI_13 | exact FI_12 | (refine FI_w ?_ ?_ <;> first | omega | assumption | exact FI_13 | exact FI_12 | (refine FI_w ?_ ?_ <;> first | omega | assumption | exact FI_13 | exact FI_12 | (refine FI_w ?_ ?_ <;> first | omega | assumption | exact FI_12 | (refine FI_w ?_ ?_ <;> first | omega | assumption)))))))
set_option maxRecDepth 100000 in
theorem fi_229 : ∀ (n dp lab : Nat) (I : JI) (L : JI) (i1 : Int) (i2 : Int), FI I → F3i (kf_229 n dp e lab I L i1 i2) := by
  intro n
  induction n with
  | zero => intros; rw [kf_229.eq_1]; exact F3_n
  | succ n ih =>
    intro dp lab I L i1 i2 hI
    rw [kf_229.eq_2]
    repeat' (with_reducible first | (refine ih _ _ _ _ _ _ ?_) | (refine fi_218 e n _ _ _ _ _ ?_) | refine F3_r ?_ | exact F3_n | refine F3_c ?_ ?_ | (refine F3_s ?_; try dsimp only) | (refine F3_b3 ?_ (fun x I L h => ?_) <;> try dsimp only) | (refine F3_b2 ?_ (fun I L h => ?_) <;> try dsimp only))
    all_goals (first | (first | assumption | exact FI_13 | exact FI_12 | (refine FI_w ?_ ?_ <;> first | omega | assumption | exact FI_13 | exact FI_12 | (refine FI_w ?_ ?_ <;> first | omega | assumption | exact FI_13 | exact FI_12 | (refine FI_w ?_ ?_ <;> first | omega | assumption | exact FI_13 | exact FI_12 | (refine FI_w ?_ ?_ <;> first | omega | assumption | exact FI_12 | (refine FI_w ?_ ?_ <;> first | omega | assumption)))))))
set_option maxRecDepth 100000 in
theorem fi_230 : ∀ (n dp lab : Nat) (I : JI) (L : JI) (i1 : Int) (i2 : Int) (i3 : Int), FI I → F2i (kf_230 n dp e lab I L i1 i2 i3) := by
  intro n
  induction n with
  | zero => intros; rw [kf_230.eq_1]; exact F2_n
  | succ n ih =>
    intro dp lab I L i1 i2 i3 hI
    rw [kf_230.eq_2]
    repeat' (with_reducible first | (refine ih _ _ _ _ _ _ _ ?_) | (refine fi_219 e n _ _ _ _ _ ?_) | (refine fi_231 e n _ _ _ _ _ _ ?_) | refine F2_r ?_ | exact F2_n | refine F2_c ?_ ?_ | (refine F2_s ?_; try dsimp only) | (refine F2_b3 ?_ (fun x I L h => ?_) <;> try dsimp only) | (refine F2_b2 ?_ (fun I L h => ?_) <;> try dsimp only))
    all_goals (first | (first | assumption | exact FI_13 | exact FI_12 | (refine FI_w ?_ ?_ <;> first | omega | assumption | exact FI_13 | exact FI_12 | (refine FI_w ?_ ?_ <;> first | omega | assumption | exact FI_13 | exact FI_12 | (refine FI_w ?_ ?_ <;> first | omega | assumption | exact FI_13 | exact FI_12 | (refine FI_w ?_ ?_ <;> first | omega | assumption | exact FI_12 | (refine FI_w ?_ ?_ <;> first | omega | assumption)))))))
set_option maxRecDepth 100000 in
theorem fi_227 : ∀ (n dp lab : Nat) (I : JI) (L : JI) (i1 : Int), FI I → F2i (kf_227 n dp e lab I L i1) := by
  intro n
  induction n with
  | zero => intros; rw [kf_227.eq_1]; exact F2_n
  | succ n ih =>
    intro dp lab I L i1 hI
    rw [kf_227.eq_2]
    repeat' (with_reducible first | (refine ih _ _ _ _ _ ?_) | (refine fi_219 e n _ _ _ _ _ ?_) | (refine fi_225 e n _ _ _ _ _ _ ?_) | refine F2_r ?_ | exact F2_n | refine F2_c ?_ ?_ | (refine F2_s ?_; try dsimp only) | (refine F2_b3 ?_ (fun x I L h => ?_) <;> try dsimp only) | (refine F2_b2 ?_ (fun I L h => ?_) <;> try dsimp only))
    all_goals (first | (first | assumption | exact FI_13 | exact FI_12 | (refine FI_w ?_ ?_ <;> first | omega | assumption | exact FI_13 | exact FI_12 | (refine FI_w ?_ ?_ <;> first | omega | assumption | exact FI_13 | exact FI_12 | (refine FI_w ?_ ?_ <;> first | omega | assumption | exact FI_13 | exact FI_12 | (refine FI_w ?_ ?_ <;> first | omega | assumption | exact FI_12 | (refine FI_w ?_ ?_ <;> first | omega | assumption)))))))
set_option maxRecDepth 100000 in
theorem fi_228 : ∀ (n dp lab : Nat) (I : JI) (L : JI) (i1 : Int), FI I → F3i (kf_228 n dp e lab I L i1) := by
  intro n
  induction n with
  | zero => intros; rw [kf_228.eq_1]; exact F3_n
  | succ n ih =>
    intro dp lab I L i1 hI
    rw [kf_228.eq_2]
    repeat' (with_reducible first | (refine ih _ _ _ _ _ ?_) | (refine fi_226 e n _ _ _ _ _ ?_) | (refine fi_227 e n _ _ _ _ _ ?_) | (refine fi_229 e n _ _ _ _ _ _ ?_) | (refine fi_230 e n _ _ _ _ _ _ _ ?_) | refine F3_r ?_ | exact F3_n | refine F3_c ?_ ?_ | (refine F3_s ?_; try dsimp only) | (refine F3_b3 ?_ (fun x I L h => ?_) <;> try dsimp only) | (refine F3_b2 ?_ (fun I L h => ?_) <;> try dsimp only))
    all_goals (first | (first | assumption | exact FI_13 | exact FI_12 | (refine FI_w ?_ ?_ <;> first | omega | assumption | exact FI_13 | exact FI_12 | (refine FI_w ?_ ?_ <;> first | omega | assumption | exact FI_13 | exact FI_12 | (refine FI_w ?_ ?_ <;> first | omega | assumption | exact FI_13 | exact FI_12 | (refine FI_w ?_ ?_ <;> first | omega | assumption | exact FI_12 | (refine FI_w ?_ ?_ <;> first | omega | assumption)))))))
set_option maxRecDepth 100000 in
theorem fi_224 : ∀ (n dp lab : Nat) (I : JI) (L : JI), FI I → F3i (kf_224 n dp e lab I L) := by
  intro n
  induction n with
  | zero => intros; rw [kf_224.eq_1]; exact F3_n
  | succ n ih =>
    intro dp lab I L hI
    rw [kf_224.eq_2]
    repeat' (with_reducible first | (refine ih _ _ _ _ ?_) | (refine fi_214 e n _ _ _ _ ?_) | (refine fi_218 e n _ _ _ _ _ ?_) | (refine fi_225 e n _ _ _ _ _ _ ?_) | (refine fi_226 e n _ _ _ _ _ ?_) | (refine fi_227 e n _ _ _ _ _ ?_) | (refine fi_228 e n _ _ _ _ _ ?_) | refine F3_r ?_ | exact F3_n | refine F3_c ?_ ?_ | (refine F3_s ?_; try dsimp only) | (refine F3_b3 ?_ (fun x I L h => ?_) <;> try dsimp only) | (refine F3_b2 ?_ (fun I L h => ?_) <;> try dsimp only))
    all_goals (first | (first | assumption | exact FI_13 | exact FI_12 | (refine FI_w ?_ ?_ <;> first | omega | assumption | exact FI_13 | exact FI_12 | (refine FI_w ?_ ?_ <;> first | omega | assumption | exact FI_13 | exact FI_12 | (refine FI_w ?_ ?_ <;> first | omega | assumption | exact FI_13 | exact FI_12 | (refine FI_w ?_ ?_ <;> first | omega | assumption | exact FI_12 | (refine FI_w ?_ ?_ <;> first | omega | assumption)))))))
set_option maxRecDepth 100000 in
theorem fi_232 : ∀ (n dp lab : Nat) (I : JI) (L : JI) (i1 : Int) (i2 : Int) (i3 : Int), FI I → F3i (kf_232 n dp e lab I L i1 i2 i3) := by
  intro n
  induction n with
  | zero => intros; rw [kf_232.eq_1]; exact F3_n
  | succ n ih =>
    intro dp lab I L i1 i2 i3 hI
    rw [kf_232.eq_2]
    repeat' (with_reducible first | (refine ih _ _ _ _ _ _ _ ?_) | (refine fi_214 e n _ _ _ _ ?_) | (refine fi_219 e n _ _ _ _ _ ?_) | (refine fi_225 e n _ _ _ _ _ _ ?_) | (refine fi_226 e n _ _ _ _ _ ?_) | (refine fi_233 e n _ _ _ _ _ ?_) | (refine fi_234 e n _ _ _ _ _ ?_) | (refine fi_235 e n _ _ _ _ _ _ ?_) | (refine fi_236 e n _ _ _ _ _ ?_) | refine F3_r ?_ | exact F3_n | refine F3_c ?_ ?_ | (refine F3_s ?_; try dsimp only) | (refine F3_b3 ?_ (fun x I L h => ?_) <;> try dsimp only) | (refine F3_b2 ?_ (fun I L h => ?_) <;> try dsimp only))
    all_goals (first | (first | assumption | exact FI_13 | exact FI_12 | (refine FI_w ?_ ?_ <;> first | omega | assumption | exact FI_13 | exact FI_12 | (refine FI_w ?_ ?_ <;> first | omega | assumption | exact FI_13 | exact FI_12 | (refine FI_w ?_ ?_ <;> first | omega | assumption | exact FI_13 | exact FI_12 | (refine FI_w ?_ ?_ <;> first | omega | assumption | exact FI_12 | (refine FI_w ?_ ?_ <;> first | omega | assumption)))))))
set_option maxRecDepth 100000 in
theorem fi_237 : ∀ (n dp lab : Nat) (I : JI) (L : JI) (i1 : Int), FI I → F3i (kf_237 n dp e lab I L i1) := by
  intro n
  induction n with
  | zero => intros; rw [kf_237.eq_1]; exact F3_n
  | succ n ih =>
    intro dp lab I L i1 hI
    rw [kf_237.eq_2]
    repeat' (with_reducible first | (refine ih _ _ _ _ _ ?_) | (refine fi_214 e n _ _ _ _ ?_) | (refine fi_218 e n _ _ _ _ _ ?_) | (refine fi_219 e n _ _ _ _ _ ?_) | (refine fi_225 e n _ _ _ _ _ _ ?_) | (refine fi_226 e n _ _ _ _ _ ?_) | (refine fi_231 e n _ _ _ _ _ _ ?_) | (refine fi_234 e n _ _ _ _ _ ?_) | (refine fi_235 e n _ _ _ _ _ _ ?_) | refine F3_r ?_ | exact F3_n | refine F3_c ?_ ?_ | (refine F3_s ?_; try dsimp only) | (refine F3_b3 ?_ (fun x I L h => ?_) <;> try dsimp only) | (refine F3_b2 ?_ (fun I L h => ?_) <;> try dsimp only))
    all_goals (first | (first | assumption | exact FI_13 | exact FI_12 | (refine FI_w ?_ ?_ <;> first | omega | assumption | exact FI_13 | exact FI_12 | (refine FI_w ?_ ?_ <;> first | omega | assumption | exact FI_13 | exact FI_12 | (refine FI_w ?_ ?_ <;> first | omega | assumption | exact FI_13 | exact FI_12 | (refine FI_w ?_ ?_ <;> first | omega | assumption | exact FI_12 | (refine FI_w ?_ ?_ <;> first | omega | assumption)))))))
set_option maxRecDepth 100000 in
theorem fi_223 : ∀ (n dp lab : Nat) (I : JI) (L : JI) (i1 : Int) (i2 : Int), FI I → F2i (kf_223 n dp e lab I L i1 i2) := by
  intro n
  induction n with
  | zero => intros; rw [kf_223.eq_1]; exact F2_n
  | succ n ih =>
    intro dp lab I L i1 i2 hI
    rw [kf_223.eq_2]
    repeat' (with_reducible first | (refine ih _ _ _ _ _ _ ?_) | (refine fi_224 e n _ _ _ _ ?_) | (refine fi_228 e n _ _ _ _ _ ?_) | (refine fi_232 e n _ _ _ _ _ _ _ ?_) | (refine fi_234 e n _ _ _ _ _ ?_) | (refine fi_237 e n _ _ _ _ _ ?_) | refine F2_r ?_ | exact F2_n | refine F2_c ?_ ?_ | (refine F2_s ?_; try dsimp only) | (refine F2_b3 ?_ (fun x I L h => ?_) <;> try dsimp only) | (refine F2_b2 ?_ (fun I L h => ?_) <;> try dsimp only))
    all_goals (first | (first | assumption | exact FI_13 | exact FI_12 | (refine FI_w ?_ ?_ <;> first | omega | assumption | exact FI_13 | exact FI_12 | (refine FI_w ?_ ?_ <;> first | omega | assumption | exact FI_13 | exact FI_12 | (refine FI_w ?_ ?_ <;> first | omega | assumption | exact FI_13 | exact FI_12 | (refine FI_w ?_ ?_ <;> first | omega | assumption | exact FI_12 | (refine FI_w ?_ ?_ <;> first | omega | assumption)))))))
set_option maxRecDepth 100000 in
theorem fi_217 : ∀ (n dp lab : Nat) (I : JI) (L : JI) (i1 : Int) (i2 : Int) (i3 : Int), FI I → F2i (kf_217 n dp e lab I L i1 i2 i3) := by
  intro n
  induction n with
  | zero => intros; rw [kf_217.eq_1]; exact F2_n
  | succ n ih =>
    intro dp lab I L i1 i2 i3 hI
    rw [kf_217.eq_2]
    repeat' (with_reducible first | (refine ih _ _ _ _ _ _ _ ?_) | (refine fi_214 e n _ _ _ _ ?_) | (refine fi_218 e n _ _ _ _ _ ?_) | (refine fi_219 e n _ _ _ _ _ ?_) | (refine fi_220 e n _ _ _ _ _ _ ?_) | (refine fi_223 e n _ _ _ _ _ _ ?_) | refine F2_r ?_ | exact F2_n | refine F2_c ?_ ?_ | (refine F2_s ?_; try dsimp only) | (refine F2_b3 ?_ (fun x I L h => ?_) <;> try dsimp only) | (refine F2_b2 ?_ (fun I L h => ?_) <;> try dsimp only))
    all_goals (first | (first | assumption | exact FI_13 | exact FI_12 | (refine FI_w ?_ ?_ <;> first | omega | assumption | exact FI_13 | exact FI_12 | (refine FI_w ?_ ?_ <;> first | omega | assumption | exact FI_13 | exact FI_12 | (refine FI_w ?_ ?_ <;> first | omega | assumption | exact FI_13 | exact FI_12 | (refine FI_w ?_ ?_ <;> first | omega | assumption | exact FI_12 | (refine FI_w ?_ ?_ <;> first | omega | assumption)))))))
set_option maxRecDepth 100000 in
theorem fi_213 : ∀ (n dp lab : Nat) (I : JI) (L : JI), FI I → F2i (kf_213 n dp e lab I L) := by
  intro n
  induction n with
  | zero => intros; rw [kf_213.eq_1]; exact F2_n
  | succ n ih =>
    intro dp lab I L hI
    rw [kf_213.eq_2]
    repeat' (with_reducible first | (refine ih _ _ _ _ ?_) | (refine fi_214 e n _ _ _ _ ?_) | refine F2_r ?_ | exact F2_n | refine F2_c ?_ ?_ | (refine F2_s ?_; try dsimp only) | (refine F2_b3 ?_ (fun x I L h => ?_) <;> try dsimp only) | (refine F2_b2 ?_ (fun I L h => ?_) <;> try dsimp only))
    all_goals (first | (first | assumption | exact FI_13 | exact FI_12 | (refine FI_w ?_ ?_ <;> first | omega | assumption | exact FI_13 | exact FI_12 | (refine FI_w ?_ ?_ <;> first | omega | assumption | exact FI_13 | exact FI_12 | (refine FI_w ?_ ?_ <;> first | omega | assumption | exact FI_13 | exact FI_12 | (refine FI_w ?_ ?_ <;> first | omega | assumption | exact FI_12 | (refine FI_w ?_ ?_ <;> first | omega | assumption)))))))
set_option maxRecDepth 100000 in
theorem fi_212 : ∀ (n dp lab : Nat) (I : JI) (L : JI) (i1 : Int), FI I → F3i (kf_212 n dp e lab I L i1) := by
  intro n
  induction n with
  | zero => intros; rw [kf_212.eq_1]; exact F3_n
  | succ n ih =>
    intro dp lab I L i1 hI
    rw [kf_212.eq_2]
    repeat' (with_reducible first | (refine ih _ _ _ _ _ ?_) | (refine fi_194 e n _ _ _ _ _ ?_) | (refine fi_213 e n _ _ _ _ ?_) | (refine fi_214 e n _ _ _ _ ?_) | (refine fi_217 e n _ _ _ _ _ _ _ ?_) | (refine fi_219 e n _ _ _ _ _ ?_) | (refine fi_226 e n _ _ _ _ _ ?_) | refine F3_r ?_ | exact F3_n | refine F3_c ?_ ?_ | (refine F3_s ?_; try dsimp only) | (refine F3_b3 ?_ (fun x I L h => ?_) <;> try dsimp only) | (refine F3_b2 ?_ (fun I L h => ?_) <;> try dsimp only))
    all_goals (first | (first | assumption | exact FI_13 | exact FI_12 | (refine FI_w ?_ ?_ <;> first | omega | assumption | exact FI_13 | exact FI_12 | (refine FI_w ?_ ?_ <;> first | omega | assumption | exact FI_13 | exact FI_12 | (refine FI_w ?_ ?_ <;> first | omega | assumption | exact FI_13 | exact FI_12 | (refine FI_w ?_ ?_ <;> first | omega | assumption | exact FI_12 | (refine FI_w ?_ ?_ <;> first | omega | assumption)))))))
end FI
