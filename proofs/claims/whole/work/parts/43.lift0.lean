/-! LIFT: Int32 and Int64 into Int, with guards; what the lifted function answers, the function answers alike -/
abbrev JI : Type := Nat → Int → Int
abbrev PSi : Type := Nat × (Nat → Nat × Nat) × JI × JI × (Nat → Nat → Option Nat)
def Sim {α β : Type} (R : α → β → Prop) (x : Option α) (y : Option β) : Prop := ∀ b, y = some b → ∃ a, x = some a ∧ R a b
def Ui (x : Int32) (y : Int) : Prop := x.toInt = y
def Ul (x : Int64) (y : Int) : Prop := x.toInt = y
def Rli (I : Nat → Nat → Int32) (J : JI) : Prop := ∀ (a k : Nat), Ui (I a k) (J a (k : Int))
def Rll (L : Nat → Nat → Int64) (J : JI) : Prop := ∀ (a k : Nat), Ul (L a k) (J a (k : Int))
def w2 (f : JI) (a : Nat) (k v : Int) : JI := fun b j => if b = a ∧ j = k then v else f b j
def cp2 (f : JI) (b a : Nat) (sp dp m : Int) : JI := fun c j => if c = b ∧ dp ≤ j ∧ j < dp + m then f a (sp + (j - dp)) else f c j
def nw2 (f : JI) (z : Nat) : JI := fun b j => if b = z then 0 else f b j
def l2i (x : Int) : Int := x.bmod (2 ^ 32)
def bA (x y : Int) : Int := (Int32.ofInt x &&& Int32.ofInt y).toInt
def bO (x y : Int) : Int := (Int32.ofInt x ||| Int32.ofInt y).toInt
def bX (x y : Int) : Int := (Int32.ofInt x ^^^ Int32.ofInt y).toInt
def bL (x y : Int) : Int := (Int32.ofInt x <<< (Int32.ofInt y &&& 31)).toInt
def bR (x y : Int) : Int := (Int32.ofInt x >>> (Int32.ofInt y &&& 31)).toInt
def bU (x y : Int) : Int := (Int32.toUInt32 (Int32.ofInt x) >>> (Int32.toUInt32 (Int32.ofInt y) &&& Int32.toUInt32 31)).toInt32.toInt
def R3 (a : Int32 × (Nat → Nat → Int32) × (Nat → Nat → Int64)) (b : Int × JI × JI) : Prop := Ui a.1 b.1 ∧ Rli a.2.1 b.2.1 ∧ Rll a.2.2 b.2.2
def R3l (a : Int64 × (Nat → Nat → Int32) × (Nat → Nat → Int64)) (b : Int × JI × JI) : Prop := Ul a.1 b.1 ∧ Rli a.2.1 b.2.1 ∧ Rll a.2.2 b.2.2
def R2 (a : (Nat → Nat → Int32) × (Nat → Nat → Int64)) (b : JI × JI) : Prop := Rli a.1 b.1 ∧ Rll a.2 b.2
def RP (a : PS) (b : PSi) : Prop := a.1 = b.1 ∧ a.2.1 = b.2.1 ∧ Rli a.2.2.1 b.2.2.1 ∧ Rll a.2.2.2.1 b.2.2.2.1 ∧ a.2.2.2.2 = b.2.2.2.2
def RPi (a : (Int32 × PS) × Nat × Nat) (b : (Int × PSi) × Nat × Nat) : Prop := Ui a.1.1 b.1.1 ∧ RP a.1.2 b.1.2 ∧ a.2 = b.2
def RPn (a : (Nat × PS) × Nat × Nat) (b : (Nat × PSi) × Nat × Nat) : Prop := a.1.1 = b.1.1 ∧ RP a.1.2 b.1.2 ∧ a.2 = b.2
def RPv (a : PS × Nat × Nat) (b : PSi × Nat × Nat) : Prop := RP a.1 b.1 ∧ a.2 = b.2
section SIM
variable {α β γ δ : Type} {R : α → β → Prop} {T : γ → δ → Prop}
theorem Sn {x : Option α} : Sim R x none := fun b h => by cases h
theorem Sr {a : α} {b : β} (h : R a b) : Sim R (some a) (some b) := fun c hc => by cases hc; exact ⟨a, rfl, h⟩
theorem Sc {p q : Prop} [Decidable p] [Decidable q] {a b : Option α} {c d : Option β} (h : p ↔ q) (h1 : q → Sim R a c) (h2 : ¬ q → Sim R b d) : Sim R (if p then a else b) (if q then c else d) := by
  by_cases hq : q
  · rw [if_pos hq, if_pos (h.mpr hq)]; exact h1 hq
  · rw [if_neg hq, if_neg (fun z => hq (h.mp z))]; exact h2 hq
theorem Sg {q : Prop} [Decidable q] {a : Option α} {c : Option β} (h1 : q → Sim R a c) : Sim R a (if q then c else none) := by
  by_cases hq : q
  · rw [if_pos hq]; exact h1 hq
  · rw [if_neg hq]; exact Sn
theorem Sb {x : Option α} {y : Option β} {k : α → Option γ} {l : β → Option δ} (h : Sim R x y) (g : ∀ a b, R a b → Sim T (k a) (l b)) : Sim T (x.bind k) (y.bind l) := fun d hd => by
  cases hy : y with
  | none => rw [hy] at hd; cases hd
  | some b =>
    rw [hy] at hd
    obtain ⟨a, h1, h2⟩ := h b hy
    rw [h1]
    exact g a b h2 d hd
theorem Sb3 {x : Option (Int32 × (Nat → Nat → Int32) × (Nat → Nat → Int64))} {y : Option (Int × JI × JI)} {k : Int32 × (Nat → Nat → Int32) × (Nat → Nat → Int64) → Option γ} {l : Int × JI × JI → Option δ} (h : Sim R3 x y) (g : ∀ a b I J L M, Ui a b → Rli I J → Rll L M → Sim T (k (a, I, L)) (l (b, J, M))) : Sim T (x.bind k) (y.bind l) :=
  Sb h (fun ⟨a, I, L⟩ ⟨b, J, M⟩ ⟨h1, h2, h3⟩ => g a b I J L M h1 h2 h3)
theorem Sb3l {x : Option (Int64 × (Nat → Nat → Int32) × (Nat → Nat → Int64))} {y : Option (Int × JI × JI)} {k : Int64 × (Nat → Nat → Int32) × (Nat → Nat → Int64) → Option γ} {l : Int × JI × JI → Option δ} (h : Sim R3l x y) (g : ∀ a b I J L M, Ul a b → Rli I J → Rll L M → Sim T (k (a, I, L)) (l (b, J, M))) : Sim T (x.bind k) (y.bind l) :=
  Sb h (fun ⟨a, I, L⟩ ⟨b, J, M⟩ ⟨h1, h2, h3⟩ => g a b I J L M h1 h2 h3)
theorem Sb2 {x : Option ((Nat → Nat → Int32) × (Nat → Nat → Int64))} {y : Option (JI × JI)} {k : (Nat → Nat → Int32) × (Nat → Nat → Int64) → Option γ} {l : JI × JI → Option δ} (h : Sim R2 x y) (g : ∀ I J L M, Rli I J → Rll L M → Sim T (k (I, L)) (l (J, M))) : Sim T (x.bind k) (y.bind l) :=
  Sb h (fun ⟨I, L⟩ ⟨J, M⟩ ⟨h2, h3⟩ => g I J L M h2 h3)
theorem SbPi {x : Option ((Int32 × PS) × Nat × Nat)} {y : Option ((Int × PSi) × Nat × Nat)} {k : (Int32 × PS) × Nat × Nat → Option γ} {l : (Int × PSi) × Nat × Nat → Option δ} (h : Sim RPi x y) (g : ∀ a b z kd I J L M Rf ck cm, Ui a b → Rli I J → Rll L M → Sim T (k ((a, z, kd, I, L, Rf), ck, cm)) (l ((b, z, kd, J, M, Rf), ck, cm))) : Sim T (x.bind k) (y.bind l) :=
  Sb h (fun ⟨⟨a, z, kd, I, L, Rf⟩, ck, cm⟩ ⟨⟨b, z1, kd1, J, M, Rf1⟩, ck1, cm1⟩ ⟨h1, ⟨h2, h3, h4, h5, h6⟩, h7⟩ => by
    have e2 : z = z1 := h2
    have e3 : kd = kd1 := h3
    have e6 : Rf = Rf1 := h6
    have e7 : (ck, cm) = (ck1, cm1) := h7
    cases e7; subst e2; subst e3; subst e6
    exact g a b z kd I J L M Rf ck cm h1 h4 h5)
theorem SbPn {x : Option ((Nat × PS) × Nat × Nat)} {y : Option ((Nat × PSi) × Nat × Nat)} {k : (Nat × PS) × Nat × Nat → Option γ} {l : (Nat × PSi) × Nat × Nat → Option δ} (h : Sim RPn x y) (g : ∀ a z kd I J L M Rf ck cm, Rli I J → Rll L M → Sim T (k ((a, z, kd, I, L, Rf), ck, cm)) (l ((a, z, kd, J, M, Rf), ck, cm))) : Sim T (x.bind k) (y.bind l) :=
  Sb h (fun ⟨⟨a, z, kd, I, L, Rf⟩, ck, cm⟩ ⟨⟨b, z1, kd1, J, M, Rf1⟩, ck1, cm1⟩ ⟨h1, ⟨h2, h3, h4, h5, h6⟩, h7⟩ => by
    have e1 : a = b := h1
    have e2 : z = z1 := h2
    have e3 : kd = kd1 := h3
    have e6 : Rf = Rf1 := h6
    have e7 : (ck, cm) = (ck1, cm1) := h7
    cases e7; subst e1; subst e2; subst e3; subst e6
    exact g a z kd I J L M Rf ck cm h4 h5)
theorem SbPv {x : Option (PS × Nat × Nat)} {y : Option (PSi × Nat × Nat)} {k : PS × Nat × Nat → Option γ} {l : PSi × Nat × Nat → Option δ} (h : Sim RPv x y) (g : ∀ z kd I J L M Rf ck cm, Rli I J → Rll L M → Sim T (k ((z, kd, I, L, Rf), ck, cm)) (l ((z, kd, J, M, Rf), ck, cm))) : Sim T (x.bind k) (y.bind l) :=
  Sb h (fun ⟨⟨z, kd, I, L, Rf⟩, ck, cm⟩ ⟨⟨z1, kd1, J, M, Rf1⟩, ck1, cm1⟩ ⟨⟨h2, h3, h4, h5, h6⟩, h7⟩ => by
    have e2 : z = z1 := h2
    have e3 : kd = kd1 := h3
    have e6 : Rf = Rf1 := h6
    have e7 : (ck, cm) = (ck1, cm1) := h7
    cases e7; subst e2; subst e3; subst e6
    exact g z kd I J L M Rf ck cm h4 h5)
theorem SbE {ε : Type} {x y : Option ε} {k : ε → Option γ} {l : ε → Option δ} (e : x = y) (g : ∀ a, Sim T (k a) (l a)) : Sim T (x.bind k) (y.bind l) := fun d hd => by
  subst e
  cases x with
  | none => cases hd
  | some a => exact g a d hd
theorem SsI {v : Int32} {w : Int} {k : Int32 → Option γ} {l : Int → Option δ} (h : Ui v w) (g : ∀ a b, Ui a b → Sim T (k a) (l b)) : Sim T (stI v k) (stI w l) := g v w h
theorem SsL {v : Int64} {w : Int} {k : Int64 → Option γ} {l : Int → Option δ} (h : Ul v w) (g : ∀ a b, Ul a b → Sim T (k a) (l b)) : Sim T (stI v k) (stI w l) := g v w h
theorem SsJ {v : Nat → Nat → Int32} {w : JI} {k : (Nat → Nat → Int32) → Option γ} {l : JI → Option δ} (h : Rli v w) (g : ∀ a b, Rli a b → Sim T (k a) (l b)) : Sim T (stI v k) (stI w l) := g v w h
theorem SsM {v : Nat → Nat → Int64} {w : JI} {k : (Nat → Nat → Int64) → Option γ} {l : JI → Option δ} (h : Rll v w) (g : ∀ a b, Rll a b → Sim T (k a) (l b)) : Sim T (stI v k) (stI w l) := g v w h
theorem SsE {ε : Type} {v w : ε} {k : ε → Option γ} {l : ε → Option δ} (h : v = w) (g : ∀ a, Sim T (k a) (l a)) : Sim T (stI v k) (stI w l) := by subst h; exact g v
theorem Sm {o : Option Nat} {a : Option α} {k : Nat → Option α} {c : Option β} {l : Nat → Option β} (h1 : Sim R a c) (h2 : ∀ b, Sim R (k b) (l b)) : Sim R (match o with | none => a | some b => k b) (match o with | none => c | some b => l b) := by
  cases o with
  | none => exact h1
  | some b => exact h2 b
end SIM
theorem Sa_i {ck cm cm' : Nat} {x : Option ((Int32 × PS) × Nat × Nat)} {y : Option ((Int × PSi) × Nat × Nat)} (e : cm = cm') (h : Sim RPi x y) : Sim RPi (adk ck cm x) (adk ck cm' y) := fun b hb => by
  subst e
  cases y with
  | none => cases hb
  | some q =>
    obtain ⟨a, h1, h2, h3, h4⟩ := h q rfl
    subst h1
    cases hb
    exact ⟨_, rfl, h2, h3, by dsimp only; rw [h4]⟩
theorem Sa_n {ck cm cm' : Nat} {x : Option ((Nat × PS) × Nat × Nat)} {y : Option ((Nat × PSi) × Nat × Nat)} (e : cm = cm') (h : Sim RPn x y) : Sim RPn (adk ck cm x) (adk ck cm' y) := fun b hb => by
  subst e
  cases y with
  | none => cases hb
  | some q =>
    obtain ⟨a, h1, h2, h3, h4⟩ := h q rfl
    subst h1
    cases hb
    exact ⟨_, rfl, h2, h3, by dsimp only; rw [h4]⟩
theorem Sa_v {ck cm cm' : Nat} {x : Option (PS × Nat × Nat)} {y : Option (PSi × Nat × Nat)} (e : cm = cm') (h : Sim RPv x y) : Sim RPv (adk ck cm x) (adk ck cm' y) := fun b hb => by
  subst e
  cases y with
  | none => cases hb
  | some q =>
    obtain ⟨a, h1, h3, h4⟩ := h q rfl
    subst h1
    cases hb
    exact ⟨_, rfl, h3, by dsimp only; rw [h4]⟩
section UP
variable {x y : Int32} {x' y' : Int}
theorem bm32 {v : Int} (h : -2147483648 ≤ v ∧ v ≤ 2147483647) : v.bmod (2 ^ 32) = v := Int.bmod_eq_of_le (by omega) (by omega)
theorem bm64 {v : Int} (h : -9223372036854775808 ≤ v ∧ v ≤ 9223372036854775807) : v.bmod (2 ^ 64) = v := Int.bmod_eq_of_le (by omega) (by omega)
theorem ui_add (hx : Ui x x') (hy : Ui y y') (g : -2147483648 ≤ x' + y' ∧ x' + y' ≤ 2147483647) : Ui (x + y) (x' + y') := by
  unfold Ui at *; rw [Int32.toInt_add, hx, hy, bm32 g]
theorem ui_sub (hx : Ui x x') (hy : Ui y y') (g : -2147483648 ≤ x' - y' ∧ x' - y' ≤ 2147483647) : Ui (x - y) (x' - y') := by
  unfold Ui at *; rw [Int32.toInt_sub, hx, hy, bm32 g]
theorem ui_mul (hx : Ui x x') (hy : Ui y y') (g : -2147483648 ≤ x' * y' ∧ x' * y' ≤ 2147483647) : Ui (x * y) (x' * y') := by
  unfold Ui at *; rw [Int32.toInt_mul, hx, hy, bm32 g]
theorem ui_neg (hx : Ui x x') (g : -2147483648 ≤ -x' ∧ -x' ≤ 2147483647) : Ui (-x) (-x') := by
  unfold Ui at *; rw [Int32.toInt_neg, hx, bm32 g]
theorem ui_rg (x : Int32) : -2147483648 ≤ x.toInt ∧ x.toInt ≤ 2147483647 := ⟨by have := x.le_toInt; omega, by have := x.toInt_lt; omega⟩
theorem ul_rg (x : Int64) : -9223372036854775808 ≤ x.toInt ∧ x.toInt ≤ 9223372036854775807 := ⟨by have := x.le_toInt; omega, by have := x.toInt_lt; omega⟩
theorem ui_div (hx : Ui x x') (hy : Ui y y') (g : -2147483647 ≤ x') : Ui (x / y) (Int.tdiv x' y') := by
  unfold Ui at *
  rw [Int32.toInt_div_of_ne_left, hx, hy]
  intro h; rw [h] at hx
  have : Int32.minValue.toInt = -2147483648 := rfl
  omega
theorem tm_sub (a b : Int) : a - Int.tdiv a b * b = Int.tmod a b := by
  have := Int.mul_tdiv_add_tmod a b
  rw [Int.mul_comm] at this
  omega
theorem ui_rem (hx : Ui x x') (hy : Ui y y') (g : -2147483647 ≤ x') : Ui (x - x / y * y) (Int.tmod x' y') := by
  have h1 := ui_div hx hy g
  unfold Ui at *
  rw [Int32.toInt_sub, Int32.toInt_mul, h1, hx, hy, Int.sub_bmod_bmod, tm_sub]
  refine bm32 ?_
  have r := ui_rg x
  rw [hx] at r
  rw [← tm_sub]
  have e := tm_sub x' y'
  have n := Int.natAbs_tmod x' y'
  have : (Int.tmod x' y').natAbs ≤ x'.natAbs := by rw [n]; exact Nat.mod_le _ _
  rw [e]
  omega
theorem ui_and (hx : Ui x x') (hy : Ui y y') : Ui (x &&& y) (bA x' y') := by unfold Ui at *; subst hx; subst hy; rw [bA, Int32.ofInt_toInt, Int32.ofInt_toInt]
theorem ui_or (hx : Ui x x') (hy : Ui y y') : Ui (x ||| y) (bO x' y') := by unfold Ui at *; subst hx; subst hy; rw [bO, Int32.ofInt_toInt, Int32.ofInt_toInt]
theorem ui_xor (hx : Ui x x') (hy : Ui y y') : Ui (x ^^^ y) (bX x' y') := by unfold Ui at *; subst hx; subst hy; rw [bX, Int32.ofInt_toInt, Int32.ofInt_toInt]
theorem ui_shl (hx : Ui x x') (hy : Ui y y') : Ui (x <<< (y &&& 31)) (bL x' y') := by unfold Ui at *; subst hx; subst hy; rw [bL, Int32.ofInt_toInt, Int32.ofInt_toInt]
theorem ui_shr (hx : Ui x x') (hy : Ui y y') : Ui (x >>> (y &&& 31)) (bR x' y') := by unfold Ui at *; subst hx; subst hy; rw [bR, Int32.ofInt_toInt, Int32.ofInt_toInt]
theorem ui_ushr (hx : Ui x x') (hy : Ui y y') : Ui (Int32.toUInt32 x >>> (Int32.toUInt32 y &&& Int32.toUInt32 31)).toInt32 (bU x' y') := by unfold Ui at *; subst hx; subst hy; rw [bU, Int32.ofInt_toInt, Int32.ofInt_toInt]
theorem ui_sch (j : Nat) (hx : Ui x x') : Ui (sch j x) (sch j (Int32.ofInt x')).toInt := by unfold Ui at *; subst hx; rw [Int32.ofInt_toInt]
theorem ui_nI {m : Nat} (g : m < 2147483648) : Ui (nI m) (m : Int) := Int32.toInt_ofNat_of_lt g
theorem ui_max (hx : Ui x x') (hy : Ui y y') : Ui (if x < y then y else x) (max x' y') := by
  unfold Ui at *
  by_cases h : x < y
  · rw [if_pos h]; rw [Int32.lt_iff_toInt_lt] at h; omega
  · rw [if_neg h]; rw [Int32.lt_iff_toInt_lt] at h; omega
theorem ui_min (hx : Ui x x') (hy : Ui y y') : Ui (if x < y then x else y) (min x' y') := by
  unfold Ui at *
  by_cases h : x < y
  · rw [if_pos h]; rw [Int32.lt_iff_toInt_lt] at h; omega
  · rw [if_neg h]; rw [Int32.lt_iff_toInt_lt] at h; omega
theorem ui_l2i {a : Int64} {a' : Int} (h : Ul a a') (g : -2147483648 ≤ a' ∧ a' ≤ 2147483647) : Ui a.toInt32 a' := by
  unfold Ul at h; unfold Ui; rw [Int64.toInt_toInt32, h, bm32 g]
theorem ui_l2iw {a : Int64} {a' : Int} (h : Ul a a') : Ui a.toInt32 (l2i a') := by
  unfold Ul at h; unfold Ui; rw [Int64.toInt_toInt32, h]; rfl
theorem ui_rd {I : Nat → Nat → Int32} {J : JI} {a : Nat} (HI : Rli I J) (h : Ui x x') (h0 : 0 ≤ x') : Ui (I a (Int32.toNatClampNeg x)) (J a x') := by
  have := HI a (Int32.toNatClampNeg x)
  unfold Ui at h
  have e : ((Int32.toNatClampNeg x : Nat) : Int) = x' := by rw [Int32.toNatClampNeg, h, Int.toNat_of_nonneg h0]
  rwa [e] at this
theorem ul_rd {I : Nat → Nat → Int64} {J : JI} {a : Nat} (HI : Rll I J) (h : Ui x x') (h0 : 0 ≤ x') : Ul (I a (Int32.toNatClampNeg x)) (J a x') := by
  have := HI a (Int32.toNatClampNeg x)
  unfold Ui at h
  have e : ((Int32.toNatClampNeg x : Nat) : Int) = x' := by rw [Int32.toNatClampNeg, h, Int.toNat_of_nonneg h0]
  rwa [e] at this
theorem le_up (hx : Ui x x') (hy : Ui y y') : x ≤ y ↔ x' ≤ y' := by unfold Ui at *; rw [Int32.le_iff_toInt_le, hx, hy]
theorem lt_up (hx : Ui x x') (hy : Ui y y') : x < y ↔ x' < y' := by unfold Ui at *; rw [Int32.lt_iff_toInt_lt, hx, hy]
theorem eq_up (hx : Ui x x') (hy : Ui y y') : x = y ↔ x' = y' := by unfold Ui at *; rw [← Int32.toInt_inj, hx, hy]
theorem cl_up (hx : Ui x x') : Int32.toNatClampNeg x = x'.toNat := by unfold Ui at hx; rw [Int32.toNatClampNeg, hx]
theorem ix_up {N : Nat} (hx : Ui x x') : (0 ≤ x ∧ Int32.toNatClampNeg x < N) ↔ (0 ≤ x' ∧ x' < (N : Int)) := by
  unfold Ui at hx
  rw [Int32.toNatClampNeg, hx, Int32.le_iff_toInt_le, hx]
  have : (0 : Int32).toInt = 0 := rfl
  omega
end UP
section UPL
variable {x y : Int64} {x' y' : Int}
theorem ul_add (hx : Ul x x') (hy : Ul y y') (g : -9223372036854775808 ≤ x' + y' ∧ x' + y' ≤ 9223372036854775807) : Ul (x + y) (x' + y') := by
  unfold Ul at *; rw [Int64.toInt_add, hx, hy, bm64 g]
theorem ul_sub (hx : Ul x x') (hy : Ul y y') (g : -9223372036854775808 ≤ x' - y' ∧ x' - y' ≤ 9223372036854775807) : Ul (x - y) (x' - y') := by
  unfold Ul at *; rw [Int64.toInt_sub, hx, hy, bm64 g]
theorem ul_mul (hx : Ul x x') (hy : Ul y y') (g : -9223372036854775808 ≤ x' * y' ∧ x' * y' ≤ 9223372036854775807) : Ul (x * y) (x' * y') := by
  unfold Ul at *; rw [Int64.toInt_mul, hx, hy, bm64 g]
theorem ul_div (hx : Ul x x') (hy : Ul y y') (g : -9223372036854775807 ≤ x') : Ul (x / y) (Int.tdiv x' y') := by
  unfold Ul at *
  rw [Int64.toInt_div_of_ne_left, hx, hy]
  intro h; rw [h] at hx
  have : Int64.minValue.toInt = -9223372036854775808 := rfl
  omega
theorem ul_rem (hx : Ul x x') (hy : Ul y y') (g : -9223372036854775807 ≤ x') : Ul (x - x / y * y) (Int.tmod x' y') := by
  have h1 := ul_div hx hy g
  unfold Ul at *
  rw [Int64.toInt_sub, Int64.toInt_mul, h1, hx, hy, Int.sub_bmod_bmod, tm_sub]
  refine bm64 ?_
  have r := ul_rg x
  rw [hx] at r
  have n := Int.natAbs_tmod x' y'
  have : (Int.tmod x' y').natAbs ≤ x'.natAbs := by rw [n]; exact Nat.mod_le _ _
  omega
theorem ul_i2l {a : Int32} {a' : Int} (h : Ui a a') : Ul a.toInt64 a' := by unfold Ui at h; unfold Ul; rw [Int32.toInt_toInt64, h]
theorem ul_min (hx : Ul x x') (hy : Ul y y') : Ul (if x < y then x else y) (min x' y') := by
  unfold Ul at *
  by_cases h : x < y
  · rw [if_pos h]; rw [Int64.lt_iff_toInt_lt] at h; omega
  · rw [if_neg h]; rw [Int64.lt_iff_toInt_lt] at h; omega
theorem leq_up (hx : Ul x x') (hy : Ul y y') : x = y ↔ x' = y' := by unfold Ul at *; rw [← Int64.toInt_inj, hx, hy]
theorem lcl_up (hx : Ul x x') (hy : Ul y y') : lg_cmp x y < 0 ↔ x' < y' := by unfold Ul at *; rw [lg_lt, Int64.lt_iff_toInt_lt, hx, hy]
theorem lcg_up (hx : Ul x x') (hy : Ul y y') : 0 < lg_cmp x y ↔ y' < x' := by unfold Ul at *; rw [lg_gt, Int64.lt_iff_toInt_lt, hx, hy]
theorem lcle_up (hx : Ul x x') (hy : Ul y y') : lg_cmp x y ≤ 0 ↔ x' ≤ y' := by
  rw [← Int32.not_lt, lcg_up hx hy]; omega
theorem lcge_up (hx : Ul x x') (hy : Ul y y') : 0 ≤ lg_cmp x y ↔ y' ≤ x' := by
  rw [← Int32.not_lt, lcl_up hx hy]; omega
theorem lce_up (hx : Ul x x') (hy : Ul y y') : lg_cmp x y = 0 ↔ x' = y' := by
  have a := lcl_up hx hy
  have b := lcg_up hx hy
  refine ⟨fun h => ?_, fun h => ?_⟩
  · rw [h] at a b
    have a1 : ¬ x' < y' := fun z => absurd (a.mpr z) (by decide)
    have b1 : ¬ y' < x' := fun z => absurd (b.mpr z) (by decide)
    omega
  · unfold Ul at *
    have e : x = y := Int64.toInt_inj.mp (by rw [hx, hy, h])
    subst e
    unfold lg_cmp
    rw [if_neg (Int64.lt_irrefl), if_pos rfl]
end UPL
theorem ri_up {I : Nat → Nat → Int32} {J : JI} {a k : Nat} {v : Int32} {k' v' : Int} (HI : Rli I J) (hk : (k : Int) = k') (hv : Ui v v') : Rli (u2 I a k v) (w2 J a k' v') := by
  intro b j
  rw [u2_ite, w2]
  by_cases h : b = a ∧ j = k
  · rw [if_pos h, if_pos ⟨h.1, by rw [h.2, hk]⟩]; exact hv
  · rw [if_neg h, if_neg (fun z => h ⟨z.1, by have := z.2; omega⟩)]; exact HI b j
theorem rl_up {I : Nat → Nat → Int64} {J : JI} {a k : Nat} {v : Int64} {k' v' : Int} (HI : Rll I J) (hk : (k : Int) = k') (hv : Ul v v') : Rll (u2 I a k v) (w2 J a k' v') := by
  intro b j
  rw [u2_ite, w2]
  by_cases h : b = a ∧ j = k
  · rw [if_pos h, if_pos ⟨h.1, by rw [h.2, hk]⟩]; exact hv
  · rw [if_neg h, if_neg (fun z => h ⟨z.1, by have := z.2; omega⟩)]; exact HI b j
theorem kc_up {x : Int32} {x' : Int} (h : Ui x x') (h0 : 0 ≤ x') : ((Int32.toNatClampNeg x : Nat) : Int) = x' := by
  unfold Ui at h
  rw [Int32.toNatClampNeg, h, Int.toNat_of_nonneg h0]
theorem ri_cp {I : Nat → Nat → Int32} {J : JI} {a b : Nat} {s d m : Int32} {s' d' m' : Int} (HI : Rli I J) (hs : Ui s s') (hd : Ui d d') (hm : Ui m m') (g : 0 ≤ s' ∧ 0 ≤ d' ∧ 0 ≤ m') : Rli (va_up I b (va_cpy (I a) (I b) (Int32.toNatClampNeg s) (Int32.toNatClampNeg d) (Int32.toNatClampNeg m))) (cp2 J b a s' d' m') := by
  intro c j
  have e1 := kc_up hs g.1
  have e2 := kc_up hd g.2.1
  have e3 := kc_up hm g.2.2
  rw [cp2]
  unfold va_up va_cpy
  by_cases h : c = b
  · subst h
    rw [if_pos rfl]
    by_cases h2 : Int32.toNatClampNeg d ≤ j ∧ j < Int32.toNatClampNeg d + Int32.toNatClampNeg m
    · rw [if_pos h2, if_pos ⟨rfl, by omega, by omega⟩]
      have := HI a (Int32.toNatClampNeg s + (j - Int32.toNatClampNeg d))
      rwa [show ((Int32.toNatClampNeg s + (j - Int32.toNatClampNeg d) : Nat) : Int) = s' + (j - d') by omega] at this
    · rw [if_neg h2, if_neg (fun z => h2 ⟨by omega, by omega⟩)]; exact HI c j
  · rw [if_neg h, if_neg (fun z => h z.1)]; exact HI c j
theorem ri_nw {I : Nat → Nat → Int32} {J : JI} {z : Nat} (HI : Rli I J) : Rli (va_up I z (fun _ => 0)) (nw2 J z) := by
  intro c j
  rw [nw2]; unfold va_up
  by_cases h : c = z
  · rw [if_pos h, if_pos h]; rfl
  · rw [if_neg h, if_neg h]; exact HI c j
theorem rl_nw {I : Nat → Nat → Int64} {J : JI} {z : Nat} (HI : Rll I J) : Rll (va_up I z (fun _ => 0)) (nw2 J z) := by
  intro c j
  rw [nw2]; unfold va_up
  by_cases h : c = z
  · rw [if_pos h, if_pos h]; rfl
  · rw [if_neg h, if_neg h]; exact HI c j
