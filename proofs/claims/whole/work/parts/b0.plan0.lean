/-! PLANS: all sequences of choices, the most that one brings and how many bring it -/
noncomputable def cP {α : Type} (P : α → Prop) : List α → Nat
  | [] => 0
  | x :: l => @ite _ (P x) (Classical.propDecidable _) 1 0 + cP P l
theorem cP_t {α : Type} {P : α → Prop} {x : α} {l : List α} (h : P x) : cP P (x :: l) = 1 + cP P l := by rw [cP, if_pos h]
theorem cP_f {α : Type} {P : α → Prop} {x : α} {l : List α} (h : ¬ P x) : cP P (x :: l) = cP P l := by rw [cP, if_neg h]; omega
theorem cP_a {α : Type} {P : α → Prop} : ∀ l r : List α, cP P (l ++ r) = cP P l + cP P r
  | [], r => by rw [List.nil_append, cP]; omega
  | x :: l, r => by
    rw [List.cons_append, cP, cP, cP_a l r]
    omega
theorem cP_c {α : Type} {P Q : α → Prop} : ∀ l : List α, (∀ x ∈ l, P x ↔ Q x) → cP P l = cP Q l
  | [], _ => rfl
  | x :: l, h => by
    have r := cP_c l (fun y hy => h y (List.mem_cons_of_mem _ hy))
    have hx := h x List.mem_cons_self
    by_cases c : P x
    · rw [cP_t c, cP_t (hx.1 c), r]
    · rw [cP_f c, cP_f (fun z => c (hx.2 z)), r]
theorem cP_m {α β : Type} {P : β → Prop} {f : α → β} : ∀ l : List α, cP P (l.map f) = cP (fun x => P (f x)) l
  | [] => rfl
  | x :: l => by
    rw [List.map_cons]
    by_cases c : P (f x)
    · rw [cP_t c, cP_t (P := fun x => P (f x)) c, cP_m l]
    · rw [cP_f c, cP_f (P := fun x => P (f x)) c, cP_m l]
theorem cP_or {α : Type} {P Q : α → Prop} : ∀ l : List α, (∀ x ∈ l, ¬ (P x ∧ Q x)) → cP (fun x => P x ∨ Q x) l = cP P l + cP Q l
  | [], _ => rfl
  | x :: l, h => by
    have r := cP_or l (fun y hy => h y (List.mem_cons_of_mem _ hy))
    have hx := h x List.mem_cons_self
    by_cases c : P x
    · rw [cP_t (P := fun x => P x ∨ Q x) (Or.inl c), cP_t c, cP_f (fun z => hx ⟨c, z⟩), r]; omega
    · by_cases d : Q x
      · rw [cP_t (P := fun x => P x ∨ Q x) (Or.inr d), cP_f c, cP_t d, r]; omega
      · rw [cP_f (P := fun x => P x ∨ Q x) (fun z => z.elim c d), cP_f c, cP_f d, r]
theorem cP_0 {α : Type} {P : α → Prop} : ∀ l : List α, (∀ x ∈ l, ¬ P x) → cP P l = 0
  | [], _ => rfl
  | x :: l, h => by rw [cP_f (h x List.mem_cons_self)]; exact cP_0 l (fun y hy => h y (List.mem_cons_of_mem _ hy))
/-- pairs -/
def pr {α : Type} (m : Nat) (l : List α) : List (Nat × α) := (List.range m).flatMap (fun k => l.map (fun x => (k, x)))
theorem pr_s {α : Type} (m : Nat) (l : List α) : pr (m + 1) l = pr m l ++ l.map (fun x => (m, x)) := by
  unfold pr
  rw [List.range_succ, List.flatMap_append]
  simp
theorem pr_i {α : Type} {m : Nat} {l : List α} {y : Nat × α} : y ∈ pr m l ↔ y.1 < m ∧ y.2 ∈ l := by
  unfold pr
  rw [List.mem_flatMap]
  constructor
  · rintro ⟨k, hk, hy⟩
    rw [List.mem_map] at hy
    obtain ⟨x, hx, rfl⟩ := hy
    exact ⟨List.mem_range.1 hk, hx⟩
  · rintro ⟨h1, h2⟩
    exact ⟨y.1, List.mem_range.2 h1, List.mem_map.2 ⟨y.2, h2, rfl⟩⟩
theorem cP_pr {α : Type} {A : Nat → Prop} {B : α → Prop} {l : List α} : ∀ m : Nat, cP (fun y => A y.1 ∧ B y.2) (pr m l) = cP A (List.range m) * cP B l
  | 0 => by rw [show pr 0 l = [] from rfl, show List.range 0 = [] from rfl, cP, cP]; omega
  | m + 1 => by
    rw [pr_s, cP_a, cP_pr m, List.range_succ, cP_a, cP_m, Nat.add_mul]
    congr 1
    by_cases c : A m
    · rw [cP_t c, cP, Nat.one_mul]
      exact cP_c l (fun x _ => ⟨fun z => z.2, fun z => ⟨c, z⟩⟩)
    · rw [cP_f c, cP, Nat.zero_mul]
      exact cP_0 l (fun x _ z => c z.1)
/-- the most, and how many -/
def MxH {α : Type} (l : List α) (val : α → Int) (H : α → Prop) (b n : Int) : Prop := (∀ x ∈ l, H x → val x ≤ b) ∧ (∃ x, x ∈ l ∧ H x ∧ val x = b) ∧ 0 ≤ n ∧ min 1000000000 n = min 1000000000 (cP (fun x => H x ∧ val x = b) l : Int)
theorem MxH_u {α : Type} {l : List α} {val : α → Int} {H : α → Prop} {b n b' n' : Int} (h : MxH l val H b n) (h' : MxH l val H b' n') : b = b' ∧ min 1000000000 n = min 1000000000 n' := by
  obtain ⟨h1, ⟨x, hx, kx, vx⟩, h3, h4⟩ := h
  obtain ⟨g1, ⟨y, hy, ky, vy⟩, g3, g4⟩ := h'
  have a := h1 y hy ky
  have b0 := g1 x hx kx
  have e : b = b' := by omega
  subst e
  exact ⟨rfl, h4.trans g4.symm⟩
theorem MxH_n {α : Type} {l : List α} {val : α → Int} {H : α → Prop} {b n n' : Int} (h : MxH l val H b n) (h0 : 0 ≤ n') (hn : min 1000000000 n' = min 1000000000 n) : MxH l val H b n' := ⟨h.1, h.2.1, h0, hn.trans h.2.2.2⟩
theorem MxH_c {α : Type} {l : List α} {val val' : α → Int} {H H' : α → Prop} {b n : Int} (hH : ∀ x ∈ l, H' x ↔ H x) (hv : ∀ x ∈ l, H x → val' x = val x) (h : MxH l val H b n) : MxH l val' H' b n := by
  obtain ⟨h1, ⟨x, hx, kx, vx⟩, h3, h4⟩ := h
  refine ⟨fun y hy ky => by rw [hv y hy ((hH y hy).1 ky)]; exact h1 y hy ((hH y hy).1 ky), ⟨x, hx, (hH x hx).2 kx, by rw [hv x hx kx]; exact vx⟩, h3, ?_⟩
  rw [h4, cP_c l (P := fun x => H' x ∧ val' x = b) (Q := fun x => H x ∧ val x = b) (fun y hy => ?_)]
  constructor
  · rintro ⟨z1, z2⟩
    exact ⟨(hH y hy).1 z1, by rw [← hv y hy ((hH y hy).1 z1)]; exact z2⟩
  · rintro ⟨z1, z2⟩
    exact ⟨(hH y hy).2 z1, by rw [hv y hy z1]; exact z2⟩
theorem MxH_m {α β : Type} {l : List α} {f : α → β} {val : β → Int} {H : β → Prop} {b n : Int} (h : MxH l (fun x => val (f x)) (fun x => H (f x)) b n) : MxH (l.map f) val H b n := by
  obtain ⟨h1, ⟨x, hx, kx, vx⟩, h3, h4⟩ := h
  refine ⟨fun y hy ky => ?_, ⟨f x, List.mem_map.2 ⟨x, hx, rfl⟩, kx, vx⟩, h3, ?_⟩
  · obtain ⟨z, hz, rfl⟩ := List.mem_map.1 hy
    exact h1 z hz ky
  · rw [h4, cP_m]
theorem MxH_g {α : Type} {l : List α} {val : α → Int} {H H1 H2 : α → Prop} {b n b1 n1 : Int} (h : MxH l val H1 b1 n1) (hU : ∀ x ∈ l, H x ↔ H1 x ∨ H2 x) (hb : ∀ x ∈ l, H2 x → val x < b1) (eb : b = b1) (en : n = n1) : MxH l val H b n := by
  subst eb; subst en
  obtain ⟨h1, ⟨x, hx, kx, vx⟩, h3, h4⟩ := h
  refine ⟨fun y hy ky => ?_, ⟨x, hx, (hU x hx).2 (Or.inl kx), vx⟩, h3, ?_⟩
  · rcases (hU y hy).1 ky with z | z
    · exact h1 y hy z
    · exact Int.le_of_lt (hb y hy z)
  · rw [h4, cP_c l (P := fun x => H x ∧ val x = b) (Q := fun x => H1 x ∧ val x = b) (fun y hy => ?_)]
    constructor
    · rintro ⟨z1, z2⟩
      rcases (hU y hy).1 z1 with z | z
      · exact ⟨z, z2⟩
      · have := hb y hy z; omega
    · rintro ⟨z1, z2⟩
      exact ⟨(hU y hy).2 (Or.inl z1), z2⟩
theorem MxH_e {α : Type} {l : List α} {val : α → Int} {H H1 H2 : α → Prop} {b n n1 n2 : Int} (h : MxH l val H1 b n1) (g : MxH l val H2 b n2) (hD : ∀ x ∈ l, ¬ (H1 x ∧ H2 x)) (hU : ∀ x ∈ l, H x ↔ H1 x ∨ H2 x) (h0 : 0 ≤ n) (hn : min 1000000000 n = min 1000000000 (n1 + n2)) : MxH l val H b n := by
  obtain ⟨h1, ⟨x, hx, kx, vx⟩, h3, h4⟩ := h
  obtain ⟨g1, _, g3, g4⟩ := g
  refine ⟨fun y hy ky => ?_, ⟨x, hx, (hU x hx).2 (Or.inl kx), vx⟩, h0, ?_⟩
  · rcases (hU y hy).1 ky with z | z
    · exact h1 y hy z
    · exact g1 y hy z
  · rw [hn, cP_c l (P := fun x => H x ∧ val x = b) (Q := fun x => (H1 x ∧ val x = b) ∨ (H2 x ∧ val x = b)) (fun y hy => ?_), cP_or (P := fun x => H1 x ∧ val x = b) (Q := fun x => H2 x ∧ val x = b) l (fun y hy z => hD y hy ⟨z.1.1, z.2.1⟩)]
    · omega
    · constructor
      · rintro ⟨z1, z2⟩
        exact ((hU y hy).1 z1).elim (fun z => Or.inl ⟨z, z2⟩) (fun z => Or.inr ⟨z, z2⟩)
      · rintro (⟨z1, z2⟩ | ⟨z1, z2⟩)
        · exact ⟨(hU y hy).2 (Or.inl z1), z2⟩
        · exact ⟨(hU y hy).2 (Or.inr z1), z2⟩
theorem mn_mul {a a' b b' : Int} (ha : 0 ≤ a) (ha' : 0 ≤ a') (hb : 0 ≤ b) (hb' : 0 ≤ b') (h : min 1000000000 a = min 1000000000 a') (g : min 1000000000 b = min 1000000000 b') : min 1000000000 (a * b) = min 1000000000 (a' * b') := by
  by_cases ca : a < 1000000000
  · have ea : a = a' := by omega
    subst ea
    by_cases cb : b < 1000000000
    · have eb : b = b' := by omega
      rw [eb]
    · by_cases c0 : a = 0
      · rw [c0, Int.zero_mul, Int.zero_mul]
      · have p1 := Int.mul_le_mul_of_nonneg_right (show 1 ≤ a by omega) hb
        have p2 := Int.mul_le_mul_of_nonneg_right (show 1 ≤ a by omega) hb'
        omega
  · by_cases c0 : b = 0
    · have : b' = 0 := by omega
      rw [c0, this, Int.mul_zero, Int.mul_zero]
    · have p1 := Int.mul_le_mul_of_nonneg_left (show 1 ≤ b by omega) ha
      have p2 := Int.mul_le_mul_of_nonneg_left (show 1 ≤ b' by omega) ha'
      omega
theorem MxH_p {α : Type} {m : Nat} {l : List α} {v1 : Nat → Int} {v2 : α → Int} {A : Nat → Prop} {B : α → Prop} {b1 n1 b2 n2 n : Int} (h : MxH (List.range m) v1 A b1 n1) (g : MxH l v2 B b2 n2) (h0 : 0 ≤ n) (hn : min 1000000000 n = min 1000000000 (n1 * n2)) : MxH (pr m l) (fun y => v1 y.1 + v2 y.2) (fun y => A y.1 ∧ B y.2) (b1 + b2) n := by
  obtain ⟨h1, ⟨x, hx, kx, vx⟩, h3, h4⟩ := h
  obtain ⟨g1, ⟨y, hy, ky, vy⟩, g3, g4⟩ := g
  refine ⟨fun z hz kz => ?_, ⟨(x, y), pr_i.2 ⟨List.mem_range.1 hx, hy⟩, ⟨kx, ky⟩, ?_⟩, h0, ?_⟩
  · have := h1 z.1 (List.mem_range.2 (pr_i.1 hz).1) kz.1
    have := g1 z.2 (pr_i.1 hz).2 kz.2
    dsimp only
    omega
  · show v1 x + v2 y = _; omega
  · rw [hn, cP_c (pr m l) (P := fun y => (A y.1 ∧ B y.2) ∧ v1 y.1 + v2 y.2 = b1 + b2) (Q := fun y => (A y.1 ∧ v1 y.1 = b1) ∧ (B y.2 ∧ v2 y.2 = b2)) (fun z hz => ?_), cP_pr (A := fun k => A k ∧ v1 k = b1) (B := fun x => B x ∧ v2 x = b2)]
    · rw [Int.natCast_mul]
      exact mn_mul h3 (by omega) g3 (by omega) h4 g4
    · constructor
      · rintro ⟨⟨z1, z2⟩, z3⟩
        have := h1 z.1 (List.mem_range.2 (pr_i.1 hz).1) z1
        have := g1 z.2 (pr_i.1 hz).2 z2
        exact ⟨⟨z1, by omega⟩, z2, by omega⟩
      · rintro ⟨⟨z1, z2⟩, z3, z4⟩
        exact ⟨⟨z1, z3⟩, by omega⟩
/-- what can be done with a carcass: how many cuttings, what each gains, what each leaves -/
abbrev OF : Type := Nat × (Nat → Int) × (Nat → Int → Int)
abbrev SX : Type := Int × (Int → Int)
def adX (o : OF) (y : Nat × SX) : SX := (o.2.1 y.1 + y.2.1, fun p => o.2.2 y.1 p + y.2.2 p)
def Sq : List OF → List SX
  | [] => [(0, fun _ => 0)]
  | o :: os => (pr o.1 (Sq os)).map (adX o)
/-- gains times s, and d more for each carcass -/
theorem MxH_v {α : Type} {l : List α} {val : α → Int} {H : α → Prop} {b n s d : Int} (hs : 0 < s) (h : MxH l val H b n) : MxH l (fun x => s * val x + d) H (s * b + d) n := by
  obtain ⟨h1, ⟨x, hx, kx, vx⟩, h3, h4⟩ := h
  refine ⟨fun y hy ky => ?_, ⟨x, hx, kx, by show s * val x + d = _; rw [vx]⟩, h3, ?_⟩
  · have := Int.mul_le_mul_of_nonneg_left (h1 y hy ky) (Int.le_of_lt hs)
    show s * val y + d ≤ _
    omega
  · rw [h4, cP_c l (P := fun x => H x ∧ s * val x + d = s * b + d) (Q := fun x => H x ∧ val x = b) (fun y hy => ?_)]
    constructor
    · rintro ⟨z1, z2⟩
      exact ⟨z1, Int.eq_of_mul_eq_mul_left (Int.ne_of_gt hs) (by omega)⟩
    · rintro ⟨z1, z2⟩
      exact ⟨z1, by rw [z2]⟩
def scO (s : Int) (o : OF) : OF := (o.1, fun k => s * o.2.1 k, o.2.2)
theorem Sq_sc (s : Int) : ∀ os : List OF, Sq (os.map (scO s)) = (Sq os).map (fun x => (s * x.1, x.2))
  | [] => by simp [Sq]
  | o :: os => by
    have e : ∀ (m : Nat) (l : List SX), pr m (l.map (fun x => (s * x.1, x.2))) = (pr m l).map (fun y => (y.1, (s * y.2.1, y.2.2))) := by
      intro m l
      induction m with
      | zero => rfl
      | succ m ih => rw [pr_s, pr_s, ih, List.map_append, List.map_map, List.map_map]; rfl
    rw [List.map_cons, Sq, Sq, Sq_sc s os]
    show List.map (adX (scO s o)) (pr o.1 _) = _
    rw [e, List.map_map, List.map_map]
    refine List.map_congr_left (fun y _ => ?_)
    show (s * o.2.1 y.1 + s * y.2.1, _) = (s * (o.2.1 y.1 + y.2.1), _)
    rw [Int.mul_add]
    rfl
