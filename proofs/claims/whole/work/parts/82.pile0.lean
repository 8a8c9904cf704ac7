/-! PARSER 3: the pile of the reference -/
def bnd (o : Int) : Int := if 30 ≤ o then 0 else if o = 29 then 1 else if o = 28 then 2 else if o = 27 then 3 else if 24 ≤ o then 4 else if 22 ≤ o then 6 else 5
def up1 (f : Int → Int) (k v : Int) : Int → Int := fun j => if j = k then v else f j
abbrev CS : Type := (Int → Int) × (Int → Int) × Int
/-- what is on the pile, set down -/
def em1 (x : Int × Int) (s : CS) : CS := if x.1 = 28 ∨ x.1 = 29 then (s.1, up1 s.2.1 x.2 s.2.2, s.2.2) else (up1 s.1 s.2.2 x.1, up1 s.2.1 s.2.2 0, s.2.2 + 1)
def em : List (Int × Int) → CS → CS
  | [], s => s
  | x :: r, s => em r (em1 x s)
theorem em_app (r q : List (Int × Int)) (s : CS) : em (r ++ q) s = em q (em r s) := by
  induction r generalizing s with
  | nil => rfl
  | cons x r ih => exact ih _
theorem em_n (r : List (Int × Int)) (s : CS) : s.2.2 ≤ (em r s).2.2 ∧ (em r s).2.2 ≤ s.2.2 + r.length := by
  induction r generalizing s with
  | nil => simp [em]
  | cons x r ih =>
    have := ih (em1 x s)
    simp only [List.length_cons, em]
    have : (em1 x s).2.2 = s.2.2 ∨ (em1 x s).2.2 = s.2.2 + 1 := by unfold em1; split <;> simp
    omega
/-- the pile lies in two rows -/
def Pl (O A : Int → Int) : List (Int × Int) → Prop
  | [] => True
  | x :: q => O q.length = x.1 ∧ A q.length = x.2 ∧ Pl O A q
theorem Pl_congr {O A O' A' : Int → Int} : ∀ (q : List (Int × Int)), (∀ i : Int, 0 ≤ i → i < q.length → O' i = O i ∧ A' i = A i) → Pl O A q → Pl O' A' q
  | [], _, _ => trivial
  | x :: q, h, p => by
    obtain ⟨p1, p2, p3⟩ := p
    have h0 := h q.length (by omega) (by simp only [List.length_cons]; omega)
    exact ⟨h0.1.trans p1, h0.2.trans p2, Pl_congr q (fun i a b => h i a (by simp only [List.length_cons]; omega)) p3⟩
theorem Pl_app {O A : Int → Int} : ∀ (r q : List (Int × Int)), Pl O A (r ++ q) → Pl O A q
  | [], _, p => p
  | _ :: r, q, p => Pl_app r q p.2.2
def inn : List (Int × Int) → Int
  | [] => -1
  | x :: q => if 30 ≤ x.1 then x.1 else inn q
theorem inn_app : ∀ (r q : List (Int × Int)), (∀ x ∈ r, 1 ≤ bnd x.1) → inn (r ++ q) = inn q
  | [], _, _ => rfl
  | x :: r, q, h => by
    have h0 := h x (List.mem_cons_self ..)
    have : ¬ (30 ≤ x.1) := fun c => by unfold bnd at h0; rw [if_pos c] at h0; omega
    rw [List.cons_append, inn, if_neg this]
    exact inn_app r q (fun y hy => h y (List.mem_cons_of_mem _ hy))
def icp : List (Int × Int) → Int
  | [] => 0
  | x :: q => if 20 ≤ x.1 ∧ x.1 ≤ 23 then icp q else if 24 ≤ x.1 ∧ x.1 ≤ 26 then 1 else 0
theorem bnd_5 {o : Int} (h : 20 ≤ o) (h5 : 5 ≤ bnd o) : o ≤ 23 := by
  unfold bnd at h5
  repeat' split at h5
  all_goals omega
theorem icp_app : ∀ (r q : List (Int × Int)), (∀ x ∈ r, 20 ≤ x.1 ∧ 5 ≤ bnd x.1) → icp (r ++ q) = icp q
  | [], _, _ => rfl
  | x :: r, q, h => by
    have h0 := h x (List.mem_cons_self ..)
    have := bnd_5 h0.1 h0.2
    rw [List.cons_append, icp, if_pos ⟨h0.1, this⟩]
    exact icp_app r q (fun y hy => h y (List.mem_cons_of_mem _ hy))
/-- what may lie on the pile -/
def Pk (n : Int) (q : List (Int × Int)) : Prop := ∀ x ∈ q, 20 ≤ x.1 ∧ x.1 ≤ 31 ∧ 0 ≤ x.2 ∧ x.2 < 400 ∧ (x.1 = 28 ∨ x.1 = 29 → x.2 < n)
/-- a step of the reference, told as the class tells it -/
def nrm (o a : Int) : Int × Int := if o = 0 then (0, a) else if o < 20 then (1, o - 1) else if o < 27 then (o - 18, 0) else if o = 27 then (9, 0) else if o = 28 then (11, a) else (10, a)
def cM (s : CS) : Int → Int × Int := fun i => nrm (s.1 i) (s.2.1 i)
/-- below a the same -/
def Sml (a : Int) (s t : CS) : Prop := ∀ i, i < a → t.1 i = s.1 i ∧ t.2.1 i = s.2.1 i
theorem Sml_r (a : Int) (s : CS) : Sml a s s := fun i _ => ⟨rfl, rfl⟩
theorem Sml_t {a b : Int} {s t u : CS} (hb : a ≤ b) (h : Sml a s t) (g : Sml b t u) : Sml a s u := fun i hi => by
  have h1 := h i hi
  have h2 := g i (by omega)
  exact ⟨h2.1.trans h1.1, h2.2.trans h1.2⟩
theorem Sml_up {s : CS} {a o v : Int} (ha : a ≤ s.2.2) : Sml a s (up1 s.1 s.2.2 o, up1 s.2.1 s.2.2 v, s.2.2 + 1) := fun i hi => by
  unfold up1
  dsimp only
  rw [if_neg (by omega), if_neg (by omega)]
  exact ⟨rfl, rfl⟩
theorem cM_sml {a b : Int} {s t : CS} {d : Den} {h : Nat} (hs : Sml b s t) (g : Seg (cM s) a b d h) : Seg (cM t) a b d h := seg_congr (fun i _ hi => by unfold cM; rw [(hs i hi).1, (hs i hi).2]) g
theorem up1_s (f : Int → Int) (k v : Int) : up1 f k v k = v := if_pos rfl
theorem up1_o {f : Int → Int} {k v j : Int} (h : ¬ j = k) : up1 f k v j = f j := if_neg h
theorem cM_at (O A : Int → Int) (n m o v : Int) : cM (up1 O n o, up1 A n v, m) n = nrm o v := by
  unfold cM
  dsimp only
  rw [up1_s, up1_s]
/-- a step more, of two sums -/
theorem em_op {s : CS} {a b o : Int} {d1 d2 : Den} {h1 h2 h : Nat} (s1 : Seg (cM s) a b d1 h1) (s2 : Seg (cM s) b s.2.2 d2 h2) (ho : 20 ≤ o ∧ o ≤ 26) (hh : h1 ≤ h ∧ 1 + h2 ≤ h) : Seg (cM (em [(o, 0)] s)) a (em [(o, 0)] s).2.2 (dB (o - 18) d1 d2) h := by
  have e : em [(o, 0)] s = (up1 s.1 s.2.2 o, up1 s.2.1 s.2.2 0, s.2.2 + 1) := by
    unfold em em em1
    rw [if_neg (by dsimp only; omega)]
  rw [e]
  have l1 := s1.1
  have l2 := s2.1
  refine seg_b (cM_sml (Sml_up (by omega)) s1) (cM_sml (Sml_up (by omega)) s2) ?_ (by omega) hh
  rw [cM_at, nrm, if_neg (by omega), if_neg (by omega), if_pos (by omega)]
theorem em_not {s : CS} {a : Int} {d : Den} {h : Nat} (s1 : Seg (cM s) a s.2.2 d h) (t : Td d) : Seg (cM (em [(27, 0)] s)) a (em [(27, 0)] s).2.2 (dN d) h ∧ Td (dN d) := by
  have e : em [(27, 0)] s = (up1 s.1 s.2.2 27, up1 s.2.1 s.2.2 0, s.2.2 + 1) := rfl
  rw [e]
  refine seg_n (cM_sml (Sml_up (by omega)) s1) t ?_
  rw [cM_at]
  rfl
theorem em_and {s : CS} {a b : Int} {d1 d2 : Den} {h1 h2 h : Nat} (s1 : Seg (cM s) a b d1 h1) (t1 : Td d1) (hO : s.1 b = 28) (s2 : Seg (cM s) (b + 1) s.2.2 d2 h2) (t2 : Td d2) (hh : h1 ≤ h ∧ h2 ≤ h) : Seg (cM (em [(28, b)] s)) a (em [(28, b)] s).2.2 (dA d1 d2) h ∧ Td (dA d1 d2) := by
  have e : em [(28, b)] s = (s.1, up1 s.2.1 b s.2.2, s.2.2) := rfl
  rw [e]
  have l1 := s1.1
  have l2 := s2.1
  refine seg_a (seg_congr (fun i x y => ?_) s1) t1 ?_ (seg_congr (fun i x y => ?_) s2) t2 hh
  · unfold cM; dsimp only; rw [up1_o (by omega)]
  · unfold cM; dsimp only; rw [up1_s, hO]; rfl
  · unfold cM; dsimp only; rw [up1_o (by omega)]
theorem em_or {s : CS} {a b : Int} {d1 d2 : Den} {h1 h2 h : Nat} (s1 : Seg (cM s) a b d1 h1) (t1 : Td d1) (hO : s.1 b = 29) (s2 : Seg (cM s) (b + 1) s.2.2 d2 h2) (t2 : Td d2) (hh : h1 ≤ h ∧ h2 ≤ h) : Seg (cM (em [(29, b)] s)) a (em [(29, b)] s).2.2 (dO d1 d2) h ∧ Td (dO d1 d2) := by
  have e : em [(29, b)] s = (s.1, up1 s.2.1 b s.2.2, s.2.2) := rfl
  rw [e]
  have l1 := s1.1
  have l2 := s2.1
  refine seg_o (seg_congr (fun i x y => ?_) s1) t1 ?_ (seg_congr (fun i x y => ?_) s2) t2 hh
  · unfold cM; dsimp only; rw [up1_o (by omega)]
  · unfold cM; dsimp only; rw [up1_s, hO]; rfl
  · unfold cM; dsimp only; rw [up1_o (by omega)]
