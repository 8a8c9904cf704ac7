section
set_option maxRecDepth 100000 in
theorem ev_269_1 {dp : Nat} {e : EN} {I : JI} {L : JI} {i1 : Int} {i2 : Int} {i3 : Int} {i4 : Int} {P_ : (Int × JI × JI) → Prop} (h : Ev (fun n => (if 10 ≤ i4 then (some ((i3 : Int), I, L)) else (if -2147483648 ≤ 50 + i4 ∧ 50 + i4 ≤ 2147483647 then (if 0 ≤ (50 + i4) ∧ (50 + i4) < 1570 then (if (-2147483648 ≤ 640 * i1 ∧ 640 * i1 ≤ 2147483647) ∧ (-2147483648 ≤ 10 * i2 ∧ 10 * i2 ≤ 2147483647) ∧ (-2147483648 ≤ (640 * i1) + (10 * i2) ∧ (640 * i1) + (10 * i2) ≤ 2147483647) ∧ (-2147483648 ≤ ((640 * i1) + (10 * i2)) + i4 ∧ ((640 * i1) + (10 * i2)) + i4 ≤ 2147483647) then (if 0 ≤ (((640 * i1) + (10 * i2)) + i4) ∧ (((640 * i1) + (10 * i2)) + i4) < 1920 then (if (-2147483648 ≤ (I 107 (50 + i4)) * (I 122 (((640 * i1) + (10 * i2)) + i4)) ∧ (I 107 (50 + i4)) * (I 122 (((640 * i1) + (10 * i2)) + i4)) ≤ 2147483647) ∧ (-2147483648 ≤ i3 + ((I 107 (50 + i4)) * (I 122 (((640 * i1) + (10 * i2)) + i4))) ∧ i3 + ((I 107 (50 + i4)) * (I 122 (((640 * i1) + (10 * i2)) + i4))) ≤ 2147483647) then (stI (i3 + ((I 107 (50 + i4)) * (I 122 (((640 * i1) + (10 * i2)) + i4)))) (fun v_43 => (if -2147483648 ≤ i4 + 1 ∧ i4 + 1 ≤ 2147483647 then (kf_269 n dp e 1 I L i1 i2 v_43 (i4 + 1)) else none))) else none) else none) else none) else none) else none))) P_) : Ev (fun n => kf_269 n dp e 1 I L i1 i2 i3 i4) P_ := Ev_step (fun n => ke_269_1 n dp e I L i1 i2 i3 i4) h
set_option maxRecDepth 100000 in
theorem ev_269_0 {dp : Nat} {e : EN} {I : JI} {L : JI} {i1 : Int} {i2 : Int} {i3 : Int} {i4 : Int} {P_ : (Int × JI × JI) → Prop} (h : Ev (fun n => (kf_269 n dp e 1 I L i1 i2 0 0)) P_) : Ev (fun n => kf_269 n dp e 0 I L i1 i2 i3 i4) P_ := Ev_step (fun n => ke_269_0 n dp e I L i1 i2 i3 i4) h
set_option maxRecDepth 100000 in
theorem ev_268_0 {dp : Nat} {e : EN} {I : JI} {L : JI} {i1 : Int} {i2 : Int} {P_ : (Int × JI × JI) → Prop} (h : Ev (fun n => (if 0 ≤ i1 ∧ i1 < 8 then (if 1 ≤ dp then ((kf_269 n (dp - 1) e 0 I L (I 126 i1) i2 0 0).bind (fun ⟨x0_12, I0_12, L0_12⟩ => (if (I0_12 105 48) ≤ 1 then (if (-2147483648 ≤ (I 105 48) * x0_12 ∧ (I 105 48) * x0_12 ≤ 2147483647) ∧ (-2147483648 ≤ ((I 105 48) * x0_12) - 0 ∧ ((I 105 48) * x0_12) - 0 ≤ 2147483647) then (some (((((I 105 48) * x0_12) - 0) : Int), I0_12, L0_12)) else none) else (if 0 ≤ i1 ∧ i1 < 8 then (if i2 = (I0_12 132 i1) then (if (-2147483648 ≤ (I 105 48) * x0_12 ∧ (I 105 48) * x0_12 ≤ 2147483647) ∧ (-2147483648 ≤ ((I 105 48) * x0_12) - 0 ∧ ((I 105 48) * x0_12) - 0 ≤ 2147483647) then (some (((((I 105 48) * x0_12) - 0) : Int), I0_12, L0_12)) else none) else (if (-2147483648 ≤ (I 105 48) * x0_12 ∧ (I 105 48) * x0_12 ≤ 2147483647) ∧ (-2147483648 ≤ ((I 105 48) * x0_12) - 1 ∧ ((I 105 48) * x0_12) - 1 ≤ 2147483647) then (some (((((I 105 48) * x0_12) - 1) : Int), I0_12, L0_12)) else none)) else none)))) else none) else none)) P_) : Ev (fun n => kf_268 n dp e 0 I L i1 i2) P_ := Ev_step (fun n => ke_268_0 n dp e I L i1 i2) h
end
/-! PLANS: what the reference reckons of a state -/
def sN (f : Nat → Int) : Nat → Int
  | 0 => 0
  | n + 1 => sN f n + f n
theorem sN_c {f g : Nat → Int} : ∀ n : Nat, (∀ k, k < n → f k = g k) → sN f n = sN g n
  | 0, _ => rfl
  | n + 1, h => by rw [sN, sN, sN_c n (fun k hk => h k (by omega)), h n (by omega)]
theorem sN_b {f : Nat → Int} {A : Int} (hA : 0 ≤ A) : ∀ n : Nat, (∀ k, k < n → -A ≤ f k ∧ f k ≤ A) → -(A * n) ≤ sN f n ∧ sN f n ≤ A * n
  | 0, _ => by rw [sN]; simp
  | n + 1, h => by
    have r := sN_b hA n (fun k hk => h k (by omega))
    have b := h n (by omega)
    rw [sN, show ((n + 1 : Nat) : Int) = n + 1 by omega, Int.mul_add, Int.mul_one]
    omega
theorem sm_bb {f : Int → Int} {A : Int} (hA : 0 ≤ A) : ∀ n : Nat, (∀ k : Int, 0 ≤ k → k < n → 0 ≤ f k ∧ f k ≤ A) → 0 ≤ sm f n ∧ sm f n ≤ A * n
  | 0, _ => by simp [sm]
  | n + 1, h => by
    have r := sm_bb hA n (fun k a hk => h k a (by omega))
    have b := h n (by omega) (by omega)
    rw [sm_s, show ((n + 1 : Nat) : Int) = n + 1 by omega, Int.mul_add, Int.mul_one]
    omega
/-- what carcass i can be, of the reference -/
def ovM (K : JI) (c : Int) (k : Nat) : Int := sm (fun p => K 107 (50 + p) * K 122 (640 * c + 10 * k + p)) 10
def gnM (K : JI) (i k : Nat) : Int := K 105 48 * ovM K (K 126 i) k - if 1 < K 105 48 ∧ ¬ (k : Int) = K 132 i then 1 else 0
def OfC (K : JI) (i : Nat) : OF := ((K 120 (K 126 i)).toNat, gnM K i, fun k p => if 0 ≤ p ∧ p < 10 then K 122 (640 * K 126 i + 10 * k + p) else 0)
def osL (K : JI) : Nat → Nat → List OF
  | _, 0 => []
  | i, j + 1 => OfC K i :: osL K (i + 1) j
def bnM (K : JI) (p : Int) : Int := K 107 (40 + p) - K 107 (50 + p)
def vlM (K : JI) (m : Nat) (od : Nat → Int) (wn : Int → Int) (s : Int) (x : SX) : Int := x.1 + K 105 48 * sN (fun k => min (wn (od k)) (dgS (fun k => wn (od k) + 1) s k + x.2 (od k)) * bnM K (od k)) m
def PlH (K : JI) (N : Nat) : Prop := N ≤ 8 ∧ K 105 40 = N ∧ (∀ i : Nat, i < N → (0 ≤ K 126 i ∧ K 126 i < 3) ∧ (1 ≤ K 120 (K 126 i) ∧ K 120 (K 126 i) ≤ 64) ∧ ∀ k : Nat, k < (K 120 (K 126 i)).toNat → ∀ p : Int, 0 ≤ p → p < 10 → 0 ≤ K 122 (640 * K 126 i + 10 * k + p) ∧ K 122 (640 * K 126 i + 10 * k + p) ≤ 200) ∧ (K 105 48 = 1 ∨ K 105 48 = 16) ∧ ∀ i, 40 ≤ i → i < 60 → 0 ≤ K 107 i ∧ K 107 i ≤ 999
/-- only what is reckoned has changed -/
def FrPl (K0 K : JI) : Prop := ∀ a i, ¬ (129 ≤ a ∧ a ≤ 131) → ¬ a = 133 → K a i = K0 a i
def RkO (K0 K : JI) (m : Nat) (od : Nat → Int) (wn : Int → Int) (N i : Nat) (s : Int) : Prop := MxH (Sq (osL K0 i (N - i))) (vlM K0 m od wn s) (fun _ => True) (K 129 (59049 * i + s)) (K 130 (59049 * i + s)) ∧ K 130 (59049 * i + s) ≤ 1000000000 ∧ -(1000000 + 40000000 * ((N : Int) - i)) ≤ K 129 (59049 * i + s) ∧ K 129 (59049 * i + s) ≤ 1000000 + 40000000 * ((N : Int) - i)
theorem cP_1 {Q : Nat → Prop} {k : Nat} (hQ : Q k) : ∀ m : Nat, cP (fun x => x = k ∧ Q x) (List.range m) = if k < m then 1 else 0
  | 0 => by rw [if_neg (by omega)]; rfl
  | m + 1 => by
    rw [List.range_succ, cP_a, cP_1 hQ m]
    by_cases c : m = k
    · subst c
      rw [cP_t ⟨rfl, hQ⟩, cP, if_neg (by omega), if_pos (by omega)]
    · rw [cP_f (fun z => c z.1), cP]
      by_cases d : k < m
      · rw [if_pos d, if_pos (by omega)]
      · rw [if_neg d, if_neg (by omega)]
theorem MxH_1 {m k : Nat} {v : Nat → Int} (hk : k < m) : MxH (List.range m) v (fun x => x = k) (v k) 1 := by
  refine ⟨fun x _ h => by rw [h]; exact Int.le_refl _, ⟨k, List.mem_range.2 hk, rfl, rfl⟩, by decide, ?_⟩
  rw [cP_1 (Q := fun x => v x = v k) rfl, if_pos hk]
  rfl
theorem Sq_n {os : List OF} (h : ∀ o ∈ os, ∀ k, k < o.1 → ∀ p, 0 ≤ o.2.2 k p) : ∀ x ∈ Sq os, ∀ p, 0 ≤ x.2 p := by
  induction os with
  | nil => intro x hx p; rw [Sq, List.mem_singleton] at hx; rw [hx]; exact Int.le_refl _
  | cons o os ih =>
    intro x hx p
    rw [Sq, List.mem_map] at hx
    obtain ⟨y, hy, rfl⟩ := hx
    have a := h o List.mem_cons_self y.1 (pr_i.1 hy).1 p
    have b := ih (fun o' ho => h o' (List.mem_cons_of_mem _ ho)) y.2 (pr_i.1 hy).2 p
    show 0 ≤ o.2.2 y.1 p + y.2.2 p
    omega
theorem osL_n {K : JI} {N : Nat} (h : PlH K N) : ∀ (j i : Nat), i + j = N → ∀ o ∈ osL K i j, ∀ k, k < o.1 → ∀ p, 0 ≤ o.2.2 k p
  | 0, i, _, o, ho, _, _, _ => by rw [osL] at ho; exact absurd ho List.not_mem_nil
  | j + 1, i, e, o, ho, k, hk, p => by
    rw [osL] at ho
    rcases List.mem_cons.1 ho with r | r
    · subst r
      show 0 ≤ if 0 ≤ p ∧ p < 10 then K 122 (640 * K 126 i + 10 * k + p) else 0
      by_cases c : 0 ≤ p ∧ p < 10
      · rw [if_pos c]; exact ((h.2.2.1 i (by omega)).2.2 k hk p c.1 c.2).1
      · rw [if_neg c]; exact Int.le_refl _
    · exact osL_n h j (i + 1) (by omega) o r k hk p
section PM
variable {e : EN} {L : JI} {m : Nat} {od : Nat → Int} {wn : Int → Int}
theorem K269 {dp : Nat} {K : JI} {c x1 x2 : Int} {k : Nat} (hc : 0 ≤ c ∧ c < 3) (hk : k < 64) (h7 : ∀ i, 40 ≤ i → i < 60 → 0 ≤ K 107 i ∧ K 107 i ≤ 999) (hL : ∀ p : Int, 0 ≤ p → p < 10 → 0 ≤ K 122 (640 * c + 10 * k + p) ∧ K 122 (640 * c + 10 * k + p) ≤ 200) : Ev (fun n => kf_269 n dp e 0 K L c k x1 x2) (fun r => r = (ovM K c k, K, L)) := by
  have key : ∀ p : Nat, p ≤ 10 → Ev (fun n => kf_269 n dp e 1 K L c k (sm (fun p => K 107 (50 + p) * K 122 (640 * c + 10 * k + p)) p) p) (fun r => r = (ovM K c k, K, L)) := by
    refine dec_ind 10 (fun p hp ih => ?_)
    refine ev_269_1 ?_
    by_cases q : p < 10
    · have ih := ih q
      have b := sm_bb (f := fun p => K 107 (50 + p) * K 122 (640 * c + 10 * k + p)) (A := 999 * 200) (by decide) p (fun i a b => mulb (h7 _ (by omega) (by omega)) (hL _ a (by omega)))
      have b1 := mulb (h7 (50 + p) (by omega) (by omega)) (hL p (by omega) (by omega))
      rw [sm_s] at ih
      refine Ev_f (by omega) (Ev_t (by omega) (Ev_t (by omega) (Ev_t (by omega) (Ev_t (by omega) (Ev_t (by omega) (Ev_st (Ev_t (by omega) ih)))))))
    · have : p = 10 := by omega
      subst this
      exact Ev_t (by omega) (Ev_ret rfl)
  refine ev_269_0 ?_
  exact key 0 (by omega)
theorem ovM_b {K : JI} {c : Int} {k : Nat} (h7 : ∀ i, 40 ≤ i → i < 60 → 0 ≤ K 107 i ∧ K 107 i ≤ 999) (hL : ∀ p : Int, 0 ≤ p → p < 10 → 0 ≤ K 122 (640 * c + 10 * k + p) ∧ K 122 (640 * c + 10 * k + p) ≤ 200) : 0 ≤ ovM K c k ∧ ovM K c k ≤ 1998000 := by
  have b := sm_bb (f := fun p => K 107 (50 + p) * K 122 (640 * c + 10 * k + p)) (A := 999 * 200) (by decide) 10 (fun i a b => mulb (h7 _ (by omega) (by omega)) (hL _ a (by omega)))
  unfold ovM
  omega
theorem K268 {dp N : Nat} {K : JI} {i k : Nat} (hd : 1 ≤ dp) (hP : PlH K N) (hi : i < N) (hk : k < (K 120 (K 126 i)).toNat) : Ev (fun n => kf_268 n dp e 0 K L i k) (fun r => r = (gnM K i k, K, L)) := by
  obtain ⟨p1, p2, p3, p4, p5⟩ := hP
  obtain ⟨q1, q2, q3⟩ := p3 i hi
  have ob := ovM_b p5 (q3 k hk)
  have tb := mulb (a := K 105 48) (A := 16) (by omega) ob
  refine ev_268_0 ?_
  refine Ev_t (by omega) (Ev_t (by omega) (Ev_call (K269 q1 (by omega) p5 (q3 k hk)) ?_))
  dsimp only
  unfold gnM
  refine Ev_c (fun z => Ev_t (by omega) (Ev_ret ?_)) (fun z => Ev_t (by omega) (Ev_c (fun y => Ev_t (by omega) (Ev_ret ?_)) (fun y => Ev_t (by omega) (Ev_ret ?_))))
  · rw [if_neg (by omega)]
  · rw [if_neg (fun w => w.2 y)]
  · rw [if_pos ⟨by omega, y⟩]
theorem gnM_b {N : Nat} {K : JI} {i k : Nat} (hP : PlH K N) (hi : i < N) (hk : k < (K 120 (K 126 i)).toNat) : -1 ≤ gnM K i k ∧ gnM K i k ≤ 31968000 := by
  obtain ⟨p1, p2, p3, p4, p5⟩ := hP
  obtain ⟨q1, q2, q3⟩ := p3 i hi
  have ob := ovM_b p5 (q3 k hk)
  have tb := mulb (a := K 105 48) (A := 16) (by omega) ob
  unfold gnM
  split <;> omega
/-- the state behind s by cutting k of carcass i -/
def bhM (K : JI) (m : Nat) (od : Nat → Int) (wn : Int → Int) (i k : Nat) (s : Int) : Int := csE (fun k => wn (od k) + 1) (fun j => min (wn (od j)) (dgS (fun k => wn (od k) + 1) s j + K 122 (640 * K 126 i + 10 * k + od j))) 0 m
theorem vlM_s {K : JI} {N i k : Nat} {s : Int} {x : SX} (hO : OrM K m od wn) (hP : PlH K N) (hi : i < N) (hk : k < (K 120 (K 126 i)).toNat) (hx : ∀ p, 0 ≤ x.2 p) : vlM K m od wn s (adX (OfC K i) (k, x)) = gnM K i k + vlM K m od wn (bhM K m od wn i k s) x := by
  obtain ⟨o1, o2, o3, o4, o5⟩ := hO
  obtain ⟨q1, q2, q3⟩ := hP.2.2.1 i hi
  unfold vlM
  show gnM K i k + x.1 + _ = gnM K i k + (x.1 + _)
  rw [← Int.add_assoc]
  congr 2
  refine sN_c m (fun j hj => ?_)
  obtain ⟨d1, d2, d3⟩ := o3 j hj
  have hD : ∀ j, j < m → 0 ≤ min (wn (od j)) (dgS (fun k => wn (od k) + 1) s j + K 122 (640 * K 126 i + 10 * k + od j)) ∧ min (wn (od j)) (dgS (fun k => wn (od k) + 1) s j + K 122 (640 * K 126 i + 10 * k + od j)) < wn (od j) + 1 := fun j hj => by
    have z := o3 j hj
    have y := o4 (od j) z.2.1 z.2.2
    have w := dg_b (B := fun k => wn (od k) + 1) (s := s) (k := j) (by omega)
    have l := q3 k hk (od j) z.2.1 z.2.2
    omega
  unfold bhM
  rw [dg_cs (B := fun k => wn (od k) + 1) hD hj]
  congr 1
  show min _ (_ + ((if 0 ≤ od j ∧ od j < 10 then K 122 (640 * K 126 i + 10 * k + od j) else 0) + x.2 (od j))) = _
  rw [if_pos ⟨d2, d3⟩]
  have := hx (od j)
  omega
end PM
