section
set_option maxRecDepth 100000 in
theorem ev_286_4 {dp : Nat} {e : EN} {I : JI} {L : JI} {i1 : Int} {i2 : Int} {i3 : Int} {i4 : Int} {i5 : Int} {P_ : (Int × JI × JI) → Prop} (h : Ev (fun n => (if 4 ≤ i5 then (some ((i4 : Int), I, L)) else (if 0 ≤ i5 ∧ i5 < 4 then (if (I 139 i5) ≤ i4 then (if -2147483648 ≤ i5 + 1 ∧ i5 + 1 ≤ 2147483647 then (kf_286 n dp e 4 I L i1 i2 i3 i4 (i5 + 1)) else none) else (if 0 ≤ i5 ∧ i5 < 4 then (stI (I 139 i5) (fun v_146 => (if -2147483648 ≤ i5 + 1 ∧ i5 + 1 ≤ 2147483647 then (kf_286 n dp e 4 I L i1 i2 i3 v_146 (i5 + 1)) else none))) else none)) else none))) P_) : Ev (fun n => kf_286 n dp e 4 I L i1 i2 i3 i4 i5) P_ := Ev_step (fun n => ke_286_4 n dp e I L i1 i2 i3 i4 i5) h
set_option maxRecDepth 100000 in
theorem ev_286_2 {dp : Nat} {e : EN} {I : JI} {L : JI} {i1 : Int} {i2 : Int} {i3 : Int} {i4 : Int} {i5 : Int} {P_ : (Int × JI × JI) → Prop} (h : Ev (fun n => (if i4 < 0 then (kf_286 n dp e 4 I L i1 i2 i3 0 0) else (if 0 ≤ i4 ∧ i4 < 16 then (if (I 138 i4) = 0 then (kf_286 n dp e 3 I L i1 i2 i3 i4 0) else (if ¬ (i3 = 0) then (if ¬ (i3 = 0) then (if (-2147483647 ≤ i2) ∧ (-2147483648 ≤ 70 + (Int.tmod i2 i3) ∧ 70 + (Int.tmod i2 i3) ≤ 2147483647) then (if 0 ≤ (70 + (Int.tmod i2 i3)) ∧ (70 + (Int.tmod i2 i3)) < 1570 then (if 0 ≤ i4 ∧ i4 < 16 then (if 1 ≤ dp then ((kf_287 n (dp - 1) e 0 I L (I 107 (70 + (Int.tmod i2 i3))) (I 137 i4)).bind (fun ⟨x0_77, I0_77, L0_77⟩ => (if x0_77 = 0 then (some ((1000000000 : Int), I0_77, L0_77)) else (if 0 ≤ (Int.tmod i2 i3) ∧ (Int.tmod i2 i3) < 4 then (if 0 ≤ i4 ∧ i4 < 16 then (if 0 ≤ (Int.tmod i2 i3) ∧ (Int.tmod i2 i3) < 4 then (if -2147483648 ≤ (I0_77 139 (Int.tmod i2 i3)) + (I0_77 136 i4) ∧ (I0_77 139 (Int.tmod i2 i3)) + (I0_77 136 i4) ≤ 2147483647 then (stI (w2 I0_77 139 (Int.tmod i2 i3) ((I0_77 139 (Int.tmod i2 i3)) + (I0_77 136 i4))) (fun I_103 => (kf_286 n dp e 3 I_103 L0_77 i1 (Int.tdiv i2 i3) i3 i4 0))) else none) else none) else none) else none)))) else none) else none) else none) else none) else none) else none)) else none))) P_) : Ev (fun n => kf_286 n dp e 2 I L i1 i2 i3 i4 i5) P_ := Ev_step (fun n => ke_286_2 n dp e I L i1 i2 i3 i4 i5) h
set_option maxRecDepth 100000 in
theorem ev_286_3 {dp : Nat} {e : EN} {I : JI} {L : JI} {i1 : Int} {i2 : Int} {i3 : Int} {i4 : Int} {i5 : Int} {P_ : (Int × JI × JI) → Prop} (h : Ev (fun n => (if -2147483648 ≤ i4 + (-1) ∧ i4 + (-1) ≤ 2147483647 then (kf_286 n dp e 2 I L i1 i2 i3 (i4 + (-1)) 0) else none)) P_) : Ev (fun n => kf_286 n dp e 3 I L i1 i2 i3 i4 i5) P_ := Ev_step (fun n => ke_286_3 n dp e I L i1 i2 i3 i4 i5) h
set_option maxRecDepth 100000 in
theorem ev_286_1 {dp : Nat} {e : EN} {I : JI} {L : JI} {i1 : Int} {i2 : Int} {i3 : Int} {i4 : Int} {i5 : Int} {P_ : (Int × JI × JI) → Prop} (h : Ev (fun n => (if 4 ≤ i4 then (kf_286 n dp e 2 I L i1 i2 i3 15 0) else (if 0 ≤ i4 ∧ i4 < 4 then (stI (w2 I 139 i4 0) (fun I_25 => (if -2147483648 ≤ i4 + 1 ∧ i4 + 1 ≤ 2147483647 then (kf_286 n dp e 1 I_25 L i1 i2 i3 (i4 + 1) 0) else none))) else none))) P_) : Ev (fun n => kf_286 n dp e 1 I L i1 i2 i3 i4 i5) P_ := Ev_step (fun n => ke_286_1 n dp e I L i1 i2 i3 i4 i5) h
set_option maxRecDepth 100000 in
theorem ev_286_0 {dp : Nat} {e : EN} {I : JI} {L : JI} {i1 : Int} {i2 : Int} {i3 : Int} {i4 : Int} {i5 : Int} {P_ : (Int × JI × JI) → Prop} (h : Ev (fun n => (kf_286 n dp e 1 I L i1 i1 (I 107 3) 0 0)) P_) : Ev (fun n => kf_286 n dp e 0 I L i1 i2 i3 i4 i5) P_ := Ev_step (fun n => ke_286_0 n dp e I L i1 i2 i3 i4 i5) h
end
/-! SHARE: the reference goes through all codes -/
def enR (b : Int) : Int → List Nat → Int
  | a, [] => a
  | a, m :: r => enR b (a * b + m) r
def pwR (b : Int) : Nat → Int
  | 0 => 1
  | n + 1 => b * pwR b n
theorem enR_a {b : Int} {m : Nat} : ∀ (r : List Nat) (a : Int), enR b a (r ++ [m]) = enR b a r * b + m
  | [], a => rfl
  | k :: r, a => by rw [List.cons_append, enR, enR, enR_a r]
theorem pwR_4 : ∀ n : Fin 11, pwR 4 n.val ≤ 1048576 := by decide
theorem pwR_b {b : Int} (h : 0 ≤ b ∧ b ≤ 4) : ∀ n, 0 ≤ pwR b n ∧ pwR b n ≤ pwR 4 n
  | 0 => by simp [pwR]
  | n + 1 => by
    have r := pwR_b h n
    exact ⟨Int.mul_nonneg h.1 r.1, Int.mul_le_mul h.2 r.2 r.1 (by decide)⟩
theorem enR_b {b : Int} (hb : 0 ≤ b) : ∀ (r : List Nat) (a : Int), (∀ m ∈ r, (m : Int) < b) → a * pwR b r.length ≤ enR b a r ∧ enR b a r < (a + 1) * pwR b r.length
  | [], a, _ => by
    rw [enR]
    show a * 1 ≤ a ∧ a < (a + 1) * 1
    omega
  | m :: r, a, h => by
    have hm := h m List.mem_cons_self
    have q := enR_b hb r (a * b + m) (fun k hk => h k (List.mem_cons_of_mem _ hk))
    have p0 : 0 ≤ pwR b r.length := by
      have : ∀ n, 0 ≤ pwR b n := fun n => by
        induction n with
        | zero => show (0 : Int) ≤ 1; decide
        | succ n ih => exact Int.mul_nonneg hb ih
      exact this _
    rw [enR, List.length_cons]
    show a * (b * pwR b r.length) ≤ _ ∧ _ < (a + 1) * (b * pwR b r.length)
    have e1 : a * (b * pwR b r.length) = (a * b) * pwR b r.length := (Int.mul_assoc _ _ _).symm
    have e2 : (a + 1) * (b * pwR b r.length) = ((a + 1) * b) * pwR b r.length := (Int.mul_assoc _ _ _).symm
    have i1 := Int.mul_le_mul_of_nonneg_right (show a * b ≤ a * b + m by omega) p0
    have i2 : (a * b + m + 1) * pwR b r.length ≤ ((a + 1) * b) * pwR b r.length := Int.mul_le_mul_of_nonneg_right (by rw [Int.add_mul]; omega) p0
    rw [e1, e2]
    omega
theorem enR_m {b : Int} (hb : 0 ≤ b) : ∀ (r r' : List Nat) (a : Int), r.length = r'.length → (∀ m ∈ r, (m : Int) < b) → (∀ m ∈ r', (m : Int) < b) → lxR r r' → enR b a r < enR b a r'
  | [], r', a, _, _, _, h => by rw [lxR] at h; exact h.elim
  | m :: r, [], a, hl, _, _, h => by simp at hl
  | m :: r, m' :: r', a, hl, h1, h2, h => by
    have hl2 : r.length = r'.length := by simpa using hl
    rw [lxR_c] at h
    rw [enR, enR]
    rcases h with h | ⟨rfl, h⟩
    · have q1 := (enR_b hb r (a * b + m) (fun k hk => h1 k (List.mem_cons_of_mem _ hk))).2
      have q2 := (enR_b hb r' (a * b + m') (fun k hk => h2 k (List.mem_cons_of_mem _ hk))).1
      have p0 : 0 ≤ pwR b r'.length := by
        have : ∀ n, 0 ≤ pwR b n := fun n => by
          induction n with
          | zero => show (0 : Int) ≤ 1; decide
          | succ n ih => exact Int.mul_nonneg hb ih
        exact this _
      have i2 : (a * b + m + 1) * pwR b r'.length ≤ (a * b + m') * pwR b r'.length := Int.mul_le_mul_of_nonneg_right (by omega) p0
      rw [hl2] at q1
      omega
    · exact enR_m hb r r' _ hl2 (fun k hk => h1 k (List.mem_cons_of_mem _ hk)) (fun k hk => h2 k (List.mem_cons_of_mem _ hk)) h
/-- a row for each task -/
def fuR (T r : List Nat) (men : Nat) : Prop := r.length = T.length ∧ ∀ m ∈ r, m < men
theorem fuR_o {men : Nat} : ∀ {T r : List Nat}, fuR T r men → okR men (fun _ _ => True) T r
  | [], r, h => by
    have : r = [] := List.length_eq_zero_iff.1 (by simpa using h.1)
    subst this
    exact trivial
  | w :: T, [], h => by have := h.1; simp at this
  | w :: T, m :: r, h => okR_c.2 ⟨⟨h.2 m List.mem_cons_self, trivial⟩, fuR_o ⟨by simpa using h.1, fun k hk => h.2 k (List.mem_cons_of_mem _ hk)⟩⟩
theorem okR_f {men : Nat} {can : Nat → Nat → Prop} : ∀ {T r : List Nat}, okR men can T r → fuR T r men
  | [], r, h => by rw [okR_0 h]; exact ⟨rfl, fun m hm => absurd hm List.not_mem_nil⟩
  | w :: T, r, h => by
    obtain ⟨m, c, rfl, h1, h2⟩ := okR_s h
    have q := okR_f h2
    refine ⟨by rw [List.length_cons, List.length_cons, q.1], fun k hk => ?_⟩
    rw [List.mem_cons] at hk
    rcases hk with rfl | hk
    · exact h1.1
    · exact q.2 k hk
theorem enR_u {men : Nat} {T r r' : List Nat} (h : fuR T r men) (h' : fuR T r' men) (e : enR men 0 r = enR men 0 r') : r = r' := by
  rcases lxR_t (fuR_o h) (fuR_o h') with z | z | z
  · exact z
  · have := enR_m (b := men) (by omega) r r' 0 (h.1.trans h'.1.symm) (fun m hm => by have := h.2 m hm; omega) (fun m hm => by have := h'.2 m hm; omega) z
    omega
  · have := enR_m (b := men) (by omega) r' r 0 (h'.1.trans h.1.symm) (fun m hm => by have := h'.2 m hm; omega) (fun m hm => by have := h.2 m hm; omega) z
    omega
theorem enR_e {men : Nat} : ∀ (n : Nat) (c : Int), 0 ≤ c → c < pwR men n → ∃ r : List Nat, r.length = n ∧ (∀ m ∈ r, m < men) ∧ enR men 0 r = c
  | 0, c, h0, h1 => ⟨[], rfl, fun m hm => absurd hm List.not_mem_nil, by
    have h1 : c < 1 := h1
    show (0 : Int) = c
    omega⟩
  | n + 1, c, h0, h1 => by
    have h1 : c < (men : Int) * pwR men n := h1
    by_cases z : men = 0
    · subst z
      rw [show ((0 : Nat) : Int) = 0 by rfl, Int.zero_mul] at h1
      omega
    · have d := Int.emod_add_mul_ediv c men
      have b1 := Int.emod_nonneg c (show (men : Int) ≠ 0 by omega)
      have b2 := Int.emod_lt_of_pos c (show (0 : Int) < men by omega)
      obtain ⟨r, r1, r2, r3⟩ := enR_e n (c / men) (Int.ediv_nonneg h0 (by omega)) (Int.ediv_lt_of_lt_mul (by omega) (by rw [Int.mul_comm]; exact h1))
      refine ⟨r ++ [(c % men).toNat], by rw [List.length_append, r1]; rfl, fun m hm => ?_, ?_⟩
      · rw [List.mem_append] at hm
        rcases hm with hm | hm
        · exact r2 m hm
        · rw [List.mem_singleton] at hm
          omega
      · rw [enR_a, r3, Int.mul_comm]
        omega
theorem okR_z {men : Nat} {can : Nat → Nat → Prop} : ∀ {T r : List Nat}, r.length = T.length → (okR men can T r ↔ ∀ p ∈ T.zip r, p.2 < men ∧ can p.2 p.1)
  | [], r, h => by
    have : r = [] := List.length_eq_zero_iff.1 (by simpa using h)
    subst this
    simp [okR]
  | w :: T, [], h => by simp at h
  | w :: T, m :: r, h => by
    rw [okR_c, List.zip_cons_cons, List.forall_mem_cons, okR_z (by simpa using h)]
theorem psum_a {mn : Nat → Int} {m : Nat} : ∀ l l' : List (Nat × Nat), psum mn m (l ++ l') = psum mn m l + psum mn m l'
  | [], l' => by show psum mn m l' = 0 + _; omega
  | p :: l, l' => by
    show _ + psum mn m (l ++ l') = _ + psum mn m l + psum mn m l'
    rw [psum_a l l']; omega
theorem psum_b {mn : Nat → Int} {m : Nat} (hm : ∀ w, 0 ≤ mn w ∧ mn w ≤ 96000) : ∀ l : List (Nat × Nat), 0 ≤ psum mn m l ∧ psum mn m l ≤ 96000 * (l.length : Int)
  | [] => by simp [psum]
  | p :: l => by
    have r := psum_b hm (m := m) l
    have b := hm p.1
    show 0 ≤ (if p.2 = m then mn p.1 else 0) + psum mn m l ∧ (if p.2 = m then mn p.1 else 0) + psum mn m l ≤ 96000 * ((l.length + 1 : Nat) : Int)
    split <;> omega
theorem psum_0 {mn : Nat → Int} {m : Nat} : ∀ l : List (Nat × Nat), (∀ p ∈ l, ¬ p.2 = m) → psum mn m l = 0
  | [], _ => rfl
  | p :: l, h => by
    show (if p.2 = m then mn p.1 else 0) + psum mn m l = 0
    rw [if_neg (h p List.mem_cons_self), psum_0 l (fun q hq => h q (List.mem_cons_of_mem _ hq))]
    rfl
theorem dm_men {a b m : Int} (ha : 0 ≤ a) (hb : 0 < b) (hm : 0 ≤ m ∧ m < b) : 0 ≤ a * b + m ∧ Int.tmod (a * b + m) b = m ∧ Int.tdiv (a * b + m) b = a := by
  have p := Int.mul_nonneg ha (show 0 ≤ b by omega)
  refine ⟨by omega, ?_, ?_⟩
  · rw [Int.tmod_eq_emod_of_nonneg (by omega), Int.add_comm, Int.add_mul_emod_self_right, Int.emod_eq_of_lt hm.1 hm.2]
  · rw [Int.tdiv_eq_ediv_of_nonneg (by omega), Int.add_comm, Int.add_mul_ediv_right _ _ (by omega), Int.ediv_eq_zero_of_lt hm.1 hm.2, Int.zero_add]
theorem enR_0 {b : Int} (hb : 0 ≤ b) : ∀ (r : List Nat) (a : Int), 0 ≤ a → 0 ≤ enR b a r
  | [], a, h => h
  | m :: r, a, h => by
    rw [enR]
    have := Int.mul_nonneg h hb
    exact enR_0 hb r _ (by omega)
section KQ
variable {dp : Nat} {e : EN} {L : JI} {ρ : Int → Int} {f : Nat → Int} {N men : Nat} {ms : Nat → Int}
/-- what the reference's tries look at -/
def ShV (K : JI) (ρ : Int → Int) (f : Nat → Int) (N men : Nat) (ms : Nat → Int) : Prop := TkR K ρ f N 16 ∧ K 105 60 = ((tkL ρ f N 16).length : Int) ∧ K 107 3 = men ∧ ∀ m : Nat, m < men → K 107 (70 + m) = ms m
theorem ShV_c {K K' : JI} (h : ∀ a i, ¬ a = 139 → ¬ a = 140 → K' a i = K a i) (q : ShV K ρ f N men ms) : ShV K' ρ f N men ms := by
  obtain ⟨q1, q2, q3, q4⟩ := q
  refine ⟨fun w hw => ?_, by rw [h _ _ (by omega) (by omega)]; exact q2, by rw [h _ _ (by omega) (by omega)]; exact q3, fun m hm => by rw [h _ _ (by omega) (by omega)]; exact q4 m hm⟩
  rw [h 136 _ (by omega) (by omega), h 137 _ (by omega) (by omega), h 138 _ (by omega) (by omega)]
  exact q1 w hw
/-- from the last task to the first -/
theorem snoc_i {r : List Nat} {n : Nat} (h : r.length = n + 1) : ∃ r' m, r = r' ++ [m] ∧ r'.length = n := by
  have ne : r ≠ [] := fun z => by subst z; simp at h
  refine ⟨r.dropLast, r.getLast ne, (List.dropLast_concat_getLast ne).symm, by rw [List.length_dropLast]; omega⟩
set_option maxHeartbeats 2000000 in
theorem K286 {K : JI} {r : List Nat} (hd : 1 ≤ dp) (hV : ShV K ρ f N men ms) (hmen : men ≤ 4) (hm : ∀ w : Nat, 0 ≤ tkM ρ f w N ∧ tkM ρ f w N ≤ 96000) (hr : fuR (tkL ρ f N 16) r men) : Ev (fun n => kf_286 n dp e 0 K L (enR men 0 r) 0 0 0 0) (fun q => q.2.2 = L ∧ (∀ a i, ¬ a = 139 → q.2.1 a i = K a i) ∧ ((okR men (cnR ms (fun w => tkS ρ f w N)) (tkL ρ f N 16) r ∧ q.1 = vlR (fun w => tkM ρ f w N) (tkL ρ f N 16) r (fun _ => 0) 0) ∨ (¬ okR men (cnR ms (fun w => tkS ρ f w N)) (tkL ρ f N 16) r ∧ q.1 = 1000000000))) := by
  have hV' := hV
  obtain ⟨v1, v2, v3, v4⟩ := hV
  have hz := okR_z (men := men) (can := cnR ms (fun w => tkS ρ f w N)) hr.1
  have lT := tkL_n (ρ := ρ) (f := f) (N := N) 16
  generalize hQ : (fun q : Int × JI × JI => q.2.2 = L ∧ (∀ a i, ¬ a = 139 → q.2.1 a i = K a i) ∧ ((okR men (cnR ms (fun w => tkS ρ f w N)) (tkL ρ f N 16) r ∧ q.1 = vlR (fun w => tkM ρ f w N) (tkL ρ f N 16) r (fun _ => 0) 0) ∨ (¬ okR men (cnR ms (fun w => tkS ρ f w N)) (tkL ρ f N 16) r ∧ q.1 = 1000000000))) = Q
  /- the longest -/
  have top : ∀ K1 : JI, (∀ a i, ¬ a = 139 → K1 a i = K a i) → (∀ m : Nat, m < 4 → K1 139 m = psum (fun w => tkM ρ f w N) m ((tkL ρ f N 16).zip r)) → okR men (cnR ms (fun w => tkS ρ f w N)) (tkL ρ f N 16) r → ∀ x y : Int, Ev (fun n => kf_286 n dp e 4 K1 L x y men 0 0) Q := fun K1 k1 k2 ok x y => by
    have vle := fun B => vlR_le (B := B) (fun w => (hm w).1) (tkL ρ f N 16) r (fun _ => 0) 0 ok (fun _ _ => Int.le_refl _)
    have hfd : ∀ m, fdR (fun w => tkM ρ f w N) (tkL ρ f N 16) r (fun _ => 0) m = psum (fun w => tkM ρ f w N) m ((tkL ρ f N 16).zip r) := fun m => by rw [fdR_z]; omega
    have key : ∀ m : Nat, m ≤ 4 → ∀ cur : Int, 0 ≤ cur → (∀ k : Nat, k < m → K1 139 k ≤ cur) → (cur = 0 ∨ ∃ k : Nat, k < m ∧ cur = K1 139 k) → Ev (fun n => kf_286 n dp e 4 K1 L x y men cur m) Q := by
      refine dec_ind 4 (fun m hm' ih => ?_)
      intro cur c0 c1 c2
      refine ev_286_4 ?_
      by_cases cm : m < 4
      · have ih := ih cm
        refine Ev_f (by omega) (Ev_t (by omega) (Ev_c (fun c => ?_) (fun c => ?_)))
        · refine Ev_t (by omega) ?_
          rw [show (m : Int) + 1 = ((m + 1 : Nat) : Int) by omega]
          refine ih cur c0 (fun k hk => ?_) ?_
          · by_cases q : k = m
            · subst q; exact c
            · exact c1 k (by omega)
          · rcases c2 with z | ⟨k, z1, z2⟩
            · exact Or.inl z
            · exact Or.inr ⟨k, by omega, z2⟩
        · refine Ev_t (by omega) (Ev_st (Ev_t (by omega) ?_))
          rw [show (m : Int) + 1 = ((m + 1 : Nat) : Int) by omega]
          refine ih _ (by omega) (fun k hk => ?_) (Or.inr ⟨m, by omega, rfl⟩)
          by_cases q : k = m
          · subst q; exact Int.le_refl _
          · have := c1 k (by omega)
            omega
      · have : m = 4 := by omega
        subst this
        refine Ev_t (by omega) (Ev_ret ?_)
        rw [← hQ]
        refine ⟨rfl, k1, Or.inl ⟨ok, ?_⟩⟩
        dsimp only
        refine Int.le_antisymm ?_ ((vle _).2 ⟨c0, fun m hm' => by rw [hfd, ← k2 m (by omega)]; exact c1 m (by omega)⟩)
        have g0 := vlR_g (mn := fun w => tkM ρ f w N) (tkL ρ f N 16) r (fun _ => 0) 0
        rcases c2 with z | ⟨k, z1, z2⟩
        · omega
        · rw [z2, k2 k z1]
          by_cases q : k < men
          · rw [← hfd]
            exact ((vle _).1 (Int.le_refl _)).2 k q
          · rw [psum_0 _ (fun p hp => by
              have := hr.2 p.2 (List.of_mem_zip hp).2
              omega)]
            exact g0
    exact key 0 (by omega) 0 (Int.le_refl _) (fun k hk => absurd hk (Nat.not_lt_zero _)) (Or.inl rfl)
  /- down the tasks -/
  have down : ∀ (c : Nat), c ≤ 16 → ∀ (K1 : JI) (S s ra : List Nat), (∀ a i, ¬ a = 139 → K1 a i = K a i) → tkL ρ f N 16 = tkL ρ f N c ++ S → r = ra ++ s → ra.length = (tkL ρ f N c).length → (∀ m : Nat, m < 4 → K1 139 m = psum (fun w => tkM ρ f w N) m (S.zip s)) → (∀ p ∈ S.zip s, p.2 < men ∧ cnR ms (fun w => tkS ρ f w N) p.2 p.1) → ∀ x : Int, Ev (fun n => kf_286 n dp e 2 K1 L x (enR men 0 ra) men ((c : Int) - 1) 0) Q := by
    intro c
    induction c with
    | zero =>
      intro _ K1 S s ra k1 k2 k3 k4 k5 k6 x
      have e0 : tkL ρ f N 0 = [] := rfl
      rw [e0] at k2 k4
      have : ra = [] := List.length_eq_zero_iff.1 (by simpa using k4)
      subst this
      rw [List.nil_append] at k2 k3
      rw [← k2, ← k3] at k5 k6
      refine ev_286_2 ?_
      refine Ev_t (by omega) (top K1 k1 k5 (hz.2 k6) x _)
    | succ c ih =>
      intro hc K1 S s ra k1 k2 k3 k4 k5 k6 x
      obtain ⟨t1, t2, t3⟩ := v1 c (by omega)
      have e138 : K1 138 c = (if tkS ρ f c N = -1 then 0 else 1) := (k1 _ _ (by omega)).trans t2
      rw [show ((c + 1 : Nat) : Int) - 1 = c by omega]
      refine ev_286_2 ?_
      refine Ev_f (by omega) (Ev_t (by omega) ?_)
      by_cases cs : tkS ρ f c N = -1
      · refine Ev_t (by rw [e138, if_pos cs]) ?_
        have eL : tkL ρ f N (c + 1) = tkL ρ f N c := by rw [tkL_s, if_pos cs, List.append_nil]
        rw [eL] at k2 k4
        refine ev_286_3 ?_
        refine Ev_t (by omega) ?_
        rw [show (c : Int) + -1 = (c : Int) - 1 by omega]
        exact ih (by omega) K1 S s ra k1 k2 k3 k4 k5 k6 x
      · have eL : tkL ρ f N (c + 1) = tkL ρ f N c ++ [c] := by rw [tkL_s, if_neg cs]
        rw [eL] at k2 k4
        rw [List.length_append] at k4
        obtain ⟨rb, m, rfl, hrb⟩ := snoc_i (n := (tkL ρ f N c).length) k4
        have hmm : m < men := hr.2 m (by rw [k3]; simp)
        obtain ⟨d0, d1, d2⟩ := dm_men (a := enR men 0 rb) (b := men) (m := m) (enR_0 (by omega) rb 0 (Int.le_refl _)) (by omega) (by omega)
        rw [enR_a]
        refine Ev_f (by rw [e138, if_neg cs]; decide) (Ev_t (by omega) (Ev_t (by omega) ?_))
        rw [d1, d2]
        have ezip : ([c] ++ S).zip ([m] ++ s) = (c, m) :: S.zip s := rfl
        have e137 : K1 137 c = tkS ρ f c N := (k1 _ _ (by omega)).trans (t3 cs)
        have e70 : K1 107 (70 + m) = ms m := (k1 _ _ (by omega)).trans (v4 m hmm)
        have e136 : K1 136 c = tkM ρ f c N := (k1 _ _ (by omega)).trans t1
        refine Ev_t (by omega) (Ev_t (by omega) (Ev_t (by omega) (Ev_t hd ?_)))
        rw [e70, e137]
        have full2 : tkL ρ f N 16 = tkL ρ f N c ++ ([c] ++ S) := by rw [k2, List.append_assoc]
        have full3 : r = rb ++ ([m] ++ s) := by rw [k3, List.append_assoc]
        by_cases cc : cnR ms (fun w => tkS ρ f w N) m c
        · refine Ev_call (v := (1, K1, L)) ?_ ?_
          · refine ev_287_0 ?_
            exact Ev_t cc (Ev_ret rfl)
          dsimp only
          have pb := psum_b (mn := fun w => tkM ρ f w N) (m := m) (fun w => hm w) (S.zip s)
          have lz : (S.zip s).length ≤ 16 := by
            have := congrArg List.length full2
            rw [List.length_append, List.length_append] at this
            rw [List.length_zip]
            omega
          have bc := hm c
          refine Ev_f (by decide) (Ev_t (by omega) (Ev_t (by omega) (Ev_t (by omega) ?_)))
          simp only [k5 m (by omega), e136]
          refine Ev_t (by omega) (Ev_st ?_)
          refine ev_286_3 ?_
          refine Ev_t (by omega) ?_
          rw [show (c : Int) + -1 = (c : Int) - 1 by omega]
          refine ih (by omega) _ ([c] ++ S) ([m] ++ s) rb (fun a i y => by rw [w2_o y]; exact k1 a i y) full2 full3 hrb (fun k hk => ?_) (fun p hp => ?_) x
          · rw [ezip]
            show _ = (if m = k then tkM ρ f c N else 0) + psum (fun w => tkM ρ f w N) k (S.zip s)
            by_cases q : m = k
            · subst q; rw [w2_ap, if_pos ⟨rfl, rfl⟩, if_pos rfl]; omega
            · rw [w2_n (by omega), if_neg q, k5 k hk]; omega
          · rw [ezip, List.mem_cons] at hp
            rcases hp with rfl | hp
            · exact ⟨hmm, cc⟩
            · exact k6 p hp
        · refine Ev_call (v := (0, K1, L)) ?_ ?_
          · refine ev_287_0 ?_
            exact Ev_f cc (Ev_ret rfl)
          dsimp only
          refine Ev_t rfl (Ev_ret ?_)
          rw [← hQ]
          refine ⟨rfl, k1, Or.inr ⟨fun z => cc ?_, rfl⟩⟩
          refine (hz.1 z (c, m) ?_).2
          rw [full2, full3, List.zip_append (by omega), ezip]
          exact List.mem_append_right _ List.mem_cons_self
  have init : ∀ m : Nat, m ≤ 4 → ∀ K1 : JI, (∀ a i, ¬ a = 139 → K1 a i = K a i) → (∀ k : Nat, k < m → K1 139 k = 0) → Ev (fun n => kf_286 n dp e 1 K1 L (enR men 0 r) (enR men 0 r) men m 0) Q := by
    refine dec_ind 4 (fun m hm' ih => ?_)
    intro K1 k1 k2
    refine ev_286_1 ?_
    by_cases cm : m < 4
    · have ih := ih cm
      refine Ev_f (by omega) (Ev_t (by omega) (Ev_st (Ev_t (by omega) ?_)))
      rw [show (m : Int) + 1 = ((m + 1 : Nat) : Int) by omega]
      refine ih _ (fun a i y => by rw [w2_o y]; exact k1 a i y) (fun k hk => ?_)
      by_cases q : k = m
      · subst q; rw [w2_ap, if_pos ⟨rfl, rfl⟩]
      · rw [w2_n (by omega)]; exact k2 k (by omega)
    · have : m = 4 := by omega
      subst this
      refine Ev_t (by omega) ?_
      have q := down 16 (Nat.le_refl _) K1 [] [] r k1 (by rw [List.append_nil]) (by rw [List.append_nil]) hr.1 (fun m hm' => by rw [k2 m hm']; rfl) (fun p hp => absurd hp List.not_mem_nil) (enR men 0 r)
      exact q
  refine ev_286_0 ?_
  rw [v3]
  exact init 0 (by omega) K (fun _ _ _ => rfl) (fun k hk => absurd hk (Nat.not_lt_zero _))
end KQ
