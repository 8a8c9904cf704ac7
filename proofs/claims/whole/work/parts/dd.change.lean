/-! PLANS: findChange, what it means -/
/-- the first gains most of those that fill as it does -/
theorem FsO_g {J : JI} {rn : Nat} {od : Nat → Int} (hP : OfP J rn od) {cl : Nat → Nat} : ∀ (n : Nat) (T : Int → Int) (f : Nat → Int), (∀ i, i < n → cl i < 3 ∧ J (58 + 5 * cl i) 4 ≤ 64) → (∀ p, 0 ≤ T p) → FsO (wnC J) (bnC J) 16 (lyL (fun i => of0 J (cl i)) n) T f → ∀ (i l : Nat), i + l + 1 = n → ∀ k : Nat, k < (of0 J (cl l)).1 → pkI (fiK J rn od (wnC J) (cl l) k) = pkI (fiK J rn od (wnC J) (cl l) (f i).toNat) → (of0 J (cl l)).2.1 k ≤ (of0 J (cl l)).2.1 (f i).toNat
  | 0, T, f, _, _, _, i, l, e, _, _, _ => by omega
  | n + 1, T, f, hc, hT, h, i, l, e, k, hk, hf => by
    have hO := RtO_o hP.1.1
    have hs := hP.1.2.2.1
    have okl : ∀ i, i < n + 1 → okO J (of0 J (cl i)) := fun i hi => okO_C hP (hc i hi).1 (hc i hi).2 (gnC_0 hP (hc i hi).1 (hc i hi).2)
    rw [lyL, FsO] at h
    obtain ⟨⟨k0, b, h1, h2, h3, h4, h5⟩, h6⟩ := h
    by_cases ci : i = 0
    · subst ci
      have : l = n := by omega
      subst this
      rw [h1, show ((k0 : Int)).toNat = k0 by omega] at hf ⊢
      obtain ⟨_, x, hx, vx⟩ := h4
      have lk := ((okl l (by omega)).2.1 k hk).2
      have lk0 := ((okl l (by omega)).2.1 k0 h2).2
      have hB := (okO_l (J := J) (o := fun i => of0 J (cl i)) l (fun k hk => okl k (by omega))).1
      rw [← fiK_l hO, ← fiK_l hO] at hf
      have e1 := fl_j hO hT hT lk lk0 rfl hf
      have e2 := bo_e (bn := bnC J) (U := x.2) hO (ad_p hT lk) (ad_p hT lk0) (hB x hx).2 e1
      have c1 : ∀ k, (fun p => (T p + (of0 J (cl l)).2.2 k p) + x.2 p) = (fun p => x.2 p + ((of0 J (cl l)).2.2 k p + T p)) := fun k => funext fun p => by omega
      have ev : vT (wnC J) (bnC J) 16 (fun p => T p + (of0 J (cl l)).2.2 k p) x = vT (wnC J) (bnC J) 16 (fun p => T p + (of0 J (cl l)).2.2 k0 p) x := by
        rw [← bo_t hO hs, ← bo_t hO hs, c1 k, c1 k0]
        exact congrArg (fun v => x.1 + v) e2
      have ub := h3.1 (adX (of0 J (cl l)) (k, x)) (List.mem_map.2 ⟨(k, x), pr_i.2 ⟨hk, hx⟩, rfl⟩)
      rw [vT_s, ev, vx] at ub
      omega
    · obtain ⟨i', rfl⟩ : ∃ i', i = i' + 1 := ⟨i - 1, by omega⟩
      have lk0 := ((okl n (by omega)).2.1 k0 h2).2
      have tp : ∀ p, 0 ≤ (fun p => T p + (of0 J (cl n)).2.2 k0 p) p := fun p => by have := hT p; have := lk0 p; dsimp only; omega
      exact FsO_g hP n _ (fun i => f (i + 1)) (fun i hi => hc i (by omega)) tp (h6 k0 h1) i' l (by omega) k hk hf
/-- whoever is favoured by his group can be favoured alone -/
theorem ch_e {J : JI} {rn : Nat} {od : Nat → Int} (hP : OfP J rn od) {cl : Nat → Nat} {kx : Nat → Int} : ∀ n : Nat, (∀ i, i < n → (cl i < 3 ∧ J (58 + 5 * cl i) 4 ≤ 64) ∧ (0 ≤ kx i ∧ kx i < J (58 + 5 * cl i) 4) ∧ ∀ k : Nat, k < (of0 J (cl i)).1 → pkI (fiK J rn od (wnC J) (cl i) k) = pkI (fiK J rn od (wnC J) (cl i) (kx i).toNat) → (of0 J (cl i)).2.1 k ≤ (of0 J (cl i)).2.1 (kx i).toNat) → (∀ x ∈ Sq (lyL (fun i => ofC J (cl i) (J 31 ((cl i : Int) * 64 + kx i))) n), ∃ x' ∈ Sq (lyL (fun i => okK J (cl i) (kx i)) n), x.1 ≤ x'.1 + n ∧ flC rn od (wnC J) x.2 = flC rn od (wnC J) x'.2 ∧ (∀ p, 0 ≤ x.2 p) ∧ ∀ p, 0 ≤ x'.2 p) ∧ (∀ x' ∈ Sq (lyL (fun i => okK J (cl i) (kx i)) n), ∃ x ∈ Sq (lyL (fun i => ofC J (cl i) (J 31 ((cl i : Int) * 64 + kx i))) n), x'.1 + n ≤ x.1 ∧ x.2 = x'.2)
  | 0, _ => by
    refine ⟨fun x hx => ⟨x, hx, by omega, rfl, ?_⟩, fun x hx => ⟨x, hx, by omega, rfl⟩⟩
    have hx : x = (0, fun _ => 0) := by simpa [lyL, Sq] using hx
    subst hx
    exact ⟨fun _ => Int.le_refl _, fun _ => Int.le_refl _⟩
  | n + 1, h => by
    have hO := RtO_o hP.1.1
    obtain ⟨r1, r2⟩ := ch_e hP n (fun i hi => h i (by omega))
    obtain ⟨⟨c3, c64⟩, k1, kg⟩ := h n (by omega)
    have ok := okO_C hP c3 c64 (gnC_0 hP c3 c64)
    obtain ⟨⟨m, n1, n2, n3, n4, n5⟩, _⟩ := hP.1.2.2.2.2 (cl n) c3 c64
    constructor
    · intro x hx
      obtain ⟨y, hy, rfl⟩ := List.mem_map.1 (show x ∈ (pr (ofC J (cl n) (J 31 ((cl n : Int) * 64 + kx n))).1 (Sq (lyL (fun i => ofC J (cl i) (J 31 ((cl i : Int) * 64 + kx i))) n))).map (adX (ofC J (cl n) (J 31 ((cl n : Int) * 64 + kx n)))) from hx)
      obtain ⟨y1, y2⟩ := pr_i.1 hy
      obtain ⟨x', hx', a1, a2, a3, a4⟩ := r1 y.2 y2
      have y1' : y.1 < (J (58 + 5 * cl n) 4).toNat := y1
      have lk := (ok.2.1 y.1 y1').2
      by_cases q : J 31 ((cl n : Int) * 64 + y.1) = J 31 ((cl n : Int) * 64 + kx n)
      · have hk : (kx n).toNat < (J (58 + 5 * cl n) 4).toNat := by omega
        obtain ⟨g, g1, g2, g3⟩ := n4 y.1 y1'
        obtain ⟨g', g1', g2', g3'⟩ := n4 (kx n).toNat hk
        rw [show (((kx n).toNat : Nat) : Int) = kx n by omega] at g2'
        have eg : g = g' := by omega
        subst eg
        have ef : pkI (fiK J rn od (wnC J) (cl n) y.1) = pkI (fiK J rn od (wnC J) (cl n) (kx n).toNat) := g3.symm.trans g3'
        have kk := kg y.1 y1' ef
        have lk' := (ok.2.1 (kx n).toNat hk).2
        refine ⟨adX (okK J (cl n) (kx n)) ((kx n).toNat, x'), List.mem_map.2 ⟨((kx n).toNat, x'), pr_i.2 ⟨hk, hx'⟩, rfl⟩, ?_, ?_, fun p => ?_, fun p => ?_⟩
        · show gnC J (cl n) (J 31 ((cl n : Int) * 64 + kx n)) y.1 + y.2.1 ≤ 16 * ovK J (58 + 5 * cl n) (kx n).toNat - (if ((kx n).toNat : Int) = kx n then 0 else 1) + x'.1 + ((n + 1 : Nat) : Int)
          have kk' : 16 * ovK J (58 + 5 * cl n) y.1 ≤ 16 * ovK J (58 + 5 * cl n) (kx n).toNat := kk
          unfold gnC
          rw [if_pos q, if_pos (by omega)]
          omega
        · rw [← fiK_l hO, ← fiK_l hO] at ef
          exact fl_j hO a3 a4 lk lk' a2 ef
        · show 0 ≤ lfC J (cl n) y.1 p + y.2.2 p
          have := lk p
          have := a3 p
          have e : (of0 J (cl n)).2.2 y.1 p = lfC J (cl n) y.1 p := rfl
          dsimp only at *
          omega
        · show 0 ≤ lfC J (cl n) (kx n).toNat p + x'.2 p
          have := lk' p
          have := a4 p
          dsimp only at *
          omega
      · refine ⟨adX (okK J (cl n) (kx n)) (y.1, x'), List.mem_map.2 ⟨(y.1, x'), pr_i.2 ⟨y1', hx'⟩, rfl⟩, ?_, fl_j hO a3 a4 lk lk a2 rfl, fun p => ?_, fun p => ?_⟩
        · show gnC J (cl n) (J 31 ((cl n : Int) * 64 + kx n)) y.1 + y.2.1 ≤ 16 * ovK J (58 + 5 * cl n) y.1 - (if (y.1 : Int) = kx n then 0 else 1) + x'.1 + ((n + 1 : Nat) : Int)
          unfold gnC
          rw [if_neg q, if_neg (fun z => q (by rw [z]))]
          omega
        · show 0 ≤ lfC J (cl n) y.1 p + y.2.2 p
          have := lk p
          have := a3 p
          dsimp only at *
          omega
        · show 0 ≤ lfC J (cl n) y.1 p + x'.2 p
          have := lk p
          have := a4 p
          dsimp only at *
          omega
    · intro x' hx'
      obtain ⟨y, hy, rfl⟩ := List.mem_map.1 (show x' ∈ (pr (okK J (cl n) (kx n)).1 (Sq (lyL (fun i => okK J (cl i) (kx i)) n))).map (adX (okK J (cl n) (kx n))) from hx')
      obtain ⟨y1, y2⟩ := pr_i.1 hy
      obtain ⟨x, hx, a1, a2⟩ := r2 y.2 y2
      refine ⟨adX (ofC J (cl n) (J 31 ((cl n : Int) * 64 + kx n))) (y.1, x), List.mem_map.2 ⟨(y.1, x), pr_i.2 ⟨y1, hx⟩, rfl⟩, ?_, ?_⟩
      · show 16 * ovK J (58 + 5 * cl n) y.1 - (if (y.1 : Int) = kx n then 0 else 1) + y.2.1 + ((n + 1 : Nat) : Int) ≤ gnC J (cl n) (J 31 ((cl n : Int) * 64 + kx n)) y.1 + x.1
        unfold gnC
        by_cases q : (y.1 : Int) = kx n
        · rw [if_pos q, if_pos (by rw [q])]; omega
        · rw [if_neg q]; split <;> omega
      · show (fun p => lfC J (cl n) y.1 p + x.2 p) = (fun p => lfC J (cl n) y.1 p + y.2.2 p)
        rw [a2]
theorem ch_m {J : JI} {rn : Nat} {od : Nat → Int} (hP : OfP J rn od) {cl : Nat → Nat} {kx : Nat → Int} {n : Nat} {b : Int} (h : ∀ i, i < n → (cl i < 3 ∧ J (58 + 5 * cl i) 4 ≤ 64) ∧ (0 ≤ kx i ∧ kx i < J (58 + 5 * cl i) 4) ∧ ∀ k : Nat, k < (of0 J (cl i)).1 → pkI (fiK J rn od (wnC J) (cl i) k) = pkI (fiK J rn od (wnC J) (cl i) (kx i).toNat) → (of0 J (cl i)).2.1 k ≤ (of0 J (cl i)).2.1 (kx i).toNat) (hM : MxB (Sq (lyL (fun i => ofC J (cl i) (J 31 ((cl i : Int) * 64 + kx i))) n)) (vT (wnC J) (bnC J) 16 (fun _ => 0)) b) : MxB (Sq (lyL (fun i => okK J (cl i) (kx i)) n)) (vT (wnC J) (bnC J) 16 (fun _ => 0)) (b - n) := by
  obtain ⟨r1, r2⟩ := ch_e hP n h
  have hO := RtO_o hP.1.1
  have hs := hP.1.2.2.1
  obtain ⟨m1, x, hx, vx⟩ := hM
  have up : ∀ x' ∈ Sq (lyL (fun i => okK J (cl i) (kx i)) n), vT (wnC J) (bnC J) 16 (fun _ => 0) x' ≤ b - n := fun x' hx' => by
    obtain ⟨y, hy, a1, a2⟩ := r2 x' hx'
    have := m1 y hy
    rw [← bo_v hO hs] at this ⊢
    rw [a2] at this
    omega
  refine ⟨up, ?_⟩
  obtain ⟨x', hx', a1, a2, a3, a4⟩ := r1 x hx
  refine ⟨x', hx', Int.le_antisymm (up x' hx') ?_⟩
  have eb : boC rn od (wnC J) (bnC J) x.2 = boC rn od (wnC J) (bnC J) x'.2 := sN_c 5 (fun k hk => by rw [fl_u hO a3 a4 a2 k hk])
  rw [← bo_v hO hs] at vx ⊢
  omega
/-- sixteenfold, and one for each that keeps -/
theorem Sq_16f {J : JI} {cl : Nat → Nat} {fv : Nat → Int} : ∀ n : Nat, ∀ x ∈ Sq (lyL (fun i => ofC J (cl i) (fv i)) n), ∃ y t : Int, x.1 = 16 * y + t ∧ 0 ≤ t ∧ t ≤ n
  | 0, x, hx => by
    have : x = (0, fun _ => 0) := by simpa [lyL, Sq] using hx
    subst this
    exact ⟨0, 0, rfl, by omega, by omega⟩
  | n + 1, x, hx => by
    obtain ⟨y, hy, rfl⟩ := List.mem_map.1 (show x ∈ (pr (ofC J (cl n) (fv n)).1 (Sq (lyL (fun i => ofC J (cl i) (fv i)) n))).map (adX (ofC J (cl n) (fv n))) from hx)
    obtain ⟨w, t, hw, t0, t1⟩ := Sq_16f n y.2 (pr_i.1 hy).2
    refine ⟨ovK J (58 + 5 * cl n) y.1 + w, (if J 31 ((cl n : Int) * 64 + y.1) = fv n then 1 else 0) + t, ?_, ?_, ?_⟩
    · show 16 * ovK J (58 + 5 * cl n) y.1 + (if J 31 ((cl n : Int) * 64 + y.1) = fv n then 1 else 0) + y.2.1 = _
      omega
    · split <;> omega
    · split <;> omega
