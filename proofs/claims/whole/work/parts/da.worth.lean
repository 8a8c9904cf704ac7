section
set_option maxRecDepth 100000 in
theorem ev_132_2 {dp : Nat} {e : EN} {I : JI} {L : JI} {i1 : Int} {i2 : Int} {i3 : Int} {i4 : Int} {i5 : Int} {P_ : (Int × JI × JI) → Prop} (h : Ev (fun n => (if 0 ≤ i3 ∧ i3 < 3 then ((e.2.2 25 (Int.toNat i3)).bind (fun b_22 => (if (b_22 < e.1) ∧ ((e.2.1 b_22).1 = 2) then (if (I b_22 4) ≤ i5 then (kf_132 n dp e 3 I L i1 i2 i3 i4 i5) else (if 64 ≤ i5 then (kf_132 n dp e 3 I L i1 i2 i3 i4 i5) else (if 0 ≤ i3 ∧ i3 < 3 then ((e.2.2 25 (Int.toNat i3)).bind (fun b_43 => (if (b_43 < e.1) ∧ ((e.2.1 b_43).1 = 2) then ((e.2.2 b_43 1).bind (fun b_44 => (if (-2147483648 ≤ i5 * 10 ∧ i5 * 10 ≤ 2147483647) ∧ (-2147483648 ≤ (i5 * 10) + i1 ∧ (i5 * 10) + i1 ≤ 2147483647) then (if ((b_44 < e.1) ∧ (((e.2.1 b_44).1 = 13) ∧ ((e.2.1 b_44).2 < (2 ^ 31)))) ∧ (0 ≤ ((i5 * 10) + i1) ∧ ((i5 * 10) + i1) < (((e.2.1 b_44).2 : Nat) : Int)) then (if 1 ≤ dp then (stI (max i4 (I b_44 ((i5 * 10) + i1))) (fun v_58 => (if -2147483648 ≤ i5 + 1 ∧ i5 + 1 ≤ 2147483647 then (kf_132 n dp e 2 I L i1 i2 i3 v_58 (i5 + 1)) else none))) else none) else none) else none))) else none))) else none))) else none))) else none)) P_) : Ev (fun n => kf_132 n dp e 2 I L i1 i2 i3 i4 i5) P_ := Ev_step (fun n => ke_132_2 n dp e I L i1 i2 i3 i4 i5) h
set_option maxRecDepth 100000 in
theorem ev_132_0 {dp : Nat} {e : EN} {I : JI} {L : JI} {i1 : Int} {i2 : Int} {i3 : Int} {i4 : Int} {i5 : Int} {P_ : (Int × JI × JI) → Prop} (h : Ev (fun n => (kf_132 n dp e 1 I L i1 0 0 0 0)) P_) : Ev (fun n => kf_132 n dp e 0 I L i1 i2 i3 i4 i5) P_ := Ev_step (fun n => ke_132_0 n dp e I L i1 i2 i3 i4 i5) h
set_option maxRecDepth 100000 in
theorem ev_132_1 {dp : Nat} {e : EN} {I : JI} {L : JI} {i1 : Int} {i2 : Int} {i3 : Int} {i4 : Int} {i5 : Int} {P_ : (Int × JI × JI) → Prop} (h : Ev (fun n => (if 3 ≤ i3 then (some ((i2 : Int), I, L)) else (kf_132 n dp e 2 I L i1 i2 i3 0 0))) P_) : Ev (fun n => kf_132 n dp e 1 I L i1 i2 i3 i4 i5) P_ := Ev_step (fun n => ke_132_1 n dp e I L i1 i2 i3 i4 i5) h
set_option maxRecDepth 100000 in
theorem ev_132_3 {dp : Nat} {e : EN} {I : JI} {L : JI} {i1 : Int} {i2 : Int} {i3 : Int} {i4 : Int} {i5 : Int} {P_ : (Int × JI × JI) → Prop} (h : Ev (fun n => (if 0 ≤ i3 ∧ i3 < 3 then (if (-2147483648 ≤ (I 2 i3) * i4 ∧ (I 2 i3) * i4 ≤ 2147483647) ∧ (-2147483648 ≤ i2 + ((I 2 i3) * i4) ∧ i2 + ((I 2 i3) * i4) ≤ 2147483647) then (stI (i2 + ((I 2 i3) * i4)) (fun v_80 => (if -2147483648 ≤ i3 + 1 ∧ i3 + 1 ≤ 2147483647 then (kf_132 n dp e 1 I L i1 v_80 (i3 + 1) 0 0) else none))) else none) else none)) P_) : Ev (fun n => kf_132 n dp e 3 I L i1 i2 i3 i4 i5) P_ := Ev_step (fun n => ke_132_3 n dp e I L i1 i2 i3 i4 i5) h
end
/-! PLANS: worth -/
/-- how many of a part there can be at all -/
def moO (J : JI) (p v : Int) : Prop := ∃ mx : Nat → Int, v = J 2 0 * mx 0 + J 2 1 * mx 1 + J 2 2 * mx 2 ∧ ∀ c : Nat, c < 3 → (0 ≤ mx c ∧ mx c ≤ 200) ∧ ∀ k : Nat, k < 64 → (k : Int) < J (58 + 5 * c) 4 → J (58 + 5 * c + 2) (10 * k + p) ≤ mx c
def lfB (J : JI) : Prop := ∀ c : Nat, c < 3 → ∀ k : Nat, k < 64 → (k : Int) < J (58 + 5 * c) 4 → ∀ p : Int, 0 ≤ p → p < 10 → 0 ≤ J (58 + 5 * c + 2) (10 * k + p) ∧ J (58 + 5 * c + 2) (10 * k + p) ≤ 200
theorem lfB_l {J : JI} {lc : Int → List CT} (h : LsC J lc) (hb : ∀ c : Nat, c < 3 → lsB (lc c)) : lfB J := fun c hc k hk hm p x y => by
  obtain ⟨h1, h2⟩ := h c hc
  have hk' : k < (lc c).length := by omega
  have := (h2 k hk (lc c)[k] (by simp [hk']) p x y).2
  rw [this]
  exact (hb c hc).2 _ (List.getElem_mem hk') p x y
theorem K132 {dp : Nat} {e : EN} {J L : JI} {p : Int} (hd : 1 ≤ dp) (hQ : ∀ c : Nat, c < 3 → CtO e (58 + 5 * c) ∧ e.2.2 25 c = some (58 + 5 * c)) (hv : vlP (J 2 0) (J 2 1) (J 2 2)) (hB : lfB J) (hp : 0 ≤ p ∧ p < 10) : Ev (fun n => kf_132 n dp e 0 J L p 0 0 0 0) (fun r => r.2 = (J, L) ∧ moO J p r.1 ∧ 0 ≤ r.1 ∧ r.1 ≤ 1600) := by
  unfold vlP at hv
  have inn : ∀ c : Nat, c < 3 → ∀ (S : Int) (Q : Int × JI × JI → Prop), (∀ m : Int, 0 ≤ m → m ≤ 200 → (∀ k : Nat, k < 64 → (k : Int) < J (58 + 5 * c) 4 → J (58 + 5 * c + 2) (10 * k + p) ≤ m) → ∀ x : Int, Ev (fun n => kf_132 n dp e 3 J L p S c m x) Q) → ∀ i : Nat, i ≤ 64 → ∀ m : Int, 0 ≤ m → m ≤ 200 → (∀ k : Nat, k < i → (k : Int) < J (58 + 5 * c) 4 → J (58 + 5 * c + 2) (10 * k + p) ≤ m) → Ev (fun n => kf_132 n dp e 2 J L p S c m i) Q := by
    intro c hc S Q fin
    obtain ⟨t1, t2⟩ := hQ c hc
    have t2' : e.2.2 25 (Int.toNat (c : Int)) = some (58 + 5 * c) := by rw [show (c : Int).toNat = c by omega]; exact t2
    refine dec_ind 64 (fun i hi ih => ?_)
    intro m m0 m1 hm
    refine ev_132_2 ?_
    refine Ev_t (by omega) (Ev_R t2' (Ev_t t1.1 ?_))
    by_cases c1 : J (58 + 5 * c) 4 ≤ i
    · exact Ev_t c1 (fin m m0 m1 (fun k hk hk' => hm k (by omega) hk') _)
    · by_cases c2 : i < 64
      · have ih := ih c2
        have b := hB c hc i c2 (by omega) p hp.1 hp.2
        refine Ev_f c1 (Ev_f (by omega) (Ev_t (by omega) (Ev_R t2' (Ev_t t1.1 (Ev_R t1.2.2.1.1 (Ev_t (by omega) (Ev_t (arI t1.2.2.1.2 (by omega) (by omega)) (Ev_t hd (Ev_st (Ev_t (by omega) ?_)))))))))) 
        rw [show (i : Int) * 10 + p = 10 * i + p by omega, show (i : Int) + 1 = ((i + 1 : Nat) : Int) by omega]
        refine ih _ (by omega) (by omega) (fun k hk hk' => ?_)
        by_cases q : k = i
        · subst q; omega
        · have := hm k (by omega) hk'
          omega
      · exact Ev_f c1 (Ev_t (by omega) (fin m m0 m1 (fun k hk hk' => hm k (by omega) hk') _))
  have mulB : ∀ {a m : Int}, 0 ≤ a → a ≤ 8 → 0 ≤ m → m ≤ 200 → 0 ≤ a * m ∧ a * m ≤ 200 * a := fun {a m} h1 h2 h3 h4 => ⟨Int.mul_nonneg h1 h3, by rw [Int.mul_comm 200]; exact Int.mul_le_mul_of_nonneg_left h4 h1⟩
  refine ev_132_0 ?_
  refine ev_132_1 ?_
  refine Ev_f (by omega) (inn 0 (by omega) 0 _ (fun m0 g1 g2 g3 x => ?_) 0 (by omega) 0 (by omega) (by omega) (fun k hk => by omega))
  have q0 := mulB hv.1 (by omega) g1 g2
  refine ev_132_3 ?_
  simp only [Int.natCast_zero, Int.zero_add]
  refine Ev_t (by omega) (Ev_t (by omega) (Ev_st (Ev_t (by omega) ?_)))
  refine ev_132_1 ?_
  refine Ev_f (by omega) ?_
  refine inn 1 (by omega) (J 2 0 * m0) _ (fun m1 g4 g5 g6 x => ?_) 0 (by omega) 0 (by omega) (by omega) (fun k hk => by omega)
  have q1 := mulB hv.2.1 (by omega) g4 g5
  refine ev_132_3 ?_
  simp only [Int.natCast_one]
  refine Ev_t (by omega) (Ev_t (by omega) (Ev_st (Ev_t (by omega) ?_)))
  refine ev_132_1 ?_
  refine Ev_f (by omega) ?_
  refine inn 2 (by omega) (J 2 0 * m0 + J 2 1 * m1) _ (fun m2 g7 g8 g9 x => ?_) 0 (by omega) 0 (by omega) (by omega) (fun k hk => by omega)
  have q2 := mulB hv.2.2.1 (by omega) g7 g8
  refine ev_132_3 ?_
  simp only [Int.cast_ofNat_Int]
  refine Ev_t (by omega) (Ev_t (by omega) (Ev_st (Ev_t (by omega) ?_)))
  refine ev_132_1 ?_
  refine Ev_t (by omega) (Ev_ret ⟨rfl, ⟨fun c => if c = 0 then m0 else if c = 1 then m1 else m2, rfl, fun c hc => ?_⟩, by dsimp only; omega, by dsimp only; omega⟩)
  rcases (show c = 0 ∨ c = 1 ∨ c = 2 by omega) with rfl | rfl | rfl
  · exact ⟨⟨g1, g2⟩, g3⟩
  · exact ⟨⟨g4, g5⟩, g6⟩
  · exact ⟨⟨g7, g8⟩, g9⟩
/-- no sequence leaves more -/
theorem mo_b {J : JI} {p v : Int} {a b c : Int} (h : ∃ mx : Nat → Int, v = a * mx 0 + b * mx 1 + c * mx 2 ∧ ∀ c : Nat, c < 3 → (0 ≤ mx c ∧ mx c ≤ 200) ∧ ∀ k : Nat, k < 64 → (k : Int) < J (58 + 5 * c) 4 → J (58 + 5 * c + 2) (10 * k + p) ≤ mx c) (hv : vlP a b c) (hP : PlK J a b c) (hp : 0 ≤ p ∧ p < 10) : ∀ x ∈ Sq (lyC J a b c), x.2 p ≤ v := by
  obtain ⟨mx, e, hm⟩ := h
  have hv0 := hv
  unfold vlP at hv0
  have key : ∀ n : Nat, (n : Int) ≤ a + b + c → ∀ x ∈ Sq (lyL (fun i => of0 J (clR b c i)) n), x.2 p ≤ sN (fun i => mx (clR b c i)) n := by
    intro n
    induction n with
    | zero =>
      intro _ x hx
      have hx : x = (0, fun _ => 0) := by simpa [lyL, Sq] using hx
      subst hx
      exact Int.le_refl _
    | succ n ih =>
      intro hn x hx
      obtain ⟨y, hy, rfl⟩ := List.mem_map.1 (show x ∈ (pr (of0 J (clR b c n)).1 (Sq (lyL (fun i => of0 J (clR b c i)) n))).map (adX (of0 J (clR b c n))) from hx)
      obtain ⟨y1, y2⟩ := pr_i.1 hy
      have r := ih (by omega) y.2 y2
      obtain ⟨k1, k2⟩ := PlK_c hP (i := n) (by omega) hv0.1 hv0.2.1 hv0.2.2.1
      have y1' : y.1 < (J (58 + 5 * clR b c n) 4).toNat := y1
      have q := (hm _ k1).2 y.1 (by omega) (by omega)
      rw [sN]
      show lfC J (clR b c n) y.1 p + y.2.2 p ≤ _
      unfold lfC
      rw [if_pos hp]
      omega
  have cnt : ∀ n : Nat, (n : Int) ≤ a + b + c → sN (fun i => mx (clR b c i)) n = (min (n : Int) c) * mx 2 + (max 0 (min ((n : Int) - c) b)) * mx 1 + (max 0 ((n : Int) - c - b)) * mx 0 := by
    intro n
    induction n with
    | zero =>
      intro _
      rw [sN, show min ((0 : Nat) : Int) c = 0 by omega, show max 0 (min (((0 : Nat) : Int) - c) b) = 0 by omega, show max 0 (((0 : Nat) : Int) - c - b) = 0 by omega]
      omega
    | succ n ih =>
      intro hn
      rw [sN, ih (by omega)]
      unfold clR
      by_cases x : (n : Int) < c
      · rw [if_pos x, show min (((n + 1 : Nat)) : Int) c = min (n : Int) c + 1 by omega, show max 0 (min (((n + 1 : Nat) : Int) - c) b) = max 0 (min ((n : Int) - c) b) by omega, show max 0 (((n + 1 : Nat) : Int) - c - b) = max 0 ((n : Int) - c - b) by omega, Int.add_mul]
        omega
      · rw [if_neg x]
        by_cases y : (n : Int) < c + b
        · rw [if_pos y, show min (((n + 1 : Nat)) : Int) c = min (n : Int) c by omega, show max 0 (min (((n + 1 : Nat) : Int) - c) b) = max 0 (min ((n : Int) - c) b) + 1 by omega, show max 0 (((n + 1 : Nat) : Int) - c - b) = max 0 ((n : Int) - c - b) by omega, Int.add_mul]
          omega
        · rw [if_neg y, show min (((n + 1 : Nat)) : Int) c = min (n : Int) c by omega, show max 0 (min (((n + 1 : Nat) : Int) - c) b) = max 0 (min ((n : Int) - c) b) by omega, show max 0 (((n + 1 : Nat) : Int) - c - b) = max 0 ((n : Int) - c - b) + 1 by omega, Int.add_mul]
          omega
  obtain ⟨N, hN⟩ : ∃ N : Nat, a + b + c = N := ⟨(a + b + c).toNat, by omega⟩
  intro x hx
  unfold lyC at hx
  rw [hN, show ((N : Int)).toNat = N by omega] at hx
  have k := key N (by omega) x hx
  rw [cnt N (by omega), show min (N : Int) c = c by omega, show max 0 (min ((N : Int) - c) b) = b by omega, show max 0 ((N : Int) - c - b) = a by omega] at k
  omega
