section
set_option maxRecDepth 100000 in
theorem ev_182_1 {dp : Nat} {e : EN} {I : JI} {L : JI} {i1 : Int} {i2 : Int} {i3 : Int} {P_ : (JI × JI) → Prop} (h : Ev (fun n => (if 15 ≤ i3 then (some (I, L)) else (if (-2147483648 ≤ i2 * 1103 ∧ i2 * 1103 ≤ 2147483647) ∧ (-2147483648 ≤ (i2 * 1103) + 12345 ∧ (i2 * 1103) + 12345 ≤ 2147483647) ∧ (-2147483647 ≤ ((i2 * 1103) + 12345)) then (stI (Int.tmod ((i2 * 1103) + 12345) 1000003) (fun v_23 => (if -2147483647 ≤ i3 then (if 0 ≤ (Int.tmod i3 3) ∧ (Int.tmod i3 3) < 3 then (if -2147483648 ≤ (I 2 (Int.tmod i3 3)) + 1 ∧ (I 2 (Int.tmod i3 3)) + 1 ≤ 2147483647 then (if ¬ (((I 2 (Int.tmod i3 3)) + 1) = 0) then (if 0 ≤ i3 ∧ i3 < 15 then (if -2147483647 ≤ v_23 then (stI (w2 I 90 i3 (Int.tmod v_23 ((I 2 (Int.tmod i3 3)) + 1))) (fun I_44 => (if -2147483648 ≤ i3 + 1 ∧ i3 + 1 ≤ 2147483647 then (kf_182 n dp e 1 I_44 L i1 v_23 (i3 + 1)) else none))) else none) else none) else none) else none) else none) else none))) else none))) P_) : Ev (fun n => kf_182 n dp e 1 I L i1 i2 i3) P_ := Ev_step (fun n => ke_182_1 n dp e I L i1 i2 i3) h
set_option maxRecDepth 100000 in
theorem ev_182_0 {dp : Nat} {e : EN} {I : JI} {L : JI} {i1 : Int} {i2 : Int} {i3 : Int} {P_ : (JI × JI) → Prop} (h : Ev (fun n => (kf_182 n dp e 1 I L i1 i1 0)) P_) : Ev (fun n => kf_182 n dp e 0 I L i1 i2 i3) P_ := Ev_step (fun n => ke_182_0 n dp e I L i1 i2 i3) h
set_option maxRecDepth 100000 in
theorem ev_302_1 {dp : Nat} {e : EN} {I : JI} {L : JI} {i1 : Int} {i4 : Int} {i5 : Int} {i6 : Int} {j2 : Int} {P_ : (Int × JI × JI) → Prop} (h : Ev (fun n => (if 5 ≤ i5 then (kf_302 n dp e 3 I L i1 i4 0 0 j2) else (kf_302 n dp e 2 I L i1 i4 i5 0 j2))) P_) : Ev (fun n => kf_302 n dp e 1 I L i1 i4 i5 i6 j2) P_ := Ev_step (fun n => ke_302_1 n dp e I L i1 i4 i5 i6 j2) h
set_option maxRecDepth 100000 in
theorem ev_302_2 {dp : Nat} {e : EN} {I : JI} {L : JI} {i1 : Int} {i4 : Int} {i5 : Int} {i6 : Int} {j2 : Int} {P_ : (Int × JI × JI) → Prop} (h : Ev (fun n => (if 3 ≤ i6 then (if -2147483648 ≤ i5 + 1 ∧ i5 + 1 ≤ 2147483647 then (kf_302 n dp e 1 I L i1 i4 (i5 + 1) 0 j2) else none) else (if (-9223372036854775808 ≤ j2 * 1103 ∧ j2 * 1103 ≤ 9223372036854775807) ∧ (-9223372036854775808 ≤ (j2 * 1103) + 12345 ∧ (j2 * 1103) + 12345 ≤ 9223372036854775807) ∧ (-9223372036854775807 ≤ ((j2 * 1103) + 12345)) then (stI (Int.tmod ((j2 * 1103) + 12345) 1000003) (fun v_60 => (if -2147483648 ≤ 0 + i6 ∧ 0 + i6 ≤ 2147483647 then (if 0 ≤ (0 + i6) ∧ (0 + i6) < 1570 then (if -9223372036854775808 ≤ (I 107 (0 + i6)) + 1 ∧ (I 107 (0 + i6)) + 1 ≤ 9223372036854775807 then (if ¬ (((I 107 (0 + i6)) + 1) = 0) then (if (-2147483648 ≤ 3 * i5 ∧ 3 * i5 ≤ 2147483647) ∧ (-2147483648 ≤ (3 * i5) + i6 ∧ (3 * i5) + i6 ≤ 2147483647) then (if 0 ≤ ((3 * i5) + i6) ∧ ((3 * i5) + i6) < 15 then (if (-9223372036854775807 ≤ v_60) ∧ (-2147483648 ≤ (Int.tmod v_60 ((I 107 (0 + i6)) + 1)) ∧ (Int.tmod v_60 ((I 107 (0 + i6)) + 1)) ≤ 2147483647) then (stI (w2 I 143 ((3 * i5) + i6) (Int.tmod v_60 ((I 107 (0 + i6)) + 1))) (fun I_87 => (if -2147483648 ≤ i6 + 1 ∧ i6 + 1 ≤ 2147483647 then (kf_302 n dp e 2 I_87 L i1 i4 i5 (i6 + 1) v_60) else none))) else none) else none) else none) else none) else none) else none) else none))) else none))) P_) : Ev (fun n => kf_302 n dp e 2 I L i1 i4 i5 i6 j2) P_ := Ev_step (fun n => ke_302_2 n dp e I L i1 i4 i5 i6 j2) h
end
/-! WEEK: the draws, and what five days bring -/
def wkS (s : Int) : Nat → Int
  | 0 => s
  | i + 1 => Int.tmod (wkS s i * 1103 + 12345) 1000003
def wkD (s : Int) (m : Int → Int) (i : Nat) : Int := Int.tmod (wkS s (i + 1)) (m ((i % 3 : Nat) : Int) + 1)
theorem wkS_b {s : Int} (hs : 0 ≤ s ∧ s ≤ 1000000) : ∀ i : Nat, 0 ≤ wkS s i ∧ wkS s i ≤ 1000002
  | 0 => by rw [wkS]; omega
  | i + 1 => by
    have r := wkS_b hs i
    rw [wkS, Int.tmod_eq_emod_of_nonneg (by omega)]
    omega
theorem wkD_b {s : Int} {m : Int → Int} (hs : 0 ≤ s ∧ s ≤ 1000000) (hm : ∀ c : Int, 0 ≤ c → c < 3 → 0 ≤ m c ∧ m c ≤ 8) (i : Nat) : 0 ≤ wkD s m i ∧ wkD s m i ≤ m ((i % 3 : Nat) : Int) := by
  have a := wkS_b hs (i + 1)
  have b := hm ((i % 3 : Nat) : Int) (by omega) (by omega)
  unfold wkD
  rw [Int.tmod_eq_emod_of_nonneg a.1]
  have e1 := Int.emod_nonneg (wkS s (i + 1)) (show m ((i % 3 : Nat) : Int) + 1 ≠ 0 by omega)
  have e2 := Int.emod_lt_of_pos (wkS s (i + 1)) (show 0 < m ((i % 3 : Nat) : Int) + 1 by omega)
  omega
section KW
variable {e : EN} {L : JI}
theorem K182 {dp : Nat} {J : JI} {s : Int} (hs : 0 ≤ s ∧ s ≤ 1000000) (hm : ∀ c : Int, 0 ≤ c → c < 3 → 0 ≤ J 2 c ∧ J 2 c ≤ 8) : Ev (fun n => kf_182 n dp e 0 J L s 0 0) (fun r => r.2 = L ∧ (∀ a i, ¬ a = 90 → r.1 a i = J a i) ∧ ∀ i : Nat, i < 15 → r.1 90 i = wkD s (J 2) i) := by
  have key : ∀ i : Nat, i ≤ 15 → ∀ K : JI, (∀ a i, ¬ a = 90 → K a i = J a i) → (∀ k : Nat, k < i → K 90 k = wkD s (J 2) k) → Ev (fun n => kf_182 n dp e 1 K L s (wkS s i) i) (fun r => r.2 = L ∧ (∀ a i, ¬ a = 90 → r.1 a i = J a i) ∧ ∀ i : Nat, i < 15 → r.1 90 i = wkD s (J 2) i) := by
    refine dec_ind 15 (fun i hi ih => ?_)
    intro K k1 k2
    refine ev_182_1 ?_
    by_cases ci : i < 15
    · have ih := ih ci
      have sb := wkS_b hs i
      have sb1 := wkS_b hs (i + 1)
      have e3 : Int.tmod (i : Int) 3 = ((i % 3 : Nat) : Int) := by rw [Int.tmod_eq_emod_of_nonneg (by omega)]; omega
      have mb := hm ((i % 3 : Nat) : Int) (by omega) (by omega)
      rw [wkS] at sb1
      refine Ev_f (by omega) (Ev_t (by omega) (Ev_st ?_))
      rw [e3, k1 2 _ (by omega)]
      refine Ev_t (by omega) (Ev_t (by omega) (Ev_t (by omega) (Ev_t (by omega) (Ev_t (by omega) (Ev_t (by omega) (Ev_st (Ev_t (by omega) ?_)))))))
      have := ih (w2 K 90 i (wkD s (J 2) i)) (fun a x y => by rw [w2_o y]; exact k1 a x y) (fun k hk => ?_)
      · rw [show ((i + 1 : Nat) : Int) = (i : Int) + 1 by omega] at this
        exact this
      · by_cases q : k = i
        · subst q; rw [w2_ap, if_pos ⟨rfl, rfl⟩]
        · rw [w2_n (by omega)]; exact k2 k (by omega)
    · have : i = 15 := by omega
      subst this
      exact Ev_t (by omega) (Ev_ret ⟨rfl, k1, k2⟩)
  refine ev_182_0 ?_
  exact key 0 (by omega) J (fun _ _ _ => rfl) (fun k hk => by omega)
theorem K302a {dp : Nat} {J : JI} {s : Int} {Q : Int × JI × JI → Prop} (hs : 0 ≤ s ∧ s ≤ 1000000) (hm : ∀ c : Int, 0 ≤ c → c < 3 → 0 ≤ J 107 c ∧ J 107 c ≤ 8) (fin : ∀ (K : JI) (j : Int), (∀ a i, ¬ a = 143 → K a i = J a i) → (∀ i : Nat, i < 15 → K 143 i = wkD s (J 107) i) → Ev (fun n => kf_302 n dp e 3 K L s 0 0 0 j) Q) : Ev (fun n => kf_302 n dp e 1 J L s 0 0 0 s) Q := by
  have one : ∀ d : Nat, d ≤ 5 → ∀ K : JI, (∀ a i, ¬ a = 143 → K a i = J a i) → (∀ k : Nat, k < 3 * d → K 143 k = wkD s (J 107) k) → Ev (fun n => kf_302 n dp e 1 K L s 0 d 0 (wkS s (3 * d))) Q := by
    refine dec_ind 5 (fun d hd ihd => ?_)
    intro K k1 k2
    refine ev_302_1 ?_
    by_cases cd : d < 5
    · have ihd := ihd cd
      refine Ev_f (by omega) ?_
      have two : ∀ c : Nat, c ≤ 3 → ∀ K : JI, (∀ a i, ¬ a = 143 → K a i = J a i) → (∀ k : Nat, k < 3 * d + c → K 143 k = wkD s (J 107) k) → Ev (fun n => kf_302 n dp e 2 K L s 0 d c (wkS s (3 * d + c))) Q := by
        refine dec_ind 3 (fun c hc ih => ?_)
        intro K k1 k2
        refine ev_302_2 ?_
        by_cases cc : c < 3
        · have ih := ih cc
          have sb := wkS_b hs (3 * d + c)
          have sb1 := wkS_b hs (3 * d + c + 1)
          have mb := hm (c : Int) (by omega) (by omega)
          have db := wkD_b hs hm (3 * d + c)
          rw [wkS] at sb1
          have ed : wkD s (J 107) (3 * d + c) = Int.tmod (Int.tmod (wkS s (3 * d + c) * 1103 + 12345) 1000003) (J 107 c + 1) := by
            unfold wkD
            rw [wkS, show (3 * d + c) % 3 = c by omega]
          rw [ed] at db
          simp only [Int.zero_add]
          refine Ev_f (by omega) (Ev_t (by omega) (Ev_st ?_))
          rw [k1 107 _ (by omega)]
          rw [show (3 * d + c) % 3 = c by omega] at db
          refine Ev_t (by omega) (Ev_t (by omega) (Ev_t (by omega) (Ev_t (by omega) (Ev_t (by omega) (Ev_t (by omega) (Ev_t (by omega) (Ev_st (Ev_t (by omega) ?_))))))))
          have := ih (w2 K 143 (3 * (d : Int) + c) (wkD s (J 107) (3 * d + c))) (fun a x y => by rw [w2_o y]; exact k1 a x y) (fun k hk => ?_)
          · rw [show ((c + 1 : Nat) : Int) = (c : Int) + 1 by omega, show 3 * d + (c + 1) = 3 * d + c + 1 by omega, wkS, ed] at this
            exact this
          · by_cases q : k = 3 * d + c
            · subst q; rw [w2_ap, if_pos ⟨rfl, by omega⟩]
            · rw [w2_n (by omega)]; exact k2 k (by omega)
        · have : c = 3 := by omega
          subst this
          refine Ev_t (by omega) (Ev_t (by omega) ?_)
          have := ihd K k1 (fun k hk => k2 k (by omega))
          rw [show ((d + 1 : Nat) : Int) = (d : Int) + 1 by omega, show 3 * (d + 1) = 3 * d + 3 by omega] at this
          exact this
      exact two 0 (by omega) K k1 k2
    · have : d = 5 := by omega
      subst this
      exact Ev_t (by omega) (fin K _ k1 k2)
  exact one 0 (by omega) J (fun _ _ _ => rfl) (fun k hk => by omega)
end KW
/-- what the days from d on bring, if k of them are left -/
def WkR (P : Nat → Prop) (V : Nat → Int → Prop) : Nat → Nat → Int → Int → Prop
  | 0, _, S, u => u = S
  | k + 1, d, S, u => (¬ P d ∧ u = -1000000) ∨ (P d ∧ ∃ v, V d v ∧ WkR P V k (d + 1) (S + v) u)
theorem WkR_u {P : Nat → Prop} {V : Nat → Int → Prop} (hV : ∀ d v v', V d v → V d v' → v = v') : ∀ (k d : Nat) (S u u' : Int), WkR P V k d S u → WkR P V k d S u' → u = u'
  | 0, d, S, u, u', h, h' => h.trans h'.symm
  | k + 1, d, S, u, u', h, h' => by
    rcases h with ⟨h1, h2⟩ | ⟨h1, v, h2, h3⟩
    · rcases h' with ⟨g1, g2⟩ | ⟨g1, _⟩
      · omega
      · exact absurd g1 h1
    · rcases h' with ⟨g1, g2⟩ | ⟨g1, v', g2, g3⟩
      · exact absurd h1 g1
      · have := hV d v v' h2 g2
        subst this
        exact WkR_u hV k (d + 1) (S + v) u u' h3 g3
