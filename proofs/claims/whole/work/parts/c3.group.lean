section
set_option maxRecDepth 100000 in
theorem ev_100_1 {dp : Nat} {e : EN} {I : JI} {L : JI} {i2 : Int} {i3 : Int} {i4 : Int} {a1 : Nat} {P_ : (Int × JI × JI) → Prop} (h : Ev (fun n => (if (I 26 17) ≤ i4 then (some ((i3 : Int), I, L)) else (if (a1 < e.1) ∧ ((e.2.1 a1).1 = 2) then ((e.2.2 a1 1).bind (fun b_15 => (if 0 ≤ i4 ∧ i4 < 5 then (if (-2147483648 ≤ i2 * 10 ∧ i2 * 10 ≤ 2147483647) ∧ (-2147483648 ≤ (i2 * 10) + (I 34 i4) ∧ (i2 * 10) + (I 34 i4) ≤ 2147483647) then (if ((b_15 < e.1) ∧ (((e.2.1 b_15).1 = 13) ∧ ((e.2.1 b_15).2 < (2 ^ 31)))) ∧ (0 ≤ ((i2 * 10) + (I 34 i4)) ∧ ((i2 * 10) + (I 34 i4)) < (((e.2.1 b_15).2 : Nat) : Int)) then (stI (I b_15 ((i2 * 10) + (I 34 i4))) (fun v_31 => (if 0 ≤ i4 ∧ i4 < 5 then (if 1 ≤ dp then (if -2147483648 ≤ 5 * i4 ∧ 5 * i4 ≤ 2147483647 then (stI (bO i3 (bL (min (I 35 i4) v_31) (5 * i4))) (fun v_52 => (if -2147483648 ≤ i4 + 1 ∧ i4 + 1 ≤ 2147483647 then (kf_100 n dp e 1 I L i2 v_52 (i4 + 1) a1) else none))) else none) else none) else none))) else none) else none) else none))) else none))) P_) : Ev (fun n => kf_100 n dp e 1 I L i2 i3 i4 a1) P_ := Ev_step (fun n => ke_100_1 n dp e I L i2 i3 i4 a1) h
set_option maxRecDepth 100000 in
theorem ev_100_0 {dp : Nat} {e : EN} {I : JI} {L : JI} {i2 : Int} {i3 : Int} {i4 : Int} {a1 : Nat} {P_ : (Int × JI × JI) → Prop} (h : Ev (fun n => (kf_100 n dp e 1 I L i2 0 0 a1)) P_) : Ev (fun n => kf_100 n dp e 0 I L i2 i3 i4 a1) P_ := Ev_step (fun n => ke_100_0 n dp e I L i2 i3 i4 a1) h
set_option maxRecDepth 100000 in
theorem ev_101_1 {dp : Nat} {e : EN} {I : JI} {L : JI} {i2 : Int} {i3 : Int} {i4 : Int} {a1 : Nat} {P_ : (Int × JI × JI) → Prop} (h : Ev (fun n => (if 10 ≤ i4 then (if -2147483648 ≤ i3 * 16 ∧ i3 * 16 ≤ 2147483647 then (some (((i3 * 16) : Int), I, L)) else none) else (if (a1 < e.1) ∧ ((e.2.1 a1).1 = 2) then ((e.2.2 a1 1).bind (fun b_14 => (if (-2147483648 ≤ i2 * 10 ∧ i2 * 10 ≤ 2147483647) ∧ (-2147483648 ≤ (i2 * 10) + i4 ∧ (i2 * 10) + i4 ≤ 2147483647) then (if ((b_14 < e.1) ∧ (((e.2.1 b_14).1 = 13) ∧ ((e.2.1 b_14).2 < (2 ^ 31)))) ∧ (0 ≤ ((i2 * 10) + i4) ∧ ((i2 * 10) + i4) < (((e.2.1 b_14).2 : Nat) : Int)) then (if -2147483648 ≤ 10 + i4 ∧ 10 + i4 ≤ 2147483647 then (if 0 ≤ (10 + i4) ∧ (10 + i4) < 30 then (if (-2147483648 ≤ (I b_14 ((i2 * 10) + i4)) * (I 4 (10 + i4)) ∧ (I b_14 ((i2 * 10) + i4)) * (I 4 (10 + i4)) ≤ 2147483647) ∧ (-2147483648 ≤ i3 + ((I b_14 ((i2 * 10) + i4)) * (I 4 (10 + i4))) ∧ i3 + ((I b_14 ((i2 * 10) + i4)) * (I 4 (10 + i4))) ≤ 2147483647) then (stI (i3 + ((I b_14 ((i2 * 10) + i4)) * (I 4 (10 + i4)))) (fun v_37 => (if -2147483648 ≤ i4 + 1 ∧ i4 + 1 ≤ 2147483647 then (kf_101 n dp e 1 I L i2 v_37 (i4 + 1) a1) else none))) else none) else none) else none) else none) else none))) else none))) P_) : Ev (fun n => kf_101 n dp e 1 I L i2 i3 i4 a1) P_ := Ev_step (fun n => ke_101_1 n dp e I L i2 i3 i4 a1) h
set_option maxRecDepth 100000 in
theorem ev_101_0 {dp : Nat} {e : EN} {I : JI} {L : JI} {i2 : Int} {i3 : Int} {i4 : Int} {a1 : Nat} {P_ : (Int × JI × JI) → Prop} (h : Ev (fun n => (kf_101 n dp e 1 I L i2 0 0 a1)) P_) : Ev (fun n => kf_101 n dp e 0 I L i2 i3 i4 a1) P_ := Ev_step (fun n => ke_101_0 n dp e I L i2 i3 i4 a1) h
set_option maxRecDepth 100000 in
theorem ev_102_1 {dp : Nat} {e : EN} {I : JI} {L : JI} {i1 : Int} {i2 : Int} {i3 : Int} {P_ : (Int × JI × JI) → Prop} (h : Ev (fun n => (if (I 26 17) ≤ i3 then (some ((i2 : Int), I, L)) else (if 0 ≤ i3 ∧ i3 < 5 then (if 1 ≤ dp then (if (-2147483648 ≤ 5 * i3 ∧ 5 * i3 ≤ 2147483647) ∧ (-2147483648 ≤ (max 0 (I 37 i3)) * (bA (bU i1 (5 * i3)) 15) ∧ (max 0 (I 37 i3)) * (bA (bU i1 (5 * i3)) 15) ≤ 2147483647) ∧ (-2147483648 ≤ i2 + ((max 0 (I 37 i3)) * (bA (bU i1 (5 * i3)) 15)) ∧ i2 + ((max 0 (I 37 i3)) * (bA (bU i1 (5 * i3)) 15)) ≤ 2147483647) then (stI (i2 + ((max 0 (I 37 i3)) * (bA (bU i1 (5 * i3)) 15))) (fun v_33 => (if -2147483648 ≤ i3 + 1 ∧ i3 + 1 ≤ 2147483647 then (kf_102 n dp e 1 I L i1 v_33 (i3 + 1)) else none))) else none) else none) else none))) P_) : Ev (fun n => kf_102 n dp e 1 I L i1 i2 i3) P_ := Ev_step (fun n => ke_102_1 n dp e I L i1 i2 i3) h
set_option maxRecDepth 100000 in
theorem ev_102_0 {dp : Nat} {e : EN} {I : JI} {L : JI} {i1 : Int} {i2 : Int} {i3 : Int} {P_ : (Int × JI × JI) → Prop} (h : Ev (fun n => (kf_102 n dp e 1 I L i1 0 0)) P_) : Ev (fun n => kf_102 n dp e 0 I L i1 i2 i3) P_ := Ev_step (fun n => ke_102_0 n dp e I L i1 i2 i3) h
end
/-! THE CLASS'S PLANS: cuttings that fill alike -/
def fiF (rn : Nat) (od : Nat → Int) (wn : Int → Int) (l : Int → Int) (k : Nat) : Int := if k < rn then min (wn (od k)) (l (od k)) else 0
theorem fiF_b {J : JI} {rn : Nat} {od : Nat → Int} {wn bn : Int → Int} {l : Int → Int} (h : RtO J rn od wn bn) (hl : ∀ p, 0 ≤ p → p < 10 → 0 ≤ l p) (k : Nat) : 0 ≤ fiF rn od wn l k ∧ fiF rn od wn l k ≤ cpF rn od wn k ∧ fiF rn od wn l k ≤ 8 := by
  unfold fiF cpF
  by_cases c : k < rn
  · rw [if_pos c, if_pos c]
    have q := h.2.2.1 k c
    have := hl (od k) q.2.1.1 q.2.1.2
    omega
  · rw [if_neg c, if_neg c]; decide
section GR
variable {e : EN} {L : JI} {rn : Nat} {od : Nat → Int} {wn bn : Int → Int}
theorem K100 {dp : Nat} {J : JI} {a0 k : Nat} {x1 x2 : Int} (hd : 1 ≤ dp) (hO : CtO e a0) (hR : RtO J rn od wn bn) (hk : k < 64) (hl : ∀ p, 0 ≤ p → p < 10 → 0 ≤ J (a0 + 2) (10 * k + p) ∧ J (a0 + 2) (10 * k + p) ≤ 200) : Ev (fun n => kf_100 n dp e 0 J L k x1 x2 a0) (fun r => r = (pkI (fiF rn od wn (fun p => J (a0 + 2) (10 * k + p))), J, L)) := by
  have hR' := hR
  obtain ⟨o1, o2, o3, o4, o5⟩ := hR
  have key : ∀ j : Nat, j ≤ rn → Ev (fun n => kf_100 n dp e 1 J L k (pkP (fiF rn od wn (fun p => J (a0 + 2) (10 * k + p))) j) j a0) (fun r => r = (pkI (fiF rn od wn (fun p => J (a0 + 2) (10 * k + p))), J, L)) := by
    refine dec_ind rn (fun j hj ih => ?_)
    refine ev_100_1 ?_
    rw [o1]
    by_cases c : j < rn
    · have ih := ih c
      obtain ⟨q1, q2, q3, q4, q5, q6⟩ := o3 j c
      have l := hl (od j) q2.1 q2.2
      have fb := fun i => fiF_b (l := fun p => J (a0 + 2) (10 * k + p)) hR' (fun p x y => (hl p x y).1) i
      have pb := pkP_b (V := fiF rn od wn (fun p => J (a0 + 2) (10 * k + p))) j (fun i hi => by have := fb i; omega)
      have ej : fiF rn od wn (fun p => J (a0 + 2) (10 * k + p)) j = min (wn (od j)) (J (a0 + 2) (10 * k + od j)) := by unfold fiF; rw [if_pos c]
      have fj := fb j
      rw [q1, q3, show (k : Int) * 10 + od j = 10 * k + od j by omega]
      refine Ev_f (by omega) (Ev_t hO.1 (Ev_R hO.2.2.1.1 (Ev_t (by omega) (Ev_t (by omega) (Ev_t ⟨⟨hO.2.2.1.2.1, hO.2.2.1.2.2.1, by rw [hO.2.2.1.2.2.2]; decide⟩, by rw [hO.2.2.1.2.2.2]; omega⟩ (Ev_st (Ev_t (by omega) (Ev_t (by omega) (Ev_t (by omega) (Ev_st ?_)))))))))) 
      rw [← ej, bO_f (by omega) (by omega) ⟨pb.1, pb.2.1⟩]
      rw [pkP] at ih
      exact Ev_t (by omega) ih
    · have : j = rn := by omega
      subst this
      refine Ev_t (by omega) (Ev_ret ?_)
      have ex : ∀ m : Nat, j ≤ m → pkP (fiF j od wn (fun p => J (a0 + 2) (10 * k + p))) m = pkP (fiF j od wn (fun p => J (a0 + 2) (10 * k + p))) j := by
        intro m
        induction m with
        | zero => intro z; rw [show j = 0 by omega]
        | succ m ihm =>
          intro z
          by_cases y : j = m + 1
          · rw [y]
          · rw [pkP, ihm (by omega)]
            have : fiF j od wn (fun p => J (a0 + 2) (10 * k + p)) m = 0 := by unfold fiF; rw [if_neg (by omega)]
            rw [this]; omega
      rw [← pkP_5, ex 5 o2]
  refine ev_100_0 ?_
  exact key 0 (by omega)
def ovK (J : JI) (a0 k : Nat) : Int := sm (fun p => J (a0 + 2) (10 * k + p) * J 4 (10 + p)) 10
theorem ovK_b {J : JI} {a0 k : Nat} (hl : ∀ p, 0 ≤ p → p < 10 → 0 ≤ J (a0 + 2) (10 * k + p) ∧ J (a0 + 2) (10 * k + p) ≤ 200) (hm : ∀ p, 0 ≤ p → p < 10 → 0 ≤ J 4 (10 + p) ∧ J 4 (10 + p) ≤ 999) : 0 ≤ ovK J a0 k ∧ ovK J a0 k ≤ 1998000 := by
  have b := sm_bb (f := fun p => J (a0 + 2) (10 * k + p) * J 4 (10 + p)) (A := 200 * 999) (by decide) 10 (fun i a b => mulb (hl i a b) (hm i a b))
  unfold ovK
  omega
theorem K101 {dp : Nat} {J : JI} {a0 k : Nat} {x1 x2 : Int} (hO : CtO e a0) (hk : k < 64) (hl : ∀ p, 0 ≤ p → p < 10 → 0 ≤ J (a0 + 2) (10 * k + p) ∧ J (a0 + 2) (10 * k + p) ≤ 200) (hm : ∀ p, 0 ≤ p → p < 10 → 0 ≤ J 4 (10 + p) ∧ J 4 (10 + p) ≤ 999) : Ev (fun n => kf_101 n dp e 0 J L k x1 x2 a0) (fun r => r = (16 * ovK J a0 k, J, L)) := by
  have key : ∀ p : Nat, p ≤ 10 → Ev (fun n => kf_101 n dp e 1 J L k (sm (fun p => J (a0 + 2) (10 * k + p) * J 4 (10 + p)) p) p a0) (fun r => r = (16 * ovK J a0 k, J, L)) := by
    refine dec_ind 10 (fun p hp ih => ?_)
    refine ev_101_1 ?_
    by_cases c : p < 10
    · have ih := ih c
      have b := sm_bb (f := fun p => J (a0 + 2) (10 * k + p) * J 4 (10 + p)) (A := 200 * 999) (by decide) p (fun i a b => mulb (hl i a (by omega)) (hm i a (by omega)))
      have b1 := mulb (hl p (by omega) (by omega)) (hm p (by omega) (by omega))
      rw [sm_s] at ih
      rw [show (k : Int) * 10 + p = 10 * k + p by omega]
      exact Ev_f (by omega) (Ev_t hO.1 (Ev_R hO.2.2.1.1 (Ev_t (by omega) (Ev_t ⟨⟨hO.2.2.1.2.1, hO.2.2.1.2.2.1, by rw [hO.2.2.1.2.2.2]; decide⟩, by rw [hO.2.2.1.2.2.2]; omega⟩ (Ev_t (by omega) (Ev_t (by omega) (Ev_t (by omega) (Ev_st (Ev_t (by omega) ih))))))))) 
    · have : p = 10 := by omega
      subst this
      have b := ovK_b hl hm
      unfold ovK at *
      refine Ev_t (by omega) (Ev_t (by omega) (Ev_ret ?_))
      rw [Int.mul_comm]
  refine ev_101_0 ?_
  exact key 0 (by omega)
/-- what a fill can bring at most -/
def mbF (rn : Nat) (od : Nat → Int) (bn : Int → Int) (W : Nat → Int) : Int := sN (fun f => max 0 (16 * bn (od f)) * W f) rn
theorem mbF_b {W : Nat → Int} (h5 : rn ≤ 5) (hb : ∀ k, k < rn → -999 ≤ bn (od k) ∧ bn (od k) ≤ 999) (hW : ∀ i, 0 ≤ W i ∧ W i ≤ 8) : ∀ j : Nat, j ≤ rn → 0 ≤ sN (fun f => max 0 (16 * bn (od f)) * W f) j ∧ sN (fun f => max 0 (16 * bn (od f)) * W f) j ≤ 127872 * j := by
  intro j
  induction j with
  | zero => intro _; simp [sN]
  | succ j ih =>
    intro hj
    have r := ih (by omega)
    have b := hb j (by omega)
    have m := mulb (a := max 0 (16 * bn (od j))) (b := W j) (A := 15984) (B := 8) (by omega) (hW j)
    rw [sN]
    omega
theorem K102 {dp : Nat} {J : JI} {W : Nat → Int} {x1 x2 : Int} (hd : 1 ≤ dp) (hR : RtO J rn od wn bn) (hb : ∀ k, k < rn → -999 ≤ bn (od k) ∧ bn (od k) ≤ 999) (hW : ∀ i, 0 ≤ W i ∧ W i ≤ 8) : Ev (fun n => kf_102 n dp e 0 J L (pkI W) x1 x2) (fun r => r = (mbF rn od bn W, J, L)) := by
  obtain ⟨o1, o2, o3, o4, o5⟩ := hR
  have w0 := hW 0
  have w1 := hW 1
  have w2 := hW 2
  have w3 := hW 3
  have w4 := hW 4
  have pe : pkI W = W 0 + 32 * W 1 + 1024 * W 2 + 32768 * W 3 + 1048576 * W 4 := rfl
  have fld : ∀ f : Nat, f < 5 → bA (bU (pkI W) (5 * f)) 15 = W f := by
    intro f hf
    have a15 : ∀ x : Int, 0 ≤ x ∧ x ≤ 2147483647 → bA x 15 = x % 16 := fun x hx => by
      rw [bA_n hx (by decide)]
      have := Nat.and_two_pow_sub_one_eq_mod x.toNat 4
      show ((x.toNat &&& 15 : Nat) : Int) = _
      rw [show (15 : Nat) = 2 ^ 4 - 1 from rfl, this]
      omega
    have u := bU_g (x := pkI W) (k := 5 * f) (by omega) (by omega)
    rw [show ((5 * f : Nat) : Int) = 5 * (f : Int) by omega] at u
    rw [u]
    have : f = 0 ∨ f = 1 ∨ f = 2 ∨ f = 3 ∨ f = 4 := by omega
    rcases this with rfl | rfl | rfl | rfl | rfl
    · rw [show ((2 ^ (5 * 0) : Nat) : Int) = 1 from rfl, a15 _ (by omega)]; omega
    · rw [show ((2 ^ (5 * 1) : Nat) : Int) = 32 from rfl, a15 _ (by omega)]; omega
    · rw [show ((2 ^ (5 * 2) : Nat) : Int) = 1024 from rfl, a15 _ (by omega)]; omega
    · rw [show ((2 ^ (5 * 3) : Nat) : Int) = 32768 from rfl, a15 _ (by omega)]; omega
    · rw [show ((2 ^ (5 * 4) : Nat) : Int) = 1048576 from rfl, a15 _ (by omega)]; omega
  have key : ∀ j : Nat, j ≤ rn → Ev (fun n => kf_102 n dp e 1 J L (pkI W) (sN (fun f => max 0 (16 * bn (od f)) * W f) j) j) (fun r => r = (mbF rn od bn W, J, L)) := by
    refine dec_ind rn (fun j hj ih => ?_)
    refine ev_102_1 ?_
    rw [o1]
    by_cases c : j < rn
    · have ih := ih c
      obtain ⟨q1, q2, q3, q4, q5, q6⟩ := o3 j c
      have b := hb j c
      have r := mbF_b (W := W) o2 hb hW j hj
      have m := mulb (a := max 0 (16 * bn (od j))) (b := W j) (A := 15984) (B := 8) (by omega) (hW j)
      rw [q6, fld j (by omega)]
      rw [sN] at ih
      exact Ev_f (by omega) (Ev_t (by omega) (Ev_t (by omega) (Ev_t (by omega) (Ev_st (Ev_t (by omega) ih)))))
    · have : j = rn := by omega
      subst this
      exact Ev_t (by omega) (Ev_ret rfl)
  refine ev_102_0 ?_
  exact key 0 (by omega)
end GR
/-- one more in the list -/
theorem MxR_o {v : Nat → Int} {H : Nat → Prop} {m : Nat} {b n : Int} (h : MxH (List.range m) v H b n) (hm : ¬ (H m ∧ b ≤ v m)) : MxH (List.range (m + 1)) v H b n := by
  obtain ⟨h1, ⟨x, hx, kx, vx⟩, h3, h4⟩ := h
  refine ⟨fun y hy ky => ?_, ⟨x, List.mem_range.2 (by have := List.mem_range.1 hx; omega), kx, vx⟩, h3, ?_⟩
  · have := List.mem_range.1 hy
    by_cases c : y = m
    · subst c
      by_cases d : b ≤ v y
      · exact absurd ⟨ky, d⟩ hm
      · omega
    · exact h1 y (List.mem_range.2 (by omega)) ky
  · rw [h4, List.range_succ, cP_a, cP_f (fun z => hm ⟨z.1, by omega⟩), cP]
    rfl
theorem MxR_e {v : Nat → Int} {H : Nat → Prop} {m : Nat} {b n : Int} (h : MxH (List.range m) v H b n) (hm : H m) (hv : v m = b) : MxH (List.range (m + 1)) v H b (n + 1) := by
  obtain ⟨h1, ⟨x, hx, kx, vx⟩, h3, h4⟩ := h
  refine ⟨fun y hy ky => ?_, ⟨x, List.mem_range.2 (by have := List.mem_range.1 hx; omega), kx, vx⟩, by omega, ?_⟩
  · have := List.mem_range.1 hy
    by_cases c : y = m
    · subst c; omega
    · exact h1 y (List.mem_range.2 (by omega)) ky
  · rw [List.range_succ, cP_a, cP_t ⟨hm, hv⟩, cP]
    omega
theorem MxR_n {v : Nat → Int} {H : Nat → Prop} {m : Nat} (hm : H m) (hl : ∀ k, k < m → H k → v k < v m) : MxH (List.range (m + 1)) v H (v m) 1 := by
  refine ⟨fun y hy ky => ?_, ⟨m, List.mem_range.2 (by omega), hm, rfl⟩, by decide, ?_⟩
  · have := List.mem_range.1 hy
    by_cases c : y = m
    · subst c; exact Int.le_refl _
    · exact Int.le_of_lt (hl y (by omega) ky)
  · rw [List.range_succ, cP_a, cP_t ⟨hm, rfl⟩, cP, cP_0 (List.range m) (fun k hk z => by have := hl k (List.mem_range.1 hk) z.1; omega)]
    rfl
