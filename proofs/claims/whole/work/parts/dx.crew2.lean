section
set_option maxRecDepth 100000 in
theorem ev_145_2 {dp : Nat} {e : EN} {I : JI} {L : JI} {i1 : Int} {i2 : Int} {P_ : (JI × JI) → Prop} (h : Ev (fun n => (if 16 ≤ i2 then (some (I, L)) else (if 0 ≤ i2 ∧ i2 < 16 then (if (I 75 i2) = (-1) then (kf_145 n dp e 3 I L i1 i2) else (if 0 ≤ (I 73 10) ∧ (I 73 10) < 16 then (stI (w2 I 78 (I 73 10) i2) (fun I_108 => (if -2147483648 ≤ (I_108 73 10) + 1 ∧ (I_108 73 10) + 1 ≤ 2147483647 then (stI (w2 I_108 73 10 ((I_108 73 10) + 1)) (fun I_116 => (if 0 ≤ i2 ∧ i2 < 16 then (if -2147483648 ≤ (I_116 73 11) + (I_116 74 i2) ∧ (I_116 73 11) + (I_116 74 i2) ≤ 2147483647 then (stI (w2 I_116 73 11 ((I_116 73 11) + (I_116 74 i2))) (fun I_131 => (kf_145 n dp e 3 I_131 L i1 i2))) else none) else none))) else none))) else none)) else none))) P_) : Ev (fun n => kf_145 n dp e 2 I L i1 i2) P_ := Ev_step (fun n => ke_145_2 n dp e I L i1 i2) h
set_option maxRecDepth 100000 in
theorem ev_145_3 {dp : Nat} {e : EN} {I : JI} {L : JI} {i1 : Int} {i2 : Int} {P_ : (JI × JI) → Prop} (h : Ev (fun n => (if -2147483648 ≤ i2 + 1 ∧ i2 + 1 ≤ 2147483647 then (kf_145 n dp e 2 I L i1 (i2 + 1)) else none)) P_) : Ev (fun n => kf_145 n dp e 3 I L i1 i2) P_ := Ev_step (fun n => ke_145_3 n dp e I L i1 i2) h
set_option maxRecDepth 100000 in
theorem ev_145_1 {dp : Nat} {e : EN} {I : JI} {L : JI} {i1 : Int} {i2 : Int} {P_ : (JI × JI) → Prop} (h : Ev (fun n => (if i1 ≤ i2 then (stI (w2 I 73 10 0) (fun I_73 => (stI (w2 I_73 73 11 0) (fun I_78 => (kf_145 n dp e 2 I_78 L i1 0))))) else (if 1 ≤ dp then ((kf_121 n (dp - 1) e 0 I L i2).bind (fun ⟨x0_50, I0_50, L0_50⟩ => (if 0 ≤ i2 ∧ i2 < 8 then (if 1 ≤ dp then ((kf_146 n (dp - 1) e 0 I0_50 L0_50 x0_50 (I0_50 55 i2) 0 0 0 0).bind (fun ⟨I1_62, L1_62⟩ => (if -2147483648 ≤ i2 + 1 ∧ i2 + 1 ≤ 2147483647 then (kf_145 n dp e 1 I1_62 L1_62 i1 (i2 + 1)) else none))) else none) else none))) else none))) P_) : Ev (fun n => kf_145 n dp e 1 I L i1 i2) P_ := Ev_step (fun n => ke_145_1 n dp e I L i1 i2) h
set_option maxRecDepth 100000 in
theorem ev_145_0 {dp : Nat} {e : EN} {I : JI} {L : JI} {i1 : Int} {i2 : Int} {P_ : (JI × JI) → Prop} (h : Ev (fun n => (if (I 73 15) = 0 then (some (I, L)) else (stI (w2 I 73 15 0) (fun I_10 => (if 1 ≤ dp then ((kf_36 n (dp - 1) e 0 I_10 L 0 0 0 74).bind (fun ⟨I0_18, L0_18⟩ => (if 1 ≤ dp then ((kf_36 n (dp - 1) e 0 I0_18 L0_18 (-1) 0 0 75).bind (fun ⟨I1_26, L1_26⟩ => (if 1 ≤ dp then ((kf_16 n (dp - 1) e 0 I1_26 L1_26).bind (fun ⟨x2_33, I2_33, L2_33⟩ => (kf_145 n dp e 1 I2_33 L2_33 x2_33 0))) else none))) else none))) else none))))) P_) : Ev (fun n => kf_145 n dp e 0 I L i1 i2) P_ := Ev_step (fun n => ke_145_0 n dp e I L i1 i2) h
end
/-! TASKS: the class's list of them -/
def lsum (g : Nat → Int) : List Nat → Int
  | [] => 0
  | w :: l => g w + lsum g l
theorem lsum_a {g : Nat → Int} : ∀ l l' : List Nat, lsum g (l ++ l') = lsum g l + lsum g l'
  | [], l' => by show lsum g l' = 0 + lsum g l'; omega
  | w :: l, l' => by
    show g w + lsum g (l ++ l') = g w + lsum g l + lsum g l'
    rw [lsum_a l l']; omega
theorem lsum_b {g : Nat → Int} {B : Int} : ∀ l : List Nat, (∀ w ∈ l, 0 ≤ g w ∧ g w ≤ B) → 0 ≤ lsum g l ∧ lsum g l ≤ B * (l.length : Int)
  | [], _ => by simp [lsum]
  | w :: l, h => by
    have r := lsum_b l (fun v hv => h v (List.mem_cons_of_mem _ hv))
    have b := h w List.mem_cons_self
    show 0 ≤ g w + lsum g l ∧ g w + lsum g l ≤ B * ((l.length + 1 : Nat) : Int)
    rw [show ((l.length + 1 : Nat) : Int) = (l.length : Int) + 1 by omega, Int.mul_add, Int.mul_one]
    omega
/-- the tasks below n, rising -/
noncomputable def tkL (ρ : Int → Int) (f : Nat → Int) (N n : Nat) : List Nat := (List.range n).filter (fun w => ¬ tkS ρ f w N = -1)
theorem tkL_s {ρ : Int → Int} {f : Nat → Int} {N n : Nat} : tkL ρ f N (n + 1) = tkL ρ f N n ++ (if tkS ρ f n N = -1 then [] else [n]) := by
  unfold tkL
  rw [List.range_succ, List.filter_append]
  congr 1
  by_cases c : tkS ρ f n N = -1
  · rw [if_pos c]; simp [c]
  · rw [if_neg c]; simp [c]
theorem tkL_m {ρ : Int → Int} {f : Nat → Int} {N n w : Nat} : w ∈ tkL ρ f N n ↔ w < n ∧ ¬ tkS ρ f w N = -1 := by
  unfold tkL
  rw [List.mem_filter, List.mem_range]
  simp
theorem tkL_n {ρ : Int → Int} {f : Nat → Int} {N : Nat} : ∀ n, (tkL ρ f N n).length ≤ n
  | 0 => Nat.le_refl _
  | n + 1 => by
    have := tkL_n (ρ := ρ) (f := f) (N := N) n
    rw [tkL_s, List.length_append]
    split <;> simp <;> omega
/-- an array holds a list -/
def AsT (A : Int → Int) (l : List Nat) : Prop := ∀ (j w : Nat), l[j]? = some w → A j = w
theorem AsT_c {A B : Int → Int} {l : List Nat} (h : ∀ j : Nat, j < l.length → B j = A j) (q : AsT A l) : AsT B l := fun j w e => by
  obtain ⟨hj, _⟩ := List.getElem?_eq_some_iff.mp e
  rw [h j hj]; exact q j w e
/-- the class's list of tasks, as it is made -/
def TkC (J : JI) (ρ : Int → Int) (f : Nat → Int) (N : Nat) : Prop := TkT J ρ f N ∧ J 73 10 = ((tkL ρ f N 16).length : Int) ∧ AsT (J 78) (tkL ρ f N 16) ∧ J 73 11 = lsum (fun w => tkM ρ f w N) (tkL ρ f N 16)
def FrTl (J J' : JI) : Prop := ∀ a i, ¬ (a = 21 ∧ (i = 3 ∨ i = 4)) → ¬ a = 22 → ¬ a = 23 → ¬ (a = 73 ∧ (i = 10 ∨ i = 11 ∨ i = 15)) → ¬ a = 74 → ¬ a = 75 → ¬ a = 77 → ¬ a = 78 → J' a i = J a i
section K145
variable {dp : Nat} {e : EN} {L : JI} {tr : Nat} {ρ : Int → Int} {f : Nat → Int} {N : Nat}
set_option maxHeartbeats 2000000 in
theorem K145 {J : JI} (hS : ShC e tr) (h74 : arO e 74 16) (h75 : arO e 75 16) (h77 : arO e 77 10) (hd : 6 ≤ dp) (hA : AskO J tr ρ) (hC : ClsO J tr ρ) (hv : vlP (J 2 0) (J 2 1) (J 2 2)) (hm : ∀ c, 0 ≤ c → c < 3 → J 2 c = ρ c) (hN : J 2 0 + J 2 1 + J 2 2 = N) (hL : LsC J (cuS ρ)) (hf : FxO ρ f N) (hfi : ∀ i : Nat, i < N → J 55 i = f i) (h15 : ¬ J 73 15 = 0) : Ev (fun n => kf_145 n dp e 0 J L 0 0) (fun r => r.2 = L ∧ FrTl J r.1 ∧ r.1 73 15 = 0 ∧ TkC r.1 ρ f N) := by
  have hv0 := hv
  unfold vlP at hv0
  have htr := hS.1
  have h11 := hC.2.2.2.2
  /- the list -/
  have list : ∀ w : Nat, w ≤ 16 → ∀ K : JI, FrTl J K → K 73 15 = 0 → TkT K ρ f N → K 73 10 = ((tkL ρ f N w).length : Int) → AsT (K 78) (tkL ρ f N w) → K 73 11 = lsum (fun w => tkM ρ f w N) (tkL ρ f N w) → ∀ x : Int, Ev (fun n => kf_145 n dp e 2 K L x w) (fun r => r.2 = L ∧ FrTl J r.1 ∧ r.1 73 15 = 0 ∧ TkC r.1 ρ f N) := by
    refine dec_ind 16 (fun w hw ih => ?_)
    intro K k1 k2 k3 k4 k5 k6 x
    refine ev_145_2 ?_
    by_cases cw : w < 16
    · have ih := ih cw
      have lb := tkL_n (ρ := ρ) (f := f) (N := N) w
      have sb := lsum_b (g := fun w => tkM ρ f w N) (B := 96000) (tkL ρ f N w) (fun v hv => by
        have := tkM_b hA h11 (w := (v : Int)) (by omega) hf N (Nat.le_refl _)
        omega)
      have mb := tkM_b hA h11 (w := (w : Int)) (by omega) hf N (Nat.le_refl _)
      obtain ⟨t1, t2⟩ := k3 w (by omega) (by omega)
      have go : ∀ K' : JI, FrTl J K' → K' 73 15 = 0 → TkT K' ρ f N → K' 73 10 = ((tkL ρ f N (w + 1)).length : Int) → AsT (K' 78) (tkL ρ f N (w + 1)) → K' 73 11 = lsum (fun w => tkM ρ f w N) (tkL ρ f N (w + 1)) → Ev (fun n => kf_145 n dp e 3 K' L x w) (fun r => r.2 = L ∧ FrTl J r.1 ∧ r.1 73 15 = 0 ∧ TkC r.1 ρ f N) := fun K' y1 y2 y3 y4 y5 y6 => by
        refine ev_145_3 ?_
        refine Ev_t (by omega) ?_
        rw [show (w : Int) + 1 = ((w + 1 : Nat) : Int) by omega]
        exact ih K' y1 y2 y3 y4 y5 y6 x
      refine Ev_f (by omega) (Ev_t (by omega) ?_)
      rw [t2]
      by_cases c : tkS ρ f w N = -1
      · refine Ev_t c (go K k1 k2 k3 ?_ ?_ ?_)
        · rw [tkL_s, if_pos c, List.append_nil]; exact k4
        · rw [tkL_s, if_pos c, List.append_nil]; exact k5
        · rw [tkL_s, if_pos c, List.append_nil]; exact k6
      · refine Ev_f c (Ev_t (by omega) (Ev_st ?_))
        rw [k4]
        have g10 : w2 K 78 ((tkL ρ f N w).length : Int) w 73 10 = ((tkL ρ f N w).length : Int) := by rw [w2_o (by omega)]; exact k4
        rw [g10]
        refine Ev_t (by omega) (Ev_st (Ev_t (by omega) ?_))
        have n1 : ∀ a i, ¬ (a = 78 ∧ i = ((tkL ρ f N w).length : Int)) → ¬ (a = 73 ∧ i = 10) → w2 (w2 K 78 ((tkL ρ f N w).length : Int) w) 73 10 (((tkL ρ f N w).length : Int) + 1) a i = K a i := fun a i y z => by rw [w2_n z, w2_n y]
        have n2 : w2 (w2 K 78 ((tkL ρ f N w).length : Int) w) 73 10 (((tkL ρ f N w).length : Int) + 1) 73 10 = ((tkL ρ f N w).length : Int) + 1 := by rw [w2_ap, if_pos ⟨rfl, rfl⟩]
        have n3 : w2 (w2 K 78 ((tkL ρ f N w).length : Int) w) 73 10 (((tkL ρ f N w).length : Int) + 1) 78 ((tkL ρ f N w).length : Int) = w := by rw [w2_o (by omega), w2_ap, if_pos ⟨rfl, rfl⟩]
        generalize w2 (w2 K 78 ((tkL ρ f N w).length : Int) w) 73 10 (((tkL ρ f N w).length : Int) + 1) = K1 at n1 n2 n3 ⊢
        rw [n1 73 11 (by omega) (by omega), n1 74 _ (by omega) (by omega), k6, t1]
        refine Ev_t (by omega) (Ev_st (go _ (fun a i x1 x2 x3 x4 x5 x6 x7 x8 => ?_) ?_ (fun v a b => ?_) ?_ (fun j v e => ?_) ?_))
        · rw [w2_n (by omega), n1 a i (by omega) (by omega)]; exact k1 a i x1 x2 x3 x4 x5 x6 x7 x8
        · rw [w2_n (by omega), n1 _ _ (by omega) (by omega)]; exact k2
        · rw [w2_n (by omega), w2_n (by omega), n1 _ _ (by omega) (by omega), n1 _ _ (by omega) (by omega)]; exact k3 v a b
        · rw [w2_n (by omega), n2, tkL_s, if_neg c, List.length_append]; simp
        · rw [tkL_s, if_neg c] at e
          by_cases q : j < (tkL ρ f N w).length
          · rw [List.getElem?_append_left q] at e
            rw [w2_n (by omega), n1 _ _ (by omega) (by omega)]
            exact k5 j v e
          · rw [List.getElem?_append_right (by omega)] at e
            have hj : j = (tkL ρ f N w).length := by
              obtain ⟨hj, _⟩ := List.getElem?_eq_some_iff.mp e
              simp at hj
              omega
            subst hj
            simp at e
            rw [w2_n (by omega), n3, e]
        · rw [w2_ap, if_pos ⟨rfl, rfl⟩, tkL_s, if_neg c, lsum_a]
          show _ = _ + (tkM ρ f w N + 0)
          omega
    · have : w = 16 := by omega
      subst this
      exact Ev_t (by omega) (Ev_ret ⟨rfl, k1, k2, k3, k4, k5, k6⟩)
  /- the carcasses -/
  have carc : ∀ i : Nat, i ≤ N → ∀ K : JI, FrTl J K → K 73 15 = 0 → TkT K ρ f i → Ev (fun n => kf_145 n dp e 1 K L N i) (fun r => r.2 = L ∧ FrTl J r.1 ∧ r.1 73 15 = 0 ∧ TkC r.1 ρ f N) := by
    refine dec_ind N (fun i hi ih => ?_)
    intro K k1 k2 k3
    refine ev_145_1 ?_
    by_cases ci : i < N
    · have ih := ih ci
      have fr : ∀ a q, (1 ≤ a ∧ a ≤ 20) ∨ (24 ≤ a ∧ a ≤ 72) ∨ (93 ≤ a ∧ a ≤ 103) → K a q = J a q := fun a q x => k1 a q (by omega) (by omega) (by omega) (by omega) (by omega) (by omega) (by omega) (by omega)
      have e2 : ∀ q, K 2 q = J 2 q := fun q => fr 2 q (by omega)
      have hA1 : AskO K tr ρ := ⟨TrT_j (fun a q x y => fr a q (by omega)) hA.1, hA.2.1, hA.2.2.1, hA.2.2.2.1, hA.2.2.2.2⟩
      have hC1 : ClsO K tr ρ := by
        obtain ⟨c1, c2, c3, c4, c5⟩ := hC
        exact ⟨fun w a b => by rw [fr _ _ (by omega)]; exact c1 w a b, by rw [fr _ _ (by omega)]; exact c2, fun i a b => by rw [fr _ _ (by omega)]; exact c3 i a b, by rw [fr _ _ (by omega)]; exact c4, by rw [fr _ _ (by omega)]; exact c5⟩
      refine Ev_f (by omega) (Ev_t (by omega) (Ev_bind (K121 (N := N) (l := N - 1 - i) (by rw [e2, e2, e2]; exact hv) (by rw [e2, e2, e2]; exact hN) (by omega)) ?_))
      rintro _ rfl
      dsimp only
      rw [e2, e2, fr 55 i (by omega), hfi i ci]
      have c3 := clR_3 (b := J 2 1) (c := J 2 2) (i := N - 1 - i)
      have ec : clA (ρ 0) (ρ 1) i = ((clR (J 2 1) (J 2 2) (N - 1 - i) : Nat) : Int) := by
        have m0 := hm 0 (by omega) (by omega)
        have m1 := hm 1 (by omega) (by omega)
        rw [← m0, ← m1]
        unfold clA clR
        (repeat' split) <;> omega
      obtain ⟨fb, x, ex⟩ := hf i ci
      have echx : ∀ p, chX ρ f i p = x.1 p := fun p => by unfold chX; rw [ex]
      rw [ec] at ex
      generalize clR (J 2 1) (J 2 2) (N - 1 - i) = c at *
      have lo := (hL c c3).2 (f i).toNat (by omega) x ex
      refine Ev_t (by omega) (Ev_t (by omega) (Ev_bind (K146 (N := N) hS h77 (by omega) c3 ec hA1 hC1 hf ci (by omega) (fun p a b => ?_) k3) ?_))
      · rw [fr _ _ (by omega), echx]
        have := (lo p a b).1
        rw [show (((f i).toNat : Nat) : Int) = f i by omega] at this
        exact this
      rintro ⟨K1, L1⟩ ⟨ez, y1, y2⟩
      dsimp only at ez
      subst ez
      dsimp only at y1 y2 ⊢
      refine Ev_t (by omega) ?_
      rw [show (i : Int) + 1 = ((i + 1 : Nat) : Int) by omega]
      exact ih K1 (fun a q x1 x2 x3 x4 x5 x6 x7 x8 => by rw [y1 a q x1 x2 x3 x5 x6 x7]; exact k1 a q x1 x2 x3 x4 x5 x6 x7 x8) (by rw [y1 _ _ (by omega) (by omega) (by omega) (by omega) (by omega) (by omega)]; exact k2) y2
    · have : i = N := by omega
      subst this
      refine Ev_t (by omega) (Ev_st (Ev_st ?_))
      refine list 0 (by omega) _ (fun a q x1 x2 x3 x4 x5 x6 x7 x8 => by rw [w2_n (by omega), w2_n (by omega)]; exact k1 a q x1 x2 x3 x4 x5 x6 x7 x8) (by rw [w2_n (by omega), w2_n (by omega)]; exact k2) (fun w a b => by rw [w2_n (by omega), w2_n (by omega), w2_n (by omega), w2_n (by omega)]; exact k3 w a b) (by rw [w2_n (by omega), w2_ap, if_pos ⟨rfl, rfl⟩]; rfl) (fun j w e => by simp [tkL] at e) (by rw [w2_ap, if_pos ⟨rfl, rfl⟩]; rfl) _
  refine ev_145_0 ?_
  refine Ev_f h15 (Ev_st (Ev_t (by omega) (Ev_bind (K36 h74 (by omega)) ?_)))
  rintro _ rfl
  dsimp only
  refine Ev_t (by omega) (Ev_bind (K36 h75 (by omega)) ?_)
  rintro _ rfl
  dsimp only
  have n1 : ∀ a q, ¬ a = 74 → ¬ a = 75 → ¬ (a = 73 ∧ q = 15) → fl (fl (w2 J 73 15 0) 74 16 0) 75 16 (-1) a q = J a q := fun a q x y z => by rw [fl_n (by omega), fl_n (by omega), w2_n z]
  have m15 : fl (fl (w2 J 73 15 0) 74 16 0) 75 16 (-1) 73 15 = 0 := by rw [fl_n (by omega), fl_n (by omega), w2_ap, if_pos ⟨rfl, rfl⟩]
  have m74 : TkT (fl (fl (w2 J 73 15 0) 74 16 0) 75 16 (-1)) ρ f 0 := fun w a b => ⟨by rw [fl_n (by omega), fl_p ⟨rfl, a, b⟩]; rfl, by rw [fl_p ⟨rfl, a, b⟩]; rfl⟩
  generalize fl (fl (w2 J 73 15 0) 74 16 0) 75 16 (-1) = K at n1 m15 m74 ⊢
  have e2 : ∀ q, K 2 q = J 2 q := fun q => n1 2 q (by omega) (by omega) (by omega)
  refine Ev_t (by omega) (Ev_bind (K16 (by rw [e2, e2, e2]; omega)) ?_)
  rintro _ rfl
  dsimp only
  rw [e2, e2, e2, hN]
  exact carc 0 (by omega) K (fun a q x1 x2 x3 x4 x5 x6 x7 x8 => n1 a q x5 x6 (by omega)) m15 m74
end K145
