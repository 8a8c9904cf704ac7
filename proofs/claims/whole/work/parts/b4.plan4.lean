section
set_option maxRecDepth 100000 in
theorem ev_264_1 {dp : Nat} {e : EN} {I : JI} {L : JI} {i1 : Int} {P_ : (JI × JI) → Prop} (h : Ev (fun n => (if 10 ≤ i1 then (some (I, L)) else (if 0 ≤ i1 ∧ i1 < 10 then (if (I 127 i1) ≤ 0 then (kf_264 n dp e 2 I L i1) else (if 0 ≤ (I 105 43) ∧ (I 105 43) < 5 then (stI (w2 I 128 (I 105 43) i1) (fun I_36 => (if -2147483648 ≤ (I_36 105 43) + 1 ∧ (I_36 105 43) + 1 ≤ 2147483647 then (stI (w2 I_36 105 43 ((I_36 105 43) + 1)) (fun I_44 => (if 0 ≤ i1 ∧ i1 < 10 then (if (-2147483648 ≤ (I_44 127 i1) + 1 ∧ (I_44 127 i1) + 1 ≤ 2147483647) ∧ (-2147483648 ≤ (I_44 105 44) * ((I_44 127 i1) + 1) ∧ (I_44 105 44) * ((I_44 127 i1) + 1) ≤ 2147483647) then (stI (w2 I_44 105 44 ((I_44 105 44) * ((I_44 127 i1) + 1))) (fun I_61 => (kf_264 n dp e 2 I_61 L i1))) else none) else none))) else none))) else none)) else none))) P_) : Ev (fun n => kf_264 n dp e 1 I L i1) P_ := Ev_step (fun n => ke_264_1 n dp e I L i1) h
set_option maxRecDepth 100000 in
theorem ev_264_2 {dp : Nat} {e : EN} {I : JI} {L : JI} {i1 : Int} {P_ : (JI × JI) → Prop} (h : Ev (fun n => (if -2147483648 ≤ i1 + 1 ∧ i1 + 1 ≤ 2147483647 then (kf_264 n dp e 1 I L (i1 + 1)) else none)) P_) : Ev (fun n => kf_264 n dp e 2 I L i1) P_ := Ev_step (fun n => ke_264_2 n dp e I L i1) h
set_option maxRecDepth 100000 in
theorem ev_264_0 {dp : Nat} {e : EN} {I : JI} {L : JI} {i1 : Int} {P_ : (JI × JI) → Prop} (h : Ev (fun n => (stI (w2 I 105 43 0) (fun I_2 => (stI (w2 I_2 105 44 1) (fun I_7 => (kf_264 n dp e 1 I_7 L 0)))))) P_) : Ev (fun n => kf_264 n dp e 0 I L i1) P_ := Ev_step (fun n => ke_264_0 n dp e I L i1) h
set_option maxRecDepth 100000 in
theorem ev_263_1 {dp : Nat} {e : EN} {I : JI} {L : JI} {i1 : Int} {i2 : Int} {i3 : Int} {P_ : (Int × JI × JI) → Prop} (h : Ev (fun n => (if (I 105 40) < i1 then (kf_263 n dp e 3 I L 0 0 0) else (kf_263 n dp e 2 I L i1 0 0))) P_) : Ev (fun n => kf_263 n dp e 1 I L i1 i2 i3) P_ := Ev_step (fun n => ke_263_1 n dp e I L i1 i2 i3) h
set_option maxRecDepth 100000 in
theorem ev_263_2 {dp : Nat} {e : EN} {I : JI} {L : JI} {i1 : Int} {i2 : Int} {i3 : Int} {P_ : (Int × JI × JI) → Prop} (h : Ev (fun n => (if (I 105 44) ≤ i2 then (if -2147483648 ≤ i1 + 1 ∧ i1 + 1 ≤ 2147483647 then (kf_263 n dp e 1 I L (i1 + 1) 0 0) else none) else (if i1 = 0 then (if i2 = 0 then (if (-2147483648 ≤ 59049 * i1 ∧ 59049 * i1 ≤ 2147483647) ∧ (-2147483648 ≤ (59049 * i1) + i2 ∧ (59049 * i1) + i2 ≤ 2147483647) then (if 0 ≤ ((59049 * i1) + i2) ∧ ((59049 * i1) + i2) < 531441 then (stI (w2 I 131 ((59049 * i1) + i2) 1) (fun I_48 => (if -2147483648 ≤ i2 + 1 ∧ i2 + 1 ≤ 2147483647 then (kf_263 n dp e 2 I_48 L i1 (i2 + 1) 0) else none))) else none) else none) else (if (-2147483648 ≤ 59049 * i1 ∧ 59049 * i1 ≤ 2147483647) ∧ (-2147483648 ≤ (59049 * i1) + i2 ∧ (59049 * i1) + i2 ≤ 2147483647) then (if 0 ≤ ((59049 * i1) + i2) ∧ ((59049 * i1) + i2) < 531441 then (stI (w2 I 131 ((59049 * i1) + i2) 0) (fun I_48 => (if -2147483648 ≤ i2 + 1 ∧ i2 + 1 ≤ 2147483647 then (kf_263 n dp e 2 I_48 L i1 (i2 + 1) 0) else none))) else none) else none)) else (if (-2147483648 ≤ 59049 * i1 ∧ 59049 * i1 ≤ 2147483647) ∧ (-2147483648 ≤ (59049 * i1) + i2 ∧ (59049 * i1) + i2 ≤ 2147483647) then (if 0 ≤ ((59049 * i1) + i2) ∧ ((59049 * i1) + i2) < 531441 then (stI (w2 I 131 ((59049 * i1) + i2) 0) (fun I_48 => (if -2147483648 ≤ i2 + 1 ∧ i2 + 1 ≤ 2147483647 then (kf_263 n dp e 2 I_48 L i1 (i2 + 1) 0) else none))) else none) else none)))) P_) : Ev (fun n => kf_263 n dp e 2 I L i1 i2 i3) P_ := Ev_step (fun n => ke_263_2 n dp e I L i1 i2 i3) h
set_option maxRecDepth 100000 in
theorem ev_263_3 {dp : Nat} {e : EN} {I : JI} {L : JI} {i1 : Int} {i2 : Int} {i3 : Int} {P_ : (Int × JI × JI) → Prop} (h : Ev (fun n => (if (I 105 40) ≤ i1 then (kf_263 n dp e 7 I L 0 0 0) else (kf_263 n dp e 4 I L i1 0 0))) P_) : Ev (fun n => kf_263 n dp e 3 I L i1 i2 i3) P_ := Ev_step (fun n => ke_263_3 n dp e I L i1 i2 i3) h
set_option maxRecDepth 100000 in
theorem ev_263_4 {dp : Nat} {e : EN} {I : JI} {L : JI} {i1 : Int} {i2 : Int} {i3 : Int} {P_ : (Int × JI × JI) → Prop} (h : Ev (fun n => (if (I 105 44) ≤ i2 then (if -2147483648 ≤ i1 + 1 ∧ i1 + 1 ≤ 2147483647 then (kf_263 n dp e 3 I L (i1 + 1) 0 0) else none) else (if (-2147483648 ≤ 59049 * i1 ∧ 59049 * i1 ≤ 2147483647) ∧ (-2147483648 ≤ (59049 * i1) + i2 ∧ (59049 * i1) + i2 ≤ 2147483647) then (if 0 ≤ ((59049 * i1) + i2) ∧ ((59049 * i1) + i2) < 531441 then (if (I 131 ((59049 * i1) + i2)) = 0 then (kf_263 n dp e 6 I L i1 i2 0) else (if 1 ≤ dp then ((kf_265 n (dp - 1) e 0 I L i2 0 0).bind (fun ⟨I0_98, L0_98⟩ => (kf_263 n dp e 5 I0_98 L0_98 i1 i2 0))) else none)) else none) else none))) P_) : Ev (fun n => kf_263 n dp e 4 I L i1 i2 i3) P_ := Ev_step (fun n => ke_263_4 n dp e I L i1 i2 i3) h
set_option maxRecDepth 100000 in
theorem ev_263_6 {dp : Nat} {e : EN} {I : JI} {L : JI} {i1 : Int} {i2 : Int} {i3 : Int} {P_ : (Int × JI × JI) → Prop} (h : Ev (fun n => (if -2147483648 ≤ i2 + 1 ∧ i2 + 1 ≤ 2147483647 then (kf_263 n dp e 4 I L i1 (i2 + 1) 0) else none)) P_) : Ev (fun n => kf_263 n dp e 6 I L i1 i2 i3) P_ := Ev_step (fun n => ke_263_6 n dp e I L i1 i2 i3) h
set_option maxRecDepth 100000 in
theorem ev_263_5 {dp : Nat} {e : EN} {I : JI} {L : JI} {i1 : Int} {i2 : Int} {i3 : Int} {P_ : (Int × JI × JI) → Prop} (h : Ev (fun n => (if 0 ≤ i1 ∧ i1 < 8 then (if 0 ≤ (I 126 i1) ∧ (I 126 i1) < 3 then (if (I 120 (I 126 i1)) ≤ i3 then (kf_263 n dp e 6 I L i1 i2 0) else (if 0 ≤ i1 ∧ i1 < 8 then (if 1 ≤ dp then ((kf_266 n (dp - 1) e 0 I L (I 126 i1) i3 0 0 0).bind (fun ⟨x0_137, I0_137, L0_137⟩ => (if (-2147483648 ≤ i1 + 1 ∧ i1 + 1 ≤ 2147483647) ∧ (-2147483648 ≤ 59049 * (i1 + 1) ∧ 59049 * (i1 + 1) ≤ 2147483647) ∧ (-2147483648 ≤ (59049 * (i1 + 1)) + x0_137 ∧ (59049 * (i1 + 1)) + x0_137 ≤ 2147483647) then (if 0 ≤ ((59049 * (i1 + 1)) + x0_137) ∧ ((59049 * (i1 + 1)) + x0_137) < 531441 then (stI (w2 I0_137 131 ((59049 * (i1 + 1)) + x0_137) 1) (fun I_142 => (if -2147483648 ≤ i3 + 1 ∧ i3 + 1 ≤ 2147483647 then (kf_263 n dp e 5 I_142 L0_137 i1 i2 (i3 + 1)) else none))) else none) else none))) else none) else none)) else none) else none)) P_) : Ev (fun n => kf_263 n dp e 5 I L i1 i2 i3) P_ := Ev_step (fun n => ke_263_5 n dp e I L i1 i2 i3) h
end
/-! PLANS: all states reckoned -/
theorem sm_mo {f : Int → Int} (h : ∀ p, 0 ≤ f p) {n : Nat} : ∀ N : Nat, n ≤ N → sm f n ≤ sm f N
  | 0, h0 => by rw [show n = 0 by omega]; exact Int.le_refl _
  | N + 1, h0 => by
    by_cases c : n = N + 1
    · rw [c]; exact Int.le_refl _
    · have := sm_mo (n := n) h N (by omega)
      have := h N
      rw [sm_s]
      omega
section PM
variable {e : EN} {L : JI}
theorem K264 {dp : Nat} {K : JI} {wn : Int → Int} {x : Int} (hw : ∀ p : Int, 0 ≤ p → p < 10 → K 127 p = wn p ∧ 0 ≤ wn p ∧ wn p ≤ 8) (h5 : sm (fun p => if 0 < wn p then 1 else 0) 10 ≤ 5) : Ev (fun n => kf_264 n dp e 0 K L x) (fun r => r.2 = L ∧ (∀ a i, ¬ (a = 105 ∧ (i = 43 ∨ i = 44)) → ¬ a = 128 → r.1 a i = K a i) ∧ ∃ (m : Nat) (od : Nat → Int), OrM r.1 m od wn ∧ ∀ f : Int → Int, sN (fun k => f (od k)) m = sm (fun p => if 0 < wn p then f p else 0) 10) := by
  have key : ∀ p : Nat, p ≤ 10 → ∀ (K1 : JI) (m : Nat) (od : Nat → Int), (∀ a i, ¬ (a = 105 ∧ (i = 43 ∨ i = 44)) → ¬ a = 128 → K1 a i = K a i) → K1 105 43 = m → (m : Int) = sm (fun p => if 0 < wn p then 1 else 0) p → (∀ k : Nat, k < m → K1 128 k = od k ∧ 0 ≤ od k ∧ od k < 10) → K1 105 44 = prL (fun k => wn (od k) + 1) m → (∀ f : Int → Int, sN (fun k => f (od k)) m = sm (fun p => if 0 < wn p then f p else 0) p) → Ev (fun n => kf_264 n dp e 1 K1 L p) (fun r => r.2 = L ∧ (∀ a i, ¬ (a = 105 ∧ (i = 43 ∨ i = 44)) → ¬ a = 128 → r.1 a i = K a i) ∧ ∃ (m : Nat) (od : Nat → Int), OrM r.1 m od wn ∧ ∀ f : Int → Int, sN (fun k => f (od k)) m = sm (fun p => if 0 < wn p then f p else 0) 10) := by
    refine dec_ind 10 (fun p hp ih => ?_)
    intro K1 m od f1 f2 f3 f4 f5 f6
    have mo : ∀ {n : Nat} (N : Nat), n ≤ N → sm (fun p => if 0 < wn p then 1 else 0) n ≤ sm (fun p => if 0 < wn p then 1 else 0) N := fun {n} N h => sm_mo (f := fun p => if 0 < wn p then 1 else 0) (fun p => by split <;> omega) N h
    have m5 : m ≤ 5 := by
      have := mo (n := p) 10 hp
      omega
    refine ev_264_1 ?_
    by_cases c : p < 10
    · have ih := ih c
      obtain ⟨w1, w2', w3⟩ := hw p (by omega) (by omega)
      have e7 : K1 127 p = wn p := by rw [f1 _ _ (by omega) (by omega)]; exact w1
      refine Ev_f (by omega) (Ev_t (by omega) (Ev_c (fun z => ?_) (fun z => ?_)))
      · refine ev_264_2 ?_
        refine Ev_t (by omega) (ih K1 m od f1 f2 ?_ f4 f5 (fun f => ?_))
        · rw [sm_s, if_neg (by omega)]; omega
        · rw [sm_s, if_neg (by omega), f6 f]; omega
      · have m4 : m < 5 := by
          have := mo (n := p + 1) 10 (by omega)
          rw [sm_s, if_pos (by omega)] at this
          omega
        have pb := prL_b (B := fun k => wn (od k) + 1) m (fun k hk => by have q := f4 k hk; have := hw (od k) q.2.1 q.2.2; omega)
        have p9 := pw9 m5
        have pm := mulb (a := prL (fun k => wn (od k) + 1) m) (b := wn p + 1) (A := 59049) (B := 9) (by omega) (by omega)
        have nn : ∀ a i, ¬ (a = 105 ∧ (i = 43 ∨ i = 44)) → ¬ a = 128 → ∀ v1 v2 v3 : Int, w2 (w2 (w2 K1 128 m v1) 105 43 v2) 105 44 v3 a i = K1 a i := fun a i h1 h2 v1 v2 v3 => by rw [w2_n (by omega), w2_n (by omega), w2_n (by omega)]
        rw [f2]
        refine Ev_t (by omega) (Ev_st ?_)
        rw [w2_n (by omega), f2]
        refine Ev_t (by omega) (Ev_st (Ev_t (by omega) ?_))
        rw [w2_n (f := w2 K1 128 m p) (b := 127) (by omega), w2_n (f := K1) (b := 127) (by omega), e7, w2_n (f := w2 K1 128 m p) (b := 105) (by omega), w2_n (f := K1) (b := 105) (by omega), f5]
        refine Ev_t (by omega) (Ev_st ?_)
        refine ev_264_2 ?_
        refine Ev_t (by omega) (ih _ (m + 1) (fun k => if k = m then p else od k) (fun a i h1 h2 => (nn a i h1 h2 _ _ _).trans (f1 a i h1 h2)) ?_ ?_ (fun k hk => ?_) ?_ (fun f => ?_))
        · rw [w2_n (by omega), w2_ap, if_pos ⟨rfl, rfl⟩]; omega
        · rw [sm_s, if_pos (by omega)]; omega
        · rw [w2_n (by omega), w2_n (by omega)]
          by_cases q : k = m
          · subst q
            rw [w2_ap, if_pos ⟨rfl, rfl⟩, if_pos rfl]
            omega
          · rw [w2_n (by omega), if_neg q]
            exact f4 k (by omega)
        · rw [w2_ap, if_pos ⟨rfl, rfl⟩, prL]
          rw [if_pos rfl]
          congr 1
          have : ∀ j, j ≤ m → prL (fun k => wn (od k) + 1) j = prL (fun k => wn (if k = m then (p : Int) else od k) + 1) j := by
            intro j
            induction j with
            | zero => intro _; rfl
            | succ j ihj => intro hj; rw [prL, prL, ihj (by omega), if_neg (by omega)]
          exact this m (Nat.le_refl _)
        · rw [sN, sm_s, if_pos rfl, if_pos (show 0 < wn p by omega), ← f6 f]
          congr 1
          exact sN_c m (fun k hk => by rw [if_neg (by omega)])
    · have : p = 10 := by omega
      subst this
      exact Ev_t (by omega) (Ev_ret ⟨rfl, f1, m, od, ⟨f2, m5, f4, fun p a b => ⟨(f1 _ _ (by omega) (by omega)).trans (hw p a b).1, (hw p a b).2⟩, f5⟩, f6⟩)
  refine ev_264_0 ?_
  refine Ev_st (Ev_st (key 0 (by omega) _ 0 (fun _ => 0) (fun a i h1 h2 => ?_) ?_ rfl (fun k hk => by omega) ?_ (fun f => rfl)))
  · rw [w2_n (by omega), w2_n (by omega)]
  · rw [w2_n (by omega), w2_ap, if_pos ⟨rfl, rfl⟩]; rfl
  · rw [w2_ap, if_pos ⟨rfl, rfl⟩]; rfl
variable {m : Nat} {od : Nat → Int} {wn : Int → Int}
/-- who is there has all there behind it -/
def ClM (K0 K : JI) (m : Nat) (od : Nat → Int) (wn : Int → Int) (i : Nat) (S : Int) : Prop := ∀ s : Int, 0 ≤ s → s < S → ¬ K 131 (59049 * i + s) = 0 → ∀ k : Nat, k < (K0 120 (K0 126 i)).toNat → ¬ K 131 (59049 * ((i : Int) + 1) + bhM K0 m od wn i k s) = 0
theorem K263a {dp N : Nat} {K0 K : JI} {Q : Int × JI × JI → Prop} (hO : OrM K0 m od wn) (hP : PlH K0 N) (hF : FrPl K0 K) (g : ∀ K2 : JI, FrPl K0 K2 → ¬ K2 131 0 = 0 → Ev (fun n => kf_263 n dp e 3 K2 L 0 0 0) Q) : Ev (fun n => kf_263 n dp e 1 K L 0 0 0) Q := by
  have pp := OrM_p hO
  have N8 := hP.1
  obtain ⟨S, hS⟩ : ∃ S : Nat, (S : Int) = prL (fun k => wn (od k) + 1) m := ⟨(prL (fun k => wn (od k) + 1) m).toNat, by omega⟩
  have key : ∀ i : Nat, i ≤ N + 1 → ∀ K1 : JI, FrPl K0 K1 → (0 < i → ¬ K1 131 0 = 0) → Ev (fun n => kf_263 n dp e 1 K1 L i 0 0) Q := by
    refine dec_ind (N + 1) (fun i hi ih => ?_)
    intro K1 f1 f2
    refine ev_263_1 ?_
    have e40 : K1 105 40 = N := by rw [f1 _ _ (by omega) (by omega)]; exact hP.2.1
    by_cases c : i < N + 1
    · have ih := ih c
      refine Ev_f (by omega) ?_
      have inn : ∀ s : Nat, s ≤ S → ∀ K2 : JI, FrPl K0 K2 → ((0 < i ∨ 0 < s) → ¬ K2 131 0 = 0) → Ev (fun n => kf_263 n dp e 2 K2 L i s 0) Q := by
        refine dec_ind S (fun s hs is => ?_)
        intro K2 h1 h2
        have e44 : K2 105 44 = S := by rw [h1 _ _ (by omega) (by omega), hO.2.2.2.2, hS]
        refine ev_263_2 ?_
        by_cases d : s < S
        · have is := is d
          have fr : ∀ v : Int, FrPl K0 (w2 K2 131 (59049 * i + s) v) := fun v a j z1 z2 => by rw [w2_n (by omega)]; exact h1 a j z1 z2
          have lo : 0 < i ∨ 0 < s → ∀ v : Int, ¬ w2 K2 131 (59049 * i + s) v 131 0 = 0 := fun z v => by rw [w2_n (by omega)]; exact h2 z
          refine Ev_f (by omega) (Ev_c (fun zi => Ev_c (fun zs => ?_) (fun zs => ?_)) (fun zi => ?_))
          · refine Ev_t (by omega) (Ev_t (by omega) (Ev_st (Ev_t (by omega) (is _ (fr 1) (fun _ => ?_)))))
            rw [w2_ap, if_pos (by omega)]
            decide
          · exact Ev_t (by omega) (Ev_t (by omega) (Ev_st (Ev_t (by omega) (is _ (fr 0) (fun _ => lo (by omega) 0)))))
          · exact Ev_t (by omega) (Ev_t (by omega) (Ev_st (Ev_t (by omega) (is _ (fr 0) (fun _ => lo (by omega) 0)))))
        · exact Ev_t (by omega) (Ev_t (by omega) (ih K2 h1 (fun _ => h2 (by omega))))
      exact inn 0 (by omega) K1 f1 (fun z => f2 (by omega))
    · exact Ev_t (by omega) (g K1 f1 (f2 (by omega)))
  exact key 0 (by omega) K hF (fun z => by omega)
theorem K263b {dp N : Nat} {K0 K : JI} {Q : Int × JI × JI → Prop} (hd : 3 ≤ dp) (hO : OrM K0 m od wn) (hP : PlH K0 N) (hF : FrPl K0 K) (h0 : ¬ K 131 0 = 0) (g : ∀ K2 : JI, FrPl K0 K2 → ¬ K2 131 0 = 0 → (∀ i : Nat, i < N → ClM K0 K2 m od wn i (prL (fun k => wn (od k) + 1) m)) → Ev (fun n => kf_263 n dp e 7 K2 L 0 0 0) Q) : Ev (fun n => kf_263 n dp e 3 K L 0 0 0) Q := by
  have pp := OrM_p hO
  have N8 := hP.1
  obtain ⟨S, hS⟩ : ∃ S : Nat, (S : Int) = prL (fun k => wn (od k) + 1) m := ⟨(prL (fun k => wn (od k) + 1) m).toNat, by omega⟩
  rw [← hS] at g
  have key : ∀ i : Nat, i ≤ N → ∀ K1 : JI, FrPl K0 K1 → ¬ K1 131 0 = 0 → (∀ j : Nat, j < i → ClM K0 K1 m od wn j S) → Ev (fun n => kf_263 n dp e 3 K1 L i 0 0) Q := by
    refine dec_ind N (fun i hi ih => ?_)
    intro K1 f1 f2 f3
    refine ev_263_3 ?_
    have e40 : K1 105 40 = N := by rw [f1 _ _ (by omega) (by omega)]; exact hP.2.1
    by_cases c : i < N
    · have ih := ih c
      obtain ⟨q1, q2, q3⟩ := hP.2.2.1 i c
      refine Ev_f (by omega) ?_
      have inn : ∀ s : Nat, s ≤ S → ∀ K2 : JI, FrPl K0 K2 → ¬ K2 131 0 = 0 → (∀ j : Nat, j < i → ClM K0 K2 m od wn j S) → ClM K0 K2 m od wn i s → Ev (fun n => kf_263 n dp e 4 K2 L i s 0) Q := by
        refine dec_ind S (fun s hs is => ?_)
        intro K2 h1 h2 h3 h4
        have e44 : K2 105 44 = S := by rw [h1 _ _ (by omega) (by omega), hO.2.2.2.2, hS]
        refine ev_263_4 ?_
        by_cases d : s < S
        · have is := is d
          refine Ev_f (by omega) (Ev_t (by omega) (Ev_t (by omega) (Ev_c (fun z => ?_) (fun z => ?_))))
          · refine ev_263_6 ?_
            refine Ev_t (by omega) (is K2 h1 h2 h3 (fun t a b => ?_))
            by_cases x : t = s
            · subst x; intro y; exact absurd z y
            · exact h4 t a (by omega)
          · refine Ev_t (by omega) (Ev_bind (K265 (s := (s : Int)) (OrM_f h1 hO) (by omega)) ?_)
            rintro ⟨K3, L3⟩ ⟨r1, r2, r3⟩
            dsimp only at r1 r2 r3 ⊢
            subst r1
            have ks : ∀ k : Nat, k ≤ (K0 120 (K0 126 i)).toNat → ∀ K4 : JI, FrPl K0 K4 → (∀ j : Nat, j < m → K4 133 j = dgS (fun k => wn (od k) + 1) s j) → ¬ K4 131 0 = 0 → (∀ j : Nat, j < i → ClM K0 K4 m od wn j S) → ClM K0 K4 m od wn i s → ¬ K4 131 (59049 * i + s) = 0 → (∀ k' : Nat, k' < k → ¬ K4 131 (59049 * ((i : Int) + 1) + bhM K0 m od wn i k' s) = 0) → Ev (fun n => kf_263 n dp e 5 K4 L3 i s k) Q := by
              refine dec_ind _ (fun k hk ik => ?_)
              intro K4 g1 g2 g3 g4 g5 g6 g7
              have e126 : K4 126 i = K0 126 i := g1 _ _ (by omega) (by omega)
              have e120 : K4 120 (K0 126 i) = K0 120 (K0 126 i) := g1 _ _ (by omega) (by omega)
              refine ev_263_5 ?_
              simp only [e126, e120]
              refine Ev_t (by omega) (Ev_t q1 ?_)
              by_cases y : k < (K0 120 (K0 126 i)).toNat
              · have ik := ik y
                have bb := bhM_b (s := (s : Int)) hO hP c y
                refine Ev_f (by omega) (Ev_t (by omega) (Ev_t (by omega) (Ev_call (K266s g1 hO hP c y g2) ?_)))
                dsimp only
                refine Ev_t (by omega) (Ev_t (by omega) (Ev_st (Ev_t (by omega) ?_)))
                have up : ∀ j, ¬ K4 131 j = 0 → ¬ w2 K4 131 (59049 * ((i : Int) + 1) + bhM K0 m od wn i k s) 1 131 j = 0 := fun j hj => by
                  rw [w2_ap]; split
                  · decide
                  · exact hj
                have dn : ∀ (j : Nat) (t : Int), j ≤ i → 0 ≤ t → t < S → w2 K4 131 (59049 * ((i : Int) + 1) + bhM K0 m od wn i k s) 1 131 (59049 * j + t) = K4 131 (59049 * j + t) := fun j t a b z => by rw [w2_n (by omega)]
                refine ik _ (fun a j z1 z2 => by rw [w2_n (by omega)]; exact g1 a j z1 z2) (fun j hj => by rw [w2_n (by omega)]; exact g2 j hj) (up _ g3) (fun j hj t a b z k' hk' => ?_) (fun t a b z k' hk' => ?_) (up _ g6) (fun k' hk' => ?_)
                · rw [dn j t (by omega) a b] at z
                  exact up _ (g4 j hj t a b z k' hk')
                · rw [dn i t (by omega) a (by omega)] at z
                  exact up _ (g5 t a b z k' hk')
                · by_cases x : k' = k
                  · subst x; rw [w2_ap, if_pos ⟨rfl, rfl⟩]; decide
                  · exact up _ (g7 k' (by omega))
              · refine Ev_t (by omega) ?_
                refine ev_263_6 ?_
                refine Ev_t (by omega) (is K4 g1 g3 g4 (fun t a b z k' hk' => ?_))
                by_cases x : t = s
                · subst x; exact g7 k' (by omega)
                · exact g5 t a (by omega) z k' hk'
            refine ks 0 (by omega) K3 (fun a j z1 z2 => (r2 a j z2).trans (h1 a j z1 z2)) r3 (by rw [r2 _ _ (by omega)]; exact h2) (fun j hj t a b z k' hk' => ?_) (fun t a b z k' hk' => ?_) (by rw [r2 _ _ (by omega)]; exact z) (fun k' hk' => by omega)
            · rw [r2 _ _ (by omega)] at z ⊢; exact h3 j hj t a b z k' hk'
            · rw [r2 _ _ (by omega)] at z ⊢; exact h4 t a b z k' hk'
        · have : s = S := by omega
          subst this
          refine Ev_t (by omega) (Ev_t (by omega) (ih K2 h1 h2 (fun j hj => ?_)))
          by_cases x : j = i
          · subst x; exact h4
          · exact h3 j (by omega)
      exact inn 0 (by omega) K1 f1 f2 f3 (fun s a b => by omega)
    · have : i = N := by omega
      subst this
      exact Ev_t (by omega) (g K1 f1 f2 f3)
  exact key 0 (by omega) K hF h0 (fun j hj => by omega)
end PM
