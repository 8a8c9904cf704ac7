section
set_option maxRecDepth 100000 in
theorem ev_263_7 {dp : Nat} {e : EN} {I : JI} {L : JI} {i1 : Int} {i2 : Int} {i3 : Int} {P_ : (Int × JI × JI) → Prop} (h : Ev (fun n => (if (I 105 44) ≤ i1 then (if -2147483648 ≤ (I 105 40) - 1 ∧ (I 105 40) - 1 ≤ 2147483647 then (stI ((I 105 40) - 1) (fun v_282 => (kf_263 n dp e 9 I L v_282 0 0))) else none) else (if 1 ≤ dp then ((kf_265 n (dp - 1) e 0 I L i1 0 0).bind (fun ⟨I0_173, L0_173⟩ => (kf_263 n dp e 8 I0_173 L0_173 i1 0 0))) else none))) P_) : Ev (fun n => kf_263 n dp e 7 I L i1 i2 i3) P_ := Ev_step (fun n => ke_263_7 n dp e I L i1 i2 i3) h
set_option maxRecDepth 100000 in
theorem ev_263_8 {dp : Nat} {e : EN} {I : JI} {L : JI} {i1 : Int} {i2 : Int} {i3 : Int} {P_ : (Int × JI × JI) → Prop} (h : Ev (fun n => (if (I 105 43) ≤ i3 then (if (-2147483648 ≤ 59049 * (I 105 40) ∧ 59049 * (I 105 40) ≤ 2147483647) ∧ (-2147483648 ≤ (59049 * (I 105 40)) + i1 ∧ (59049 * (I 105 40)) + i1 ≤ 2147483647) then (if 0 ≤ ((59049 * (I 105 40)) + i1) ∧ ((59049 * (I 105 40)) + i1) < 531441 then (if -2147483648 ≤ (I 105 48) * i2 ∧ (I 105 48) * i2 ≤ 2147483647 then (stI (w2 I 129 ((59049 * (I 105 40)) + i1) ((I 105 48) * i2)) (fun I_253 => (if (-2147483648 ≤ 59049 * (I_253 105 40) ∧ 59049 * (I_253 105 40) ≤ 2147483647) ∧ (-2147483648 ≤ (59049 * (I_253 105 40)) + i1 ∧ (59049 * (I_253 105 40)) + i1 ≤ 2147483647) then (if 0 ≤ ((59049 * (I_253 105 40)) + i1) ∧ ((59049 * (I_253 105 40)) + i1) < 531441 then (stI (w2 I_253 130 ((59049 * (I_253 105 40)) + i1) 1) (fun I_269 => (if -2147483648 ≤ i1 + 1 ∧ i1 + 1 ≤ 2147483647 then (kf_263 n dp e 7 I_269 L (i1 + 1) 0 0) else none))) else none) else none))) else none) else none) else none) else (if 0 ≤ i3 ∧ i3 < 5 then (if 0 ≤ i3 ∧ i3 < 5 then (if -2147483648 ≤ 40 + (I 128 i3) ∧ 40 + (I 128 i3) ≤ 2147483647 then (if 0 ≤ (40 + (I 128 i3)) ∧ (40 + (I 128 i3)) < 1570 then (if 0 ≤ i3 ∧ i3 < 5 then (if -2147483648 ≤ 50 + (I 128 i3) ∧ 50 + (I 128 i3) ≤ 2147483647 then (if 0 ≤ (50 + (I 128 i3)) ∧ (50 + (I 128 i3)) < 1570 then (if (-2147483648 ≤ (I 107 (40 + (I 128 i3))) - (I 107 (50 + (I 128 i3))) ∧ (I 107 (40 + (I 128 i3))) - (I 107 (50 + (I 128 i3))) ≤ 2147483647) ∧ (-2147483648 ≤ (I 133 i3) * ((I 107 (40 + (I 128 i3))) - (I 107 (50 + (I 128 i3)))) ∧ (I 133 i3) * ((I 107 (40 + (I 128 i3))) - (I 107 (50 + (I 128 i3)))) ≤ 2147483647) ∧ (-2147483648 ≤ i2 + ((I 133 i3) * ((I 107 (40 + (I 128 i3))) - (I 107 (50 + (I 128 i3))))) ∧ i2 + ((I 133 i3) * ((I 107 (40 + (I 128 i3))) - (I 107 (50 + (I 128 i3))))) ≤ 2147483647) then (stI (i2 + ((I 133 i3) * ((I 107 (40 + (I 128 i3))) - (I 107 (50 + (I 128 i3)))))) (fun v_226 => (if -2147483648 ≤ i3 + 1 ∧ i3 + 1 ≤ 2147483647 then (kf_263 n dp e 8 I L i1 v_226 (i3 + 1)) else none))) else none) else none) else none) else none) else none) else none) else none) else none))) P_) : Ev (fun n => kf_263 n dp e 8 I L i1 i2 i3) P_ := Ev_step (fun n => ke_263_8 n dp e I L i1 i2 i3) h
set_option maxRecDepth 100000 in
theorem ev_263_9 {dp : Nat} {e : EN} {I : JI} {L : JI} {i1 : Int} {i2 : Int} {i3 : Int} {P_ : (Int × JI × JI) → Prop} (h : Ev (fun n => (if i1 < 0 then (some (((I 129 0) : Int), I, L)) else (kf_263 n dp e 10 I L i1 0 0))) P_) : Ev (fun n => kf_263 n dp e 9 I L i1 i2 i3) P_ := Ev_step (fun n => ke_263_9 n dp e I L i1 i2 i3) h
set_option maxRecDepth 100000 in
theorem ev_263_10 {dp : Nat} {e : EN} {I : JI} {L : JI} {i1 : Int} {i2 : Int} {i3 : Int} {P_ : (Int × JI × JI) → Prop} (h : Ev (fun n => (if (I 105 44) ≤ i2 then (if -2147483648 ≤ i1 + (-1) ∧ i1 + (-1) ≤ 2147483647 then (kf_263 n dp e 9 I L (i1 + (-1)) 0 0) else none) else (if (-2147483648 ≤ 59049 * i1 ∧ 59049 * i1 ≤ 2147483647) ∧ (-2147483648 ≤ (59049 * i1) + i2 ∧ (59049 * i1) + i2 ≤ 2147483647) then (if 0 ≤ ((59049 * i1) + i2) ∧ ((59049 * i1) + i2) < 531441 then (if (I 131 ((59049 * i1) + i2)) = 0 then (kf_263 n dp e 11 I L i1 i2 0) else (if 1 ≤ dp then ((kf_267 n (dp - 1) e 0 I L i1 i2 0 0 0 0 0).bind (fun ⟨I0_315, L0_315⟩ => (kf_263 n dp e 11 I0_315 L0_315 i1 i2 0))) else none)) else none) else none))) P_) : Ev (fun n => kf_263 n dp e 10 I L i1 i2 i3) P_ := Ev_step (fun n => ke_263_10 n dp e I L i1 i2 i3) h
set_option maxRecDepth 100000 in
theorem ev_263_11 {dp : Nat} {e : EN} {I : JI} {L : JI} {i1 : Int} {i2 : Int} {i3 : Int} {P_ : (Int × JI × JI) → Prop} (h : Ev (fun n => (if -2147483648 ≤ i2 + 1 ∧ i2 + 1 ≤ 2147483647 then (kf_263 n dp e 10 I L i1 (i2 + 1) 0) else none)) P_) : Ev (fun n => kf_263 n dp e 11 I L i1 i2 i3) P_ := Ev_step (fun n => ke_263_11 n dp e I L i1 i2 i3) h
set_option maxRecDepth 100000 in
theorem ev_263_0 {dp : Nat} {e : EN} {I : JI} {L : JI} {i1 : Int} {i2 : Int} {i3 : Int} {P_ : (Int × JI × JI) → Prop} (h : Ev (fun n => (if 1 ≤ dp then ((kf_264 n (dp - 1) e 0 I L 0).bind (fun ⟨I0_1, L0_1⟩ => (kf_263 n dp e 1 I0_1 L0_1 0 0 0))) else none)) P_) : Ev (fun n => kf_263 n dp e 0 I L i1 i2 i3) P_ := Ev_step (fun n => ke_263_0 n dp e I L i1 i2 i3) h
end
/-! PLANS: all that the reference reckons -/
section PM
variable {e : EN} {L : JI} {m : Nat} {od : Nat → Int} {wn : Int → Int}
theorem RkO_c {K0 K K' : JI} {N i : Nat} {s : Int} (h9 : K' 129 (59049 * i + s) = K 129 (59049 * i + s)) (h0 : K' 130 (59049 * i + s) = K 130 (59049 * i + s)) (h : RkO K0 K m od wn N i s) : RkO K0 K' m od wn N i s := by
  unfold RkO at *
  rw [h9, h0]
  exact h
theorem bn_b {K : JI} {N : Nat} (hP : PlH K N) {p : Int} (hp : 0 ≤ p ∧ p < 10) : -999 ≤ bnM K p ∧ bnM K p ≤ 999 := by
  have a := hP.2.2.2.2 (40 + p) (by omega) (by omega)
  have b := hP.2.2.2.2 (50 + p) (by omega) (by omega)
  unfold bnM
  omega
theorem dgn_b {K : JI} {N : Nat} {s : Int} {k : Nat} (hO : OrM K m od wn) (hP : PlH K N) (hk : k < m) : -7992 ≤ dgS (fun k => wn (od k) + 1) s k * bnM K (od k) ∧ dgS (fun k => wn (od k) + 1) s k * bnM K (od k) ≤ 7992 := by
  have z := hO.2.2.1 k hk
  have y := hO.2.2.2.1 (od k) z.2.1 z.2.2
  have w := dg_b (B := fun k => wn (od k) + 1) (s := s) (k := k) (by omega)
  have b := bn_b hP z.2
  have p1 := Int.mul_le_mul_of_nonneg_left b.2 w.1
  have p2 := Int.mul_le_mul_of_nonneg_left b.1 w.1
  omega
theorem K263c {dp N : Nat} {K0 K : JI} {Q : Int × JI × JI → Prop} (hd : 3 ≤ dp) (hO : OrM K0 m od wn) (hP : PlH K0 N) (hF : FrPl K0 K) (g : ∀ K2 : JI, FrPl K0 K2 → (∀ j, K2 131 j = K 131 j) → (∀ s : Int, 0 ≤ s → s < prL (fun k => wn (od k) + 1) m → RkO K0 K2 m od wn N N s) → Ev (fun n => kf_263 n dp e 9 K2 L ((N : Int) - 1) 0 0) Q) : Ev (fun n => kf_263 n dp e 7 K L 0 0 0) Q := by
  have pp := OrM_p hO
  have N8 := hP.1
  obtain ⟨S, hS⟩ : ∃ S : Nat, (S : Int) = prL (fun k => wn (od k) + 1) m := ⟨(prL (fun k => wn (od k) + 1) m).toNat, by omega⟩
  rw [← hS] at g
  have key : ∀ s : Nat, s ≤ S → ∀ K1 : JI, FrPl K0 K1 → (∀ j, K1 131 j = K 131 j) → (∀ t : Int, 0 ≤ t → t < s → RkO K0 K1 m od wn N N t) → Ev (fun n => kf_263 n dp e 7 K1 L s 0 0) Q := by
    refine dec_ind S (fun s hs ih => ?_)
    intro K1 f1 f2 f3
    have e40 : K1 105 40 = N := by rw [f1 _ _ (by omega) (by omega)]; exact hP.2.1
    have e44 : K1 105 44 = S := by rw [f1 _ _ (by omega) (by omega), hO.2.2.2.2, hS]
    refine ev_263_7 ?_
    by_cases c : s < S
    · have ih := ih c
      refine Ev_f (by omega) (Ev_t (by omega) (Ev_bind (K265 (s := (s : Int)) (OrM_f f1 hO) (by omega)) ?_))
      rintro ⟨K3, L3⟩ ⟨r1, r2, r3⟩
      dsimp only at r1 r2 r3 ⊢
      subst r1
      have F3 : FrPl K0 K3 := fun a j z1 z2 => (r2 a j z2).trans (f1 a j z1 z2)
      have e43 : K3 105 43 = m := by rw [F3 _ _ (by omega) (by omega)]; exact hO.1
      have e40' : K3 105 40 = N := by rw [F3 _ _ (by omega) (by omega)]; exact hP.2.1
      have ks : ∀ k : Nat, k ≤ m → Ev (fun n => kf_263 n dp e 8 K3 L3 s (sN (fun k => dgS (fun k => wn (od k) + 1) s k * bnM K0 (od k)) k) k) Q := by
        refine dec_ind m (fun k hk ik => ?_)
        have sb := sN_b (f := fun k => dgS (fun k => wn (od k) + 1) s k * bnM K0 (od k)) (A := 7992) (by decide) k (fun j hj => dgn_b hO hP (by omega))
        have m5 := hO.2.1
        refine ev_263_8 ?_
        by_cases d : k < m
        · have ik := ik d
          obtain ⟨d1, d2, d3⟩ := hO.2.2.1 k d
          have db := dgn_b (s := (s : Int)) hO hP d
          have e28 : K3 128 k = od k := by rw [F3 _ _ (by omega) (by omega)]; exact d1
          have bb := bn_b hP ⟨d2, d3⟩
          have ebn : K3 107 (40 + od k) - K3 107 (50 + od k) = bnM K0 (od k) := by rw [F3 _ _ (by omega) (by omega), F3 _ _ (by omega) (by omega)]; rfl
          simp only [e28, r3 k d, ebn]
          rw [sN] at ik
          refine Ev_f (by omega) (Ev_t (by omega) (Ev_t (by omega) (Ev_t (by omega) (Ev_t (by omega) (Ev_t (by omega) (Ev_t (by omega) (Ev_t (by omega) (Ev_t (by omega) (Ev_st (Ev_t (by omega) ik))))))))))
        · have : k = m := by omega
          subst this
          have e48 : K3 105 48 = K0 105 48 := F3 _ _ (by omega) (by omega)
          have t16 := hP.2.2.2.1
          generalize hsm : sN (fun k => dgS (fun k => wn (od k) + 1) s k * bnM K0 (od k)) k = v at sb
          have tv : -(16 * 7992 * 5) ≤ K0 105 48 * v ∧ K0 105 48 * v ≤ 16 * 7992 * 5 := by
            rcases t16 with t | t <;> rw [t] <;> omega
          rw [e40', e48]
          refine Ev_t (by omega) (Ev_t (by omega) (Ev_t (by omega) (Ev_t (by omega) (Ev_st ?_))))
          rw [w2_n (f := K3) (by omega), e40']
          refine Ev_t (by omega) (Ev_t (by omega) (Ev_st (Ev_t (by omega) (ih _ (fun a j z1 z2 => ?_) (fun j => ?_) (fun t a b => ?_)))))
          · rw [w2_n (by omega), w2_n (by omega)]; exact F3 a j z1 z2
          · rw [w2_n (by omega), w2_n (by omega), r2 _ _ (by omega)]; exact f2 j
          · by_cases x : t = s
            · subst x
              unfold RkO
              rw [w2_n (by omega), w2_ap, if_pos ⟨rfl, rfl⟩, w2_ap, if_pos ⟨rfl, rfl⟩, show N - N = 0 by omega, osL, Sq]
              have ev : vlM K0 k od wn (s : Int) (0, fun _ => 0) = K0 105 48 * v := by
                unfold vlM
                rw [← hsm]
                show 0 + _ = _
                rw [Int.zero_add]
                congr 1
                refine sN_c k (fun j hj => ?_)
                have z := hO.2.2.1 j hj
                have y := hO.2.2.2.1 (od j) z.2.1 z.2.2
                have w := dg_b (B := fun k => wn (od k) + 1) (s := (s : Int)) (k := j) (by omega)
                congr 1
                dsimp only
                omega
              refine ⟨⟨fun x hx _ => ?_, ⟨_, List.mem_singleton.2 rfl, trivial, ev⟩, by decide, ?_⟩, by decide, by omega⟩
              · rw [List.mem_singleton.1 hx, ev]; exact Int.le_refl _
              · rw [cP_t ⟨trivial, ev⟩]; rfl
            · refine RkO_c ?_ ?_ (f3 t a (by omega))
              · rw [w2_n (by omega), w2_n (by omega)]; exact r2 _ _ (by omega)
              · rw [w2_n (by omega), w2_n (by omega)]; exact r2 _ _ (by omega)
      exact ks 0 (by omega)
    · have : s = S := by omega
      subst this
      rw [e40]
      exact Ev_t (by omega) (Ev_t (by omega) (Ev_st (g K1 f1 f2 f3)))
  exact key 0 (by omega) K hF (fun _ => rfl) (fun t a b => by omega)
theorem K263d {dp N : Nat} {K0 K : JI} {Q : Int × JI × JI → Prop} (hd : 3 ≤ dp) (hO : OrM K0 m od wn) (hP : PlH K0 N) (hF : FrPl K0 K) (hC : ∀ i : Nat, i < N → ClM K0 K m od wn i (prL (fun k => wn (od k) + 1) m)) (hN : ∀ s : Int, 0 ≤ s → s < prL (fun k => wn (od k) + 1) m → RkO K0 K m od wn N N s) (g : ∀ K2 : JI, FrPl K0 K2 → (∀ j, K2 131 j = K 131 j) → (∀ i : Nat, i ≤ N → ∀ s : Int, 0 ≤ s → s < prL (fun k => wn (od k) + 1) m → ¬ K 131 (59049 * i + s) = 0 → RkO K0 K2 m od wn N i s) → Q (K2 129 0, K2, L)) : Ev (fun n => kf_263 n dp e 9 K L ((N : Int) - 1) 0 0) Q := by
  have pp := OrM_p hO
  have N8 := hP.1
  obtain ⟨S, hS⟩ : ∃ S : Nat, (S : Int) = prL (fun k => wn (od k) + 1) m := ⟨(prL (fun k => wn (od k) + 1) m).toNat, by omega⟩
  rw [← hS] at g hN hC
  have key : ∀ j i : Nat, i + j = N → ∀ K1 : JI, FrPl K0 K1 → (∀ j, K1 131 j = K 131 j) → (∀ i' : Nat, i ≤ i' → i' ≤ N → ∀ s : Int, 0 ≤ s → s < S → (i' < N → ¬ K 131 (59049 * i' + s) = 0) → RkO K0 K1 m od wn N i' s) → Ev (fun n => kf_263 n dp e 9 K1 L ((i : Int) - 1) 0 0) Q := by
    intro j i
    induction i generalizing j with
    | zero =>
      intro hj K1 f1 f2 f3
      refine ev_263_9 ?_
      exact Ev_t (by omega) (Ev_ret (g K1 f1 f2 (fun i hi s a b z => f3 i (by omega) hi s a b (fun _ => z))))
    | succ i ih =>
      intro hj K1 f1 f2 f3
      refine ev_263_9 ?_
      rw [show ((i + 1 : Nat) : Int) - 1 = i by omega]
      refine Ev_f (by omega) ?_
      have inn : ∀ s : Nat, s ≤ S → ∀ K2 : JI, FrPl K0 K2 → (∀ j, K2 131 j = K 131 j) → (∀ i' : Nat, i + 1 ≤ i' → i' ≤ N → ∀ s : Int, 0 ≤ s → s < S → (i' < N → ¬ K 131 (59049 * i' + s) = 0) → RkO K0 K2 m od wn N i' s) → (∀ t : Int, 0 ≤ t → t < s → ¬ K 131 (59049 * i + t) = 0 → RkO K0 K2 m od wn N i t) → Ev (fun n => kf_263 n dp e 10 K2 L i s 0) Q := by
        refine dec_ind S (fun s hs is => ?_)
        intro K2 h1 h2 h3 h4
        have e44 : K2 105 44 = S := by rw [h1 _ _ (by omega) (by omega), hO.2.2.2.2, hS]
        refine ev_263_10 ?_
        by_cases d : s < S
        · have is := is d
          refine Ev_f (by omega) (Ev_t (by omega) (Ev_t (by omega) (Ev_c (fun z => ?_) (fun z => ?_))))
          · refine ev_263_11 ?_
            refine Ev_t (by omega) (is K2 h1 h2 h3 (fun t a b y => ?_))
            by_cases x : t = s
            · subst x; rw [h2] at z; exact absurd z y
            · exact h4 t a (by omega) y
          · rw [h2] at z
            refine Ev_t (by omega) (Ev_bind (K267 (i := i) (s := (s : Int)) (by omega) h1 hO hP (by omega) (by omega) (fun k hk => ?_)) ?_)
            · have bb := bhM_b (s := (s : Int)) hO hP (show i < N by omega) hk
              refine h3 (i + 1) (by omega) (by omega) _ bb.1 (by omega) (fun _ => ?_)
              have cl := hC i (by omega) s (by omega) (by omega) z k hk
              rw [show 59049 * ((i + 1 : Nat) : Int) = 59049 * ((i : Int) + 1) by omega]
              exact cl
            · rintro ⟨K3, L3⟩ ⟨r1, r2, r3⟩
              dsimp only at r1 r2 r3 ⊢
              subst r1
              refine ev_263_11 ?_
              refine Ev_t (by omega) (is K3 (fun a j z1 z2 => (r2 a j z2 (by omega)).trans (h1 a j z1 z2)) (fun j => (r2 _ _ (by omega) (by omega)).trans (h2 j)) (fun i' a b t c1 c2 y => ?_) (fun t a b y => ?_))
              · exact RkO_c (r2 _ _ (by omega) (by omega)) (r2 _ _ (by omega) (by omega)) (h3 i' a b t c1 c2 y)
              · by_cases x : t = s
                · subst x; exact r3
                · exact RkO_c (r2 _ _ (by omega) (by omega)) (r2 _ _ (by omega) (by omega)) (h4 t a (by omega) y)
        · have : s = S := by omega
          subst this
          refine Ev_t (by omega) (Ev_t (by omega) (ih (j + 1) (by omega) K2 h1 h2 (fun i' a b t c1 c2 y => ?_)))
          by_cases x : i' = i
          · subst x; exact h4 t c1 c2 (y (by omega))
          · exact h3 i' (by omega) b t c1 c2 y
      exact inn 0 (by omega) K1 f1 f2 f3 (fun t a b => by omega)
  exact key 0 N (by omega) K hF (fun _ => rfl) (fun i' a b s c1 c2 _ => by rw [show i' = N by omega]; exact hN s c1 c2)
/-- all is reckoned: K0 the orders laid, K what was reckoned -/
def RkA (K0 K : JI) (m : Nat) (od : Nat → Int) (wn : Int → Int) (N : Nat) : Prop := FrPl K0 K ∧ ¬ K 131 0 = 0 ∧ (∀ i : Nat, i < N → ClM K0 K m od wn i (prL (fun k => wn (od k) + 1) m)) ∧ ∀ i : Nat, i ≤ N → ∀ s : Int, 0 ≤ s → s < prL (fun k => wn (od k) + 1) m → ¬ K 131 (59049 * i + s) = 0 → RkO K0 K m od wn N i s
theorem K263 {dp N : Nat} {K : JI} {wn : Int → Int} {x1 x2 x3 : Int} (hd : 4 ≤ dp) (hP : PlH K N) (hw : ∀ p : Int, 0 ≤ p → p < 10 → K 127 p = wn p ∧ 0 ≤ wn p ∧ wn p ≤ 8) (h5 : sm (fun p => if 0 < wn p then 1 else 0) 10 ≤ 5) : Ev (fun n => kf_263 n dp e 0 K L x1 x2 x3) (fun r => r.2.2 = L ∧ r.1 = r.2.1 129 0 ∧ ∃ (K0 : JI) (m : Nat) (od : Nat → Int), (∀ a i, ¬ (a = 105 ∧ (i = 43 ∨ i = 44)) → ¬ a = 128 → K0 a i = K a i) ∧ OrM K0 m od wn ∧ (∀ f : Int → Int, sN (fun k => f (od k)) m = sm (fun p => if 0 < wn p then f p else 0) 10) ∧ PlH K0 N ∧ RkA K0 r.2.1 m od wn N) := by
  refine ev_263_0 ?_
  refine Ev_t (by omega) (Ev_bind (K264 hw h5) ?_)
  rintro ⟨K0, L0⟩ ⟨r1, r2, m, od, hO, hs⟩
  dsimp only at r1 r2 hO hs ⊢
  subst r1
  have hP0 : PlH K0 N := by
    obtain ⟨p1, p2, p3, p4, p5⟩ := hP
    have f : ∀ a i, a = 126 ∨ a = 120 ∨ a = 122 ∨ a = 107 → K0 a i = K a i := fun a i h => r2 a i (by omega) (by omega)
    refine ⟨p1, by rw [r2 _ _ (by omega) (by omega)]; exact p2, fun i hi => ?_, by rw [r2 _ _ (by omega) (by omega)]; exact p4, fun i a b => by rw [f _ _ (by omega)]; exact p5 i a b⟩
    rw [f 126 _ (by omega), f 120 _ (by omega)]
    refine ⟨(p3 i hi).1, (p3 i hi).2.1, fun k hk p a b => ?_⟩
    rw [f 122 _ (by omega)]
    exact (p3 i hi).2.2 k hk p a b
  refine K263a hO hP0 (fun _ _ _ _ => rfl) (fun K2 g1 g2 => K263b (by omega) hO hP0 g1 g2 (fun K3 h1 h2 h3 => K263c (by omega) hO hP0 h1 (fun K4 i1 i2 i3 => K263d (by omega) hO hP0 i1 (fun i hi s a b z k hk => ?_) i3 (fun K5 j1 j2 j3 => ⟨rfl, rfl, K0, m, od, r2, hO, hs, hP0, j1, ?_, fun i hi s a b z k hk => ?_, fun i hi s a b z => j3 i hi s a b ?_⟩))))
  · rw [i2] at z ⊢; exact h3 i hi s a b z k hk
  · dsimp only; rw [j2, i2]; exact h2
  · dsimp only at z ⊢; rw [j2, i2] at z ⊢; exact h3 i hi s a b z k hk
  · dsimp only at z ⊢; rw [j2] at z; exact z
end PM
