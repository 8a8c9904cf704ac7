section
set_option maxRecDepth 100000 in
theorem ev_262_2 {dp : Nat} {e : EN} {I : JI} {L : JI} {i1 : Int} {i2 : Int} {i3 : Int} {i4 : Int} {i5 : Int} {i6 : Int} {P_ : (Int × JI × JI) → Prop} (h : Ev (fun n => (if i5 ≤ i6 then (if i5 ≤ 0 then (kf_262 n dp e 3 I L i1 i2 i3 i4 i5 i6) else (if 0 ≤ i4 ∧ i4 < 3 then (if (I 120 i4) ≤ 64 then (kf_262 n dp e 3 I L i1 i2 i3 i4 i5 i6) else (some ((0 : Int), I, L))) else none)) else (if 0 ≤ (I 105 40) ∧ (I 105 40) < 8 then (stI (w2 I 126 (I 105 40) i4) (fun I_60 => (if -2147483648 ≤ (I_60 105 40) + 1 ∧ (I_60 105 40) + 1 ≤ 2147483647 then (stI (w2 I_60 105 40 ((I_60 105 40) + 1)) (fun I_68 => (if -2147483648 ≤ i6 + 1 ∧ i6 + 1 ≤ 2147483647 then (kf_262 n dp e 2 I_68 L i1 i2 i3 i4 i5 (i6 + 1)) else none))) else none))) else none))) P_) : Ev (fun n => kf_262 n dp e 2 I L i1 i2 i3 i4 i5 i6) P_ := Ev_step (fun n => ke_262_2 n dp e I L i1 i2 i3 i4 i5 i6) h
set_option maxRecDepth 100000 in
theorem ev_262_1 {dp : Nat} {e : EN} {I : JI} {L : JI} {i1 : Int} {i2 : Int} {i3 : Int} {i4 : Int} {i5 : Int} {i6 : Int} {P_ : (Int × JI × JI) → Prop} (h : Ev (fun n => (if 3 ≤ i4 then (stI (w2 I 105 48 1) (fun I_104 => (kf_262 n dp e 4 I_104 L i1 i2 i3 0 0 0))) else (if i4 = 0 then (kf_262 n dp e 2 I L i1 i2 i3 i4 i1 0) else (if i4 = 1 then (kf_262 n dp e 2 I L i1 i2 i3 i4 i2 0) else (kf_262 n dp e 2 I L i1 i2 i3 i4 i3 0))))) P_) : Ev (fun n => kf_262 n dp e 1 I L i1 i2 i3 i4 i5 i6) P_ := Ev_step (fun n => ke_262_1 n dp e I L i1 i2 i3 i4 i5 i6) h
set_option maxRecDepth 100000 in
theorem ev_262_4 {dp : Nat} {e : EN} {I : JI} {L : JI} {i1 : Int} {i2 : Int} {i3 : Int} {i4 : Int} {i5 : Int} {i6 : Int} {P_ : (Int × JI × JI) → Prop} (h : Ev (fun n => (if 10 ≤ i4 then (some ((1 : Int), I, L)) else (if -2147483648 ≤ 60 + i4 ∧ 60 + i4 ≤ 2147483647 then (if 0 ≤ (60 + i4) ∧ (60 + i4) < 1570 then (if 0 ≤ i4 ∧ i4 < 10 then (stI (w2 I 127 i4 (I 107 (60 + i4))) (fun I_133 => (if -2147483648 ≤ i4 + 1 ∧ i4 + 1 ≤ 2147483647 then (kf_262 n dp e 4 I_133 L i1 i2 i3 (i4 + 1) 0 0) else none))) else none) else none) else none))) P_) : Ev (fun n => kf_262 n dp e 4 I L i1 i2 i3 i4 i5 i6) P_ := Ev_step (fun n => ke_262_4 n dp e I L i1 i2 i3 i4 i5 i6) h
set_option maxRecDepth 100000 in
theorem ev_262_3 {dp : Nat} {e : EN} {I : JI} {L : JI} {i1 : Int} {i2 : Int} {i3 : Int} {i4 : Int} {i5 : Int} {i6 : Int} {P_ : (Int × JI × JI) → Prop} (h : Ev (fun n => (if -2147483648 ≤ i4 + 1 ∧ i4 + 1 ≤ 2147483647 then (kf_262 n dp e 1 I L i1 i2 i3 (i4 + 1) 0 0) else none)) P_) : Ev (fun n => kf_262 n dp e 3 I L i1 i2 i3 i4 i5 i6) P_ := Ev_step (fun n => ke_262_3 n dp e I L i1 i2 i3 i4 i5 i6) h
end
/-! PLANS: the carcasses laid out by the reference -/
section PM
variable {e : EN} {tr : Nat} {TS : Nat → Prop}
/-- the class of carcass i among a of class 0, b of class 1 and others -/
def clA (a b : Int) (i : Int) : Int := if i < a then 0 else if i < a + b then 1 else 2
/-- lay has changed no more than this -/
def FrLy (K K' : JI) : Prop := ∀ a i, ¬ (a = 105 ∧ (i = 40 ∨ i = 48)) → ¬ (a = 126 ∨ a = 127) → K' a i = K a i
theorem K262b {dp : Nat} {K L : JI} {a b c : Int} (ha : 0 ≤ a) (hb : 0 ≤ b) (hc : 0 ≤ c) (h8 : a + b + c ≤ 8) (hw : ∀ p : Int, 0 ≤ p → p < 10 → 0 ≤ K 107 (60 + p) ∧ K 107 (60 + p) ≤ 8) : Ev (fun n => kf_262 n dp e 1 (w2 K 105 40 0) L a b c 0 0 0) (fun r => r.2.2 = L ∧ FrLy K r.2.1 ∧ ((r.1 = 0 ∧ ((0 < a ∧ 64 < K 120 0) ∨ (0 < b ∧ 64 < K 120 1) ∨ (0 < c ∧ 64 < K 120 2))) ∨ (r.1 = 1 ∧ (0 < a → K 120 0 ≤ 64) ∧ (0 < b → K 120 1 ≤ 64) ∧ (0 < c → K 120 2 ≤ 64) ∧ r.2.1 105 40 = a + b + c ∧ r.2.1 105 48 = 1 ∧ (∀ i, 0 ≤ i → i < a + b + c → r.2.1 126 i = clA a b i) ∧ ∀ p, 0 ≤ p → p < 10 → r.2.1 127 p = K 107 (60 + p)))) := by
  /- the filling of one kind -/
  have fill : ∀ (kk n0 n : Int) (Q : Int × JI × JI → Prop), (0 ≤ kk ∧ kk < 3) → 0 ≤ n0 → 0 ≤ n → n0 + n ≤ 8 → ∀ (j : Nat) (t : Int), t + j = n → 0 ≤ t → ∀ K1 : JI, FrLy K K1 → K1 105 40 = n0 + t → (∀ i, n0 ≤ i → i < n0 + t → K1 126 i = kk) → (∀ K2 : JI, FrLy K K2 → K2 105 40 = n0 + n → (∀ i, n0 ≤ i → i < n0 + n → K2 126 i = kk) → (∀ i, i < n0 → K2 126 i = K1 126 i) → Ev (fun m => if n ≤ 0 then kf_262 m dp e 3 K2 L a b c kk n n else if 0 ≤ kk ∧ kk < 3 then (if K2 120 kk ≤ 64 then kf_262 m dp e 3 K2 L a b c kk n n else some ((0 : Int), K2, L)) else none) Q) → Ev (fun m => kf_262 m dp e 2 K1 L a b c kk n t) Q := by
    intro kk n0 n Q hk h0 hn hs j
    induction j with
    | zero =>
      intro t ht t0 K1 f1 f2 f3 g
      have : t = n := by omega
      subst this
      refine ev_262_2 ?_
      exact Ev_t (by omega) (g K1 f1 f2 f3 (fun _ _ => rfl))
    | succ j ih =>
      intro t ht t0 K1 f1 f2 f3 g
      refine ev_262_2 ?_
      rw [f2]
      refine Ev_f (by omega) (Ev_t (by omega) (Ev_st ?_))
      rw [w2_n (by omega), f2]
      refine Ev_t (by omega) (Ev_st (Ev_t (by omega) (ih (t + 1) (by omega) (by omega) _ (fun x i z1 z2 => ?_) ?_ (fun i z1 z2 => ?_) (fun K2 g1 g2 g3 g4 => g K2 g1 g2 g3 (fun i hi => ?_)))))
      · rw [w2_n (by omega), w2_n (by omega)]; exact f1 x i z1 z2
      · rw [w2_ap, if_pos ⟨rfl, rfl⟩]; omega
      · rw [w2_n (by omega)]
        by_cases y : i = n0 + t
        · rw [w2_ap, if_pos ⟨rfl, y⟩]
        · rw [w2_n (by omega)]; exact f3 i z1 (by omega)
      · rw [g4 i hi, w2_n (by omega), w2_n (by omega)]
  have last : ∀ K1 : JI, FrLy K K1 → (0 < a → K 120 0 ≤ 64) → (0 < b → K 120 1 ≤ 64) → (0 < c → K 120 2 ≤ 64) → K1 105 40 = a + b + c → (∀ i, 0 ≤ i → i < a + b + c → K1 126 i = clA a b i) → Ev (fun n => kf_262 n dp e 1 K1 L a b c 3 0 0) (fun r => r.2.2 = L ∧ FrLy K r.2.1 ∧ ((r.1 = 0 ∧ ((0 < a ∧ 64 < K 120 0) ∨ (0 < b ∧ 64 < K 120 1) ∨ (0 < c ∧ 64 < K 120 2))) ∨ (r.1 = 1 ∧ (0 < a → K 120 0 ≤ 64) ∧ (0 < b → K 120 1 ≤ 64) ∧ (0 < c → K 120 2 ≤ 64) ∧ r.2.1 105 40 = a + b + c ∧ r.2.1 105 48 = 1 ∧ (∀ i, 0 ≤ i → i < a + b + c → r.2.1 126 i = clA a b i) ∧ ∀ p, 0 ≤ p → p < 10 → r.2.1 127 p = K 107 (60 + p)))) := by
    intro K1 f1 c1 c2 c3 f2 f3
    refine ev_262_1 ?_
    refine Ev_t (by omega) (Ev_st ?_)
    have wn : ∀ p : Nat, p ≤ 10 → ∀ K2 : JI, FrLy K K2 → K2 105 40 = a + b + c → K2 105 48 = 1 → (∀ i, 0 ≤ i → i < a + b + c → K2 126 i = clA a b i) → (∀ q : Int, 0 ≤ q → q < p → K2 127 q = K 107 (60 + q)) → Ev (fun n => kf_262 n dp e 4 K2 L a b c p 0 0) (fun r => r.2.2 = L ∧ FrLy K r.2.1 ∧ ((r.1 = 0 ∧ ((0 < a ∧ 64 < K 120 0) ∨ (0 < b ∧ 64 < K 120 1) ∨ (0 < c ∧ 64 < K 120 2))) ∨ (r.1 = 1 ∧ (0 < a → K 120 0 ≤ 64) ∧ (0 < b → K 120 1 ≤ 64) ∧ (0 < c → K 120 2 ≤ 64) ∧ r.2.1 105 40 = a + b + c ∧ r.2.1 105 48 = 1 ∧ (∀ i, 0 ≤ i → i < a + b + c → r.2.1 126 i = clA a b i) ∧ ∀ p, 0 ≤ p → p < 10 → r.2.1 127 p = K 107 (60 + p)))) := by
      refine dec_ind 10 (fun p hp ih => ?_)
      intro K2 g1 g2 g3 g4 g5
      refine ev_262_4 ?_
      by_cases d : p < 10
      · refine Ev_f (by omega) (Ev_t (by omega) (Ev_t (by omega) (Ev_t (by omega) (Ev_st (Ev_t (by omega) (ih d _ (fun x i z1 z2 => ?_) ?_ ?_ (fun i z1 z2 => ?_) (fun q z1 z2 => ?_)))))))
        · rw [w2_n (by omega)]; exact g1 x i z1 z2
        · rw [w2_n (by omega)]; exact g2
        · rw [w2_n (by omega)]; exact g3
        · rw [w2_n (by omega)]; exact g4 i z1 z2
        · by_cases y : q = p
          · subst y
            rw [w2_ap, if_pos ⟨rfl, rfl⟩]; exact g1 _ _ (by omega) (by omega)
          · rw [w2_n (by omega)]; exact g5 q z1 (by omega)
      · have : p = 10 := by omega
        subst this
        exact Ev_t (by omega) (Ev_ret ⟨rfl, g1, Or.inr ⟨rfl, c1, c2, c3, g2, g3, g4, g5⟩⟩)
    refine wn 0 (by omega) _ (fun x i z1 z2 => ?_) ?_ ?_ (fun i z1 z2 => ?_) (fun q z1 z2 => by omega)
    · rw [w2_n (by omega)]; exact f1 x i z1 z2
    · rw [w2_n (by omega)]; exact f2
    · rw [w2_ap, if_pos ⟨rfl, rfl⟩]
    · rw [w2_n (by omega)]; exact f3 i z1 z2
  have e120 : ∀ K2 : JI, FrLy K K2 → ∀ i, K2 120 i = K 120 i := fun K2 h i => h _ _ (by omega) (by omega)
  refine ev_262_1 ?_
  refine Ev_f (by omega) (Ev_t (by first | trivial | rfl) ?_)
  refine fill 0 0 a _ (by omega) (by omega) ha (by omega) a.toNat 0 (by omega) (by omega) _ (fun x i z1 z2 => by rw [w2_n (by omega)]) (by rw [w2_ap, if_pos ⟨rfl, rfl⟩]; rfl) (fun i z1 z2 => by omega) (fun K1 f1 f2 f3 _ => ?_)
  rw [e120 K1 f1]
  have st1 : (0 < a → K 120 0 ≤ 64) → Ev (fun n => kf_262 n dp e 3 K1 L a b c 0 a a) (fun r => r.2.2 = L ∧ FrLy K r.2.1 ∧ ((r.1 = 0 ∧ ((0 < a ∧ 64 < K 120 0) ∨ (0 < b ∧ 64 < K 120 1) ∨ (0 < c ∧ 64 < K 120 2))) ∨ (r.1 = 1 ∧ (0 < a → K 120 0 ≤ 64) ∧ (0 < b → K 120 1 ≤ 64) ∧ (0 < c → K 120 2 ≤ 64) ∧ r.2.1 105 40 = a + b + c ∧ r.2.1 105 48 = 1 ∧ (∀ i, 0 ≤ i → i < a + b + c → r.2.1 126 i = clA a b i) ∧ ∀ p, 0 ≤ p → p < 10 → r.2.1 127 p = K 107 (60 + p)))) := by
    intro c1
    refine ev_262_3 ?_
    refine Ev_t (by omega) ?_
    rw [Int.zero_add]
    refine ev_262_1 ?_
    refine Ev_f (by omega) (Ev_f (by omega) (Ev_t (by first | trivial | rfl) ?_))
    refine fill 1 a b _ (by omega) ha hb (by omega) b.toNat 0 (by omega) (by omega) K1 f1 (by omega) (fun i z1 z2 => by omega) (fun K2 g1 g2 g3 g4 => ?_)
    rw [e120 K2 g1]
    have st2 : (0 < b → K 120 1 ≤ 64) → Ev (fun n => kf_262 n dp e 3 K2 L a b c 1 b b) (fun r => r.2.2 = L ∧ FrLy K r.2.1 ∧ ((r.1 = 0 ∧ ((0 < a ∧ 64 < K 120 0) ∨ (0 < b ∧ 64 < K 120 1) ∨ (0 < c ∧ 64 < K 120 2))) ∨ (r.1 = 1 ∧ (0 < a → K 120 0 ≤ 64) ∧ (0 < b → K 120 1 ≤ 64) ∧ (0 < c → K 120 2 ≤ 64) ∧ r.2.1 105 40 = a + b + c ∧ r.2.1 105 48 = 1 ∧ (∀ i, 0 ≤ i → i < a + b + c → r.2.1 126 i = clA a b i) ∧ ∀ p, 0 ≤ p → p < 10 → r.2.1 127 p = K 107 (60 + p)))) := by
      intro c2
      refine ev_262_3 ?_
      refine Ev_t (by omega) ?_
      rw [show (1 : Int) + 1 = 2 from rfl]
      refine ev_262_1 ?_
      refine Ev_f (by omega) (Ev_f (by omega) (Ev_f (by omega) ?_))
      refine fill 2 (a + b) c _ (by omega) (by omega) hc (by omega) c.toNat 0 (by omega) (by omega) K2 g1 (by omega) (fun i z1 z2 => by omega) (fun K3 h1 h2 h3 h4 => ?_)
      rw [e120 K3 h1]
      have st3 : (0 < c → K 120 2 ≤ 64) → Ev (fun n => kf_262 n dp e 3 K3 L a b c 2 c c) (fun r => r.2.2 = L ∧ FrLy K r.2.1 ∧ ((r.1 = 0 ∧ ((0 < a ∧ 64 < K 120 0) ∨ (0 < b ∧ 64 < K 120 1) ∨ (0 < c ∧ 64 < K 120 2))) ∨ (r.1 = 1 ∧ (0 < a → K 120 0 ≤ 64) ∧ (0 < b → K 120 1 ≤ 64) ∧ (0 < c → K 120 2 ≤ 64) ∧ r.2.1 105 40 = a + b + c ∧ r.2.1 105 48 = 1 ∧ (∀ i, 0 ≤ i → i < a + b + c → r.2.1 126 i = clA a b i) ∧ ∀ p, 0 ≤ p → p < 10 → r.2.1 127 p = K 107 (60 + p)))) := by
        intro c3
        refine ev_262_3 ?_
        refine Ev_t (by omega) ?_
        rw [show (2 : Int) + 1 = 3 from rfl]
        refine last K3 h1 c1 c2 c3 (by omega) (fun i z1 z2 => ?_)
        unfold clA
        by_cases y : i < a
        · rw [if_pos y, h4 i (by omega), g4 i y]; exact f3 i z1 (by omega)
        · rw [if_neg y]
          by_cases y2 : i < a + b
          · rw [if_pos y2, h4 i y2]; exact g3 i (by omega) y2
          · rw [if_neg y2]; exact h3 i (by omega) z2
      exact Ev_c (fun z => st3 (fun y => by omega)) (fun z => Ev_t (by omega) (Ev_c (fun y => st3 (fun _ => y)) (fun y => Ev_ret ⟨rfl, h1, Or.inl ⟨rfl, Or.inr (Or.inr ⟨by omega, by omega⟩)⟩⟩)))
    exact Ev_c (fun z => st2 (fun y => by omega)) (fun z => Ev_t (by omega) (Ev_c (fun y => st2 (fun _ => y)) (fun y => Ev_ret ⟨rfl, g1, Or.inl ⟨rfl, Or.inr (Or.inl ⟨by omega, by omega⟩)⟩⟩)))
  exact Ev_c (fun z => st1 (fun y => by omega)) (fun z => Ev_t (by omega) (Ev_c (fun y => st1 (fun _ => y)) (fun y => Ev_ret ⟨rfl, f1, Or.inl ⟨rfl, Or.inl ⟨by omega, by omega⟩⟩⟩)))
end PM
