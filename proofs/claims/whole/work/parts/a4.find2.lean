section
set_option maxRecDepth 100000 in
theorem ev_256_0 {dp : Nat} {e : EN} {I : JI} {L : JI} {i1 : Int} {i2 : Int} {i3 : Int} {i4 : Int} {i5 : Int} {i6 : Int} {i7 : Int} {P_ : (Int × JI × JI) → Prop} (h : Ev (fun n => (if -2147483648 ≤ 10 * i2 ∧ 10 * i2 ≤ 2147483647 then (kf_256 n dp e 1 I L i1 i2 (10 * i2) 0 0 0 0) else none)) P_) : Ev (fun n => kf_256 n dp e 0 I L i1 i2 i3 i4 i5 i6 i7) P_ := Ev_step (fun n => ke_256_0 n dp e I L i1 i2 i3 i4 i5 i6 i7) h
set_option maxRecDepth 100000 in
theorem ev_256_1 {dp : Nat} {e : EN} {I : JI} {L : JI} {i1 : Int} {i2 : Int} {i3 : Int} {i4 : Int} {i5 : Int} {i6 : Int} {i7 : Int} {P_ : (Int × JI × JI) → Prop} (h : Ev (fun n => (if i4 = 0 then (if 0 ≤ i2 ∧ i2 < 10 then (if (I 107 9) ≤ (I 123 i2) then (if (i4 = 0) ∨ (i4 = 1) then (some ((i4 : Int), I, L)) else none) else (if 0 ≤ i2 ∧ i2 < 10 then (if 0 ≤ i2 ∧ i2 < 10 then (if -2147483648 ≤ (I 123 i2) + 1 ∧ (I 123 i2) + 1 ≤ 2147483647 then (stI (w2 I 123 i2 ((I 123 i2) + 1)) (fun I_38 => (if 0 ≤ i2 ∧ i2 < 10 then (stI (I_38 123 i2) (fun v_45 => (if v_45 = (-1) then (kf_256 n dp e 2 I_38 L i1 i2 i3 i4 v_45 0 0) else (if (I_38 107 9) ≤ v_45 then (kf_256 n dp e 4 I_38 L i1 i2 i3 i4 v_45 0 0) else (if -2147483648 ≤ i3 + i2 ∧ i3 + i2 ≤ 2147483647 then (if 0 ≤ (i3 + i2) ∧ (i3 + i2) < 110 then (if (I_38 124 (i3 + i2)) ≤ 0 then (kf_256 n dp e 4 I_38 L i1 i2 i3 i4 v_45 0 0) else (if (-2147483648 ≤ 16 * i1 ∧ 16 * i1 ≤ 2147483647) ∧ (-2147483648 ≤ (16 * i1) + v_45 ∧ (16 * i1) + v_45 ≤ 2147483647) then (if 0 ≤ ((16 * i1) + v_45) ∧ ((16 * i1) + v_45) < 48 then (if (I_38 125 ((16 * i1) + v_45)) = 0 then (kf_256 n dp e 4 I_38 L i1 i2 i3 i4 v_45 0 0) else (if 1 ≤ dp then ((kf_240 n (dp - 1) e 0 I_38 L v_45).bind (fun ⟨x0_137, I0_137, L0_137⟩ => (if x0_137 = i2 then (kf_256 n dp e 3 I0_137 L0_137 i1 i2 i3 i4 v_45 0 0) else (kf_256 n dp e 4 I0_137 L0_137 i1 i2 i3 i4 v_45 0 0)))) else none)) else none) else none)) else none) else none))))) else none))) else none) else none) else none)) else none) else (if (i4 = 0) ∨ (i4 = 1) then (some ((i4 : Int), I, L)) else none))) P_) : Ev (fun n => kf_256 n dp e 1 I L i1 i2 i3 i4 i5 i6 i7) P_ := Ev_step (fun n => ke_256_1 n dp e I L i1 i2 i3 i4 i5 i6 i7) h
set_option maxRecDepth 100000 in
theorem ev_256_4 {dp : Nat} {e : EN} {I : JI} {L : JI} {i1 : Int} {i2 : Int} {i3 : Int} {i4 : Int} {i5 : Int} {i6 : Int} {i7 : Int} {P_ : (Int × JI × JI) → Prop} (h : Ev (fun n => (kf_256 n dp e 1 I L i1 i2 i3 i4 0 0 0)) P_) : Ev (fun n => kf_256 n dp e 4 I L i1 i2 i3 i4 i5 i6 i7) P_ := Ev_step (fun n => ke_256_4 n dp e I L i1 i2 i3 i4 i5 i6 i7) h
set_option maxRecDepth 100000 in
theorem ev_254_2 {dp : Nat} {e : EN} {I : JI} {L : JI} {i1 : Int} {i2 : Int} {P_ : (JI × JI) → Prop} (h : Ev (fun n => (if i2 < 0 then (some (I, L)) else (if 0 ≤ i1 ∧ i1 < 3 then (if 65 ≤ (I 120 i1) then (some (I, L)) else (if i2 = 10 then (if 1 ≤ dp then ((kf_255 n (dp - 1) e 0 I L i1 0 0).bind (fun ⟨I0_69, L0_69⟩ => (if -2147483648 ≤ i2 + (-1) ∧ i2 + (-1) ≤ 2147483647 then (kf_254 n dp e 2 I0_69 L0_69 i1 (i2 + (-1))) else none))) else none) else (if 1 ≤ dp then ((kf_256 n (dp - 1) e 0 I L i1 i2 0 0 0 0 0).bind (fun ⟨x0_81, I0_81, L0_81⟩ => (if x0_81 = 0 then (if -2147483648 ≤ i2 + (-1) ∧ i2 + (-1) ≤ 2147483647 then (kf_254 n dp e 2 I0_81 L0_81 i1 (i2 + (-1))) else none) else (if -2147483648 ≤ i2 + 1 ∧ i2 + 1 ≤ 2147483647 then (if 10 ≤ (i2 + 1) then (kf_254 n dp e 2 I0_81 L0_81 i1 (i2 + 1)) else (if 0 ≤ (i2 + 1) ∧ (i2 + 1) < 10 then (stI (w2 I0_81 123 (i2 + 1) (-2)) (fun I_103 => (kf_254 n dp e 2 I_103 L0_81 i1 (i2 + 1)))) else none)) else none)))) else none))) else none))) P_) : Ev (fun n => kf_254 n dp e 2 I L i1 i2) P_ := Ev_step (fun n => ke_254_2 n dp e I L i1 i2) h
end
/-! CUTTINGS: the reference's, found one by one -/
section FD
variable {e : EN} {L : JI} {W op : Int → Int} {nw : Nat} {c : Int}
theorem K256n {dp : Nat} {K : JI} {p : Int} {cnt : Int → Int} (hp : 0 ≤ p ∧ p < 10) (hn : K 107 9 = nw) (h3 : K 123 p = -2) (h4 : ∀ q, 0 ≤ q → q < 10 → K 124 (10 * p + q) = cnt q) : Ev (fun n => kf_256 n dp e 0 K L c p 0 0 0 0 0) (fun r => r.2.2 = L ∧ r.1 = 1 ∧ (∀ a i, ¬ (a = 123 ∧ i = p) → ¬ (a = 124 ∧ 10 * p + 10 ≤ i ∧ i < 10 * p + 20) → r.2.1 a i = K a i) ∧ r.2.1 123 p = -1 ∧ ∀ q, 0 ≤ q → q < 10 → r.2.1 124 (10 * p + 10 + q) = cnt q) := by
  refine ev_256_0 ?_
  refine Ev_t (by omega) ?_
  refine ev_256_1 ?_
  have e1 : ∀ v, (w2 K 123 p v) 123 p = v := fun v => by rw [w2_ap, if_pos ⟨rfl, rfl⟩]
  simp only [h3, e1]
  refine Ev_t (by first | trivial | rfl) (Ev_t hp (Ev_f (by omega) (Ev_t hp (Ev_t hp (Ev_t (by omega) (Ev_st (Ev_t hp (Ev_st ?_))))))))
  simp only [e1]
  refine Ev_t (by decide) (K256_2 (cnt := cnt) hp (fun q a b => by rw [w2_n (by omega)]; exact h4 q a b) (fun K1 f1 f2 => ?_))
  refine ev_256_4 ?_
  refine ev_256_1 ?_
  refine Ev_f (by decide) (Ev_t (Or.inr rfl) (Ev_ret ⟨rfl, rfl, fun a i g1 g2 => ?_, ?_, f2⟩))
  · dsimp only; rw [f1 a i g2, w2_n g1]
  · dsimp only; rw [f1 _ _ (by omega), e1]; rfl
theorem K256w {dp k : Nat} {p : Int} {cnt ch : Int → Int} (hd : 1 ≤ dp) (hc : 0 ≤ c ∧ c < 3) (hp : 0 ≤ p ∧ p < 10) (hcn : ∀ q, 0 ≤ q → q < 10 → 0 ≤ cnt q ∧ cnt q ≤ 200) : ∀ (j : Nat) (w : Int) (K : JI), w + j = nw → 0 ≤ w → RfO c K W op nw → K 123 p = w - 1 → (∀ q, 0 ≤ q → q < 10 → K 124 (10 * p + q) = cnt q) → Ev (fun n => kf_256 n dp e 1 K L c p (10 * p) 0 0 0 0) (fun r => r.2.2 = L ∧ (∀ a i, ¬ (a = 123 ∧ i = p) → ¬ (a = 124 ∧ 10 * p + 10 ≤ i ∧ i < 10 * p + 20) → r.2.1 a i = K a i) ∧ ((r.1 = 0 ∧ ctl (fun w => if okx W op p w cnt then En W op nw k (ctp W p w cnt) (up1 ch p w) else []) j w = []) ∨ (r.1 = 1 ∧ ∃ (w' : Int) (j' : Nat), w ≤ w' ∧ j' < j ∧ w' + j' + 1 = nw ∧ okx W op p w' cnt ∧ ctl (fun w => if okx W op p w cnt then En W op nw k (ctp W p w cnt) (up1 ch p w) else []) j w = En W op nw k (ctp W p w' cnt) (up1 ch p w') ++ ctl (fun w => if okx W op p w cnt then En W op nw k (ctp W p w cnt) (up1 ch p w) else []) j' (w' + 1) ∧ r.2.1 123 p = w' ∧ ∀ q, 0 ≤ q → q < 10 → r.2.1 124 (10 * p + 10 + q) = ctp W p w' cnt q))) := by
  intro j
  induction j with
  | zero =>
    intro w K hw hw0 hR h3 h4
    have e1 : ∀ v, (w2 K 123 p v) 123 p = v := fun v => by rw [w2_ap, if_pos ⟨rfl, rfl⟩]
    have e9 : ∀ v, (w2 K 123 p v) 107 9 = nw := fun v => by rw [w2_n (by omega)]; exact hR.1
    have h16 := hR.2.1
    refine ev_256_1 ?_
    simp only [h3, e1, e9, hR.1]
    refine Ev_t (by first | trivial | rfl) (Ev_t hp (Ev_f (by omega) (Ev_t hp (Ev_t hp (Ev_t (by omega) (Ev_st (Ev_t hp (Ev_st ?_))))))))
    simp only [e1, e9]
    refine Ev_f (by omega) (Ev_t (by omega) ?_)
    refine ev_256_4 ?_
    refine ev_256_1 ?_
    simp only [e1, e9]
    refine Ev_t (by first | trivial | rfl) (Ev_t hp (Ev_t (by omega) (Ev_t (by first | trivial | simp) (Ev_ret ⟨rfl, fun a i g1 g2 => w2_n g1, Or.inl ⟨rfl, rfl⟩⟩))))
  | succ j ih =>
    intro w K hw hw0 hR h3 h4
    have e1 : ∀ v, (w2 K 123 p v) 123 p = v := fun v => by rw [w2_ap, if_pos ⟨rfl, rfl⟩]
    have e9 : ∀ v, (w2 K 123 p v) 107 9 = nw := fun v => by rw [w2_n (by omega)]; exact hR.1
    have h16 := hR.2.1
    obtain ⟨o1, o2, o3, o4, o5⟩ := hR.2.2 w hw0 (by omega)
    have ew : w - 1 + 1 = w := by omega
    have skip : ¬ okx W op p w cnt → ∀ K1 : JI, (∀ a i, ¬ (a = 123 ∧ i = p) → ¬ (a = 124 ∧ 10 * p + 10 ≤ i ∧ i < 10 * p + 20) → K1 a i = K a i) → K1 123 p = w → Ev (fun n => kf_256 n dp e 4 K1 L c p (10 * p) 0 w 0 0) (fun r => r.2.2 = L ∧ (∀ a i, ¬ (a = 123 ∧ i = p) → ¬ (a = 124 ∧ 10 * p + 10 ≤ i ∧ i < 10 * p + 20) → r.2.1 a i = K a i) ∧ ((r.1 = 0 ∧ ctl (fun w => if okx W op p w cnt then En W op nw k (ctp W p w cnt) (up1 ch p w) else []) (j + 1) w = []) ∨ (r.1 = 1 ∧ ∃ (w' : Int) (j' : Nat), w ≤ w' ∧ j' < j + 1 ∧ w' + j' + 1 = nw ∧ okx W op p w' cnt ∧ ctl (fun w => if okx W op p w cnt then En W op nw k (ctp W p w cnt) (up1 ch p w) else []) (j + 1) w = En W op nw k (ctp W p w' cnt) (up1 ch p w') ++ ctl (fun w => if okx W op p w cnt then En W op nw k (ctp W p w cnt) (up1 ch p w) else []) j' (w' + 1) ∧ r.2.1 123 p = w' ∧ ∀ q, 0 ≤ q → q < 10 → r.2.1 124 (10 * p + 10 + q) = ctp W p w' cnt q))) := by
      intro hn K1 f1 z3
      have ec : ctl (fun w => if okx W op p w cnt then En W op nw k (ctp W p w cnt) (up1 ch p w) else []) (j + 1) w = ctl (fun w => if okx W op p w cnt then En W op nw k (ctp W p w cnt) (up1 ch p w) else []) j (w + 1) := by
        rw [ctl, if_neg hn]; rfl
      rw [ec]
      refine ev_256_4 ?_
      refine Ev_mono (ih (w + 1) K1 (by omega) (by omega) (RfO_c (fun i => f1 _ _ (by omega) (by omega)) (fun i => f1 _ _ (by omega) (by omega)) hR) (by omega) (fun q a b => by rw [f1 _ _ (by omega) (by omega)]; exact h4 q a b)) ?_
      rintro r ⟨q1, q2, q3⟩
      refine ⟨q1, fun a i g1 g2 => (q2 a i g1 g2).trans (f1 a i g1 g2), ?_⟩
      rcases q3 with q | ⟨q, w', j', a1, a2, a3⟩
      · exact Or.inl q
      · exact Or.inr ⟨q, w', j', by omega, by omega, a3⟩
    have f0 : ∀ a i, ¬ (a = 123 ∧ i = p) → ¬ (a = 124 ∧ 10 * p + 10 ≤ i ∧ i < 10 * p + 20) → w2 K 123 p w a i = K a i := fun a i g1 _ => w2_n g1
    have e4 : (w2 K 123 p w) 124 (10 * p + p) = cnt p := by rw [w2_n (by omega)]; exact h4 p hp.1 hp.2
    have e5 : (w2 K 123 p w) 125 (16 * c + w) = op w := by rw [w2_n (by omega)]; exact o2
    refine ev_256_1 ?_
    simp only [h3, e1, e9, hR.1, ew]
    refine Ev_t (by first | trivial | rfl) (Ev_t hp (Ev_f (by omega) (Ev_t hp (Ev_t hp (Ev_t (by omega) (Ev_st (Ev_t hp (Ev_st ?_))))))))
    simp only [e1, e9, e4, e5]
    refine Ev_f (by omega) (Ev_f (by omega) (Ev_t (by omega) (Ev_t (by omega) (Ev_c (fun z => skip (fun y => by have := y.2.2.1; omega) _ f0 (e1 w)) (fun z => Ev_t (by omega) (Ev_t (by omega) (Ev_c (fun zo => skip (fun y => by have := y.2.1; omega) _ f0 (e1 w)) (fun zo => Ev_t hd (Ev_call (K240 (by omega)) ?_)))))))))
    dsimp only
    have e6 : (w2 K 123 p w) 107 (290 + 11 * w) = W (11 * w) := by rw [w2_n (by omega)]; exact o3
    simp only [e6]
    refine Ev_c (fun zp => ?_) (fun zp => skip (fun y => zp y.1) _ f0 (e1 w))
    refine K256_3 (cnt := cnt) hd hp (RfO_c (fun i => f0 _ _ (by omega) (by omega)) (fun i => f0 _ _ (by omega) (by omega)) hR) (by omega) hcn (fun q a b => by rw [w2_n (by omega)]; exact h4 q a b) (fun K1 f1 f2 y hy => ?_)
    have f3 : ∀ a i, ¬ (a = 123 ∧ i = p) → ¬ (a = 124 ∧ 10 * p + 10 ≤ i ∧ i < 10 * p + 20) → K1 a i = K a i := fun a i g1 g2 => (f1 a i g2).trans (f0 a i g1 g2)
    have z3 : K1 123 p = w := (f1 _ _ (by omega)).trans (e1 w)
    by_cases z2 : 200 < sm (ctp W p w cnt) 10
    · rw [if_pos z2] at hy
      subst hy
      exact skip (fun y => by have := y.2.2.2; omega) K1 f3 z3
    · rw [if_neg z2] at hy
      subst hy
      have ok : okx W op p w cnt := ⟨zp, by omega, by omega, by omega⟩
      refine ev_256_4 ?_
      refine ev_256_1 ?_
      refine Ev_f (by decide) (Ev_t (Or.inr rfl) (Ev_ret ⟨rfl, f3, Or.inr ⟨rfl, w, j, by omega, by omega, by omega, ok, ?_, z3, f2⟩⟩))
      rw [ctl, if_pos ok]
def FinM (L : JI) (c : Int) (K0 : JI) (full : List CT) (r : JI × JI) : Prop := r.2 = L ∧ FrV c K0 r.1 ∧ LsM c r.1 full
/-- from a fresh part on -/
theorem Md {dp : Nat} {K0 : JI} {full : List CT} (hd : 3 ≤ dp) (hc : 0 ≤ c ∧ c < 3) : ∀ (k : Nat) (K : JI) (cnt ch : Int → Int) (ls rest : List CT), k ≤ 10 → RfO c K W op nw → FrV c K0 K → (∀ q, 0 ≤ q → q < 10 → K 124 (10 * (10 - k) + q) = cnt q) → (∀ q, 0 ≤ q → q < 10 - (k : Int) → K 123 q = ch q) → (0 < k → K 123 (10 - k) = -2) → (∀ q, 0 ≤ q → q < 10 → 0 ≤ cnt q) → sm cnt 10 ≤ 200 → LsM c K ls → (ls ++ En W op nw k cnt ch) ++ rest = full → (∀ K' : JI, RfO c K' W op nw → FrV c K0 K' → (∀ i, i < 10 * (10 - (k : Int)) + 10 → K' 124 i = K 124 i) → (∀ q, q < 10 - (k : Int) → K' 123 q = K 123 q) → LsM c K' (ls ++ En W op nw k cnt ch) → Ev (fun n => kf_254 n dp e 2 K' L c (10 - k - 1)) (FinM L c K0 full)) → Ev (fun n => kf_254 n dp e 2 K L c (10 - k)) (FinM L c K0 full) := by
  have stop : ∀ (K : JI) (l r : List CT), FrV c K0 K → LsM c K l → l ++ r = full → 65 ≤ K 120 c → FinM L c K0 full (K, L) := fun K l r f1 f2 f3 f4 => ⟨rfl, f1, by rw [← f3]; exact LsO_more f4 f2⟩
  intro k
  induction k with
  | zero =>
    intro K cnt ch ls rest _ hR hF h4 h3 h2 hcn hs hL hfull next
    refine ev_254_2 ?_
    refine Ev_f (by omega) (Ev_t hc (Ev_c (fun z => Ev_ret (stop K ls (En W op nw 0 cnt ch ++ rest) hF hL (by rw [← hfull, List.append_assoc]) z)) (fun z => Ev_t (by omega) (Ev_t (by omega) (Ev_bind (K255 hc (by omega) (fun q a b => h3 q a (by omega)) (fun q a b => h4 q a b) hL) ?_)))))
    rintro ⟨K1, L1⟩ ⟨r1, r2, r3, r4, r5⟩
    dsimp only at r1 r2 r3 r4 r5 ⊢
    subst r1
    exact Ev_t (by omega) (next K1 (RfO_c (fun i => r2.1 _ _ (by omega) (by omega) (by omega) (by omega) (by omega)) (fun i => r2.1 _ _ (by omega) (by omega) (by omega) (by omega) (by omega)) hR) (FrV_t hF r2) (fun i _ => r4 i) (fun q _ => r3 q) r5)
  | succ k ih =>
    intro K cnt ch ls rest hk hR hF h4 h3 h2 hcn hs hL hfull next
    have ep : (10 : Int) - ((k + 1 : Nat) : Int) = 9 - k := by omega
    have ep1 : (9 : Int) - k + 1 = 10 - k := by omega
    have ep2 : (10 : Int) - k - 1 = 9 - k := by omega
    rw [ep] at h4 h3 next ⊢
    have h2 := h2 (by omega)
    rw [ep] at h2
    rw [ep2] at ih
    generalize hp : (9 : Int) - k = p at *
    have e10 : (10 : Int) - k = p + 1 := by omega
    have pb : 0 ≤ p ∧ p < 10 := by omega
    have hcb : ∀ q, 0 ≤ q → q < 10 → 0 ≤ cnt q ∧ cnt q ≤ 200 := fun q a b => ⟨hcn q a b, by have := sm_ge 10 hcn q a b; omega⟩
    have eE : En W op nw (k + 1) cnt ch = En W op nw k cnt (up1 ch p (-1)) ++ ctl (fun w => if okx W op p w cnt then En W op nw k (ctp W p w cnt) (up1 ch p w) else []) nw 0 := by
      rw [En, hp]
    rw [eE] at hfull next
    /- one part deeper -/
    have deeper : ∀ (K1 : JI) (cn2 ch2 : Int → Int) (l2 r2 : List CT), RfO c K1 W op nw → FrV c K0 K1 → (∀ q, 0 ≤ q → q < 10 → K1 124 (10 * p + 10 + q) = cn2 q) → (∀ q, 0 ≤ q → q < p + 1 → K1 123 q = ch2 q) → (∀ q, 0 ≤ q → q < 10 → 0 ≤ cn2 q) → sm cn2 10 ≤ 200 → LsM c K1 l2 → (l2 ++ En W op nw k cn2 ch2) ++ r2 = full → (∀ K' : JI, RfO c K' W op nw → FrV c K0 K' → (∀ i, i < 10 * p + 10 → K' 124 i = K1 124 i) → (∀ q, q < p + 1 → K' 123 q = K1 123 q) → LsM c K' (l2 ++ En W op nw k cn2 ch2) → Ev (fun n => kf_254 n dp e 2 K' L c p) (FinM L c K0 full)) → Ev (fun n => if -2147483648 ≤ p + 1 ∧ p + 1 ≤ 2147483647 then (if 10 ≤ p + 1 then kf_254 n dp e 2 K1 L c (p + 1) else if 0 ≤ p + 1 ∧ p + 1 < 10 then stI (w2 K1 123 (p + 1) (-2)) (fun I_103 => kf_254 n dp e 2 I_103 L c (p + 1)) else none) else none) (FinM L c K0 full) := by
      intro K1 cn2 ch2 l2 r2 g1 g2 g3 g4 g5 g6 g7 g8 g9
      refine Ev_t (by omega) (Ev_c (fun z => ?_) (fun z => Ev_t (by omega) (Ev_st ?_)))
      · have r := ih K1 cn2 ch2 l2 r2 (by omega) g1 g2 (fun q a b => by rw [e10, show 10 * (p + 1) + q = 10 * p + 10 + q by omega]; exact g3 q a b) (fun q a b => g4 q a (by omega)) (fun y => by omega) g5 g6 g7 g8 (fun K' x1 x2 x3 x4 x5 => g9 K' x1 x2 (fun i hi => x3 i (by omega)) (fun q hq => x4 q (by omega)) x5)
        rw [e10] at r
        exact r
      · have nn : ∀ a i, ¬ (a = 123 ∧ i = p + 1) → w2 K1 123 (p + 1) (-2) a i = K1 a i := fun a i h => w2_n h
        have r := ih (w2 K1 123 (p + 1) (-2)) cn2 ch2 l2 r2 (by omega) (RfO_c (fun i => nn _ _ (by omega)) (fun i => nn _ _ (by omega)) g1) (FrV_t g2 ⟨fun a i _ _ _ c4 _ => nn a i (by omega), fun i _ => ⟨nn _ _ (by omega), nn _ _ (by omega)⟩⟩) (fun q a b => by rw [nn _ _ (by omega), e10, show 10 * (p + 1) + q = 10 * p + 10 + q by omega]; exact g3 q a b) (fun q a b => by rw [nn _ _ (by omega)]; exact g4 q a (by omega)) (fun y => by rw [e10, w2_ap, if_pos ⟨rfl, rfl⟩]) g5 g6 (by
          unfold LsM
          rw [nn _ _ (by omega)]
          exact LsO_c (fun i _ _ => ⟨nn _ _ (by omega), nn _ _ (by omega)⟩) g7) g8 (fun K' x1 x2 x3 x4 x5 => g9 K' x1 x2 (fun i hi => (x3 i (by omega)).trans (nn _ _ (by omega))) (fun q hq => (x4 q (by omega)).trans (nn _ _ (by omega))) x5)
        rw [e10] at r
        exact r
    /- the ways -/
    have ways : ∀ (j : Nat) (w : Int) (K1 : JI) (l2 : List CT), w + j = nw → 0 ≤ w → RfO c K1 W op nw → FrV c K0 K1 → (∀ i, i < 10 * p + 10 → K1 124 i = K 124 i) → (∀ q, q < p → K1 123 q = K 123 q) → K1 123 p = w - 1 → LsM c K1 l2 → l2 ++ ctl (fun w => if okx W op p w cnt then En W op nw k (ctp W p w cnt) (up1 ch p w) else []) j w = ls ++ (En W op nw k cnt (up1 ch p (-1)) ++ ctl (fun w => if okx W op p w cnt then En W op nw k (ctp W p w cnt) (up1 ch p w) else []) nw 0) → Ev (fun n => kf_254 n dp e 2 K1 L c p) (FinM L c K0 full) := by
      intro j
      refine Nat.strongRecOn j (fun j jh => ?_)
      intro w K1 l2 hw hw0 g1 g2 g3 g4 g5 g6 g7
      refine ev_254_2 ?_
      refine Ev_f (by omega) (Ev_t hc (Ev_c (fun z => Ev_ret (stop K1 l2 (ctl (fun w => if okx W op p w cnt then En W op nw k (ctp W p w cnt) (up1 ch p w) else []) j w ++ rest) g2 g6 (by rw [← List.append_assoc, g7]; exact hfull) z)) (fun z => Ev_f (by omega) (Ev_t (by omega) ?_))))
      have e256 : Ev (fun n => kf_256 n (dp - 1) e 0 K1 L c p 0 0 0 0 0) (fun r => r.2.2 = L ∧ (∀ a i, ¬ (a = 123 ∧ i = p) → ¬ (a = 124 ∧ 10 * p + 10 ≤ i ∧ i < 10 * p + 20) → r.2.1 a i = K1 a i) ∧ ((r.1 = 0 ∧ ctl (fun w => if okx W op p w cnt then En W op nw k (ctp W p w cnt) (up1 ch p w) else []) j w = []) ∨ (r.1 = 1 ∧ ∃ (w' : Int) (j' : Nat), w ≤ w' ∧ j' < j ∧ w' + j' + 1 = nw ∧ okx W op p w' cnt ∧ ctl (fun w => if okx W op p w cnt then En W op nw k (ctp W p w cnt) (up1 ch p w) else []) j w = En W op nw k (ctp W p w' cnt) (up1 ch p w') ++ ctl (fun w => if okx W op p w cnt then En W op nw k (ctp W p w cnt) (up1 ch p w) else []) j' (w' + 1) ∧ r.2.1 123 p = w' ∧ ∀ q, 0 ≤ q → q < 10 → r.2.1 124 (10 * p + 10 + q) = ctp W p w' cnt q))) := by
        refine ev_256_0 ?_
        exact Ev_t (by omega) (K256w (by omega) hc pb hcb j w K1 hw hw0 g1 g5 (fun q a b => by rw [g3 _ (by omega)]; exact h4 q a b))
      refine Ev_bind e256 ?_
      rintro ⟨x, K2, L2⟩ ⟨q1, q2, q3⟩
      dsimp only at q1 q2 q3 ⊢
      subst q1
      have R2 : RfO c K2 W op nw := RfO_c (fun i => q2 _ _ (by omega) (by omega)) (fun i => q2 _ _ (by omega) (by omega)) g1
      have F2 : FrV c K0 K2 := FrV_t g2 ⟨fun a i _ _ _ c4 c5 => q2 a i (by omega) (by omega), fun i _ => ⟨q2 _ _ (by omega) (by omega), q2 _ _ (by omega) (by omega)⟩⟩
      have L2 : LsM c K2 l2 := by
        unfold LsM
        rw [q2 _ _ (by omega) (by omega)]
        exact LsO_c (fun i _ _ => ⟨q2 _ _ (by omega) (by omega), q2 _ _ (by omega) (by omega)⟩) g6
      rcases q3 with ⟨rfl, q4⟩ | ⟨rfl, w', j', a1, a2, a3, ok, a5, a6, a7⟩
      · rw [q4, List.append_nil] at g7
        refine Ev_t rfl (Ev_t (by omega) ?_)
        rw [show p + -1 = p - 1 by omega]
        refine next K2 R2 F2 (fun i hi => (q2 _ _ (by omega) (by omega)).trans (g3 i hi)) (fun q hq => (q2 _ _ (by omega) (by omega)).trans (g4 q hq)) ?_
        rw [← g7]
        exact L2
      · obtain ⟨z1, z2, z3, z4⟩ := ok
        have wq := (g1.2.2 w' (by omega) (by omega)).2.2.2.2
        refine Ev_f (by decide) (deeper K2 (ctp W p w' cnt) (up1 ch p w') l2 (ctl (fun w => if okx W op p w cnt then En W op nw k (ctp W p w cnt) (up1 ch p w) else []) j' (w' + 1) ++ rest) R2 F2 a7 (fun q x0 x1 => ?_) (ctp_b (op := op) (fun q x0 x1 => (wq q x0 x1).2.1) pb hcn) z4 L2 ?_ (fun K' x1 x2 x3 x4 x5 => ?_))
        · by_cases y : q = p
          · subst y; rw [up1_s]; exact a6
          · rw [up1_o y, q2 _ _ (by omega) (by omega), g4 q (by omega)]; exact h3 q x0 (by omega)
        · rw [← List.append_assoc, List.append_assoc l2, ← a5, g7]; exact hfull
        · refine jh j' a2 (w' + 1) K' _ (by omega) (by omega) x1 x2 (fun i hi => (x3 i hi).trans ((q2 _ _ (by omega) (by omega)).trans (g3 i hi))) (fun q hq => (x4 q (by omega)).trans ((q2 _ _ (by omega) (by omega)).trans (g4 q hq))) ?_ x5 ?_
          · rw [x4 p (by omega), a6]; omega
          · rw [List.append_assoc, ← a5]; exact g7
    /- none chosen -/
    refine ev_254_2 ?_
    refine Ev_f (by omega) (Ev_t hc (Ev_c (fun z => Ev_ret (stop K ls ((En W op nw k cnt (up1 ch p (-1)) ++ ctl (fun w => if okx W op p w cnt then En W op nw k (ctp W p w cnt) (up1 ch p w) else []) nw 0) ++ rest) hF hL (by rw [← List.append_assoc]; exact hfull) z)) (fun z => Ev_f (by omega) (Ev_t (by omega) (Ev_bind (K256n (dp := dp - 1) pb hR.1 h2 h4) ?_)))))
    rintro ⟨x, K1, L1⟩ ⟨q1, q2, q3, q4, q5⟩
    dsimp only at q1 q2 q3 q4 q5 ⊢
    subst q1
    subst q2
    have R1 : RfO c K1 W op nw := RfO_c (fun i => q3 _ _ (by omega) (by omega)) (fun i => q3 _ _ (by omega) (by omega)) hR
    have F1 : FrV c K0 K1 := FrV_t hF ⟨fun a i _ _ _ c4 c5 => q3 a i (by omega) (by omega), fun i _ => ⟨q3 _ _ (by omega) (by omega), q3 _ _ (by omega) (by omega)⟩⟩
    have L1' : LsM c K1 ls := by
      unfold LsM
      rw [q3 _ _ (by omega) (by omega)]
      exact LsO_c (fun i _ _ => ⟨q3 _ _ (by omega) (by omega), q3 _ _ (by omega) (by omega)⟩) hL
    refine Ev_f (by decide) (deeper K1 cnt (up1 ch p (-1)) ls (ctl (fun w => if okx W op p w cnt then En W op nw k (ctp W p w cnt) (up1 ch p w) else []) nw 0 ++ rest) R1 F1 q5 (fun q x0 x1 => ?_) hcn hs L1' ?_ (fun K' x1 x2 x3 x4 x5 => ?_))
    · by_cases y : q = p
      · subst y; rw [up1_s]; exact q4
      · rw [up1_o y, q3 _ _ (by omega) (by omega)]; exact h3 q x0 (by omega)
    · rw [← hfull]
      simp only [List.append_assoc]
    · refine ways nw 0 K' _ (by omega) (by omega) x1 x2 (fun i hi => (x3 i hi).trans (q3 _ _ (by omega) (by omega))) (fun q hq => (x4 q (by omega)).trans (q3 _ _ (by omega) (by omega))) ?_ x5 (by rw [List.append_assoc])
      rw [x4 p (by omega), q4]; rfl
end FD
