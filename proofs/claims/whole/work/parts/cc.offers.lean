/-! THE CLASS'S PLANS: what stands when the offers are loaded -/
def OfP (J : JI) (rn : Nat) (od : Nat → Int) : Prop := LdO J rn od ∧ mkO J ∧ ∀ c : Nat, c < 3 → ctK J c
theorem OfP_c {J J' : JI} {rn : Nat} {od : Nat → Int} (h : ∀ a i, a = 4 ∨ (a = 26 ∧ 17 ≤ i ∧ i ≤ 19) ∨ (27 ≤ a ∧ a ≤ 43) ∨ (58 ≤ a ∧ a ≤ 72) → J' a i = J a i) (hP : OfP J rn od) : OfP J' rn od := by
  obtain ⟨⟨p1, p2, p3, p4, p5⟩, p6, p7⟩ := hP
  have e4 : J' 4 = J 4 := funext fun i => h _ _ (Or.inl rfl)
  have ew : wnC J' = wnC J := by unfold wnC; rw [e4]
  have eb : bnC J' = bnC J := by unfold bnC; rw [e4]
  have ea : ∀ a, 27 ≤ a → a ≤ 43 → J' a = J a := fun a x y => funext fun i => h _ _ (Or.inr (Or.inr (Or.inl ⟨x, y⟩)))
  have ec : ∀ a, 58 ≤ a → a ≤ 72 → J' a = J a := fun a x y => funext fun i => h _ _ (Or.inr (Or.inr (Or.inr ⟨x, y⟩)))
  have ek : ∀ c k : Nat, c < 3 → ovK J' (58 + 5 * c) k = ovK J (58 + 5 * c) k := fun c k hc => by unfold ovK; rw [e4, ec (58 + 5 * c + 2) (by omega) (by omega)]
  have ef : ∀ c k : Nat, c < 3 → fiK J' rn od (wnC J) c k = fiK J rn od (wnC J) c k := fun c k hc => by unfold fiK; rw [ec (58 + 5 * c + 2) (by omega) (by omega)]
  refine ⟨⟨?_, ?_, ?_, ?_, fun c hc => ?_⟩, ?_, fun c hc => ?_⟩
  · rw [ew, eb]; exact RtO_c (fun i hi => h _ _ (by omega)) (fun a i x y => h _ _ (by omega)) p1
  · rw [ew, h 26 18 (by omega)]; exact p2
  · rw [ew, eb]; exact p3
  · rw [ew, eb]; exact TbO_c (fun a i x y => h _ _ (by omega)) p4
  · unfold LdG
    rw [ew, eb, ec (58 + 5 * c) (by omega) (by omega)]
    intro q
    obtain ⟨g1, g2⟩ := p5 c hc q
    refine ⟨GrO_c (fun a i x => h _ _ (by omega)) (by omega) (fun k _ => ⟨by rw [ef c k hc], by rw [ek c k hc]⟩) g1, ?_⟩
    unfold TpO at *
    rw [ea 33 (by omega) (by omega)]
    refine ⟨fun k hk => ?_, g2.2⟩
    dsimp only
    rw [ek c k hc, ef c k hc]
    exact g2.1 k hk
  · unfold mkO at *
    rw [ew, e4]
    exact p6
  · have := p7 c hc
    unfold ctK at *
    rw [ec (58 + 5 * c) (by omega) (by omega), ec (58 + 5 * c + 2) (by omega) (by omega)]
    exact this
/-- offers of one carcass that can be -/
def okO (J : JI) (o : OF) : Prop := 1 ≤ o.1 ∧ (∀ k, k < o.1 → (0 ≤ o.2.1 k ∧ o.2.1 k ≤ 31968001) ∧ ∀ p, 0 ≤ o.2.2 k p) ∧ ∀ k, k < o.1 → 16 * sm (fun p => o.2.2 k p * J 4 (10 + p)) 10 ≤ o.2.1 k
theorem okO_l {J : JI} {o : Nat → OF} : ∀ D : Nat, (∀ i, i < D → okO J (o i)) → SqB (lyL o D) ∧ SqV (fun p => J 4 (10 + p)) (lyL o D) ∧ ∃ x, x ∈ Sq (lyL o D)
  | 0, _ => ⟨SqB_0, SqV_0, (0, fun _ => 0), by simp [lyL, Sq]⟩
  | D + 1, h => by
    obtain ⟨r1, r2, x, r3⟩ := okO_l D (fun i hi => h i (by omega))
    obtain ⟨q1, q2, q3⟩ := h D (by omega)
    refine ⟨SqB_s q2 r1, SqV_s q3 r2, adX (o D) (0, x), ?_⟩
    exact List.mem_map.2 ⟨(0, x), pr_i.2 ⟨by omega, r3⟩, rfl⟩
def of0 (J : JI) (c : Nat) : OF := ((J (58 + 5 * c) 4).toNat, fun k => 16 * ovK J (58 + 5 * c) k, lfC J c)
theorem gnC_0 {J : JI} {rn : Nat} {od : Nat → Int} {c : Nat} (hP : OfP J rn od) (hc : c < 3) (h64 : J (58 + 5 * c) 4 ≤ 64) : ∀ k, k < (J (58 + 5 * c) 4).toNat → 16 * ovK J (58 + 5 * c) k = gnC J c (-1) k := fun k hk => by
  obtain ⟨⟨n, n1, n2, n3, n4, n5⟩, _⟩ := hP.1.2.2.2.2 c hc h64
  obtain ⟨g, a, b, d⟩ := n4 k hk
  unfold gnC
  rw [if_neg (by omega)]
  omega
theorem okO_C {J : JI} {rn : Nat} {od : Nat → Int} {c : Nat} {fv : Int} {gn : Nat → Int} (hP : OfP J rn od) (hc : c < 3) (h64 : J (58 + 5 * c) 4 ≤ 64) (hgn : ∀ k, k < (J (58 + 5 * c) 4).toNat → gn k = gnC J c fv k) : okO J ((J (58 + 5 * c) 4).toNat, gn, lfC J c) := by
  have c1 := (hP.2.2 c hc).1.1
  have ob := ofC_b (fv := fv) (hP.2.2 c hc) hP.2.1 h64
  refine ⟨by show 1 ≤ (J (58 + 5 * c) 4).toNat; omega, fun k hk => ?_, fun k hk => ?_⟩
  · show (0 ≤ gn k ∧ gn k ≤ 31968001) ∧ ∀ p, 0 ≤ lfC J c k p
    rw [hgn k hk]
    exact ob k hk
  · show 16 * sm (fun p => lfC J c k p * J 4 (10 + p)) 10 ≤ gn k
    rw [hgn k hk]
    exact ofC_v (J := J) (c := c) (k := k) (fv := fv)
section KS
variable {rn : Nat} {od : Nat → Int} {b4 b5 b6 b7 len sl : Nat}
theorem gp_s {J : JI} {c : Nat} {fv : Int} {gn : Nat → Int} (hP : OfP J rn od) (hc : c < 3) (h64 : J (58 + 5 * c) 4 ≤ 64) (hgn : ∀ k, k < (J (58 + 5 * c) 4).toNat → gn k = gnC J c fv k) : ∃ n : Nat, J 32 c = n ∧ n ≤ 64 ∧ GpN (J (58 + 5 * c) 4).toNat gn (fun k => pkI (fiF rn od (wnC J) (lfC J c k))) n (fun g => J 27 ((c : Int) * 64 + g)) (fun g => J 28 ((c : Int) * 64 + g) + if (c : Int) * 64 + (g : Int) = fv then 1 else 0) (fun g => J 29 ((c : Int) * 64 + g)) ∧ ∀ g : Nat, g < n → J 29 ((c : Int) * 64 + g) ≤ 64 := by
  obtain ⟨n, n1, n2, n3, n4⟩ := gp_o (fv := fv) (hP.1.2.2.2.2 c hc) h64
  have hO := RtO_o hP.1.1
  refine ⟨n, n1, ?_, ⟨n3.1, fun k hk => ?_, fun g hg => ?_⟩, n4⟩
  · have : (ofC J c fv).1 = (J (58 + 5 * c) 4).toNat := rfl
    omega
  · dsimp only
    rw [fiK_l hO]; exact n3.2.1 k hk
  · refine MxH_c (fun k hk => ?_) (fun k hk _ => hgn k (List.mem_range.1 hk)) (n3.2.2 g hg)
    dsimp only
    rw [fiK_l hO]
theorem S107 {dp z : Nat} {kd : KD} {J M : JI} {R : RF} {c D : Nat} {fv : Int} {o : Nat → OF} {gn : Nat → Int} (hd : 3 ≤ dp) (hz : 144 ≤ z) (hE : LyE (z, kd, R) b4 b5 b6 b7 len sl) (hP : OfP J rn od) (hsl : prL (fun k => wnC J (od k) + 1) rn ≤ sl) (hc : c < 3) (h64 : J (58 + 5 * c) 4 ≤ 64) (hgn : ∀ k, k < (J (58 + 5 * c) 4).toNat → gn k = gnC J c fv k) (ho : o D = ((J (58 + 5 * c) 4).toNat, gn, lfC J c)) (hok : ∀ i, i < D → okO J (o i)) (hD : D ≤ 6) (hA : LyA rn od (wnC J) J b4 b5 b6 len o D) (hS : ∀ p : Int, 0 ≤ p → p < sl → J b7 p = 0) : Ev (fun n => kf_107 n dp 0 z kd J M R c fv 0 0 0) (StQ rn od (wnC J) b4 b5 b6 b7 sl z kd J M R o D c len) := by
  obtain ⟨n, n1, n2, n3, n4⟩ := gp_s (fv := fv) hP hc h64 hgn
  exact K107 (bn := bnC J) hd hz hE hc (RtO_o hP.1.1) (bdF_o hP.2.1 hP.1.1).1 hP.1.2.2.2.1 hsl n1 n2 (fun g hg => ⟨rfl, rfl, rfl, n4 g hg⟩) n3 (okO_C hP hc h64 hgn).2.1 ho (okO_l D hok).1 hD hA hS
theorem S115 {dp : Nat} {e : EN} {J L : JI} {c D : Nat} {fv : Int} {o : Nat → OF} {gn : Nat → Int} (hd : 2 ≤ dp) (hE : LyE e b4 b5 b6 b7 len sl) (hP : OfP J rn od) (hc : c < 3) (h64 : J (58 + 5 * c) 4 ≤ 64) (hgn : ∀ k, k < (J (58 + 5 * c) 4).toNat → gn k = gnC J c fv k) (hok : ∀ i, i < D → okO J (o i)) (hD : D ≤ 7) (hA : LyA rn od (wnC J) J b4 b5 b6 len o D) : Ev (fun n => kf_115 n dp e 0 J L c fv 0 0 0 0 0 0 0) (fun r => r.2 = L ∧ (∀ a i, ¬ (a = 44 ∧ (i = 8 ∨ i = 9)) → r.1 a i = J a i) ∧ MxH (Sq (((J (58 + 5 * c) 4).toNat, gn, lfC J c) :: lyL o D)) (vT (wnC J) (bnC J) 16 (fun _ => 0)) (fun _ => True) (r.1 44 8) (r.1 44 9) ∧ (0 ≤ r.1 44 8 ∧ r.1 44 8 ≤ 260000000) ∧ r.1 44 9 ≤ 1000000000) := by
  obtain ⟨n, n1, n2, n3, n4⟩ := gp_s (fv := fv) hP hc h64 hgn
  have hO := RtO_o hP.1.1
  obtain ⟨q1, q2, x, q3⟩ := okO_l D hok
  obtain ⟨w1, w2, w3⟩ := okO_C hP hc h64 hgn
  obtain ⟨a1, nt, a2, al, a3, a4⟩ := hA
  have e1 := a3 D (by omega)
  have e2 := a3 (D + 1) (Nat.le_refl _)
  rw [stN] at al e2
  have tp := (hP.1.2.2.2.2 c hc h64).2
  have nn : ∀ x ∈ Sq (((J (58 + 5 * c) 4).toNat, gn, lfC J c) :: lyL o D), 0 ≤ vT (wnC J) (bnC J) 16 (fun _ => 0) x := fun x hx => by
    have b1 := SqB_s w2 q1 x hx
    have b2 := SqV_s w3 q2 x hx
    exact vT_0 b2 b1.2 (fun p y z => by have := hP.2.1.1 p y z; unfold bnC; omega)
  refine Ev_mono (K115 (bn := bnC J) (tp := J 33 c) (D := D) (N := nt D) (s0 := stN nt D) (F := fun e => J b4 ((stN nt D : Nat) + (e : Int))) (S := fun e => J b5 ((stN nt D : Nat) + (e : Int))) (C := fun e => J b6 ((stN nt D : Nat) + (e : Int))) hd hE hc hO (bdF_o hP.2.1 hP.1.1).1 hP.1.2.2.2.1 n1 n2 (fun g hg => ⟨rfl, rfl, rfl, n4 g hg⟩) n3 w2 rfl ⟨fun k hk => ?_, tp.2⟩ q1 (by rw [lyL_n]; omega) (a4 D (Nat.le_refl _)).2 (fun e he => ⟨rfl, rfl, rfl⟩) al a1 (by omega) e1 (by rw [show (D : Int) + 1 = ((D + 1 : Nat) : Int) by omega, e2]; omega) (fun y hy => ?_) ⟨(0, x), pr_i.2 ⟨by have := w1; dsimp only at this; omega, q3⟩⟩) ?_
  · have := tp.1 k hk
    dsimp only at this
    rw [hgn k hk, fiK_l hO]
    unfold gnC
    split <;> omega
  · have := nn _ (List.mem_map.2 ⟨y, hy, rfl⟩)
    rw [← bo_v hO hP.1.2.2.1] at this
    exact this
  · rintro r ⟨p1, p2, p3, p4, p5⟩
    refine ⟨p1, p2, MxH_c (fun _ _ => Iff.rfl) (fun x _ _ => (bo_v hO hP.1.2.2.1).symm) p3, ⟨p4, ?_⟩, p5⟩
    obtain ⟨x, hx, _, vx⟩ := p3.2.1
    dsimp only at vx
    have b1 := SqB_s w2 q1 x hx
    have b2 := bo_b (bn := bnC J) hO (bdF_o hP.2.1 hP.1.1).1 b1.2
    have b3 := b1.1.2
    rw [List.length_cons, lyL_n] at b3
    omega
end KS
