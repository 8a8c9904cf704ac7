section
set_option maxRecDepth 100000 in
theorem ev_255_2 {dp : Nat} {e : EN} {I : JI} {L : JI} {i1 : Int} {i2 : Int} {i3 : Int} {P_ : (JI × JI) → Prop} (h : Ev (fun n => (if 0 ≤ i1 ∧ i1 < 3 then (if 0 ≤ i1 ∧ i1 < 3 then (if -2147483648 ≤ (I 120 i1) + 1 ∧ (I 120 i1) + 1 ≤ 2147483647 then (stI (w2 I 120 i1 ((I 120 i1) + 1)) (fun I_81 => (some (I_81, L)))) else none) else none) else none)) P_) : Ev (fun n => kf_255 n dp e 2 I L i1 i2 i3) P_ := Ev_step (fun n => ke_255_2 n dp e I L i1 i2 i3) h
set_option maxRecDepth 100000 in
theorem ev_255_1 {dp : Nat} {e : EN} {I : JI} {L : JI} {i1 : Int} {i2 : Int} {i3 : Int} {P_ : (JI × JI) → Prop} (h : Ev (fun n => (if 10 ≤ i3 then (kf_255 n dp e 2 I L i1 0 0) else (if 0 ≤ i3 ∧ i3 < 10 then (if -2147483648 ≤ i2 + i3 ∧ i2 + i3 ≤ 2147483647 then (if 0 ≤ (i2 + i3) ∧ (i2 + i3) < 1920 then (stI (w2 I 121 (i2 + i3) (I 123 i3)) (fun I_48 => (if -2147483648 ≤ 100 + i3 ∧ 100 + i3 ≤ 2147483647 then (if 0 ≤ (100 + i3) ∧ (100 + i3) < 110 then (if 0 ≤ (i2 + i3) ∧ (i2 + i3) < 1920 then (stI (w2 I_48 122 (i2 + i3) (I_48 124 (100 + i3))) (fun I_65 => (if -2147483648 ≤ i3 + 1 ∧ i3 + 1 ≤ 2147483647 then (kf_255 n dp e 1 I_65 L i1 i2 (i3 + 1)) else none))) else none) else none) else none))) else none) else none) else none))) P_) : Ev (fun n => kf_255 n dp e 1 I L i1 i2 i3) P_ := Ev_step (fun n => ke_255_1 n dp e I L i1 i2 i3) h
set_option maxRecDepth 100000 in
theorem ev_255_0 {dp : Nat} {e : EN} {I : JI} {L : JI} {i1 : Int} {i2 : Int} {i3 : Int} {P_ : (JI × JI) → Prop} (h : Ev (fun n => (if 0 ≤ i1 ∧ i1 < 3 then (if 64 ≤ (I 120 i1) then (kf_255 n dp e 2 I L i1 0 0) else (if 0 ≤ i1 ∧ i1 < 3 then (if (-2147483648 ≤ 640 * i1 ∧ 640 * i1 ≤ 2147483647) ∧ (-2147483648 ≤ 10 * (I 120 i1) ∧ 10 * (I 120 i1) ≤ 2147483647) ∧ (-2147483648 ≤ (640 * i1) + (10 * (I 120 i1)) ∧ (640 * i1) + (10 * (I 120 i1)) ≤ 2147483647) then (stI ((640 * i1) + (10 * (I 120 i1))) (fun v_26 => (kf_255 n dp e 1 I L i1 v_26 0))) else none) else none)) else none)) P_) : Ev (fun n => kf_255 n dp e 0 I L i1 i2 i3) P_ := Ev_step (fun n => ke_255_0 n dp e I L i1 i2 i3) h
set_option maxRecDepth 100000 in
theorem ev_256_2 {dp : Nat} {e : EN} {I : JI} {L : JI} {i1 : Int} {i2 : Int} {i3 : Int} {i4 : Int} {i5 : Int} {i6 : Int} {i7 : Int} {P_ : (Int × JI × JI) → Prop} (h : Ev (fun n => (if 10 ≤ i6 then (kf_256 n dp e 4 I L i1 i2 i3 1 i5 0 0) else (if -2147483648 ≤ i3 + i6 ∧ i3 + i6 ≤ 2147483647 then (if 0 ≤ (i3 + i6) ∧ (i3 + i6) < 110 then (if (-2147483648 ≤ i3 + 10 ∧ i3 + 10 ≤ 2147483647) ∧ (-2147483648 ≤ (i3 + 10) + i6 ∧ (i3 + 10) + i6 ≤ 2147483647) then (if 0 ≤ ((i3 + 10) + i6) ∧ ((i3 + 10) + i6) < 110 then (stI (w2 I 124 ((i3 + 10) + i6) (I 124 (i3 + i6))) (fun I_83 => (if -2147483648 ≤ i6 + 1 ∧ i6 + 1 ≤ 2147483647 then (kf_256 n dp e 2 I_83 L i1 i2 i3 i4 i5 (i6 + 1) 0) else none))) else none) else none) else none) else none))) P_) : Ev (fun n => kf_256 n dp e 2 I L i1 i2 i3 i4 i5 i6 i7) P_ := Ev_step (fun n => ke_256_2 n dp e I L i1 i2 i3 i4 i5 i6 i7) h
set_option maxRecDepth 100000 in
theorem ev_256_3 {dp : Nat} {e : EN} {I : JI} {L : JI} {i1 : Int} {i2 : Int} {i3 : Int} {i4 : Int} {i5 : Int} {i6 : Int} {i7 : Int} {P_ : (Int × JI × JI) → Prop} (h : Ev (fun n => (if 10 ≤ i7 then (if 200 < i6 then (kf_256 n dp e 4 I L i1 i2 i3 0 i5 0 0) else (kf_256 n dp e 4 I L i1 i2 i3 1 i5 0 0)) else (if i7 = i2 then (if (-2147483648 ≤ i3 + 10 ∧ i3 + 10 ≤ 2147483647) ∧ (-2147483648 ≤ (i3 + 10) + i7 ∧ (i3 + 10) + i7 ≤ 2147483647) then (if 0 ≤ ((i3 + 10) + i7) ∧ ((i3 + 10) + i7) < 110 then (stI (w2 I 124 ((i3 + 10) + i7) 0) (fun I_209 => (if (-2147483648 ≤ i6 + 0 ∧ i6 + 0 ≤ 2147483647) ∧ (-2147483648 ≤ i7 + 1 ∧ i7 + 1 ≤ 2147483647) then (kf_256 n dp e 3 I_209 L i1 i2 i3 i4 i5 (i6 + 0) (i7 + 1)) else none))) else none) else none) else (if -2147483648 ≤ i3 + i7 ∧ i3 + i7 ≤ 2147483647 then (if 0 ≤ (i3 + i7) ∧ (i3 + i7) < 110 then (if -2147483648 ≤ i3 + i2 ∧ i3 + i2 ≤ 2147483647 then (if 0 ≤ (i3 + i2) ∧ (i3 + i2) < 110 then (if 1 ≤ dp then ((kf_241 n (dp - 1) e 0 I L i5 i7).bind (fun ⟨x0_189, I0_189, L0_189⟩ => (if (-2147483648 ≤ (I 124 (i3 + i2)) * x0_189 ∧ (I 124 (i3 + i2)) * x0_189 ≤ 2147483647) ∧ (-2147483648 ≤ (I 124 (i3 + i7)) + ((I 124 (i3 + i2)) * x0_189) ∧ (I 124 (i3 + i7)) + ((I 124 (i3 + i2)) * x0_189) ≤ 2147483647) then (stI ((I 124 (i3 + i7)) + ((I 124 (i3 + i2)) * x0_189)) (fun v_194 => (if (-2147483648 ≤ i3 + 10 ∧ i3 + 10 ≤ 2147483647) ∧ (-2147483648 ≤ (i3 + 10) + i7 ∧ (i3 + 10) + i7 ≤ 2147483647) then (if 0 ≤ ((i3 + 10) + i7) ∧ ((i3 + 10) + i7) < 110 then (stI (w2 I0_189 124 ((i3 + 10) + i7) v_194) (fun I_209 => (if (-2147483648 ≤ i6 + v_194 ∧ i6 + v_194 ≤ 2147483647) ∧ (-2147483648 ≤ i7 + 1 ∧ i7 + 1 ≤ 2147483647) then (kf_256 n dp e 3 I_209 L0_189 i1 i2 i3 i4 i5 (i6 + v_194) (i7 + 1)) else none))) else none) else none))) else none))) else none) else none) else none) else none) else none)))) P_) : Ev (fun n => kf_256 n dp e 3 I L i1 i2 i3 i4 i5 i6 i7) P_ := Ev_step (fun n => ke_256_3 n dp e I L i1 i2 i3 i4 i5 i6 i7) h
end
/-! CUTTINGS: the reference's -/
def FrV (c : Int) (K K' : JI) : Prop := (∀ a i, ¬ (a = 120 ∧ i = c) → ¬ a = 121 → ¬ a = 122 → ¬ a = 123 → ¬ a = 124 → K' a i = K a i) ∧ ∀ i, ¬ (640 * c ≤ i ∧ i < 640 * c + 640) → K' 121 i = K 121 i ∧ K' 122 i = K 122 i
theorem FrV_r (c : Int) (K : JI) : FrV c K K := ⟨fun _ _ _ _ _ _ _ => rfl, fun _ _ => ⟨rfl, rfl⟩⟩
theorem FrV_t {c : Int} {K K1 K2 : JI} (h : FrV c K K1) (g : FrV c K1 K2) : FrV c K K2 := ⟨fun a i x1 x2 x3 x4 x5 => (g.1 a i x1 x2 x3 x4 x5).trans (h.1 a i x1 x2 x3 x4 x5), fun i hi => ⟨(g.2 i hi).1.trans (h.2 i hi).1, (g.2 i hi).2.trans (h.2 i hi).2⟩⟩
def LsM (c : Int) (K : JI) (l : List CT) : Prop := LsO (K 120 c) (fun i => K 121 (640 * c + i)) (fun i => K 122 (640 * c + i)) l
/-- what the reference looks at -/
def RfO (c : Int) (K : JI) (W op : Int → Int) (nw : Nat) : Prop := K 107 9 = nw ∧ nw ≤ 16 ∧ (∀ w : Int, 0 ≤ w → w < nw → (K 125 (16 * c + w) = 0 ∨ K 125 (16 * c + w) = 1) ∧ K 125 (16 * c + w) = op w ∧ K 107 (290 + 11 * w) = W (11 * w) ∧ (0 ≤ W (11 * w) ∧ W (11 * w) ≤ 9) ∧ ∀ q, 0 ≤ q → q < 10 → K 107 (290 + 11 * w + 1 + q) = W (11 * w + 1 + q) ∧ 0 ≤ W (11 * w + 1 + q) ∧ W (11 * w + 1 + q) ≤ 3600)
theorem RfO_c {c : Int} {K K' : JI} {W op : Int → Int} {nw : Nat} (h7 : ∀ i, K' 107 i = K 107 i) (h5 : ∀ i, K' 125 i = K 125 i) (h : RfO c K W op nw) : RfO c K' W op nw := by
  obtain ⟨a, b, d⟩ := h
  refine ⟨(h7 _).trans a, b, fun w x y => ?_⟩
  have := d w x y
  rw [h5, h7]
  exact ⟨this.1, this.2.1, this.2.2.1, this.2.2.2.1, fun q u v => by rw [h7]; exact this.2.2.2.2 q u v⟩
section FD
variable {dp : Nat} {e : EN} {L : JI} {W op : Int → Int} {nw : Nat} {c : Int}
theorem K255 {K : JI} {x1 x2 : Int} {cnt ch : Int → Int} {ls : List CT} (hc : 0 ≤ c ∧ c < 3) (hm : K 120 c ≤ 64) (h3 : ∀ q, 0 ≤ q → q < 10 → K 123 q = ch q) (h4 : ∀ q, 0 ≤ q → q < 10 → K 124 (100 + q) = cnt q) (hL : LsM c K ls) : Ev (fun n => kf_255 n dp e 0 K L c x1 x2) (fun r => r.2 = L ∧ FrV c K r.1 ∧ (∀ i, r.1 123 i = K 123 i) ∧ (∀ i, r.1 124 i = K 124 i) ∧ LsM c r.1 (ls ++ [(ch, cnt)])) := by
  have h1 := hL.1
  have len : (ls ++ [(ch, cnt)]).length = ls.length + 1 := by rw [List.length_append]; rfl
  have two : ∀ K1 : JI, K1 120 c = K 120 c → FrV c K K1 → (∀ i, K1 123 i = K 123 i) → (∀ i, K1 124 i = K 124 i) → LsO (K 120 c + 1) (fun i => K1 121 (640 * c + i)) (fun i => K1 122 (640 * c + i)) (ls ++ [(ch, cnt)]) → Ev (fun n => kf_255 n dp e 2 K1 L c 0 0) (fun r => r.2 = L ∧ FrV c K r.1 ∧ (∀ i, r.1 123 i = K 123 i) ∧ (∀ i, r.1 124 i = K 124 i) ∧ LsM c r.1 (ls ++ [(ch, cnt)])) := by
    intro K1 z f g3 g4 l
    refine ev_255_2 ?_
    refine Ev_t hc (Ev_t hc (Ev_t (by omega) (Ev_st (Ev_ret ⟨rfl, ⟨fun a i c1 c2 c3' c4 c5 => ?_, fun i hi => ?_⟩, fun q => ?_, fun q => ?_, ?_⟩))))
    · dsimp only; rw [w2_n c1]; exact f.1 a i c1 c2 c3' c4 c5
    · dsimp only; rw [w2_n (by omega), w2_n (by omega)]; exact f.2 i hi
    · dsimp only; rw [w2_n (by omega)]; exact g3 q
    · dsimp only; rw [w2_n (by omega)]; exact g4 q
    · unfold LsM
      dsimp only
      rw [w2_ap, if_pos ⟨rfl, rfl⟩, z]
      exact LsO_c (fun i _ _ => ⟨w2_n (by omega), w2_n (by omega)⟩) l
  have key : K 120 c < 64 → ∀ k : Nat, k ≤ 10 → ∀ K1 : JI, (∀ a i, ¬ (a = 121 ∧ 640 * c + 10 * K 120 c ≤ i ∧ i < 640 * c + 10 * K 120 c + 10) → ¬ (a = 122 ∧ 640 * c + 10 * K 120 c ≤ i ∧ i < 640 * c + 10 * K 120 c + 10) → K1 a i = K a i) → (∀ q : Int, 0 ≤ q → q < k → K1 121 (640 * c + 10 * K 120 c + q) = ch q ∧ K1 122 (640 * c + 10 * K 120 c + q) = cnt q) → Ev (fun n => kf_255 n dp e 1 K1 L c (640 * c + 10 * K 120 c) k) (fun r => r.2 = L ∧ FrV c K r.1 ∧ (∀ i, r.1 123 i = K 123 i) ∧ (∀ i, r.1 124 i = K 124 i) ∧ LsM c r.1 (ls ++ [(ch, cnt)])) := by
    intro hlt
    refine dec_ind 10 (fun k hk ih => ?_)
    intro K1 f1 f3
    refine ev_255_1 ?_
    by_cases ck : k < 10
    · have ih := ih ck
      have e3 : K1 123 k = ch k := (f1 _ _ (by omega) (by omega)).trans (h3 k (by omega) (by omega))
      have e4 : ∀ v, (w2 K1 121 (640 * c + 10 * K 120 c + k) v) 124 (100 + k) = cnt k := fun v => by rw [w2_n (by omega), f1 _ _ (by omega) (by omega)]; exact h4 k (by omega) (by omega)
      refine Ev_f (by omega) (Ev_t (by omega) (Ev_t (by omega) (Ev_t (by omega) ?_)))
      rw [e3]
      refine Ev_st (Ev_t (by omega) (Ev_t (by omega) (Ev_t (by omega) ?_)))
      rw [e4]
      refine Ev_st (Ev_t (by omega) (ih _ (fun a i g1 g2 => ?_) (fun q a b => ?_)))
      · rw [w2_n (by omega), w2_n (by omega)]; exact f1 a i g1 g2
      · by_cases z : q = k
        · subst z
          refine ⟨by rw [w2_n (by omega), w2_ap, if_pos ⟨rfl, rfl⟩], by rw [w2_ap, if_pos ⟨rfl, rfl⟩]⟩
        · rw [w2_n (by omega), w2_n (by omega), w2_n (by omega), w2_n (by omega)]
          exact f3 q a (by omega)
    · have : k = 10 := by omega
      subst this
      refine Ev_t (by decide) (two K1 (f1 _ _ (by omega) (by omega)) ⟨fun a i c1 c2 c3' c4 c5 => f1 a i (by omega) (by omega), fun i hi => ⟨f1 _ _ (by omega) (by omega), f1 _ _ (by omega) (by omega)⟩⟩ (fun i => f1 _ _ (by omega) (by omega)) (fun i => f1 _ _ (by omega) (by omega)) ⟨by rw [len]; omega, fun i hi x hx p a b => ?_⟩)
      dsimp only
      by_cases y : i < ls.length
      · rw [List.getElem?_append_left y] at hx
        rw [f1 _ _ (by omega) (by omega), f1 _ _ (by omega) (by omega)]
        exact hL.2 i hi x hx p a b
      · have yi : i = ls.length := by
          have := (List.getElem?_eq_some_iff.mp hx).1
          rw [len] at this
          omega
        rw [List.getElem?_append_right (by omega), yi, Nat.sub_self] at hx
        cases hx
        have e10 : 640 * c + (10 * ((i : Nat) : Int) + p) = 640 * c + 10 * K 120 c + p := by omega
        rw [e10]
        exact f3 p a (by omega)
  refine ev_255_0 ?_
  refine Ev_t hc (Ev_c (fun z => two K rfl (FrV_r c K) (fun _ => rfl) (fun _ => rfl) ?_) (fun z => Ev_t hc (Ev_t (by omega) (Ev_st (key (by omega) 0 (by omega) K (fun _ _ _ _ => rfl) (fun q a b => by omega))))))
  refine ⟨by rw [len]; omega, fun i hi x hx p a b => ?_⟩
  rw [List.getElem?_append_left (by omega)] at hx
  exact hL.2 i hi x hx p a b
/-- the row behind, as it was -/
theorem K256_2 {K : JI} {p x5 : Int} {Q : Int × JI × JI → Prop} {cnt : Int → Int} (hp : 0 ≤ p ∧ p < 10) (h4 : ∀ q, 0 ≤ q → q < 10 → K 124 (10 * p + q) = cnt q) (g : ∀ K1 : JI, (∀ a i, ¬ (a = 124 ∧ 10 * p + 10 ≤ i ∧ i < 10 * p + 20) → K1 a i = K a i) → (∀ q, 0 ≤ q → q < 10 → K1 124 (10 * p + 10 + q) = cnt q) → Ev (fun n => kf_256 n dp e 4 K1 L c p (10 * p) 1 x5 0 0) Q) : Ev (fun n => kf_256 n dp e 2 K L c p (10 * p) 0 x5 0 0) Q := by
  have key : ∀ k : Nat, k ≤ 10 → ∀ K1 : JI, (∀ a i, ¬ (a = 124 ∧ 10 * p + 10 ≤ i ∧ i < 10 * p + 20) → K1 a i = K a i) → (∀ q : Int, 0 ≤ q → q < k → K1 124 (10 * p + 10 + q) = cnt q) → Ev (fun n => kf_256 n dp e 2 K1 L c p (10 * p) 0 x5 k 0) Q := by
    refine dec_ind 10 (fun k hk ih => ?_)
    intro K1 f1 f2
    refine ev_256_2 ?_
    by_cases ck : k < 10
    · have ih := ih ck
      have e4 : K1 124 (10 * p + k) = cnt k := (f1 _ _ (by omega)).trans (h4 k (by omega) (by omega))
      refine Ev_f (by omega) (Ev_t (by omega) (Ev_t (by omega) (Ev_t (by omega) (Ev_t (by omega) ?_))))
      rw [e4]
      refine Ev_st (Ev_t (by omega) (ih _ (fun a i h => ?_) (fun q a b => ?_)))
      · rw [w2_n (by omega)]; exact f1 a i h
      · by_cases z : q = k
        · subst z
          rw [w2_ap, if_pos ⟨rfl, rfl⟩]
        · rw [w2_n (by omega)]; exact f2 q a (by omega)
    · have : k = 10 := by omega
      subst this
      exact Ev_t (by decide) (g K1 f1 (fun q a b => f2 q a (by omega)))
  exact key 0 (by omega) K (fun _ _ _ => rfl) (fun q a b => by omega)
/-- the row behind, with a way cut -/
theorem K256_3 {K : JI} {p w : Int} {Q : Int × JI × JI → Prop} {cnt : Int → Int} (hd : 1 ≤ dp) (hp : 0 ≤ p ∧ p < 10) (hR : RfO c K W op nw) (hw : 0 ≤ w ∧ w < nw) (hcn : ∀ q, 0 ≤ q → q < 10 → 0 ≤ cnt q ∧ cnt q ≤ 200) (h4 : ∀ q, 0 ≤ q → q < 10 → K 124 (10 * p + q) = cnt q) (g : ∀ K1 : JI, (∀ a i, ¬ (a = 124 ∧ 10 * p + 10 ≤ i ∧ i < 10 * p + 20) → K1 a i = K a i) → (∀ q, 0 ≤ q → q < 10 → K1 124 (10 * p + 10 + q) = ctp W p w cnt q) → ∀ y, y = (if 200 < sm (ctp W p w cnt) 10 then 0 else 1) → Ev (fun n => kf_256 n dp e 4 K1 L c p (10 * p) y w 0 0) Q) : Ev (fun n => kf_256 n dp e 3 K L c p (10 * p) 0 w 0 0) Q := by
  obtain ⟨r1, r2, r3⟩ := hR
  obtain ⟨_, _, _, _, wq⟩ := r3 w hw.1 hw.2
  have tb : ∀ q, 0 ≤ q → q < 10 → 0 ≤ cnt p * W (11 * w + 1 + q) ∧ cnt p * W (11 * w + 1 + q) ≤ 200 * 3600 := fun q a b => mulb (hcn p hp.1 hp.2) (wq q a b).2
  have cb : ∀ q, 0 ≤ q → q < 10 → 0 ≤ ctp W p w cnt q ∧ ctp W p w cnt q ≤ 720200 := by
    intro q a b
    have := tb q a b
    have := hcn q a b
    unfold ctp
    rw [if_pos (show 0 ≤ q ∧ q < 10 from ⟨a, b⟩)]
    split <;> omega
  have key : ∀ k : Nat, k ≤ 10 → ∀ K1 : JI, (∀ a i, ¬ (a = 124 ∧ 10 * p + 10 ≤ i ∧ i < 10 * p + 20) → K1 a i = K a i) → (∀ q : Int, 0 ≤ q → q < k → K1 124 (10 * p + 10 + q) = ctp W p w cnt q) → Ev (fun n => kf_256 n dp e 3 K1 L c p (10 * p) 0 w (sm (ctp W p w cnt) k) k) Q := by
    refine dec_ind 10 (fun k hk ih => ?_)
    intro K1 f1 f2
    have sb := sm_b (f := ctp W p w cnt) (B := 720200) k (fun i a b => cb i a (by omega))
    refine ev_256_3 ?_
    by_cases ck : k < 10
    · have ih := ih ck
      rw [sm_s] at ih
      have e7 : ∀ i, K1 107 i = K 107 i := fun i => f1 _ _ (by omega)
      have st : ∀ v : Int, v = ctp W p w cnt k → Ev (fun n => kf_256 n dp e 3 (w2 K1 124 (10 * p + 10 + k) v) L c p (10 * p) 0 w (sm (ctp W p w cnt) k + v) (k + 1)) Q := by
        intro v hv
        rw [hv]
        refine ih _ (fun a i h => ?_) (fun q a b => ?_)
        · rw [w2_n (by omega)]; exact f1 a i h
        · by_cases z : q = k
          · subst z
            rw [w2_ap, if_pos ⟨rfl, rfl⟩]
          · rw [w2_n (by omega)]; exact f2 q a (by omega)
      have c10 : (10 : Int) * p + 10 + k = 10 * p + 10 + k := rfl
      refine Ev_f (by omega) (Ev_c (fun z => ?_) (fun z => ?_))
      · have e0 : ctp W p w cnt k = 0 := if_pos z
        refine Ev_t (by omega) (Ev_t (by omega) (Ev_st (Ev_t (by omega) ?_)))
        exact st 0 e0.symm
      · have e1 : ctp W p w cnt k = cnt k + cnt p * W (11 * w + 1 + k) := by unfold ctp; rw [if_neg z, if_pos (by omega)]
        have e4 : K1 124 (10 * p + k) = cnt k := (f1 _ _ (by omega)).trans (h4 k (by omega) (by omega))
        have e5 : K1 124 (10 * p + p) = cnt p := (f1 _ _ (by omega)).trans (h4 p hp.1 hp.2)
        have e6 : K1 107 (290 + 11 * w + 1 + k) = W (11 * w + 1 + k) := (e7 _).trans (wq k (by omega) (by omega)).1
        have tk := tb k (by omega) (by omega)
        have ck2 := hcn k (by omega) (by omega)
        refine Ev_t (by omega) (Ev_t (by omega) (Ev_t (by omega) (Ev_t (by omega) (Ev_t hd (Ev_call (K241 (by omega) (by omega)) ?_)))))
        dsimp only
        simp only [e4, e5, e6]
        refine Ev_t (by omega) (Ev_st (Ev_t (by omega) (Ev_t (by omega) (Ev_st (Ev_t (by omega) ?_)))))
        exact st _ e1.symm
    · have : k = 10 := by omega
      subst this
      refine Ev_t (by decide) (Ev_c (fun z => g K1 f1 (fun q a b => f2 q a (by omega)) 0 (by rw [if_pos z])) (fun z => g K1 f1 (fun q a b => f2 q a (by omega)) 1 (by rw [if_neg z])))
  exact key 0 (by omega) K (fun _ _ _ => rfl) (fun q a b => by omega)
end FD
