/-! COPIES: what a copied tree and a copied hall mean -/
/-- the tree at T0 is a copy of the one at T1 -/
def TcE (J J1 : JI) (T0 T1 : Nat) : Prop := (∀ c, 0 ≤ c → c < J T1 10 → J1 (T0 + 1) c = J (T1 + 1) c ∧ J1 (T0 + 2) c = J (T1 + 2) c ∧ J1 (T0 + 3) c = J (T1 + 3) c ∧ J1 (T0 + 4) c = J (T1 + 4) c ∧ J1 (T0 + 5) c = J (T1 + 5) c) ∧ (∀ w, 0 ≤ w → w < J T1 11 → J1 (T0 + 6) w = J (T1 + 6) w ∧ J1 (T0 + 7) w = J (T1 + 7) w) ∧ (∀ i, 0 ≤ i → i < 160 → J1 (T0 + 8) i = J (T1 + 8) i) ∧ (∀ i, 0 ≤ i → i < J T1 12 → J1 (T0 + 9) i = J (T1 + 9) i ∧ J1 (T0 + 10) i = J (T1 + 10) i) ∧ J1 T0 10 = J T1 10 ∧ J1 T0 11 = J T1 11 ∧ J1 T0 12 = J T1 12 ∧ J1 T0 13 = J T1 13
/-- the hall at h0 is a copy of the one at h1 -/
def HcE (J J1 : JI) (h0 h1 : Nat) : Prop := (∀ i, 0 ≤ i → i < 3 → J1 (h0 + 1) i = J (h1 + 1) i) ∧ (∀ i, 0 ≤ i → i < 30 → J1 (h0 + 2) i = J (h1 + 2) i) ∧ (∀ i, 0 ≤ i → i < 30 → J1 (h0 + 3) i = J (h1 + 3) i) ∧ (∀ i, 0 ≤ i → i < 4 → J1 (h0 + 4) i = J (h1 + 4) i) ∧ (∀ i, 0 ≤ i → i < 8 → J1 (h0 + 5) i = J (h1 + 5) i) ∧ (∀ i, 0 ≤ i → i < 112 → J1 (h0 + 6) i = J (h1 + 6) i) ∧ (∀ i, 0 ≤ i → i < 40 → J1 (h0 + 7) i = J (h1 + 7) i) ∧ J1 h0 8 = J h1 8 ∧ J1 h0 9 = J h1 9 ∧ J1 h0 10 = J h1 10 ∧ J1 h0 11 = J h1 11 ∧ J1 h0 12 = J h1 12
section CP
variable {J J1 : JI} {T0 T1 h0 h1 u0 u1 : Nat} {ρ : Int → Int}
theorem TrW_cp {W : Int → Int} {nw : Nat} (c11 : J1 T0 11 = J T1 11) (c6 : ∀ w, 0 ≤ w → w < J T1 11 → J1 (T0 + 6) w = J (T1 + 6) w) (c8 : ∀ i, 0 ≤ i → i < 160 → J1 (T0 + 8) i = J (T1 + 8) i) (h : TrW J T1 W nw) : TrW J1 T0 W nw := by
  obtain ⟨a, b, c⟩ := h
  refine ⟨c11.trans a, b, fun w x y => ?_⟩
  obtain ⟨d1, d2, d3⟩ := c w x y
  exact ⟨by rw [c6 w x (by omega)]; exact d1, d2, fun q p r => by rw [c8 _ (by omega) (by omega)]; exact d3 q p r⟩
/-- both ways -/
theorem TcE_W (q : TcE J J1 T0 T1) (W : Int → Int) (nw : Nat) : TrW J1 T0 W nw ↔ TrW J T1 W nw := by
  obtain ⟨_, q6, q8, _, _, q11, _⟩ := q
  exact ⟨fun h => TrW_cp q11.symm (fun w a b => (q6 w a (by omega)).1.symm) (fun i a b => (q8 i a b).symm) h, fun h => TrW_cp q11 (fun w a b => (q6 w a b).1) q8 h⟩
theorem TrT_cp (q : TcE J J1 T0 T1) (e8 : J T1 10 = ρ 8) (e9 : J T1 11 = ρ 9) (r9 : ρ 9 ≤ 16) (kb : TkB J T1 (ρ 8)) (h : TrT J T1 ρ) : TrT J1 T0 ρ := by
  obtain ⟨q1, q6, q8, q9, _⟩ := q
  rw [e8] at q1
  rw [e9] at q6
  obtain ⟨⟨hw, hc⟩, e⟩ := h
  refine ⟨⟨fun i a b => ?_, fun i a b => ?_⟩, e⟩
  · obtain ⟨p1, p2, p3, p4, p5, p6, p7, p8⟩ := hw i a b
    have k := q6 i a b
    unfold WyO
    rw [k.1, k.2]
    exact ⟨p1, p2, fun p x y => by rw [q8 _ (by omega) (by omega)]; exact p3 p x y, p4, p5, p6, p7, p8⟩
  · obtain ⟨k1, k2, ⟨l0, l1, l2, l3, l4⟩, k4⟩ := hc i a b
    have kb' := kb i a b
    obtain ⟨f1, f2, f3, f4, f5⟩ := q1 i a b
    have cg : ∀ x y, 0 ≤ x → y ≤ J (T1 + 5) i → ∀ j, x ≤ j → j < y → cC T0 J1 j = cC T1 J j := fun x y a1 a2 j a3 a4 => by
      unfold cC
      rw [(q9 j (by omega) (by omega)).1, (q9 j (by omega) (by omega)).2]
    unfold ClO HdO
    rw [f1, f2, f3, f4, f5]
    refine ⟨?_, ?_, ⟨l0, l1, l2, l3, l4⟩, k4⟩
    · rcases k1 with ⟨y1, y2, ⟨y3, y4, y5⟩, y6⟩ | ⟨y1, d, h, y2, y3, y4⟩
      · exact Or.inl ⟨y1, y2, ⟨y3, y4, by rw [(q6 _ y3 y4).2]; exact y5⟩, y6⟩
      · exact Or.inr ⟨y1, d, h, y2, seg_congr (cg _ _ (by omega) (by omega)) y3, y4⟩
    · rcases k2 with y | ⟨d, h, y1, y2, y3, y4⟩
      · exact Or.inl y
      · exact Or.inr ⟨d, h, y1, y2, seg_congr (cg _ _ (by omega) (by omega)) y3, y4⟩
theorem hlC_cp (hc : HcE J J1 h0 h1) (q : TcE J J1 u0 u1) (r7 : ρ 7 ≤ 40) (r9 : ρ 9 ≤ 16) (h : hlC J h1 u1 ρ) : hlC J1 h0 u0 ρ := by
  obtain ⟨v1, v2, v3, v4, v5, v6, v7, v8, v9, v10, v11, v12, v13, v14, v15, v16, v17⟩ := h
  obtain ⟨_, q6, q8, _, q10, q11, q12, _⟩ := q
  obtain ⟨c1, c2, c3, c4, c5, c6, c7, d8, d9, d10, d11, d12⟩ := hc
  exact ⟨fun c a b => by rw [c1 c a b]; exact v1 c a b, fun c a b => by rw [c2 c a b]; exact v2 c a b, fun c a b => by rw [c3 c a b]; exact v3 c a b, fun c a b => by rw [c4 c a b]; exact v4 c a b, fun c a b => by rw [c5 c a b]; exact v5 c a b, fun c a b => by rw [c6 c a b]; exact v6 c a b, fun c a b => by rw [c7 c a (by omega)]; exact v7 c a b, d8.trans v8, d9.trans v9, d10.trans v10, d11.trans v11, d12.trans v12, q10.trans v13, q11.trans v14, fun w a b => by rw [(q6 w a (by omega)).1]; exact v15 w a b, fun w p a b x y => by rw [q8 _ (by omega) (by omega)]; exact v16 w p a b x y, by rw [q12]; exact v17⟩
theorem hcp_E (hs : u0 + 10 < u1 ∨ u1 + 10 < u0) (d0 : u0 + 10 < h0 ∨ h0 + 7 < u0) (d1 : u1 + 10 < h0 ∨ h0 + 7 < u1) (d2 : h1 + 7 < h0 ∨ h0 + 7 < h1) : HcE J (hcp J h0 h1 u0 u1) h0 h1 ∧ TcE J (hcp J h0 h1 u0 u1) u0 u1 ∧ ∀ a i, ¬ (h0 ≤ a ∧ a ≤ h0 + 7) → ¬ (u0 ≤ a ∧ a ≤ u0 + 10) → hcp J h0 h1 u0 u1 a i = J a i := by
  have wj : ∀ a i, ¬ a = h0 → hcp J h0 h1 u0 u1 a i = tcp (cp2 (cp2 (cp2 (cp2 (cp2 (cp2 (cp2 J (h0 + 1) (h1 + 1) 0 0 3) (h0 + 2) (h1 + 2) 0 0 30) (h0 + 3) (h1 + 3) 0 0 30) (h0 + 4) (h1 + 4) 0 0 4) (h0 + 5) (h1 + 5) 0 0 8) (h0 + 6) (h1 + 6) 0 0 112) (h0 + 7) (h1 + 7) 0 0 40) u0 u1 a i := fun a i x => by
    unfold hcp
    rw [w2_n (by omega), w2_n (by omega), w2_n (by omega), w2_n (by omega), w2_n (by omega)]
  have Kj : ∀ a i, ¬ (h0 + 1 ≤ a ∧ a ≤ h0 + 7) → cp2 (cp2 (cp2 (cp2 (cp2 (cp2 (cp2 J (h0 + 1) (h1 + 1) 0 0 3) (h0 + 2) (h1 + 2) 0 0 30) (h0 + 3) (h1 + 3) 0 0 30) (h0 + 4) (h1 + 4) 0 0 4) (h0 + 5) (h1 + 5) 0 0 8) (h0 + 6) (h1 + 6) 0 0 112) (h0 + 7) (h1 + 7) 0 0 40 a i = J a i := fun a i x => by
    rw [cp2_n (by omega), cp2_n (by omega), cp2_n (by omega), cp2_n (by omega), cp2_n (by omega), cp2_n (by omega), cp2_n (by omega)]
  refine ⟨⟨fun i a b => ?_, fun i a b => ?_, fun i a b => ?_, fun i a b => ?_, fun i a b => ?_, fun i a b => ?_, fun i a b => ?_, ?_, ?_, ?_, ?_, ?_⟩, ?_, fun a i x y => ?_⟩
  · rw [wj _ _ (by omega), tcp_o (by omega), cp2_n (by omega), cp2_n (by omega), cp2_n (by omega), cp2_n (by omega), cp2_n (by omega), cp2_n (by omega), cp2_s ⟨a, b⟩]
  · rw [wj _ _ (by omega), tcp_o (by omega), cp2_n (by omega), cp2_n (by omega), cp2_n (by omega), cp2_n (by omega), cp2_n (by omega), cp2_s ⟨a, b⟩, cp2_n (by omega)]
  · rw [wj _ _ (by omega), tcp_o (by omega), cp2_n (by omega), cp2_n (by omega), cp2_n (by omega), cp2_n (by omega), cp2_s ⟨a, b⟩, cp2_n (by omega), cp2_n (by omega)]
  · rw [wj _ _ (by omega), tcp_o (by omega), cp2_n (by omega), cp2_n (by omega), cp2_n (by omega), cp2_s ⟨a, b⟩, cp2_n (by omega), cp2_n (by omega), cp2_n (by omega)]
  · rw [wj _ _ (by omega), tcp_o (by omega), cp2_n (by omega), cp2_n (by omega), cp2_s ⟨a, b⟩, cp2_n (by omega), cp2_n (by omega), cp2_n (by omega), cp2_n (by omega)]
  · rw [wj _ _ (by omega), tcp_o (by omega), cp2_n (by omega), cp2_s ⟨a, b⟩, cp2_n (by omega), cp2_n (by omega), cp2_n (by omega), cp2_n (by omega), cp2_n (by omega)]
  · rw [wj _ _ (by omega), tcp_o (by omega), cp2_s ⟨a, b⟩, cp2_n (by omega), cp2_n (by omega), cp2_n (by omega), cp2_n (by omega), cp2_n (by omega), cp2_n (by omega)]
  · unfold hcp; rw [w2_n (by omega), w2_n (by omega), w2_n (by omega), w2_n (by omega), w2_p ⟨rfl, rfl⟩]
  · unfold hcp; rw [w2_n (by omega), w2_n (by omega), w2_n (by omega), w2_p ⟨rfl, rfl⟩]
  · unfold hcp; rw [w2_n (by omega), w2_n (by omega), w2_p ⟨rfl, rfl⟩]
  · unfold hcp; rw [w2_n (by omega), w2_p ⟨rfl, rfl⟩]
  · unfold hcp; rw [w2_p ⟨rfl, rfl⟩]
  · generalize cp2 (cp2 (cp2 (cp2 (cp2 (cp2 (cp2 J (h0 + 1) (h1 + 1) 0 0 3) (h0 + 2) (h1 + 2) 0 0 30) (h0 + 3) (h1 + 3) 0 0 30) (h0 + 4) (h1 + 4) 0 0 4) (h0 + 5) (h1 + 5) 0 0 8) (h0 + 6) (h1 + 6) 0 0 112) (h0 + 7) (h1 + 7) 0 0 40 = K at wj Kj
    have k : ∀ d i, d ≤ 10 → K (u1 + d) i = J (u1 + d) i := fun d i x => Kj _ _ (by omega)
    have k0 : ∀ i, K u1 i = J u1 i := fun i => Kj _ _ (by omega)
    refine ⟨fun c a b => ?_, fun w a b => ?_, fun i a b => ?_, fun i a b => ?_, ?_, ?_, ?_, ?_⟩
    · obtain ⟨a1, a2, a3, a4, a5⟩ := tcp_1 (J := K) hs (j := c) ⟨a, by rw [k0]; exact b⟩
      rw [wj _ _ (by omega), wj _ _ (by omega), wj _ _ (by omega), wj _ _ (by omega), wj _ _ (by omega), a1, a2, a3, a4, a5, k 1 _ (by omega), k 2 _ (by omega), k 3 _ (by omega), k 4 _ (by omega), k 5 _ (by omega)]
      exact ⟨rfl, rfl, rfl, rfl, rfl⟩
    · obtain ⟨a1, a2⟩ := tcp_6 (J := K) hs (j := w) ⟨a, by rw [k0]; exact b⟩
      rw [wj _ _ (by omega), wj _ _ (by omega), a1, a2, k 6 _ (by omega), k 7 _ (by omega)]
      exact ⟨rfl, rfl⟩
    · rw [wj _ _ (by omega), tcp_8 (J := K) hs ⟨a, b⟩, k 8 _ (by omega)]
    · obtain ⟨a1, a2⟩ := tcp_9 (J := K) hs (j := i) ⟨a, by rw [k0]; exact b⟩
      rw [wj _ _ (by omega), wj _ _ (by omega), a1, a2, k 9 _ (by omega), k 10 _ (by omega)]
      exact ⟨rfl, rfl⟩
    · rw [wj _ _ (by omega), (tcp_c (J := K)).1, k0]
    · rw [wj _ _ (by omega), (tcp_c (J := K)).2.1, k0]
    · rw [wj _ _ (by omega), (tcp_c (J := K)).2.2.1, k0]
    · rw [wj _ _ (by omega), (tcp_c (J := K)).2.2.2, k0]
  · rw [wj _ _ (by omega), tcp_o (by omega), Kj _ _ (by omega)]
end CP
