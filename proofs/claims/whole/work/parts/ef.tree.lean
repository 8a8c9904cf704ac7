/-! THE INVARIANT: tree -/
section SHX
variable {z : Nat} {kd : KD} {R : RF}
theorem ar_sh (h : Sh z kd R) {a L : Nat} (ha : a < 144) (e : kd0.getD a (0, 0) = (13, L)) : arO (z, kd, R) a L :=
  ⟨by have := h.1; show a < z; omega, by show (kd a).1 = 13; rw [h.2.1 a ha, e], by show (kd a).2 = L; rw [h.2.1 a ha, e]⟩
theorem ko_sh (h : Sh z kd R) {a k : Nat} (ha : a < 144) (e : kd0.getD a (0, 0) = (k, 0)) : a < z ∧ (kd a).1 = k :=
  ⟨by have := h.1; omega, by rw [h.2.1 a ha, e]⟩
theorem Ct_sh (h : Sh z kd R) {c : Nat} (hc : c < 3) : CtO (z, kd, R) (58 + 5 * c) ∧ R 25 c = some (58 + 5 * c) := by
  rcases (show c = 0 ∨ c = 1 ∨ c = 2 by omega) with rfl | rfl | rfl
  · exact ⟨⟨ko_sh h (by decide) rfl, ⟨r_58_0 h, ar_sh h (by decide) rfl⟩, ⟨r_58_1 h, ar_sh h (by decide) rfl⟩, ⟨r_58_2 h, ar_sh h (by decide) rfl⟩, ⟨r_58_3 h, ar_sh h (by decide) rfl⟩⟩, r_25_0 h⟩
  · exact ⟨⟨ko_sh h (by decide) rfl, ⟨r_63_0 h, ar_sh h (by decide) rfl⟩, ⟨r_63_1 h, ar_sh h (by decide) rfl⟩, ⟨r_63_2 h, ar_sh h (by decide) rfl⟩, ⟨r_63_3 h, ar_sh h (by decide) rfl⟩⟩, r_25_1 h⟩
  · exact ⟨⟨ko_sh h (by decide) rfl, ⟨r_68_0 h, ar_sh h (by decide) rfl⟩, ⟨r_68_1 h, ar_sh h (by decide) rfl⟩, ⟨r_68_2 h, ar_sh h (by decide) rfl⟩, ⟨r_68_3 h, ar_sh h (by decide) rfl⟩⟩, r_25_2 h⟩
theorem ShC_sh {tr : Nat} (h : Sh z kd R) (ht : tr = 9 ∨ tr = 93) (h17 : R 1 7 = some tr) : ShC (z, kd, R) tr := ⟨ht, TrO_sh h ht, h17, fun _ hc => Ct_sh h hc⟩
theorem ShQ_sh (h : Sh z kd R) : ShQ (z, kd, R) :=
  ⟨⟨ar_sh h (by decide) rfl, ⟨ar_sh h (by decide) rfl, ar_sh h (by decide) rfl, ar_sh h (by decide) rfl⟩, ar_sh h (by decide) rfl, ar_sh h (by decide) rfl, ar_sh h (by decide) rfl⟩, fun _ hc => Ct_sh h hc⟩
end SHX
/-- the trees that are there behind tree() -/
def tsN (TS : Nat → Prop) (tr : Nat) (T : Nat) : Prop := T = tr ∨ (TS T ∧ 144 ≤ T)
section TR
variable {dp t tr : Nat} {TS : Nat → Prop} {z : Nat} {kd : KD} {R R1 : RF} {J J1 J2 M M2 : JI} {b4 b5 b6 b7 len sl : Nat}
theorem PlI_R (h : PlI z kd R J b4 b5 b6 b7 len sl) (h44 : ∀ k, R1 44 k = R 44 k) : PlI z kd R1 J b4 b5 b6 b7 len sl := by
  obtain ⟨⟨⟨a, b, c, d⟩, r⟩, s⟩ := h
  exact ⟨⟨⟨(h44 4).trans a, (h44 5).trans b, (h44 6).trans c, (h44 7).trans d⟩, r⟩, s⟩
theorem PW_T {u : Nat} (h : PW tr TS z kd R J b4 b5 b6 b7 len sl) (hS : Sh z kd R1) (hu : u = 9 ∨ u = 93) (h17 : R1 1 7 = some u) (h44 : ∀ k, R1 44 k = R 44 k) (f : ∀ a i, (2 ≤ a ∧ a ≤ 4) ∨ (a = 24 ∧ (i = 12 ∨ i = 14 ∨ i = 15)) ∨ (26 ≤ a ∧ a ≤ 72) ∨ 144 ≤ a → J2 a i = J a i) (hH : HaC J2 u) (hC : CutI u (tsN TS u) J2) (sr : SrI (tsN TS u) J2) (hr : rwO (J2 107)) (m1 : ∀ i, 0 ≤ i → i < 30 → J2 107 (40 + i) = J 107 (40 + i)) (m2 : ∀ c, 0 ≤ c → c < 3 → J2 107 c = J 107 c) (hM : PlM J2) (h51 : J2 105 51 = 0 ∨ J2 105 51 = 1) : PW u (tsN TS u) z kd R1 J2 b4 b5 b6 b7 len sl := by
  obtain ⟨⟨_, hTS, _, _, hz, ow, _⟩, _, ⟨w1, w2', _⟩, hI, hF, _, _⟩ := h
  have o7 := hI.1.2.2.2.1
  have e4 : J2 4 = J 4 := funext fun i => f _ _ (by omega)
  have e2 : J2 2 = J 2 := funext fun i => f _ _ (by omega)
  refine ⟨⟨ShC_sh hS hu h17, ⟨Or.inl rfl, fun T hT => ?_⟩, ShQ_sh hS, ar_sh hS (by decide) rfl, hz, fun T hT => ?_, sr⟩, ⟨hH, hC⟩, ⟨fun i a b => by rw [e4, m1 i a b]; exact w1 i a b, fun c a b => by rw [e2, m2 c a b]; exact w2' c a b, hr⟩, PlI_R (PlI_k hI (fun a i x => f a i (by omega))) h44, FiK_c (f _ _ (by omega)) e4 e2 (fun x i y w => f _ _ (by omega)) hF, hM, h51⟩
  · rcases hT with rfl | ⟨_, y⟩
    · omega
    · exact Or.inr (Or.inr y)
  · rcases hT with rfl | ⟨y, _⟩
    · exact ⟨by omega, fun b hb => by omega⟩
    · exact ow T y
theorem TreeA {x : Int} (h : InvA t tr TS z kd R J M b4 b5 b6 b7 len sl) (TP : TreeP t tr z kd R J M R1 J2 M2 x) : ∃ (u : Nat) (TS' : Nat → Prop), InvA (t + 1) u TS' z kd R1 J2 M2 b4 b5 b6 b7 len sl ∧ ∀ k, R1 20 k = R 20 k := by
  have h' := h
  obtain ⟨h1, h2, ⟨h3, h4⟩, h5, ⟨⟨h6, hkb⟩, h7, h8⟩, h9⟩ := h
  have htr := h2.1.1.1
  have hTS := h2.1.2.1
  have z144 := h1.2.1.1
  have sr := h2.1.2.2.2.2.2.2
  have hH := h2.2.1.1
  have hrw := h1.2.2.2.2.1
  have o7 := h2.2.2.2.1.1.2.2.2.1
  obtain ⟨fM, f0, TP⟩ := TP
  have f : ∀ a i, ¬ a = 0 → ¬ (a = 24 ∧ i = 13) → ¬ (a = 73 ∧ (i = 15 ∨ i = 16)) → ¬ a = 92 → ¬ (104 ≤ a ∧ a ≤ 107) → ¬ (111 ≤ a ∧ a ≤ 117) → ¬ (102 - tr ≤ a ∧ a ≤ 112 - tr) → J2 a i = J a i := fun a i x1 x2 x3 x4 x5 x6 x7 => f0 a i (by unfold mTr; omega) (by unfold cTr; omega) (by omega) (by omega) (by omega) (by omega) (by omega)
  have f7 : ∀ i, ¬ (i = 8 ∨ i = 9 ∨ 290 ≤ i) → J2 107 i = J 107 i := fun i x => f0 107 i (by unfold mTr; omega) (by unfold cTr; omega) (by omega) (by omega) (by omega) (by omega) (by omega)
  have g : ∀ a i, (1 ≤ a ∧ a ≤ 8) ∨ (20 ≤ a ∧ a ≤ 23) ∨ (a = 24 ∧ ¬ i = 13) ∨ (25 ≤ a ∧ a ≤ 72) ∨ (a = 73 ∧ ¬ (i = 15 ∨ i = 16)) ∨ (74 ≤ a ∧ a ≤ 91) ∨ (108 ≤ a ∧ a ≤ 110) ∨ (118 ≤ a) → J2 a i = J a i := fun a i x => f a i (by omega) (by omega) (by omega) (by omega) (by omega) (by omega) (by omega)
  have im : ∀ k b : Nat, k < 2 → R 20 k = some b → 144 ≤ b := fun k b hk e => by
    rcases h1.2.2.2.2.2.2.2.1 k hk with ⟨y, _⟩ | ⟨h', y1, y2, y3, _⟩
    · rw [e] at y; cases y
    · rw [e] at y1; cases y1; exact y3
  have imT : ∀ (u : Nat) (R1 : RF), (∀ k, R1 20 k = R 20 k) → ImT (tsN TS u) R1 J2 := fun u R1 r20 k b hk e => by
    rw [r20] at e
    obtain ⟨a1, a2, a3⟩ := h7 k b hk e
    have := im k b hk e
    refine ⟨Or.inr ⟨a1, by omega⟩, ?_, TkB_c (fun i => g _ _ (by omega)) (g _ _ (by omega)) (g _ _ (by omega)) a3⟩
    rw [show (fun i => J2 108 (1570 * (k : Int) + i)) = (fun i => J 108 (1570 * (k : Int) + i)) from funext fun i => g _ _ (by omega)]
    exact TrT_j (fun a i x y => g a i (by omega)) a2
  rcases TP with ⟨x6, rR, hB, e7', e13, e15, e16, e14, e32, e51⟩ | ⟨x1, rR, hB, hT, e13, e15, e16, e14, eT, e32, e51, kbT⟩
  · have r : ∀ a k, ¬ a = 104 → R1 a k = R a k := fun a k y => by rw [rR, u2_ite, if_neg (by omega)]
    have e7 : J2 107 = J 107 := funext e7'
    have sub : ∀ T, tsN TS tr T → TS T := fun T hT => by
      rcases hT with rfl | y
      · exact hTS.1
      · exact y.1
    have fT : ∀ T, tsN TS tr T → ∀ a i, T ≤ a → a ≤ T + 10 → J2 a i = J a i := fun T hT a i y w => by
      rcases hT with rfl | ⟨_, v⟩
      · exact f a i (by omega) (by omega) (by omega) (by omega) (by omega) (by omega) (by omega)
      · exact g a i (by omega)
    have tsO : TsO tr (tsN TS tr) := ⟨Or.inl rfl, fun T hT => by
      rcases hT with rfl | ⟨_, y⟩
      · omega
      · exact Or.inr (Or.inr y)⟩
    have tT : TrT J2 tr (J2 107) := by
      rw [e7]
      exact TrT_j (fun a i y w => fT tr (Or.inl rfl) a i (by omega) w) hH.1.1
    have ac := AC_i tT hB.2.2.2.2.1 hB.2.2.2.2.2.1
    obtain ⟨k1, k2, k3, k4⟩ := h2.2.1.2
    have hC : CutI tr (tsN TS tr) J := ⟨fun T hT => k1 T (sub T hT), k2, k3, fun T hT => k4 T (sub T hT)⟩
    refine ⟨tr, tsN TS tr, ⟨hB, PW_T h2 hB.2.1 htr (by rw [r 1 7 (by omega)]; exact h2.1.1.2.2.1) (fun k => r 44 k (by omega)) (fun a i y => g a i (by omega)) ⟨ac.1, ac.2, by rw [g 24 12 (by omega)]; exact hH.2.2.1, hB.2.2.2.2.2.2.1.1, hB.2.2.2.2.2.2.1.2.1⟩ (CutI_x tsO e7 e13 e32 fT (fun a i y => g _ _ (by omega)) (fun a i y w => g _ _ (by omega)) hC) (SrI_c e14 (fun c hc => g _ _ (by omega)) (fun T hT => fT T hT T 13 (Nat.le_refl _) (by omega)) ⟨sr.1, fun T hT => sr.2 T (sub T hT)⟩) hB.2.2.2.2.1 (fun i a b => e7' _) (fun i a b => e7' _) ?_ hB.2.2.2.2.2.2.1.2.2.1, ⟨?_, ?_⟩, by rw [e14]; omega, ⟨⟨fun T T' hT hT' e W nw hW => ?_, TkB_c (fun i => fT tr (Or.inl rfl) _ _ (by omega) (by omega)) (fT tr (Or.inl rfl) _ _ (by omega) (by omega)) (e7' 8) hkb⟩, imT tr R1 (fun k => r 20 k (by omega)), fun k b hk e => h8 k b hk (by rw [← r 20 k (by omega)]; exact e)⟩, fun i hi => by rw [fM _ _ (by omega)]; exact h9 i hi⟩, fun k => r 20 k (by omega)⟩
    · have hM := h2.2.2.2.2.2.1
      intro w
      have w' : J 105 51 = 1 := by rw [← e51]; exact w
      obtain ⟨p1, p2⟩ := hM w'
      have e5 : ∀ i, i = 52 ∨ i = 53 ∨ i = 54 → J2 105 i = J 105 i := fun i y => f0 105 i (by unfold mTr; omega) (by unfold cTr; omega) (by omega) (by omega) (by omega) (by omega) (by omega)
      exact PlM_c e7 (fun i y => by
        rcases (show i = 32 ∨ i = 51 ∨ (i = 52 ∨ i = 53 ∨ i = 54) by omega) with rfl | rfl | y
        · exact e32
        · exact e51
        · exact e5 i y) (fun i => g _ _ (by omega)) (fun i => g _ _ (by omega)) hM w
    · rw [e7]
      refine CrI_c (fun a i y w => ?_) h3
      by_cases c : a = 73 ∧ (i = 15 ∨ i = 16)
      · obtain ⟨rfl, rfl | rfl⟩ := c
        · exact e15
        · exact e16
      · exact g a i (by omega)
    · exact MxI_s h' (fun a i y w => g a i (by omega)) (fun i y => e7' i)
    · rw [fT T hT _ _ (by omega) (by omega), fT T' hT' _ _ (by omega) (by omega)] at e
      exact TrW_c (fT T' hT') (h6 T T' (sub T hT) (sub T' hT') e W nw (TrW_c (fun a i y w => (fT T hT a i y w).symm) hW))
  · have r : ∀ a k, ¬ a = 104 → ¬ (a = 0 ∧ k = 11) → ¬ (a = 1 ∧ k = 7) → R1 a k = R a k := fun a k y1 y2 y3 => by rw [rR, u2_ite, if_neg (by omega), u2_ite, if_neg (by omega), u2_ite, if_neg (by omega)]
    have r17 : R1 1 7 = some (102 - tr) := by rw [rR, u2_ite, if_pos ⟨rfl, rfl⟩]
    have hu : 102 - tr = 9 ∨ 102 - tr = 93 := by omega
    have ac := AC_i hT hB.2.2.2.2.1 hB.2.2.2.2.2.1
    have fT : ∀ T, 144 ≤ T → ∀ a i, T ≤ a → a ≤ T + 10 → J2 a i = J a i := fun T hT a i y w => g a i (by omega)
    have sT : ∀ T, TS T → 144 ≤ T → J2 T 13 ≤ J 0 14 := fun T a b => by rw [g T 13 (by omega)]; exact sr.2 T a
    have sC : ∀ c : Nat, c < 3 → J2 (58 + 5 * c) 5 ≤ J 0 14 := fun c hc => by rw [g _ _ (by omega)]; exact sr.1 c hc
    obtain ⟨k1, k2, k3, k4⟩ := h2.2.1.2
    refine ⟨102 - tr, tsN TS (102 - tr), ⟨hB, PW_T h2 hB.2.1 hu r17 (fun k => r 44 k (by omega) (by omega) (by omega)) (fun a i y => g a i (by omega)) ⟨ac.1, ac.2, by rw [g 24 12 (by omega)]; exact hH.2.2.1, hB.2.2.2.2.2.2.1.1, Or.inl e32⟩ ⟨fun T hT' c hc => ?_, fun w => by omega, fun w => by omega, fun T hT' e W nw hW => ?_⟩ ⟨fun c hc => by have := sC c hc; omega, fun T hT' => ?_⟩ hB.2.2.2.2.1 (fun i a b => f7 _ (by omega)) (fun i a b => f7 _ (by omega)) (fun w => by omega) (Or.inl e51), ⟨CrI_1 ⟨e15, e16⟩, MxI_s h' (fun a i y w => g a i (by omega)) (fun i y => f7 i (by omega))⟩, by rw [e14]; omega, ⟨⟨fun T T' hT' hT2 e W nw hW => ?_, kbT⟩, imT (102 - tr) R1 (fun k => r 20 k (by omega) (by omega) (by omega)), fun k b hk e => h8 k b hk (by rw [← r 20 k (by omega) (by omega) (by omega)]; exact e)⟩, fun i hi => by rw [fM _ _ (by omega)]; exact h9 i hi⟩, fun k => r 20 k (by omega) (by omega) (by omega)⟩
    · rcases hT' with rfl | ⟨y, w⟩
      · intro z2
        have := sC c hc
        omega
      · exact CuT_c (fT T w _ _ (by omega) (by omega)) (fT T w) (fun a i p q => g a i (by omega)) (k1 T y c hc)
    · rcases hT' with rfl | ⟨y, w⟩
      · exact hW
      · have := sT T y w
        omega
    · rcases hT' with rfl | ⟨y, w⟩
      · omega
      · have := sT T y w
        omega
    · rcases hT' with rfl | ⟨y, w⟩
      · rcases hT2 with rfl | ⟨y2, w2'⟩
        · exact hW
        · have := sT T' y2 w2'
          omega
      · rcases hT2 with rfl | ⟨y2, w2'⟩
        · have := sT T y w
          omega
        · rw [fT T w _ _ (by omega) (by omega), fT T' w2' _ _ (by omega) (by omega)] at e
          exact TrW_c (fT T' w2') (h6 T T' y y2 e W nw (TrW_c (fun a i p q => (fT T w a i p q).symm) hW))
theorem RmP_e (hR : ∀ k, R1 20 k = R 20 k) : ∀ CK CM, RmP R len sl CK CM → RmP R1 len sl (CK + 0) (CM + 0) := fun CK CM ⟨a, b, p, q, r⟩ => by
  have e : imN R1 = imN R := by unfold imN; rw [hR, hR]
  exact ⟨a, b, p, by rw [e]; omega, by rw [e]; omega⟩
theorem ia_tree (hd : 62 ≤ dp) (ht : t < 512) (h : InvA t tr TS z kd R J M b4 b5 b6 b7 len sl) : Ev (fun n => kf_32 n dp 0 z kd J M R) (PostA t R len sl (fun n e J M => kf_212 n dp e 0 J M 0)) := by
  refine Ev_mono (iv_tree hd ht h.1 ⟨h.2.2.2.1.1, by have := h.2.2.2.1.2; omega⟩ h.2.2.2.2.2) ?_
  rintro r ⟨x, J1, R1, rfl, ev⟩
  refine ⟨z, kd, J1, M, R1, rfl, Ev_mono ev ?_⟩
  rintro ⟨v, J2, M2⟩ ⟨e1, TP⟩
  obtain ⟨u, TS', hI, r20⟩ := TreeA h TP
  exact ⟨e1, u, TS', b4, b5, b6, b7, len, sl, hI, RmP_e r20⟩
end TR
