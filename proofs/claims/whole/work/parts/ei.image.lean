/-! THE INVARIANT: image -/
theorem imM_n {J : JI} {k t : Int} {b : Nat} {j : Int} (h : ¬ (b = 108 ∧ 1570 * k ≤ j ∧ j < 1570 * k + t)) : imM J k t b j = J b j := if_neg h
theorem imM_t {J : JI} {k t : Int} {j : Int} (a : 1570 * k ≤ j) (b : j < 1570 * k + t) : imM J k t 108 j = J 107 (j - 1570 * k) := if_pos ⟨rfl, a, b⟩
/-- the trees that are there behind image(): the hall's and the images' -/
def tsI (R : RF) (tr T : Nat) : Prop := T = tr ∨ ∃ j b : Nat, j < 2 ∧ R 20 j = some b ∧ T = b + 8
section IMG
variable {dp t u tr : Nat} {TS : Nat → Prop} {z : Nat} {kd : KD} {R : RF} {J J1 M : JI} {b4 b5 b6 b7 len sl : Nat}
theorem PlI_k2 (h : PlI z kd R J b4 b5 b6 b7 len sl) (fr : ∀ a i, a = 4 ∨ (a = 24 ∧ (i = 12 ∨ i = 14)) ∨ (26 ≤ a ∧ a ≤ 54) ∨ (58 ≤ a ∧ a ≤ 72) ∨ a = b4 ∨ a = b5 ∨ a = b6 ∨ a = b7 → J1 a i = J a i) : PlI z kd R J1 b4 b5 b6 b7 len sl := by
  obtain ⟨i1, i2, i3, i4, i5, i6⟩ := h
  refine ⟨i1, fun p x y => by rw [fr _ _ (by omega)]; exact i2 p x y, by rw [fr _ _ (by omega)]; exact i3, fun w => ?_, fun s x y => by rw [fr _ _ (by omega), fr _ _ (by omega)]; exact i5 s x y, fun a b c hv e => ?_⟩
  · obtain ⟨rn, od, k1, k2⟩ := i4 (by rw [← fr 24 14 (by omega)]; exact w)
    exact ⟨rn, od, LdO_c (fun a i x => fr _ _ (by omega)) k1, LyK_c (fun i => fr _ _ (by omega)) (fr _ _ (by omega)) (fun a i x => fr _ _ (by omega)) k2⟩
  · rw [fr _ _ (by omega), fr _ _ (by omega)] at e
    exact BsO_c (fun i => fr _ _ (by omega)) (fun x i y w => fr _ _ (by omega)) (fr _ _ (by omega)) (fr _ _ (by omega)) (i6 a b c hv e)
theorem imgB {kk a : Nat} (h : InvA t tr TS z kd R J M b4 b5 b6 b7 len sl) (hk : kk < 2) (i3 : 144 ≤ a) (i4 : a + 18 < z) (i5 : HlO (z, kd, R) a (a + 8)) (i6 : TrO (z, kd, R) (a + 8)) (dB : ∀ b, b = b4 ∨ b = b5 ∨ b = b6 ∨ b = b7 → ¬ (a ≤ b ∧ b ≤ a + 18)) (dI : ∀ j b : Nat, j < 2 → ¬ j = kk → R 20 j = some b → b + 18 < a ∨ a + 18 < b) (hs' : ∀ J1 : JI, (∀ a i, (a = 0 ∧ (i = 13 ∨ (15 ≤ i ∧ i ≤ 17))) ∨ (a = 105 ∧ (i = 0 ∨ i = 7 ∨ i = 12 ∨ i = 63 ∨ i = 67)) ∨ a = 89 ∨ a = 91 ∨ a = 92 ∨ a = 106 ∨ a = 110 ∨ a = 142 ∨ a = 24 → J1 a i = J a i) → J1 0 18 = 0 → J1 105 1 = 0 → J1 105 32 = 0 → J1 105 51 = 0 → smO u J1) (hu : t ≤ u) : InvA u tr (tsI (u2 R 20 kk (some a)) tr) z kd (u2 R 20 kk (some a)) (okM (w2 (imM (okC (hcp J a 1 (a + 8) tr)) kk 1570) 109 kk 1)) M b4 b5 b6 b7 len sl := by
  obtain ⟨h1, h2, ⟨h3, h4⟩, h5, ⟨⟨h6, hkb⟩, h7, h8⟩, h9⟩ := h
  obtain ⟨⟨hS, hTS, hQ, h56, hz, ow, sr⟩, ⟨hH, hC⟩, ⟨m1, m2, m3⟩, hI, hF, hM, h51⟩ := h2
  obtain ⟨q1, q2, q3, q4, q5, q6, q7, q8, q9⟩ := h1
  have o7 := hI.1.2.2.2.1
  obtain ⟨gH, gT, gF⟩ := hcp_E (J := J) (h0 := a) (h1 := 1) (u0 := a + 8) (u1 := tr) (by omega) (by omega) (by omega) (by omega)
  obtain ⟨J1, hJ1⟩ : ∃ J1, J1 = okM (w2 (imM (okC (hcp J a 1 (a + 8) tr)) kk 1570) 109 kk 1) := ⟨_, rfl⟩
  rw [← hJ1]
  generalize hcp J a 1 (a + 8) tr = G at gH gT gF hJ1
  have n : ∀ (b : Nat) (i : Int), ¬ (b = 0 ∧ i = 18) → ¬ (b = 105 ∧ (i = 1 ∨ i = 32 ∨ i = 51)) → ¬ b = 108 → ¬ (b = 109 ∧ i = kk) → J1 b i = G b i := fun b i x1 x2 x3 x4 => by
    rw [hJ1]
    unfold okM okC
    simp (disch := omega) only [w2_n, imM_n]
  have n8 : ∀ i : Int, 0 ≤ i → i < 1570 → J1 108 (1570 * (kk : Int) + i) = J 107 i := fun i x y => by
    rw [hJ1, ← gF 107 i (by omega) (by omega)]
    unfold okM
    rw [w2_n (by omega), w2_n (by omega), w2_n (by omega), w2_n (by omega), imM_t (by omega) (by omega), show 1570 * (kk : Int) + i - 1570 * (kk : Int) = i by omega]
    unfold okC
    rw [w2_n (by omega)]
  have n8' : ∀ j : Nat, ¬ j = kk → ∀ i : Int, 0 ≤ i → i < 1570 → J1 108 (1570 * (j : Int) + i) = J 108 (1570 * (j : Int) + i) := fun j hj i x y => by
    rw [hJ1, ← gF 108 _ (by omega) (by omega)]
    unfold okM
    rw [w2_n (by omega), w2_n (by omega), w2_n (by omega), w2_n (by omega), imM_n (by omega)]
    unfold okC
    rw [w2_n (by omega)]
  have n9 : J1 109 kk = 1 := by
    rw [hJ1]
    unfold okM
    simp (disch := omega) only [w2_n, w2_p]
  have v18 : J1 0 18 = 0 := by
    rw [hJ1]
    unfold okM okC
    simp (disch := omega) only [w2_n, w2_p, imM_n]
  have v1 : J1 105 1 = 0 := by
    rw [hJ1]
    unfold okM
    simp (disch := omega) only [w2_n, w2_p]
  have v32 : J1 105 32 = 0 := by
    rw [hJ1]
    unfold okM
    simp (disch := omega) only [w2_n, w2_p]
  have v51 : J1 105 51 = 0 := by
    rw [hJ1]
    unfold okM
    simp (disch := omega) only [w2_n, w2_p]
  clear hJ1
  have f : ∀ (b : Nat) (i : Int), ¬ (b = 0 ∧ i = 18) → ¬ (b = 105 ∧ (i = 1 ∨ i = 32 ∨ i = 51)) → ¬ b = 108 → ¬ (b = 109 ∧ i = kk) → ¬ (a ≤ b ∧ b ≤ a + 18) → J1 b i = J b i := fun b i x1 x2 x3 x4 x5 => by
    rw [n b i x1 x2 x3 x4]; exact gF b i (by omega) (by omega)
  have f2 : ∀ (b : Nat) (i : Int), (1 ≤ b ∧ b ≤ 104) ∨ b = 106 ∨ b = 107 ∨ (110 ≤ b ∧ b < 144) → J1 b i = J b i := fun b i x => f b i (by omega) (by omega) (by omega) (by omega) (by omega)
  have gT1 : TcE J J1 (a + 8) tr := TcE_c (fun b i x y => n b i (by omega) (by omega) (by omega) (by omega)) gT
  have e7 : J1 107 = J 107 := funext fun i => f2 _ _ (by omega)
  have r : ∀ b j, ¬ (b = 20 ∧ j = kk) → (u2 R 20 kk (some a)) b j = R b j := fun b j x => by rw [u2_ite, if_neg x]
  have rk : (u2 R 20 kk (some a)) 20 kk = some a := by rw [u2_ite, if_pos ⟨rfl, rfl⟩]
  have sh : Sh z kd (u2 R 20 kk (some a)) := by
    rcases (show kk = 0 ∨ kk = 1 by omega) with rfl | rfl
    · exact Sh_u2 q2 (by decide)
    · exact Sh_u2 q2 (by decide)
  have old : ∀ j b : Nat, j < 2 → ¬ j = kk → R 20 j = some b → imO z kd R J j b := fun j b hj _ e => by
    rcases q8 j hj with ⟨y, _⟩ | ⟨h', y⟩
    · rw [e] at y; cases y
    · have y1 := y.1
      rw [e] at y1; cases y1; exact y
  have fo : ∀ j b : Nat, j < 2 → ¬ j = kk → R 20 j = some b → ∀ c i, b ≤ c → c ≤ b + 18 → J1 c i = J c i := fun j b hj hn e c i x y => by
    have d := dI j b hj hn e
    have l := (old j b hj hn e).2.2.1
    exact f c i (by omega) (by omega) (by omega) (by omega) (by omega)
  have fT : ∀ b i, tr ≤ b → b ≤ tr + 10 → J1 b i = J b i := fun b i x y => f2 b i (by omega)
  have key : ∀ T, tsI (u2 R 20 kk (some a)) tr T → ∃ S, TS S ∧ J1 T 13 = J S 13 ∧ ∀ W nw, TrW J1 T W nw ↔ TrW J S W nw := fun T hT => by
    rcases hT with rfl | ⟨j, b, hj, e, rfl⟩
    · exact ⟨T, hTS.1, fT T 13 (by omega) (by omega), fun W nw => ⟨fun q => TrW_c (fun b i x y => (fT b i x y).symm) q, fun q => TrW_c fT q⟩⟩
    · by_cases c : j = kk
      · subst c
        rw [rk] at e
        cases e
        exact ⟨tr, hTS.1, gT1.2.2.2.2.2.2.2, fun W nw => TcE_W gT1 W nw⟩
      · rw [r 20 j (by omega)] at e
        have ff := fo j b hj c e
        exact ⟨b + 8, (h7 j b hj e).1, ff _ _ (by omega) (by omega), fun W nw => ⟨fun q => TrW_c (fun b' i x y => (ff b' i (by omega) (by omega)).symm) q, fun q => TrW_c (fun b' i x y => ff b' i (by omega) (by omega)) q⟩⟩
  have tsE : TsE (tsI (u2 R 20 kk (some a)) tr) J1 := TsE_m h6 key
  have b144 : ∀ j b : Nat, j < 2 → (u2 R 20 kk (some a)) 20 j = some b → (144 ≤ b ∧ b + 18 < z) ∧ ∀ c, c = b4 ∨ c = b5 ∨ c = b6 ∨ c = b7 → ¬ (b ≤ c ∧ c ≤ b + 18) := fun j b hj e => by
    by_cases c : j = kk
    · subst c
      rw [rk] at e
      cases e
      exact ⟨⟨i3, i4⟩, dB⟩
    · rw [r 20 j (by omega)] at e
      have o := old j b hj c e
      exact ⟨⟨o.2.2.1, o.2.2.2.1⟩, h8 j b hj e⟩
  have hl1 : hlC J1 1 tr (J1 107) := by
    rw [e7]
    exact hlC_congr (fun _ _ _ => rfl) q5.2.2.2.2.2.2.1.2 q5.2.2.2.2.2.2.2.2.1.2 (fun b i x => f2 b i (by omega)) q6
  have hr1 : rwO (J1 107) := by rw [e7]; exact q5
  have hT1 : TrT J1 tr (J1 107) := by
    rw [e7]
    exact TrT_j (fun b i x y => fT b i (by omega) y) hH.1.1
  have ac := AC_i hT1 hr1 hl1
  have e14 : J1 0 14 = J 0 14 := f 0 14 (by omega) (by omega) (by omega) (by omega) (by omega)
  have fC : ∀ a, 58 ≤ a → a ≤ 72 → J1 a = J a := fun a x y => funext fun i => f2 a i (by omega)
  have s1 : smO u J1 := hs' J1 (fun b i x => f b i (by omega) (by omega) (by omega) (by omega) (by omega)) v18 v1 v32 v51
  have e10 : J tr 10 = J 107 8 := q6.2.2.2.2.2.2.2.2.2.2.2.2.1
  have e11 : J tr 11 = J 107 9 := q6.2.2.2.2.2.2.2.2.2.2.2.2.2.1
  refine ⟨⟨q1, sh, HlO_Rt (fun j _ => r 1 j (by omega)) ((r 1 7 (by omega)).trans q3.2.2.2.2.2.2.2.2) q3, (r 0 11 (by omega)).trans q4, hr1, hl1, s1, fun j hj => ?_, fun g h' e0 e1 => ?_⟩, ⟨⟨ShC_sh sh q1 ((r 1 7 (by omega)).trans q3.2.2.2.2.2.2.2.2), ⟨Or.inl rfl, fun T hT => ?_⟩, ShQ_sh sh, ar_sh sh (by decide) rfl, hz, fun T hT => ?_, ⟨fun c hc => by rw [f2 _ _ (by omega), e14]; exact sr.1 c hc, fun T hT => ?_⟩⟩, ⟨⟨ac.1, ac.2, by rw [f2 24 12 (by omega)]; exact hH.2.2.1, s1.1, Or.inl v32⟩, ⟨fun T hT c hc => ?_, fun w c hc => ?_, fun w => by omega, fun T hT y W nw hW => tsE T tr hT (Or.inl rfl) y W nw hW⟩⟩, ⟨hl1.2.2.1, hl1.1, hr1⟩, PlI_R (PlI_k2 hI (fun b i x => f b i (by omega) (by omega) (by omega) (by omega) (by
      rcases x with x | x | x | x | x
      · omega
      · omega
      · omega
      · omega
      · exact dB b x))) (fun k => r 44 k (by omega)), FiK_c (f2 _ _ (by omega)) (funext fun i => f2 _ _ (by omega)) (funext fun i => f2 _ _ (by omega)) (fun x i y w => f2 _ _ (by omega)) hF, fun w => by omega, Or.inl v51⟩, ⟨?_, ?_⟩, by rw [e14]; omega, ⟨⟨tsE, TkB_c (fun i => fT _ _ (by omega) (by omega)) (fT _ _ (by omega) (by omega)) (by rw [e7]) hkb⟩, fun j b hj e => ?_, fun j b hj e c hc => (b144 j b hj e).2 c hc⟩, h9⟩
  · by_cases c : j = kk
    · subst c
      refine Or.inr ⟨a, rk, n9, i3, i4, HlO_Rt (fun k _ => r a k (by omega)) ((r a 7 (by omega)).trans i5.2.2.2.2.2.2.2.2) i5, TrO_Rt (fun k => r (a + 8) k (by omega)) i6, rwO_congr n8 q5, hlC_congr (J := G) n8 q5.2.2.2.2.2.2.1.2 q5.2.2.2.2.2.2.2.2.1.2 (fun b i x => n b i (by omega) (by omega) (by omega) (by omega)) (hlC_cp gH gT q5.2.2.2.2.2.2.1.2 q5.2.2.2.2.2.2.2.2.1.2 q6)⟩
    · rcases q8 j hj with ⟨y1, y2⟩ | ⟨b, o⟩
      · exact Or.inl ⟨by rw [r 20 j (by omega)]; exact y1, by rw [f 109 j (by omega) (by omega) (by omega) (by omega) (by omega)]; exact y2⟩
      · have ff := fo j b hj c o.1
        obtain ⟨o1, o2, o3, o4, o5, o6, o8, o9⟩ := o
        exact Or.inr ⟨b, by rw [r 20 j (by omega)]; exact o1, by rw [f 109 j (by omega) (by omega) (by omega) (by omega) (by omega)]; exact o2, o3, o4, HlO_Rt (fun k _ => r b k (by omega)) ((r b 7 (by omega)).trans o5.2.2.2.2.2.2.2.2) o5, TrO_Rt (fun k => r (b + 8) k (by omega)) o6, rwO_congr (n8' j c) o8, hlC_congr (n8' j c) o8.2.2.2.2.2.2.1.2 o8.2.2.2.2.2.2.2.2.1.2 (fun b' i x => ff b' i (by omega) (by omega)) o9⟩
  · rcases (show kk = 0 ∨ kk = 1 by omega) with rfl | rfl
    · rw [rk] at e0
      cases e0
      rw [r 20 1 (by omega)] at e1
      have := dI 1 h' (by omega) (by omega) e1
      omega
    · rw [rk] at e1
      cases e1
      rw [r 20 0 (by omega)] at e0
      exact dI 0 g (by omega) (by omega) e0
  · rcases hT with rfl | ⟨j, b, hj, e, rfl⟩
    · omega
    · have := (b144 j b hj e).1
      omega
  · rcases hT with rfl | ⟨j, b, hj, e, rfl⟩
    · exact ⟨by omega, fun b hb => by omega⟩
    · obtain ⟨x, y⟩ := b144 j b hj e
      exact ⟨by omega, fun c hc w => y c hc (by omega)⟩
  · obtain ⟨S, k1, k2, k3⟩ := key T hT
    rw [k2, e14]; exact sr.2 S k1
  · obtain ⟨S, k1, k2, k3⟩ := key T hT
    exact CuT_m hc fC k2 k3 (hC.1 S k1 c hc)
  · rw [e7]
    exact CuN_c fT (fun b i x y => f2 b i (by omega)) (hC.2.1 (by rw [← f2 24 13 (by omega)]; exact w) c hc)
  · rw [e7]; exact CrI_c (fun b i x y => f2 b i (by omega)) h3
  · rw [e7]; exact MxI_c (fun b i x y => f2 b i (by omega)) h4
  · by_cases c : j = kk
    · subst c
      rw [rk] at e
      cases e
      exact ⟨Or.inr ⟨j, a, hj, rk, rfl⟩, TrT_rb n8 q5.2.2.2.2.2.2.2.1.2 q5.2.2.2.2.2.2.2.2.1.2 (TrT_cp gT1 e10 e11 q5.2.2.2.2.2.2.2.2.1.2 hkb hH.1.1), TcE_k gT1 e10 (n8 8 (by omega) (by omega)) hkb⟩
    · have e' := e
      rw [r 20 j (by omega)] at e'
      have ff := fo j b hj c e'
      obtain ⟨a1, a2, a3⟩ := h7 j b hj e'
      have o := old j b hj c e'
      exact ⟨Or.inr ⟨j, b, hj, e, rfl⟩, TrT_rb (n8' j c) o.2.2.2.2.2.2.1.2.2.2.2.2.2.2.1.2 o.2.2.2.2.2.2.1.2.2.2.2.2.2.2.2.1.2 (TrT_j (fun b' i x y => ff b' i (by omega) (by omega)) a2), TkB_c (fun i => ff _ _ (by omega) (by omega)) (ff _ _ (by omega) (by omega)) (n8' j c 8 (by omega) (by omega)) a3⟩
end IMG
