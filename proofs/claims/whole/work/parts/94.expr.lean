section
set_option maxRecDepth 100000 in
theorem ev_223_0 {dp : Nat} {e : EN} {I : JI} {L : JI} {i1 : Int} {i2 : Int} {P_ : (JI × JI) → Prop} (h : Ev (fun n => (stI (w2 I 105 22 0) (fun I_2 => (stI (w2 I_2 105 23 0) (fun I_7 => (if i1 = 0 then (kf_223 n dp e 1 I_7 L i1 1) else (kf_223 n dp e 1 I_7 L i1 0))))))) P_) : Ev (fun n => kf_223 n dp e 0 I L i1 i2) P_ := Ev_step (fun n => ke_223_0 n dp e I L i1 i2) h
end
/-! PARSER 15: whole sums and tests, and what a tree says -/
def PQ (tr : Nat) (J K L : JI) : Prop := TK J K L ∧ K 105 13 = 0 ∧ (K 105 19 = J 104 7 ∧ 0 ≤ J 104 7 ∧ J 104 7 ≤ 50) ∧ (0 ≤ K 105 16 ∧ K 105 16 ≤ J 104 4) ∧ (0 ≤ J tr 12 ∧ J tr 12 ≤ J 104 4) ∧ (∀ i : Nat, i < 5 → L 116 i = cws.getD (4 + i) 0)
theorem PQ_PR {tr : Nat} {J K L : JI} (h : PQ tr J K L) : PR tr 0 [] J (w2 (w2 K 105 22 0) 105 23 0) L := by
  obtain ⟨h1, h2, h3, h4, h5, h6⟩ := h
  refine ⟨TK_c h1 (fun _ _ _ => rfl) (fun _ => rfl) (fun _ _ _ => by rw [w2_n (by omega), w2_n (by omega)]) (fun _ => by rw [w2_n (by omega), w2_n (by omega)]) rfl, h2, h3, ⟨rfl, trivial, fun x hx => (nomatch hx)⟩, rfl, ?_, h5, h6⟩
  show 0 ≤ K 105 16 ∧ K 105 16 + ((0 : Nat) : Int) ≤ J 104 4
  omega
theorem spl (l : Int) : ∀ p : List (Int × Int), ∃ r q, p = r ++ q ∧ (∀ x ∈ r, l ≤ bnd x.1) ∧ ∀ x s, q = x :: s → bnd x.1 < l
  | [] => ⟨[], [], rfl, fun _ h => (nomatch h), fun _ _ h => (nomatch h)⟩
  | x :: p => by
    by_cases c : l ≤ bnd x.1
    · obtain ⟨r, q, h1, h2, h3⟩ := spl l p
      refine ⟨x :: r, q, by rw [h1]; rfl, fun y hy => ?_, h3⟩
      rcases List.mem_cons.mp hy with z | z
      · subst z; exact c
      · exact h2 y z
    · exact ⟨[], x :: p, rfl, fun _ h => (nomatch h), fun y s h => by cases h; omega⟩
def XpO (tr : Nat) (ty : Den → Prop) (J K J' K' L' : JI) : Prop := PQ tr J' K' L' ∧ J 104 4 < J' 104 4 ∧ (∃ d h, ty d ∧ h ≤ 50 ∧ Seg (cC tr J') (J tr 12) (J' tr 12) d h ∧ Seg (cM (cs K')) (K 105 16) (K' 105 16) d h) ∧ Sml (K 105 16) (cs K) (cs K')
section EXPR
variable {dp dm : Nat} {e : EN} {tr : Nat} {M : JI}
theorem fl_end {tst t x : Int} {J K L J' : JI} (hd : 2 ≤ dm) (h : Flp dm e tr tst t J (w2 (w2 K 105 22 0) 105 23 0) L J') (ent : ∀ Q : JI × JI → Prop, Ev (fun n => kf_223 n dm e 1 (w2 (w2 K 105 22 0) 105 23 0) L tst t) Q → Ev (fun n => kf_223 n dm e 0 K L tst x) Q) : ∃ K' L', Ev (fun n => kf_223 n dm e 0 K L tst x) (fun s => s = (K', L')) ∧ FrC tr J J' ∧ FrM K L K' L' ∧ K' 105 13 = 1 ∧ (K' 105 12 = J' 104 4 ∧ 0 ≤ K' 105 12) := by
  obtain ⟨K1, L1, t1, p, f1, f2, f3, f4, f5, f6, f7⟩ := h
  obtain ⟨r, q, z1, z2, z3⟩ := spl 1 p
  rw [z1] at f6 f7
  obtain ⟨s, ⟨s1, s2⟩, s3⟩ := Ev_ex (K234 (dp := dm - 1) (e := e) (L := L1) (l := 1) (by omega) r q K1 f6.1 f6.2.1 (fun x hx => ⟨z2 x hx, f6.2.2 x (List.mem_append_left _ hx)⟩) z3 f7.1 f7.2)
  refine ⟨s.1, s.2, ent _ (f1 _ ?_), f4, ?_, ?_, ?_⟩
  · refine ev_223_1 ?_
    exact Ev_f (by omega) (Ev_t (by omega) (Ev_call s3 (Ev_ret rfl)))
  · rw [s1]
    refine ⟨fun a i g1 g2 => ?_, f5.2⟩
    rw [s2.2.2 a i (by omega) (by omega) (by omega), f5.1 a i g1 g2, w2_n (by omega), w2_n (by omega)]
  · rw [s2.2.2 105 13 (by omega) (by decide) (by decide)]; exact f2
  · rw [s2.2.2 105 12 (by omega) (by decide) (by decide)]; exact f3
theorem ok_end {tst t t' b l x : Int} {ty : Den → Prop} {ex : JI → Prop} {J K L J' : JI} (hd : 2 ≤ dm) (hl : 1 ≤ l) (h : OKp dm e tr tst 0 l t t' ty ex [] J (w2 (w2 K 105 22 0) 105 23 0) L J') (ov : ∀ r K1 L1, PR tr 0 (r ++ []) J' K1 L1 → (∀ x ∈ r, l ≤ bnd x.1) → ex J' → Go dm e tst t' K1 L1 4 K1 L1) (j7 : 0 ≤ J 104 7) (ent : ∀ Q : JI × JI → Prop, Ev (fun n => kf_223 n dm e 1 (w2 (w2 K 105 22 0) 105 23 0) L tst t) Q → Ev (fun n => kf_223 n dm e 0 K L tst x) Q) : ∃ K' L', Ev (fun n => kf_223 n dm e 0 K L tst x) (fun s => s = (K', L')) ∧ FrC tr J J' ∧ FrM K L K' L' ∧ XpO tr ty J K J' K' L' := by
  obtain ⟨r, K1, L1, d, hh, g, P, hr, fC, fM, ty1, lt, hl0, inc, sC, sM, sml, ex0⟩ := h
  have o := ov r K1 L1 P hr ex0
  have P' := P
  have hKP := PR_KP P' (by omega)
  obtain ⟨u1, u2, u3, u4, u5, u6, u7, u8⟩ := P
  obtain ⟨s, ⟨s1, s2⟩, s3⟩ := Ev_ex (K234' (dp := dm - 1) (e := e) (l := 1) (L' := L1) (by omega) hKP (fun _ _ _ => rfl) (fun x hx => by have := hr x hx; omega) (fun x p hp => (nomatch hp)))
  have en := em_n r (cs K1)
  have e16 : (cs K1).2.2 = K1 105 16 := rfl
  have k16 : s.1 105 16 = (em r (cs K1)).2.2 := by rw [← s2.2.1]; rfl
  have st := s2.2.2
  have la : (r ++ ([] : List (Int × Int))).length = r.length := by rw [List.append_nil]
  have l1 := sM.1
  have z16 : (w2 (w2 K 105 22 0) 105 23 0) 105 16 = K 105 16 := rfl
  rw [z16] at l1 sM sml
  have csz : cs (w2 (w2 K 105 22 0) 105 23 0) = cs K := by rw [cs_w (by decide) (by decide) (by decide), cs_w (by decide) (by decide) (by decide)]
  rw [csz] at sml
  refine ⟨s.1, s.2, ent _ (g _ (o _ ?_)), fC, ?_, ⟨?_, ?_, ?_, ?_, ?_, ?_⟩, lt, ⟨d, hh, ty1, by omega, sC, ?_⟩, ?_⟩
  · refine ev_223_1 ?_
    exact Ev_t u2 (Ev_t rfl (Ev_t (by omega) (Ev_call s3 (Ev_ret rfl))))
  · rw [s1]
    refine ⟨fun a i g1 g2 => ?_, fM.2⟩
    rw [st a i (by omega) (by omega) (by omega), fM.1 a i g1 g2, w2_n (by omega), w2_n (by omega)]
  · rw [s1]
    exact TK_c u1 (fun _ _ _ => rfl) (fun _ => rfl) (fun i a b => st _ _ (by omega) (by decide) (by decide)) (fun i => st _ _ (by omega) (by decide) (by decide)) rfl
  · rw [st _ _ (by omega) (by decide) (by decide)]; exact u2
  · rw [st _ _ (by omega) (by decide) (by decide)]; exact u3
  · rw [k16]; omega
  · exact u7
  · rw [s1]; exact u8
  · rw [k16, s2.2.1]; exact sM
  · rw [s2.2.1]; exact sml
/-- a whole sum -/
theorem ex_sum {x : Int} {dc : Nat} {J K L : JI} (htr : tr = 9 ∨ tr = 93) (hT : TrO e tr) (h104 : e.2.2 104 1 = some tr) (hdm : 8 ≤ dm) (hdc : 40 ≤ dc) (hP : PQ tr J K L) : Ev (fun n => kf_56 n dc e 0 J M 0 0) (fun r => r.2.2 = M ∧ ∃ K' L', Ev (fun n => kf_223 n dm e 0 K L 0 x) (fun s => s = (K', L')) ∧ FrC tr J r.2.1 ∧ FrM K L K' L' ∧ ((r.1 = 1 ∧ XpO tr anyD J K r.2.1 K' L') ∨ (r.1 = 0 ∧ K' 105 13 = 1 ∧ (K' 105 12 = r.2.1 104 4 ∧ 0 ≤ K' 105 12)))) := by
  have P0 := PQ_PR hP
  have t4 := hP.1.2.2.2.1
  have t1 := hP.1.1
  have ent : ∀ Q : JI × JI → Prop, Ev (fun n => kf_223 n dm e 1 (w2 (w2 K 105 22 0) 105 23 0) L 0 1) Q → Ev (fun n => kf_223 n dm e 0 K L 0 x) Q := by
    intro Q h
    refine ev_223_0 ?_
    exact Ev_st (Ev_st (Ev_t rfl h))
  refine Ev_mono (rd_all (dm := dm) (tst := 0) htr hT h104 hdm 400 dc 0 1 [] J _ L 0 (by omega) (by omega) P0 (by omega) (Or.inl rfl) (fun x p hp => (nomatch hp))) ?_
  rintro ⟨y, J1, M1⟩ ⟨hM1, hy⟩
  refine ⟨hM1, ?_⟩
  dsimp only at hy ⊢
  rcases hy with ⟨rfl, ok⟩ | ⟨rfl, fl⟩
  · have ov : ∀ (r : List (Int × Int)) (K1 L1 : JI), PR tr 0 (r ++ []) J1 K1 L1 → (∀ x ∈ r, 5 ≤ bnd x.1) → exS J1 → Go dm e 0 3 K1 L1 4 K1 L1 := by
      intro r K1 L1 P hr ex0
      have hKP := PR_KP P (by omega)
      obtain ⟨z, z1, z5⟩ := go_of3 (e := e) (tst := 0) (dm := dm) (by omega) P.2.1 (K232ov (y := 0) (z := 0) (by omega) hKP (noA_of P.1 ex0) (by rw [inn_app _ _ (fun x hx => by have := hr x hx; omega)]; rfl))
      subst z1
      exact z5
    obtain ⟨K', L', a1, a2, a3, a4⟩ := ok_end (b := 0) (by omega) (by omega) ok ov hP.2.2.1.2.1 ent
    exact ⟨K', L', a1, a2, a3, Or.inl ⟨rfl, a4⟩⟩
  · obtain ⟨K', L', a1, a2, a3, a4, a5⟩ := fl_end (by omega) fl ent
    exact ⟨K', L', a1, a2, a3, Or.inr ⟨rfl, a4, a5⟩⟩
theorem ex_test {x : Int} {dc : Nat} {J K L : JI} (htr : tr = 9 ∨ tr = 93) (hT : TrO e tr) (h104 : e.2.2 104 1 = some tr) (hdm : 8 ≤ dm) (hdc : 44 ≤ dc) (hP : PQ tr J K L) : Ev (fun n => kf_62 n dc e 0 J M 0 0 0) (fun r => r.2.2 = M ∧ ∃ K' L', Ev (fun n => kf_223 n dm e 0 K L 1 x) (fun s => s = (K', L')) ∧ FrC tr J r.2.1 ∧ FrM K L K' L' ∧ ((r.1 = 1 ∧ XpO tr Td J K r.2.1 K' L') ∨ (r.1 = 0 ∧ K' 105 13 = 1 ∧ (K' 105 12 = r.2.1 104 4 ∧ 0 ≤ K' 105 12)))) := by
  have P0 := PQ_PR hP
  have t4 := hP.1.2.2.2.1
  have t1 := hP.1.1
  have ent : ∀ Q : JI × JI → Prop, Ev (fun n => kf_223 n dm e 1 (w2 (w2 K 105 22 0) 105 23 0) L 1 0) Q → Ev (fun n => kf_223 n dm e 0 K L 1 x) Q := by
    intro Q h
    refine ev_223_0 ?_
    exact Ev_st (Ev_st (Ev_f (by decide) h))
  refine Ev_mono (rq_all (dm := dm) (tst := 1) htr hT h104 hdm (by decide) 400 dc 0 [] J _ L 0 0 (by omega) (by omega) P0 (by omega) (show ¬ (-1 : Int) = 31 by decide) (fun x p hp => (nomatch hp))) ?_
  rintro ⟨y, J1, M1⟩ ⟨hM1, hy⟩
  refine ⟨hM1, ?_⟩
  dsimp only at hy ⊢
  rcases hy with ⟨rfl, ok⟩ | ⟨rfl, fl⟩
  · have ov : ∀ (r : List (Int × Int)) (K1 L1 : JI), PR tr 0 (r ++ []) J1 K1 L1 → (∀ x ∈ r, 1 ≤ bnd x.1) → exQ J1 → Go dm e 1 2 K1 L1 4 K1 L1 := by
      intro r K1 L1 P hr ex0
      have hKP := PR_KP P (by omega)
      obtain ⟨z, z1, z5⟩ := go_of2 (e := e) (tst := 1) (dm := dm) (by omega) P.2.1 (K237ov (y := 0) (by omega) hKP (fun z => ex0.1.2 ((TK_w P.1 (s := 2) (by decide)).mpr z)) (fun z => ex0.2 ((TK_w P.1 (s := 12) (by decide)).mpr z)) (by rw [inn_app _ _ hr]; rfl))
      subst z1
      exact z5
    obtain ⟨K', L', a1, a2, a3, a4⟩ := ok_end (b := 0) (by omega) (by omega) ok ov hP.2.2.1.2.1 ent
    exact ⟨K', L', a1, a2, a3, Or.inl ⟨rfl, a4⟩⟩
  · obtain ⟨K', L', a1, a2, a3, a4, a5⟩ := fl_end (by omega) fl ent
    exact ⟨K', L', a1, a2, a3, Or.inr ⟨rfl, a4, a5⟩⟩
end EXPR
/-- the head of a clause, up to sE and mE -/
def HdO (J : JI) (tr : Nat) (N : Int → Int) (C : Int → Int × Int) (nw c sE mE : Int) : Prop := (J (tr + 1) c = 0 ∧ N (8 * c) = 2 ∧ (0 ≤ N (8 * c + 1) ∧ N (8 * c + 1) < nw ∧ J (tr + 7) (N (8 * c + 1)) = c) ∧ J (tr + 2) c = sE) ∨ (((J (tr + 1) c = 1 ∧ N (8 * c) = 0) ∨ (J (tr + 1) c = 2 ∧ N (8 * c) = 1)) ∧ ∃ d h, h ≤ 50 ∧ Seg (cC tr J) (J (tr + 2) c) sE d h ∧ Seg C (N (8 * c + 3)) mE d h)
def ClO (J : JI) (tr : Nat) (N : Int → Int) (C : Int → Int × Int) (nw sN mN c : Int) : Prop := HdO J tr N C nw c (J (tr + 3) c) (N (8 * c + 4)) ∧ ((J (tr + 4) c = J (tr + 5) c ∧ N (8 * c + 5) = N (8 * c + 6)) ∨ ∃ d h, Td d ∧ h ≤ 50 ∧ Seg (cC tr J) (J (tr + 4) c) (J (tr + 5) c) d h ∧ Seg C (N (8 * c + 5)) (N (8 * c + 6)) d h) ∧ (0 ≤ J (tr + 2) c ∧ J (tr + 2) c ≤ J (tr + 3) c ∧ J (tr + 3) c ≤ J (tr + 4) c ∧ J (tr + 4) c ≤ J (tr + 5) c ∧ J (tr + 5) c ≤ sN) ∧ (0 ≤ N (8 * c + 3) ∧ N (8 * c + 3) ≤ N (8 * c + 4) ∧ N (8 * c + 4) ≤ N (8 * c + 5) ∧ N (8 * c + 5) ≤ N (8 * c + 6) ∧ N (8 * c + 6) ≤ mN)
def WyO (J : JI) (tr : Nat) (W N : Int → Int) (nc w : Int) : Prop := (0 ≤ W (11 * w) ∧ W (11 * w) ≤ 9) ∧ J (tr + 6) w = W (11 * w) ∧ (∀ p, 0 ≤ p → p < 10 → J (tr + 8) (w * 10 + p) = W (11 * w + 1 + p) ∧ 0 ≤ W (11 * w + 1 + p) ∧ W (11 * w + 1 + p) ≤ 3600 ∧ (p ≤ W (11 * w) → W (11 * w + 1 + p) = 0)) ∧ (∃ p, 0 ≤ p ∧ p < 10 ∧ 1 ≤ W (11 * w + 1 + p)) ∧ 0 ≤ J (tr + 7) w ∧ J (tr + 7) w < nc ∧ N (8 * J (tr + 7) w) = 2 ∧ N (8 * J (tr + 7) w + 1) = w
def TrX (J : JI) (tr : Nat) (W N : Int → Int) (C : Int → Int × Int) (nc nw sN mN : Int) : Prop := (∀ w, 0 ≤ w → w < nw → WyO J tr W N nc w) ∧ ∀ c, 0 ≤ c → c < nc → ClO J tr N C nw sN mN c
theorem HdO_c {J J' : JI} {tr : Nat} {N N' : Int → Int} {C C' : Int → Int × Int} {nw nw' c sE mE sN mN : Int} (hj : J' (tr + 1) c = J (tr + 1) c ∧ J' (tr + 2) c = J (tr + 2) c) (hs : ∀ i, i < sN → cC tr J' i = cC tr J i) (hn : ∀ k, 0 ≤ k → k < 4 → N' (8 * c + k) = N (8 * c + k)) (hc : ∀ i, 0 ≤ i → i < mN → C' i = C i) (h7 : ∀ w, 0 ≤ w → w < nw → J' (tr + 7) w = J (tr + 7) w) (hw : nw ≤ nw') (hb : sE ≤ sN ∧ mE ≤ mN) (h0 : 0 ≤ N (8 * c + 3)) (h : HdO J tr N C nw c sE mE) : HdO J' tr N' C' nw' c sE mE := by
  have n0 := hn 0 (by omega) (by omega)
  have n1 := hn 1 (by omega) (by omega)
  have n3 := hn 3 (by omega) (by omega)
  rw [Int.add_zero] at n0
  unfold HdO
  rw [hj.1, hj.2, n0, n1, n3]
  rcases h with ⟨a1, a2, a3, a4⟩ | ⟨a1, d, h, a2, a3, a4⟩
  · exact Or.inl ⟨a1, a2, ⟨a3.1, by omega, by rw [h7 _ a3.1 a3.2.1]; exact a3.2.2⟩, a4⟩
  · exact Or.inr ⟨a1, d, h, a2, seg_congr (fun i _ hi => hs i (by omega)) a3, seg_congr (fun i hl hi => hc i (by omega) (by omega)) a4⟩
theorem ClO_c {J J' : JI} {tr : Nat} {N N' : Int → Int} {C C' : Int → Int × Int} {nw nw' c sN mN sN' mN' : Int} (hj : J' (tr + 1) c = J (tr + 1) c ∧ J' (tr + 2) c = J (tr + 2) c ∧ J' (tr + 3) c = J (tr + 3) c ∧ J' (tr + 4) c = J (tr + 4) c ∧ J' (tr + 5) c = J (tr + 5) c) (hs : ∀ i, i < sN → cC tr J' i = cC tr J i) (hn : ∀ k, 0 ≤ k → k < 8 → N' (8 * c + k) = N (8 * c + k)) (hc : ∀ i, 0 ≤ i → i < mN → C' i = C i) (h7 : ∀ w, 0 ≤ w → w < nw → J' (tr + 7) w = J (tr + 7) w) (hw : nw ≤ nw') (hb : sN ≤ sN' ∧ mN ≤ mN') (h : ClO J tr N C nw sN mN c) : ClO J' tr N' C' nw' sN' mN' c := by
  obtain ⟨h1, h2, h3, h4⟩ := h
  have n4 := hn 4 (by omega) (by omega)
  have n5 := hn 5 (by omega) (by omega)
  have n6 := hn 6 (by omega) (by omega)
  have n3 := hn 3 (by omega) (by omega)
  unfold ClO
  rw [hj.2.2.1, hj.2.2.2.1, hj.2.2.2.2, n4, n5, n6, hj.2.1, n3]
  refine ⟨HdO_c (sN := sN) (mN := mN) ⟨hj.1, hj.2.1⟩ hs (fun k a b => hn k a (by omega)) hc h7 hw (by omega) h4.1 h1, ?_, by omega, by omega⟩
  rcases h2 with a | ⟨d, h, a1, a2, a3, a4⟩
  · exact Or.inl a
  · exact Or.inr ⟨d, h, a1, a2, seg_congr (fun i _ hi => hs i (by omega)) a3, seg_congr (fun i hl hi => hc i (by omega) (by omega)) a4⟩
theorem WyO_c {J J' : JI} {tr : Nat} {W W' N N' : Int → Int} {nc nc' w : Int} (h6 : J' (tr + 6) w = J (tr + 6) w) (h7 : J' (tr + 7) w = J (tr + 7) w) (h8 : ∀ p, 0 ≤ p → p < 10 → J' (tr + 8) (w * 10 + p) = J (tr + 8) (w * 10 + p)) (hW : ∀ k, 0 ≤ k → k < 11 → W' (11 * w + k) = W (11 * w + k)) (hn : ∀ i, 0 ≤ i → i < 8 * nc → N' i = N i) (hc : nc ≤ nc') (h : WyO J tr W N nc w) : WyO J' tr W' N' nc' w := by
  obtain ⟨a1, a2, a3, ⟨p, a4, a5, a6⟩, a7, a8, a9, a10⟩ := h
  have w0 := hW 0 (by omega) (by omega)
  rw [Int.add_zero] at w0
  have wp : ∀ p, 0 ≤ p → p < 10 → W' (11 * w + 1 + p) = W (11 * w + 1 + p) := fun p x y => by
    have := hW (1 + p) (by omega) (by omega)
    rw [← Int.add_assoc] at this
    exact this
  unfold WyO
  rw [w0, h6, h7]
  refine ⟨a1, a2, fun q x y => ?_, ⟨p, a4, a5, by rw [wp p a4 a5]; exact a6⟩, a7, by omega, by rw [hn _ (by omega) (by omega)]; exact a9, by rw [hn _ (by omega) (by omega)]; exact a10⟩
  rw [wp q x y, h8 q x y]
  exact a3 q x y
