section
set_option maxRecDepth 100000 in
theorem ev_285_6 {dp : Nat} {e : EN} {I : JI} {L : JI} {i1 : Int} {i2 : Int} {i3 : Int} {i4 : Int} {i5 : Int} {i6 : Int} {P_ : (Int × JI × JI) → Prop} (h : Ev (fun n => (if i6 < 0 then (if i1 = (-1) then (some ((i3 : Int), I, L)) else (if 0 ≤ i1 ∧ i1 < 16 then (some (((I 140 i1) : Int), I, L)) else none)) else (if 0 ≤ i6 ∧ i6 < 16 then (if (I 138 i6) = 0 then (kf_285 n dp e 7 I L i1 i2 i3 i4 i5 i6) else (if ¬ ((I 107 3) = 0) then (if 0 ≤ i6 ∧ i6 < 16 then (if -2147483647 ≤ i5 then (stI (w2 I 140 i6 (Int.tmod i5 (I 107 3))) (fun I_213 => (if ¬ ((I_213 107 3) = 0) then (kf_285 n dp e 7 I_213 L i1 i2 i3 i4 (Int.tdiv i5 (I_213 107 3)) i6) else none))) else none) else none) else none)) else none))) P_) : Ev (fun n => kf_285 n dp e 6 I L i1 i2 i3 i4 i5 i6) P_ := Ev_step (fun n => ke_285_6 n dp e I L i1 i2 i3 i4 i5 i6) h
set_option maxRecDepth 100000 in
theorem ev_285_7 {dp : Nat} {e : EN} {I : JI} {L : JI} {i1 : Int} {i2 : Int} {i3 : Int} {i4 : Int} {i5 : Int} {i6 : Int} {P_ : (Int × JI × JI) → Prop} (h : Ev (fun n => (if -2147483648 ≤ i6 + (-1) ∧ i6 + (-1) ≤ 2147483647 then (kf_285 n dp e 6 I L i1 i2 i3 i4 i5 (i6 + (-1))) else none)) P_) : Ev (fun n => kf_285 n dp e 7 I L i1 i2 i3 i4 i5 i6) P_ := Ev_step (fun n => ke_285_7 n dp e I L i1 i2 i3 i4 i5 i6) h
set_option maxRecDepth 100000 in
theorem ev_285_5 {dp : Nat} {e : EN} {I : JI} {L : JI} {i1 : Int} {i2 : Int} {i3 : Int} {i4 : Int} {i5 : Int} {i6 : Int} {P_ : (Int × JI × JI) → Prop} (h : Ev (fun n => (if i2 ≤ i5 then (if i3 = 1000000000 then (some (((-1) : Int), I, L)) else (kf_285 n dp e 6 I L i1 i2 i3 i4 i4 15)) else (if 1 ≤ dp then ((kf_286 n (dp - 1) e 0 I L i5 0 0 0 0).bind (fun ⟨x0_127, I0_127, L0_127⟩ => (if i3 ≤ x0_127 then (if i3 ≤ x0_127 then (if -2147483648 ≤ i5 + 1 ∧ i5 + 1 ≤ 2147483647 then (kf_285 n dp e 5 I0_127 L0_127 i1 i2 i3 i4 (i5 + 1) 0) else none) else (if -2147483648 ≤ i5 + 1 ∧ i5 + 1 ≤ 2147483647 then (kf_285 n dp e 5 I0_127 L0_127 i1 i2 x0_127 i4 (i5 + 1) 0) else none)) else (if i3 ≤ x0_127 then (if -2147483648 ≤ i5 + 1 ∧ i5 + 1 ≤ 2147483647 then (kf_285 n dp e 5 I0_127 L0_127 i1 i2 i3 i5 (i5 + 1) 0) else none) else (if -2147483648 ≤ i5 + 1 ∧ i5 + 1 ≤ 2147483647 then (kf_285 n dp e 5 I0_127 L0_127 i1 i2 x0_127 i5 (i5 + 1) 0) else none))))) else none))) P_) : Ev (fun n => kf_285 n dp e 5 I L i1 i2 i3 i4 i5 i6) P_ := Ev_step (fun n => ke_285_5 n dp e I L i1 i2 i3 i4 i5 i6) h
set_option maxRecDepth 100000 in
theorem ev_285_4 {dp : Nat} {e : EN} {I : JI} {L : JI} {i1 : Int} {i2 : Int} {i3 : Int} {i4 : Int} {i5 : Int} {i6 : Int} {P_ : (Int × JI × JI) → Prop} (h : Ev (fun n => (if (I 105 60) ≤ i3 then (kf_285 n dp e 5 I L i1 i2 1000000000 0 0 0) else (if (-2147483648 ≤ i2 * (I 107 3) ∧ i2 * (I 107 3) ≤ 2147483647) ∧ (-2147483648 ≤ i3 + 1 ∧ i3 + 1 ≤ 2147483647) then (kf_285 n dp e 4 I L i1 (i2 * (I 107 3)) (i3 + 1) 0 0 0) else none))) P_) : Ev (fun n => kf_285 n dp e 4 I L i1 i2 i3 i4 i5 i6) P_ := Ev_step (fun n => ke_285_4 n dp e I L i1 i2 i3 i4 i5 i6) h
set_option maxRecDepth 100000 in
theorem ev_285_3 {dp : Nat} {e : EN} {I : JI} {L : JI} {i1 : Int} {i2 : Int} {i3 : Int} {i4 : Int} {i5 : Int} {i6 : Int} {P_ : (Int × JI × JI) → Prop} (h : Ev (fun n => (kf_285 n dp e 4 I L i1 1 0 0 0 0)) P_) : Ev (fun n => kf_285 n dp e 3 I L i1 i2 i3 i4 i5 i6) P_ := Ev_step (fun n => ke_285_3 n dp e I L i1 i2 i3 i4 i5 i6) h
set_option maxRecDepth 100000 in
theorem ev_285_2 {dp : Nat} {e : EN} {I : JI} {L : JI} {i1 : Int} {i2 : Int} {i3 : Int} {i4 : Int} {i5 : Int} {i6 : Int} {P_ : (Int × JI × JI) → Prop} (h : Ev (fun n => (if (I 105 60) ≤ 0 then (kf_285 n dp e 3 I L i1 0 0 0 0 0) else (if (I 107 3) = 0 then (some (((-1) : Int), I, L)) else (kf_285 n dp e 3 I L i1 0 0 0 0 0)))) P_) : Ev (fun n => kf_285 n dp e 2 I L i1 i2 i3 i4 i5 i6) P_ := Ev_step (fun n => ke_285_2 n dp e I L i1 i2 i3 i4 i5 i6) h
end
/-! SHARE: the reference's first of the least -/
section KS
variable {dp : Nat} {e : EN} {L : JI} {ρ : Int → Int} {f : Nat → Int} {N men : Nat} {ms : Nat → Int}
def Sh5 (K : JI) (L : JI) (ρ : Int → Int) (f : Nat → Int) (N men : Nat) (ms : Nat → Int) (x : Int) (q : Int × JI × JI) : Prop := q.2.2 = L ∧ (∀ a i, ¬ a = 139 → ¬ a = 140 → q.2.1 a i = K a i) ∧ ((q.1 = -1 ∧ ∀ r, ¬ okR men (cnR ms (fun w => tkS ρ f w N)) (tkL ρ f N 16) r) ∨ ∃ r, Lst (okR men (cnR ms (fun w => tkS ρ f w N)) (tkL ρ f N 16)) (fun c => vlR (fun w => tkM ρ f w N) (tkL ρ f N 16) c (fun _ => 0) 0) r ∧ (x = -1 → q.1 = vlR (fun w => tkM ρ f w N) (tkL ρ f N 16) r (fun _ => 0) 0) ∧ ∀ j w m : Nat, (tkL ρ f N 16)[j]? = some w → r[j]? = some m → x = w → q.1 = m)
theorem tkL_p {n : Nat} : (tkL ρ f N n).Pairwise (· < ·) := List.Pairwise.filter _ List.pairwise_lt_range
theorem zip_g {T r : List Nat} {j w m : Nat} (h : T[j]? = some w) (g : r[j]? = some m) : (w, m) ∈ T.zip r := by
  have : (T.zip r)[j]? = some (w, m) := by rw [List.getElem?_zip_eq_some]; exact ⟨h, g⟩
  exact List.mem_of_getElem? this
set_option maxHeartbeats 2000000 in
/-- the row read out of its code -/
theorem K285d {K : JI} {r : List Nat} {x y b its : Int} (hV : ShV K ρ f N men ms) (hr : fuR (tkL ρ f N 16) r men) (hx : x = -1 ∨ (0 ≤ x ∧ x < 16)) : Ev (fun n => kf_285 n dp e 6 K L x y b its (enR men 0 r) 15) (fun q => q.2.2 = L ∧ (∀ a i, ¬ a = 139 → ¬ a = 140 → q.2.1 a i = K a i) ∧ (x = -1 → q.1 = b) ∧ ∀ j w m : Nat, (tkL ρ f N 16)[j]? = some w → r[j]? = some m → x = w → q.1 = m) := by
  obtain ⟨v1, v2, v3, v4⟩ := hV
  generalize hQ : (fun q : Int × JI × JI => q.2.2 = L ∧ (∀ a i, ¬ a = 139 → ¬ a = 140 → q.2.1 a i = K a i) ∧ (x = -1 → q.1 = b) ∧ ∀ j w m : Nat, (tkL ρ f N 16)[j]? = some w → r[j]? = some m → x = w → q.1 = m) = Q
  have down : ∀ (c : Nat), c ≤ 16 → ∀ (K1 : JI) (S s ra : List Nat), (∀ a i, ¬ a = 140 → K1 a i = K a i) → tkL ρ f N 16 = tkL ρ f N c ++ S → r = ra ++ s → ra.length = (tkL ρ f N c).length → (∀ w ∈ S, c ≤ w) → (∀ p ∈ S.zip s, K1 140 (p.1 : Int) = (p.2 : Int)) → Ev (fun n => kf_285 n dp e 6 K1 L x y b its (enR men 0 ra) ((c : Int) - 1)) Q := by
    intro c
    induction c with
    | zero =>
      intro _ K1 S s ra k1 k2 k3 k4 k5 k6
      have e0 : tkL ρ f N 0 = [] := rfl
      rw [e0] at k2 k4
      have : ra = [] := List.length_eq_zero_iff.1 (by simpa using k4)
      subst this
      rw [List.nil_append] at k2 k3
      rw [← k2, ← k3] at k6
      refine ev_285_6 ?_
      refine Ev_t (by omega) ?_
      rcases hx with hx | hx
      · refine Ev_t hx (Ev_ret ?_)
        rw [← hQ]
        exact ⟨rfl, fun a i _ y => k1 a i y, fun _ => rfl, fun j w m _ _ z => by omega⟩
      · refine Ev_f (by omega) (Ev_t hx (Ev_ret ?_))
        rw [← hQ]
        exact ⟨rfl, fun a i _ y => k1 a i y, fun z => by omega, fun j w m a b z => by
          subst z
          exact k6 (w, m) (zip_g a b)⟩
    | succ c ih =>
      intro hc K1 S s ra k1 k2 k3 k4 k5 k6
      obtain ⟨t1, t2, t3⟩ := v1 c (by omega)
      have e138 : K1 138 c = (if tkS ρ f c N = -1 then 0 else 1) := (k1 _ _ (by omega)).trans t2
      have e3 : K1 107 3 = men := (k1 _ _ (by omega)).trans v3
      rw [show ((c + 1 : Nat) : Int) - 1 = c by omega]
      refine ev_285_6 ?_
      refine Ev_f (by omega) (Ev_t (by omega) ?_)
      by_cases cs : tkS ρ f c N = -1
      · refine Ev_t (by rw [e138, if_pos cs]) ?_
        have eL : tkL ρ f N (c + 1) = tkL ρ f N c := by rw [tkL_s, if_pos cs, List.append_nil]
        rw [eL] at k2 k4
        refine ev_285_7 ?_
        refine Ev_t (by omega) ?_
        rw [show (c : Int) + -1 = (c : Int) - 1 by omega]
        exact ih (by omega) K1 S s ra k1 k2 k3 k4 (fun w hw => by have := k5 w hw; omega) k6
      · have eL : tkL ρ f N (c + 1) = tkL ρ f N c ++ [c] := by rw [tkL_s, if_neg cs]
        rw [eL] at k2 k4
        rw [List.length_append] at k4
        obtain ⟨rb, m, rfl, hrb⟩ := snoc_i (n := (tkL ρ f N c).length) k4
        have hmm : m < men := hr.2 m (by rw [k3]; simp)
        obtain ⟨d0, d1, d2⟩ := dm_men (a := enR men 0 rb) (b := men) (m := m) (enR_0 (by omega) rb 0 (Int.le_refl _)) (by omega) (by omega)
        have ezip : ([c] ++ S).zip ([m] ++ s) = (c, m) :: S.zip s := rfl
        rw [enR_a]
        refine Ev_f (by rw [e138, if_neg cs]; decide) (Ev_t (by rw [e3]; omega) (Ev_t (by omega) (Ev_t (by omega) (Ev_st ?_))))
        have e3' : ∀ v, w2 K1 140 c v 107 3 = men := fun v => by rw [w2_o (by omega)]; exact e3
        refine Ev_t (by rw [e3']; omega) ?_
        rw [e3', e3, d1, d2]
        refine ev_285_7 ?_
        refine Ev_t (by omega) ?_
        rw [show (c : Int) + -1 = (c : Int) - 1 by omega]
        refine ih (by omega) _ ([c] ++ S) ([m] ++ s) rb (fun a i y => by rw [w2_o y]; exact k1 a i y) (by rw [k2, List.append_assoc]) (by rw [k3, List.append_assoc]) hrb (fun w hw => ?_) (fun p hp => ?_)
        · rw [List.mem_append, List.mem_singleton] at hw
          rcases hw with hw | hw
          · omega
          · have := k5 w hw; omega
        · rw [ezip, List.mem_cons] at hp
          rcases hp with rfl | hp
          · rw [w2_ap, if_pos ⟨rfl, rfl⟩]
          · have := k5 p.1 (List.of_mem_zip hp).1
            rw [w2_n (by omega)]
            exact k6 p hp
  exact down 16 (Nat.le_refl _) K [] [] r (fun _ _ _ => rfl) (by rw [List.append_nil]) (by rw [List.append_nil]) hr.1 (fun w hw => absurd hw List.not_mem_nil) (fun p hp => absurd hp List.not_mem_nil)
set_option maxHeartbeats 2000000 in
theorem K285t {K : JI} {x : Int} (hd : 3 ≤ dp) (hV : ShV K ρ f N men ms) (hmen : men ≤ 4) (hm : ∀ w : Nat, 0 ≤ tkM ρ f w N ∧ tkM ρ f w N ≤ 96000) (hl : (tkL ρ f N 16).length ≤ 10) (hx : x = -1 ∨ (0 ≤ x ∧ x < 16)) : Ev (fun n => kf_285 n dp e 2 K L x 0 0 0 0 0) (Sh5 K L ρ f N men ms x) := by
  have hV' := hV
  obtain ⟨v1, v2, v3, v4⟩ := hV
  have pw := pwR_b (b := men) (by omega)
  have p10 : ∀ n, n ≤ 10 → pwR 4 n ≤ 1048576 := fun n hn => pwR_4 ⟨n, by omega⟩
  have vb : ∀ r, okR men (cnR ms (fun w => tkS ρ f w N)) (tkL ρ f N 16) r → vlR (fun w => tkM ρ f w N) (tkL ρ f N 16) r (fun _ => 0) 0 < 1000000000 := fun r hr => by
    have := (vlR_t (fun w => (hm w).1) hr).2
    have := lsum_b (g := fun w : Nat => tkM ρ f w N) (B := 96000) (tkL ρ f N 16) (fun w _ => hm w)
    omega
  obtain ⟨P, hP⟩ : ∃ P : Nat, pwR men (tkL ρ f N 16).length = P := ⟨(pwR men (tkL ρ f N 16).length).toNat, by have := (pw (tkL ρ f N 16).length).1; omega⟩
  have hP2 : P ≤ 1048576 := by
    have := (pw (tkL ρ f N 16).length).2
    have := p10 _ hl
    omega
  have codes : ∀ c : Nat, c ≤ P → ∀ (K1 : JI) (best its : Int), (∀ a i, ¬ a = 139 → K1 a i = K a i) → ((best = 1000000000 ∧ ∀ r, fuR (tkL ρ f N 16) r men → enR men 0 r < c → ¬ okR men (cnR ms (fun w => tkS ρ f w N)) (tkL ρ f N 16) r) ∨ ∃ r0, okR men (cnR ms (fun w => tkS ρ f w N)) (tkL ρ f N 16) r0 ∧ enR men 0 r0 = its ∧ its < c ∧ best = vlR (fun w => tkM ρ f w N) (tkL ρ f N 16) r0 (fun _ => 0) 0 ∧ ∀ r, fuR (tkL ρ f N 16) r men → enR men 0 r < c → okR men (cnR ms (fun w => tkS ρ f w N)) (tkL ρ f N 16) r → best ≤ vlR (fun w => tkM ρ f w N) (tkL ρ f N 16) r (fun _ => 0) 0 ∧ (enR men 0 r < its → best < vlR (fun w => tkM ρ f w N) (tkL ρ f N 16) r (fun _ => 0) 0)) → Ev (fun n => kf_285 n dp e 5 K1 L x P best its c 0) (Sh5 K L ρ f N men ms x) := by
    refine dec_ind P (fun c hc ih => ?_)
    intro K1 best its k1 k2
    have hV1 : ShV K1 ρ f N men ms := ShV_c (fun a i y _ => k1 a i y) hV'
    refine ev_285_5 ?_
    by_cases cc : c < P
    · have ih := ih cc
      obtain ⟨r, r1, r2, r3⟩ := enR_e (men := men) (tkL ρ f N 16).length c (by omega) (by omega)
      have hf : fuR (tkL ρ f N 16) r men := ⟨r1, r2⟩
      have k286 := K286 (dp := dp - 1) (e := e) (L := L) (by omega) hV1 hmen hm hf
      rw [r3] at k286
      have uq : ∀ r', fuR (tkL ρ f N 16) r' men → enR men 0 r' = c → r' = r := fun r' h' e' => enR_u h' hf (e'.trans r3.symm)
      refine Ev_f (by omega) (Ev_t (by omega) (Ev_bind k286 ?_))
      rintro ⟨v, K2, L2⟩ ⟨ez, y1, y2⟩
      dsimp only at ez y1 y2 ⊢
      subst ez
      have f2 : ∀ a i, ¬ a = 139 → K2 a i = K a i := fun a i z => (y1 a i z).trans (k1 a i z)
      by_cases cb : best ≤ v
      · refine Ev_t cb (Ev_t cb (Ev_t (by omega) ?_))
        rw [show (c : Int) + 1 = ((c + 1 : Nat) : Int) by omega]
        refine ih K2 best its f2 ?_
        rcases k2 with ⟨a1, a2⟩ | ⟨r0, a1, a2, a3, a4, a5⟩
        · refine Or.inl ⟨a1, fun r' h' e' o' => ?_⟩
          by_cases q : enR men 0 r' = c
          · rw [uq r' h' q] at o'
            rcases y2 with ⟨b1, b2⟩ | ⟨b1, b2⟩
            · have := vb r b1; omega
            · exact b1 o'
          · exact a2 r' h' (by omega) o'
        · refine Or.inr ⟨r0, a1, a2, by omega, a4, fun r' h' e' o' => ?_⟩
          by_cases q : enR men 0 r' = c
          · rw [uq r' h' q] at o' ⊢
            rcases y2 with ⟨b1, b2⟩ | ⟨b1, b2⟩
            · refine ⟨by omega, fun z => ?_⟩
              rw [r3] at z
              omega
            · exact absurd o' b1
          · exact a5 r' h' (by omega) o'
      · refine Ev_f cb (Ev_f cb (Ev_t (by omega) ?_))
        rw [show (c : Int) + 1 = ((c + 1 : Nat) : Int) by omega]
        refine ih K2 v c f2 ?_
        have bl : best ≤ 1000000000 := by
          rcases k2 with ⟨a1, _⟩ | ⟨r0, a1, _, _, a4, _⟩
          · omega
          · have := vb r0 a1; omega
        rcases y2 with ⟨b1, b2⟩ | ⟨b1, b2⟩
        · refine Or.inr ⟨r, b1, r3, by omega, b2, fun r' h' e' o' => ?_⟩
          by_cases q : enR men 0 r' = c
          · rw [uq r' h' q]
            exact ⟨by omega, fun z => by rw [r3] at z; omega⟩
          · rcases k2 with ⟨a1, a2⟩ | ⟨r0, a1, a2, a3, a4, a5⟩
            · exact absurd o' (a2 r' h' (by omega))
            · have := (a5 r' h' (by omega) o').1
              exact ⟨by omega, fun _ => by omega⟩
        · omega
    · have : c = P := by omega
      subst this
      have all : ∀ r, fuR (tkL ρ f N 16) r men → enR men 0 r < c := fun r h => by
        have := (enR_b (b := men) (by omega) r 0 (fun m hm' => by have := h.2 m hm'; omega)).2
        rw [h.1, hP] at this
        omega
      refine Ev_t (by omega) ?_
      rcases k2 with ⟨a1, a2⟩ | ⟨r0, a1, a2, a3, a4, a5⟩
      · exact Ev_t a1 (Ev_ret ⟨rfl, fun a i y _ => k1 a i y, Or.inl ⟨rfl, fun r hr => a2 r (okR_f hr) (all r (okR_f hr)) hr⟩⟩)
      · have b1 := vb r0 a1
        refine Ev_f (by omega) ?_
        rw [← a2]
        refine Ev_mono (K285d hV1 (okR_f a1) hx) ?_
        rintro ⟨v, K2, L2⟩ ⟨z1, z2, z3, z4⟩
        refine ⟨z1, fun a i y w => (z2 a i y w).trans (k1 a i y), Or.inr ⟨r0, ⟨a1, fun r' hr' => ?_⟩, fun h => (z3 h).trans a4, z4⟩⟩
        have q := a5 r' (okR_f hr') (all r' (okR_f hr')) hr'
        dsimp only
        rw [← a4]
        refine ⟨q.1, fun z => q.2 ?_⟩
        rw [← a2]
        exact enR_m (b := men) (by omega) r' r0 0 ((okR_l hr').trans (okR_l a1).symm) (fun m hm' => by have := (okR_f hr').2 m hm'; omega) (fun m hm' => by have := (okR_f a1).2 m hm'; omega) z
  have pows : ∀ k : Nat, k ≤ (tkL ρ f N 16).length → Ev (fun n => kf_285 n dp e 4 K L x (pwR men k) k 0 0 0) (Sh5 K L ρ f N men ms x) := by
    refine dec_ind (tkL ρ f N 16).length (fun k hk ih => ?_)
    refine ev_285_4 ?_
    rw [v2, v3]
    by_cases ck : k < (tkL ρ f N 16).length
    · have ih := ih ck
      have b1 := pw (k + 1)
      have b2 := p10 (k + 1) (by omega)
      have e1 : pwR men k * men = pwR men (k + 1) := Int.mul_comm _ _
      refine Ev_f (by omega) ?_
      rw [e1]
      refine Ev_t (by omega) ?_
      rw [show (k : Int) + 1 = ((k + 1 : Nat) : Int) by omega]
      exact ih
    · have : k = (tkL ρ f N 16).length := by omega
      subst this
      refine Ev_t (by omega) ?_
      rw [hP]
      refine codes 0 (Nat.zero_le _) K 1000000000 0 (fun _ _ _ => rfl) (Or.inl ⟨rfl, fun r hr z => ?_⟩)
      have := enR_0 (b := men) (by omega) r 0 (Int.le_refl _)
      omega
  have go : Ev (fun n => kf_285 n dp e 3 K L x 0 0 0 0 0) (Sh5 K L ρ f N men ms x) := by
    refine ev_285_3 ?_
    exact pows 0 (Nat.zero_le _)
  refine ev_285_2 ?_
  rw [v2, v3]
  refine Ev_c (fun _ => go) (fun c1 => Ev_c (fun c2 => ?_) (fun _ => go))
  refine Ev_ret ⟨rfl, fun _ _ _ _ => rfl, Or.inl ⟨rfl, fun r hr => ?_⟩⟩
  have l := okR_l hr
  cases r with
  | nil => simp at l; omega
  | cons m c => have := (okR_f hr).2 m List.mem_cons_self; omega
end KS
