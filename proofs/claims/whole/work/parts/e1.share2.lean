section
set_option maxRecDepth 100000 in
theorem ev_151_0 {dp : Nat} {e : EN} {I : JI} {L : JI} {i1 : Int} {i2 : Int} {i3 : Int} {i4 : Int} {P_ : (JI × JI) → Prop} (h : Ev (fun n => (if (I 73 13) ≤ i2 then (some (I, L)) else (if (I 73 14) < (I 73 13) then (if i1 < (I 73 10) then (if 0 ≤ i1 ∧ i1 < 16 then (stI (I 78 i1) (fun v_40 => (kf_151 n dp e 1 I L i1 i2 v_40 0))) else none) else (if 1 ≤ dp then ((kf_152 n (dp - 1) e 0 I L i2 0).bind (fun ⟨I0_30, L0_30⟩ => (some (I0_30, L0_30)))) else none)) else (some (I, L))))) P_) : Ev (fun n => kf_151 n dp e 0 I L i1 i2 i3 i4) P_ := Ev_step (fun n => ke_151_0 n dp e I L i1 i2 i3 i4) h
set_option maxRecDepth 100000 in
theorem ev_151_1 {dp : Nat} {e : EN} {I : JI} {L : JI} {i1 : Int} {i2 : Int} {i3 : Int} {i4 : Int} {P_ : (JI × JI) → Prop} (h : Ev (fun n => (if (I 1 8) ≤ i4 then (some (I, L)) else (if 1 ≤ dp then ((kf_153 n (dp - 1) e 0 I L i4 i3).bind (fun ⟨x0_60, I0_60, L0_60⟩ => (if x0_60 = 0 then (kf_151 n dp e 2 I0_60 L0_60 i1 i2 i3 i4) else (if 1 ≤ dp then ((kf_154 n (dp - 1) e 0 I0_60 L0_60 i4 0).bind (fun ⟨x1_69, I1_69, L1_69⟩ => (if x1_69 = 0 then (if 0 ≤ i1 ∧ i1 < 16 then (stI (w2 I1_69 79 i1 i4) (fun I_82 => (if 0 ≤ i4 ∧ i4 < 4 then (if 0 ≤ i3 ∧ i3 < 16 then (if 0 ≤ i4 ∧ i4 < 4 then (if -2147483648 ≤ (I_82 80 i4) + (I_82 74 i3) ∧ (I_82 80 i4) + (I_82 74 i3) ≤ 2147483647 then (stI (w2 I_82 80 i4 ((I_82 80 i4) + (I_82 74 i3))) (fun I_98 => (if 0 ≤ i4 ∧ i4 < 4 then (if 1 ≤ dp then (if 1 ≤ dp then (if -2147483648 ≤ i1 + 1 ∧ i1 + 1 ≤ 2147483647 then ((kf_151 n (dp - 1) e 0 I_98 L1_69 (i1 + 1) (max i2 (I_98 80 i4)) 0 0).bind (fun ⟨I2_114, L2_114⟩ => (if 0 ≤ i4 ∧ i4 < 4 then (if 0 ≤ i3 ∧ i3 < 16 then (if 0 ≤ i4 ∧ i4 < 4 then (if -2147483648 ≤ (I2_114 80 i4) - (I2_114 74 i3) ∧ (I2_114 80 i4) - (I2_114 74 i3) ≤ 2147483647 then (stI (w2 I2_114 80 i4 ((I2_114 80 i4) - (I2_114 74 i3))) (fun I_132 => (kf_151 n dp e 2 I_132 L2_114 i1 i2 i3 i4))) else none) else none) else none) else none))) else none) else none) else none) else none))) else none) else none) else none) else none))) else none) else (kf_151 n dp e 2 I1_69 L1_69 i1 i2 i3 i4)))) else none)))) else none))) P_) : Ev (fun n => kf_151 n dp e 1 I L i1 i2 i3 i4) P_ := Ev_step (fun n => ke_151_1 n dp e I L i1 i2 i3 i4) h
set_option maxRecDepth 100000 in
theorem ev_151_2 {dp : Nat} {e : EN} {I : JI} {L : JI} {i1 : Int} {i2 : Int} {i3 : Int} {i4 : Int} {P_ : (JI × JI) → Prop} (h : Ev (fun n => (if -2147483648 ≤ i4 + 1 ∧ i4 + 1 ≤ 2147483647 then (kf_151 n dp e 1 I L i1 i2 i3 (i4 + 1)) else none)) P_) : Ev (fun n => kf_151 n dp e 2 I L i1 i2 i3 i4) P_ := Ev_step (fun n => ke_151_2 n dp e I L i1 i2 i3 i4) h
end
/-! SHARE: the class searches -/
section SH2
variable {e : EN} {L : JI} {T : List Nat} {mn sk ms : Nat → Int} {men : Nat}
/-- what the search looks at -/
def ShW (J : JI) (T : List Nat) (mn sk ms : Nat → Int) (men : Nat) : Prop := J 73 10 = (T.length : Int) ∧ J 1 8 = (men : Int) ∧ AsT (J 78) T ∧ (∀ w ∈ T, J 74 (w : Int) = mn w ∧ J 75 (w : Int) = sk w) ∧ ∀ m : Nat, m < men → J 5 (m : Int) = ms m
def FrSh (J J' : JI) : Prop := ∀ a i, ¬ (a = 73 ∧ i = 13) → ¬ a = 76 → ¬ a = 79 → ¬ a = 80 → J' a i = J a i
theorem ShW_c {J J' : JI} (h : FrSh J J') (q : ShW J T mn sk ms men) : ShW J' T mn sk ms men := by
  obtain ⟨q1, q2, q3, q4, q5⟩ := q
  refine ⟨by rw [h _ _ (by omega) (by omega) (by omega) (by omega)]; exact q1, by rw [h _ _ (by omega) (by omega) (by omega) (by omega)]; exact q2, AsT_c (fun j _ => h _ _ (by omega) (by omega) (by omega) (by omega)) q3, fun w hw => ?_, fun m hm => by rw [h _ _ (by omega) (by omega) (by omega) (by omega)]; exact q5 m hm⟩
  rw [h 74 _ (by omega) (by omega) (by omega) (by omega), h 75 _ (by omega) (by omega) (by omega) (by omega)]
  exact q4 w hw
/-- the row that is kept -/
def KpQ (A0 A : Int → Int) (T p : List Nat) (q : Option (List Nat)) : Prop := (q = none → ∀ i, A i = A0 i) ∧ ∀ c, q = some c → KpT A T (p ++ c) ∧ ∀ i, (∀ w ∈ T, ¬ i = (w : Int)) → A i = A0 i
theorem KpQ_o {A0 A : Int → Int} {p : List Nat} {q : Option (List Nat)} (h : KpQ A0 A T p q) : ∀ i, (∀ w ∈ T, ¬ i = (w : Int)) → A i = A0 i := fun i hi => by
  cases q with
  | none => exact h.1 rfl i
  | some c => exact (h.2 c rfl).2 i hi
theorem BsG_l {ok : List Nat → Prop} {v : List Nat → Int} {lim l : Int} {q : Option (List Nat)} (h : BsG ok v lim l q) : ∀ r, ok r → l ≤ v r := fun r hr => by
  rcases h with ⟨h1, _, h3⟩ | ⟨_, _, _, _, _, h5⟩
  · rw [h1]; exact h3 r hr
  · exact (h5 r hr).1
def ShQ2 (J : JI) (L : JI) (T p ts : List Nat) (mn sk ms : Nat → Int) (men : Nat) (ld : Nat → Int) (ls : Int) (r : JI × JI) : Prop := r.2 = L ∧ FrSh J r.1 ∧ (∀ j : Nat, j < p.length → r.1 79 j = J 79 j) ∧ (∀ m : Nat, m < men → r.1 80 m = ld m) ∧ ∃ q, BsG (okR men (cnR ms sk) ts) (fun c => vlR mn ts c ld ls) (J 73 13) (r.1 73 13) q ∧ KpQ (J 76) (r.1 76) T p q
set_option maxHeartbeats 2000000 in
theorem K151 (hmen : men ≤ 4) (hl : T.length ≤ 10) (hb : ∀ w ∈ T, w < 16) (hn : T.Nodup) (hm : ∀ w, 0 ≤ mn w ∧ mn w ≤ 96000) {en : Int} : ∀ (ts p : List Nat) (dp : Nat) (J : JI) (ld : Nat → Int) (ls : Int), p.length + ts.length = T.length → T.drop p.length = ts → ts.length + 2 ≤ dp → ShW J T mn sk ms men → AsT (J 79) p → (∀ m : Nat, m < men → J 80 m = ld m ∧ 0 ≤ ld m ∧ ld m ≤ 96000 * (p.length : Int)) → (0 ≤ ls ∧ ls ≤ 96000 * (p.length : Int)) → J 73 14 = en → (∀ r, okR men (cnR ms sk) ts r → en ≤ vlR mn ts r ld ls) → Ev (fun n => kf_151 n dp e 0 J L p.length ls 0 0) (ShQ2 J L T p ts mn sk ms men ld ls)
  | [], p, dp, J, ld, ls, hp, hdr, hdp, hW, h79, h80, hls, hen, hH => by
    have hp : p.length = T.length := by simpa using hp
    have none_ : (∀ r, okR men (cnR ms sk) [] r → J 73 13 ≤ vlR mn [] r ld ls) → ShQ2 J L T p [] mn sk ms men ld ls (J, L) := fun z => ⟨rfl, fun _ _ _ _ _ _ => rfl, fun _ _ => rfl, fun m hm => (h80 m hm).1, none, Or.inl ⟨rfl, rfl, z⟩, ⟨fun _ _ => rfl, fun c hc => by cases hc⟩⟩
    obtain ⟨w1, w2', w3, w4, w5⟩ := hW
    have hdp : 2 ≤ dp := by simpa using hdp
    refine ev_151_0 ?_
    refine Ev_c (fun c => Ev_ret (none_ (fun r hr => ?_))) (fun c => ?_)
    · have := vlR_g (mn := mn) [] r ld ls
      omega
    · refine Ev_c (fun c2 => ?_) (fun c2 => Ev_ret (none_ (fun r hr => ?_)))
      · refine Ev_f (by rw [w1]; omega) (Ev_t (by omega) (Ev_bind (K152 (p := p) w1 (by omega) w3 hb hn h79 hp) ?_))
        rintro ⟨J1, L1⟩ ⟨r1, r2, r3, r4, r5⟩
        dsimp only at r1 r2 r3 r4 r5 ⊢
        subst r1
        refine Ev_ret ⟨rfl, fun a i x1 x2 x3 x4 => r2 a i x1 x2, fun j _ => r2 _ _ (by omega) (by omega), fun m hm => by dsimp only; rw [r2 _ _ (by omega) (by omega)]; exact (h80 m hm).1, some [], Or.inr ⟨by dsimp only; omega, [], rfl, trivial, by dsimp only; rw [vlR]; exact r3.symm, fun r' hr' => ?_⟩, ⟨fun hc => (by cases hc), fun c hc => ?_⟩⟩
        · rw [okR_0 hr']
          dsimp only
          rw [vlR, r3]
          exact ⟨Int.le_refl _, fun z => by rw [lxR] at z; exact z.elim⟩
        · cases hc
          rw [List.append_nil]
          exact ⟨r4, r5⟩
      · have := hH r hr
        omega
  | w :: ts, p, dp, J, ld, ls, hp, hdr, hdp, hW, h79, h80, hls, hen, hH => by
    rw [List.length_cons] at hp hdp
    have none_ : (∀ r, okR men (cnR ms sk) (w :: ts) r → J 73 13 ≤ vlR mn (w :: ts) r ld ls) → ShQ2 J L T p (w :: ts) mn sk ms men ld ls (J, L) := fun z => ⟨rfl, fun _ _ _ _ _ _ => rfl, fun _ _ => rfl, fun m hm => (h80 m hm).1, none, Or.inl ⟨rfl, rfl, z⟩, ⟨fun _ _ => rfl, fun c hc => by cases hc⟩⟩
    have hW' := hW
    obtain ⟨w1, w2', w3, w4, w5⟩ := hW
    have ew : T[p.length]? = some w := by
      have := congrArg (fun l => l[0]?) hdr
      simpa using this
    have hwT : w ∈ T := List.mem_of_getElem? ew
    have hw := hb w hwT
    have e78 : J 78 (p.length : Int) = w := w3 _ _ ew
    have hdr' : T.drop (p.length + 1) = ts := by
      rw [← List.drop_drop, hdr]
      rfl
    have bmn := hm w
    /- the men, one behind another -/
    have loop : ∀ j : Nat, j ≤ men → ∀ K : JI, FrSh J K → (∀ j' : Nat, j' < p.length → K 79 j' = J 79 j') → (∀ m : Nat, m < men → K 80 m = ld m) → (∃ q, BsG (okJ men (cnR ms sk) w ts j) (fun c => vlR mn (w :: ts) c ld ls) (J 73 13) (K 73 13) q ∧ KpQ (J 76) (K 76) T p q) → Ev (fun n => kf_151 n dp e 1 K L p.length ls w j) (ShQ2 J L T p (w :: ts) mn sk ms men ld ls) := by
      refine dec_ind men (fun j hj ih => ?_)
      rintro K k1 k2 k3 ⟨q, k4, k5⟩
      have hWK := ShW_c k1 hW'
      obtain ⟨v1, v2, v3, v4, v5⟩ := hWK
      refine ev_151_1 ?_
      rw [v2]
      by_cases cj : j < men
      · have ih := ih cj
        have nx : ∀ K' : JI, FrSh J K' → (∀ j' : Nat, j' < p.length → K' 79 j' = J 79 j') → (∀ m : Nat, m < men → K' 80 m = ld m) → (∃ q, BsG (okJ men (cnR ms sk) w ts (j + 1)) (fun c => vlR mn (w :: ts) c ld ls) (J 73 13) (K' 73 13) q ∧ KpQ (J 76) (K' 76) T p q) → Ev (fun n => kf_151 n dp e 2 K' L p.length ls w j) (ShQ2 J L T p (w :: ts) mn sk ms men ld ls) := fun K' z1 z2 z3 z4 => by
          refine ev_151_2 ?_
          refine Ev_t (by omega) ?_
          rw [show (j : Int) + 1 = ((j + 1 : Nat) : Int) by omega]
          exact ih K' z1 z2 z3 z4
        refine Ev_f (by omega) (Ev_t (by omega) (K153 (ms := ms) (sk := sk) (by omega) hw (v5 j cj) (v4 w hwT).2 (fun c1 => ?_) (fun c1 => Ev_t rfl (nx K k1 k2 k3 ⟨q, BsJ_n k4 (fun c hc => absurd (okR_c.1 hc).1.2 c1), k5⟩))))
        refine Ev_f (by decide) (Ev_t (by omega) (K154 (by omega) (fun c2 => ?_) (fun c2 => ?_)))
        · obtain ⟨o, o1, o2, o3⟩ := c2
          rw [v5 o (by omega), v5 j cj] at o2
          rw [k3 o (by omega), k3 j cj] at o3
          refine Ev_f (by decide) (nx K k1 k2 k3 ⟨q, BsJ_n k4 (fun c hc => ?_), k5⟩)
          obtain ⟨c', y1, y2⟩ := alike (mn := mn) (ls := ls) o1 o3 (fun w => by unfold cnR; rw [o2]) hc
          have := BsG_l k4 (o :: c') ⟨y1, o, c', rfl, o1⟩
          try dsimp only at this ⊢
          rw [y2] at this
          exact this
        · obtain ⟨_, l0, l1⟩ := h80 j cj
          refine Ev_t rfl (Ev_t (by omega) (Ev_st (Ev_t (by omega) (Ev_t (by omega) (Ev_t (by omega) ?_)))))
          rw [w2_o (show ¬ (80 : Nat) = 79 by omega), w2_o (show ¬ (74 : Nat) = 79 by omega), k3 j cj, (v4 w hwT).1]
          refine Ev_t (by omega) (Ev_st (Ev_t (by omega) (Ev_t (by omega) (Ev_t (by omega) (Ev_t (by omega) ?_)))))
          have n1 : ∀ a i, ¬ (a = 79 ∧ i = (p.length : Int)) → ¬ (a = 80 ∧ i = (j : Int)) → w2 (w2 K 79 (p.length : Int) j) 80 j (ld j + mn w) a i = K a i := fun a i x y => by rw [w2_n y, w2_n x]
          have n79 : w2 (w2 K 79 (p.length : Int) j) 80 j (ld j + mn w) 79 (p.length : Int) = j := by rw [w2_o (by omega), w2_ap, if_pos ⟨rfl, rfl⟩]
          have n80 : w2 (w2 K 79 (p.length : Int) j) 80 j (ld j + mn w) 80 j = ld j + mn w := by rw [w2_ap, if_pos ⟨rfl, rfl⟩]
          rw [n80]
          generalize w2 (w2 K 79 (p.length : Int) j) 80 j (ld j + mn w) = K1 at n1 n79 n80 ⊢
          have f1 : FrSh J K1 := fun a i x1 x2 x3 x4 => by rw [n1 a i (by omega) (by omega)]; exact k1 a i x1 x2 x3 x4
          have lp : (p ++ [j]).length = p.length + 1 := by rw [List.length_append]; rfl
          have rcc := K151 hmen hl hb hn hm (en := en) ts (p ++ [j]) (dp - 1) K1 (upL ld j (mn w)) (max ls (ld j + mn w)) (by rw [lp]; omega) (by rw [lp]; exact hdr') (by omega) (ShW_c f1 hW') (fun i m ei => by
            by_cases z : i < p.length
            · rw [List.getElem?_append_left z] at ei
              rw [n1 _ _ (by omega) (by omega), k2 i z]
              exact h79 i m ei
            · rw [List.getElem?_append_right (by omega)] at ei
              have hi : i = p.length := by
                obtain ⟨hi, _⟩ := List.getElem?_eq_some_iff.mp ei
                simp at hi
                omega
              subst hi
              simp at ei
              subst ei
              exact n79) (fun m hm' => by
            rw [lp]
            obtain ⟨_, b1, b2⟩ := h80 m hm'
            unfold upL
            by_cases z : m = j
            · subst z
              rw [if_pos rfl]
              exact ⟨n80, by omega, by omega⟩
            · rw [if_neg z, n1 _ _ (by omega) (by omega)]
              exact ⟨k3 m hm', by omega, by omega⟩) (by rw [lp]; omega) (by rw [n1 _ _ (by omega) (by omega), k1 _ _ (by omega) (by omega) (by omega) (by omega)]; exact hen) (fun r hr => by
            have := hH (j :: r) (okR_c.2 ⟨⟨cj, c1⟩, hr⟩)
            rw [vlR_c] at this
            exact this)
          rw [lp] at rcc
          rw [show (p.length : Int) + 1 = ((p.length + 1 : Nat) : Int) by omega]
          refine Ev_bind rcc ?_
          rintro ⟨K2, L2⟩ ⟨r1, r2, r3, r4, q', r5, r6⟩
          dsimp only at r1 r2 r3 r4 r5 r6 ⊢
          subst r1
          have e80 := r4 j cj
          have e80 : K2 80 j = ld j + mn w := by
            unfold upL at e80
            rw [if_pos rfl] at e80
            exact e80
          have e74 : K2 74 w = mn w := by
            rw [r2 _ _ (by omega) (by omega) (by omega) (by omega), f1 _ _ (by omega) (by omega) (by omega) (by omega)]
            exact (w4 w hwT).1
          refine Ev_t (by omega) (Ev_t (by omega) (Ev_t (by omega) ?_))
          rw [e80, e74]
          refine Ev_t (by omega) (Ev_st ?_)
          have e13 : K1 73 13 = K 73 13 := n1 _ _ (by omega) (by omega)
          have e76 : K1 76 = K 76 := funext fun i => n1 _ _ (by omega) (by omega)
          rw [e13] at r5
          rw [e76] at r6
          refine nx _ (fun a i x1 x2 x3 x4 => by rw [w2_o x4, r2 a i x1 x2 x3 x4]; exact f1 a i x1 x2 x3 x4) (fun i hi => ?_) (fun m hm' => ?_) ⟨csQ j q q', ?_, ?_⟩
          · rw [w2_o (by omega), r3 i (by rw [lp]; omega), n1 _ _ (by omega) (by omega)]; exact k2 i hi
          · by_cases z : m = j
            · subst z
              rw [w2_ap, if_pos ⟨rfl, rfl⟩]; omega
            · rw [w2_n (by omega), r4 m hm']
              unfold upL
              rw [if_neg z]
          · rw [w2_o (by omega)]
            exact BsJ_c (vc := fun c => vlR mn ts c (upL ld j (mn w)) (max ls (ld j + mn w))) ⟨cj, c1⟩ k4 (fun c => vlR_c) r5
          · have e76' : w2 K2 80 j (ld j + mn w - mn w) 76 = K2 76 := funext fun i => w2_o (by omega)
            rw [e76']
            cases q' with
            | none =>
              have s6 := r6.1 rfl
              refine ⟨fun z i => by rw [s6]; exact k5.1 z i, fun c hc => ⟨fun i w m a b => by rw [s6]; exact (k5.2 c hc).1 i w m a b, fun i hi => by rw [s6]; exact (k5.2 c hc).2 i hi⟩⟩
            | some c =>
              obtain ⟨s6, s7⟩ := r6.2 c rfl
              refine ⟨fun z => (by cases z), fun c' hc => ?_⟩
              cases hc
              rw [List.append_assoc] at s6
              exact ⟨s6, fun i hi => by rw [s7 i hi]; exact KpQ_o k5 i hi⟩
      · have : j = men := by omega
        subst this
        exact Ev_t (by omega) (Ev_ret ⟨rfl, k1, k2, k3, q, BsJ_e k4, k5⟩)
    refine ev_151_0 ?_
    refine Ev_c (fun c => Ev_ret (none_ (fun r hr => ?_))) (fun c => ?_)
    · have := vlR_g (mn := mn) (w :: ts) r ld ls
      omega
    · refine Ev_c (fun c2 => ?_) (fun c2 => Ev_ret (none_ (fun r hr => ?_)))
      · refine Ev_t (by rw [w1]; omega) (Ev_t (by omega) (Ev_st ?_))
        rw [e78]
        exact loop 0 (Nat.zero_le _) J (fun _ _ _ _ _ _ => rfl) (fun _ _ => rfl) (fun m hm' => (h80 m hm').1) ⟨none, BsJ_0, ⟨fun _ _ => rfl, fun c hc => by cases hc⟩⟩
      · have := hH r hr
        omega
end SH2
