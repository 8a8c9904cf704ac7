section
set_option maxRecDepth 100000 in
theorem ev_150_0 {dp : Nat} {e : EN} {I : JI} {L : JI} {i1 : Int} {i2 : Int} {i3 : Int} {P_ : (Int × JI × JI) → Prop} (h : Ev (fun n => (if i3 = 0 then (if i2 ≤ i1 then (some ((0 : Int), I, L)) else (some ((1 : Int), I, L))) else (if 0 ≤ i1 ∧ i1 < 16 then (if 0 ≤ i2 ∧ i2 < 16 then (if (I 74 i1) ≤ (I 74 i2) then (some ((0 : Int), I, L)) else (some ((1 : Int), I, L))) else none) else none))) P_) : Ev (fun n => kf_150 n dp e 0 I L i1 i2 i3) P_ := Ev_step (fun n => ke_150_0 n dp e I L i1 i2 i3) h
set_option maxRecDepth 100000 in
theorem ev_149_1 {dp : Nat} {e : EN} {I : JI} {L : JI} {i1 : Int} {i2 : Int} {i3 : Int} {i4 : Int} {P_ : (JI × JI) → Prop} (h : Ev (fun n => (if (I 73 10) ≤ i2 then (some (I, L)) else (if 0 ≤ i2 ∧ i2 < 16 then (stI (I 78 i2) (fun v_16 => (kf_149 n dp e 2 I L i1 i2 v_16 i2))) else none))) P_) : Ev (fun n => kf_149 n dp e 1 I L i1 i2 i3 i4) P_ := Ev_step (fun n => ke_149_1 n dp e I L i1 i2 i3 i4) h
set_option maxRecDepth 100000 in
theorem ev_149_2 {dp : Nat} {e : EN} {I : JI} {L : JI} {i1 : Int} {i2 : Int} {i3 : Int} {i4 : Int} {P_ : (JI × JI) → Prop} (h : Ev (fun n => (if i4 ≤ 0 then (kf_149 n dp e 3 I L i1 i2 i3 i4) else (if -2147483648 ≤ i4 - 1 ∧ i4 - 1 ≤ 2147483647 then (if 0 ≤ (i4 - 1) ∧ (i4 - 1) < 16 then (if 1 ≤ dp then ((kf_150 n (dp - 1) e 0 I L i3 (I 78 (i4 - 1)) i1).bind (fun ⟨x0_37, I0_37, L0_37⟩ => (if x0_37 = 0 then (kf_149 n dp e 3 I0_37 L0_37 i1 i2 i3 i4) else (if 0 ≤ (i4 - 1) ∧ (i4 - 1) < 16 then (if 0 ≤ i4 ∧ i4 < 16 then (stI (w2 I0_37 78 i4 (I0_37 78 (i4 - 1))) (fun I_58 => (if -2147483648 ≤ i4 + (-1) ∧ i4 + (-1) ≤ 2147483647 then (kf_149 n dp e 2 I_58 L0_37 i1 i2 i3 (i4 + (-1))) else none))) else none) else none)))) else none) else none) else none))) P_) : Ev (fun n => kf_149 n dp e 2 I L i1 i2 i3 i4) P_ := Ev_step (fun n => ke_149_2 n dp e I L i1 i2 i3 i4) h
set_option maxRecDepth 100000 in
theorem ev_149_3 {dp : Nat} {e : EN} {I : JI} {L : JI} {i1 : Int} {i2 : Int} {i3 : Int} {i4 : Int} {P_ : (JI × JI) → Prop} (h : Ev (fun n => (if 0 ≤ i4 ∧ i4 < 16 then (stI (w2 I 78 i4 i3) (fun I_72 => (if -2147483648 ≤ i2 + 1 ∧ i2 + 1 ≤ 2147483647 then (kf_149 n dp e 1 I_72 L i1 (i2 + 1) 0 0) else none))) else none)) P_) : Ev (fun n => kf_149 n dp e 3 I L i1 i2 i3 i4) P_ := Ev_step (fun n => ke_149_3 n dp e I L i1 i2 i3 i4) h
set_option maxRecDepth 100000 in
theorem ev_149_0 {dp : Nat} {e : EN} {I : JI} {L : JI} {i1 : Int} {i2 : Int} {i3 : Int} {i4 : Int} {P_ : (JI × JI) → Prop} (h : Ev (fun n => (kf_149 n dp e 1 I L i1 1 0 0)) P_) : Ev (fun n => kf_149 n dp e 0 I L i1 i2 i3 i4) P_ := Ev_step (fun n => ke_149_0 n dp e I L i1 i2 i3 i4) h
set_option maxRecDepth 100000 in
theorem ev_152_1 {dp : Nat} {e : EN} {I : JI} {L : JI} {i1 : Int} {i2 : Int} {P_ : (JI × JI) → Prop} (h : Ev (fun n => (if (I 73 10) ≤ i2 then (some (I, L)) else (if 0 ≤ i2 ∧ i2 < 16 then (if 0 ≤ i2 ∧ i2 < 16 then (if 0 ≤ (I 78 i2) ∧ (I 78 i2) < 16 then (stI (w2 I 76 (I 78 i2) (I 79 i2)) (fun I_31 => (if -2147483648 ≤ i2 + 1 ∧ i2 + 1 ≤ 2147483647 then (kf_152 n dp e 1 I_31 L i1 (i2 + 1)) else none))) else none) else none) else none))) P_) : Ev (fun n => kf_152 n dp e 1 I L i1 i2) P_ := Ev_step (fun n => ke_152_1 n dp e I L i1 i2) h
set_option maxRecDepth 100000 in
theorem ev_152_0 {dp : Nat} {e : EN} {I : JI} {L : JI} {i1 : Int} {i2 : Int} {P_ : (JI × JI) → Prop} (h : Ev (fun n => (stI (w2 I 73 13 i1) (fun I_2 => (kf_152 n dp e 1 I_2 L i1 0)))) P_) : Ev (fun n => kf_152 n dp e 0 I L i1 i2) P_ := Ev_step (fun n => ke_152_0 n dp e I L i1 i2) h
set_option maxRecDepth 100000 in
theorem ev_153_0 {dp : Nat} {e : EN} {I : JI} {L : JI} {i1 : Int} {i2 : Int} {P_ : (Int × JI × JI) → Prop} (h : Ev (fun n => (if 0 ≤ i1 ∧ i1 < 4 then (if 0 ≤ i2 ∧ i2 < 16 then (if (bA (bR (I 5 i1) (I 75 i2)) 1) = 1 then (some ((1 : Int), I, L)) else (some ((0 : Int), I, L))) else none) else none)) P_) : Ev (fun n => kf_153 n dp e 0 I L i1 i2) P_ := Ev_step (fun n => ke_153_0 n dp e I L i1 i2) h
set_option maxRecDepth 100000 in
theorem ev_154_1 {dp : Nat} {e : EN} {I : JI} {L : JI} {i1 : Int} {i2 : Int} {P_ : (Int × JI × JI) → Prop} (h : Ev (fun n => (if i1 ≤ i2 then (some ((0 : Int), I, L)) else (if 0 ≤ i2 ∧ i2 < 4 then (if 0 ≤ i1 ∧ i1 < 4 then (if (I 5 i2) = (I 5 i1) then (if 0 ≤ i2 ∧ i2 < 4 then (if 0 ≤ i1 ∧ i1 < 4 then (if (I 80 i2) = (I 80 i1) then (some ((1 : Int), I, L)) else (kf_154 n dp e 2 I L i1 i2)) else none) else none) else (kf_154 n dp e 2 I L i1 i2)) else none) else none))) P_) : Ev (fun n => kf_154 n dp e 1 I L i1 i2) P_ := Ev_step (fun n => ke_154_1 n dp e I L i1 i2) h
set_option maxRecDepth 100000 in
theorem ev_154_2 {dp : Nat} {e : EN} {I : JI} {L : JI} {i1 : Int} {i2 : Int} {P_ : (Int × JI × JI) → Prop} (h : Ev (fun n => (if -2147483648 ≤ i2 + 1 ∧ i2 + 1 ≤ 2147483647 then (kf_154 n dp e 1 I L i1 (i2 + 1)) else none)) P_) : Ev (fun n => kf_154 n dp e 2 I L i1 i2) P_ := Ev_step (fun n => ke_154_2 n dp e I L i1 i2) h
set_option maxRecDepth 100000 in
theorem ev_154_0 {dp : Nat} {e : EN} {I : JI} {L : JI} {i1 : Int} {i2 : Int} {P_ : (Int × JI × JI) → Prop} (h : Ev (fun n => (kf_154 n dp e 1 I L i1 0)) P_) : Ev (fun n => kf_154 n dp e 0 I L i1 i2) P_ := Ev_step (fun n => ke_154_0 n dp e I L i1 i2) h
end
/-! SHARE: the class sorts, keeps, looks for one who is alike -/
section SH1
variable {dp : Nat} {e : EN} {L : JI}
theorem AsT_i {A : Int → Int} {l : List Nat} {j : Nat} (h : AsT A l) (hj : j < l.length) : A j = ((l[j] : Nat) : Int) := h j _ (List.getElem?_eq_getElem hj)
/-- way is ahead of other -/
def ahd (J : JI) (md : Int) (w v : Int) : Prop := if md = 0 then w < v else J 74 v < J 74 w
theorem K150 {J : JI} {md w v : Int} {k : Nat → Int × JI × JI → Option (JI × JI)} {T : JI × JI → Prop} (hw : 0 ≤ w ∧ w < 16) (hv : 0 ≤ v ∧ v < 16) (g1 : ahd J md w v → Ev (fun n => k n (1, J, L)) T) (g0 : ¬ ahd J md w v → Ev (fun n => k n (0, J, L)) T) : Ev (fun n => (kf_150 n dp e 0 J L w v md).bind (k n)) T := by
  unfold ahd at g1 g0
  by_cases c : md = 0
  · rw [if_pos c] at g1 g0
    by_cases d : v ≤ w
    · refine Ev_call (v := (0, J, L)) ?_ (g0 (by omega))
      refine ev_150_0 ?_
      exact Ev_t c (Ev_t d (Ev_ret rfl))
    · refine Ev_call (v := (1, J, L)) ?_ (g1 (by omega))
      refine ev_150_0 ?_
      exact Ev_t c (Ev_f d (Ev_ret rfl))
  · rw [if_neg c] at g1 g0
    by_cases d : J 74 w ≤ J 74 v
    · refine Ev_call (v := (0, J, L)) ?_ (g0 (by omega))
      refine ev_150_0 ?_
      exact Ev_f c (Ev_t hw (Ev_t hv (Ev_t d (Ev_ret rfl))))
    · refine Ev_call (v := (1, J, L)) ?_ (g1 (by omega))
      refine ev_150_0 ?_
      exact Ev_f c (Ev_t hw (Ev_t hv (Ev_f d (Ev_ret rfl))))
/-- the list without its place at, which way is to fill -/
def AsH (A : Int → Int) (B C : List Nat) : Prop := (∀ j v : Nat, B[j]? = some v → A j = v) ∧ ∀ j v : Nat, C[j]? = some v → A ((B.length + 1 + j : Nat) : Int) = v
theorem AsH_f {A : Int → Int} {B C : List Nat} {w : Nat} (h : AsH A B C) : AsT (fun i => if i = (B.length : Int) then (w : Int) else A i) (B ++ w :: C) := fun j v e => by
  by_cases c : j < B.length
  · rw [List.getElem?_append_left c] at e
    show (if (j : Int) = (B.length : Int) then _ else _) = _
    rw [if_neg (by omega)]; exact h.1 j v e
  · rw [List.getElem?_append_right (by omega)] at e
    obtain ⟨i, rfl⟩ : ∃ i, j = B.length + i := ⟨j - B.length, by omega⟩
    rw [show B.length + i - B.length = i by omega] at e
    cases i with
    | zero =>
      simp at e
      subst e
      show (if ((B.length + 0 : Nat) : Int) = (B.length : Int) then _ else _) = _
      rw [if_pos (by omega)]
    | succ i =>
      rw [List.getElem?_cons_succ] at e
      show (if ((B.length + (i + 1) : Nat) : Int) = (B.length : Int) then _ else _) = _
      rw [if_neg (by omega)]
      have := h.2 i v e
      rw [show B.length + 1 + i = B.length + (i + 1) by omega] at this
      exact this
def FrSo (J J' : JI) : Prop := ∀ a i, ¬ a = 78 → J' a i = J a i
set_option maxHeartbeats 1000000 in
theorem K149 {J : JI} {md : Int} {T : List Nat} (hd : 1 ≤ dp) (h10 : J 73 10 = (T.length : Int)) (hl : T.length ≤ 16) (hT : AsT (J 78) T) (hb : ∀ w ∈ T, w < 16) (hn : T.Nodup) : Ev (fun n => kf_149 n dp e 0 J L md 0 0 0) (fun r => r.2 = L ∧ FrSo J r.1 ∧ ∃ T' : List Nat, T'.Perm T ∧ AsT (r.1 78) T' ∧ (md = 0 → T'.Pairwise (· < ·))) := by
  have outer : ∀ k : Nat, k ≤ T.length → ∀ (K : JI) (A D : List Nat), FrSo J K → 1 ≤ k ∨ T = [] → A.length = k → AsT (K 78) (A ++ D) → (A ++ D).Perm T → (md = 0 → A.Pairwise (· < ·)) → Ev (fun n => kf_149 n dp e 1 K L md k 0 0) (fun r => r.2 = L ∧ FrSo J r.1 ∧ ∃ T' : List Nat, T'.Perm T ∧ AsT (r.1 78) T' ∧ (md = 0 → T'.Pairwise (· < ·))) := by
    refine dec_ind T.length (fun k hk ih => ?_)
    intro K A D k1 k2 k3 k4 k5 k6
    refine ev_149_1 ?_
    rw [k1 73 _ (by omega), h10]
    by_cases ck : k < T.length
    · have ih := ih ck
      have lp := k5.length_eq
      rw [List.length_append] at lp
      cases D with
      | nil => simp at lp; omega
      | cons w C =>
        have hw : w < 16 := hb w ((k5.mem_iff).1 (List.mem_append_right _ List.mem_cons_self))
        have kw : K 78 k = w := k4 k w (by rw [List.getElem?_append_right (by omega), k3, Nat.sub_self]; rfl)
        refine Ev_f (by omega) (Ev_t (by omega) (Ev_st ?_))
        rw [kw]
        /- sift -/
        have sift : ∀ (B E : List Nat) (K1 : JI), A = B ++ E → FrSo J K1 → AsH (K1 78) B (E ++ C) → (md = 0 → ∀ x ∈ E, w < x) → Ev (fun n => kf_149 n dp e 2 K1 L md k w (B.length : Int)) (fun r => r.2 = L ∧ FrSo J r.1 ∧ ∃ T' : List Nat, T'.Perm T ∧ AsT (r.1 78) T' ∧ (md = 0 → T'.Pairwise (· < ·))) := by
          have key : ∀ (m : Nat) (B E : List Nat) (K1 : JI), B.length = m → A = B ++ E → FrSo J K1 → AsH (K1 78) B (E ++ C) → (md = 0 → ∀ x ∈ E, w < x) → Ev (fun n => kf_149 n dp e 2 K1 L md k w (B.length : Int)) (fun r => r.2 = L ∧ FrSo J r.1 ∧ ∃ T' : List Nat, T'.Perm T ∧ AsT (r.1 78) T' ∧ (md = 0 → T'.Pairwise (· < ·))) := by
            intro m
            induction m with
            | zero =>
              intro B E K1 hm hA z1 z2 z3
              have hB : B = [] := List.length_eq_zero_iff.1 hm
              refine ev_149_2 ?_
              refine Ev_t (by omega) ?_
              refine ev_149_3 ?_
              refine Ev_t (by omega) (Ev_st (Ev_t (by omega) ?_))
              rw [show (k : Int) + 1 = ((k + 1 : Nat) : Int) by omega]
              refine ih _ (w :: E) C (fun a i x => by rw [w2_o x]; exact z1 a i x) (Or.inl (by omega)) ?_ ?_ ?_ (fun z => ?_)
              · have := congrArg List.length hA
                rw [List.length_append] at this
                rw [List.length_cons]; omega
              · subst hB
                have q := AsH_f (w := w) z2
                rw [List.nil_append] at q
                refine AsT_c (fun j hj => ?_) q
                show w2 K1 78 _ _ 78 j = _
                rw [w2_ap]
                simp only [true_and]
              · refine List.Perm.trans ?_ k5
                rw [hA, hB, List.nil_append, List.cons_append]
                exact List.perm_middle.symm
              · rw [List.pairwise_cons]
                refine ⟨z3 z, ?_⟩
                have := k6 z
                rw [hA, List.pairwise_append] at this
                exact this.2.1
            | succ m ihm =>
              intro B E K1 hm hA z1 z2 z3
              obtain ⟨B', x, rfl⟩ : ∃ B' x, B = B' ++ [x] := by
                refine ⟨B.dropLast, B.getLast (fun z => by rw [z] at hm; simp at hm), ?_⟩
                exact (List.dropLast_concat_getLast _).symm
              have lB : (B' ++ [x]).length = B'.length + 1 := by rw [List.length_append]; rfl
              have hA2 : A = B' ++ (x :: E) := by rw [hA, List.append_assoc]; rfl
              have lA : B'.length + 1 + E.length = k := by
                have := congrArg List.length hA2
                rw [List.length_append, List.length_cons] at this
                omega
              have hx : x < 16 := hb x ((k5.mem_iff).1 (List.mem_append_left _ (by rw [hA2]; exact List.mem_append_right _ List.mem_cons_self)))
              have kx : K1 78 (B'.length : Int) = x := z2.1 B'.length x (by rw [List.getElem?_append_right (Nat.le_refl _), Nat.sub_self]; rfl)
              rw [lB]
              refine ev_149_2 ?_
              refine Ev_f (by omega) (Ev_t (by omega) (Ev_t (by omega) (Ev_t hd ?_)))
              rw [show ((B'.length + 1 : Nat) : Int) - 1 = (B'.length : Int) by omega, kx]
              refine K150 (by omega) (by omega) (fun c => ?_) (fun c => ?_)
              · refine Ev_f (by decide) (Ev_t (by omega) (Ev_t (by omega) ?_))
                rw [kx]
                refine Ev_st (Ev_t (by omega) ?_)
                rw [show ((B'.length + 1 : Nat) : Int) + -1 = (B'.length : Int) by omega]
                refine ihm B' (x :: E) _ (by omega) hA2 (fun a i y => by rw [w2_o y]; exact z1 a i y) ⟨fun j v ev => ?_, fun j v ev => ?_⟩ (fun z y hy => ?_)
                · obtain ⟨hj, _⟩ := List.getElem?_eq_some_iff.mp ev
                  rw [w2_n (by omega)]
                  exact z2.1 j v (by rw [List.getElem?_append_left hj]; exact ev)
                · cases j with
                  | zero =>
                    rw [List.cons_append] at ev
                    simp at ev
                    subst ev
                    rw [w2_ap, if_pos ⟨rfl, by omega⟩]
                  | succ j =>
                    rw [List.cons_append, List.getElem?_cons_succ] at ev
                    have := z2.2 j v ev
                    rw [lB] at this
                    rw [w2_n (by omega), show B'.length + 1 + (j + 1) = B'.length + 1 + 1 + j by omega]
                    exact this
                · rw [List.mem_cons] at hy
                  rcases hy with rfl | hy
                  · unfold ahd at c
                    rw [if_pos z] at c
                    omega
                  · exact z3 z y hy
              · refine Ev_t rfl ?_
                refine ev_149_3 ?_
                refine Ev_t (by omega) (Ev_st (Ev_t (by omega) ?_))
                rw [show (k : Int) + 1 = ((k + 1 : Nat) : Int) by omega]
                refine ih _ ((B' ++ [x]) ++ w :: E) C (fun a i y => by rw [w2_o y]; exact z1 a i y) (Or.inl (by omega)) ?_ ?_ ?_ (fun z => ?_)
                · rw [List.length_append, List.length_cons, lB]; omega
                · have q := AsH_f (w := w) z2
                  rw [List.append_assoc, List.cons_append]
                  refine AsT_c (fun j hj => ?_) q
                  show w2 K1 78 _ _ 78 j = _
                  rw [w2_ap, lB]
                  simp only [true_and]
                · refine List.Perm.trans ?_ k5
                  rw [hA, List.append_assoc (B' ++ [x]) (w :: E) C, List.append_assoc (B' ++ [x]) E (w :: C)]
                  refine List.Perm.append_left _ ?_
                  rw [List.cons_append]
                  exact List.perm_middle.symm
                · have pw := k6 z
                  rw [hA, List.pairwise_append] at pw
                  rw [List.pairwise_append, List.pairwise_cons]
                  have xw : x < w := by
                    unfold ahd at c
                    rw [if_pos z] at c
                    have ne : x ≠ w := fun q => by
                      subst q
                      have nd := (k5.nodup_iff).2 hn
                      rw [hA2] at nd
                      rw [List.nodup_append] at nd
                      exact nd.2.2 x (List.mem_append_right _ List.mem_cons_self) x List.mem_cons_self rfl
                    omega
                  have bx : ∀ y ∈ B' ++ [x], y ≤ x := fun y hy => by
                    have p1 := pw.1
                    rw [List.pairwise_append] at p1
                    rw [List.mem_append] at hy
                    rcases hy with hy | hy
                    · have := p1.2.2 y hy x List.mem_cons_self
                      omega
                    · rw [List.mem_singleton] at hy
                      omega
                  refine ⟨pw.1, ⟨z3 z, pw.2.1⟩, fun y hy v hv => ?_⟩
                  have := bx y hy
                  rw [List.mem_cons] at hv
                  rcases hv with rfl | hv
                  · omega
                  · have := z3 z v hv
                    omega
          intro B E K1 hA z1 z2 z3
          exact key B.length B E K1 rfl hA z1 z2 z3
        have hAs : AsH (K 78) A ([] ++ C) := by
          refine ⟨fun j v ev => ?_, fun j v ev => ?_⟩
          · obtain ⟨hj, _⟩ := List.getElem?_eq_some_iff.mp ev
            exact k4 j v (by rw [List.getElem?_append_left hj]; exact ev)
          · rw [List.nil_append] at ev
            refine k4 (A.length + 1 + j) v ?_
            rw [List.getElem?_append_right (by omega), show A.length + 1 + j - A.length = j + 1 by omega, List.getElem?_cons_succ]
            exact ev
        have sf := sift A [] K (by rw [List.append_nil]) k1 hAs (fun _ x hx => absurd hx List.not_mem_nil)
        rw [k3] at sf
        exact sf
    · have hk : k = T.length := by omega
      have lp := k5.length_eq
      rw [List.length_append] at lp
      have hD : D = [] := List.length_eq_zero_iff.1 (by omega)
      subst hD
      rw [List.append_nil] at k4 k5
      exact Ev_t (by omega) (Ev_ret ⟨rfl, k1, A, k5, k4, k6⟩)
  refine ev_149_0 ?_
  cases T with
  | nil =>
    refine ev_149_1 ?_
    rw [h10]
    exact Ev_t (by simp) (Ev_ret ⟨rfl, fun _ _ _ => rfl, [], List.Perm.refl _, hT, fun _ => List.Pairwise.nil⟩)
  | cons w C =>
    exact outer 1 (by rw [List.length_cons]; omega) J [w] C (fun _ _ _ => rfl) (Or.inl (Nat.le_refl _)) rfl hT (List.Perm.refl _) (fun _ => by simp)
/-- what is kept of a row of men -/
def KpT (A : Int → Int) (T p : List Nat) : Prop := ∀ j w m : Nat, T[j]? = some w → p[j]? = some m → A w = m
theorem K152 {J : JI} {T p : List Nat} {v : Int} (h10 : J 73 10 = (T.length : Int)) (hl : T.length ≤ 16) (hT : AsT (J 78) T) (hb : ∀ w ∈ T, w < 16) (hn : T.Nodup) (hp : AsT (J 79) p) (hpl : p.length = T.length) : Ev (fun n => kf_152 n dp e 0 J L v 0) (fun r => r.2 = L ∧ (∀ a i, ¬ (a = 73 ∧ i = 13) → ¬ a = 76 → r.1 a i = J a i) ∧ r.1 73 13 = v ∧ KpT (r.1 76) T p ∧ ∀ i, (∀ w ∈ T, ¬ i = (w : Int)) → r.1 76 i = J 76 i) := by
  have key : ∀ k : Nat, k ≤ T.length → ∀ K : JI, (∀ a i, ¬ (a = 73 ∧ i = 13) → ¬ a = 76 → K a i = J a i) → K 73 13 = v → (∀ j w m : Nat, j < k → T[j]? = some w → p[j]? = some m → K 76 w = m) → (∀ i, (∀ w ∈ T, ¬ i = (w : Int)) → K 76 i = J 76 i) → Ev (fun n => kf_152 n dp e 1 K L v k) (fun r => r.2 = L ∧ (∀ a i, ¬ (a = 73 ∧ i = 13) → ¬ a = 76 → r.1 a i = J a i) ∧ r.1 73 13 = v ∧ KpT (r.1 76) T p ∧ ∀ i, (∀ w ∈ T, ¬ i = (w : Int)) → r.1 76 i = J 76 i) := by
    refine dec_ind T.length (fun k hk ih => ?_)
    intro K k1 k2 k3 k4
    refine ev_152_1 ?_
    rw [k1 73 10 (by omega) (by omega), h10]
    by_cases ck : k < T.length
    · have ih := ih ck
      have e1 : K 78 k = ((T[k] : Nat) : Int) := by rw [k1 _ _ (by omega) (by omega)]; exact AsT_i hT ck
      have e2 : K 79 k = ((p[k]'(by omega) : Nat) : Int) := by rw [k1 _ _ (by omega) (by omega)]; exact AsT_i hp (by omega)
      have hw := hb T[k] (List.getElem_mem ck)
      refine Ev_f (by omega) (Ev_t (by omega) (Ev_t (by omega) ?_))
      rw [e1, e2]
      refine Ev_t (by omega) (Ev_st (Ev_t (by omega) ?_))
      rw [show (k : Int) + 1 = ((k + 1 : Nat) : Int) by omega]
      refine ih _ (fun a i x y => by rw [w2_o y]; exact k1 a i x y) (by rw [w2_o (by omega)]; exact k2) (fun j w m hj ew em => ?_) (fun i hi => ?_)
      · by_cases q : j = k
        · subst q
          rw [List.getElem?_eq_getElem ck] at ew
          rw [List.getElem?_eq_getElem (show j < p.length by omega)] at em
          simp at ew em
          subst ew; subst em
          rw [w2_ap, if_pos ⟨rfl, rfl⟩]
        · have ne : ¬ (w : Int) = ((T[k] : Nat) : Int) := fun z => by
            have z : w = T[k] := by omega
            obtain ⟨hj', ej⟩ := List.getElem?_eq_some_iff.mp ew
            exact q ((List.getElem_inj hn).1 (ej.trans z))
          rw [w2_n (fun z => ne z.2)]
          exact k3 j w m (by omega) ew em
      · rw [w2_n (fun z => hi _ (List.getElem_mem ck) z.2)]
        exact k4 i hi
    · have : k = T.length := by omega
      subst this
      refine Ev_t (by omega) (Ev_ret ⟨rfl, k1, k2, fun j w m ew em => ?_, k4⟩)
      obtain ⟨hj, _⟩ := List.getElem?_eq_some_iff.mp ew
      exact k3 j w m hj ew em
  refine ev_152_0 ?_
  exact Ev_st (key 0 (by omega) _ (fun a i x y => by rw [w2_n x]) (by rw [w2_ap, if_pos ⟨rfl, rfl⟩]) (fun j w m hj => absurd hj (Nat.not_lt_zero _)) (fun i hi => by rw [w2_n (by omega)]))
/-- can the man do it -/
def cnR (ms sk : Nat → Int) (m w : Nat) : Prop := bA (bR (ms m) (sk w)) 1 = 1
theorem K153 {J : JI} {ms sk : Nat → Int} {m w : Nat} {k : Nat → Int × JI × JI → Option (JI × JI)} {T : JI × JI → Prop} (hm : m < 4) (hw : w < 16) (h5 : J 5 m = ms m) (h75 : J 75 w = sk w) (g1 : cnR ms sk m w → Ev (fun n => k n (1, J, L)) T) (g0 : ¬ cnR ms sk m w → Ev (fun n => k n (0, J, L)) T) : Ev (fun n => (kf_153 n dp e 0 J L m w).bind (k n)) T := by
  unfold cnR at g1 g0
  by_cases c : bA (bR (ms m) (sk w)) 1 = 1
  · refine Ev_call (v := (1, J, L)) ?_ (g1 c)
    refine ev_153_0 ?_
    rw [h5, h75]
    exact Ev_t (by omega) (Ev_t (by omega) (Ev_t c (Ev_ret rfl)))
  · refine Ev_call (v := (0, J, L)) ?_ (g0 c)
    refine ev_153_0 ?_
    rw [h5, h75]
    exact Ev_t (by omega) (Ev_t (by omega) (Ev_f c (Ev_ret rfl)))
theorem K154 {J : JI} {m : Nat} {k : Nat → Int × JI × JI → Option (JI × JI)} {T : JI × JI → Prop} (hm : m < 4) (g1 : (∃ o : Nat, o < m ∧ J 5 o = J 5 m ∧ J 80 o = J 80 m) → Ev (fun n => k n (1, J, L)) T) (g0 : (¬ ∃ o : Nat, o < m ∧ J 5 o = J 5 m ∧ J 80 o = J 80 m) → Ev (fun n => k n (0, J, L)) T) : Ev (fun n => (kf_154 n dp e 0 J L m 0).bind (k n)) T := by
  have key : ∀ o : Nat, o ≤ m → (∀ p : Nat, p < o → ¬ (J 5 p = J 5 m ∧ J 80 p = J 80 m)) → Ev (fun n => kf_154 n dp e 1 J L m o) (fun r => (r = (1, J, L) ∧ ∃ o : Nat, o < m ∧ J 5 o = J 5 m ∧ J 80 o = J 80 m) ∨ (r = (0, J, L) ∧ ¬ ∃ o : Nat, o < m ∧ J 5 o = J 5 m ∧ J 80 o = J 80 m)) := by
    refine dec_ind m (fun o ho ih => ?_)
    intro hp
    refine ev_154_1 ?_
    by_cases co : o < m
    · have ih := ih co
      refine Ev_f (by omega) (Ev_t (by omega) (Ev_t (by omega) ?_))
      have nx : ¬ (J 5 o = J 5 m ∧ J 80 o = J 80 m) → Ev (fun n => kf_154 n dp e 2 J L m o) (fun r => (r = (1, J, L) ∧ ∃ o : Nat, o < m ∧ J 5 o = J 5 m ∧ J 80 o = J 80 m) ∨ (r = (0, J, L) ∧ ¬ ∃ o : Nat, o < m ∧ J 5 o = J 5 m ∧ J 80 o = J 80 m)) := fun z => by
        refine ev_154_2 ?_
        refine Ev_t (by omega) ?_
        rw [show (o : Int) + 1 = ((o + 1 : Nat) : Int) by omega]
        refine ih (fun p hp' => ?_)
        by_cases q : p = o
        · subst q; exact z
        · exact hp p (by omega)
      by_cases c1 : J 5 o = J 5 m
      · refine Ev_t c1 (Ev_t (by omega) (Ev_t (by omega) ?_))
        by_cases c2 : J 80 o = J 80 m
        · exact Ev_t c2 (Ev_ret (Or.inl ⟨rfl, o, co, c1, c2⟩))
        · exact Ev_f c2 (nx (fun z => c2 z.2))
      · exact Ev_f c1 (nx (fun z => c1 z.1))
    · have : o = m := by omega
      subst this
      refine Ev_t (by omega) (Ev_ret (Or.inr ⟨rfl, ?_⟩))
      rintro ⟨p, hp', z⟩
      exact hp p hp' z
  refine Ev_bind (P := fun r => (r = (1, J, L) ∧ ∃ o : Nat, o < m ∧ J 5 o = J 5 m ∧ J 80 o = J 80 m) ∨ (r = (0, J, L) ∧ ¬ ∃ o : Nat, o < m ∧ J 5 o = J 5 m ∧ J 80 o = J 80 m)) ?_ ?_
  · refine ev_154_0 ?_
    exact key 0 (by omega) (fun p hp => absurd hp (Nat.not_lt_zero _))
  · rintro r (⟨rfl, z⟩ | ⟨rfl, z⟩)
    · exact g1 z
    · exact g0 z
end SH1
