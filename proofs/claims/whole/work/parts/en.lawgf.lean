/-! THE START: what the Statement gives of the tables and of the cells outside -/
def stm (i : Nat) : Term := Term.string RX8 (sIdx.getD i (0, "")).1
def gvn : List Cond := flatC (Jvm.Cond.and given_1 narrow_1)
set_option maxRecDepth 100000 in
theorem st_ex : (List.range 13).all (fun i => decide (Cond.exactly (stm i) "java/lang/String" ∈ gvn)) = true := by decide +kernel
set_option maxRecDepth 100000 in
theorem st_co : (List.range 13).all (fun i => decide (Cond.eq (.field (stm i) "java/lang/String" "coder" "B") (.int 0) ∈ gvn)) = true := by decide +kernel
set_option maxRecDepth 100000 in
theorem st_ar : (List.range 13).all (fun i => decide (Cond.arrayOf (.field (stm i) "java/lang/String" "value" "[B") .byte ∈ gvn)) = true := by decide +kernel
set_option maxRecDepth 100000 in
theorem st_le : (List.range 13).all (fun i => decide (Cond.eq (.length (.field (stm i) "java/lang/String" "value" "[B")) (.int (Int32.ofNat (sLen.getD i 0))) ∈ gvn)) = true := by decide +kernel
set_option maxRecDepth 100000 in
theorem st_el : (List.range 13).all (fun i => (List.range (sLen.getD i 0)).all (fun j => decide (Cond.eq (.elem (.field (stm i) "java/lang/String" "value" "[B") (.int (Int32.ofNat j))) (.int ((sbyt.getD i []).getD j 0)) ∈ gvn))) = true := by decide +kernel
def nePr (i : Nat) : Bool := (List.range 13).all (fun j => decide (j ≤ i) || decide (Cond.not (Cond.eq (stm i) (stm j)) ∈ gvn))
set_option maxRecDepth 100000 in
theorem st_ne0 : nePr 0 = true := by decide +kernel
set_option maxRecDepth 100000 in
theorem st_ne1 : nePr 1 = true := by decide +kernel
set_option maxRecDepth 100000 in
theorem st_ne2 : nePr 2 = true := by decide +kernel
set_option maxRecDepth 100000 in
theorem st_ne3 : nePr 3 = true := by decide +kernel
set_option maxRecDepth 100000 in
theorem st_ne4 : nePr 4 = true := by decide +kernel
set_option maxRecDepth 100000 in
theorem st_ne5 : nePr 5 = true := by decide +kernel
set_option maxRecDepth 100000 in
theorem st_ne6 : nePr 6 = true := by decide +kernel
set_option maxRecDepth 100000 in
theorem st_ne7 : nePr 7 = true := by decide +kernel
set_option maxRecDepth 100000 in
theorem st_ne8 : nePr 8 = true := by decide +kernel
set_option maxRecDepth 100000 in
theorem st_ne9 : nePr 9 = true := by decide +kernel
set_option maxRecDepth 100000 in
theorem st_ne10 : nePr 10 = true := by decide +kernel
set_option maxRecDepth 100000 in
theorem st_ne11 : nePr 11 = true := by decide +kernel
set_option maxRecDepth 100000 in
theorem st_ne12 : nePr 12 = true := by decide +kernel
theorem st_ne : ∀ i : Nat, i < 13 → nePr i = true := fun i hi => by
  match i, hi with
  | 0, _ => exact st_ne0
  | 1, _ => exact st_ne1
  | 2, _ => exact st_ne2
  | 3, _ => exact st_ne3
  | 4, _ => exact st_ne4
  | 5, _ => exact st_ne5
  | 6, _ => exact st_ne6
  | 7, _ => exact st_ne7
  | 8, _ => exact st_ne8
  | 9, _ => exact st_ne9
  | 10, _ => exact st_ne10
  | 11, _ => exact st_ne11
  | 12, _ => exact st_ne12
  | i + 13, h => omega
set_option maxRecDepth 100000 in
theorem st_rf : (List.range 13).all (fun i => decide (Cond.stringRef RX8 (sIdx.getD i (0, "")).1 (sIdx.getD i (0, "")).2 ∈ lw_tbl)) = true := by decide +kernel
theorem st_ln : ∀ i, i < 13 → sLen.getD i 0 < 2 ^ 31 := by decide
set_option maxRecDepth 100000 in
theorem st_c1 : Cond.eq (.static "java/lang/String" "COMPACT_STRINGS" "Z") (.int 1) ∈ gvn := by decide +kernel
set_option maxRecDepth 100000 in
theorem st_c2 : Cond.laysStatic "java/lang/String" "COMPACT_STRINGS" "Z" ∈ lw_tbl := by decide +kernel
set_option maxRecDepth 100000 in
theorem st_c3 : Cond.initialized "java/lang/String" ∈ lw_tbl := by decide +kernel
set_option maxRecDepth 100000 in
theorem st_f1 : Cond.isRef (.static "jdk/internal/util/Preconditions" "SIOOBE_FORMATTER" "Ljava/util/function/BiFunction;") ∈ gvn := by decide +kernel
set_option maxRecDepth 100000 in
theorem st_f2 : Cond.laysStatic "jdk/internal/util/Preconditions" "SIOOBE_FORMATTER" "Ljava/util/function/BiFunction;" ∈ lw_tbl := by decide +kernel
set_option maxRecDepth 100000 in
theorem st_f3 : Cond.initialized "jdk/internal/util/Preconditions" ∈ lw_tbl := by decide +kernel
set_option maxRecDepth 100000 in
theorem st_o2 : Cond.arrayOver (.object RX2) ∈ lw_tbl := by decide +kernel
set_option maxRecDepth 100000 in
theorem st_o3 : Cond.arrayOver (.object RX3) ∈ lw_tbl := by decide +kernel
theorem cls_len : cls.length = 13 := rfl
theorem alR {p : Nat → Bool} {n : Nat} (h : (List.range n).all p = true) {i : Nat} (hi : i < n) : p i = true := List.all_eq_true.mp h i (List.mem_range.mpr hi)
section GFS
variable {s : State} {A : Array Value}
theorem u_knA (hts : ∀ w ∈ lw_tbl, w.before A s = true) (c : Nat) : ∃ q : ClassId × (Nat → Nat), ∀ r : vw_C, cls[c]? = some r → u_Kn s r.1 r.2.1 r.2.2 q.1 q.2 := by
  by_cases h : c < 13
  · obtain ⟨c1, c2, c3, c4, c5, c6, c7, c8, c9, c10⟩ := cokA c h
    obtain ⟨cC, iS, hk⟩ := u_known (C := (clN c).1) (T := (clN c).2.1) (N := (clN c).2.2) (n := (clN c).2.2) hts (fun w hw => (List.mem_filter.mp (c2 w hw)).1) (hts _ (List.mem_filter.mp c8).1)
    exact ⟨(cC, iS), fun r hr => by rw [c1] at hr; cases hr; exact hk⟩
  · exact ⟨(0, fun _ => 0), fun r hr => by
      have h1 := (List.getElem?_eq_some_iff.mp hr).1
      have h2 := cls_len
      omega⟩
theorem ar_in {w : Cond} (h : w ∈ gtb) (hts : ∀ w ∈ lw_tbl, w.before A s = true) : w.before A s = true := hts _ (List.mem_filter.mp h).1
theorem ar_i (h : (Cond.arrayClass .int).before A s = true) : ∃ cA, ArrOfT s cA .int ∧ va_RA s cA .int := by
  obtain ⟨c, k, comp, h1, h2, h3⟩ := Cond.arrayClass_spec (args := A) (first := s) (o := none) (s := s) (idx := []) h
  exact ⟨c, fun n z => ⟨fun k h => (by cases h), k, h2, comp, h3⟩, h1⟩
theorem ar_l (h : (Cond.arrayClass .long).before A s = true) : ∃ cA, ArrOfT s cA .long ∧ va_RA s cA .long := by
  obtain ⟨c, k, comp, h1, h2, h3⟩ := Cond.arrayClass_spec (args := A) (first := s) (o := none) (s := s) (idx := []) h
  exact ⟨c, fun n z => ⟨fun k h => (by cases h), k, h2, comp, h3⟩, h1⟩
theorem ar_b (h : (Cond.arrayClass .boolean).before A s = true) : ∃ cA, ArrOfT s cA .boolean ∧ va_RA s cA .boolean := by
  obtain ⟨c, k, comp, h1, h2, h3⟩ := Cond.arrayClass_spec (args := A) (first := s) (o := none) (s := s) (idx := []) h
  exact ⟨c, fun n z => ⟨fun k h => (by cases h), k, h2, comp, h3⟩, h1⟩
theorem ar_o {C : String} (h : (Cond.arrayOver (.object C)).before A s = true) : ∃ cA, ArrOfT s cA (.object C) ∧ va_RA s cA (.object C) := by
  obtain ⟨comp, c, k, h1, h2, h3, h4, h5⟩ := Cond.arrayOver_spec (args := A) (first := s) (o := none) (s := s) (idx := []) h
  exact ⟨c, fun N z => ⟨fun k h => (by cases h), k, h3, comp, h4⟩, k, comp, h3, h4, h1, h5⟩
theorem gf_str (hgv : (Jvm.Cond.and given_1 narrow_1).before A s = true) (P : Nat → Prop) (hA : ∀ a : Nat, a < s.heap.size → ¬ P a) : ∃ adK adV : Nat → Nat, vk_S 13 sLen sbyt adK adV P s s.heap ∧ ∀ i : Nat, i < 13 → (stm i).eval A s none [] s = some (.ref (adK i)) := by
  have hs : ∀ w ∈ gvn, w.before A s = true := flat_of_before _ hgv
  refine vk_Sof st_ln (fun i hi => hs _ (of_decide_eq_true (alR st_ex hi))) (fun i hi => hs _ (of_decide_eq_true (alR st_co hi))) (fun i hi => hs _ (of_decide_eq_true (alR st_ar hi))) (fun i hi => hs _ (of_decide_eq_true (alR st_le hi))) (fun i hi j hj => hs _ (of_decide_eq_true (alR (alR st_el hi) hj))) (fun i j hi hj hij => ?_) hA
  rcases Nat.lt_or_ge i j with q | q
  · have h := alR (st_ne i hi) hj
    simp only [Bool.or_eq_true, decide_eq_true_eq] at h
    rcases h with h | h
    · omega
    · exact Or.inl (hs _ h)
  · have h := alR (st_ne j hj) hi
    simp only [Bool.or_eq_true, decide_eq_true_eq] at h
    rcases h with h | h
    · omega
    · exact Or.inr (hs _ h)
theorem gf_fmt (hts : ∀ w ∈ lw_tbl, w.before A s = true) (hgv : (Jvm.Cond.and given_1 narrow_1).before A s = true) (P : Nat → Prop) (hA : ∀ a : Nat, a < s.heap.size → ¬ P a) : ∃ (fb : Bool) (tt : Nat), va_Z "jdk/internal/util/Preconditions" "SIOOBE_FORMATTER" "Ljava/util/function/BiFunction;" (if fb then .null else .ref tt) P s s.heap := by
  have hs : ∀ w ∈ gvn, w.before A s = true := flat_of_before _ hgv
  rcases va_Zqof (hts _ st_f2) (hts _ st_f3) (hs _ st_f1) hA with h | ⟨t, h⟩
  · exact ⟨true, 0, h⟩
  · exact ⟨false, t, h⟩
/-- what stands in the cells outside and in the tables, at the law's entry -/
theorem gf_start (l : Launch) {b L : Nat} {xs : Nat → Int32} (hts : ∀ w ∈ lw_tbl, w.before A s = true) (hX : va_X b L xs s s.heap) (hb : b < s.heap.size) (hgv : (Jvm.Cond.and given_1 narrow_1).before A s = true) : ∃ X : GX, GF X s ∧ gb X = s.heap.size ∧ gs X 100 = b ∧ gN X = L ∧ gx X = xs ∧ gl X = l := by
  have hA : ∀ a : Nat, a < s.heap.size → ¬ (fun q : Nat => s.heap.size ≤ q) a := fun a h => Nat.not_le.mpr h
  have hs : ∀ w ∈ gvn, w.before A s = true := flat_of_before _ hgv
  obtain ⟨dd, hdd⟩ := Classical.axiomOfChoice (u_knA hts)
  obtain ⟨cI, i1, i2⟩ := ar_i (ar_in wd_aint hts)
  obtain ⟨cL, l1, l2⟩ := ar_l (ar_in wd_along hts)
  obtain ⟨cB, b1, b2⟩ := ar_b (ar_in wd_aboolean hts)
  obtain ⟨c2, o1, o2⟩ := ar_o (hts _ st_o2)
  obtain ⟨c3, p1, p2⟩ := ar_o (hts _ st_o3)
  obtain ⟨adK, adV, hS, hE⟩ := gf_str hgv _ hA
  obtain ⟨fb, tt, hF⟩ := gf_fmt hts hgv _ hA
  obtain ⟨sf, hsf⟩ : ∃ sf : Nat → Nat, (∀ i, i < 13 → sf i = adK i) ∧ (∀ i, i < 13 → sf (20 + i) = adV i) ∧ sf 100 = b ∧ sf 101 = tt := by
    refine ⟨fun j => if j < 13 then adK j else if j < 40 then adV (j - 20) else if j = 100 then b else tt, fun i hi => if_pos hi, fun i hi => ?_, rfl, rfl⟩
    show (if 20 + i < 13 then _ else if 20 + i < 40 then adV (20 + i - 20) else _) = adV i
    rw [if_neg (by omega), if_pos (by omega), show 20 + i - 20 = i by omega]
  obtain ⟨s1, s2, s3, s4⟩ := hsf
  refine ⟨((fun c => (dd c).1, fun c => (dd c).2), s.heap.size, sf, fun j => if j = 13 then cI else if j = 14 then cL else if j = 15 then cB else if j = 16 then c2 else c3, (L, xs), fb, l), ⟨⟨fun c q h => hdd c q h, fun k q hk => ?_⟩, fun w hw hn => ?_, va_AO.of (hts _ st_o2), va_AO.of (hts _ st_o3), ⟨fun i hi => ?_, fun i j hi hj e => ?_⟩, fun j idx tx hj => ?_, va_Zof (hts _ st_c2) (hts _ st_c3) (va_eqt (hs _ st_c1)) hA, ?_, ?_, ?_, Nat.le_refl _⟩, rfl, s3, rfl, rfl, rfl⟩
  · match k, hk with
    | 0, hk => cases hk; exact ⟨i1, i2⟩
    | 1, hk => cases hk; exact ⟨l1, l2⟩
    | 2, hk => cases hk; exact ⟨b1, b2⟩
    | 3, hk => cases hk; exact ⟨o1, o2⟩
    | 4, hk => cases hk; exact ⟨p1, p2⟩
    | k + 5, hk => cases hk
  · refine va_Nw.of ?_ (hts w hw)
    cases w <;> first | rfl | cases hn
  · have h := hS.1 i hi
    rw [← s1 i hi, ← s2 i hi] at h
    exact h
  · refine hS.2 i j hi hj ?_
    rw [← s1 i hi, ← s1 j hj]
    exact e
  · have hl : j < 13 := by
      have h1 := (List.getElem?_eq_some_iff.mp hj).1
      exact h1
    have hd : sIdx.getD j (0, "") = (idx, tx) := by
      show (sIdx[j]?).getD (0, "") = (idx, tx)
      rw [hj]
      rfl
    have h1 := of_decide_eq_true (alR st_rf hl)
    have h2 := hE j hl
    unfold stm at h2
    rw [hd] at h1 h2
    have h3 : vk_R RX8 idx tx (adK j) s := vk_R.of (hts _ h1) h2
    rw [← s1 j hl] at h3
    exact h3
  · rw [← s4] at hF
    exact hF
  · rw [← s3] at hX
    exact hX
  · show sf 100 < s.heap.size
    rw [s3]
    exact hb
end GFS
