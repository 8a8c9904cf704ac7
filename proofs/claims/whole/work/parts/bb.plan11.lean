/-! PLANS: what the reference reckons, in the words of lists -/
theorem dg0 {od : Nat → Int} {wn : Int → Int} {m : Nat} {K : JI} (hO : OrM K m od wn) : StO m od wn 0 (fun _ => 0) := by
  intro j hj
  have z := hO.2.2.1 j hj
  have y := hO.2.2.2.1 (od j) z.2.1 z.2.2
  have l0 : ∀ k, lfS (fun k => wn (od k) + 1) 0 k = 0 := fun k => by
    induction k with
    | zero => rfl
    | succ k ih => rw [lfS, ih]; exact Int.zero_ediv _
  unfold dgS
  rw [l0, Int.zero_emod]
  dsimp only
  omega
section FP
variable {e : EN}
theorem R263 {dp N : Nat} {J M : JI} {wn : Int → Int} {cl : Nat → Int} {dl : Nat → Nat → Int} (hd : 4 ≤ dp) (hP : PlH J N) (hL : ∀ c, 0 ≤ c → c < 3 → LsM c J (cuS (J 107) c)) (hw : ∀ p : Int, 0 ≤ p → p < 10 → J 127 p = wn p ∧ 0 ≤ wn p ∧ wn p ≤ 8) (h5 : sm (fun p => if 0 < wn p then 1 else 0) 10 ≤ 5) (hc : ∀ i : Nat, i < N → J 126 i = cl i) (hdl : ∀ i k : Nat, i < N → dl i k = if 1 < J 105 48 ∧ ¬ (k : Int) = J 132 i then 1 else 0) : Ev (fun n => kf_263 n dp e 0 J M 0 0 0) (fun r => r.2.2 = M ∧ (∀ a i, ¬ (a = 105 ∧ (i = 43 ∨ i = 44)) → ¬ (128 ≤ a ∧ a ≤ 131) → ¬ a = 133 → r.2.1 a i = J a i) ∧ MxH (Sq (ofLs (cuS (J 107)) (fun p => J 107 (50 + p)) (J 105 48) dl cl 0 N)) (vT wn (bnR (J 107)) (J 105 48) (fun _ => 0)) (fun _ => True) r.1 (r.2.1 130 0) ∧ -1000000000 ≤ r.1 ∧ r.1 ≤ 1000000000) := by
  refine Ev_mono (K263 hd hP hw h5) ?_
  rintro ⟨w, J3, M3⟩ ⟨s1, s2, K0, m, od, s3, hO, hs, hP0, hR⟩
  dsimp only at s1 s2 s3 hO hs hP0 hR ⊢
  obtain ⟨t1, t2, t3, t4⟩ := hR
  have pp := OrM_p hO
  have N8 := hP.1
  have p0 : (0 : Int) < prL (fun k => wn (od k) + 1) m := Int.lt_of_lt_of_le (by decide) pp.1
  have e70 : K0 107 = J 107 := funext fun i => s3 _ _ (by omega) (by omega)
  have e48 : K0 105 48 = J 105 48 := s3 _ _ (by omega) (by omega)
  have L0 : ∀ c, 0 ≤ c → c < 3 → LsM c K0 (cuS (K0 107) c) := fun c x y => by
    have l := hL c x y
    have e12 : ∀ a i, 120 ≤ a → a ≤ 122 → K0 a i = J a i := fun a i x y => s3 a i (by omega) (by omega)
    unfold LsM at *
    rw [e70, e12 _ _ (by omega) (by omega)]
    exact LsO_c (fun i _ _ => ⟨e12 _ _ (by omega) (by omega), e12 _ _ (by omega) (by omega)⟩) l
  have ebn : bnM K0 = bnR (J 107) := by funext p; unfold bnM bnR; rw [e70]
  have hos := osL_G (cl := cl) (dl := dl) hP0 L0 (fun i hi => by rw [s3 _ _ (by omega) (by omega)]; exact hc i hi) (fun i k hi => by rw [hdl i k hi, e48, s3 132 _ (by omega) (by omega)]) N 0 (by omega)
  rw [e70, e48] at hos
  have R0 := t4 0 (by omega) 0 (by omega) p0 t2
  have RT := RkA_T (s := 0) (T := fun _ => 0) hO hP0 hs (show 0 ≤ N by omega) (dg0 hO) R0
  unfold RkO at R0
  rw [show (59049 : Int) * ((0 : Nat) : Int) + 0 = 0 by omega, ← s2] at R0 RT
  rw [e48, ebn, show N - 0 = N by omega, Sq_e hos] at RT
  refine ⟨s1, fun a i x y z => (t1 a i (by omega) z).trans (s3 a i x (by omega)), RT, ?_, ?_⟩
  · have := R0.2.2.1; omega
  · have := R0.2.2.2; omega
end FP
