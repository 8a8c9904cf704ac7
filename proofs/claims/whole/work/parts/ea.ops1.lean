/-! THE INVARIANT: calls that only answer, and the plain ones -/
theorem Ev_2i {f : Nat → Option (Int × JI × JI)} {g : (Int × JI × JI) → Nat → Option (Int × JI × JI)} {B : JI → Prop} {A : JI → JI → Prop} (h : Ev f (fun r => Ev (g r) (fun q => ∃ a, r.1 = a ∧ q.1 = a ∧ B q.2.1))) (k : Ev f (fun r => Ev (g r) (fun q => ∃ a, r.1 = a ∧ q.1 = a ∧ (B q.2.1 → A q.2.1 q.2.2)))) : Ev f (fun r => Ev (g r) (fun q => ∃ a, r.1 = a ∧ q.1 = a ∧ A q.2.1 q.2.2)) :=
  Ev_mono (Ev_and h k) (fun r x => Ev_mono (Ev_and x.1 x.2) (fun q y => by
    obtain ⟨⟨a, a1, a2, a3⟩, b, b1, b2, b3⟩ := y
    exact ⟨a, a1, a2, b3 a3⟩))
section OPA
variable {dp t tr : Nat} {TS : Nat → Prop} {z : Nat} {kd : KD} {R : RF} {J M : JI} {b4 b5 b6 b7 len sl : Nat}
theorem ia_of {b w : Int} (hd : 30 ≤ dp) (ht : t < 512) (h : InvA t tr TS z kd R J M b4 b5 b6 b7 len sl) : Ev (fun n => kf_159 n dp (z, kd, R) 0 J M b w) (fun r => Ev (fun n => kf_291 n dp (z, kd, R) 0 r.2.1 r.2.2 b w) (fun q => ∃ a, r.1 = a ∧ q.1 = a ∧ InvA (t + 1) tr TS z kd R q.2.1 q.2.2 b4 b5 b6 b7 len sl)) := by
  have hI := h.1
  have hI' := hI
  obtain ⟨q1, q2, q3, q4, q5, q6, q7, q8, q9⟩ := hI
  obtain ⟨u1, u2, u3, u4, u5, u6, u7, u8, u9, u10, u11, u12, u13, u14, u15, u16, u17⟩ := q5
  obtain ⟨v1, v2, v3, v4, v5, v6, v7, v8, v9, v10, v11, v12, v13, v14, v15, v16, v17⟩ := q6
  simp only [Nat.reduceAdd] at v1 v2 v3 v4 v5 v6 v7
  refine o_of (P := fun _ J' M' => InvA (t + 1) tr TS z kd R J' M' b4 b5 b6 b7 len sl) (by omega) (smO_Bs (by omega) q7) v9 u6 (fun h h' => ?_) (fun _ => InvA_up h)
  rw [v6 _ (by omega) (by omega)]; congr 1; omega
theorem ia_came {d c : Int} (hd : 30 ≤ dp) (ht : t < 512) (h : InvA t tr TS z kd R J M b4 b5 b6 b7 len sl) : Ev (fun n => kf_183 n dp (z, kd, R) 0 J M d c) (fun r => Ev (fun n => kf_303 n dp (z, kd, R) 0 r.2.1 r.2.2 d c) (fun q => ∃ a, r.1 = a ∧ q.1 = a ∧ InvA (t + 1) tr TS z kd R q.2.1 q.2.2 b4 b5 b6 b7 len sl)) := by
  have hI := h.1
  have hI' := hI
  obtain ⟨q1, q2, q3, q4, q5, q6, q7, q8, q9⟩ := hI
  obtain ⟨u1, u2, u3, u4, u5, u6, u7, u8, u9, u10, u11, u12, u13, u14, u15, u16, u17⟩ := q5
  obtain ⟨v1, v2, v3, v4, v5, v6, v7, v8, v9, v10, v11, v12, v13, v14, v15, v16, v17⟩ := q6
  simp only [Nat.reduceAdd] at v1 v2 v3 v4 v5 v6 v7
  obtain ⟨s1, s2, s3, s4, s5, s6, s7, s8, s9, s10, s11, s12, s13, s14, s15, s16⟩ := q7
  refine o_came (P := fun _ J' M' => InvA (t + 1) tr TS z kd R J' M' b4 b5 b6 b7 len sl) (by omega) (smO_Bs (by omega) hI'.2.2.2.2.2.2.1) s13 (fun h h' => ?_) (fun _ => InvA_up h)
  rw [s15 _ (by omega) (by omega)]; congr 1; omega
theorem ia_status (hd : 30 ≤ dp) (ht : t < 512) (h : InvA t tr TS z kd R J M b4 b5 b6 b7 len sl) : Ev (fun n => kf_190 n dp (z, kd, R) 0 J M) (fun r => Ev (fun n => kf_305 n dp (z, kd, R) 0 r.2.1 r.2.2) (fun q => ∃ a, r.1 = a ∧ q.1 = a ∧ InvA (t + 1) tr TS z kd R q.2.1 q.2.2 b4 b5 b6 b7 len sl)) := by
  have hI := h.1
  exact o_status (P := fun _ J' M' => InvA (t + 1) tr TS z kd R J' M' b4 b5 b6 b7 len sl) (by omega) (smO_Bs (by omega) hI.2.2.2.2.2.2.1) hI.2.2.2.2.2.2.1.2.2.2.2.2.2.2.2.2.2.2.1 (fun _ => InvA_up h)
theorem ia_fault (hd : 30 ≤ dp) (ht : t < 512) (h : InvA t tr TS z kd R J M b4 b5 b6 b7 len sl) : Ev (fun n => kf_67 n dp (z, kd, R) 0 J M) (fun r => Ev (fun n => kf_211 n dp (z, kd, R) 0 r.2.1 r.2.2) (fun q => ∃ a, r.1 = a ∧ q.1 = a ∧ InvA (t + 1) tr TS z kd R q.2.1 q.2.2 b4 b5 b6 b7 len sl)) := by
  have hI := h.1
  exact o_fault (P := fun _ J' M' => InvA (t + 1) tr TS z kd R J' M' b4 b5 b6 b7 len sl) (by omega) (smO_Bs (by omega) hI.2.2.2.2.2.2.1) hI.2.2.2.2.2.2.1.2.2.2.2.2.2.2.2.2.1 (fun _ => InvA_up h)
theorem ia_spoilt (hd : 30 ≤ dp) (ht : t < 512) (h : InvA t tr TS z kd R J M b4 b5 b6 b7 len sl) : Ev (fun n => kf_162 n dp (z, kd, R) 0 J M) (fun r => Ev (fun n => kf_294 n dp (z, kd, R) 0 r.2.1 r.2.2) (fun q => ∃ a, r.1 = a ∧ q.1 = a ∧ InvA (t + 1) tr TS z kd R q.2.1 q.2.2 b4 b5 b6 b7 len sl)) := by
  have hI := h.1
  exact o_spoilt (P := fun _ J' M' => InvA (t + 1) tr TS z kd R J' M' b4 b5 b6 b7 len sl) (by omega) (smO_Bs (by omega) hI.2.2.2.2.2.2.1) hI.2.2.2.2.2.2.1.2.2.2.2.2.2.2.2.2.2.1 (fun _ => InvA_up h)
theorem ia_drift {al lim w : Int} (hd : 30 ≤ dp) (ht : t < 512) (h : InvA t tr TS z kd R J M b4 b5 b6 b7 len sl) : Ev (fun n => kf_180 n dp (z, kd, R) 0 J M al lim w  0 0 0 0) (fun r => Ev (fun n => kf_301 n dp (z, kd, R) 0 r.2.1 r.2.2 al lim w 0 0 0 0) (fun q => ∃ a, r.1 = a ∧ q.1 = a ∧ InvA (t + 1) tr TS z kd R q.2.1 q.2.2 b4 b5 b6 b7 len sl)) := by
  have hI := h.1
  have hI' := hI
  obtain ⟨q1, q2, q3, q4, q5, q6, q7, q8, q9⟩ := hI
  obtain ⟨u1, u2, u3, u4, u5, u6, u7, u8, u9, u10, u11, u12, u13, u14, u15, u16, u17⟩ := q5
  obtain ⟨v1, v2, v3, v4, v5, v6, v7, v8, v9, v10, v11, v12, v13, v14, v15, v16, v17⟩ := q6
  simp only [Nat.reduceAdd] at v1 v2 v3 v4 v5 v6 v7
  obtain ⟨N, hN⟩ : ∃ N : Nat, J 107 7 = N := ⟨(J 107 7).toNat, by omega⟩
  refine o_drift (P := fun _ J' M' => InvA (t + 1) tr TS z kd R J' M' b4 b5 b6 b7 len sl) (N := N) (by omega) (smO_Bs (by omega) q7) (by omega) hN (by omega) (fun i h1 h2 => u17 i h1 (by omega)) (fun i h1 h2 => v7 i h1 (by omega)) (fun _ => InvA_up h)
theorem ia_way {w x : Int} (hd : 30 ≤ dp) (ht : t < 512) (h : InvA t tr TS z kd R J M b4 b5 b6 b7 len sl) : Ev (fun n => kf_68 n dp (z, kd, R) 0 J M w x) (fun r => Ev (fun n => kf_238 n dp (z, kd, R) 0 r.2.1 r.2.2 w x) (fun q => ∃ a, r.1 = a ∧ q.1 = a ∧ InvA (t + 1) tr TS z kd R q.2.1 q.2.2 b4 b5 b6 b7 len sl)) := by
  have hI := h.1
  have hI' := hI
  obtain ⟨q1, q2, q3, q4, q5, q6, q7, q8, q9⟩ := hI
  obtain ⟨u1, u2, u3, u4, u5, u6, u7, u8, u9, u10, u11, u12, u13, u14, u15, u16, u17⟩ := q5
  obtain ⟨v1, v2, v3, v4, v5, v6, v7, v8, v9, v10, v11, v12, v13, v14, v15, v16, v17⟩ := q6
  simp only [Nat.reduceAdd] at v1 v2 v3 v4 v5 v6 v7
  refine o_way (P := fun _ J' M' => InvA (t + 1) tr TS z kd R J' M' b4 b5 b6 b7 len sl) (by omega) (smO_Bs (by omega) q7) q3.2.2.2.2.2.2.2.2 (TrO_sh q2 q1) v14 u9 (fun h h' => v15 w h h') (fun h h' a b => ?_) (fun _ => InvA_up h)
  have := v16 w (x - 10) h h' (by omega) (by omega)
  rwa [show w * 10 + (x - 10) = w * 10 + x - 10 by omega] at this
theorem ia_count {w : Int} (hd : 30 ≤ dp) (ht : t < 512) (h : InvA t tr TS z kd R J M b4 b5 b6 b7 len sl) : Ev (fun n => kf_188 n dp (z, kd, R) 0 J M w) (fun r => Ev (fun n => kf_304 n dp (z, kd, R) 0 r.2.1 r.2.2 w  0 0) (fun q => ∃ a, r.1 = a ∧ q.1 = a ∧ InvA (t + 1) tr TS z kd R q.2.1 q.2.2 b4 b5 b6 b7 len sl)) := by
  have hI := h.1
  have hI' := hI
  obtain ⟨q1, q2, q3, q4, q5, q6, q7, q8, q9⟩ := hI
  obtain ⟨u1, u2, u3, u4, u5, u6, u7, u8, u9, u10, u11, u12, u13, u14, u15, u16, u17⟩ := q5
  obtain ⟨v1, v2, v3, v4, v5, v6, v7, v8, v9, v10, v11, v12, v13, v14, v15, v16, v17⟩ := q6
  simp only [Nat.reduceAdd] at v1 v2 v3 v4 v5 v6 v7
  obtain ⟨N, hN⟩ : ∃ N : Nat, J 107 6 = N := ⟨(J 107 6).toNat, by omega⟩
  obtain ⟨s1, s2, s3, s4, s5, s6, s7, s8, s9, s10, s11, s12, s13, s14, s15, s16⟩ := q7
  refine o_count (P := fun _ J' M' => InvA (t + 1) tr TS z kd R J' M' b4 b5 b6 b7 len sl) (N := N) (tr := tr) (by omega) (smO_Bs (by omega) hI'.2.2.2.2.2.2.1) ⟨v1 0 (by decide) (by decide), u1 0 (by decide) (by decide)⟩ ⟨v1 1 (by decide) (by decide), u1 1 (by decide) (by decide)⟩ ⟨v1 2 (by decide) (by decide), u1 2 (by decide) (by decide)⟩ q3.2.2.2.2.2.2.2.2 (TrO_sh q2 q1).1 v13 v14 v8 (by omega) hN (by omega) (fun b b0 b1 => ⟨?_, (u16 b b0 (by omega)).2⟩) v10 (sm_congr 10 (fun i a b => ?_)) s9.1 s4.1 s5.1 s6.1 s7.1 s8.1 (fun _ => InvA_up h)
  · show J 7 (b * 7 + 6) = J 107 (90 + 7 * b + 6)
    rw [v6 _ (by omega) (by omega)]; congr 1; omega
  · show (if J 4 (20 + i) ≤ 0 then (0 : Int) else 1) = if J 107 (60 + i) ≤ 0 then 0 else 1
    rw [v3 (20 + i) (by omega) (by omega), show (40 : Int) + (20 + i) = 60 + i by omega]
theorem ia_end {m : Int} (hd : 30 ≤ dp) (ht : t < 512) (h : InvA t tr TS z kd R J M b4 b5 b6 b7 len sl) : Ev (fun n => kf_31 n dp (z, kd, R) 0 J M m) (fun r => Ev (fun n => kf_210 n dp (z, kd, R) 0 r.2.1 r.2.2 m) (fun q => ∃ a, r.1 = a ∧ q.1 = a ∧ InvA (t + 1) tr TS z kd R q.2.1 q.2.2 b4 b5 b6 b7 len sl)) := by
  have hI := h.1
  have hI' := hI
  obtain ⟨q1, q2, q3, q4, q5, q6, q7, q8, q9⟩ := hI
  obtain ⟨u1, u2, u3, u4, u5, u6, u7, u8, u9, u10, u11, u12, u13, u14, u15, u16, u17⟩ := q5
  obtain ⟨v1, v2, v3, v4, v5, v6, v7, v8, v9, v10, v11, v12, v13, v14, v15, v16, v17⟩ := q6
  simp only [Nat.reduceAdd] at v1 v2 v3 v4 v5 v6 v7
  refine o_end (P := fun _ J' M' => InvA (t + 1) tr TS z kd R J' M' b4 b5 b6 b7 len sl) (by omega) (smO_Bs (by omega) q7) q7.2.2.2.2.2.2.2.2.1.1 (fun _ => InvA_up h) (fun hm => ?_)
  have hB : InvB (t + 1) tr z kd R (w2 (w2 J 0 13 m) 105 7 m) := by
    refine InvB_sm hI' (fun a ha j => ?_) ?_
    · simp (disch := omega) only [w2_o]
    · obtain ⟨s1, s2, s3, s4, s5, s6, s7, s8, s9, s10, s11, s12, s13, s14, s15, s16⟩ := q7
      refine ⟨by (first | (simp only [okM, okC, fgC, fpC, rfJ, Nat.reduceAdd, true_or, or_true, or_false, false_or, w2_ap, true_and, false_and, and_true, and_false, if_true, if_false, Int.zero_add, Int.add_zero, not_false_eq_true, not_true_eq_false, Nat.reduceEqDiff, Int.reduceEq, Int.reduceAdd, Int.reduceSub, Int.reduceMul, Int.reduceNeg, Int.reduceLE, Int.reduceLT]; done) | (simp only [okM, okC, fgC, fpC, rfJ, Nat.reduceAdd, true_or, or_true, or_false, false_or, w2_ap, true_and, false_and, and_true, and_false, if_true, if_false, Int.zero_add, Int.add_zero, not_false_eq_true, not_true_eq_false, Nat.reduceEqDiff, Int.reduceEq, Int.reduceAdd, Int.reduceSub, Int.reduceMul, Int.reduceNeg, Int.reduceLE, Int.reduceLT]; first | omega | (simp (disch := omega) only [if_neg]; first | done | assumption | omega) | ((repeat' split) <;> omega)) | omega | ((repeat' split) <;> omega)), by (first | (simp only [okM, okC, fgC, fpC, rfJ, Nat.reduceAdd, true_or, or_true, or_false, false_or, w2_ap, true_and, false_and, and_true, and_false, if_true, if_false, Int.zero_add, Int.add_zero, not_false_eq_true, not_true_eq_false, Nat.reduceEqDiff, Int.reduceEq, Int.reduceAdd, Int.reduceSub, Int.reduceMul, Int.reduceNeg, Int.reduceLE, Int.reduceLT]; done) | (simp only [okM, okC, fgC, fpC, rfJ, Nat.reduceAdd, true_or, or_true, or_false, false_or, w2_ap, true_and, false_and, and_true, and_false, if_true, if_false, Int.zero_add, Int.add_zero, not_false_eq_true, not_true_eq_false, Nat.reduceEqDiff, Int.reduceEq, Int.reduceAdd, Int.reduceSub, Int.reduceMul, Int.reduceNeg, Int.reduceLE, Int.reduceLT]; first | omega | (simp (disch := omega) only [if_neg]; first | done | assumption | omega) | ((repeat' split) <;> omega)) | omega | ((repeat' split) <;> omega)), by (first | (simp only [okM, okC, fgC, fpC, rfJ, Nat.reduceAdd, true_or, or_true, or_false, false_or, w2_ap, true_and, false_and, and_true, and_false, if_true, if_false, Int.zero_add, Int.add_zero, not_false_eq_true, not_true_eq_false, Nat.reduceEqDiff, Int.reduceEq, Int.reduceAdd, Int.reduceSub, Int.reduceMul, Int.reduceNeg, Int.reduceLE, Int.reduceLT]; done) | (simp only [okM, okC, fgC, fpC, rfJ, Nat.reduceAdd, true_or, or_true, or_false, false_or, w2_ap, true_and, false_and, and_true, and_false, if_true, if_false, Int.zero_add, Int.add_zero, not_false_eq_true, not_true_eq_false, Nat.reduceEqDiff, Int.reduceEq, Int.reduceAdd, Int.reduceSub, Int.reduceMul, Int.reduceNeg, Int.reduceLE, Int.reduceLT]; first | omega | (simp (disch := omega) only [if_neg]; first | done | assumption | omega) | ((repeat' split) <;> omega)) | omega | ((repeat' split) <;> omega)), by (first | (simp only [okM, okC, fgC, fpC, rfJ, Nat.reduceAdd, true_or, or_true, or_false, false_or, w2_ap, true_and, false_and, and_true, and_false, if_true, if_false, Int.zero_add, Int.add_zero, not_false_eq_true, not_true_eq_false, Nat.reduceEqDiff, Int.reduceEq, Int.reduceAdd, Int.reduceSub, Int.reduceMul, Int.reduceNeg, Int.reduceLE, Int.reduceLT]; done) | (simp only [okM, okC, fgC, fpC, rfJ, Nat.reduceAdd, true_or, or_true, or_false, false_or, w2_ap, true_and, false_and, and_true, and_false, if_true, if_false, Int.zero_add, Int.add_zero, not_false_eq_true, not_true_eq_false, Nat.reduceEqDiff, Int.reduceEq, Int.reduceAdd, Int.reduceSub, Int.reduceMul, Int.reduceNeg, Int.reduceLE, Int.reduceLT]; first | omega | (simp (disch := omega) only [if_neg]; first | done | assumption | omega) | ((repeat' split) <;> omega)) | omega | ((repeat' split) <;> omega)), by (first | (simp only [okM, okC, fgC, fpC, rfJ, Nat.reduceAdd, true_or, or_true, or_false, false_or, w2_ap, true_and, false_and, and_true, and_false, if_true, if_false, Int.zero_add, Int.add_zero, not_false_eq_true, not_true_eq_false, Nat.reduceEqDiff, Int.reduceEq, Int.reduceAdd, Int.reduceSub, Int.reduceMul, Int.reduceNeg, Int.reduceLE, Int.reduceLT]; done) | (simp only [okM, okC, fgC, fpC, rfJ, Nat.reduceAdd, true_or, or_true, or_false, false_or, w2_ap, true_and, false_and, and_true, and_false, if_true, if_false, Int.zero_add, Int.add_zero, not_false_eq_true, not_true_eq_false, Nat.reduceEqDiff, Int.reduceEq, Int.reduceAdd, Int.reduceSub, Int.reduceMul, Int.reduceNeg, Int.reduceLE, Int.reduceLT]; first | omega | (simp (disch := omega) only [if_neg]; first | done | assumption | omega) | ((repeat' split) <;> omega)) | omega | ((repeat' split) <;> omega)), by (first | (simp only [okM, okC, fgC, fpC, rfJ, Nat.reduceAdd, true_or, or_true, or_false, false_or, w2_ap, true_and, false_and, and_true, and_false, if_true, if_false, Int.zero_add, Int.add_zero, not_false_eq_true, not_true_eq_false, Nat.reduceEqDiff, Int.reduceEq, Int.reduceAdd, Int.reduceSub, Int.reduceMul, Int.reduceNeg, Int.reduceLE, Int.reduceLT]; done) | (simp only [okM, okC, fgC, fpC, rfJ, Nat.reduceAdd, true_or, or_true, or_false, false_or, w2_ap, true_and, false_and, and_true, and_false, if_true, if_false, Int.zero_add, Int.add_zero, not_false_eq_true, not_true_eq_false, Nat.reduceEqDiff, Int.reduceEq, Int.reduceAdd, Int.reduceSub, Int.reduceMul, Int.reduceNeg, Int.reduceLE, Int.reduceLT]; first | omega | (simp (disch := omega) only [if_neg]; first | done | assumption | omega) | ((repeat' split) <;> omega)) | omega | ((repeat' split) <;> omega)), by (first | (simp only [okM, okC, fgC, fpC, rfJ, Nat.reduceAdd, true_or, or_true, or_false, false_or, w2_ap, true_and, false_and, and_true, and_false, if_true, if_false, Int.zero_add, Int.add_zero, not_false_eq_true, not_true_eq_false, Nat.reduceEqDiff, Int.reduceEq, Int.reduceAdd, Int.reduceSub, Int.reduceMul, Int.reduceNeg, Int.reduceLE, Int.reduceLT]; done) | (simp only [okM, okC, fgC, fpC, rfJ, Nat.reduceAdd, true_or, or_true, or_false, false_or, w2_ap, true_and, false_and, and_true, and_false, if_true, if_false, Int.zero_add, Int.add_zero, not_false_eq_true, not_true_eq_false, Nat.reduceEqDiff, Int.reduceEq, Int.reduceAdd, Int.reduceSub, Int.reduceMul, Int.reduceNeg, Int.reduceLE, Int.reduceLT]; first | omega | (simp (disch := omega) only [if_neg]; first | done | assumption | omega) | ((repeat' split) <;> omega)) | omega | ((repeat' split) <;> omega)), by (first | (simp only [okM, okC, fgC, fpC, rfJ, Nat.reduceAdd, true_or, or_true, or_false, false_or, w2_ap, true_and, false_and, and_true, and_false, if_true, if_false, Int.zero_add, Int.add_zero, not_false_eq_true, not_true_eq_false, Nat.reduceEqDiff, Int.reduceEq, Int.reduceAdd, Int.reduceSub, Int.reduceMul, Int.reduceNeg, Int.reduceLE, Int.reduceLT]; done) | (simp only [okM, okC, fgC, fpC, rfJ, Nat.reduceAdd, true_or, or_true, or_false, false_or, w2_ap, true_and, false_and, and_true, and_false, if_true, if_false, Int.zero_add, Int.add_zero, not_false_eq_true, not_true_eq_false, Nat.reduceEqDiff, Int.reduceEq, Int.reduceAdd, Int.reduceSub, Int.reduceMul, Int.reduceNeg, Int.reduceLE, Int.reduceLT]; first | omega | (simp (disch := omega) only [if_neg]; first | done | assumption | omega) | ((repeat' split) <;> omega)) | omega | ((repeat' split) <;> omega)), by (first | (simp only [okM, okC, fgC, fpC, rfJ, Nat.reduceAdd, true_or, or_true, or_false, false_or, w2_ap, true_and, false_and, and_true, and_false, if_true, if_false, Int.zero_add, Int.add_zero, not_false_eq_true, not_true_eq_false, Nat.reduceEqDiff, Int.reduceEq, Int.reduceAdd, Int.reduceSub, Int.reduceMul, Int.reduceNeg, Int.reduceLE, Int.reduceLT]; done) | (simp only [okM, okC, fgC, fpC, rfJ, Nat.reduceAdd, true_or, or_true, or_false, false_or, w2_ap, true_and, false_and, and_true, and_false, if_true, if_false, Int.zero_add, Int.add_zero, not_false_eq_true, not_true_eq_false, Nat.reduceEqDiff, Int.reduceEq, Int.reduceAdd, Int.reduceSub, Int.reduceMul, Int.reduceNeg, Int.reduceLE, Int.reduceLT]; first | omega | (simp (disch := omega) only [if_neg]; first | done | assumption | omega) | ((repeat' split) <;> omega)) | omega | ((repeat' split) <;> omega)), by (first | (simp only [okM, okC, fgC, fpC, rfJ, Nat.reduceAdd, true_or, or_true, or_false, false_or, w2_ap, true_and, false_and, and_true, and_false, if_true, if_false, Int.zero_add, Int.add_zero, not_false_eq_true, not_true_eq_false, Nat.reduceEqDiff, Int.reduceEq, Int.reduceAdd, Int.reduceSub, Int.reduceMul, Int.reduceNeg, Int.reduceLE, Int.reduceLT]; done) | (simp only [okM, okC, fgC, fpC, rfJ, Nat.reduceAdd, true_or, or_true, or_false, false_or, w2_ap, true_and, false_and, and_true, and_false, if_true, if_false, Int.zero_add, Int.add_zero, not_false_eq_true, not_true_eq_false, Nat.reduceEqDiff, Int.reduceEq, Int.reduceAdd, Int.reduceSub, Int.reduceMul, Int.reduceNeg, Int.reduceLE, Int.reduceLT]; first | omega | (simp (disch := omega) only [if_neg]; first | done | assumption | omega) | ((repeat' split) <;> omega)) | omega | ((repeat' split) <;> omega)), by (first | (simp only [okM, okC, fgC, fpC, rfJ, Nat.reduceAdd, true_or, or_true, or_false, false_or, w2_ap, true_and, false_and, and_true, and_false, if_true, if_false, Int.zero_add, Int.add_zero, not_false_eq_true, not_true_eq_false, Nat.reduceEqDiff, Int.reduceEq, Int.reduceAdd, Int.reduceSub, Int.reduceMul, Int.reduceNeg, Int.reduceLE, Int.reduceLT]; done) | (simp only [okM, okC, fgC, fpC, rfJ, Nat.reduceAdd, true_or, or_true, or_false, false_or, w2_ap, true_and, false_and, and_true, and_false, if_true, if_false, Int.zero_add, Int.add_zero, not_false_eq_true, not_true_eq_false, Nat.reduceEqDiff, Int.reduceEq, Int.reduceAdd, Int.reduceSub, Int.reduceMul, Int.reduceNeg, Int.reduceLE, Int.reduceLT]; first | omega | (simp (disch := omega) only [if_neg]; first | done | assumption | omega) | ((repeat' split) <;> omega)) | omega | ((repeat' split) <;> omega)), by (first | (simp only [okM, okC, fgC, fpC, rfJ, Nat.reduceAdd, true_or, or_true, or_false, false_or, w2_ap, true_and, false_and, and_true, and_false, if_true, if_false, Int.zero_add, Int.add_zero, not_false_eq_true, not_true_eq_false, Nat.reduceEqDiff, Int.reduceEq, Int.reduceAdd, Int.reduceSub, Int.reduceMul, Int.reduceNeg, Int.reduceLE, Int.reduceLT]; done) | (simp only [okM, okC, fgC, fpC, rfJ, Nat.reduceAdd, true_or, or_true, or_false, false_or, w2_ap, true_and, false_and, and_true, and_false, if_true, if_false, Int.zero_add, Int.add_zero, not_false_eq_true, not_true_eq_false, Nat.reduceEqDiff, Int.reduceEq, Int.reduceAdd, Int.reduceSub, Int.reduceMul, Int.reduceNeg, Int.reduceLE, Int.reduceLT]; first | omega | (simp (disch := omega) only [if_neg]; first | done | assumption | omega) | ((repeat' split) <;> omega)) | omega | ((repeat' split) <;> omega)), by (first | (simp only [okM, okC, fgC, fpC, rfJ, Nat.reduceAdd, true_or, or_true, or_false, false_or, w2_ap, true_and, false_and, and_true, and_false, if_true, if_false, Int.zero_add, Int.add_zero, not_false_eq_true, not_true_eq_false, Nat.reduceEqDiff, Int.reduceEq, Int.reduceAdd, Int.reduceSub, Int.reduceMul, Int.reduceNeg, Int.reduceLE, Int.reduceLT]; done) | (simp only [okM, okC, fgC, fpC, rfJ, Nat.reduceAdd, true_or, or_true, or_false, false_or, w2_ap, true_and, false_and, and_true, and_false, if_true, if_false, Int.zero_add, Int.add_zero, not_false_eq_true, not_true_eq_false, Nat.reduceEqDiff, Int.reduceEq, Int.reduceAdd, Int.reduceSub, Int.reduceMul, Int.reduceNeg, Int.reduceLE, Int.reduceLT]; first | omega | (simp (disch := omega) only [if_neg]; first | done | assumption | omega) | ((repeat' split) <;> omega)) | omega | ((repeat' split) <;> omega)), fun i a b => by have w := s14 i a b; (first | (simp only [okM, okC, fgC, fpC, rfJ, Nat.reduceAdd, true_or, or_true, or_false, false_or, w2_ap, true_and, false_and, and_true, and_false, if_true, if_false, Int.zero_add, Int.add_zero, not_false_eq_true, not_true_eq_false, Nat.reduceEqDiff, Int.reduceEq, Int.reduceAdd, Int.reduceSub, Int.reduceMul, Int.reduceNeg, Int.reduceLE, Int.reduceLT]; done) | (simp only [okM, okC, fgC, fpC, rfJ, Nat.reduceAdd, true_or, or_true, or_false, false_or, w2_ap, true_and, false_and, and_true, and_false, if_true, if_false, Int.zero_add, Int.add_zero, not_false_eq_true, not_true_eq_false, Nat.reduceEqDiff, Int.reduceEq, Int.reduceAdd, Int.reduceSub, Int.reduceMul, Int.reduceNeg, Int.reduceLE, Int.reduceLT]; first | omega | (simp (disch := omega) only [if_neg]; first | done | assumption | omega) | ((repeat' split) <;> omega)) | omega | ((repeat' split) <;> omega)), fun i a b => by have w := s15 i a b; (first | (simp only [okM, okC, fgC, fpC, rfJ, Nat.reduceAdd, true_or, or_true, or_false, false_or, w2_ap, true_and, false_and, and_true, and_false, if_true, if_false, Int.zero_add, Int.add_zero, not_false_eq_true, not_true_eq_false, Nat.reduceEqDiff, Int.reduceEq, Int.reduceAdd, Int.reduceSub, Int.reduceMul, Int.reduceNeg, Int.reduceLE, Int.reduceLT]; done) | (simp only [okM, okC, fgC, fpC, rfJ, Nat.reduceAdd, true_or, or_true, or_false, false_or, w2_ap, true_and, false_and, and_true, and_false, if_true, if_false, Int.zero_add, Int.add_zero, not_false_eq_true, not_true_eq_false, Nat.reduceEqDiff, Int.reduceEq, Int.reduceAdd, Int.reduceSub, Int.reduceMul, Int.reduceNeg, Int.reduceLE, Int.reduceLT]; first | omega | (simp (disch := omega) only [if_neg]; first | done | assumption | omega) | ((repeat' split) <;> omega)) | omega | ((repeat' split) <;> omega)), by (first | (simp only [okM, okC, fgC, fpC, rfJ, Nat.reduceAdd, true_or, or_true, or_false, false_or, w2_ap, true_and, false_and, and_true, and_false, if_true, if_false, Int.zero_add, Int.add_zero, not_false_eq_true, not_true_eq_false, Nat.reduceEqDiff, Int.reduceEq, Int.reduceAdd, Int.reduceSub, Int.reduceMul, Int.reduceNeg, Int.reduceLE, Int.reduceLT]; done) | (simp only [okM, okC, fgC, fpC, rfJ, Nat.reduceAdd, true_or, or_true, or_false, false_or, w2_ap, true_and, false_and, and_true, and_false, if_true, if_false, Int.zero_add, Int.add_zero, not_false_eq_true, not_true_eq_false, Nat.reduceEqDiff, Int.reduceEq, Int.reduceAdd, Int.reduceSub, Int.reduceMul, Int.reduceNeg, Int.reduceLE, Int.reduceLT]; first | omega | (simp (disch := omega) only [if_neg]; first | done | assumption | omega) | ((repeat' split) <;> omega)) | omega | ((repeat' split) <;> omega))⟩
  have n : ∀ a i, ¬ (a = 0 ∧ i = 13) → ¬ (a = 105 ∧ i = 7) → w2 (w2 J 0 13 m) 105 7 m a i = J a i := fun a i x y => by rw [w2_n y, w2_n x]
  have e7 : w2 (w2 J 0 13 m) 105 7 m 107 = J 107 := funext fun i => n _ _ (by omega) (by omega)
  refine InvA_s h hB (fun a i x y w => n a i (fun s => x (by unfold XS1; omega)) (fun s => x (by unfold XS1; omega))) (Or.inl ⟨⟨n _ _ (by omega) (by omega), n _ _ (by omega) (by omega)⟩, fun i => n _ _ (by omega) (by omega)⟩) ?_ ?_ (fun _ => rfl)
  · rw [e7]; exact CrI_c (fun a i x y => n a i (by omega) (by omega)) h.2.2.1.1
  · rw [e7]; exact MxI_c (fun a i x y => n a i (by omega) (by omega)) h.2.2.1.2
theorem ia_feed {a b c d f : Int} (hd : 30 ≤ dp) (ht : t < 512) (h : InvA t tr TS z kd R J M b4 b5 b6 b7 len sl) : Ev (fun n => kf_29 n dp (z, kd, R) 0 J M a b c d f) (fun r => Ev (fun n => kf_208 n dp (z, kd, R) 0 r.2.1 r.2.2 a b c d f) (fun q => ∃ a, r.1 = a ∧ q.1 = a ∧ InvA (t + 1) tr TS z kd R q.2.1 q.2.2 b4 b5 b6 b7 len sl)) := by
  have hI := h.1
  have hI' := hI
  obtain ⟨q1, q2, q3, q4, q5, q6, q7, q8, q9⟩ := hI
  obtain ⟨u1, u2, u3, u4, u5, u6, u7, u8, u9, u10, u11, u12, u13, u14, u15, u16, u17⟩ := q5
  obtain ⟨v1, v2, v3, v4, v5, v6, v7, v8, v9, v10, v11, v12, v13, v14, v15, v16, v17⟩ := q6
  simp only [Nat.reduceAdd] at v1 v2 v3 v4 v5 v6 v7
  refine Ev_2i (A := fun J' M' => InvA (t + 1) tr TS z kd R J' M' b4 b5 b6 b7 len sl) (B := fun J' => InvB (t + 1) tr z kd R J') (iv_feed (dp := dp) (M := M) (by omega) ht hI') (o_feed (dp := dp) (e := (z, kd, R)) (P := fun _ J' M' => InvB (t + 1) tr z kd R J' → InvA (t + 1) tr TS z kd R J' M' b4 b5 b6 b7 len sl) (by omega) (smO_Bs (by omega) q7) q7.2.2.2.2.2.2.2.2.1.1 q7.2.2.2.2.2.2.2.2.1.2 (fun _ _ => InvA_up h) (fun hm hB => ?_))
  have fr : ∀ x (j : Int), ¬ x = 0 → ¬ x = 89 → ¬ x = 105 → ¬ x = 110 → fdM (fdM (fdM (fdM (fdM (fdC (fdC (fdC (fdC (fdC J a) b) c) d) f) a) b) c) d) f x j = J x j := fun x j h0 h1 h2 h3 => by
    rw [fdM_o h3 h2, fdM_o h3 h2, fdM_o h3 h2, fdM_o h3 h2, fdM_o h3 h2, fdC_o h1 h0, fdC_o h1 h0, fdC_o h1 h0, fdC_o h1 h0, fdC_o h1 h0]
  have c0 : ∀ (K : JI) (a j : Int), ¬ j = 13 → fdC K a 0 j = K 0 j := fun K a j hj => by unfold fdC; simp only [w2_ap, Nat.reduceEqDiff, false_and, true_and, if_false, hj]
  have m0 : ∀ (K : JI) (a j : Int), ¬ j = 7 → fdM K a 105 j = K 105 j := fun K a j hj => by unfold fdM; simp only [w2_ap, Nat.reduceEqDiff, false_and, true_and, if_false, hj]
  have oM : ∀ (K : JI) (a : Int) (x : Nat) (j : Int), x = 0 ∨ x = 89 → fdM K a x j = K x j := fun K a x j h => fdM_o (by omega) (by omega)
  have oC : ∀ (K : JI) (a : Int) (x : Nat) (j : Int), x = 105 ∨ x = 110 → fdC K a x j = K x j := fun K a x j h => fdC_o (by omega) (by omega)
  have e0 : ∀ j, ¬ j = 13 → fdM (fdM (fdM (fdM (fdM (fdC (fdC (fdC (fdC (fdC J a) b) c) d) f) a) b) c) d) f 0 j = J 0 j := fun j hj => by
    rw [oM _ _ 0 _ (Or.inl rfl), oM _ _ 0 _ (Or.inl rfl), oM _ _ 0 _ (Or.inl rfl), oM _ _ 0 _ (Or.inl rfl), oM _ _ 0 _ (Or.inl rfl), c0 _ _ _ hj, c0 _ _ _ hj, c0 _ _ _ hj, c0 _ _ _ hj, c0 _ _ _ hj]
  have e105 : ∀ j, ¬ j = 7 → fdM (fdM (fdM (fdM (fdM (fdC (fdC (fdC (fdC (fdC J a) b) c) d) f) a) b) c) d) f 105 j = J 105 j := fun j hj => by
    rw [m0 _ _ _ hj, m0 _ _ _ hj, m0 _ _ _ hj, m0 _ _ _ hj, m0 _ _ _ hj, oC _ _ 105 _ (Or.inl rfl), oC _ _ 105 _ (Or.inl rfl), oC _ _ 105 _ (Or.inl rfl), oC _ _ 105 _ (Or.inl rfl), oC _ _ 105 _ (Or.inl rfl)]
  generalize fdM (fdM (fdM (fdM (fdM (fdC (fdC (fdC (fdC (fdC J a) b) c) d) f) a) b) c) d) f = J1 at hB fr e0 e105 ⊢
  have n : ∀ x i, ¬ (x = 0 ∧ i = 13) → ¬ x = 89 → ¬ (x = 105 ∧ i = 7) → ¬ x = 110 → J1 x i = J x i := fun x i y1 y2 y3 y4 => by
    by_cases k0 : x = 0
    · subst k0; exact e0 i (by omega)
    · by_cases k1 : x = 105
      · subst k1; exact e105 i (by omega)
      · exact fr x i k0 y2 k1 y4
  have e7 : J1 107 = J 107 := funext fun i => n _ _ (by omega) (by omega) (by omega) (by omega)
  refine InvA_s h hB (fun x i y w v => n x i (fun s => y (by unfold XS1; omega)) (fun s => y (by unfold XS1; omega)) (fun s => y (by unfold XS1; omega)) (fun s => y (by unfold XS1; omega))) (Or.inl ⟨⟨n _ _ (by omega) (by omega) (by omega) (by omega), n _ _ (by omega) (by omega) (by omega) (by omega)⟩, fun i => n _ _ (by omega) (by omega) (by omega) (by omega)⟩) ?_ ?_ (fun _ => rfl)
  · rw [e7]; exact CrI_c (fun a i x y => n a i (by omega) (by omega) (by omega) (by omega)) h.2.2.1.1
  · rw [e7]; exact MxI_c (fun a i x y => n a i (by omega) (by omega) (by omega) (by omega)) h.2.2.1.2
theorem ia_skills {m s : Int} (hd : 30 ≤ dp) (ht : t < 512) (h : InvA t tr TS z kd R J M b4 b5 b6 b7 len sl) : Ev (fun n => kf_27 n dp (z, kd, R) 0 J M m s) (fun r => Ev (fun n => kf_206 n dp (z, kd, R) 0 r.2.1 r.2.2 m s) (fun q => ∃ a, r.1 = a ∧ q.1 = a ∧ InvA (t + 1) tr TS z kd R q.2.1 q.2.2 b4 b5 b6 b7 len sl)) := by
  have hI := h.1
  have hI' := hI
  obtain ⟨q1, q2, q3, q4, q5, q6, q7, q8, q9⟩ := hI
  obtain ⟨u1, u2, u3, u4, u5, u6, u7, u8, u9, u10, u11, u12, u13, u14, u15, u16, u17⟩ := q5
  obtain ⟨v1, v2, v3, v4, v5, v6, v7, v8, v9, v10, v11, v12, v13, v14, v15, v16, v17⟩ := q6
  simp only [Nat.reduceAdd] at v1 v2 v3 v4 v5 v6 v7
  refine Ev_2i (A := fun J' M' => InvA (t + 1) tr TS z kd R J' M' b4 b5 b6 b7 len sl) (B := fun J' => InvB (t + 1) tr z kd R J') (iv_skills (dp := dp) (M := M) (by omega) ht hI') (o_skills (dp := dp) (e := (z, kd, R)) (P := fun _ J' M' => InvB (t + 1) tr z kd R J' → InvA (t + 1) tr TS z kd R J' M' b4 b5 b6 b7 len sl) (by omega) (smO_Bs (by omega) q7) v8 u3 (fun h => v4 m h.1 h.2) (fun _ _ => InvA_rf (by omega) h) (fun _ _ _ => InvA_rf (by omega) h) (fun h1 h2 hB => ?_))
  have n : ∀ (a : Nat) (i : Int), ¬ (a = 5 ∧ i = m) → ¬ (a = 73 ∧ i = 15) → ¬ (a = 73 ∧ i = 16) → ¬ (a = 107 ∧ i = 70 + m) → ¬ (a = 0 ∧ i = 18) → ¬ (a = 105 ∧ i = 1) → ¬ (a = 105 ∧ i = 32) → ¬ (a = 105 ∧ i = 51) → okM (w2 (okC (fgC (w2 J 5 m s))) 107 (70 + m) s) a i = J a i := fun a i x0 x1 x2 x3 x4 x5 x6 x7 => by
    unfold okM okC fgC
    simp (disch := omega) only [w2_n]
  have e0 : okM (w2 (okC (fgC (w2 J 5 m s))) 107 (70 + m) s) 5 (m) = s := by
    unfold okM okC fgC
    simp (disch := omega) only [w2_n, w2_p]
  have e1 : okM (w2 (okC (fgC (w2 J 5 m s))) 107 (70 + m) s) 73 (15) = 1 := by
    unfold okM okC fgC
    simp (disch := omega) only [w2_n, w2_p]
  have e2 : okM (w2 (okC (fgC (w2 J 5 m s))) 107 (70 + m) s) 73 (16) = 1 := by
    unfold okM okC fgC
    simp (disch := omega) only [w2_n, w2_p]
  have e3 : okM (w2 (okC (fgC (w2 J 5 m s))) 107 (70 + m) s) 107 (70 + m) = s := by
    unfold okM okC fgC
    simp (disch := omega) only [w2_n, w2_p]
  have e4 : okM (w2 (okC (fgC (w2 J 5 m s))) 107 (70 + m) s) 0 (18) = 0 := by
    unfold okM okC fgC
    simp (disch := omega) only [w2_n, w2_p]
  have e5 : okM (w2 (okC (fgC (w2 J 5 m s))) 107 (70 + m) s) 105 (1) = 0 := by
    unfold okM okC fgC
    simp (disch := omega) only [w2_n, w2_p]
  have e6 : okM (w2 (okC (fgC (w2 J 5 m s))) 107 (70 + m) s) 105 (32) = 0 := by
    unfold okM okC fgC
    simp (disch := omega) only [w2_n, w2_p]
  have e7 : okM (w2 (okC (fgC (w2 J 5 m s))) 107 (70 + m) s) 105 (51) = 0 := by
    unfold okM okC fgC
    simp (disch := omega) only [w2_n, w2_p]
  generalize okM (w2 (okC (fgC (w2 J 5 m s))) 107 (70 + m) s) = J1 at hB n e0 e1 e2 e3 e4 e5 e6 e7 ⊢
  refine InvA_s h hB (fun a i x y w => n a i (fun s => by first | exact x (by unfold XS1; omega) | exact y (by omega) | exact w ⟨by omega, by unfold ySm; omega⟩) (fun s => by first | exact x (by unfold XS1; omega) | exact y (by omega) | exact w ⟨by omega, by unfold ySm; omega⟩) (fun s => by first | exact x (by unfold XS1; omega) | exact y (by omega) | exact w ⟨by omega, by unfold ySm; omega⟩) (fun s => by first | exact x (by unfold XS1; omega) | exact y (by omega) | exact w ⟨by omega, by unfold ySm; omega⟩) (fun s => by first | exact x (by unfold XS1; omega) | exact y (by omega) | exact w ⟨by omega, by unfold ySm; omega⟩) (fun s => by first | exact x (by unfold XS1; omega) | exact y (by omega) | exact w ⟨by omega, by unfold ySm; omega⟩) (fun s => by first | exact x (by unfold XS1; omega) | exact y (by omega) | exact w ⟨by omega, by unfold ySm; omega⟩) (fun s => by first | exact x (by unfold XS1; omega) | exact y (by omega) | exact w ⟨by omega, by unfold ySm; omega⟩)) (Or.inr ⟨e6, e7⟩) ?_ ?_ (fun _ => rfl)
  · exact CrI_1 ⟨e1, e2⟩
  · exact MxI_s h (fun a i x y => n a i (by omega) (by omega) (by omega) (by omega) (by omega) (by omega) (by omega) (by omega)) (fun i x => n 107 i (by omega) (by omega) (by omega) (by omega) (by omega) (by omega) (by omega) (by omega))
theorem ia_give {k c : Int} (hd : 30 ≤ dp) (ht : t < 512) (h : InvA t tr TS z kd R J M b4 b5 b6 b7 len sl) : Ev (fun n => kf_136 n dp (z, kd, R) 0 J M k c) (fun r => Ev (fun n => kf_278 n dp (z, kd, R) 0 r.2.1 r.2.2 k c) (fun q => ∃ a, r.1 = a ∧ q.1 = a ∧ InvA (t + 1) tr TS z kd R q.2.1 q.2.2 b4 b5 b6 b7 len sl)) := by
  have hI := h.1
  have hI' := hI
  obtain ⟨q1, q2, q3, q4, q5, q6, q7, q8, q9⟩ := hI
  obtain ⟨u1, u2, u3, u4, u5, u6, u7, u8, u9, u10, u11, u12, u13, u14, u15, u16, u17⟩ := q5
  obtain ⟨v1, v2, v3, v4, v5, v6, v7, v8, v9, v10, v11, v12, v13, v14, v15, v16, v17⟩ := q6
  simp only [Nat.reduceAdd] at v1 v2 v3 v4 v5 v6 v7
  refine Ev_2i (A := fun J' M' => InvA (t + 1) tr TS z kd R J' M' b4 b5 b6 b7 len sl) (B := fun J' => InvB (t + 1) tr z kd R J') (iv_give (dp := dp) (M := M) (by omega) ht hI') (o_give (dp := dp) (e := (z, kd, R)) (P := fun _ J' M' => InvB (t + 1) tr z kd R J' → InvA (t + 1) tr TS z kd R J' M' b4 b5 b6 b7 len sl) (by omega) (smO_Bs (by omega) q7) (fun h => v5 k h.1 h.2) (fun _ _ => InvA_rf (by omega) h) (fun h1 hB => ?_))
  have n : ∀ (a : Nat) (i : Int), ¬ (a = 6 ∧ i = k) → ¬ (a = 107 ∧ i = 74 + k) → ¬ (a = 0 ∧ i = 18) → ¬ (a = 105 ∧ i = 1) → ¬ (a = 105 ∧ i = 32) → ¬ (a = 105 ∧ i = 51) → okM (w2 (okC (w2 J 6 k c)) 107 (74 + k) c) a i = J a i := fun a i x0 x1 x2 x3 x4 x5 => by
    unfold okM okC
    simp (disch := omega) only [w2_n]
  have e0 : okM (w2 (okC (w2 J 6 k c)) 107 (74 + k) c) 6 (k) = c := by
    unfold okM okC
    simp (disch := omega) only [w2_n, w2_p]
  have e1 : okM (w2 (okC (w2 J 6 k c)) 107 (74 + k) c) 107 (74 + k) = c := by
    unfold okM okC
    simp (disch := omega) only [w2_n, w2_p]
  have e2 : okM (w2 (okC (w2 J 6 k c)) 107 (74 + k) c) 0 (18) = 0 := by
    unfold okM okC
    simp (disch := omega) only [w2_n, w2_p]
  have e3 : okM (w2 (okC (w2 J 6 k c)) 107 (74 + k) c) 105 (1) = 0 := by
    unfold okM okC
    simp (disch := omega) only [w2_n, w2_p]
  have e4 : okM (w2 (okC (w2 J 6 k c)) 107 (74 + k) c) 105 (32) = 0 := by
    unfold okM okC
    simp (disch := omega) only [w2_n, w2_p]
  have e5 : okM (w2 (okC (w2 J 6 k c)) 107 (74 + k) c) 105 (51) = 0 := by
    unfold okM okC
    simp (disch := omega) only [w2_n, w2_p]
  generalize okM (w2 (okC (w2 J 6 k c)) 107 (74 + k) c) = J1 at hB n e0 e1 e2 e3 e4 e5 ⊢
  refine InvA_s h hB (fun a i x y w => n a i (fun s => by first | exact x (by unfold XS1; omega) | exact y (by omega) | exact w ⟨by omega, by unfold ySm; omega⟩) (fun s => by first | exact x (by unfold XS1; omega) | exact y (by omega) | exact w ⟨by omega, by unfold ySm; omega⟩) (fun s => by first | exact x (by unfold XS1; omega) | exact y (by omega) | exact w ⟨by omega, by unfold ySm; omega⟩) (fun s => by first | exact x (by unfold XS1; omega) | exact y (by omega) | exact w ⟨by omega, by unfold ySm; omega⟩) (fun s => by first | exact x (by unfold XS1; omega) | exact y (by omega) | exact w ⟨by omega, by unfold ySm; omega⟩) (fun s => by first | exact x (by unfold XS1; omega) | exact y (by omega) | exact w ⟨by omega, by unfold ySm; omega⟩)) (Or.inr ⟨e4, e5⟩) ?_ ?_ (fun _ => rfl)
  · exact CrI_s h (fun a i x y => n a i (by omega) (by omega) (by omega) (by omega) (by omega) (by omega)) (fun i x => n 107 i (by omega) (by omega) (by omega) (by omega) (by omega) (by omega))
  · exact MxI_s h (fun a i x y => n a i (by omega) (by omega) (by omega) (by omega) (by omega) (by omega)) (fun i x => n 107 i (by omega) (by omega) (by omega) (by omega) (by omega) (by omega))
theorem ia_again {b : Int} (hd : 30 ≤ dp) (ht : t < 512) (h : InvA t tr TS z kd R J M b4 b5 b6 b7 len sl) : Ev (fun n => kf_172 n dp (z, kd, R) 0 J M b) (fun r => Ev (fun n => kf_297 n dp (z, kd, R) 0 r.2.1 r.2.2 b) (fun q => ∃ a, r.1 = a ∧ q.1 = a ∧ InvA (t + 1) tr TS z kd R q.2.1 q.2.2 b4 b5 b6 b7 len sl)) := by
  have hI := h.1
  have hI' := hI
  obtain ⟨q1, q2, q3, q4, q5, q6, q7, q8, q9⟩ := hI
  obtain ⟨u1, u2, u3, u4, u5, u6, u7, u8, u9, u10, u11, u12, u13, u14, u15, u16, u17⟩ := q5
  obtain ⟨v1, v2, v3, v4, v5, v6, v7, v8, v9, v10, v11, v12, v13, v14, v15, v16, v17⟩ := q6
  simp only [Nat.reduceAdd] at v1 v2 v3 v4 v5 v6 v7
  refine Ev_2i (A := fun J' M' => InvA (t + 1) tr TS z kd R J' M' b4 b5 b6 b7 len sl) (B := fun J' => InvB (t + 1) tr z kd R J') (iv_again (dp := dp) (M := M) (by omega) ht hI') (o_again (dp := dp) (e := (z, kd, R)) (P := fun _ J' M' => InvB (t + 1) tr z kd R J' → InvA (t + 1) tr TS z kd R J' M' b4 b5 b6 b7 len sl) (by omega) (smO_Bs (by omega) q7) v9 u6 (fun h => ?_) (fun _ _ => InvA_rf (by omega) h) (fun _ _ _ => InvA_rf (by omega) h) (fun h1 h2 hB => ?_))
  · rw [v6 _ (by omega) (by omega)]; congr 1; omega
  have n : ∀ (a : Nat) (i : Int), ¬ (a = 7 ∧ i = b * 7 + 6) → ¬ (a = 81 ∧ i = 11) → ¬ (a = 107 ∧ i = 90 + 7 * b + 6) → ¬ (a = 0 ∧ i = 18) → ¬ (a = 105 ∧ i = 1) → ¬ (a = 105 ∧ i = 32) → ¬ (a = 105 ∧ i = 51) → okM (w2 (okC (w2 (w2 J 7 (b * 7 + 6) 1) 81 11 1)) 107 (90 + 7 * b + 6) 1) a i = J a i := fun a i x0 x1 x2 x3 x4 x5 x6 => by
    unfold okM okC
    simp (disch := omega) only [w2_n]
  have e0 : okM (w2 (okC (w2 (w2 J 7 (b * 7 + 6) 1) 81 11 1)) 107 (90 + 7 * b + 6) 1) 7 (b * 7 + 6) = 1 := by
    unfold okM okC
    simp (disch := omega) only [w2_n, w2_p]
  have e1 : okM (w2 (okC (w2 (w2 J 7 (b * 7 + 6) 1) 81 11 1)) 107 (90 + 7 * b + 6) 1) 81 (11) = 1 := by
    unfold okM okC
    simp (disch := omega) only [w2_n, w2_p]
  have e2 : okM (w2 (okC (w2 (w2 J 7 (b * 7 + 6) 1) 81 11 1)) 107 (90 + 7 * b + 6) 1) 107 (90 + 7 * b + 6) = 1 := by
    unfold okM okC
    simp (disch := omega) only [w2_n, w2_p]
  have e3 : okM (w2 (okC (w2 (w2 J 7 (b * 7 + 6) 1) 81 11 1)) 107 (90 + 7 * b + 6) 1) 0 (18) = 0 := by
    unfold okM okC
    simp (disch := omega) only [w2_n, w2_p]
  have e4 : okM (w2 (okC (w2 (w2 J 7 (b * 7 + 6) 1) 81 11 1)) 107 (90 + 7 * b + 6) 1) 105 (1) = 0 := by
    unfold okM okC
    simp (disch := omega) only [w2_n, w2_p]
  have e5 : okM (w2 (okC (w2 (w2 J 7 (b * 7 + 6) 1) 81 11 1)) 107 (90 + 7 * b + 6) 1) 105 (32) = 0 := by
    unfold okM okC
    simp (disch := omega) only [w2_n, w2_p]
  have e6 : okM (w2 (okC (w2 (w2 J 7 (b * 7 + 6) 1) 81 11 1)) 107 (90 + 7 * b + 6) 1) 105 (51) = 0 := by
    unfold okM okC
    simp (disch := omega) only [w2_n, w2_p]
  generalize okM (w2 (okC (w2 (w2 J 7 (b * 7 + 6) 1) 81 11 1)) 107 (90 + 7 * b + 6) 1) = J1 at hB n e0 e1 e2 e3 e4 e5 e6 ⊢
  refine InvA_s h hB (fun a i x y w => n a i (fun s => by first | exact x (by unfold XS1; omega) | exact y (by omega) | exact w ⟨by omega, by unfold ySm; omega⟩) (fun s => by first | exact x (by unfold XS1; omega) | exact y (by omega) | exact w ⟨by omega, by unfold ySm; omega⟩) (fun s => by first | exact x (by unfold XS1; omega) | exact y (by omega) | exact w ⟨by omega, by unfold ySm; omega⟩) (fun s => by first | exact x (by unfold XS1; omega) | exact y (by omega) | exact w ⟨by omega, by unfold ySm; omega⟩) (fun s => by first | exact x (by unfold XS1; omega) | exact y (by omega) | exact w ⟨by omega, by unfold ySm; omega⟩) (fun s => by first | exact x (by unfold XS1; omega) | exact y (by omega) | exact w ⟨by omega, by unfold ySm; omega⟩) (fun s => by first | exact x (by unfold XS1; omega) | exact y (by omega) | exact w ⟨by omega, by unfold ySm; omega⟩)) (Or.inr ⟨e5, e6⟩) ?_ ?_ (fun _ => rfl)
  · exact CrI_s h (fun a i x y => n a i (by omega) (by omega) (by omega) (by omega) (by omega) (by omega) (by omega)) (fun i x => n 107 i (by omega) (by omega) (by omega) (by omega) (by omega) (by omega) (by omega))
  · exact MxI_1 e1
end OPA
