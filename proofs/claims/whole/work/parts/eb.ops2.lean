/-! THE INVARIANT: calls that change the hall -/
section OPB
variable {dp t tr : Nat} {TS : Nat → Prop} {z : Nat} {kd : KD} {R : RF} {J J1 M : JI} {b4 b5 b6 b7 len sl : Nat}
theorem smO_k (hs : smO t J) (n : ∀ a i, (a = 0 ∧ (i = 13 ∨ (15 ≤ i ∧ i ≤ 17))) ∨ (a = 105 ∧ (i = 0 ∨ i = 7 ∨ i = 12 ∨ i = 63 ∨ i = 67)) ∨ a = 89 ∨ a = 91 ∨ a = 92 ∨ a = 106 ∨ a = 110 ∨ a = 142 → J1 a i = J a i) (z18 : J1 0 18 = 0) (z1 : J1 105 1 = 0) (z32 : J1 105 32 = 0) (z51 : J1 105 51 = 0) (h12 : 0 ≤ J1 24 12 ∧ J1 24 12 ≤ J 24 12 + 1) : smO (t + 1) J1 := by
  have hs' := hs
  obtain ⟨s1, s2, s3, s4, s5, s6, s7, s8, s9, s10, s11, s12, s13, s14, s15, s16⟩ := hs'
  exact smO_wk hs (fun a i x => n a i (by omega)) (Or.inl z32) (Or.inl z51) (by rw [z18, z1]) (by rw [n _ _ (by omega), n _ _ (by omega)]; exact s13) (fun i a b => by rw [n _ _ (by omega), n _ _ (by omega)]; exact s15 i a b) (fun j i x => Or.inl ⟨n _ _ (by omega), n _ _ (by omega)⟩) h12
theorem hlC_g {ρ ρ' : Int → Int} (h : hlC J 1 tr ρ) (c2 : ∀ c, 0 ≤ c → c < 3 → J1 2 c = ρ' c) (c3 : ∀ i, 0 ≤ i → i < 30 → J1 3 i = ρ' (10 + i)) (c4 : ∀ i, 0 ≤ i → i < 30 → J1 4 i = ρ' (40 + i)) (c5 : ∀ i, 0 ≤ i → i < 4 → J1 5 i = ρ' (70 + i)) (c6 : ∀ i, 0 ≤ i → i < 8 → J1 6 i = ρ' (74 + i)) (c7 : ∀ i, 0 ≤ i → i < 112 → J1 7 i = ρ' (90 + i)) (c8 : ∀ i, 0 ≤ i → i < ρ' 7 → J1 8 i = ρ' (202 + 2 * i) - ρ' (202 + 2 * i + 1)) (d : J1 1 8 = ρ' 3 ∧ J1 1 9 = ρ' 6 ∧ J1 1 10 = ρ' 7 ∧ J1 1 11 = ρ' 4 ∧ J1 1 12 = ρ' 5) (hT : ∀ a i, tr ≤ a → a ≤ tr + 10 → J1 a i = J a i) (h9 : ∀ i, (i = 8 ∨ i = 9 ∨ 290 ≤ i) → ρ' i = ρ i) : hlC J1 1 tr ρ' := by
  obtain ⟨v1, v2, v3, v4, v5, v6, v7, v8, v9, v10, v11, v12, v13, v14, v15, v16, v17⟩ := h
  have r8 := h9 8 (by omega)
  have r9 := h9 9 (by omega)
  refine ⟨c2, c3, c4, c5, c6, c7, c8, d.1, d.2.1, d.2.2.1, d.2.2.2.1, d.2.2.2.2, by rw [hT _ _ (by omega) (by omega), r8]; exact v13, by rw [hT _ _ (by omega) (by omega), r9]; exact v14, fun w a b => ?_, fun w p a b x y => ?_, by rw [hT _ _ (by omega) (by omega)]; exact v17⟩
  · rw [r9] at b
    rw [hT _ _ (by omega) (by omega), h9 _ (by omega)]; exact v15 w a b
  · rw [r9] at b
    rw [hT _ _ (by omega) (by omega), h9 _ (by omega)]; exact v16 w p a b x y
theorem ia_man {s : Int} (hd : 30 ≤ dp) (ht : t < 512) (h : InvA t tr TS z kd R J M b4 b5 b6 b7 len sl) : Ev (fun n => kf_26 n dp (z, kd, R) 0 J M s) (fun r => Ev (fun n => kf_205 n dp (z, kd, R) 0 r.2.1 r.2.2 s) (fun q => ∃ a, r.1 = a ∧ q.1 = a ∧ InvA (t + 1) tr TS z kd R q.2.1 q.2.2 b4 b5 b6 b7 len sl)) := by
  have hI := h.1
  have hI' := hI
  obtain ⟨q1, q2, q3, q4, q5, q6, q7, q8, q9⟩ := hI
  obtain ⟨u1, u2, u3, u4, u5, u6, u7, u8, u9, u10, u11, u12, u13, u14, u15, u16, u17⟩ := q5
  obtain ⟨v1, v2, v3, v4, v5, v6, v7, v8, v9, v10, v11, v12, v13, v14, v15, v16, v17⟩ := q6
  simp only [Nat.reduceAdd] at v1 v2 v3 v4 v5 v6 v7
  have s16 := q7.2.2.2.2.2.2.2.2.2.2.2.2.2.2.2
  refine o_man (P := fun _ J' M' => InvA (t + 1) tr TS z kd R J' M' b4 b5 b6 b7 len sl) (by omega) (smO_Bs (by omega) q7) v8 u3 (fun _ => InvA_rf (by omega) h) (fun _ _ => InvA_rf (by omega) h) (fun h1 h2 => ?_)
  have n : ∀ (a : Nat) (i : Int), ¬ (a = 5 ∧ i = J 1 8) → ¬ (a = 1 ∧ i = 8) → ¬ (a = 73 ∧ i = 15) → ¬ (a = 73 ∧ i = 16) → ¬ (a = 107 ∧ i = 70 + J 107 3) → ¬ (a = 107 ∧ i = 3) → ¬ (a = 0 ∧ i = 18) → ¬ (a = 105 ∧ i = 1) → ¬ (a = 105 ∧ i = 32) → ¬ (a = 105 ∧ i = 51) → okM (w2 (w2 (okC (fgC (w2 (w2 J 5 (J 1 8) s) 1 8 (J 1 8 + 1)))) 107 (70 + J 107 3) s) 107 3 (J 107 3 + 1)) a i = J a i := fun a i x0 x1 x2 x3 x4 x5 x6 x7 x8 x9 => by
    unfold okM okC fgC
    simp (disch := omega) only [w2_n]
  have e0 : okM (w2 (w2 (okC (fgC (w2 (w2 J 5 (J 1 8) s) 1 8 (J 1 8 + 1)))) 107 (70 + J 107 3) s) 107 3 (J 107 3 + 1)) 5 (J 1 8) = s := by
    unfold okM okC fgC
    simp (disch := omega) only [w2_n, w2_p]
  have e1 : okM (w2 (w2 (okC (fgC (w2 (w2 J 5 (J 1 8) s) 1 8 (J 1 8 + 1)))) 107 (70 + J 107 3) s) 107 3 (J 107 3 + 1)) 1 (8) = J 1 8 + 1 := by
    unfold okM okC fgC
    simp (disch := omega) only [w2_n, w2_p]
  have e2 : okM (w2 (w2 (okC (fgC (w2 (w2 J 5 (J 1 8) s) 1 8 (J 1 8 + 1)))) 107 (70 + J 107 3) s) 107 3 (J 107 3 + 1)) 73 (15) = 1 := by
    unfold okM okC fgC
    simp (disch := omega) only [w2_n, w2_p]
  have e3 : okM (w2 (w2 (okC (fgC (w2 (w2 J 5 (J 1 8) s) 1 8 (J 1 8 + 1)))) 107 (70 + J 107 3) s) 107 3 (J 107 3 + 1)) 73 (16) = 1 := by
    unfold okM okC fgC
    simp (disch := omega) only [w2_n, w2_p]
  have e4 : okM (w2 (w2 (okC (fgC (w2 (w2 J 5 (J 1 8) s) 1 8 (J 1 8 + 1)))) 107 (70 + J 107 3) s) 107 3 (J 107 3 + 1)) 107 (70 + J 107 3) = s := by
    unfold okM okC fgC
    simp (disch := omega) only [w2_n, w2_p]
  have e5 : okM (w2 (w2 (okC (fgC (w2 (w2 J 5 (J 1 8) s) 1 8 (J 1 8 + 1)))) 107 (70 + J 107 3) s) 107 3 (J 107 3 + 1)) 107 (3) = J 107 3 + 1 := by
    unfold okM okC fgC
    simp (disch := omega) only [w2_n, w2_p]
  have e6 : okM (w2 (w2 (okC (fgC (w2 (w2 J 5 (J 1 8) s) 1 8 (J 1 8 + 1)))) 107 (70 + J 107 3) s) 107 3 (J 107 3 + 1)) 0 (18) = 0 := by
    unfold okM okC fgC
    simp (disch := omega) only [w2_n, w2_p]
  have e7 : okM (w2 (w2 (okC (fgC (w2 (w2 J 5 (J 1 8) s) 1 8 (J 1 8 + 1)))) 107 (70 + J 107 3) s) 107 3 (J 107 3 + 1)) 105 (1) = 0 := by
    unfold okM okC fgC
    simp (disch := omega) only [w2_n, w2_p]
  have e8 : okM (w2 (w2 (okC (fgC (w2 (w2 J 5 (J 1 8) s) 1 8 (J 1 8 + 1)))) 107 (70 + J 107 3) s) 107 3 (J 107 3 + 1)) 105 (32) = 0 := by
    unfold okM okC fgC
    simp (disch := omega) only [w2_n, w2_p]
  have e9 : okM (w2 (w2 (okC (fgC (w2 (w2 J 5 (J 1 8) s) 1 8 (J 1 8 + 1)))) 107 (70 + J 107 3) s) 107 3 (J 107 3 + 1)) 105 (51) = 0 := by
    unfold okM okC fgC
    simp (disch := omega) only [w2_n, w2_p]
  generalize okM (w2 (w2 (okC (fgC (w2 (w2 J 5 (J 1 8) s) 1 8 (J 1 8 + 1)))) 107 (70 + J 107 3) s) 107 3 (J 107 3 + 1)) = J1 at n e0 e1 e2 e3 e4 e5 e6 e7 e8 e9 ⊢
  have hB : InvB (t + 1) tr z kd R J1 := by
    refine InvB_hall hI' (fun j => n _ _ (by omega) (by omega) (by omega) (by omega) (by omega) (by omega) (by omega) (by omega) (by omega) (by omega)) (fun j => n _ _ (by omega) (by omega) (by omega) (by omega) (by omega) (by omega) (by omega) (by omega) (by omega) (by omega)) (fun a ha j => n _ _ (by omega) (by omega) (by omega) (by omega) (by omega) (by omega) (by omega) (by omega) (by omega) (by omega)) ?_ ?_ (smO_k q7 (fun a i x => n a i (by omega) (by omega) (by omega) (by omega) (by omega) (by omega) (by omega) (by omega) (by omega) (by omega)) e6 e7 e8 e9 (by rw [n 24 12 (by omega) (by omega) (by omega) (by omega) (by omega) (by omega) (by omega) (by omega) (by omega) (by omega)]; omega))
    · refine rwO_g hI'.2.2.2.2.1 (fun i a b => n 107 i (by omega) (by omega) (by omega) (by omega) (by omega) (by omega) (by omega) (by omega) (by omega) (by omega)) (by rw [e5]; omega) (by rw [n 107 _ (by omega) (by omega) (by omega) (by omega) (by omega) (by omega) (by omega) (by omega) (by omega) (by omega)]; exact u4) (by rw [n 107 _ (by omega) (by omega) (by omega) (by omega) (by omega) (by omega) (by omega) (by omega) (by omega) (by omega)]; exact u5) (by rw [n 107 _ (by omega) (by omega) (by omega) (by omega) (by omega) (by omega) (by omega) (by omega) (by omega) (by omega)]; exact u6) (by rw [n 107 _ (by omega) (by omega) (by omega) (by omega) (by omega) (by omega) (by omega) (by omega) (by omega) (by omega)]; exact u7) (⟨n 107 _ (by omega) (by omega) (by omega) (by omega) (by omega) (by omega) (by omega) (by omega) (by omega) (by omega), n 107 _ (by omega) (by omega) (by omega) (by omega) (by omega) (by omega) (by omega) (by omega) (by omega) (by omega)⟩) (fun i a b => by rw [n 107 _ (by omega) (by omega) (by omega) (by omega) (by omega) (by omega) (by omega) (by omega) (by omega) (by omega)]; exact u10 i a b) (fun i a b => n 107 i (by omega) (by omega) (by omega) (by omega) (by omega) (by omega) (by omega) (by omega) (by omega) (by omega)) (fun i a b => by
        by_cases q : i = 70 + J 107 3
        · rw [q, e4]; omega
        · rw [n 107 _ (by omega) (by omega) (by omega) (by omega) (by omega) (by omega) (by omega) (by omega) (by omega) (by omega)]; exact u14 i a b) (fun i a b => n 107 i (by omega) (by omega) (by omega) (by omega) (by omega) (by omega) (by omega) (by omega) (by omega) (by omega)) (fun b a x => by rw [n 107 6 (by omega) (by omega) (by omega) (by omega) (by omega) (by omega) (by omega) (by omega) (by omega) (by omega)] at x; rw [n 107 _ (by omega) (by omega) (by omega) (by omega) (by omega) (by omega) (by omega) (by omega) (by omega) (by omega), n 107 _ (by omega) (by omega) (by omega) (by omega) (by omega) (by omega) (by omega) (by omega) (by omega) (by omega), n 107 _ (by omega) (by omega) (by omega) (by omega) (by omega) (by omega) (by omega) (by omega) (by omega) (by omega), n 107 _ (by omega) (by omega) (by omega) (by omega) (by omega) (by omega) (by omega) (by omega) (by omega) (by omega), n 107 _ (by omega) (by omega) (by omega) (by omega) (by omega) (by omega) (by omega) (by omega) (by omega) (by omega), n 107 _ (by omega) (by omega) (by omega) (by omega) (by omega) (by omega) (by omega) (by omega) (by omega) (by omega), n 107 _ (by omega) (by omega) (by omega) (by omega) (by omega) (by omega) (by omega) (by omega) (by omega) (by omega)]; exact u16 b a x) (fun i a x => by rw [n 107 7 (by omega) (by omega) (by omega) (by omega) (by omega) (by omega) (by omega) (by omega) (by omega) (by omega)] at x; rw [n 107 _ (by omega) (by omega) (by omega) (by omega) (by omega) (by omega) (by omega) (by omega) (by omega) (by omega), n 107 _ (by omega) (by omega) (by omega) (by omega) (by omega) (by omega) (by omega) (by omega) (by omega) (by omega)]; exact u17 i a x)
    · refine hlC_g hI'.2.2.2.2.2.1 (fun c a b => by rw [n 2 _ (by omega) (by omega) (by omega) (by omega) (by omega) (by omega) (by omega) (by omega) (by omega) (by omega), n 107 _ (by omega) (by omega) (by omega) (by omega) (by omega) (by omega) (by omega) (by omega) (by omega) (by omega)]; exact v1 c a b) (fun i a b => by rw [n 3 _ (by omega) (by omega) (by omega) (by omega) (by omega) (by omega) (by omega) (by omega) (by omega) (by omega), n 107 _ (by omega) (by omega) (by omega) (by omega) (by omega) (by omega) (by omega) (by omega) (by omega) (by omega)]; exact v2 i a b) (fun i a b => by rw [n 4 _ (by omega) (by omega) (by omega) (by omega) (by omega) (by omega) (by omega) (by omega) (by omega) (by omega), n 107 _ (by omega) (by omega) (by omega) (by omega) (by omega) (by omega) (by omega) (by omega) (by omega) (by omega)]; exact v3 i a b) (fun i a b => by
        by_cases q : i = J 1 8
        · rw [q, e0, v8, e4]
        · rw [n 5 _ (by omega) (by omega) (by omega) (by omega) (by omega) (by omega) (by omega) (by omega) (by omega) (by omega), n 107 _ (by omega) (by omega) (by omega) (by omega) (by omega) (by omega) (by omega) (by omega) (by omega) (by omega)]; exact v4 i a b) (fun i a b => by rw [n 6 _ (by omega) (by omega) (by omega) (by omega) (by omega) (by omega) (by omega) (by omega) (by omega) (by omega), n 107 _ (by omega) (by omega) (by omega) (by omega) (by omega) (by omega) (by omega) (by omega) (by omega) (by omega)]; exact v5 i a b) (fun i a b => by rw [n 7 _ (by omega) (by omega) (by omega) (by omega) (by omega) (by omega) (by omega) (by omega) (by omega) (by omega), n 107 _ (by omega) (by omega) (by omega) (by omega) (by omega) (by omega) (by omega) (by omega) (by omega) (by omega)]; exact v6 i a b) (fun i a b => by rw [n 107 7 (by omega) (by omega) (by omega) (by omega) (by omega) (by omega) (by omega) (by omega) (by omega) (by omega)] at b; rw [n 8 _ (by omega) (by omega) (by omega) (by omega) (by omega) (by omega) (by omega) (by omega) (by omega) (by omega), n 107 _ (by omega) (by omega) (by omega) (by omega) (by omega) (by omega) (by omega) (by omega) (by omega) (by omega), n 107 _ (by omega) (by omega) (by omega) (by omega) (by omega) (by omega) (by omega) (by omega) (by omega) (by omega)]; exact v7 i a b) ⟨by rw [e1, e5, v8], by rw [n 1 9 (by omega) (by omega) (by omega) (by omega) (by omega) (by omega) (by omega) (by omega) (by omega) (by omega), n 107 6 (by omega) (by omega) (by omega) (by omega) (by omega) (by omega) (by omega) (by omega) (by omega) (by omega)]; exact v9, by rw [n 1 10 (by omega) (by omega) (by omega) (by omega) (by omega) (by omega) (by omega) (by omega) (by omega) (by omega), n 107 7 (by omega) (by omega) (by omega) (by omega) (by omega) (by omega) (by omega) (by omega) (by omega) (by omega)]; exact v10, by rw [n 1 11 (by omega) (by omega) (by omega) (by omega) (by omega) (by omega) (by omega) (by omega) (by omega) (by omega), n 107 4 (by omega) (by omega) (by omega) (by omega) (by omega) (by omega) (by omega) (by omega) (by omega) (by omega)]; exact v11, by rw [n 1 12 (by omega) (by omega) (by omega) (by omega) (by omega) (by omega) (by omega) (by omega) (by omega) (by omega), n 107 5 (by omega) (by omega) (by omega) (by omega) (by omega) (by omega) (by omega) (by omega) (by omega) (by omega)]; exact v12⟩ (fun a i x y => n a i (by omega) (by omega) (by omega) (by omega) (by omega) (by omega) (by omega) (by omega) (by omega) (by omega)) (fun i x => n 107 i (by omega) (by omega) (by omega) (by omega) (by omega) (by omega) (by omega) (by omega) (by omega) (by omega))
  refine InvA_s h hB (fun a i x y w => n a i (fun s => by first | exact x (by unfold XS1; omega) | exact y (by omega) | exact w ⟨by omega, by unfold ySm; omega⟩) (fun s => by first | exact x (by unfold XS1; omega) | exact y (by omega) | exact w ⟨by omega, by unfold ySm; omega⟩) (fun s => by first | exact x (by unfold XS1; omega) | exact y (by omega) | exact w ⟨by omega, by unfold ySm; omega⟩) (fun s => by first | exact x (by unfold XS1; omega) | exact y (by omega) | exact w ⟨by omega, by unfold ySm; omega⟩) (fun s => by first | exact x (by unfold XS1; omega) | exact y (by omega) | exact w ⟨by omega, by unfold ySm; omega⟩) (fun s => by first | exact x (by unfold XS1; omega) | exact y (by omega) | exact w ⟨by omega, by unfold ySm; omega⟩) (fun s => by first | exact x (by unfold XS1; omega) | exact y (by omega) | exact w ⟨by omega, by unfold ySm; omega⟩) (fun s => by first | exact x (by unfold XS1; omega) | exact y (by omega) | exact w ⟨by omega, by unfold ySm; omega⟩) (fun s => by first | exact x (by unfold XS1; omega) | exact y (by omega) | exact w ⟨by omega, by unfold ySm; omega⟩) (fun s => by first | exact x (by unfold XS1; omega) | exact y (by omega) | exact w ⟨by omega, by unfold ySm; omega⟩)) (Or.inr ⟨e8, e9⟩) ?_ ?_ (fun _ => rfl)
  · exact CrI_1 ⟨e2, e3⟩
  · exact MxI_s h (fun a i x y => n a i (by omega) (by omega) (by omega) (by omega) (by omega) (by omega) (by omega) (by omega) (by omega) (by omega)) (fun i x => n 107 i (by omega) (by omega) (by omega) (by omega) (by omega) (by omega) (by omega) (by omega) (by omega) (by omega))
theorem ia_yields {x g : Int} (hd : 30 ≤ dp) (ht : t < 512) (h : InvA t tr TS z kd R J M b4 b5 b6 b7 len sl) : Ev (fun n => kf_179 n dp (z, kd, R) 0 J M x g) (fun r => Ev (fun n => kf_300 n dp (z, kd, R) 0 r.2.1 r.2.2 x g) (fun q => ∃ a, r.1 = a ∧ q.1 = a ∧ InvA (t + 1) tr TS z kd R q.2.1 q.2.2 b4 b5 b6 b7 len sl)) := by
  have hI := h.1
  have hI' := hI
  obtain ⟨q1, q2, q3, q4, q5, q6, q7, q8, q9⟩ := hI
  obtain ⟨u1, u2, u3, u4, u5, u6, u7, u8, u9, u10, u11, u12, u13, u14, u15, u16, u17⟩ := q5
  obtain ⟨v1, v2, v3, v4, v5, v6, v7, v8, v9, v10, v11, v12, v13, v14, v15, v16, v17⟩ := q6
  simp only [Nat.reduceAdd] at v1 v2 v3 v4 v5 v6 v7
  have s16 := q7.2.2.2.2.2.2.2.2.2.2.2.2.2.2.2
  refine o_yields (P := fun _ J' M' => InvA (t + 1) tr TS z kd R J' M' b4 b5 b6 b7 len sl) (by omega) (smO_Bs (by omega) q7) v10 u7 (fun _ => InvA_rf (by omega) h) (fun _ _ => InvA_rf (by omega) h) (fun h1 h2 => ?_)
  have n : ∀ (a : Nat) (i : Int), ¬ (a = 8 ∧ i = J 1 10) → ¬ (a = 1 ∧ i = 10) → ¬ (a = 107 ∧ i = 202 + 2 * J 107 7) → ¬ (a = 107 ∧ i = 202 + 2 * J 107 7 + 1) → ¬ (a = 107 ∧ i = 7) → ¬ (a = 0 ∧ i = 18) → ¬ (a = 105 ∧ i = 1) → ¬ (a = 105 ∧ i = 32) → ¬ (a = 105 ∧ i = 51) → okM (w2 (w2 (w2 (okC (w2 (w2 J 8 (J 1 10) (x - g)) 1 10 (J 1 10 + 1))) 107 (202 + 2 * J 107 7) x) 107 (202 + 2 * J 107 7 + 1) g) 107 7 (J 107 7 + 1)) a i = J a i := fun a i x0 x1 x2 x3 x4 x5 x6 x7 x8 => by
    unfold okM okC
    simp (disch := omega) only [w2_n]
  have e0 : okM (w2 (w2 (w2 (okC (w2 (w2 J 8 (J 1 10) (x - g)) 1 10 (J 1 10 + 1))) 107 (202 + 2 * J 107 7) x) 107 (202 + 2 * J 107 7 + 1) g) 107 7 (J 107 7 + 1)) 8 (J 1 10) = x - g := by
    unfold okM okC
    simp (disch := omega) only [w2_n, w2_p]
  have e1 : okM (w2 (w2 (w2 (okC (w2 (w2 J 8 (J 1 10) (x - g)) 1 10 (J 1 10 + 1))) 107 (202 + 2 * J 107 7) x) 107 (202 + 2 * J 107 7 + 1) g) 107 7 (J 107 7 + 1)) 1 (10) = J 1 10 + 1 := by
    unfold okM okC
    simp (disch := omega) only [w2_n, w2_p]
  have e2 : okM (w2 (w2 (w2 (okC (w2 (w2 J 8 (J 1 10) (x - g)) 1 10 (J 1 10 + 1))) 107 (202 + 2 * J 107 7) x) 107 (202 + 2 * J 107 7 + 1) g) 107 7 (J 107 7 + 1)) 107 (202 + 2 * J 107 7) = x := by
    unfold okM okC
    simp (disch := omega) only [w2_n, w2_p]
  have e3 : okM (w2 (w2 (w2 (okC (w2 (w2 J 8 (J 1 10) (x - g)) 1 10 (J 1 10 + 1))) 107 (202 + 2 * J 107 7) x) 107 (202 + 2 * J 107 7 + 1) g) 107 7 (J 107 7 + 1)) 107 (202 + 2 * J 107 7 + 1) = g := by
    unfold okM okC
    simp (disch := omega) only [w2_n, w2_p]
  have e4 : okM (w2 (w2 (w2 (okC (w2 (w2 J 8 (J 1 10) (x - g)) 1 10 (J 1 10 + 1))) 107 (202 + 2 * J 107 7) x) 107 (202 + 2 * J 107 7 + 1) g) 107 7 (J 107 7 + 1)) 107 (7) = J 107 7 + 1 := by
    unfold okM okC
    simp (disch := omega) only [w2_n, w2_p]
  have e5 : okM (w2 (w2 (w2 (okC (w2 (w2 J 8 (J 1 10) (x - g)) 1 10 (J 1 10 + 1))) 107 (202 + 2 * J 107 7) x) 107 (202 + 2 * J 107 7 + 1) g) 107 7 (J 107 7 + 1)) 0 (18) = 0 := by
    unfold okM okC
    simp (disch := omega) only [w2_n, w2_p]
  have e6 : okM (w2 (w2 (w2 (okC (w2 (w2 J 8 (J 1 10) (x - g)) 1 10 (J 1 10 + 1))) 107 (202 + 2 * J 107 7) x) 107 (202 + 2 * J 107 7 + 1) g) 107 7 (J 107 7 + 1)) 105 (1) = 0 := by
    unfold okM okC
    simp (disch := omega) only [w2_n, w2_p]
  have e7 : okM (w2 (w2 (w2 (okC (w2 (w2 J 8 (J 1 10) (x - g)) 1 10 (J 1 10 + 1))) 107 (202 + 2 * J 107 7) x) 107 (202 + 2 * J 107 7 + 1) g) 107 7 (J 107 7 + 1)) 105 (32) = 0 := by
    unfold okM okC
    simp (disch := omega) only [w2_n, w2_p]
  have e8 : okM (w2 (w2 (w2 (okC (w2 (w2 J 8 (J 1 10) (x - g)) 1 10 (J 1 10 + 1))) 107 (202 + 2 * J 107 7) x) 107 (202 + 2 * J 107 7 + 1) g) 107 7 (J 107 7 + 1)) 105 (51) = 0 := by
    unfold okM okC
    simp (disch := omega) only [w2_n, w2_p]
  generalize okM (w2 (w2 (w2 (okC (w2 (w2 J 8 (J 1 10) (x - g)) 1 10 (J 1 10 + 1))) 107 (202 + 2 * J 107 7) x) 107 (202 + 2 * J 107 7 + 1) g) 107 7 (J 107 7 + 1)) = J1 at n e0 e1 e2 e3 e4 e5 e6 e7 e8 ⊢
  have hB : InvB (t + 1) tr z kd R J1 := by
    refine InvB_hall hI' (fun j => n _ _ (by omega) (by omega) (by omega) (by omega) (by omega) (by omega) (by omega) (by omega) (by omega)) (fun j => n _ _ (by omega) (by omega) (by omega) (by omega) (by omega) (by omega) (by omega) (by omega) (by omega)) (fun a ha j => n _ _ (by omega) (by omega) (by omega) (by omega) (by omega) (by omega) (by omega) (by omega) (by omega)) ?_ ?_ (smO_k q7 (fun a i x => n a i (by omega) (by omega) (by omega) (by omega) (by omega) (by omega) (by omega) (by omega) (by omega)) e5 e6 e7 e8 (by rw [n 24 12 (by omega) (by omega) (by omega) (by omega) (by omega) (by omega) (by omega) (by omega) (by omega)]; omega))
    · refine rwO_g hI'.2.2.2.2.1 (fun i a b => n 107 i (by omega) (by omega) (by omega) (by omega) (by omega) (by omega) (by omega) (by omega) (by omega)) (by rw [n 107 _ (by omega) (by omega) (by omega) (by omega) (by omega) (by omega) (by omega) (by omega) (by omega)]; exact u3) (by rw [n 107 _ (by omega) (by omega) (by omega) (by omega) (by omega) (by omega) (by omega) (by omega) (by omega)]; exact u4) (by rw [n 107 _ (by omega) (by omega) (by omega) (by omega) (by omega) (by omega) (by omega) (by omega) (by omega)]; exact u5) (by rw [n 107 _ (by omega) (by omega) (by omega) (by omega) (by omega) (by omega) (by omega) (by omega) (by omega)]; exact u6) (by rw [e4]; omega) (⟨n 107 _ (by omega) (by omega) (by omega) (by omega) (by omega) (by omega) (by omega) (by omega) (by omega), n 107 _ (by omega) (by omega) (by omega) (by omega) (by omega) (by omega) (by omega) (by omega) (by omega)⟩) (fun i a b => by rw [n 107 _ (by omega) (by omega) (by omega) (by omega) (by omega) (by omega) (by omega) (by omega) (by omega)]; exact u10 i a b) (fun i a b => n 107 i (by omega) (by omega) (by omega) (by omega) (by omega) (by omega) (by omega) (by omega) (by omega)) (fun i a b => by rw [n 107 _ (by omega) (by omega) (by omega) (by omega) (by omega) (by omega) (by omega) (by omega) (by omega)]; exact u14 i a b) (fun i a b => n 107 i (by omega) (by omega) (by omega) (by omega) (by omega) (by omega) (by omega) (by omega) (by omega)) (fun b a x => by rw [n 107 6 (by omega) (by omega) (by omega) (by omega) (by omega) (by omega) (by omega) (by omega) (by omega)] at x; rw [n 107 _ (by omega) (by omega) (by omega) (by omega) (by omega) (by omega) (by omega) (by omega) (by omega), n 107 _ (by omega) (by omega) (by omega) (by omega) (by omega) (by omega) (by omega) (by omega) (by omega), n 107 _ (by omega) (by omega) (by omega) (by omega) (by omega) (by omega) (by omega) (by omega) (by omega), n 107 _ (by omega) (by omega) (by omega) (by omega) (by omega) (by omega) (by omega) (by omega) (by omega), n 107 _ (by omega) (by omega) (by omega) (by omega) (by omega) (by omega) (by omega) (by omega) (by omega), n 107 _ (by omega) (by omega) (by omega) (by omega) (by omega) (by omega) (by omega) (by omega) (by omega), n 107 _ (by omega) (by omega) (by omega) (by omega) (by omega) (by omega) (by omega) (by omega) (by omega)]; exact u16 b a x) (fun i a b => by
        rw [e4] at b
        by_cases q : i = J 107 7
        · rw [q, e2, e3]; omega
        · rw [n 107 _ (by omega) (by omega) (by omega) (by omega) (by omega) (by omega) (by omega) (by omega) (by omega), n 107 _ (by omega) (by omega) (by omega) (by omega) (by omega) (by omega) (by omega) (by omega) (by omega)]; exact u17 i a (by omega))
    · refine hlC_g hI'.2.2.2.2.2.1 (fun c a b => by rw [n 2 _ (by omega) (by omega) (by omega) (by omega) (by omega) (by omega) (by omega) (by omega) (by omega), n 107 _ (by omega) (by omega) (by omega) (by omega) (by omega) (by omega) (by omega) (by omega) (by omega)]; exact v1 c a b) (fun i a b => by rw [n 3 _ (by omega) (by omega) (by omega) (by omega) (by omega) (by omega) (by omega) (by omega) (by omega), n 107 _ (by omega) (by omega) (by omega) (by omega) (by omega) (by omega) (by omega) (by omega) (by omega)]; exact v2 i a b) (fun i a b => by rw [n 4 _ (by omega) (by omega) (by omega) (by omega) (by omega) (by omega) (by omega) (by omega) (by omega), n 107 _ (by omega) (by omega) (by omega) (by omega) (by omega) (by omega) (by omega) (by omega) (by omega)]; exact v3 i a b) (fun i a b => by rw [n 5 _ (by omega) (by omega) (by omega) (by omega) (by omega) (by omega) (by omega) (by omega) (by omega), n 107 _ (by omega) (by omega) (by omega) (by omega) (by omega) (by omega) (by omega) (by omega) (by omega)]; exact v4 i a b) (fun i a b => by rw [n 6 _ (by omega) (by omega) (by omega) (by omega) (by omega) (by omega) (by omega) (by omega) (by omega), n 107 _ (by omega) (by omega) (by omega) (by omega) (by omega) (by omega) (by omega) (by omega) (by omega)]; exact v5 i a b) (fun i a b => by rw [n 7 _ (by omega) (by omega) (by omega) (by omega) (by omega) (by omega) (by omega) (by omega) (by omega), n 107 _ (by omega) (by omega) (by omega) (by omega) (by omega) (by omega) (by omega) (by omega) (by omega)]; exact v6 i a b) (fun i a b => by
        rw [e4] at b
        by_cases q : i = J 107 7
        · rw [q, e2, e3, ← v10]; exact e0
        · rw [n 8 _ (by omega) (by omega) (by omega) (by omega) (by omega) (by omega) (by omega) (by omega) (by omega), n 107 _ (by omega) (by omega) (by omega) (by omega) (by omega) (by omega) (by omega) (by omega) (by omega), n 107 _ (by omega) (by omega) (by omega) (by omega) (by omega) (by omega) (by omega) (by omega) (by omega)]; exact v7 i a (by omega)) ⟨by rw [n 1 8 (by omega) (by omega) (by omega) (by omega) (by omega) (by omega) (by omega) (by omega) (by omega), n 107 3 (by omega) (by omega) (by omega) (by omega) (by omega) (by omega) (by omega) (by omega) (by omega)]; exact v8, by rw [n 1 9 (by omega) (by omega) (by omega) (by omega) (by omega) (by omega) (by omega) (by omega) (by omega), n 107 6 (by omega) (by omega) (by omega) (by omega) (by omega) (by omega) (by omega) (by omega) (by omega)]; exact v9, by rw [e1, e4, v10], by rw [n 1 11 (by omega) (by omega) (by omega) (by omega) (by omega) (by omega) (by omega) (by omega) (by omega), n 107 4 (by omega) (by omega) (by omega) (by omega) (by omega) (by omega) (by omega) (by omega) (by omega)]; exact v11, by rw [n 1 12 (by omega) (by omega) (by omega) (by omega) (by omega) (by omega) (by omega) (by omega) (by omega), n 107 5 (by omega) (by omega) (by omega) (by omega) (by omega) (by omega) (by omega) (by omega) (by omega)]; exact v12⟩ (fun a i x y => n a i (by omega) (by omega) (by omega) (by omega) (by omega) (by omega) (by omega) (by omega) (by omega)) (fun i x => n 107 i (by omega) (by omega) (by omega) (by omega) (by omega) (by omega) (by omega) (by omega) (by omega))
  refine InvA_s h hB (fun a i x y w => n a i (fun s => by first | exact x (by unfold XS1; omega) | exact y (by omega) | exact w ⟨by omega, by unfold ySm; omega⟩) (fun s => by first | exact x (by unfold XS1; omega) | exact y (by omega) | exact w ⟨by omega, by unfold ySm; omega⟩) (fun s => by first | exact x (by unfold XS1; omega) | exact y (by omega) | exact w ⟨by omega, by unfold ySm; omega⟩) (fun s => by first | exact x (by unfold XS1; omega) | exact y (by omega) | exact w ⟨by omega, by unfold ySm; omega⟩) (fun s => by first | exact x (by unfold XS1; omega) | exact y (by omega) | exact w ⟨by omega, by unfold ySm; omega⟩) (fun s => by first | exact x (by unfold XS1; omega) | exact y (by omega) | exact w ⟨by omega, by unfold ySm; omega⟩) (fun s => by first | exact x (by unfold XS1; omega) | exact y (by omega) | exact w ⟨by omega, by unfold ySm; omega⟩) (fun s => by first | exact x (by unfold XS1; omega) | exact y (by omega) | exact w ⟨by omega, by unfold ySm; omega⟩) (fun s => by first | exact x (by unfold XS1; omega) | exact y (by omega) | exact w ⟨by omega, by unfold ySm; omega⟩)) (Or.inr ⟨e7, e8⟩) ?_ ?_ (fun _ => rfl)
  · exact CrI_s h (fun a i x y => n a i (by omega) (by omega) (by omega) (by omega) (by omega) (by omega) (by omega) (by omega) (by omega)) (fun i x => n 107 i (by omega) (by omega) (by omega) (by omega) (by omega) (by omega) (by omega) (by omega) (by omega))
  · exact MxI_s h (fun a i x y => n a i (by omega) (by omega) (by omega) (by omega) (by omega) (by omega) (by omega) (by omega) (by omega)) (fun i x => n 107 i (by omega) (by omega) (by omega) (by omega) (by omega) (by omega) (by omega) (by omega) (by omega))
set_option maxHeartbeats 4000000 in
theorem ia_box {w l m y x c : Int} (hd : 30 ≤ dp) (ht : t < 512) (h : InvA t tr TS z kd R J M b4 b5 b6 b7 len sl) : Ev (fun n => kf_155 n dp (z, kd, R) 0 J M w l m y x c) (fun r => Ev (fun n => kf_288 n dp (z, kd, R) 0 r.2.1 r.2.2 w l m y x c) (fun q => ∃ a, r.1 = a ∧ q.1 = a ∧ InvA (t + 1) tr TS z kd R q.2.1 q.2.2 b4 b5 b6 b7 len sl)) := by
  have hI := h.1
  have hI' := hI
  obtain ⟨q1, q2, q3, q4, q5, q6, q7, q8, q9⟩ := hI
  obtain ⟨u1, u2, u3, u4, u5, u6, u7, u8, u9, u10, u11, u12, u13, u14, u15, u16, u17⟩ := q5
  obtain ⟨v1, v2, v3, v4, v5, v6, v7, v8, v9, v10, v11, v12, v13, v14, v15, v16, v17⟩ := q6
  simp only [Nat.reduceAdd] at v1 v2 v3 v4 v5 v6 v7
  have s16 := q7.2.2.2.2.2.2.2.2.2.2.2.2.2.2.2
  refine o_box (P := fun _ J' M' => InvA (t + 1) tr TS z kd R J' M' b4 b5 b6 b7 len sl) (by omega) (smO_Bs (by omega) q7) v9 u6 (fun _ => InvA_rf (by omega) h) (fun _ _ => InvA_rf (by omega) h) (fun h1 h2 => ?_)
  have n : ∀ (a : Nat) (i : Int), ¬ (a = 7 ∧ i = J 1 9 * 7) → ¬ (a = 7 ∧ i = J 1 9 * 7 + 1) → ¬ (a = 7 ∧ i = J 1 9 * 7 + 2) → ¬ (a = 7 ∧ i = J 1 9 * 7 + 3) → ¬ (a = 7 ∧ i = J 1 9 * 7 + 4) → ¬ (a = 7 ∧ i = J 1 9 * 7 + 5) → ¬ (a = 7 ∧ i = J 1 9 * 7 + 6) → ¬ (a = 1 ∧ i = 9) → ¬ (a = 81 ∧ i = 11) → ¬ (a = 107 ∧ i = 90 + 7 * J 107 6) → ¬ (a = 107 ∧ i = 90 + 7 * J 107 6 + 1) → ¬ (a = 107 ∧ i = 90 + 7 * J 107 6 + 2) → ¬ (a = 107 ∧ i = 90 + 7 * J 107 6 + 3) → ¬ (a = 107 ∧ i = 90 + 7 * J 107 6 + 4) → ¬ (a = 107 ∧ i = 90 + 7 * J 107 6 + 5) → ¬ (a = 107 ∧ i = 90 + 7 * J 107 6 + 6) → ¬ (a = 107 ∧ i = 6) → ¬ (a = 0 ∧ i = 18) → ¬ (a = 105 ∧ i = 1) → ¬ (a = 105 ∧ i = 32) → ¬ (a = 105 ∧ i = 51) → okM (bxM (okC (bxC (w2 J 81 11 1) w l m y x c)) w l m y x c) a i = J a i := fun a i x0 x1 x2 x3 x4 x5 x6 x7 x8 x9 x10 x11 x12 x13 x14 x15 x16 x17 x18 x19 x20 => by
    unfold okM okC bxM bxC
    simp (disch := omega) only [w2_n]
  have e0 : okM (bxM (okC (bxC (w2 J 81 11 1) w l m y x c)) w l m y x c) 7 (J 1 9 * 7) = w := by
    unfold okM okC bxM bxC
    simp (disch := omega) only [w2_n, w2_p]
  have e1 : okM (bxM (okC (bxC (w2 J 81 11 1) w l m y x c)) w l m y x c) 7 (J 1 9 * 7 + 1) = l := by
    unfold okM okC bxM bxC
    simp (disch := omega) only [w2_n, w2_p]
  have e2 : okM (bxM (okC (bxC (w2 J 81 11 1) w l m y x c)) w l m y x c) 7 (J 1 9 * 7 + 2) = m := by
    unfold okM okC bxM bxC
    simp (disch := omega) only [w2_n, w2_p]
  have e3 : okM (bxM (okC (bxC (w2 J 81 11 1) w l m y x c)) w l m y x c) 7 (J 1 9 * 7 + 3) = y := by
    unfold okM okC bxM bxC
    simp (disch := omega) only [w2_n, w2_p]
  have e4 : okM (bxM (okC (bxC (w2 J 81 11 1) w l m y x c)) w l m y x c) 7 (J 1 9 * 7 + 4) = x := by
    unfold okM okC bxM bxC
    simp (disch := omega) only [w2_n, w2_p]
  have e5 : okM (bxM (okC (bxC (w2 J 81 11 1) w l m y x c)) w l m y x c) 7 (J 1 9 * 7 + 5) = c := by
    unfold okM okC bxM bxC
    simp (disch := omega) only [w2_n, w2_p]
  have e6 : okM (bxM (okC (bxC (w2 J 81 11 1) w l m y x c)) w l m y x c) 7 (J 1 9 * 7 + 6) = 1 := by
    unfold okM okC bxM bxC
    simp (disch := omega) only [w2_n, w2_p]
  have e7 : okM (bxM (okC (bxC (w2 J 81 11 1) w l m y x c)) w l m y x c) 1 (9) = J 1 9 + 1 := by
    unfold okM okC bxM bxC
    simp (disch := omega) only [w2_n, w2_p]
  have e8 : okM (bxM (okC (bxC (w2 J 81 11 1) w l m y x c)) w l m y x c) 81 (11) = 1 := by
    unfold okM okC bxM bxC
    simp (disch := omega) only [w2_n, w2_p]
  have e9 : okM (bxM (okC (bxC (w2 J 81 11 1) w l m y x c)) w l m y x c) 107 (90 + 7 * J 107 6) = w := by
    unfold okM okC bxM bxC
    simp (disch := omega) only [w2_n, w2_p]
  have e10 : okM (bxM (okC (bxC (w2 J 81 11 1) w l m y x c)) w l m y x c) 107 (90 + 7 * J 107 6 + 1) = l := by
    unfold okM okC bxM bxC
    simp (disch := omega) only [w2_n, w2_p]
  have e11 : okM (bxM (okC (bxC (w2 J 81 11 1) w l m y x c)) w l m y x c) 107 (90 + 7 * J 107 6 + 2) = m := by
    unfold okM okC bxM bxC
    simp (disch := omega) only [w2_n, w2_p]
  have e12 : okM (bxM (okC (bxC (w2 J 81 11 1) w l m y x c)) w l m y x c) 107 (90 + 7 * J 107 6 + 3) = y := by
    unfold okM okC bxM bxC
    simp (disch := omega) only [w2_n, w2_p]
  have e13 : okM (bxM (okC (bxC (w2 J 81 11 1) w l m y x c)) w l m y x c) 107 (90 + 7 * J 107 6 + 4) = x := by
    unfold okM okC bxM bxC
    simp (disch := omega) only [w2_n, w2_p]
  have e14 : okM (bxM (okC (bxC (w2 J 81 11 1) w l m y x c)) w l m y x c) 107 (90 + 7 * J 107 6 + 5) = c := by
    unfold okM okC bxM bxC
    simp (disch := omega) only [w2_n, w2_p]
  have e15 : okM (bxM (okC (bxC (w2 J 81 11 1) w l m y x c)) w l m y x c) 107 (90 + 7 * J 107 6 + 6) = 1 := by
    unfold okM okC bxM bxC
    simp (disch := omega) only [w2_n, w2_p]
  have e16 : okM (bxM (okC (bxC (w2 J 81 11 1) w l m y x c)) w l m y x c) 107 (6) = J 107 6 + 1 := by
    unfold okM okC bxM bxC
    simp (disch := omega) only [w2_n, w2_p]
  have e17 : okM (bxM (okC (bxC (w2 J 81 11 1) w l m y x c)) w l m y x c) 0 (18) = 0 := by
    unfold okM okC bxM bxC
    simp (disch := omega) only [w2_n, w2_p]
  have e18 : okM (bxM (okC (bxC (w2 J 81 11 1) w l m y x c)) w l m y x c) 105 (1) = 0 := by
    unfold okM okC bxM bxC
    simp (disch := omega) only [w2_n, w2_p]
  have e19 : okM (bxM (okC (bxC (w2 J 81 11 1) w l m y x c)) w l m y x c) 105 (32) = 0 := by
    unfold okM okC bxM bxC
    simp (disch := omega) only [w2_n, w2_p]
  have e20 : okM (bxM (okC (bxC (w2 J 81 11 1) w l m y x c)) w l m y x c) 105 (51) = 0 := by
    unfold okM okC bxM bxC
    simp (disch := omega) only [w2_n, w2_p]
  generalize okM (bxM (okC (bxC (w2 J 81 11 1) w l m y x c)) w l m y x c) = J1 at n e0 e1 e2 e3 e4 e5 e6 e7 e8 e9 e10 e11 e12 e13 e14 e15 e16 e17 e18 e19 e20 ⊢
  have hB : InvB (t + 1) tr z kd R J1 := by
    refine InvB_hall hI' (fun j => n _ _ (by omega) (by omega) (by omega) (by omega) (by omega) (by omega) (by omega) (by omega) (by omega) (by omega) (by omega) (by omega) (by omega) (by omega) (by omega) (by omega) (by omega) (by omega) (by omega) (by omega) (by omega)) (fun j => n _ _ (by omega) (by omega) (by omega) (by omega) (by omega) (by omega) (by omega) (by omega) (by omega) (by omega) (by omega) (by omega) (by omega) (by omega) (by omega) (by omega) (by omega) (by omega) (by omega) (by omega) (by omega)) (fun a ha j => n _ _ (by omega) (by omega) (by omega) (by omega) (by omega) (by omega) (by omega) (by omega) (by omega) (by omega) (by omega) (by omega) (by omega) (by omega) (by omega) (by omega) (by omega) (by omega) (by omega) (by omega) (by omega)) ?_ ?_ (smO_k q7 (fun a i x => n a i (by omega) (by omega) (by omega) (by omega) (by omega) (by omega) (by omega) (by omega) (by omega) (by omega) (by omega) (by omega) (by omega) (by omega) (by omega) (by omega) (by omega) (by omega) (by omega) (by omega) (by omega)) e17 e18 e19 e20 (by rw [n 24 12 (by omega) (by omega) (by omega) (by omega) (by omega) (by omega) (by omega) (by omega) (by omega) (by omega) (by omega) (by omega) (by omega) (by omega) (by omega) (by omega) (by omega) (by omega) (by omega) (by omega) (by omega)]; omega))
    · refine rwO_g hI'.2.2.2.2.1 (fun i a b => n 107 i (by omega) (by omega) (by omega) (by omega) (by omega) (by omega) (by omega) (by omega) (by omega) (by omega) (by omega) (by omega) (by omega) (by omega) (by omega) (by omega) (by omega) (by omega) (by omega) (by omega) (by omega)) (by rw [n 107 _ (by omega) (by omega) (by omega) (by omega) (by omega) (by omega) (by omega) (by omega) (by omega) (by omega) (by omega) (by omega) (by omega) (by omega) (by omega) (by omega) (by omega) (by omega) (by omega) (by omega) (by omega)]; exact u3) (by rw [n 107 _ (by omega) (by omega) (by omega) (by omega) (by omega) (by omega) (by omega) (by omega) (by omega) (by omega) (by omega) (by omega) (by omega) (by omega) (by omega) (by omega) (by omega) (by omega) (by omega) (by omega) (by omega)]; exact u4) (by rw [n 107 _ (by omega) (by omega) (by omega) (by omega) (by omega) (by omega) (by omega) (by omega) (by omega) (by omega) (by omega) (by omega) (by omega) (by omega) (by omega) (by omega) (by omega) (by omega) (by omega) (by omega) (by omega)]; exact u5) (by rw [e16]; omega) (by rw [n 107 _ (by omega) (by omega) (by omega) (by omega) (by omega) (by omega) (by omega) (by omega) (by omega) (by omega) (by omega) (by omega) (by omega) (by omega) (by omega) (by omega) (by omega) (by omega) (by omega) (by omega) (by omega)]; exact u7) (⟨n 107 _ (by omega) (by omega) (by omega) (by omega) (by omega) (by omega) (by omega) (by omega) (by omega) (by omega) (by omega) (by omega) (by omega) (by omega) (by omega) (by omega) (by omega) (by omega) (by omega) (by omega) (by omega), n 107 _ (by omega) (by omega) (by omega) (by omega) (by omega) (by omega) (by omega) (by omega) (by omega) (by omega) (by omega) (by omega) (by omega) (by omega) (by omega) (by omega) (by omega) (by omega) (by omega) (by omega) (by omega)⟩) (fun i a b => by rw [n 107 _ (by omega) (by omega) (by omega) (by omega) (by omega) (by omega) (by omega) (by omega) (by omega) (by omega) (by omega) (by omega) (by omega) (by omega) (by omega) (by omega) (by omega) (by omega) (by omega) (by omega) (by omega)]; exact u10 i a b) (fun i a b => n 107 i (by omega) (by omega) (by omega) (by omega) (by omega) (by omega) (by omega) (by omega) (by omega) (by omega) (by omega) (by omega) (by omega) (by omega) (by omega) (by omega) (by omega) (by omega) (by omega) (by omega) (by omega)) (fun i a b => by rw [n 107 _ (by omega) (by omega) (by omega) (by omega) (by omega) (by omega) (by omega) (by omega) (by omega) (by omega) (by omega) (by omega) (by omega) (by omega) (by omega) (by omega) (by omega) (by omega) (by omega) (by omega) (by omega)]; exact u14 i a b) (fun i a b => n 107 i (by omega) (by omega) (by omega) (by omega) (by omega) (by omega) (by omega) (by omega) (by omega) (by omega) (by omega) (by omega) (by omega) (by omega) (by omega) (by omega) (by omega) (by omega) (by omega) (by omega) (by omega)) (fun b a x => by
        rw [e16] at x
        by_cases q : b = J 107 6
        · rw [q, e9, e10, e11, e12, e13, e14, e15]; exact ⟨h1, by omega, by omega⟩
        · rw [n 107 _ (by omega) (by omega) (by omega) (by omega) (by omega) (by omega) (by omega) (by omega) (by omega) (by omega) (by omega) (by omega) (by omega) (by omega) (by omega) (by omega) (by omega) (by omega) (by omega) (by omega) (by omega), n 107 _ (by omega) (by omega) (by omega) (by omega) (by omega) (by omega) (by omega) (by omega) (by omega) (by omega) (by omega) (by omega) (by omega) (by omega) (by omega) (by omega) (by omega) (by omega) (by omega) (by omega) (by omega), n 107 _ (by omega) (by omega) (by omega) (by omega) (by omega) (by omega) (by omega) (by omega) (by omega) (by omega) (by omega) (by omega) (by omega) (by omega) (by omega) (by omega) (by omega) (by omega) (by omega) (by omega) (by omega), n 107 _ (by omega) (by omega) (by omega) (by omega) (by omega) (by omega) (by omega) (by omega) (by omega) (by omega) (by omega) (by omega) (by omega) (by omega) (by omega) (by omega) (by omega) (by omega) (by omega) (by omega) (by omega), n 107 _ (by omega) (by omega) (by omega) (by omega) (by omega) (by omega) (by omega) (by omega) (by omega) (by omega) (by omega) (by omega) (by omega) (by omega) (by omega) (by omega) (by omega) (by omega) (by omega) (by omega) (by omega), n 107 _ (by omega) (by omega) (by omega) (by omega) (by omega) (by omega) (by omega) (by omega) (by omega) (by omega) (by omega) (by omega) (by omega) (by omega) (by omega) (by omega) (by omega) (by omega) (by omega) (by omega) (by omega), n 107 _ (by omega) (by omega) (by omega) (by omega) (by omega) (by omega) (by omega) (by omega) (by omega) (by omega) (by omega) (by omega) (by omega) (by omega) (by omega) (by omega) (by omega) (by omega) (by omega) (by omega) (by omega)]; exact u16 b a (by omega)) (fun i a x => by rw [n 107 7 (by omega) (by omega) (by omega) (by omega) (by omega) (by omega) (by omega) (by omega) (by omega) (by omega) (by omega) (by omega) (by omega) (by omega) (by omega) (by omega) (by omega) (by omega) (by omega) (by omega) (by omega)] at x; rw [n 107 _ (by omega) (by omega) (by omega) (by omega) (by omega) (by omega) (by omega) (by omega) (by omega) (by omega) (by omega) (by omega) (by omega) (by omega) (by omega) (by omega) (by omega) (by omega) (by omega) (by omega) (by omega), n 107 _ (by omega) (by omega) (by omega) (by omega) (by omega) (by omega) (by omega) (by omega) (by omega) (by omega) (by omega) (by omega) (by omega) (by omega) (by omega) (by omega) (by omega) (by omega) (by omega) (by omega) (by omega)]; exact u17 i a x)
    · refine hlC_g hI'.2.2.2.2.2.1 (fun c a b => by rw [n 2 _ (by omega) (by omega) (by omega) (by omega) (by omega) (by omega) (by omega) (by omega) (by omega) (by omega) (by omega) (by omega) (by omega) (by omega) (by omega) (by omega) (by omega) (by omega) (by omega) (by omega) (by omega), n 107 _ (by omega) (by omega) (by omega) (by omega) (by omega) (by omega) (by omega) (by omega) (by omega) (by omega) (by omega) (by omega) (by omega) (by omega) (by omega) (by omega) (by omega) (by omega) (by omega) (by omega) (by omega)]; exact v1 c a b) (fun i a b => by rw [n 3 _ (by omega) (by omega) (by omega) (by omega) (by omega) (by omega) (by omega) (by omega) (by omega) (by omega) (by omega) (by omega) (by omega) (by omega) (by omega) (by omega) (by omega) (by omega) (by omega) (by omega) (by omega), n 107 _ (by omega) (by omega) (by omega) (by omega) (by omega) (by omega) (by omega) (by omega) (by omega) (by omega) (by omega) (by omega) (by omega) (by omega) (by omega) (by omega) (by omega) (by omega) (by omega) (by omega) (by omega)]; exact v2 i a b) (fun i a b => by rw [n 4 _ (by omega) (by omega) (by omega) (by omega) (by omega) (by omega) (by omega) (by omega) (by omega) (by omega) (by omega) (by omega) (by omega) (by omega) (by omega) (by omega) (by omega) (by omega) (by omega) (by omega) (by omega), n 107 _ (by omega) (by omega) (by omega) (by omega) (by omega) (by omega) (by omega) (by omega) (by omega) (by omega) (by omega) (by omega) (by omega) (by omega) (by omega) (by omega) (by omega) (by omega) (by omega) (by omega) (by omega)]; exact v3 i a b) (fun i a b => by rw [n 5 _ (by omega) (by omega) (by omega) (by omega) (by omega) (by omega) (by omega) (by omega) (by omega) (by omega) (by omega) (by omega) (by omega) (by omega) (by omega) (by omega) (by omega) (by omega) (by omega) (by omega) (by omega), n 107 _ (by omega) (by omega) (by omega) (by omega) (by omega) (by omega) (by omega) (by omega) (by omega) (by omega) (by omega) (by omega) (by omega) (by omega) (by omega) (by omega) (by omega) (by omega) (by omega) (by omega) (by omega)]; exact v4 i a b) (fun i a b => by rw [n 6 _ (by omega) (by omega) (by omega) (by omega) (by omega) (by omega) (by omega) (by omega) (by omega) (by omega) (by omega) (by omega) (by omega) (by omega) (by omega) (by omega) (by omega) (by omega) (by omega) (by omega) (by omega), n 107 _ (by omega) (by omega) (by omega) (by omega) (by omega) (by omega) (by omega) (by omega) (by omega) (by omega) (by omega) (by omega) (by omega) (by omega) (by omega) (by omega) (by omega) (by omega) (by omega) (by omega) (by omega)]; exact v5 i a b) (fun i a b => by
        rcases (show i = J 1 9 * 7 ∨ i = J 1 9 * 7 + 1 ∨ i = J 1 9 * 7 + 2 ∨ i = J 1 9 * 7 + 3 ∨ i = J 1 9 * 7 + 4 ∨ i = J 1 9 * 7 + 5 ∨ i = J 1 9 * 7 + 6 ∨ (i < J 1 9 * 7 ∨ J 1 9 * 7 + 6 < i) by omega) with q | q | q | q | q | q | q | q
        · rw [q, e0, v9, show 90 + (J 107 6 * 7) = 90 + 7 * J 107 6 by omega, e9]
        · rw [q, e1, v9, show 90 + (J 107 6 * 7 + 1) = 90 + 7 * J 107 6 + 1 by omega, e10]
        · rw [q, e2, v9, show 90 + (J 107 6 * 7 + 2) = 90 + 7 * J 107 6 + 2 by omega, e11]
        · rw [q, e3, v9, show 90 + (J 107 6 * 7 + 3) = 90 + 7 * J 107 6 + 3 by omega, e12]
        · rw [q, e4, v9, show 90 + (J 107 6 * 7 + 4) = 90 + 7 * J 107 6 + 4 by omega, e13]
        · rw [q, e5, v9, show 90 + (J 107 6 * 7 + 5) = 90 + 7 * J 107 6 + 5 by omega, e14]
        · rw [q, e6, v9, show 90 + (J 107 6 * 7 + 6) = 90 + 7 * J 107 6 + 6 by omega, e15]
        · rw [n 7 _ (by omega) (by omega) (by omega) (by omega) (by omega) (by omega) (by omega) (by omega) (by omega) (by omega) (by omega) (by omega) (by omega) (by omega) (by omega) (by omega) (by omega) (by omega) (by omega) (by omega) (by omega), n 107 _ (by omega) (by omega) (by omega) (by omega) (by omega) (by omega) (by omega) (by omega) (by omega) (by omega) (by omega) (by omega) (by omega) (by omega) (by omega) (by omega) (by omega) (by omega) (by omega) (by omega) (by omega)]; exact v6 i a b) (fun i a b => by rw [n 107 7 (by omega) (by omega) (by omega) (by omega) (by omega) (by omega) (by omega) (by omega) (by omega) (by omega) (by omega) (by omega) (by omega) (by omega) (by omega) (by omega) (by omega) (by omega) (by omega) (by omega) (by omega)] at b; rw [n 8 _ (by omega) (by omega) (by omega) (by omega) (by omega) (by omega) (by omega) (by omega) (by omega) (by omega) (by omega) (by omega) (by omega) (by omega) (by omega) (by omega) (by omega) (by omega) (by omega) (by omega) (by omega), n 107 _ (by omega) (by omega) (by omega) (by omega) (by omega) (by omega) (by omega) (by omega) (by omega) (by omega) (by omega) (by omega) (by omega) (by omega) (by omega) (by omega) (by omega) (by omega) (by omega) (by omega) (by omega), n 107 _ (by omega) (by omega) (by omega) (by omega) (by omega) (by omega) (by omega) (by omega) (by omega) (by omega) (by omega) (by omega) (by omega) (by omega) (by omega) (by omega) (by omega) (by omega) (by omega) (by omega) (by omega)]; exact v7 i a b) ⟨by rw [n 1 8 (by omega) (by omega) (by omega) (by omega) (by omega) (by omega) (by omega) (by omega) (by omega) (by omega) (by omega) (by omega) (by omega) (by omega) (by omega) (by omega) (by omega) (by omega) (by omega) (by omega) (by omega), n 107 3 (by omega) (by omega) (by omega) (by omega) (by omega) (by omega) (by omega) (by omega) (by omega) (by omega) (by omega) (by omega) (by omega) (by omega) (by omega) (by omega) (by omega) (by omega) (by omega) (by omega) (by omega)]; exact v8, by rw [e7, e16, v9], by rw [n 1 10 (by omega) (by omega) (by omega) (by omega) (by omega) (by omega) (by omega) (by omega) (by omega) (by omega) (by omega) (by omega) (by omega) (by omega) (by omega) (by omega) (by omega) (by omega) (by omega) (by omega) (by omega), n 107 7 (by omega) (by omega) (by omega) (by omega) (by omega) (by omega) (by omega) (by omega) (by omega) (by omega) (by omega) (by omega) (by omega) (by omega) (by omega) (by omega) (by omega) (by omega) (by omega) (by omega) (by omega)]; exact v10, by rw [n 1 11 (by omega) (by omega) (by omega) (by omega) (by omega) (by omega) (by omega) (by omega) (by omega) (by omega) (by omega) (by omega) (by omega) (by omega) (by omega) (by omega) (by omega) (by omega) (by omega) (by omega) (by omega), n 107 4 (by omega) (by omega) (by omega) (by omega) (by omega) (by omega) (by omega) (by omega) (by omega) (by omega) (by omega) (by omega) (by omega) (by omega) (by omega) (by omega) (by omega) (by omega) (by omega) (by omega) (by omega)]; exact v11, by rw [n 1 12 (by omega) (by omega) (by omega) (by omega) (by omega) (by omega) (by omega) (by omega) (by omega) (by omega) (by omega) (by omega) (by omega) (by omega) (by omega) (by omega) (by omega) (by omega) (by omega) (by omega) (by omega), n 107 5 (by omega) (by omega) (by omega) (by omega) (by omega) (by omega) (by omega) (by omega) (by omega) (by omega) (by omega) (by omega) (by omega) (by omega) (by omega) (by omega) (by omega) (by omega) (by omega) (by omega) (by omega)]; exact v12⟩ (fun a i x y => n a i (by omega) (by omega) (by omega) (by omega) (by omega) (by omega) (by omega) (by omega) (by omega) (by omega) (by omega) (by omega) (by omega) (by omega) (by omega) (by omega) (by omega) (by omega) (by omega) (by omega) (by omega)) (fun i x => n 107 i (by omega) (by omega) (by omega) (by omega) (by omega) (by omega) (by omega) (by omega) (by omega) (by omega) (by omega) (by omega) (by omega) (by omega) (by omega) (by omega) (by omega) (by omega) (by omega) (by omega) (by omega))
  refine InvA_s h hB (fun a i x y w => n a i (fun s => by first | exact x (by unfold XS1; omega) | exact y (by omega) | exact w ⟨by omega, by unfold ySm; omega⟩) (fun s => by first | exact x (by unfold XS1; omega) | exact y (by omega) | exact w ⟨by omega, by unfold ySm; omega⟩) (fun s => by first | exact x (by unfold XS1; omega) | exact y (by omega) | exact w ⟨by omega, by unfold ySm; omega⟩) (fun s => by first | exact x (by unfold XS1; omega) | exact y (by omega) | exact w ⟨by omega, by unfold ySm; omega⟩) (fun s => by first | exact x (by unfold XS1; omega) | exact y (by omega) | exact w ⟨by omega, by unfold ySm; omega⟩) (fun s => by first | exact x (by unfold XS1; omega) | exact y (by omega) | exact w ⟨by omega, by unfold ySm; omega⟩) (fun s => by first | exact x (by unfold XS1; omega) | exact y (by omega) | exact w ⟨by omega, by unfold ySm; omega⟩) (fun s => by first | exact x (by unfold XS1; omega) | exact y (by omega) | exact w ⟨by omega, by unfold ySm; omega⟩) (fun s => by first | exact x (by unfold XS1; omega) | exact y (by omega) | exact w ⟨by omega, by unfold ySm; omega⟩) (fun s => by first | exact x (by unfold XS1; omega) | exact y (by omega) | exact w ⟨by omega, by unfold ySm; omega⟩) (fun s => by first | exact x (by unfold XS1; omega) | exact y (by omega) | exact w ⟨by omega, by unfold ySm; omega⟩) (fun s => by first | exact x (by unfold XS1; omega) | exact y (by omega) | exact w ⟨by omega, by unfold ySm; omega⟩) (fun s => by first | exact x (by unfold XS1; omega) | exact y (by omega) | exact w ⟨by omega, by unfold ySm; omega⟩) (fun s => by first | exact x (by unfold XS1; omega) | exact y (by omega) | exact w ⟨by omega, by unfold ySm; omega⟩) (fun s => by first | exact x (by unfold XS1; omega) | exact y (by omega) | exact w ⟨by omega, by unfold ySm; omega⟩) (fun s => by first | exact x (by unfold XS1; omega) | exact y (by omega) | exact w ⟨by omega, by unfold ySm; omega⟩) (fun s => by first | exact x (by unfold XS1; omega) | exact y (by omega) | exact w ⟨by omega, by unfold ySm; omega⟩) (fun s => by first | exact x (by unfold XS1; omega) | exact y (by omega) | exact w ⟨by omega, by unfold ySm; omega⟩) (fun s => by first | exact x (by unfold XS1; omega) | exact y (by omega) | exact w ⟨by omega, by unfold ySm; omega⟩) (fun s => by first | exact x (by unfold XS1; omega) | exact y (by omega) | exact w ⟨by omega, by unfold ySm; omega⟩) (fun s => by first | exact x (by unfold XS1; omega) | exact y (by omega) | exact w ⟨by omega, by unfold ySm; omega⟩)) (Or.inr ⟨e19, e20⟩) ?_ ?_ (fun _ => rfl)
  · exact CrI_s h (fun a i x y => n a i (by omega) (by omega) (by omega) (by omega) (by omega) (by omega) (by omega) (by omega) (by omega) (by omega) (by omega) (by omega) (by omega) (by omega) (by omega) (by omega) (by omega) (by omega) (by omega) (by omega) (by omega)) (fun i x => n 107 i (by omega) (by omega) (by omega) (by omega) (by omega) (by omega) (by omega) (by omega) (by omega) (by omega) (by omega) (by omega) (by omega) (by omega) (by omega) (by omega) (by omega) (by omega) (by omega) (by omega) (by omega))
  · exact MxI_1 e8
theorem ia_weighs {p c w : Int} (hd : 30 ≤ dp) (ht : t < 512) (h : InvA t tr TS z kd R J M b4 b5 b6 b7 len sl) : Ev (fun n => kf_20 n dp (z, kd, R) 0 J M p c w) (fun r => Ev (fun n => kf_201 n dp (z, kd, R) 0 r.2.1 r.2.2 p c w) (fun q => ∃ a, r.1 = a ∧ q.1 = a ∧ InvA (t + 1) tr TS z kd R q.2.1 q.2.2 b4 b5 b6 b7 len sl)) := by
  have hI := h.1
  have hI' := hI
  obtain ⟨q1, q2, q3, q4, q5, q6, q7, q8, q9⟩ := hI
  obtain ⟨u1, u2, u3, u4, u5, u6, u7, u8, u9, u10, u11, u12, u13, u14, u15, u16, u17⟩ := q5
  obtain ⟨v1, v2, v3, v4, v5, v6, v7, v8, v9, v10, v11, v12, v13, v14, v15, v16, v17⟩ := q6
  simp only [Nat.reduceAdd] at v1 v2 v3 v4 v5 v6 v7
  have s16 := q7.2.2.2.2.2.2.2.2.2.2.2.2.2.2.2
  refine o_weighs (P := fun _ J' M' => InvA (t + 1) tr TS z kd R J' M' b4 b5 b6 b7 len sl) (by omega) (smO_Bs (by omega) q7) (fun h1 h2 => ?_) (fun _ => InvA_rf (by omega) h) (fun h1 => ?_)
  · rw [v2 _ (by omega) (by omega)]; congr 1; omega
  have n : ∀ (a : Nat) (i : Int), ¬ (a = 3 ∧ i = p * 3 + c) → ¬ (a = 24 ∧ i = 13) → ¬ (a = 73 ∧ i = 15) → ¬ (a = 73 ∧ i = 16) → ¬ (a = 107 ∧ i = 10 + 3 * p + c) → ¬ (a = 0 ∧ i = 18) → ¬ (a = 105 ∧ i = 1) → ¬ (a = 105 ∧ i = 32) → ¬ (a = 105 ∧ i = 51) → okM (w2 (okC (fgC (w2 (w2 J 3 (p * 3 + c) w) 24 13 1))) 107 (10 + 3 * p + c) w) a i = J a i := fun a i x0 x1 x2 x3 x4 x5 x6 x7 x8 => by
    unfold okM okC fgC
    simp (disch := omega) only [w2_n]
  have e0 : okM (w2 (okC (fgC (w2 (w2 J 3 (p * 3 + c) w) 24 13 1))) 107 (10 + 3 * p + c) w) 3 (p * 3 + c) = w := by
    unfold okM okC fgC
    simp (disch := omega) only [w2_n, w2_p]
  have e1 : okM (w2 (okC (fgC (w2 (w2 J 3 (p * 3 + c) w) 24 13 1))) 107 (10 + 3 * p + c) w) 24 (13) = 1 := by
    unfold okM okC fgC
    simp (disch := omega) only [w2_n, w2_p]
  have e2 : okM (w2 (okC (fgC (w2 (w2 J 3 (p * 3 + c) w) 24 13 1))) 107 (10 + 3 * p + c) w) 73 (15) = 1 := by
    unfold okM okC fgC
    simp (disch := omega) only [w2_n, w2_p]
  have e3 : okM (w2 (okC (fgC (w2 (w2 J 3 (p * 3 + c) w) 24 13 1))) 107 (10 + 3 * p + c) w) 73 (16) = 1 := by
    unfold okM okC fgC
    simp (disch := omega) only [w2_n, w2_p]
  have e4 : okM (w2 (okC (fgC (w2 (w2 J 3 (p * 3 + c) w) 24 13 1))) 107 (10 + 3 * p + c) w) 107 (10 + 3 * p + c) = w := by
    unfold okM okC fgC
    simp (disch := omega) only [w2_n, w2_p]
  have e5 : okM (w2 (okC (fgC (w2 (w2 J 3 (p * 3 + c) w) 24 13 1))) 107 (10 + 3 * p + c) w) 0 (18) = 0 := by
    unfold okM okC fgC
    simp (disch := omega) only [w2_n, w2_p]
  have e6 : okM (w2 (okC (fgC (w2 (w2 J 3 (p * 3 + c) w) 24 13 1))) 107 (10 + 3 * p + c) w) 105 (1) = 0 := by
    unfold okM okC fgC
    simp (disch := omega) only [w2_n, w2_p]
  have e7 : okM (w2 (okC (fgC (w2 (w2 J 3 (p * 3 + c) w) 24 13 1))) 107 (10 + 3 * p + c) w) 105 (32) = 0 := by
    unfold okM okC fgC
    simp (disch := omega) only [w2_n, w2_p]
  have e8 : okM (w2 (okC (fgC (w2 (w2 J 3 (p * 3 + c) w) 24 13 1))) 107 (10 + 3 * p + c) w) 105 (51) = 0 := by
    unfold okM okC fgC
    simp (disch := omega) only [w2_n, w2_p]
  generalize okM (w2 (okC (fgC (w2 (w2 J 3 (p * 3 + c) w) 24 13 1))) 107 (10 + 3 * p + c) w) = J1 at n e0 e1 e2 e3 e4 e5 e6 e7 e8 ⊢
  have hB : InvB (t + 1) tr z kd R J1 := by
    refine InvB_hall hI' (fun j => n _ _ (by omega) (by omega) (by omega) (by omega) (by omega) (by omega) (by omega) (by omega) (by omega)) (fun j => n _ _ (by omega) (by omega) (by omega) (by omega) (by omega) (by omega) (by omega) (by omega) (by omega)) (fun a ha j => n _ _ (by omega) (by omega) (by omega) (by omega) (by omega) (by omega) (by omega) (by omega) (by omega)) ?_ ?_ (smO_k q7 (fun a i x => n a i (by omega) (by omega) (by omega) (by omega) (by omega) (by omega) (by omega) (by omega) (by omega)) e5 e6 e7 e8 (by rw [n 24 12 (by omega) (by omega) (by omega) (by omega) (by omega) (by omega) (by omega) (by omega) (by omega)]; omega))
    · refine rwO_g hI'.2.2.2.2.1 (fun i a b => n 107 i (by omega) (by omega) (by omega) (by omega) (by omega) (by omega) (by omega) (by omega) (by omega)) (by rw [n 107 _ (by omega) (by omega) (by omega) (by omega) (by omega) (by omega) (by omega) (by omega) (by omega)]; exact u3) (by rw [n 107 _ (by omega) (by omega) (by omega) (by omega) (by omega) (by omega) (by omega) (by omega) (by omega)]; exact u4) (by rw [n 107 _ (by omega) (by omega) (by omega) (by omega) (by omega) (by omega) (by omega) (by omega) (by omega)]; exact u5) (by rw [n 107 _ (by omega) (by omega) (by omega) (by omega) (by omega) (by omega) (by omega) (by omega) (by omega)]; exact u6) (by rw [n 107 _ (by omega) (by omega) (by omega) (by omega) (by omega) (by omega) (by omega) (by omega) (by omega)]; exact u7) (⟨n 107 _ (by omega) (by omega) (by omega) (by omega) (by omega) (by omega) (by omega) (by omega) (by omega), n 107 _ (by omega) (by omega) (by omega) (by omega) (by omega) (by omega) (by omega) (by omega) (by omega)⟩) (fun i a b => by
        by_cases q : i = 10 + 3 * p + c
        · rw [q, e4]; omega
        · rw [n 107 _ (by omega) (by omega) (by omega) (by omega) (by omega) (by omega) (by omega) (by omega) (by omega)]; exact u10 i a b) (fun i a b => n 107 i (by omega) (by omega) (by omega) (by omega) (by omega) (by omega) (by omega) (by omega) (by omega)) (fun i a b => by rw [n 107 _ (by omega) (by omega) (by omega) (by omega) (by omega) (by omega) (by omega) (by omega) (by omega)]; exact u14 i a b) (fun i a b => n 107 i (by omega) (by omega) (by omega) (by omega) (by omega) (by omega) (by omega) (by omega) (by omega)) (fun b a x => by rw [n 107 6 (by omega) (by omega) (by omega) (by omega) (by omega) (by omega) (by omega) (by omega) (by omega)] at x; rw [n 107 _ (by omega) (by omega) (by omega) (by omega) (by omega) (by omega) (by omega) (by omega) (by omega), n 107 _ (by omega) (by omega) (by omega) (by omega) (by omega) (by omega) (by omega) (by omega) (by omega), n 107 _ (by omega) (by omega) (by omega) (by omega) (by omega) (by omega) (by omega) (by omega) (by omega), n 107 _ (by omega) (by omega) (by omega) (by omega) (by omega) (by omega) (by omega) (by omega) (by omega), n 107 _ (by omega) (by omega) (by omega) (by omega) (by omega) (by omega) (by omega) (by omega) (by omega), n 107 _ (by omega) (by omega) (by omega) (by omega) (by omega) (by omega) (by omega) (by omega) (by omega), n 107 _ (by omega) (by omega) (by omega) (by omega) (by omega) (by omega) (by omega) (by omega) (by omega)]; exact u16 b a x) (fun i a x => by rw [n 107 7 (by omega) (by omega) (by omega) (by omega) (by omega) (by omega) (by omega) (by omega) (by omega)] at x; rw [n 107 _ (by omega) (by omega) (by omega) (by omega) (by omega) (by omega) (by omega) (by omega) (by omega), n 107 _ (by omega) (by omega) (by omega) (by omega) (by omega) (by omega) (by omega) (by omega) (by omega)]; exact u17 i a x)
    · refine hlC_g hI'.2.2.2.2.2.1 (fun c a b => by rw [n 2 _ (by omega) (by omega) (by omega) (by omega) (by omega) (by omega) (by omega) (by omega) (by omega), n 107 _ (by omega) (by omega) (by omega) (by omega) (by omega) (by omega) (by omega) (by omega) (by omega)]; exact v1 c a b) (fun i a b => by
        by_cases q : i = p * 3 + c
        · rw [q, e0, show 10 + (p * 3 + c) = 10 + 3 * p + c by omega, e4]
        · rw [n 3 _ (by omega) (by omega) (by omega) (by omega) (by omega) (by omega) (by omega) (by omega) (by omega), n 107 _ (by omega) (by omega) (by omega) (by omega) (by omega) (by omega) (by omega) (by omega) (by omega)]; exact v2 i a b) (fun i a b => by rw [n 4 _ (by omega) (by omega) (by omega) (by omega) (by omega) (by omega) (by omega) (by omega) (by omega), n 107 _ (by omega) (by omega) (by omega) (by omega) (by omega) (by omega) (by omega) (by omega) (by omega)]; exact v3 i a b) (fun i a b => by rw [n 5 _ (by omega) (by omega) (by omega) (by omega) (by omega) (by omega) (by omega) (by omega) (by omega), n 107 _ (by omega) (by omega) (by omega) (by omega) (by omega) (by omega) (by omega) (by omega) (by omega)]; exact v4 i a b) (fun i a b => by rw [n 6 _ (by omega) (by omega) (by omega) (by omega) (by omega) (by omega) (by omega) (by omega) (by omega), n 107 _ (by omega) (by omega) (by omega) (by omega) (by omega) (by omega) (by omega) (by omega) (by omega)]; exact v5 i a b) (fun i a b => by rw [n 7 _ (by omega) (by omega) (by omega) (by omega) (by omega) (by omega) (by omega) (by omega) (by omega), n 107 _ (by omega) (by omega) (by omega) (by omega) (by omega) (by omega) (by omega) (by omega) (by omega)]; exact v6 i a b) (fun i a b => by rw [n 107 7 (by omega) (by omega) (by omega) (by omega) (by omega) (by omega) (by omega) (by omega) (by omega)] at b; rw [n 8 _ (by omega) (by omega) (by omega) (by omega) (by omega) (by omega) (by omega) (by omega) (by omega), n 107 _ (by omega) (by omega) (by omega) (by omega) (by omega) (by omega) (by omega) (by omega) (by omega), n 107 _ (by omega) (by omega) (by omega) (by omega) (by omega) (by omega) (by omega) (by omega) (by omega)]; exact v7 i a b) ⟨by rw [n 1 8 (by omega) (by omega) (by omega) (by omega) (by omega) (by omega) (by omega) (by omega) (by omega), n 107 3 (by omega) (by omega) (by omega) (by omega) (by omega) (by omega) (by omega) (by omega) (by omega)]; exact v8, by rw [n 1 9 (by omega) (by omega) (by omega) (by omega) (by omega) (by omega) (by omega) (by omega) (by omega), n 107 6 (by omega) (by omega) (by omega) (by omega) (by omega) (by omega) (by omega) (by omega) (by omega)]; exact v9, by rw [n 1 10 (by omega) (by omega) (by omega) (by omega) (by omega) (by omega) (by omega) (by omega) (by omega), n 107 7 (by omega) (by omega) (by omega) (by omega) (by omega) (by omega) (by omega) (by omega) (by omega)]; exact v10, by rw [n 1 11 (by omega) (by omega) (by omega) (by omega) (by omega) (by omega) (by omega) (by omega) (by omega), n 107 4 (by omega) (by omega) (by omega) (by omega) (by omega) (by omega) (by omega) (by omega) (by omega)]; exact v11, by rw [n 1 12 (by omega) (by omega) (by omega) (by omega) (by omega) (by omega) (by omega) (by omega) (by omega), n 107 5 (by omega) (by omega) (by omega) (by omega) (by omega) (by omega) (by omega) (by omega) (by omega)]; exact v12⟩ (fun a i x y => n a i (by omega) (by omega) (by omega) (by omega) (by omega) (by omega) (by omega) (by omega) (by omega)) (fun i x => n 107 i (by omega) (by omega) (by omega) (by omega) (by omega) (by omega) (by omega) (by omega) (by omega))
  have hTS := h.2.1.1.2.1
  have fT : ∀ T, TS T → ∀ a i, T ≤ a → a ≤ T + 10 → J1 a i = J a i := fun T hT a i x y => by
    rcases hTS.2 T hT with rfl | rfl | u <;> exact n a i (by omega) (by omega) (by omega) (by omega) (by omega) (by omega) (by omega) (by omega) (by omega)
  have ac := AC_i (J1 := J1) (TrT_r (ρ := J 107) (ρ' := J1 107) (fun i x => n 107 i (by omega) (by omega) (by omega) (by omega) (by omega) (by omega) (by omega) (by omega) (by omega)) (TrT_j (fun a i x y => fT tr hTS.1 a i (by omega) y) h.2.1.2.1.1.1.1)) hB.2.2.2.2.1 hB.2.2.2.2.2.1
  have hl := hB.2.2.2.2.2.1
  have hE := h.2.1.2.1.1.2.2
  have e44 : J1 4 = J 4 := funext fun i => n _ _ (by omega) (by omega) (by omega) (by omega) (by omega) (by omega) (by omega) (by omega) (by omega)
  have e2' : J1 2 = J 2 := funext fun i => n _ _ (by omega) (by omega) (by omega) (by omega) (by omega) (by omega) (by omega) (by omega) (by omega)
  have W : PW tr TS z kd R J1 b4 b5 b6 b7 len sl := PW_G h.2.1 fT (fun a i x y => n a i (by omega) (by omega) (by omega) (by omega) (by omega) (by omega) (by omega) (by omega) (by omega)) (n _ _ (by omega) (by omega) (by omega) (by omega) (by omega) (by omega) (by omega) (by omega) (by omega)) ⟨ac.1, ac.2, by rw [n _ _ (by omega) (by omega) (by omega) (by omega) (by omega) (by omega) (by omega) (by omega) (by omega)]; exact hE.1, by rw [n _ _ (by omega) (by omega) (by omega) (by omega) (by omega) (by omega) (by omega) (by omega) (by omega)]; exact hE.2.1, Or.inl e7⟩ (Or.inl e1) ⟨hl.2.2.1, hl.1, hB.2.2.2.2.1⟩ (PlI_k h.2.1.2.2.2.1 (fun a i x => n a i (by omega) (by omega) (by omega) (by omega) (by omega) (by omega) (by omega) (by omega) (by omega))) (FiK_c (n _ _ (by omega) (by omega) (by omega) (by omega) (by omega) (by omega) (by omega) (by omega) (by omega)) e44 e2' (fun x i y w => n _ _ (by omega) (by omega) (by omega) (by omega) (by omega) (by omega) (by omega) (by omega) (by omega)) h.2.1.2.2.2.2.1) e7 e8
  refine InvA_G h hB W ?_ ?_ (n _ _ (by omega) (by omega) (by omega) (by omega) (by omega) (by omega) (by omega) (by omega) (by omega)) fT (fun i => n _ _ (by omega) (by omega) (by omega) (by omega) (by omega) (by omega) (by omega) (by omega) (by omega)) (fun _ => rfl)
  · exact CrI_1 ⟨e2, e3⟩
  · exact MxI_s h (fun a i x y => n a i (by omega) (by omega) (by omega) (by omega) (by omega) (by omega) (by omega) (by omega) (by omega)) (fun i x => n 107 i (by omega) (by omega) (by omega) (by omega) (by omega) (by omega) (by omega) (by omega) (by omega))
theorem ia_terms {w v : Int} (hd : 30 ≤ dp) (ht : t < 512) (h : InvA t tr TS z kd R J M b4 b5 b6 b7 len sl) : Ev (fun n => kf_28 n dp (z, kd, R) 0 J M w v) (fun r => Ev (fun n => kf_207 n dp (z, kd, R) 0 r.2.1 r.2.2 w v) (fun q => ∃ a, r.1 = a ∧ q.1 = a ∧ InvA (t + 1) tr TS z kd R q.2.1 q.2.2 b4 b5 b6 b7 len sl)) := by
  have hI := h.1
  have hI' := hI
  obtain ⟨q1, q2, q3, q4, q5, q6, q7, q8, q9⟩ := hI
  obtain ⟨u1, u2, u3, u4, u5, u6, u7, u8, u9, u10, u11, u12, u13, u14, u15, u16, u17⟩ := q5
  obtain ⟨v1, v2, v3, v4, v5, v6, v7, v8, v9, v10, v11, v12, v13, v14, v15, v16, v17⟩ := q6
  simp only [Nat.reduceAdd] at v1 v2 v3 v4 v5 v6 v7
  have s16 := q7.2.2.2.2.2.2.2.2.2.2.2.2.2.2.2
  refine o_terms (P := fun _ J' M' => InvA (t + 1) tr TS z kd R J' M' b4 b5 b6 b7 len sl) (by omega) (smO_Bs (by omega) q7) (fun h1 => by rw [show (4 : Int) + w = 4 by omega]; exact v11) (fun h1 => by rw [show (4 : Int) + w = 5 by omega]; exact v12) (fun _ => InvA_rf (by omega) h) (fun h1 => ?_) (fun h1 => ?_)
  · skip
    have n : ∀ (a : Nat) (i : Int), ¬ (a = 1 ∧ i = 11) → ¬ (a = 24 ∧ i = 13) → ¬ (a = 73 ∧ i = 15) → ¬ (a = 73 ∧ i = 16) → ¬ (a = 107 ∧ i = 4 + w) → ¬ (a = 0 ∧ i = 18) → ¬ (a = 105 ∧ i = 1) → ¬ (a = 105 ∧ i = 32) → ¬ (a = 105 ∧ i = 51) → okM (w2 (okC (fgC (w2 (w2 J 1 11 v) 24 13 1))) 107 (4 + w) v) a i = J a i := fun a i x0 x1 x2 x3 x4 x5 x6 x7 x8 => by
      unfold okM okC fgC
      simp (disch := omega) only [w2_n]
    have e0 : okM (w2 (okC (fgC (w2 (w2 J 1 11 v) 24 13 1))) 107 (4 + w) v) 1 (11) = v := by
      unfold okM okC fgC
      simp (disch := omega) only [w2_n, w2_p]
    have e1 : okM (w2 (okC (fgC (w2 (w2 J 1 11 v) 24 13 1))) 107 (4 + w) v) 24 (13) = 1 := by
      unfold okM okC fgC
      simp (disch := omega) only [w2_n, w2_p]
    have e2 : okM (w2 (okC (fgC (w2 (w2 J 1 11 v) 24 13 1))) 107 (4 + w) v) 73 (15) = 1 := by
      unfold okM okC fgC
      simp (disch := omega) only [w2_n, w2_p]
    have e3 : okM (w2 (okC (fgC (w2 (w2 J 1 11 v) 24 13 1))) 107 (4 + w) v) 73 (16) = 1 := by
      unfold okM okC fgC
      simp (disch := omega) only [w2_n, w2_p]
    have e4 : okM (w2 (okC (fgC (w2 (w2 J 1 11 v) 24 13 1))) 107 (4 + w) v) 107 (4 + w) = v := by
      unfold okM okC fgC
      simp (disch := omega) only [w2_n, w2_p]
    have e5 : okM (w2 (okC (fgC (w2 (w2 J 1 11 v) 24 13 1))) 107 (4 + w) v) 0 (18) = 0 := by
      unfold okM okC fgC
      simp (disch := omega) only [w2_n, w2_p]
    have e6 : okM (w2 (okC (fgC (w2 (w2 J 1 11 v) 24 13 1))) 107 (4 + w) v) 105 (1) = 0 := by
      unfold okM okC fgC
      simp (disch := omega) only [w2_n, w2_p]
    have e7 : okM (w2 (okC (fgC (w2 (w2 J 1 11 v) 24 13 1))) 107 (4 + w) v) 105 (32) = 0 := by
      unfold okM okC fgC
      simp (disch := omega) only [w2_n, w2_p]
    have e8 : okM (w2 (okC (fgC (w2 (w2 J 1 11 v) 24 13 1))) 107 (4 + w) v) 105 (51) = 0 := by
      unfold okM okC fgC
      simp (disch := omega) only [w2_n, w2_p]
    generalize okM (w2 (okC (fgC (w2 (w2 J 1 11 v) 24 13 1))) 107 (4 + w) v) = J1 at n e0 e1 e2 e3 e4 e5 e6 e7 e8 ⊢
    have hB : InvB (t + 1) tr z kd R J1 := by
      refine InvB_hall hI' (fun j => n _ _ (by omega) (by omega) (by omega) (by omega) (by omega) (by omega) (by omega) (by omega) (by omega)) (fun j => n _ _ (by omega) (by omega) (by omega) (by omega) (by omega) (by omega) (by omega) (by omega) (by omega)) (fun a ha j => n _ _ (by omega) (by omega) (by omega) (by omega) (by omega) (by omega) (by omega) (by omega) (by omega)) ?_ ?_ (smO_k q7 (fun a i x => n a i (by omega) (by omega) (by omega) (by omega) (by omega) (by omega) (by omega) (by omega) (by omega)) e5 e6 e7 e8 (by rw [n 24 12 (by omega) (by omega) (by omega) (by omega) (by omega) (by omega) (by omega) (by omega) (by omega)]; omega))
      · refine rwO_g hI'.2.2.2.2.1 (fun i a b => n 107 i (by omega) (by omega) (by omega) (by omega) (by omega) (by omega) (by omega) (by omega) (by omega)) (by rw [n 107 _ (by omega) (by omega) (by omega) (by omega) (by omega) (by omega) (by omega) (by omega) (by omega)]; exact u3) (by rw [show (4 : Int) = 4 + w by omega, e4]; omega) (by rw [n 107 _ (by omega) (by omega) (by omega) (by omega) (by omega) (by omega) (by omega) (by omega) (by omega)]; exact u5) (by rw [n 107 _ (by omega) (by omega) (by omega) (by omega) (by omega) (by omega) (by omega) (by omega) (by omega)]; exact u6) (by rw [n 107 _ (by omega) (by omega) (by omega) (by omega) (by omega) (by omega) (by omega) (by omega) (by omega)]; exact u7) (⟨n 107 _ (by omega) (by omega) (by omega) (by omega) (by omega) (by omega) (by omega) (by omega) (by omega), n 107 _ (by omega) (by omega) (by omega) (by omega) (by omega) (by omega) (by omega) (by omega) (by omega)⟩) (fun i a b => by rw [n 107 _ (by omega) (by omega) (by omega) (by omega) (by omega) (by omega) (by omega) (by omega) (by omega)]; exact u10 i a b) (fun i a b => n 107 i (by omega) (by omega) (by omega) (by omega) (by omega) (by omega) (by omega) (by omega) (by omega)) (fun i a b => by rw [n 107 _ (by omega) (by omega) (by omega) (by omega) (by omega) (by omega) (by omega) (by omega) (by omega)]; exact u14 i a b) (fun i a b => n 107 i (by omega) (by omega) (by omega) (by omega) (by omega) (by omega) (by omega) (by omega) (by omega)) (fun b a x => by rw [n 107 6 (by omega) (by omega) (by omega) (by omega) (by omega) (by omega) (by omega) (by omega) (by omega)] at x; rw [n 107 _ (by omega) (by omega) (by omega) (by omega) (by omega) (by omega) (by omega) (by omega) (by omega), n 107 _ (by omega) (by omega) (by omega) (by omega) (by omega) (by omega) (by omega) (by omega) (by omega), n 107 _ (by omega) (by omega) (by omega) (by omega) (by omega) (by omega) (by omega) (by omega) (by omega), n 107 _ (by omega) (by omega) (by omega) (by omega) (by omega) (by omega) (by omega) (by omega) (by omega), n 107 _ (by omega) (by omega) (by omega) (by omega) (by omega) (by omega) (by omega) (by omega) (by omega), n 107 _ (by omega) (by omega) (by omega) (by omega) (by omega) (by omega) (by omega) (by omega) (by omega), n 107 _ (by omega) (by omega) (by omega) (by omega) (by omega) (by omega) (by omega) (by omega) (by omega)]; exact u16 b a x) (fun i a x => by rw [n 107 7 (by omega) (by omega) (by omega) (by omega) (by omega) (by omega) (by omega) (by omega) (by omega)] at x; rw [n 107 _ (by omega) (by omega) (by omega) (by omega) (by omega) (by omega) (by omega) (by omega) (by omega), n 107 _ (by omega) (by omega) (by omega) (by omega) (by omega) (by omega) (by omega) (by omega) (by omega)]; exact u17 i a x)
      · refine hlC_g hI'.2.2.2.2.2.1 (fun c a b => by rw [n 2 _ (by omega) (by omega) (by omega) (by omega) (by omega) (by omega) (by omega) (by omega) (by omega), n 107 _ (by omega) (by omega) (by omega) (by omega) (by omega) (by omega) (by omega) (by omega) (by omega)]; exact v1 c a b) (fun i a b => by rw [n 3 _ (by omega) (by omega) (by omega) (by omega) (by omega) (by omega) (by omega) (by omega) (by omega), n 107 _ (by omega) (by omega) (by omega) (by omega) (by omega) (by omega) (by omega) (by omega) (by omega)]; exact v2 i a b) (fun i a b => by rw [n 4 _ (by omega) (by omega) (by omega) (by omega) (by omega) (by omega) (by omega) (by omega) (by omega), n 107 _ (by omega) (by omega) (by omega) (by omega) (by omega) (by omega) (by omega) (by omega) (by omega)]; exact v3 i a b) (fun i a b => by rw [n 5 _ (by omega) (by omega) (by omega) (by omega) (by omega) (by omega) (by omega) (by omega) (by omega), n 107 _ (by omega) (by omega) (by omega) (by omega) (by omega) (by omega) (by omega) (by omega) (by omega)]; exact v4 i a b) (fun i a b => by rw [n 6 _ (by omega) (by omega) (by omega) (by omega) (by omega) (by omega) (by omega) (by omega) (by omega), n 107 _ (by omega) (by omega) (by omega) (by omega) (by omega) (by omega) (by omega) (by omega) (by omega)]; exact v5 i a b) (fun i a b => by rw [n 7 _ (by omega) (by omega) (by omega) (by omega) (by omega) (by omega) (by omega) (by omega) (by omega), n 107 _ (by omega) (by omega) (by omega) (by omega) (by omega) (by omega) (by omega) (by omega) (by omega)]; exact v6 i a b) (fun i a b => by rw [n 107 7 (by omega) (by omega) (by omega) (by omega) (by omega) (by omega) (by omega) (by omega) (by omega)] at b; rw [n 8 _ (by omega) (by omega) (by omega) (by omega) (by omega) (by omega) (by omega) (by omega) (by omega), n 107 _ (by omega) (by omega) (by omega) (by omega) (by omega) (by omega) (by omega) (by omega) (by omega), n 107 _ (by omega) (by omega) (by omega) (by omega) (by omega) (by omega) (by omega) (by omega) (by omega)]; exact v7 i a b) ⟨by rw [n 1 8 (by omega) (by omega) (by omega) (by omega) (by omega) (by omega) (by omega) (by omega) (by omega), n 107 3 (by omega) (by omega) (by omega) (by omega) (by omega) (by omega) (by omega) (by omega) (by omega)]; exact v8, by rw [n 1 9 (by omega) (by omega) (by omega) (by omega) (by omega) (by omega) (by omega) (by omega) (by omega), n 107 6 (by omega) (by omega) (by omega) (by omega) (by omega) (by omega) (by omega) (by omega) (by omega)]; exact v9, by rw [n 1 10 (by omega) (by omega) (by omega) (by omega) (by omega) (by omega) (by omega) (by omega) (by omega), n 107 7 (by omega) (by omega) (by omega) (by omega) (by omega) (by omega) (by omega) (by omega) (by omega)]; exact v10, by rw [e0, show (4 : Int) = 4 + w by omega, e4], by rw [n 1 12 (by omega) (by omega) (by omega) (by omega) (by omega) (by omega) (by omega) (by omega) (by omega), n 107 5 (by omega) (by omega) (by omega) (by omega) (by omega) (by omega) (by omega) (by omega) (by omega)]; exact v12⟩ (fun a i x y => n a i (by omega) (by omega) (by omega) (by omega) (by omega) (by omega) (by omega) (by omega) (by omega)) (fun i x => n 107 i (by omega) (by omega) (by omega) (by omega) (by omega) (by omega) (by omega) (by omega) (by omega))
    have hTS := h.2.1.1.2.1
    have fT : ∀ T, TS T → ∀ a i, T ≤ a → a ≤ T + 10 → J1 a i = J a i := fun T hT a i x y => by
      rcases hTS.2 T hT with rfl | rfl | u <;> exact n a i (by omega) (by omega) (by omega) (by omega) (by omega) (by omega) (by omega) (by omega) (by omega)
    have ac := AC_i (J1 := J1) (TrT_r (ρ := J 107) (ρ' := J1 107) (fun i x => n 107 i (by omega) (by omega) (by omega) (by omega) (by omega) (by omega) (by omega) (by omega) (by omega)) (TrT_j (fun a i x y => fT tr hTS.1 a i (by omega) y) h.2.1.2.1.1.1.1)) hB.2.2.2.2.1 hB.2.2.2.2.2.1
    have hl := hB.2.2.2.2.2.1
    have hE := h.2.1.2.1.1.2.2
    have e44 : J1 4 = J 4 := funext fun i => n _ _ (by omega) (by omega) (by omega) (by omega) (by omega) (by omega) (by omega) (by omega) (by omega)
    have e2' : J1 2 = J 2 := funext fun i => n _ _ (by omega) (by omega) (by omega) (by omega) (by omega) (by omega) (by omega) (by omega) (by omega)
    have W : PW tr TS z kd R J1 b4 b5 b6 b7 len sl := PW_G h.2.1 fT (fun a i x y => n a i (by omega) (by omega) (by omega) (by omega) (by omega) (by omega) (by omega) (by omega) (by omega)) (n _ _ (by omega) (by omega) (by omega) (by omega) (by omega) (by omega) (by omega) (by omega) (by omega)) ⟨ac.1, ac.2, by rw [n _ _ (by omega) (by omega) (by omega) (by omega) (by omega) (by omega) (by omega) (by omega) (by omega)]; exact hE.1, by rw [n _ _ (by omega) (by omega) (by omega) (by omega) (by omega) (by omega) (by omega) (by omega) (by omega)]; exact hE.2.1, Or.inl e7⟩ (Or.inl e1) ⟨hl.2.2.1, hl.1, hB.2.2.2.2.1⟩ (PlI_k h.2.1.2.2.2.1 (fun a i x => n a i (by omega) (by omega) (by omega) (by omega) (by omega) (by omega) (by omega) (by omega) (by omega))) (FiK_c (n _ _ (by omega) (by omega) (by omega) (by omega) (by omega) (by omega) (by omega) (by omega) (by omega)) e44 e2' (fun x i y w => n _ _ (by omega) (by omega) (by omega) (by omega) (by omega) (by omega) (by omega) (by omega) (by omega)) h.2.1.2.2.2.2.1) e7 e8
    refine InvA_G h hB W ?_ ?_ (n _ _ (by omega) (by omega) (by omega) (by omega) (by omega) (by omega) (by omega) (by omega) (by omega)) fT (fun i => n _ _ (by omega) (by omega) (by omega) (by omega) (by omega) (by omega) (by omega) (by omega) (by omega)) (fun _ => rfl)
    · exact CrI_1 ⟨e2, e3⟩
    · exact MxI_s h (fun a i x y => n a i (by omega) (by omega) (by omega) (by omega) (by omega) (by omega) (by omega) (by omega) (by omega)) (fun i x => n 107 i (by omega) (by omega) (by omega) (by omega) (by omega) (by omega) (by omega) (by omega) (by omega))
  · skip
    have n : ∀ (a : Nat) (i : Int), ¬ (a = 1 ∧ i = 12) → ¬ (a = 107 ∧ i = 4 + w) → ¬ (a = 0 ∧ i = 18) → ¬ (a = 105 ∧ i = 1) → ¬ (a = 105 ∧ i = 32) → ¬ (a = 105 ∧ i = 51) → okM (w2 (okC (w2 J 1 12 v)) 107 (4 + w) v) a i = J a i := fun a i x0 x1 x2 x3 x4 x5 => by
      unfold okM okC
      simp (disch := omega) only [w2_n]
    have e0 : okM (w2 (okC (w2 J 1 12 v)) 107 (4 + w) v) 1 (12) = v := by
      unfold okM okC
      simp (disch := omega) only [w2_n, w2_p]
    have e1 : okM (w2 (okC (w2 J 1 12 v)) 107 (4 + w) v) 107 (4 + w) = v := by
      unfold okM okC
      simp (disch := omega) only [w2_n, w2_p]
    have e2 : okM (w2 (okC (w2 J 1 12 v)) 107 (4 + w) v) 0 (18) = 0 := by
      unfold okM okC
      simp (disch := omega) only [w2_n, w2_p]
    have e3 : okM (w2 (okC (w2 J 1 12 v)) 107 (4 + w) v) 105 (1) = 0 := by
      unfold okM okC
      simp (disch := omega) only [w2_n, w2_p]
    have e4 : okM (w2 (okC (w2 J 1 12 v)) 107 (4 + w) v) 105 (32) = 0 := by
      unfold okM okC
      simp (disch := omega) only [w2_n, w2_p]
    have e5 : okM (w2 (okC (w2 J 1 12 v)) 107 (4 + w) v) 105 (51) = 0 := by
      unfold okM okC
      simp (disch := omega) only [w2_n, w2_p]
    generalize okM (w2 (okC (w2 J 1 12 v)) 107 (4 + w) v) = J1 at n e0 e1 e2 e3 e4 e5 ⊢
    have hB : InvB (t + 1) tr z kd R J1 := by
      refine InvB_hall hI' (fun j => n _ _ (by omega) (by omega) (by omega) (by omega) (by omega) (by omega)) (fun j => n _ _ (by omega) (by omega) (by omega) (by omega) (by omega) (by omega)) (fun a ha j => n _ _ (by omega) (by omega) (by omega) (by omega) (by omega) (by omega)) ?_ ?_ (smO_k q7 (fun a i x => n a i (by omega) (by omega) (by omega) (by omega) (by omega) (by omega)) e2 e3 e4 e5 (by rw [n 24 12 (by omega) (by omega) (by omega) (by omega) (by omega) (by omega)]; omega))
      · refine rwO_g hI'.2.2.2.2.1 (fun i a b => n 107 i (by omega) (by omega) (by omega) (by omega) (by omega) (by omega)) (by rw [n 107 _ (by omega) (by omega) (by omega) (by omega) (by omega) (by omega)]; exact u3) (by rw [n 107 _ (by omega) (by omega) (by omega) (by omega) (by omega) (by omega)]; exact u4) (by rw [show (5 : Int) = 4 + w by omega, e1]; omega) (by rw [n 107 _ (by omega) (by omega) (by omega) (by omega) (by omega) (by omega)]; exact u6) (by rw [n 107 _ (by omega) (by omega) (by omega) (by omega) (by omega) (by omega)]; exact u7) (⟨n 107 _ (by omega) (by omega) (by omega) (by omega) (by omega) (by omega), n 107 _ (by omega) (by omega) (by omega) (by omega) (by omega) (by omega)⟩) (fun i a b => by rw [n 107 _ (by omega) (by omega) (by omega) (by omega) (by omega) (by omega)]; exact u10 i a b) (fun i a b => n 107 i (by omega) (by omega) (by omega) (by omega) (by omega) (by omega)) (fun i a b => by rw [n 107 _ (by omega) (by omega) (by omega) (by omega) (by omega) (by omega)]; exact u14 i a b) (fun i a b => n 107 i (by omega) (by omega) (by omega) (by omega) (by omega) (by omega)) (fun b a x => by rw [n 107 6 (by omega) (by omega) (by omega) (by omega) (by omega) (by omega)] at x; rw [n 107 _ (by omega) (by omega) (by omega) (by omega) (by omega) (by omega), n 107 _ (by omega) (by omega) (by omega) (by omega) (by omega) (by omega), n 107 _ (by omega) (by omega) (by omega) (by omega) (by omega) (by omega), n 107 _ (by omega) (by omega) (by omega) (by omega) (by omega) (by omega), n 107 _ (by omega) (by omega) (by omega) (by omega) (by omega) (by omega), n 107 _ (by omega) (by omega) (by omega) (by omega) (by omega) (by omega), n 107 _ (by omega) (by omega) (by omega) (by omega) (by omega) (by omega)]; exact u16 b a x) (fun i a x => by rw [n 107 7 (by omega) (by omega) (by omega) (by omega) (by omega) (by omega)] at x; rw [n 107 _ (by omega) (by omega) (by omega) (by omega) (by omega) (by omega), n 107 _ (by omega) (by omega) (by omega) (by omega) (by omega) (by omega)]; exact u17 i a x)
      · refine hlC_g hI'.2.2.2.2.2.1 (fun c a b => by rw [n 2 _ (by omega) (by omega) (by omega) (by omega) (by omega) (by omega), n 107 _ (by omega) (by omega) (by omega) (by omega) (by omega) (by omega)]; exact v1 c a b) (fun i a b => by rw [n 3 _ (by omega) (by omega) (by omega) (by omega) (by omega) (by omega), n 107 _ (by omega) (by omega) (by omega) (by omega) (by omega) (by omega)]; exact v2 i a b) (fun i a b => by rw [n 4 _ (by omega) (by omega) (by omega) (by omega) (by omega) (by omega), n 107 _ (by omega) (by omega) (by omega) (by omega) (by omega) (by omega)]; exact v3 i a b) (fun i a b => by rw [n 5 _ (by omega) (by omega) (by omega) (by omega) (by omega) (by omega), n 107 _ (by omega) (by omega) (by omega) (by omega) (by omega) (by omega)]; exact v4 i a b) (fun i a b => by rw [n 6 _ (by omega) (by omega) (by omega) (by omega) (by omega) (by omega), n 107 _ (by omega) (by omega) (by omega) (by omega) (by omega) (by omega)]; exact v5 i a b) (fun i a b => by rw [n 7 _ (by omega) (by omega) (by omega) (by omega) (by omega) (by omega), n 107 _ (by omega) (by omega) (by omega) (by omega) (by omega) (by omega)]; exact v6 i a b) (fun i a b => by rw [n 107 7 (by omega) (by omega) (by omega) (by omega) (by omega) (by omega)] at b; rw [n 8 _ (by omega) (by omega) (by omega) (by omega) (by omega) (by omega), n 107 _ (by omega) (by omega) (by omega) (by omega) (by omega) (by omega), n 107 _ (by omega) (by omega) (by omega) (by omega) (by omega) (by omega)]; exact v7 i a b) ⟨by rw [n 1 8 (by omega) (by omega) (by omega) (by omega) (by omega) (by omega), n 107 3 (by omega) (by omega) (by omega) (by omega) (by omega) (by omega)]; exact v8, by rw [n 1 9 (by omega) (by omega) (by omega) (by omega) (by omega) (by omega), n 107 6 (by omega) (by omega) (by omega) (by omega) (by omega) (by omega)]; exact v9, by rw [n 1 10 (by omega) (by omega) (by omega) (by omega) (by omega) (by omega), n 107 7 (by omega) (by omega) (by omega) (by omega) (by omega) (by omega)]; exact v10, by rw [n 1 11 (by omega) (by omega) (by omega) (by omega) (by omega) (by omega), n 107 4 (by omega) (by omega) (by omega) (by omega) (by omega) (by omega)]; exact v11, by rw [e0, show (5 : Int) = 4 + w by omega, e1]⟩ (fun a i x y => n a i (by omega) (by omega) (by omega) (by omega) (by omega) (by omega)) (fun i x => n 107 i (by omega) (by omega) (by omega) (by omega) (by omega) (by omega))
    refine InvA_s h hB (fun a i x y w => n a i (fun s => by first | exact x (by unfold XS1; omega) | exact y (by omega) | exact w ⟨by omega, by unfold ySm; omega⟩) (fun s => by first | exact x (by unfold XS1; omega) | exact y (by omega) | exact w ⟨by omega, by unfold ySm; omega⟩) (fun s => by first | exact x (by unfold XS1; omega) | exact y (by omega) | exact w ⟨by omega, by unfold ySm; omega⟩) (fun s => by first | exact x (by unfold XS1; omega) | exact y (by omega) | exact w ⟨by omega, by unfold ySm; omega⟩) (fun s => by first | exact x (by unfold XS1; omega) | exact y (by omega) | exact w ⟨by omega, by unfold ySm; omega⟩) (fun s => by first | exact x (by unfold XS1; omega) | exact y (by omega) | exact w ⟨by omega, by unfold ySm; omega⟩)) (Or.inr ⟨e4, e5⟩) ?_ ?_ (fun _ => rfl)
    · exact CrI_s h (fun a i x y => n a i (by omega) (by omega) (by omega) (by omega) (by omega) (by omega)) (fun i x => n 107 i (by omega) (by omega) (by omega) (by omega) (by omega) (by omega))
    · exact MxI_s h (fun a i x y => n a i (by omega) (by omega) (by omega) (by omega) (by omega) (by omega)) (fun i x => n 107 i (by omega) (by omega) (by omega) (by omega) (by omega) (by omega))
theorem ia_carcasses {c m : Int} (hd : 30 ≤ dp) (ht : t < 512) (h : InvA t tr TS z kd R J M b4 b5 b6 b7 len sl) : Ev (fun n => kf_13 n dp (z, kd, R) 0 J M c m) (fun r => Ev (fun n => kf_196 n dp (z, kd, R) 0 r.2.1 r.2.2 c m) (fun q => ∃ a, r.1 = a ∧ q.1 = a ∧ InvA (t + 1) tr TS z kd R q.2.1 q.2.2 b4 b5 b6 b7 len sl)) := by
  have hI := h.1
  have hI' := hI
  obtain ⟨q1, q2, q3, q4, q5, q6, q7, q8, q9⟩ := hI
  obtain ⟨u1, u2, u3, u4, u5, u6, u7, u8, u9, u10, u11, u12, u13, u14, u15, u16, u17⟩ := q5
  obtain ⟨v1, v2, v3, v4, v5, v6, v7, v8, v9, v10, v11, v12, v13, v14, v15, v16, v17⟩ := q6
  simp only [Nat.reduceAdd] at v1 v2 v3 v4 v5 v6 v7
  have s16 := q7.2.2.2.2.2.2.2.2.2.2.2.2.2.2.2
  refine Ev_2i (A := fun J' M' => InvA (t + 1) tr TS z kd R J' M' b4 b5 b6 b7 len sl) (B := fun J' => InvB (t + 1) tr z kd R J') (iv_carcasses (dp := dp) (M := M) (by omega) ht hI') (o_carcasses (dp := dp) (e := (z, kd, R)) (P := fun _ J' M' => InvB (t + 1) tr z kd R J' → InvA (t + 1) tr TS z kd R J' M' b4 b5 b6 b7 len sl) (by omega) (smO_Bs (by omega) q7) ⟨v1 0 (by omega) (by omega), u1 0 (by omega) (by omega)⟩ ⟨v1 1 (by omega) (by omega), u1 1 (by omega) (by omega)⟩ ⟨v1 2 (by omega) (by omega), u1 2 (by omega) (by omega)⟩ (fun h1 => ⟨v1 c (by omega) (by omega), u1 c (by omega) (by omega)⟩) (fun _ _ => InvA_rf (by omega) h) (fun _ _ _ => InvA_rf (by omega) h) (fun h1 h2 hB => ?_))
  have n : ∀ (a : Nat) (i : Int), ¬ (a = 2 ∧ i = c) → ¬ (a = 24 ∧ i = 15) → ¬ (a = 73 ∧ i = 15) → ¬ (a = 73 ∧ i = 16) → ¬ (a = 107 ∧ i = c) → ¬ (a = 0 ∧ i = 18) → ¬ (a = 105 ∧ i = 1) → ¬ (a = 105 ∧ i = 32) → ¬ (a = 105 ∧ i = 51) → okM (w2 (okC (fgC (w2 (w2 J 2 c m) 24 15 1))) 107 c m) a i = J a i := fun a i x0 x1 x2 x3 x4 x5 x6 x7 x8 => by
    unfold okM okC fgC
    simp (disch := omega) only [w2_n]
  have e0 : okM (w2 (okC (fgC (w2 (w2 J 2 c m) 24 15 1))) 107 c m) 2 (c) = m := by
    unfold okM okC fgC
    simp (disch := omega) only [w2_n, w2_p]
  have e1 : okM (w2 (okC (fgC (w2 (w2 J 2 c m) 24 15 1))) 107 c m) 24 (15) = 1 := by
    unfold okM okC fgC
    simp (disch := omega) only [w2_n, w2_p]
  have e2 : okM (w2 (okC (fgC (w2 (w2 J 2 c m) 24 15 1))) 107 c m) 73 (15) = 1 := by
    unfold okM okC fgC
    simp (disch := omega) only [w2_n, w2_p]
  have e3 : okM (w2 (okC (fgC (w2 (w2 J 2 c m) 24 15 1))) 107 c m) 73 (16) = 1 := by
    unfold okM okC fgC
    simp (disch := omega) only [w2_n, w2_p]
  have e4 : okM (w2 (okC (fgC (w2 (w2 J 2 c m) 24 15 1))) 107 c m) 107 (c) = m := by
    unfold okM okC fgC
    simp (disch := omega) only [w2_n, w2_p]
  have e5 : okM (w2 (okC (fgC (w2 (w2 J 2 c m) 24 15 1))) 107 c m) 0 (18) = 0 := by
    unfold okM okC fgC
    simp (disch := omega) only [w2_n, w2_p]
  have e6 : okM (w2 (okC (fgC (w2 (w2 J 2 c m) 24 15 1))) 107 c m) 105 (1) = 0 := by
    unfold okM okC fgC
    simp (disch := omega) only [w2_n, w2_p]
  have e7 : okM (w2 (okC (fgC (w2 (w2 J 2 c m) 24 15 1))) 107 c m) 105 (32) = 0 := by
    unfold okM okC fgC
    simp (disch := omega) only [w2_n, w2_p]
  have e8 : okM (w2 (okC (fgC (w2 (w2 J 2 c m) 24 15 1))) 107 c m) 105 (51) = 0 := by
    unfold okM okC fgC
    simp (disch := omega) only [w2_n, w2_p]
  generalize okM (w2 (okC (fgC (w2 (w2 J 2 c m) 24 15 1))) 107 c m) = J1 at hB n e0 e1 e2 e3 e4 e5 e6 e7 e8 ⊢
  have hTS := h.2.1.1.2.1
  have fT : ∀ T, TS T → ∀ a i, T ≤ a → a ≤ T + 10 → J1 a i = J a i := fun T hT a i x y => by
    rcases hTS.2 T hT with rfl | rfl | u <;> exact n a i (by omega) (by omega) (by omega) (by omega) (by omega) (by omega) (by omega) (by omega) (by omega)
  have ac := AC_i (J1 := J1) (TrT_r (ρ := J 107) (ρ' := J1 107) (fun i x => n 107 i (by omega) (by omega) (by omega) (by omega) (by omega) (by omega) (by omega) (by omega) (by omega)) (TrT_j (fun a i x y => fT tr hTS.1 a i (by omega) y) h.2.1.2.1.1.1.1)) hB.2.2.2.2.1 hB.2.2.2.2.2.1
  have hl := hB.2.2.2.2.2.1
  have hE := h.2.1.2.1.1.2.2
  have W : PW tr TS z kd R J1 b4 b5 b6 b7 len sl := PW_G h.2.1 fT (fun a i x y => n a i (by omega) (by omega) (by omega) (by omega) (by omega) (by omega) (by omega) (by omega) (by omega)) (n _ _ (by omega) (by omega) (by omega) (by omega) (by omega) (by omega) (by omega) (by omega) (by omega)) ⟨ac.1, ac.2, by rw [n _ _ (by omega) (by omega) (by omega) (by omega) (by omega) (by omega) (by omega) (by omega) (by omega)]; exact hE.1, by rw [n _ _ (by omega) (by omega) (by omega) (by omega) (by omega) (by omega) (by omega) (by omega) (by omega)]; exact hE.2.1, Or.inl e7⟩ (Or.inr ⟨n _ _ (by omega) (by omega) (by omega) (by omega) (by omega) (by omega) (by omega) (by omega) (by omega), fun i x => n 107 i (by omega) (by omega) (by omega) (by omega) (by omega) (by omega) (by omega) (by omega) (by omega)⟩) ⟨hl.2.2.1, hl.1, hB.2.2.2.2.1⟩ (PlI_k h.2.1.2.2.2.1 (fun a i x => n a i (by omega) (by omega) (by omega) (by omega) (by omega) (by omega) (by omega) (by omega) (by omega))) (fun w => by omega) e7 e8
  refine InvA_G h hB W ?_ ?_ (n _ _ (by omega) (by omega) (by omega) (by omega) (by omega) (by omega) (by omega) (by omega) (by omega)) fT (fun i => n _ _ (by omega) (by omega) (by omega) (by omega) (by omega) (by omega) (by omega) (by omega) (by omega)) (fun _ => rfl)
  · exact CrI_1 ⟨e2, e3⟩
  · exact MxI_s h (fun a i x y => n a i (by omega) (by omega) (by omega) (by omega) (by omega) (by omega) (by omega) (by omega) (by omega)) (fun i x => n 107 i (by omega) (by omega) (by omega) (by omega) (by omega) (by omega) (by omega) (by omega) (by omega))
theorem ia_put {p w v : Int} (hd : 30 ≤ dp) (ht : t < 512) (h : InvA t tr TS z kd R J M b4 b5 b6 b7 len sl) : Ev (fun n => kf_23 n dp (z, kd, R) 0 J M p w v 0 0) (fun r => Ev (fun n => kf_203 n dp (z, kd, R) 0 r.2.1 r.2.2 p w v) (fun q => ∃ a, r.1 = a ∧ q.1 = a ∧ InvA (t + 1) tr TS z kd R q.2.1 q.2.2 b4 b5 b6 b7 len sl)) := by
  have hI := h.1
  have hI' := hI
  obtain ⟨q1, q2, q3, q4, q5, q6, q7, q8, q9⟩ := hI
  obtain ⟨u1, u2, u3, u4, u5, u6, u7, u8, u9, u10, u11, u12, u13, u14, u15, u16, u17⟩ := q5
  obtain ⟨v1, v2, v3, v4, v5, v6, v7, v8, v9, v10, v11, v12, v13, v14, v15, v16, v17⟩ := q6
  simp only [Nat.reduceAdd] at v1 v2 v3 v4 v5 v6 v7
  have s16 := q7.2.2.2.2.2.2.2.2.2.2.2.2.2.2.2
  have hm : sm (odM J) 10 ≤ 5 := u13
  have hm0 := sm_b (B := 1) 10 (fun i _ _ => odM_b J i)
  have hs : sm (odC J) 10 = sm (odM J) 10 := sm_congr 10 (fun i a b => by
    show (if J 4 (20 + i) ≤ 0 then (0 : Int) else 1) = if J 107 (60 + i) ≤ 0 then 0 else 1
    rw [v3 (20 + i) (by omega) (by omega), show (40 : Int) + (20 + i) = 60 + i by omega])
  have hE0 := h.2.1.2.1.1.2.2.1
  have hE1 := InvA_E h ht
  refine Ev_2i (A := fun J' M' => InvA (t + 1) tr TS z kd R J' M' b4 b5 b6 b7 len sl) (B := fun J' => InvB (t + 1) tr z kd R J') (iv_put (dp := dp) (M := M) (by omega) ht hI') (o_put (dp := dp) (e := (z, kd, R)) (P := fun _ J' M' => InvB (t + 1) tr z kd R J' → InvA (t + 1) tr TS z kd R J' M' b4 b5 b6 b7 len sl) (by omega) (smO_Bs (by omega) q7) (fun h1 h2 => ?_) hs ⟨hm0.1, hm⟩ hE0 (fun _ _ => InvA_rf (by omega) h) (fun _ _ _ _ => InvA_rf (by omega) h) (fun h1 h2 hB => ?_))
  · rw [v3 _ (by omega) (by omega)]; congr 1; omega
  have n : ∀ (a : Nat) (i : Int), ¬ (a = 4 ∧ i = w * 10 + p) → ¬ (a = 24 ∧ i = 14) → ¬ (a = 24 ∧ i = 15) → ¬ (a = 24 ∧ i = 12) → ¬ (a = 73 ∧ i = 15) → ¬ (a = 73 ∧ i = 16) → ¬ (a = 107 ∧ i = 40 + 10 * w + p) → ¬ (a = 0 ∧ i = 18) → ¬ (a = 105 ∧ i = 1) → ¬ (a = 105 ∧ i = 32) → ¬ (a = 105 ∧ i = 51) → okM (w2 (okC (fgC (fpC (w2 J 4 (w * 10 + p) v)))) 107 (40 + 10 * w + p) v) a i = J a i := fun a i x0 x1 x2 x3 x4 x5 x6 x7 x8 x9 x10 => by
    unfold okM okC fgC fpC
    simp (disch := omega) only [w2_n]
  have e0 : okM (w2 (okC (fgC (fpC (w2 J 4 (w * 10 + p) v)))) 107 (40 + 10 * w + p) v) 4 (w * 10 + p) = v := by
    unfold okM okC fgC fpC
    simp (disch := omega) only [w2_n, w2_p]
  have e1 : okM (w2 (okC (fgC (fpC (w2 J 4 (w * 10 + p) v)))) 107 (40 + 10 * w + p) v) 24 (14) = 1 := by
    unfold okM okC fgC fpC
    simp (disch := omega) only [w2_n, w2_p]
  have e2 : okM (w2 (okC (fgC (fpC (w2 J 4 (w * 10 + p) v)))) 107 (40 + 10 * w + p) v) 24 (15) = 1 := by
    unfold okM okC fgC fpC
    simp (disch := omega) only [w2_n, w2_p]
  have e3 : okM (w2 (okC (fgC (fpC (w2 J 4 (w * 10 + p) v)))) 107 (40 + 10 * w + p) v) 24 (12) = J 24 12 + 1 := by
    unfold okM okC fgC fpC
    simp (disch := omega) only [w2_n, w2_p]
  have e4 : okM (w2 (okC (fgC (fpC (w2 J 4 (w * 10 + p) v)))) 107 (40 + 10 * w + p) v) 73 (15) = 1 := by
    unfold okM okC fgC fpC
    simp (disch := omega) only [w2_n, w2_p]
  have e5 : okM (w2 (okC (fgC (fpC (w2 J 4 (w * 10 + p) v)))) 107 (40 + 10 * w + p) v) 73 (16) = 1 := by
    unfold okM okC fgC fpC
    simp (disch := omega) only [w2_n, w2_p]
  have e6 : okM (w2 (okC (fgC (fpC (w2 J 4 (w * 10 + p) v)))) 107 (40 + 10 * w + p) v) 107 (40 + 10 * w + p) = v := by
    unfold okM okC fgC fpC
    simp (disch := omega) only [w2_n, w2_p]
  have e7 : okM (w2 (okC (fgC (fpC (w2 J 4 (w * 10 + p) v)))) 107 (40 + 10 * w + p) v) 0 (18) = 0 := by
    unfold okM okC fgC fpC
    simp (disch := omega) only [w2_n, w2_p]
  have e8 : okM (w2 (okC (fgC (fpC (w2 J 4 (w * 10 + p) v)))) 107 (40 + 10 * w + p) v) 105 (1) = 0 := by
    unfold okM okC fgC fpC
    simp (disch := omega) only [w2_n, w2_p]
  have e9 : okM (w2 (okC (fgC (fpC (w2 J 4 (w * 10 + p) v)))) 107 (40 + 10 * w + p) v) 105 (32) = 0 := by
    unfold okM okC fgC fpC
    simp (disch := omega) only [w2_n, w2_p]
  have e10 : okM (w2 (okC (fgC (fpC (w2 J 4 (w * 10 + p) v)))) 107 (40 + 10 * w + p) v) 105 (51) = 0 := by
    unfold okM okC fgC fpC
    simp (disch := omega) only [w2_n, w2_p]
  generalize okM (w2 (okC (fgC (fpC (w2 J 4 (w * 10 + p) v)))) 107 (40 + 10 * w + p) v) = J1 at hB n e0 e1 e2 e3 e4 e5 e6 e7 e8 e9 e10 ⊢
  have hTS := h.2.1.1.2.1
  have fT : ∀ T, TS T → ∀ a i, T ≤ a → a ≤ T + 10 → J1 a i = J a i := fun T hT a i x y => by
    rcases hTS.2 T hT with rfl | rfl | u <;> exact n a i (by omega) (by omega) (by omega) (by omega) (by omega) (by omega) (by omega) (by omega) (by omega) (by omega) (by omega)
  have ac := AC_i (J1 := J1) (TrT_r (ρ := J 107) (ρ' := J1 107) (fun i x => n 107 i (by omega) (by omega) (by omega) (by omega) (by omega) (by omega) (by omega) (by omega) (by omega) (by omega) (by omega)) (TrT_j (fun a i x y => fT tr hTS.1 a i (by omega) y) h.2.1.2.1.1.1.1)) hB.2.2.2.2.1 hB.2.2.2.2.2.1
  have hl := hB.2.2.2.2.2.1
  have hE := h.2.1.2.1.1.2.2
  have W : PW tr TS z kd R J1 b4 b5 b6 b7 len sl := PW_G h.2.1 fT (fun a i x y => n a i (by omega) (by omega) (by omega) (by omega) (by omega) (by omega) (by omega) (by omega) (by omega) (by omega) (by omega)) (n _ _ (by omega) (by omega) (by omega) (by omega) (by omega) (by omega) (by omega) (by omega) (by omega) (by omega) (by omega)) ⟨ac.1, ac.2, by rw [e3]; omega, by rw [n _ _ (by omega) (by omega) (by omega) (by omega) (by omega) (by omega) (by omega) (by omega) (by omega) (by omega) (by omega)]; exact hE.2.1, Or.inl e9⟩ (Or.inr ⟨n _ _ (by omega) (by omega) (by omega) (by omega) (by omega) (by omega) (by omega) (by omega) (by omega) (by omega) (by omega), fun i x => n 107 i (by omega) (by omega) (by omega) (by omega) (by omega) (by omega) (by omega) (by omega) (by omega) (by omega) (by omega)⟩) ⟨hl.2.2.1, hl.1, hB.2.2.2.2.1⟩ (PlI_f h.2.1.2.2.2.1 h.2.1.2.2.2.1.1.2.2.2.1 (fun a i x => n a i (by omega) (by omega) (by omega) (by omega) (by omega) (by omega) (by omega) (by omega) (by omega) (by omega) (by omega)) e1 e3) (fun w => by omega) e9 e10
  refine InvA_G h hB W ?_ ?_ (n _ _ (by omega) (by omega) (by omega) (by omega) (by omega) (by omega) (by omega) (by omega) (by omega) (by omega) (by omega)) fT (fun i => n _ _ (by omega) (by omega) (by omega) (by omega) (by omega) (by omega) (by omega) (by omega) (by omega) (by omega) (by omega)) (fun _ => rfl)
  · exact CrI_1 ⟨e4, e5⟩
  · exact MxI_s h (fun a i x y => n a i (by omega) (by omega) (by omega) (by omega) (by omega) (by omega) (by omega) (by omega) (by omega) (by omega) (by omega)) (fun i x => n 107 i (by omega) (by omega) (by omega) (by omega) (by omega) (by omega) (by omega) (by omega) (by omega) (by omega) (by omega))
end OPB
