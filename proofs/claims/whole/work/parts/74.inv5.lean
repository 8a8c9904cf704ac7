/-! THE INVARIANT 5: count, way -/
theorem TrO_9 {z : Nat} {kd : KD} {R : RF} (h : Sh z kd R) : TrO (z, kd, R) 9 := by
  have k : ∀ (a : Nat) (v : Nat × Nat), a < 144 → kd0.getD a (0, 0) = v → kd a = v := fun a v ha e => sk h a ha e
  have l : ∀ a, a < 144 → a < z := fun a ha => zl h a ha
  have ar : ∀ a L, a < 144 → kd0.getD a (0, 0) = (13, L) → arO (z, kd, R) a L := fun a L ha e => ⟨l a ha, by show (kd a).1 = 13; rw [k a _ ha e], by show (kd a).2 = L; rw [k a _ ha e]⟩
  exact ⟨⟨l 9 (by decide), by show (kd 9).1 = 10; rw [k 9 (10, 0) (by decide) rfl]⟩, ⟨r_9_0 h, ar 10 24 (by decide) rfl⟩, ⟨r_9_1 h, ar 11 24 (by decide) rfl⟩, ⟨r_9_2 h, ar 12 24 (by decide) rfl⟩, ⟨r_9_3 h, ar 13 24 (by decide) rfl⟩, ⟨r_9_4 h, ar 14 24 (by decide) rfl⟩, ⟨r_9_5 h, ar 15 16 (by decide) rfl⟩, ⟨r_9_6 h, ar 16 16 (by decide) rfl⟩, ⟨r_9_7 h, ar 17 160 (by decide) rfl⟩, ⟨r_9_8 h, ar 18 400 (by decide) rfl⟩, ⟨r_9_9 h, ar 19 400 (by decide) rfl⟩⟩
theorem TrO_93 {z : Nat} {kd : KD} {R : RF} (h : Sh z kd R) : TrO (z, kd, R) 93 := by
  have k : ∀ (a : Nat) (v : Nat × Nat), a < 144 → kd0.getD a (0, 0) = v → kd a = v := fun a v ha e => sk h a ha e
  have l : ∀ a, a < 144 → a < z := fun a ha => zl h a ha
  have ar : ∀ a L, a < 144 → kd0.getD a (0, 0) = (13, L) → arO (z, kd, R) a L := fun a L ha e => ⟨l a ha, by show (kd a).1 = 13; rw [k a _ ha e], by show (kd a).2 = L; rw [k a _ ha e]⟩
  exact ⟨⟨l 93 (by decide), by show (kd 93).1 = 10; rw [k 93 (10, 0) (by decide) rfl]⟩, ⟨r_93_0 h, ar 94 24 (by decide) rfl⟩, ⟨r_93_1 h, ar 95 24 (by decide) rfl⟩, ⟨r_93_2 h, ar 96 24 (by decide) rfl⟩, ⟨r_93_3 h, ar 97 24 (by decide) rfl⟩, ⟨r_93_4 h, ar 98 24 (by decide) rfl⟩, ⟨r_93_5 h, ar 99 16 (by decide) rfl⟩, ⟨r_93_6 h, ar 100 16 (by decide) rfl⟩, ⟨r_93_7 h, ar 101 160 (by decide) rfl⟩, ⟨r_93_8 h, ar 102 400 (by decide) rfl⟩, ⟨r_93_9 h, ar 103 400 (by decide) rfl⟩⟩
theorem TrO_sh {z : Nat} {kd : KD} {R : RF} {tr : Nat} (h : Sh z kd R) (ht : tr = 9 ∨ tr = 93) : TrO (z, kd, R) tr := by
  rcases ht with rfl | rfl
  · exact TrO_9 h
  · exact TrO_93 h
section OPS
variable {dp : Nat} {z : Nat} {kd : KD} {R : RF} {J M : JI}
theorem iv_way {t tr : Nat} {w x : Int} (hd : 5 ≤ dp) (ht : t < 512) (hI : InvB t tr z kd R J) : Ev (fun n => kf_68 n dp (z, kd, R) 0 J M w x) (fun r => Ev (fun n => kf_238 n dp (z, kd, R) 0 r.2.1 r.2.2 w x) (fun q => ∃ a, r.1 = a ∧ q.1 = a ∧ InvB (t + 1) tr z kd R q.2.1)) := by
  have hI' := hI
  obtain ⟨q1, q2, q3, q4, q5, q6, q7, q8, q9⟩ := hI
  obtain ⟨u1, u2, u3, u4, u5, u6, u7, u8, u9, u10, u11, u12, u13, u14, u15, u16, u17⟩ := q5
  obtain ⟨v1, v2, v3, v4, v5, v6, v7, v8, v9, v10, v11, v12, v13, v14, v15, v16, v17⟩ := q6
  simp only [Nat.reduceAdd] at v1 v2 v3 v4 v5 v6 v7
  refine o_way (P := fun _ J' _ => InvB (t + 1) tr z kd R J') (by omega) (smO_Bs (by omega) q7) q3.2.2.2.2.2.2.2.2 (TrO_sh q2 q1) v14 u9 (fun h h' => v15 w h h') (fun h h' a b => ?_) (fun _ => InvB_up hI')
  have := v16 w (x - 10) h h' (by omega) (by omega)
  rwa [show w * 10 + (x - 10) = w * 10 + x - 10 by omega] at this
theorem iv_count {t tr : Nat} {w : Int} (hd : 5 ≤ dp) (ht : t < 512) (hI : InvB t tr z kd R J) : Ev (fun n => kf_188 n dp (z, kd, R) 0 J M w) (fun r => Ev (fun n => kf_304 n dp (z, kd, R) 0 r.2.1 r.2.2 w  0 0) (fun q => ∃ a, r.1 = a ∧ q.1 = a ∧ InvB (t + 1) tr z kd R q.2.1)) := by
  have hI' := hI
  obtain ⟨q1, q2, q3, q4, q5, q6, q7, q8, q9⟩ := hI
  obtain ⟨u1, u2, u3, u4, u5, u6, u7, u8, u9, u10, u11, u12, u13, u14, u15, u16, u17⟩ := q5
  obtain ⟨v1, v2, v3, v4, v5, v6, v7, v8, v9, v10, v11, v12, v13, v14, v15, v16, v17⟩ := q6
  simp only [Nat.reduceAdd] at v1 v2 v3 v4 v5 v6 v7
  obtain ⟨N, hN⟩ : ∃ N : Nat, J 107 6 = N := ⟨(J 107 6).toNat, by omega⟩
  obtain ⟨s1, s2, s3, s4, s5, s6, s7, s8, s9, s10, s11, s12, s13, s14, s15, s16⟩ := q7
  refine o_count (P := fun _ J' _ => InvB (t + 1) tr z kd R J') (N := N) (tr := tr) (by omega) (smO_Bs (by omega) hI'.2.2.2.2.2.2.1) ⟨v1 0 (by decide) (by decide), u1 0 (by decide) (by decide)⟩ ⟨v1 1 (by decide) (by decide), u1 1 (by decide) (by decide)⟩ ⟨v1 2 (by decide) (by decide), u1 2 (by decide) (by decide)⟩ q3.2.2.2.2.2.2.2.2 (TrO_sh q2 q1).1 v13 v14 v8 (by omega) hN (by omega) (fun b b0 b1 => ⟨?_, (u16 b b0 (by omega)).2⟩) v10 (sm_congr 10 (fun i a b => ?_)) s9.1 s4.1 s5.1 s6.1 s7.1 s8.1 (fun _ => InvB_up hI')
  · show J 7 (b * 7 + 6) = J 107 (90 + 7 * b + 6)
    rw [v6 _ (by omega) (by omega)]; congr 1; omega
  · show (if J 4 (20 + i) ≤ 0 then (0 : Int) else 1) = if J 107 (60 + i) ≤ 0 then 0 else 1
    rw [v3 (20 + i) (by omega) (by omega), show (40 : Int) + (20 + i) = 60 + i by omega]
end OPS
