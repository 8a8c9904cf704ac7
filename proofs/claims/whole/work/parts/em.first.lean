/-! THE FIRST STATE KEEPS THE INVARIANT -/
set_option maxRecDepth 1000000 in
set_option maxHeartbeats 4000000 in
theorem zf_107 (i : Int) : zzJ 107 i = if (107 : Nat) = 107 ∧ i = 5 then 5 else 0 := by with_unfolding_all rfl
theorem zh_107 (i : Int) (h : ¬ i = 5) : zzJ 107 i = 0 := by rw [zf_107, if_neg (fun z => h z.2)]
theorem zh_5 : zzJ 107 5 = 5 := by rw [zf_107, if_pos ⟨rfl, rfl⟩]
set_option maxRecDepth 1000000 in
set_option maxHeartbeats 4000000 in
theorem zf_2 (i : Int) : zzJ 2 i = 0 := by with_unfolding_all rfl
set_option maxRecDepth 1000000 in
set_option maxHeartbeats 4000000 in
theorem zf_3 (i : Int) : zzJ 3 i = 0 := by with_unfolding_all rfl
set_option maxRecDepth 1000000 in
set_option maxHeartbeats 4000000 in
theorem zf_4 (i : Int) : zzJ 4 i = 0 := by with_unfolding_all rfl
set_option maxRecDepth 1000000 in
set_option maxHeartbeats 4000000 in
theorem zf_5 (i : Int) : zzJ 5 i = 0 := by with_unfolding_all rfl
set_option maxRecDepth 1000000 in
set_option maxHeartbeats 4000000 in
theorem zf_6 (i : Int) : zzJ 6 i = 0 := by with_unfolding_all rfl
set_option maxRecDepth 1000000 in
set_option maxHeartbeats 4000000 in
theorem zf_7 (i : Int) : zzJ 7 i = 0 := by with_unfolding_all rfl
set_option maxRecDepth 1000000 in
set_option maxHeartbeats 4000000 in
theorem zf_89 (i : Int) : zzJ 89 i = 0 := by with_unfolding_all rfl
set_option maxRecDepth 1000000 in
set_option maxHeartbeats 4000000 in
theorem zf_110 (i : Int) : zzJ 110 i = 0 := by with_unfolding_all rfl
set_option maxRecDepth 1000000 in
set_option maxHeartbeats 4000000 in
theorem zf_91 (i : Int) : zzJ 91 i = 0 := by with_unfolding_all rfl
set_option maxRecDepth 1000000 in
set_option maxHeartbeats 4000000 in
theorem zf_142 (i : Int) : zzJ 142 i = 0 := by with_unfolding_all rfl
set_option maxRecDepth 1000000 in
set_option maxHeartbeats 4000000 in
theorem zf_53 (i : Int) : zzJ 53 i = 0 := by with_unfolding_all rfl
set_option maxRecDepth 1000000 in
set_option maxHeartbeats 4000000 in
theorem zf_50 (i : Int) : zzJ 50 i = 0 := by with_unfolding_all rfl
theorem zg_1 : zzJ 1 8 = 0 ∧ zzJ 1 9 = 0 ∧ zzJ 1 10 = 0 ∧ zzJ 1 11 = 0 ∧ zzJ 1 12 = 5 := by decide +kernel
theorem zg_2 : zzJ 92 0 = 0 ∧ zzJ 92 1 = 0 ∧ zzJ 92 2 = 0 ∧ zzJ 92 3 = 0 ∧ zzJ 92 4 = 0 := by decide +kernel
theorem zg_3 : zzJ 106 1 = 0 ∧ zzJ 106 2 = 0 ∧ zzJ 106 3 = 0 ∧ zzJ 106 5 = 0 ∧ zzJ 106 6 = 0 := by decide +kernel
theorem zg_4 : zzJ 0 13 = 0 ∧ zzJ 105 7 = 0 ∧ zzJ 0 15 = zzJ 105 12 ∧ zzJ 0 16 = zzJ 105 63 ∧ zzJ 0 18 = zzJ 105 1 ∧ zzJ 0 17 = zzJ 105 67 := by decide +kernel
theorem zg_5 : zzJ 109 0 = 0 ∧ zzJ 109 1 = 0 := by decide +kernel
theorem zg_6 : zzJ 58 5 < 0 ∧ zzJ 63 5 < 0 ∧ zzJ 68 5 < 0 := by decide +kernel
theorem zg_hl : HlO (144, zzK, zzR) 1 9 := by unfold HlO arO; decide +kernel
theorem zg_tr : TrO (144, zzK, zzR) 9 := by unfold TrO arO; decide +kernel
theorem zg_ct : ∀ c : Nat, c < 3 → CtO (144, zzK, zzR) (58 + 5 * c) ∧ ((144, zzK, zzR) : EN).2.2 25 c = some (58 + 5 * c) := by unfold CtO arO; decide +kernel
theorem zg_r1 : ((144, zzK, zzR) : EN).2.2 1 7 = some 9 := by decide +kernel
theorem zg_sc : ShC (144, zzK, zzR) 9 := ⟨Or.inl rfl, zg_tr, zg_r1, zg_ct⟩
theorem zg_sp : ShP (144, zzK, zzR) := by unfold ShP arO; decide +kernel
theorem zg_56 : arO (144, zzK, zzR) 56 3 := by unfold arO; decide +kernel
theorem zg_ly : LyE (144, zzK, zzR) 47 48 49 50 256 1 := by unfold LyE arO lenP; decide +kernel
theorem zg_sq : ShQ (144, zzK, zzR) := ⟨zg_sp, zg_ct⟩
theorem zg_rw : rwO (zzJ 107) := by
  have f := zh_107
  have g : sm (fun i => if zzJ 107 (60 + i) ≤ 0 then 0 else 1) 10 = 0 := (sm_congr (g := fun _ => 0) 10 (fun i _ _ => by
    show (if zzJ 107 (60 + i) ≤ 0 then (0 : Int) else 1) = 0
    rw [f _ (by omega)]
    rfl)).trans rfl
  refine ⟨fun c _ _ => by rw [f _ (by omega)]; omega, by rw [f 0 (by omega), f 1 (by omega), f 2 (by omega)]; omega, by rw [f _ (by omega)]; omega, by rw [f _ (by omega)]; omega, by rw [zh_5]; omega, by rw [f _ (by omega)]; omega, by rw [f _ (by omega)]; omega, by rw [f _ (by omega)]; omega, by rw [f _ (by omega)]; omega, fun c _ _ => by rw [f _ (by omega)]; omega, fun c _ _ => by rw [f _ (by omega)]; omega, fun c _ _ => by rw [f _ (by omega)]; omega, by rw [g]; omega, fun c _ _ => by rw [f _ (by omega)]; omega, fun c _ _ => by rw [f _ (by omega)]; omega, fun b h1 h2 => ?_, fun b h1 h2 => ?_⟩
  · rw [f 6 (by omega)] at h2; omega
  · rw [f 7 (by omega)] at h2; omega
theorem zg_hc : hlC zzJ 1 9 (zzJ 107) := by
  obtain ⟨a1, a2, a3, a4, a5⟩ := zg_1
  obtain ⟨d1, d2, d3, d4, d5⟩ := zz_d
  have f := zh_107
  refine ⟨fun c _ _ => (zf_2 c).trans (f _ (by omega)).symm, fun c _ _ => (zf_3 c).trans (f _ (by omega)).symm, fun c _ _ => (zf_4 c).trans (f _ (by omega)).symm, fun c _ _ => (zf_5 c).trans (f _ (by omega)).symm, fun c _ _ => (zf_6 c).trans (f _ (by omega)).symm, fun c _ _ => (zf_7 c).trans (f _ (by omega)).symm, fun c h1 h2 => ?_, a1.trans (f 3 (by omega)).symm, a2.trans (f 6 (by omega)).symm, a3.trans (f 7 (by omega)).symm, a4.trans (f 4 (by omega)).symm, a5.trans zh_5.symm, d3.trans (f 8 (by omega)).symm, d4.trans (f 9 (by omega)).symm, fun w h1 h2 => ?_, fun w p h1 h2 _ _ => ?_, by rw [d5]; omega⟩
  · rw [f 7 (by omega)] at h2; omega
  · rw [f 9 (by omega)] at h2; omega
  · rw [f 9 (by omega)] at h2; omega
theorem zg_sm : smO 0 zzJ := by
  obtain ⟨c1, c2, c3⟩ := zz_c
  obtain ⟨a1, a2, a3, a4, a5⟩ := zg_2
  obtain ⟨b1, b2, b3, b4, b5⟩ := zg_3
  obtain ⟨d1, d2, d3, d4, d5, d6⟩ := zg_4
  refine ⟨c3, Or.inl c1, Or.inl c2, by rw [a1, b1]; omega, by rw [a2, b2]; omega, by rw [a3, b3]; omega, by rw [a4, b4]; omega, by rw [a5, b5]; omega, by rw [d1, d2]; omega, d3, d4, d5, d6, fun i _ _ => by rw [zf_89, zf_110]; omega, fun i _ _ => by rw [zf_91, zf_142], by rw [zzJ_24]; omega⟩
theorem zg_tt : TrT zzJ 9 (zzJ 107) := by
  have f := zh_107
  refine ⟨⟨fun w h1 h2 => ?_, fun c h1 h2 => ?_⟩, (f 471 (by omega)).trans (f 8 (by omega)).symm⟩
  · rw [f 9 (by omega)] at h2; omega
  · rw [f 8 (by omega)] at h2; omega
theorem zg_ib : InvB 0 9 144 zzK zzR zzJ := by
  obtain ⟨r1, r2, r3, r4, -⟩ := zz_r
  refine ⟨Or.inl rfl, zz_sh, zg_hl, r2, zg_rw, zg_hc, zg_sm, fun k hk => Or.inl ?_, fun g h hg => by rw [r3] at hg; cases hg⟩
  rcases (show k = 0 ∨ k = 1 by omega) with rfl | rfl
  · exact ⟨r3, zg_5.1⟩
  · exact ⟨r4, zg_5.2⟩
theorem zg_pw : PW 9 (fun T => T = 9) 144 zzK zzR zzJ 47 48 49 50 256 1 := by
  obtain ⟨r1, r2, r3, r4, -⟩ := zz_r
  obtain ⟨a1, a2, a3⟩ := zz_a
  obtain ⟨c1, c2, c3⟩ := zz_c
  obtain ⟨d1, d2, d3, d4, d5⟩ := zz_d
  obtain ⟨e1, e2, e3⟩ := zg_6
  have f := zh_107
  have e5 : ∀ c : Nat, c < 3 → zzJ (58 + 5 * c) 5 < 0 := fun c hc => by
    rcases (show c = 0 ∨ c = 1 ∨ c = 2 by omega) with rfl | rfl | rfl
    · exact e1
    · exact e2
    · exact e3
  refine ⟨⟨zg_sc, ⟨rfl, fun T hT => Or.inl hT⟩, zg_sq, zg_56, Nat.le_refl _, fun T hT => ?_, fun c hc => by have := e5 c hc; omega, fun T hT => ?_⟩, ⟨⟨⟨zg_tt, ?_, ?_, ?_, fun i _ _ => ?_⟩, ⟨fun w h1 h2 => ?_, ?_, fun i _ _ => ?_, ?_, ?_⟩, ?_, c3, Or.inl c1⟩, fun T hT c hc => ?_, fun h => ?_, fun h => ?_, fun T hT _ W nw h => ?_⟩, ⟨fun i _ _ => (zf_4 i).trans (f _ (by omega)).symm, fun c _ _ => (zf_2 c).trans (f _ (by omega)).symm, zg_rw⟩, ⟨zg_ly, fun p _ _ => zf_50 p, Or.inr a2, fun h => ?_, fun s _ _ => ?_, fun a b c _ h => ?_⟩, fun h => ?_, fun h => ?_, Or.inl c2⟩
  · obtain rfl : T = 9 := hT; exact ⟨by omega, fun b hb => by omega⟩
  · obtain rfl : T = 9 := hT; omega
  · rw [f 8 (by omega)]; omega
  · rw [f 9 (by omega)]; omega
  · rw [f 4 (by omega)]; omega
  · rw [f i (by omega)]; omega
  · rw [f 9 (by omega)] at h2; omega
  · exact zg_1.2.2.2.1.trans (f 4 (by omega)).symm
  · exact (zf_3 i).trans (f _ (by omega)).symm
  · exact d3.trans (f 8 (by omega)).symm
  · exact d4.trans (f 9 (by omega)).symm
  · rw [zzJ_24]; omega
  · obtain rfl : T = 9 := hT
    exact fun h => absurd h (by have := e5 c hc; omega)
  · rw [a1] at h; omega
  · rw [c1] at h; omega
  · obtain rfl : T = 9 := hT; exact h
  · rw [a2] at h; omega
  · rw [zf_53, zzJ_24]; omega
  · rw [zf_53, zzJ_24] at h; omega
  · rw [a3] at h; omega
  · rw [c2] at h; omega
theorem zz_inv : InvA 0 9 (fun T => T = 9) 144 zzK zzR zzJ zzM 47 48 49 50 256 1 := by
  obtain ⟨r1, r2, r3, r4, -⟩ := zz_r
  obtain ⟨b1, b2, b3⟩ := zz_b
  obtain ⟨d1, d2, d3, d4, d5⟩ := zz_d
  have rk : ∀ k h : Nat, k < 2 → zzR 20 k = some h → False := fun k h hk e => by
    rcases (show k = 0 ∨ k = 1 by omega) with rfl | rfl
    · rw [r3] at e; cases e
    · rw [r4] at e; cases e
  refine ⟨zg_ib, zg_pw, ⟨⟨Or.inr b1, Or.inr b2, fun h => by rw [b2] at h; omega, fun h => ?_⟩, Or.inr b3, fun h => ?_⟩, ⟨by omega, by omega⟩, ⟨⟨fun T T' hT hT' _ W nw h => ?_, fun c h1 h2 => ?_⟩, fun k h hk e => (rk k h hk e).elim, fun k h hk e => (rk k h hk e).elim⟩, fun i hi => zz_m ⟨i, hi⟩⟩
  · rw [b1] at h; omega
  · rw [b3] at h; omega
  · obtain rfl : T = 9 := hT; obtain rfl : T' = 9 := hT'; exact h
  · rw [zh_107 8 (by omega)] at h2; omega
