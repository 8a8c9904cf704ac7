/-! THE LAW'S ENTRY: both objects made; then the loop -/
theorem up_0 {α : Type} {a : Nat} {v : α} : va_up (fun (_ : Nat) => v) a v = fun _ => v := funext fun i => by unfold va_up; split <;> rfl
theorem bgS0_ok : (match bgS0 with
  | some r => decide (r.1.1 = 105) && decide (r.2.1 ≤ 150) && decide (r.2.2 ≤ 20000)
  | none => false) = true := by decide +kernel
theorem bgS1_ok : (match bgS1 with
  | some r => decide (r.1.1 = 144) && decide (r.2.1 ≤ 100) && decide (r.2.2 ≤ 1900000)
  | none => false) = true := by decide +kernel
/-- what both constructors leave -/
theorem first_g : ∃ (kd1 : KD) (I1 : IG) (L1 : LG) (R1 : RF) (k1 m1 : Nat) (I2 : IG) (L2 : LG) (k2 m2 : Nat), g_0 20 20 0 1 kdA (fun _ _ => 0) (fun _ _ => 0) (fun _ _ => none) 0 = some ((105, kd1, I1, L1, R1), k1, m1) ∧ g_191 20 20 0 106 (va_up kd1 105 (12, 0)) (va_up I1 105 (fun _ => 0)) (va_up L1 105 (fun _ => 0)) (va_up R1 105 (fun _ => none)) 105 = some ((144, zzK, I2, L2, zzR), k2, m2) ∧ Rli I2 zzJ ∧ Rll L2 zzM ∧ (k1 ≤ 150 ∧ m1 ≤ 20000) ∧ k2 ≤ 100 ∧ m2 ≤ 1900000 := by
  have h0 := bgS0_ok
  have h1 := bgS1_ok
  cases e0 : bgS0 with
  | none => rw [e0] at h0; cases h0
  | some r =>
    obtain ⟨⟨z1, kd1, J1, M1, R1⟩, k1, m1⟩ := r
    rw [e0] at h0
    simp only [Bool.and_eq_true, decide_eq_true_eq] at h0
    obtain ⟨⟨a1, a2⟩, a3⟩ := h0
    subst a1
    obtain ⟨⟨⟨zz, kk, I1, L1, RR⟩, kk1, mm1⟩, f1, ⟨g2, g3, g4, g5, g6⟩, g7⟩ := ks_0 20 20 0 1 kdA (fun _ _ => 0) (fun _ _ => 0) (fun _ _ => 0) (fun _ _ => 0) (fun _ _ => none) 0 (fun _ _ => rfl) (fun _ _ => rfl) _ e0
    try dsimp only at g2
    try dsimp only at g3
    try dsimp only at g4
    try dsimp only at g5
    try dsimp only at g6
    try dsimp only at g7
    subst g2; subst g3; subst g6; cases g7
    have e1 : bgS1 = kf_191 20 20 0 106 (va_up kk 105 (12, 0)) (nw2 J1 105) (nw2 M1 105) (va_up RR 105 (fun _ => none)) 105 := by
      unfold bgS1
      rw [e0]
      simp only [Option.bind_some]
    cases e2 : bgS1 with
    | none => rw [e2] at h1; cases h1
    | some r =>
      have hk : zzK = r.1.2.1 := by unfold zzK; rw [e2]
      have hj : zzJ = r.1.2.2.1 := by unfold zzJ; rw [e2]
      have hm : zzM = r.1.2.2.2.1 := by unfold zzM; rw [e2]
      have hr : zzR = r.1.2.2.2.2 := by unfold zzR; rw [e2]
      rw [e2] at h1 e1
      obtain ⟨⟨z2, kd2, J2, M2, R2⟩, k2, m2⟩ := r
      simp only [Bool.and_eq_true, decide_eq_true_eq] at h1
      obtain ⟨⟨b1, b2⟩, b3⟩ := h1
      subst b1
      try dsimp only at hk
      try dsimp only at hj
      try dsimp only at hm
      try dsimp only at hr
      obtain ⟨⟨⟨zy, ky, I2, L2, Ry⟩, ky1, my1⟩, f2, ⟨i2, i3, i4, i5, i6⟩, i7⟩ := ks_191 20 20 0 106 (va_up kk 105 (12, 0)) (va_up I1 105 (fun _ => 0)) (nw2 J1 105) (va_up L1 105 (fun _ => 0)) (nw2 M1 105) (va_up RR 105 (fun _ => none)) 105 (ri_nw g4) (rl_nw g5) _ e1.symm
      try dsimp only at i2
      try dsimp only at i3
      try dsimp only at i4
      try dsimp only at i5
      try dsimp only at i6
      try dsimp only at i7
      subst i2; subst i3; subst i6; cases i7
      rw [hj, hm, hk, hr]
      exact ⟨kk, I1, L1, RR, _, _, I2, L2, _, _, f1, f2, i4, i5, ⟨a2, a3⟩, b2, b3⟩
theorem zz_rm : RmP zzR 256 1 0 0 := ⟨0, 0, ⟨0, 0, by decide, by decide, by decide, by decide⟩, Nat.zero_le _, Nat.zero_le _⟩
theorem LSt_0 {I2 : IG} {L2 : LG} {k n : Nat} (hI : Rli I2 zzJ) (hM : Rll L2 zzM) (hk : k ≤ 300) (hn : n ≤ 2000000) : LSt 0 (144, zzK, I2, L2, zzR) k n := by
  unfold LSt
  dsimp only
  exact ⟨0, 9, fun T => T = 9, zzJ, zzM, 47, 48, 49, 50, 256, 1, 0, 0, Nat.le_refl _, zz_inv, hI, hM, zz_rm, by omega, by omega⟩
section LS
variable {X : GX} {p : Program} {e : Env} {s : State} {m : MethodId} {b : Nat} {below : List Frame} {meth : Method} {c : Code}
theorem l_first (ac : AC X qL p s m #[Value.ref b] meth c) (hr : meth.sig.returnType = ret) (hbs : gb X = s.heap.size) (hL : gN X ≤ 3584) : OK X qL p e room_1 s m #[Value.ref b] below meth c (lw_Z below #[Value.ref b] s) 0 [some (.retAddr 100), none, none, none] [] (0, fun _ => (0, 0), fun _ _ => 0, fun _ _ => 0, fun _ _ => none) 0 0 := by
  obtain ⟨kd1, I1, L1, R1, k1, m1, I2, L2, k2, m2, f1, f2, hI, hM, ⟨hk1, hm1⟩, hk2, hm2⟩ := first_g
  have n11 : (clN 11).2.2 = 19 := rfl
  have n12 : (clN 12).2.2 = 68 := rfl
  refine wp_sound ac (d := 2048) (MC := 60000) (MS := 8922250) (rt := ret) (J := OK X qL p e room_1 s m #[Value.ref b] below meth c (lw_Z below #[Value.ref b] s)) (RT := fun v σ k n => RtOK X qL p e room_1 s m #[Value.ref b] below meth c (lw_Z below #[Value.ref b] s) ret v σ k n) ⟨by decide, by decide, rfl, rfl⟩ (fun _ _ _ _ _ _ h => h) (fun _ _ _ _ h => h) 18 lb_0 0 _ _ _ _ _ lh_0 ?_
  refine q_new (c0 := 11) (by decide) (by decide) ?_
  rw [up_0, up_0, up_0]
  refine q_dup rfl ?_
  refine ⟨[.ref 0], [.ref 0], 2000, k1, m1, _, rfl, rfl, by decide, by decide, by omega, by omega, fun _ => ⟨Nat.lt_succ_self 0, rfl, by decide⟩, a_0 X (by decide : 20 ≤ 2000) f1, ?_⟩
  rintro rv σ' ⟨rfl, rfl⟩
  refine ⟨.ref 0, [], rfl, rfl, (by decide : 1 < 4), ?_⟩
  refine q_new (c0 := 12) (by omega) (by omega) ?_
  refine q_dup rfl ?_
  refine ⟨[.ref 105], [.ref 105], 2000, k2, m2, _, rfl, rfl, by decide, by decide, by omega, by omega, fun _ => ⟨Nat.lt_succ_self 105, rfl, by decide⟩, a_191 X (by decide : 20 ≤ 2000) f2, ?_⟩
  rintro rv σ' ⟨rfl, rfl⟩
  refine ⟨.ref 105, [], rfl, rfl, (by decide : 2 < 4), ?_⟩
  refine ⟨Int32.ofInt 0, [], rfl, (by decide : 3 < 4), ?_⟩
  exact l_loop ac hr hbs hL 513 0 _ _ _ rfl (by decide) (LSt_0 hI hM (by omega) (by omega))
end LS
theorem whole_start {p : Program} {e : Env} {s : State} {m : MethodId} {below : List Frame} {meth : Method} {c : Code} (l : Launch) {b L : Nat} {xs : Nat → Int32} (hL : L ≤ 3584) (C0 : lw_At p s m meth c b L xs) : W p l e room_1 s m #[Value.ref b] below meth c s.heap [] 0 0 (lw_Z below #[Value.ref b] s) (entryFrame m ([Value.ref b] : List Value).toArray 4) := by
  obtain ⟨hx, hb, hr, hml, hown, hts, hX, hbl, hlocks, hgv⟩ := C0
  obtain ⟨X, hG, x1, x2, x3, x4, x5⟩ := gf_start l hts hX hbl hgv
  subst x5
  have ac : AC X qL p s m #[Value.ref b] meth c := ⟨hx, hb, hml, hlocks, hown, fun w hw => hts w (List.mem_filter.mp hw).1, hG, fun h => absurd h (by decide)⟩
  have h0 := l_first (e := e) (below := below) ac hr x1 (by rw [x3]; exact hL)
  rw [lg_entry_eq]
  have hl := lv_entry ([Value.ref b]) (n := 4) (Nat.le_of_ble_eq_true rfl)
  refine h0 s.heap [] _ ⟨x1.symm, fun k q h => by simp [pws] at h⟩ va_S.rf ⟨rfl, hl.1, hl.2.1, fun j v hj => ?_⟩
  match j, hj with
  | 0, hj =>
    cases hj
    have h2 := hl.2.2 (0, .ref b) List.mem_cons_self
    show _ = some (Slot.val (Value.ref (gs X 100)))
    rw [x2]
    exact h2
  | 1, hj => cases hj
  | 2, hj => cases hj
  | 3, hj => cases hj
  | j + 4, hj => cases hj
