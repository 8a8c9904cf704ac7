/-! THE LAW: its loop, its start, its end -/
section LL
variable {X : GX} {p : Program} {e : Env} {s : State} {m : MethodId} {b : Nat} {below : List Frame} {meth : Method} {c : Code}
theorem l_end (ac : AC X qL p s m #[Value.ref b] meth c) (hr : meth.sig.returnType = ret) (hbs : gb X = s.heap.size) {ls : LcT} {σ : PS} {k n : Nat} (hk : k ≤ 60000) (hn : n ≤ 8922250) : OK X qL p e room_1 s m #[Value.ref b] below meth c (lw_Z below #[Value.ref b] s) 1520 ls [] σ k n := by
  refine wp_sound ac (d := 2048) (MC := 60000) (MS := 8922250) (rt := ret) (J := OK X qL p e room_1 s m #[Value.ref b] below meth c (lw_Z below #[Value.ref b] s)) (RT := fun v σ k n => RtOK X qL p e room_1 s m #[Value.ref b] below meth c (lw_Z below #[Value.ref b] s) ret v σ k n) ⟨by decide, by decide, rfl, rfl⟩ (fun _ _ _ _ _ _ h => h) (fun _ _ _ _ h => h) 1522 lb_1520 1520 _ _ _ _ _ lh_1520 ?_
  refine ⟨1, rfl, narB (Or.inr rfl), ?_⟩
  intro H locs lsM pc ins hw hs hd hri
  have hins : ins = .ireturn := by
    rcases hri with ⟨h1, -⟩ | ⟨x, -, h2, -⟩ | ⟨x, h1, -⟩ | ⟨a, h1, -⟩
    · cases h1
    · exact h2
    · cases h1
    · cases h1
  subst hins
  refine va_forget (fun q hq => by have := hs.2.2 q hq; unfold gA at this; omega) ?_
  refine W.widen hk hn ?_
  exact lw_ret ac.1 ac.2.1 hr ac.2.2.2.1 hd
theorem nI_sub7 {L u : Nat} (hL : L ≤ 3584) (hu : u ≤ 512) : ((nI L - nI 7 < nI (7 * u)) ↔ L < 7 * u + 7) := by
  have e : Ui (nI L - nI 7) ((L : Int) - ((7 : Nat) : Int)) := ui_sub (ui_nI (by omega)) (ui_nI (by omega)) (by omega)
  rw [lt_up e (ui_nI (m := 7 * u) (by omega))]
  omega
theorem l_case_all (ac : AC X qL p s m #[Value.ref b] meth c) {u : Nat} {σ : PS} {k n : Nat} {E : State → Prop} (hN : 7 * u + 7 ≤ gN X) (hL : gN X ≤ 3584) (h : LSt u σ k n) (hJ : ∀ τ k n, LSt (u + 1) τ k n → OK X qL p e room_1 s m #[Value.ref b] below meth c E 1514 (lsL u) [] τ k n) : ∀ t ∈ ([216, 249, 292, 335, 358, 391, 424, 487, 510, 523, 536, 569, 612, 635, 678, 721, 744, 767, 800, 823, 846, 869, 902, 935, 958, 981, 1004, 1079, 1112, 1125, 1138, 1191, 1244, 1267, 1300, 1333, 1376, 1399, 1432, 1455, 1478, 1501] : List Int), OK X qL p e room_1 s m #[Value.ref b] below meth c E t.toNat (lsL u) [] σ k n := by
  obtain ⟨z, kd, I, L, R⟩ := σ
  exact List.forall_mem_cons.mpr ⟨lc_216 ac hN hL h hJ, List.forall_mem_cons.mpr ⟨lc_249 ac hN hL h hJ, List.forall_mem_cons.mpr ⟨lc_292 ac hN hL h hJ, List.forall_mem_cons.mpr ⟨lc_335 ac hN hL h hJ, List.forall_mem_cons.mpr ⟨lc_358 ac hN hL h hJ, List.forall_mem_cons.mpr ⟨lc_391 ac hN hL h hJ, List.forall_mem_cons.mpr ⟨lc_424 ac hN hL h hJ, List.forall_mem_cons.mpr ⟨lc_487 ac hN hL h hJ, List.forall_mem_cons.mpr ⟨lc_510 ac hN hL h hJ, List.forall_mem_cons.mpr ⟨lc_523 ac hN hL h hJ, List.forall_mem_cons.mpr ⟨lc_536 ac hN hL h hJ, List.forall_mem_cons.mpr ⟨lc_569 ac hN hL h hJ, List.forall_mem_cons.mpr ⟨lc_612 ac hN hL h hJ, List.forall_mem_cons.mpr ⟨lc_635 ac hN hL h hJ, List.forall_mem_cons.mpr ⟨lc_678 ac hN hL h hJ, List.forall_mem_cons.mpr ⟨lc_721 ac hN hL h hJ, List.forall_mem_cons.mpr ⟨lc_744 ac hN hL h hJ, List.forall_mem_cons.mpr ⟨lc_767 ac hN hL h hJ, List.forall_mem_cons.mpr ⟨lc_800 ac hN hL h hJ, List.forall_mem_cons.mpr ⟨lc_823 ac hN hL h hJ, List.forall_mem_cons.mpr ⟨lc_846 ac hN hL h hJ, List.forall_mem_cons.mpr ⟨lc_869 ac hN hL h hJ, List.forall_mem_cons.mpr ⟨lc_902 ac hN hL h hJ, List.forall_mem_cons.mpr ⟨lc_935 ac hN hL h hJ, List.forall_mem_cons.mpr ⟨lc_958 ac hN hL h hJ, List.forall_mem_cons.mpr ⟨lc_981 ac hN hL h hJ, List.forall_mem_cons.mpr ⟨lc_1004 ac hN hL h hJ, List.forall_mem_cons.mpr ⟨lc_1079 ac hN hL h hJ, List.forall_mem_cons.mpr ⟨lc_1112 ac hN hL h hJ, List.forall_mem_cons.mpr ⟨lc_1125 ac hN hL h hJ, List.forall_mem_cons.mpr ⟨lc_1138 ac hN hL h hJ, List.forall_mem_cons.mpr ⟨lc_1191 ac hN hL h hJ, List.forall_mem_cons.mpr ⟨lc_1244 ac hN hL h hJ, List.forall_mem_cons.mpr ⟨lc_1267 ac hN hL h hJ, List.forall_mem_cons.mpr ⟨lc_1300 ac hN hL h hJ, List.forall_mem_cons.mpr ⟨lc_1333 ac hN hL h hJ, List.forall_mem_cons.mpr ⟨lc_1376 ac hN hL h hJ, List.forall_mem_cons.mpr ⟨lc_1399 ac hN hL h hJ, List.forall_mem_cons.mpr ⟨lc_1432 ac hN hL h hJ, List.forall_mem_cons.mpr ⟨lc_1455 ac hN hL h hJ, List.forall_mem_cons.mpr ⟨lc_1478 ac hN hL h hJ, List.forall_mem_cons.mpr ⟨lc_1501 ac hN hL h hJ, fun t ht => by cases ht⟩⟩⟩⟩⟩⟩⟩⟩⟩⟩⟩⟩⟩⟩⟩⟩⟩⟩⟩⟩⟩⟩⟩⟩⟩⟩⟩⟩⟩⟩⟩⟩⟩⟩⟩⟩⟩⟩⟩⟩⟩⟩
theorem l_loop (ac : AC X qL p s m #[Value.ref b] meth c) (hr : meth.sig.returnType = ret) (hbs : gb X = s.heap.size) (hL : gN X ≤ 3584) : ∀ (f u : Nat) (σ : PS) (k n : Nat), u + f = 513 → 7 * u ≤ 3584 → LSt u σ k n → OK X qL p e room_1 s m #[Value.ref b] below meth c (lw_Z below #[Value.ref b] s) 18 (lsL u) [] σ k n
  | 0, u, σ, k, n, hf, hu, h => by omega
  | f + 1, u, σ, k, n, hf, hu, h => by
    have rm := LSt_room h
    have nx14 : ∀ τ k n, 7 * u + 7 ≤ gN X → LSt (u + 1) τ k n → OK X qL p e room_1 s m #[Value.ref b] below meth c (lw_Z below #[Value.ref b] s) 1514 (lsL u) [] τ k n := fun τ k n hN hI => by
      refine wp_sound ac (d := 2048) (MC := 60000) (MS := 8922250) (rt := ret) (J := OK X qL p e room_1 s m #[Value.ref b] below meth c (lw_Z below #[Value.ref b] s)) (RT := fun v σ k n => RtOK X qL p e room_1 s m #[Value.ref b] below meth c (lw_Z below #[Value.ref b] s) ret v σ k n) ⟨by decide, by decide, rfl, rfl⟩ (fun _ _ _ _ _ _ h => h) (fun _ _ _ _ h => h) 1520 lb_1514 1514 _ _ _ _ _ lh_1514 ?_
      refine ⟨nI (7 * u), rfl, ?_⟩
      show OK X qL p e room_1 s m #[Value.ref b] below meth c (lw_Z below #[Value.ref b] s) 18 [some (.retAddr 100), some (.ref 0), some (.ref 105), some (.int (nI (7 * u) + nI 7))] [] τ k n
      rw [nI_add, show 7 * u + 7 = 7 * (u + 1) by omega]
      exact l_loop ac hr hbs hL f (u + 1) τ k n (by omega) (by omega) hI
    refine wp_sound ac (d := 2048) (MC := 60000) (MS := 8922250) (rt := ret) (J := OK X qL p e room_1 s m #[Value.ref b] below meth c (lw_Z below #[Value.ref b] s)) (RT := fun v σ k n => RtOK X qL p e room_1 s m #[Value.ref b] below meth c (lw_Z below #[Value.ref b] s) ret v σ k n) ⟨by decide, by decide, rfl, rfl⟩ (fun _ _ _ _ _ _ h => h) (fun _ _ _ _ h => h) 216 lb_18 18 _ _ _ _ _ lh_18 ?_
    refine ⟨nI (7 * u), rfl, .retAddr 100, rfl, rfl, .retAddr 100, _, rfl, Or.inr (Or.inl ⟨rfl, ?_⟩)⟩
    refine ⟨_, _, _, rfl, ?_⟩
    refine ⟨_, _, _, rfl, fun hlt => l_end ac hr hbs rm.1 rm.2, fun hge => ?_⟩
    have hN : 7 * u + 7 ≤ gN X := by
      rcases Nat.lt_or_ge (gN X) (7 * u + 7) with q | q
      · have hge' : ¬ nI (gN X) - nI 7 < nI (7 * u) := hge
        exact absurd ((nI_sub7 hL (by omega)).mpr q) hge'
      · exact q
    refine ⟨.retAddr 100, rfl, rfl, nI (7 * u), rfl, ?_⟩
    refine ⟨_, _, _, rfl, Or.inr ⟨rfl, nI_in (by omega) (by omega), ?_⟩⟩
    refine ⟨_, _, _, rfl, ?_⟩
    refine ⟨_, _, rfl, fun _ => nx14 σ k n hN (LSt_le h (by omega)), fun j t _ ht => ?_⟩
    rw [← Array.getElem?_toList] at ht
    exact l_case_all ac hN hL h (fun τ k n hI => nx14 τ k n hN hI) t (List.mem_of_getElem? ht)
end LL
