/-! THE LAW'S WALK: the loop's turn -/
abbrev lsL (u : Nat) : LcT := [some (.retAddr 100), some (.ref 0), some (.ref 105), some (.int (nI (7 * u)))]
def abj (j : Nat) : List Instr := [.aload 0, .iload 3, .iconst (j : Int), .iadd, .iaload]
def abz (js : List Nat) : List Instr := js.flatMap abj
def bk (js : List Nat) (mc mm : Nat) : List Instr := .aload 1 :: (abz js ++ (.invokevirtual mc :: .aload 2 :: (abz js ++ [.invokevirtual mm, .if_icmp .eq 1514, .iconst 0, .ireturn])))
def z0 (is : List Instr) : List (Nat × Instr) := is.map (fun i => (0, i))
theorem oi_nI : ∀ j : Nat, j < 8 → Int32.ofInt (j : Int) = nI j := fun j hj => by
  match j, hj with
  | 0, _ => rfl
  | 1, _ => rfl
  | 2, _ => rfl
  | 3, _ => rfl
  | 4, _ => rfl
  | 5, _ => rfl
  | 6, _ => rfl
  | 7, _ => rfl
  | j + 8, h => omega
section LC
variable {X : GX} {d MC MS en : Nat} {rt : Option FieldType} {J : JT} {RT : Option Value → PS → Nat → Nat → Prop} {u : Nat} {σ : PS} {k n : Nat} {st : List Value}
theorem wp_z0 : ∀ is : List (Nat × Instr), wp X d MC MS rt J RT en is = wp X d MC MS rt J RT en (z0 (is.map (·.2)))
  | [] => rfl
  | q :: is => by
    unfold z0
    rw [List.map_cons, List.map_cons]
    show (fun ls st σ k n => stpw X d MC MS rt J RT q.2 ls st σ k n (wp X d MC MS rt J RT en is)) = (fun ls st σ k n => stpw X d MC MS rt J RT q.2 ls st σ k n (wp X d MC MS rt J RT en (z0 (is.map (·.2)))))
    rw [wp_z0 is]
theorem wp_ab (hN : 7 * u + 7 ≤ gN X) (hL : gN X ≤ 3584) {j : Nat} (hj : j < 7) {is : List Instr} (g : wp X d MC MS rt J RT en (z0 is) (lsL u) (.int (gx X (7 * u + j)) :: st) σ k n) : wp X d MC MS rt J RT en (z0 (abj j ++ is)) (lsL u) st σ k n := by
  refine ⟨.retAddr 100, rfl, rfl, nI (7 * u), rfl, ?_⟩
  refine ⟨_, _, _, rfl, ?_⟩
  rw [oi_nI j (by omega), nI_add]
  refine ⟨_, _, _, rfl, Or.inr ⟨rfl, nI_in (by omega) (by omega), ?_⟩⟩
  rw [nI_clamp (by omega)]
  exact g
theorem wp_abs (hN : 7 * u + 7 ≤ gN X) (hL : gN X ≤ 3584) {is : List Instr} : ∀ (js : List Nat) (st : List Value), (∀ j ∈ js, j < 7) → wp X d MC MS rt J RT en (z0 is) (lsL u) ((js.map (fun j => Value.int (gx X (7 * u + j)))).reverse ++ st) σ k n → wp X d MC MS rt J RT en (z0 (abz js ++ is)) (lsL u) st σ k n
  | [], st, _, g => g
  | j :: js, st, h, g => by
    unfold abz
    rw [List.flatMap_cons, List.append_assoc]
    refine wp_ab hN hL (h j List.mem_cons_self) ?_
    refine wp_abs hN hL js _ (fun i hi => h i (List.mem_cons_of_mem _ hi)) ?_
    rw [List.map_cons, List.reverse_cons, List.append_assoc] at g
    exact g
theorem cs_1 (r : Int32) : csum [Value.int r] ≤ 8 := Nat.le_of_ble_eq_true rfl
/-- a case of the law: both calls, then on -/
theorem wp_case (hd : 2001 ≤ d) (hMC : MC = 60000) (hMS : MS = 8922250) (hN : 7 * u + 7 ≤ gN X) (hL : gN X ≤ 3584) {js : List Nat} (hjs : ∀ j ∈ js, j < 7) {mc mm : Nat} (hc : (mt mc).2.2.2.2.2.1 = js.length ∧ (mt mc).1 = 11) (hm : (mt mm).2.2.2.2.2.1 = js.length ∧ (mt mm).1 = 12)
    (h : Two X (u + 1) mc mm (js.map (fun j => Value.int (gx X (7 * u + j)))) σ k n) (hJ : ∀ τ k n, LSt (u + 1) τ k n → J 1514 (lsL u) [] τ k n) : wp X d MC MS rt J RT en (z0 (bk js mc mm)) (lsL u) [] σ k n := by
  obtain ⟨r, τ, τ2, k1, m1, c1, c2, ⟨a1, a2⟩, ⟨b1, b2⟩, hI⟩ := h
  obtain ⟨q1, q2⟩ := LSt_room hI
  subst hMC
  subst hMS
  refine ⟨.ref 0, rfl, rfl, ?_⟩
  refine wp_abs hN hL js _ hjs ?_
  refine ⟨.ref 0 :: js.map (fun j => Value.int (gx X (7 * u + j))), [], 2000, k1, m1, _, ?_, ?_, by decide, hd, by omega, by omega, fun _ => ⟨a1, by rw [hc.2]; exact a2, by rw [hc.2]; decide⟩, c1, ?_⟩
  · rw [List.reverse_cons, List.append_nil]
  · rw [List.length_cons, List.length_map, hc.1]
  rintro rv σ' ⟨x, rfl, rfl, rfl⟩
  refine ⟨.ref 105, rfl, rfl, ?_⟩
  refine wp_abs hN hL js _ hjs ?_
  refine ⟨.ref 105 :: js.map (fun j => Value.int (gx X (7 * u + j))), [.int x], 2000, 0, 0, _, ?_, ?_, cs_1 x, hd, by omega, by omega, fun _ => ⟨b1, by rw [hm.2]; exact b2, by rw [hm.2]; decide⟩, c2, ?_⟩
  · rw [List.reverse_cons, List.append_assoc]
    first | done | rfl
  · rw [List.length_cons, List.length_map, hm.1]
  rintro rv σ' ⟨y, rfl, rfl, rfl⟩
  refine ⟨_, _, _, rfl, fun _ => hJ _ _ _ hI, fun z => (z rfl).elim⟩
end LC
section LK
variable {X : GX} {p : Program} {e : Env} {s : State} {m : MethodId} {args : Array Value} {below : List Frame} {meth : Method} {c : Code} {E : State → Prop} {u : Nat} {z : Nat} {kd : KD} {R : RF} {I : IG} {L : LG} {k n : Nat}
theorem l_case (ac : AC X qL p s m args meth c) (hN : 7 * u + 7 ≤ gN X) (hL : gN X ≤ 3584) {js : List Nat} (hjs : ∀ j ∈ js, j < 7) {mc mm : Nat} (hc : (mt mc).2.2.2.2.2.1 = js.length ∧ (mt mc).1 = 11) (hm : (mt mm).2.2.2.2.2.1 = js.length ∧ (mt mm).1 = 12) {pc en : Nat} {is : List (Nat × Instr)} (hk : chk qL en pc is = true) (hi : is.map (·.2) = bk js mc mm) {σ : PS}
    (h : Two X (u + 1) mc mm (js.map (fun j => Value.int (gx X (7 * u + j)))) σ k n) (hJ : ∀ τ k n, LSt (u + 1) τ k n → OK X qL p e room_1 s m args below meth c E 1514 (lsL u) [] τ k n) : OK X qL p e room_1 s m args below meth c E pc (lsL u) [] σ k n := by
  refine wp_sound ac (d := 2048) (MC := 60000) (MS := 8922250) (rt := ret) (J := OK X qL p e room_1 s m args below meth c E) (RT := fun v σ k n => RtOK X qL p e room_1 s m args below meth c E ret v σ k n) ⟨by decide, by decide, rfl, rfl⟩ (fun _ _ _ _ _ _ h => h) (fun _ _ _ _ h => h) en is pc _ _ _ _ _ hk ?_
  rw [wp_z0, hi]
  exact wp_case (by decide) rfl rfl hN hL hjs hc hm h hJ
theorem lc_216 (ac : AC X qL p s m args meth c) (hN : 7 * u + 7 ≤ gN X) (hL : gN X ≤ 3584) (h : LSt u (z, kd, I, L, R) k n) (hJ : ∀ τ k n, LSt (u + 1) τ k n → OK X qL p e room_1 s m args below meth c E 1514 (lsL u) [] τ k n) : OK X qL p e room_1 s m args below meth c E 216 (lsL u) [] (z, kd, I, L, R) k n :=
  l_case ac hN hL (js := [1, 2]) (by decide) (mc := 13) (mm := 196) ⟨rfl, rfl⟩ ⟨rfl, rfl⟩ lh_216 rfl (tw_13 (by omega) h) hJ
theorem lc_249 (ac : AC X qL p s m args meth c) (hN : 7 * u + 7 ≤ gN X) (hL : gN X ≤ 3584) (h : LSt u (z, kd, I, L, R) k n) (hJ : ∀ τ k n, LSt (u + 1) τ k n → OK X qL p e room_1 s m args below meth c E 1514 (lsL u) [] τ k n) : OK X qL p e room_1 s m args below meth c E 249 (lsL u) [] (z, kd, I, L, R) k n :=
  l_case ac hN hL (js := [1, 2, 3]) (by decide) (mc := 20) (mm := 201) ⟨rfl, rfl⟩ ⟨rfl, rfl⟩ lh_249 rfl (tw_20 (by omega) h) hJ
theorem lc_292 (ac : AC X qL p s m args meth c) (hN : 7 * u + 7 ≤ gN X) (hL : gN X ≤ 3584) (h : LSt u (z, kd, I, L, R) k n) (hJ : ∀ τ k n, LSt (u + 1) τ k n → OK X qL p e room_1 s m args below meth c E 1514 (lsL u) [] τ k n) : OK X qL p e room_1 s m args below meth c E 292 (lsL u) [] (z, kd, I, L, R) k n :=
  l_case ac hN hL (js := [1, 2, 3]) (by decide) (mc := 23) (mm := 203) ⟨rfl, rfl⟩ ⟨rfl, rfl⟩ lh_292 rfl (tw_23 (by omega) h) hJ
theorem lc_335 (ac : AC X qL p s m args meth c) (hN : 7 * u + 7 ≤ gN X) (hL : gN X ≤ 3584) (h : LSt u (z, kd, I, L, R) k n) (hJ : ∀ τ k n, LSt (u + 1) τ k n → OK X qL p e room_1 s m args below meth c E 1514 (lsL u) [] τ k n) : OK X qL p e room_1 s m args below meth c E 335 (lsL u) [] (z, kd, I, L, R) k n :=
  l_case ac hN hL (js := [1]) (by decide) (mc := 26) (mm := 205) ⟨rfl, rfl⟩ ⟨rfl, rfl⟩ lh_335 rfl (tw_26 (by omega) h) hJ
theorem lc_358 (ac : AC X qL p s m args meth c) (hN : 7 * u + 7 ≤ gN X) (hL : gN X ≤ 3584) (h : LSt u (z, kd, I, L, R) k n) (hJ : ∀ τ k n, LSt (u + 1) τ k n → OK X qL p e room_1 s m args below meth c E 1514 (lsL u) [] τ k n) : OK X qL p e room_1 s m args below meth c E 358 (lsL u) [] (z, kd, I, L, R) k n :=
  l_case ac hN hL (js := [1, 2]) (by decide) (mc := 27) (mm := 206) ⟨rfl, rfl⟩ ⟨rfl, rfl⟩ lh_358 rfl (tw_27 (by omega) h) hJ
theorem lc_391 (ac : AC X qL p s m args meth c) (hN : 7 * u + 7 ≤ gN X) (hL : gN X ≤ 3584) (h : LSt u (z, kd, I, L, R) k n) (hJ : ∀ τ k n, LSt (u + 1) τ k n → OK X qL p e room_1 s m args below meth c E 1514 (lsL u) [] τ k n) : OK X qL p e room_1 s m args below meth c E 391 (lsL u) [] (z, kd, I, L, R) k n :=
  l_case ac hN hL (js := [1, 2]) (by decide) (mc := 28) (mm := 207) ⟨rfl, rfl⟩ ⟨rfl, rfl⟩ lh_391 rfl (tw_28 (by omega) h) hJ
theorem lc_424 (ac : AC X qL p s m args meth c) (hN : 7 * u + 7 ≤ gN X) (hL : gN X ≤ 3584) (h : LSt u (z, kd, I, L, R) k n) (hJ : ∀ τ k n, LSt (u + 1) τ k n → OK X qL p e room_1 s m args below meth c E 1514 (lsL u) [] τ k n) : OK X qL p e room_1 s m args below meth c E 424 (lsL u) [] (z, kd, I, L, R) k n :=
  l_case ac hN hL (js := [1, 2, 3, 4, 5]) (by decide) (mc := 29) (mm := 208) ⟨rfl, rfl⟩ ⟨rfl, rfl⟩ lh_424 rfl (tw_29 (by omega) h) hJ
theorem lc_487 (ac : AC X qL p s m args meth c) (hN : 7 * u + 7 ≤ gN X) (hL : gN X ≤ 3584) (h : LSt u (z, kd, I, L, R) k n) (hJ : ∀ τ k n, LSt (u + 1) τ k n → OK X qL p e room_1 s m args below meth c E 1514 (lsL u) [] τ k n) : OK X qL p e room_1 s m args below meth c E 487 (lsL u) [] (z, kd, I, L, R) k n :=
  l_case ac hN hL (js := [1]) (by decide) (mc := 31) (mm := 210) ⟨rfl, rfl⟩ ⟨rfl, rfl⟩ lh_487 rfl (tw_31 (by omega) h) hJ
theorem lc_510 (ac : AC X qL p s m args meth c) (hN : 7 * u + 7 ≤ gN X) (hL : gN X ≤ 3584) (h : LSt u (z, kd, I, L, R) k n) (hJ : ∀ τ k n, LSt (u + 1) τ k n → OK X qL p e room_1 s m args below meth c E 1514 (lsL u) [] τ k n) : OK X qL p e room_1 s m args below meth c E 510 (lsL u) [] (z, kd, I, L, R) k n :=
  l_case ac hN hL (js := []) (by decide) (mc := 32) (mm := 212) ⟨rfl, rfl⟩ ⟨rfl, rfl⟩ lh_510 rfl (tw_32 (by omega) h) hJ
theorem lc_523 (ac : AC X qL p s m args meth c) (hN : 7 * u + 7 ≤ gN X) (hL : gN X ≤ 3584) (h : LSt u (z, kd, I, L, R) k n) (hJ : ∀ τ k n, LSt (u + 1) τ k n → OK X qL p e room_1 s m args below meth c E 1514 (lsL u) [] τ k n) : OK X qL p e room_1 s m args below meth c E 523 (lsL u) [] (z, kd, I, L, R) k n :=
  l_case ac hN hL (js := []) (by decide) (mc := 67) (mm := 211) ⟨rfl, rfl⟩ ⟨rfl, rfl⟩ lh_523 rfl (tw_67 (by omega) h) hJ
theorem lc_536 (ac : AC X qL p s m args meth c) (hN : 7 * u + 7 ≤ gN X) (hL : gN X ≤ 3584) (h : LSt u (z, kd, I, L, R) k n) (hJ : ∀ τ k n, LSt (u + 1) τ k n → OK X qL p e room_1 s m args below meth c E 1514 (lsL u) [] τ k n) : OK X qL p e room_1 s m args below meth c E 536 (lsL u) [] (z, kd, I, L, R) k n :=
  l_case ac hN hL (js := [1, 2]) (by decide) (mc := 68) (mm := 238) ⟨rfl, rfl⟩ ⟨rfl, rfl⟩ lh_536 rfl (tw_68 (by omega) h) hJ
theorem lc_569 (ac : AC X qL p s m args meth c) (hN : 7 * u + 7 ≤ gN X) (hL : gN X ≤ 3584) (h : LSt u (z, kd, I, L, R) k n) (hJ : ∀ τ k n, LSt (u + 1) τ k n → OK X qL p e room_1 s m args below meth c E 1514 (lsL u) [] τ k n) : OK X qL p e room_1 s m args below meth c E 569 (lsL u) [] (z, kd, I, L, R) k n :=
  l_case ac hN hL (js := [1, 2, 3]) (by decide) (mc := 69) (mm := 242) ⟨rfl, rfl⟩ ⟨rfl, rfl⟩ lh_569 rfl (tw_69 (by omega) h) hJ
theorem lc_612 (ac : AC X qL p s m args meth c) (hN : 7 * u + 7 ≤ gN X) (hL : gN X ≤ 3584) (h : LSt u (z, kd, I, L, R) k n) (hJ : ∀ τ k n, LSt (u + 1) τ k n → OK X qL p e room_1 s m args below meth c E 1514 (lsL u) [] τ k n) : OK X qL p e room_1 s m args below meth c E 612 (lsL u) [] (z, kd, I, L, R) k n :=
  l_case ac hN hL (js := [1]) (by decide) (mc := 80) (mm := 252) ⟨rfl, rfl⟩ ⟨rfl, rfl⟩ lh_612 rfl (tw_80 (by omega) h) hJ
theorem lc_635 (ac : AC X qL p s m args meth c) (hN : 7 * u + 7 ≤ gN X) (hL : gN X ≤ 3584) (h : LSt u (z, kd, I, L, R) k n) (hJ : ∀ τ k n, LSt (u + 1) τ k n → OK X qL p e room_1 s m args below meth c E 1514 (lsL u) [] τ k n) : OK X qL p e room_1 s m args below meth c E 635 (lsL u) [] (z, kd, I, L, R) k n :=
  l_case ac hN hL (js := [1, 2, 3]) (by decide) (mc := 87) (mm := 257) ⟨rfl, rfl⟩ ⟨rfl, rfl⟩ lh_635 rfl (tw_87 (by omega) h) hJ
theorem lc_678 (ac : AC X qL p s m args meth c) (hN : 7 * u + 7 ≤ gN X) (hL : gN X ≤ 3584) (h : LSt u (z, kd, I, L, R) k n) (hJ : ∀ τ k n, LSt (u + 1) τ k n → OK X qL p e room_1 s m args below meth c E 1514 (lsL u) [] τ k n) : OK X qL p e room_1 s m args below meth c E 678 (lsL u) [] (z, kd, I, L, R) k n :=
  l_case ac hN hL (js := [1, 2, 3]) (by decide) (mc := 89) (mm := 259) ⟨rfl, rfl⟩ ⟨rfl, rfl⟩ lh_678 rfl (tw_89 (by omega) h) hJ
theorem lc_721 (ac : AC X qL p s m args meth c) (hN : 7 * u + 7 ≤ gN X) (hL : gN X ≤ 3584) (h : LSt u (z, kd, I, L, R) k n) (hJ : ∀ τ k n, LSt (u + 1) τ k n → OK X qL p e room_1 s m args below meth c E 1514 (lsL u) [] τ k n) : OK X qL p e room_1 s m args below meth c E 721 (lsL u) [] (z, kd, I, L, R) k n :=
  l_case ac hN hL (js := [1]) (by decide) (mc := 90) (mm := 260) ⟨rfl, rfl⟩ ⟨rfl, rfl⟩ lh_721 rfl (tw_90 (by omega) h) hJ
theorem lc_744 (ac : AC X qL p s m args meth c) (hN : 7 * u + 7 ≤ gN X) (hL : gN X ≤ 3584) (h : LSt u (z, kd, I, L, R) k n) (hJ : ∀ τ k n, LSt (u + 1) τ k n → OK X qL p e room_1 s m args below meth c E 1514 (lsL u) [] τ k n) : OK X qL p e room_1 s m args below meth c E 744 (lsL u) [] (z, kd, I, L, R) k n :=
  l_case ac hN hL (js := [1]) (by decide) (mc := 119) (mm := 270) ⟨rfl, rfl⟩ ⟨rfl, rfl⟩ lh_744 rfl (tw_119 (by omega) h) hJ
theorem lc_767 (ac : AC X qL p s m args meth c) (hN : 7 * u + 7 ≤ gN X) (hL : gN X ≤ 3584) (h : LSt u (z, kd, I, L, R) k n) (hJ : ∀ τ k n, LSt (u + 1) τ k n → OK X qL p e room_1 s m args below meth c E 1514 (lsL u) [] τ k n) : OK X qL p e room_1 s m args below meth c E 767 (lsL u) [] (z, kd, I, L, R) k n :=
  l_case ac hN hL (js := [1, 2]) (by decide) (mc := 124) (mm := 271) ⟨rfl, rfl⟩ ⟨rfl, rfl⟩ lh_767 rfl (tw_124 (by omega) h) hJ
theorem lc_800 (ac : AC X qL p s m args meth c) (hN : 7 * u + 7 ≤ gN X) (hL : gN X ≤ 3584) (h : LSt u (z, kd, I, L, R) k n) (hJ : ∀ τ k n, LSt (u + 1) τ k n → OK X qL p e room_1 s m args below meth c E 1514 (lsL u) [] τ k n) : OK X qL p e room_1 s m args below meth c E 800 (lsL u) [] (z, kd, I, L, R) k n :=
  l_case ac hN hL (js := [1]) (by decide) (mc := 127) (mm := 273) ⟨rfl, rfl⟩ ⟨rfl, rfl⟩ lh_800 rfl (tw_127 (by omega) h) hJ
theorem lc_823 (ac : AC X qL p s m args meth c) (hN : 7 * u + 7 ≤ gN X) (hL : gN X ≤ 3584) (h : LSt u (z, kd, I, L, R) k n) (hJ : ∀ τ k n, LSt (u + 1) τ k n → OK X qL p e room_1 s m args below meth c E 1514 (lsL u) [] τ k n) : OK X qL p e room_1 s m args below meth c E 823 (lsL u) [] (z, kd, I, L, R) k n :=
  l_case ac hN hL (js := [1]) (by decide) (mc := 129) (mm := 275) ⟨rfl, rfl⟩ ⟨rfl, rfl⟩ lh_823 rfl (tw_129 (by omega) h) hJ
theorem lc_846 (ac : AC X qL p s m args meth c) (hN : 7 * u + 7 ≤ gN X) (hL : gN X ≤ 3584) (h : LSt u (z, kd, I, L, R) k n) (hJ : ∀ τ k n, LSt (u + 1) τ k n → OK X qL p e room_1 s m args below meth c E 1514 (lsL u) [] τ k n) : OK X qL p e room_1 s m args below meth c E 846 (lsL u) [] (z, kd, I, L, R) k n :=
  l_case ac hN hL (js := [1]) (by decide) (mc := 130) (mm := 276) ⟨rfl, rfl⟩ ⟨rfl, rfl⟩ lh_846 rfl (tw_130 (by omega) h) hJ
theorem lc_869 (ac : AC X qL p s m args meth c) (hN : 7 * u + 7 ≤ gN X) (hL : gN X ≤ 3584) (h : LSt u (z, kd, I, L, R) k n) (hJ : ∀ τ k n, LSt (u + 1) τ k n → OK X qL p e room_1 s m args below meth c E 1514 (lsL u) [] τ k n) : OK X qL p e room_1 s m args below meth c E 869 (lsL u) [] (z, kd, I, L, R) k n :=
  l_case ac hN hL (js := [1, 2]) (by decide) (mc := 133) (mm := 277) ⟨rfl, rfl⟩ ⟨rfl, rfl⟩ lh_869 rfl (tw_133 (by omega) h) hJ
theorem lc_902 (ac : AC X qL p s m args meth c) (hN : 7 * u + 7 ≤ gN X) (hL : gN X ≤ 3584) (h : LSt u (z, kd, I, L, R) k n) (hJ : ∀ τ k n, LSt (u + 1) τ k n → OK X qL p e room_1 s m args below meth c E 1514 (lsL u) [] τ k n) : OK X qL p e room_1 s m args below meth c E 902 (lsL u) [] (z, kd, I, L, R) k n :=
  l_case ac hN hL (js := [1, 2]) (by decide) (mc := 136) (mm := 278) ⟨rfl, rfl⟩ ⟨rfl, rfl⟩ lh_902 rfl (tw_136 (by omega) h) hJ
theorem lc_935 (ac : AC X qL p s m args meth c) (hN : 7 * u + 7 ≤ gN X) (hL : gN X ≤ 3584) (h : LSt u (z, kd, I, L, R) k n) (hJ : ∀ τ k n, LSt (u + 1) τ k n → OK X qL p e room_1 s m args below meth c E 1514 (lsL u) [] τ k n) : OK X qL p e room_1 s m args below meth c E 935 (lsL u) [] (z, kd, I, L, R) k n :=
  l_case ac hN hL (js := [1]) (by decide) (mc := 137) (mm := 279) ⟨rfl, rfl⟩ ⟨rfl, rfl⟩ lh_935 rfl (tw_137 (by omega) h) hJ
theorem lc_958 (ac : AC X qL p s m args meth c) (hN : 7 * u + 7 ≤ gN X) (hL : gN X ≤ 3584) (h : LSt u (z, kd, I, L, R) k n) (hJ : ∀ τ k n, LSt (u + 1) τ k n → OK X qL p e room_1 s m args below meth c E 1514 (lsL u) [] τ k n) : OK X qL p e room_1 s m args below meth c E 958 (lsL u) [] (z, kd, I, L, R) k n :=
  l_case ac hN hL (js := [1]) (by decide) (mc := 144) (mm := 282) ⟨rfl, rfl⟩ ⟨rfl, rfl⟩ lh_958 rfl (tw_144 (by omega) h) hJ
theorem lc_981 (ac : AC X qL p s m args meth c) (hN : 7 * u + 7 ≤ gN X) (hL : gN X ≤ 3584) (h : LSt u (z, kd, I, L, R) k n) (hJ : ∀ τ k n, LSt (u + 1) τ k n → OK X qL p e room_1 s m args below meth c E 1514 (lsL u) [] τ k n) : OK X qL p e room_1 s m args below meth c E 981 (lsL u) [] (z, kd, I, L, R) k n :=
  l_case ac hN hL (js := [1]) (by decide) (mc := 147) (mm := 285) ⟨rfl, rfl⟩ ⟨rfl, rfl⟩ lh_981 rfl (tw_147 (by omega) h) hJ
theorem lc_1004 (ac : AC X qL p s m args meth c) (hN : 7 * u + 7 ≤ gN X) (hL : gN X ≤ 3584) (h : LSt u (z, kd, I, L, R) k n) (hJ : ∀ τ k n, LSt (u + 1) τ k n → OK X qL p e room_1 s m args below meth c E 1514 (lsL u) [] τ k n) : OK X qL p e room_1 s m args below meth c E 1004 (lsL u) [] (z, kd, I, L, R) k n :=
  l_case ac hN hL (js := [1, 2, 3, 4, 5, 6]) (by decide) (mc := 155) (mm := 288) ⟨rfl, rfl⟩ ⟨rfl, rfl⟩ lh_1004 rfl (tw_155 (by omega) h) hJ
theorem lc_1079 (ac : AC X qL p s m args meth c) (hN : 7 * u + 7 ≤ gN X) (hL : gN X ≤ 3584) (h : LSt u (z, kd, I, L, R) k n) (hJ : ∀ τ k n, LSt (u + 1) τ k n → OK X qL p e room_1 s m args below meth c E 1514 (lsL u) [] τ k n) : OK X qL p e room_1 s m args below meth c E 1079 (lsL u) [] (z, kd, I, L, R) k n :=
  l_case ac hN hL (js := [1, 2]) (by decide) (mc := 159) (mm := 291) ⟨rfl, rfl⟩ ⟨rfl, rfl⟩ lh_1079 rfl (tw_159 (by omega) h) hJ
theorem lc_1112 (ac : AC X qL p s m args meth c) (hN : 7 * u + 7 ≤ gN X) (hL : gN X ≤ 3584) (h : LSt u (z, kd, I, L, R) k n) (hJ : ∀ τ k n, LSt (u + 1) τ k n → OK X qL p e room_1 s m args below meth c E 1514 (lsL u) [] τ k n) : OK X qL p e room_1 s m args below meth c E 1112 (lsL u) [] (z, kd, I, L, R) k n :=
  l_case ac hN hL (js := []) (by decide) (mc := 160) (mm := 293) ⟨rfl, rfl⟩ ⟨rfl, rfl⟩ lh_1112 rfl (tw_160 (by omega) h) hJ
theorem lc_1125 (ac : AC X qL p s m args meth c) (hN : 7 * u + 7 ≤ gN X) (hL : gN X ≤ 3584) (h : LSt u (z, kd, I, L, R) k n) (hJ : ∀ τ k n, LSt (u + 1) τ k n → OK X qL p e room_1 s m args below meth c E 1514 (lsL u) [] τ k n) : OK X qL p e room_1 s m args below meth c E 1125 (lsL u) [] (z, kd, I, L, R) k n :=
  l_case ac hN hL (js := []) (by decide) (mc := 162) (mm := 294) ⟨rfl, rfl⟩ ⟨rfl, rfl⟩ lh_1125 rfl (tw_162 (by omega) h) hJ
theorem lc_1138 (ac : AC X qL p s m args meth c) (hN : 7 * u + 7 ≤ gN X) (hL : gN X ≤ 3584) (h : LSt u (z, kd, I, L, R) k n) (hJ : ∀ τ k n, LSt (u + 1) τ k n → OK X qL p e room_1 s m args below meth c E 1514 (lsL u) [] τ k n) : OK X qL p e room_1 s m args below meth c E 1138 (lsL u) [] (z, kd, I, L, R) k n :=
  l_case ac hN hL (js := [1, 2, 3, 4]) (by decide) (mc := 163) (mm := 295) ⟨rfl, rfl⟩ ⟨rfl, rfl⟩ lh_1138 rfl (tw_163 (by omega) h) hJ
theorem lc_1191 (ac : AC X qL p s m args meth c) (hN : 7 * u + 7 ≤ gN X) (hL : gN X ≤ 3584) (h : LSt u (z, kd, I, L, R) k n) (hJ : ∀ τ k n, LSt (u + 1) τ k n → OK X qL p e room_1 s m args below meth c E 1514 (lsL u) [] τ k n) : OK X qL p e room_1 s m args below meth c E 1191 (lsL u) [] (z, kd, I, L, R) k n :=
  l_case ac hN hL (js := [1, 2, 3, 4]) (by decide) (mc := 169) (mm := 296) ⟨rfl, rfl⟩ ⟨rfl, rfl⟩ lh_1191 rfl (tw_169 (by omega) h) hJ
theorem lc_1244 (ac : AC X qL p s m args meth c) (hN : 7 * u + 7 ≤ gN X) (hL : gN X ≤ 3584) (h : LSt u (z, kd, I, L, R) k n) (hJ : ∀ τ k n, LSt (u + 1) τ k n → OK X qL p e room_1 s m args below meth c E 1514 (lsL u) [] τ k n) : OK X qL p e room_1 s m args below meth c E 1244 (lsL u) [] (z, kd, I, L, R) k n :=
  l_case ac hN hL (js := [1]) (by decide) (mc := 172) (mm := 297) ⟨rfl, rfl⟩ ⟨rfl, rfl⟩ lh_1244 rfl (tw_172 (by omega) h) hJ
theorem lc_1267 (ac : AC X qL p s m args meth c) (hN : 7 * u + 7 ≤ gN X) (hL : gN X ≤ 3584) (h : LSt u (z, kd, I, L, R) k n) (hJ : ∀ τ k n, LSt (u + 1) τ k n → OK X qL p e room_1 s m args below meth c E 1514 (lsL u) [] τ k n) : OK X qL p e room_1 s m args below meth c E 1267 (lsL u) [] (z, kd, I, L, R) k n :=
  l_case ac hN hL (js := [1, 2]) (by decide) (mc := 173) (mm := 298) ⟨rfl, rfl⟩ ⟨rfl, rfl⟩ lh_1267 rfl (tw_173 (by omega) h) hJ
theorem lc_1300 (ac : AC X qL p s m args meth c) (hN : 7 * u + 7 ≤ gN X) (hL : gN X ≤ 3584) (h : LSt u (z, kd, I, L, R) k n) (hJ : ∀ τ k n, LSt (u + 1) τ k n → OK X qL p e room_1 s m args below meth c E 1514 (lsL u) [] τ k n) : OK X qL p e room_1 s m args below meth c E 1300 (lsL u) [] (z, kd, I, L, R) k n :=
  l_case ac hN hL (js := [1, 2]) (by decide) (mc := 179) (mm := 300) ⟨rfl, rfl⟩ ⟨rfl, rfl⟩ lh_1300 rfl (tw_179 (by omega) h) hJ
theorem lc_1333 (ac : AC X qL p s m args meth c) (hN : 7 * u + 7 ≤ gN X) (hL : gN X ≤ 3584) (h : LSt u (z, kd, I, L, R) k n) (hJ : ∀ τ k n, LSt (u + 1) τ k n → OK X qL p e room_1 s m args below meth c E 1514 (lsL u) [] τ k n) : OK X qL p e room_1 s m args below meth c E 1333 (lsL u) [] (z, kd, I, L, R) k n :=
  l_case ac hN hL (js := [1, 2, 3]) (by decide) (mc := 180) (mm := 301) ⟨rfl, rfl⟩ ⟨rfl, rfl⟩ lh_1333 rfl (tw_180 (by omega) h) hJ
theorem lc_1376 (ac : AC X qL p s m args meth c) (hN : 7 * u + 7 ≤ gN X) (hL : gN X ≤ 3584) (h : LSt u (z, kd, I, L, R) k n) (hJ : ∀ τ k n, LSt (u + 1) τ k n → OK X qL p e room_1 s m args below meth c E 1514 (lsL u) [] τ k n) : OK X qL p e room_1 s m args below meth c E 1376 (lsL u) [] (z, kd, I, L, R) k n :=
  l_case ac hN hL (js := [1]) (by decide) (mc := 181) (mm := 302) ⟨rfl, rfl⟩ ⟨rfl, rfl⟩ lh_1376 rfl (tw_181 (by omega) h) hJ
theorem lc_1399 (ac : AC X qL p s m args meth c) (hN : 7 * u + 7 ≤ gN X) (hL : gN X ≤ 3584) (h : LSt u (z, kd, I, L, R) k n) (hJ : ∀ τ k n, LSt (u + 1) τ k n → OK X qL p e room_1 s m args below meth c E 1514 (lsL u) [] τ k n) : OK X qL p e room_1 s m args below meth c E 1399 (lsL u) [] (z, kd, I, L, R) k n :=
  l_case ac hN hL (js := [1, 2]) (by decide) (mc := 183) (mm := 303) ⟨rfl, rfl⟩ ⟨rfl, rfl⟩ lh_1399 rfl (tw_183 (by omega) h) hJ
theorem lc_1432 (ac : AC X qL p s m args meth c) (hN : 7 * u + 7 ≤ gN X) (hL : gN X ≤ 3584) (h : LSt u (z, kd, I, L, R) k n) (hJ : ∀ τ k n, LSt (u + 1) τ k n → OK X qL p e room_1 s m args below meth c E 1514 (lsL u) [] τ k n) : OK X qL p e room_1 s m args below meth c E 1432 (lsL u) [] (z, kd, I, L, R) k n :=
  l_case ac hN hL (js := [1]) (by decide) (mc := 184) (mm := 192) ⟨rfl, rfl⟩ ⟨rfl, rfl⟩ lh_1432 rfl (tw_184 (by omega) h) hJ
theorem lc_1455 (ac : AC X qL p s m args meth c) (hN : 7 * u + 7 ≤ gN X) (hL : gN X ≤ 3584) (h : LSt u (z, kd, I, L, R) k n) (hJ : ∀ τ k n, LSt (u + 1) τ k n → OK X qL p e room_1 s m args below meth c E 1514 (lsL u) [] τ k n) : OK X qL p e room_1 s m args below meth c E 1455 (lsL u) [] (z, kd, I, L, R) k n :=
  l_case ac hN hL (js := [1]) (by decide) (mc := 187) (mm := 195) ⟨rfl, rfl⟩ ⟨rfl, rfl⟩ lh_1455 rfl (tw_187 (by omega) h) hJ
theorem lc_1478 (ac : AC X qL p s m args meth c) (hN : 7 * u + 7 ≤ gN X) (hL : gN X ≤ 3584) (h : LSt u (z, kd, I, L, R) k n) (hJ : ∀ τ k n, LSt (u + 1) τ k n → OK X qL p e room_1 s m args below meth c E 1514 (lsL u) [] τ k n) : OK X qL p e room_1 s m args below meth c E 1478 (lsL u) [] (z, kd, I, L, R) k n :=
  l_case ac hN hL (js := [1]) (by decide) (mc := 188) (mm := 304) ⟨rfl, rfl⟩ ⟨rfl, rfl⟩ lh_1478 rfl (tw_188 (by omega) h) hJ
theorem lc_1501 (ac : AC X qL p s m args meth c) (hN : 7 * u + 7 ≤ gN X) (hL : gN X ≤ 3584) (h : LSt u (z, kd, I, L, R) k n) (hJ : ∀ τ k n, LSt (u + 1) τ k n → OK X qL p e room_1 s m args below meth c E 1514 (lsL u) [] τ k n) : OK X qL p e room_1 s m args below meth c E 1501 (lsL u) [] (z, kd, I, L, R) k n :=
  l_case ac hN hL (js := []) (by decide) (mc := 190) (mm := 305) ⟨rfl, rfl⟩ ⟨rfl, rfl⟩ lh_1501 rfl (tw_190 (by omega) h) hJ
end LK
