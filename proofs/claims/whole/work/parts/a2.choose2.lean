section
set_option maxRecDepth 100000 in
theorem ev_83_0 {dp : Nat} {e : EN} {I : JI} {L : JI} {i2 : Int} {i3 : Int} {i4 : Int} {i5 : Int} {i6 : Int} {a0 : Nat} {a1 : Nat} {P_ : (JI × JI) → Prop} (h : Ev (fun n => (if (a0 < e.1) ∧ ((e.2.1 a0).1 = 2) then (if (I a0 4) ≤ 64 then (if i2 < 10 then (if (a0 < e.1) ∧ ((e.2.1 a0).1 = 2) then ((e.2.2 a0 3).bind (fun b_22 => (if ((b_22 < e.1) ∧ (((e.2.1 b_22).1 = 13) ∧ ((e.2.1 b_22).2 < (2 ^ 31)))) ∧ (0 ≤ i2 ∧ i2 < (((e.2.1 b_22).2 : Nat) : Int)) then (stI (I b_22 i2) (fun v_27 => (if (a0 < e.1) ∧ ((e.2.1 a0).1 = 2) then ((e.2.2 a0 2).bind (fun b_30 => (if ((b_30 < e.1) ∧ (((e.2.1 b_30).1 = 13) ∧ ((e.2.1 b_30).2 < (2 ^ 31)))) ∧ (0 ≤ i2 ∧ i2 < (((e.2.1 b_30).2 : Nat) : Int)) then (stI (w2 I b_30 i2 (-1)) (fun I_35 => (if 1 ≤ dp then (if -2147483648 ≤ i2 + 1 ∧ i2 + 1 ≤ 2147483647 then ((kf_83 n (dp - 1) e 0 I_35 L (i2 + 1) i3 0 0 0 a0 a1).bind (fun ⟨I0_42, L0_42⟩ => (kf_83 n dp e 1 I0_42 L0_42 i2 i3 v_27 0 0 a0 a1))) else none) else none))) else none))) else none))) else none))) else none) else (if (a0 < e.1) ∧ ((e.2.1 a0).1 = 2) then (if 1 ≤ dp then ((kf_84 n (dp - 1) e 0 I L 0 a0).bind (fun ⟨I0_17, L0_17⟩ => (some (I0_17, L0_17)))) else none) else none)) else (some (I, L))) else none)) P_) : Ev (fun n => kf_83 n dp e 0 I L i2 i3 i4 i5 i6 a0 a1) P_ := Ev_step (fun n => ke_83_0 n dp e I L i2 i3 i4 i5 i6 a0 a1) h
set_option maxRecDepth 100000 in
theorem ev_83_1 {dp : Nat} {e : EN} {I : JI} {L : JI} {i2 : Int} {i3 : Int} {i4 : Int} {i5 : Int} {i6 : Int} {a0 : Nat} {a1 : Nat} {P_ : (JI × JI) → Prop} (h : Ev (fun n => (if (a1 < e.1) ∧ ((e.2.1 a1).1 = 10) then (if (I a1 11) ≤ i5 then (some (I, L)) else (if i4 ≤ 0 then (some (I, L)) else (if (a1 < e.1) ∧ ((e.2.1 a1).1 = 10) then (if 1 ≤ dp then ((kf_85 n (dp - 1) e 0 I L i5 0 0 a1).bind (fun ⟨x0_68, I0_68, L0_68⟩ => (if (-2147483648 ≤ x0_68 - 1 ∧ x0_68 - 1 ≤ 2147483647) ∧ (-2147483648 ≤ i4 * (x0_68 - 1) ∧ i4 * (x0_68 - 1) ≤ 2147483647) ∧ (-2147483648 ≤ i3 + (i4 * (x0_68 - 1)) ∧ i3 + (i4 * (x0_68 - 1)) ≤ 2147483647) then (stI (i3 + (i4 * (x0_68 - 1))) (fun v_75 => (if (a1 < e.1) ∧ ((e.2.1 a1).1 = 10) then ((e.2.2 a1 5).bind (fun b_78 => (if ((b_78 < e.1) ∧ (((e.2.1 b_78).1 = 13) ∧ ((e.2.1 b_78).2 < (2 ^ 31)))) ∧ (0 ≤ i5 ∧ i5 < (((e.2.1 b_78).2 : Nat) : Int)) then (if (I0_68 b_78 i5) = i2 then (if (a0 < e.1) ∧ ((e.2.1 a0).1 = 2) then (if (bA (bR (I0_68 a0 6) i5) 1) = 1 then (if 200 < v_75 then (kf_83 n dp e 2 I0_68 L0_68 i2 i3 i4 i5 v_75 a0 a1) else (if (a0 < e.1) ∧ ((e.2.1 a0).1 = 2) then ((e.2.2 a0 2).bind (fun b_110 => (if ((b_110 < e.1) ∧ (((e.2.1 b_110).1 = 13) ∧ ((e.2.1 b_110).2 < (2 ^ 31)))) ∧ (0 ≤ i2 ∧ i2 < (((e.2.1 b_110).2 : Nat) : Int)) then (stI (w2 I0_68 b_110 i2 i5) (fun I_116 => (if (a0 < e.1) ∧ ((e.2.1 a0).1 = 2) then (if 1 ≤ dp then ((kf_86 n (dp - 1) e 0 I_116 L0_68 i5 i4 0 a0 a1).bind (fun ⟨I1_123, L1_123⟩ => (if 1 ≤ dp then (if -2147483648 ≤ i2 + 1 ∧ i2 + 1 ≤ 2147483647 then ((kf_83 n (dp - 1) e 0 I1_123 L1_123 (i2 + 1) v_75 0 0 0 a0 a1).bind (fun ⟨I2_133, L2_133⟩ => (if (a0 < e.1) ∧ ((e.2.1 a0).1 = 2) then (if 1 ≤ dp then (if -2147483648 ≤ -i4 ∧ -i4 ≤ 2147483647 then ((kf_86 n (dp - 1) e 0 I2_133 L2_133 i5 (-i4) 0 a0 a1).bind (fun ⟨I3_143, L3_143⟩ => (kf_83 n dp e 2 I3_143 L3_143 i2 i3 i4 i5 v_75 a0 a1))) else none) else none) else none))) else none) else none))) else none) else none))) else none))) else none)) else (kf_83 n dp e 2 I0_68 L0_68 i2 i3 i4 i5 v_75 a0 a1)) else none) else (kf_83 n dp e 2 I0_68 L0_68 i2 i3 i4 i5 v_75 a0 a1)) else none))) else none))) else none))) else none) else none))) else none)) P_) : Ev (fun n => kf_83 n dp e 1 I L i2 i3 i4 i5 i6 a0 a1) P_ := Ev_step (fun n => ke_83_1 n dp e I L i2 i3 i4 i5 i6 a0 a1) h
set_option maxRecDepth 100000 in
theorem ev_83_2 {dp : Nat} {e : EN} {I : JI} {L : JI} {i2 : Int} {i3 : Int} {i4 : Int} {i5 : Int} {i6 : Int} {a0 : Nat} {a1 : Nat} {P_ : (JI × JI) → Prop} (h : Ev (fun n => (if -2147483648 ≤ i5 + 1 ∧ i5 + 1 ≤ 2147483647 then (kf_83 n dp e 1 I L i2 i3 i4 (i5 + 1) 0 a0 a1) else none)) P_) : Ev (fun n => kf_83 n dp e 2 I L i2 i3 i4 i5 i6 a0 a1) P_ := Ev_step (fun n => ke_83_2 n dp e I L i2 i3 i4 i5 i6 a0 a1) h
end
/-! CUTTINGS: the class's, chosen one by one -/
theorem ctl_nil {α : Type} {f : Int → List α} (h : ∀ w, f w = []) : ∀ (j : Nat) (w : Int), ctl f j w = []
  | 0, _ => rfl
  | j + 1, w => by unfold ctl; rw [h w, ctl_nil h j (w + 1)]; rfl
section CH
variable {e : EN} {M : JI} {a0 tr : Nat} {W op : Int → Int} {nw : Nat}
theorem K83 (hs : a0 = 58 ∨ a0 = 63 ∨ a0 = 68) (htr : tr = 9 ∨ tr = 93) (hO : CtO e a0) (hT : TrO e tr) : ∀ (k dp : Nat) (J : JI) (cnt ch : Int → Int) (ls : List CT) (x1 x2 x3 : Int), k ≤ 10 → k + 2 ≤ dp → TrW J tr W nw → (∀ w : Int, 0 ≤ w → w < nw → (bA (bR (J a0 6) w) 1 = 1 ↔ op w = 1)) → CmR J a0 (10 - k) cnt ch → (∀ q, 0 ≤ q → q < 10 → 0 ≤ cnt q) → sm cnt 10 ≤ 200 → LsO (J a0 4) (J (a0 + 1)) (J (a0 + 2)) ls → Ev (fun n => kf_83 n dp e 0 J M (10 - k) (sm cnt 10) x1 x2 x3 a0 tr) (fun r => r.2 = M ∧ FrX a0 J r.1 ∧ (∀ q, r.1 (a0 + 4) q = J (a0 + 4) q) ∧ (∀ q, q < 10 - (k : Int) → r.1 (a0 + 3) q = J (a0 + 3) q) ∧ LsO (r.1 a0 4) (r.1 (a0 + 1)) (r.1 (a0 + 2)) (ls ++ En W op nw k cnt ch)) := by
  have hO' := hO
  obtain ⟨o0, o1, o2, o3, o4⟩ := hO
  have t6 := hT.2.2.2.2.2.2.1
  intro k
  induction k with
  | zero =>
    intro dp J cnt ch ls x1 x2 x3 _ hd hW hop hC hc h2 hL
    refine ev_83_0 ?_
    refine Ev_t o0 (Ev_c (fun z => Ev_f (by omega) (Ev_t o0 (Ev_t (by omega) (Ev_bind (K84 hs hO' z hC hL) (fun r hr => Ev_ret ?_))))) (fun z => Ev_ret ?_))
    · obtain ⟨r1, r2, r3, r4, r5⟩ := hr
      exact ⟨r1, r2, r3, fun q _ => r4 q, r5⟩
    · exact ⟨rfl, fun _ _ _ _ _ _ _ => rfl, fun _ => rfl, fun _ _ => rfl, LsO_more (show 65 ≤ J a0 4 by omega) hL⟩
  | succ k ih =>
    intro dp J cnt ch ls x1 x2 x3 hk hd hW hop hC hc h2 hL
    have ep : (10 : Int) - ((k + 1 : Nat) : Int) = 9 - k := by omega
    have ep2 : (9 : Int) - k + 1 = 10 - k := by omega
    rw [ep] at *
    refine ev_83_0 ?_
    refine Ev_t o0 (Ev_c (fun z => Ev_t (by omega) (Ev_t o0 (Ev_R o4.1 (Ev_t ⟨⟨o4.2.1, o4.2.2.1, by rw [o4.2.2.2]; decide⟩, by rw [o4.2.2.2]; omega⟩ (Ev_st (Ev_t o0 (Ev_R o3.1 (Ev_t ⟨⟨o3.2.1, o3.2.2.1, by rw [o3.2.2.2]; decide⟩, by rw [o3.2.2.2]; omega⟩ (Ev_st (Ev_t (by omega) (Ev_t (by omega) ?_)))))))))) ) (fun z => Ev_ret ⟨rfl, fun _ _ _ _ _ _ _ => rfl, fun _ => rfl, fun _ _ => rfl, LsO_more (show 65 ≤ J a0 4 by omega) hL⟩))
    have eh : J (a0 + 4) (9 - k) = cnt (9 - k) := (hC (9 - k) (by omega) (by omega)).2.2 (by omega)
    rw [eh, ep2]
    have hc0 := hc (9 - k) (by omega) (by omega)
    have hcs := sm_ge 10 hc (9 - k) (by omega) (by omega)
    generalize hp : (9 : Int) - k = p at *
    have pb : 0 ≤ p ∧ p < 10 := by omega
    /- none chosen -/
    have n3 : ∀ a i, ¬ (a = a0 + 3 ∧ i = p) → w2 J (a0 + 3) p (-1) a i = J a i := fun a i h => w2_n h
    have CmN : CmR (w2 J (a0 + 3) p (-1)) a0 (10 - k) cnt (up1 ch p (-1)) := by
      intro q q0 q1
      obtain ⟨c1, c2, c3⟩ := hC q q0 q1
      rw [n3 (a0 + 4) q (by omega)]
      refine ⟨c1, fun hq => ?_, fun hq => c3 (by omega)⟩
      by_cases y : q = p
      · subst y
        rw [w2_ap, if_pos ⟨rfl, rfl⟩, up1_s]
        exact ⟨rfl, fun _ => c3 (by omega), fun y => absurd rfl y⟩
      · rw [n3 _ _ (by omega), up1_o y]
        exact c2 (by omega)
    have hop1 : ∀ w : Int, 0 ≤ w → w < nw → (bA (bR ((w2 J (a0 + 3) p (-1)) a0 6) w) 1 = 1 ↔ op w = 1) := fun w a b => by rw [n3 _ _ (by omega)]; exact hop w a b
    have L1 : LsO ((w2 J (a0 + 3) p (-1)) a0 4) ((w2 J (a0 + 3) p (-1)) (a0 + 1)) ((w2 J (a0 + 3) p (-1)) (a0 + 2)) ls := by
      rw [n3 _ _ (by omega)]
      exact LsO_c (fun i _ _ => ⟨n3 _ _ (by omega), n3 _ _ (by omega)⟩) hL
    refine Ev_bind (ih (dp - 1) (w2 J (a0 + 3) p (-1)) cnt (up1 ch p (-1)) ls 0 0 0 (by omega) (by omega) (TrW_c (fun a i _ _ => n3 a i (by omega)) hW) hop1 CmN hc h2 L1) ?_
    rintro ⟨J1, M1⟩ ⟨r1, r2, r3, r4, r5⟩
    dsimp only at r1 r2 r3 r4 r5 ⊢
    subst r1
    /- the ways -/
    have key : ∀ (j : Nat) (w : Int) (J2 : JI) (l2 : List CT) (y : Int), w + j = nw → 0 ≤ w → FrX a0 J J2 → (∀ q, J2 (a0 + 4) q = J (a0 + 4) q) → (∀ q, q < p → J2 (a0 + 3) q = J (a0 + 3) q) → LsO (J2 a0 4) (J2 (a0 + 1)) (J2 (a0 + 2)) l2 → Ev (fun n => kf_83 n dp e 1 J2 M1 p (sm cnt 10) (cnt p) w y a0 tr) (fun r => r.2 = M1 ∧ FrX a0 J r.1 ∧ (∀ q, r.1 (a0 + 4) q = J (a0 + 4) q) ∧ (∀ q, q < p → r.1 (a0 + 3) q = J (a0 + 3) q) ∧ LsO (r.1 a0 4) (r.1 (a0 + 1)) (r.1 (a0 + 2)) (l2 ++ ctl (fun w => if okx W op p w cnt then En W op nw k (ctp W p w cnt) (up1 ch p w) else []) j w)) := by
      intro j
      induction j with
      | zero =>
        intro w J2 l2 y hw hw0 f1 f2 f3 f4
        have e11 : J2 tr 11 = nw := (f1 _ _ (by omega) (by omega) (by omega) (by omega) (by omega)).trans hW.1
        refine ev_83_1 ?_
        refine Ev_t hT.1 (Ev_t (by omega) (Ev_ret ⟨rfl, f1, f2, f3, ?_⟩))
        unfold ctl
        rw [List.append_nil]
        exact f4
      | succ j jh =>
        intro w J2 l2 y hw hw0 f1 f2 f3 f4
        have hW2 : TrW J2 tr W nw := TrW_c (fun a i _ _ => f1 a i (by omega) (by omega) (by omega) (by omega) (by omega)) hW
        have hww : 0 ≤ w ∧ w < nw := by omega
        obtain ⟨w6, wp, wq⟩ := hW2.2.2 w hww.1 hww.2
        have h16 := hW.2.1
        have e6 : J2 a0 6 = J a0 6 := f1 _ _ (by omega) (by omega) (by omega) (by omega) (by omega)
        have next : ∀ (J3 : JI) (l3 : List CT) (y : Int), FrX a0 J J3 → (∀ q, J3 (a0 + 4) q = J (a0 + 4) q) → (∀ q, q < p → J3 (a0 + 3) q = J (a0 + 3) q) → LsO (J3 a0 4) (J3 (a0 + 1)) (J3 (a0 + 2)) l3 → l3 = l2 ++ (if okx W op p w cnt then En W op nw k (ctp W p w cnt) (up1 ch p w) else []) → Ev (fun n => kf_83 n dp e 2 J3 M1 p (sm cnt 10) (cnt p) w y a0 tr) (fun r => r.2 = M1 ∧ FrX a0 J r.1 ∧ (∀ q, r.1 (a0 + 4) q = J (a0 + 4) q) ∧ (∀ q, q < p → r.1 (a0 + 3) q = J (a0 + 3) q) ∧ LsO (r.1 a0 4) (r.1 (a0 + 1)) (r.1 (a0 + 2)) (l2 ++ ctl (fun w => if okx W op p w cnt then En W op nw k (ctp W p w cnt) (up1 ch p w) else []) (j + 1) w)) := by
          intro J3 l3 y g1 g2 g3 g4 g5
          subst g5
          unfold ctl
          rw [← List.append_assoc]
          refine ev_83_2 ?_
          exact Ev_t (by omega) (jh (w + 1) J3 _ 0 (by omega) (by omega) g1 g2 g3 g4)
        have skip : ¬ okx W op p w cnt → ∀ y, Ev (fun n => kf_83 n dp e 2 J2 M1 p (sm cnt 10) (cnt p) w y a0 tr) (fun r => r.2 = M1 ∧ FrX a0 J r.1 ∧ (∀ q, r.1 (a0 + 4) q = J (a0 + 4) q) ∧ (∀ q, q < p → r.1 (a0 + 3) q = J (a0 + 3) q) ∧ LsO (r.1 a0 4) (r.1 (a0 + 1)) (r.1 (a0 + 2)) (l2 ++ ctl (fun w => if okx W op p w cnt then En W op nw k (ctp W p w cnt) (up1 ch p w) else []) (j + 1) w)) := fun hn y => next J2 l2 y f1 f2 f3 f4 (by rw [if_neg hn, List.append_nil])
        refine ev_83_1 ?_
        refine Ev_t hT.1 (Ev_f (by have := hW2.1; omega) (Ev_c (fun z0 => Ev_ret ⟨rfl, f1, f2, f3, ?_⟩) (fun z0 => Ev_t hT.1 (Ev_t (by omega) (Ev_call (K85 hT hW2 hww) ?_)))))
        · rw [ctl_nil (fun w => if_neg (fun z => by have := z.2.2.1; omega)), List.append_nil]
          exact f4
        dsimp only
        have pcb := sm_b (f := fun q => W (11 * w + 1 + q)) (B := 3600) 10 (fun i a b => ⟨(wq i a (by omega)).2.1, (wq i a (by omega)).2.2.1⟩)
        have mb : -200 ≤ cnt p * (sm (fun q => W (11 * w + 1 + q)) 10 - 1) ∧ cnt p * (sm (fun q => W (11 * w + 1 + q)) 10 - 1) ≤ 200 * 36000 := by
          have m1 := mulb (a := cnt p) (b := sm (fun q => W (11 * w + 1 + q)) 10) (A := 200) (B := 36000) (by omega) (by omega)
          rw [Int.mul_sub, Int.mul_one]
          omega
        refine Ev_t (by omega) (Ev_st (Ev_t hT.1 (Ev_R t6.1 (Ev_t ⟨⟨t6.2.1, t6.2.2.1, by rw [t6.2.2.2]; decide⟩, by rw [t6.2.2.2]; omega⟩ ?_))))
        simp only [w6, e6]
        refine Ev_c (fun zp => Ev_t o0 (Ev_c (fun zo => ?_) (fun zo => skip (fun z => zo ((hop w hww.1 hww.2).mpr z.2.1)) _))) (fun zp => skip (fun z => zp z.1) _)
        have wz : W (11 * w + 1 + p) = 0 := (wq p pb.1 pb.2).2.2.2 (by omega)
        have es := sm_ctp (W := W) (w := w) (cnt := cnt) pb wz
        simp only [← es]
        refine Ev_c (fun z2 => skip (fun z => by have := z.2.2.2; omega) _) (fun z2 => ?_)
        have ok : okx W op p w cnt := ⟨zp, (hop w hww.1 hww.2).mp zo, by omega, by omega⟩
        have cb := ctp_b (W := W) (op := op) (w := w) (cnt := cnt) (fun q a b => (wq q a b).2.1) pb hc
        have tb : ∀ q, 0 ≤ q → q < 10 → 0 ≤ cnt p * W (11 * w + 1 + q) ∧ cnt p * W (11 * w + 1 + q) ≤ 200 * 3600 := fun q a b => mulb (by omega) ⟨(wq q a b).2.1, (wq q a b).2.2.1⟩
        refine Ev_t o0 (Ev_R o3.1 (Ev_t ⟨⟨o3.2.1, o3.2.2.1, by rw [o3.2.2.2]; decide⟩, by rw [o3.2.2.2]; omega⟩ (Ev_st (Ev_t o0 (Ev_t (by omega) ?_)))))
        have n4 : ∀ a i, ¬ (a = a0 + 3 ∧ i = p) → w2 J2 (a0 + 3) p w a i = J2 a i := fun a i h => w2_n h
        refine Ev_bind (K86 (J := w2 J2 (a0 + 3) p w) hs htr hO' hT (TrW_c (fun a i _ _ => n4 a i (by omega)) hW2) hww (fun q a b => by have := tb q a b; omega) (fun q a b => by rw [n4 _ _ (by omega), f2]; have := (hC q a b).1; omega)) ?_
        rintro ⟨J3, M3⟩ ⟨b1, b2, b3⟩
        dsimp only at b1 b2 b3 ⊢
        subst b1
        have j34 : ∀ q, 0 ≤ q → q < 10 → J3 (a0 + 4) q = J (a0 + 4) q + cnt p * W (11 * w + 1 + q) := fun q a b => by rw [b3 q a b, n4 _ _ (by omega), f2]
        have fx3 : FrX a0 J J3 := fun a i c1 c2 c3 c4 c5 => by rw [b2 a i (by omega), n4 a i (by omega)]; exact f1 a i c1 c2 c3 c4 c5
        have CmW : CmR J3 a0 (10 - k) (ctp W p w cnt) (up1 ch p w) := by
          intro q q0 q1
          obtain ⟨c1, c2, c3⟩ := hC q q0 q1
          have sg := sm_ge 10 cb q q0 (by omega)
          have cq := cb q q0 q1
          have tq := tb q q0 q1
          have jq := j34 q q0 q1
          by_cases y : q = p
          · subst y
            have e0 : ctp W q w cnt q = 0 := if_pos rfl
            rw [wz, Int.mul_zero] at jq
            refine ⟨by omega, fun hq => ⟨?_, fun z => ?_, fun _ => e0⟩, fun hq => by omega⟩
            · rw [b2 _ _ (by omega), w2_ap, if_pos ⟨rfl, rfl⟩, up1_s]
            · rw [up1_s] at z; omega
          · have ec : ctp W p w cnt q = cnt q + cnt p * W (11 * w + 1 + q) := by unfold ctp; rw [if_neg y, if_pos ⟨q0, q1⟩]
            by_cases yl : q < p
            · have wz2 : W (11 * w + 1 + q) = 0 := (wq q q0 q1).2.2.2 (by omega)
              rw [wz2, Int.mul_zero] at jq ec
              obtain ⟨c21, c22, c23⟩ := c2 (by omega)
              refine ⟨by omega, fun hq => ?_, fun hq => by omega⟩
              rw [b2 _ _ (by omega), n4 _ _ (by omega), f3 q yl, up1_o y, jq, ec]
              exact ⟨c21, fun z => by rw [c22 z], fun z => by rw [c23 z]; rfl⟩
            · have c33 := c3 (by omega)
              refine ⟨by omega, fun hq => by omega, fun hq => by omega⟩
        have L3 : LsO (J3 a0 4) (J3 (a0 + 1)) (J3 (a0 + 2)) l2 := by
          rw [b2 _ _ (by omega), n4 _ _ (by omega)]
          exact LsO_c (fun i _ _ => ⟨by rw [b2 _ _ (by omega), n4 _ _ (by omega)], by rw [b2 _ _ (by omega), n4 _ _ (by omega)]⟩) f4
        rw [ep2]
        refine Ev_t (by omega) (Ev_t (by omega) (Ev_bind (ih (dp - 1) J3 (ctp W p w cnt) (up1 ch p w) l2 0 0 0 (by omega) (by omega) (TrW_c (fun a i _ _ => by rw [b2 a i (by omega), n4 a i (by omega)]) hW2) (fun w a b => by rw [fx3 _ _ (by omega) (by omega) (by omega) (by omega) (by omega)]; exact hop w a b) CmW cb (by omega) L3) ?_))
        rintro ⟨J4, M4⟩ ⟨d1, d2, d3, d4, d5⟩
        dsimp only at d1 d2 d3 d4 d5 ⊢
        subst d1
        have fx4 : FrX a0 J J4 := fun a i c1 c2 c3 c4 c5 => (d2 a i c1 c2 c3 c4 c5).trans (fx3 a i c1 c2 c3 c4 c5)
        refine Ev_t o0 (Ev_t (by omega) (Ev_t (by omega) (Ev_bind (K86 (J := J4) (t := -cnt p) hs htr hO' hT (TrW_c (fun a i _ _ => fx4 a i (by omega) (by omega) (by omega) (by omega) (by omega)) hW) hww (fun q a b => by rw [Int.neg_mul]; have := tb q a b; omega) (fun q a b => by rw [d3, j34 q a b]; have := tb q a b; have := (hC q a b).1; omega)) ?_)))
        rintro ⟨J5, M5⟩ ⟨g1, g2, g3⟩
        dsimp only at g1 g2 g3 ⊢
        subst g1
        refine next J5 _ _ (fun a i c1 c2 c3 c4 c5 => by rw [g2 a i (by omega)]; exact fx4 a i c1 c2 c3 c4 c5) (fun q => ?_) (fun q hq => ?_) ?_ (by rw [if_pos ok])
        · by_cases qb : 0 ≤ q ∧ q < 10
          · rw [g3 q qb.1 qb.2, d3, j34 q qb.1 qb.2, Int.neg_mul]; omega
          · rw [g2 _ _ (by omega), d3, b2 _ _ (by omega), n4 _ _ (by omega), f2]
        · rw [g2 _ _ (by omega), d4 q (by omega), b2 _ _ (by omega), n4 _ _ (by omega)]; exact f3 q hq
        · rw [g2 _ _ (by omega)]
          exact LsO_c (fun i _ _ => ⟨g2 _ _ (by omega), g2 _ _ (by omega)⟩) d5
    have r := key nw 0 J1 _ 0 (by omega) (by omega) (fun a i c1 c2 c3 c4 c5 => (r2 a i c1 c2 c3 c4 c5).trans (n3 a i (by omega))) (fun q => (r3 q).trans (n3 _ _ (by omega))) (fun q hq => (r4 q (by omega)).trans (n3 _ _ (by omega))) r5
    have eE : En W op nw (k + 1) cnt ch = En W op nw k cnt (up1 ch p (-1)) ++ ctl (fun w => if okx W op p w cnt then En W op nw k (ctp W p w cnt) (up1 ch p w) else []) nw 0 := by
      rw [En, hp]
    rw [eE, ← List.append_assoc]
    exact r
end CH
