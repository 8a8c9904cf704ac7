section
set_option maxRecDepth 100000 in
theorem ev_146_1 {dp : Nat} {e : EN} {I : JI} {L : JI} {i1 : Int} {i2 : Int} {i4 : Int} {i5 : Int} {i6 : Int} {a3 : Nat} {P_ : (JI × JI) → Prop} (h : Ev (fun n => (if 10 ≤ i4 then (some (I, L)) else (if (-2147483648 ≤ i2 * 10 ∧ i2 * 10 ≤ 2147483647) ∧ (-2147483648 ≤ (i2 * 10) + i4 ∧ (i2 * 10) + i4 ≤ 2147483647) then (if ((a3 < e.1) ∧ (((e.2.1 a3).1 = 13) ∧ ((e.2.1 a3).2 < (2 ^ 31)))) ∧ (0 ≤ ((i2 * 10) + i4) ∧ ((i2 * 10) + i4) < (((e.2.1 a3).2 : Nat) : Int)) then (stI (I a3 ((i2 * 10) + i4)) (fun v_47 => (if v_47 = (-1) then (kf_146 n dp e 4 I L i1 i2 i4 v_47 0 a3) else (if 0 ≤ v_47 ∧ v_47 < 16 then (if 0 ≤ i4 ∧ i4 < 10 then (if 1 ≤ dp then ((kf_77 n (dp - 1) e 0 I L 1 v_47 i1 0 0).bind (fun ⟨x0_81, I0_81, L0_81⟩ => (if 0 ≤ v_47 ∧ v_47 < 16 then (if (-2147483648 ≤ (I 77 i4) * x0_81 ∧ (I 77 i4) * x0_81 ≤ 2147483647) ∧ (-2147483648 ≤ (I 74 v_47) + ((I 77 i4) * x0_81) ∧ (I 74 v_47) + ((I 77 i4) * x0_81) ≤ 2147483647) then (stI (w2 I0_81 74 v_47 ((I 74 v_47) + ((I 77 i4) * x0_81))) (fun I_86 => (if 0 ≤ v_47 ∧ v_47 < 16 then (if (I_86 75 v_47) = (-1) then (if 1 ≤ dp then ((kf_77 n (dp - 1) e 0 I_86 L0_81 2 v_47 i1 0 0).bind (fun ⟨x1_112, I1_112, L1_112⟩ => (if 0 ≤ v_47 ∧ v_47 < 16 then (stI (w2 I1_112 75 v_47 x1_112) (fun I_115 => (kf_146 n dp e 2 I_115 L1_112 i1 i2 i4 v_47 0 a3))) else none))) else none) else (kf_146 n dp e 2 I_86 L0_81 i1 i2 i4 v_47 0 a3)) else none))) else none) else none))) else none) else none) else none)))) else none) else none))) P_) : Ev (fun n => kf_146 n dp e 1 I L i1 i2 i4 i5 i6 a3) P_ := Ev_step (fun n => ke_146_1 n dp e I L i1 i2 i4 i5 i6 a3) h
set_option maxRecDepth 100000 in
theorem ev_146_4 {dp : Nat} {e : EN} {I : JI} {L : JI} {i1 : Int} {i2 : Int} {i4 : Int} {i5 : Int} {i6 : Int} {a3 : Nat} {P_ : (JI × JI) → Prop} (h : Ev (fun n => (if -2147483648 ≤ i4 + 1 ∧ i4 + 1 ≤ 2147483647 then (kf_146 n dp e 1 I L i1 i2 (i4 + 1) 0 0 a3) else none)) P_) : Ev (fun n => kf_146 n dp e 4 I L i1 i2 i4 i5 i6 a3) P_ := Ev_step (fun n => ke_146_4 n dp e I L i1 i2 i4 i5 i6 a3) h
set_option maxRecDepth 100000 in
theorem ev_146_2 {dp : Nat} {e : EN} {I : JI} {L : JI} {i1 : Int} {i2 : Int} {i4 : Int} {i5 : Int} {i6 : Int} {a3 : Nat} {P_ : (JI × JI) → Prop} (h : Ev (fun n => (if -2147483648 ≤ i4 + 1 ∧ i4 + 1 ≤ 2147483647 then (kf_146 n dp e 3 I L i1 i2 i4 i5 (i4 + 1) a3) else none)) P_) : Ev (fun n => kf_146 n dp e 2 I L i1 i2 i4 i5 i6 a3) P_ := Ev_step (fun n => ke_146_2 n dp e I L i1 i2 i4 i5 i6 a3) h
set_option maxRecDepth 100000 in
theorem ev_146_3 {dp : Nat} {e : EN} {I : JI} {L : JI} {i1 : Int} {i2 : Int} {i4 : Int} {i5 : Int} {i6 : Int} {a3 : Nat} {P_ : (JI × JI) → Prop} (h : Ev (fun n => (if 10 ≤ i6 then (kf_146 n dp e 4 I L i1 i2 i4 i5 0 a3) else (if 0 ≤ i6 ∧ i6 < 10 then (if 0 ≤ i4 ∧ i4 < 10 then ((e.2.2 1 7).bind (fun b_148 => (if (b_148 < e.1) ∧ ((e.2.1 b_148).1 = 10) then ((e.2.2 b_148 7).bind (fun b_151 => (if (-2147483648 ≤ i5 * 10 ∧ i5 * 10 ≤ 2147483647) ∧ (-2147483648 ≤ (i5 * 10) + i6 ∧ (i5 * 10) + i6 ≤ 2147483647) then (if ((b_151 < e.1) ∧ (((e.2.1 b_151).1 = 13) ∧ ((e.2.1 b_151).2 < (2 ^ 31)))) ∧ (0 ≤ ((i5 * 10) + i6) ∧ ((i5 * 10) + i6) < (((e.2.1 b_151).2 : Nat) : Int)) then (if 0 ≤ i6 ∧ i6 < 10 then (if (-2147483648 ≤ (I 77 i4) * (I b_151 ((i5 * 10) + i6)) ∧ (I 77 i4) * (I b_151 ((i5 * 10) + i6)) ≤ 2147483647) ∧ (-2147483648 ≤ (I 77 i6) + ((I 77 i4) * (I b_151 ((i5 * 10) + i6))) ∧ (I 77 i6) + ((I 77 i4) * (I b_151 ((i5 * 10) + i6))) ≤ 2147483647) then (stI (w2 I 77 i6 ((I 77 i6) + ((I 77 i4) * (I b_151 ((i5 * 10) + i6))))) (fun I_165 => (if -2147483648 ≤ i6 + 1 ∧ i6 + 1 ≤ 2147483647 then (kf_146 n dp e 3 I_165 L i1 i2 i4 i5 (i6 + 1) a3) else none))) else none) else none) else none) else none))) else none))) else none) else none))) P_) : Ev (fun n => kf_146 n dp e 3 I L i1 i2 i4 i5 i6 a3) P_ := Ev_step (fun n => ke_146_3 n dp e I L i1 i2 i4 i5 i6 a3) h
set_option maxRecDepth 100000 in
theorem ev_146_0 {dp : Nat} {e : EN} {I : JI} {L : JI} {i1 : Int} {i2 : Int} {i4 : Int} {i5 : Int} {i6 : Int} {a3 : Nat} {P_ : (JI × JI) → Prop} (h : Ev (fun n => (if 0 ≤ i1 ∧ i1 < 3 then ((e.2.2 25 (Int.toNat i1)).bind (fun b_8 => (if (b_8 < e.1) ∧ ((e.2.1 b_8).1 = 2) then ((e.2.2 b_8 0).bind (fun b_9 => (if 1 ≤ dp then ((kf_36 n (dp - 1) e 0 I L 0 0 0 77).bind (fun ⟨I0_18, L0_18⟩ => (stI (w2 I0_18 77 0 1) (fun I_27 => (kf_146 n dp e 1 I_27 L0_18 i1 i2 0 0 0 b_9))))) else none))) else none))) else none)) P_) : Ev (fun n => kf_146 n dp e 0 I L i1 i2 i4 i5 i6 a3) P_ := Ev_step (fun n => ke_146_0 n dp e I L i1 i2 i4 i5 i6 a3) h
end
/-! TASKS: the class lists them -/
theorem iteI {c d : Prop} [Decidable c] [Decidable d] {a b : Int} (h : c ↔ d) : (if c then a else b) = if d then a else b := by
  by_cases q : c
  · rw [if_pos q, if_pos (h.1 q)]
  · rw [if_neg q, if_neg (fun z => q (h.2 z))]
def FrTk (J J' : JI) : Prop := ∀ a i, ¬ (a = 21 ∧ (i = 3 ∨ i = 4)) → ¬ a = 22 → ¬ a = 23 → ¬ a = 74 → ¬ a = 75 → ¬ a = 77 → J' a i = J a i
theorem FrTk_A {J J' : JI} {tr : Nat} {ρ : Int → Int} (htr : tr = 9 ∨ tr = 93) (h : FrTk J J') (hA : AskO J tr ρ) (hC : ClsO J tr ρ) : AskO J' tr ρ ∧ ClsO J' tr ρ := by
  have f : ∀ a i, (tr ≤ a ∧ a ≤ tr + 10) ∨ a = 1 ∨ a = 3 → J' a i = J a i := fun a i x => h a i (by omega) (by omega) (by omega) (by omega) (by omega) (by omega)
  obtain ⟨hTT, r1, r2, r3, r4⟩ := hA
  obtain ⟨c1, c2, c3, c4, c5⟩ := hC
  exact ⟨⟨TrT_j (fun a i x y => f a i (by omega)) hTT, r1, r2, r3, r4⟩, fun w a b => by rw [f _ _ (by omega)]; exact c1 w a b, by rw [f _ _ (by omega)]; exact c2, fun i a b => by rw [f _ _ (by omega)]; exact c3 i a b, by rw [f _ _ (by omega)]; exact c4, by rw [f _ _ (by omega)]; exact c5⟩
/-- the class's tables behind i carcasses -/
def TkT (J : JI) (ρ : Int → Int) (f : Nat → Int) (i : Nat) : Prop := ∀ w : Int, 0 ≤ w → w < 16 → J 74 w = tkM ρ f w i ∧ J 75 w = tkS ρ f w i
section K146
variable {dp : Nat} {e : EN} {M : JI} {tr : Nat} {ρ : Int → Int} {f : Nat → Int} {N : Nat}
set_option maxHeartbeats 2000000 in
theorem K146 {J : JI} {i c : Nat} (hS : ShC e tr) (h77 : arO e 77 10) (hd : 4 ≤ dp) (hc : c < 3) (ec : clA (ρ 0) (ρ 1) i = c) (hA : AskO J tr ρ) (hC : ClsO J tr ρ) (hf : FxO ρ f N) (hi : i < N) (hN : N ≤ 8) (hch : ∀ p, 0 ≤ p → p < 10 → J (58 + 5 * c + 1) (10 * f i + p) = chX ρ f i p) (hT : TkT J ρ f i) : Ev (fun n => kf_146 n dp e 0 J M c (f i) 0 0 0 0) (fun r => r.2 = M ∧ FrTk J r.1 ∧ TkT r.1 ρ f (i + 1)) := by
  obtain ⟨htr, hTr, h17, hQ⟩ := hS
  obtain ⟨t1, t2⟩ := hQ c hc
  have t2' : e.2.2 25 (Int.toNat (c : Int)) = some (58 + 5 * c) := by rw [show (c : Int).toNat = c by omega]; exact t2
  have t8 := hTr.2.2.2.2.2.2.2.2.1
  have hfi := (hf i hi).1
  have h9 := hA.2.2.1
  have h11 := hC.2.2.2.2
  have hW := AskO_W hA h11
  have hTT := hA.1
  /- what stands behind parts below P -/
  have outer : ∀ P : Nat, P ≤ 10 → ∀ K : JI, FrTk J K → (∀ w : Int, 0 ≤ w → w < 16 → K 74 w = tkM ρ f w i + (if usX ρ f i w ∧ wyP ρ w < P then tkD ρ f i w else 0) ∧ K 75 w = (if (usX ρ f i w ∧ wyP ρ w < P) ∧ tkS ρ f w i = -1 then skX ρ w (clA (ρ 0) (ρ 1) i) else tkS ρ f w i)) → (∀ q : Int, P ≤ q → q < 10 → K 77 q = cmX ρ f i P q) → Ev (fun n => kf_146 n dp e 1 K M c (f i) P 0 0 (58 + 5 * c + 1)) (fun r => r.2 = M ∧ FrTk J r.1 ∧ TkT r.1 ρ f (i + 1)) := by
    refine dec_ind 10 (fun P hP ih => ?_)
    intro K k1 k2 k3
    refine ev_146_1 ?_
    by_cases cP : P < 10
    · have ih := ih cP
      have ev : K (58 + 5 * c + 1) (f i * 10 + P) = chX ρ f i P := by
        rw [k1 _ _ (by omega) (by omega) (by omega) (by omega) (by omega) (by omega), show f i * 10 + (P : Int) = 10 * f i + P by omega]
        exact hch P (by omega) (by omega)
      refine Ev_f (by omega) (Ev_t (by omega) (Ev_t (arI t1.2.1.2 (by omega) (by omega)) ?_))
      rw [ev]
      have hcb := chX_b hA h11 (f := f) (i := i) (p := P) (by omega)
      have ecm : cmX ρ f i (P + 1) = if chX ρ f i P = -1 then cmX ρ f i P else fun q => if (P : Int) < q ∧ q < 10 then cmX ρ f i P q + cmX ρ f i P P * ρ (290 + (11 * chX ρ f i P + 1 + q)) else cmX ρ f i P q := by
        unfold cmX
        rw [cmg_s]
      have done4 : ∀ K' : JI, FrTk J K' → (∀ w : Int, 0 ≤ w → w < 16 → K' 74 w = tkM ρ f w i + (if usX ρ f i w ∧ wyP ρ w < ((P + 1 : Nat) : Int) then tkD ρ f i w else 0) ∧ K' 75 w = (if (usX ρ f i w ∧ wyP ρ w < ((P + 1 : Nat) : Int)) ∧ tkS ρ f w i = -1 then skX ρ w (clA (ρ 0) (ρ 1) i) else tkS ρ f w i)) → (∀ q : Int, ((P + 1 : Nat) : Int) ≤ q → q < 10 → K' 77 q = cmX ρ f i (P + 1) q) → ∀ x : Int, Ev (fun n => kf_146 n dp e 4 K' M c (f i) P x 0 (58 + 5 * c + 1)) (fun r => r.2 = M ∧ FrTk J r.1 ∧ TkT r.1 ρ f (i + 1)) := fun K' y1 y2 y3 x => by
        refine ev_146_4 ?_
        refine Ev_t (by omega) ?_
        rw [show (P : Int) + 1 = ((P + 1 : Nat) : Int) by omega]
        exact ih K' y1 y2 y3
      by_cases cv : chX ρ f i P = -1
      · refine Ev_st (Ev_t cv (done4 K k1 (fun w a b => ?_) (fun q a b => ?_) _))
        · have e1 : (usX ρ f i w ∧ wyP ρ w < ((P + 1 : Nat) : Int)) ↔ (usX ρ f i w ∧ wyP ρ w < P) := by
            constructor
            · rintro ⟨u, z⟩
              refine ⟨u, ?_⟩
              by_cases q : wyP ρ w = P
              · have := u.2
                rw [q, cv] at this
                omega
              · omega
            · rintro ⟨u, z⟩
              exact ⟨u, by omega⟩
          rw [iteI e1, iteI (and_congr e1 Iff.rfl)]
          exact k2 w a b
        · rw [ecm, if_pos cv]
          exact k3 q (by omega) b
      · rcases hcb with z | ⟨v0, v1, vp⟩
        · exact absurd z cv
        rw [if_neg cv] at ecm
        have kP := k3 P (by omega) (by omega)
        have cb := cmX_b hA h11 (p := P) (q := (P : Int)) (by omega) (by omega) hf hi
        have hv := hW.2.2 (chX ρ f i P) v0 (by omega)
        have eu : usX ρ f i (chX ρ f i P) := ⟨v1, by rw [vp]⟩
        have eD : cmX ρ f i P P * miX ρ (chX ρ f i P) (clA (ρ 0) (ρ 1) i) = tkD ρ f i (chX ρ f i P) := by
          unfold tkD
          rw [vp, Int.toNat_natCast]
        have uq : ∀ w : Int, usX ρ f i w → wyP ρ w = P → w = chX ρ f i P := fun w u z => by
          have := u.2
          rw [z] at this
          exact this.symm
        have tb := tkD_b hA h11 (i := i) (w := chX ρ f i P) ⟨v0, v1⟩ hf hi
        have mb := tkM_b hA h11 (w := chX ρ f i P) v0 hf i (by omega)
        have sb := tkS_b (ρ := ρ) (f := f) (w := chX ρ f i P) i
        obtain ⟨k74, k75⟩ := k2 (chX ρ f i P) v0 (by omega)
        rw [if_neg (by rw [vp]; omega), Int.add_zero] at k74
        rw [if_neg (by rw [vp]; omega)] at k75
        have ecmv : ∀ q : Int, (P : Int) < q → q < 10 → cmX ρ f i (P + 1) q = cmX ρ f i P q + cmX ρ f i P P * ρ (290 + (11 * chX ρ f i P + 1 + q)) := fun q a b => by
          rw [ecm]
          show (if (P : Int) < q ∧ q < 10 then _ else _) = _
          rw [if_pos ⟨a, b⟩]
        clear ecm
        generalize hv' : chX ρ f i P = v at *
        refine Ev_st (Ev_f cv (Ev_t (by omega) (Ev_t (by omega) (Ev_t (by omega) ?_))))
        obtain ⟨kA, kC⟩ := FrTk_A htr k1 hA hC
        refine Ev_bind (K77 (k := 1) (hd := 0) (mo := 60) (df := 1) (ρ := ρ) htr hTr h17 (by omega) kA kC ⟨v0, v1⟩ (by omega) (Or.inl ⟨rfl, rfl, rfl, rfl⟩)) ?_
        rintro ⟨x0, K1, M1⟩ ⟨ez, y1, y2⟩
        dsimp only at ez
        subst ez
        dsimp only at y1 y2 ⊢
        have ex : x0 = miX ρ v (clA (ρ 0) (ρ 1) i) := by rw [y2, ec]; rfl
        clear y2
        subst ex
        rw [k74, kP, eD]
        have f1 : FrTk J K1 := fun a q x1 x2 x3 x4 x5 x6 => (y1 a q x1 x2 x3).trans (k1 a q x1 x2 x3 x4 x5 x6)
        have y74 : ∀ q, K1 74 q = K 74 q := fun q => y1 74 q (by omega) (by omega) (by omega)
        have y75 : ∀ q, K1 75 q = K 75 q := fun q => y1 75 q (by omega) (by omega) (by omega)
        have y77 : ∀ q, K1 77 q = K 77 q := fun q => y1 77 q (by omega) (by omega) (by omega)
        refine Ev_t (by omega) (Ev_t (by omega) (Ev_st (Ev_t (by omega) ?_)))
        /- the pieces that come of it -/
        have inner : ∀ K2 : JI, FrTk J K2 → (∀ w : Int, 0 ≤ w → w < 16 → K2 74 w = tkM ρ f w i + (if usX ρ f i w ∧ wyP ρ w < ((P + 1 : Nat) : Int) then tkD ρ f i w else 0) ∧ K2 75 w = (if (usX ρ f i w ∧ wyP ρ w < ((P + 1 : Nat) : Int)) ∧ tkS ρ f w i = -1 then skX ρ w (clA (ρ 0) (ρ 1) i) else tkS ρ f w i)) → (∀ q : Int, P ≤ q → q < 10 → K2 77 q = cmX ρ f i P q) → Ev (fun n => kf_146 n dp e 2 K2 M1 c (f i) P v 0 (58 + 5 * c + 1)) (fun r => r.2 = M1 ∧ FrTk J r.1 ∧ TkT r.1 ρ f (i + 1)) := fun K2 z1 z2 z3 => by
          refine ev_146_2 ?_
          refine Ev_t (by omega) ?_
          have lp : ∀ q : Nat, q ≤ 10 → ∀ K3 : JI, P + 1 ≤ q → FrTk J K3 → (∀ w : Int, 0 ≤ w → w < 16 → K3 74 w = K2 74 w ∧ K3 75 w = K2 75 w) → (∀ q' : Int, (P : Int) + 1 ≤ q' → q' < q → K3 77 q' = cmX ρ f i (P + 1) q') → (∀ q' : Int, q ≤ q' → q' < 10 → K3 77 q' = cmX ρ f i P q') → K3 77 P = cmX ρ f i P P → Ev (fun n => kf_146 n dp e 3 K3 M1 c (f i) P v q (58 + 5 * c + 1)) (fun r => r.2 = M1 ∧ FrTk J r.1 ∧ TkT r.1 ρ f (i + 1)) := by
            refine dec_ind 10 (fun q hq ihq => ?_)
            intro K3 w0 w1 w2' w3 w4 w5
            refine ev_146_3 ?_
            by_cases cq : q < 10
            · have ihq := ihq cq
              have pq := (hv.2.2 q (by omega) (by omega))
              have e8 : K3 (tr + 8) (v * 10 + q) = ρ (290 + (11 * v + 1 + q)) := by
                rw [w1 _ _ (by omega) (by omega) (by omega) (by omega) (by omega) (by omega)]
                exact pq.1
              have kq := w4 q (by omega) (by omega)
              have cq' := cmX_b hA h11 (p := P) (q := (q : Int)) (by omega) (by omega) hf hi
              have cpp : 0 ≤ cmX ρ f i P P * ρ (290 + (11 * v + 1 + q)) ∧ cmX ρ f i P P * ρ (290 + (11 * v + 1 + q)) ≤ 200 * 3600 := mulb cb ⟨pq.2.1, pq.2.2.1⟩
              refine Ev_f (by omega) (Ev_t (by omega) (Ev_t (by omega) (Ev_R h17 (Ev_t hTr.1 (Ev_R t8.1 (Ev_t (by omega) (Ev_t (arI t8.2 (by omega) (by omega)) (Ev_t (by omega) ?_))))))))
              rw [e8, kq, w5]
              have ecv := ecmv q (by omega) (by omega)
              refine Ev_t (by omega) (Ev_st (Ev_t (by omega) ?_))
              rw [← ecv, show (q : Int) + 1 = ((q + 1 : Nat) : Int) by omega]
              refine ihq _ (by omega) (fun a q' x1 x2 x3 x4 x5 x6 => by rw [w2_n (by omega)]; exact w1 a q' x1 x2 x3 x4 x5 x6) (fun w a b => ?_) (fun q' a b => ?_) (fun q' a b => ?_) ?_
              · rw [w2_n (by omega), w2_n (by omega)]; exact w2' w a b
              · by_cases z : q' = q
                · subst z; rw [w2_ap, if_pos ⟨rfl, rfl⟩]
                · rw [w2_n (by omega)]; exact w3 q' a (by omega)
              · rw [w2_n (by omega)]; exact w4 q' (by omega) b
              · rw [w2_n (by omega)]; exact w5
            · have : q = 10 := by omega
              subst this
              refine Ev_t (by omega) (done4 K3 w1 (fun w a b => ?_) (fun q' a b => w3 q' (by omega) (by omega)) _)
              rw [(w2' w a b).1, (w2' w a b).2]
              exact z2 w a b
          rw [show (P : Int) + 1 = ((P + 1 : Nat) : Int) by omega]
          exact lp (P + 1) (by omega) K2 (Nat.le_refl _) z1 (fun w a b => ⟨rfl, rfl⟩) (fun q' a b => by omega) (fun q' a b => z3 q' (by omega) b) (z3 P (by omega) (by omega))
        have m74 : ∀ (K' : JI), (∀ q, K' 74 q = if q = v then tkM ρ f v i + tkD ρ f i v else K 74 q) → ∀ w : Int, 0 ≤ w → w < 16 → K' 74 w = tkM ρ f w i + (if usX ρ f i w ∧ wyP ρ w < ((P + 1 : Nat) : Int) then tkD ρ f i w else 0) := fun K' hK w a b => by
          rw [hK]
          by_cases q : w = v
          · subst q
            rw [if_pos rfl, if_pos ⟨eu, by rw [vp]; omega⟩]
          · rw [if_neg q, (k2 w a b).1]
            congr 1
            refine iteI ⟨?_, ?_⟩
            · rintro ⟨u, z⟩; exact ⟨u, by omega⟩
            · rintro ⟨u, z⟩
              refine ⟨u, ?_⟩
              by_cases q' : wyP ρ w = P
              · exact absurd (uq w u q') q
              · omega
        have m75 : ∀ (K' : JI) (x : Int), (∀ q, K' 75 q = if q = v then x else K 75 q) → (x = if tkS ρ f v i = -1 then skX ρ v (clA (ρ 0) (ρ 1) i) else tkS ρ f v i) → ∀ w : Int, 0 ≤ w → w < 16 → K' 75 w = (if (usX ρ f i w ∧ wyP ρ w < ((P + 1 : Nat) : Int)) ∧ tkS ρ f w i = -1 then skX ρ w (clA (ρ 0) (ρ 1) i) else tkS ρ f w i) := fun K' x hK hx w a b => by
          rw [hK]
          by_cases q : w = v
          · subst q
            rw [if_pos rfl, hx]
            refine iteI ⟨fun z => ⟨⟨eu, by rw [vp]; omega⟩, z⟩, fun z => z.2⟩
          · rw [if_neg q, (k2 w a b).2]
            refine iteI ⟨?_, ?_⟩
            · rintro ⟨⟨u, z⟩, z'⟩; exact ⟨⟨u, by omega⟩, z'⟩
            · rintro ⟨⟨u, z⟩, z'⟩
              refine ⟨⟨u, ?_⟩, z'⟩
              by_cases q' : wyP ρ w = P
              · exact absurd (uq w u q') q
              · omega
        have g75 : w2 K1 74 v (tkM ρ f v i + tkD ρ f i v) 75 v = tkS ρ f v i := by rw [w2_o (by omega), y75, k75]
        rw [g75]
        by_cases cs : tkS ρ f v i = -1
        · have f2 : FrTk J (w2 K1 74 v (tkM ρ f v i + tkD ρ f i v)) := fun a q x1 x2 x3 x4 x5 x6 => by rw [w2_o x4]; exact f1 a q x1 x2 x3 x4 x5 x6
          obtain ⟨kA2, kC2⟩ := FrTk_A htr f2 hA hC
          refine Ev_t cs (Ev_t (by omega) (Ev_bind (K77 (k := 2) (hd := 1) (mo := 3) (df := 0) (ρ := ρ) htr hTr h17 (by omega) kA2 kC2 ⟨v0, v1⟩ (by omega) (Or.inr ⟨rfl, rfl, rfl, rfl⟩)) ?_))
          rintro ⟨x1, K2, M2⟩ ⟨ez, u1, u2⟩
          dsimp only at ez
          subst ez
          dsimp only at u1 u2 ⊢
          have ex : x1 = skX ρ v (clA (ρ 0) (ρ 1) i) := by rw [u2, ec]; rfl
          clear u2
          subst ex
          refine Ev_t (by omega) (Ev_st (inner _ (fun a q x1 x2 x3 x4 x5 x6 => by rw [w2_o x5, u1 a q x1 x2 x3]; exact f2 a q x1 x2 x3 x4 x5 x6) (fun w a b => ⟨m74 _ (fun q => ?_) w a b, m75 _ (skX ρ v (clA (ρ 0) (ρ 1) i)) (fun q => ?_) (by rw [if_pos cs]) w a b⟩) (fun q a b => ?_)))
          · rw [w2_o (by omega), u1 74 q (by omega) (by omega) (by omega), w2_ap, y74]
            simp only [true_and]
          · rw [w2_ap, u1 75 q (by omega) (by omega) (by omega), w2_o (by omega), y75]
            simp only [true_and]
          · rw [w2_o (by omega), u1 77 q (by omega) (by omega) (by omega), w2_o (by omega), y77]
            exact k3 q a b
        · refine Ev_f cs (inner _ (fun a q x1 x2 x3 x4 x5 x6 => by rw [w2_o x4]; exact f1 a q x1 x2 x3 x4 x5 x6) (fun w a b => ⟨m74 _ (fun q => ?_) w a b, m75 _ (tkS ρ f v i) (fun q => ?_) (by rw [if_neg cs]) w a b⟩) (fun q a b => ?_))
          · rw [w2_ap, y74]
            simp only [true_and]
          · rw [w2_o (by omega), y75]
            by_cases q' : q = v
            · subst q'; rw [if_pos rfl]; exact k75
            · rw [if_neg q']
          · rw [w2_o (by omega), y77]
            exact k3 q a b
    · have : P = 10 := by omega
      subst this
      refine Ev_t (by omega) (Ev_ret ⟨rfl, k1, fun w a b => ?_⟩)
      have us : (usX ρ f i w ∧ wyP ρ w < ((10 : Nat) : Int)) ↔ usX ρ f i w := ⟨fun z => z.1, fun z => ⟨z, by
        have := (hTT.1.1 w a z.1).1
        dsimp only at this
        show ρ (290 + 11 * w) < 10
        omega⟩⟩
      obtain ⟨a1, a2⟩ := k2 w a b
      rw [iteI us] at a1
      rw [iteI (and_congr us Iff.rfl)] at a2
      exact ⟨a1, a2⟩
  refine ev_146_0 ?_
  refine Ev_t (by omega) (Ev_R t2' (Ev_t t1.1 (Ev_R t1.2.1.1 (Ev_t (by omega) (Ev_bind (K36 h77 (by omega)) ?_)))))
  rintro _ rfl
  dsimp only
  refine Ev_st (outer 0 (by omega) _ (fun a q x1 x2 x3 x4 x5 x6 => by rw [w2_o x6, fl_n (by omega)]) (fun w a b => ?_) (fun q a b => ?_))
  · rw [w2_o (by omega), w2_o (by omega), fl_n (by omega), fl_n (by omega)]
    have ng : ¬ (usX ρ f i w ∧ wyP ρ w < ((0 : Nat) : Int)) := by
      rintro ⟨u, z⟩
      have := (hTT.1.1 w a u.1).1
      dsimp only at this
      have z : ρ (290 + 11 * w) < 0 := z
      omega
    rw [if_neg ng, if_neg (fun z => ng z.1), Int.add_zero]
    exact hT w a b
  · show _ = cn0 q
    unfold cn0
    by_cases z : q = 0
    · subst z; rw [w2_ap, if_pos ⟨rfl, rfl⟩, if_pos rfl]
    · rw [w2_n (by omega), if_neg z, fl_p ⟨rfl, by omega, by omega⟩]
end K146
