section
set_option maxRecDepth 100000 in
theorem ev_254_0 {dp : Nat} {e : EN} {I : JI} {L : JI} {i1 : Int} {i2 : Int} {P_ : (JI × JI) → Prop} (h : Ev (fun n => (if 0 ≤ i1 ∧ i1 < 3 then (stI (w2 I 120 i1 0) (fun I_6 => (kf_254 n dp e 1 I_6 L i1 0))) else none)) P_) : Ev (fun n => kf_254 n dp e 0 I L i1 i2) P_ := Ev_step (fun n => ke_254_0 n dp e I L i1 i2) h
set_option maxRecDepth 100000 in
theorem ev_254_1 {dp : Nat} {e : EN} {I : JI} {L : JI} {i1 : Int} {i2 : Int} {P_ : (JI × JI) → Prop} (h : Ev (fun n => (if 10 ≤ i2 then (stI (w2 I 123 0 (-2)) (fun I_45 => (kf_254 n dp e 2 I_45 L i1 0))) else (if i2 = 0 then (if 0 ≤ i2 ∧ i2 < 110 then (stI (w2 I 124 i2 1) (fun I_29 => (if -2147483648 ≤ i2 + 1 ∧ i2 + 1 ≤ 2147483647 then (kf_254 n dp e 1 I_29 L i1 (i2 + 1)) else none))) else none) else (if 0 ≤ i2 ∧ i2 < 110 then (stI (w2 I 124 i2 0) (fun I_29 => (if -2147483648 ≤ i2 + 1 ∧ i2 + 1 ≤ 2147483647 then (kf_254 n dp e 1 I_29 L i1 (i2 + 1)) else none))) else none)))) P_) : Ev (fun n => kf_254 n dp e 1 I L i1 i2) P_ := Ev_step (fun n => ke_254_1 n dp e I L i1 i2) h
set_option maxRecDepth 100000 in
theorem ev_253_0 {dp : Nat} {e : EN} {I : JI} {L : JI} {i1 : Int} {i2 : Int} {P_ : (JI × JI) → Prop} (h : Ev (fun n => (if (I 105 32) = 0 then (stI (w2 I 105 32 1) (fun I_10 => (kf_253 n dp e 1 I_10 L 0 0))) else (some (I, L)))) P_) : Ev (fun n => kf_253 n dp e 0 I L i1 i2) P_ := Ev_step (fun n => ke_253_0 n dp e I L i1 i2) h
set_option maxRecDepth 100000 in
theorem ev_253_1 {dp : Nat} {e : EN} {I : JI} {L : JI} {i1 : Int} {i2 : Int} {P_ : (JI × JI) → Prop} (h : Ev (fun n => (if 3 ≤ i1 then (some (I, L)) else (kf_253 n dp e 2 I L i1 0))) P_) : Ev (fun n => kf_253 n dp e 1 I L i1 i2) P_ := Ev_step (fun n => ke_253_1 n dp e I L i1 i2) h
set_option maxRecDepth 100000 in
theorem ev_253_2 {dp : Nat} {e : EN} {I : JI} {L : JI} {i1 : Int} {i2 : Int} {P_ : (JI × JI) → Prop} (h : Ev (fun n => (if (I 107 9) ≤ i2 then (if 1 ≤ dp then ((kf_254 n (dp - 1) e 0 I L i1 0).bind (fun ⟨I0_58, L0_58⟩ => (if -2147483648 ≤ i1 + 1 ∧ i1 + 1 ≤ 2147483647 then (kf_253 n dp e 1 I0_58 L0_58 (i1 + 1) 0) else none))) else none) else (if 1 ≤ dp then ((kf_245 n (dp - 1) e 0 I L i2 i1).bind (fun ⟨x0_46, I0_46, L0_46⟩ => (if (-2147483648 ≤ 16 * i1 ∧ 16 * i1 ≤ 2147483647) ∧ (-2147483648 ≤ (16 * i1) + i2 ∧ (16 * i1) + i2 ≤ 2147483647) then (if 0 ≤ ((16 * i1) + i2) ∧ ((16 * i1) + i2) < 48 then (if (x0_46 = 0) ∨ (x0_46 = 1) then (stI (w2 I0_46 125 ((16 * i1) + i2) x0_46) (fun I_49 => (if -2147483648 ≤ i2 + 1 ∧ i2 + 1 ≤ 2147483647 then (kf_253 n dp e 2 I_49 L0_46 i1 (i2 + 1)) else none))) else none) else none) else none))) else none))) P_) : Ev (fun n => kf_253 n dp e 2 I L i1 i2) P_ := Ev_step (fun n => ke_253_2 n dp e I L i1 i2) h
end
/-! CUTTINGS: the reference finds them -/
def cn0 : Int → Int := fun q => if q = 0 then 1 else 0
theorem cn0_s : sm cn0 10 = 1 := by decide
theorem cn0_b : ∀ q, 0 ≤ q → q < 10 → 0 ≤ cn0 q := fun q _ _ => by unfold cn0; split <;> omega
/-- the cuttings of a class, as a row says them -/
noncomputable def cuS (ρ : Int → Int) (c : Int) : List CT := En (fun i => ρ (290 + i)) (fun w => clp 1 (tls ρ 2 w c 0 (ρ 8).toNat)) (ρ 9).toNat 10 cn0 (fun _ => 0)
section FD
variable {e : EN} {L : JI} {W op : Int → Int} {nw : Nat} {c : Int}
theorem K254 {dp : Nat} {K : JI} {x : Int} (hd : 3 ≤ dp) (hc : 0 ≤ c ∧ c < 3) (hR : RfO c K W op nw) : Ev (fun n => kf_254 n dp e 0 K L c x) (fun r => r.2 = L ∧ FrV c K r.1 ∧ LsM c r.1 (En W op nw 10 cn0 (fun _ => 0))) := by
  refine ev_254_0 ?_
  refine Ev_t hc (Ev_st ?_)
  have key : ∀ k : Nat, k ≤ 10 → ∀ K1 : JI, (∀ a i, ¬ (a = 120 ∧ i = c) → ¬ (a = 124 ∧ 0 ≤ i ∧ i < 10) → K1 a i = K a i) → K1 120 c = 0 → (∀ q : Int, 0 ≤ q → q < k → K1 124 q = cn0 q) → Ev (fun n => kf_254 n dp e 1 K1 L c k) (FinM L c K (En W op nw 10 cn0 (fun _ => 0))) := by
    refine dec_ind 10 (fun k hk ih => ?_)
    intro K1 f1 f0 f2
    refine ev_254_1 ?_
    by_cases ck : k < 10
    · have ih := ih ck
      have st : ∀ v : Int, v = cn0 k → Ev (fun n => kf_254 n dp e 1 (w2 K1 124 k v) L c (k + 1)) (FinM L c K (En W op nw 10 cn0 (fun _ => 0))) := by
        intro v hv
        refine ih _ (fun a i g1 g2 => ?_) ?_ (fun q a b => ?_)
        · rw [w2_n (by omega)]; exact f1 a i g1 g2
        · rw [w2_n (by omega)]; exact f0
        · by_cases z : q = k
          · subst z; rw [w2_ap, if_pos ⟨rfl, rfl⟩]; exact hv
          · rw [w2_n (by omega)]; exact f2 q a (by omega)
      refine Ev_f (by omega) (Ev_c (fun z => Ev_t (by omega) (Ev_st (Ev_t (by omega) (st 1 ?_)))) (fun z => Ev_t (by omega) (Ev_st (Ev_t (by omega) (st 0 ?_)))))
      · unfold cn0; rw [if_pos z]
      · unfold cn0; rw [if_neg z]
    · have : k = 10 := by omega
      subst this
      have nn : ∀ a i, ¬ (a = 123 ∧ i = 0) → w2 K1 123 0 (-2) a i = K1 a i := fun a i h => w2_n h
      refine Ev_t (by decide) (Ev_st ?_)
      have F : FrV c K (w2 K1 123 0 (-2)) := ⟨fun a i c1 c2 c3 c4 c5 => by rw [nn a i (by omega)]; exact f1 a i c1 (by omega), fun i hi => by rw [nn _ _ (by omega), nn _ _ (by omega)]; exact ⟨f1 _ _ (by omega) (by omega), f1 _ _ (by omega) (by omega)⟩⟩
      have r := Md (e := e) (L := L) (W := W) (op := op) (nw := nw) (K0 := K) (full := En W op nw 10 cn0 (fun _ => 0)) hd hc 10 (w2 K1 123 0 (-2)) cn0 (fun _ => 0) [] [] (by omega) (RfO_c (fun i => F.1 _ _ (by omega) (by omega) (by omega) (by omega) (by omega)) (fun i => F.1 _ _ (by omega) (by omega) (by omega) (by omega) (by omega)) hR) F (fun q a b => by
        rw [nn _ _ (by omega), show 10 * (10 - ((10 : Nat) : Int)) + q = q by omega]; exact f2 q a (by omega)) (fun q a b => by omega) (fun _ => by
        show w2 K1 123 0 (-2) 123 0 = -2
        rw [w2_ap, if_pos ⟨rfl, rfl⟩]) cn0_b (by rw [cn0_s]; decide) ⟨by rw [nn _ _ (by omega), f0]; rfl, fun i hi x hx => by simp at hx⟩ (by simp) (fun K' x1 x2 x3 x4 x5 => by
        show Ev (fun n => kf_254 n dp e 2 K' L c (-1)) _
        refine ev_254_2 ?_
        exact Ev_t (by decide) (Ev_ret ⟨rfl, x2, x5⟩))
      exact r
  exact key 0 (by omega) _ (fun a i g1 g2 => w2_n g1) (by rw [w2_ap, if_pos ⟨rfl, rfl⟩]) (fun q a b => by omega)
/-- what is the same behind findCuttings -/
def FrD (K K' L L' : JI) : Prop := (∀ a i, ¬ (a = 105 ∧ (i = 29 ∨ i = 32)) → ¬ (120 ≤ a ∧ a ≤ 125) → K' a i = K a i) ∧ ∀ a i, ¬ a = 118 → ¬ a = 119 → ¬ (a = 105 ∧ (i = 30 ∨ i = 31)) → L' a i = L a i
theorem K253 {dp tr : Nat} {K : JI} {x1 x2 : Int} (hd : 6 ≤ dp) (htr : tr = 9 ∨ tr = 93) (hA : AskO K tr (K 107)) (h0 : K 105 32 = 0) : Ev (fun n => kf_253 n dp e 0 K L x1 x2) (fun r => FrD K r.1 L r.2 ∧ r.1 105 32 = 1 ∧ ∀ c, 0 ≤ c → c < 3 → LsM c r.1 (cuS (K 107) c)) := by
  obtain ⟨hTT, h8, h9, h4, h6⟩ := hA
  obtain ⟨NW, hN⟩ : ∃ NW : Nat, (NW : Int) = K 107 9 := ⟨(K 107 9).toNat, by omega⟩
  have hN2 : (K 107 9).toNat = NW := by omega
  refine ev_253_0 ?_
  refine Ev_t h0 (Ev_st ?_)
  have key : ∀ cc : Nat, cc ≤ 3 → ∀ K1 L1 : JI, FrD K K1 L L1 → K1 105 32 = 1 → (∀ c : Int, 0 ≤ c → c < cc → LsM c K1 (cuS (K 107) c)) → Ev (fun n => kf_253 n dp e 1 K1 L1 cc 0) (fun r => FrD K r.1 L r.2 ∧ r.1 105 32 = 1 ∧ ∀ c, 0 ≤ c → c < 3 → LsM c r.1 (cuS (K 107) c)) := by
    refine dec_ind 3 (fun cc hcc ih => ?_)
    intro K1 L1 f1 f2 f3
    refine ev_253_1 ?_
    by_cases ck : cc < 3
    · have ih := ih ck
      refine Ev_f (by omega) ?_
      have ways : ∀ w : Nat, w ≤ NW → ∀ K2 L2 : JI, FrD K K2 L L2 → K2 105 32 = 1 → (∀ c : Int, 0 ≤ c → c < cc → LsM c K2 (cuS (K 107) c)) → (∀ v : Int, 0 ≤ v → v < w → K2 125 (16 * cc + v) = clp 1 (tls (K 107) 2 v cc 0 (K 107 8).toNat)) → Ev (fun n => kf_253 n dp e 2 K2 L2 cc w) (fun r => FrD K r.1 L r.2 ∧ r.1 105 32 = 1 ∧ ∀ c, 0 ≤ c → c < 3 → LsM c r.1 (cuS (K 107) c)) := by
        refine dec_ind NW (fun w hw iw => ?_)
        intro K2 L2 g1 g2 g3 g4
        have e7 : K2 107 = K 107 := funext fun i => g1.1 107 i (by omega) (by omega)
        have kA : AskO K2 tr (K2 107) := by
          rw [e7]
          exact ⟨TrT_j (fun a i x1 x2 => g1.1 a i (by omega) (by omega)) hTT, h8, h9, h4, h6⟩
        refine ev_253_2 ?_
        simp only [e7]
        by_cases cw : w < NW
        · have iw := iw cw
          refine Ev_f (by omega) (Ev_t (by omega) ?_)
          have m : Ev (fun n => kf_245 n (dp - 1) e 0 K2 L2 w cc) (fun r => (∀ a i, ¬ (a = 105 ∧ i = 29) → r.2.1 a i = K2 a i) ∧ (∀ a i, ¬ a = 118 → ¬ a = 119 → ¬ (a = 105 ∧ (i = 30 ∨ i = 31)) → r.2.2 a i = L2 a i) ∧ (r.1 = 0 ∨ r.1 = 1) ∧ r.1 = clp 1 (tls (K 107) 2 w cc 0 (K 107 8).toNat)) := by
            refine ev_245_0 ?_
            refine Ev_t (by omega) (Ev_bind (K246 (hd := 2) (df := 0) (mo := 1) kA (by rw [e7]; omega) (by omega) (by omega) (by omega) (by omega)) ?_)
            rintro ⟨u, K3, L3⟩ ⟨y1, y2, y3⟩
            dsimp only at y1 y2 y3 ⊢
            rw [e7] at y3
            have ub : u = 0 ∨ u = 1 := by rw [y3]; unfold clp; omega
            refine Ev_c (fun z => Ev_ret ⟨y1, y2, Or.inr rfl, ?_⟩) (fun z => Ev_ret ⟨y1, y2, Or.inl rfl, ?_⟩)
            · rw [← y3]; exact z.symm
            · rw [← y3]; show (0 : Int) = u; omega
          refine Ev_bind m ?_
          rintro ⟨u, K3, L3⟩ ⟨y1, y2, y3, y4⟩
          dsimp only at y1 y2 y3 y4 ⊢
          refine Ev_t (by omega) (Ev_t (by omega) (Ev_t y3 (Ev_st (Ev_t (by omega) ?_))))
          have nn : ∀ (a : Nat) (i : Int), ¬ (a = 125 ∧ i = 16 * cc + w) → w2 K3 125 (16 * cc + w) u a i = K3 a i := fun a i h => w2_n h
          refine iw _ _ ⟨fun a i c1 c2 => ?_, fun a i c1 c2 c3 => (y2 a i c1 c2 c3).trans (g1.2 a i c1 c2 c3)⟩ ?_ (fun c a b => ?_) (fun v a b => ?_)
          · rw [nn a i (by omega), y1 a i (by omega)]; exact g1.1 a i c1 c2
          · rw [nn _ _ (by omega), y1 _ _ (by omega)]; exact g2
          · have l := g3 c a b
            unfold LsM at *
            rw [nn _ _ (by omega), y1 _ _ (by omega)]
            exact LsO_c (fun i _ _ => ⟨by rw [nn _ _ (by omega), y1 _ _ (by omega)], by rw [nn _ _ (by omega), y1 _ _ (by omega)]⟩) l
          · by_cases z : v = w
            · subst z
              rw [w2_ap, if_pos ⟨rfl, rfl⟩]; exact y4
            · rw [nn _ _ (by omega), y1 _ _ (by omega)]
              exact g4 v a (by omega)
        · have ew : w = NW := by omega
          subst ew
          have hR : RfO cc K2 (fun i => K 107 (290 + i)) (fun v => clp 1 (tls (K 107) 2 v cc 0 (K 107 8).toNat)) w := by
            refine ⟨by rw [e7]; exact hN.symm, by omega, fun v a b => ?_⟩
            obtain ⟨a1, a2, a3, _⟩ := hTT.1.1 v a (by omega)
            have q := g4 v a b
            refine ⟨by rw [q]; unfold clp; omega, q, by rw [e7], a1, fun p c d => ⟨?_, (a3 p c d).2.1, (a3 p c d).2.2.1⟩⟩
            rw [e7]
            show _ = K 107 (290 + (11 * v + 1 + p))
            congr 1
            omega
          refine Ev_t (by omega) (Ev_t (by omega) (Ev_bind (K254 (dp := dp - 1) (by omega) (by omega) hR) ?_))
          rintro ⟨K3, L3⟩ ⟨y1, y2, y3⟩
          dsimp only at y1 y2 y3 ⊢
          subst y1
          refine Ev_t (by omega) (ih K3 L3 ⟨fun a i c1 c2 => (y2.1 a i (by omega) (by omega) (by omega) (by omega) (by omega)).trans (g1.1 a i c1 c2), g1.2⟩ ((y2.1 _ _ (by omega) (by omega) (by omega) (by omega) (by omega)).trans g2) (fun c a b => ?_))
          by_cases z : c = cc
          · subst z
            unfold cuS
            rw [hN2]
            exact y3
          · have l := g3 c a (by omega)
            unfold LsM at *
            rw [y2.1 _ _ (by omega) (by omega) (by omega) (by omega) (by omega)]
            exact LsO_c (fun i c1 c2 => ⟨(y2.2 _ (by omega)).1, (y2.2 _ (by omega)).2⟩) l
      exact ways 0 (by omega) K1 L1 f1 f2 f3 (fun v a b => by omega)
    · have : cc = 3 := by omega
      subst this
      exact Ev_t (by decide) (Ev_ret ⟨f1, f2, f3⟩)
  exact key 0 (by omega) _ _ ⟨fun a i c1 c2 => w2_n (by omega), fun _ _ _ _ _ => rfl⟩ (by rw [w2_ap, if_pos ⟨rfl, rfl⟩]) (fun c a b => by omega)
end FD
