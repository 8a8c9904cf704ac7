section
set_option maxRecDepth 100000 in
theorem ev_96_0 {dp : Nat} {e : EN} {I : JI} {L : JI} {i3 : Int} {P_ : (JI × JI) → Prop} (h : Ev (fun n => (if 1 ≤ dp then ((kf_97 n (dp - 1) e 0 I L 0 0 0).bind (fun ⟨I0_2, L0_2⟩ => (if 1 ≤ dp then ((kf_98 n (dp - 1) e 0 I0_2 L0_2 0 1 0 0 0 0 0 0 0 38 41).bind (fun ⟨I1_16, L1_16⟩ => (if 1 ≤ dp then ((kf_98 n (dp - 1) e 0 I1_16 L1_16 2 3 0 0 0 0 0 0 0 39 42).bind (fun ⟨I2_30, L2_30⟩ => (if 1 ≤ dp then ((kf_98 n (dp - 1) e 0 I2_30 L2_30 4 (-1) 0 0 0 0 0 0 0 40 43).bind (fun ⟨I3_44, L3_44⟩ => (kf_96 n dp e 1 I3_44 L3_44 0))) else none))) else none))) else none))) else none)) P_) : Ev (fun n => kf_96 n dp e 0 I L i3) P_ := Ev_step (fun n => ke_96_0 n dp e I L i3) h
set_option maxRecDepth 100000 in
theorem ev_96_1 {dp : Nat} {e : EN} {I : JI} {L : JI} {i3 : Int} {P_ : (JI × JI) → Prop} (h : Ev (fun n => (if 3 ≤ i3 then (some (I, L)) else (if 0 ≤ i3 ∧ i3 < 3 then (stI (w2 I 32 i3 0) (fun I_60 => (if 0 ≤ i3 ∧ i3 < 3 then (stI (w2 I_60 33 i3 0) (fun I_67 => (if 0 ≤ i3 ∧ i3 < 3 then ((e.2.2 25 (Int.toNat i3)).bind (fun b_70 => (if (b_70 < e.1) ∧ ((e.2.1 b_70).1 = 2) then (if 64 < (I_67 b_70 4) then (kf_96 n dp e 2 I_67 L i3) else (if 0 ≤ i3 ∧ i3 < 3 then ((e.2.2 25 (Int.toNat i3)).bind (fun b_84 => (if 1 ≤ dp then ((kf_99 n (dp - 1) e 0 I_67 L i3 0 0 0 0 0 0 b_84).bind (fun ⟨I0_85, L0_85⟩ => (kf_96 n dp e 2 I0_85 L0_85 i3))) else none))) else none)) else none))) else none))) else none))) else none))) P_) : Ev (fun n => kf_96 n dp e 1 I L i3) P_ := Ev_step (fun n => ke_96_1 n dp e I L i3) h
set_option maxRecDepth 100000 in
theorem ev_96_2 {dp : Nat} {e : EN} {I : JI} {L : JI} {i3 : Int} {P_ : (JI × JI) → Prop} (h : Ev (fun n => (if -2147483648 ≤ i3 + 1 ∧ i3 + 1 ≤ 2147483647 then (kf_96 n dp e 1 I L (i3 + 1)) else none)) P_) : Ev (fun n => kf_96 n dp e 2 I L i3) P_ := Ev_step (fun n => ke_96_2 n dp e I L i3) h
end
/-! THE CLASS'S PLANS: offers loaded -/
def wnC (J : JI) (p : Int) : Int := J 4 (20 + p)
def bnC (J : JI) (p : Int) : Int := J 4 p - J 4 (10 + p)
def stF (rn : Nat) (od : Nat → Int) (wn : Int → Int) (k : Nat) : Int := if k < rn then prL (fun k => wn (od k) + 1) k else 0
def boF (rn : Nat) (od : Nat → Int) (bn : Int → Int) (k : Nat) : Int := if k < rn then 16 * bn (od k) else 0
def ShP (e : EN) : Prop := arO e 35 5 ∧ (arO e 38 1024 ∧ arO e 39 1024 ∧ arO e 40 32) ∧ arO e 41 1024 ∧ arO e 42 1024 ∧ arO e 43 32
def mkO (J : JI) : Prop := (∀ p : Int, 0 ≤ p → p < 10 → (0 ≤ wnC J p ∧ wnC J p ≤ 8) ∧ (0 ≤ J 4 p ∧ J 4 p ≤ 999) ∧ 0 ≤ J 4 (10 + p) ∧ J 4 (10 + p) ≤ 999) ∧ sm (fun p => if 0 < wnC J p then 1 else 0) 10 ≤ 5
/-- the class's cuttings of kind c are a list that can be -/
def ctK (J : JI) (c : Nat) : Prop := (1 ≤ J (58 + 5 * c) 4 ∧ J (58 + 5 * c) 4 ≤ 65) ∧ (J (58 + 5 * c) 4 ≤ 64 → ∀ k : Nat, (k : Int) < J (58 + 5 * c) 4 → ∀ p : Int, 0 ≤ p → p < 10 → 0 ≤ J (58 + 5 * c + 2) (10 * k + p) ∧ J (58 + 5 * c + 2) (10 * k + p) ≤ 200)
/-- offers loaded, of kind c -/
def LdG (J : JI) (rn : Nat) (od : Nat → Int) (wn bn : Int → Int) (c : Nat) : Prop := J (58 + 5 * c) 4 ≤ 64 → GrO J c (J (58 + 5 * c) 4).toNat (fun k => pkI (fiK J rn od wn c k)) (fun k => 16 * ovK J (58 + 5 * c) k) ∧ TpO J c (J (58 + 5 * c) 4).toNat (fun k => 16 * ovK J (58 + 5 * c) k) (fun k => mbF rn od bn (fiK J rn od wn c k))
/-- offers loaded -/
def LdO (J : JI) (rn : Nat) (od : Nat → Int) : Prop := RtO J rn od (wnC J) (bnC J) ∧ J 26 18 = pkI (fun k => 15 - cpF rn od (wnC J) k) ∧ (∀ f : Int → Int, sN (fun k => f (od k)) rn = sm (fun p => if 0 < wnC J p ∧ ¬ bnC J p = 0 then f p else 0) 10) ∧ TbO J (cpF rn od (wnC J)) (stF rn od (wnC J)) (boF rn od (bnC J)) ∧ ∀ c : Nat, c < 3 → LdG J rn od (wnC J) (bnC J) c
theorem bdF_o {J : JI} {rn : Nat} {od : Nat → Int} (hm : mkO J) (hR : RtO J rn od (wnC J) (bnC J)) : bdF (cpF rn od (wnC J)) (stF rn od (wnC J)) (boF rn od (bnC J)) ∧ ∀ k, k < rn → -999 ≤ bnC J (od k) ∧ bnC J (od k) ≤ 999 := by
  have hb : ∀ k, k < rn → -999 ≤ bnC J (od k) ∧ bnC J (od k) ≤ 999 := fun k hk => by
    have q := hR.2.2.1 k hk
    have m := hm.1 (od k) q.2.1.1 q.2.1.2
    unfold bnC
    omega
  refine ⟨fun k hk => ⟨(RtO_35 hR hk).2, ?_, ?_⟩, hb⟩
  · unfold stF
    by_cases c : k < rn
    · rw [if_pos c]
      have pb := prL_b (B := fun k => wnC J (od k) + 1) k (fun i hi => by have q := hR.2.2.1 i (by omega); omega)
      have p9 := pw9 (show k ≤ 5 by omega)
      omega
    · rw [if_neg c]; decide
  · unfold boF
    by_cases c : k < rn
    · rw [if_pos c]; have := hb k c; omega
    · rw [if_neg c]; decide
section LD
variable {e : EN} {L : JI}
theorem K96 {dp : Nat} {J : JI} {x : Int} (hd : 4 ≤ dp) (hP : ShP e) (hS : ∀ c : Nat, c < 3 → CtO e (58 + 5 * c) ∧ e.2.2 25 c = some (58 + 5 * c)) (hm : mkO J) (hC : ∀ c : Nat, c < 3 → ctK J c) : Ev (fun n => kf_96 n dp e 0 J L x) (fun r => r.2 = L ∧ (∀ a i, ¬ (a = 26 ∧ 17 ≤ i ∧ i ≤ 19) → ¬ (27 ≤ a ∧ a ≤ 43) → r.1 a i = J a i) ∧ ∃ (rn : Nat) (od : Nat → Int), LdO r.1 rn od) := by
  refine ev_96_0 ?_
  refine Ev_t (by omega) (Ev_bind (K97 (wn := wnC J) (bn := bnC J) (by omega) hP.1 (fun p a b => ⟨rfl, (hm.1 p a b).1, rfl, (hm.1 p a b).2⟩) hm.2) ?_)
  rintro ⟨J1, L1⟩ ⟨r1, r2, rn, od, r3, r4, r5⟩
  dsimp only at r1 r2 r3 r4 r5 ⊢
  subst r1
  obtain ⟨bd, hb⟩ : bdF (cpF rn od (wnC J)) (stF rn od (wnC J)) (boF rn od (bnC J)) ∧ ∀ k, k < rn → -999 ≤ bnC J (od k) ∧ bnC J (od k) ≤ 999 := by
    have e4 : ∀ i, J1 4 i = J 4 i := fun i => r2 _ _ (by omega) (by omega)
    have ew : wnC J1 = wnC J := funext fun p => e4 _
    have eb : bnC J1 = bnC J := funext fun p => by unfold bnC; rw [e4, e4]
    have := bdF_o (J := J1) (rn := rn) (od := od) (by unfold mkO; rw [ew]; simp only [e4]; exact hm) (by rw [ew, eb]; exact r3)
    rw [ew, eb] at this
    exact this
  have sp : ∀ (K : JI), (∀ a i, 35 ≤ a → a ≤ 37 → K a i = J1 a i) → ∀ k : Nat, k < 5 → (K 35 k = cpF rn od (wnC J) k ∧ (0 ≤ cpF rn od (wnC J) k ∧ cpF rn od (wnC J) k ≤ 8) ∧ (0 < cpF rn od (wnC J) k → K 36 k = stF rn od (wnC J) k ∧ K 37 k = boF rn od (bnC J) k ∧ (0 ≤ stF rn od (wnC J) k ∧ stF rn od (wnC J) k ≤ 59049) ∧ -20000 ≤ boF rn od (bnC J) k ∧ boF rn od (bnC J) k ≤ 20000)) := by
    intro K hK k hk
    rw [hK 35 _ (by omega) (by omega), hK 36 _ (by omega) (by omega), hK 37 _ (by omega) (by omega)]
    obtain ⟨b1, b2, b3⟩ := bd k hk
    refine ⟨(RtO_35 r3 hk).1, b1, fun z => ?_⟩
    have kr : k < rn := by
      by_cases c : k < rn
      · exact c
      · unfold cpF at z; rw [if_neg c] at z; omega
    have q := r3.2.2.1 k kr
    refine ⟨?_, ?_, b2, b3⟩
    · unfold stF; rw [if_pos kr]; exact q.2.2.2.2.1
    · unfold boF; rw [if_pos kr]; exact q.2.2.2.2.2
  obtain ⟨a1, a2, a3⟩ := sp J1 (fun _ _ _ _ => rfl) 0 (by omega)
  obtain ⟨b1, b2, b3⟩ := sp J1 (fun _ _ _ _ => rfl) 1 (by omega)
  refine Ev_t (by omega) (Ev_bind (K98 (f := 0) (s := 1) (a3 := 38) (a4 := 41) (full := 15) (N := 1024) (by omega) (by omega) (by omega) (by omega) hP.2.1.1 hP.2.2.1 (Or.inr ⟨by omega, b1, rfl, rfl⟩) a1 a2 b2 a3 b3) ?_)
  rintro ⟨J2, L2⟩ ⟨s1, s2, s3⟩
  dsimp only at s1 s2 s3 ⊢
  subst s1
  obtain ⟨a1, a2, a3⟩ := sp J2 (fun a i x y => s2 _ _ (by omega) (by omega)) 2 (by omega)
  obtain ⟨b1, b2, b3⟩ := sp J2 (fun a i x y => s2 _ _ (by omega) (by omega)) 3 (by omega)
  refine Ev_t (by omega) (Ev_bind (K98 (f := 2) (s := 3) (a3 := 39) (a4 := 42) (full := 15) (N := 1024) (by omega) (by omega) (by omega) (by omega) hP.2.1.2.1 hP.2.2.2.1 (Or.inr ⟨by omega, b1, rfl, rfl⟩) a1 a2 b2 a3 b3) ?_)
  rintro ⟨J3, L3⟩ ⟨t1, t2, t3⟩
  dsimp only at t1 t2 t3 ⊢
  subst t1
  obtain ⟨a1, a2, a3⟩ := sp J3 (fun a i x y => (t2 _ _ (by omega) (by omega)).trans (s2 _ _ (by omega) (by omega))) 4 (by omega)
  refine Ev_t (by omega) (Ev_bind (K98 (f := 4) (s := -1) (a3 := 40) (a4 := 43) (full := 0) (c2 := 0) (N := 32) (S2 := 0) (B2 := 0) (by omega) (by omega) (by omega) (by omega) hP.2.1.2.2 hP.2.2.2.2 (Or.inl ⟨rfl, rfl, rfl, rfl⟩) a1 a2 (by omega) a3 (fun z => by omega)) ?_)
  rintro ⟨J4, L4⟩ ⟨u1, u2, u3⟩
  dsimp only at u1 u2 u3 ⊢
  subst u1
  have f41 : ∀ a i, ¬ (38 ≤ a ∧ a ≤ 43) → J4 a i = J1 a i := fun a i z => (u2 a i (by omega) (by omega)).trans ((t2 a i (by omega) (by omega)).trans (s2 a i (by omega) (by omega)))
  have TB : TbO J4 (cpF rn od (wnC J)) (stF rn od (wnC J)) (boF rn od (bnC J)) := by
    refine ⟨fun a b x y z w => ?_, fun a b x y z w => ?_, fun a x y => ?_⟩
    · rw [u2 _ _ (by omega) (by omega), u2 _ _ (by omega) (by omega), t2 _ _ (by omega) (by omega), t2 _ _ (by omega) (by omega)]
      exact s3 a b x y z w
    · rw [u2 _ _ (by omega) (by omega), u2 _ _ (by omega) (by omega)]
      exact t3 a b x y z w
    · have := u3 a 0 x y (by omega) (by omega)
      rw [show (32 : Int) * (0 - 0 + 0) + (15 - cpF rn od (wnC J) 4 + a) = 15 - cpF rn od (wnC J) 4 + a by omega] at this
      omega
  have R4 : RtO J4 rn od (wnC J) (bnC J) := RtO_c (fun i _ => f41 _ _ (by omega)) (fun a i _ _ => f41 _ _ (by omega)) r3
  have fJ : ∀ a i, ¬ (a = 26 ∧ 17 ≤ i ∧ i ≤ 19) → ¬ (34 ≤ a ∧ a ≤ 43) → J4 a i = J a i := fun a i x y => (f41 a i (by omega)).trans (r2 a i x (by omega))
  have key : ∀ c : Nat, c ≤ 3 → ∀ K : JI, (∀ a i, ¬ (27 ≤ a ∧ a ≤ 33) → K a i = J4 a i) → (∀ c' : Nat, c' < c → LdG K rn od (wnC J) (bnC J) c') → Ev (fun n => kf_96 n dp e 1 K L4 c) (fun r => r.2 = L4 ∧ (∀ a i, ¬ (a = 26 ∧ 17 ≤ i ∧ i ≤ 19) → ¬ (27 ≤ a ∧ a ≤ 43) → r.1 a i = J a i) ∧ ∃ (rn : Nat) (od : Nat → Int), LdO r.1 rn od) := by
    refine dec_ind 3 (fun c hc ih => ?_)
    intro K k1 k2
    refine ev_96_1 ?_
    by_cases cc : c < 3
    · have ih := ih cc
      obtain ⟨hO, hf⟩ := hS c cc
      refine Ev_f (by omega) (Ev_t (by omega) (Ev_st (Ev_t (by omega) (Ev_st (Ev_t (by omega) ?_)))))
      rw [Int.toNat_natCast]
      have w : ∀ (a : Nat) (i : Int), ¬ ((a = 32 ∨ a = 33) ∧ i = c) → w2 (w2 K 32 c 0) 33 c 0 a i = K a i := fun a i z => by rw [w2_n (by omega), w2_n (by omega)]
      have w32 : w2 (w2 K 32 c 0) 33 c 0 32 c = 0 := by rw [w2_n (by omega), w2_ap, if_pos ⟨rfl, rfl⟩]
      have w33 : w2 (w2 K 32 c 0) 33 c 0 33 c = 0 := by rw [w2_ap, if_pos ⟨rfl, rfl⟩]
      generalize w2 (w2 K 32 c 0) 33 c 0 = K2 at w w32 w33 ⊢
      have fK : ∀ a i, ¬ (a = 26 ∧ 17 ≤ i ∧ i ≤ 19) → ¬ (27 ≤ a ∧ a ≤ 43) → K2 a i = J a i := fun a i x y => (w a i (by omega)).trans ((k1 a i (by omega)).trans (fJ a i x (by omega)))
      have cK := hC c cc
      have e4 : K2 (58 + 5 * c) 4 = J (58 + 5 * c) 4 := fK _ _ (by omega) (by omega)
      refine Ev_R hf (Ev_t hO.1 (Ev_c (fun z => ?_) (fun z => ?_)))
      · refine ev_96_2 ?_
        refine Ev_t (by omega) (ih K2 (fun a i x => (w a i (by omega)).trans (k1 a i x)) (fun c' hc' => ?_))
        by_cases q : c' = c
        · subst q; intro y; omega
        · intro y
          rw [w (58 + 5 * c') _ (by omega)] at y
          obtain ⟨g1, g2⟩ := k2 c' (by omega) y
          have eL : ∀ x, K2 (58 + 5 * c' + 2) x = K (58 + 5 * c' + 2) x := fun x => w _ _ (by omega)
          have ef : ∀ k, fiK K2 rn od (wnC J) c' k = fiK K rn od (wnC J) c' k := fun k => by unfold fiK; simp only [eL]
          have eo : ∀ k, ovK K2 (58 + 5 * c') k = ovK K (58 + 5 * c') k := fun k => sm_congr 10 (fun p _ _ => by rw [eL, w 4 _ (by omega)])
          unfold TpO at *
          rw [w (58 + 5 * c') _ (by omega), w 33 _ (by omega)]
          refine ⟨GrO_c (fun a x y => w a x (by omega)) (by omega) (fun k _ => ⟨by rw [ef], by rw [eo]⟩) g1, fun k hk => by dsimp only; rw [ef, eo]; exact g2.1 k hk, g2.2⟩
      · obtain ⟨m, hmm⟩ : ∃ m : Nat, J (58 + 5 * c) 4 = m := ⟨(J (58 + 5 * c) 4).toNat, by have := cK.1; omega⟩
        have eL : ∀ x, K2 (58 + 5 * c + 2) x = J (58 + 5 * c + 2) x := fun x => fK _ _ (by omega) (by omega)
        have eM : ∀ x, K2 4 x = J 4 x := fun x => fK _ _ (by omega) (by omega)
        refine Ev_t (by omega) (Ev_R hf (Ev_t (by omega) (Ev_bind (K99 (m := m) cc (by omega) hO (RtO_c (fun i _ => (w _ _ (by omega)).trans (k1 _ _ (by omega))) (fun a i _ _ => (w _ _ (by omega)).trans (k1 _ _ (by omega))) R4) hb (by omega) (by omega) (fun k hk p x y => by rw [eL]; exact cK.2 (by omega) k (by omega) p x y) (fun p x y => by rw [eM]; exact (hm.1 p x y).2.2) w32 w33) ?_)))
        rintro ⟨J5, L5⟩ ⟨v1, v2, v3, v4⟩
        dsimp only at v1 v2 v3 v4 ⊢
        subst v1
        refine ev_96_2 ?_
        refine Ev_t (by omega) (ih J5 (fun a i x => (v2 a i (by omega) (by omega)).trans ((w a i (by omega)).trans (k1 a i x))) (fun c' hc' => ?_))
        by_cases q : c' = c
        · subst q
          intro y
          have eL5 : ∀ x, J5 (58 + 5 * c' + 2) x = K2 (58 + 5 * c' + 2) x := fun x => v2 _ _ (by omega) (by omega)
          have ef : ∀ k, fiK J5 rn od (wnC J) c' k = fiK K2 rn od (wnC J) c' k := fun k => by unfold fiK; simp only [eL5]
          have eo : ∀ k, ovK J5 (58 + 5 * c') k = ovK K2 (58 + 5 * c') k := fun k => sm_congr 10 (fun p _ _ => by rw [eL5, v2 4 _ (by omega) (by omega)])
          have em : (J5 (58 + 5 * c') 4).toNat = m := by rw [v2 _ _ (by omega) (by omega)]; omega
          rw [em]
          refine ⟨GrO_c (fun _ _ _ => rfl) (by omega) (fun k _ => ⟨by rw [ef], by rw [eo]⟩) v3, fun k hk => by dsimp only; rw [ef, eo]; exact v4.1 k hk, v4.2⟩
        · intro y
          have w' : ∀ (a : Nat) (i : Int), ¬ (27 ≤ a ∧ a ≤ 31 ∧ (c : Int) * 64 ≤ i ∧ i < (c : Int) * 64 + 64) → ¬ ((a = 32 ∨ a = 33) ∧ i = c) → J5 a i = K a i := fun a i x y => (v2 a i x y).trans (w a i y)
          rw [w' (58 + 5 * c') _ (by omega) (by omega)] at y
          obtain ⟨g1, g2⟩ := k2 c' (by omega) y
          have eL : ∀ x, J5 (58 + 5 * c' + 2) x = K (58 + 5 * c' + 2) x := fun x => w' _ _ (by omega) (by omega)
          have ef : ∀ k, fiK J5 rn od (wnC J) c' k = fiK K rn od (wnC J) c' k := fun k => by unfold fiK; simp only [eL]
          have eo : ∀ k, ovK J5 (58 + 5 * c') k = ovK K (58 + 5 * c') k := fun k => sm_congr 10 (fun p _ _ => by rw [eL, w' 4 _ (by omega) (by omega)])
          unfold TpO at *
          rw [w' (58 + 5 * c') _ (by omega) (by omega), w' 33 _ (by omega) (by omega)]
          refine ⟨GrO_c (fun a x y => w' a x (by omega) (by omega)) (by omega) (fun k _ => ⟨by rw [ef], by rw [eo]⟩) g1, fun k hk => by dsimp only; rw [ef, eo]; exact g2.1 k hk, g2.2⟩
    · have : c = 3 := by omega
      subst this
      have eM : ∀ x, K 4 x = J 4 x := fun x => (k1 _ _ (by omega)).trans (fJ _ _ (by omega) (by omega))
      have ew : wnC K = wnC J := funext fun p => eM _
      have eb : bnC K = bnC J := funext fun p => by unfold bnC; rw [eM, eM]
      refine Ev_t (by omega) (Ev_ret ⟨rfl, fun a i x y => (k1 a i (by omega)).trans (fJ a i x (by omega)), rn, od, ?_⟩)
      unfold LdO
      dsimp only
      rw [ew, eb]
      exact ⟨RtO_c (fun i _ => k1 _ _ (by omega)) (fun a i _ _ => k1 _ _ (by omega)) R4, by rw [k1 _ _ (by omega), f41 _ _ (by omega)]; exact r4, r5, TbO_c (fun a i _ _ => k1 _ _ (by omega)) TB, k2⟩
  exact key 0 (by omega) J4 (fun _ _ _ => rfl) (fun c' hc' => by omega)
end LD
