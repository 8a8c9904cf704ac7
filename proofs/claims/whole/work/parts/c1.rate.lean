section
set_option maxRecDepth 100000 in
theorem ev_97_4 {dp : Nat} {e : EN} {I : JI} {L : JI} {i2 : Int} {i3 : Int} {i4 : Int} {P_ : (JI × JI) → Prop} (h : Ev (fun n => (if 5 ≤ i2 then (some (I, L)) else (if 0 ≤ i2 ∧ i2 < 5 then (if (-2147483648 ≤ 15 - (I 35 i2) ∧ 15 - (I 35 i2) ≤ 2147483647) ∧ (-2147483648 ≤ 5 * i2 ∧ 5 * i2 ≤ 2147483647) then (stI (w2 I 26 18 (bO (I 26 18) (bL (15 - (I 35 i2)) (5 * i2)))) (fun I_179 => (if -2147483648 ≤ i2 + 1 ∧ i2 + 1 ≤ 2147483647 then (kf_97 n dp e 4 I_179 L (i2 + 1) 0 0) else none))) else none) else none))) P_) : Ev (fun n => kf_97 n dp e 4 I L i2 i3 i4) P_ := Ev_step (fun n => ke_97_4 n dp e I L i2 i3 i4) h
set_option maxRecDepth 100000 in
theorem ev_97_3 {dp : Nat} {e : EN} {I : JI} {L : JI} {i2 : Int} {i3 : Int} {i4 : Int} {P_ : (JI × JI) → Prop} (h : Ev (fun n => (kf_97 n dp e 4 I L 0 0 0)) P_) : Ev (fun n => kf_97 n dp e 3 I L i2 i3 i4) P_ := Ev_step (fun n => ke_97_3 n dp e I L i2 i3 i4) h
set_option maxRecDepth 100000 in
theorem ev_97_1 {dp : Nat} {e : EN} {I : JI} {L : JI} {i2 : Int} {i3 : Int} {i4 : Int} {P_ : (JI × JI) → Prop} (h : Ev (fun n => (if 10 ≤ i2 then (kf_97 n dp e 3 I L i2 0 0) else (if 5 ≤ (I 26 17) then (kf_97 n dp e 3 I L i2 0 0) else (if -2147483648 ≤ 20 + i2 ∧ 20 + i2 ≤ 2147483647 then (if 0 ≤ (20 + i2) ∧ (20 + i2) < 30 then (stI (I 4 (20 + i2)) (fun v_48 => (if -2147483648 ≤ 0 + i2 ∧ 0 + i2 ≤ 2147483647 then (if 0 ≤ (0 + i2) ∧ (0 + i2) < 30 then (if -2147483648 ≤ 10 + i2 ∧ 10 + i2 ≤ 2147483647 then (if 0 ≤ (10 + i2) ∧ (10 + i2) < 30 then (if -2147483648 ≤ (I 4 (0 + i2)) - (I 4 (10 + i2)) ∧ (I 4 (0 + i2)) - (I 4 (10 + i2)) ≤ 2147483647 then (stI ((I 4 (0 + i2)) - (I 4 (10 + i2))) (fun v_67 => (if v_48 ≤ 0 then (kf_97 n dp e 2 I L i2 v_48 v_67) else (if v_67 = 0 then (kf_97 n dp e 2 I L i2 v_48 v_67) else (if 0 ≤ (I 26 17) ∧ (I 26 17) < 5 then (stI (w2 I 34 (I 26 17) i2) (fun I_87 => (if 0 ≤ (I_87 26 17) ∧ (I_87 26 17) < 5 then (stI (w2 I_87 35 (I_87 26 17) v_48) (fun I_97 => (if 0 ≤ (I_97 26 17) ∧ (I_97 26 17) < 5 then (stI (w2 I_97 36 (I_97 26 17) (I_97 26 19)) (fun I_110 => (if 0 ≤ (I_110 26 17) ∧ (I_110 26 17) < 5 then (if -2147483648 ≤ v_67 * 16 ∧ v_67 * 16 ≤ 2147483647 then (stI (w2 I_110 37 (I_110 26 17) (v_67 * 16)) (fun I_124 => (if (-2147483648 ≤ v_48 + 1 ∧ v_48 + 1 ≤ 2147483647) ∧ (-2147483648 ≤ (I_124 26 19) * (v_48 + 1) ∧ (I_124 26 19) * (v_48 + 1) ≤ 2147483647) then (stI (w2 I_124 26 19 ((I_124 26 19) * (v_48 + 1))) (fun I_134 => (if -2147483648 ≤ (I_134 26 17) + 1 ∧ (I_134 26 17) + 1 ≤ 2147483647 then (stI (w2 I_134 26 17 ((I_134 26 17) + 1)) (fun I_144 => (kf_97 n dp e 2 I_144 L i2 v_48 v_67))) else none))) else none))) else none) else none))) else none))) else none))) else none))))) else none) else none) else none) else none) else none))) else none) else none)))) P_) : Ev (fun n => kf_97 n dp e 1 I L i2 i3 i4) P_ := Ev_step (fun n => ke_97_1 n dp e I L i2 i3 i4) h
set_option maxRecDepth 100000 in
theorem ev_97_2 {dp : Nat} {e : EN} {I : JI} {L : JI} {i2 : Int} {i3 : Int} {i4 : Int} {P_ : (JI × JI) → Prop} (h : Ev (fun n => (if -2147483648 ≤ i2 + 1 ∧ i2 + 1 ≤ 2147483647 then (kf_97 n dp e 1 I L (i2 + 1) 0 0) else none)) P_) : Ev (fun n => kf_97 n dp e 2 I L i2 i3 i4) P_ := Ev_step (fun n => ke_97_2 n dp e I L i2 i3 i4) h
set_option maxRecDepth 100000 in
theorem ev_97_0 {dp : Nat} {e : EN} {I : JI} {L : JI} {i2 : Int} {i3 : Int} {i4 : Int} {P_ : (JI × JI) → Prop} (h : Ev (fun n => (stI (w2 I 26 17 0) (fun I_2 => (stI (w2 I_2 26 18 0) (fun I_7 => (stI (w2 I_7 26 19 1) (fun I_12 => (if 1 ≤ dp then ((kf_36 n (dp - 1) e 0 I_12 L 0 0 0 35).bind (fun ⟨I0_20, L0_20⟩ => (kf_97 n dp e 1 I0_20 L0_20 0 0 0))) else none)))))))) P_) : Ev (fun n => kf_97 n dp e 0 I L i2 i3 i4) P_ := Ev_step (fun n => ke_97_0 n dp e I L i2 i3 i4) h
end
/-! THE CLASS'S PLANS: orders rated -/
theorem bU_g {x : Int} {k : Nat} (hx : 0 ≤ x ∧ x ≤ 2147483647) (hk : k < 31) : bU x k = x / (2 ^ k : Nat) := by
  have dk : ∀ k : Fin 31, (Int32.toUInt32 (Int32.ofInt (k.val : Int)) &&& Int32.toUInt32 31).toNat = k.val := by decide
  have hs := dk ⟨k, hk⟩
  dsimp only at hs
  generalize hq : Int32.toUInt32 (Int32.ofInt (k : Int)) &&& Int32.toUInt32 31 = s at hs
  have e : ((Int32.toUInt32 (Int32.ofInt x)) >>> s).toInt32.toBitVec.toNat = x.toNat >>> k := by
    show (((Int32.toUInt32 (Int32.ofInt x)) >>> s).toBitVec).toNat = _
    rw [UInt32.toBitVec_shiftRight, BitVec.ushiftRight_eq', BitVec.toNat_ushiftRight]
    have : (s.toBitVec % 32#32).toNat = k := by
      rw [BitVec.toNat_umod]
      show s.toNat % 32 = k
      omega
    show (Int32.ofInt x).toBitVec.toNat >>> (s.toBitVec % 32#32).toNat = _
    rw [i32_n hx, this]
  have l : x.toNat >>> k ≤ x.toNat := by rw [Nat.shiftRight_eq_div_pow]; exact Nat.div_le_self _ _
  unfold bU
  rw [hq]
  show (((Int32.toUInt32 (Int32.ofInt x)) >>> s).toInt32).toBitVec.toInt = _
  rw [bv_i (by rw [e]; omega), e, Nat.shiftRight_eq_div_pow, Int.natCast_ediv]
  congr 1
  omega
theorem bL_0 : ∀ v : Fin 16, bL (v.val : Int) 0 = (v.val : Int) * 1 ∧ bL (v.val : Int) 5 = (v.val : Int) * 32 ∧ bL (v.val : Int) 10 = (v.val : Int) * 1024 ∧ bL (v.val : Int) 15 = (v.val : Int) * 32768 ∧ bL (v.val : Int) 20 = (v.val : Int) * 1048576 := by decide +kernel
def p32 : Nat → Int
  | 0 => 1
  | k + 1 => 32 * p32 k
theorem p32_n : ∀ k : Nat, p32 k = ((2 ^ (5 * k) : Nat) : Int)
  | 0 => rfl
  | k + 1 => by
    rw [p32, p32_n k, show 5 * (k + 1) = 5 * k + 5 by omega, Nat.pow_add, Int.natCast_mul]
    show 32 * _ = _ * 32
    omega
theorem bL_p {v : Int} {k : Nat} (hv : 0 ≤ v ∧ v ≤ 15) (hk : k < 5) : bL v (5 * k) = v * p32 k := by
  obtain ⟨n, rfl⟩ : ∃ n : Nat, v = n := ⟨v.toNat, by omega⟩
  have h := bL_0 ⟨n, by omega⟩
  have : k = 0 ∨ k = 1 ∨ k = 2 ∨ k = 3 ∨ k = 4 := by omega
  rcases this with rfl | rfl | rfl | rfl | rfl
  · exact h.1
  · exact h.2.1
  · exact h.2.2.1
  · exact h.2.2.2.1
  · exact h.2.2.2.2
theorem bO_f {x v : Int} {k : Nat} (hk : k < 5) (hv : 0 ≤ v ∧ v ≤ 15) (hx : 0 ≤ x ∧ x < p32 k) : bO x (bL v (5 * k)) = x + v * p32 k := by
  obtain ⟨n, rfl⟩ : ∃ n : Nat, v = n := ⟨v.toNat, by omega⟩
  have pb : 1 ≤ p32 k ∧ p32 k ≤ 1048576 := by
    have : k = 0 ∨ k = 1 ∨ k = 2 ∨ k = 3 ∨ k = 4 := by omega
    rcases this with rfl | rfl | rfl | rfl | rfl <;> decide
  have nb : 0 ≤ (n : Int) * p32 k ∧ (n : Int) * p32 k ≤ 15 * 1048576 := mulb hv (by omega)
  rw [bL_p hv hk, bO_n (by omega) (by omega)]
  have e := Nat.two_pow_add_eq_or_of_lt (b := x.toNat) (i := 5 * k) (by have := p32_n k; omega) n
  have e2 : ((n : Int) * p32 k).toNat = 2 ^ (5 * k) * n := by
    rw [p32_n, ← Int.natCast_mul, Int.toNat_natCast, Nat.mul_comm]
  rw [e2, Nat.or_comm, ← e]
  have e3 : ((2 ^ (5 * k) * n : Nat) : Int) = (n : Int) * p32 k := by rw [p32_n, ← Int.natCast_mul, Nat.mul_comm]
  omega
/-- fields as far as k -/
def pkP (V : Nat → Int) : Nat → Int
  | 0 => 0
  | k + 1 => pkP V k + V k * p32 k
theorem pkP_b {V : Nat → Int} : ∀ k : Nat, (∀ i, i < k → 0 ≤ V i ∧ V i ≤ 15) → 0 ≤ pkP V k ∧ pkP V k < p32 k ∧ 1 ≤ p32 k
  | 0, _ => by rw [pkP, p32]; decide
  | k + 1, h => by
    have r := pkP_b k (fun i hi => h i (by omega))
    have v := h k (by omega)
    have p1 := Int.mul_nonneg v.1 (show 0 ≤ p32 k by omega)
    have p2 := Int.mul_le_mul_of_nonneg_right v.2 (show 0 ≤ p32 k by omega)
    rw [pkP, p32]
    omega
theorem pkP_5 {V : Nat → Int} : pkP V 5 = pkI V := by
  unfold pkI
  simp only [pkP, p32]
  omega
/-- the orders that are rated: rn of them, their parts od -/
def RtO (J : JI) (rn : Nat) (od : Nat → Int) (wn bn : Int → Int) : Prop := J 26 17 = rn ∧ rn ≤ 5 ∧ (∀ k : Nat, k < rn → J 34 k = od k ∧ (0 ≤ od k ∧ od k < 10) ∧ J 35 k = wn (od k) ∧ (1 ≤ wn (od k) ∧ wn (od k) ≤ 8) ∧ J 36 k = prL (fun k => wn (od k) + 1) k ∧ J 37 k = 16 * bn (od k)) ∧ (∀ k : Nat, rn ≤ k → k < 5 → J 35 k = 0) ∧ J 26 19 = prL (fun k => wn (od k) + 1) rn
def cpF (rn : Nat) (od : Nat → Int) (wn : Int → Int) (k : Nat) : Int := if k < rn then wn (od k) else 0
theorem RtO_c {J J' : JI} {rn : Nat} {od : Nat → Int} {wn bn : Int → Int} (h6 : ∀ i, i = 17 ∨ i = 19 → J' 26 i = J 26 i) (h4 : ∀ a i, 34 ≤ a → a ≤ 37 → J' a i = J a i) (h : RtO J rn od wn bn) : RtO J' rn od wn bn := by
  obtain ⟨h1, h2, h3, h5, h7⟩ := h
  refine ⟨by rw [h6 _ (by omega)]; exact h1, h2, fun k hk => ?_, fun k a b => by rw [h4 _ _ (by omega) (by omega)]; exact h5 k a b, by rw [h6 _ (by omega)]; exact h7⟩
  rw [h4 34 _ (by omega) (by omega), h4 35 _ (by omega) (by omega), h4 36 _ (by omega) (by omega), h4 37 _ (by omega) (by omega)]
  exact h3 k hk
theorem RtO_35 {J : JI} {rn : Nat} {od : Nat → Int} {wn bn : Int → Int} (h : RtO J rn od wn bn) {k : Nat} (hk : k < 5) : J 35 k = cpF rn od wn k ∧ 0 ≤ cpF rn od wn k ∧ cpF rn od wn k ≤ 8 := by
  unfold cpF
  by_cases c : k < rn
  · rw [if_pos c]
    have := h.2.2.1 k c
    exact ⟨this.2.2.1, by omega, by omega⟩
  · rw [if_neg c]
    exact ⟨h.2.2.2.1 k (by omega) hk, by decide, by decide⟩
section RT
variable {e : EN} {L : JI}
theorem K97 {dp : Nat} {J : JI} {wn bn : Int → Int} {x1 x2 x3 : Int} (hd : 1 ≤ dp) (hA : arO e 35 5) (hm : ∀ p : Int, 0 ≤ p → p < 10 → J 4 (20 + p) = wn p ∧ (0 ≤ wn p ∧ wn p ≤ 8) ∧ J 4 p - J 4 (10 + p) = bn p ∧ (0 ≤ J 4 p ∧ J 4 p ≤ 999) ∧ (0 ≤ J 4 (10 + p) ∧ J 4 (10 + p) ≤ 999)) (h5 : sm (fun p => if 0 < wn p then 1 else 0) 10 ≤ 5) : Ev (fun n => kf_97 n dp e 0 J L x1 x2 x3) (fun r => r.2 = L ∧ (∀ a i, ¬ (a = 26 ∧ 17 ≤ i ∧ i ≤ 19) → ¬ (34 ≤ a ∧ a ≤ 37) → r.1 a i = J a i) ∧ ∃ (rn : Nat) (od : Nat → Int), RtO r.1 rn od wn bn ∧ r.1 26 18 = pkI (fun k => 15 - cpF rn od wn k) ∧ ∀ f : Int → Int, sN (fun k => f (od k)) rn = sm (fun p => if 0 < wn p ∧ ¬ bn p = 0 then f p else 0) 10) := by
  /- the filling that is empty -/
  have fin : ∀ (J1 : JI) (rn : Nat) (od : Nat → Int), (∀ a i, ¬ (a = 26 ∧ 17 ≤ i ∧ i ≤ 19) → ¬ (34 ≤ a ∧ a ≤ 37) → J1 a i = J a i) → RtO J1 rn od wn bn → J1 26 18 = 0 → (∀ f : Int → Int, sN (fun k => f (od k)) rn = sm (fun p => if 0 < wn p ∧ ¬ bn p = 0 then f p else 0) 10) → ∀ y : Int, Ev (fun n => kf_97 n dp e 3 J1 L y 0 0) (fun r => r.2 = L ∧ (∀ a i, ¬ (a = 26 ∧ 17 ≤ i ∧ i ≤ 19) → ¬ (34 ≤ a ∧ a ≤ 37) → r.1 a i = J a i) ∧ ∃ (rn : Nat) (od : Nat → Int), RtO r.1 rn od wn bn ∧ r.1 26 18 = pkI (fun k => 15 - cpF rn od wn k) ∧ ∀ f : Int → Int, sN (fun k => f (od k)) rn = sm (fun p => if 0 < wn p ∧ ¬ bn p = 0 then f p else 0) 10) := by
    intro J1 rn od g1 g2 g3 g4 y
    have lp : ∀ k : Nat, k ≤ 5 → ∀ K : JI, (∀ a i, ¬ (a = 26 ∧ i = 18) → K a i = J1 a i) → K 26 18 = pkP (fun k => 15 - cpF rn od wn k) k → Ev (fun n => kf_97 n dp e 4 K L k 0 0) (fun r => r.2 = L ∧ (∀ a i, ¬ (a = 26 ∧ 17 ≤ i ∧ i ≤ 19) → ¬ (34 ≤ a ∧ a ≤ 37) → r.1 a i = J a i) ∧ ∃ (rn : Nat) (od : Nat → Int), RtO r.1 rn od wn bn ∧ r.1 26 18 = pkI (fun k => 15 - cpF rn od wn k) ∧ ∀ f : Int → Int, sN (fun k => f (od k)) rn = sm (fun p => if 0 < wn p ∧ ¬ bn p = 0 then f p else 0) 10) := by
      refine dec_ind 5 (fun k hk ik => ?_)
      intro K k1 k2
      refine ev_97_4 ?_
      by_cases c : k < 5
      · have ik := ik c
        have cb := RtO_35 g2 c
        have pb := pkP_b (V := fun k => 15 - cpF rn od wn k) k (fun i hi => by have := RtO_35 g2 (show i < 5 by omega); omega)
        have e35 : K 35 k = cpF rn od wn k := by rw [k1 _ _ (by omega)]; exact cb.1
        rw [e35, k2, bO_f c (by omega) ⟨pb.1, pb.2.1⟩]
        refine Ev_f (by omega) (Ev_t (by omega) (Ev_t (by omega) (Ev_st (Ev_t (by omega) (ik _ (fun a i x => ?_) ?_)))))
        · rw [w2_n x]; exact k1 a i x
        · rw [w2_ap, if_pos ⟨rfl, rfl⟩, pkP]
      · have : k = 5 := by omega
        subst this
        refine Ev_t (by omega) (Ev_ret ⟨rfl, fun a i x z => (k1 a i (by omega)).trans (g1 a i x z), rn, od, RtO_c (fun i x => k1 _ _ (by omega)) (fun a i _ _ => k1 _ _ (by omega)) g2, ?_, g4⟩)
        dsimp only
        rw [k2, pkP_5]
    refine ev_97_3 ?_
    exact lp 0 (by omega) J1 (fun _ _ _ => rfl) g3
  have key : ∀ p : Nat, p ≤ 10 → ∀ (J1 : JI) (rn : Nat) (od : Nat → Int), (∀ a i, ¬ (a = 26 ∧ 17 ≤ i ∧ i ≤ 19) → ¬ (34 ≤ a ∧ a ≤ 37) → J1 a i = J a i) → RtO J1 rn od wn bn → J1 26 18 = 0 → (rn : Int) ≤ sm (fun p => if 0 < wn p then 1 else 0) p → (∀ f : Int → Int, sN (fun k => f (od k)) rn = sm (fun p => if 0 < wn p ∧ ¬ bn p = 0 then f p else 0) p) → Ev (fun n => kf_97 n dp e 1 J1 L p 0 0) (fun r => r.2 = L ∧ (∀ a i, ¬ (a = 26 ∧ 17 ≤ i ∧ i ≤ 19) → ¬ (34 ≤ a ∧ a ≤ 37) → r.1 a i = J a i) ∧ ∃ (rn : Nat) (od : Nat → Int), RtO r.1 rn od wn bn ∧ r.1 26 18 = pkI (fun k => 15 - cpF rn od wn k) ∧ ∀ f : Int → Int, sN (fun k => f (od k)) rn = sm (fun p => if 0 < wn p ∧ ¬ bn p = 0 then f p else 0) 10) := by
    refine dec_ind 10 (fun p hp ih => ?_)
    intro J1 rn od g1 g2 g3 g4 g5
    have g2' := g2
    obtain ⟨o1, o2, o3, o4, o5⟩ := g2
    refine ev_97_1 ?_
    by_cases c : p < 10
    · have ih := ih c
      obtain ⟨m1, m2, m3, m4, m5⟩ := hm p (by omega) (by omega)
      rw [o1]
      refine Ev_f (by omega) (Ev_c (fun z => ?_) (fun z => ?_))
      · /- five are rated: none follows -/
        refine fin J1 rn od g1 g2' g3 (fun f => ?_) p
        rw [g5 f]
        have w0 : ∀ q : Int, 0 ≤ q → q < 10 → (p : Int) ≤ q → ¬ 0 < wn q := by
          intro q q0 q1 q2 hq
          obtain ⟨n, rfl⟩ : ∃ n : Nat, q = n := ⟨q.toNat, by omega⟩
          have s1 := sm_mo (f := fun p => if 0 < wn p then 1 else 0) (fun p => by split <;> omega) (n := p) n (by omega)
          have s2 := sm_mo (f := fun p => if 0 < wn p then 1 else 0) (fun p => by split <;> omega) (n := n + 1) 10 (by omega)
          rw [sm_s, if_pos hq] at s2
          omega
        have ex : ∀ n : Nat, p ≤ n → n ≤ 10 → sm (fun p => if 0 < wn p ∧ ¬ bn p = 0 then f p else 0) n = sm (fun p => if 0 < wn p ∧ ¬ bn p = 0 then f p else 0) p := by
          intro n
          induction n with
          | zero => intro a b; rw [show p = 0 by omega]
          | succ n ihn =>
            intro a b
            by_cases q : p = n + 1
            · rw [q]
            · rw [sm_s, ihn (by omega) (by omega), if_neg (fun y => w0 n (by omega) (by omega) (by omega) y.1)]
              omega
        exact (ex 10 (by omega) (by omega)).symm
      · have e4 : ∀ i, J1 4 i = J 4 i := fun i => g1 _ _ (by omega) (by omega)
        simp only [e4]
        rw [m1, Int.zero_add, m3]
        have bb : -999 ≤ bn p ∧ bn p ≤ 999 := by omega
        refine Ev_t (by omega) (Ev_t (by omega) (Ev_st (Ev_t (by omega) (Ev_t (by omega) (Ev_t (by omega) (Ev_t (by omega) (Ev_t (by omega) (Ev_st ?_))))))))
        refine Ev_c (fun y => ?_) (fun y => Ev_c (fun y2 => ?_) (fun y2 => ?_))
        · refine ev_97_2 ?_
          refine Ev_t (by omega) (ih J1 rn od g1 g2' g3 ?_ (fun f => ?_))
          · rw [sm_s, if_neg (by omega)]; omega
          · rw [sm_s, if_neg (by omega), g5 f]; omega
        · refine ev_97_2 ?_
          refine Ev_t (by omega) (ih J1 rn od g1 g2' g3 ?_ (fun f => ?_))
          · rw [sm_s]; split <;> omega
          · rw [sm_s, if_neg (fun w => w.2 y2), g5 f]; omega
        · have pb := prL_b (B := fun k => wn (od k) + 1) rn (fun k hk => by have q := o3 k hk; omega)
          have p9 := pw9 (show rn ≤ 5 by omega)
          have pm := mulb (a := prL (fun k => wn (od k) + 1) rn) (b := wn p + 1) (A := 59049) (B := 9) (by omega) (by omega)
          refine Ev_t (by omega) (Ev_st ?_)
          rw [w2_n (b := 26) (by omega), o1]
          refine Ev_t (by omega) (Ev_st ?_)
          rw [w2_n (b := 26) (by omega), w2_n (b := 26) (by omega), o1, w2_n (b := 26) (by omega), w2_n (b := 26) (by omega), o5]
          refine Ev_t (by omega) (Ev_st ?_)
          rw [w2_n (b := 26) (by omega), w2_n (b := 26) (by omega), w2_n (b := 26) (by omega), o1]
          refine Ev_t (by omega) (Ev_t (by omega) (Ev_st ?_))
          rw [w2_n (b := 26) (by omega), w2_n (b := 26) (by omega), w2_n (b := 26) (by omega), w2_n (b := 26) (by omega), o5]
          refine Ev_t (by omega) (Ev_st ?_)
          rw [w2_n (b := 26) (j := 17) (by omega), w2_n (b := 26) (by omega), w2_n (b := 26) (by omega), w2_n (b := 26) (by omega), w2_n (b := 26) (by omega), o1]
          refine Ev_t (by omega) (Ev_st ?_)
          have nn : ∀ (a : Nat) (i : Int), ¬ (a = 26 ∧ (i = 17 ∨ i = 19)) → ¬ (34 ≤ a ∧ a ≤ 37 ∧ i = rn) → w2 (w2 (w2 (w2 (w2 (w2 J1 34 rn p) 35 rn (wn p)) 36 rn (prL (fun k => wn (od k) + 1) rn)) 37 rn (bn p * 16)) 26 19 (prL (fun k => wn (od k) + 1) rn * (wn p + 1))) 26 17 ((rn : Int) + 1) a i = J1 a i := fun a i h1 h2 => by
            rw [w2_n (by omega), w2_n (by omega), w2_n (by omega), w2_n (by omega), w2_n (by omega), w2_n (by omega)]
          have n34 : w2 (w2 (w2 (w2 (w2 (w2 J1 34 rn p) 35 rn (wn p)) 36 rn (prL (fun k => wn (od k) + 1) rn)) 37 rn (bn p * 16)) 26 19 (prL (fun k => wn (od k) + 1) rn * (wn p + 1))) 26 17 ((rn : Int) + 1) 34 rn = p := by
            rw [w2_n (by omega), w2_n (by omega), w2_n (by omega), w2_n (by omega), w2_n (by omega), w2_ap, if_pos ⟨rfl, rfl⟩]
          have n35 : w2 (w2 (w2 (w2 (w2 (w2 J1 34 rn p) 35 rn (wn p)) 36 rn (prL (fun k => wn (od k) + 1) rn)) 37 rn (bn p * 16)) 26 19 (prL (fun k => wn (od k) + 1) rn * (wn p + 1))) 26 17 ((rn : Int) + 1) 35 rn = wn p := by
            rw [w2_n (by omega), w2_n (by omega), w2_n (by omega), w2_n (by omega), w2_ap, if_pos ⟨rfl, rfl⟩]
          have n36 : w2 (w2 (w2 (w2 (w2 (w2 J1 34 rn p) 35 rn (wn p)) 36 rn (prL (fun k => wn (od k) + 1) rn)) 37 rn (bn p * 16)) 26 19 (prL (fun k => wn (od k) + 1) rn * (wn p + 1))) 26 17 ((rn : Int) + 1) 36 rn = prL (fun k => wn (od k) + 1) rn := by
            rw [w2_n (by omega), w2_n (by omega), w2_n (by omega), w2_ap, if_pos ⟨rfl, rfl⟩]
          have n37 : w2 (w2 (w2 (w2 (w2 (w2 J1 34 rn p) 35 rn (wn p)) 36 rn (prL (fun k => wn (od k) + 1) rn)) 37 rn (bn p * 16)) 26 19 (prL (fun k => wn (od k) + 1) rn * (wn p + 1))) 26 17 ((rn : Int) + 1) 37 rn = bn p * 16 := by
            rw [w2_n (by omega), w2_n (by omega), w2_ap, if_pos ⟨rfl, rfl⟩]
          have n17 : w2 (w2 (w2 (w2 (w2 (w2 J1 34 rn p) 35 rn (wn p)) 36 rn (prL (fun k => wn (od k) + 1) rn)) 37 rn (bn p * 16)) 26 19 (prL (fun k => wn (od k) + 1) rn * (wn p + 1))) 26 17 ((rn : Int) + 1) 26 17 = (rn : Int) + 1 := by
            rw [w2_ap, if_pos ⟨rfl, rfl⟩]
          have n19 : w2 (w2 (w2 (w2 (w2 (w2 J1 34 rn p) 35 rn (wn p)) 36 rn (prL (fun k => wn (od k) + 1) rn)) 37 rn (bn p * 16)) 26 19 (prL (fun k => wn (od k) + 1) rn * (wn p + 1))) 26 17 ((rn : Int) + 1) 26 19 = prL (fun k => wn (od k) + 1) rn * (wn p + 1) := by
            rw [w2_n (by omega), w2_ap, if_pos ⟨rfl, rfl⟩]
          generalize w2 (w2 (w2 (w2 (w2 (w2 J1 34 rn p) 35 rn (wn p)) 36 rn (prL (fun k => wn (od k) + 1) rn)) 37 rn (bn p * 16)) 26 19 (prL (fun k => wn (od k) + 1) rn * (wn p + 1))) 26 17 ((rn : Int) + 1) = J2 at nn n34 n35 n36 n37 n17 n19 ⊢
          have pc : ∀ j, j ≤ rn → prL (fun k => wn (od k) + 1) j = prL (fun k => wn (if k = rn then (p : Int) else od k) + 1) j := by
            intro j
            induction j with
            | zero => intro _; rfl
            | succ j ihj => intro hj; rw [prL, prL, ihj (by omega), if_neg (by omega)]
          refine ev_97_2 ?_
          refine Ev_t (by omega) (ih J2 (rn + 1) (fun k => if k = rn then p else od k) (fun a i h1 h2 => (nn a i (by omega) (by omega)).trans (g1 a i h1 h2)) ⟨by rw [n17]; omega, by omega, fun k hk => ?_, fun k a b => ?_, ?_⟩ ?_ ?_ (fun f => ?_))
          · dsimp only
            by_cases q : k = rn
            · subst q
              rw [if_pos rfl, n34, n35, n36, n37]
              exact ⟨rfl, by omega, rfl, by omega, pc k (Nat.le_refl _), by omega⟩
            · rw [if_neg q, nn 34 _ (by omega) (by omega), nn 35 _ (by omega) (by omega), nn 36 _ (by omega) (by omega), nn 37 _ (by omega) (by omega), ← pc k (by omega)]
              exact o3 k (by omega)
          · rw [nn 35 _ (by omega) (by omega)]; exact o4 k (by omega) b
          · rw [n19, prL]
            dsimp only
            rw [if_pos rfl, pc rn (Nat.le_refl _)]
          · rw [nn _ _ (by omega) (by omega)]; exact g3
          · rw [sm_s, if_pos (by omega)]; omega
          · rw [sN, sm_s, if_pos rfl, if_pos ⟨show 0 < wn p by omega, y2⟩, ← g5 f]
            congr 1
            exact sN_c rn (fun k hk => by rw [if_neg (by omega)])
    · have : p = 10 := by omega
      subst this
      exact Ev_t (by omega) (fin J1 rn od g1 g2' g3 g5 _)
  refine ev_97_0 ?_
  refine Ev_st (Ev_st (Ev_st (Ev_t (by omega) (Ev_bind (K36 hA (by omega)) ?_))))
  rintro _ rfl
  dsimp only
  refine key 0 (by omega) _ 0 (fun _ => 0) (fun a i h1 h2 => ?_) ⟨?_, by omega, fun k hk => by omega, fun k a b => ?_, ?_⟩ ?_ (Int.le_refl _) (fun f => rfl)
  · unfold fl; rw [if_neg (by omega), w2_n (by omega), w2_n (by omega), w2_n (by omega)]
  · unfold fl; rw [if_neg (by omega), w2_n (by omega), w2_n (by omega), w2_ap, if_pos ⟨rfl, rfl⟩]; rfl
  · unfold fl; rw [if_pos (by omega)]
  · unfold fl; rw [if_neg (by omega), w2_ap, if_pos ⟨rfl, rfl⟩]; rfl
  · unfold fl; rw [if_neg (by omega), w2_n (by omega), w2_ap, if_pos ⟨rfl, rfl⟩]
end RT
