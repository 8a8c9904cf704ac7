section
set_option maxRecDepth 100000 in
theorem ev_111_0 {dp : Nat} {e : EN} {I : JI} {L : JI} {i0 : Int} {i1 : Int} {P_ : (Int × JI × JI) → Prop} (h : Ev (fun n => (if -2147483648 ≤ i0 + i1 ∧ i0 + i1 ≤ 2147483647 then (stI (bA (i0 + i1) 17318416) (fun v_8 => (if -2147483648 ≤ v_8 - (bU v_8 4) ∧ v_8 - (bU v_8 4) ≤ 2147483647 then (some (((bA (bO (i0 + i1) (v_8 - (bU v_8 4))) 16236015) : Int), I, L)) else none))) else none)) P_) : Ev (fun n => kf_111 n dp e 0 I L i0 i1) P_ := Ev_step (fun n => ke_111_0 n dp e I L i0 i1) h
end
/-! THE CLASS'S PLANS: fillings, five fields of five bits -/
theorem nA {a b A B : Nat} (ha : a < 32) (hb : b < 32) : (a + 32 * A) &&& (b + 32 * B) = (a &&& b) + 32 * (A &&& B) := by
  have d := Nat.and_div_two_pow (a := a + 32 * A) (b := b + 32 * B) (n := 5)
  have m := Nat.and_mod_two_pow (a := a + 32 * A) (b := b + 32 * B) (n := 5)
  have e1 : (a + 32 * A) / 2 ^ 5 = A := by omega
  have e2 : (b + 32 * B) / 2 ^ 5 = B := by omega
  have e3 : (a + 32 * A) % 2 ^ 5 = a := by omega
  have e4 : (b + 32 * B) % 2 ^ 5 = b := by omega
  rw [e1, e2] at d
  rw [e3, e4] at m
  omega
theorem nO {a b A B : Nat} (ha : a < 32) (hb : b < 32) : (a + 32 * A) ||| (b + 32 * B) = (a ||| b) + 32 * (A ||| B) := by
  have d := Nat.or_div_two_pow (a := a + 32 * A) (b := b + 32 * B) (n := 5)
  have m := Nat.or_mod_two_pow (a := a + 32 * A) (b := b + 32 * B) (n := 5)
  have e1 : (a + 32 * A) / 2 ^ 5 = A := by omega
  have e2 : (b + 32 * B) / 2 ^ 5 = B := by omega
  have e3 : (a + 32 * A) % 2 ^ 5 = a := by omega
  have e4 : (b + 32 * B) % 2 ^ 5 = b := by omega
  rw [e1, e2] at d
  rw [e3, e4] at m
  omega
def pkN (a b c d f : Nat) : Nat := a + 32 * (b + 32 * (c + 32 * (d + 32 * (f + 32 * 0))))
theorem pkA {a b c d f a' b' c' d' f' : Nat} (h1 : a < 32) (h2 : b < 32) (h3 : c < 32) (h4 : d < 32) (h5 : f < 32) (g1 : a' < 32) (g2 : b' < 32) (g3 : c' < 32) (g4 : d' < 32) (g5 : f' < 32) : pkN a b c d f &&& pkN a' b' c' d' f' = pkN (a &&& a') (b &&& b') (c &&& c') (d &&& d') (f &&& f') := by
  unfold pkN
  rw [nA h1 g1, nA h2 g2, nA h3 g3, nA h4 g4, nA h5 g5, Nat.and_self]
theorem pkO {a b c d f a' b' c' d' f' : Nat} (h1 : a < 32) (h2 : b < 32) (h3 : c < 32) (h4 : d < 32) (h5 : f < 32) (g1 : a' < 32) (g2 : b' < 32) (g3 : c' < 32) (g4 : d' < 32) (g5 : f' < 32) : pkN a b c d f ||| pkN a' b' c' d' f' = pkN (a ||| a') (b ||| b') (c ||| c') (d ||| d') (f ||| f') := by
  unfold pkN
  rw [nO h1 g1, nO h2 g2, nO h3 g3, nO h4 g4, nO h5 g5, Nat.or_self]
theorem fd1 : ∀ s : Fin 24, s.val &&& 16 = 16 * (s.val / 16) ∧ (s.val ||| 15 * (s.val / 16)) &&& 15 = min 15 s.val ∧ (s.val ||| 15 * (s.val / 16)) < 32 := by decide
/-- the spilling sum of fields -/
theorem jnN {a b c d f : Nat} (h1 : a < 24) (h2 : b < 24) (h3 : c < 24) (h4 : d < 24) (h5 : f < 24) : pkN a b c d f &&& 17318416 = 16 * pkN (a / 16) (b / 16) (c / 16) (d / 16) (f / 16) ∧ (pkN a b c d f ||| 15 * pkN (a / 16) (b / 16) (c / 16) (d / 16) (f / 16)) &&& 16236015 = pkN (min 15 a) (min 15 b) (min 15 c) (min 15 d) (min 15 f) := by
  obtain ⟨a1, a2, a3⟩ := fd1 ⟨a, h1⟩
  obtain ⟨b1, b2, b3⟩ := fd1 ⟨b, h2⟩
  obtain ⟨c1, c2, c3⟩ := fd1 ⟨c, h3⟩
  obtain ⟨d1, d2, d3⟩ := fd1 ⟨d, h4⟩
  obtain ⟨f1, f2, f3⟩ := fd1 ⟨f, h5⟩
  dsimp only at a1 a2 a3 b1 b2 b3 c1 c2 c3 d1 d2 d3 f1 f2 f3
  constructor
  · rw [show 17318416 = pkN 16 16 16 16 16 from rfl, pkA (by omega) (by omega) (by omega) (by omega) (by omega) (by decide) (by decide) (by decide) (by decide) (by decide), a1, b1, c1, d1, f1]
    unfold pkN
    omega
  · rw [show 15 * pkN (a / 16) (b / 16) (c / 16) (d / 16) (f / 16) = pkN (15 * (a / 16)) (15 * (b / 16)) (15 * (c / 16)) (15 * (d / 16)) (15 * (f / 16)) by unfold pkN; omega, pkO (by omega) (by omega) (by omega) (by omega) (by omega) (by omega) (by omega) (by omega) (by omega) (by omega), show 16236015 = pkN 15 15 15 15 15 from rfl, pkA a3 b3 c3 d3 f3 (by decide) (by decide) (by decide) (by decide) (by decide), a2, b2, c2, d2, f2]
theorem bU_k {x : Int} (hx : 0 ≤ x ∧ x ≤ 2147483647) : bU x 4 = x / 16 ∧ bU x 10 = x / 1024 ∧ bU x 20 = x / 1048576 := by
  have g : ∀ (s : UInt32) (k : Nat), s.toNat = k → k < 32 → ((Int32.toUInt32 (Int32.ofInt x)) >>> s).toInt32.toInt = ((x.toNat >>> k : Nat) : Int) := by
    intro s k hs hk
    have e : ((Int32.toUInt32 (Int32.ofInt x)) >>> s).toInt32.toBitVec.toNat = x.toNat >>> k := by
      show (((Int32.toUInt32 (Int32.ofInt x)) >>> s).toBitVec).toNat = _
      rw [UInt32.toBitVec_shiftRight, BitVec.ushiftRight_eq', BitVec.toNat_ushiftRight]
      have : (s.toBitVec % 32#32).toNat = k := by
        rw [BitVec.toNat_umod]
        show s.toNat % 32 = k
        omega
      show (Int32.ofInt x).toBitVec.toNat >>> (s.toBitVec % 32#32).toNat = _
      rw [i32_n hx, this]
    have l : x.toNat >>> k ≤ x.toNat := by rw [Nat.shiftRight_eq_div_pow]; exact Nat.div_le_self _ _
    show (((Int32.toUInt32 (Int32.ofInt x)) >>> s).toInt32).toBitVec.toInt = _
    rw [bv_i (by rw [e]; omega), e]
  refine ⟨?_, ?_, ?_⟩
  · have := g (Int32.toUInt32 (Int32.ofInt 4) &&& Int32.toUInt32 31) 4 (by decide) (by decide)
    unfold bU
    rw [this, Nat.shiftRight_eq_div_pow]
    omega
  · have := g (Int32.toUInt32 (Int32.ofInt 10) &&& Int32.toUInt32 31) 10 (by decide) (by decide)
    unfold bU
    rw [this, Nat.shiftRight_eq_div_pow]
    omega
  · have := g (Int32.toUInt32 (Int32.ofInt 20) &&& Int32.toUInt32 31) 20 (by decide) (by decide)
    unfold bU
    rw [this, Nat.shiftRight_eq_div_pow]
    omega
theorem bA_m {x : Int} (hx : 0 ≤ x ∧ x ≤ 2147483647) : bA x 1023 = x % 1024 ∧ bA x 31 = x % 32 := by
  constructor
  · rw [bA_n hx (by decide)]
    have := Nat.and_two_pow_sub_one_eq_mod x.toNat 10
    show ((x.toNat &&& 1023 : Nat) : Int) = _
    rw [show (1023 : Nat) = 2 ^ 10 - 1 from rfl, this]
    omega
  · rw [bA_n hx (by decide)]
    have := Nat.and_two_pow_sub_one_eq_mod x.toNat 5
    show ((x.toNat &&& 31 : Nat) : Int) = _
    rw [show (31 : Nat) = 2 ^ 5 - 1 from rfl, this]
    omega
/-- five fields -/
def pkI (V : Nat → Int) : Int := V 0 + 32 * V 1 + 1024 * V 2 + 32768 * V 3 + 1048576 * V 4
theorem pkI_N {V : Nat → Int} (h : ∀ i, i < 5 → 0 ≤ V i ∧ V i < 32) : (pkI V).toNat = pkN (V 0).toNat (V 1).toNat (V 2).toNat (V 3).toNat (V 4).toNat ∧ 0 ≤ pkI V ∧ pkI V < 33554432 := by
  have h0 := h 0 (by omega)
  have h1 := h 1 (by omega)
  have h2 := h 2 (by omega)
  have h3 := h 3 (by omega)
  have h4 := h 4 (by omega)
  unfold pkI pkN
  omega
theorem pkI_c {V W : Nat → Int} (h : ∀ i, i < 5 → V i = W i) : pkI V = pkI W := by
  unfold pkI
  rw [h 0 (by omega), h 1 (by omega), h 2 (by omega), h 3 (by omega), h 4 (by omega)]
theorem pkI_u {V W : Nat → Int} (hV : ∀ i, i < 5 → 0 ≤ V i ∧ V i < 32) (hW : ∀ i, i < 5 → 0 ≤ W i ∧ W i < 32) (h : pkI V = pkI W) : ∀ i, i < 5 → V i = W i := by
  have h0 := hV 0 (by omega)
  have h1 := hV 1 (by omega)
  have h2 := hV 2 (by omega)
  have h3 := hV 3 (by omega)
  have h4 := hV 4 (by omega)
  have g0 := hW 0 (by omega)
  have g1 := hW 1 (by omega)
  have g2 := hW 2 (by omega)
  have g3 := hW 3 (by omega)
  have g4 := hW 4 (by omega)
  unfold pkI at h
  intro i hi
  have : i = 0 ∨ i = 1 ∨ i = 2 ∨ i = 3 ∨ i = 4 := by omega
  rcases this with rfl | rfl | rfl | rfl | rfl <;> omega
section JN
variable {e : EN} {I L : JI}
theorem K111 {dp : Nat} {V W : Nat → Int} (hV : ∀ i, i < 5 → 0 ≤ V i ∧ V i ≤ 15) (hW : ∀ i, i < 5 → 0 ≤ W i ∧ W i ≤ 8) : Ev (fun n => kf_111 n dp e 0 I L (pkI V) (pkI W)) (fun r => r = (pkI (fun i => min 15 (V i + W i)), I, L)) := by
  obtain ⟨e0, p0, p1⟩ := pkI_N (V := fun i => V i + W i) (fun i hi => by have := hV i hi; have := hW i hi; omega)
  have es : pkI V + pkI W = pkI (fun i => V i + W i) := by unfold pkI; dsimp only; omega
  have v0 := hV 0 (by omega)
  have v1 := hV 1 (by omega)
  have v2 := hV 2 (by omega)
  have v3 := hV 3 (by omega)
  have v4 := hV 4 (by omega)
  have w0 := hW 0 (by omega)
  have w1 := hW 1 (by omega)
  have w2 := hW 2 (by omega)
  have w3 := hW 3 (by omega)
  have w4 := hW 4 (by omega)
  obtain ⟨j1, j2⟩ := jnN (a := (V 0 + W 0).toNat) (b := (V 1 + W 1).toNat) (c := (V 2 + W 2).toNat) (d := (V 3 + W 3).toNat) (f := (V 4 + W 4).toNat) (by omega) (by omega) (by omega) (by omega) (by omega)
  rw [← e0] at j1 j2
  generalize hq : pkN ((V 0 + W 0).toNat / 16) ((V 1 + W 1).toNat / 16) ((V 2 + W 2).toNat / 16) ((V 3 + W 3).toNat / 16) ((V 4 + W 4).toNat / 16) = q at j1 j2
  have qb : q < 2000000 := by rw [← hq]; unfold pkN; omega
  generalize hx : pkI (fun i => V i + W i) = x at *
  have a1 : bA x 17318416 = 16 * (q : Int) := by
    rw [bA_n (by omega) (by decide)]
    show ((x.toNat &&& 17318416 : Nat) : Int) = _
    rw [j1]
    omega
  have a2 := (bU_k (x := 16 * (q : Int)) (by omega)).1
  have a3 : (16 * (q : Int)) - (16 * (q : Int)) / 16 = ((15 * q : Nat) : Int) := by omega
  have a4 : bA (bO x ((15 * q : Nat) : Int)) 16236015 = pkI (fun i => min 15 (V i + W i)) := by
    have l : x.toNat ||| 15 * q < 2 ^ 31 := Nat.or_lt_two_pow (by omega) (by omega)
    rw [bO_n (by omega) (by omega), Int.toNat_natCast, bA_n (by omega) (by decide), Int.toNat_natCast]
    show ((((x.toNat ||| 15 * q) &&& 16236015 : Nat)) : Int) = _
    rw [j2]
    unfold pkN pkI
    dsimp only
    omega
  refine ev_111_0 ?_
  rw [es, a1]
  refine Ev_t (by omega) (Ev_st ?_)
  rw [a2, a3, a4]
  exact Ev_t (by omega) (Ev_ret rfl)
end JN
