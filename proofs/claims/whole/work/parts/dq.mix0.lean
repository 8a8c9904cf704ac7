/-! MIX: choices of boxes as numbers, and what comes of going through them -/
def mxS (x : Int × Int × Int) : Option (Int × Int) → Int × Int × Int
  | none => x
  | some v => (x.1 + 1, if v.1 < x.2.1 then v else x.2)
/-- the elements of f below n, one behind another: how many there are, the least value, the first that has it -/
def mxF (f : Nat → Option (Int × Int)) (x : Int × Int × Int) : Nat → Int × Int × Int
  | 0 => x
  | n + 1 => mxS (mxF f x n) (f n)
theorem mxF_add {f : Nat → Option (Int × Int)} {x : Int × Int × Int} (a : Nat) : ∀ b, mxF f x (a + b) = mxF (fun k => f (a + k)) (mxF f x a) b
  | 0 => rfl
  | b + 1 => by
    show mxS (mxF f x (a + b)) (f (a + b)) = mxS (mxF (fun k => f (a + k)) (mxF f x a) b) (f (a + b))
    rw [mxF_add a b]
theorem mxF_n {f : Nat → Option (Int × Int)} {x : Int × Int × Int} : ∀ n, (∀ k, k < n → f k = none) → mxF f x n = x
  | 0, _ => rfl
  | n + 1, h => by
    show mxS (mxF f x n) (f n) = x
    rw [h n (by omega), mxF_n n (fun k hk => h k (by omega))]
    rfl
theorem mxF_c {f g : Nat → Option (Int × Int)} {x : Int × Int × Int} : ∀ n, (∀ k, k < n → f k = g k) → mxF f x n = mxF g x n
  | 0, _ => rfl
  | n + 1, h => by
    show mxS (mxF f x n) (f n) = mxS (mxF g x n) (g n)
    rw [h n (by omega), mxF_c n (fun k hk => h k (by omega))]
/-- the choice of boxes that is number c among the choices of m of them -/
def mxG (nu : Nat → Nat) (c : Nat) : Nat → Nat
  | 0 => 0
  | m + 1 => mxG nu c m ||| (if c.testBit m then 2 ^ nu m else 0)
theorem mxG_c {nu : Nat → Nat} {c c' : Nat} : ∀ m, (∀ j, j < m → c.testBit j = c'.testBit j) → mxG nu c m = mxG nu c' m
  | 0, _ => rfl
  | m + 1, h => by
    show mxG nu c m ||| (if c.testBit m then 2 ^ nu m else 0) = mxG nu c' m ||| (if c'.testBit m then 2 ^ nu m else 0)
    rw [h m (by omega), mxG_c m (fun j hj => h j (by omega))]
theorem mxG_lt {nu : Nat → Nat} {c N : Nat} : ∀ m, (∀ j, j < m → nu j < N) → mxG nu c m < 2 ^ N
  | 0, _ => Nat.two_pow_pos N
  | m + 1, h => by
    show mxG nu c m ||| (if c.testBit m then 2 ^ nu m else 0) < 2 ^ N
    refine Nat.or_lt_two_pow (mxG_lt m (fun j hj => h j (by omega))) ?_
    split
    · exact Nat.pow_lt_pow_right (by decide) (h m (by omega))
    · exact Nat.two_pow_pos N
/-- how many of the first b boxes are there -/
def mxN (hr : Nat → Bool) : Nat → Nat
  | 0 => 0
  | b + 1 => mxN hr b + (if hr b then 1 else 0)
theorem mxN_le {hr : Nat → Bool} : ∀ b, mxN hr b ≤ b
  | 0 => Nat.le_refl _
  | b + 1 => by
    have := mxN_le (hr := hr) b
    show mxN hr b + (if hr b then 1 else 0) ≤ b + 1
    split <;> omega
theorem mxN_mo {hr : Nat → Bool} {a : Nat} : ∀ b, a ≤ b → mxN hr a ≤ mxN hr b
  | 0, h => by
    have : a = 0 := by omega
    subst this
    exact Nat.le_refl _
  | b + 1, h => by
    by_cases q : a = b + 1
    · subst q; exact Nat.le_refl _
    · have := mxN_mo (hr := hr) b (show a ≤ b by omega)
      show mxN hr a ≤ mxN hr b + (if hr b then 1 else 0)
      omega
def mxU (hr : Nat → Bool) (nu : Nat → Nat) (N : Nat) : Prop := ∀ b, b < N → hr b = true → nu (mxN hr b) = b
theorem mxU_lt {hr : Nat → Bool} {nu : Nat → Nat} {N : Nat} (hU : mxU hr nu N) : ∀ b, b ≤ N → ∀ j, j < mxN hr b → nu j < b
  | 0, _, j, hj => absurd hj (Nat.not_lt_zero _)
  | b + 1, hb, j, hj => by
    have hj : j < mxN hr b + (if hr b then 1 else 0) := hj
    by_cases q : j < mxN hr b
    · have := mxU_lt hU b (by omega) j q
      omega
    · by_cases e : hr b = true
      · rw [if_pos e] at hj
        have : j = mxN hr b := by omega
        subst this
        rw [hU b (by omega) e]
        omega
      · rw [if_neg e] at hj
        omega
/-- through all choices, or through those of boxes that are there -/
theorem mxM {f : Nat → Option (Int × Int)} {hr : Nat → Bool} {nu : Nat → Nat} {N : Nat} (hU : mxU hr nu N) (hf : ∀ s b, b < N → s.testBit b = true → ¬ hr b = true → f s = none) : ∀ b, b ≤ N → ∀ a x, mxF (fun k => f (2 ^ b * a + k)) x (2 ^ b) = mxF (fun c => f (2 ^ b * a + mxG nu c (mxN hr b))) x (2 ^ mxN hr b)
  | 0, _, a, x => rfl
  | b + 1, hb, a, x => by
    have e1 : 2 ^ (b + 1) * a = 2 ^ b * (2 * a) := by rw [Nat.pow_succ, Nat.mul_assoc]
    have e2 : 2 ^ (b + 1) * a + 2 ^ b = 2 ^ b * (2 * a + 1) := by rw [e1, Nat.mul_add, Nat.mul_one]
    have hl : ∀ c, mxG nu c (mxN hr b) < 2 ^ b := fun c => mxG_lt _ (mxU_lt hU b (by omega))
    have L : mxF (fun k => f (2 ^ (b + 1) * a + k)) x (2 ^ (b + 1)) = mxF (fun c => f (2 ^ b * (2 * a + 1) + mxG nu c (mxN hr b))) (mxF (fun c => f (2 ^ (b + 1) * a + mxG nu c (mxN hr b))) x (2 ^ mxN hr b)) (2 ^ mxN hr b) := by
      rw [show 2 ^ (b + 1) = 2 ^ b + 2 ^ b by rw [Nat.pow_succ]; omega, mxF_add, ← show 2 ^ (b + 1) = 2 ^ b + 2 ^ b by rw [Nat.pow_succ]; omega]
      rw [mxF_c (g := fun k => f (2 ^ b * (2 * a + 1) + k)) (2 ^ b) (fun k _ => by rw [← e2, Nat.add_assoc]), mxM hU hf b (by omega) (2 * a + 1)]
      rw [mxF_c (f := fun k => f (2 ^ (b + 1) * a + k)) (g := fun k => f (2 ^ b * (2 * a) + k)) (2 ^ b) (fun k _ => by rw [e1]), mxM hU hf b (by omega) (2 * a), e1]
    rw [L]
    by_cases c : hr b = true
    · have en : mxN hr (b + 1) = mxN hr b + 1 := by show mxN hr b + (if hr b then 1 else 0) = _; rw [if_pos c]
      rw [en, show 2 ^ (mxN hr b + 1) = 2 ^ mxN hr b + 2 ^ mxN hr b by rw [Nat.pow_succ]; omega, mxF_add]
      have s1 : ∀ k, k < 2 ^ mxN hr b → mxG nu k (mxN hr b + 1) = mxG nu k (mxN hr b) := fun k hk => by
        show mxG nu k (mxN hr b) ||| (if k.testBit (mxN hr b) then 2 ^ nu (mxN hr b) else 0) = _
        rw [Nat.testBit_lt_two_pow hk, if_neg (by decide), Nat.or_zero]
      have s2 : ∀ k, k < 2 ^ mxN hr b → mxG nu (2 ^ mxN hr b + k) (mxN hr b + 1) = 2 ^ b + mxG nu k (mxN hr b) := fun k hk => by
        show mxG nu (2 ^ mxN hr b + k) (mxN hr b) ||| (if (2 ^ mxN hr b + k).testBit (mxN hr b) then 2 ^ nu (mxN hr b) else 0) = _
        rw [Nat.testBit_two_pow_add_eq, Nat.testBit_lt_two_pow hk, Bool.not_false, if_pos rfl, hU b (by omega) c, mxG_c (c' := k) _ (fun j hj => Nat.testBit_two_pow_add_gt hj k)]
        have := Nat.two_pow_add_eq_or_of_lt (hl k) 1
        rw [Nat.mul_one] at this
        rw [this, Nat.or_comm]
      rw [mxF_c (f := fun c => f (2 ^ (b + 1) * a + mxG nu c (mxN hr b))) (g := fun c => f (2 ^ (b + 1) * a + mxG nu c (mxN hr b + 1))) (2 ^ mxN hr b) (fun k hk => by rw [s1 k hk])]
      refine mxF_c (2 ^ mxN hr b) (fun k hk => ?_)
      show f (2 ^ b * (2 * a + 1) + mxG nu k (mxN hr b)) = f (2 ^ (b + 1) * a + mxG nu (2 ^ mxN hr b + k) (mxN hr b + 1))
      rw [s2 k hk, ← e2, Nat.add_assoc]
    · have en : mxN hr (b + 1) = mxN hr b := by show mxN hr b + (if hr b then 1 else 0) = _; rw [if_neg c]; rfl
      rw [en]
      refine mxF_n _ (fun k hk => hf _ b (by omega) ?_ c)
      rw [Nat.testBit_two_pow_mul_add _ (hl k), if_neg (Nat.lt_irrefl _), Nat.sub_self, Nat.testBit_zero]
      simp
/-- the boxes of the choice s, weighed -/
def mxW (w : Nat → Int) (s : Nat) : Nat → Int
  | 0 => 0
  | n + 1 => mxW w s n + (if s.testBit n then w n else 0)
theorem mxW_s {w : Nat → Int} {s n : Nat} : mxW w s (n + 1) = mxW w s n + (if s.testBit n then w n else 0) := rfl
theorem mxW_c {w v : Nat → Int} {s s' : Nat} : ∀ n, (∀ j, j < n → s.testBit j = s'.testBit j ∧ w j = v j) → mxW w s n = mxW v s' n
  | 0, _ => rfl
  | n + 1, h => by
    rw [mxW_s, mxW_s, (h n (by omega)).1, (h n (by omega)).2, mxW_c n (fun j hj => h j (by omega))]
theorem mxW_b {w : Nat → Int} {s : Nat} {B : Int} : ∀ n, (∀ j, j < n → 0 ≤ w j ∧ w j ≤ B) → 0 ≤ mxW w s n ∧ mxW w s n ≤ B * n
  | 0, _ => by simp [mxW]
  | n + 1, h => by
    have r := mxW_b (s := s) n (fun j hj => h j (by omega))
    have b := h n (by omega)
    rw [mxW_s, show ((n + 1 : Nat) : Int) = n + 1 by omega, Int.mul_add, Int.mul_one]
    split <;> omega
theorem mxW_m {w v : Nat → Int} {s : Nat} : ∀ n, (∀ j, j < n → w j ≤ v j ∧ 0 ≤ v j) → mxW w s n ≤ mxW v (2 ^ n - 1) n
  | 0, _ => Int.le_refl _
  | n + 1, h => by
    have r := mxW_m (s := s) n (fun j hj => h j (by omega))
    have b := h n (by omega)
    have e : mxW v (2 ^ n - 1) n = mxW v (2 ^ (n + 1) - 1) n := mxW_c n (fun j hj => ⟨by
      rw [Nat.testBit_two_pow_sub_one, Nat.testBit_two_pow_sub_one]
      simp [hj, show j < n + 1 by omega], rfl⟩)
    have t : (2 ^ (n + 1) - 1).testBit n = true := by rw [Nat.testBit_two_pow_sub_one]; simp
    rw [mxW_s, mxW_s, ← e, t, if_pos rfl]
    split <;> omega
theorem mxW_l {w v : Nat → Int} {s : Nat} (a : Int) : ∀ n, (∀ j, j < n → v j = a * w j) → mxW v s n = a * mxW w s n
  | 0, _ => by simp [mxW]
  | n + 1, h => by
    rw [mxW_s, mxW_s, mxW_l a n (fun j hj => h j (by omega)), h n (by omega), Int.mul_add]
    split <;> simp
theorem mxW_g {w : Nat → Int} {hr : Nat → Bool} {nu : Nat → Nat} {N c : Nat} (hU : mxU hr nu N) : ∀ b, b ≤ N → mxW w (mxG nu c (mxN hr b)) b = mxW (fun j => w (nu j)) c (mxN hr b)
  | 0, _ => rfl
  | b + 1, hb => by
    have hl : mxG nu c (mxN hr b) < 2 ^ b := mxG_lt _ (mxU_lt hU b (by omega))
    rw [mxW_s]
    by_cases e : hr b = true
    · have en : mxN hr (b + 1) = mxN hr b + 1 := by show mxN hr b + (if hr b then 1 else 0) = _; rw [if_pos e]
      have eg : mxG nu c (mxN hr b + 1) = mxG nu c (mxN hr b) ||| (if c.testBit (mxN hr b) then 2 ^ b else 0) := by
        show mxG nu c (mxN hr b) ||| (if c.testBit (mxN hr b) then 2 ^ nu (mxN hr b) else 0) = _
        rw [hU b (by omega) e]
      rw [en, eg, mxW_s, ← mxW_g hU b (by omega), hU b (by omega) e]
      have a1 : mxW w (mxG nu c (mxN hr b) ||| (if c.testBit (mxN hr b) then 2 ^ b else 0)) b = mxW w (mxG nu c (mxN hr b)) b := mxW_c b (fun j hj => ⟨by
        rw [Nat.testBit_or]
        split
        · rw [Nat.testBit_two_pow_of_ne (by omega), Bool.or_false]
        · rw [Nat.zero_testBit, Bool.or_false], rfl⟩)
      have a2 : (mxG nu c (mxN hr b) ||| (if c.testBit (mxN hr b) then 2 ^ b else 0)).testBit b = c.testBit (mxN hr b) := by
        rw [Nat.testBit_or, Nat.testBit_lt_two_pow hl, Bool.false_or]
        cases q : c.testBit (mxN hr b)
        · rw [if_neg (by decide), Nat.zero_testBit]
        · rw [if_pos rfl, Nat.testBit_two_pow_self]
      rw [a1, a2]
    · have en : mxN hr (b + 1) = mxN hr b := by show mxN hr b + (if hr b then 1 else 0) = _; rw [if_neg e]; rfl
      rw [en, Nat.testBit_lt_two_pow hl, if_neg (by decide), Int.add_zero, mxW_g hU b (by omega)]
/-- two halves -/
theorem mxW_2 {w : Nat → Int} {h l lo : Nat} (hl : l < 2 ^ lo) : ∀ hi, mxW w (2 ^ lo * h + l) (lo + hi) = mxW w l lo + mxW (fun j => w (lo + j)) h hi
  | 0 => by
    rw [Nat.add_zero, show mxW (fun j => w (lo + j)) h 0 = 0 from rfl, Int.add_zero]
    exact mxW_c lo (fun j hj => ⟨by rw [Nat.testBit_two_pow_mul_add _ hl, if_pos hj], rfl⟩)
  | hi + 1 => by
    have t : (2 ^ lo * h + l).testBit (lo + hi) = h.testBit hi := by rw [Nat.testBit_two_pow_mul_add _ hl, if_neg (by omega), show lo + hi - lo = hi by omega]
    rw [← Nat.add_assoc, mxW_s, mxW_s, mxW_2 hl hi, t, Int.add_assoc]
/-- a table doubled -/
theorem mxW_d {w : Nat → Int} {x n : Nat} (hx : x < 2 ^ n) : mxW w (2 ^ n + x) (n + 1) = mxW w x n + w n := by
  rw [mxW_s, Nat.testBit_two_pow_add_eq, Nat.testBit_lt_two_pow hx, Bool.not_false, if_pos rfl, mxW_c (s' := x) (v := w) n (fun j hj => ⟨Nat.testBit_two_pow_add_gt hj x, rfl⟩)]
theorem mxW_e {w : Nat → Int} {x n : Nat} (hx : x < 2 ^ n) : mxW w x (n + 1) = mxW w x n := by
  rw [mxW_s, Nat.testBit_lt_two_pow hx, if_neg (by decide), Int.add_zero]
/-! bits of ints -/
theorem bA_1 {x : Int} {k : Nat} (hx : 0 ≤ x ∧ x ≤ 2147483647) (hk : k < 31) : bA (bR x k) 1 = if x.toNat.testBit k then 1 else 0 := by
  have b := Nat.div_le_self x.toNat (2 ^ k)
  rw [bR_n hx hk, Nat.testBit_eq_decide_div_mod_eq]
  generalize x.toNat / 2 ^ k = m at b ⊢
  rw [bA_n (by omega) (by omega), Int.toNat_natCast]
  have e : m &&& (1 : Int).toNat = m % 2 := Nat.and_one_is_mod m
  rw [e]
  by_cases c : m % 2 = 1
  · rw [c]; simp
  · rw [show m % 2 = 0 by omega]; simp
theorem bL_h : ∀ h : Fin 256, ∀ k : Fin 9, bL (h.val : Int) (k.val : Int) = ((2 ^ k.val * h.val : Nat) : Int) := by decide +kernel
theorem bL_z : ∀ k : Fin 31, bL 0 (k.val : Int) = 0 := by decide +kernel
/-- the boxes that are not there are not in the choice -/
theorem bX_s {s h : Int} (hs : 0 ≤ s ∧ s < 65536) (hh : 0 ≤ h ∧ h < 65536) : bA s (bX h (-1)) = 0 ↔ ∀ j : Nat, s.toNat.testBit j = true → h.toNat.testBit j = true := by
  have e : ∀ (b c : BitVec 32), (b &&& (c ^^^ (-1#32))).toInt = 0 ↔ ∀ j : Nat, j < 32 → b.getLsbD j = true → c.getLsbD j = true := by
    intro b c
    constructor
    · intro z j hj w
      have z0 : b &&& (c ^^^ (-1#32)) = 0#32 := by
        apply BitVec.eq_of_toInt_eq
        rw [z]; rfl
      have q : (b &&& (c ^^^ (-1#32))).getLsbD j = false := by rw [z0]; simp
      rw [BitVec.getLsbD_and, BitVec.getLsbD_xor, w] at q
      have t : (-1#32).getLsbD j = true := by
        have : ∀ i : Fin 32, (-1#32).getLsbD i.val = true := by decide
        exact this ⟨j, hj⟩
      rw [t] at q
      simpa using q
    · intro z
      have z0 : b &&& (c ^^^ (-1#32)) = 0#32 := by
        apply BitVec.eq_of_getLsbD_eq
        intro j hj
        rw [BitVec.getLsbD_and, BitVec.getLsbD_xor]
        have t : (-1#32).getLsbD j = true := by
          have : ∀ i : Fin 32, (-1#32).getLsbD i.val = true := by decide
          exact this ⟨j, hj⟩
        rw [t]
        cases q : b.getLsbD j
        · simp
        · rw [z j hj q]; simp
      rw [z0]; rfl
  have es : (Int32.ofInt s).toBitVec = BitVec.ofNat 32 s.toNat := by
    apply BitVec.eq_of_toNat_eq
    rw [i32_n (by omega), BitVec.toNat_ofNat]
    omega
  have eh : (Int32.ofInt h).toBitVec = BitVec.ofNat 32 h.toNat := by
    apply BitVec.eq_of_toNat_eq
    rw [i32_n (by omega), BitVec.toNat_ofNat]
    omega
  have ls : s.toNat < 2 ^ 16 := by omega
  have lk : ∀ (n : Nat), n < 2 ^ 16 → ∀ j, (BitVec.ofNat 32 n).getLsbD j = true ↔ n.testBit j = true := fun n hn j => by
    rw [BitVec.getLsbD_ofNat]
    by_cases hj : j < 32
    · simp [hj]
    · have : n.testBit j = false := Nat.testBit_lt_two_pow (Nat.lt_of_lt_of_le hn (Nat.pow_le_pow_right (by decide) (by omega)))
      simp [this]
  have e0 : bA s (bX h (-1)) = ((Int32.ofInt s).toBitVec &&& ((Int32.ofInt h).toBitVec ^^^ (-1#32))).toInt := by
    unfold bA bX
    rw [Int32.ofInt_toInt]
    rfl
  rw [e0, e, es, eh]
  constructor
  · intro z j hj
    have l : j < 32 := by
      by_cases q : j < 32
      · exact q
      · rw [Nat.testBit_lt_two_pow (Nat.lt_of_lt_of_le ls (Nat.pow_le_pow_right (by decide) (by omega)))] at hj
        cases hj
    exact (lk _ (by omega) j).1 (z j l ((lk _ (by omega) j).2 hj))
  · intro z j _ hj
    exact (lk _ (by omega) j).2 (z j ((lk _ (by omega) j).1 hj))
