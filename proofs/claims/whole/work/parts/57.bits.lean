/-! BITS -/
theorem i32_n {x : Int} (h : 0 ≤ x ∧ x ≤ 2147483647) : (Int32.ofInt x).toBitVec.toNat = x.toNat := by
  show (BitVec.ofInt 32 x).toNat = x.toNat
  rw [BitVec.toNat_ofInt]
  omega
theorem bv_i {b : BitVec 32} (h : b.toNat < 2147483648) : b.toInt = (b.toNat : Int) := BitVec.toInt_eq_toNat_of_lt (by omega)
theorem bA_n {x y : Int} (hx : 0 ≤ x ∧ x ≤ 2147483647) (hy : 0 ≤ y ∧ y ≤ 2147483647) : bA x y = ((x.toNat &&& y.toNat : Nat) : Int) := by
  have e : (Int32.ofInt x &&& Int32.ofInt y).toBitVec.toNat = x.toNat &&& y.toNat := by
    rw [Int32.toBitVec_and, BitVec.toNat_and, i32_n hx, i32_n hy]
  have l : x.toNat &&& y.toNat ≤ x.toNat := Nat.and_le_left
  show (Int32.ofInt x &&& Int32.ofInt y).toBitVec.toInt = _
  rw [bv_i (by rw [e]; omega), e]
theorem bO_n {x y : Int} (hx : 0 ≤ x ∧ x ≤ 2147483647) (hy : 0 ≤ y ∧ y ≤ 2147483647) : bO x y = ((x.toNat ||| y.toNat : Nat) : Int) := by
  have e : (Int32.ofInt x ||| Int32.ofInt y).toBitVec.toNat = x.toNat ||| y.toNat := by
    rw [Int32.toBitVec_or, BitVec.toNat_or, i32_n hx, i32_n hy]
  have l : x.toNat ||| y.toNat < 2 ^ 31 := Nat.or_lt_two_pow (by omega) (by omega)
  show (Int32.ofInt x ||| Int32.ofInt y).toBitVec.toInt = _
  rw [bv_i (by rw [e]; omega), e]
theorem bL_1 : ∀ k : Fin 31, bL 1 (k.val : Int) = ((2 ^ k.val : Nat) : Int) := by decide +kernel
theorem bL1 {k : Nat} (h : k < 31) : bL 1 k = ((2 ^ k : Nat) : Int) := bL_1 ⟨k, h⟩
theorem bO_16 {x : Int} {k : Nat} (hx : 0 ≤ x ∧ x < 65536) (hk : k < 16) : bO x (bL 1 k) = ((x.toNat ||| 2 ^ k : Nat) : Int) ∧ 0 ≤ bO x (bL 1 k) ∧ bO x (bL 1 k) < 65536 := by
  have p : 2 ^ k < 2 ^ 16 := Nat.pow_lt_pow_right (by decide) hk
  have e1 := bL1 (show k < 31 by omega)
  generalize 2 ^ k = m at p e1
  have e : bO x (bL 1 k) = ((x.toNat ||| m : Nat) : Int) := by
    rw [e1, bO_n (by omega) (by omega), Int.toNat_natCast]
  have l : x.toNat ||| m < 2 ^ 16 := Nat.or_lt_two_pow (by omega) p
  rw [e]
  refine ⟨rfl, by omega, by omega⟩
/-- what the class cuts out of four bytes, and the model -/
theorem byte_same (x : Int) (s : Int) (hs : s = 24 ∨ s = 16 ∨ s = 8 ∨ s = 0) : bA (bU x s) 255 = bA (bR x s) 255 := by
  have key : ∀ (b : BitVec 32) (s : Nat), s = 24 ∨ s = 16 ∨ s = 8 ∨ s = 0 → (b >>> s) &&& 255#32 = (b.sshiftRight s) &&& 255#32 := by
    intro b s hs
    apply BitVec.eq_of_getLsbD_eq
    intro i hi
    rw [BitVec.getLsbD_and, BitVec.getLsbD_and, BitVec.getLsbD_ushiftRight, BitVec.getLsbD_sshiftRight]
    by_cases h8 : i < 8
    · have : s + i < 32 := by omega
      simp [this, hi, show ¬ 32 ≤ i by omega]
    · have z : (255#32).getLsbD i = false := by
        have : ∀ i : Fin 32, ¬ i.val < 8 → (255#32).getLsbD i.val = false := by decide
        exact this ⟨i, hi⟩ h8
      rw [z, Bool.and_false, Bool.and_false]
  have k24 : ∀ X : Int32, ((X.toUInt32 >>> (Int32.toUInt32 24 &&& Int32.toUInt32 31)).toInt32 &&& (255 : Int32)) = ((X >>> ((24 : Int32) &&& (31 : Int32))) &&& (255 : Int32)) := fun X => Int32.toBitVec_inj.mp (show ((X.toUInt32 >>> (Int32.toUInt32 24 &&& Int32.toUInt32 31)).toInt32 &&& (255 : Int32)).toBitVec = ((X >>> ((24 : Int32) &&& (31 : Int32))) &&& (255 : Int32)).toBitVec from key X.toBitVec 24 (by decide))
  have k16 : ∀ X : Int32, ((X.toUInt32 >>> (Int32.toUInt32 16 &&& Int32.toUInt32 31)).toInt32 &&& (255 : Int32)) = ((X >>> ((16 : Int32) &&& (31 : Int32))) &&& (255 : Int32)) := fun X => Int32.toBitVec_inj.mp (show ((X.toUInt32 >>> (Int32.toUInt32 16 &&& Int32.toUInt32 31)).toInt32 &&& (255 : Int32)).toBitVec = ((X >>> ((16 : Int32) &&& (31 : Int32))) &&& (255 : Int32)).toBitVec from key X.toBitVec 16 (by decide))
  have k8 : ∀ X : Int32, ((X.toUInt32 >>> (Int32.toUInt32 8 &&& Int32.toUInt32 31)).toInt32 &&& (255 : Int32)) = ((X >>> ((8 : Int32) &&& (31 : Int32))) &&& (255 : Int32)) := fun X => Int32.toBitVec_inj.mp (show ((X.toUInt32 >>> (Int32.toUInt32 8 &&& Int32.toUInt32 31)).toInt32 &&& (255 : Int32)).toBitVec = ((X >>> ((8 : Int32) &&& (31 : Int32))) &&& (255 : Int32)).toBitVec from key X.toBitVec 8 (by decide))
  have k0 : ∀ X : Int32, ((X.toUInt32 >>> (Int32.toUInt32 0 &&& Int32.toUInt32 31)).toInt32 &&& (255 : Int32)) = ((X >>> ((0 : Int32) &&& (31 : Int32))) &&& (255 : Int32)) := fun X => Int32.toBitVec_inj.mp (show ((X.toUInt32 >>> (Int32.toUInt32 0 &&& Int32.toUInt32 31)).toInt32 &&& (255 : Int32)).toBitVec = ((X >>> ((0 : Int32) &&& (31 : Int32))) &&& (255 : Int32)).toBitVec from key X.toBitVec 0 (by decide))
  unfold bA bU bR
  rw [Int32.ofInt_toInt, Int32.ofInt_toInt]
  rcases hs with rfl | rfl | rfl | rfl
  · exact congrArg Int32.toInt (k24 _)
  · exact congrArg Int32.toInt (k16 _)
  · exact congrArg Int32.toInt (k8 _)
  · exact congrArg Int32.toInt (k0 _)
