section
set_option maxRecDepth 100000 in
theorem ev_168_1 {dp : Nat} {e : EN} {I : JI} {L : JI} {i1 : Int} {i2 : Int} {i3 : Int} {P_ : (Int × JI × JI) → Prop} (h : Ev (fun n => (if -2147483648 ≤ (I 81 6) + (I 81 7) ∧ (I 81 6) + (I 81 7) ≤ 2147483647 then (if ((I 81 6) + (I 81 7)) ≤ i3 then (some ((i2 : Int), I, L)) else (if 0 ≤ i3 ∧ i3 < 16 then (stI (bO i2 (bL (bA (bR i1 i3) 1) (I 82 i3))) (fun v_31 => (if -2147483648 ≤ i3 + 1 ∧ i3 + 1 ≤ 2147483647 then (kf_168 n dp e 1 I L i1 v_31 (i3 + 1)) else none))) else none)) else none)) P_) : Ev (fun n => kf_168 n dp e 1 I L i1 i2 i3) P_ := Ev_step (fun n => ke_168_1 n dp e I L i1 i2 i3) h
set_option maxRecDepth 100000 in
theorem ev_168_0 {dp : Nat} {e : EN} {I : JI} {L : JI} {i1 : Int} {i2 : Int} {i3 : Int} {P_ : (Int × JI × JI) → Prop} (h : Ev (fun n => (kf_168 n dp e 1 I L i1 0 0)) P_) : Ev (fun n => kf_168 n dp e 0 I L i1 i2 i3) P_ := Ev_step (fun n => ke_168_0 n dp e I L i1 i2 i3) h
end
/-! MIX: the class seeks -/
/-- the boxes that are there, as bits -/
def mxH (hr : Nat → Bool) : Nat → Nat
  | 0 => 0
  | b + 1 => mxH hr b ||| (if hr b then 2 ^ b else 0)
theorem mxH_lt {hr : Nat → Bool} : ∀ b N, b ≤ N → mxH hr b < 2 ^ N
  | 0, N, _ => Nat.two_pow_pos N
  | b + 1, N, h => by
    show mxH hr b ||| (if hr b then 2 ^ b else 0) < 2 ^ N
    refine Nat.or_lt_two_pow (mxH_lt b N (by omega)) ?_
    split
    · exact Nat.pow_lt_pow_right (by decide) (by omega)
    · exact Nat.two_pow_pos N
theorem mxH_t {hr : Nat → Bool} {j : Nat} : ∀ b, (mxH hr b).testBit j = true ↔ j < b ∧ hr j = true
  | 0 => by rw [show mxH hr 0 = 0 from rfl, Nat.zero_testBit]; simp
  | b + 1 => by
    show (mxH hr b ||| (if hr b then 2 ^ b else 0)).testBit j = true ↔ _
    rw [Nat.testBit_or, Bool.or_eq_true, mxH_t b]
    by_cases e : hr b = true
    · rw [if_pos e, Nat.testBit_two_pow]
      by_cases q : b = j
      · subst q; simp [e]
      · simp [q]; omega
    · rw [if_neg e, Nat.zero_testBit]
      constructor
      · rintro (⟨a, c⟩ | c)
        · exact ⟨by omega, c⟩
        · cases c
      · rintro ⟨a, c⟩
        by_cases q : j = b
        · subst q; exact absurd c e
        · exact Or.inl ⟨by omega, c⟩
theorem nSub {s h : Nat} : s &&& h = s ↔ ∀ j, s.testBit j = true → h.testBit j = true := by
  constructor
  · intro e j hj
    have := congrArg (fun x => x.testBit j) e
    rw [Nat.testBit_and, hj] at this
    simpa using this
  · intro e
    apply Nat.eq_of_testBit_eq
    intro j
    rw [Nat.testBit_and]
    cases q : s.testBit j
    · rfl
    · rw [e j q]; rfl
theorem mxG_t {hr : Nat → Bool} {nu : Nat → Nat} {N c j : Nat} (hU : mxU hr nu N) : ∀ b, b ≤ N → (mxG nu c (mxN hr b)).testBit j = true → j < b ∧ hr j = true
  | 0, _, h => by rw [show mxG nu c (mxN hr 0) = 0 from rfl, Nat.zero_testBit] at h; cases h
  | b + 1, hb, h => by
    by_cases e : hr b = true
    · have en : mxN hr (b + 1) = mxN hr b + 1 := by show mxN hr b + (if hr b then 1 else 0) = _; rw [if_pos e]
      rw [en] at h
      have h : (mxG nu c (mxN hr b) ||| (if c.testBit (mxN hr b) then 2 ^ nu (mxN hr b) else 0)).testBit j = true := h
      rw [hU b (by omega) e, Nat.testBit_or, Bool.or_eq_true] at h
      rcases h with h | h
      · have := mxG_t hU b (by omega) h
        exact ⟨by omega, this.2⟩
      · split at h
        · rw [Nat.testBit_two_pow] at h
          have : b = j := by simpa using h
          subst this
          exact ⟨by omega, e⟩
        · rw [Nat.zero_testBit] at h; cases h
    · have en : mxN hr (b + 1) = mxN hr b := by show mxN hr b + (if hr b then 1 else 0) = _; rw [if_neg e]; rfl
      rw [en] at h
      have := mxG_t hU b (by omega) h
      exact ⟨by omega, this.2⟩
/-- what the choice s brings, if it is a mix -/
def mxV (f t a W V : Int) (s : Nat) : Option (Int × Int) := if (f ≤ W ∧ W ≤ t) ∧ W * a ≤ V then some (V - W * a, (s : Int)) else none
def mxE (ρ : Int → Int) (f t a : Int) (s : Nat) : Option (Int × Int) := if s &&& mxH (bxH ρ) (ρ 6).toNat = s then mxV f t a (mxW (bxW ρ) s (ρ 6).toNat) (mxW (bxL ρ) s (ρ 6).toNat) s else none
/-- the class's choice number c -/
def mxD (ρ : Int → Int) (nu : Nat → Nat) (f t a : Int) (c : Nat) : Option (Int × Int) := mxV f t a (mxW (fun j => bxW ρ (nu j)) c (mxN (bxH ρ) (ρ 6).toNat)) (mxW (fun j => bxL ρ (nu j)) c (mxN (bxH ρ) (ρ 6).toNat)) (mxG nu c (mxN (bxH ρ) (ρ 6).toNat))
theorem mxE_D {ρ : Int → Int} {nu : Nat → Nat} {f t a : Int} {x : Int × Int × Int} (hU : mxU (bxH ρ) nu (ρ 6).toNat) : mxF (mxD ρ nu f t a) x (2 ^ mxN (bxH ρ) (ρ 6).toNat) = mxF (mxE ρ f t a) x (2 ^ (ρ 6).toNat) := by
  have h := mxM (f := mxE ρ f t a) hU (fun s b hb hs hn => by
    unfold mxE
    rw [if_neg]
    intro z
    exact hn (mxH_t (ρ 6).toNat |>.1 (nSub.1 z b hs)).2) (ρ 6).toNat (Nat.le_refl _) 0 x
  rw [Nat.mul_zero] at h
  have h2 : mxF (mxE ρ f t a) x (2 ^ (ρ 6).toNat) = mxF (fun k => mxE ρ f t a (0 + k)) x (2 ^ (ρ 6).toNat) := mxF_c _ (fun k _ => by rw [Nat.zero_add])
  rw [h2, h]
  refine mxF_c _ (fun c _ => ?_)
  rw [Nat.zero_add]
  unfold mxE mxD
  rw [if_pos (nSub.2 (fun j hj => mxH_t _ |>.2 (mxG_t hU _ (Nat.le_refl _) hj))), mxW_g hU _ (Nat.le_refl _), mxW_g hU _ (Nat.le_refl _)]
/-- what the class's three cells say -/
def mxQ (J : JI) (x : Int × Int × Int) : Prop := J 81 12 = x.1 ∧ J 81 13 = x.2.1 ∧ J 81 14 = x.2.2
theorem mxF_b {f : Nat → Option (Int × Int)} {x : Int × Int × Int} (h : ∀ k v, f k = some v → 0 ≤ v.1 ∧ v.1 ≤ 1000000 ∧ 0 ≤ v.2 ∧ v.2 ≤ 65535) : ∀ n, 0 ≤ (mxF f x n).1 - x.1 ∧ (mxF f x n).1 - x.1 ≤ n ∧ ((mxF f x n).2 = x.2 ∨ (0 ≤ (mxF f x n).2.1 ∧ (mxF f x n).2.1 ≤ 1000000 ∧ 0 ≤ (mxF f x n).2.2 ∧ (mxF f x n).2.2 ≤ 65535))
  | 0 => ⟨by show 0 ≤ x.1 - x.1; omega, by show x.1 - x.1 ≤ 0; omega, Or.inl rfl⟩
  | n + 1 => by
    have r := mxF_b (x := x) h n
    have e1 : mxF f x (n + 1) = mxS (mxF f x n) (f n) := rfl
    rw [e1]
    generalize mxF f x n = y at r ⊢
    cases e : f n with
    | none =>
      show 0 ≤ y.1 - x.1 ∧ y.1 - x.1 ≤ ((n + 1 : Nat) : Int) ∧ (y.2 = x.2 ∨ (0 ≤ y.2.1 ∧ y.2.1 ≤ 1000000 ∧ 0 ≤ y.2.2 ∧ y.2.2 ≤ 65535))
      exact ⟨r.1, by have := r.2.1; omega, r.2.2⟩
    | some v =>
      have b := h n v e
      have e2 : mxS y (some v) = (y.1 + 1, if v.1 < y.2.1 then v else y.2) := rfl
      rw [e2]
      by_cases c : v.1 < y.2.1
      · rw [if_pos c]
        exact ⟨by show 0 ≤ y.1 + 1 - x.1; omega, by show y.1 + 1 - x.1 ≤ ((n + 1 : Nat) : Int); omega, Or.inr b⟩
      · rw [if_neg c]
        exact ⟨by show 0 ≤ y.1 + 1 - x.1; omega, by show y.1 + 1 - x.1 ≤ ((n + 1 : Nat) : Int); omega, r.2.2⟩
/-- the reference begins with no choice, the class with none taken -/
theorem mxF_0 {f : Nat → Option (Int × Int)} {B : Int} (h : ∀ k v, f k = some v → v.1 < B ∧ 0 ≤ v.2) : ∀ n, (mxF f (0, B, -1) n = (0, B, -1) ∧ mxF f (0, B, 0) n = (0, B, 0)) ∨ (mxF f (0, B, -1) n = mxF f (0, B, 0) n ∧ 0 < (mxF f (0, B, 0) n).1 ∧ 0 ≤ (mxF f (0, B, 0) n).2.2)
  | 0 => Or.inl ⟨rfl, rfl⟩
  | n + 1 => by
    have r := mxF_0 h n
    show (mxS (mxF f (0, B, -1) n) (f n) = _ ∧ mxS (mxF f (0, B, 0) n) (f n) = _) ∨ (mxS (mxF f (0, B, -1) n) (f n) = mxS (mxF f (0, B, 0) n) (f n) ∧ 0 < (mxS (mxF f (0, B, 0) n) (f n)).1 ∧ 0 ≤ (mxS (mxF f (0, B, 0) n) (f n)).2.2)
    cases e : f n with
    | none => exact r
    | some v =>
      have b := h n v e
      refine Or.inr ?_
      rcases r with ⟨r1, r2⟩ | ⟨r1, r2, r3⟩
      · rw [r1, r2]
        show (0 + 1, if v.1 < B then v else _) = (0 + 1, if v.1 < B then v else _) ∧ (0 : Int) < 0 + 1 ∧ 0 ≤ (if v.1 < B then v else _).2
        rw [if_pos b.1, if_pos b.1]
        exact ⟨rfl, by omega, b.2⟩
      · rw [r1]
        refine ⟨rfl, by show (0 : Int) < (mxF f (0, B, 0) n).1 + 1; omega, ?_⟩
        show 0 ≤ (if v.1 < (mxF f (0, B, 0) n).2.1 then v else (mxF f (0, B, 0) n).2).2
        split
        · exact b.2
        · exact r3
theorem K168 {dp : Nat} {e : EN} {J L : JI} {nu : Nat → Nat} {c lo hi : Nat} (h6 : J 81 6 = lo) (h7 : J 81 7 = hi) (hm : lo + hi ≤ 16) (h82 : ∀ j : Nat, j < lo + hi → J 82 j = nu j ∧ nu j < 16) (hc : c < 65536) : Ev (fun n => kf_168 n dp e 0 J L c 0 0) (fun r => r = (((mxG nu c (lo + hi) : Nat) : Int), J, L)) := by
  have key : ∀ i : Nat, i ≤ lo + hi → Ev (fun n => kf_168 n dp e 1 J L c ((mxG nu c i : Nat) : Int) i) (fun r => r = (((mxG nu c (lo + hi) : Nat) : Int), J, L)) := by
    refine dec_ind (lo + hi) (fun i hi' ih => ?_)
    refine ev_168_1 ?_
    rw [h6, h7]
    refine Ev_t (by omega) ?_
    by_cases ci : i < lo + hi
    · have ih := ih ci
      obtain ⟨n1, n2⟩ := h82 i ci
      have gl : mxG nu c i < 2 ^ 16 := mxG_lt i (fun j hj => (h82 j (by omega)).2)
      refine Ev_f (by omega) (Ev_t (by omega) ?_)
      rw [n1, bA_1 (by omega) (by omega), Int.toNat_natCast]
      have e2 : bO ((mxG nu c i : Nat) : Int) (bL (if c.testBit i then 1 else 0) (nu i : Int)) = ((mxG nu c (i + 1) : Nat) : Int) := by
        show _ = ((mxG nu c i ||| (if c.testBit i then 2 ^ nu i else 0) : Nat) : Int)
        by_cases q : c.testBit i = true
        · rw [if_pos q, if_pos q, (bO_16 (by omega) n2).1, Int.toNat_natCast]
        · rw [if_neg q, if_neg q, bL_z ⟨nu i, by omega⟩, bO_n (by omega) (by omega), Int.toNat_natCast]
          rfl
      rw [e2]
      refine Ev_st (Ev_t (by omega) ?_)
      rw [show (i : Int) + 1 = ((i + 1 : Nat) : Int) by omega]
      exact ih
    · have : i = lo + hi := by omega
      subst this
      exact Ev_t (by omega) (Ev_ret rfl)
  refine ev_168_0 ?_
  exact key 0 (by omega)
