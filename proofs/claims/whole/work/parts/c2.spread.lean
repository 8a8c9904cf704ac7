section
set_option maxRecDepth 100000 in
theorem ev_98_2 {dp : Nat} {e : EN} {I : JI} {L : JI} {i1 : Int} {i2 : Int} {i5 : Int} {i6 : Int} {i7 : Int} {i8 : Int} {i9 : Int} {i10 : Int} {i11 : Int} {a3 : Nat} {a4 : Nat} {P_ : (JI × JI) → Prop} (h : Ev (fun n => (if 0 ≤ i1 ∧ i1 < 5 then (if (I 35 i1) < i11 then (if -2147483648 ≤ i7 + 1 ∧ i7 + 1 ≤ 2147483647 then (kf_98 n dp e 1 I L i1 i2 i5 i6 (i7 + 1) 0 0 0 0 a3 a4) else none) else (if 0 ≤ i1 ∧ i1 < 5 then (if i11 = 0 then (if (-2147483648 ≤ i10 + 15 ∧ i10 + 15 ≤ 2147483647) ∧ (-2147483648 ≤ (i10 + 15) - (I 35 i1) ∧ (i10 + 15) - (I 35 i1) ≤ 2147483647) ∧ (-2147483648 ≤ ((i10 + 15) - (I 35 i1)) + i11 ∧ ((i10 + 15) - (I 35 i1)) + i11 ≤ 2147483647) then (if ((a3 < e.1) ∧ (((e.2.1 a3).1 = 13) ∧ ((e.2.1 a3).2 < (2 ^ 31)))) ∧ (0 ≤ (((i10 + 15) - (I 35 i1)) + i11) ∧ (((i10 + 15) - (I 35 i1)) + i11) < (((e.2.1 a3).2 : Nat) : Int)) then (stI (w2 I a3 (((i10 + 15) - (I 35 i1)) + i11) i8) (fun I_144 => (if 0 ≤ i1 ∧ i1 < 5 then (if i11 = 0 then (if (-2147483648 ≤ (i10 + 15) - (I_144 35 i1) ∧ (i10 + 15) - (I_144 35 i1) ≤ 2147483647) ∧ (-2147483648 ≤ ((i10 + 15) - (I_144 35 i1)) + i11 ∧ ((i10 + 15) - (I_144 35 i1)) + i11 ≤ 2147483647) then (if ((a4 < e.1) ∧ (((e.2.1 a4).1 = 13) ∧ ((e.2.1 a4).2 < (2 ^ 31)))) ∧ (0 ≤ (((i10 + 15) - (I_144 35 i1)) + i11) ∧ (((i10 + 15) - (I_144 35 i1)) + i11) < (((e.2.1 a4).2 : Nat) : Int)) then (stI (w2 I_144 a4 (((i10 + 15) - (I_144 35 i1)) + i11) i9) (fun I_184 => (if -2147483648 ≤ i11 + 1 ∧ i11 + 1 ≤ 2147483647 then (kf_98 n dp e 2 I_184 L i1 i2 i5 i6 i7 i8 i9 i10 (i11 + 1) a3 a4) else none))) else none) else none) else (if 0 ≤ i1 ∧ i1 < 5 then (if (-2147483648 ≤ (i10 + 15) - (I_144 35 i1) ∧ (i10 + 15) - (I_144 35 i1) ≤ 2147483647) ∧ (-2147483648 ≤ ((i10 + 15) - (I_144 35 i1)) + i11 ∧ ((i10 + 15) - (I_144 35 i1)) + i11 ≤ 2147483647) then (if ((a4 < e.1) ∧ (((e.2.1 a4).1 = 13) ∧ ((e.2.1 a4).2 < (2 ^ 31)))) ∧ (0 ≤ (((i10 + 15) - (I_144 35 i1)) + i11) ∧ (((i10 + 15) - (I_144 35 i1)) + i11) < (((e.2.1 a4).2 : Nat) : Int)) then (if (-2147483648 ≤ i11 * (I_144 37 i1) ∧ i11 * (I_144 37 i1) ≤ 2147483647) ∧ (-2147483648 ≤ i9 + (i11 * (I_144 37 i1)) ∧ i9 + (i11 * (I_144 37 i1)) ≤ 2147483647) then (stI (w2 I_144 a4 (((i10 + 15) - (I_144 35 i1)) + i11) (i9 + (i11 * (I_144 37 i1)))) (fun I_184 => (if -2147483648 ≤ i11 + 1 ∧ i11 + 1 ≤ 2147483647 then (kf_98 n dp e 2 I_184 L i1 i2 i5 i6 i7 i8 i9 i10 (i11 + 1) a3 a4) else none))) else none) else none) else none) else none)) else none))) else none) else none) else (if 0 ≤ i1 ∧ i1 < 5 then (if (-2147483648 ≤ i10 + 15 ∧ i10 + 15 ≤ 2147483647) ∧ (-2147483648 ≤ (i10 + 15) - (I 35 i1) ∧ (i10 + 15) - (I 35 i1) ≤ 2147483647) ∧ (-2147483648 ≤ ((i10 + 15) - (I 35 i1)) + i11 ∧ ((i10 + 15) - (I 35 i1)) + i11 ≤ 2147483647) then (if ((a3 < e.1) ∧ (((e.2.1 a3).1 = 13) ∧ ((e.2.1 a3).2 < (2 ^ 31)))) ∧ (0 ≤ (((i10 + 15) - (I 35 i1)) + i11) ∧ (((i10 + 15) - (I 35 i1)) + i11) < (((e.2.1 a3).2 : Nat) : Int)) then (if (-2147483648 ≤ i11 * (I 36 i1) ∧ i11 * (I 36 i1) ≤ 2147483647) ∧ (-2147483648 ≤ i8 + (i11 * (I 36 i1)) ∧ i8 + (i11 * (I 36 i1)) ≤ 2147483647) then (stI (w2 I a3 (((i10 + 15) - (I 35 i1)) + i11) (i8 + (i11 * (I 36 i1)))) (fun I_144 => (if 0 ≤ i1 ∧ i1 < 5 then (if i11 = 0 then (if (-2147483648 ≤ (i10 + 15) - (I_144 35 i1) ∧ (i10 + 15) - (I_144 35 i1) ≤ 2147483647) ∧ (-2147483648 ≤ ((i10 + 15) - (I_144 35 i1)) + i11 ∧ ((i10 + 15) - (I_144 35 i1)) + i11 ≤ 2147483647) then (if ((a4 < e.1) ∧ (((e.2.1 a4).1 = 13) ∧ ((e.2.1 a4).2 < (2 ^ 31)))) ∧ (0 ≤ (((i10 + 15) - (I_144 35 i1)) + i11) ∧ (((i10 + 15) - (I_144 35 i1)) + i11) < (((e.2.1 a4).2 : Nat) : Int)) then (stI (w2 I_144 a4 (((i10 + 15) - (I_144 35 i1)) + i11) i9) (fun I_184 => (if -2147483648 ≤ i11 + 1 ∧ i11 + 1 ≤ 2147483647 then (kf_98 n dp e 2 I_184 L i1 i2 i5 i6 i7 i8 i9 i10 (i11 + 1) a3 a4) else none))) else none) else none) else (if 0 ≤ i1 ∧ i1 < 5 then (if (-2147483648 ≤ (i10 + 15) - (I_144 35 i1) ∧ (i10 + 15) - (I_144 35 i1) ≤ 2147483647) ∧ (-2147483648 ≤ ((i10 + 15) - (I_144 35 i1)) + i11 ∧ ((i10 + 15) - (I_144 35 i1)) + i11 ≤ 2147483647) then (if ((a4 < e.1) ∧ (((e.2.1 a4).1 = 13) ∧ ((e.2.1 a4).2 < (2 ^ 31)))) ∧ (0 ≤ (((i10 + 15) - (I_144 35 i1)) + i11) ∧ (((i10 + 15) - (I_144 35 i1)) + i11) < (((e.2.1 a4).2 : Nat) : Int)) then (if (-2147483648 ≤ i11 * (I_144 37 i1) ∧ i11 * (I_144 37 i1) ≤ 2147483647) ∧ (-2147483648 ≤ i9 + (i11 * (I_144 37 i1)) ∧ i9 + (i11 * (I_144 37 i1)) ≤ 2147483647) then (stI (w2 I_144 a4 (((i10 + 15) - (I_144 35 i1)) + i11) (i9 + (i11 * (I_144 37 i1)))) (fun I_184 => (if -2147483648 ≤ i11 + 1 ∧ i11 + 1 ≤ 2147483647 then (kf_98 n dp e 2 I_184 L i1 i2 i5 i6 i7 i8 i9 i10 (i11 + 1) a3 a4) else none))) else none) else none) else none) else none)) else none))) else none) else none) else none) else none)) else none)) else none)) P_) : Ev (fun n => kf_98 n dp e 2 I L i1 i2 i5 i6 i7 i8 i9 i10 i11 a3 a4) P_ := Ev_step (fun n => ke_98_2 n dp e I L i1 i2 i5 i6 i7 i8 i9 i10 i11 a3 a4) h
set_option maxRecDepth 100000 in
theorem ev_98_1 {dp : Nat} {e : EN} {I : JI} {L : JI} {i1 : Int} {i2 : Int} {i5 : Int} {i6 : Int} {i7 : Int} {i8 : Int} {i9 : Int} {i10 : Int} {i11 : Int} {a3 : Nat} {a4 : Nat} {P_ : (JI × JI) → Prop} (h : Ev (fun n => (if i5 < i7 then (some (I, L)) else (if i7 = 0 then (if i7 = 0 then (if (-2147483648 ≤ i6 - i5 ∧ i6 - i5 ≤ 2147483647) ∧ (-2147483648 ≤ (i6 - i5) + i7 ∧ (i6 - i5) + i7 ≤ 2147483647) then (stI (bL ((i6 - i5) + i7) 5) (fun v_90 => (kf_98 n dp e 2 I L i1 i2 i5 i6 i7 0 0 v_90 0 a3 a4))) else none) else (if 0 ≤ i2 ∧ i2 < 5 then (if -2147483648 ≤ i7 * (I 37 i2) ∧ i7 * (I 37 i2) ≤ 2147483647 then (stI (i7 * (I 37 i2)) (fun v_78 => (if (-2147483648 ≤ i6 - i5 ∧ i6 - i5 ≤ 2147483647) ∧ (-2147483648 ≤ (i6 - i5) + i7 ∧ (i6 - i5) + i7 ≤ 2147483647) then (stI (bL ((i6 - i5) + i7) 5) (fun v_90 => (kf_98 n dp e 2 I L i1 i2 i5 i6 i7 0 v_78 v_90 0 a3 a4))) else none))) else none) else none)) else (if 0 ≤ i2 ∧ i2 < 5 then (if -2147483648 ≤ i7 * (I 36 i2) ∧ i7 * (I 36 i2) ≤ 2147483647 then (stI (i7 * (I 36 i2)) (fun v_58 => (if i7 = 0 then (if (-2147483648 ≤ i6 - i5 ∧ i6 - i5 ≤ 2147483647) ∧ (-2147483648 ≤ (i6 - i5) + i7 ∧ (i6 - i5) + i7 ≤ 2147483647) then (stI (bL ((i6 - i5) + i7) 5) (fun v_90 => (kf_98 n dp e 2 I L i1 i2 i5 i6 i7 v_58 0 v_90 0 a3 a4))) else none) else (if 0 ≤ i2 ∧ i2 < 5 then (if -2147483648 ≤ i7 * (I 37 i2) ∧ i7 * (I 37 i2) ≤ 2147483647 then (stI (i7 * (I 37 i2)) (fun v_78 => (if (-2147483648 ≤ i6 - i5 ∧ i6 - i5 ≤ 2147483647) ∧ (-2147483648 ≤ (i6 - i5) + i7 ∧ (i6 - i5) + i7 ≤ 2147483647) then (stI (bL ((i6 - i5) + i7) 5) (fun v_90 => (kf_98 n dp e 2 I L i1 i2 i5 i6 i7 v_58 v_78 v_90 0 a3 a4))) else none))) else none) else none)))) else none) else none)))) P_) : Ev (fun n => kf_98 n dp e 1 I L i1 i2 i5 i6 i7 i8 i9 i10 i11 a3 a4) P_ := Ev_step (fun n => ke_98_1 n dp e I L i1 i2 i5 i6 i7 i8 i9 i10 i11 a3 a4) h
set_option maxRecDepth 100000 in
theorem ev_98_0 {dp : Nat} {e : EN} {I : JI} {L : JI} {i1 : Int} {i2 : Int} {i5 : Int} {i6 : Int} {i7 : Int} {i8 : Int} {i9 : Int} {i10 : Int} {i11 : Int} {a3 : Nat} {a4 : Nat} {P_ : (JI × JI) → Prop} (h : Ev (fun n => (if i2 = (-1) then (if i2 = (-1) then (kf_98 n dp e 1 I L i1 i2 0 0 0 0 0 0 0 a3 a4) else (kf_98 n dp e 1 I L i1 i2 0 15 0 0 0 0 0 a3 a4)) else (if 0 ≤ i2 ∧ i2 < 5 then (stI (I 35 i2) (fun v_15 => (if i2 = (-1) then (kf_98 n dp e 1 I L i1 i2 v_15 0 0 0 0 0 0 a3 a4) else (kf_98 n dp e 1 I L i1 i2 v_15 15 0 0 0 0 0 a3 a4)))) else none))) P_) : Ev (fun n => kf_98 n dp e 0 I L i1 i2 i5 i6 i7 i8 i9 i10 i11 a3 a4) P_ := Ev_step (fun n => ke_98_0 n dp e I L i1 i2 i5 i6 i7 i8 i9 i10 i11 a3 a4) h
set_option maxRecDepth 100000 in
theorem ev_112_0 {dp : Nat} {e : EN} {I : JI} {L : JI} {i1 : Int} {P_ : (Int × JI × JI) → Prop} (h : Ev (fun n => (if 0 ≤ (bA i1 1023) ∧ (bA i1 1023) < 1024 then (if 0 ≤ (bA (bU i1 10) 1023) ∧ (bA (bU i1 10) 1023) < 1024 then (if 0 ≤ (bA (bU i1 20) 31) ∧ (bA (bU i1 20) 31) < 32 then (if (-2147483648 ≤ (I 38 (bA i1 1023)) + (I 39 (bA (bU i1 10) 1023)) ∧ (I 38 (bA i1 1023)) + (I 39 (bA (bU i1 10) 1023)) ≤ 2147483647) ∧ (-2147483648 ≤ ((I 38 (bA i1 1023)) + (I 39 (bA (bU i1 10) 1023))) + (I 40 (bA (bU i1 20) 31)) ∧ ((I 38 (bA i1 1023)) + (I 39 (bA (bU i1 10) 1023))) + (I 40 (bA (bU i1 20) 31)) ≤ 2147483647) then (some (((((I 38 (bA i1 1023)) + (I 39 (bA (bU i1 10) 1023))) + (I 40 (bA (bU i1 20) 31))) : Int), I, L)) else none) else none) else none) else none)) P_) : Ev (fun n => kf_112 n dp e 0 I L i1) P_ := Ev_step (fun n => ke_112_0 n dp e I L i1) h
set_option maxRecDepth 100000 in
theorem ev_116_0 {dp : Nat} {e : EN} {I : JI} {L : JI} {i1 : Int} {P_ : (Int × JI × JI) → Prop} (h : Ev (fun n => (if 0 ≤ (bA i1 1023) ∧ (bA i1 1023) < 1024 then (if 0 ≤ (bA (bU i1 10) 1023) ∧ (bA (bU i1 10) 1023) < 1024 then (if 0 ≤ (bA (bU i1 20) 31) ∧ (bA (bU i1 20) 31) < 32 then (if (-2147483648 ≤ (I 41 (bA i1 1023)) + (I 42 (bA (bU i1 10) 1023)) ∧ (I 41 (bA i1 1023)) + (I 42 (bA (bU i1 10) 1023)) ≤ 2147483647) ∧ (-2147483648 ≤ ((I 41 (bA i1 1023)) + (I 42 (bA (bU i1 10) 1023))) + (I 43 (bA (bU i1 20) 31)) ∧ ((I 41 (bA i1 1023)) + (I 42 (bA (bU i1 10) 1023))) + (I 43 (bA (bU i1 20) 31)) ≤ 2147483647) then (some (((((I 41 (bA i1 1023)) + (I 42 (bA (bU i1 10) 1023))) + (I 43 (bA (bU i1 20) 31))) : Int), I, L)) else none) else none) else none) else none)) P_) : Ev (fun n => kf_116 n dp e 0 I L i1) P_ := Ev_step (fun n => ke_116_0 n dp e I L i1) h
end
/-! THE CLASS'S PLANS: places and bonuses of fillings -/
section SP
variable {e : EN} {L : JI}
theorem K98 {dp : Nat} {J : JI} {f s cap c2 full S1 B1 S2 B2 : Int} {a3 a4 N : Nat} {x1 x2 x3 x4 x5 x6 x7 : Int} (hf : 0 ≤ f ∧ f < 5) (ha : 38 ≤ a3 ∧ a3 ≤ 43) (hb : 38 ≤ a4 ∧ a4 ≤ 43) (hab : ¬ a3 = a4) (h3 : arO e a3 N) (h4 : arO e a4 N) (hs : (s = -1 ∧ c2 = 0 ∧ full = 0 ∧ N = 32) ∨ ((0 ≤ s ∧ s < 5) ∧ J 35 s = c2 ∧ full = 15 ∧ N = 1024)) (h35 : J 35 f = cap) (hc : 0 ≤ cap ∧ cap ≤ 8) (hc2 : 0 ≤ c2 ∧ c2 ≤ 8) (h1 : 0 < cap → J 36 f = S1 ∧ J 37 f = B1 ∧ (0 ≤ S1 ∧ S1 ≤ 59049) ∧ -20000 ≤ B1 ∧ B1 ≤ 20000) (h2 : 0 < c2 → J 36 s = S2 ∧ J 37 s = B2 ∧ (0 ≤ S2 ∧ S2 ≤ 59049) ∧ -20000 ≤ B2 ∧ B2 ≤ 20000) : Ev (fun n => kf_98 n dp e 0 J L f s x1 x2 x3 x4 x5 x6 x7 a3 a4) (fun r => r.2 = L ∧ (∀ a i, ¬ a = a3 → ¬ a = a4 → r.1 a i = J a i) ∧ ∀ a b : Int, 0 ≤ a → a ≤ cap → 0 ≤ b → b ≤ c2 → r.1 a3 (32 * (full - c2 + b) + (15 - cap + a)) = b * S2 + a * S1 ∧ r.1 a4 (32 * (full - c2 + b) + (15 - cap + a)) = b * B2 + a * B1) := by
  have hfull : (full = 0 ∧ c2 = 0 ∧ N = 32) ∨ (full = 15 ∧ N = 1024) := by omega
  obtain ⟨C2, hC2⟩ : ∃ C : Nat, (C : Int) = c2 := ⟨c2.toNat, by omega⟩
  obtain ⟨C1, hC1⟩ : ∃ C : Nat, (C : Int) = cap := ⟨cap.toNat, by omega⟩
  have outer : ∀ b : Nat, b ≤ C2 + 1 → ∀ K : JI, (∀ a i, ¬ a = a3 → ¬ a = a4 → K a i = J a i) → (∀ a' b' : Int, 0 ≤ a' → a' ≤ cap → 0 ≤ b' → b' ≤ c2 → b' < b → K a3 (32 * (full - c2 + b') + (15 - cap + a')) = b' * S2 + a' * S1 ∧ K a4 (32 * (full - c2 + b') + (15 - cap + a')) = b' * B2 + a' * B1) → Ev (fun n => kf_98 n dp e 1 K L f s c2 full b 0 0 0 0 a3 a4) (fun r => r.2 = L ∧ (∀ a i, ¬ a = a3 → ¬ a = a4 → r.1 a i = J a i) ∧ ∀ a b : Int, 0 ≤ a → a ≤ cap → 0 ≤ b → b ≤ c2 → r.1 a3 (32 * (full - c2 + b) + (15 - cap + a)) = b * S2 + a * S1 ∧ r.1 a4 (32 * (full - c2 + b) + (15 - cap + a)) = b * B2 + a * B1) := by
    refine dec_ind (C2 + 1) (fun b hb2 ih => ?_)
    intro K k1 k2
    by_cases c : b < C2 + 1
    · have ih := ih c
      have bL5 : bL ((full - c2) + b) 5 = 32 * (full - c2 + b) := by
        have := bL_p (v := (full - c2) + b) (k := 1) (by omega) (by omega)
        have e5 : (5 : Int) * ((1 : Nat) : Int) = 5 := rfl
        rw [e5] at this
        rw [this]
        show _ * (32 * 1) = _
        omega
      have sb : 0 ≤ (b : Int) * S2 ∧ (b : Int) * S2 ≤ 8 * 59049 ∧ -160000 ≤ (b : Int) * B2 ∧ (b : Int) * B2 ≤ 160000 ∨ b = 0 := by
        by_cases z : b = 0
        · exact Or.inr z
        · obtain ⟨_, _, y1, y2, y3⟩ := h2 (by omega)
          have m1 := mulb (a := (b : Int)) (b := S2) (A := 8) (B := 59049) (by omega) y1
          have m2 := Int.mul_le_mul_of_nonneg_left y2 (show 0 ≤ (b : Int) by omega)
          have m3 := Int.mul_le_mul_of_nonneg_left y3 (show 0 ≤ (b : Int) by omega)
          exact Or.inl ⟨m1.1, by omega, by omega, by omega⟩
      have inner : ∀ a : Nat, a ≤ C1 + 1 → ∀ K2 : JI, (∀ x i, ¬ x = a3 → ¬ x = a4 → K2 x i = J x i) → (∀ a' b' : Int, 0 ≤ a' → a' ≤ cap → 0 ≤ b' → b' ≤ c2 → (b' < b ∨ (b' = b ∧ a' < a)) → K2 a3 (32 * (full - c2 + b') + (15 - cap + a')) = b' * S2 + a' * S1 ∧ K2 a4 (32 * (full - c2 + b') + (15 - cap + a')) = b' * B2 + a' * B1) → Ev (fun n => kf_98 n dp e 2 K2 L f s c2 full b (b * S2) (b * B2) (32 * (full - c2 + b)) a a3 a4) (fun r => r.2 = L ∧ (∀ a i, ¬ a = a3 → ¬ a = a4 → r.1 a i = J a i) ∧ ∀ a b : Int, 0 ≤ a → a ≤ cap → 0 ≤ b → b ≤ c2 → r.1 a3 (32 * (full - c2 + b) + (15 - cap + a)) = b * S2 + a * S1 ∧ r.1 a4 (32 * (full - c2 + b) + (15 - cap + a)) = b * B2 + a * B1) := by
        refine dec_ind (C1 + 1) (fun a ha2 ia => ?_)
        intro K2 q1 q2
        have f35 : K2 35 f = cap := by rw [q1 _ _ (by omega) (by omega)]; exact h35
        have f36 : K2 36 f = J 36 f := q1 _ _ (by omega) (by omega)
        have f37 : K2 37 f = J 37 f := q1 _ _ (by omega) (by omega)
        have sb2 : 0 ≤ (b : Int) * S2 ∧ (b : Int) * S2 ≤ 8 * 59049 ∧ -160000 ≤ (b : Int) * B2 ∧ (b : Int) * B2 ≤ 160000 := by
          rcases sb with z | z
          · exact z
          · rw [z]; simp
        refine ev_98_2 ?_
        by_cases d : a < C1 + 1
        · have ia := ia d
          have step : ∀ v1 v2 : Int, v1 = b * S2 + a * S1 → v2 = b * B2 + a * B1 → Ev (fun n => kf_98 n dp e 2 (w2 (w2 K2 a3 (32 * (full - c2 + b) + 15 - cap + a) v1) a4 (32 * (full - c2 + b) + 15 - cap + a) v2) L f s c2 full b (b * S2) (b * B2) (32 * (full - c2 + b)) ((a : Int) + 1) a3 a4) (fun r => r.2 = L ∧ (∀ a i, ¬ a = a3 → ¬ a = a4 → r.1 a i = J a i) ∧ ∀ a b : Int, 0 ≤ a → a ≤ cap → 0 ≤ b → b ≤ c2 → r.1 a3 (32 * (full - c2 + b) + (15 - cap + a)) = b * S2 + a * S1 ∧ r.1 a4 (32 * (full - c2 + b) + (15 - cap + a)) = b * B2 + a * B1) := by
            intro v1 v2 e1 e2
            refine ia _ (fun x i z1 z2 => ?_) (fun a' b' z1 z2 z3 z4 z5 => ?_)
            · rw [w2_n (by omega), w2_n (by omega)]; exact q1 x i z1 z2
            · by_cases y : b' = b ∧ a' = a
              · obtain ⟨y1, y2⟩ := y
                rw [y1, y2]
                have ei : 32 * (full - c2 + (b : Int)) + (15 - cap + (a : Int)) = 32 * (full - c2 + b) + 15 - cap + a := by omega
                rw [ei]
                constructor
                · rw [w2_n (by omega), w2_ap, if_pos ⟨rfl, rfl⟩]; exact e1
                · rw [w2_ap, if_pos ⟨rfl, rfl⟩]; exact e2
              · rw [w2_n (by omega), w2_n (by omega), w2_n (by omega), w2_n (by omega)]
                exact q2 a' b' z1 z2 z3 z4 (by omega)
          have ok3 : (a3 < e.1 ∧ (e.2.1 a3).1 = 13 ∧ (e.2.1 a3).2 < 2 ^ 31) ∧ 0 ≤ 32 * (full - c2 + (b : Int)) + 15 - cap + (a : Int) ∧ 32 * (full - c2 + (b : Int)) + 15 - cap + (a : Int) < (((e.2.1 a3).2 : Nat) : Int) := by
            obtain ⟨z1, z2, z3⟩ := h3
            rw [z3]
            exact ⟨⟨z1, z2, by omega⟩, by omega, by omega⟩
          have ok4 : (a4 < e.1 ∧ (e.2.1 a4).1 = 13 ∧ (e.2.1 a4).2 < 2 ^ 31) ∧ 0 ≤ 32 * (full - c2 + (b : Int)) + 15 - cap + (a : Int) ∧ 32 * (full - c2 + (b : Int)) + 15 - cap + (a : Int) < (((e.2.1 a4).2 : Nat) : Int) := by
            obtain ⟨z1, z2, z3⟩ := h4
            rw [z3]
            exact ⟨⟨z1, z2, by omega⟩, by omega, by omega⟩
          rw [f35]
          by_cases z : a = 0
          · subst z
            refine Ev_t hf (Ev_f (by omega) (Ev_t hf (Ev_t rfl (Ev_t (by omega) (Ev_t ok3 (Ev_st ?_))))))
            rw [w2_n (b := 35) (by omega), f35]
            refine Ev_t hf (Ev_t rfl (Ev_t (by omega) (Ev_t ok4 (Ev_st (Ev_t (by omega) (step _ _ ?_ ?_))))))
            · simp
            · simp
          · obtain ⟨y0, y1, y2, y3, y4⟩ := h1 (by omega)
            have m1 := mulb (a := (a : Int)) (b := S1) (A := 8) (B := 59049) (by omega) y2
            have m2 := Int.mul_le_mul_of_nonneg_left y3 (show 0 ≤ (a : Int) by omega)
            have m3 := Int.mul_le_mul_of_nonneg_left y4 (show 0 ≤ (a : Int) by omega)
            rw [f36, y0]
            refine Ev_t hf (Ev_f (by omega) (Ev_t hf (Ev_f (by omega) (Ev_t hf (Ev_t (by omega) (Ev_t ok3 (Ev_t (by omega) (Ev_st ?_))))))))
            rw [w2_n (b := 35) (by omega), f35, w2_n (b := 37) (by omega), f37, y1]
            refine Ev_t hf (Ev_f (by omega) (Ev_t hf (Ev_t (by omega) (Ev_t ok4 (Ev_t (by omega) (Ev_st (Ev_t (by omega) (step _ _ rfl rfl))))))))
        · have : a = C1 + 1 := by omega
          subst this
          rw [f35]
          refine Ev_t hf (Ev_t (by omega) (Ev_t (by omega) (ih K2 q1 (fun a' b' z1 z2 z3 z4 z5 => q2 a' b' z1 z2 z3 z4 (by omega)))))
      refine ev_98_1 ?_
      by_cases z : b = 0
      · subst z
        have i0 := inner 0 (by omega) K k1 (fun a' b' z1 z2 z3 z4 z5 => k2 a' b' z1 z2 z3 z4 (by omega))
        rw [show (((0 : Nat) : Int)) * S2 = 0 by simp, show (((0 : Nat) : Int)) * B2 = 0 by simp] at i0
        refine Ev_f (by omega) (Ev_t rfl (Ev_t rfl (Ev_t (by omega) (Ev_st ?_))))
        rw [bL5]
        exact i0
      · obtain ⟨y0, y1, y2, y3, y4⟩ := h2 (by omega)
        have i0 := inner 0 (by omega) K k1 (fun a' b' z1 z2 z3 z4 z5 => k2 a' b' z1 z2 z3 z4 (by omega))
        have g36 : K 36 s = S2 := by rw [k1 _ _ (by omega) (by omega)]; exact y0
        have g37 : K 37 s = B2 := by rw [k1 _ _ (by omega) (by omega)]; exact y1
        have hs5 : 0 ≤ s ∧ s < 5 := by omega
        have sb : 0 ≤ (b : Int) * S2 ∧ (b : Int) * S2 ≤ 8 * 59049 ∧ -160000 ≤ (b : Int) * B2 ∧ (b : Int) * B2 ≤ 160000 := by
          rcases sb with z' | z'
          · exact z'
          · exact absurd z' z
        rw [g36, g37]
        refine Ev_f (by omega) (Ev_f (by omega) (Ev_t hs5 (Ev_t (by omega) (Ev_st (Ev_f (by omega) (Ev_t hs5 (Ev_t (by omega) (Ev_st (Ev_t (by omega) (Ev_st ?_))))))))))
        rw [bL5]
        exact i0
    · have : b = C2 + 1 := by omega
      subst this
      refine ev_98_1 ?_
      exact Ev_t (by omega) (Ev_ret ⟨rfl, k1, fun a b z1 z2 z3 z4 => k2 a b z1 z2 z3 z4 (by omega)⟩)
  have st := outer 0 (by omega) J (fun _ _ _ _ => rfl) (fun a' b' z1 z2 z3 z4 z5 => by omega)
  refine ev_98_0 ?_
  rcases hs with ⟨s1, rfl, rfl, s4⟩ | ⟨s1, rfl, rfl, s4⟩
  · exact Ev_t s1 (Ev_t s1 st)
  · exact Ev_f (by omega) (Ev_t s1 (Ev_st (Ev_f (by omega) st)))
/-- the tables of places and bonuses: caps cp, strides st, bonuses bo of the five fields -/
def TbO (J : JI) (cp st bo : Nat → Int) : Prop := (∀ a b : Int, 0 ≤ a → a ≤ cp 0 → 0 ≤ b → b ≤ cp 1 → J 38 (32 * (15 - cp 1 + b) + (15 - cp 0 + a)) = b * st 1 + a * st 0 ∧ J 41 (32 * (15 - cp 1 + b) + (15 - cp 0 + a)) = b * bo 1 + a * bo 0) ∧ (∀ a b : Int, 0 ≤ a → a ≤ cp 2 → 0 ≤ b → b ≤ cp 3 → J 39 (32 * (15 - cp 3 + b) + (15 - cp 2 + a)) = b * st 3 + a * st 2 ∧ J 42 (32 * (15 - cp 3 + b) + (15 - cp 2 + a)) = b * bo 3 + a * bo 2) ∧ ∀ a : Int, 0 ≤ a → a ≤ cp 4 → J 40 (15 - cp 4 + a) = a * st 4 ∧ J 43 (15 - cp 4 + a) = a * bo 4
theorem TbO_c {J J' : JI} {cp st bo : Nat → Int} (hj : ∀ a i, 38 ≤ a → a ≤ 43 → J' a i = J a i) (h : TbO J cp st bo) : TbO J' cp st bo := by
  obtain ⟨h1, h2, h3⟩ := h
  refine ⟨fun a b x y z w => ?_, fun a b x y z w => ?_, fun a x y => ?_⟩
  · rw [hj 38 _ (by omega) (by omega), hj 41 _ (by omega) (by omega)]; exact h1 a b x y z w
  · rw [hj 39 _ (by omega) (by omega), hj 42 _ (by omega) (by omega)]; exact h2 a b x y z w
  · rw [hj 40 _ (by omega) (by omega), hj 43 _ (by omega) (by omega)]; exact h3 a x y
def bdF (cp st bo : Nat → Int) : Prop := ∀ k, k < 5 → (0 ≤ cp k ∧ cp k ≤ 8) ∧ (0 ≤ st k ∧ st k ≤ 59049) ∧ -20000 ≤ bo k ∧ bo k ≤ 20000
theorem dst_b {cp st bo d : Nat → Int} (hb : bdF cp st bo) (hd : ∀ k, k < 5 → 0 ≤ d k ∧ d k ≤ cp k) {k : Nat} (hk : k < 5) : (0 ≤ d k * st k ∧ d k * st k ≤ 472392) ∧ -160000 ≤ d k * bo k ∧ d k * bo k ≤ 160000 := by
  obtain ⟨b1, b2, b3, b4⟩ := hb k hk
  have d1 := hd k hk
  have m1 := mulb (a := d k) (b := st k) (A := 8) (B := 59049) (by omega) b2
  have m2 := Int.mul_le_mul_of_nonneg_left b3 d1.1
  have m3 := Int.mul_le_mul_of_nonneg_left b4 d1.1
  exact ⟨m1, by omega, by omega⟩
theorem fd_ix {cp d : Nat → Int} (hc : ∀ k, k < 5 → 0 ≤ cp k ∧ cp k ≤ 8) (hd : ∀ k, k < 5 → 0 ≤ d k ∧ d k ≤ cp k) : bA (pkI (fun k => 15 - cp k + d k)) 1023 = 32 * (15 - cp 1 + d 1) + (15 - cp 0 + d 0) ∧ bA (bU (pkI (fun k => 15 - cp k + d k)) 10) 1023 = 32 * (15 - cp 3 + d 3) + (15 - cp 2 + d 2) ∧ bA (bU (pkI (fun k => 15 - cp k + d k)) 20) 31 = 15 - cp 4 + d 4 := by
  have c0 := hc 0 (by omega)
  have c1 := hc 1 (by omega)
  have c2 := hc 2 (by omega)
  have c3 := hc 3 (by omega)
  have c4 := hc 4 (by omega)
  have d0 := hd 0 (by omega)
  have d1 := hd 1 (by omega)
  have d2 := hd 2 (by omega)
  have d3 := hd 3 (by omega)
  have d4 := hd 4 (by omega)
  have hx : pkI (fun k => 15 - cp k + d k) = (15 - cp 0 + d 0) + 32 * (15 - cp 1 + d 1) + 1024 * (15 - cp 2 + d 2) + 32768 * (15 - cp 3 + d 3) + 1048576 * (15 - cp 4 + d 4) := rfl
  generalize pkI (fun k => 15 - cp k + d k) = x at hx
  obtain ⟨_, u1, u2⟩ := bU_k (x := x) (by omega)
  rw [(bA_m (x := x) (by omega)).1, u1, u2, (bA_m (x := x / 1024) (by omega)).1, (bA_m (x := x / 1048576) (by omega)).2]
  omega
theorem K112 {dp : Nat} {J : JI} {cp st bo d : Nat → Int} (hb : bdF cp st bo) (hT : TbO J cp st bo) (hd : ∀ k, k < 5 → 0 ≤ d k ∧ d k ≤ cp k) : Ev (fun n => kf_112 n dp e 0 J L (pkI (fun k => 15 - cp k + d k))) (fun r => r = (sN (fun k => d k * st k) 5, J, L)) := by
  have hc : ∀ k, k < 5 → 0 ≤ cp k ∧ cp k ≤ 8 := fun k hk => (hb k hk).1
  obtain ⟨i1, i2, i3⟩ := fd_ix hc hd
  have c0 := hc 0 (by omega)
  have c1 := hc 1 (by omega)
  have c2 := hc 2 (by omega)
  have c3 := hc 3 (by omega)
  have c4 := hc 4 (by omega)
  have d0 := hd 0 (by omega)
  have d1 := hd 1 (by omega)
  have d2 := hd 2 (by omega)
  have d3 := hd 3 (by omega)
  have d4 := hd 4 (by omega)
  have b0 := dst_b hb hd (show 0 < 5 by omega)
  have b1 := dst_b hb hd (show 1 < 5 by omega)
  have b2 := dst_b hb hd (show 2 < 5 by omega)
  have b3 := dst_b hb hd (show 3 < 5 by omega)
  have b4 := dst_b hb hd (show 4 < 5 by omega)
  refine ev_112_0 ?_
  rw [i1, i2, i3, (hT.1 _ _ d0.1 d0.2 d1.1 d1.2).1, (hT.2.1 _ _ d2.1 d2.2 d3.1 d3.2).1, (hT.2.2 _ d4.1 d4.2).1]
  refine Ev_t (by omega) (Ev_t (by omega) (Ev_t (by omega) (Ev_t (by omega) (Ev_ret ?_))))
  simp only [sN]
  congr 1
  omega
theorem K116 {dp : Nat} {J : JI} {cp st bo d : Nat → Int} (hb : bdF cp st bo) (hT : TbO J cp st bo) (hd : ∀ k, k < 5 → 0 ≤ d k ∧ d k ≤ cp k) : Ev (fun n => kf_116 n dp e 0 J L (pkI (fun k => 15 - cp k + d k))) (fun r => r = (sN (fun k => d k * bo k) 5, J, L)) := by
  have hc : ∀ k, k < 5 → 0 ≤ cp k ∧ cp k ≤ 8 := fun k hk => (hb k hk).1
  obtain ⟨i1, i2, i3⟩ := fd_ix hc hd
  have c0 := hc 0 (by omega)
  have c1 := hc 1 (by omega)
  have c2 := hc 2 (by omega)
  have c3 := hc 3 (by omega)
  have c4 := hc 4 (by omega)
  have d0 := hd 0 (by omega)
  have d1 := hd 1 (by omega)
  have d2 := hd 2 (by omega)
  have d3 := hd 3 (by omega)
  have d4 := hd 4 (by omega)
  have b0 := dst_b hb hd (show 0 < 5 by omega)
  have b1 := dst_b hb hd (show 1 < 5 by omega)
  have b2 := dst_b hb hd (show 2 < 5 by omega)
  have b3 := dst_b hb hd (show 3 < 5 by omega)
  have b4 := dst_b hb hd (show 4 < 5 by omega)
  refine ev_116_0 ?_
  rw [i1, i2, i3, (hT.1 _ _ d0.1 d0.2 d1.1 d1.2).2, (hT.2.1 _ _ d2.1 d2.2 d3.1 d3.2).2, (hT.2.2 _ d4.1 d4.2).2]
  refine Ev_t (by omega) (Ev_t (by omega) (Ev_t (by omega) (Ev_t (by omega) (Ev_ret ?_))))
  simp only [sN]
  congr 1
  omega
end SP
