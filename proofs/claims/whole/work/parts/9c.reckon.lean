section
set_option maxRecDepth 100000 in
theorem ev_76_0 {dp : Nat} {e : EN} {I : JI} {L : JI} {i0 : Int} {j1 : Int} {j3 : Int} {P_ : (Int × JI × JI) → Prop} (h : Ev (fun n => (if i0 = 2 then (if -9223372036854775808 ≤ j1 + j3 ∧ j1 + j3 ≤ 9223372036854775807 then (some (((j1 + j3) : Int), I, L)) else none) else (if i0 = 3 then (if -9223372036854775808 ≤ j1 - j3 ∧ j1 - j3 ≤ 9223372036854775807 then (some (((j1 - j3) : Int), I, L)) else none) else (if i0 = 4 then (if -9223372036854775808 ≤ j1 * j3 ∧ j1 * j3 ≤ 9223372036854775807 then (some (((j1 * j3) : Int), I, L)) else none) else (if i0 = 5 then (if j3 = 0 then (some ((1000000001 : Int), I, L)) else (if ¬ (j3 = 0) then (if -9223372036854775807 ≤ j1 then (some (((Int.tdiv j1 j3) : Int), I, L)) else none) else none)) else (if i0 = 6 then (if j3 ≤ j1 then (some ((0 : Int), I, L)) else (some ((1 : Int), I, L))) else (if i0 = 7 then (if j1 ≤ j3 then (some ((0 : Int), I, L)) else (some ((1 : Int), I, L))) else (if j1 = j3 then (some ((1 : Int), I, L)) else (some ((0 : Int), I, L)))))))))) P_) : Ev (fun n => kf_76 n dp e 0 I L i0 j1 j3) P_ := Ev_step (fun n => ke_76_0 n dp e I L i0 j1 j3) h
set_option maxRecDepth 100000 in
theorem ev_74_0 {dp : Nat} {e : EN} {I : JI} {L : JI} {i2 : Int} {i3 : Int} {i4 : Int} {i5 : Int} {i6 : Int} {i7 : Int} {i8 : Int} {a1 : Nat} {P_ : (Int × JI × JI) → Prop} (h : Ev (fun n => (kf_74 n dp e 1 I L i2 i3 0 i2 i2 0 0 a1)) P_) : Ev (fun n => kf_74 n dp e 0 I L i2 i3 i4 i5 i6 i7 i8 a1) P_ := Ev_step (fun n => ke_74_0 n dp e I L i2 i3 i4 i5 i6 i7 i8 a1) h
set_option maxRecDepth 100000 in
theorem ev_74_6 {dp : Nat} {e : EN} {I : JI} {L : JI} {i2 : Int} {i3 : Int} {i4 : Int} {i5 : Int} {i6 : Int} {i7 : Int} {i8 : Int} {a1 : Nat} {P_ : (Int × JI × JI) → Prop} (h : Ev (fun n => (if -2147483648 ≤ i6 + 1 ∧ i6 + 1 ≤ 2147483647 then (kf_74 n dp e 1 I L i2 i3 i4 i5 (i6 + 1) 0 0 a1) else none)) P_) : Ev (fun n => kf_74 n dp e 6 I L i2 i3 i4 i5 i6 i7 i8 a1) P_ := Ev_step (fun n => ke_74_6 n dp e I L i2 i3 i4 i5 i6 i7 i8 a1) h
set_option maxRecDepth 100000 in
theorem ev_74_1 {dp : Nat} {e : EN} {I : JI} {L : JI} {i2 : Int} {i3 : Int} {i4 : Int} {i5 : Int} {i6 : Int} {i7 : Int} {i8 : Int} {a1 : Nat} {P_ : (Int × JI × JI) → Prop} (h : Ev (fun n => (if i3 ≤ i6 then (kf_74 n dp e 7 I L i2 i3 i4 i5 i6 0 0 a1) else (if i3 ≤ i5 then (kf_74 n dp e 7 I L i2 i3 i4 i5 i6 0 0 a1) else (if (I 21 3) = 0 then (if (a1 < e.1) ∧ ((e.2.1 a1).1 = 10) then ((e.2.2 a1 8).bind (fun b_29 => (if ((b_29 < e.1) ∧ (((e.2.1 b_29).1 = 13) ∧ ((e.2.1 b_29).2 < (2 ^ 31)))) ∧ (0 ≤ i5 ∧ i5 < (((e.2.1 b_29).2 : Nat) : Int)) then (stI (I b_29 i5) (fun v_35 => (if (a1 < e.1) ∧ ((e.2.1 a1).1 = 10) then ((e.2.2 a1 9).bind (fun b_38 => (if ((b_38 < e.1) ∧ (((e.2.1 b_38).1 = 13) ∧ ((e.2.1 b_38).2 < (2 ^ 31)))) ∧ (0 ≤ i5 ∧ i5 < (((e.2.1 b_38).2 : Nat) : Int)) then (stI (I b_38 i5) (fun v_44 => (if v_35 = 0 then (if -2147483648 ≤ i5 + 1 ∧ i5 + 1 ≤ 2147483647 then (kf_74 n dp e 2 I L i2 i3 i4 (i5 + 1) i6 v_35 v_44 a1) else none) else (if v_35 = 1 then (if -2147483648 ≤ i5 + 1 ∧ i5 + 1 ≤ 2147483647 then (kf_74 n dp e 2 I L i2 i3 i4 (i5 + 1) i6 v_35 v_44 a1) else none) else (if v_35 = 9 then (if i4 ≤ 0 then (if -2147483648 ≤ i5 + 1 ∧ i5 + 1 ≤ 2147483647 then (kf_74 n dp e 3 I L i2 i3 i4 (i5 + 1) i6 v_35 v_44 a1) else none) else (if -2147483648 ≤ i4 - 1 ∧ i4 - 1 ≤ 2147483647 then (if 0 ≤ (i4 - 1) ∧ (i4 - 1) < 64 then (if 0 ≤ (i4 - 1) ∧ (i4 - 1) < 64 then (if -2147483648 ≤ 1 - (I 23 (i4 - 1)) ∧ 1 - (I 23 (i4 - 1)) ≤ 2147483647 then (stI (w2 I 23 (i4 - 1) (1 - (I 23 (i4 - 1)))) (fun I_134 => (if -2147483648 ≤ i5 + 1 ∧ i5 + 1 ≤ 2147483647 then (kf_74 n dp e 6 I_134 L i2 i3 i4 (i5 + 1) i6 v_35 v_44 a1) else none))) else none) else none) else none) else none)) else (if -2147483648 ≤ i5 + 1 ∧ i5 + 1 ≤ 2147483647 then (kf_74 n dp e 3 I L i2 i3 i4 (i5 + 1) i6 v_35 v_44 a1) else none)))))) else none))) else none))) else none))) else none) else (kf_74 n dp e 7 I L i2 i3 i4 i5 i6 0 0 a1))))) P_) : Ev (fun n => kf_74 n dp e 1 I L i2 i3 i4 i5 i6 i7 i8 a1) P_ := Ev_step (fun n => ke_74_1 n dp e I L i2 i3 i4 i5 i6 i7 i8 a1) h
set_option maxRecDepth 100000 in
theorem ev_74_2 {dp : Nat} {e : EN} {I : JI} {L : JI} {i2 : Int} {i3 : Int} {i4 : Int} {i5 : Int} {i6 : Int} {i7 : Int} {i8 : Int} {a1 : Nat} {P_ : (Int × JI × JI) → Prop} (h : Ev (fun n => (if 1 ≤ dp then (if i7 = 0 then (if 0 ≤ (min 63 i4) ∧ (min 63 i4) < 64 then (stI (w2 I 23 (min 63 i4) i8) (fun I_88 => (if 1 ≤ dp then (if -2147483648 ≤ i4 + 1 ∧ i4 + 1 ≤ 2147483647 then (stI (min 64 (i4 + 1)) (fun v_98 => (kf_74 n dp e 6 I_88 L i2 i3 v_98 i5 i6 i7 i8 a1))) else none) else none))) else none) else (if 0 ≤ i8 ∧ i8 < 5 then (if 0 ≤ (min 63 i4) ∧ (min 63 i4) < 64 then (stI (w2 I 23 (min 63 i4) (I 22 i8)) (fun I_88 => (if 1 ≤ dp then (if -2147483648 ≤ i4 + 1 ∧ i4 + 1 ≤ 2147483647 then (stI (min 64 (i4 + 1)) (fun v_98 => (kf_74 n dp e 6 I_88 L i2 i3 v_98 i5 i6 i7 i8 a1))) else none) else none))) else none) else none)) else none)) P_) : Ev (fun n => kf_74 n dp e 2 I L i2 i3 i4 i5 i6 i7 i8 a1) P_ := Ev_step (fun n => ke_74_2 n dp e I L i2 i3 i4 i5 i6 i7 i8 a1) h
set_option maxRecDepth 100000 in
theorem ev_74_3 {dp : Nat} {e : EN} {I : JI} {L : JI} {i2 : Int} {i3 : Int} {i4 : Int} {i5 : Int} {i6 : Int} {i7 : Int} {i8 : Int} {a1 : Nat} {P_ : (Int × JI × JI) → Prop} (h : Ev (fun n => (if i7 = 10 then (kf_74 n dp e 4 I L i2 i3 i4 i5 i6 i7 i8 a1) else (if i7 = 11 then (kf_74 n dp e 4 I L i2 i3 i4 i5 i6 i7 i8 a1) else (kf_74 n dp e 5 I L i2 i3 i4 i5 i6 i7 i8 a1)))) P_) : Ev (fun n => kf_74 n dp e 3 I L i2 i3 i4 i5 i6 i7 i8 a1) P_ := Ev_step (fun n => ke_74_3 n dp e I L i2 i3 i4 i5 i6 i7 i8 a1) h
set_option maxRecDepth 100000 in
theorem ev_74_4 {dp : Nat} {e : EN} {I : JI} {L : JI} {i2 : Int} {i3 : Int} {i4 : Int} {i5 : Int} {i6 : Int} {i7 : Int} {i8 : Int} {a1 : Nat} {P_ : (Int × JI × JI) → Prop} (h : Ev (fun n => (if i4 ≤ 0 then (kf_74 n dp e 5 I L i2 i3 i4 i5 i6 i7 i8 a1) else (if -2147483648 ≤ i4 - 1 ∧ i4 - 1 ≤ 2147483647 then (if 0 ≤ (i4 - 1) ∧ (i4 - 1) < 64 then (if i7 = 10 then (if (I 23 (i4 - 1)) = 1 then (if 1 ≤ dp then (stI (max i5 i8) (fun v_188 => (kf_74 n dp e 6 I L i2 i3 i4 v_188 i6 i7 i8 a1))) else none) else (if -2147483648 ≤ i4 + (-1) ∧ i4 + (-1) ≤ 2147483647 then (kf_74 n dp e 6 I L i2 i3 (i4 + (-1)) i5 i6 i7 i8 a1) else none)) else (if (I 23 (i4 - 1)) = 0 then (if 1 ≤ dp then (stI (max i5 i8) (fun v_188 => (kf_74 n dp e 6 I L i2 i3 i4 v_188 i6 i7 i8 a1))) else none) else (if -2147483648 ≤ i4 + (-1) ∧ i4 + (-1) ≤ 2147483647 then (kf_74 n dp e 6 I L i2 i3 (i4 + (-1)) i5 i6 i7 i8 a1) else none))) else none) else none))) P_) : Ev (fun n => kf_74 n dp e 4 I L i2 i3 i4 i5 i6 i7 i8 a1) P_ := Ev_step (fun n => ke_74_4 n dp e I L i2 i3 i4 i5 i6 i7 i8 a1) h
set_option maxRecDepth 100000 in
theorem ev_74_5 {dp : Nat} {e : EN} {I : JI} {L : JI} {i2 : Int} {i3 : Int} {i4 : Int} {i5 : Int} {i6 : Int} {i7 : Int} {i8 : Int} {a1 : Nat} {P_ : (Int × JI × JI) → Prop} (h : Ev (fun n => (if i4 ≤ 1 then (kf_74 n dp e 6 I L i2 i3 i4 i5 i6 i7 i8 a1) else (if (-2147483648 ≤ i4 + (-1) ∧ i4 + (-1) ≤ 2147483647) ∧ (-2147483648 ≤ (i4 + (-1)) - 1 ∧ (i4 + (-1)) - 1 ≤ 2147483647) then (if 0 ≤ ((i4 + (-1)) - 1) ∧ ((i4 + (-1)) - 1) < 64 then (if 0 ≤ (i4 + (-1)) ∧ (i4 + (-1)) < 64 then (if 1 ≤ dp then ((kf_76 n (dp - 1) e 0 I L i7 (I 23 ((i4 + (-1)) - 1)) (I 23 (i4 + (-1)))).bind (fun ⟨x0_228, I0_228, L0_228⟩ => (if 1000000000 < x0_228 then (stI (w2 I0_228 21 3 1) (fun I_257 => (if 0 ≤ ((i4 + (-1)) - 1) ∧ ((i4 + (-1)) - 1) < 64 then (stI (w2 I_257 23 ((i4 + (-1)) - 1) (l2i x0_228)) (fun I_271 => (kf_74 n dp e 6 I_271 L0_228 i2 i3 (i4 + (-1)) i5 i6 i7 i8 a1))) else none))) else (if (-1000000000) ≤ x0_228 then (stI (w2 I0_228 21 3 0) (fun I_257 => (if 0 ≤ ((i4 + (-1)) - 1) ∧ ((i4 + (-1)) - 1) < 64 then (stI (w2 I_257 23 ((i4 + (-1)) - 1) (l2i x0_228)) (fun I_271 => (kf_74 n dp e 6 I_271 L0_228 i2 i3 (i4 + (-1)) i5 i6 i7 i8 a1))) else none))) else (stI (w2 I0_228 21 3 1) (fun I_257 => (if 0 ≤ ((i4 + (-1)) - 1) ∧ ((i4 + (-1)) - 1) < 64 then (stI (w2 I_257 23 ((i4 + (-1)) - 1) (l2i x0_228)) (fun I_271 => (kf_74 n dp e 6 I_271 L0_228 i2 i3 (i4 + (-1)) i5 i6 i7 i8 a1))) else none))))))) else none) else none) else none) else none))) P_) : Ev (fun n => kf_74 n dp e 5 I L i2 i3 i4 i5 i6 i7 i8 a1) P_ := Ev_step (fun n => ke_74_5 n dp e I L i2 i3 i4 i5 i6 i7 i8 a1) h
set_option maxRecDepth 100000 in
theorem ev_74_7 {dp : Nat} {e : EN} {I : JI} {L : JI} {i2 : Int} {i3 : Int} {i4 : Int} {i5 : Int} {i6 : Int} {i7 : Int} {i8 : Int} {a1 : Nat} {P_ : (Int × JI × JI) → Prop} (h : Ev (fun n => (if i4 ≤ 0 then (some ((0 : Int), I, L)) else (if -2147483648 ≤ i4 - 1 ∧ i4 - 1 ≤ 2147483647 then (if 0 ≤ (i4 - 1) ∧ (i4 - 1) < 64 then (some (((I 23 (i4 - 1)) : Int), I, L)) else none) else none))) P_) : Ev (fun n => kf_74 n dp e 7 I L i2 i3 i4 i5 i6 i7 i8 a1) P_ := Ev_step (fun n => ke_74_7 n dp e I L i2 i3 i4 i5 i6 i7 i8 a1) h
end
/-! RECKON: what the class's steps give, and the reference's -/
def Stk (A : Int → Int) : List Int → Prop
  | [] => True
  | v :: s => A s.length = v ∧ Stk A s
theorem Stk_c {A B : Int → Int} : ∀ s : List Int, (∀ i : Int, 0 ≤ i → i < s.length → B i = A i) → Stk A s → Stk B s
  | [], _, _ => trivial
  | v :: s, h, p => ⟨(h s.length (by omega) (by simp only [List.length_cons]; omega)).trans p.1, Stk_c s (fun i a b => h i a (by simp only [List.length_cons]; omega)) p.2⟩
theorem mul_rg {a b : Int} (ha : -1000000000 ≤ a ∧ a ≤ 1000000000) (hb : -1000000000 ≤ b ∧ b ≤ 1000000000) : -1000000000000000000 ≤ a * b ∧ a * b ≤ 1000000000000000000 := by
  have h := Int.natAbs_mul a b
  have h2 : a.natAbs * b.natAbs ≤ 1000000000 * 1000000000 := Nat.mul_le_mul (by omega) (by omega)
  omega
section RECK
variable {dp : Nat} {e : EN} {J M : JI}
theorem K76 {o a b : Int} (ho : 2 ≤ o ∧ o ≤ 8) (ha : -1000000000 ≤ a ∧ a ≤ 1000000000) (hb : -1000000000 ≤ b ∧ b ≤ 1000000000) : Ev (fun n => kf_76 n dp e 0 J M o a b) (fun r => ∃ v, r = (v, J, M) ∧ (jn o a b = none → 1000000000 < v ∨ v < -1000000000) ∧ ∀ w, jn o a b = some w → v = w) := by
  have mr := mul_rg ha hb
  refine ev_76_0 ?_
  unfold jn
  refine Ev_c (fun c => Ev_t (by omega) (Ev_ret ⟨_, rfl, ?_⟩)) (fun c => ?_)
  · simp only [if_pos c]
    by_cases q : a + b < -1000000000 ∨ 1000000000 < a + b
    · simp only [if_pos q]; exact ⟨fun _ => by omega, fun w h => (nomatch h)⟩
    · simp only [if_neg q]; exact ⟨fun h => (nomatch h), fun w h => by cases h; rfl⟩
  simp only [if_neg c]
  refine Ev_c (fun c => Ev_t (by omega) (Ev_ret ⟨_, rfl, ?_⟩)) (fun c => ?_)
  · simp only [if_pos c]
    by_cases q : a - b < -1000000000 ∨ 1000000000 < a - b
    · simp only [if_pos q]; exact ⟨fun _ => by omega, fun w h => (nomatch h)⟩
    · simp only [if_neg q]; exact ⟨fun h => (nomatch h), fun w h => by cases h; rfl⟩
  simp only [if_neg c]
  refine Ev_c (fun c => Ev_t (by omega) (Ev_ret ⟨_, rfl, ?_⟩)) (fun c => ?_)
  · simp only [if_pos c]
    by_cases q : a * b < -1000000000 ∨ 1000000000 < a * b
    · simp only [if_pos q]; exact ⟨fun _ => by omega, fun w h => (nomatch h)⟩
    · simp only [if_neg q]; exact ⟨fun h => (nomatch h), fun w h => by cases h; rfl⟩
  simp only [if_neg c]
  refine Ev_c (fun c => ?_) (fun c => ?_)
  · simp only [if_pos c]
    refine Ev_c (fun d => Ev_ret ⟨_, rfl, ?_⟩) (fun d => Ev_t d (Ev_t (by omega) (Ev_ret ⟨_, rfl, ?_⟩)))
    · simp only [if_pos (show b = 0 ∨ Int.tdiv a b < -1000000000 ∨ 1000000000 < Int.tdiv a b from Or.inl d)]
      exact ⟨fun _ => by omega, fun w h => (nomatch h)⟩
    · by_cases q : b = 0 ∨ Int.tdiv a b < -1000000000 ∨ 1000000000 < Int.tdiv a b
      · simp only [if_pos q]; exact ⟨fun _ => by omega, fun w h => (nomatch h)⟩
      · simp only [if_neg q]; exact ⟨fun h => (nomatch h), fun w h => by cases h; rfl⟩
  simp only [if_neg c]
  refine Ev_c (fun c => ?_) (fun c => ?_)
  · simp only [if_pos c]
    refine Ev_c (fun d => Ev_ret ⟨_, rfl, ?_⟩) (fun d => Ev_ret ⟨_, rfl, ?_⟩)
    · simp only [if_neg (show ¬ a < b by omega)]; exact ⟨fun h => (nomatch h), fun w h => by cases h; rfl⟩
    · simp only [if_pos (show a < b by omega)]; exact ⟨fun h => (nomatch h), fun w h => by cases h; rfl⟩
  simp only [if_neg c]
  refine Ev_c (fun c => ?_) (fun c => ?_)
  · simp only [if_pos c]
    refine Ev_c (fun d => Ev_ret ⟨_, rfl, ?_⟩) (fun d => Ev_ret ⟨_, rfl, ?_⟩)
    · simp only [if_neg (show ¬ b < a by omega)]; exact ⟨fun h => (nomatch h), fun w h => by cases h; rfl⟩
    · simp only [if_pos (show b < a by omega)]; exact ⟨fun h => (nomatch h), fun w h => by cases h; rfl⟩
  simp only [if_neg c]
  refine Ev_c (fun d => Ev_ret ⟨_, rfl, ?_⟩) (fun d => Ev_ret ⟨_, rfl, ?_⟩)
  · simp only [if_pos d]; exact ⟨fun h => (nomatch h), fun w h => by cases h; rfl⟩
  · simp only [if_neg d]; exact ⟨fun h => (nomatch h), fun w h => by cases h; rfl⟩
def FrK (J J' : JI) : Prop := ∀ a i, ¬ (a = 21 ∧ i = 3) → ¬ a = 23 → J' a i = J a i
theorem R74 {tr : Nat} {a b : Int} {d : Den} {h : Nat} {φ : Int → Int} {x1 x2 x3 x4 x5 : Int} (htr : tr = 9 ∨ tr = 93) (hT : TrO e tr) (hd : 1 ≤ dp) (hs : Seg (cC tr J) a b d h) (hh : h ≤ 50) (ha : 0 ≤ a) (hb : b ≤ 400) (hf : Fg φ) (hφ : ∀ i, 0 ≤ i → i < 5 → J 22 i = φ i) (h0 : J 21 3 = 0) : Ev (fun n => kf_74 n dp e 0 J M a b x1 x2 x3 x4 x5 tr) (fun r => r.2.2 = M ∧ FrK J r.2.1 ∧ ((∃ v, d φ = some v ∧ r.1 = v ∧ r.2.1 21 3 = 0) ∨ (d φ = none ∧ r.2.1 21 3 = 1))) := by
  obtain ⟨l1, l2, l3, l4⟩ := hs
  have t9 := hT.2.2.2.2.2.2.2.2.2.1
  have t10 := hT.2.2.2.2.2.2.2.2.2.2
  have key := l4 φ hf (fun p s => ∀ (J' : JI) (tk : Int), FrK J J' → J' 21 3 = 0 → Stk (J' 23) s → a ≤ p → p ≤ b → a ≤ tk → tk ≤ p → Ev (fun n => kf_74 n dp e 1 J' M a b s.length p tk 0 0 tr) (fun r => r.2.2 = M ∧ FrK J r.2.1 ∧ ((∃ v, d φ = some v ∧ r.1 = v ∧ r.2.1 21 3 = 0) ∨ (d φ = none ∧ r.2.1 21 3 = 1)))) (d φ = none) 50 ?_ [] ⟨by simp, fun v hv => (nomatch hv)⟩ (by simp only [List.length_nil]; omega) ⟨fun h => h, fun v hv J' tk f1 f2 f3 p1 p2 p3 p4 => ?_⟩
  · refine ev_74_0 ?_
    exact key J a (fun _ _ _ _ => rfl) h0 trivial (by omega) (by omega) (by omega) (by omega)
  · intro p s pa pb wf gd af J' tk f1 f2 f3 _ _ tk1 tk2
    have gl := gd.1
    have c9 : J' (tr + 9) p = (cC tr J p).1 := f1 _ _ (by omega) (by omega)
    have c10 : J' (tr + 10) p = (cC tr J p).2 := f1 _ _ (by omega) (by omega)
    obtain ⟨w1, w2', w3⟩ := wf
    /- label 6: on -/
    have six : ∀ (K : JI) (q : Int) (u : List Int) (y z : Int), FrK J K → K 21 3 = 0 → Stk (K 23) u → p < q → q ≤ b → (∀ (K : JI) (tk : Int), FrK J K → K 21 3 = 0 → Stk (K 23) u → a ≤ q → q ≤ b → a ≤ tk → tk ≤ q → Ev (fun n => kf_74 n dp e 1 K M a b u.length q tk 0 0 tr) (fun r => r.2.2 = M ∧ FrK J r.2.1 ∧ ((∃ v, d φ = some v ∧ r.1 = v ∧ r.2.1 21 3 = 0) ∨ (d φ = none ∧ r.2.1 21 3 = 1)))) → Ev (fun n => kf_74 n dp e 6 K M a b u.length q tk y z tr) (fun r => r.2.2 = M ∧ FrK J r.2.1 ∧ ((∃ v, d φ = some v ∧ r.1 = v ∧ r.2.1 21 3 = 0) ∨ (d φ = none ∧ r.2.1 21 3 = 1))) := by
      intro K q u y z k1 k2 k3 k4 k5 k6
      refine ev_74_6 ?_
      exact Ev_t (by omega) (k6 K (tk + 1) k1 k2 k3 (by omega) (by omega) (by omega) (by omega))
    unfold stp at af
    refine ev_74_1 ?_
    refine Ev_f (by omega) (Ev_f (by omega) (Ev_t f2 (Ev_t hT.1 (Ev_R t9.1 (Ev_t ⟨⟨t9.2.1, t9.2.2.1, by rw [t9.2.2.2]; decide⟩, by rw [t9.2.2.2]; omega⟩ (Ev_st (Ev_t hT.1 (Ev_R t10.1 (Ev_t ⟨⟨t10.2.1, t10.2.2.1, by rw [t10.2.2.2]; decide⟩, by rw [t10.2.2.2]; omega⟩ (Ev_st ?_))))))))))
    rw [c9, c10]
    by_cases o0 : (cC tr J p).1 = 0
    · rw [if_pos o0] at af
      obtain ⟨q1, q2, q3, q4⟩ := af.2 _ rfl
      dsimp only at q1 q2 q3 q4
      have g3 := q3.1
      simp only [List.length_cons] at g3
      refine Ev_t o0 (Ev_t (by omega) ?_)
      refine ev_74_2 ?_
      have e1 : min 63 (s.length : Int) = s.length := by omega
      have e2 : min 64 ((s.length : Int) + 1) = (((cC tr J p).2 :: s).length : Nat) := by simp only [List.length_cons]; omega
      rw [e1]
      refine Ev_t hd (Ev_t o0 (Ev_t (by omega) (Ev_st (Ev_t hd (Ev_t (by omega) ?_)))))
      rw [e2]
      refine Ev_st (six _ (p + 1) _ _ _ (fun a i h1 h2 => ?_) ?_ ⟨?_, Stk_c s (fun i i0 i1 => ?_) f3⟩ q1 q2 q4)
      · rw [w2_n (by omega)]; exact f1 a i h1 h2
      · rw [w2_n (by omega)]; exact f2
      · rw [w2_ap, if_pos ⟨rfl, rfl⟩]
      · exact w2_n (by omega)
    rw [if_neg o0] at af
    by_cases o1 : (cC tr J p).1 = 1
    · rw [if_pos o1] at af
      obtain ⟨q1, q2, q3, q4⟩ := af.2 _ rfl
      dsimp only at q1 q2 q3 q4
      have g3 := q3.1
      have x5 := w3 o1
      simp only [List.length_cons] at g3
      refine Ev_f o0 (Ev_t o1 (Ev_t (by omega) ?_))
      refine ev_74_2 ?_
      have e1 : min 63 (s.length : Int) = s.length := by omega
      have e2 : min 64 ((s.length : Int) + 1) = ((φ (cC tr J p).2 :: s).length : Nat) := by simp only [List.length_cons]; omega
      have e3 : J' 22 (cC tr J p).2 = φ (cC tr J p).2 := by rw [f1 _ _ (by omega) (by omega)]; exact hφ _ x5.1 x5.2
      rw [e1, e3]
      refine Ev_t hd (Ev_f o0 (Ev_t (by omega) (Ev_t (by omega) (Ev_st (Ev_t hd (Ev_t (by omega) ?_))))))
      rw [e2]
      refine Ev_st (six _ (p + 1) _ _ _ (fun a i h1 h2 => ?_) ?_ ⟨?_, Stk_c s (fun i i0 i1 => ?_) f3⟩ q1 q2 q4)
      · rw [w2_n (by omega)]; exact f1 a i h1 h2
      · rw [w2_n (by omega)]; exact f2
      · rw [w2_ap, if_pos ⟨rfl, rfl⟩]
      · exact w2_n (by omega)
    rw [if_neg o1] at af
    refine Ev_f o0 (Ev_f o1 ?_)
    by_cases o9 : (cC tr J p).1 = 9
    · rw [if_pos o9] at af
      cases s with
      | nil => have := (af.2 _ rfl).1; dsimp only at this; omega
      | cons v s =>
        obtain ⟨q1, q2, q3, q4⟩ := af.2 _ rfl
        dsimp only at q1 q2 q3 q4
        have g3 := q3.1
        have gv := gd.2 v (List.mem_cons_self ..)
        obtain ⟨f31, f32⟩ := f3
        simp only [List.length_cons] at g3 ⊢
        have e1 : (((s.length + 1 : Nat) : Int) - 1) = s.length := by omega
        rw [e1, f31]
        refine Ev_t o9 (Ev_f (by omega) (Ev_t (by omega) (Ev_t (by omega) (Ev_t (by omega) (Ev_t (by omega) (Ev_st (Ev_t (by omega) ?_)))))))
        have := six (w2 J' 23 s.length (1 - v)) (p + 1) ((1 - v) :: s) (cC tr J p).1 (cC tr J p).2 (fun a i h1 h2 => by rw [w2_n (by omega)]; exact f1 a i h1 h2) (by rw [w2_n (by omega)]; exact f2) ⟨by rw [w2_ap, if_pos ⟨rfl, rfl⟩], Stk_c s (fun i i0 i1 => w2_n (by omega)) f32⟩ q1 q2 q4
        simp only [List.length_cons] at this
        exact this
    rw [if_neg o9] at af
    refine Ev_f o9 (Ev_t (by omega) ?_)
    refine ev_74_3 ?_
    by_cases oo : (cC tr J p).1 = 10 ∨ (cC tr J p).1 = 11
    · rw [if_pos oo] at af
      cases s with
      | nil => have := (af.2 _ rfl).1; dsimp only at this; omega
      | cons v s =>
        obtain ⟨f31, f32⟩ := f3
        simp only [List.length_cons]
        have four : Ev (fun n => kf_74 n dp e 4 J' M a b ((s.length + 1 : Nat) : Int) (p + 1) tk (cC tr J p).1 (cC tr J p).2 tr) (fun r => r.2.2 = M ∧ FrK J r.2.1 ∧ ((∃ v, d φ = some v ∧ r.1 = v ∧ r.2.1 21 3 = 0) ∨ (d φ = none ∧ r.2.1 21 3 = 1))) := by
          refine ev_74_4 ?_
          have e1 : (((s.length + 1 : Nat) : Int) - 1) = s.length := by omega
          have e4 : ((s.length + 1 : Nat) : Int) + (-1) = s.length := by omega
          rw [e1, f31, e4]
          have gl' := gl
          simp only [List.length_cons] at gl'
          refine Ev_f (by omega) (Ev_t (by omega) (Ev_t (by omega) ?_))
          have fin : v = (if (cC tr J p).1 = 10 then 1 else 0) → Ev (fun n => if 1 ≤ dp then stI (max (p + 1) (cC tr J p).2) (fun v_188 => kf_74 n dp e 6 J' M a b ((s.length + 1 : Nat) : Int) v_188 tk (cC tr J p).1 (cC tr J p).2 tr) else none) (fun r => r.2.2 = M ∧ FrK J r.2.1 ∧ ((∃ v, d φ = some v ∧ r.1 = v ∧ r.2.1 21 3 = 0) ∨ (d φ = none ∧ r.2.1 21 3 = 1))) := by
            intro hv
            dsimp only at af
            rw [if_pos hv] at af
            obtain ⟨q1, q2, q3, q4⟩ := af.2 _ rfl
            dsimp only at q1 q2 q3 q4
            have em : max (p + 1) (cC tr J p).2 = (cC tr J p).2 := by omega
            rw [em]
            have := six J' (cC tr J p).2 (v :: s) (cC tr J p).1 (cC tr J p).2 f1 f2 ⟨f31, f32⟩ q1 q2 q4
            simp only [List.length_cons] at this
            exact Ev_t hd (Ev_st this)
          have pop : ¬ v = (if (cC tr J p).1 = 10 then 1 else 0) → Ev (fun n => if -2147483648 ≤ (s.length : Int) ∧ (s.length : Int) ≤ 2147483647 then kf_74 n dp e 6 J' M a b s.length (p + 1) tk (cC tr J p).1 (cC tr J p).2 tr else none) (fun r => r.2.2 = M ∧ FrK J r.2.1 ∧ ((∃ v, d φ = some v ∧ r.1 = v ∧ r.2.1 21 3 = 0) ∨ (d φ = none ∧ r.2.1 21 3 = 1))) := by
            intro hv
            dsimp only at af
            rw [if_neg hv] at af
            obtain ⟨q1, q2, q3, q4⟩ := af.2 _ rfl
            dsimp only at q1 q2 q3 q4
            exact Ev_t (by omega) (six J' (p + 1) s (cC tr J p).1 (cC tr J p).2 f1 f2 f32 q1 q2 q4)
          refine Ev_c (fun c => ?_) (fun c => ?_)
          · rw [if_pos c] at fin pop
            exact Ev_c fin pop
          · rw [if_neg c] at fin pop
            exact Ev_c fin pop
        rcases oo with c | c
        · exact Ev_t c four
        · exact Ev_f (by omega) (Ev_t c four)
    rw [if_neg oo] at af
    refine Ev_f (by omega) (Ev_f (by omega) ?_)
    cases s with
    | nil => have := (af.2 _ rfl).1; dsimp only at this; omega
    | cons y s =>
      cases s with
      | nil => have := (af.2 _ rfl).1; dsimp only at this; omega
      | cons x s =>
        obtain ⟨f31, f32, f33⟩ := f3
        have gl' := gl
        have gy := gd.2 y (List.mem_cons_self ..)
        have gx := gd.2 x (List.mem_cons_of_mem _ (List.mem_cons_self ..))
        simp only [List.length_cons] at gl' f31 ⊢
        refine ev_74_5 ?_
        have e1 : ((s.length + 1 + 1 : Nat) : Int) + (-1) - 1 = s.length := by omega
        have e2 : ((s.length + 1 + 1 : Nat) : Int) + (-1) = ((s.length + 1 : Nat) : Int) := by omega
        refine Ev_f (by omega) (Ev_t (by omega) (Ev_t (by omega) (Ev_t (by omega) (Ev_t hd ?_))))
        rw [e1, e2, f31, f32]
        refine Ev_bind (K76 (by omega) gx gy) ?_
        rintro r ⟨v, rfl, v1, v2⟩
        dsimp only at af ⊢
        cases ej : jn (cC tr J p).1 x y with
        | none =>
          have vv := v1 ej
          rw [ej] at af
          have dn := af.1 rfl
          have brk : Ev (fun n => stI (w2 J' 21 3 1) (fun I_257 => if 0 ≤ (s.length : Int) ∧ (s.length : Int) < 64 then stI (w2 I_257 23 s.length (l2i v)) (fun I_271 => kf_74 n dp e 6 I_271 M a b ((s.length + 1 : Nat) : Int) (p + 1) tk (cC tr J p).1 (cC tr J p).2 tr) else none)) (fun r => r.2.2 = M ∧ FrK J r.2.1 ∧ ((∃ v, d φ = some v ∧ r.1 = v ∧ r.2.1 21 3 = 0) ∨ (d φ = none ∧ r.2.1 21 3 = 1))) := by
            refine Ev_st (Ev_t (by omega) (Ev_st ?_))
            have k3 : (w2 (w2 J' 21 3 1) 23 s.length (l2i v)) 21 3 = 1 := by rw [w2_n (by omega), w2_ap, if_pos ⟨rfl, rfl⟩]
            have fk : FrK J (w2 (w2 J' 21 3 1) 23 s.length (l2i v)) := fun a i h1 h2 => by rw [w2_n (by omega), w2_n (by omega)]; exact f1 a i h1 h2
            have sev : ∀ q t : Int, Ev (fun n => kf_74 n dp e 7 (w2 (w2 J' 21 3 1) 23 s.length (l2i v)) M a b ((s.length + 1 : Nat) : Int) q t 0 0 tr) (fun r => r.2.2 = M ∧ FrK J r.2.1 ∧ ((∃ v, d φ = some v ∧ r.1 = v ∧ r.2.1 21 3 = 0) ∨ (d φ = none ∧ r.2.1 21 3 = 1))) := by
              intro q t
              refine ev_74_7 ?_
              exact Ev_f (by omega) (Ev_t (by omega) (Ev_t (by omega) (Ev_ret ⟨rfl, fk, Or.inr ⟨dn, k3⟩⟩)))
            refine ev_74_6 ?_
            refine Ev_t (by omega) ?_
            refine ev_74_1 ?_
            exact Ev_c (fun _ => sev _ _) (fun _ => Ev_c (fun _ => sev _ _) (fun _ => Ev_f (by rw [k3]; decide) (sev _ _)))
          refine Ev_c (fun _ => brk) (fun c1 => Ev_f (by omega) brk)
        | some w =>
          have vw := v2 w ej
          have jb := jn_b ej
          rw [ej] at af
          obtain ⟨q1, q2, q3, q4⟩ := af.2 _ rfl
          dsimp only at q1 q2 q3 q4
          have el : l2i v = w := by rw [vw]; exact l2i_s (by omega)
          refine Ev_f (by omega) (Ev_t (by omega) (Ev_st (Ev_t (by omega) ?_)))
          rw [el]
          refine Ev_st ?_
          have := six (w2 (w2 J' 21 3 0) 23 s.length w) (p + 1) (w :: s) (cC tr J p).1 (cC tr J p).2 (fun a i h1 h2 => by rw [w2_n (by omega), w2_n (by omega)]; exact f1 a i h1 h2) (by rw [w2_n (by omega), w2_ap, if_pos ⟨rfl, rfl⟩]) ⟨by rw [w2_ap, if_pos ⟨rfl, rfl⟩], Stk_c s (fun i i0 i1 => by rw [w2_n (by omega), w2_n (by omega)]) f33⟩ q1 q2 q4
          simp only [List.length_cons] at this
          exact this
  · have sev : Ev (fun n => kf_74 n dp e 7 J' M a b 1 b tk 0 0 tr) (fun r => r.2.2 = M ∧ FrK J r.2.1 ∧ ((∃ v, d φ = some v ∧ r.1 = v ∧ r.2.1 21 3 = 0) ∨ (d φ = none ∧ r.2.1 21 3 = 1))) := by
      refine ev_74_7 ?_
      refine Ev_f (by decide) (Ev_t (by decide) (Ev_t (by decide) (Ev_ret ⟨rfl, f1, Or.inl ⟨v, hv, ?_, f2⟩⟩)))
      exact f3.1
    show Ev (fun n => kf_74 n dp e 1 J' M a b 1 b tk 0 0 tr) _
    refine ev_74_1 ?_
    exact Ev_c (fun _ => sev) (fun _ => Ev_t (by omega) sev)
end RECK
