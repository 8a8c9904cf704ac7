section
set_option maxRecDepth 100000 in
theorem ev_115_1 {dp : Nat} {e : EN} {I : JI} {L : JI} {i1 : Int} {i2 : Int} {i3 : Int} {i4 : Int} {i5 : Int} {i6 : Int} {i7 : Int} {i8 : Int} {i9 : Int} {P_ : (JI × JI) → Prop} (h : Ev (fun n => (if -2147483648 ≤ (I 44 3) + 1 ∧ (I 44 3) + 1 ≤ 2147483647 then (if 0 ≤ ((I 44 3) + 1) ∧ ((I 44 3) + 1) < 10 then (if (I 45 ((I 44 3) + 1)) ≤ i6 then (some (I, L)) else ((e.2.2 44 4).bind (fun b_69 => (if ((b_69 < e.1) ∧ (((e.2.1 b_69).1 = 13) ∧ ((e.2.1 b_69).2 < (2 ^ 31)))) ∧ (0 ≤ i6 ∧ i6 < (((e.2.1 b_69).2 : Nat) : Int)) then (stI (I b_69 i6) (fun v_75 => ((e.2.2 44 5).bind (fun b_78 => (if ((b_78 < e.1) ∧ (((e.2.1 b_78).1 = 13) ∧ ((e.2.1 b_78).2 < (2 ^ 31)))) ∧ (0 ≤ i6 ∧ i6 < (((e.2.1 b_78).2 : Nat) : Int)) then (if 1 ≤ dp then ((kf_116 n (dp - 1) e 0 I L v_75).bind (fun ⟨x0_90, I0_90, L0_90⟩ => (if (-2147483648 ≤ (I b_78 i6) + x0_90 ∧ (I b_78 i6) + x0_90 ≤ 2147483647) ∧ (-2147483648 ≤ ((I b_78 i6) + x0_90) + i5 ∧ ((I b_78 i6) + x0_90) + i5 ≤ 2147483647) then (if (I0_90 44 8) ≤ (((I b_78 i6) + x0_90) + i5) then (kf_115 n dp e 2 I0_90 L0_90 i1 i2 i3 i4 i5 i6 v_75 i3 0) else (kf_115 n dp e 4 I0_90 L0_90 i1 i2 i3 i4 i5 i6 v_75 0 0)) else none))) else none) else none))))) else none)))) else none) else none)) P_) : Ev (fun n => kf_115 n dp e 1 I L i1 i2 i3 i4 i5 i6 i7 i8 i9) P_ := Ev_step (fun n => ke_115_1 n dp e I L i1 i2 i3 i4 i5 i6 i7 i8 i9) h
set_option maxRecDepth 100000 in
theorem ev_115_4 {dp : Nat} {e : EN} {I : JI} {L : JI} {i1 : Int} {i2 : Int} {i3 : Int} {i4 : Int} {i5 : Int} {i6 : Int} {i7 : Int} {i8 : Int} {i9 : Int} {P_ : (JI × JI) → Prop} (h : Ev (fun n => (if -2147483648 ≤ i6 + 1 ∧ i6 + 1 ≤ 2147483647 then (kf_115 n dp e 1 I L i1 i2 i3 i4 i5 (i6 + 1) 0 0 0) else none)) P_) : Ev (fun n => kf_115 n dp e 4 I L i1 i2 i3 i4 i5 i6 i7 i8 i9) P_ := Ev_step (fun n => ke_115_4 n dp e I L i1 i2 i3 i4 i5 i6 i7 i8 i9) h
set_option maxRecDepth 100000 in
theorem ev_115_2 {dp : Nat} {e : EN} {I : JI} {L : JI} {i1 : Int} {i2 : Int} {i3 : Int} {i4 : Int} {i5 : Int} {i6 : Int} {i7 : Int} {i8 : Int} {i9 : Int} {P_ : (JI × JI) → Prop} (h : Ev (fun n => (if i4 ≤ i8 then (kf_115 n dp e 4 I L i1 i2 i3 i4 i5 i6 i7 0 0) else ((e.2.2 44 5).bind (fun b_118 => (if ((b_118 < e.1) ∧ (((e.2.1 b_118).1 = 13) ∧ ((e.2.1 b_118).2 < (2 ^ 31)))) ∧ (0 ≤ i6 ∧ i6 < (((e.2.1 b_118).2 : Nat) : Int)) then (if 0 ≤ i8 ∧ i8 < 192 then (if i8 = i2 then (if 0 ≤ i8 ∧ i8 < 192 then (if 1 ≤ dp then ((kf_111 n (dp - 1) e 0 I L i7 (I 27 i8)).bind (fun ⟨x0_163, I0_163, L0_163⟩ => (if 1 ≤ dp then ((kf_116 n (dp - 1) e 0 I0_163 L0_163 x0_163).bind (fun ⟨x1_166, I1_166, L1_166⟩ => (if (-2147483648 ≤ (I b_118 i6) + (I 28 i8) ∧ (I b_118 i6) + (I 28 i8) ≤ 2147483647) ∧ (-2147483648 ≤ ((I b_118 i6) + (I 28 i8)) + 1 ∧ ((I b_118 i6) + (I 28 i8)) + 1 ≤ 2147483647) ∧ (-2147483648 ≤ (((I b_118 i6) + (I 28 i8)) + 1) + x1_166 ∧ (((I b_118 i6) + (I 28 i8)) + 1) + x1_166 ≤ 2147483647) then (stI ((((I b_118 i6) + (I 28 i8)) + 1) + x1_166) (fun v_170 => (if v_170 ≤ (I1_166 44 8) then (if v_170 = (I1_166 44 8) then ((e.2.2 44 6).bind (fun b_230 => (if ((b_230 < e.1) ∧ (((e.2.1 b_230).1 = 13) ∧ ((e.2.1 b_230).2 < (2 ^ 31)))) ∧ (0 ≤ i6 ∧ i6 < (((e.2.1 b_230).2 : Nat) : Int)) then (if 0 ≤ i8 ∧ i8 < 192 then (if 1 ≤ dp then ((kf_113 n (dp - 1) e 0 I1_166 L1_166 (I1_166 44 9) (I1_166 b_230 i6) (I1_166 29 i8)).bind (fun ⟨x2_246, I2_246, L2_246⟩ => (stI (w2 I2_246 44 9 x2_246) (fun I_249 => (kf_115 n dp e 3 I_249 L2_246 i1 i2 i3 i4 i5 i6 i7 i8 v_170))))) else none) else none) else none))) else (kf_115 n dp e 3 I1_166 L1_166 i1 i2 i3 i4 i5 i6 i7 i8 v_170)) else (stI (w2 I1_166 44 8 v_170) (fun I_184 => ((e.2.2 44 6).bind (fun b_190 => (if ((b_190 < e.1) ∧ (((e.2.1 b_190).1 = 13) ∧ ((e.2.1 b_190).2 < (2 ^ 31)))) ∧ (0 ≤ i6 ∧ i6 < (((e.2.1 b_190).2 : Nat) : Int)) then (if 0 ≤ i8 ∧ i8 < 192 then (if 1 ≤ dp then ((kf_113 n (dp - 1) e 0 I_184 L1_166 0 (I_184 b_190 i6) (I_184 29 i8)).bind (fun ⟨x2_206, I2_206, L2_206⟩ => (stI (w2 I2_206 44 9 x2_206) (fun I_209 => (kf_115 n dp e 3 I_209 L2_206 i1 i2 i3 i4 i5 i6 i7 i8 v_170))))) else none) else none) else none)))))))) else none))) else none))) else none) else none) else (if 0 ≤ i8 ∧ i8 < 192 then (if 1 ≤ dp then ((kf_111 n (dp - 1) e 0 I L i7 (I 27 i8)).bind (fun ⟨x0_163, I0_163, L0_163⟩ => (if 1 ≤ dp then ((kf_116 n (dp - 1) e 0 I0_163 L0_163 x0_163).bind (fun ⟨x1_166, I1_166, L1_166⟩ => (if (-2147483648 ≤ (I b_118 i6) + (I 28 i8) ∧ (I b_118 i6) + (I 28 i8) ≤ 2147483647) ∧ (-2147483648 ≤ ((I b_118 i6) + (I 28 i8)) + 0 ∧ ((I b_118 i6) + (I 28 i8)) + 0 ≤ 2147483647) ∧ (-2147483648 ≤ (((I b_118 i6) + (I 28 i8)) + 0) + x1_166 ∧ (((I b_118 i6) + (I 28 i8)) + 0) + x1_166 ≤ 2147483647) then (stI ((((I b_118 i6) + (I 28 i8)) + 0) + x1_166) (fun v_170 => (if v_170 ≤ (I1_166 44 8) then (if v_170 = (I1_166 44 8) then ((e.2.2 44 6).bind (fun b_230 => (if ((b_230 < e.1) ∧ (((e.2.1 b_230).1 = 13) ∧ ((e.2.1 b_230).2 < (2 ^ 31)))) ∧ (0 ≤ i6 ∧ i6 < (((e.2.1 b_230).2 : Nat) : Int)) then (if 0 ≤ i8 ∧ i8 < 192 then (if 1 ≤ dp then ((kf_113 n (dp - 1) e 0 I1_166 L1_166 (I1_166 44 9) (I1_166 b_230 i6) (I1_166 29 i8)).bind (fun ⟨x2_246, I2_246, L2_246⟩ => (stI (w2 I2_246 44 9 x2_246) (fun I_249 => (kf_115 n dp e 3 I_249 L2_246 i1 i2 i3 i4 i5 i6 i7 i8 v_170))))) else none) else none) else none))) else (kf_115 n dp e 3 I1_166 L1_166 i1 i2 i3 i4 i5 i6 i7 i8 v_170)) else (stI (w2 I1_166 44 8 v_170) (fun I_184 => ((e.2.2 44 6).bind (fun b_190 => (if ((b_190 < e.1) ∧ (((e.2.1 b_190).1 = 13) ∧ ((e.2.1 b_190).2 < (2 ^ 31)))) ∧ (0 ≤ i6 ∧ i6 < (((e.2.1 b_190).2 : Nat) : Int)) then (if 0 ≤ i8 ∧ i8 < 192 then (if 1 ≤ dp then ((kf_113 n (dp - 1) e 0 I_184 L1_166 0 (I_184 b_190 i6) (I_184 29 i8)).bind (fun ⟨x2_206, I2_206, L2_206⟩ => (stI (w2 I2_206 44 9 x2_206) (fun I_209 => (kf_115 n dp e 3 I_209 L2_206 i1 i2 i3 i4 i5 i6 i7 i8 v_170))))) else none) else none) else none)))))))) else none))) else none))) else none) else none)) else none) else none))))) P_) : Ev (fun n => kf_115 n dp e 2 I L i1 i2 i3 i4 i5 i6 i7 i8 i9) P_ := Ev_step (fun n => ke_115_2 n dp e I L i1 i2 i3 i4 i5 i6 i7 i8 i9) h
set_option maxRecDepth 100000 in
theorem ev_115_3 {dp : Nat} {e : EN} {I : JI} {L : JI} {i1 : Int} {i2 : Int} {i3 : Int} {i4 : Int} {i5 : Int} {i6 : Int} {i7 : Int} {i8 : Int} {i9 : Int} {P_ : (JI × JI) → Prop} (h : Ev (fun n => (if -2147483648 ≤ i8 + 1 ∧ i8 + 1 ≤ 2147483647 then (kf_115 n dp e 2 I L i1 i2 i3 i4 i5 i6 i7 (i8 + 1) 0) else none)) P_) : Ev (fun n => kf_115 n dp e 3 I L i1 i2 i3 i4 i5 i6 i7 i8 i9) P_ := Ev_step (fun n => ke_115_3 n dp e I L i1 i2 i3 i4 i5 i6 i7 i8 i9) h
set_option maxRecDepth 100000 in
theorem ev_115_0 {dp : Nat} {e : EN} {I : JI} {L : JI} {i1 : Int} {i2 : Int} {i3 : Int} {i4 : Int} {i5 : Int} {i6 : Int} {i7 : Int} {i8 : Int} {i9 : Int} {P_ : (JI × JI) → Prop} (h : Ev (fun n => (if 0 ≤ i1 ∧ i1 < 3 then (if (-2147483648 ≤ i1 * 64 ∧ i1 * 64 ≤ 2147483647) ∧ (-2147483648 ≤ (i1 * 64) + (I 32 i1) ∧ (i1 * 64) + (I 32 i1) ≤ 2147483647) then (stI ((i1 * 64) + (I 32 i1)) (fun v_16 => (if 0 ≤ i1 ∧ i1 < 3 then (if -2147483648 ≤ (I 33 i1) + 1 ∧ (I 33 i1) + 1 ≤ 2147483647 then (stI ((I 33 i1) + 1) (fun v_29 => (stI (w2 I 44 8 (-1)) (fun I_33 => (stI (w2 I_33 44 9 0) (fun I_38 => (if 0 ≤ (I_38 44 3) ∧ (I_38 44 3) < 10 then (stI (I_38 45 (I_38 44 3)) (fun v_50 => (kf_115 n dp e 1 I_38 L i1 i2 (i1 * 64) v_16 v_29 v_50 0 0 0))) else none))))))) else none) else none))) else none) else none)) P_) : Ev (fun n => kf_115 n dp e 0 I L i1 i2 i3 i4 i5 i6 i7 i8 i9) P_ := Ev_step (fun n => ke_115_0 n dp e I L i1 i2 i3 i4 i5 i6 i7 i8 i9) h
end
/-! THE CLASS'S PLANS: the last carcass -/
/-- the most so far, or nothing yet -/
def RnM {α : Type} (l : List α) (val : α → Int) (D : α → Prop) (b n : Int) : Prop := ((∀ x ∈ l, ¬ D x) ∧ b = -1 ∧ n = 0) ∨ (MxH l val D b n ∧ 0 ≤ b ∧ n ≤ 1000000000)
theorem RnM_c {α : Type} {l : List α} {val : α → Int} {D D' : α → Prop} {b n : Int} (hD : ∀ y ∈ l, D' y ↔ D y) (h : RnM l val D b n) : RnM l val D' b n := by
  rcases h with ⟨h1, h2⟩ | ⟨h1, h2⟩
  · exact Or.inl ⟨fun x hx d => h1 x hx ((hD x hx).1 d), h2⟩
  · exact Or.inr ⟨MxH_c hD (fun _ _ _ => rfl) h1, h2⟩
theorem RnM_s {α : Type} {l : List α} {val : α → Int} {D D1 H2 : α → Prop} {b n s c b' n' : Int} (h : RnM l val D b n) (g : MxH l val H2 s c) (hD : ∀ x ∈ l, ¬ (D x ∧ H2 x)) (hU : ∀ x ∈ l, D1 x ↔ D x ∨ H2 x) (h0 : 0 ≤ s) (hc : c ≤ 1000000000) (hx : (b < s ∧ b' = s ∧ n' = c) ∨ (s = b ∧ b' = b ∧ n' = min (n + c) 1000000000) ∨ (s < b ∧ b' = b ∧ n' = n)) : RnM l val D1 b' n' := by
  have c0 := g.2.2.1
  rcases h with ⟨h1, h2, h3⟩ | ⟨h1, h2, h3⟩
  · rcases hx with ⟨x1, rfl, rfl⟩ | ⟨x1, x2, x3⟩ | ⟨x1, x2, x3⟩
    · refine Or.inr ⟨MxH_c (fun x hx => ?_) (fun _ _ _ => rfl) g, h0, hc⟩
      exact ⟨fun d => ((hU x hx).1 d).elim (fun z => absurd z (h1 x hx)) id, fun d => (hU x hx).2 (Or.inr d)⟩
    · omega
    · omega
  · have n0 := h1.2.2.1
    have J := MxH_j h1 g hD hU
    rcases hx with ⟨x1, rfl, rfl⟩ | ⟨x1, rfl, rfl⟩ | ⟨x1, rfl, rfl⟩
    · exact Or.inr ⟨J.1 x1, h0, hc⟩
    · exact Or.inr ⟨J.2.1 x1 _ (by omega) (by omega), h2, by omega⟩
    · exact Or.inr ⟨J.2.2 x1, h2, h3⟩
theorem RnM_k {α : Type} {l : List α} {val : α → Int} {D D1 H2 : α → Prop} {b n : Int} (h : RnM l val D b n) (hU : ∀ x ∈ l, D1 x ↔ D x ∨ H2 x) (hv : ∀ x ∈ l, H2 x → val x < b ∧ 0 ≤ val x) : RnM l val D1 b n := by
  rcases h with ⟨h1, h2, h3⟩ | ⟨h1, h2, h3⟩
  · refine Or.inl ⟨fun x hx d => ?_, h2, h3⟩
    rcases (hU x hx).1 d with z | z
    · exact h1 x hx z
    · have := hv x hx z; omega
  · exact Or.inr ⟨MxH_g h1 hU (fun x hx z => (hv x hx z).1) rfl rfl, h2, h3⟩
theorem DnP_r {m N n : Nat} {os : List OF} {F Fg S C Gg Ag gn fi : Nat → Int} {fl : SX → Int} (h : LyN (Sq os) (fun x => x.1) fl (fun _ => True) N F S C) (g : GpN m gn fi n Fg Gg Ag) {e0 : Nat} (he : e0 < N) : ∀ y ∈ pr m (Sq os), DnP N n F Fg fi fl (e0 + 1) 0 y ↔ DnP N n F Fg fi fl e0 0 y ∨ fl y.2 = F e0 := by
  intro y hy
  constructor
  · rintro ⟨e, k, a, b, c, d, z⟩
    by_cases q : e = e0
    · subst q
      exact Or.inr c
    · exact Or.inl ⟨e, k, a, b, c, d, by omega⟩
  · rintro (⟨e, k, a, b, c, d, z⟩ | x)
    · exact ⟨e, k, a, b, c, d, by omega⟩
    · obtain ⟨k, r, s⟩ := g.2.1 y.1 (pr_i.1 hy).1
      exact ⟨e0, k, he, r, x, s, by omega⟩
section VA
variable {rn : Nat} {od : Nat → Int} {wn bn : Int → Int}
theorem bo_n {T : Int → Int} (hO : odO rn od wn) : boC rn od wn bn T = sN (fun k => min (wn (od k)) (T (od k)) * (16 * bn (od k))) rn := by
  have e : ∀ j : Nat, rn + j ≤ 5 → sN (fun k => fiF rn od wn T k * boF rn od bn k) (rn + j) = sN (fun k => min (wn (od k)) (T (od k)) * (16 * bn (od k))) rn := by
    intro j
    induction j with
    | zero =>
      intro _
      refine sN_c rn (fun k hk => ?_)
      unfold fiF boF
      rw [if_pos hk, if_pos hk]
    | succ j ih =>
      intro hj
      rw [show rn + (j + 1) = rn + j + 1 by omega, sN, ih (by omega)]
      have : fiF rn od wn T (rn + j) = 0 := by unfold fiF; rw [if_neg (by omega)]
      rw [this]
      omega
  have h5 := hO.1
  have r := e (5 - rn) (by omega)
  rw [show rn + (5 - rn) = 5 by omega] at r
  exact r
theorem bo_s {T : Int → Int} (hO : odO rn od wn) (hs : ∀ f : Int → Int, sN (fun k => f (od k)) rn = sm (fun p => if 0 < wn p ∧ ¬ bn p = 0 then f p else 0) 10) : boC rn od wn bn T = 16 * sm (fun p => if 0 < wn p then min (wn p) (T p) * bn p else 0) 10 := by
  rw [bo_n hO, hs (fun p => min (wn p) (T p) * (16 * bn p))]
  have e : ∀ n : Nat, sm (fun p => if 0 < wn p ∧ ¬ bn p = 0 then min (wn p) (T p) * (16 * bn p) else 0) n = 16 * sm (fun p => if 0 < wn p then min (wn p) (T p) * bn p else 0) n := by
    intro n
    induction n with
    | zero => rfl
    | succ n ih =>
      rw [sm_s, sm_s, ih, Int.mul_add]
      congr 1
      by_cases c : 0 < wn n
      · by_cases d : bn n = 0
        · rw [if_neg (fun z => z.2 d), if_pos c, d]; omega
        · rw [if_pos ⟨c, d⟩, if_pos c, Int.mul_left_comm]
      · rw [if_neg (fun z => c z.1), if_neg c]; rfl
  exact e 10
theorem bo_v {x : SX} (hO : odO rn od wn) (hs : ∀ f : Int → Int, sN (fun k => f (od k)) rn = sm (fun p => if 0 < wn p ∧ ¬ bn p = 0 then f p else 0) 10) : x.1 + boC rn od wn bn x.2 = vT wn bn 16 (fun _ => 0) x := by
  rw [bo_s hO hs]
  unfold vT
  simp only [Int.zero_add]
theorem bo_b {T : Int → Int} (hO : odO rn od wn) (hb : bdF (cpF rn od wn) (stF rn od wn) (boF rn od bn)) (hT : ∀ p, 0 ≤ T p) : -800000 ≤ boC rn od wn bn T ∧ boC rn od wn bn T ≤ 800000 := by
  have := sN_b (f := fun k => fiF rn od wn T k * boF rn od bn k) (A := 160000) (by decide) 5 (fun k hk => (dst_b hb (fun k _ => by have := fi_b hO hT k; omega) hk).2)
  unfold boC
  omega
/-- one carcass more adds no more than this -/
theorem bo_m {T l : Int → Int} (hO : odO rn od wn) (hT : ∀ p, 0 ≤ T p) (hl : ∀ p, 0 ≤ l p) : boC rn od wn bn (fun p => l p + T p) ≤ boC rn od wn bn T + mbF rn od bn (fiF rn od wn l) := by
  rw [bo_n hO, bo_n hO]
  unfold mbF
  have e : ∀ n : Nat, n ≤ rn → sN (fun k => min (wn (od k)) (l (od k) + T (od k)) * (16 * bn (od k))) n ≤ sN (fun k => min (wn (od k)) (T (od k)) * (16 * bn (od k))) n + sN (fun f => max 0 (16 * bn (od f)) * fiF rn od wn l f) n := by
    intro n
    induction n with
    | zero => intro _; simp [sN]
    | succ n ih =>
      intro hn
      have r := ih (by omega)
      have q := hO.2 n (by omega)
      have t := hT (od n)
      have s := hl (od n)
      rw [sN, sN, sN]
      have ef : fiF rn od wn l n = min (wn (od n)) (l (od n)) := by unfold fiF; rw [if_pos (by omega)]
      rw [ef]
      generalize hB : 16 * bn (od n) = B
      obtain ⟨u, hu⟩ : ∃ u, min (wn (od n)) (l (od n) + T (od n)) = min (wn (od n)) (T (od n)) + u := ⟨min (wn (od n)) (l (od n) + T (od n)) - min (wn (od n)) (T (od n)), by omega⟩
      rw [hu, Int.add_mul]
      have ub : 0 ≤ u ∧ u ≤ min (wn (od n)) (l (od n)) := by omega
      have key : u * B ≤ max 0 B * min (wn (od n)) (l (od n)) := by
        have h1 : u * B ≤ u * max 0 B := Int.mul_le_mul_of_nonneg_left (by omega) ub.1
        have h2 : u * max 0 B ≤ min (wn (od n)) (l (od n)) * max 0 B := Int.mul_le_mul_of_nonneg_right ub.2 (by omega)
        rw [Int.mul_comm (max 0 B)]
        omega
      omega
  exact e rn (Nat.le_refl _)
end VA
/-- what is gained covers what is over -/
def SqV (ov : Int → Int) (os : List OF) : Prop := ∀ x ∈ Sq os, 16 * sm (fun p => x.2 p * ov p) 10 ≤ x.1
theorem sm_l0 {ov : Int → Int} : ∀ n : Nat, sm (fun p => (0 : Int) * ov p) n = 0
  | 0 => rfl
  | n + 1 => by rw [sm_s, sm_l0 n]; omega
theorem sm_la {ov f g : Int → Int} : ∀ n : Nat, sm (fun p => (f p + g p) * ov p) n = sm (fun p => f p * ov p) n + sm (fun p => g p * ov p) n
  | 0 => rfl
  | n + 1 => by rw [sm_s, sm_s, sm_s, sm_la n, Int.add_mul]; omega
theorem SqV_0 {ov : Int → Int} : SqV ov [] := fun x hx => by
  have : x = (0, fun _ => 0) := by simpa [Sq] using hx
  subst this
  dsimp only
  rw [sm_l0]
  decide
theorem SqV_s {ov : Int → Int} {o : OF} {os : List OF} (ho : ∀ k, k < o.1 → 16 * sm (fun p => o.2.2 k p * ov p) 10 ≤ o.2.1 k) (h : SqV ov os) : SqV ov (o :: os) := fun x hx => by
  obtain ⟨y, hy, rfl⟩ := List.mem_map.1 (show x ∈ (pr o.1 (Sq os)).map (adX o) from hx)
  obtain ⟨y1, y2⟩ := pr_i.1 hy
  have a := ho y.1 y1
  have b := h y.2 y2
  show 16 * sm (fun p => (o.2.2 y.1 p + y.2.2 p) * ov p) 10 ≤ o.2.1 y.1 + y.2.1
  rw [sm_la]
  omega
theorem ofC_v {J : JI} {c k : Nat} {fv : Int} : 16 * sm (fun p => (ofC J c fv).2.2 k p * J 4 (10 + p)) 10 ≤ (ofC J c fv).2.1 k := by
  have e : sm (fun p => (ofC J c fv).2.2 k p * J 4 (10 + p)) 10 = ovK J (58 + 5 * c) k := sm_congr 10 (fun p x y => by
    show (if 0 ≤ p ∧ p < 10 then _ else _) * _ = _
    rw [if_pos ⟨x, by omega⟩])
  rw [e]
  show _ ≤ 16 * ovK J (58 + 5 * c) k + (if J 31 ((c : Int) * 64 + k) = fv then 1 else 0)
  split <;> omega
/-- nothing brings less than nothing -/
theorem vT_0 {wn bn ov : Int → Int} {x : SX} (hv : 16 * sm (fun p => x.2 p * ov p) 10 ≤ x.1) (hx : ∀ p, 0 ≤ x.2 p) (hb : ∀ p, 0 ≤ p → p < 10 → 0 ≤ ov p ∧ -(ov p) ≤ bn p) : 0 ≤ vT wn bn 16 (fun _ => 0) x := by
  unfold vT
  have e : ∀ n : Nat, n ≤ 10 → 0 ≤ sm (fun p => x.2 p * ov p) n + sm (fun p => if 0 < wn p then min (wn p) (0 + x.2 p) * bn p else 0) n := by
    intro n
    induction n with
    | zero => intro _; show (0 : Int) ≤ 0 + 0; decide
    | succ n ih =>
      intro hn
      have r := ih (by omega)
      have q := hb n (by omega) (by omega)
      have s := hx n
      rw [sm_s, sm_s]
      have k : 0 ≤ x.2 n * ov n + (if 0 < wn n then min (wn n) (0 + x.2 n) * bn n else 0) := by
        have t := Int.mul_nonneg s q.1
        split
        · have u1 : min (wn n) (0 + x.2 n) * -(ov n) ≤ min (wn n) (0 + x.2 n) * bn n := Int.mul_le_mul_of_nonneg_left q.2 (by omega)
          have u2 : min (wn n) (0 + x.2 n) * ov n ≤ x.2 n * ov n := Int.mul_le_mul_of_nonneg_right (by omega) q.1
          rw [Int.mul_neg] at u1
          omega
        · omega
      omega
  have := e 10 (Nat.le_refl _)
  show 0 ≤ x.1 + 16 * sm (fun p => if 0 < wn p then min (wn p) (0 + x.2 p) * bn p else 0) 10
  omega
section KN
variable {e : EN} {L : JI} {rn : Nat} {od : Nat → Int} {wn bn : Int → Int} {b4 b5 b6 b7 len sl : Nat}
set_option maxHeartbeats 4000000 in
theorem K115 {dp : Nat} {J : JI} {c m n s0 N D : Nat} {fv tp : Int} {os : List OF} {gn : Nat → Int} {lf : Nat → Int → Int} {F S C Fg Gg Ag : Nat → Int} (hd : 2 ≤ dp) (hE : LyE e b4 b5 b6 b7 len sl) (hc : c < 3) (hO : odO rn od wn) (hb : bdF (cpF rn od wn) (stF rn od wn) (boF rn od bn)) (hT : TbO J (cpF rn od wn) (stF rn od wn) (boF rn od bn)) (h32 : J 32 c = n) (hn : n ≤ 64) (hg : ∀ g : Nat, g < n → J 27 ((c : Int) * 64 + g) = Fg g ∧ J 28 ((c : Int) * 64 + g) + (if (c : Int) * 64 + (g : Int) = fv then 1 else 0) = Gg g ∧ J 29 ((c : Int) * 64 + g) = Ag g ∧ Ag g ≤ 64) (hG : GpN m gn (fun k => pkI (fiF rn od wn (lf k))) n Fg Gg Ag) (hlf : ∀ k, k < m → (0 ≤ gn k ∧ gn k ≤ 31968001) ∧ ∀ p, 0 ≤ lf k p) (h33 : J 33 c = tp) (htp : (∀ k, k < m → gn k + mbF rn od bn (fiF rn od wn (lf k)) ≤ tp + 1) ∧ 0 ≤ tp ∧ tp ≤ 40000000) (hB : SqB os) (hos : os.length ≤ 8) (hL : LyN (Sq os) (fun x => x.1) (fun x => flC rn od wn x.2) (fun _ => True) N F S C) (hF : ∀ e : Nat, e < N → J b4 ((s0 : Int) + e) = F e ∧ J b5 ((s0 : Int) + e) = S e ∧ J b6 ((s0 : Int) + e) = C e) (hl : s0 + N ≤ len) (hD : J 44 3 = D) (hD8 : D ≤ 8) (h45 : J 45 D = s0) (h45' : J 45 ((D : Int) + 1) = (s0 : Int) + N) (hv0 : ∀ y ∈ pr m (Sq os), 0 ≤ gn y.1 + y.2.1 + boC rn od wn bn (adX (m, gn, lf) y).2) (hne : ∃ y, y ∈ pr m (Sq os)) : Ev (fun n => kf_115 n dp e 0 J L c fv 0 0 0 0 0 0 0) (fun r => r.2 = L ∧ (∀ a i, ¬ (a = 44 ∧ (i = 8 ∨ i = 9)) → r.1 a i = J a i) ∧ MxH (Sq ((m, gn, lf) :: os)) (fun x => x.1 + boC rn od wn bn x.2) (fun _ => True) (r.1 44 8) (r.1 44 9) ∧ 0 ≤ r.1 44 8 ∧ r.1 44 9 ≤ 1000000000) := by
  obtain ⟨⟨r4, r5, r6, r7⟩, ⟨y4, y5, y6, y7⟩, ⟨d1, d2, d3, d4, d5, d6⟩, ⟨o4, o5, o6, o7⟩, ⟨⟨l1, l2⟩, lP⟩, l3, l4⟩ := hE
  generalize hval : (fun y : Nat × SX => gn y.1 + y.2.1 + boC rn od wn bn (adX (m, gn, lf) y).2) = val
  have val_e : ∀ y, val y = gn y.1 + y.2.1 + boC rn od wn bn (adX (m, gn, lf) y).2 := fun y => by rw [← hval]
  generalize hQ : (fun r : JI × JI => r.2 = L ∧ (∀ a i, ¬ (a = 44 ∧ (i = 8 ∨ i = 9)) → r.1 a i = J a i) ∧ MxH (Sq ((m, gn, lf) :: os)) (fun x => x.1 + boC rn od wn bn x.2) (fun _ => True) (r.1 44 8) (r.1 44 9) ∧ 0 ≤ r.1 44 8 ∧ r.1 44 9 ≤ 1000000000) = Q
  have key : ∀ e0 : Nat, e0 ≤ N → ∀ K : JI, (∀ a i, ¬ (a = 44 ∧ (i = 8 ∨ i = 9)) → K a i = J a i) → RnM (pr m (Sq os)) val (DnP N n F Fg (fun k => pkI (fiF rn od wn (lf k))) (fun x => flC rn od wn x.2) e0 0) (K 44 8) (K 44 9) → Ev (fun n_1 => kf_115 n_1 dp e 1 K L c fv ((c : Int) * 64) ((c : Int) * 64 + n) (tp + 1) ((s0 : Int) + e0) 0 0 0) Q := by
    refine dec_ind N (fun e0 he0 ih => ?_)
    intro K k1 k2
    have hT2 : TbO K (cpF rn od wn) (stF rn od wn) (boF rn od bn) := TbO_c (fun a i x y => k1 _ _ (by omega)) hT
    refine ev_115_1 ?_
    rw [k1 44 3 (by omega), hD, k1 45 _ (by omega), h45']
    refine Ev_t (by omega) (Ev_t (by omega) ?_)
    by_cases ce : e0 < N
    · have ih := ih ce
      have four : ∀ K : JI, (∀ a i, ¬ (a = 44 ∧ (i = 8 ∨ i = 9)) → K a i = J a i) → RnM (pr m (Sq os)) val (DnP N n F Fg (fun k => pkI (fiF rn od wn (lf k))) (fun x => flC rn od wn x.2) (e0 + 1) 0) (K 44 8) (K 44 9) → ∀ y1 y2 y3 : Int, Ev (fun n_1 => kf_115 n_1 dp e 4 K L c fv ((c : Int) * 64) ((c : Int) * 64 + n) (tp + 1) ((s0 : Int) + e0) y1 y2 y3) Q := by
        intro K u1 u2 y1 y2 y3
        refine ev_115_4 ?_
        refine Ev_t (by omega) ?_
        rw [show (s0 : Int) + (e0 : Int) + 1 = (s0 : Int) + ((e0 + 1 : Nat) : Int) by omega]
        exact ih K u1 u2
      obtain ⟨x0, hx0, fx0, sx0⟩ := (hL.2.2 e0 ce).1.2.1
      have fx0 := fx0.2
      dsimp only at fx0 sx0
      have bx0 := hB x0 hx0
      have c0 : 0 ≤ C e0 ∧ C e0 ≤ 1000000000 := ⟨(hL.2.2 e0 ce).1.2.2.1, (hL.2.2 e0 ce).2⟩
      have f0 := hF e0 ce
      have bS : 0 ≤ S e0 ∧ S e0 ≤ 255744008 := by
        have := bx0.1
        omega
      have b0 := bo_b hO hb bx0.2
      refine Ev_f (by omega) (Ev_R r4 (Ev_t (arI y4 (by omega) (by omega)) (Ev_st (Ev_R r5 (Ev_t (arI y5 (by omega) (by omega)) (Ev_t (by omega) ?_))))))
      rw [k1 b4 _ (by omega), k1 b5 _ (by omega), f0.1, f0.2.1, ← fx0]
      refine Ev_bind (K116j hb hT2 hO bx0.2) ?_
      rintro _ rfl
      dsimp only
      rw [fx0]
      refine Ev_t (by omega) ?_
      /- equal fillings bring alike -/
      have boe : ∀ y ∈ pr m (Sq os), flC rn od wn y.2.2 = F e0 → boC rn od wn bn y.2.2 = boC rn od wn bn x0.2 := fun y hy z => sN_c 5 (fun k hk => by rw [fl_u hO (hB y.2 (pr_i.1 hy).2).2 bx0.2 (z.trans fx0.symm) k hk])
      by_cases cp : K 44 8 ≤ S e0 + boC rn od wn bn x0.2 + (tp + 1)
      · refine Ev_t cp ?_
        have grp : ∀ g : Nat, g ≤ n → ∀ K : JI, (∀ a i, ¬ (a = 44 ∧ (i = 8 ∨ i = 9)) → K a i = J a i) → RnM (pr m (Sq os)) val (DnP N n F Fg (fun k => pkI (fiF rn od wn (lf k))) (fun x => flC rn od wn x.2) e0 g) (K 44 8) (K 44 9) → Ev (fun n_1 => kf_115 n_1 dp e 2 K L c fv ((c : Int) * 64) ((c : Int) * 64 + n) (tp + 1) ((s0 : Int) + e0) (F e0) ((c : Int) * 64 + g) 0) Q := by
          refine dec_ind n (fun g hgn ihg => ?_)
          intro K k1 k2
          have hT2 : TbO K (cpF rn od wn) (stF rn od wn) (boF rn od bn) := TbO_c (fun a i x y => k1 _ _ (by omega)) hT
          refine ev_115_2 ?_
          by_cases cg : g < n
          · have ihg := ihg cg
            obtain ⟨g1, g2, g3, g4⟩ := hg g cg
            obtain ⟨k0, hk0, fk0, gk0⟩ := (hG.2.2 g cg).2.1
            have hk0 := List.mem_range.1 hk0
            have bk0 := hlf k0 hk0
            have a0 : 0 ≤ Ag g := (hG.2.2 g cg).2.2.1
            have mm := mulb c0 ⟨a0, g4⟩
            have adp := ad_p bx0.2 bk0.2
            have bj := bo_b hO hb adp
            have bG : 0 ≤ Gg g ∧ Gg g ≤ 31968001 := by rw [← gk0]; exact bk0.1
            have three : ∀ K : JI, (∀ a i, ¬ (a = 44 ∧ (i = 8 ∨ i = 9)) → K a i = J a i) → RnM (pr m (Sq os)) val (DnP N n F Fg (fun k => pkI (fiF rn od wn (lf k))) (fun x => flC rn od wn x.2) e0 (g + 1)) (K 44 8) (K 44 9) → ∀ y3 : Int, Ev (fun n_1 => kf_115 n_1 dp e 3 K L c fv ((c : Int) * 64) ((c : Int) * 64 + n) (tp + 1) ((s0 : Int) + e0) (F e0) ((c : Int) * 64 + g) y3) Q := by
              intro K u1 u2 y3
              refine ev_115_3 ?_
              refine Ev_t (by omega) ?_
              rw [show (c : Int) * 64 + (g : Int) + 1 = (c : Int) * 64 + ((g + 1 : Nat) : Int) by omega]
              exact ihg K u1 u2
            obtain ⟨p1, p2, p3⟩ := DnP_s (c := min (0 + C e0 * Ag g) 1000000000) hL hG ce cg (by omega) (by omega)
            have boj : ∀ y ∈ pr m (Sq os), (flC rn od wn y.2.2 = F e0 ∧ pkI (fiF rn od wn (lf y.1)) = Fg g) → boC rn od wn bn (adX (m, gn, lf) y).2 = boC rn od wn bn (fun p => lf k0 p + x0.2 p) := fun y hy z => by
              obtain ⟨w1, w2⟩ := pr_i.1 hy
              have fl := fl_j hO (hB y.2 w2).2 bx0.2 (hlf y.1 w1).2 bk0.2 (z.1.trans fx0.symm) (z.2.trans fk0.symm)
              exact sN_c 5 (fun k hk => by rw [← fl_u hO (ad_p (hB y.2 w2).2 (hlf y.1 w1).2) adp fl k hk]; rfl)
            have p4 : MxH (pr m (Sq os)) val (fun y => flC rn od wn y.2.2 = F e0 ∧ pkI (fiF rn od wn (lf y.1)) = Fg g) (S e0 + Gg g + boC rn od wn bn (fun p => lf k0 p + x0.2 p)) (min (0 + C e0 * Ag g) 1000000000) := by
              have q := MxH_v (s := 1) (d := boC rn od wn bn (fun p => lf k0 p + x0.2 p)) (by decide) p1
              rw [Int.one_mul] at q
              refine MxH_c (fun _ _ => Iff.rfl) (fun y hy z => ?_) q
              rw [val_e, boj y hy z]
              omega
            have s0' : 0 ≤ S e0 + Gg g + boC rn od wn bn (fun p => lf k0 p + x0.2 p) := by
              obtain ⟨y, hy, _, vy⟩ := p4.2.1
              rw [← vy, val_e]; exact hv0 y hy
            have e28 : K 28 ((c : Int) * 64 + g) = J 28 ((c : Int) * 64 + g) := k1 _ _ (by omega)
            have e27 : K 27 ((c : Int) * 64 + g) = pkI (fiF rn od wn (lf k0)) := by rw [k1 _ _ (by omega), g1]; exact fk0.symm
            have e29 : K 29 ((c : Int) * 64 + g) = Ag g := by rw [k1 _ _ (by omega), g3]
            have e6 : K b6 ((s0 : Int) + e0) = C e0 := by rw [k1 _ _ (by omega)]; exact f0.2.2
            have e5 : K b5 ((s0 : Int) + e0) = S e0 := by rw [k1 _ _ (by omega)]; exact f0.2.1
            have k9 : 0 ≤ K 44 9 ∧ K 44 9 ≤ 1000000000 := by
              rcases k2 with ⟨_, _, z⟩ | ⟨z1, _, z2⟩
              · omega
              · exact ⟨z1.2.2.1, z2⟩
            refine Ev_f (by omega) (Ev_R r5 (Ev_t (arI y5 (by omega) (by omega)) (Ev_t (by omega) ?_)))
            rw [e27, e28, e5, ← fx0]
            by_cases qf : (c : Int) * 64 + (g : Int) = fv
            case' pos =>
              rw [if_pos qf] at g2
              refine Ev_t qf ?_
            case' neg =>
              rw [if_neg qf] at g2
              refine Ev_f qf ?_
            all_goals
              refine Ev_t (by omega) (Ev_t (by omega) (Ev_bind (K111j hO bx0.2 bk0.2) ?_))
              rintro _ rfl
              dsimp only
              refine Ev_t (by omega) (Ev_bind (K116j hb hT2 hO adp) ?_)
              rintro _ rfl
              dsimp only
              rw [fx0]
              generalize hbo : boC rn od wn bn (fun p => lf k0 p + x0.2 p) = bo at *
              refine Ev_t (by omega) (Ev_st ?_)
              first
                | rw [show S e0 + J 28 ((c : Int) * 64 + g) + 1 + bo = S e0 + Gg g + bo by omega]
                | rw [show S e0 + J 28 ((c : Int) * 64 + g) + 0 + bo = S e0 + Gg g + bo by omega]
              generalize hsc : S e0 + Gg g + bo = sc at *
              by_cases cs : sc ≤ K 44 8
              · by_cases cq : sc = K 44 8
                · refine Ev_t cs (Ev_t cq (Ev_R r6 (Ev_t (arI y6 (by omega) (by omega)) (Ev_t (by omega) (Ev_t (by omega) ?_)))))
                  rw [e6, e29]
                  refine Ev_bind (K113 (by omega) k9 c0 ⟨a0, g4⟩) ?_
                  rintro _ rfl
                  dsimp only
                  refine Ev_st (three _ (fun a i x => by rw [w2_n (by omega)]; exact k1 a i x) ?_ _)
                  rw [w2_n (by omega), w2_ap, if_pos ⟨rfl, rfl⟩]
                  exact RnM_s k2 p4 p2 p3 s0' (by omega) (Or.inr (Or.inl ⟨cq, rfl, by omega⟩))
                · exact Ev_t cs (Ev_f cq (three _ k1 (RnM_s k2 p4 p2 p3 s0' (by omega) (Or.inr (Or.inr ⟨by omega, rfl, rfl⟩))) _))
              · refine Ev_f cs (Ev_st (Ev_R r6 (Ev_t (arI y6 (by omega) (by omega)) (Ev_t (by omega) (Ev_t (by omega) ?_)))))
                rw [w2_n (b := b6) (by omega), e6, w2_n (b := 29) (by omega), e29]
                refine Ev_bind (K113 (by omega) (by omega) c0 ⟨a0, g4⟩) ?_
                rintro _ rfl
                dsimp only
                refine Ev_st (three _ (fun a i x => by rw [w2_n (by omega), w2_n (by omega)]; exact k1 a i x) ?_ _)
                rw [w2_n (by omega), w2_ap, if_pos ⟨rfl, rfl⟩, w2_ap, if_pos ⟨rfl, rfl⟩]
                exact RnM_s k2 p4 p2 p3 s0' (by omega) (Or.inl ⟨by omega, rfl, rfl⟩)
          · have : g = n := by omega
            subst this
            exact Ev_t (by omega) (four _ k1 (RnM_c (fun y _ => DnP_n.symm) k2) _ _ _)
        have := grp 0 (by omega) K k1 k2
        rw [show (c : Int) * 64 + ((0 : Nat) : Int) = (c : Int) * 64 by omega] at this
        exact this
      · refine Ev_f cp (four _ k1 (RnM_k k2 (DnP_r hL hG ce) (fun y hy z => ?_)) _ _ _)
        have w := hv0 y hy
        rw [← val_e] at w
        refine ⟨?_, w⟩
        obtain ⟨w1, w2⟩ := pr_i.1 hy
        have t := htp.1 y.1 w1
        have bm := bo_m (bn := bn) hO (hB y.2 w2).2 (hlf y.1 w1).2
        have be := boe y hy z
        have sx := (hL.2.2 e0 ce).1.1 y.2 w2 ⟨trivial, z⟩
        dsimp only at sx
        rw [val_e]
        have bm' : boC rn od wn bn (adX (m, gn, lf) y).2 ≤ boC rn od wn bn y.2.2 + mbF rn od bn (fiF rn od wn (lf y.1)) := bm
        omega
    · have : e0 = N := by omega
      subst this
      refine Ev_t (by omega) (Ev_ret ?_)
      rw [← hQ]
      rcases k2 with ⟨z, _⟩ | ⟨z1, z2, z3⟩
      · obtain ⟨y, hy⟩ := hne
        exact absurd (DnP_N hL hG hy) (z y hy)
      · refine ⟨rfl, k1, ?_, z2, z3⟩
        show MxH ((pr m (Sq os)).map (adX (m, gn, lf))) _ _ _ _
        exact MxH_m (MxH_c (fun y hy => ⟨fun _ => DnP_N hL hG hy, fun _ => trivial⟩) (fun y hy _ => by rw [val_e]; rfl) z1)
  refine ev_115_0 ?_
  rw [h32, h33]
  refine Ev_t (by omega) (Ev_t (by omega) (Ev_st (Ev_t (by omega) (Ev_t (by omega) (Ev_st (Ev_st (Ev_st ?_)))))))
  rw [w2_n (b := 44) (by omega), w2_n (b := 44) (by omega), hD, w2_n (b := 45) (by omega), w2_n (b := 45) (by omega), h45]
  refine Ev_t (by omega) (Ev_st ?_)
  have := key 0 (by omega) (w2 (w2 J 44 8 (-1)) 44 9 0) (fun a i x => by rw [w2_n (by omega), w2_n (by omega)]) (Or.inl ⟨fun y _ => DnP_0, by rw [w2_n (by omega), w2_ap, if_pos ⟨rfl, rfl⟩], by rw [w2_ap, if_pos ⟨rfl, rfl⟩]⟩)
  rw [show (s0 : Int) + ((0 : Nat) : Int) = s0 by omega] at this
  exact this
end KN
