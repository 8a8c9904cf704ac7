section
set_option maxRecDepth 100000 in
theorem ev_59_0 {dp : Nat} {e : EN} {I : JI} {L : JI} {i1 : Int} {P_ : (Int × JI × JI) → Prop} (h : Ev (fun n => (if (I 104 3) = 3 then (if 0 ≤ (I 104 4) ∧ (I 104 4) < 400 then (if (I 89 (I 104 4)) = i1 then (some ((1 : Int), I, L)) else (some ((0 : Int), I, L))) else none) else (some ((0 : Int), I, L)))) P_) : Ev (fun n => kf_59 n dp e 0 I L i1) P_ := Ev_step (fun n => ke_59_0 n dp e I L i1) h
set_option maxRecDepth 100000 in
theorem ev_54_0 {dp : Nat} {e : EN} {I : JI} {L : JI} {i1 : Int} {i2 : Int} {P_ : (Int × JI × JI) → Prop} (h : Ev (fun n => (if (I 104 3) = 2 then (if (I 104 6) < i1 then (some ((0 : Int), I, L)) else (if i2 < (I 104 6) then (some ((0 : Int), I, L)) else (some ((1 : Int), I, L)))) else (some ((0 : Int), I, L)))) P_) : Ev (fun n => kf_54 n dp e 0 I L i1 i2) P_ := Ev_step (fun n => ke_54_0 n dp e I L i1 i2) h
set_option maxRecDepth 100000 in
theorem ev_218_0 {dp : Nat} {e : EN} {I : JI} {L : JI} {j1 : Int} {P_ : (Int × JI × JI) → Prop} (h : Ev (fun n => (if (I 105 10) = 1 then (if (L 105 11) = j1 then (some ((1 : Int), I, L)) else (some ((0 : Int), I, L))) else (some ((0 : Int), I, L)))) P_) : Ev (fun n => kf_218 n dp e 0 I L j1) P_ := Ev_step (fun n => ke_218_0 n dp e I L j1) h
set_option maxRecDepth 100000 in
theorem ev_226_0 {dp : Nat} {e : EN} {I : JI} {L : JI} {i1 : Int} {P_ : (Int × JI × JI) → Prop} (h : Ev (fun n => (if (I 105 10) = 3 then (if (L 105 11) = i1 then (some ((1 : Int), I, L)) else (some ((0 : Int), I, L))) else (some ((0 : Int), I, L)))) P_) : Ev (fun n => kf_226 n dp e 0 I L i1) P_ := Ev_step (fun n => ke_226_0 n dp e I L i1) h
set_option maxRecDepth 100000 in
theorem ev_41_0 {dp : Nat} {e : EN} {I : JI} {L : JI} {i2 : Int} {s1 : Nat} {P_ : (Int × JI × JI) → Prop} (h : Ev (fun n => (if (I 104 3) = 1 then (if (s1 < 13) ∧ (2 ≤ dp) then (if (-2147483648 ≤ (I 104 5) - (I 104 4) ∧ (I 104 5) - (I 104 4) ≤ 2147483647) ∧ ((sLen.getD s1 0) < 2147483648) then (if ((I 104 5) - (I 104 4)) = (((sLen.getD s1 0) : Nat) : Int) then (kf_41 n dp e 1 I L 0 s1) else (some ((0 : Int), I, L))) else none) else none) else (some ((0 : Int), I, L)))) P_) : Ev (fun n => kf_41 n dp e 0 I L i2 s1) P_ := Ev_step (fun n => ke_41_0 n dp e I L i2 s1) h
set_option maxRecDepth 100000 in
theorem ev_41_1 {dp : Nat} {e : EN} {I : JI} {L : JI} {i2 : Int} {s1 : Nat} {P_ : (Int × JI × JI) → Prop} (h : Ev (fun n => (if (s1 < 13) ∧ (2 ≤ dp) then (if (sLen.getD s1 0) < 2147483648 then (if (((sLen.getD s1 0) : Nat) : Int) ≤ i2 then (some ((1 : Int), I, L)) else (if -2147483648 ≤ (I 104 4) + i2 ∧ (I 104 4) + i2 ≤ 2147483647 then (if 0 ≤ ((I 104 4) + i2) ∧ ((I 104 4) + i2) < 400 then (if (s1 < 13) ∧ ((0 ≤ i2 ∧ i2 < (((sLen.getD s1 0) : Nat) : Int)) ∧ (4 ≤ dp)) then (if (I 89 ((I 104 4) + i2)) = (sch s1 (Int32.ofInt i2)).toInt then (if -2147483648 ≤ i2 + 1 ∧ i2 + 1 ≤ 2147483647 then (kf_41 n dp e 1 I L (i2 + 1) s1) else none) else (some ((0 : Int), I, L))) else none) else none) else none)) else none) else none)) P_) : Ev (fun n => kf_41 n dp e 1 I L i2 s1) P_ := Ev_step (fun n => ke_41_1 n dp e I L i2 s1) h
end
/-! PARSER 6: the token that stands next, in class and reference -/
def wrv : List (List Int) := [[116, 117, 99], [111, 116], [100, 110, 97], [115, 101, 116, 117, 110, 105, 109], [115, 115, 97, 108, 99], [116, 114, 97, 112], [121, 97, 119], [121, 97, 100], [116, 104, 103, 105, 101, 119], [108, 108, 105, 107, 115], [102, 105], [116, 111, 110], [114, 111]]
def cws : List Int := [3764, 655, 1476, 14276022451, 3540595, 525908, 23609, 4153, 777297172, 20293004, 294, 14836, 498]
theorem wr_ok : ∀ s, s < 13 → (wrv.getD s []).length = sLen.getD s 0 ∧ (wrv.getD s []).length ≤ 10 ∧ cod (wrv.getD s []) = cws.getD s 0 ∧ (∀ w ∈ wrv.getD s [], 97 ≤ w ∧ w ≤ 122) ∧ ∀ i, i < sLen.getD s 0 → (sch s (Int32.ofInt i)).toInt = (wrv.getD s []).getD (sLen.getD s 0 - 1 - i) 0 := by decide +kernel
def Wd (J : JI) (s : Nat) : Prop := J 104 3 = 1 ∧ J 104 5 - J 104 4 = ((sLen.getD s 0 : Nat) : Int) ∧ ∀ i : Nat, i < sLen.getD s 0 → J 89 (J 104 4 + i) = (sch s (Int32.ofInt i)).toInt
def TK (J K L : JI) : Prop :=
  (J 104 2 = K 105 7 ∧ 0 ≤ J 104 2 ∧ J 104 2 ≤ 400) ∧ (∀ i, 0 ≤ i → i < J 104 2 → J 89 i = K 110 i) ∧ (K 105 8 = J 104 4 ∧ K 105 9 = J 104 5 ∧ K 105 10 = J 104 3) ∧ (0 ≤ J 104 4 ∧ J 104 4 ≤ J 104 5 ∧ J 104 5 ≤ J 104 2) ∧ (0 ≤ J 104 3 ∧ J 104 3 ≤ 3) ∧ (J 104 3 = 0 → J 104 4 = J 104 2) ∧ (¬ J 104 3 = 0 → J 104 4 < J 104 5) ∧ (J 104 3 = 3 → L 105 11 = J 89 (J 104 4)) ∧ (J 104 3 = 2 → 0 ≤ J 104 6 ∧ J 104 6 ≤ 100000 ∧ 0 ≤ L 105 11 ∧ L 105 11 ≤ 10000009 ∧ (J 104 6 ≤ 1000 ↔ L 105 11 ≤ 1000) ∧ (J 104 6 ≤ 1000 → J 104 6 = L 105 11)) ∧ (∀ s, s < 13 → (Wd J s ↔ J 104 3 = 1 ∧ L 105 11 = cws.getD s 0))
theorem TK_of {J J1 K L K1 L1 : JI} (hN : J 104 2 = K 105 7) (hN2 : 0 ≤ J 104 2 ∧ J 104 2 ≤ 400) (hT : ∀ i, 0 ≤ i → i < J 104 2 → J 89 i = K 110 i) (hp : J 104 5 = K 105 9) (hp0 : 0 ≤ J 104 5) (g : GN J J1) (x : NX K L K1 L1) : TK J1 K1 L1 ∧ J 104 5 ≤ J1 104 4 ∧ ∀ i, J1 89 i = J 89 i := by
  obtain ⟨f, t, kd, ⟨g1, g2⟩, g3, g4, g5, g6, g7⟩ := g
  obtain ⟨f', t', kd', ⟨x1, x2⟩, x3, x4, x5, x6, x7, x8, x9, x10⟩ := x
  rw [← hN, ← hp] at x1
  rw [← hN] at x2
  have ef : f = f' := Run_u hp0 hT g1 x1
  subst ef
  obtain ⟨r1, r2, r3, r4⟩ := g1
  have e89 : ∀ i, J1 89 i = J 89 i := fun i => g7 _ _ (by omega)
  have e110 : ∀ i, K1 110 i = K 110 i := fun i => x9 _ _ (by omega)
  have e2 : J1 104 2 = J 104 2 := g7 _ _ (by omega)
  have e7 : K1 105 7 = K 105 7 := x9 _ _ (by omega)
  have main : kd = kd' ∧ t = t' ∧ (f ≤ t ∧ t ≤ J 104 2) ∧ (0 ≤ kd ∧ kd ≤ 3) ∧ (kd = 0 → f = J 104 2) ∧ (¬ kd = 0 → f < t ∧ f < J 104 2) := by
    by_cases cN : f = J 104 2
    · rcases g2 with ⟨a, b, c⟩ | ⟨a, _⟩ | ⟨a, _⟩ | ⟨a, _⟩ <;> rcases x2 with ⟨a', b', c'⟩ | ⟨a', _⟩ | ⟨a', _⟩ | ⟨a', _⟩ <;> omega
    · have ht := hT f (by omega) (by omega)
      rcases g2 with ⟨a, b, c⟩ | ⟨a, b, c, d⟩ | ⟨a, b, c, d⟩ | ⟨a, b, c, d, dd⟩
      · omega
      · rcases x2 with ⟨a', b', c'⟩ | ⟨a', b', c', d'⟩ | ⟨a', b', c', d'⟩ | ⟨a', b', c', d', dd'⟩
        · omega
        · have et := Run_u (by omega) hT d d'
          obtain ⟨q1, q2, q3, q4⟩ := d
          have : f < t := by
            by_cases z : f < t
            · exact z
            · have : t = f := by omega
              rw [this] at q4; exact absurd b (q4 (by omega))
          omega
        · omega
        · omega
      · rcases x2 with ⟨a', b', c'⟩ | ⟨a', b', c', d'⟩ | ⟨a', b', c', d'⟩ | ⟨a', b', c', d', dd'⟩
        · omega
        · omega
        · have et := Run_u (by omega) hT d d'
          obtain ⟨q1, q2, q3, q4⟩ := d
          have : f < t := by
            by_cases z : f < t
            · exact z
            · have : t = f := by omega
              rw [this] at q4; exact absurd b (q4 (by omega))
          omega
        · omega
      · rcases x2 with ⟨a', b', c'⟩ | ⟨a', b', c', d'⟩ | ⟨a', b', c', d'⟩ | ⟨a', b', c', d', dd'⟩ <;> omega
  obtain ⟨m1, m2, m3, m4, m5, m6⟩ := main
  subst m1
  subst m2
  refine ⟨⟨by omega, fun i a b => ?_, by omega, by omega, by omega, by omega, by omega, fun h => ?_, fun h => ?_, fun s hs => ?_⟩, by omega, e89⟩
  · rw [e89, e110]; exact hT i a (by omega)
  · have h3 : kd = 3 := by omega
    rw [x8 h3, e89, g3]
    exact (hT f (by omega) (by have := m6 (by omega); omega)).symm
  · have h2 : kd = 2 := by omega
    have q := g6 h2
    have q' := x7 h2
    rw [q, q']
    have dg : ∀ i : Nat, i < (t - f).toNat → K 110 (f + i) = J 89 (f + i) ∧ 48 ≤ J 89 (f + i) ∧ J 89 (f + i) ≤ 57 := by
      intro i hi
      rcases g2 with ⟨a, b, c⟩ | ⟨a, b, c, d⟩ | ⟨a, b, c, d⟩ | ⟨a, b, c, d, dd⟩
      · omega
      · omega
      · exact ⟨(hT (f + i) (by omega) (by omega)).symm, d.2.2.1 (f + i) (by omega) (by omega)⟩
      · omega
    exact nC_r (J 89) (K 110) f (t - f).toNat dg
  · obtain ⟨w1, w2, w3, w4, w5⟩ := wr_ok s hs
    unfold Wd
    rw [g5, g4, g3]
    constructor
    · rintro ⟨a, b, c⟩
      refine ⟨a, ?_⟩
      rw [x6 a, ← w3]
      have lt : ∀ i : Nat, i < (t - f).toNat → K 110 (f + i) = J 89 (f + i) ∧ 97 ≤ J 89 (f + i) ∧ J 89 (f + i) ≤ 122 := by
        intro i hi
        rcases g2 with ⟨_, b, c⟩ | ⟨_, b, c, d⟩ | ⟨_, b, c, d⟩ | ⟨_, b, c, d, dd⟩
        · omega
        · exact ⟨(hT (f + i) (by omega) (by omega)).symm, d.2.2.1 (f + i) (by omega) (by omega)⟩
        · omega
        · omega
      refine (hM_w (K 110) f (wrv.getD s []) (t - f).toNat w2 w4 (fun i hi => by rw [(lt i hi).1]; exact (lt i hi).2)).mpr ⟨by omega, fun i hi => ?_⟩
      rw [(lt i hi).1, ← e89, c i (by omega), w5 i (by omega)]
      have : (t - f).toNat = sLen.getD s 0 := by omega
      rw [this]
    · rintro ⟨a, b⟩
      rw [x6 a, ← w3] at b
      have lt : ∀ i : Nat, i < (t - f).toNat → K 110 (f + i) = J 89 (f + i) ∧ 97 ≤ J 89 (f + i) ∧ J 89 (f + i) ≤ 122 := by
        intro i hi
        rcases g2 with ⟨_, b, c⟩ | ⟨_, b, c, d⟩ | ⟨_, b, c, d⟩ | ⟨_, b, c, d, dd⟩
        · omega
        · exact ⟨(hT (f + i) (by omega) (by omega)).symm, d.2.2.1 (f + i) (by omega) (by omega)⟩
        · omega
        · omega
      obtain ⟨b1, b2⟩ := (hM_w (K 110) f (wrv.getD s []) (t - f).toNat w2 w4 (fun i hi => by rw [(lt i hi).1]; exact (lt i hi).2)).mp b
      refine ⟨a, by omega, fun i hi => ?_⟩
      have := b2 i (by omega)
      rw [(lt i (by omega)).1] at this
      rw [e89, this, w5 i hi]
      have : (t - f).toNat = sLen.getD s 0 := by omega
      rw [this]
theorem TK_s {J K L : JI} (h : TK J K L) (c : Int) : (J 104 3 = 3 ∧ J 89 (J 104 4) = c) ↔ (K 105 10 = 3 ∧ L 105 11 = c) := by
  obtain ⟨h1, h2, h3, h4, h5, h6, h7, h8, h9, h10⟩ := h
  rw [h3.2.2]
  constructor
  · rintro ⟨a, b⟩; exact ⟨a, (h8 a).trans b⟩
  · rintro ⟨a, b⟩; exact ⟨a, (h8 a).symm.trans b⟩
theorem TK_w {J K L : JI} (h : TK J K L) {s : Nat} (hs : s < 13) : Wd J s ↔ (K 105 10 = 1 ∧ L 105 11 = cws.getD s 0) := by
  rw [h.2.2.1.2.2]; exact h.2.2.2.2.2.2.2.2.2 s hs
theorem TK_n {J K L : JI} (h : TK J K L) {lo hi : Int} (h0 : hi ≤ 1000) : (J 104 3 = 2 ∧ lo ≤ J 104 6 ∧ J 104 6 ≤ hi) ↔ (K 105 10 = 2 ∧ lo ≤ L 105 11 ∧ L 105 11 ≤ hi) := by
  obtain ⟨h1, h2, h3, h4, h5, h6, h7, h8, h9, h10⟩ := h
  rw [h3.2.2]
  constructor
  · rintro ⟨a, b⟩; have := h9 a; omega
  · rintro ⟨a, b⟩; have := h9 a; omega
/-- TK hangs on few cells -/
theorem TK_c {J K L J' K' L' : JI} (h : TK J K L) (hj : ∀ i, 2 ≤ i → i ≤ 6 → J' 104 i = J 104 i) (ht : ∀ i, J' 89 i = J 89 i) (hk : ∀ i, 7 ≤ i → i ≤ 10 → K' 105 i = K 105 i) (hu : ∀ i, K' 110 i = K 110 i) (hl : L' 105 11 = L 105 11) : TK J' K' L' := by
  have j2 := hj 2 (by omega) (by omega)
  have j3 := hj 3 (by omega) (by omega)
  have j4 := hj 4 (by omega) (by omega)
  have j5 := hj 5 (by omega) (by omega)
  have j6 := hj 6 (by omega) (by omega)
  have k7 := hk 7 (by omega) (by omega)
  have k8 := hk 8 (by omega) (by omega)
  have k9 := hk 9 (by omega) (by omega)
  have k10 := hk 10 (by omega) (by omega)
  unfold TK Wd at *
  simp only [j2, j3, j4, j5, j6, k7, k8, k9, k10, ht, hu, hl]
  exact h
section LX
variable {dp : Nat} {e : EN} {J M : JI} {β : Type} {T : β → Prop}
theorem Ev59 {c : Int} {k : Nat → Int × JI × JI → Option β} (hb : 0 ≤ J 104 4 ∧ (J 104 3 = 3 → J 104 4 < 400)) (ht : (J 104 3 = 3 ∧ J 89 (J 104 4) = c) → Ev (fun n => k n (1, J, M)) T) (hf : ¬ ((J 104 3 = 3 ∧ J 89 (J 104 4) = c)) → Ev (fun n => k n (0, J, M)) T) : Ev (fun n => (kf_59 n dp e 0 J M c).bind (k n)) T := by
  by_cases h : (J 104 3 = 3 ∧ J 89 (J 104 4) = c)
  · refine Ev_call (v := (1, J, M)) ?_ (ht h)
    refine ev_59_0 ?_
    exact Ev_t h.1 (Ev_t (by omega) (Ev_t h.2 (Ev_ret rfl)))
  · refine Ev_call (v := (0, J, M)) ?_ (hf h)
    refine ev_59_0 ?_
    refine Ev_c (fun c1 => Ev_t (by omega) (Ev_f (fun c2 => h ⟨c1, c2⟩) (Ev_ret rfl))) (fun _ => Ev_ret rfl)
theorem Ev54 {lo hi : Int} {k : Nat → Int × JI × JI → Option β} (ht : (J 104 3 = 2 ∧ lo ≤ J 104 6 ∧ J 104 6 ≤ hi) → Ev (fun n => k n (1, J, M)) T) (hf : ¬ ((J 104 3 = 2 ∧ lo ≤ J 104 6 ∧ J 104 6 ≤ hi)) → Ev (fun n => k n (0, J, M)) T) : Ev (fun n => (kf_54 n dp e 0 J M lo hi).bind (k n)) T := by
  by_cases h : (J 104 3 = 2 ∧ lo ≤ J 104 6 ∧ J 104 6 ≤ hi)
  · refine Ev_call (v := (1, J, M)) ?_ (ht h)
    refine ev_54_0 ?_
    exact Ev_t h.1 (Ev_f (by omega) (Ev_f (by omega) (Ev_ret rfl)))
  · refine Ev_call (v := (0, J, M)) ?_ (hf h)
    refine ev_54_0 ?_
    refine Ev_c (fun c1 => Ev_c (fun c2 => Ev_ret rfl) (fun c2 => Ev_t (by omega) (Ev_ret rfl))) (fun _ => Ev_ret rfl)
theorem Ev218 {w : Int} {k : Nat → Int × JI × JI → Option β} (ht : (J 105 10 = 1 ∧ M 105 11 = w) → Ev (fun n => k n (1, J, M)) T) (hf : ¬ ((J 105 10 = 1 ∧ M 105 11 = w)) → Ev (fun n => k n (0, J, M)) T) : Ev (fun n => (kf_218 n dp e 0 J M w).bind (k n)) T := by
  by_cases h : (J 105 10 = 1 ∧ M 105 11 = w)
  · refine Ev_call (v := (1, J, M)) ?_ (ht h)
    refine ev_218_0 ?_
    exact Ev_t h.1 (Ev_t h.2 (Ev_ret rfl))
  · refine Ev_call (v := (0, J, M)) ?_ (hf h)
    refine ev_218_0 ?_
    refine Ev_c (fun c1 => Ev_f (fun c2 => h ⟨c1, c2⟩) (Ev_ret rfl)) (fun _ => Ev_ret rfl)
theorem Ev226 {c : Int} {k : Nat → Int × JI × JI → Option β} (ht : (J 105 10 = 3 ∧ M 105 11 = c) → Ev (fun n => k n (1, J, M)) T) (hf : ¬ ((J 105 10 = 3 ∧ M 105 11 = c)) → Ev (fun n => k n (0, J, M)) T) : Ev (fun n => (kf_226 n dp e 0 J M c).bind (k n)) T := by
  by_cases h : (J 105 10 = 3 ∧ M 105 11 = c)
  · refine Ev_call (v := (1, J, M)) ?_ (ht h)
    refine ev_226_0 ?_
    exact Ev_t h.1 (Ev_t h.2 (Ev_ret rfl))
  · refine Ev_call (v := (0, J, M)) ?_ (hf h)
    refine ev_226_0 ?_
    refine Ev_c (fun c1 => Ev_f (fun c2 => h ⟨c1, c2⟩) (Ev_ret rfl)) (fun _ => Ev_ret rfl)
theorem Ev41 {s : Nat} {x : Int} {k : Nat → Int × JI × JI → Option β} (hd : 4 ≤ dp) (hs : s < 13) (hb : 0 ≤ J 104 4 ∧ J 104 4 ≤ J 104 5 ∧ J 104 5 ≤ 400) (ht : Wd J s → Ev (fun n => k n (1, J, M)) T) (hf : ¬ Wd J s → Ev (fun n => k n (0, J, M)) T) : Ev (fun n => (kf_41 n dp e 0 J M x s).bind (k n)) T := by
  have l8 := sLe s hs
  by_cases h : Wd J s
  · refine Ev_call (v := (1, J, M)) ?_ (ht h)
    obtain ⟨h1, h2, h3⟩ := h
    refine ev_41_0 ?_
    refine Ev_t h1 (Ev_t (by omega) (Ev_t (by omega) (Ev_t h2 ?_)))
    have key : ∀ i : Nat, i ≤ sLen.getD s 0 → Ev (fun n => kf_41 n dp e 1 J M i s) (fun r => r = (1, J, M)) := by
      refine dec_ind _ (fun i hi ih => ?_)
      refine ev_41_1 ?_
      refine Ev_t (by omega) (Ev_t (by omega) ?_)
      refine Ev_c (fun c => Ev_ret rfl) (fun c => ?_)
      refine Ev_t (by omega) (Ev_t (by omega) (Ev_t (by omega) (Ev_t (h3 i (by omega)) (Ev_t (by omega) (ih (by omega))))))
    exact key 0 (by omega)
  · refine Ev_call (v := (0, J, M)) ?_ (hf h)
    refine ev_41_0 ?_
    refine Ev_c (fun h1 => ?_) (fun _ => Ev_ret rfl)
    refine Ev_t (by omega) (Ev_t (by omega) (Ev_c (fun h2 => ?_) (fun _ => Ev_ret rfl)))
    have key : ∀ i : Nat, i ≤ sLen.getD s 0 → (∀ j : Nat, j < i → J 89 (J 104 4 + j) = (sch s (Int32.ofInt j)).toInt) → Ev (fun n => kf_41 n dp e 1 J M i s) (fun r => r = (0, J, M)) := by
      refine dec_ind _ (fun i hi ih hm => ?_)
      refine ev_41_1 ?_
      refine Ev_t (by omega) (Ev_t (by omega) ?_)
      refine Ev_c (fun c => ?_) (fun c => ?_)
      · exact absurd ⟨h1, h2, fun j hj => hm j (by omega)⟩ h
      · refine Ev_t (by omega) (Ev_t (by omega) (Ev_t (by omega) (Ev_c (fun q => Ev_t (by omega) (ih (by omega) (fun j hj => ?_))) (fun _ => Ev_ret rfl))))
        by_cases z : j = i
        · subst z; exact q
        · exact hm j (by omega)
    exact key 0 (by omega) (fun j hj => absurd hj (by omega))
end LX
