section
set_option maxRecDepth 100000 in
theorem ev_282_2 {dp : Nat} {e : EN} {I : JI} {L : JI} {i1 : Int} {i2 : Int} {i3 : Int} {P_ : (Int × JI × JI) → Prop} (h : Ev (fun n => (if 16 ≤ i3 then (if i1 = (-1) then (some ((i2 : Int), I, L)) else (if 0 ≤ i1 ∧ i1 < 16 then (some (((I 136 i1) : Int), I, L)) else none)) else (if 0 ≤ i3 ∧ i3 < 16 then (if -2147483648 ≤ i2 + (I 136 i3) ∧ i2 + (I 136 i3) ≤ 2147483647 then (stI (i2 + (I 136 i3)) (fun v_49 => (if -2147483648 ≤ i3 + 1 ∧ i3 + 1 ≤ 2147483647 then (kf_282 n dp e 2 I L i1 v_49 (i3 + 1)) else none))) else none) else none))) P_) : Ev (fun n => kf_282 n dp e 2 I L i1 i2 i3) P_ := Ev_step (fun n => ke_282_2 n dp e I L i1 i2 i3) h
end
/-! TASKS, SHARE: task() and share() of both -/
def XC (a : Nat) (i : Int) : Prop := XW a i ∨ (a = 73 ∧ 10 ≤ i ∧ i ≤ 16) ∨ (74 ≤ a ∧ a ≤ 80)
def FrMc (J J' M M' : JI) : Prop := (∀ a i, ¬ (a = 105 ∧ (i = 29 ∨ i = 32 ∨ (40 ≤ i ∧ i ≤ 54) ∨ i = 60)) → ¬ (120 ≤ a ∧ a ≤ 141) → J' a i = J a i) ∧ ∀ a i, ¬ a = 118 → ¬ a = 119 → ¬ (a = 105 ∧ (i = 30 ∨ i = 31)) → M' a i = M a i
theorem FrMp_c {J J' M M' : JI} (h : FrMp J J' M M') : FrMc J J' M M' := ⟨fun a i x y => h.1 a i (by omega) (by omega), h.2⟩
/-- the crew's tables stand for the plan f -/
def TkI (K : JI) (ρ : Int → Int) (f : Nat → Int) (N : Nat) : Prop := TkT K ρ f N ∧ K 73 11 = lsum (fun w => tkM ρ f w N) (tkL ρ f N 16) ∧ (K 73 16 = 0 ∨ K 73 16 = 1) ∧ (K 73 16 = 1 → K 73 10 = ((tkL ρ f N 16).length : Int) ∧ AsT (K 78) (tkL ρ f N 16)) ∧ (K 73 16 = 0 → ShS (K 76) (K 73 12) (tkL ρ f N 16) (fun w => tkM ρ f w N) (cnR (fun m => ρ (70 + m)) (fun w => tkS ρ f w N)) (ρ 3).toNat)
def CrI (J : JI) (ρ : Int → Int) : Prop := (J 73 15 = 0 ∨ J 73 15 = 1) ∧ (J 73 16 = 0 ∨ J 73 16 = 1) ∧ (J 73 16 = 0 → J 73 15 = 0) ∧ (J 73 15 = 0 → ∃ (B n : Int) (f : Nat → Int) (lf : Int → Int), PlN (cuS ρ) (ρ 0) (ρ 1) (ρ 2) ∧ PlR (cuS ρ) ρ B n f lf ∧ TkI J ρ f (ρ 0 + ρ 1 + ρ 2).toNat)
theorem TkI_c {K K' : JI} {ρ : Int → Int} {f : Nat → Int} {N : Nat} (h : ∀ a i, 73 ≤ a → a ≤ 80 → K' a i = K a i) (q : TkI K ρ f N) : TkI K' ρ f N := by
  obtain ⟨q1, q2, q3, q4, q5⟩ := q
  unfold TkI
  rw [h 73 11 (by omega) (by omega), h 73 16 (by omega) (by omega), h 73 10 (by omega) (by omega), h 73 12 (by omega) (by omega), show K' 76 = K 76 from funext fun i => h _ _ (by omega) (by omega), show K' 78 = K 78 from funext fun i => h _ _ (by omega) (by omega)]
  exact ⟨fun w a b => by rw [h _ _ (by omega) (by omega), h _ _ (by omega) (by omega)]; exact q1 w a b, q2, q3, q4, q5⟩
theorem CrI_c {K K' : JI} {ρ : Int → Int} (h : ∀ a i, 73 ≤ a → a ≤ 80 → K' a i = K a i) (q : CrI K ρ) : CrI K' ρ := by
  obtain ⟨q1, q2, q3, q4⟩ := q
  unfold CrI
  rw [h 73 15 (by omega) (by omega), h 73 16 (by omega) (by omega)]
  refine ⟨q1, q2, q3, fun z => ?_⟩
  obtain ⟨B, n, f, lf, a, b, c⟩ := q4 z
  exact ⟨B, n, f, lf, a, b, TkI_c h c⟩
theorem tkL_e {ρ : Int → Int} {f g : Nat → Int} {N : Nat} (h : ∀ i, i < N → f i = g i) : ∀ n, tkL ρ f N n = tkL ρ g N n := fun n => by
  unfold tkL
  congr 1
  funext w
  rw [(tk_c N h).2]
theorem TkI_f {K : JI} {ρ : Int → Int} {f g : Nat → Int} {N : Nat} (h : ∀ i, i < N → f i = g i) (q : TkI K ρ f N) : TkI K ρ g N := by
  obtain ⟨q1, q2, q3, q4, q5⟩ := q
  have eM : (fun w : Nat => tkM ρ g w N) = (fun w : Nat => tkM ρ f w N) := funext fun w => (tk_c N h).1.symm
  have eS : (fun w : Nat => tkS ρ g w N) = (fun w : Nat => tkS ρ f w N) := funext fun w => (tk_c N h).2.symm
  unfold TkI
  rw [eM, eS, ← tkL_e h]
  exact ⟨fun w a b => by rw [← (tk_c N h).1, ← (tk_c N h).2]; exact q1 w a b, q2, q3, q4, q5⟩
/-- no task: no minutes -/
theorem tk_z {ρ : Int → Int} {f : Nat → Int} {w : Int} : ∀ i : Nat, tkS ρ f w i = -1 → tkM ρ f w i = 0
  | 0, _ => rfl
  | i + 1, h => by
    have h : (if usX ρ f i w ∧ tkS ρ f w i = -1 then skX ρ w (clA (ρ 0) (ρ 1) i) else tkS ρ f w i) = -1 := h
    have b : 0 ≤ skX ρ w (clA (ρ 0) (ρ 1) i) ∧ skX ρ w (clA (ρ 0) (ρ 1) i) ≤ 3 := clp_b (by decide)
    by_cases c : usX ρ f i w ∧ tkS ρ f w i = -1
    · rw [if_pos c] at h
      omega
    · rw [if_neg c] at h
      show tkM ρ f w i + (if usX ρ f i w then tkD ρ f i w else 0) = 0
      rw [if_neg (fun z => c ⟨z, h⟩), tk_z i h]
      rfl
def sumN (g : Nat → Int) : Nat → Int
  | 0 => 0
  | n + 1 => sumN g n + g n
theorem sumN_L {ρ : Int → Int} {f : Nat → Int} {N : Nat} : ∀ n, sumN (fun w => tkM ρ f w N) n = lsum (fun w => tkM ρ f w N) (tkL ρ f N n)
  | 0 => rfl
  | n + 1 => by
    rw [tkL_s, lsum_a, ← sumN_L n]
    show sumN (fun w : Nat => tkM ρ f w N) n + tkM ρ f n N = _
    by_cases c : tkS ρ f n N = -1
    · rw [if_pos c, tk_z N c]; rfl
    · rw [if_neg c]
      show _ = _ + (tkM ρ f n N + 0)
      omega
theorem ofLs_l {lc : Int → List CT} {ov : Int → Int} {t : Int} {dl : Nat → Nat → Int} {cl : Nat → Int} : ∀ (j i : Nat), (ofLs lc ov t dl cl i j).length = j
  | 0, _ => rfl
  | j + 1, i => by rw [ofLs, List.length_cons, ofLs_l j (i + 1)]
theorem ShA {z : Nat} {kd : KD} {R : RF} {a n : Nat} (h : Sh z kd R) (ha : a < 144) (e : kd0.getD a (0, 0) = (13, n)) : arO (z, kd, R) a n := ⟨zl h a ha, by show (kd a).1 = 13; rw [sk h a ha e], by show (kd a).2 = n; rw [sk h a ha e]⟩
section CO
variable {tr : Nat} {TS : Nat → Prop} {z : Nat} {kd : KD} {R : RF} {J J1 M : JI} {b4 b5 b6 b7 len sl : Nat}
/-- the crew's cells are none of the planner's -/
theorem PW_t (h : PW tr TS z kd R J b4 b5 b6 b7 len sl) (hE : J 24 12 ≤ 999999) (hn : ∀ a i, ¬ (a = 21 ∧ (i = 3 ∨ i = 4)) → ¬ a = 22 → ¬ a = 23 → ¬ (73 ≤ a ∧ a ≤ 80) → J1 a i = J a i) : PW tr TS z kd R J1 b4 b5 b6 b7 len sl := by
  have hTS := h.1.2.1
  have hH := h.2.1.1
  have g : ∀ a i, ¬ (a = 21 ∧ (i = 3 ∨ i = 4)) → ¬ a = 22 → ¬ a = 23 → (fun a i => if a = 21 ∨ a = 22 ∨ a = 23 then J1 a i else J a i) a i = J a i := fun a i x y w => by
    dsimp only
    by_cases c : a = 21 ∨ a = 22 ∨ a = 23
    · rw [if_pos c]; exact hn a i x y w (by omega)
    · rw [if_neg c]
  have U := PW_u' (M := J) h hE (J1 := fun a i => if a = 21 ∨ a = 22 ∨ a = 23 then J1 a i else J a i) ⟨CutI_c hTS (funext fun i => g _ _ (by omega) (by omega) (by omega)) (g _ _ (by omega) (by omega) (by omega)) (g _ _ (by omega) (by omega) (by omega)) (fun a i x => g a i (by omega) (by omega) (by omega)) (fun a i x _ _ => g a i (by omega) (by omega) (by omega)) (fun a i x y => g a i (by omega) (by omega) (by omega)) h.2.1.2, ⟨fun a i x1 x2 x3 _ _ _ _ => g a i x1 x2 x3, fun _ _ _ _ _ => rfl⟩, ⟨Or.inl (fun a i x => g a i (by omega) (by omega) (by omega)), fun zz => ⟨(g _ _ (by omega) (by omega) (by omega)).trans zz, fun a i x y => g a i (by omega) (by omega) (by omega)⟩⟩, Or.inl (g _ _ (by omega) (by omega) (by omega)), by rw [g 105 32 (by omega) (by omega) (by omega)]; exact hH.2.2.2.2⟩ (g _ _ (by omega) (by omega) (by omega)) (fun a i x y => g a i (by omega) (by omega) (by omega))
  have q : ∀ a i, ¬ (73 ≤ a ∧ a ≤ 80) → J1 a i = (fun a i => if a = 21 ∨ a = 22 ∨ a = 23 then J1 a i else J a i) a i := fun a i x => by
    dsimp only
    by_cases c : a = 21 ∨ a = 22 ∨ a = 23
    · rw [if_pos c]
    · rw [if_neg c]; exact hn a i (by omega) (by omega) (by omega) x
  exact PW_z U.1 (fun a i y w => q a i (fun s => y (by unfold XZ; omega))) (Or.inl ⟨q _ _ (by omega), q _ _ (by omega)⟩)
/-- the class's own plan has its cuttings -/
theorem FxO_55 {N : Nat} (h : PW tr TS z kd R J b4 b5 b6 b7 len sl) (hL : LsC J (cuS (J 107))) (h15 : J 24 15 = 0) (hN : J 2 0 + J 2 1 + J 2 2 = N) : FxO (J 107) (fun i => J 55 i) N := fun i hi => by
  obtain ⟨q1, q2, q3⟩ := PW_fo h h15 hN i hi
  have hv := PW_v h
  unfold vlP at hv
  dsimp only at q1 q2
  obtain ⟨_, _, ⟨m1, m2, m3⟩, _⟩ := h
  have c3 := clR_3 (b := J 2 1) (c := J 2 2) (i := N - 1 - i)
  have ec : clA (J 107 0) (J 107 1) i = ((clR (J 2 1) (J 2 2) (N - 1 - i) : Nat) : Int) := by
    rw [← m2 0 (by omega) (by omega), ← m2 1 (by omega) (by omega)]
    unfold clA clR
    (repeat' split) <;> omega
  have l := (hL _ c3).1
  dsimp only
  rw [ec]
  refine ⟨by omega, _, List.getElem?_eq_getElem (show (J 55 i).toNat < _ by omega)⟩
/-- the tasks are listed -/
theorem R145 {dp N : Nat} (hSh : Sh z kd R) (hd : 8 ≤ dp) (h : PW tr TS z kd R J b4 b5 b6 b7 len sl) (hL : LsC J (cuS (J 107))) (h15 : J 24 15 = 0) (hN : J 2 0 + J 2 1 + J 2 2 = N) (hC : CrI J (J 107)) : Ev (fun n => kf_145 n dp (z, kd, R) 0 J M 0 0) (fun r => r.2 = M ∧ FrTl J r.1 ∧ r.1 73 15 = 0 ∧ TkI r.1 (J 107) (fun i => J 55 i) N) := by
  obtain ⟨c1, c2, c3, c4⟩ := hC
  have m2 := h.2.2.1.2.1
  have eN : (J 107 0 + J 107 1 + J 107 2).toNat = N := by
    rw [← m2 0 (by omega) (by omega), ← m2 1 (by omega) (by omega), ← m2 2 (by omega) (by omega), hN]
    omega
  obtain ⟨f1, f2, _⟩ := h.2.2.2.2.1 h15
  by_cases c : J 73 15 = 0
  · obtain ⟨B, n, f, lf, k1, k2, k3⟩ := c4 c
    rw [eN] at k3
    have e55 := plR_f h hL k2 f1 f2
    refine ev_145_0 ?_
    refine Ev_t c (Ev_ret ⟨rfl, fun _ _ _ _ _ _ _ _ _ _ => rfl, c, TkI_f (fun i hi => (e55 i (by omega)).symm) k3⟩)
  · refine Ev_mono (K145 (f := fun i => J 55 i) h.1.1 (ShA hSh (by decide) (show kd0.getD 74 (0, 0) = _ from rfl)) (ShA hSh (by decide) (show kd0.getD 75 (0, 0) = _ from rfl)) (ShA hSh (by decide) (show kd0.getD 77 (0, 0) = _ from rfl)) (by omega) h.2.1.1.1 h.2.1.1.2.1 (PW_v h) m2 hN hL (FxO_55 h hL h15 hN) (fun i _ => rfl) c) ?_
    rintro ⟨K, L⟩ ⟨r1, r2, r3, r4, r5, r6, r7⟩
    dsimp only at r1 r2 r3 r4 r5 r6 r7
    have e16 : K 73 16 = 1 := by
      rw [r2 _ _ (by omega) (by omega) (by omega) (by omega) (by omega) (by omega) (by omega) (by omega)]
      rcases c2 with z | z
      · exact absurd (c3 z) c
      · exact z
    exact ⟨r1, r2, r3, r4, r7, Or.inr e16, fun _ => ⟨r5, r6⟩, fun z => by dsimp only at z; omega⟩
/-- they are shared -/
theorem R148 {dp N : Nat} {f : Nat → Int} {ρ : Int → Int} (hSh : Sh z kd R) (hd : 20 ≤ dp) (hr : rwO ρ) (hA : AskO J tr ρ) (h11 : J tr 11 = ρ 9) (hf : FxO ρ f N) (hN8 : N ≤ 8) (h8 : J 1 8 = ρ 3) (h5 : ∀ m, 0 ≤ m → m < 4 → J 5 m = ρ (70 + m)) (hT : TkI J ρ f N) : Ev (fun n => kf_148 n dp (z, kd, R) 0 J M) (fun r => r.2 = M ∧ FrSt J r.1 ∧ r.1 73 16 = 0 ∧ ShS (r.1 76) (r.1 73 12) (tkL ρ f N 16) (fun w => tkM ρ f w N) (cnR (fun m => ρ (70 + m)) (fun w => tkS ρ f w N)) (ρ 3).toNat) := by
  obtain ⟨q1, q2, q3, q4, q5⟩ := hT
  have u3 := hr.2.2.1
  rcases q3 with c | c
  · refine ev_148_0 ?_
    exact Ev_t c (Ev_ret ⟨rfl, fun _ _ _ _ _ _ _ _ => rfl, c, q5 c⟩)
  · obtain ⟨a1, a2⟩ := q4 c
    refine K148 (e := (z, kd, R)) hd (ShA hSh (by decide) (show kd0.getD 76 (0, 0) = _ from rfl)) (ShA hSh (by decide) (show kd0.getD 80 (0, 0) = _ from rfl)) (by omega) (fun w hw => (tkL_m.1 hw).1) tkL_p (fun w => ?_) ⟨a1, by rw [h8]; omega, a2, fun w hw => ?_, fun m hm => h5 m (by omega) (by omega)⟩ q2 (tkL_n 16) (by omega)
    · have := tkM_b hA h11 (w := (w : Int)) (by omega) hf N (Nat.le_refl _)
      omega
    · have := (tkL_m.1 hw).1
      exact q1 w (by omega) (by omega)
/-- what a call of the crew leaves -/
def CrQ (tr : Nat) (TS : Nat → Prop) (b4 b5 b6 b7 len sl z : Nat) (kd : KD) (J M : JI) (R : RF) (kM : Nat → EN → JI → JI → Option (Int × JI × JI)) (q : (Int × Nat × KD × JI × JI × RF) × Nat × Nat) : Prop := ∃ (z' : Nat) (kd' : KD) (J' M' : JI) (R' : RF) (c4 c5 c6 c7 len' sl' : Nat), q.1.2 = (z', kd', J', M', R') ∧ PotS len sl len' sl' q.2.1 q.2.2 ∧ FrGx XC b4 b5 b6 b7 z kd J M R c4 c5 c6 c7 z' kd' J' M' R' ∧ J' 24 12 ≤ J 24 12 + 1 ∧ Ev (fun n => kM n (z', kd', R') J' M') (fun r => r.1 = q.1.1 ∧ PW tr TS z' kd' R' r.2.1 c4 c5 c6 c7 len' sl' ∧ FrMc J' r.2.1 M' r.2.2 ∧ CrI r.2.1 (r.2.1 107))
theorem CrQ_p {kM : Nat → EN → JI → JI → Option (Int × JI × JI)} {M1 : JI} {z1 : Nat} {kd1 : KD} {R1 : RF} {c4 c5 c6 c7 len1 sl1 : Nat} {v : Int} {ck cm : Nat} (hP : PotS len sl len1 sl1 ck cm) (hf : FrGx XC b4 b5 b6 b7 z kd J M R c4 c5 c6 c7 z1 kd1 J1 M1 R1) (h12 : J1 24 12 ≤ J 24 12 + 1) (g : Ev (fun n => kM n (z1, kd1, R1) J1 M1) (fun r => r.1 = v ∧ PW tr TS z1 kd1 R1 r.2.1 c4 c5 c6 c7 len1 sl1 ∧ FrMc J1 r.2.1 M1 r.2.2 ∧ CrI r.2.1 (r.2.1 107))) : CrQ tr TS b4 b5 b6 b7 len sl z kd J M R kM ((v, z1, kd1, J1, M1, R1), ck, cm) := ⟨z1, kd1, J1, M1, R1, c4, c5, c6, c7, len1, sl1, rfl, hP, hf, h12, g⟩
theorem XW_C : ∀ a i, XW a i → XC a i := fun a i h => Or.inl h
theorem tlX {K K' : JI} (h : FrTl K K') : ∀ a i, ¬ XC a i → K' a i = K a i := fun a i x => h a i (fun y => x (Or.inl (by unfold XW; omega))) (fun y => x (Or.inl (by unfold XW; omega))) (fun y => x (Or.inl (by unfold XW; omega))) (fun y => x (by unfold XC; omega)) (fun y => x (by unfold XC; omega)) (fun y => x (by unfold XC; omega)) (fun y => x (by unfold XC; omega)) (fun y => x (by unfold XC; omega))
/-- the reference's tasks, once the plan is there -/
theorem M283 {dp N : Nat} {f : Nat → Int} {B n : Int} {lf : Int → Int} (hd : 7 ≤ dp) (h : PW tr TS z kd R J b4 b5 b6 b7 len sl) (h51 : J 105 51 = 1) (hN : (J 107 0 + J 107 1 + J 107 2).toNat = N) (hK : PlN (cuS (J 107)) (J 107 0) (J 107 1) (J 107 2)) (hP : PlR (cuS (J 107)) (J 107) B n (fun i => J 134 i) lf) (hf : ∀ i : Nat, i < N → J 134 i = f i) : Ev (fun n => kf_283 n dp (z, kd, R) 0 J M 0 0 0) (fun r => FrMc J r.1 M r.2 ∧ PW tr TS z kd R r.1 b4 b5 b6 b7 len sl ∧ TkR r.1 (J 107) f N 16 ∧ r.1 105 60 = ((tkL (J 107) f N 16).length : Int)) := by
  have h' := h
  obtain ⟨⟨⟨htr, q1, q2, q3⟩, hTS, hQ, h56, hz, ow⟩, ⟨hH, hC⟩, ⟨m1, m2, m3⟩, hI, hF, hM, _⟩ := h
  have u0 := m3.1 0 (by omega) (by omega)
  have u1 := m3.1 1 (by omega) (by omega)
  have u2 := m3.1 2 (by omega) (by omega)
  have u8 := m3.2.1
  have fx := FxO_P (N := N) (by omega) (by omega) hK hP
  have fx' : FxO (J 107) f N := fun i hi => by
    have := fx i hi
    dsimp only at this
    rw [hf i hi] at this
    exact this
  refine Ev_mono (K283 (J := J) (tr := tr) (f := f) (N := N) rfl hH.1 hH.2.1.2.2.2.2 (by omega) u0 u1 u2 (by omega) (by omega) (hC.2.2.1 (hM h51).1) fx' hf) ?_
  rintro ⟨K, L⟩ ⟨⟨r1, r2⟩, r3, r4⟩
  dsimp only at r1 r2 r3 r4 ⊢
  exact ⟨⟨fun a i x y => r1 a i (by omega) (by omega) (by omega), r2⟩, PW_z h' (fun a i y w => r1 a i (fun s => y (by unfold XZ; omega)) (fun s => y (by unfold XZ; omega)) (fun s => y (by unfold XZ; omega))) (Or.inl ⟨r1 _ _ (by omega) (by omega) (by omega), r1 _ _ (by omega) (by omega) (by omega)⟩), r3, r4⟩
/-- the sum of all tasks' minutes -/
theorem K282s {dp N : Nat} {e : EN} {K L : JI} {ρ : Int → Int} {f : Nat → Int} {x : Int} (hR : TkR K ρ f N 16) (hm : ∀ w : Nat, 0 ≤ tkM ρ f w N ∧ tkM ρ f w N ≤ 96000) (hx : x = -1 ∨ (0 ≤ x ∧ x < 16)) : Ev (fun n => kf_282 n dp e 2 K L x 0 0) (fun r => r = ((if x = -1 then lsum (fun w => tkM ρ f w N) (tkL ρ f N 16) else tkM ρ f x N), K, L)) := by
  have sb : ∀ n, 0 ≤ sumN (fun w => tkM ρ f w N) n ∧ sumN (fun w => tkM ρ f w N) n ≤ 96000 * (n : Int) := fun n => by
    induction n with
    | zero => simp [sumN]
    | succ n ih =>
      have := hm n
      show 0 ≤ sumN (fun w => tkM ρ f w N) n + tkM ρ f n N ∧ sumN (fun w => tkM ρ f w N) n + tkM ρ f n N ≤ 96000 * ((n + 1 : Nat) : Int)
      omega
  have key : ∀ w : Nat, w ≤ 16 → Ev (fun n => kf_282 n dp e 2 K L x (sumN (fun w => tkM ρ f w N) w) w) (fun r => r = ((if x = -1 then lsum (fun w => tkM ρ f w N) (tkL ρ f N 16) else tkM ρ f x N), K, L)) := by
    refine dec_ind 16 (fun w hw ih => ?_)
    refine ev_282_2 ?_
    by_cases cw : w < 16
    · have ih := ih cw
      have b := sb w
      have b2 := hm w
      refine Ev_f (by omega) (Ev_t (by omega) ?_)
      rw [(hR w cw).1]
      refine Ev_t (by omega) (Ev_st (Ev_t (by omega) ?_))
      rw [show (w : Int) + 1 = ((w + 1 : Nat) : Int) by omega]
      exact ih
    · have : w = 16 := by omega
      subst this
      refine Ev_t (by omega) ?_
      rw [sumN_L]
      rcases hx with hx | hx
      · refine Ev_t hx (Ev_ret ?_)
        rw [if_pos hx]
      · refine Ev_f (by omega) (Ev_t hx (Ev_ret ?_))
        rw [if_neg (by omega)]
        have := (hR x.toNat (by omega)).1
        rw [show ((x.toNat : Nat) : Int) = x by omega] at this
        rw [this]
  exact key 0 (by omega)
end CO
