/-! TASKS, SHARE: task() and share() of both -/
def XC (a : Nat) (i : Int) : Prop := XW a i ∨ (a = 73 ∧ 10 ≤ i ∧ i ≤ 16) ∨ (74 ≤ a ∧ a ≤ 80)
def FrMc (J J' M M' : JI) : Prop := (∀ a i, ¬ (a = 105 ∧ (i = 29 ∨ i = 32 ∨ (40 ≤ i ∧ i ≤ 54) ∨ i = 60)) → ¬ (120 ≤ a ∧ a ≤ 141) → J' a i = J a i) ∧ ∀ a i, ¬ a = 118 → ¬ a = 119 → ¬ (a = 105 ∧ (i = 30 ∨ i = 31)) → M' a i = M a i
theorem FrMp_c {J J' M M' : JI} (h : FrMp J J' M M') : FrMc J J' M M' := ⟨fun a i x y => h.1 a i (by omega) (by omega), h.2⟩
/-- the crew's tables stand for the plan f -/
def TkI (K : JI) (ρ : Int → Int) (f : Nat → Int) (N : Nat) : Prop := TkT K ρ f N ∧ K 73 11 = lsum (fun w => tkM ρ f w N) (tkL ρ f N 16) ∧ (K 73 16 = 0 ∨ K 73 16 = 1) ∧ (K 73 16 = 1 → K 73 10 = ((tkL ρ f N 16).length : Int) ∧ AsT (K 78) (tkL ρ f N 16)) ∧ (K 73 16 = 0 → ShS (K 76) (K 73 12) (tkL ρ f N 16) (fun w => tkM ρ f w N) (cnR (fun m => ρ (70 + m)) (fun w => tkS ρ f w N)) (ρ 3).toNat)
def CrI (J : JI) (ρ : Int → Int) : Prop := (J 73 15 = 0 ∨ J 73 15 = 1) ∧ (J 73 16 = 0 ∨ J 73 16 = 1) ∧ (J 73 16 = 0 → J 73 15 = 0) ∧ (J 73 15 = 0 → ∃ (B n : Int) (f : Nat → Int) (lf : Int → Int), PlN (cuS ρ) (ρ 0) (ρ 1) (ρ 2) ∧ PlR (cuS ρ) ρ B n f lf ∧ TkI J ρ f (ρ 0 + ρ 1 + ρ 2).toNat)
theorem TkI_c {K K' : JI} {ρ : Int → Int} {f : Nat → Int} {N : Nat} (h : ∀ a i, 73 ≤ a → a ≤ 80 → K' a i = K a i) (q : TkI K ρ f N) : TkI K' ρ f N := by
  obtain ⟨q1, q2, q3, q4, q5⟩ := q
  unfold TkI
  rw [h 73 11 (by omega) (by omega), h 73 16 (by omega) (by omega), h 73 10 (by omega) (by omega), h 73 12 (by omega) (by omega), show K' 76 = K 76 from funext fun i => h _ _ (by omega) (by omega), show K' 78 = K 78 from funext fun i => h _ _ (by omega) (by omega)]
  exact ⟨fun w a b => by rw [h _ _ (by omega) (by omega), h _ _ (by omega) (by omega)]; exact q1 w a b, q2, q3, q4, q5⟩
theorem CrI_c {K K' : JI} {ρ : Int → Int} (h : ∀ a i, 73 ≤ a → a ≤ 80 → K' a i = K a i) (q : CrI K ρ) : CrI K' ρ := by
  obtain ⟨q1, q2, q3, q4⟩ := q
  unfold CrI
  rw [h 73 15 (by omega) (by omega), h 73 16 (by omega) (by omega)]
  refine ⟨q1, q2, q3, fun z => ?_⟩
  obtain ⟨B, n, f, lf, a, b, c⟩ := q4 z
  exact ⟨B, n, f, lf, a, b, TkI_c h c⟩
theorem tkL_e {ρ : Int → Int} {f g : Nat → Int} {N : Nat} (h : ∀ i, i < N → f i = g i) : ∀ n, tkL ρ f N n = tkL ρ g N n := fun n => by
  unfold tkL
  congr 1
  funext w
  rw [(tk_c N h).2]
theorem TkI_f {K : JI} {ρ : Int → Int} {f g : Nat → Int} {N : Nat} (h : ∀ i, i < N → f i = g i) (q : TkI K ρ f N) : TkI K ρ g N := by
  obtain ⟨q1, q2, q3, q4, q5⟩ := q
  have eM : (fun w : Nat => tkM ρ g w N) = (fun w : Nat => tkM ρ f w N) := funext fun w => (tk_c N h).1.symm
  have eS : (fun w : Nat => tkS ρ g w N) = (fun w : Nat => tkS ρ f w N) := funext fun w => (tk_c N h).2.symm
  unfold TkI
  rw [eM, eS, ← tkL_e h]
  exact ⟨fun w a b => by rw [← (tk_c N h).1, ← (tk_c N h).2]; exact q1 w a b, q2, q3, q4, q5⟩
/-- no task: no minutes -/
theorem tk_z {ρ : Int → Int} {f : Nat → Int} {w : Int} : ∀ i : Nat, tkS ρ f w i = -1 → tkM ρ f w i = 0
  | 0, _ => rfl
  | i + 1, h => by
    have h : (if usX ρ f i w ∧ tkS ρ f w i = -1 then skX ρ w (clA (ρ 0) (ρ 1) i) else tkS ρ f w i) = -1 := h
    have b : 0 ≤ skX ρ w (clA (ρ 0) (ρ 1) i) ∧ skX ρ w (clA (ρ 0) (ρ 1) i) ≤ 3 := clp_b (by decide)
    by_cases c : usX ρ f i w ∧ tkS ρ f w i = -1
    · rw [if_pos c] at h
      omega
    · rw [if_neg c] at h
      show tkM ρ f w i + (if usX ρ f i w then tkD ρ f i w else 0) = 0
      rw [if_neg (fun z => c ⟨z, h⟩), tk_z i h]
      rfl
def sumN (g : Nat → Int) : Nat → Int
  | 0 => 0
  | n + 1 => sumN g n + g n
theorem sumN_L {ρ : Int → Int} {f : Nat → Int} {N : Nat} : ∀ n, sumN (fun w => tkM ρ f w N) n = lsum (fun w => tkM ρ f w N) (tkL ρ f N n)
  | 0 => rfl
  | n + 1 => by
    rw [tkL_s, lsum_a, ← sumN_L n]
    show sumN (fun w : Nat => tkM ρ f w N) n + tkM ρ f n N = _
    by_cases c : tkS ρ f n N = -1
    · rw [if_pos c, tk_z N c]; rfl
    · rw [if_neg c]
      show _ = _ + (tkM ρ f n N + 0)
      omega
theorem ofLs_l {lc : Int → List CT} {ov : Int → Int} {t : Int} {dl : Nat → Nat → Int} {cl : Nat → Int} : ∀ (j i : Nat), (ofLs lc ov t dl cl i j).length = j
  | 0, _ => rfl
  | j + 1, i => by rw [ofLs, List.length_cons, ofLs_l j (i + 1)]
section CO
variable {tr : Nat} {TS : Nat → Prop} {z : Nat} {kd : KD} {R : RF} {J J1 M : JI} {b4 b5 b6 b7 len sl : Nat}
/-- the crew's cells are none of the planner's -/
theorem PW_t (h : PW tr TS z kd R J b4 b5 b6 b7 len sl) (hE : J 24 12 ≤ 999999) (hn : ∀ a i, ¬ (a = 21 ∧ (i = 3 ∨ i = 4)) → ¬ a = 22 → ¬ a = 23 → ¬ (73 ≤ a ∧ a ≤ 80) → J1 a i = J a i) : PW tr TS z kd R J1 b4 b5 b6 b7 len sl := by
  have hTS := h.1.2.1
  have hH := h.2.1.1
  have g : ∀ a i, ¬ (a = 21 ∧ (i = 3 ∨ i = 4)) → ¬ a = 22 → ¬ a = 23 → (fun a i => if a = 21 ∨ a = 22 ∨ a = 23 then J1 a i else J a i) a i = J a i := fun a i x y w => by
    dsimp only
    by_cases c : a = 21 ∨ a = 22 ∨ a = 23
    · rw [if_pos c]; exact hn a i x y w (by omega)
    · rw [if_neg c]
  have U := PW_u' (M := M) h hE (J1 := fun a i => if a = 21 ∨ a = 22 ∨ a = 23 then J1 a i else J a i) ⟨CutI_c hTS (funext fun i => g _ _ (by omega) (by omega) (by omega)) (g _ _ (by omega) (by omega) (by omega)) (g _ _ (by omega) (by omega) (by omega)) (fun a i x => g a i (by omega) (by omega) (by omega)) (fun a i x _ _ => g a i (by omega) (by omega) (by omega)) (fun a i x y => g a i (by omega) (by omega) (by omega)) h.2.1.2, ⟨fun a i x1 x2 x3 _ _ _ _ => g a i x1 x2 x3, fun _ _ _ _ _ => rfl⟩, ⟨Or.inl (fun a i x => g a i (by omega) (by omega) (by omega)), fun zz => ⟨(g _ _ (by omega) (by omega) (by omega)).trans zz, fun a i x y => g a i (by omega) (by omega) (by omega)⟩⟩, Or.inl (g _ _ (by omega) (by omega) (by omega)), by rw [g 105 32 (by omega) (by omega) (by omega)]; exact hH.2.2.2.2⟩ (g _ _ (by omega) (by omega) (by omega)) (fun a i x y => g a i (by omega) (by omega) (by omega))
  have q : ∀ a i, ¬ (73 ≤ a ∧ a ≤ 80) → J1 a i = (fun a i => if a = 21 ∨ a = 22 ∨ a = 23 then J1 a i else J a i) a i := fun a i x => by
    dsimp only
    by_cases c : a = 21 ∨ a = 22 ∨ a = 23
    · rw [if_pos c]
    · rw [if_neg c]; exact hn a i (by omega) (by omega) (by omega) x
  exact PW_z U.1 (fun a i y w => q a i (fun s => y (by unfold XZ; omega))) (Or.inl ⟨q _ _ (by omega), q _ _ (by omega)⟩)
/-- the class's own plan has its cuttings -/
theorem FxO_55 {N : Nat} (h : PW tr TS z kd R J b4 b5 b6 b7 len sl) (hL : LsC J (cuS (J 107))) (h15 : J 24 15 = 0) (hN : J 2 0 + J 2 1 + J 2 2 = N) : FxO (J 107) (fun i => J 55 i) N := fun i hi => by
  obtain ⟨q1, q2, q3⟩ := PW_fo h h15 hN i hi
  obtain ⟨_, _, ⟨m1, m2, m3⟩, _⟩ := h
  have c3 := clR_3 (b := J 2 1) (c := J 2 2) (i := N - 1 - i)
  have ec : clA (J 107 0) (J 107 1) i = ((clR (J 2 1) (J 2 2) (N - 1 - i) : Nat) : Int) := by
    rw [← m2 0 (by omega) (by omega), ← m2 1 (by omega) (by omega)]
    unfold clA clR
    (repeat' split) <;> omega
  have l := (hL _ c3).1
  dsimp only
  rw [ec]
  refine ⟨by omega, _, List.getElem?_eq_getElem (show (J 55 i).toNat < _ by omega)⟩
/-- the tasks are listed -/
theorem R145 {dp N : Nat} (hSh : Sh z kd R) (hd : 8 ≤ dp) (h : PW tr TS z kd R J b4 b5 b6 b7 len sl) (hL : LsC J (cuS (J 107))) (h15 : J 24 15 = 0) (hN : J 2 0 + J 2 1 + J 2 2 = N) (hC : CrI J (J 107)) : Ev (fun n => kf_145 n dp (z, kd, R) 0 J M 0 0) (fun r => r.2 = M ∧ FrTl J r.1 ∧ r.1 73 15 = 0 ∧ TkI r.1 (J 107) (fun i => J 55 i) N) := by
  obtain ⟨c1, c2, c3, c4⟩ := hC
  have m2 := h.2.2.1.2.1
  have eN : (J 107 0 + J 107 1 + J 107 2).toNat = N := by
    rw [← m2 0 (by omega) (by omega), ← m2 1 (by omega) (by omega), ← m2 2 (by omega) (by omega), hN]
    omega
  obtain ⟨f1, f2, _⟩ := h.2.2.2.2.1 h15
  by_cases c : J 73 15 = 0
  · obtain ⟨B, n, f, lf, k1, k2, k3⟩ := c4 c
    rw [eN] at k3
    have e55 := plR_f h hL k2 f1 f2
    refine ev_145_0 ?_
    refine Ev_t c (Ev_ret ⟨rfl, fun _ _ _ _ _ _ _ _ _ _ => rfl, c, TkI_f (fun i hi => (e55 i (by omega)).symm) k3⟩)
  · refine Ev_mono (K145 (f := fun i => J 55 i) h.1.1 ⟨hSh.1.trans' (by decide), by rw [hSh.2.1 74 (by decide)]; rfl, by rw [hSh.2.1 74 (by decide)]; rfl⟩ ⟨hSh.1.trans' (by decide), by rw [hSh.2.1 75 (by decide)]; rfl, by rw [hSh.2.1 75 (by decide)]; rfl⟩ ⟨hSh.1.trans' (by decide), by rw [hSh.2.1 77 (by decide)]; rfl, by rw [hSh.2.1 77 (by decide)]; rfl⟩ (by omega) h.2.1.1.1 h.2.1.1.2.1 (PW_v h) m2 hN hL (FxO_55 h hL h15 hN) (fun i _ => rfl) c) ?_
    rintro ⟨K, L⟩ ⟨r1, r2, r3, r4, r5, r6, r7⟩
    dsimp only at r1 r2 r3 r4 r5 r6 r7
    have e16 : K 73 16 = 1 := by
      rw [r2 _ _ (by omega) (by omega) (by omega) (by omega) (by omega) (by omega) (by omega) (by omega)]
      rcases c2 with z | z
      · exact absurd (c3 z) c
      · exact z
    exact ⟨r1, r2, r3, r4, r7, Or.inr e16, fun _ => ⟨r5, r6⟩, fun z => by dsimp only at z; omega⟩
/-- they are shared -/
theorem R148 {dp N : Nat} {f : Nat → Int} {ρ : Int → Int} (hSh : Sh z kd R) (hd : 20 ≤ dp) (hr : rwO ρ) (hA : AskO J tr ρ) (h11 : J tr 11 = ρ 9) (hf : FxO ρ f N) (hN8 : N ≤ 8) (h8 : J 1 8 = ρ 3) (h5 : ∀ m, 0 ≤ m → m < 4 → J 5 m = ρ (70 + m)) (hT : TkI J ρ f N) : Ev (fun n => kf_148 n dp (z, kd, R) 0 J M) (fun r => r.2 = M ∧ FrSt J r.1 ∧ r.1 73 16 = 0 ∧ ShS (r.1 76) (r.1 73 12) (tkL ρ f N 16) (fun w => tkM ρ f w N) (cnR (fun m => ρ (70 + m)) (fun w => tkS ρ f w N)) (ρ 3).toNat) := by
  obtain ⟨q1, q2, q3, q4, q5⟩ := hT
  have u3 := hr.2.2.1
  rcases q3 with c | c
  · refine ev_148_0 ?_
    exact Ev_t c (Ev_ret ⟨rfl, fun _ _ _ _ _ _ _ _ => rfl, c, q5 c⟩)
  · obtain ⟨a1, a2⟩ := q4 c
    refine K148 (e := (z, kd, R)) hd ⟨hSh.1.trans' (by decide), by rw [hSh.2.1 76 (by decide)]; rfl, by rw [hSh.2.1 76 (by decide)]; rfl⟩ ⟨hSh.1.trans' (by decide), by rw [hSh.2.1 80 (by decide)]; rfl, by rw [hSh.2.1 80 (by decide)]; rfl⟩ (by omega) (fun w hw => (tkL_m.1 hw).1) tkL_p (fun w => ?_) ⟨a1, by rw [h8]; omega, a2, fun w hw => ?_, fun m hm => h5 m (by omega) (by omega)⟩ q2 (tkL_n 16) (by omega)
    · have := tkM_b hA h11 (w := (w : Int)) (by omega) hf N (Nat.le_refl _)
      dsimp only
      omega
    · have := (tkL_m.1 hw).1
      exact q1 w (by omega) (by omega)
end CO
