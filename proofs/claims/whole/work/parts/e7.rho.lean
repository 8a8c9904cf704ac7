/-! THE ROW: what looks at which of its places -/
/-- alike where trees are asked -/
def rhE (ρ ρ' : Int → Int) : Prop := ∀ i, (i = 4 ∨ i = 8 ∨ i = 9 ∨ (10 ≤ i ∧ i < 40) ∨ 290 ≤ i) → ρ' i = ρ i
theorem TrT_r {J : JI} {tr : Nat} {ρ ρ' : Int → Int} (h : ∀ i, (i = 8 ∨ i = 9 ∨ 290 ≤ i) → ρ' i = ρ i) (q : TrT J tr ρ) : TrT J tr ρ' := by
  obtain ⟨⟨q1, q2⟩, q3⟩ := q
  have h8 := h 8 (Or.inl rfl)
  have h9 := h 9 (Or.inr (Or.inl rfl))
  have hC : ∀ i, 0 ≤ i → cR ρ' i = cR ρ i := fun i hi => by unfold cR; rw [h _ (by omega), h _ (by omega)]
  refine ⟨⟨fun w a b => ?_, fun c a b => ?_⟩, by rw [h _ (by omega), h8]; exact q3⟩
  · rw [h9] at b
    rw [h8]
    exact WyO_c (J := J) rfl rfl (fun _ _ _ => rfl) (fun k x y => h _ (by omega)) (fun i x y => h _ (by omega)) (Int.le_refl _) (q1 w a b)
  · rw [h8] at b
    rw [h9]
    exact ClO_c (J := J) ⟨rfl, rfl, rfl, rfl, rfl⟩ (fun _ _ => rfl) (fun k x y => h _ (by omega)) (fun i x y => hC i x) (fun _ _ _ => rfl) (Int.le_refl _) ⟨Int.le_refl _, Int.le_refl _⟩ (q2 c a b)
theorem AskO_r {J : JI} {tr : Nat} {ρ ρ' : Int → Int} (h : rhE ρ ρ') (q : AskO J tr ρ) : AskO J tr ρ' := by
  obtain ⟨q1, q2, q3, q4, q5⟩ := q
  exact ⟨TrT_r (fun i x => h i (by omega)) q1, by rw [h 8 (by omega)]; exact q2, by rw [h 9 (by omega)]; exact q3, by rw [h 4 (by omega)]; exact q4, fun i a b => by rw [h i (by omega)]; exact q5 i a b⟩
theorem ClsO_r {J : JI} {tr : Nat} {ρ ρ' : Int → Int} (h : rhE ρ ρ') (q : ClsO J tr ρ) : ClsO J tr ρ' := by
  obtain ⟨c1, c2, c3, c4, c5⟩ := q
  have h9 := h 9 (by omega)
  exact ⟨fun w a b => by rw [h9] at b; rw [h _ (by omega)]; exact c1 w a b, by rw [h 4 (by omega)]; exact c2, fun i a b => by rw [h _ (by omega)]; exact c3 i a b, by rw [h 8 (by omega)]; exact c4, by rw [h9]; exact c5⟩
theorem fc_r {J : JI} {tr : Nat} {ρ ρ' : Int → Int} {w c : Int} (h : rhE ρ ρ') (q : AskO J tr ρ) (hw : 0 ≤ w ∧ w < ρ 9) (hc : 0 ≤ c ∧ c < 3) : fc ρ' w c = fc ρ w c := by
  have b := (fc_g q hw hc).2
  funext i
  unfold fc
  rw [h _ (by omega), h 4 (by omega), h (10 + 3 * ρ (290 + 11 * w) + c) (by omega)]
theorem den_r {ρ ρ' : Int → Int} {a b : Int} {d : Den} {m : Nat} {φ : Int → Int} (h : rhE ρ ρ') (ha : 0 ≤ a) (hb : b ≤ 400) (s : Seg (cR ρ) a b d m) (hf : Fg φ) : den (cR ρ') a b φ = den (cR ρ) a b φ := by
  have s' : Seg (cR ρ') a b d m := seg_congr (fun i x y => by unfold cR; rw [h _ (by omega), h _ (by omega)]) s
  rw [den_s s (by omega) hf, den_s s' (by omega) hf]
theorem hld_r {J : JI} {tr : Nat} {ρ ρ' : Int → Int} {c : Int} {φ : Int → Int} (h : rhE ρ ρ') (q : AskO J tr ρ) (hc : 0 ≤ c ∧ c < ρ 8) (hf : Fg φ) : (hld ρ' φ c ↔ hld ρ φ c) ∧ (¬ ρ (472 + 8 * c) = 2 → sv ρ' φ c = sv ρ φ c) := by
  obtain ⟨k1, k2, k3, k4⟩ := q.1.1.2 c hc.1 hc.2
  unfold HdO at k1
  dsimp only at k1 k2 k4
  have e3 : (472 : Int) + (8 * c + 3) = 472 + 8 * c + 3 := by omega
  have e4 : (472 : Int) + (8 * c + 4) = 472 + 8 * c + 4 := by omega
  have e5 : (472 : Int) + (8 * c + 5) = 472 + 8 * c + 5 := by omega
  have e6 : (472 : Int) + (8 * c + 6) = 472 + 8 * c + 6 := by omega
  rw [e3, e4, e5, e6] at k4
  rw [e5, e6] at k2
  rw [e3, e4] at k1
  have tk : tok ρ' φ c ↔ tok ρ φ c := by
    unfold tok
    rw [h (472 + 8 * c + 6) (by omega), h (472 + 8 * c + 5) (by omega)]
    rcases k2 with ⟨_, z⟩ | ⟨d, m, _, _, _, s⟩
    · exact ⟨fun _ => Or.inl (by omega), fun _ => Or.inl (by omega)⟩
    · rw [den_r h (by omega) (by omega) s hf]
  have hdn : ¬ ρ (472 + 8 * c) = 2 → den (cR ρ') (ρ (472 + 8 * c + 3)) (ρ (472 + 8 * c + 4)) φ = den (cR ρ) (ρ (472 + 8 * c + 3)) (ρ (472 + 8 * c + 4)) φ := fun n2 => by
    rcases k1 with ⟨_, z, _⟩ | ⟨_, d, m, _, _, s⟩
    · exact absurd z n2
    · exact den_r h (by omega) (by omega) s hf
  constructor
  · unfold hld
    rw [tk, h (472 + 8 * c) (by omega), h (472 + 8 * c + 3) (by omega), h (472 + 8 * c + 4) (by omega)]
    by_cases n2 : ρ (472 + 8 * c) = 2
    · exact ⟨fun z => ⟨z.1, Or.inl n2⟩, fun z => ⟨z.1, Or.inl n2⟩⟩
    · rw [hdn n2]
  · intro n2
    unfold sv
    rw [h (472 + 8 * c + 3) (by omega), h (472 + 8 * c + 4) (by omega), hdn n2]
theorem tls_r {J : JI} {tr : Nat} {ρ ρ' : Int → Int} {hd w cl df : Int} (h : rhE ρ ρ') (q : AskO J tr ρ) (hw : 0 ≤ w ∧ w < ρ 9) (hc : 0 ≤ cl ∧ cl < 3) : ∀ n : Nat, (n : Int) ≤ ρ 8 → tls ρ' hd w cl df n = tls ρ hd w cl df n
  | 0, _ => rfl
  | n + 1, hn => by
    have r := tls_r (df := df) (hd := hd) h q hw hc n (by omega)
    obtain ⟨k1, k2⟩ := hld_r (c := n) h q (by omega) (fc_g q hw hc).1
    rw [tls, tls, r, fc_r h q hw hc, h (472 + 8 * (n : Int)) (by omega), h (472 + 8 * (n : Int) + 1) (by omega)]
    by_cases c : ρ (472 + 8 * n) = hd ∧ (¬ hd = 2 ∨ ρ (472 + 8 * n + 1) = w) ∧ hld ρ (fc ρ w cl) n
    · have c' : ρ (472 + 8 * n) = hd ∧ (¬ hd = 2 ∨ ρ (472 + 8 * n + 1) = w) ∧ hld ρ' (fc ρ w cl) n := ⟨c.1, c.2.1, k1.2 c.2.2⟩
      rw [if_pos c, if_pos c']
      by_cases c2 : hd = 2
      · rw [if_pos c2, if_pos c2]
      · rw [if_neg c2, if_neg c2, k2 (by rw [c.1]; exact c2)]
    · have c' : ¬ (ρ (472 + 8 * n) = hd ∧ (¬ hd = 2 ∨ ρ (472 + 8 * n + 1) = w) ∧ hld ρ' (fc ρ w cl) n) := fun z => c ⟨z.1, z.2.1, k1.1 z.2.2⟩
      rw [if_neg c, if_neg c']
theorem cuS_r {J : JI} {tr : Nat} {ρ ρ' : Int → Int} {c : Int} (h : rhE ρ ρ') (q : AskO J tr ρ) (hc : 0 ≤ c ∧ c < 3) : cuS ρ' c = cuS ρ c := by
  have h8 := h 8 (by omega)
  have h9 := h 9 (by omega)
  have q8 := q.2.1
  have q9 := q.2.2.1
  unfold cuS
  rw [h9, h8]
  refine En_c (W' := fun i => ρ' (290 + i)) (W := fun i => ρ (290 + i)) (fun w a b => ⟨?_, h (290 + 11 * w) (by omega), fun p x y => h (290 + (11 * w + 1 + p)) (by omega)⟩) _ _ _
  rw [tls_r h q (by omega) hc _ (by omega)]
theorem CuN_r {J : JI} {tr c : Nat} {ρ ρ' : Int → Int} (h : rhE ρ ρ') (q : AskO J tr ρ) (hc : c < 3) (g : CuN J tr ρ c) : CuN J tr ρ' c := by
  obtain ⟨g1, g2, g3⟩ := g
  have h8 := h 8 (by omega)
  have h9 := h 9 (by omega)
  refine ⟨g1, fun w a b => ?_, g3⟩
  rw [h9] at b
  have := q.2.1
  rw [h8, tls_r h q ⟨a, b⟩ (by omega) _ (by omega)]
  exact g2 w a b
/-- alike where plans and tasks are asked -/
def rhB (ρ ρ' : Int → Int) : Prop := ∀ i, ((0 ≤ i ∧ i ≤ 4) ∨ (8 ≤ i ∧ i < 74) ∨ 290 ≤ i) → ρ' i = ρ i
theorem rhB_E {ρ ρ' : Int → Int} (h : rhB ρ ρ') : rhE ρ ρ' := fun i x => h i (by omega)
theorem vT_r {wn wn' bn bn' : Int → Int} (h : ∀ p, 0 ≤ p → p < 10 → wn' p = wn p ∧ bn' p = bn p) (t : Int) (T : Int → Int) : vT wn' bn' t T = vT wn bn t T := by
  funext x
  unfold vT
  rw [sm_congr (g := fun p => if 0 < wn p then min (wn p) (T p + x.2 p) * bn p else 0) 10 (fun p a b => by rw [(h p a (by omega)).1, (h p a (by omega)).2])]
theorem FsO_r {wn wn' bn bn' : Int → Int} {t : Int} (h : ∀ p, 0 ≤ p → p < 10 → wn' p = wn p ∧ bn' p = bn p) : ∀ (os : List OF) (T : Int → Int) (f : Nat → Int), FsO wn bn t os T f → FsO wn' bn' t os T f
  | [], _, _, _ => by rw [FsO]; exact trivial
  | o :: os, T, f, g => by
    rw [FsO] at g ⊢
    obtain ⟨⟨k, b, g1, g2, g3, g4, g5⟩, g6⟩ := g
    refine ⟨⟨k, b, g1, g2, by rw [vT_r h]; exact g3, by rw [vT_r h]; exact g4, fun k' hk => by rw [vT_r h]; exact g5 k' hk⟩, fun k hk => FsO_r h os _ _ (g6 k hk)⟩
theorem ofG_r {ov ov' : Int → Int} {t : Int} {dl : Nat → Int} {l : List CT} (h : ∀ p, 0 ≤ p → p < 10 → ov' p = ov p) : ofG ov' t dl l = ofG ov t dl l := by
  unfold ofG
  congr 2
  funext k
  rw [sm_congr (g := fun p => ov p * lvG l k p) 10 (fun p a b => by rw [h p a (by omega)])]
theorem ofLs_r {lc lc' : Int → List CT} {ov ov' : Int → Int} {t : Int} {dl : Nat → Nat → Int} {cl cl' : Nat → Int} (h : ∀ p, 0 ≤ p → p < 10 → ov' p = ov p) (hl : ∀ c, 0 ≤ c → c < 3 → lc' c = lc c) (hc : ∀ i, cl' i = cl i ∧ 0 ≤ cl i ∧ cl i < 3) : ∀ (j i : Nat), ofLs lc' ov' t dl cl' i j = ofLs lc ov t dl cl i j
  | 0, _ => rfl
  | j + 1, i => by
    have c := hc i
    rw [ofLs, ofLs, ofLs_r h hl hc j (i + 1), ofG_r h, c.1, hl _ c.2.1 c.2.2]
theorem lfG_r {lc lc' : Int → List CT} {cl cl' : Nat → Int} {f : Nat → Int} {p : Int} (hl : ∀ c, 0 ≤ c → c < 3 → lc' c = lc c) (hc : ∀ i, cl' i = cl i ∧ 0 ≤ cl i ∧ cl i < 3) : ∀ N, lfG lc' cl' f N p = lfG lc cl f N p
  | 0 => by rw [lfG, lfG]
  | N + 1 => by
    have c := hc N
    rw [lfG, lfG, lfG_r hl hc N, c.1, hl _ c.2.1 c.2.2]
section RB
variable {J : JI} {tr : Nat} {ρ ρ' : Int → Int}
theorem PlR_r {B n : Int} {f : Nat → Int} {lf : Int → Int} (h : rhB ρ ρ') (q : AskO J tr ρ) (hP : PlR (cuS ρ) ρ B n f lf) : PlR (cuS ρ') ρ' B n f lf := by
  obtain ⟨p1, p2, p3, p4, p5⟩ := hP
  have hl : ∀ c, 0 ≤ c → c < 3 → cuS ρ' c = cuS ρ c := fun c a b => cuS_r (rhB_E h) q ⟨a, b⟩
  have e0 := h 0 (by omega)
  have e1 := h 1 (by omega)
  have e2 := h 2 (by omega)
  have hc : ∀ i : Nat, (fun i : Nat => clA (ρ' 0) (ρ' 1) i) i = (fun i : Nat => clA (ρ 0) (ρ 1) i) i ∧ 0 ≤ (fun i : Nat => clA (ρ 0) (ρ 1) i) i ∧ (fun i : Nat => clA (ρ 0) (ρ 1) i) i < 3 := fun i => ⟨by dsimp only; rw [e0, e1], clA_3⟩
  have hv : ∀ p : Int, 0 ≤ p → p < 10 → (fun p => ρ' (60 + p)) p = (fun p => ρ (60 + p)) p ∧ bnR ρ' p = bnR ρ p := fun p a b => by
    unfold bnR
    dsimp only
    rw [h _ (by omega), h _ (by omega), h _ (by omega)]
    exact ⟨rfl, rfl⟩
  have ho := ofLs_r (t := 1) (dl := fun _ _ => 0) (ov' := fun p => ρ' (50 + p)) (ov := fun p => ρ (50 + p)) (fun p a b => h _ (by omega)) hl hc
  unfold PlR
  rw [ho, e0, e1, e2, vT_r hv]
  rw [e0, e1] at hc
  refine ⟨p1, p2, p3, FsO_r hv _ _ _ p4, fun p a b => ?_⟩
  rw [p5 p a b]
  exact (lfG_r hl hc _).symm
theorem PlN_r {a b c : Int} (h : rhE ρ ρ') (q : AskO J tr ρ) (hP : PlN (cuS ρ) a b c) : PlN (cuS ρ') a b c := by
  unfold PlN at *
  rw [cuS_r h q (by omega), cuS_r h q (by omega), cuS_r h q (by omega)]
  exact hP
theorem chX_r (h : rhB ρ ρ') (q : AskO J tr ρ) {f : Nat → Int} {i : Nat} : chX ρ' f i = chX ρ f i := by
  funext p
  unfold chX
  rw [h 0 (by omega), h 1 (by omega), cuS_r (rhB_E h) q clA_3]
theorem tk_r (h : rhB ρ ρ') (q : AskO J tr ρ) (h11 : J tr 11 = ρ 9) {f : Nat → Int} {w : Int} (hw : 0 ≤ w) : ∀ i : Nat, tkM ρ' f w i = tkM ρ f w i ∧ tkS ρ' f w i = tkS ρ f w i
  | 0 => ⟨rfl, rfl⟩
  | i + 1 => by
    have r := tk_r h q h11 (f := f) hw i
    have e9 := h 9 (by omega)
    have e0 := h 0 (by omega)
    have e1 := h 1 (by omega)
    have q8 := q.2.1
    have ew : wyP ρ' w = wyP ρ w := h _ (by omega)
    have us : usX ρ' f i w ↔ usX ρ f i w := by unfold usX; rw [chX_r h q, ew, e9]
    have c3 := clA_3 (a := ρ 0) (b := ρ 1) (i := i)
    by_cases c : usX ρ f i w
    · have c' := us.2 c
      have hwp := (q.1.1.1 w hw c.1).1
      have hwp : 0 ≤ wyP ρ w ∧ wyP ρ w ≤ 9 := hwp
      have eD : tkD ρ' f i w = tkD ρ f i w := by
        unfold tkD cmX miX
        rw [ew, chX_r h q, e0, e1, h 8 (by omega), tls_r (rhB_E h) q ⟨hw, c.1⟩ c3 _ (by omega)]
        rw [cmg_c (W := fun j => ρ (290 + j)) (W' := fun j => ρ' (290 + j)) (ch := chX ρ f i) (ch' := chX ρ f i) _ (fun p hp => ⟨rfl, fun z q' a b => by
          have hb := chX_b q h11 (f := f) (i := i) (p := p) (by omega)
          rcases hb with hb | hb
          · exact absurd hb z
          · exact h _ (by omega)⟩)]
      have eK : skX ρ' w (clA (ρ' 0) (ρ' 1) i) = skX ρ w (clA (ρ 0) (ρ 1) i) := by
        unfold skX
        rw [e0, e1, h 8 (by omega), tls_r (rhB_E h) q ⟨hw, c.1⟩ c3 _ (by omega)]
      constructor
      · show tkM ρ' f w i + (if usX ρ' f i w then tkD ρ' f i w else 0) = tkM ρ f w i + (if usX ρ f i w then tkD ρ f i w else 0)
        rw [if_pos c, if_pos c', r.1, eD]
      · show (if usX ρ' f i w ∧ tkS ρ' f w i = -1 then skX ρ' w (clA (ρ' 0) (ρ' 1) i) else tkS ρ' f w i) = (if usX ρ f i w ∧ tkS ρ f w i = -1 then skX ρ w (clA (ρ 0) (ρ 1) i) else tkS ρ f w i)
        rw [r.2, eK]
        exact iteI ⟨fun z => ⟨c, z.2⟩, fun z => ⟨c', z.2⟩⟩
    · have c' : ¬ usX ρ' f i w := fun z => c (us.1 z)
      constructor
      · show tkM ρ' f w i + (if usX ρ' f i w then tkD ρ' f i w else 0) = tkM ρ f w i + (if usX ρ f i w then tkD ρ f i w else 0)
        rw [if_neg c, if_neg c', r.1]
      · show (if usX ρ' f i w ∧ tkS ρ' f w i = -1 then skX ρ' w (clA (ρ' 0) (ρ' 1) i) else tkS ρ' f w i) = (if usX ρ f i w ∧ tkS ρ f w i = -1 then skX ρ w (clA (ρ 0) (ρ 1) i) else tkS ρ f w i)
        rw [if_neg (fun z => c' z.1), if_neg (fun z => c z.1), r.2]
theorem TkI_r (h : rhB ρ ρ') (q : AskO J tr ρ) (h11 : J tr 11 = ρ 9) (h3 : ρ 3 ≤ 4) {K : JI} {f : Nat → Int} {N : Nat} (hT : TkI K ρ f N) : TkI K ρ' f N := by
  obtain ⟨q1, q2, q3, q4, q5⟩ := hT
  have eM : (fun w : Nat => tkM ρ' f w N) = (fun w : Nat => tkM ρ f w N) := funext fun w => (tk_r h q h11 (by omega) N).1
  have eS : (fun w : Nat => tkS ρ' f w N) = (fun w : Nat => tkS ρ f w N) := funext fun w => (tk_r h q h11 (by omega) N).2
  have eL : tkL ρ' f N 16 = tkL ρ f N 16 := by
    unfold tkL
    congr 1
    funext w
    rw [(tk_r h q h11 (w := (w : Int)) (by omega) N).2]
  unfold TkI
  rw [eL, eM, eS, h 3 (by omega)]
  refine ⟨fun w a b => by rw [(tk_r h q h11 a N).1, (tk_r h q h11 a N).2]; exact q1 w a b, q2, q3, q4, fun z => ?_⟩
  have s := q5 z
  have ok : ∀ T r, okR (ρ 3).toNat (cnR (fun m => ρ' (70 + m)) (fun w => tkS ρ f w N)) T r ↔ okR (ρ 3).toNat (cnR (fun m => ρ (70 + m)) (fun w => tkS ρ f w N)) T r := by
    intro T
    induction T with
    | nil => intro r; cases r <;> simp [okR]
    | cons w T ih =>
      intro r
      cases r with
      | nil => simp [okR]
      | cons m r =>
        rw [okR_c, okR_c, ih r]
        constructor
        · rintro ⟨⟨a, b⟩, d⟩
          refine ⟨⟨a, ?_⟩, d⟩
          unfold cnR at *
          have e := h (70 + (m : Int)) (by omega)
          dsimp only at b ⊢
          rw [← e]; exact b
        · rintro ⟨⟨a, b⟩, d⟩
          refine ⟨⟨a, ?_⟩, d⟩
          unfold cnR at *
          have e := h (70 + (m : Int)) (by omega)
          dsimp only at b ⊢
          rw [e]; exact b
  unfold ShS Lst at *
  simp only [ok]
  exact s
end RB
