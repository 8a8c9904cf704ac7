section
set_option maxRecDepth 100000 in
theorem ev_247_1 {dp : Nat} {e : EN} {I : JI} {L : JI} {i1 : Int} {P_ : (Int × JI × JI) → Prop} (h : Ev (fun n => (if 0 ≤ i1 ∧ i1 < 1570 then (if (I 107 i1) = 2 then (some ((1 : Int), I, L)) else (if -2147483648 ≤ i1 + 3 ∧ i1 + 3 ≤ 2147483647 then (if 0 ≤ (i1 + 3) ∧ (i1 + 3) < 1570 then (if -2147483648 ≤ i1 + 4 ∧ i1 + 4 ≤ 2147483647 then (if 0 ≤ (i1 + 4) ∧ (i1 + 4) < 1570 then (if 1 ≤ dp then ((kf_248 n (dp - 1) e 0 I L (I 107 (i1 + 3)) (I 107 (i1 + 4)) 0 0 0 0).bind (fun ⟨I0_86, L0_86⟩ => (stI (w2 L0_86 105 31 (L0_86 105 30)) (fun L_94 => (if (I0_86 105 29) = 0 then (some ((1 : Int), I0_86, L_94)) else (some ((0 : Int), I0_86, L_94))))))) else none) else none) else none) else none) else none)) else none)) P_) : Ev (fun n => kf_247 n dp e 1 I L i1) P_ := Ev_step (fun n => ke_247_1 n dp e I L i1) h
set_option maxRecDepth 100000 in
theorem ev_247_0 {dp : Nat} {e : EN} {I : JI} {L : JI} {i1 : Int} {P_ : (Int × JI × JI) → Prop} (h : Ev (fun n => (if -2147483648 ≤ i1 + 5 ∧ i1 + 5 ≤ 2147483647 then (if 0 ≤ (i1 + 5) ∧ (i1 + 5) < 1570 then (if -2147483648 ≤ i1 + 6 ∧ i1 + 6 ≤ 2147483647 then (if 0 ≤ (i1 + 6) ∧ (i1 + 6) < 1570 then (if (I 107 (i1 + 6)) ≤ (I 107 (i1 + 5)) then (kf_247 n dp e 1 I L i1) else (if 0 ≤ (i1 + 5) ∧ (i1 + 5) < 1570 then (if 0 ≤ (i1 + 6) ∧ (i1 + 6) < 1570 then (if 1 ≤ dp then ((kf_248 n (dp - 1) e 0 I L (I 107 (i1 + 5)) (I 107 (i1 + 6)) 0 0 0 0).bind (fun ⟨I0_38, L0_38⟩ => (if (I0_38 105 29) = 0 then (if (L0_38 105 30) = 0 then (some ((0 : Int), I0_38, L0_38)) else (kf_247 n dp e 1 I0_38 L0_38 i1)) else (some ((0 : Int), I0_38, L0_38))))) else none) else none) else none)) else none) else none) else none) else none)) P_) : Ev (fun n => kf_247 n dp e 0 I L i1) P_ := Ev_step (fun n => ke_247_0 n dp e I L i1) h
end
/-! ASKS: what a tree tells of a way for a class, as a row says it -/
def rn (C : Int → Int × Int) (φ : Int → Int) (b : Int) : Nat → Int → List Int → Option (List Int)
  | 0, p, s => if p = b then some s else none
  | k + 1, p, s => if p = b then some s else (stp C φ p s).bind (fun q => rn C φ b k q.1 q.2)
def den (C : Int → Int × Int) (a b : Int) : Den := fun φ => (rn C φ b 400 a []).bind (fun s => s.head?)
theorem den_s {C : Int → Int × Int} {a b : Int} {d : Den} {h : Nat} {φ : Int → Int} (hs : Seg C a b d h) (hb : b - a ≤ 400) (hf : Fg φ) : den C a b φ = d φ := by
  obtain ⟨l1, l2, l3, l4⟩ := hs
  have key := l4 φ hf (fun p s => ∀ k : Nat, b - p ≤ k → p ≤ b → rn C φ b k p s = (d φ).map (fun v => [v])) (d φ = none) h ?_ [] ⟨by simp, fun v hv => (nomatch hv)⟩ (by simp only [List.length_nil]; omega) ⟨fun h => h, fun v hv k hk _ => ?_⟩
  · unfold den
    rw [key 400 (by omega) (by omega)]
    cases d φ <;> rfl
  · intro p s pa pb wf gd af k hk _
    cases k with
    | zero => omega
    | succ k =>
      unfold rn
      rw [if_neg (by omega)]
      cases es : stp C φ p s with
      | none =>
        rw [es] at af
        rw [af.1 rfl]
        rfl
      | some q =>
        rw [es] at af
        obtain ⟨q1, q2, q3, q4⟩ := af.2 q rfl
        exact q4 k (by omega) q2
  · cases k with
    | zero => unfold rn; rw [if_pos rfl, hv]; rfl
    | succ k => unfold rn; rw [if_pos rfl, hv]; rfl
theorem rn_c {C C' : Int → Int × Int} {φ : Int → Int} {a b : Int} (hC : ∀ i, a ≤ i → C' i = C i) : ∀ (k : Nat) (p : Int) (s : List Int), a ≤ p → (∀ i, a ≤ i → (C i).1 = 10 ∨ (C i).1 = 11 → a ≤ (C i).2) → rn C' φ b k p s = rn C φ b k p s
  | 0, p, s, _, _ => rfl
  | k + 1, p, s, hp, hj => by
    have e : stp C' φ p s = stp C φ p s := by unfold stp; rw [hC p hp]
    unfold rn
    rw [e]
    by_cases c : p = b
    · rw [if_pos c, if_pos c]
    · rw [if_neg c, if_neg c]
      cases es : stp C φ p s with
      | none => rfl
      | some q =>
        refine rn_c hC k q.1 q.2 ?_ hj
        unfold stp at es
        repeat' split at es
        all_goals first | (cases es; done) | (injection es with es; subst es; dsimp only; first | omega | exact hj p hp (by assumption)) | skip
        all_goals
          rename_i h1 h2 h3 h4 _
          cases ej : jn (C p).1 _ _ with
          | none => rw [ej] at es; cases es
          | some w => rw [ej] at es; cases es; dsimp only; omega
/-- the facts that a way is asked with -/
def fc (ρ : Int → Int) (w c : Int) : Int → Int := fun i => if i = 0 then c else if i = 1 then ρ (290 + 11 * w) else if i = 2 then w else if i = 3 then ρ 4 else ρ (10 + 3 * ρ (290 + 11 * w) + c)
def tok (ρ : Int → Int) (φ : Int → Int) (c : Int) : Prop := ρ (472 + 8 * c + 6) ≤ ρ (472 + 8 * c + 5) ∨ ∃ v, den (cR ρ) (ρ (472 + 8 * c + 5)) (ρ (472 + 8 * c + 6)) φ = some v ∧ ¬ v = 0
/-- the clause holds -/
def hld (ρ : Int → Int) (φ : Int → Int) (c : Int) : Prop := tok ρ φ c ∧ (ρ (472 + 8 * c) = 2 ∨ ∃ v, den (cR ρ) (ρ (472 + 8 * c + 3)) (ρ (472 + 8 * c + 4)) φ = some v)
def sv (ρ : Int → Int) (φ : Int → Int) (c : Int) : Int := (den (cR ρ) (ρ (472 + 8 * c + 3)) (ρ (472 + 8 * c + 4)) φ).getD 0
noncomputable def tls (ρ : Int → Int) (hd w cl df : Int) : Nat → Int
  | 0 => df
  | n + 1 => @ite Int (ρ (472 + 8 * n) = hd ∧ (¬ hd = 2 ∨ ρ (472 + 8 * n + 1) = w) ∧ hld ρ (fc ρ w cl) n) (Classical.propDecidable _) (if hd = 2 then 1 else sv ρ (fc ρ w cl) n) (tls ρ hd w cl df n)
def clp (m v : Int) : Int := max 0 (min v m)
section ASK
variable {dp : Nat} {e : EN}
theorem K247 {K L : JI} {J : JI} {tr : Nat} {nw c : Int} {φ : Int → Int} (hd : 2 ≤ dp) (hc : 0 ≤ c ∧ c < 24) (hcl : ClO J tr (fun i => K 107 (472 + i)) (cR (K 107)) nw 400 400 c) (hf : Fg φ) (hφ : ∀ i, 0 ≤ i → i < 5 → L 118 (i + 1) = φ i) : Ev (fun n => kf_247 n dp e 0 K L (472 + 8 * c)) (fun r => (∀ a i, ¬ (a = 105 ∧ i = 29) → r.2.1 a i = K a i) ∧ (∀ a i, ¬ a = 119 → ¬ (a = 105 ∧ (i = 30 ∨ i = 31)) → r.2.2 a i = L a i) ∧ ((r.1 = 1 ∧ hld (K 107) φ c ∧ (¬ K 107 (472 + 8 * c) = 2 → r.2.2 105 31 = sv (K 107) φ c)) ∨ (r.1 = 0 ∧ ¬ hld (K 107) φ c))) := by
  obtain ⟨h1, h2, h3, h4⟩ := hcl
  dsimp only at h1 h2 h3 h4
  have e3 : 472 + (8 * c + 3) = 472 + 8 * c + 3 := by omega
  have e4 : 472 + (8 * c + 4) = 472 + 8 * c + 4 := by omega
  have e5 : 472 + (8 * c + 5) = 472 + 8 * c + 5 := by omega
  have e6 : 472 + (8 * c + 6) = 472 + 8 * c + 6 := by omega
  unfold HdO at h1
  dsimp only at h1
  rw [e3, e4, e5, e6] at h4
  rw [e5, e6] at h2
  rw [e3, e4] at h1
  /- the second half -/
  have snd : ∀ (K1 L1 : JI), (∀ a i, ¬ (a = 105 ∧ i = 29) → K1 a i = K a i) → (∀ a i, ¬ a = 119 → ¬ (a = 105 ∧ i = 30) → L1 a i = L a i) → tok (K 107) φ c → Ev (fun n => kf_247 n dp e 1 K1 L1 (472 + 8 * c)) (fun r => (∀ a i, ¬ (a = 105 ∧ i = 29) → r.2.1 a i = K a i) ∧ (∀ a i, ¬ a = 119 → ¬ (a = 105 ∧ (i = 30 ∨ i = 31)) → r.2.2 a i = L a i) ∧ ((r.1 = 1 ∧ hld (K 107) φ c ∧ (¬ K 107 (472 + 8 * c) = 2 → r.2.2 105 31 = sv (K 107) φ c)) ∨ (r.1 = 0 ∧ ¬ hld (K 107) φ c))) := by
    intro K1 L1 k1 l1 ht
    have r1 : ∀ i, K1 107 i = K 107 i := fun i => k1 107 i (by omega)
    have r1' : K1 107 = K 107 := funext r1
    refine ev_247_1 ?_
    rw [r1']
    refine Ev_t (by omega) (Ev_c (fun c2 => Ev_ret ⟨k1, fun a i q1 q2 => l1 a i q1 (by omega), Or.inl ⟨rfl, ⟨ht, Or.inl c2⟩, fun z => absurd c2 z⟩⟩) (fun c2 => ?_))
    rcases h1 with ⟨_, z, _⟩ | ⟨_, d, h, a2, a3, a4⟩
    · exact absurd z c2
    · refine Ev_t (by omega) (Ev_t (by omega) (Ev_t (by omega) (Ev_t (by omega) (Ev_t (by omega) ?_))))
      have sg : Seg (cR (K1 107)) (K 107 (472 + 8 * c + 3)) (K 107 (472 + 8 * c + 4)) d h := by rw [r1']; exact a4
      have ed := den_s a4 (by omega) hf
      refine Ev_bind (R248 (by omega) sg a2 (by omega) (by omega) hf (fun i i0 i1 => by rw [l1 _ _ (by omega) (by omega)]; exact hφ i i0 i1)) ?_
      rintro ⟨K2, L2⟩ ⟨q1, q2, q3⟩
      dsimp only at q1 q2 q3 ⊢
      refine Ev_st ?_
      have fr : ∀ a i, ¬ (a = 105 ∧ i = 29) → K2 a i = K a i := fun a i h => (q1 a i h).trans (k1 a i h)
      have fl : ∀ a i, ¬ a = 119 → ¬ (a = 105 ∧ (i = 30 ∨ i = 31)) → (w2 L2 105 31 (L2 105 30)) a i = L a i := fun a i h1 h2 => by rw [w2_n (by omega), q2 a i h1 (by omega)]; exact l1 a i h1 (by omega)
      rcases q3 with ⟨v, dv, lv, bv⟩ | ⟨dn, bv⟩
      · refine Ev_t bv (Ev_ret ⟨fr, fl, Or.inl ⟨rfl, ⟨ht, Or.inr ⟨v, ed.trans dv⟩⟩, fun _ => ?_⟩⟩)
        show (w2 L2 105 31 (L2 105 30)) 105 31 = _
        rw [w2_ap, if_pos ⟨rfl, rfl⟩, lv]
        unfold sv
        rw [ed, dv]
        rfl
      · refine Ev_f (by rw [bv]; decide) (Ev_ret ⟨fr, fl, Or.inr ⟨rfl, fun z => ?_⟩⟩)
        rcases z.2 with z | ⟨v, z⟩
        · exact c2 z
        · rw [ed, dn] at z; cases z
  refine ev_247_0 ?_
  refine Ev_t (by omega) (Ev_t (by omega) (Ev_t (by omega) (Ev_t (by omega) ?_)))
  refine Ev_c (fun c1 => snd K L (fun _ _ _ => rfl) (fun _ _ _ _ => rfl) (Or.inl c1)) (fun c1 => Ev_t (by omega) (Ev_t (by omega) (Ev_t (by omega) ?_)))
  rcases h2 with ⟨_, z⟩ | ⟨d, h, a1, a2, a3, a4⟩
  · exact absurd (Int.le_of_eq z.symm) c1
  · have ed := den_s a4 (by omega) hf
    refine Ev_bind (R248 (by omega) a4 a2 (by omega) (by omega) hf hφ) ?_
    rintro ⟨K2, L2⟩ ⟨q1, q2, q3⟩
    dsimp only at q1 q2 q3 ⊢
    rcases q3 with ⟨v, dv, lv, bv⟩ | ⟨dn, bv⟩
    · refine Ev_t bv (Ev_c (fun z => Ev_ret ⟨q1, fun a i h1 h2 => q2 a i h1 (by omega), Or.inr ⟨rfl, fun y => ?_⟩⟩) (fun z => ?_))
      · rcases y.1 with y | ⟨w, y, y2⟩
        · exact c1 y
        · rw [ed, dv] at y; cases y; rw [lv] at z; exact y2 z
      · rw [lv] at z
        exact snd K2 L2 q1 q2 (Or.inr ⟨v, ed.trans dv, z⟩)
    · refine Ev_f (by rw [bv]; decide) (Ev_ret ⟨q1, fun a i h1 h2 => q2 a i h1 (by omega), Or.inr ⟨rfl, fun y => ?_⟩⟩)
      rcases y.1 with y | ⟨w, y, y2⟩
      · exact c1 y
      · rw [ed, dn] at y; cases y
end ASK
