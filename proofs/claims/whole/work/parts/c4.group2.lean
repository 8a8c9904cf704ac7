section
set_option maxRecDepth 100000 in
theorem ev_99_1 {dp : Nat} {e : EN} {I : JI} {L : JI} {i2 : Int} {i4 : Int} {i5 : Int} {i6 : Int} {i7 : Int} {i8 : Int} {i9 : Int} {a3 : Nat} {P_ : (JI × JI) → Prop} (h : Ev (fun n => (if (a3 < e.1) ∧ ((e.2.1 a3).1 = 2) then (if (I a3 4) ≤ i5 then (some (I, L)) else (if 1 ≤ dp then ((kf_100 n (dp - 1) e 0 I L i5 0 0 a3).bind (fun ⟨x0_22, I0_22, L0_22⟩ => (if 1 ≤ dp then ((kf_101 n (dp - 1) e 0 I0_22 L0_22 i5 0 0 a3).bind (fun ⟨x1_31, I1_31, L1_31⟩ => (if 0 ≤ i2 ∧ i2 < 3 then (if 1 ≤ dp then ((kf_102 n (dp - 1) e 0 I1_31 L1_31 x0_22 0 0).bind (fun ⟨x2_52, I2_52, L2_52⟩ => (if 1 ≤ dp then (if 0 ≤ i2 ∧ i2 < 3 then (if -2147483648 ≤ x1_31 + x2_52 ∧ x1_31 + x2_52 ≤ 2147483647 then (stI (w2 I2_52 33 i2 (max (I1_31 33 i2) (x1_31 + x2_52))) (fun I_59 => (if 0 ≤ i2 ∧ i2 < 3 then (if -2147483648 ≤ i4 + (I_59 32 i2) ∧ i4 + (I_59 32 i2) ≤ 2147483647 then (stI (i4 + (I_59 32 i2)) (fun v_73 => (kf_99 n dp e 2 I_59 L2_52 i2 i4 i5 x0_22 x1_31 i4 v_73 a3))) else none) else none))) else none) else none) else none))) else none) else none))) else none))) else none)) else none)) P_) : Ev (fun n => kf_99 n dp e 1 I L i2 i4 i5 i6 i7 i8 i9 a3) P_ := Ev_step (fun n => ke_99_1 n dp e I L i2 i4 i5 i6 i7 i8 i9 a3) h
set_option maxRecDepth 100000 in
theorem ev_99_6 {dp : Nat} {e : EN} {I : JI} {L : JI} {i2 : Int} {i4 : Int} {i5 : Int} {i6 : Int} {i7 : Int} {i8 : Int} {i9 : Int} {a3 : Nat} {P_ : (JI × JI) → Prop} (h : Ev (fun n => (if -2147483648 ≤ i5 + 1 ∧ i5 + 1 ≤ 2147483647 then (kf_99 n dp e 1 I L i2 i4 (i5 + 1) 0 0 0 0 a3) else none)) P_) : Ev (fun n => kf_99 n dp e 6 I L i2 i4 i5 i6 i7 i8 i9 a3) P_ := Ev_step (fun n => ke_99_6 n dp e I L i2 i4 i5 i6 i7 i8 i9 a3) h
set_option maxRecDepth 100000 in
theorem ev_99_3 {dp : Nat} {e : EN} {I : JI} {L : JI} {i2 : Int} {i4 : Int} {i5 : Int} {i6 : Int} {i7 : Int} {i8 : Int} {i9 : Int} {a3 : Nat} {P_ : (JI × JI) → Prop} (h : Ev (fun n => (if -2147483648 ≤ i4 + i5 ∧ i4 + i5 ≤ 2147483647 then (if 0 ≤ (i4 + i5) ∧ (i4 + i5) < 192 then (stI (w2 I 31 (i4 + i5) i8) (fun I_111 => (if i8 = i9 then (if 0 ≤ i2 ∧ i2 < 3 then (if 0 ≤ i2 ∧ i2 < 3 then (if -2147483648 ≤ (I_111 32 i2) + 1 ∧ (I_111 32 i2) + 1 ≤ 2147483647 then (stI (w2 I_111 32 i2 ((I_111 32 i2) + 1)) (fun I_128 => (if 0 ≤ i8 ∧ i8 < 192 then (stI (w2 I_128 27 i8 i6) (fun I_137 => (kf_99 n dp e 4 I_137 L i2 i4 i5 i6 i7 i8 i9 a3))) else none))) else none) else none) else none) else (kf_99 n dp e 4 I_111 L i2 i4 i5 i6 i7 i8 i9 a3)))) else none) else none)) P_) : Ev (fun n => kf_99 n dp e 3 I L i2 i4 i5 i6 i7 i8 i9 a3) P_ := Ev_step (fun n => ke_99_3 n dp e I L i2 i4 i5 i6 i7 i8 i9 a3) h
set_option maxRecDepth 100000 in
theorem ev_99_4 {dp : Nat} {e : EN} {I : JI} {L : JI} {i2 : Int} {i4 : Int} {i5 : Int} {i6 : Int} {i7 : Int} {i8 : Int} {i9 : Int} {a3 : Nat} {P_ : (JI × JI) → Prop} (h : Ev (fun n => (if i8 = i9 then (kf_99 n dp e 5 I L i2 i4 i5 i6 i7 i8 i9 a3) else (if 0 ≤ i8 ∧ i8 < 192 then (if i7 ≤ (I 28 i8) then (if 0 ≤ i8 ∧ i8 < 192 then (if i7 = (I 28 i8) then (if 0 ≤ i8 ∧ i8 < 192 then (if 0 ≤ i8 ∧ i8 < 192 then (if -2147483648 ≤ (I 29 i8) + 1 ∧ (I 29 i8) + 1 ≤ 2147483647 then (stI (w2 I 29 i8 ((I 29 i8) + 1)) (fun I_208 => (kf_99 n dp e 6 I_208 L i2 i4 i5 i6 i7 i8 i9 a3))) else none) else none) else none) else (kf_99 n dp e 6 I L i2 i4 i5 i6 i7 i8 i9 a3)) else none) else (kf_99 n dp e 5 I L i2 i4 i5 i6 i7 i8 i9 a3)) else none))) P_) : Ev (fun n => kf_99 n dp e 4 I L i2 i4 i5 i6 i7 i8 i9 a3) P_ := Ev_step (fun n => ke_99_4 n dp e I L i2 i4 i5 i6 i7 i8 i9 a3) h
set_option maxRecDepth 100000 in
theorem ev_99_5 {dp : Nat} {e : EN} {I : JI} {L : JI} {i2 : Int} {i4 : Int} {i5 : Int} {i6 : Int} {i7 : Int} {i8 : Int} {i9 : Int} {a3 : Nat} {P_ : (JI × JI) → Prop} (h : Ev (fun n => (if 0 ≤ i8 ∧ i8 < 192 then (stI (w2 I 28 i8 i7) (fun I_165 => (if 0 ≤ i8 ∧ i8 < 192 then (stI (w2 I_165 29 i8 1) (fun I_173 => (if 0 ≤ i8 ∧ i8 < 192 then (stI (w2 I_173 30 i8 i5) (fun I_182 => (kf_99 n dp e 6 I_182 L i2 i4 i5 i6 i7 i8 i9 a3))) else none))) else none))) else none)) P_) : Ev (fun n => kf_99 n dp e 5 I L i2 i4 i5 i6 i7 i8 i9 a3) P_ := Ev_step (fun n => ke_99_5 n dp e I L i2 i4 i5 i6 i7 i8 i9 a3) h
set_option maxRecDepth 100000 in
theorem ev_99_2 {dp : Nat} {e : EN} {I : JI} {L : JI} {i2 : Int} {i4 : Int} {i5 : Int} {i6 : Int} {i7 : Int} {i8 : Int} {i9 : Int} {a3 : Nat} {P_ : (JI × JI) → Prop} (h : Ev (fun n => (if i9 ≤ i8 then (kf_99 n dp e 3 I L i2 i4 i5 i6 i7 i8 i9 a3) else (if 0 ≤ i8 ∧ i8 < 192 then (if (I 27 i8) = i6 then (kf_99 n dp e 3 I L i2 i4 i5 i6 i7 i8 i9 a3) else (if -2147483648 ≤ i8 + 1 ∧ i8 + 1 ≤ 2147483647 then (kf_99 n dp e 2 I L i2 i4 i5 i6 i7 (i8 + 1) i9 a3) else none)) else none))) P_) : Ev (fun n => kf_99 n dp e 2 I L i2 i4 i5 i6 i7 i8 i9 a3) P_ := Ev_step (fun n => ke_99_2 n dp e I L i2 i4 i5 i6 i7 i8 i9 a3) h
set_option maxRecDepth 100000 in
theorem ev_99_0 {dp : Nat} {e : EN} {I : JI} {L : JI} {i2 : Int} {i4 : Int} {i5 : Int} {i6 : Int} {i7 : Int} {i8 : Int} {i9 : Int} {a3 : Nat} {P_ : (JI × JI) → Prop} (h : Ev (fun n => (if -2147483648 ≤ i2 * 64 ∧ i2 * 64 ≤ 2147483647 then (kf_99 n dp e 1 I L i2 (i2 * 64) 0 0 0 0 0 a3) else none)) P_) : Ev (fun n => kf_99 n dp e 0 I L i2 i4 i5 i6 i7 i8 i9 a3) P_ := Ev_step (fun n => ke_99_0 n dp e I L i2 i4 i5 i6 i7 i8 i9 a3) h
end
/-! THE CLASS'S PLANS: groups of cuttings -/
def FrGp (c : Nat) (J J' : JI) : Prop := ∀ a i, ¬ (27 ≤ a ∧ a ≤ 31 ∧ (c : Int) * 64 ≤ i ∧ i < (c : Int) * 64 + 64) → ¬ ((a = 32 ∨ a = 33) ∧ i = c) → J' a i = J a i
/-- the groups of m cuttings with fills fi and gains gn -/
def GrO (J : JI) (c : Nat) (m : Nat) (fi gn : Nat → Int) : Prop := ∃ n : Nat, J 32 c = n ∧ n ≤ m ∧ (∀ g g' : Nat, g < n → g' < n → J 27 ((c : Int) * 64 + g) = J 27 ((c : Int) * 64 + g') → g = g') ∧ (∀ k : Nat, k < m → ∃ g : Nat, g < n ∧ J 31 ((c : Int) * 64 + k) = (c : Int) * 64 + g ∧ J 27 ((c : Int) * 64 + g) = fi k) ∧ ∀ g : Nat, g < n → MxH (List.range m) gn (fun k => fi k = J 27 ((c : Int) * 64 + g)) (J 28 ((c : Int) * 64 + g)) (J 29 ((c : Int) * 64 + g)) ∧ J 29 ((c : Int) * 64 + g) ≤ m ∧ ∃ k : Nat, k < m ∧ J 30 ((c : Int) * 64 + g) = k ∧ fi k = J 27 ((c : Int) * 64 + g) ∧ gn k = J 28 ((c : Int) * 64 + g) ∧ ∀ k' : Nat, k' < k → ¬ (fi k' = J 27 ((c : Int) * 64 + g) ∧ gn k' = J 28 ((c : Int) * 64 + g))
def TpO (J : JI) (c m : Nat) (gn mb : Nat → Int) : Prop := (∀ k : Nat, k < m → gn k + mb k ≤ J 33 c) ∧ 0 ≤ J 33 c ∧ J 33 c ≤ 40000000
theorem GrO_c {J J' : JI} {c m : Nat} {fi gn fi' gn' : Nat → Int} (hj : ∀ a i, (27 ≤ a ∧ a ≤ 31 ∧ (c : Int) * 64 ≤ i ∧ i < (c : Int) * 64 + 64) ∨ (a = 32 ∧ i = c) → J' a i = J a i) (hm : m ≤ 64) (hf : ∀ k, k < m → fi' k = fi k ∧ gn' k = gn k) (h : GrO J c m fi gn) : GrO J' c m fi' gn' := by
  obtain ⟨n, h1, h2, h3, h4, h5⟩ := h
  have e : ∀ (a g : Nat), 27 ≤ a → a ≤ 31 → g < 64 → J' a ((c : Int) * 64 + g) = J a ((c : Int) * 64 + g) := fun a g x y z => hj a _ (by omega)
  refine ⟨n, (hj _ _ (by omega)).trans h1, h2, fun g g' x y z => ?_, fun k hk => ?_, fun g hg => ?_⟩
  · rw [e 27 g (by omega) (by omega) (by omega), e 27 g' (by omega) (by omega) (by omega)] at z; exact h3 g g' x y z
  · obtain ⟨g, g1, g2, g3⟩ := h4 k hk
    exact ⟨g, g1, by rw [e 31 k (by omega) (by omega) (by omega)]; exact g2, by rw [e 27 g (by omega) (by omega) (by omega), (hf k hk).1]; exact g3⟩
  · obtain ⟨p1, p2, k, p3, p4, p5, p6, p7⟩ := h5 g hg
    rw [e 27 g (by omega) (by omega) (by omega), e 28 g (by omega) (by omega) (by omega), e 29 g (by omega) (by omega) (by omega), e 30 g (by omega) (by omega) (by omega)]
    refine ⟨MxH_c (fun x hx => by rw [(hf x (List.mem_range.1 hx)).1]) (fun x hx _ => (hf x (List.mem_range.1 hx)).2) p1, p2, k, p3, p4, by rw [(hf k p3).1]; exact p5, by rw [(hf k p3).2]; exact p6, fun k' hk' z => p7 k' hk' ?_⟩
    rw [(hf k' (by omega)).1, (hf k' (by omega)).2] at z
    exact z
section GR
variable {e : EN} {L : JI} {rn : Nat} {od : Nat → Int} {wn bn : Int → Int}
def fiK (J : JI) (rn : Nat) (od : Nat → Int) (wn : Int → Int) (c : Nat) (k : Nat) : Nat → Int := fiF rn od wn (fun p => J (58 + 5 * c + 2) (10 * k + p))
theorem K99 {dp : Nat} {J : JI} {c m : Nat} (hc : c < 3) (hd : 2 ≤ dp) (hO : CtO e (58 + 5 * c)) (hR : RtO J rn od wn bn) (hb : ∀ k, k < rn → -999 ≤ bn (od k) ∧ bn (od k) ≤ 999) (h4 : J (58 + 5 * c) 4 = m) (hm : m ≤ 64) (hl : ∀ k : Nat, k < m → ∀ p : Int, 0 ≤ p → p < 10 → 0 ≤ J (58 + 5 * c + 2) (10 * k + p) ∧ J (58 + 5 * c + 2) (10 * k + p) ≤ 200) (hk : ∀ p : Int, 0 ≤ p → p < 10 → 0 ≤ J 4 (10 + p) ∧ J 4 (10 + p) ≤ 999) (h32 : J 32 c = 0) (h33 : J 33 c = 0) : Ev (fun n => kf_99 n dp e 0 J L c 0 0 0 0 0 0 (58 + 5 * c)) (fun r => r.2 = L ∧ FrGp c J r.1 ∧ GrO r.1 c m (fun k => pkI (fiK J rn od wn c k)) (fun k => 16 * ovK J (58 + 5 * c) k) ∧ TpO r.1 c m (fun k => 16 * ovK J (58 + 5 * c) k) (fun k => mbF rn od bn (fiK J rn od wn c k))) := by
  have key : ∀ i : Nat, i ≤ m → ∀ K : JI, FrGp c J K → GrO K c i (fun k => pkI (fiK J rn od wn c k)) (fun k => 16 * ovK J (58 + 5 * c) k) → TpO K c i (fun k => 16 * ovK J (58 + 5 * c) k) (fun k => mbF rn od bn (fiK J rn od wn c k)) → Ev (fun n => kf_99 n dp e 1 K L c ((c : Int) * 64) i 0 0 0 0 (58 + 5 * c)) (fun r => r.2 = L ∧ FrGp c J r.1 ∧ GrO r.1 c m (fun k => pkI (fiK J rn od wn c k)) (fun k => 16 * ovK J (58 + 5 * c) k) ∧ TpO r.1 c m (fun k => 16 * ovK J (58 + 5 * c) k) (fun k => mbF rn od bn (fiK J rn od wn c k))) := by
    refine dec_ind m (fun i hi ih => ?_)
    intro K k1 k2 k3
    have e4 : K (58 + 5 * c) 4 = m := by rw [k1 _ _ (by omega) (by omega)]; exact h4
    refine ev_99_1 ?_
    rw [e4]
    by_cases ci : i < m
    · have ih := ih ci
      have eL : ∀ x : Int, K (58 + 5 * c + 2) x = J (58 + 5 * c + 2) x := fun x => k1 _ _ (by omega) (by omega)
      have eM : ∀ x : Int, K 4 x = J 4 x := fun x => k1 _ _ (by omega) (by omega)
      have R2 : RtO K rn od wn bn := RtO_c (fun x _ => k1 _ _ (by omega) (by omega)) (fun a x _ _ => k1 _ _ (by omega) (by omega)) hR
      have li := hl i ci
      have fb := fun f => fiF_b (l := fun p => J (58 + 5 * c + 2) (10 * i + p)) hR (fun p x y => (li p x y).1) f
      have efi : fiF rn od wn (fun p => K (58 + 5 * c + 2) (10 * i + p)) = fiK J rn od wn c i := by
        unfold fiK
        congr 1
        funext p
        exact eL _
      have eov : ovK K (58 + 5 * c) i = ovK J (58 + 5 * c) i := sm_congr 10 (fun p _ _ => by rw [eL, eM])
      have ob := ovK_b (J := J) (a0 := 58 + 5 * c) (k := i) li hk
      have mb := mbF_b (W := fiK J rn od wn c i) hR.2.1 hb (fun f => by have := fb f; unfold fiK; omega) rn (Nat.le_refl _)
      refine Ev_t hO.1 (Ev_f (by omega) (Ev_t (by omega) (Ev_bind (K100 (by omega) hO R2 (by omega) (fun p x y => by rw [eL]; exact li p x y)) ?_)))
      rintro _ rfl
      dsimp only
      rw [efi]
      refine Ev_t (by omega) (Ev_bind (K101 hO (by omega) (fun p x y => by rw [eL]; exact li p x y) (fun p x y => by rw [eM]; exact hk p x y)) ?_)
      rintro _ rfl
      dsimp only
      rw [eov]
      refine Ev_t (by omega) (Ev_t (by omega) (Ev_bind (K102 (by omega) R2 hb (fun f => by have := fb f; unfold fiK; omega)) ?_))
      rintro _ rfl
      dsimp only
      obtain ⟨t1, t2, t3⟩ := k3
      have mbv : mbF rn od bn (fiK J rn od wn c i) = sN (fun f => max 0 (16 * bn (od f)) * fiK J rn od wn c i f) rn := rfl
      rw [← mbv] at mb
      have r5 := hR.2.1
      refine Ev_t (by omega) (Ev_t (by omega) (Ev_t (by omega) (Ev_st ?_)))
      have T2 : TpO (w2 K 33 c (max (K 33 c) (16 * ovK J (58 + 5 * c) i + mbF rn od bn (fiK J rn od wn c i)))) c (i + 1) (fun k => 16 * ovK J (58 + 5 * c) k) (fun k => mbF rn od bn (fiK J rn od wn c k)) := by
        unfold TpO
        rw [w2_ap, if_pos ⟨rfl, rfl⟩]
        refine ⟨fun k hk' => ?_, by omega, by omega⟩
        by_cases q : k = i
        · subst q; dsimp only; omega
        · have := t1 k (by omega)
          omega
      have F2 : FrGp c J (w2 K 33 c (max (K 33 c) (16 * ovK J (58 + 5 * c) i + mbF rn od bn (fiK J rn od wn c i)))) := fun a x y z => by rw [w2_n (by omega)]; exact k1 a x y z
      have G2 : GrO (w2 K 33 c (max (K 33 c) (16 * ovK J (58 + 5 * c) i + mbF rn od bn (fiK J rn od wn c i)))) c i (fun k => pkI (fiK J rn od wn c k)) (fun k => 16 * ovK J (58 + 5 * c) k) := GrO_c (fun a x y => w2_n (by omega)) (by omega) (fun _ _ => ⟨rfl, rfl⟩) k2
      generalize w2 K 33 c (max (K 33 c) (16 * ovK J (58 + 5 * c) i + mbF rn od bn (fiK J rn od wn c i))) = K2 at T2 F2 G2 ⊢
      obtain ⟨n, n1, n2, n3, n4, n5⟩ := G2
      rw [n1]
      refine Ev_t (by omega) (Ev_t (by omega) (Ev_st ?_))
      generalize hfi : pkI (fiK J rn od wn c i) = F
      generalize hgn : 16 * ovK J (58 + 5 * c) i = G at *
      /- what becomes of it at group g -/
      have done : ∀ K4 : JI, FrGp c J K4 → GrO K4 c (i + 1) (fun k => pkI (fiK J rn od wn c k)) (fun k => 16 * ovK J (58 + 5 * c) k) → K4 33 c = K2 33 c → ∀ y1 y2 : Int, Ev (fun n => kf_99 n dp e 6 K4 L c ((c : Int) * 64) i F G y1 y2 (58 + 5 * c)) (fun r => r.2 = L ∧ FrGp c J r.1 ∧ GrO r.1 c m (fun k => pkI (fiK J rn od wn c k)) (fun k => 16 * ovK J (58 + 5 * c) k) ∧ TpO r.1 c m (fun k => 16 * ovK J (58 + 5 * c) k) (fun k => mbF rn od bn (fiK J rn od wn c k))) := by
        intro K4 q1 q2 q3 y1 y2
        refine ev_99_6 ?_
        refine Ev_t (by omega) (ih K4 q1 q2 ?_)
        unfold TpO at *
        rw [q3]
        exact T2
      have fresh : (∀ g : Nat, g < n → ¬ K2 27 ((c : Int) * 64 + g) = F) → Ev (fun n_1 => kf_99 n_1 dp e 3 K2 L c ((c : Int) * 64) i F G ((c : Int) * 64 + n) ((c : Int) * 64 + n) (58 + 5 * c)) (fun r => r.2 = L ∧ FrGp c J r.1 ∧ GrO r.1 c m (fun k => pkI (fiK J rn od wn c k)) (fun k => 16 * ovK J (58 + 5 * c) k) ∧ TpO r.1 c m (fun k => 16 * ovK J (58 + 5 * c) k) (fun k => mbF rn od bn (fiK J rn od wn c k))) := by
        intro hno
        refine ev_99_3 ?_
        refine Ev_t (by omega) (Ev_t (by omega) (Ev_st (Ev_t rfl (Ev_t (by omega) (Ev_t (by omega) ?_)))))
        rw [w2_n (b := 32) (by omega), n1]
        refine Ev_t (by omega) (Ev_st (Ev_t (by omega) (Ev_st ?_)))
        refine ev_99_4 ?_
        refine Ev_t rfl ?_
        refine ev_99_5 ?_
        refine Ev_t (by omega) (Ev_st (Ev_t (by omega) (Ev_st (Ev_t (by omega) (Ev_st ?_)))))
        have nn : ∀ (a : Nat) (x : Int), ¬ (a = 31 ∧ x = (c : Int) * 64 + i) → ¬ (a = 32 ∧ x = c) → ¬ (27 ≤ a ∧ a ≤ 30 ∧ x = (c : Int) * 64 + n) → w2 (w2 (w2 (w2 (w2 (w2 K2 31 ((c : Int) * 64 + i) ((c : Int) * 64 + n)) 32 c ((n : Int) + 1)) 27 ((c : Int) * 64 + n) F) 28 ((c : Int) * 64 + n) G) 29 ((c : Int) * 64 + n) 1) 30 ((c : Int) * 64 + n) i a x = K2 a x := fun a x z1 z2 z3 => by rw [w2_n (by omega), w2_n (by omega), w2_n (by omega), w2_n (by omega), w2_n (by omega), w2_n (by omega)]
        have v31 : w2 (w2 (w2 (w2 (w2 (w2 K2 31 ((c : Int) * 64 + i) ((c : Int) * 64 + n)) 32 c ((n : Int) + 1)) 27 ((c : Int) * 64 + n) F) 28 ((c : Int) * 64 + n) G) 29 ((c : Int) * 64 + n) 1) 30 ((c : Int) * 64 + n) i 31 ((c : Int) * 64 + i) = (c : Int) * 64 + n := by rw [w2_n (by omega), w2_n (by omega), w2_n (by omega), w2_n (by omega), w2_n (by omega), w2_ap, if_pos ⟨rfl, rfl⟩]
        have v32 : w2 (w2 (w2 (w2 (w2 (w2 K2 31 ((c : Int) * 64 + i) ((c : Int) * 64 + n)) 32 c ((n : Int) + 1)) 27 ((c : Int) * 64 + n) F) 28 ((c : Int) * 64 + n) G) 29 ((c : Int) * 64 + n) 1) 30 ((c : Int) * 64 + n) i 32 c = (n : Int) + 1 := by rw [w2_n (by omega), w2_n (by omega), w2_n (by omega), w2_n (by omega), w2_ap, if_pos ⟨rfl, rfl⟩]
        have v27 : w2 (w2 (w2 (w2 (w2 (w2 K2 31 ((c : Int) * 64 + i) ((c : Int) * 64 + n)) 32 c ((n : Int) + 1)) 27 ((c : Int) * 64 + n) F) 28 ((c : Int) * 64 + n) G) 29 ((c : Int) * 64 + n) 1) 30 ((c : Int) * 64 + n) i 27 ((c : Int) * 64 + n) = F := by rw [w2_n (by omega), w2_n (by omega), w2_n (by omega), w2_ap, if_pos ⟨rfl, rfl⟩]
        have v28 : w2 (w2 (w2 (w2 (w2 (w2 K2 31 ((c : Int) * 64 + i) ((c : Int) * 64 + n)) 32 c ((n : Int) + 1)) 27 ((c : Int) * 64 + n) F) 28 ((c : Int) * 64 + n) G) 29 ((c : Int) * 64 + n) 1) 30 ((c : Int) * 64 + n) i 28 ((c : Int) * 64 + n) = G := by rw [w2_n (by omega), w2_n (by omega), w2_ap, if_pos ⟨rfl, rfl⟩]
        have v29 : w2 (w2 (w2 (w2 (w2 (w2 K2 31 ((c : Int) * 64 + i) ((c : Int) * 64 + n)) 32 c ((n : Int) + 1)) 27 ((c : Int) * 64 + n) F) 28 ((c : Int) * 64 + n) G) 29 ((c : Int) * 64 + n) 1) 30 ((c : Int) * 64 + n) i 29 ((c : Int) * 64 + n) = 1 := by rw [w2_n (by omega), w2_ap, if_pos ⟨rfl, rfl⟩]
        have v30 : w2 (w2 (w2 (w2 (w2 (w2 K2 31 ((c : Int) * 64 + i) ((c : Int) * 64 + n)) 32 c ((n : Int) + 1)) 27 ((c : Int) * 64 + n) F) 28 ((c : Int) * 64 + n) G) 29 ((c : Int) * 64 + n) 1) 30 ((c : Int) * 64 + n) i 30 ((c : Int) * 64 + n) = i := by rw [w2_ap, if_pos ⟨rfl, rfl⟩]
        generalize w2 (w2 (w2 (w2 (w2 (w2 K2 31 ((c : Int) * 64 + i) ((c : Int) * 64 + n)) 32 c ((n : Int) + 1)) 27 ((c : Int) * 64 + n) F) 28 ((c : Int) * 64 + n) G) 29 ((c : Int) * 64 + n) 1) 30 ((c : Int) * 64 + n) i = K3 at nn v31 v32 v27 v28 v29 v30 ⊢
        have old : ∀ k : Nat, k < i → ¬ pkI (fiK J rn od wn c k) = F := fun k hk' z => by
          obtain ⟨g, g1, g2, g3⟩ := n4 k hk'
          exact hno g g1 (g3.trans z)
        refine done K3 (fun a x y z => (nn a x (by omega) (by omega) (by omega)).trans (F2 a x y z)) ⟨n + 1, by rw [v32]; omega, by omega, fun g g' x y z => ?_, fun k hk' => ?_, fun g hg => ?_⟩ (nn _ _ (by omega) (by omega) (by omega)) _ _
        · by_cases q : g = n
          · by_cases q' : g' = n
            · omega
            · subst q
              rw [v27, nn _ _ (by omega) (by omega) (by omega)] at z
              exact absurd z.symm (hno g' (by omega))
          · by_cases q' : g' = n
            · subst q'
              rw [v27, nn _ _ (by omega) (by omega) (by omega)] at z
              exact absurd z (hno g (by omega))
            · rw [nn _ _ (by omega) (by omega) (by omega), nn _ _ (by omega) (by omega) (by omega)] at z
              exact n3 g g' (by omega) (by omega) z
        · by_cases q : k = i
          · subst q
            exact ⟨n, by omega, v31, by rw [v27]; exact hfi.symm⟩
          · obtain ⟨g, g1, g2, g3⟩ := n4 k (by omega)
            exact ⟨g, by omega, by rw [nn _ _ (by omega) (by omega) (by omega)]; exact g2, by rw [nn _ _ (by omega) (by omega) (by omega)]; exact g3⟩
        · by_cases q : g = n
          · subst q
            rw [v27, v28, v29, v30]
            refine ⟨?_, by omega, i, by omega, rfl, hfi, hgn, fun k' hk' z => old k' hk' z.1⟩
            have := MxR_n (v := fun k => 16 * ovK J (58 + 5 * c) k) (H := fun k => pkI (fiK J rn od wn c k) = F) (m := i) hfi (fun k hk' z => absurd z (old k hk'))
            rw [hgn] at this
            exact this
          · obtain ⟨p1, p2, k, p3, p4, p5, p6, p7⟩ := n5 g (by omega)
            rw [nn 27 _ (by omega) (by omega) (by omega), nn 28 _ (by omega) (by omega) (by omega), nn 29 _ (by omega) (by omega) (by omega), nn 30 _ (by omega) (by omega) (by omega)]
            refine ⟨MxR_o p1 (fun z => hno g (by omega) ?_), by omega, k, by omega, p4, p5, p6, p7⟩
            rw [← hfi]; exact z.1.symm
      have found : ∀ g : Nat, g < n → K2 27 ((c : Int) * 64 + g) = F → Ev (fun n_1 => kf_99 n_1 dp e 3 K2 L c ((c : Int) * 64) i F G ((c : Int) * 64 + g) ((c : Int) * 64 + n) (58 + 5 * c)) (fun r => r.2 = L ∧ FrGp c J r.1 ∧ GrO r.1 c m (fun k => pkI (fiK J rn od wn c k)) (fun k => 16 * ovK J (58 + 5 * c) k) ∧ TpO r.1 c m (fun k => 16 * ovK J (58 + 5 * c) k) (fun k => mbF rn od bn (fiK J rn od wn c k))) := by
        intro g hg hF
        refine ev_99_3 ?_
        refine Ev_t (by omega) (Ev_t (by omega) (Ev_st (Ev_f (by omega) ?_)))
        obtain ⟨p1, p2, k, p3, p4, p5, p6, p7⟩ := n5 g hg
        have p10 := p1.2.2.1
        have nn0 : ∀ (a : Nat) (x : Int), ¬ (a = 31 ∧ x = (c : Int) * 64 + i) → w2 K2 31 ((c : Int) * 64 + i) ((c : Int) * 64 + g) a x = K2 a x := fun a x z => w2_n z
        have v310 : w2 K2 31 ((c : Int) * 64 + i) ((c : Int) * 64 + g) 31 ((c : Int) * 64 + i) = (c : Int) * 64 + g := by rw [w2_ap, if_pos ⟨rfl, rfl⟩]
        generalize w2 K2 31 ((c : Int) * 64 + i) ((c : Int) * 64 + g) = K3 at nn0 v310 ⊢
        have e28 : K3 28 ((c : Int) * 64 + g) = K2 28 ((c : Int) * 64 + g) := nn0 _ _ (by omega)
        have e29 : K3 29 ((c : Int) * 64 + g) = K2 29 ((c : Int) * 64 + g) := nn0 _ _ (by omega)
        /- behind: only 28, 29, 30 at g may differ -/
        have fin : ∀ (K4 : JI) (y1 y2 : Int), (∀ (a : Nat) (x : Int), ¬ (28 ≤ a ∧ a ≤ 30 ∧ x = (c : Int) * 64 + g) → K4 a x = K3 a x) → (MxH (List.range (i + 1)) (fun k => 16 * ovK J (58 + 5 * c) k) (fun k => pkI (fiK J rn od wn c k) = F) (K4 28 ((c : Int) * 64 + g)) (K4 29 ((c : Int) * 64 + g)) ∧ K4 29 ((c : Int) * 64 + g) ≤ ((i + 1 : Nat) : Int) ∧ ∃ k : Nat, k < i + 1 ∧ K4 30 ((c : Int) * 64 + g) = k ∧ pkI (fiK J rn od wn c k) = F ∧ 16 * ovK J (58 + 5 * c) k = K4 28 ((c : Int) * 64 + g) ∧ ∀ k' : Nat, k' < k → ¬ (pkI (fiK J rn od wn c k') = F ∧ 16 * ovK J (58 + 5 * c) k' = K4 28 ((c : Int) * 64 + g))) → Ev (fun n_1 => kf_99 n_1 dp e 6 K4 L c ((c : Int) * 64) i F G y1 y2 (58 + 5 * c)) (fun r => r.2 = L ∧ FrGp c J r.1 ∧ GrO r.1 c m (fun k => pkI (fiK J rn od wn c k)) (fun k => 16 * ovK J (58 + 5 * c) k) ∧ TpO r.1 c m (fun k => 16 * ovK J (58 + 5 * c) k) (fun k => mbF rn od bn (fiK J rn od wn c k))) := by
          intro K4 y1 y2 q1 q2
          have q0 : ∀ (a : Nat) (x : Int), ¬ (28 ≤ a ∧ a ≤ 30 ∧ x = (c : Int) * 64 + g) → ¬ (a = 31 ∧ x = (c : Int) * 64 + i) → K4 a x = K2 a x := fun a x z1 z2 => (q1 a x z1).trans (nn0 a x z2)
          refine done K4 (fun a x y z => (q0 a x (by omega) (by omega)).trans (F2 a x y z)) ⟨n, by rw [q0 _ _ (by omega) (by omega)]; exact n1, by omega, fun g1 g' x y z => ?_, fun k hk' => ?_, fun g1 hg1 => ?_⟩ (q0 _ _ (by omega) (by omega)) _ _
          · rw [q0 _ _ (by omega) (by omega), q0 _ _ (by omega) (by omega)] at z
            exact n3 g1 g' x y z
          · by_cases q : k = i
            · subst q
              exact ⟨g, hg, by rw [q1 _ _ (by omega)]; exact v310, by rw [q0 _ _ (by omega) (by omega), hF]; exact hfi.symm⟩
            · obtain ⟨g1, x1, x2, x3⟩ := n4 k (by omega)
              exact ⟨g1, x1, by rw [q0 _ _ (by omega) (by omega)]; exact x2, by rw [q0 _ _ (by omega) (by omega)]; exact x3⟩
          · by_cases q : g1 = g
            · subst q
              rw [q0 27 _ (by omega) (by omega), hF]
              exact q2
            · obtain ⟨p1, p2, k, p3, p4, p5, p6, p7⟩ := n5 g1 hg1
              rw [q0 27 _ (by omega) (by omega), q0 28 _ (by omega) (by omega), q0 29 _ (by omega) (by omega), q0 30 _ (by omega) (by omega)]
              refine ⟨MxR_o p1 (fun z => q (n3 g1 g hg1 hg ?_)), by omega, k, by omega, p4, p5, p6, p7⟩
              rw [hF, ← hfi]; exact z.1.symm
        rw [hF] at p1 p5 p7
        refine ev_99_4 ?_
        rw [e28, e29]
        refine Ev_f (by omega) (Ev_t (by omega) (Ev_c (fun z => Ev_t (by omega) (Ev_c (fun z2 => ?_) (fun z2 => ?_))) (fun z => ?_)))
        · refine Ev_t (by omega) (Ev_t (by omega) (Ev_t (by omega) (Ev_st (fin _ _ _ (fun a x y => w2_n (by omega)) ?_))))
          rw [w2_n (b := 28) (by omega), w2_n (b := 30) (by omega), w2_ap, if_pos ⟨rfl, rfl⟩, e28, nn0 30 _ (by omega)]
          exact ⟨MxR_e p1 hfi (hgn.trans z2), by omega, k, by omega, p4, p5, p6, p7⟩
        · refine fin K3 _ _ (fun _ _ _ => rfl) ?_
          rw [e28, e29, nn0 30 _ (by omega)]
          exact ⟨MxR_o p1 (fun y => by have := y.2; omega), by omega, k, by omega, p4, p5, p6, p7⟩
        · refine ev_99_5 ?_
          refine Ev_t (by omega) (Ev_st (Ev_t (by omega) (Ev_st (Ev_t (by omega) (Ev_st (fin _ _ _ (fun a x y => ?_) ?_))))))
          · rw [w2_n (by omega), w2_n (by omega), w2_n (by omega)]
          · rw [w2_n (b := 28) (by omega), w2_n (b := 28) (by omega), w2_ap (b := 28), if_pos ⟨rfl, rfl⟩, w2_n (b := 29) (by omega), w2_ap (b := 29), if_pos ⟨rfl, rfl⟩, w2_ap (b := 30), if_pos ⟨rfl, rfl⟩]
            have low : ∀ k : Nat, k < i → pkI (fiK J rn od wn c k) = F → 16 * ovK J (58 + 5 * c) k < G := fun k hk' y => by
              have := p1.1 k (List.mem_range.2 hk') y
              dsimp only at this
              omega
            refine ⟨?_, by omega, i, by omega, rfl, hfi, hgn, fun k' hk' y => by have := low k' hk' y.1; omega⟩
            have := MxR_n (v := fun k => 16 * ovK J (58 + 5 * c) k) (H := fun k => pkI (fiK J rn od wn c k) = F) (m := i) hfi (fun k hk' y => by rw [hgn]; exact low k hk' y)
            rw [hgn] at this
            exact this
      have srch : ∀ g : Nat, g ≤ n → (∀ g' : Nat, g' < g → ¬ K2 27 ((c : Int) * 64 + g') = F) → Ev (fun n_1 => kf_99 n_1 dp e 2 K2 L c ((c : Int) * 64) i F G ((c : Int) * 64 + g) ((c : Int) * 64 + n) (58 + 5 * c)) (fun r => r.2 = L ∧ FrGp c J r.1 ∧ GrO r.1 c m (fun k => pkI (fiK J rn od wn c k)) (fun k => 16 * ovK J (58 + 5 * c) k) ∧ TpO r.1 c m (fun k => 16 * ovK J (58 + 5 * c) k) (fun k => mbF rn od bn (fiK J rn od wn c k))) := by
        refine dec_ind n (fun g hg ig => ?_)
        intro hno
        refine ev_99_2 ?_
        by_cases q : g < n
        · refine Ev_f (by omega) (Ev_t (by omega) (Ev_c (fun z => found g q z) (fun z => Ev_t (by omega) ?_)))
          have ig := ig q (fun g' hg' => by
            by_cases y : g' = g
            · subst y; exact z
            · exact hno g' (by omega))
          rw [show (c : Int) * 64 + ((g + 1 : Nat) : Int) = (c : Int) * 64 + g + 1 by omega] at ig
          exact ig
        · have : g = n := by omega
          subst this
          exact Ev_t (by omega) (fresh hno)
      have s0 := srch 0 (by omega) (fun g' hg' => by omega)
      rw [show (c : Int) * 64 + ((0 : Nat) : Int) = (c : Int) * 64 by omega] at s0
      exact s0
    · have : i = m := by omega
      subst this
      exact Ev_t hO.1 (Ev_t (by omega) (Ev_ret ⟨rfl, k1, k2, k3⟩))
  refine ev_99_0 ?_
  refine Ev_t (by omega) (key 0 (by omega) J (fun _ _ _ _ => rfl) ⟨0, h32, by omega, fun g g' x => by omega, fun k hk' => by omega, fun g hg => by omega⟩ ⟨fun k hk' => by omega, by omega, by omega⟩)
end GR
