section
set_option maxRecDepth 100000 in
theorem ev_261_0 {dp : Nat} {e : EN} {I : JI} {L : JI} {i1 : Int} {i2 : Int} {i3 : Int} {i4 : Int} {P_ : (Int × JI × JI) → Prop} (h : Ev (fun n => (if (I 105 51) = 0 then (stI (w2 I 105 51 1) (fun I_14 => (if 1 ≤ dp then ((kf_262 n (dp - 1) e 0 I_14 L (I_14 107 0) (I_14 107 1) (I_14 107 2) 0 0 0).bind (fun ⟨x0_37, I0_37, L0_37⟩ => (if (x0_37 = 0) ∨ (x0_37 = 1) then (stI (w2 I0_37 105 52 x0_37) (fun I_40 => (if (I_40 105 52) = 0 then (some ((0 : Int), I_40, L0_37)) else (if 1 ≤ dp then ((kf_263 n (dp - 1) e 0 I_40 L0_37 0 0 0).bind (fun ⟨x1_54, I1_54, L1_54⟩ => (stI (w2 I1_54 105 53 x1_54) (fun I_57 => (stI (w2 I_57 105 54 (I_57 130 0)) (fun I_67 => (kf_261 n dp e 1 I_67 L1_54 0 0 0 0))))))) else none)))) else none))) else none))) else (if ((I 105 52) = 0) ∨ ((I 105 52) = 1) then (some (((I 105 52) : Int), I, L)) else none))) P_) : Ev (fun n => kf_261 n dp e 0 I L i1 i2 i3 i4) P_ := Ev_step (fun n => ke_261_0 n dp e I L i1 i2 i3 i4) h
set_option maxRecDepth 100000 in
theorem ev_261_1 {dp : Nat} {e : EN} {I : JI} {L : JI} {i1 : Int} {i2 : Int} {i3 : Int} {i4 : Int} {P_ : (Int × JI × JI) → Prop} (h : Ev (fun n => (if 10 ≤ i2 then (kf_261 n dp e 2 I L i1 0 0 0) else (if 0 ≤ i2 ∧ i2 < 10 then (stI (w2 I 135 i2 0) (fun I_86 => (if -2147483648 ≤ i2 + 1 ∧ i2 + 1 ≤ 2147483647 then (kf_261 n dp e 1 I_86 L i1 (i2 + 1) 0 0) else none))) else none))) P_) : Ev (fun n => kf_261 n dp e 1 I L i1 i2 i3 i4) P_ := Ev_step (fun n => ke_261_1 n dp e I L i1 i2 i3 i4) h
end
/-! PLANS: findPlan of the reference -/
/-- what the reference keeps of the plan -/
def PlR (lc : Int → List CT) (ρ : Int → Int) (bst n : Int) (f : Nat → Int) (lf : Int → Int) : Prop :=
  MxH (Sq (ofLs lc (fun p => ρ (50 + p)) 1 (fun _ _ => 0) (fun i => clA (ρ 0) (ρ 1) i) 0 (ρ 0 + ρ 1 + ρ 2).toNat)) (vT (fun p => ρ (60 + p)) (bnR ρ) 1 (fun _ => 0)) (fun _ => True) bst n ∧ n ≤ 1000000000 ∧ (-1000000000 ≤ bst ∧ bst ≤ 1000000000) ∧
  FsO (fun p => ρ (60 + p)) (bnR ρ) 1 (ofLs lc (fun p => ρ (50 + p)) 1 (fun _ _ => 0) (fun i => clA (ρ 0) (ρ 1) i) 0 (ρ 0 + ρ 1 + ρ 2).toNat) (fun _ => 0) f ∧
  ∀ p, 0 ≤ p → p < 10 → lf p = lfG lc (fun i => clA (ρ 0) (ρ 1) i) f (ρ 0 + ρ 1 + ρ 2).toNat p
def PlM (J : JI) : Prop := J 105 51 = 1 → J 105 32 = 1 ∧ ((J 105 52 = 0 ∧ ¬ PlN (cuS (J 107)) (J 107 0) (J 107 1) (J 107 2)) ∨ (J 105 52 = 1 ∧ PlN (cuS (J 107)) (J 107 0) (J 107 1) (J 107 2) ∧ PlR (cuS (J 107)) (J 107) (J 105 53) (J 105 54) (fun i => J 134 i) (J 135)))
theorem PlM_c {J J' : JI} (h7 : J' 107 = J 107) (h5 : ∀ i, i = 32 ∨ (51 ≤ i ∧ i ≤ 54) → J' 105 i = J 105 i) (h4 : ∀ i, J' 134 i = J 134 i) (h6 : ∀ i, J' 135 i = J 135 i) (h : PlM J) : PlM J' := by
  unfold PlM at *
  rw [h7, h5 51 (by omega), h5 32 (by omega), h5 52 (by omega), h5 53 (by omega), h5 54 (by omega), show (fun i : Nat => J' 134 i) = (fun i : Nat => J 134 i) from funext fun i => h4 i, show J' 135 = J 135 from funext h6]
  exact h
theorem FsO_b {wn bn : Int → Int} {t : Int} : ∀ {os : List OF} {T : Int → Int} {f : Nat → Int}, FsO wn bn t os T f → ∀ (i : Nat) (o : OF), os[i]? = some o → 0 ≤ f i ∧ f i < o.1
  | [], _, _, _, i, o, ho => by simp at ho
  | o' :: os, T, f, h, i, o, ho => by
    rw [FsO] at h
    obtain ⟨⟨k, b, h1, h2, _⟩, h6⟩ := h
    cases i with
    | zero =>
      simp at ho
      subst ho
      omega
    | succ i => exact FsO_b (h6 k h1) i o (by simpa using ho)
theorem ofLs_g {lc : Int → List CT} {ov : Int → Int} {t : Int} {dl : Nat → Nat → Int} {cl : Nat → Int} : ∀ (j i l : Nat), l < j → (ofLs lc ov t dl cl i j)[l]? = some (ofG ov t (dl (i + l)) (lc (cl (i + l))))
  | 0, i, l, h => by omega
  | j + 1, i, l, h => by
    rw [ofLs]
    cases l with
    | zero => simp
    | succ l => rw [List.getElem?_cons_succ, ofLs_g j (i + 1) l (by omega), show i + 1 + l = i + (l + 1) by omega]
section FP
variable {e : EN} {tr : Nat} {TS : Nat → Prop}
theorem R261 {dp : Nat} {J M : JI} (hS : ShC e tr) (hTS : TsO tr TS) (hd : 8 ≤ dp) (hH : HaC J tr) (h : CutI tr TS J) (hr : rwO (J 107)) (h51 : J 105 51 = 0 ∨ J 105 51 = 1) (hP : PlM J) : Ev (fun n => kf_261 n dp e 0 J M 0 0 0 0) (fun r => FrMp J r.2.1 M r.2.2 ∧ CutI tr TS r.2.1 ∧ (J 105 32 = 1 → ∀ a i, 120 ≤ a → a ≤ 122 → r.2.1 a i = J a i) ∧ PlM r.2.1 ∧ r.2.1 105 51 = 1 ∧ r.1 = r.2.1 105 52) := by
  by_cases c : J 105 51 = 0
  · refine ev_261_0 ?_
    refine Ev_t c (Ev_st ?_)
    have nn : ∀ a i, ¬ (a = 105 ∧ i = 51) → w2 J 105 51 1 a i = J a i := fun a i x => w2_n x
    have e7 : w2 J 105 51 1 107 = J 107 := funext fun i => nn _ _ (by omega)
    have hH1 : HaC (w2 J 105 51 1) tr := by
      obtain ⟨⟨hTT, h8, h9, h4, h6⟩, ⟨c1, c2, c3, c4, c5⟩, hE, h0, hc⟩ := hH
      rcases hS.1 with rfl | rfl
      all_goals
        unfold HaC
        rw [e7]
        refine ⟨⟨TrT_j (fun a i d1 d2 => nn _ _ (by omega)) hTT, h8, h9, h4, h6⟩, ⟨fun w x y => by rw [nn _ _ (by omega)]; exact c1 w x y, by rw [nn _ _ (by omega)]; exact c2, fun i x y => by rw [nn _ _ (by omega)]; exact c3 i x y, by rw [nn _ _ (by omega)]; exact c4, by rw [nn _ _ (by omega)]; exact c5⟩, by rw [nn _ _ (by omega)]; exact hE, by rw [nn _ _ (by omega)]; exact h0, by rw [nn _ _ (by omega)]; exact hc⟩
    have hC1 : CutI tr TS (w2 J 105 51 1) := CutI_c hTS e7 (nn _ _ (by omega)) (nn _ _ (by omega)) (fun a i _ => nn _ _ (by omega)) (fun a i _ _ _ => nn _ _ (by omega)) (fun a i _ _ => nn _ _ (by omega)) h
    obtain ⟨u1, u2, u3, u4, u5, u6, u7, u8, u9, u10, u11, u12, u13, u14, u15, u16, u17⟩ := hr
    have b0 := u1 0 (by omega) (by omega)
    have b1 := u1 1 (by omega) (by omega)
    have b2 := u1 2 (by omega) (by omega)
    rw [e7]
    refine Ev_t (by omega) (Ev_bind (R262 hS hTS (by omega) hH1 hC1 (by rw [e7]; exact ⟨u1, u2, u3, u4, u5, u6, u7, u8, u9, u10, u11, u12, u13, u14, u15, u16, u17⟩) b0.1 b1.1 b2.1 u2) ?_)
    rintro ⟨v, J1, M1⟩ ⟨r1, r2, r3, r4, r5, r6, r7⟩
    dsimp only at r1 r2 r3 r4 r5 r6 r7 ⊢
    rw [e7] at r6 r7
    have e71 : J1 107 = J 107 := by rw [← e7]; exact funext fun i => r1.1 _ _ (by omega) (by omega)
    have F1 : FrMp J J1 M M1 := ⟨fun a i x y => (r1.1 a i x y).trans (nn a i (by omega)), r1.2⟩
    have c51 : J1 105 51 = 1 := by rw [r5 _ _ (by omega), w2_ap, if_pos ⟨rfl, rfl⟩]
    have keep : J 105 32 = 1 → ∀ a i, 120 ≤ a → a ≤ 122 → J1 a i = J a i := fun z a i x y => (r4 (by rw [nn _ _ (by omega)]; exact z) a i x y).trans (nn _ _ (by omega))
    rcases r7 with ⟨rfl, r7⟩ | ⟨rfl, r7, r8, r9, r10, r11⟩
    · refine Ev_t (by omega) (Ev_st ?_)
      rw [w2_ap, if_pos ⟨rfl, rfl⟩]
      have mm : ∀ a i, ¬ (a = 105 ∧ i = 52) → w2 J1 105 52 0 a i = J1 a i := fun a i x => w2_n x
      have C2 : CutI tr TS (w2 J1 105 52 0) := CutI_c hTS (funext fun i => mm _ _ (by omega)) (mm _ _ (by omega)) (mm _ _ (by omega)) (fun a i _ => mm _ _ (by omega)) (fun a i _ _ _ => mm _ _ (by omega)) (fun a i _ _ => mm _ _ (by omega)) r2
      refine Ev_t rfl (Ev_ret ⟨⟨fun a i x y => by dsimp only; rw [mm _ _ (by omega)]; exact F1.1 a i x y, F1.2⟩, C2, fun z a i x y => by dsimp only; rw [mm _ _ (by omega)]; exact keep z a i x y, fun _ => ⟨by dsimp only; rw [mm _ _ (by omega)]; exact r3, Or.inl ⟨by dsimp only; rw [w2_ap, if_pos ⟨rfl, rfl⟩], ?_⟩⟩, by dsimp only; rw [mm _ _ (by omega)]; exact c51, by dsimp only; rw [w2_ap, if_pos ⟨rfl, rfl⟩]⟩)
      dsimp only
      rw [show w2 J1 105 52 0 107 = J 107 from by rw [← e71]; exact funext fun i => mm _ _ (by omega)]
      exact r7
    · refine Ev_t (by omega) (Ev_st ?_)
      rw [w2_ap, if_pos ⟨rfl, rfl⟩]
      have mm : ∀ a i, ¬ (a = 105 ∧ i = 52) → w2 J1 105 52 1 a i = J1 a i := fun a i x => w2_n x
      have e52 : w2 J1 105 52 1 105 52 = 1 := by rw [w2_ap, if_pos ⟨rfl, rfl⟩]
      generalize hJ2 : w2 J1 105 52 1 = J2 at mm e52
      obtain ⟨N, hN⟩ : ∃ N : Nat, (J 107 0 + J 107 1 + J 107 2).toNat = N := ⟨_, rfl⟩
      rw [hN] at r8
      have e72 : J2 107 = J 107 := by rw [← e71]; exact funext fun i => mm _ _ (by omega)
      have P2 : PlH J2 N := by
        obtain ⟨p1, p2, p3, p4, p5⟩ := r8
        refine ⟨p1, by rw [mm _ _ (by omega)]; exact p2, fun i hi => ?_, by rw [mm _ _ (by omega)]; exact p4, fun i x y => by rw [mm _ _ (by omega)]; exact p5 i x y⟩
        rw [mm 126 _ (by omega), mm 120 _ (by omega)]
        refine ⟨(p3 i hi).1, (p3 i hi).2.1, fun k hk p x y => ?_⟩
        rw [mm 122 _ (by omega)]
        exact (p3 i hi).2.2 k hk p x y
      refine Ev_f (by omega) (Ev_t (by omega) (Ev_bind (K263 (wn := fun p => J 107 (60 + p)) (by omega) P2 (fun p x y => ⟨by rw [mm _ _ (by omega)]; exact r11 p x y, u12 _ (by omega) (by omega)⟩) ?_) ?_))
      · refine Int.le_trans (Int.le_of_eq (sm_congr 10 (fun p x y => ?_))) u13
        by_cases z : 0 < J 107 (60 + p)
        · rw [if_pos z, if_neg (by omega)]
        · rw [if_neg z, if_pos (by omega)]
      · rintro ⟨w, J3, M3⟩ ⟨s1, s2, K0, m, od, s3, hO, hs, hP0, hR⟩
        dsimp only at s1 s2 s3 hO hs hP0 hR ⊢
        subst s1
        obtain ⟨t1, t2, t3, t4⟩ := hR
        have f3 : ∀ a i, ¬ (a = 105 ∧ (i = 43 ∨ i = 44)) → ¬ a = 128 → ¬ (129 ≤ a ∧ a ≤ 131) → ¬ a = 133 → J3 a i = J2 a i := fun a i x y z w => (t1 a i z w).trans (s3 a i x y)
        refine Ev_st (Ev_st ?_)
        rw [w2_n (f := J3) (b := 130) (by omega)]
        have zl : ∀ k : Nat, k ≤ 10 → ∀ K1 : JI, (∀ a i, ¬ a = 135 → K1 a i = w2 (w2 J3 105 53 w) 105 54 (J3 130 0) a i) → (∀ p : Int, 0 ≤ p → p < k → K1 135 p = 0) → Ev (fun n => kf_261 n dp e 1 K1 M3 0 k 0 0) (fun r => FrMp J r.2.1 M r.2.2 ∧ CutI tr TS r.2.1 ∧ (J 105 32 = 1 → ∀ a i, 120 ≤ a → a ≤ 122 → r.2.1 a i = J a i) ∧ PlM r.2.1 ∧ r.2.1 105 51 = 1 ∧ r.1 = r.2.1 105 52) := by
          refine dec_ind 10 (fun k hk ik => ?_)
          intro K1 g1 g2
          refine ev_261_1 ?_
          by_cases d : k < 10
          · refine Ev_f (by omega) (Ev_t (by omega) (Ev_st (Ev_t (by omega) (ik d _ (fun a i x => ?_) (fun p x y => ?_)))))
            · rw [w2_n (by omega)]; exact g1 a i x
            · by_cases z : p = k
              · subst z; rw [w2_ap, if_pos ⟨rfl, rfl⟩]
              · rw [w2_n (by omega)]; exact g2 p x (by omega)
          · have : k = 10 := by omega
            subst this
            refine Ev_t (by omega) ?_
            have k3 : ∀ a i, ¬ a = 135 → ¬ (a = 105 ∧ (i = 53 ∨ i = 54)) → K1 a i = J3 a i := fun a i x y => by rw [g1 a i x, w2_n (by omega), w2_n (by omega)]
            have hFQ : FrQ K0 K1 := fun a i x => (k3 a i (by omega) (by omega)).trans (t1 a i (by omega) (by omega))
            have e70 : K0 107 = J 107 := by rw [← e72]; exact funext fun i => s3 _ _ (by omega) (by omega)
            have e48 : K0 105 48 = 1 := by rw [s3 _ _ (by omega) (by omega), mm _ _ (by omega)]; exact r9
            have pp := OrM_p hO
            have L0 : ∀ c, 0 ≤ c → c < 3 → LsM c K0 (cuS (K0 107) c) := fun c x y => by
              have l := r6 c x y
              have e12 : ∀ a i, 120 ≤ a → a ≤ 122 → K0 a i = J1 a i := fun a i x y => (s3 a i (by omega) (by omega)).trans (mm a i (by omega))
              unfold LsM at *
              rw [e70, e12 _ _ (by omega) (by omega)]
              exact LsO_c (fun i _ _ => ⟨e12 _ _ (by omega) (by omega), e12 _ _ (by omega) (by omega)⟩) l
            have ebn : bnM K0 = bnR (J 107) := by funext p; unfold bnM bnR; rw [e70]
            have hos := osL_G (cl := fun i : Nat => clA (J 107 0) (J 107 1) i) (dl := fun _ _ => 0) hP0 L0 (fun i hi => by rw [s3 _ _ (by omega) (by omega), mm _ _ (by omega)]; exact r10 i (by omega) (by omega)) (fun i k hi => by rw [if_neg (by omega)]) N 0 (by omega)
            rw [e70, e48] at hos
            refine Ev_mono (K261w (N := N) (by omega) hFQ hO hP0 hs (fun i hi s x y z k hk => ?_) (fun i hi s x y z => ?_) N 0 (by omega) 0 (fun _ => 0) K1 (by omega) ?_ (fun _ => Int.le_refl _) ?_ (fun _ _ _ => rfl) (fun p x y => ?_)) ?_
            · rw [k3 _ _ (by omega) (by omega)] at z ⊢; exact t3 i hi s x y z k hk
            · rw [k3 _ _ (by omega) (by omega)] at z; exact RkO_c (k3 _ _ (by omega) (by omega)) (k3 _ _ (by omega) (by omega)) (t4 i hi s x y z)
            · rw [k3 _ _ (by omega) (by omega)]; exact t2
            · intro j hj
              have z := hO.2.2.1 j hj
              have y := hO.2.2.2.1 (od j) z.2.1 z.2.2
              have l0 : ∀ k, lfS (fun k => J 107 (60 + od k) + 1) 0 k = 0 := fun k => by
                induction k with
                | zero => rfl
                | succ k ih => rw [lfS, ih]; exact Int.zero_ediv _
              unfold dgS
              rw [l0, Int.zero_emod]
              dsimp only at y ⊢
              omega
            · rw [g2 p x (by omega)]; omega
            · rintro ⟨o, K5, M5⟩ ⟨y1, y2, y3, y4, y5, y6⟩
              dsimp only at y1 y2 y3 y4 y5 y6 ⊢
              subst y2
              have f5 : ∀ a i, ¬ (a = 105 ∧ (i = 43 ∨ i = 44 ∨ i = 52 ∨ i = 53 ∨ i = 54)) → ¬ (128 ≤ a ∧ a ≤ 131) → ¬ (133 ≤ a ∧ a ≤ 135) → K5 a i = J1 a i := fun a i x y z => (y3 a i z).trans ((k3 a i (by omega) (by omega)).trans ((f3 a i (by omega) (by omega) (by omega) (by omega)).trans (mm a i (by omega))))
              have e75 : K5 107 = J 107 := by rw [← e71]; exact funext fun i => f5 _ _ (by omega) (by omega) (by omega)
              have e552 : K5 105 52 = 1 := by rw [y3 _ _ (by omega), k3 _ _ (by omega) (by omega), f3 _ _ (by omega) (by omega) (by omega) (by omega)]; exact e52
              have e551 : K5 105 51 = 1 := by rw [f5 _ _ (by omega) (by omega) (by omega)]; exact c51
              have e553 : K5 105 53 = w := by rw [y3 _ _ (by omega), g1 _ _ (by omega), w2_n (by omega), w2_ap, if_pos ⟨rfl, rfl⟩]
              have e554 : K5 105 54 = J3 130 0 := by rw [y3 _ _ (by omega), g1 _ _ (by omega), w2_ap, if_pos ⟨rfl, rfl⟩]
              refine ⟨⟨fun a i x y => (f5 a i (by omega) (by omega) (by omega)).trans (F1.1 a i x y), F1.2⟩, CutI_c hTS (by rw [e75, e71]) (f5 _ _ (by omega) (by omega) (by omega)) (f5 _ _ (by omega) (by omega) (by omega)) (fun a i _ => f5 _ _ (by omega) (by omega) (by omega)) (fun a i _ _ _ => f5 _ _ (by omega) (by omega) (by omega)) (fun a i _ _ => f5 _ _ (by omega) (by omega) (by omega)) r2, fun z a i x y => (f5 a i (by omega) (by omega) (by omega)).trans (keep z a i x y), fun _ => ⟨by rw [f5 _ _ (by omega) (by omega) (by omega)]; exact r3, Or.inr ⟨e552, ?_⟩⟩, e551, y1.trans e552.symm⟩
              rw [e75]
              refine ⟨r7, ?_⟩
              rw [ebn, e48] at y5
              have p0 : (0 : Int) < prL (fun k => (fun p => J 107 (60 + p)) (od k) + 1) m := Int.lt_of_lt_of_le (by decide) pp.1
              have R0 := t4 0 (by omega) 0 (by omega) p0 t2
              unfold RkO at R0
              rw [show (59049 : Int) * ((0 : Nat) : Int) + 0 = 0 by omega, ← s2] at R0
              unfold PlR
              rw [hN, e553, e554, ← Sq_e hos]
              refine ⟨?_, R0.2.1, by omega, ?_, fun p x y => ?_⟩
              · have := RkA_T (s := 0) (T := fun _ => 0) hO hP0 hs (show 0 ≤ N by omega) ?_ (t4 0 (by omega) 0 (by omega) p0 t2)
                · rw [show (59049 : Int) * ((0 : Nat) : Int) + 0 = 0 by omega, ← s2, e48, ebn, show N - 0 = N by omega] at this
                  exact this
                · intro j hj
                  have z := hO.2.2.1 j hj
                  have y := hO.2.2.2.1 (od j) z.2.1 z.2.2
                  have l0 : ∀ k, lfS (fun k => J 107 (60 + od k) + 1) 0 k = 0 := fun k => by
                    induction k with
                    | zero => rfl
                    | succ k ih => rw [lfS, ih]; exact Int.zero_ediv _
                  unfold dgS
                  rw [l0, Int.zero_emod]
                  dsimp only at y ⊢
                  omega
              · have y5' := FsO_e hos y5
                rw [show (fun l : Nat => K5 134 (((0 : Nat) : Int) + l)) = (fun l : Nat => K5 134 l) from funext fun l => by congr 1; omega] at y5'
                exact y5'
              · rw [y6 p x y, g2 p x (by omega)]
                have fb := FsO_b (FsO_e hos y5)
                have key : ∀ i : Nat, i ≤ N → lfW K0 (fun l => K5 134 l) i p = lfG (cuS (J 107)) (fun i : Nat => clA (J 107 0) (J 107 1) i) (fun i => K5 134 i) i p := by
                  intro i
                  induction i with
                  | zero => intro _; rfl
                  | succ i ih =>
                    intro hi
                    rw [lfW, lfG, ih (by omega)]
                    congr 1
                    have q := fb i _ (ofLs_g N 0 i (by omega))
                    rw [show ((0 : Nat) : Int) + (i : Int) = i by omega, Nat.zero_add] at q
                    obtain ⟨q1, q2⟩ := q
                    have ec : K0 126 i = clA (J 107 0) (J 107 1) i := by rw [s3 _ _ (by omega) (by omega), mm _ _ (by omega)]; exact r10 i (by omega) (by omega)
                    have q3 := hP0.2.2.1 i (by omega)
                    rw [ec] at q3 ⊢
                    have l := L0 _ q3.1.1 q3.1.2
                    rw [e70] at l
                    have l1 := l.1
                    have hk2 : (K5 134 i).toNat < (cuS (J 107) (clA (J 107 0) (J 107 1) i)).length := by
                      have : K5 134 i < ((cuS (J 107) (clA (J 107 0) (J 107 1) i)).length : Int) := q2
                      omega
                    have z := (l.2 (K5 134 i).toNat (by omega) (cuS (J 107) (clA (J 107 0) (J 107 1) i))[(K5 134 i).toNat] (by simp [hk2]) p x y).2
                    unfold lvG
                    rw [if_pos ⟨x, y⟩, List.getElem?_eq_getElem hk2]
                    dsimp only at z ⊢
                    rw [← z]
                    congr 1
                    omega
                rw [key N (by omega), key 0 (by omega)]
                show 0 + (_ - 0) = _
                omega
        exact zl 0 (by omega) _ (fun _ _ _ => rfl) (fun p x y => by omega)
  · have c1 : J 105 51 = 1 := by omega
    obtain ⟨p1, p2⟩ := hP c1
    refine ev_261_0 ?_
    refine Ev_f c (Ev_t ?_ (Ev_ret ⟨⟨fun _ _ _ _ => rfl, fun _ _ _ _ _ => rfl⟩, h, fun _ _ _ _ _ => rfl, hP, c1, rfl⟩))
    rcases p2 with p2 | p2
    · exact Or.inl p2.1
    · exact Or.inr p2.1
end FP
