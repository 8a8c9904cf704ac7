section
set_option maxRecDepth 100000 in
theorem ev_66_0 {dp : Nat} {e : EN} {I : JI} {L : JI} {i1 : Int} {i2 : Int} {P_ : (Int × JI × JI) → Prop} (h : Ev (fun n => (if 1 ≤ dp then ((kf_56 n (dp - 1) e 0 I L i1 0).bind (fun ⟨x0_2, I0_2, L0_2⟩ => (if x0_2 = 0 then (some ((0 : Int), I0_2, L0_2)) else (if 1 ≤ dp then ((kf_59 n (dp - 1) e 0 I0_2 L0_2 60).bind (fun ⟨x1_13, I1_13, L1_13⟩ => (if x1_13 = 0 then (if 1 ≤ dp then ((kf_59 n (dp - 1) e 0 I1_13 L1_13 62).bind (fun ⟨x2_28, I2_28, L2_28⟩ => (if x2_28 = 0 then (if 1 ≤ dp then ((kf_59 n (dp - 1) e 0 I2_28 L2_28 61).bind (fun ⟨x3_43, I3_43, L3_43⟩ => (if x3_43 = 0 then (some ((0 : Int), I3_43, L3_43)) else (kf_66 n dp e 1 I3_43 L3_43 i1 8)))) else none) else (kf_66 n dp e 1 I2_28 L2_28 i1 7)))) else none) else (kf_66 n dp e 1 I1_13 L1_13 i1 6)))) else none)))) else none)) P_) : Ev (fun n => kf_66 n dp e 0 I L i1 i2) P_ := Ev_step (fun n => ke_66_0 n dp e I L i1 i2) h
set_option maxRecDepth 100000 in
theorem ev_66_1 {dp : Nat} {e : EN} {I : JI} {L : JI} {i1 : Int} {i2 : Int} {P_ : (Int × JI × JI) → Prop} (h : Ev (fun n => (if 1 ≤ dp then ((kf_37 n (dp - 1) e 0 I L 0).bind (fun ⟨I0_58, L0_58⟩ => (if 1 ≤ dp then ((kf_56 n (dp - 1) e 0 I0_58 L0_58 i1 0).bind (fun ⟨x1_63, I1_63, L1_63⟩ => (if x1_63 = 0 then (some ((0 : Int), I1_63, L1_63)) else ((e.2.2 104 1).bind (fun b_72 => (if (b_72 < e.1) ∧ ((e.2.1 b_72).1 = 10) then (if 1 ≤ dp then ((kf_61 n (dp - 1) e 0 I1_63 L1_63 i2 0 b_72).bind (fun ⟨x2_77, I2_77, L2_77⟩ => (some ((1 : Int), I2_77, L2_77)))) else none) else none)))))) else none))) else none)) P_) : Ev (fun n => kf_66 n dp e 1 I L i1 i2) P_ := Ev_step (fun n => ke_66_1 n dp e I L i1 i2) h
end
/-! PARSER 11: comparisons -/
theorem icp_0 {n : Int} {q : List (Int × Int)} (hp : Pk n q) (h : ∀ x p, q = x :: p → bnd x.1 < 4) : icp q = 0 := by
  cases q with
  | nil => rfl
  | cons x p =>
    have h1 := h x p rfl
    have h2 := hp x (List.mem_cons_self ..)
    have h3 : ¬ x.1 < 27 := fun c => by
      unfold bnd at h1
      rw [if_neg (by omega), if_neg (by omega), if_neg (by omega), if_neg (by omega)] at h1
      repeat' split at h1
      all_goals omega
    unfold icp
    rw [if_neg (by omega), if_neg (by omega)]
section TEST
variable {dm : Nat} {e : EN} {tr : Nat} {tst : Int} {M : JI}
theorem rdC (htr : tr = 9 ∨ tr = 93) (hT : TrO e tr) (h104 : e.2.2 104 1 = some tr) (hdm : 8 ≤ dm) (htst : ¬ tst = 0) (dc : Nat) (b : Int) (q : List (Int × Int)) (J K L : JI) (x : Int) (hb : 0 ≤ b ∧ b ≤ 8) (hdc : 4 * (8 - b) + 9 ≤ (dc : Int)) (hP : PR tr b q J K L) (ht : tcd 0 K L) (hi : ¬ inn q = 31) (hq : ∀ x p, q = x :: p → bnd x.1 < 4) : Ev (fun n => kf_66 n dc e 0 J M b x) (Pst dm e tr tst b 4 0 2 Td exF q M J K L) := by
  have hP0 := hP
  have h4 := hP.1.2.2.2.1
  have hN := hP.1.1
  have h7 := hP.2.2.2.2.2.2.1
  have h6 := hP.2.2.2.2.2.1
  refine ev_66_0 ?_
  refine Ev_t (by omega) (Ev_bind (rd_all (dm := dm) (tst := tst) htr hT h104 hdm 400 (dc - 1) b 0 q J K L 0 hb (by omega) hP (by omega) ht (fun x p hp => by have := hq x p hp; omega)) ?_)
  rintro ⟨y, J1, M1⟩ ⟨hM1, hy⟩
  dsimp only at hM1 hy ⊢
  subst hM1
  rcases hy with ⟨rfl, ok⟩ | ⟨rfl, fl⟩
  · refine Ev_f (by decide) ?_
    obtain ⟨r, K1, L1, d, hh, g, P, hr, fC, fM, ty, lt, hl0, inc, sC, sM, sml, ex0⟩ := ok
    have P' := P
    have hKP := PR_KP P' hb
    obtain ⟨u1, u2, u3, u4, u5, u6, u7, u8⟩ := P
    have u1' := u1
    obtain ⟨v1, v2, v3, v4, v5, v6, v7, v8, v9, v10⟩ := u1
    have tb : 0 ≤ J1 104 4 ∧ (J1 104 3 = 3 → J1 104 4 < 400) := ⟨by omega, fun c => by have := v7 (by omega); omega⟩
    have nA := noA_of u1' ex0
    have ir : inn (r ++ q) = inn q := inn_app _ _ (fun x hx => by have := hr x hx; omega)
    have icr : icp (r ++ q) = 0 := by
      rw [icp_app _ _ (fun x hx => ⟨(u4.2.2 x (List.mem_append_left _ hx)).1, hr x hx⟩)]
      exact icp_0 (n := K1 105 16) (fun x hx => u4.2.2 x (List.mem_append_right _ hx)) hq
    have ht31 : ¬ inn (r ++ q) = 31 := by rw [ir]; exact hi
    have go : ∀ (c sc o : Int), J1 104 3 = 3 ∧ J1 89 (J1 104 4) = c → ((c = 60 ∧ o = 24 ∧ sc = 6) ∨ (c = 62 ∧ o = 25 ∧ sc = 7) ∨ (c = 61 ∧ o = 26 ∧ sc = 8)) → Ev (fun n => kf_66 n dc e 1 J1 M1 b sc) (Pst dm e tr tst b 4 0 2 Td exF q M1 J K L) := by
      intro c sc o cc ho
      have hl := PR_lt P' (by have := cc.1; omega)
      have bo : bnd o = 4 := by rcases ho with ⟨_, rfl, _⟩ | ⟨_, rfl, _⟩ | ⟨_, rfl, _⟩ <;> decide
      obtain ⟨s, ⟨s1, K2, K3, s2, s3, s4⟩, s5⟩ := go_of3 (e := e) (tst := tst) (dm := dm) (by omega) u2 (K232ct (o := o) (c := c) (y := 0) (z := 0) (by omega) hKP hl.1 nA ht31 (fun z => htst z.2) icr ((TK_s u1' c).mp cc) (by omega) hr (fun x p hp => by have := hq x p hp; omega))
      have ef := ef_cmp (o := o) (L1 := s.2.2) hKP s2 s3
      rw [← s4] at ef
      rw [s1] at s5
      refine ev_66_1 ?_
      refine Ev_t (by omega) (Ev_bind (K37 (by omega) (by omega)) ?_)
      rintro ⟨J2, M2⟩ ⟨hM2, gn⟩
      dsimp only at hM2 gn ⊢
      subst hM2
      have go := GN_o gn
      have gf := GN_f gn
      have g2 := go 104 2 (by omega)
      have g7 := go 104 7 (by omega)
      have g12 := go tr 12 (by omega)
      have en := em_n r (cs K1)
      have e16 : (cs K1).2.2 = K1 105 16 := rfl
      have la : (r ++ q).length = r.length + q.length := List.length_append
      have cs1 : cs s.2.1 = em r (cs K1) := ef.2.2.1
      have s16 : s.2.1 105 16 = (em r (cs K1)).2.2 := by rw [← cs1]; rfl
      have P1 : PR tr b ((o, 0) :: q) J2 s.2.1 s.2.2 := by
        refine PR_of P' ⟨rfl, rfl, fun _ => rfl⟩ gn ef (by omega) ?_ ?_ (by omega)
        · intro x hx
          rcases List.mem_cons.mp hx with z | z
          · subst z; dsimp only; omega
          · have := u4.2.2 x (List.mem_append_right _ z)
            omega
        · simp only [List.length_cons]; omega
      refine Ev_t (by omega) (Ev_bind (rd_all (dm := dm) (tst := tst) htr hT h104 hdm 400 (dc - 1) b 1 ((o, 0) :: q) J2 s.2.1 s.2.2 0 hb (by omega) P1 (by omega) (Or.inl rfl) (fun x p hp => by cases hp; dsimp only; omega)) ?_)
      rintro ⟨y, J3, M3⟩ ⟨hM3, hy⟩
      dsimp only at hM3 hy ⊢
      subst hM3
      rcases hy with ⟨rfl, ok⟩ | ⟨rfl, fl⟩
      · obtain ⟨r2, K4, L4, d2, hh2, g3, P2, hr2, fC2, fM2, ty2, lt2, hl2, inc2, sC2, sM2, sml2, ex2⟩ := ok
        have P2' := P2
        have hKP2 := PR_KP P2' hb
        obtain ⟨x1, x2, x3, x4, x5, x6, x7, x8⟩ := P2
        have x1' := x1
        obtain ⟨y1, y2, y3, y4, y5, y6, y7, y8, y9, y10⟩ := x1
        refine Ev_f (by decide) (Ev_R h104 (Ev_t hT.1 (Ev_t (by omega) (Ev_call (K61 hT (by omega) (by omega)) ?_))))
        have e4 := stC_4 htr J3 sc 0
        have e12 := stC_12 tr J3 sc 0
        have ap : (r2 ++ [(o, 0)]) ++ q = r2 ++ (o, 0) :: q := by rw [List.append_assoc]; rfl
        have eme : em (r2 ++ [(o, 0)]) (cs K4) = em [(o, 0)] (em r2 (cs K4)) := em_app _ _ _
        have l1 := sM.1
        have l2 := sM2.1
        rw [s16, cs1] at sml2
        rw [s16] at sM2 l2
        rw [g12] at sC2 inc2
        have so : o - 18 = sc := by omega
        have i2 : inn (r2 ++ (o, 0) :: q) = inn q := by
          rw [inn_app _ _ (fun x hx => by have := hr2 x hx; omega)]
          show (if 30 ≤ o then o else inn q) = inn q
          rw [if_neg (by omega)]
        have c2 : icp (r2 ++ (o, 0) :: q) = 1 := by
          rw [icp_app _ _ (fun x hx => ⟨(x4.2.2 x (List.mem_append_left _ hx)).1, hr2 x hx⟩)]
          show (if 20 ≤ o ∧ o ≤ 23 then icp q else if 24 ≤ o ∧ o ≤ 26 then 1 else 0) = 1
          rw [if_neg (by omega), if_pos (by omega)]
        obtain ⟨z, z1, z5⟩ := go_of3 (e := e) (tst := tst) (dm := dm) (by omega) x2 (K232ce (y := 0) (z := 0) (by omega) hKP2 (noA_of x1' ex2) (by rw [i2]; exact hi) (fun z => htst z.2) c2)
        subst z1
        refine Ev_ret ⟨rfl, Or.inl ⟨rfl, ?_⟩⟩
        show OKp dm e tr tst b 4 0 2 Td exF q J K L (stC tr J3 sc 0)
        refine ⟨r2 ++ [(o, 0)], K4, L4, dB sc d d2, hh + hh2, Go_t g (Go_t s5 (Go_t g3 z5)), ?_, ?_, FrC_t fC (FrC_t (GN_fr htr gn) (FrC_t fC2 (stC_fr tr J3 sc 0))), FrM_t fM (FrM_t ef.2.2.2.2.2.1 fM2), dB_Td (by omega), by rw [e4]; omega, by rw [e4]; omega, by rw [e4, e12]; omega, ?_, ?_, ?_, trivial⟩
        · rw [ap]; exact PR_stC htr P2' (by omega)
        · intro x hx
          rcases List.mem_append.mp hx with z | z
          · have := hr2 x z; omega
          · have z : x = (o, 0) := by simpa using z
            subst z; dsimp only; omega
        · rw [e12]
          have f1 := FrC_t (GN_fr htr gn) (FrC_t fC2 (stC_fr tr J3 sc 0))
          have f2 := stC_fr tr J3 sc 0
          refine seg_b (cC_fr f1 sC) (cC_fr f2 sC2) (by rw [stC_at]) (by omega) ?_
          have := sC.2.1
          omega
        · rw [eme, ← so]
          have := sM.2.1
          exact em_op (o := o) (cM_sml sml2 sM) sM2 (by omega) (by omega)
        · rw [eme]
          have e1 : em [(o, 0)] (em r2 (cs K4)) = (up1 (em r2 (cs K4)).1 (em r2 (cs K4)).2.2 o, up1 (em r2 (cs K4)).2.1 (em r2 (cs K4)).2.2 0, (em r2 (cs K4)).2.2 + 1) := by
            show em1 (o, 0) (em r2 (cs K4)) = _
            unfold em1
            rw [if_neg (by dsimp only; omega)]
          rw [e1]
          refine Sml_t (by omega) sml (Sml_t (b := (em r2 (cs K4)).2.2) (by omega) sml2 ?_)
          exact Sml_up (s := em r2 (cs K4)) (Int.le_refl _)
      · exact Ev_t rfl (Ev_ret ⟨rfl, Or.inr ⟨rfl, fl_t (Go_t g s5) (FrC_t fC (GN_fr htr gn)) (FrM_t fM ef.2.2.2.2.2.1) fl⟩⟩)
    refine Ev_t (by omega) (Ev59 tb (fun c1 => ?_) (fun c1 => ?_)) <;> dsimp only
    · exact Ev_f (by decide) (go 60 6 24 c1 (by omega))
    refine Ev_t rfl (Ev_t (by omega) (Ev59 tb (fun c2 => ?_) (fun c2 => ?_))) <;> dsimp only
    · exact Ev_f (by decide) (go 62 7 25 c2 (by omega))
    refine Ev_t rfl (Ev_t (by omega) (Ev59 tb (fun c3 => ?_) (fun c3 => ?_))) <;> dsimp only
    · exact Ev_f (by decide) (go 61 8 26 c3 (by omega))
    refine Ev_t rfl (Ev_ret ⟨rfl, Or.inr ⟨rfl, ?_⟩⟩)
    obtain ⟨z, z1, z5⟩ := go_of3 (e := e) (tst := tst) (dm := dm) (by omega) u2 (K232cf (y := 0) (z := 0) (by omega) hKP nA ht31 (fun z => htst z.2) icr (fun z => c1 ((TK_s u1' 60).mpr z)) (fun z => c2 ((TK_s u1' 62).mpr z)) (fun z => c3 ((TK_s u1' 61).mpr z)))
    subst z1
    exact fl_bad P' (Go_t g z5) fC fM
  · exact Ev_t rfl (Ev_ret ⟨rfl, Or.inr ⟨rfl, fl⟩⟩)
end TEST
