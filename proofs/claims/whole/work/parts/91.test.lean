section
set_option maxRecDepth 100000 in
theorem ev_62_7 {dp : Nat} {e : EN} {I : JI} {L : JI} {i1 : Int} {i2 : Int} {i3 : Int} {P_ : (Int × JI × JI) → Prop} (h : Ev (fun n => (if i1 < 8 then (if 1 ≤ dp then ((kf_37 n (dp - 1) e 0 I L 0).bind (fun ⟨I0_9, L0_9⟩ => (if 1 ≤ dp then (if -2147483648 ≤ i1 + 1 ∧ i1 + 1 ≤ 2147483647 then ((kf_62 n (dp - 1) e 0 I0_9 L0_9 (i1 + 1) 0 0).bind (fun ⟨x1_16, I1_16, L1_16⟩ => (if x1_16 = 0 then (some ((0 : Int), I1_16, L1_16)) else (if 1 ≤ dp then ((kf_59 n (dp - 1) e 0 I1_16 L1_16 41).bind (fun ⟨x2_25, I2_25, L2_25⟩ => (if x2_25 = 0 then (some ((0 : Int), I2_25, L2_25)) else (if 1 ≤ dp then ((kf_37 n (dp - 1) e 0 I2_25 L2_25 0).bind (fun ⟨I3_34, L3_34⟩ => (some ((1 : Int), I3_34, L3_34)))) else none)))) else none)))) else none) else none))) else none) else (some ((0 : Int), I, L)))) P_) : Ev (fun n => kf_62 n dp e 7 I L i1 i2 i3) P_ := Ev_step (fun n => ke_62_7 n dp e I L i1 i2 i3) h
set_option maxRecDepth 100000 in
theorem ev_62_6 {dp : Nat} {e : EN} {I : JI} {L : JI} {i1 : Int} {i2 : Int} {i3 : Int} {P_ : (Int × JI × JI) → Prop} (h : Ev (fun n => (if 1 ≤ dp then ((kf_59 n (dp - 1) e 0 I L 40).bind (fun ⟨x0_43, I0_43, L0_43⟩ => (if x0_43 = 0 then (if 1 ≤ dp then ((kf_66 n (dp - 1) e 0 I0_43 L0_43 i1 0).bind (fun ⟨x1_59, I1_59, L1_59⟩ => (if x1_59 = 0 then (if (x1_59 = 0) ∨ (x1_59 = 1) then (some ((x1_59 : Int), I1_59, L1_59)) else none) else (if i2 = 0 then (if (x1_59 = 0) ∨ (x1_59 = 1) then (some ((x1_59 : Int), I1_59, L1_59)) else none) else ((e.2.2 104 1).bind (fun b_72 => (if (b_72 < e.1) ∧ ((e.2.1 b_72).1 = 10) then (if 1 ≤ dp then ((kf_61 n (dp - 1) e 0 I1_59 L1_59 9 0 b_72).bind (fun ⟨x2_78, I2_78, L2_78⟩ => (if (x1_59 = 0) ∨ (x1_59 = 1) then (some ((x1_59 : Int), I2_78, L2_78)) else none))) else none) else none))))))) else none) else (if 1 ≤ dp then ((kf_62 n (dp - 1) e 7 I0_43 L0_43 i1 0 0).bind (fun ⟨x1_51, I1_51, L1_51⟩ => (if x1_51 = 0 then (if (x1_51 = 0) ∨ (x1_51 = 1) then (some ((x1_51 : Int), I1_51, L1_51)) else none) else (if i2 = 0 then (if (x1_51 = 0) ∨ (x1_51 = 1) then (some ((x1_51 : Int), I1_51, L1_51)) else none) else ((e.2.2 104 1).bind (fun b_72 => (if (b_72 < e.1) ∧ ((e.2.1 b_72).1 = 10) then (if 1 ≤ dp then ((kf_61 n (dp - 1) e 0 I1_51 L1_51 9 0 b_72).bind (fun ⟨x2_78, I2_78, L2_78⟩ => (if (x1_51 = 0) ∨ (x1_51 = 1) then (some ((x1_51 : Int), I2_78, L2_78)) else none))) else none) else none))))))) else none)))) else none)) P_) : Ev (fun n => kf_62 n dp e 6 I L i1 i2 i3) P_ := Ev_step (fun n => ke_62_6 n dp e I L i1 i2 i3) h
set_option maxRecDepth 100000 in
theorem ev_62_5 {dp : Nat} {e : EN} {I : JI} {L : JI} {i1 : Int} {i2 : Int} {i3 : Int} {P_ : (Int × JI × JI) → Prop} (h : Ev (fun n => (if 400 ≤ i3 then (kf_62 n dp e 6 I L i1 i2 i3) else (if 1 ≤ dp then ((kf_41 n (dp - 1) e 0 I L 0 11).bind (fun ⟨x0_14, I0_14, L0_14⟩ => (if x0_14 = 0 then (kf_62 n dp e 6 I0_14 L0_14 i1 i2 i3) else (if i2 = 0 then (if 1 ≤ dp then ((kf_37 n (dp - 1) e 0 I0_14 L0_14 0).bind (fun ⟨I1_31, L1_31⟩ => (if -2147483648 ≤ i3 + 1 ∧ i3 + 1 ≤ 2147483647 then (kf_62 n dp e 5 I1_31 L1_31 i1 1 (i3 + 1)) else none))) else none) else (if 1 ≤ dp then ((kf_37 n (dp - 1) e 0 I0_14 L0_14 0).bind (fun ⟨I1_31, L1_31⟩ => (if -2147483648 ≤ i3 + 1 ∧ i3 + 1 ≤ 2147483647 then (kf_62 n dp e 5 I1_31 L1_31 i1 0 (i3 + 1)) else none))) else none))))) else none))) P_) : Ev (fun n => kf_62 n dp e 5 I L i1 i2 i3) P_ := Ev_step (fun n => ke_62_5 n dp e I L i1 i2 i3) h
set_option maxRecDepth 100000 in
theorem ev_62_4 {dp : Nat} {e : EN} {I : JI} {L : JI} {i1 : Int} {i2 : Int} {i3 : Int} {P_ : (Int × JI × JI) → Prop} (h : Ev (fun n => (kf_62 n dp e 5 I L i1 0 0)) P_) : Ev (fun n => kf_62 n dp e 4 I L i1 i2 i3) P_ := Ev_step (fun n => ke_62_4 n dp e I L i1 i2 i3) h
set_option maxRecDepth 100000 in
theorem ev_62_3 {dp : Nat} {e : EN} {I : JI} {L : JI} {i1 : Int} {i2 : Int} {i3 : Int} {P_ : (Int × JI × JI) → Prop} (h : Ev (fun n => (if 400 ≤ i2 then (some ((1 : Int), I, L)) else (if 1 ≤ dp then ((kf_41 n (dp - 1) e 0 I L 0 2).bind (fun ⟨x0_22, I0_22, L0_22⟩ => (if x0_22 = 0 then (some ((1 : Int), I0_22, L0_22)) else ((e.2.2 104 1).bind (fun b_29 => (if (b_29 < e.1) ∧ ((e.2.1 b_29).1 = 10) then (if 1 ≤ dp then ((kf_61 n (dp - 1) e 0 I0_22 L0_22 11 0 b_29).bind (fun ⟨x1_35, I1_35, L1_35⟩ => (if 1 ≤ dp then ((kf_37 n (dp - 1) e 0 I1_35 L1_35 0).bind (fun ⟨I2_40, L2_40⟩ => (if 1 ≤ dp then ((kf_62 n (dp - 1) e 4 I2_40 L2_40 i1 0 0).bind (fun ⟨x3_45, I3_45, L3_45⟩ => (if x3_45 = 0 then (some ((0 : Int), I3_45, L3_45)) else ((e.2.2 104 1).bind (fun b_54 => (if (b_54 < e.1) ∧ ((e.2.1 b_54).1 = 10) then ((e.2.2 b_54 9).bind (fun b_57 => ((e.2.2 104 1).bind (fun b_62 => (if (b_62 < e.1) ∧ ((e.2.1 b_62).1 = 10) then (if ((b_57 < e.1) ∧ (((e.2.1 b_57).1 = 13) ∧ ((e.2.1 b_57).2 < (2 ^ 31)))) ∧ (0 ≤ x1_35 ∧ x1_35 < (((e.2.1 b_57).2 : Nat) : Int)) then (stI (w2 I3_45 b_57 x1_35 (I3_45 b_62 12)) (fun I_68 => (if -2147483648 ≤ i2 + 1 ∧ i2 + 1 ≤ 2147483647 then (kf_62 n dp e 3 I_68 L3_45 i1 (i2 + 1) 0) else none))) else none) else none))))) else none)))))) else none))) else none))) else none) else none)))))) else none))) P_) : Ev (fun n => kf_62 n dp e 3 I L i1 i2 i3) P_ := Ev_step (fun n => ke_62_3 n dp e I L i1 i2 i3) h
set_option maxRecDepth 100000 in
theorem ev_62_2 {dp : Nat} {e : EN} {I : JI} {L : JI} {i1 : Int} {i2 : Int} {i3 : Int} {P_ : (Int × JI × JI) → Prop} (h : Ev (fun n => (if 1 ≤ dp then ((kf_62 n (dp - 1) e 4 I L i1 0 0).bind (fun ⟨x0_2, I0_2, L0_2⟩ => (if x0_2 = 0 then (some ((0 : Int), I0_2, L0_2)) else (kf_62 n dp e 3 I0_2 L0_2 i1 0 0)))) else none)) P_) : Ev (fun n => kf_62 n dp e 2 I L i1 i2 i3) P_ := Ev_step (fun n => ke_62_2 n dp e I L i1 i2 i3) h
set_option maxRecDepth 100000 in
theorem ev_62_1 {dp : Nat} {e : EN} {I : JI} {L : JI} {i1 : Int} {i2 : Int} {i3 : Int} {P_ : (Int × JI × JI) → Prop} (h : Ev (fun n => (if 400 ≤ i2 then (some ((1 : Int), I, L)) else (if 1 ≤ dp then ((kf_41 n (dp - 1) e 0 I L 0 12).bind (fun ⟨x0_22, I0_22, L0_22⟩ => (if x0_22 = 0 then (some ((1 : Int), I0_22, L0_22)) else ((e.2.2 104 1).bind (fun b_29 => (if (b_29 < e.1) ∧ ((e.2.1 b_29).1 = 10) then (if 1 ≤ dp then ((kf_61 n (dp - 1) e 0 I0_22 L0_22 10 0 b_29).bind (fun ⟨x1_35, I1_35, L1_35⟩ => (if 1 ≤ dp then ((kf_37 n (dp - 1) e 0 I1_35 L1_35 0).bind (fun ⟨I2_40, L2_40⟩ => (if 1 ≤ dp then ((kf_62 n (dp - 1) e 2 I2_40 L2_40 i1 0 0).bind (fun ⟨x3_45, I3_45, L3_45⟩ => (if x3_45 = 0 then (some ((0 : Int), I3_45, L3_45)) else ((e.2.2 104 1).bind (fun b_54 => (if (b_54 < e.1) ∧ ((e.2.1 b_54).1 = 10) then ((e.2.2 b_54 9).bind (fun b_57 => ((e.2.2 104 1).bind (fun b_62 => (if (b_62 < e.1) ∧ ((e.2.1 b_62).1 = 10) then (if ((b_57 < e.1) ∧ (((e.2.1 b_57).1 = 13) ∧ ((e.2.1 b_57).2 < (2 ^ 31)))) ∧ (0 ≤ x1_35 ∧ x1_35 < (((e.2.1 b_57).2 : Nat) : Int)) then (stI (w2 I3_45 b_57 x1_35 (I3_45 b_62 12)) (fun I_68 => (if -2147483648 ≤ i2 + 1 ∧ i2 + 1 ≤ 2147483647 then (kf_62 n dp e 1 I_68 L3_45 i1 (i2 + 1) 0) else none))) else none) else none))))) else none)))))) else none))) else none))) else none) else none)))))) else none))) P_) : Ev (fun n => kf_62 n dp e 1 I L i1 i2 i3) P_ := Ev_step (fun n => ke_62_1 n dp e I L i1 i2 i3) h
set_option maxRecDepth 100000 in
theorem ev_62_0 {dp : Nat} {e : EN} {I : JI} {L : JI} {i1 : Int} {i2 : Int} {i3 : Int} {P_ : (Int × JI × JI) → Prop} (h : Ev (fun n => (if 1 ≤ dp then ((kf_62 n (dp - 1) e 2 I L i1 0 0).bind (fun ⟨x0_2, I0_2, L0_2⟩ => (if x0_2 = 0 then (some ((0 : Int), I0_2, L0_2)) else (kf_62 n dp e 1 I0_2 L0_2 i1 0 0)))) else none)) P_) : Ev (fun n => kf_62 n dp e 0 I L i1 i2 i3) P_ := Ev_step (fun n => ke_62_0 n dp e I L i1 i2 i3) h
end
/-! PARSER 12: tests -/
def OKn (dm : Nat) (e : EN) (tr : Nat) (tst b i2 : Int) (q : List (Int × Int)) (J K L J' : JI) : Prop := ∃ (r : List (Int × Int)) (K' L' : JI) (d : Den) (h : Nat), Go dm e tst 0 K L 2 K' L' ∧ PR tr b (r ++ q) J' K' L' ∧ (∀ x ∈ r, 3 ≤ bnd x.1) ∧ FrC tr J J' ∧ FrM K L K' L' ∧ Td d ∧ J 104 4 < J' 104 4 ∧ (h : Int) ≤ J' 104 7 - J 104 7 ∧ J' tr 12 - J tr 12 ≤ J' 104 4 - J 104 4 + i2 ∧ Seg (cC tr J') (J tr 12) (J' tr 12) (if i2 = 0 then d else dN d) h ∧ Seg (cM (em r (cs K'))) (K 105 16) (em r (cs K')).2.2 d h ∧ Sml (K 105 16) (cs K) (em r (cs K'))
def exB (J : JI) : Prop := exF J ∧ ¬ Wd J 2
def exQ (J : JI) : Prop := exB J ∧ ¬ Wd J 12
theorem Wd_c {J J' : JI} {s : Nat} (a : J' 104 3 = J 104 3) (b : J' 104 4 = J 104 4) (b5 : J' 104 5 = J 104 5) (c : ∀ i, J' 89 i = J 89 i) : Wd J' s ↔ Wd J s := by
  unfold Wd
  simp only [a, b, b5, c]
theorem exF_w {J J' : JI} (a : J' 104 3 = J 104 3) (b : J' 104 4 = J 104 4) (b5 : J' 104 5 = J 104 5) (c : ∀ i, J' 89 i = J 89 i) (h : exF J) : exF J' := trivial
theorem exB_w {J J' : JI} (a : J' 104 3 = J 104 3) (b : J' 104 4 = J 104 4) (b5 : J' 104 5 = J 104 5) (c : ∀ i, J' 89 i = J 89 i) (h : exB J) : exB J' := ⟨trivial, fun z => h.2 ((Wd_c a b b5 c).mp z)⟩
section TEST
variable {dm : Nat} {e : EN} {tr : Nat} {tst : Int} {M : JI}
def RdQ (dm : Nat) (e : EN) (tr : Nat) (tst : Int) (M : JI) (lab : Nat) (dl l : Int) (ex : JI → Prop) (m : Nat) : Prop := ∀ (dc : Nat) (b : Int) (q : List (Int × Int)) (J K L : JI) (x y : Int), (0 ≤ b ∧ b ≤ 8) → 4 * (8 - b) + dl ≤ (dc : Int) → PR tr b q J K L → J 104 2 - J 104 4 ≤ m → ¬ inn q = 31 → (∀ x p, q = x :: p → bnd x.1 < l) → Ev (fun n => kf_62 n dc e lab J M b x y) (Pst dm e tr tst b l 0 2 Td ex q M J K L)
theorem rdI (htr : tr = 9 ∨ tr = 93) (hT : TrO e tr) (h104 : e.2.2 104 1 = some tr) (hdm : 8 ≤ dm) (m : Nat) (ihS : ∀ m', m' < m → RdQ dm e tr tst M 0 12 1 exQ m') (dc : Nat) (b : Int) (q : List (Int × Int)) (J K L : JI) (x y : Int) (hb : 0 ≤ b ∧ b ≤ 8) (hdc : 4 * (8 - b) + 9 ≤ (dc : Int)) (hP : PR tr b q J K L) (hm : J 104 2 - J 104 4 ≤ m) (c : J 104 3 = 3 ∧ J 89 (J 104 4) = 40) : Ev (fun n => kf_62 n dc e 7 J M b x y) (Pst dm e tr tst b 4 0 2 Td exF q M J K L) := by
  have hKP := PR_KP hP hb
  have hP' := hP
  obtain ⟨h1, h2, h3, h4, h5, h6, h7, h8⟩ := hP
  have h1' := h1
  obtain ⟨t1, t2, t3, t4, t5, t6, t7, t8, t9, t10⟩ := h1
  have hl := PR_lt hP' (by omega)
  refine ev_62_7 ?_
  by_cases hb8 : b < 8
  · refine Ev_t hb8 (Ev_t (by omega) (Ev_bind (K37 (by omega) (by omega)) ?_))
    rintro ⟨J1, M1⟩ ⟨hM1, gn⟩
    dsimp only at hM1 gn ⊢
    subst hM1
    have go := GN_o gn
    have gf := GN_f gn
    have g2 := go 104 2 (by omega)
    have g7 := go 104 7 (by omega)
    have g12 := go tr 12 (by omega)
    obtain ⟨s, ⟨s1, K1, s2, s3⟩, s4⟩ := go_of0 (dm := dm) (e := e) (tst := tst) (by omega) h2 (K224a (by omega) hKP hl.1 ((TK_s h1' 40).mp c) hb8)
    have ef := ef_opn (o := 30) hKP s2
    rw [← s3] at ef
    rw [s1] at s4
    have P1 : PR tr (b + 1) ((30, 0) :: q) J1 s.2.1 s.2.2 := by
      refine PR_of hP' ⟨rfl, rfl, fun _ => rfl⟩ gn ef (by omega) ?_ ?_ (by omega)
      · intro x hx
        rcases List.mem_cons.mp hx with z | z
        · subst z; dsimp only; exact ⟨by decide, by decide, by decide, by decide, fun z => by rcases z with z | z <;> exact absurd z (by decide)⟩
        · exact h4.2.2 x z
      · simp only [List.length_cons]; show 0 ≤ K 105 16 ∧ K 105 16 + _ ≤ _; omega
    refine Ev_t (by omega) (Ev_t (by omega) (Ev_bind (ihS (m - 1) (by omega) (dc - 1) (b + 1) ((30, 0) :: q) J1 s.2.1 s.2.2 0 0 (by omega) (by omega) P1 (by omega) (show ¬ (30 : Int) = 31 by decide) (fun x p hp => by cases hp; decide)) ?_))
    rintro ⟨y, J2, M2⟩ ⟨hM2, hy⟩
    dsimp only at hM2 hy ⊢
    subst hM2
    rcases hy with ⟨rfl, ok⟩ | ⟨rfl, fl⟩
    · refine Ev_f (by decide) (Ev_t (by omega) ?_)
      obtain ⟨r2, K2, L2, d2, hh2, g3, P2, hr2, fC2, fM2, ty2, lt2, hl2, inc2, sC2, sM2, sml2, ex2⟩ := ok
      have P2' := P2
      obtain ⟨u1, u2, u3, u4, u5, u6, u7, u8⟩ := P2
      have u1' := u1
      obtain ⟨v1, v2, v3, v4, v5, v6, v7, v8, v9, v10⟩ := u1
      have hKP2 := PR_KP P2' (by omega)
      have na : ¬ (K2 105 10 = 1 ∧ L2 105 11 = 1476) := fun z => ex2.1.2 ((TK_w u1' (s := 2) (by decide)).mpr z)
      have no : ¬ (K2 105 10 = 1 ∧ L2 105 11 = 498) := fun z => ex2.2 ((TK_w u1' (s := 12) (by decide)).mpr z)
      have fcJ := GN_fr htr gn
      refine Ev59 ⟨by omega, fun c => by have := v7 (by omega); omega⟩ (fun c2 => ?_) (fun c2 => ?_) <;> dsimp only
      · refine Ev_f (by decide) (Ev_t (by omega) (Ev_bind (K37 (by omega) (by omega)) ?_))
        rintro ⟨J3, M3⟩ ⟨hM3, gn3⟩
        dsimp only at hM3 gn3 ⊢
        subst hM3
        have go3 := GN_o gn3
        have gf3 := GN_f gn3
        have w7 := go3 104 7 (by omega)
        have w12 := go3 tr 12 (by omega)
        have hlt2 := v7 (by omega)
        obtain ⟨z, ⟨z1, K3, K4, z2, z3, z4⟩, z5⟩ := go_of2 (e := e) (tst := tst) (dm := dm) (by omega) u2 (K237rt (y := 0) (by omega) hKP2 ((TK_s u1' 41).mp c2) hr2 (by omega))
        have ef3 := ef_cls (L1 := z.2.2) hKP2 z2 z3
        rw [← z4] at ef3
        rw [z1] at z5
        have en := em_n r2 (cs K2)
        have e16 : (cs K2).2.2 = K2 105 16 := rfl
        have la : (r2 ++ (30, 0) :: q).length = r2.length + (q.length + 1) := List.length_append
        have bb : b + 1 - 1 = b := by omega
        rw [bb] at ef3
        have cs1 : cs s.2.1 = cs K := ef.2.2.1
        have s16 : s.2.1 105 16 = K 105 16 := by
          have : (cs s.2.1).2.2 = (cs K).2.2 := by rw [cs1]
          exact this
        have P3 : PR tr b q J3 z.2.1 z.2.2 := by
          refine PR_of P2' ⟨rfl, rfl, fun _ => rfl⟩ gn3 ef3 (by omega) ?_ (by omega) (by omega)
          intro x hx
          have := h4.2.2 x hx
          have q1 : K 105 16 ≤ (em r2 (cs K2)).2.2 := by have := sM2.1; omega
          omega
        refine Ev_ret ⟨rfl, Or.inl ⟨rfl, ?_⟩⟩
        dsimp only
        refine ⟨[], z.2.1, z.2.2, d2, hh2, Go_t s4 (Go_t g3 z5), P3, fun x hx => (nomatch hx), FrC_t fcJ (FrC_t fC2 (GN_fr htr gn3)), FrM_t ef.2.2.2.2.2.1 (FrM_t fM2 ef3.2.2.2.2.2.1), ty2, by omega, by omega, by omega, ?_, ?_, ?_, trivial⟩
        · have := cC_fr (GN_fr htr gn3) sC2
          rw [g12] at this
          rw [w12]
          exact this
        · show Seg (cM (cs z.2.1)) (K 105 16) (cs z.2.1).2.2 d2 hh2
          rw [ef3.2.2.1, ← s16]
          exact sM2
        · show Sml (K 105 16) (cs K) (cs z.2.1)
          rw [ef3.2.2.1, ← s16, ← cs1]
          exact sml2
      · refine Ev_t rfl (Ev_ret ⟨rfl, Or.inr ⟨rfl, ?_⟩⟩)
        obtain ⟨z, z1, z5⟩ := go_of2 (e := e) (tst := tst) (dm := dm) (by omega) u2 (K237rf (y := 0) (by omega) hKP2 na no (fun z => c2 ((TK_s u1' 41).mpr z)) hr2)
        subst z1
        exact fl_bad P2' (Go_t s4 (Go_t g3 z5)) (FrC_t fcJ fC2) (FrM_t ef.2.2.2.2.2.1 fM2)
    · exact Ev_t rfl (Ev_ret ⟨rfl, Or.inr ⟨rfl, fl_t s4 (GN_fr htr gn) ef.2.2.2.2.2.1 fl⟩⟩)
  · refine Ev_f hb8 (Ev_ret ⟨rfl, Or.inr ⟨rfl, ?_⟩⟩)
    obtain ⟨s, s1, s4⟩ := go_of0 (dm := dm) (e := e) (tst := tst) (by omega) h2 (K224b (by omega) hKP ((TK_s h1' 40).mp c) (by omega))
    subst s1
    exact fl_bad hP' s4 (FrC_r _ _) (FrM_r _ _)
/-- behind the nots -/
theorem rd6 (htr : tr = 9 ∨ tr = 93) (hT : TrO e tr) (h104 : e.2.2 104 1 = some tr) (hdm : 8 ≤ dm) (htst : ¬ tst = 0) (m : Nat) (ihS : ∀ m', m' < m → RdQ dm e tr tst M 0 12 1 exQ m') (dc : Nat) (b : Int) (q : List (Int × Int)) (J K L : JI) (i2 i3 : Int) (hi2 : i2 = 0 ∨ i2 = 1) (hb : 0 ≤ b ∧ b ≤ 8) (hdc : 4 * (8 - b) + 10 ≤ (dc : Int)) (hP : PR tr b q J K L) (hs : J tr 12 + i2 ≤ J 104 4) (hm : J 104 2 - J 104 4 ≤ m) (hn : ¬ Wd J 11) (hi : ¬ inn q = 31) (hq : ∀ x p, q = x :: p → bnd x.1 < 4) : Ev (fun n => kf_62 n dc e 6 J M b i2 i3) (fun r => r.2.2 = M ∧ ((r.1 = 1 ∧ OKn dm e tr tst b i2 q J K L r.2.1) ∨ (r.1 = 0 ∧ Flp dm e tr tst 0 J K L r.2.1))) := by
  have h1 := hP.1
  have t4 := h1.2.2.2.1
  have t7 := h1.2.2.2.2.2.2.1
  have t1 := h1.1
  have sub : ∀ (f : Nat → Option (Int × JI × JI)), Ev f (Pst dm e tr tst b 4 0 2 Td exF q M J K L) → Ev f (fun r => r.2.2 = M ∧ ((r.1 = 1 ∧ OKp dm e tr tst b 4 0 2 Td exF q J K L r.2.1) ∨ (r.1 = 0 ∧ Flp dm e tr tst 0 J K L r.2.1))) := fun f h => h
  have fin : ∀ J1, OKp dm e tr tst b 4 0 2 Td exF q J K L J1 → i2 = 0 → OKn dm e tr tst b i2 q J K L J1 := by
    intro J1 ok hz
    obtain ⟨r2, K2, L2, d2, hh2, g3, P2, hr2, fC2, fM2, ty2, lt2, hl2, inc2, sC2, sM2, sml2, ex2⟩ := ok
    refine ⟨r2, K2, L2, d2, hh2, g3, P2, fun x hx => by have := hr2 x hx; omega, fC2, fM2, ty2, lt2, hl2, by omega, ?_, sM2, sml2⟩
    rw [if_pos hz]
    exact sC2
  have fin1 : ∀ J1, OKp dm e tr tst b 4 0 2 Td exF q J K L J1 → i2 = 1 → (0 ≤ J1 tr 12 ∧ J1 tr 12 < 400) ∧ OKn dm e tr tst b i2 q J K L (stC tr J1 9 0) := by
    intro J1 ok hz
    obtain ⟨r2, K2, L2, d2, hh2, g3, P2, hr2, fC2, fM2, ty2, lt2, hl2, inc2, sC2, sM2, sml2, ex2⟩ := ok
    have e4 := stC_4 htr J1 9 0
    have e12 := stC_12 tr J1 9 0
    have p1 := P2.1.1
    have p4 := P2.1.2.2.2.1
    have p7 := P2.2.2.2.2.2.2.1
    refine ⟨by omega, r2, K2, L2, d2, hh2, g3, PR_stC htr P2 (by omega), fun x hx => by have := hr2 x hx; omega, FrC_t fC2 (stC_fr tr J1 9 0), fM2, ty2, by rw [e4]; omega, by rw [e4]; omega, by rw [e4, e12]; omega, ?_, sM2, sml2⟩
    rw [if_neg (by omega), e12]
    exact (seg_n (cC_fr (stC_fr tr J1 9 0) sC2) ty2 (by rw [stC_at])).1
  refine ev_62_6 ?_
  refine Ev_t (by omega) (Ev59 ⟨by omega, fun c => by have := t7 (by omega); omega⟩ (fun c => ?_) (fun c => ?_)) <;> dsimp only
  · refine Ev_f (by decide) (Ev_t (by omega) (Ev_bind (sub _ (rdI htr hT h104 hdm m ihS (dc - 1) b q J K L 0 0 hb (by omega) hP hm c)) ?_))
    rintro ⟨y, J1, M1⟩ ⟨hM1, hy⟩
    dsimp only at hM1 hy ⊢
    subst hM1
    rcases hy with ⟨rfl, ok⟩ | ⟨rfl, fl⟩
    · refine Ev_f (by decide) (Ev_c (fun z => Ev_t (Or.inr rfl) (Ev_ret ⟨rfl, Or.inl ⟨rfl, fin J1 ok z⟩⟩)) (fun z => ?_))
      have f1 := fin1 J1 ok (by omega)
      exact Ev_R h104 (Ev_t hT.1 (Ev_t (by omega) (Ev_call (K61 hT (by omega) f1.1) (Ev_t (Or.inr rfl) (Ev_ret ⟨rfl, Or.inl ⟨rfl, f1.2⟩⟩)))))
    · exact Ev_t rfl (Ev_t (Or.inl rfl) (Ev_ret ⟨rfl, Or.inr ⟨rfl, fl⟩⟩))
  · refine Ev_t rfl (Ev_t (by omega) (Ev_bind (sub _ (rdC htr hT h104 hdm htst (dc - 1) b q J K L 0 hb (by omega) hP (Or.inr ⟨rfl, fun z => hn ((TK_w h1 (s := 11) (by decide)).mpr z), fun z => c ((TK_s h1 40).mpr z)⟩) hi hq)) ?_))
    rintro ⟨y, J1, M1⟩ ⟨hM1, hy⟩
    dsimp only at hM1 hy ⊢
    subst hM1
    rcases hy with ⟨rfl, ok⟩ | ⟨rfl, fl⟩
    · refine Ev_f (by decide) (Ev_c (fun z => Ev_t (Or.inr rfl) (Ev_ret ⟨rfl, Or.inl ⟨rfl, fin J1 ok z⟩⟩)) (fun z => ?_))
      have f1 := fin1 J1 ok (by omega)
      exact Ev_R h104 (Ev_t hT.1 (Ev_t (by omega) (Ev_call (K61 hT (by omega) f1.1) (Ev_t (Or.inr rfl) (Ev_ret ⟨rfl, Or.inl ⟨rfl, f1.2⟩⟩)))))
    · exact Ev_t rfl (Ev_t (Or.inl rfl) (Ev_ret ⟨rfl, Or.inr ⟨rfl, fl⟩⟩))
theorem rd5 (htr : tr = 9 ∨ tr = 93) (hT : TrO e tr) (h104 : e.2.2 104 1 = some tr) (hdm : 8 ≤ dm) (htst : ¬ tst = 0) (mm : Nat) (ihS : ∀ m', m' < mm → RdQ dm e tr tst M 0 12 1 exQ m') (dc : Nat) (b : Int) (hb : 0 ≤ b ∧ b ≤ 8) (hdc : 4 * (8 - b) + 10 ≤ (dc : Int)) (m : Nat) : m ≤ mm → ∀ (q : List (Int × Int)) (J K L : JI) (i2 i3 : Int), (i2 = 0 ∨ i2 = 1) → PR tr b q J K L → J tr 12 + i2 ≤ J 104 4 → J 104 2 - J 104 4 ≤ m → 0 ≤ i3 → 3 * i3 ≤ J 104 4 → ¬ inn q = 31 → (∀ x p, q = x :: p → bnd x.1 < 4) → Ev (fun n => kf_62 n dc e 5 J M b i2 i3) (fun r => r.2.2 = M ∧ ((r.1 = 1 ∧ OKn dm e tr tst b i2 q J K L r.2.1) ∨ (r.1 = 0 ∧ Flp dm e tr tst 0 J K L r.2.1))) := by
  refine Nat.strongRecOn m (fun m ih hmm q J K L i2 i3 hi2 hP hs hm hi3 hi3' hi hq => ?_)
  have hKP := PR_KP hP hb
  have hP' := hP
  obtain ⟨h1, h2, h3, h4, h5, h6, h7, h8⟩ := hP
  have h1' := h1
  obtain ⟨t1, t2, t3, t4, t5, t6, t7, t8, t9, t10⟩ := h1
  refine ev_62_5 ?_
  refine Ev_f (by omega) (Ev_t (by omega) (Ev41 (by omega) (by decide) (by omega) (fun w => ?_) (fun w => ?_))) <;> dsimp only
  · have w2' : J 104 5 - J 104 4 = 3 := w.2.1
    have hl := PR_lt hP' (by have := w.1; omega)
    obtain ⟨s, ⟨s1, s3⟩, s4⟩ := go_of0 (dm := dm) (e := e) (tst := tst) (by omega) h2 (K224not (by omega) hKP hl.1 ((TK_w h1' (s := 11) (by decide)).mp w))
    have ef := ef_not hKP s3
    rw [s1] at s4
    refine Ev_f (by decide) ?_
    have step : ∀ j2 : Int, j2 = 1 - i2 → ∀ J1, GN J J1 → Ev (fun n => kf_62 n dc e 5 J1 M b j2 (i3 + 1)) (fun r => r.2.2 = M ∧ ((r.1 = 1 ∧ OKn dm e tr tst b i2 q J K L r.2.1) ∨ (r.1 = 0 ∧ Flp dm e tr tst 0 J K L r.2.1))) := by
      intro j2 hj2 J1 gn
      have go := GN_o gn
      have gf := GN_f gn
      have g2 := go 104 2 (by omega)
      have g7 := go 104 7 (by omega)
      have g12 := go tr 12 (by omega)
      have P1 : PR tr b ((27, 0) :: q) J1 s.2.1 s.2.2 := by
        refine PR_of hP' ⟨rfl, rfl, fun _ => rfl⟩ gn ef (by omega) ?_ ?_ (by omega)
        · intro x hx
          rcases List.mem_cons.mp hx with z | z
          · subst z; dsimp only; exact ⟨by decide, by decide, by decide, by decide, fun z => by rcases z with z | z <;> exact absurd z (by decide)⟩
          · exact h4.2.2 x z
        · simp only [List.length_cons]; show 0 ≤ K 105 16 ∧ K 105 16 + _ ≤ _; omega
      refine Ev_mono (ih (m - 1) (by omega) (by omega) ((27, 0) :: q) J1 s.2.1 s.2.2 j2 (i3 + 1) (by omega) P1 (by omega) (by omega) (by omega) (by omega) hi (fun x p hp => by cases hp; decide)) ?_
      rintro ⟨y, J2, M2⟩ ⟨hM2, hy⟩
      refine ⟨hM2, ?_⟩
      dsimp only at hy ⊢
      rcases hy with ⟨rfl, ok⟩ | ⟨rfl, fl⟩
      · refine Or.inl ⟨rfl, ?_⟩
        obtain ⟨r2, K2, L2, d2, hh2, g3, P2, hr2, fC2, fM2, ty2, lt2, hl2, inc2, sC2, sM2, sml2⟩ := ok
        have ap : (r2 ++ [(27, 0)]) ++ q = r2 ++ (27, 0) :: q := by rw [List.append_assoc]; rfl
        have eme : em (r2 ++ [(27, 0)]) (cs K2) = em [(27, 0)] (em r2 (cs K2)) := em_app _ _ _
        have cs1 : cs s.2.1 = cs K := ef.2.2.1
        have s16 : s.2.1 105 16 = K 105 16 := by
          have : (cs s.2.1).2.2 = (cs K).2.2 := by rw [cs1]
          exact this
        rw [s16, cs1] at sml2
        rw [s16] at sM2
        rw [g12] at sC2 inc2
        have nn := em_not sM2 ty2
        refine ⟨r2 ++ [(27, 0)], K2, L2, dN d2, hh2, Go_t s4 g3, by rw [ap]; exact P2, ?_, FrC_t (GN_fr htr gn) fC2, FrM_t ef.2.2.2.2.2.1 fM2, nn.2, by omega, by omega, by omega, ?_, by rw [eme]; exact nn.1, ?_⟩
        · intro x hx
          rcases List.mem_append.mp hx with z | z
          · exact hr2 x z
          · have z : x = (27, 0) := by simpa using z
            subst z; decide
        · rcases hi2 with z | z
          · subst z
            rw [if_pos rfl]
            rw [if_neg (by omega)] at sC2
            exact sC2
          · subst z
            rw [if_neg (by decide), dN_dN]
            rw [if_pos (by omega)] at sC2
            exact sC2
        · rw [eme]
          have l2 := sM2.1
          refine Sml_t (b := (em r2 (cs K2)).2.2) (by omega) sml2 ?_
          exact Sml_up (s := em r2 (cs K2)) (Int.le_refl _)
      · exact Or.inr ⟨rfl, fl_t s4 (GN_fr htr gn) ef.2.2.2.2.2.1 fl⟩
    refine Ev_c (fun z => ?_) (fun z => ?_)
    · refine Ev_t (by omega) (Ev_bind (K37 (by omega) (by omega)) ?_)
      rintro ⟨J1, M1⟩ ⟨hM1, gn⟩
      dsimp only at hM1 gn ⊢
      subst hM1
      exact Ev_t (by omega) (step 1 (by omega) J1 gn)
    · refine Ev_t (by omega) (Ev_bind (K37 (by omega) (by omega)) ?_)
      rintro ⟨J1, M1⟩ ⟨hM1, gn⟩
      dsimp only at hM1 gn ⊢
      subst hM1
      exact Ev_t (by omega) (step 0 (by omega) J1 gn)
  · exact Ev_t rfl (rd6 htr hT h104 hdm htst m (fun m' h => ihS m' (by omega)) dc b q J K L i2 i3 hi2 hb hdc hP' hs hm w hi hq)
theorem rdP (htr : tr = 9 ∨ tr = 93) (hT : TrO e tr) (h104 : e.2.2 104 1 = some tr) (hdm : 8 ≤ dm) (htst : ¬ tst = 0) (m : Nat) (ihS : ∀ m', m' < m → RdQ dm e tr tst M 0 12 1 exQ m') : RdQ dm e tr tst M 4 10 3 exF m := by
  intro dc b q J K L x y hb hdc hP hm hi hq
  have t4 := hP.1.2.2.2.1
  have h7 := hP.2.2.2.2.2.2.1
  refine ev_62_4 ?_
  refine Ev_mono (rd5 htr hT h104 hdm htst m ihS dc b hb hdc m (Nat.le_refl _) q J K L 0 0 (Or.inl rfl) hP (by omega) hm (by omega) (by omega) hi (fun x p hp => by have := hq x p hp; omega)) ?_
  rintro ⟨y, J2, M2⟩ ⟨hM2, hy⟩
  refine ⟨hM2, ?_⟩
  dsimp only at hy ⊢
  rcases hy with ⟨rfl, ok⟩ | ⟨rfl, fl⟩
  · refine Or.inl ⟨rfl, ?_⟩
    obtain ⟨r2, K2, L2, d2, hh2, g3, P2, hr2, fC2, fM2, ty2, lt2, hl2, inc2, sC2, sM2, sml2⟩ := ok
    rw [if_pos rfl] at sC2
    exact ⟨r2, K2, L2, d2, hh2, g3, P2, hr2, fC2, fM2, ty2, lt2, hl2, by omega, sC2, sM2, sml2, trivial⟩
  · exact Or.inr ⟨rfl, fl⟩
theorem lpB {b : Int} {q : List (Int × Int)} {J0 K0 L0 : JI} {mm dc : Nat} (htr : tr = 9 ∨ tr = 93) (hT : TrO e tr) (h104 : e.2.2 104 1 = some tr) (hdm : 8 ≤ dm) (hb : 0 ≤ b ∧ b ≤ 8) (hdc : 4 * (8 - b) + 11 ≤ (dc : Int)) (hsub : ∀ m', m' < mm → RdQ dm e tr tst M 4 10 3 exF m') (hin : ¬ inn q = 31) (hq : ∀ x p, q = x :: p → bnd x.1 < 2) (h0 : 0 ≤ J0 104 4) (j12 : 0 ≤ J0 tr 12) (k16 : 0 ≤ K0 105 16) (m : Nat) : m ≤ mm → ∀ (J : JI) (i : Int), J 104 2 - J 104 4 ≤ m → 0 ≤ i → i + J0 104 4 + 1 ≤ J 104 4 → OKp dm e tr tst b 2 0 2 Td exF q J0 K0 L0 J → Ev (fun n => kf_62 n dc e 3 J M b i 0) (Pst dm e tr tst b 2 0 2 Td exB q M J0 K0 L0) := by
  refine Nat.strongRecOn m (fun m ih hmm J i hm hi hi2 ok => ?_)
  have ih := fun m' h => ih m' h (by omega)
  have ok' := ok
  obtain ⟨r, K, L, d, hh, g, P, hr, fC, fM, ty, lt, hl0, inc, sC, sM, sml, ex0⟩ := ok
  have P' := P
  have hKP := PR_KP P' hb
  obtain ⟨u1, u2, u3, u4, u5, u6, u7, u8⟩ := P
  have u1' := u1
  obtain ⟨v1, v2, v3, v4, v5, v6, v7, v8, v9, v10⟩ := u1
  refine ev_62_3 ?_
  refine Ev_f (by omega) (Ev_t (by omega) (Ev41 (by omega) (by decide) (by omega) (fun w => ?_) (fun w => ?_))) <;> dsimp only
  · have wl : J 104 5 - J 104 4 = 3 := w.2.1
    have wk := w.1
    refine Ev_f (by decide) (Ev_R h104 (Ev_t hT.1 (Ev_t (by omega) (Ev_call (K61 hT (by omega) (by omega)) (Ev_t (by omega) ?_)))))
    have e4 := stC_4 htr J 11 0
    have e89 := stC_89 htr J 11 0
    have e12 := stC_12 tr J 11 0
    have hl := PR_lt P' (by omega)
    obtain ⟨s, ⟨s1, K1, s2, s3⟩, s4⟩ := go_of2 (e := e) (tst := tst) (dm := dm) (by omega) P'.2.1 (K237ao (o := 28) (l := 2) (c := 1476) (y := 0) (by omega) hKP (by omega) ((TK_w u1' (s := 2) (by decide)).mp w) (by omega) hr hq)
    have ef := ef_ao (o := 28) hKP s2 s3
    rw [s1] at s4
    refine Ev_bind (K37 (J := stC tr J 11 0) (by omega) (by rw [e4, e4]; omega)) ?_
    rintro ⟨J2, M2⟩ ⟨hM2, gn⟩
    dsimp only at hM2 gn ⊢
    subst hM2
    have go := GN_o gn
    have gf := GN_f gn
    rw [e4, e4] at gf
    have g2 : J2 104 2 = J 104 2 := (go 104 2 (by omega)).trans (e4 2)
    have g7 : J2 104 7 = J 104 7 := (go 104 7 (by omega)).trans (e4 7)
    have g12 : J2 tr 12 = J tr 12 + 1 := (go tr 12 (by omega)).trans e12
    have en := em_n r (cs K)
    have e16 : (cs K).2.2 = K 105 16 := rfl
    have la : (r ++ q).length = r.length + q.length := List.length_append
    have P1 : PR tr b ((28, (em r (cs K)).2.2) :: q) J2 s.2.1 s.2.2 := by
      refine PR_of P' ⟨e4 2, e4 5, e89⟩ gn ef (by omega) ?_ ?_ (by omega)
      · intro x hx
        dsimp only
        rcases List.mem_cons.mp hx with z | z
        · subst z; dsimp only; omega
        · have := u4.2.2 x (List.mem_append_right _ z)
          omega
      · simp only [List.length_cons]; omega
    refine Ev_t (by omega) (Ev_bind (hsub (m - 1) (by omega) (dc - 1) b ((28, (em r (cs K)).2.2) :: q) J2 s.2.1 s.2.2 0 0 hb (by omega) P1 (by omega) hin (fun x p hp => by cases hp; exact (show bnd 28 < 3 by decide))) ?_)
    rintro ⟨y, J3, M3⟩ ⟨hM3, hy⟩
    dsimp only at hM3 hy ⊢
    subst hM3
    have fJ2 : FrC tr J J2 := FrC_t (stC_fr tr J 11 0) (GN_fr htr gn)
    rcases hy with ⟨rfl, ok⟩ | ⟨rfl, fl⟩
    · obtain ⟨r2, K2, L2, d2, hh2, g3, P2, hr2, fC2, fM2, ty2, lt2, hl2, inc2, sC2, sM2, sml2, ex2⟩ := ok
      have P2' := P2
      obtain ⟨x1, x2, x3, x4, x5, x6, x7, x8⟩ := P2
      have x1' := x1
      obtain ⟨y1, y2, y3, y4, y5, y6, y7, y8, y9, y10⟩ := x1
      have t10 := hT.2.2.2.2.2.2.2.2.2.2
      refine Ev_f (by decide) (Ev_R h104 (Ev_t hT.1 (Ev_R t10.1 (Ev_R h104 (Ev_t hT.1 (Ev_t ⟨⟨t10.2.1, t10.2.2.1, by rw [t10.2.2.2]; decide⟩, by rw [t10.2.2.2]; omega⟩ (Ev_st (Ev_t (by omega) ?_))))))))
      have k4 : ∀ i, w2 J3 (tr + 10) (J tr 12) (J3 tr 12) 104 i = J3 104 i := fun i => w2_n (by omega)
      have k89 : ∀ i, w2 J3 (tr + 10) (J tr 12) (J3 tr 12) 89 i = J3 89 i := fun i => w2_n (by omega)
      have k12 : w2 J3 (tr + 10) (J tr 12) (J3 tr 12) tr 12 = J3 tr 12 := w2_n (by omega)
      have k9 : ∀ i, w2 J3 (tr + 10) (J tr 12) (J3 tr 12) (tr + 9) i = J3 (tr + 9) i := fun i => w2_n (by omega)
      have k10 : ∀ i, ¬ i = J tr 12 → w2 J3 (tr + 10) (J tr 12) (J3 tr 12) (tr + 10) i = J3 (tr + 10) i := fun i h => w2_n (by omega)
      have k10s : w2 J3 (tr + 10) (J tr 12) (J3 tr 12) (tr + 10) (J tr 12) = J3 tr 12 := by rw [w2_ap, if_pos ⟨rfl, rfl⟩]
      have h2N : J3 104 2 = J 104 2 := (fC2.1 104 2 (by omega) (by omega) (by omega) (by omega)).trans g2
      refine ih (m - 1) (by omega) (w2 J3 (tr + 10) (J tr 12) (J3 tr 12)) (i + 1) (by rw [k4, k4]; omega) (by omega) (by rw [k4]; omega) ?_
      have ap : (r2 ++ [(28, (em r (cs K)).2.2)]) ++ q = r2 ++ (28, (em r (cs K)).2.2) :: q := by rw [List.append_assoc]; rfl
      have eme : em (r2 ++ [(28, (em r (cs K)).2.2)]) (cs K2) = em [(28, (em r (cs K)).2.2)] (em r2 (cs K2)) := em_app _ _ _
      have cs1 := ef.2.2.1
      have s16 : s.2.1 105 16 = (em r (cs K)).2.2 + 1 := by
        have : (cs s.2.1).2.2 = (em r (cs K)).2.2 + 1 := by rw [cs1]
        exact this
      have l1 := sM.1
      have l2 := sM2.1
      rw [s16, cs1] at sml2
      rw [s16] at sM2 l2
      rw [g12] at sC2 inc2
      have fJ3 := FrC_t fJ2 fC2
      have hO : (em r2 (cs K2)).1 (em r (cs K)).2.2 = 28 := by
        rw [(sml2 _ (by omega)).1]
        exact up1_s _ _ _
      have smA : Sml (em r (cs K)).2.2 (em r (cs K)) (em r2 (cs K2)) := Sml_t (b := (em r (cs K)).2.2 + 1) (by omega) (Sml_up (s := em r (cs K)) (Int.le_refl _)) sml2
      have h1l := sC.2.1
      have cat : cC tr J3 (J tr 12) = (11, 0) := by
        rw [← stC_at tr J 11 0]
        have f1 := FrC_t (GN_fr htr gn) fC2
        unfold cC
        rw [(f1.2.1 (J tr 12) (by rw [e12]; omega)).1, (f1.2.1 (J tr 12) (by rw [e12]; omega)).2]
      have cat9 : J3 (tr + 9) (J tr 12) = 11 := congrArg Prod.fst cat
      have cl := seg_a (C := cC tr (w2 J3 (tr + 10) (J tr 12) (J3 tr 12))) (a := J0 tr 12) (b := J tr 12) (c := J3 tr 12) (h := hh + hh2) (seg_congr (fun i _ hi => by unfold cC; rw [k9, k10 i (by omega), (fJ3.2.1 i hi).1, (fJ3.2.1 i hi).2]) sC) ty (by unfold cC; rw [k9, k10s, cat9]) (seg_congr (fun i hi _ => by unfold cC; rw [k9, k10 i (by omega)]) sC2) ty2 (by omega)
      have cm := em_and (s := em r2 (cs K2)) (h := hh + hh2) (cM_sml smA sM) ty hO sM2 ty2 (by omega)
      refine ⟨r2 ++ [(28, (em r (cs K)).2.2)], K2, L2, dA d d2, hh + hh2, Go_t g (Go_t s4 g3), ?_, ?_, FrC_t fC ⟨fun a i z1 z2 z3 z4 => ?_, fun i hi => ⟨?_, ?_⟩, ?_⟩, FrM_t fM (FrM_t ef.2.2.2.2.2.1 fM2), cl.2, by rw [k4]; omega, by rw [k4]; omega, by rw [k4, k12]; omega, by rw [k12]; exact cl.1, by rw [eme]; exact cm.1, ?_, ?_⟩
      · rw [ap]
        refine ⟨TK_c x1' (fun i _ _ => k4 i) k89 (fun _ _ _ => rfl) (fun _ => rfl) rfl, x2, by rw [k4]; exact x3, x4, x5, by rw [k4]; exact x6, by rw [k12, k4]; exact x7, x8⟩
      · intro x hx
        rcases List.mem_append.mp hx with z | z
        · have := hr2 x z; omega
        · have z : x = (28, (em r (cs K)).2.2) := by simpa using z
          subst z; exact (show (2 : Int) ≤ bnd 28 by decide)
      · rw [w2_n (by omega)]; exact fJ3.1 a i z1 z2 z3 z4
      · rw [k9]; exact (fJ3.2.1 i hi).1
      · rw [k10 i (by omega)]; exact (fJ3.2.1 i hi).2
      · rw [k12]; exact fJ3.2.2
      · rw [eme]
        refine Sml_t (by omega) sml (Sml_t (b := (em r (cs K)).2.2) (by omega) smA ?_)
        intro j hj
        show (em r2 (cs K2)).1 j = _ ∧ up1 (em r2 (cs K2)).2.1 (em r (cs K)).2.2 _ j = _
        rw [up1_o (by omega)]
        exact ⟨rfl, rfl⟩
      · exact exF_w (k4 3) (k4 4) (k4 5) k89 ex2
    · exact Ev_t rfl (Ev_ret ⟨rfl, Or.inr ⟨rfl, fl_t (Go_t g s4) (FrC_t fC fJ2) (FrM_t fM ef.2.2.2.2.2.1) fl⟩⟩)
  · refine Ev_t rfl (Ev_ret ⟨rfl, Or.inl ⟨rfl, r, K, L, d, hh, g, P', hr, fC, fM, ty, lt, hl0, inc, sC, sM, sml, ⟨ex0, w⟩⟩⟩)
theorem rdB (htr : tr = 9 ∨ tr = 93) (hT : TrO e tr) (h104 : e.2.2 104 1 = some tr) (hdm : 8 ≤ dm) (m : Nat) (hsub : ∀ m', m' ≤ m → RdQ dm e tr tst M 4 10 3 exF m') : RdQ dm e tr tst M 2 11 2 exB m := by
  intro dc b q J K L x y hb hdc hP hm hi hq
  have h4 := hP.1.2.2.2.1
  have h7 := hP.2.2.2.2.2.2.1
  have h6 := hP.2.2.2.2.2.1
  refine ev_62_2 ?_
  refine Ev_t (by omega) (Ev_bind (hsub m (Nat.le_refl _) (dc - 1) b q J K L 0 0 hb (by omega) hP hm hi (fun x p hp => by have := hq x p hp; omega)) ?_)
  rintro ⟨y, J1, M1⟩ ⟨hM1, hy⟩
  dsimp only at hM1 hy ⊢
  subst hM1
  rcases hy with ⟨rfl, ok⟩ | ⟨rfl, fl⟩
  · refine Ev_f (by decide) ?_
    obtain ⟨r, K', L', d, hh, g, P, hr, fC, fM, ty, lt, hl0, inc, sC, sM, sml, ex0⟩ := ok
    have e2 := fC.1 104 2 (by omega) (by omega) (by omega) (by omega)
    refine lpB htr hT h104 hdm hb hdc (mm := m) (fun m' h => hsub m' (by omega)) hi hq h4.1 h7.1 h6.1 m (Nat.le_refl _) J1 0 (by omega) (by omega) (by omega) ⟨r, K', L', d, hh, g, P, fun x hx => ?_, fC, fM, ty, lt, hl0, inc, sC, sM, sml, ex0⟩
    have := hr x hx
    omega
  · exact Ev_t rfl (Ev_ret ⟨rfl, Or.inr ⟨rfl, fl⟩⟩)
theorem lpQ {b : Int} {q : List (Int × Int)} {J0 K0 L0 : JI} {mm dc : Nat} (htr : tr = 9 ∨ tr = 93) (hT : TrO e tr) (h104 : e.2.2 104 1 = some tr) (hdm : 8 ≤ dm) (hb : 0 ≤ b ∧ b ≤ 8) (hdc : 4 * (8 - b) + 12 ≤ (dc : Int)) (hsub : ∀ m', m' < mm → RdQ dm e tr tst M 2 11 2 exB m') (hin : ¬ inn q = 31) (hq : ∀ x p, q = x :: p → bnd x.1 < 1) (h0 : 0 ≤ J0 104 4) (j12 : 0 ≤ J0 tr 12) (k16 : 0 ≤ K0 105 16) (m : Nat) : m ≤ mm → ∀ (J : JI) (i : Int), J 104 2 - J 104 4 ≤ m → 0 ≤ i → i + J0 104 4 + 1 ≤ J 104 4 → OKp dm e tr tst b 1 0 2 Td exB q J0 K0 L0 J → Ev (fun n => kf_62 n dc e 1 J M b i 0) (Pst dm e tr tst b 1 0 2 Td exQ q M J0 K0 L0) := by
  refine Nat.strongRecOn m (fun m ih hmm J i hm hi hi2 ok => ?_)
  have ih := fun m' h => ih m' h (by omega)
  have ok' := ok
  obtain ⟨r, K, L, d, hh, g, P, hr, fC, fM, ty, lt, hl0, inc, sC, sM, sml, ex0⟩ := ok
  have P' := P
  have hKP := PR_KP P' hb
  obtain ⟨u1, u2, u3, u4, u5, u6, u7, u8⟩ := P
  have u1' := u1
  obtain ⟨v1, v2, v3, v4, v5, v6, v7, v8, v9, v10⟩ := u1
  refine ev_62_1 ?_
  refine Ev_f (by omega) (Ev_t (by omega) (Ev41 (by omega) (by decide) (by omega) (fun w => ?_) (fun w => ?_))) <;> dsimp only
  · have wl : J 104 5 - J 104 4 = 2 := w.2.1
    have wk := w.1
    refine Ev_f (by decide) (Ev_R h104 (Ev_t hT.1 (Ev_t (by omega) (Ev_call (K61 hT (by omega) (by omega)) (Ev_t (by omega) ?_)))))
    have e4 := stC_4 htr J 10 0
    have e89 := stC_89 htr J 10 0
    have e12 := stC_12 tr J 10 0
    have hl := PR_lt P' (by omega)
    obtain ⟨s, ⟨s1, K1, s2, s3⟩, s4⟩ := go_of2 (e := e) (tst := tst) (dm := dm) (by omega) P'.2.1 (K237ao (o := 29) (l := 1) (c := 498) (y := 0) (by omega) hKP (by omega) ((TK_w u1' (s := 12) (by decide)).mp w) (by omega) hr hq)
    have ef := ef_ao (o := 29) hKP s2 s3
    rw [s1] at s4
    refine Ev_bind (K37 (J := stC tr J 10 0) (by omega) (by rw [e4, e4]; omega)) ?_
    rintro ⟨J2, M2⟩ ⟨hM2, gn⟩
    dsimp only at hM2 gn ⊢
    subst hM2
    have go := GN_o gn
    have gf := GN_f gn
    rw [e4, e4] at gf
    have g2 : J2 104 2 = J 104 2 := (go 104 2 (by omega)).trans (e4 2)
    have g7 : J2 104 7 = J 104 7 := (go 104 7 (by omega)).trans (e4 7)
    have g12 : J2 tr 12 = J tr 12 + 1 := (go tr 12 (by omega)).trans e12
    have en := em_n r (cs K)
    have e16 : (cs K).2.2 = K 105 16 := rfl
    have la : (r ++ q).length = r.length + q.length := List.length_append
    have P1 : PR tr b ((29, (em r (cs K)).2.2) :: q) J2 s.2.1 s.2.2 := by
      refine PR_of P' ⟨e4 2, e4 5, e89⟩ gn ef (by omega) ?_ ?_ (by omega)
      · intro x hx
        dsimp only
        rcases List.mem_cons.mp hx with z | z
        · subst z; dsimp only; omega
        · have := u4.2.2 x (List.mem_append_right _ z)
          omega
      · simp only [List.length_cons]; omega
    refine Ev_t (by omega) (Ev_bind (hsub (m - 1) (by omega) (dc - 1) b ((29, (em r (cs K)).2.2) :: q) J2 s.2.1 s.2.2 0 0 hb (by omega) P1 (by omega) hin (fun x p hp => by cases hp; exact (show bnd 29 < 2 by decide))) ?_)
    rintro ⟨y, J3, M3⟩ ⟨hM3, hy⟩
    dsimp only at hM3 hy ⊢
    subst hM3
    have fJ2 : FrC tr J J2 := FrC_t (stC_fr tr J 10 0) (GN_fr htr gn)
    rcases hy with ⟨rfl, ok⟩ | ⟨rfl, fl⟩
    · obtain ⟨r2, K2, L2, d2, hh2, g3, P2, hr2, fC2, fM2, ty2, lt2, hl2, inc2, sC2, sM2, sml2, ex2⟩ := ok
      have P2' := P2
      obtain ⟨x1, x2, x3, x4, x5, x6, x7, x8⟩ := P2
      have x1' := x1
      obtain ⟨y1, y2, y3, y4, y5, y6, y7, y8, y9, y10⟩ := x1
      have t10 := hT.2.2.2.2.2.2.2.2.2.2
      refine Ev_f (by decide) (Ev_R h104 (Ev_t hT.1 (Ev_R t10.1 (Ev_R h104 (Ev_t hT.1 (Ev_t ⟨⟨t10.2.1, t10.2.2.1, by rw [t10.2.2.2]; decide⟩, by rw [t10.2.2.2]; omega⟩ (Ev_st (Ev_t (by omega) ?_))))))))
      have k4 : ∀ i, w2 J3 (tr + 10) (J tr 12) (J3 tr 12) 104 i = J3 104 i := fun i => w2_n (by omega)
      have k89 : ∀ i, w2 J3 (tr + 10) (J tr 12) (J3 tr 12) 89 i = J3 89 i := fun i => w2_n (by omega)
      have k12 : w2 J3 (tr + 10) (J tr 12) (J3 tr 12) tr 12 = J3 tr 12 := w2_n (by omega)
      have k9 : ∀ i, w2 J3 (tr + 10) (J tr 12) (J3 tr 12) (tr + 9) i = J3 (tr + 9) i := fun i => w2_n (by omega)
      have k10 : ∀ i, ¬ i = J tr 12 → w2 J3 (tr + 10) (J tr 12) (J3 tr 12) (tr + 10) i = J3 (tr + 10) i := fun i h => w2_n (by omega)
      have k10s : w2 J3 (tr + 10) (J tr 12) (J3 tr 12) (tr + 10) (J tr 12) = J3 tr 12 := by rw [w2_ap, if_pos ⟨rfl, rfl⟩]
      have h2N : J3 104 2 = J 104 2 := (fC2.1 104 2 (by omega) (by omega) (by omega) (by omega)).trans g2
      refine ih (m - 1) (by omega) (w2 J3 (tr + 10) (J tr 12) (J3 tr 12)) (i + 1) (by rw [k4, k4]; omega) (by omega) (by rw [k4]; omega) ?_
      have ap : (r2 ++ [(29, (em r (cs K)).2.2)]) ++ q = r2 ++ (29, (em r (cs K)).2.2) :: q := by rw [List.append_assoc]; rfl
      have eme : em (r2 ++ [(29, (em r (cs K)).2.2)]) (cs K2) = em [(29, (em r (cs K)).2.2)] (em r2 (cs K2)) := em_app _ _ _
      have cs1 := ef.2.2.1
      have s16 : s.2.1 105 16 = (em r (cs K)).2.2 + 1 := by
        have : (cs s.2.1).2.2 = (em r (cs K)).2.2 + 1 := by rw [cs1]
        exact this
      have l1 := sM.1
      have l2 := sM2.1
      rw [s16, cs1] at sml2
      rw [s16] at sM2 l2
      rw [g12] at sC2 inc2
      have fJ3 := FrC_t fJ2 fC2
      have hO : (em r2 (cs K2)).1 (em r (cs K)).2.2 = 29 := by
        rw [(sml2 _ (by omega)).1]
        exact up1_s _ _ _
      have smA : Sml (em r (cs K)).2.2 (em r (cs K)) (em r2 (cs K2)) := Sml_t (b := (em r (cs K)).2.2 + 1) (by omega) (Sml_up (s := em r (cs K)) (Int.le_refl _)) sml2
      have h1l := sC.2.1
      have cat : cC tr J3 (J tr 12) = (10, 0) := by
        rw [← stC_at tr J 10 0]
        have f1 := FrC_t (GN_fr htr gn) fC2
        unfold cC
        rw [(f1.2.1 (J tr 12) (by rw [e12]; omega)).1, (f1.2.1 (J tr 12) (by rw [e12]; omega)).2]
      have cat9 : J3 (tr + 9) (J tr 12) = 10 := congrArg Prod.fst cat
      have cl := seg_o (C := cC tr (w2 J3 (tr + 10) (J tr 12) (J3 tr 12))) (a := J0 tr 12) (b := J tr 12) (c := J3 tr 12) (h := hh + hh2) (seg_congr (fun i _ hi => by unfold cC; rw [k9, k10 i (by omega), (fJ3.2.1 i hi).1, (fJ3.2.1 i hi).2]) sC) ty (by unfold cC; rw [k9, k10s, cat9]) (seg_congr (fun i hi _ => by unfold cC; rw [k9, k10 i (by omega)]) sC2) ty2 (by omega)
      have cm := em_or (s := em r2 (cs K2)) (h := hh + hh2) (cM_sml smA sM) ty hO sM2 ty2 (by omega)
      refine ⟨r2 ++ [(29, (em r (cs K)).2.2)], K2, L2, dO d d2, hh + hh2, Go_t g (Go_t s4 g3), ?_, ?_, FrC_t fC ⟨fun a i z1 z2 z3 z4 => ?_, fun i hi => ⟨?_, ?_⟩, ?_⟩, FrM_t fM (FrM_t ef.2.2.2.2.2.1 fM2), cl.2, by rw [k4]; omega, by rw [k4]; omega, by rw [k4, k12]; omega, by rw [k12]; exact cl.1, by rw [eme]; exact cm.1, ?_, ?_⟩
      · rw [ap]
        refine ⟨TK_c x1' (fun i _ _ => k4 i) k89 (fun _ _ _ => rfl) (fun _ => rfl) rfl, x2, by rw [k4]; exact x3, x4, x5, by rw [k4]; exact x6, by rw [k12, k4]; exact x7, x8⟩
      · intro x hx
        rcases List.mem_append.mp hx with z | z
        · have := hr2 x z; omega
        · have z : x = (29, (em r (cs K)).2.2) := by simpa using z
          subst z; exact (show (1 : Int) ≤ bnd 29 by decide)
      · rw [w2_n (by omega)]; exact fJ3.1 a i z1 z2 z3 z4
      · rw [k9]; exact (fJ3.2.1 i hi).1
      · rw [k10 i (by omega)]; exact (fJ3.2.1 i hi).2
      · rw [k12]; exact fJ3.2.2
      · rw [eme]
        refine Sml_t (by omega) sml (Sml_t (b := (em r (cs K)).2.2) (by omega) smA ?_)
        intro j hj
        show (em r2 (cs K2)).1 j = _ ∧ up1 (em r2 (cs K2)).2.1 (em r (cs K)).2.2 _ j = _
        rw [up1_o (by omega)]
        exact ⟨rfl, rfl⟩
      · exact exB_w (k4 3) (k4 4) (k4 5) k89 ex2
    · exact Ev_t rfl (Ev_ret ⟨rfl, Or.inr ⟨rfl, fl_t (Go_t g s4) (FrC_t fC fJ2) (FrM_t fM ef.2.2.2.2.2.1) fl⟩⟩)
  · refine Ev_t rfl (Ev_ret ⟨rfl, Or.inl ⟨rfl, r, K, L, d, hh, g, P', hr, fC, fM, ty, lt, hl0, inc, sC, sM, sml, ⟨ex0, w⟩⟩⟩)
theorem rdQ (htr : tr = 9 ∨ tr = 93) (hT : TrO e tr) (h104 : e.2.2 104 1 = some tr) (hdm : 8 ≤ dm) (m : Nat) (hsub : ∀ m', m' ≤ m → RdQ dm e tr tst M 2 11 2 exB m') : RdQ dm e tr tst M 0 12 1 exQ m := by
  intro dc b q J K L x y hb hdc hP hm hi hq
  have h4 := hP.1.2.2.2.1
  have h7 := hP.2.2.2.2.2.2.1
  have h6 := hP.2.2.2.2.2.1
  refine ev_62_0 ?_
  refine Ev_t (by omega) (Ev_bind (hsub m (Nat.le_refl _) (dc - 1) b q J K L 0 0 hb (by omega) hP hm hi (fun x p hp => by have := hq x p hp; omega)) ?_)
  rintro ⟨y, J1, M1⟩ ⟨hM1, hy⟩
  dsimp only at hM1 hy ⊢
  subst hM1
  rcases hy with ⟨rfl, ok⟩ | ⟨rfl, fl⟩
  · refine Ev_f (by decide) ?_
    obtain ⟨r, K', L', d, hh, g, P, hr, fC, fM, ty, lt, hl0, inc, sC, sM, sml, ex0⟩ := ok
    have e2 := fC.1 104 2 (by omega) (by omega) (by omega) (by omega)
    refine lpQ htr hT h104 hdm hb hdc (mm := m) (fun m' h => hsub m' (by omega)) hi hq h4.1 h7.1 h6.1 m (Nat.le_refl _) J1 0 (by omega) (by omega) (by omega) ⟨r, K', L', d, hh, g, P, fun x hx => ?_, fC, fM, ty, lt, hl0, inc, sC, sM, sml, ex0⟩
    have := hr x hx
    omega
  · exact Ev_t rfl (Ev_ret ⟨rfl, Or.inr ⟨rfl, fl⟩⟩)
/-- tests are read alike -/
theorem rq_all (htr : tr = 9 ∨ tr = 93) (hT : TrO e tr) (h104 : e.2.2 104 1 = some tr) (hdm : 8 ≤ dm) (htst : ¬ tst = 0) (m : Nat) : RdQ dm e tr tst M 0 12 1 exQ m := by
  have key : ∀ m, ∀ m', m' ≤ m → RdQ dm e tr tst M 4 10 3 exF m' ∧ RdQ dm e tr tst M 2 11 2 exB m' ∧ RdQ dm e tr tst M 0 12 1 exQ m' := by
    intro m
    induction m with
    | zero =>
      intro m' h
      have z : m' = 0 := by omega
      subst z
      have f := rdP (tst := tst) (M := M) (dm := dm) htr hT h104 hdm htst 0 (fun m' h => absurd h (by omega))
      have t := rdB htr hT h104 hdm 0 (fun m' h => by have z : m' = 0 := by omega
                                                      subst z; exact f)
      exact ⟨f, t, rdQ htr hT h104 hdm 0 (fun m' h => by have z : m' = 0 := by omega
                                                         subst z; exact t)⟩
    | succ m ih =>
      have fA : ∀ m', m' ≤ m + 1 → RdQ dm e tr tst M 4 10 3 exF m' := fun m' h => by
        by_cases c : m' ≤ m
        · exact (ih m' c).1
        · exact rdP htr hT h104 hdm htst m' (fun m'' h2 => (ih m'' (by omega)).2.2)
      have tA : ∀ m', m' ≤ m + 1 → RdQ dm e tr tst M 2 11 2 exB m' := fun m' h => rdB htr hT h104 hdm m' (fun m'' h2 => fA m'' (by omega))
      intro m' h
      exact ⟨fA m' h, tA m' h, rdQ htr hT h104 hdm m' (fun m'' h2 => tA m'' (by omega))⟩
  exact (key m m (Nat.le_refl _)).2.2
end TEST
