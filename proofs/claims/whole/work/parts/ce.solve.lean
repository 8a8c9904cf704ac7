section
set_option maxRecDepth 100000 in
theorem ev_106_3 {dp : Nat} {z : Nat} {kd : (Nat → Nat × Nat)} {I : JI} {L : JI} {R : (Nat → Nat → Option Nat)} {i2 : Int} {i3 : Int} {i4 : Int} {P_ : (PSi × Nat × Nat) → Prop} (h : Ev (fun n => (if i2 ≤ i4 then (some ((z, kd, I, L, R), 0, 0)) else (if 8 ≤ i4 then (some ((z, kd, I, L, R), 0, 0)) else (if 0 ≤ i4 ∧ i4 < 8 then (if 1 ≤ dp then ((kf_107 n (dp - 1) 0 z kd I L R (I 54 i4) (-1) 0 0 0).bind (fun ⟨⟨z_60, kd_60, I_60, L_60, R_60⟩, ck_60, cm_60⟩ => (adk ck_60 cm_60 (if -2147483648 ≤ i4 + 1 ∧ i4 + 1 ≤ 2147483647 then (kf_106 n dp 3 z_60 kd_60 I_60 L_60 R_60 i2 i3 (i4 + 1)) else none)))) else none) else none)))) P_) : Ev (fun n => kf_106 n dp 3 z kd I L R i2 i3 i4) P_ := Ev_step (fun n => ke_106_3 n dp z kd I L R i2 i3 i4) h
set_option maxRecDepth 100000 in
theorem ev_106_2 {dp : Nat} {z : Nat} {kd : (Nat → Nat × Nat)} {I : JI} {L : JI} {R : (Nat → Nat → Option Nat)} {i2 : Int} {i3 : Int} {i4 : Int} {P_ : (PSi × Nat × Nat) → Prop} (h : Ev (fun n => (stI (w2 I 44 3 i3) (fun I_35 => (kf_106 n dp 3 z kd I_35 L R i2 i3 i3)))) P_) : Ev (fun n => kf_106 n dp 2 z kd I L R i2 i3 i4) P_ := Ev_step (fun n => ke_106_2 n dp z kd I L R i2 i3 i4) h
set_option maxRecDepth 100000 in
theorem ev_106_1 {dp : Nat} {z : Nat} {kd : (Nat → Nat × Nat)} {I : JI} {L : JI} {R : (Nat → Nat → Option Nat)} {i2 : Int} {i3 : Int} {i4 : Int} {P_ : (PSi × Nat × Nat) → Prop} (h : Ev (fun n => (if i2 ≤ i3 then (kf_106 n dp 2 z kd I L R i2 i3 0) else (if (I 44 3) ≤ i3 then (kf_106 n dp 2 z kd I L R i2 i3 0) else (if 0 ≤ i3 ∧ i3 < 8 then (if 0 ≤ i3 ∧ i3 < 8 then (if (I 46 i3) = (I 54 i3) then (if -2147483648 ≤ i3 + 1 ∧ i3 + 1 ≤ 2147483647 then (kf_106 n dp 1 z kd I L R i2 (i3 + 1) 0) else none) else (kf_106 n dp 2 z kd I L R i2 i3 0)) else none) else none)))) P_) : Ev (fun n => kf_106 n dp 1 z kd I L R i2 i3 i4) P_ := Ev_step (fun n => ke_106_1 n dp z kd I L R i2 i3 i4) h
set_option maxRecDepth 100000 in
theorem ev_106_0 {dp : Nat} {z : Nat} {kd : (Nat → Nat × Nat)} {I : JI} {L : JI} {R : (Nat → Nat → Option Nat)} {i2 : Int} {i3 : Int} {i4 : Int} {P_ : (PSi × Nat × Nat) → Prop} (h : Ev (fun n => (kf_106 n dp 1 z kd I L R i2 0 0)) P_) : Ev (fun n => kf_106 n dp 0 z kd I L R i2 i3 i4) P_ := Ev_step (fun n => ke_106_0 n dp z kd I L R i2 i3 i4) h
set_option maxRecDepth 100000 in
theorem ev_105_1 {dp : Nat} {e : EN} {I : JI} {L : JI} {i1 : Int} {i2 : Int} {i3 : Int} {i4 : Int} {i5 : Int} {P_ : (Int × JI × JI) → Prop} (h : Ev (fun n => (if i4 ≤ i5 then (some ((i4 : Int), I, L)) else (if i3 ≤ i5 then (if -2147483648 ≤ i3 + i2 ∧ i3 + i2 ≤ 2147483647 then (if (i3 + i2) ≤ i5 then (if 0 ≤ i5 ∧ i5 < 8 then (stI (w2 I 54 i5 0) (fun I_51 => (if -2147483648 ≤ i5 + 1 ∧ i5 + 1 ≤ 2147483647 then (kf_105 n dp e 1 I_51 L i1 i2 i3 i4 (i5 + 1)) else none))) else none) else (if 0 ≤ i5 ∧ i5 < 8 then (stI (w2 I 54 i5 1) (fun I_51 => (if -2147483648 ≤ i5 + 1 ∧ i5 + 1 ≤ 2147483647 then (kf_105 n dp e 1 I_51 L i1 i2 i3 i4 (i5 + 1)) else none))) else none)) else none) else (if 0 ≤ i5 ∧ i5 < 8 then (stI (w2 I 54 i5 2) (fun I_51 => (if -2147483648 ≤ i5 + 1 ∧ i5 + 1 ≤ 2147483647 then (kf_105 n dp e 1 I_51 L i1 i2 i3 i4 (i5 + 1)) else none))) else none)))) P_) : Ev (fun n => kf_105 n dp e 1 I L i1 i2 i3 i4 i5) P_ := Ev_step (fun n => ke_105_1 n dp e I L i1 i2 i3 i4 i5) h
set_option maxRecDepth 100000 in
theorem ev_105_0 {dp : Nat} {e : EN} {I : JI} {L : JI} {i1 : Int} {i2 : Int} {i3 : Int} {i4 : Int} {i5 : Int} {P_ : (Int × JI × JI) → Prop} (h : Ev (fun n => (if 1 ≤ dp then (if (-2147483648 ≤ i1 + i2 ∧ i1 + i2 ≤ 2147483647) ∧ (-2147483648 ≤ (i1 + i2) + i3 ∧ (i1 + i2) + i3 ≤ 2147483647) then (stI (min 8 ((i1 + i2) + i3)) (fun v_10 => (kf_105 n dp e 1 I L i1 i2 i3 v_10 0))) else none) else none)) P_) : Ev (fun n => kf_105 n dp e 0 I L i1 i2 i3 i4 i5) P_ := Ev_step (fun n => ke_105_0 n dp e I L i1 i2 i3 i4 i5) h
end
/-! THE CLASS'S PLANS: layers followed, the best found -/
theorem lyL_c {o o' : Nat → OF} : ∀ i : Nat, (∀ k, k < i → o' k = o k) → lyL o' i = lyL o i
  | 0, _ => rfl
  | i + 1, h => by rw [lyL, lyL, lyL_c i (fun k hk => h k (by omega)), h i (by omega)]
theorem LyA_o {rn : Nat} {od : Nat → Int} {wn : Int → Int} {J : JI} {b4 b5 b6 len D : Nat} {o o' : Nat → OF} (ho : ∀ k, k < D → o' k = o k) (h : LyA rn od wn J b4 b5 b6 len o D) : LyA rn od wn J b4 b5 b6 len o' D := by
  obtain ⟨a1, nt, a2, al, a3, a4⟩ := h
  refine ⟨a1, nt, a2, al, a3, fun i hi => ⟨(a4 i hi).1, ?_⟩⟩
  rw [lyL_c i (fun k hk => ho k (by omega))]
  exact (a4 i hi).2
theorem LyA_c {rn : Nat} {od : Nat → Int} {wn : Int → Int} {J J' : JI} {b4 b5 b6 len D D' : Nat} {o : Nat → OF} (hD : D' ≤ D) (h3 : J' 44 3 = D') (h5 : ∀ i, J' 45 i = J 45 i) (hb : ∀ a i, a = b4 ∨ a = b5 ∨ a = b6 → J' a i = J a i) (h : LyA rn od wn J b4 b5 b6 len o D) : LyA rn od wn J' b4 b5 b6 len o D' := by
  obtain ⟨a1, nt, a2, al, a3, a4⟩ := h
  have m := stN_m (nt := nt) (D - D') (D' + 1)
  rw [show D' + 1 + (D - D') = D + 1 by omega] at m
  refine ⟨h3, nt, a2, by omega, fun i hi => by rw [h5]; exact a3 i (by omega), fun i hi => ⟨(a4 i (by omega)).1, ?_⟩⟩
  exact LyN_c (fun _ _ => Iff.rfl) (fun e _ => ⟨hb _ _ (Or.inl rfl), hb _ _ (Or.inr (Or.inl rfl)), hb _ _ (Or.inr (Or.inr rfl))⟩) (a4 i (by omega)).2
theorem of0_c {J J' : JI} {c : Nat} (h4 : J' 4 = J 4) (hc : J' (58 + 5 * c) 4 = J (58 + 5 * c) 4) (h2 : J' (58 + 5 * c + 2) = J (58 + 5 * c + 2)) : of0 J' c = of0 J c := by
  unfold of0 lfC ovK
  rw [h4, hc, h2]
/-- the layers kept -/
def LyK (J : JI) (rn : Nat) (od : Nat → Int) (b4 b5 b6 b7 len sl : Nat) : Prop := prL (fun k => wnC J (od k) + 1) rn ≤ sl ∧ ∃ D : Nat, D ≤ 7 ∧ (∀ i : Nat, i < D → ∃ c : Nat, c < 3 ∧ J 46 i = c ∧ J (58 + 5 * c) 4 ≤ 64) ∧ LyA rn od (wnC J) J b4 b5 b6 len (fun i => of0 J (J 46 i).toNat) D
/-- classes of the carcasses, the last ones ahead -/
def clR (b c : Int) (i : Nat) : Nat := if (i : Int) < c then 2 else if (i : Int) < c + b then 1 else 0
def lyC (J : JI) (a b c : Int) : List OF := lyL (fun i => of0 J (clR b c i)) (a + b + c).toNat
def PlK (J : JI) (a b c : Int) : Prop := (0 < a → J 58 4 ≤ 64) ∧ (0 < b → J 63 4 ≤ 64) ∧ (0 < c → J 68 4 ≤ 64)
theorem PlK_c {J : JI} {a b c : Int} (h : PlK J a b c) {i : Nat} (hi : (i : Int) < a + b + c) (ha : 0 ≤ a) (hb : 0 ≤ b) (hc : 0 ≤ c) : clR b c i < 3 ∧ J (58 + 5 * clR b c i) 4 ≤ 64 := by
  unfold clR
  obtain ⟨h1, h2, h3⟩ := h
  by_cases x : (i : Int) < c
  · rw [if_pos x]; exact ⟨by omega, h3 (by omega)⟩
  · rw [if_neg x]
    by_cases y : (i : Int) < c + b
    · rw [if_pos y]; exact ⟨by omega, h2 (by omega)⟩
    · rw [if_neg y]; exact ⟨by omega, h1 (by omega)⟩
section KF
variable {rn : Nat} {od : Nat → Int} {b4 b5 b6 b7 len sl : Nat}
set_option maxHeartbeats 2000000 in
theorem K106 {dp z : Nat} {kd : KD} {J M : JI} {R : RF} {m : Nat} (hd : 4 ≤ dp) (hz : 144 ≤ z) (hE : LyE (z, kd, R) b4 b5 b6 b7 len sl) (hP : OfP J rn od) (hK : LyK J rn od b4 b5 b6 b7 len sl) (hS : ∀ p : Int, 0 ≤ p → p < sl → J b7 p = 0) (hm : m ≤ 7) (hc : ∀ i : Nat, i < m → ∃ c : Nat, c < 3 ∧ J 54 i = c ∧ J (58 + 5 * c) 4 ≤ 64) : Ev (fun n => kf_106 n dp 0 z kd J M R m 0 0) (fun q => ∃ (z' : Nat) (kd' : KD) (J' M' : JI) (R' : RF) (c4 c5 c6 len' : Nat), q.1 = (z', kd', J', M', R') ∧ LyE (z', kd', R') c4 c5 c6 b7 len' sl ∧ LyT b4 b5 b6 b7 z kd J M R c4 c5 c6 b7 z' kd' J' M' R' ∧ LyA rn od (wnC J) J' c4 c5 c6 len' (fun i => of0 J (J 54 i).toNat) m ∧ (∀ p : Int, 0 ≤ p → p < sl → J' b7 p = 0) ∧ (∀ i : Nat, i < m → J' 46 i = J 54 i) ∧ PotS len sl len' sl q.2.1 q.2.2) := by
  obtain ⟨hsl, D, hD, hcD, hA⟩ := hK
  have ok0 : ∀ i, i < m → okO J (of0 J (J 54 i).toNat) := fun i hi => by
    obtain ⟨c, c1, c2, c3⟩ := hc i hi
    rw [c2, show (c : Int).toNat = c by omega]
    exact okO_C hP c1 c3 (gnC_0 hP c1 c3)
  have stp : ∀ i : Nat, i ≤ m → ∀ (z1 : Nat) (kd1 : KD) (J1 M1 : JI) (R1 : RF) (c4 c5 c6 len1 : Nat) (x : Int), LyE (z1, kd1, R1) c4 c5 c6 b7 len1 sl → LyT b4 b5 b6 b7 z kd J M R c4 c5 c6 b7 z1 kd1 J1 M1 R1 → LyA rn od (wnC J) J1 c4 c5 c6 len1 (fun i => of0 J (J 54 i).toNat) i → (∀ p : Int, 0 ≤ p → p < sl → J1 b7 p = 0) → (∀ k : Nat, k < i → J1 46 k = J 54 k) → Ev (fun n => kf_106 n dp 3 z1 kd1 J1 M1 R1 m x i) (fun q => ∃ (z' : Nat) (kd' : KD) (J' M' : JI) (R' : RF) (c4 c5 c6 len' : Nat), q.1 = (z', kd', J', M', R') ∧ LyE (z', kd', R') c4 c5 c6 b7 len' sl ∧ LyT b4 b5 b6 b7 z kd J M R c4 c5 c6 b7 z' kd' J' M' R' ∧ LyA rn od (wnC J) J' c4 c5 c6 len' (fun i => of0 J (J 54 i).toNat) m ∧ (∀ p : Int, 0 ≤ p → p < sl → J' b7 p = 0) ∧ (∀ i : Nat, i < m → J' 46 i = J 54 i) ∧ PotS len1 sl len' sl q.2.1 q.2.2) := by
    refine dec_ind m (fun i hi ih => ?_)
    intro z1 kd1 J1 M1 R1 c4 c5 c6 len1 x q1 q2 q3 q4 q5
    refine ev_106_3 ?_
    by_cases ci : i < m
    · have ih := ih ci
      obtain ⟨c, c1, c2, c3⟩ := hc i ci
      have ow := hE.2.2.2.1
      have fr : ∀ a i, (1 ≤ a ∧ a < 44) ∨ (51 ≤ a ∧ a ≤ 72) → J1 a i = J a i := fun a i y => (q2.2.1 a (by omega)).2.2.1 i (by omega) (by omega) (by omega)
      have hP1 : OfP J1 rn od := OfP_c (fun a i y => fr a i (by omega)) hP
      have ew : wnC J1 = wnC J := by unfold wnC; funext p; exact fr _ _ (by omega)
      have e0 : of0 J1 c = of0 J c := of0_c (funext fun i => fr _ _ (by omega)) (fr _ _ (by omega)) (funext fun i => fr _ _ (by omega))
      have z1z := q2.1
      rw [fr 54 _ (by omega), c2]
      refine Ev_f (by omega) (Ev_f (by omega) (Ev_t (by omega) (Ev_t (by omega) (Ev_bind (S107 (rn := rn) (od := od) (fv := -1) (D := i) (o := fun i => of0 J (J 54 i).toNat) (gn := (of0 J c).2.1) (by omega) (by omega) q1 hP1 (by rw [ew]; exact hsl) c1 (by rw [fr _ _ (by omega)]; exact c3) ?_ ?_ ?_ (by omega) (by rw [ew]; exact q3) q4) ?_))))
      · intro k hk
        rw [← gnC_0 hP1 c1 (by rw [fr _ _ (by omega)]; exact c3) k hk, ← e0]
        rfl
      · rw [c2, show (c : Int).toNat = c by omega]
        show of0 J c = ((of0 J1 c).1, (of0 J c).2.1, (of0 J1 c).2.2)
        rw [e0]
      · intro k hk
        have := ok0 k (by omega)
        unfold okO at *
        rw [show J1 4 = J 4 from funext fun i => fr _ _ (by omega)]
        exact this
      · rintro ⟨⟨z2, kd2, J2, M2, R2⟩, ck, cm⟩ ⟨z', kd', J', M', R', f4, f5, f6, len', w1, w2, w3, w4, w5, w6, w7, w8⟩
        dsimp only at w1 w8 ⊢
        obtain ⟨rfl, rfl, rfl, rfl, rfl⟩ : z2 = z' ∧ kd2 = kd' ∧ J2 = J' ∧ M2 = M' ∧ R2 = R' := by simpa using w1
        rw [ew] at w4
        refine Ev_adk (Ev_t (by omega) (Ev_mono (ih z2 kd2 J2 M2 R2 f4 f5 f6 len' x w2 (LyT_t q2 w3) w4 w5 (fun k hk => ?_)) ?_))
        · by_cases e : k = i
          · subst e; rw [w6, c2]
          · rw [w7 k (by omega)]; exact q5 k (by omega)
        · rintro q ⟨z', kd', J', M', R', g4, g5, g6, len2, y1, y2, y3, y4, y5, y6, y7⟩
          exact ⟨z', kd', J', M', R', g4, g5, g6, len2, y1, y2, y3, y4, y5, y6, PotS_t w8 y7⟩
    · have : i = m := by omega
      subst this
      exact Ev_t (by omega) (Ev_ret ⟨z1, kd1, J1, M1, R1, c4, c5, c6, len1, rfl, q1, q2, q3, q4, q5, PotS_r⟩)
  have o4 := hE.2.2.2.1
  have two : ∀ i : Nat, i ≤ m → i ≤ D → (∀ k : Nat, k < i → J 46 k = J 54 k) → ∀ x : Int, Ev (fun n => kf_106 n dp 2 z kd J M R m i x) (fun q => ∃ (z' : Nat) (kd' : KD) (J' M' : JI) (R' : RF) (c4 c5 c6 len' : Nat), q.1 = (z', kd', J', M', R') ∧ LyE (z', kd', R') c4 c5 c6 b7 len' sl ∧ LyT b4 b5 b6 b7 z kd J M R c4 c5 c6 b7 z' kd' J' M' R' ∧ LyA rn od (wnC J) J' c4 c5 c6 len' (fun i => of0 J (J 54 i).toNat) m ∧ (∀ p : Int, 0 ≤ p → p < sl → J' b7 p = 0) ∧ (∀ i : Nat, i < m → J' 46 i = J 54 i) ∧ PotS len sl len' sl q.2.1 q.2.2) := by
    intro i hi hiD he x
    refine ev_106_2 ?_
    refine Ev_st (stp i hi z kd _ M R b4 b5 b6 len _ hE ⟨Nat.le_refl _, fun a _ => ⟨rfl, fun _ _ => rfl, fun j x _ _ => w2_n (by omega), fun _ => rfl⟩, Or.inl rfl, Or.inl rfl, Or.inl rfl, Or.inl rfl⟩ ?_ (fun p x y => ?_) (fun k hk => ?_))
    · refine LyA_o (o := fun i => of0 J (J 46 i).toNat) (fun k hk => by rw [he k hk]) (LyA_c hiD (by rw [w2_ap, if_pos ⟨rfl, rfl⟩]) (fun j => w2_n (by omega)) (fun a j h => w2_n (by omega)) hA)
    · rw [w2_n (by omega)]; exact hS p x y
    · rw [w2_n (by omega)]; exact he k hk
  have a1 := hA.1
  have one : ∀ i : Nat, i ≤ m → i ≤ D → (∀ k : Nat, k < i → J 46 k = J 54 k) → Ev (fun n => kf_106 n dp 1 z kd J M R m i 0) (fun q => ∃ (z' : Nat) (kd' : KD) (J' M' : JI) (R' : RF) (c4 c5 c6 len' : Nat), q.1 = (z', kd', J', M', R') ∧ LyE (z', kd', R') c4 c5 c6 b7 len' sl ∧ LyT b4 b5 b6 b7 z kd J M R c4 c5 c6 b7 z' kd' J' M' R' ∧ LyA rn od (wnC J) J' c4 c5 c6 len' (fun i => of0 J (J 54 i).toNat) m ∧ (∀ p : Int, 0 ≤ p → p < sl → J' b7 p = 0) ∧ (∀ i : Nat, i < m → J' 46 i = J 54 i) ∧ PotS len sl len' sl q.2.1 q.2.2) := by
    refine dec_ind m (fun i hi ih => ?_)
    intro hiD he
    refine ev_106_1 ?_
    rw [a1]
    by_cases c1 : i < m
    · by_cases c2 : i < D
      · refine Ev_f (by omega) (Ev_f (by omega) (Ev_t (by omega) (Ev_t (by omega) ?_)))
        by_cases c3 : J 46 i = J 54 i
        · refine Ev_t c3 (Ev_t (by omega) ?_)
          have := ih c1 (by omega) (fun k hk => ?_)
          · rw [show ((i + 1 : Nat) : Int) = (i : Int) + 1 by omega] at this
            exact this
          · by_cases e : k = i
            · subst e; exact c3
            · exact he k (by omega)
        · exact Ev_f c3 (two i hi hiD he _)
      · exact Ev_f (by omega) (Ev_t (by omega) (two i hi hiD he _))
    · exact Ev_t (by omega) (two i hi hiD he _)
  refine ev_106_0 ?_
  exact one 0 (by omega) (by omega) (fun k hk => by omega)
/-- layOut -/
theorem K105 {dp : Nat} {e : EN} {J L : JI} {a b c : Int} (hd : 1 ≤ dp) (ha : 0 ≤ a) (hb : 0 ≤ b) (hc : 0 ≤ c) (h8 : a + b + c ≤ 8) : Ev (fun n => kf_105 n dp e 0 J L a b c 0 0) (fun r => r.1 = a + b + c ∧ r.2.2 = L ∧ (∀ x i, ¬ x = 54 → r.2.1 x i = J x i) ∧ ∀ i : Nat, (i : Int) < a + b + c → r.2.1 54 i = clR b c i) := by
  obtain ⟨N, hN⟩ : ∃ N : Nat, a + b + c = N := ⟨(a + b + c).toNat, by omega⟩
  rw [hN] at h8 ⊢
  have key : ∀ i : Nat, i ≤ N → ∀ K : JI, (∀ x i, ¬ x = 54 → K x i = J x i) → (∀ k : Nat, k < i → K 54 k = clR b c k) → Ev (fun n => kf_105 n dp e 1 K L a b c N i) (fun r => r.1 = N ∧ r.2.2 = L ∧ (∀ x i, ¬ x = 54 → r.2.1 x i = J x i) ∧ ∀ i : Nat, (i : Int) < N → r.2.1 54 i = clR b c i) := by
    refine dec_ind N (fun i hi ih => ?_)
    intro K k1 k2
    refine ev_105_1 ?_
    by_cases ci : i < N
    · have ih := ih ci
      have fin : ∀ v : Int, v = clR b c i → Ev (fun n => kf_105 n dp e 1 (w2 K 54 i v) L a b c N ((i : Int) + 1)) (fun r => r.1 = N ∧ r.2.2 = L ∧ (∀ x i, ¬ x = 54 → r.2.1 x i = J x i) ∧ ∀ i : Nat, (i : Int) < N → r.2.1 54 i = clR b c i) := fun v hv => by
        have := ih (w2 K 54 i v) (fun x j y => by rw [w2_n (by omega)]; exact k1 x j y) (fun k hk => ?_)
        · rw [show ((i + 1 : Nat) : Int) = (i : Int) + 1 by omega] at this
          exact this
        · by_cases e : k = i
          · subst e; rw [w2_ap, if_pos ⟨rfl, rfl⟩]; exact hv
          · rw [w2_n (by omega)]; exact k2 k (by omega)
      unfold clR at fin
      by_cases x : (i : Int) < c
      · rw [if_pos x] at fin
        exact Ev_f (by omega) (Ev_f (by omega) (Ev_t (by omega) (Ev_st (Ev_t (by omega) (fin 2 rfl)))))
      · rw [if_neg x] at fin
        by_cases y : (i : Int) < c + b
        · rw [if_pos y] at fin
          exact Ev_f (by omega) (Ev_t (by omega) (Ev_t (by omega) (Ev_f (by omega) (Ev_t (by omega) (Ev_st (Ev_t (by omega) (fin 1 rfl)))))))
        · rw [if_neg y] at fin
          exact Ev_f (by omega) (Ev_t (by omega) (Ev_t (by omega) (Ev_t (by omega) (Ev_t (by omega) (Ev_st (Ev_t (by omega) (fin 0 rfl)))))))
    · have : i = N := by omega
      subst this
      exact Ev_t (by omega) (Ev_ret ⟨rfl, rfl, k1, fun k hk => k2 k (by omega)⟩)
  refine ev_105_0 ?_
  refine Ev_t hd (Ev_t (by omega) (Ev_st ?_))
  rw [hN, show min (8 : Int) (N : Int) = N by omega]
  exact key 0 (by omega) J (fun _ _ _ => rfl) (fun k hk => by omega)
end KF
