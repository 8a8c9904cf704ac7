section
set_option maxRecDepth 100000 in
theorem ev_302_4 {dp : Nat} {e : EN} {I : JI} {L : JI} {i1 : Int} {i4 : Int} {i5 : Int} {i6 : Int} {j2 : Int} {P_ : (Int × JI × JI) → Prop} (h : Ev (fun n => (if 15 ≤ i5 then (if 1 ≤ dp then ((kf_194 n (dp - 1) e 0 I L i4).bind (fun ⟨x0_207, I0_207, L0_207⟩ => (some ((x0_207 : Int), I0_207, L0_207)))) else none) else (if 0 ≤ i5 ∧ i5 < 15 then (if 0 ≤ i5 ∧ i5 < 15 then (stI (w2 I 142 i5 (I 143 i5)) (fun I_197 => (if -2147483648 ≤ i5 + 1 ∧ i5 + 1 ≤ 2147483647 then (kf_302 n dp e 4 I_197 L i1 i4 (i5 + 1) 0 j2) else none))) else none) else none))) P_) : Ev (fun n => kf_302 n dp e 4 I L i1 i4 i5 i6 j2) P_ := Ev_step (fun n => ke_302_4 n dp e I L i1 i4 i5 i6 j2) h
set_option maxRecDepth 100000 in
theorem ev_181_0 {dp : Nat} {z : Nat} {kd : (Nat → Nat × Nat)} {I : JI} {L : JI} {R : (Nat → Nat → Option Nat)} {i1 : Int} {i2 : Int} {i3 : Int} {P_ : ((Int × PSi) × Nat × Nat) → Prop} (h : Ev (fun n => (if 1 ≤ dp then ((kf_14 n (dp - 1) (z, kd, R) 0 I L i1 0 1000000).bind (fun ⟨x_5, I_5, L_5⟩ => (if x_5 = 0 then (if 1 ≤ dp then ((kf_15 n (dp - 1) (z, kd, R) 0 I_5 L_5 (-1)).bind (fun ⟨x_13, I_13, L_13⟩ => (some (((x_13 : Int), z, kd, I_13, L_13, R), 0, 0)))) else none) else (if 1 ≤ dp then ((kf_182 n (dp - 1) (z, kd, R) 0 I_5 L_5 i1 0 0).bind (fun ⟨I_19, L_19⟩ => (if 1 ≤ dp then ((kf_81 n (dp - 1) (z, kd, R) 0 I_19 L_19 0 0 0 0).bind (fun ⟨I_26, L_26⟩ => (kf_181 n dp 1 z kd I_26 L_26 R i1 0 0))) else none))) else none)))) else none)) P_) : Ev (fun n => kf_181 n dp 0 z kd I L R i1 i2 i3) P_ := Ev_step (fun n => ke_181_0 n dp z kd I L R i1 i2 i3) h
set_option maxRecDepth 100000 in
theorem ev_302_0 {dp : Nat} {e : EN} {I : JI} {L : JI} {i1 : Int} {i4 : Int} {i5 : Int} {i6 : Int} {j2 : Int} {P_ : (Int × JI × JI) → Prop} (h : Ev (fun n => (stI (w2 I 105 0 0) (fun I_2 => (if 1 ≤ dp then ((kf_193 n (dp - 1) e 0 I_2 L i1 0 1000000).bind (fun ⟨x0_11, I0_11, L0_11⟩ => (if x0_11 = 0 then (if 1 ≤ dp then ((kf_194 n (dp - 1) e 0 I0_11 L0_11 (-1)).bind (fun ⟨x1_19, I1_19, L1_19⟩ => (some ((x1_19 : Int), I1_19, L1_19)))) else none) else (kf_302 n dp e 1 I0_11 L0_11 i1 0 0 0 i1)))) else none)))) P_) : Ev (fun n => kf_302 n dp e 0 I L i1 i4 i5 i6 j2) P_ := Ev_step (fun n => ke_302_0 n dp e I L i1 i4 i5 i6 j2) h
end
/-! WEEK: week() of both -/
def XV (a : Nat) (i : Int) : Prop := XW a i ∨ a = 90 ∨ a = 91 ∨ a = 92 ∨ (a = 0 ∧ (i = 17 ∨ i = 18))
def FrMv (J J' M M' : JI) : Prop := (∀ a i, ¬ (a = 105 ∧ (i = 1 ∨ i = 29 ∨ i = 32 ∨ (40 ≤ i ∧ i ≤ 54) ∨ i = 67)) → ¬ a = 106 → ¬ (120 ≤ a ∧ a ≤ 135) → ¬ (a = 142 ∨ a = 143) → J' a i = J a i) ∧ ∀ a i, ¬ a = 118 → ¬ a = 119 → ¬ (a = 105 ∧ (i = 30 ∨ i = 31)) → M' a i = M a i
def WkQ (tr : Nat) (TS : Nat → Prop) (b4 b5 b6 b7 z : Nat) (kd : KD) (J M : JI) (R : RF) (t : Nat) (kM : Nat → EN → JI → JI → Option (Int × JI × JI)) (len1 sl1 : Nat) (q : (Int × Nat × KD × JI × JI × RF) × Nat × Nat) : Prop := ∃ (z' : Nat) (kd' : KD) (J' M' : JI) (R' : RF) (c4 c5 c6 c7 len' sl' : Nat), q.1.2 = (z', kd', J', M', R') ∧ PotS len1 sl1 len' sl' q.2.1 q.2.2 ∧ FrGx XV b4 b5 b6 b7 z kd J M R c4 c5 c6 c7 z' kd' J' M' R' ∧ J' 24 12 ≤ J 24 12 + 1 ∧ Ev (fun n => kM n (z', kd', R') J' M') (fun r => r.1 = q.1.1 ∧ PW tr TS z' kd' R' r.2.1 c4 c5 c6 c7 len' sl' ∧ FrMv J' r.2.1 M' r.2.2 ∧ smO (t + 1) r.2.1)
theorem smO_wk {t : Nat} {J J' : JI} (hs : smO t J) (same : ∀ a i, (a = 0 ∧ (i = 13 ∨ i = 15 ∨ i = 16)) ∨ (a = 105 ∧ (i = 0 ∨ i = 7 ∨ i = 12 ∨ i = 63)) ∨ a = 89 ∨ a = 110 → J' a i = J a i) (h32 : J' 105 32 = 0 ∨ J' 105 32 = 1) (h51 : J' 105 51 = 0 ∨ J' 105 51 = 1) (h18 : J' 0 18 = J' 105 1) (h17 : J' 0 17 = J' 105 67) (h91 : ∀ i, 0 ≤ i → i < 15 → J' 91 i = J' 142 i) (cnt : ∀ j i : Int, ((j = 0 ∧ i = 1) ∨ (j = 1 ∧ i = 2) ∨ (j = 2 ∧ i = 3) ∨ (j = 3 ∧ i = 5) ∨ (j = 4 ∧ i = 6)) → (J' 92 j = J 92 j ∧ J' 106 i = J 106 i) ∨ (J' 92 j = J 92 j + 1 ∧ J' 106 i = J 106 i + 1)) (h12 : 0 ≤ J' 24 12 ∧ J' 24 12 ≤ J 24 12 + 1) : smO (t + 1) J' := by
  obtain ⟨s1, s2, s3, s4, s5, s6, s7, s8, s9, s10, s11, s12, s13, s14, s15, s16⟩ := hs
  have c1 := cnt 0 1 (by omega)
  have c2 := cnt 1 2 (by omega)
  have c3 := cnt 2 3 (by omega)
  have c4 := cnt 3 5 (by omega)
  have c5 := cnt 4 6 (by omega)
  refine ⟨by rw [same _ _ (by omega)]; exact s1, h32, h51, by omega, by omega, by omega, by omega, by omega, ?_, by rw [same _ _ (by omega), same _ _ (by omega)]; exact s10, by rw [same _ _ (by omega), same _ _ (by omega)]; exact s11, h18, h17, fun i a b => ?_, h91, by omega⟩
  · rw [same 0 _ (by omega), same 105 _ (by omega)]; exact s9
  · rw [same 89 _ (by omega), same 110 _ (by omega)]; exact s14 i a b
theorem K302c {e : EN} {dp : Nat} {J L : JI} {s S j : Int} {Q : Int × JI × JI → Prop} (fin : ∀ K : JI, (∀ a i, ¬ a = 142 → K a i = J a i) → (∀ i : Int, 0 ≤ i → i < 15 → K 142 i = J 143 i) → Ev (fun n => if 1 ≤ dp then ((kf_194 n (dp - 1) e 0 K L S).bind (fun ⟨x, I, L⟩ => some ((x : Int), I, L))) else none) Q) : Ev (fun n => kf_302 n dp e 4 J L s S 0 0 j) Q := by
  have key : ∀ i : Nat, i ≤ 15 → ∀ K : JI, (∀ a i, ¬ a = 142 → K a i = J a i) → (∀ k : Int, 0 ≤ k → k < i → K 142 k = J 143 k) → Ev (fun n => kf_302 n dp e 4 K L s S i 0 j) Q := by
    refine dec_ind 15 (fun i hi ih => ?_)
    intro K k1 k2
    refine ev_302_4 ?_
    by_cases ci : i < 15
    · have ih := ih ci
      refine Ev_f (by omega) (Ev_t (by omega) (Ev_t (by omega) (Ev_st (Ev_t (by omega) ?_))))
      have := ih (w2 K 142 i (K 143 i)) (fun a x y => by rw [w2_o y]; exact k1 a x y) (fun k a hk => ?_)
      · rw [show ((i + 1 : Nat) : Int) = (i : Int) + 1 by omega] at this
        exact this
      · by_cases q : k = i
        · subst q; rw [w2_ap, if_pos ⟨rfl, rfl⟩]; exact k1 _ _ (by omega)
        · rw [w2_n (by omega)]; exact k2 k a (by omega)
    · have : i = 15 := by omega
      subst this
      exact Ev_t (by omega) (fin K k1 k2)
  exact key 0 (by omega) J (fun _ _ _ => rfl) (fun k a hk => by omega)
section WM
variable {tr : Nat} {TS : Nat → Prop} {z : Nat} {kd : KD} {R : RF} {J M : JI} {b4 b5 b6 b7 len sl : Nat}
set_option maxHeartbeats 2000000 in
theorem o_week {dp t : Nat} {x : Int} (hd : 20 ≤ dp) (ht : t ≤ 512) (hE : J 24 12 ≤ 999999) (hs : smO t J) (h : PW tr TS z kd R J b4 b5 b6 b7 len sl) : Ev (fun n => kf_181 n dp 0 z kd J M R x 0 0) (WkQ tr TS b4 b5 b6 b7 z kd J M R t (fun n e J M => kf_302 n dp e 0 J M x 0 0 0 0) len sl) := by
  have hs' := hs
  obtain ⟨s1, s2, s3, s4, s5, s6, s7, s8, s9, s10, s11, s12, s13, s14, s15, s16⟩ := hs
  have z144 := h.1.2.2.2.2.1
  have o7 := h.2.2.2.1.1.2.2.2.1
  refine ev_181_0 ?_
  refine Ev_t (by omega) (Ev14 (fun hx => ?_) (fun hx => ?_))
  case' refine_2 =>
    dsimp only
    refine Ev_t rfl (Ev_t (by omega) (Ev_bind (K15 (j := 0) (by omega) (by omega) (by omega)) ?_))
    rintro _ rfl
    dsimp only
    have n1 : ∀ a i, ¬ (a = 0 ∧ i = 18) → ¬ (a = 92 ∧ i = 0) → w2 (w2 J 0 18 (-1)) 92 0 (J 92 0 + 1) a i = J a i := fun a i y w => by rw [w2_n w, w2_n y]
    have a1 : w2 (w2 J 0 18 (-1)) 92 0 (J 92 0 + 1) 0 18 = -1 := by rw [w2_n (by omega), w2_ap, if_pos ⟨rfl, rfl⟩]
    have a2 : w2 (w2 J 0 18 (-1)) 92 0 (J 92 0 + 1) 92 0 = J 92 0 + 1 := by rw [w2_ap, if_pos ⟨rfl, rfl⟩]
    generalize w2 (w2 J 0 18 (-1)) 92 0 (J 92 0 + 1) = J1 at n1 a1 a2 ⊢
    have W1 : PW tr TS z kd R J1 b4 b5 b6 b7 len sl := PW_z h (fun a i y w => n1 a i (fun q => y (by unfold XZ; omega)) (fun q => y (by unfold XZ; omega))) (Or.inl ⟨n1 _ _ (by omega) (by omega), n1 _ _ (by omega) (by omega)⟩)
    refine Ev_ret ⟨z, kd, J1, M, R, b4, b5, b6, b7, len, sl, rfl, PotS_r, FrGx_J (fun a i y => n1 a i (fun q => y (by unfold XV; omega)) (fun q => y (by unfold XV; omega))), by rw [n1 _ _ (by omega) (by omega)]; omega, ?_⟩
    dsimp only
    refine ev_302_0 ?_
    refine Ev_th (by rw [n1 _ _ (by omega) (by omega)]; exact s1) (Ev_t (by omega) (Ev193f hx (Ev_t rfl (Ev_t (by omega) (Ev_bind (K194n (j := 1) (by omega) (by rw [n1 _ _ (by omega) (by omega)]; omega) (by rw [n1 _ _ (by omega) (by omega)]; exact s2) (by rw [n1 _ _ (by omega) (by omega)]; exact s3)) ?_)))))
    rintro _ rfl
    dsimp only
    have n2 : ∀ a i, ¬ (a = 105 ∧ i = 1) → ¬ (a = 106 ∧ i = 1) → w2 (w2 J1 105 1 (-1)) 106 1 (J1 106 1 + 1) a i = J1 a i := fun a i y w => by rw [w2_n w, w2_n y]
    have d1 : w2 (w2 J1 105 1 (-1)) 106 1 (J1 106 1 + 1) 105 1 = -1 := by rw [w2_n (by omega), w2_ap, if_pos ⟨rfl, rfl⟩]
    have d2 : w2 (w2 J1 105 1 (-1)) 106 1 (J1 106 1 + 1) 106 1 = J1 106 1 + 1 := by rw [w2_ap, if_pos ⟨rfl, rfl⟩]
    generalize w2 (w2 J1 105 1 (-1)) 106 1 (J1 106 1 + 1) = J2 at n2 d1 d2 ⊢
    have nn : ∀ a i, ¬ (a = 0 ∧ i = 18) → ¬ (a = 92 ∧ i = 0) → ¬ (a = 105 ∧ i = 1) → ¬ (a = 106 ∧ i = 1) → J2 a i = J a i := fun a i y1 y2 y3 y4 => by rw [n2 a i y3 y4, n1 a i y1 y2]
    refine Ev_ret ⟨rfl, PW_z W1 (fun a i y w => n2 a i (fun q => y (by unfold XZ; omega)) (fun q => y (by unfold XZ; omega))) (Or.inl ⟨n2 _ _ (by omega) (by omega), n2 _ _ (by omega) (by omega)⟩), ⟨fun a i y1 y2 y3 y4 => n2 a i (by omega) (by omega), fun _ _ _ _ _ => rfl⟩, ?_⟩
    show smO (t + 1) J2
    refine smO_wk hs' (fun a i y => nn a i (by omega) (by omega) (by omega) (by omega)) (by rw [nn _ _ (by omega) (by omega) (by omega) (by omega)]; exact s2) (by rw [nn _ _ (by omega) (by omega) (by omega) (by omega)]; exact s3) (by rw [d1, n2 _ _ (by omega) (by omega)]; exact a1) (by rw [nn _ _ (by omega) (by omega) (by omega) (by omega), nn _ _ (by omega) (by omega) (by omega) (by omega)]; exact s13) (fun i a b => by rw [nn _ _ (by omega) (by omega) (by omega) (by omega), nn _ _ (by omega) (by omega) (by omega) (by omega)]; exact s15 i a b) (fun j i y => ?_) (by rw [nn _ _ (by omega) (by omega) (by omega) (by omega)]; omega)
    by_cases q : j = 0
    · have : i = 1 := by omega
      subst q; subst this
      exact Or.inr ⟨by rw [n2 _ _ (by omega) (by omega)]; exact a2, by rw [d2, n1 _ _ (by omega) (by omega)]⟩
    · exact Or.inl ⟨nn _ _ (by omega) (by omega) (by omega) (by omega), nn _ _ (by omega) (by omega) (by omega) (by omega)⟩
  dsimp only
  have m2 := h.2.2.1.2.1
  have m3 := h.2.2.1.2.2
  refine Ev_f (by omega) (Ev_t (by omega) (Ev_bind (K182 (L := M) hx (fun c a b => by rw [m2 c a b]; exact m3.1 c a b)) ?_))
  rintro ⟨J1, M1⟩ ⟨k1, k2, k3⟩
  dsimp only at k1 k2 k3 ⊢
  subst k1
  have ed : ∀ i, wkD x (J 2) i = wkD x (J 107) i := fun i => by
    unfold wkD
    rw [m2 _ (by omega) (by omega)]
  have W1 : PW tr TS z kd R J1 b4 b5 b6 b7 len sl := PW_z h (fun a i y w => k2 a i (fun q => y (by unfold XZ; omega))) (Or.inl ⟨k2 _ _ (by omega), k2 _ _ (by omega)⟩)
  refine Ev_t (by omega) (Ev_bind (R81 (M := M1) W1.1.1 W1.1.2.1 (by omega) W1.2.1.1 W1.2.1.2) ?_)
  rintro ⟨J2, M2⟩ ⟨r1, r2, r3, r4, r5, r6⟩
  dsimp only at r1 r2 r3 r4 r5 r6 ⊢
  subst r1
  obtain ⟨W2, e12⟩ := PW_u' W1 (by rw [k2 _ _ (by omega)]; exact hE) r2 r3 r4
  have e7 : J2 107 = J 107 := (funext fun i => r2.2.1.1 _ _ (by omega) (by omega) (by omega) (by omega) (by omega) (by omega) (by omega)).trans (funext fun i => k2 _ _ (by omega))
  have f2 : ∀ a i, ¬ XW a i → ¬ a = 90 → J2 a i = J a i := fun a i y w => by
    rw [← k2 a i w]
    unfold XW at y
    by_cases q : a = 105 ∧ (i = 29 ∨ i = 32)
    · obtain ⟨rfl, rfl | rfl⟩ := q
      · omega
      · exact r3
    · by_cases q' : 120 ≤ a ∧ a ≤ 125
      · exact r4 a i q'.1 q'.2
      · exact r2.2.1.1 a i (by omega) (by omega) (by omega) (by omega) (by omega) q q'
  have h90 : ∀ i : Nat, i < 15 → J2 90 i = wkD x (J2 107) i := fun i hi => by
    rw [r2.2.1.1 _ _ (by omega) (by omega) (by omega) (by omega) (by omega) (by omega) (by omega), k3 i hi, ed, e7]
  have hL2 : LsC J2 (cuS (J2 107)) := by
    rw [e7, show J 107 = J1 107 from funext fun i => (k2 _ _ (by omega)).symm]; exact r6
  have g0 : FrGx XV b4 b5 b6 b7 z kd J M2 R b4 b5 b6 b7 z kd J2 M2 R := FrGx_J (fun a i y => f2 a i (fun q => y (Or.inl q)) (fun q => y (Or.inr (Or.inl q))))
  have hr2 := W2.2.2.1.2.2
  /- the reference, once the class is through with J5; what it ends with -/
  have md : ∀ (z1 : Nat) (kd1 : KD) (J1 J5 M1 : JI) (R1 : RF) (c4 c5 c6 c7 len1 sl1 : Nat) (u ans : Int), (ans = if u = -1000000 then -3 else u) → PW tr TS z1 kd1 R1 J1 c4 c5 c6 c7 len1 sl1 → FrGx XP b4 b5 b6 b7 z kd J2 M2 R c4 c5 c6 c7 z1 kd1 J1 M1 R1 → LsC J1 (cuS (J1 107)) → WkR (dyP (J2 107) x) (dyV (J2 107) x) 5 0 0 u → (∀ a i, ¬ (a = 91 ∨ a = 92 ∨ (a = 0 ∧ (i = 17 ∨ i = 18))) → J5 a i = J1 a i) → ((u = -1000000 ∧ (J5 0 18 = -3 ∧ J5 0 17 = J1 0 17 ∧ (∀ i, J5 91 i = J1 91 i) ∧ J5 92 2 = J1 92 2 + 1 ∧ ∀ i, ¬ i = 2 → J5 92 i = J1 92 i)) ∨ (0 ≤ u ∧ J5 0 18 = 0 ∧ J5 0 17 = 1 ∧ (∀ i, 0 ≤ i → i < 15 → J5 91 i = J1 90 i) ∧ ∀ i, J5 92 i = J1 92 i)) → WkQ tr TS b4 b5 b6 b7 z kd J M2 R t (fun n e J M => kf_302 n dp e 0 J M x 0 0 0 0) len1 sl1 ((ans, z1, kd1, J5, M1, R1), 0, 0) := fun z1 kd1 J1 J5 M1 R1 c4 c5 c6 c7 len1 sl1 u ans han W g hL hW n5 hu => by
    have z144' := h.1.2.2.2.2.1
    have o7' := W2.2.2.2.1.1.2.2.2.1
    have fr : ∀ a i, a < 144 → ¬ XP a i → ¬ (47 ≤ a ∧ a ≤ 50) → J1 a i = J2 a i := fun a i y w v => (g.2.1 a (by omega)).2.2.1 i w (by omega)
    have e71 : J1 107 = J2 107 := funext fun i => fr _ _ (by omega) (by unfold XP; omega) (by omega)
    have W5 : PW tr TS z1 kd1 R1 J5 c4 c5 c6 c7 len1 sl1 := PW_z W (fun a i y w => n5 a i (fun q => y (by unfold XZ; omega))) (Or.inl ⟨n5 _ _ (by omega), n5 _ _ (by omega)⟩)
    have g5 : FrGx XV b4 b5 b6 b7 z kd J M2 R c4 c5 c6 c7 z1 kd1 J5 M1 R1 := FrGx_t (FrGx_t g0 (FrGx_m (fun a i y => Or.inl (XP_W a i y)) g)) (FrGx_J (fun a i y => n5 a i (fun q => y (by unfold XV; omega))))
    have j24 : J5 24 12 = J2 24 12 := by rw [n5 _ _ (by omega)]; exact fr _ _ (by omega) (by unfold XP; omega) (by omega)
    have jj : ∀ a i, a < 144 → ¬ XW a i → ¬ (47 ≤ a ∧ a ≤ 50) → ¬ (a = 90 ∨ a = 91 ∨ a = 92 ∨ (a = 0 ∧ (i = 17 ∨ i = 18))) → J5 a i = J a i := fun a i y1 y2 y3 y4 => by
      rw [n5 a i (by omega), fr a i y1 (fun q => y2 (XP_W a i q)) y3, f2 a i y2 (by omega)]
    have j0 : ∀ a i, a = 0 ∨ a = 92 → J1 a i = J a i := fun a i y => by
      rw [fr a i (by omega) (by unfold XP; omega) (by omega), f2 a i (by unfold XW; omega) (by omega)]
    refine ⟨z1, kd1, J5, M1, R1, c4, c5, c6, c7, len1, sl1, rfl, PotS_r, g5, by rw [j24]; rw [k2 _ _ (by omega)] at e12; omega, ?_⟩
    dsimp only
    refine ev_302_0 ?_
    refine Ev_th (by rw [jj _ _ (by omega) (by unfold XW; omega) (by omega) (by omega)]; exact s1) (Ev_t (by omega) (Ev193t hx (Ev_f (by omega) ?_)))
    have hr5 := W5.2.2.1.2.2
    have e75 : J5 107 = J2 107 := (funext fun i => n5 _ _ (by omega)).trans e71
    refine K302a hx (fun c a b => hr5.1 c a b) (fun K j y1 y2 => ?_)
    have WK : PW tr TS z1 kd1 R1 K c4 c5 c6 c7 len1 sl1 := PW_z W5 (fun a i y w => y1 a i (fun q => y (by unfold XZ; omega))) (Or.inl ⟨y1 _ _ (by omega), y1 _ _ (by omega)⟩)
    have eK7 : K 107 = J2 107 := (funext fun i => y1 _ _ (by omega)).trans e75
    have hLK : LsC K (cuS (K 107)) := by
      rw [eK7, ← e71]
      intro c hc
      rw [y1 (58 + 5 * c) 4 (by omega), n5 (58 + 5 * c) 4 (by omega)]
      exact LsO_c (fun i _ _ => ⟨by rw [y1 _ _ (by omega), n5 _ _ (by omega)], by rw [y1 _ _ (by omega), n5 _ _ (by omega)]⟩) (hL c hc)
    have hbK := dyV_b (s := x) hx WK hLK
    have y2' : ∀ i : Nat, i < 15 → K 143 i = wkD x (K 107) i := fun i hi => by rw [y2 i hi, eK7, e75]
    have s16' : 0 ≤ J5 24 12 ∧ J5 24 12 ≤ J 24 12 + 1 := by
      have := W5.2.1.1.2.2.1
      rw [k2 _ _ (by omega)] at e12
      omega
    refine K302l (J := K) (M := M1) (by omega) hx (by rw [eK7]; exact hr2) hbK (fun J3 M3 S j W3 f3 hS hW3 => ?_) (fun J3 M3 W3 f3 hW3 => ?_) 5 0 (by omega) K M1 0 j WK FrMp_r y2' (by omega) (fun u hu => hu)
    · rw [eK7] at hW3
      have eS := WkR_u dyV_u 5 0 0 S u hW3 hW
      subst eS
      rw [if_neg (by omega)] at han
      subst han
      rcases hu with ⟨hu, _⟩ | ⟨hu0, hu1, hu2, hu3, hu4⟩
      · omega
      refine ev_302_3 ?_
      refine Ev_t (by omega) (Ev_st ?_)
      refine K302c (J := w2 J3 105 67 1) (fun K4 v1 v2 => ?_)
      refine Ev_t (by omega) (Ev_bind (K194p hu0) ?_)
      rintro _ rfl
      dsimp only
      have n6 : ∀ a i, ¬ a = 142 → ¬ (a = 105 ∧ (i = 1 ∨ i = 32 ∨ i = 51 ∨ i = 67)) → w2 (w2 (w2 K4 105 1 0) 105 32 0) 105 51 0 a i = J3 a i := fun a i y w => by rw [w2_n (by omega), w2_n (by omega), w2_n (by omega), v1 a i y, w2_n (by omega)]
      have d1 : w2 (w2 (w2 K4 105 1 0) 105 32 0) 105 51 0 105 1 = 0 := by rw [w2_n (by omega), w2_n (by omega), w2_ap, if_pos ⟨rfl, rfl⟩]
      have d2 : w2 (w2 (w2 K4 105 1 0) 105 32 0) 105 51 0 105 32 = 0 := by rw [w2_n (by omega), w2_ap, if_pos ⟨rfl, rfl⟩]
      have d3 : w2 (w2 (w2 K4 105 1 0) 105 32 0) 105 51 0 105 51 = 0 := by rw [w2_ap, if_pos ⟨rfl, rfl⟩]
      have d4 : w2 (w2 (w2 K4 105 1 0) 105 32 0) 105 51 0 105 67 = 1 := by rw [w2_n (by omega), w2_n (by omega), w2_n (by omega), v1 _ _ (by omega), w2_ap, if_pos ⟨rfl, rfl⟩]
      have d5 : ∀ i : Int, 0 ≤ i → i < 15 → w2 (w2 (w2 K4 105 1 0) 105 32 0) 105 51 0 142 i = K 143 i := fun i a b => by
        rw [w2_n (by omega), w2_n (by omega), w2_n (by omega), v2 i a b, w2_n (by omega)]
        exact f3.1 _ _ (by omega) (by omega)
      generalize w2 (w2 (w2 K4 105 1 0) 105 32 0) 105 51 0 = J6 at n6 d1 d2 d3 d4 d5 ⊢
      have WK6 : PW tr TS z1 kd1 R1 J6 c4 c5 c6 c7 len1 sl1 := PW_z W3 (fun a i y w => n6 a i (fun q => y (by unfold XZ; omega)) (fun q => by unfold XZ at y; omega)) (Or.inr ⟨d2, d3⟩)
      have f6 : ∀ a i, ¬ (a = 105 ∧ (i = 1 ∨ i = 29 ∨ i = 32 ∨ (40 ≤ i ∧ i ≤ 54) ∨ i = 67)) → ¬ (120 ≤ a ∧ a ≤ 135) → ¬ (a = 142 ∨ a = 143) → J6 a i = J5 a i := fun a i q1 q2 q3 => by
        rw [n6 a i (by omega) (by omega), f3.1 a i (by omega) q2, y1 a i (by omega)]
      refine Ev_ret ⟨rfl, WK6, ⟨fun a i q1 q2 q3 q4 => f6 a i q1 q3 q4, f3.2⟩, ?_⟩
      show smO (t + 1) J6
      refine smO_wk hs' (fun a i y => by rw [f6 a i (by omega) (by omega) (by omega), jj a i (by omega) (by unfold XW; omega) (by omega) (by omega)]) (Or.inl d2) (Or.inl d3) (by rw [d1, f6 _ _ (by omega) (by omega) (by omega)]; exact hu1) (by rw [d4, f6 _ _ (by omega) (by omega) (by omega)]; exact hu2) (fun i a b => ?_) (fun j i y => Or.inl ⟨?_, ?_⟩) (by rw [f6 _ _ (by omega) (by omega) (by omega)]; exact s16')
      · rw [d5 i a b, f6 _ _ (by omega) (by omega) (by omega), hu3 i a b]
        obtain ⟨k, rfl⟩ : ∃ k : Nat, i = k := ⟨i.toNat, by omega⟩
        rw [y2' k (by omega), fr _ _ (by omega) (by unfold XP; omega) (by omega), h90 k (by omega), eK7]
      · rw [f6 _ _ (by omega) (by omega) (by omega), hu4, j0 _ _ (by omega)]
      · rw [f6 _ _ (by omega) (by omega) (by omega), jj _ _ (by omega) (by unfold XW; omega) (by omega) (by omega)]
    · rw [eK7] at hW3
      have eS := WkR_u dyV_u 5 0 0 _ u hW3 hW
      subst eS
      rw [if_pos rfl] at han
      subst han
      rcases hu with ⟨_, hu1, hu2, hu3, hu4, hu5⟩ | ⟨hu0, _⟩
      rotate_left
      · omega
      have f3' : ∀ a i, ¬ (a = 105 ∧ (i = 29 ∨ i = 32 ∨ (40 ≤ i ∧ i ≤ 54))) → ¬ (120 ≤ a ∧ a ≤ 135) → ¬ a = 143 → J3 a i = J5 a i := fun a i q1 q2 q3 => by rw [f3.1 a i q1 q2, y1 a i q3]
      have e106 : ∀ i, J3 106 i = J 106 i := fun i => by rw [f3' _ _ (by omega) (by omega) (by omega), jj _ _ (by omega) (by unfold XW; omega) (by omega) (by omega)]
      have z32 := W3.2.1.1.2.2.2.2
      have z51 := W3.2.2.2.2.2.2
      refine Ev_bind (K194n (j := 3) (by omega) (by rw [e106]; omega) z32 z51) ?_
      rintro _ rfl
      dsimp only
      have n6 : ∀ a i, ¬ (a = 105 ∧ i = 1) → ¬ (a = 106 ∧ i = 3) → w2 (w2 J3 105 1 (-3)) 106 3 (J3 106 3 + 1) a i = J3 a i := fun a i y w => by rw [w2_n w, w2_n y]
      have d1 : w2 (w2 J3 105 1 (-3)) 106 3 (J3 106 3 + 1) 105 1 = -3 := by rw [w2_n (by omega), w2_ap, if_pos ⟨rfl, rfl⟩]
      have d2 : w2 (w2 J3 105 1 (-3)) 106 3 (J3 106 3 + 1) 106 3 = J3 106 3 + 1 := by rw [w2_ap, if_pos ⟨rfl, rfl⟩]
      generalize w2 (w2 J3 105 1 (-3)) 106 3 (J3 106 3 + 1) = J6 at n6 d1 d2 ⊢
      have WK6 : PW tr TS z1 kd1 R1 J6 c4 c5 c6 c7 len1 sl1 := PW_z W3 (fun a i y w => n6 a i (fun q => y (by unfold XZ; omega)) (fun q => y (by unfold XZ; omega))) (Or.inl ⟨n6 _ _ (by omega) (by omega), n6 _ _ (by omega) (by omega)⟩)
      have f6 : ∀ a i, ¬ (a = 105 ∧ (i = 1 ∨ i = 29 ∨ i = 32 ∨ (40 ≤ i ∧ i ≤ 54) ∨ i = 67)) → ¬ (a = 106 ∧ i = 3) → ¬ (120 ≤ a ∧ a ≤ 135) → ¬ (a = 142 ∨ a = 143) → J6 a i = J5 a i := fun a i q1 q0 q2 q3 => by
        rw [n6 a i (by omega) (by omega), f3' a i (by omega) q2 (by omega)]
      refine Ev_ret ⟨rfl, WK6, ⟨fun a i q1 q2 q3 q4 => f6 a i q1 (by omega) q3 q4, f3.2⟩, ?_⟩
      show smO (t + 1) J6
      refine smO_wk hs' (fun a i y => by rw [f6 a i (by omega) (by omega) (by omega) (by omega), jj a i (by omega) (by unfold XW; omega) (by omega) (by omega)]) (by rw [n6 _ _ (by omega) (by omega)]; exact z32) (by rw [n6 _ _ (by omega) (by omega)]; exact z51) (by rw [d1, f6 _ _ (by omega) (by omega) (by omega) (by omega)]; exact hu1) (by rw [f6 0 _ (by omega) (by omega) (by omega) (by omega), hu2, n6 105 67 (by omega) (by omega), f3' _ _ (by omega) (by omega) (by omega), j0 _ _ (by omega), jj _ _ (by omega) (by unfold XW; omega) (by omega) (by omega)]; exact s13) (fun i a b => ?_) (fun j i y => ?_) (by rw [f6 _ _ (by omega) (by omega) (by omega) (by omega)]; exact s16')
      · rw [f6 91 _ (by omega) (by omega) (by omega) (by omega), hu3, n6 142 _ (by omega) (by omega), f3' 142 _ (by omega) (by omega) (by omega), fr _ _ (by omega) (by unfold XP; omega) (by omega), f2 _ _ (by unfold XW; omega) (by omega), jj _ _ (by omega) (by unfold XW; omega) (by omega) (by omega)]
        exact s15 i a b
      · by_cases q : j = 2
        · have : i = 3 := by omega
          subst q; subst this
          exact Or.inr ⟨by rw [f6 _ _ (by omega) (by omega) (by omega) (by omega), hu4, j0 _ _ (by omega)], by rw [d2, e106]⟩
        · exact Or.inl ⟨by rw [f6 _ _ (by omega) (by omega) (by omega) (by omega), hu5 _ q, j0 _ _ (by omega)], by rw [n6 _ _ (by omega) (by omega), e106]⟩
  refine K181l (M := M2) (Q := fun len1 sl1 => WkQ tr TS b4 b5 b6 b7 z kd J M2 R t (fun n e J M => kf_302 n dp e 0 J M x 0 0 0 0) len1 sl1) (by omega) hx hr2 (fun len1 sl1 len2 sl2 ck cm q p w => ?_) (fun z1 kd1 J3 M3 R1 c4 c5 c6 c7 len1 sl1 S W g hS hL hW => ?_) (fun z1 kd1 J3 M3 R1 c4 c5 c6 c7 len1 sl1 W g hL hW => ?_) 5 0 (by omega) z kd J2 M2 R b4 b5 b6 b7 len sl 0 W2 (FrGx_J (fun _ _ _ => rfl)) hL2 rfl h90 (by omega) (fun u hu => hu)
  · obtain ⟨z', kd', J', M', R', c4, c5, c6, c7, len', sl', y1, y2, y3⟩ := w
    exact ⟨z', kd', J', M', R', c4, c5, c6, c7, len', sl', y1, PotS_t p y2, y3⟩
  · have fr : ∀ a i, a < 144 → ¬ XP a i → ¬ (47 ≤ a ∧ a ≤ 50) → J3 a i = J2 a i := fun a i y w v => (g.2.1 a (by omega)).2.2.1 i w (by omega)
    refine ev_181_1 ?_
    refine Ev_t (by omega) (Ev_t (by omega) (Ev_st (Ev_st (Ev_t (by omega) (Ev_bind K19 ?_)))))
    rintro _ rfl
    dsimp only
    refine Ev_ret (md z1 kd1 J3 _ M3 R1 c4 c5 c6 c7 len1 sl1 S S (by rw [if_neg (by omega)]) W g hL hW (fun a i y => by rw [w2_n (by omega), w2_n (by omega), cp2_o (by omega)]) (Or.inr ⟨hS.1, by rw [w2_ap, if_pos ⟨rfl, rfl⟩], by rw [w2_n (by omega), w2_ap, if_pos ⟨rfl, rfl⟩], fun i a b => by rw [w2_n (by omega), w2_n (by omega), cp2_s ⟨a, b⟩], fun i => by rw [w2_n (by omega), w2_n (by omega), cp2_o (by omega)]⟩))
  · have fr : ∀ a i, a < 144 → ¬ XP a i → ¬ (47 ≤ a ∧ a ≤ 50) → J3 a i = J2 a i := fun a i y w v => (g.2.1 a (by omega)).2.2.1 i w (by omega)
    have e92 : J3 92 2 = J 92 2 := by rw [fr _ _ (by omega) (by unfold XP; omega) (by omega), f2 _ _ (by unfold XW; omega) (by omega)]
    refine Ev_bind (K15 (j := 2) (by omega) (by omega) (by rw [e92]; omega)) ?_
    rintro _ rfl
    dsimp only
    refine Ev_ret (md z1 kd1 J3 _ M3 R1 c4 c5 c6 c7 len1 sl1 (-1000000) (-3) (by rw [if_pos rfl]) W g hL hW (fun a i y => by rw [w2_n (by omega), w2_n (by omega)]) (Or.inl ⟨rfl, by rw [w2_n (by omega), w2_ap, if_pos ⟨rfl, rfl⟩], by rw [w2_n (by omega), w2_n (by omega)], fun i => by rw [w2_n (by omega), w2_n (by omega)], by rw [w2_ap, if_pos ⟨rfl, rfl⟩], fun i y => by rw [w2_n (by omega), w2_n (by omega)]⟩))
end WM
