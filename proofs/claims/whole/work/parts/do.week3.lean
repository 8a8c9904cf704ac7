section
set_option maxRecDepth 100000 in
theorem ev_181_1 {dp : Nat} {z : Nat} {kd : (Nat → Nat × Nat)} {I : JI} {L : JI} {R : (Nat → Nat → Option Nat)} {i1 : Int} {i2 : Int} {i3 : Int} {P_ : ((Int × PSi) × Nat × Nat) → Prop} (h : Ev (fun n => (if 5 ≤ i3 then (if ((¬ ((0 : Int) < 0)) ∧ ((¬ ((0 : Int) < 0)) ∧ ((¬ ((15 : Int) < 0)) ∧ (((0 + 15) ≤ 15) ∧ ((0 + 15) ≤ 15))))) ∧ (1 ≤ dp) then (stI (cp2 I 91 90 0 0 15) (fun I_113 => (stI (w2 I_113 0 17 1) (fun I_118 => (if 1 ≤ dp then ((kf_19 n (dp - 1) (z, kd, R) 0 I_118 L i2).bind (fun ⟨x_123, I_123, L_123⟩ => (some (((x_123 : Int), z, kd, I_123, L_123, R), 0, 0)))) else none))))) else none) else (if -2147483648 ≤ i3 * 3 ∧ i3 * 3 ≤ 2147483647 then (if 0 ≤ (i3 * 3) ∧ (i3 * 3) < 15 then (if -2147483648 ≤ (i3 * 3) + 1 ∧ (i3 * 3) + 1 ≤ 2147483647 then (if 0 ≤ ((i3 * 3) + 1) ∧ ((i3 * 3) + 1) < 15 then (if -2147483648 ≤ (i3 * 3) + 2 ∧ (i3 * 3) + 2 ≤ 2147483647 then (if 0 ≤ ((i3 * 3) + 2) ∧ ((i3 * 3) + 2) < 15 then (if 1 ≤ dp then ((kf_92 n (dp - 1) 0 z kd I L R (I 90 (i3 * 3)) (I 90 ((i3 * 3) + 1)) (I 90 ((i3 * 3) + 2)) 0).bind (fun ⟨⟨x_72, z_72, kd_72, I_72, L_72, R_72⟩, ck_72, cm_72⟩ => (adk ck_72 cm_72 (if x_72 = (-1) then (if 1 ≤ dp then ((kf_15 n (dp - 1) (z_72, kd_72, R_72) 0 I_72 L_72 (-3)).bind (fun ⟨x_86, I_86, L_86⟩ => (some (((x_86 : Int), z_72, kd_72, I_86, L_86, R_72), 0, 0)))) else none) else (if (-2147483648 ≤ i2 + x_72 ∧ i2 + x_72 ≤ 2147483647) ∧ (-2147483648 ≤ i3 + 1 ∧ i3 + 1 ≤ 2147483647) then (kf_181 n dp 1 z_72 kd_72 I_72 L_72 R_72 i1 (i2 + x_72) (i3 + 1)) else none))))) else none) else none) else none) else none) else none) else none) else none))) P_) : Ev (fun n => kf_181 n dp 1 z kd I L R i1 i2 i3) P_ := Ev_step (fun n => ke_181_1 n dp z kd I L R i1 i2 i3) h
set_option maxRecDepth 100000 in
theorem ev_302_3 {dp : Nat} {e : EN} {I : JI} {L : JI} {i1 : Int} {i4 : Int} {i5 : Int} {i6 : Int} {j2 : Int} {P_ : (Int × JI × JI) → Prop} (h : Ev (fun n => (if 5 ≤ i5 then (stI (w2 I 105 67 1) (fun I_171 => (kf_302 n dp e 4 I_171 L i1 i4 0 0 j2))) else (if -2147483648 ≤ 3 * i5 ∧ 3 * i5 ≤ 2147483647 then (if 0 ≤ (3 * i5) ∧ (3 * i5) < 15 then (if -2147483648 ≤ (3 * i5) + 1 ∧ (3 * i5) + 1 ≤ 2147483647 then (if 0 ≤ ((3 * i5) + 1) ∧ ((3 * i5) + 1) < 15 then (if -2147483648 ≤ (3 * i5) + 2 ∧ (3 * i5) + 2 ≤ 2147483647 then (if 0 ≤ ((3 * i5) + 2) ∧ ((3 * i5) + 2) < 15 then (if 1 ≤ dp then ((kf_262 n (dp - 1) e 0 I L (I 143 (3 * i5)) (I 143 ((3 * i5) + 1)) (I 143 ((3 * i5) + 2)) 0 0 0).bind (fun ⟨x0_141, I0_141, L0_141⟩ => (if x0_141 = 0 then (if 1 ≤ dp then ((kf_194 n (dp - 1) e 0 I0_141 L0_141 (-3)).bind (fun ⟨x1_150, I1_150, L1_150⟩ => (some ((x1_150 : Int), I1_150, L1_150)))) else none) else (if 1 ≤ dp then ((kf_263 n (dp - 1) e 0 I0_141 L0_141 0 0 0).bind (fun ⟨x1_157, I1_157, L1_157⟩ => (if (-2147483648 ≤ i4 + x1_157 ∧ i4 + x1_157 ≤ 2147483647) ∧ (-2147483648 ≤ i5 + 1 ∧ i5 + 1 ≤ 2147483647) then (kf_302 n dp e 3 I1_157 L1_157 i1 (i4 + x1_157) (i5 + 1) 0 j2) else none))) else none)))) else none) else none) else none) else none) else none) else none) else none))) P_) : Ev (fun n => kf_302 n dp e 3 I L i1 i4 i5 i6 j2) P_ := Ev_step (fun n => ke_302_3 n dp e I L i1 i4 i5 i6 j2) h
end
/-! WEEK: week() -/
theorem okO_0 {J : JI} {c : Nat} (hC : ctK J c) (hm : mkO J) (h64 : J (58 + 5 * c) 4 ≤ 64) : okO J (of0 J c) := by
  have c1 := hC.1.1
  refine ⟨by show 1 ≤ (J (58 + 5 * c) 4).toNat; omega, fun k hk => ?_, fun k hk => ?_⟩
  · have hk' : k < (J (58 + 5 * c) 4).toNat := hk
    have l := hC.2 h64 k (by omega)
    have b := ovK_b (J := J) (a0 := 58 + 5 * c) (k := k) l (fun p x y => (hm.1 p x y).2.2)
    refine ⟨?_, fun p => ?_⟩
    · show 0 ≤ 16 * ovK J (58 + 5 * c) k ∧ 16 * ovK J (58 + 5 * c) k ≤ 31968001
      omega
    · show 0 ≤ if 0 ≤ p ∧ p < 10 then _ else _
      split
      · rename_i q; exact (l p q.1 q.2).1
      · decide
  · have e : sm (fun p => (of0 J c).2.2 k p * J 4 (10 + p)) 10 = ovK J (58 + 5 * c) k := sm_congr 10 (fun p x y => by
      show (if 0 ≤ p ∧ p < 10 then _ else _) * _ = _
      rw [if_pos ⟨x, by omega⟩])
    rw [e]
    exact Int.le_refl _
theorem sm_pm {f : Int → Int} {A : Int} (hA : 0 ≤ A) : ∀ n : Nat, (∀ i : Int, 0 ≤ i → i < n → -A ≤ f i ∧ f i ≤ A) → -(A * n) ≤ sm f n ∧ sm f n ≤ A * n
  | 0, _ => by simp [sm]
  | n + 1, h => by
    have r := sm_pm hA n (fun k a hk => h k a (by omega))
    have b := h n (by omega) (by omega)
    rw [sm_s, show ((n + 1 : Nat) : Int) = n + 1 by omega, Int.mul_add, Int.mul_one]
    omega
section WL
variable {tr : Nat} {TS : Nat → Prop} {z : Nat} {kd : KD} {R : RF} {J M : JI} {b4 b5 b6 b7 len sl : Nat}
/-- five days of the class: from day d on -/
theorem K181l {dp : Nat} {s : Int} {Q : Nat → Nat → (Int × Nat × KD × JI × JI × RF) × Nat × Nat → Prop} (hd : 7 ≤ dp) (hs : 0 ≤ s ∧ s ≤ 1000000) (hr : rwO (J 107)) (hQ : ∀ len1 sl1 len2 sl2 ck cm q, PotS len1 sl1 len2 sl2 ck cm → Q len2 sl2 q → Q len1 sl1 (q.1, q.2.1 + ck, q.2.2 + cm)) (fin : ∀ (z1 : Nat) (kd1 : KD) (J1 M1 : JI) (R1 : RF) (c4 c5 c6 c7 len1 sl1 : Nat) (S : Int), PW tr TS z1 kd1 R1 J1 c4 c5 c6 c7 len1 sl1 → FrGx XP b4 b5 b6 b7 z kd J M R c4 c5 c6 c7 z1 kd1 J1 M1 R1 → (0 ≤ S ∧ S ≤ 81250000) → LsC J1 (cuS (J1 107)) → WkR (dyP (J 107) s) (dyV (J 107) s) 5 0 0 S → Ev (fun n => kf_181 n dp 1 z1 kd1 J1 M1 R1 s S 5) (Q len1 sl1)) (bad : ∀ (z1 : Nat) (kd1 : KD) (J1 M1 : JI) (R1 : RF) (c4 c5 c6 c7 len1 sl1 : Nat), PW tr TS z1 kd1 R1 J1 c4 c5 c6 c7 len1 sl1 → FrGx XP b4 b5 b6 b7 z kd J M R c4 c5 c6 c7 z1 kd1 J1 M1 R1 → LsC J1 (cuS (J1 107)) → WkR (dyP (J 107) s) (dyV (J 107) s) 5 0 0 (-1000000) → Ev (fun n => (kf_15 n (dp - 1) (z1, kd1, R1) 0 J1 M1 (-3)).bind (fun ⟨x, I, L⟩ => some ((x, z1, kd1, I, L, R1), 0, 0))) (Q len1 sl1)) : ∀ (k d : Nat), d + k = 5 → ∀ (z1 : Nat) (kd1 : KD) (J1 M1 : JI) (R1 : RF) (c4 c5 c6 c7 len1 sl1 : Nat) (S : Int), PW tr TS z1 kd1 R1 J1 c4 c5 c6 c7 len1 sl1 → FrGx XP b4 b5 b6 b7 z kd J M R c4 c5 c6 c7 z1 kd1 J1 M1 R1 → LsC J1 (cuS (J1 107)) → J1 107 = J 107 → (∀ i : Nat, i < 15 → J1 90 i = wkD s (J 107) i) → (0 ≤ S ∧ S ≤ 16250000 * (d : Int)) → (∀ u, WkR (dyP (J 107) s) (dyV (J 107) s) k d S u → WkR (dyP (J 107) s) (dyV (J 107) s) 5 0 0 u) → Ev (fun n => kf_181 n dp 1 z1 kd1 J1 M1 R1 s S d) (Q len1 sl1)
  | 0, d, e, z1, kd1, J1, M1, R1, c4, c5, c6, c7, len1, sl1, S, h, g, hL, e7, h90, hS, hW => by
    have : d = 5 := by omega
    subst this
    exact fin z1 kd1 J1 M1 R1 c4 c5 c6 c7 len1 sl1 S h g (by omega) hL (hW S rfl)
  | k + 1, d, e, z1, kd1, J1, M1, R1, c4, c5, c6, c7, len1, sl1, S, h, g, hL, e7, h90, hS, hW => by
    have hv := dy_v hs hr d
    have o7 := h.2.2.2.1.1.2.2.2.1
    have z144 := h.1.2.2.2.2.1
    refine ev_181_1 ?_
    refine Ev_f (by omega) (Ev_t (by omega) (Ev_t (by omega) (Ev_t (by omega) (Ev_t (by omega) (Ev_t (by omega) (Ev_t (by omega) (Ev_t (by omega) ?_)))))))
    rw [show (d : Int) * 3 = ((3 * d : Nat) : Int) by omega, show ((3 * d : Nat) : Int) + 1 = ((3 * d + 1 : Nat) : Int) by omega, show ((3 * d : Nat) : Int) + 2 = ((3 * d + 2 : Nat) : Int) by omega, h90 _ (by omega), h90 _ (by omega), h90 _ (by omega)]
    refine Ev_bind (R92 (by omega) h hL) ?_
    rintro ⟨⟨v, z2, kd2, J2, M2, R2⟩, ck, cm⟩ ⟨z', kd', J', M', R', d4, d5, d6, d7, len2, sl2, v1, v2, v3, v4, v5, v6, v7⟩
    dsimp only at v1 v6 v7 ⊢
    obtain ⟨rfl, rfl, rfl, rfl, rfl⟩ : z2 = z' ∧ kd2 = kd' ∧ J2 = J' ∧ M2 = M' ∧ R2 = R' := by simpa using v1
    have kn := PlK_N (a := wkD s (J 107) (3 * d)) (b := wkD s (J 107) (3 * d + 1)) (c := wkD s (J 107) (3 * d + 2)) v4
    have e72 : J2 107 = J 107 := v5.1.trans e7
    rw [e72] at kn
    have g2 := FrGx_t g v3
    rcases v6 with ⟨rfl, v6⟩ | ⟨y1, rfl, y3⟩
    · refine Ev_adk (Ev_t rfl (Ev_t (by omega) ?_))
      refine Ev_mono (bad z2 kd2 J2 M2 R2 d4 d5 d6 d7 len2 sl2 v2 g2 v4 (hW _ (Or.inl ⟨fun q => v6 ⟨hv, kn.2 q⟩, rfl⟩))) (fun q hq => hQ _ _ _ _ _ _ q v7 hq)
    · have b1 := y3.2.2.1
      have hp : dyP (J 107) s d := kn.1 y3.1
      have hV : dyV (J 107) s d (J2 51 (spt (wkD s (J 107) (3 * d)) (wkD s (J 107) (3 * d + 1)) (wkD s (J 107) (3 * d + 2)))) := by
        have q := MxH_B y3.2.1
        obtain ⟨w1, w2⟩ := PW_wn v2
        rw [Sq_e (lyC_G v4 (by rw [e72]; exact hp) y1.1 y1.2.1 y1.2.2.1 w1), vT_c w2] at q
        have q := MxB_16.1 q
        rw [e72] at q
        exact q
      refine Ev_adk (Ev_f (by omega) (Ev_t (by omega) ?_))
      rw [show (d : Int) + 1 = ((d + 1 : Nat) : Int) by omega]
      refine Ev_mono (K181l hd hs hr hQ fin bad k (d + 1) (by omega) z2 kd2 J2 M2 R2 d4 d5 d6 d7 len2 sl2 _ v2 g2 v4 e72 (fun i hi => ?_) (by omega) (fun u hu => hW u (Or.inr ⟨hp, _, hV, hu⟩))) (fun q hq => hQ _ _ _ _ _ _ q v7 hq)
      rw [(v3.2.1 90 (by omega)).2.2.1 _ (by unfold XP; omega) (by omega)]
      exact h90 i hi
theorem dyV_b {s : Int} (hs : 0 ≤ s ∧ s ≤ 1000000) (h : PW tr TS z kd R J b4 b5 b6 b7 len sl) (hL : LsC J (cuS (J 107))) : ∀ d v, dyP (J 107) s d → dyV (J 107) s d v → -100000 ≤ v ∧ v ≤ 17000000 := fun d v hp hV => by
  have hv := dy_v hs h.2.2.1.2.2 d
  have ct := PW_ct h hL
  have mk := PW_mk h
  obtain ⟨w1, w2⟩ := PW_wn h
  have q := MxB_16.2 hV
  rw [← Sq_e (lyC_G hL hp hv.1 hv.2.1 hv.2.2.1 w1), ← vT_c w2] at q
  have hK := (PlK_N hL).2 hp
  generalize wkD s (J 107) (3 * d) = a at *
  generalize wkD s (J 107) (3 * d + 1) = b at *
  generalize wkD s (J 107) (3 * d + 2) = c at *
  have hv0 := hv
  unfold vlP at hv0
  obtain ⟨_, x, hx, vx⟩ := q
  have bx := (okO_l (J := J) (o := fun i => of0 J (clR b c i)) (a + b + c).toNat (fun k hk => by
    have q := PlK_c hK (i := k) (by omega) hv0.1 hv0.2.1 hv0.2.2.1
    exact okO_0 (ct _ q.1) mk q.2)).1 x hx
  rw [lyL_n] at bx
  have vx : x.1 + 16 * sm (fun p => if 0 < wnC J p then min (wnC J p) (0 + x.2 p) * bnC J p else 0) 10 = 16 * v := vx
  have sb := sm_pm (f := fun p => if 0 < wnC J p then min (wnC J p) (0 + x.2 p) * bnC J p else 0) (A := 7992) (by decide) 10 (fun p y z => by
    have m := mk.1 p y (by omega)
    have nx := bx.2 p
    have hb : -999 ≤ bnC J p ∧ bnC J p ≤ 999 := by unfold bnC; omega
    split
    · have m1 := Int.mul_le_mul_of_nonneg_left hb.1 (show 0 ≤ min (wnC J p) (0 + x.2 p) by omega)
      have m2 := Int.mul_le_mul_of_nonneg_left hb.2 (show 0 ≤ min (wnC J p) (0 + x.2 p) by omega)
      omega
    · omega)
  omega
/-- five days of the reference -/
theorem K302l {dp : Nat} {s : Int} {Q : Int × JI × JI → Prop} (hd : 9 ≤ dp) (hs : 0 ≤ s ∧ s ≤ 1000000) (hr : rwO (J 107)) (hb : ∀ d v, dyP (J 107) s d → dyV (J 107) s d v → -100000 ≤ v ∧ v ≤ 17000000) (fin : ∀ (J1 M1 : JI) (S j : Int), PW tr TS z kd R J1 b4 b5 b6 b7 len sl → FrMp J J1 M M1 → (-500000 ≤ S ∧ S ≤ 85000000) → WkR (dyP (J 107) s) (dyV (J 107) s) 5 0 0 S → Ev (fun n => kf_302 n dp (z, kd, R) 3 J1 M1 s S 5 0 j) Q) (bad : ∀ (J1 M1 : JI), PW tr TS z kd R J1 b4 b5 b6 b7 len sl → FrMp J J1 M M1 → WkR (dyP (J 107) s) (dyV (J 107) s) 5 0 0 (-1000000) → Ev (fun n => (kf_194 n (dp - 1) (z, kd, R) 0 J1 M1 (-3)).bind (fun ⟨x, I, L⟩ => some (x, I, L))) Q) : ∀ (k d : Nat), d + k = 5 → ∀ (J1 M1 : JI) (S j : Int), PW tr TS z kd R J1 b4 b5 b6 b7 len sl → FrMp J J1 M M1 → (∀ i : Nat, i < 15 → J1 143 i = wkD s (J 107) i) → (-100000 * (d : Int) ≤ S ∧ S ≤ 17000000 * (d : Int)) → (∀ u, WkR (dyP (J 107) s) (dyV (J 107) s) k d S u → WkR (dyP (J 107) s) (dyV (J 107) s) 5 0 0 u) → Ev (fun n => kf_302 n dp (z, kd, R) 3 J1 M1 s S d 0 j) Q
  | 0, d, e, J1, M1, S, j, h, g, h143, hS, hW => by
    have : d = 5 := by omega
    subst this
    exact fin J1 M1 S j h g (by omega) (hW S rfl)
  | k + 1, d, e, J1, M1, S, j, h, g, h143, hS, hW => by
    have hv := dy_v hs hr d
    have e7 : J1 107 = J 107 := funext fun i => g.1 _ _ (by omega) (by omega)
    obtain ⟨v8, v5⟩ := rw_5 hr
    refine ev_302_3 ?_
    refine Ev_f (by omega) (Ev_t (by omega) (Ev_t (by omega) (Ev_t (by omega) (Ev_t (by omega) (Ev_t (by omega) (Ev_t (by omega) (Ev_t (by omega) ?_)))))))
    rw [show 3 * (d : Int) = ((3 * d : Nat) : Int) by omega, show ((3 * d : Nat) : Int) + 1 = ((3 * d + 1 : Nat) : Int) by omega, show ((3 * d : Nat) : Int) + 2 = ((3 * d + 2 : Nat) : Int) by omega, h143 _ (by omega), h143 _ (by omega), h143 _ (by omega)]
    refine Ev_bind (M262 (M := M1) (by omega) h hv) ?_
    rintro ⟨v, J2, M2⟩ ⟨r1, r2, r3, r4, r5⟩
    dsimp only at r1 r2 r3 r4 r5 ⊢
    rw [e7] at r4 r5
    have e72 : J2 107 = J 107 := (funext fun i => r2.1 _ _ (by omega) (by omega)).trans e7
    have hv' := hv
    unfold vlP at hv'
    rcases r5 with ⟨rfl, q⟩ | ⟨rfl, q, p1, p2, p3, p4⟩
    · exact Ev_t rfl (Ev_t (by omega) (bad J2 M2 r1 (FrMp_t g r2) (hW _ (Or.inl ⟨q, rfl⟩))))
    · refine Ev_f (by omega) (Ev_t (by omega) (Ev_bind (M263 (M := M2) (cl := fun i => clA (wkD s (J 107) (3 * d)) (wkD s (J 107) (3 * d + 1)) i) (dl := fun _ _ => 0) (wn := fun p => J 107 (60 + p)) (by omega) r1 p1 (by rw [e72]; exact r4) (fun p x y => ⟨p4 p x y, v8 p x y⟩) v5 (fun i hi => p3 i (by omega) (by omega)) (fun i k hi => by rw [p2, if_neg (by omega)])) ?_))
      rintro ⟨w, J3, M3⟩ ⟨s1, s2, s3, s4, s5⟩
      dsimp only at s1 s2 s3 s4 s5 ⊢
      rw [e72, p2] at s4
      have hV : dyV (J 107) s d w := MxH_B s4
      have wb := hb d w q hV
      refine Ev_t (by omega) ?_
      rw [show (d : Int) + 1 = ((d + 1 : Nat) : Int) by omega]
      have f3 := FrMp_t g (FrMp_t r2 s2)
      refine K302l hd hs hr hb fin bad k (d + 1) (by omega) J3 M3 (S + w) j s1 f3 (fun i hi => ?_) (by omega) (fun u hu => hW u (Or.inr ⟨q, w, hV, hu⟩))
      rw [s2.1 143 _ (by omega) (by omega), r2.1 143 _ (by omega) (by omega)]
      exact h143 i hi
end WL
