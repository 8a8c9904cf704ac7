section
set_option maxRecDepth 100000 in
theorem ev_131_0 {dp : Nat} {z : Nat} {kd : (Nat → Nat × Nat)} {I : JI} {L : JI} {R : (Nat → Nat → Option Nat)} {i1 : Int} {i2 : Int} {i3 : Int} {i4 : Int} {P_ : ((Int × PSi) × Nat × Nat) → Prop} (h : Ev (fun n => (if -2147483648 ≤ 20 + i1 ∧ 20 + i1 ≤ 2147483647 then (if 0 ≤ (20 + i1) ∧ (20 + i1) < 30 then (stI (I 4 (20 + i1)) (fun v_14 => (if 1 ≤ dp then ((kf_117 n (dp - 1) (z, kd, R) 0 I L).bind (fun ⟨x_16, I_16, L_16⟩ => (if 8 ≤ v_14 then (some ((((-1) : Int), z, kd, I_16, L_16, R), 0, 0)) else (if v_14 = 0 then (if 1 ≤ dp then ((kf_24 n (dp - 1) (z, kd, R) 0 I_16 L_16 0 0).bind (fun ⟨x_35, I_35, L_35⟩ => (if x_35 < 5 then (kf_131 n dp 1 z kd I_35 L_35 R i1 (20 + i1) v_14 x_16) else (some ((((-1) : Int), z, kd, I_35, L_35, R), 0, 0))))) else none) else (kf_131 n dp 1 z kd I_16 L_16 R i1 (20 + i1) v_14 x_16))))) else none))) else none) else none)) P_) : Ev (fun n => kf_131 n dp 0 z kd I L R i1 i2 i3 i4) P_ := Ev_step (fun n => ke_131_0 n dp z kd I L R i1 i2 i3 i4) h
set_option maxRecDepth 100000 in
theorem ev_131_1 {dp : Nat} {z : Nat} {kd : (Nat → Nat × Nat)} {I : JI} {L : JI} {R : (Nat → Nat → Option Nat)} {i1 : Int} {i2 : Int} {i3 : Int} {i4 : Int} {P_ : ((Int × PSi) × Nat × Nat) → Prop} (h : Ev (fun n => (if -2147483648 ≤ 0 + i1 ∧ 0 + i1 ≤ 2147483647 then (if 0 ≤ (0 + i1) ∧ (0 + i1) < 30 then (if -2147483648 ≤ 10 + i1 ∧ 10 + i1 ≤ 2147483647 then (if 0 ≤ (10 + i1) ∧ (10 + i1) < 30 then (if (I 4 (0 + i1)) = (I 4 (10 + i1)) then (some (((0 : Int), z, kd, I, L, R), 0, 0)) else (if 1 ≤ dp then ((kf_132 n (dp - 1) (z, kd, R) 0 I L i1 0 0 0 0).bind (fun ⟨x_73, I_73, L_73⟩ => (if i3 < x_73 then (if 0 ≤ i2 ∧ i2 < 30 then (if -2147483648 ≤ i3 + 1 ∧ i3 + 1 ≤ 2147483647 then (stI (w2 I_73 4 i2 (i3 + 1)) (fun I_92 => (stI (w2 I_92 24 14 1) (fun I_95 => (if 1 ≤ dp then ((kf_95 n (dp - 1) 0 z kd I_95 L_73 R).bind (fun ⟨⟨z_99, kd_99, I_99, L_99, R_99⟩, ck_99, cm_99⟩ => (adk ck_99 cm_99 (if 1 ≤ dp then ((kf_104 n (dp - 1) 0 z_99 kd_99 I_99 L_99 R_99 (I_99 2 0) (I_99 2 1) (I_99 2 2)).bind (fun ⟨⟨z_130, kd_130, I_130, L_130, R_130⟩, ck_130, cm_130⟩ => (adk ck_130 cm_130 (if 0 ≤ i2 ∧ i2 < 30 then (stI (w2 I_130 4 i2 i3) (fun I_142 => (stI (w2 I_142 24 14 1) (fun I_145 => (if (-2147483647 ≤ (I_145 44 8)) ∧ (-2147483648 ≤ (Int.tdiv (I_145 44 8) 16) - i4 ∧ (Int.tdiv (I_145 44 8) 16) - i4 ≤ 2147483647) then (some (((((Int.tdiv (I_145 44 8) 16) - i4) : Int), z_130, kd_130, I_145, L_130, R_130), 0, 0)) else none))))) else none)))) else none)))) else none))))) else none) else none) else (some (((0 : Int), z, kd, I_73, L_73, R), 0, 0))))) else none)) else none) else none) else none) else none)) P_) : Ev (fun n => kf_131 n dp 1 z kd I L R i1 i2 i3 i4) P_ := Ev_step (fun n => ke_131_1 n dp z kd I L R i1 i2 i3 i4) h
end
/-! PLANS: worth, of both -/
theorem vT_m {wn bn wn' bn' T : Int → Int} {t : Int} {x : SX} (h : ∀ p : Int, 0 ≤ p → p < 10 → (if 0 < wn' p then min (wn' p) (T p + x.2 p) * bn' p else 0) = (if 0 < wn p then min (wn p) (T p + x.2 p) * bn p else 0)) : vT wn' bn' t T x = vT wn bn t T x := by
  unfold vT
  rw [sm_congr 10 (fun p y z => h p y (by omega))]
/-- one more of part p wanted -/
def wnP (wn : Int → Int) (p : Int) (q : Int) : Int := if q = p then wn p + 1 else wn q
theorem Sq_nn {J : JI} {a b c p : Int} (ct : ∀ c : Nat, c < 3 → ctK J c) (hv : vlP a b c) (hP : PlK J a b c) : ∀ x ∈ Sq (lyC J a b c), 0 ≤ x.2 p := by
  unfold vlP at hv
  have key : ∀ n : Nat, (n : Int) ≤ a + b + c → ∀ x ∈ Sq (lyL (fun i => of0 J (clR b c i)) n), 0 ≤ x.2 p := by
    intro n
    induction n with
    | zero =>
      intro _ x hx
      have hx : x = (0, fun _ => 0) := by simpa [lyL, Sq] using hx
      subst hx
      exact Int.le_refl _
    | succ n ih =>
      intro hn x hx
      obtain ⟨y, hy, rfl⟩ := List.mem_map.1 (show x ∈ (pr (of0 J (clR b c n)).1 (Sq (lyL (fun i => of0 J (clR b c i)) n))).map (adX (of0 J (clR b c n))) from hx)
      obtain ⟨y1, y2⟩ := pr_i.1 hy
      have r := ih (by omega) y.2 y2
      obtain ⟨k1, k2⟩ := PlK_c hP (i := n) (by omega) hv.1 hv.2.1 hv.2.2.1
      have y1' : y.1 < (J (58 + 5 * clR b c n) 4).toNat := y1
      show 0 ≤ lfC J (clR b c n) y.1 p + y.2.2 p
      unfold lfC
      split
      · rename_i q
        have := (ct _ k1).2 k2 y.1 (by omega) p q.1 q.2
        omega
      · omega
  intro x hx
  exact key (a + b + c).toNat (by omega) x hx
section WO
variable {tr : Nat} {TS : Nat → Prop} {z : Nat} {kd : KD} {R : RF} {J M : JI} {b4 b5 b6 b7 len sl : Nat}
set_option maxHeartbeats 2000000 in
theorem R131 {dp : Nat} {p : Int} (hd : 7 ≤ dp) (h : PW tr TS z kd R J b4 b5 b6 b7 len sl) (hL : LsC J (cuS (J 107))) (h53 : J 53 (spt (J 2 0) (J 2 1) (J 2 2)) = J 24 12) (hp : 0 ≤ p ∧ p ≤ 9) : Ev (fun n => kf_131 n dp 0 z kd J M R p 0 0 0) (fun q => ∃ (z' : Nat) (kd' : KD) (J' M' : JI) (R' : RF) (c4 c5 c6 c7 len' sl' : Nat), q.1.2 = (z', kd', J', M', R') ∧ PW tr TS z' kd' R' J' c4 c5 c6 c7 len' sl' ∧ FrGx XP b4 b5 b6 b7 z kd J M R c4 c5 c6 c7 z' kd' J' M' R' ∧ LsC J' (cuS (J' 107)) ∧ (J' 53 (spt (J' 2 0) (J' 2 1) (J' 2 2)) = J' 24 12) ∧ (J' 107 = J 107 ∧ (∀ i, J' 2 i = J 2 i) ∧ J' 24 12 = J 24 12) ∧ ((q.1.1 = -1 ∧ (J 4 (20 + p) = 8 ∨ (J 4 (20 + p) = 0 ∧ sm (odC J) 10 = 5))) ∨ (¬ (J 4 (20 + p) = 8 ∨ (J 4 (20 + p) = 0 ∧ sm (odC J) 10 = 5)) ∧ ∃ w : Int, q.1.1 = w - J' 51 (spt (J' 2 0) (J' 2 1) (J' 2 2)) ∧ (0 ≤ w ∧ w ≤ 100000000) ∧ MxB (Sq (lyC J' (J' 2 0) (J' 2 1) (J' 2 2))) (vT (wnP (wnC J') p) (bnC J') 16 (fun _ => 0)) (16 * w))) ∧ PotS len sl len' sl' q.2.1 q.2.2) := by
  have hv := PW_v h
  have hv0 := hv
  unfold vlP at hv0
  have mk := PW_mk h
  have ct := PW_ct h hL
  have mp := mk.1 p hp.1 (by omega)
  have hB := h.2.2.2.1.2.2.2.2.2 _ _ _ hv h53
  have z144 := h.1.2.2.2.2.1
  have wp : wnC J p = J 4 (20 + p) := rfl
  have cnt : sm (odC J) 10 = sm (fun q => if 0 < wnC J q then 1 else 0) 10 := sm_congr 10 (fun q x y => by
    unfold odC wnC
    by_cases c : J 4 (20 + q) ≤ 0
    · rw [if_pos c, if_neg (by omega)]
    · rw [if_neg c, if_pos (by omega)])
  have c5 : sm (odC J) 10 ≤ 5 := by rw [cnt]; exact mk.2
  have stay : ∀ v : Int, ((v = -1 ∧ (J 4 (20 + p) = 8 ∨ (J 4 (20 + p) = 0 ∧ sm (odC J) 10 = 5))) ∨ (¬ (J 4 (20 + p) = 8 ∨ (J 4 (20 + p) = 0 ∧ sm (odC J) 10 = 5)) ∧ ∃ w : Int, v = w - J 51 (spt (J 2 0) (J 2 1) (J 2 2)) ∧ (0 ≤ w ∧ w ≤ 100000000) ∧ MxB (Sq (lyC J (J 2 0) (J 2 1) (J 2 2))) (vT (wnP (wnC J) p) (bnC J) 16 (fun _ => 0)) (16 * w))) → (fun q : (Int × Nat × KD × JI × JI × RF) × Nat × Nat => ∃ (z' : Nat) (kd' : KD) (J' M' : JI) (R' : RF) (c4 c5 c6 c7 len' sl' : Nat), q.1.2 = (z', kd', J', M', R') ∧ PW tr TS z' kd' R' J' c4 c5 c6 c7 len' sl' ∧ FrGx XP b4 b5 b6 b7 z kd J M R c4 c5 c6 c7 z' kd' J' M' R' ∧ LsC J' (cuS (J' 107)) ∧ (J' 53 (spt (J' 2 0) (J' 2 1) (J' 2 2)) = J' 24 12) ∧ (J' 107 = J 107 ∧ (∀ i, J' 2 i = J 2 i) ∧ J' 24 12 = J 24 12) ∧ ((q.1.1 = -1 ∧ (J 4 (20 + p) = 8 ∨ (J 4 (20 + p) = 0 ∧ sm (odC J) 10 = 5))) ∨ (¬ (J 4 (20 + p) = 8 ∨ (J 4 (20 + p) = 0 ∧ sm (odC J) 10 = 5)) ∧ ∃ w : Int, q.1.1 = w - J' 51 (spt (J' 2 0) (J' 2 1) (J' 2 2)) ∧ (0 ≤ w ∧ w ≤ 100000000) ∧ MxB (Sq (lyC J' (J' 2 0) (J' 2 1) (J' 2 2))) (vT (wnP (wnC J') p) (bnC J') 16 (fun _ => 0)) (16 * w))) ∧ PotS len sl len' sl' q.2.1 q.2.2) ((v, z, kd, J, M, R), 0, 0) := fun v hv' => ⟨z, kd, J, M, R, b4, b5, b6, b7, len, sl, rfl, h, FrGx_J (fun _ _ _ => rfl), hL, h53, ⟨rfl, fun _ => rfl, rfl⟩, hv', PotS_r⟩
  have zero : ¬ (J 4 (20 + p) = 8 ∨ (J 4 (20 + p) = 0 ∧ sm (odC J) 10 = 5)) → (∀ x ∈ Sq (lyC J (J 2 0) (J 2 1) (J 2 2)), vT (wnP (wnC J) p) (bnC J) 16 (fun _ => 0) x = vT (wnC J) (bnC J) 16 (fun _ => 0) x) → ((0 : Int) = -1 ∧ (J 4 (20 + p) = 8 ∨ (J 4 (20 + p) = 0 ∧ sm (odC J) 10 = 5))) ∨ (¬ (J 4 (20 + p) = 8 ∨ (J 4 (20 + p) = 0 ∧ sm (odC J) 10 = 5)) ∧ ∃ w : Int, 0 = w - J 51 (spt (J 2 0) (J 2 1) (J 2 2)) ∧ (0 ≤ w ∧ w ≤ 100000000) ∧ MxB (Sq (lyC J (J 2 0) (J 2 1) (J 2 2))) (vT (wnP (wnC J) p) (bnC J) 16 (fun _ => 0)) (16 * w)) := fun hn he => Or.inr ⟨hn, J 51 (spt (J 2 0) (J 2 1) (J 2 2)), by omega, by have := hB.2.2.1; omega, MxB_c he (MxH_B hB.2.1)⟩
  refine ev_131_0 ?_
  refine Ev_t (by omega) (Ev_t (by omega) (Ev_st (Ev_t (by omega) (Ev_bind (K117 (by omega) hv) ?_))))
  rintro _ rfl
  dsimp only
  by_cases c8 : 8 ≤ J 4 (20 + p)
  · refine Ev_t c8 (Ev_ret (stay (-1) (Or.inl ⟨rfl, Or.inl ?_⟩)))
    rw [wp] at mp
    omega
  refine Ev_f c8 ?_
  have one : ¬ (J 4 (20 + p) = 8 ∨ (J 4 (20 + p) = 0 ∧ sm (odC J) 10 = 5)) → Ev (fun n => kf_131 n dp 1 z kd J M R p (20 + p) (J 4 (20 + p)) (J 51 (spt (J 2 0) (J 2 1) (J 2 2)))) (fun q : (Int × Nat × KD × JI × JI × RF) × Nat × Nat => ∃ (z' : Nat) (kd' : KD) (J' M' : JI) (R' : RF) (c4 c5 c6 c7 len' sl' : Nat), q.1.2 = (z', kd', J', M', R') ∧ PW tr TS z' kd' R' J' c4 c5 c6 c7 len' sl' ∧ FrGx XP b4 b5 b6 b7 z kd J M R c4 c5 c6 c7 z' kd' J' M' R' ∧ LsC J' (cuS (J' 107)) ∧ (J' 53 (spt (J' 2 0) (J' 2 1) (J' 2 2)) = J' 24 12) ∧ (J' 107 = J 107 ∧ (∀ i, J' 2 i = J 2 i) ∧ J' 24 12 = J 24 12) ∧ ((q.1.1 = -1 ∧ (J 4 (20 + p) = 8 ∨ (J 4 (20 + p) = 0 ∧ sm (odC J) 10 = 5))) ∨ (¬ (J 4 (20 + p) = 8 ∨ (J 4 (20 + p) = 0 ∧ sm (odC J) 10 = 5)) ∧ ∃ w : Int, q.1.1 = w - J' 51 (spt (J' 2 0) (J' 2 1) (J' 2 2)) ∧ (0 ≤ w ∧ w ≤ 100000000) ∧ MxB (Sq (lyC J' (J' 2 0) (J' 2 1) (J' 2 2))) (vT (wnP (wnC J') p) (bnC J') 16 (fun _ => 0)) (16 * w))) ∧ PotS len sl len' sl' q.2.1 q.2.2) := by
    intro hn
    refine ev_131_1 ?_
    simp only [Int.zero_add]
    refine Ev_t (by omega) (Ev_t (by omega) (Ev_t (by omega) (Ev_t (by omega) ?_)))
    by_cases cb : J 4 p = J 4 (10 + p)
    · refine Ev_t cb (Ev_ret (stay 0 (zero hn (fun x hx => vT_m (fun q x1 x2 => ?_)))))
      unfold wnP
      by_cases e : q = p
      · subst e
        have : bnC J q = 0 := by unfold bnC; omega
        rw [if_pos rfl, this]
        split <;> split <;> omega
      · rw [if_neg e]
    · refine Ev_f cb (Ev_t (by omega) (Ev_bind (K132 (by omega) h.1.2.2.1.2 hv (lfB_l hL (fun c _ => cuS_b h.2.1.1.1 h.2.1.1.2.1.2.2.2.2 _)) (by omega)) ?_))
      rintro ⟨v, J1, M1⟩ ⟨r1, r2, r3, r4⟩
      dsimp only at r1 r2 r3 r4 ⊢
      obtain ⟨rfl, rfl⟩ : J1 = J ∧ M1 = M := by simpa using r1
      by_cases cm : J1 4 (20 + p) < v
      · refine Ev_t cm (Ev_t (by omega) (Ev_t (by omega) (Ev_st (Ev_st (Ev_t (by omega) ?_)))))
        have o7 := h.2.2.2.1.1.2.2.2.1
        have n5 : ∀ a i, ¬ (a = 4 ∧ i = 20 + p) → ¬ (a = 24 ∧ i = 14) → w2 (w2 J1 4 (20 + p) (J1 4 (20 + p) + 1)) 24 14 1 a i = J1 a i := fun a i x y => by rw [w2_n y, w2_n x]
        have v5 : w2 (w2 J1 4 (20 + p) (J1 4 (20 + p) + 1)) 24 14 1 4 (20 + p) = J1 4 (20 + p) + 1 := by rw [w2_n (by omega), w2_ap, if_pos ⟨rfl, rfl⟩]
        have v14 : w2 (w2 J1 4 (20 + p) (J1 4 (20 + p) + 1)) 24 14 1 24 14 = 1 := by rw [w2_ap, if_pos ⟨rfl, rfl⟩]
        generalize w2 (w2 J1 4 (20 + p) (J1 4 (20 + p) + 1)) 24 14 1 = J5 at n5 v5 v14 ⊢
        have w5 : ∀ q : Int, 0 ≤ q → q < 10 → wnC J5 q = wnP (wnC J1) p q ∧ bnC J5 q = bnC J1 q := fun q x y => by
          unfold wnP wnC bnC
          refine ⟨?_, by rw [n5 _ _ (by omega) (by omega), n5 _ _ (by omega) (by omega)]⟩
          by_cases e : q = p
          · subst e; rw [if_pos rfl]; exact v5
          · rw [if_neg e]; exact n5 _ _ (by omega) (by omega)
        have mk5 : mkO J5 := by
          refine ⟨fun q x y => ?_, ?_⟩
          · have b := mk.1 q x y
            refine ⟨?_, by rw [n5 _ _ (by omega) (by omega)]; exact b.2.1, by rw [n5 _ _ (by omega) (by omega)]; exact b.2.2⟩
            rw [(w5 q x y).1]
            unfold wnP
            by_cases e : q = p
            · rw [if_pos e]; omega
            · rw [if_neg e]; exact b.1
          · rw [sm_up (g := fun q => if 0 < wnC J1 q then 1 else 0) (p := p) (by omega) 10 (fun i x y e => ?_), if_pos (by omega), ← cnt]
            · rw [(w5 p (by omega) (by omega)).1]
              unfold wnP
              rw [if_pos rfl]
              by_cases q0 : J1 4 (20 + p) = 0
              · split <;> split <;> omega
              · rw [if_pos (by omega), if_pos (by omega)]; omega
            · rw [(w5 i (by omega) (by omega)).1]
              unfold wnP
              rw [if_neg e]
        have ct5 : ∀ c : Nat, c < 3 → ctK J5 c := fun c hc => by
          have := ct c hc
          unfold ctK at *
          rw [show J5 (58 + 5 * c) = J1 (58 + 5 * c) from funext fun i => n5 _ _ (by omega) (by omega), show J5 (58 + 5 * c + 2) = J1 (58 + 5 * c + 2) from funext fun i => n5 _ _ (by omega) (by omega)]
          exact this
        obtain ⟨i1, i2, i3, i4, i5, i6⟩ := h.2.2.2.1
        refine Ev_bind (K95 (M := M1) (by omega) z144 h.1.2.2.1 i1 mk5 ct5 (fun q => by omega) (fun q x y => by rw [n5 _ _ (by omega) (by omega)]; exact i2 q x y)) ?_
        rintro ⟨⟨z1, kd1, J2, M2, R1⟩, ck, cm'⟩ ⟨z', kd', J', M', R', c7, sl1, rn, od, x1, x2, x3, x4, x5, x6, x7, x8⟩
        dsimp only at x1 x8 ⊢
        obtain ⟨rfl, rfl, rfl, rfl, rfl⟩ : z1 = z' ∧ kd1 = kd' ∧ J2 = J' ∧ M2 = M' ∧ R1 = R' := by simpa using x1
        have fr : ∀ x i, (1 ≤ x ∧ x < 24) ∨ (x = 24 ∧ ¬ i = 14) ∨ (51 ≤ x ∧ x ≤ 72) ∨ (105 ≤ x ∧ x < 144) → J2 x i = J5 x i := fun x i y => (x3.2.1 x (by omega)).2.2.1 i (by unfold XL X0; omega) (by omega)
        have zz := x3.1
        rw [fr 2 0 (by omega), fr 2 1 (by omega), fr 2 2 (by omega), n5 2 0 (by omega) (by omega), n5 2 1 (by omega) (by omega), n5 2 2 (by omega) (by omega)]
        have hP2 : PlK J2 (J1 2 0) (J1 2 1) (J1 2 2) := by
          have := hB.1
          unfold PlK at *
          rw [fr 58 _ (by omega), fr 63 _ (by omega), fr 68 _ (by omega), n5 58 _ (by omega) (by omega), n5 63 _ (by omega) (by omega), n5 68 _ (by omega) (by omega)]
          exact this
        refine Ev_adk (Ev_t (by omega) (Ev_bind (K104 (by omega) (by omega) x2 x4 x5 x6 hv0.1 hv0.2.1 hv0.2.2.1 hv0.2.2.2 hP2) ?_))
        rintro ⟨⟨z2, kd2, J3, M3, R2⟩, ck2, cm2⟩ ⟨z', kd', J', M', R', f4, f5, f6, len', y1, y2, y3, y4, y5, y6, y7, y8, y9⟩
        dsimp only at y1 y9 ⊢
        obtain ⟨rfl, rfl, rfl, rfl, rfl⟩ : z2 = z' ∧ kd2 = kd' ∧ J3 = J' ∧ M3 = M' ∧ R2 = R' := by simpa using y1
        have o71 := x2.2.2.2.1
        have o72 := y2.2.2.2.1
        have fr2 : ∀ x i, (1 ≤ x ∧ x < 44) ∨ (51 ≤ x ∧ x ≤ 72 ∧ ¬ x = 54) ∨ (105 ≤ x ∧ x < 144) → J3 x i = J2 x i := fun x i y => (y3.2.1 x (by omega)).2.2.1 i (by unfold XS X0; omega) (by omega)
        have hdv : ∃ y : Int, J3 44 8 = 16 * y ∧ Int.tdiv (J3 44 8) 16 = y := by
          obtain ⟨x, hx, _, vx⟩ := y6.2.1
          obtain ⟨y, hy⟩ := Sq_16 _ x hx
          have vx : x.1 + 16 * sm (fun p => if 0 < wnC J2 p then min (wnC J2 p) (0 + x.2 p) * bnC J2 p else 0) 10 = J3 44 8 := vx
          refine ⟨y + sm (fun p => if 0 < wnC J2 p then min (wnC J2 p) (0 + x.2 p) * bnC J2 p else 0) 10, by omega, ?_⟩
          rw [show J3 44 8 = 16 * (y + sm (fun p => if 0 < wnC J2 p then min (wnC J2 p) (0 + x.2 p) * bnC J2 p else 0) 10) by omega]
          exact Int.mul_tdiv_cancel_left _ (by decide)
        obtain ⟨y, hy1, hy2⟩ := hdv
        refine Ev_adk (Ev_t (by omega) (Ev_st (Ev_st ?_)))
        have n6 : ∀ a i, ¬ (a = 4 ∧ i = 20 + p) → ¬ (a = 24 ∧ i = 14) → w2 (w2 J3 4 (20 + p) (J1 4 (20 + p))) 24 14 1 a i = J3 a i := fun a i x y => by rw [w2_n y, w2_n x]
        have v6 : w2 (w2 J3 4 (20 + p) (J1 4 (20 + p))) 24 14 1 4 (20 + p) = J1 4 (20 + p) := by rw [w2_n (by omega), w2_ap, if_pos ⟨rfl, rfl⟩]
        have v614 : w2 (w2 J3 4 (20 + p) (J1 4 (20 + p))) 24 14 1 24 14 = 1 := by rw [w2_ap, if_pos ⟨rfl, rfl⟩]
        generalize w2 (w2 J3 4 (20 + p) (J1 4 (20 + p))) 24 14 1 = J6 at n6 v6 v614 ⊢
        have b51 := hB.2.2.1
        simp only [n6 44 8 (by omega) (by omega), hy2]
        have e4 : J6 4 = J1 4 := funext fun i => by
          by_cases e : i = 20 + p
          · subst e; exact v6
          · rw [n6 _ _ (by omega) (by omega), fr2 _ _ (by omega), fr _ _ (by omega), n5 _ _ (by omega) (by omega)]
        have g6 : ∀ x i, ((1 ≤ x ∧ x < 24) ∨ (x = 24 ∧ ¬ i = 14) ∨ (51 ≤ x ∧ x ≤ 72 ∧ ¬ x = 54) ∨ (105 ≤ x ∧ x < 144)) → J6 x i = J1 x i := fun x i y => by
          by_cases e : x = 4
          · subst e; rw [e4]
          · rw [n6 _ _ (by omega) (by omega), fr2 _ _ (by omega), fr _ _ (by omega), n5 _ _ (by omega) (by omega)]
        have e2 : J6 2 = J1 2 := funext fun i => g6 _ _ (by omega)
        have ew : wnC J6 = wnC J1 := by unfold wnC; rw [e4]
        have eb : bnC J6 = bnC J1 := by unfold bnC; rw [e4]
        have e7 : J6 107 = J1 107 := funext fun i => g6 _ _ (by omega)
        have hI6 : PlI z2 kd2 R2 J6 f4 f5 f6 c7 len' sl1 := by
          refine ⟨y2, fun q x y => by rw [n6 _ _ (by omega) (by omega)]; exact y5 q x y, Or.inr v614, fun q => by omega, fun s x y => by rw [g6 53 _ (by omega), g6 24 12 (by omega)]; exact i5 s x y, fun a b c hv e => ?_⟩
          rw [g6 53 _ (by omega), g6 24 12 (by omega)] at e
          exact BsO_c (fun i => by rw [e4]) (fun x i y w => g6 x i (by omega)) (g6 _ _ (by omega)) (g6 _ _ (by omega)) (i6 a b c hv e)
        have fg : FrGx XP b4 b5 b6 b7 z kd J1 M1 R f4 f5 f6 c7 z2 kd2 J6 M3 R2 := by
          have g1 := FrGx_t (FrGx_J (X := fun a i => XP a i ∨ (a = 4 ∧ i = 20 + p)) (b4 := b4) (b5 := b5) (b6 := b6) (b7 := b7) (z := z) (kd := kd) (M := M1) (R := R) (J := J1) (J1 := J5) (fun a i x => n5 a i (fun q => x (Or.inr q)) (fun q => x (Or.inl (Or.inl ⟨q.1, Or.inl q.2⟩))))) (FrGx_t (FrGx_m (fun a i q => Or.inl (by unfold XL X0 at q; unfold XP; omega)) x3) (FrGx_t (FrGx_m (fun a i q => Or.inl (by unfold XS X0 at q; unfold XP; omega)) y3) (FrGx_J (J1 := J6) (fun a i x => n6 a i (fun q => x (Or.inr q)) (fun q => x (Or.inl (Or.inl ⟨q.1, Or.inl q.2⟩)))))))
          refine ⟨g1.1, fun a ha => ⟨(g1.2.1 a ha).1, (g1.2.1 a ha).2.1, fun i x w => ?_, (g1.2.1 a ha).2.2.2⟩, g1.2.2⟩
          by_cases q : a = 4 ∧ i = 20 + p
          · obtain ⟨rfl, rfl⟩ := q; exact v6
          · exact (g1.2.1 a ha).2.2.1 i (fun y => y.elim x q) w
        have hF6 : FiK J6 := FiK_c (g6 _ _ (by omega)) e4 e2 (fun x i y w => g6 x i (by omega)) h.2.2.2.2.1
        refine Ev_t (by omega) (Ev_ret ⟨z2, kd2, J6, M3, R2, f4, f5, f6, c7, len', sl1, rfl, PW_x h fg hI6 hF6, fg, fun c hc => ?_, ?_, ⟨e7, fun i => by rw [e2], g6 _ _ (by omega)⟩, Or.inr ⟨hn, y, ?_, by omega, ?_⟩, ?_⟩)
        · rw [e7, g6 _ _ (by omega)]
          exact LsO_c (fun i _ _ => ⟨g6 _ _ (by omega), g6 _ _ (by omega)⟩) (hL c hc)
        · rw [e2, g6 53 _ (by omega), g6 24 12 (by omega)]; exact h53
        · rw [e2, g6 51 _ (by omega)]
        · have q := MxH_B y6
          rw [e2, ew, eb, ← hy1, lyC_c (J := J1) (fun i => by rw [e4]) (fun x i y w => g6 x i (by omega))]
          have el : lyC J2 (J1 2 0) (J1 2 1) (J1 2 2) = lyC J1 (J1 2 0) (J1 2 1) (J1 2 2) := by
            refine lyL_c _ (fun k _ => ?_)
            have c3 := clR_3 (b := J1 2 1) (c := J1 2 2) (i := k)
            have f1 : ∀ x i, 58 ≤ x → x ≤ 72 → J2 x i = J1 x i := fun x i y w => by rw [fr _ _ (by omega), n5 _ _ (by omega) (by omega)]
            unfold of0 lfC
            rw [f1 _ _ (by omega) (by omega), show J2 (58 + 5 * clR (J1 2 1) (J1 2 2) k + 2) = J1 (58 + 5 * clR (J1 2 1) (J1 2 2) k + 2) from funext fun i => f1 _ _ (by omega) (by omega)]
            congr 2
            funext j
            congr 1
            exact sm_congr 10 (fun q x y => by rw [f1 _ _ (by omega) (by omega), fr 4 _ (by omega), n5 4 _ (by omega) (by omega)])
          rw [← el]
          refine MxB_c (fun x hx => ?_) q
          rw [← vT_c (wn' := wnC J2) (bn' := bnC J2) (fun q x y => ?_)]
          have e42 : J2 4 = J5 4 := funext fun i => fr _ _ (by omega)
          rw [show wnC J2 q = wnC J5 q by unfold wnC; rw [e42], show bnC J2 q = bnC J5 q by unfold bnC; rw [e42]]
          exact w5 q x y
        · rw [Nat.zero_add, Nat.zero_add]; exact PotS_t x8 y9
      · refine Ev_f cm (Ev_ret (stay 0 (zero hn (fun x hx => vT_m (fun q x1 x2 => ?_)))))
        have mb := mo_b (p := p) r2 hv hB.1 (by omega) x hx
        have nn := Sq_nn (p := p) ct hv hB.1 x hx
        unfold wnP
        by_cases e : q = p
        · subst e
          rw [if_pos rfl, wp]
          rw [wp] at mp
          rw [if_pos (by omega)]
          by_cases w0 : 0 < J1 4 (20 + q)
          · rw [if_pos w0]
            congr 1
            omega
          · rw [if_neg w0, show min (J1 4 (20 + q) + 1) (0 + x.2 q) = 0 by omega, Int.zero_mul]
        · rw [if_neg e]
  by_cases c0 : J 4 (20 + p) = 0
  · refine Ev_t c0 (Ev_t (by omega) (Ev_bind K24 ?_))
    rintro _ rfl
    dsimp only
    by_cases c5' : sm (odC J) 10 < 5
    · exact Ev_t c5' (one (by omega))
    · exact Ev_f c5' (Ev_ret (stay (-1) (Or.inl ⟨rfl, Or.inr ⟨c0, by omega⟩⟩)))
  · exact Ev_f c0 (one (by omega))
end WO
