section
set_option maxRecDepth 100000 in
theorem ev_148_0 {dp : Nat} {e : EN} {I : JI} {L : JI} {P_ : (JI × JI) → Prop} (h : Ev (fun n => (if (I 73 16) = 0 then (some (I, L)) else (stI (w2 I 73 16 0) (fun I_10 => (if 1 ≤ dp then ((kf_36 n (dp - 1) e 0 I_10 L (-1) 0 0 76).bind (fun ⟨I0_18, L0_18⟩ => (stI (w2 I0_18 73 12 (-1)) (fun I_23 => (if (I_23 73 10) ≤ 10 then (if 1 ≤ dp then ((kf_36 n (dp - 1) e 0 I_23 L0_18 0 0 0 80).bind (fun ⟨I1_41, L1_41⟩ => (if -2147483648 ≤ (I1_41 73 11) + 1 ∧ (I1_41 73 11) + 1 ≤ 2147483647 then (stI (w2 I1_41 73 13 ((I1_41 73 11) + 1)) (fun I_51 => (if (I_51 1 8) = 0 then (stI (w2 I_51 73 14 0) (fun I_91 => (if 1 ≤ dp then ((kf_149 n (dp - 1) e 0 I_91 L1_41 1 0 0 0).bind (fun ⟨I2_96, L2_96⟩ => (if 1 ≤ dp then ((kf_151 n (dp - 1) e 0 I2_96 L2_96 0 0 0 0).bind (fun ⟨I3_102, L3_102⟩ => (if (I3_102 73 13) ≤ (I3_102 73 11) then (stI (w2 I3_102 73 12 (I3_102 73 13)) (fun I_122 => (if -2147483648 ≤ (I_122 73 12) + 1 ∧ (I_122 73 12) + 1 ≤ 2147483647 then (stI (w2 I_122 73 13 ((I_122 73 12) + 1)) (fun I_132 => (stI (w2 I_132 73 14 (I_132 73 12)) (fun I_140 => (if 1 ≤ dp then ((kf_149 n (dp - 1) e 0 I_140 L3_102 0 0 0 0).bind (fun ⟨I4_145, L4_145⟩ => (if 1 ≤ dp then ((kf_151 n (dp - 1) e 0 I4_145 L4_145 0 0 0 0).bind (fun ⟨I5_151, L5_151⟩ => (some (I5_151, L5_151)))) else none))) else none))))) else none))) else (some (I3_102, L3_102))))) else none))) else none))) else (if ¬ ((I_51 1 8) = 0) then (if (-2147483648 ≤ (I_51 73 11) + (I_51 1 8) ∧ (I_51 73 11) + (I_51 1 8) ≤ 2147483647) ∧ (-2147483648 ≤ ((I_51 73 11) + (I_51 1 8)) - 1 ∧ ((I_51 73 11) + (I_51 1 8)) - 1 ≤ 2147483647) ∧ (-2147483647 ≤ (((I_51 73 11) + (I_51 1 8)) - 1)) then (stI (w2 I_51 73 14 (Int.tdiv (((I_51 73 11) + (I_51 1 8)) - 1) (I_51 1 8))) (fun I_91 => (if 1 ≤ dp then ((kf_149 n (dp - 1) e 0 I_91 L1_41 1 0 0 0).bind (fun ⟨I2_96, L2_96⟩ => (if 1 ≤ dp then ((kf_151 n (dp - 1) e 0 I2_96 L2_96 0 0 0 0).bind (fun ⟨I3_102, L3_102⟩ => (if (I3_102 73 13) ≤ (I3_102 73 11) then (stI (w2 I3_102 73 12 (I3_102 73 13)) (fun I_122 => (if -2147483648 ≤ (I_122 73 12) + 1 ∧ (I_122 73 12) + 1 ≤ 2147483647 then (stI (w2 I_122 73 13 ((I_122 73 12) + 1)) (fun I_132 => (stI (w2 I_132 73 14 (I_132 73 12)) (fun I_140 => (if 1 ≤ dp then ((kf_149 n (dp - 1) e 0 I_140 L3_102 0 0 0 0).bind (fun ⟨I4_145, L4_145⟩ => (if 1 ≤ dp then ((kf_151 n (dp - 1) e 0 I4_145 L4_145 0 0 0 0).bind (fun ⟨I5_151, L5_151⟩ => (some (I5_151, L5_151)))) else none))) else none))))) else none))) else (some (I3_102, L3_102))))) else none))) else none))) else none) else none)))) else none))) else none) else (some (I_23, L0_18))))))) else none))))) P_) : Ev (fun n => kf_148 n dp e 0 I L) P_ := Ev_step (fun n => ke_148_0 n dp e I L) h
end
/-! SHARE: the class shares -/
/-- what is kept of the shared -/
def ShS (A : Int → Int) (lg : Int) (T : List Nat) (mn : Nat → Int) (can : Nat → Nat → Prop) (men : Nat) : Prop := (lg = -1 ∧ (∀ i, 0 ≤ i → i < 16 → A i = -1) ∧ (10 < T.length ∨ ∀ r, ¬ okR men can T r)) ∨ (T.length ≤ 10 ∧ ∃ r, Lst (okR men can T) (fun c => vlR mn T c (fun _ => 0) 0) r ∧ lg = vlR mn T r (fun _ => 0) 0 ∧ KpT A T r ∧ ∀ i, 0 ≤ i → i < 16 → (∀ w ∈ T, ¬ i = (w : Int)) → A i = -1)
theorem lsum_p {g : Nat → Int} {l l' : List Nat} (h : l.Perm l') : lsum g l = lsum g l' := by
  induction h with
  | nil => rfl
  | cons x _ ih => show _ + lsum g _ = _ + lsum g _; rw [ih]
  | swap x y l => show _ + (_ + lsum g l) = _ + (_ + lsum g l); omega
  | trans _ _ ih1 ih2 => exact ih1.trans ih2
def FrSt (J J' : JI) : Prop := ∀ a i, ¬ (a = 73 ∧ 12 ≤ i ∧ i ≤ 14) → ¬ (a = 73 ∧ i = 16) → ¬ a = 76 → ¬ a = 78 → ¬ a = 79 → ¬ a = 80 → J' a i = J a i
section SH3
variable {e : EN} {L : JI} {T : List Nat} {mn sk ms : Nat → Int} {men : Nat}
set_option maxHeartbeats 4000000 in
theorem K148 {dp : Nat} {J : JI} (hd : 20 ≤ dp) (h76 : arO e 76 16) (h80 : arO e 80 4) (hmen : men ≤ 4) (hb : ∀ w ∈ T, w < 16) (hT : T.Pairwise (· < ·)) (hm : ∀ w, 0 ≤ mn w ∧ mn w ≤ 96000) (hW : ShW J T mn sk ms men) (h11 : J 73 11 = lsum mn T) (hl : T.length ≤ 16) (h16 : ¬ J 73 16 = 0) : Ev (fun n => kf_148 n dp e 0 J L) (fun r => r.2 = L ∧ FrSt J r.1 ∧ r.1 73 16 = 0 ∧ ShS (r.1 76) (r.1 73 12) T mn (cnR ms sk) men) := by
  have hn : T.Nodup := hT.imp (fun h => Nat.ne_of_lt h)
  have hm0 : ∀ w, 0 ≤ mn w := fun w => (hm w).1
  have sb := lsum_b (g := mn) (B := 96000) T (fun w _ => hm w)
  /- orders of the tasks -/
  have ord : ∀ T1 : List Nat, T1.Perm T → ∀ r, okR men (cnR ms sk) T r → ∃ r1, okR men (cnR ms sk) T1 r1 ∧ vlR mn T1 r1 (fun _ => 0) 0 = vlR mn T r (fun _ => 0) 0 := fun T1 hp r hr => by
    obtain ⟨a, rfl⟩ := row_a hn hr
    obtain ⟨o1, o2⟩ := vlR_o hm0 hp.symm hr
    exact ⟨_, o1, o2.symm⟩
  have ord' : ∀ T1 : List Nat, T1.Perm T → ∀ r, okR men (cnR ms sk) T1 r → ∃ r1, okR men (cnR ms sk) T r1 ∧ vlR mn T r1 (fun _ => 0) 0 = vlR mn T1 r (fun _ => 0) 0 := fun T1 hp r hr => by
    obtain ⟨a, rfl⟩ := row_a ((hp.nodup_iff).2 hn) hr
    obtain ⟨o1, o2⟩ := vlR_o hm0 hp hr
    exact ⟨_, o1, o2.symm⟩
  refine ev_148_0 ?_
  refine Ev_f h16 (Ev_st (Ev_t (by omega) (Ev_bind (K36 h76 (by omega)) ?_)))
  rintro _ rfl
  dsimp only
  have n1 : ∀ a i, ¬ (a = 73 ∧ (i = 12 ∨ i = 16)) → ¬ a = 76 → w2 (fl (w2 J 73 16 0) 76 16 (-1)) 73 12 (-1) a i = J a i := fun a i x y => by rw [w2_n (by omega), fl_n (by omega), w2_n (by omega)]
  have n12 : w2 (fl (w2 J 73 16 0) 76 16 (-1)) 73 12 (-1) 73 12 = -1 := by rw [w2_ap, if_pos ⟨rfl, rfl⟩]
  have n16 : w2 (fl (w2 J 73 16 0) 76 16 (-1)) 73 12 (-1) 73 16 = 0 := by rw [w2_n (by omega), fl_n (by omega), w2_ap, if_pos ⟨rfl, rfl⟩]
  have n76 : ∀ i, 0 ≤ i → i < 16 → w2 (fl (w2 J 73 16 0) 76 16 (-1)) 73 12 (-1) 76 i = -1 := fun i a b => by rw [w2_n (by omega), fl_p ⟨rfl, a, b⟩]
  refine Ev_st ?_
  generalize w2 (fl (w2 J 73 16 0) 76 16 (-1)) 73 12 (-1) = K1 at n1 n12 n16 n76 ⊢
  have e10 : K1 73 10 = (T.length : Int) := (n1 _ _ (by omega) (by omega)).trans hW.1
  by_cases c10 : (T.length : Int) ≤ 10
  case neg =>
    refine Ev_f (by rw [e10]; exact c10) (Ev_ret ⟨rfl, fun a i x1 x2 x3 x4 x5 x6 => n1 a i (by omega) x3, n16, Or.inl ⟨n12, n76, Or.inl (by omega)⟩⟩)
  refine Ev_t (by rw [e10]; exact c10) (Ev_t (by omega) (Ev_bind (K36 h80 (by omega)) ?_))
  rintro _ rfl
  dsimp only
  have e11 : fl K1 80 ((4 : Nat) : Int) 0 73 11 = lsum mn T := by rw [fl_n (by omega)]; exact (n1 _ _ (by omega) (by omega)).trans h11
  refine Ev_t (by rw [e11]; omega) ?_
  rw [e11]
  refine Ev_st ?_
  have m1 : ∀ a i, ¬ (a = 73 ∧ (i = 12 ∨ i = 13 ∨ i = 16)) → ¬ a = 76 → ¬ a = 80 → w2 (fl K1 80 ((4 : Nat) : Int) 0) 73 13 (lsum mn T + 1) a i = J a i := fun a i x y z => by rw [w2_n (by omega), fl_n (by omega), n1 a i (by omega) y]
  have m12 : w2 (fl K1 80 ((4 : Nat) : Int) 0) 73 13 (lsum mn T + 1) 73 12 = -1 := by rw [w2_n (by omega), fl_n (by omega)]; exact n12
  have m16 : w2 (fl K1 80 ((4 : Nat) : Int) 0) 73 13 (lsum mn T + 1) 73 16 = 0 := by rw [w2_n (by omega), fl_n (by omega)]; exact n16
  have m13 : w2 (fl K1 80 ((4 : Nat) : Int) 0) 73 13 (lsum mn T + 1) 73 13 = lsum mn T + 1 := by rw [w2_ap, if_pos ⟨rfl, rfl⟩]
  have m76 : ∀ i, 0 ≤ i → i < 16 → w2 (fl K1 80 ((4 : Nat) : Int) 0) 73 13 (lsum mn T + 1) 76 i = -1 := fun i a b => by rw [w2_n (by omega), fl_n (by omega)]; exact n76 i a b
  have m80 : ∀ m : Nat, m < men → w2 (fl K1 80 ((4 : Nat) : Int) 0) 73 13 (lsum mn T + 1) 80 m = 0 := fun m hm' => by rw [w2_n (by omega), fl_p ⟨rfl, by omega, by omega⟩]
  generalize w2 (fl K1 80 ((4 : Nat) : Int) 0) 73 13 (lsum mn T + 1) = K2 at m1 m12 m13 m16 m76 m80 ⊢
  clear n1 n12 n16 n76 e10 e11
  have e8 : K2 1 8 = men := (m1 _ _ (by omega) (by omega) (by omega)).trans hW.2.1
  have e11 : K2 73 11 = lsum mn T := (m1 _ _ (by omega) (by omega) (by omega)).trans h11
  by_cases c0 : (men : Int) = 0
  · refine Ev_t (by rw [e8]; exact c0) (Ev_st ?_)
    obtain ⟨en, hev⟩ : ∃ en : Int, en = 0 := ⟨0, rfl⟩
    have hen : ∀ T1 : List Nat, T1.Perm T → ∀ r, okR men (cnR ms sk) T1 r → en ≤ vlR mn T1 r (fun _ => 0) 0 := fun T1 hp r hr => by rw [hev]; exact vlR_g _ _ _ _
    rw [show w2 K2 73 14 0 = w2 K2 73 14 en by rw [hev]]
    have p1 : ∀ a i, ¬ (a = 73 ∧ i = 14) → w2 K2 73 14 en a i = K2 a i := fun a i x => w2_n x
    have p14 : w2 K2 73 14 en 73 14 = en := by rw [w2_ap, if_pos ⟨rfl, rfl⟩]
    generalize w2 K2 73 14 en = K3 at p1 p14 ⊢
    have f3 : ∀ a i, ¬ (a = 73 ∧ (12 ≤ i ∧ i ≤ 14 ∨ i = 16)) → ¬ a = 76 → ¬ a = 80 → K3 a i = J a i := fun a i x y z => by rw [p1 a i (by omega), m1 a i (by omega) y z]
    have e78 : AsT (K3 78) T := AsT_c (fun j _ => f3 _ _ (by omega) (by omega) (by omega)) hW.2.2.1
    refine Ev_t (by omega) (Ev_bind (K149 (by omega) (by rw [f3 _ _ (by omega) (by omega) (by omega)]; exact hW.1) hl e78 hb hn) ?_)
    rintro ⟨K4, L4⟩ ⟨ez, s1, T1, s2, s3, _⟩
    dsimp only at ez s1 s3 ⊢
    subst ez
    have f4 : ∀ a i, ¬ (a = 73 ∧ (12 ≤ i ∧ i ≤ 14 ∨ i = 16)) → ¬ a = 76 → ¬ a = 80 → ¬ a = 78 → K4 a i = J a i := fun a i x y z w => by rw [s1 a i w, f3 a i x y z]
    have l1 := s2.length_eq
    have hn1 := (s2.nodup_iff).2 hn
    have hb1 : ∀ w ∈ T1, w < 16 := fun w hw => hb w ((s2.mem_iff).1 hw)
    have W4 : ShW K4 T1 mn sk ms men := by
      obtain ⟨w1, w2', w3, w4, w5⟩ := hW
      refine ⟨by rw [f4 _ _ (by omega) (by omega) (by omega) (by omega), l1]; exact w1, by rw [f4 _ _ (by omega) (by omega) (by omega) (by omega)]; exact w2', s3, fun w hw => ?_, fun m hm' => by rw [f4 _ _ (by omega) (by omega) (by omega) (by omega)]; exact w5 m hm'⟩
      rw [f4 74 _ (by omega) (by omega) (by omega) (by omega), f4 75 _ (by omega) (by omega) (by omega) (by omega)]
      exact w4 w ((s2.mem_iff).1 hw)
    have r1 := K151 (L := L4) (e := e) hmen (show T1.length ≤ 10 by omega) hb1 hn1 hm (en := en) (sk := sk) (ms := ms) T1 [] (dp - 1) K4 (fun _ => 0) 0 (by simp) rfl (by omega) W4 (fun j w ej => by simp at ej) (fun m hm' => ⟨by rw [s1 _ _ (by omega), p1 _ _ (by omega)]; exact m80 m hm', Int.le_refl _, by simp⟩) ⟨Int.le_refl _, by simp⟩ (by rw [s1 _ _ (by omega)]; exact p14) (hen T1 s2)
    refine Ev_t (by omega) (Ev_bind r1 ?_)
    rintro ⟨K5, L5⟩ ⟨ez, t1, _, t3, q1, t4, t5⟩
    dsimp only at ez t1 t3 t4 t5 ⊢
    subst ez
    have e5_11 : K5 73 11 = lsum mn T := by rw [t1 _ _ (by omega) (by omega) (by omega) (by omega), f4 _ _ (by omega) (by omega) (by omega) (by omega)]; exact h11
    have e4_13 : K4 73 13 = lsum mn T + 1 := by rw [s1 _ _ (by omega), p1 _ _ (by omega)]; exact m13
    have e4_76 : ∀ i, 0 ≤ i → i < 16 → K4 76 i = -1 := fun i a b => by rw [s1 _ _ (by omega), p1 _ _ (by omega)]; exact m76 i a b
    have e5_12 : K5 73 12 = -1 := by rw [t1 _ _ (by omega) (by omega) (by omega) (by omega), s1 _ _ (by omega), p1 _ _ (by omega)]; exact m12
    have e5_16 : K5 73 16 = 0 := by rw [t1 _ _ (by omega) (by omega) (by omega) (by omega), s1 _ _ (by omega), p1 _ _ (by omega)]; exact m16
    have f5 : FrSt J K5 := fun a i x1 x2 x3 x4 x5 x6 => by rw [t1 a i (by omega) x3 x5 x6, f4 a i (by omega) x3 x6 x4]
    rw [e4_13] at t4
    rcases t4 with ⟨u1, u2, u3⟩ | ⟨u1, ra, u2, u3, u4, u5⟩
    · dsimp only at u3
      refine Ev_f (by rw [u1, e5_11]; omega) (Ev_ret ⟨rfl, f5, e5_16, Or.inl ⟨e5_12, fun i a b => by dsimp only; rw [t5.1 u2 i]; exact e4_76 i a b, Or.inr (fun r hr => ?_)⟩⟩)
      obtain ⟨r1, o1, o2⟩ := ord T1 s2 r hr
      have a1 := u3 r1 o1
      have a2 := (vlR_t hm0 hr).2
      omega
    · dsimp only at u4 u5
      refine Ev_t (by rw [e5_11]; omega) (Ev_st ?_)
      obtain ⟨t6, t7⟩ := t5.2 ra u2
      have g12 : w2 K5 73 12 (K5 73 13) 73 12 = K5 73 13 := by rw [w2_ap, if_pos ⟨rfl, rfl⟩]
      have v0 := vlR_g (mn := mn) T1 ra (fun _ => 0) 0
      rw [g12]
      refine Ev_t (by omega) (Ev_st (Ev_st ?_))
      have h1 : ∀ a i, ¬ (a = 73 ∧ 12 ≤ i ∧ i ≤ 14) → w2 (w2 (w2 K5 73 12 (K5 73 13)) 73 13 (K5 73 13 + 1)) 73 14 (w2 (w2 K5 73 12 (K5 73 13)) 73 13 (K5 73 13 + 1) 73 12) a i = K5 a i := fun a i x => by rw [w2_n (by omega), w2_n (by omega), w2_n (by omega)]
      have h12 : w2 (w2 (w2 K5 73 12 (K5 73 13)) 73 13 (K5 73 13 + 1)) 73 14 (w2 (w2 K5 73 12 (K5 73 13)) 73 13 (K5 73 13 + 1) 73 12) 73 12 = K5 73 13 := by rw [w2_n (by omega), w2_n (by omega)]; exact g12
      have h13 : w2 (w2 (w2 K5 73 12 (K5 73 13)) 73 13 (K5 73 13 + 1)) 73 14 (w2 (w2 K5 73 12 (K5 73 13)) 73 13 (K5 73 13 + 1) 73 12) 73 13 = K5 73 13 + 1 := by rw [w2_n (by omega), w2_ap, if_pos ⟨rfl, rfl⟩]
      have h14 : w2 (w2 (w2 K5 73 12 (K5 73 13)) 73 13 (K5 73 13 + 1)) 73 14 (w2 (w2 K5 73 12 (K5 73 13)) 73 13 (K5 73 13 + 1) 73 12) 73 14 = K5 73 13 := by rw [w2_ap, if_pos ⟨rfl, rfl⟩, w2_n (by omega)]; exact g12
      generalize w2 (w2 (w2 K5 73 12 (K5 73 13)) 73 13 (K5 73 13 + 1)) 73 14 (w2 (w2 K5 73 12 (K5 73 13)) 73 13 (K5 73 13 + 1) 73 12) = K6 at h1 h12 h13 h14 ⊢
      have e78' : AsT (K6 78) T1 := AsT_c (fun j _ => by rw [h1 _ _ (by omega), t1 _ _ (by omega) (by omega) (by omega) (by omega)]) s3
      have g6 : ∀ a i, ¬ (a = 73 ∧ (12 ≤ i ∧ i ≤ 14 ∨ i = 16)) → ¬ a = 76 → ¬ a = 80 → ¬ a = 78 → ¬ a = 79 → K6 a i = J a i := fun a i x y z w v => by rw [h1 a i (by omega), t1 a i (by omega) y v z, f4 a i x y z w]
      refine Ev_t (by omega) (Ev_bind (K149 (by omega) (by rw [g6 _ _ (by omega) (by omega) (by omega) (by omega) (by omega), l1]; exact hW.1) (by omega) e78' hb1 hn1) ?_)
      rintro ⟨K7, L7⟩ ⟨ez, x1, T2, x2, x3, x4⟩
      dsimp only at ez x1 x3 ⊢
      subst ez
      have eT : T2 = T := rising (x4 rfl) hT (fun w => (x2.mem_iff).trans (s2.mem_iff))
      subst eT
      have W7 : ShW K7 T2 mn sk ms men := by
        obtain ⟨w1, w2', w3, w4, w5⟩ := hW
        refine ⟨by rw [x1 _ _ (by omega), g6 _ _ (by omega) (by omega) (by omega) (by omega) (by omega)]; exact w1, by rw [x1 _ _ (by omega), g6 _ _ (by omega) (by omega) (by omega) (by omega) (by omega)]; exact w2', x3, fun w hw => ?_, fun m hm' => by rw [x1 _ _ (by omega), g6 _ _ (by omega) (by omega) (by omega) (by omega) (by omega)]; exact w5 m hm'⟩
        rw [x1 74 _ (by omega), x1 75 _ (by omega), g6 74 _ (by omega) (by omega) (by omega) (by omega) (by omega), g6 75 _ (by omega) (by omega) (by omega) (by omega) (by omega)]
        exact w4 w hw
      have H2 : ∀ r, okR men (cnR ms sk) T2 r → K5 73 13 ≤ vlR mn T2 r (fun _ => 0) 0 := fun r hr => by
        obtain ⟨r1, o1, o2⟩ := ord T1 s2 r hr
        have := (u5 r1 o1).1
        omega
      have r2 := K151 (L := L7) (e := e) hmen (show T2.length ≤ 10 by omega) hb hn hm (en := K5 73 13) (sk := sk) (ms := ms) T2 [] (dp - 1) K7 (fun _ => 0) 0 (by simp) rfl (by omega) W7 (fun j w ej => by simp at ej) (fun m hm' => ⟨by rw [x1 _ _ (by omega), h1 _ _ (by omega)]; exact t3 m hm', Int.le_refl _, by simp⟩) ⟨Int.le_refl _, by simp⟩ (by rw [x1 _ _ (by omega)]; exact h14) H2
      refine Ev_t (by omega) (Ev_bind r2 ?_)
      rintro ⟨K8, L8⟩ ⟨ez, y1, _, _, q2, y4, y5⟩
      dsimp only at ez y1 y4 y5 ⊢
      subst ez
      have e7_13 : K7 73 13 = K5 73 13 + 1 := by rw [x1 _ _ (by omega)]; exact h13
      rw [e7_13] at y4
      obtain ⟨rb, o1, o2⟩ := ord' T1 s2 ra u3
      rcases y4 with ⟨_, _, z3⟩ | ⟨z1, rc, z2, z3, z4, z5⟩
      · have z3 := z3 rb o1
        dsimp only at z3
        omega
      · dsimp only at z4 z5
        obtain ⟨y6, y7⟩ := y5.2 rc z2
        have b1 := H2 rc z3
        refine Ev_ret ⟨rfl, fun a i w1 w2' w3 w4 w5 w6 => ?_, ?_, Or.inr ⟨by omega, rc, ⟨z3, fun r' hr' => ?_⟩, ?_, ?_, fun i a b hi => ?_⟩⟩
        · dsimp only
          rw [y1 a i (by omega) w3 w5 w6, x1 a i w4, g6 a i (by omega) w3 w6 w4 w5]
        · dsimp only
          rw [y1 _ _ (by omega) (by omega) (by omega) (by omega), x1 _ _ (by omega), h1 _ _ (by omega)]; exact e5_16
        · dsimp only
          rw [z4]
          exact z5 r' hr'
        · dsimp only
          rw [y1 _ _ (by omega) (by omega) (by omega) (by omega), x1 _ _ (by omega), h12]
          omega
        · rw [List.nil_append] at y6
          exact y6
        · dsimp only
          rw [y7 i hi, x1 _ _ (by omega), h1 _ _ (by omega), t7 i (fun w hw => hi w ((s2.mem_iff).1 hw))]
          exact e4_76 i a b
  · refine Ev_f (by rw [e8]; exact c0) (Ev_t (by rw [e8]; exact c0) ?_)
    rw [e8, e11]
    refine Ev_t (by omega) (Ev_st ?_)
    have hen : ∀ T1 : List Nat, T1.Perm T → ∀ r, okR men (cnR ms sk) T1 r → Int.tdiv (lsum mn T + men - 1) men ≤ vlR mn T1 r (fun _ => 0) 0 := fun T1 hp r hr => by
      have a := (vlR_t hm0 hr).1
      rw [lsum_p hp] at a
      rw [Int.tdiv_eq_ediv_of_nonneg (by omega)]
      refine Int.le_of_lt_add_one (Int.ediv_lt_of_lt_mul (by omega) ?_)
      rw [Int.add_mul]
      omega
    generalize Int.tdiv (lsum mn T + men - 1) men = en at hen ⊢
    have p1 : ∀ a i, ¬ (a = 73 ∧ i = 14) → w2 K2 73 14 en a i = K2 a i := fun a i x => w2_n x
    have p14 : w2 K2 73 14 en 73 14 = en := by rw [w2_ap, if_pos ⟨rfl, rfl⟩]
    generalize w2 K2 73 14 en = K3 at p1 p14 ⊢
    have f3 : ∀ a i, ¬ (a = 73 ∧ (12 ≤ i ∧ i ≤ 14 ∨ i = 16)) → ¬ a = 76 → ¬ a = 80 → K3 a i = J a i := fun a i x y z => by rw [p1 a i (by omega), m1 a i (by omega) y z]
    have e78 : AsT (K3 78) T := AsT_c (fun j _ => f3 _ _ (by omega) (by omega) (by omega)) hW.2.2.1
    refine Ev_t (by omega) (Ev_bind (K149 (by omega) (by rw [f3 _ _ (by omega) (by omega) (by omega)]; exact hW.1) hl e78 hb hn) ?_)
    rintro ⟨K4, L4⟩ ⟨ez, s1, T1, s2, s3, _⟩
    dsimp only at ez s1 s3 ⊢
    subst ez
    have f4 : ∀ a i, ¬ (a = 73 ∧ (12 ≤ i ∧ i ≤ 14 ∨ i = 16)) → ¬ a = 76 → ¬ a = 80 → ¬ a = 78 → K4 a i = J a i := fun a i x y z w => by rw [s1 a i w, f3 a i x y z]
    have l1 := s2.length_eq
    have hn1 := (s2.nodup_iff).2 hn
    have hb1 : ∀ w ∈ T1, w < 16 := fun w hw => hb w ((s2.mem_iff).1 hw)
    have W4 : ShW K4 T1 mn sk ms men := by
      obtain ⟨w1, w2', w3, w4, w5⟩ := hW
      refine ⟨by rw [f4 _ _ (by omega) (by omega) (by omega) (by omega), l1]; exact w1, by rw [f4 _ _ (by omega) (by omega) (by omega) (by omega)]; exact w2', s3, fun w hw => ?_, fun m hm' => by rw [f4 _ _ (by omega) (by omega) (by omega) (by omega)]; exact w5 m hm'⟩
      rw [f4 74 _ (by omega) (by omega) (by omega) (by omega), f4 75 _ (by omega) (by omega) (by omega) (by omega)]
      exact w4 w ((s2.mem_iff).1 hw)
    have r1 := K151 (L := L4) (e := e) hmen (show T1.length ≤ 10 by omega) hb1 hn1 hm (en := en) (sk := sk) (ms := ms) T1 [] (dp - 1) K4 (fun _ => 0) 0 (by simp) rfl (by omega) W4 (fun j w ej => by simp at ej) (fun m hm' => ⟨by rw [s1 _ _ (by omega), p1 _ _ (by omega)]; exact m80 m hm', Int.le_refl _, by simp⟩) ⟨Int.le_refl _, by simp⟩ (by rw [s1 _ _ (by omega)]; exact p14) (hen T1 s2)
    refine Ev_t (by omega) (Ev_bind r1 ?_)
    rintro ⟨K5, L5⟩ ⟨ez, t1, _, t3, q1, t4, t5⟩
    dsimp only at ez t1 t3 t4 t5 ⊢
    subst ez
    have e5_11 : K5 73 11 = lsum mn T := by rw [t1 _ _ (by omega) (by omega) (by omega) (by omega), f4 _ _ (by omega) (by omega) (by omega) (by omega)]; exact h11
    have e4_13 : K4 73 13 = lsum mn T + 1 := by rw [s1 _ _ (by omega), p1 _ _ (by omega)]; exact m13
    have e4_76 : ∀ i, 0 ≤ i → i < 16 → K4 76 i = -1 := fun i a b => by rw [s1 _ _ (by omega), p1 _ _ (by omega)]; exact m76 i a b
    have e5_12 : K5 73 12 = -1 := by rw [t1 _ _ (by omega) (by omega) (by omega) (by omega), s1 _ _ (by omega), p1 _ _ (by omega)]; exact m12
    have e5_16 : K5 73 16 = 0 := by rw [t1 _ _ (by omega) (by omega) (by omega) (by omega), s1 _ _ (by omega), p1 _ _ (by omega)]; exact m16
    have f5 : FrSt J K5 := fun a i x1 x2 x3 x4 x5 x6 => by rw [t1 a i (by omega) x3 x5 x6, f4 a i (by omega) x3 x6 x4]
    rw [e4_13] at t4
    rcases t4 with ⟨u1, u2, u3⟩ | ⟨u1, ra, u2, u3, u4, u5⟩
    · dsimp only at u3
      refine Ev_f (by rw [u1, e5_11]; omega) (Ev_ret ⟨rfl, f5, e5_16, Or.inl ⟨e5_12, fun i a b => by dsimp only; rw [t5.1 u2 i]; exact e4_76 i a b, Or.inr (fun r hr => ?_)⟩⟩)
      obtain ⟨r1, o1, o2⟩ := ord T1 s2 r hr
      have a1 := u3 r1 o1
      have a2 := (vlR_t hm0 hr).2
      omega
    · dsimp only at u4 u5
      refine Ev_t (by rw [e5_11]; omega) (Ev_st ?_)
      obtain ⟨t6, t7⟩ := t5.2 ra u2
      have g12 : w2 K5 73 12 (K5 73 13) 73 12 = K5 73 13 := by rw [w2_ap, if_pos ⟨rfl, rfl⟩]
      have v0 := vlR_g (mn := mn) T1 ra (fun _ => 0) 0
      rw [g12]
      refine Ev_t (by omega) (Ev_st (Ev_st ?_))
      have h1 : ∀ a i, ¬ (a = 73 ∧ 12 ≤ i ∧ i ≤ 14) → w2 (w2 (w2 K5 73 12 (K5 73 13)) 73 13 (K5 73 13 + 1)) 73 14 (w2 (w2 K5 73 12 (K5 73 13)) 73 13 (K5 73 13 + 1) 73 12) a i = K5 a i := fun a i x => by rw [w2_n (by omega), w2_n (by omega), w2_n (by omega)]
      have h12 : w2 (w2 (w2 K5 73 12 (K5 73 13)) 73 13 (K5 73 13 + 1)) 73 14 (w2 (w2 K5 73 12 (K5 73 13)) 73 13 (K5 73 13 + 1) 73 12) 73 12 = K5 73 13 := by rw [w2_n (by omega), w2_n (by omega)]; exact g12
      have h13 : w2 (w2 (w2 K5 73 12 (K5 73 13)) 73 13 (K5 73 13 + 1)) 73 14 (w2 (w2 K5 73 12 (K5 73 13)) 73 13 (K5 73 13 + 1) 73 12) 73 13 = K5 73 13 + 1 := by rw [w2_n (by omega), w2_ap, if_pos ⟨rfl, rfl⟩]
      have h14 : w2 (w2 (w2 K5 73 12 (K5 73 13)) 73 13 (K5 73 13 + 1)) 73 14 (w2 (w2 K5 73 12 (K5 73 13)) 73 13 (K5 73 13 + 1) 73 12) 73 14 = K5 73 13 := by rw [w2_ap, if_pos ⟨rfl, rfl⟩, w2_n (by omega)]; exact g12
      generalize w2 (w2 (w2 K5 73 12 (K5 73 13)) 73 13 (K5 73 13 + 1)) 73 14 (w2 (w2 K5 73 12 (K5 73 13)) 73 13 (K5 73 13 + 1) 73 12) = K6 at h1 h12 h13 h14 ⊢
      have e78' : AsT (K6 78) T1 := AsT_c (fun j _ => by rw [h1 _ _ (by omega), t1 _ _ (by omega) (by omega) (by omega) (by omega)]) s3
      have g6 : ∀ a i, ¬ (a = 73 ∧ (12 ≤ i ∧ i ≤ 14 ∨ i = 16)) → ¬ a = 76 → ¬ a = 80 → ¬ a = 78 → ¬ a = 79 → K6 a i = J a i := fun a i x y z w v => by rw [h1 a i (by omega), t1 a i (by omega) y v z, f4 a i x y z w]
      refine Ev_t (by omega) (Ev_bind (K149 (by omega) (by rw [g6 _ _ (by omega) (by omega) (by omega) (by omega) (by omega), l1]; exact hW.1) (by omega) e78' hb1 hn1) ?_)
      rintro ⟨K7, L7⟩ ⟨ez, x1, T2, x2, x3, x4⟩
      dsimp only at ez x1 x3 ⊢
      subst ez
      have eT : T2 = T := rising (x4 rfl) hT (fun w => (x2.mem_iff).trans (s2.mem_iff))
      subst eT
      have W7 : ShW K7 T2 mn sk ms men := by
        obtain ⟨w1, w2', w3, w4, w5⟩ := hW
        refine ⟨by rw [x1 _ _ (by omega), g6 _ _ (by omega) (by omega) (by omega) (by omega) (by omega)]; exact w1, by rw [x1 _ _ (by omega), g6 _ _ (by omega) (by omega) (by omega) (by omega) (by omega)]; exact w2', x3, fun w hw => ?_, fun m hm' => by rw [x1 _ _ (by omega), g6 _ _ (by omega) (by omega) (by omega) (by omega) (by omega)]; exact w5 m hm'⟩
        rw [x1 74 _ (by omega), x1 75 _ (by omega), g6 74 _ (by omega) (by omega) (by omega) (by omega) (by omega), g6 75 _ (by omega) (by omega) (by omega) (by omega) (by omega)]
        exact w4 w hw
      have H2 : ∀ r, okR men (cnR ms sk) T2 r → K5 73 13 ≤ vlR mn T2 r (fun _ => 0) 0 := fun r hr => by
        obtain ⟨r1, o1, o2⟩ := ord T1 s2 r hr
        have := (u5 r1 o1).1
        omega
      have r2 := K151 (L := L7) (e := e) hmen (show T2.length ≤ 10 by omega) hb hn hm (en := K5 73 13) (sk := sk) (ms := ms) T2 [] (dp - 1) K7 (fun _ => 0) 0 (by simp) rfl (by omega) W7 (fun j w ej => by simp at ej) (fun m hm' => ⟨by rw [x1 _ _ (by omega), h1 _ _ (by omega)]; exact t3 m hm', Int.le_refl _, by simp⟩) ⟨Int.le_refl _, by simp⟩ (by rw [x1 _ _ (by omega)]; exact h14) H2
      refine Ev_t (by omega) (Ev_bind r2 ?_)
      rintro ⟨K8, L8⟩ ⟨ez, y1, _, _, q2, y4, y5⟩
      dsimp only at ez y1 y4 y5 ⊢
      subst ez
      have e7_13 : K7 73 13 = K5 73 13 + 1 := by rw [x1 _ _ (by omega)]; exact h13
      rw [e7_13] at y4
      obtain ⟨rb, o1, o2⟩ := ord' T1 s2 ra u3
      rcases y4 with ⟨_, _, z3⟩ | ⟨z1, rc, z2, z3, z4, z5⟩
      · have z3 := z3 rb o1
        dsimp only at z3
        omega
      · dsimp only at z4 z5
        obtain ⟨y6, y7⟩ := y5.2 rc z2
        have b1 := H2 rc z3
        refine Ev_ret ⟨rfl, fun a i w1 w2' w3 w4 w5 w6 => ?_, ?_, Or.inr ⟨by omega, rc, ⟨z3, fun r' hr' => ?_⟩, ?_, ?_, fun i a b hi => ?_⟩⟩
        · dsimp only
          rw [y1 a i (by omega) w3 w5 w6, x1 a i w4, g6 a i (by omega) w3 w6 w4 w5]
        · dsimp only
          rw [y1 _ _ (by omega) (by omega) (by omega) (by omega), x1 _ _ (by omega), h1 _ _ (by omega)]; exact e5_16
        · dsimp only
          rw [z4]
          exact z5 r' hr'
        · dsimp only
          rw [y1 _ _ (by omega) (by omega) (by omega) (by omega), x1 _ _ (by omega), h12]
          omega
        · rw [List.nil_append] at y6
          exact y6
        · dsimp only
          rw [y7 i hi, x1 _ _ (by omega), h1 _ _ (by omega), t7 i (fun w hw => hi w ((s2.mem_iff).1 hw))]
          exact e4_76 i a b
end SH3
