section
set_option maxRecDepth 100000 in
theorem ev_2_0 {dp : Nat} {z : Nat} {kd : (Nat → Nat × Nat)} {I : JI} {L : JI} {R : (Nat → Nat → Option Nat)} {a0 : Nat} {P_ : (PSi × Nat × Nat) → Prop} (h : Ev (fun n => (if 1 ≤ dp then (adk 1 3 (stI (z + 1) (fun z_6 => (stI (va_up kd z (13, 3)) (fun kd_6 => (stI (nw2 I z) (fun I_6 => (stI (nw2 L z) (fun L_6 => (stI (va_up R z (fun _ => none)) (fun R_6 => (if (a0 < z_6) ∧ ((kd_6 a0).1 = 3) then (stI (u2 R_6 a0 0 (some z)) (fun R_8 => (adk 1 30 (stI (z_6 + 1) (fun z_14 => (stI (va_up kd_6 z_6 (13, 30)) (fun kd_14 => (stI (nw2 I_6 z_6) (fun I_14 => (stI (nw2 L_6 z_6) (fun L_14 => (stI (va_up R_8 z_6 (fun _ => none)) (fun R_14 => (if (a0 < z_14) ∧ ((kd_14 a0).1 = 3) then (stI (u2 R_14 a0 1 (some z_6)) (fun R_16 => (adk 1 30 (stI (z_14 + 1) (fun z_22 => (stI (va_up kd_14 z_14 (13, 30)) (fun kd_22 => (stI (nw2 I_14 z_14) (fun I_22 => (stI (nw2 L_14 z_14) (fun L_22 => (stI (va_up R_16 z_14 (fun _ => none)) (fun R_22 => (if (a0 < z_22) ∧ ((kd_22 a0).1 = 3) then (stI (u2 R_22 a0 2 (some z_14)) (fun R_24 => (adk 1 4 (stI (z_22 + 1) (fun z_29 => (stI (va_up kd_22 z_22 (13, 4)) (fun kd_29 => (stI (nw2 I_22 z_22) (fun I_29 => (stI (nw2 L_22 z_22) (fun L_29 => (stI (va_up R_24 z_22 (fun _ => none)) (fun R_29 => (if (a0 < z_29) ∧ ((kd_29 a0).1 = 3) then (stI (u2 R_29 a0 3 (some z_22)) (fun R_31 => (adk 1 8 (stI (z_29 + 1) (fun z_37 => (stI (va_up kd_29 z_29 (13, 8)) (fun kd_37 => (stI (nw2 I_29 z_29) (fun I_37 => (stI (nw2 L_29 z_29) (fun L_37 => (stI (va_up R_31 z_29 (fun _ => none)) (fun R_37 => (if (a0 < z_37) ∧ ((kd_37 a0).1 = 3) then (stI (u2 R_37 a0 4 (some z_29)) (fun R_39 => (adk 1 112 (stI (z_37 + 1) (fun z_45 => (stI (va_up kd_37 z_37 (13, 112)) (fun kd_45 => (stI (nw2 I_37 z_37) (fun I_45 => (stI (nw2 L_37 z_37) (fun L_45 => (stI (va_up R_39 z_37 (fun _ => none)) (fun R_45 => (if (a0 < z_45) ∧ ((kd_45 a0).1 = 3) then (stI (u2 R_45 a0 5 (some z_37)) (fun R_47 => (adk 1 40 (stI (z_45 + 1) (fun z_53 => (stI (va_up kd_45 z_45 (13, 40)) (fun kd_53 => (stI (nw2 I_45 z_45) (fun I_53 => (stI (nw2 L_45 z_45) (fun L_53 => (stI (va_up R_47 z_45 (fun _ => none)) (fun R_53 => (if (a0 < z_53) ∧ ((kd_53 a0).1 = 3) then (stI (u2 R_53 a0 6 (some z_45)) (fun R_55 => (adk 1 (clN 10).2.2 (stI (z_53 + 1) (fun z_59 => (stI (va_up kd_53 z_53 (10, 0)) (fun kd_59 => (stI (nw2 I_53 z_53) (fun I_59 => (stI (nw2 L_53 z_53) (fun L_59 => (stI (va_up R_55 z_53 (fun _ => none)) (fun R_59 => (if 1 ≤ dp then (if (z_53 < z_59) ∧ ((kd_59 z_53).1 = 10) then ((kf_3 n (dp - 1) 0 z_59 kd_59 I_59 L_59 R_59 z_53).bind (fun ⟨⟨z_63, kd_63, I_63, L_63, R_63⟩, ck_63, cm_63⟩ => (adk ck_63 cm_63 (if (a0 < z_63) ∧ ((kd_63 a0).1 = 3) then (stI (u2 R_63 a0 7 (some z_53)) (fun R_66 => (if (a0 < z_63) ∧ ((kd_63 a0).1 = 3) then (stI (w2 I_63 a0 8 0) (fun I_71 => (if (a0 < z_63) ∧ ((kd_63 a0).1 = 3) then (stI (w2 I_71 a0 9 0) (fun I_76 => (if (a0 < z_63) ∧ ((kd_63 a0).1 = 3) then (stI (w2 I_76 a0 10 0) (fun I_81 => (if (a0 < z_63) ∧ ((kd_63 a0).1 = 3) then (stI (w2 I_81 a0 11 0) (fun I_86 => (if (a0 < z_63) ∧ ((kd_63 a0).1 = 3) then (stI (w2 I_86 a0 12 5) (fun I_91 => (some ((z_63, kd_63, I_91, L_63, R_66), 0, 0)))) else none))) else none))) else none))) else none))) else none))) else none)))) else none) else none)))))))))))))) else none)))))))))))))) else none)))))))))))))) else none)))))))))))))) else none)))))))))))))) else none)))))))))))))) else none)))))))))))))) else none)))))))))))) else none)) P_) : Ev (fun n => kf_2 n dp 0 z kd I L R a0) P_ := Ev_step (fun n => ke_2_0 n dp z kd I L R a0) h
set_option maxRecDepth 100000 in
theorem ev_184_1 {dp : Nat} {z : Nat} {kd : (Nat → Nat × Nat)} {I : JI} {L : JI} {R : (Nat → Nat → Option Nat)} {i1 : Int} {a2 : Nat} {P_ : ((Int × PSi) × Nat × Nat) → Prop} (h : Ev (fun n => (if 1 ≤ dp then (if (a2 < z) ∧ ((kd a2).1 = 3) then ((kf_185 n (dp - 1) (z, kd, R) 0 I L a2 1).bind (fun ⟨I_46, L_46⟩ => (if 1 ≤ dp then ((kf_19 n (dp - 1) (z, kd, R) 0 I_46 L_46 0).bind (fun ⟨x_51, I_51, L_51⟩ => (some (((x_51 : Int), z, kd, I_51, L_51, R), 0, 0)))) else none))) else none) else none)) P_) : Ev (fun n => kf_184 n dp 1 z kd I L R i1 a2) P_ := Ev_step (fun n => ke_184_1 n dp z kd I L R i1 a2) h
set_option maxRecDepth 100000 in
theorem ev_192_0 {dp : Nat} {e : EN} {I : JI} {L : JI} {i1 : Int} {i2 : Int} {P_ : (Int × JI × JI) → Prop} (h : Ev (fun n => (stI (w2 I 105 0 0) (fun I_2 => (if 1 ≤ dp then ((kf_193 n (dp - 1) e 0 I_2 L i1 0 1).bind (fun ⟨x0_9, I0_9, L0_9⟩ => (if x0_9 = 0 then (if 1 ≤ dp then ((kf_194 n (dp - 1) e 0 I0_9 L0_9 (-1)).bind (fun ⟨x1_17, I1_17, L1_17⟩ => (some ((x1_17 : Int), I1_17, L1_17)))) else none) else (kf_192 n dp e 1 I0_9 L0_9 i1 0)))) else none)))) P_) : Ev (fun n => kf_192 n dp e 0 I L i1 i2) P_ := Ev_step (fun n => ke_192_0 n dp e I L i1 i2) h
set_option maxRecDepth 100000 in
theorem ev_184_0 {dp : Nat} {z : Nat} {kd : (Nat → Nat × Nat)} {I : JI} {L : JI} {R : (Nat → Nat → Option Nat)} {i1 : Int} {a2 : Nat} {P_ : ((Int × PSi) × Nat × Nat) → Prop} (h : Ev (fun n => (if 1 ≤ dp then ((kf_14 n (dp - 1) (z, kd, R) 0 I L i1 0 1).bind (fun ⟨x_3, I_3, L_3⟩ => (if x_3 = 0 then (if 1 ≤ dp then ((kf_15 n (dp - 1) (z, kd, R) 0 I_3 L_3 (-1)).bind (fun ⟨x_11, I_11, L_11⟩ => (some (((x_11 : Int), z, kd, I_11, L_11, R), 0, 0)))) else none) else (if 0 ≤ i1 ∧ i1 < 2 then (stI (R 20 (Int.toNat i1)) (fun o_20 => (match o_20 with | none => (adk 1 (clN 3).2.2 (stI (z + 1) (fun z_26 => (stI (va_up kd z (3, 0)) (fun kd_26 => (stI (nw2 I_3 z) (fun I_26 => (stI (nw2 L_3 z) (fun L_26 => (stI (va_up R z (fun _ => none)) (fun R_26 => (if 1 ≤ dp then (if (z < z_26) ∧ ((kd_26 z).1 = 3) then ((kf_2 n (dp - 1) 0 z_26 kd_26 I_26 L_26 R_26 z).bind (fun ⟨⟨z_30, kd_30, I_30, L_30, R_30⟩, ck_30, cm_30⟩ => (adk ck_30 cm_30 (if ((z < z_30) ∧ ((kd_30 z).1 = 3)) ∧ (0 ≤ i1 ∧ i1 < 2) then (stI (u2 R_30 20 (Int.toNat i1) (some z)) (fun R_40 => (kf_184 n dp 1 z_30 kd_30 I_30 L_30 R_40 i1 z))) else none)))) else none) else none)))))))))))) | some bb_23 => (kf_184 n dp 1 z kd I_3 L_3 R i1 bb_23)))) else none)))) else none)) P_) : Ev (fun n => kf_184 n dp 0 z kd I L R i1 a2) P_ := Ev_step (fun n => ke_184_0 n dp z kd I L R i1 a2) h
end
/-! IMAGE -/
theorem StG_new {cl : Nat} {z : Nat} {kd : KD} {J M : JI} {R : RF} : StG z cl [] kd J M R (z + 1) (va_up kd z (cl, 0)) (nw2 J z) (nw2 M z) (va_up R z (fun _ => none)) := by
  refine ⟨rfl, by rw [vu_same], fun i hi => absurd hi (by simp), fun a ha => ⟨vu_n (by omega), fun j => by rw [vu_n (by omega)], fun j => if_neg (by omega), fun j => if_neg (by omega)⟩⟩
def hlL : List Nat := [3, 30, 30, 4, 8, 112, 40]
theorem TrO_ext {z z' : Nat} {kd kd' : KD} {R R' : RF} {t : Nat} (hz : z ≤ z') (h : ∀ a, a < z → ¬ a = 20 → kd' a = kd a ∧ ∀ j, R' a j = R a j) (ht : t + 10 < 20 ∨ 20 < t) (hT : TrO (z, kd, R) t) : TrO (z', kd', R') t := by
  have key : ∀ i L, i < 11 → arO (z, kd, R) (t + i) L → arO (z', kd', R') (t + i) L := fun i L hi q => by
    have q1 : t + i < z := q.1
    refine ⟨by show t + i < z'; omega, ?_, ?_⟩
    · show (kd' (t + i)).1 = 13
      rw [(h (t + i) q1 (by omega)).1]; exact q.2.1
    · show (kd' (t + i)).2 = L
      rw [(h (t + i) q1 (by omega)).1]; exact q.2.2
  obtain ⟨s0, ⟨s1, r1⟩, ⟨s2, r2⟩, ⟨s3, r3⟩, ⟨s4, r4⟩, ⟨s5, r5⟩, ⟨s6, r6⟩, ⟨s7, r7⟩, ⟨s8, r8⟩, ⟨s9, r9⟩, ⟨s10, r10⟩⟩ := hT
  have t1 : t < z := s0.1
  have e := h t t1 (by omega)
  have k0 : (kd' t).1 = 10 := by rw [e.1]; exact s0.2
  have rr : ∀ j v, R t j = some v → R' t j = some v := fun j v q => by rw [e.2 j]; exact q
  exact ⟨⟨by show t < z'; omega, k0⟩, ⟨rr _ _ s1, key 1 _ (by decide) r1⟩, ⟨rr _ _ s2, key 2 _ (by decide) r2⟩, ⟨rr _ _ s3, key 3 _ (by decide) r3⟩, ⟨rr _ _ s4, key 4 _ (by decide) r4⟩, ⟨rr _ _ s5, key 5 _ (by decide) r5⟩, ⟨rr _ _ s6, key 6 _ (by decide) r6⟩, ⟨rr _ _ s7, key 7 _ (by decide) r7⟩, ⟨rr _ _ s8, key 8 _ (by decide) r8⟩, ⟨rr _ _ s9, key 9 _ (by decide) r9⟩, ⟨rr _ _ s10, key 10 _ (by decide) r10⟩⟩
theorem TrO_R {z : Nat} {kd : KD} {R R' : RF} {t : Nat} (h : ∀ j, R' t j = R t j) (hT : TrO (z, kd, R) t) : TrO (z, kd, R') t := by
  obtain ⟨s0, ⟨s1, r1⟩, ⟨s2, r2⟩, ⟨s3, r3⟩, ⟨s4, r4⟩, ⟨s5, r5⟩, ⟨s6, r6⟩, ⟨s7, r7⟩, ⟨s8, r8⟩, ⟨s9, r9⟩, ⟨s10, r10⟩⟩ := hT
  have rr : ∀ j v, R t j = some v → R' t j = some v := fun j v q => by rw [h j]; exact q
  exact ⟨s0, ⟨rr _ _ s1, r1⟩, ⟨rr _ _ s2, r2⟩, ⟨rr _ _ s3, r3⟩, ⟨rr _ _ s4, r4⟩, ⟨rr _ _ s5, r5⟩, ⟨rr _ _ s6, r6⟩, ⟨rr _ _ s7, r7⟩, ⟨rr _ _ s8, r8⟩, ⟨rr _ _ s9, r9⟩, ⟨rr _ _ s10, r10⟩⟩
theorem HlO_R {z : Nat} {kd : KD} {R R' : RF} {t u : Nat} (h : ∀ j, R' t j = R t j) (hT : HlO (z, kd, R) t u) : HlO (z, kd, R') t u := by
  obtain ⟨s0, ⟨s1, r1⟩, ⟨s2, r2⟩, ⟨s3, r3⟩, ⟨s4, r4⟩, ⟨s5, r5⟩, ⟨s6, r6⟩, ⟨s7, r7⟩, s8⟩ := hT
  have rr : ∀ j v, R t j = some v → R' t j = some v := fun j v q => by rw [h j]; exact q
  exact ⟨s0, ⟨rr _ _ s1, r1⟩, ⟨rr _ _ s2, r2⟩, ⟨rr _ _ s3, r3⟩, ⟨rr _ _ s4, r4⟩, ⟨rr _ _ s5, r5⟩, ⟨rr _ _ s6, r6⟩, ⟨rr _ _ s7, r7⟩, rr _ _ s8⟩
theorem HlO_ext {z z' : Nat} {kd kd' : KD} {R R' : RF} {t u : Nat} (hz : z ≤ z') (h : ∀ a, a < z → ¬ a = 20 → kd' a = kd a ∧ ∀ j, R' a j = R a j) (ht : t + 7 < 20 ∨ 20 < t) (hT : HlO (z, kd, R) t u) : HlO (z', kd', R') t u := by
  have key : ∀ i L, i < 8 → arO (z, kd, R) (t + i) L → arO (z', kd', R') (t + i) L := fun i L hi q => by
    have q1 : t + i < z := q.1
    refine ⟨by show t + i < z'; omega, ?_, ?_⟩
    · show (kd' (t + i)).1 = 13
      rw [(h (t + i) q1 (by omega)).1]; exact q.2.1
    · show (kd' (t + i)).2 = L
      rw [(h (t + i) q1 (by omega)).1]; exact q.2.2
  obtain ⟨s0, ⟨s1, r1⟩, ⟨s2, r2⟩, ⟨s3, r3⟩, ⟨s4, r4⟩, ⟨s5, r5⟩, ⟨s6, r6⟩, ⟨s7, r7⟩, s8⟩ := hT
  have t1 : t < z := s0.1
  have e := h t t1 (by omega)
  have k0 : (kd' t).1 = 3 := by rw [e.1]; exact s0.2
  have rr : ∀ j v, R t j = some v → R' t j = some v := fun j v q => by rw [e.2 j]; exact q
  exact ⟨⟨by show t < z'; omega, k0⟩, ⟨rr _ _ s1, key 1 _ (by decide) r1⟩, ⟨rr _ _ s2, key 2 _ (by decide) r2⟩, ⟨rr _ _ s3, key 3 _ (by decide) r3⟩, ⟨rr _ _ s4, key 4 _ (by decide) r4⟩, ⟨rr _ _ s5, key 5 _ (by decide) r5⟩, ⟨rr _ _ s6, key 6 _ (by decide) r6⟩, ⟨rr _ _ s7, key 7 _ (by decide) r7⟩, rr _ _ s8⟩
/-- a Hall made at a0: what stands then -/
def HlN (a0 : Nat) (kd1 : KD) (J1 M1 : JI) (R1 : RF) (z : Nat) (kd : KD) (J M : JI) (R : RF) : Prop := z = a0 + 19 ∧ HlO (z, kd, R) a0 (a0 + 8) ∧ TrO (z, kd, R) (a0 + 8) ∧ (∀ a, a < a0 → kd a = kd1 a ∧ (∀ j, R a j = R1 a j) ∧ (∀ j, J a j = J1 a j) ∧ (∀ j, M a j = M1 a j)) ∧ (∀ i, 1 ≤ i → i ≤ 7 → ∀ j, J (a0 + i) j = 0) ∧ (∀ i, 9 ≤ i → i ≤ 18 → ∀ j, J (a0 + i) j = 0) ∧ (J (a0 + 8) 10 = 0 ∧ J (a0 + 8) 11 = 0 ∧ J (a0 + 8) 12 = 0 ∧ J (a0 + 8) 13 = 0) ∧ J a0 8 = 0 ∧ J a0 9 = 0 ∧ J a0 10 = 0 ∧ J a0 11 = 0 ∧ J a0 12 = 5
section KB
variable {dp : Nat}
set_option maxRecDepth 20000 in
theorem K2 {a0 : Nat} {kd1 : KD} {J1 M1 : JI} {R1 : RF} {z : Nat} {kd : KD} {J M : JI} {R : RF} (hd : 2 ≤ dp) (h : StG a0 3 [] kd1 J1 M1 R1 z kd J M R) : Ev (fun n => kf_2 n dp 0 z kd J M R a0) (fun q => ∃ z' kd' J' M' R', q = ((z', kd', J', M', R'), 18, 1112 + (clN 10).2.2 + 227) ∧ HlN a0 kd1 J1 M1 R1 z' kd' J' M' R') := by
  refine ev_2_0 ?_
  refine Ev_t (by omega) ?_
  refine Ev_al h rfl (fun z1 k1 J1 M1 R1 h => ?_)
  refine Ev_al h rfl (fun z1 k1 J1 M1 R1 h => ?_)
  refine Ev_al h rfl (fun z1 k1 J1 M1 R1 h => ?_)
  refine Ev_al h rfl (fun z1 k1 J1 M1 R1 h => ?_)
  refine Ev_al h rfl (fun z1 k1 J1 M1 R1 h => ?_)
  refine Ev_al h rfl (fun z1 k1 J1 M1 R1 h => ?_)
  refine Ev_al h rfl (fun z1 k1 J1 M1 R1 h => ?_)
  refine Ev_adk (Ev_st (Ev_st (Ev_st (Ev_st (Ev_st (Ev_t (by omega) (Ev_t ⟨by omega, by rw [vu_same]⟩ ?_)))))))
  refine Ev_bind (K3 (by omega) StG_new) ?_
  rintro r ⟨z2, k2, J2, M2, R2, rfl, s, c10, c11, c12, c13⟩
  dsimp only
  have e1 : z1 = a0 + 8 := h.1
  have e2 : z2 = z1 + 1 + 10 := s.1
  have fa := s.2.2.2 a0 (by omega)
  have hc : (a0 < z2) ∧ ((k2 a0).1 = 3) := ⟨by omega, by rw [fa.1]; exact h.2.1⟩
  refine Ev_adk (Ev_t hc (Ev_st (Ev_t hc (Ev_st (Ev_t hc (Ev_st (Ev_t hc (Ev_st (Ev_t hc (Ev_st (Ev_t hc (Ev_st (Ev_ret ?_)))))))))))))
  have tr := TrO_of s
  rw [e1] at tr c10 c11 c12 c13
  refine ⟨_, _, _, _, _, rfl, by omega, ?_, ?_, ?_, ?_, ?_, ?_, ?_, ?_, ?_, ?_, ?_⟩
  · have f : ∀ i, i < 7 → (u2 R2 a0 7 (some z1)) a0 i = some (a0 + 1 + i) ∧ arO (z2, k2, u2 R2 a0 7 (some z1)) (a0 + 1 + i) (hlL.getD i 0) := fun i hi => by
      obtain ⟨q1, q2, q3, q4⟩ := h.2.2.1 i (show i < 7 from hi)
      have fi := s.2.2.2 (a0 + 1 + i) (by omega)
      refine ⟨?_, ?_, ?_, ?_⟩
      · rw [u2_ite, if_neg (by omega), fa.2.1 i]; exact q1
      · show a0 + 1 + i < z2
        omega
      · show (k2 (a0 + 1 + i)).1 = 13
        rw [fi.1]; exact q2
      · show (k2 (a0 + 1 + i)).2 = _
        rw [fi.1]; exact q3
    refine ⟨⟨hc.1, hc.2⟩, f 0 (by decide), f 1 (by decide), f 2 (by decide), f 3 (by decide), f 4 (by decide), f 5 (by decide), f 6 (by decide), ?_⟩
    show (u2 R2 a0 7 (some z1)) a0 7 = some (a0 + 8)
    rw [u2_ite, if_pos ⟨rfl, rfl⟩, e1]
  · refine TrO_R (fun j => ?_) tr
    rw [u2_ite, if_neg (by omega)]
  · intro a ha
    obtain ⟨q1, q2, q3, q4⟩ := s.2.2.2 a (by omega)
    obtain ⟨p1, p2, p3, p4⟩ := h.2.2.2 a ha
    refine ⟨by rw [q1, p1], fun j => ?_, fun j => ?_, fun j => by rw [q4 j, p4 j]⟩
    · rw [u2_ite, if_neg (by omega), q2 j, p2 j]
    · simp (disch := omega) only [w2_o]
      rw [q3 j, p3 j]
  · intro i i1 i2 j
    simp (disch := omega) only [w2_o]
    rw [(s.2.2.2 (a0 + i) (by omega)).2.2.1 j]
    have := (h.2.2.1 (i - 1) (show i - 1 < 7 by omega)).2.2.2 j
    rwa [show a0 + 1 + (i - 1) = a0 + i by omega] at this
  · intro i i1 i2 j
    simp (disch := omega) only [w2_o]
    have := (s.2.2.1 (i - 9) (show i - 9 < 10 by omega)).2.2.2 j
    rwa [show z1 + 1 + (i - 9) = a0 + i by omega] at this
  · simp (disch := omega) only [w2_o]
    exact ⟨c10, c11, c12, c13⟩
  · simp only [w2_ap, true_and, Int.reduceEq, if_true, if_false]
  · simp only [w2_ap, true_and, Int.reduceEq, if_true, if_false]
  · simp only [w2_ap, true_and, Int.reduceEq, if_true, if_false]
  · simp only [w2_ap, true_and, Int.reduceEq, if_true, if_false]
  · simp only [w2_ap, true_and, Int.reduceEq, if_true, if_false]
end KB
theorem dj_i {h tr : Nat} (htr : tr = 9 ∨ tr = 93) (hh : 144 ≤ h) : (∀ j, j ≤ 7 → ¬ 1 = h + j) ∧ (∀ j, j ≤ 7 → ¬ tr = h + j) ∧ ¬ (h + 8 ≤ 1 ∧ 1 ≤ h + 8 + 10) ∧ (h + 8 + 10 < tr ∨ tr + 10 < h + 8) := ⟨fun j hj => by omega, fun j hj => by omega, by omega, by omega⟩
theorem hcp_i {J : JI} {h tr b : Nat} {j : Int} (hh : 144 ≤ h) (hb : b < 144) : hcp J h 1 (h + 8) tr b j = J b j := by
  unfold hcp
  simp (disch := omega) only [w2_o]
  rw [tcp_o (by omega)]
  simp (disch := omega) only [cp2_o]
section OPS
variable {dp : Nat} {z : Nat} {kd : KD} {R : RF} {J M : JI} {P : Int → Nat → KD → RF → JI → JI → Nat → Nat → Prop}
theorem o_image {k : Int} {tr : Nat} (hd : 5 ≤ dp) (hB : Bs J) (hz : 144 ≤ z) (hH : HlO (z, kd, R) 1 tr) (hT : TrO (z, kd, R) tr) (htr : tr = 9 ∨ tr = 93)
    (c10 : 0 ≤ J tr 10 ∧ J tr 10 ≤ 24) (c11 : 0 ≤ J tr 11 ∧ J tr 11 ≤ 16) (c12 : 0 ≤ J tr 12 ∧ J tr 12 ≤ 400)
    (hk : 0 ≤ k ∧ k ≤ 1 → R 20 k.toNat = none ∨ ∃ h, R 20 k.toNat = some h ∧ 144 ≤ h ∧ HlO (z, kd, R) h (h + 8) ∧ TrO (z, kd, R) (h + 8))
    (p1 : ¬ (0 ≤ k ∧ k ≤ 1) → P (-1) z kd R (rfJ J (-1) 0 1) M 0 0)
    (p2 : (0 ≤ k ∧ k ≤ 1) → ∀ h, R 20 k.toNat = some h → P 0 z kd R (okM (w2 (imM (okC (hcp J h 1 (h + 8) tr)) k 1570) 109 k 1)) M 0 0)
    (p3 : (0 ≤ k ∧ k ≤ 1) → R 20 k.toNat = none → ∀ z' kd' J' M' R', HlN z kd J M R z' kd' J' M' R' → P 0 z' kd' (u2 R' 20 k.toNat (some z)) (okM (w2 (imM (okC (hcp J' z 1 (z + 8) tr)) k 1570) 109 k 1)) M' 19 (1112 + (clN 10).2.2 + 227 + (clN 3).2.2)) :
    Ev (fun n => kf_184 n dp 0 z kd J M R k 0) (fun r => Ev (fun n => kf_192 n dp (r.1.2.1, r.1.2.2.1, r.1.2.2.2.2.2) 0 r.1.2.2.2.1 r.1.2.2.2.2.1 k 0) (fun q => ∃ a, r.1.1 = a ∧ q.1 = a ∧ P a r.1.2.1 r.1.2.2.1 r.1.2.2.2.2.2 q.2.1 q.2.2 r.2.1 r.2.2)) := by
  obtain ⟨b0, b1, b2, b3, b4, b5, b6, b7, b8, b9, b10, b11, b12⟩ := hB
  by_cases c : 0 ≤ k ∧ k ≤ 1
  · -- from the second block on
    have one : ∀ z kd R J M h ck cm, 144 ≤ h → HlO (z, kd, R) 1 tr → TrO (z, kd, R) tr → HlO (z, kd, R) h (h + 8) → TrO (z, kd, R) (h + 8) → (0 ≤ J tr 10 ∧ J tr 10 ≤ 24) → (0 ≤ J tr 11 ∧ J tr 11 ≤ 16) → (0 ≤ J tr 12 ∧ J tr 12 ≤ 400) → J 105 0 = 0 → P 0 z kd R (okM (w2 (imM (okC (hcp J h 1 (h + 8) tr)) k 1570) 109 k 1)) M ck cm → Ev (fun n => kf_184 n dp 1 z kd J M R k h) (fun r => Ev (fun n => kf_192 n dp (r.1.2.1, r.1.2.2.1, r.1.2.2.2.2.2) 0 r.1.2.2.2.1 r.1.2.2.2.2.1 k 0) (fun q => ∃ a, r.1.1 = a ∧ q.1 = a ∧ P a r.1.2.1 r.1.2.2.1 r.1.2.2.2.2.2 q.2.1 q.2.2 (r.2.1 + ck) (r.2.2 + cm))) := by
      intro z kd R J M h ck cm h144 x1 x2 x3 x4 x5 x6 x7 x8 x9
      have dj := dj_i htr h144
      refine ev_184_1 ?_
      refine Ev_t (by omega) (Ev_t x3.1 (Ev_call (K185 (by omega) x3 x1 x4 x2 dj.1 dj.2.1 dj.2.2.1 dj.2.2.2 x5 x6 x7) (Ev_t (by omega) (Ev_call K19 (Ev_ret ?_)))))
      dsimp only
      refine ev_192_0 ?_
      refine Ev_th (by show hcp J h 1 (h + 8) tr 105 0 = 0; rw [hcp_i h144 (by decide)]; exact x8) (Ev_t (by omega) (Ev193t c (Ev_f (by decide) ?_)))
      refine Ev_mono (K192 (by omega) c) ?_
      rintro r rfl
      refine ⟨0, rfl, rfl, ?_⟩
      rw [Nat.zero_add, Nat.zero_add]
      exact x9
    refine ev_184_0 ?_
    refine Ev_t (by omega) (Ev14t c (Ev_f (by decide) (Ev_t (by omega) (Ev_st ?_))))
    rcases hk c with k1 | ⟨h, k1, h144, kH, kT⟩
    · rw [k1]
      dsimp only
      refine Ev_adk (Ev_st (Ev_st (Ev_st (Ev_st (Ev_st (Ev_t (by omega) (Ev_t ⟨by omega, by rw [vu_same]⟩ (Ev_bind (K2 (by omega) StG_new) ?_))))))))
      rintro r ⟨z2, k2, J2, M2, R2, rfl, hn⟩
      dsimp only
      have hn' := hn
      obtain ⟨n1, n2, n3, n4, n5, n6, n7, n8⟩ := hn
      refine Ev_adk (Ev_t ⟨n2.1, by omega⟩ (Ev_st ?_))
      have ex : ∀ a, a < z → ¬ a = 20 → k2 a = kd a ∧ ∀ j, u2 R2 20 k.toNat (some z) a j = R a j := fun a ha h20 => ⟨(n4 a ha).1, fun j => by rw [u2_ite, if_neg (fun y => h20 y.1)]; exact (n4 a ha).2.1 j⟩
      have ez : ∀ a, 144 ≤ a → ∀ j, u2 R2 20 k.toNat (some z) a j = R2 a j := fun a ha j => by rw [u2_ite, if_neg (fun y => by omega)]
      have jt : ∀ j, J2 tr j = J tr j := (n4 tr (by omega)).2.2.1
      refine Ev_mono (one z2 k2 (u2 R2 20 k.toNat (some z)) J2 M2 z 19 (1112 + (clN 10).2.2 + 227 + (clN 3).2.2) hz (HlO_ext (by omega) ex (by omega) hH) (TrO_ext (by omega) ex (by omega) hT) (HlO_R (ez z hz) n2) (TrO_R (ez (z + 8) (by omega)) n3) (by rw [jt]; exact c10) (by rw [jt]; exact c11) (by rw [jt]; exact c12) (by rw [(n4 105 (by omega)).2.2.1]; exact b0) (p3 c k1 _ _ _ _ _ hn')) ?_
      intro r hr
      refine Ev_mono hr ?_
      rintro q ⟨a, a1, a2, a3⟩
      exact ⟨a, a1, a2, a3⟩
    · rw [k1]
      dsimp only
      exact one z kd R J M h 0 0 h144 hH hT kH kT c10 c11 c12 b0 (p2 c h k1)
  · refine ev_184_0 ?_
    refine Ev_t (by omega) (Ev14f c (Ev_t rfl (Ev_t (by omega) (Ev_call (K15 (b := -1) (j := 0) (by omega) (by omega) b3) (Ev_ret ?_)))))
    dsimp only
    refine ev_192_0 ?_
    refine Ev_th b0 (Ev_t (by omega) (Ev193f c (Ev_t rfl (Ev_t (by omega) (Ev_call (K194n (b := -1) (j := 1) (by omega) b8 b1 b2) (Ev_ret ⟨_, rfl, rfl, p1 c⟩))))))
end OPS
