/-! 33 CutFloor$Reader.readTree(ILCutFloor$Tree;)I -/
set_option maxHeartbeats 4000000 in
set_option maxRecDepth 100000 in
def g_33 : Nat → Nat → Nat → Nat → (Nat → Nat × Nat) → (Nat → Nat → Int32) → (Nat → Nat → Int64) → (Nat → Nat → Option Nat) → Int32 → Int32 → Nat →  Option ((Int32 × PS) × Nat × Nat)
  | 0, _, _, _, _, _, _, _, _, _, _ => none
  | n + 1, dp, lab, z, kd, I, L, R, i1, i3, a2 =>
    if lab = 0 then (if 1 ≤ dp then (stI (u2 I 104 2 (if (nI 400) < i1 then (nI 400) else i1)) (fun I_10 => (stI (u2 R 104 1 (some a2)) (fun R_15 => ((R_15 104 1).bind (fun b_19 => (if 1 ≤ dp then (if b_19 < z ∧ (kd b_19).1 = 10 then (g_35 n (dp - 1) (z, kd, R_15) 0 I_10 L b_19).bind (fun ⟨I_22, L_22⟩ => (stI (u2 I_22 104 5 (0 : Int32)) (fun I_27 => (stI (u2 I_27 104 7 (0 : Int32)) (fun I_32 => (if 1 ≤ dp then (g_37 n (dp - 1) (z, kd, R_15) 0 I_32 L_22 0).bind (fun ⟨I_36, L_36⟩ => (g_33 n dp 1 z kd I_36 L_36 R_15 i1 (0 : Int32) a2)) else none)))))) else none) else none))))))) else none)
    else if lab = 1 then (if (24 : Int32) ≤ i3 then (some (((I 104 4), z, kd, I, L, R), 0, 0)) else (if 1 ≤ dp then (g_40 n (dp - 1) (z, kd, R) 0 I L i3 0).bind (fun ⟨x_49, I_49, L_49⟩ => (if x_49 = 0 then (some (((I_49 104 4), z, kd, I_49, L_49, R), 0, 0)) else ((R 104 1).bind (fun b_61 => (if b_61 < z ∧ (kd b_61).1 = 10 then (stI (u2 I_49 b_61 10 (i3 + (1 : Int32))) (fun I_67 => (if (I_67 104 3) = 0 then (some (((-1 : Int32), z, kd, I_67, L_49, R), 0, 0)) else (if 1 ≤ dp then (g_59 n (dp - 1) (z, kd, R) 0 I_67 L_49 (59 : Int32)).bind (fun ⟨x_82, I_82, L_82⟩ => (if x_82 = 0 then (some (((I_82 104 4), z, kd, I_82, L_82, R), 0, 0)) else (if 1 ≤ dp then (g_37 n (dp - 1) (z, kd, R) 0 I_82 L_82 0).bind (fun ⟨I_94, L_94⟩ => (g_33 n dp 1 z kd I_94 L_94 R i1 (i3 + Int32.ofInt (1)) a2)) else none))) else none)))) else none))))) else none))
    else none
set_option maxRecDepth 100000 in
theorem e_33_0 (n dp : Nat) (z : Nat) (kd : (Nat → Nat × Nat)) (I : (Nat → Nat → Int32)) (L : (Nat → Nat → Int64)) (R : (Nat → Nat → Option Nat)) (i1 : Int32) (i3 : Int32) (a2 : Nat) : g_33 (n + 1) dp 0 z kd I L R i1 i3 a2 = (if 1 ≤ dp then (stI (u2 I 104 2 (if (nI 400) < i1 then (nI 400) else i1)) (fun I_10 => (stI (u2 R 104 1 (some a2)) (fun R_15 => ((R_15 104 1).bind (fun b_19 => (if 1 ≤ dp then (if b_19 < z ∧ (kd b_19).1 = 10 then (g_35 n (dp - 1) (z, kd, R_15) 0 I_10 L b_19).bind (fun ⟨I_22, L_22⟩ => (stI (u2 I_22 104 5 (0 : Int32)) (fun I_27 => (stI (u2 I_27 104 7 (0 : Int32)) (fun I_32 => (if 1 ≤ dp then (g_37 n (dp - 1) (z, kd, R_15) 0 I_32 L_22 0).bind (fun ⟨I_36, L_36⟩ => (g_33 n dp 1 z kd I_36 L_36 R_15 i1 (0 : Int32) a2)) else none)))))) else none) else none))))))) else none) := by rw [g_33.eq_2, if_pos (show (0 : Nat) = 0 from rfl)]
set_option maxRecDepth 100000 in
theorem e_33_1 (n dp : Nat) (z : Nat) (kd : (Nat → Nat × Nat)) (I : (Nat → Nat → Int32)) (L : (Nat → Nat → Int64)) (R : (Nat → Nat → Option Nat)) (i1 : Int32) (i3 : Int32) (a2 : Nat) : g_33 (n + 1) dp 1 z kd I L R i1 i3 a2 = (if (24 : Int32) ≤ i3 then (some (((I 104 4), z, kd, I, L, R), 0, 0)) else (if 1 ≤ dp then (g_40 n (dp - 1) (z, kd, R) 0 I L i3 0).bind (fun ⟨x_49, I_49, L_49⟩ => (if x_49 = 0 then (some (((I_49 104 4), z, kd, I_49, L_49, R), 0, 0)) else ((R 104 1).bind (fun b_61 => (if b_61 < z ∧ (kd b_61).1 = 10 then (stI (u2 I_49 b_61 10 (i3 + (1 : Int32))) (fun I_67 => (if (I_67 104 3) = 0 then (some (((-1 : Int32), z, kd, I_67, L_49, R), 0, 0)) else (if 1 ≤ dp then (g_59 n (dp - 1) (z, kd, R) 0 I_67 L_49 (59 : Int32)).bind (fun ⟨x_82, I_82, L_82⟩ => (if x_82 = 0 then (some (((I_82 104 4), z, kd, I_82, L_82, R), 0, 0)) else (if 1 ≤ dp then (g_37 n (dp - 1) (z, kd, R) 0 I_82 L_82 0).bind (fun ⟨I_94, L_94⟩ => (g_33 n dp 1 z kd I_94 L_94 R i1 (i3 + Int32.ofInt (1)) a2)) else none))) else none)))) else none))))) else none)) := by rw [g_33.eq_2, if_neg (show ¬ ((1 : Nat) = 0) by decide), if_pos (show (1 : Nat) = 1 from rfl)]
set_option maxHeartbeats 8000000 in
set_option maxRecDepth 100000 in
theorem w_33 (X : GX) : ∀ (n dp d : Nat), dp ≤ d → ∀ (z : Nat) (kd : (Nat → Nat × Nat)) (I : (Nat → Nat → Int32)) (L : (Nat → Nat → Int64)) (R : (Nat → Nat → Option Nat)), Sh z kd R → ∀ (i1 : Int32) (i3 : Int32) (a2 : Nat) (r : Int32) (z1 : Nat) (kd1 : (Nat → Nat × Nat)) (I1 : (Nat → Nat → Int32)) (L1 : (Nat → Nat → Int64)) (R1 : (Nat → Nat → Option Nat)) (k1 m1 : Nat), (g_33 n dp 0 z kd I L R i1 i3 a2 = some ((r, z1, kd1, I1, L1, R1), k1, m1) → ∀ MC MS k m : Nat, k + k1 ≤ MC → m + m1 ≤ MS → K X d 33 MC MS (AI (fun x τ => x = r ∧ τ = (z1, kd1, I1, L1, R1))) 0 [some (.ref 104), some (.int i1), some (.ref a2), none] [] (z, kd, I, L, R) k m) ∧
    (g_33 n dp 1 z kd I L R i1 i3 a2 = some ((r, z1, kd1, I1, L1, R1), k1, m1) → ∀ MC MS k m : Nat, k + k1 ≤ MC → m + m1 ≤ MS → K X d 33 MC MS (AI (fun x τ => x = r ∧ τ = (z1, kd1, I1, L1, R1))) 41 [some (.ref 104), some (.int i1), some (.ref a2), some (.int i3)] [] (z, kd, I, L, R) k m) := by
  intro n
  induction n with
  | zero => intro dp d hdp z kd I L R hS  i1 i3 a2 r z1 kd1 I1 L1 R1 k1 m1; exact ⟨(fun h => by cases h), (fun h => by cases h)⟩
  | succ n ih =>
    intro dp d hdp z kd I L R hS  i1 i3 a2 r z1 kd1 I1 L1 R1 k1 m1
    refine ⟨?_, ?_⟩
    · intro h MC MS k m hMC hMS
      rw [e_33_0] at h
      refine K_of b_33_0 h_33_0 ?_
      refine q_aload rfl ?_
      refine q_iload rfl ?_
      refine q_aload rfl ?_
      refine q_getRs (c0 := 8) (j := 0) rfl rfl (zl hS 104 (by decide)) (sk hS 104 (by decide) rfl) rfl (by decide) (r_104_0 hS) ?_
      refine q_alen (zl hS 89 (by decide)) (sk hS 89 (by decide) rfl) (by decide) (by decide) ?_
      obtain ⟨d_7, h⟩ := ite_some h
      refine q_min (Nat.le_of_ble_eq_true rfl) (Nat.le_trans d_7 hdp) (by omega) (by omega) ?_
      refine q_putI (c0 := 8) (j := 2) rfl rfl (zl hS 104 (by decide)) (sk hS 104 (by decide) rfl) rfl ?_
      obtain ⟨I_10, nI_10, h⟩ := stI_some h
      refine q_nI nI_10 ?_
      refine q_aload rfl ?_
      refine q_aload rfl ?_
      refine q_putR (c0 := 8) (j := 1) rfl rfl (zl hS 104 (by decide)) (sk hS 104 (by decide) rfl) rfl ?_
      obtain ⟨R_15, nR_15, h⟩ := stI_some h
      refine q_nR nR_15 ?_
      have hS_15 : Sh z kd R_15 := by rw [nR_15]; exact Sh_put hS (by decide)
      refine q_aload rfl ?_
      obtain ⟨b_19, r_19, h⟩ := Option.bind_eq_some_iff.mp h
      refine q_getRs (c0 := 8) (j := 1) rfl rfl (zl hS_15 104 (by decide)) (sk hS_15 104 (by decide) rfl) rfl (by decide) r_19 ?_
      obtain ⟨d_22, h⟩ := ite_some h
      obtain ⟨⟨zr_22, kr_22⟩, h⟩ := ite_some h
      obtain ⟨⟨I_22, L_22⟩, e_22, h⟩ := Option.bind_eq_some_iff.mp h
      dsimp only at h
      refine q_fv1V (a_35 X hS_15 (d := d - 1) (by omega) e_22) (by omega) (by omega) (by omega) rfl (Nat.le_of_ble_eq_true rfl) ⟨zr_22, kr_22, by decide⟩ ?_
      refine q_aload rfl ?_
      refine q_iconst (0) (by decide) ?_
      refine q_putI (c0 := 8) (j := 5) rfl rfl (zl hS_15 104 (by decide)) (sk hS_15 104 (by decide) rfl) rfl ?_
      obtain ⟨I_27, nI_27, h⟩ := stI_some h
      refine q_nI nI_27 ?_
      refine q_aload rfl ?_
      refine q_iconst (0) (by decide) ?_
      refine q_putI (c0 := 8) (j := 7) rfl rfl (zl hS_15 104 (by decide)) (sk hS_15 104 (by decide) rfl) rfl ?_
      obtain ⟨I_32, nI_32, h⟩ := stI_some h
      refine q_nI nI_32 ?_
      refine q_aload rfl ?_
      obtain ⟨d_36, h⟩ := ite_some h
      obtain ⟨⟨I_36, L_36⟩, e_36, h⟩ := Option.bind_eq_some_iff.mp h
      dsimp only at h
      refine q_fv1V (a_37 X hS_15 (d := d - 1) (by omega) e_36) (by omega) (by omega) (by omega) rfl (Nat.le_of_ble_eq_true rfl) ⟨(zl hS_15 104 (by decide)), congrArg Prod.fst (sk hS_15 104 (by decide) rfl), by decide⟩ ?_
      refine q_iconst (0) (by decide) ?_
      refine q_istore (ls1 := [some (.ref 104), some (.int i1), some (.ref a2), some (.int (0 : Int32))]) (Nat.le_of_ble_eq_true rfl) rfl ?_
      refine q_end ?_
      exact (ih dp d hdp _ _ _ _ _ hS_15 i1 (0 : Int32) a2 _ _ _ _ _ _ _ _).2 h MC MS _ _ (by omega) (by omega)
    · intro h MC MS k m hMC hMS
      rw [e_33_1] at h
      refine K_of b_33_41 h_33_41 ?_
      refine q_iload rfl ?_
      refine q_iconst (24) (by decide) ?_
      refine q_icmp_ge (fun c_44 => ?_) (fun c_44 => ?_)
      · rw [if_pos c_44] at h
        refine K_of b_33_103 h_33_103 ?_
        refine q_aload rfl ?_
        refine q_getI (c0 := 8) (j := 4) rfl rfl (zl hS 104 (by decide)) (sk hS 104 (by decide) rfl) (Or.inl rfl) (by decide) ?_
        cases h
        exact q_iret rfl (by omega) (by omega) ⟨rfl, rfl⟩
      · rw [if_neg c_44] at h
        refine q_aload rfl ?_
        refine q_iload rfl ?_
        obtain ⟨d_49, h⟩ := ite_some h
        obtain ⟨⟨x_49, I_49, L_49⟩, e_49, h⟩ := Option.bind_eq_some_iff.mp h
        dsimp only at h
        refine q_fv2I (a_40 X hS (d := d - 1) (by omega) e_49) (by omega) (by omega) (by omega) rfl (Nat.le_of_ble_eq_true rfl) ⟨(zl hS 104 (by decide)), congrArg Prod.fst (sk hS 104 (by decide) rfl), by decide⟩ ?_
        refine q_if_ne (fun c_52 => ?_) (fun c_52 => ?_)
        · rw [if_neg c_52] at h
          refine K_of b_33_60 h_33_60 ?_
          refine q_aload rfl ?_
          obtain ⟨b_61, r_61, h⟩ := Option.bind_eq_some_iff.mp h
          refine q_getRs (c0 := 8) (j := 1) rfl rfl (zl hS 104 (by decide)) (sk hS 104 (by decide) rfl) rfl (by decide) r_61 ?_
          refine q_iload rfl ?_
          refine q_iconst (1) (by decide) ?_
          refine q_iadd ?_
          obtain ⟨⟨z_67, k_67⟩, h⟩ := ite_some h
          refine q_putI (c0 := 10) (j := 10) rfl rfl z_67 (fst_eq k_67) rfl ?_
          obtain ⟨I_67, nI_67, h⟩ := stI_some h
          refine q_nI nI_67 ?_
          refine q_aload rfl ?_
          refine q_getI (c0 := 8) (j := 3) rfl rfl (zl hS 104 (by decide)) (sk hS 104 (by decide) rfl) (Or.inl rfl) (by decide) ?_
          refine q_if_ne (fun c_74 => ?_) (fun c_74 => ?_)
          · rw [if_neg c_74] at h
            refine K_of b_33_79 h_33_79 ?_
            refine q_aload rfl ?_
            refine q_iconst (59) (by decide) ?_
            obtain ⟨d_82, h⟩ := ite_some h
            obtain ⟨⟨x_82, I_82, L_82⟩, e_82, h⟩ := Option.bind_eq_some_iff.mp h
            dsimp only at h
            refine q_fv2I (a_59 X hS (d := d - 1) (by omega) e_82) (by omega) (by omega) (by omega) rfl (Nat.le_of_ble_eq_true rfl) ⟨(zl hS 104 (by decide)), congrArg Prod.fst (sk hS 104 (by decide) rfl), by decide⟩ ?_
            refine q_if_ne (fun c_85 => ?_) (fun c_85 => ?_)
            · rw [if_neg c_85] at h
              refine K_of b_33_93 h_33_93 ?_
              refine q_aload rfl ?_
              obtain ⟨d_94, h⟩ := ite_some h
              obtain ⟨⟨I_94, L_94⟩, e_94, h⟩ := Option.bind_eq_some_iff.mp h
              dsimp only at h
              refine q_fv1V (a_37 X hS (d := d - 1) (by omega) e_94) (by omega) (by omega) (by omega) rfl (Nat.le_of_ble_eq_true rfl) ⟨(zl hS 104 (by decide)), congrArg Prod.fst (sk hS 104 (by decide) rfl), by decide⟩ ?_
              refine q_iinc (ls1 := [some (.ref 104), some (.int i1), some (.ref a2), some (.int (i3 + Int32.ofInt (1)))]) rfl rfl ?_
              refine q_goto ?_
              exact (ih dp d hdp _ _ _ _ _ hS i1 (i3 + Int32.ofInt (1)) a2 _ _ _ _ _ _ _ _).2 h MC MS _ _ (by omega) (by omega)
            · rw [if_pos c_85] at h
              refine q_aload rfl ?_
              refine q_getI (c0 := 8) (j := 4) rfl rfl (zl hS 104 (by decide)) (sk hS 104 (by decide) rfl) (Or.inl rfl) (by decide) ?_
              cases h
              exact q_iret rfl (by omega) (by omega) ⟨rfl, rfl⟩
          · rw [if_pos c_74] at h
            refine q_iconst (-1) (by decide) ?_
            cases h
            exact q_iret rfl (by omega) (by omega) ⟨rfl, rfl⟩
        · rw [if_pos c_52] at h
          refine q_aload rfl ?_
          refine q_getI (c0 := 8) (j := 4) rfl rfl (zl hS 104 (by decide)) (sk hS 104 (by decide) rfl) (Or.inl rfl) (by decide) ?_
          cases h
          exact q_iret rfl (by omega) (by omega) ⟨rfl, rfl⟩
set_option maxHeartbeats 8000000 in
set_option maxRecDepth 100000 in
theorem t_33 : ∀ (n dp : Nat) (z : Nat) (kd : (Nat → Nat × Nat)) (I : (Nat → Nat → Int32)) (L : (Nat → Nat → Int64)) (R : (Nat → Nat → Option Nat)), Sh z kd R → ∀ (i1 : Int32) (i3 : Int32) (a2 : Nat) (r : Int32) (z1 : Nat) (kd1 : (Nat → Nat × Nat)) (I1 : (Nat → Nat → Int32)) (L1 : (Nat → Nat → Int64)) (R1 : (Nat → Nat → Option Nat)) (k1 m1 : Nat), (g_33 n dp 0 z kd I L R i1 i3 a2 = some ((r, z1, kd1, I1, L1, R1), k1, m1) → Sh z1 kd1 R1) ∧
    (g_33 n dp 1 z kd I L R i1 i3 a2 = some ((r, z1, kd1, I1, L1, R1), k1, m1) → Sh z1 kd1 R1) := by
  intro n
  induction n with
  | zero => intro dp z kd I L R hS i1 i3 a2 r z1 kd1 I1 L1 R1 k1 m1; exact ⟨(fun h => by cases h), (fun h => by cases h)⟩
  | succ n ih =>
    intro dp z kd I L R hS i1 i3 a2 r z1 kd1 I1 L1 R1 k1 m1
    refine ⟨?_, ?_⟩
    · intro h
      rw [e_33_0] at h
      obtain ⟨d_7, h⟩ := ite_some h
      obtain ⟨I_10, nI_10, h⟩ := stI_some h
      obtain ⟨R_15, nR_15, h⟩ := stI_some h
      have hS_15 : Sh z kd R_15 := by rw [nR_15]; exact Sh_put hS (by decide)
      obtain ⟨b_19, r_19, h⟩ := Option.bind_eq_some_iff.mp h
      obtain ⟨d_22, h⟩ := ite_some h
      obtain ⟨⟨zr_22, kr_22⟩, h⟩ := ite_some h
      obtain ⟨⟨I_22, L_22⟩, e_22, h⟩ := Option.bind_eq_some_iff.mp h
      dsimp only at h
      obtain ⟨I_27, nI_27, h⟩ := stI_some h
      obtain ⟨I_32, nI_32, h⟩ := stI_some h
      obtain ⟨d_36, h⟩ := ite_some h
      obtain ⟨⟨I_36, L_36⟩, e_36, h⟩ := Option.bind_eq_some_iff.mp h
      dsimp only at h
      exact (ih dp _ _ _ _ _ hS_15 i1 (0 : Int32) a2 _ _ _ _ _ _ _ _).2 h
    · intro h
      rw [e_33_1] at h
      by_cases c_44 : (24 : Int32) ≤ i3
      · rw [if_pos c_44] at h
        cases h
        exact hS
      · rw [if_neg c_44] at h
        obtain ⟨d_49, h⟩ := ite_some h
        obtain ⟨⟨x_49, I_49, L_49⟩, e_49, h⟩ := Option.bind_eq_some_iff.mp h
        dsimp only at h
        by_cases c_52 : x_49 = 0
        · rw [if_pos c_52] at h
          cases h
          exact hS
        · rw [if_neg c_52] at h
          obtain ⟨b_61, r_61, h⟩ := Option.bind_eq_some_iff.mp h
          obtain ⟨⟨z_67, k_67⟩, h⟩ := ite_some h
          obtain ⟨I_67, nI_67, h⟩ := stI_some h
          by_cases c_74 : (I_67 104 3) = 0
          · rw [if_pos c_74] at h
            cases h
            exact hS
          · rw [if_neg c_74] at h
            obtain ⟨d_82, h⟩ := ite_some h
            obtain ⟨⟨x_82, I_82, L_82⟩, e_82, h⟩ := Option.bind_eq_some_iff.mp h
            dsimp only at h
            by_cases c_85 : x_82 = 0
            · rw [if_pos c_85] at h
              cases h
              exact hS
            · rw [if_neg c_85] at h
              obtain ⟨d_94, h⟩ := ite_some h
              obtain ⟨⟨I_94, L_94⟩, e_94, h⟩ := Option.bind_eq_some_iff.mp h
              dsimp only at h
              exact (ih dp _ _ _ _ _ hS i1 (i3 + Int32.ofInt (1)) a2 _ _ _ _ _ _ _ _).2 h
theorem a_33 (X : GX) {z : Nat} {kd : (Nat → Nat × Nat)} {I : (Nat → Nat → Int32)} {L : (Nat → Nat → Int64)} {R : (Nat → Nat → Option Nat)} (hS : Sh z kd R) {n dp d : Nat} (hd : dp ≤ d) {i1 : Int32} {a2 : Nat} {r : Int32} {z1 : Nat} {kd1 : (Nat → Nat × Nat)} {I1 : (Nat → Nat → Int32)} {L1 : (Nat → Nat → Int64)} {R1 : (Nat → Nat → Option Nat)} {k1 m1 : Nat} (h : g_33 n dp 0 z kd I L R i1 0 a2 = some ((r, z1, kd1, I1, L1, R1), k1, m1)) : Ct X d 33 k1 m1 [.ref 104, .int i1, .ref a2] (z, kd, I, L, R) (AI (fun x τ => x = r ∧ τ = (z1, kd1, I1, L1, R1))) :=
  Ct_of mu_33 (Nat.le_of_ble_eq_true rfl) ((w_33 X n dp d hd z kd I L R hS i1 0 a2 _ _ _ _ _ _ _ _).1 h k1 m1 0 0 (by omega) (by omega))
theorem s_33 {z : Nat} {kd : (Nat → Nat × Nat)} {I : (Nat → Nat → Int32)} {L : (Nat → Nat → Int64)} {R : (Nat → Nat → Option Nat)} (hS : Sh z kd R) {n dp : Nat} {i1 : Int32} {a2 : Nat} {r : Int32} {z1 : Nat} {kd1 : (Nat → Nat × Nat)} {I1 : (Nat → Nat → Int32)} {L1 : (Nat → Nat → Int64)} {R1 : (Nat → Nat → Option Nat)} {k1 m1 : Nat} (h : g_33 n dp 0 z kd I L R i1 0 a2 = some ((r, z1, kd1, I1, L1, R1), k1, m1)) : Sh z1 kd1 R1 := (t_33 n dp z kd I L R hS i1 0 a2 _ _ _ _ _ _ _ _).1 h

/-! 32 CutFloor.tree()I -/
set_option maxHeartbeats 4000000 in
set_option maxRecDepth 100000 in
def g_32 : Nat → Nat → Nat → Nat → (Nat → Nat × Nat) → (Nat → Nat → Int32) → (Nat → Nat → Int64) → (Nat → Nat → Option Nat) →  Option ((Int32 × PS) × Nat × Nat)
  | 0, _, _, _, _, _, _, _ => none
  | n + 1, dp, lab, z, kd, I, L, R =>
    if lab = 0 then ((R 0 11).bind (fun b_1 => (if 1 ≤ dp then (g_33 n (dp - 1) 0 z kd I L R (I 0 13) 0 b_1).bind (fun ⟨⟨x_15, z_15, kd_15, I_15, L_15, R_15⟩, ck_15, cm_15⟩ => (adk ck_15 cm_15 (stI (u2 I_15 0 15 x_15) (fun I_18 => (stI (u2 I_18 0 13 (0 : Int32)) (fun I_23 => (if (I_23 0 15) = (-1 : Int32) then (stI (u2 I_23 0 14 ((I_23 0 14) + (1 : Int32))) (fun I_48 => (if b_1 < z_15 ∧ (kd_15 b_1).1 = 10 then (stI (u2 I_48 b_1 13 (I_48 0 14)) (fun I_56 => ((R_15 1 7).bind (fun b_64 => (stI (u2 R_15 0 11 (some b_64)) (fun R_67 => (stI (u2 R_67 1 7 (some b_1)) (fun R_75 => (if 1 ≤ dp then (g_21 n (dp - 1) (z_15, kd_15, R_75) 0 I_56 L_15).bind (fun ⟨I_79, L_79⟩ => (if b_1 < z_15 ∧ (kd_15 b_1).1 = 10 then (if 1 ≤ dp then (g_19 n (dp - 1) (z_15, kd_15, R_75) 0 I_79 L_79 (I_79 b_1 10)).bind (fun ⟨x_87, I_87, L_87⟩ => (some ((x_87, z_15, kd_15, I_87, L_87, R_75), 0, 0))) else none) else none)) else none))))))))) else none))) else (if 1 ≤ dp then (g_15 n (dp - 1) (z_15, kd_15, R_15) 0 I_23 L_15 (-6 : Int32)).bind (fun ⟨x_37, I_37, L_37⟩ => (some ((x_37, z_15, kd_15, I_37, L_37, R_15), 0, 0))) else none)))))))) else none)))
    else none
set_option maxRecDepth 100000 in
theorem e_32_0 (n dp : Nat) (z : Nat) (kd : (Nat → Nat × Nat)) (I : (Nat → Nat → Int32)) (L : (Nat → Nat → Int64)) (R : (Nat → Nat → Option Nat)) : g_32 (n + 1) dp 0 z kd I L R = ((R 0 11).bind (fun b_1 => (if 1 ≤ dp then (g_33 n (dp - 1) 0 z kd I L R (I 0 13) 0 b_1).bind (fun ⟨⟨x_15, z_15, kd_15, I_15, L_15, R_15⟩, ck_15, cm_15⟩ => (adk ck_15 cm_15 (stI (u2 I_15 0 15 x_15) (fun I_18 => (stI (u2 I_18 0 13 (0 : Int32)) (fun I_23 => (if (I_23 0 15) = (-1 : Int32) then (stI (u2 I_23 0 14 ((I_23 0 14) + (1 : Int32))) (fun I_48 => (if b_1 < z_15 ∧ (kd_15 b_1).1 = 10 then (stI (u2 I_48 b_1 13 (I_48 0 14)) (fun I_56 => ((R_15 1 7).bind (fun b_64 => (stI (u2 R_15 0 11 (some b_64)) (fun R_67 => (stI (u2 R_67 1 7 (some b_1)) (fun R_75 => (if 1 ≤ dp then (g_21 n (dp - 1) (z_15, kd_15, R_75) 0 I_56 L_15).bind (fun ⟨I_79, L_79⟩ => (if b_1 < z_15 ∧ (kd_15 b_1).1 = 10 then (if 1 ≤ dp then (g_19 n (dp - 1) (z_15, kd_15, R_75) 0 I_79 L_79 (I_79 b_1 10)).bind (fun ⟨x_87, I_87, L_87⟩ => (some ((x_87, z_15, kd_15, I_87, L_87, R_75), 0, 0))) else none) else none)) else none))))))))) else none))) else (if 1 ≤ dp then (g_15 n (dp - 1) (z_15, kd_15, R_15) 0 I_23 L_15 (-6 : Int32)).bind (fun ⟨x_37, I_37, L_37⟩ => (some ((x_37, z_15, kd_15, I_37, L_37, R_15), 0, 0))) else none)))))))) else none))) := by rw [g_32.eq_2, if_pos (show (0 : Nat) = 0 from rfl)]
set_option maxHeartbeats 8000000 in
set_option maxRecDepth 100000 in
theorem w_32 (X : GX) : ∀ (n dp d : Nat), dp ≤ d → ∀ (z : Nat) (kd : (Nat → Nat × Nat)) (I : (Nat → Nat → Int32)) (L : (Nat → Nat → Int64)) (R : (Nat → Nat → Option Nat)), Sh z kd R → ∀ (r : Int32) (z1 : Nat) (kd1 : (Nat → Nat × Nat)) (I1 : (Nat → Nat → Int32)) (L1 : (Nat → Nat → Int64)) (R1 : (Nat → Nat → Option Nat)) (k1 m1 : Nat), (g_32 n dp 0 z kd I L R = some ((r, z1, kd1, I1, L1, R1), k1, m1) → ∀ MC MS k m : Nat, k + k1 ≤ MC → m + m1 ≤ MS → K X d 32 MC MS (AI (fun x τ => x = r ∧ τ = (z1, kd1, I1, L1, R1))) 0 [some (.ref 0), none] [] (z, kd, I, L, R) k m) := by
  intro n
  induction n with
  | zero => intro dp d hdp z kd I L R hS  r z1 kd1 I1 L1 R1 k1 m1; exact fun h => by cases h
  | succ n ih =>
    intro dp d hdp z kd I L R hS  r z1 kd1 I1 L1 R1 k1 m1
    · intro h MC MS k m hMC hMS
      rw [e_32_0] at h
      refine K_of b_32_0 h_32_0 ?_
      refine q_aload rfl ?_
      obtain ⟨b_1, r_1, h⟩ := Option.bind_eq_some_iff.mp h
      refine q_getRs (c0 := 11) (j := 11) rfl rfl (zl hS 0 (by decide)) (sk hS 0 (by decide) rfl) rfl (by decide) r_1 ?_
      refine q_astore (ls1 := [some (.ref 0), some (.ref b_1)]) rfl (Nat.le_of_ble_eq_true rfl) rfl ?_
      refine q_aload rfl ?_
      refine q_aload rfl ?_
      refine q_getRs (c0 := 11) (j := 12) rfl rfl (zl hS 0 (by decide)) (sk hS 0 (by decide) rfl) rfl (by decide) (r_0_12 hS) ?_
      refine q_aload rfl ?_
      refine q_getI (c0 := 11) (j := 13) rfl rfl (zl hS 0 (by decide)) (sk hS 0 (by decide) rfl) (Or.inl rfl) (by decide) ?_
      refine q_aload rfl ?_
      obtain ⟨d_15, h⟩ := ite_some h
      obtain ⟨⟨⟨x_15, z_15, kd_15, I_15, L_15, R_15⟩, ck_15, cm_15⟩, e_15, h⟩ := Option.bind_eq_some_iff.mp h
      dsimp only at h
      obtain ⟨mk_15, ms_15, h, ek_15, em_15⟩ := adk_some h
      refine q_gv3I (a_33 X hS (d := d - 1) (by omega) e_15) (by omega) (by omega) (by omega) rfl (Nat.le_of_ble_eq_true rfl) ⟨(zl hS 104 (by decide)), congrArg Prod.fst (sk hS 104 (by decide) rfl), by decide⟩ ?_
      have hS_15 := s_33 hS e_15
      refine q_putI (c0 := 11) (j := 15) rfl rfl (zl hS_15 0 (by decide)) (sk hS_15 0 (by decide) rfl) rfl ?_
      obtain ⟨I_18, nI_18, h⟩ := stI_some h
      refine q_nI nI_18 ?_
      refine q_aload rfl ?_
      refine q_iconst (0) (by decide) ?_
      refine q_putI (c0 := 11) (j := 13) rfl rfl (zl hS_15 0 (by decide)) (sk hS_15 0 (by decide) rfl) rfl ?_
      obtain ⟨I_23, nI_23, h⟩ := stI_some h
      refine q_nI nI_23 ?_
      refine q_aload rfl ?_
      refine q_getI (c0 := 11) (j := 15) rfl rfl (zl hS_15 0 (by decide)) (sk hS_15 0 (by decide) rfl) (Or.inl rfl) (by decide) ?_
      refine q_iconst (-1) (by decide) ?_
      refine q_icmp_eq (fun c_31 => ?_) (fun c_31 => ?_)
      · rw [if_pos c_31] at h
        refine K_of b_32_41 h_32_41 ?_
        refine q_aload rfl ?_
        refine q_dup rfl ?_
        refine q_getI (c0 := 11) (j := 14) rfl rfl (zl hS_15 0 (by decide)) (sk hS_15 0 (by decide) rfl) (Or.inl rfl) (by decide) ?_
        refine q_iconst (1) (by decide) ?_
        refine q_iadd ?_
        refine q_putI (c0 := 11) (j := 14) rfl rfl (zl hS_15 0 (by decide)) (sk hS_15 0 (by decide) rfl) rfl ?_
        obtain ⟨I_48, nI_48, h⟩ := stI_some h
        refine q_nI nI_48 ?_
        refine q_aload rfl ?_
        refine q_aload rfl ?_
        refine q_getI (c0 := 11) (j := 14) rfl rfl (zl hS_15 0 (by decide)) (sk hS_15 0 (by decide) rfl) (Or.inl rfl) (by decide) ?_
        obtain ⟨⟨z_56, k_56⟩, h⟩ := ite_some h
        refine q_putI (c0 := 10) (j := 13) rfl rfl z_56 (fst_eq k_56) rfl ?_
        obtain ⟨I_56, nI_56, h⟩ := stI_some h
        refine q_nI nI_56 ?_
        refine q_aload rfl ?_
        refine q_aload rfl ?_
        refine q_getRs (c0 := 11) (j := 0) rfl rfl (zl hS_15 0 (by decide)) (sk hS_15 0 (by decide) rfl) rfl (by decide) (r_0_0 hS_15) ?_
        obtain ⟨b_64, r_64, h⟩ := Option.bind_eq_some_iff.mp h
        refine q_getRs (c0 := 3) (j := 7) rfl rfl (zl hS_15 1 (by decide)) (sk hS_15 1 (by decide) rfl) rfl (by decide) r_64 ?_
        refine q_putR (c0 := 11) (j := 11) rfl rfl (zl hS_15 0 (by decide)) (sk hS_15 0 (by decide) rfl) rfl ?_
        obtain ⟨R_67, nR_67, h⟩ := stI_some h
        refine q_nR nR_67 ?_
        have hS_67 : Sh z_15 kd_15 R_67 := by rw [nR_67]; exact Sh_put hS_15 (by decide)
        refine q_aload rfl ?_
        refine q_getRs (c0 := 11) (j := 0) rfl rfl (zl hS_67 0 (by decide)) (sk hS_67 0 (by decide) rfl) rfl (by decide) (r_0_0 hS_67) ?_
        refine q_aload rfl ?_
        refine q_putR (c0 := 3) (j := 7) rfl rfl (zl hS_67 1 (by decide)) (sk hS_67 1 (by decide) rfl) rfl ?_
        obtain ⟨R_75, nR_75, h⟩ := stI_some h
        refine q_nR nR_75 ?_
        have hS_75 : Sh z_15 kd_15 R_75 := by rw [nR_75]; exact Sh_put hS_67 (by decide)
        refine q_aload rfl ?_
        obtain ⟨d_79, h⟩ := ite_some h
        obtain ⟨⟨I_79, L_79⟩, e_79, h⟩ := Option.bind_eq_some_iff.mp h
        dsimp only at h
        refine q_fv1V (a_21 X hS_75 (d := d - 1) (by omega) e_79) (by omega) (by omega) (by omega) rfl (Nat.le_of_ble_eq_true rfl) ⟨(zl hS_75 0 (by decide)), congrArg Prod.fst (sk hS_75 0 (by decide) rfl), by decide⟩ ?_
        refine q_aload rfl ?_
        refine q_aload rfl ?_
        obtain ⟨⟨z_84, k_84⟩, h⟩ := ite_some h
        refine q_getI (c0 := 10) (j := 10) rfl rfl z_84 (fst_eq k_84) (Or.inl rfl) (by decide) ?_
        obtain ⟨d_87, h⟩ := ite_some h
        obtain ⟨⟨x_87, I_87, L_87⟩, e_87, h⟩ := Option.bind_eq_some_iff.mp h
        dsimp only at h
        refine q_fv2I (a_19 X hS_75 (d := d - 1) (by omega) e_87) (by omega) (by omega) (by omega) rfl (Nat.le_of_ble_eq_true rfl) ⟨(zl hS_75 0 (by decide)), congrArg Prod.fst (sk hS_75 0 (by decide) rfl), by decide⟩ ?_
        cases h
        exact q_iret rfl (by omega) (by omega) ⟨rfl, rfl⟩
      · rw [if_neg c_31] at h
        refine q_aload rfl ?_
        refine q_iconst (-6) (by decide) ?_
        obtain ⟨d_37, h⟩ := ite_some h
        obtain ⟨⟨x_37, I_37, L_37⟩, e_37, h⟩ := Option.bind_eq_some_iff.mp h
        dsimp only at h
        refine q_fv2I (a_15 X hS_15 (d := d - 1) (by omega) e_37) (by omega) (by omega) (by omega) rfl (Nat.le_of_ble_eq_true rfl) ⟨(zl hS_15 0 (by decide)), congrArg Prod.fst (sk hS_15 0 (by decide) rfl), by decide⟩ ?_
        cases h
        exact q_iret rfl (by omega) (by omega) ⟨rfl, rfl⟩
set_option maxHeartbeats 8000000 in
set_option maxRecDepth 100000 in
theorem t_32 : ∀ (n dp : Nat) (z : Nat) (kd : (Nat → Nat × Nat)) (I : (Nat → Nat → Int32)) (L : (Nat → Nat → Int64)) (R : (Nat → Nat → Option Nat)), Sh z kd R → ∀ (r : Int32) (z1 : Nat) (kd1 : (Nat → Nat × Nat)) (I1 : (Nat → Nat → Int32)) (L1 : (Nat → Nat → Int64)) (R1 : (Nat → Nat → Option Nat)) (k1 m1 : Nat), (g_32 n dp 0 z kd I L R = some ((r, z1, kd1, I1, L1, R1), k1, m1) → Sh z1 kd1 R1) := by
  intro n
  induction n with
  | zero => intro dp z kd I L R hS r z1 kd1 I1 L1 R1 k1 m1; exact fun h => by cases h
  | succ n ih =>
    intro dp z kd I L R hS r z1 kd1 I1 L1 R1 k1 m1
    · intro h
      rw [e_32_0] at h
      obtain ⟨b_1, r_1, h⟩ := Option.bind_eq_some_iff.mp h
      obtain ⟨d_15, h⟩ := ite_some h
      obtain ⟨⟨⟨x_15, z_15, kd_15, I_15, L_15, R_15⟩, ck_15, cm_15⟩, e_15, h⟩ := Option.bind_eq_some_iff.mp h
      dsimp only at h
      obtain ⟨mk_15, ms_15, h, ek_15, em_15⟩ := adk_some h
      have hS_15 := s_33 hS e_15
      obtain ⟨I_18, nI_18, h⟩ := stI_some h
      obtain ⟨I_23, nI_23, h⟩ := stI_some h
      by_cases c_31 : (I_23 0 15) = (-1 : Int32)
      · rw [if_pos c_31] at h
        obtain ⟨I_48, nI_48, h⟩ := stI_some h
        obtain ⟨⟨z_56, k_56⟩, h⟩ := ite_some h
        obtain ⟨I_56, nI_56, h⟩ := stI_some h
        obtain ⟨b_64, r_64, h⟩ := Option.bind_eq_some_iff.mp h
        obtain ⟨R_67, nR_67, h⟩ := stI_some h
        have hS_67 : Sh z_15 kd_15 R_67 := by rw [nR_67]; exact Sh_put hS_15 (by decide)
        obtain ⟨R_75, nR_75, h⟩ := stI_some h
        have hS_75 : Sh z_15 kd_15 R_75 := by rw [nR_75]; exact Sh_put hS_67 (by decide)
        obtain ⟨d_79, h⟩ := ite_some h
        obtain ⟨⟨I_79, L_79⟩, e_79, h⟩ := Option.bind_eq_some_iff.mp h
        dsimp only at h
        obtain ⟨⟨z_84, k_84⟩, h⟩ := ite_some h
        obtain ⟨d_87, h⟩ := ite_some h
        obtain ⟨⟨x_87, I_87, L_87⟩, e_87, h⟩ := Option.bind_eq_some_iff.mp h
        dsimp only at h
        cases h
        exact hS_75
      · rw [if_neg c_31] at h
        obtain ⟨d_37, h⟩ := ite_some h
        obtain ⟨⟨x_37, I_37, L_37⟩, e_37, h⟩ := Option.bind_eq_some_iff.mp h
        dsimp only at h
        cases h
        exact hS_15
theorem a_32 (X : GX) {z : Nat} {kd : (Nat → Nat × Nat)} {I : (Nat → Nat → Int32)} {L : (Nat → Nat → Int64)} {R : (Nat → Nat → Option Nat)} (hS : Sh z kd R) {n dp d : Nat} (hd : dp ≤ d) {r : Int32} {z1 : Nat} {kd1 : (Nat → Nat × Nat)} {I1 : (Nat → Nat → Int32)} {L1 : (Nat → Nat → Int64)} {R1 : (Nat → Nat → Option Nat)} {k1 m1 : Nat} (h : g_32 n dp 0 z kd I L R = some ((r, z1, kd1, I1, L1, R1), k1, m1)) : Ct X d 32 k1 m1 [.ref 0] (z, kd, I, L, R) (AI (fun x τ => x = r ∧ τ = (z1, kd1, I1, L1, R1))) :=
  Ct_of mu_32 (Nat.le_of_ble_eq_true rfl) ((w_32 X n dp d hd z kd I L R hS _ _ _ _ _ _ _ _) h k1 m1 0 0 (by omega) (by omega))
theorem s_32 {z : Nat} {kd : (Nat → Nat × Nat)} {I : (Nat → Nat → Int32)} {L : (Nat → Nat → Int64)} {R : (Nat → Nat → Option Nat)} (hS : Sh z kd R) {n dp : Nat} {r : Int32} {z1 : Nat} {kd1 : (Nat → Nat × Nat)} {I1 : (Nat → Nat → Int32)} {L1 : (Nat → Nat → Int64)} {R1 : (Nat → Nat → Option Nat)} {k1 m1 : Nat} (h : g_32 n dp 0 z kd I L R = some ((r, z1, kd1, I1, L1, R1), k1, m1)) : Sh z1 kd1 R1 := (t_32 n dp z kd I L R hS _ _ _ _ _ _ _ _) h

