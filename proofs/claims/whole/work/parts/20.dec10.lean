/-! 237 CutFloorModel.behindTest()I -/
set_option maxHeartbeats 4000000 in
set_option maxRecDepth 100000 in
def g_237 : Nat → Nat → EN → Nat → (Nat → Nat → Int32) → (Nat → Nat → Int64) → Int32 →  Option (Int32 × (Nat → Nat → Int32) × (Nat → Nat → Int64))
  | 0, _, _, _, _, _, _ => none
  | n + 1, dp, e, lab, I, L, i1 =>
    if lab = 0 then (if 1 ≤ dp then (g_218 n (dp - 1) e 0 I L (1476 : Int64)).bind (fun ⟨x0_4, I0_4, L0_4⟩ => (if x0_4 = 0 then (if 1 ≤ dp then (g_218 n (dp - 1) e 0 I0_4 L0_4 (498 : Int64)).bind (fun ⟨x1_16, I1_16, L1_16⟩ => (if x1_16 = 0 then (if 1 ≤ dp then (g_235 n (dp - 1) e 0 I1_16 L1_16 0 0).bind (fun ⟨x2_77, I2_77, L2_77⟩ => (if x2_77 = (-1 : Int32) then (some ((4 : Int32), I2_77, L2_77)) else (if 1 ≤ dp then (g_226 n (dp - 1) e 0 I2_77 L2_77 (41 : Int32)).bind (fun ⟨x3_90, I3_90, L3_90⟩ => (if 1 ≤ dp then (g_219 n (dp - 1) e 0 I3_90 L3_90 x3_90).bind (fun ⟨I4_93, L4_93⟩ => (if (I4_93 105 13) = 0 then (if 1 ≤ dp then (g_234 n (dp - 1) e 0 I4_93 L4_93 (1 : Int32)).bind (fun ⟨I5_105, L5_105⟩ => (stI (u2 I5_105 105 22 ((I5_105 105 22) - (1 : Int32))) (fun I_115 => (stI (u2 I_115 105 23 ((I_115 105 23) - (1 : Int32))) (fun I_125 => (some ((2 : Int32), I_125, L5_105))))))) else none) else (some ((2 : Int32), I4_93, L4_93)))) else none)) else none))) else none) else (g_237 n dp e 1 I1_16 L1_16 x0_4))) else none) else (g_237 n dp e 1 I0_4 L0_4 x0_4))) else none)
    else if lab = 1 then (if i1 = 0 then (if 1 ≤ dp then (g_234 n (dp - 1) e 0 I L (1 : Int32)).bind (fun ⟨I0_32, L0_32⟩ => (if i1 = 0 then (if 1 ≤ dp then (g_225 n (dp - 1) e 0 I0_32 L0_32 (29 : Int32) (I0_32 105 16)).bind (fun ⟨I1_51, L1_51⟩ => (if i1 = 0 then (if 1 ≤ dp then (g_231 n (dp - 1) e 0 I1_51 L1_51 (29 : Int32) (0 : Int32)).bind (fun ⟨I2_67, L2_67⟩ => (if 1 ≤ dp then (g_214 n (dp - 1) e 0 I2_67 L2_67).bind (fun ⟨I3_71, L3_71⟩ => (some ((0 : Int32), I3_71, L3_71))) else none)) else none) else (if 1 ≤ dp then (g_231 n (dp - 1) e 0 I1_51 L1_51 (28 : Int32) (0 : Int32)).bind (fun ⟨I2_67, L2_67⟩ => (if 1 ≤ dp then (g_214 n (dp - 1) e 0 I2_67 L2_67).bind (fun ⟨I3_71, L3_71⟩ => (some ((0 : Int32), I3_71, L3_71))) else none)) else none))) else none) else (if 1 ≤ dp then (g_225 n (dp - 1) e 0 I0_32 L0_32 (28 : Int32) (I0_32 105 16)).bind (fun ⟨I1_51, L1_51⟩ => (if i1 = 0 then (if 1 ≤ dp then (g_231 n (dp - 1) e 0 I1_51 L1_51 (29 : Int32) (0 : Int32)).bind (fun ⟨I2_67, L2_67⟩ => (if 1 ≤ dp then (g_214 n (dp - 1) e 0 I2_67 L2_67).bind (fun ⟨I3_71, L3_71⟩ => (some ((0 : Int32), I3_71, L3_71))) else none)) else none) else (if 1 ≤ dp then (g_231 n (dp - 1) e 0 I1_51 L1_51 (28 : Int32) (0 : Int32)).bind (fun ⟨I2_67, L2_67⟩ => (if 1 ≤ dp then (g_214 n (dp - 1) e 0 I2_67 L2_67).bind (fun ⟨I3_71, L3_71⟩ => (some ((0 : Int32), I3_71, L3_71))) else none)) else none))) else none))) else none) else (if 1 ≤ dp then (g_234 n (dp - 1) e 0 I L (2 : Int32)).bind (fun ⟨I0_32, L0_32⟩ => (if i1 = 0 then (if 1 ≤ dp then (g_225 n (dp - 1) e 0 I0_32 L0_32 (29 : Int32) (I0_32 105 16)).bind (fun ⟨I1_51, L1_51⟩ => (if i1 = 0 then (if 1 ≤ dp then (g_231 n (dp - 1) e 0 I1_51 L1_51 (29 : Int32) (0 : Int32)).bind (fun ⟨I2_67, L2_67⟩ => (if 1 ≤ dp then (g_214 n (dp - 1) e 0 I2_67 L2_67).bind (fun ⟨I3_71, L3_71⟩ => (some ((0 : Int32), I3_71, L3_71))) else none)) else none) else (if 1 ≤ dp then (g_231 n (dp - 1) e 0 I1_51 L1_51 (28 : Int32) (0 : Int32)).bind (fun ⟨I2_67, L2_67⟩ => (if 1 ≤ dp then (g_214 n (dp - 1) e 0 I2_67 L2_67).bind (fun ⟨I3_71, L3_71⟩ => (some ((0 : Int32), I3_71, L3_71))) else none)) else none))) else none) else (if 1 ≤ dp then (g_225 n (dp - 1) e 0 I0_32 L0_32 (28 : Int32) (I0_32 105 16)).bind (fun ⟨I1_51, L1_51⟩ => (if i1 = 0 then (if 1 ≤ dp then (g_231 n (dp - 1) e 0 I1_51 L1_51 (29 : Int32) (0 : Int32)).bind (fun ⟨I2_67, L2_67⟩ => (if 1 ≤ dp then (g_214 n (dp - 1) e 0 I2_67 L2_67).bind (fun ⟨I3_71, L3_71⟩ => (some ((0 : Int32), I3_71, L3_71))) else none)) else none) else (if 1 ≤ dp then (g_231 n (dp - 1) e 0 I1_51 L1_51 (28 : Int32) (0 : Int32)).bind (fun ⟨I2_67, L2_67⟩ => (if 1 ≤ dp then (g_214 n (dp - 1) e 0 I2_67 L2_67).bind (fun ⟨I3_71, L3_71⟩ => (some ((0 : Int32), I3_71, L3_71))) else none)) else none))) else none))) else none))
    else none
set_option maxRecDepth 100000 in
theorem e_237_0 (n dp : Nat) (e : EN) (I : (Nat → Nat → Int32)) (L : (Nat → Nat → Int64)) (i1 : Int32) : g_237 (n + 1) dp e 0 I L i1 = (if 1 ≤ dp then (g_218 n (dp - 1) e 0 I L (1476 : Int64)).bind (fun ⟨x0_4, I0_4, L0_4⟩ => (if x0_4 = 0 then (if 1 ≤ dp then (g_218 n (dp - 1) e 0 I0_4 L0_4 (498 : Int64)).bind (fun ⟨x1_16, I1_16, L1_16⟩ => (if x1_16 = 0 then (if 1 ≤ dp then (g_235 n (dp - 1) e 0 I1_16 L1_16 0 0).bind (fun ⟨x2_77, I2_77, L2_77⟩ => (if x2_77 = (-1 : Int32) then (some ((4 : Int32), I2_77, L2_77)) else (if 1 ≤ dp then (g_226 n (dp - 1) e 0 I2_77 L2_77 (41 : Int32)).bind (fun ⟨x3_90, I3_90, L3_90⟩ => (if 1 ≤ dp then (g_219 n (dp - 1) e 0 I3_90 L3_90 x3_90).bind (fun ⟨I4_93, L4_93⟩ => (if (I4_93 105 13) = 0 then (if 1 ≤ dp then (g_234 n (dp - 1) e 0 I4_93 L4_93 (1 : Int32)).bind (fun ⟨I5_105, L5_105⟩ => (stI (u2 I5_105 105 22 ((I5_105 105 22) - (1 : Int32))) (fun I_115 => (stI (u2 I_115 105 23 ((I_115 105 23) - (1 : Int32))) (fun I_125 => (some ((2 : Int32), I_125, L5_105))))))) else none) else (some ((2 : Int32), I4_93, L4_93)))) else none)) else none))) else none) else (g_237 n dp e 1 I1_16 L1_16 x0_4))) else none) else (g_237 n dp e 1 I0_4 L0_4 x0_4))) else none) := by rw [g_237.eq_2, if_pos (show (0 : Nat) = 0 from rfl)]
set_option maxRecDepth 100000 in
theorem e_237_1 (n dp : Nat) (e : EN) (I : (Nat → Nat → Int32)) (L : (Nat → Nat → Int64)) (i1 : Int32) : g_237 (n + 1) dp e 1 I L i1 = (if i1 = 0 then (if 1 ≤ dp then (g_234 n (dp - 1) e 0 I L (1 : Int32)).bind (fun ⟨I0_32, L0_32⟩ => (if i1 = 0 then (if 1 ≤ dp then (g_225 n (dp - 1) e 0 I0_32 L0_32 (29 : Int32) (I0_32 105 16)).bind (fun ⟨I1_51, L1_51⟩ => (if i1 = 0 then (if 1 ≤ dp then (g_231 n (dp - 1) e 0 I1_51 L1_51 (29 : Int32) (0 : Int32)).bind (fun ⟨I2_67, L2_67⟩ => (if 1 ≤ dp then (g_214 n (dp - 1) e 0 I2_67 L2_67).bind (fun ⟨I3_71, L3_71⟩ => (some ((0 : Int32), I3_71, L3_71))) else none)) else none) else (if 1 ≤ dp then (g_231 n (dp - 1) e 0 I1_51 L1_51 (28 : Int32) (0 : Int32)).bind (fun ⟨I2_67, L2_67⟩ => (if 1 ≤ dp then (g_214 n (dp - 1) e 0 I2_67 L2_67).bind (fun ⟨I3_71, L3_71⟩ => (some ((0 : Int32), I3_71, L3_71))) else none)) else none))) else none) else (if 1 ≤ dp then (g_225 n (dp - 1) e 0 I0_32 L0_32 (28 : Int32) (I0_32 105 16)).bind (fun ⟨I1_51, L1_51⟩ => (if i1 = 0 then (if 1 ≤ dp then (g_231 n (dp - 1) e 0 I1_51 L1_51 (29 : Int32) (0 : Int32)).bind (fun ⟨I2_67, L2_67⟩ => (if 1 ≤ dp then (g_214 n (dp - 1) e 0 I2_67 L2_67).bind (fun ⟨I3_71, L3_71⟩ => (some ((0 : Int32), I3_71, L3_71))) else none)) else none) else (if 1 ≤ dp then (g_231 n (dp - 1) e 0 I1_51 L1_51 (28 : Int32) (0 : Int32)).bind (fun ⟨I2_67, L2_67⟩ => (if 1 ≤ dp then (g_214 n (dp - 1) e 0 I2_67 L2_67).bind (fun ⟨I3_71, L3_71⟩ => (some ((0 : Int32), I3_71, L3_71))) else none)) else none))) else none))) else none) else (if 1 ≤ dp then (g_234 n (dp - 1) e 0 I L (2 : Int32)).bind (fun ⟨I0_32, L0_32⟩ => (if i1 = 0 then (if 1 ≤ dp then (g_225 n (dp - 1) e 0 I0_32 L0_32 (29 : Int32) (I0_32 105 16)).bind (fun ⟨I1_51, L1_51⟩ => (if i1 = 0 then (if 1 ≤ dp then (g_231 n (dp - 1) e 0 I1_51 L1_51 (29 : Int32) (0 : Int32)).bind (fun ⟨I2_67, L2_67⟩ => (if 1 ≤ dp then (g_214 n (dp - 1) e 0 I2_67 L2_67).bind (fun ⟨I3_71, L3_71⟩ => (some ((0 : Int32), I3_71, L3_71))) else none)) else none) else (if 1 ≤ dp then (g_231 n (dp - 1) e 0 I1_51 L1_51 (28 : Int32) (0 : Int32)).bind (fun ⟨I2_67, L2_67⟩ => (if 1 ≤ dp then (g_214 n (dp - 1) e 0 I2_67 L2_67).bind (fun ⟨I3_71, L3_71⟩ => (some ((0 : Int32), I3_71, L3_71))) else none)) else none))) else none) else (if 1 ≤ dp then (g_225 n (dp - 1) e 0 I0_32 L0_32 (28 : Int32) (I0_32 105 16)).bind (fun ⟨I1_51, L1_51⟩ => (if i1 = 0 then (if 1 ≤ dp then (g_231 n (dp - 1) e 0 I1_51 L1_51 (29 : Int32) (0 : Int32)).bind (fun ⟨I2_67, L2_67⟩ => (if 1 ≤ dp then (g_214 n (dp - 1) e 0 I2_67 L2_67).bind (fun ⟨I3_71, L3_71⟩ => (some ((0 : Int32), I3_71, L3_71))) else none)) else none) else (if 1 ≤ dp then (g_231 n (dp - 1) e 0 I1_51 L1_51 (28 : Int32) (0 : Int32)).bind (fun ⟨I2_67, L2_67⟩ => (if 1 ≤ dp then (g_214 n (dp - 1) e 0 I2_67 L2_67).bind (fun ⟨I3_71, L3_71⟩ => (some ((0 : Int32), I3_71, L3_71))) else none)) else none))) else none))) else none)) := by rw [g_237.eq_2, if_neg (show ¬ ((1 : Nat) = 0) by decide), if_pos (show (1 : Nat) = 1 from rfl)]
set_option maxHeartbeats 8000000 in
set_option maxRecDepth 100000 in
theorem w_237 (X : GX) {z : Nat} {kd : Nat → Nat × Nat} {Rf : Nat → Nat → Option Nat} (hS : Sh z kd Rf) : ∀ (n dp d : Nat), dp ≤ d → ∀ (I : (Nat → Nat → Int32)) (L : (Nat → Nat → Int64)) (i1 : Int32) (r : Int32) (I1 : (Nat → Nat → Int32)) (L1 : (Nat → Nat → Int64)), (g_237 n dp (z, kd, Rf) 0 I L i1 = some (r, I1, L1) → K X d 237 0 0 (AI (fun x τ => x = r ∧ τ = (z, kd, I1, L1, Rf))) 0 [some (.ref 105), none] [] (z, kd, I, L, Rf) 0 0) ∧
    (g_237 n dp (z, kd, Rf) 1 I L i1 = some (r, I1, L1) → K X d 237 0 0 (AI (fun x τ => x = r ∧ τ = (z, kd, I1, L1, Rf))) 22 [some (.ref 105), some (.int i1)] [] (z, kd, I, L, Rf) 0 0) := by
  intro n
  induction n with
  | zero => intro dp d hdp I L i1 r I1 L1; exact ⟨(fun h => by cases h), (fun h => by cases h)⟩
  | succ n ih =>
    intro dp d hdp I L i1 r I1 L1
    refine ⟨?_, ?_⟩
    · intro h
      rw [e_237_0] at h
      refine K_of b_237_0 h_237_0 ?_
      refine q_aload rfl ?_
      refine q_lconst (1476) (by decide) ?_
      obtain ⟨d_4, h⟩ := ite_some h
      obtain ⟨⟨x0_4, I0_4, L0_4⟩, e_4, h⟩ := Option.bind_eq_some_iff.mp h
      dsimp only at h
      refine q_fv2I (a_218 X hS (d := d - 1) (by omega) e_4) (by omega) (Nat.le_refl _) (Nat.le_refl _) rfl (Nat.le_of_ble_eq_true rfl) ⟨(zl hS 105 (by decide)), congrArg Prod.fst (sk hS 105 (by decide) rfl), by decide⟩ ?_
      refine q_istore (ls1 := [some (.ref 105), some (.int x0_4)]) (Nat.le_of_ble_eq_true rfl) rfl ?_
      refine q_iload rfl ?_
      refine q_if_ne (fun c_9 => ?_) (fun c_9 => ?_)
      · rw [if_neg c_9] at h
        exact (ih dp d hdp _ _ x0_4 _ _ _).2 h
      · rw [if_pos c_9] at h
        refine q_aload rfl ?_
        refine q_lconst (498) (by decide) ?_
        obtain ⟨d_16, h⟩ := ite_some h
        obtain ⟨⟨x1_16, I1_16, L1_16⟩, e_16, h⟩ := Option.bind_eq_some_iff.mp h
        dsimp only at h
        refine q_fv2I (a_218 X hS (d := d - 1) (by omega) e_16) (by omega) (Nat.le_refl _) (Nat.le_refl _) rfl (Nat.le_of_ble_eq_true rfl) ⟨(zl hS 105 (by decide)), congrArg Prod.fst (sk hS 105 (by decide) rfl), by decide⟩ ?_
        refine q_if_eq (fun c_19 => ?_) (fun c_19 => ?_)
        · rw [if_pos c_19] at h
          refine K_of b_237_76 h_237_76 ?_
          refine q_aload rfl ?_
          obtain ⟨d_77, h⟩ := ite_some h
          obtain ⟨⟨x2_77, I2_77, L2_77⟩, e_77, h⟩ := Option.bind_eq_some_iff.mp h
          dsimp only at h
          refine q_fv1I (a_235 X hS (d := d - 1) (by omega) e_77) (by omega) (Nat.le_refl _) (Nat.le_refl _) rfl (Nat.le_of_ble_eq_true rfl) ⟨(zl hS 105 (by decide)), congrArg Prod.fst (sk hS 105 (by decide) rfl), by decide⟩ ?_
          refine q_iconst (-1) (by decide) ?_
          refine q_icmp_ne (fun c_81 => ?_) (fun c_81 => ?_)
          · rw [if_neg c_81] at h
            refine K_of b_237_86 h_237_86 ?_
            refine q_aload rfl ?_
            refine q_aload rfl ?_
            refine q_iconst (41) (by decide) ?_
            obtain ⟨d_90, h⟩ := ite_some h
            obtain ⟨⟨x3_90, I3_90, L3_90⟩, e_90, h⟩ := Option.bind_eq_some_iff.mp h
            dsimp only at h
            refine q_fv2I (a_226 X hS (d := d - 1) (by omega) e_90) (by omega) (Nat.le_refl _) (Nat.le_refl _) rfl (Nat.le_of_ble_eq_true rfl) ⟨(zl hS 105 (by decide)), congrArg Prod.fst (sk hS 105 (by decide) rfl), by decide⟩ ?_
            obtain ⟨d_93, h⟩ := ite_some h
            obtain ⟨⟨I4_93, L4_93⟩, e_93, h⟩ := Option.bind_eq_some_iff.mp h
            dsimp only at h
            refine q_fv2V (a_219 X hS (d := d - 1) (by omega) e_93) (by omega) (Nat.le_refl _) (Nat.le_refl _) rfl (Nat.le_of_ble_eq_true rfl) ⟨(zl hS 105 (by decide)), congrArg Prod.fst (sk hS 105 (by decide) rfl), by decide⟩ ?_
            refine q_aload rfl ?_
            refine q_getI (c0 := 12) (j := 13) rfl rfl (zl hS 105 (by decide)) (sk hS 105 (by decide) rfl) (Or.inr rfl) (by decide) ?_
            refine q_if_ne (fun c_100 => ?_) (fun c_100 => ?_)
            · rw [if_neg c_100] at h
              refine K_of b_237_128 h_237_128 ?_
              refine q_iconst (2) (by decide) ?_
              cases h
              exact q_iret rfl (Nat.le_refl _) (Nat.le_refl _) ⟨rfl, rfl⟩
            · rw [if_pos c_100] at h
              refine q_aload rfl ?_
              refine q_iconst (1) (by decide) ?_
              obtain ⟨d_105, h⟩ := ite_some h
              obtain ⟨⟨I5_105, L5_105⟩, e_105, h⟩ := Option.bind_eq_some_iff.mp h
              dsimp only at h
              refine q_fv2V (a_234 X hS (d := d - 1) (by omega) e_105) (by omega) (Nat.le_refl _) (Nat.le_refl _) rfl (Nat.le_of_ble_eq_true rfl) ⟨(zl hS 105 (by decide)), congrArg Prod.fst (sk hS 105 (by decide) rfl), by decide⟩ ?_
              refine q_aload rfl ?_
              refine q_dup rfl ?_
              refine q_getI (c0 := 12) (j := 22) rfl rfl (zl hS 105 (by decide)) (sk hS 105 (by decide) rfl) (Or.inl rfl) (by decide) ?_
              refine q_iconst (1) (by decide) ?_
              refine q_isub ?_
              refine q_putI (c0 := 12) (j := 22) rfl rfl (zl hS 105 (by decide)) (sk hS 105 (by decide) rfl) rfl ?_
              obtain ⟨I_115, nI_115, h⟩ := stI_some h
              refine q_nI nI_115 ?_
              refine q_aload rfl ?_
              refine q_dup rfl ?_
              refine q_getI (c0 := 12) (j := 23) rfl rfl (zl hS 105 (by decide)) (sk hS 105 (by decide) rfl) (Or.inl rfl) (by decide) ?_
              refine q_iconst (1) (by decide) ?_
              refine q_isub ?_
              refine q_putI (c0 := 12) (j := 23) rfl rfl (zl hS 105 (by decide)) (sk hS 105 (by decide) rfl) rfl ?_
              obtain ⟨I_125, nI_125, h⟩ := stI_some h
              refine q_nI nI_125 ?_
              refine q_end ?_
              refine K_of b_237_128 h_237_128 ?_
              refine q_iconst (2) (by decide) ?_
              cases h
              exact q_iret rfl (Nat.le_refl _) (Nat.le_refl _) ⟨rfl, rfl⟩
          · rw [if_pos c_81] at h
            refine q_iconst (4) (by decide) ?_
            cases h
            exact q_iret rfl (Nat.le_refl _) (Nat.le_refl _) ⟨rfl, rfl⟩
        · rw [if_neg c_19] at h
          refine q_end ?_
          exact (ih dp d hdp _ _ x0_4 _ _ _).2 h
    · intro h
      rw [e_237_1] at h
      refine K_of b_237_22 h_237_22 ?_
      refine q_aload rfl ?_
      refine q_iload rfl ?_
      refine q_if_eq (fun c_24 => ?_) (fun c_24 => ?_)
      · rw [if_pos c_24] at h
        refine K_of b_237_31 h_237_31 ?_
        refine q_iconst (1) (by decide) ?_
        refine q_end ?_
        refine K_of b_237_32 h_237_32 ?_
        obtain ⟨d_32, h⟩ := ite_some h
        obtain ⟨⟨I0_32, L0_32⟩, e_32, h⟩ := Option.bind_eq_some_iff.mp h
        dsimp only at h
        refine q_fv2V (a_234 X hS (d := d - 1) (by omega) e_32) (by omega) (Nat.le_refl _) (Nat.le_refl _) rfl (Nat.le_of_ble_eq_true rfl) ⟨(zl hS 105 (by decide)), congrArg Prod.fst (sk hS 105 (by decide) rfl), by decide⟩ ?_
        refine q_aload rfl ?_
        refine q_iload rfl ?_
        refine q_if_eq (fun c_37 => ?_) (fun c_37 => ?_)
        · rw [if_pos c_37] at h
          refine K_of b_237_45 h_237_45 ?_
          refine q_iconst (29) (by decide) ?_
          refine q_end ?_
          refine K_of b_237_47 h_237_47 ?_
          refine q_aload rfl ?_
          refine q_getI (c0 := 12) (j := 16) rfl rfl (zl hS 105 (by decide)) (sk hS 105 (by decide) rfl) (Or.inl rfl) (by decide) ?_
          obtain ⟨d_51, h⟩ := ite_some h
          obtain ⟨⟨I1_51, L1_51⟩, e_51, h⟩ := Option.bind_eq_some_iff.mp h
          dsimp only at h
          refine q_fv3V (a_225 X hS (d := d - 1) (by omega) e_51) (by omega) (Nat.le_refl _) (Nat.le_refl _) rfl (Nat.le_of_ble_eq_true rfl) ⟨(zl hS 105 (by decide)), congrArg Prod.fst (sk hS 105 (by decide) rfl), by decide⟩ ?_
          refine q_aload rfl ?_
          refine q_iload rfl ?_
          refine q_if_eq (fun c_56 => ?_) (fun c_56 => ?_)
          · rw [if_pos c_56] at h
            refine K_of b_237_64 h_237_64 ?_
            refine q_iconst (29) (by decide) ?_
            refine q_end ?_
            refine K_of b_237_66 h_237_66 ?_
            refine q_iconst (0) (by decide) ?_
            obtain ⟨d_67, h⟩ := ite_some h
            obtain ⟨⟨I2_67, L2_67⟩, e_67, h⟩ := Option.bind_eq_some_iff.mp h
            dsimp only at h
            refine q_fv3V (a_231 X hS (d := d - 1) (by omega) e_67) (by omega) (Nat.le_refl _) (Nat.le_refl _) rfl (Nat.le_of_ble_eq_true rfl) ⟨(zl hS 105 (by decide)), congrArg Prod.fst (sk hS 105 (by decide) rfl), by decide⟩ ?_
            refine q_aload rfl ?_
            obtain ⟨d_71, h⟩ := ite_some h
            obtain ⟨⟨I3_71, L3_71⟩, e_71, h⟩ := Option.bind_eq_some_iff.mp h
            dsimp only at h
            refine q_fv1V (a_214 X hS (d := d - 1) (by omega) e_71) (by omega) (Nat.le_refl _) (Nat.le_refl _) rfl (Nat.le_of_ble_eq_true rfl) ⟨(zl hS 105 (by decide)), congrArg Prod.fst (sk hS 105 (by decide) rfl), by decide⟩ ?_
            refine q_iconst (0) (by decide) ?_
            cases h
            exact q_iret rfl (Nat.le_refl _) (Nat.le_refl _) ⟨rfl, rfl⟩
          · rw [if_neg c_56] at h
            refine q_iconst (28) (by decide) ?_
            refine q_goto ?_
            refine K_of b_237_66 h_237_66 ?_
            refine q_iconst (0) (by decide) ?_
            obtain ⟨d_67, h⟩ := ite_some h
            obtain ⟨⟨I2_67, L2_67⟩, e_67, h⟩ := Option.bind_eq_some_iff.mp h
            dsimp only at h
            refine q_fv3V (a_231 X hS (d := d - 1) (by omega) e_67) (by omega) (Nat.le_refl _) (Nat.le_refl _) rfl (Nat.le_of_ble_eq_true rfl) ⟨(zl hS 105 (by decide)), congrArg Prod.fst (sk hS 105 (by decide) rfl), by decide⟩ ?_
            refine q_aload rfl ?_
            obtain ⟨d_71, h⟩ := ite_some h
            obtain ⟨⟨I3_71, L3_71⟩, e_71, h⟩ := Option.bind_eq_some_iff.mp h
            dsimp only at h
            refine q_fv1V (a_214 X hS (d := d - 1) (by omega) e_71) (by omega) (Nat.le_refl _) (Nat.le_refl _) rfl (Nat.le_of_ble_eq_true rfl) ⟨(zl hS 105 (by decide)), congrArg Prod.fst (sk hS 105 (by decide) rfl), by decide⟩ ?_
            refine q_iconst (0) (by decide) ?_
            cases h
            exact q_iret rfl (Nat.le_refl _) (Nat.le_refl _) ⟨rfl, rfl⟩
        · rw [if_neg c_37] at h
          refine q_iconst (28) (by decide) ?_
          refine q_goto ?_
          refine K_of b_237_47 h_237_47 ?_
          refine q_aload rfl ?_
          refine q_getI (c0 := 12) (j := 16) rfl rfl (zl hS 105 (by decide)) (sk hS 105 (by decide) rfl) (Or.inl rfl) (by decide) ?_
          obtain ⟨d_51, h⟩ := ite_some h
          obtain ⟨⟨I1_51, L1_51⟩, e_51, h⟩ := Option.bind_eq_some_iff.mp h
          dsimp only at h
          refine q_fv3V (a_225 X hS (d := d - 1) (by omega) e_51) (by omega) (Nat.le_refl _) (Nat.le_refl _) rfl (Nat.le_of_ble_eq_true rfl) ⟨(zl hS 105 (by decide)), congrArg Prod.fst (sk hS 105 (by decide) rfl), by decide⟩ ?_
          refine q_aload rfl ?_
          refine q_iload rfl ?_
          refine q_if_eq (fun c_56 => ?_) (fun c_56 => ?_)
          · rw [if_pos c_56] at h
            refine K_of b_237_64 h_237_64 ?_
            refine q_iconst (29) (by decide) ?_
            refine q_end ?_
            refine K_of b_237_66 h_237_66 ?_
            refine q_iconst (0) (by decide) ?_
            obtain ⟨d_67, h⟩ := ite_some h
            obtain ⟨⟨I2_67, L2_67⟩, e_67, h⟩ := Option.bind_eq_some_iff.mp h
            dsimp only at h
            refine q_fv3V (a_231 X hS (d := d - 1) (by omega) e_67) (by omega) (Nat.le_refl _) (Nat.le_refl _) rfl (Nat.le_of_ble_eq_true rfl) ⟨(zl hS 105 (by decide)), congrArg Prod.fst (sk hS 105 (by decide) rfl), by decide⟩ ?_
            refine q_aload rfl ?_
            obtain ⟨d_71, h⟩ := ite_some h
            obtain ⟨⟨I3_71, L3_71⟩, e_71, h⟩ := Option.bind_eq_some_iff.mp h
            dsimp only at h
            refine q_fv1V (a_214 X hS (d := d - 1) (by omega) e_71) (by omega) (Nat.le_refl _) (Nat.le_refl _) rfl (Nat.le_of_ble_eq_true rfl) ⟨(zl hS 105 (by decide)), congrArg Prod.fst (sk hS 105 (by decide) rfl), by decide⟩ ?_
            refine q_iconst (0) (by decide) ?_
            cases h
            exact q_iret rfl (Nat.le_refl _) (Nat.le_refl _) ⟨rfl, rfl⟩
          · rw [if_neg c_56] at h
            refine q_iconst (28) (by decide) ?_
            refine q_goto ?_
            refine K_of b_237_66 h_237_66 ?_
            refine q_iconst (0) (by decide) ?_
            obtain ⟨d_67, h⟩ := ite_some h
            obtain ⟨⟨I2_67, L2_67⟩, e_67, h⟩ := Option.bind_eq_some_iff.mp h
            dsimp only at h
            refine q_fv3V (a_231 X hS (d := d - 1) (by omega) e_67) (by omega) (Nat.le_refl _) (Nat.le_refl _) rfl (Nat.le_of_ble_eq_true rfl) ⟨(zl hS 105 (by decide)), congrArg Prod.fst (sk hS 105 (by decide) rfl), by decide⟩ ?_
            refine q_aload rfl ?_
            obtain ⟨d_71, h⟩ := ite_some h
            obtain ⟨⟨I3_71, L3_71⟩, e_71, h⟩ := Option.bind_eq_some_iff.mp h
            dsimp only at h
            refine q_fv1V (a_214 X hS (d := d - 1) (by omega) e_71) (by omega) (Nat.le_refl _) (Nat.le_refl _) rfl (Nat.le_of_ble_eq_true rfl) ⟨(zl hS 105 (by decide)), congrArg Prod.fst (sk hS 105 (by decide) rfl), by decide⟩ ?_
            refine q_iconst (0) (by decide) ?_
            cases h
            exact q_iret rfl (Nat.le_refl _) (Nat.le_refl _) ⟨rfl, rfl⟩
      · rw [if_neg c_24] at h
        refine q_iconst (2) (by decide) ?_
        refine q_goto ?_
        refine K_of b_237_32 h_237_32 ?_
        obtain ⟨d_32, h⟩ := ite_some h
        obtain ⟨⟨I0_32, L0_32⟩, e_32, h⟩ := Option.bind_eq_some_iff.mp h
        dsimp only at h
        refine q_fv2V (a_234 X hS (d := d - 1) (by omega) e_32) (by omega) (Nat.le_refl _) (Nat.le_refl _) rfl (Nat.le_of_ble_eq_true rfl) ⟨(zl hS 105 (by decide)), congrArg Prod.fst (sk hS 105 (by decide) rfl), by decide⟩ ?_
        refine q_aload rfl ?_
        refine q_iload rfl ?_
        refine q_if_eq (fun c_37 => ?_) (fun c_37 => ?_)
        · rw [if_pos c_37] at h
          refine K_of b_237_45 h_237_45 ?_
          refine q_iconst (29) (by decide) ?_
          refine q_end ?_
          refine K_of b_237_47 h_237_47 ?_
          refine q_aload rfl ?_
          refine q_getI (c0 := 12) (j := 16) rfl rfl (zl hS 105 (by decide)) (sk hS 105 (by decide) rfl) (Or.inl rfl) (by decide) ?_
          obtain ⟨d_51, h⟩ := ite_some h
          obtain ⟨⟨I1_51, L1_51⟩, e_51, h⟩ := Option.bind_eq_some_iff.mp h
          dsimp only at h
          refine q_fv3V (a_225 X hS (d := d - 1) (by omega) e_51) (by omega) (Nat.le_refl _) (Nat.le_refl _) rfl (Nat.le_of_ble_eq_true rfl) ⟨(zl hS 105 (by decide)), congrArg Prod.fst (sk hS 105 (by decide) rfl), by decide⟩ ?_
          refine q_aload rfl ?_
          refine q_iload rfl ?_
          refine q_if_eq (fun c_56 => ?_) (fun c_56 => ?_)
          · rw [if_pos c_56] at h
            refine K_of b_237_64 h_237_64 ?_
            refine q_iconst (29) (by decide) ?_
            refine q_end ?_
            refine K_of b_237_66 h_237_66 ?_
            refine q_iconst (0) (by decide) ?_
            obtain ⟨d_67, h⟩ := ite_some h
            obtain ⟨⟨I2_67, L2_67⟩, e_67, h⟩ := Option.bind_eq_some_iff.mp h
            dsimp only at h
            refine q_fv3V (a_231 X hS (d := d - 1) (by omega) e_67) (by omega) (Nat.le_refl _) (Nat.le_refl _) rfl (Nat.le_of_ble_eq_true rfl) ⟨(zl hS 105 (by decide)), congrArg Prod.fst (sk hS 105 (by decide) rfl), by decide⟩ ?_
            refine q_aload rfl ?_
            obtain ⟨d_71, h⟩ := ite_some h
            obtain ⟨⟨I3_71, L3_71⟩, e_71, h⟩ := Option.bind_eq_some_iff.mp h
            dsimp only at h
            refine q_fv1V (a_214 X hS (d := d - 1) (by omega) e_71) (by omega) (Nat.le_refl _) (Nat.le_refl _) rfl (Nat.le_of_ble_eq_true rfl) ⟨(zl hS 105 (by decide)), congrArg Prod.fst (sk hS 105 (by decide) rfl), by decide⟩ ?_
            refine q_iconst (0) (by decide) ?_
            cases h
            exact q_iret rfl (Nat.le_refl _) (Nat.le_refl _) ⟨rfl, rfl⟩
          · rw [if_neg c_56] at h
            refine q_iconst (28) (by decide) ?_
            refine q_goto ?_
            refine K_of b_237_66 h_237_66 ?_
            refine q_iconst (0) (by decide) ?_
            obtain ⟨d_67, h⟩ := ite_some h
            obtain ⟨⟨I2_67, L2_67⟩, e_67, h⟩ := Option.bind_eq_some_iff.mp h
            dsimp only at h
            refine q_fv3V (a_231 X hS (d := d - 1) (by omega) e_67) (by omega) (Nat.le_refl _) (Nat.le_refl _) rfl (Nat.le_of_ble_eq_true rfl) ⟨(zl hS 105 (by decide)), congrArg Prod.fst (sk hS 105 (by decide) rfl), by decide⟩ ?_
            refine q_aload rfl ?_
            obtain ⟨d_71, h⟩ := ite_some h
            obtain ⟨⟨I3_71, L3_71⟩, e_71, h⟩ := Option.bind_eq_some_iff.mp h
            dsimp only at h
            refine q_fv1V (a_214 X hS (d := d - 1) (by omega) e_71) (by omega) (Nat.le_refl _) (Nat.le_refl _) rfl (Nat.le_of_ble_eq_true rfl) ⟨(zl hS 105 (by decide)), congrArg Prod.fst (sk hS 105 (by decide) rfl), by decide⟩ ?_
            refine q_iconst (0) (by decide) ?_
            cases h
            exact q_iret rfl (Nat.le_refl _) (Nat.le_refl _) ⟨rfl, rfl⟩
        · rw [if_neg c_37] at h
          refine q_iconst (28) (by decide) ?_
          refine q_goto ?_
          refine K_of b_237_47 h_237_47 ?_
          refine q_aload rfl ?_
          refine q_getI (c0 := 12) (j := 16) rfl rfl (zl hS 105 (by decide)) (sk hS 105 (by decide) rfl) (Or.inl rfl) (by decide) ?_
          obtain ⟨d_51, h⟩ := ite_some h
          obtain ⟨⟨I1_51, L1_51⟩, e_51, h⟩ := Option.bind_eq_some_iff.mp h
          dsimp only at h
          refine q_fv3V (a_225 X hS (d := d - 1) (by omega) e_51) (by omega) (Nat.le_refl _) (Nat.le_refl _) rfl (Nat.le_of_ble_eq_true rfl) ⟨(zl hS 105 (by decide)), congrArg Prod.fst (sk hS 105 (by decide) rfl), by decide⟩ ?_
          refine q_aload rfl ?_
          refine q_iload rfl ?_
          refine q_if_eq (fun c_56 => ?_) (fun c_56 => ?_)
          · rw [if_pos c_56] at h
            refine K_of b_237_64 h_237_64 ?_
            refine q_iconst (29) (by decide) ?_
            refine q_end ?_
            refine K_of b_237_66 h_237_66 ?_
            refine q_iconst (0) (by decide) ?_
            obtain ⟨d_67, h⟩ := ite_some h
            obtain ⟨⟨I2_67, L2_67⟩, e_67, h⟩ := Option.bind_eq_some_iff.mp h
            dsimp only at h
            refine q_fv3V (a_231 X hS (d := d - 1) (by omega) e_67) (by omega) (Nat.le_refl _) (Nat.le_refl _) rfl (Nat.le_of_ble_eq_true rfl) ⟨(zl hS 105 (by decide)), congrArg Prod.fst (sk hS 105 (by decide) rfl), by decide⟩ ?_
            refine q_aload rfl ?_
            obtain ⟨d_71, h⟩ := ite_some h
            obtain ⟨⟨I3_71, L3_71⟩, e_71, h⟩ := Option.bind_eq_some_iff.mp h
            dsimp only at h
            refine q_fv1V (a_214 X hS (d := d - 1) (by omega) e_71) (by omega) (Nat.le_refl _) (Nat.le_refl _) rfl (Nat.le_of_ble_eq_true rfl) ⟨(zl hS 105 (by decide)), congrArg Prod.fst (sk hS 105 (by decide) rfl), by decide⟩ ?_
            refine q_iconst (0) (by decide) ?_
            cases h
            exact q_iret rfl (Nat.le_refl _) (Nat.le_refl _) ⟨rfl, rfl⟩
          · rw [if_neg c_56] at h
            refine q_iconst (28) (by decide) ?_
            refine q_goto ?_
            refine K_of b_237_66 h_237_66 ?_
            refine q_iconst (0) (by decide) ?_
            obtain ⟨d_67, h⟩ := ite_some h
            obtain ⟨⟨I2_67, L2_67⟩, e_67, h⟩ := Option.bind_eq_some_iff.mp h
            dsimp only at h
            refine q_fv3V (a_231 X hS (d := d - 1) (by omega) e_67) (by omega) (Nat.le_refl _) (Nat.le_refl _) rfl (Nat.le_of_ble_eq_true rfl) ⟨(zl hS 105 (by decide)), congrArg Prod.fst (sk hS 105 (by decide) rfl), by decide⟩ ?_
            refine q_aload rfl ?_
            obtain ⟨d_71, h⟩ := ite_some h
            obtain ⟨⟨I3_71, L3_71⟩, e_71, h⟩ := Option.bind_eq_some_iff.mp h
            dsimp only at h
            refine q_fv1V (a_214 X hS (d := d - 1) (by omega) e_71) (by omega) (Nat.le_refl _) (Nat.le_refl _) rfl (Nat.le_of_ble_eq_true rfl) ⟨(zl hS 105 (by decide)), congrArg Prod.fst (sk hS 105 (by decide) rfl), by decide⟩ ?_
            refine q_iconst (0) (by decide) ?_
            cases h
            exact q_iret rfl (Nat.le_refl _) (Nat.le_refl _) ⟨rfl, rfl⟩
theorem a_237 (X : GX) {z : Nat} {kd : Nat → Nat × Nat} {Rf : Nat → Nat → Option Nat} (hS : Sh z kd Rf) {n dp d : Nat} (hd : dp ≤ d) {I : (Nat → Nat → Int32)} {L : (Nat → Nat → Int64)} {I1 : (Nat → Nat → Int32)} {L1 : (Nat → Nat → Int64)} {r : Int32} (h : g_237 n dp (z, kd, Rf) 0 I L 0 = some (r, I1, L1)) : Ct X d 237 0 0 [.ref 105] (z, kd, I, L, Rf) (AI (fun x τ => x = r ∧ τ = (z, kd, I1, L1, Rf))) :=
  Ct_of mu_237 (Nat.le_of_ble_eq_true rfl) ((w_237 X hS n dp d hd I L 0 _ _ _).1 h)

/-! 223 CutFloorModel.readExpression(Z)V -/
set_option maxHeartbeats 4000000 in
set_option maxRecDepth 100000 in
def g_223 : Nat → Nat → EN → Nat → (Nat → Nat → Int32) → (Nat → Nat → Int64) → Int32 → Int32 →  Option ((Nat → Nat → Int32) × (Nat → Nat → Int64))
  | 0, _, _, _, _, _, _, _ => none
  | n + 1, dp, e, lab, I, L, i1, i2 =>
    if lab = 0 then (stI (u2 I 105 22 (0 : Int32)) (fun I_2 => (stI (u2 I_2 105 23 (0 : Int32)) (fun I_7 => (if i1 = 0 then (g_223 n dp e 1 I_7 L i1 (1 : Int32)) else (g_223 n dp e 1 I_7 L i1 (0 : Int32)))))))
    else if lab = 1 then (if (I 105 13) = 0 then (if i2 = (4 : Int32) then (if 1 ≤ dp then (g_234 n (dp - 1) e 0 I L (1 : Int32)).bind (fun ⟨I0_78, L0_78⟩ => (some (I0_78, L0_78))) else none) else (if i2 = 0 then (if 1 ≤ dp then (g_224 n (dp - 1) e 0 I L).bind (fun ⟨x0_37, I0_37, L0_37⟩ => (g_223 n dp e 1 I0_37 L0_37 i1 x0_37)) else none) else (if i2 = (1 : Int32) then (if 1 ≤ dp then (g_228 n (dp - 1) e 0 I L 0).bind (fun ⟨x0_49, I0_49, L0_49⟩ => (g_223 n dp e 1 I0_49 L0_49 i1 x0_49)) else none) else (if i2 = (3 : Int32) then (if 1 ≤ dp then (g_232 n (dp - 1) e 0 I L i1 0 0).bind (fun ⟨x0_62, I0_62, L0_62⟩ => (g_223 n dp e 1 I0_62 L0_62 i1 x0_62)) else none) else (if 1 ≤ dp then (g_237 n (dp - 1) e 0 I L 0).bind (fun ⟨x0_69, I0_69, L0_69⟩ => (g_223 n dp e 1 I0_69 L0_69 i1 x0_69)) else none))))) else (if 1 ≤ dp then (g_234 n (dp - 1) e 0 I L (1 : Int32)).bind (fun ⟨I0_78, L0_78⟩ => (some (I0_78, L0_78))) else none))
    else none
set_option maxRecDepth 100000 in
theorem e_223_0 (n dp : Nat) (e : EN) (I : (Nat → Nat → Int32)) (L : (Nat → Nat → Int64)) (i1 : Int32) (i2 : Int32) : g_223 (n + 1) dp e 0 I L i1 i2 = (stI (u2 I 105 22 (0 : Int32)) (fun I_2 => (stI (u2 I_2 105 23 (0 : Int32)) (fun I_7 => (if i1 = 0 then (g_223 n dp e 1 I_7 L i1 (1 : Int32)) else (g_223 n dp e 1 I_7 L i1 (0 : Int32))))))) := by rw [g_223.eq_2, if_pos (show (0 : Nat) = 0 from rfl)]
set_option maxRecDepth 100000 in
theorem e_223_1 (n dp : Nat) (e : EN) (I : (Nat → Nat → Int32)) (L : (Nat → Nat → Int64)) (i1 : Int32) (i2 : Int32) : g_223 (n + 1) dp e 1 I L i1 i2 = (if (I 105 13) = 0 then (if i2 = (4 : Int32) then (if 1 ≤ dp then (g_234 n (dp - 1) e 0 I L (1 : Int32)).bind (fun ⟨I0_78, L0_78⟩ => (some (I0_78, L0_78))) else none) else (if i2 = 0 then (if 1 ≤ dp then (g_224 n (dp - 1) e 0 I L).bind (fun ⟨x0_37, I0_37, L0_37⟩ => (g_223 n dp e 1 I0_37 L0_37 i1 x0_37)) else none) else (if i2 = (1 : Int32) then (if 1 ≤ dp then (g_228 n (dp - 1) e 0 I L 0).bind (fun ⟨x0_49, I0_49, L0_49⟩ => (g_223 n dp e 1 I0_49 L0_49 i1 x0_49)) else none) else (if i2 = (3 : Int32) then (if 1 ≤ dp then (g_232 n (dp - 1) e 0 I L i1 0 0).bind (fun ⟨x0_62, I0_62, L0_62⟩ => (g_223 n dp e 1 I0_62 L0_62 i1 x0_62)) else none) else (if 1 ≤ dp then (g_237 n (dp - 1) e 0 I L 0).bind (fun ⟨x0_69, I0_69, L0_69⟩ => (g_223 n dp e 1 I0_69 L0_69 i1 x0_69)) else none))))) else (if 1 ≤ dp then (g_234 n (dp - 1) e 0 I L (1 : Int32)).bind (fun ⟨I0_78, L0_78⟩ => (some (I0_78, L0_78))) else none)) := by rw [g_223.eq_2, if_neg (show ¬ ((1 : Nat) = 0) by decide), if_pos (show (1 : Nat) = 1 from rfl)]
set_option maxHeartbeats 8000000 in
set_option maxRecDepth 100000 in
theorem w_223 (X : GX) {z : Nat} {kd : Nat → Nat × Nat} {Rf : Nat → Nat → Option Nat} (hS : Sh z kd Rf) : ∀ (n dp d : Nat), dp ≤ d → ∀ (I : (Nat → Nat → Int32)) (L : (Nat → Nat → Int64)) (i1 : Int32) (i2 : Int32) (I1 : (Nat → Nat → Int32)) (L1 : (Nat → Nat → Int64)), (g_223 n dp (z, kd, Rf) 0 I L i1 i2 = some (I1, L1) → K X d 223 0 0 (AV (fun τ => τ = (z, kd, I1, L1, Rf))) 0 [some (.ref 105), some (.int i1), none] [] (z, kd, I, L, Rf) 0 0) ∧
    (g_223 n dp (z, kd, Rf) 1 I L i1 i2 = some (I1, L1) → K X d 223 0 0 (AV (fun τ => τ = (z, kd, I1, L1, Rf))) 20 [some (.ref 105), some (.int i1), some (.int i2)] [] (z, kd, I, L, Rf) 0 0) := by
  intro n
  induction n with
  | zero => intro dp d hdp I L i1 i2 I1 L1; exact ⟨(fun h => by cases h), (fun h => by cases h)⟩
  | succ n ih =>
    intro dp d hdp I L i1 i2 I1 L1
    refine ⟨?_, ?_⟩
    · intro h
      rw [e_223_0] at h
      refine K_of b_223_0 h_223_0 ?_
      refine q_aload rfl ?_
      refine q_iconst (0) (by decide) ?_
      refine q_putI (c0 := 12) (j := 22) rfl rfl (zl hS 105 (by decide)) (sk hS 105 (by decide) rfl) rfl ?_
      obtain ⟨I_2, nI_2, h⟩ := stI_some h
      refine q_nI nI_2 ?_
      refine q_aload rfl ?_
      refine q_iconst (0) (by decide) ?_
      refine q_putI (c0 := 12) (j := 23) rfl rfl (zl hS 105 (by decide)) (sk hS 105 (by decide) rfl) rfl ?_
      obtain ⟨I_7, nI_7, h⟩ := stI_some h
      refine q_nI nI_7 ?_
      refine q_iload rfl ?_
      refine q_if_eq (fun c_11 => ?_) (fun c_11 => ?_)
      · rw [if_pos c_11] at h
        refine K_of b_223_18 h_223_18 ?_
        refine q_iconst (1) (by decide) ?_
        refine q_end ?_
        refine K_of b_223_19 h_223_19 ?_
        refine q_istore (ls1 := [some (.ref 105), some (.int i1), some (.int (1 : Int32))]) (Nat.le_of_ble_eq_true rfl) rfl ?_
        refine q_end ?_
        exact (ih dp d hdp _ _ i1 (1 : Int32) _ _).2 h
      · rw [if_neg c_11] at h
        refine q_iconst (0) (by decide) ?_
        refine q_goto ?_
        refine K_of b_223_19 h_223_19 ?_
        refine q_istore (ls1 := [some (.ref 105), some (.int i1), some (.int (0 : Int32))]) (Nat.le_of_ble_eq_true rfl) rfl ?_
        refine q_end ?_
        exact (ih dp d hdp _ _ i1 (0 : Int32) _ _).2 h
    · intro h
      rw [e_223_1] at h
      refine K_of b_223_20 h_223_20 ?_
      refine q_aload rfl ?_
      refine q_getI (c0 := 12) (j := 13) rfl rfl (zl hS 105 (by decide)) (sk hS 105 (by decide) rfl) (Or.inr rfl) (by decide) ?_
      refine q_if_ne (fun c_24 => ?_) (fun c_24 => ?_)
      · rw [if_neg c_24] at h
        refine K_of b_223_76 h_223_76 ?_
        refine q_aload rfl ?_
        refine q_iconst (1) (by decide) ?_
        obtain ⟨d_78, h⟩ := ite_some h
        obtain ⟨⟨I0_78, L0_78⟩, e_78, h⟩ := Option.bind_eq_some_iff.mp h
        dsimp only at h
        refine q_fv2V (a_234 X hS (d := d - 1) (by omega) e_78) (by omega) (Nat.le_refl _) (Nat.le_refl _) rfl (Nat.le_of_ble_eq_true rfl) ⟨(zl hS 105 (by decide)), congrArg Prod.fst (sk hS 105 (by decide) rfl), by decide⟩ ?_
        cases h
        exact q_vret rfl (Nat.le_refl _) (Nat.le_refl _) rfl
      · rw [if_pos c_24] at h
        refine q_iload rfl ?_
        refine q_iconst (4) (by decide) ?_
        refine q_icmp_eq (fun c_29 => ?_) (fun c_29 => ?_)
        · rw [if_pos c_29] at h
          refine K_of b_223_76 h_223_76 ?_
          refine q_aload rfl ?_
          refine q_iconst (1) (by decide) ?_
          obtain ⟨d_78, h⟩ := ite_some h
          obtain ⟨⟨I0_78, L0_78⟩, e_78, h⟩ := Option.bind_eq_some_iff.mp h
          dsimp only at h
          refine q_fv2V (a_234 X hS (d := d - 1) (by omega) e_78) (by omega) (Nat.le_refl _) (Nat.le_refl _) rfl (Nat.le_of_ble_eq_true rfl) ⟨(zl hS 105 (by decide)), congrArg Prod.fst (sk hS 105 (by decide) rfl), by decide⟩ ?_
          cases h
          exact q_vret rfl (Nat.le_refl _) (Nat.le_refl _) rfl
        · rw [if_neg c_29] at h
          refine q_iload rfl ?_
          refine q_if_ne (fun c_33 => ?_) (fun c_33 => ?_)
          · rw [if_neg c_33] at h
            refine K_of b_223_43 h_223_43 ?_
            refine q_iload rfl ?_
            refine q_iconst (1) (by decide) ?_
            refine q_icmp_ne (fun c_45 => ?_) (fun c_45 => ?_)
            · rw [if_neg c_45] at h
              refine K_of b_223_55 h_223_55 ?_
              refine q_iload rfl ?_
              refine q_iconst (3) (by decide) ?_
              refine q_icmp_ne (fun c_57 => ?_) (fun c_57 => ?_)
              · rw [if_neg c_57] at h
                refine K_of b_223_68 h_223_68 ?_
                refine q_aload rfl ?_
                obtain ⟨d_69, h⟩ := ite_some h
                obtain ⟨⟨x0_69, I0_69, L0_69⟩, e_69, h⟩ := Option.bind_eq_some_iff.mp h
                dsimp only at h
                refine q_fv1I (a_237 X hS (d := d - 1) (by omega) e_69) (by omega) (Nat.le_refl _) (Nat.le_refl _) rfl (Nat.le_of_ble_eq_true rfl) ⟨(zl hS 105 (by decide)), congrArg Prod.fst (sk hS 105 (by decide) rfl), by decide⟩ ?_
                refine q_end ?_
                refine K_of b_223_72 h_223_72 ?_
                refine q_istore (ls1 := [some (.ref 105), some (.int i1), some (.int x0_69)]) (Nat.le_of_ble_eq_true rfl) rfl ?_
                refine q_goto ?_
                exact (ih dp d hdp _ _ i1 x0_69 _ _).2 h
              · rw [if_pos c_57] at h
                refine q_aload rfl ?_
                refine q_iload rfl ?_
                obtain ⟨d_62, h⟩ := ite_some h
                obtain ⟨⟨x0_62, I0_62, L0_62⟩, e_62, h⟩ := Option.bind_eq_some_iff.mp h
                dsimp only at h
                refine q_fv2I (a_232 X hS (d := d - 1) (by omega) e_62) (by omega) (Nat.le_refl _) (Nat.le_refl _) rfl (Nat.le_of_ble_eq_true rfl) ⟨(zl hS 105 (by decide)), congrArg Prod.fst (sk hS 105 (by decide) rfl), by decide⟩ ?_
                refine q_goto ?_
                refine K_of b_223_72 h_223_72 ?_
                refine q_istore (ls1 := [some (.ref 105), some (.int i1), some (.int x0_62)]) (Nat.le_of_ble_eq_true rfl) rfl ?_
                refine q_goto ?_
                exact (ih dp d hdp _ _ i1 x0_62 _ _).2 h
            · rw [if_pos c_45] at h
              refine q_aload rfl ?_
              obtain ⟨d_49, h⟩ := ite_some h
              obtain ⟨⟨x0_49, I0_49, L0_49⟩, e_49, h⟩ := Option.bind_eq_some_iff.mp h
              dsimp only at h
              refine q_fv1I (a_228 X hS (d := d - 1) (by omega) e_49) (by omega) (Nat.le_refl _) (Nat.le_refl _) rfl (Nat.le_of_ble_eq_true rfl) ⟨(zl hS 105 (by decide)), congrArg Prod.fst (sk hS 105 (by decide) rfl), by decide⟩ ?_
              refine q_goto ?_
              refine K_of b_223_72 h_223_72 ?_
              refine q_istore (ls1 := [some (.ref 105), some (.int i1), some (.int x0_49)]) (Nat.le_of_ble_eq_true rfl) rfl ?_
              refine q_goto ?_
              exact (ih dp d hdp _ _ i1 x0_49 _ _).2 h
          · rw [if_pos c_33] at h
            refine q_aload rfl ?_
            obtain ⟨d_37, h⟩ := ite_some h
            obtain ⟨⟨x0_37, I0_37, L0_37⟩, e_37, h⟩ := Option.bind_eq_some_iff.mp h
            dsimp only at h
            refine q_fv1I (a_224 X hS (d := d - 1) (by omega) e_37) (by omega) (Nat.le_refl _) (Nat.le_refl _) rfl (Nat.le_of_ble_eq_true rfl) ⟨(zl hS 105 (by decide)), congrArg Prod.fst (sk hS 105 (by decide) rfl), by decide⟩ ?_
            refine q_goto ?_
            refine K_of b_223_72 h_223_72 ?_
            refine q_istore (ls1 := [some (.ref 105), some (.int i1), some (.int x0_37)]) (Nat.le_of_ble_eq_true rfl) rfl ?_
            refine q_goto ?_
            exact (ih dp d hdp _ _ i1 x0_37 _ _).2 h
theorem a_223 (X : GX) {z : Nat} {kd : Nat → Nat × Nat} {Rf : Nat → Nat → Option Nat} (hS : Sh z kd Rf) {n dp d : Nat} (hd : dp ≤ d) {I : (Nat → Nat → Int32)} {L : (Nat → Nat → Int64)} {i1 : Int32} {I1 : (Nat → Nat → Int32)} {L1 : (Nat → Nat → Int64)} (h : g_223 n dp (z, kd, Rf) 0 I L i1 0 = some (I1, L1)) : Ct X d 223 0 0 [.ref 105, .int i1] (z, kd, I, L, Rf) (AV (fun τ => τ = (z, kd, I1, L1, Rf))) :=
  Ct_of mu_223 (Nat.le_of_ble_eq_true rfl) ((w_223 X hS n dp d hd I L i1 0 _ _).1 h)

/-! 217 CutFloorModel.readClause()V -/
set_option maxHeartbeats 4000000 in
set_option maxRecDepth 100000 in
def g_217 : Nat → Nat → EN → Nat → (Nat → Nat → Int32) → (Nat → Nat → Int64) → Int32 → Int32 → Int32 →  Option ((Nat → Nat → Int32) × (Nat → Nat → Int64))
  | 0, _, _, _, _, _, _, _, _ => none
  | n + 1, dp, e, lab, I, L, i1, i2, i3 =>
    if lab = 0 then (if 1 ≤ dp then (g_218 n (dp - 1) e 0 I L (3764 : Int64)).bind (fun ⟨x0_4, I0_4, L0_4⟩ => (if x0_4 = 0 then (if 1 ≤ dp then (g_218 n (dp - 1) e 0 I0_4 L0_4 (14276022451 : Int64)).bind (fun ⟨x1_18, I1_18, L1_18⟩ => (if x1_18 = 0 then (if 1 ≤ dp then (g_218 n (dp - 1) e 0 I1_18 L1_18 (20293004 : Int64)).bind (fun ⟨x2_32, I2_32, L2_32⟩ => (if x2_32 = 0 then (if (I2_32 105 13) = 0 then (if (-1 : Int32) = (-1 : Int32) then (g_217 n dp e 1 I2_32 L2_32 (-1 : Int32) 0 0) else (if (I2_32 105 14) = (24 : Int32) then (g_217 n dp e 1 I2_32 L2_32 (-1 : Int32) 0 0) else (if (-1 : Int32) = (2 : Int32) then (if (I2_32 105 26) = (16 : Int32) then (g_217 n dp e 1 I2_32 L2_32 (-1 : Int32) 0 0) else (g_217 n dp e 2 I2_32 L2_32 (-1 : Int32) 0 0)) else (g_217 n dp e 2 I2_32 L2_32 (-1 : Int32) 0 0)))) else (g_217 n dp e 2 I2_32 L2_32 (-1 : Int32) 0 0)) else (if (I2_32 105 13) = 0 then (if (1 : Int32) = (-1 : Int32) then (g_217 n dp e 1 I2_32 L2_32 (1 : Int32) 0 0) else (if (I2_32 105 14) = (24 : Int32) then (g_217 n dp e 1 I2_32 L2_32 (1 : Int32) 0 0) else (if (1 : Int32) = (2 : Int32) then (if (I2_32 105 26) = (16 : Int32) then (g_217 n dp e 1 I2_32 L2_32 (1 : Int32) 0 0) else (g_217 n dp e 2 I2_32 L2_32 (1 : Int32) 0 0)) else (g_217 n dp e 2 I2_32 L2_32 (1 : Int32) 0 0)))) else (g_217 n dp e 2 I2_32 L2_32 (1 : Int32) 0 0)))) else none) else (if (I1_18 105 13) = 0 then (if (0 : Int32) = (-1 : Int32) then (g_217 n dp e 1 I1_18 L1_18 (0 : Int32) 0 0) else (if (I1_18 105 14) = (24 : Int32) then (g_217 n dp e 1 I1_18 L1_18 (0 : Int32) 0 0) else (if (0 : Int32) = (2 : Int32) then (if (I1_18 105 26) = (16 : Int32) then (g_217 n dp e 1 I1_18 L1_18 (0 : Int32) 0 0) else (g_217 n dp e 2 I1_18 L1_18 (0 : Int32) 0 0)) else (g_217 n dp e 2 I1_18 L1_18 (0 : Int32) 0 0)))) else (g_217 n dp e 2 I1_18 L1_18 (0 : Int32) 0 0)))) else none) else (if (I0_4 105 13) = 0 then (if (2 : Int32) = (-1 : Int32) then (g_217 n dp e 1 I0_4 L0_4 (2 : Int32) 0 0) else (if (I0_4 105 14) = (24 : Int32) then (g_217 n dp e 1 I0_4 L0_4 (2 : Int32) 0 0) else (if (2 : Int32) = (2 : Int32) then (if (I0_4 105 26) = (16 : Int32) then (g_217 n dp e 1 I0_4 L0_4 (2 : Int32) 0 0) else (g_217 n dp e 2 I0_4 L0_4 (2 : Int32) 0 0)) else (g_217 n dp e 2 I0_4 L0_4 (2 : Int32) 0 0)))) else (g_217 n dp e 2 I0_4 L0_4 (2 : Int32) 0 0)))) else none)
    else if lab = 1 then (if 1 ≤ dp then (g_219 n (dp - 1) e 0 I L (0 : Int32)).bind (fun ⟨I0_81, L0_81⟩ => (g_217 n dp e 2 I0_81 L0_81 i1 0 0)) else none)
    else if lab = 2 then (if (I 105 13) = 0 then (if 1 ≤ dp then (g_214 n (dp - 1) e 0 I L).bind (fun ⟨I0_93, L0_93⟩ => (stI ((8 : Int32) * (I0_93 105 14)) (fun v_103 => (g_217 n dp e 3 I0_93 L0_93 i1 v_103 (0 : Int32))))) else none) else (some (I, L)))
    else if lab = 3 then (if (8 : Int32) ≤ i3 then (if 0 ≤ i2 ∧ (Int32.toNatClampNeg i2) < 192 then (stI (u2 I 111 (Int32.toNatClampNeg i2) i1) (fun I_133 => (if 0 ≤ (i2 + (1 : Int32)) ∧ (Int32.toNatClampNeg (i2 + (1 : Int32))) < 192 then (stI (u2 I_133 111 (Int32.toNatClampNeg (i2 + (1 : Int32))) (I_133 105 26)) (fun I_145 => (stI (u2 I_145 105 14 ((I_145 105 14) + (1 : Int32))) (fun I_153 => (if 0 ≤ (i2 + (3 : Int32)) ∧ (Int32.toNatClampNeg (i2 + (3 : Int32))) < 192 then (stI (u2 I_153 111 (Int32.toNatClampNeg (i2 + (3 : Int32))) (I_153 105 16)) (fun I_167 => (if i1 = (2 : Int32) then (if 1 ≤ dp then (g_220 n (dp - 1) e 0 I_167 L 0 0).bind (fun ⟨I0_174, L0_174⟩ => (g_217 n dp e 4 I0_174 L0_174 i1 i2 i3)) else none) else (if 1 ≤ dp then (g_223 n (dp - 1) e 0 I_167 L (0 : Int32) 0).bind (fun ⟨I0_182, L0_182⟩ => (g_217 n dp e 4 I0_182 L0_182 i1 i2 i3)) else none)))) else none))))) else none))) else none) else (if 0 ≤ (i2 + i3) ∧ (Int32.toNatClampNeg (i2 + i3)) < 192 then (stI (u2 I 111 (Int32.toNatClampNeg (i2 + i3)) (0 : Int32)) (fun I_120 => (g_217 n dp e 3 I_120 L i1 i2 (i3 + Int32.ofInt (1))))) else none))
    else if lab = 4 then (if 0 ≤ (i2 + (4 : Int32)) ∧ (Int32.toNatClampNeg (i2 + (4 : Int32))) < 192 then (stI (u2 I 111 (Int32.toNatClampNeg (i2 + (4 : Int32))) (I 105 16)) (fun I_196 => (if 0 ≤ (i2 + (5 : Int32)) ∧ (Int32.toNatClampNeg (i2 + (5 : Int32))) < 192 then (stI (u2 I_196 111 (Int32.toNatClampNeg (i2 + (5 : Int32))) (I_196 105 16)) (fun I_208 => (if (I_208 105 13) = 0 then (if 1 ≤ dp then (g_218 n (dp - 1) e 0 I_208 L (294 : Int64)).bind (fun ⟨x0_220, I0_220, L0_220⟩ => (if x0_220 = 0 then (g_217 n dp e 5 I0_220 L0_220 i1 i2 i3) else (if 1 ≤ dp then (g_214 n (dp - 1) e 0 I0_220 L0_220).bind (fun ⟨I1_227, L1_227⟩ => (if 1 ≤ dp then (g_223 n (dp - 1) e 0 I1_227 L1_227 (1 : Int32) 0).bind (fun ⟨I2_232, L2_232⟩ => (g_217 n dp e 5 I2_232 L2_232 i1 i2 i3)) else none)) else none))) else none) else (g_217 n dp e 5 I_208 L i1 i2 i3)))) else none))) else none)
    else if lab = 5 then (if 0 ≤ (i2 + (6 : Int32)) ∧ (Int32.toNatClampNeg (i2 + (6 : Int32))) < 192 then (stI (u2 I 111 (Int32.toNatClampNeg (i2 + (6 : Int32))) (I 105 16)) (fun I_247 => (some (I_247, L)))) else none)
    else none
set_option maxRecDepth 100000 in
theorem e_217_0 (n dp : Nat) (e : EN) (I : (Nat → Nat → Int32)) (L : (Nat → Nat → Int64)) (i1 : Int32) (i2 : Int32) (i3 : Int32) : g_217 (n + 1) dp e 0 I L i1 i2 i3 = (if 1 ≤ dp then (g_218 n (dp - 1) e 0 I L (3764 : Int64)).bind (fun ⟨x0_4, I0_4, L0_4⟩ => (if x0_4 = 0 then (if 1 ≤ dp then (g_218 n (dp - 1) e 0 I0_4 L0_4 (14276022451 : Int64)).bind (fun ⟨x1_18, I1_18, L1_18⟩ => (if x1_18 = 0 then (if 1 ≤ dp then (g_218 n (dp - 1) e 0 I1_18 L1_18 (20293004 : Int64)).bind (fun ⟨x2_32, I2_32, L2_32⟩ => (if x2_32 = 0 then (if (I2_32 105 13) = 0 then (if (-1 : Int32) = (-1 : Int32) then (g_217 n dp e 1 I2_32 L2_32 (-1 : Int32) 0 0) else (if (I2_32 105 14) = (24 : Int32) then (g_217 n dp e 1 I2_32 L2_32 (-1 : Int32) 0 0) else (if (-1 : Int32) = (2 : Int32) then (if (I2_32 105 26) = (16 : Int32) then (g_217 n dp e 1 I2_32 L2_32 (-1 : Int32) 0 0) else (g_217 n dp e 2 I2_32 L2_32 (-1 : Int32) 0 0)) else (g_217 n dp e 2 I2_32 L2_32 (-1 : Int32) 0 0)))) else (g_217 n dp e 2 I2_32 L2_32 (-1 : Int32) 0 0)) else (if (I2_32 105 13) = 0 then (if (1 : Int32) = (-1 : Int32) then (g_217 n dp e 1 I2_32 L2_32 (1 : Int32) 0 0) else (if (I2_32 105 14) = (24 : Int32) then (g_217 n dp e 1 I2_32 L2_32 (1 : Int32) 0 0) else (if (1 : Int32) = (2 : Int32) then (if (I2_32 105 26) = (16 : Int32) then (g_217 n dp e 1 I2_32 L2_32 (1 : Int32) 0 0) else (g_217 n dp e 2 I2_32 L2_32 (1 : Int32) 0 0)) else (g_217 n dp e 2 I2_32 L2_32 (1 : Int32) 0 0)))) else (g_217 n dp e 2 I2_32 L2_32 (1 : Int32) 0 0)))) else none) else (if (I1_18 105 13) = 0 then (if (0 : Int32) = (-1 : Int32) then (g_217 n dp e 1 I1_18 L1_18 (0 : Int32) 0 0) else (if (I1_18 105 14) = (24 : Int32) then (g_217 n dp e 1 I1_18 L1_18 (0 : Int32) 0 0) else (if (0 : Int32) = (2 : Int32) then (if (I1_18 105 26) = (16 : Int32) then (g_217 n dp e 1 I1_18 L1_18 (0 : Int32) 0 0) else (g_217 n dp e 2 I1_18 L1_18 (0 : Int32) 0 0)) else (g_217 n dp e 2 I1_18 L1_18 (0 : Int32) 0 0)))) else (g_217 n dp e 2 I1_18 L1_18 (0 : Int32) 0 0)))) else none) else (if (I0_4 105 13) = 0 then (if (2 : Int32) = (-1 : Int32) then (g_217 n dp e 1 I0_4 L0_4 (2 : Int32) 0 0) else (if (I0_4 105 14) = (24 : Int32) then (g_217 n dp e 1 I0_4 L0_4 (2 : Int32) 0 0) else (if (2 : Int32) = (2 : Int32) then (if (I0_4 105 26) = (16 : Int32) then (g_217 n dp e 1 I0_4 L0_4 (2 : Int32) 0 0) else (g_217 n dp e 2 I0_4 L0_4 (2 : Int32) 0 0)) else (g_217 n dp e 2 I0_4 L0_4 (2 : Int32) 0 0)))) else (g_217 n dp e 2 I0_4 L0_4 (2 : Int32) 0 0)))) else none) := by rw [g_217.eq_2, if_pos (show (0 : Nat) = 0 from rfl)]
set_option maxRecDepth 100000 in
theorem e_217_1 (n dp : Nat) (e : EN) (I : (Nat → Nat → Int32)) (L : (Nat → Nat → Int64)) (i1 : Int32) (i2 : Int32) (i3 : Int32) : g_217 (n + 1) dp e 1 I L i1 i2 i3 = (if 1 ≤ dp then (g_219 n (dp - 1) e 0 I L (0 : Int32)).bind (fun ⟨I0_81, L0_81⟩ => (g_217 n dp e 2 I0_81 L0_81 i1 0 0)) else none) := by rw [g_217.eq_2, if_neg (show ¬ ((1 : Nat) = 0) by decide), if_pos (show (1 : Nat) = 1 from rfl)]
set_option maxRecDepth 100000 in
theorem e_217_2 (n dp : Nat) (e : EN) (I : (Nat → Nat → Int32)) (L : (Nat → Nat → Int64)) (i1 : Int32) (i2 : Int32) (i3 : Int32) : g_217 (n + 1) dp e 2 I L i1 i2 i3 = (if (I 105 13) = 0 then (if 1 ≤ dp then (g_214 n (dp - 1) e 0 I L).bind (fun ⟨I0_93, L0_93⟩ => (stI ((8 : Int32) * (I0_93 105 14)) (fun v_103 => (g_217 n dp e 3 I0_93 L0_93 i1 v_103 (0 : Int32))))) else none) else (some (I, L))) := by rw [g_217.eq_2, if_neg (show ¬ ((2 : Nat) = 0) by decide), if_neg (show ¬ ((2 : Nat) = 1) by decide), if_pos (show (2 : Nat) = 2 from rfl)]
set_option maxRecDepth 100000 in
theorem e_217_3 (n dp : Nat) (e : EN) (I : (Nat → Nat → Int32)) (L : (Nat → Nat → Int64)) (i1 : Int32) (i2 : Int32) (i3 : Int32) : g_217 (n + 1) dp e 3 I L i1 i2 i3 = (if (8 : Int32) ≤ i3 then (if 0 ≤ i2 ∧ (Int32.toNatClampNeg i2) < 192 then (stI (u2 I 111 (Int32.toNatClampNeg i2) i1) (fun I_133 => (if 0 ≤ (i2 + (1 : Int32)) ∧ (Int32.toNatClampNeg (i2 + (1 : Int32))) < 192 then (stI (u2 I_133 111 (Int32.toNatClampNeg (i2 + (1 : Int32))) (I_133 105 26)) (fun I_145 => (stI (u2 I_145 105 14 ((I_145 105 14) + (1 : Int32))) (fun I_153 => (if 0 ≤ (i2 + (3 : Int32)) ∧ (Int32.toNatClampNeg (i2 + (3 : Int32))) < 192 then (stI (u2 I_153 111 (Int32.toNatClampNeg (i2 + (3 : Int32))) (I_153 105 16)) (fun I_167 => (if i1 = (2 : Int32) then (if 1 ≤ dp then (g_220 n (dp - 1) e 0 I_167 L 0 0).bind (fun ⟨I0_174, L0_174⟩ => (g_217 n dp e 4 I0_174 L0_174 i1 i2 i3)) else none) else (if 1 ≤ dp then (g_223 n (dp - 1) e 0 I_167 L (0 : Int32) 0).bind (fun ⟨I0_182, L0_182⟩ => (g_217 n dp e 4 I0_182 L0_182 i1 i2 i3)) else none)))) else none))))) else none))) else none) else (if 0 ≤ (i2 + i3) ∧ (Int32.toNatClampNeg (i2 + i3)) < 192 then (stI (u2 I 111 (Int32.toNatClampNeg (i2 + i3)) (0 : Int32)) (fun I_120 => (g_217 n dp e 3 I_120 L i1 i2 (i3 + Int32.ofInt (1))))) else none)) := by rw [g_217.eq_2, if_neg (show ¬ ((3 : Nat) = 0) by decide), if_neg (show ¬ ((3 : Nat) = 1) by decide), if_neg (show ¬ ((3 : Nat) = 2) by decide), if_pos (show (3 : Nat) = 3 from rfl)]
set_option maxRecDepth 100000 in
theorem e_217_4 (n dp : Nat) (e : EN) (I : (Nat → Nat → Int32)) (L : (Nat → Nat → Int64)) (i1 : Int32) (i2 : Int32) (i3 : Int32) : g_217 (n + 1) dp e 4 I L i1 i2 i3 = (if 0 ≤ (i2 + (4 : Int32)) ∧ (Int32.toNatClampNeg (i2 + (4 : Int32))) < 192 then (stI (u2 I 111 (Int32.toNatClampNeg (i2 + (4 : Int32))) (I 105 16)) (fun I_196 => (if 0 ≤ (i2 + (5 : Int32)) ∧ (Int32.toNatClampNeg (i2 + (5 : Int32))) < 192 then (stI (u2 I_196 111 (Int32.toNatClampNeg (i2 + (5 : Int32))) (I_196 105 16)) (fun I_208 => (if (I_208 105 13) = 0 then (if 1 ≤ dp then (g_218 n (dp - 1) e 0 I_208 L (294 : Int64)).bind (fun ⟨x0_220, I0_220, L0_220⟩ => (if x0_220 = 0 then (g_217 n dp e 5 I0_220 L0_220 i1 i2 i3) else (if 1 ≤ dp then (g_214 n (dp - 1) e 0 I0_220 L0_220).bind (fun ⟨I1_227, L1_227⟩ => (if 1 ≤ dp then (g_223 n (dp - 1) e 0 I1_227 L1_227 (1 : Int32) 0).bind (fun ⟨I2_232, L2_232⟩ => (g_217 n dp e 5 I2_232 L2_232 i1 i2 i3)) else none)) else none))) else none) else (g_217 n dp e 5 I_208 L i1 i2 i3)))) else none))) else none) := by rw [g_217.eq_2, if_neg (show ¬ ((4 : Nat) = 0) by decide), if_neg (show ¬ ((4 : Nat) = 1) by decide), if_neg (show ¬ ((4 : Nat) = 2) by decide), if_neg (show ¬ ((4 : Nat) = 3) by decide), if_pos (show (4 : Nat) = 4 from rfl)]
set_option maxRecDepth 100000 in
theorem e_217_5 (n dp : Nat) (e : EN) (I : (Nat → Nat → Int32)) (L : (Nat → Nat → Int64)) (i1 : Int32) (i2 : Int32) (i3 : Int32) : g_217 (n + 1) dp e 5 I L i1 i2 i3 = (if 0 ≤ (i2 + (6 : Int32)) ∧ (Int32.toNatClampNeg (i2 + (6 : Int32))) < 192 then (stI (u2 I 111 (Int32.toNatClampNeg (i2 + (6 : Int32))) (I 105 16)) (fun I_247 => (some (I_247, L)))) else none) := by rw [g_217.eq_2, if_neg (show ¬ ((5 : Nat) = 0) by decide), if_neg (show ¬ ((5 : Nat) = 1) by decide), if_neg (show ¬ ((5 : Nat) = 2) by decide), if_neg (show ¬ ((5 : Nat) = 3) by decide), if_neg (show ¬ ((5 : Nat) = 4) by decide), if_pos (show (5 : Nat) = 5 from rfl)]
set_option maxHeartbeats 8000000 in
set_option maxRecDepth 100000 in
theorem w_217 (X : GX) {z : Nat} {kd : Nat → Nat × Nat} {Rf : Nat → Nat → Option Nat} (hS : Sh z kd Rf) : ∀ (n dp d : Nat), dp ≤ d → ∀ (I : (Nat → Nat → Int32)) (L : (Nat → Nat → Int64)) (i1 : Int32) (i2 : Int32) (i3 : Int32) (I1 : (Nat → Nat → Int32)) (L1 : (Nat → Nat → Int64)), (g_217 n dp (z, kd, Rf) 0 I L i1 i2 i3 = some (I1, L1) → K X d 217 0 0 (AV (fun τ => τ = (z, kd, I1, L1, Rf))) 0 [some (.ref 105), none, none, none] [] (z, kd, I, L, Rf) 0 0) ∧
    (g_217 n dp (z, kd, Rf) 1 I L i1 i2 i3 = some (I1, L1) → K X d 217 0 0 (AV (fun τ => τ = (z, kd, I1, L1, Rf))) 79 [some (.ref 105), some (.int i1), none, none] [] (z, kd, I, L, Rf) 0 0) ∧
    (g_217 n dp (z, kd, Rf) 2 I L i1 i2 i3 = some (I1, L1) → K X d 217 0 0 (AV (fun τ => τ = (z, kd, I1, L1, Rf))) 84 [some (.ref 105), some (.int i1), none, none] [] (z, kd, I, L, Rf) 0 0) ∧
    (g_217 n dp (z, kd, Rf) 3 I L i1 i2 i3 = some (I1, L1) → K X d 217 0 0 (AV (fun τ => τ = (z, kd, I1, L1, Rf))) 106 [some (.ref 105), some (.int i1), some (.int i2), some (.int i3)] [] (z, kd, I, L, Rf) 0 0) ∧
    (g_217 n dp (z, kd, Rf) 4 I L i1 i2 i3 = some (I1, L1) → K X d 217 0 0 (AV (fun τ => τ = (z, kd, I1, L1, Rf))) 185 [some (.ref 105), some (.int i1), some (.int i2), some (.int i3)] [] (z, kd, I, L, Rf) 0 0) ∧
    (g_217 n dp (z, kd, Rf) 5 I L i1 i2 i3 = some (I1, L1) → K X d 217 0 0 (AV (fun τ => τ = (z, kd, I1, L1, Rf))) 235 [some (.ref 105), some (.int i1), some (.int i2), some (.int i3)] [] (z, kd, I, L, Rf) 0 0) := by
  intro n
  induction n with
  | zero => intro dp d hdp I L i1 i2 i3 I1 L1; exact ⟨(fun h => by cases h), (fun h => by cases h), (fun h => by cases h), (fun h => by cases h), (fun h => by cases h), (fun h => by cases h)⟩
  | succ n ih =>
    intro dp d hdp I L i1 i2 i3 I1 L1
    refine ⟨?_, ?_, ?_, ?_, ?_, ?_⟩
    · intro h
      rw [e_217_0] at h
      refine K_of b_217_0 h_217_0 ?_
      refine q_aload rfl ?_
      refine q_lconst (3764) (by decide) ?_
      obtain ⟨d_4, h⟩ := ite_some h
      obtain ⟨⟨x0_4, I0_4, L0_4⟩, e_4, h⟩ := Option.bind_eq_some_iff.mp h
      dsimp only at h
      refine q_fv2I (a_218 X hS (d := d - 1) (by omega) e_4) (by omega) (Nat.le_refl _) (Nat.le_refl _) rfl (Nat.le_of_ble_eq_true rfl) ⟨(zl hS 105 (by decide)), congrArg Prod.fst (sk hS 105 (by decide) rfl), by decide⟩ ?_
      refine q_if_eq (fun c_7 => ?_) (fun c_7 => ?_)
      · rw [if_pos c_7] at h
        refine K_of b_217_14 h_217_14 ?_
        refine q_aload rfl ?_
        refine q_lconst (14276022451) (by decide) ?_
        obtain ⟨d_18, h⟩ := ite_some h
        obtain ⟨⟨x1_18, I1_18, L1_18⟩, e_18, h⟩ := Option.bind_eq_some_iff.mp h
        dsimp only at h
        refine q_fv2I (a_218 X hS (d := d - 1) (by omega) e_18) (by omega) (Nat.le_refl _) (Nat.le_refl _) rfl (Nat.le_of_ble_eq_true rfl) ⟨(zl hS 105 (by decide)), congrArg Prod.fst (sk hS 105 (by decide) rfl), by decide⟩ ?_
        refine q_if_eq (fun c_21 => ?_) (fun c_21 => ?_)
        · rw [if_pos c_21] at h
          refine K_of b_217_28 h_217_28 ?_
          refine q_aload rfl ?_
          refine q_lconst (20293004) (by decide) ?_
          obtain ⟨d_32, h⟩ := ite_some h
          obtain ⟨⟨x2_32, I2_32, L2_32⟩, e_32, h⟩ := Option.bind_eq_some_iff.mp h
          dsimp only at h
          refine q_fv2I (a_218 X hS (d := d - 1) (by omega) e_32) (by omega) (Nat.le_refl _) (Nat.le_refl _) rfl (Nat.le_of_ble_eq_true rfl) ⟨(zl hS 105 (by decide)), congrArg Prod.fst (sk hS 105 (by decide) rfl), by decide⟩ ?_
          refine q_if_eq (fun c_35 => ?_) (fun c_35 => ?_)
          · rw [if_pos c_35] at h
            refine K_of b_217_42 h_217_42 ?_
            refine q_iconst (-1) (by decide) ?_
            refine q_end ?_
            refine K_of b_217_43 h_217_43 ?_
            refine q_istore (ls1 := [some (.ref 105), some (.int (-1 : Int32)), none, none]) (Nat.le_of_ble_eq_true rfl) rfl ?_
            refine q_aload rfl ?_
            refine q_getI (c0 := 12) (j := 13) rfl rfl (zl hS 105 (by decide)) (sk hS 105 (by decide) rfl) (Or.inr rfl) (by decide) ?_
            refine q_if_ne (fun c_48 => ?_) (fun c_48 => ?_)
            · rw [if_neg c_48] at h
              exact (ih dp d hdp _ _ (-1 : Int32) 0 0 _ _).2.2.1 h
            · rw [if_pos c_48] at h
              refine q_iload rfl ?_
              refine q_iconst (-1) (by decide) ?_
              refine q_icmp_eq (fun c_53 => ?_) (fun c_53 => ?_)
              · rw [if_pos c_53] at h
                exact (ih dp d hdp _ _ (-1 : Int32) 0 0 _ _).2.1 h
              · rw [if_neg c_53] at h
                refine q_aload rfl ?_
                refine q_getI (c0 := 12) (j := 14) rfl rfl (zl hS 105 (by decide)) (sk hS 105 (by decide) rfl) (Or.inl rfl) (by decide) ?_
                refine q_iconst (24) (by decide) ?_
                refine q_icmp_eq (fun c_62 => ?_) (fun c_62 => ?_)
                · rw [if_pos c_62] at h
                  exact (ih dp d hdp _ _ (-1 : Int32) 0 0 _ _).2.1 h
                · rw [if_neg c_62] at h
                  refine q_iload rfl ?_
                  refine q_iconst (2) (by decide) ?_
                  refine q_icmp_ne (fun c_67 => ?_) (fun c_67 => ?_)
                  · rw [if_neg c_67] at h
                    exact (ih dp d hdp _ _ (-1 : Int32) 0 0 _ _).2.2.1 h
                  · rw [if_pos c_67] at h
                    refine q_aload rfl ?_
                    refine q_getI (c0 := 12) (j := 26) rfl rfl (zl hS 105 (by decide)) (sk hS 105 (by decide) rfl) (Or.inl rfl) (by decide) ?_
                    refine q_iconst (16) (by decide) ?_
                    refine q_icmp_ne (fun c_76 => ?_) (fun c_76 => ?_)
                    · rw [if_neg c_76] at h
                      exact (ih dp d hdp _ _ (-1 : Int32) 0 0 _ _).2.2.1 h
                    · rw [if_pos c_76] at h
                      refine q_end ?_
                      exact (ih dp d hdp _ _ (-1 : Int32) 0 0 _ _).2.1 h
          · rw [if_neg c_35] at h
            refine q_iconst (1) (by decide) ?_
            refine q_goto ?_
            refine K_of b_217_43 h_217_43 ?_
            refine q_istore (ls1 := [some (.ref 105), some (.int (1 : Int32)), none, none]) (Nat.le_of_ble_eq_true rfl) rfl ?_
            refine q_aload rfl ?_
            refine q_getI (c0 := 12) (j := 13) rfl rfl (zl hS 105 (by decide)) (sk hS 105 (by decide) rfl) (Or.inr rfl) (by decide) ?_
            refine q_if_ne (fun c_48 => ?_) (fun c_48 => ?_)
            · rw [if_neg c_48] at h
              exact (ih dp d hdp _ _ (1 : Int32) 0 0 _ _).2.2.1 h
            · rw [if_pos c_48] at h
              refine q_iload rfl ?_
              refine q_iconst (-1) (by decide) ?_
              refine q_icmp_eq (fun c_53 => ?_) (fun c_53 => ?_)
              · rw [if_pos c_53] at h
                exact (ih dp d hdp _ _ (1 : Int32) 0 0 _ _).2.1 h
              · rw [if_neg c_53] at h
                refine q_aload rfl ?_
                refine q_getI (c0 := 12) (j := 14) rfl rfl (zl hS 105 (by decide)) (sk hS 105 (by decide) rfl) (Or.inl rfl) (by decide) ?_
                refine q_iconst (24) (by decide) ?_
                refine q_icmp_eq (fun c_62 => ?_) (fun c_62 => ?_)
                · rw [if_pos c_62] at h
                  exact (ih dp d hdp _ _ (1 : Int32) 0 0 _ _).2.1 h
                · rw [if_neg c_62] at h
                  refine q_iload rfl ?_
                  refine q_iconst (2) (by decide) ?_
                  refine q_icmp_ne (fun c_67 => ?_) (fun c_67 => ?_)
                  · rw [if_neg c_67] at h
                    exact (ih dp d hdp _ _ (1 : Int32) 0 0 _ _).2.2.1 h
                  · rw [if_pos c_67] at h
                    refine q_aload rfl ?_
                    refine q_getI (c0 := 12) (j := 26) rfl rfl (zl hS 105 (by decide)) (sk hS 105 (by decide) rfl) (Or.inl rfl) (by decide) ?_
                    refine q_iconst (16) (by decide) ?_
                    refine q_icmp_ne (fun c_76 => ?_) (fun c_76 => ?_)
                    · rw [if_neg c_76] at h
                      exact (ih dp d hdp _ _ (1 : Int32) 0 0 _ _).2.2.1 h
                    · rw [if_pos c_76] at h
                      refine q_end ?_
                      exact (ih dp d hdp _ _ (1 : Int32) 0 0 _ _).2.1 h
        · rw [if_neg c_21] at h
          refine q_iconst (0) (by decide) ?_
          refine q_goto ?_
          refine K_of b_217_43 h_217_43 ?_
          refine q_istore (ls1 := [some (.ref 105), some (.int (0 : Int32)), none, none]) (Nat.le_of_ble_eq_true rfl) rfl ?_
          refine q_aload rfl ?_
          refine q_getI (c0 := 12) (j := 13) rfl rfl (zl hS 105 (by decide)) (sk hS 105 (by decide) rfl) (Or.inr rfl) (by decide) ?_
          refine q_if_ne (fun c_48 => ?_) (fun c_48 => ?_)
          · rw [if_neg c_48] at h
            exact (ih dp d hdp _ _ (0 : Int32) 0 0 _ _).2.2.1 h
          · rw [if_pos c_48] at h
            refine q_iload rfl ?_
            refine q_iconst (-1) (by decide) ?_
            refine q_icmp_eq (fun c_53 => ?_) (fun c_53 => ?_)
            · rw [if_pos c_53] at h
              exact (ih dp d hdp _ _ (0 : Int32) 0 0 _ _).2.1 h
            · rw [if_neg c_53] at h
              refine q_aload rfl ?_
              refine q_getI (c0 := 12) (j := 14) rfl rfl (zl hS 105 (by decide)) (sk hS 105 (by decide) rfl) (Or.inl rfl) (by decide) ?_
              refine q_iconst (24) (by decide) ?_
              refine q_icmp_eq (fun c_62 => ?_) (fun c_62 => ?_)
              · rw [if_pos c_62] at h
                exact (ih dp d hdp _ _ (0 : Int32) 0 0 _ _).2.1 h
              · rw [if_neg c_62] at h
                refine q_iload rfl ?_
                refine q_iconst (2) (by decide) ?_
                refine q_icmp_ne (fun c_67 => ?_) (fun c_67 => ?_)
                · rw [if_neg c_67] at h
                  exact (ih dp d hdp _ _ (0 : Int32) 0 0 _ _).2.2.1 h
                · rw [if_pos c_67] at h
                  refine q_aload rfl ?_
                  refine q_getI (c0 := 12) (j := 26) rfl rfl (zl hS 105 (by decide)) (sk hS 105 (by decide) rfl) (Or.inl rfl) (by decide) ?_
                  refine q_iconst (16) (by decide) ?_
                  refine q_icmp_ne (fun c_76 => ?_) (fun c_76 => ?_)
                  · rw [if_neg c_76] at h
                    exact (ih dp d hdp _ _ (0 : Int32) 0 0 _ _).2.2.1 h
                  · rw [if_pos c_76] at h
                    refine q_end ?_
                    exact (ih dp d hdp _ _ (0 : Int32) 0 0 _ _).2.1 h
      · rw [if_neg c_7] at h
        refine q_iconst (2) (by decide) ?_
        refine q_goto ?_
        refine K_of b_217_43 h_217_43 ?_
        refine q_istore (ls1 := [some (.ref 105), some (.int (2 : Int32)), none, none]) (Nat.le_of_ble_eq_true rfl) rfl ?_
        refine q_aload rfl ?_
        refine q_getI (c0 := 12) (j := 13) rfl rfl (zl hS 105 (by decide)) (sk hS 105 (by decide) rfl) (Or.inr rfl) (by decide) ?_
        refine q_if_ne (fun c_48 => ?_) (fun c_48 => ?_)
        · rw [if_neg c_48] at h
          exact (ih dp d hdp _ _ (2 : Int32) 0 0 _ _).2.2.1 h
        · rw [if_pos c_48] at h
          refine q_iload rfl ?_
          refine q_iconst (-1) (by decide) ?_
          refine q_icmp_eq (fun c_53 => ?_) (fun c_53 => ?_)
          · rw [if_pos c_53] at h
            exact (ih dp d hdp _ _ (2 : Int32) 0 0 _ _).2.1 h
          · rw [if_neg c_53] at h
            refine q_aload rfl ?_
            refine q_getI (c0 := 12) (j := 14) rfl rfl (zl hS 105 (by decide)) (sk hS 105 (by decide) rfl) (Or.inl rfl) (by decide) ?_
            refine q_iconst (24) (by decide) ?_
            refine q_icmp_eq (fun c_62 => ?_) (fun c_62 => ?_)
            · rw [if_pos c_62] at h
              exact (ih dp d hdp _ _ (2 : Int32) 0 0 _ _).2.1 h
            · rw [if_neg c_62] at h
              refine q_iload rfl ?_
              refine q_iconst (2) (by decide) ?_
              refine q_icmp_ne (fun c_67 => ?_) (fun c_67 => ?_)
              · rw [if_neg c_67] at h
                exact (ih dp d hdp _ _ (2 : Int32) 0 0 _ _).2.2.1 h
              · rw [if_pos c_67] at h
                refine q_aload rfl ?_
                refine q_getI (c0 := 12) (j := 26) rfl rfl (zl hS 105 (by decide)) (sk hS 105 (by decide) rfl) (Or.inl rfl) (by decide) ?_
                refine q_iconst (16) (by decide) ?_
                refine q_icmp_ne (fun c_76 => ?_) (fun c_76 => ?_)
                · rw [if_neg c_76] at h
                  exact (ih dp d hdp _ _ (2 : Int32) 0 0 _ _).2.2.1 h
                · rw [if_pos c_76] at h
                  refine q_end ?_
                  exact (ih dp d hdp _ _ (2 : Int32) 0 0 _ _).2.1 h
    · intro h
      rw [e_217_1] at h
      refine K_of b_217_79 h_217_79 ?_
      refine q_aload rfl ?_
      refine q_iconst (0) (by decide) ?_
      obtain ⟨d_81, h⟩ := ite_some h
      obtain ⟨⟨I0_81, L0_81⟩, e_81, h⟩ := Option.bind_eq_some_iff.mp h
      dsimp only at h
      refine q_fv2V (a_219 X hS (d := d - 1) (by omega) e_81) (by omega) (Nat.le_refl _) (Nat.le_refl _) rfl (Nat.le_of_ble_eq_true rfl) ⟨(zl hS 105 (by decide)), congrArg Prod.fst (sk hS 105 (by decide) rfl), by decide⟩ ?_
      refine q_end ?_
      exact (ih dp d hdp _ _ i1 0 0 _ _).2.2.1 h
    · intro h
      rw [e_217_2] at h
      refine K_of b_217_84 h_217_84 ?_
      refine q_aload rfl ?_
      refine q_getI (c0 := 12) (j := 13) rfl rfl (zl hS 105 (by decide)) (sk hS 105 (by decide) rfl) (Or.inr rfl) (by decide) ?_
      refine q_if_eq (fun c_88 => ?_) (fun c_88 => ?_)
      · rw [if_pos c_88] at h
        refine K_of b_217_92 h_217_92 ?_
        refine q_aload rfl ?_
        obtain ⟨d_93, h⟩ := ite_some h
        obtain ⟨⟨I0_93, L0_93⟩, e_93, h⟩ := Option.bind_eq_some_iff.mp h
        dsimp only at h
        refine q_fv1V (a_214 X hS (d := d - 1) (by omega) e_93) (by omega) (Nat.le_refl _) (Nat.le_refl _) rfl (Nat.le_of_ble_eq_true rfl) ⟨(zl hS 105 (by decide)), congrArg Prod.fst (sk hS 105 (by decide) rfl), by decide⟩ ?_
        refine q_iconst (8) (by decide) ?_
        refine q_aload rfl ?_
        refine q_getI (c0 := 12) (j := 14) rfl rfl (zl hS 105 (by decide)) (sk hS 105 (by decide) rfl) (Or.inl rfl) (by decide) ?_
        refine q_imul ?_
        obtain ⟨v_103, nv_103, h⟩ := stI_some h
        refine q_eqi nv_103.symm ?_
        refine q_istore (ls1 := [some (.ref 105), some (.int i1), some (.int v_103), none]) (Nat.le_of_ble_eq_true rfl) rfl ?_
        refine q_iconst (0) (by decide) ?_
        refine q_istore (ls1 := [some (.ref 105), some (.int i1), some (.int v_103), some (.int (0 : Int32))]) (Nat.le_of_ble_eq_true rfl) rfl ?_
        refine q_end ?_
        exact (ih dp d hdp _ _ i1 v_103 (0 : Int32) _ _).2.2.2.1 h
      · rw [if_neg c_88] at h
        cases h
        exact q_vret rfl (Nat.le_refl _) (Nat.le_refl _) rfl
    · intro h
      rw [e_217_3] at h
      refine K_of b_217_106 h_217_106 ?_
      refine q_iload rfl ?_
      refine q_iconst (8) (by decide) ?_
      refine q_icmp_ge (fun c_109 => ?_) (fun c_109 => ?_)
      · rw [if_pos c_109] at h
        refine K_of b_217_127 h_217_127 ?_
        refine q_aload rfl ?_
        refine q_getRs (c0 := 12) (j := 15) rfl rfl (zl hS 105 (by decide)) (sk hS 105 (by decide) rfl) rfl (by decide) (r_105_15 hS) ?_
        refine q_iload rfl ?_
        refine q_iload rfl ?_
        obtain ⟨⟨u_133, v_133⟩, h⟩ := ite_some h
        refine q_iasN (Int32.toNatClampNeg i2) (nx u_133) (zl hS 111 (by decide)) (sk hS 111 (by decide) rfl) v_133 (by decide) ?_
        obtain ⟨I_133, nI_133, h⟩ := stI_some h
        refine q_nI nI_133 ?_
        refine q_aload rfl ?_
        refine q_getRs (c0 := 12) (j := 15) rfl rfl (zl hS 105 (by decide)) (sk hS 105 (by decide) rfl) rfl (by decide) (r_105_15 hS) ?_
        refine q_iload rfl ?_
        refine q_iconst (1) (by decide) ?_
        refine q_iadd ?_
        refine q_aload rfl ?_
        refine q_getI (c0 := 12) (j := 26) rfl rfl (zl hS 105 (by decide)) (sk hS 105 (by decide) rfl) (Or.inl rfl) (by decide) ?_
        obtain ⟨⟨u_145, v_145⟩, h⟩ := ite_some h
        refine q_iasN (Int32.toNatClampNeg (i2 + (1 : Int32))) (nx u_145) (zl hS 111 (by decide)) (sk hS 111 (by decide) rfl) v_145 (by decide) ?_
        obtain ⟨I_145, nI_145, h⟩ := stI_some h
        refine q_nI nI_145 ?_
        refine q_aload rfl ?_
        refine q_dup rfl ?_
        refine q_getI (c0 := 12) (j := 14) rfl rfl (zl hS 105 (by decide)) (sk hS 105 (by decide) rfl) (Or.inl rfl) (by decide) ?_
        refine q_iconst (1) (by decide) ?_
        refine q_iadd ?_
        refine q_putI (c0 := 12) (j := 14) rfl rfl (zl hS 105 (by decide)) (sk hS 105 (by decide) rfl) rfl ?_
        obtain ⟨I_153, nI_153, h⟩ := stI_some h
        refine q_nI nI_153 ?_
        refine q_aload rfl ?_
        refine q_getRs (c0 := 12) (j := 15) rfl rfl (zl hS 105 (by decide)) (sk hS 105 (by decide) rfl) rfl (by decide) (r_105_15 hS) ?_
        refine q_iload rfl ?_
        refine q_iconst (3) (by decide) ?_
        refine q_iadd ?_
        refine q_aload rfl ?_
        refine q_getI (c0 := 12) (j := 16) rfl rfl (zl hS 105 (by decide)) (sk hS 105 (by decide) rfl) (Or.inl rfl) (by decide) ?_
        obtain ⟨⟨u_167, v_167⟩, h⟩ := ite_some h
        refine q_iasN (Int32.toNatClampNeg (i2 + (3 : Int32))) (nx u_167) (zl hS 111 (by decide)) (sk hS 111 (by decide) rfl) v_167 (by decide) ?_
        obtain ⟨I_167, nI_167, h⟩ := stI_some h
        refine q_nI nI_167 ?_
        refine q_iload rfl ?_
        refine q_iconst (2) (by decide) ?_
        refine q_icmp_ne (fun c_170 => ?_) (fun c_170 => ?_)
        · rw [if_neg c_170] at h
          refine K_of b_217_180 h_217_180 ?_
          refine q_aload rfl ?_
          refine q_iconst (0) (by decide) ?_
          obtain ⟨d_182, h⟩ := ite_some h
          obtain ⟨⟨I0_182, L0_182⟩, e_182, h⟩ := Option.bind_eq_some_iff.mp h
          dsimp only at h
          refine q_fv2V (a_223 X hS (d := d - 1) (by omega) e_182) (by omega) (Nat.le_refl _) (Nat.le_refl _) rfl (Nat.le_of_ble_eq_true rfl) ⟨(zl hS 105 (by decide)), congrArg Prod.fst (sk hS 105 (by decide) rfl), by decide⟩ ?_
          refine q_end ?_
          exact (ih dp d hdp _ _ i1 i2 i3 _ _).2.2.2.2.1 h
        · rw [if_pos c_170] at h
          refine q_aload rfl ?_
          obtain ⟨d_174, h⟩ := ite_some h
          obtain ⟨⟨I0_174, L0_174⟩, e_174, h⟩ := Option.bind_eq_some_iff.mp h
          dsimp only at h
          refine q_fv1V (a_220 X hS (d := d - 1) (by omega) e_174) (by omega) (Nat.le_refl _) (Nat.le_refl _) rfl (Nat.le_of_ble_eq_true rfl) ⟨(zl hS 105 (by decide)), congrArg Prod.fst (sk hS 105 (by decide) rfl), by decide⟩ ?_
          refine q_goto ?_
          exact (ih dp d hdp _ _ i1 i2 i3 _ _).2.2.2.2.1 h
      · rw [if_neg c_109] at h
        refine q_aload rfl ?_
        refine q_getRs (c0 := 12) (j := 15) rfl rfl (zl hS 105 (by decide)) (sk hS 105 (by decide) rfl) rfl (by decide) (r_105_15 hS) ?_
        refine q_iload rfl ?_
        refine q_iload rfl ?_
        refine q_iadd ?_
        refine q_iconst (0) (by decide) ?_
        obtain ⟨⟨u_120, v_120⟩, h⟩ := ite_some h
        refine q_iasN (Int32.toNatClampNeg (i2 + i3)) (nx u_120) (zl hS 111 (by decide)) (sk hS 111 (by decide) rfl) v_120 (by decide) ?_
        obtain ⟨I_120, nI_120, h⟩ := stI_some h
        refine q_nI nI_120 ?_
        refine q_iinc (ls1 := [some (.ref 105), some (.int i1), some (.int i2), some (.int (i3 + Int32.ofInt (1)))]) rfl rfl ?_
        refine q_goto ?_
        exact (ih dp d hdp _ _ i1 i2 (i3 + Int32.ofInt (1)) _ _).2.2.2.1 h
    · intro h
      rw [e_217_4] at h
      refine K_of b_217_185 h_217_185 ?_
      refine q_aload rfl ?_
      refine q_getRs (c0 := 12) (j := 15) rfl rfl (zl hS 105 (by decide)) (sk hS 105 (by decide) rfl) rfl (by decide) (r_105_15 hS) ?_
      refine q_iload rfl ?_
      refine q_iconst (4) (by decide) ?_
      refine q_iadd ?_
      refine q_aload rfl ?_
      refine q_getI (c0 := 12) (j := 16) rfl rfl (zl hS 105 (by decide)) (sk hS 105 (by decide) rfl) (Or.inl rfl) (by decide) ?_
      obtain ⟨⟨u_196, v_196⟩, h⟩ := ite_some h
      refine q_iasN (Int32.toNatClampNeg (i2 + (4 : Int32))) (nx u_196) (zl hS 111 (by decide)) (sk hS 111 (by decide) rfl) v_196 (by decide) ?_
      obtain ⟨I_196, nI_196, h⟩ := stI_some h
      refine q_nI nI_196 ?_
      refine q_aload rfl ?_
      refine q_getRs (c0 := 12) (j := 15) rfl rfl (zl hS 105 (by decide)) (sk hS 105 (by decide) rfl) rfl (by decide) (r_105_15 hS) ?_
      refine q_iload rfl ?_
      refine q_iconst (5) (by decide) ?_
      refine q_iadd ?_
      refine q_aload rfl ?_
      refine q_getI (c0 := 12) (j := 16) rfl rfl (zl hS 105 (by decide)) (sk hS 105 (by decide) rfl) (Or.inl rfl) (by decide) ?_
      obtain ⟨⟨u_208, v_208⟩, h⟩ := ite_some h
      refine q_iasN (Int32.toNatClampNeg (i2 + (5 : Int32))) (nx u_208) (zl hS 111 (by decide)) (sk hS 111 (by decide) rfl) v_208 (by decide) ?_
      obtain ⟨I_208, nI_208, h⟩ := stI_some h
      refine q_nI nI_208 ?_
      refine q_aload rfl ?_
      refine q_getI (c0 := 12) (j := 13) rfl rfl (zl hS 105 (by decide)) (sk hS 105 (by decide) rfl) (Or.inr rfl) (by decide) ?_
      refine q_if_ne (fun c_213 => ?_) (fun c_213 => ?_)
      · rw [if_neg c_213] at h
        exact (ih dp d hdp _ _ i1 i2 i3 _ _).2.2.2.2.2 h
      · rw [if_pos c_213] at h
        refine q_aload rfl ?_
        refine q_lconst (294) (by decide) ?_
        obtain ⟨d_220, h⟩ := ite_some h
        obtain ⟨⟨x0_220, I0_220, L0_220⟩, e_220, h⟩ := Option.bind_eq_some_iff.mp h
        dsimp only at h
        refine q_fv2I (a_218 X hS (d := d - 1) (by omega) e_220) (by omega) (Nat.le_refl _) (Nat.le_refl _) rfl (Nat.le_of_ble_eq_true rfl) ⟨(zl hS 105 (by decide)), congrArg Prod.fst (sk hS 105 (by decide) rfl), by decide⟩ ?_
        refine q_if_eq (fun c_223 => ?_) (fun c_223 => ?_)
        · rw [if_pos c_223] at h
          exact (ih dp d hdp _ _ i1 i2 i3 _ _).2.2.2.2.2 h
        · rw [if_neg c_223] at h
          refine q_aload rfl ?_
          obtain ⟨d_227, h⟩ := ite_some h
          obtain ⟨⟨I1_227, L1_227⟩, e_227, h⟩ := Option.bind_eq_some_iff.mp h
          dsimp only at h
          refine q_fv1V (a_214 X hS (d := d - 1) (by omega) e_227) (by omega) (Nat.le_refl _) (Nat.le_refl _) rfl (Nat.le_of_ble_eq_true rfl) ⟨(zl hS 105 (by decide)), congrArg Prod.fst (sk hS 105 (by decide) rfl), by decide⟩ ?_
          refine q_aload rfl ?_
          refine q_iconst (1) (by decide) ?_
          obtain ⟨d_232, h⟩ := ite_some h
          obtain ⟨⟨I2_232, L2_232⟩, e_232, h⟩ := Option.bind_eq_some_iff.mp h
          dsimp only at h
          refine q_fv2V (a_223 X hS (d := d - 1) (by omega) e_232) (by omega) (Nat.le_refl _) (Nat.le_refl _) rfl (Nat.le_of_ble_eq_true rfl) ⟨(zl hS 105 (by decide)), congrArg Prod.fst (sk hS 105 (by decide) rfl), by decide⟩ ?_
          refine q_end ?_
          exact (ih dp d hdp _ _ i1 i2 i3 _ _).2.2.2.2.2 h
    · intro h
      rw [e_217_5] at h
      refine K_of b_217_235 h_217_235 ?_
      refine q_aload rfl ?_
      refine q_getRs (c0 := 12) (j := 15) rfl rfl (zl hS 105 (by decide)) (sk hS 105 (by decide) rfl) rfl (by decide) (r_105_15 hS) ?_
      refine q_iload rfl ?_
      refine q_iconst (6) (by decide) ?_
      refine q_iadd ?_
      refine q_aload rfl ?_
      refine q_getI (c0 := 12) (j := 16) rfl rfl (zl hS 105 (by decide)) (sk hS 105 (by decide) rfl) (Or.inl rfl) (by decide) ?_
      obtain ⟨⟨u_247, v_247⟩, h⟩ := ite_some h
      refine q_iasN (Int32.toNatClampNeg (i2 + (6 : Int32))) (nx u_247) (zl hS 111 (by decide)) (sk hS 111 (by decide) rfl) v_247 (by decide) ?_
      obtain ⟨I_247, nI_247, h⟩ := stI_some h
      refine q_nI nI_247 ?_
      cases h
      exact q_vret rfl (Nat.le_refl _) (Nat.le_refl _) rfl
theorem a_217 (X : GX) {z : Nat} {kd : Nat → Nat × Nat} {Rf : Nat → Nat → Option Nat} (hS : Sh z kd Rf) {n dp d : Nat} (hd : dp ≤ d) {I : (Nat → Nat → Int32)} {L : (Nat → Nat → Int64)} {I1 : (Nat → Nat → Int32)} {L1 : (Nat → Nat → Int64)} (h : g_217 n dp (z, kd, Rf) 0 I L 0 0 0 = some (I1, L1)) : Ct X d 217 0 0 [.ref 105] (z, kd, I, L, Rf) (AV (fun τ => τ = (z, kd, I1, L1, Rf))) :=
  Ct_of mu_217 (Nat.le_of_ble_eq_true rfl) ((w_217 X hS n dp d hd I L 0 0 0 _ _).1 h)

/-! 212 CutFloorModel.tree()I -/
set_option maxHeartbeats 4000000 in
set_option maxRecDepth 100000 in
def g_212 : Nat → Nat → EN → Nat → (Nat → Nat → Int32) → (Nat → Nat → Int64) → Int32 →  Option (Int32 × (Nat → Nat → Int32) × (Nat → Nat → Int64))
  | 0, _, _, _, _, _, _ => none
  | n + 1, dp, e, lab, I, L, i1 =>
    if lab = 0 then (stI (u2 I 105 0 (0 : Int32)) (fun I_2 => (if 1 ≤ dp then (g_213 n (dp - 1) e 0 I_2 L).bind (fun ⟨I0_6, L0_6⟩ => (stI (u2 I0_6 105 14 (0 : Int32)) (fun I_11 => (stI (u2 I_11 105 16 (0 : Int32)) (fun I_16 => (stI (u2 I_16 105 19 (0 : Int32)) (fun I_21 => (stI (u2 I_21 105 26 (0 : Int32)) (fun I_26 => (if 1 ≤ dp then (g_217 n (dp - 1) e 0 I_26 L0_6 0 0 0).bind (fun ⟨I1_30, L1_30⟩ => (g_212 n dp e 1 I1_30 L1_30 0)) else none)))))))))) else none)))
    else if lab = 1 then (if (I 105 13) = 0 then (if 1 ≤ dp then (g_226 n (dp - 1) e 0 I L (59 : Int32)).bind (fun ⟨x0_43, I0_43, L0_43⟩ => (if x0_43 = 0 then (g_212 n dp e 2 I0_43 L0_43 0) else (if 1 ≤ dp then (g_214 n (dp - 1) e 0 I0_43 L0_43).bind (fun ⟨I1_50, L1_50⟩ => (if 1 ≤ dp then (g_217 n (dp - 1) e 0 I1_50 L1_50 0 0 0).bind (fun ⟨I2_54, L2_54⟩ => (g_212 n dp e 1 I2_54 L2_54 0)) else none)) else none))) else none) else (g_212 n dp e 2 I L 0))
    else if lab = 2 then (if (I 105 13) = 0 then (if (I 105 10) = 0 then (g_212 n dp e 3 I L 0) else (if 1 ≤ dp then (g_219 n (dp - 1) e 0 I L (0 : Int32)).bind (fun ⟨I0_76, L0_76⟩ => (g_212 n dp e 3 I0_76 L0_76 0)) else none)) else (g_212 n dp e 3 I L 0))
    else if lab = 3 then (stI (u2 I 105 7 (0 : Int32)) (fun I_81 => (if (I_81 105 13) = 0 then (stI (u2 I_81 107 8 (I_81 105 14)) (fun I_108 => (stI (u2 I_108 107 9 (I_108 105 26)) (fun I_119 => (g_212 n dp e 4 I_119 L (0 : Int32)))))) else (if 1 ≤ dp then (g_194 n (dp - 1) e 0 I_81 L (-6 : Int32)).bind (fun ⟨x0_94, I0_94, L0_94⟩ => (some (x0_94, I0_94, L0_94))) else none))))
    else if lab = 4 then (if ((11 : Int32) * (I 105 26)) ≤ i1 then (stI (u2 I 107 471 (I 105 14)) (fun I_166 => (g_212 n dp e 5 I_166 L (0 : Int32)))) else (if 0 ≤ i1 ∧ (Int32.toNatClampNeg i1) < 176 then (if 0 ≤ ((290 : Int32) + i1) ∧ (Int32.toNatClampNeg ((290 : Int32) + i1)) < 1570 then (stI (u2 I 107 (Int32.toNatClampNeg ((290 : Int32) + i1)) (I 117 (Int32.toNatClampNeg i1))) (fun I_148 => (g_212 n dp e 4 I_148 L (i1 + Int32.ofInt (1))))) else none) else none))
    else if lab = 5 then (if ((8 : Int32) * (I 105 14)) ≤ i1 then (g_212 n dp e 6 I L (0 : Int32)) else (if 0 ≤ i1 ∧ (Int32.toNatClampNeg i1) < 192 then (if 0 ≤ ((472 : Int32) + i1) ∧ (Int32.toNatClampNeg ((472 : Int32) + i1)) < 1570 then (stI (u2 I 107 (Int32.toNatClampNeg ((472 : Int32) + i1)) (I 111 (Int32.toNatClampNeg i1))) (fun I_195 => (g_212 n dp e 5 I_195 L (i1 + Int32.ofInt (1))))) else none) else none))
    else if lab = 6 then (if (I 105 16) ≤ i1 then (if 1 ≤ dp then (g_194 n (dp - 1) e 0 I L (I 105 14)).bind (fun ⟨x0_261, I0_261, L0_261⟩ => (some (x0_261, I0_261, L0_261))) else none) else (if 0 ≤ i1 ∧ (Int32.toNatClampNeg i1) < 400 then (if 0 ≤ ((664 : Int32) + ((2 : Int32) * i1)) ∧ (Int32.toNatClampNeg ((664 : Int32) + ((2 : Int32) * i1))) < 1570 then (stI (u2 I 107 (Int32.toNatClampNeg ((664 : Int32) + ((2 : Int32) * i1))) (I 112 (Int32.toNatClampNeg i1))) (fun I_229 => (if 0 ≤ i1 ∧ (Int32.toNatClampNeg i1) < 400 then (if 0 ≤ (((664 : Int32) + ((2 : Int32) * i1)) + (1 : Int32)) ∧ (Int32.toNatClampNeg (((664 : Int32) + ((2 : Int32) * i1)) + (1 : Int32))) < 1570 then (stI (u2 I_229 107 (Int32.toNatClampNeg (((664 : Int32) + ((2 : Int32) * i1)) + (1 : Int32))) (I_229 113 (Int32.toNatClampNeg i1))) (fun I_249 => (g_212 n dp e 6 I_249 L (i1 + Int32.ofInt (1))))) else none) else none))) else none) else none))
    else none
set_option maxRecDepth 100000 in
theorem e_212_0 (n dp : Nat) (e : EN) (I : (Nat → Nat → Int32)) (L : (Nat → Nat → Int64)) (i1 : Int32) : g_212 (n + 1) dp e 0 I L i1 = (stI (u2 I 105 0 (0 : Int32)) (fun I_2 => (if 1 ≤ dp then (g_213 n (dp - 1) e 0 I_2 L).bind (fun ⟨I0_6, L0_6⟩ => (stI (u2 I0_6 105 14 (0 : Int32)) (fun I_11 => (stI (u2 I_11 105 16 (0 : Int32)) (fun I_16 => (stI (u2 I_16 105 19 (0 : Int32)) (fun I_21 => (stI (u2 I_21 105 26 (0 : Int32)) (fun I_26 => (if 1 ≤ dp then (g_217 n (dp - 1) e 0 I_26 L0_6 0 0 0).bind (fun ⟨I1_30, L1_30⟩ => (g_212 n dp e 1 I1_30 L1_30 0)) else none)))))))))) else none))) := by rw [g_212.eq_2, if_pos (show (0 : Nat) = 0 from rfl)]
set_option maxRecDepth 100000 in
theorem e_212_1 (n dp : Nat) (e : EN) (I : (Nat → Nat → Int32)) (L : (Nat → Nat → Int64)) (i1 : Int32) : g_212 (n + 1) dp e 1 I L i1 = (if (I 105 13) = 0 then (if 1 ≤ dp then (g_226 n (dp - 1) e 0 I L (59 : Int32)).bind (fun ⟨x0_43, I0_43, L0_43⟩ => (if x0_43 = 0 then (g_212 n dp e 2 I0_43 L0_43 0) else (if 1 ≤ dp then (g_214 n (dp - 1) e 0 I0_43 L0_43).bind (fun ⟨I1_50, L1_50⟩ => (if 1 ≤ dp then (g_217 n (dp - 1) e 0 I1_50 L1_50 0 0 0).bind (fun ⟨I2_54, L2_54⟩ => (g_212 n dp e 1 I2_54 L2_54 0)) else none)) else none))) else none) else (g_212 n dp e 2 I L 0)) := by rw [g_212.eq_2, if_neg (show ¬ ((1 : Nat) = 0) by decide), if_pos (show (1 : Nat) = 1 from rfl)]
set_option maxRecDepth 100000 in
theorem e_212_2 (n dp : Nat) (e : EN) (I : (Nat → Nat → Int32)) (L : (Nat → Nat → Int64)) (i1 : Int32) : g_212 (n + 1) dp e 2 I L i1 = (if (I 105 13) = 0 then (if (I 105 10) = 0 then (g_212 n dp e 3 I L 0) else (if 1 ≤ dp then (g_219 n (dp - 1) e 0 I L (0 : Int32)).bind (fun ⟨I0_76, L0_76⟩ => (g_212 n dp e 3 I0_76 L0_76 0)) else none)) else (g_212 n dp e 3 I L 0)) := by rw [g_212.eq_2, if_neg (show ¬ ((2 : Nat) = 0) by decide), if_neg (show ¬ ((2 : Nat) = 1) by decide), if_pos (show (2 : Nat) = 2 from rfl)]
set_option maxRecDepth 100000 in
theorem e_212_3 (n dp : Nat) (e : EN) (I : (Nat → Nat → Int32)) (L : (Nat → Nat → Int64)) (i1 : Int32) : g_212 (n + 1) dp e 3 I L i1 = (stI (u2 I 105 7 (0 : Int32)) (fun I_81 => (if (I_81 105 13) = 0 then (stI (u2 I_81 107 8 (I_81 105 14)) (fun I_108 => (stI (u2 I_108 107 9 (I_108 105 26)) (fun I_119 => (g_212 n dp e 4 I_119 L (0 : Int32)))))) else (if 1 ≤ dp then (g_194 n (dp - 1) e 0 I_81 L (-6 : Int32)).bind (fun ⟨x0_94, I0_94, L0_94⟩ => (some (x0_94, I0_94, L0_94))) else none)))) := by rw [g_212.eq_2, if_neg (show ¬ ((3 : Nat) = 0) by decide), if_neg (show ¬ ((3 : Nat) = 1) by decide), if_neg (show ¬ ((3 : Nat) = 2) by decide), if_pos (show (3 : Nat) = 3 from rfl)]
set_option maxRecDepth 100000 in
theorem e_212_4 (n dp : Nat) (e : EN) (I : (Nat → Nat → Int32)) (L : (Nat → Nat → Int64)) (i1 : Int32) : g_212 (n + 1) dp e 4 I L i1 = (if ((11 : Int32) * (I 105 26)) ≤ i1 then (stI (u2 I 107 471 (I 105 14)) (fun I_166 => (g_212 n dp e 5 I_166 L (0 : Int32)))) else (if 0 ≤ i1 ∧ (Int32.toNatClampNeg i1) < 176 then (if 0 ≤ ((290 : Int32) + i1) ∧ (Int32.toNatClampNeg ((290 : Int32) + i1)) < 1570 then (stI (u2 I 107 (Int32.toNatClampNeg ((290 : Int32) + i1)) (I 117 (Int32.toNatClampNeg i1))) (fun I_148 => (g_212 n dp e 4 I_148 L (i1 + Int32.ofInt (1))))) else none) else none)) := by rw [g_212.eq_2, if_neg (show ¬ ((4 : Nat) = 0) by decide), if_neg (show ¬ ((4 : Nat) = 1) by decide), if_neg (show ¬ ((4 : Nat) = 2) by decide), if_neg (show ¬ ((4 : Nat) = 3) by decide), if_pos (show (4 : Nat) = 4 from rfl)]
set_option maxRecDepth 100000 in
theorem e_212_5 (n dp : Nat) (e : EN) (I : (Nat → Nat → Int32)) (L : (Nat → Nat → Int64)) (i1 : Int32) : g_212 (n + 1) dp e 5 I L i1 = (if ((8 : Int32) * (I 105 14)) ≤ i1 then (g_212 n dp e 6 I L (0 : Int32)) else (if 0 ≤ i1 ∧ (Int32.toNatClampNeg i1) < 192 then (if 0 ≤ ((472 : Int32) + i1) ∧ (Int32.toNatClampNeg ((472 : Int32) + i1)) < 1570 then (stI (u2 I 107 (Int32.toNatClampNeg ((472 : Int32) + i1)) (I 111 (Int32.toNatClampNeg i1))) (fun I_195 => (g_212 n dp e 5 I_195 L (i1 + Int32.ofInt (1))))) else none) else none)) := by rw [g_212.eq_2, if_neg (show ¬ ((5 : Nat) = 0) by decide), if_neg (show ¬ ((5 : Nat) = 1) by decide), if_neg (show ¬ ((5 : Nat) = 2) by decide), if_neg (show ¬ ((5 : Nat) = 3) by decide), if_neg (show ¬ ((5 : Nat) = 4) by decide), if_pos (show (5 : Nat) = 5 from rfl)]
set_option maxRecDepth 100000 in
theorem e_212_6 (n dp : Nat) (e : EN) (I : (Nat → Nat → Int32)) (L : (Nat → Nat → Int64)) (i1 : Int32) : g_212 (n + 1) dp e 6 I L i1 = (if (I 105 16) ≤ i1 then (if 1 ≤ dp then (g_194 n (dp - 1) e 0 I L (I 105 14)).bind (fun ⟨x0_261, I0_261, L0_261⟩ => (some (x0_261, I0_261, L0_261))) else none) else (if 0 ≤ i1 ∧ (Int32.toNatClampNeg i1) < 400 then (if 0 ≤ ((664 : Int32) + ((2 : Int32) * i1)) ∧ (Int32.toNatClampNeg ((664 : Int32) + ((2 : Int32) * i1))) < 1570 then (stI (u2 I 107 (Int32.toNatClampNeg ((664 : Int32) + ((2 : Int32) * i1))) (I 112 (Int32.toNatClampNeg i1))) (fun I_229 => (if 0 ≤ i1 ∧ (Int32.toNatClampNeg i1) < 400 then (if 0 ≤ (((664 : Int32) + ((2 : Int32) * i1)) + (1 : Int32)) ∧ (Int32.toNatClampNeg (((664 : Int32) + ((2 : Int32) * i1)) + (1 : Int32))) < 1570 then (stI (u2 I_229 107 (Int32.toNatClampNeg (((664 : Int32) + ((2 : Int32) * i1)) + (1 : Int32))) (I_229 113 (Int32.toNatClampNeg i1))) (fun I_249 => (g_212 n dp e 6 I_249 L (i1 + Int32.ofInt (1))))) else none) else none))) else none) else none)) := by rw [g_212.eq_2, if_neg (show ¬ ((6 : Nat) = 0) by decide), if_neg (show ¬ ((6 : Nat) = 1) by decide), if_neg (show ¬ ((6 : Nat) = 2) by decide), if_neg (show ¬ ((6 : Nat) = 3) by decide), if_neg (show ¬ ((6 : Nat) = 4) by decide), if_neg (show ¬ ((6 : Nat) = 5) by decide), if_pos (show (6 : Nat) = 6 from rfl)]
set_option maxHeartbeats 8000000 in
set_option maxRecDepth 100000 in
theorem w_212 (X : GX) {z : Nat} {kd : Nat → Nat × Nat} {Rf : Nat → Nat → Option Nat} (hS : Sh z kd Rf) : ∀ (n dp d : Nat), dp ≤ d → ∀ (I : (Nat → Nat → Int32)) (L : (Nat → Nat → Int64)) (i1 : Int32) (r : Int32) (I1 : (Nat → Nat → Int32)) (L1 : (Nat → Nat → Int64)), (g_212 n dp (z, kd, Rf) 0 I L i1 = some (r, I1, L1) → K X d 212 0 0 (AI (fun x τ => x = r ∧ τ = (z, kd, I1, L1, Rf))) 0 [some (.ref 105), none] [] (z, kd, I, L, Rf) 0 0) ∧
    (g_212 n dp (z, kd, Rf) 1 I L i1 = some (r, I1, L1) → K X d 212 0 0 (AI (fun x τ => x = r ∧ τ = (z, kd, I1, L1, Rf))) 33 [some (.ref 105), none] [] (z, kd, I, L, Rf) 0 0) ∧
    (g_212 n dp (z, kd, Rf) 2 I L i1 = some (r, I1, L1) → K X d 212 0 0 (AI (fun x τ => x = r ∧ τ = (z, kd, I1, L1, Rf))) 60 [some (.ref 105), none] [] (z, kd, I, L, Rf) 0 0) ∧
    (g_212 n dp (z, kd, Rf) 3 I L i1 = some (r, I1, L1) → K X d 212 0 0 (AI (fun x τ => x = r ∧ τ = (z, kd, I1, L1, Rf))) 79 [some (.ref 105), none] [] (z, kd, I, L, Rf) 0 0) ∧
    (g_212 n dp (z, kd, Rf) 4 I L i1 = some (r, I1, L1) → K X d 212 0 0 (AI (fun x τ => x = r ∧ τ = (z, kd, I1, L1, Rf))) 122 [some (.ref 105), some (.int i1)] [] (z, kd, I, L, Rf) 0 0) ∧
    (g_212 n dp (z, kd, Rf) 5 I L i1 = some (r, I1, L1) → K X d 212 0 0 (AI (fun x τ => x = r ∧ τ = (z, kd, I1, L1, Rf))) 169 [some (.ref 105), some (.int i1)] [] (z, kd, I, L, Rf) 0 0) ∧
    (g_212 n dp (z, kd, Rf) 6 I L i1 = some (r, I1, L1) → K X d 212 0 0 (AI (fun x τ => x = r ∧ τ = (z, kd, I1, L1, Rf))) 204 [some (.ref 105), some (.int i1)] [] (z, kd, I, L, Rf) 0 0) := by
  intro n
  induction n with
  | zero => intro dp d hdp I L i1 r I1 L1; exact ⟨(fun h => by cases h), (fun h => by cases h), (fun h => by cases h), (fun h => by cases h), (fun h => by cases h), (fun h => by cases h), (fun h => by cases h)⟩
  | succ n ih =>
    intro dp d hdp I L i1 r I1 L1
    refine ⟨?_, ?_, ?_, ?_, ?_, ?_, ?_⟩
    · intro h
      rw [e_212_0] at h
      refine K_of b_212_0 h_212_0 ?_
      refine q_aload rfl ?_
      refine q_iconst (0) (by decide) ?_
      refine q_putI (c0 := 12) (j := 0) rfl rfl (zl hS 105 (by decide)) (sk hS 105 (by decide) rfl) rfl ?_
      obtain ⟨I_2, nI_2, h⟩ := stI_some h
      refine q_nI nI_2 ?_
      refine q_aload rfl ?_
      obtain ⟨d_6, h⟩ := ite_some h
      obtain ⟨⟨I0_6, L0_6⟩, e_6, h⟩ := Option.bind_eq_some_iff.mp h
      dsimp only at h
      refine q_fv1V (a_213 X hS (d := d - 1) (by omega) e_6) (by omega) (Nat.le_refl _) (Nat.le_refl _) rfl (Nat.le_of_ble_eq_true rfl) ⟨(zl hS 105 (by decide)), congrArg Prod.fst (sk hS 105 (by decide) rfl), by decide⟩ ?_
      refine q_aload rfl ?_
      refine q_iconst (0) (by decide) ?_
      refine q_putI (c0 := 12) (j := 14) rfl rfl (zl hS 105 (by decide)) (sk hS 105 (by decide) rfl) rfl ?_
      obtain ⟨I_11, nI_11, h⟩ := stI_some h
      refine q_nI nI_11 ?_
      refine q_aload rfl ?_
      refine q_iconst (0) (by decide) ?_
      refine q_putI (c0 := 12) (j := 16) rfl rfl (zl hS 105 (by decide)) (sk hS 105 (by decide) rfl) rfl ?_
      obtain ⟨I_16, nI_16, h⟩ := stI_some h
      refine q_nI nI_16 ?_
      refine q_aload rfl ?_
      refine q_iconst (0) (by decide) ?_
      refine q_putI (c0 := 12) (j := 19) rfl rfl (zl hS 105 (by decide)) (sk hS 105 (by decide) rfl) rfl ?_
      obtain ⟨I_21, nI_21, h⟩ := stI_some h
      refine q_nI nI_21 ?_
      refine q_aload rfl ?_
      refine q_iconst (0) (by decide) ?_
      refine q_putI (c0 := 12) (j := 26) rfl rfl (zl hS 105 (by decide)) (sk hS 105 (by decide) rfl) rfl ?_
      obtain ⟨I_26, nI_26, h⟩ := stI_some h
      refine q_nI nI_26 ?_
      refine q_aload rfl ?_
      obtain ⟨d_30, h⟩ := ite_some h
      obtain ⟨⟨I1_30, L1_30⟩, e_30, h⟩ := Option.bind_eq_some_iff.mp h
      dsimp only at h
      refine q_fv1V (a_217 X hS (d := d - 1) (by omega) e_30) (by omega) (Nat.le_refl _) (Nat.le_refl _) rfl (Nat.le_of_ble_eq_true rfl) ⟨(zl hS 105 (by decide)), congrArg Prod.fst (sk hS 105 (by decide) rfl), by decide⟩ ?_
      refine q_end ?_
      exact (ih dp d hdp _ _ 0 _ _ _).2.1 h
    · intro h
      rw [e_212_1] at h
      refine K_of b_212_33 h_212_33 ?_
      refine q_aload rfl ?_
      refine q_getI (c0 := 12) (j := 13) rfl rfl (zl hS 105 (by decide)) (sk hS 105 (by decide) rfl) (Or.inr rfl) (by decide) ?_
      refine q_if_ne (fun c_37 => ?_) (fun c_37 => ?_)
      · rw [if_neg c_37] at h
        exact (ih dp d hdp _ _ 0 _ _ _).2.2.1 h
      · rw [if_pos c_37] at h
        refine q_aload rfl ?_
        refine q_iconst (59) (by decide) ?_
        obtain ⟨d_43, h⟩ := ite_some h
        obtain ⟨⟨x0_43, I0_43, L0_43⟩, e_43, h⟩ := Option.bind_eq_some_iff.mp h
        dsimp only at h
        refine q_fv2I (a_226 X hS (d := d - 1) (by omega) e_43) (by omega) (Nat.le_refl _) (Nat.le_refl _) rfl (Nat.le_of_ble_eq_true rfl) ⟨(zl hS 105 (by decide)), congrArg Prod.fst (sk hS 105 (by decide) rfl), by decide⟩ ?_
        refine q_if_eq (fun c_46 => ?_) (fun c_46 => ?_)
        · rw [if_pos c_46] at h
          exact (ih dp d hdp _ _ 0 _ _ _).2.2.1 h
        · rw [if_neg c_46] at h
          refine q_aload rfl ?_
          obtain ⟨d_50, h⟩ := ite_some h
          obtain ⟨⟨I1_50, L1_50⟩, e_50, h⟩ := Option.bind_eq_some_iff.mp h
          dsimp only at h
          refine q_fv1V (a_214 X hS (d := d - 1) (by omega) e_50) (by omega) (Nat.le_refl _) (Nat.le_refl _) rfl (Nat.le_of_ble_eq_true rfl) ⟨(zl hS 105 (by decide)), congrArg Prod.fst (sk hS 105 (by decide) rfl), by decide⟩ ?_
          refine q_aload rfl ?_
          obtain ⟨d_54, h⟩ := ite_some h
          obtain ⟨⟨I2_54, L2_54⟩, e_54, h⟩ := Option.bind_eq_some_iff.mp h
          dsimp only at h
          refine q_fv1V (a_217 X hS (d := d - 1) (by omega) e_54) (by omega) (Nat.le_refl _) (Nat.le_refl _) rfl (Nat.le_of_ble_eq_true rfl) ⟨(zl hS 105 (by decide)), congrArg Prod.fst (sk hS 105 (by decide) rfl), by decide⟩ ?_
          refine q_goto ?_
          exact (ih dp d hdp _ _ 0 _ _ _).2.1 h
    · intro h
      rw [e_212_2] at h
      refine K_of b_212_60 h_212_60 ?_
      refine q_aload rfl ?_
      refine q_getI (c0 := 12) (j := 13) rfl rfl (zl hS 105 (by decide)) (sk hS 105 (by decide) rfl) (Or.inr rfl) (by decide) ?_
      refine q_if_ne (fun c_64 => ?_) (fun c_64 => ?_)
      · rw [if_neg c_64] at h
        exact (ih dp d hdp _ _ 0 _ _ _).2.2.2.1 h
      · rw [if_pos c_64] at h
        refine q_aload rfl ?_
        refine q_getI (c0 := 12) (j := 10) rfl rfl (zl hS 105 (by decide)) (sk hS 105 (by decide) rfl) (Or.inl rfl) (by decide) ?_
        refine q_if_eq (fun c_71 => ?_) (fun c_71 => ?_)
        · rw [if_pos c_71] at h
          exact (ih dp d hdp _ _ 0 _ _ _).2.2.2.1 h
        · rw [if_neg c_71] at h
          refine q_aload rfl ?_
          refine q_iconst (0) (by decide) ?_
          obtain ⟨d_76, h⟩ := ite_some h
          obtain ⟨⟨I0_76, L0_76⟩, e_76, h⟩ := Option.bind_eq_some_iff.mp h
          dsimp only at h
          refine q_fv2V (a_219 X hS (d := d - 1) (by omega) e_76) (by omega) (Nat.le_refl _) (Nat.le_refl _) rfl (Nat.le_of_ble_eq_true rfl) ⟨(zl hS 105 (by decide)), congrArg Prod.fst (sk hS 105 (by decide) rfl), by decide⟩ ?_
          refine q_end ?_
          exact (ih dp d hdp _ _ 0 _ _ _).2.2.2.1 h
    · intro h
      rw [e_212_3] at h
      refine K_of b_212_79 h_212_79 ?_
      refine q_aload rfl ?_
      refine q_iconst (0) (by decide) ?_
      refine q_putI (c0 := 12) (j := 7) rfl rfl (zl hS 105 (by decide)) (sk hS 105 (by decide) rfl) rfl ?_
      obtain ⟨I_81, nI_81, h⟩ := stI_some h
      refine q_nI nI_81 ?_
      refine q_aload rfl ?_
      refine q_getI (c0 := 12) (j := 13) rfl rfl (zl hS 105 (by decide)) (sk hS 105 (by decide) rfl) (Or.inr rfl) (by decide) ?_
      refine q_if_eq (fun c_88 => ?_) (fun c_88 => ?_)
      · rw [if_pos c_88] at h
        refine K_of b_212_98 h_212_98 ?_
        refine q_aload rfl ?_
        refine q_getRs (c0 := 12) (j := 3) rfl rfl (zl hS 105 (by decide)) (sk hS 105 (by decide) rfl) rfl (by decide) (r_105_3 hS) ?_
        refine q_iconst (8) (by decide) ?_
        refine q_aload rfl ?_
        refine q_getI (c0 := 12) (j := 14) rfl rfl (zl hS 105 (by decide)) (sk hS 105 (by decide) rfl) (Or.inl rfl) (by decide) ?_
        refine q_iasN (8) rfl (zl hS 107 (by decide)) (sk hS 107 (by decide) rfl) (by decide) (by decide) ?_
        obtain ⟨I_108, nI_108, h⟩ := stI_some h
        refine q_nI nI_108 ?_
        refine q_aload rfl ?_
        refine q_getRs (c0 := 12) (j := 3) rfl rfl (zl hS 105 (by decide)) (sk hS 105 (by decide) rfl) rfl (by decide) (r_105_3 hS) ?_
        refine q_iconst (9) (by decide) ?_
        refine q_aload rfl ?_
        refine q_getI (c0 := 12) (j := 26) rfl rfl (zl hS 105 (by decide)) (sk hS 105 (by decide) rfl) (Or.inl rfl) (by decide) ?_
        refine q_iasN (9) rfl (zl hS 107 (by decide)) (sk hS 107 (by decide) rfl) (by decide) (by decide) ?_
        obtain ⟨I_119, nI_119, h⟩ := stI_some h
        refine q_nI nI_119 ?_
        refine q_iconst (0) (by decide) ?_
        refine q_istore (ls1 := [some (.ref 105), some (.int (0 : Int32))]) (Nat.le_of_ble_eq_true rfl) rfl ?_
        refine q_end ?_
        exact (ih dp d hdp _ _ (0 : Int32) _ _ _).2.2.2.2.1 h
      · rw [if_neg c_88] at h
        refine q_aload rfl ?_
        refine q_iconst (-6) (by decide) ?_
        obtain ⟨d_94, h⟩ := ite_some h
        obtain ⟨⟨x0_94, I0_94, L0_94⟩, e_94, h⟩ := Option.bind_eq_some_iff.mp h
        dsimp only at h
        refine q_fv2I (a_194 X hS (d := d - 1) (by omega) e_94) (by omega) (Nat.le_refl _) (Nat.le_refl _) rfl (Nat.le_of_ble_eq_true rfl) ⟨(zl hS 105 (by decide)), congrArg Prod.fst (sk hS 105 (by decide) rfl), by decide⟩ ?_
        cases h
        exact q_iret rfl (Nat.le_refl _) (Nat.le_refl _) ⟨rfl, rfl⟩
    · intro h
      rw [e_212_4] at h
      refine K_of b_212_122 h_212_122 ?_
      refine q_iload rfl ?_
      refine q_iconst (11) (by decide) ?_
      refine q_aload rfl ?_
      refine q_getI (c0 := 12) (j := 26) rfl rfl (zl hS 105 (by decide)) (sk hS 105 (by decide) rfl) (Or.inl rfl) (by decide) ?_
      refine q_imul ?_
      refine q_icmp_ge (fun c_130 => ?_) (fun c_130 => ?_)
      · rw [if_pos c_130] at h
        refine K_of b_212_155 h_212_155 ?_
        refine q_aload rfl ?_
        refine q_getRs (c0 := 12) (j := 3) rfl rfl (zl hS 105 (by decide)) (sk hS 105 (by decide) rfl) rfl (by decide) (r_105_3 hS) ?_
        refine q_iconst (471) (by decide) ?_
        refine q_aload rfl ?_
        refine q_getI (c0 := 12) (j := 14) rfl rfl (zl hS 105 (by decide)) (sk hS 105 (by decide) rfl) (Or.inl rfl) (by decide) ?_
        refine q_iasN (471) rfl (zl hS 107 (by decide)) (sk hS 107 (by decide) rfl) (by decide) (by decide) ?_
        obtain ⟨I_166, nI_166, h⟩ := stI_some h
        refine q_nI nI_166 ?_
        refine q_iconst (0) (by decide) ?_
        refine q_istore (ls1 := [some (.ref 105), some (.int (0 : Int32))]) (Nat.le_of_ble_eq_true rfl) rfl ?_
        refine q_end ?_
        exact (ih dp d hdp _ _ (0 : Int32) _ _ _).2.2.2.2.2.1 h
      · rw [if_neg c_130] at h
        refine q_aload rfl ?_
        refine q_getRs (c0 := 12) (j := 3) rfl rfl (zl hS 105 (by decide)) (sk hS 105 (by decide) rfl) rfl (by decide) (r_105_3 hS) ?_
        refine q_iconst (290) (by decide) ?_
        refine q_iload rfl ?_
        refine q_iadd ?_
        refine q_aload rfl ?_
        refine q_getRs (c0 := 12) (j := 25) rfl rfl (zl hS 105 (by decide)) (sk hS 105 (by decide) rfl) rfl (by decide) (r_105_25 hS) ?_
        refine q_iload rfl ?_
        obtain ⟨⟨u_147, v_147⟩, h⟩ := ite_some h
        refine q_ialN (Int32.toNatClampNeg i1) (nx u_147) (zl hS 117 (by decide)) (sk hS 117 (by decide) rfl) v_147 (by decide) ?_
        obtain ⟨⟨u_148, v_148⟩, h⟩ := ite_some h
        refine q_iasN (Int32.toNatClampNeg ((290 : Int32) + i1)) (nx u_148) (zl hS 107 (by decide)) (sk hS 107 (by decide) rfl) v_148 (by decide) ?_
        obtain ⟨I_148, nI_148, h⟩ := stI_some h
        refine q_nI nI_148 ?_
        refine q_iinc (ls1 := [some (.ref 105), some (.int (i1 + Int32.ofInt (1)))]) rfl rfl ?_
        refine q_goto ?_
        exact (ih dp d hdp _ _ (i1 + Int32.ofInt (1)) _ _ _).2.2.2.2.1 h
    · intro h
      rw [e_212_5] at h
      refine K_of b_212_169 h_212_169 ?_
      refine q_iload rfl ?_
      refine q_iconst (8) (by decide) ?_
      refine q_aload rfl ?_
      refine q_getI (c0 := 12) (j := 14) rfl rfl (zl hS 105 (by decide)) (sk hS 105 (by decide) rfl) (Or.inl rfl) (by decide) ?_
      refine q_imul ?_
      refine q_icmp_ge (fun c_177 => ?_) (fun c_177 => ?_)
      · rw [if_pos c_177] at h
        refine K_of b_212_202 h_212_202 ?_
        refine q_iconst (0) (by decide) ?_
        refine q_istore (ls1 := [some (.ref 105), some (.int (0 : Int32))]) (Nat.le_of_ble_eq_true rfl) rfl ?_
        refine q_end ?_
        exact (ih dp d hdp _ _ (0 : Int32) _ _ _).2.2.2.2.2.2 h
      · rw [if_neg c_177] at h
        refine q_aload rfl ?_
        refine q_getRs (c0 := 12) (j := 3) rfl rfl (zl hS 105 (by decide)) (sk hS 105 (by decide) rfl) rfl (by decide) (r_105_3 hS) ?_
        refine q_iconst (472) (by decide) ?_
        refine q_iload rfl ?_
        refine q_iadd ?_
        refine q_aload rfl ?_
        refine q_getRs (c0 := 12) (j := 15) rfl rfl (zl hS 105 (by decide)) (sk hS 105 (by decide) rfl) rfl (by decide) (r_105_15 hS) ?_
        refine q_iload rfl ?_
        obtain ⟨⟨u_194, v_194⟩, h⟩ := ite_some h
        refine q_ialN (Int32.toNatClampNeg i1) (nx u_194) (zl hS 111 (by decide)) (sk hS 111 (by decide) rfl) v_194 (by decide) ?_
        obtain ⟨⟨u_195, v_195⟩, h⟩ := ite_some h
        refine q_iasN (Int32.toNatClampNeg ((472 : Int32) + i1)) (nx u_195) (zl hS 107 (by decide)) (sk hS 107 (by decide) rfl) v_195 (by decide) ?_
        obtain ⟨I_195, nI_195, h⟩ := stI_some h
        refine q_nI nI_195 ?_
        refine q_iinc (ls1 := [some (.ref 105), some (.int (i1 + Int32.ofInt (1)))]) rfl rfl ?_
        refine q_goto ?_
        exact (ih dp d hdp _ _ (i1 + Int32.ofInt (1)) _ _ _).2.2.2.2.2.1 h
    · intro h
      rw [e_212_6] at h
      refine K_of b_212_204 h_212_204 ?_
      refine q_iload rfl ?_
      refine q_aload rfl ?_
      refine q_getI (c0 := 12) (j := 16) rfl rfl (zl hS 105 (by decide)) (sk hS 105 (by decide) rfl) (Or.inl rfl) (by decide) ?_
      refine q_icmp_ge (fun c_209 => ?_) (fun c_209 => ?_)
      · rw [if_pos c_209] at h
        refine K_of b_212_256 h_212_256 ?_
        refine q_aload rfl ?_
        refine q_aload rfl ?_
        refine q_getI (c0 := 12) (j := 14) rfl rfl (zl hS 105 (by decide)) (sk hS 105 (by decide) rfl) (Or.inl rfl) (by decide) ?_
        obtain ⟨d_261, h⟩ := ite_some h
        obtain ⟨⟨x0_261, I0_261, L0_261⟩, e_261, h⟩ := Option.bind_eq_some_iff.mp h
        dsimp only at h
        refine q_fv2I (a_194 X hS (d := d - 1) (by omega) e_261) (by omega) (Nat.le_refl _) (Nat.le_refl _) rfl (Nat.le_of_ble_eq_true rfl) ⟨(zl hS 105 (by decide)), congrArg Prod.fst (sk hS 105 (by decide) rfl), by decide⟩ ?_
        cases h
        exact q_iret rfl (Nat.le_refl _) (Nat.le_refl _) ⟨rfl, rfl⟩
      · rw [if_neg c_209] at h
        refine q_aload rfl ?_
        refine q_getRs (c0 := 12) (j := 3) rfl rfl (zl hS 105 (by decide)) (sk hS 105 (by decide) rfl) rfl (by decide) (r_105_3 hS) ?_
        refine q_iconst (664) (by decide) ?_
        refine q_iconst (2) (by decide) ?_
        refine q_iload rfl ?_
        refine q_imul ?_
        refine q_iadd ?_
        refine q_aload rfl ?_
        refine q_getRs (c0 := 12) (j := 17) rfl rfl (zl hS 105 (by decide)) (sk hS 105 (by decide) rfl) rfl (by decide) (r_105_17 hS) ?_
        refine q_iload rfl ?_
        obtain ⟨⟨u_228, v_228⟩, h⟩ := ite_some h
        refine q_ialN (Int32.toNatClampNeg i1) (nx u_228) (zl hS 112 (by decide)) (sk hS 112 (by decide) rfl) v_228 (by decide) ?_
        obtain ⟨⟨u_229, v_229⟩, h⟩ := ite_some h
        refine q_iasN (Int32.toNatClampNeg ((664 : Int32) + ((2 : Int32) * i1))) (nx u_229) (zl hS 107 (by decide)) (sk hS 107 (by decide) rfl) v_229 (by decide) ?_
        obtain ⟨I_229, nI_229, h⟩ := stI_some h
        refine q_nI nI_229 ?_
        refine q_aload rfl ?_
        refine q_getRs (c0 := 12) (j := 3) rfl rfl (zl hS 105 (by decide)) (sk hS 105 (by decide) rfl) rfl (by decide) (r_105_3 hS) ?_
        refine q_iconst (664) (by decide) ?_
        refine q_iconst (2) (by decide) ?_
        refine q_iload rfl ?_
        refine q_imul ?_
        refine q_iadd ?_
        refine q_iconst (1) (by decide) ?_
        refine q_iadd ?_
        refine q_aload rfl ?_
        refine q_getRs (c0 := 12) (j := 18) rfl rfl (zl hS 105 (by decide)) (sk hS 105 (by decide) rfl) rfl (by decide) (r_105_18 hS) ?_
        refine q_iload rfl ?_
        obtain ⟨⟨u_248, v_248⟩, h⟩ := ite_some h
        refine q_ialN (Int32.toNatClampNeg i1) (nx u_248) (zl hS 113 (by decide)) (sk hS 113 (by decide) rfl) v_248 (by decide) ?_
        obtain ⟨⟨u_249, v_249⟩, h⟩ := ite_some h
        refine q_iasN (Int32.toNatClampNeg (((664 : Int32) + ((2 : Int32) * i1)) + (1 : Int32))) (nx u_249) (zl hS 107 (by decide)) (sk hS 107 (by decide) rfl) v_249 (by decide) ?_
        obtain ⟨I_249, nI_249, h⟩ := stI_some h
        refine q_nI nI_249 ?_
        refine q_iinc (ls1 := [some (.ref 105), some (.int (i1 + Int32.ofInt (1)))]) rfl rfl ?_
        refine q_goto ?_
        exact (ih dp d hdp _ _ (i1 + Int32.ofInt (1)) _ _ _).2.2.2.2.2.2 h
theorem a_212 (X : GX) {z : Nat} {kd : Nat → Nat × Nat} {Rf : Nat → Nat → Option Nat} (hS : Sh z kd Rf) {n dp d : Nat} (hd : dp ≤ d) {I : (Nat → Nat → Int32)} {L : (Nat → Nat → Int64)} {I1 : (Nat → Nat → Int32)} {L1 : (Nat → Nat → Int64)} {r : Int32} (h : g_212 n dp (z, kd, Rf) 0 I L 0 = some (r, I1, L1)) : Ct X d 212 0 0 [.ref 105] (z, kd, I, L, Rf) (AI (fun x τ => x = r ∧ τ = (z, kd, I1, L1, Rf))) :=
  Ct_of mu_212 (Nat.le_of_ble_eq_true rfl) ((w_212 X hS n dp d hd I L 0 _ _ _).1 h)

/-! 239 CutFloorModel.isWay(I)Z -/
set_option maxHeartbeats 4000000 in
set_option maxRecDepth 100000 in
def g_239 : Nat → Nat → EN → Nat → (Nat → Nat → Int32) → (Nat → Nat → Int64) → Int32 →  Option (Int32 × (Nat → Nat → Int32) × (Nat → Nat → Int64))
  | 0, _, _, _, _, _, _ => none
  | n + 1, dp, e, lab, I, L, i1 =>
    if lab = 0 then (if 1 ≤ dp then (g_193 n (dp - 1) e 0 I L (Int32.toInt64 i1) (0 : Int64) ((Int32.toInt64 (I 107 9)) - (1 : Int64))).bind (fun ⟨x0_13, I0_13, L0_13⟩ => (if x0_13 = 0 ∨ x0_13 = 1 then (some (x0_13, I0_13, L0_13)) else none)) else none)
    else none
set_option maxRecDepth 100000 in
theorem e_239_0 (n dp : Nat) (e : EN) (I : (Nat → Nat → Int32)) (L : (Nat → Nat → Int64)) (i1 : Int32) : g_239 (n + 1) dp e 0 I L i1 = (if 1 ≤ dp then (g_193 n (dp - 1) e 0 I L (Int32.toInt64 i1) (0 : Int64) ((Int32.toInt64 (I 107 9)) - (1 : Int64))).bind (fun ⟨x0_13, I0_13, L0_13⟩ => (if x0_13 = 0 ∨ x0_13 = 1 then (some (x0_13, I0_13, L0_13)) else none)) else none) := by rw [g_239.eq_2, if_pos (show (0 : Nat) = 0 from rfl)]
set_option maxHeartbeats 8000000 in
set_option maxRecDepth 100000 in
theorem w_239 (X : GX) {z : Nat} {kd : Nat → Nat × Nat} {Rf : Nat → Nat → Option Nat} (hS : Sh z kd Rf) : ∀ (n dp d : Nat), dp ≤ d → ∀ (I : (Nat → Nat → Int32)) (L : (Nat → Nat → Int64)) (i1 : Int32) (r : Int32) (I1 : (Nat → Nat → Int32)) (L1 : (Nat → Nat → Int64)), (g_239 n dp (z, kd, Rf) 0 I L i1 = some (r, I1, L1) → K X d 239 0 0 (AI (fun x τ => x = r ∧ τ = (z, kd, I1, L1, Rf))) 0 [some (.ref 105), some (.int i1)] [] (z, kd, I, L, Rf) 0 0) := by
  intro n
  induction n with
  | zero => intro dp d hdp I L i1 r I1 L1; exact fun h => by cases h
  | succ n ih =>
    intro dp d hdp I L i1 r I1 L1
    · intro h
      rw [e_239_0] at h
      refine K_of b_239_0 h_239_0 ?_
      refine q_iload rfl ?_
      refine q_i2l ?_
      refine q_lconst (0) (by decide) ?_
      refine q_aload rfl ?_
      refine q_getRs (c0 := 12) (j := 3) rfl rfl (zl hS 105 (by decide)) (sk hS 105 (by decide) rfl) rfl (by decide) (r_105_3 hS) ?_
      refine q_iconst (9) (by decide) ?_
      refine q_ialN (9) rfl (zl hS 107 (by decide)) (sk hS 107 (by decide) rfl) (by decide) (by decide) ?_
      refine q_i2l ?_
      refine q_lconst (1) (by decide) ?_
      refine q_lsub ?_
      obtain ⟨d_13, h⟩ := ite_some h
      obtain ⟨⟨x0_13, I0_13, L0_13⟩, e_13, h⟩ := Option.bind_eq_some_iff.mp h
      dsimp only at h
      refine q_fs3I (a_193 X hS (d := d - 1) (by omega) e_13) (by omega) (Nat.le_refl _) (Nat.le_refl _) rfl (Nat.le_of_ble_eq_true rfl) ?_
      obtain ⟨w_16, h⟩ := ite_some h
      cases h
      exact q_iret (narB w_16) (Nat.le_refl _) (Nat.le_refl _) ⟨rfl, rfl⟩
theorem a_239 (X : GX) {z : Nat} {kd : Nat → Nat × Nat} {Rf : Nat → Nat → Option Nat} (hS : Sh z kd Rf) {n dp d : Nat} (hd : dp ≤ d) {I : (Nat → Nat → Int32)} {L : (Nat → Nat → Int64)} {i1 : Int32} {I1 : (Nat → Nat → Int32)} {L1 : (Nat → Nat → Int64)} {r : Int32} (h : g_239 n dp (z, kd, Rf) 0 I L i1 = some (r, I1, L1)) : Ct X d 239 0 0 [.ref 105, .int i1] (z, kd, I, L, Rf) (AI (fun x τ => x = r ∧ τ = (z, kd, I1, L1, Rf))) :=
  Ct_of mu_239 (Nat.le_of_ble_eq_true rfl) ((w_239 X hS n dp d hd I L i1 _ _ _) h)

/-! 240 CutFloorModel.partOf(I)I -/
set_option maxHeartbeats 4000000 in
set_option maxRecDepth 100000 in
def g_240 : Nat → Nat → EN → Nat → (Nat → Nat → Int32) → (Nat → Nat → Int64) → Int32 →  Option (Int32 × (Nat → Nat → Int32) × (Nat → Nat → Int64))
  | 0, _, _, _, _, _, _ => none
  | n + 1, dp, e, lab, I, L, i1 =>
    if lab = 0 then (if 0 ≤ ((290 : Int32) + ((11 : Int32) * i1)) ∧ (Int32.toNatClampNeg ((290 : Int32) + ((11 : Int32) * i1))) < 1570 then (some ((I 107 (Int32.toNatClampNeg ((290 : Int32) + ((11 : Int32) * i1)))), I, L)) else none)
    else none
set_option maxRecDepth 100000 in
theorem e_240_0 (n dp : Nat) (e : EN) (I : (Nat → Nat → Int32)) (L : (Nat → Nat → Int64)) (i1 : Int32) : g_240 (n + 1) dp e 0 I L i1 = (if 0 ≤ ((290 : Int32) + ((11 : Int32) * i1)) ∧ (Int32.toNatClampNeg ((290 : Int32) + ((11 : Int32) * i1))) < 1570 then (some ((I 107 (Int32.toNatClampNeg ((290 : Int32) + ((11 : Int32) * i1)))), I, L)) else none) := by rw [g_240.eq_2, if_pos (show (0 : Nat) = 0 from rfl)]
set_option maxHeartbeats 8000000 in
set_option maxRecDepth 100000 in
theorem w_240 (X : GX) {z : Nat} {kd : Nat → Nat × Nat} {Rf : Nat → Nat → Option Nat} (hS : Sh z kd Rf) : ∀ (n dp d : Nat), dp ≤ d → ∀ (I : (Nat → Nat → Int32)) (L : (Nat → Nat → Int64)) (i1 : Int32) (r : Int32) (I1 : (Nat → Nat → Int32)) (L1 : (Nat → Nat → Int64)), (g_240 n dp (z, kd, Rf) 0 I L i1 = some (r, I1, L1) → K X d 240 0 0 (AI (fun x τ => x = r ∧ τ = (z, kd, I1, L1, Rf))) 0 [some (.ref 105), some (.int i1)] [] (z, kd, I, L, Rf) 0 0) := by
  intro n
  induction n with
  | zero => intro dp d hdp I L i1 r I1 L1; exact fun h => by cases h
  | succ n ih =>
    intro dp d hdp I L i1 r I1 L1
    · intro h
      rw [e_240_0] at h
      refine K_of b_240_0 h_240_0 ?_
      refine q_aload rfl ?_
      refine q_getRs (c0 := 12) (j := 3) rfl rfl (zl hS 105 (by decide)) (sk hS 105 (by decide) rfl) rfl (by decide) (r_105_3 hS) ?_
      refine q_iconst (290) (by decide) ?_
      refine q_iconst (11) (by decide) ?_
      refine q_iload rfl ?_
      refine q_imul ?_
      refine q_iadd ?_
      obtain ⟨⟨u_12, v_12⟩, h⟩ := ite_some h
      refine q_ialN (Int32.toNatClampNeg ((290 : Int32) + ((11 : Int32) * i1))) (nx u_12) (zl hS 107 (by decide)) (sk hS 107 (by decide) rfl) v_12 (by decide) ?_
      cases h
      exact q_iret rfl (Nat.le_refl _) (Nat.le_refl _) ⟨rfl, rfl⟩
theorem a_240 (X : GX) {z : Nat} {kd : Nat → Nat × Nat} {Rf : Nat → Nat → Option Nat} (hS : Sh z kd Rf) {n dp d : Nat} (hd : dp ≤ d) {I : (Nat → Nat → Int32)} {L : (Nat → Nat → Int64)} {i1 : Int32} {I1 : (Nat → Nat → Int32)} {L1 : (Nat → Nat → Int64)} {r : Int32} (h : g_240 n dp (z, kd, Rf) 0 I L i1 = some (r, I1, L1)) : Ct X d 240 0 0 [.ref 105, .int i1] (z, kd, I, L, Rf) (AI (fun x τ => x = r ∧ τ = (z, kd, I1, L1, Rf))) :=
  Ct_of mu_240 (Nat.le_of_ble_eq_true rfl) ((w_240 X hS n dp d hd I L i1 _ _ _) h)

/-! 241 CutFloorModel.pieces(II)I -/
set_option maxHeartbeats 4000000 in
set_option maxRecDepth 100000 in
def g_241 : Nat → Nat → EN → Nat → (Nat → Nat → Int32) → (Nat → Nat → Int64) → Int32 → Int32 →  Option (Int32 × (Nat → Nat → Int32) × (Nat → Nat → Int64))
  | 0, _, _, _, _, _, _, _ => none
  | n + 1, dp, e, lab, I, L, i1, i2 =>
    if lab = 0 then (if 0 ≤ ((((290 : Int32) + ((11 : Int32) * i1)) + (1 : Int32)) + i2) ∧ (Int32.toNatClampNeg ((((290 : Int32) + ((11 : Int32) * i1)) + (1 : Int32)) + i2)) < 1570 then (some ((I 107 (Int32.toNatClampNeg ((((290 : Int32) + ((11 : Int32) * i1)) + (1 : Int32)) + i2))), I, L)) else none)
    else none
set_option maxRecDepth 100000 in
theorem e_241_0 (n dp : Nat) (e : EN) (I : (Nat → Nat → Int32)) (L : (Nat → Nat → Int64)) (i1 : Int32) (i2 : Int32) : g_241 (n + 1) dp e 0 I L i1 i2 = (if 0 ≤ ((((290 : Int32) + ((11 : Int32) * i1)) + (1 : Int32)) + i2) ∧ (Int32.toNatClampNeg ((((290 : Int32) + ((11 : Int32) * i1)) + (1 : Int32)) + i2)) < 1570 then (some ((I 107 (Int32.toNatClampNeg ((((290 : Int32) + ((11 : Int32) * i1)) + (1 : Int32)) + i2))), I, L)) else none) := by rw [g_241.eq_2, if_pos (show (0 : Nat) = 0 from rfl)]
set_option maxHeartbeats 8000000 in
set_option maxRecDepth 100000 in
theorem w_241 (X : GX) {z : Nat} {kd : Nat → Nat × Nat} {Rf : Nat → Nat → Option Nat} (hS : Sh z kd Rf) : ∀ (n dp d : Nat), dp ≤ d → ∀ (I : (Nat → Nat → Int32)) (L : (Nat → Nat → Int64)) (i1 : Int32) (i2 : Int32) (r : Int32) (I1 : (Nat → Nat → Int32)) (L1 : (Nat → Nat → Int64)), (g_241 n dp (z, kd, Rf) 0 I L i1 i2 = some (r, I1, L1) → K X d 241 0 0 (AI (fun x τ => x = r ∧ τ = (z, kd, I1, L1, Rf))) 0 [some (.ref 105), some (.int i1), some (.int i2)] [] (z, kd, I, L, Rf) 0 0) := by
  intro n
  induction n with
  | zero => intro dp d hdp I L i1 i2 r I1 L1; exact fun h => by cases h
  | succ n ih =>
    intro dp d hdp I L i1 i2 r I1 L1
    · intro h
      rw [e_241_0] at h
      refine K_of b_241_0 h_241_0 ?_
      refine q_aload rfl ?_
      refine q_getRs (c0 := 12) (j := 3) rfl rfl (zl hS 105 (by decide)) (sk hS 105 (by decide) rfl) rfl (by decide) (r_105_3 hS) ?_
      refine q_iconst (290) (by decide) ?_
      refine q_iconst (11) (by decide) ?_
      refine q_iload rfl ?_
      refine q_imul ?_
      refine q_iadd ?_
      refine q_iconst (1) (by decide) ?_
      refine q_iadd ?_
      refine q_iload rfl ?_
      refine q_iadd ?_
      obtain ⟨⟨u_16, v_16⟩, h⟩ := ite_some h
      refine q_ialN (Int32.toNatClampNeg ((((290 : Int32) + ((11 : Int32) * i1)) + (1 : Int32)) + i2)) (nx u_16) (zl hS 107 (by decide)) (sk hS 107 (by decide) rfl) v_16 (by decide) ?_
      cases h
      exact q_iret rfl (Nat.le_refl _) (Nat.le_refl _) ⟨rfl, rfl⟩
theorem a_241 (X : GX) {z : Nat} {kd : Nat → Nat × Nat} {Rf : Nat → Nat → Option Nat} (hS : Sh z kd Rf) {n dp d : Nat} (hd : dp ≤ d) {I : (Nat → Nat → Int32)} {L : (Nat → Nat → Int64)} {i1 : Int32} {i2 : Int32} {I1 : (Nat → Nat → Int32)} {L1 : (Nat → Nat → Int64)} {r : Int32} (h : g_241 n dp (z, kd, Rf) 0 I L i1 i2 = some (r, I1, L1)) : Ct X d 241 0 0 [.ref 105, .int i1, .int i2] (z, kd, I, L, Rf) (AI (fun x τ => x = r ∧ τ = (z, kd, I1, L1, Rf))) :=
  Ct_of mu_241 (Nat.le_of_ble_eq_true rfl) ((w_241 X hS n dp d hd I L i1 i2 _ _ _) h)

/-! 238 CutFloorModel.way(II)I -/
set_option maxHeartbeats 4000000 in
set_option maxRecDepth 100000 in
def g_238 : Nat → Nat → EN → Nat → (Nat → Nat → Int32) → (Nat → Nat → Int64) → Int32 → Int32 →  Option (Int32 × (Nat → Nat → Int32) × (Nat → Nat → Int64))
  | 0, _, _, _, _, _, _, _ => none
  | n + 1, dp, e, lab, I, L, i1, i2 =>
    if lab = 0 then (stI (u2 I 105 0 (0 : Int32)) (fun I_2 => (if 1 ≤ dp then (g_239 n (dp - 1) e 0 I_2 L i1).bind (fun ⟨x0_7, I0_7, L0_7⟩ => (if x0_7 = 0 then (some ((-1 : Int32), I0_7, L0_7)) else (if i2 = 0 then (g_238 n dp e 1 I0_7 L0_7 i1 i2) else (if 1 ≤ dp then (g_193 n (dp - 1) e 0 I0_7 L0_7 (Int32.toInt64 i2) (10 : Int64) (19 : Int64)).bind (fun ⟨x1_25, I1_25, L1_25⟩ => (if x1_25 = 0 then (some ((-1 : Int32), I1_25, L1_25)) else (g_238 n dp e 1 I1_25 L1_25 i1 i2))) else none)))) else none)))
    else if lab = 1 then (if i2 = 0 then (if 1 ≤ dp then (g_240 n (dp - 1) e 0 I L i1).bind (fun ⟨x0_39, I0_39, L0_39⟩ => (some (x0_39, I0_39, L0_39))) else none) else (if 1 ≤ dp then (g_241 n (dp - 1) e 0 I L i1 (i2 - (10 : Int32))).bind (fun ⟨x0_51, I0_51, L0_51⟩ => (some (x0_51, I0_51, L0_51))) else none))
    else none
set_option maxRecDepth 100000 in
theorem e_238_0 (n dp : Nat) (e : EN) (I : (Nat → Nat → Int32)) (L : (Nat → Nat → Int64)) (i1 : Int32) (i2 : Int32) : g_238 (n + 1) dp e 0 I L i1 i2 = (stI (u2 I 105 0 (0 : Int32)) (fun I_2 => (if 1 ≤ dp then (g_239 n (dp - 1) e 0 I_2 L i1).bind (fun ⟨x0_7, I0_7, L0_7⟩ => (if x0_7 = 0 then (some ((-1 : Int32), I0_7, L0_7)) else (if i2 = 0 then (g_238 n dp e 1 I0_7 L0_7 i1 i2) else (if 1 ≤ dp then (g_193 n (dp - 1) e 0 I0_7 L0_7 (Int32.toInt64 i2) (10 : Int64) (19 : Int64)).bind (fun ⟨x1_25, I1_25, L1_25⟩ => (if x1_25 = 0 then (some ((-1 : Int32), I1_25, L1_25)) else (g_238 n dp e 1 I1_25 L1_25 i1 i2))) else none)))) else none))) := by rw [g_238.eq_2, if_pos (show (0 : Nat) = 0 from rfl)]
set_option maxRecDepth 100000 in
theorem e_238_1 (n dp : Nat) (e : EN) (I : (Nat → Nat → Int32)) (L : (Nat → Nat → Int64)) (i1 : Int32) (i2 : Int32) : g_238 (n + 1) dp e 1 I L i1 i2 = (if i2 = 0 then (if 1 ≤ dp then (g_240 n (dp - 1) e 0 I L i1).bind (fun ⟨x0_39, I0_39, L0_39⟩ => (some (x0_39, I0_39, L0_39))) else none) else (if 1 ≤ dp then (g_241 n (dp - 1) e 0 I L i1 (i2 - (10 : Int32))).bind (fun ⟨x0_51, I0_51, L0_51⟩ => (some (x0_51, I0_51, L0_51))) else none)) := by rw [g_238.eq_2, if_neg (show ¬ ((1 : Nat) = 0) by decide), if_pos (show (1 : Nat) = 1 from rfl)]
set_option maxHeartbeats 8000000 in
set_option maxRecDepth 100000 in
theorem w_238 (X : GX) {z : Nat} {kd : Nat → Nat × Nat} {Rf : Nat → Nat → Option Nat} (hS : Sh z kd Rf) : ∀ (n dp d : Nat), dp ≤ d → ∀ (I : (Nat → Nat → Int32)) (L : (Nat → Nat → Int64)) (i1 : Int32) (i2 : Int32) (r : Int32) (I1 : (Nat → Nat → Int32)) (L1 : (Nat → Nat → Int64)), (g_238 n dp (z, kd, Rf) 0 I L i1 i2 = some (r, I1, L1) → K X d 238 0 0 (AI (fun x τ => x = r ∧ τ = (z, kd, I1, L1, Rf))) 0 [some (.ref 105), some (.int i1), some (.int i2)] [] (z, kd, I, L, Rf) 0 0) ∧
    (g_238 n dp (z, kd, Rf) 1 I L i1 i2 = some (r, I1, L1) → K X d 238 0 0 (AI (fun x τ => x = r ∧ τ = (z, kd, I1, L1, Rf))) 33 [some (.ref 105), some (.int i1), some (.int i2)] [] (z, kd, I, L, Rf) 0 0) := by
  intro n
  induction n with
  | zero => intro dp d hdp I L i1 i2 r I1 L1; exact ⟨(fun h => by cases h), (fun h => by cases h)⟩
  | succ n ih =>
    intro dp d hdp I L i1 i2 r I1 L1
    refine ⟨?_, ?_⟩
    · intro h
      rw [e_238_0] at h
      refine K_of b_238_0 h_238_0 ?_
      refine q_aload rfl ?_
      refine q_iconst (0) (by decide) ?_
      refine q_putI (c0 := 12) (j := 0) rfl rfl (zl hS 105 (by decide)) (sk hS 105 (by decide) rfl) rfl ?_
      obtain ⟨I_2, nI_2, h⟩ := stI_some h
      refine q_nI nI_2 ?_
      refine q_aload rfl ?_
      refine q_iload rfl ?_
      obtain ⟨d_7, h⟩ := ite_some h
      obtain ⟨⟨x0_7, I0_7, L0_7⟩, e_7, h⟩ := Option.bind_eq_some_iff.mp h
      dsimp only at h
      refine q_fv2I (a_239 X hS (d := d - 1) (by omega) e_7) (by omega) (Nat.le_refl _) (Nat.le_refl _) rfl (Nat.le_of_ble_eq_true rfl) ⟨(zl hS 105 (by decide)), congrArg Prod.fst (sk hS 105 (by decide) rfl), by decide⟩ ?_
      refine q_if_eq (fun c_10 => ?_) (fun c_10 => ?_)
      · rw [if_pos c_10] at h
        refine K_of b_238_31 h_238_31 ?_
        refine q_iconst (-1) (by decide) ?_
        cases h
        exact q_iret rfl (Nat.le_refl _) (Nat.le_refl _) ⟨rfl, rfl⟩
      · rw [if_neg c_10] at h
        refine q_iload rfl ?_
        refine q_if_eq (fun c_14 => ?_) (fun c_14 => ?_)
        · rw [if_pos c_14] at h
          exact (ih dp d hdp _ _ i1 i2 _ _ _).2 h
        · rw [if_neg c_14] at h
          refine q_iload rfl ?_
          refine q_i2l ?_
          refine q_lconst (10) (by decide) ?_
          refine q_lconst (19) (by decide) ?_
          obtain ⟨d_25, h⟩ := ite_some h
          obtain ⟨⟨x1_25, I1_25, L1_25⟩, e_25, h⟩ := Option.bind_eq_some_iff.mp h
          dsimp only at h
          refine q_fs3I (a_193 X hS (d := d - 1) (by omega) e_25) (by omega) (Nat.le_refl _) (Nat.le_refl _) rfl (Nat.le_of_ble_eq_true rfl) ?_
          refine q_if_ne (fun c_28 => ?_) (fun c_28 => ?_)
          · rw [if_neg c_28] at h
            exact (ih dp d hdp _ _ i1 i2 _ _ _).2 h
          · rw [if_pos c_28] at h
            refine q_end ?_
            refine K_of b_238_31 h_238_31 ?_
            refine q_iconst (-1) (by decide) ?_
            cases h
            exact q_iret rfl (Nat.le_refl _) (Nat.le_refl _) ⟨rfl, rfl⟩
    · intro h
      rw [e_238_1] at h
      refine K_of b_238_33 h_238_33 ?_
      refine q_iload rfl ?_
      refine q_if_ne (fun c_34 => ?_) (fun c_34 => ?_)
      · rw [if_neg c_34] at h
        refine K_of b_238_45 h_238_45 ?_
        refine q_aload rfl ?_
        refine q_iload rfl ?_
        refine q_iload rfl ?_
        refine q_iconst (10) (by decide) ?_
        refine q_isub ?_
        obtain ⟨d_51, h⟩ := ite_some h
        obtain ⟨⟨x0_51, I0_51, L0_51⟩, e_51, h⟩ := Option.bind_eq_some_iff.mp h
        dsimp only at h
        refine q_fv3I (a_241 X hS (d := d - 1) (by omega) e_51) (by omega) (Nat.le_refl _) (Nat.le_refl _) rfl (Nat.le_of_ble_eq_true rfl) ⟨(zl hS 105 (by decide)), congrArg Prod.fst (sk hS 105 (by decide) rfl), by decide⟩ ?_
        refine q_end ?_
        refine K_of b_238_54 h_238_54 ?_
        cases h
        exact q_iret rfl (Nat.le_refl _) (Nat.le_refl _) ⟨rfl, rfl⟩
      · rw [if_pos c_34] at h
        refine q_aload rfl ?_
        refine q_iload rfl ?_
        obtain ⟨d_39, h⟩ := ite_some h
        obtain ⟨⟨x0_39, I0_39, L0_39⟩, e_39, h⟩ := Option.bind_eq_some_iff.mp h
        dsimp only at h
        refine q_fv2I (a_240 X hS (d := d - 1) (by omega) e_39) (by omega) (Nat.le_refl _) (Nat.le_refl _) rfl (Nat.le_of_ble_eq_true rfl) ⟨(zl hS 105 (by decide)), congrArg Prod.fst (sk hS 105 (by decide) rfl), by decide⟩ ?_
        refine q_goto ?_
        refine K_of b_238_54 h_238_54 ?_
        cases h
        exact q_iret rfl (Nat.le_refl _) (Nat.le_refl _) ⟨rfl, rfl⟩
theorem a_238 (X : GX) {z : Nat} {kd : Nat → Nat × Nat} {Rf : Nat → Nat → Option Nat} (hS : Sh z kd Rf) {n dp d : Nat} (hd : dp ≤ d) {I : (Nat → Nat → Int32)} {L : (Nat → Nat → Int64)} {i1 : Int32} {i2 : Int32} {I1 : (Nat → Nat → Int32)} {L1 : (Nat → Nat → Int64)} {r : Int32} (h : g_238 n dp (z, kd, Rf) 0 I L i1 i2 = some (r, I1, L1)) : Ct X d 238 0 0 [.ref 105, .int i1, .int i2] (z, kd, I, L, Rf) (AI (fun x τ => x = r ∧ τ = (z, kd, I1, L1, Rf))) :=
  Ct_of mu_238 (Nat.le_of_ble_eq_true rfl) ((w_238 X hS n dp d hd I L i1 i2 _ _ _).1 h)

/-! 244 CutFloorModel.weight(II)I -/
set_option maxHeartbeats 4000000 in
set_option maxRecDepth 100000 in
def g_244 : Nat → Nat → EN → Nat → (Nat → Nat → Int32) → (Nat → Nat → Int64) → Int32 → Int32 →  Option (Int32 × (Nat → Nat → Int32) × (Nat → Nat → Int64))
  | 0, _, _, _, _, _, _, _ => none
  | n + 1, dp, e, lab, I, L, i1, i2 =>
    if lab = 0 then (if 0 ≤ (((10 : Int32) + ((3 : Int32) * i1)) + i2) ∧ (Int32.toNatClampNeg (((10 : Int32) + ((3 : Int32) * i1)) + i2)) < 1570 then (some ((I 107 (Int32.toNatClampNeg (((10 : Int32) + ((3 : Int32) * i1)) + i2))), I, L)) else none)
    else none
set_option maxRecDepth 100000 in
theorem e_244_0 (n dp : Nat) (e : EN) (I : (Nat → Nat → Int32)) (L : (Nat → Nat → Int64)) (i1 : Int32) (i2 : Int32) : g_244 (n + 1) dp e 0 I L i1 i2 = (if 0 ≤ (((10 : Int32) + ((3 : Int32) * i1)) + i2) ∧ (Int32.toNatClampNeg (((10 : Int32) + ((3 : Int32) * i1)) + i2)) < 1570 then (some ((I 107 (Int32.toNatClampNeg (((10 : Int32) + ((3 : Int32) * i1)) + i2))), I, L)) else none) := by rw [g_244.eq_2, if_pos (show (0 : Nat) = 0 from rfl)]
set_option maxHeartbeats 8000000 in
set_option maxRecDepth 100000 in
theorem w_244 (X : GX) {z : Nat} {kd : Nat → Nat × Nat} {Rf : Nat → Nat → Option Nat} (hS : Sh z kd Rf) : ∀ (n dp d : Nat), dp ≤ d → ∀ (I : (Nat → Nat → Int32)) (L : (Nat → Nat → Int64)) (i1 : Int32) (i2 : Int32) (r : Int32) (I1 : (Nat → Nat → Int32)) (L1 : (Nat → Nat → Int64)), (g_244 n dp (z, kd, Rf) 0 I L i1 i2 = some (r, I1, L1) → K X d 244 0 0 (AI (fun x τ => x = r ∧ τ = (z, kd, I1, L1, Rf))) 0 [some (.ref 105), some (.int i1), some (.int i2)] [] (z, kd, I, L, Rf) 0 0) := by
  intro n
  induction n with
  | zero => intro dp d hdp I L i1 i2 r I1 L1; exact fun h => by cases h
  | succ n ih =>
    intro dp d hdp I L i1 i2 r I1 L1
    · intro h
      rw [e_244_0] at h
      refine K_of b_244_0 h_244_0 ?_
      refine q_aload rfl ?_
      refine q_getRs (c0 := 12) (j := 3) rfl rfl (zl hS 105 (by decide)) (sk hS 105 (by decide) rfl) rfl (by decide) (r_105_3 hS) ?_
      refine q_iconst (10) (by decide) ?_
      refine q_iconst (3) (by decide) ?_
      refine q_iload rfl ?_
      refine q_imul ?_
      refine q_iadd ?_
      refine q_iload rfl ?_
      refine q_iadd ?_
      obtain ⟨⟨u_12, v_12⟩, h⟩ := ite_some h
      refine q_ialN (Int32.toNatClampNeg (((10 : Int32) + ((3 : Int32) * i1)) + i2)) (nx u_12) (zl hS 107 (by decide)) (sk hS 107 (by decide) rfl) v_12 (by decide) ?_
      cases h
      exact q_iret rfl (Nat.le_refl _) (Nat.le_refl _) ⟨rfl, rfl⟩
theorem a_244 (X : GX) {z : Nat} {kd : Nat → Nat × Nat} {Rf : Nat → Nat → Option Nat} (hS : Sh z kd Rf) {n dp d : Nat} (hd : dp ≤ d) {I : (Nat → Nat → Int32)} {L : (Nat → Nat → Int64)} {i1 : Int32} {i2 : Int32} {I1 : (Nat → Nat → Int32)} {L1 : (Nat → Nat → Int64)} {r : Int32} (h : g_244 n dp (z, kd, Rf) 0 I L i1 i2 = some (r, I1, L1)) : Ct X d 244 0 0 [.ref 105, .int i1, .int i2] (z, kd, I, L, Rf) (AI (fun x τ => x = r ∧ τ = (z, kd, I1, L1, Rf))) :=
  Ct_of mu_244 (Nat.le_of_ble_eq_true rfl) ((w_244 X hS n dp d hd I L i1 i2 _ _ _) h)

/-! 243 CutFloorModel.wastes(II)I -/
set_option maxHeartbeats 4000000 in
set_option maxRecDepth 100000 in
def g_243 : Nat → Nat → EN → Nat → (Nat → Nat → Int32) → (Nat → Nat → Int64) → Int32 → Int32 → Int32 → Int32 →  Option (Int32 × (Nat → Nat → Int32) × (Nat → Nat → Int64))
  | 0, _, _, _, _, _, _, _, _, _ => none
  | n + 1, dp, e, lab, I, L, i1, i2, i3, i4 =>
    if lab = 0 then (if 1 ≤ dp then (g_240 n (dp - 1) e 0 I L i1).bind (fun ⟨x0_3, I0_3, L0_3⟩ => (if 1 ≤ dp then (g_244 n (dp - 1) e 0 I0_3 L0_3 x0_3 i2).bind (fun ⟨x1_7, I1_7, L1_7⟩ => (g_243 n dp e 1 I1_7 L1_7 i1 i2 x1_7 (0 : Int32))) else none)) else none)
    else if lab = 1 then (if (10 : Int32) ≤ i4 then (some (i3, I, L)) else (if 1 ≤ dp then (g_241 n (dp - 1) e 0 I L i1 i4).bind (fun ⟨x0_26, I0_26, L0_26⟩ => (if 1 ≤ dp then (g_244 n (dp - 1) e 0 I0_26 L0_26 i4 i2).bind (fun ⟨x1_33, I1_33, L1_33⟩ => (g_243 n dp e 1 I1_33 L1_33 i1 i2 (i3 - (x0_26 * x1_33)) (i4 + Int32.ofInt (1)))) else none)) else none))
    else none
set_option maxRecDepth 100000 in
theorem e_243_0 (n dp : Nat) (e : EN) (I : (Nat → Nat → Int32)) (L : (Nat → Nat → Int64)) (i1 : Int32) (i2 : Int32) (i3 : Int32) (i4 : Int32) : g_243 (n + 1) dp e 0 I L i1 i2 i3 i4 = (if 1 ≤ dp then (g_240 n (dp - 1) e 0 I L i1).bind (fun ⟨x0_3, I0_3, L0_3⟩ => (if 1 ≤ dp then (g_244 n (dp - 1) e 0 I0_3 L0_3 x0_3 i2).bind (fun ⟨x1_7, I1_7, L1_7⟩ => (g_243 n dp e 1 I1_7 L1_7 i1 i2 x1_7 (0 : Int32))) else none)) else none) := by rw [g_243.eq_2, if_pos (show (0 : Nat) = 0 from rfl)]
set_option maxRecDepth 100000 in
theorem e_243_1 (n dp : Nat) (e : EN) (I : (Nat → Nat → Int32)) (L : (Nat → Nat → Int64)) (i1 : Int32) (i2 : Int32) (i3 : Int32) (i4 : Int32) : g_243 (n + 1) dp e 1 I L i1 i2 i3 i4 = (if (10 : Int32) ≤ i4 then (some (i3, I, L)) else (if 1 ≤ dp then (g_241 n (dp - 1) e 0 I L i1 i4).bind (fun ⟨x0_26, I0_26, L0_26⟩ => (if 1 ≤ dp then (g_244 n (dp - 1) e 0 I0_26 L0_26 i4 i2).bind (fun ⟨x1_33, I1_33, L1_33⟩ => (g_243 n dp e 1 I1_33 L1_33 i1 i2 (i3 - (x0_26 * x1_33)) (i4 + Int32.ofInt (1)))) else none)) else none)) := by rw [g_243.eq_2, if_neg (show ¬ ((1 : Nat) = 0) by decide), if_pos (show (1 : Nat) = 1 from rfl)]
set_option maxHeartbeats 8000000 in
set_option maxRecDepth 100000 in
theorem w_243 (X : GX) {z : Nat} {kd : Nat → Nat × Nat} {Rf : Nat → Nat → Option Nat} (hS : Sh z kd Rf) : ∀ (n dp d : Nat), dp ≤ d → ∀ (I : (Nat → Nat → Int32)) (L : (Nat → Nat → Int64)) (i1 : Int32) (i2 : Int32) (i3 : Int32) (i4 : Int32) (r : Int32) (I1 : (Nat → Nat → Int32)) (L1 : (Nat → Nat → Int64)), (g_243 n dp (z, kd, Rf) 0 I L i1 i2 i3 i4 = some (r, I1, L1) → K X d 243 0 0 (AI (fun x τ => x = r ∧ τ = (z, kd, I1, L1, Rf))) 0 [some (.ref 105), some (.int i1), some (.int i2), none, none] [] (z, kd, I, L, Rf) 0 0) ∧
    (g_243 n dp (z, kd, Rf) 1 I L i1 i2 i3 i4 = some (r, I1, L1) → K X d 243 0 0 (AI (fun x τ => x = r ∧ τ = (z, kd, I1, L1, Rf))) 14 [some (.ref 105), some (.int i1), some (.int i2), some (.int i3), some (.int i4)] [] (z, kd, I, L, Rf) 0 0) := by
  intro n
  induction n with
  | zero => intro dp d hdp I L i1 i2 i3 i4 r I1 L1; exact ⟨(fun h => by cases h), (fun h => by cases h)⟩
  | succ n ih =>
    intro dp d hdp I L i1 i2 i3 i4 r I1 L1
    refine ⟨?_, ?_⟩
    · intro h
      rw [e_243_0] at h
      refine K_of b_243_0 h_243_0 ?_
      refine q_aload rfl ?_
      refine q_aload rfl ?_
      refine q_iload rfl ?_
      obtain ⟨d_3, h⟩ := ite_some h
      obtain ⟨⟨x0_3, I0_3, L0_3⟩, e_3, h⟩ := Option.bind_eq_some_iff.mp h
      dsimp only at h
      refine q_fv2I (a_240 X hS (d := d - 1) (by omega) e_3) (by omega) (Nat.le_refl _) (Nat.le_refl _) rfl (Nat.le_of_ble_eq_true rfl) ⟨(zl hS 105 (by decide)), congrArg Prod.fst (sk hS 105 (by decide) rfl), by decide⟩ ?_
      refine q_iload rfl ?_
      obtain ⟨d_7, h⟩ := ite_some h
      obtain ⟨⟨x1_7, I1_7, L1_7⟩, e_7, h⟩ := Option.bind_eq_some_iff.mp h
      dsimp only at h
      refine q_fv3I (a_244 X hS (d := d - 1) (by omega) e_7) (by omega) (Nat.le_refl _) (Nat.le_refl _) rfl (Nat.le_of_ble_eq_true rfl) ⟨(zl hS 105 (by decide)), congrArg Prod.fst (sk hS 105 (by decide) rfl), by decide⟩ ?_
      refine q_istore (ls1 := [some (.ref 105), some (.int i1), some (.int i2), some (.int x1_7), none]) (Nat.le_of_ble_eq_true rfl) rfl ?_
      refine q_iconst (0) (by decide) ?_
      refine q_istore (ls1 := [some (.ref 105), some (.int i1), some (.int i2), some (.int x1_7), some (.int (0 : Int32))]) (Nat.le_of_ble_eq_true rfl) rfl ?_
      refine q_end ?_
      exact (ih dp d hdp _ _ i1 i2 x1_7 (0 : Int32) _ _ _).2 h
    · intro h
      rw [e_243_1] at h
      refine K_of b_243_14 h_243_14 ?_
      refine q_iload rfl ?_
      refine q_iconst (10) (by decide) ?_
      refine q_icmp_ge (fun c_18 => ?_) (fun c_18 => ?_)
      · rw [if_pos c_18] at h
        refine K_of b_243_45 h_243_45 ?_
        refine q_iload rfl ?_
        cases h
        exact q_iret rfl (Nat.le_refl _) (Nat.le_refl _) ⟨rfl, rfl⟩
      · rw [if_neg c_18] at h
        refine q_iload rfl ?_
        refine q_aload rfl ?_
        refine q_iload rfl ?_
        refine q_iload rfl ?_
        obtain ⟨d_26, h⟩ := ite_some h
        obtain ⟨⟨x0_26, I0_26, L0_26⟩, e_26, h⟩ := Option.bind_eq_some_iff.mp h
        dsimp only at h
        refine q_fv3I (a_241 X hS (d := d - 1) (by omega) e_26) (by omega) (Nat.le_refl _) (Nat.le_refl _) rfl (Nat.le_of_ble_eq_true rfl) ⟨(zl hS 105 (by decide)), congrArg Prod.fst (sk hS 105 (by decide) rfl), by decide⟩ ?_
        refine q_aload rfl ?_
        refine q_iload rfl ?_
        refine q_iload rfl ?_
        obtain ⟨d_33, h⟩ := ite_some h
        obtain ⟨⟨x1_33, I1_33, L1_33⟩, e_33, h⟩ := Option.bind_eq_some_iff.mp h
        dsimp only at h
        refine q_fv3I (a_244 X hS (d := d - 1) (by omega) e_33) (by omega) (Nat.le_refl _) (Nat.le_refl _) rfl (Nat.le_of_ble_eq_true rfl) ⟨(zl hS 105 (by decide)), congrArg Prod.fst (sk hS 105 (by decide) rfl), by decide⟩ ?_
        refine q_imul ?_
        refine q_isub ?_
        refine q_istore (ls1 := [some (.ref 105), some (.int i1), some (.int i2), some (.int (i3 - (x0_26 * x1_33))), some (.int i4)]) (Nat.le_of_ble_eq_true rfl) rfl ?_
        refine q_iinc (ls1 := [some (.ref 105), some (.int i1), some (.int i2), some (.int (i3 - (x0_26 * x1_33))), some (.int (i4 + Int32.ofInt (1)))]) rfl rfl ?_
        refine q_goto ?_
        exact (ih dp d hdp _ _ i1 i2 (i3 - (x0_26 * x1_33)) (i4 + Int32.ofInt (1)) _ _ _).2 h
theorem a_243 (X : GX) {z : Nat} {kd : Nat → Nat × Nat} {Rf : Nat → Nat → Option Nat} (hS : Sh z kd Rf) {n dp d : Nat} (hd : dp ≤ d) {I : (Nat → Nat → Int32)} {L : (Nat → Nat → Int64)} {i1 : Int32} {i2 : Int32} {I1 : (Nat → Nat → Int32)} {L1 : (Nat → Nat → Int64)} {r : Int32} (h : g_243 n dp (z, kd, Rf) 0 I L i1 i2 0 0 = some (r, I1, L1)) : Ct X d 243 0 0 [.ref 105, .int i1, .int i2] (z, kd, I, L, Rf) (AI (fun x τ => x = r ∧ τ = (z, kd, I1, L1, Rf))) :=
  Ct_of mu_243 (Nat.le_of_ble_eq_true rfl) ((w_243 X hS n dp d hd I L i1 i2 0 0 _ _ _).1 h)

/-! 249 CutFloorModel.reckon(IJJ)J -/
set_option maxHeartbeats 4000000 in
set_option maxRecDepth 100000 in
def g_249 : Nat → Nat → EN → Nat → (Nat → Nat → Int32) → (Nat → Nat → Int64) → Int32 → Int64 → Int64 →  Option (Int64 × (Nat → Nat → Int32) × (Nat → Nat → Int64))
  | 0, _, _, _, _, _, _, _, _ => none
  | n + 1, dp, e, lab, I, L, i1, j2, j4 =>
    if lab = 0 then (if i1 = (20 : Int32) then (some ((j2 + j4), I, L)) else (if i1 = (21 : Int32) then (some ((j2 - j4), I, L)) else (if i1 = (22 : Int32) then (some ((j2 * j4), I, L)) else (if i1 = (23 : Int32) then (if (lg_cmp j4 (0 : Int64)) = 0 then (stI (u2 I 105 29 (1 : Int32)) (fun I_68 => (if (I_68 105 29) = 0 then (if ¬ j4 = 0 then (some ((j2 / j4), I_68, L)) else none) else (some ((0 : Int64), I_68, L))))) else (stI (u2 I 105 29 (0 : Int32)) (fun I_68 => (if (I_68 105 29) = 0 then (if ¬ j4 = 0 then (some ((j2 / j4), I_68, L)) else none) else (some ((0 : Int64), I_68, L)))))) else (if i1 = (24 : Int32) then (if 0 ≤ (lg_cmp j2 j4) then (some ((0 : Int64), I, L)) else (some ((1 : Int64), I, L))) else (if i1 = (25 : Int32) then (if (lg_cmp j2 j4) ≤ 0 then (some ((0 : Int64), I, L)) else (some ((1 : Int64), I, L))) else (if (lg_cmp j2 j4) = 0 then (some ((1 : Int64), I, L)) else (some ((0 : Int64), I, L)))))))))
    else none
set_option maxRecDepth 100000 in
theorem e_249_0 (n dp : Nat) (e : EN) (I : (Nat → Nat → Int32)) (L : (Nat → Nat → Int64)) (i1 : Int32) (j2 : Int64) (j4 : Int64) : g_249 (n + 1) dp e 0 I L i1 j2 j4 = (if i1 = (20 : Int32) then (some ((j2 + j4), I, L)) else (if i1 = (21 : Int32) then (some ((j2 - j4), I, L)) else (if i1 = (22 : Int32) then (some ((j2 * j4), I, L)) else (if i1 = (23 : Int32) then (if (lg_cmp j4 (0 : Int64)) = 0 then (stI (u2 I 105 29 (1 : Int32)) (fun I_68 => (if (I_68 105 29) = 0 then (if ¬ j4 = 0 then (some ((j2 / j4), I_68, L)) else none) else (some ((0 : Int64), I_68, L))))) else (stI (u2 I 105 29 (0 : Int32)) (fun I_68 => (if (I_68 105 29) = 0 then (if ¬ j4 = 0 then (some ((j2 / j4), I_68, L)) else none) else (some ((0 : Int64), I_68, L)))))) else (if i1 = (24 : Int32) then (if 0 ≤ (lg_cmp j2 j4) then (some ((0 : Int64), I, L)) else (some ((1 : Int64), I, L))) else (if i1 = (25 : Int32) then (if (lg_cmp j2 j4) ≤ 0 then (some ((0 : Int64), I, L)) else (some ((1 : Int64), I, L))) else (if (lg_cmp j2 j4) = 0 then (some ((1 : Int64), I, L)) else (some ((0 : Int64), I, L))))))))) := by rw [g_249.eq_2, if_pos (show (0 : Nat) = 0 from rfl)]
set_option maxHeartbeats 8000000 in
set_option maxRecDepth 100000 in
theorem w_249 (X : GX) {z : Nat} {kd : Nat → Nat × Nat} {Rf : Nat → Nat → Option Nat} (hS : Sh z kd Rf) : ∀ (n dp d : Nat), dp ≤ d → ∀ (I : (Nat → Nat → Int32)) (L : (Nat → Nat → Int64)) (i1 : Int32) (j2 : Int64) (j4 : Int64) (r : Int64) (I1 : (Nat → Nat → Int32)) (L1 : (Nat → Nat → Int64)), (g_249 n dp (z, kd, Rf) 0 I L i1 j2 j4 = some (r, I1, L1) → K X d 249 0 0 (AL (fun x τ => x = r ∧ τ = (z, kd, I1, L1, Rf))) 0 [some (.ref 105), some (.int i1), some (.long j2), none, some (.long j4), none] [] (z, kd, I, L, Rf) 0 0) := by
  intro n
  induction n with
  | zero => intro dp d hdp I L i1 j2 j4 r I1 L1; exact fun h => by cases h
  | succ n ih =>
    intro dp d hdp I L i1 j2 j4 r I1 L1
    · intro h
      rw [e_249_0] at h
      refine K_of b_249_0 h_249_0 ?_
      refine q_iload rfl ?_
      refine q_tsw (fun c_1 => ?_) (fun j t c_1 ht => ?_)
      · rw [if_neg (sw_ne c_1 (by decide) (by decide)), if_neg (sw_ne c_1 (by decide) (by decide)), if_neg (sw_ne c_1 (by decide) (by decide)), if_neg (sw_ne c_1 (by decide) (by decide)), if_neg (sw_ne c_1 (by decide) (by decide)), if_neg (sw_ne c_1 (by decide) (by decide))] at h
        refine K_of b_249_113 h_249_113 ?_
        refine q_lload rfl ?_
        refine q_lload rfl ?_
        refine q_lcmp ?_
        refine q_if_ne (fun c_117 => ?_) (fun c_117 => ?_)
        · rw [if_neg c_117] at h
          refine K_of b_249_124 h_249_124 ?_
          refine q_lconst (0) (by decide) ?_
          refine q_end ?_
          refine K_of b_249_125 h_249_125 ?_
          cases h
          exact q_lret rfl (Nat.le_refl _) (Nat.le_refl _) ⟨rfl, rfl⟩
        · rw [if_pos c_117] at h
          refine q_lconst (1) (by decide) ?_
          refine q_goto ?_
          refine K_of b_249_125 h_249_125 ?_
          cases h
          exact q_lret rfl (Nat.le_refl _) (Nat.le_refl _) ⟨rfl, rfl⟩
      · match j, ht with
        | 0, ht =>
          cases ht
          rw [if_pos (sw_eq c_1 (by decide))] at h
          refine K_of b_249_40 h_249_40 ?_
          refine q_lload rfl ?_
          refine q_lload rfl ?_
          refine q_ladd ?_
          cases h
          exact q_lret rfl (Nat.le_refl _) (Nat.le_refl _) ⟨rfl, rfl⟩
        | 1, ht =>
          cases ht
          rw [if_neg (sw_nq c_1 (by decide)), if_pos (sw_eq c_1 (by decide))] at h
          refine K_of b_249_45 h_249_45 ?_
          refine q_lload rfl ?_
          refine q_lload rfl ?_
          refine q_lsub ?_
          cases h
          exact q_lret rfl (Nat.le_refl _) (Nat.le_refl _) ⟨rfl, rfl⟩
        | 2, ht =>
          cases ht
          rw [if_neg (sw_nq c_1 (by decide)), if_neg (sw_nq c_1 (by decide)), if_pos (sw_eq c_1 (by decide))] at h
          refine K_of b_249_50 h_249_50 ?_
          refine q_lload rfl ?_
          refine q_lload rfl ?_
          refine q_lmul ?_
          cases h
          exact q_lret rfl (Nat.le_refl _) (Nat.le_refl _) ⟨rfl, rfl⟩
        | 3, ht =>
          cases ht
          rw [if_neg (sw_nq c_1 (by decide)), if_neg (sw_nq c_1 (by decide)), if_neg (sw_nq c_1 (by decide)), if_pos (sw_eq c_1 (by decide))] at h
          refine K_of b_249_55 h_249_55 ?_
          refine q_aload rfl ?_
          refine q_lload rfl ?_
          refine q_lconst (0) (by decide) ?_
          refine q_lcmp ?_
          refine q_if_ne (fun c_60 => ?_) (fun c_60 => ?_)
          · rw [if_neg c_60] at h
            refine K_of b_249_67 h_249_67 ?_
            refine q_iconst (0) (by decide) ?_
            refine q_end ?_
            refine K_of b_249_68 h_249_68 ?_
            refine q_putZ (c0 := 12) (j := 29) rfl rfl (zl hS 105 (by decide)) (sk hS 105 (by decide) rfl) rfl (Or.inl rfl) ?_
            obtain ⟨I_68, nI_68, h⟩ := stI_some h
            refine q_nI nI_68 ?_
            refine q_aload rfl ?_
            refine q_getI (c0 := 12) (j := 29) rfl rfl (zl hS 105 (by decide)) (sk hS 105 (by decide) rfl) (Or.inr rfl) (by decide) ?_
            refine q_if_eq (fun c_75 => ?_) (fun c_75 => ?_)
            · rw [if_pos c_75] at h
              refine K_of b_249_82 h_249_82 ?_
              refine q_lload rfl ?_
              refine q_lload rfl ?_
              obtain ⟨d_85, h⟩ := ite_some h
              refine q_ldiv d_85 ?_
              refine q_end ?_
              refine K_of b_249_86 h_249_86 ?_
              cases h
              exact q_lret rfl (Nat.le_refl _) (Nat.le_refl _) ⟨rfl, rfl⟩
            · rw [if_neg c_75] at h
              refine q_lconst (0) (by decide) ?_
              refine q_goto ?_
              refine K_of b_249_86 h_249_86 ?_
              cases h
              exact q_lret rfl (Nat.le_refl _) (Nat.le_refl _) ⟨rfl, rfl⟩
          · rw [if_pos c_60] at h
            refine q_iconst (1) (by decide) ?_
            refine q_goto ?_
            refine K_of b_249_68 h_249_68 ?_
            refine q_putZ (c0 := 12) (j := 29) rfl rfl (zl hS 105 (by decide)) (sk hS 105 (by decide) rfl) rfl (Or.inr rfl) ?_
            obtain ⟨I_68, nI_68, h⟩ := stI_some h
            refine q_nI nI_68 ?_
            refine q_aload rfl ?_
            refine q_getI (c0 := 12) (j := 29) rfl rfl (zl hS 105 (by decide)) (sk hS 105 (by decide) rfl) (Or.inr rfl) (by decide) ?_
            refine q_if_eq (fun c_75 => ?_) (fun c_75 => ?_)
            · rw [if_pos c_75] at h
              refine K_of b_249_82 h_249_82 ?_
              refine q_lload rfl ?_
              refine q_lload rfl ?_
              obtain ⟨d_85, h⟩ := ite_some h
              refine q_ldiv d_85 ?_
              refine q_end ?_
              refine K_of b_249_86 h_249_86 ?_
              cases h
              exact q_lret rfl (Nat.le_refl _) (Nat.le_refl _) ⟨rfl, rfl⟩
            · rw [if_neg c_75] at h
              refine q_lconst (0) (by decide) ?_
              refine q_goto ?_
              refine K_of b_249_86 h_249_86 ?_
              cases h
              exact q_lret rfl (Nat.le_refl _) (Nat.le_refl _) ⟨rfl, rfl⟩
        | 4, ht =>
          cases ht
          rw [if_neg (sw_nq c_1 (by decide)), if_neg (sw_nq c_1 (by decide)), if_neg (sw_nq c_1 (by decide)), if_neg (sw_nq c_1 (by decide)), if_pos (sw_eq c_1 (by decide))] at h
          refine K_of b_249_87 h_249_87 ?_
          refine q_lload rfl ?_
          refine q_lload rfl ?_
          refine q_lcmp ?_
          refine q_if_ge (fun c_91 => ?_) (fun c_91 => ?_)
          · rw [if_pos c_91] at h
            refine K_of b_249_98 h_249_98 ?_
            refine q_lconst (0) (by decide) ?_
            refine q_end ?_
            refine K_of b_249_99 h_249_99 ?_
            cases h
            exact q_lret rfl (Nat.le_refl _) (Nat.le_refl _) ⟨rfl, rfl⟩
          · rw [if_neg c_91] at h
            refine q_lconst (1) (by decide) ?_
            refine q_goto ?_
            refine K_of b_249_99 h_249_99 ?_
            cases h
            exact q_lret rfl (Nat.le_refl _) (Nat.le_refl _) ⟨rfl, rfl⟩
        | 5, ht =>
          cases ht
          rw [if_neg (sw_nq c_1 (by decide)), if_neg (sw_nq c_1 (by decide)), if_neg (sw_nq c_1 (by decide)), if_neg (sw_nq c_1 (by decide)), if_neg (sw_nq c_1 (by decide)), if_pos (sw_eq c_1 (by decide))] at h
          refine K_of b_249_100 h_249_100 ?_
          refine q_lload rfl ?_
          refine q_lload rfl ?_
          refine q_lcmp ?_
          refine q_if_le (fun c_104 => ?_) (fun c_104 => ?_)
          · rw [if_pos c_104] at h
            refine K_of b_249_111 h_249_111 ?_
            refine q_lconst (0) (by decide) ?_
            refine q_end ?_
            refine K_of b_249_112 h_249_112 ?_
            cases h
            exact q_lret rfl (Nat.le_refl _) (Nat.le_refl _) ⟨rfl, rfl⟩
          · rw [if_neg c_104] at h
            refine q_lconst (1) (by decide) ?_
            refine q_goto ?_
            refine K_of b_249_112 h_249_112 ?_
            cases h
            exact q_lret rfl (Nat.le_refl _) (Nat.le_refl _) ⟨rfl, rfl⟩
        | j + 6, ht => simp at ht
theorem a_249 (X : GX) {z : Nat} {kd : Nat → Nat × Nat} {Rf : Nat → Nat → Option Nat} (hS : Sh z kd Rf) {n dp d : Nat} (hd : dp ≤ d) {I : (Nat → Nat → Int32)} {L : (Nat → Nat → Int64)} {i1 : Int32} {j2 : Int64} {j4 : Int64} {I1 : (Nat → Nat → Int32)} {L1 : (Nat → Nat → Int64)} {r : Int64} (h : g_249 n dp (z, kd, Rf) 0 I L i1 j2 j4 = some (r, I1, L1)) : Ct X d 249 0 0 [.ref 105, .int i1, .long j2, .long j4] (z, kd, I, L, Rf) (AL (fun x τ => x = r ∧ τ = (z, kd, I1, L1, Rf))) :=
  Ct_of mu_249 (Nat.le_of_ble_eq_true rfl) ((w_249 X hS n dp d hd I L i1 j2 j4 _ _ _) h)

/-! 248 CutFloorModel.reckonAll(II)V -/
set_option maxHeartbeats 4000000 in
set_option maxRecDepth 100000 in
def g_248 : Nat → Nat → EN → Nat → (Nat → Nat → Int32) → (Nat → Nat → Int64) → Int32 → Int32 → Int32 → Int32 → Int32 → Int32 →  Option ((Nat → Nat → Int32) × (Nat → Nat → Int64))
  | 0, _, _, _, _, _, _, _, _, _, _, _ => none
  | n + 1, dp, e, lab, I, L, i1, i2, i3, i4, i5, i6 =>
    if lab = 0 then (stI (u2 I 105 29 (0 : Int32)) (fun I_2 => (g_248 n dp e 1 I_2 L i1 i2 (0 : Int32) i1 0 0)))
    else if lab = 1 then (if i2 ≤ i4 then (g_248 n dp e 3 I L i1 i2 i3 i4 0 0) else (if (I 105 29) = 0 then (if 0 ≤ ((664 : Int32) + ((2 : Int32) * i4)) ∧ (Int32.toNatClampNeg ((664 : Int32) + ((2 : Int32) * i4))) < 1570 then (stI (I 107 (Int32.toNatClampNeg ((664 : Int32) + ((2 : Int32) * i4)))) (fun v_36 => (if 0 ≤ (((664 : Int32) + ((2 : Int32) * i4)) + (1 : Int32)) ∧ (Int32.toNatClampNeg (((664 : Int32) + ((2 : Int32) * i4)) + (1 : Int32))) < 1570 then (stI (I 107 (Int32.toNatClampNeg (((664 : Int32) + ((2 : Int32) * i4)) + (1 : Int32)))) (fun v_53 => (if (20 : Int32) ≤ v_36 then (if (27 : Int32) ≤ v_36 then (if v_36 = (27 : Int32) then (if 0 ≤ (i3 - (1 : Int32)) ∧ (Int32.toNatClampNeg (i3 - (1 : Int32))) < 400 then (if 0 ≤ (i3 - (1 : Int32)) ∧ (Int32.toNatClampNeg (i3 - (1 : Int32))) < 400 then (stI (u2 L 119 (Int32.toNatClampNeg (i3 - (1 : Int32))) ((1 : Int64) - (L 119 (Int32.toNatClampNeg (i3 - (1 : Int32)))))) (fun L_196 => (g_248 n dp e 2 I L_196 i1 i2 i3 (i4 + Int32.ofInt (1)) v_36 v_53))) else none) else none) else (if 0 ≤ (i3 - (1 : Int32)) ∧ (Int32.toNatClampNeg (i3 - (1 : Int32))) < 400 then (if v_36 = (28 : Int32) then (if (lg_cmp (L 119 (Int32.toNatClampNeg (i3 - (1 : Int32)))) (0 : Int64)) = 0 then (g_248 n dp e 2 I L i1 i2 i3 v_53 v_36 v_53) else (g_248 n dp e 2 I L i1 i2 (i3 + Int32.ofInt (-1)) (i4 + Int32.ofInt (1)) v_36 v_53)) else (if (lg_cmp (L 119 (Int32.toNatClampNeg (i3 - (1 : Int32)))) (1 : Int64)) = 0 then (g_248 n dp e 2 I L i1 i2 i3 v_53 v_36 v_53) else (g_248 n dp e 2 I L i1 i2 (i3 + Int32.ofInt (-1)) (i4 + Int32.ofInt (1)) v_36 v_53))) else none)) else (if 0 ≤ ((i3 + Int32.ofInt (-1)) - (1 : Int32)) ∧ (Int32.toNatClampNeg ((i3 + Int32.ofInt (-1)) - (1 : Int32))) < 400 then (if 0 ≤ (i3 + Int32.ofInt (-1)) ∧ (Int32.toNatClampNeg (i3 + Int32.ofInt (-1))) < 400 then (if 1 ≤ dp then (g_249 n (dp - 1) e 0 I L v_36 (L 119 (Int32.toNatClampNeg ((i3 + Int32.ofInt (-1)) - (1 : Int32)))) (L 119 (Int32.toNatClampNeg (i3 + Int32.ofInt (-1))))).bind (fun ⟨x0_129, I0_129, L0_129⟩ => (if 0 ≤ ((i3 + Int32.ofInt (-1)) - (1 : Int32)) ∧ (Int32.toNatClampNeg ((i3 + Int32.ofInt (-1)) - (1 : Int32))) < 400 then (stI (u2 L0_129 119 (Int32.toNatClampNeg ((i3 + Int32.ofInt (-1)) - (1 : Int32))) x0_129) (fun L_132 => (if (I0_129 105 29) = 0 then (if 0 ≤ ((i3 + Int32.ofInt (-1)) - (1 : Int32)) ∧ (Int32.toNatClampNeg ((i3 + Int32.ofInt (-1)) - (1 : Int32))) < 400 then (if 1 ≤ dp then (g_193 n (dp - 1) e 0 I0_129 L_132 (L_132 119 (Int32.toNatClampNeg ((i3 + Int32.ofInt (-1)) - (1 : Int32)))) (-1000000000 : Int64) (1000000000 : Int64)).bind (fun ⟨x1_155, I1_155, L1_155⟩ => (if x1_155 = 0 then (stI (u2 I1_155 105 29 (1 : Int32)) (fun I_166 => (g_248 n dp e 2 I_166 L1_155 i1 i2 (i3 + Int32.ofInt (-1)) (i4 + Int32.ofInt (1)) v_36 v_53))) else (stI (u2 I1_155 105 29 (0 : Int32)) (fun I_166 => (g_248 n dp e 2 I_166 L1_155 i1 i2 (i3 + Int32.ofInt (-1)) (i4 + Int32.ofInt (1)) v_36 v_53))))) else none) else none) else (stI (u2 I0_129 105 29 (1 : Int32)) (fun I_166 => (g_248 n dp e 2 I_166 L_132 i1 i2 (i3 + Int32.ofInt (-1)) (i4 + Int32.ofInt (1)) v_36 v_53)))))) else none)) else none) else none) else none)) else (if v_36 = 0 then (if 0 ≤ i3 ∧ (Int32.toNatClampNeg i3) < 400 then (stI (u2 L 119 (Int32.toNatClampNeg i3) (Int32.toInt64 v_53)) (fun L_88 => (g_248 n dp e 2 I L_88 i1 i2 (i3 + Int32.ofInt (1)) (i4 + Int32.ofInt (1)) v_36 v_53))) else none) else (if 0 ≤ v_36 ∧ (Int32.toNatClampNeg v_36) < 13 then (if 0 ≤ i3 ∧ (Int32.toNatClampNeg i3) < 400 then (stI (u2 L 119 (Int32.toNatClampNeg i3) (L 118 (Int32.toNatClampNeg v_36))) (fun L_88 => (g_248 n dp e 2 I L_88 i1 i2 (i3 + Int32.ofInt (1)) (i4 + Int32.ofInt (1)) v_36 v_53))) else none) else none))))) else none))) else none) else (g_248 n dp e 3 I L i1 i2 i3 i4 0 0)))
    else if lab = 2 then (g_248 n dp e 1 I L i1 i2 i3 i4 0 0)
    else if lab = 3 then (if i3 ≤ 0 then (stI (u2 L 105 30 (0 : Int64)) (fun L_252 => (some (I, L_252)))) else (stI (u2 L 105 30 (L 119 0)) (fun L_252 => (some (I, L_252)))))
    else none
set_option maxRecDepth 100000 in
theorem e_248_0 (n dp : Nat) (e : EN) (I : (Nat → Nat → Int32)) (L : (Nat → Nat → Int64)) (i1 : Int32) (i2 : Int32) (i3 : Int32) (i4 : Int32) (i5 : Int32) (i6 : Int32) : g_248 (n + 1) dp e 0 I L i1 i2 i3 i4 i5 i6 = (stI (u2 I 105 29 (0 : Int32)) (fun I_2 => (g_248 n dp e 1 I_2 L i1 i2 (0 : Int32) i1 0 0))) := by rw [g_248.eq_2, if_pos (show (0 : Nat) = 0 from rfl)]
set_option maxRecDepth 100000 in
theorem e_248_1 (n dp : Nat) (e : EN) (I : (Nat → Nat → Int32)) (L : (Nat → Nat → Int64)) (i1 : Int32) (i2 : Int32) (i3 : Int32) (i4 : Int32) (i5 : Int32) (i6 : Int32) : g_248 (n + 1) dp e 1 I L i1 i2 i3 i4 i5 i6 = (if i2 ≤ i4 then (g_248 n dp e 3 I L i1 i2 i3 i4 0 0) else (if (I 105 29) = 0 then (if 0 ≤ ((664 : Int32) + ((2 : Int32) * i4)) ∧ (Int32.toNatClampNeg ((664 : Int32) + ((2 : Int32) * i4))) < 1570 then (stI (I 107 (Int32.toNatClampNeg ((664 : Int32) + ((2 : Int32) * i4)))) (fun v_36 => (if 0 ≤ (((664 : Int32) + ((2 : Int32) * i4)) + (1 : Int32)) ∧ (Int32.toNatClampNeg (((664 : Int32) + ((2 : Int32) * i4)) + (1 : Int32))) < 1570 then (stI (I 107 (Int32.toNatClampNeg (((664 : Int32) + ((2 : Int32) * i4)) + (1 : Int32)))) (fun v_53 => (if (20 : Int32) ≤ v_36 then (if (27 : Int32) ≤ v_36 then (if v_36 = (27 : Int32) then (if 0 ≤ (i3 - (1 : Int32)) ∧ (Int32.toNatClampNeg (i3 - (1 : Int32))) < 400 then (if 0 ≤ (i3 - (1 : Int32)) ∧ (Int32.toNatClampNeg (i3 - (1 : Int32))) < 400 then (stI (u2 L 119 (Int32.toNatClampNeg (i3 - (1 : Int32))) ((1 : Int64) - (L 119 (Int32.toNatClampNeg (i3 - (1 : Int32)))))) (fun L_196 => (g_248 n dp e 2 I L_196 i1 i2 i3 (i4 + Int32.ofInt (1)) v_36 v_53))) else none) else none) else (if 0 ≤ (i3 - (1 : Int32)) ∧ (Int32.toNatClampNeg (i3 - (1 : Int32))) < 400 then (if v_36 = (28 : Int32) then (if (lg_cmp (L 119 (Int32.toNatClampNeg (i3 - (1 : Int32)))) (0 : Int64)) = 0 then (g_248 n dp e 2 I L i1 i2 i3 v_53 v_36 v_53) else (g_248 n dp e 2 I L i1 i2 (i3 + Int32.ofInt (-1)) (i4 + Int32.ofInt (1)) v_36 v_53)) else (if (lg_cmp (L 119 (Int32.toNatClampNeg (i3 - (1 : Int32)))) (1 : Int64)) = 0 then (g_248 n dp e 2 I L i1 i2 i3 v_53 v_36 v_53) else (g_248 n dp e 2 I L i1 i2 (i3 + Int32.ofInt (-1)) (i4 + Int32.ofInt (1)) v_36 v_53))) else none)) else (if 0 ≤ ((i3 + Int32.ofInt (-1)) - (1 : Int32)) ∧ (Int32.toNatClampNeg ((i3 + Int32.ofInt (-1)) - (1 : Int32))) < 400 then (if 0 ≤ (i3 + Int32.ofInt (-1)) ∧ (Int32.toNatClampNeg (i3 + Int32.ofInt (-1))) < 400 then (if 1 ≤ dp then (g_249 n (dp - 1) e 0 I L v_36 (L 119 (Int32.toNatClampNeg ((i3 + Int32.ofInt (-1)) - (1 : Int32)))) (L 119 (Int32.toNatClampNeg (i3 + Int32.ofInt (-1))))).bind (fun ⟨x0_129, I0_129, L0_129⟩ => (if 0 ≤ ((i3 + Int32.ofInt (-1)) - (1 : Int32)) ∧ (Int32.toNatClampNeg ((i3 + Int32.ofInt (-1)) - (1 : Int32))) < 400 then (stI (u2 L0_129 119 (Int32.toNatClampNeg ((i3 + Int32.ofInt (-1)) - (1 : Int32))) x0_129) (fun L_132 => (if (I0_129 105 29) = 0 then (if 0 ≤ ((i3 + Int32.ofInt (-1)) - (1 : Int32)) ∧ (Int32.toNatClampNeg ((i3 + Int32.ofInt (-1)) - (1 : Int32))) < 400 then (if 1 ≤ dp then (g_193 n (dp - 1) e 0 I0_129 L_132 (L_132 119 (Int32.toNatClampNeg ((i3 + Int32.ofInt (-1)) - (1 : Int32)))) (-1000000000 : Int64) (1000000000 : Int64)).bind (fun ⟨x1_155, I1_155, L1_155⟩ => (if x1_155 = 0 then (stI (u2 I1_155 105 29 (1 : Int32)) (fun I_166 => (g_248 n dp e 2 I_166 L1_155 i1 i2 (i3 + Int32.ofInt (-1)) (i4 + Int32.ofInt (1)) v_36 v_53))) else (stI (u2 I1_155 105 29 (0 : Int32)) (fun I_166 => (g_248 n dp e 2 I_166 L1_155 i1 i2 (i3 + Int32.ofInt (-1)) (i4 + Int32.ofInt (1)) v_36 v_53))))) else none) else none) else (stI (u2 I0_129 105 29 (1 : Int32)) (fun I_166 => (g_248 n dp e 2 I_166 L_132 i1 i2 (i3 + Int32.ofInt (-1)) (i4 + Int32.ofInt (1)) v_36 v_53)))))) else none)) else none) else none) else none)) else (if v_36 = 0 then (if 0 ≤ i3 ∧ (Int32.toNatClampNeg i3) < 400 then (stI (u2 L 119 (Int32.toNatClampNeg i3) (Int32.toInt64 v_53)) (fun L_88 => (g_248 n dp e 2 I L_88 i1 i2 (i3 + Int32.ofInt (1)) (i4 + Int32.ofInt (1)) v_36 v_53))) else none) else (if 0 ≤ v_36 ∧ (Int32.toNatClampNeg v_36) < 13 then (if 0 ≤ i3 ∧ (Int32.toNatClampNeg i3) < 400 then (stI (u2 L 119 (Int32.toNatClampNeg i3) (L 118 (Int32.toNatClampNeg v_36))) (fun L_88 => (g_248 n dp e 2 I L_88 i1 i2 (i3 + Int32.ofInt (1)) (i4 + Int32.ofInt (1)) v_36 v_53))) else none) else none))))) else none))) else none) else (g_248 n dp e 3 I L i1 i2 i3 i4 0 0))) := by rw [g_248.eq_2, if_neg (show ¬ ((1 : Nat) = 0) by decide), if_pos (show (1 : Nat) = 1 from rfl)]
set_option maxRecDepth 100000 in
theorem e_248_2 (n dp : Nat) (e : EN) (I : (Nat → Nat → Int32)) (L : (Nat → Nat → Int64)) (i1 : Int32) (i2 : Int32) (i3 : Int32) (i4 : Int32) (i5 : Int32) (i6 : Int32) : g_248 (n + 1) dp e 2 I L i1 i2 i3 i4 i5 i6 = (g_248 n dp e 1 I L i1 i2 i3 i4 0 0) := by rw [g_248.eq_2, if_neg (show ¬ ((2 : Nat) = 0) by decide), if_neg (show ¬ ((2 : Nat) = 1) by decide), if_pos (show (2 : Nat) = 2 from rfl)]
set_option maxRecDepth 100000 in
theorem e_248_3 (n dp : Nat) (e : EN) (I : (Nat → Nat → Int32)) (L : (Nat → Nat → Int64)) (i1 : Int32) (i2 : Int32) (i3 : Int32) (i4 : Int32) (i5 : Int32) (i6 : Int32) : g_248 (n + 1) dp e 3 I L i1 i2 i3 i4 i5 i6 = (if i3 ≤ 0 then (stI (u2 L 105 30 (0 : Int64)) (fun L_252 => (some (I, L_252)))) else (stI (u2 L 105 30 (L 119 0)) (fun L_252 => (some (I, L_252))))) := by rw [g_248.eq_2, if_neg (show ¬ ((3 : Nat) = 0) by decide), if_neg (show ¬ ((3 : Nat) = 1) by decide), if_neg (show ¬ ((3 : Nat) = 2) by decide), if_pos (show (3 : Nat) = 3 from rfl)]
set_option maxHeartbeats 8000000 in
set_option maxRecDepth 100000 in
theorem w_248 (X : GX) {z : Nat} {kd : Nat → Nat × Nat} {Rf : Nat → Nat → Option Nat} (hS : Sh z kd Rf) : ∀ (n dp d : Nat), dp ≤ d → ∀ (I : (Nat → Nat → Int32)) (L : (Nat → Nat → Int64)) (i1 : Int32) (i2 : Int32) (i3 : Int32) (i4 : Int32) (i5 : Int32) (i6 : Int32) (I1 : (Nat → Nat → Int32)) (L1 : (Nat → Nat → Int64)), (g_248 n dp (z, kd, Rf) 0 I L i1 i2 i3 i4 i5 i6 = some (I1, L1) → K X d 248 0 0 (AV (fun τ => τ = (z, kd, I1, L1, Rf))) 0 [some (.ref 105), some (.int i1), some (.int i2), none, none, none, none] [] (z, kd, I, L, Rf) 0 0) ∧
    (g_248 n dp (z, kd, Rf) 1 I L i1 i2 i3 i4 i5 i6 = some (I1, L1) → K X d 248 0 0 (AV (fun τ => τ = (z, kd, I1, L1, Rf))) 10 [some (.ref 105), some (.int i1), some (.int i2), some (.int i3), some (.int i4), none, none] [] (z, kd, I, L, Rf) 0 0) ∧
    (g_248 n dp (z, kd, Rf) 2 I L i1 i2 i3 i4 i5 i6 = some (I1, L1) → K X d 248 0 0 (AV (fun τ => τ = (z, kd, I1, L1, Rf))) 234 [some (.ref 105), some (.int i1), some (.int i2), some (.int i3), some (.int i4), some (.int i5), some (.int i6)] [] (z, kd, I, L, Rf) 0 0) ∧
    (g_248 n dp (z, kd, Rf) 3 I L i1 i2 i3 i4 i5 i6 = some (I1, L1) → K X d 248 0 0 (AV (fun τ => τ = (z, kd, I1, L1, Rf))) 237 [some (.ref 105), some (.int i1), some (.int i2), some (.int i3), some (.int i4), none, none] [] (z, kd, I, L, Rf) 0 0) := by
  intro n
  induction n with
  | zero => intro dp d hdp I L i1 i2 i3 i4 i5 i6 I1 L1; exact ⟨(fun h => by cases h), (fun h => by cases h), (fun h => by cases h), (fun h => by cases h)⟩
  | succ n ih =>
    intro dp d hdp I L i1 i2 i3 i4 i5 i6 I1 L1
    refine ⟨?_, ?_, ?_, ?_⟩
    · intro h
      rw [e_248_0] at h
      refine K_of b_248_0 h_248_0 ?_
      refine q_aload rfl ?_
      refine q_iconst (0) (by decide) ?_
      refine q_putZ (c0 := 12) (j := 29) rfl rfl (zl hS 105 (by decide)) (sk hS 105 (by decide) rfl) rfl (Or.inl rfl) ?_
      obtain ⟨I_2, nI_2, h⟩ := stI_some h
      refine q_nI nI_2 ?_
      refine q_iconst (0) (by decide) ?_
      refine q_istore (ls1 := [some (.ref 105), some (.int i1), some (.int i2), some (.int (0 : Int32)), none, none, none]) (Nat.le_of_ble_eq_true rfl) rfl ?_
      refine q_iload rfl ?_
      refine q_istore (ls1 := [some (.ref 105), some (.int i1), some (.int i2), some (.int (0 : Int32)), some (.int i1), none, none]) (Nat.le_of_ble_eq_true rfl) rfl ?_
      refine q_end ?_
      exact (ih dp d hdp _ _ i1 i2 (0 : Int32) i1 0 0 _ _).2.1 h
    · intro h
      rw [e_248_1] at h
      refine K_of b_248_10 h_248_10 ?_
      refine q_iload rfl ?_
      refine q_iload rfl ?_
      refine q_icmp_ge (fun c_13 => ?_) (fun c_13 => ?_)
      · rw [if_pos c_13] at h
        exact (ih dp d hdp _ _ i1 i2 i3 i4 0 0 _ _).2.2.2 h
      · rw [if_neg c_13] at h
        refine q_aload rfl ?_
        refine q_getI (c0 := 12) (j := 29) rfl rfl (zl hS 105 (by decide)) (sk hS 105 (by decide) rfl) (Or.inr rfl) (by decide) ?_
        refine q_if_ne (fun c_20 => ?_) (fun c_20 => ?_)
        · rw [if_neg c_20] at h
          exact (ih dp d hdp _ _ i1 i2 i3 i4 0 0 _ _).2.2.2 h
        · rw [if_pos c_20] at h
          refine q_aload rfl ?_
          refine q_getRs (c0 := 12) (j := 3) rfl rfl (zl hS 105 (by decide)) (sk hS 105 (by decide) rfl) rfl (by decide) (r_105_3 hS) ?_
          refine q_iconst (664) (by decide) ?_
          refine q_iconst (2) (by decide) ?_
          refine q_iload rfl ?_
          refine q_imul ?_
          refine q_iadd ?_
          obtain ⟨⟨u_35, v_35⟩, h⟩ := ite_some h
          refine q_ialN (Int32.toNatClampNeg ((664 : Int32) + ((2 : Int32) * i4))) (nx u_35) (zl hS 107 (by decide)) (sk hS 107 (by decide) rfl) v_35 (by decide) ?_
          obtain ⟨v_36, nv_36, h⟩ := stI_some h
          refine q_eqi nv_36.symm ?_
          refine q_istore (ls1 := [some (.ref 105), some (.int i1), some (.int i2), some (.int i3), some (.int i4), some (.int v_36), none]) (Nat.le_of_ble_eq_true rfl) rfl ?_
          refine q_aload rfl ?_
          refine q_getRs (c0 := 12) (j := 3) rfl rfl (zl hS 105 (by decide)) (sk hS 105 (by decide) rfl) rfl (by decide) (r_105_3 hS) ?_
          refine q_iconst (664) (by decide) ?_
          refine q_iconst (2) (by decide) ?_
          refine q_iload rfl ?_
          refine q_imul ?_
          refine q_iadd ?_
          refine q_iconst (1) (by decide) ?_
          refine q_iadd ?_
          obtain ⟨⟨u_52, v_52⟩, h⟩ := ite_some h
          refine q_ialN (Int32.toNatClampNeg (((664 : Int32) + ((2 : Int32) * i4)) + (1 : Int32))) (nx u_52) (zl hS 107 (by decide)) (sk hS 107 (by decide) rfl) v_52 (by decide) ?_
          obtain ⟨v_53, nv_53, h⟩ := stI_some h
          refine q_eqi nv_53.symm ?_
          refine q_istore (ls1 := [some (.ref 105), some (.int i1), some (.int i2), some (.int i3), some (.int i4), some (.int v_36), some (.int v_53)]) (Nat.le_of_ble_eq_true rfl) rfl ?_
          refine q_iinc (ls1 := [some (.ref 105), some (.int i1), some (.int i2), some (.int i3), some (.int (i4 + Int32.ofInt (1))), some (.int v_36), some (.int v_53)]) rfl rfl ?_
          refine q_iload rfl ?_
          refine q_iconst (20) (by decide) ?_
          refine q_icmp_ge (fun c_62 => ?_) (fun c_62 => ?_)
          · rw [if_pos c_62] at h
            refine K_of b_248_95 h_248_95 ?_
            refine q_iload rfl ?_
            refine q_iconst (27) (by decide) ?_
            refine q_icmp_ge (fun c_99 => ?_) (fun c_99 => ?_)
            · rw [if_pos c_99] at h
              refine K_of b_248_172 h_248_172 ?_
              refine q_iload rfl ?_
              refine q_iconst (27) (by decide) ?_
              refine q_icmp_ne (fun c_176 => ?_) (fun c_176 => ?_)
              · rw [if_neg c_176] at h
                refine K_of b_248_200 h_248_200 ?_
                refine q_aload rfl ?_
                refine q_getRs (c0 := 12) (j := 28) rfl rfl (zl hS 105 (by decide)) (sk hS 105 (by decide) rfl) rfl (by decide) (r_105_28 hS) ?_
                refine q_iload rfl ?_
                refine q_iconst (1) (by decide) ?_
                refine q_isub ?_
                obtain ⟨⟨u_207, v_207⟩, h⟩ := ite_some h
                refine q_lalN (Int32.toNatClampNeg (i3 - (1 : Int32))) (nx u_207) (zl hS 119 (by decide)) (sk hS 119 (by decide) rfl) v_207 (by decide) ?_
                refine q_iload rfl ?_
                refine q_iconst (28) (by decide) ?_
                refine q_icmp_ne (fun c_212 => ?_) (fun c_212 => ?_)
                · rw [if_neg c_212] at h
                  refine K_of b_248_219 h_248_219 ?_
                  refine q_lconst (1) (by decide) ?_
                  refine q_end ?_
                  refine K_of b_248_220 h_248_220 ?_
                  refine q_lcmp ?_
                  refine q_if_ne (fun c_221 => ?_) (fun c_221 => ?_)
                  · rw [if_neg c_221] at h
                    refine K_of b_248_231 h_248_231 ?_
                    refine q_iinc (ls1 := [some (.ref 105), some (.int i1), some (.int i2), some (.int (i3 + Int32.ofInt (-1))), some (.int (i4 + Int32.ofInt (1))), some (.int v_36), some (.int v_53)]) rfl rfl ?_
                    refine q_end ?_
                    exact (ih dp d hdp _ _ i1 i2 (i3 + Int32.ofInt (-1)) (i4 + Int32.ofInt (1)) v_36 v_53 _ _).2.2.1 h
                  · rw [if_pos c_221] at h
                    refine q_iload rfl ?_
                    refine q_istore (ls1 := [some (.ref 105), some (.int i1), some (.int i2), some (.int i3), some (.int v_53), some (.int v_36), some (.int v_53)]) (Nat.le_of_ble_eq_true rfl) rfl ?_
                    refine q_goto ?_
                    exact (ih dp d hdp _ _ i1 i2 i3 v_53 v_36 v_53 _ _).2.2.1 h
                · rw [if_pos c_212] at h
                  refine q_lconst (0) (by decide) ?_
                  refine q_goto ?_
                  refine K_of b_248_220 h_248_220 ?_
                  refine q_lcmp ?_
                  refine q_if_ne (fun c_221 => ?_) (fun c_221 => ?_)
                  · rw [if_neg c_221] at h
                    refine K_of b_248_231 h_248_231 ?_
                    refine q_iinc (ls1 := [some (.ref 105), some (.int i1), some (.int i2), some (.int (i3 + Int32.ofInt (-1))), some (.int (i4 + Int32.ofInt (1))), some (.int v_36), some (.int v_53)]) rfl rfl ?_
                    refine q_end ?_
                    exact (ih dp d hdp _ _ i1 i2 (i3 + Int32.ofInt (-1)) (i4 + Int32.ofInt (1)) v_36 v_53 _ _).2.2.1 h
                  · rw [if_pos c_221] at h
                    refine q_iload rfl ?_
                    refine q_istore (ls1 := [some (.ref 105), some (.int i1), some (.int i2), some (.int i3), some (.int v_53), some (.int v_36), some (.int v_53)]) (Nat.le_of_ble_eq_true rfl) rfl ?_
                    refine q_goto ?_
                    exact (ih dp d hdp _ _ i1 i2 i3 v_53 v_36 v_53 _ _).2.2.1 h
              · rw [if_pos c_176] at h
                refine q_aload rfl ?_
                refine q_getRs (c0 := 12) (j := 28) rfl rfl (zl hS 105 (by decide)) (sk hS 105 (by decide) rfl) rfl (by decide) (r_105_28 hS) ?_
                refine q_iload rfl ?_
                refine q_iconst (1) (by decide) ?_
                refine q_isub ?_
                refine q_lconst (1) (by decide) ?_
                refine q_aload rfl ?_
                refine q_getRs (c0 := 12) (j := 28) rfl rfl (zl hS 105 (by decide)) (sk hS 105 (by decide) rfl) rfl (by decide) (r_105_28 hS) ?_
                refine q_iload rfl ?_
                refine q_iconst (1) (by decide) ?_
                refine q_isub ?_
                obtain ⟨⟨u_194, v_194⟩, h⟩ := ite_some h
                refine q_lalN (Int32.toNatClampNeg (i3 - (1 : Int32))) (nx u_194) (zl hS 119 (by decide)) (sk hS 119 (by decide) rfl) v_194 (by decide) ?_
                refine q_lsub ?_
                obtain ⟨⟨u_196, v_196⟩, h⟩ := ite_some h
                refine q_lasN (Int32.toNatClampNeg (i3 - (1 : Int32))) (nx u_196) (zl hS 119 (by decide)) (sk hS 119 (by decide) rfl) v_196 (by decide) ?_
                obtain ⟨L_196, nL_196, h⟩ := stI_some h
                refine q_nL nL_196 ?_
                refine q_goto ?_
                exact (ih dp d hdp _ _ i1 i2 i3 (i4 + Int32.ofInt (1)) v_36 v_53 _ _).2.2.1 h
            · rw [if_neg c_99] at h
              refine q_iinc (ls1 := [some (.ref 105), some (.int i1), some (.int i2), some (.int (i3 + Int32.ofInt (-1))), some (.int (i4 + Int32.ofInt (1))), some (.int v_36), some (.int v_53)]) rfl rfl ?_
              refine q_aload rfl ?_
              refine q_getRs (c0 := 12) (j := 28) rfl rfl (zl hS 105 (by decide)) (sk hS 105 (by decide) rfl) rfl (by decide) (r_105_28 hS) ?_
              refine q_iload rfl ?_
              refine q_iconst (1) (by decide) ?_
              refine q_isub ?_
              refine q_aload rfl ?_
              refine q_iload rfl ?_
              refine q_aload rfl ?_
              refine q_getRs (c0 := 12) (j := 28) rfl rfl (zl hS 105 (by decide)) (sk hS 105 (by decide) rfl) rfl (by decide) (r_105_28 hS) ?_
              refine q_iload rfl ?_
              refine q_iconst (1) (by decide) ?_
              refine q_isub ?_
              obtain ⟨⟨u_122, v_122⟩, h⟩ := ite_some h
              refine q_lalN (Int32.toNatClampNeg ((i3 + Int32.ofInt (-1)) - (1 : Int32))) (nx u_122) (zl hS 119 (by decide)) (sk hS 119 (by decide) rfl) v_122 (by decide) ?_
              refine q_aload rfl ?_
              refine q_getRs (c0 := 12) (j := 28) rfl rfl (zl hS 105 (by decide)) (sk hS 105 (by decide) rfl) rfl (by decide) (r_105_28 hS) ?_
              refine q_iload rfl ?_
              obtain ⟨⟨u_128, v_128⟩, h⟩ := ite_some h
              refine q_lalN (Int32.toNatClampNeg (i3 + Int32.ofInt (-1))) (nx u_128) (zl hS 119 (by decide)) (sk hS 119 (by decide) rfl) v_128 (by decide) ?_
              obtain ⟨d_129, h⟩ := ite_some h
              obtain ⟨⟨x0_129, I0_129, L0_129⟩, e_129, h⟩ := Option.bind_eq_some_iff.mp h
              dsimp only at h
              refine q_fv4L (a_249 X hS (d := d - 1) (by omega) e_129) (by omega) (Nat.le_refl _) (Nat.le_refl _) rfl (Nat.le_of_ble_eq_true rfl) ⟨(zl hS 105 (by decide)), congrArg Prod.fst (sk hS 105 (by decide) rfl), by decide⟩ ?_
              obtain ⟨⟨u_132, v_132⟩, h⟩ := ite_some h
              refine q_lasN (Int32.toNatClampNeg ((i3 + Int32.ofInt (-1)) - (1 : Int32))) (nx u_132) (zl hS 119 (by decide)) (sk hS 119 (by decide) rfl) v_132 (by decide) ?_
              obtain ⟨L_132, nL_132, h⟩ := stI_some h
              refine q_nL nL_132 ?_
              refine q_aload rfl ?_
              refine q_aload rfl ?_
              refine q_getI (c0 := 12) (j := 29) rfl rfl (zl hS 105 (by decide)) (sk hS 105 (by decide) rfl) (Or.inr rfl) (by decide) ?_
              refine q_if_ne (fun c_138 => ?_) (fun c_138 => ?_)
              · rw [if_neg c_138] at h
                refine K_of b_248_161 h_248_161 ?_
                refine q_iconst (1) (by decide) ?_
                refine q_goto ?_
                refine K_of b_248_166 h_248_166 ?_
                refine q_putZ (c0 := 12) (j := 29) rfl rfl (zl hS 105 (by decide)) (sk hS 105 (by decide) rfl) rfl (Or.inr rfl) ?_
                obtain ⟨I_166, nI_166, h⟩ := stI_some h
                refine q_nI nI_166 ?_
                refine q_goto ?_
                exact (ih dp d hdp _ _ i1 i2 (i3 + Int32.ofInt (-1)) (i4 + Int32.ofInt (1)) v_36 v_53 _ _).2.2.1 h
              · rw [if_pos c_138] at h
                refine q_aload rfl ?_
                refine q_getRs (c0 := 12) (j := 28) rfl rfl (zl hS 105 (by decide)) (sk hS 105 (by decide) rfl) rfl (by decide) (r_105_28 hS) ?_
                refine q_iload rfl ?_
                refine q_iconst (1) (by decide) ?_
                refine q_isub ?_
                obtain ⟨⟨u_148, v_148⟩, h⟩ := ite_some h
                refine q_lalN (Int32.toNatClampNeg ((i3 + Int32.ofInt (-1)) - (1 : Int32))) (nx u_148) (zl hS 119 (by decide)) (sk hS 119 (by decide) rfl) v_148 (by decide) ?_
                refine q_lconst (-1000000000) (by decide) ?_
                refine q_lconst (1000000000) (by decide) ?_
                obtain ⟨d_155, h⟩ := ite_some h
                obtain ⟨⟨x1_155, I1_155, L1_155⟩, e_155, h⟩ := Option.bind_eq_some_iff.mp h
                dsimp only at h
                refine q_fs3I (a_193 X hS (d := d - 1) (by omega) e_155) (by omega) (Nat.le_refl _) (Nat.le_refl _) rfl (Nat.le_of_ble_eq_true rfl) ?_
                refine q_if_ne (fun c_158 => ?_) (fun c_158 => ?_)
                · rw [if_neg c_158] at h
                  refine K_of b_248_165 h_248_165 ?_
                  refine q_iconst (0) (by decide) ?_
                  refine q_end ?_
                  refine K_of b_248_166 h_248_166 ?_
                  refine q_putZ (c0 := 12) (j := 29) rfl rfl (zl hS 105 (by decide)) (sk hS 105 (by decide) rfl) rfl (Or.inl rfl) ?_
                  obtain ⟨I_166, nI_166, h⟩ := stI_some h
                  refine q_nI nI_166 ?_
                  refine q_goto ?_
                  exact (ih dp d hdp _ _ i1 i2 (i3 + Int32.ofInt (-1)) (i4 + Int32.ofInt (1)) v_36 v_53 _ _).2.2.1 h
                · rw [if_pos c_158] at h
                  refine q_end ?_
                  refine K_of b_248_161 h_248_161 ?_
                  refine q_iconst (1) (by decide) ?_
                  refine q_goto ?_
                  refine K_of b_248_166 h_248_166 ?_
                  refine q_putZ (c0 := 12) (j := 29) rfl rfl (zl hS 105 (by decide)) (sk hS 105 (by decide) rfl) rfl (Or.inr rfl) ?_
                  obtain ⟨I_166, nI_166, h⟩ := stI_some h
                  refine q_nI nI_166 ?_
                  refine q_goto ?_
                  exact (ih dp d hdp _ _ i1 i2 (i3 + Int32.ofInt (-1)) (i4 + Int32.ofInt (1)) v_36 v_53 _ _).2.2.1 h
          · rw [if_neg c_62] at h
            refine q_aload rfl ?_
            refine q_getRs (c0 := 12) (j := 28) rfl rfl (zl hS 105 (by decide)) (sk hS 105 (by decide) rfl) rfl (by decide) (r_105_28 hS) ?_
            refine q_iload rfl ?_
            refine q_iload rfl ?_
            refine q_if_ne (fun c_72 => ?_) (fun c_72 => ?_)
            · rw [if_neg c_72] at h
              refine K_of b_248_81 h_248_81 ?_
              refine q_aload rfl ?_
              refine q_getRs (c0 := 12) (j := 27) rfl rfl (zl hS 105 (by decide)) (sk hS 105 (by decide) rfl) rfl (by decide) (r_105_27 hS) ?_
              refine q_iload rfl ?_
              obtain ⟨⟨u_87, v_87⟩, h⟩ := ite_some h
              refine q_lalN (Int32.toNatClampNeg v_36) (nx u_87) (zl hS 118 (by decide)) (sk hS 118 (by decide) rfl) v_87 (by decide) ?_
              refine q_end ?_
              refine K_of b_248_88 h_248_88 ?_
              obtain ⟨⟨u_88, v_88⟩, h⟩ := ite_some h
              refine q_lasN (Int32.toNatClampNeg i3) (nx u_88) (zl hS 119 (by decide)) (sk hS 119 (by decide) rfl) v_88 (by decide) ?_
              obtain ⟨L_88, nL_88, h⟩ := stI_some h
              refine q_nL nL_88 ?_
              refine q_iinc (ls1 := [some (.ref 105), some (.int i1), some (.int i2), some (.int (i3 + Int32.ofInt (1))), some (.int (i4 + Int32.ofInt (1))), some (.int v_36), some (.int v_53)]) rfl rfl ?_
              refine q_goto ?_
              exact (ih dp d hdp _ _ i1 i2 (i3 + Int32.ofInt (1)) (i4 + Int32.ofInt (1)) v_36 v_53 _ _).2.2.1 h
            · rw [if_pos c_72] at h
              refine q_iload rfl ?_
              refine q_i2l ?_
              refine q_goto ?_
              refine K_of b_248_88 h_248_88 ?_
              obtain ⟨⟨u_88, v_88⟩, h⟩ := ite_some h
              refine q_lasN (Int32.toNatClampNeg i3) (nx u_88) (zl hS 119 (by decide)) (sk hS 119 (by decide) rfl) v_88 (by decide) ?_
              obtain ⟨L_88, nL_88, h⟩ := stI_some h
              refine q_nL nL_88 ?_
              refine q_iinc (ls1 := [some (.ref 105), some (.int i1), some (.int i2), some (.int (i3 + Int32.ofInt (1))), some (.int (i4 + Int32.ofInt (1))), some (.int v_36), some (.int v_53)]) rfl rfl ?_
              refine q_goto ?_
              exact (ih dp d hdp _ _ i1 i2 (i3 + Int32.ofInt (1)) (i4 + Int32.ofInt (1)) v_36 v_53 _ _).2.2.1 h
    · intro h
      rw [e_248_2] at h
      refine K_of b_248_234 h_248_234 ?_
      refine q_goto ?_
      refine K_mask [true, true, true, true, true, false, false] (Nat.le_of_ble_eq_true rfl) ?_
      exact (ih dp d hdp _ _ i1 i2 i3 i4 0 0 _ _).2.1 h
    · intro h
      rw [e_248_3] at h
      refine K_of b_248_237 h_248_237 ?_
      refine q_aload rfl ?_
      refine q_iload rfl ?_
      refine q_if_le (fun c_239 => ?_) (fun c_239 => ?_)
      · rw [if_pos c_239] at h
        refine K_of b_248_251 h_248_251 ?_
        refine q_lconst (0) (by decide) ?_
        refine q_end ?_
        refine K_of b_248_252 h_248_252 ?_
        refine q_putL (c0 := 12) (j := 30) rfl rfl (zl hS 105 (by decide)) (sk hS 105 (by decide) rfl) rfl ?_
        obtain ⟨L_252, nL_252, h⟩ := stI_some h
        refine q_nL nL_252 ?_
        cases h
        exact q_vret rfl (Nat.le_refl _) (Nat.le_refl _) rfl
      · rw [if_neg c_239] at h
        refine q_aload rfl ?_
        refine q_getRs (c0 := 12) (j := 28) rfl rfl (zl hS 105 (by decide)) (sk hS 105 (by decide) rfl) rfl (by decide) (r_105_28 hS) ?_
        refine q_iconst (0) (by decide) ?_
        refine q_lalN (0) rfl (zl hS 119 (by decide)) (sk hS 119 (by decide) rfl) (by decide) (by decide) ?_
        refine q_goto ?_
        refine K_of b_248_252 h_248_252 ?_
        refine q_putL (c0 := 12) (j := 30) rfl rfl (zl hS 105 (by decide)) (sk hS 105 (by decide) rfl) rfl ?_
        obtain ⟨L_252, nL_252, h⟩ := stI_some h
        refine q_nL nL_252 ?_
        cases h
        exact q_vret rfl (Nat.le_refl _) (Nat.le_refl _) rfl
theorem a_248 (X : GX) {z : Nat} {kd : Nat → Nat × Nat} {Rf : Nat → Nat → Option Nat} (hS : Sh z kd Rf) {n dp d : Nat} (hd : dp ≤ d) {I : (Nat → Nat → Int32)} {L : (Nat → Nat → Int64)} {i1 : Int32} {i2 : Int32} {I1 : (Nat → Nat → Int32)} {L1 : (Nat → Nat → Int64)} (h : g_248 n dp (z, kd, Rf) 0 I L i1 i2 0 0 0 0 = some (I1, L1)) : Ct X d 248 0 0 [.ref 105, .int i1, .int i2] (z, kd, I, L, Rf) (AV (fun τ => τ = (z, kd, I1, L1, Rf))) :=
  Ct_of mu_248 (Nat.le_of_ble_eq_true rfl) ((w_248 X hS n dp d hd I L i1 i2 0 0 0 0 _ _).1 h)

