/-! 294 CutFloorModel.spoilt()I -/
set_option maxHeartbeats 4000000 in
set_option maxRecDepth 100000 in
def g_294 : Nat → Nat → EN → Nat → (Nat → Nat → Int32) → (Nat → Nat → Int64) →  Option (Int32 × (Nat → Nat → Int32) × (Nat → Nat → Int64))
  | 0, _, _, _, _, _ => none
  | n + 1, dp, e, lab, I, L =>
    if lab = 0 then (stI (u2 I 105 0 (0 : Int32)) (fun I_2 => (some ((I_2 105 63), I_2, L))))
    else none
set_option maxRecDepth 100000 in
theorem e_294_0 (n dp : Nat) (e : EN) (I : (Nat → Nat → Int32)) (L : (Nat → Nat → Int64)) : g_294 (n + 1) dp e 0 I L = (stI (u2 I 105 0 (0 : Int32)) (fun I_2 => (some ((I_2 105 63), I_2, L)))) := by rw [g_294.eq_2, if_pos (show (0 : Nat) = 0 from rfl)]
set_option maxHeartbeats 8000000 in
set_option maxRecDepth 100000 in
theorem w_294 (X : GX) {z : Nat} {kd : Nat → Nat × Nat} {Rf : Nat → Nat → Option Nat} (hS : Sh z kd Rf) : ∀ (n dp d : Nat), dp ≤ d → ∀ (I : (Nat → Nat → Int32)) (L : (Nat → Nat → Int64)) (r : Int32) (I1 : (Nat → Nat → Int32)) (L1 : (Nat → Nat → Int64)), (g_294 n dp (z, kd, Rf) 0 I L = some (r, I1, L1) → K X d 294 0 0 (AI (fun x τ => x = r ∧ τ = (z, kd, I1, L1, Rf))) 0 [some (.ref 105)] [] (z, kd, I, L, Rf) 0 0) := by
  intro n
  induction n with
  | zero => intro dp d hdp I L r I1 L1; exact fun h => by cases h
  | succ n ih =>
    intro dp d hdp I L r I1 L1
    · intro h
      rw [e_294_0] at h
      refine K_of b_294_0 h_294_0 ?_
      refine q_aload rfl ?_
      refine q_iconst (0) (by decide) ?_
      refine q_putI (c0 := 12) (j := 0) rfl rfl (zl hS 105 (by decide)) (sk hS 105 (by decide) rfl) rfl ?_
      obtain ⟨I_2, nI_2, h⟩ := stI_some h
      refine q_nI nI_2 ?_
      refine q_aload rfl ?_
      refine q_getI (c0 := 12) (j := 63) rfl rfl (zl hS 105 (by decide)) (sk hS 105 (by decide) rfl) (Or.inl rfl) (by decide) ?_
      cases h
      exact q_iret rfl (Nat.le_refl _) (Nat.le_refl _) ⟨rfl, rfl⟩
theorem a_294 (X : GX) {z : Nat} {kd : Nat → Nat × Nat} {Rf : Nat → Nat → Option Nat} (hS : Sh z kd Rf) {n dp d : Nat} (hd : dp ≤ d) {I : (Nat → Nat → Int32)} {L : (Nat → Nat → Int64)} {I1 : (Nat → Nat → Int32)} {L1 : (Nat → Nat → Int64)} {r : Int32} (h : g_294 n dp (z, kd, Rf) 0 I L = some (r, I1, L1)) : Ct X d 294 0 0 [.ref 105] (z, kd, I, L, Rf) (AI (fun x τ => x = r ∧ τ = (z, kd, I1, L1, Rf))) :=
  Ct_of mu_294 (Nat.le_of_ble_eq_true rfl) ((w_294 X hS n dp d hd I L _ _ _) h)

/-! 295 CutFloorModel.mix(IIII)I -/
set_option maxHeartbeats 4000000 in
set_option maxRecDepth 100000 in
def g_295 : Nat → Nat → EN → Nat → (Nat → Nat → Int32) → (Nat → Nat → Int64) → Int32 → Int32 → Int32 → Int32 → Int32 → Int32 → Int32 → Int32 → Int32 → Int32 → Int32 → Int32 →  Option (Int32 × (Nat → Nat → Int32) × (Nat → Nat → Int64))
  | 0, _, _, _, _, _, _, _, _, _, _, _, _, _, _, _, _, _ => none
  | n + 1, dp, e, lab, I, L, i1, i2, i3, i4, i5, i6, i7, i8, i9, i10, i11, i12 =>
    if lab = 0 then (stI (u2 I 105 0 (0 : Int32)) (fun I_2 => (if 1 ≤ dp then (g_193 n (dp - 1) e 0 I_2 L (Int32.toInt64 i1) (1 : Int64) (1584 : Int64)).bind (fun ⟨x0_11, I0_11, L0_11⟩ => (if x0_11 = 0 then (some ((-1 : Int32), I0_11, L0_11)) else (if 1 ≤ dp then (g_193 n (dp - 1) e 0 I0_11 L0_11 (Int32.toInt64 i2) (1 : Int64) (1584 : Int64)).bind (fun ⟨x1_23, I1_23, L1_23⟩ => (if x1_23 = 0 then (some ((-1 : Int32), I1_23, L1_23)) else (if 1 ≤ dp then (g_193 n (dp - 1) e 0 I1_23 L1_23 (Int32.toInt64 i3) (0 : Int64) (100 : Int64)).bind (fun ⟨x2_35, I2_35, L2_35⟩ => (if x2_35 = 0 then (some ((-1 : Int32), I2_35, L2_35)) else (if 1 ≤ dp then (g_193 n (dp - 1) e 0 I2_35 L2_35 (Int32.toInt64 i4) (0 : Int64) (2 : Int64)).bind (fun ⟨x3_48, I3_48, L3_48⟩ => (if x3_48 = 0 then (some ((-1 : Int32), I3_48, L3_48)) else (g_295 n dp e 1 I3_48 L3_48 i1 i2 i3 i4 (0 : Int32) (1000000000 : Int32) (-1 : Int32) (0 : Int32) (0 : Int32) 0 0 0))) else none))) else none))) else none))) else none)))
    else if lab = 1 then (if (I 107 6) ≤ i9 then (g_295 n dp e 2 I L i1 i2 i3 i4 i5 i6 i7 i8 (1 : Int32) 0 0 0) else (if 1 ≤ dp then (g_292 n (dp - 1) e 0 I L i9 (6 : Int32)).bind (fun ⟨x0_92, I0_92, L0_92⟩ => (if x0_92 = (1 : Int32) then (stI (i8 ||| ((1 : Int32) <<< (i9 &&& 31))) (fun v_108 => (g_295 n dp e 1 I0_92 L0_92 i1 i2 i3 i4 i5 i6 i7 v_108 (i9 + Int32.ofInt (1)) 0 0 0))) else (g_295 n dp e 1 I0_92 L0_92 i1 i2 i3 i4 i5 i6 i7 (i8 ||| (0 : Int32)) (i9 + Int32.ofInt (1)) 0 0 0))) else none))
    else if lab = 2 then (if ((1 : Int32) <<< ((I 107 6) &&& 31)) ≤ i9 then (if i4 = (2 : Int32) then (some (i5, I, L)) else (if i7 = (-1 : Int32) then (some ((-1 : Int32), I, L)) else (if i4 = 0 then (some (i6, I, L)) else (some (i7, I, L))))) else (if (i9 &&& (i8 ^^^ (-1 : Int32))) = 0 then (g_295 n dp e 3 I L i1 i2 i3 i4 i5 i6 i7 i8 i9 (0 : Int32) (0 : Int32) (0 : Int32)) else (g_295 n dp e 5 I L i1 i2 i3 i4 i5 i6 i7 i8 i9 0 0 0)))
    else if lab = 3 then (if (I 107 6) ≤ i12 then (if 1 ≤ dp then (g_193 n (dp - 1) e 0 I L (Int32.toInt64 i10) (Int32.toInt64 i1) (Int32.toInt64 i2)).bind (fun ⟨x0_219, I0_219, L0_219⟩ => (if x0_219 = 0 then (g_295 n dp e 5 I0_219 L0_219 i1 i2 i3 i4 i5 i6 i7 i8 i9 0 0 0) else (if i11 < (i3 * i10) then (g_295 n dp e 5 I0_219 L0_219 i1 i2 i3 i4 i5 i6 i7 i8 i9 0 0 0) else (if i6 ≤ (i11 - (i3 * i10)) then (if i6 ≤ (i11 - (i3 * i10)) then (g_295 n dp e 5 I0_219 L0_219 i1 i2 i3 i4 (i5 + Int32.ofInt (1)) i6 i7 i8 i9 0 0 0) else (g_295 n dp e 5 I0_219 L0_219 i1 i2 i3 i4 (i5 + Int32.ofInt (1)) (i11 - (i3 * i10)) i7 i8 i9 0 0 0)) else (if i6 ≤ (i11 - (i3 * i10)) then (g_295 n dp e 5 I0_219 L0_219 i1 i2 i3 i4 (i5 + Int32.ofInt (1)) i6 i9 i8 i9 0 0 0) else (g_295 n dp e 5 I0_219 L0_219 i1 i2 i3 i4 (i5 + Int32.ofInt (1)) (i11 - (i3 * i10)) i9 i8 i9 0 0 0)))))) else none) else (if 1 ≤ dp then (g_287 n (dp - 1) e 0 I L i9 i12).bind (fun ⟨x0_168, I0_168, L0_168⟩ => (if x0_168 = 0 then (g_295 n dp e 4 I0_168 L0_168 i1 i2 i3 i4 i5 i6 i7 i8 i9 i10 i11 i12) else (if 1 ≤ dp then (g_292 n (dp - 1) e 0 I0_168 L0_168 i12 (0 : Int32)).bind (fun ⟨x1_180, I1_180, L1_180⟩ => (if 1 ≤ dp then (g_292 n (dp - 1) e 0 I1_180 L1_180 i12 (0 : Int32)).bind (fun ⟨x2_192, I2_192, L2_192⟩ => (if 1 ≤ dp then (g_292 n (dp - 1) e 0 I2_192 L2_192 i12 (1 : Int32)).bind (fun ⟨x3_199, I3_199, L3_199⟩ => (stI (i11 + (x2_192 * x3_199)) (fun v_204 => (g_295 n dp e 4 I3_199 L3_199 i1 i2 i3 i4 i5 i6 i7 i8 i9 (i10 + x1_180) v_204 i12)))) else none)) else none)) else none))) else none))
    else if lab = 4 then (g_295 n dp e 3 I L i1 i2 i3 i4 i5 i6 i7 i8 i9 i10 i11 (i12 + Int32.ofInt (1)))
    else if lab = 5 then (g_295 n dp e 2 I L i1 i2 i3 i4 i5 i6 i7 i8 (i9 + Int32.ofInt (1)) 0 0 0)
    else none
set_option maxRecDepth 100000 in
theorem e_295_0 (n dp : Nat) (e : EN) (I : (Nat → Nat → Int32)) (L : (Nat → Nat → Int64)) (i1 : Int32) (i2 : Int32) (i3 : Int32) (i4 : Int32) (i5 : Int32) (i6 : Int32) (i7 : Int32) (i8 : Int32) (i9 : Int32) (i10 : Int32) (i11 : Int32) (i12 : Int32) : g_295 (n + 1) dp e 0 I L i1 i2 i3 i4 i5 i6 i7 i8 i9 i10 i11 i12 = (stI (u2 I 105 0 (0 : Int32)) (fun I_2 => (if 1 ≤ dp then (g_193 n (dp - 1) e 0 I_2 L (Int32.toInt64 i1) (1 : Int64) (1584 : Int64)).bind (fun ⟨x0_11, I0_11, L0_11⟩ => (if x0_11 = 0 then (some ((-1 : Int32), I0_11, L0_11)) else (if 1 ≤ dp then (g_193 n (dp - 1) e 0 I0_11 L0_11 (Int32.toInt64 i2) (1 : Int64) (1584 : Int64)).bind (fun ⟨x1_23, I1_23, L1_23⟩ => (if x1_23 = 0 then (some ((-1 : Int32), I1_23, L1_23)) else (if 1 ≤ dp then (g_193 n (dp - 1) e 0 I1_23 L1_23 (Int32.toInt64 i3) (0 : Int64) (100 : Int64)).bind (fun ⟨x2_35, I2_35, L2_35⟩ => (if x2_35 = 0 then (some ((-1 : Int32), I2_35, L2_35)) else (if 1 ≤ dp then (g_193 n (dp - 1) e 0 I2_35 L2_35 (Int32.toInt64 i4) (0 : Int64) (2 : Int64)).bind (fun ⟨x3_48, I3_48, L3_48⟩ => (if x3_48 = 0 then (some ((-1 : Int32), I3_48, L3_48)) else (g_295 n dp e 1 I3_48 L3_48 i1 i2 i3 i4 (0 : Int32) (1000000000 : Int32) (-1 : Int32) (0 : Int32) (0 : Int32) 0 0 0))) else none))) else none))) else none))) else none))) := by rw [g_295.eq_2, if_pos (show (0 : Nat) = 0 from rfl)]
set_option maxRecDepth 100000 in
theorem e_295_1 (n dp : Nat) (e : EN) (I : (Nat → Nat → Int32)) (L : (Nat → Nat → Int64)) (i1 : Int32) (i2 : Int32) (i3 : Int32) (i4 : Int32) (i5 : Int32) (i6 : Int32) (i7 : Int32) (i8 : Int32) (i9 : Int32) (i10 : Int32) (i11 : Int32) (i12 : Int32) : g_295 (n + 1) dp e 1 I L i1 i2 i3 i4 i5 i6 i7 i8 i9 i10 i11 i12 = (if (I 107 6) ≤ i9 then (g_295 n dp e 2 I L i1 i2 i3 i4 i5 i6 i7 i8 (1 : Int32) 0 0 0) else (if 1 ≤ dp then (g_292 n (dp - 1) e 0 I L i9 (6 : Int32)).bind (fun ⟨x0_92, I0_92, L0_92⟩ => (if x0_92 = (1 : Int32) then (stI (i8 ||| ((1 : Int32) <<< (i9 &&& 31))) (fun v_108 => (g_295 n dp e 1 I0_92 L0_92 i1 i2 i3 i4 i5 i6 i7 v_108 (i9 + Int32.ofInt (1)) 0 0 0))) else (g_295 n dp e 1 I0_92 L0_92 i1 i2 i3 i4 i5 i6 i7 (i8 ||| (0 : Int32)) (i9 + Int32.ofInt (1)) 0 0 0))) else none)) := by rw [g_295.eq_2, if_neg (show ¬ ((1 : Nat) = 0) by decide), if_pos (show (1 : Nat) = 1 from rfl)]
set_option maxRecDepth 100000 in
theorem e_295_2 (n dp : Nat) (e : EN) (I : (Nat → Nat → Int32)) (L : (Nat → Nat → Int64)) (i1 : Int32) (i2 : Int32) (i3 : Int32) (i4 : Int32) (i5 : Int32) (i6 : Int32) (i7 : Int32) (i8 : Int32) (i9 : Int32) (i10 : Int32) (i11 : Int32) (i12 : Int32) : g_295 (n + 1) dp e 2 I L i1 i2 i3 i4 i5 i6 i7 i8 i9 i10 i11 i12 = (if ((1 : Int32) <<< ((I 107 6) &&& 31)) ≤ i9 then (if i4 = (2 : Int32) then (some (i5, I, L)) else (if i7 = (-1 : Int32) then (some ((-1 : Int32), I, L)) else (if i4 = 0 then (some (i6, I, L)) else (some (i7, I, L))))) else (if (i9 &&& (i8 ^^^ (-1 : Int32))) = 0 then (g_295 n dp e 3 I L i1 i2 i3 i4 i5 i6 i7 i8 i9 (0 : Int32) (0 : Int32) (0 : Int32)) else (g_295 n dp e 5 I L i1 i2 i3 i4 i5 i6 i7 i8 i9 0 0 0))) := by rw [g_295.eq_2, if_neg (show ¬ ((2 : Nat) = 0) by decide), if_neg (show ¬ ((2 : Nat) = 1) by decide), if_pos (show (2 : Nat) = 2 from rfl)]
set_option maxRecDepth 100000 in
theorem e_295_3 (n dp : Nat) (e : EN) (I : (Nat → Nat → Int32)) (L : (Nat → Nat → Int64)) (i1 : Int32) (i2 : Int32) (i3 : Int32) (i4 : Int32) (i5 : Int32) (i6 : Int32) (i7 : Int32) (i8 : Int32) (i9 : Int32) (i10 : Int32) (i11 : Int32) (i12 : Int32) : g_295 (n + 1) dp e 3 I L i1 i2 i3 i4 i5 i6 i7 i8 i9 i10 i11 i12 = (if (I 107 6) ≤ i12 then (if 1 ≤ dp then (g_193 n (dp - 1) e 0 I L (Int32.toInt64 i10) (Int32.toInt64 i1) (Int32.toInt64 i2)).bind (fun ⟨x0_219, I0_219, L0_219⟩ => (if x0_219 = 0 then (g_295 n dp e 5 I0_219 L0_219 i1 i2 i3 i4 i5 i6 i7 i8 i9 0 0 0) else (if i11 < (i3 * i10) then (g_295 n dp e 5 I0_219 L0_219 i1 i2 i3 i4 i5 i6 i7 i8 i9 0 0 0) else (if i6 ≤ (i11 - (i3 * i10)) then (if i6 ≤ (i11 - (i3 * i10)) then (g_295 n dp e 5 I0_219 L0_219 i1 i2 i3 i4 (i5 + Int32.ofInt (1)) i6 i7 i8 i9 0 0 0) else (g_295 n dp e 5 I0_219 L0_219 i1 i2 i3 i4 (i5 + Int32.ofInt (1)) (i11 - (i3 * i10)) i7 i8 i9 0 0 0)) else (if i6 ≤ (i11 - (i3 * i10)) then (g_295 n dp e 5 I0_219 L0_219 i1 i2 i3 i4 (i5 + Int32.ofInt (1)) i6 i9 i8 i9 0 0 0) else (g_295 n dp e 5 I0_219 L0_219 i1 i2 i3 i4 (i5 + Int32.ofInt (1)) (i11 - (i3 * i10)) i9 i8 i9 0 0 0)))))) else none) else (if 1 ≤ dp then (g_287 n (dp - 1) e 0 I L i9 i12).bind (fun ⟨x0_168, I0_168, L0_168⟩ => (if x0_168 = 0 then (g_295 n dp e 4 I0_168 L0_168 i1 i2 i3 i4 i5 i6 i7 i8 i9 i10 i11 i12) else (if 1 ≤ dp then (g_292 n (dp - 1) e 0 I0_168 L0_168 i12 (0 : Int32)).bind (fun ⟨x1_180, I1_180, L1_180⟩ => (if 1 ≤ dp then (g_292 n (dp - 1) e 0 I1_180 L1_180 i12 (0 : Int32)).bind (fun ⟨x2_192, I2_192, L2_192⟩ => (if 1 ≤ dp then (g_292 n (dp - 1) e 0 I2_192 L2_192 i12 (1 : Int32)).bind (fun ⟨x3_199, I3_199, L3_199⟩ => (stI (i11 + (x2_192 * x3_199)) (fun v_204 => (g_295 n dp e 4 I3_199 L3_199 i1 i2 i3 i4 i5 i6 i7 i8 i9 (i10 + x1_180) v_204 i12)))) else none)) else none)) else none))) else none)) := by rw [g_295.eq_2, if_neg (show ¬ ((3 : Nat) = 0) by decide), if_neg (show ¬ ((3 : Nat) = 1) by decide), if_neg (show ¬ ((3 : Nat) = 2) by decide), if_pos (show (3 : Nat) = 3 from rfl)]
set_option maxRecDepth 100000 in
theorem e_295_4 (n dp : Nat) (e : EN) (I : (Nat → Nat → Int32)) (L : (Nat → Nat → Int64)) (i1 : Int32) (i2 : Int32) (i3 : Int32) (i4 : Int32) (i5 : Int32) (i6 : Int32) (i7 : Int32) (i8 : Int32) (i9 : Int32) (i10 : Int32) (i11 : Int32) (i12 : Int32) : g_295 (n + 1) dp e 4 I L i1 i2 i3 i4 i5 i6 i7 i8 i9 i10 i11 i12 = (g_295 n dp e 3 I L i1 i2 i3 i4 i5 i6 i7 i8 i9 i10 i11 (i12 + Int32.ofInt (1))) := by rw [g_295.eq_2, if_neg (show ¬ ((4 : Nat) = 0) by decide), if_neg (show ¬ ((4 : Nat) = 1) by decide), if_neg (show ¬ ((4 : Nat) = 2) by decide), if_neg (show ¬ ((4 : Nat) = 3) by decide), if_pos (show (4 : Nat) = 4 from rfl)]
set_option maxRecDepth 100000 in
theorem e_295_5 (n dp : Nat) (e : EN) (I : (Nat → Nat → Int32)) (L : (Nat → Nat → Int64)) (i1 : Int32) (i2 : Int32) (i3 : Int32) (i4 : Int32) (i5 : Int32) (i6 : Int32) (i7 : Int32) (i8 : Int32) (i9 : Int32) (i10 : Int32) (i11 : Int32) (i12 : Int32) : g_295 (n + 1) dp e 5 I L i1 i2 i3 i4 i5 i6 i7 i8 i9 i10 i11 i12 = (g_295 n dp e 2 I L i1 i2 i3 i4 i5 i6 i7 i8 (i9 + Int32.ofInt (1)) 0 0 0) := by rw [g_295.eq_2, if_neg (show ¬ ((5 : Nat) = 0) by decide), if_neg (show ¬ ((5 : Nat) = 1) by decide), if_neg (show ¬ ((5 : Nat) = 2) by decide), if_neg (show ¬ ((5 : Nat) = 3) by decide), if_neg (show ¬ ((5 : Nat) = 4) by decide), if_pos (show (5 : Nat) = 5 from rfl)]
set_option maxHeartbeats 8000000 in
set_option maxRecDepth 100000 in
theorem w_295 (X : GX) {z : Nat} {kd : Nat → Nat × Nat} {Rf : Nat → Nat → Option Nat} (hS : Sh z kd Rf) : ∀ (n dp d : Nat), dp ≤ d → ∀ (I : (Nat → Nat → Int32)) (L : (Nat → Nat → Int64)) (i1 : Int32) (i2 : Int32) (i3 : Int32) (i4 : Int32) (i5 : Int32) (i6 : Int32) (i7 : Int32) (i8 : Int32) (i9 : Int32) (i10 : Int32) (i11 : Int32) (i12 : Int32) (r : Int32) (I1 : (Nat → Nat → Int32)) (L1 : (Nat → Nat → Int64)), (g_295 n dp (z, kd, Rf) 0 I L i1 i2 i3 i4 i5 i6 i7 i8 i9 i10 i11 i12 = some (r, I1, L1) → K X d 295 0 0 (AI (fun x τ => x = r ∧ τ = (z, kd, I1, L1, Rf))) 0 [some (.ref 105), some (.int i1), some (.int i2), some (.int i3), some (.int i4), none, none, none, none, none, none, none, none] [] (z, kd, I, L, Rf) 0 0) ∧
    (g_295 n dp (z, kd, Rf) 1 I L i1 i2 i3 i4 i5 i6 i7 i8 i9 i10 i11 i12 = some (r, I1, L1) → K X d 295 0 0 (AI (fun x τ => x = r ∧ τ = (z, kd, I1, L1, Rf))) 73 [some (.ref 105), some (.int i1), some (.int i2), some (.int i3), some (.int i4), some (.int i5), some (.int i6), some (.int i7), some (.int i8), some (.int i9), none, none, none] [] (z, kd, I, L, Rf) 0 0) ∧
    (g_295 n dp (z, kd, Rf) 2 I L i1 i2 i3 i4 i5 i6 i7 i8 i9 i10 i11 i12 = some (r, I1, L1) → K X d 295 0 0 (AI (fun x τ => x = r ∧ τ = (z, kd, I1, L1, Rf))) 119 [some (.ref 105), some (.int i1), some (.int i2), some (.int i3), some (.int i4), some (.int i5), some (.int i6), some (.int i7), some (.int i8), some (.int i9), none, none, none] [] (z, kd, I, L, Rf) 0 0) ∧
    (g_295 n dp (z, kd, Rf) 3 I L i1 i2 i3 i4 i5 i6 i7 i8 i9 i10 i11 i12 = some (r, I1, L1) → K X d 295 0 0 (AI (fun x τ => x = r ∧ τ = (z, kd, I1, L1, Rf))) 152 [some (.ref 105), some (.int i1), some (.int i2), some (.int i3), some (.int i4), some (.int i5), some (.int i6), some (.int i7), some (.int i8), some (.int i9), some (.int i10), some (.int i11), some (.int i12)] [] (z, kd, I, L, Rf) 0 0) ∧
    (g_295 n dp (z, kd, Rf) 4 I L i1 i2 i3 i4 i5 i6 i7 i8 i9 i10 i11 i12 = some (r, I1, L1) → K X d 295 0 0 (AI (fun x τ => x = r ∧ τ = (z, kd, I1, L1, Rf))) 206 [some (.ref 105), some (.int i1), some (.int i2), some (.int i3), some (.int i4), some (.int i5), some (.int i6), some (.int i7), some (.int i8), some (.int i9), some (.int i10), some (.int i11), some (.int i12)] [] (z, kd, I, L, Rf) 0 0) ∧
    (g_295 n dp (z, kd, Rf) 5 I L i1 i2 i3 i4 i5 i6 i7 i8 i9 i10 i11 i12 = some (r, I1, L1) → K X d 295 0 0 (AI (fun x τ => x = r ∧ τ = (z, kd, I1, L1, Rf))) 278 [some (.ref 105), some (.int i1), some (.int i2), some (.int i3), some (.int i4), some (.int i5), some (.int i6), some (.int i7), some (.int i8), some (.int i9), none, none, none] [] (z, kd, I, L, Rf) 0 0) := by
  intro n
  induction n with
  | zero => intro dp d hdp I L i1 i2 i3 i4 i5 i6 i7 i8 i9 i10 i11 i12 r I1 L1; exact ⟨(fun h => by cases h), (fun h => by cases h), (fun h => by cases h), (fun h => by cases h), (fun h => by cases h), (fun h => by cases h)⟩
  | succ n ih =>
    intro dp d hdp I L i1 i2 i3 i4 i5 i6 i7 i8 i9 i10 i11 i12 r I1 L1
    refine ⟨?_, ?_, ?_, ?_, ?_, ?_⟩
    · intro h
      rw [e_295_0] at h
      refine K_of b_295_0 h_295_0 ?_
      refine q_aload rfl ?_
      refine q_iconst (0) (by decide) ?_
      refine q_putI (c0 := 12) (j := 0) rfl rfl (zl hS 105 (by decide)) (sk hS 105 (by decide) rfl) rfl ?_
      obtain ⟨I_2, nI_2, h⟩ := stI_some h
      refine q_nI nI_2 ?_
      refine q_iload rfl ?_
      refine q_i2l ?_
      refine q_lconst (1) (by decide) ?_
      refine q_lconst (1584) (by decide) ?_
      obtain ⟨d_11, h⟩ := ite_some h
      obtain ⟨⟨x0_11, I0_11, L0_11⟩, e_11, h⟩ := Option.bind_eq_some_iff.mp h
      dsimp only at h
      refine q_fs3I (a_193 X hS (d := d - 1) (by omega) e_11) (by omega) (Nat.le_refl _) (Nat.le_refl _) rfl (Nat.le_of_ble_eq_true rfl) ?_
      refine q_if_eq (fun c_14 => ?_) (fun c_14 => ?_)
      · rw [if_pos c_14] at h
        refine K_of b_295_54 h_295_54 ?_
        refine q_iconst (-1) (by decide) ?_
        cases h
        exact q_iret rfl (Nat.le_refl _) (Nat.le_refl _) ⟨rfl, rfl⟩
      · rw [if_neg c_14] at h
        refine q_iload rfl ?_
        refine q_i2l ?_
        refine q_lconst (1) (by decide) ?_
        refine q_lconst (1584) (by decide) ?_
        obtain ⟨d_23, h⟩ := ite_some h
        obtain ⟨⟨x1_23, I1_23, L1_23⟩, e_23, h⟩ := Option.bind_eq_some_iff.mp h
        dsimp only at h
        refine q_fs3I (a_193 X hS (d := d - 1) (by omega) e_23) (by omega) (Nat.le_refl _) (Nat.le_refl _) rfl (Nat.le_of_ble_eq_true rfl) ?_
        refine q_if_eq (fun c_26 => ?_) (fun c_26 => ?_)
        · rw [if_pos c_26] at h
          refine K_of b_295_54 h_295_54 ?_
          refine q_iconst (-1) (by decide) ?_
          cases h
          exact q_iret rfl (Nat.le_refl _) (Nat.le_refl _) ⟨rfl, rfl⟩
        · rw [if_neg c_26] at h
          refine q_iload rfl ?_
          refine q_i2l ?_
          refine q_lconst (0) (by decide) ?_
          refine q_lconst (100) (by decide) ?_
          obtain ⟨d_35, h⟩ := ite_some h
          obtain ⟨⟨x2_35, I2_35, L2_35⟩, e_35, h⟩ := Option.bind_eq_some_iff.mp h
          dsimp only at h
          refine q_fs3I (a_193 X hS (d := d - 1) (by omega) e_35) (by omega) (Nat.le_refl _) (Nat.le_refl _) rfl (Nat.le_of_ble_eq_true rfl) ?_
          refine q_if_eq (fun c_38 => ?_) (fun c_38 => ?_)
          · rw [if_pos c_38] at h
            refine K_of b_295_54 h_295_54 ?_
            refine q_iconst (-1) (by decide) ?_
            cases h
            exact q_iret rfl (Nat.le_refl _) (Nat.le_refl _) ⟨rfl, rfl⟩
          · rw [if_neg c_38] at h
            refine q_iload rfl ?_
            refine q_i2l ?_
            refine q_lconst (0) (by decide) ?_
            refine q_lconst (2) (by decide) ?_
            obtain ⟨d_48, h⟩ := ite_some h
            obtain ⟨⟨x3_48, I3_48, L3_48⟩, e_48, h⟩ := Option.bind_eq_some_iff.mp h
            dsimp only at h
            refine q_fs3I (a_193 X hS (d := d - 1) (by omega) e_48) (by omega) (Nat.le_refl _) (Nat.le_refl _) rfl (Nat.le_of_ble_eq_true rfl) ?_
            refine q_if_ne (fun c_51 => ?_) (fun c_51 => ?_)
            · rw [if_neg c_51] at h
              refine K_of b_295_56 h_295_56 ?_
              refine q_iconst (0) (by decide) ?_
              refine q_istore (Nat.le_of_ble_eq_true rfl) rfl ?_
              refine q_iconst (1000000000) (by decide) ?_
              refine q_istore (Nat.le_of_ble_eq_true rfl) rfl ?_
              refine q_iconst (-1) (by decide) ?_
              refine q_istore (Nat.le_of_ble_eq_true rfl) rfl ?_
              refine q_iconst (0) (by decide) ?_
              refine q_istore (Nat.le_of_ble_eq_true rfl) rfl ?_
              refine q_iconst (0) (by decide) ?_
              refine q_istore (Nat.le_of_ble_eq_true rfl) rfl ?_
              refine q_end ?_
              exact (ih dp d hdp _ _ i1 i2 i3 i4 (0 : Int32) (1000000000 : Int32) (-1 : Int32) (0 : Int32) (0 : Int32) 0 0 0 _ _ _).2.1 h
            · rw [if_pos c_51] at h
              refine q_end ?_
              refine K_of b_295_54 h_295_54 ?_
              refine q_iconst (-1) (by decide) ?_
              cases h
              exact q_iret rfl (Nat.le_refl _) (Nat.le_refl _) ⟨rfl, rfl⟩
    · intro h
      rw [e_295_1] at h
      refine K_of b_295_73 h_295_73 ?_
      refine q_iload rfl ?_
      refine q_aload rfl ?_
      refine q_getRs (c0 := 12) (j := 3) rfl rfl (zl hS 105 (by decide)) (sk hS 105 (by decide) rfl) rfl (by decide) (r_105_3 hS) ?_
      refine q_iconst (6) (by decide) ?_
      refine q_ialN (6) rfl (zl hS 107 (by decide)) (sk hS 107 (by decide) rfl) (by decide) (by decide) ?_
      refine q_icmp_ge (fun c_82 => ?_) (fun c_82 => ?_)
      · rw [if_pos c_82] at h
        refine K_of b_295_116 h_295_116 ?_
        refine q_iconst (1) (by decide) ?_
        refine q_istore (Nat.le_of_ble_eq_true rfl) rfl ?_
        refine q_end ?_
        exact (ih dp d hdp _ _ i1 i2 i3 i4 i5 i6 i7 i8 (1 : Int32) 0 0 0 _ _ _).2.2.1 h
      · rw [if_neg c_82] at h
        refine q_iload rfl ?_
        refine q_aload rfl ?_
        refine q_iload rfl ?_
        refine q_iconst (6) (by decide) ?_
        obtain ⟨d_92, h⟩ := ite_some h
        obtain ⟨⟨x0_92, I0_92, L0_92⟩, e_92, h⟩ := Option.bind_eq_some_iff.mp h
        dsimp only at h
        refine q_fv3I (a_292 X hS (d := d - 1) (by omega) e_92) (by omega) (Nat.le_refl _) (Nat.le_refl _) rfl (Nat.le_of_ble_eq_true rfl) ⟨(zl hS 105 (by decide)), congrArg Prod.fst (sk hS 105 (by decide) rfl), by decide⟩ ?_
        refine q_iconst (1) (by decide) ?_
        refine q_icmp_ne (fun c_96 => ?_) (fun c_96 => ?_)
        · rw [if_neg c_96] at h
          refine K_of b_295_106 h_295_106 ?_
          refine q_iconst (0) (by decide) ?_
          refine q_end ?_
          refine K_of b_295_107 h_295_107 ?_
          refine q_ior ?_
          refine q_istore (Nat.le_of_ble_eq_true rfl) rfl ?_
          refine q_iinc rfl rfl ?_
          refine q_goto ?_
          exact (ih dp d hdp _ _ i1 i2 i3 i4 i5 i6 i7 (i8 ||| (0 : Int32)) (i9 + Int32.ofInt (1)) 0 0 0 _ _ _).2.1 h
        · rw [if_pos c_96] at h
          refine q_iconst (1) (by decide) ?_
          refine q_iload rfl ?_
          refine q_ishl ?_
          refine q_goto ?_
          refine K_of b_295_107 h_295_107 ?_
          refine q_ior ?_
          obtain ⟨v_108, nv_108, h⟩ := stI_some h
          refine q_eqi nv_108.symm ?_
          refine q_istore (Nat.le_of_ble_eq_true rfl) rfl ?_
          refine q_iinc rfl rfl ?_
          refine q_goto ?_
          exact (ih dp d hdp _ _ i1 i2 i3 i4 i5 i6 i7 v_108 (i9 + Int32.ofInt (1)) 0 0 0 _ _ _).2.1 h
    · intro h
      rw [e_295_2] at h
      refine K_of b_295_119 h_295_119 ?_
      refine q_iload rfl ?_
      refine q_iconst (1) (by decide) ?_
      refine q_aload rfl ?_
      refine q_getRs (c0 := 12) (j := 3) rfl rfl (zl hS 105 (by decide)) (sk hS 105 (by decide) rfl) rfl (by decide) (r_105_3 hS) ?_
      refine q_iconst (6) (by decide) ?_
      refine q_ialN (6) rfl (zl hS 107 (by decide)) (sk hS 107 (by decide) rfl) (by decide) (by decide) ?_
      refine q_ishl ?_
      refine q_icmp_ge (fun c_130 => ?_) (fun c_130 => ?_)
      · rw [if_pos c_130] at h
        refine K_of b_295_284 h_295_284 ?_
        refine q_iload rfl ?_
        refine q_iconst (2) (by decide) ?_
        refine q_icmp_ne (fun c_287 => ?_) (fun c_287 => ?_)
        · rw [if_neg c_287] at h
          refine K_of b_295_295 h_295_295 ?_
          refine q_iload rfl ?_
          refine q_iconst (-1) (by decide) ?_
          refine q_icmp_ne (fun c_298 => ?_) (fun c_298 => ?_)
          · rw [if_neg c_298] at h
            refine K_of b_295_305 h_295_305 ?_
            refine q_iload rfl ?_
            refine q_if_ne (fun c_307 => ?_) (fun c_307 => ?_)
            · rw [if_neg c_307] at h
              refine K_of b_295_315 h_295_315 ?_
              refine q_iload rfl ?_
              refine q_end ?_
              refine K_of b_295_317 h_295_317 ?_
              cases h
              exact q_iret rfl (Nat.le_refl _) (Nat.le_refl _) ⟨rfl, rfl⟩
            · rw [if_pos c_307] at h
              refine q_iload rfl ?_
              refine q_goto ?_
              refine K_of b_295_317 h_295_317 ?_
              cases h
              exact q_iret rfl (Nat.le_refl _) (Nat.le_refl _) ⟨rfl, rfl⟩
          · rw [if_pos c_298] at h
            refine q_iconst (-1) (by decide) ?_
            refine q_goto ?_
            refine K_of b_295_317 h_295_317 ?_
            cases h
            exact q_iret rfl (Nat.le_refl _) (Nat.le_refl _) ⟨rfl, rfl⟩
        · rw [if_pos c_287] at h
          refine q_iload rfl ?_
          refine q_goto ?_
          refine K_of b_295_317 h_295_317 ?_
          cases h
          exact q_iret rfl (Nat.le_refl _) (Nat.le_refl _) ⟨rfl, rfl⟩
      · rw [if_neg c_130] at h
        refine q_iload rfl ?_
        refine q_iload rfl ?_
        refine q_iconst (-1) (by decide) ?_
        refine q_ixor ?_
        refine q_iand ?_
        refine q_if_ne (fun c_140 => ?_) (fun c_140 => ?_)
        · rw [if_neg c_140] at h
          exact (ih dp d hdp _ _ i1 i2 i3 i4 i5 i6 i7 i8 i9 0 0 0 _ _ _).2.2.2.2.2 h
        · rw [if_pos c_140] at h
          refine q_iconst (0) (by decide) ?_
          refine q_istore (Nat.le_of_ble_eq_true rfl) rfl ?_
          refine q_iconst (0) (by decide) ?_
          refine q_istore (Nat.le_of_ble_eq_true rfl) rfl ?_
          refine q_iconst (0) (by decide) ?_
          refine q_istore (Nat.le_of_ble_eq_true rfl) rfl ?_
          refine q_end ?_
          exact (ih dp d hdp _ _ i1 i2 i3 i4 i5 i6 i7 i8 i9 (0 : Int32) (0 : Int32) (0 : Int32) _ _ _).2.2.2.1 h
    · intro h
      rw [e_295_3] at h
      refine K_of b_295_152 h_295_152 ?_
      refine q_iload rfl ?_
      refine q_aload rfl ?_
      refine q_getRs (c0 := 12) (j := 3) rfl rfl (zl hS 105 (by decide)) (sk hS 105 (by decide) rfl) rfl (by decide) (r_105_3 hS) ?_
      refine q_iconst (6) (by decide) ?_
      refine q_ialN (6) rfl (zl hS 107 (by decide)) (sk hS 107 (by decide) rfl) (by decide) (by decide) ?_
      refine q_icmp_ge (fun c_161 => ?_) (fun c_161 => ?_)
      · rw [if_pos c_161] at h
        refine K_of b_295_212 h_295_212 ?_
        refine q_iload rfl ?_
        refine q_i2l ?_
        refine q_iload rfl ?_
        refine q_i2l ?_
        refine q_iload rfl ?_
        refine q_i2l ?_
        obtain ⟨d_219, h⟩ := ite_some h
        obtain ⟨⟨x0_219, I0_219, L0_219⟩, e_219, h⟩ := Option.bind_eq_some_iff.mp h
        dsimp only at h
        refine q_fs3I (a_193 X hS (d := d - 1) (by omega) e_219) (by omega) (Nat.le_refl _) (Nat.le_refl _) rfl (Nat.le_of_ble_eq_true rfl) ?_
        refine q_if_eq (fun c_222 => ?_) (fun c_222 => ?_)
        · rw [if_pos c_222] at h
          refine K_mask [true, true, true, true, true, true, true, true, true, true, false, false, false] (Nat.le_of_ble_eq_true rfl) ?_
          exact (ih dp d hdp _ _ i1 i2 i3 i4 i5 i6 i7 i8 i9 0 0 0 _ _ _).2.2.2.2.2 h
        · rw [if_neg c_222] at h
          refine q_iload rfl ?_
          refine q_iload rfl ?_
          refine q_iload rfl ?_
          refine q_imul ?_
          refine q_icmp_lt (fun c_231 => ?_) (fun c_231 => ?_)
          · rw [if_pos c_231] at h
            refine K_mask [true, true, true, true, true, true, true, true, true, true, false, false, false] (Nat.le_of_ble_eq_true rfl) ?_
            exact (ih dp d hdp _ _ i1 i2 i3 i4 i5 i6 i7 i8 i9 0 0 0 _ _ _).2.2.2.2.2 h
          · rw [if_neg c_231] at h
            refine q_iinc rfl rfl ?_
            refine q_iload rfl ?_
            refine q_iload rfl ?_
            refine q_iload rfl ?_
            refine q_imul ?_
            refine q_isub ?_
            refine q_istore (Nat.le_of_ble_eq_true rfl) rfl ?_
            refine q_iload rfl ?_
            refine q_iload rfl ?_
            refine q_icmp_ge (fun c_250 => ?_) (fun c_250 => ?_)
            · rw [if_pos c_250] at h
              refine K_of b_295_258 h_295_258 ?_
              refine q_iload rfl ?_
              refine q_end ?_
              refine K_of b_295_260 h_295_260 ?_
              refine q_istore (Nat.le_of_ble_eq_true rfl) rfl ?_
              refine q_iload rfl ?_
              refine q_iload rfl ?_
              refine q_icmp_ge (fun c_266 => ?_) (fun c_266 => ?_)
              · rw [if_pos c_266] at h
                refine K_of b_295_274 h_295_274 ?_
                refine q_iload rfl ?_
                refine q_end ?_
                refine K_of b_295_276 h_295_276 ?_
                refine q_istore (Nat.le_of_ble_eq_true rfl) rfl ?_
                refine q_end ?_
                refine K_mask [true, true, true, true, true, true, true, true, true, true, false, false, false] (Nat.le_of_ble_eq_true rfl) ?_
                exact (ih dp d hdp _ _ i1 i2 i3 i4 (i5 + Int32.ofInt (1)) i6 i7 i8 i9 0 0 0 _ _ _).2.2.2.2.2 h
              · rw [if_neg c_266] at h
                refine q_iload rfl ?_
                refine q_goto ?_
                refine K_of b_295_276 h_295_276 ?_
                refine q_istore (Nat.le_of_ble_eq_true rfl) rfl ?_
                refine q_end ?_
                refine K_mask [true, true, true, true, true, true, true, true, true, true, false, false, false] (Nat.le_of_ble_eq_true rfl) ?_
                exact (ih dp d hdp _ _ i1 i2 i3 i4 (i5 + Int32.ofInt (1)) (i11 - (i3 * i10)) i7 i8 i9 0 0 0 _ _ _).2.2.2.2.2 h
            · rw [if_neg c_250] at h
              refine q_iload rfl ?_
              refine q_goto ?_
              refine K_of b_295_260 h_295_260 ?_
              refine q_istore (Nat.le_of_ble_eq_true rfl) rfl ?_
              refine q_iload rfl ?_
              refine q_iload rfl ?_
              refine q_icmp_ge (fun c_266 => ?_) (fun c_266 => ?_)
              · rw [if_pos c_266] at h
                refine K_of b_295_274 h_295_274 ?_
                refine q_iload rfl ?_
                refine q_end ?_
                refine K_of b_295_276 h_295_276 ?_
                refine q_istore (Nat.le_of_ble_eq_true rfl) rfl ?_
                refine q_end ?_
                refine K_mask [true, true, true, true, true, true, true, true, true, true, false, false, false] (Nat.le_of_ble_eq_true rfl) ?_
                exact (ih dp d hdp _ _ i1 i2 i3 i4 (i5 + Int32.ofInt (1)) i6 i9 i8 i9 0 0 0 _ _ _).2.2.2.2.2 h
              · rw [if_neg c_266] at h
                refine q_iload rfl ?_
                refine q_goto ?_
                refine K_of b_295_276 h_295_276 ?_
                refine q_istore (Nat.le_of_ble_eq_true rfl) rfl ?_
                refine q_end ?_
                refine K_mask [true, true, true, true, true, true, true, true, true, true, false, false, false] (Nat.le_of_ble_eq_true rfl) ?_
                exact (ih dp d hdp _ _ i1 i2 i3 i4 (i5 + Int32.ofInt (1)) (i11 - (i3 * i10)) i9 i8 i9 0 0 0 _ _ _).2.2.2.2.2 h
      · rw [if_neg c_161] at h
        refine q_iload rfl ?_
        refine q_iload rfl ?_
        obtain ⟨d_168, h⟩ := ite_some h
        obtain ⟨⟨x0_168, I0_168, L0_168⟩, e_168, h⟩ := Option.bind_eq_some_iff.mp h
        dsimp only at h
        refine q_fs2I (a_287 X hS (d := d - 1) (by omega) e_168) (by omega) (Nat.le_refl _) (Nat.le_refl _) rfl (Nat.le_of_ble_eq_true rfl) ?_
        refine q_if_eq (fun c_171 => ?_) (fun c_171 => ?_)
        · rw [if_pos c_171] at h
          exact (ih dp d hdp _ _ i1 i2 i3 i4 i5 i6 i7 i8 i9 i10 i11 i12 _ _ _).2.2.2.2.1 h
        · rw [if_neg c_171] at h
          refine q_iload rfl ?_
          refine q_aload rfl ?_
          refine q_iload rfl ?_
          refine q_iconst (0) (by decide) ?_
          obtain ⟨d_180, h⟩ := ite_some h
          obtain ⟨⟨x1_180, I1_180, L1_180⟩, e_180, h⟩ := Option.bind_eq_some_iff.mp h
          dsimp only at h
          refine q_fv3I (a_292 X hS (d := d - 1) (by omega) e_180) (by omega) (Nat.le_refl _) (Nat.le_refl _) rfl (Nat.le_of_ble_eq_true rfl) ⟨(zl hS 105 (by decide)), congrArg Prod.fst (sk hS 105 (by decide) rfl), by decide⟩ ?_
          refine q_iadd ?_
          refine q_istore (Nat.le_of_ble_eq_true rfl) rfl ?_
          refine q_iload rfl ?_
          refine q_aload rfl ?_
          refine q_iload rfl ?_
          refine q_iconst (0) (by decide) ?_
          obtain ⟨d_192, h⟩ := ite_some h
          obtain ⟨⟨x2_192, I2_192, L2_192⟩, e_192, h⟩ := Option.bind_eq_some_iff.mp h
          dsimp only at h
          refine q_fv3I (a_292 X hS (d := d - 1) (by omega) e_192) (by omega) (Nat.le_refl _) (Nat.le_refl _) rfl (Nat.le_of_ble_eq_true rfl) ⟨(zl hS 105 (by decide)), congrArg Prod.fst (sk hS 105 (by decide) rfl), by decide⟩ ?_
          refine q_aload rfl ?_
          refine q_iload rfl ?_
          refine q_iconst (1) (by decide) ?_
          obtain ⟨d_199, h⟩ := ite_some h
          obtain ⟨⟨x3_199, I3_199, L3_199⟩, e_199, h⟩ := Option.bind_eq_some_iff.mp h
          dsimp only at h
          refine q_fv3I (a_292 X hS (d := d - 1) (by omega) e_199) (by omega) (Nat.le_refl _) (Nat.le_refl _) rfl (Nat.le_of_ble_eq_true rfl) ⟨(zl hS 105 (by decide)), congrArg Prod.fst (sk hS 105 (by decide) rfl), by decide⟩ ?_
          refine q_imul ?_
          refine q_iadd ?_
          obtain ⟨v_204, nv_204, h⟩ := stI_some h
          refine q_eqi nv_204.symm ?_
          refine q_istore (Nat.le_of_ble_eq_true rfl) rfl ?_
          refine q_end ?_
          exact (ih dp d hdp _ _ i1 i2 i3 i4 i5 i6 i7 i8 i9 (i10 + x1_180) v_204 i12 _ _ _).2.2.2.2.1 h
    · intro h
      rw [e_295_4] at h
      refine K_of b_295_206 h_295_206 ?_
      refine q_iinc rfl rfl ?_
      refine q_goto ?_
      exact (ih dp d hdp _ _ i1 i2 i3 i4 i5 i6 i7 i8 i9 i10 i11 (i12 + Int32.ofInt (1)) _ _ _).2.2.2.1 h
    · intro h
      rw [e_295_5] at h
      refine K_of b_295_278 h_295_278 ?_
      refine q_iinc rfl rfl ?_
      refine q_goto ?_
      exact (ih dp d hdp _ _ i1 i2 i3 i4 i5 i6 i7 i8 (i9 + Int32.ofInt (1)) 0 0 0 _ _ _).2.2.1 h
theorem a_295 (X : GX) {z : Nat} {kd : Nat → Nat × Nat} {Rf : Nat → Nat → Option Nat} (hS : Sh z kd Rf) {n dp d : Nat} (hd : dp ≤ d) {I : (Nat → Nat → Int32)} {L : (Nat → Nat → Int64)} {i1 : Int32} {i2 : Int32} {i3 : Int32} {i4 : Int32} {I1 : (Nat → Nat → Int32)} {L1 : (Nat → Nat → Int64)} {r : Int32} (h : g_295 n dp (z, kd, Rf) 0 I L i1 i2 i3 i4 0 0 0 0 0 0 0 0 = some (r, I1, L1)) : Ct X d 295 0 0 [.ref 105, .int i1, .int i2, .int i3, .int i4] (z, kd, I, L, Rf) (AI (fun x τ => x = r ∧ τ = (z, kd, I1, L1, Rf))) :=
  Ct_of mu_295 (Nat.le_of_ble_eq_true rfl) ((w_295 X hS n dp d hd I L i1 i2 i3 i4 0 0 0 0 0 0 0 0 _ _ _).1 h)

/-! 296 CutFloorModel.send(IIII)I -/
set_option maxHeartbeats 4000000 in
set_option maxRecDepth 100000 in
def g_296 : Nat → Nat → EN → Nat → (Nat → Nat → Int32) → (Nat → Nat → Int64) → Int32 → Int32 → Int32 → Int32 → Int32 → Int32 → Int32 → Int32 → Int32 →  Option (Int32 × (Nat → Nat → Int32) × (Nat → Nat → Int64))
  | 0, _, _, _, _, _, _, _, _, _, _, _, _, _, _ => none
  | n + 1, dp, e, lab, I, L, i1, i2, i3, i4, i5, i6, i7, i8, i9 =>
    if lab = 0 then (stI (u2 I 105 0 (0 : Int32)) (fun I_2 => (if 1 ≤ dp then (g_193 n (dp - 1) e 0 I_2 L (Int32.toInt64 i1) (1 : Int64) (16 : Int64)).bind (fun ⟨x0_11, I0_11, L0_11⟩ => (if x0_11 = 0 then (if 1 ≤ dp then (g_194 n (dp - 1) e 0 I0_11 L0_11 (-1 : Int32)).bind (fun ⟨x1_56, I1_56, L1_56⟩ => (some (x1_56, I1_56, L1_56))) else none) else (if 1 ≤ dp then (g_193 n (dp - 1) e 0 I0_11 L0_11 (Int32.toInt64 i2) (0 : Int64) (99 : Int64)).bind (fun ⟨x1_23, I1_23, L1_23⟩ => (if x1_23 = 0 then (if 1 ≤ dp then (g_194 n (dp - 1) e 0 I1_23 L1_23 (-1 : Int32)).bind (fun ⟨x2_56, I2_56, L2_56⟩ => (some (x2_56, I2_56, L2_56))) else none) else (if 1 ≤ dp then (g_193 n (dp - 1) e 0 I1_23 L1_23 (Int32.toInt64 i3) (0 : Int64) (99 : Int64)).bind (fun ⟨x2_35, I2_35, L2_35⟩ => (if x2_35 = 0 then (if 1 ≤ dp then (g_194 n (dp - 1) e 0 I2_35 L2_35 (-1 : Int32)).bind (fun ⟨x3_56, I3_56, L3_56⟩ => (some (x3_56, I3_56, L3_56))) else none) else (if 1 ≤ dp then (g_193 n (dp - 1) e 0 I2_35 L2_35 (Int32.toInt64 i4) (0 : Int64) (99 : Int64)).bind (fun ⟨x3_48, I3_48, L3_48⟩ => (if x3_48 = 0 then (if 1 ≤ dp then (g_194 n (dp - 1) e 0 I3_48 L3_48 (-1 : Int32)).bind (fun ⟨x4_56, I4_56, L4_56⟩ => (some (x4_56, I4_56, L4_56))) else none) else (g_296 n dp e 1 I3_48 L3_48 i1 i2 i3 i4 (0 : Int32) (0 : Int32) 0 0 0))) else none))) else none))) else none))) else none)))
    else if lab = 1 then (if i1 ≤ i6 then (if 1 ≤ dp then (g_194 n (dp - 1) e 0 I L i5).bind (fun ⟨x0_215, I0_215, L0_215⟩ => (some (x0_215, I0_215, L0_215))) else none) else (stI ((I 107 6) - (1 : Int32)) (fun v_84 => (g_296 n dp e 2 I L i1 i2 i3 i4 i5 i6 (-1 : Int32) v_84 0))))
    else if lab = 2 then (if i8 < 0 then (if i7 = (-1 : Int32) then (g_296 n dp e 6 I L i1 i2 i3 i4 i5 i6 i7 i8 0) else (if 0 ≤ (((90 : Int32) + ((7 : Int32) * i7)) + (6 : Int32)) ∧ (Int32.toNatClampNeg (((90 : Int32) + ((7 : Int32) * i7)) + (6 : Int32))) < 1570 then (stI (u2 I 107 (Int32.toNatClampNeg (((90 : Int32) + ((7 : Int32) * i7)) + (6 : Int32))) (0 : Int32)) (fun I_196 => (stI (i5 ||| ((1 : Int32) <<< (i7 &&& 31))) (fun v_204 => (g_296 n dp e 6 I_196 L i1 i2 i3 i4 v_204 i6 i7 i8 0))))) else none)) else (if 1 ≤ dp then (g_292 n (dp - 1) e 0 I L i8 (6 : Int32)).bind (fun ⟨x0_96, I0_96, L0_96⟩ => (if x0_96 = (1 : Int32) then (if 1 ≤ dp then (g_292 n (dp - 1) e 0 I0_96 L0_96 i8 (2 : Int32)).bind (fun ⟨x1_108, I1_108, L1_108⟩ => (if 1 ≤ dp then (g_193 n (dp - 1) e 0 I1_108 L1_108 (Int32.toInt64 (i2 - x1_108)) (Int32.toInt64 i3) (Int32.toInt64 i4)).bind (fun ⟨x2_118, I2_118, L2_118⟩ => (if x2_118 = 0 then (g_296 n dp e 3 I2_118 L2_118 i1 i2 i3 i4 i5 i6 i7 i8 0) else (if (1 : Int32) = 0 then (g_296 n dp e 5 I2_118 L2_118 i1 i2 i3 i4 i5 i6 i7 i8 (1 : Int32)) else (if i7 = (-1 : Int32) then (g_296 n dp e 4 I2_118 L2_118 i1 i2 i3 i4 i5 i6 i7 i8 (1 : Int32)) else (if 1 ≤ dp then (g_292 n (dp - 1) e 0 I2_118 L2_118 i8 (2 : Int32)).bind (fun ⟨x3_146, I3_146, L3_146⟩ => (if 1 ≤ dp then (g_292 n (dp - 1) e 0 I3_146 L3_146 i7 (2 : Int32)).bind (fun ⟨x4_153, I4_153, L4_153⟩ => (if x4_153 < x3_146 then (g_296 n dp e 5 I4_153 L4_153 i1 i2 i3 i4 i5 i6 i7 i8 (1 : Int32)) else (g_296 n dp e 4 I4_153 L4_153 i1 i2 i3 i4 i5 i6 i7 i8 (1 : Int32)))) else none)) else none))))) else none)) else none) else (g_296 n dp e 3 I0_96 L0_96 i1 i2 i3 i4 i5 i6 i7 i8 0))) else none))
    else if lab = 3 then (if (0 : Int32) = 0 then (g_296 n dp e 5 I L i1 i2 i3 i4 i5 i6 i7 i8 (0 : Int32)) else (if i7 = (-1 : Int32) then (g_296 n dp e 4 I L i1 i2 i3 i4 i5 i6 i7 i8 (0 : Int32)) else (if 1 ≤ dp then (g_292 n (dp - 1) e 0 I L i8 (2 : Int32)).bind (fun ⟨x0_146, I0_146, L0_146⟩ => (if 1 ≤ dp then (g_292 n (dp - 1) e 0 I0_146 L0_146 i7 (2 : Int32)).bind (fun ⟨x1_153, I1_153, L1_153⟩ => (if x1_153 < x0_146 then (g_296 n dp e 5 I1_153 L1_153 i1 i2 i3 i4 i5 i6 i7 i8 (0 : Int32)) else (g_296 n dp e 4 I1_153 L1_153 i1 i2 i3 i4 i5 i6 i7 i8 (0 : Int32)))) else none)) else none)))
    else if lab = 4 then (g_296 n dp e 2 I L i1 i2 i3 i4 i5 i6 i8 (i8 + Int32.ofInt (-1)) 0)
    else if lab = 5 then (g_296 n dp e 2 I L i1 i2 i3 i4 i5 i6 i7 (i8 + Int32.ofInt (-1)) 0)
    else if lab = 6 then (g_296 n dp e 1 I L i1 i2 i3 i4 i5 (i6 + Int32.ofInt (1)) 0 0 0)
    else none
set_option maxRecDepth 100000 in
theorem e_296_0 (n dp : Nat) (e : EN) (I : (Nat → Nat → Int32)) (L : (Nat → Nat → Int64)) (i1 : Int32) (i2 : Int32) (i3 : Int32) (i4 : Int32) (i5 : Int32) (i6 : Int32) (i7 : Int32) (i8 : Int32) (i9 : Int32) : g_296 (n + 1) dp e 0 I L i1 i2 i3 i4 i5 i6 i7 i8 i9 = (stI (u2 I 105 0 (0 : Int32)) (fun I_2 => (if 1 ≤ dp then (g_193 n (dp - 1) e 0 I_2 L (Int32.toInt64 i1) (1 : Int64) (16 : Int64)).bind (fun ⟨x0_11, I0_11, L0_11⟩ => (if x0_11 = 0 then (if 1 ≤ dp then (g_194 n (dp - 1) e 0 I0_11 L0_11 (-1 : Int32)).bind (fun ⟨x1_56, I1_56, L1_56⟩ => (some (x1_56, I1_56, L1_56))) else none) else (if 1 ≤ dp then (g_193 n (dp - 1) e 0 I0_11 L0_11 (Int32.toInt64 i2) (0 : Int64) (99 : Int64)).bind (fun ⟨x1_23, I1_23, L1_23⟩ => (if x1_23 = 0 then (if 1 ≤ dp then (g_194 n (dp - 1) e 0 I1_23 L1_23 (-1 : Int32)).bind (fun ⟨x2_56, I2_56, L2_56⟩ => (some (x2_56, I2_56, L2_56))) else none) else (if 1 ≤ dp then (g_193 n (dp - 1) e 0 I1_23 L1_23 (Int32.toInt64 i3) (0 : Int64) (99 : Int64)).bind (fun ⟨x2_35, I2_35, L2_35⟩ => (if x2_35 = 0 then (if 1 ≤ dp then (g_194 n (dp - 1) e 0 I2_35 L2_35 (-1 : Int32)).bind (fun ⟨x3_56, I3_56, L3_56⟩ => (some (x3_56, I3_56, L3_56))) else none) else (if 1 ≤ dp then (g_193 n (dp - 1) e 0 I2_35 L2_35 (Int32.toInt64 i4) (0 : Int64) (99 : Int64)).bind (fun ⟨x3_48, I3_48, L3_48⟩ => (if x3_48 = 0 then (if 1 ≤ dp then (g_194 n (dp - 1) e 0 I3_48 L3_48 (-1 : Int32)).bind (fun ⟨x4_56, I4_56, L4_56⟩ => (some (x4_56, I4_56, L4_56))) else none) else (g_296 n dp e 1 I3_48 L3_48 i1 i2 i3 i4 (0 : Int32) (0 : Int32) 0 0 0))) else none))) else none))) else none))) else none))) := by rw [g_296.eq_2, if_pos (show (0 : Nat) = 0 from rfl)]
set_option maxRecDepth 100000 in
theorem e_296_1 (n dp : Nat) (e : EN) (I : (Nat → Nat → Int32)) (L : (Nat → Nat → Int64)) (i1 : Int32) (i2 : Int32) (i3 : Int32) (i4 : Int32) (i5 : Int32) (i6 : Int32) (i7 : Int32) (i8 : Int32) (i9 : Int32) : g_296 (n + 1) dp e 1 I L i1 i2 i3 i4 i5 i6 i7 i8 i9 = (if i1 ≤ i6 then (if 1 ≤ dp then (g_194 n (dp - 1) e 0 I L i5).bind (fun ⟨x0_215, I0_215, L0_215⟩ => (some (x0_215, I0_215, L0_215))) else none) else (stI ((I 107 6) - (1 : Int32)) (fun v_84 => (g_296 n dp e 2 I L i1 i2 i3 i4 i5 i6 (-1 : Int32) v_84 0)))) := by rw [g_296.eq_2, if_neg (show ¬ ((1 : Nat) = 0) by decide), if_pos (show (1 : Nat) = 1 from rfl)]
set_option maxRecDepth 100000 in
theorem e_296_2 (n dp : Nat) (e : EN) (I : (Nat → Nat → Int32)) (L : (Nat → Nat → Int64)) (i1 : Int32) (i2 : Int32) (i3 : Int32) (i4 : Int32) (i5 : Int32) (i6 : Int32) (i7 : Int32) (i8 : Int32) (i9 : Int32) : g_296 (n + 1) dp e 2 I L i1 i2 i3 i4 i5 i6 i7 i8 i9 = (if i8 < 0 then (if i7 = (-1 : Int32) then (g_296 n dp e 6 I L i1 i2 i3 i4 i5 i6 i7 i8 0) else (if 0 ≤ (((90 : Int32) + ((7 : Int32) * i7)) + (6 : Int32)) ∧ (Int32.toNatClampNeg (((90 : Int32) + ((7 : Int32) * i7)) + (6 : Int32))) < 1570 then (stI (u2 I 107 (Int32.toNatClampNeg (((90 : Int32) + ((7 : Int32) * i7)) + (6 : Int32))) (0 : Int32)) (fun I_196 => (stI (i5 ||| ((1 : Int32) <<< (i7 &&& 31))) (fun v_204 => (g_296 n dp e 6 I_196 L i1 i2 i3 i4 v_204 i6 i7 i8 0))))) else none)) else (if 1 ≤ dp then (g_292 n (dp - 1) e 0 I L i8 (6 : Int32)).bind (fun ⟨x0_96, I0_96, L0_96⟩ => (if x0_96 = (1 : Int32) then (if 1 ≤ dp then (g_292 n (dp - 1) e 0 I0_96 L0_96 i8 (2 : Int32)).bind (fun ⟨x1_108, I1_108, L1_108⟩ => (if 1 ≤ dp then (g_193 n (dp - 1) e 0 I1_108 L1_108 (Int32.toInt64 (i2 - x1_108)) (Int32.toInt64 i3) (Int32.toInt64 i4)).bind (fun ⟨x2_118, I2_118, L2_118⟩ => (if x2_118 = 0 then (g_296 n dp e 3 I2_118 L2_118 i1 i2 i3 i4 i5 i6 i7 i8 0) else (if (1 : Int32) = 0 then (g_296 n dp e 5 I2_118 L2_118 i1 i2 i3 i4 i5 i6 i7 i8 (1 : Int32)) else (if i7 = (-1 : Int32) then (g_296 n dp e 4 I2_118 L2_118 i1 i2 i3 i4 i5 i6 i7 i8 (1 : Int32)) else (if 1 ≤ dp then (g_292 n (dp - 1) e 0 I2_118 L2_118 i8 (2 : Int32)).bind (fun ⟨x3_146, I3_146, L3_146⟩ => (if 1 ≤ dp then (g_292 n (dp - 1) e 0 I3_146 L3_146 i7 (2 : Int32)).bind (fun ⟨x4_153, I4_153, L4_153⟩ => (if x4_153 < x3_146 then (g_296 n dp e 5 I4_153 L4_153 i1 i2 i3 i4 i5 i6 i7 i8 (1 : Int32)) else (g_296 n dp e 4 I4_153 L4_153 i1 i2 i3 i4 i5 i6 i7 i8 (1 : Int32)))) else none)) else none))))) else none)) else none) else (g_296 n dp e 3 I0_96 L0_96 i1 i2 i3 i4 i5 i6 i7 i8 0))) else none)) := by rw [g_296.eq_2, if_neg (show ¬ ((2 : Nat) = 0) by decide), if_neg (show ¬ ((2 : Nat) = 1) by decide), if_pos (show (2 : Nat) = 2 from rfl)]
set_option maxRecDepth 100000 in
theorem e_296_3 (n dp : Nat) (e : EN) (I : (Nat → Nat → Int32)) (L : (Nat → Nat → Int64)) (i1 : Int32) (i2 : Int32) (i3 : Int32) (i4 : Int32) (i5 : Int32) (i6 : Int32) (i7 : Int32) (i8 : Int32) (i9 : Int32) : g_296 (n + 1) dp e 3 I L i1 i2 i3 i4 i5 i6 i7 i8 i9 = (if (0 : Int32) = 0 then (g_296 n dp e 5 I L i1 i2 i3 i4 i5 i6 i7 i8 (0 : Int32)) else (if i7 = (-1 : Int32) then (g_296 n dp e 4 I L i1 i2 i3 i4 i5 i6 i7 i8 (0 : Int32)) else (if 1 ≤ dp then (g_292 n (dp - 1) e 0 I L i8 (2 : Int32)).bind (fun ⟨x0_146, I0_146, L0_146⟩ => (if 1 ≤ dp then (g_292 n (dp - 1) e 0 I0_146 L0_146 i7 (2 : Int32)).bind (fun ⟨x1_153, I1_153, L1_153⟩ => (if x1_153 < x0_146 then (g_296 n dp e 5 I1_153 L1_153 i1 i2 i3 i4 i5 i6 i7 i8 (0 : Int32)) else (g_296 n dp e 4 I1_153 L1_153 i1 i2 i3 i4 i5 i6 i7 i8 (0 : Int32)))) else none)) else none))) := by rw [g_296.eq_2, if_neg (show ¬ ((3 : Nat) = 0) by decide), if_neg (show ¬ ((3 : Nat) = 1) by decide), if_neg (show ¬ ((3 : Nat) = 2) by decide), if_pos (show (3 : Nat) = 3 from rfl)]
set_option maxRecDepth 100000 in
theorem e_296_4 (n dp : Nat) (e : EN) (I : (Nat → Nat → Int32)) (L : (Nat → Nat → Int64)) (i1 : Int32) (i2 : Int32) (i3 : Int32) (i4 : Int32) (i5 : Int32) (i6 : Int32) (i7 : Int32) (i8 : Int32) (i9 : Int32) : g_296 (n + 1) dp e 4 I L i1 i2 i3 i4 i5 i6 i7 i8 i9 = (g_296 n dp e 2 I L i1 i2 i3 i4 i5 i6 i8 (i8 + Int32.ofInt (-1)) 0) := by rw [g_296.eq_2, if_neg (show ¬ ((4 : Nat) = 0) by decide), if_neg (show ¬ ((4 : Nat) = 1) by decide), if_neg (show ¬ ((4 : Nat) = 2) by decide), if_neg (show ¬ ((4 : Nat) = 3) by decide), if_pos (show (4 : Nat) = 4 from rfl)]
set_option maxRecDepth 100000 in
theorem e_296_5 (n dp : Nat) (e : EN) (I : (Nat → Nat → Int32)) (L : (Nat → Nat → Int64)) (i1 : Int32) (i2 : Int32) (i3 : Int32) (i4 : Int32) (i5 : Int32) (i6 : Int32) (i7 : Int32) (i8 : Int32) (i9 : Int32) : g_296 (n + 1) dp e 5 I L i1 i2 i3 i4 i5 i6 i7 i8 i9 = (g_296 n dp e 2 I L i1 i2 i3 i4 i5 i6 i7 (i8 + Int32.ofInt (-1)) 0) := by rw [g_296.eq_2, if_neg (show ¬ ((5 : Nat) = 0) by decide), if_neg (show ¬ ((5 : Nat) = 1) by decide), if_neg (show ¬ ((5 : Nat) = 2) by decide), if_neg (show ¬ ((5 : Nat) = 3) by decide), if_neg (show ¬ ((5 : Nat) = 4) by decide), if_pos (show (5 : Nat) = 5 from rfl)]
set_option maxRecDepth 100000 in
theorem e_296_6 (n dp : Nat) (e : EN) (I : (Nat → Nat → Int32)) (L : (Nat → Nat → Int64)) (i1 : Int32) (i2 : Int32) (i3 : Int32) (i4 : Int32) (i5 : Int32) (i6 : Int32) (i7 : Int32) (i8 : Int32) (i9 : Int32) : g_296 (n + 1) dp e 6 I L i1 i2 i3 i4 i5 i6 i7 i8 i9 = (g_296 n dp e 1 I L i1 i2 i3 i4 i5 (i6 + Int32.ofInt (1)) 0 0 0) := by rw [g_296.eq_2, if_neg (show ¬ ((6 : Nat) = 0) by decide), if_neg (show ¬ ((6 : Nat) = 1) by decide), if_neg (show ¬ ((6 : Nat) = 2) by decide), if_neg (show ¬ ((6 : Nat) = 3) by decide), if_neg (show ¬ ((6 : Nat) = 4) by decide), if_neg (show ¬ ((6 : Nat) = 5) by decide), if_pos (show (6 : Nat) = 6 from rfl)]
set_option maxHeartbeats 8000000 in
set_option maxRecDepth 100000 in
theorem w_296 (X : GX) {z : Nat} {kd : Nat → Nat × Nat} {Rf : Nat → Nat → Option Nat} (hS : Sh z kd Rf) : ∀ (n dp d : Nat), dp ≤ d → ∀ (I : (Nat → Nat → Int32)) (L : (Nat → Nat → Int64)) (i1 : Int32) (i2 : Int32) (i3 : Int32) (i4 : Int32) (i5 : Int32) (i6 : Int32) (i7 : Int32) (i8 : Int32) (i9 : Int32) (r : Int32) (I1 : (Nat → Nat → Int32)) (L1 : (Nat → Nat → Int64)), (g_296 n dp (z, kd, Rf) 0 I L i1 i2 i3 i4 i5 i6 i7 i8 i9 = some (r, I1, L1) → K X d 296 0 0 (AI (fun x τ => x = r ∧ τ = (z, kd, I1, L1, Rf))) 0 [some (.ref 105), some (.int i1), some (.int i2), some (.int i3), some (.int i4), none, none, none, none, none] [] (z, kd, I, L, Rf) 0 0) ∧
    (g_296 n dp (z, kd, Rf) 1 I L i1 i2 i3 i4 i5 i6 i7 i8 i9 = some (r, I1, L1) → K X d 296 0 0 (AI (fun x τ => x = r ∧ τ = (z, kd, I1, L1, Rf))) 66 [some (.ref 105), some (.int i1), some (.int i2), some (.int i3), some (.int i4), some (.int i5), some (.int i6), none, none, none] [] (z, kd, I, L, Rf) 0 0) ∧
    (g_296 n dp (z, kd, Rf) 2 I L i1 i2 i3 i4 i5 i6 i7 i8 i9 = some (r, I1, L1) → K X d 296 0 0 (AI (fun x τ => x = r ∧ τ = (z, kd, I1, L1, Rf))) 86 [some (.ref 105), some (.int i1), some (.int i2), some (.int i3), some (.int i4), some (.int i5), some (.int i6), some (.int i7), some (.int i8), none] [] (z, kd, I, L, Rf) 0 0) ∧
    (g_296 n dp (z, kd, Rf) 3 I L i1 i2 i3 i4 i5 i6 i7 i8 i9 = some (r, I1, L1) → K X d 296 0 0 (AI (fun x τ => x = r ∧ τ = (z, kd, I1, L1, Rf))) 128 [some (.ref 105), some (.int i1), some (.int i2), some (.int i3), some (.int i4), some (.int i5), some (.int i6), some (.int i7), some (.int i8), none] [] (z, kd, I, L, Rf) 0 0) ∧
    (g_296 n dp (z, kd, Rf) 4 I L i1 i2 i3 i4 i5 i6 i7 i8 i9 = some (r, I1, L1) → K X d 296 0 0 (AI (fun x τ => x = r ∧ τ = (z, kd, I1, L1, Rf))) 159 [some (.ref 105), some (.int i1), some (.int i2), some (.int i3), some (.int i4), some (.int i5), some (.int i6), some (.int i7), some (.int i8), some (.int i9)] [] (z, kd, I, L, Rf) 0 0) ∧
    (g_296 n dp (z, kd, Rf) 5 I L i1 i2 i3 i4 i5 i6 i7 i8 i9 = some (r, I1, L1) → K X d 296 0 0 (AI (fun x τ => x = r ∧ τ = (z, kd, I1, L1, Rf))) 164 [some (.ref 105), some (.int i1), some (.int i2), some (.int i3), some (.int i4), some (.int i5), some (.int i6), some (.int i7), some (.int i8), some (.int i9)] [] (z, kd, I, L, Rf) 0 0) ∧
    (g_296 n dp (z, kd, Rf) 6 I L i1 i2 i3 i4 i5 i6 i7 i8 i9 = some (r, I1, L1) → K X d 296 0 0 (AI (fun x τ => x = r ∧ τ = (z, kd, I1, L1, Rf))) 206 [some (.ref 105), some (.int i1), some (.int i2), some (.int i3), some (.int i4), some (.int i5), some (.int i6), some (.int i7), some (.int i8), none] [] (z, kd, I, L, Rf) 0 0) := by
  intro n
  induction n with
  | zero => intro dp d hdp I L i1 i2 i3 i4 i5 i6 i7 i8 i9 r I1 L1; exact ⟨(fun h => by cases h), (fun h => by cases h), (fun h => by cases h), (fun h => by cases h), (fun h => by cases h), (fun h => by cases h), (fun h => by cases h)⟩
  | succ n ih =>
    intro dp d hdp I L i1 i2 i3 i4 i5 i6 i7 i8 i9 r I1 L1
    refine ⟨?_, ?_, ?_, ?_, ?_, ?_, ?_⟩
    · intro h
      rw [e_296_0] at h
      refine K_of b_296_0 h_296_0 ?_
      refine q_aload rfl ?_
      refine q_iconst (0) (by decide) ?_
      refine q_putI (c0 := 12) (j := 0) rfl rfl (zl hS 105 (by decide)) (sk hS 105 (by decide) rfl) rfl ?_
      obtain ⟨I_2, nI_2, h⟩ := stI_some h
      refine q_nI nI_2 ?_
      refine q_iload rfl ?_
      refine q_i2l ?_
      refine q_lconst (1) (by decide) ?_
      refine q_lconst (16) (by decide) ?_
      obtain ⟨d_11, h⟩ := ite_some h
      obtain ⟨⟨x0_11, I0_11, L0_11⟩, e_11, h⟩ := Option.bind_eq_some_iff.mp h
      dsimp only at h
      refine q_fs3I (a_193 X hS (d := d - 1) (by omega) e_11) (by omega) (Nat.le_refl _) (Nat.le_refl _) rfl (Nat.le_of_ble_eq_true rfl) ?_
      refine q_if_eq (fun c_14 => ?_) (fun c_14 => ?_)
      · rw [if_pos c_14] at h
        refine K_of b_296_54 h_296_54 ?_
        refine q_aload rfl ?_
        refine q_iconst (-1) (by decide) ?_
        obtain ⟨d_56, h⟩ := ite_some h
        obtain ⟨⟨x1_56, I1_56, L1_56⟩, e_56, h⟩ := Option.bind_eq_some_iff.mp h
        dsimp only at h
        refine q_fv2I (a_194 X hS (d := d - 1) (by omega) e_56) (by omega) (Nat.le_refl _) (Nat.le_refl _) rfl (Nat.le_of_ble_eq_true rfl) ⟨(zl hS 105 (by decide)), congrArg Prod.fst (sk hS 105 (by decide) rfl), by decide⟩ ?_
        cases h
        exact q_iret rfl (Nat.le_refl _) (Nat.le_refl _) ⟨rfl, rfl⟩
      · rw [if_neg c_14] at h
        refine q_iload rfl ?_
        refine q_i2l ?_
        refine q_lconst (0) (by decide) ?_
        refine q_lconst (99) (by decide) ?_
        obtain ⟨d_23, h⟩ := ite_some h
        obtain ⟨⟨x1_23, I1_23, L1_23⟩, e_23, h⟩ := Option.bind_eq_some_iff.mp h
        dsimp only at h
        refine q_fs3I (a_193 X hS (d := d - 1) (by omega) e_23) (by omega) (Nat.le_refl _) (Nat.le_refl _) rfl (Nat.le_of_ble_eq_true rfl) ?_
        refine q_if_eq (fun c_26 => ?_) (fun c_26 => ?_)
        · rw [if_pos c_26] at h
          refine K_of b_296_54 h_296_54 ?_
          refine q_aload rfl ?_
          refine q_iconst (-1) (by decide) ?_
          obtain ⟨d_56, h⟩ := ite_some h
          obtain ⟨⟨x2_56, I2_56, L2_56⟩, e_56, h⟩ := Option.bind_eq_some_iff.mp h
          dsimp only at h
          refine q_fv2I (a_194 X hS (d := d - 1) (by omega) e_56) (by omega) (Nat.le_refl _) (Nat.le_refl _) rfl (Nat.le_of_ble_eq_true rfl) ⟨(zl hS 105 (by decide)), congrArg Prod.fst (sk hS 105 (by decide) rfl), by decide⟩ ?_
          cases h
          exact q_iret rfl (Nat.le_refl _) (Nat.le_refl _) ⟨rfl, rfl⟩
        · rw [if_neg c_26] at h
          refine q_iload rfl ?_
          refine q_i2l ?_
          refine q_lconst (0) (by decide) ?_
          refine q_lconst (99) (by decide) ?_
          obtain ⟨d_35, h⟩ := ite_some h
          obtain ⟨⟨x2_35, I2_35, L2_35⟩, e_35, h⟩ := Option.bind_eq_some_iff.mp h
          dsimp only at h
          refine q_fs3I (a_193 X hS (d := d - 1) (by omega) e_35) (by omega) (Nat.le_refl _) (Nat.le_refl _) rfl (Nat.le_of_ble_eq_true rfl) ?_
          refine q_if_eq (fun c_38 => ?_) (fun c_38 => ?_)
          · rw [if_pos c_38] at h
            refine K_of b_296_54 h_296_54 ?_
            refine q_aload rfl ?_
            refine q_iconst (-1) (by decide) ?_
            obtain ⟨d_56, h⟩ := ite_some h
            obtain ⟨⟨x3_56, I3_56, L3_56⟩, e_56, h⟩ := Option.bind_eq_some_iff.mp h
            dsimp only at h
            refine q_fv2I (a_194 X hS (d := d - 1) (by omega) e_56) (by omega) (Nat.le_refl _) (Nat.le_refl _) rfl (Nat.le_of_ble_eq_true rfl) ⟨(zl hS 105 (by decide)), congrArg Prod.fst (sk hS 105 (by decide) rfl), by decide⟩ ?_
            cases h
            exact q_iret rfl (Nat.le_refl _) (Nat.le_refl _) ⟨rfl, rfl⟩
          · rw [if_neg c_38] at h
            refine q_iload rfl ?_
            refine q_i2l ?_
            refine q_lconst (0) (by decide) ?_
            refine q_lconst (99) (by decide) ?_
            obtain ⟨d_48, h⟩ := ite_some h
            obtain ⟨⟨x3_48, I3_48, L3_48⟩, e_48, h⟩ := Option.bind_eq_some_iff.mp h
            dsimp only at h
            refine q_fs3I (a_193 X hS (d := d - 1) (by omega) e_48) (by omega) (Nat.le_refl _) (Nat.le_refl _) rfl (Nat.le_of_ble_eq_true rfl) ?_
            refine q_if_ne (fun c_51 => ?_) (fun c_51 => ?_)
            · rw [if_neg c_51] at h
              refine K_of b_296_60 h_296_60 ?_
              refine q_iconst (0) (by decide) ?_
              refine q_istore (Nat.le_of_ble_eq_true rfl) rfl ?_
              refine q_iconst (0) (by decide) ?_
              refine q_istore (Nat.le_of_ble_eq_true rfl) rfl ?_
              refine q_end ?_
              exact (ih dp d hdp _ _ i1 i2 i3 i4 (0 : Int32) (0 : Int32) 0 0 0 _ _ _).2.1 h
            · rw [if_pos c_51] at h
              refine q_end ?_
              refine K_of b_296_54 h_296_54 ?_
              refine q_aload rfl ?_
              refine q_iconst (-1) (by decide) ?_
              obtain ⟨d_56, h⟩ := ite_some h
              obtain ⟨⟨x4_56, I4_56, L4_56⟩, e_56, h⟩ := Option.bind_eq_some_iff.mp h
              dsimp only at h
              refine q_fv2I (a_194 X hS (d := d - 1) (by omega) e_56) (by omega) (Nat.le_refl _) (Nat.le_refl _) rfl (Nat.le_of_ble_eq_true rfl) ⟨(zl hS 105 (by decide)), congrArg Prod.fst (sk hS 105 (by decide) rfl), by decide⟩ ?_
              cases h
              exact q_iret rfl (Nat.le_refl _) (Nat.le_refl _) ⟨rfl, rfl⟩
    · intro h
      rw [e_296_1] at h
      refine K_of b_296_66 h_296_66 ?_
      refine q_iload rfl ?_
      refine q_iload rfl ?_
      refine q_icmp_ge (fun c_69 => ?_) (fun c_69 => ?_)
      · rw [if_pos c_69] at h
        refine K_of b_296_212 h_296_212 ?_
        refine q_aload rfl ?_
        refine q_iload rfl ?_
        obtain ⟨d_215, h⟩ := ite_some h
        obtain ⟨⟨x0_215, I0_215, L0_215⟩, e_215, h⟩ := Option.bind_eq_some_iff.mp h
        dsimp only at h
        refine q_fv2I (a_194 X hS (d := d - 1) (by omega) e_215) (by omega) (Nat.le_refl _) (Nat.le_refl _) rfl (Nat.le_of_ble_eq_true rfl) ⟨(zl hS 105 (by decide)), congrArg Prod.fst (sk hS 105 (by decide) rfl), by decide⟩ ?_
        cases h
        exact q_iret rfl (Nat.le_refl _) (Nat.le_refl _) ⟨rfl, rfl⟩
      · rw [if_neg c_69] at h
        refine q_iconst (-1) (by decide) ?_
        refine q_istore (Nat.le_of_ble_eq_true rfl) rfl ?_
        refine q_aload rfl ?_
        refine q_getRs (c0 := 12) (j := 3) rfl rfl (zl hS 105 (by decide)) (sk hS 105 (by decide) rfl) rfl (by decide) (r_105_3 hS) ?_
        refine q_iconst (6) (by decide) ?_
        refine q_ialN (6) rfl (zl hS 107 (by decide)) (sk hS 107 (by decide) rfl) (by decide) (by decide) ?_
        refine q_iconst (1) (by decide) ?_
        refine q_isub ?_
        obtain ⟨v_84, nv_84, h⟩ := stI_some h
        refine q_eqi nv_84.symm ?_
        refine q_istore (Nat.le_of_ble_eq_true rfl) rfl ?_
        refine q_end ?_
        exact (ih dp d hdp _ _ i1 i2 i3 i4 i5 i6 (-1 : Int32) v_84 0 _ _ _).2.2.1 h
    · intro h
      rw [e_296_2] at h
      refine K_of b_296_86 h_296_86 ?_
      refine q_iload rfl ?_
      refine q_if_lt (fun c_88 => ?_) (fun c_88 => ?_)
      · rw [if_pos c_88] at h
        refine K_of b_296_174 h_296_174 ?_
        refine q_iload rfl ?_
        refine q_iconst (-1) (by decide) ?_
        refine q_icmp_eq (fun c_177 => ?_) (fun c_177 => ?_)
        · rw [if_pos c_177] at h
          exact (ih dp d hdp _ _ i1 i2 i3 i4 i5 i6 i7 i8 0 _ _ _).2.2.2.2.2.2 h
        · rw [if_neg c_177] at h
          refine q_aload rfl ?_
          refine q_getRs (c0 := 12) (j := 3) rfl rfl (zl hS 105 (by decide)) (sk hS 105 (by decide) rfl) rfl (by decide) (r_105_3 hS) ?_
          refine q_iconst (90) (by decide) ?_
          refine q_iconst (7) (by decide) ?_
          refine q_iload rfl ?_
          refine q_imul ?_
          refine q_iadd ?_
          refine q_iconst (6) (by decide) ?_
          refine q_iadd ?_
          refine q_iconst (0) (by decide) ?_
          obtain ⟨⟨u_196, v_196⟩, h⟩ := ite_some h
          refine q_iasN (Int32.toNatClampNeg (((90 : Int32) + ((7 : Int32) * i7)) + (6 : Int32))) (nx u_196) (zl hS 107 (by decide)) (sk hS 107 (by decide) rfl) v_196 (by decide) ?_
          obtain ⟨I_196, nI_196, h⟩ := stI_some h
          refine q_nI nI_196 ?_
          refine q_iload rfl ?_
          refine q_iconst (1) (by decide) ?_
          refine q_iload rfl ?_
          refine q_ishl ?_
          refine q_ior ?_
          obtain ⟨v_204, nv_204, h⟩ := stI_some h
          refine q_eqi nv_204.symm ?_
          refine q_istore (Nat.le_of_ble_eq_true rfl) rfl ?_
          refine q_end ?_
          exact (ih dp d hdp _ _ i1 i2 i3 i4 v_204 i6 i7 i8 0 _ _ _).2.2.2.2.2.2 h
      · rw [if_neg c_88] at h
        refine q_aload rfl ?_
        refine q_iload rfl ?_
        refine q_iconst (6) (by decide) ?_
        obtain ⟨d_96, h⟩ := ite_some h
        obtain ⟨⟨x0_96, I0_96, L0_96⟩, e_96, h⟩ := Option.bind_eq_some_iff.mp h
        dsimp only at h
        refine q_fv3I (a_292 X hS (d := d - 1) (by omega) e_96) (by omega) (Nat.le_refl _) (Nat.le_refl _) rfl (Nat.le_of_ble_eq_true rfl) ⟨(zl hS 105 (by decide)), congrArg Prod.fst (sk hS 105 (by decide) rfl), by decide⟩ ?_
        refine q_iconst (1) (by decide) ?_
        refine q_icmp_ne (fun c_100 => ?_) (fun c_100 => ?_)
        · rw [if_neg c_100] at h
          exact (ih dp d hdp _ _ i1 i2 i3 i4 i5 i6 i7 i8 0 _ _ _).2.2.2.1 h
        · rw [if_pos c_100] at h
          refine q_iload rfl ?_
          refine q_aload rfl ?_
          refine q_iload rfl ?_
          refine q_iconst (2) (by decide) ?_
          obtain ⟨d_108, h⟩ := ite_some h
          obtain ⟨⟨x1_108, I1_108, L1_108⟩, e_108, h⟩ := Option.bind_eq_some_iff.mp h
          dsimp only at h
          refine q_fv3I (a_292 X hS (d := d - 1) (by omega) e_108) (by omega) (Nat.le_refl _) (Nat.le_refl _) rfl (Nat.le_of_ble_eq_true rfl) ⟨(zl hS 105 (by decide)), congrArg Prod.fst (sk hS 105 (by decide) rfl), by decide⟩ ?_
          refine q_isub ?_
          refine q_i2l ?_
          refine q_iload rfl ?_
          refine q_i2l ?_
          refine q_iload rfl ?_
          refine q_i2l ?_
          obtain ⟨d_118, h⟩ := ite_some h
          obtain ⟨⟨x2_118, I2_118, L2_118⟩, e_118, h⟩ := Option.bind_eq_some_iff.mp h
          dsimp only at h
          refine q_fs3I (a_193 X hS (d := d - 1) (by omega) e_118) (by omega) (Nat.le_refl _) (Nat.le_refl _) rfl (Nat.le_of_ble_eq_true rfl) ?_
          refine q_if_eq (fun c_121 => ?_) (fun c_121 => ?_)
          · rw [if_pos c_121] at h
            exact (ih dp d hdp _ _ i1 i2 i3 i4 i5 i6 i7 i8 0 _ _ _).2.2.2.1 h
          · rw [if_neg c_121] at h
            refine q_iconst (1) (by decide) ?_
            refine q_goto ?_
            refine K_of b_296_129 h_296_129 ?_
            refine q_istore (Nat.le_of_ble_eq_true rfl) rfl ?_
            refine q_iload rfl ?_
            refine q_if_eq (fun c_133 => ?_) (fun c_133 => ?_)
            · rw [if_pos c_133] at h
              exact (ih dp d hdp _ _ i1 i2 i3 i4 i5 i6 i7 i8 (1 : Int32) _ _ _).2.2.2.2.2.1 h
            · rw [if_neg c_133] at h
              refine q_iload rfl ?_
              refine q_iconst (-1) (by decide) ?_
              refine q_icmp_eq (fun c_139 => ?_) (fun c_139 => ?_)
              · rw [if_pos c_139] at h
                exact (ih dp d hdp _ _ i1 i2 i3 i4 i5 i6 i7 i8 (1 : Int32) _ _ _).2.2.2.2.1 h
              · rw [if_neg c_139] at h
                refine q_aload rfl ?_
                refine q_iload rfl ?_
                refine q_iconst (2) (by decide) ?_
                obtain ⟨d_146, h⟩ := ite_some h
                obtain ⟨⟨x3_146, I3_146, L3_146⟩, e_146, h⟩ := Option.bind_eq_some_iff.mp h
                dsimp only at h
                refine q_fv3I (a_292 X hS (d := d - 1) (by omega) e_146) (by omega) (Nat.le_refl _) (Nat.le_refl _) rfl (Nat.le_of_ble_eq_true rfl) ⟨(zl hS 105 (by decide)), congrArg Prod.fst (sk hS 105 (by decide) rfl), by decide⟩ ?_
                refine q_aload rfl ?_
                refine q_iload rfl ?_
                refine q_iconst (2) (by decide) ?_
                obtain ⟨d_153, h⟩ := ite_some h
                obtain ⟨⟨x4_153, I4_153, L4_153⟩, e_153, h⟩ := Option.bind_eq_some_iff.mp h
                dsimp only at h
                refine q_fv3I (a_292 X hS (d := d - 1) (by omega) e_153) (by omega) (Nat.le_refl _) (Nat.le_refl _) rfl (Nat.le_of_ble_eq_true rfl) ⟨(zl hS 105 (by decide)), congrArg Prod.fst (sk hS 105 (by decide) rfl), by decide⟩ ?_
                refine q_icmp_gt (fun c_156 => ?_) (fun c_156 => ?_)
                · rw [if_pos c_156] at h
                  exact (ih dp d hdp _ _ i1 i2 i3 i4 i5 i6 i7 i8 (1 : Int32) _ _ _).2.2.2.2.2.1 h
                · rw [if_neg c_156] at h
                  refine q_end ?_
                  exact (ih dp d hdp _ _ i1 i2 i3 i4 i5 i6 i7 i8 (1 : Int32) _ _ _).2.2.2.2.1 h
    · intro h
      rw [e_296_3] at h
      refine K_of b_296_128 h_296_128 ?_
      refine q_iconst (0) (by decide) ?_
      refine q_end ?_
      refine K_of b_296_129 h_296_129 ?_
      refine q_istore (Nat.le_of_ble_eq_true rfl) rfl ?_
      refine q_iload rfl ?_
      refine q_if_eq (fun c_133 => ?_) (fun c_133 => ?_)
      · rw [if_pos c_133] at h
        exact (ih dp d hdp _ _ i1 i2 i3 i4 i5 i6 i7 i8 (0 : Int32) _ _ _).2.2.2.2.2.1 h
      · rw [if_neg c_133] at h
        refine q_iload rfl ?_
        refine q_iconst (-1) (by decide) ?_
        refine q_icmp_eq (fun c_139 => ?_) (fun c_139 => ?_)
        · rw [if_pos c_139] at h
          exact (ih dp d hdp _ _ i1 i2 i3 i4 i5 i6 i7 i8 (0 : Int32) _ _ _).2.2.2.2.1 h
        · rw [if_neg c_139] at h
          refine q_aload rfl ?_
          refine q_iload rfl ?_
          refine q_iconst (2) (by decide) ?_
          obtain ⟨d_146, h⟩ := ite_some h
          obtain ⟨⟨x0_146, I0_146, L0_146⟩, e_146, h⟩ := Option.bind_eq_some_iff.mp h
          dsimp only at h
          refine q_fv3I (a_292 X hS (d := d - 1) (by omega) e_146) (by omega) (Nat.le_refl _) (Nat.le_refl _) rfl (Nat.le_of_ble_eq_true rfl) ⟨(zl hS 105 (by decide)), congrArg Prod.fst (sk hS 105 (by decide) rfl), by decide⟩ ?_
          refine q_aload rfl ?_
          refine q_iload rfl ?_
          refine q_iconst (2) (by decide) ?_
          obtain ⟨d_153, h⟩ := ite_some h
          obtain ⟨⟨x1_153, I1_153, L1_153⟩, e_153, h⟩ := Option.bind_eq_some_iff.mp h
          dsimp only at h
          refine q_fv3I (a_292 X hS (d := d - 1) (by omega) e_153) (by omega) (Nat.le_refl _) (Nat.le_refl _) rfl (Nat.le_of_ble_eq_true rfl) ⟨(zl hS 105 (by decide)), congrArg Prod.fst (sk hS 105 (by decide) rfl), by decide⟩ ?_
          refine q_icmp_gt (fun c_156 => ?_) (fun c_156 => ?_)
          · rw [if_pos c_156] at h
            exact (ih dp d hdp _ _ i1 i2 i3 i4 i5 i6 i7 i8 (0 : Int32) _ _ _).2.2.2.2.2.1 h
          · rw [if_neg c_156] at h
            refine q_end ?_
            exact (ih dp d hdp _ _ i1 i2 i3 i4 i5 i6 i7 i8 (0 : Int32) _ _ _).2.2.2.2.1 h
    · intro h
      rw [e_296_4] at h
      refine K_of b_296_159 h_296_159 ?_
      refine q_iload rfl ?_
      refine q_goto ?_
      refine K_of b_296_166 h_296_166 ?_
      refine q_istore (Nat.le_of_ble_eq_true rfl) rfl ?_
      refine q_iinc rfl rfl ?_
      refine q_goto ?_
      refine K_mask [true, true, true, true, true, true, true, true, true, false] (Nat.le_of_ble_eq_true rfl) ?_
      exact (ih dp d hdp _ _ i1 i2 i3 i4 i5 i6 i8 (i8 + Int32.ofInt (-1)) 0 _ _ _).2.2.1 h
    · intro h
      rw [e_296_5] at h
      refine K_of b_296_164 h_296_164 ?_
      refine q_iload rfl ?_
      refine q_end ?_
      refine K_of b_296_166 h_296_166 ?_
      refine q_istore (Nat.le_of_ble_eq_true rfl) rfl ?_
      refine q_iinc rfl rfl ?_
      refine q_goto ?_
      refine K_mask [true, true, true, true, true, true, true, true, true, false] (Nat.le_of_ble_eq_true rfl) ?_
      exact (ih dp d hdp _ _ i1 i2 i3 i4 i5 i6 i7 (i8 + Int32.ofInt (-1)) 0 _ _ _).2.2.1 h
    · intro h
      rw [e_296_6] at h
      refine K_of b_296_206 h_296_206 ?_
      refine q_iinc rfl rfl ?_
      refine q_goto ?_
      refine K_mask [true, true, true, true, true, true, true, false, false, false] (Nat.le_of_ble_eq_true rfl) ?_
      exact (ih dp d hdp _ _ i1 i2 i3 i4 i5 (i6 + Int32.ofInt (1)) 0 0 0 _ _ _).2.1 h
theorem a_296 (X : GX) {z : Nat} {kd : Nat → Nat × Nat} {Rf : Nat → Nat → Option Nat} (hS : Sh z kd Rf) {n dp d : Nat} (hd : dp ≤ d) {I : (Nat → Nat → Int32)} {L : (Nat → Nat → Int64)} {i1 : Int32} {i2 : Int32} {i3 : Int32} {i4 : Int32} {I1 : (Nat → Nat → Int32)} {L1 : (Nat → Nat → Int64)} {r : Int32} (h : g_296 n dp (z, kd, Rf) 0 I L i1 i2 i3 i4 0 0 0 0 0 = some (r, I1, L1)) : Ct X d 296 0 0 [.ref 105, .int i1, .int i2, .int i3, .int i4] (z, kd, I, L, Rf) (AI (fun x τ => x = r ∧ τ = (z, kd, I1, L1, Rf))) :=
  Ct_of mu_296 (Nat.le_of_ble_eq_true rfl) ((w_296 X hS n dp d hd I L i1 i2 i3 i4 0 0 0 0 0 _ _ _).1 h)

/-! 297 CutFloorModel.again(I)I -/
set_option maxHeartbeats 4000000 in
set_option maxRecDepth 100000 in
def g_297 : Nat → Nat → EN → Nat → (Nat → Nat → Int32) → (Nat → Nat → Int64) → Int32 →  Option (Int32 × (Nat → Nat → Int32) × (Nat → Nat → Int64))
  | 0, _, _, _, _, _, _ => none
  | n + 1, dp, e, lab, I, L, i1 =>
    if lab = 0 then (stI (u2 I 105 0 (0 : Int32)) (fun I_2 => (if 1 ≤ dp then (g_193 n (dp - 1) e 0 I_2 L (Int32.toInt64 i1) (0 : Int64) ((Int32.toInt64 (I_2 107 6)) - (1 : Int64))).bind (fun ⟨x0_18, I0_18, L0_18⟩ => (if x0_18 = 0 then (if 1 ≤ dp then (g_194 n (dp - 1) e 0 I0_18 L0_18 (-2 : Int32)).bind (fun ⟨x1_27, I1_27, L1_27⟩ => (some (x1_27, I1_27, L1_27))) else none) else (if 1 ≤ dp then (g_292 n (dp - 1) e 0 I0_18 L0_18 i1 (6 : Int32)).bind (fun ⟨x1_35, I1_35, L1_35⟩ => (if x1_35 = (1 : Int32) then (if 1 ≤ dp then (g_194 n (dp - 1) e 0 I1_35 L1_35 (-3 : Int32)).bind (fun ⟨x2_45, I2_45, L2_45⟩ => (some (x2_45, I2_45, L2_45))) else none) else (if 0 ≤ (((90 : Int32) + ((7 : Int32) * i1)) + (6 : Int32)) ∧ (Int32.toNatClampNeg (((90 : Int32) + ((7 : Int32) * i1)) + (6 : Int32))) < 1570 then (stI (u2 I1_35 107 (Int32.toNatClampNeg (((90 : Int32) + ((7 : Int32) * i1)) + (6 : Int32))) (1 : Int32)) (fun I_64 => (if 1 ≤ dp then (g_194 n (dp - 1) e 0 I_64 L1_35 (0 : Int32)).bind (fun ⟨x2_67, I2_67, L2_67⟩ => (some (x2_67, I2_67, L2_67))) else none))) else none))) else none))) else none)))
    else none
set_option maxRecDepth 100000 in
theorem e_297_0 (n dp : Nat) (e : EN) (I : (Nat → Nat → Int32)) (L : (Nat → Nat → Int64)) (i1 : Int32) : g_297 (n + 1) dp e 0 I L i1 = (stI (u2 I 105 0 (0 : Int32)) (fun I_2 => (if 1 ≤ dp then (g_193 n (dp - 1) e 0 I_2 L (Int32.toInt64 i1) (0 : Int64) ((Int32.toInt64 (I_2 107 6)) - (1 : Int64))).bind (fun ⟨x0_18, I0_18, L0_18⟩ => (if x0_18 = 0 then (if 1 ≤ dp then (g_194 n (dp - 1) e 0 I0_18 L0_18 (-2 : Int32)).bind (fun ⟨x1_27, I1_27, L1_27⟩ => (some (x1_27, I1_27, L1_27))) else none) else (if 1 ≤ dp then (g_292 n (dp - 1) e 0 I0_18 L0_18 i1 (6 : Int32)).bind (fun ⟨x1_35, I1_35, L1_35⟩ => (if x1_35 = (1 : Int32) then (if 1 ≤ dp then (g_194 n (dp - 1) e 0 I1_35 L1_35 (-3 : Int32)).bind (fun ⟨x2_45, I2_45, L2_45⟩ => (some (x2_45, I2_45, L2_45))) else none) else (if 0 ≤ (((90 : Int32) + ((7 : Int32) * i1)) + (6 : Int32)) ∧ (Int32.toNatClampNeg (((90 : Int32) + ((7 : Int32) * i1)) + (6 : Int32))) < 1570 then (stI (u2 I1_35 107 (Int32.toNatClampNeg (((90 : Int32) + ((7 : Int32) * i1)) + (6 : Int32))) (1 : Int32)) (fun I_64 => (if 1 ≤ dp then (g_194 n (dp - 1) e 0 I_64 L1_35 (0 : Int32)).bind (fun ⟨x2_67, I2_67, L2_67⟩ => (some (x2_67, I2_67, L2_67))) else none))) else none))) else none))) else none))) := by rw [g_297.eq_2, if_pos (show (0 : Nat) = 0 from rfl)]
set_option maxHeartbeats 8000000 in
set_option maxRecDepth 100000 in
theorem w_297 (X : GX) {z : Nat} {kd : Nat → Nat × Nat} {Rf : Nat → Nat → Option Nat} (hS : Sh z kd Rf) : ∀ (n dp d : Nat), dp ≤ d → ∀ (I : (Nat → Nat → Int32)) (L : (Nat → Nat → Int64)) (i1 : Int32) (r : Int32) (I1 : (Nat → Nat → Int32)) (L1 : (Nat → Nat → Int64)), (g_297 n dp (z, kd, Rf) 0 I L i1 = some (r, I1, L1) → K X d 297 0 0 (AI (fun x τ => x = r ∧ τ = (z, kd, I1, L1, Rf))) 0 [some (.ref 105), some (.int i1)] [] (z, kd, I, L, Rf) 0 0) := by
  intro n
  induction n with
  | zero => intro dp d hdp I L i1 r I1 L1; exact fun h => by cases h
  | succ n ih =>
    intro dp d hdp I L i1 r I1 L1
    · intro h
      rw [e_297_0] at h
      refine K_of b_297_0 h_297_0 ?_
      refine q_aload rfl ?_
      refine q_iconst (0) (by decide) ?_
      refine q_putI (c0 := 12) (j := 0) rfl rfl (zl hS 105 (by decide)) (sk hS 105 (by decide) rfl) rfl ?_
      obtain ⟨I_2, nI_2, h⟩ := stI_some h
      refine q_nI nI_2 ?_
      refine q_iload rfl ?_
      refine q_i2l ?_
      refine q_lconst (0) (by decide) ?_
      refine q_aload rfl ?_
      refine q_getRs (c0 := 12) (j := 3) rfl rfl (zl hS 105 (by decide)) (sk hS 105 (by decide) rfl) rfl (by decide) (r_105_3 hS) ?_
      refine q_iconst (6) (by decide) ?_
      refine q_ialN (6) rfl (zl hS 107 (by decide)) (sk hS 107 (by decide) rfl) (by decide) (by decide) ?_
      refine q_i2l ?_
      refine q_lconst (1) (by decide) ?_
      refine q_lsub ?_
      obtain ⟨d_18, h⟩ := ite_some h
      obtain ⟨⟨x0_18, I0_18, L0_18⟩, e_18, h⟩ := Option.bind_eq_some_iff.mp h
      dsimp only at h
      refine q_fs3I (a_193 X hS (d := d - 1) (by omega) e_18) (by omega) (Nat.le_refl _) (Nat.le_refl _) rfl (Nat.le_of_ble_eq_true rfl) ?_
      refine q_if_ne (fun c_21 => ?_) (fun c_21 => ?_)
      · rw [if_neg c_21] at h
        refine K_of b_297_31 h_297_31 ?_
        refine q_aload rfl ?_
        refine q_iload rfl ?_
        refine q_iconst (6) (by decide) ?_
        obtain ⟨d_35, h⟩ := ite_some h
        obtain ⟨⟨x1_35, I1_35, L1_35⟩, e_35, h⟩ := Option.bind_eq_some_iff.mp h
        dsimp only at h
        refine q_fv3I (a_292 X hS (d := d - 1) (by omega) e_35) (by omega) (Nat.le_refl _) (Nat.le_refl _) rfl (Nat.le_of_ble_eq_true rfl) ⟨(zl hS 105 (by decide)), congrArg Prod.fst (sk hS 105 (by decide) rfl), by decide⟩ ?_
        refine q_iconst (1) (by decide) ?_
        refine q_icmp_ne (fun c_39 => ?_) (fun c_39 => ?_)
        · rw [if_neg c_39] at h
          refine K_of b_297_49 h_297_49 ?_
          refine q_aload rfl ?_
          refine q_getRs (c0 := 12) (j := 3) rfl rfl (zl hS 105 (by decide)) (sk hS 105 (by decide) rfl) rfl (by decide) (r_105_3 hS) ?_
          refine q_iconst (90) (by decide) ?_
          refine q_iconst (7) (by decide) ?_
          refine q_iload rfl ?_
          refine q_imul ?_
          refine q_iadd ?_
          refine q_iconst (6) (by decide) ?_
          refine q_iadd ?_
          refine q_iconst (1) (by decide) ?_
          obtain ⟨⟨u_64, v_64⟩, h⟩ := ite_some h
          refine q_iasN (Int32.toNatClampNeg (((90 : Int32) + ((7 : Int32) * i1)) + (6 : Int32))) (nx u_64) (zl hS 107 (by decide)) (sk hS 107 (by decide) rfl) v_64 (by decide) ?_
          obtain ⟨I_64, nI_64, h⟩ := stI_some h
          refine q_nI nI_64 ?_
          refine q_aload rfl ?_
          refine q_iconst (0) (by decide) ?_
          obtain ⟨d_67, h⟩ := ite_some h
          obtain ⟨⟨x2_67, I2_67, L2_67⟩, e_67, h⟩ := Option.bind_eq_some_iff.mp h
          dsimp only at h
          refine q_fv2I (a_194 X hS (d := d - 1) (by omega) e_67) (by omega) (Nat.le_refl _) (Nat.le_refl _) rfl (Nat.le_of_ble_eq_true rfl) ⟨(zl hS 105 (by decide)), congrArg Prod.fst (sk hS 105 (by decide) rfl), by decide⟩ ?_
          cases h
          exact q_iret rfl (Nat.le_refl _) (Nat.le_refl _) ⟨rfl, rfl⟩
        · rw [if_pos c_39] at h
          refine q_aload rfl ?_
          refine q_iconst (-3) (by decide) ?_
          obtain ⟨d_45, h⟩ := ite_some h
          obtain ⟨⟨x2_45, I2_45, L2_45⟩, e_45, h⟩ := Option.bind_eq_some_iff.mp h
          dsimp only at h
          refine q_fv2I (a_194 X hS (d := d - 1) (by omega) e_45) (by omega) (Nat.le_refl _) (Nat.le_refl _) rfl (Nat.le_of_ble_eq_true rfl) ⟨(zl hS 105 (by decide)), congrArg Prod.fst (sk hS 105 (by decide) rfl), by decide⟩ ?_
          cases h
          exact q_iret rfl (Nat.le_refl _) (Nat.le_refl _) ⟨rfl, rfl⟩
      · rw [if_pos c_21] at h
        refine q_aload rfl ?_
        refine q_iconst (-2) (by decide) ?_
        obtain ⟨d_27, h⟩ := ite_some h
        obtain ⟨⟨x1_27, I1_27, L1_27⟩, e_27, h⟩ := Option.bind_eq_some_iff.mp h
        dsimp only at h
        refine q_fv2I (a_194 X hS (d := d - 1) (by omega) e_27) (by omega) (Nat.le_refl _) (Nat.le_refl _) rfl (Nat.le_of_ble_eq_true rfl) ⟨(zl hS 105 (by decide)), congrArg Prod.fst (sk hS 105 (by decide) rfl), by decide⟩ ?_
        cases h
        exact q_iret rfl (Nat.le_refl _) (Nat.le_refl _) ⟨rfl, rfl⟩
theorem a_297 (X : GX) {z : Nat} {kd : Nat → Nat × Nat} {Rf : Nat → Nat → Option Nat} (hS : Sh z kd Rf) {n dp d : Nat} (hd : dp ≤ d) {I : (Nat → Nat → Int32)} {L : (Nat → Nat → Int64)} {i1 : Int32} {I1 : (Nat → Nat → Int32)} {L1 : (Nat → Nat → Int64)} {r : Int32} (h : g_297 n dp (z, kd, Rf) 0 I L i1 = some (r, I1, L1)) : Ct X d 297 0 0 [.ref 105, .int i1] (z, kd, I, L, Rf) (AI (fun x τ => x = r ∧ τ = (z, kd, I1, L1, Rf))) :=
  Ct_of mu_297 (Nat.le_of_ble_eq_true rfl) ((w_297 X hS n dp d hd I L i1 _ _ _) h)

/-! 299 CutFloorModel.touches(II)Z -/
set_option maxHeartbeats 4000000 in
set_option maxRecDepth 100000 in
def g_299 : Nat → Nat → EN → Nat → (Nat → Nat → Int32) → (Nat → Nat → Int64) → Int32 → Int32 → Int32 →  Option (Int32 × (Nat → Nat → Int32) × (Nat → Nat → Int64))
  | 0, _, _, _, _, _, _, _, _ => none
  | n + 1, dp, e, lab, I, L, i1, i2, i3 =>
    if lab = 0 then (if 1 ≤ dp then (g_292 n (dp - 1) e 0 I L i1 (2 : Int32)).bind (fun ⟨x0_3, I0_3, L0_3⟩ => (if 1 ≤ dp then (g_292 n (dp - 1) e 0 I0_3 L0_3 i2 (2 : Int32)).bind (fun ⟨x1_9, I1_9, L1_9⟩ => (if x0_3 = x1_9 then (if 1 ≤ dp then (g_292 n (dp - 1) e 0 I1_9 L1_9 i1 (3 : Int32)).bind (fun ⟨x2_18, I2_18, L2_18⟩ => (if 1 ≤ dp then (g_292 n (dp - 1) e 0 I2_18 L2_18 i2 (3 : Int32)).bind (fun ⟨x3_24, I3_24, L3_24⟩ => (if x2_18 = x3_24 then (if 1 ≤ dp then (g_292 n (dp - 1) e 0 I3_24 L3_24 i1 (4 : Int32)).bind (fun ⟨x4_33, I4_33, L4_33⟩ => (if 1 ≤ dp then (g_292 n (dp - 1) e 0 I4_33 L4_33 i2 (4 : Int32)).bind (fun ⟨x5_39, I5_39, L5_39⟩ => (if x4_33 = x5_39 then (if (1 : Int32) = 0 then (if 1 ≤ dp then (g_292 n (dp - 1) e 0 I5_39 L5_39 i1 (5 : Int32)).bind (fun ⟨x6_58, I6_58, L6_58⟩ => (if 1 ≤ dp then (g_292 n (dp - 1) e 0 I6_58 L6_58 i2 (5 : Int32)).bind (fun ⟨x7_64, I7_64, L7_64⟩ => (if (x6_58 &&& x7_64) = 0 then (some ((0 : Int32), I7_64, L7_64)) else (g_299 n dp e 2 I7_64 L7_64 i1 i2 (1 : Int32)))) else none)) else none) else (g_299 n dp e 2 I5_39 L5_39 i1 i2 (1 : Int32))) else (g_299 n dp e 1 I5_39 L5_39 i1 i2 0))) else none)) else none) else (g_299 n dp e 1 I3_24 L3_24 i1 i2 0))) else none)) else none) else (g_299 n dp e 1 I1_9 L1_9 i1 i2 0))) else none)) else none)
    else if lab = 1 then (if (0 : Int32) = 0 then (if 1 ≤ dp then (g_292 n (dp - 1) e 0 I L i1 (5 : Int32)).bind (fun ⟨x0_58, I0_58, L0_58⟩ => (if 1 ≤ dp then (g_292 n (dp - 1) e 0 I0_58 L0_58 i2 (5 : Int32)).bind (fun ⟨x1_64, I1_64, L1_64⟩ => (if (x0_58 &&& x1_64) = 0 then (some ((0 : Int32), I1_64, L1_64)) else (g_299 n dp e 2 I1_64 L1_64 i1 i2 (0 : Int32)))) else none)) else none) else (g_299 n dp e 2 I L i1 i2 (0 : Int32)))
    else if lab = 2 then (some ((1 : Int32), I, L))
    else none
set_option maxRecDepth 100000 in
theorem e_299_0 (n dp : Nat) (e : EN) (I : (Nat → Nat → Int32)) (L : (Nat → Nat → Int64)) (i1 : Int32) (i2 : Int32) (i3 : Int32) : g_299 (n + 1) dp e 0 I L i1 i2 i3 = (if 1 ≤ dp then (g_292 n (dp - 1) e 0 I L i1 (2 : Int32)).bind (fun ⟨x0_3, I0_3, L0_3⟩ => (if 1 ≤ dp then (g_292 n (dp - 1) e 0 I0_3 L0_3 i2 (2 : Int32)).bind (fun ⟨x1_9, I1_9, L1_9⟩ => (if x0_3 = x1_9 then (if 1 ≤ dp then (g_292 n (dp - 1) e 0 I1_9 L1_9 i1 (3 : Int32)).bind (fun ⟨x2_18, I2_18, L2_18⟩ => (if 1 ≤ dp then (g_292 n (dp - 1) e 0 I2_18 L2_18 i2 (3 : Int32)).bind (fun ⟨x3_24, I3_24, L3_24⟩ => (if x2_18 = x3_24 then (if 1 ≤ dp then (g_292 n (dp - 1) e 0 I3_24 L3_24 i1 (4 : Int32)).bind (fun ⟨x4_33, I4_33, L4_33⟩ => (if 1 ≤ dp then (g_292 n (dp - 1) e 0 I4_33 L4_33 i2 (4 : Int32)).bind (fun ⟨x5_39, I5_39, L5_39⟩ => (if x4_33 = x5_39 then (if (1 : Int32) = 0 then (if 1 ≤ dp then (g_292 n (dp - 1) e 0 I5_39 L5_39 i1 (5 : Int32)).bind (fun ⟨x6_58, I6_58, L6_58⟩ => (if 1 ≤ dp then (g_292 n (dp - 1) e 0 I6_58 L6_58 i2 (5 : Int32)).bind (fun ⟨x7_64, I7_64, L7_64⟩ => (if (x6_58 &&& x7_64) = 0 then (some ((0 : Int32), I7_64, L7_64)) else (g_299 n dp e 2 I7_64 L7_64 i1 i2 (1 : Int32)))) else none)) else none) else (g_299 n dp e 2 I5_39 L5_39 i1 i2 (1 : Int32))) else (g_299 n dp e 1 I5_39 L5_39 i1 i2 0))) else none)) else none) else (g_299 n dp e 1 I3_24 L3_24 i1 i2 0))) else none)) else none) else (g_299 n dp e 1 I1_9 L1_9 i1 i2 0))) else none)) else none) := by rw [g_299.eq_2, if_pos (show (0 : Nat) = 0 from rfl)]
set_option maxRecDepth 100000 in
theorem e_299_1 (n dp : Nat) (e : EN) (I : (Nat → Nat → Int32)) (L : (Nat → Nat → Int64)) (i1 : Int32) (i2 : Int32) (i3 : Int32) : g_299 (n + 1) dp e 1 I L i1 i2 i3 = (if (0 : Int32) = 0 then (if 1 ≤ dp then (g_292 n (dp - 1) e 0 I L i1 (5 : Int32)).bind (fun ⟨x0_58, I0_58, L0_58⟩ => (if 1 ≤ dp then (g_292 n (dp - 1) e 0 I0_58 L0_58 i2 (5 : Int32)).bind (fun ⟨x1_64, I1_64, L1_64⟩ => (if (x0_58 &&& x1_64) = 0 then (some ((0 : Int32), I1_64, L1_64)) else (g_299 n dp e 2 I1_64 L1_64 i1 i2 (0 : Int32)))) else none)) else none) else (g_299 n dp e 2 I L i1 i2 (0 : Int32))) := by rw [g_299.eq_2, if_neg (show ¬ ((1 : Nat) = 0) by decide), if_pos (show (1 : Nat) = 1 from rfl)]
set_option maxRecDepth 100000 in
theorem e_299_2 (n dp : Nat) (e : EN) (I : (Nat → Nat → Int32)) (L : (Nat → Nat → Int64)) (i1 : Int32) (i2 : Int32) (i3 : Int32) : g_299 (n + 1) dp e 2 I L i1 i2 i3 = (some ((1 : Int32), I, L)) := by rw [g_299.eq_2, if_neg (show ¬ ((2 : Nat) = 0) by decide), if_neg (show ¬ ((2 : Nat) = 1) by decide), if_pos (show (2 : Nat) = 2 from rfl)]
set_option maxHeartbeats 8000000 in
set_option maxRecDepth 100000 in
theorem w_299 (X : GX) {z : Nat} {kd : Nat → Nat × Nat} {Rf : Nat → Nat → Option Nat} (hS : Sh z kd Rf) : ∀ (n dp d : Nat), dp ≤ d → ∀ (I : (Nat → Nat → Int32)) (L : (Nat → Nat → Int64)) (i1 : Int32) (i2 : Int32) (i3 : Int32) (r : Int32) (I1 : (Nat → Nat → Int32)) (L1 : (Nat → Nat → Int64)), (g_299 n dp (z, kd, Rf) 0 I L i1 i2 i3 = some (r, I1, L1) → K X d 299 0 0 (AI (fun x τ => x = r ∧ τ = (z, kd, I1, L1, Rf))) 0 [some (.ref 105), some (.int i1), some (.int i2), none] [] (z, kd, I, L, Rf) 0 0) ∧
    (g_299 n dp (z, kd, Rf) 1 I L i1 i2 i3 = some (r, I1, L1) → K X d 299 0 0 (AI (fun x τ => x = r ∧ τ = (z, kd, I1, L1, Rf))) 49 [some (.ref 105), some (.int i1), some (.int i2), none] [] (z, kd, I, L, Rf) 0 0) ∧
    (g_299 n dp (z, kd, Rf) 2 I L i1 i2 i3 = some (r, I1, L1) → K X d 299 0 0 (AI (fun x τ => x = r ∧ τ = (z, kd, I1, L1, Rf))) 71 [some (.ref 105), some (.int i1), some (.int i2), some (.int i3)] [] (z, kd, I, L, Rf) 0 0) := by
  intro n
  induction n with
  | zero => intro dp d hdp I L i1 i2 i3 r I1 L1; exact ⟨(fun h => by cases h), (fun h => by cases h), (fun h => by cases h)⟩
  | succ n ih =>
    intro dp d hdp I L i1 i2 i3 r I1 L1
    refine ⟨?_, ?_, ?_⟩
    · intro h
      rw [e_299_0] at h
      refine K_of b_299_0 h_299_0 ?_
      refine q_aload rfl ?_
      refine q_iload rfl ?_
      refine q_iconst (2) (by decide) ?_
      obtain ⟨d_3, h⟩ := ite_some h
      obtain ⟨⟨x0_3, I0_3, L0_3⟩, e_3, h⟩ := Option.bind_eq_some_iff.mp h
      dsimp only at h
      refine q_fv3I (a_292 X hS (d := d - 1) (by omega) e_3) (by omega) (Nat.le_refl _) (Nat.le_refl _) rfl (Nat.le_of_ble_eq_true rfl) ⟨(zl hS 105 (by decide)), congrArg Prod.fst (sk hS 105 (by decide) rfl), by decide⟩ ?_
      refine q_aload rfl ?_
      refine q_iload rfl ?_
      refine q_iconst (2) (by decide) ?_
      obtain ⟨d_9, h⟩ := ite_some h
      obtain ⟨⟨x1_9, I1_9, L1_9⟩, e_9, h⟩ := Option.bind_eq_some_iff.mp h
      dsimp only at h
      refine q_fv3I (a_292 X hS (d := d - 1) (by omega) e_9) (by omega) (Nat.le_refl _) (Nat.le_refl _) rfl (Nat.le_of_ble_eq_true rfl) ⟨(zl hS 105 (by decide)), congrArg Prod.fst (sk hS 105 (by decide) rfl), by decide⟩ ?_
      refine q_icmp_ne (fun c_12 => ?_) (fun c_12 => ?_)
      · rw [if_neg c_12] at h
        exact (ih dp d hdp _ _ i1 i2 0 _ _ _).2.1 h
      · rw [if_pos c_12] at h
        refine q_aload rfl ?_
        refine q_iload rfl ?_
        refine q_iconst (3) (by decide) ?_
        obtain ⟨d_18, h⟩ := ite_some h
        obtain ⟨⟨x2_18, I2_18, L2_18⟩, e_18, h⟩ := Option.bind_eq_some_iff.mp h
        dsimp only at h
        refine q_fv3I (a_292 X hS (d := d - 1) (by omega) e_18) (by omega) (Nat.le_refl _) (Nat.le_refl _) rfl (Nat.le_of_ble_eq_true rfl) ⟨(zl hS 105 (by decide)), congrArg Prod.fst (sk hS 105 (by decide) rfl), by decide⟩ ?_
        refine q_aload rfl ?_
        refine q_iload rfl ?_
        refine q_iconst (3) (by decide) ?_
        obtain ⟨d_24, h⟩ := ite_some h
        obtain ⟨⟨x3_24, I3_24, L3_24⟩, e_24, h⟩ := Option.bind_eq_some_iff.mp h
        dsimp only at h
        refine q_fv3I (a_292 X hS (d := d - 1) (by omega) e_24) (by omega) (Nat.le_refl _) (Nat.le_refl _) rfl (Nat.le_of_ble_eq_true rfl) ⟨(zl hS 105 (by decide)), congrArg Prod.fst (sk hS 105 (by decide) rfl), by decide⟩ ?_
        refine q_icmp_ne (fun c_27 => ?_) (fun c_27 => ?_)
        · rw [if_neg c_27] at h
          exact (ih dp d hdp _ _ i1 i2 0 _ _ _).2.1 h
        · rw [if_pos c_27] at h
          refine q_aload rfl ?_
          refine q_iload rfl ?_
          refine q_iconst (4) (by decide) ?_
          obtain ⟨d_33, h⟩ := ite_some h
          obtain ⟨⟨x4_33, I4_33, L4_33⟩, e_33, h⟩ := Option.bind_eq_some_iff.mp h
          dsimp only at h
          refine q_fv3I (a_292 X hS (d := d - 1) (by omega) e_33) (by omega) (Nat.le_refl _) (Nat.le_refl _) rfl (Nat.le_of_ble_eq_true rfl) ⟨(zl hS 105 (by decide)), congrArg Prod.fst (sk hS 105 (by decide) rfl), by decide⟩ ?_
          refine q_aload rfl ?_
          refine q_iload rfl ?_
          refine q_iconst (4) (by decide) ?_
          obtain ⟨d_39, h⟩ := ite_some h
          obtain ⟨⟨x5_39, I5_39, L5_39⟩, e_39, h⟩ := Option.bind_eq_some_iff.mp h
          dsimp only at h
          refine q_fv3I (a_292 X hS (d := d - 1) (by omega) e_39) (by omega) (Nat.le_refl _) (Nat.le_refl _) rfl (Nat.le_of_ble_eq_true rfl) ⟨(zl hS 105 (by decide)), congrArg Prod.fst (sk hS 105 (by decide) rfl), by decide⟩ ?_
          refine q_icmp_ne (fun c_42 => ?_) (fun c_42 => ?_)
          · rw [if_neg c_42] at h
            exact (ih dp d hdp _ _ i1 i2 0 _ _ _).2.1 h
          · rw [if_pos c_42] at h
            refine q_iconst (1) (by decide) ?_
            refine q_goto ?_
            refine K_of b_299_50 h_299_50 ?_
            refine q_istore (Nat.le_of_ble_eq_true rfl) rfl ?_
            refine q_iload rfl ?_
            refine q_if_ne (fun c_52 => ?_) (fun c_52 => ?_)
            · rw [if_neg c_52] at h
              exact (ih dp d hdp _ _ i1 i2 (1 : Int32) _ _ _).2.2 h
            · rw [if_pos c_52] at h
              refine q_aload rfl ?_
              refine q_iload rfl ?_
              refine q_iconst (5) (by decide) ?_
              obtain ⟨d_58, h⟩ := ite_some h
              obtain ⟨⟨x6_58, I6_58, L6_58⟩, e_58, h⟩ := Option.bind_eq_some_iff.mp h
              dsimp only at h
              refine q_fv3I (a_292 X hS (d := d - 1) (by omega) e_58) (by omega) (Nat.le_refl _) (Nat.le_refl _) rfl (Nat.le_of_ble_eq_true rfl) ⟨(zl hS 105 (by decide)), congrArg Prod.fst (sk hS 105 (by decide) rfl), by decide⟩ ?_
              refine q_aload rfl ?_
              refine q_iload rfl ?_
              refine q_iconst (5) (by decide) ?_
              obtain ⟨d_64, h⟩ := ite_some h
              obtain ⟨⟨x7_64, I7_64, L7_64⟩, e_64, h⟩ := Option.bind_eq_some_iff.mp h
              dsimp only at h
              refine q_fv3I (a_292 X hS (d := d - 1) (by omega) e_64) (by omega) (Nat.le_refl _) (Nat.le_refl _) rfl (Nat.le_of_ble_eq_true rfl) ⟨(zl hS 105 (by decide)), congrArg Prod.fst (sk hS 105 (by decide) rfl), by decide⟩ ?_
              refine q_iand ?_
              refine q_if_eq (fun c_68 => ?_) (fun c_68 => ?_)
              · rw [if_pos c_68] at h
                refine K_of b_299_75 h_299_75 ?_
                refine q_iconst (0) (by decide) ?_
                refine q_end ?_
                refine K_of b_299_76 h_299_76 ?_
                cases h
                exact q_iret rfl (Nat.le_refl _) (Nat.le_refl _) ⟨rfl, rfl⟩
              · rw [if_neg c_68] at h
                refine q_end ?_
                exact (ih dp d hdp _ _ i1 i2 (1 : Int32) _ _ _).2.2 h
    · intro h
      rw [e_299_1] at h
      refine K_of b_299_49 h_299_49 ?_
      refine q_iconst (0) (by decide) ?_
      refine q_end ?_
      refine K_of b_299_50 h_299_50 ?_
      refine q_istore (Nat.le_of_ble_eq_true rfl) rfl ?_
      refine q_iload rfl ?_
      refine q_if_ne (fun c_52 => ?_) (fun c_52 => ?_)
      · rw [if_neg c_52] at h
        exact (ih dp d hdp _ _ i1 i2 (0 : Int32) _ _ _).2.2 h
      · rw [if_pos c_52] at h
        refine q_aload rfl ?_
        refine q_iload rfl ?_
        refine q_iconst (5) (by decide) ?_
        obtain ⟨d_58, h⟩ := ite_some h
        obtain ⟨⟨x0_58, I0_58, L0_58⟩, e_58, h⟩ := Option.bind_eq_some_iff.mp h
        dsimp only at h
        refine q_fv3I (a_292 X hS (d := d - 1) (by omega) e_58) (by omega) (Nat.le_refl _) (Nat.le_refl _) rfl (Nat.le_of_ble_eq_true rfl) ⟨(zl hS 105 (by decide)), congrArg Prod.fst (sk hS 105 (by decide) rfl), by decide⟩ ?_
        refine q_aload rfl ?_
        refine q_iload rfl ?_
        refine q_iconst (5) (by decide) ?_
        obtain ⟨d_64, h⟩ := ite_some h
        obtain ⟨⟨x1_64, I1_64, L1_64⟩, e_64, h⟩ := Option.bind_eq_some_iff.mp h
        dsimp only at h
        refine q_fv3I (a_292 X hS (d := d - 1) (by omega) e_64) (by omega) (Nat.le_refl _) (Nat.le_refl _) rfl (Nat.le_of_ble_eq_true rfl) ⟨(zl hS 105 (by decide)), congrArg Prod.fst (sk hS 105 (by decide) rfl), by decide⟩ ?_
        refine q_iand ?_
        refine q_if_eq (fun c_68 => ?_) (fun c_68 => ?_)
        · rw [if_pos c_68] at h
          refine K_of b_299_75 h_299_75 ?_
          refine q_iconst (0) (by decide) ?_
          refine q_end ?_
          refine K_of b_299_76 h_299_76 ?_
          cases h
          exact q_iret rfl (Nat.le_refl _) (Nat.le_refl _) ⟨rfl, rfl⟩
        · rw [if_neg c_68] at h
          refine q_end ?_
          exact (ih dp d hdp _ _ i1 i2 (0 : Int32) _ _ _).2.2 h
    · intro h
      rw [e_299_2] at h
      refine K_of b_299_71 h_299_71 ?_
      refine q_iconst (1) (by decide) ?_
      refine q_goto ?_
      refine K_of b_299_76 h_299_76 ?_
      cases h
      exact q_iret rfl (Nat.le_refl _) (Nat.le_refl _) ⟨rfl, rfl⟩
theorem a_299 (X : GX) {z : Nat} {kd : Nat → Nat × Nat} {Rf : Nat → Nat → Option Nat} (hS : Sh z kd Rf) {n dp d : Nat} (hd : dp ≤ d) {I : (Nat → Nat → Int32)} {L : (Nat → Nat → Int64)} {i1 : Int32} {i2 : Int32} {I1 : (Nat → Nat → Int32)} {L1 : (Nat → Nat → Int64)} {r : Int32} (h : g_299 n dp (z, kd, Rf) 0 I L i1 i2 0 = some (r, I1, L1)) : Ct X d 299 0 0 [.ref 105, .int i1, .int i2] (z, kd, I, L, Rf) (AI (fun x τ => x = r ∧ τ = (z, kd, I1, L1, Rf))) :=
  Ct_of mu_299 (Nat.le_of_ble_eq_true rfl) ((w_299 X hS n dp d hd I L i1 i2 0 _ _ _).1 h)

/-! 298 CutFloorModel.recall(II)I -/
set_option maxHeartbeats 4000000 in
set_option maxRecDepth 100000 in
def g_298 : Nat → Nat → EN → Nat → (Nat → Nat → Int32) → (Nat → Nat → Int64) → Int32 → Int32 → Int32 → Int32 → Int32 → Int32 → Int32 →  Option (Int32 × (Nat → Nat → Int32) × (Nat → Nat → Int64))
  | 0, _, _, _, _, _, _, _, _, _, _, _, _ => none
  | n + 1, dp, e, lab, I, L, i1, i2, i3, i4, i5, i6, i7 =>
    if lab = 0 then (stI (u2 I 105 0 (0 : Int32)) (fun I_2 => (if 1 ≤ dp then (g_193 n (dp - 1) e 0 I_2 L (Int32.toInt64 i1) (0 : Int64) (255 : Int64)).bind (fun ⟨x0_19, I0_19, L0_19⟩ => (if x0_19 = 0 then (some ((-1 : Int32), I0_19, L0_19)) else (if i2 = (-1 : Int32) then (g_298 n dp e 1 I0_19 L0_19 i1 i2 (I_2 107 6) 0 0 0 0) else (if 1 ≤ dp then (g_193 n (dp - 1) e 0 I0_19 L0_19 (Int32.toInt64 i2) (0 : Int64) ((Int32.toInt64 (I_2 107 6)) - (1 : Int64))).bind (fun ⟨x1_37, I1_37, L1_37⟩ => (if x1_37 = 0 then (some ((-1 : Int32), I1_37, L1_37)) else (g_298 n dp e 1 I1_37 L1_37 i1 i2 (I_2 107 6) 0 0 0 0))) else none)))) else none)))
    else if lab = 1 then (g_298 n dp e 2 I L i1 i2 i3 (0 : Int32) (0 : Int32) 0 0)
    else if lab = 2 then (if i3 ≤ i5 then (g_298 n dp e 3 I L i1 i2 i3 i4 (1 : Int32) 0 0) else (if 1 ≤ dp then (g_292 n (dp - 1) e 0 I L i5 (5 : Int32)).bind (fun ⟨x0_67, I0_67, L0_67⟩ => (if (x0_67 &&& i1) = 0 then (if 0 ≤ i5 ∧ (Int32.toNatClampNeg i5) < 16 then (stI (u2 I0_67 141 (Int32.toNatClampNeg i5) (-1 : Int32)) (fun I_80 => (g_298 n dp e 2 I_80 L0_67 i1 i2 i3 i4 (i5 + Int32.ofInt (1)) 0 0))) else none) else (if 0 ≤ i5 ∧ (Int32.toNatClampNeg i5) < 16 then (stI (u2 I0_67 141 (Int32.toNatClampNeg i5) (0 : Int32)) (fun I_80 => (g_298 n dp e 2 I_80 L0_67 i1 i2 i3 i4 (i5 + Int32.ofInt (1)) 0 0))) else none))) else none))
    else if lab = 3 then (if i3 < i5 then (g_298 n dp e 6 I L i1 i2 i3 i4 (0 : Int32) 0 0) else (g_298 n dp e 4 I L i1 i2 i3 i4 i5 (0 : Int32) 0))
    else if lab = 4 then (if i3 ≤ i6 then (g_298 n dp e 3 I L i1 i2 i3 i4 (i5 + Int32.ofInt (1)) 0 0) else (g_298 n dp e 5 I L i1 i2 i3 i4 i5 i6 (0 : Int32)))
    else if lab = 5 then (if i3 ≤ i7 then (g_298 n dp e 4 I L i1 i2 i3 i4 i5 (i6 + Int32.ofInt (1)) 0) else (if 0 ≤ i6 ∧ (Int32.toNatClampNeg i6) < 16 then (if (I 141 (Int32.toNatClampNeg i6)) = (-1 : Int32) then (if 0 ≤ i7 ∧ (Int32.toNatClampNeg i7) < 16 then (if 1 ≤ dp then (g_193 n (dp - 1) e 0 I L (Int32.toInt64 (I 141 (Int32.toNatClampNeg i7))) (0 : Int64) ((Int32.toInt64 i5) - (1 : Int64))).bind (fun ⟨x0_145, I0_145, L0_145⟩ => (if x0_145 = 0 then (if 0 ≤ i6 ∧ (Int32.toNatClampNeg i6) < 16 then (if 0 ≤ i6 ∧ (Int32.toNatClampNeg i6) < 16 then (stI (u2 I0_145 141 (Int32.toNatClampNeg i6) (I0_145 141 (Int32.toNatClampNeg i6))) (fun I_174 => (g_298 n dp e 5 I_174 L0_145 i1 i2 i3 i4 i5 i6 (i7 + Int32.ofInt (1))))) else none) else none) else (if 1 ≤ dp then (g_299 n (dp - 1) e 0 I0_145 L0_145 i6 i7 0).bind (fun ⟨x1_156, I1_156, L1_156⟩ => (if x1_156 = 0 then (if 0 ≤ i6 ∧ (Int32.toNatClampNeg i6) < 16 then (if 0 ≤ i6 ∧ (Int32.toNatClampNeg i6) < 16 then (stI (u2 I1_156 141 (Int32.toNatClampNeg i6) (I1_156 141 (Int32.toNatClampNeg i6))) (fun I_174 => (g_298 n dp e 5 I_174 L1_156 i1 i2 i3 i4 i5 i6 (i7 + Int32.ofInt (1))))) else none) else none) else (if 0 ≤ i6 ∧ (Int32.toNatClampNeg i6) < 16 then (stI (u2 I1_156 141 (Int32.toNatClampNeg i6) i5) (fun I_174 => (g_298 n dp e 5 I_174 L1_156 i1 i2 i3 i4 i5 i6 (i7 + Int32.ofInt (1))))) else none))) else none))) else none) else none) else (if 0 ≤ i6 ∧ (Int32.toNatClampNeg i6) < 16 then (if 0 ≤ i6 ∧ (Int32.toNatClampNeg i6) < 16 then (stI (u2 I 141 (Int32.toNatClampNeg i6) (I 141 (Int32.toNatClampNeg i6))) (fun I_174 => (g_298 n dp e 5 I_174 L i1 i2 i3 i4 i5 i6 (i7 + Int32.ofInt (1))))) else none) else none)) else none))
    else if lab = 6 then (if i3 ≤ i5 then (if i2 = (-1 : Int32) then (some (i4, I, L)) else (if 0 ≤ i2 ∧ (Int32.toNatClampNeg i2) < 16 then (some ((I 141 (Int32.toNatClampNeg i2)), I, L)) else none)) else (if 0 ≤ i5 ∧ (Int32.toNatClampNeg i5) < 16 then (if (I 141 (Int32.toNatClampNeg i5)) = (-1 : Int32) then (g_298 n dp e 6 I L i1 i2 i3 (i4 ||| (0 : Int32)) (i5 + Int32.ofInt (1)) 0 0) else (stI (i4 ||| ((1 : Int32) <<< (i5 &&& 31))) (fun v_224 => (g_298 n dp e 6 I L i1 i2 i3 v_224 (i5 + Int32.ofInt (1)) 0 0)))) else none))
    else none
set_option maxRecDepth 100000 in
theorem e_298_0 (n dp : Nat) (e : EN) (I : (Nat → Nat → Int32)) (L : (Nat → Nat → Int64)) (i1 : Int32) (i2 : Int32) (i3 : Int32) (i4 : Int32) (i5 : Int32) (i6 : Int32) (i7 : Int32) : g_298 (n + 1) dp e 0 I L i1 i2 i3 i4 i5 i6 i7 = (stI (u2 I 105 0 (0 : Int32)) (fun I_2 => (if 1 ≤ dp then (g_193 n (dp - 1) e 0 I_2 L (Int32.toInt64 i1) (0 : Int64) (255 : Int64)).bind (fun ⟨x0_19, I0_19, L0_19⟩ => (if x0_19 = 0 then (some ((-1 : Int32), I0_19, L0_19)) else (if i2 = (-1 : Int32) then (g_298 n dp e 1 I0_19 L0_19 i1 i2 (I_2 107 6) 0 0 0 0) else (if 1 ≤ dp then (g_193 n (dp - 1) e 0 I0_19 L0_19 (Int32.toInt64 i2) (0 : Int64) ((Int32.toInt64 (I_2 107 6)) - (1 : Int64))).bind (fun ⟨x1_37, I1_37, L1_37⟩ => (if x1_37 = 0 then (some ((-1 : Int32), I1_37, L1_37)) else (g_298 n dp e 1 I1_37 L1_37 i1 i2 (I_2 107 6) 0 0 0 0))) else none)))) else none))) := by rw [g_298.eq_2, if_pos (show (0 : Nat) = 0 from rfl)]
set_option maxRecDepth 100000 in
theorem e_298_1 (n dp : Nat) (e : EN) (I : (Nat → Nat → Int32)) (L : (Nat → Nat → Int64)) (i1 : Int32) (i2 : Int32) (i3 : Int32) (i4 : Int32) (i5 : Int32) (i6 : Int32) (i7 : Int32) : g_298 (n + 1) dp e 1 I L i1 i2 i3 i4 i5 i6 i7 = (g_298 n dp e 2 I L i1 i2 i3 (0 : Int32) (0 : Int32) 0 0) := by rw [g_298.eq_2, if_neg (show ¬ ((1 : Nat) = 0) by decide), if_pos (show (1 : Nat) = 1 from rfl)]
set_option maxRecDepth 100000 in
theorem e_298_2 (n dp : Nat) (e : EN) (I : (Nat → Nat → Int32)) (L : (Nat → Nat → Int64)) (i1 : Int32) (i2 : Int32) (i3 : Int32) (i4 : Int32) (i5 : Int32) (i6 : Int32) (i7 : Int32) : g_298 (n + 1) dp e 2 I L i1 i2 i3 i4 i5 i6 i7 = (if i3 ≤ i5 then (g_298 n dp e 3 I L i1 i2 i3 i4 (1 : Int32) 0 0) else (if 1 ≤ dp then (g_292 n (dp - 1) e 0 I L i5 (5 : Int32)).bind (fun ⟨x0_67, I0_67, L0_67⟩ => (if (x0_67 &&& i1) = 0 then (if 0 ≤ i5 ∧ (Int32.toNatClampNeg i5) < 16 then (stI (u2 I0_67 141 (Int32.toNatClampNeg i5) (-1 : Int32)) (fun I_80 => (g_298 n dp e 2 I_80 L0_67 i1 i2 i3 i4 (i5 + Int32.ofInt (1)) 0 0))) else none) else (if 0 ≤ i5 ∧ (Int32.toNatClampNeg i5) < 16 then (stI (u2 I0_67 141 (Int32.toNatClampNeg i5) (0 : Int32)) (fun I_80 => (g_298 n dp e 2 I_80 L0_67 i1 i2 i3 i4 (i5 + Int32.ofInt (1)) 0 0))) else none))) else none)) := by rw [g_298.eq_2, if_neg (show ¬ ((2 : Nat) = 0) by decide), if_neg (show ¬ ((2 : Nat) = 1) by decide), if_pos (show (2 : Nat) = 2 from rfl)]
set_option maxRecDepth 100000 in
theorem e_298_3 (n dp : Nat) (e : EN) (I : (Nat → Nat → Int32)) (L : (Nat → Nat → Int64)) (i1 : Int32) (i2 : Int32) (i3 : Int32) (i4 : Int32) (i5 : Int32) (i6 : Int32) (i7 : Int32) : g_298 (n + 1) dp e 3 I L i1 i2 i3 i4 i5 i6 i7 = (if i3 < i5 then (g_298 n dp e 6 I L i1 i2 i3 i4 (0 : Int32) 0 0) else (g_298 n dp e 4 I L i1 i2 i3 i4 i5 (0 : Int32) 0)) := by rw [g_298.eq_2, if_neg (show ¬ ((3 : Nat) = 0) by decide), if_neg (show ¬ ((3 : Nat) = 1) by decide), if_neg (show ¬ ((3 : Nat) = 2) by decide), if_pos (show (3 : Nat) = 3 from rfl)]
set_option maxRecDepth 100000 in
theorem e_298_4 (n dp : Nat) (e : EN) (I : (Nat → Nat → Int32)) (L : (Nat → Nat → Int64)) (i1 : Int32) (i2 : Int32) (i3 : Int32) (i4 : Int32) (i5 : Int32) (i6 : Int32) (i7 : Int32) : g_298 (n + 1) dp e 4 I L i1 i2 i3 i4 i5 i6 i7 = (if i3 ≤ i6 then (g_298 n dp e 3 I L i1 i2 i3 i4 (i5 + Int32.ofInt (1)) 0 0) else (g_298 n dp e 5 I L i1 i2 i3 i4 i5 i6 (0 : Int32))) := by rw [g_298.eq_2, if_neg (show ¬ ((4 : Nat) = 0) by decide), if_neg (show ¬ ((4 : Nat) = 1) by decide), if_neg (show ¬ ((4 : Nat) = 2) by decide), if_neg (show ¬ ((4 : Nat) = 3) by decide), if_pos (show (4 : Nat) = 4 from rfl)]
set_option maxRecDepth 100000 in
theorem e_298_5 (n dp : Nat) (e : EN) (I : (Nat → Nat → Int32)) (L : (Nat → Nat → Int64)) (i1 : Int32) (i2 : Int32) (i3 : Int32) (i4 : Int32) (i5 : Int32) (i6 : Int32) (i7 : Int32) : g_298 (n + 1) dp e 5 I L i1 i2 i3 i4 i5 i6 i7 = (if i3 ≤ i7 then (g_298 n dp e 4 I L i1 i2 i3 i4 i5 (i6 + Int32.ofInt (1)) 0) else (if 0 ≤ i6 ∧ (Int32.toNatClampNeg i6) < 16 then (if (I 141 (Int32.toNatClampNeg i6)) = (-1 : Int32) then (if 0 ≤ i7 ∧ (Int32.toNatClampNeg i7) < 16 then (if 1 ≤ dp then (g_193 n (dp - 1) e 0 I L (Int32.toInt64 (I 141 (Int32.toNatClampNeg i7))) (0 : Int64) ((Int32.toInt64 i5) - (1 : Int64))).bind (fun ⟨x0_145, I0_145, L0_145⟩ => (if x0_145 = 0 then (if 0 ≤ i6 ∧ (Int32.toNatClampNeg i6) < 16 then (if 0 ≤ i6 ∧ (Int32.toNatClampNeg i6) < 16 then (stI (u2 I0_145 141 (Int32.toNatClampNeg i6) (I0_145 141 (Int32.toNatClampNeg i6))) (fun I_174 => (g_298 n dp e 5 I_174 L0_145 i1 i2 i3 i4 i5 i6 (i7 + Int32.ofInt (1))))) else none) else none) else (if 1 ≤ dp then (g_299 n (dp - 1) e 0 I0_145 L0_145 i6 i7 0).bind (fun ⟨x1_156, I1_156, L1_156⟩ => (if x1_156 = 0 then (if 0 ≤ i6 ∧ (Int32.toNatClampNeg i6) < 16 then (if 0 ≤ i6 ∧ (Int32.toNatClampNeg i6) < 16 then (stI (u2 I1_156 141 (Int32.toNatClampNeg i6) (I1_156 141 (Int32.toNatClampNeg i6))) (fun I_174 => (g_298 n dp e 5 I_174 L1_156 i1 i2 i3 i4 i5 i6 (i7 + Int32.ofInt (1))))) else none) else none) else (if 0 ≤ i6 ∧ (Int32.toNatClampNeg i6) < 16 then (stI (u2 I1_156 141 (Int32.toNatClampNeg i6) i5) (fun I_174 => (g_298 n dp e 5 I_174 L1_156 i1 i2 i3 i4 i5 i6 (i7 + Int32.ofInt (1))))) else none))) else none))) else none) else none) else (if 0 ≤ i6 ∧ (Int32.toNatClampNeg i6) < 16 then (if 0 ≤ i6 ∧ (Int32.toNatClampNeg i6) < 16 then (stI (u2 I 141 (Int32.toNatClampNeg i6) (I 141 (Int32.toNatClampNeg i6))) (fun I_174 => (g_298 n dp e 5 I_174 L i1 i2 i3 i4 i5 i6 (i7 + Int32.ofInt (1))))) else none) else none)) else none)) := by rw [g_298.eq_2, if_neg (show ¬ ((5 : Nat) = 0) by decide), if_neg (show ¬ ((5 : Nat) = 1) by decide), if_neg (show ¬ ((5 : Nat) = 2) by decide), if_neg (show ¬ ((5 : Nat) = 3) by decide), if_neg (show ¬ ((5 : Nat) = 4) by decide), if_pos (show (5 : Nat) = 5 from rfl)]
set_option maxRecDepth 100000 in
theorem e_298_6 (n dp : Nat) (e : EN) (I : (Nat → Nat → Int32)) (L : (Nat → Nat → Int64)) (i1 : Int32) (i2 : Int32) (i3 : Int32) (i4 : Int32) (i5 : Int32) (i6 : Int32) (i7 : Int32) : g_298 (n + 1) dp e 6 I L i1 i2 i3 i4 i5 i6 i7 = (if i3 ≤ i5 then (if i2 = (-1 : Int32) then (some (i4, I, L)) else (if 0 ≤ i2 ∧ (Int32.toNatClampNeg i2) < 16 then (some ((I 141 (Int32.toNatClampNeg i2)), I, L)) else none)) else (if 0 ≤ i5 ∧ (Int32.toNatClampNeg i5) < 16 then (if (I 141 (Int32.toNatClampNeg i5)) = (-1 : Int32) then (g_298 n dp e 6 I L i1 i2 i3 (i4 ||| (0 : Int32)) (i5 + Int32.ofInt (1)) 0 0) else (stI (i4 ||| ((1 : Int32) <<< (i5 &&& 31))) (fun v_224 => (g_298 n dp e 6 I L i1 i2 i3 v_224 (i5 + Int32.ofInt (1)) 0 0)))) else none)) := by rw [g_298.eq_2, if_neg (show ¬ ((6 : Nat) = 0) by decide), if_neg (show ¬ ((6 : Nat) = 1) by decide), if_neg (show ¬ ((6 : Nat) = 2) by decide), if_neg (show ¬ ((6 : Nat) = 3) by decide), if_neg (show ¬ ((6 : Nat) = 4) by decide), if_neg (show ¬ ((6 : Nat) = 5) by decide), if_pos (show (6 : Nat) = 6 from rfl)]
set_option maxHeartbeats 8000000 in
set_option maxRecDepth 100000 in
theorem w_298 (X : GX) {z : Nat} {kd : Nat → Nat × Nat} {Rf : Nat → Nat → Option Nat} (hS : Sh z kd Rf) : ∀ (n dp d : Nat), dp ≤ d → ∀ (I : (Nat → Nat → Int32)) (L : (Nat → Nat → Int64)) (i1 : Int32) (i2 : Int32) (i3 : Int32) (i4 : Int32) (i5 : Int32) (i6 : Int32) (i7 : Int32) (r : Int32) (I1 : (Nat → Nat → Int32)) (L1 : (Nat → Nat → Int64)), (g_298 n dp (z, kd, Rf) 0 I L i1 i2 i3 i4 i5 i6 i7 = some (r, I1, L1) → K X d 298 0 0 (AI (fun x τ => x = r ∧ τ = (z, kd, I1, L1, Rf))) 0 [some (.ref 105), some (.int i1), some (.int i2), none, none, none, none, none] [] (z, kd, I, L, Rf) 0 0) ∧
    (g_298 n dp (z, kd, Rf) 1 I L i1 i2 i3 i4 i5 i6 i7 = some (r, I1, L1) → K X d 298 0 0 (AI (fun x τ => x = r ∧ τ = (z, kd, I1, L1, Rf))) 45 [some (.ref 105), some (.int i1), some (.int i2), some (.int i3), none, none, none, none] [] (z, kd, I, L, Rf) 0 0) ∧
    (g_298 n dp (z, kd, Rf) 2 I L i1 i2 i3 i4 i5 i6 i7 = some (r, I1, L1) → K X d 298 0 0 (AI (fun x τ => x = r ∧ τ = (z, kd, I1, L1, Rf))) 51 [some (.ref 105), some (.int i1), some (.int i2), some (.int i3), some (.int i4), some (.int i5), none, none] [] (z, kd, I, L, Rf) 0 0) ∧
    (g_298 n dp (z, kd, Rf) 3 I L i1 i2 i3 i4 i5 i6 i7 = some (r, I1, L1) → K X d 298 0 0 (AI (fun x τ => x = r ∧ τ = (z, kd, I1, L1, Rf))) 90 [some (.ref 105), some (.int i1), some (.int i2), some (.int i3), some (.int i4), some (.int i5), none, none] [] (z, kd, I, L, Rf) 0 0) ∧
    (g_298 n dp (z, kd, Rf) 4 I L i1 i2 i3 i4 i5 i6 i7 = some (r, I1, L1) → K X d 298 0 0 (AI (fun x τ => x = r ∧ τ = (z, kd, I1, L1, Rf))) 99 [some (.ref 105), some (.int i1), some (.int i2), some (.int i3), some (.int i4), some (.int i5), some (.int i6), none] [] (z, kd, I, L, Rf) 0 0) ∧
    (g_298 n dp (z, kd, Rf) 5 I L i1 i2 i3 i4 i5 i6 i7 = some (r, I1, L1) → K X d 298 0 0 (AI (fun x τ => x = r ∧ τ = (z, kd, I1, L1, Rf))) 108 [some (.ref 105), some (.int i1), some (.int i2), some (.int i3), some (.int i4), some (.int i5), some (.int i6), some (.int i7)] [] (z, kd, I, L, Rf) 0 0) ∧
    (g_298 n dp (z, kd, Rf) 6 I L i1 i2 i3 i4 i5 i6 i7 = some (r, I1, L1) → K X d 298 0 0 (AI (fun x τ => x = r ∧ τ = (z, kd, I1, L1, Rf))) 196 [some (.ref 105), some (.int i1), some (.int i2), some (.int i3), some (.int i4), some (.int i5), none, none] [] (z, kd, I, L, Rf) 0 0) := by
  intro n
  induction n with
  | zero => intro dp d hdp I L i1 i2 i3 i4 i5 i6 i7 r I1 L1; exact ⟨(fun h => by cases h), (fun h => by cases h), (fun h => by cases h), (fun h => by cases h), (fun h => by cases h), (fun h => by cases h), (fun h => by cases h)⟩
  | succ n ih =>
    intro dp d hdp I L i1 i2 i3 i4 i5 i6 i7 r I1 L1
    refine ⟨?_, ?_, ?_, ?_, ?_, ?_, ?_⟩
    · intro h
      rw [e_298_0] at h
      refine K_of b_298_0 h_298_0 ?_
      refine q_aload rfl ?_
      refine q_iconst (0) (by decide) ?_
      refine q_putI (c0 := 12) (j := 0) rfl rfl (zl hS 105 (by decide)) (sk hS 105 (by decide) rfl) rfl ?_
      obtain ⟨I_2, nI_2, h⟩ := stI_some h
      refine q_nI nI_2 ?_
      refine q_aload rfl ?_
      refine q_getRs (c0 := 12) (j := 3) rfl rfl (zl hS 105 (by decide)) (sk hS 105 (by decide) rfl) rfl (by decide) (r_105_3 hS) ?_
      refine q_iconst (6) (by decide) ?_
      refine q_ialN (6) rfl (zl hS 107 (by decide)) (sk hS 107 (by decide) rfl) (by decide) (by decide) ?_
      refine q_istore (Nat.le_of_ble_eq_true rfl) rfl ?_
      refine q_iload rfl ?_
      refine q_i2l ?_
      refine q_lconst (0) (by decide) ?_
      refine q_lconst (255) (by decide) ?_
      obtain ⟨d_19, h⟩ := ite_some h
      obtain ⟨⟨x0_19, I0_19, L0_19⟩, e_19, h⟩ := Option.bind_eq_some_iff.mp h
      dsimp only at h
      refine q_fs3I (a_193 X hS (d := d - 1) (by omega) e_19) (by omega) (Nat.le_refl _) (Nat.le_refl _) rfl (Nat.le_of_ble_eq_true rfl) ?_
      refine q_if_eq (fun c_22 => ?_) (fun c_22 => ?_)
      · rw [if_pos c_22] at h
        refine K_of b_298_43 h_298_43 ?_
        refine q_iconst (-1) (by decide) ?_
        cases h
        exact q_iret rfl (Nat.le_refl _) (Nat.le_refl _) ⟨rfl, rfl⟩
      · rw [if_neg c_22] at h
        refine q_iload rfl ?_
        refine q_iconst (-1) (by decide) ?_
        refine q_icmp_eq (fun c_27 => ?_) (fun c_27 => ?_)
        · rw [if_pos c_27] at h
          exact (ih dp d hdp _ _ i1 i2 (I_2 107 6) 0 0 0 0 _ _ _).2.1 h
        · rw [if_neg c_27] at h
          refine q_iload rfl ?_
          refine q_i2l ?_
          refine q_lconst (0) (by decide) ?_
          refine q_iload rfl ?_
          refine q_i2l ?_
          refine q_lconst (1) (by decide) ?_
          refine q_lsub ?_
          obtain ⟨d_37, h⟩ := ite_some h
          obtain ⟨⟨x1_37, I1_37, L1_37⟩, e_37, h⟩ := Option.bind_eq_some_iff.mp h
          dsimp only at h
          refine q_fs3I (a_193 X hS (d := d - 1) (by omega) e_37) (by omega) (Nat.le_refl _) (Nat.le_refl _) rfl (Nat.le_of_ble_eq_true rfl) ?_
          refine q_if_ne (fun c_40 => ?_) (fun c_40 => ?_)
          · rw [if_neg c_40] at h
            exact (ih dp d hdp _ _ i1 i2 (I_2 107 6) 0 0 0 0 _ _ _).2.1 h
          · rw [if_pos c_40] at h
            refine q_end ?_
            refine K_of b_298_43 h_298_43 ?_
            refine q_iconst (-1) (by decide) ?_
            cases h
            exact q_iret rfl (Nat.le_refl _) (Nat.le_refl _) ⟨rfl, rfl⟩
    · intro h
      rw [e_298_1] at h
      refine K_of b_298_45 h_298_45 ?_
      refine q_iconst (0) (by decide) ?_
      refine q_istore (Nat.le_of_ble_eq_true rfl) rfl ?_
      refine q_iconst (0) (by decide) ?_
      refine q_istore (Nat.le_of_ble_eq_true rfl) rfl ?_
      refine q_end ?_
      exact (ih dp d hdp _ _ i1 i2 i3 (0 : Int32) (0 : Int32) 0 0 _ _ _).2.2.1 h
    · intro h
      rw [e_298_2] at h
      refine K_of b_298_51 h_298_51 ?_
      refine q_iload rfl ?_
      refine q_iload rfl ?_
      refine q_icmp_ge (fun c_54 => ?_) (fun c_54 => ?_)
      · rw [if_pos c_54] at h
        refine K_of b_298_87 h_298_87 ?_
        refine q_iconst (1) (by decide) ?_
        refine q_istore (Nat.le_of_ble_eq_true rfl) rfl ?_
        refine q_end ?_
        exact (ih dp d hdp _ _ i1 i2 i3 i4 (1 : Int32) 0 0 _ _ _).2.2.2.1 h
      · rw [if_neg c_54] at h
        refine q_aload rfl ?_
        refine q_getRs (c0 := 12) (j := 64) rfl rfl (zl hS 105 (by decide)) (sk hS 105 (by decide) rfl) rfl (by decide) (r_105_64 hS) ?_
        refine q_iload rfl ?_
        refine q_aload rfl ?_
        refine q_iload rfl ?_
        refine q_iconst (5) (by decide) ?_
        obtain ⟨d_67, h⟩ := ite_some h
        obtain ⟨⟨x0_67, I0_67, L0_67⟩, e_67, h⟩ := Option.bind_eq_some_iff.mp h
        dsimp only at h
        refine q_fv3I (a_292 X hS (d := d - 1) (by omega) e_67) (by omega) (Nat.le_refl _) (Nat.le_refl _) rfl (Nat.le_of_ble_eq_true rfl) ⟨(zl hS 105 (by decide)), congrArg Prod.fst (sk hS 105 (by decide) rfl), by decide⟩ ?_
        refine q_iload rfl ?_
        refine q_iand ?_
        refine q_if_eq (fun c_72 => ?_) (fun c_72 => ?_)
        · rw [if_pos c_72] at h
          refine K_of b_298_79 h_298_79 ?_
          refine q_iconst (-1) (by decide) ?_
          refine q_end ?_
          refine K_of b_298_80 h_298_80 ?_
          obtain ⟨⟨u_80, v_80⟩, h⟩ := ite_some h
          refine q_iasN (Int32.toNatClampNeg i5) (nx u_80) (zl hS 141 (by decide)) (sk hS 141 (by decide) rfl) v_80 (by decide) ?_
          obtain ⟨I_80, nI_80, h⟩ := stI_some h
          refine q_nI nI_80 ?_
          refine q_iinc rfl rfl ?_
          refine q_goto ?_
          exact (ih dp d hdp _ _ i1 i2 i3 i4 (i5 + Int32.ofInt (1)) 0 0 _ _ _).2.2.1 h
        · rw [if_neg c_72] at h
          refine q_iconst (0) (by decide) ?_
          refine q_goto ?_
          refine K_of b_298_80 h_298_80 ?_
          obtain ⟨⟨u_80, v_80⟩, h⟩ := ite_some h
          refine q_iasN (Int32.toNatClampNeg i5) (nx u_80) (zl hS 141 (by decide)) (sk hS 141 (by decide) rfl) v_80 (by decide) ?_
          obtain ⟨I_80, nI_80, h⟩ := stI_some h
          refine q_nI nI_80 ?_
          refine q_iinc rfl rfl ?_
          refine q_goto ?_
          exact (ih dp d hdp _ _ i1 i2 i3 i4 (i5 + Int32.ofInt (1)) 0 0 _ _ _).2.2.1 h
    · intro h
      rw [e_298_3] at h
      refine K_of b_298_90 h_298_90 ?_
      refine q_iload rfl ?_
      refine q_iload rfl ?_
      refine q_icmp_gt (fun c_93 => ?_) (fun c_93 => ?_)
      · rw [if_pos c_93] at h
        refine K_of b_298_193 h_298_193 ?_
        refine q_iconst (0) (by decide) ?_
        refine q_istore (Nat.le_of_ble_eq_true rfl) rfl ?_
        refine q_end ?_
        exact (ih dp d hdp _ _ i1 i2 i3 i4 (0 : Int32) 0 0 _ _ _).2.2.2.2.2.2 h
      · rw [if_neg c_93] at h
        refine q_iconst (0) (by decide) ?_
        refine q_istore (Nat.le_of_ble_eq_true rfl) rfl ?_
        refine q_end ?_
        exact (ih dp d hdp _ _ i1 i2 i3 i4 i5 (0 : Int32) 0 _ _ _).2.2.2.2.1 h
    · intro h
      rw [e_298_4] at h
      refine K_of b_298_99 h_298_99 ?_
      refine q_iload rfl ?_
      refine q_iload rfl ?_
      refine q_icmp_ge (fun c_102 => ?_) (fun c_102 => ?_)
      · rw [if_pos c_102] at h
        refine K_of b_298_187 h_298_187 ?_
        refine q_iinc rfl rfl ?_
        refine q_goto ?_
        refine K_mask [true, true, true, true, true, true, false, false] (Nat.le_of_ble_eq_true rfl) ?_
        exact (ih dp d hdp _ _ i1 i2 i3 i4 (i5 + Int32.ofInt (1)) 0 0 _ _ _).2.2.2.1 h
      · rw [if_neg c_102] at h
        refine q_iconst (0) (by decide) ?_
        refine q_istore (Nat.le_of_ble_eq_true rfl) rfl ?_
        refine q_end ?_
        exact (ih dp d hdp _ _ i1 i2 i3 i4 i5 i6 (0 : Int32) _ _ _).2.2.2.2.2.1 h
    · intro h
      rw [e_298_5] at h
      refine K_of b_298_108 h_298_108 ?_
      refine q_iload rfl ?_
      refine q_iload rfl ?_
      refine q_icmp_ge (fun c_111 => ?_) (fun c_111 => ?_)
      · rw [if_pos c_111] at h
        refine K_of b_298_181 h_298_181 ?_
        refine q_iinc rfl rfl ?_
        refine q_goto ?_
        refine K_mask [true, true, true, true, true, true, true, false] (Nat.le_of_ble_eq_true rfl) ?_
        exact (ih dp d hdp _ _ i1 i2 i3 i4 i5 (i6 + Int32.ofInt (1)) 0 _ _ _).2.2.2.2.1 h
      · rw [if_neg c_111] at h
        refine q_aload rfl ?_
        refine q_getRs (c0 := 12) (j := 64) rfl rfl (zl hS 105 (by decide)) (sk hS 105 (by decide) rfl) rfl (by decide) (r_105_64 hS) ?_
        refine q_iload rfl ?_
        refine q_aload rfl ?_
        refine q_getRs (c0 := 12) (j := 64) rfl rfl (zl hS 105 (by decide)) (sk hS 105 (by decide) rfl) rfl (by decide) (r_105_64 hS) ?_
        refine q_iload rfl ?_
        obtain ⟨⟨u_126, v_126⟩, h⟩ := ite_some h
        refine q_ialN (Int32.toNatClampNeg i6) (nx u_126) (zl hS 141 (by decide)) (sk hS 141 (by decide) rfl) v_126 (by decide) ?_
        refine q_iconst (-1) (by decide) ?_
        refine q_icmp_ne (fun c_128 => ?_) (fun c_128 => ?_)
        · rw [if_neg c_128] at h
          refine K_of b_298_167 h_298_167 ?_
          refine q_aload rfl ?_
          refine q_getRs (c0 := 12) (j := 64) rfl rfl (zl hS 105 (by decide)) (sk hS 105 (by decide) rfl) rfl (by decide) (r_105_64 hS) ?_
          refine q_iload rfl ?_
          obtain ⟨⟨u_173, v_173⟩, h⟩ := ite_some h
          refine q_ialN (Int32.toNatClampNeg i6) (nx u_173) (zl hS 141 (by decide)) (sk hS 141 (by decide) rfl) v_173 (by decide) ?_
          refine q_end ?_
          refine K_of b_298_174 h_298_174 ?_
          obtain ⟨⟨u_174, v_174⟩, h⟩ := ite_some h
          refine q_iasN (Int32.toNatClampNeg i6) (nx u_174) (zl hS 141 (by decide)) (sk hS 141 (by decide) rfl) v_174 (by decide) ?_
          obtain ⟨I_174, nI_174, h⟩ := stI_some h
          refine q_nI nI_174 ?_
          refine q_iinc rfl rfl ?_
          refine q_goto ?_
          exact (ih dp d hdp _ _ i1 i2 i3 i4 i5 i6 (i7 + Int32.ofInt (1)) _ _ _).2.2.2.2.2.1 h
        · rw [if_pos c_128] at h
          refine q_aload rfl ?_
          refine q_getRs (c0 := 12) (j := 64) rfl rfl (zl hS 105 (by decide)) (sk hS 105 (by decide) rfl) rfl (by decide) (r_105_64 hS) ?_
          refine q_iload rfl ?_
          obtain ⟨⟨u_137, v_137⟩, h⟩ := ite_some h
          refine q_ialN (Int32.toNatClampNeg i7) (nx u_137) (zl hS 141 (by decide)) (sk hS 141 (by decide) rfl) v_137 (by decide) ?_
          refine q_i2l ?_
          refine q_lconst (0) (by decide) ?_
          refine q_iload rfl ?_
          refine q_i2l ?_
          refine q_lconst (1) (by decide) ?_
          refine q_lsub ?_
          obtain ⟨d_145, h⟩ := ite_some h
          obtain ⟨⟨x0_145, I0_145, L0_145⟩, e_145, h⟩ := Option.bind_eq_some_iff.mp h
          dsimp only at h
          refine q_fs3I (a_193 X hS (d := d - 1) (by omega) e_145) (by omega) (Nat.le_refl _) (Nat.le_refl _) rfl (Nat.le_of_ble_eq_true rfl) ?_
          refine q_if_eq (fun c_148 => ?_) (fun c_148 => ?_)
          · rw [if_pos c_148] at h
            refine K_of b_298_167 h_298_167 ?_
            refine q_aload rfl ?_
            refine q_getRs (c0 := 12) (j := 64) rfl rfl (zl hS 105 (by decide)) (sk hS 105 (by decide) rfl) rfl (by decide) (r_105_64 hS) ?_
            refine q_iload rfl ?_
            obtain ⟨⟨u_173, v_173⟩, h⟩ := ite_some h
            refine q_ialN (Int32.toNatClampNeg i6) (nx u_173) (zl hS 141 (by decide)) (sk hS 141 (by decide) rfl) v_173 (by decide) ?_
            refine q_end ?_
            refine K_of b_298_174 h_298_174 ?_
            obtain ⟨⟨u_174, v_174⟩, h⟩ := ite_some h
            refine q_iasN (Int32.toNatClampNeg i6) (nx u_174) (zl hS 141 (by decide)) (sk hS 141 (by decide) rfl) v_174 (by decide) ?_
            obtain ⟨I_174, nI_174, h⟩ := stI_some h
            refine q_nI nI_174 ?_
            refine q_iinc rfl rfl ?_
            refine q_goto ?_
            exact (ih dp d hdp _ _ i1 i2 i3 i4 i5 i6 (i7 + Int32.ofInt (1)) _ _ _).2.2.2.2.2.1 h
          · rw [if_neg c_148] at h
            refine q_aload rfl ?_
            refine q_iload rfl ?_
            refine q_iload rfl ?_
            obtain ⟨d_156, h⟩ := ite_some h
            obtain ⟨⟨x1_156, I1_156, L1_156⟩, e_156, h⟩ := Option.bind_eq_some_iff.mp h
            dsimp only at h
            refine q_fv3I (a_299 X hS (d := d - 1) (by omega) e_156) (by omega) (Nat.le_refl _) (Nat.le_refl _) rfl (Nat.le_of_ble_eq_true rfl) ⟨(zl hS 105 (by decide)), congrArg Prod.fst (sk hS 105 (by decide) rfl), by decide⟩ ?_
            refine q_if_eq (fun c_159 => ?_) (fun c_159 => ?_)
            · rw [if_pos c_159] at h
              refine K_of b_298_167 h_298_167 ?_
              refine q_aload rfl ?_
              refine q_getRs (c0 := 12) (j := 64) rfl rfl (zl hS 105 (by decide)) (sk hS 105 (by decide) rfl) rfl (by decide) (r_105_64 hS) ?_
              refine q_iload rfl ?_
              obtain ⟨⟨u_173, v_173⟩, h⟩ := ite_some h
              refine q_ialN (Int32.toNatClampNeg i6) (nx u_173) (zl hS 141 (by decide)) (sk hS 141 (by decide) rfl) v_173 (by decide) ?_
              refine q_end ?_
              refine K_of b_298_174 h_298_174 ?_
              obtain ⟨⟨u_174, v_174⟩, h⟩ := ite_some h
              refine q_iasN (Int32.toNatClampNeg i6) (nx u_174) (zl hS 141 (by decide)) (sk hS 141 (by decide) rfl) v_174 (by decide) ?_
              obtain ⟨I_174, nI_174, h⟩ := stI_some h
              refine q_nI nI_174 ?_
              refine q_iinc rfl rfl ?_
              refine q_goto ?_
              exact (ih dp d hdp _ _ i1 i2 i3 i4 i5 i6 (i7 + Int32.ofInt (1)) _ _ _).2.2.2.2.2.1 h
            · rw [if_neg c_159] at h
              refine q_iload rfl ?_
              refine q_goto ?_
              refine K_of b_298_174 h_298_174 ?_
              obtain ⟨⟨u_174, v_174⟩, h⟩ := ite_some h
              refine q_iasN (Int32.toNatClampNeg i6) (nx u_174) (zl hS 141 (by decide)) (sk hS 141 (by decide) rfl) v_174 (by decide) ?_
              obtain ⟨I_174, nI_174, h⟩ := stI_some h
              refine q_nI nI_174 ?_
              refine q_iinc rfl rfl ?_
              refine q_goto ?_
              exact (ih dp d hdp _ _ i1 i2 i3 i4 i5 i6 (i7 + Int32.ofInt (1)) _ _ _).2.2.2.2.2.1 h
    · intro h
      rw [e_298_6] at h
      refine K_of b_298_196 h_298_196 ?_
      refine q_iload rfl ?_
      refine q_iload rfl ?_
      refine q_icmp_ge (fun c_199 => ?_) (fun c_199 => ?_)
      · rw [if_pos c_199] at h
        refine K_of b_298_232 h_298_232 ?_
        refine q_iload rfl ?_
        refine q_iconst (-1) (by decide) ?_
        refine q_icmp_ne (fun c_234 => ?_) (fun c_234 => ?_)
        · rw [if_neg c_234] at h
          refine K_of b_298_242 h_298_242 ?_
          refine q_aload rfl ?_
          refine q_getRs (c0 := 12) (j := 64) rfl rfl (zl hS 105 (by decide)) (sk hS 105 (by decide) rfl) rfl (by decide) (r_105_64 hS) ?_
          refine q_iload rfl ?_
          obtain ⟨⟨u_247, v_247⟩, h⟩ := ite_some h
          refine q_ialN (Int32.toNatClampNeg i2) (nx u_247) (zl hS 141 (by decide)) (sk hS 141 (by decide) rfl) v_247 (by decide) ?_
          refine q_end ?_
          refine K_of b_298_248 h_298_248 ?_
          cases h
          exact q_iret rfl (Nat.le_refl _) (Nat.le_refl _) ⟨rfl, rfl⟩
        · rw [if_pos c_234] at h
          refine q_iload rfl ?_
          refine q_goto ?_
          refine K_of b_298_248 h_298_248 ?_
          cases h
          exact q_iret rfl (Nat.le_refl _) (Nat.le_refl _) ⟨rfl, rfl⟩
      · rw [if_neg c_199] at h
        refine q_iload rfl ?_
        refine q_aload rfl ?_
        refine q_getRs (c0 := 12) (j := 64) rfl rfl (zl hS 105 (by decide)) (sk hS 105 (by decide) rfl) rfl (by decide) (r_105_64 hS) ?_
        refine q_iload rfl ?_
        obtain ⟨⟨u_210, v_210⟩, h⟩ := ite_some h
        refine q_ialN (Int32.toNatClampNeg i5) (nx u_210) (zl hS 141 (by decide)) (sk hS 141 (by decide) rfl) v_210 (by decide) ?_
        refine q_iconst (-1) (by decide) ?_
        refine q_icmp_eq (fun c_212 => ?_) (fun c_212 => ?_)
        · rw [if_pos c_212] at h
          refine K_of b_298_222 h_298_222 ?_
          refine q_iconst (0) (by decide) ?_
          refine q_end ?_
          refine K_of b_298_223 h_298_223 ?_
          refine q_ior ?_
          refine q_istore (Nat.le_of_ble_eq_true rfl) rfl ?_
          refine q_iinc rfl rfl ?_
          refine q_goto ?_
          exact (ih dp d hdp _ _ i1 i2 i3 (i4 ||| (0 : Int32)) (i5 + Int32.ofInt (1)) 0 0 _ _ _).2.2.2.2.2.2 h
        · rw [if_neg c_212] at h
          refine q_iconst (1) (by decide) ?_
          refine q_iload rfl ?_
          refine q_ishl ?_
          refine q_goto ?_
          refine K_of b_298_223 h_298_223 ?_
          refine q_ior ?_
          obtain ⟨v_224, nv_224, h⟩ := stI_some h
          refine q_eqi nv_224.symm ?_
          refine q_istore (Nat.le_of_ble_eq_true rfl) rfl ?_
          refine q_iinc rfl rfl ?_
          refine q_goto ?_
          exact (ih dp d hdp _ _ i1 i2 i3 v_224 (i5 + Int32.ofInt (1)) 0 0 _ _ _).2.2.2.2.2.2 h
theorem a_298 (X : GX) {z : Nat} {kd : Nat → Nat × Nat} {Rf : Nat → Nat → Option Nat} (hS : Sh z kd Rf) {n dp d : Nat} (hd : dp ≤ d) {I : (Nat → Nat → Int32)} {L : (Nat → Nat → Int64)} {i1 : Int32} {i2 : Int32} {I1 : (Nat → Nat → Int32)} {L1 : (Nat → Nat → Int64)} {r : Int32} (h : g_298 n dp (z, kd, Rf) 0 I L i1 i2 0 0 0 0 0 = some (r, I1, L1)) : Ct X d 298 0 0 [.ref 105, .int i1, .int i2] (z, kd, I, L, Rf) (AI (fun x τ => x = r ∧ τ = (z, kd, I1, L1, Rf))) :=
  Ct_of mu_298 (Nat.le_of_ble_eq_true rfl) ((w_298 X hS n dp d hd I L i1 i2 0 0 0 0 0 _ _ _).1 h)

/-! 300 CutFloorModel.yields(II)I -/
set_option maxHeartbeats 4000000 in
set_option maxRecDepth 100000 in
def g_300 : Nat → Nat → EN → Nat → (Nat → Nat → Int32) → (Nat → Nat → Int64) → Int32 → Int32 →  Option (Int32 × (Nat → Nat → Int32) × (Nat → Nat → Int64))
  | 0, _, _, _, _, _, _, _ => none
  | n + 1, dp, e, lab, I, L, i1, i2 =>
    if lab = 0 then (stI (u2 I 105 0 (0 : Int32)) (fun I_2 => (if 1 ≤ dp then (g_193 n (dp - 1) e 0 I_2 L (Int32.toInt64 i1) (0 : Int64) (999 : Int64)).bind (fun ⟨x0_11, I0_11, L0_11⟩ => (if x0_11 = 0 then (if 1 ≤ dp then (g_194 n (dp - 1) e 0 I0_11 L0_11 (-1 : Int32)).bind (fun ⟨x1_31, I1_31, L1_31⟩ => (some (x1_31, I1_31, L1_31))) else none) else (if 1 ≤ dp then (g_193 n (dp - 1) e 0 I0_11 L0_11 (Int32.toInt64 i2) (0 : Int64) (999 : Int64)).bind (fun ⟨x1_23, I1_23, L1_23⟩ => (if x1_23 = 0 then (if 1 ≤ dp then (g_194 n (dp - 1) e 0 I1_23 L1_23 (-1 : Int32)).bind (fun ⟨x2_31, I2_31, L2_31⟩ => (some (x2_31, I2_31, L2_31))) else none) else (if (I1_23 107 7) = (40 : Int32) then (if 1 ≤ dp then (g_194 n (dp - 1) e 0 I1_23 L1_23 (-5 : Int32)).bind (fun ⟨x2_50, I2_50, L2_50⟩ => (some (x2_50, I2_50, L2_50))) else none) else (if 0 ≤ ((202 : Int32) + ((2 : Int32) * (I1_23 107 7))) ∧ (Int32.toNatClampNeg ((202 : Int32) + ((2 : Int32) * (I1_23 107 7)))) < 1570 then (stI (u2 I1_23 107 (Int32.toNatClampNeg ((202 : Int32) + ((2 : Int32) * (I1_23 107 7)))) i1) (fun I_72 => (if 0 ≤ (((202 : Int32) + ((2 : Int32) * (I_72 107 7))) + (1 : Int32)) ∧ (Int32.toNatClampNeg (((202 : Int32) + ((2 : Int32) * (I_72 107 7))) + (1 : Int32))) < 1570 then (stI (u2 I_72 107 (Int32.toNatClampNeg (((202 : Int32) + ((2 : Int32) * (I_72 107 7))) + (1 : Int32))) i2) (fun I_93 => (stI (u2 I_93 107 7 ((I_93 107 7) + (1 : Int32))) (fun I_104 => (if 1 ≤ dp then (g_194 n (dp - 1) e 0 I_104 L1_23 (I_104 107 7)).bind (fun ⟨x2_113, I2_113, L2_113⟩ => (some (x2_113, I2_113, L2_113))) else none))))) else none))) else none)))) else none))) else none)))
    else none
set_option maxRecDepth 100000 in
theorem e_300_0 (n dp : Nat) (e : EN) (I : (Nat → Nat → Int32)) (L : (Nat → Nat → Int64)) (i1 : Int32) (i2 : Int32) : g_300 (n + 1) dp e 0 I L i1 i2 = (stI (u2 I 105 0 (0 : Int32)) (fun I_2 => (if 1 ≤ dp then (g_193 n (dp - 1) e 0 I_2 L (Int32.toInt64 i1) (0 : Int64) (999 : Int64)).bind (fun ⟨x0_11, I0_11, L0_11⟩ => (if x0_11 = 0 then (if 1 ≤ dp then (g_194 n (dp - 1) e 0 I0_11 L0_11 (-1 : Int32)).bind (fun ⟨x1_31, I1_31, L1_31⟩ => (some (x1_31, I1_31, L1_31))) else none) else (if 1 ≤ dp then (g_193 n (dp - 1) e 0 I0_11 L0_11 (Int32.toInt64 i2) (0 : Int64) (999 : Int64)).bind (fun ⟨x1_23, I1_23, L1_23⟩ => (if x1_23 = 0 then (if 1 ≤ dp then (g_194 n (dp - 1) e 0 I1_23 L1_23 (-1 : Int32)).bind (fun ⟨x2_31, I2_31, L2_31⟩ => (some (x2_31, I2_31, L2_31))) else none) else (if (I1_23 107 7) = (40 : Int32) then (if 1 ≤ dp then (g_194 n (dp - 1) e 0 I1_23 L1_23 (-5 : Int32)).bind (fun ⟨x2_50, I2_50, L2_50⟩ => (some (x2_50, I2_50, L2_50))) else none) else (if 0 ≤ ((202 : Int32) + ((2 : Int32) * (I1_23 107 7))) ∧ (Int32.toNatClampNeg ((202 : Int32) + ((2 : Int32) * (I1_23 107 7)))) < 1570 then (stI (u2 I1_23 107 (Int32.toNatClampNeg ((202 : Int32) + ((2 : Int32) * (I1_23 107 7)))) i1) (fun I_72 => (if 0 ≤ (((202 : Int32) + ((2 : Int32) * (I_72 107 7))) + (1 : Int32)) ∧ (Int32.toNatClampNeg (((202 : Int32) + ((2 : Int32) * (I_72 107 7))) + (1 : Int32))) < 1570 then (stI (u2 I_72 107 (Int32.toNatClampNeg (((202 : Int32) + ((2 : Int32) * (I_72 107 7))) + (1 : Int32))) i2) (fun I_93 => (stI (u2 I_93 107 7 ((I_93 107 7) + (1 : Int32))) (fun I_104 => (if 1 ≤ dp then (g_194 n (dp - 1) e 0 I_104 L1_23 (I_104 107 7)).bind (fun ⟨x2_113, I2_113, L2_113⟩ => (some (x2_113, I2_113, L2_113))) else none))))) else none))) else none)))) else none))) else none))) := by rw [g_300.eq_2, if_pos (show (0 : Nat) = 0 from rfl)]
set_option maxHeartbeats 8000000 in
set_option maxRecDepth 100000 in
theorem w_300 (X : GX) {z : Nat} {kd : Nat → Nat × Nat} {Rf : Nat → Nat → Option Nat} (hS : Sh z kd Rf) : ∀ (n dp d : Nat), dp ≤ d → ∀ (I : (Nat → Nat → Int32)) (L : (Nat → Nat → Int64)) (i1 : Int32) (i2 : Int32) (r : Int32) (I1 : (Nat → Nat → Int32)) (L1 : (Nat → Nat → Int64)), (g_300 n dp (z, kd, Rf) 0 I L i1 i2 = some (r, I1, L1) → K X d 300 0 0 (AI (fun x τ => x = r ∧ τ = (z, kd, I1, L1, Rf))) 0 [some (.ref 105), some (.int i1), some (.int i2)] [] (z, kd, I, L, Rf) 0 0) := by
  intro n
  induction n with
  | zero => intro dp d hdp I L i1 i2 r I1 L1; exact fun h => by cases h
  | succ n ih =>
    intro dp d hdp I L i1 i2 r I1 L1
    · intro h
      rw [e_300_0] at h
      refine K_of b_300_0 h_300_0 ?_
      refine q_aload rfl ?_
      refine q_iconst (0) (by decide) ?_
      refine q_putI (c0 := 12) (j := 0) rfl rfl (zl hS 105 (by decide)) (sk hS 105 (by decide) rfl) rfl ?_
      obtain ⟨I_2, nI_2, h⟩ := stI_some h
      refine q_nI nI_2 ?_
      refine q_iload rfl ?_
      refine q_i2l ?_
      refine q_lconst (0) (by decide) ?_
      refine q_lconst (999) (by decide) ?_
      obtain ⟨d_11, h⟩ := ite_some h
      obtain ⟨⟨x0_11, I0_11, L0_11⟩, e_11, h⟩ := Option.bind_eq_some_iff.mp h
      dsimp only at h
      refine q_fs3I (a_193 X hS (d := d - 1) (by omega) e_11) (by omega) (Nat.le_refl _) (Nat.le_refl _) rfl (Nat.le_of_ble_eq_true rfl) ?_
      refine q_if_eq (fun c_14 => ?_) (fun c_14 => ?_)
      · rw [if_pos c_14] at h
        refine K_of b_300_29 h_300_29 ?_
        refine q_aload rfl ?_
        refine q_iconst (-1) (by decide) ?_
        obtain ⟨d_31, h⟩ := ite_some h
        obtain ⟨⟨x1_31, I1_31, L1_31⟩, e_31, h⟩ := Option.bind_eq_some_iff.mp h
        dsimp only at h
        refine q_fv2I (a_194 X hS (d := d - 1) (by omega) e_31) (by omega) (Nat.le_refl _) (Nat.le_refl _) rfl (Nat.le_of_ble_eq_true rfl) ⟨(zl hS 105 (by decide)), congrArg Prod.fst (sk hS 105 (by decide) rfl), by decide⟩ ?_
        cases h
        exact q_iret rfl (Nat.le_refl _) (Nat.le_refl _) ⟨rfl, rfl⟩
      · rw [if_neg c_14] at h
        refine q_iload rfl ?_
        refine q_i2l ?_
        refine q_lconst (0) (by decide) ?_
        refine q_lconst (999) (by decide) ?_
        obtain ⟨d_23, h⟩ := ite_some h
        obtain ⟨⟨x1_23, I1_23, L1_23⟩, e_23, h⟩ := Option.bind_eq_some_iff.mp h
        dsimp only at h
        refine q_fs3I (a_193 X hS (d := d - 1) (by omega) e_23) (by omega) (Nat.le_refl _) (Nat.le_refl _) rfl (Nat.le_of_ble_eq_true rfl) ?_
        refine q_if_ne (fun c_26 => ?_) (fun c_26 => ?_)
        · rw [if_neg c_26] at h
          refine K_of b_300_35 h_300_35 ?_
          refine q_aload rfl ?_
          refine q_getRs (c0 := 12) (j := 3) rfl rfl (zl hS 105 (by decide)) (sk hS 105 (by decide) rfl) rfl (by decide) (r_105_3 hS) ?_
          refine q_iconst (7) (by decide) ?_
          refine q_ialN (7) rfl (zl hS 107 (by decide)) (sk hS 107 (by decide) rfl) (by decide) (by decide) ?_
          refine q_iconst (40) (by decide) ?_
          refine q_icmp_ne (fun c_44 => ?_) (fun c_44 => ?_)
          · rw [if_neg c_44] at h
            refine K_of b_300_54 h_300_54 ?_
            refine q_aload rfl ?_
            refine q_getRs (c0 := 12) (j := 3) rfl rfl (zl hS 105 (by decide)) (sk hS 105 (by decide) rfl) rfl (by decide) (r_105_3 hS) ?_
            refine q_iconst (202) (by decide) ?_
            refine q_iconst (2) (by decide) ?_
            refine q_aload rfl ?_
            refine q_getRs (c0 := 12) (j := 3) rfl rfl (zl hS 105 (by decide)) (sk hS 105 (by decide) rfl) rfl (by decide) (r_105_3 hS) ?_
            refine q_iconst (7) (by decide) ?_
            refine q_ialN (7) rfl (zl hS 107 (by decide)) (sk hS 107 (by decide) rfl) (by decide) (by decide) ?_
            refine q_imul ?_
            refine q_iadd ?_
            refine q_iload rfl ?_
            obtain ⟨⟨u_72, v_72⟩, h⟩ := ite_some h
            refine q_iasN (Int32.toNatClampNeg ((202 : Int32) + ((2 : Int32) * (I1_23 107 7)))) (nx u_72) (zl hS 107 (by decide)) (sk hS 107 (by decide) rfl) v_72 (by decide) ?_
            obtain ⟨I_72, nI_72, h⟩ := stI_some h
            refine q_nI nI_72 ?_
            refine q_aload rfl ?_
            refine q_getRs (c0 := 12) (j := 3) rfl rfl (zl hS 105 (by decide)) (sk hS 105 (by decide) rfl) rfl (by decide) (r_105_3 hS) ?_
            refine q_iconst (202) (by decide) ?_
            refine q_iconst (2) (by decide) ?_
            refine q_aload rfl ?_
            refine q_getRs (c0 := 12) (j := 3) rfl rfl (zl hS 105 (by decide)) (sk hS 105 (by decide) rfl) rfl (by decide) (r_105_3 hS) ?_
            refine q_iconst (7) (by decide) ?_
            refine q_ialN (7) rfl (zl hS 107 (by decide)) (sk hS 107 (by decide) rfl) (by decide) (by decide) ?_
            refine q_imul ?_
            refine q_iadd ?_
            refine q_iconst (1) (by decide) ?_
            refine q_iadd ?_
            refine q_iload rfl ?_
            obtain ⟨⟨u_93, v_93⟩, h⟩ := ite_some h
            refine q_iasN (Int32.toNatClampNeg (((202 : Int32) + ((2 : Int32) * (I_72 107 7))) + (1 : Int32))) (nx u_93) (zl hS 107 (by decide)) (sk hS 107 (by decide) rfl) v_93 (by decide) ?_
            obtain ⟨I_93, nI_93, h⟩ := stI_some h
            refine q_nI nI_93 ?_
            refine q_aload rfl ?_
            refine q_getRs (c0 := 12) (j := 3) rfl rfl (zl hS 105 (by decide)) (sk hS 105 (by decide) rfl) rfl (by decide) (r_105_3 hS) ?_
            refine q_iconst (7) (by decide) ?_
            refine q_dup2 rfl rfl ?_
            refine q_ialN (7) rfl (zl hS 107 (by decide)) (sk hS 107 (by decide) rfl) (by decide) (by decide) ?_
            refine q_iconst (1) (by decide) ?_
            refine q_iadd ?_
            refine q_iasN (7) rfl (zl hS 107 (by decide)) (sk hS 107 (by decide) rfl) (by decide) (by decide) ?_
            obtain ⟨I_104, nI_104, h⟩ := stI_some h
            refine q_nI nI_104 ?_
            refine q_aload rfl ?_
            refine q_aload rfl ?_
            refine q_getRs (c0 := 12) (j := 3) rfl rfl (zl hS 105 (by decide)) (sk hS 105 (by decide) rfl) rfl (by decide) (r_105_3 hS) ?_
            refine q_iconst (7) (by decide) ?_
            refine q_ialN (7) rfl (zl hS 107 (by decide)) (sk hS 107 (by decide) rfl) (by decide) (by decide) ?_
            obtain ⟨d_113, h⟩ := ite_some h
            obtain ⟨⟨x2_113, I2_113, L2_113⟩, e_113, h⟩ := Option.bind_eq_some_iff.mp h
            dsimp only at h
            refine q_fv2I (a_194 X hS (d := d - 1) (by omega) e_113) (by omega) (Nat.le_refl _) (Nat.le_refl _) rfl (Nat.le_of_ble_eq_true rfl) ⟨(zl hS 105 (by decide)), congrArg Prod.fst (sk hS 105 (by decide) rfl), by decide⟩ ?_
            cases h
            exact q_iret rfl (Nat.le_refl _) (Nat.le_refl _) ⟨rfl, rfl⟩
          · rw [if_pos c_44] at h
            refine q_aload rfl ?_
            refine q_iconst (-5) (by decide) ?_
            obtain ⟨d_50, h⟩ := ite_some h
            obtain ⟨⟨x2_50, I2_50, L2_50⟩, e_50, h⟩ := Option.bind_eq_some_iff.mp h
            dsimp only at h
            refine q_fv2I (a_194 X hS (d := d - 1) (by omega) e_50) (by omega) (Nat.le_refl _) (Nat.le_refl _) rfl (Nat.le_of_ble_eq_true rfl) ⟨(zl hS 105 (by decide)), congrArg Prod.fst (sk hS 105 (by decide) rfl), by decide⟩ ?_
            cases h
            exact q_iret rfl (Nat.le_refl _) (Nat.le_refl _) ⟨rfl, rfl⟩
        · rw [if_pos c_26] at h
          refine q_end ?_
          refine K_of b_300_29 h_300_29 ?_
          refine q_aload rfl ?_
          refine q_iconst (-1) (by decide) ?_
          obtain ⟨d_31, h⟩ := ite_some h
          obtain ⟨⟨x2_31, I2_31, L2_31⟩, e_31, h⟩ := Option.bind_eq_some_iff.mp h
          dsimp only at h
          refine q_fv2I (a_194 X hS (d := d - 1) (by omega) e_31) (by omega) (Nat.le_refl _) (Nat.le_refl _) rfl (Nat.le_of_ble_eq_true rfl) ⟨(zl hS 105 (by decide)), congrArg Prod.fst (sk hS 105 (by decide) rfl), by decide⟩ ?_
          cases h
          exact q_iret rfl (Nat.le_refl _) (Nat.le_refl _) ⟨rfl, rfl⟩
theorem a_300 (X : GX) {z : Nat} {kd : Nat → Nat × Nat} {Rf : Nat → Nat → Option Nat} (hS : Sh z kd Rf) {n dp d : Nat} (hd : dp ≤ d) {I : (Nat → Nat → Int32)} {L : (Nat → Nat → Int64)} {i1 : Int32} {i2 : Int32} {I1 : (Nat → Nat → Int32)} {L1 : (Nat → Nat → Int64)} {r : Int32} (h : g_300 n dp (z, kd, Rf) 0 I L i1 i2 = some (r, I1, L1)) : Ct X d 300 0 0 [.ref 105, .int i1, .int i2] (z, kd, I, L, Rf) (AI (fun x τ => x = r ∧ τ = (z, kd, I1, L1, Rf))) :=
  Ct_of mu_300 (Nat.le_of_ble_eq_true rfl) ((w_300 X hS n dp d hd I L i1 i2 _ _ _) h)

/-! 301 CutFloorModel.drift(III)I -/
set_option maxHeartbeats 4000000 in
set_option maxRecDepth 100000 in
def g_301 : Nat → Nat → EN → Nat → (Nat → Nat → Int32) → (Nat → Nat → Int64) → Int32 → Int32 → Int32 → Int32 → Int32 → Int32 → Int32 →  Option (Int32 × (Nat → Nat → Int32) × (Nat → Nat → Int64))
  | 0, _, _, _, _, _, _, _, _, _, _, _, _ => none
  | n + 1, dp, e, lab, I, L, i1, i2, i3, i4, i5, i6, i7 =>
    if lab = 0 then (stI (u2 I 105 0 (0 : Int32)) (fun I_2 => (if 1 ≤ dp then (g_193 n (dp - 1) e 0 I_2 L (Int32.toInt64 i1) (0 : Int64) (99 : Int64)).bind (fun ⟨x0_11, I0_11, L0_11⟩ => (if x0_11 = 0 then (some ((-1 : Int32), I0_11, L0_11)) else (if 1 ≤ dp then (g_193 n (dp - 1) e 0 I0_11 L0_11 (Int32.toInt64 i2) (0 : Int64) (9999 : Int64)).bind (fun ⟨x1_23, I1_23, L1_23⟩ => (if x1_23 = 0 then (some ((-1 : Int32), I1_23, L1_23)) else (if 1 ≤ dp then (g_193 n (dp - 1) e 0 I1_23 L1_23 (Int32.toInt64 i3) (0 : Int64) (1 : Int64)).bind (fun ⟨x2_33, I2_33, L2_33⟩ => (if x2_33 = 0 then (some ((-1 : Int32), I2_33, L2_33)) else (g_301 n dp e 1 I2_33 L2_33 i1 i2 i3 (-1 : Int32) (0 : Int32) (0 : Int32) (0 : Int32)))) else none))) else none))) else none)))
    else if lab = 1 then (if (I 107 7) ≤ i7 then (if i3 = 0 then (some (i4, I, L)) else (some (i5, I, L))) else (if 0 ≤ ((202 : Int32) + ((2 : Int32) * i7)) ∧ (Int32.toNatClampNeg ((202 : Int32) + ((2 : Int32) * i7))) < 1570 then (if 0 ≤ (((202 : Int32) + ((2 : Int32) * i7)) + (1 : Int32)) ∧ (Int32.toNatClampNeg (((202 : Int32) + ((2 : Int32) * i7)) + (1 : Int32))) < 1570 then (stI (i6 + (((I 107 (Int32.toNatClampNeg ((202 : Int32) + ((2 : Int32) * i7)))) - (I 107 (Int32.toNatClampNeg (((202 : Int32) + ((2 : Int32) * i7)) + (1 : Int32))))) - i1)) (fun v_99 => (if 0 ≤ v_99 then (if i4 = (-1 : Int32) then (if v_99 ≤ i2 then (g_301 n dp e 2 I L i1 i2 i3 i4 i5 v_99 i7) else (if v_99 ≤ i5 then (g_301 n dp e 1 I L i1 i2 i3 i7 i5 v_99 (i7 + Int32.ofInt (1))) else (g_301 n dp e 1 I L i1 i2 i3 i7 v_99 v_99 (i7 + Int32.ofInt (1))))) else (g_301 n dp e 2 I L i1 i2 i3 i4 i5 v_99 i7)) else (if i4 = (-1 : Int32) then (if (0 : Int32) ≤ i2 then (g_301 n dp e 2 I L i1 i2 i3 i4 i5 (0 : Int32) i7) else (if (0 : Int32) ≤ i5 then (g_301 n dp e 1 I L i1 i2 i3 i7 i5 (0 : Int32) (i7 + Int32.ofInt (1))) else (g_301 n dp e 1 I L i1 i2 i3 i7 (0 : Int32) (0 : Int32) (i7 + Int32.ofInt (1))))) else (g_301 n dp e 2 I L i1 i2 i3 i4 i5 (0 : Int32) i7))))) else none) else none))
    else if lab = 2 then (if i6 ≤ i5 then (g_301 n dp e 1 I L i1 i2 i3 i4 i5 i6 (i7 + Int32.ofInt (1))) else (g_301 n dp e 1 I L i1 i2 i3 i4 i6 i6 (i7 + Int32.ofInt (1))))
    else none
set_option maxRecDepth 100000 in
theorem e_301_0 (n dp : Nat) (e : EN) (I : (Nat → Nat → Int32)) (L : (Nat → Nat → Int64)) (i1 : Int32) (i2 : Int32) (i3 : Int32) (i4 : Int32) (i5 : Int32) (i6 : Int32) (i7 : Int32) : g_301 (n + 1) dp e 0 I L i1 i2 i3 i4 i5 i6 i7 = (stI (u2 I 105 0 (0 : Int32)) (fun I_2 => (if 1 ≤ dp then (g_193 n (dp - 1) e 0 I_2 L (Int32.toInt64 i1) (0 : Int64) (99 : Int64)).bind (fun ⟨x0_11, I0_11, L0_11⟩ => (if x0_11 = 0 then (some ((-1 : Int32), I0_11, L0_11)) else (if 1 ≤ dp then (g_193 n (dp - 1) e 0 I0_11 L0_11 (Int32.toInt64 i2) (0 : Int64) (9999 : Int64)).bind (fun ⟨x1_23, I1_23, L1_23⟩ => (if x1_23 = 0 then (some ((-1 : Int32), I1_23, L1_23)) else (if 1 ≤ dp then (g_193 n (dp - 1) e 0 I1_23 L1_23 (Int32.toInt64 i3) (0 : Int64) (1 : Int64)).bind (fun ⟨x2_33, I2_33, L2_33⟩ => (if x2_33 = 0 then (some ((-1 : Int32), I2_33, L2_33)) else (g_301 n dp e 1 I2_33 L2_33 i1 i2 i3 (-1 : Int32) (0 : Int32) (0 : Int32) (0 : Int32)))) else none))) else none))) else none))) := by rw [g_301.eq_2, if_pos (show (0 : Nat) = 0 from rfl)]
set_option maxRecDepth 100000 in
theorem e_301_1 (n dp : Nat) (e : EN) (I : (Nat → Nat → Int32)) (L : (Nat → Nat → Int64)) (i1 : Int32) (i2 : Int32) (i3 : Int32) (i4 : Int32) (i5 : Int32) (i6 : Int32) (i7 : Int32) : g_301 (n + 1) dp e 1 I L i1 i2 i3 i4 i5 i6 i7 = (if (I 107 7) ≤ i7 then (if i3 = 0 then (some (i4, I, L)) else (some (i5, I, L))) else (if 0 ≤ ((202 : Int32) + ((2 : Int32) * i7)) ∧ (Int32.toNatClampNeg ((202 : Int32) + ((2 : Int32) * i7))) < 1570 then (if 0 ≤ (((202 : Int32) + ((2 : Int32) * i7)) + (1 : Int32)) ∧ (Int32.toNatClampNeg (((202 : Int32) + ((2 : Int32) * i7)) + (1 : Int32))) < 1570 then (stI (i6 + (((I 107 (Int32.toNatClampNeg ((202 : Int32) + ((2 : Int32) * i7)))) - (I 107 (Int32.toNatClampNeg (((202 : Int32) + ((2 : Int32) * i7)) + (1 : Int32))))) - i1)) (fun v_99 => (if 0 ≤ v_99 then (if i4 = (-1 : Int32) then (if v_99 ≤ i2 then (g_301 n dp e 2 I L i1 i2 i3 i4 i5 v_99 i7) else (if v_99 ≤ i5 then (g_301 n dp e 1 I L i1 i2 i3 i7 i5 v_99 (i7 + Int32.ofInt (1))) else (g_301 n dp e 1 I L i1 i2 i3 i7 v_99 v_99 (i7 + Int32.ofInt (1))))) else (g_301 n dp e 2 I L i1 i2 i3 i4 i5 v_99 i7)) else (if i4 = (-1 : Int32) then (if (0 : Int32) ≤ i2 then (g_301 n dp e 2 I L i1 i2 i3 i4 i5 (0 : Int32) i7) else (if (0 : Int32) ≤ i5 then (g_301 n dp e 1 I L i1 i2 i3 i7 i5 (0 : Int32) (i7 + Int32.ofInt (1))) else (g_301 n dp e 1 I L i1 i2 i3 i7 (0 : Int32) (0 : Int32) (i7 + Int32.ofInt (1))))) else (g_301 n dp e 2 I L i1 i2 i3 i4 i5 (0 : Int32) i7))))) else none) else none)) := by rw [g_301.eq_2, if_neg (show ¬ ((1 : Nat) = 0) by decide), if_pos (show (1 : Nat) = 1 from rfl)]
set_option maxRecDepth 100000 in
theorem e_301_2 (n dp : Nat) (e : EN) (I : (Nat → Nat → Int32)) (L : (Nat → Nat → Int64)) (i1 : Int32) (i2 : Int32) (i3 : Int32) (i4 : Int32) (i5 : Int32) (i6 : Int32) (i7 : Int32) : g_301 (n + 1) dp e 2 I L i1 i2 i3 i4 i5 i6 i7 = (if i6 ≤ i5 then (g_301 n dp e 1 I L i1 i2 i3 i4 i5 i6 (i7 + Int32.ofInt (1))) else (g_301 n dp e 1 I L i1 i2 i3 i4 i6 i6 (i7 + Int32.ofInt (1)))) := by rw [g_301.eq_2, if_neg (show ¬ ((2 : Nat) = 0) by decide), if_neg (show ¬ ((2 : Nat) = 1) by decide), if_pos (show (2 : Nat) = 2 from rfl)]
set_option maxHeartbeats 8000000 in
set_option maxRecDepth 100000 in
theorem w_301 (X : GX) {z : Nat} {kd : Nat → Nat × Nat} {Rf : Nat → Nat → Option Nat} (hS : Sh z kd Rf) : ∀ (n dp d : Nat), dp ≤ d → ∀ (I : (Nat → Nat → Int32)) (L : (Nat → Nat → Int64)) (i1 : Int32) (i2 : Int32) (i3 : Int32) (i4 : Int32) (i5 : Int32) (i6 : Int32) (i7 : Int32) (r : Int32) (I1 : (Nat → Nat → Int32)) (L1 : (Nat → Nat → Int64)), (g_301 n dp (z, kd, Rf) 0 I L i1 i2 i3 i4 i5 i6 i7 = some (r, I1, L1) → K X d 301 0 0 (AI (fun x τ => x = r ∧ τ = (z, kd, I1, L1, Rf))) 0 [some (.ref 105), some (.int i1), some (.int i2), some (.int i3), none, none, none, none] [] (z, kd, I, L, Rf) 0 0) ∧
    (g_301 n dp (z, kd, Rf) 1 I L i1 i2 i3 i4 i5 i6 i7 = some (r, I1, L1) → K X d 301 0 0 (AI (fun x τ => x = r ∧ τ = (z, kd, I1, L1, Rf))) 53 [some (.ref 105), some (.int i1), some (.int i2), some (.int i3), some (.int i4), some (.int i5), some (.int i6), some (.int i7)] [] (z, kd, I, L, Rf) 0 0) ∧
    (g_301 n dp (z, kd, Rf) 2 I L i1 i2 i3 i4 i5 i6 i7 = some (r, I1, L1) → K X d 301 0 0 (AI (fun x τ => x = r ∧ τ = (z, kd, I1, L1, Rf))) 131 [some (.ref 105), some (.int i1), some (.int i2), some (.int i3), some (.int i4), some (.int i5), some (.int i6), some (.int i7)] [] (z, kd, I, L, Rf) 0 0) := by
  intro n
  induction n with
  | zero => intro dp d hdp I L i1 i2 i3 i4 i5 i6 i7 r I1 L1; exact ⟨(fun h => by cases h), (fun h => by cases h), (fun h => by cases h)⟩
  | succ n ih =>
    intro dp d hdp I L i1 i2 i3 i4 i5 i6 i7 r I1 L1
    refine ⟨?_, ?_, ?_⟩
    · intro h
      rw [e_301_0] at h
      refine K_of b_301_0 h_301_0 ?_
      refine q_aload rfl ?_
      refine q_iconst (0) (by decide) ?_
      refine q_putI (c0 := 12) (j := 0) rfl rfl (zl hS 105 (by decide)) (sk hS 105 (by decide) rfl) rfl ?_
      obtain ⟨I_2, nI_2, h⟩ := stI_some h
      refine q_nI nI_2 ?_
      refine q_iload rfl ?_
      refine q_i2l ?_
      refine q_lconst (0) (by decide) ?_
      refine q_lconst (99) (by decide) ?_
      obtain ⟨d_11, h⟩ := ite_some h
      obtain ⟨⟨x0_11, I0_11, L0_11⟩, e_11, h⟩ := Option.bind_eq_some_iff.mp h
      dsimp only at h
      refine q_fs3I (a_193 X hS (d := d - 1) (by omega) e_11) (by omega) (Nat.le_refl _) (Nat.le_refl _) rfl (Nat.le_of_ble_eq_true rfl) ?_
      refine q_if_eq (fun c_14 => ?_) (fun c_14 => ?_)
      · rw [if_pos c_14] at h
        refine K_of b_301_39 h_301_39 ?_
        refine q_iconst (-1) (by decide) ?_
        cases h
        exact q_iret rfl (Nat.le_refl _) (Nat.le_refl _) ⟨rfl, rfl⟩
      · rw [if_neg c_14] at h
        refine q_iload rfl ?_
        refine q_i2l ?_
        refine q_lconst (0) (by decide) ?_
        refine q_lconst (9999) (by decide) ?_
        obtain ⟨d_23, h⟩ := ite_some h
        obtain ⟨⟨x1_23, I1_23, L1_23⟩, e_23, h⟩ := Option.bind_eq_some_iff.mp h
        dsimp only at h
        refine q_fs3I (a_193 X hS (d := d - 1) (by omega) e_23) (by omega) (Nat.le_refl _) (Nat.le_refl _) rfl (Nat.le_of_ble_eq_true rfl) ?_
        refine q_if_eq (fun c_26 => ?_) (fun c_26 => ?_)
        · rw [if_pos c_26] at h
          refine K_of b_301_39 h_301_39 ?_
          refine q_iconst (-1) (by decide) ?_
          cases h
          exact q_iret rfl (Nat.le_refl _) (Nat.le_refl _) ⟨rfl, rfl⟩
        · rw [if_neg c_26] at h
          refine q_iload rfl ?_
          refine q_i2l ?_
          refine q_lconst (0) (by decide) ?_
          refine q_lconst (1) (by decide) ?_
          obtain ⟨d_33, h⟩ := ite_some h
          obtain ⟨⟨x2_33, I2_33, L2_33⟩, e_33, h⟩ := Option.bind_eq_some_iff.mp h
          dsimp only at h
          refine q_fs3I (a_193 X hS (d := d - 1) (by omega) e_33) (by omega) (Nat.le_refl _) (Nat.le_refl _) rfl (Nat.le_of_ble_eq_true rfl) ?_
          refine q_if_ne (fun c_36 => ?_) (fun c_36 => ?_)
          · rw [if_neg c_36] at h
            refine K_of b_301_41 h_301_41 ?_
            refine q_iconst (-1) (by decide) ?_
            refine q_istore (Nat.le_of_ble_eq_true rfl) rfl ?_
            refine q_iconst (0) (by decide) ?_
            refine q_istore (Nat.le_of_ble_eq_true rfl) rfl ?_
            refine q_iconst (0) (by decide) ?_
            refine q_istore (Nat.le_of_ble_eq_true rfl) rfl ?_
            refine q_iconst (0) (by decide) ?_
            refine q_istore (Nat.le_of_ble_eq_true rfl) rfl ?_
            refine q_end ?_
            exact (ih dp d hdp _ _ i1 i2 i3 (-1 : Int32) (0 : Int32) (0 : Int32) (0 : Int32) _ _ _).2.1 h
          · rw [if_pos c_36] at h
            refine q_end ?_
            refine K_of b_301_39 h_301_39 ?_
            refine q_iconst (-1) (by decide) ?_
            cases h
            exact q_iret rfl (Nat.le_refl _) (Nat.le_refl _) ⟨rfl, rfl⟩
    · intro h
      rw [e_301_1] at h
      refine K_of b_301_53 h_301_53 ?_
      refine q_iload rfl ?_
      refine q_aload rfl ?_
      refine q_getRs (c0 := 12) (j := 3) rfl rfl (zl hS 105 (by decide)) (sk hS 105 (by decide) rfl) rfl (by decide) (r_105_3 hS) ?_
      refine q_iconst (7) (by decide) ?_
      refine q_ialN (7) rfl (zl hS 107 (by decide)) (sk hS 107 (by decide) rfl) (by decide) (by decide) ?_
      refine q_icmp_ge (fun c_62 => ?_) (fun c_62 => ?_)
      · rw [if_pos c_62] at h
        refine K_of b_301_157 h_301_157 ?_
        refine q_iload rfl ?_
        refine q_if_ne (fun c_158 => ?_) (fun c_158 => ?_)
        · rw [if_neg c_158] at h
          refine K_of b_301_166 h_301_166 ?_
          refine q_iload rfl ?_
          refine q_end ?_
          refine K_of b_301_168 h_301_168 ?_
          cases h
          exact q_iret rfl (Nat.le_refl _) (Nat.le_refl _) ⟨rfl, rfl⟩
        · rw [if_pos c_158] at h
          refine q_iload rfl ?_
          refine q_goto ?_
          refine K_of b_301_168 h_301_168 ?_
          cases h
          exact q_iret rfl (Nat.le_refl _) (Nat.le_refl _) ⟨rfl, rfl⟩
      · rw [if_neg c_62] at h
        refine q_iload rfl ?_
        refine q_aload rfl ?_
        refine q_getRs (c0 := 12) (j := 3) rfl rfl (zl hS 105 (by decide)) (sk hS 105 (by decide) rfl) rfl (by decide) (r_105_3 hS) ?_
        refine q_iconst (202) (by decide) ?_
        refine q_iconst (2) (by decide) ?_
        refine q_iload rfl ?_
        refine q_imul ?_
        refine q_iadd ?_
        obtain ⟨⟨u_79, v_79⟩, h⟩ := ite_some h
        refine q_ialN (Int32.toNatClampNeg ((202 : Int32) + ((2 : Int32) * i7))) (nx u_79) (zl hS 107 (by decide)) (sk hS 107 (by decide) rfl) v_79 (by decide) ?_
        refine q_aload rfl ?_
        refine q_getRs (c0 := 12) (j := 3) rfl rfl (zl hS 105 (by decide)) (sk hS 105 (by decide) rfl) rfl (by decide) (r_105_3 hS) ?_
        refine q_iconst (202) (by decide) ?_
        refine q_iconst (2) (by decide) ?_
        refine q_iload rfl ?_
        refine q_imul ?_
        refine q_iadd ?_
        refine q_iconst (1) (by decide) ?_
        refine q_iadd ?_
        obtain ⟨⟨u_94, v_94⟩, h⟩ := ite_some h
        refine q_ialN (Int32.toNatClampNeg (((202 : Int32) + ((2 : Int32) * i7)) + (1 : Int32))) (nx u_94) (zl hS 107 (by decide)) (sk hS 107 (by decide) rfl) v_94 (by decide) ?_
        refine q_isub ?_
        refine q_iload rfl ?_
        refine q_isub ?_
        refine q_iadd ?_
        obtain ⟨v_99, nv_99, h⟩ := stI_some h
        refine q_eqi nv_99.symm ?_
        refine q_istore (Nat.le_of_ble_eq_true rfl) rfl ?_
        refine q_iload rfl ?_
        refine q_if_ge (fun c_103 => ?_) (fun c_103 => ?_)
        · rw [if_pos c_103] at h
          refine K_of b_301_110 h_301_110 ?_
          refine q_iload rfl ?_
          refine q_end ?_
          refine K_of b_301_112 h_301_112 ?_
          refine q_istore (Nat.le_of_ble_eq_true rfl) rfl ?_
          refine q_iload rfl ?_
          refine q_iconst (-1) (by decide) ?_
          refine q_icmp_ne (fun c_117 => ?_) (fun c_117 => ?_)
          · rw [if_neg c_117] at h
            exact (ih dp d hdp _ _ i1 i2 i3 i4 i5 v_99 i7 _ _ _).2.2 h
          · rw [if_pos c_117] at h
            refine q_iload rfl ?_
            refine q_iload rfl ?_
            refine q_icmp_le (fun c_123 => ?_) (fun c_123 => ?_)
            · rw [if_pos c_123] at h
              exact (ih dp d hdp _ _ i1 i2 i3 i4 i5 v_99 i7 _ _ _).2.2 h
            · rw [if_neg c_123] at h
              refine q_iload rfl ?_
              refine q_goto ?_
              refine K_of b_301_133 h_301_133 ?_
              refine q_istore (Nat.le_of_ble_eq_true rfl) rfl ?_
              refine q_iload rfl ?_
              refine q_iload rfl ?_
              refine q_icmp_le (fun c_139 => ?_) (fun c_139 => ?_)
              · rw [if_pos c_139] at h
                refine K_of b_301_147 h_301_147 ?_
                refine q_iload rfl ?_
                refine q_end ?_
                refine K_of b_301_149 h_301_149 ?_
                refine q_istore (Nat.le_of_ble_eq_true rfl) rfl ?_
                refine q_iinc rfl rfl ?_
                refine q_goto ?_
                exact (ih dp d hdp _ _ i1 i2 i3 i7 i5 v_99 (i7 + Int32.ofInt (1)) _ _ _).2.1 h
              · rw [if_neg c_139] at h
                refine q_iload rfl ?_
                refine q_goto ?_
                refine K_of b_301_149 h_301_149 ?_
                refine q_istore (Nat.le_of_ble_eq_true rfl) rfl ?_
                refine q_iinc rfl rfl ?_
                refine q_goto ?_
                exact (ih dp d hdp _ _ i1 i2 i3 i7 v_99 v_99 (i7 + Int32.ofInt (1)) _ _ _).2.1 h
        · rw [if_neg c_103] at h
          refine q_iconst (0) (by decide) ?_
          refine q_goto ?_
          refine K_of b_301_112 h_301_112 ?_
          refine q_istore (Nat.le_of_ble_eq_true rfl) rfl ?_
          refine q_iload rfl ?_
          refine q_iconst (-1) (by decide) ?_
          refine q_icmp_ne (fun c_117 => ?_) (fun c_117 => ?_)
          · rw [if_neg c_117] at h
            exact (ih dp d hdp _ _ i1 i2 i3 i4 i5 (0 : Int32) i7 _ _ _).2.2 h
          · rw [if_pos c_117] at h
            refine q_iload rfl ?_
            refine q_iload rfl ?_
            refine q_icmp_le (fun c_123 => ?_) (fun c_123 => ?_)
            · rw [if_pos c_123] at h
              exact (ih dp d hdp _ _ i1 i2 i3 i4 i5 (0 : Int32) i7 _ _ _).2.2 h
            · rw [if_neg c_123] at h
              refine q_iload rfl ?_
              refine q_goto ?_
              refine K_of b_301_133 h_301_133 ?_
              refine q_istore (Nat.le_of_ble_eq_true rfl) rfl ?_
              refine q_iload rfl ?_
              refine q_iload rfl ?_
              refine q_icmp_le (fun c_139 => ?_) (fun c_139 => ?_)
              · rw [if_pos c_139] at h
                refine K_of b_301_147 h_301_147 ?_
                refine q_iload rfl ?_
                refine q_end ?_
                refine K_of b_301_149 h_301_149 ?_
                refine q_istore (Nat.le_of_ble_eq_true rfl) rfl ?_
                refine q_iinc rfl rfl ?_
                refine q_goto ?_
                exact (ih dp d hdp _ _ i1 i2 i3 i7 i5 (0 : Int32) (i7 + Int32.ofInt (1)) _ _ _).2.1 h
              · rw [if_neg c_139] at h
                refine q_iload rfl ?_
                refine q_goto ?_
                refine K_of b_301_149 h_301_149 ?_
                refine q_istore (Nat.le_of_ble_eq_true rfl) rfl ?_
                refine q_iinc rfl rfl ?_
                refine q_goto ?_
                exact (ih dp d hdp _ _ i1 i2 i3 i7 (0 : Int32) (0 : Int32) (i7 + Int32.ofInt (1)) _ _ _).2.1 h
    · intro h
      rw [e_301_2] at h
      refine K_of b_301_131 h_301_131 ?_
      refine q_iload rfl ?_
      refine q_end ?_
      refine K_of b_301_133 h_301_133 ?_
      refine q_istore (Nat.le_of_ble_eq_true rfl) rfl ?_
      refine q_iload rfl ?_
      refine q_iload rfl ?_
      refine q_icmp_le (fun c_139 => ?_) (fun c_139 => ?_)
      · rw [if_pos c_139] at h
        refine K_of b_301_147 h_301_147 ?_
        refine q_iload rfl ?_
        refine q_end ?_
        refine K_of b_301_149 h_301_149 ?_
        refine q_istore (Nat.le_of_ble_eq_true rfl) rfl ?_
        refine q_iinc rfl rfl ?_
        refine q_goto ?_
        exact (ih dp d hdp _ _ i1 i2 i3 i4 i5 i6 (i7 + Int32.ofInt (1)) _ _ _).2.1 h
      · rw [if_neg c_139] at h
        refine q_iload rfl ?_
        refine q_goto ?_
        refine K_of b_301_149 h_301_149 ?_
        refine q_istore (Nat.le_of_ble_eq_true rfl) rfl ?_
        refine q_iinc rfl rfl ?_
        refine q_goto ?_
        exact (ih dp d hdp _ _ i1 i2 i3 i4 i6 i6 (i7 + Int32.ofInt (1)) _ _ _).2.1 h
theorem a_301 (X : GX) {z : Nat} {kd : Nat → Nat × Nat} {Rf : Nat → Nat → Option Nat} (hS : Sh z kd Rf) {n dp d : Nat} (hd : dp ≤ d) {I : (Nat → Nat → Int32)} {L : (Nat → Nat → Int64)} {i1 : Int32} {i2 : Int32} {i3 : Int32} {I1 : (Nat → Nat → Int32)} {L1 : (Nat → Nat → Int64)} {r : Int32} (h : g_301 n dp (z, kd, Rf) 0 I L i1 i2 i3 0 0 0 0 = some (r, I1, L1)) : Ct X d 301 0 0 [.ref 105, .int i1, .int i2, .int i3] (z, kd, I, L, Rf) (AI (fun x τ => x = r ∧ τ = (z, kd, I1, L1, Rf))) :=
  Ct_of mu_301 (Nat.le_of_ble_eq_true rfl) ((w_301 X hS n dp d hd I L i1 i2 i3 0 0 0 0 _ _ _).1 h)

