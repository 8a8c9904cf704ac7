/-! String.length, charAt over the constants -/
def sch (j : Nat) (i : Int32) : Int32 := (sbyt.getD j []).getD i.toNatClampNeg 0
theorem sby : ∀ j, j < 13 → ∀ k, k < 8 → (((sbyt.getD j []).getD k 0 &&& 255).toUInt32 % 65536).toInt32 = (sbyt.getD j []).getD k 0 := by decide +kernel
theorem sLe : ∀ j, j < 13 → sLen.getD j 0 < 8 := by decide +kernel
theorem sShr : ∀ m, m < 8 → nI m >>> ((0 : Int32) &&& 31) = nI m := by decide +kernel
set_option maxRecDepth 100000 in
theorem c_43 (X : GX) (d : Nat) (σ : PS) (j : Nat) (hj : j < 13) : Ct X d 43 0 0 [.retAddr j] σ (AI (fun r τ => r = 0 ∧ τ = σ)) := by
  refine Ct_of mu_43 (Nat.le_of_ble_eq_true rfl) ?_
  show K X d 43 0 0 _ 0 [some (.retAddr j)] [] σ 0 0
  refine K_of b_43_0 h_43_0 ?_
  refine q_gets0 ?_
  refine q_if_eq (fun c => absurd c (by decide)) (fun _ => ?_)
  refine q_aloadS rfl ?_
  refine q_gcod hj ?_
  refine q_goto ?_
  refine K_of b_43_14 h_43_14 ?_
  exact q_iret rfl (Nat.le_refl _) (Nat.le_refl _) ⟨rfl, rfl⟩
set_option maxRecDepth 100000 in
theorem c_42 (X : GX) (d : Nat) (hd : 1 ≤ d) (σ : PS) (j : Nat) (hj : j < 13) : Ct X d 42 0 0 [.retAddr j] σ (AI (fun r τ => r = nI (sLen.getD j 0) ∧ τ = σ)) := by
  refine Ct_of mu_42 (Nat.le_of_ble_eq_true rfl) ?_
  show K X d 42 0 0 _ 0 [some (.retAddr j)] [] σ 0 0
  refine K_of b_42_0 h_42_0 ?_
  refine q_aloadS rfl ?_
  refine q_gval hj ?_
  refine q_blen hj ?_
  refine q_aloadS rfl ?_
  refine q_fv1I (c_43 X (d - 1) σ j hj) (by omega) (Nat.le_refl _) (Nat.le_refl _) rfl (Nat.le_of_ble_eq_true rfl) ⟨hj, rfl⟩ ?_
  refine q_ishr ?_
  exact q_iret rfl (Nat.le_refl _) (Nat.le_refl _) ⟨sShr _ (sLe j hj), rfl⟩
set_option maxRecDepth 100000 in
theorem c_45 (X : GX) (d : Nat) (σ : PS) (j : Nat) (hj : j < 13) : Ct X d 45 0 0 [.retAddr j] σ (AI (fun r τ => r = 1 ∧ τ = σ)) := by
  refine Ct_of mu_45 (Nat.le_of_ble_eq_true rfl) ?_
  show K X d 45 0 0 _ 0 [some (.retAddr j)] [] σ 0 0
  refine K_of b_45_0 h_45_0 ?_
  refine q_gets0 ?_
  refine q_if_eq (fun c => absurd c (by decide)) (fun _ => ?_)
  refine q_aloadS rfl ?_
  refine q_gcod hj ?_
  refine q_if_ne (fun c => absurd rfl c) (fun _ => ?_)
  refine q_iconst 1 (by decide) ?_
  refine q_goto ?_
  refine K_of b_45_18 h_45_18 ?_
  exact q_iret rfl (Nat.le_refl _) (Nat.le_refl _) ⟨rfl, rfl⟩
def b_47_0 : List (Nat × Instr) := [(0, .iload 0), (1, .iload 1), (2, .getstatic 1), (5, .invokestatic 48), (8, .pop), (9, .return_)]
theorem h_47_0 : chk (mt 47) 10 0 b_47_0 = true := by decide +kernel
set_option maxRecDepth 100000 in
theorem c_48 (X : GX) (d : Nat) (σ : PS) (i m : Int32) (v : Value) (hv : v = .null ∨ v = .retAddr 101) (h0 : 0 ≤ i) (h1 : i < m) : Ct X d 48 0 0 [.int i, .int m, v] σ (AI (fun r τ => r = i ∧ τ = σ)) := by
  have key : ∀ v : Value, K X d 48 0 0 (AI (fun r τ => r = i ∧ τ = σ)) 0 [some (.int i), some (.int m), some v] [] σ 0 0 := by
    intro v
    refine K_of b_48_0 h_48_0 ?_
    refine q_iload rfl ?_
    refine q_if_lt (fun c => absurd h0 (Int32.not_le.mpr c)) (fun _ => ?_)
    refine q_iload rfl ?_
    refine q_iload rfl ?_
    refine q_icmp_lt (fun _ => ?_) (fun c => absurd h1 c)
    refine K_of b_48_16 h_48_16 ?_
    refine q_iload rfl ?_
    exact q_iret rfl (Nat.le_refl _) (Nat.le_refl _) ⟨rfl, rfl⟩
  rcases hv with rfl | rfl
  · exact Ct_of mu_48 (Nat.le_of_ble_eq_true rfl) (key _)
  · exact Ct_of mu_48 (Nat.le_of_ble_eq_true rfl) (key _)
set_option maxRecDepth 100000 in
theorem c_47 (X : GX) (d : Nat) (hd : 1 ≤ d) (σ : PS) (i m : Int32) (h0 : 0 ≤ i) (h1 : i < m) : Ct X d 47 0 0 [.int i, .int m] σ (AV (fun τ => τ = σ)) := by
  refine Ct_of mu_47 (Nat.le_of_ble_eq_true rfl) ?_
  show K X d 47 0 0 _ 0 [some (.int i), some (.int m)] [] σ 0 0
  refine K_of b_47_0 h_47_0 ?_
  refine q_iload rfl ?_
  refine q_iload rfl ?_
  refine q_gets1 ?_
  refine q_fs3I (c_48 X (d - 1) σ i m _ (by by_cases hg : gf X = true <;> simp [hg]) h0 h1) (by omega) (Nat.le_refl _) (Nat.le_refl _) rfl (Nat.le_of_ble_eq_true rfl) ?_
  refine q_pop rfl ?_
  exact q_vret rfl (Nat.le_refl _) (Nat.le_refl _) rfl
set_option maxRecDepth 100000 in
theorem c_46 (X : GX) (d : Nat) (hd : 2 ≤ d) (σ : PS) (j : Nat) (hj : j < 13) (i : Int32) (h0 : 0 ≤ i) (h1 : i.toNatClampNeg < sLen.getD j 0) : Ct X d 46 0 0 [.retAddr (20 + j), .int i] σ (AI (fun r τ => r = sch j i ∧ τ = σ)) := by
  have hle := sLe j hj
  have hlt : i < nI (sLen.getD j 0) := by
    rw [nx h0]
    exact nI_lt h1 (by omega)
  refine Ct_of mu_46 (Nat.le_of_ble_eq_true rfl) ?_
  show K X d 46 0 0 _ 0 [some (.retAddr (20 + j)), some (.int i)] [] σ 0 0
  refine K_of b_46_0 h_46_0 ?_
  refine q_iload rfl ?_
  refine q_aloadS rfl ?_
  refine q_blen hj ?_
  refine q_fs2V (c_47 X (d - 1) (by omega) σ i _ h0 hlt) (by omega) (Nat.le_refl _) (Nat.le_refl _) rfl (Nat.le_of_ble_eq_true rfl) ?_
  refine q_aloadS rfl ?_
  refine q_iload rfl ?_
  refine q_bald hj (in_of h0 h1) ?_
  refine q_iconst 255 (by decide) ?_
  refine q_iand ?_
  refine q_i2c ?_
  have e9 := sby j hj i.toNatClampNeg (by omega)
  refine q_eqi e9 ?_
  refine q_iret ?_ (Nat.le_refl _) (Nat.le_refl _) ⟨rfl, rfl⟩
  show narrow .char (.int _) = .int _
  rw [← e9]
  exact pk_nc _
set_option maxRecDepth 100000 in
theorem c_44 (X : GX) (d : Nat) (hd : 3 ≤ d) (σ : PS) (j : Nat) (hj : j < 13) (i : Int32) (h0 : 0 ≤ i) (h1 : i.toNatClampNeg < sLen.getD j 0) : Ct X d 44 0 0 [.retAddr j, .int i] σ (AI (fun r τ => r = sch j i ∧ τ = σ)) := by
  refine Ct_of mu_44 (Nat.le_of_ble_eq_true rfl) ?_
  show K X d 44 0 0 _ 0 [some (.retAddr j), some (.int i)] [] σ 0 0
  refine K_of b_44_0 h_44_0 ?_
  refine q_aloadS rfl ?_
  refine q_fv1I (c_45 X (d - 1) σ j hj) (by omega) (Nat.le_refl _) (Nat.le_refl _) rfl (Nat.le_of_ble_eq_true rfl) ⟨hj, rfl⟩ ?_
  refine q_if_eq (fun c => absurd c (by decide)) (fun _ => ?_)
  refine q_aloadS rfl ?_
  refine q_gval hj ?_
  refine q_iload rfl ?_
  refine q_fs2I (c_46 X (d - 1) (by omega) σ j hj i h0 h1) (by omega) (Nat.le_refl _) (Nat.le_refl _) rfl (Nat.le_of_ble_eq_true rfl) ?_
  refine q_iret ?_ (Nat.le_refl _) (Nat.le_refl _) ⟨rfl, rfl⟩
  show narrow .char (.int (sch j i)) = .int (sch j i)
  have hle := sLe j hj
  have e9 := sby j hj i.toNatClampNeg (by omega)
  unfold sch
  rw [← e9]
  exact pk_nc _
