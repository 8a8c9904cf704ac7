section
set_option maxRecDepth 100000 in
theorem ev_274_0 {dp : Nat} {e : EN} {I : JI} {L : JI} {i1 : Int} {i2 : Int} {P_ : (Int × JI × JI) → Prop} (h : Ev (fun n => (if i1 = 0 then (if i1 = 1 then (if i1 = 2 then (if 1 ≤ dp then (if (-2147483648 ≤ (I 107 0) + i2 ∧ (I 107 0) + i2 ≤ 2147483647) ∧ (-2147483648 ≤ (I 107 1) + i2 ∧ (I 107 1) + i2 ≤ 2147483647) ∧ (-2147483648 ≤ (I 107 2) + i2 ∧ (I 107 2) + i2 ≤ 2147483647) then ((kf_262 n (dp - 1) e 0 I L ((I 107 0) + i2) ((I 107 1) + i2) ((I 107 2) + i2) 0 0 0).bind (fun ⟨x0_51, I0_51, L0_51⟩ => (if x0_51 = 0 then (some (((-1) : Int), I0_51, L0_51)) else (if 1 ≤ dp then ((kf_263 n (dp - 1) e 0 I0_51 L0_51 0 0 0).bind (fun ⟨x1_58, I1_58, L1_58⟩ => (some ((x1_58 : Int), I1_58, L1_58)))) else none)))) else none) else none) else (if 1 ≤ dp then (if (-2147483648 ≤ (I 107 0) + i2 ∧ (I 107 0) + i2 ≤ 2147483647) ∧ (-2147483648 ≤ (I 107 1) + i2 ∧ (I 107 1) + i2 ≤ 2147483647) ∧ (-2147483648 ≤ (I 107 2) + 0 ∧ (I 107 2) + 0 ≤ 2147483647) then ((kf_262 n (dp - 1) e 0 I L ((I 107 0) + i2) ((I 107 1) + i2) ((I 107 2) + 0) 0 0 0).bind (fun ⟨x0_51, I0_51, L0_51⟩ => (if x0_51 = 0 then (some (((-1) : Int), I0_51, L0_51)) else (if 1 ≤ dp then ((kf_263 n (dp - 1) e 0 I0_51 L0_51 0 0 0).bind (fun ⟨x1_58, I1_58, L1_58⟩ => (some ((x1_58 : Int), I1_58, L1_58)))) else none)))) else none) else none)) else (if i1 = 2 then (if 1 ≤ dp then (if (-2147483648 ≤ (I 107 0) + i2 ∧ (I 107 0) + i2 ≤ 2147483647) ∧ (-2147483648 ≤ (I 107 1) + 0 ∧ (I 107 1) + 0 ≤ 2147483647) ∧ (-2147483648 ≤ (I 107 2) + i2 ∧ (I 107 2) + i2 ≤ 2147483647) then ((kf_262 n (dp - 1) e 0 I L ((I 107 0) + i2) ((I 107 1) + 0) ((I 107 2) + i2) 0 0 0).bind (fun ⟨x0_51, I0_51, L0_51⟩ => (if x0_51 = 0 then (some (((-1) : Int), I0_51, L0_51)) else (if 1 ≤ dp then ((kf_263 n (dp - 1) e 0 I0_51 L0_51 0 0 0).bind (fun ⟨x1_58, I1_58, L1_58⟩ => (some ((x1_58 : Int), I1_58, L1_58)))) else none)))) else none) else none) else (if 1 ≤ dp then (if (-2147483648 ≤ (I 107 0) + i2 ∧ (I 107 0) + i2 ≤ 2147483647) ∧ (-2147483648 ≤ (I 107 1) + 0 ∧ (I 107 1) + 0 ≤ 2147483647) ∧ (-2147483648 ≤ (I 107 2) + 0 ∧ (I 107 2) + 0 ≤ 2147483647) then ((kf_262 n (dp - 1) e 0 I L ((I 107 0) + i2) ((I 107 1) + 0) ((I 107 2) + 0) 0 0 0).bind (fun ⟨x0_51, I0_51, L0_51⟩ => (if x0_51 = 0 then (some (((-1) : Int), I0_51, L0_51)) else (if 1 ≤ dp then ((kf_263 n (dp - 1) e 0 I0_51 L0_51 0 0 0).bind (fun ⟨x1_58, I1_58, L1_58⟩ => (some ((x1_58 : Int), I1_58, L1_58)))) else none)))) else none) else none))) else (if i1 = 1 then (if i1 = 2 then (if 1 ≤ dp then (if (-2147483648 ≤ (I 107 0) + 0 ∧ (I 107 0) + 0 ≤ 2147483647) ∧ (-2147483648 ≤ (I 107 1) + i2 ∧ (I 107 1) + i2 ≤ 2147483647) ∧ (-2147483648 ≤ (I 107 2) + i2 ∧ (I 107 2) + i2 ≤ 2147483647) then ((kf_262 n (dp - 1) e 0 I L ((I 107 0) + 0) ((I 107 1) + i2) ((I 107 2) + i2) 0 0 0).bind (fun ⟨x0_51, I0_51, L0_51⟩ => (if x0_51 = 0 then (some (((-1) : Int), I0_51, L0_51)) else (if 1 ≤ dp then ((kf_263 n (dp - 1) e 0 I0_51 L0_51 0 0 0).bind (fun ⟨x1_58, I1_58, L1_58⟩ => (some ((x1_58 : Int), I1_58, L1_58)))) else none)))) else none) else none) else (if 1 ≤ dp then (if (-2147483648 ≤ (I 107 0) + 0 ∧ (I 107 0) + 0 ≤ 2147483647) ∧ (-2147483648 ≤ (I 107 1) + i2 ∧ (I 107 1) + i2 ≤ 2147483647) ∧ (-2147483648 ≤ (I 107 2) + 0 ∧ (I 107 2) + 0 ≤ 2147483647) then ((kf_262 n (dp - 1) e 0 I L ((I 107 0) + 0) ((I 107 1) + i2) ((I 107 2) + 0) 0 0 0).bind (fun ⟨x0_51, I0_51, L0_51⟩ => (if x0_51 = 0 then (some (((-1) : Int), I0_51, L0_51)) else (if 1 ≤ dp then ((kf_263 n (dp - 1) e 0 I0_51 L0_51 0 0 0).bind (fun ⟨x1_58, I1_58, L1_58⟩ => (some ((x1_58 : Int), I1_58, L1_58)))) else none)))) else none) else none)) else (if i1 = 2 then (if 1 ≤ dp then (if (-2147483648 ≤ (I 107 0) + 0 ∧ (I 107 0) + 0 ≤ 2147483647) ∧ (-2147483648 ≤ (I 107 1) + 0 ∧ (I 107 1) + 0 ≤ 2147483647) ∧ (-2147483648 ≤ (I 107 2) + i2 ∧ (I 107 2) + i2 ≤ 2147483647) then ((kf_262 n (dp - 1) e 0 I L ((I 107 0) + 0) ((I 107 1) + 0) ((I 107 2) + i2) 0 0 0).bind (fun ⟨x0_51, I0_51, L0_51⟩ => (if x0_51 = 0 then (some (((-1) : Int), I0_51, L0_51)) else (if 1 ≤ dp then ((kf_263 n (dp - 1) e 0 I0_51 L0_51 0 0 0).bind (fun ⟨x1_58, I1_58, L1_58⟩ => (some ((x1_58 : Int), I1_58, L1_58)))) else none)))) else none) else none) else (if 1 ≤ dp then (if (-2147483648 ≤ (I 107 0) + 0 ∧ (I 107 0) + 0 ≤ 2147483647) ∧ (-2147483648 ≤ (I 107 1) + 0 ∧ (I 107 1) + 0 ≤ 2147483647) ∧ (-2147483648 ≤ (I 107 2) + 0 ∧ (I 107 2) + 0 ≤ 2147483647) then ((kf_262 n (dp - 1) e 0 I L ((I 107 0) + 0) ((I 107 1) + 0) ((I 107 2) + 0) 0 0 0).bind (fun ⟨x0_51, I0_51, L0_51⟩ => (if x0_51 = 0 then (some (((-1) : Int), I0_51, L0_51)) else (if 1 ≤ dp then ((kf_263 n (dp - 1) e 0 I0_51 L0_51 0 0 0).bind (fun ⟨x1_58, I1_58, L1_58⟩ => (some ((x1_58 : Int), I1_58, L1_58)))) else none)))) else none) else none))))) P_) : Ev (fun n => kf_274 n dp e 0 I L i1 i2) P_ := Ev_step (fun n => ke_274_0 n dp e I L i1 i2) h
set_option maxRecDepth 100000 in
theorem ev_128_0 {dp : Nat} {z : Nat} {kd : (Nat → Nat × Nat)} {I : JI} {L : JI} {R : (Nat → Nat → Option Nat)} {i1 : Int} {i2 : Int} {P_ : ((Int × PSi) × Nat × Nat) → Prop} (h : Ev (fun n => (if i1 = 0 then (if i1 = 1 then (if i1 = 2 then (if 1 ≤ dp then (if (-2147483648 ≤ (I 2 0) + i2 ∧ (I 2 0) + i2 ≤ 2147483647) ∧ (-2147483648 ≤ (I 2 1) + i2 ∧ (I 2 1) + i2 ≤ 2147483647) ∧ (-2147483648 ≤ (I 2 2) + i2 ∧ (I 2 2) + i2 ≤ 2147483647) then ((kf_92 n (dp - 1) 0 z kd I L R ((I 2 0) + i2) ((I 2 1) + i2) ((I 2 2) + i2) 0).bind (fun ⟨⟨x_60, z_60, kd_60, I_60, L_60, R_60⟩, ck_60, cm_60⟩ => (adk ck_60 cm_60 (some (((x_60 : Int), z_60, kd_60, I_60, L_60, R_60), 0, 0))))) else none) else none) else (if 1 ≤ dp then (if (-2147483648 ≤ (I 2 0) + i2 ∧ (I 2 0) + i2 ≤ 2147483647) ∧ (-2147483648 ≤ (I 2 1) + i2 ∧ (I 2 1) + i2 ≤ 2147483647) ∧ (-2147483648 ≤ (I 2 2) + 0 ∧ (I 2 2) + 0 ≤ 2147483647) then ((kf_92 n (dp - 1) 0 z kd I L R ((I 2 0) + i2) ((I 2 1) + i2) ((I 2 2) + 0) 0).bind (fun ⟨⟨x_60, z_60, kd_60, I_60, L_60, R_60⟩, ck_60, cm_60⟩ => (adk ck_60 cm_60 (some (((x_60 : Int), z_60, kd_60, I_60, L_60, R_60), 0, 0))))) else none) else none)) else (if i1 = 2 then (if 1 ≤ dp then (if (-2147483648 ≤ (I 2 0) + i2 ∧ (I 2 0) + i2 ≤ 2147483647) ∧ (-2147483648 ≤ (I 2 1) + 0 ∧ (I 2 1) + 0 ≤ 2147483647) ∧ (-2147483648 ≤ (I 2 2) + i2 ∧ (I 2 2) + i2 ≤ 2147483647) then ((kf_92 n (dp - 1) 0 z kd I L R ((I 2 0) + i2) ((I 2 1) + 0) ((I 2 2) + i2) 0).bind (fun ⟨⟨x_60, z_60, kd_60, I_60, L_60, R_60⟩, ck_60, cm_60⟩ => (adk ck_60 cm_60 (some (((x_60 : Int), z_60, kd_60, I_60, L_60, R_60), 0, 0))))) else none) else none) else (if 1 ≤ dp then (if (-2147483648 ≤ (I 2 0) + i2 ∧ (I 2 0) + i2 ≤ 2147483647) ∧ (-2147483648 ≤ (I 2 1) + 0 ∧ (I 2 1) + 0 ≤ 2147483647) ∧ (-2147483648 ≤ (I 2 2) + 0 ∧ (I 2 2) + 0 ≤ 2147483647) then ((kf_92 n (dp - 1) 0 z kd I L R ((I 2 0) + i2) ((I 2 1) + 0) ((I 2 2) + 0) 0).bind (fun ⟨⟨x_60, z_60, kd_60, I_60, L_60, R_60⟩, ck_60, cm_60⟩ => (adk ck_60 cm_60 (some (((x_60 : Int), z_60, kd_60, I_60, L_60, R_60), 0, 0))))) else none) else none))) else (if i1 = 1 then (if i1 = 2 then (if 1 ≤ dp then (if (-2147483648 ≤ (I 2 0) + 0 ∧ (I 2 0) + 0 ≤ 2147483647) ∧ (-2147483648 ≤ (I 2 1) + i2 ∧ (I 2 1) + i2 ≤ 2147483647) ∧ (-2147483648 ≤ (I 2 2) + i2 ∧ (I 2 2) + i2 ≤ 2147483647) then ((kf_92 n (dp - 1) 0 z kd I L R ((I 2 0) + 0) ((I 2 1) + i2) ((I 2 2) + i2) 0).bind (fun ⟨⟨x_60, z_60, kd_60, I_60, L_60, R_60⟩, ck_60, cm_60⟩ => (adk ck_60 cm_60 (some (((x_60 : Int), z_60, kd_60, I_60, L_60, R_60), 0, 0))))) else none) else none) else (if 1 ≤ dp then (if (-2147483648 ≤ (I 2 0) + 0 ∧ (I 2 0) + 0 ≤ 2147483647) ∧ (-2147483648 ≤ (I 2 1) + i2 ∧ (I 2 1) + i2 ≤ 2147483647) ∧ (-2147483648 ≤ (I 2 2) + 0 ∧ (I 2 2) + 0 ≤ 2147483647) then ((kf_92 n (dp - 1) 0 z kd I L R ((I 2 0) + 0) ((I 2 1) + i2) ((I 2 2) + 0) 0).bind (fun ⟨⟨x_60, z_60, kd_60, I_60, L_60, R_60⟩, ck_60, cm_60⟩ => (adk ck_60 cm_60 (some (((x_60 : Int), z_60, kd_60, I_60, L_60, R_60), 0, 0))))) else none) else none)) else (if i1 = 2 then (if 1 ≤ dp then (if (-2147483648 ≤ (I 2 0) + 0 ∧ (I 2 0) + 0 ≤ 2147483647) ∧ (-2147483648 ≤ (I 2 1) + 0 ∧ (I 2 1) + 0 ≤ 2147483647) ∧ (-2147483648 ≤ (I 2 2) + i2 ∧ (I 2 2) + i2 ≤ 2147483647) then ((kf_92 n (dp - 1) 0 z kd I L R ((I 2 0) + 0) ((I 2 1) + 0) ((I 2 2) + i2) 0).bind (fun ⟨⟨x_60, z_60, kd_60, I_60, L_60, R_60⟩, ck_60, cm_60⟩ => (adk ck_60 cm_60 (some (((x_60 : Int), z_60, kd_60, I_60, L_60, R_60), 0, 0))))) else none) else none) else (if 1 ≤ dp then (if (-2147483648 ≤ (I 2 0) + 0 ∧ (I 2 0) + 0 ≤ 2147483647) ∧ (-2147483648 ≤ (I 2 1) + 0 ∧ (I 2 1) + 0 ≤ 2147483647) ∧ (-2147483648 ≤ (I 2 2) + 0 ∧ (I 2 2) + 0 ≤ 2147483647) then ((kf_92 n (dp - 1) 0 z kd I L R ((I 2 0) + 0) ((I 2 1) + 0) ((I 2 2) + 0) 0).bind (fun ⟨⟨x_60, z_60, kd_60, I_60, L_60, R_60⟩, ck_60, cm_60⟩ => (adk ck_60 cm_60 (some (((x_60 : Int), z_60, kd_60, I_60, L_60, R_60), 0, 0))))) else none) else none))))) P_) : Ev (fun n => kf_128 n dp 0 z kd I L R i1 i2) P_ := Ev_step (fun n => ke_128_0 n dp z kd I L R i1 i2) h
end
/-! PLANS: value, shorts -/
def adC (x cls d more : Int) : Int := x + if cls = d then more else 0
section VM
variable {tr : Nat} {TS : Nat → Prop} {z : Nat} {kd : KD} {R : RF} {J M : JI} {b4 b5 b6 b7 len sl : Nat}
/-- lay and what follows of it in the world of plans -/
theorem M262 {dp : Nat} {a b c : Int} (hd : 7 ≤ dp) (h : PW tr TS z kd R J b4 b5 b6 b7 len sl) (hv : vlP a b c) : Ev (fun n => kf_262 n dp (z, kd, R) 0 J M a b c 0 0 0) (fun r => PW tr TS z kd R r.2.1 b4 b5 b6 b7 len sl ∧ FrMp J r.2.1 M r.2.2 ∧ (∀ a i, (132 ≤ a ∧ a ≤ 135) ∨ (a = 105 ∧ 51 ≤ i ∧ i ≤ 54) → r.2.1 a i = J a i) ∧ (∀ c, 0 ≤ c → c < 3 → LsM c r.2.1 (cuS (J 107) c)) ∧ ((r.1 = 0 ∧ ¬ PlN (cuS (J 107)) a b c) ∨ (r.1 = 1 ∧ PlN (cuS (J 107)) a b c ∧ PlH r.2.1 (a + b + c).toNat ∧ r.2.1 105 48 = 1 ∧ (∀ i, 0 ≤ i → i < a + b + c → r.2.1 126 i = clA a b i) ∧ ∀ p, 0 ≤ p → p < 10 → r.2.1 127 p = J 107 (60 + p)))) := by
  unfold vlP at hv
  refine Ev_mono (R262 (M := M) h.1.1 h.1.2.1 hd h.2.1.1 h.2.1.2 h.2.2.1.2.2 hv.1 hv.2.1 hv.2.2.1 hv.2.2.2) ?_
  rintro ⟨v, J1, M1⟩ ⟨r1, r2, r3, r4, r5, r6, r7⟩
  dsimp only at r1 r2 r3 r4 r5 r6 r7 ⊢
  have e7 : J1 107 = J 107 := funext fun i => r1.1 _ _ (by omega) (by omega)
  have hM1 : PlM J1 := fun q => by
    rw [r5 105 51 (by omega)] at q
    have := (h.2.2.2.2.2.1 q).2
    rw [e7, r5 105 52 (by omega), r5 105 53 (by omega), r5 105 54 (by omega), show (fun i : Nat => J1 134 i) = (fun i : Nat => J 134 i) from funext fun i => r5 _ _ (by omega), show J1 135 = J 135 from funext fun i => r5 _ _ (by omega)]
    exact ⟨r3, this⟩
  exact ⟨PW_m h r1 r2 (Or.inr r3) hM1 (by rw [r5 105 51 (by omega)]; exact h.2.2.2.2.2.2), r1, r5, r6, r7⟩
theorem M263 {dp N : Nat} {wn : Int → Int} {cl : Nat → Int} {dl : Nat → Nat → Int} (hd : 4 ≤ dp) (h : PW tr TS z kd R J b4 b5 b6 b7 len sl) (hP : PlH J N) (hL : ∀ c, 0 ≤ c → c < 3 → LsM c J (cuS (J 107) c)) (hw : ∀ p : Int, 0 ≤ p → p < 10 → J 127 p = wn p ∧ 0 ≤ wn p ∧ wn p ≤ 8) (h5 : sm (fun p => if 0 < wn p then 1 else 0) 10 ≤ 5) (hc : ∀ i : Nat, i < N → J 126 i = cl i) (hdl : ∀ i k : Nat, i < N → dl i k = if 1 < J 105 48 ∧ ¬ (k : Int) = J 132 i then 1 else 0) : Ev (fun n => kf_263 n dp (z, kd, R) 0 J M 0 0 0) (fun r => PW tr TS z kd R r.2.1 b4 b5 b6 b7 len sl ∧ FrMp J r.2.1 M r.2.2 ∧ (∀ a i, (134 ≤ a ∧ a ≤ 135) ∨ (a = 105 ∧ 51 ≤ i ∧ i ≤ 54) → r.2.1 a i = J a i) ∧ MxH (Sq (ofLs (cuS (J 107)) (fun p => J 107 (50 + p)) (J 105 48) dl cl 0 N)) (vT wn (bnR (J 107)) (J 105 48) (fun _ => 0)) (fun _ => True) r.1 (r.2.1 130 0) ∧ -1000000000 ≤ r.1 ∧ r.1 ≤ 1000000000) := by
  refine Ev_mono (R263 (M := M) hd hP hL hw h5 hc hdl) ?_
  rintro ⟨v, J1, M1⟩ ⟨r1, r2, r3, r4, r5⟩
  dsimp only at r1 r2 r3 r4 r5 ⊢
  subst r1
  have hf : FrMp J J1 M1 M1 := ⟨fun a i x y => r2 a i (by omega) (by omega) (by omega), fun _ _ _ _ _ => rfl⟩
  have e7 : J1 107 = J 107 := funext fun i => r2 _ _ (by omega) (by omega) (by omega)
  have hC1 := CutI_x h.1.2.1 e7 (r2 _ _ (by omega) (by omega) (by omega)) (r2 _ _ (by omega) (by omega) (by omega)) (fun T hT a i x y => by
    rcases h.1.2.1.2 T hT with rfl | rfl | u <;> exact r2 _ _ (by omega) (by omega) (by omega)) (fun a i x => r2 _ _ (by omega) (by omega) (by omega)) (fun a i x y => r2 _ _ (by omega) (by omega) (by omega)) h.2.1.2
  refine ⟨PW_m h hf hC1 (by rw [r2 105 32 (by omega) (by omega) (by omega)]; exact h.2.1.1.2.2.2.2) (PlM_c e7 (fun i x => r2 _ _ (by omega) (by omega) (by omega)) (fun i => r2 _ _ (by omega) (by omega) (by omega)) (fun i => r2 _ _ (by omega) (by omega) (by omega)) h.2.2.2.2.2.1) (by rw [r2 105 51 (by omega) (by omega) (by omega)]; exact h.2.2.2.2.2.2), hf, fun a i x => r2 _ _ (by omega) (by omega) (by omega), r3, r4, r5⟩
theorem rw_5 {ρ : Int → Int} (h : rwO ρ) : (∀ p : Int, 0 ≤ p → p < 10 → 0 ≤ ρ (60 + p) ∧ ρ (60 + p) ≤ 8) ∧ sm (fun p => if 0 < ρ (60 + p) then 1 else 0) 10 ≤ 5 := by
  obtain ⟨u1, u2, u3, u4, u5, u6, u7, u8, u9, u10, u11, u12, u13, u14⟩ := h
  refine ⟨fun p x y => u12 _ (by omega) (by omega), Int.le_trans (Int.le_of_eq (sm_congr 10 (fun p x y => ?_))) u13⟩
  by_cases q : 0 < ρ (60 + p)
  · rw [if_pos q, if_neg (by omega)]
  · rw [if_neg q, if_pos (by omega)]
theorem R274 {dp : Nat} {cls more : Int} (hd : 8 ≤ dp) (h : PW tr TS z kd R J b4 b5 b6 b7 len sl) (hc : cls = 0 ∨ cls = 1 ∨ cls = 2) (hm : -1 ≤ more ∧ more ≤ 1) (hv : vlP (adC (J 107 0) cls 0 more) (adC (J 107 1) cls 1 more) (adC (J 107 2) cls 2 more)) : Ev (fun n => kf_274 n dp (z, kd, R) 0 J M cls more) (fun r => PW tr TS z kd R r.2.1 b4 b5 b6 b7 len sl ∧ FrMp J r.2.1 M r.2.2 ∧ (∀ i, 51 ≤ i → i ≤ 54 → r.2.1 105 i = J 105 i) ∧ ((r.1 = -1 ∧ ¬ PlN (cuS (J 107)) (adC (J 107 0) cls 0 more) (adC (J 107 1) cls 1 more) (adC (J 107 2) cls 2 more)) ∨ (PlN (cuS (J 107)) (adC (J 107 0) cls 0 more) (adC (J 107 1) cls 1 more) (adC (J 107 2) cls 2 more) ∧ (∃ n, MxH (Sq (ofLs (cuS (J 107)) (fun p => J 107 (50 + p)) 1 (fun _ _ => 0) (fun i => clA (adC (J 107 0) cls 0 more) (adC (J 107 1) cls 1 more) i) 0 (adC (J 107 0) cls 0 more + adC (J 107 1) cls 1 more + adC (J 107 2) cls 2 more).toNat)) (vT (fun p => J 107 (60 + p)) (bnR (J 107)) 1 (fun _ => 0)) (fun _ => True) r.1 n) ∧ -1000000000 ≤ r.1 ∧ r.1 ≤ 1000000000))) := by
  have m3 := h.2.2.1.2.2
  have b0 := m3.1 0 (by omega) (by omega)
  have b1 := m3.1 1 (by omega) (by omega)
  have b2 := m3.1 2 (by omega) (by omega)
  obtain ⟨v8, v5⟩ := rw_5 m3
  refine ev_274_0 ?_
  rcases hc with rfl | rfl | rfl
  case' inl =>
    have a0 : adC (J 107 0) 0 0 more = J 107 0 + more := rfl
    have a1 : adC (J 107 1) 0 1 more = J 107 1 + 0 := rfl
    have a2 : adC (J 107 2) 0 2 more = J 107 2 + 0 := rfl
    refine Ev_t rfl (Ev_f (by omega) (Ev_f (by omega) ?_))
  case' inr.inl =>
    have a0 : adC (J 107 0) 1 0 more = J 107 0 + 0 := rfl
    have a1 : adC (J 107 1) 1 1 more = J 107 1 + more := rfl
    have a2 : adC (J 107 2) 1 2 more = J 107 2 + 0 := rfl
    refine Ev_f (by omega) (Ev_t rfl (Ev_f (by omega) ?_))
  case' inr.inr =>
    have a0 : adC (J 107 0) 2 0 more = J 107 0 + 0 := rfl
    have a1 : adC (J 107 1) 2 1 more = J 107 1 + 0 := rfl
    have a2 : adC (J 107 2) 2 2 more = J 107 2 + more := rfl
    refine Ev_f (by omega) (Ev_f (by omega) (Ev_t rfl ?_))
  all_goals
    rw [← a0, ← a1, ← a2]
    generalize adC (J 107 0) _ 0 more = a at *
    generalize adC (J 107 1) _ 1 more = b at *
    generalize adC (J 107 2) _ 2 more = c at *
    refine Ev_t (by omega) (Ev_t (by omega) (Ev_bind (M262 (by omega) h hv) ?_))
    rintro ⟨v, J1, M1⟩ ⟨r1, r2, r3, r4, r5⟩
    dsimp only at r1 r2 r3 r4 r5 ⊢
    have e7 : J1 107 = J 107 := funext fun i => r2.1 _ _ (by omega) (by omega)
    have hv' := hv
    unfold vlP at hv'
    rcases r5 with ⟨rfl, q⟩ | ⟨rfl, q, p1, p2, p3, p4⟩
    · exact Ev_t rfl (Ev_ret ⟨r1, r2, fun i x y => r3 _ _ (by omega), Or.inl ⟨rfl, q⟩⟩)
    · refine Ev_f (by omega) (Ev_t (by omega) (Ev_bind (M263 (cl := fun i => clA a b i) (dl := fun _ _ => 0) (wn := fun p => J 107 (60 + p)) (by omega) r1 p1 (by rw [e7]; exact r4) (fun p x y => ⟨p4 p x y, v8 p x y⟩) v5 (fun i hi => p3 i (by omega) (by omega)) (fun i k hi => by rw [p2, if_neg (by omega)])) ?_))
      rintro ⟨w, J2, M2⟩ ⟨s1, s2, s3, s4, s5⟩
      dsimp only at s1 s2 s3 s4 s5 ⊢
      rw [e7, p2] at s4
      exact Ev_ret ⟨s1, FrMp_t r2 s2, fun i x y => (s3 _ _ (by omega)).trans (r3 _ _ (by omega)), Or.inr ⟨q, ⟨_, s4⟩, s5⟩⟩
theorem S128 {dp : Nat} {cls more : Int} (hd : 7 ≤ dp) (h : PW tr TS z kd R J b4 b5 b6 b7 len sl) (hL : LsC J (cuS (J 107))) (hc : cls = 0 ∨ cls = 1 ∨ cls = 2) (hm : -1 ≤ more ∧ more ≤ 1) : Ev (fun n => kf_128 n dp 0 z kd J M R cls more) (BfQ b4 b5 b6 b7 len sl z kd J M R (adC (J 2 0) cls 0 more) (adC (J 2 1) cls 1 more) (adC (J 2 2) cls 2 more)) := by
  have hv := PW_v h
  unfold vlP at hv
  refine ev_128_0 ?_
  rcases hc with rfl | rfl | rfl
  case' inl =>
    have a0 : adC (J 2 0) 0 0 more = J 2 0 + more := rfl
    have a1 : adC (J 2 1) 0 1 more = J 2 1 + 0 := rfl
    have a2 : adC (J 2 2) 0 2 more = J 2 2 + 0 := rfl
    refine Ev_t rfl (Ev_f (by omega) (Ev_f (by omega) ?_))
  case' inr.inl =>
    have a0 : adC (J 2 0) 1 0 more = J 2 0 + 0 := rfl
    have a1 : adC (J 2 1) 1 1 more = J 2 1 + more := rfl
    have a2 : adC (J 2 2) 1 2 more = J 2 2 + 0 := rfl
    refine Ev_f (by omega) (Ev_t rfl (Ev_f (by omega) ?_))
  case' inr.inr =>
    have a0 : adC (J 2 0) 2 0 more = J 2 0 + 0 := rfl
    have a1 : adC (J 2 1) 2 1 more = J 2 1 + 0 := rfl
    have a2 : adC (J 2 2) 2 2 more = J 2 2 + more := rfl
    refine Ev_f (by omega) (Ev_f (by omega) (Ev_t rfl ?_))
  all_goals
    rw [← a0, ← a1, ← a2]
    refine Ev_t (by omega) (Ev_t (by omega) (Ev_bind (K92 (M := M) (by omega) h.1.2.2.2.2.1 h.1.2.2.1 h.2.2.2.1 (PW_mk h) (PW_ct h hL)) ?_))
    rintro ⟨⟨v, z1, kd1, J1, M1, R1⟩, ck, cm⟩ q
    refine Ev_adk (Ev_ret ?_)
    rw [Nat.zero_add, Nat.zero_add]
    exact q
/-- bestWith in the world of plans -/
theorem R128 {dp : Nat} {cls more : Int} (hd : 7 ≤ dp) (h : PW tr TS z kd R J b4 b5 b6 b7 len sl) (hL : LsC J (cuS (J 107))) (h53 : J 53 (spt (J 2 0) (J 2 1) (J 2 2)) = J 24 12) (hc : cls = 0 ∨ cls = 1 ∨ cls = 2) (hm : -1 ≤ more ∧ more ≤ 1) : Ev (fun n => kf_128 n dp 0 z kd J M R cls more) (fun q => ∃ (z' : Nat) (kd' : KD) (J' M' : JI) (R' : RF) (c4 c5 c6 c7 len' sl' : Nat), q.1.2 = (z', kd', J', M', R') ∧ PW tr TS z' kd' R' J' c4 c5 c6 c7 len' sl' ∧ FrGx XP b4 b5 b6 b7 z kd J M R c4 c5 c6 c7 z' kd' J' M' R' ∧ LsC J' (cuS (J' 107)) ∧ (J' 53 (spt (J' 2 0) (J' 2 1) (J' 2 2)) = J' 24 12) ∧ (J' 107 = J 107 ∧ (∀ i, J' 2 i = J 2 i) ∧ J' 24 12 = J 24 12) ∧ ((q.1.1 = -1 ∧ ¬ (vlP (adC (J 2 0) cls 0 more) (adC (J 2 1) cls 1 more) (adC (J 2 2) cls 2 more) ∧ PlK J' (adC (J 2 0) cls 0 more) (adC (J 2 1) cls 1 more) (adC (J 2 2) cls 2 more))) ∨ (vlP (adC (J 2 0) cls 0 more) (adC (J 2 1) cls 1 more) (adC (J 2 2) cls 2 more) ∧ q.1.1 = J' 51 (spt (adC (J 2 0) cls 0 more) (adC (J 2 1) cls 1 more) (adC (J 2 2) cls 2 more)) ∧ BsO J' (adC (J 2 0) cls 0 more) (adC (J 2 1) cls 1 more) (adC (J 2 2) cls 2 more))) ∧ PotS len sl len' sl' q.2.1 q.2.2) := by
  refine Ev_mono (S128 (M := M) hd h hL hc hm) ?_
  rintro ⟨⟨v, z1, kd1, J1, M1, R1⟩, ck, cm⟩ ⟨z', kd', J', M', R', c4, c5, c6, c7, len1, sl1, w1, w2', w3, w4, w5, w6⟩
  dsimp only at w1 w4 w6 ⊢
  obtain ⟨rfl, rfl, rfl, rfl, rfl⟩ : z1 = z' ∧ kd1 = kd' ∧ J1 = J' ∧ M1 = M' ∧ R1 = R' := by simpa using w1
  have o7 := h.2.2.2.1.1.2.2.2.1
  have z144 := h.1.2.2.2.2.1
  have fr : ∀ a i, a < 144 → ¬ XB a i → ¬ (47 ≤ a ∧ a ≤ 50) → J1 a i = J a i := fun a i x y w => (w3.2.1 a (by omega)).2.2.1 i y (by omega)
  have e2 : ∀ i, J1 2 i = J 2 i := fun i => fr _ _ (by omega) (by unfold XB XS XL X0; omega) (by omega)
  have e7 : J1 107 = J 107 := funext fun i => fr _ _ (by omega) (by unfold XB XS XL X0; omega) (by omega)
  have e58 : ∀ a i, 55 ≤ a → a ≤ 72 → J1 a i = J a i := fun a i x y => fr _ _ (by omega) (by unfold XB XS XL X0; omega) (by omega)
  have e12 : J1 24 12 = J 24 12 := fr _ _ (by omega) (by unfold XB XS XL X0; omega) (by omega)
  have hF1 : FiK J1 := FiK_c (fr _ _ (by omega) (by unfold XB XS XL X0; omega) (by omega)) (funext fun i => fr _ _ (by omega) (by unfold XB XS XL X0; omega) (by omega)) (funext e2) (fun a i x y => e58 a i x y) h.2.2.2.2.1
  have pk : ∀ a b c, PlK J1 a b c ↔ PlK J a b c := fun a b c => by unfold PlK; rw [e58 58 _ (by omega) (by omega), e58 63 _ (by omega) (by omega), e58 68 _ (by omega) (by omega)]
  refine ⟨z1, kd1, J1, M1, R1, c4, c5, c6, c7, len1, sl1, rfl, PW_x h (FrGx_m XB_P w3) w2' hF1, FrGx_m XB_P w3, fun c hc => ?_, ?_, ⟨e7, e2, e12⟩, ?_, w6⟩
  · rw [e7, e58 _ _ (by omega) (by omega)]
    exact LsO_c (fun i _ _ => ⟨e58 _ _ (by omega) (by omega), e58 _ _ (by omega) (by omega)⟩) (hL c hc)
  · rw [e2, e2, e2, e12, (w5 _ h53).1]; exact h53
  · rcases w4 with ⟨y1, y2⟩ | ⟨y1, y2, y3, y4⟩
    · exact Or.inl ⟨y1, fun q => y2 ⟨q.1, (pk _ _ _).1 q.2⟩⟩
    · exact Or.inr ⟨y1, y3, w2'.2.2.2.2.2 _ _ _ y1 y4⟩
end VM
