section
set_option maxRecDepth 100000 in
theorem ev_277_1 {dp : Nat} {e : EN} {I : JI} {L : JI} {i1 : Int} {i2 : Int} {i3 : Int} {i4 : Int} {i5 : Int} {P_ : (Int × JI × JI) → Prop} (h : Ev (fun n => (if 1 ≤ dp then ((kf_198 n (dp - 1) e 0 I L).bind (fun ⟨x0_102, I0_102, L0_102⟩ => (if x0_102 ≤ i5 then (if i1 = 0 then (if i1 = 1 then (if i1 = 2 then (if 1 ≤ dp then (if (-2147483648 ≤ (I0_102 107 0) - 1 ∧ (I0_102 107 0) - 1 ≤ 2147483647) ∧ (-2147483648 ≤ (I0_102 107 1) - 1 ∧ (I0_102 107 1) - 1 ≤ 2147483647) ∧ (-2147483648 ≤ (I0_102 107 2) - 1 ∧ (I0_102 107 2) - 1 ≤ 2147483647) then ((kf_262 n (dp - 1) e 0 I0_102 L0_102 ((I0_102 107 0) - 1) ((I0_102 107 1) - 1) ((I0_102 107 2) - 1) 0 0 0).bind (fun ⟨x1_188, I1_188, L1_188⟩ => (if x1_188 = 0 then (some (((-1) : Int), I1_188, L1_188)) else (stI (w2 I1_188 105 48 16) (fun I_199 => (if 1 ≤ dp then ((kf_263 n (dp - 1) e 0 I_199 L1_188 0 0 0).bind (fun ⟨x2_203, I2_203, L2_203⟩ => (if (-2147483648 ≤ x2_203 + 15 ∧ x2_203 + 15 ≤ 2147483647) ∧ (-2147483647 ≤ (x2_203 + 15)) then (stI (Int.tdiv (x2_203 + 15) 16) (fun v_216 => (if i2 = 0 then (if (-2147483648 ≤ 16 * v_216 ∧ 16 * v_216 ≤ 2147483647) ∧ (-2147483648 ≤ (16 * v_216) - x2_203 ∧ (16 * v_216) - x2_203 ≤ 2147483647) then (some ((((16 * v_216) - x2_203) : Int), I2_203, L2_203)) else none) else (some ((v_216 : Int), I2_203, L2_203))))) else none))) else none)))))) else none) else none) else (if 1 ≤ dp then (if (-2147483648 ≤ (I0_102 107 0) - 1 ∧ (I0_102 107 0) - 1 ≤ 2147483647) ∧ (-2147483648 ≤ (I0_102 107 1) - 1 ∧ (I0_102 107 1) - 1 ≤ 2147483647) ∧ (-2147483648 ≤ (I0_102 107 2) - 0 ∧ (I0_102 107 2) - 0 ≤ 2147483647) then ((kf_262 n (dp - 1) e 0 I0_102 L0_102 ((I0_102 107 0) - 1) ((I0_102 107 1) - 1) ((I0_102 107 2) - 0) 0 0 0).bind (fun ⟨x1_188, I1_188, L1_188⟩ => (if x1_188 = 0 then (some (((-1) : Int), I1_188, L1_188)) else (stI (w2 I1_188 105 48 16) (fun I_199 => (if 1 ≤ dp then ((kf_263 n (dp - 1) e 0 I_199 L1_188 0 0 0).bind (fun ⟨x2_203, I2_203, L2_203⟩ => (if (-2147483648 ≤ x2_203 + 15 ∧ x2_203 + 15 ≤ 2147483647) ∧ (-2147483647 ≤ (x2_203 + 15)) then (stI (Int.tdiv (x2_203 + 15) 16) (fun v_216 => (if i2 = 0 then (if (-2147483648 ≤ 16 * v_216 ∧ 16 * v_216 ≤ 2147483647) ∧ (-2147483648 ≤ (16 * v_216) - x2_203 ∧ (16 * v_216) - x2_203 ≤ 2147483647) then (some ((((16 * v_216) - x2_203) : Int), I2_203, L2_203)) else none) else (some ((v_216 : Int), I2_203, L2_203))))) else none))) else none)))))) else none) else none)) else (if i1 = 2 then (if 1 ≤ dp then (if (-2147483648 ≤ (I0_102 107 0) - 1 ∧ (I0_102 107 0) - 1 ≤ 2147483647) ∧ (-2147483648 ≤ (I0_102 107 1) - 0 ∧ (I0_102 107 1) - 0 ≤ 2147483647) ∧ (-2147483648 ≤ (I0_102 107 2) - 1 ∧ (I0_102 107 2) - 1 ≤ 2147483647) then ((kf_262 n (dp - 1) e 0 I0_102 L0_102 ((I0_102 107 0) - 1) ((I0_102 107 1) - 0) ((I0_102 107 2) - 1) 0 0 0).bind (fun ⟨x1_188, I1_188, L1_188⟩ => (if x1_188 = 0 then (some (((-1) : Int), I1_188, L1_188)) else (stI (w2 I1_188 105 48 16) (fun I_199 => (if 1 ≤ dp then ((kf_263 n (dp - 1) e 0 I_199 L1_188 0 0 0).bind (fun ⟨x2_203, I2_203, L2_203⟩ => (if (-2147483648 ≤ x2_203 + 15 ∧ x2_203 + 15 ≤ 2147483647) ∧ (-2147483647 ≤ (x2_203 + 15)) then (stI (Int.tdiv (x2_203 + 15) 16) (fun v_216 => (if i2 = 0 then (if (-2147483648 ≤ 16 * v_216 ∧ 16 * v_216 ≤ 2147483647) ∧ (-2147483648 ≤ (16 * v_216) - x2_203 ∧ (16 * v_216) - x2_203 ≤ 2147483647) then (some ((((16 * v_216) - x2_203) : Int), I2_203, L2_203)) else none) else (some ((v_216 : Int), I2_203, L2_203))))) else none))) else none)))))) else none) else none) else (if 1 ≤ dp then (if (-2147483648 ≤ (I0_102 107 0) - 1 ∧ (I0_102 107 0) - 1 ≤ 2147483647) ∧ (-2147483648 ≤ (I0_102 107 1) - 0 ∧ (I0_102 107 1) - 0 ≤ 2147483647) ∧ (-2147483648 ≤ (I0_102 107 2) - 0 ∧ (I0_102 107 2) - 0 ≤ 2147483647) then ((kf_262 n (dp - 1) e 0 I0_102 L0_102 ((I0_102 107 0) - 1) ((I0_102 107 1) - 0) ((I0_102 107 2) - 0) 0 0 0).bind (fun ⟨x1_188, I1_188, L1_188⟩ => (if x1_188 = 0 then (some (((-1) : Int), I1_188, L1_188)) else (stI (w2 I1_188 105 48 16) (fun I_199 => (if 1 ≤ dp then ((kf_263 n (dp - 1) e 0 I_199 L1_188 0 0 0).bind (fun ⟨x2_203, I2_203, L2_203⟩ => (if (-2147483648 ≤ x2_203 + 15 ∧ x2_203 + 15 ≤ 2147483647) ∧ (-2147483647 ≤ (x2_203 + 15)) then (stI (Int.tdiv (x2_203 + 15) 16) (fun v_216 => (if i2 = 0 then (if (-2147483648 ≤ 16 * v_216 ∧ 16 * v_216 ≤ 2147483647) ∧ (-2147483648 ≤ (16 * v_216) - x2_203 ∧ (16 * v_216) - x2_203 ≤ 2147483647) then (some ((((16 * v_216) - x2_203) : Int), I2_203, L2_203)) else none) else (some ((v_216 : Int), I2_203, L2_203))))) else none))) else none)))))) else none) else none))) else (if i1 = 1 then (if i1 = 2 then (if 1 ≤ dp then (if (-2147483648 ≤ (I0_102 107 0) - 0 ∧ (I0_102 107 0) - 0 ≤ 2147483647) ∧ (-2147483648 ≤ (I0_102 107 1) - 1 ∧ (I0_102 107 1) - 1 ≤ 2147483647) ∧ (-2147483648 ≤ (I0_102 107 2) - 1 ∧ (I0_102 107 2) - 1 ≤ 2147483647) then ((kf_262 n (dp - 1) e 0 I0_102 L0_102 ((I0_102 107 0) - 0) ((I0_102 107 1) - 1) ((I0_102 107 2) - 1) 0 0 0).bind (fun ⟨x1_188, I1_188, L1_188⟩ => (if x1_188 = 0 then (some (((-1) : Int), I1_188, L1_188)) else (stI (w2 I1_188 105 48 16) (fun I_199 => (if 1 ≤ dp then ((kf_263 n (dp - 1) e 0 I_199 L1_188 0 0 0).bind (fun ⟨x2_203, I2_203, L2_203⟩ => (if (-2147483648 ≤ x2_203 + 15 ∧ x2_203 + 15 ≤ 2147483647) ∧ (-2147483647 ≤ (x2_203 + 15)) then (stI (Int.tdiv (x2_203 + 15) 16) (fun v_216 => (if i2 = 0 then (if (-2147483648 ≤ 16 * v_216 ∧ 16 * v_216 ≤ 2147483647) ∧ (-2147483648 ≤ (16 * v_216) - x2_203 ∧ (16 * v_216) - x2_203 ≤ 2147483647) then (some ((((16 * v_216) - x2_203) : Int), I2_203, L2_203)) else none) else (some ((v_216 : Int), I2_203, L2_203))))) else none))) else none)))))) else none) else none) else (if 1 ≤ dp then (if (-2147483648 ≤ (I0_102 107 0) - 0 ∧ (I0_102 107 0) - 0 ≤ 2147483647) ∧ (-2147483648 ≤ (I0_102 107 1) - 1 ∧ (I0_102 107 1) - 1 ≤ 2147483647) ∧ (-2147483648 ≤ (I0_102 107 2) - 0 ∧ (I0_102 107 2) - 0 ≤ 2147483647) then ((kf_262 n (dp - 1) e 0 I0_102 L0_102 ((I0_102 107 0) - 0) ((I0_102 107 1) - 1) ((I0_102 107 2) - 0) 0 0 0).bind (fun ⟨x1_188, I1_188, L1_188⟩ => (if x1_188 = 0 then (some (((-1) : Int), I1_188, L1_188)) else (stI (w2 I1_188 105 48 16) (fun I_199 => (if 1 ≤ dp then ((kf_263 n (dp - 1) e 0 I_199 L1_188 0 0 0).bind (fun ⟨x2_203, I2_203, L2_203⟩ => (if (-2147483648 ≤ x2_203 + 15 ∧ x2_203 + 15 ≤ 2147483647) ∧ (-2147483647 ≤ (x2_203 + 15)) then (stI (Int.tdiv (x2_203 + 15) 16) (fun v_216 => (if i2 = 0 then (if (-2147483648 ≤ 16 * v_216 ∧ 16 * v_216 ≤ 2147483647) ∧ (-2147483648 ≤ (16 * v_216) - x2_203 ∧ (16 * v_216) - x2_203 ≤ 2147483647) then (some ((((16 * v_216) - x2_203) : Int), I2_203, L2_203)) else none) else (some ((v_216 : Int), I2_203, L2_203))))) else none))) else none)))))) else none) else none)) else (if i1 = 2 then (if 1 ≤ dp then (if (-2147483648 ≤ (I0_102 107 0) - 0 ∧ (I0_102 107 0) - 0 ≤ 2147483647) ∧ (-2147483648 ≤ (I0_102 107 1) - 0 ∧ (I0_102 107 1) - 0 ≤ 2147483647) ∧ (-2147483648 ≤ (I0_102 107 2) - 1 ∧ (I0_102 107 2) - 1 ≤ 2147483647) then ((kf_262 n (dp - 1) e 0 I0_102 L0_102 ((I0_102 107 0) - 0) ((I0_102 107 1) - 0) ((I0_102 107 2) - 1) 0 0 0).bind (fun ⟨x1_188, I1_188, L1_188⟩ => (if x1_188 = 0 then (some (((-1) : Int), I1_188, L1_188)) else (stI (w2 I1_188 105 48 16) (fun I_199 => (if 1 ≤ dp then ((kf_263 n (dp - 1) e 0 I_199 L1_188 0 0 0).bind (fun ⟨x2_203, I2_203, L2_203⟩ => (if (-2147483648 ≤ x2_203 + 15 ∧ x2_203 + 15 ≤ 2147483647) ∧ (-2147483647 ≤ (x2_203 + 15)) then (stI (Int.tdiv (x2_203 + 15) 16) (fun v_216 => (if i2 = 0 then (if (-2147483648 ≤ 16 * v_216 ∧ 16 * v_216 ≤ 2147483647) ∧ (-2147483648 ≤ (16 * v_216) - x2_203 ∧ (16 * v_216) - x2_203 ≤ 2147483647) then (some ((((16 * v_216) - x2_203) : Int), I2_203, L2_203)) else none) else (some ((v_216 : Int), I2_203, L2_203))))) else none))) else none)))))) else none) else none) else (if 1 ≤ dp then (if (-2147483648 ≤ (I0_102 107 0) - 0 ∧ (I0_102 107 0) - 0 ≤ 2147483647) ∧ (-2147483648 ≤ (I0_102 107 1) - 0 ∧ (I0_102 107 1) - 0 ≤ 2147483647) ∧ (-2147483648 ≤ (I0_102 107 2) - 0 ∧ (I0_102 107 2) - 0 ≤ 2147483647) then ((kf_262 n (dp - 1) e 0 I0_102 L0_102 ((I0_102 107 0) - 0) ((I0_102 107 1) - 0) ((I0_102 107 2) - 0) 0 0 0).bind (fun ⟨x1_188, I1_188, L1_188⟩ => (if x1_188 = 0 then (some (((-1) : Int), I1_188, L1_188)) else (stI (w2 I1_188 105 48 16) (fun I_199 => (if 1 ≤ dp then ((kf_263 n (dp - 1) e 0 I_199 L1_188 0 0 0).bind (fun ⟨x2_203, I2_203, L2_203⟩ => (if (-2147483648 ≤ x2_203 + 15 ∧ x2_203 + 15 ≤ 2147483647) ∧ (-2147483647 ≤ (x2_203 + 15)) then (stI (Int.tdiv (x2_203 + 15) 16) (fun v_216 => (if i2 = 0 then (if (-2147483648 ≤ 16 * v_216 ∧ 16 * v_216 ≤ 2147483647) ∧ (-2147483648 ≤ (16 * v_216) - x2_203 ∧ (16 * v_216) - x2_203 ≤ 2147483647) then (some ((((16 * v_216) - x2_203) : Int), I2_203, L2_203)) else none) else (some ((v_216 : Int), I2_203, L2_203))))) else none))) else none)))))) else none) else none)))) else (if i5 = i3 then (kf_277 n dp e 2 I0_102 L0_102 i1 i2 i3 i4 i5) else (if 0 ≤ i5 ∧ i5 < 8 then (if 0 ≤ i4 ∧ i4 < 8 then (stI (w2 I0_102 132 i4 (I0_102 134 i5)) (fun I_127 => (if -2147483648 ≤ i4 + 1 ∧ i4 + 1 ≤ 2147483647 then (kf_277 n dp e 2 I_127 L0_102 i1 i2 i3 (i4 + 1) i5) else none))) else none) else none))))) else none)) P_) : Ev (fun n => kf_277 n dp e 1 I L i1 i2 i3 i4 i5) P_ := Ev_step (fun n => ke_277_1 n dp e I L i1 i2 i3 i4 i5) h
set_option maxRecDepth 100000 in
theorem ev_277_2 {dp : Nat} {e : EN} {I : JI} {L : JI} {i1 : Int} {i2 : Int} {i3 : Int} {i4 : Int} {i5 : Int} {P_ : (Int × JI × JI) → Prop} (h : Ev (fun n => (if -2147483648 ≤ i5 + 1 ∧ i5 + 1 ≤ 2147483647 then (kf_277 n dp e 1 I L i1 i2 i3 i4 (i5 + 1)) else none)) P_) : Ev (fun n => kf_277 n dp e 2 I L i1 i2 i3 i4 i5) P_ := Ev_step (fun n => ke_277_2 n dp e I L i1 i2 i3 i4 i5) h
end
/-! PLANS: change() -/
section CI
variable {tr : Nat} {TS : Nat → Prop} {z : Nat} {kd : KD} {R : RF} {J M : JI} {b4 b5 b6 b7 len sl : Nat}
/-- only what nothing of the world looks at -/
theorem PW_n {J1 : JI} (h : PW tr TS z kd R J b4 b5 b6 b7 len sl) (hn : ∀ a i, ¬ (a = 132 ∨ (a = 105 ∧ 40 ≤ i ∧ i ≤ 50)) → J1 a i = J a i) : PW tr TS z kd R J1 b4 b5 b6 b7 len sl ∧ FrMp J J1 M M := by
  have hf : FrMp J J1 M M := ⟨fun a i x y => hn a i (by omega), fun _ _ _ _ _ => rfl⟩
  have e7 : J1 107 = J 107 := funext fun i => hn _ _ (by omega)
  have c2 := CutI_x h.1.2.1 e7 (hn _ _ (by omega)) (hn _ _ (by omega)) (fun T hT a i x y => by
    rcases h.1.2.1.2 T hT with rfl | rfl | u <;> exact hn _ _ (by omega)) (fun a i x => hn _ _ (by omega)) (fun a i x y => hn _ _ (by omega)) h.2.1.2
  exact ⟨PW_m h hf c2 (by rw [hn _ _ (by omega)]; exact h.2.1.1.2.2.2.2) (PlM_c e7 (fun i x => hn _ _ (by omega)) (fun i => hn _ _ (by omega)) (fun i => hn _ _ (by omega)) h.2.2.2.2.2.1) (by rw [hn _ _ (by omega)]; exact h.2.2.2.2.2.2), hf⟩
def phX (g i : Int) : Int := if i < g then i else i + 1
set_option maxHeartbeats 2000000 in
theorem M277 {dp c N g : Nat} {x : Int} (hd : 9 ≤ dp) (h : PW tr TS z kd R J b4 b5 b6 b7 len sl) (hc : c < 3) (hx : x = 0 ∨ x = 1) (hc0 : 0 < J 107 c) (hN : J 107 0 + J 107 1 + J 107 2 = N) (hg : g < N) (hPl : PlN (cuS (J 107)) (J 107 0) (J 107 1) (J 107 2)) : Ev (fun n => kf_277 n dp (z, kd, R) 1 J M c x g 0 0) (fun r => PW tr TS z kd R r.2.1 b4 b5 b6 b7 len sl ∧ FrMp J r.2.1 M r.2.2 ∧ ∃ w n, (-1000000000 ≤ w ∧ w ≤ 1000000000) ∧ r.1 = (if x = 0 then 16 * Int.tdiv (w + 15) 16 - w else Int.tdiv (w + 15) 16) ∧ MxH (Sq (ofLs (cuS (J 107)) (fun p => J 107 (50 + p)) 16 (fun i k => if (k : Int) = J 134 (phX g i) then 0 else 1) (fun i => clA (J 107 0 - oneL c 0) (J 107 1 - oneL c 1) i) 0 (N - 1))) (vT (fun p => J 107 (60 + p)) (bnR (J 107)) 16 (fun _ => 0)) (fun _ => True) w n) := by
  have m3 := h.2.2.1.2.2
  have b0 := m3.1 0 (by omega) (by omega)
  have b1 := m3.1 1 (by omega) (by omega)
  have b2 := m3.1 2 (by omega) (by omega)
  have b8 := m3.2.1
  obtain ⟨v8, v5⟩ := rw_5 m3
  have key : ∀ i : Nat, i ≤ N → ∀ J1 : JI, (∀ a x, ¬ a = 132 → J1 a x = J a x) → (∀ j : Nat, (j : Int) < (if i ≤ g then (i : Int) else i - 1) → J1 132 j = J 134 (phX g j)) → Ev (fun n => kf_277 n dp (z, kd, R) 1 J1 M c x g (if i ≤ g then (i : Int) else i - 1) i) (fun r => PW tr TS z kd R r.2.1 b4 b5 b6 b7 len sl ∧ FrMp J r.2.1 M r.2.2 ∧ ∃ w n, (-1000000000 ≤ w ∧ w ≤ 1000000000) ∧ r.1 = (if x = 0 then 16 * Int.tdiv (w + 15) 16 - w else Int.tdiv (w + 15) 16) ∧ MxH (Sq (ofLs (cuS (J 107)) (fun p => J 107 (50 + p)) 16 (fun i k => if (k : Int) = J 134 (phX g i) then 0 else 1) (fun i => clA (J 107 0 - oneL c 0) (J 107 1 - oneL c 1) i) 0 (N - 1))) (vT (fun p => J 107 (60 + p)) (bnR (J 107)) 16 (fun _ => 0)) (fun _ => True) w n) := by
    refine dec_ind N (fun i hi ih => ?_)
    intro J1 j1 j2
    have e7 : J1 107 = J 107 := funext fun i => j1 _ _ (by omega)
    refine ev_277_1 ?_
    refine Ev_t (by omega) (Ev_bind (K198 (by rw [e7]; omega)) ?_)
    rintro _ rfl
    dsimp only
    rw [e7, hN]
    by_cases ci : i < N
    · have ih := ih ci
      refine Ev_f (by omega) ?_
      have two : ∀ (J2 : JI) (i4 : Int), i4 = (if i + 1 ≤ g then ((i + 1 : Nat) : Int) else ((i + 1 : Nat) : Int) - 1) → (∀ a x, ¬ a = 132 → J2 a x = J a x) → (∀ j : Nat, (j : Int) < i4 → J2 132 j = J 134 (phX g j)) → Ev (fun n => kf_277 n dp (z, kd, R) 2 J2 M c x g i4 i) (fun r => PW tr TS z kd R r.2.1 b4 b5 b6 b7 len sl ∧ FrMp J r.2.1 M r.2.2 ∧ ∃ w n, (-1000000000 ≤ w ∧ w ≤ 1000000000) ∧ r.1 = (if x = 0 then 16 * Int.tdiv (w + 15) 16 - w else Int.tdiv (w + 15) 16) ∧ MxH (Sq (ofLs (cuS (J 107)) (fun p => J 107 (50 + p)) 16 (fun i k => if (k : Int) = J 134 (phX g i) then 0 else 1) (fun i => clA (J 107 0 - oneL c 0) (J 107 1 - oneL c 1) i) 0 (N - 1))) (vT (fun p => J 107 (60 + p)) (bnR (J 107)) 16 (fun _ => 0)) (fun _ => True) w n) := fun J2 i4 h4 k1 k2 => by
        subst h4
        refine ev_277_2 ?_
        refine Ev_t (by omega) ?_
        have := ih J2 k1 k2
        rw [show ((i + 1 : Nat) : Int) = (i : Int) + 1 by omega] at this ⊢
        exact this
      by_cases cg : i = g
      · refine Ev_t (by omega) (two J1 _ ?_ j1 j2)
        rw [if_pos (by omega), if_neg (by omega)]
        omega
      · refine Ev_f (by omega) (Ev_t (by omega) (Ev_t (by split <;> omega) (Ev_st (Ev_t (by split <;> omega) ?_))))
        rw [j1 134 _ (by omega)]
        refine two _ _ ?_ (fun a y w => by rw [w2_o w]; exact j1 a y w) (fun j hj => ?_)
        · split <;> split <;> omega
        · by_cases q : (j : Int) = (if i ≤ g then (i : Int) else i - 1)
          · rw [q, w2_ap, if_pos ⟨rfl, rfl⟩]
            congr 1
            unfold phX
            split <;> split <;> omega
          · rw [w2_n (by omega)]
            exact j2 j (by omega)
    · have : i = N := by omega
      subst this
      rw [if_neg (by omega)] at j2 ⊢
      have hv : vlP (J 107 0 - oneL c 0) (J 107 1 - oneL c 1) (J 107 2 - oneL c 2) := by
        unfold vlP oneL
        rcases (show c = 0 ∨ c = 1 ∨ c = 2 by omega) with rfl | rfl | rfl
        · have : 0 < J 107 0 := hc0
          simp only [if_true, if_false, Nat.reduceEqDiff]; omega
        · have : 0 < J 107 1 := hc0
          simp only [if_true, if_false, Nat.reduceEqDiff]; omega
        · have : 0 < J 107 2 := hc0
          simp only [if_true, if_false, Nat.reduceEqDiff]; omega
      have hPl' : PlN (cuS (J 107)) (J 107 0 - oneL c 0) (J 107 1 - oneL c 1) (J 107 2 - oneL c 2) := by
        have o0 : 0 ≤ oneL c 0 := by unfold oneL; split <;> omega
        have o1 : 0 ≤ oneL c 1 := by unfold oneL; split <;> omega
        have o2 : 0 ≤ oneL c 2 := by unfold oneL; split <;> omega
        exact ⟨fun q => hPl.1 (by omega), fun q => hPl.2.1 (by omega), fun q => hPl.2.2 (by omega)⟩
      have hn1 : J 107 0 - oneL c 0 + (J 107 1 - oneL c 1) + (J 107 2 - oneL c 2) = (i : Int) - 1 := by
        unfold oneL
        rcases (show c = 0 ∨ c = 1 ∨ c = 2 by omega) with rfl | rfl | rfl <;> simp only [if_true, if_false, Nat.reduceEqDiff] <;> omega
      obtain ⟨W1, F1⟩ := PW_n (M := M) h (fun a y w => j1 a y (by omega))
      refine Ev_t (by omega) ?_
      rcases (show c = 0 ∨ c = 1 ∨ c = 2 by omega) with rfl | rfl | rfl
      case' inl =>
        have a0 : J 107 0 - oneL 0 0 = J 107 0 - 1 := rfl
        have a1 : J 107 1 - oneL 0 1 = J 107 1 - 0 := rfl
        have a2 : J 107 2 - oneL 0 2 = J 107 2 - 0 := rfl
        refine Ev_t rfl (Ev_f (by omega) (Ev_f (by omega) ?_))
      case' inr.inl =>
        have a0 : J 107 0 - oneL 1 0 = J 107 0 - 0 := rfl
        have a1 : J 107 1 - oneL 1 1 = J 107 1 - 1 := rfl
        have a2 : J 107 2 - oneL 1 2 = J 107 2 - 0 := rfl
        refine Ev_f (by omega) (Ev_t rfl (Ev_f (by omega) ?_))
      case' inr.inr =>
        have a0 : J 107 0 - oneL 2 0 = J 107 0 - 0 := rfl
        have a1 : J 107 1 - oneL 2 1 = J 107 1 - 0 := rfl
        have a2 : J 107 2 - oneL 2 2 = J 107 2 - 1 := rfl
        refine Ev_f (by omega) (Ev_f (by omega) (Ev_t rfl ?_))
      all_goals
        rw [← a0, ← a1, ← a2]
        generalize J 107 0 - oneL _ 0 = a at *
        generalize J 107 1 - oneL _ 1 = b at *
        generalize J 107 2 - oneL _ 2 = c' at *
        refine Ev_t (by omega) (Ev_t (by omega) (Ev_bind (M262 (M := M) (by omega) W1 hv) ?_))
        rintro ⟨v, J2, M2⟩ ⟨r1, r2, r3, r4, r5⟩
        dsimp only at r1 r2 r3 r4 r5 ⊢
        rw [e7] at r4 r5
        rcases r5 with ⟨rfl, q⟩ | ⟨rfl, q, p1, p2, p3, p4⟩
        · exact absurd hPl' q
        refine Ev_f (by omega) (Ev_st (Ev_t (by omega) ?_))
        have nn : ∀ a y, ¬ (a = 105 ∧ y = 48) → w2 J2 105 48 16 a y = J2 a y := fun a y w => w2_n w
        have v48 : w2 J2 105 48 16 105 48 = 16 := by rw [w2_ap, if_pos ⟨rfl, rfl⟩]
        generalize w2 J2 105 48 16 = J3 at nn v48 ⊢
        obtain ⟨W3, F3⟩ := PW_n (M := M2) r1 (fun a y w => nn a y (by omega))
        have e73 : J3 107 = J 107 := ((funext fun y => nn _ _ (by omega)).trans (funext fun y => r2.1 _ _ (by omega) (by omega))).trans e7
        have p1' : PlH J3 (a + b + c').toNat := by
          obtain ⟨a1', a2', a3', a4', a5'⟩ := p1
          refine ⟨a1', by rw [nn _ _ (by omega)]; exact a2', fun k hk => ?_, Or.inr v48, fun y w1 w2 => by rw [nn _ _ (by omega)]; exact a5' y w1 w2⟩
          rw [nn 126 _ (by omega), nn 120 _ (by omega)]
          refine ⟨(a3' k hk).1, (a3' k hk).2.1, fun k' hk' p w1 w2 => ?_⟩
          rw [nn 122 _ (by omega)]
          exact (a3' k hk).2.2 k' hk' p w1 w2
        have l3 : ∀ c, 0 ≤ c → c < 3 → LsM c J3 (cuS (J3 107) c) := fun c w1 w2 => by
          have l := r4 c w1 w2
          unfold LsM at *
          rw [e73, nn _ _ (by omega)]
          exact LsO_c (fun y _ _ => ⟨nn _ _ (by omega), nn _ _ (by omega)⟩) l
        rw [show (a + b + c').toNat = i - 1 by omega] at p1'
        refine Ev_bind (M263 (M := M2) (cl := fun k => clA a b k) (dl := fun k k' => if (k' : Int) = J 134 (phX g k) then 0 else 1) (wn := fun p => J 107 (60 + p)) (by omega) W3 p1' l3 (fun p w1 w2 => ⟨by rw [nn _ _ (by omega)]; exact p4 p w1 w2, v8 p w1 w2⟩) v5 (fun k hk => by rw [nn _ _ (by omega)]; exact p3 k (by omega) (by omega)) (fun k k' hk => ?_)) ?_
        · rw [v48, nn 132 _ (by omega), r3 132 _ (by omega), j2 k (by omega)]
          by_cases q : (k' : Int) = J 134 (phX g k)
          · rw [if_pos q, if_neg (fun w => w.2 q)]
          · rw [if_neg q, if_pos ⟨by omega, q⟩]
        · rintro ⟨w, J4, M4⟩ ⟨s1, s2, s3, s4, s5⟩
          dsimp only at s1 s2 s3 s4 s5 ⊢
          rw [e73, v48] at s4
          have hf : FrMp J J4 M M4 := FrMp_t F1 (FrMp_t r2 (FrMp_t F3 s2))
          refine Ev_t (by omega) (Ev_st ?_)
          have td : -70000000 ≤ Int.tdiv (w + 15) 16 ∧ Int.tdiv (w + 15) 16 ≤ 70000000 := by
            by_cases q : 0 ≤ w + 15
            · rw [Int.tdiv_eq_ediv_of_nonneg q]; omega
            · have : Int.tdiv (w + 15) 16 = -(Int.tdiv (-(w + 15)) 16) := by rw [Int.neg_tdiv, Int.neg_neg]
              rw [this, Int.tdiv_eq_ediv_of_nonneg (by omega)]; omega
          by_cases cx : x = 0
          · refine Ev_t cx (Ev_t (by omega) (Ev_ret ⟨s1, hf, w, _, s5, by rw [if_pos cx], s4⟩))
          · exact Ev_f cx (Ev_ret ⟨s1, hf, w, _, s5, by rw [if_neg cx], s4⟩)
  have := key 0 (by omega) J (fun _ _ _ => rfl) (fun j hj => by rw [if_pos (by omega)] at hj; omega)
  rw [if_pos (by omega)] at this
  exact this
end CI
