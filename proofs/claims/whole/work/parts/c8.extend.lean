section
set_option maxRecDepth 100000 in
theorem ev_110_1 {dp : Nat} {e : EN} {I : JI} {L : JI} {i1 : Int} {i2 : Int} {i3 : Int} {i4 : Int} {i7 : Int} {i8 : Int} {i9 : Int} {i10 : Int} {i11 : Int} {i12 : Int} {i13 : Int} {i14 : Int} {i15 : Int} {P_ : (Int × JI × JI) → Prop} (h : Ev (fun n => (if i10 ≤ i11 then (some ((i9 : Int), I, L)) else (if 0 ≤ i11 ∧ i11 < 192 then (if 1 ≤ dp then ((kf_111 n (dp - 1) e 0 I L i7 (I 27 i11)).bind (fun ⟨x0_74, I0_74, L0_74⟩ => (if 0 ≤ i11 ∧ i11 < 192 then (if i11 = i3 then (if (-2147483648 ≤ i8 + (I0_74 28 i11) ∧ i8 + (I0_74 28 i11) ≤ 2147483647) ∧ (-2147483648 ≤ (i8 + (I0_74 28 i11)) + 1 ∧ (i8 + (I0_74 28 i11)) + 1 ≤ 2147483647) then (stI ((i8 + (I0_74 28 i11)) + 1) (fun v_99 => (if 1 ≤ dp then ((kf_112 n (dp - 1) e 0 I0_74 L0_74 x0_74).bind (fun ⟨x1_107, I1_107, L1_107⟩ => ((e.2.2 44 7).bind (fun b_113 => (if ((b_113 < e.1) ∧ (((e.2.1 b_113).1 = 13) ∧ ((e.2.1 b_113).2 < (2 ^ 31)))) ∧ (0 ≤ x1_107 ∧ x1_107 < (((e.2.1 b_113).2 : Nat) : Int)) then (if -2147483648 ≤ (I1_107 b_113 x1_107) - 1 ∧ (I1_107 b_113 x1_107) - 1 ≤ 2147483647 then (stI ((I1_107 b_113 x1_107) - 1) (fun v_121 => (if 0 ≤ v_121 then ((e.2.2 44 5).bind (fun b_195 => (if ((b_195 < e.1) ∧ (((e.2.1 b_195).1 = 13) ∧ ((e.2.1 b_195).2 < (2 ^ 31)))) ∧ (0 ≤ v_121 ∧ v_121 < (((e.2.1 b_195).2 : Nat) : Int)) then (if v_99 ≤ (I1_107 b_195 v_121) then ((e.2.2 44 5).bind (fun b_246 => (if ((b_246 < e.1) ∧ (((e.2.1 b_246).1 = 13) ∧ ((e.2.1 b_246).2 < (2 ^ 31)))) ∧ (0 ≤ v_121 ∧ v_121 < (((e.2.1 b_246).2 : Nat) : Int)) then (if v_99 = (I1_107 b_246 v_121) then ((e.2.2 44 6).bind (fun b_256 => ((e.2.2 44 6).bind (fun b_262 => (if ((b_262 < e.1) ∧ (((e.2.1 b_262).1 = 13) ∧ ((e.2.1 b_262).2 < (2 ^ 31)))) ∧ (0 ≤ v_121 ∧ v_121 < (((e.2.1 b_262).2 : Nat) : Int)) then ((e.2.2 44 6).bind (fun b_269 => (if ((b_269 < e.1) ∧ (((e.2.1 b_269).1 = 13) ∧ ((e.2.1 b_269).2 < (2 ^ 31)))) ∧ (0 ≤ i1 ∧ i1 < (((e.2.1 b_269).2 : Nat) : Int)) then (if 0 ≤ i11 ∧ i11 < 192 then (if 1 ≤ dp then ((kf_113 n (dp - 1) e 0 I1_107 L1_107 (I1_107 b_262 v_121) (I1_107 b_269 i1) (I1_107 29 i11)).bind (fun ⟨x2_284, I2_284, L2_284⟩ => (if ((b_256 < e.1) ∧ (((e.2.1 b_256).1 = 13) ∧ ((e.2.1 b_256).2 < (2 ^ 31)))) ∧ (0 ≤ v_121 ∧ v_121 < (((e.2.1 b_256).2 : Nat) : Int)) then (stI (w2 I2_284 b_256 v_121 x2_284) (fun I_287 => (kf_110 n dp e 2 I_287 L2_284 i1 i2 i3 i4 i7 i8 i9 i10 i11 x0_74 v_99 x1_107 v_121))) else none))) else none) else none) else none))) else none))))) else (kf_110 n dp e 2 I1_107 L1_107 i1 i2 i3 i4 i7 i8 i9 i10 i11 x0_74 v_99 x1_107 v_121)) else none))) else ((e.2.2 44 5).bind (fun b_205 => (if ((b_205 < e.1) ∧ (((e.2.1 b_205).1 = 13) ∧ ((e.2.1 b_205).2 < (2 ^ 31)))) ∧ (0 ≤ v_121 ∧ v_121 < (((e.2.1 b_205).2 : Nat) : Int)) then (stI (w2 I1_107 b_205 v_121 v_99) (fun I_212 => ((e.2.2 44 6).bind (fun b_214 => ((e.2.2 44 6).bind (fun b_221 => (if ((b_221 < e.1) ∧ (((e.2.1 b_221).1 = 13) ∧ ((e.2.1 b_221).2 < (2 ^ 31)))) ∧ (0 ≤ i1 ∧ i1 < (((e.2.1 b_221).2 : Nat) : Int)) then (if 0 ≤ i11 ∧ i11 < 192 then (if 1 ≤ dp then ((kf_113 n (dp - 1) e 0 I_212 L1_107 0 (I_212 b_221 i1) (I_212 29 i11)).bind (fun ⟨x2_236, I2_236, L2_236⟩ => (if ((b_214 < e.1) ∧ (((e.2.1 b_214).1 = 13) ∧ ((e.2.1 b_214).2 < (2 ^ 31)))) ∧ (0 ≤ v_121 ∧ v_121 < (((e.2.1 b_214).2 : Nat) : Int)) then (stI (w2 I2_236 b_214 v_121 x2_236) (fun I_239 => (kf_110 n dp e 2 I_239 L2_236 i1 i2 i3 i4 i7 i8 i9 i10 i11 x0_74 v_99 x1_107 v_121))) else none))) else none) else none) else none))))))) else none)))) else none))) else ((e.2.2 44 7).bind (fun b_136 => (if ((b_136 < e.1) ∧ (((e.2.1 b_136).1 = 13) ∧ ((e.2.1 b_136).2 < (2 ^ 31)))) ∧ (0 ≤ x1_107 ∧ x1_107 < (((e.2.1 b_136).2 : Nat) : Int)) then (if -2147483648 ≤ i9 + 1 ∧ i9 + 1 ≤ 2147483647 then (stI (w2 I1_107 b_136 x1_107 (i9 + 1)) (fun I_143 => ((e.2.2 44 4).bind (fun b_145 => (if ((b_145 < e.1) ∧ (((e.2.1 b_145).1 = 13) ∧ ((e.2.1 b_145).2 < (2 ^ 31)))) ∧ (0 ≤ i9 ∧ i9 < (((e.2.1 b_145).2 : Nat) : Int)) then (stI (w2 I_143 b_145 i9 x0_74) (fun I_152 => ((e.2.2 44 5).bind (fun b_154 => (if ((b_154 < e.1) ∧ (((e.2.1 b_154).1 = 13) ∧ ((e.2.1 b_154).2 < (2 ^ 31)))) ∧ (0 ≤ i9 ∧ i9 < (((e.2.1 b_154).2 : Nat) : Int)) then (stI (w2 I_152 b_154 i9 v_99) (fun I_161 => ((e.2.2 44 6).bind (fun b_163 => ((e.2.2 44 6).bind (fun b_170 => (if ((b_170 < e.1) ∧ (((e.2.1 b_170).1 = 13) ∧ ((e.2.1 b_170).2 < (2 ^ 31)))) ∧ (0 ≤ i1 ∧ i1 < (((e.2.1 b_170).2 : Nat) : Int)) then (if 0 ≤ i11 ∧ i11 < 192 then (if 1 ≤ dp then ((kf_113 n (dp - 1) e 0 I_161 L1_107 0 (I_161 b_170 i1) (I_161 29 i11)).bind (fun ⟨x2_185, I2_185, L2_185⟩ => (if ((b_163 < e.1) ∧ (((e.2.1 b_163).1 = 13) ∧ ((e.2.1 b_163).2 < (2 ^ 31)))) ∧ (0 ≤ i9 ∧ i9 < (((e.2.1 b_163).2 : Nat) : Int)) then (stI (w2 I2_185 b_163 i9 x2_185) (fun I_188 => (kf_110 n dp e 2 I_188 L2_185 i1 i2 i3 i4 i7 i8 (i9 + 1) i10 i11 x0_74 v_99 x1_107 i9))) else none))) else none) else none) else none))))))) else none))))) else none))))) else none) else none)))))) else none) else none))))) else none))) else none) else (if (-2147483648 ≤ i8 + (I0_74 28 i11) ∧ i8 + (I0_74 28 i11) ≤ 2147483647) ∧ (-2147483648 ≤ (i8 + (I0_74 28 i11)) + 0 ∧ (i8 + (I0_74 28 i11)) + 0 ≤ 2147483647) then (stI ((i8 + (I0_74 28 i11)) + 0) (fun v_99 => (if 1 ≤ dp then ((kf_112 n (dp - 1) e 0 I0_74 L0_74 x0_74).bind (fun ⟨x1_107, I1_107, L1_107⟩ => ((e.2.2 44 7).bind (fun b_113 => (if ((b_113 < e.1) ∧ (((e.2.1 b_113).1 = 13) ∧ ((e.2.1 b_113).2 < (2 ^ 31)))) ∧ (0 ≤ x1_107 ∧ x1_107 < (((e.2.1 b_113).2 : Nat) : Int)) then (if -2147483648 ≤ (I1_107 b_113 x1_107) - 1 ∧ (I1_107 b_113 x1_107) - 1 ≤ 2147483647 then (stI ((I1_107 b_113 x1_107) - 1) (fun v_121 => (if 0 ≤ v_121 then ((e.2.2 44 5).bind (fun b_195 => (if ((b_195 < e.1) ∧ (((e.2.1 b_195).1 = 13) ∧ ((e.2.1 b_195).2 < (2 ^ 31)))) ∧ (0 ≤ v_121 ∧ v_121 < (((e.2.1 b_195).2 : Nat) : Int)) then (if v_99 ≤ (I1_107 b_195 v_121) then ((e.2.2 44 5).bind (fun b_246 => (if ((b_246 < e.1) ∧ (((e.2.1 b_246).1 = 13) ∧ ((e.2.1 b_246).2 < (2 ^ 31)))) ∧ (0 ≤ v_121 ∧ v_121 < (((e.2.1 b_246).2 : Nat) : Int)) then (if v_99 = (I1_107 b_246 v_121) then ((e.2.2 44 6).bind (fun b_256 => ((e.2.2 44 6).bind (fun b_262 => (if ((b_262 < e.1) ∧ (((e.2.1 b_262).1 = 13) ∧ ((e.2.1 b_262).2 < (2 ^ 31)))) ∧ (0 ≤ v_121 ∧ v_121 < (((e.2.1 b_262).2 : Nat) : Int)) then ((e.2.2 44 6).bind (fun b_269 => (if ((b_269 < e.1) ∧ (((e.2.1 b_269).1 = 13) ∧ ((e.2.1 b_269).2 < (2 ^ 31)))) ∧ (0 ≤ i1 ∧ i1 < (((e.2.1 b_269).2 : Nat) : Int)) then (if 0 ≤ i11 ∧ i11 < 192 then (if 1 ≤ dp then ((kf_113 n (dp - 1) e 0 I1_107 L1_107 (I1_107 b_262 v_121) (I1_107 b_269 i1) (I1_107 29 i11)).bind (fun ⟨x2_284, I2_284, L2_284⟩ => (if ((b_256 < e.1) ∧ (((e.2.1 b_256).1 = 13) ∧ ((e.2.1 b_256).2 < (2 ^ 31)))) ∧ (0 ≤ v_121 ∧ v_121 < (((e.2.1 b_256).2 : Nat) : Int)) then (stI (w2 I2_284 b_256 v_121 x2_284) (fun I_287 => (kf_110 n dp e 2 I_287 L2_284 i1 i2 i3 i4 i7 i8 i9 i10 i11 x0_74 v_99 x1_107 v_121))) else none))) else none) else none) else none))) else none))))) else (kf_110 n dp e 2 I1_107 L1_107 i1 i2 i3 i4 i7 i8 i9 i10 i11 x0_74 v_99 x1_107 v_121)) else none))) else ((e.2.2 44 5).bind (fun b_205 => (if ((b_205 < e.1) ∧ (((e.2.1 b_205).1 = 13) ∧ ((e.2.1 b_205).2 < (2 ^ 31)))) ∧ (0 ≤ v_121 ∧ v_121 < (((e.2.1 b_205).2 : Nat) : Int)) then (stI (w2 I1_107 b_205 v_121 v_99) (fun I_212 => ((e.2.2 44 6).bind (fun b_214 => ((e.2.2 44 6).bind (fun b_221 => (if ((b_221 < e.1) ∧ (((e.2.1 b_221).1 = 13) ∧ ((e.2.1 b_221).2 < (2 ^ 31)))) ∧ (0 ≤ i1 ∧ i1 < (((e.2.1 b_221).2 : Nat) : Int)) then (if 0 ≤ i11 ∧ i11 < 192 then (if 1 ≤ dp then ((kf_113 n (dp - 1) e 0 I_212 L1_107 0 (I_212 b_221 i1) (I_212 29 i11)).bind (fun ⟨x2_236, I2_236, L2_236⟩ => (if ((b_214 < e.1) ∧ (((e.2.1 b_214).1 = 13) ∧ ((e.2.1 b_214).2 < (2 ^ 31)))) ∧ (0 ≤ v_121 ∧ v_121 < (((e.2.1 b_214).2 : Nat) : Int)) then (stI (w2 I2_236 b_214 v_121 x2_236) (fun I_239 => (kf_110 n dp e 2 I_239 L2_236 i1 i2 i3 i4 i7 i8 i9 i10 i11 x0_74 v_99 x1_107 v_121))) else none))) else none) else none) else none))))))) else none)))) else none))) else ((e.2.2 44 7).bind (fun b_136 => (if ((b_136 < e.1) ∧ (((e.2.1 b_136).1 = 13) ∧ ((e.2.1 b_136).2 < (2 ^ 31)))) ∧ (0 ≤ x1_107 ∧ x1_107 < (((e.2.1 b_136).2 : Nat) : Int)) then (if -2147483648 ≤ i9 + 1 ∧ i9 + 1 ≤ 2147483647 then (stI (w2 I1_107 b_136 x1_107 (i9 + 1)) (fun I_143 => ((e.2.2 44 4).bind (fun b_145 => (if ((b_145 < e.1) ∧ (((e.2.1 b_145).1 = 13) ∧ ((e.2.1 b_145).2 < (2 ^ 31)))) ∧ (0 ≤ i9 ∧ i9 < (((e.2.1 b_145).2 : Nat) : Int)) then (stI (w2 I_143 b_145 i9 x0_74) (fun I_152 => ((e.2.2 44 5).bind (fun b_154 => (if ((b_154 < e.1) ∧ (((e.2.1 b_154).1 = 13) ∧ ((e.2.1 b_154).2 < (2 ^ 31)))) ∧ (0 ≤ i9 ∧ i9 < (((e.2.1 b_154).2 : Nat) : Int)) then (stI (w2 I_152 b_154 i9 v_99) (fun I_161 => ((e.2.2 44 6).bind (fun b_163 => ((e.2.2 44 6).bind (fun b_170 => (if ((b_170 < e.1) ∧ (((e.2.1 b_170).1 = 13) ∧ ((e.2.1 b_170).2 < (2 ^ 31)))) ∧ (0 ≤ i1 ∧ i1 < (((e.2.1 b_170).2 : Nat) : Int)) then (if 0 ≤ i11 ∧ i11 < 192 then (if 1 ≤ dp then ((kf_113 n (dp - 1) e 0 I_161 L1_107 0 (I_161 b_170 i1) (I_161 29 i11)).bind (fun ⟨x2_185, I2_185, L2_185⟩ => (if ((b_163 < e.1) ∧ (((e.2.1 b_163).1 = 13) ∧ ((e.2.1 b_163).2 < (2 ^ 31)))) ∧ (0 ≤ i9 ∧ i9 < (((e.2.1 b_163).2 : Nat) : Int)) then (stI (w2 I2_185 b_163 i9 x2_185) (fun I_188 => (kf_110 n dp e 2 I_188 L2_185 i1 i2 i3 i4 i7 i8 (i9 + 1) i10 i11 x0_74 v_99 x1_107 i9))) else none))) else none) else none) else none))))))) else none))))) else none))))) else none) else none)))))) else none) else none))))) else none))) else none)) else none))) else none) else none))) P_) : Ev (fun n => kf_110 n dp e 1 I L i1 i2 i3 i4 i7 i8 i9 i10 i11 i12 i13 i14 i15) P_ := Ev_step (fun n => ke_110_1 n dp e I L i1 i2 i3 i4 i7 i8 i9 i10 i11 i12 i13 i14 i15) h
set_option maxRecDepth 100000 in
theorem ev_110_2 {dp : Nat} {e : EN} {I : JI} {L : JI} {i1 : Int} {i2 : Int} {i3 : Int} {i4 : Int} {i7 : Int} {i8 : Int} {i9 : Int} {i10 : Int} {i11 : Int} {i12 : Int} {i13 : Int} {i14 : Int} {i15 : Int} {P_ : (Int × JI × JI) → Prop} (h : Ev (fun n => (if -2147483648 ≤ i11 + 1 ∧ i11 + 1 ≤ 2147483647 then (kf_110 n dp e 1 I L i1 i2 i3 i4 i7 i8 i9 i10 (i11 + 1) 0 0 0 0) else none)) P_) : Ev (fun n => kf_110 n dp e 2 I L i1 i2 i3 i4 i7 i8 i9 i10 i11 i12 i13 i14 i15) P_ := Ev_step (fun n => ke_110_2 n dp e I L i1 i2 i3 i4 i7 i8 i9 i10 i11 i12 i13 i14 i15) h
set_option maxRecDepth 100000 in
theorem ev_110_0 {dp : Nat} {e : EN} {I : JI} {L : JI} {i1 : Int} {i2 : Int} {i3 : Int} {i4 : Int} {i7 : Int} {i8 : Int} {i9 : Int} {i10 : Int} {i11 : Int} {i12 : Int} {i13 : Int} {i14 : Int} {i15 : Int} {P_ : (Int × JI × JI) → Prop} (h : Ev (fun n => ((e.2.2 44 4).bind (fun b_19 => (if ((b_19 < e.1) ∧ (((e.2.1 b_19).1 = 13) ∧ ((e.2.1 b_19).2 < (2 ^ 31)))) ∧ (0 ≤ i1 ∧ i1 < (((e.2.1 b_19).2 : Nat) : Int)) then (stI (I b_19 i1) (fun v_24 => ((e.2.2 44 5).bind (fun b_27 => (if ((b_27 < e.1) ∧ (((e.2.1 b_27).1 = 13) ∧ ((e.2.1 b_27).2 < (2 ^ 31)))) ∧ (0 ≤ i1 ∧ i1 < (((e.2.1 b_27).2 : Nat) : Int)) then (stI (I b_27 i1) (fun v_32 => (if 0 ≤ i2 ∧ i2 < 3 then (if (-2147483648 ≤ i2 * 64 ∧ i2 * 64 ≤ 2147483647) ∧ (-2147483648 ≤ (i2 * 64) + (I 32 i2) ∧ (i2 * 64) + (I 32 i2) ≤ 2147483647) then (stI ((i2 * 64) + (I 32 i2)) (fun v_52 => (kf_110 n dp e 1 I L i1 i2 i3 i4 v_24 v_32 i4 v_52 (i2 * 64) 0 0 0 0))) else none) else none))) else none))))) else none)))) P_) : Ev (fun n => kf_110 n dp e 0 I L i1 i2 i3 i4 i7 i8 i9 i10 i11 i12 i13 i14 i15) P_ := Ev_step (fun n => ke_110_0 n dp e I L i1 i2 i3 i4 i7 i8 i9 i10 i11 i12 i13 i14 i15) h
end
/-! THE CLASS'S PLANS: a layer extended by one entry -/
/-- how long the layers' arrays can be -/
def lenP (n : Nat) : Prop := n = 256 ∨ n = 512 ∨ n = 1024 ∨ n = 2048 ∨ n = 4096 ∨ n = 8192 ∨ n = 16384 ∨ n = 32768 ∨ n = 65536 ∨ n = 131072 ∨ n = 262144 ∨ n = 524288
theorem lenP_2 {n : Nat} (h : lenP n) (h2 : n < 413408) : n ≤ 262144 ∧ lenP (2 * n) := by unfold lenP at *; omega
def LyE (e : EN) (b4 b5 b6 b7 len sl : Nat) : Prop := (e.2.2 44 4 = some b4 ∧ e.2.2 44 5 = some b5 ∧ e.2.2 44 6 = some b6 ∧ e.2.2 44 7 = some b7) ∧ (arO e b4 len ∧ arO e b5 len ∧ arO e b6 len ∧ arO e b7 sl) ∧ (¬ b4 = b5 ∧ ¬ b4 = b6 ∧ ¬ b4 = b7 ∧ ¬ b5 = b6 ∧ ¬ b5 = b7 ∧ ¬ b6 = b7) ∧ ((b4 = 47 ∨ 144 ≤ b4) ∧ (b5 = 48 ∨ 144 ≤ b5) ∧ (b6 = 49 ∨ 144 ≤ b6) ∧ (b7 = 50 ∨ 144 ≤ b7)) ∧ ((256 ≤ len ∧ len ≤ 524288) ∧ lenP len) ∧ 1 ≤ sl ∧ sl ≤ 118098
theorem arI {e : EN} {b n : Nat} {i : Int} (h : arO e b n) (hn : n < 2147483648) (hi : 0 ≤ i ∧ i < (n : Int)) : ((b < e.1) ∧ (((e.2.1 b).1 = 13) ∧ ((e.2.1 b).2 < (2 ^ 31)))) ∧ (0 ≤ i ∧ i < (((e.2.1 b).2 : Nat) : Int)) := ⟨⟨h.1, h.2.1, by rw [h.2.2]; omega⟩, by rw [h.2.2]; exact hi⟩
/-- slots: where the entry of a place stands -/
def SlX (rn : Nat) (od : Nat → Int) (wn : Int → Int) (K : JI) (b4 b7 sl s1 N1 : Nat) : Prop := (∀ e : Nat, e < N1 → ∀ T : Int → Int, (∀ p, 0 ≤ T p) → flC rn od wn T = K b4 ((s1 : Int) + e) → K b7 (plC rn od wn T) = (s1 : Int) + e + 1) ∧ ∀ p : Int, 0 ≤ p → p < sl → ¬ K b7 p = 0 → ∃ (e : Nat) (T : Int → Int), e < N1 ∧ (∀ p, 0 ≤ T p) ∧ flC rn od wn T = K b4 ((s1 : Int) + e) ∧ plC rn od wn T = p
section SX
variable {rn : Nat} {od : Nat → Int} {wn : Int → Int} {K K3 : JI} {b4 b7 sl s1 N1 : Nat}
theorem SlX_new {T : Int → Int} (hO : odO rn od wn) (h : SlX rn od wn K b4 b7 sl s1 N1) (hT : ∀ p, 0 ≤ T p) (h0 : K b7 (plC rn od wn T) = 0) (k7 : K3 b7 (plC rn od wn T) = (s1 : Int) + N1 + 1) (k7' : ∀ i, ¬ i = plC rn od wn T → K3 b7 i = K b7 i) (k4 : K3 b4 ((s1 : Int) + N1) = flC rn od wn T) (k4' : ∀ i, ¬ i = (s1 : Int) + N1 → K3 b4 i = K b4 i) : SlX rn od wn K3 b4 b7 sl s1 (N1 + 1) := by
  refine ⟨fun e he T' hT' q => ?_, fun p x y z => ?_⟩
  · by_cases c : e = N1
    · subst c
      rw [k4] at q
      rw [fl_pl hO hT' hT q, k7]
    · rw [k4' _ (by omega)] at q
      have a := h.1 e (by omega) T' hT' q
      by_cases d : plC rn od wn T' = plC rn od wn T
      · rw [d, h0] at a
        omega
      · rw [k7' _ d]; exact a
  · by_cases d : p = plC rn od wn T
    · exact ⟨N1, T, by omega, hT, k4.symm, d.symm⟩
    · rw [k7' _ d] at z
      obtain ⟨e, T', a, b, c, f⟩ := h.2 p x y z
      exact ⟨e, T', by omega, b, by rw [k4' _ (by omega)]; exact c, f⟩
theorem SlX_c (h : SlX rn od wn K b4 b7 sl s1 N1) (k7 : ∀ i, K3 b7 i = K b7 i) (k4 : ∀ i, K3 b4 i = K b4 i) : SlX rn od wn K3 b4 b7 sl s1 N1 := by
  refine ⟨fun e he T' hT' q => ?_, fun p x y z => ?_⟩
  · rw [k4] at q; rw [k7]; exact h.1 e he T' hT' q
  · rw [k7] at z
    obtain ⟨e, T', a, b, c, f⟩ := h.2 p x y z
    exact ⟨e, T', a, b, by rw [k4]; exact c, f⟩
end SX
def FrEx (b4 b5 b6 b7 s1 : Nat) (J K : JI) : Prop := ∀ a i, ¬ a = b7 → ¬ ((a = b4 ∨ a = b5 ∨ a = b6) ∧ (s1 : Int) ≤ i) → K a i = J a i
section KX
variable {e : EN} {L : JI} {rn : Nat} {od : Nat → Int} {wn bn : Int → Int} {b4 b5 b6 b7 len sl : Nat}
set_option maxHeartbeats 4000000 in
theorem K110 {dp : Nat} {J : JI} {c m n s0 s1 N e0 N1 : Nat} {fv : Int} {os : List OF} {gn : Nat → Int} {lf : Nat → Int → Int} {F S C Fg Gg Ag : Nat → Int} (hd : 2 ≤ dp) (hE : LyE e b4 b5 b6 b7 len sl) (hc : c < 3) (hO : odO rn od wn) (hb : bdF (cpF rn od wn) (stF rn od wn) (boF rn od bn)) (hT : TbO J (cpF rn od wn) (stF rn od wn) (boF rn od bn)) (hsl : prL (fun k => wn (od k) + 1) rn ≤ sl) (h32 : J 32 c = n) (hn : n ≤ 64) (hg : ∀ g : Nat, g < n → J 27 ((c : Int) * 64 + g) = Fg g ∧ J 28 ((c : Int) * 64 + g) + (if (c : Int) * 64 + (g : Int) = fv then 1 else 0) = Gg g ∧ J 29 ((c : Int) * 64 + g) = Ag g ∧ Ag g ≤ 64) (hG : GpN m gn (fun k => pkI (fiF rn od wn (lf k))) n Fg Gg Ag) (hlf : ∀ k, k < m → (0 ≤ gn k ∧ gn k ≤ 31968001) ∧ ∀ p, 0 ≤ lf k p) (hB : SqB os) (hos : os.length ≤ 8) (hL : LyN (Sq os) (fun x => x.1) (fun x => flC rn od wn x.2) (fun _ => True) N F S C) (hF : ∀ e : Nat, e < N → J b4 ((s0 : Int) + e) = F e ∧ J b5 ((s0 : Int) + e) = S e ∧ J b6 ((s0 : Int) + e) = C e) (he : e0 < N) (h1 : s1 = s0 + N) (hX : LyN (pr m (Sq os)) (fun y => gn y.1 + y.2.1) (fun y => flC rn od wn (adX (m, gn, lf) y).2) (DnP N n F Fg (fun k => pkI (fiF rn od wn (lf k))) (fun x => flC rn od wn x.2) e0 0) N1 (fun e => J b4 ((s1 : Int) + e)) (fun e => J b5 ((s1 : Int) + e)) (fun e => J b6 ((s1 : Int) + e))) (hS : SlX rn od wn J b4 b7 sl s1 N1) (hr : s1 + N1 + 64 ≤ len) : Ev (fun n => kf_110 n dp e 0 J L ((s0 : Int) + e0) c fv ((s1 : Int) + N1) 0 0 0 0 0 0 0 0 0) (fun r => ∃ N2 : Nat, N2 ≤ N1 + 64 ∧ r.1 = (s1 : Int) + N2 ∧ r.2.2 = L ∧ FrEx b4 b5 b6 b7 s1 J r.2.1 ∧ LyN (pr m (Sq os)) (fun y => gn y.1 + y.2.1) (fun y => flC rn od wn (adX (m, gn, lf) y).2) (DnP N n F Fg (fun k => pkI (fiF rn od wn (lf k))) (fun x => flC rn od wn x.2) (e0 + 1) 0) N2 (fun e => r.2.1 b4 ((s1 : Int) + e)) (fun e => r.2.1 b5 ((s1 : Int) + e)) (fun e => r.2.1 b6 ((s1 : Int) + e)) ∧ SlX rn od wn r.2.1 b4 b7 sl s1 N2) := by
  obtain ⟨⟨r4, r5, r6, r7⟩, ⟨y4, y5, y6, y7⟩, ⟨d1, d2, d3, d4, d5, d6⟩, ⟨o4, o5, o6, o7⟩, ⟨⟨l1, l2⟩, lP⟩, l3, l4⟩ := hE
  obtain ⟨x0, hx0, fx0, sx0⟩ := (hL.2.2 e0 he).1.2.1
  have fx0 := fx0.2
  dsimp only at fx0 sx0
  have bx0 := hB x0 hx0
  have c0 : 0 ≤ C e0 ∧ C e0 ≤ 1000000000 := ⟨(hL.2.2 e0 he).1.2.2.1, (hL.2.2 e0 he).2⟩
  have f0 := hF e0 he
  have key : ∀ g : Nat, g ≤ n → ∀ (K : JI) (N2 : Nat), N2 ≤ N1 + g → FrEx b4 b5 b6 b7 s1 J K → LyN (pr m (Sq os)) (fun y => gn y.1 + y.2.1) (fun y => flC rn od wn (adX (m, gn, lf) y).2) (DnP N n F Fg (fun k => pkI (fiF rn od wn (lf k))) (fun x => flC rn od wn x.2) e0 g) N2 (fun e => K b4 ((s1 : Int) + e)) (fun e => K b5 ((s1 : Int) + e)) (fun e => K b6 ((s1 : Int) + e)) → SlX rn od wn K b4 b7 sl s1 N2 → ∀ y1 y2 y3 y4 : Int, Ev (fun n_1 => kf_110 n_1 dp e 1 K L ((s0 : Int) + e0) c fv ((s1 : Int) + N1) (F e0) (S e0) ((s1 : Int) + N2) ((c : Int) * 64 + n) ((c : Int) * 64 + g) y1 y2 y3 y4) (fun r => ∃ N2 : Nat, N2 ≤ N1 + 64 ∧ r.1 = (s1 : Int) + N2 ∧ r.2.2 = L ∧ FrEx b4 b5 b6 b7 s1 J r.2.1 ∧ LyN (pr m (Sq os)) (fun y => gn y.1 + y.2.1) (fun y => flC rn od wn (adX (m, gn, lf) y).2) (DnP N n F Fg (fun k => pkI (fiF rn od wn (lf k))) (fun x => flC rn od wn x.2) (e0 + 1) 0) N2 (fun e => r.2.1 b4 ((s1 : Int) + e)) (fun e => r.2.1 b5 ((s1 : Int) + e)) (fun e => r.2.1 b6 ((s1 : Int) + e)) ∧ SlX rn od wn r.2.1 b4 b7 sl s1 N2) := by
    refine dec_ind n (fun g hgn ih => ?_)
    intro K N2 hN2 k1 k2 k3 z1 z2 z3 z4
    refine ev_110_1 ?_
    by_cases cg : g < n
    · have ih := ih cg
      obtain ⟨g1, g2, g3, g4⟩ := hg g cg
      obtain ⟨k0, hk0, fk0, gk0⟩ := (hG.2.2 g cg).2.1
      have hk0 := List.mem_range.1 hk0
      have bk0 := hlf k0 hk0
      have a0 : 0 ≤ Ag g := (hG.2.2 g cg).2.2.1
      have e27 : K 27 ((c : Int) * 64 + g) = pkI (fiF rn od wn (lf k0)) := by rw [k1 _ _ (by omega) (by omega), g1]; exact fk0.symm
      have e28 : K 28 ((c : Int) * 64 + g) = J 28 ((c : Int) * 64 + g) := k1 _ _ (by omega) (by omega)
      have e29 : K 29 ((c : Int) * 64 + g) = Ag g := by rw [k1 _ _ (by omega) (by omega), g3]
      have e6 : K b6 ((s0 : Int) + e0) = C e0 := by rw [k1 _ _ (by omega) (by omega)]; exact f0.2.2
      have hT2 : TbO K (cpF rn od wn) (stF rn od wn) (boF rn od bn) := TbO_c (fun a i x y => k1 _ _ (by omega) (by omega)) hT
      have mm := mulb c0 ⟨a0, g4⟩
      have mx := hL.2.2 e0 he
      have adp := ad_p bx0.2 bk0.2
      have plb := pl_b hO adp
      generalize hfl : flC rn od wn (fun p => lf k0 p + x0.2 p) = fl at *
      have flx : ∀ y ∈ pr m (Sq os), (flC rn od wn y.2.2 = F e0 ∧ pkI (fiF rn od wn (lf y.1)) = Fg g) → flC rn od wn (adX (m, gn, lf) y).2 = fl := fun y hy z => by
        obtain ⟨w1, w2⟩ := pr_i.1 hy
        rw [← hfl]
        exact fl_j hO (hB y.2 w2).2 bx0.2 (hlf y.1 w1).2 bk0.2 (z.1.trans fx0.symm) (z.2.trans fk0.symm)
      have bS : 0 ≤ S e0 ∧ S e0 ≤ 255744008 := by
        have := bx0.1
        omega
      have bG : 0 ≤ Gg g ∧ Gg g ≤ 31968001 := by rw [← gk0]; exact bk0.1
      rw [e27, ← fx0]
      refine Ev_f (by omega) (Ev_t (by omega) (Ev_t (by omega) (Ev_bind (K111j hO bx0.2 bk0.2) ?_)))
      rintro _ rfl
      dsimp only
      rw [fx0, e28, hfl]
      generalize hv : K b7 (plC rn od wn (fun p => lf k0 p + x0.2 p)) = v
      have slot : (v = 0 ∧ ∀ e : Nat, e < N2 → ¬ K b4 ((s1 : Int) + e) = fl) ∨ ∃ e' : Nat, e' < N2 ∧ v = (s1 : Int) + e' + 1 ∧ K b4 ((s1 : Int) + e') = fl := by
        by_cases q : v = 0
        · refine Or.inl ⟨q, fun e' he' z => ?_⟩
          have := k3.1 e' he' _ adp (by rw [z]; exact hfl)
          omega
        · obtain ⟨e', T', a, b, d, f⟩ := k3.2 _ plb.1 (by omega) (by rw [hv]; exact q)
          have w := k3.1 e' a T' b d
          rw [f] at w
          exact Or.inr ⟨e', a, by omega, by rw [← d, ← hfl]; exact pl_u hO b adp f⟩
      have fin : ∀ (K3 : JI) (N3 : Nat), N3 ≤ N2 + 1 → FrEx b4 b5 b6 b7 s1 J K3 → LyN (pr m (Sq os)) (fun y => gn y.1 + y.2.1) (fun y => flC rn od wn (adX (m, gn, lf) y).2) (DnP N n F Fg (fun k => pkI (fiF rn od wn (lf k))) (fun x => flC rn od wn x.2) e0 (g + 1)) N3 (fun e => K3 b4 ((s1 : Int) + e)) (fun e => K3 b5 ((s1 : Int) + e)) (fun e => K3 b6 ((s1 : Int) + e)) → SlX rn od wn K3 b4 b7 sl s1 N3 → ∀ y1 y2 y3 y4 : Int, Ev (fun n_1 => kf_110 n_1 dp e 2 K3 L ((s0 : Int) + e0) c fv ((s1 : Int) + N1) (F e0) (S e0) ((s1 : Int) + N3) ((c : Int) * 64 + n) ((c : Int) * 64 + g) y1 y2 y3 y4) (fun r => ∃ N2 : Nat, N2 ≤ N1 + 64 ∧ r.1 = (s1 : Int) + N2 ∧ r.2.2 = L ∧ FrEx b4 b5 b6 b7 s1 J r.2.1 ∧ LyN (pr m (Sq os)) (fun y => gn y.1 + y.2.1) (fun y => flC rn od wn (adX (m, gn, lf) y).2) (DnP N n F Fg (fun k => pkI (fiF rn od wn (lf k))) (fun x => flC rn od wn x.2) (e0 + 1) 0) N2 (fun e => r.2.1 b4 ((s1 : Int) + e)) (fun e => r.2.1 b5 ((s1 : Int) + e)) (fun e => r.2.1 b6 ((s1 : Int) + e)) ∧ SlX rn od wn r.2.1 b4 b7 sl s1 N2) := by
        intro K3 N3 q1 q2 q3 q4 y1 y2 y3 y4
        refine ev_110_2 ?_
        refine Ev_t (by omega) ?_
        have := ih K3 N3 (by omega) q2 q3 q4 0 0 0 0
        rw [show (c : Int) * 64 + (g : Int) + 1 = (c : Int) * 64 + ((g + 1 : Nat) : Int) by omega]
        exact this
      obtain ⟨p1, p2, p3⟩ := DnP_s (c := min (0 + C e0 * Ag g) 1000000000) hL hG he cg (by omega) (by omega)
      have q112 := K112j (e := e) (L := L) (dp := dp - 1) (J := K) hb hT2 hO adp
      rw [hfl] at q112
      generalize hsc : S e0 + Gg g = sc at *
      rcases slot with ⟨v0, hno⟩ | ⟨e', he', ve', fe'⟩
      · by_cases qf : (c : Int) * 64 + (g : Int) = fv
        case' pos =>
          rw [if_pos qf] at g2
          refine Ev_t (by omega) (Ev_t qf (Ev_t (by omega) (Ev_st ?_)))
          rw [show S e0 + J 28 ((c : Int) * 64 + g) + 1 = sc by omega]
        case' neg =>
          rw [if_neg qf] at g2
          refine Ev_t (by omega) (Ev_f qf (Ev_t (by omega) (Ev_st ?_)))
          rw [show S e0 + J 28 ((c : Int) * 64 + g) + 0 = sc by omega]
        all_goals
          refine Ev_t (by omega) (Ev_bind q112 ?_)
          rintro _ rfl
          dsimp only
          refine Ev_R r7 ?_
          simp only [hv]
          refine (Ev_t (arI y7 (by omega) ⟨plb.1, by omega⟩) (Ev_t (by omega) (Ev_st (Ev_f (by omega) (Ev_R r7 (Ev_t (arI y7 (by omega) ⟨plb.1, by omega⟩) (Ev_t (by omega) (Ev_st (Ev_R r4 (Ev_t (arI y4 (by omega) (by omega)) (Ev_st (Ev_R r5 (Ev_t (arI y5 (by omega) (by omega)) (Ev_st (Ev_R r6 (Ev_R r6 (Ev_t (arI y6 (by omega) (by omega)) (Ev_t (by omega) (Ev_t (by omega) ?_)))))))))))))))))))
          generalize hK3 : w2 (w2 (w2 K b7 (plC rn od wn (fun p => lf k0 p + x0.2 p)) ((s1 : Int) + N2 + 1)) b4 ((s1 : Int) + N2) fl) b5 ((s1 : Int) + N2) sc = K3
          have n3 : ∀ (a : Nat) (x : Int), ¬ (a = b7 ∧ x = plC rn od wn (fun p => lf k0 p + x0.2 p)) → ¬ (a = b4 ∧ x = (s1 : Int) + N2) → ¬ (a = b5 ∧ x = (s1 : Int) + N2) → K3 a x = K a x := fun a x u1 u2 u3 => by rw [← hK3, w2_n u3, w2_n u2, w2_n u1]
          have v7 : K3 b7 (plC rn od wn (fun p => lf k0 p + x0.2 p)) = (s1 : Int) + N2 + 1 := by rw [← hK3, w2_n (by omega), w2_n (by omega), w2_ap, if_pos ⟨rfl, rfl⟩]
          have v4 : K3 b4 ((s1 : Int) + N2) = fl := by rw [← hK3, w2_n (by omega), w2_ap, if_pos ⟨rfl, rfl⟩]
          have v5 : K3 b5 ((s1 : Int) + N2) = sc := by rw [← hK3, w2_ap, if_pos ⟨rfl, rfl⟩]
          rw [n3 b6 _ (by omega) (by omega) (by omega), e6, n3 29 _ (by omega) (by omega) (by omega), e29]
          refine Ev_bind (K113 (by omega) (by omega) c0 ⟨a0, g4⟩) ?_
          rintro _ rfl
          dsimp only
          refine Ev_t (arI y6 (by omega) (by omega)) (Ev_st ?_)
          rw [show (s1 : Int) + (N2 : Int) + 1 = (s1 : Int) + ((N2 + 1 : Nat) : Int) by omega]
          have nn : ∀ (a : Nat) (x : Int), ¬ a = b6 → w2 K3 b6 ((s1 : Int) + N2) (min (0 + C e0 * Ag g) 1000000000) a x = K3 a x := fun a x z => w2_o z
          refine fin _ (N2 + 1) (by omega) (fun a x u w => ?_) (LyN_new (f := fl) k2 p1 flx p3 hno (fun e' he' => ⟨?_, ?_, ?_⟩) ?_ ?_ ?_ (by omega)) (SlX_new hO k3 adp (by rw [hv]; exact v0) ?_ (fun i hi => ?_) ?_ (fun i hi => ?_)) _ _ _ _
          · rw [w2_n (by omega), n3 a x (by omega) (by omega) (by omega)]; exact k1 a x u w
          · rw [nn _ _ (by omega), n3 _ _ (by omega) (by omega) (by omega)]
          · rw [nn _ _ (by omega), n3 _ _ (by omega) (by omega) (by omega)]
          · rw [w2_n (by omega), n3 _ _ (by omega) (by omega) (by omega)]
          · rw [nn _ _ (by omega)]; exact v4
          · rw [nn _ _ (by omega)]; exact v5
          · rw [w2_ap, if_pos ⟨rfl, rfl⟩]
          · rw [nn _ _ (by omega)]; exact v7
          · rw [nn _ _ (by omega), n3 _ _ (by omega) (by omega) (by omega)]
          · rw [nn _ _ (by omega), hfl]; exact v4
          · rw [nn _ _ (by omega), n3 _ _ (by omega) (by omega) (by omega)]
      · have ce' : 0 ≤ K b6 ((s1 : Int) + e') ∧ K b6 ((s1 : Int) + e') ≤ 1000000000 := ⟨(k2.2.2 e' he').1.2.2.1, (k2.2.2 e' he').2⟩
        by_cases qf : (c : Int) * 64 + (g : Int) = fv
        case' pos =>
          rw [if_pos qf] at g2
          refine Ev_t (by omega) (Ev_t qf (Ev_t (by omega) (Ev_st ?_)))
          rw [show S e0 + J 28 ((c : Int) * 64 + g) + 1 = sc by omega]
        case' neg =>
          rw [if_neg qf] at g2
          refine Ev_t (by omega) (Ev_f qf (Ev_t (by omega) (Ev_st ?_)))
          rw [show S e0 + J 28 ((c : Int) * 64 + g) + 0 = sc by omega]
        all_goals
          refine Ev_t (by omega) (Ev_bind q112 ?_)
          rintro _ rfl
          dsimp only
          refine Ev_R r7 ?_
          simp only [hv]
          refine (Ev_t (arI y7 (by omega) ⟨plb.1, by omega⟩) (Ev_t (by omega) (Ev_st ?_)))
          rw [show v - 1 = (s1 : Int) + e' by omega]
          refine Ev_t (by omega) (Ev_R r5 (Ev_t (arI y5 (by omega) (by omega)) ?_))
          by_cases cs : sc ≤ K b5 ((s1 : Int) + e')
          · refine Ev_t cs (Ev_R r5 (Ev_t (arI y5 (by omega) (by omega)) ?_))
            by_cases cq : sc = K b5 ((s1 : Int) + e')
            · refine Ev_t cq (Ev_R r6 (Ev_R r6 (Ev_t (arI y6 (by omega) (by omega)) (Ev_R r6 (Ev_t (arI y6 (by omega) (by omega)) (Ev_t (by omega) (Ev_t (by omega) ?_)))))))
              rw [e6, e29]
              refine Ev_bind (K113 (by omega) ce' c0 ⟨a0, g4⟩) ?_
              rintro _ rfl
              dsimp only
              have nn : ∀ (a : Nat) (x : Int), ¬ (a = b6 ∧ x = (s1 : Int) + e') → w2 K b6 ((s1 : Int) + e') (min (K b6 ((s1 : Int) + e') + C e0 * Ag g) 1000000000) a x = K a x := fun a x z => w2_n z
              have v6 : w2 K b6 ((s1 : Int) + e') (min (K b6 ((s1 : Int) + e') + C e0 * Ag g) 1000000000) b6 ((s1 : Int) + e') = min (K b6 ((s1 : Int) + e') + C e0 * Ag g) 1000000000 := by rw [w2_ap, if_pos ⟨rfl, rfl⟩]
              refine Ev_t (arI y6 (by omega) (by omega)) (Ev_st (fin _ N2 (by omega) (fun a x u w => ?_) (LyN_old (f := fl) (e0 := e') k2 p1 flx p2 p3 he' fe' (fun q hq => ⟨?_, fun hq' => ⟨?_, ?_⟩⟩) (Or.inr (Or.inl ⟨cq, ?_, ?_, ?_⟩)) ?_) (SlX_c k3 (fun i => ?_) (fun i => ?_)) _ _ _ _))
              · rw [nn _ _ (by omega)]; exact k1 a x u w
              · exact nn _ _ (by omega)
              · exact nn _ _ (by omega)
              · exact nn _ _ (by omega)
              · exact nn _ _ (by omega)
              · rw [v6]; omega
              · rw [v6]; omega
              · rw [v6]; omega
              · exact nn _ _ (by omega)
              · exact nn _ _ (by omega)
            · refine Ev_f cq (fin _ N2 (by omega) k1 (LyN_old (f := fl) (e0 := e') k2 p1 flx p2 p3 he' fe' (fun q hq => ⟨rfl, fun hq' => ⟨rfl, rfl⟩⟩) (Or.inr (Or.inr ⟨by omega, rfl, rfl⟩)) ce'.2) k3 _ _ _ _)
          · refine Ev_f cs (Ev_R r5 (Ev_t (arI y5 (by omega) (by omega)) (Ev_st (Ev_R r6 (Ev_R r6 (Ev_t (arI y6 (by omega) (by omega)) (Ev_t (by omega) (Ev_t (by omega) ?_))))))))
            rw [w2_n (b := b6) (by omega), e6, w2_n (b := 29) (by omega), e29]
            refine Ev_bind (K113 (by omega) (by omega) c0 ⟨a0, g4⟩) ?_
            rintro _ rfl
            dsimp only
            have nn : ∀ (a : Nat) (x : Int), ¬ ((a = b5 ∨ a = b6) ∧ x = (s1 : Int) + e') → w2 (w2 K b5 ((s1 : Int) + e') sc) b6 ((s1 : Int) + e') (min (0 + C e0 * Ag g) 1000000000) a x = K a x := fun a x z => by rw [w2_n (by omega), w2_n (by omega)]
            refine Ev_t (arI y6 (by omega) (by omega)) (Ev_st (fin _ N2 (by omega) (fun a x u w => ?_) (LyN_old (f := fl) (e0 := e') k2 p1 flx p2 p3 he' fe' (fun q hq => ⟨?_, fun hq' => ⟨?_, ?_⟩⟩) (Or.inl ⟨by omega, ?_, ?_⟩) ?_) (SlX_c k3 (fun i => ?_) (fun i => ?_)) _ _ _ _))
            · rw [nn _ _ (by omega)]; exact k1 a x u w
            · exact nn _ _ (by omega)
            · exact nn _ _ (by omega)
            · exact nn _ _ (by omega)
            · rw [w2_n (by omega), w2_ap, if_pos ⟨rfl, rfl⟩]
            · rw [w2_ap, if_pos ⟨rfl, rfl⟩]
            · rw [w2_ap, if_pos ⟨rfl, rfl⟩]; omega
            · exact nn _ _ (by omega)
            · exact nn _ _ (by omega)
    · have : g = n := by omega
      subst this
      refine Ev_t (by omega) (Ev_ret ⟨N2, by omega, rfl, rfl, k1, LyN_c (fun y _ => DnP_n.symm) (fun _ _ => ⟨rfl, rfl, rfl⟩) k2, k3⟩)
  refine ev_110_0 ?_
  rw [h32]
  refine Ev_R r4 (Ev_t (arI y4 (by omega) (by omega)) (Ev_st (Ev_R r5 (Ev_t (arI y5 (by omega) (by omega)) (Ev_st (Ev_t (by omega) (Ev_t (by omega) (Ev_st ?_))))))))
  rw [f0.1, f0.2.1]
  have := key 0 (by omega) J N1 (by omega) (fun _ _ _ _ => rfl) hX hS 0 0 0 0
  rw [show (c : Int) * 64 + ((0 : Nat) : Int) = (c : Int) * 64 by omega] at this
  exact this
end KX
