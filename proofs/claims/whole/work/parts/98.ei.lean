/-! the reading functions of the reference do not look at the environment -/
section EI
variable (e e' : EN)
set_option maxRecDepth 100000 in
theorem ei_193 : ∀ (n dp lab : Nat) (I : JI) (L : JI) (j0 : Int) (j2 : Int) (j4 : Int), kf_193 n dp e lab I L j0 j2 j4 = kf_193 n dp e' lab I L j0 j2 j4 := by
  intro n
  induction n with
  | zero => intros; rw [kf_193.eq_1, kf_193.eq_1]
  | succ n ih =>
    intros
    simp only [kf_193.eq_2]
set_option maxRecDepth 100000 in
theorem ei_194 : ∀ (n dp lab : Nat) (I : JI) (L : JI) (i1 : Int), kf_194 n dp e lab I L i1 = kf_194 n dp e' lab I L i1 := by
  intro n
  induction n with
  | zero => intros; rw [kf_194.eq_1, kf_194.eq_1]
  | succ n ih =>
    intros
    simp only [kf_194.eq_2]
set_option maxRecDepth 100000 in
theorem ei_215 : ∀ (n dp lab : Nat) (I : JI) (L : JI) (i0 : Int), kf_215 n dp e lab I L i0 = kf_215 n dp e' lab I L i0 := by
  intro n
  induction n with
  | zero => intros; rw [kf_215.eq_1, kf_215.eq_1]
  | succ n ih =>
    intros
    simp only [kf_215.eq_2]
set_option maxRecDepth 100000 in
theorem ei_216 : ∀ (n dp lab : Nat) (I : JI) (L : JI) (i0 : Int), kf_216 n dp e lab I L i0 = kf_216 n dp e' lab I L i0 := by
  intro n
  induction n with
  | zero => intros; rw [kf_216.eq_1, kf_216.eq_1]
  | succ n ih =>
    intros
    simp only [kf_216.eq_2]
set_option maxRecDepth 100000 in
theorem ei_214 : ∀ (n dp lab : Nat) (I : JI) (L : JI), kf_214 n dp e lab I L = kf_214 n dp e' lab I L := by
  intro n
  induction n with
  | zero => intros; rw [kf_214.eq_1, kf_214.eq_1]
  | succ n ih =>
    intros
    simp only [kf_214.eq_2, ih, ei_215 e e', ei_216 e e']
set_option maxRecDepth 100000 in
theorem ei_218 : ∀ (n dp lab : Nat) (I : JI) (L : JI) (j1 : Int), kf_218 n dp e lab I L j1 = kf_218 n dp e' lab I L j1 := by
  intro n
  induction n with
  | zero => intros; rw [kf_218.eq_1, kf_218.eq_1]
  | succ n ih =>
    intros
    simp only [kf_218.eq_2]
set_option maxRecDepth 100000 in
theorem ei_226 : ∀ (n dp lab : Nat) (I : JI) (L : JI) (i1 : Int), kf_226 n dp e lab I L i1 = kf_226 n dp e' lab I L i1 := by
  intro n
  induction n with
  | zero => intros; rw [kf_226.eq_1, kf_226.eq_1]
  | succ n ih =>
    intros
    simp only [kf_226.eq_2]
set_option maxRecDepth 100000 in
theorem ei_219 : ∀ (n dp lab : Nat) (I : JI) (L : JI) (i1 : Int), kf_219 n dp e lab I L i1 = kf_219 n dp e' lab I L i1 := by
  intro n
  induction n with
  | zero => intros; rw [kf_219.eq_1, kf_219.eq_1]
  | succ n ih =>
    intros
    simp only [kf_219.eq_2, ih, ei_214 e e']
set_option maxRecDepth 100000 in
theorem ei_221 : ∀ (n dp lab : Nat) (I : JI) (L : JI) (j1 : Int) (j3 : Int), kf_221 n dp e lab I L j1 j3 = kf_221 n dp e' lab I L j1 j3 := by
  intro n
  induction n with
  | zero => intros; rw [kf_221.eq_1, kf_221.eq_1]
  | succ n ih =>
    intros
    simp only [kf_221.eq_2, ei_193 e e', ei_219 e e']
set_option maxRecDepth 100000 in
theorem ei_222 : ∀ (n dp lab : Nat) (I : JI) (L : JI) (i1 : Int) (i2 : Int), kf_222 n dp e lab I L i1 i2 = kf_222 n dp e' lab I L i1 i2 := by
  intro n
  induction n with
  | zero => intros; rw [kf_222.eq_1, kf_222.eq_1]
  | succ n ih =>
    intros
    simp only [kf_222.eq_2, ei_221 e e']
set_option maxRecDepth 100000 in
theorem ei_220 : ∀ (n dp lab : Nat) (I : JI) (L : JI) (i1 : Int) (i2 : Int), kf_220 n dp e lab I L i1 i2 = kf_220 n dp e' lab I L i1 i2 := by
  intro n
  induction n with
  | zero => intros; rw [kf_220.eq_1, kf_220.eq_1]
  | succ n ih =>
    intros
    simp only [kf_220.eq_2, ih, ei_214 e e', ei_218 e e', ei_219 e e', ei_221 e e', ei_222 e e']
set_option maxRecDepth 100000 in
theorem ei_225 : ∀ (n dp lab : Nat) (I : JI) (L : JI) (i1 : Int) (i2 : Int), kf_225 n dp e lab I L i1 i2 = kf_225 n dp e' lab I L i1 i2 := by
  intro n
  induction n with
  | zero => intros; rw [kf_225.eq_1, kf_225.eq_1]
  | succ n ih =>
    intros
    simp only [kf_225.eq_2]
set_option maxRecDepth 100000 in
theorem ei_231 : ∀ (n dp lab : Nat) (I : JI) (L : JI) (i1 : Int) (i2 : Int), kf_231 n dp e lab I L i1 i2 = kf_231 n dp e' lab I L i1 i2 := by
  intro n
  induction n with
  | zero => intros; rw [kf_231.eq_1, kf_231.eq_1]
  | succ n ih =>
    intros
    simp only [kf_231.eq_2]
set_option maxRecDepth 100000 in
theorem ei_233 : ∀ (n dp lab : Nat) (I : JI) (L : JI) (i0 : Int), kf_233 n dp e lab I L i0 = kf_233 n dp e' lab I L i0 := by
  intro n
  induction n with
  | zero => intros; rw [kf_233.eq_1, kf_233.eq_1]
  | succ n ih =>
    intros
    simp only [kf_233.eq_2]
set_option maxRecDepth 100000 in
theorem ei_234 : ∀ (n dp lab : Nat) (I : JI) (L : JI) (i1 : Int), kf_234 n dp e lab I L i1 = kf_234 n dp e' lab I L i1 := by
  intro n
  induction n with
  | zero => intros; rw [kf_234.eq_1, kf_234.eq_1]
  | succ n ih =>
    intros
    simp only [kf_234.eq_2, ih, ei_231 e e', ei_233 e e']
set_option maxRecDepth 100000 in
theorem ei_235 : ∀ (n dp lab : Nat) (I : JI) (L : JI) (i1 : Int) (i2 : Int), kf_235 n dp e lab I L i1 i2 = kf_235 n dp e' lab I L i1 i2 := by
  intro n
  induction n with
  | zero => intros; rw [kf_235.eq_1, kf_235.eq_1]
  | succ n ih =>
    intros
    simp only [kf_235.eq_2, ih]
set_option maxRecDepth 100000 in
theorem ei_236 : ∀ (n dp lab : Nat) (I : JI) (L : JI) (i1 : Int), kf_236 n dp e lab I L i1 = kf_236 n dp e' lab I L i1 := by
  intro n
  induction n with
  | zero => intros; rw [kf_236.eq_1, kf_236.eq_1]
  | succ n ih =>
    intros
    simp only [kf_236.eq_2, ih, ei_193 e e']
set_option maxRecDepth 100000 in
theorem ei_229 : ∀ (n dp lab : Nat) (I : JI) (L : JI) (i1 : Int) (i2 : Int), kf_229 n dp e lab I L i1 i2 = kf_229 n dp e' lab I L i1 i2 := by
  intro n
  induction n with
  | zero => intros; rw [kf_229.eq_1, kf_229.eq_1]
  | succ n ih =>
    intros
    simp only [kf_229.eq_2, ih, ei_218 e e']
set_option maxRecDepth 100000 in
theorem ei_230 : ∀ (n dp lab : Nat) (I : JI) (L : JI) (i1 : Int) (i2 : Int) (i3 : Int), kf_230 n dp e lab I L i1 i2 i3 = kf_230 n dp e' lab I L i1 i2 i3 := by
  intro n
  induction n with
  | zero => intros; rw [kf_230.eq_1, kf_230.eq_1]
  | succ n ih =>
    intros
    simp only [kf_230.eq_2, ei_219 e e', ei_231 e e']
set_option maxRecDepth 100000 in
theorem ei_227 : ∀ (n dp lab : Nat) (I : JI) (L : JI) (i1 : Int), kf_227 n dp e lab I L i1 = kf_227 n dp e' lab I L i1 := by
  intro n
  induction n with
  | zero => intros; rw [kf_227.eq_1, kf_227.eq_1]
  | succ n ih =>
    intros
    simp only [kf_227.eq_2, ei_219 e e', ei_225 e e']
set_option maxRecDepth 100000 in
theorem ei_228 : ∀ (n dp lab : Nat) (I : JI) (L : JI) (i1 : Int), kf_228 n dp e lab I L i1 = kf_228 n dp e' lab I L i1 := by
  intro n
  induction n with
  | zero => intros; rw [kf_228.eq_1, kf_228.eq_1]
  | succ n ih =>
    intros
    simp only [kf_228.eq_2, ih, ei_226 e e', ei_227 e e', ei_229 e e', ei_230 e e']
set_option maxRecDepth 100000 in
theorem ei_224 : ∀ (n dp lab : Nat) (I : JI) (L : JI), kf_224 n dp e lab I L = kf_224 n dp e' lab I L := by
  intro n
  induction n with
  | zero => intros; rw [kf_224.eq_1, kf_224.eq_1]
  | succ n ih =>
    intros
    simp only [kf_224.eq_2, ei_214 e e', ei_218 e e', ei_225 e e', ei_226 e e', ei_227 e e', ei_228 e e']
set_option maxRecDepth 100000 in
theorem ei_232 : ∀ (n dp lab : Nat) (I : JI) (L : JI) (i1 : Int) (i2 : Int) (i3 : Int), kf_232 n dp e lab I L i1 i2 i3 = kf_232 n dp e' lab I L i1 i2 i3 := by
  intro n
  induction n with
  | zero => intros; rw [kf_232.eq_1, kf_232.eq_1]
  | succ n ih =>
    intros
    simp only [kf_232.eq_2, ih, ei_214 e e', ei_219 e e', ei_225 e e', ei_226 e e', ei_233 e e', ei_234 e e', ei_235 e e', ei_236 e e']
set_option maxRecDepth 100000 in
theorem ei_237 : ∀ (n dp lab : Nat) (I : JI) (L : JI) (i1 : Int), kf_237 n dp e lab I L i1 = kf_237 n dp e' lab I L i1 := by
  intro n
  induction n with
  | zero => intros; rw [kf_237.eq_1, kf_237.eq_1]
  | succ n ih =>
    intros
    simp only [kf_237.eq_2, ih, ei_214 e e', ei_218 e e', ei_219 e e', ei_225 e e', ei_226 e e', ei_231 e e', ei_234 e e', ei_235 e e']
set_option maxRecDepth 100000 in
theorem ei_223 : ∀ (n dp lab : Nat) (I : JI) (L : JI) (i1 : Int) (i2 : Int), kf_223 n dp e lab I L i1 i2 = kf_223 n dp e' lab I L i1 i2 := by
  intro n
  induction n with
  | zero => intros; rw [kf_223.eq_1, kf_223.eq_1]
  | succ n ih =>
    intros
    simp only [kf_223.eq_2, ih, ei_224 e e', ei_228 e e', ei_232 e e', ei_234 e e', ei_237 e e']
set_option maxRecDepth 100000 in
theorem ei_217 : ∀ (n dp lab : Nat) (I : JI) (L : JI) (i1 : Int) (i2 : Int) (i3 : Int), kf_217 n dp e lab I L i1 i2 i3 = kf_217 n dp e' lab I L i1 i2 i3 := by
  intro n
  induction n with
  | zero => intros; rw [kf_217.eq_1, kf_217.eq_1]
  | succ n ih =>
    intros
    simp only [kf_217.eq_2, ih, ei_214 e e', ei_218 e e', ei_219 e e', ei_220 e e', ei_223 e e']
set_option maxRecDepth 100000 in
theorem ei_213 : ∀ (n dp lab : Nat) (I : JI) (L : JI), kf_213 n dp e lab I L = kf_213 n dp e' lab I L := by
  intro n
  induction n with
  | zero => intros; rw [kf_213.eq_1, kf_213.eq_1]
  | succ n ih =>
    intros
    simp only [kf_213.eq_2, ei_214 e e']
set_option maxRecDepth 100000 in
theorem ei_212 : ∀ (n dp lab : Nat) (I : JI) (L : JI) (i1 : Int), kf_212 n dp e lab I L i1 = kf_212 n dp e' lab I L i1 := by
  intro n
  induction n with
  | zero => intros; rw [kf_212.eq_1, kf_212.eq_1]
  | succ n ih =>
    intros
    simp only [kf_212.eq_2, ih, ei_194 e e', ei_213 e e', ei_214 e e', ei_217 e e', ei_219 e e', ei_226 e e']
end EI
