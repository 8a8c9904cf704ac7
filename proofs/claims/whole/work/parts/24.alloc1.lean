/-! help for decompiled functions that make cells -/
def adk {α : Type} (c s : Nat) (x : Option (α × Nat × Nat)) : Option (α × Nat × Nat) := x.map (fun q => (q.1, q.2.1 + c, q.2.2 + s))
theorem adk_some {α : Type} {c s : Nat} {x : Option (α × Nat × Nat)} {a : α} {k1 m1 : Nat} (h : adk c s x = some (a, k1, m1)) : ∃ k0 m0, x = some (a, k0, m0) ∧ k1 = k0 + c ∧ m1 = m0 + s := by
  cases x with
  | none => cases h
  | some q =>
    obtain ⟨b, k0, m0⟩ := q
    cases h
    exact ⟨k0, m0, rfl, rfl, rfl⟩
section N5
variable {X : GX} {d MC MS : Nat} {rt : Option FieldType} {J : JT} {RT : Option Value → PS → Nat → Nat → Prop} {en : Nat} {is : List (Nat × Instr)} {ls : LcT} {st : List Value} {k n : Nat}
theorem q_n5 {z z1 : Nat} {kd kd1 : Nat → Nat × Nat} {I I1 : Nat → Nat → Int32} {L L1 : Nat → Nat → Int64} {R R1 : Nat → Nat → Option Nat} (h1 : z1 = z) (h2 : kd1 = kd) (h3 : I1 = I) (h4 : L1 = L) (h5 : R1 = R) (g : wp X d MC MS rt J RT en is ls st (z1, kd1, I1, L1, R1) k n) : wp X d MC MS rt J RT en is ls st (z, kd, I, L, R) k n := by subst h1; subst h2; subst h3; subst h4; subst h5; exact g
theorem q_nR {z : Nat} {kd : Nat → Nat × Nat} {I : Nat → Nat → Int32} {L : Nat → Nat → Int64} {R R1 : Nat → Nat → Option Nat} (h : R1 = R) (g : wp X d MC MS rt J RT en is ls st (z, kd, I, L, R1) k n) : wp X d MC MS rt J RT en is ls st (z, kd, I, L, R) k n := by subst h; exact g
end N5
theorem Sh_alo {z : Nat} {kd : Nat → Nat × Nat} {R : Nat → Nat → Option Nat} {v : Nat × Nat} {f : Nat → Option Nat} (h : Sh z kd R) : Sh (z + 1) (va_up kd z v) (va_up R z f) := by
  have hr : ∀ q ∈ R0, q.1 < 144 := by decide +kernel
  refine ⟨Nat.le_succ_of_le h.1, fun a ha => ?_, fun q hq => ?_⟩
  · unfold va_up
    rw [if_neg (by have := h.1; omega)]
    exact h.2.1 a ha
  · unfold va_up
    rw [if_neg (by have := h.1; have := hr q hq; omega)]
    exact h.2.2 q hq
theorem Sh_put {z : Nat} {kd : Nat → Nat × Nat} {R : Nat → Nat → Option Nat} {a j : Nat} {v : Option Nat} (h : Sh z kd R) (hn : ∀ q ∈ R0, ¬ (q.1 = a ∧ q.2.1 = j)) : Sh z kd (u2 R a j v) := by
  refine ⟨h.1, h.2.1, fun q hq => ?_⟩
  have := hn q hq
  rw [← h.2.2 q hq]
  unfold u2 va_up
  by_cases h1 : q.1 = a
  · rw [if_pos h1, if_neg (fun h2 => this ⟨h1, h2⟩), h1]
  · rw [if_neg h1]
theorem Sh_putb {z : Nat} {kd : Nat → Nat × Nat} {R : Nat → Nat → Option Nat} {a j : Nat} {v : Option Nat} (h : Sh z kd R) (ha : 144 ≤ a) : Sh z kd (u2 R a j v) := by
  have hr : ∀ q ∈ R0, q.1 < 144 := by decide +kernel
  exact Sh_put h (fun q hq e => by have := hr q hq; omega)
theorem Sh_put20 {z : Nat} {kd : Nat → Nat × Nat} {R : Nat → Nat → Option Nat} (h : Sh z kd R) (j : Nat) (v : Option Nat) : Sh z kd (u2 R 20 j v) := by
  have hr : ∀ q ∈ R0, ¬ q.1 = 20 := by decide +kernel
  exact Sh_put h (fun q hq e => hr q hq e.1)

/-! calls of functions that make cells -/
section QG
variable {X : GX} {d MC MS : Nat} {rt : Option FieldType} {J : JT} {en pc : Nat} {is : List (Nat × Instr)} {ls : LcT} {r : List Value} {σ T : PS} {k n : Nat} {RT : Option Value → PS → Nat → Nat → Prop}
theorem q_gs0I {mi d1 mc ms : Nat} {Rv : Int32} (hC : Ct X d1 mi mc ms [] σ (AI (fun x τ => x = Rv ∧ τ = T))) (hd : d1 + 1 ≤ d) (h4 : k + mc ≤ MC) (h5 : n + ms ≤ MS) (hp : (mt mi).2.2.2.2.2.1 = 0) (hs : csum r ≤ 8) (g : wp X d MC MS rt J RT en is ls (.int Rv :: r) T (k + mc) (n + ms)) : wp X d MC MS rt J RT en ((pc, .invokestatic mi) :: is) ls (r) σ k n := q_cs0I hC hd h4 h5 hp hs (fun x τ h => by obtain ⟨rfl, rfl⟩ := h; exact g)
theorem q_gs0V {mi d1 mc ms : Nat} (hC : Ct X d1 mi mc ms [] σ (AV (fun τ => τ = T))) (hd : d1 + 1 ≤ d) (h4 : k + mc ≤ MC) (h5 : n + ms ≤ MS) (hp : (mt mi).2.2.2.2.2.1 = 0) (hs : csum r ≤ 8) (g : wp X d MC MS rt J RT en is ls (r) T (k + mc) (n + ms)) : wp X d MC MS rt J RT en ((pc, .invokestatic mi) :: is) ls (r) σ k n := q_cs0V hC hd h4 h5 hp hs (fun τ h => by subst h; exact g)
theorem q_gs1I {mi d1 mc ms : Nat} {v0 : Value} {Rv : Int32} (hC : Ct X d1 mi mc ms [v0] σ (AI (fun x τ => x = Rv ∧ τ = T))) (hd : d1 + 1 ≤ d) (h4 : k + mc ≤ MC) (h5 : n + ms ≤ MS) (hp : (mt mi).2.2.2.2.2.1 = 1) (hs : csum r ≤ 8) (g : wp X d MC MS rt J RT en is ls (.int Rv :: r) T (k + mc) (n + ms)) : wp X d MC MS rt J RT en ((pc, .invokestatic mi) :: is) ls (v0 :: r) σ k n := q_cs1I hC hd h4 h5 hp hs (fun x τ h => by obtain ⟨rfl, rfl⟩ := h; exact g)
theorem q_gs1V {mi d1 mc ms : Nat} {v0 : Value} (hC : Ct X d1 mi mc ms [v0] σ (AV (fun τ => τ = T))) (hd : d1 + 1 ≤ d) (h4 : k + mc ≤ MC) (h5 : n + ms ≤ MS) (hp : (mt mi).2.2.2.2.2.1 = 1) (hs : csum r ≤ 8) (g : wp X d MC MS rt J RT en is ls (r) T (k + mc) (n + ms)) : wp X d MC MS rt J RT en ((pc, .invokestatic mi) :: is) ls (v0 :: r) σ k n := q_cs1V hC hd h4 h5 hp hs (fun τ h => by subst h; exact g)
theorem q_gs2I {mi d1 mc ms : Nat} {v0 v1 : Value} {Rv : Int32} (hC : Ct X d1 mi mc ms [v0, v1] σ (AI (fun x τ => x = Rv ∧ τ = T))) (hd : d1 + 1 ≤ d) (h4 : k + mc ≤ MC) (h5 : n + ms ≤ MS) (hp : (mt mi).2.2.2.2.2.1 = 2) (hs : csum r ≤ 8) (g : wp X d MC MS rt J RT en is ls (.int Rv :: r) T (k + mc) (n + ms)) : wp X d MC MS rt J RT en ((pc, .invokestatic mi) :: is) ls (v1 :: v0 :: r) σ k n := q_cs2I hC hd h4 h5 hp hs (fun x τ h => by obtain ⟨rfl, rfl⟩ := h; exact g)
theorem q_gs2V {mi d1 mc ms : Nat} {v0 v1 : Value} (hC : Ct X d1 mi mc ms [v0, v1] σ (AV (fun τ => τ = T))) (hd : d1 + 1 ≤ d) (h4 : k + mc ≤ MC) (h5 : n + ms ≤ MS) (hp : (mt mi).2.2.2.2.2.1 = 2) (hs : csum r ≤ 8) (g : wp X d MC MS rt J RT en is ls (r) T (k + mc) (n + ms)) : wp X d MC MS rt J RT en ((pc, .invokestatic mi) :: is) ls (v1 :: v0 :: r) σ k n := q_cs2V hC hd h4 h5 hp hs (fun τ h => by subst h; exact g)
theorem q_gs2A {mi d1 mc ms : Nat} {v0 v1 : Value} {Rv : Nat} (hC : Ct X d1 mi mc ms [v0, v1] σ (AA (fun x τ => x = Rv ∧ τ = T))) (hd : d1 + 1 ≤ d) (h4 : k + mc ≤ MC) (h5 : n + ms ≤ MS) (hp : (mt mi).2.2.2.2.2.1 = 2) (hs : csum r ≤ 8) (g : wp X d MC MS rt J RT en is ls (.ref Rv :: r) T (k + mc) (n + ms)) : wp X d MC MS rt J RT en ((pc, .invokestatic mi) :: is) ls (v1 :: v0 :: r) σ k n := q_cs2A hC hd h4 h5 hp hs (fun x τ h => by obtain ⟨rfl, rfl⟩ := h; exact g)
theorem q_gs3I {mi d1 mc ms : Nat} {v0 v1 v2 : Value} {Rv : Int32} (hC : Ct X d1 mi mc ms [v0, v1, v2] σ (AI (fun x τ => x = Rv ∧ τ = T))) (hd : d1 + 1 ≤ d) (h4 : k + mc ≤ MC) (h5 : n + ms ≤ MS) (hp : (mt mi).2.2.2.2.2.1 = 3) (hs : csum r ≤ 8) (g : wp X d MC MS rt J RT en is ls (.int Rv :: r) T (k + mc) (n + ms)) : wp X d MC MS rt J RT en ((pc, .invokestatic mi) :: is) ls (v2 :: v1 :: v0 :: r) σ k n := q_cs3I hC hd h4 h5 hp hs (fun x τ h => by obtain ⟨rfl, rfl⟩ := h; exact g)
theorem q_gs3V {mi d1 mc ms : Nat} {v0 v1 v2 : Value} (hC : Ct X d1 mi mc ms [v0, v1, v2] σ (AV (fun τ => τ = T))) (hd : d1 + 1 ≤ d) (h4 : k + mc ≤ MC) (h5 : n + ms ≤ MS) (hp : (mt mi).2.2.2.2.2.1 = 3) (hs : csum r ≤ 8) (g : wp X d MC MS rt J RT en is ls (r) T (k + mc) (n + ms)) : wp X d MC MS rt J RT en ((pc, .invokestatic mi) :: is) ls (v2 :: v1 :: v0 :: r) σ k n := q_cs3V hC hd h4 h5 hp hs (fun τ h => by subst h; exact g)
theorem q_gs4I {mi d1 mc ms : Nat} {v0 v1 v2 v3 : Value} {Rv : Int32} (hC : Ct X d1 mi mc ms [v0, v1, v2, v3] σ (AI (fun x τ => x = Rv ∧ τ = T))) (hd : d1 + 1 ≤ d) (h4 : k + mc ≤ MC) (h5 : n + ms ≤ MS) (hp : (mt mi).2.2.2.2.2.1 = 4) (hs : csum r ≤ 8) (g : wp X d MC MS rt J RT en is ls (.int Rv :: r) T (k + mc) (n + ms)) : wp X d MC MS rt J RT en ((pc, .invokestatic mi) :: is) ls (v3 :: v2 :: v1 :: v0 :: r) σ k n := q_cs4I hC hd h4 h5 hp hs (fun x τ h => by obtain ⟨rfl, rfl⟩ := h; exact g)
theorem q_gs4V {mi d1 mc ms : Nat} {v0 v1 v2 v3 : Value} (hC : Ct X d1 mi mc ms [v0, v1, v2, v3] σ (AV (fun τ => τ = T))) (hd : d1 + 1 ≤ d) (h4 : k + mc ≤ MC) (h5 : n + ms ≤ MS) (hp : (mt mi).2.2.2.2.2.1 = 4) (hs : csum r ≤ 8) (g : wp X d MC MS rt J RT en is ls (r) T (k + mc) (n + ms)) : wp X d MC MS rt J RT en ((pc, .invokestatic mi) :: is) ls (v3 :: v2 :: v1 :: v0 :: r) σ k n := q_cs4V hC hd h4 h5 hp hs (fun τ h => by subst h; exact g)
theorem q_gv1I {mi d1 mc ms : Nat} {v0 : Value} {Rv : Int32} (hC : Ct X d1 mi mc ms [v0] σ (AI (fun x τ => x = Rv ∧ τ = T))) (hd : d1 + 1 ≤ d) (h4 : k + mc ≤ MC) (h5 : n + ms ≤ MS) (hp : (mt mi).2.2.2.2.2.1 = 0) (hs : csum r ≤ 8) (hr : rcv σ mi [v0]) (g : wp X d MC MS rt J RT en is ls (.int Rv :: r) T (k + mc) (n + ms)) : wp X d MC MS rt J RT en ((pc, .invokevirtual mi) :: is) ls (v0 :: r) σ k n := q_cv1I hC hd h4 h5 hp hs hr (fun x τ h => by obtain ⟨rfl, rfl⟩ := h; exact g)
theorem q_gv1V {mi d1 mc ms : Nat} {v0 : Value} (hC : Ct X d1 mi mc ms [v0] σ (AV (fun τ => τ = T))) (hd : d1 + 1 ≤ d) (h4 : k + mc ≤ MC) (h5 : n + ms ≤ MS) (hp : (mt mi).2.2.2.2.2.1 = 0) (hs : csum r ≤ 8) (hr : rcv σ mi [v0]) (g : wp X d MC MS rt J RT en is ls (r) T (k + mc) (n + ms)) : wp X d MC MS rt J RT en ((pc, .invokevirtual mi) :: is) ls (v0 :: r) σ k n := q_cv1V hC hd h4 h5 hp hs hr (fun τ h => by subst h; exact g)
theorem q_gv2I {mi d1 mc ms : Nat} {v0 v1 : Value} {Rv : Int32} (hC : Ct X d1 mi mc ms [v0, v1] σ (AI (fun x τ => x = Rv ∧ τ = T))) (hd : d1 + 1 ≤ d) (h4 : k + mc ≤ MC) (h5 : n + ms ≤ MS) (hp : (mt mi).2.2.2.2.2.1 = 1) (hs : csum r ≤ 8) (hr : rcv σ mi [v0, v1]) (g : wp X d MC MS rt J RT en is ls (.int Rv :: r) T (k + mc) (n + ms)) : wp X d MC MS rt J RT en ((pc, .invokevirtual mi) :: is) ls (v1 :: v0 :: r) σ k n := q_cv2I hC hd h4 h5 hp hs hr (fun x τ h => by obtain ⟨rfl, rfl⟩ := h; exact g)
theorem q_gv2V {mi d1 mc ms : Nat} {v0 v1 : Value} (hC : Ct X d1 mi mc ms [v0, v1] σ (AV (fun τ => τ = T))) (hd : d1 + 1 ≤ d) (h4 : k + mc ≤ MC) (h5 : n + ms ≤ MS) (hp : (mt mi).2.2.2.2.2.1 = 1) (hs : csum r ≤ 8) (hr : rcv σ mi [v0, v1]) (g : wp X d MC MS rt J RT en is ls (r) T (k + mc) (n + ms)) : wp X d MC MS rt J RT en ((pc, .invokevirtual mi) :: is) ls (v1 :: v0 :: r) σ k n := q_cv2V hC hd h4 h5 hp hs hr (fun τ h => by subst h; exact g)
theorem q_gv3I {mi d1 mc ms : Nat} {v0 v1 v2 : Value} {Rv : Int32} (hC : Ct X d1 mi mc ms [v0, v1, v2] σ (AI (fun x τ => x = Rv ∧ τ = T))) (hd : d1 + 1 ≤ d) (h4 : k + mc ≤ MC) (h5 : n + ms ≤ MS) (hp : (mt mi).2.2.2.2.2.1 = 2) (hs : csum r ≤ 8) (hr : rcv σ mi [v0, v1, v2]) (g : wp X d MC MS rt J RT en is ls (.int Rv :: r) T (k + mc) (n + ms)) : wp X d MC MS rt J RT en ((pc, .invokevirtual mi) :: is) ls (v2 :: v1 :: v0 :: r) σ k n := q_cv3I hC hd h4 h5 hp hs hr (fun x τ h => by obtain ⟨rfl, rfl⟩ := h; exact g)
theorem q_gv3V {mi d1 mc ms : Nat} {v0 v1 v2 : Value} (hC : Ct X d1 mi mc ms [v0, v1, v2] σ (AV (fun τ => τ = T))) (hd : d1 + 1 ≤ d) (h4 : k + mc ≤ MC) (h5 : n + ms ≤ MS) (hp : (mt mi).2.2.2.2.2.1 = 2) (hs : csum r ≤ 8) (hr : rcv σ mi [v0, v1, v2]) (g : wp X d MC MS rt J RT en is ls (r) T (k + mc) (n + ms)) : wp X d MC MS rt J RT en ((pc, .invokevirtual mi) :: is) ls (v2 :: v1 :: v0 :: r) σ k n := q_cv3V hC hd h4 h5 hp hs hr (fun τ h => by subst h; exact g)
theorem q_gv4I {mi d1 mc ms : Nat} {v0 v1 v2 v3 : Value} {Rv : Int32} (hC : Ct X d1 mi mc ms [v0, v1, v2, v3] σ (AI (fun x τ => x = Rv ∧ τ = T))) (hd : d1 + 1 ≤ d) (h4 : k + mc ≤ MC) (h5 : n + ms ≤ MS) (hp : (mt mi).2.2.2.2.2.1 = 3) (hs : csum r ≤ 8) (hr : rcv σ mi [v0, v1, v2, v3]) (g : wp X d MC MS rt J RT en is ls (.int Rv :: r) T (k + mc) (n + ms)) : wp X d MC MS rt J RT en ((pc, .invokevirtual mi) :: is) ls (v3 :: v2 :: v1 :: v0 :: r) σ k n := q_cv4I hC hd h4 h5 hp hs hr (fun x τ h => by obtain ⟨rfl, rfl⟩ := h; exact g)
theorem q_gv4V {mi d1 mc ms : Nat} {v0 v1 v2 v3 : Value} (hC : Ct X d1 mi mc ms [v0, v1, v2, v3] σ (AV (fun τ => τ = T))) (hd : d1 + 1 ≤ d) (h4 : k + mc ≤ MC) (h5 : n + ms ≤ MS) (hp : (mt mi).2.2.2.2.2.1 = 3) (hs : csum r ≤ 8) (hr : rcv σ mi [v0, v1, v2, v3]) (g : wp X d MC MS rt J RT en is ls (r) T (k + mc) (n + ms)) : wp X d MC MS rt J RT en ((pc, .invokevirtual mi) :: is) ls (v3 :: v2 :: v1 :: v0 :: r) σ k n := q_cv4V hC hd h4 h5 hp hs hr (fun τ h => by subst h; exact g)
theorem q_gi1V {mi d1 mc ms : Nat} {v0 : Value} (hC : Ct X d1 mi mc ms [v0] σ (AV (fun τ => τ = T))) (hd : d1 + 1 ≤ d) (h4 : k + mc ≤ MC) (h5 : n + ms ≤ MS) (hp : (mt mi).2.2.2.2.2.1 = 0) (hs : csum r ≤ 8) (hr : rcv σ mi [v0]) (g : wp X d MC MS rt J RT en is ls (r) T (k + mc) (n + ms)) : wp X d MC MS rt J RT en ((pc, .invokespecial mi) :: is) ls (v0 :: r) σ k n := q_ci1V hC hd h4 h5 hp hs hr (fun τ h => by subst h; exact g)
theorem q_gi2V {mi d1 mc ms : Nat} {v0 v1 : Value} (hC : Ct X d1 mi mc ms [v0, v1] σ (AV (fun τ => τ = T))) (hd : d1 + 1 ≤ d) (h4 : k + mc ≤ MC) (h5 : n + ms ≤ MS) (hp : (mt mi).2.2.2.2.2.1 = 1) (hs : csum r ≤ 8) (hr : rcv σ mi [v0, v1]) (g : wp X d MC MS rt J RT en is ls (r) T (k + mc) (n + ms)) : wp X d MC MS rt J RT en ((pc, .invokespecial mi) :: is) ls (v1 :: v0 :: r) σ k n := q_ci2V hC hd h4 h5 hp hs hr (fun τ h => by subst h; exact g)
theorem q_gi3V {mi d1 mc ms : Nat} {v0 v1 v2 : Value} (hC : Ct X d1 mi mc ms [v0, v1, v2] σ (AV (fun τ => τ = T))) (hd : d1 + 1 ≤ d) (h4 : k + mc ≤ MC) (h5 : n + ms ≤ MS) (hp : (mt mi).2.2.2.2.2.1 = 2) (hs : csum r ≤ 8) (hr : rcv σ mi [v0, v1, v2]) (g : wp X d MC MS rt J RT en is ls (r) T (k + mc) (n + ms)) : wp X d MC MS rt J RT en ((pc, .invokespecial mi) :: is) ls (v2 :: v1 :: v0 :: r) σ k n := q_ci3V hC hd h4 h5 hp hs hr (fun τ h => by subst h; exact g)
theorem q_gi4V {mi d1 mc ms : Nat} {v0 v1 v2 v3 : Value} (hC : Ct X d1 mi mc ms [v0, v1, v2, v3] σ (AV (fun τ => τ = T))) (hd : d1 + 1 ≤ d) (h4 : k + mc ≤ MC) (h5 : n + ms ≤ MS) (hp : (mt mi).2.2.2.2.2.1 = 3) (hs : csum r ≤ 8) (hr : rcv σ mi [v0, v1, v2, v3]) (g : wp X d MC MS rt J RT en is ls (r) T (k + mc) (n + ms)) : wp X d MC MS rt J RT en ((pc, .invokespecial mi) :: is) ls (v3 :: v2 :: v1 :: v0 :: r) σ k n := q_ci4V hC hd h4 h5 hp hs hr (fun τ h => by subst h; exact g)
end QG

def b_109_0 : List (Nat × Instr) := [(0, .iload 1), (1, .aload 0), (2, .arraylength), (3, .if_icmp .ne 14)]
theorem h_109_0 : chk (mt 109) 6 0 b_109_0 = true := by decide +kernel

/-! 109 java/util/Arrays.copyOf([II)[I -/
set_option maxHeartbeats 4000000 in
set_option maxRecDepth 100000 in
def g_109 : Nat → Nat → Nat → Nat → (Nat → Nat × Nat) → (Nat → Nat → Int32) → (Nat → Nat → Int64) → (Nat → Nat → Option Nat) → Int32 → Nat →  Option ((Nat × PS) × Nat × Nat)
  | 0, _, _, _, _, _, _, _, _, _ => none
  | n + 1, dp, lab, z, kd, I, L, R, i1, a0 =>
    if lab = 0 then (if a0 < z ∧ (kd a0).1 = 13 then (if i1 = (nI (kd a0).2) then none else (if (¬ i1 < 0) ∧ (Int32.toNatClampNeg i1) ≤ 10000000 then (adk 1 (Int32.toNatClampNeg i1) (stI (z + 1) (fun z_15 => (stI (va_up kd z (13, (Int32.toNatClampNeg i1))) (fun kd_15 => (stI (va_up I z (fun _ => 0)) (fun I_15 => (stI (va_up L z (fun _ => 0)) (fun L_15 => (stI (va_up R z (fun _ => none)) (fun R_15 => (if a0 < z_15 ∧ (kd_15 a0).1 = 13 then (if 1 ≤ dp then (if a0 < z_15 ∧ (kd_15 a0).1 = 13 then (if z < z_15 ∧ (kd_15 z).1 = 13 then (if ((¬ (0 : Int32) < 0) ∧ (¬ (0 : Int32) < 0) ∧ (¬ (if i1 < (nI (kd_15 a0).2) then i1 else (nI (kd_15 a0).2)) < 0) ∧ (Int32.toNatClampNeg (0 : Int32)) + (Int32.toNatClampNeg (if i1 < (nI (kd_15 a0).2) then i1 else (nI (kd_15 a0).2))) ≤ (kd_15 a0).2 ∧ (Int32.toNatClampNeg (0 : Int32)) + (Int32.toNatClampNeg (if i1 < (nI (kd_15 a0).2) then i1 else (nI (kd_15 a0).2))) ≤ (kd_15 z).2) ∧ 1 ≤ dp then (stI (va_up I_15 z (va_cpy (I_15 a0) (I_15 z) (Int32.toNatClampNeg (0 : Int32)) (Int32.toNatClampNeg (0 : Int32)) (Int32.toNatClampNeg (if i1 < (nI (kd_15 a0).2) then i1 else (nI (kd_15 a0).2))))) (fun I_28 => (some ((z, z_15, kd_15, I_28, L_15, R_15), 0, 0)))) else none) else none) else none) else none) else none)))))))))))) else none)) else none)
    else none
set_option maxRecDepth 100000 in
theorem e_109_0 (n dp : Nat) (z : Nat) (kd : (Nat → Nat × Nat)) (I : (Nat → Nat → Int32)) (L : (Nat → Nat → Int64)) (R : (Nat → Nat → Option Nat)) (i1 : Int32) (a0 : Nat) : g_109 (n + 1) dp 0 z kd I L R i1 a0 = (if a0 < z ∧ (kd a0).1 = 13 then (if i1 = (nI (kd a0).2) then none else (if (¬ i1 < 0) ∧ (Int32.toNatClampNeg i1) ≤ 10000000 then (adk 1 (Int32.toNatClampNeg i1) (stI (z + 1) (fun z_15 => (stI (va_up kd z (13, (Int32.toNatClampNeg i1))) (fun kd_15 => (stI (va_up I z (fun _ => 0)) (fun I_15 => (stI (va_up L z (fun _ => 0)) (fun L_15 => (stI (va_up R z (fun _ => none)) (fun R_15 => (if a0 < z_15 ∧ (kd_15 a0).1 = 13 then (if 1 ≤ dp then (if a0 < z_15 ∧ (kd_15 a0).1 = 13 then (if z < z_15 ∧ (kd_15 z).1 = 13 then (if ((¬ (0 : Int32) < 0) ∧ (¬ (0 : Int32) < 0) ∧ (¬ (if i1 < (nI (kd_15 a0).2) then i1 else (nI (kd_15 a0).2)) < 0) ∧ (Int32.toNatClampNeg (0 : Int32)) + (Int32.toNatClampNeg (if i1 < (nI (kd_15 a0).2) then i1 else (nI (kd_15 a0).2))) ≤ (kd_15 a0).2 ∧ (Int32.toNatClampNeg (0 : Int32)) + (Int32.toNatClampNeg (if i1 < (nI (kd_15 a0).2) then i1 else (nI (kd_15 a0).2))) ≤ (kd_15 z).2) ∧ 1 ≤ dp then (stI (va_up I_15 z (va_cpy (I_15 a0) (I_15 z) (Int32.toNatClampNeg (0 : Int32)) (Int32.toNatClampNeg (0 : Int32)) (Int32.toNatClampNeg (if i1 < (nI (kd_15 a0).2) then i1 else (nI (kd_15 a0).2))))) (fun I_28 => (some ((z, z_15, kd_15, I_28, L_15, R_15), 0, 0)))) else none) else none) else none) else none) else none)))))))))))) else none)) else none) := by rw [g_109.eq_2, if_pos (show (0 : Nat) = 0 from rfl)]
set_option maxHeartbeats 8000000 in
set_option maxRecDepth 100000 in
theorem w_109 (X : GX) : ∀ (n dp d : Nat), dp ≤ d → ∀ (z : Nat) (kd : (Nat → Nat × Nat)) (I : (Nat → Nat → Int32)) (L : (Nat → Nat → Int64)) (R : (Nat → Nat → Option Nat)), Sh z kd R → ∀ (i1 : Int32) (a0 : Nat) (r : Nat) (z1 : Nat) (kd1 : (Nat → Nat × Nat)) (I1 : (Nat → Nat → Int32)) (L1 : (Nat → Nat → Int64)) (R1 : (Nat → Nat → Option Nat)) (k1 m1 : Nat), (g_109 n dp 0 z kd I L R i1 a0 = some ((r, z1, kd1, I1, L1, R1), k1, m1) → ∀ MC MS k m : Nat, k + k1 ≤ MC → m + m1 ≤ MS → K X d 109 MC MS (AA (fun x τ => x = r ∧ τ = (z1, kd1, I1, L1, R1))) 0 [some (.ref a0), some (.int i1), none] [] (z, kd, I, L, R) k m) := by
  intro n
  induction n with
  | zero => intro dp d hdp z kd I L R hS  i1 a0 r z1 kd1 I1 L1 R1 k1 m1; exact fun h => by cases h
  | succ n ih =>
    intro dp d hdp z kd I L R hS  i1 a0 r z1 kd1 I1 L1 R1 k1 m1
    · intro h MC MS k m hMC hMS
      rw [e_109_0] at h
      refine K_of b_109_0 h_109_0 ?_
      refine q_iload rfl ?_
      refine q_aload rfl ?_
      obtain ⟨⟨z_2, k_2⟩, h⟩ := ite_some h
      refine q_alen z_2 (fst_eq k_2) (by decide) (by decide) ?_
      refine q_icmp_ne (fun c_3 => ?_) (fun c_3 => ?_)
      · rw [if_neg c_3] at h
        refine K_of b_109_14 h_109_14 ?_
        refine q_iload rfl ?_
        obtain ⟨⟨n1_15, n2_15⟩, h⟩ := ite_some h
        obtain ⟨mk_15, ms_15, h, ek_15, em_15⟩ := adk_some h
        refine q_newa (m0 := (Int32.toNatClampNeg i1)) (by decide) n1_15 rfl n2_15 (by omega) (by omega) ?_
        obtain ⟨z_15, nz_15, h⟩ := stI_some h
        obtain ⟨kd_15, nkd_15, h⟩ := stI_some h
        obtain ⟨I_15, nI_15, h⟩ := stI_some h
        obtain ⟨L_15, nL_15, h⟩ := stI_some h
        obtain ⟨R_15, nR_15, h⟩ := stI_some h
        refine q_n5 nz_15 nkd_15 nI_15 nL_15 nR_15 ?_
        have hS_15 : Sh z_15 kd_15 R_15 := by rw [nz_15, nkd_15, nR_15]; exact Sh_alo hS
        refine q_astore (ls1 := [some (.ref a0), some (.int i1), some (.ref z)]) rfl (Nat.le_of_ble_eq_true rfl) rfl ?_
        refine q_aload rfl ?_
        refine q_iconst (0) (by decide) ?_
        refine q_aload rfl ?_
        refine q_iconst (0) (by decide) ?_
        refine q_aload rfl ?_
        obtain ⟨⟨z_23, k_23⟩, h⟩ := ite_some h
        refine q_alen z_23 (fst_eq k_23) (by decide) (by decide) ?_
        refine q_iload rfl ?_
        obtain ⟨d_25, h⟩ := ite_some h
        refine q_min (Nat.le_of_ble_eq_true rfl) (Nat.le_trans d_25 hdp) (by omega) (by omega) ?_
        obtain ⟨⟨za_28, ka_28⟩, h⟩ := ite_some h
        obtain ⟨⟨zb_28, kb_28⟩, h⟩ := ite_some h
        obtain ⟨⟨⟨q1_28, q2_28, q3_28, q4_28, q5_28⟩, d_28⟩, h⟩ := ite_some h
        refine q_copy (Nat.le_of_ble_eq_true rfl) za_28 zb_28 (fst_eq ka_28) (fst_eq kb_28) q1_28 q2_28 q3_28 q4_28 q5_28 (Nat.le_trans d_28 hdp) ?_
        obtain ⟨I_28, nI_28, h⟩ := stI_some h
        refine q_nI nI_28 ?_
        refine q_aload rfl ?_
        cases h
        exact q_aret ⟨_, rfl⟩ (by omega) (by omega) ⟨rfl, rfl⟩
      · rw [if_pos c_3] at h
        refine q_end ?_
        cases h
set_option maxHeartbeats 8000000 in
set_option maxRecDepth 100000 in
theorem t_109 : ∀ (n dp : Nat) (z : Nat) (kd : (Nat → Nat × Nat)) (I : (Nat → Nat → Int32)) (L : (Nat → Nat → Int64)) (R : (Nat → Nat → Option Nat)), Sh z kd R → ∀ (i1 : Int32) (a0 : Nat) (r : Nat) (z1 : Nat) (kd1 : (Nat → Nat × Nat)) (I1 : (Nat → Nat → Int32)) (L1 : (Nat → Nat → Int64)) (R1 : (Nat → Nat → Option Nat)) (k1 m1 : Nat), (g_109 n dp 0 z kd I L R i1 a0 = some ((r, z1, kd1, I1, L1, R1), k1, m1) → Sh z1 kd1 R1) := by
  intro n
  induction n with
  | zero => intro dp z kd I L R hS i1 a0 r z1 kd1 I1 L1 R1 k1 m1; exact fun h => by cases h
  | succ n ih =>
    intro dp z kd I L R hS i1 a0 r z1 kd1 I1 L1 R1 k1 m1
    · intro h
      rw [e_109_0] at h
      obtain ⟨⟨z_2, k_2⟩, h⟩ := ite_some h
      by_cases c_3 : i1 = (nI (kd a0).2)
      · rw [if_pos c_3] at h
        cases h
      · rw [if_neg c_3] at h
        obtain ⟨⟨n1_15, n2_15⟩, h⟩ := ite_some h
        obtain ⟨mk_15, ms_15, h, ek_15, em_15⟩ := adk_some h
        obtain ⟨z_15, nz_15, h⟩ := stI_some h
        obtain ⟨kd_15, nkd_15, h⟩ := stI_some h
        obtain ⟨I_15, nI_15, h⟩ := stI_some h
        obtain ⟨L_15, nL_15, h⟩ := stI_some h
        obtain ⟨R_15, nR_15, h⟩ := stI_some h
        have hS_15 : Sh z_15 kd_15 R_15 := by rw [nz_15, nkd_15, nR_15]; exact Sh_alo hS
        obtain ⟨⟨z_23, k_23⟩, h⟩ := ite_some h
        obtain ⟨d_25, h⟩ := ite_some h
        obtain ⟨⟨za_28, ka_28⟩, h⟩ := ite_some h
        obtain ⟨⟨zb_28, kb_28⟩, h⟩ := ite_some h
        obtain ⟨⟨⟨q1_28, q2_28, q3_28, q4_28, q5_28⟩, d_28⟩, h⟩ := ite_some h
        obtain ⟨I_28, nI_28, h⟩ := stI_some h
        cases h
        exact hS_15
theorem a_109 (X : GX) {z : Nat} {kd : (Nat → Nat × Nat)} {I : (Nat → Nat → Int32)} {L : (Nat → Nat → Int64)} {R : (Nat → Nat → Option Nat)} (hS : Sh z kd R) {n dp d : Nat} (hd : dp ≤ d) {a0 : Nat} {i1 : Int32} {r : Nat} {z1 : Nat} {kd1 : (Nat → Nat × Nat)} {I1 : (Nat → Nat → Int32)} {L1 : (Nat → Nat → Int64)} {R1 : (Nat → Nat → Option Nat)} {k1 m1 : Nat} (h : g_109 n dp 0 z kd I L R i1 a0 = some ((r, z1, kd1, I1, L1, R1), k1, m1)) : Ct X d 109 k1 m1 [.ref a0, .int i1] (z, kd, I, L, R) (AA (fun x τ => x = r ∧ τ = (z1, kd1, I1, L1, R1))) :=
  Ct_of mu_109 (Nat.le_of_ble_eq_true rfl) ((w_109 X n dp d hd z kd I L R hS i1 a0 _ _ _ _ _ _ _ _) h k1 m1 0 0 (by omega) (by omega))
theorem s_109 {z : Nat} {kd : (Nat → Nat × Nat)} {I : (Nat → Nat → Int32)} {L : (Nat → Nat → Int64)} {R : (Nat → Nat → Option Nat)} (hS : Sh z kd R) {n dp : Nat} {a0 : Nat} {i1 : Int32} {r : Nat} {z1 : Nat} {kd1 : (Nat → Nat × Nat)} {I1 : (Nat → Nat → Int32)} {L1 : (Nat → Nat → Int64)} {R1 : (Nat → Nat → Option Nat)} {k1 m1 : Nat} (h : g_109 n dp 0 z kd I L R i1 a0 = some ((r, z1, kd1, I1, L1, R1), k1, m1)) : Sh z1 kd1 R1 := (t_109 n dp z kd I L R hS i1 a0 _ _ _ _ _ _ _ _) h

/-! 103 CutFloor$Layers.clear()V -/
set_option maxHeartbeats 4000000 in
set_option maxRecDepth 100000 in
def g_103 : Nat → Nat → Nat → Nat → (Nat → Nat × Nat) → (Nat → Nat → Int32) → (Nat → Nat → Int64) → (Nat → Nat → Option Nat) →  Option ((PS) × Nat × Nat)
  | 0, _, _, _, _, _, _, _ => none
  | n + 1, dp, lab, z, kd, I, L, R =>
    if lab = 0 then (stI (u2 I 44 3 (0 : Int32)) (fun I_2 => (stI (u2 I_2 45 0 (0 : Int32)) (fun I_11 => (stI (u2 I_11 45 1 (1 : Int32)) (fun I_18 => ((R 44 4).bind (fun b_20 => (if (b_20 < z ∧ (kd b_20).1 = 13 ∧ (kd b_20).2 < 2 ^ 31) ∧ 0 ≤ (0 : Int32) ∧ 0 < (kd b_20).2 then (stI (u2 I_18 b_20 0 (I_18 26 18)) (fun I_31 => ((R 44 5).bind (fun b_33 => (if (b_33 < z ∧ (kd b_33).1 = 13 ∧ (kd b_33).2 < 2 ^ 31) ∧ 0 ≤ (0 : Int32) ∧ 0 < (kd b_33).2 then (stI (u2 I_31 b_33 0 (0 : Int32)) (fun I_38 => ((R 44 6).bind (fun b_40 => (if (b_40 < z ∧ (kd b_40).1 = 13 ∧ (kd b_40).2 < 2 ^ 31) ∧ 0 ≤ (0 : Int32) ∧ 0 < (kd b_40).2 then (stI (u2 I_38 b_40 0 (1 : Int32)) (fun I_45 => ((R 44 7).bind (fun b_47 => (if b_47 < z ∧ (kd b_47).1 = 13 then (if (I_45 26 19) ≤ (nI (kd b_47).2) then (some ((z, kd, I_45, L, R), 0, 0)) else ((R 44 7).bind (fun b_71 => (if b_71 < z ∧ (kd b_71).1 = 13 then (if 1 ≤ dp then (if (¬ (if (I_45 26 19) < ((2 : Int32) * (nI (kd b_71).2)) then ((2 : Int32) * (nI (kd b_71).2)) else (I_45 26 19)) < 0) ∧ (Int32.toNatClampNeg (if (I_45 26 19) < ((2 : Int32) * (nI (kd b_71).2)) then ((2 : Int32) * (nI (kd b_71).2)) else (I_45 26 19))) ≤ 10000000 then (adk 1 (Int32.toNatClampNeg (if (I_45 26 19) < ((2 : Int32) * (nI (kd b_71).2)) then ((2 : Int32) * (nI (kd b_71).2)) else (I_45 26 19))) (stI (z + 1) (fun z_79 => (stI (va_up kd z (13, (Int32.toNatClampNeg (if (I_45 26 19) < ((2 : Int32) * (nI (kd b_71).2)) then ((2 : Int32) * (nI (kd b_71).2)) else (I_45 26 19))))) (fun kd_79 => (stI (va_up I_45 z (fun _ => 0)) (fun I_79 => (stI (va_up L z (fun _ => 0)) (fun L_79 => (stI (va_up R z (fun _ => none)) (fun R_79 => (stI (u2 R_79 44 7 (some z)) (fun R_81 => (some ((z_79, kd_79, I_79, L_79, R_81), 0, 0))))))))))))))) else none) else none) else none)))) else none))))) else none))))) else none))))) else none)))))))))
    else none
set_option maxRecDepth 100000 in
theorem e_103_0 (n dp : Nat) (z : Nat) (kd : (Nat → Nat × Nat)) (I : (Nat → Nat → Int32)) (L : (Nat → Nat → Int64)) (R : (Nat → Nat → Option Nat)) : g_103 (n + 1) dp 0 z kd I L R = (stI (u2 I 44 3 (0 : Int32)) (fun I_2 => (stI (u2 I_2 45 0 (0 : Int32)) (fun I_11 => (stI (u2 I_11 45 1 (1 : Int32)) (fun I_18 => ((R 44 4).bind (fun b_20 => (if (b_20 < z ∧ (kd b_20).1 = 13 ∧ (kd b_20).2 < 2 ^ 31) ∧ 0 ≤ (0 : Int32) ∧ 0 < (kd b_20).2 then (stI (u2 I_18 b_20 0 (I_18 26 18)) (fun I_31 => ((R 44 5).bind (fun b_33 => (if (b_33 < z ∧ (kd b_33).1 = 13 ∧ (kd b_33).2 < 2 ^ 31) ∧ 0 ≤ (0 : Int32) ∧ 0 < (kd b_33).2 then (stI (u2 I_31 b_33 0 (0 : Int32)) (fun I_38 => ((R 44 6).bind (fun b_40 => (if (b_40 < z ∧ (kd b_40).1 = 13 ∧ (kd b_40).2 < 2 ^ 31) ∧ 0 ≤ (0 : Int32) ∧ 0 < (kd b_40).2 then (stI (u2 I_38 b_40 0 (1 : Int32)) (fun I_45 => ((R 44 7).bind (fun b_47 => (if b_47 < z ∧ (kd b_47).1 = 13 then (if (I_45 26 19) ≤ (nI (kd b_47).2) then (some ((z, kd, I_45, L, R), 0, 0)) else ((R 44 7).bind (fun b_71 => (if b_71 < z ∧ (kd b_71).1 = 13 then (if 1 ≤ dp then (if (¬ (if (I_45 26 19) < ((2 : Int32) * (nI (kd b_71).2)) then ((2 : Int32) * (nI (kd b_71).2)) else (I_45 26 19)) < 0) ∧ (Int32.toNatClampNeg (if (I_45 26 19) < ((2 : Int32) * (nI (kd b_71).2)) then ((2 : Int32) * (nI (kd b_71).2)) else (I_45 26 19))) ≤ 10000000 then (adk 1 (Int32.toNatClampNeg (if (I_45 26 19) < ((2 : Int32) * (nI (kd b_71).2)) then ((2 : Int32) * (nI (kd b_71).2)) else (I_45 26 19))) (stI (z + 1) (fun z_79 => (stI (va_up kd z (13, (Int32.toNatClampNeg (if (I_45 26 19) < ((2 : Int32) * (nI (kd b_71).2)) then ((2 : Int32) * (nI (kd b_71).2)) else (I_45 26 19))))) (fun kd_79 => (stI (va_up I_45 z (fun _ => 0)) (fun I_79 => (stI (va_up L z (fun _ => 0)) (fun L_79 => (stI (va_up R z (fun _ => none)) (fun R_79 => (stI (u2 R_79 44 7 (some z)) (fun R_81 => (some ((z_79, kd_79, I_79, L_79, R_81), 0, 0))))))))))))))) else none) else none) else none)))) else none))))) else none))))) else none))))) else none))))))))) := by rw [g_103.eq_2, if_pos (show (0 : Nat) = 0 from rfl)]
set_option maxHeartbeats 8000000 in
set_option maxRecDepth 100000 in
theorem w_103 (X : GX) : ∀ (n dp d : Nat), dp ≤ d → ∀ (z : Nat) (kd : (Nat → Nat × Nat)) (I : (Nat → Nat → Int32)) (L : (Nat → Nat → Int64)) (R : (Nat → Nat → Option Nat)), Sh z kd R → ∀ (z1 : Nat) (kd1 : (Nat → Nat × Nat)) (I1 : (Nat → Nat → Int32)) (L1 : (Nat → Nat → Int64)) (R1 : (Nat → Nat → Option Nat)) (k1 m1 : Nat), (g_103 n dp 0 z kd I L R = some ((z1, kd1, I1, L1, R1), k1, m1) → ∀ MC MS k m : Nat, k + k1 ≤ MC → m + m1 ≤ MS → K X d 103 MC MS (AV (fun τ => τ = (z1, kd1, I1, L1, R1))) 0 [some (.ref 44)] [] (z, kd, I, L, R) k m) := by
  intro n
  induction n with
  | zero => intro dp d hdp z kd I L R hS  z1 kd1 I1 L1 R1 k1 m1; exact fun h => by cases h
  | succ n ih =>
    intro dp d hdp z kd I L R hS  z1 kd1 I1 L1 R1 k1 m1
    · intro h MC MS k m hMC hMS
      rw [e_103_0] at h
      refine K_of b_103_0 h_103_0 ?_
      refine q_aload rfl ?_
      refine q_iconst (0) (by decide) ?_
      refine q_putI (c0 := 4) (j := 3) rfl rfl (zl hS 44 (by decide)) (sk hS 44 (by decide) rfl) rfl ?_
      obtain ⟨I_2, nI_2, h⟩ := stI_some h
      refine q_nI nI_2 ?_
      refine q_aload rfl ?_
      refine q_getRs (c0 := 4) (j := 1) rfl rfl (zl hS 44 (by decide)) (sk hS 44 (by decide) rfl) rfl (by decide) (r_44_1 hS) ?_
      refine q_iconst (0) (by decide) ?_
      refine q_iconst (0) (by decide) ?_
      refine q_iasN (0) rfl (zl hS 45 (by decide)) (sk hS 45 (by decide) rfl) (by decide) (by decide) ?_
      obtain ⟨I_11, nI_11, h⟩ := stI_some h
      refine q_nI nI_11 ?_
      refine q_aload rfl ?_
      refine q_getRs (c0 := 4) (j := 1) rfl rfl (zl hS 44 (by decide)) (sk hS 44 (by decide) rfl) rfl (by decide) (r_44_1 hS) ?_
      refine q_iconst (1) (by decide) ?_
      refine q_iconst (1) (by decide) ?_
      refine q_iasN (1) rfl (zl hS 45 (by decide)) (sk hS 45 (by decide) rfl) (by decide) (by decide) ?_
      obtain ⟨I_18, nI_18, h⟩ := stI_some h
      refine q_nI nI_18 ?_
      refine q_aload rfl ?_
      obtain ⟨b_20, r_20, h⟩ := Option.bind_eq_some_iff.mp h
      refine q_getRs (c0 := 4) (j := 4) rfl rfl (zl hS 44 (by decide)) (sk hS 44 (by decide) rfl) rfl (by decide) r_20 ?_
      refine q_iconst (0) (by decide) ?_
      refine q_aload rfl ?_
      refine q_getRs (c0 := 4) (j := 0) rfl rfl (zl hS 44 (by decide)) (sk hS 44 (by decide) rfl) rfl (by decide) (r_44_0 hS) ?_
      refine q_getI (c0 := 6) (j := 18) rfl rfl (zl hS 26 (by decide)) (sk hS 26 (by decide) rfl) (Or.inl rfl) (by decide) ?_
      obtain ⟨⟨⟨z_31, k_31, m_31⟩, u_31, v_31⟩, h⟩ := ite_some h
      refine q_iasN 0 rfl z_31 (fst_eq k_31) v_31 m_31 ?_
      obtain ⟨I_31, nI_31, h⟩ := stI_some h
      refine q_nI nI_31 ?_
      refine q_aload rfl ?_
      obtain ⟨b_33, r_33, h⟩ := Option.bind_eq_some_iff.mp h
      refine q_getRs (c0 := 4) (j := 5) rfl rfl (zl hS 44 (by decide)) (sk hS 44 (by decide) rfl) rfl (by decide) r_33 ?_
      refine q_iconst (0) (by decide) ?_
      refine q_iconst (0) (by decide) ?_
      obtain ⟨⟨⟨z_38, k_38, m_38⟩, u_38, v_38⟩, h⟩ := ite_some h
      refine q_iasN 0 rfl z_38 (fst_eq k_38) v_38 m_38 ?_
      obtain ⟨I_38, nI_38, h⟩ := stI_some h
      refine q_nI nI_38 ?_
      refine q_aload rfl ?_
      obtain ⟨b_40, r_40, h⟩ := Option.bind_eq_some_iff.mp h
      refine q_getRs (c0 := 4) (j := 6) rfl rfl (zl hS 44 (by decide)) (sk hS 44 (by decide) rfl) rfl (by decide) r_40 ?_
      refine q_iconst (0) (by decide) ?_
      refine q_iconst (1) (by decide) ?_
      obtain ⟨⟨⟨z_45, k_45, m_45⟩, u_45, v_45⟩, h⟩ := ite_some h
      refine q_iasN 0 rfl z_45 (fst_eq k_45) v_45 m_45 ?_
      obtain ⟨I_45, nI_45, h⟩ := stI_some h
      refine q_nI nI_45 ?_
      refine q_aload rfl ?_
      obtain ⟨b_47, r_47, h⟩ := Option.bind_eq_some_iff.mp h
      refine q_getRs (c0 := 4) (j := 7) rfl rfl (zl hS 44 (by decide)) (sk hS 44 (by decide) rfl) rfl (by decide) r_47 ?_
      obtain ⟨⟨z_50, k_50⟩, h⟩ := ite_some h
      refine q_alen z_50 (fst_eq k_50) (by decide) (by decide) ?_
      refine q_aload rfl ?_
      refine q_getRs (c0 := 4) (j := 0) rfl rfl (zl hS 44 (by decide)) (sk hS 44 (by decide) rfl) rfl (by decide) (r_44_0 hS) ?_
      refine q_getI (c0 := 6) (j := 19) rfl rfl (zl hS 26 (by decide)) (sk hS 26 (by decide) rfl) (Or.inl rfl) (by decide) ?_
      refine q_icmp_ge (fun c_58 => ?_) (fun c_58 => ?_)
      · rw [if_pos c_58] at h
        refine K_of b_103_84 h_103_84 ?_
        cases h
        exact q_vret rfl (by omega) (by omega) rfl
      · rw [if_neg c_58] at h
        refine q_aload rfl ?_
        refine q_aload rfl ?_
        refine q_getRs (c0 := 4) (j := 0) rfl rfl (zl hS 44 (by decide)) (sk hS 44 (by decide) rfl) rfl (by decide) (r_44_0 hS) ?_
        refine q_getI (c0 := 6) (j := 19) rfl rfl (zl hS 26 (by decide)) (sk hS 26 (by decide) rfl) (Or.inl rfl) (by decide) ?_
        refine q_iconst (2) (by decide) ?_
        refine q_aload rfl ?_
        obtain ⟨b_71, r_71, h⟩ := Option.bind_eq_some_iff.mp h
        refine q_getRs (c0 := 4) (j := 7) rfl rfl (zl hS 44 (by decide)) (sk hS 44 (by decide) rfl) rfl (by decide) r_71 ?_
        obtain ⟨⟨z_74, k_74⟩, h⟩ := ite_some h
        refine q_alen z_74 (fst_eq k_74) (by decide) (by decide) ?_
        refine q_imul ?_
        obtain ⟨d_76, h⟩ := ite_some h
        refine q_max (Nat.le_of_ble_eq_true rfl) (Nat.le_trans d_76 hdp) (by omega) (by omega) ?_
        obtain ⟨⟨n1_79, n2_79⟩, h⟩ := ite_some h
        obtain ⟨mk_79, ms_79, h, ek_79, em_79⟩ := adk_some h
        refine q_newa (m0 := (Int32.toNatClampNeg (if (I_45 26 19) < ((2 : Int32) * (nI (kd b_71).2)) then ((2 : Int32) * (nI (kd b_71).2)) else (I_45 26 19)))) (by decide) n1_79 rfl n2_79 (by omega) (by omega) ?_
        obtain ⟨z_79, nz_79, h⟩ := stI_some h
        obtain ⟨kd_79, nkd_79, h⟩ := stI_some h
        obtain ⟨I_79, nI_79, h⟩ := stI_some h
        obtain ⟨L_79, nL_79, h⟩ := stI_some h
        obtain ⟨R_79, nR_79, h⟩ := stI_some h
        refine q_n5 nz_79 nkd_79 nI_79 nL_79 nR_79 ?_
        have hS_79 : Sh z_79 kd_79 R_79 := by rw [nz_79, nkd_79, nR_79]; exact Sh_alo hS
        refine q_putR (c0 := 4) (j := 7) rfl rfl (zl hS_79 44 (by decide)) (sk hS_79 44 (by decide) rfl) rfl ?_
        obtain ⟨R_81, nR_81, h⟩ := stI_some h
        refine q_nR nR_81 ?_
        have hS_81 : Sh z_79 kd_79 R_81 := by rw [nR_81]; exact Sh_put hS_79 (by decide)
        refine q_end ?_
        refine K_of b_103_84 h_103_84 ?_
        cases h
        exact q_vret rfl (by omega) (by omega) rfl
set_option maxHeartbeats 8000000 in
set_option maxRecDepth 100000 in
theorem t_103 : ∀ (n dp : Nat) (z : Nat) (kd : (Nat → Nat × Nat)) (I : (Nat → Nat → Int32)) (L : (Nat → Nat → Int64)) (R : (Nat → Nat → Option Nat)), Sh z kd R → ∀ (z1 : Nat) (kd1 : (Nat → Nat × Nat)) (I1 : (Nat → Nat → Int32)) (L1 : (Nat → Nat → Int64)) (R1 : (Nat → Nat → Option Nat)) (k1 m1 : Nat), (g_103 n dp 0 z kd I L R = some ((z1, kd1, I1, L1, R1), k1, m1) → Sh z1 kd1 R1) := by
  intro n
  induction n with
  | zero => intro dp z kd I L R hS z1 kd1 I1 L1 R1 k1 m1; exact fun h => by cases h
  | succ n ih =>
    intro dp z kd I L R hS z1 kd1 I1 L1 R1 k1 m1
    · intro h
      rw [e_103_0] at h
      obtain ⟨I_2, nI_2, h⟩ := stI_some h
      obtain ⟨I_11, nI_11, h⟩ := stI_some h
      obtain ⟨I_18, nI_18, h⟩ := stI_some h
      obtain ⟨b_20, r_20, h⟩ := Option.bind_eq_some_iff.mp h
      obtain ⟨⟨⟨z_31, k_31, m_31⟩, u_31, v_31⟩, h⟩ := ite_some h
      obtain ⟨I_31, nI_31, h⟩ := stI_some h
      obtain ⟨b_33, r_33, h⟩ := Option.bind_eq_some_iff.mp h
      obtain ⟨⟨⟨z_38, k_38, m_38⟩, u_38, v_38⟩, h⟩ := ite_some h
      obtain ⟨I_38, nI_38, h⟩ := stI_some h
      obtain ⟨b_40, r_40, h⟩ := Option.bind_eq_some_iff.mp h
      obtain ⟨⟨⟨z_45, k_45, m_45⟩, u_45, v_45⟩, h⟩ := ite_some h
      obtain ⟨I_45, nI_45, h⟩ := stI_some h
      obtain ⟨b_47, r_47, h⟩ := Option.bind_eq_some_iff.mp h
      obtain ⟨⟨z_50, k_50⟩, h⟩ := ite_some h
      by_cases c_58 : (I_45 26 19) ≤ (nI (kd b_47).2)
      · rw [if_pos c_58] at h
        cases h
        exact hS
      · rw [if_neg c_58] at h
        obtain ⟨b_71, r_71, h⟩ := Option.bind_eq_some_iff.mp h
        obtain ⟨⟨z_74, k_74⟩, h⟩ := ite_some h
        obtain ⟨d_76, h⟩ := ite_some h
        obtain ⟨⟨n1_79, n2_79⟩, h⟩ := ite_some h
        obtain ⟨mk_79, ms_79, h, ek_79, em_79⟩ := adk_some h
        obtain ⟨z_79, nz_79, h⟩ := stI_some h
        obtain ⟨kd_79, nkd_79, h⟩ := stI_some h
        obtain ⟨I_79, nI_79, h⟩ := stI_some h
        obtain ⟨L_79, nL_79, h⟩ := stI_some h
        obtain ⟨R_79, nR_79, h⟩ := stI_some h
        have hS_79 : Sh z_79 kd_79 R_79 := by rw [nz_79, nkd_79, nR_79]; exact Sh_alo hS
        obtain ⟨R_81, nR_81, h⟩ := stI_some h
        have hS_81 : Sh z_79 kd_79 R_81 := by rw [nR_81]; exact Sh_put hS_79 (by decide)
        cases h
        exact hS_81
theorem a_103 (X : GX) {z : Nat} {kd : (Nat → Nat × Nat)} {I : (Nat → Nat → Int32)} {L : (Nat → Nat → Int64)} {R : (Nat → Nat → Option Nat)} (hS : Sh z kd R) {n dp d : Nat} (hd : dp ≤ d) {z1 : Nat} {kd1 : (Nat → Nat × Nat)} {I1 : (Nat → Nat → Int32)} {L1 : (Nat → Nat → Int64)} {R1 : (Nat → Nat → Option Nat)} {k1 m1 : Nat} (h : g_103 n dp 0 z kd I L R = some ((z1, kd1, I1, L1, R1), k1, m1)) : Ct X d 103 k1 m1 [.ref 44] (z, kd, I, L, R) (AV (fun τ => τ = (z1, kd1, I1, L1, R1))) :=
  Ct_of mu_103 (Nat.le_of_ble_eq_true rfl) ((w_103 X n dp d hd z kd I L R hS _ _ _ _ _ _ _) h k1 m1 0 0 (by omega) (by omega))
theorem s_103 {z : Nat} {kd : (Nat → Nat × Nat)} {I : (Nat → Nat → Int32)} {L : (Nat → Nat → Int64)} {R : (Nat → Nat → Option Nat)} (hS : Sh z kd R) {n dp : Nat} {z1 : Nat} {kd1 : (Nat → Nat × Nat)} {I1 : (Nat → Nat → Int32)} {L1 : (Nat → Nat → Int64)} {R1 : (Nat → Nat → Option Nat)} {k1 m1 : Nat} (h : g_103 n dp 0 z kd I L R = some ((z1, kd1, I1, L1, R1), k1, m1)) : Sh z1 kd1 R1 := (t_103 n dp z kd I L R hS _ _ _ _ _ _ _) h

/-! 108 CutFloor$Layers.grow()V -/
set_option maxHeartbeats 4000000 in
set_option maxRecDepth 100000 in
def g_108 : Nat → Nat → Nat → Nat → (Nat → Nat × Nat) → (Nat → Nat → Int32) → (Nat → Nat → Int64) → (Nat → Nat → Option Nat) →  Option ((PS) × Nat × Nat)
  | 0, _, _, _, _, _, _, _ => none
  | n + 1, dp, lab, z, kd, I, L, R =>
    if lab = 0 then ((R 44 4).bind (fun b_1 => (if b_1 < z ∧ (kd b_1).1 = 13 then (stI ((nI (kd b_1).2) * (2 : Int32)) (fun v_7 => ((R 44 4).bind (fun b_10 => (if 1 ≤ dp then (g_109 n (dp - 1) 0 z kd I L R v_7 b_10).bind (fun ⟨⟨x_14, z_14, kd_14, I_14, L_14, R_14⟩, ck_14, cm_14⟩ => (adk ck_14 cm_14 (stI (u2 R_14 44 4 (some x_14)) (fun R_17 => ((R_17 44 5).bind (fun b_22 => (if 1 ≤ dp then (g_109 n (dp - 1) 0 z_14 kd_14 I_14 L_14 R_17 v_7 b_22).bind (fun ⟨⟨x_26, z_26, kd_26, I_26, L_26, R_26⟩, ck_26, cm_26⟩ => (adk ck_26 cm_26 (stI (u2 R_26 44 5 (some x_26)) (fun R_29 => ((R_29 44 6).bind (fun b_34 => (if 1 ≤ dp then (g_109 n (dp - 1) 0 z_26 kd_26 I_26 L_26 R_29 v_7 b_34).bind (fun ⟨⟨x_38, z_38, kd_38, I_38, L_38, R_38⟩, ck_38, cm_38⟩ => (adk ck_38 cm_38 (stI (u2 R_38 44 6 (some x_38)) (fun R_41 => (some ((z_38, kd_38, I_38, L_38, R_41), 0, 0)))))) else none))))))) else none))))))) else none))))) else none)))
    else none
set_option maxRecDepth 100000 in
theorem e_108_0 (n dp : Nat) (z : Nat) (kd : (Nat → Nat × Nat)) (I : (Nat → Nat → Int32)) (L : (Nat → Nat → Int64)) (R : (Nat → Nat → Option Nat)) : g_108 (n + 1) dp 0 z kd I L R = ((R 44 4).bind (fun b_1 => (if b_1 < z ∧ (kd b_1).1 = 13 then (stI ((nI (kd b_1).2) * (2 : Int32)) (fun v_7 => ((R 44 4).bind (fun b_10 => (if 1 ≤ dp then (g_109 n (dp - 1) 0 z kd I L R v_7 b_10).bind (fun ⟨⟨x_14, z_14, kd_14, I_14, L_14, R_14⟩, ck_14, cm_14⟩ => (adk ck_14 cm_14 (stI (u2 R_14 44 4 (some x_14)) (fun R_17 => ((R_17 44 5).bind (fun b_22 => (if 1 ≤ dp then (g_109 n (dp - 1) 0 z_14 kd_14 I_14 L_14 R_17 v_7 b_22).bind (fun ⟨⟨x_26, z_26, kd_26, I_26, L_26, R_26⟩, ck_26, cm_26⟩ => (adk ck_26 cm_26 (stI (u2 R_26 44 5 (some x_26)) (fun R_29 => ((R_29 44 6).bind (fun b_34 => (if 1 ≤ dp then (g_109 n (dp - 1) 0 z_26 kd_26 I_26 L_26 R_29 v_7 b_34).bind (fun ⟨⟨x_38, z_38, kd_38, I_38, L_38, R_38⟩, ck_38, cm_38⟩ => (adk ck_38 cm_38 (stI (u2 R_38 44 6 (some x_38)) (fun R_41 => (some ((z_38, kd_38, I_38, L_38, R_41), 0, 0)))))) else none))))))) else none))))))) else none))))) else none))) := by rw [g_108.eq_2, if_pos (show (0 : Nat) = 0 from rfl)]
set_option maxHeartbeats 8000000 in
set_option maxRecDepth 100000 in
theorem w_108 (X : GX) : ∀ (n dp d : Nat), dp ≤ d → ∀ (z : Nat) (kd : (Nat → Nat × Nat)) (I : (Nat → Nat → Int32)) (L : (Nat → Nat → Int64)) (R : (Nat → Nat → Option Nat)), Sh z kd R → ∀ (z1 : Nat) (kd1 : (Nat → Nat × Nat)) (I1 : (Nat → Nat → Int32)) (L1 : (Nat → Nat → Int64)) (R1 : (Nat → Nat → Option Nat)) (k1 m1 : Nat), (g_108 n dp 0 z kd I L R = some ((z1, kd1, I1, L1, R1), k1, m1) → ∀ MC MS k m : Nat, k + k1 ≤ MC → m + m1 ≤ MS → K X d 108 MC MS (AV (fun τ => τ = (z1, kd1, I1, L1, R1))) 0 [some (.ref 44), none] [] (z, kd, I, L, R) k m) := by
  intro n
  induction n with
  | zero => intro dp d hdp z kd I L R hS  z1 kd1 I1 L1 R1 k1 m1; exact fun h => by cases h
  | succ n ih =>
    intro dp d hdp z kd I L R hS  z1 kd1 I1 L1 R1 k1 m1
    · intro h MC MS k m hMC hMS
      rw [e_108_0] at h
      refine K_of b_108_0 h_108_0 ?_
      refine q_aload rfl ?_
      obtain ⟨b_1, r_1, h⟩ := Option.bind_eq_some_iff.mp h
      refine q_getRs (c0 := 4) (j := 4) rfl rfl (zl hS 44 (by decide)) (sk hS 44 (by decide) rfl) rfl (by decide) r_1 ?_
      obtain ⟨⟨z_4, k_4⟩, h⟩ := ite_some h
      refine q_alen z_4 (fst_eq k_4) (by decide) (by decide) ?_
      refine q_iconst (2) (by decide) ?_
      refine q_imul ?_
      obtain ⟨v_7, nv_7, h⟩ := stI_some h
      refine q_eqi nv_7.symm ?_
      refine q_istore (ls1 := [some (.ref 44), some (.int v_7)]) (Nat.le_of_ble_eq_true rfl) rfl ?_
      refine q_aload rfl ?_
      refine q_aload rfl ?_
      obtain ⟨b_10, r_10, h⟩ := Option.bind_eq_some_iff.mp h
      refine q_getRs (c0 := 4) (j := 4) rfl rfl (zl hS 44 (by decide)) (sk hS 44 (by decide) rfl) rfl (by decide) r_10 ?_
      refine q_iload rfl ?_
      obtain ⟨d_14, h⟩ := ite_some h
      obtain ⟨⟨⟨x_14, z_14, kd_14, I_14, L_14, R_14⟩, ck_14, cm_14⟩, e_14, h⟩ := Option.bind_eq_some_iff.mp h
      dsimp only at h
      obtain ⟨mk_14, ms_14, h, ek_14, em_14⟩ := adk_some h
      refine q_gs2A (a_109 X hS (d := d - 1) (by omega) e_14) (by omega) (by omega) (by omega) rfl (Nat.le_of_ble_eq_true rfl) ?_
      have hS_14 := s_109 hS e_14
      refine q_putR (c0 := 4) (j := 4) rfl rfl (zl hS_14 44 (by decide)) (sk hS_14 44 (by decide) rfl) rfl ?_
      obtain ⟨R_17, nR_17, h⟩ := stI_some h
      refine q_nR nR_17 ?_
      have hS_17 : Sh z_14 kd_14 R_17 := by rw [nR_17]; exact Sh_put hS_14 (by decide)
      refine q_aload rfl ?_
      refine q_aload rfl ?_
      obtain ⟨b_22, r_22, h⟩ := Option.bind_eq_some_iff.mp h
      refine q_getRs (c0 := 4) (j := 5) rfl rfl (zl hS_17 44 (by decide)) (sk hS_17 44 (by decide) rfl) rfl (by decide) r_22 ?_
      refine q_iload rfl ?_
      obtain ⟨d_26, h⟩ := ite_some h
      obtain ⟨⟨⟨x_26, z_26, kd_26, I_26, L_26, R_26⟩, ck_26, cm_26⟩, e_26, h⟩ := Option.bind_eq_some_iff.mp h
      dsimp only at h
      obtain ⟨mk_26, ms_26, h, ek_26, em_26⟩ := adk_some h
      refine q_gs2A (a_109 X hS_17 (d := d - 1) (by omega) e_26) (by omega) (by omega) (by omega) rfl (Nat.le_of_ble_eq_true rfl) ?_
      have hS_26 := s_109 hS_17 e_26
      refine q_putR (c0 := 4) (j := 5) rfl rfl (zl hS_26 44 (by decide)) (sk hS_26 44 (by decide) rfl) rfl ?_
      obtain ⟨R_29, nR_29, h⟩ := stI_some h
      refine q_nR nR_29 ?_
      have hS_29 : Sh z_26 kd_26 R_29 := by rw [nR_29]; exact Sh_put hS_26 (by decide)
      refine q_aload rfl ?_
      refine q_aload rfl ?_
      obtain ⟨b_34, r_34, h⟩ := Option.bind_eq_some_iff.mp h
      refine q_getRs (c0 := 4) (j := 6) rfl rfl (zl hS_29 44 (by decide)) (sk hS_29 44 (by decide) rfl) rfl (by decide) r_34 ?_
      refine q_iload rfl ?_
      obtain ⟨d_38, h⟩ := ite_some h
      obtain ⟨⟨⟨x_38, z_38, kd_38, I_38, L_38, R_38⟩, ck_38, cm_38⟩, e_38, h⟩ := Option.bind_eq_some_iff.mp h
      dsimp only at h
      obtain ⟨mk_38, ms_38, h, ek_38, em_38⟩ := adk_some h
      refine q_gs2A (a_109 X hS_29 (d := d - 1) (by omega) e_38) (by omega) (by omega) (by omega) rfl (Nat.le_of_ble_eq_true rfl) ?_
      have hS_38 := s_109 hS_29 e_38
      refine q_putR (c0 := 4) (j := 6) rfl rfl (zl hS_38 44 (by decide)) (sk hS_38 44 (by decide) rfl) rfl ?_
      obtain ⟨R_41, nR_41, h⟩ := stI_some h
      refine q_nR nR_41 ?_
      have hS_41 : Sh z_38 kd_38 R_41 := by rw [nR_41]; exact Sh_put hS_38 (by decide)
      cases h
      exact q_vret rfl (by omega) (by omega) rfl
set_option maxHeartbeats 8000000 in
set_option maxRecDepth 100000 in
theorem t_108 : ∀ (n dp : Nat) (z : Nat) (kd : (Nat → Nat × Nat)) (I : (Nat → Nat → Int32)) (L : (Nat → Nat → Int64)) (R : (Nat → Nat → Option Nat)), Sh z kd R → ∀ (z1 : Nat) (kd1 : (Nat → Nat × Nat)) (I1 : (Nat → Nat → Int32)) (L1 : (Nat → Nat → Int64)) (R1 : (Nat → Nat → Option Nat)) (k1 m1 : Nat), (g_108 n dp 0 z kd I L R = some ((z1, kd1, I1, L1, R1), k1, m1) → Sh z1 kd1 R1) := by
  intro n
  induction n with
  | zero => intro dp z kd I L R hS z1 kd1 I1 L1 R1 k1 m1; exact fun h => by cases h
  | succ n ih =>
    intro dp z kd I L R hS z1 kd1 I1 L1 R1 k1 m1
    · intro h
      rw [e_108_0] at h
      obtain ⟨b_1, r_1, h⟩ := Option.bind_eq_some_iff.mp h
      obtain ⟨⟨z_4, k_4⟩, h⟩ := ite_some h
      obtain ⟨v_7, nv_7, h⟩ := stI_some h
      obtain ⟨b_10, r_10, h⟩ := Option.bind_eq_some_iff.mp h
      obtain ⟨d_14, h⟩ := ite_some h
      obtain ⟨⟨⟨x_14, z_14, kd_14, I_14, L_14, R_14⟩, ck_14, cm_14⟩, e_14, h⟩ := Option.bind_eq_some_iff.mp h
      dsimp only at h
      obtain ⟨mk_14, ms_14, h, ek_14, em_14⟩ := adk_some h
      have hS_14 := s_109 hS e_14
      obtain ⟨R_17, nR_17, h⟩ := stI_some h
      have hS_17 : Sh z_14 kd_14 R_17 := by rw [nR_17]; exact Sh_put hS_14 (by decide)
      obtain ⟨b_22, r_22, h⟩ := Option.bind_eq_some_iff.mp h
      obtain ⟨d_26, h⟩ := ite_some h
      obtain ⟨⟨⟨x_26, z_26, kd_26, I_26, L_26, R_26⟩, ck_26, cm_26⟩, e_26, h⟩ := Option.bind_eq_some_iff.mp h
      dsimp only at h
      obtain ⟨mk_26, ms_26, h, ek_26, em_26⟩ := adk_some h
      have hS_26 := s_109 hS_17 e_26
      obtain ⟨R_29, nR_29, h⟩ := stI_some h
      have hS_29 : Sh z_26 kd_26 R_29 := by rw [nR_29]; exact Sh_put hS_26 (by decide)
      obtain ⟨b_34, r_34, h⟩ := Option.bind_eq_some_iff.mp h
      obtain ⟨d_38, h⟩ := ite_some h
      obtain ⟨⟨⟨x_38, z_38, kd_38, I_38, L_38, R_38⟩, ck_38, cm_38⟩, e_38, h⟩ := Option.bind_eq_some_iff.mp h
      dsimp only at h
      obtain ⟨mk_38, ms_38, h, ek_38, em_38⟩ := adk_some h
      have hS_38 := s_109 hS_29 e_38
      obtain ⟨R_41, nR_41, h⟩ := stI_some h
      have hS_41 : Sh z_38 kd_38 R_41 := by rw [nR_41]; exact Sh_put hS_38 (by decide)
      cases h
      exact hS_41
theorem a_108 (X : GX) {z : Nat} {kd : (Nat → Nat × Nat)} {I : (Nat → Nat → Int32)} {L : (Nat → Nat → Int64)} {R : (Nat → Nat → Option Nat)} (hS : Sh z kd R) {n dp d : Nat} (hd : dp ≤ d) {z1 : Nat} {kd1 : (Nat → Nat × Nat)} {I1 : (Nat → Nat → Int32)} {L1 : (Nat → Nat → Int64)} {R1 : (Nat → Nat → Option Nat)} {k1 m1 : Nat} (h : g_108 n dp 0 z kd I L R = some ((z1, kd1, I1, L1, R1), k1, m1)) : Ct X d 108 k1 m1 [.ref 44] (z, kd, I, L, R) (AV (fun τ => τ = (z1, kd1, I1, L1, R1))) :=
  Ct_of mu_108 (Nat.le_of_ble_eq_true rfl) ((w_108 X n dp d hd z kd I L R hS _ _ _ _ _ _ _) h k1 m1 0 0 (by omega) (by omega))
theorem s_108 {z : Nat} {kd : (Nat → Nat × Nat)} {I : (Nat → Nat → Int32)} {L : (Nat → Nat → Int64)} {R : (Nat → Nat → Option Nat)} (hS : Sh z kd R) {n dp : Nat} {z1 : Nat} {kd1 : (Nat → Nat × Nat)} {I1 : (Nat → Nat → Int32)} {L1 : (Nat → Nat → Int64)} {R1 : (Nat → Nat → Option Nat)} {k1 m1 : Nat} (h : g_108 n dp 0 z kd I L R = some ((z1, kd1, I1, L1, R1), k1, m1)) : Sh z1 kd1 R1 := (t_108 n dp z kd I L R hS _ _ _ _ _ _ _) h

/-! 107 CutFloor$Layers.step(II)V -/
set_option maxHeartbeats 4000000 in
set_option maxRecDepth 100000 in
def g_107 : Nat → Nat → Nat → Nat → (Nat → Nat × Nat) → (Nat → Nat → Int32) → (Nat → Nat → Int64) → (Nat → Nat → Option Nat) → Int32 → Int32 → Int32 → Int32 → Int32 →  Option ((PS) × Nat × Nat)
  | 0, _, _, _, _, _, _, _, _, _, _, _, _ => none
  | n + 1, dp, lab, z, kd, I, L, R, i1, i2, i3, i4, i5 =>
    if lab = 0 then (if (I 44 3) < (8 : Int32) then (if 0 ≤ ((I 44 3) + (1 : Int32)) ∧ (Int32.toNatClampNeg ((I 44 3) + (1 : Int32))) < 10 then (stI (I 45 (Int32.toNatClampNeg ((I 44 3) + (1 : Int32)))) (fun v_21 => (if 0 ≤ (I 44 3) ∧ (Int32.toNatClampNeg (I 44 3)) < 10 then (stI (I 45 (Int32.toNatClampNeg (I 44 3))) (fun v_34 => (g_107 n dp 1 z kd I L R i1 i2 v_21 v_21 v_34))) else none))) else none) else (some ((z, kd, I, L, R), 0, 0)))
    else if lab = 1 then (if i3 ≤ i5 then (g_107 n dp 3 z kd I L R i1 i2 i3 i4 i3) else ((R 44 4).bind (fun b_43 => (if b_43 < z ∧ (kd b_43).1 = 13 then (if (64 : Int32) ≤ ((nI (kd b_43).2) - i4) then (g_107 n dp 2 z kd I L R i1 i2 i3 i4 i5) else (if 1 ≤ dp then (g_108 n (dp - 1) 0 z kd I L R).bind (fun ⟨⟨z_56, kd_56, I_56, L_56, R_56⟩, ck_56, cm_56⟩ => (adk ck_56 cm_56 (g_107 n dp 2 z_56 kd_56 I_56 L_56 R_56 i1 i2 i3 i4 i5))) else none)) else none))))
    else if lab = 2 then (if 1 ≤ dp then (g_110 n (dp - 1) (z, kd, R) 0 I L i5 i1 i2 i4 0 0 0 0 0 0 0 0 0).bind (fun ⟨x_66, I_66, L_66⟩ => (g_107 n dp 1 z kd I_66 L_66 R i1 i2 i3 x_66 (i5 + Int32.ofInt (1)))) else none)
    else if lab = 3 then (if i4 ≤ i5 then (if 0 ≤ (I 44 3) ∧ (Int32.toNatClampNeg (I 44 3)) < 8 then (stI (u2 I 46 (Int32.toNatClampNeg (I 44 3)) i1) (fun I_122 => (stI (u2 I_122 44 3 ((I_122 44 3) + (1 : Int32))) (fun I_130 => (if 0 ≤ ((I_130 44 3) + (1 : Int32)) ∧ (Int32.toNatClampNeg ((I_130 44 3) + (1 : Int32))) < 10 then (stI (u2 I_130 45 (Int32.toNatClampNeg ((I_130 44 3) + (1 : Int32))) i4) (fun I_145 => (some ((z, kd, I_145, L, R), 0, 0)))) else none))))) else none) else ((R 44 7).bind (fun b_88 => ((R 44 4).bind (fun b_96 => (if (b_96 < z ∧ (kd b_96).1 = 13 ∧ (kd b_96).2 < 2 ^ 31) ∧ 0 ≤ i5 ∧ (Int32.toNatClampNeg i5) < (kd b_96).2 then (if 1 ≤ dp then (g_112 n (dp - 1) (z, kd, R) 0 I L (I b_96 (Int32.toNatClampNeg i5))).bind (fun ⟨x_102, I_102, L_102⟩ => (if (b_88 < z ∧ (kd b_88).1 = 13 ∧ (kd b_88).2 < 2 ^ 31) ∧ 0 ≤ x_102 ∧ (Int32.toNatClampNeg x_102) < (kd b_88).2 then (stI (u2 I_102 b_88 (Int32.toNatClampNeg x_102) (0 : Int32)) (fun I_106 => (g_107 n dp 3 z kd I_106 L_102 R i1 i2 i3 i4 (i5 + Int32.ofInt (1))))) else none)) else none) else none))))))
    else none
set_option maxRecDepth 100000 in
theorem e_107_0 (n dp : Nat) (z : Nat) (kd : (Nat → Nat × Nat)) (I : (Nat → Nat → Int32)) (L : (Nat → Nat → Int64)) (R : (Nat → Nat → Option Nat)) (i1 : Int32) (i2 : Int32) (i3 : Int32) (i4 : Int32) (i5 : Int32) : g_107 (n + 1) dp 0 z kd I L R i1 i2 i3 i4 i5 = (if (I 44 3) < (8 : Int32) then (if 0 ≤ ((I 44 3) + (1 : Int32)) ∧ (Int32.toNatClampNeg ((I 44 3) + (1 : Int32))) < 10 then (stI (I 45 (Int32.toNatClampNeg ((I 44 3) + (1 : Int32)))) (fun v_21 => (if 0 ≤ (I 44 3) ∧ (Int32.toNatClampNeg (I 44 3)) < 10 then (stI (I 45 (Int32.toNatClampNeg (I 44 3))) (fun v_34 => (g_107 n dp 1 z kd I L R i1 i2 v_21 v_21 v_34))) else none))) else none) else (some ((z, kd, I, L, R), 0, 0))) := by rw [g_107.eq_2, if_pos (show (0 : Nat) = 0 from rfl)]
set_option maxRecDepth 100000 in
theorem e_107_1 (n dp : Nat) (z : Nat) (kd : (Nat → Nat × Nat)) (I : (Nat → Nat → Int32)) (L : (Nat → Nat → Int64)) (R : (Nat → Nat → Option Nat)) (i1 : Int32) (i2 : Int32) (i3 : Int32) (i4 : Int32) (i5 : Int32) : g_107 (n + 1) dp 1 z kd I L R i1 i2 i3 i4 i5 = (if i3 ≤ i5 then (g_107 n dp 3 z kd I L R i1 i2 i3 i4 i3) else ((R 44 4).bind (fun b_43 => (if b_43 < z ∧ (kd b_43).1 = 13 then (if (64 : Int32) ≤ ((nI (kd b_43).2) - i4) then (g_107 n dp 2 z kd I L R i1 i2 i3 i4 i5) else (if 1 ≤ dp then (g_108 n (dp - 1) 0 z kd I L R).bind (fun ⟨⟨z_56, kd_56, I_56, L_56, R_56⟩, ck_56, cm_56⟩ => (adk ck_56 cm_56 (g_107 n dp 2 z_56 kd_56 I_56 L_56 R_56 i1 i2 i3 i4 i5))) else none)) else none)))) := by rw [g_107.eq_2, if_neg (show ¬ ((1 : Nat) = 0) by decide), if_pos (show (1 : Nat) = 1 from rfl)]
set_option maxRecDepth 100000 in
theorem e_107_2 (n dp : Nat) (z : Nat) (kd : (Nat → Nat × Nat)) (I : (Nat → Nat → Int32)) (L : (Nat → Nat → Int64)) (R : (Nat → Nat → Option Nat)) (i1 : Int32) (i2 : Int32) (i3 : Int32) (i4 : Int32) (i5 : Int32) : g_107 (n + 1) dp 2 z kd I L R i1 i2 i3 i4 i5 = (if 1 ≤ dp then (g_110 n (dp - 1) (z, kd, R) 0 I L i5 i1 i2 i4 0 0 0 0 0 0 0 0 0).bind (fun ⟨x_66, I_66, L_66⟩ => (g_107 n dp 1 z kd I_66 L_66 R i1 i2 i3 x_66 (i5 + Int32.ofInt (1)))) else none) := by rw [g_107.eq_2, if_neg (show ¬ ((2 : Nat) = 0) by decide), if_neg (show ¬ ((2 : Nat) = 1) by decide), if_pos (show (2 : Nat) = 2 from rfl)]
set_option maxRecDepth 100000 in
theorem e_107_3 (n dp : Nat) (z : Nat) (kd : (Nat → Nat × Nat)) (I : (Nat → Nat → Int32)) (L : (Nat → Nat → Int64)) (R : (Nat → Nat → Option Nat)) (i1 : Int32) (i2 : Int32) (i3 : Int32) (i4 : Int32) (i5 : Int32) : g_107 (n + 1) dp 3 z kd I L R i1 i2 i3 i4 i5 = (if i4 ≤ i5 then (if 0 ≤ (I 44 3) ∧ (Int32.toNatClampNeg (I 44 3)) < 8 then (stI (u2 I 46 (Int32.toNatClampNeg (I 44 3)) i1) (fun I_122 => (stI (u2 I_122 44 3 ((I_122 44 3) + (1 : Int32))) (fun I_130 => (if 0 ≤ ((I_130 44 3) + (1 : Int32)) ∧ (Int32.toNatClampNeg ((I_130 44 3) + (1 : Int32))) < 10 then (stI (u2 I_130 45 (Int32.toNatClampNeg ((I_130 44 3) + (1 : Int32))) i4) (fun I_145 => (some ((z, kd, I_145, L, R), 0, 0)))) else none))))) else none) else ((R 44 7).bind (fun b_88 => ((R 44 4).bind (fun b_96 => (if (b_96 < z ∧ (kd b_96).1 = 13 ∧ (kd b_96).2 < 2 ^ 31) ∧ 0 ≤ i5 ∧ (Int32.toNatClampNeg i5) < (kd b_96).2 then (if 1 ≤ dp then (g_112 n (dp - 1) (z, kd, R) 0 I L (I b_96 (Int32.toNatClampNeg i5))).bind (fun ⟨x_102, I_102, L_102⟩ => (if (b_88 < z ∧ (kd b_88).1 = 13 ∧ (kd b_88).2 < 2 ^ 31) ∧ 0 ≤ x_102 ∧ (Int32.toNatClampNeg x_102) < (kd b_88).2 then (stI (u2 I_102 b_88 (Int32.toNatClampNeg x_102) (0 : Int32)) (fun I_106 => (g_107 n dp 3 z kd I_106 L_102 R i1 i2 i3 i4 (i5 + Int32.ofInt (1))))) else none)) else none) else none)))))) := by rw [g_107.eq_2, if_neg (show ¬ ((3 : Nat) = 0) by decide), if_neg (show ¬ ((3 : Nat) = 1) by decide), if_neg (show ¬ ((3 : Nat) = 2) by decide), if_pos (show (3 : Nat) = 3 from rfl)]
set_option maxHeartbeats 8000000 in
set_option maxRecDepth 100000 in
theorem w_107 (X : GX) : ∀ (n dp d : Nat), dp ≤ d → ∀ (z : Nat) (kd : (Nat → Nat × Nat)) (I : (Nat → Nat → Int32)) (L : (Nat → Nat → Int64)) (R : (Nat → Nat → Option Nat)), Sh z kd R → ∀ (i1 : Int32) (i2 : Int32) (i3 : Int32) (i4 : Int32) (i5 : Int32) (z1 : Nat) (kd1 : (Nat → Nat × Nat)) (I1 : (Nat → Nat → Int32)) (L1 : (Nat → Nat → Int64)) (R1 : (Nat → Nat → Option Nat)) (k1 m1 : Nat), (g_107 n dp 0 z kd I L R i1 i2 i3 i4 i5 = some ((z1, kd1, I1, L1, R1), k1, m1) → ∀ MC MS k m : Nat, k + k1 ≤ MC → m + m1 ≤ MS → K X d 107 MC MS (AV (fun τ => τ = (z1, kd1, I1, L1, R1))) 0 [some (.ref 44), some (.int i1), some (.int i2), none, none, none] [] (z, kd, I, L, R) k m) ∧
    (g_107 n dp 1 z kd I L R i1 i2 i3 i4 i5 = some ((z1, kd1, I1, L1, R1), k1, m1) → ∀ MC MS k m : Nat, k + k1 ≤ MC → m + m1 ≤ MS → K X d 107 MC MS (AV (fun τ => τ = (z1, kd1, I1, L1, R1))) 36 [some (.ref 44), some (.int i1), some (.int i2), some (.int i3), some (.int i4), some (.int i5)] [] (z, kd, I, L, R) k m) ∧
    (g_107 n dp 2 z kd I L R i1 i2 i3 i4 i5 = some ((z1, kd1, I1, L1, R1), k1, m1) → ∀ MC MS k m : Nat, k + k1 ≤ MC → m + m1 ≤ MS → K X d 107 MC MS (AV (fun τ => τ = (z1, kd1, I1, L1, R1))) 59 [some (.ref 44), some (.int i1), some (.int i2), some (.int i3), some (.int i4), some (.int i5)] [] (z, kd, I, L, R) k m) ∧
    (g_107 n dp 3 z kd I L R i1 i2 i3 i4 i5 = some ((z1, kd1, I1, L1, R1), k1, m1) → ∀ MC MS k m : Nat, k + k1 ≤ MC → m + m1 ≤ MS → K X d 107 MC MS (AV (fun τ => τ = (z1, kd1, I1, L1, R1))) 80 [some (.ref 44), some (.int i1), some (.int i2), some (.int i3), some (.int i4), some (.int i5)] [] (z, kd, I, L, R) k m) := by
  intro n
  induction n with
  | zero => intro dp d hdp z kd I L R hS  i1 i2 i3 i4 i5 z1 kd1 I1 L1 R1 k1 m1; exact ⟨(fun h => by cases h), (fun h => by cases h), (fun h => by cases h), (fun h => by cases h)⟩
  | succ n ih =>
    intro dp d hdp z kd I L R hS  i1 i2 i3 i4 i5 z1 kd1 I1 L1 R1 k1 m1
    refine ⟨?_, ?_, ?_, ?_⟩
    · intro h MC MS k m hMC hMS
      rw [e_107_0] at h
      refine K_of b_107_0 h_107_0 ?_
      refine q_aload rfl ?_
      refine q_getI (c0 := 4) (j := 3) rfl rfl (zl hS 44 (by decide)) (sk hS 44 (by decide) rfl) (Or.inl rfl) (by decide) ?_
      refine q_iconst (8) (by decide) ?_
      refine q_icmp_lt (fun c_6 => ?_) (fun c_6 => ?_)
      · rw [if_pos c_6] at h
        refine K_of b_107_10 h_107_10 ?_
        refine q_aload rfl ?_
        refine q_getRs (c0 := 4) (j := 1) rfl rfl (zl hS 44 (by decide)) (sk hS 44 (by decide) rfl) rfl (by decide) (r_44_1 hS) ?_
        refine q_aload rfl ?_
        refine q_getI (c0 := 4) (j := 3) rfl rfl (zl hS 44 (by decide)) (sk hS 44 (by decide) rfl) (Or.inl rfl) (by decide) ?_
        refine q_iconst (1) (by decide) ?_
        refine q_iadd ?_
        obtain ⟨⟨u_20, v_20⟩, h⟩ := ite_some h
        refine q_ialN (Int32.toNatClampNeg ((I 44 3) + (1 : Int32))) (nx u_20) (zl hS 45 (by decide)) (sk hS 45 (by decide) rfl) v_20 (by decide) ?_
        obtain ⟨v_21, nv_21, h⟩ := stI_some h
        refine q_eqi nv_21.symm ?_
        refine q_istore (ls1 := [some (.ref 44), some (.int i1), some (.int i2), some (.int v_21), none, none]) (Nat.le_of_ble_eq_true rfl) rfl ?_
        refine q_iload rfl ?_
        refine q_istore (ls1 := [some (.ref 44), some (.int i1), some (.int i2), some (.int v_21), some (.int v_21), none]) (Nat.le_of_ble_eq_true rfl) rfl ?_
        refine q_aload rfl ?_
        refine q_getRs (c0 := 4) (j := 1) rfl rfl (zl hS 44 (by decide)) (sk hS 44 (by decide) rfl) rfl (by decide) (r_44_1 hS) ?_
        refine q_aload rfl ?_
        refine q_getI (c0 := 4) (j := 3) rfl rfl (zl hS 44 (by decide)) (sk hS 44 (by decide) rfl) (Or.inl rfl) (by decide) ?_
        obtain ⟨⟨u_33, v_33⟩, h⟩ := ite_some h
        refine q_ialN (Int32.toNatClampNeg (I 44 3)) (nx u_33) (zl hS 45 (by decide)) (sk hS 45 (by decide) rfl) v_33 (by decide) ?_
        obtain ⟨v_34, nv_34, h⟩ := stI_some h
        refine q_eqi nv_34.symm ?_
        refine q_istore (ls1 := [some (.ref 44), some (.int i1), some (.int i2), some (.int v_21), some (.int v_21), some (.int v_34)]) (Nat.le_of_ble_eq_true rfl) rfl ?_
        refine q_end ?_
        exact (ih dp d hdp _ _ _ _ _ hS i1 i2 v_21 v_21 v_34 _ _ _ _ _ _ _).2.1 h MC MS _ _ (by omega) (by omega)
      · rw [if_neg c_6] at h
        cases h
        exact q_vret rfl (by omega) (by omega) rfl
    · intro h MC MS k m hMC hMS
      rw [e_107_1] at h
      refine K_of b_107_36 h_107_36 ?_
      refine q_iload rfl ?_
      refine q_iload rfl ?_
      refine q_icmp_ge (fun c_39 => ?_) (fun c_39 => ?_)
      · rw [if_pos c_39] at h
        refine K_of b_107_77 h_107_77 ?_
        refine q_iload rfl ?_
        refine q_istore (ls1 := [some (.ref 44), some (.int i1), some (.int i2), some (.int i3), some (.int i4), some (.int i3)]) (Nat.le_of_ble_eq_true rfl) rfl ?_
        refine q_end ?_
        exact (ih dp d hdp _ _ _ _ _ hS i1 i2 i3 i4 i3 _ _ _ _ _ _ _).2.2.2 h MC MS _ _ (by omega) (by omega)
      · rw [if_neg c_39] at h
        refine q_aload rfl ?_
        obtain ⟨b_43, r_43, h⟩ := Option.bind_eq_some_iff.mp h
        refine q_getRs (c0 := 4) (j := 4) rfl rfl (zl hS 44 (by decide)) (sk hS 44 (by decide) rfl) rfl (by decide) r_43 ?_
        obtain ⟨⟨z_46, k_46⟩, h⟩ := ite_some h
        refine q_alen z_46 (fst_eq k_46) (by decide) (by decide) ?_
        refine q_iload rfl ?_
        refine q_isub ?_
        refine q_iconst (64) (by decide) ?_
        refine q_icmp_ge (fun c_52 => ?_) (fun c_52 => ?_)
        · rw [if_pos c_52] at h
          exact (ih dp d hdp _ _ _ _ _ hS i1 i2 i3 i4 i5 _ _ _ _ _ _ _).2.2.1 h MC MS _ _ (by omega) (by omega)
        · rw [if_neg c_52] at h
          refine q_aload rfl ?_
          obtain ⟨d_56, h⟩ := ite_some h
          obtain ⟨⟨⟨z_56, kd_56, I_56, L_56, R_56⟩, ck_56, cm_56⟩, e_56, h⟩ := Option.bind_eq_some_iff.mp h
          dsimp only at h
          obtain ⟨mk_56, ms_56, h, ek_56, em_56⟩ := adk_some h
          refine q_gv1V (a_108 X hS (d := d - 1) (by omega) e_56) (by omega) (by omega) (by omega) rfl (Nat.le_of_ble_eq_true rfl) ⟨(zl hS 44 (by decide)), congrArg Prod.fst (sk hS 44 (by decide) rfl), by decide⟩ ?_
          have hS_56 := s_108 hS e_56
          refine q_end ?_
          exact (ih dp d hdp _ _ _ _ _ hS_56 i1 i2 i3 i4 i5 _ _ _ _ _ _ _).2.2.1 h MC MS _ _ (by omega) (by omega)
    · intro h MC MS k m hMC hMS
      rw [e_107_2] at h
      refine K_of b_107_59 h_107_59 ?_
      refine q_aload rfl ?_
      refine q_iload rfl ?_
      refine q_iload rfl ?_
      refine q_iload rfl ?_
      refine q_iload rfl ?_
      obtain ⟨d_66, h⟩ := ite_some h
      obtain ⟨⟨x_66, I_66, L_66⟩, e_66, h⟩ := Option.bind_eq_some_iff.mp h
      dsimp only at h
      refine q_fv5I (a_110 X hS (d := d - 1) (by omega) e_66) (by omega) (by omega) (by omega) rfl (Nat.le_of_ble_eq_true rfl) ⟨(zl hS 44 (by decide)), congrArg Prod.fst (sk hS 44 (by decide) rfl), by decide⟩ ?_
      refine q_istore (ls1 := [some (.ref 44), some (.int i1), some (.int i2), some (.int i3), some (.int x_66), some (.int i5)]) (Nat.le_of_ble_eq_true rfl) rfl ?_
      refine q_iinc (ls1 := [some (.ref 44), some (.int i1), some (.int i2), some (.int i3), some (.int x_66), some (.int (i5 + Int32.ofInt (1)))]) rfl rfl ?_
      refine q_goto ?_
      exact (ih dp d hdp _ _ _ _ _ hS i1 i2 i3 x_66 (i5 + Int32.ofInt (1)) _ _ _ _ _ _ _).2.1 h MC MS _ _ (by omega) (by omega)
    · intro h MC MS k m hMC hMS
      rw [e_107_3] at h
      refine K_of b_107_80 h_107_80 ?_
      refine q_iload rfl ?_
      refine q_iload rfl ?_
      refine q_icmp_ge (fun c_84 => ?_) (fun c_84 => ?_)
      · rw [if_pos c_84] at h
        refine K_of b_107_113 h_107_113 ?_
        refine q_aload rfl ?_
        refine q_getRs (c0 := 4) (j := 2) rfl rfl (zl hS 44 (by decide)) (sk hS 44 (by decide) rfl) rfl (by decide) (r_44_2 hS) ?_
        refine q_aload rfl ?_
        refine q_getI (c0 := 4) (j := 3) rfl rfl (zl hS 44 (by decide)) (sk hS 44 (by decide) rfl) (Or.inl rfl) (by decide) ?_
        refine q_iload rfl ?_
        obtain ⟨⟨u_122, v_122⟩, h⟩ := ite_some h
        refine q_iasN (Int32.toNatClampNeg (I 44 3)) (nx u_122) (zl hS 46 (by decide)) (sk hS 46 (by decide) rfl) v_122 (by decide) ?_
        obtain ⟨I_122, nI_122, h⟩ := stI_some h
        refine q_nI nI_122 ?_
        refine q_aload rfl ?_
        refine q_dup rfl ?_
        refine q_getI (c0 := 4) (j := 3) rfl rfl (zl hS 44 (by decide)) (sk hS 44 (by decide) rfl) (Or.inl rfl) (by decide) ?_
        refine q_iconst (1) (by decide) ?_
        refine q_iadd ?_
        refine q_putI (c0 := 4) (j := 3) rfl rfl (zl hS 44 (by decide)) (sk hS 44 (by decide) rfl) rfl ?_
        obtain ⟨I_130, nI_130, h⟩ := stI_some h
        refine q_nI nI_130 ?_
        refine q_aload rfl ?_
        refine q_getRs (c0 := 4) (j := 1) rfl rfl (zl hS 44 (by decide)) (sk hS 44 (by decide) rfl) rfl (by decide) (r_44_1 hS) ?_
        refine q_aload rfl ?_
        refine q_getI (c0 := 4) (j := 3) rfl rfl (zl hS 44 (by decide)) (sk hS 44 (by decide) rfl) (Or.inl rfl) (by decide) ?_
        refine q_iconst (1) (by decide) ?_
        refine q_iadd ?_
        refine q_iload rfl ?_
        obtain ⟨⟨u_145, v_145⟩, h⟩ := ite_some h
        refine q_iasN (Int32.toNatClampNeg ((I_130 44 3) + (1 : Int32))) (nx u_145) (zl hS 45 (by decide)) (sk hS 45 (by decide) rfl) v_145 (by decide) ?_
        obtain ⟨I_145, nI_145, h⟩ := stI_some h
        refine q_nI nI_145 ?_
        cases h
        exact q_vret rfl (by omega) (by omega) rfl
      · rw [if_neg c_84] at h
        refine q_aload rfl ?_
        obtain ⟨b_88, r_88, h⟩ := Option.bind_eq_some_iff.mp h
        refine q_getRs (c0 := 4) (j := 7) rfl rfl (zl hS 44 (by decide)) (sk hS 44 (by decide) rfl) rfl (by decide) r_88 ?_
        refine q_aload rfl ?_
        refine q_getRs (c0 := 4) (j := 0) rfl rfl (zl hS 44 (by decide)) (sk hS 44 (by decide) rfl) rfl (by decide) (r_44_0 hS) ?_
        refine q_aload rfl ?_
        obtain ⟨b_96, r_96, h⟩ := Option.bind_eq_some_iff.mp h
        refine q_getRs (c0 := 4) (j := 4) rfl rfl (zl hS 44 (by decide)) (sk hS 44 (by decide) rfl) rfl (by decide) r_96 ?_
        refine q_iload rfl ?_
        obtain ⟨⟨⟨z_101, k_101, m_101⟩, u_101, v_101⟩, h⟩ := ite_some h
        refine q_ialN (Int32.toNatClampNeg i5) (nx u_101) z_101 (fst_eq k_101) v_101 m_101 ?_
        obtain ⟨d_102, h⟩ := ite_some h
        obtain ⟨⟨x_102, I_102, L_102⟩, e_102, h⟩ := Option.bind_eq_some_iff.mp h
        dsimp only at h
        refine q_fv2I (a_112 X hS (d := d - 1) (by omega) e_102) (by omega) (by omega) (by omega) rfl (Nat.le_of_ble_eq_true rfl) ⟨(zl hS 26 (by decide)), congrArg Prod.fst (sk hS 26 (by decide) rfl), by decide⟩ ?_
        refine q_iconst (0) (by decide) ?_
        obtain ⟨⟨⟨z_106, k_106, m_106⟩, u_106, v_106⟩, h⟩ := ite_some h
        refine q_iasN (Int32.toNatClampNeg x_102) (nx u_106) z_106 (fst_eq k_106) v_106 m_106 ?_
        obtain ⟨I_106, nI_106, h⟩ := stI_some h
        refine q_nI nI_106 ?_
        refine q_iinc (ls1 := [some (.ref 44), some (.int i1), some (.int i2), some (.int i3), some (.int i4), some (.int (i5 + Int32.ofInt (1)))]) rfl rfl ?_
        refine q_goto ?_
        exact (ih dp d hdp _ _ _ _ _ hS i1 i2 i3 i4 (i5 + Int32.ofInt (1)) _ _ _ _ _ _ _).2.2.2 h MC MS _ _ (by omega) (by omega)
set_option maxHeartbeats 8000000 in
set_option maxRecDepth 100000 in
theorem t_107 : ∀ (n dp : Nat) (z : Nat) (kd : (Nat → Nat × Nat)) (I : (Nat → Nat → Int32)) (L : (Nat → Nat → Int64)) (R : (Nat → Nat → Option Nat)), Sh z kd R → ∀ (i1 : Int32) (i2 : Int32) (i3 : Int32) (i4 : Int32) (i5 : Int32) (z1 : Nat) (kd1 : (Nat → Nat × Nat)) (I1 : (Nat → Nat → Int32)) (L1 : (Nat → Nat → Int64)) (R1 : (Nat → Nat → Option Nat)) (k1 m1 : Nat), (g_107 n dp 0 z kd I L R i1 i2 i3 i4 i5 = some ((z1, kd1, I1, L1, R1), k1, m1) → Sh z1 kd1 R1) ∧
    (g_107 n dp 1 z kd I L R i1 i2 i3 i4 i5 = some ((z1, kd1, I1, L1, R1), k1, m1) → Sh z1 kd1 R1) ∧
    (g_107 n dp 2 z kd I L R i1 i2 i3 i4 i5 = some ((z1, kd1, I1, L1, R1), k1, m1) → Sh z1 kd1 R1) ∧
    (g_107 n dp 3 z kd I L R i1 i2 i3 i4 i5 = some ((z1, kd1, I1, L1, R1), k1, m1) → Sh z1 kd1 R1) := by
  intro n
  induction n with
  | zero => intro dp z kd I L R hS i1 i2 i3 i4 i5 z1 kd1 I1 L1 R1 k1 m1; exact ⟨(fun h => by cases h), (fun h => by cases h), (fun h => by cases h), (fun h => by cases h)⟩
  | succ n ih =>
    intro dp z kd I L R hS i1 i2 i3 i4 i5 z1 kd1 I1 L1 R1 k1 m1
    refine ⟨?_, ?_, ?_, ?_⟩
    · intro h
      rw [e_107_0] at h
      by_cases c_6 : (I 44 3) < (8 : Int32)
      · rw [if_pos c_6] at h
        obtain ⟨⟨u_20, v_20⟩, h⟩ := ite_some h
        obtain ⟨v_21, nv_21, h⟩ := stI_some h
        obtain ⟨⟨u_33, v_33⟩, h⟩ := ite_some h
        obtain ⟨v_34, nv_34, h⟩ := stI_some h
        exact (ih dp _ _ _ _ _ hS i1 i2 v_21 v_21 v_34 _ _ _ _ _ _ _).2.1 h
      · rw [if_neg c_6] at h
        cases h
        exact hS
    · intro h
      rw [e_107_1] at h
      by_cases c_39 : i3 ≤ i5
      · rw [if_pos c_39] at h
        exact (ih dp _ _ _ _ _ hS i1 i2 i3 i4 i3 _ _ _ _ _ _ _).2.2.2 h
      · rw [if_neg c_39] at h
        obtain ⟨b_43, r_43, h⟩ := Option.bind_eq_some_iff.mp h
        obtain ⟨⟨z_46, k_46⟩, h⟩ := ite_some h
        by_cases c_52 : (64 : Int32) ≤ ((nI (kd b_43).2) - i4)
        · rw [if_pos c_52] at h
          exact (ih dp _ _ _ _ _ hS i1 i2 i3 i4 i5 _ _ _ _ _ _ _).2.2.1 h
        · rw [if_neg c_52] at h
          obtain ⟨d_56, h⟩ := ite_some h
          obtain ⟨⟨⟨z_56, kd_56, I_56, L_56, R_56⟩, ck_56, cm_56⟩, e_56, h⟩ := Option.bind_eq_some_iff.mp h
          dsimp only at h
          obtain ⟨mk_56, ms_56, h, ek_56, em_56⟩ := adk_some h
          have hS_56 := s_108 hS e_56
          exact (ih dp _ _ _ _ _ hS_56 i1 i2 i3 i4 i5 _ _ _ _ _ _ _).2.2.1 h
    · intro h
      rw [e_107_2] at h
      obtain ⟨d_66, h⟩ := ite_some h
      obtain ⟨⟨x_66, I_66, L_66⟩, e_66, h⟩ := Option.bind_eq_some_iff.mp h
      dsimp only at h
      exact (ih dp _ _ _ _ _ hS i1 i2 i3 x_66 (i5 + Int32.ofInt (1)) _ _ _ _ _ _ _).2.1 h
    · intro h
      rw [e_107_3] at h
      by_cases c_84 : i4 ≤ i5
      · rw [if_pos c_84] at h
        obtain ⟨⟨u_122, v_122⟩, h⟩ := ite_some h
        obtain ⟨I_122, nI_122, h⟩ := stI_some h
        obtain ⟨I_130, nI_130, h⟩ := stI_some h
        obtain ⟨⟨u_145, v_145⟩, h⟩ := ite_some h
        obtain ⟨I_145, nI_145, h⟩ := stI_some h
        cases h
        exact hS
      · rw [if_neg c_84] at h
        obtain ⟨b_88, r_88, h⟩ := Option.bind_eq_some_iff.mp h
        obtain ⟨b_96, r_96, h⟩ := Option.bind_eq_some_iff.mp h
        obtain ⟨⟨⟨z_101, k_101, m_101⟩, u_101, v_101⟩, h⟩ := ite_some h
        obtain ⟨d_102, h⟩ := ite_some h
        obtain ⟨⟨x_102, I_102, L_102⟩, e_102, h⟩ := Option.bind_eq_some_iff.mp h
        dsimp only at h
        obtain ⟨⟨⟨z_106, k_106, m_106⟩, u_106, v_106⟩, h⟩ := ite_some h
        obtain ⟨I_106, nI_106, h⟩ := stI_some h
        exact (ih dp _ _ _ _ _ hS i1 i2 i3 i4 (i5 + Int32.ofInt (1)) _ _ _ _ _ _ _).2.2.2 h
theorem a_107 (X : GX) {z : Nat} {kd : (Nat → Nat × Nat)} {I : (Nat → Nat → Int32)} {L : (Nat → Nat → Int64)} {R : (Nat → Nat → Option Nat)} (hS : Sh z kd R) {n dp d : Nat} (hd : dp ≤ d) {i1 : Int32} {i2 : Int32} {z1 : Nat} {kd1 : (Nat → Nat × Nat)} {I1 : (Nat → Nat → Int32)} {L1 : (Nat → Nat → Int64)} {R1 : (Nat → Nat → Option Nat)} {k1 m1 : Nat} (h : g_107 n dp 0 z kd I L R i1 i2 0 0 0 = some ((z1, kd1, I1, L1, R1), k1, m1)) : Ct X d 107 k1 m1 [.ref 44, .int i1, .int i2] (z, kd, I, L, R) (AV (fun τ => τ = (z1, kd1, I1, L1, R1))) :=
  Ct_of mu_107 (Nat.le_of_ble_eq_true rfl) ((w_107 X n dp d hd z kd I L R hS i1 i2 0 0 0 _ _ _ _ _ _ _).1 h k1 m1 0 0 (by omega) (by omega))
theorem s_107 {z : Nat} {kd : (Nat → Nat × Nat)} {I : (Nat → Nat → Int32)} {L : (Nat → Nat → Int64)} {R : (Nat → Nat → Option Nat)} (hS : Sh z kd R) {n dp : Nat} {i1 : Int32} {i2 : Int32} {z1 : Nat} {kd1 : (Nat → Nat × Nat)} {I1 : (Nat → Nat → Int32)} {L1 : (Nat → Nat → Int64)} {R1 : (Nat → Nat → Option Nat)} {k1 m1 : Nat} (h : g_107 n dp 0 z kd I L R i1 i2 0 0 0 = some ((z1, kd1, I1, L1, R1), k1, m1)) : Sh z1 kd1 R1 := (t_107 n dp z kd I L R hS i1 i2 0 0 0 _ _ _ _ _ _ _).1 h

/-! 106 CutFloor$Layers.follow([II)V -/
set_option maxHeartbeats 4000000 in
set_option maxRecDepth 100000 in
def g_106 : Nat → Nat → Nat → Nat → (Nat → Nat × Nat) → (Nat → Nat → Int32) → (Nat → Nat → Int64) → (Nat → Nat → Option Nat) → Int32 → Int32 → Int32 →  Option ((PS) × Nat × Nat)
  | 0, _, _, _, _, _, _, _, _, _, _ => none
  | n + 1, dp, lab, z, kd, I, L, R, i2, i3, i4 =>
    if lab = 0 then (g_106 n dp 1 z kd I L R i2 (0 : Int32) 0)
    else if lab = 1 then (if i2 ≤ i3 then (g_106 n dp 2 z kd I L R i2 i3 0) else (if (I 44 3) ≤ i3 then (g_106 n dp 2 z kd I L R i2 i3 0) else (if 0 ≤ i3 ∧ (Int32.toNatClampNeg i3) < 8 then (if 0 ≤ i3 ∧ (Int32.toNatClampNeg i3) < 8 then (if (I 46 (Int32.toNatClampNeg i3)) = (I 54 (Int32.toNatClampNeg i3)) then (g_106 n dp 1 z kd I L R i2 (i3 + Int32.ofInt (1)) 0) else (g_106 n dp 2 z kd I L R i2 i3 0)) else none) else none)))
    else if lab = 2 then (stI (u2 I 44 3 i3) (fun I_35 => (g_106 n dp 3 z kd I_35 L R i2 i3 i3)))
    else if lab = 3 then (if i2 ≤ i4 then (some ((z, kd, I, L, R), 0, 0)) else (if (8 : Int32) ≤ i4 then (some ((z, kd, I, L, R), 0, 0)) else (if 0 ≤ i4 ∧ (Int32.toNatClampNeg i4) < 8 then (if 1 ≤ dp then (g_107 n (dp - 1) 0 z kd I L R (I 54 (Int32.toNatClampNeg i4)) (-1 : Int32) 0 0 0).bind (fun ⟨⟨z_60, kd_60, I_60, L_60, R_60⟩, ck_60, cm_60⟩ => (adk ck_60 cm_60 (g_106 n dp 3 z_60 kd_60 I_60 L_60 R_60 i2 i3 (i4 + Int32.ofInt (1))))) else none) else none)))
    else none
set_option maxRecDepth 100000 in
theorem e_106_0 (n dp : Nat) (z : Nat) (kd : (Nat → Nat × Nat)) (I : (Nat → Nat → Int32)) (L : (Nat → Nat → Int64)) (R : (Nat → Nat → Option Nat)) (i2 : Int32) (i3 : Int32) (i4 : Int32) : g_106 (n + 1) dp 0 z kd I L R i2 i3 i4 = (g_106 n dp 1 z kd I L R i2 (0 : Int32) 0) := by rw [g_106.eq_2, if_pos (show (0 : Nat) = 0 from rfl)]
set_option maxRecDepth 100000 in
theorem e_106_1 (n dp : Nat) (z : Nat) (kd : (Nat → Nat × Nat)) (I : (Nat → Nat → Int32)) (L : (Nat → Nat → Int64)) (R : (Nat → Nat → Option Nat)) (i2 : Int32) (i3 : Int32) (i4 : Int32) : g_106 (n + 1) dp 1 z kd I L R i2 i3 i4 = (if i2 ≤ i3 then (g_106 n dp 2 z kd I L R i2 i3 0) else (if (I 44 3) ≤ i3 then (g_106 n dp 2 z kd I L R i2 i3 0) else (if 0 ≤ i3 ∧ (Int32.toNatClampNeg i3) < 8 then (if 0 ≤ i3 ∧ (Int32.toNatClampNeg i3) < 8 then (if (I 46 (Int32.toNatClampNeg i3)) = (I 54 (Int32.toNatClampNeg i3)) then (g_106 n dp 1 z kd I L R i2 (i3 + Int32.ofInt (1)) 0) else (g_106 n dp 2 z kd I L R i2 i3 0)) else none) else none))) := by rw [g_106.eq_2, if_neg (show ¬ ((1 : Nat) = 0) by decide), if_pos (show (1 : Nat) = 1 from rfl)]
set_option maxRecDepth 100000 in
theorem e_106_2 (n dp : Nat) (z : Nat) (kd : (Nat → Nat × Nat)) (I : (Nat → Nat → Int32)) (L : (Nat → Nat → Int64)) (R : (Nat → Nat → Option Nat)) (i2 : Int32) (i3 : Int32) (i4 : Int32) : g_106 (n + 1) dp 2 z kd I L R i2 i3 i4 = (stI (u2 I 44 3 i3) (fun I_35 => (g_106 n dp 3 z kd I_35 L R i2 i3 i3))) := by rw [g_106.eq_2, if_neg (show ¬ ((2 : Nat) = 0) by decide), if_neg (show ¬ ((2 : Nat) = 1) by decide), if_pos (show (2 : Nat) = 2 from rfl)]
set_option maxRecDepth 100000 in
theorem e_106_3 (n dp : Nat) (z : Nat) (kd : (Nat → Nat × Nat)) (I : (Nat → Nat → Int32)) (L : (Nat → Nat → Int64)) (R : (Nat → Nat → Option Nat)) (i2 : Int32) (i3 : Int32) (i4 : Int32) : g_106 (n + 1) dp 3 z kd I L R i2 i3 i4 = (if i2 ≤ i4 then (some ((z, kd, I, L, R), 0, 0)) else (if (8 : Int32) ≤ i4 then (some ((z, kd, I, L, R), 0, 0)) else (if 0 ≤ i4 ∧ (Int32.toNatClampNeg i4) < 8 then (if 1 ≤ dp then (g_107 n (dp - 1) 0 z kd I L R (I 54 (Int32.toNatClampNeg i4)) (-1 : Int32) 0 0 0).bind (fun ⟨⟨z_60, kd_60, I_60, L_60, R_60⟩, ck_60, cm_60⟩ => (adk ck_60 cm_60 (g_106 n dp 3 z_60 kd_60 I_60 L_60 R_60 i2 i3 (i4 + Int32.ofInt (1))))) else none) else none))) := by rw [g_106.eq_2, if_neg (show ¬ ((3 : Nat) = 0) by decide), if_neg (show ¬ ((3 : Nat) = 1) by decide), if_neg (show ¬ ((3 : Nat) = 2) by decide), if_pos (show (3 : Nat) = 3 from rfl)]
set_option maxHeartbeats 8000000 in
set_option maxRecDepth 100000 in
theorem w_106 (X : GX) : ∀ (n dp d : Nat), dp ≤ d → ∀ (z : Nat) (kd : (Nat → Nat × Nat)) (I : (Nat → Nat → Int32)) (L : (Nat → Nat → Int64)) (R : (Nat → Nat → Option Nat)), Sh z kd R → ∀ (i2 : Int32) (i3 : Int32) (i4 : Int32) (z1 : Nat) (kd1 : (Nat → Nat × Nat)) (I1 : (Nat → Nat → Int32)) (L1 : (Nat → Nat → Int64)) (R1 : (Nat → Nat → Option Nat)) (k1 m1 : Nat), (g_106 n dp 0 z kd I L R i2 i3 i4 = some ((z1, kd1, I1, L1, R1), k1, m1) → ∀ MC MS k m : Nat, k + k1 ≤ MC → m + m1 ≤ MS → K X d 106 MC MS (AV (fun τ => τ = (z1, kd1, I1, L1, R1))) 0 [some (.ref 44), some (.ref 54), some (.int i2), none, none] [] (z, kd, I, L, R) k m) ∧
    (g_106 n dp 1 z kd I L R i2 i3 i4 = some ((z1, kd1, I1, L1, R1), k1, m1) → ∀ MC MS k m : Nat, k + k1 ≤ MC → m + m1 ≤ MS → K X d 106 MC MS (AV (fun τ => τ = (z1, kd1, I1, L1, R1))) 2 [some (.ref 44), some (.ref 54), some (.int i2), some (.int i3), none] [] (z, kd, I, L, R) k m) ∧
    (g_106 n dp 2 z kd I L R i2 i3 i4 = some ((z1, kd1, I1, L1, R1), k1, m1) → ∀ MC MS k m : Nat, k + k1 ≤ MC → m + m1 ≤ MS → K X d 106 MC MS (AV (fun τ => τ = (z1, kd1, I1, L1, R1))) 33 [some (.ref 44), some (.ref 54), some (.int i2), some (.int i3), none] [] (z, kd, I, L, R) k m) ∧
    (g_106 n dp 3 z kd I L R i2 i3 i4 = some ((z1, kd1, I1, L1, R1), k1, m1) → ∀ MC MS k m : Nat, k + k1 ≤ MC → m + m1 ≤ MS → K X d 106 MC MS (AV (fun τ => τ = (z1, kd1, I1, L1, R1))) 41 [some (.ref 44), some (.ref 54), some (.int i2), some (.int i3), some (.int i4)] [] (z, kd, I, L, R) k m) := by
  intro n
  induction n with
  | zero => intro dp d hdp z kd I L R hS  i2 i3 i4 z1 kd1 I1 L1 R1 k1 m1; exact ⟨(fun h => by cases h), (fun h => by cases h), (fun h => by cases h), (fun h => by cases h)⟩
  | succ n ih =>
    intro dp d hdp z kd I L R hS  i2 i3 i4 z1 kd1 I1 L1 R1 k1 m1
    refine ⟨?_, ?_, ?_, ?_⟩
    · intro h MC MS k m hMC hMS
      rw [e_106_0] at h
      refine K_of b_106_0 h_106_0 ?_
      refine q_iconst (0) (by decide) ?_
      refine q_istore (ls1 := [some (.ref 44), some (.ref 54), some (.int i2), some (.int (0 : Int32)), none]) (Nat.le_of_ble_eq_true rfl) rfl ?_
      refine q_end ?_
      exact (ih dp d hdp _ _ _ _ _ hS i2 (0 : Int32) 0 _ _ _ _ _ _ _).2.1 h MC MS _ _ (by omega) (by omega)
    · intro h MC MS k m hMC hMS
      rw [e_106_1] at h
      refine K_of b_106_2 h_106_2 ?_
      refine q_iload rfl ?_
      refine q_iload rfl ?_
      refine q_icmp_ge (fun c_4 => ?_) (fun c_4 => ?_)
      · rw [if_pos c_4] at h
        exact (ih dp d hdp _ _ _ _ _ hS i2 i3 0 _ _ _ _ _ _ _).2.2.1 h MC MS _ _ (by omega) (by omega)
      · rw [if_neg c_4] at h
        refine q_iload rfl ?_
        refine q_aload rfl ?_
        refine q_getI (c0 := 4) (j := 3) rfl rfl (zl hS 44 (by decide)) (sk hS 44 (by decide) rfl) (Or.inl rfl) (by decide) ?_
        refine q_icmp_ge (fun c_12 => ?_) (fun c_12 => ?_)
        · rw [if_pos c_12] at h
          exact (ih dp d hdp _ _ _ _ _ hS i2 i3 0 _ _ _ _ _ _ _).2.2.1 h MC MS _ _ (by omega) (by omega)
        · rw [if_neg c_12] at h
          refine q_aload rfl ?_
          refine q_getRs (c0 := 4) (j := 2) rfl rfl (zl hS 44 (by decide)) (sk hS 44 (by decide) rfl) rfl (by decide) (r_44_2 hS) ?_
          refine q_iload rfl ?_
          obtain ⟨⟨u_20, v_20⟩, h⟩ := ite_some h
          refine q_ialN (Int32.toNatClampNeg i3) (nx u_20) (zl hS 46 (by decide)) (sk hS 46 (by decide) rfl) v_20 (by decide) ?_
          refine q_aload rfl ?_
          refine q_iload rfl ?_
          obtain ⟨⟨u_23, v_23⟩, h⟩ := ite_some h
          refine q_ialN (Int32.toNatClampNeg i3) (nx u_23) (zl hS 54 (by decide)) (sk hS 54 (by decide) rfl) v_23 (by decide) ?_
          refine q_icmp_ne (fun c_24 => ?_) (fun c_24 => ?_)
          · rw [if_neg c_24] at h
            exact (ih dp d hdp _ _ _ _ _ hS i2 i3 0 _ _ _ _ _ _ _).2.2.1 h MC MS _ _ (by omega) (by omega)
          · rw [if_pos c_24] at h
            refine q_iinc (ls1 := [some (.ref 44), some (.ref 54), some (.int i2), some (.int (i3 + Int32.ofInt (1))), none]) rfl rfl ?_
            refine q_goto ?_
            exact (ih dp d hdp _ _ _ _ _ hS i2 (i3 + Int32.ofInt (1)) 0 _ _ _ _ _ _ _).2.1 h MC MS _ _ (by omega) (by omega)
    · intro h MC MS k m hMC hMS
      rw [e_106_2] at h
      refine K_of b_106_33 h_106_33 ?_
      refine q_aload rfl ?_
      refine q_iload rfl ?_
      refine q_putI (c0 := 4) (j := 3) rfl rfl (zl hS 44 (by decide)) (sk hS 44 (by decide) rfl) rfl ?_
      obtain ⟨I_35, nI_35, h⟩ := stI_some h
      refine q_nI nI_35 ?_
      refine q_iload rfl ?_
      refine q_istore (ls1 := [some (.ref 44), some (.ref 54), some (.int i2), some (.int i3), some (.int i3)]) (Nat.le_of_ble_eq_true rfl) rfl ?_
      refine q_end ?_
      exact (ih dp d hdp _ _ _ _ _ hS i2 i3 i3 _ _ _ _ _ _ _).2.2.2 h MC MS _ _ (by omega) (by omega)
    · intro h MC MS k m hMC hMS
      rw [e_106_3] at h
      refine K_of b_106_41 h_106_41 ?_
      refine q_iload rfl ?_
      refine q_iload rfl ?_
      refine q_icmp_ge (fun c_44 => ?_) (fun c_44 => ?_)
      · rw [if_pos c_44] at h
        refine K_of b_106_69 h_106_69 ?_
        cases h
        exact q_vret rfl (by omega) (by omega) rfl
      · rw [if_neg c_44] at h
        refine q_iload rfl ?_
        refine q_iconst (8) (by decide) ?_
        refine q_icmp_ge (fun c_51 => ?_) (fun c_51 => ?_)
        · rw [if_pos c_51] at h
          refine K_of b_106_69 h_106_69 ?_
          cases h
          exact q_vret rfl (by omega) (by omega) rfl
        · rw [if_neg c_51] at h
          refine q_aload rfl ?_
          refine q_aload rfl ?_
          refine q_iload rfl ?_
          obtain ⟨⟨u_58, v_58⟩, h⟩ := ite_some h
          refine q_ialN (Int32.toNatClampNeg i4) (nx u_58) (zl hS 54 (by decide)) (sk hS 54 (by decide) rfl) v_58 (by decide) ?_
          refine q_iconst (-1) (by decide) ?_
          obtain ⟨d_60, h⟩ := ite_some h
          obtain ⟨⟨⟨z_60, kd_60, I_60, L_60, R_60⟩, ck_60, cm_60⟩, e_60, h⟩ := Option.bind_eq_some_iff.mp h
          dsimp only at h
          obtain ⟨mk_60, ms_60, h, ek_60, em_60⟩ := adk_some h
          refine q_gv3V (a_107 X hS (d := d - 1) (by omega) e_60) (by omega) (by omega) (by omega) rfl (Nat.le_of_ble_eq_true rfl) ⟨(zl hS 44 (by decide)), congrArg Prod.fst (sk hS 44 (by decide) rfl), by decide⟩ ?_
          have hS_60 := s_107 hS e_60
          refine q_iinc (ls1 := [some (.ref 44), some (.ref 54), some (.int i2), some (.int i3), some (.int (i4 + Int32.ofInt (1)))]) rfl rfl ?_
          refine q_goto ?_
          exact (ih dp d hdp _ _ _ _ _ hS_60 i2 i3 (i4 + Int32.ofInt (1)) _ _ _ _ _ _ _).2.2.2 h MC MS _ _ (by omega) (by omega)
set_option maxHeartbeats 8000000 in
set_option maxRecDepth 100000 in
theorem t_106 : ∀ (n dp : Nat) (z : Nat) (kd : (Nat → Nat × Nat)) (I : (Nat → Nat → Int32)) (L : (Nat → Nat → Int64)) (R : (Nat → Nat → Option Nat)), Sh z kd R → ∀ (i2 : Int32) (i3 : Int32) (i4 : Int32) (z1 : Nat) (kd1 : (Nat → Nat × Nat)) (I1 : (Nat → Nat → Int32)) (L1 : (Nat → Nat → Int64)) (R1 : (Nat → Nat → Option Nat)) (k1 m1 : Nat), (g_106 n dp 0 z kd I L R i2 i3 i4 = some ((z1, kd1, I1, L1, R1), k1, m1) → Sh z1 kd1 R1) ∧
    (g_106 n dp 1 z kd I L R i2 i3 i4 = some ((z1, kd1, I1, L1, R1), k1, m1) → Sh z1 kd1 R1) ∧
    (g_106 n dp 2 z kd I L R i2 i3 i4 = some ((z1, kd1, I1, L1, R1), k1, m1) → Sh z1 kd1 R1) ∧
    (g_106 n dp 3 z kd I L R i2 i3 i4 = some ((z1, kd1, I1, L1, R1), k1, m1) → Sh z1 kd1 R1) := by
  intro n
  induction n with
  | zero => intro dp z kd I L R hS i2 i3 i4 z1 kd1 I1 L1 R1 k1 m1; exact ⟨(fun h => by cases h), (fun h => by cases h), (fun h => by cases h), (fun h => by cases h)⟩
  | succ n ih =>
    intro dp z kd I L R hS i2 i3 i4 z1 kd1 I1 L1 R1 k1 m1
    refine ⟨?_, ?_, ?_, ?_⟩
    · intro h
      rw [e_106_0] at h
      exact (ih dp _ _ _ _ _ hS i2 (0 : Int32) 0 _ _ _ _ _ _ _).2.1 h
    · intro h
      rw [e_106_1] at h
      by_cases c_4 : i2 ≤ i3
      · rw [if_pos c_4] at h
        exact (ih dp _ _ _ _ _ hS i2 i3 0 _ _ _ _ _ _ _).2.2.1 h
      · rw [if_neg c_4] at h
        by_cases c_12 : (I 44 3) ≤ i3
        · rw [if_pos c_12] at h
          exact (ih dp _ _ _ _ _ hS i2 i3 0 _ _ _ _ _ _ _).2.2.1 h
        · rw [if_neg c_12] at h
          obtain ⟨⟨u_20, v_20⟩, h⟩ := ite_some h
          obtain ⟨⟨u_23, v_23⟩, h⟩ := ite_some h
          by_cases c_24 : (I 46 (Int32.toNatClampNeg i3)) = (I 54 (Int32.toNatClampNeg i3))
          · rw [if_pos c_24] at h
            exact (ih dp _ _ _ _ _ hS i2 (i3 + Int32.ofInt (1)) 0 _ _ _ _ _ _ _).2.1 h
          · rw [if_neg c_24] at h
            exact (ih dp _ _ _ _ _ hS i2 i3 0 _ _ _ _ _ _ _).2.2.1 h
    · intro h
      rw [e_106_2] at h
      obtain ⟨I_35, nI_35, h⟩ := stI_some h
      exact (ih dp _ _ _ _ _ hS i2 i3 i3 _ _ _ _ _ _ _).2.2.2 h
    · intro h
      rw [e_106_3] at h
      by_cases c_44 : i2 ≤ i4
      · rw [if_pos c_44] at h
        cases h
        exact hS
      · rw [if_neg c_44] at h
        by_cases c_51 : (8 : Int32) ≤ i4
        · rw [if_pos c_51] at h
          cases h
          exact hS
        · rw [if_neg c_51] at h
          obtain ⟨⟨u_58, v_58⟩, h⟩ := ite_some h
          obtain ⟨d_60, h⟩ := ite_some h
          obtain ⟨⟨⟨z_60, kd_60, I_60, L_60, R_60⟩, ck_60, cm_60⟩, e_60, h⟩ := Option.bind_eq_some_iff.mp h
          dsimp only at h
          obtain ⟨mk_60, ms_60, h, ek_60, em_60⟩ := adk_some h
          have hS_60 := s_107 hS e_60
          exact (ih dp _ _ _ _ _ hS_60 i2 i3 (i4 + Int32.ofInt (1)) _ _ _ _ _ _ _).2.2.2 h
theorem a_106 (X : GX) {z : Nat} {kd : (Nat → Nat × Nat)} {I : (Nat → Nat → Int32)} {L : (Nat → Nat → Int64)} {R : (Nat → Nat → Option Nat)} (hS : Sh z kd R) {n dp d : Nat} (hd : dp ≤ d) {i2 : Int32} {z1 : Nat} {kd1 : (Nat → Nat × Nat)} {I1 : (Nat → Nat → Int32)} {L1 : (Nat → Nat → Int64)} {R1 : (Nat → Nat → Option Nat)} {k1 m1 : Nat} (h : g_106 n dp 0 z kd I L R i2 0 0 = some ((z1, kd1, I1, L1, R1), k1, m1)) : Ct X d 106 k1 m1 [.ref 44, .ref 54, .int i2] (z, kd, I, L, R) (AV (fun τ => τ = (z1, kd1, I1, L1, R1))) :=
  Ct_of mu_106 (Nat.le_of_ble_eq_true rfl) ((w_106 X n dp d hd z kd I L R hS i2 0 0 _ _ _ _ _ _ _).1 h k1 m1 0 0 (by omega) (by omega))
theorem s_106 {z : Nat} {kd : (Nat → Nat × Nat)} {I : (Nat → Nat → Int32)} {L : (Nat → Nat → Int64)} {R : (Nat → Nat → Option Nat)} (hS : Sh z kd R) {n dp : Nat} {i2 : Int32} {z1 : Nat} {kd1 : (Nat → Nat × Nat)} {I1 : (Nat → Nat → Int32)} {L1 : (Nat → Nat → Int64)} {R1 : (Nat → Nat → Option Nat)} {k1 m1 : Nat} (h : g_106 n dp 0 z kd I L R i2 0 0 = some ((z1, kd1, I1, L1, R1), k1, m1)) : Sh z1 kd1 R1 := (t_106 n dp z kd I L R hS i2 0 0 _ _ _ _ _ _ _).1 h

/-! 104 CutFloor$Planner.solve(III)V -/
set_option maxHeartbeats 4000000 in
set_option maxRecDepth 100000 in
def g_104 : Nat → Nat → Nat → Nat → (Nat → Nat × Nat) → (Nat → Nat → Int32) → (Nat → Nat → Int64) → (Nat → Nat → Option Nat) → Int32 → Int32 → Int32 →  Option ((PS) × Nat × Nat)
  | 0, _, _, _, _, _, _, _, _, _, _ => none
  | n + 1, dp, lab, z, kd, I, L, R, i1, i2, i3 =>
    if lab = 0 then (if 1 ≤ dp then (g_105 n (dp - 1) (z, kd, R) 0 I L i1 i2 i3 0 0).bind (fun ⟨x_4, I_4, L_4⟩ => (if x_4 = 0 then (stI (u2 I_4 44 8 (0 : Int32)) (fun I_19 => (stI (u2 I_19 44 9 (1 : Int32)) (fun I_27 => (some ((z, kd, I_27, L_4, R), 0, 0)))))) else (if 1 ≤ dp then (g_106 n (dp - 1) 0 z kd I_4 L_4 R (x_4 - (1 : Int32)) 0 0).bind (fun ⟨⟨z_43, kd_43, I_43, L_43, R_43⟩, ck_43, cm_43⟩ => (adk ck_43 cm_43 (if 0 ≤ (x_4 - (1 : Int32)) ∧ (Int32.toNatClampNeg (x_4 - (1 : Int32))) < 8 then (if 1 ≤ dp then (g_115 n (dp - 1) (z_43, kd_43, R_43) 0 I_43 L_43 (I_43 54 (Int32.toNatClampNeg (x_4 - (1 : Int32)))) (-1 : Int32) 0 0 0 0 0 0 0).bind (fun ⟨I_60, L_60⟩ => (some ((z_43, kd_43, I_60, L_60, R_43), 0, 0))) else none) else none))) else none))) else none)
    else none
set_option maxRecDepth 100000 in
theorem e_104_0 (n dp : Nat) (z : Nat) (kd : (Nat → Nat × Nat)) (I : (Nat → Nat → Int32)) (L : (Nat → Nat → Int64)) (R : (Nat → Nat → Option Nat)) (i1 : Int32) (i2 : Int32) (i3 : Int32) : g_104 (n + 1) dp 0 z kd I L R i1 i2 i3 = (if 1 ≤ dp then (g_105 n (dp - 1) (z, kd, R) 0 I L i1 i2 i3 0 0).bind (fun ⟨x_4, I_4, L_4⟩ => (if x_4 = 0 then (stI (u2 I_4 44 8 (0 : Int32)) (fun I_19 => (stI (u2 I_19 44 9 (1 : Int32)) (fun I_27 => (some ((z, kd, I_27, L_4, R), 0, 0)))))) else (if 1 ≤ dp then (g_106 n (dp - 1) 0 z kd I_4 L_4 R (x_4 - (1 : Int32)) 0 0).bind (fun ⟨⟨z_43, kd_43, I_43, L_43, R_43⟩, ck_43, cm_43⟩ => (adk ck_43 cm_43 (if 0 ≤ (x_4 - (1 : Int32)) ∧ (Int32.toNatClampNeg (x_4 - (1 : Int32))) < 8 then (if 1 ≤ dp then (g_115 n (dp - 1) (z_43, kd_43, R_43) 0 I_43 L_43 (I_43 54 (Int32.toNatClampNeg (x_4 - (1 : Int32)))) (-1 : Int32) 0 0 0 0 0 0 0).bind (fun ⟨I_60, L_60⟩ => (some ((z_43, kd_43, I_60, L_60, R_43), 0, 0))) else none) else none))) else none))) else none) := by rw [g_104.eq_2, if_pos (show (0 : Nat) = 0 from rfl)]
set_option maxHeartbeats 8000000 in
set_option maxRecDepth 100000 in
theorem w_104 (X : GX) : ∀ (n dp d : Nat), dp ≤ d → ∀ (z : Nat) (kd : (Nat → Nat × Nat)) (I : (Nat → Nat → Int32)) (L : (Nat → Nat → Int64)) (R : (Nat → Nat → Option Nat)), Sh z kd R → ∀ (i1 : Int32) (i2 : Int32) (i3 : Int32) (z1 : Nat) (kd1 : (Nat → Nat × Nat)) (I1 : (Nat → Nat → Int32)) (L1 : (Nat → Nat → Int64)) (R1 : (Nat → Nat → Option Nat)) (k1 m1 : Nat), (g_104 n dp 0 z kd I L R i1 i2 i3 = some ((z1, kd1, I1, L1, R1), k1, m1) → ∀ MC MS k m : Nat, k + k1 ≤ MC → m + m1 ≤ MS → K X d 104 MC MS (AV (fun τ => τ = (z1, kd1, I1, L1, R1))) 0 [some (.ref 24), some (.int i1), some (.int i2), some (.int i3), none] [] (z, kd, I, L, R) k m) := by
  intro n
  induction n with
  | zero => intro dp d hdp z kd I L R hS  i1 i2 i3 z1 kd1 I1 L1 R1 k1 m1; exact fun h => by cases h
  | succ n ih =>
    intro dp d hdp z kd I L R hS  i1 i2 i3 z1 kd1 I1 L1 R1 k1 m1
    · intro h MC MS k m hMC hMS
      rw [e_104_0] at h
      refine K_of b_104_0 h_104_0 ?_
      refine q_aload rfl ?_
      refine q_iload rfl ?_
      refine q_iload rfl ?_
      refine q_iload rfl ?_
      obtain ⟨d_4, h⟩ := ite_some h
      obtain ⟨⟨x_4, I_4, L_4⟩, e_4, h⟩ := Option.bind_eq_some_iff.mp h
      dsimp only at h
      refine q_fv4I (a_105 X hS (d := d - 1) (by omega) e_4) (by omega) (by omega) (by omega) rfl (Nat.le_of_ble_eq_true rfl) ⟨(zl hS 24 (by decide)), congrArg Prod.fst (sk hS 24 (by decide) rfl), by decide⟩ ?_
      refine q_istore (ls1 := [some (.ref 24), some (.int i1), some (.int i2), some (.int i3), some (.int x_4)]) (Nat.le_of_ble_eq_true rfl) rfl ?_
      refine q_iload rfl ?_
      refine q_if_ne (fun c_11 => ?_) (fun c_11 => ?_)
      · rw [if_neg c_11] at h
        refine K_of b_104_31 h_104_31 ?_
        refine q_aload rfl ?_
        refine q_getRs (c0 := 7) (j := 4) rfl rfl (zl hS 24 (by decide)) (sk hS 24 (by decide) rfl) rfl (by decide) (r_24_4 hS) ?_
        refine q_aload rfl ?_
        refine q_getRs (c0 := 7) (j := 8) rfl rfl (zl hS 24 (by decide)) (sk hS 24 (by decide) rfl) rfl (by decide) (r_24_8 hS) ?_
        refine q_iload rfl ?_
        refine q_iconst (1) (by decide) ?_
        refine q_isub ?_
        obtain ⟨d_43, h⟩ := ite_some h
        obtain ⟨⟨⟨z_43, kd_43, I_43, L_43, R_43⟩, ck_43, cm_43⟩, e_43, h⟩ := Option.bind_eq_some_iff.mp h
        dsimp only at h
        obtain ⟨mk_43, ms_43, h, ek_43, em_43⟩ := adk_some h
        refine q_gv3V (a_106 X hS (d := d - 1) (by omega) e_43) (by omega) (by omega) (by omega) rfl (Nat.le_of_ble_eq_true rfl) ⟨(zl hS 44 (by decide)), congrArg Prod.fst (sk hS 44 (by decide) rfl), by decide⟩ ?_
        have hS_43 := s_106 hS e_43
        refine q_aload rfl ?_
        refine q_getRs (c0 := 7) (j := 4) rfl rfl (zl hS_43 24 (by decide)) (sk hS_43 24 (by decide) rfl) rfl (by decide) (r_24_4 hS_43) ?_
        refine q_aload rfl ?_
        refine q_getRs (c0 := 7) (j := 8) rfl rfl (zl hS_43 24 (by decide)) (sk hS_43 24 (by decide) rfl) rfl (by decide) (r_24_8 hS_43) ?_
        refine q_iload rfl ?_
        refine q_iconst (1) (by decide) ?_
        refine q_isub ?_
        obtain ⟨⟨u_58, v_58⟩, h⟩ := ite_some h
        refine q_ialN (Int32.toNatClampNeg (x_4 - (1 : Int32))) (nx u_58) (zl hS_43 54 (by decide)) (sk hS_43 54 (by decide) rfl) v_58 (by decide) ?_
        refine q_iconst (-1) (by decide) ?_
        obtain ⟨d_60, h⟩ := ite_some h
        obtain ⟨⟨I_60, L_60⟩, e_60, h⟩ := Option.bind_eq_some_iff.mp h
        dsimp only at h
        refine q_fv3V (a_115 X hS_43 (d := d - 1) (by omega) e_60) (by omega) (by omega) (by omega) rfl (Nat.le_of_ble_eq_true rfl) ⟨(zl hS_43 44 (by decide)), congrArg Prod.fst (sk hS_43 44 (by decide) rfl), by decide⟩ ?_
        cases h
        exact q_vret rfl (by omega) (by omega) rfl
      · rw [if_pos c_11] at h
        refine q_aload rfl ?_
        refine q_getRs (c0 := 7) (j := 4) rfl rfl (zl hS 24 (by decide)) (sk hS 24 (by decide) rfl) rfl (by decide) (r_24_4 hS) ?_
        refine q_iconst (0) (by decide) ?_
        refine q_putI (c0 := 4) (j := 8) rfl rfl (zl hS 44 (by decide)) (sk hS 44 (by decide) rfl) rfl ?_
        obtain ⟨I_19, nI_19, h⟩ := stI_some h
        refine q_nI nI_19 ?_
        refine q_aload rfl ?_
        refine q_getRs (c0 := 7) (j := 4) rfl rfl (zl hS 24 (by decide)) (sk hS 24 (by decide) rfl) rfl (by decide) (r_24_4 hS) ?_
        refine q_iconst (1) (by decide) ?_
        refine q_putI (c0 := 4) (j := 9) rfl rfl (zl hS 44 (by decide)) (sk hS 44 (by decide) rfl) rfl ?_
        obtain ⟨I_27, nI_27, h⟩ := stI_some h
        refine q_nI nI_27 ?_
        cases h
        exact q_vret rfl (by omega) (by omega) rfl
set_option maxHeartbeats 8000000 in
set_option maxRecDepth 100000 in
theorem t_104 : ∀ (n dp : Nat) (z : Nat) (kd : (Nat → Nat × Nat)) (I : (Nat → Nat → Int32)) (L : (Nat → Nat → Int64)) (R : (Nat → Nat → Option Nat)), Sh z kd R → ∀ (i1 : Int32) (i2 : Int32) (i3 : Int32) (z1 : Nat) (kd1 : (Nat → Nat × Nat)) (I1 : (Nat → Nat → Int32)) (L1 : (Nat → Nat → Int64)) (R1 : (Nat → Nat → Option Nat)) (k1 m1 : Nat), (g_104 n dp 0 z kd I L R i1 i2 i3 = some ((z1, kd1, I1, L1, R1), k1, m1) → Sh z1 kd1 R1) := by
  intro n
  induction n with
  | zero => intro dp z kd I L R hS i1 i2 i3 z1 kd1 I1 L1 R1 k1 m1; exact fun h => by cases h
  | succ n ih =>
    intro dp z kd I L R hS i1 i2 i3 z1 kd1 I1 L1 R1 k1 m1
    · intro h
      rw [e_104_0] at h
      obtain ⟨d_4, h⟩ := ite_some h
      obtain ⟨⟨x_4, I_4, L_4⟩, e_4, h⟩ := Option.bind_eq_some_iff.mp h
      dsimp only at h
      by_cases c_11 : x_4 = 0
      · rw [if_pos c_11] at h
        obtain ⟨I_19, nI_19, h⟩ := stI_some h
        obtain ⟨I_27, nI_27, h⟩ := stI_some h
        cases h
        exact hS
      · rw [if_neg c_11] at h
        obtain ⟨d_43, h⟩ := ite_some h
        obtain ⟨⟨⟨z_43, kd_43, I_43, L_43, R_43⟩, ck_43, cm_43⟩, e_43, h⟩ := Option.bind_eq_some_iff.mp h
        dsimp only at h
        obtain ⟨mk_43, ms_43, h, ek_43, em_43⟩ := adk_some h
        have hS_43 := s_106 hS e_43
        obtain ⟨⟨u_58, v_58⟩, h⟩ := ite_some h
        obtain ⟨d_60, h⟩ := ite_some h
        obtain ⟨⟨I_60, L_60⟩, e_60, h⟩ := Option.bind_eq_some_iff.mp h
        dsimp only at h
        cases h
        exact hS_43
theorem a_104 (X : GX) {z : Nat} {kd : (Nat → Nat × Nat)} {I : (Nat → Nat → Int32)} {L : (Nat → Nat → Int64)} {R : (Nat → Nat → Option Nat)} (hS : Sh z kd R) {n dp d : Nat} (hd : dp ≤ d) {i1 : Int32} {i2 : Int32} {i3 : Int32} {z1 : Nat} {kd1 : (Nat → Nat × Nat)} {I1 : (Nat → Nat → Int32)} {L1 : (Nat → Nat → Int64)} {R1 : (Nat → Nat → Option Nat)} {k1 m1 : Nat} (h : g_104 n dp 0 z kd I L R i1 i2 i3 = some ((z1, kd1, I1, L1, R1), k1, m1)) : Ct X d 104 k1 m1 [.ref 24, .int i1, .int i2, .int i3] (z, kd, I, L, R) (AV (fun τ => τ = (z1, kd1, I1, L1, R1))) :=
  Ct_of mu_104 (Nat.le_of_ble_eq_true rfl) ((w_104 X n dp d hd z kd I L R hS i1 i2 i3 _ _ _ _ _ _ _) h k1 m1 0 0 (by omega) (by omega))
theorem s_104 {z : Nat} {kd : (Nat → Nat × Nat)} {I : (Nat → Nat → Int32)} {L : (Nat → Nat → Int64)} {R : (Nat → Nat → Option Nat)} (hS : Sh z kd R) {n dp : Nat} {i1 : Int32} {i2 : Int32} {i3 : Int32} {z1 : Nat} {kd1 : (Nat → Nat × Nat)} {I1 : (Nat → Nat → Int32)} {L1 : (Nat → Nat → Int64)} {R1 : (Nat → Nat → Option Nat)} {k1 m1 : Nat} (h : g_104 n dp 0 z kd I L R i1 i2 i3 = some ((z1, kd1, I1, L1, R1), k1, m1)) : Sh z1 kd1 R1 := (t_104 n dp z kd I L R hS i1 i2 i3 _ _ _ _ _ _ _) h

/-! 95 CutFloor$Planner.loadOffers()V -/
set_option maxHeartbeats 4000000 in
set_option maxRecDepth 100000 in
def g_95 : Nat → Nat → Nat → Nat → (Nat → Nat × Nat) → (Nat → Nat → Int32) → (Nat → Nat → Int64) → (Nat → Nat → Option Nat) →  Option ((PS) × Nat × Nat)
  | 0, _, _, _, _, _, _, _ => none
  | n + 1, dp, lab, z, kd, I, L, R =>
    if lab = 0 then (if (I 24 14) = 0 then (some ((z, kd, I, L, R), 0, 0)) else (if 1 ≤ dp then (g_96 n (dp - 1) (z, kd, R) 0 I L 0).bind (fun ⟨I_19, L_19⟩ => (if 1 ≤ dp then (g_103 n (dp - 1) 0 z kd I_19 L_19 R).bind (fun ⟨⟨z_26, kd_26, I_26, L_26, R_26⟩, ck_26, cm_26⟩ => (adk ck_26 cm_26 (stI (u2 I_26 24 14 (0 : Int32)) (fun I_31 => (some ((z_26, kd_26, I_31, L_26, R_26), 0, 0)))))) else none)) else none))
    else none
set_option maxRecDepth 100000 in
theorem e_95_0 (n dp : Nat) (z : Nat) (kd : (Nat → Nat × Nat)) (I : (Nat → Nat → Int32)) (L : (Nat → Nat → Int64)) (R : (Nat → Nat → Option Nat)) : g_95 (n + 1) dp 0 z kd I L R = (if (I 24 14) = 0 then (some ((z, kd, I, L, R), 0, 0)) else (if 1 ≤ dp then (g_96 n (dp - 1) (z, kd, R) 0 I L 0).bind (fun ⟨I_19, L_19⟩ => (if 1 ≤ dp then (g_103 n (dp - 1) 0 z kd I_19 L_19 R).bind (fun ⟨⟨z_26, kd_26, I_26, L_26, R_26⟩, ck_26, cm_26⟩ => (adk ck_26 cm_26 (stI (u2 I_26 24 14 (0 : Int32)) (fun I_31 => (some ((z_26, kd_26, I_31, L_26, R_26), 0, 0)))))) else none)) else none)) := by rw [g_95.eq_2, if_pos (show (0 : Nat) = 0 from rfl)]
set_option maxHeartbeats 8000000 in
set_option maxRecDepth 100000 in
theorem w_95 (X : GX) : ∀ (n dp d : Nat), dp ≤ d → ∀ (z : Nat) (kd : (Nat → Nat × Nat)) (I : (Nat → Nat → Int32)) (L : (Nat → Nat → Int64)) (R : (Nat → Nat → Option Nat)), Sh z kd R → ∀ (z1 : Nat) (kd1 : (Nat → Nat × Nat)) (I1 : (Nat → Nat → Int32)) (L1 : (Nat → Nat → Int64)) (R1 : (Nat → Nat → Option Nat)) (k1 m1 : Nat), (g_95 n dp 0 z kd I L R = some ((z1, kd1, I1, L1, R1), k1, m1) → ∀ MC MS k m : Nat, k + k1 ≤ MC → m + m1 ≤ MS → K X d 95 MC MS (AV (fun τ => τ = (z1, kd1, I1, L1, R1))) 0 [some (.ref 24)] [] (z, kd, I, L, R) k m) := by
  intro n
  induction n with
  | zero => intro dp d hdp z kd I L R hS  z1 kd1 I1 L1 R1 k1 m1; exact fun h => by cases h
  | succ n ih =>
    intro dp d hdp z kd I L R hS  z1 kd1 I1 L1 R1 k1 m1
    · intro h MC MS k m hMC hMS
      rw [e_95_0] at h
      refine K_of b_95_0 h_95_0 ?_
      refine q_aload rfl ?_
      refine q_getI (c0 := 7) (j := 14) rfl rfl (zl hS 24 (by decide)) (sk hS 24 (by decide) rfl) (Or.inr rfl) (by decide) ?_
      refine q_if_eq (fun c_4 => ?_) (fun c_4 => ?_)
      · rw [if_pos c_4] at h
        refine K_of b_95_34 h_95_34 ?_
        cases h
        exact q_vret rfl (by omega) (by omega) rfl
      · rw [if_neg c_4] at h
        refine q_aload rfl ?_
        refine q_getRs (c0 := 7) (j := 3) rfl rfl (zl hS 24 (by decide)) (sk hS 24 (by decide) rfl) rfl (by decide) (r_24_3 hS) ?_
        refine q_aload rfl ?_
        refine q_getRs (c0 := 7) (j := 0) rfl rfl (zl hS 24 (by decide)) (sk hS 24 (by decide) rfl) rfl (by decide) (r_24_0 hS) ?_
        refine q_aload rfl ?_
        refine q_getRs (c0 := 7) (j := 2) rfl rfl (zl hS 24 (by decide)) (sk hS 24 (by decide) rfl) rfl (by decide) (r_24_2 hS) ?_
        obtain ⟨d_19, h⟩ := ite_some h
        obtain ⟨⟨I_19, L_19⟩, e_19, h⟩ := Option.bind_eq_some_iff.mp h
        dsimp only at h
        refine q_fv3V (a_96 X hS (d := d - 1) (by omega) e_19) (by omega) (by omega) (by omega) rfl (Nat.le_of_ble_eq_true rfl) ⟨(zl hS 26 (by decide)), congrArg Prod.fst (sk hS 26 (by decide) rfl), by decide⟩ ?_
        refine q_aload rfl ?_
        refine q_getRs (c0 := 7) (j := 4) rfl rfl (zl hS 24 (by decide)) (sk hS 24 (by decide) rfl) rfl (by decide) (r_24_4 hS) ?_
        obtain ⟨d_26, h⟩ := ite_some h
        obtain ⟨⟨⟨z_26, kd_26, I_26, L_26, R_26⟩, ck_26, cm_26⟩, e_26, h⟩ := Option.bind_eq_some_iff.mp h
        dsimp only at h
        obtain ⟨mk_26, ms_26, h, ek_26, em_26⟩ := adk_some h
        refine q_gv1V (a_103 X hS (d := d - 1) (by omega) e_26) (by omega) (by omega) (by omega) rfl (Nat.le_of_ble_eq_true rfl) ⟨(zl hS 44 (by decide)), congrArg Prod.fst (sk hS 44 (by decide) rfl), by decide⟩ ?_
        have hS_26 := s_103 hS e_26
        refine q_aload rfl ?_
        refine q_iconst (0) (by decide) ?_
        refine q_putZ (c0 := 7) (j := 14) rfl rfl (zl hS_26 24 (by decide)) (sk hS_26 24 (by decide) rfl) rfl (Or.inl rfl) ?_
        obtain ⟨I_31, nI_31, h⟩ := stI_some h
        refine q_nI nI_31 ?_
        refine q_end ?_
        refine K_of b_95_34 h_95_34 ?_
        cases h
        exact q_vret rfl (by omega) (by omega) rfl
set_option maxHeartbeats 8000000 in
set_option maxRecDepth 100000 in
theorem t_95 : ∀ (n dp : Nat) (z : Nat) (kd : (Nat → Nat × Nat)) (I : (Nat → Nat → Int32)) (L : (Nat → Nat → Int64)) (R : (Nat → Nat → Option Nat)), Sh z kd R → ∀ (z1 : Nat) (kd1 : (Nat → Nat × Nat)) (I1 : (Nat → Nat → Int32)) (L1 : (Nat → Nat → Int64)) (R1 : (Nat → Nat → Option Nat)) (k1 m1 : Nat), (g_95 n dp 0 z kd I L R = some ((z1, kd1, I1, L1, R1), k1, m1) → Sh z1 kd1 R1) := by
  intro n
  induction n with
  | zero => intro dp z kd I L R hS z1 kd1 I1 L1 R1 k1 m1; exact fun h => by cases h
  | succ n ih =>
    intro dp z kd I L R hS z1 kd1 I1 L1 R1 k1 m1
    · intro h
      rw [e_95_0] at h
      by_cases c_4 : (I 24 14) = 0
      · rw [if_pos c_4] at h
        cases h
        exact hS
      · rw [if_neg c_4] at h
        obtain ⟨d_19, h⟩ := ite_some h
        obtain ⟨⟨I_19, L_19⟩, e_19, h⟩ := Option.bind_eq_some_iff.mp h
        dsimp only at h
        obtain ⟨d_26, h⟩ := ite_some h
        obtain ⟨⟨⟨z_26, kd_26, I_26, L_26, R_26⟩, ck_26, cm_26⟩, e_26, h⟩ := Option.bind_eq_some_iff.mp h
        dsimp only at h
        obtain ⟨mk_26, ms_26, h, ek_26, em_26⟩ := adk_some h
        have hS_26 := s_103 hS e_26
        obtain ⟨I_31, nI_31, h⟩ := stI_some h
        cases h
        exact hS_26
theorem a_95 (X : GX) {z : Nat} {kd : (Nat → Nat × Nat)} {I : (Nat → Nat → Int32)} {L : (Nat → Nat → Int64)} {R : (Nat → Nat → Option Nat)} (hS : Sh z kd R) {n dp d : Nat} (hd : dp ≤ d) {z1 : Nat} {kd1 : (Nat → Nat × Nat)} {I1 : (Nat → Nat → Int32)} {L1 : (Nat → Nat → Int64)} {R1 : (Nat → Nat → Option Nat)} {k1 m1 : Nat} (h : g_95 n dp 0 z kd I L R = some ((z1, kd1, I1, L1, R1), k1, m1)) : Ct X d 95 k1 m1 [.ref 24] (z, kd, I, L, R) (AV (fun τ => τ = (z1, kd1, I1, L1, R1))) :=
  Ct_of mu_95 (Nat.le_of_ble_eq_true rfl) ((w_95 X n dp d hd z kd I L R hS _ _ _ _ _ _ _) h k1 m1 0 0 (by omega) (by omega))
theorem s_95 {z : Nat} {kd : (Nat → Nat × Nat)} {I : (Nat → Nat → Int32)} {L : (Nat → Nat → Int64)} {R : (Nat → Nat → Option Nat)} (hS : Sh z kd R) {n dp : Nat} {z1 : Nat} {kd1 : (Nat → Nat × Nat)} {I1 : (Nat → Nat → Int32)} {L1 : (Nat → Nat → Int64)} {R1 : (Nat → Nat → Option Nat)} {k1 m1 : Nat} (h : g_95 n dp 0 z kd I L R = some ((z1, kd1, I1, L1, R1), k1, m1)) : Sh z1 kd1 R1 := (t_95 n dp z kd I L R hS _ _ _ _ _ _ _) h

/-! 92 CutFloor$Planner.bestFor(III)I -/
set_option maxHeartbeats 4000000 in
set_option maxRecDepth 100000 in
def g_92 : Nat → Nat → Nat → Nat → (Nat → Nat × Nat) → (Nat → Nat → Int32) → (Nat → Nat → Int64) → (Nat → Nat → Option Nat) → Int32 → Int32 → Int32 → Int32 →  Option ((Int32 × PS) × Nat × Nat)
  | 0, _, _, _, _, _, _, _, _, _, _, _ => none
  | n + 1, dp, lab, z, kd, I, L, R, i1, i2, i3, i4 =>
    if lab = 0 then (if 1 ≤ dp then (g_14 n (dp - 1) (z, kd, R) 0 I L i1 (0 : Int32) (8 : Int32)).bind (fun ⟨x_4, I_4, L_4⟩ => (if x_4 = 0 then (some (((-1 : Int32), z, kd, I_4, L_4, R), 0, 0)) else (if 1 ≤ dp then (g_14 n (dp - 1) (z, kd, R) 0 I_4 L_4 i2 (0 : Int32) (8 : Int32)).bind (fun ⟨x_14, I_14, L_14⟩ => (if x_14 = 0 then (some (((-1 : Int32), z, kd, I_14, L_14, R), 0, 0)) else (if 1 ≤ dp then (g_14 n (dp - 1) (z, kd, R) 0 I_14 L_14 i3 (0 : Int32) (8 : Int32)).bind (fun ⟨x_24, I_24, L_24⟩ => (if x_24 = 0 then (some (((-1 : Int32), z, kd, I_24, L_24, R), 0, 0)) else (if (8 : Int32) < ((i1 + i2) + i3) then (some (((-1 : Int32), z, kd, I_24, L_24, R), 0, 0)) else (if 1 ≤ dp then (g_93 n (dp - 1) (z, kd, R) 0 I_24 L_24 i1 i2 i3).bind (fun ⟨x_44, I_44, L_44⟩ => (if x_44 = 0 then (some (((-1 : Int32), z, kd, I_44, L_44, R), 0, 0)) else (if 1 ≤ dp then (g_94 n (dp - 1) (z, kd, R) 0 I_44 L_44 i1 i2 i3).bind (fun ⟨x_55, I_55, L_55⟩ => (if 0 ≤ x_55 ∧ (Int32.toNatClampNeg x_55) < 729 then (if (I_55 53 (Int32.toNatClampNeg x_55)) = (I_55 24 12) then (g_92 n dp 1 z kd I_55 L_55 R i1 i2 i3 x_55) else (if 1 ≤ dp then (g_95 n (dp - 1) 0 z kd I_55 L_55 R).bind (fun ⟨⟨z_75, kd_75, I_75, L_75, R_75⟩, ck_75, cm_75⟩ => (adk ck_75 cm_75 (if 1 ≤ dp then (g_104 n (dp - 1) 0 z_75 kd_75 I_75 L_75 R_75 i1 i2 i3).bind (fun ⟨⟨z_82, kd_82, I_82, L_82, R_82⟩, ck_82, cm_82⟩ => (adk ck_82 cm_82 (if 0 ≤ x_55 ∧ (Int32.toNatClampNeg x_55) < 729 then (stI (u2 I_82 53 (Int32.toNatClampNeg x_55) (I_82 24 12)) (fun I_95 => (if 0 ≤ x_55 ∧ (Int32.toNatClampNeg x_55) < 729 then (stI (u2 I_95 51 (Int32.toNatClampNeg x_55) ((I_95 44 8) / (16 : Int32))) (fun I_112 => (if 0 ≤ x_55 ∧ (Int32.toNatClampNeg x_55) < 729 then (stI (u2 I_112 52 (Int32.toNatClampNeg x_55) (I_112 44 9)) (fun I_126 => (g_92 n dp 1 z_82 kd_82 I_126 L_82 R_82 i1 i2 i3 x_55))) else none))) else none))) else none))) else none))) else none)) else none)) else none))) else none)))) else none))) else none))) else none)
    else if lab = 1 then (if 0 ≤ i4 ∧ (Int32.toNatClampNeg i4) < 729 then (some (((I 51 (Int32.toNatClampNeg i4)), z, kd, I, L, R), 0, 0)) else none)
    else none
set_option maxRecDepth 100000 in
theorem e_92_0 (n dp : Nat) (z : Nat) (kd : (Nat → Nat × Nat)) (I : (Nat → Nat → Int32)) (L : (Nat → Nat → Int64)) (R : (Nat → Nat → Option Nat)) (i1 : Int32) (i2 : Int32) (i3 : Int32) (i4 : Int32) : g_92 (n + 1) dp 0 z kd I L R i1 i2 i3 i4 = (if 1 ≤ dp then (g_14 n (dp - 1) (z, kd, R) 0 I L i1 (0 : Int32) (8 : Int32)).bind (fun ⟨x_4, I_4, L_4⟩ => (if x_4 = 0 then (some (((-1 : Int32), z, kd, I_4, L_4, R), 0, 0)) else (if 1 ≤ dp then (g_14 n (dp - 1) (z, kd, R) 0 I_4 L_4 i2 (0 : Int32) (8 : Int32)).bind (fun ⟨x_14, I_14, L_14⟩ => (if x_14 = 0 then (some (((-1 : Int32), z, kd, I_14, L_14, R), 0, 0)) else (if 1 ≤ dp then (g_14 n (dp - 1) (z, kd, R) 0 I_14 L_14 i3 (0 : Int32) (8 : Int32)).bind (fun ⟨x_24, I_24, L_24⟩ => (if x_24 = 0 then (some (((-1 : Int32), z, kd, I_24, L_24, R), 0, 0)) else (if (8 : Int32) < ((i1 + i2) + i3) then (some (((-1 : Int32), z, kd, I_24, L_24, R), 0, 0)) else (if 1 ≤ dp then (g_93 n (dp - 1) (z, kd, R) 0 I_24 L_24 i1 i2 i3).bind (fun ⟨x_44, I_44, L_44⟩ => (if x_44 = 0 then (some (((-1 : Int32), z, kd, I_44, L_44, R), 0, 0)) else (if 1 ≤ dp then (g_94 n (dp - 1) (z, kd, R) 0 I_44 L_44 i1 i2 i3).bind (fun ⟨x_55, I_55, L_55⟩ => (if 0 ≤ x_55 ∧ (Int32.toNatClampNeg x_55) < 729 then (if (I_55 53 (Int32.toNatClampNeg x_55)) = (I_55 24 12) then (g_92 n dp 1 z kd I_55 L_55 R i1 i2 i3 x_55) else (if 1 ≤ dp then (g_95 n (dp - 1) 0 z kd I_55 L_55 R).bind (fun ⟨⟨z_75, kd_75, I_75, L_75, R_75⟩, ck_75, cm_75⟩ => (adk ck_75 cm_75 (if 1 ≤ dp then (g_104 n (dp - 1) 0 z_75 kd_75 I_75 L_75 R_75 i1 i2 i3).bind (fun ⟨⟨z_82, kd_82, I_82, L_82, R_82⟩, ck_82, cm_82⟩ => (adk ck_82 cm_82 (if 0 ≤ x_55 ∧ (Int32.toNatClampNeg x_55) < 729 then (stI (u2 I_82 53 (Int32.toNatClampNeg x_55) (I_82 24 12)) (fun I_95 => (if 0 ≤ x_55 ∧ (Int32.toNatClampNeg x_55) < 729 then (stI (u2 I_95 51 (Int32.toNatClampNeg x_55) ((I_95 44 8) / (16 : Int32))) (fun I_112 => (if 0 ≤ x_55 ∧ (Int32.toNatClampNeg x_55) < 729 then (stI (u2 I_112 52 (Int32.toNatClampNeg x_55) (I_112 44 9)) (fun I_126 => (g_92 n dp 1 z_82 kd_82 I_126 L_82 R_82 i1 i2 i3 x_55))) else none))) else none))) else none))) else none))) else none)) else none)) else none))) else none)))) else none))) else none))) else none) := by rw [g_92.eq_2, if_pos (show (0 : Nat) = 0 from rfl)]
set_option maxRecDepth 100000 in
theorem e_92_1 (n dp : Nat) (z : Nat) (kd : (Nat → Nat × Nat)) (I : (Nat → Nat → Int32)) (L : (Nat → Nat → Int64)) (R : (Nat → Nat → Option Nat)) (i1 : Int32) (i2 : Int32) (i3 : Int32) (i4 : Int32) : g_92 (n + 1) dp 1 z kd I L R i1 i2 i3 i4 = (if 0 ≤ i4 ∧ (Int32.toNatClampNeg i4) < 729 then (some (((I 51 (Int32.toNatClampNeg i4)), z, kd, I, L, R), 0, 0)) else none) := by rw [g_92.eq_2, if_neg (show ¬ ((1 : Nat) = 0) by decide), if_pos (show (1 : Nat) = 1 from rfl)]
set_option maxHeartbeats 8000000 in
set_option maxRecDepth 100000 in
theorem w_92 (X : GX) : ∀ (n dp d : Nat), dp ≤ d → ∀ (z : Nat) (kd : (Nat → Nat × Nat)) (I : (Nat → Nat → Int32)) (L : (Nat → Nat → Int64)) (R : (Nat → Nat → Option Nat)), Sh z kd R → ∀ (i1 : Int32) (i2 : Int32) (i3 : Int32) (i4 : Int32) (r : Int32) (z1 : Nat) (kd1 : (Nat → Nat × Nat)) (I1 : (Nat → Nat → Int32)) (L1 : (Nat → Nat → Int64)) (R1 : (Nat → Nat → Option Nat)) (k1 m1 : Nat), (g_92 n dp 0 z kd I L R i1 i2 i3 i4 = some ((r, z1, kd1, I1, L1, R1), k1, m1) → ∀ MC MS k m : Nat, k + k1 ≤ MC → m + m1 ≤ MS → K X d 92 MC MS (AI (fun x τ => x = r ∧ τ = (z1, kd1, I1, L1, R1))) 0 [some (.ref 24), some (.int i1), some (.int i2), some (.int i3), none] [] (z, kd, I, L, R) k m) ∧
    (g_92 n dp 1 z kd I L R i1 i2 i3 i4 = some ((r, z1, kd1, I1, L1, R1), k1, m1) → ∀ MC MS k m : Nat, k + k1 ≤ MC → m + m1 ≤ MS → K X d 92 MC MS (AI (fun x τ => x = r ∧ τ = (z1, kd1, I1, L1, R1))) 127 [some (.ref 24), some (.int i1), some (.int i2), some (.int i3), some (.int i4)] [] (z, kd, I, L, R) k m) := by
  intro n
  induction n with
  | zero => intro dp d hdp z kd I L R hS  i1 i2 i3 i4 r z1 kd1 I1 L1 R1 k1 m1; exact ⟨(fun h => by cases h), (fun h => by cases h)⟩
  | succ n ih =>
    intro dp d hdp z kd I L R hS  i1 i2 i3 i4 r z1 kd1 I1 L1 R1 k1 m1
    refine ⟨?_, ?_⟩
    · intro h MC MS k m hMC hMS
      rw [e_92_0] at h
      refine K_of b_92_0 h_92_0 ?_
      refine q_iload rfl ?_
      refine q_iconst (0) (by decide) ?_
      refine q_iconst (8) (by decide) ?_
      obtain ⟨d_4, h⟩ := ite_some h
      obtain ⟨⟨x_4, I_4, L_4⟩, e_4, h⟩ := Option.bind_eq_some_iff.mp h
      dsimp only at h
      refine q_fs3I (a_14 X hS (d := d - 1) (by omega) e_4) (by omega) (by omega) (by omega) rfl (Nat.le_of_ble_eq_true rfl) ?_
      refine q_if_eq (fun c_7 => ?_) (fun c_7 => ?_)
      · rw [if_pos c_7] at h
        refine K_of b_92_50 h_92_50 ?_
        refine q_iconst (-1) (by decide) ?_
        cases h
        exact q_iret rfl (by omega) (by omega) ⟨rfl, rfl⟩
      · rw [if_neg c_7] at h
        refine q_iload rfl ?_
        refine q_iconst (0) (by decide) ?_
        refine q_iconst (8) (by decide) ?_
        obtain ⟨d_14, h⟩ := ite_some h
        obtain ⟨⟨x_14, I_14, L_14⟩, e_14, h⟩ := Option.bind_eq_some_iff.mp h
        dsimp only at h
        refine q_fs3I (a_14 X hS (d := d - 1) (by omega) e_14) (by omega) (by omega) (by omega) rfl (Nat.le_of_ble_eq_true rfl) ?_
        refine q_if_eq (fun c_17 => ?_) (fun c_17 => ?_)
        · rw [if_pos c_17] at h
          refine K_of b_92_50 h_92_50 ?_
          refine q_iconst (-1) (by decide) ?_
          cases h
          exact q_iret rfl (by omega) (by omega) ⟨rfl, rfl⟩
        · rw [if_neg c_17] at h
          refine q_iload rfl ?_
          refine q_iconst (0) (by decide) ?_
          refine q_iconst (8) (by decide) ?_
          obtain ⟨d_24, h⟩ := ite_some h
          obtain ⟨⟨x_24, I_24, L_24⟩, e_24, h⟩ := Option.bind_eq_some_iff.mp h
          dsimp only at h
          refine q_fs3I (a_14 X hS (d := d - 1) (by omega) e_24) (by omega) (by omega) (by omega) rfl (Nat.le_of_ble_eq_true rfl) ?_
          refine q_if_eq (fun c_27 => ?_) (fun c_27 => ?_)
          · rw [if_pos c_27] at h
            refine K_of b_92_50 h_92_50 ?_
            refine q_iconst (-1) (by decide) ?_
            cases h
            exact q_iret rfl (by omega) (by omega) ⟨rfl, rfl⟩
          · rw [if_neg c_27] at h
            refine q_iload rfl ?_
            refine q_iload rfl ?_
            refine q_iadd ?_
            refine q_iload rfl ?_
            refine q_iadd ?_
            refine q_iconst (8) (by decide) ?_
            refine q_icmp_gt (fun c_37 => ?_) (fun c_37 => ?_)
            · rw [if_pos c_37] at h
              refine K_of b_92_50 h_92_50 ?_
              refine q_iconst (-1) (by decide) ?_
              cases h
              exact q_iret rfl (by omega) (by omega) ⟨rfl, rfl⟩
            · rw [if_neg c_37] at h
              refine q_aload rfl ?_
              refine q_iload rfl ?_
              refine q_iload rfl ?_
              refine q_iload rfl ?_
              obtain ⟨d_44, h⟩ := ite_some h
              obtain ⟨⟨x_44, I_44, L_44⟩, e_44, h⟩ := Option.bind_eq_some_iff.mp h
              dsimp only at h
              refine q_fv4I (a_93 X hS (d := d - 1) (by omega) e_44) (by omega) (by omega) (by omega) rfl (Nat.le_of_ble_eq_true rfl) ⟨(zl hS 24 (by decide)), congrArg Prod.fst (sk hS 24 (by decide) rfl), by decide⟩ ?_
              refine q_if_ne (fun c_47 => ?_) (fun c_47 => ?_)
              · rw [if_neg c_47] at h
                refine K_of b_92_52 h_92_52 ?_
                refine q_iload rfl ?_
                refine q_iload rfl ?_
                refine q_iload rfl ?_
                obtain ⟨d_55, h⟩ := ite_some h
                obtain ⟨⟨x_55, I_55, L_55⟩, e_55, h⟩ := Option.bind_eq_some_iff.mp h
                dsimp only at h
                refine q_fs3I (a_94 X hS (d := d - 1) (by omega) e_55) (by omega) (by omega) (by omega) rfl (Nat.le_of_ble_eq_true rfl) ?_
                refine q_istore (ls1 := [some (.ref 24), some (.int i1), some (.int i2), some (.int i3), some (.int x_55)]) (Nat.le_of_ble_eq_true rfl) rfl ?_
                refine q_aload rfl ?_
                refine q_getRs (c0 := 7) (j := 7) rfl rfl (zl hS 24 (by decide)) (sk hS 24 (by decide) rfl) rfl (by decide) (r_24_7 hS) ?_
                refine q_iload rfl ?_
                obtain ⟨⟨u_66, v_66⟩, h⟩ := ite_some h
                refine q_ialN (Int32.toNatClampNeg x_55) (nx u_66) (zl hS 53 (by decide)) (sk hS 53 (by decide) rfl) v_66 (by decide) ?_
                refine q_aload rfl ?_
                refine q_getI (c0 := 7) (j := 12) rfl rfl (zl hS 24 (by decide)) (sk hS 24 (by decide) rfl) (Or.inl rfl) (by decide) ?_
                refine q_icmp_eq (fun c_71 => ?_) (fun c_71 => ?_)
                · rw [if_pos c_71] at h
                  exact (ih dp d hdp _ _ _ _ _ hS i1 i2 i3 x_55 _ _ _ _ _ _ _ _).2 h MC MS _ _ (by omega) (by omega)
                · rw [if_neg c_71] at h
                  refine q_aload rfl ?_
                  obtain ⟨d_75, h⟩ := ite_some h
                  obtain ⟨⟨⟨z_75, kd_75, I_75, L_75, R_75⟩, ck_75, cm_75⟩, e_75, h⟩ := Option.bind_eq_some_iff.mp h
                  dsimp only at h
                  obtain ⟨mk_75, ms_75, h, ek_75, em_75⟩ := adk_some h
                  refine q_gv1V (a_95 X hS (d := d - 1) (by omega) e_75) (by omega) (by omega) (by omega) rfl (Nat.le_of_ble_eq_true rfl) ⟨(zl hS 24 (by decide)), congrArg Prod.fst (sk hS 24 (by decide) rfl), by decide⟩ ?_
                  have hS_75 := s_95 hS e_75
                  refine q_aload rfl ?_
                  refine q_iload rfl ?_
                  refine q_iload rfl ?_
                  refine q_iload rfl ?_
                  obtain ⟨d_82, h⟩ := ite_some h
                  obtain ⟨⟨⟨z_82, kd_82, I_82, L_82, R_82⟩, ck_82, cm_82⟩, e_82, h⟩ := Option.bind_eq_some_iff.mp h
                  dsimp only at h
                  obtain ⟨mk_82, ms_82, h, ek_82, em_82⟩ := adk_some h
                  refine q_gv4V (a_104 X hS_75 (d := d - 1) (by omega) e_82) (by omega) (by omega) (by omega) rfl (Nat.le_of_ble_eq_true rfl) ⟨(zl hS_75 24 (by decide)), congrArg Prod.fst (sk hS_75 24 (by decide) rfl), by decide⟩ ?_
                  have hS_82 := s_104 hS_75 e_82
                  refine q_aload rfl ?_
                  refine q_getRs (c0 := 7) (j := 7) rfl rfl (zl hS_82 24 (by decide)) (sk hS_82 24 (by decide) rfl) rfl (by decide) (r_24_7 hS_82) ?_
                  refine q_iload rfl ?_
                  refine q_aload rfl ?_
                  refine q_getI (c0 := 7) (j := 12) rfl rfl (zl hS_82 24 (by decide)) (sk hS_82 24 (by decide) rfl) (Or.inl rfl) (by decide) ?_
                  obtain ⟨⟨u_95, v_95⟩, h⟩ := ite_some h
                  refine q_iasN (Int32.toNatClampNeg x_55) (nx u_95) (zl hS_82 53 (by decide)) (sk hS_82 53 (by decide) rfl) v_95 (by decide) ?_
                  obtain ⟨I_95, nI_95, h⟩ := stI_some h
                  refine q_nI nI_95 ?_
                  refine q_aload rfl ?_
                  refine q_getRs (c0 := 7) (j := 5) rfl rfl (zl hS_82 24 (by decide)) (sk hS_82 24 (by decide) rfl) rfl (by decide) (r_24_5 hS_82) ?_
                  refine q_iload rfl ?_
                  refine q_aload rfl ?_
                  refine q_getRs (c0 := 7) (j := 4) rfl rfl (zl hS_82 24 (by decide)) (sk hS_82 24 (by decide) rfl) rfl (by decide) (r_24_4 hS_82) ?_
                  refine q_getI (c0 := 4) (j := 8) rfl rfl (zl hS_82 44 (by decide)) (sk hS_82 44 (by decide) rfl) (Or.inl rfl) (by decide) ?_
                  refine q_iconst (16) (by decide) ?_
                  refine q_idiv (by decide) ?_
                  obtain ⟨⟨u_112, v_112⟩, h⟩ := ite_some h
                  refine q_iasN (Int32.toNatClampNeg x_55) (nx u_112) (zl hS_82 51 (by decide)) (sk hS_82 51 (by decide) rfl) v_112 (by decide) ?_
                  obtain ⟨I_112, nI_112, h⟩ := stI_some h
                  refine q_nI nI_112 ?_
                  refine q_aload rfl ?_
                  refine q_getRs (c0 := 7) (j := 6) rfl rfl (zl hS_82 24 (by decide)) (sk hS_82 24 (by decide) rfl) rfl (by decide) (r_24_6 hS_82) ?_
                  refine q_iload rfl ?_
                  refine q_aload rfl ?_
                  refine q_getRs (c0 := 7) (j := 4) rfl rfl (zl hS_82 24 (by decide)) (sk hS_82 24 (by decide) rfl) rfl (by decide) (r_24_4 hS_82) ?_
                  refine q_getI (c0 := 4) (j := 9) rfl rfl (zl hS_82 44 (by decide)) (sk hS_82 44 (by decide) rfl) (Or.inl rfl) (by decide) ?_
                  obtain ⟨⟨u_126, v_126⟩, h⟩ := ite_some h
                  refine q_iasN (Int32.toNatClampNeg x_55) (nx u_126) (zl hS_82 52 (by decide)) (sk hS_82 52 (by decide) rfl) v_126 (by decide) ?_
                  obtain ⟨I_126, nI_126, h⟩ := stI_some h
                  refine q_nI nI_126 ?_
                  refine q_end ?_
                  exact (ih dp d hdp _ _ _ _ _ hS_82 i1 i2 i3 x_55 _ _ _ _ _ _ _ _).2 h MC MS _ _ (by omega) (by omega)
              · rw [if_pos c_47] at h
                refine q_end ?_
                refine K_of b_92_50 h_92_50 ?_
                refine q_iconst (-1) (by decide) ?_
                cases h
                exact q_iret rfl (by omega) (by omega) ⟨rfl, rfl⟩
    · intro h MC MS k m hMC hMS
      rw [e_92_1] at h
      refine K_of b_92_127 h_92_127 ?_
      refine q_aload rfl ?_
      refine q_getRs (c0 := 7) (j := 5) rfl rfl (zl hS 24 (by decide)) (sk hS 24 (by decide) rfl) rfl (by decide) (r_24_5 hS) ?_
      refine q_iload rfl ?_
      obtain ⟨⟨u_133, v_133⟩, h⟩ := ite_some h
      refine q_ialN (Int32.toNatClampNeg i4) (nx u_133) (zl hS 51 (by decide)) (sk hS 51 (by decide) rfl) v_133 (by decide) ?_
      cases h
      exact q_iret rfl (by omega) (by omega) ⟨rfl, rfl⟩
set_option maxHeartbeats 8000000 in
set_option maxRecDepth 100000 in
theorem t_92 : ∀ (n dp : Nat) (z : Nat) (kd : (Nat → Nat × Nat)) (I : (Nat → Nat → Int32)) (L : (Nat → Nat → Int64)) (R : (Nat → Nat → Option Nat)), Sh z kd R → ∀ (i1 : Int32) (i2 : Int32) (i3 : Int32) (i4 : Int32) (r : Int32) (z1 : Nat) (kd1 : (Nat → Nat × Nat)) (I1 : (Nat → Nat → Int32)) (L1 : (Nat → Nat → Int64)) (R1 : (Nat → Nat → Option Nat)) (k1 m1 : Nat), (g_92 n dp 0 z kd I L R i1 i2 i3 i4 = some ((r, z1, kd1, I1, L1, R1), k1, m1) → Sh z1 kd1 R1) ∧
    (g_92 n dp 1 z kd I L R i1 i2 i3 i4 = some ((r, z1, kd1, I1, L1, R1), k1, m1) → Sh z1 kd1 R1) := by
  intro n
  induction n with
  | zero => intro dp z kd I L R hS i1 i2 i3 i4 r z1 kd1 I1 L1 R1 k1 m1; exact ⟨(fun h => by cases h), (fun h => by cases h)⟩
  | succ n ih =>
    intro dp z kd I L R hS i1 i2 i3 i4 r z1 kd1 I1 L1 R1 k1 m1
    refine ⟨?_, ?_⟩
    · intro h
      rw [e_92_0] at h
      obtain ⟨d_4, h⟩ := ite_some h
      obtain ⟨⟨x_4, I_4, L_4⟩, e_4, h⟩ := Option.bind_eq_some_iff.mp h
      dsimp only at h
      by_cases c_7 : x_4 = 0
      · rw [if_pos c_7] at h
        cases h
        exact hS
      · rw [if_neg c_7] at h
        obtain ⟨d_14, h⟩ := ite_some h
        obtain ⟨⟨x_14, I_14, L_14⟩, e_14, h⟩ := Option.bind_eq_some_iff.mp h
        dsimp only at h
        by_cases c_17 : x_14 = 0
        · rw [if_pos c_17] at h
          cases h
          exact hS
        · rw [if_neg c_17] at h
          obtain ⟨d_24, h⟩ := ite_some h
          obtain ⟨⟨x_24, I_24, L_24⟩, e_24, h⟩ := Option.bind_eq_some_iff.mp h
          dsimp only at h
          by_cases c_27 : x_24 = 0
          · rw [if_pos c_27] at h
            cases h
            exact hS
          · rw [if_neg c_27] at h
            by_cases c_37 : (8 : Int32) < ((i1 + i2) + i3)
            · rw [if_pos c_37] at h
              cases h
              exact hS
            · rw [if_neg c_37] at h
              obtain ⟨d_44, h⟩ := ite_some h
              obtain ⟨⟨x_44, I_44, L_44⟩, e_44, h⟩ := Option.bind_eq_some_iff.mp h
              dsimp only at h
              by_cases c_47 : x_44 = 0
              · rw [if_pos c_47] at h
                cases h
                exact hS
              · rw [if_neg c_47] at h
                obtain ⟨d_55, h⟩ := ite_some h
                obtain ⟨⟨x_55, I_55, L_55⟩, e_55, h⟩ := Option.bind_eq_some_iff.mp h
                dsimp only at h
                obtain ⟨⟨u_66, v_66⟩, h⟩ := ite_some h
                by_cases c_71 : (I_55 53 (Int32.toNatClampNeg x_55)) = (I_55 24 12)
                · rw [if_pos c_71] at h
                  exact (ih dp _ _ _ _ _ hS i1 i2 i3 x_55 _ _ _ _ _ _ _ _).2 h
                · rw [if_neg c_71] at h
                  obtain ⟨d_75, h⟩ := ite_some h
                  obtain ⟨⟨⟨z_75, kd_75, I_75, L_75, R_75⟩, ck_75, cm_75⟩, e_75, h⟩ := Option.bind_eq_some_iff.mp h
                  dsimp only at h
                  obtain ⟨mk_75, ms_75, h, ek_75, em_75⟩ := adk_some h
                  have hS_75 := s_95 hS e_75
                  obtain ⟨d_82, h⟩ := ite_some h
                  obtain ⟨⟨⟨z_82, kd_82, I_82, L_82, R_82⟩, ck_82, cm_82⟩, e_82, h⟩ := Option.bind_eq_some_iff.mp h
                  dsimp only at h
                  obtain ⟨mk_82, ms_82, h, ek_82, em_82⟩ := adk_some h
                  have hS_82 := s_104 hS_75 e_82
                  obtain ⟨⟨u_95, v_95⟩, h⟩ := ite_some h
                  obtain ⟨I_95, nI_95, h⟩ := stI_some h
                  obtain ⟨⟨u_112, v_112⟩, h⟩ := ite_some h
                  obtain ⟨I_112, nI_112, h⟩ := stI_some h
                  obtain ⟨⟨u_126, v_126⟩, h⟩ := ite_some h
                  obtain ⟨I_126, nI_126, h⟩ := stI_some h
                  exact (ih dp _ _ _ _ _ hS_82 i1 i2 i3 x_55 _ _ _ _ _ _ _ _).2 h
    · intro h
      rw [e_92_1] at h
      obtain ⟨⟨u_133, v_133⟩, h⟩ := ite_some h
      cases h
      exact hS
theorem a_92 (X : GX) {z : Nat} {kd : (Nat → Nat × Nat)} {I : (Nat → Nat → Int32)} {L : (Nat → Nat → Int64)} {R : (Nat → Nat → Option Nat)} (hS : Sh z kd R) {n dp d : Nat} (hd : dp ≤ d) {i1 : Int32} {i2 : Int32} {i3 : Int32} {r : Int32} {z1 : Nat} {kd1 : (Nat → Nat × Nat)} {I1 : (Nat → Nat → Int32)} {L1 : (Nat → Nat → Int64)} {R1 : (Nat → Nat → Option Nat)} {k1 m1 : Nat} (h : g_92 n dp 0 z kd I L R i1 i2 i3 0 = some ((r, z1, kd1, I1, L1, R1), k1, m1)) : Ct X d 92 k1 m1 [.ref 24, .int i1, .int i2, .int i3] (z, kd, I, L, R) (AI (fun x τ => x = r ∧ τ = (z1, kd1, I1, L1, R1))) :=
  Ct_of mu_92 (Nat.le_of_ble_eq_true rfl) ((w_92 X n dp d hd z kd I L R hS i1 i2 i3 0 _ _ _ _ _ _ _ _).1 h k1 m1 0 0 (by omega) (by omega))
theorem s_92 {z : Nat} {kd : (Nat → Nat × Nat)} {I : (Nat → Nat → Int32)} {L : (Nat → Nat → Int64)} {R : (Nat → Nat → Option Nat)} (hS : Sh z kd R) {n dp : Nat} {i1 : Int32} {i2 : Int32} {i3 : Int32} {r : Int32} {z1 : Nat} {kd1 : (Nat → Nat × Nat)} {I1 : (Nat → Nat → Int32)} {L1 : (Nat → Nat → Int64)} {R1 : (Nat → Nat → Option Nat)} {k1 m1 : Nat} (h : g_92 n dp 0 z kd I L R i1 i2 i3 0 = some ((r, z1, kd1, I1, L1, R1), k1, m1)) : Sh z1 kd1 R1 := (t_92 n dp z kd I L R hS i1 i2 i3 0 _ _ _ _ _ _ _ _).1 h

