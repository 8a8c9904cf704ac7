section
set_option maxRecDepth 100000 in
theorem ev_217_4 {dp : Nat} {e : EN} {I : JI} {L : JI} {i1 : Int} {i2 : Int} {i3 : Int} {P_ : (JI × JI) → Prop} (h : Ev (fun n => (if -2147483648 ≤ i2 + 4 ∧ i2 + 4 ≤ 2147483647 then (if 0 ≤ (i2 + 4) ∧ (i2 + 4) < 192 then (stI (w2 I 111 (i2 + 4) (I 105 16)) (fun I_196 => (if -2147483648 ≤ i2 + 5 ∧ i2 + 5 ≤ 2147483647 then (if 0 ≤ (i2 + 5) ∧ (i2 + 5) < 192 then (stI (w2 I_196 111 (i2 + 5) (I_196 105 16)) (fun I_208 => (if (I_208 105 13) = 0 then (if 1 ≤ dp then ((kf_218 n (dp - 1) e 0 I_208 L 294).bind (fun ⟨x0_220, I0_220, L0_220⟩ => (if x0_220 = 0 then (kf_217 n dp e 5 I0_220 L0_220 i1 i2 i3) else (if 1 ≤ dp then ((kf_214 n (dp - 1) e 0 I0_220 L0_220).bind (fun ⟨I1_227, L1_227⟩ => (if 1 ≤ dp then ((kf_223 n (dp - 1) e 0 I1_227 L1_227 1 0).bind (fun ⟨I2_232, L2_232⟩ => (kf_217 n dp e 5 I2_232 L2_232 i1 i2 i3))) else none))) else none)))) else none) else (kf_217 n dp e 5 I_208 L i1 i2 i3)))) else none) else none))) else none) else none)) P_) : Ev (fun n => kf_217 n dp e 4 I L i1 i2 i3) P_ := Ev_step (fun n => ke_217_4 n dp e I L i1 i2 i3) h
set_option maxRecDepth 100000 in
theorem ev_217_5 {dp : Nat} {e : EN} {I : JI} {L : JI} {i1 : Int} {i2 : Int} {i3 : Int} {P_ : (JI × JI) → Prop} (h : Ev (fun n => (if -2147483648 ≤ i2 + 6 ∧ i2 + 6 ≤ 2147483647 then (if 0 ≤ (i2 + 6) ∧ (i2 + 6) < 192 then (stI (w2 I 111 (i2 + 6) (I 105 16)) (fun I_247 => (some (I_247, L)))) else none) else none)) P_) : Ev (fun n => kf_217 n dp e 5 I L i1 i2 i3) P_ := Ev_step (fun n => ke_217_5 n dp e I L i1 i2 i3) h
set_option maxRecDepth 100000 in
theorem ev_40_2 {dp : Nat} {e : EN} {I : JI} {L : JI} {i1 : Int} {i2 : Int} {P_ : (Int × JI × JI) → Prop} (h : Ev (fun n => ((e.2.2 104 1).bind (fun b_166 => (if (b_166 < e.1) ∧ ((e.2.1 b_166).1 = 10) then ((e.2.2 b_166 4).bind (fun b_169 => ((e.2.2 104 1).bind (fun b_174 => (if (b_174 < e.1) ∧ ((e.2.1 b_174).1 = 10) then (if ((b_169 < e.1) ∧ (((e.2.1 b_169).1 = 13) ∧ ((e.2.1 b_169).2 < (2 ^ 31)))) ∧ (0 ≤ i1 ∧ i1 < (((e.2.1 b_169).2 : Nat) : Int)) then (stI (w2 I b_169 i1 (I b_174 12)) (fun I_180 => (if (i2 = 0) ∨ (i2 = 1) then (some ((i2 : Int), I_180, L)) else none))) else none) else none))))) else none)))) P_) : Ev (fun n => kf_40 n dp e 2 I L i1 i2) P_ := Ev_step (fun n => ke_40_2 n dp e I L i1 i2) h
set_option maxRecDepth 100000 in
theorem ev_40_1 {dp : Nat} {e : EN} {I : JI} {L : JI} {i1 : Int} {i2 : Int} {P_ : (Int × JI × JI) → Prop} (h : Ev (fun n => ((e.2.2 104 1).bind (fun b_111 => (if (b_111 < e.1) ∧ ((e.2.1 b_111).1 = 10) then ((e.2.2 b_111 2).bind (fun b_114 => ((e.2.2 104 1).bind (fun b_119 => (if (b_119 < e.1) ∧ ((e.2.1 b_119).1 = 10) then (if ((b_114 < e.1) ∧ (((e.2.1 b_114).1 = 13) ∧ ((e.2.1 b_114).2 < (2 ^ 31)))) ∧ (0 ≤ i1 ∧ i1 < (((e.2.1 b_114).2 : Nat) : Int)) then (stI (w2 I b_114 i1 (I b_119 12)) (fun I_125 => ((e.2.2 104 1).bind (fun b_127 => (if (b_127 < e.1) ∧ ((e.2.1 b_127).1 = 10) then ((e.2.2 b_127 3).bind (fun b_130 => ((e.2.2 104 1).bind (fun b_135 => (if (b_135 < e.1) ∧ ((e.2.1 b_135).1 = 10) then (if ((b_130 < e.1) ∧ (((e.2.1 b_130).1 = 13) ∧ ((e.2.1 b_130).2 < (2 ^ 31)))) ∧ (0 ≤ i1 ∧ i1 < (((e.2.1 b_130).2 : Nat) : Int)) then (stI (w2 I_125 b_130 i1 (I_125 b_135 12)) (fun I_141 => (if i2 = 0 then (kf_40 n dp e 2 I_141 L i1 i2) else (if 1 ≤ dp then ((kf_41 n (dp - 1) e 0 I_141 L 0 10).bind (fun ⟨x0_149, I0_149, L0_149⟩ => (if x0_149 = 0 then (kf_40 n dp e 2 I0_149 L0_149 i1 i2) else (if 1 ≤ dp then ((kf_37 n (dp - 1) e 0 I0_149 L0_149 0).bind (fun ⟨I1_156, L1_156⟩ => (if 1 ≤ dp then ((kf_62 n (dp - 1) e 0 I1_156 L1_156 0 0 0).bind (fun ⟨x2_161, I2_161, L2_161⟩ => (kf_40 n dp e 2 I2_161 L2_161 i1 x2_161))) else none))) else none)))) else none)))) else none) else none))))) else none))))) else none) else none))))) else none)))) P_) : Ev (fun n => kf_40 n dp e 1 I L i1 i2) P_ := Ev_step (fun n => ke_40_1 n dp e I L i1 i2) h
end
/-! PARSER 16: a clause is read alike -/
def CX (tr : Nat) (nc nw : Int) (J K L : JI) : Prop := PQ tr J K L ∧ TrX J tr (K 117) (K 111) (cM (cs K)) nc nw (J tr 12) (K 105 16) ∧ (K 105 14 = nc ∧ 0 ≤ nc ∧ nc ≤ 24) ∧ (K 105 26 = nw ∧ J tr 11 = nw ∧ 0 ≤ nw ∧ nw ≤ 16) ∧ ∀ i, nw * 10 ≤ i → i < 160 → J (tr + 8) i = 0
def FrA (tr : Nat) (J J' : JI) : Prop := ∀ a i, ¬ (a = 104 ∧ 3 ≤ i ∧ i ≤ 7) → ¬ (a = tr ∧ (i = 11 ∨ i = 12)) → ¬ (tr + 1 ≤ a ∧ a ≤ tr + 10) → J' a i = J a i
def FrB (K L K' L' : JI) : Prop := (∀ a i, ¬ (a = 105 ∧ (8 ≤ i ∧ i ≤ 10 ∨ 12 ≤ i ∧ i ≤ 14 ∨ i = 16 ∨ i = 19 ∨ i = 22 ∨ i = 23 ∨ i = 26)) → ¬ (111 ≤ a ∧ a ≤ 115) → ¬ a = 117 → K' a i = K a i) ∧ ∀ a i, ¬ (a = 105 ∧ i = 11) → L' a i = L a i
theorem FrA_t {tr : Nat} {J J1 J2 : JI} (h : FrA tr J J1) (g : FrA tr J1 J2) : FrA tr J J2 := fun a i x y z => (g a i x y z).trans (h a i x y z)
theorem FrB_t {K L K1 L1 K2 L2 : JI} (h : FrB K L K1 L1) (g : FrB K1 L1 K2 L2) : FrB K L K2 L2 := ⟨fun a i x y z => (g.1 a i x y z).trans (h.1 a i x y z), fun a i x => (g.2 a i x).trans (h.2 a i x)⟩
theorem FrA_C {tr : Nat} {J J1 : JI} (h : FrC tr J J1) : FrA tr J J1 := fun a i x y z => h.1 a i x (by omega) (by omega) (by omega)
theorem FrB_M {K L K1 L1 : JI} (h : FrM K L K1 L1) : FrB K L K1 L1 := ⟨fun a i x y z => h.1 a i (by omega) (by omega), h.2⟩
theorem FrA_W {tr : Nat} {w : Int} {J J1 : JI} (h : FrW tr w J J1) : FrA tr J J1 := fun a i x y z => h a i (by omega) (by omega) (by omega) (by omega) (by omega)
theorem FrB_W {w : Int} {K L K1 L1 : JI} (h : FmW w K L K1 L1) : FrB K L K1 L1 := ⟨fun a i x y z => h.1 a i (by omega) (by omega), h.2⟩
theorem FrA_G {tr : Nat} {J J1 : JI} (h : GN J J1) : FrA tr J J1 := fun a i x y z => GN_o h a i (by omega)
theorem FrB_N {K L K1 L1 : JI} (h : NX K L K1 L1) : FrB K L K1 L1 := ⟨fun a i x y z => (NX_o h).1 a i (by omega), (NX_o h).2⟩
theorem FrA_w {tr : Nat} {J : JI} {a : Nat} {k v : Int} (h : (tr + 1 ≤ a ∧ a ≤ tr + 10)) : FrA tr J (w2 J a k v) := fun b i x y z => w2_n (by omega)
theorem FrB_w {K L : JI} {k v : Int} : FrB K L (w2 K 111 k v) L := ⟨fun b i x y z => w2_n (by omega), fun _ _ _ => rfl⟩
def Mid (tr : Nat) (nc nw : Int) (J K L : JI) : Prop := PQ tr J K L ∧ (∀ w, 0 ≤ w → w < nw → WyO J tr (K 117) (K 111) (nc + 1) w) ∧ (∀ c, 0 ≤ c → c < nc → ClO J tr (K 111) (cM (cs K)) nw (J tr 12) (K 105 16) c) ∧ HdO J tr (K 111) (cM (cs K)) nw nc (J tr 12) (K 105 16) ∧ (0 ≤ J (tr + 2) nc ∧ J (tr + 2) nc ≤ J tr 12) ∧ (0 ≤ K 111 (8 * nc + 3) ∧ K 111 (8 * nc + 3) ≤ K 105 16) ∧ (K 105 14 = nc + 1 ∧ 0 ≤ nc ∧ nc < 24) ∧ (K 105 26 = nw ∧ J tr 11 = nw ∧ 0 ≤ nw ∧ nw ≤ 16) ∧ ∀ i, nw * 10 ≤ i → i < 160 → J (tr + 8) i = 0
section CLAUSE
variable {dp dm : Nat} {e : EN} {tr : Nat} {M : JI}
theorem tlM {nc h x : Int} {K L : JI} (hnc : 0 ≤ nc ∧ nc < 24) (hb : ¬ K 105 13 = 0) : Ev (fun n => kf_217 n dm e 4 K L h (8 * nc) x) (fun s => s = (w2 (w2 (w2 K 111 (8 * nc + 4) (K 105 16)) 111 (8 * nc + 5) (K 105 16)) 111 (8 * nc + 6) (K 105 16), L)) := by
  refine ev_217_4 ?_
  refine Ev_t (by omega) (Ev_t (by omega) (Ev_st (Ev_t (by omega) (Ev_t (by omega) (Ev_st (Ev_f hb ?_))))))
  refine ev_217_5 ?_
  exact Ev_t (by omega) (Ev_t (by omega) (Ev_st (Ev_ret rfl)))
theorem tl2 {nc x : Int} {J : JI} (hT : TrO e tr) (h104 : e.2.2 104 1 = some tr) (hnc : 0 ≤ nc ∧ nc < 24) (hx : x = 0 ∨ x = 1) : Ev (fun n => kf_40 n dp e 2 J M nc x) (fun s => s = (x, w2 J (tr + 5) nc (J tr 12), M)) := by
  have t := hT.2.2.2.2.2.1
  refine ev_40_2 ?_
  exact Ev_R h104 (Ev_t hT.1 (Ev_R t.1 (Ev_R h104 (Ev_t hT.1 (Ev_t ⟨⟨t.2.1, t.2.2.1, by rw [t.2.2.2]; decide⟩, by rw [t.2.2.2]; omega⟩ (Ev_st (Ev_t hx (Ev_ret rfl))))))))
def c3 (tr : Nat) (nc : Int) (J : JI) : JI := w2 (w2 J (tr + 3) nc (J tr 12)) (tr + 4) nc (J tr 12)
theorem tl1 {nc x : Int} {J : JI} {Q : Int × JI × JI → Prop} (hT : TrO e tr) (h104 : e.2.2 104 1 = some tr) (hnc : 0 ≤ nc ∧ nc < 24) (h0 : x = 0 → Ev (fun n => kf_40 n dp e 2 (c3 tr nc J) M nc 0) Q) (h1 : ¬ x = 0 → Ev (fun n => if 1 ≤ dp then ((kf_41 n (dp - 1) e 0 (c3 tr nc J) M 0 10).bind (fun s => if s.1 = 0 then kf_40 n dp e 2 s.2.1 s.2.2 nc x else if 1 ≤ dp then ((kf_37 n (dp - 1) e 0 s.2.1 s.2.2 0).bind (fun u => if 1 ≤ dp then ((kf_62 n (dp - 1) e 0 u.1 u.2 0 0 0).bind (fun v => kf_40 n dp e 2 v.2.1 v.2.2 nc v.1)) else none)) else none)) else none) Q) : Ev (fun n => kf_40 n dp e 1 J M nc x) Q := by
  have t3 := hT.2.2.2.1
  have t4 := hT.2.2.2.2.1
  refine ev_40_1 ?_
  have z : (w2 J (tr + 3) nc (J tr 12)) tr 12 = J tr 12 := w2_n (by omega)
  refine Ev_R h104 (Ev_t hT.1 (Ev_R t3.1 (Ev_R h104 (Ev_t hT.1 (Ev_t ⟨⟨t3.2.1, t3.2.2.1, by rw [t3.2.2.2]; decide⟩, by rw [t3.2.2.2]; omega⟩ (Ev_st (Ev_R h104 (Ev_t hT.1 (Ev_R t4.1 (Ev_R h104 (Ev_t hT.1 (Ev_t ⟨⟨t4.2.1, t4.2.2.1, by rw [t4.2.2.2]; decide⟩, by rw [t4.2.2.2]; omega⟩ (Ev_st ?_)))))))))))))
  rw [z]
  refine Ev_c (fun c => ?_) (fun c => h1 c)
  subst c
  exact h0 rfl
theorem c3_12 {nc : Int} {J : JI} : c3 tr nc J tr 12 = J tr 12 := by unfold c3; rw [w2_n (by omega), w2_n (by omega)]
theorem c3_n {nc : Int} {J : JI} {a : Nat} {i : Int} (h3 : ¬ (a = tr + 3 ∧ i = nc)) (h4 : ¬ (a = tr + 4 ∧ i = nc)) : c3 tr nc J a i = J a i := by unfold c3; rw [w2_n h4, w2_n h3]
/-- the clause is read: what follows -/
theorem cls_fin {nc nw : Int} {J J' K K' L L' : JI} (h : Mid tr nc nw J K L) (hP : PQ tr J' K' L')
    (hj : ∀ a i, ¬ (a = 104 ∧ 3 ≤ i ∧ i ≤ 7) → ¬ (a = tr ∧ i = 12) → ¬ a = tr + 9 → ¬ a = tr + 10 → ¬ (i = nc ∧ (a = tr + 3 ∨ a = tr + 4 ∨ a = tr + 5)) → J' a i = J a i)
    (h3 : J' (tr + 3) nc = J tr 12 ∧ J' (tr + 4) nc = J tr 12 ∧ J' (tr + 5) nc = J' tr 12) (hs : ∀ i, i < J tr 12 → cC tr J' i = cC tr J i) (hs2 : J tr 12 ≤ J' tr 12)
    (hn : ∀ i, ¬ i = 8 * nc + 4 → ¬ i = 8 * nc + 5 → ¬ i = 8 * nc + 6 → K' 111 i = K 111 i) (hn4 : K' 111 (8 * nc + 4) = K 105 16 ∧ K' 111 (8 * nc + 5) = K 105 16 ∧ K' 111 (8 * nc + 6) = K' 105 16)
    (hc : Sml (K 105 16) (cs K) (cs K')) (hc2 : K 105 16 ≤ K' 105 16) (hw : ∀ i, K' 117 i = K 117 i) (hk : K' 105 14 = K 105 14 ∧ K' 105 26 = K 105 26)
    (ht : (J' tr 12 = J tr 12 ∧ K' 105 16 = K 105 16) ∨ ∃ d h, Td d ∧ h ≤ 50 ∧ Seg (cC tr J') (J tr 12) (J' tr 12) d h ∧ Seg (cM (cs K')) (K 105 16) (K' 105 16) d h) (htr : tr = 9 ∨ tr = 93) : CX tr (nc + 1) nw J' K' L' := by
  obtain ⟨m1, m2, m3, m4, m5, m6, m7, m8, m9⟩ := h
  have hcc : ∀ i, i < K 105 16 → cM (cs K') i = cM (cs K) i := fun i hi => by unfold cM; rw [(hc i hi).1, (hc i hi).2]
  refine ⟨hP, ⟨fun w a b => ?_, fun c a b => ?_⟩, by omega, ⟨by omega, by rw [hj _ _ (by omega) (by omega) (by omega) (by omega) (by omega)]; exact m8.2.1, by omega⟩, fun i a b => ?_⟩
  · have W := m2 w a b
    obtain ⟨a1, a2, a3, a4, a7, a8, a9, a10⟩ := W
    refine WyO_c (nc := nc + 1) (hj _ _ (by omega) (by omega) (by omega) (by omega) (by omega)) (hj _ _ (by omega) (by omega) (by omega) (by omega) (by omega)) (fun p _ _ => hj _ _ (by omega) (by omega) (by omega) (by omega) (by omega)) (fun k _ _ => hw _) ?_ (by omega) (show WyO J tr (K 117) (fun i => if i = 8 * nc + 4 ∨ i = 8 * nc + 5 ∨ i = 8 * nc + 6 then K' 111 i else K 111 i) (nc + 1) w from ⟨a1, a2, a3, a4, a7, a8, ?_, ?_⟩)
    · intro i _ _
      by_cases c : i = 8 * nc + 4 ∨ i = 8 * nc + 5 ∨ i = 8 * nc + 6
      · rw [if_pos c]
      · rw [if_neg c]; exact hn i (by omega) (by omega) (by omega)
    · dsimp only; rw [if_neg (by omega)]; exact a9
    · dsimp only; rw [if_neg (by omega)]; exact a10
  · by_cases q : c = nc
    · subst q
      refine ⟨?_, ?_, ?_, ?_⟩
      · rw [h3.1, hn4.1]
        exact HdO_c (sN := J tr 12) (mN := K 105 16) ⟨hj _ _ (by omega) (by omega) (by omega) (by omega) (by omega), hj _ _ (by omega) (by omega) (by omega) (by omega) (by omega)⟩ hs (fun k _ _ => hn _ (by omega) (by omega) (by omega)) (fun i _ hi => hcc i hi) (fun w _ _ => hj _ _ (by omega) (by omega) (by omega) (by omega) (by omega)) (Int.le_refl _) (by omega) m6.1 m4
      · rw [h3.2.1, h3.2.2, hn4.2.1, hn4.2.2]
        rcases ht with z | z
        · exact Or.inl ⟨z.1.symm, z.2.symm⟩
        · exact Or.inr z
      · rw [h3.1, h3.2.1, h3.2.2, hj (tr + 2) c (by omega) (by omega) (by omega) (by omega) (by omega)]; omega
      · rw [hn4.1, hn4.2.1, hn4.2.2, hn (8 * c + 3) (by omega) (by omega) (by omega)]; omega
    · have z : ∀ k, 1 ≤ k → k ≤ 5 → J' (tr + k) c = J (tr + k) c := fun k _ _ => hj _ _ (by omega) (by omega) (by omega) (by omega) (by omega)
      exact ClO_c (sN := J tr 12) (mN := K 105 16) ⟨z 1 (by omega) (by omega), z 2 (by omega) (by omega), z 3 (by omega) (by omega), z 4 (by omega) (by omega), z 5 (by omega) (by omega)⟩ hs (fun k _ _ => hn _ (by omega) (by omega) (by omega)) (fun i _ hi => hcc i hi) (fun w _ _ => hj _ _ (by omega) (by omega) (by omega) (by omega) (by omega)) (Int.le_refl _) (by omega) (m3 c a (by omega))
  · rw [hj _ _ (by omega) (by omega) (by omega) (by omega) (by omega)]; exact m9 i a b
/-- the second half: the test -/
theorem rdH2 {nc nw hd x : Int} {dc : Nat} {J K L : JI} (htr : tr = 9 ∨ tr = 93) (hT : TrO e tr) (h104 : e.2.2 104 1 = some tr) (hdm : 9 ≤ dm) (hdc : 45 ≤ dc) (h : Mid tr nc nw J K L) : Ev (fun n => kf_40 n dc e 1 J M nc 1) (fun r => r.2.2 = M ∧ ∃ K' L', Ev (fun n => kf_217 n dm e 4 K L hd (8 * nc) x) (fun s => s = (K', L')) ∧ FrA tr J r.2.1 ∧ FrB K L K' L' ∧ ((r.1 = 1 ∧ CX tr (nc + 1) nw r.2.1 K' L' ∧ J 104 4 ≤ r.2.1 104 4) ∨ (r.1 = 0 ∧ K' 105 13 = 1 ∧ (K' 105 12 = r.2.1 104 4 ∧ 0 ≤ K' 105 12)))) := by
  have h' := h
  obtain ⟨m1, m2, m3, m4, m5, m6, m7, m8, m9⟩ := h
  have m1' := m1
  obtain ⟨p1, p2, p3, p4, p5, p6⟩ := m1
  have p1' := p1
  obtain ⟨t1, t2, t3, t4, t5, t6, t7, t8, t9, t10⟩ := p1
  refine tl1 hT h104 m7.2 (fun z => absurd z (by decide)) (fun _ => ?_)
  have q4 : ∀ i, c3 tr nc J 104 i = J 104 i := fun i => c3_n (by omega) (by omega)
  have q89 : ∀ i, c3 tr nc J 89 i = J 89 i := fun i => c3_n (by omega) (by omega)
  have k2 : ∀ v w : Int, ∀ a i, ¬ (a = 111 ∧ (i = 8 * nc + 4 ∨ i = 8 * nc + 5)) → w2 (w2 K 111 (8 * nc + 4) v) 111 (8 * nc + 5) w a i = K a i := fun v w a i h => by rw [w2_n (by omega), w2_n (by omega)]
  have ck2 : ∀ v w : Int, cs (w2 (w2 K 111 (8 * nc + 4) v) 111 (8 * nc + 5) w) = cs K := fun v w => by rw [cs_w (by decide) (by decide) (by omega), cs_w (by decide) (by decide) (by omega)]
  have tkc : TK (c3 tr nc J) (w2 (w2 K 111 (8 * nc + 4) (K 105 16)) 111 (8 * nc + 5) (K 105 16)) L := TK_c p1' (fun i _ _ => q4 i) q89 (fun i _ _ => k2 _ _ _ _ (by omega)) (fun i => k2 _ _ _ _ (by omega)) rfl
  refine Ev_t (by omega) (Ev41 (by omega) (by decide) (by rw [q4, q4]; omega) (fun wd => ?_) (fun wd => ?_)) <;> dsimp only
  · have wl : J 104 5 - J 104 4 = 2 := by have := wd.2.1; rw [q4, q4] at this; exact this
    have wk := wd.1
    rw [q4] at wk
    have cw := (TK_w tkc (s := 10) (by decide)).mp wd
    have cw : K 105 10 = 1 ∧ L 105 11 = 294 := by rw [k2 _ _ _ _ (by omega)] at cw; exact cw
    refine Ev_f (by decide) (Ev_t (by omega) (Ev_bind (K37 (by omega) (by rw [q4, q4]; omega)) ?_))
    rintro ⟨J1, M1⟩ ⟨hM1, gn⟩
    dsimp only at hM1 gn ⊢
    subst hM1
    have go := GN_o gn
    obtain ⟨s, s1, s2⟩ := Ev_ex (K214 (dp := dm - 1) (e := e) (K := w2 (w2 K 111 (8 * nc + 4) (K 105 16)) 111 (8 * nc + 5) (K 105 16)) (L := L) (by omega) (by rw [k2 _ _ _ _ (by omega), k2 _ _ _ _ (by omega)]; omega))
    have so := (NX_o s1).1
    have g1 := TK_go tkc ⟨rfl, rfl, fun _ => rfl⟩ ⟨rfl, rfl, fun _ => rfl⟩ gn s1
    rw [q4] at g1
    have j12 : J1 tr 12 = J tr 12 := by rw [go _ _ (by omega)]; exact c3_12
    have s16 : s.1 105 16 = K 105 16 := by rw [so _ _ (by omega), k2 _ _ _ _ (by omega)]
    have csS : cs s.1 = cs K := by rw [cs_e so, ck2]
    have pq1 : PQ tr J1 s.1 s.2 := by
      refine ⟨g1.1, by rw [so _ _ (by omega), k2 _ _ _ _ (by omega)]; exact p2, by rw [so _ _ (by omega), k2 _ _ _ _ (by omega), go _ _ (by omega), q4]; exact p3, by rw [s16]; omega, by rw [j12]; omega, fun i hi => by rw [(NX_o s1).2 _ _ (by omega)]; exact p6 i hi⟩
    refine Ev_t (by omega) (Ev_bind (ex_test (x := 0) (dm := dm - 1) htr hT h104 (by omega) (by omega) pq1) ?_)
    rintro ⟨y, J2, M2⟩ ⟨hM2, K2, L2, v1, v2, v3, v4⟩
    dsimp only at hM2 v1 v2 v4 ⊢
    subst hM2
    have fj : FrA tr J (w2 J2 (tr + 5) nc (J2 tr 12)) := by
      refine FrA_t (FrA_t (J1 := c3 tr nc J) ?_ (FrA_G gn)) (FrA_t (FrA_C v2) (FrA_w (by omega)))
      intro a i z1 z2 z3
      exact c3_n (by omega) (by omega)
    have fk : FrB K L (w2 K2 111 (8 * nc + 6) (K2 105 16)) L2 := FrB_t (FrB_t (FrB_w (L := L)) (FrB_t FrB_w (FrB_N s1))) (FrB_t (FrB_M v3) FrB_w)
    have run : Ev (fun n => kf_217 n dm e 4 K L hd (8 * nc) x) (fun s => s = (w2 K2 111 (8 * nc + 6) (K2 105 16), L2)) := by
      refine ev_217_4 ?_
      refine Ev_t (by omega) (Ev_t (by omega) (Ev_st (Ev_t (by omega) (Ev_t (by omega) (Ev_st (Ev_t p2 (Ev_t (by omega) (Ev218t cw ?_))))))))
      dsimp only
      refine Ev_f (by decide) (Ev_t (by omega) (Ev_call s2 (Ev_t (by omega) (Ev_call v1 ?_))))
      refine ev_217_5 ?_
      exact Ev_t (by omega) (Ev_t (by omega) (Ev_st (Ev_ret rfl)))
    rcases v4 with ⟨rfl, ok⟩ | ⟨rfl, f1, f2⟩
    · refine Ev_mono (tl2 hT h104 m7.2 (Or.inr rfl)) (fun r hr => ?_)
      subst hr
      refine ⟨rfl, _, _, run, fj, fk, Or.inl ⟨rfl, ?_, ?_⟩⟩
      · obtain ⟨o1, o2, ⟨d, h, o3, o4, o5, o6⟩, o7⟩ := ok
        have w5 : ∀ a i, ¬ (a = tr + 5 ∧ i = nc) → w2 J2 (tr + 5) nc (J2 tr 12) a i = J2 a i := fun a i h => w2_n h
        have w6 : ∀ a i, ¬ (a = 111 ∧ i = 8 * nc + 6) → w2 K2 111 (8 * nc + 6) (K2 105 16) a i = K2 a i := fun a i h => w2_n h
        have cs2 : cs (w2 K2 111 (8 * nc + 6) (K2 105 16)) = cs K2 := cs_w (by decide) (by decide) (by omega)
        have cc2 : ∀ i, cC tr (w2 J2 (tr + 5) nc (J2 tr 12)) i = cC tr J2 i := fun i => by unfold cC; rw [w5 _ _ (by omega), w5 _ _ (by omega)]
        have v22 := v2.2.2
        rw [j12] at v22 o5
        rw [s16] at o6 o7
        rw [csS] at o7
        have l6 := o6.1
        have jj : ∀ a i, ¬ (a = 104 ∧ 3 ≤ i ∧ i ≤ 7) → ¬ (a = tr ∧ i = 12) → ¬ a = tr + 9 → ¬ a = tr + 10 → ¬ (i = nc ∧ (a = tr + 3 ∨ a = tr + 4)) → J2 a i = J a i := fun a i z1 z2 z3 z4 z5 => by
          rw [v2.1 a i z1 z2 z3 z4, go a i (by omega)]
          exact c3_n (by omega) (by omega)
        have c34 : c3 tr nc J (tr + 3) nc = J tr 12 ∧ c3 tr nc J (tr + 4) nc = J tr 12 := by
          unfold c3
          exact ⟨by rw [w2_n (by omega), w2_ap, if_pos ⟨rfl, rfl⟩], by rw [w2_ap, if_pos ⟨rfl, rfl⟩]⟩
        have j34 : J2 (tr + 3) nc = J tr 12 ∧ J2 (tr + 4) nc = J tr 12 := by
          rw [v2.1 _ _ (by omega) (by omega) (by omega) (by omega), v2.1 _ _ (by omega) (by omega) (by omega) (by omega), go _ _ (by omega), go _ _ (by omega)]
          exact c34
        have kk : ∀ a i, ¬ (a = 105 ∧ (8 ≤ i ∧ i ≤ 10 ∨ i = 12 ∨ i = 13 ∨ i = 16 ∨ i = 19 ∨ i = 22 ∨ i = 23)) → ¬ (112 ≤ a ∧ a ≤ 115) → ¬ (a = 111 ∧ (i = 8 * nc + 4 ∨ i = 8 * nc + 5)) → K2 a i = K a i := fun a i z1 z2 z3 => by
          rw [v3.1 a i z1 z2, so a i (by omega), k2 _ _ a i z3]
        have k45 : K2 111 (8 * nc + 4) = K 105 16 ∧ K2 111 (8 * nc + 5) = K 105 16 := by
          rw [v3.1 _ _ (by omega) (by omega), v3.1 _ _ (by omega) (by omega), so _ _ (by omega), so _ _ (by omega)]
          exact ⟨by rw [w2_n (by omega), w2_ap, if_pos ⟨rfl, rfl⟩], by rw [w2_ap, if_pos ⟨rfl, rfl⟩]⟩
        have cc1 : ∀ i, i < J tr 12 → cC tr J2 i = cC tr J i := fun i hi => by
          have := v2.2.1 i (by rw [j12]; exact hi)
          unfold cC
          rw [this.1, this.2, go _ _ (by omega), go _ _ (by omega), c3_n (by omega) (by omega), c3_n (by omega) (by omega)]
        obtain ⟨b1, b2, b3, b4, b5, b6⟩ := o1
        dsimp only
        refine cls_fin h' ⟨?_, ?_, ?_, ?_, ?_, b6⟩ (fun a i z1 z2 z3 z4 z5 => ?_) ⟨?_, ?_, ?_⟩ (fun i hi => ?_) ?_ (fun i z1 z2 z3 => ?_) ⟨?_, ?_, ?_⟩ ?_ ?_ (fun i => ?_) ⟨?_, ?_⟩ (Or.inr ⟨d, h, o3, o4, ?_, ?_⟩) htr
        · exact TK_c b1 (fun i _ _ => w5 _ _ (by omega)) (fun i => w5 _ _ (by omega)) (fun i _ _ => w6 _ _ (by omega)) (fun i => w6 _ _ (by omega)) rfl
        · rw [w6 _ _ (by omega)]; exact b2
        · rw [w6 _ _ (by omega), w5 _ _ (by omega)]; exact b3
        · rw [w6 _ _ (by omega), w5 _ _ (by omega)]; exact b4
        · rw [w5 _ _ (by omega), w5 _ _ (by omega)]; exact b5
        · rw [w5 _ _ (by omega)]; exact jj a i z1 z2 z3 z4 (by omega)
        · rw [w5 _ _ (by omega)]; exact j34.1
        · rw [w5 _ _ (by omega)]; exact j34.2
        · rw [w2_ap, if_pos ⟨rfl, rfl⟩, w5 _ _ (by omega)]
        · rw [cc2]; exact cc1 i hi
        · rw [w5 _ _ (by omega)]; exact v22
        · rw [w6 _ _ (by omega)]; exact kk 111 i (by omega) (by omega) (by omega)
        · rw [w6 _ _ (by omega)]; exact k45.1
        · rw [w6 _ _ (by omega)]; exact k45.2
        · rw [w2_ap, if_pos ⟨rfl, rfl⟩, w6 _ _ (by omega)]
        · rw [cs2]; exact o7
        · rw [w6 _ _ (by omega)]; omega
        · rw [w6 _ _ (by omega)]; exact kk 117 i (by omega) (by omega) (by omega)
        · rw [w6 _ _ (by omega)]; exact kk _ _ (by omega) (by omega) (by omega)
        · rw [w6 _ _ (by omega)]; exact kk _ _ (by omega) (by omega) (by omega)
        · rw [w5 _ _ (by omega)]
          exact seg_congr (fun i _ _ => cc2 i) o5
        · rw [w6 _ _ (by omega), cs2]; exact o6
      · dsimp only
        rw [w2_n (by omega)]
        have := ok.2.1
        have := GN_f gn
        rw [q4] at this
        omega
    · refine Ev_mono (tl2 hT h104 m7.2 (Or.inl rfl)) (fun r hr => ?_)
      subst hr
      refine ⟨rfl, _, _, run, fj, fk, Or.inr ⟨rfl, ?_, ?_⟩⟩
      · rw [w2_n (by omega)]; exact f1
      · dsimp only
        rw [w2_n (by omega), w2_n (by omega)]; exact f2
  · have cw : ¬ (K 105 10 = 1 ∧ L 105 11 = 294) := fun z => wd ((TK_w tkc (s := 10) (by decide)).mpr (by rw [k2 _ _ _ _ (by omega)]; exact z))
    refine Ev_t rfl (Ev_mono (tl2 hT h104 m7.2 (Or.inr rfl)) (fun r hr => ?_))
    subst hr
    have w5 : ∀ a i, ¬ (a = tr + 5 ∧ i = nc) → w2 (c3 tr nc J) (tr + 5) nc (c3 tr nc J tr 12) a i = c3 tr nc J a i := fun a i h => w2_n h
    have k3 : ∀ v w x : Int, ∀ a i, ¬ (a = 111 ∧ (i = 8 * nc + 4 ∨ i = 8 * nc + 5 ∨ i = 8 * nc + 6)) → w2 (w2 (w2 K 111 (8 * nc + 4) v) 111 (8 * nc + 5) w) 111 (8 * nc + 6) x a i = K a i := fun v w x a i h => by rw [w2_n (by omega), w2_n (by omega), w2_n (by omega)]
    have ck3 : cs (w2 (w2 (w2 K 111 (8 * nc + 4) (K 105 16)) 111 (8 * nc + 5) (K 105 16)) 111 (8 * nc + 6) (K 105 16)) = cs K := by rw [cs_w (by decide) (by decide) (by omega), ck2]
    refine ⟨rfl, w2 (w2 (w2 K 111 (8 * nc + 4) (K 105 16)) 111 (8 * nc + 5) (K 105 16)) 111 (8 * nc + 6) (K 105 16), L, ?_, ?_, ?_, Or.inl ⟨rfl, ?_, ?_⟩⟩
    · refine ev_217_4 ?_
      refine Ev_t (by omega) (Ev_t (by omega) (Ev_st (Ev_t (by omega) (Ev_t (by omega) (Ev_st (Ev_t p2 (Ev_t (by omega) (Ev218f cw ?_))))))))
      dsimp only
      refine Ev_t rfl ?_
      refine ev_217_5 ?_
      exact Ev_t (by omega) (Ev_t (by omega) (Ev_st (Ev_ret rfl)))
    · intro a i z1 z2 z3
      dsimp only
      rw [w5 _ _ (by omega)]
      exact c3_n (by omega) (by omega)
    · exact FrB_t FrB_w (FrB_t FrB_w FrB_w)
    · have c34 : c3 tr nc J (tr + 3) nc = J tr 12 ∧ c3 tr nc J (tr + 4) nc = J tr 12 := by
        unfold c3
        exact ⟨by rw [w2_n (by omega), w2_ap, if_pos ⟨rfl, rfl⟩], by rw [w2_ap, if_pos ⟨rfl, rfl⟩]⟩
      dsimp only
      refine cls_fin h' ⟨?_, ?_, ?_, ?_, ?_, p6⟩ (fun a i z1 z2 z3 z4 z5 => ?_) ⟨?_, ?_, ?_⟩ (fun i hi => ?_) ?_ (fun i z1 z2 z3 => ?_) ⟨?_, ?_, ?_⟩ ?_ ?_ (fun i => ?_) ⟨?_, ?_⟩ (Or.inl ⟨?_, ?_⟩) htr
      · exact TK_c tkc (fun i _ _ => w5 _ _ (by omega)) (fun i => w5 _ _ (by omega)) (fun i _ _ => w2_n (by omega)) (fun i => w2_n (by omega)) rfl
      · rw [k3 _ _ _ _ _ (by omega)]; exact p2
      · rw [k3 _ _ _ _ _ (by omega), w5 _ _ (by omega), q4]; exact p3
      · rw [k3 _ _ _ _ _ (by omega), w5 _ _ (by omega), q4]; exact p4
      · rw [w5 _ _ (by omega), w5 _ _ (by omega), q4, c3_12]; exact p5
      · rw [w5 _ _ (by omega)]; exact c3_n (by omega) (by omega)
      · rw [w5 _ _ (by omega)]; exact c34.1
      · rw [w5 _ _ (by omega)]; exact c34.2
      · rw [w2_ap, if_pos ⟨rfl, rfl⟩, w5 _ _ (by omega)]
      · unfold cC
        rw [w5 _ _ (by omega), w5 _ _ (by omega), c3_n (by omega) (by omega), c3_n (by omega) (by omega)]
      · rw [w5 _ _ (by omega), c3_12]; omega
      · exact k3 _ _ _ _ _ (by omega)
      · rw [w2_n (by omega), w2_n (by omega), w2_ap, if_pos ⟨rfl, rfl⟩]
      · rw [w2_n (by omega), w2_ap, if_pos ⟨rfl, rfl⟩]
      · rw [w2_ap, if_pos ⟨rfl, rfl⟩, k3 _ _ _ _ _ (by omega)]
      · rw [ck3]; exact Sml_r _ _
      · rw [k3 _ _ _ _ _ (by omega)]; omega
      · exact k3 _ _ _ _ _ (by omega)
      · exact k3 _ _ _ _ _ (by omega)
      · exact k3 _ _ _ _ _ (by omega)
      · rw [w5 _ _ (by omega), c3_12]
      · exact k3 _ _ _ _ _ (by omega)
    · dsimp only
      rw [w5 _ _ (by omega), q4]; omega
end CLAUSE
