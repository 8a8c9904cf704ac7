/-! the check of an instruction against the bytes; fields, arrays -/
def fin_ (f : Nat) : Bool := ((clN (f / 100)).2.1 (f % 100)).2.2.2
def ckF (q : MI) (x f : Nat) : Bool := FL.any (fun z => z.2.1 == q.1 && z.2.2.1 == x && z.2.2.2.1 == f && decide (f / 100 < 13) && decide (f % 100 < (clN (f / 100)).2.2))
def ckP (q : MI) (x f : Nat) : Bool := FL.any (fun z => z.2.1 == q.1 && z.2.2.1 == x && z.2.2.2.1 == f && decide (f / 100 < 13) && decide (f % 100 < (clN (f / 100)).2.2) && (!fin_ f || (q.2.2.2.2.2.2 == 2 && q.1 == f / 100 && !z.2.2.2.2)))
def ckM (q : MI) (x mi kd : Nat) : Bool := ML.any (fun z => z.2.1 == q.1 && z.2.2.1 == x && z.2.2.2.1 == mi) && muse.contains mi && (mt mi).2.2.2.2.2.2 == kd
def ck (q : MI) (pc : Nat) (al : Instr × Nat) : Instr → Bool
  | .aload j => match al with
    | (.aload_n t, 1) => t.val == j
    | (.aload t, 2) => t == j
    | _ => false
  | .iload j => match al with
    | (.iload_n t, 1) => t.val == j
    | (.iload t, 2) => t == j
    | _ => false
  | .lload j => match al with
    | (.lload_n t, 1) => t.val == j
    | (.lload t, 2) => t == j
    | _ => false
  | .astore j => match al with
    | (.astore_n t, 1) => t.val == j
    | (.astore t, 2) => t == j
    | _ => false
  | .istore j => match al with
    | (.istore_n t, 1) => t.val == j
    | (.istore t, 2) => t == j
    | _ => false
  | .lstore j => match al with
    | (.lstore_n t, 1) => t.val == j
    | (.lstore t, 2) => t == j
    | _ => false
  | .iinc j c => decide (al = (.iinc j c, 3))
  | .iconst v => match al with
    | (.iconst w, 1) => decide (Int32.ofInt w = Int32.ofInt v)
    | (.bipush w, 2) => decide ((Int8.ofInt w).toInt32 = Int32.ofInt v)
    | (.sipush w, 3) => decide ((Int16.ofInt w).toInt32 = Int32.ofInt v)
    | (.ldc x, 2) => KI.any (fun z => z.2.1 == q.1 && z.2.2.1 == x && decide (z.2.2.2 = v))
    | (.ldc_w x, 3) => KI.any (fun z => z.2.1 == q.1 && z.2.2.1 == x && decide (z.2.2.2 = v))
    | _ => false
  | .sipush v => match al with
    | (.lconst t, 1) => decide (Int64.ofNat (t : Nat) = Int64.ofInt v)
    | (.ldc2_w x, 3) => KJ.any (fun z => z.2.1 == q.1 && z.2.2.1 == x && decide (z.2.2.2 = v))
    | _ => false
  | .ldc j => match al with
    | (.ldc x, 2) => q.1 == 8 && (sIdx.map (fun z => z.1))[j]? == some x
    | _ => false
  | .goto t => match al with
    | (.goto w, 3) => decide ((pc : Int) + w = t) && decide (0 ≤ t)
    | _ => false
  | .if_icmp c t => match al with
    | (.if_icmp b w, 3) => decide (b = c) && decide ((pc : Int) + w = t) && decide (0 ≤ t)
    | _ => false
  | .ifCond c t => match al with
    | (.ifCond b w, 3) => decide (b = c) && decide ((pc : Int) + w = t) && decide (0 ≤ t)
    | _ => false
  | .ifnonnull t => match al with
    | (.ifnonnull w, 3) => decide ((pc : Int) + w = t) && decide (0 ≤ t)
    | _ => false
  | .tableswitch df lo hi ts => match al with
    | (.tableswitch w lo' hi' ws, _) => decide (lo' = lo) && decide (hi' = hi) && decide ((pc : Int) + w = df) && decide (0 ≤ df) && decide (ws.toList.map (fun z => (pc : Int) + z) = ts.toList) && ts.toList.all (fun z => decide (0 ≤ z)) && decide ((ts.size : Int) = hi - lo + 1)
    | _ => false
  | .getfield f => match al with
    | (.getfield x, 3) => if f = 5000 then q.1 == 16 && x == 9 else if f = 5001 then q.1 == 16 && x == 15 else ckF q x f
    | _ => false
  | .putfield f => match al with
    | (.putfield x, 3) => ckP q x f
    | _ => false
  | .getstatic j => match al with
    | (.getstatic x, 3) => q.1 == 16 && (j == 0 && x == 38 || j == 1 && x == 1053)
    | _ => false
  | .newarray t => decide (al = (.newarray t, 2))
  | .anewarray t => match al with
    | (.anewarray x, 3) => (t == 16 || t == 17) && ALt.any (fun z => z.2.1 == q.1 && z.2.2.1 == x && z.2.2.2 == t)
    | _ => false
  | .new t => match al with
    | (.new x, 3) => decide (t < 13) && CL.any (fun z => z.2.1 == q.1 && z.2.2.1 == x && z.2.2.2 == t)
    | _ => false
  | .invokestatic mi => match al with
    | (.invokestatic x, 3) => ckM q x mi 0
    | _ => false
  | .invokevirtual mi => match al with
    | (.invokevirtual x, 3) => ckM q x mi 1
    | _ => false
  | .invokespecial mi => match al with
    | (.invokespecial x, 3) => ckM q x mi 2
    | _ => false
  | .invokedynamic j => match al with
    | (.invokestatic x, 3) => !(j == 1) && SLt.any (fun z => z.2.1 == q.1 && z.2.2.1 == x && z.2.2.2 == j)
    | (.invokespecial x, 3) => j == 1 && SLt.any (fun z => z.2.1 == q.1 && z.2.2.1 == x && z.2.2.2 == j)
    | _ => false
  | i => decide (al = (i, 1))
/-- a list of instructions is what stands in the code from its first place to e -/
def chk (q : MI) (e : Nat) : Nat → List (Nat × Instr) → Bool
  | pc, [] => pc == e
  | pc, z :: is => z.1 == pc && (match decode q.2.2.1 pc with
    | .ok al => ck q pc al z.2 && chk q e (pc + al.2) is
    | _ => false)
theorem FL_word {z : Nat × L4} (h : z ∈ FL) : fWd z.2 ∈ lw_tbl := at_in (List.all_eq_true.mp FL_ok z h)
theorem ML_word {z : Nat × L4} (h : z ∈ ML) : mWd z.2 ∈ lw_tbl := at_in (List.all_eq_true.mp ML_ok z h)
section S2
variable {X : GX} {q : MI} {p : Program} {e : Env} {R : Room} {s : State} {m : MethodId} {args : Array Value} {below : List Frame} {meth : Method} {c : Code} {E : State → Prop} {d MC MS : Nat}
variable {pc : Nat} {ls : LcT} {r : List Value} {σ : PS} {k n : Nat}
theorem s_getf (ac : AC X q p s m args meth c) {x f a t : Nat} (hd : decode q.2.2.1 pc = .ok (.getfield x, 3)) (hc : ckF q x f = true) (ha : a < σ.1) (hk : (σ.2.1 a).1 = f / 100) (ht : (fty (f / 100))[f % 100]? = some t)
    (g : OK X q p e R s m args below meth c E (pc + 3) ls (fv σ t a (f % 100) :: r) σ k n) : OK X q p e R s m args below meth c E pc ls (.ref a :: r) σ k n := by
  intro H locs lsM hw hs hl
  obtain ⟨hx, hb, hml, hlk, hown, hts, hgf, hini⟩ := ac
  obtain ⟨z, hz, hz2⟩ := List.any_eq_true.mp hc
  simp only [Bool.and_eq_true, beq_iff_eq, decide_eq_true_eq] at hz2
  obtain ⟨⟨⟨⟨e1, e2⟩, e3⟩, e4⟩, e5⟩ := hz2
  have hword := FL_word hz
  obtain ⟨c1, c2, c3, c4, c5, c6, c7, c8, c9, c10⟩ := cokA (f / 100) e4
  have he : (pws X σ)[a]? = some (gb X + a, .inr (f / 100, (fty (f / 100)).mapIdx (fun j t => mv X (fv σ t a j)))) := by rw [pws_at ha, pc_obj hk e4]
  have hv : ((fty (f / 100)).mapIdx (fun j t => mv X (fv σ t a j)))[f % 100]? = some (mv X (fv σ t a (f % 100))) := by rw [List.getElem?_mapIdx, ht]; rfl
  have hsame : ∀ y, s.fieldFound? ((clN (f / 100)).2.1 (f % 100)).1 ((clN (f / 100)).2.1 (f % 100)).2.1 ((clN (f / 100)).2.1 (f % 100)).2.2.1 = some y → s.fieldFound? (clN (f / 100)).1 ((clN (f / 100)).2.1 (f % 100)).2.1 ((clN (f / 100)).2.1 (f % 100)).2.2.1 = some y := fun y h => by rw [c5 _ e5] at h; exact h
  obtain ⟨zp, z1, z2, z3, z4⟩ := z
  subst e1; subst e2; subst e3
  cases z4 with
  | false =>
    exact va_get hx hb hts c2 hown hgf.1 hw.2 a he c1 (z3 % 100) e5 (hts _ (gtb_in hword rfl)) hsame hv hd (g H locs lsM hw hs hl)
  | true =>
    exact va_getN hx hb hts c2 hown hgf.1 hw.2 a he c1 (z3 % 100) e5 (va_Nw.use rfl (hgf.2.1 _ hword rfl)) hsame hv hd (g H locs lsM hw hs hl)
/-- a field is put: any value of its type -/
theorem s_putf (ac : AC X q p s m args meth c) {x f a t : Nat} {v : Value} {τ : PS} (hd : decode q.2.2.1 pc = .ok (.putfield x, 3)) (hc : ckP q x f = true) (ha : a < σ.1) (hk : (σ.2.1 a).1 = f / 100) (ht : (fty (f / 100))[f % 100]? = some t)
    (hfit : ∀ ty, tyB t ty = true → narrow ty (mv X v) = mv X v ∧ fits ty (mv X v) = true) (h1 : τ.1 = σ.1) (h2 : τ.2.1 = σ.2.1) (h3 : fv τ t a (f % 100) = v) (h4 : ∀ j t', j ≠ f % 100 → fv τ t' a j = fv σ t' a j) (h5 : ∀ b, b ≠ a → pcell X τ b = pcell X σ b)
    (g : OK X q p e R s m args below meth c E (pc + 3) ls r τ k n) : OK X q p e R s m args below meth c E pc ls (v :: .ref a :: r) σ k n := by
  intro H locs lsM hw hs hl
  obtain ⟨hx, hb, hml, hlk, hown, hts, hgf, hini⟩ := ac
  obtain ⟨z, hz, hz2⟩ := List.any_eq_true.mp hc
  simp only [Bool.and_eq_true, beq_iff_eq, decide_eq_true_eq, Bool.or_eq_true, Bool.not_eq_true'] at hz2
  obtain ⟨⟨⟨⟨⟨e1, e2⟩, e3⟩, e4⟩, e5⟩, e6⟩ := hz2
  have hword := FL_word hz
  obtain ⟨c1, c2, c3, c4, c5, c6, c7, c8, c9, c10⟩ := cokA (f / 100) e4
  have he : (pws X σ)[a]? = some (gb X + a, .inr (f / 100, (fty (f / 100)).mapIdx (fun j t => mv X (fv σ t a j)))) := by rw [pws_at ha, pc_obj hk e4]
  have hlen : f % 100 < ((fty (f / 100)).mapIdx (fun j t => mv X (fv σ t a j))).length := by rw [List.length_mapIdx]; exact (List.getElem?_eq_some_iff.mp ht).1
  have hsame : ∀ y, s.fieldFound? ((clN (f / 100)).2.1 (f % 100)).1 ((clN (f / 100)).2.1 (f % 100)).2.1 ((clN (f / 100)).2.1 (f % 100)).2.2.1 = some y → s.fieldFound? (clN (f / 100)).1 ((clN (f / 100)).2.1 (f % 100)).2.1 ((clN (f / 100)).2.1 (f % 100)).2.2.1 = some y := fun y h => by rw [c5 _ e5] at h; exact h
  have hty : tyB t (tyT (f / 100) (f % 100)) = true := by
    have h9 := c7 _ e5
    rwa [show (fty (f / 100)).getD (f % 100) 9 = t by simp [ht]] at h9
  obtain ⟨f1, f2⟩ := hfit _ hty
  have hset : (pws X σ).set a (gb X + a, .inr (f / 100, ((fty (f / 100)).mapIdx (fun j t => mv X (fv σ t a j))).set (f % 100) (mv X v))) = pws X τ := by
    refine pws_set h1 ha ?_ h5
    rw [pc_obj (c := f / 100) (by rw [h2]; exact hk) e4]
    exact congrArg _ (congrArg _ (mapIdx_set ht (by rw [h3]) (fun j t' hj => by rw [h4 j t' hj])).symm)
  have hap := va_apart (own := onN q.1) hts c2 (tyT (f / 100)) c3 c4 hgf.1 c1
  obtain ⟨rr, g1, cell, q1, q2, q3, q4⟩ := hw.2 a _ he
  have hr : rr = clN (f / 100) := Option.some.inj (g1.symm.trans c1)
  subst hr
  obtain ⟨hS, hfc, kC, hkC, hkind⟩ := hgf.1.1 (f / 100) _ c1
  obtain ⟨cf, kf, fi, fd, hi, hsl⟩ := hS _ e5
  have hst := (u_facts hfc hkC (u_lays hts c2 e5) hi).1
  have hlay := hts _ (c2 _ (u_in_lay e5))
  have fin : ∀ (H1 : Heap), H1[gb X + a]? = some (cell.setSlot fd.slot (mv X v)) → H1.size = H.size → (∀ z : Nat, z ≠ gb X + a → H1[z]? = H[z]?) → W p (gl X) e R s m args below meth c H1 (locs ++ [⟨gb X + a, fd.slot⟩]) k n E (F0 m (pc + 3) lsM (r.map (mv X))) := by
    intro H1 i1 i2 i3
    have i1' : H1[gb X + a]? = some (cell.setSlot (X.1.2 (f / 100) (f % 100)) (mv X v)) := by rw [← hsl]; exact i1
    have hP1 : va_P X.1 cls ((pws X σ).set a (gb X + a, .inr (f / 100, ((fty (f / 100)).mapIdx (fun j t => mv X (fv σ t a j))).set (f % 100) (mv X v)))) H1 :=
      hw.2.set (pws_D X σ) he ⟨_, c1, t_OB.to (V := updV (vp_V ((fty (f / 100)).mapIdx (fun j t => mv X (fv σ t a j)))) (f % 100) (mv X v)) ⟨cell.setSlot (X.1.2 (f / 100) (f % 100)) (mv X v), i1', q2, q3, t_set q4 hap e5 (mv X v)⟩ (fun j _ => vp_updV_set hlen (mv X v) j)⟩ i3
    rw [hset] at hP1
    exact g H1 _ lsM ⟨by rw [i2, hw.1, h1], hP1⟩ (hs.put i2 i3 (show gb X ≤ gb X + a by omega)) hl
  have hsl' : fd.slot < cell.slots.size := by rw [hsl]; exact k2_hasslot (q4 _ e5)
  obtain ⟨zp, z1, z2, z3, z4⟩ := z
  subst e1; subst e2; subst e3
  rcases e6 with e6 | ⟨⟨e6, e7⟩, e8⟩
  · have e6' : ((clN (z3 / 100)).2.1 (z3 % 100)).2.2.2 = false := e6
    unfold u_lay at hlay
    rw [if_neg (by rw [e6']; decide)] at hlay
    have h6 := u_store hfc hkC hkind hlay hi (c3 _ e5) f1 f2
    cases z4 with
    | false => exact W.putK hx hb (f := fd) ⟨hown, hts _ (gtb_in hword rfl), ⟨_, _, _, hsame _ hi⟩, hst⟩ (by rw [q2]; exact h6) q1 q3 hsl' rfl rfl hd fin
    | true => exact va_WputK hx hb (f := fd) hown (va_Nw.use rfl (hgf.2.1 _ hword rfl)) (hsame _ hi) hst (by rw [q2]; exact h6) q1 q3 hsl' rfl rfl hd fin
  · cases z4 with
    | true => cases e8
    | false =>
      by_cases hf : ((clN (z3 / 100)).2.1 (z3 % 100)).2.2.2 = true
      · unfold u_lay at hlay
        rw [if_pos hf] at hlay
        have hcf : m.cls = cf := by
          obtain ⟨_, _, c', _, _, _, -, -, hf', -, -, -, hown2, -⟩ := Cond.laysFinal_spec hlay
          have y1 : c' = cf := by have := hi.symm.trans hf'; simp at this; exact this.1.symm
          rw [c5 _ e5, ← c10, ← e7] at hown2
          rw [← y1]; exact Option.some.inj (hown.symm.trans hown2)
        have h6 := u_fits hfc hkC hkind (Or.inr hlay) hi (c3 _ e5) f1 f2
        exact W.putFinK hx hb hown (hts _ (gtb_in hword rfl)) (hsame _ hi) hst hcf (hini e6) (by rw [q2]; exact h6) q1 q3 hsl' rfl rfl hd fin
      · unfold u_lay at hlay
        rw [if_neg hf] at hlay
        have h6 := u_store hfc hkC hkind hlay hi (c3 _ e5) f1 f2
        exact W.putK hx hb (f := fd) ⟨hown, hts _ (gtb_in hword rfl), ⟨_, _, _, hsame _ hi⟩, hst⟩ (by rw [q2]; exact h6) q1 q3 hsl' rfl rfl hd fin
theorem tys_at (X : GX) : (gtys X)[0]? = some (gt X 13, .int) ∧ (gtys X)[1]? = some (gt X 14, .long) ∧ (gtys X)[2]? = some (gt X 15, .boolean) ∧ (gtys X)[3]? = some (gt X 16, .object RX2) ∧ (gtys X)[4]? = some (gt X 17, .object RX3) := ⟨rfl, rfl, rfl, rfl, rfl⟩
/-- a cell is changed at one place: the world behind -/
theorem w_set {τ : PS} {a : Nat} {E1 : va_E} {H H1 : Heap} (hw : wldH X σ H) (ha : a < σ.1) (h1 : τ.1 = σ.1) (he : pcell X τ a = E1) (h5 : ∀ b, b ≠ a → pcell X τ b = pcell X σ b) (i1 : va_at X.1 cls (gb X + a, E1) H1) (i2 : H1.size = H.size) (i3 : ∀ z : Nat, z ≠ gb X + a → H1[z]? = H[z]?) : wldH X τ H1 := by
  refine ⟨by rw [i2, hw.1, h1], ?_⟩
  rw [← pws_set h1 ha he h5]
  exact hw.2.set (pws_D X σ) (pws_at ha) i1 i3
theorem zq_aset (cA : ClassId) (m : Nat) (f : Nat → Value) (g : Nat → Value) (j : Nat) (v : Value) (hv : ∀ i, g i = if i = j then v else f i) : (arrV cA m f).setSlot j v = arrV cA m g := by
  rw [arrV_store]
  congr 1
  funext i
  rw [hv i]
  simp [updV]
theorem s_iast (ac : AC X q p s m args meth c) {x i : Int32} {a m0 : Nat} (hd : decode q.2.2.1 pc = .ok (.iastore, 1)) (ha : a < σ.1) (hk : σ.2.1 a = (13, m0)) (hi : vp_in i m0)
    (g : OK X q p e R s m args below meth c E (pc + 1) ls r (setI σ a i.toNatClampNeg x) k n) : OK X q p e R s m args below meth c E pc ls (.int x :: .int i :: .ref a :: r) σ k n := by
  intro H locs lsM hw hs hl
  obtain ⟨hx, hb, hml, hlk, hown, hts, hgf, hini⟩ := ac
  have hc := hw.2 a _ (pws_at ha)
  rw [pc_int hk] at hc
  refine W.iast hx hb hc ((hgf.1.2 0 _ (tys_at X).1).1 m0 (fun j => .int (σ.2.2.1 a j))) (fun z => by cases z) (by show ¬ (i < 0 ∨ (arrV _ _ _).slots.size ≤ _); rw [arrV_size]; exact hi) rfl rfl hd fun H1 i1 i2 i3 => ?_
  refine g H1 _ lsM (w_set hw ha rfl (pc_int hk) (fun b hb => pcell_I hb) ?_ i2 i3) (hs.put i2 i3 (show gb X ≤ gb X + a by omega)) hl
  refine Eq.trans i1 (congrArg some ?_)
  show (arrV (gt X 13) m0 (fun j => .int (σ.2.2.1 a j))).setSlot i.toNatClampNeg (.int x) = arrV (gt X 13) m0 (fun j => .int (u2 σ.2.2.1 a i.toNatClampNeg x a j))
  refine zq_aset _ _ _ _ _ _ (fun j => ?_)
  show Value.int (u2 σ.2.2.1 a i.toNatClampNeg x a j) = _
  rw [u2_eq]
  by_cases hj : j = i.toNatClampNeg <;> simp [va_up, hj]
theorem s_bast (ac : AC X q p s m args meth c) {x i : Int32} {a m0 : Nat} (hd : decode q.2.2.1 pc = .ok (.bastore, 1)) (ha : a < σ.1) (hk : σ.2.1 a = (15, m0)) (hi : vp_in i m0) (hx01 : x = 0 ∨ x = 1)
    (g : OK X q p e R s m args below meth c E (pc + 1) ls r (setI σ a i.toNatClampNeg x) k n) : OK X q p e R s m args below meth c E pc ls (.int x :: .int i :: .ref a :: r) σ k n := by
  intro H locs lsM hw hs hl
  obtain ⟨hx, hb, hml, hlk, hown, hts, hgf, hini⟩ := ac
  have hc := hw.2 a _ (pws_at ha)
  rw [pc_bool hk] at hc
  have hnar : narrow .boolean (.int x) = .int x := by rcases hx01 with rfl | rfl <;> rfl
  refine W.zast hx hb hc ((hgf.1.2 2 _ (tys_at X).2.2.1).1 m0 (fun j => .int (σ.2.2.1 a j))) (fun z => by cases z) (by show ¬ (i < 0 ∨ (arrV _ _ _).slots.size ≤ _); rw [arrV_size]; exact hi) rfl rfl hd fun H1 i1 i2 i3 => ?_
  rw [hnar] at i1
  refine g H1 _ lsM (w_set hw ha rfl (pc_bool hk) (fun b hb => pcell_I hb) ?_ i2 i3) (hs.put i2 i3 (show gb X ≤ gb X + a by omega)) hl
  refine Eq.trans i1 (congrArg some ?_)
  show (arrV (gt X 15) m0 (fun j => .int (σ.2.2.1 a j))).setSlot i.toNatClampNeg (.int x) = arrV (gt X 15) m0 (fun j => .int (u2 σ.2.2.1 a i.toNatClampNeg x a j))
  refine zq_aset _ _ _ _ _ _ (fun j => ?_)
  show Value.int (u2 σ.2.2.1 a i.toNatClampNeg x a j) = _
  rw [u2_eq]
  by_cases hj : j = i.toNatClampNeg <;> simp [va_up, hj]
theorem s_last (ac : AC X q p s m args meth c) {x : Int64} {i : Int32} {a m0 : Nat} (hd : decode q.2.2.1 pc = .ok (.lastore, 1)) (ha : a < σ.1) (hk : σ.2.1 a = (14, m0)) (hi : vp_in i m0)
    (g : OK X q p e R s m args below meth c E (pc + 1) ls r (setL σ a i.toNatClampNeg x) k n) : OK X q p e R s m args below meth c E pc ls (.long x :: .int i :: .ref a :: r) σ k n := by
  intro H locs lsM hw hs hl
  obtain ⟨hx, hb, hml, hlk, hown, hts, hgf, hini⟩ := ac
  have hc := hw.2 a _ (pws_at ha)
  rw [pc_long hk] at hc
  refine W.last hx hb hc ((hgf.1.2 1 _ (tys_at X).2.1).1 m0 (fun j => .long (σ.2.2.2.1 a j))) (fun z => by cases z) (by show ¬ (i < 0 ∨ (arrV _ _ _).slots.size ≤ _); rw [arrV_size]; exact hi) rfl rfl hd fun H1 i1 i2 i3 => ?_
  refine g H1 _ lsM (w_set hw ha rfl (pc_long hk) (fun b hb => pcell_L hb) ?_ i2 i3) (hs.put i2 i3 (show gb X ≤ gb X + a by omega)) hl
  refine Eq.trans i1 (congrArg some ?_)
  show (arrV (gt X 14) m0 (fun j => .long (σ.2.2.2.1 a j))).setSlot i.toNatClampNeg (.long x) = arrV (gt X 14) m0 (fun j => .long (u2 σ.2.2.2.1 a i.toNatClampNeg x a j))
  refine zq_aset _ _ _ _ _ _ (fun j => ?_)
  show Value.long (u2 σ.2.2.2.1 a i.toNatClampNeg x a j) = _
  rw [u2_eq]
  by_cases hj : j = i.toNatClampNeg <;> simp [va_up, hj]
theorem s_aast (ac : AC X q p s m args meth c) {i : Int32} {a v c0 m0 : Nat} (hd : decode q.2.2.1 pc = .ok (.aastore, 1)) (ha : a < σ.1) (hv : v < σ.1) (hk : σ.2.1 a = (c0, m0)) (hc0 : c0 = 16 ∧ (σ.2.1 v).1 = 2 ∨ c0 = 17 ∧ (σ.2.1 v).1 = 3) (hi : vp_in i m0)
    (g : OK X q p e R s m args below meth c E (pc + 1) ls r (setR σ a i.toNatClampNeg (some v)) k n) : OK X q p e R s m args below meth c E pc ls (.ref v :: .int i :: .ref a :: r) σ k n := by
  intro H locs lsM hw hs hl
  obtain ⟨hx, hb, hml, hlk, hown, hts, hgf, hini⟩ := ac
  have hcc : c0 = 16 ∨ c0 = 17 := by rcases hc0 with h | h <;> simp [h.1]
  have hc := hw.2 a _ (pws_at ha)
  rw [pc_ref hk hcc] at hc
  obtain ⟨ci, hci, t0, hci13, ht0⟩ : ∃ ci, (σ.2.1 v).1 = ci ∧ ∃ t0, ci < 13 ∧ (gtys X)[t0]? = some (gt X c0, FieldType.object (clN ci).1) := by
    rcases hc0 with ⟨rfl, h⟩ | ⟨rfl, h⟩
    · exact ⟨2, h, 3, by decide, rfl⟩
    · exact ⟨3, h, 4, by decide, rfl⟩
  have hvc := hw.2 v _ (pws_at hv)
  rw [pc_obj hci hci13] at hvc
  obtain ⟨c1, -⟩ := cokA ci hci13
  obtain ⟨r', hr', cellV, g1, g2, g3, -⟩ := hvc
  have hcls := (hgf.1.1 ci _ c1).2
  obtain ⟨kA, comp, k1, k2, k3, -⟩ := (hgf.1.2 t0 _ ht0).2
  have hcomp : comp = X.1.1 ci := Option.some.inj (k3.symm.trans hcls.1)
  subst hcomp
  obtain ⟨kC, hkC, -⟩ := hcls.2
  have hlt : i.toNatClampNeg < m0 := Nat.not_le.mp fun z => hi (Or.inr z)
  refine W.aast hx hb hc (fun z h => by cases h) (fun h => by cases h) k1 k2 rfl hkC ⟨fun z => hi (Or.inl z), by show _ < (arrV _ _ _).slots.size; rw [arrV_size]; exact hlt⟩ g1 (fun z h => by rw [g3] at h; cases h) (by rw [g2]; exact hkC) (by rw [g2]; exact va_assign hcls) rfl rfl hd fun H1 i1 i2 i3 => ?_
  refine g H1 _ lsM (w_set hw ha rfl (pc_ref hk hcc) (fun b hb => pcell_R hb) ?_ i2 i3) (hs.put i2 i3 (show gb X ≤ gb X + a by omega)) hl
  refine Eq.trans i1 (congrArg some ?_)
  show (arrV (gt X c0) m0 (fun j => va_rf (mr X (σ.2.2.2.2 a j)))).setSlot i.toNatClampNeg (.ref (gb X + v)) = arrV (gt X c0) m0 (fun j => va_rf (mr X (u2 σ.2.2.2.2 a i.toNatClampNeg (some v) a j)))
  refine zq_aset _ _ _ _ _ _ (fun j => ?_)
  show va_rf (mr X (u2 σ.2.2.2.2 a i.toNatClampNeg (some v) a j)) = _
  rw [u2_eq]
  by_cases hj : j = i.toNatClampNeg <;> simp [va_up, hj, mr, va_rf]
end S2
