/-! THE SMALL MACHINE: cells as four functions of address and place; one step as a predicate transformer -/
abbrev PS : Type := Nat × (Nat → Nat × Nat) × (Nat → Nat → Int32) × (Nat → Nat → Int64) × (Nat → Nat → Option Nat)
abbrev LcT : Type := List (Option Value)
/-- what is fixed: slots of classes, base address, outer addresses, classes of arrays, the script, whether the formatter is null, the launch -/
abbrev GX : Type := va_G × Nat × (Nat → Nat) × (Nat → ClassId) × (Nat × (Nat → Int32)) × Bool × Launch
def gb (X : GX) : Nat := X.2.1
def gs (X : GX) : Nat → Nat := X.2.2.1
def gt (X : GX) : Nat → ClassId := X.2.2.2.1
def gN (X : GX) : Nat := X.2.2.2.2.1.1
def gx (X : GX) : Nat → Int32 := X.2.2.2.2.1.2
def gf (X : GX) : Bool := X.2.2.2.2.2.1
def gl (X : GX) : Launch := X.2.2.2.2.2.2
def gA (X : GX) : Nat → Prop := fun q => gb X ≤ q
def mv (X : GX) : Value → Value
  | .ref a => .ref (gb X + a)
  | .retAddr j => .ref (gs X j)
  | v => v
def mr (X : GX) (r : Option Nat) : Option Nat := r.map (gb X + ·)
def isR : Value → Bool
  | .ref _ => true
  | .retAddr _ => true
  | .null => true
  | _ => false
def fty (c : Nat) : List Nat := ftab.getD c []
/-- the value of a field of type t (2 a reference, 3 a long, else an int) -/
def fv (σ : PS) (t a j : Nat) : Value := if t = 2 then va_rf (σ.2.2.2.2 a j) else if t = 3 then .long (σ.2.2.2.1 a j) else .int (σ.2.2.1 a j)
def pcell (X : GX) (σ : PS) (a : Nat) : va_E :=
  if (σ.2.1 a).1 = 13 ∨ (σ.2.1 a).1 = 15 then .inl (gt X (σ.2.1 a).1, (σ.2.1 a).2, .inl (σ.2.2.1 a))
  else if (σ.2.1 a).1 = 14 then .inl (gt X 14, (σ.2.1 a).2, .inr (.inl (σ.2.2.2.1 a)))
  else if 16 ≤ (σ.2.1 a).1 then .inl (gt X (σ.2.1 a).1, (σ.2.1 a).2, .inr (.inr (.inr (.inr (fun j => mr X (σ.2.2.2.2 a j))))))
  else .inr ((σ.2.1 a).1, (fty (σ.2.1 a).1).mapIdx (fun j t => mv X (fv σ t a j)))
def pws (X : GX) (σ : PS) : va_W := (List.range σ.1).map fun a => (gb X + a, pcell X σ a)
def wldH (X : GX) (σ : PS) (H : Heap) : Prop := H.size = gb X + σ.1 ∧ va_P X.1 cls (pws X σ) H
def u2 {α : Type} (f : Nat → Nat → α) (a k : Nat) (v : α) : Nat → Nat → α := va_up f a (va_up (f a) k v)
abbrev setI (σ : PS) (a k : Nat) (v : Int32) : PS := (σ.1, σ.2.1, u2 σ.2.2.1 a k v, σ.2.2.2.1, σ.2.2.2.2)
abbrev setL (σ : PS) (a k : Nat) (v : Int64) : PS := (σ.1, σ.2.1, σ.2.2.1, u2 σ.2.2.2.1 a k v, σ.2.2.2.2)
abbrev setR (σ : PS) (a k : Nat) (v : Option Nat) : PS := (σ.1, σ.2.1, σ.2.2.1, σ.2.2.2.1, u2 σ.2.2.2.2 a k v)
abbrev setW (σ : PS) (a : Nat) (f : Nat → Int32) : PS := (σ.1, σ.2.1, va_up σ.2.2.1 a f, σ.2.2.2.1, σ.2.2.2.2)
abbrev alo (σ : PS) (c n : Nat) : PS := (σ.1 + 1, va_up σ.2.1 σ.1 (c, n), va_up σ.2.2.1 σ.1 (fun _ => 0), va_up σ.2.2.2.1 σ.1 (fun _ => 0), va_up σ.2.2.2.2 σ.1 (fun _ => none))
/-- locals -/
def isLg : Option (Option Value) → Bool
  | some (some (.long _)) => true
  | some (some (.double _)) => true
  | _ => false
def klg (ls : LcT) : Nat → LcT
  | 0 => ls
  | j + 1 => if isLg ls[j]? then ls.set j none else ls
def st1 (ls : LcT) (j : Nat) (v : Value) : LcT := (klg ls j).set j (some v)
def st2 (ls : LcT) (j : Nat) (v : Value) : LcT := ((klg ls j).set j (some v)).set (j + 1) none
def cm : ClassFile.Cond → Int32 → Int32 → Prop
  | .eq, x, y => x = y
  | .ne, x, y => ¬ x = y
  | .lt, x, y => x < y
  | .ge, x, y => y ≤ x
  | .gt, x, y => y < x
  | .le, x, y => x ≤ y
def cn : ClassFile.Cond → Int32 → Int32 → Prop
  | .eq, x, y => ¬ x = y
  | .ne, x, y => x = y
  | .lt, x, y => ¬ x < y
  | .ge, x, y => ¬ y ≤ x
  | .gt, x, y => ¬ y < x
  | .le, x, y => ¬ x ≤ y
def csum (r : List Value) : Nat := (r.map fun v => v.category).sum

def sbyt : List (List Int32) := [[99, 117, 116], [116, 111], [97, 110, 100], [109, 105, 110, 117, 116, 101, 115], [99, 108, 97, 115, 115], [112, 97, 114, 116], [119, 97, 121], [100, 97, 121], [119, 101, 105, 103, 104, 116], [115, 107, 105, 108, 108], [105, 102], [110, 111, 116], [111, 114]]
def sLen : List Nat := [3, 2, 3, 7, 5, 4, 3, 3, 6, 5, 2, 3, 2]
def sIdx : List (Nat × String) := [(69, "cut"), (115, "to"), (120, "and"), (81, "minutes"), (156, "class"), (160, "part"), (162, "way"), (164, "day"), (166, "weight"), (86, "skill"), (94, "if"), (139, "not"), (128, "or")]
/-- the words that stay, and the nest mates' words -/
def gtb : List Cond := lw_tbl.filter goodWord
theorem gtb_in {w : Cond} (h : w ∈ lw_tbl) (g : goodWord w = true) : w ∈ gtb := List.mem_filter.mpr ⟨h, g⟩
theorem gtb_good : GoodIn gtb gtb := fun w hw => ⟨hw, good_of_word (List.mem_filter.mp hw).2⟩
def isN : Cond → Bool
  | .fieldLinkNest .. => true
  | .methodLinkNest .. => true
  | _ => false
/-- what holds of the tables and of the cells outside -/
def gtys (X : GX) : List (ClassId × FieldType) := [(gt X 13, .int), (gt X 14, .long), (gt X 15, .boolean), (gt X 16, .object RX2), (gt X 17, .object RX3)]
def GF (X : GX) (U : State) : Prop :=
  va_K X.1 cls (gtys X) U ∧ (∀ w ∈ lw_tbl, isN w = true → va_Nw w U) ∧ va_AO RX2 U ∧ va_AO RX3 U ∧ vk_S 13 sLen sbyt (fun j => gs X j) (fun j => gs X (20 + j)) (gA X) U U.heap ∧ (∀ (j idx : Nat) (tx : String), sIdx[j]? = some (idx, tx) → vk_R RX8 idx tx (gs X j) U) ∧
  va_Z "java/lang/String" "COMPACT_STRINGS" "Z" (.int 1) (gA X) U U.heap ∧ va_Z "jdk/internal/util/Preconditions" "SIOOBE_FORMATTER" "Ljava/util/function/BiFunction;" (if gf X then .null else .ref (gs X 101)) (gA X) U U.heap ∧
  va_X (gs X 100) (gN X) (gx X) U U.heap ∧ gs X 100 < gb X ∧ gb X ≤ U.heap.size
def rmo (d mc ms : Nat) : Room := { frames := d, cells := mc, slots := ms, locals := 40 * d }
def PcX (X : GX) (av : List Value) (σ : PS) : Array Value → State → Prop := va_Pc (av.map (mv X)) (fun U => wldH X σ U.heap ∧ GF X U)
def QcX (X : GX) (Q : Option Value → PS → Prop) : Array Value → State → Outcome → State → Prop := fun _ st oc t => (∃ (r : Option Value) (σ : PS), oc = .returned (r.map (mv X)) ∧ Q r σ ∧ wldH X σ t.heap) ∧ va_F (gA X) st t
/-- THE CONTRACT of method mi: at depth d, making mc cells of ms slots, from arguments av and state σ it returns with Q -/
def Ct (X : GX) (d mi mc ms : Nat) (av : List Value) (σ : PS) (Q : Option Value → PS → Prop) : Prop :=
  Met (gl X) (mt mi).2.1 (Cond.code (mt mi).2.1 (mt mi).2.2.1 (mt mi).2.2.2.1 (mt mi).2.2.2.2.1 :: gtb) (rmo d mc ms) (PcX X av σ) (QcX X Q) mc ms (gA X)
def nar (rt : Option FieldType) (x : Int32) : Prop := match rt with
  | some ty => narrow ty (.int x) = .int x
  | none => False
def rcv (σ : PS) (mi : Nat) (av : List Value) : Prop := match av with
  | .ref a :: _ => a < σ.1 ∧ (σ.2.1 a).1 = (mt mi).1 ∧ (mt mi).1 < 13
  | .retAddr j :: _ => j < 13 ∧ (mt mi).1 = 16
  | _ => False
abbrev JT : Type := Nat → LcT → List Value → PS → Nat → Nat → Prop
abbrev GT : Type := LcT → List Value → PS → Nat → Nat → Prop
def calw (X : GX) (d MC MS mi na : Nat) (vt : Bool) (ls : LcT) (st : List Value) (σ : PS) (k n : Nat) (G : GT) : Prop :=
  ∃ (av r : List Value) (d' mc ms : Nat) (Q : Option Value → PS → Prop), st = av.reverse ++ r ∧ av.length = na ∧ csum r ≤ 8 ∧ d' + 1 ≤ d ∧ k + mc ≤ MC ∧ n + ms ≤ MS ∧ (vt = true → rcv σ mi av) ∧ Ct X d' mi mc ms av σ Q ∧ ∀ rv σ', Q rv σ' → G ls (rv.toList ++ r) σ' (k + mc) (n + ms)
def akd : ArrayType → Nat
  | .int => 13
  | .long => 14
  | .boolean => 15
  | _ => 99
def stpw (X : GX) (d MC MS : Nat) (rt : Option FieldType) (J : JT) (RT : Option Value → PS → Nat → Nat → Prop) (i : Instr) (ls : LcT) (st : List Value) (σ : PS) (k n : Nat) (G : GT) : Prop :=
  match i with
  | .aload j => ∃ v, ls[j]? = some (some v) ∧ isR v = true ∧ G ls (v :: st) σ k n
  | .iload j => ∃ x, ls[j]? = some (some (.int x)) ∧ G ls (.int x :: st) σ k n
  | .lload j => ∃ x, ls[j]? = some (some (.long x)) ∧ G ls (.long x :: st) σ k n
  | .astore j => ∃ v r, st = v :: r ∧ isR v = true ∧ j < ls.length ∧ G (st1 ls j v) r σ k n
  | .istore j => ∃ x r, st = .int x :: r ∧ j < ls.length ∧ G (st1 ls j (.int x)) r σ k n
  | .lstore j => ∃ x r, st = .long x :: r ∧ j + 1 < ls.length ∧ G (st2 ls j (.long x)) r σ k n
  | .iinc j c => ∃ x, ls[j]? = some (some (.int x)) ∧ G (st1 ls j (.int (x + Int32.ofInt c))) st σ k n
  | .iconst v => G ls (.int (Int32.ofInt v) :: st) σ k n
  | .sipush v => G ls (.long (Int64.ofInt v) :: st) σ k n
  | .ldc j => j < 13 ∧ G ls (.retAddr j :: st) σ k n
  | .dup => ∃ v r, st = v :: r ∧ v.category = 1 ∧ G ls (v :: v :: r) σ k n
  | .dup2 => ∃ v w r, st = v :: w :: r ∧ v.category = 1 ∧ w.category = 1 ∧ G ls (v :: w :: v :: w :: r) σ k n
  | .pop => ∃ v r, st = v :: r ∧ v.category = 1 ∧ G ls r σ k n
  | .iadd => ∃ y x r, st = .int y :: .int x :: r ∧ G ls (.int (x + y) :: r) σ k n
  | .isub => ∃ y x r, st = .int y :: .int x :: r ∧ G ls (.int (x - y) :: r) σ k n
  | .imul => ∃ y x r, st = .int y :: .int x :: r ∧ G ls (.int (x * y) :: r) σ k n
  | .idiv => ∃ y x r, st = .int y :: .int x :: r ∧ ¬ y = 0 ∧ G ls (.int (x / y) :: r) σ k n
  | .irem => ∃ y x r, st = .int y :: .int x :: r ∧ ¬ y = 0 ∧ G ls (.int (x - x / y * y) :: r) σ k n
  | .ineg => ∃ x r, st = .int x :: r ∧ G ls (.int (-x) :: r) σ k n
  | .iand => ∃ y x r, st = .int y :: .int x :: r ∧ G ls (.int (x &&& y) :: r) σ k n
  | .ior => ∃ y x r, st = .int y :: .int x :: r ∧ G ls (.int (x ||| y) :: r) σ k n
  | .ixor => ∃ y x r, st = .int y :: .int x :: r ∧ G ls (.int (x ^^^ y) :: r) σ k n
  | .ishl => ∃ y x r, st = .int y :: .int x :: r ∧ G ls (.int (x <<< (y &&& 31)) :: r) σ k n
  | .ishr => ∃ y x r, st = .int y :: .int x :: r ∧ G ls (.int (x >>> (y &&& 31)) :: r) σ k n
  | .iushr => ∃ y x r, st = .int y :: .int x :: r ∧ G ls (.int (x.toUInt32 >>> (y.toUInt32 &&& Int32.toUInt32 31)).toInt32 :: r) σ k n
  | .ladd => ∃ y x r, st = .long y :: .long x :: r ∧ G ls (.long (x + y) :: r) σ k n
  | .lsub => ∃ y x r, st = .long y :: .long x :: r ∧ G ls (.long (x - y) :: r) σ k n
  | .lmul => ∃ y x r, st = .long y :: .long x :: r ∧ G ls (.long (x * y) :: r) σ k n
  | .ldiv => ∃ y x r, st = .long y :: .long x :: r ∧ ¬ y = 0 ∧ G ls (.long (x / y) :: r) σ k n
  | .lrem => ∃ y x r, st = .long y :: .long x :: r ∧ ¬ y = 0 ∧ G ls (.long (x - x / y * y) :: r) σ k n
  | .lcmp => ∃ y x r, st = .long y :: .long x :: r ∧ G ls (.int (lg_cmp x y) :: r) σ k n
  | .i2l => ∃ x r, st = .int x :: r ∧ G ls (.long x.toInt64 :: r) σ k n
  | .l2i => ∃ x r, st = .long x :: r ∧ G ls (.int x.toInt32 :: r) σ k n
  | .i2c => ∃ x r, st = .int x :: r ∧ G ls (.int (x.toUInt32 % 65536).toInt32 :: r) σ k n
  | .goto t => J t.toNat ls st σ k n
  | .if_icmp c t => ∃ y x r, st = .int y :: .int x :: r ∧ (cm c x y → J t.toNat ls r σ k n) ∧ (cn c x y → G ls r σ k n)
  | .ifCond c t => ∃ x r, st = .int x :: r ∧ (cm c x 0 → J t.toNat ls r σ k n) ∧ (cn c x 0 → G ls r σ k n)
  | .ifnonnull t => ∃ q r, st = va_rf q :: r ∧ (q = none → G ls r σ k n) ∧ (∀ a, q = some a → J t.toNat ls r σ k n)
  | .tableswitch df lo hi ts => ∃ x r, st = .int x :: r ∧ ((x.toInt < lo ∨ hi < x.toInt) → J df.toNat ls r σ k n) ∧ ∀ (j : Nat) (t : Int), x.toInt = lo + j → ts[j]? = some t → J t.toNat ls r σ k n
  | .getfield f =>
    if f = 5000 then ∃ j r, st = .retAddr j :: r ∧ j < 13 ∧ G ls (.retAddr (20 + j) :: r) σ k n
    else if f = 5001 then ∃ j r, st = .retAddr j :: r ∧ j < 13 ∧ G ls (.int 0 :: r) σ k n
    else ∃ a r, st = .ref a :: r ∧ a < σ.1 ∧ (σ.2.1 a).1 = f / 100 ∧ ∃ t, (fty (f / 100))[f % 100]? = some t ∧ G ls (fv σ t a (f % 100) :: r) σ k n
  | .putfield f => ∃ v a r, st = v :: .ref a :: r ∧ a < σ.1 ∧ (σ.2.1 a).1 = f / 100 ∧ ∃ t, (fty (f / 100))[f % 100]? = some t ∧
      ((t = 0 ∧ ∃ x, v = .int x ∧ G ls r (setI σ a (f % 100) x) k n) ∨ (t = 1 ∧ ∃ x, v = .int x ∧ (x = 0 ∨ x = 1) ∧ G ls r (setI σ a (f % 100) x) k n) ∨ (t = 2 ∧ ∃ q, v = va_rf q ∧ G ls r (setR σ a (f % 100) q) k n) ∨ (t = 3 ∧ ∃ x, v = .long x ∧ G ls r (setL σ a (f % 100) x) k n))
  | .getstatic j => if j = 0 then G ls (.int 1 :: st) σ k n else if j = 1 then G ls ((if gf X then .null else .retAddr 101) :: st) σ k n else False
  | .iaload => ∃ i v r, st = .int i :: v :: r ∧ ((∃ a m, v = .ref a ∧ a < σ.1 ∧ σ.2.1 a = (13, m) ∧ vp_in i m ∧ G ls (.int (σ.2.2.1 a i.toNatClampNeg) :: r) σ k n) ∨ (v = .retAddr 100 ∧ vp_in i (gN X) ∧ G ls (.int (gx X i.toNatClampNeg) :: r) σ k n))
  | .laload => ∃ i a m r, st = .int i :: .ref a :: r ∧ a < σ.1 ∧ σ.2.1 a = (14, m) ∧ vp_in i m ∧ G ls (.long (σ.2.2.2.1 a i.toNatClampNeg) :: r) σ k n
  | .baload => ∃ i v r, st = .int i :: v :: r ∧ ((∃ a m, v = .ref a ∧ a < σ.1 ∧ σ.2.1 a = (15, m) ∧ vp_in i m ∧ G ls (.int (σ.2.2.1 a i.toNatClampNeg) :: r) σ k n) ∨ (∃ j, v = .retAddr (20 + j) ∧ j < 13 ∧ vp_in i (sLen.getD j 0) ∧ G ls (.int ((sbyt.getD j []).getD i.toNatClampNeg 0) :: r) σ k n))
  | .aaload => ∃ i a c m r, st = .int i :: .ref a :: r ∧ a < σ.1 ∧ σ.2.1 a = (c, m) ∧ (c = 16 ∨ c = 17) ∧ vp_in i m ∧ G ls (va_rf (σ.2.2.2.2 a i.toNatClampNeg) :: r) σ k n
  | .iastore => ∃ x i a m r, st = .int x :: .int i :: .ref a :: r ∧ a < σ.1 ∧ σ.2.1 a = (13, m) ∧ vp_in i m ∧ G ls r (setI σ a i.toNatClampNeg x) k n
  | .lastore => ∃ x i a m r, st = .long x :: .int i :: .ref a :: r ∧ a < σ.1 ∧ σ.2.1 a = (14, m) ∧ vp_in i m ∧ G ls r (setL σ a i.toNatClampNeg x) k n
  | .bastore => ∃ x i a m r, st = .int x :: .int i :: .ref a :: r ∧ a < σ.1 ∧ σ.2.1 a = (15, m) ∧ vp_in i m ∧ (x = 0 ∨ x = 1) ∧ G ls r (setI σ a i.toNatClampNeg x) k n
  | .aastore => ∃ v i a c m r, st = .ref v :: .int i :: .ref a :: r ∧ a < σ.1 ∧ v < σ.1 ∧ σ.2.1 a = (c, m) ∧ (c = 16 ∧ (σ.2.1 v).1 = 2 ∨ c = 17 ∧ (σ.2.1 v).1 = 3) ∧ vp_in i m ∧ G ls r (setR σ a i.toNatClampNeg (some v)) k n
  | .arraylength => ∃ v r, st = v :: r ∧ ((∃ a c m, v = .ref a ∧ a < σ.1 ∧ σ.2.1 a = (c, m) ∧ 13 ≤ c ∧ c ≤ 17 ∧ G ls (.int (Int32.ofNat m) :: r) σ k n) ∨ (v = .retAddr 100 ∧ G ls (.int (Int32.ofNat (gN X)) :: r) σ k n) ∨ (∃ j, v = .retAddr (20 + j) ∧ j < 13 ∧ G ls (.int (Int32.ofNat (sLen.getD j 0)) :: r) σ k n))
  | .newarray t => ∃ m r, st = .int m :: r ∧ akd t ≠ 99 ∧ ¬ m < 0 ∧ m.toNatClampNeg ≤ 10000000 ∧ k + 1 ≤ MC ∧ n + m.toNatClampNeg ≤ MS ∧ G ls (.ref σ.1 :: r) (alo σ (akd t) m.toNatClampNeg) (k + 1) (n + m.toNatClampNeg)
  | .anewarray c => ∃ m r, st = .int m :: r ∧ ¬ m < 0 ∧ m.toNatClampNeg ≤ 10000000 ∧ k + 1 ≤ MC ∧ n + m.toNatClampNeg ≤ MS ∧ G ls (.ref σ.1 :: r) (alo σ c m.toNatClampNeg) (k + 1) (n + m.toNatClampNeg)
  | .new c => k + 1 ≤ MC ∧ n + (clN c).2.2 ≤ MS ∧ G ls (.ref σ.1 :: st) (alo σ c 0) (k + 1) (n + (clN c).2.2)
  | .invokedynamic j =>
    if j = 0 then ∃ m dp b sp a r na nb, st = .int m :: .int dp :: .ref b :: .int sp :: .ref a :: r ∧ csum r ≤ 8 ∧ a < σ.1 ∧ b < σ.1 ∧ σ.2.1 a = (13, na) ∧ σ.2.1 b = (13, nb) ∧ ¬ sp < 0 ∧ ¬ dp < 0 ∧ ¬ m < 0 ∧ sp.toNatClampNeg + m.toNatClampNeg ≤ na ∧ dp.toNatClampNeg + m.toNatClampNeg ≤ nb ∧ 1 ≤ d ∧ G ls r (setW σ b (va_cpy (σ.2.2.1 a) (σ.2.2.1 b) sp.toNatClampNeg dp.toNatClampNeg m.toNatClampNeg)) k n
    else if j = 1 then ∃ a r, st = .ref a :: r ∧ csum r ≤ 8 ∧ 1 ≤ d ∧ G ls r σ k n
    else if j = 2 then ∃ y x r, st = .int y :: .int x :: r ∧ csum r ≤ 8 ∧ 1 ≤ d ∧ k ≤ MC ∧ n ≤ MS ∧ G ls (.int (if x < y then y else x) :: r) σ k n
    else if j = 3 then ∃ y x r, st = .int y :: .int x :: r ∧ csum r ≤ 8 ∧ 1 ≤ d ∧ k ≤ MC ∧ n ≤ MS ∧ G ls (.int (if y < x then y else x) :: r) σ k n
    else if j = 4 then ∃ y x r, st = .long y :: .long x :: r ∧ csum r ≤ 8 ∧ 1 ≤ d ∧ k ≤ MC ∧ n ≤ MS ∧ G ls (.long (if y < x then y else x) :: r) σ k n
    else False
  | .invokestatic mi => calw X d MC MS mi (mt mi).2.2.2.2.2.1 false ls st σ k n G
  | .invokevirtual mi => calw X d MC MS mi ((mt mi).2.2.2.2.2.1 + 1) true ls st σ k n G
  | .invokespecial mi => calw X d MC MS mi ((mt mi).2.2.2.2.2.1 + 1) true ls st σ k n G
  | .return_ => st = [] ∧ RT none σ k n
  | .ireturn => ∃ x, st = [.int x] ∧ nar rt x ∧ RT (some (.int x)) σ k n
  | .lreturn => ∃ x, st = [.long x] ∧ RT (some (.long x)) σ k n
  | .areturn => ∃ a, st = [.ref a] ∧ RT (some (.ref a)) σ k n
  | _ => False
/-- a list of instructions from a place on, its end at e -/
def wp (X : GX) (d MC MS : Nat) (rt : Option FieldType) (J : JT) (RT : Option Value → PS → Nat → Nat → Prop) (e : Nat) : List (Nat × Instr) → GT
  | [] => fun ls st σ k n => J e ls st σ k n
  | q :: is => fun ls st σ k n => stpw X d MC MS rt J RT q.2 ls st σ k n (wp X d MC MS rt J RT e is)
