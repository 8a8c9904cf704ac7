/-! facts of the classes -/
def tyB (t : Nat) (ty : FieldType) : Bool := match t, ty with
  | 0, .int => true
  | 1, .boolean => true
  | 2, .object _ => true
  | 2, .array _ => true
  | 3, .long => true
  | _, _ => false
def tyT : Nat → (Nat → FieldType)
  | 0 => tyX0
  | 1 => tyX1
  | 2 => tyX2
  | 3 => tyX3
  | 4 => tyX4
  | 5 => tyX5
  | 6 => tyX6
  | 7 => tyX7
  | 8 => tyX8
  | 9 => tyX9
  | 10 => tyX10
  | 11 => tyX11
  | _ => tyX12
def COK (ci : Nat) : Prop := cls[ci]? = some (clN ci) ∧ (∀ w ∈ u_ws (clN ci).1 (clN ci).2.1 (clN ci).2.2, w ∈ gtb) ∧ (∀ k, k < (clN ci).2.2 → parseFieldDescriptor ((clN ci).2.1 k).2.2.1 = some (tyT ci k)) ∧ (∀ a, a < (clN ci).2.2 → ∀ b, b < (clN ci).2.2 → a ≠ b → ((clN ci).2.1 a).2.1 ≠ ((clN ci).2.1 b).2.1) ∧ (∀ k, k < (clN ci).2.2 → ((clN ci).2.1 k).1 = (clN ci).1) ∧ (fty ci).length = (clN ci).2.2 ∧ (∀ k, k < (clN ci).2.2 → tyB ((fty ci).getD k 9) (tyT ci k) = true) ∧ Cond.instantiable (clN ci).1 (clN ci).2.2 ∈ gtb ∧ Cond.initialized (clN ci).1 ∈ gtb ∧ onN ci = (clN ci).1
theorem u_good (C : String) (T : u_T) (N : Nat) (h : (u_ws C T N).all (fun w => goodWord w && decide (w ∈ lw_tbl)) = true) : ∀ w ∈ u_ws C T N, w ∈ gtb := fun w hw => by
  have h1 := List.all_eq_true.mp h w hw
  simp only [Bool.and_eq_true, decide_eq_true_eq] at h1
  exact gtb_in h1.2 h1.1
set_option maxRecDepth 100000 in
theorem cok0 : COK 0 := ⟨rfl, u_good RX0 TX0 5 (by decide +kernel), tyX0_ok, nmX0, by decide +kernel, by decide +kernel, by decide +kernel, gtb_in (at_in (p := 310) (by decide +kernel)) rfl, gtb_in (at_in (p := 125) (by decide +kernel)) rfl, rfl⟩
set_option maxRecDepth 100000 in
theorem cok1 : COK 1 := ⟨rfl, u_good RX1 TX1 17 (by decide +kernel), tyX1_ok, nmX1, by decide +kernel, by decide +kernel, by decide +kernel, gtb_in (at_in (p := 548) (by decide +kernel)) rfl, gtb_in (at_in (p := 130) (by decide +kernel)) rfl, rfl⟩
set_option maxRecDepth 100000 in
theorem cok2 : COK 2 := ⟨rfl, u_good RX2 TX2 7 (by decide +kernel), tyX2_ok, nmX2, by decide +kernel, by decide +kernel, by decide +kernel, gtb_in (at_in (p := 457) (by decide +kernel)) rfl, gtb_in (at_in (p := 129) (by decide +kernel)) rfl, rfl⟩
set_option maxRecDepth 100000 in
theorem cok3 : COK 3 := ⟨rfl, u_good RX3 TX3 13 (by decide +kernel), tyX3_ok, nmX3, by decide +kernel, by decide +kernel, by decide +kernel, gtb_in (at_in (p := 151) (by decide +kernel)) rfl, gtb_in (at_in (p := 123) (by decide +kernel)) rfl, rfl⟩
set_option maxRecDepth 100000 in
theorem cok4 : COK 4 := ⟨rfl, u_good RX4 TX4 10 (by decide +kernel), tyX4_ok, nmX4, by decide +kernel, by decide +kernel, by decide +kernel, gtb_in (at_in (p := 419) (by decide +kernel)) rfl, gtb_in (at_in (p := 128) (by decide +kernel)) rfl, rfl⟩
set_option maxRecDepth 100000 in
theorem cok5 : COK 5 := ⟨rfl, u_good RX5 TX5 15 (by decide +kernel), tyX5_ok, nmX5, by decide +kernel, by decide +kernel, by decide +kernel, gtb_in (at_in (p := 610) (by decide +kernel)) rfl, gtb_in (at_in (p := 131) (by decide +kernel)) rfl, rfl⟩
set_option maxRecDepth 100000 in
theorem cok6 : COK 6 := ⟨rfl, u_good RX6 TX6 20 (by decide +kernel), tyX6_ok, nmX6, by decide +kernel, by decide +kernel, by decide +kernel, gtb_in (at_in (p := 340) (by decide +kernel)) rfl, gtb_in (at_in (p := 127) (by decide +kernel)) rfl, rfl⟩
set_option maxRecDepth 100000 in
theorem cok7 : COK 7 := ⟨rfl, u_good RX7 TX7 16 (by decide +kernel), tyX7_ok, nmX7, by decide +kernel, by decide +kernel, by decide +kernel, gtb_in (at_in (p := 332) (by decide +kernel)) rfl, gtb_in (at_in (p := 126) (by decide +kernel)) rfl, rfl⟩
set_option maxRecDepth 100000 in
theorem cok8 : COK 8 := ⟨rfl, u_good RX8 TX8 8 (by decide +kernel), tyX8_ok, nmX8, by decide +kernel, by decide +kernel, by decide +kernel, gtb_in (at_in (p := 680) (by decide +kernel)) rfl, gtb_in (at_in (p := 133) (by decide +kernel)) rfl, rfl⟩
set_option maxRecDepth 100000 in
theorem cok9 : COK 9 := ⟨rfl, u_good RX9 TX9 2 (by decide +kernel), tyX9_ok, nmX9, by decide +kernel, by decide +kernel, by decide +kernel, gtb_in (at_in (p := 665) (by decide +kernel)) rfl, gtb_in (at_in (p := 132) (by decide +kernel)) rfl, rfl⟩
set_option maxRecDepth 100000 in
theorem cok10 : COK 10 := ⟨rfl, u_good RX10 TX10 14 (by decide +kernel), tyX10_ok, nmX10, by decide +kernel, by decide +kernel, by decide +kernel, gtb_in (at_in (p := 157) (by decide +kernel)) rfl, gtb_in (at_in (p := 124) (by decide +kernel)) rfl, rfl⟩
set_option maxRecDepth 100000 in
theorem cok11 : COK 11 := ⟨rfl, u_good RX11 TX11 19 (by decide +kernel), tyX11_ok, nmX11, by decide +kernel, by decide +kernel, by decide +kernel, gtb_in (at_in (p := 143) (by decide +kernel)) rfl, gtb_in (at_in (p := 122) (by decide +kernel)) rfl, rfl⟩
set_option maxRecDepth 100000 in
theorem cok12 : COK 12 := ⟨rfl, u_good RX12 TX12 68 (by decide +kernel), tyX12_ok, nmX12, by decide +kernel, by decide +kernel, by decide +kernel, gtb_in (at_in (p := 1541) (by decide +kernel)) rfl, gtb_in (at_in (p := 134) (by decide +kernel)) rfl, rfl⟩
theorem cokA : ∀ ci, ci < 13 → COK ci := fun ci h => match ci, h with
  | 0, _ => cok0
  | 1, _ => cok1
  | 2, _ => cok2
  | 3, _ => cok3
  | 4, _ => cok4
  | 5, _ => cok5
  | 6, _ => cok6
  | 7, _ => cok7
  | 8, _ => cok8
  | 9, _ => cok9
  | 10, _ => cok10
  | 11, _ => cok11
  | 12, _ => cok12
  | _ + 13, h => absurd h (by omega)
def muse0 : List Nat := [0, 2, 3, 4, 5, 6, 7, 8, 9, 10, 11, 12, 13, 14, 15, 16, 17, 18, 19, 20, 21, 22, 23, 24, 25, 26, 27, 28, 29, 30, 31, 32, 33, 35, 36, 37, 38, 39, 40, 41]
theorem mokL0 : ∀ i ∈ muse0, MOK (mt i) := List.forall_mem_cons.mpr ⟨mok0, List.forall_mem_cons.mpr ⟨mok2, List.forall_mem_cons.mpr ⟨mok3, List.forall_mem_cons.mpr ⟨mok4, List.forall_mem_cons.mpr ⟨mok5, List.forall_mem_cons.mpr ⟨mok6, List.forall_mem_cons.mpr ⟨mok7, List.forall_mem_cons.mpr ⟨mok8, List.forall_mem_cons.mpr ⟨mok9, List.forall_mem_cons.mpr ⟨mok10, List.forall_mem_cons.mpr ⟨mok11, List.forall_mem_cons.mpr ⟨mok12, List.forall_mem_cons.mpr ⟨mok13, List.forall_mem_cons.mpr ⟨mok14, List.forall_mem_cons.mpr ⟨mok15, List.forall_mem_cons.mpr ⟨mok16, List.forall_mem_cons.mpr ⟨mok17, List.forall_mem_cons.mpr ⟨mok18, List.forall_mem_cons.mpr ⟨mok19, List.forall_mem_cons.mpr ⟨mok20, List.forall_mem_cons.mpr ⟨mok21, List.forall_mem_cons.mpr ⟨mok22, List.forall_mem_cons.mpr ⟨mok23, List.forall_mem_cons.mpr ⟨mok24, List.forall_mem_cons.mpr ⟨mok25, List.forall_mem_cons.mpr ⟨mok26, List.forall_mem_cons.mpr ⟨mok27, List.forall_mem_cons.mpr ⟨mok28, List.forall_mem_cons.mpr ⟨mok29, List.forall_mem_cons.mpr ⟨mok30, List.forall_mem_cons.mpr ⟨mok31, List.forall_mem_cons.mpr ⟨mok32, List.forall_mem_cons.mpr ⟨mok33, List.forall_mem_cons.mpr ⟨mok35, List.forall_mem_cons.mpr ⟨mok36, List.forall_mem_cons.mpr ⟨mok37, List.forall_mem_cons.mpr ⟨mok38, List.forall_mem_cons.mpr ⟨mok39, List.forall_mem_cons.mpr ⟨mok40, List.forall_mem_cons.mpr ⟨mok41, fun _ h => absurd h List.not_mem_nil⟩⟩⟩⟩⟩⟩⟩⟩⟩⟩⟩⟩⟩⟩⟩⟩⟩⟩⟩⟩⟩⟩⟩⟩⟩⟩⟩⟩⟩⟩⟩⟩⟩⟩⟩⟩⟩⟩⟩⟩
def muse1 : List Nat := [42, 43, 44, 45, 46, 47, 48, 49, 50, 51, 52, 53, 54, 55, 56, 57, 58, 59, 60, 61, 62, 63, 64, 65, 66, 67, 68, 69, 70, 71, 72, 73, 74, 76, 77, 78, 79, 80, 81, 82]
theorem mokL1 : ∀ i ∈ muse1, MOK (mt i) := List.forall_mem_cons.mpr ⟨mok42, List.forall_mem_cons.mpr ⟨mok43, List.forall_mem_cons.mpr ⟨mok44, List.forall_mem_cons.mpr ⟨mok45, List.forall_mem_cons.mpr ⟨mok46, List.forall_mem_cons.mpr ⟨mok47, List.forall_mem_cons.mpr ⟨mok48, List.forall_mem_cons.mpr ⟨mok49, List.forall_mem_cons.mpr ⟨mok50, List.forall_mem_cons.mpr ⟨mok51, List.forall_mem_cons.mpr ⟨mok52, List.forall_mem_cons.mpr ⟨mok53, List.forall_mem_cons.mpr ⟨mok54, List.forall_mem_cons.mpr ⟨mok55, List.forall_mem_cons.mpr ⟨mok56, List.forall_mem_cons.mpr ⟨mok57, List.forall_mem_cons.mpr ⟨mok58, List.forall_mem_cons.mpr ⟨mok59, List.forall_mem_cons.mpr ⟨mok60, List.forall_mem_cons.mpr ⟨mok61, List.forall_mem_cons.mpr ⟨mok62, List.forall_mem_cons.mpr ⟨mok63, List.forall_mem_cons.mpr ⟨mok64, List.forall_mem_cons.mpr ⟨mok65, List.forall_mem_cons.mpr ⟨mok66, List.forall_mem_cons.mpr ⟨mok67, List.forall_mem_cons.mpr ⟨mok68, List.forall_mem_cons.mpr ⟨mok69, List.forall_mem_cons.mpr ⟨mok70, List.forall_mem_cons.mpr ⟨mok71, List.forall_mem_cons.mpr ⟨mok72, List.forall_mem_cons.mpr ⟨mok73, List.forall_mem_cons.mpr ⟨mok74, List.forall_mem_cons.mpr ⟨mok76, List.forall_mem_cons.mpr ⟨mok77, List.forall_mem_cons.mpr ⟨mok78, List.forall_mem_cons.mpr ⟨mok79, List.forall_mem_cons.mpr ⟨mok80, List.forall_mem_cons.mpr ⟨mok81, List.forall_mem_cons.mpr ⟨mok82, fun _ h => absurd h List.not_mem_nil⟩⟩⟩⟩⟩⟩⟩⟩⟩⟩⟩⟩⟩⟩⟩⟩⟩⟩⟩⟩⟩⟩⟩⟩⟩⟩⟩⟩⟩⟩⟩⟩⟩⟩⟩⟩⟩⟩⟩⟩
def muse2 : List Nat := [83, 84, 85, 86, 87, 88, 89, 90, 91, 92, 93, 94, 95, 96, 97, 98, 99, 100, 101, 102, 103, 104, 105, 106, 107, 108, 109, 110, 111, 112, 113, 115, 116, 117, 118, 119, 120, 121, 122, 123]
theorem mokL2 : ∀ i ∈ muse2, MOK (mt i) := List.forall_mem_cons.mpr ⟨mok83, List.forall_mem_cons.mpr ⟨mok84, List.forall_mem_cons.mpr ⟨mok85, List.forall_mem_cons.mpr ⟨mok86, List.forall_mem_cons.mpr ⟨mok87, List.forall_mem_cons.mpr ⟨mok88, List.forall_mem_cons.mpr ⟨mok89, List.forall_mem_cons.mpr ⟨mok90, List.forall_mem_cons.mpr ⟨mok91, List.forall_mem_cons.mpr ⟨mok92, List.forall_mem_cons.mpr ⟨mok93, List.forall_mem_cons.mpr ⟨mok94, List.forall_mem_cons.mpr ⟨mok95, List.forall_mem_cons.mpr ⟨mok96, List.forall_mem_cons.mpr ⟨mok97, List.forall_mem_cons.mpr ⟨mok98, List.forall_mem_cons.mpr ⟨mok99, List.forall_mem_cons.mpr ⟨mok100, List.forall_mem_cons.mpr ⟨mok101, List.forall_mem_cons.mpr ⟨mok102, List.forall_mem_cons.mpr ⟨mok103, List.forall_mem_cons.mpr ⟨mok104, List.forall_mem_cons.mpr ⟨mok105, List.forall_mem_cons.mpr ⟨mok106, List.forall_mem_cons.mpr ⟨mok107, List.forall_mem_cons.mpr ⟨mok108, List.forall_mem_cons.mpr ⟨mok109, List.forall_mem_cons.mpr ⟨mok110, List.forall_mem_cons.mpr ⟨mok111, List.forall_mem_cons.mpr ⟨mok112, List.forall_mem_cons.mpr ⟨mok113, List.forall_mem_cons.mpr ⟨mok115, List.forall_mem_cons.mpr ⟨mok116, List.forall_mem_cons.mpr ⟨mok117, List.forall_mem_cons.mpr ⟨mok118, List.forall_mem_cons.mpr ⟨mok119, List.forall_mem_cons.mpr ⟨mok120, List.forall_mem_cons.mpr ⟨mok121, List.forall_mem_cons.mpr ⟨mok122, List.forall_mem_cons.mpr ⟨mok123, fun _ h => absurd h List.not_mem_nil⟩⟩⟩⟩⟩⟩⟩⟩⟩⟩⟩⟩⟩⟩⟩⟩⟩⟩⟩⟩⟩⟩⟩⟩⟩⟩⟩⟩⟩⟩⟩⟩⟩⟩⟩⟩⟩⟩⟩⟩
def muse3 : List Nat := [124, 125, 126, 127, 128, 129, 130, 131, 132, 133, 134, 135, 136, 137, 138, 139, 140, 141, 142, 143, 144, 145, 146, 147, 148, 149, 150, 151, 152, 153, 154, 155, 156, 157, 158, 159, 160, 161, 162, 163]
theorem mokL3 : ∀ i ∈ muse3, MOK (mt i) := List.forall_mem_cons.mpr ⟨mok124, List.forall_mem_cons.mpr ⟨mok125, List.forall_mem_cons.mpr ⟨mok126, List.forall_mem_cons.mpr ⟨mok127, List.forall_mem_cons.mpr ⟨mok128, List.forall_mem_cons.mpr ⟨mok129, List.forall_mem_cons.mpr ⟨mok130, List.forall_mem_cons.mpr ⟨mok131, List.forall_mem_cons.mpr ⟨mok132, List.forall_mem_cons.mpr ⟨mok133, List.forall_mem_cons.mpr ⟨mok134, List.forall_mem_cons.mpr ⟨mok135, List.forall_mem_cons.mpr ⟨mok136, List.forall_mem_cons.mpr ⟨mok137, List.forall_mem_cons.mpr ⟨mok138, List.forall_mem_cons.mpr ⟨mok139, List.forall_mem_cons.mpr ⟨mok140, List.forall_mem_cons.mpr ⟨mok141, List.forall_mem_cons.mpr ⟨mok142, List.forall_mem_cons.mpr ⟨mok143, List.forall_mem_cons.mpr ⟨mok144, List.forall_mem_cons.mpr ⟨mok145, List.forall_mem_cons.mpr ⟨mok146, List.forall_mem_cons.mpr ⟨mok147, List.forall_mem_cons.mpr ⟨mok148, List.forall_mem_cons.mpr ⟨mok149, List.forall_mem_cons.mpr ⟨mok150, List.forall_mem_cons.mpr ⟨mok151, List.forall_mem_cons.mpr ⟨mok152, List.forall_mem_cons.mpr ⟨mok153, List.forall_mem_cons.mpr ⟨mok154, List.forall_mem_cons.mpr ⟨mok155, List.forall_mem_cons.mpr ⟨mok156, List.forall_mem_cons.mpr ⟨mok157, List.forall_mem_cons.mpr ⟨mok158, List.forall_mem_cons.mpr ⟨mok159, List.forall_mem_cons.mpr ⟨mok160, List.forall_mem_cons.mpr ⟨mok161, List.forall_mem_cons.mpr ⟨mok162, List.forall_mem_cons.mpr ⟨mok163, fun _ h => absurd h List.not_mem_nil⟩⟩⟩⟩⟩⟩⟩⟩⟩⟩⟩⟩⟩⟩⟩⟩⟩⟩⟩⟩⟩⟩⟩⟩⟩⟩⟩⟩⟩⟩⟩⟩⟩⟩⟩⟩⟩⟩⟩⟩
def muse4 : List Nat := [164, 165, 166, 167, 168, 169, 170, 171, 172, 173, 174, 175, 176, 177, 178, 179, 180, 181, 182, 183, 184, 185, 186, 187, 188, 189, 190, 191, 192, 193, 194, 195, 196, 197, 198, 199, 200, 201, 202, 203]
theorem mokL4 : ∀ i ∈ muse4, MOK (mt i) := List.forall_mem_cons.mpr ⟨mok164, List.forall_mem_cons.mpr ⟨mok165, List.forall_mem_cons.mpr ⟨mok166, List.forall_mem_cons.mpr ⟨mok167, List.forall_mem_cons.mpr ⟨mok168, List.forall_mem_cons.mpr ⟨mok169, List.forall_mem_cons.mpr ⟨mok170, List.forall_mem_cons.mpr ⟨mok171, List.forall_mem_cons.mpr ⟨mok172, List.forall_mem_cons.mpr ⟨mok173, List.forall_mem_cons.mpr ⟨mok174, List.forall_mem_cons.mpr ⟨mok175, List.forall_mem_cons.mpr ⟨mok176, List.forall_mem_cons.mpr ⟨mok177, List.forall_mem_cons.mpr ⟨mok178, List.forall_mem_cons.mpr ⟨mok179, List.forall_mem_cons.mpr ⟨mok180, List.forall_mem_cons.mpr ⟨mok181, List.forall_mem_cons.mpr ⟨mok182, List.forall_mem_cons.mpr ⟨mok183, List.forall_mem_cons.mpr ⟨mok184, List.forall_mem_cons.mpr ⟨mok185, List.forall_mem_cons.mpr ⟨mok186, List.forall_mem_cons.mpr ⟨mok187, List.forall_mem_cons.mpr ⟨mok188, List.forall_mem_cons.mpr ⟨mok189, List.forall_mem_cons.mpr ⟨mok190, List.forall_mem_cons.mpr ⟨mok191, List.forall_mem_cons.mpr ⟨mok192, List.forall_mem_cons.mpr ⟨mok193, List.forall_mem_cons.mpr ⟨mok194, List.forall_mem_cons.mpr ⟨mok195, List.forall_mem_cons.mpr ⟨mok196, List.forall_mem_cons.mpr ⟨mok197, List.forall_mem_cons.mpr ⟨mok198, List.forall_mem_cons.mpr ⟨mok199, List.forall_mem_cons.mpr ⟨mok200, List.forall_mem_cons.mpr ⟨mok201, List.forall_mem_cons.mpr ⟨mok202, List.forall_mem_cons.mpr ⟨mok203, fun _ h => absurd h List.not_mem_nil⟩⟩⟩⟩⟩⟩⟩⟩⟩⟩⟩⟩⟩⟩⟩⟩⟩⟩⟩⟩⟩⟩⟩⟩⟩⟩⟩⟩⟩⟩⟩⟩⟩⟩⟩⟩⟩⟩⟩⟩
def muse5 : List Nat := [204, 205, 206, 207, 208, 209, 210, 211, 212, 213, 214, 215, 216, 217, 218, 219, 220, 221, 222, 223, 224, 225, 226, 227, 228, 229, 230, 231, 232, 233, 234, 235, 236, 237, 238, 239, 240, 241, 242, 243]
theorem mokL5 : ∀ i ∈ muse5, MOK (mt i) := List.forall_mem_cons.mpr ⟨mok204, List.forall_mem_cons.mpr ⟨mok205, List.forall_mem_cons.mpr ⟨mok206, List.forall_mem_cons.mpr ⟨mok207, List.forall_mem_cons.mpr ⟨mok208, List.forall_mem_cons.mpr ⟨mok209, List.forall_mem_cons.mpr ⟨mok210, List.forall_mem_cons.mpr ⟨mok211, List.forall_mem_cons.mpr ⟨mok212, List.forall_mem_cons.mpr ⟨mok213, List.forall_mem_cons.mpr ⟨mok214, List.forall_mem_cons.mpr ⟨mok215, List.forall_mem_cons.mpr ⟨mok216, List.forall_mem_cons.mpr ⟨mok217, List.forall_mem_cons.mpr ⟨mok218, List.forall_mem_cons.mpr ⟨mok219, List.forall_mem_cons.mpr ⟨mok220, List.forall_mem_cons.mpr ⟨mok221, List.forall_mem_cons.mpr ⟨mok222, List.forall_mem_cons.mpr ⟨mok223, List.forall_mem_cons.mpr ⟨mok224, List.forall_mem_cons.mpr ⟨mok225, List.forall_mem_cons.mpr ⟨mok226, List.forall_mem_cons.mpr ⟨mok227, List.forall_mem_cons.mpr ⟨mok228, List.forall_mem_cons.mpr ⟨mok229, List.forall_mem_cons.mpr ⟨mok230, List.forall_mem_cons.mpr ⟨mok231, List.forall_mem_cons.mpr ⟨mok232, List.forall_mem_cons.mpr ⟨mok233, List.forall_mem_cons.mpr ⟨mok234, List.forall_mem_cons.mpr ⟨mok235, List.forall_mem_cons.mpr ⟨mok236, List.forall_mem_cons.mpr ⟨mok237, List.forall_mem_cons.mpr ⟨mok238, List.forall_mem_cons.mpr ⟨mok239, List.forall_mem_cons.mpr ⟨mok240, List.forall_mem_cons.mpr ⟨mok241, List.forall_mem_cons.mpr ⟨mok242, List.forall_mem_cons.mpr ⟨mok243, fun _ h => absurd h List.not_mem_nil⟩⟩⟩⟩⟩⟩⟩⟩⟩⟩⟩⟩⟩⟩⟩⟩⟩⟩⟩⟩⟩⟩⟩⟩⟩⟩⟩⟩⟩⟩⟩⟩⟩⟩⟩⟩⟩⟩⟩⟩
def muse6 : List Nat := [244, 245, 246, 247, 248, 249, 250, 251, 252, 253, 254, 255, 256, 257, 258, 259, 260, 261, 262, 263, 264, 265, 266, 267, 268, 269, 270, 271, 272, 273, 274, 275, 276, 277, 278, 279, 280, 281, 282, 283]
theorem mokL6 : ∀ i ∈ muse6, MOK (mt i) := List.forall_mem_cons.mpr ⟨mok244, List.forall_mem_cons.mpr ⟨mok245, List.forall_mem_cons.mpr ⟨mok246, List.forall_mem_cons.mpr ⟨mok247, List.forall_mem_cons.mpr ⟨mok248, List.forall_mem_cons.mpr ⟨mok249, List.forall_mem_cons.mpr ⟨mok250, List.forall_mem_cons.mpr ⟨mok251, List.forall_mem_cons.mpr ⟨mok252, List.forall_mem_cons.mpr ⟨mok253, List.forall_mem_cons.mpr ⟨mok254, List.forall_mem_cons.mpr ⟨mok255, List.forall_mem_cons.mpr ⟨mok256, List.forall_mem_cons.mpr ⟨mok257, List.forall_mem_cons.mpr ⟨mok258, List.forall_mem_cons.mpr ⟨mok259, List.forall_mem_cons.mpr ⟨mok260, List.forall_mem_cons.mpr ⟨mok261, List.forall_mem_cons.mpr ⟨mok262, List.forall_mem_cons.mpr ⟨mok263, List.forall_mem_cons.mpr ⟨mok264, List.forall_mem_cons.mpr ⟨mok265, List.forall_mem_cons.mpr ⟨mok266, List.forall_mem_cons.mpr ⟨mok267, List.forall_mem_cons.mpr ⟨mok268, List.forall_mem_cons.mpr ⟨mok269, List.forall_mem_cons.mpr ⟨mok270, List.forall_mem_cons.mpr ⟨mok271, List.forall_mem_cons.mpr ⟨mok272, List.forall_mem_cons.mpr ⟨mok273, List.forall_mem_cons.mpr ⟨mok274, List.forall_mem_cons.mpr ⟨mok275, List.forall_mem_cons.mpr ⟨mok276, List.forall_mem_cons.mpr ⟨mok277, List.forall_mem_cons.mpr ⟨mok278, List.forall_mem_cons.mpr ⟨mok279, List.forall_mem_cons.mpr ⟨mok280, List.forall_mem_cons.mpr ⟨mok281, List.forall_mem_cons.mpr ⟨mok282, List.forall_mem_cons.mpr ⟨mok283, fun _ h => absurd h List.not_mem_nil⟩⟩⟩⟩⟩⟩⟩⟩⟩⟩⟩⟩⟩⟩⟩⟩⟩⟩⟩⟩⟩⟩⟩⟩⟩⟩⟩⟩⟩⟩⟩⟩⟩⟩⟩⟩⟩⟩⟩⟩
def muse7 : List Nat := [284, 285, 286, 287, 288, 289, 290, 291, 292, 293, 294, 295, 296, 297, 298, 299, 300, 301, 302, 303, 304, 305]
theorem mokL7 : ∀ i ∈ muse7, MOK (mt i) := List.forall_mem_cons.mpr ⟨mok284, List.forall_mem_cons.mpr ⟨mok285, List.forall_mem_cons.mpr ⟨mok286, List.forall_mem_cons.mpr ⟨mok287, List.forall_mem_cons.mpr ⟨mok288, List.forall_mem_cons.mpr ⟨mok289, List.forall_mem_cons.mpr ⟨mok290, List.forall_mem_cons.mpr ⟨mok291, List.forall_mem_cons.mpr ⟨mok292, List.forall_mem_cons.mpr ⟨mok293, List.forall_mem_cons.mpr ⟨mok294, List.forall_mem_cons.mpr ⟨mok295, List.forall_mem_cons.mpr ⟨mok296, List.forall_mem_cons.mpr ⟨mok297, List.forall_mem_cons.mpr ⟨mok298, List.forall_mem_cons.mpr ⟨mok299, List.forall_mem_cons.mpr ⟨mok300, List.forall_mem_cons.mpr ⟨mok301, List.forall_mem_cons.mpr ⟨mok302, List.forall_mem_cons.mpr ⟨mok303, List.forall_mem_cons.mpr ⟨mok304, List.forall_mem_cons.mpr ⟨mok305, fun _ h => absurd h List.not_mem_nil⟩⟩⟩⟩⟩⟩⟩⟩⟩⟩⟩⟩⟩⟩⟩⟩⟩⟩⟩⟩⟩⟩
def muse : List Nat := muse0 ++ (muse1 ++ (muse2 ++ (muse3 ++ (muse4 ++ (muse5 ++ (muse6 ++ (muse7)))))))
theorem mokL : ∀ i ∈ muse, MOK (mt i) := List.forall_mem_append.mpr ⟨mokL0, List.forall_mem_append.mpr ⟨mokL1, List.forall_mem_append.mpr ⟨mokL2, List.forall_mem_append.mpr ⟨mokL3, List.forall_mem_append.mpr ⟨mokL4, List.forall_mem_append.mpr ⟨mokL5, List.forall_mem_append.mpr ⟨mokL6, mokL7⟩⟩⟩⟩⟩⟩⟩
def snm (j : Nat) : MethodName := if j = 0 then arraycopyName else if j = 1 then Lib.objectInit else if j = 2 then Lib.Math.max.name else Lib.Math.min.name
def SLt : List (Nat × Nat × Nat × Nat) := [(147, 11, 1, 1), (155, 3, 3, 1), (161, 10, 3, 1), (314, 0, 3, 1), (336, 7, 3, 1), (344, 6, 5, 1), (423, 4, 3, 1), (461, 2, 3, 1), (552, 1, 3, 1), (614, 5, 3, 1), (669, 9, 3, 1), (684, 8, 3, 1), (851, 8, 38, 3), (968, 10, 67, 3), (1032, 0, 55, 3), (1033, 0, 61, 2), (1151, 6, 115, 2), (1143, 6, 124, 3), (1156, 4, 52, 2), (1165, 7, 152, 3), (1188, 15, 304, 3), (1189, 15, 150, 0), (1262, 3, 84, 2), (1289, 7, 211, 2), (1327, 3, 79, 3), (1384, 1, 144, 2), (1432, 5, 80, 3), (1494, 11, 338, 2), (1505, 11, 350, 0), (1518, 3, 56, 0), (1523, 10, 61, 0), (1545, 12, 1, 1)]
def ALt : List (Nat × Nat × Nat × Nat) := [(150, 11, 7, 17), (337, 7, 9, 16)]
set_option maxRecDepth 100000 in
theorem SL_ok : SLt.all (fun z => at_ z.1 (.methodLink (onN z.2.1) z.2.2.1 (snm z.2.2.2))) = true := by decide +kernel
theorem SL_no4 : SLt.all (fun z => decide (z.2.2.2 ≠ 4)) = true := by decide +kernel
set_option maxRecDepth 100000 in
theorem AL_ok : ALt.all (fun z => at_ z.1 (.classLink (onN z.2.1) z.2.2.1 (if z.2.2.2 = 16 then RX2 else RX3))) = true := by decide +kernel
theorem wd_obj : Cond.code Lib.objectInit ⟨#[0xb1]⟩ 1 none ∈ gtb := gtb_in (List.mem_of_getElem? (i := 149) rfl) rfl
theorem wd_obi : Cond.instanceMethod Lib.objectInit ∈ gtb := gtb_in (at_in (p := 148) (by decide +kernel)) rfl
set_option maxRecDepth 100000 in
theorem wd_max : Cond.code Lib.Math.max.name Lib.Math.max.code 2 (some .int) ∈ gtb := gtb_in (List.mem_of_getElem? (i := 1035) rfl) rfl
theorem wd_maxs : Cond.static Lib.Math.max.name ∈ gtb := gtb_in (at_in (p := 1034) (by decide +kernel)) rfl
set_option maxRecDepth 100000 in
theorem wd_min : Cond.code Lib.Math.min.name Lib.Math.min.code 2 (some .int) ∈ gtb := gtb_in (List.mem_of_getElem? (i := 853) rfl) rfl
theorem wd_mins : Cond.static Lib.Math.min.name ∈ gtb := gtb_in (at_in (p := 852) (by decide +kernel)) rfl
theorem wd_mat : Cond.initialized "java/lang/Math" ∈ gtb := gtb_in (at_in (p := 135) (by decide +kernel)) rfl
theorem wd_sys : Cond.initialized "java/lang/System" ∈ gtb := gtb_in (at_in (p := 141) (by decide +kernel)) rfl
theorem wd_acn : Cond.native arraycopyName ∈ gtb := gtb_in (at_in (p := 1191) (by decide +kernel)) rfl
theorem wd_acs : Cond.static arraycopyName ∈ gtb := gtb_in (at_in (p := 1190) (by decide +kernel)) rfl
theorem wd_aint : Cond.arrayClass .int ∈ gtb := gtb_in (at_in (p := 240) (by decide +kernel)) rfl
theorem wd_along : Cond.arrayClass .long ∈ gtb := gtb_in (at_in (p := 1758) (by decide +kernel)) rfl
theorem wd_aboolean : Cond.arrayClass .boolean ∈ gtb := gtb_in (at_in (p := 1757) (by decide +kernel)) rfl
theorem wd_val : Cond.fieldLink "java/lang/String" 9 "java/lang/String" "value" "[B" ∈ gtb := gtb_in (at_in (p := 2250) (by decide +kernel)) rfl
theorem wd_cod : Cond.fieldLink "java/lang/String" 15 "java/lang/String" "coder" "B" ∈ gtb := gtb_in (at_in (p := 2251) (by decide +kernel)) rfl
theorem wd_com : Cond.fieldLink "java/lang/String" 38 "java/lang/String" "COMPACT_STRINGS" "Z" ∈ gtb := gtb_in (at_in (p := 889) (by decide +kernel)) rfl
theorem wd_fmt : Cond.fieldLink "java/lang/String" 1053 "jdk/internal/util/Preconditions" "SIOOBE_FORMATTER" "Ljava/util/function/BiFunction;" ∈ gtb := gtb_in (at_in (p := 905) (by decide +kernel)) rfl
