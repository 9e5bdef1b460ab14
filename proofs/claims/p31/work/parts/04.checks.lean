/-! the tables' words for each entry of the pools, by decision -/
/-- a word at its place -/
def zin (ps : List Nat) (k : Nat) (w : Jvm.Cond) : Bool := decide (lw_tbl[ps.getD k 0]? = some w) && goodWord w
/-- a word that is no good word, at its place -/
def zib (ps : List Nat) (k : Nat) (w : Jvm.Cond) : Bool := decide (lw_tbl[ps.getD k 0]? = some w)
def zpl (y : MethodName) (na : Nat) : Bool := decide (y.cls ≠ "java/lang/invoke/MethodHandle") && decide (y.cls ≠ "java/lang/invoke/VarHandle") && decide ((parseMethodDescriptor y.desc).map (fun d => d.parameters.length) = some na)
def zpok (own : String) (e : Nat × Nat × Nat × Nat × Int) (ps : List Nat) : Bool := match e.2.1 with
  | 0 => match zCls[e.2.2.1]? with
    | some r => zin ps 0 (.fieldLink own e.1 r.1 (r.2.1 e.2.2.2.1).2.1 (r.2.1 e.2.2.2.1).2.2.1) && decide ((r.2.1 e.2.2.2.1).1 = r.1) && decide (e.2.2.2.1 < r.2.2) && !(r.2.1 e.2.2.2.1).2.2.2
    | none => false
  | 1 => match zCls[e.2.2.1]? with
    | some r => zin ps 0 (.fieldLink own e.1 r.1 (r.2.1 e.2.2.2.1).2.1 (r.2.1 e.2.2.2.1).2.2.1) && decide ((r.2.1 e.2.2.2.1).1 = r.1) && decide (e.2.2.2.1 < r.2.2) && (r.2.1 e.2.2.2.1).2.2.2
    | none => false
  | 2 => match zCls[e.2.2.1]? with
    | some r => zin ps 0 (.classLink own e.1 r.1) && zin ps 1 (.instantiable r.1 r.2.2) && zin ps 2 (.initialized r.1)
    | none => false
  | 3 => match zArr e.2.2.1 with
    | .object C => zin ps 0 (.classLink own (e.1 - 100000) C) && (e.2.2.1 == 4 || e.2.2.1 == 5)
    | _ => false
  | 4 => zin ps 0 (.constant own e.1 (zi e.2.2.2.2))
  | 5 => zin ps 0 (.constantLong own e.1 (zl e.2.2.2.2))
  | 6 => match zStr[e.2.2.1]? with
    | some q => decide (q.1 = own) && decide (q.2.1 = e.1)
    | none => false
  | 10 => match zM[e.2.2.1]?, zCls[e.2.2.2.2.toNat]? with
    | some q, some r => zin ps 0 (.methodLink own e.1 q.2.1) && zin ps 1 (.instanceMethod q.2.1) && zin ps 2 (.selects r.1 q.2.1 q.2.1) && zin ps 3 (.initialized r.1) && decide (q.2.1.cls = r.1) && zpl q.2.1 e.2.2.2.1
    | _, _ => false
  | 11 => match zM[e.2.2.1]? with
    | some q => zin ps 0 (.methodLink own e.1 q.2.1) && zin ps 1 (.static q.2.1) && zin ps 2 (.initialized q.2.1.cls) && zpl q.2.1 e.2.2.2.1
    | _ => false
  | 12 => match zM[e.2.2.1]? with
    | some q => zin ps 0 (.methodLink own e.1 q.2.1) && zin ps 1 (.instanceMethod q.2.1) && zin ps 2 (.initialized q.2.1.cls) && decide (q.2.1.name = "<init>") && decide (q.2.2.2.2.1 = none) && zpl q.2.1 e.2.2.2.1
    | _ => false
  | 13 => match zM[e.2.2.1]? with
    | some q => zib ps 0 (.methodLinkNest own e.1 q.2.1 "MirrorPlanner") && zin ps 1 (.static q.2.1) && zin ps 2 (.initialized q.2.1.cls) && zpl q.2.1 e.2.2.2.1
    | _ => false
  | 14 => match zM[e.2.2.1]? with
    | some q => zib ps 0 (.methodLinkNest own e.1 q.2.1 "MirrorPlanner") && zin ps 1 (.instanceMethod q.2.1) && zin ps 2 (.initialized q.2.1.cls) && decide (q.2.1.name = "<init>") && decide (q.2.2.2.2.1 = none) && zpl q.2.1 e.2.2.2.1
    | _ => false
  | 15 => zin ps 0 (.methodLink own e.1 Lib.objectInit) && zin ps 1 (.instanceMethod Lib.objectInit) && zin ps 2 (.code Lib.objectInit ⟨#[0xb1]⟩ 1 none)
  | 16 => zin ps 0 (.methodLink own e.1 Lib.Math.min.name) && zin ps 1 (.static Lib.Math.min.name) && zin ps 2 (.initialized "java/lang/Math") && zin ps 3 (.code Lib.Math.min.name Lib.Math.min.code 2 (some .int))
  | 17 => zin ps 0 (.methodLink own e.1 Lib.Math.max.name) && zin ps 1 (.static Lib.Math.max.name) && zin ps 2 (.initialized "java/lang/Math") && zin ps 3 (.code Lib.Math.max.name Lib.Math.max.code 2 (some .int))
  | 18 => zin ps 0 (.methodLink own e.1 arraycopyName) && zin ps 1 (.native arraycopyName) && zin ps 2 (.static arraycopyName) && zin ps 3 (.initialized "java/lang/System")
  | _ => false
set_option maxRecDepth 100000 in
theorem zpkX0 : ∀ e ∈ zpX0, ∃ ps, zpok RX0 e ps = true := List.forall_mem_cons.mpr ⟨⟨[64, 25, 26], by decide +kernel⟩,
  List.forall_mem_cons.mpr ⟨⟨[65], by decide +kernel⟩,
  List.forall_mem_cons.mpr ⟨⟨[66], by decide +kernel⟩,
  List.forall_mem_cons.mpr ⟨⟨[67], by decide +kernel⟩,
  List.forall_mem_cons.mpr ⟨⟨[361, 356, 355, 17], by decide +kernel⟩,
  List.forall_mem_cons.mpr ⟨⟨[68], by decide +kernel⟩,
  List.forall_mem_cons.mpr ⟨⟨[715], by decide +kernel⟩,
  List.forall_mem_cons.mpr ⟨⟨[479, 469, 470, 9], by decide +kernel⟩,
  List.forall_mem_cons.mpr ⟨⟨[480, 473, 6], by decide +kernel⟩,
  List.forall_mem_cons.mpr ⟨⟨[512, 514, 0, 9], by decide +kernel⟩,
  fun _ h => absurd h List.not_mem_nil⟩⟩⟩⟩⟩⟩⟩⟩⟩⟩

set_option maxRecDepth 100000 in
theorem zpkX1 : ∀ e ∈ zpX1, ∃ ps, zpok RX1 e ps = true := List.forall_mem_cons.mpr ⟨⟨[279, 25, 26], by decide +kernel⟩,
  List.forall_mem_cons.mpr ⟨⟨[282], by decide +kernel⟩,
  List.forall_mem_cons.mpr ⟨⟨[283], by decide +kernel⟩,
  List.forall_mem_cons.mpr ⟨⟨[284], by decide +kernel⟩,
  List.forall_mem_cons.mpr ⟨⟨[285], by decide +kernel⟩,
  List.forall_mem_cons.mpr ⟨⟨[280, 133, 12], by decide +kernel⟩,
  List.forall_mem_cons.mpr ⟨⟨[281, 135, 12], by decide +kernel⟩,
  List.forall_mem_cons.mpr ⟨⟨[286], by decide +kernel⟩,
  List.forall_mem_cons.mpr ⟨⟨[288], by decide +kernel⟩,
  List.forall_mem_cons.mpr ⟨⟨[289], by decide +kernel⟩,
  List.forall_mem_cons.mpr ⟨⟨[552, 373, 18, 374], by decide +kernel⟩,
  List.forall_mem_cons.mpr ⟨⟨[290], by decide +kernel⟩,
  List.forall_mem_cons.mpr ⟨⟨[168], by decide +kernel⟩,
  List.forall_mem_cons.mpr ⟨⟨[181], by decide +kernel⟩,
  List.forall_mem_cons.mpr ⟨⟨[553, 501, 502, 8], by decide +kernel⟩,
  List.forall_mem_cons.mpr ⟨⟨[171], by decide +kernel⟩,
  List.forall_mem_cons.mpr ⟨⟨[554, 555, 6], by decide +kernel⟩,
  List.forall_mem_cons.mpr ⟨⟨[561, 451, 452, 7], by decide +kernel⟩,
  List.forall_mem_cons.mpr ⟨⟨[165], by decide +kernel⟩,
  List.forall_mem_cons.mpr ⟨⟨[562, 347, 348, 12], by decide +kernel⟩,
  List.forall_mem_cons.mpr ⟨⟨[563, 564, 565, 7], by decide +kernel⟩,
  List.forall_mem_cons.mpr ⟨⟨[646, 647, 648, 7], by decide +kernel⟩,
  List.forall_mem_cons.mpr ⟨⟨[588, 473, 6], by decide +kernel⟩,
  List.forall_mem_cons.mpr ⟨⟨[589, 590, 591, 12], by decide +kernel⟩,
  List.forall_mem_cons.mpr ⟨⟨[593, 594, 595, 12], by decide +kernel⟩,
  List.forall_mem_cons.mpr ⟨⟨[581, 582, 18, 583], by decide +kernel⟩,
  List.forall_mem_cons.mpr ⟨⟨[584, 586, 1, 16], by decide +kernel⟩,
  List.forall_mem_cons.mpr ⟨⟨[660], by decide +kernel⟩,
  List.forall_mem_cons.mpr ⟨⟨[661, 578, 579, 16], by decide +kernel⟩,
  fun _ h => absurd h List.not_mem_nil⟩⟩⟩⟩⟩⟩⟩⟩⟩⟩⟩⟩⟩⟩⟩⟩⟩⟩⟩⟩⟩⟩⟩⟩⟩⟩⟩⟩⟩

set_option maxRecDepth 100000 in
theorem zpkX2 : ∀ e ∈ zpX2, ∃ ps, zpok RX2 e ps = true := List.forall_mem_cons.mpr ⟨⟨[218, 25, 26], by decide +kernel⟩,
  List.forall_mem_cons.mpr ⟨⟨[219, 28, 7], by decide +kernel⟩,
  List.forall_mem_cons.mpr ⟨⟨[222], by decide +kernel⟩,
  List.forall_mem_cons.mpr ⟨⟨[221, 30, 7], by decide +kernel⟩,
  List.forall_mem_cons.mpr ⟨⟨[226], by decide +kernel⟩,
  List.forall_mem_cons.mpr ⟨⟨[223], by decide +kernel⟩,
  List.forall_mem_cons.mpr ⟨⟨[342, 343, 344, 7], by decide +kernel⟩,
  List.forall_mem_cons.mpr ⟨⟨[224], by decide +kernel⟩,
  List.forall_mem_cons.mpr ⟨⟨[372, 373, 18, 374], by decide +kernel⟩,
  List.forall_mem_cons.mpr ⟨⟨[219], by decide +kernel⟩,
  fun _ h => absurd h List.not_mem_nil⟩⟩⟩⟩⟩⟩⟩⟩⟩⟩

set_option maxRecDepth 100000 in
theorem zpkX3 : ∀ e ∈ zpX3, ∃ ps, zpok RX3 e ps = true := List.forall_mem_cons.mpr ⟨⟨[111, 25, 26], by decide +kernel⟩,
  List.forall_mem_cons.mpr ⟨⟨[112], by decide +kernel⟩,
  List.forall_mem_cons.mpr ⟨⟨[114], by decide +kernel⟩,
  List.forall_mem_cons.mpr ⟨⟨[116], by decide +kernel⟩,
  List.forall_mem_cons.mpr ⟨⟨[118], by decide +kernel⟩,
  List.forall_mem_cons.mpr ⟨⟨[371, 356, 355, 17], by decide +kernel⟩,
  List.forall_mem_cons.mpr ⟨⟨[120], by decide +kernel⟩,
  List.forall_mem_cons.mpr ⟨⟨[628, 373, 18, 374], by decide +kernel⟩,
  fun _ h => absurd h List.not_mem_nil⟩⟩⟩⟩⟩⟩⟩⟩

set_option maxRecDepth 100000 in
theorem zpkX4 : ∀ e ∈ zpX4, ∃ ps, zpok RX4 e ps = true := List.forall_mem_cons.mpr ⟨⟨[137, 25, 26], by decide +kernel⟩,
  List.forall_mem_cons.mpr ⟨⟨[138], by decide +kernel⟩,
  List.forall_mem_cons.mpr ⟨⟨[140], by decide +kernel⟩,
  List.forall_mem_cons.mpr ⟨⟨[142], by decide +kernel⟩,
  List.forall_mem_cons.mpr ⟨⟨[144], by decide +kernel⟩,
  List.forall_mem_cons.mpr ⟨⟨[146], by decide +kernel⟩,
  List.forall_mem_cons.mpr ⟨⟨[149], by decide +kernel⟩,
  List.forall_mem_cons.mpr ⟨⟨[458, 373, 18, 374], by decide +kernel⟩,
  List.forall_mem_cons.mpr ⟨⟨[597], by decide +kernel⟩,
  List.forall_mem_cons.mpr ⟨⟨[598, 455, 456, 12], by decide +kernel⟩,
  List.forall_mem_cons.mpr ⟨⟨[599], by decide +kernel⟩,
  fun _ h => absurd h List.not_mem_nil⟩⟩⟩⟩⟩⟩⟩⟩⟩⟩⟩

set_option maxRecDepth 100000 in
theorem zpkX5 : ∀ e ∈ zpX5, ∃ ps, zpok RX5 e ps = true := List.forall_mem_cons.mpr ⟨⟨[257, 25, 26], by decide +kernel⟩,
  List.forall_mem_cons.mpr ⟨⟨[258], by decide +kernel⟩,
  List.forall_mem_cons.mpr ⟨⟨[259], by decide +kernel⟩,
  fun _ h => absurd h List.not_mem_nil⟩⟩⟩

set_option maxRecDepth 100000 in
theorem zpkX6 : ∀ e ∈ zpX6, ∃ ps, zpok RX6 e ps = true := List.forall_mem_cons.mpr ⟨⟨[40, 25, 26], by decide +kernel⟩,
  List.forall_mem_cons.mpr ⟨⟨[41], by decide +kernel⟩,
  List.forall_mem_cons.mpr ⟨⟨[42], by decide +kernel⟩,
  List.forall_mem_cons.mpr ⟨⟨[43], by decide +kernel⟩,
  List.forall_mem_cons.mpr ⟨⟨[44], by decide +kernel⟩,
  List.forall_mem_cons.mpr ⟨⟨[354, 356, 355, 17], by decide +kernel⟩,
  List.forall_mem_cons.mpr ⟨⟨[45], by decide +kernel⟩,
  List.forall_mem_cons.mpr ⟨⟨[750, 743, 744, 8], by decide +kernel⟩,
  List.forall_mem_cons.mpr ⟨⟨[751], by decide +kernel⟩,
  fun _ h => absurd h List.not_mem_nil⟩⟩⟩⟩⟩⟩⟩⟩⟩

set_option maxRecDepth 100000 in
theorem zpkX7 : ∀ e ∈ zpX7, ∃ ps, zpok RX7 e ps = true := List.forall_mem_cons.mpr ⟨⟨[84, 25, 26], by decide +kernel⟩,
  List.forall_mem_cons.mpr ⟨⟨[85], by decide +kernel⟩,
  List.forall_mem_cons.mpr ⟨⟨[88], by decide +kernel⟩,
  List.forall_mem_cons.mpr ⟨⟨[91], by decide +kernel⟩,
  List.forall_mem_cons.mpr ⟨⟨[366, 356, 355, 17], by decide +kernel⟩,
  List.forall_mem_cons.mpr ⟨⟨[94], by decide +kernel⟩,
  List.forall_mem_cons.mpr ⟨⟨[685], by decide +kernel⟩,
  List.forall_mem_cons.mpr ⟨⟨[388, 380, 381, 10], by decide +kernel⟩,
  List.forall_mem_cons.mpr ⟨⟨[524, 525, 6], by decide +kernel⟩,
  fun _ h => absurd h List.not_mem_nil⟩⟩⟩⟩⟩⟩⟩⟩⟩

set_option maxRecDepth 100000 in
theorem zpkX8 : ∀ e ∈ zpX8, ∃ ps, zpok RX8 e ps = true := List.forall_mem_cons.mpr ⟨⟨[241, 25, 26], by decide +kernel⟩,
  List.forall_mem_cons.mpr ⟨⟨[242, 28, 7], by decide +kernel⟩,
  List.forall_mem_cons.mpr ⟨⟨[244], by decide +kernel⟩,
  List.forall_mem_cons.mpr ⟨⟨[245], by decide +kernel⟩,
  List.forall_mem_cons.mpr ⟨⟨[243, 30, 7], by decide +kernel⟩,
  List.forall_mem_cons.mpr ⟨⟨[414, 407, 408, 14], by decide +kernel⟩,
  List.forall_mem_cons.mpr ⟨⟨[415, 343, 344, 7], by decide +kernel⟩,
  List.forall_mem_cons.mpr ⟨⟨[428, 421, 422, 14], by decide +kernel⟩,
  List.forall_mem_cons.mpr ⟨⟨[242], by decide +kernel⟩,
  fun _ h => absurd h List.not_mem_nil⟩⟩⟩⟩⟩⟩⟩⟩⟩

set_option maxRecDepth 100000 in
theorem zpkX9 : ∀ e ∈ zpX9, ∃ ps, zpok RX9 e ps = true := List.forall_mem_cons.mpr ⟨⟨[32, 25, 26], by decide +kernel⟩,
  List.forall_mem_cons.mpr ⟨⟨[33, 133, 12], by decide +kernel⟩,
  List.forall_mem_cons.mpr ⟨⟨[164], by decide +kernel⟩,
  List.forall_mem_cons.mpr ⟨⟨[35, 36, 8], by decide +kernel⟩,
  List.forall_mem_cons.mpr ⟨⟨[37, 38, 8], by decide +kernel⟩,
  List.forall_mem_cons.mpr ⟨⟨[167], by decide +kernel⟩,
  List.forall_mem_cons.mpr ⟨⟨[170], by decide +kernel⟩,
  List.forall_mem_cons.mpr ⟨⟨[59, 60, 9], by decide +kernel⟩,
  List.forall_mem_cons.mpr ⟨⟨[61, 62, 9], by decide +kernel⟩,
  List.forall_mem_cons.mpr ⟨⟨[173], by decide +kernel⟩,
  List.forall_mem_cons.mpr ⟨⟨[79, 80, 10], by decide +kernel⟩,
  List.forall_mem_cons.mpr ⟨⟨[81, 82, 10], by decide +kernel⟩,
  List.forall_mem_cons.mpr ⟨⟨[175], by decide +kernel⟩,
  List.forall_mem_cons.mpr ⟨⟨[106, 107, 11], by decide +kernel⟩,
  List.forall_mem_cons.mpr ⟨⟨[108, 109, 11], by decide +kernel⟩,
  List.forall_mem_cons.mpr ⟨⟨[177], by decide +kernel⟩,
  List.forall_mem_cons.mpr ⟨⟨[134, 135, 12], by decide +kernel⟩,
  List.forall_mem_cons.mpr ⟨⟨[346, 347, 348, 12], by decide +kernel⟩,
  List.forall_mem_cons.mpr ⟨⟨[350, 351, 352, 8], by decide +kernel⟩,
  List.forall_mem_cons.mpr ⟨⟨[357, 358, 359, 9], by decide +kernel⟩,
  List.forall_mem_cons.mpr ⟨⟨[362, 363, 364, 10], by decide +kernel⟩,
  List.forall_mem_cons.mpr ⟨⟨[367, 368, 369, 11], by decide +kernel⟩,
  List.forall_mem_cons.mpr ⟨⟨[180], by decide +kernel⟩,
  List.forall_mem_cons.mpr ⟨⟨[182], by decide +kernel⟩,
  List.forall_mem_cons.mpr ⟨⟨[184], by decide +kernel⟩,
  List.forall_mem_cons.mpr ⟨⟨[186], by decide +kernel⟩,
  List.forall_mem_cons.mpr ⟨⟨[188], by decide +kernel⟩,
  List.forall_mem_cons.mpr ⟨⟨[698], by decide +kernel⟩,
  List.forall_mem_cons.mpr ⟨⟨[699, 700, 701, 12], by decide +kernel⟩,
  List.forall_mem_cons.mpr ⟨⟨[567, 509, 510, 9], by decide +kernel⟩,
  List.forall_mem_cons.mpr ⟨⟨[650, 573, 6], by decide +kernel⟩,
  List.forall_mem_cons.mpr ⟨⟨[568, 517, 518, 9], by decide +kernel⟩,
  List.forall_mem_cons.mpr ⟨⟨[651, 521, 522, 10], by decide +kernel⟩,
  List.forall_mem_cons.mpr ⟨⟨[576, 525, 6], by decide +kernel⟩,
  List.forall_mem_cons.mpr ⟨⟨[652, 653, 654, 10], by decide +kernel⟩,
  List.forall_mem_cons.mpr ⟨⟨[95], by decide +kernel⟩,
  List.forall_mem_cons.mpr ⟨⟨[89], by decide +kernel⟩,
  List.forall_mem_cons.mpr ⟨⟨[92], by decide +kernel⟩,
  List.forall_mem_cons.mpr ⟨⟨[569, 570, 6], by decide +kernel⟩,
  List.forall_mem_cons.mpr ⟨⟨[86], by decide +kernel⟩,
  List.forall_mem_cons.mpr ⟨⟨[609, 611, 2, 7], by decide +kernel⟩,
  List.forall_mem_cons.mpr ⟨⟨[629, 501, 502, 8], by decide +kernel⟩,
  List.forall_mem_cons.mpr ⟨⟨[630, 555, 6], by decide +kernel⟩,
  List.forall_mem_cons.mpr ⟨⟨[631, 594, 595, 12], by decide +kernel⟩,
  List.forall_mem_cons.mpr ⟨⟨[613, 614, 615, 10], by decide +kernel⟩,
  List.forall_mem_cons.mpr ⟨⟨[617, 385, 386, 10], by decide +kernel⟩,
  List.forall_mem_cons.mpr ⟨⟨[618, 620, 3, 7], by decide +kernel⟩,
  List.forall_mem_cons.mpr ⟨⟨[624, 625, 626, 11], by decide +kernel⟩,
  List.forall_mem_cons.mpr ⟨⟨[622, 451, 452, 7], by decide +kernel⟩,
  List.forall_mem_cons.mpr ⟨⟨[623, 590, 591, 12], by decide +kernel⟩,
  List.forall_mem_cons.mpr ⟨⟨[147], by decide +kernel⟩,
  List.forall_mem_cons.mpr ⟨⟨[33], by decide +kernel⟩,
  fun _ h => absurd h List.not_mem_nil⟩⟩⟩⟩⟩⟩⟩⟩⟩⟩⟩⟩⟩⟩⟩⟩⟩⟩⟩⟩⟩⟩⟩⟩⟩⟩⟩⟩⟩⟩⟩⟩⟩⟩⟩⟩⟩⟩⟩⟩⟩⟩⟩⟩⟩⟩⟩⟩⟩⟩⟩⟩

set_option maxRecDepth 100000 in
theorem zpkX10 : ∀ e ∈ zpX10, ∃ ps, zpok RX10 e ps = true := List.forall_mem_cons.mpr ⟨⟨[24, 25, 26], by decide +kernel⟩,
  List.forall_mem_cons.mpr ⟨⟨[27, 28, 7], by decide +kernel⟩,
  List.forall_mem_cons.mpr ⟨⟨[29, 30, 7], by decide +kernel⟩,
  List.forall_mem_cons.mpr ⟨⟨[309], by decide +kernel⟩,
  List.forall_mem_cons.mpr ⟨⟨[213, 214, 13], by decide +kernel⟩,
  List.forall_mem_cons.mpr ⟨⟨[215, 216, 13], by decide +kernel⟩,
  List.forall_mem_cons.mpr ⟨⟨[310], by decide +kernel⟩,
  List.forall_mem_cons.mpr ⟨⟨[236, 237, 14], by decide +kernel⟩,
  List.forall_mem_cons.mpr ⟨⟨[238, 239, 14], by decide +kernel⟩,
  List.forall_mem_cons.mpr ⟨⟨[311], by decide +kernel⟩,
  List.forall_mem_cons.mpr ⟨⟨[252, 253, 15], by decide +kernel⟩,
  List.forall_mem_cons.mpr ⟨⟨[254, 255, 15], by decide +kernel⟩,
  List.forall_mem_cons.mpr ⟨⟨[312], by decide +kernel⟩,
  List.forall_mem_cons.mpr ⟨⟨[274, 275, 16], by decide +kernel⟩,
  List.forall_mem_cons.mpr ⟨⟨[276, 277, 16], by decide +kernel⟩,
  List.forall_mem_cons.mpr ⟨⟨[313], by decide +kernel⟩,
  List.forall_mem_cons.mpr ⟨⟨[308], by decide +kernel⟩,
  List.forall_mem_cons.mpr ⟨⟨[315], by decide +kernel⟩,
  List.forall_mem_cons.mpr ⟨⟨[316], by decide +kernel⟩,
  List.forall_mem_cons.mpr ⟨⟨[472, 473, 6], by decide +kernel⟩,
  List.forall_mem_cons.mpr ⟨⟨[393], by decide +kernel⟩,
  List.forall_mem_cons.mpr ⟨⟨[179], by decide +kernel⟩,
  List.forall_mem_cons.mpr ⟨⟨[693], by decide +kernel⟩,
  List.forall_mem_cons.mpr ⟨⟨[338, 339, 340, 13], by decide +kernel⟩,
  List.forall_mem_cons.mpr ⟨⟨[694, 695, 696, 7], by decide +kernel⟩,
  List.forall_mem_cons.mpr ⟨⟨[720, 721, 6], by decide +kernel⟩,
  List.forall_mem_cons.mpr ⟨⟨[169], by decide +kernel⟩,
  List.forall_mem_cons.mpr ⟨⟨[742, 743, 744, 8], by decide +kernel⟩,
  List.forall_mem_cons.mpr ⟨⟨[676, 678, 4, 6], by decide +kernel⟩,
  List.forall_mem_cons.mpr ⟨⟨[746, 747, 748, 8], by decide +kernel⟩,
  List.forall_mem_cons.mpr ⟨⟨[172], by decide +kernel⟩,
  List.forall_mem_cons.mpr ⟨⟨[46], by decide +kernel⟩,
  List.forall_mem_cons.mpr ⟨⟨[174], by decide +kernel⟩,
  List.forall_mem_cons.mpr ⟨⟨[69], by decide +kernel⟩,
  List.forall_mem_cons.mpr ⟨⟨[711, 712, 713, 9], by decide +kernel⟩,
  List.forall_mem_cons.mpr ⟨⟨[468, 469, 470, 9], by decide +kernel⟩,
  List.forall_mem_cons.mpr ⟨⟨[383], by decide +kernel⟩,
  List.forall_mem_cons.mpr ⟨⟨[731, 732, 733, 9], by decide +kernel⟩,
  List.forall_mem_cons.mpr ⟨⟨[723, 724, 725, 9], by decide +kernel⟩,
  List.forall_mem_cons.mpr ⟨⟨[450, 451, 452, 7], by decide +kernel⟩,
  List.forall_mem_cons.mpr ⟨⟨[639, 640, 6], by decide +kernel⟩,
  List.forall_mem_cons.mpr ⟨⟨[183], by decide +kernel⟩,
  List.forall_mem_cons.mpr ⟨⟨[675, 647, 648, 7], by decide +kernel⟩,
  List.forall_mem_cons.mpr ⟨⟨[176], by decide +kernel⟩,
  List.forall_mem_cons.mpr ⟨⟨[681, 682, 683, 10], by decide +kernel⟩,
  List.forall_mem_cons.mpr ⟨⟨[379, 380, 381, 10], by decide +kernel⟩,
  List.forall_mem_cons.mpr ⟨⟨[384, 385, 386, 10], by decide +kernel⟩,
  List.forall_mem_cons.mpr ⟨⟨[96], by decide +kernel⟩,
  List.forall_mem_cons.mpr ⟨⟨[544, 545, 6], by decide +kernel⟩,
  List.forall_mem_cons.mpr ⟨⟨[548, 549, 550, 16], by decide +kernel⟩,
  List.forall_mem_cons.mpr ⟨⟨[557, 558, 559, 16], by decide +kernel⟩,
  List.forall_mem_cons.mpr ⟨⟨[642, 643, 644, 16], by decide +kernel⟩,
  List.forall_mem_cons.mpr ⟨⟨[656, 657, 658, 16], by decide +kernel⟩,
  List.forall_mem_cons.mpr ⟨⟨[667, 668, 669, 16], by decide +kernel⟩,
  List.forall_mem_cons.mpr ⟨⟨[547], by decide +kernel⟩,
  List.forall_mem_cons.mpr ⟨⟨[605, 606, 607, 7], by decide +kernel⟩,
  List.forall_mem_cons.mpr ⟨⟨[225], by decide +kernel⟩,
  List.forall_mem_cons.mpr ⟨⟨[398, 399, 400, 13], by decide +kernel⟩,
  List.forall_mem_cons.mpr ⟨⟨[406, 407, 408, 14], by decide +kernel⟩,
  List.forall_mem_cons.mpr ⟨⟨[410, 411, 412, 14], by decide +kernel⟩,
  List.forall_mem_cons.mpr ⟨⟨[420, 421, 422, 14], by decide +kernel⟩,
  List.forall_mem_cons.mpr ⟨⟨[424, 425, 426, 14], by decide +kernel⟩,
  List.forall_mem_cons.mpr ⟨⟨[166], by decide +kernel⟩,
  List.forall_mem_cons.mpr ⟨⟨[139], by decide +kernel⟩,
  List.forall_mem_cons.mpr ⟨⟨[141], by decide +kernel⟩,
  List.forall_mem_cons.mpr ⟨⟨[143], by decide +kernel⟩,
  List.forall_mem_cons.mpr ⟨⟨[145], by decide +kernel⟩,
  List.forall_mem_cons.mpr ⟨⟨[148], by decide +kernel⟩,
  List.forall_mem_cons.mpr ⟨⟨[454, 455, 456, 12], by decide +kernel⟩,
  List.forall_mem_cons.mpr ⟨⟨[463], by decide +kernel⟩,
  List.forall_mem_cons.mpr ⟨⟨[150], by decide +kernel⟩,
  List.forall_mem_cons.mpr ⟨⟨[287], by decide +kernel⟩,
  List.forall_mem_cons.mpr ⟨⟨[577, 578, 579, 16], by decide +kernel⟩,
  List.forall_mem_cons.mpr ⟨⟨[500, 501, 502, 8], by decide +kernel⟩,
  List.forall_mem_cons.mpr ⟨⟨[508, 509, 510, 9], by decide +kernel⟩,
  List.forall_mem_cons.mpr ⟨⟨[516, 517, 518, 9], by decide +kernel⟩,
  List.forall_mem_cons.mpr ⟨⟨[520, 521, 522, 10], by decide +kernel⟩,
  List.forall_mem_cons.mpr ⟨⟨[475, 476, 477, 9], by decide +kernel⟩,
  List.forall_mem_cons.mpr ⟨⟨[87], by decide +kernel⟩,
  List.forall_mem_cons.mpr ⟨⟨[90], by decide +kernel⟩,
  List.forall_mem_cons.mpr ⟨⟨[93], by decide +kernel⟩,
  List.forall_mem_cons.mpr ⟨⟨[178], by decide +kernel⟩,
  List.forall_mem_cons.mpr ⟨⟨[491, 492, 493, 11], by decide +kernel⟩,
  List.forall_mem_cons.mpr ⟨⟨[113], by decide +kernel⟩,
  List.forall_mem_cons.mpr ⟨⟨[115], by decide +kernel⟩,
  List.forall_mem_cons.mpr ⟨⟨[117], by decide +kernel⟩,
  List.forall_mem_cons.mpr ⟨⟨[119], by decide +kernel⟩,
  List.forall_mem_cons.mpr ⟨⟨[121], by decide +kernel⟩,
  List.forall_mem_cons.mpr ⟨⟨[314], by decide +kernel⟩,
  List.forall_mem_cons.mpr ⟨⟨[185], by decide +kernel⟩,
  List.forall_mem_cons.mpr ⟨⟨[187], by decide +kernel⟩,
  List.forall_mem_cons.mpr ⟨⟨[189], by decide +kernel⟩,
  List.forall_mem_cons.mpr ⟨⟨[680], by decide +kernel⟩,
  List.forall_mem_cons.mpr ⟨⟨[572, 573, 6], by decide +kernel⟩,
  List.forall_mem_cons.mpr ⟨⟨[575, 525, 6], by decide +kernel⟩,
  fun _ h => absurd h List.not_mem_nil⟩⟩⟩⟩⟩⟩⟩⟩⟩⟩⟩⟩⟩⟩⟩⟩⟩⟩⟩⟩⟩⟩⟩⟩⟩⟩⟩⟩⟩⟩⟩⟩⟩⟩⟩⟩⟩⟩⟩⟩⟩⟩⟩⟩⟩⟩⟩⟩⟩⟩⟩⟩⟩⟩⟩⟩⟩⟩⟩⟩⟩⟩⟩⟩⟩⟩⟩⟩⟩⟩⟩⟩⟩⟩⟩⟩⟩⟩⟩⟩⟩⟩⟩⟩⟩⟩⟩⟩⟩⟩⟩⟩⟩⟩⟩

set_option maxRecDepth 100000 in
theorem zpkL : ∀ e ∈ zpL, ∃ ps, zpok RL e ps = true := List.forall_mem_cons.mpr ⟨⟨[436], by decide +kernel⟩,
  List.forall_mem_cons.mpr ⟨⟨[440], by decide +kernel⟩,
  List.forall_mem_cons.mpr ⟨⟨[444], by decide +kernel⟩,
  List.forall_mem_cons.mpr ⟨⟨[445], by decide +kernel⟩,
  List.forall_mem_cons.mpr ⟨⟨[429, 430, 431, 6], by decide +kernel⟩,
  List.forall_mem_cons.mpr ⟨⟨[19, 20, 6], by decide +kernel⟩,
  List.forall_mem_cons.mpr ⟨⟨[446, 447, 448, 6], by decide +kernel⟩,
  List.forall_mem_cons.mpr ⟨⟨[459, 460, 461, 6], by decide +kernel⟩,
  List.forall_mem_cons.mpr ⟨⟨[464, 465, 466, 6], by decide +kernel⟩,
  List.forall_mem_cons.mpr ⟨⟨[481], by decide +kernel⟩,
  List.forall_mem_cons.mpr ⟨⟨[482, 483, 484, 6], by decide +kernel⟩,
  List.forall_mem_cons.mpr ⟨⟨[486], by decide +kernel⟩,
  List.forall_mem_cons.mpr ⟨⟨[487, 488, 489, 6], by decide +kernel⟩,
  List.forall_mem_cons.mpr ⟨⟨[495], by decide +kernel⟩,
  List.forall_mem_cons.mpr ⟨⟨[496, 497, 498, 6], by decide +kernel⟩,
  List.forall_mem_cons.mpr ⟨⟨[504, 505, 506, 6], by decide +kernel⟩,
  List.forall_mem_cons.mpr ⟨⟨[530], by decide +kernel⟩,
  List.forall_mem_cons.mpr ⟨⟨[531], by decide +kernel⟩,
  List.forall_mem_cons.mpr ⟨⟨[532], by decide +kernel⟩,
  List.forall_mem_cons.mpr ⟨⟨[533, 534, 5], by decide +kernel⟩,
  List.forall_mem_cons.mpr ⟨⟨[536], by decide +kernel⟩,
  List.forall_mem_cons.mpr ⟨⟨[437, 438, 5], by decide +kernel⟩,
  List.forall_mem_cons.mpr ⟨⟨[441, 442, 5], by decide +kernel⟩,
  List.forall_mem_cons.mpr ⟨⟨[540, 541, 542, 6], by decide +kernel⟩,
  List.forall_mem_cons.mpr ⟨⟨[600], by decide +kernel⟩,
  List.forall_mem_cons.mpr ⟨⟨[601, 602, 603, 6], by decide +kernel⟩,
  List.forall_mem_cons.mpr ⟨⟨[394, 395, 396, 6], by decide +kernel⟩,
  List.forall_mem_cons.mpr ⟨⟨[635, 636, 637, 6], by decide +kernel⟩,
  List.forall_mem_cons.mpr ⟨⟨[662], by decide +kernel⟩,
  List.forall_mem_cons.mpr ⟨⟨[663, 664, 665, 6], by decide +kernel⟩,
  List.forall_mem_cons.mpr ⟨⟨[671, 672, 673, 6], by decide +kernel⟩,
  List.forall_mem_cons.mpr ⟨⟨[689, 690, 691, 6], by decide +kernel⟩,
  List.forall_mem_cons.mpr ⟨⟨[703], by decide +kernel⟩,
  List.forall_mem_cons.mpr ⟨⟨[707, 708, 709, 6], by decide +kernel⟩,
  List.forall_mem_cons.mpr ⟨⟨[716, 717, 718, 6], by decide +kernel⟩,
  List.forall_mem_cons.mpr ⟨⟨[727, 728, 729, 6], by decide +kernel⟩,
  List.forall_mem_cons.mpr ⟨⟨[738, 739, 740, 6], by decide +kernel⟩,
  List.forall_mem_cons.mpr ⟨⟨[752, 753, 754, 6], by decide +kernel⟩,
  List.forall_mem_cons.mpr ⟨⟨[334, 335, 336, 6], by decide +kernel⟩,
  List.forall_mem_cons.mpr ⟨⟨[21, 22, 6], by decide +kernel⟩,
  List.forall_mem_cons.mpr ⟨⟨[416, 417, 418, 6], by decide +kernel⟩,
  List.forall_mem_cons.mpr ⟨⟨[402, 403, 404, 6], by decide +kernel⟩,
  List.forall_mem_cons.mpr ⟨⟨[375, 376, 377, 6], by decide +kernel⟩,
  List.forall_mem_cons.mpr ⟨⟨[389, 390, 391, 6], by decide +kernel⟩,
  List.forall_mem_cons.mpr ⟨⟨[433, 434, 5], by decide +kernel⟩,
  List.forall_mem_cons.mpr ⟨⟨[686, 687, 5], by decide +kernel⟩,
  List.forall_mem_cons.mpr ⟨⟨[704, 705, 5], by decide +kernel⟩,
  List.forall_mem_cons.mpr ⟨⟨[735, 736, 5], by decide +kernel⟩,
  List.forall_mem_cons.mpr ⟨⟨[537, 538, 5], by decide +kernel⟩,
  List.forall_mem_cons.mpr ⟨⟨[632, 633, 5], by decide +kernel⟩,
  List.forall_mem_cons.mpr ⟨⟨[527, 528, 5], by decide +kernel⟩,
  fun _ h => absurd h List.not_mem_nil⟩⟩⟩⟩⟩⟩⟩⟩⟩⟩⟩⟩⟩⟩⟩⟩⟩⟩⟩⟩⟩⟩⟩⟩⟩⟩⟩⟩⟩⟩⟩⟩⟩⟩⟩⟩⟩⟩⟩⟩⟩⟩⟩⟩⟩⟩⟩⟩⟩⟩⟩

