/-! each method's instructions and words, by decision -/
def zln : Instr → Nat
  | .bipush _ => 2
  | .ldc _ => 2
  | .iload _ => 2
  | .lload _ => 2
  | .aload _ => 2
  | .istore _ => 2
  | .lstore _ => 2
  | .astore _ => 2
  | .newarray _ => 2
  | .sipush _ => 3
  | .ldc_w _ => 3
  | .ldc2_w _ => 3
  | .iinc _ _ => 3
  | .goto _ => 3
  | .ifCond _ _ => 3
  | .if_icmp _ _ => 3
  | .getfield _ => 3
  | .putfield _ => 3
  | .invokevirtual _ => 3
  | .invokespecial _ => 3
  | .invokestatic _ => 3
  | .new _ => 3
  | .anewarray _ => 3
  | _ => 1
def zrng : Instr → Bool
  | .bipush n => decide ((Int8.ofInt n).toInt32 = zi n)
  | .sipush n => decide ((Int16.ofInt n).toInt32 = zi n)
  | _ => true
def zsw : Instr → Bool
  | .tableswitch _ _ _ _ => true
  | .lookupswitch _ _ => true
  | _ => false
def zdok (bytes : ByteArray) (pc : Nat) (i : Instr) : Bool := match decode bytes pc with
  | .ok q => decide (q.1 = i) && (zsw i || Nat.beq q.2 (zln i)) && zrng i
  | .error _ => false
def zdal (q : zMt) : Bool := q.2.2.2.2.2.2.2.all fun e => zdok q.2.2.1 e.1 e.2
def zmP (q : zMt) : Prop := zdal q = true ∧ (q.1 = RL ∨ ∃ p : Nat, lw_tbl[p]? = some (.code q.2.1 q.2.2.1 q.2.2.2.1 q.2.2.2.2.1)) ∧ (plainName q.2.1.cls && decide (q.2.1.cls = q.1) && decide (q.2.2.2.1 ≤ 17) && decide (zOwn[q.2.2.2.2.2.2.1]? = some q.1)) = true
set_option maxRecDepth 100000 in
theorem zmo0 : zmP zm0 := ⟨by decide +kernel, Or.inr ⟨106, rfl⟩, by decide +kernel⟩
set_option maxRecDepth 100000 in
theorem zmo1 : zmP zm1 := ⟨by decide +kernel, Or.inr ⟨417, rfl⟩, by decide +kernel⟩
set_option maxRecDepth 100000 in
theorem zmo2 : zmP zm2 := ⟨by decide +kernel, Or.inr ⟨487, rfl⟩, by decide +kernel⟩
set_option maxRecDepth 100000 in
theorem zmo3 : zmP zm3 := ⟨by decide +kernel, Or.inr ⟨478, rfl⟩, by decide +kernel⟩
set_option maxRecDepth 100000 in
theorem zmo4 : zmP zm4 := ⟨by decide +kernel, Or.inr ⟨881, rfl⟩, by decide +kernel⟩
set_option maxRecDepth 100000 in
theorem zmo5 : zmP zm5 := ⟨by decide +kernel, Or.inr ⟨492, rfl⟩, by decide +kernel⟩
set_option maxRecDepth 100000 in
theorem zmo6 : zmP zm6 := ⟨by decide +kernel, Or.inr ⟨502, rfl⟩, by decide +kernel⟩
set_option maxRecDepth 100000 in
theorem zmo7 : zmP zm7 := ⟨by decide +kernel, Or.inr ⟨525, rfl⟩, by decide +kernel⟩
set_option maxRecDepth 100000 in
theorem zmo8 : zmP zm8 := ⟨by decide +kernel, Or.inr ⟨521, rfl⟩, by decide +kernel⟩
set_option maxRecDepth 100000 in
theorem zmo9 : zmP zm9 := ⟨by decide +kernel, Or.inr ⟨532, rfl⟩, by decide +kernel⟩
set_option maxRecDepth 100000 in
theorem zmo10 : zmP zm10 := ⟨by decide +kernel, Or.inr ⟨330, rfl⟩, by decide +kernel⟩
set_option maxRecDepth 100000 in
theorem zmo11 : zmP zm11 := ⟨by decide +kernel, Or.inr ⟨573, rfl⟩, by decide +kernel⟩
set_option maxRecDepth 100000 in
theorem zmo12 : zmP zm12 := ⟨by decide +kernel, Or.inr ⟨585, rfl⟩, by decide +kernel⟩
set_option maxRecDepth 100000 in
theorem zmo13 : zmP zm13 := ⟨by decide +kernel, Or.inr ⟨600, rfl⟩, by decide +kernel⟩
set_option maxRecDepth 100000 in
theorem zmo14 : zmP zm14 := ⟨by decide +kernel, Or.inr ⟨610, rfl⟩, by decide +kernel⟩
set_option maxRecDepth 100000 in
theorem zmo15 : zmP zm15 := ⟨by decide +kernel, Or.inr ⟨630, rfl⟩, by decide +kernel⟩
set_option maxRecDepth 100000 in
theorem zmo16 : zmP zm16 := ⟨by decide +kernel, Or.inr ⟨605, rfl⟩, by decide +kernel⟩
set_option maxRecDepth 100000 in
theorem zmo17 : zmP zm17 := ⟨by decide +kernel, Or.inr ⟨641, rfl⟩, by decide +kernel⟩
set_option maxRecDepth 100000 in
theorem zmo18 : zmP zm18 := ⟨by decide +kernel, Or.inr ⟨260, rfl⟩, by decide +kernel⟩
set_option maxRecDepth 100000 in
theorem zmo19 : zmP zm19 := ⟨by decide +kernel, Or.inr ⟨398, rfl⟩, by decide +kernel⟩
set_option maxRecDepth 100000 in
theorem zmo20 : zmP zm20 := ⟨by decide +kernel, Or.inr ⟨820, rfl⟩, by decide +kernel⟩
set_option maxRecDepth 100000 in
theorem zmo21 : zmP zm21 := ⟨by decide +kernel, Or.inr ⟨153, rfl⟩, by decide +kernel⟩
set_option maxRecDepth 100000 in
theorem zmo22 : zmP zm22 := ⟨by decide +kernel, Or.inr ⟨427, rfl⟩, by decide +kernel⟩
set_option maxRecDepth 100000 in
theorem zmo23 : zmP zm23 := ⟨by decide +kernel, Or.inr ⟨893, rfl⟩, by decide +kernel⟩
set_option maxRecDepth 100000 in
theorem zmo24 : zmP zm24 := ⟨by decide +kernel, Or.inr ⟨669, rfl⟩, by decide +kernel⟩
set_option maxRecDepth 100000 in
theorem zmo25 : zmP zm25 := ⟨by decide +kernel, Or.inr ⟨179, rfl⟩, by decide +kernel⟩
set_option maxRecDepth 100000 in
theorem zmo26 : zmP zm26 := ⟨by decide +kernel, Or.inr ⟨440, rfl⟩, by decide +kernel⟩
set_option maxRecDepth 100000 in
theorem zmo27 : zmP zm27 := ⟨by decide +kernel, Or.inr ⟨406, rfl⟩, by decide +kernel⟩
set_option maxRecDepth 100000 in
theorem zmo28 : zmP zm28 := ⟨by decide +kernel, Or.inr ⟨625, rfl⟩, by decide +kernel⟩
set_option maxRecDepth 100000 in
theorem zmo29 : zmP zm29 := ⟨by decide +kernel, Or.inr ⟨615, rfl⟩, by decide +kernel⟩
set_option maxRecDepth 100000 in
theorem zmo30 : zmP zm30 := ⟨by decide +kernel, Or.inr ⟨619, rfl⟩, by decide +kernel⟩
set_option maxRecDepth 100000 in
theorem zmo31 : zmP zm31 := ⟨by decide +kernel, Or.inr ⟨300, rfl⟩, by decide +kernel⟩
set_option maxRecDepth 100000 in
theorem zmo32 : zmP zm32 := ⟨by decide +kernel, Or.inr ⟨681, rfl⟩, by decide +kernel⟩
set_option maxRecDepth 100000 in
theorem zmo33 : zmP zm33 := ⟨by decide +kernel, Or.inr ⟨698, rfl⟩, by decide +kernel⟩
set_option maxRecDepth 100000 in
theorem zmo34 : zmP zm34 := ⟨by decide +kernel, Or.inr ⟨694, rfl⟩, by decide +kernel⟩
set_option maxRecDepth 100000 in
theorem zmo35 : zmP zm35 := ⟨by decide +kernel, Or.inr ⟨702, rfl⟩, by decide +kernel⟩
set_option maxRecDepth 100000 in
theorem zmo36 : zmP zm36 := ⟨by decide +kernel, Or.inr ⟨710, rfl⟩, by decide +kernel⟩
set_option maxRecDepth 100000 in
theorem zmo37 : zmP zm37 := ⟨by decide +kernel, Or.inr ⟨706, rfl⟩, by decide +kernel⟩
set_option maxRecDepth 100000 in
theorem zmo38 : zmP zm38 := ⟨by decide +kernel, Or.inr ⟨714, rfl⟩, by decide +kernel⟩
set_option maxRecDepth 100000 in
theorem zmo39 : zmP zm39 := ⟨by decide +kernel, Or.inr ⟨727, rfl⟩, by decide +kernel⟩
set_option maxRecDepth 100000 in
theorem zmo40 : zmP zm40 := ⟨by decide +kernel, Or.inr ⟨782, rfl⟩, by decide +kernel⟩
set_option maxRecDepth 100000 in
theorem zmo41 : zmP zm41 := ⟨by decide +kernel, Or.inr ⟨717, rfl⟩, by decide +kernel⟩
set_option maxRecDepth 100000 in
theorem zmo42 : zmP zm42 := ⟨by decide +kernel, Or.inr ⟨778, rfl⟩, by decide +kernel⟩
set_option maxRecDepth 100000 in
theorem zmo43 : zmP zm43 := ⟨by decide +kernel, Or.inr ⟨786, rfl⟩, by decide +kernel⟩
set_option maxRecDepth 100000 in
theorem zmo44 : zmP zm44 := ⟨by decide +kernel, Or.inr ⟨789, rfl⟩, by decide +kernel⟩
set_option maxRecDepth 100000 in
theorem zmo45 : zmP zm45 := ⟨by decide +kernel, Or.inr ⟨82, rfl⟩, by decide +kernel⟩
set_option maxRecDepth 100000 in
theorem zmo46 : zmP zm46 := ⟨by decide +kernel, Or.inr ⟨410, rfl⟩, by decide +kernel⟩
set_option maxRecDepth 100000 in
theorem zmo47 : zmP zm47 := ⟨by decide +kernel, Or.inr ⟨451, rfl⟩, by decide +kernel⟩
set_option maxRecDepth 100000 in
theorem zmo48 : zmP zm48 := ⟨by decide +kernel, Or.inr ⟨460, rfl⟩, by decide +kernel⟩
set_option maxRecDepth 100000 in
theorem zmo49 : zmP zm49 := ⟨by decide +kernel, Or.inr ⟨578, rfl⟩, by decide +kernel⟩
set_option maxRecDepth 100000 in
theorem zmo50 : zmP zm50 := ⟨by decide +kernel, Or.inr ⟨126, rfl⟩, by decide +kernel⟩
set_option maxRecDepth 100000 in
theorem zmo51 : zmP zm51 := ⟨by decide +kernel, Or.inr ⟨422, rfl⟩, by decide +kernel⟩
set_option maxRecDepth 100000 in
theorem zmo52 : zmP zm52 := ⟨by decide +kernel, Or.inr ⟨557, rfl⟩, by decide +kernel⟩
set_option maxRecDepth 100000 in
theorem zmo53 : zmP zm53 := ⟨by decide +kernel, Or.inr ⟨548, rfl⟩, by decide +kernel⟩
set_option maxRecDepth 100000 in
theorem zmo54 : zmP zm54 := ⟨by decide +kernel, Or.inr ⟨561, rfl⟩, by decide +kernel⟩
set_option maxRecDepth 100000 in
theorem zmo55 : zmP zm55 := ⟨by decide +kernel, Or.inr ⟨658, rfl⟩, by decide +kernel⟩
set_option maxRecDepth 100000 in
theorem zmo56 : zmP zm56 := ⟨by decide +kernel, Or.inr ⟨536, rfl⟩, by decide +kernel⟩
set_option maxRecDepth 100000 in
theorem zmo57 : zmP zm57 := ⟨by decide +kernel, Or.inr ⟨544, rfl⟩, by decide +kernel⟩
set_option maxRecDepth 100000 in
theorem zmo58 : zmP zm58 := ⟨by decide +kernel, Or.inr ⟨284, rfl⟩, by decide +kernel⟩
set_option maxRecDepth 100000 in
theorem zmo59 : zmP zm59 := ⟨by decide +kernel, Or.inr ⟨828, rfl⟩, by decide +kernel⟩
set_option maxRecDepth 100000 in
theorem zmo60 : zmP zm60 := ⟨by decide +kernel, Or.inr ⟨842, rfl⟩, by decide +kernel⟩
set_option maxRecDepth 100000 in
theorem zmo61 : zmP zm61 := ⟨by decide +kernel, Or.inr ⟨832, rfl⟩, by decide +kernel⟩
set_option maxRecDepth 100000 in
theorem zmo62 : zmP zm62 := ⟨by decide +kernel, Or.inr ⟨846, rfl⟩, by decide +kernel⟩
set_option maxRecDepth 100000 in
theorem zmo63 : zmP zm63 := ⟨by decide +kernel, Or.inr ⟨74, rfl⟩, by decide +kernel⟩
set_option maxRecDepth 100000 in
theorem zmo64 : zmP zm64 := ⟨by decide +kernel, Or.inr ⟨402, rfl⟩, by decide +kernel⟩
set_option maxRecDepth 100000 in
theorem zmo65 : zmP zm65 := ⟨by decide +kernel, Or.inr ⟨510, rfl⟩, by decide +kernel⟩
set_option maxRecDepth 100000 in
theorem zmo66 : zmP zm66 := ⟨by decide +kernel, Or.inr ⟨435, rfl⟩, by decide +kernel⟩
set_option maxRecDepth 100000 in
theorem zmo67 : zmP zm67 := ⟨by decide +kernel, Or.inr ⟨517, rfl⟩, by decide +kernel⟩
set_option maxRecDepth 100000 in
theorem zmo68 : zmP zm68 := ⟨by decide +kernel, Or.inr ⟨591, rfl⟩, by decide +kernel⟩
set_option maxRecDepth 100000 in
theorem zmo69 : zmP zm69 := ⟨by decide +kernel, Or.inr ⟨650, rfl⟩, by decide +kernel⟩
set_option maxRecDepth 100000 in
theorem zmo70 : zmP zm70 := ⟨by decide +kernel, Or.inr ⟨654, rfl⟩, by decide +kernel⟩
set_option maxRecDepth 100000 in
theorem zmo71 : zmP zm71 := ⟨by decide +kernel, Or.inr ⟨663, rfl⟩, by decide +kernel⟩
set_option maxRecDepth 100000 in
theorem zmo72 : zmP zm72 := ⟨by decide +kernel, Or.inr ⟨66, rfl⟩, by decide +kernel⟩
set_option maxRecDepth 100000 in
theorem zmo73 : zmP zm73 := ⟨by decide +kernel, Or.inr ⟨389, rfl⟩, by decide +kernel⟩
set_option maxRecDepth 100000 in
theorem zmo74 : zmP zm74 := ⟨by decide +kernel, Or.inr ⟨444, rfl⟩, by decide +kernel⟩
set_option maxRecDepth 100000 in
theorem zmo75 : zmP zm75 := ⟨by decide +kernel, Or.inr ⟨466, rfl⟩, by decide +kernel⟩
set_option maxRecDepth 100000 in
theorem zmo76 : zmP zm76 := ⟨by decide +kernel, Or.inr ⟨470, rfl⟩, by decide +kernel⟩
set_option maxRecDepth 100000 in
theorem zmo77 : zmP zm77 := ⟨by decide +kernel, Or.inr ⟨474, rfl⟩, by decide +kernel⟩
set_option maxRecDepth 100000 in
theorem zmo78 : zmP zm78 := ⟨by decide +kernel, Or.inr ⟨483, rfl⟩, by decide +kernel⟩
set_option maxRecDepth 100000 in
theorem zmo79 : zmP zm79 := ⟨by decide +kernel, Or.inr ⟨498, rfl⟩, by decide +kernel⟩
set_option maxRecDepth 100000 in
theorem zmo80 : zmP zm80 := ⟨by decide +kernel, Or.inr ⟨506, rfl⟩, by decide +kernel⟩
set_option maxRecDepth 100000 in
theorem zmo81 : zmP zm81 := ⟨by decide +kernel, Or.inr ⟨553, rfl⟩, by decide +kernel⟩
set_option maxRecDepth 100000 in
theorem zmo82 : zmP zm82 := ⟨by decide +kernel, Or.inr ⟨566, rfl⟩, by decide +kernel⟩
set_option maxRecDepth 100000 in
theorem zmo83 : zmP zm83 := ⟨by decide +kernel, Or.inr ⟨637, rfl⟩, by decide +kernel⟩
set_option maxRecDepth 100000 in
theorem zmo84 : zmP zm84 := ⟨by decide +kernel, Or.inr ⟨645, rfl⟩, by decide +kernel⟩
set_option maxRecDepth 100000 in
theorem zmo85 : zmP zm85 := ⟨by decide +kernel, Or.inr ⟨677, rfl⟩, by decide +kernel⟩
set_option maxRecDepth 100000 in
theorem zmo86 : zmP zm86 := ⟨by decide +kernel, Or.inr ⟨686, rfl⟩, by decide +kernel⟩
set_option maxRecDepth 100000 in
theorem zmo87 : zmP zm87 := ⟨by decide +kernel, Or.inr ⟨690, rfl⟩, by decide +kernel⟩
set_option maxRecDepth 100000 in
theorem zmo88 : zmP zm88 := ⟨by decide +kernel, Or.inr ⟨812, rfl⟩, by decide +kernel⟩
set_option maxRecDepth 100000 in
theorem zmo89 : zmP zm89 := ⟨by decide +kernel, Or.inr ⟨816, rfl⟩, by decide +kernel⟩
set_option maxRecDepth 100000 in
theorem zmo90 : zmP zm90 := ⟨by decide +kernel, Or.inr ⟨824, rfl⟩, by decide +kernel⟩
set_option maxRecDepth 100000 in
theorem zmo91 : zmP zm91 := ⟨by decide +kernel, Or.inr ⟨838, rfl⟩, by decide +kernel⟩
set_option maxRecDepth 100000 in
theorem zmo92 : zmP zm92 := ⟨by decide +kernel, Or.inr ⟨851, rfl⟩, by decide +kernel⟩
set_option maxRecDepth 100000 in
theorem zmo93 : zmP zm93 := ⟨by decide +kernel, Or.inr ⟨856, rfl⟩, by decide +kernel⟩
set_option maxRecDepth 100000 in
theorem zmo94 : zmP zm94 := ⟨by decide +kernel, Or.inr ⟨860, rfl⟩, by decide +kernel⟩
set_option maxRecDepth 100000 in
theorem zmo95 : zmP zm95 := ⟨by decide +kernel, Or.inr ⟨865, rfl⟩, by decide +kernel⟩
set_option maxRecDepth 100000 in
theorem zmo96 : zmP zm96 := ⟨by decide +kernel, Or.inr ⟨870, rfl⟩, by decide +kernel⟩
set_option maxRecDepth 100000 in
theorem zmo97 : zmP zm97 := ⟨by decide +kernel, Or.inr ⟨877, rfl⟩, by decide +kernel⟩
set_option maxRecDepth 100000 in
theorem zmo98 : zmP zm98 := ⟨by decide +kernel, Or.inr ⟨885, rfl⟩, by decide +kernel⟩
set_option maxRecDepth 100000 in
theorem zmo99 : zmP zm99 := ⟨by decide +kernel, Or.inr ⟨889, rfl⟩, by decide +kernel⟩
set_option maxRecDepth 100000 in
theorem zmo100 : zmP zm100 := ⟨by decide +kernel, Or.inr ⟨897, rfl⟩, by decide +kernel⟩
set_option maxRecDepth 100000 in
theorem zmo101 : zmP zm101 := ⟨by decide +kernel, Or.inr ⟨392, rfl⟩, by decide +kernel⟩
set_option maxRecDepth 100000 in
theorem zmo102 : zmP zm102 := ⟨by decide +kernel, Or.inr ⟨447, rfl⟩, by decide +kernel⟩
set_option maxRecDepth 100000 in
theorem zmo103 : zmP zm103 := ⟨by decide +kernel, Or.inr ⟨569, rfl⟩, by decide +kernel⟩
set_option maxRecDepth 100000 in
theorem zmo104 : zmP zm104 := ⟨by decide +kernel, Or.inr ⟨513, rfl⟩, by decide +kernel⟩
set_option maxRecDepth 100000 in
theorem zmo105 : zmP zm105 := ⟨by decide +kernel, Or.inr ⟨455, rfl⟩, by decide +kernel⟩
set_option maxRecDepth 100000 in
theorem zmo106 : zmP zm106 := ⟨by decide +kernel, Or.inr ⟨795, rfl⟩, by decide +kernel⟩
set_option maxRecDepth 100000 in
theorem zmo107 : zmP zm107 := ⟨by decide +kernel, Or.inr ⟨806, rfl⟩, by decide +kernel⟩
set_option maxRecDepth 100000 in
theorem zmo108 : zmP zm108 := ⟨by decide +kernel, Or.inr ⟨801, rfl⟩, by decide +kernel⟩
set_option maxRecDepth 100000 in
theorem zmo109 : zmP zm109 := ⟨by decide +kernel, Or.inr ⟨528, rfl⟩, by decide +kernel⟩
set_option maxRecDepth 100000 in
theorem zmo110 : zmP zm110 := ⟨by decide +kernel, Or.inr ⟨539, rfl⟩, by decide +kernel⟩
set_option maxRecDepth 100000 in
theorem zmo111 : zmP zm111 := ⟨by decide +kernel, Or.inr ⟨594, rfl⟩, by decide +kernel⟩
set_option maxRecDepth 100000 in
theorem zmo112 : zmP zm112 := ⟨by decide +kernel, Or.inr ⟨581, rfl⟩, by decide +kernel⟩
set_option maxRecDepth 100000 in
theorem zmo113 : zmP zm113 := ⟨by decide +kernel, Or.inr ⟨902, rfl⟩, by decide +kernel⟩
set_option maxRecDepth 100000 in
theorem zmo114 : zmP zm114 := ⟨by decide +kernel, Or.inr ⟨965, rfl⟩, by decide +kernel⟩
set_option maxRecDepth 100000 in
theorem zmo115 : zmP zm115 := ⟨by decide +kernel, Or.inr ⟨970, rfl⟩, by decide +kernel⟩
set_option maxRecDepth 100000 in
theorem zmo116 : zmP zm116 := ⟨by decide +kernel, Or.inr ⟨978, rfl⟩, by decide +kernel⟩
set_option maxRecDepth 100000 in
theorem zmo117 : zmP zm117 := ⟨by decide +kernel, Or.inr ⟨958, rfl⟩, by decide +kernel⟩
set_option maxRecDepth 100000 in
theorem zmo118 : zmP zm118 := ⟨by decide +kernel, Or.inr ⟨962, rfl⟩, by decide +kernel⟩
set_option maxRecDepth 100000 in
theorem zmo119 : zmP zm119 := ⟨by decide +kernel, Or.inr ⟨974, rfl⟩, by decide +kernel⟩
set_option maxRecDepth 100000 in
theorem zmo120 : zmP zm120 := ⟨by decide +kernel, Or.inr ⟨1006, rfl⟩, by decide +kernel⟩
set_option maxRecDepth 100000 in
theorem zmo121 : zmP zm121 := ⟨by decide +kernel, Or.inr ⟨1054, rfl⟩, by decide +kernel⟩
set_option maxRecDepth 100000 in
theorem zmo122 : zmP zm122 := ⟨by decide +kernel, Or.inr ⟨1036, rfl⟩, by decide +kernel⟩
set_option maxRecDepth 100000 in
theorem zmo123 : zmP zm123 := ⟨by decide +kernel, Or.inr ⟨990, rfl⟩, by decide +kernel⟩
set_option maxRecDepth 100000 in
theorem zmo124 : zmP zm124 := ⟨by decide +kernel, Or.inr ⟨982, rfl⟩, by decide +kernel⟩
set_option maxRecDepth 100000 in
theorem zmo125 : zmP zm125 := ⟨by decide +kernel, Or.inr ⟨998, rfl⟩, by decide +kernel⟩
set_option maxRecDepth 100000 in
theorem zmo126 : zmP zm126 := ⟨by decide +kernel, Or.inr ⟨1011, rfl⟩, by decide +kernel⟩
set_option maxRecDepth 100000 in
theorem zmo127 : zmP zm127 := ⟨by decide +kernel, Or.inr ⟨994, rfl⟩, by decide +kernel⟩
set_option maxRecDepth 100000 in
theorem zmo128 : zmP zm128 := ⟨by decide +kernel, Or.inr ⟨1015, rfl⟩, by decide +kernel⟩
set_option maxRecDepth 100000 in
theorem zmo129 : zmP zm129 := ⟨by decide +kernel, Or.inr ⟨1019, rfl⟩, by decide +kernel⟩
set_option maxRecDepth 100000 in
theorem zmo130 : zmP zm130 := ⟨by decide +kernel, Or.inr ⟨1120, rfl⟩, by decide +kernel⟩
set_option maxRecDepth 100000 in
theorem zmo131 : zmP zm131 := ⟨by decide +kernel, Or.inr ⟨1027, rfl⟩, by decide +kernel⟩
set_option maxRecDepth 100000 in
theorem zmo132 : zmP zm132 := ⟨by decide +kernel, Or.inr ⟨1023, rfl⟩, by decide +kernel⟩
set_option maxRecDepth 100000 in
theorem zmo133 : zmP zm133 := ⟨by decide +kernel, Or.inr ⟨1032, rfl⟩, by decide +kernel⟩
set_option maxRecDepth 100000 in
theorem zmo134 : zmP zm134 := ⟨by decide +kernel, Or.inr ⟨1042, rfl⟩, by decide +kernel⟩
set_option maxRecDepth 100000 in
theorem zmo135 : zmP zm135 := ⟨by decide +kernel, Or.inr ⟨1068, rfl⟩, by decide +kernel⟩
set_option maxRecDepth 100000 in
theorem zmo136 : zmP zm136 := ⟨by decide +kernel, Or.inr ⟨1064, rfl⟩, by decide +kernel⟩
set_option maxRecDepth 100000 in
theorem zmo137 : zmP zm137 := ⟨by decide +kernel, Or.inr ⟨1076, rfl⟩, by decide +kernel⟩
set_option maxRecDepth 100000 in
theorem zmo138 : zmP zm138 := ⟨by decide +kernel, Or.inr ⟨1086, rfl⟩, by decide +kernel⟩
set_option maxRecDepth 100000 in
theorem zmo139 : zmP zm139 := ⟨by decide +kernel, Or.inr ⟨1072, rfl⟩, by decide +kernel⟩
set_option maxRecDepth 100000 in
theorem zmo140 : zmP zm140 := ⟨by decide +kernel, Or.inr ⟨1083, rfl⟩, by decide +kernel⟩
set_option maxRecDepth 100000 in
theorem zmo141 : zmP zm141 := ⟨by decide +kernel, Or.inr ⟨1080, rfl⟩, by decide +kernel⟩
set_option maxRecDepth 100000 in
theorem zmo142 : zmP zm142 := ⟨by decide +kernel, Or.inr ⟨1060, rfl⟩, by decide +kernel⟩
set_option maxRecDepth 100000 in
theorem zmo143 : zmP zm143 := ⟨by decide +kernel, Or.inr ⟨1050, rfl⟩, by decide +kernel⟩
set_option maxRecDepth 100000 in
theorem zmo144 : zmP zm144 := ⟨by decide +kernel, Or.inr ⟨1090, rfl⟩, by decide +kernel⟩
set_option maxRecDepth 100000 in
theorem zmo145 : zmP zm145 := ⟨by decide +kernel, Or.inr ⟨1046, rfl⟩, by decide +kernel⟩
set_option maxRecDepth 100000 in
theorem zmo146 : zmP zm146 := ⟨by decide +kernel, Or.inr ⟨1098, rfl⟩, by decide +kernel⟩
set_option maxRecDepth 100000 in
theorem zmo147 : zmP zm147 := ⟨by decide +kernel, Or.inr ⟨1094, rfl⟩, by decide +kernel⟩
set_option maxRecDepth 100000 in
theorem zmo148 : zmP zm148 := ⟨by decide +kernel, Or.inr ⟨1116, rfl⟩, by decide +kernel⟩
set_option maxRecDepth 100000 in
theorem zmo149 : zmP zm149 := ⟨by decide +kernel, Or.inr ⟨1112, rfl⟩, by decide +kernel⟩
set_option maxRecDepth 100000 in
theorem zmo150 : zmP zm150 := ⟨by decide +kernel, Or.inr ⟨1126, rfl⟩, by decide +kernel⟩
set_option maxRecDepth 100000 in
theorem zmo151 : zmP zm151 := ⟨by decide +kernel, Or.inr ⟨1108, rfl⟩, by decide +kernel⟩
set_option maxRecDepth 100000 in
theorem zmo152 : zmP zm152 := ⟨by decide +kernel, Or.inr ⟨1102, rfl⟩, by decide +kernel⟩
set_option maxRecDepth 100000 in
theorem zmo153 : zmP zm153 := ⟨by decide +kernel, Or.inr ⟨1136, rfl⟩, by decide +kernel⟩
set_option maxRecDepth 100000 in
theorem zmo154 : zmP zm154 := ⟨by decide +kernel, Or.inr ⟨1144, rfl⟩, by decide +kernel⟩
set_option maxRecDepth 100000 in
theorem zmo155 : zmP zm155 := ⟨by decide +kernel, Or.inr ⟨1140, rfl⟩, by decide +kernel⟩
set_option maxRecDepth 100000 in
theorem zmo156 : zmP zm156 := ⟨by decide +kernel, Or.inr ⟨1132, rfl⟩, by decide +kernel⟩
set_option maxRecDepth 100000 in
theorem zmo157 : zmP zm157 := ⟨by decide +kernel, Or.inr ⟨1148, rfl⟩, by decide +kernel⟩
set_option maxRecDepth 100000 in
theorem zmo158 : zmP zm158 := ⟨by decide +kernel, Or.inr ⟨1152, rfl⟩, by decide +kernel⟩
set_option maxRecDepth 100000 in
theorem zmo159 : zmP zm159 := ⟨by decide +kernel, Or.inr ⟨1156, rfl⟩, by decide +kernel⟩
set_option maxRecDepth 100000 in
theorem zmo160 : zmP zm160 := ⟨by decide +kernel, Or.inr ⟨1160, rfl⟩, by decide +kernel⟩
set_option maxRecDepth 100000 in
theorem zmo161 : zmP zm161 := ⟨by decide +kernel, Or.inr ⟨1176, rfl⟩, by decide +kernel⟩
set_option maxRecDepth 100000 in
theorem zmo162 : zmP zm162 := ⟨by decide +kernel, Or.inr ⟨1184, rfl⟩, by decide +kernel⟩
set_option maxRecDepth 100000 in
theorem zmo163 : zmP zm163 := ⟨by decide +kernel, Or.inr ⟨1180, rfl⟩, by decide +kernel⟩
set_option maxRecDepth 100000 in
theorem zmo164 : zmP zm164 := ⟨by decide +kernel, Or.inr ⟨1188, rfl⟩, by decide +kernel⟩
set_option maxRecDepth 100000 in
theorem zmo165 : zmP zm165 := ⟨by decide +kernel, Or.inr ⟨1172, rfl⟩, by decide +kernel⟩
set_option maxRecDepth 100000 in
theorem zmo166 : zmP zm166 := ⟨by decide +kernel, Or.inr ⟨1168, rfl⟩, by decide +kernel⟩
set_option maxRecDepth 100000 in
theorem zmo167 : zmP zm167 := ⟨by decide +kernel, Or.inr ⟨1193, rfl⟩, by decide +kernel⟩
set_option maxRecDepth 100000 in
theorem zmo168 : zmP zm168 := ⟨by decide +kernel, Or.inr ⟨1197, rfl⟩, by decide +kernel⟩
set_option maxRecDepth 100000 in
theorem zmo169 : zmP zm169 := ⟨by decide +kernel, Or.inr ⟨1164, rfl⟩, by decide +kernel⟩
set_option maxRecDepth 100000 in
theorem zmo170 : zmP zm170 := ⟨by decide +kernel, Or.inr ⟨1201, rfl⟩, by decide +kernel⟩
set_option maxRecDepth 100000 in
theorem zmo171 : zmP zm171 := ⟨by decide +kernel, Or.inr ⟨1205, rfl⟩, by decide +kernel⟩
set_option maxRecDepth 100000 in
theorem zmo172 : zmP zm172 := ⟨by decide +kernel, Or.inr ⟨1209, rfl⟩, by decide +kernel⟩
set_option maxRecDepth 100000 in
theorem zmo173 : zmP zm173 := ⟨by decide +kernel, Or.inr ⟨1214, rfl⟩, by decide +kernel⟩
set_option maxRecDepth 100000 in
theorem zmo174 : zmP zm174 := ⟨by decide +kernel, Or.inr ⟨1218, rfl⟩, by decide +kernel⟩
set_option maxRecDepth 100000 in
theorem zmo175 : zmP zm175 := ⟨by decide +kernel, Or.inr ⟨1222, rfl⟩, by decide +kernel⟩
set_option maxRecDepth 100000 in
theorem zmo176 : zmP zm176 := ⟨by decide +kernel, Or.inr ⟨1226, rfl⟩, by decide +kernel⟩
set_option maxRecDepth 100000 in
theorem zmo177 : zmP zm177 := ⟨by decide +kernel, Or.inr ⟨1230, rfl⟩, by decide +kernel⟩
set_option maxRecDepth 100000 in
theorem zmo178 : zmP zm178 := ⟨by decide +kernel, Or.inr ⟨1234, rfl⟩, by decide +kernel⟩
def zkc179_0 : List (Nat × Instr) := [(0, .new 7), (3, .dup), (4, .invokespecial 9), (7, .astore_n 1), (8, .new 10), (11, .dup), (12, .invokespecial 12), (15, .astore_n 2), (16, .iconst 0), (17, .istore_n 3), (18, .iload_n 3), (19, .aload_n 0), (20, .arraylength), (21, .iconst 4), (22, .isub), (23, .if_icmp .gt 962), (26, .aload_n 0), (27, .iload_n 3), (28, .iaload), (29, .bipush 31), (31, .iand), (32, .tableswitch 947 0 27 #[128, 161, 204, 247, 260, 273, 316, 359, 402, 425, 468, 511, 535, 560, 573, 586, 609, 622, 645, 668, 701, 725, 759, 792, 825, 858, 891, 924]), (160, .aload_n 1), (161, .aload_n 0), (162, .iload_n 3), (163, .iconst 1), (164, .iadd), (165, .iaload), (166, .aload_n 0), (167, .iload_n 3), (168, .iconst 2), (169, .iadd), (170, .iaload), (171, .invokevirtual 13), (174, .aload_n 2), (175, .aload_n 0), (176, .iload_n 3), (177, .iconst 1), (178, .iadd), (179, .iaload)]
set_option maxRecDepth 100000 in
theorem zkd179_0 : zkc179_0.all (fun e => zdok zm179.2.2.1 e.1 e.2) = true := by decide +kernel
def zkc179_1 : List (Nat × Instr) := [(180, .aload_n 0), (181, .iload_n 3), (182, .iconst 2), (183, .iadd), (184, .iaload), (185, .invokevirtual 17), (188, .if_icmp .eq 791), (191, .iconst 0), (192, .ireturn), (193, .aload_n 1), (194, .aload_n 0), (195, .iload_n 3), (196, .iconst 1), (197, .iadd), (198, .iaload), (199, .aload_n 0), (200, .iload_n 3), (201, .iconst 2), (202, .iadd), (203, .iaload), (204, .aload_n 0), (205, .iload_n 3), (206, .iconst 3), (207, .iadd), (208, .iaload), (209, .invokevirtual 18), (212, .aload_n 2), (213, .aload_n 0), (214, .iload_n 3), (215, .iconst 1), (216, .iadd), (217, .iaload), (218, .aload_n 0), (219, .iload_n 3), (220, .iconst 2), (221, .iadd), (222, .iaload), (223, .aload_n 0), (224, .iload_n 3), (225, .iconst 3)]
set_option maxRecDepth 100000 in
theorem zkd179_1 : zkc179_1.all (fun e => zdok zm179.2.2.1 e.1 e.2) = true := by decide +kernel
def zkc179_2 : List (Nat × Instr) := [(226, .iadd), (227, .iaload), (228, .invokevirtual 22), (231, .if_icmp .eq 748), (234, .iconst 0), (235, .ireturn), (236, .aload_n 1), (237, .aload_n 0), (238, .iload_n 3), (239, .iconst 1), (240, .iadd), (241, .iaload), (242, .aload_n 0), (243, .iload_n 3), (244, .iconst 2), (245, .iadd), (246, .iaload), (247, .aload_n 0), (248, .iload_n 3), (249, .iconst 3), (250, .iadd), (251, .iaload), (252, .invokevirtual 23), (255, .aload_n 2), (256, .aload_n 0), (257, .iload_n 3), (258, .iconst 1), (259, .iadd), (260, .iaload), (261, .aload_n 0), (262, .iload_n 3), (263, .iconst 2), (264, .iadd), (265, .iaload), (266, .aload_n 0), (267, .iload_n 3), (268, .iconst 3), (269, .iadd), (270, .iaload), (271, .invokevirtual 26)]
set_option maxRecDepth 100000 in
theorem zkd179_2 : zkc179_2.all (fun e => zdok zm179.2.2.1 e.1 e.2) = true := by decide +kernel
def zkc179_3 : List (Nat × Instr) := [(274, .if_icmp .eq 705), (277, .iconst 0), (278, .ireturn), (279, .aload_n 1), (280, .invokevirtual 27), (283, .aload_n 2), (284, .invokevirtual 31), (287, .if_icmp .eq 692), (290, .iconst 0), (291, .ireturn), (292, .aload_n 1), (293, .invokevirtual 32), (296, .aload_n 2), (297, .invokevirtual 35), (300, .if_icmp .eq 679), (303, .iconst 0), (304, .ireturn), (305, .aload_n 1), (306, .aload_n 0), (307, .iload_n 3), (308, .iconst 1), (309, .iadd), (310, .iaload), (311, .aload_n 0), (312, .iload_n 3), (313, .iconst 2), (314, .iadd), (315, .iaload), (316, .aload_n 0), (317, .iload_n 3), (318, .iconst 3), (319, .iadd), (320, .iaload), (321, .invokevirtual 36), (324, .aload_n 2), (325, .aload_n 0), (326, .iload_n 3), (327, .iconst 1), (328, .iadd), (329, .iaload)]
set_option maxRecDepth 100000 in
theorem zkd179_3 : zkc179_3.all (fun e => zdok zm179.2.2.1 e.1 e.2) = true := by decide +kernel
def zkc179_4 : List (Nat × Instr) := [(330, .aload_n 0), (331, .iload_n 3), (332, .iconst 2), (333, .iadd), (334, .iaload), (335, .aload_n 0), (336, .iload_n 3), (337, .iconst 3), (338, .iadd), (339, .iaload), (340, .invokevirtual 39), (343, .if_icmp .eq 636), (346, .iconst 0), (347, .ireturn), (348, .aload_n 1), (349, .aload_n 0), (350, .iload_n 3), (351, .iconst 1), (352, .iadd), (353, .iaload), (354, .aload_n 0), (355, .iload_n 3), (356, .iconst 2), (357, .iadd), (358, .iaload), (359, .aload_n 0), (360, .iload_n 3), (361, .iconst 3), (362, .iadd), (363, .iaload), (364, .invokevirtual 40), (367, .aload_n 2), (368, .aload_n 0), (369, .iload_n 3), (370, .iconst 1), (371, .iadd), (372, .iaload), (373, .aload_n 0), (374, .iload_n 3), (375, .iconst 2)]
set_option maxRecDepth 100000 in
theorem zkd179_4 : zkc179_4.all (fun e => zdok zm179.2.2.1 e.1 e.2) = true := by decide +kernel
def zkc179_5 : List (Nat × Instr) := [(376, .iadd), (377, .iaload), (378, .aload_n 0), (379, .iload_n 3), (380, .iconst 3), (381, .iadd), (382, .iaload), (383, .invokevirtual 43), (386, .if_icmp .eq 593), (389, .iconst 0), (390, .ireturn), (391, .aload_n 1), (392, .aload_n 0), (393, .iload_n 3), (394, .iconst 1), (395, .iadd), (396, .iaload), (397, .aload_n 0), (398, .iload_n 3), (399, .iconst 2), (400, .iadd), (401, .iaload), (402, .aload_n 0), (403, .iload_n 3), (404, .iconst 3), (405, .iadd), (406, .iaload), (407, .invokevirtual 44), (410, .aload_n 2), (411, .aload_n 0), (412, .iload_n 3), (413, .iconst 1), (414, .iadd), (415, .iaload), (416, .aload_n 0), (417, .iload_n 3), (418, .iconst 2), (419, .iadd), (420, .iaload), (421, .aload_n 0)]
set_option maxRecDepth 100000 in
theorem zkd179_5 : zkc179_5.all (fun e => zdok zm179.2.2.1 e.1 e.2) = true := by decide +kernel
def zkc179_6 : List (Nat × Instr) := [(422, .iload_n 3), (423, .iconst 3), (424, .iadd), (425, .iaload), (426, .invokevirtual 47), (429, .if_icmp .eq 550), (432, .iconst 0), (433, .ireturn), (434, .aload_n 1), (435, .aload_n 0), (436, .iload_n 3), (437, .iconst 1), (438, .iadd), (439, .iaload), (440, .invokevirtual 48), (443, .aload_n 2), (444, .aload_n 0), (445, .iload_n 3), (446, .iconst 1), (447, .iadd), (448, .iaload), (449, .invokevirtual 52), (452, .if_icmp .eq 527), (455, .iconst 0), (456, .ireturn), (457, .aload_n 1), (458, .aload_n 0), (459, .iload_n 3), (460, .iconst 1), (461, .iadd), (462, .iaload), (463, .aload_n 0), (464, .iload_n 3), (465, .iconst 2), (466, .iadd), (467, .iaload), (468, .aload_n 0), (469, .iload_n 3), (470, .iconst 3), (471, .iadd)]
set_option maxRecDepth 100000 in
theorem zkd179_6 : zkc179_6.all (fun e => zdok zm179.2.2.1 e.1 e.2) = true := by decide +kernel
def zkc179_7 : List (Nat × Instr) := [(472, .iaload), (473, .invokevirtual 53), (476, .aload_n 2), (477, .aload_n 0), (478, .iload_n 3), (479, .iconst 1), (480, .iadd), (481, .iaload), (482, .aload_n 0), (483, .iload_n 3), (484, .iconst 2), (485, .iadd), (486, .iaload), (487, .aload_n 0), (488, .iload_n 3), (489, .iconst 3), (490, .iadd), (491, .iaload), (492, .invokevirtual 56), (495, .if_icmp .eq 484), (498, .iconst 0), (499, .ireturn), (500, .aload_n 1), (501, .aload_n 0), (502, .iload_n 3), (503, .iconst 1), (504, .iadd), (505, .iaload), (506, .aload_n 0), (507, .iload_n 3), (508, .iconst 2), (509, .iadd), (510, .iaload), (511, .aload_n 0), (512, .iload_n 3), (513, .iconst 3), (514, .iadd), (515, .iaload), (516, .invokevirtual 57), (519, .aload_n 2)]
set_option maxRecDepth 100000 in
theorem zkd179_7 : zkc179_7.all (fun e => zdok zm179.2.2.1 e.1 e.2) = true := by decide +kernel
def zkc179_8 : List (Nat × Instr) := [(520, .aload_n 0), (521, .iload_n 3), (522, .iconst 1), (523, .iadd), (524, .iaload), (525, .aload_n 0), (526, .iload_n 3), (527, .iconst 2), (528, .iadd), (529, .iaload), (530, .aload_n 0), (531, .iload_n 3), (532, .iconst 3), (533, .iadd), (534, .iaload), (535, .invokevirtual 60), (538, .if_icmp .eq 441), (541, .iconst 0), (542, .ireturn), (543, .aload_n 1), (544, .aload_n 0), (545, .iload_n 3), (546, .iconst 1), (547, .iadd), (548, .iaload), (549, .invokevirtual 61), (552, .aload_n 2), (553, .aload_n 0), (554, .iload_n 3), (555, .iconst 1), (556, .iadd), (557, .iaload), (558, .invokevirtual 65), (561, .lcmp), (562, .ifCond .eq 417), (565, .iconst 0), (566, .ireturn), (567, .aload_n 1), (568, .aload_n 0), (569, .iload_n 3)]
set_option maxRecDepth 100000 in
theorem zkd179_8 : zkc179_8.all (fun e => zdok zm179.2.2.1 e.1 e.2) = true := by decide +kernel
def zkc179_9 : List (Nat × Instr) := [(570, .iconst 1), (571, .iadd), (572, .iaload), (573, .i2c), (574, .invokevirtual 66), (577, .aload_n 2), (578, .aload_n 0), (579, .iload_n 3), (580, .iconst 1), (581, .iadd), (582, .iaload), (583, .i2c), (584, .invokevirtual 70), (587, .if_icmp .eq 392), (590, .iconst 0), (591, .ireturn), (592, .aload_n 1), (593, .invokevirtual 71), (596, .aload_n 2), (597, .invokevirtual 74), (600, .if_icmp .eq 379), (603, .iconst 0), (604, .ireturn), (605, .aload_n 1), (606, .invokevirtual 75), (609, .aload_n 2), (610, .invokevirtual 78), (613, .if_icmp .eq 366), (616, .iconst 0), (617, .ireturn), (618, .aload_n 1), (619, .aload_n 0), (620, .iload_n 3), (621, .iconst 1), (622, .iadd), (623, .iaload), (624, .invokevirtual 79), (627, .aload_n 2), (628, .aload_n 0), (629, .iload_n 3)]
set_option maxRecDepth 100000 in
theorem zkd179_9 : zkc179_9.all (fun e => zdok zm179.2.2.1 e.1 e.2) = true := by decide +kernel
def zkc179_10 : List (Nat × Instr) := [(630, .iconst 1), (631, .iadd), (632, .iaload), (633, .invokevirtual 82), (636, .if_icmp .eq 343), (639, .iconst 0), (640, .ireturn), (641, .aload_n 1), (642, .invokevirtual 83), (645, .aload_n 2), (646, .invokevirtual 86), (649, .if_icmp .eq 330), (652, .iconst 0), (653, .ireturn), (654, .aload_n 1), (655, .aload_n 0), (656, .iload_n 3), (657, .iconst 1), (658, .iadd), (659, .iaload), (660, .invokevirtual 87), (663, .aload_n 2), (664, .aload_n 0), (665, .iload_n 3), (666, .iconst 1), (667, .iadd), (668, .iaload), (669, .invokevirtual 90), (672, .if_icmp .eq 307), (675, .iconst 0), (676, .ireturn), (677, .aload_n 1), (678, .aload_n 0), (679, .iload_n 3), (680, .iconst 1), (681, .iadd), (682, .iaload), (683, .invokevirtual 91), (686, .aload_n 2), (687, .aload_n 0)]
set_option maxRecDepth 100000 in
theorem zkd179_10 : zkc179_10.all (fun e => zdok zm179.2.2.1 e.1 e.2) = true := by decide +kernel
def zkc179_11 : List (Nat × Instr) := [(688, .iload_n 3), (689, .iconst 1), (690, .iadd), (691, .iaload), (692, .invokevirtual 94), (695, .if_icmp .eq 284), (698, .iconst 0), (699, .ireturn), (700, .aload_n 1), (701, .aload_n 0), (702, .iload_n 3), (703, .iconst 1), (704, .iadd), (705, .iaload), (706, .aload_n 0), (707, .iload_n 3), (708, .iconst 2), (709, .iadd), (710, .iaload), (711, .invokevirtual 95), (714, .aload_n 2), (715, .aload_n 0), (716, .iload_n 3), (717, .iconst 1), (718, .iadd), (719, .iaload), (720, .aload_n 0), (721, .iload_n 3), (722, .iconst 2), (723, .iadd), (724, .iaload), (725, .invokevirtual 98), (728, .if_icmp .eq 251), (731, .iconst 0), (732, .ireturn), (733, .aload_n 1), (734, .aload_n 0), (735, .iload_n 3), (736, .iconst 1), (737, .iadd)]
set_option maxRecDepth 100000 in
theorem zkd179_11 : zkc179_11.all (fun e => zdok zm179.2.2.1 e.1 e.2) = true := by decide +kernel
def zkc179_12 : List (Nat × Instr) := [(738, .iaload), (739, .invokevirtual 99), (742, .aload_n 2), (743, .aload_n 0), (744, .iload_n 3), (745, .iconst 1), (746, .iadd), (747, .iaload), (748, .invokevirtual 102), (751, .lcmp), (752, .ifCond .eq 227), (755, .iconst 0), (756, .ireturn), (757, .aload_n 1), (758, .aload_n 0), (759, .iload_n 3), (760, .iconst 1), (761, .iadd), (762, .iaload), (763, .aload_n 0), (764, .iload_n 3), (765, .iconst 2), (766, .iadd), (767, .iaload), (768, .invokevirtual 103), (771, .aload_n 2), (772, .aload_n 0), (773, .iload_n 3), (774, .iconst 1), (775, .iadd), (776, .iaload), (777, .aload_n 0), (778, .iload_n 3), (779, .iconst 2), (780, .iadd), (781, .iaload), (782, .invokevirtual 107), (785, .lcmp), (786, .ifCond .eq 193), (789, .iconst 0)]
set_option maxRecDepth 100000 in
theorem zkd179_12 : zkc179_12.all (fun e => zdok zm179.2.2.1 e.1 e.2) = true := by decide +kernel
def zkc179_13 : List (Nat × Instr) := [(790, .ireturn), (791, .aload_n 1), (792, .aload_n 0), (793, .iload_n 3), (794, .iconst 1), (795, .iadd), (796, .iaload), (797, .aload_n 0), (798, .iload_n 3), (799, .iconst 2), (800, .iadd), (801, .iaload), (802, .invokevirtual 108), (805, .aload_n 2), (806, .aload_n 0), (807, .iload_n 3), (808, .iconst 1), (809, .iadd), (810, .iaload), (811, .aload_n 0), (812, .iload_n 3), (813, .iconst 2), (814, .iadd), (815, .iaload), (816, .invokevirtual 111), (819, .if_icmp .eq 160), (822, .iconst 0), (823, .ireturn), (824, .aload_n 1), (825, .aload_n 0), (826, .iload_n 3), (827, .iconst 1), (828, .iadd), (829, .iaload), (830, .aload_n 0), (831, .iload_n 3), (832, .iconst 2), (833, .iadd), (834, .iaload), (835, .invokevirtual 112)]
set_option maxRecDepth 100000 in
theorem zkd179_13 : zkc179_13.all (fun e => zdok zm179.2.2.1 e.1 e.2) = true := by decide +kernel
def zkc179_14 : List (Nat × Instr) := [(838, .aload_n 2), (839, .aload_n 0), (840, .iload_n 3), (841, .iconst 1), (842, .iadd), (843, .iaload), (844, .aload_n 0), (845, .iload_n 3), (846, .iconst 2), (847, .iadd), (848, .iaload), (849, .invokevirtual 115), (852, .if_icmp .eq 127), (855, .iconst 0), (856, .ireturn), (857, .aload_n 1), (858, .aload_n 0), (859, .iload_n 3), (860, .iconst 1), (861, .iadd), (862, .iaload), (863, .aload_n 0), (864, .iload_n 3), (865, .iconst 2), (866, .iadd), (867, .iaload), (868, .invokevirtual 116), (871, .aload_n 2), (872, .aload_n 0), (873, .iload_n 3), (874, .iconst 1), (875, .iadd), (876, .iaload), (877, .aload_n 0), (878, .iload_n 3), (879, .iconst 2), (880, .iadd), (881, .iaload), (882, .invokevirtual 119), (885, .if_icmp .eq 94)]
set_option maxRecDepth 100000 in
theorem zkd179_14 : zkc179_14.all (fun e => zdok zm179.2.2.1 e.1 e.2) = true := by decide +kernel
def zkc179_15 : List (Nat × Instr) := [(888, .iconst 0), (889, .ireturn), (890, .aload_n 1), (891, .aload_n 0), (892, .iload_n 3), (893, .iconst 1), (894, .iadd), (895, .iaload), (896, .aload_n 0), (897, .iload_n 3), (898, .iconst 2), (899, .iadd), (900, .iaload), (901, .invokevirtual 120), (904, .aload_n 2), (905, .aload_n 0), (906, .iload_n 3), (907, .iconst 1), (908, .iadd), (909, .iaload), (910, .aload_n 0), (911, .iload_n 3), (912, .iconst 2), (913, .iadd), (914, .iaload), (915, .invokevirtual 123), (918, .if_icmp .eq 61), (921, .iconst 0), (922, .ireturn), (923, .aload_n 1), (924, .aload_n 0), (925, .iload_n 3), (926, .iconst 1), (927, .iadd), (928, .iaload), (929, .aload_n 0), (930, .iload_n 3), (931, .iconst 2), (932, .iadd), (933, .iaload)]
set_option maxRecDepth 100000 in
theorem zkd179_15 : zkc179_15.all (fun e => zdok zm179.2.2.1 e.1 e.2) = true := by decide +kernel
def zkc179_16 : List (Nat × Instr) := [(934, .invokevirtual 124), (937, .aload_n 2), (938, .aload_n 0), (939, .iload_n 3), (940, .iconst 1), (941, .iadd), (942, .iaload), (943, .aload_n 0), (944, .iload_n 3), (945, .iconst 2), (946, .iadd), (947, .iaload), (948, .invokevirtual 127), (951, .if_icmp .eq 28), (954, .iconst 0), (955, .ireturn), (956, .aload_n 1), (957, .aload_n 0), (958, .iload_n 3), (959, .iconst 1), (960, .iadd), (961, .iaload), (962, .invokevirtual 128), (965, .aload_n 2), (966, .aload_n 0), (967, .iload_n 3), (968, .iconst 1), (969, .iadd), (970, .iaload), (971, .invokevirtual 131), (974, .if_icmp .eq 5), (977, .iconst 0), (978, .ireturn), (979, .iinc 3 4), (982, .goto (-964)), (985, .iconst 1), (986, .ireturn)]
set_option maxRecDepth 100000 in
theorem zkd179_16 : zkc179_16.all (fun e => zdok zm179.2.2.1 e.1 e.2) = true := by decide +kernel
set_option maxRecDepth 100000 in
theorem zke179 : zm179.2.2.2.2.2.2.2 = zkc179_0 ++ (zkc179_1 ++ (zkc179_2 ++ (zkc179_3 ++ (zkc179_4 ++ (zkc179_5 ++ (zkc179_6 ++ (zkc179_7 ++ (zkc179_8 ++ (zkc179_9 ++ (zkc179_10 ++ (zkc179_11 ++ (zkc179_12 ++ (zkc179_13 ++ (zkc179_14 ++ (zkc179_15 ++ (zkc179_16)))))))))))))))) := rfl
theorem zkf179 : zdal zm179 = true := by
  unfold zdal
  rw [zke179]
  simp only [List.all_append, zkd179_0, zkd179_1, zkd179_2, zkd179_3, zkd179_4, zkd179_5, zkd179_6, zkd179_7, zkd179_8, zkd179_9, zkd179_10, zkd179_11, zkd179_12, zkd179_13, zkd179_14, zkd179_15, zkd179_16, Bool.and_self]
theorem zmo179 : zmP zm179 := ⟨zkf179, Or.inl rfl, by decide +kernel⟩
set_option maxRecDepth 100000 in
theorem zmP_all : ∀ q ∈ zM, zmP q := by
  unfold zM
  refine List.forall_mem_cons.mpr ⟨zmo0, List.forall_mem_cons.mpr ⟨zmo1, List.forall_mem_cons.mpr ⟨zmo2, List.forall_mem_cons.mpr ⟨zmo3, List.forall_mem_cons.mpr ⟨zmo4, List.forall_mem_cons.mpr ⟨zmo5, List.forall_mem_cons.mpr ⟨zmo6, List.forall_mem_cons.mpr ⟨zmo7, List.forall_mem_cons.mpr ⟨zmo8, List.forall_mem_cons.mpr ⟨zmo9, List.forall_mem_cons.mpr ⟨zmo10, List.forall_mem_cons.mpr ⟨zmo11, List.forall_mem_cons.mpr ⟨zmo12, List.forall_mem_cons.mpr ⟨zmo13, List.forall_mem_cons.mpr ⟨zmo14, List.forall_mem_cons.mpr ⟨zmo15, List.forall_mem_cons.mpr ⟨zmo16, List.forall_mem_cons.mpr ⟨zmo17, List.forall_mem_cons.mpr ⟨zmo18, List.forall_mem_cons.mpr ⟨zmo19, List.forall_mem_cons.mpr ⟨zmo20, List.forall_mem_cons.mpr ⟨zmo21, List.forall_mem_cons.mpr ⟨zmo22, List.forall_mem_cons.mpr ⟨zmo23, List.forall_mem_cons.mpr ⟨zmo24, List.forall_mem_cons.mpr ⟨zmo25, List.forall_mem_cons.mpr ⟨zmo26, List.forall_mem_cons.mpr ⟨zmo27, List.forall_mem_cons.mpr ⟨zmo28, List.forall_mem_cons.mpr ⟨zmo29, List.forall_mem_cons.mpr ⟨zmo30, List.forall_mem_cons.mpr ⟨zmo31, List.forall_mem_cons.mpr ⟨zmo32, List.forall_mem_cons.mpr ⟨zmo33, List.forall_mem_cons.mpr ⟨zmo34, List.forall_mem_cons.mpr ⟨zmo35, List.forall_mem_cons.mpr ⟨zmo36, List.forall_mem_cons.mpr ⟨zmo37, List.forall_mem_cons.mpr ⟨zmo38, List.forall_mem_cons.mpr ⟨zmo39, List.forall_mem_cons.mpr ⟨zmo40, List.forall_mem_cons.mpr ⟨zmo41, List.forall_mem_cons.mpr ⟨zmo42, List.forall_mem_cons.mpr ⟨zmo43, List.forall_mem_cons.mpr ⟨zmo44, List.forall_mem_cons.mpr ⟨zmo45, List.forall_mem_cons.mpr ⟨zmo46, List.forall_mem_cons.mpr ⟨zmo47, List.forall_mem_cons.mpr ⟨zmo48, List.forall_mem_cons.mpr ⟨zmo49, List.forall_mem_cons.mpr ⟨zmo50, List.forall_mem_cons.mpr ⟨zmo51, List.forall_mem_cons.mpr ⟨zmo52, List.forall_mem_cons.mpr ⟨zmo53, List.forall_mem_cons.mpr ⟨zmo54, List.forall_mem_cons.mpr ⟨zmo55, List.forall_mem_cons.mpr ⟨zmo56, List.forall_mem_cons.mpr ⟨zmo57, List.forall_mem_cons.mpr ⟨zmo58, List.forall_mem_cons.mpr ⟨zmo59, List.forall_mem_cons.mpr ⟨zmo60, List.forall_mem_cons.mpr ⟨zmo61, List.forall_mem_cons.mpr ⟨zmo62, List.forall_mem_cons.mpr ⟨zmo63, List.forall_mem_cons.mpr ⟨zmo64, List.forall_mem_cons.mpr ⟨zmo65, List.forall_mem_cons.mpr ⟨zmo66, List.forall_mem_cons.mpr ⟨zmo67, List.forall_mem_cons.mpr ⟨zmo68, List.forall_mem_cons.mpr ⟨zmo69, List.forall_mem_cons.mpr ⟨zmo70, List.forall_mem_cons.mpr ⟨zmo71, List.forall_mem_cons.mpr ⟨zmo72, List.forall_mem_cons.mpr ⟨zmo73, List.forall_mem_cons.mpr ⟨zmo74, List.forall_mem_cons.mpr ⟨zmo75, List.forall_mem_cons.mpr ⟨zmo76, List.forall_mem_cons.mpr ⟨zmo77, List.forall_mem_cons.mpr ⟨zmo78, List.forall_mem_cons.mpr ⟨zmo79, List.forall_mem_cons.mpr ⟨zmo80, List.forall_mem_cons.mpr ⟨zmo81, List.forall_mem_cons.mpr ⟨zmo82, List.forall_mem_cons.mpr ⟨zmo83, List.forall_mem_cons.mpr ⟨zmo84, List.forall_mem_cons.mpr ⟨zmo85, List.forall_mem_cons.mpr ⟨zmo86, List.forall_mem_cons.mpr ⟨zmo87, List.forall_mem_cons.mpr ⟨zmo88, List.forall_mem_cons.mpr ⟨zmo89, List.forall_mem_cons.mpr ⟨zmo90, List.forall_mem_cons.mpr ⟨zmo91, List.forall_mem_cons.mpr ⟨zmo92, List.forall_mem_cons.mpr ⟨zmo93, List.forall_mem_cons.mpr ⟨zmo94, List.forall_mem_cons.mpr ⟨zmo95, List.forall_mem_cons.mpr ⟨zmo96, List.forall_mem_cons.mpr ⟨zmo97, List.forall_mem_cons.mpr ⟨zmo98, List.forall_mem_cons.mpr ⟨zmo99, List.forall_mem_cons.mpr ⟨zmo100, List.forall_mem_cons.mpr ⟨zmo101, List.forall_mem_cons.mpr ⟨zmo102, List.forall_mem_cons.mpr ⟨zmo103, List.forall_mem_cons.mpr ⟨zmo104, List.forall_mem_cons.mpr ⟨zmo105, List.forall_mem_cons.mpr ⟨zmo106, List.forall_mem_cons.mpr ⟨zmo107, List.forall_mem_cons.mpr ⟨zmo108, List.forall_mem_cons.mpr ⟨zmo109, List.forall_mem_cons.mpr ⟨zmo110, List.forall_mem_cons.mpr ⟨zmo111, List.forall_mem_cons.mpr ⟨zmo112, List.forall_mem_cons.mpr ⟨zmo113, List.forall_mem_cons.mpr ⟨zmo114, List.forall_mem_cons.mpr ⟨zmo115, List.forall_mem_cons.mpr ⟨zmo116, List.forall_mem_cons.mpr ⟨zmo117, List.forall_mem_cons.mpr ⟨zmo118, List.forall_mem_cons.mpr ⟨zmo119, List.forall_mem_cons.mpr ⟨zmo120, List.forall_mem_cons.mpr ⟨zmo121, List.forall_mem_cons.mpr ⟨zmo122, List.forall_mem_cons.mpr ⟨zmo123, List.forall_mem_cons.mpr ⟨zmo124, List.forall_mem_cons.mpr ⟨zmo125, List.forall_mem_cons.mpr ⟨zmo126, List.forall_mem_cons.mpr ⟨zmo127, List.forall_mem_cons.mpr ⟨zmo128, List.forall_mem_cons.mpr ⟨zmo129, List.forall_mem_cons.mpr ⟨zmo130, List.forall_mem_cons.mpr ⟨zmo131, List.forall_mem_cons.mpr ⟨zmo132, List.forall_mem_cons.mpr ⟨zmo133, List.forall_mem_cons.mpr ⟨zmo134, List.forall_mem_cons.mpr ⟨zmo135, List.forall_mem_cons.mpr ⟨zmo136, List.forall_mem_cons.mpr ⟨zmo137, List.forall_mem_cons.mpr ⟨zmo138, List.forall_mem_cons.mpr ⟨zmo139, List.forall_mem_cons.mpr ⟨zmo140, List.forall_mem_cons.mpr ⟨zmo141, List.forall_mem_cons.mpr ⟨zmo142, List.forall_mem_cons.mpr ⟨zmo143, List.forall_mem_cons.mpr ⟨zmo144, List.forall_mem_cons.mpr ⟨zmo145, List.forall_mem_cons.mpr ⟨zmo146, List.forall_mem_cons.mpr ⟨zmo147, List.forall_mem_cons.mpr ⟨zmo148, List.forall_mem_cons.mpr ⟨zmo149, List.forall_mem_cons.mpr ⟨zmo150, List.forall_mem_cons.mpr ⟨zmo151, List.forall_mem_cons.mpr ⟨zmo152, List.forall_mem_cons.mpr ⟨zmo153, List.forall_mem_cons.mpr ⟨zmo154, List.forall_mem_cons.mpr ⟨zmo155, List.forall_mem_cons.mpr ⟨zmo156, List.forall_mem_cons.mpr ⟨zmo157, List.forall_mem_cons.mpr ⟨zmo158, List.forall_mem_cons.mpr ⟨zmo159, List.forall_mem_cons.mpr ⟨zmo160, List.forall_mem_cons.mpr ⟨zmo161, List.forall_mem_cons.mpr ⟨zmo162, List.forall_mem_cons.mpr ⟨zmo163, List.forall_mem_cons.mpr ⟨zmo164, List.forall_mem_cons.mpr ⟨zmo165, List.forall_mem_cons.mpr ⟨zmo166, List.forall_mem_cons.mpr ⟨zmo167, List.forall_mem_cons.mpr ⟨zmo168, List.forall_mem_cons.mpr ⟨zmo169, List.forall_mem_cons.mpr ⟨zmo170, List.forall_mem_cons.mpr ⟨zmo171, List.forall_mem_cons.mpr ⟨zmo172, List.forall_mem_cons.mpr ⟨zmo173, List.forall_mem_cons.mpr ⟨zmo174, List.forall_mem_cons.mpr ⟨zmo175, List.forall_mem_cons.mpr ⟨zmo176, List.forall_mem_cons.mpr ⟨zmo177, List.forall_mem_cons.mpr ⟨zmo178, List.forall_mem_cons.mpr ⟨zmo179, fun _ h => absurd h List.not_mem_nil⟩⟩⟩⟩⟩⟩⟩⟩⟩⟩⟩⟩⟩⟩⟩⟩⟩⟩⟩⟩⟩⟩⟩⟩⟩⟩⟩⟩⟩⟩⟩⟩⟩⟩⟩⟩⟩⟩⟩⟩⟩⟩⟩⟩⟩⟩⟩⟩⟩⟩⟩⟩⟩⟩⟩⟩⟩⟩⟩⟩⟩⟩⟩⟩⟩⟩⟩⟩⟩⟩⟩⟩⟩⟩⟩⟩⟩⟩⟩⟩⟩⟩⟩⟩⟩⟩⟩⟩⟩⟩⟩⟩⟩⟩⟩⟩⟩⟩⟩⟩⟩⟩⟩⟩⟩⟩⟩⟩⟩⟩⟩⟩⟩⟩⟩⟩⟩⟩⟩⟩⟩⟩⟩⟩⟩⟩⟩⟩⟩⟩⟩⟩⟩⟩⟩⟩⟩⟩⟩⟩⟩⟩⟩⟩⟩⟩⟩⟩⟩⟩⟩⟩⟩⟩⟩⟩⟩⟩⟩⟩⟩⟩⟩⟩⟩⟩⟩⟩⟩⟩⟩⟩⟩⟩⟩⟩⟩⟩⟩⟩
