/-! each method's instructions and words, by decision -/
def zln : Instr → Nat
  | .bipush _ => 2
  | .ldc _ => 2
  | .iload _ => 2
  | .lload _ => 2
  | .aload _ => 2
  | .istore _ => 2
  | .lstore _ => 2
  | .astore _ => 2
  | .newarray _ => 2
  | .sipush _ => 3
  | .ldc_w _ => 3
  | .ldc2_w _ => 3
  | .iinc _ _ => 3
  | .goto _ => 3
  | .ifCond _ _ => 3
  | .if_icmp _ _ => 3
  | .getfield _ => 3
  | .putfield _ => 3
  | .invokevirtual _ => 3
  | .invokespecial _ => 3
  | .invokestatic _ => 3
  | .new _ => 3
  | .anewarray _ => 3
  | _ => 1
def zrng : Instr → Bool
  | .bipush n => decide ((Int8.ofInt n).toInt32 = zi n)
  | .sipush n => decide ((Int16.ofInt n).toInt32 = zi n)
  | _ => true
def zsw : Instr → Bool
  | .tableswitch _ _ _ _ => true
  | .lookupswitch _ _ => true
  | _ => false
def zdok (bytes : ByteArray) (pc : Nat) (i : Instr) : Bool := match decode bytes pc with
  | .ok q => decide (q.1 = i) && (zsw i || Nat.beq q.2 (zln i)) && zrng i
  | .error _ => false
def zdal (q : zMt) : Bool := q.2.2.2.2.2.2.2.all fun e => zdok q.2.2.1 e.1 e.2
def zmP (q : zMt) : Prop := zdal q = true ∧ (q.2.1 = yL_law ∨ ∃ p : Nat, lw_tbl[p]? = some (.code q.2.1 q.2.2.1 q.2.2.2.1 q.2.2.2.2.1)) ∧ (plainName q.2.1.cls && decide (q.2.1.cls = q.1) && decide (q.2.2.2.1 ≤ 17) && decide (zOwn[q.2.2.2.2.2.2.1]? = some q.1)) = true
set_option maxRecDepth 100000 in
theorem zmo0 : zmP zm0 := ⟨by decide +kernel, Or.inr ⟨63, rfl⟩, by decide +kernel⟩
set_option maxRecDepth 100000 in
theorem zmo1 : zmP zm1 := ⟨by decide +kernel, Or.inr ⟨360, rfl⟩, by decide +kernel⟩
set_option maxRecDepth 100000 in
theorem zmo2 : zmP zm2 := ⟨by decide +kernel, Or.inr ⟨471, rfl⟩, by decide +kernel⟩
set_option maxRecDepth 100000 in
theorem zmo3 : zmP zm3 := ⟨by decide +kernel, Or.inr ⟨714, rfl⟩, by decide +kernel⟩
set_option maxRecDepth 100000 in
theorem zmo4 : zmP zm4 := ⟨by decide +kernel, Or.inr ⟨478, rfl⟩, by decide +kernel⟩
set_option maxRecDepth 100000 in
theorem zmo5 : zmP zm5 := ⟨by decide +kernel, Or.inr ⟨734, rfl⟩, by decide +kernel⟩
set_option maxRecDepth 100000 in
theorem zmo6 : zmP zm6 := ⟨by decide +kernel, Or.inr ⟨726, rfl⟩, by decide +kernel⟩
set_option maxRecDepth 100000 in
theorem zmo7 : zmP zm7 := ⟨by decide +kernel, Or.inr ⟨515, rfl⟩, by decide +kernel⟩
set_option maxRecDepth 100000 in
theorem zmo8 : zmP zm8 := ⟨by decide +kernel, Or.inr ⟨511, rfl⟩, by decide +kernel⟩
set_option maxRecDepth 100000 in
theorem zmo9 : zmP zm9 := ⟨by decide +kernel, Or.inr ⟨519, rfl⟩, by decide +kernel⟩
set_option maxRecDepth 100000 in
theorem zmo10 : zmP zm10 := ⟨by decide +kernel, Or.inr ⟨278, rfl⟩, by decide +kernel⟩
set_option maxRecDepth 100000 in
theorem zmo11 : zmP zm11 := ⟨by decide +kernel, Or.inr ⟨551, rfl⟩, by decide +kernel⟩
set_option maxRecDepth 100000 in
theorem zmo12 : zmP zm12 := ⟨by decide +kernel, Or.inr ⟨560, rfl⟩, by decide +kernel⟩
set_option maxRecDepth 100000 in
theorem zmo13 : zmP zm13 := ⟨by decide +kernel, Or.inr ⟨645, rfl⟩, by decide +kernel⟩
set_option maxRecDepth 100000 in
theorem zmo14 : zmP zm14 := ⟨by decide +kernel, Or.inr ⟨587, rfl⟩, by decide +kernel⟩
set_option maxRecDepth 100000 in
theorem zmo15 : zmP zm15 := ⟨by decide +kernel, Or.inr ⟨580, rfl⟩, by decide +kernel⟩
set_option maxRecDepth 100000 in
theorem zmo16 : zmP zm16 := ⟨by decide +kernel, Or.inr ⟨659, rfl⟩, by decide +kernel⟩
set_option maxRecDepth 100000 in
theorem zmo17 : zmP zm17 := ⟨by decide +kernel, Or.inr ⟨670, rfl⟩, by decide +kernel⟩
set_option maxRecDepth 100000 in
theorem zmo18 : zmP zm18 := ⟨by decide +kernel, Or.inr ⟨217, rfl⟩, by decide +kernel⟩
set_option maxRecDepth 100000 in
theorem zmo19 : zmP zm19 := ⟨by decide +kernel, Or.inr ⟨341, rfl⟩, by decide +kernel⟩
set_option maxRecDepth 100000 in
theorem zmo20 : zmP zm20 := ⟨by decide +kernel, Or.inr ⟨401, rfl⟩, by decide +kernel⟩
set_option maxRecDepth 100000 in
theorem zmo21 : zmP zm21 := ⟨by decide +kernel, Or.inr ⟨110, rfl⟩, by decide +kernel⟩
set_option maxRecDepth 100000 in
theorem zmo22 : zmP zm22 := ⟨by decide +kernel, Or.inr ⟨370, rfl⟩, by decide +kernel⟩
set_option maxRecDepth 100000 in
theorem zmo23 : zmP zm23 := ⟨by decide +kernel, Or.inr ⟨494, rfl⟩, by decide +kernel⟩
set_option maxRecDepth 100000 in
theorem zmo24 : zmP zm24 := ⟨by decide +kernel, Or.inr ⟨627, rfl⟩, by decide +kernel⟩
set_option maxRecDepth 100000 in
theorem zmo25 : zmP zm25 := ⟨by decide +kernel, Or.inr ⟨136, rfl⟩, by decide +kernel⟩
set_option maxRecDepth 100000 in
theorem zmo26 : zmP zm26 := ⟨by decide +kernel, Or.inr ⟨702, rfl⟩, by decide +kernel⟩
set_option maxRecDepth 100000 in
theorem zmo27 : zmP zm27 := ⟨by decide +kernel, Or.inr ⟨349, rfl⟩, by decide +kernel⟩
set_option maxRecDepth 100000 in
theorem zmo28 : zmP zm28 := ⟨by decide +kernel, Or.inr ⟨457, rfl⟩, by decide +kernel⟩
set_option maxRecDepth 100000 in
theorem zmo29 : zmP zm29 := ⟨by decide +kernel, Or.inr ⟨592, rfl⟩, by decide +kernel⟩
set_option maxRecDepth 100000 in
theorem zmo30 : zmP zm30 := ⟨by decide +kernel, Or.inr ⟨596, rfl⟩, by decide +kernel⟩
set_option maxRecDepth 100000 in
theorem zmo31 : zmP zm31 := ⟨by decide +kernel, Or.inr ⟨256, rfl⟩, by decide +kernel⟩
set_option maxRecDepth 100000 in
theorem zmo32 : zmP zm32 := ⟨by decide +kernel, Or.inr ⟨39, rfl⟩, by decide +kernel⟩
set_option maxRecDepth 100000 in
theorem zmo33 : zmP zm33 := ⟨by decide +kernel, Or.inr ⟨353, rfl⟩, by decide +kernel⟩
set_option maxRecDepth 100000 in
theorem zmo34 : zmP zm34 := ⟨by decide +kernel, Or.inr ⟨745, rfl⟩, by decide +kernel⟩
set_option maxRecDepth 100000 in
theorem zmo35 : zmP zm35 := ⟨by decide +kernel, Or.inr ⟨749, rfl⟩, by decide +kernel⟩
set_option maxRecDepth 100000 in
theorem zmo36 : zmP zm36 := ⟨by decide +kernel, Or.inr ⟨503, rfl⟩, by decide +kernel⟩
set_option maxRecDepth 100000 in
theorem zmo37 : zmP zm37 := ⟨by decide +kernel, Or.inr ⟨83, rfl⟩, by decide +kernel⟩
set_option maxRecDepth 100000 in
theorem zmo38 : zmP zm38 := ⟨by decide +kernel, Or.inr ⟨365, rfl⟩, by decide +kernel⟩
set_option maxRecDepth 100000 in
theorem zmo39 : zmP zm39 := ⟨by decide +kernel, Or.inr ⟨382, rfl⟩, by decide +kernel⟩
set_option maxRecDepth 100000 in
theorem zmo40 : zmP zm40 := ⟨by decide +kernel, Or.inr ⟨684, rfl⟩, by decide +kernel⟩
set_option maxRecDepth 100000 in
theorem zmo41 : zmP zm41 := ⟨by decide +kernel, Or.inr ⟨387, rfl⟩, by decide +kernel⟩
set_option maxRecDepth 100000 in
theorem zmo42 : zmP zm42 := ⟨by decide +kernel, Or.inr ⟨616, rfl⟩, by decide +kernel⟩
set_option maxRecDepth 100000 in
theorem zmo43 : zmP zm43 := ⟨by decide +kernel, Or.inr ⟨523, rfl⟩, by decide +kernel⟩
set_option maxRecDepth 100000 in
theorem zmo44 : zmP zm44 := ⟨by decide +kernel, Or.inr ⟨655, rfl⟩, by decide +kernel⟩
set_option maxRecDepth 100000 in
theorem zmo45 : zmP zm45 := ⟨by decide +kernel, Or.inr ⟨240, rfl⟩, by decide +kernel⟩
set_option maxRecDepth 100000 in
theorem zmo46 : zmP zm46 := ⟨by decide +kernel, Or.inr ⟨409, rfl⟩, by decide +kernel⟩
set_option maxRecDepth 100000 in
theorem zmo47 : zmP zm47 := ⟨by decide +kernel, Or.inr ⟨423, rfl⟩, by decide +kernel⟩
set_option maxRecDepth 100000 in
theorem zmo48 : zmP zm48 := ⟨by decide +kernel, Or.inr ⟨413, rfl⟩, by decide +kernel⟩
set_option maxRecDepth 100000 in
theorem zmo49 : zmP zm49 := ⟨by decide +kernel, Or.inr ⟨427, rfl⟩, by decide +kernel⟩
set_option maxRecDepth 100000 in
theorem zmo50 : zmP zm50 := ⟨by decide +kernel, Or.inr ⟨31, rfl⟩, by decide +kernel⟩
set_option maxRecDepth 100000 in
theorem zmo51 : zmP zm51 := ⟨by decide +kernel, Or.inr ⟨345, rfl⟩, by decide +kernel⟩
set_option maxRecDepth 100000 in
theorem zmo52 : zmP zm52 := ⟨by decide +kernel, Or.inr ⟨453, rfl⟩, by decide +kernel⟩
set_option maxRecDepth 100000 in
theorem zmo53 : zmP zm53 := ⟨by decide +kernel, Or.inr ⟨697, rfl⟩, by decide +kernel⟩
set_option maxRecDepth 100000 in
theorem zmo54 : zmP zm54 := ⟨by decide +kernel, Or.inr ⟨649, rfl⟩, by decide +kernel⟩
set_option maxRecDepth 100000 in
theorem zmo55 : zmP zm55 := ⟨by decide +kernel, Or.inr ⟨566, rfl⟩, by decide +kernel⟩
set_option maxRecDepth 100000 in
theorem zmo56 : zmP zm56 := ⟨by decide +kernel, Or.inr ⟨608, rfl⟩, by decide +kernel⟩
set_option maxRecDepth 100000 in
theorem zmo57 : zmP zm57 := ⟨by decide +kernel, Or.inr ⟨612, rfl⟩, by decide +kernel⟩
set_option maxRecDepth 100000 in
theorem zmo58 : zmP zm58 := ⟨by decide +kernel, Or.inr ⟨621, rfl⟩, by decide +kernel⟩
set_option maxRecDepth 100000 in
theorem zmo59 : zmP zm59 := ⟨by decide +kernel, Or.inr ⟨23, rfl⟩, by decide +kernel⟩
set_option maxRecDepth 100000 in
theorem zmo60 : zmP zm60 := ⟨by decide +kernel, Or.inr ⟨692, rfl⟩, by decide +kernel⟩
set_option maxRecDepth 100000 in
theorem zmo61 : zmP zm61 := ⟨by decide +kernel, Or.inr ⟨755, rfl⟩, by decide +kernel⟩
set_option maxRecDepth 100000 in
theorem zmo62 : zmP zm62 := ⟨by decide +kernel, Or.inr ⟨741, rfl⟩, by decide +kernel⟩
set_option maxRecDepth 100000 in
theorem zmo63 : zmP zm63 := ⟨by decide +kernel, Or.inr ⟨337, rfl⟩, by decide +kernel⟩
set_option maxRecDepth 100000 in
theorem zmo64 : zmP zm64 := ⟨by decide +kernel, Or.inr ⟨710, rfl⟩, by decide +kernel⟩
set_option maxRecDepth 100000 in
theorem zmo65 : zmP zm65 := ⟨by decide +kernel, Or.inr ⟨730, rfl⟩, by decide +kernel⟩
set_option maxRecDepth 100000 in
theorem zmo66 : zmP zm66 := ⟨by decide +kernel, Or.inr ⟨719, rfl⟩, by decide +kernel⟩
set_option maxRecDepth 100000 in
theorem zmo67 : zmP zm67 := ⟨by decide +kernel, Or.inr ⟨674, rfl⟩, by decide +kernel⟩
set_option maxRecDepth 100000 in
theorem zmo68 : zmP zm68 := ⟨by decide +kernel, Or.inr ⟨378, rfl⟩, by decide +kernel⟩
set_option maxRecDepth 100000 in
theorem zmo69 : zmP zm69 := ⟨by decide +kernel, Or.inr ⟨638, rfl⟩, by decide +kernel⟩
set_option maxRecDepth 100000 in
theorem zmo70 : zmP zm70 := ⟨by decide +kernel, Or.inr ⟨666, rfl⟩, by decide +kernel⟩
set_option maxRecDepth 100000 in
theorem zmo71 : zmP zm71 := ⟨by decide +kernel, Or.inr ⟨604, rfl⟩, by decide +kernel⟩
set_option maxRecDepth 100000 in
theorem zmo72 : zmP zm72 := ⟨by decide +kernel, Or.inr ⟨392, rfl⟩, by decide +kernel⟩
set_option maxRecDepth 100000 in
theorem zmo73 : zmP zm73 := ⟨by decide +kernel, Or.inr ⟨397, rfl⟩, by decide +kernel⟩
set_option maxRecDepth 100000 in
theorem zmo74 : zmP zm74 := ⟨by decide +kernel, Or.inr ⟨405, rfl⟩, by decide +kernel⟩
set_option maxRecDepth 100000 in
theorem zmo75 : zmP zm75 := ⟨by decide +kernel, Or.inr ⟨419, rfl⟩, by decide +kernel⟩
set_option maxRecDepth 100000 in
theorem zmo76 : zmP zm76 := ⟨by decide +kernel, Or.inr ⟨449, rfl⟩, by decide +kernel⟩
set_option maxRecDepth 100000 in
theorem zmo77 : zmP zm77 := ⟨by decide +kernel, Or.inr ⟨462, rfl⟩, by decide +kernel⟩
set_option maxRecDepth 100000 in
theorem zmo78 : zmP zm78 := ⟨by decide +kernel, Or.inr ⟨543, rfl⟩, by decide +kernel⟩
set_option maxRecDepth 100000 in
theorem zmo79 : zmP zm79 := ⟨by decide +kernel, Or.inr ⟨499, rfl⟩, by decide +kernel⟩
set_option maxRecDepth 100000 in
theorem zmo80 : zmP zm80 := ⟨by decide +kernel, Or.inr ⟨507, rfl⟩, by decide +kernel⟩
set_option maxRecDepth 100000 in
theorem zmo81 : zmP zm81 := ⟨by decide +kernel, Or.inr ⟨467, rfl⟩, by decide +kernel⟩
set_option maxRecDepth 100000 in
theorem zmo82 : zmP zm82 := ⟨by decide +kernel, Or.inr ⟨485, rfl⟩, by decide +kernel⟩
set_option maxRecDepth 100000 in
theorem zmo83 : zmP zm83 := ⟨by decide +kernel, Or.inr ⟨490, rfl⟩, by decide +kernel⟩
set_option maxRecDepth 100000 in
theorem zmo84 : zmP zm84 := ⟨by decide +kernel, Or.inr ⟨432, rfl⟩, by decide +kernel⟩
set_option maxRecDepth 100000 in
theorem zmo85 : zmP zm85 := ⟨by decide +kernel, Or.inr ⟨474, rfl⟩, by decide +kernel⟩
set_option maxRecDepth 100000 in
theorem zmo86 : zmP zm86 := ⟨by decide +kernel, Or.inr ⟨722, rfl⟩, by decide +kernel⟩
set_option maxRecDepth 100000 in
theorem zmo87 : zmP zm87 := ⟨by decide +kernel, Or.inr ⟨546, rfl⟩, by decide +kernel⟩
set_option maxRecDepth 100000 in
theorem zmo88 : zmP zm88 := ⟨by decide +kernel, Or.inr ⟨641, rfl⟩, by decide +kernel⟩
set_option maxRecDepth 100000 in
theorem zmo89 : zmP zm89 := ⟨by decide +kernel, Or.inr ⟨679, rfl⟩, by decide +kernel⟩
set_option maxRecDepth 100000 in
theorem zmo90 : zmP zm90 := ⟨by decide +kernel, Or.inr ⟨574, rfl⟩, by decide +kernel⟩
set_option maxRecDepth 100000 in
theorem zmo91 : zmP zm91 := ⟨by decide +kernel, Or.inr ⟨526, rfl⟩, by decide +kernel⟩
set_option maxRecDepth 100000 in
theorem zmo92 : zmP zm92 := ⟨by decide +kernel, Or.inr ⟨571, rfl⟩, by decide +kernel⟩
set_option maxRecDepth 100000 in
theorem zmo93 : zmP zm93 := ⟨by decide +kernel, Or.inr ⟨556, rfl⟩, by decide +kernel⟩
set_option maxRecDepth 100000 in
theorem zmo94 : zmP zm94 := ⟨by decide +kernel, Or.inr ⟨435, rfl⟩, by decide +kernel⟩
set_option maxRecDepth 100000 in
theorem zmo95 : zmP zm95 := ⟨by decide +kernel, Or.inr ⟨439, rfl⟩, by decide +kernel⟩
def zkc96_0 : List (Nat × Instr) := [(0, .ldc2_w 9), (3, .lstore_n 1), (4, .iconst 0), (5, .istore_n 3), (6, .iload_n 3), (7, .bipush 10), (9, .if_icmp .ge 37), (12, .ldc2_w 11), (15, .lload_n 1), (16, .lmul), (17, .iload_n 3), (18, .iconst 5), (19, .if_icmp .eq 9), (22, .iload_n 3), (23, .bipush 6), (25, .if_icmp .ne 7), (28, .iconst 0), (29, .goto 8), (32, .aload_n 0), (33, .iload_n 3), (34, .invokevirtual 13), (37, .i2l), (38, .ladd), (39, .lstore_n 1), (40, .iinc 3 1), (43, .goto (-37)), (46, .iconst 0), (47, .istore_n 3), (48, .iload_n 3), (49, .aload_n 0), (50, .iconst 1), (51, .invokevirtual 13), (54, .if_icmp .ge 52), (57, .iconst 0), (58, .istore 4), (60, .iload 4), (62, .bipush 6), (64, .if_icmp .ge 24), (67, .ldc2_w 11), (70, .lload_n 1)]
set_option maxRecDepth 100000 in
theorem zkd96_0 : zkc96_0.all (fun e => zdok zm96.2.2.1 e.1 e.2) = true := by decide +kernel
def zkc96_1 : List (Nat × Instr) := [(71, .lmul), (72, .aload_n 0), (73, .iload_n 3), (74, .iload 4), (76, .invokevirtual 19), (79, .i2l), (80, .ladd), (81, .lstore_n 1), (82, .iinc 4 1), (85, .goto (-25)), (88, .ldc2_w 11), (91, .lload_n 1), (92, .lmul), (93, .aload_n 0), (94, .iload_n 3), (95, .invokevirtual 23), (98, .ladd), (99, .lstore_n 1), (100, .iinc 3 1), (103, .goto (-55)), (106, .iconst 0), (107, .istore_n 3), (108, .iload_n 3), (109, .aload_n 0), (110, .iconst 2), (111, .invokevirtual 13), (114, .if_icmp .ge 40), (117, .iconst 0), (118, .istore 4), (120, .iload 4), (122, .bipush 7), (124, .if_icmp .ge 24), (127, .ldc2_w 11), (130, .lload_n 1), (131, .lmul), (132, .aload_n 0), (133, .iload_n 3), (134, .iload 4), (136, .invokevirtual 27), (139, .i2l)]
set_option maxRecDepth 100000 in
theorem zkd96_1 : zkc96_1.all (fun e => zdok zm96.2.2.1 e.1 e.2) = true := by decide +kernel
def zkc96_2 : List (Nat × Instr) := [(140, .ladd), (141, .lstore_n 1), (142, .iinc 4 1), (145, .goto (-25)), (148, .iinc 3 1), (151, .goto (-43)), (154, .iconst 0), (155, .istore_n 3), (156, .iload_n 3), (157, .aload_n 0), (158, .iconst 3), (159, .invokevirtual 13), (162, .if_icmp .ge 47), (165, .ldc2_w 11), (168, .lload_n 1), (169, .lmul), (170, .ldc2_w 30), (173, .aload_n 0), (174, .iload_n 3), (175, .iconst 2), (176, .invokevirtual 32), (179, .i2l), (180, .lmul), (181, .ladd), (182, .ldc2_w 35), (185, .aload_n 0), (186, .iload_n 3), (187, .iconst 0), (188, .invokevirtual 32), (191, .i2l), (192, .lmul), (193, .ladd), (194, .aload_n 0), (195, .iload_n 3), (196, .iconst 1), (197, .invokevirtual 32), (200, .i2l), (201, .ladd), (202, .lstore_n 1), (203, .iinc 3 1)]
set_option maxRecDepth 100000 in
theorem zkd96_2 : zkc96_2.all (fun e => zdok zm96.2.2.1 e.1 e.2) = true := by decide +kernel
def zkc96_3 : List (Nat × Instr) := [(206, .goto (-50)), (209, .iconst 0), (210, .istore_n 3), (211, .iload_n 3), (212, .aload_n 0), (213, .iconst 4), (214, .invokevirtual 13), (217, .if_icmp .ge 59), (220, .ldc2_w 11), (223, .lload_n 1), (224, .lmul), (225, .ldc2_w 30), (228, .aload_n 0), (229, .iload_n 3), (230, .iconst 2), (231, .invokevirtual 37), (234, .i2l), (235, .lmul), (236, .ladd), (237, .ldc2_w 40), (240, .aload_n 0), (241, .iload_n 3), (242, .iconst 3), (243, .invokevirtual 37), (246, .i2l), (247, .lmul), (248, .ladd), (249, .ldc2_w 35), (252, .aload_n 0), (253, .iload_n 3), (254, .iconst 0), (255, .invokevirtual 37), (258, .i2l), (259, .lmul), (260, .ladd), (261, .aload_n 0), (262, .iload_n 3), (263, .iconst 1), (264, .invokevirtual 37), (267, .i2l)]
set_option maxRecDepth 100000 in
theorem zkd96_3 : zkc96_3.all (fun e => zdok zm96.2.2.1 e.1 e.2) = true := by decide +kernel
def zkc96_4 : List (Nat × Instr) := [(268, .ladd), (269, .lstore_n 1), (270, .iinc 3 1), (273, .goto (-62)), (276, .iconst 0), (277, .istore_n 3), (278, .iload_n 3), (279, .bipush 12), (281, .if_icmp .ge 59), (284, .ldc2_w 11), (287, .lload_n 1), (288, .lmul), (289, .ldc2_w 30), (292, .aload_n 0), (293, .aload_n 0), (294, .iconst 0), (295, .invokevirtual 13), (298, .iload_n 3), (299, .iadd), (300, .iconst 0), (301, .invokevirtual 42), (304, .i2l), (305, .lmul), (306, .ladd), (307, .ldc2_w 40), (310, .aload_n 0), (311, .iload_n 3), (312, .iconst 1), (313, .invokevirtual 42), (316, .i2l), (317, .lmul), (318, .ladd), (319, .aload_n 0), (320, .aload_n 0), (321, .iconst 0), (322, .invokevirtual 13), (325, .iload_n 3), (326, .iadd), (327, .iconst 1), (328, .invokevirtual 45)]
set_option maxRecDepth 100000 in
theorem zkd96_4 : zkc96_4.all (fun e => zdok zm96.2.2.1 e.1 e.2) = true := by decide +kernel
def zkc96_5 : List (Nat × Instr) := [(331, .i2l), (332, .ladd), (333, .lstore_n 1), (334, .iinc 3 1), (337, .goto (-59)), (340, .lload_n 1), (341, .lreturn)]
set_option maxRecDepth 100000 in
theorem zkd96_5 : zkc96_5.all (fun e => zdok zm96.2.2.1 e.1 e.2) = true := by decide +kernel
set_option maxRecDepth 100000 in
theorem zke96 : zm96.2.2.2.2.2.2.2 = zkc96_0 ++ (zkc96_1 ++ (zkc96_2 ++ (zkc96_3 ++ (zkc96_4 ++ (zkc96_5))))) := rfl
theorem zkf96 : zdal zm96 = true := by
  unfold zdal
  rw [zke96]
  simp only [List.all_append, zkd96_0, zkd96_1, zkd96_2, zkd96_3, zkd96_4, zkd96_5, Bool.and_self]
set_option maxRecDepth 100000 in
theorem zmo96 : zmP zm96 := ⟨zkf96, Or.inr ⟨443, rfl⟩, by decide +kernel⟩
set_option maxRecDepth 100000 in
theorem zmo97 : zmP zm97 := ⟨by decide +kernel, Or.inr ⟨535, rfl⟩, by decide +kernel⟩
def zkc98_0 : List (Nat × Instr) := [(0, .aload_n 0), (1, .iconst 0), (2, .invokevirtual 13), (5, .istore_n 1), (6, .iconst 0), (7, .istore_n 2), (8, .iconst 0), (9, .istore_n 3), (10, .iload_n 3), (11, .aload_n 0), (12, .iconst 1), (13, .invokevirtual 13), (16, .if_icmp .ge 127), (19, .aload_n 0), (20, .iload_n 3), (21, .iconst 2), (22, .invokevirtual 19), (25, .istore 4), (27, .iload 4), (29, .bipush 10), (31, .idiv), (32, .aload_n 0), (33, .iload_n 3), (34, .iconst 3), (35, .invokevirtual 19), (38, .aload_n 0), (39, .iload_n 3), (40, .iconst 1), (41, .invokevirtual 19), (44, .imul), (45, .iadd), (46, .istore 5), (48, .iload_n 2), (49, .aload_n 0), (50, .iload_n 3), (51, .iconst 4), (52, .invokevirtual 19), (55, .iadd), (56, .istore_n 2), (57, .iload 4)]
set_option maxRecDepth 100000 in
theorem zkd98_0 : zkc98_0.all (fun e => zdok zm98.2.2.1 e.1 e.2) = true := by decide +kernel
def zkc98_1 : List (Nat × Instr) := [(59, .ifCond .lt 76), (62, .iload 4), (64, .ldc 48), (66, .if_icmp .gt 69), (69, .aload_n 0), (70, .iload_n 3), (71, .iconst 3), (72, .invokevirtual 19), (75, .ifCond .lt 60), (78, .aload_n 0), (79, .iload_n 3), (80, .iconst 3), (81, .invokevirtual 19), (84, .iload_n 1), (85, .if_icmp .gt 50), (88, .aload_n 0), (89, .iload_n 3), (90, .iconst 5), (91, .invokevirtual 19), (94, .iload 5), (96, .sipush 10000), (99, .if_icmp .le 9), (102, .sipush 10000), (105, .goto 5), (108, .iload 5), (110, .if_icmp .ne 25), (113, .aload_n 0), (114, .iload_n 3), (115, .bipush 6), (117, .invokevirtual 19), (120, .ldc 49), (122, .if_icmp .ne 13), (125, .aload_n 0), (126, .iload_n 3), (127, .invokevirtual 23), (130, .lconst 0), (131, .lcmp), (132, .ifCond .ge 5), (135, .iconst 0), (136, .ireturn)]
set_option maxRecDepth 100000 in
theorem zkd98_1 : zkc98_1.all (fun e => zdok zm98.2.2.1 e.1 e.2) = true := by decide +kernel
def zkc98_2 : List (Nat × Instr) := [(137, .iinc 3 1), (140, .goto (-130)), (143, .iload_n 2), (144, .aload_n 0), (145, .bipush 7), (147, .invokevirtual 13), (150, .if_icmp .ne 45), (153, .aload_n 0), (154, .bipush 9), (156, .invokevirtual 13), (159, .aload_n 0), (160, .bipush 7), (162, .invokevirtual 13), (165, .if_icmp .lt 30), (168, .aload_n 0), (169, .bipush 10), (171, .invokevirtual 13), (174, .ldc 49), (176, .if_icmp .ne 19), (179, .aload_n 0), (180, .aload_n 0), (181, .iconst 1), (182, .invokevirtual 13), (185, .invokevirtual 23), (188, .ldc2_w 50), (191, .lcmp), (192, .ifCond .eq 5), (195, .iconst 0), (196, .ireturn), (197, .aload_n 0), (198, .iconst 3), (199, .invokevirtual 13), (202, .istore_n 3), (203, .iconst 0), (204, .istore 4), (206, .iload 4), (208, .iload_n 3), (209, .if_icmp .ge 118), (212, .aload_n 0), (213, .iload 4)]
set_option maxRecDepth 100000 in
theorem zkd98_2 : zkc98_2.all (fun e => zdok zm98.2.2.1 e.1 e.2) = true := by decide +kernel
def zkc98_3 : List (Nat × Instr) := [(215, .iconst 2), (216, .invokevirtual 32), (219, .istore 5), (221, .iload 5), (223, .iload_n 1), (224, .if_icmp .lt 48), (227, .iload 4), (229, .ifCond .le 17), (232, .iload 5), (234, .aload_n 0), (235, .iload 4), (237, .iconst 1), (238, .isub), (239, .iconst 2), (240, .invokevirtual 32), (243, .if_icmp .lt 29), (246, .aload_n 0), (247, .iload 4), (249, .iconst 0), (250, .invokevirtual 32), (253, .aload_n 0), (254, .iconst 1), (255, .invokevirtual 13), (258, .if_icmp .ge 14), (261, .aload_n 0), (262, .iload 4), (264, .iconst 1), (265, .invokevirtual 32), (268, .iconst 2), (269, .if_icmp .le 5), (272, .iconst 0), (273, .ireturn), (274, .iconst 0), (275, .istore 6), (277, .iload 6), (279, .iload 4), (281, .if_icmp .ge 40), (284, .aload_n 0), (285, .iload 6), (287, .iconst 2)]
set_option maxRecDepth 100000 in
theorem zkd98_3 : zkc98_3.all (fun e => zdok zm98.2.2.1 e.1 e.2) = true := by decide +kernel
def zkc98_4 : List (Nat × Instr) := [(288, .invokevirtual 32), (291, .iload 5), (293, .if_icmp .ne 22), (296, .aload_n 0), (297, .iload 6), (299, .iconst 0), (300, .invokevirtual 32), (303, .aload_n 0), (304, .iload 4), (306, .iconst 0), (307, .invokevirtual 32), (310, .if_icmp .ne 5), (313, .iconst 0), (314, .ireturn), (315, .iinc 6 1), (318, .goto (-41)), (321, .iinc 4 1), (324, .goto (-118)), (327, .iload_n 1), (328, .istore 4), (330, .iload 4), (332, .iload_n 1), (333, .bipush 9), (335, .iadd), (336, .if_icmp .ge 175), (339, .iload 4), (341, .sipush 9999), (344, .if_icmp .gt 167), (347, .iconst 0), (348, .istore 5), (350, .iconst 0), (351, .istore 6), (353, .aload_n 0), (354, .iload 4), (356, .iconst 2), (357, .invokevirtual 45), (360, .istore 7), (362, .iconst 0), (363, .istore 8), (365, .iload 8)]
set_option maxRecDepth 100000 in
theorem zkd98_4 : zkc98_4.all (fun e => zdok zm98.2.2.1 e.1 e.2) = true := by decide +kernel
def zkc98_5 : List (Nat × Instr) := [(367, .iload_n 3), (368, .if_icmp .ge 40), (371, .iload 7), (373, .aload_n 0), (374, .iload 8), (376, .iconst 2), (377, .invokevirtual 32), (380, .iload 4), (382, .if_icmp .ne 16), (385, .aload_n 0), (386, .iload 8), (388, .iconst 1), (389, .invokevirtual 32), (392, .invokestatic 52), (395, .goto 4), (398, .iconst 0), (399, .iadd), (400, .istore 7), (402, .iinc 8 1), (405, .goto (-40)), (408, .iconst 0), (409, .istore 8), (411, .iload 8), (413, .aload_n 0), (414, .iconst 2), (415, .invokevirtual 13), (418, .if_icmp .ge 49), (421, .iload 5), (423, .aload_n 0), (424, .iload 8), (426, .iload 4), (428, .bipush 7), (430, .irem), (431, .invokevirtual 27), (434, .ifCond .le 7), (437, .iconst 1), (438, .goto 4), (441, .iconst 0), (442, .iadd), (443, .istore 5)]
set_option maxRecDepth 100000 in
theorem zkd98_5 : zkc98_5.all (fun e => zdok zm98.2.2.1 e.1 e.2) = true := by decide +kernel
def zkc98_6 : List (Nat × Instr) := [(445, .iload 6), (447, .aload_n 0), (448, .iload 8), (450, .iload 4), (452, .bipush 7), (454, .irem), (455, .invokevirtual 27), (458, .iadd), (459, .istore 6), (461, .iinc 8 1), (464, .goto (-53)), (467, .iload 7), (469, .aload_n 0), (470, .iload 4), (472, .iconst 1), (473, .invokevirtual 45), (476, .if_icmp .ne 27), (479, .aload_n 0), (480, .iload 4), (482, .iconst 0), (483, .invokevirtual 45), (486, .iload 5), (488, .if_icmp .gt 15), (491, .aload_n 0), (492, .iload 4), (494, .iconst 1), (495, .invokevirtual 45), (498, .iload 6), (500, .if_icmp .le 5), (503, .iconst 0), (504, .ireturn), (505, .iinc 4 1), (508, .goto (-178)), (511, .aload_n 0), (512, .bipush 7), (514, .invokevirtual 13), (517, .aload_n 0), (518, .bipush 8), (520, .invokevirtual 13), (523, .iadd)]
set_option maxRecDepth 100000 in
theorem zkd98_6 : zkc98_6.all (fun e => zdok zm98.2.2.1 e.1 e.2) = true := by decide +kernel
def zkc98_7 : List (Nat × Instr) := [(524, .istore 4), (526, .aload_n 0), (527, .iconst 4), (528, .invokevirtual 13), (531, .iload 4), (533, .bipush 12), (535, .if_icmp .le 8), (538, .bipush 12), (540, .goto 5), (543, .iload 4), (545, .if_icmp .ne 79), (548, .aload_n 0), (549, .aload_n 0), (550, .iconst 4), (551, .invokevirtual 13), (554, .iconst 0), (555, .invokevirtual 37), (558, .ldc 57), (560, .if_icmp .ne 64), (563, .aload_n 0), (564, .iload_n 3), (565, .iconst 0), (566, .invokevirtual 32), (569, .ldc 57), (571, .if_icmp .ne 53), (574, .aload_n 0), (575, .iconst 0), (576, .iconst 3), (577, .invokevirtual 32), (580, .ldc 49), (582, .if_icmp .ne 42), (585, .aload_n 0), (586, .iconst 0), (587, .iconst 3), (588, .invokevirtual 45), (591, .ldc 49), (593, .if_icmp .ne 31), (596, .aload_n 0), (597, .sipush 10000), (600, .iconst 0)]
set_option maxRecDepth 100000 in
theorem zkd98_7 : zkc98_7.all (fun e => zdok zm98.2.2.1 e.1 e.2) = true := by decide +kernel
def zkc98_8 : List (Nat × Instr) := [(601, .invokevirtual 42), (604, .ldc 49), (606, .if_icmp .ne 18), (609, .aload_n 0), (610, .iconst (-1)), (611, .iconst 0), (612, .invokevirtual 37), (615, .ldc 49), (617, .if_icmp .ne 7), (620, .iconst 1), (621, .goto 4), (624, .iconst 0), (625, .ireturn)]
set_option maxRecDepth 100000 in
theorem zkd98_8 : zkc98_8.all (fun e => zdok zm98.2.2.1 e.1 e.2) = true := by decide +kernel
set_option maxRecDepth 100000 in
theorem zke98 : zm98.2.2.2.2.2.2.2 = zkc98_0 ++ (zkc98_1 ++ (zkc98_2 ++ (zkc98_3 ++ (zkc98_4 ++ (zkc98_5 ++ (zkc98_6 ++ (zkc98_7 ++ (zkc98_8)))))))) := rfl
theorem zkf98 : zdal zm98 = true := by
  unfold zdal
  rw [zke98]
  simp only [List.all_append, zkd98_0, zkd98_1, zkd98_2, zkd98_3, zkd98_4, zkd98_5, zkd98_6, zkd98_7, zkd98_8, Bool.and_self]
set_option maxRecDepth 100000 in
theorem zmo98 : zmP zm98 := ⟨zkf98, Or.inr ⟨529, rfl⟩, by decide +kernel⟩
set_option maxRecDepth 100000 in
theorem zmo99 : zmP zm99 := ⟨by decide +kernel, Or.inr ⟨539, rfl⟩, by decide +kernel⟩
set_option maxRecDepth 100000 in
theorem zmo100 : zmP zm100 := ⟨by decide +kernel, Or.inr ⟨634, rfl⟩, by decide +kernel⟩
def zkc101_0 : List (Nat × Instr) := [(0, .aload_n 0), (1, .iconst 1), (2, .invokevirtual 13), (5, .istore_n 3), (6, .iload_n 3), (7, .ifCond .eq 15), (10, .iload_n 1), (11, .bipush 48), (13, .iand), (14, .ifCond .ne 49), (17, .iload_n 3), (18, .iconst 4), (19, .if_icmp .ge 44), (22, .aload_n 0), (23, .iload_n 2), (24, .bipush 101), (26, .invokestatic 58), (29, .iload_n 2), (30, .bipush 7), (32, .ishr), (33, .bipush 21), (35, .invokestatic 58), (38, .invokevirtual 89), (41, .iload_n 3), (42, .if_icmp .ne 19), (45, .aload_n 0), (46, .bipush 101), (48, .iconst 0), (49, .invokevirtual 89), (52, .ldc 49), (54, .if_icmp .ne 7), (57, .iconst 1), (58, .goto 4), (61, .iconst 0), (62, .ireturn), (63, .iload_n 1), (64, .iload_n 3), (65, .invokestatic 58), (68, .istore 4), (70, .iload_n 1)]
set_option maxRecDepth 100000 in
theorem zkd101_0 : zkc101_0.all (fun e => zdok zm101.2.2.1 e.1 e.2) = true := by decide +kernel
def zkc101_1 : List (Nat × Instr) := [(71, .iconst 2), (72, .ishr), (73, .iconst 3), (74, .invokestatic 58), (77, .istore 5), (79, .iload_n 2), (80, .bipush 12), (82, .invokestatic 58), (85, .istore 6), (87, .aload_n 0), (88, .iconst 0), (89, .invokevirtual 13), (92, .iload 6), (94, .iadd), (95, .istore 7), (97, .aload_n 0), (98, .iconst 3), (99, .invokevirtual 13), (102, .istore 8), (104, .aload_n 0), (105, .iload 7), (107, .iconst 0), (108, .invokevirtual 45), (111, .istore 9), (113, .aload_n 0), (114, .iload 7), (116, .iconst 2), (117, .invokevirtual 45), (120, .istore 10), (122, .iload 9), (124, .iload 5), (126, .iconst 1), (127, .iadd), (128, .if_icmp .ge 7), (131, .iconst 1), (132, .goto 18), (135, .iload 10), (137, .iload 5), (139, .invokestatic 52), (142, .if_icmp .ge 7)]
set_option maxRecDepth 100000 in
theorem zkd101_1 : zkc101_1.all (fun e => zdok zm101.2.2.1 e.1 e.2) = true := by decide +kernel
def zkc101_2 : List (Nat × Instr) := [(145, .iconst 2), (146, .goto 4), (149, .iconst 0), (150, .istore 11), (152, .iconst 0), (153, .istore 12), (155, .iconst 0), (156, .istore 13), (158, .iload 13), (160, .iload 8), (162, .if_icmp .ge 68), (165, .iload 11), (167, .ifCond .ne 31), (170, .aload_n 0), (171, .iload 13), (173, .iconst 0), (174, .invokevirtual 32), (177, .iload 4), (179, .if_icmp .ne 19), (182, .aload_n 0), (183, .iload 13), (185, .iconst 2), (186, .invokevirtual 32), (189, .iload 7), (191, .if_icmp .ne 7), (194, .iconst 3), (195, .goto 5), (198, .iload 11), (200, .istore 11), (202, .iload 12), (204, .aload_n 0), (205, .iload 13), (207, .iconst 2), (208, .invokevirtual 32), (211, .iload 7), (213, .if_icmp .gt 7), (216, .iconst 1), (217, .goto 4), (220, .iconst 0), (221, .iadd)]
set_option maxRecDepth 100000 in
theorem zkd101_2 : zkc101_2.all (fun e => zdok zm101.2.2.1 e.1 e.2) = true := by decide +kernel
def zkc101_3 : List (Nat × Instr) := [(222, .istore 12), (224, .iinc 13 1), (227, .goto (-69)), (230, .iload 11), (232, .ifCond .ne 14), (235, .iload 8), (237, .bipush 12), (239, .if_icmp .ne 7), (242, .iconst 4), (243, .goto 5), (246, .iload 11), (248, .istore 11), (250, .aload_n 0), (251, .iload 4), (253, .iload 5), (255, .iload 6), (257, .invokevirtual 86), (260, .istore 13), (262, .iload 11), (264, .ifCond .le 36), (267, .iload 13), (269, .ldc 92), (271, .if_icmp .ne 27), (274, .aload_n 0), (275, .iconst 5), (276, .invokevirtual 13), (279, .iload 11), (281, .if_icmp .ne 17), (284, .aload_n 0), (285, .iconst 3), (286, .invokevirtual 13), (289, .iload 8), (291, .if_icmp .ne 7), (294, .iconst 1), (295, .goto 4), (298, .iconst 0), (299, .ireturn), (300, .iload 13), (302, .iload 12), (304, .if_icmp .ne 94)]
set_option maxRecDepth 100000 in
theorem zkd101_3 : zkc101_3.all (fun e => zdok zm101.2.2.1 e.1 e.2) = true := by decide +kernel
def zkc101_4 : List (Nat × Instr) := [(307, .aload_n 0), (308, .iconst 3), (309, .invokevirtual 13), (312, .iload 8), (314, .iconst 1), (315, .iadd), (316, .if_icmp .ne 82), (319, .aload_n 0), (320, .iload 12), (322, .iconst 0), (323, .invokevirtual 32), (326, .iload 4), (328, .if_icmp .ne 70), (331, .aload_n 0), (332, .iload 12), (334, .iconst 1), (335, .invokevirtual 32), (338, .iload 5), (340, .if_icmp .ne 58), (343, .aload_n 0), (344, .iload 12), (346, .iconst 2), (347, .invokevirtual 32), (350, .iload 7), (352, .if_icmp .ne 46), (355, .aload_n 0), (356, .iload 4), (358, .iconst 3), (359, .iconst 0), (360, .invokevirtual 86), (363, .ldc 49), (365, .if_icmp .ne 33), (368, .aload_n 0), (369, .iconst 4), (370, .iconst 0), (371, .iconst 0), (372, .invokevirtual 86), (375, .ldc 82), (377, .if_icmp .ne 21), (380, .aload_n 0)]
set_option maxRecDepth 100000 in
theorem zkd101_4 : zkc101_4.all (fun e => zdok zm101.2.2.1 e.1 e.2) = true := by decide +kernel
def zkc101_5 : List (Nat × Instr) := [(381, .iload 4), (383, .iconst 0), (384, .bipush 60), (386, .invokevirtual 86), (389, .ldc 49), (391, .if_icmp .ne 7), (394, .iconst 1), (395, .goto 4), (398, .iconst 0), (399, .ireturn)]
set_option maxRecDepth 100000 in
theorem zkd101_5 : zkc101_5.all (fun e => zdok zm101.2.2.1 e.1 e.2) = true := by decide +kernel
set_option maxRecDepth 100000 in
theorem zke101 : zm101.2.2.2.2.2.2.2 = zkc101_0 ++ (zkc101_1 ++ (zkc101_2 ++ (zkc101_3 ++ (zkc101_4 ++ (zkc101_5))))) := rfl
theorem zkf101 : zdal zm101 = true := by
  unfold zdal
  rw [zke101]
  simp only [List.all_append, zkd101_0, zkd101_1, zkd101_2, zkd101_3, zkd101_4, zkd101_5, Bool.and_self]
set_option maxRecDepth 100000 in
theorem zmo101 : zmP zm101 := ⟨zkf101, Or.inr ⟨688, rfl⟩, by decide +kernel⟩
set_option maxRecDepth 100000 in
theorem zmo102 : zmP zm102 := ⟨by decide +kernel, Or.inr ⟨706, rfl⟩, by decide +kernel⟩
set_option maxRecDepth 100000 in
theorem zmo103 : zmP zm103 := ⟨by decide +kernel, Or.inr ⟨737, rfl⟩, by decide +kernel⟩
def zkc104_0 : List (Nat × Instr) := [(0, .new 14), (3, .dup), (4, .invokespecial 111), (7, .astore_n 1), (8, .lconst 0), (9, .lstore_n 2), (10, .iconst 0), (11, .istore 4), (13, .aload_n 1), (14, .invokevirtual 74), (17, .ldc 57), (19, .if_icmp .ne 62), (22, .aload_n 1), (23, .iconst 0), (24, .invokevirtual 112), (27, .ldc 57), (29, .if_icmp .ne 52), (32, .aload_n 1), (33, .iconst 2), (34, .invokevirtual 112), (37, .ldc 82), (39, .if_icmp .ne 42), (42, .aload_n 1), (43, .iconst (-1)), (44, .invokevirtual 115), (47, .ldc 82), (49, .if_icmp .ne 32), (52, .aload_n 1), (53, .invokevirtual 108), (56, .ldc 57), (58, .if_icmp .ne 23), (61, .aload_n 1), (62, .iconst 0), (63, .invokevirtual 118), (66, .ldc 82), (68, .if_icmp .ne 13), (71, .aload_n 1), (72, .iconst 0), (73, .invokevirtual 121), (76, .ldc 57)]
set_option maxRecDepth 100000 in
theorem zkd104_0 : zkc104_0.all (fun e => zdok zm104.2.2.1 e.1 e.2) = true := by decide +kernel
def zkc104_1 : List (Nat × Instr) := [(78, .if_icmp .eq 5), (81, .iconst 0), (82, .ireturn), (83, .iconst 0), (84, .istore 5), (86, .iload 5), (88, .bipush 40), (90, .if_icmp .ge 430), (93, .aload_n 0), (94, .iconst 2), (95, .iload 5), (97, .imul), (98, .invokestatic 124), (101, .istore 6), (103, .aload_n 0), (104, .iconst 2), (105, .iload 5), (107, .imul), (108, .iconst 1), (109, .iadd), (110, .invokestatic 124), (113, .istore 7), (115, .iload 6), (117, .bipush 16), (119, .ishr), (120, .bipush 15), (122, .invokestatic 58), (125, .istore 8), (127, .iconst 1), (128, .istore 9), (130, .aload_n 1), (131, .bipush 6), (133, .invokevirtual 13), (136, .istore 10), (138, .aload_n 1), (139, .invokestatic 61), (142, .lstore 11), (144, .iload 5), (146, .bipush 8), (148, .if_icmp .lt 9)]
set_option maxRecDepth 100000 in
theorem zkd104_1 : zkc104_1.all (fun e => zdok zm104.2.2.1 e.1 e.2) = true := by decide +kernel
def zkc104_2 : List (Nat × Instr) := [(151, .iload 8), (153, .iconst 3), (154, .if_icmp .ge 60), (157, .iload 5), (159, .ifCond .ne 13), (162, .aload_n 1), (163, .iconst 0), (164, .iload 7), (166, .invokestatic 128), (169, .goto 40), (172, .aload_n 1), (173, .iload 5), (175, .bipush 8), (177, .if_icmp .ge 11), (180, .iload 6), (182, .bipush 16), (184, .ior), (185, .goto 5), (188, .iload 6), (190, .iload 5), (192, .bipush 8), (194, .if_icmp .ge 10), (197, .iload 7), (199, .iconst 1), (200, .ior), (201, .goto 5), (204, .iload 7), (206, .invokestatic 132), (209, .istore 9), (211, .goto 289), (214, .iload 8), (216, .bipush 7), (218, .if_icmp .ge 16), (221, .aload_n 1), (222, .iload 6), (224, .iload 7), (226, .invokestatic 128), (229, .istore 9), (231, .goto 269), (234, .iload 8)]
set_option maxRecDepth 100000 in
theorem zkd104_2 : zkc104_2.all (fun e => zdok zm104.2.2.1 e.1 e.2) = true := by decide +kernel
def zkc104_3 : List (Nat × Instr) := [(236, .bipush 7), (238, .if_icmp .ne 16), (241, .aload_n 1), (242, .iload 6), (244, .iload 7), (246, .invokestatic 135), (249, .istore 9), (251, .goto 249), (254, .iload 8), (256, .bipush 10), (258, .if_icmp .ge 26), (261, .aload_n 1), (262, .iload 6), (264, .iload 7), (266, .iconst 1), (267, .iand), (268, .ifCond .ne 7), (271, .iconst 1), (272, .goto 4), (275, .iconst 0), (276, .invokestatic 138), (279, .istore 9), (281, .goto 219), (284, .iload 8), (286, .bipush 10), (288, .if_icmp .ne 14), (291, .aload_n 1), (292, .iload 6), (294, .invokestatic 142), (297, .istore 9), (299, .goto 201), (302, .iload 8), (304, .bipush 11), (306, .if_icmp .ne 115), (309, .aload_n 1), (310, .iconst 3), (311, .invokevirtual 13), (314, .istore 13), (316, .iload 7), (318, .bipush 12)]
set_option maxRecDepth 100000 in
theorem zkd104_3 : zkc104_3.all (fun e => zdok zm104.2.2.1 e.1 e.2) = true := by decide +kernel
def zkc104_4 : List (Nat × Instr) := [(320, .invokestatic 58), (323, .istore 14), (325, .aload_n 1), (326, .iload 14), (328, .invokevirtual 118), (331, .iload 14), (333, .iload 13), (335, .if_icmp .ge 10), (338, .iload 13), (340, .iconst 1), (341, .isub), (342, .goto 5), (345, .ldc 82), (347, .if_icmp .ne 7), (350, .iconst 1), (351, .goto 4), (354, .iconst 0), (355, .istore 9), (357, .iload 9), (359, .ifCond .eq 56), (362, .iload 14), (364, .iload 13), (366, .if_icmp .ge 45), (369, .aload_n 1), (370, .bipush 6), (372, .invokevirtual 13), (375, .iload 10), (377, .bipush 6), (379, .if_icmp .ne 8), (382, .bipush 6), (384, .goto 7), (387, .iload 10), (389, .iconst 1), (390, .iadd), (391, .if_icmp .ne 24), (394, .aload_n 1), (395, .invokevirtual 74), (398, .ifCond .lt 17), (401, .aload_n 1), (402, .invokestatic 61)]
set_option maxRecDepth 100000 in
theorem zkd104_4 : zkc104_4.all (fun e => zdok zm104.2.2.1 e.1 e.2) = true := by decide +kernel
def zkc104_5 : List (Nat × Instr) := [(405, .lload 11), (407, .lcmp), (408, .ifCond .ne 7), (411, .iconst 1), (412, .goto 4), (415, .iconst 0), (416, .istore 9), (418, .goto 82), (421, .iload 8), (423, .bipush 12), (425, .if_icmp .ne 34), (428, .aload_n 1), (429, .iconst 0), (430, .invokevirtual 115), (433, .aload_n 1), (434, .iconst 0), (435, .invokevirtual 13), (438, .if_icmp .ne 7), (441, .iconst 1), (442, .goto 4), (445, .iconst 0), (446, .istore 9), (448, .aload_n 1), (449, .invokestatic 61), (452, .lstore_n 2), (453, .iconst 1), (454, .istore 4), (456, .goto 44), (459, .iload 8), (461, .bipush 13), (463, .if_icmp .ne 37), (466, .iload 4), (468, .ifCond .eq 32), (471, .aload_n 1), (472, .iconst 0), (473, .invokevirtual 112), (476, .aload_n 1), (477, .iconst 0), (478, .invokevirtual 13), (481, .if_icmp .ne 16)]
set_option maxRecDepth 100000 in
theorem zkd104_5 : zkc104_5.all (fun e => zdok zm104.2.2.1 e.1 e.2) = true := by decide +kernel
def zkc104_6 : List (Nat × Instr) := [(484, .aload_n 1), (485, .invokestatic 61), (488, .lload_n 2), (489, .lcmp), (490, .ifCond .ne 7), (493, .iconst 1), (494, .goto 4), (497, .iconst 0), (498, .istore 9), (500, .iload 9), (502, .ifCond .eq 10), (505, .aload_n 1), (506, .invokestatic 146), (509, .ifCond .ne 5), (512, .iconst 0), (513, .ireturn), (514, .iinc 5 1), (517, .goto (-431)), (520, .iconst 1), (521, .ireturn)]
set_option maxRecDepth 100000 in
theorem zkd104_6 : zkc104_6.all (fun e => zdok zm104.2.2.1 e.1 e.2) = true := by decide +kernel
set_option maxRecDepth 100000 in
theorem zke104 : zm104.2.2.2.2.2.2.2 = zkc104_0 ++ (zkc104_1 ++ (zkc104_2 ++ (zkc104_3 ++ (zkc104_4 ++ (zkc104_5 ++ (zkc104_6)))))) := rfl
theorem zkf104 : zdal zm104 = true := by
  unfold zdal
  rw [zke104]
  simp only [List.all_append, zkd104_0, zkd104_1, zkd104_2, zkd104_3, zkd104_4, zkd104_5, zkd104_6, Bool.and_self]
set_option maxRecDepth 100000 in
theorem zmo104 : zmP zm104 := ⟨zkf104, Or.inl rfl, by decide +kernel⟩
set_option maxRecDepth 100000 in
theorem zmP_all : ∀ q ∈ zM, zmP q := by
  unfold zM
  refine List.forall_mem_cons.mpr ⟨zmo0, List.forall_mem_cons.mpr ⟨zmo1, List.forall_mem_cons.mpr ⟨zmo2, List.forall_mem_cons.mpr ⟨zmo3, List.forall_mem_cons.mpr ⟨zmo4, List.forall_mem_cons.mpr ⟨zmo5, List.forall_mem_cons.mpr ⟨zmo6, List.forall_mem_cons.mpr ⟨zmo7, List.forall_mem_cons.mpr ⟨zmo8, List.forall_mem_cons.mpr ⟨zmo9, List.forall_mem_cons.mpr ⟨zmo10, List.forall_mem_cons.mpr ⟨zmo11, List.forall_mem_cons.mpr ⟨zmo12, List.forall_mem_cons.mpr ⟨zmo13, List.forall_mem_cons.mpr ⟨zmo14, List.forall_mem_cons.mpr ⟨zmo15, List.forall_mem_cons.mpr ⟨zmo16, List.forall_mem_cons.mpr ⟨zmo17, List.forall_mem_cons.mpr ⟨zmo18, List.forall_mem_cons.mpr ⟨zmo19, List.forall_mem_cons.mpr ⟨zmo20, List.forall_mem_cons.mpr ⟨zmo21, List.forall_mem_cons.mpr ⟨zmo22, List.forall_mem_cons.mpr ⟨zmo23, List.forall_mem_cons.mpr ⟨zmo24, List.forall_mem_cons.mpr ⟨zmo25, List.forall_mem_cons.mpr ⟨zmo26, List.forall_mem_cons.mpr ⟨zmo27, List.forall_mem_cons.mpr ⟨zmo28, List.forall_mem_cons.mpr ⟨zmo29, List.forall_mem_cons.mpr ⟨zmo30, List.forall_mem_cons.mpr ⟨zmo31, List.forall_mem_cons.mpr ⟨zmo32, List.forall_mem_cons.mpr ⟨zmo33, List.forall_mem_cons.mpr ⟨zmo34, List.forall_mem_cons.mpr ⟨zmo35, List.forall_mem_cons.mpr ⟨zmo36, List.forall_mem_cons.mpr ⟨zmo37, List.forall_mem_cons.mpr ⟨zmo38, List.forall_mem_cons.mpr ⟨zmo39, List.forall_mem_cons.mpr ⟨zmo40, List.forall_mem_cons.mpr ⟨zmo41, List.forall_mem_cons.mpr ⟨zmo42, List.forall_mem_cons.mpr ⟨zmo43, List.forall_mem_cons.mpr ⟨zmo44, List.forall_mem_cons.mpr ⟨zmo45, List.forall_mem_cons.mpr ⟨zmo46, List.forall_mem_cons.mpr ⟨zmo47, List.forall_mem_cons.mpr ⟨zmo48, List.forall_mem_cons.mpr ⟨zmo49, List.forall_mem_cons.mpr ⟨zmo50, List.forall_mem_cons.mpr ⟨zmo51, List.forall_mem_cons.mpr ⟨zmo52, List.forall_mem_cons.mpr ⟨zmo53, List.forall_mem_cons.mpr ⟨zmo54, List.forall_mem_cons.mpr ⟨zmo55, List.forall_mem_cons.mpr ⟨zmo56, List.forall_mem_cons.mpr ⟨zmo57, List.forall_mem_cons.mpr ⟨zmo58, List.forall_mem_cons.mpr ⟨zmo59, List.forall_mem_cons.mpr ⟨zmo60, List.forall_mem_cons.mpr ⟨zmo61, List.forall_mem_cons.mpr ⟨zmo62, List.forall_mem_cons.mpr ⟨zmo63, List.forall_mem_cons.mpr ⟨zmo64, List.forall_mem_cons.mpr ⟨zmo65, List.forall_mem_cons.mpr ⟨zmo66, List.forall_mem_cons.mpr ⟨zmo67, List.forall_mem_cons.mpr ⟨zmo68, List.forall_mem_cons.mpr ⟨zmo69, List.forall_mem_cons.mpr ⟨zmo70, List.forall_mem_cons.mpr ⟨zmo71, List.forall_mem_cons.mpr ⟨zmo72, List.forall_mem_cons.mpr ⟨zmo73, List.forall_mem_cons.mpr ⟨zmo74, List.forall_mem_cons.mpr ⟨zmo75, List.forall_mem_cons.mpr ⟨zmo76, List.forall_mem_cons.mpr ⟨zmo77, List.forall_mem_cons.mpr ⟨zmo78, List.forall_mem_cons.mpr ⟨zmo79, List.forall_mem_cons.mpr ⟨zmo80, List.forall_mem_cons.mpr ⟨zmo81, List.forall_mem_cons.mpr ⟨zmo82, List.forall_mem_cons.mpr ⟨zmo83, List.forall_mem_cons.mpr ⟨zmo84, List.forall_mem_cons.mpr ⟨zmo85, List.forall_mem_cons.mpr ⟨zmo86, List.forall_mem_cons.mpr ⟨zmo87, List.forall_mem_cons.mpr ⟨zmo88, List.forall_mem_cons.mpr ⟨zmo89, List.forall_mem_cons.mpr ⟨zmo90, List.forall_mem_cons.mpr ⟨zmo91, List.forall_mem_cons.mpr ⟨zmo92, List.forall_mem_cons.mpr ⟨zmo93, List.forall_mem_cons.mpr ⟨zmo94, List.forall_mem_cons.mpr ⟨zmo95, List.forall_mem_cons.mpr ⟨zmo96, List.forall_mem_cons.mpr ⟨zmo97, List.forall_mem_cons.mpr ⟨zmo98, List.forall_mem_cons.mpr ⟨zmo99, List.forall_mem_cons.mpr ⟨zmo100, List.forall_mem_cons.mpr ⟨zmo101, List.forall_mem_cons.mpr ⟨zmo102, List.forall_mem_cons.mpr ⟨zmo103, List.forall_mem_cons.mpr ⟨zmo104, fun _ h => absurd h List.not_mem_nil⟩⟩⟩⟩⟩⟩⟩⟩⟩⟩⟩⟩⟩⟩⟩⟩⟩⟩⟩⟩⟩⟩⟩⟩⟩⟩⟩⟩⟩⟩⟩⟩⟩⟩⟩⟩⟩⟩⟩⟩⟩⟩⟩⟩⟩⟩⟩⟩⟩⟩⟩⟩⟩⟩⟩⟩⟩⟩⟩⟩⟩⟩⟩⟩⟩⟩⟩⟩⟩⟩⟩⟩⟩⟩⟩⟩⟩⟩⟩⟩⟩⟩⟩⟩⟩⟩⟩⟩⟩⟩⟩⟩⟩⟩⟩⟩⟩⟩⟩⟩⟩⟩⟩⟩⟩
