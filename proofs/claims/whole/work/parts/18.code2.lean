def b_191_0 : List (Nat × Instr) := [(0, .aload 0), (1, .invokedynamic 1), (4, .aload 0), (5, .iconst 7), (7, .newarray .int), (9, .putfield 1202), (12, .aload 0), (13, .iconst 1570), (16, .newarray .int), (18, .putfield 1203), (21, .aload 0), (22, .iconst 3140), (25, .newarray .int), (27, .putfield 1204), (30, .aload 0), (31, .iconst 2), (32, .newarray .boolean), (34, .putfield 1205), (37, .aload 0), (38, .iconst 400), (41, .newarray .int), (43, .putfield 1206), (46, .aload 0), (47, .iconst (-1)), (48, .putfield 1212), (51, .aload 0), (52, .iconst 192), (55, .newarray .int), (57, .putfield 1215), (60, .aload 0), (61, .iconst 400), (64, .newarray .int), (66, .putfield 1217), (69, .aload 0), (70, .iconst 400), (73, .newarray .int), (75, .putfield 1218), (78, .aload 0), (79, .iconst 400), (82, .newarray .int), (84, .putfield 1220), (87, .aload 0), (88, .iconst 400), (91, .newarray .int), (93, .putfield 1221), (96, .aload 0), (97, .iconst 5), (98, .newarray .long), (100, .dup), (101, .iconst 0), (102, .sipush 3540595), (105, .lastore), (106, .dup), (107, .iconst 1), (108, .sipush 525908), (111, .lastore), (112, .dup), (113, .iconst 2), (114, .sipush 23609), (117, .lastore), (118, .dup), (119, .iconst 3), (120, .sipush 4153), (123, .lastore), (124, .dup), (125, .iconst 4), (126, .sipush 777297172), (129, .lastore), (130, .putfield 1224), (133, .aload 0), (134, .iconst 176), (137, .newarray .int), (139, .putfield 1225), (142, .aload 0), (143, .iconst 13), (145, .newarray .long), (147, .putfield 1227), (150, .aload 0), (151, .iconst 400), (154, .newarray .long), (156, .putfield 1228), (159, .aload 0), (160, .iconst 3), (161, .newarray .int), (163, .putfield 1233), (166, .aload 0), (167, .iconst 1920), (170, .newarray .int), (172, .putfield 1234), (175, .aload 0), (176, .iconst 1920), (179, .newarray .int), (181, .putfield 1235), (184, .aload 0), (185, .iconst 10), (187, .newarray .int), (189, .putfield 1236), (192, .aload 0), (193, .iconst 110), (195, .newarray .int), (197, .putfield 1237), (200, .aload 0), (201, .iconst 48), (203, .newarray .boolean), (205, .putfield 1238), (208, .aload 0), (209, .iconst 8), (211, .newarray .int), (213, .putfield 1239), (216, .aload 0), (217, .iconst 10), (219, .newarray .int), (221, .putfield 1241), (224, .aload 0), (225, .iconst 5), (226, .newarray .int), (228, .putfield 1242), (231, .aload 0), (232, .iconst 531441), (234, .newarray .int), (236, .putfield 1245), (239, .aload 0), (240, .iconst 531441), (242, .newarray .int), (244, .putfield 1246), (247, .aload 0), (248, .iconst 531441), (250, .newarray .boolean), (252, .putfield 1247), (255, .aload 0), (256, .iconst 8), (258, .newarray .int), (260, .putfield 1249), (263, .aload 0), (264, .iconst 5), (265, .newarray .int), (267, .putfield 1250), (270, .aload 0), (271, .iconst 8), (273, .newarray .int), (275, .putfield 1255), (278, .aload 0), (279, .iconst 10), (281, .newarray .int), (283, .putfield 1256), (286, .aload 0), (287, .iconst 16), (289, .newarray .int), (291, .putfield 1257), (294, .aload 0), (295, .iconst 16), (297, .newarray .int), (299, .putfield 1258), (302, .aload 0), (303, .iconst 16), (305, .newarray .boolean), (307, .putfield 1259), (310, .aload 0), (311, .iconst 4), (312, .newarray .int), (314, .putfield 1261), (317, .aload 0), (318, .iconst 16), (320, .newarray .int), (322, .putfield 1262), (325, .aload 0), (326, .iconst 16), (328, .newarray .int), (330, .putfield 1264), (333, .aload 0), (334, .iconst 15), (336, .newarray .int), (338, .putfield 1265), (341, .aload 0), (342, .iconst 15), (344, .newarray .int), (346, .putfield 1266), (349, .aload 0), (350, .getfield 1203), (353, .iconst 5), (354, .iconst 5), (355, .iastore), (356, .return_)]
theorem h_191_0 : chk (mt 191) 357 0 b_191_0 = true := by decide +kernel
def b_192_0 : List (Nat × Instr) := [(0, .aload 0), (1, .iconst 0), (2, .putfield 1200), (5, .iload 1), (6, .i2l), (7, .sipush 0), (8, .sipush 1), (9, .invokestatic 193), (12, .ifCond .ne 21), (15, .aload 0), (16, .iconst (-1)), (17, .invokevirtual 194), (20, .ireturn)]
theorem h_192_0 : chk (mt 192) 21 0 b_192_0 = true := by decide +kernel
def b_192_21 : List (Nat × Instr) := [(21, .iconst 0), (22, .istore 2)]
theorem h_192_21 : chk (mt 192) 23 21 b_192_21 = true := by decide +kernel
def b_192_23 : List (Nat × Instr) := [(23, .iload 2), (24, .iconst 1570), (27, .if_icmp .ge 54), (30, .aload 0), (31, .getfield 1204), (34, .iconst 1570), (37, .iload 1), (38, .imul), (39, .iload 2), (40, .iadd), (41, .aload 0), (42, .getfield 1203), (45, .iload 2), (46, .iaload), (47, .iastore), (48, .iinc 2 1), (51, .goto 23)]
theorem h_192_23 : chk (mt 192) 54 23 b_192_23 = true := by decide +kernel
def b_192_54 : List (Nat × Instr) := [(54, .aload 0), (55, .getfield 1205), (58, .iload 1), (59, .iconst 1), (60, .bastore), (61, .aload 0), (62, .iconst 0), (63, .invokevirtual 194), (66, .ireturn)]
theorem h_192_54 : chk (mt 192) 67 54 b_192_54 = true := by decide +kernel
def b_193_0 : List (Nat × Instr) := [(0, .lload 0), (1, .lload 2), (2, .lcmp), (3, .ifCond .lt 17), (6, .lload 0), (7, .lload 4), (9, .lcmp), (10, .ifCond .gt 17), (13, .iconst 1), (14, .goto 18)]
theorem h_193_0 : chk (mt 193) 17 0 b_193_0 = true := by decide +kernel
def b_193_17 : List (Nat × Instr) := [(17, .iconst 0)]
theorem h_193_17 : chk (mt 193) 18 17 b_193_17 = true := by decide +kernel
def b_193_18 : List (Nat × Instr) := [(18, .ireturn)]
theorem h_193_18 : chk (mt 193) 19 18 b_193_18 = true := by decide +kernel
def b_194_0 : List (Nat × Instr) := [(0, .aload 0), (1, .iload 1), (2, .ifCond .ge 9), (5, .iload 1), (6, .goto 10)]
theorem h_194_0 : chk (mt 194) 9 0 b_194_0 = true := by decide +kernel
def b_194_9 : List (Nat × Instr) := [(9, .iconst 0)]
theorem h_194_9 : chk (mt 194) 10 9 b_194_9 = true := by decide +kernel
def b_194_10 : List (Nat × Instr) := [(10, .putfield 1201), (13, .aload 0), (14, .aload 0), (15, .getfield 1232), (18, .ifCond .eq 29), (21, .iload 1), (22, .ifCond .ge 29), (25, .iconst 1), (26, .goto 30)]
theorem h_194_10 : chk (mt 194) 29 10 b_194_10 = true := by decide +kernel
def b_194_29 : List (Nat × Instr) := [(29, .iconst 0)]
theorem h_194_29 : chk (mt 194) 30 29 b_194_29 = true := by decide +kernel
def b_194_30 : List (Nat × Instr) := [(30, .putfield 1232), (33, .aload 0), (34, .aload 0), (35, .getfield 1251), (38, .ifCond .eq 49), (41, .iload 1), (42, .ifCond .ge 49), (45, .iconst 1), (46, .goto 50)]
theorem h_194_30 : chk (mt 194) 49 30 b_194_30 = true := by decide +kernel
def b_194_49 : List (Nat × Instr) := [(49, .iconst 0)]
theorem h_194_49 : chk (mt 194) 50 49 b_194_49 = true := by decide +kernel
def b_194_50 : List (Nat × Instr) := [(50, .putfield 1251), (53, .iload 1), (54, .ifCond .ge 68), (57, .aload 0), (58, .getfield 1202), (61, .iload 1), (62, .ineg), (63, .dup2), (64, .iaload), (65, .iconst 1), (66, .iadd), (67, .iastore)]
theorem h_194_50 : chk (mt 194) 68 50 b_194_50 = true := by decide +kernel
def b_194_68 : List (Nat × Instr) := [(68, .iload 1), (69, .ireturn)]
theorem h_194_68 : chk (mt 194) 70 68 b_194_68 = true := by decide +kernel
def b_195_0 : List (Nat × Instr) := [(0, .aload 0), (1, .iconst 0), (2, .putfield 1200), (5, .iload 1), (6, .i2l), (7, .sipush 0), (8, .sipush 1), (9, .invokestatic 193), (12, .ifCond .ne 21), (15, .aload 0), (16, .iconst (-1)), (17, .invokevirtual 194), (20, .ireturn)]
theorem h_195_0 : chk (mt 195) 21 0 b_195_0 = true := by decide +kernel
def b_195_21 : List (Nat × Instr) := [(21, .aload 0), (22, .getfield 1205), (25, .iload 1), (26, .baload), (27, .ifCond .ne 37), (30, .aload 0), (31, .iconst (-2)), (33, .invokevirtual 194), (36, .ireturn)]
theorem h_195_21 : chk (mt 195) 37 21 b_195_21 = true := by decide +kernel
def b_195_37 : List (Nat × Instr) := [(37, .iconst 0), (38, .istore 2)]
theorem h_195_37 : chk (mt 195) 39 37 b_195_37 = true := by decide +kernel
def b_195_39 : List (Nat × Instr) := [(39, .iload 2), (40, .iconst 1570), (43, .if_icmp .ge 70), (46, .aload 0), (47, .getfield 1203), (50, .iload 2), (51, .aload 0), (52, .getfield 1204), (55, .iconst 1570), (58, .iload 1), (59, .imul), (60, .iload 2), (61, .iadd), (62, .iaload), (63, .iastore), (64, .iinc 2 1), (67, .goto 39)]
theorem h_195_39 : chk (mt 195) 70 39 b_195_39 = true := by decide +kernel
def b_195_70 : List (Nat × Instr) := [(70, .aload 0), (71, .iconst 0), (72, .invokevirtual 194), (75, .ireturn)]
theorem h_195_70 : chk (mt 195) 76 70 b_195_70 = true := by decide +kernel
def b_196_0 : List (Nat × Instr) := [(0, .aload 0), (1, .iconst 0), (2, .putfield 1200), (5, .iload 1), (6, .invokestatic 197), (9, .ifCond .eq 24), (12, .iload 2), (13, .i2l), (14, .sipush 0), (15, .sipush 8), (18, .invokestatic 193), (21, .ifCond .ne 30)]
theorem h_196_0 : chk (mt 196) 24 0 b_196_0 = true := by decide +kernel
def b_196_24 : List (Nat × Instr) := [(24, .aload 0), (25, .iconst (-1)), (26, .invokevirtual 194), (29, .ireturn)]
theorem h_196_24 : chk (mt 196) 30 24 b_196_24 = true := by decide +kernel
def b_196_30 : List (Nat × Instr) := [(30, .aload 0), (31, .invokevirtual 198), (34, .aload 0), (35, .getfield 1203), (38, .iconst 0), (39, .iload 1), (40, .iadd), (41, .iaload), (42, .isub), (43, .iload 2), (44, .iadd), (45, .iconst 8), (47, .if_icmp .le 59), (50, .aload 0), (51, .iconst (-3)), (53, .invokevirtual 194), (56, .goto 67)]
theorem h_196_30 : chk (mt 196) 59 30 b_196_30 = true := by decide +kernel
def b_196_59 : List (Nat × Instr) := [(59, .aload 0), (60, .iconst 0), (61, .iload 1), (62, .iadd), (63, .iload 2), (64, .invokevirtual 199)]
theorem h_196_59 : chk (mt 196) 67 59 b_196_59 = true := by decide +kernel
def b_196_67 : List (Nat × Instr) := [(67, .ireturn)]
theorem h_196_67 : chk (mt 196) 68 67 b_196_67 = true := by decide +kernel
def b_197_0 : List (Nat × Instr) := [(0, .iload 0), (1, .i2l), (2, .sipush 0), (3, .sipush 2), (6, .invokestatic 193), (9, .ireturn)]
theorem h_197_0 : chk (mt 197) 10 0 b_197_0 = true := by decide +kernel
def b_198_0 : List (Nat × Instr) := [(0, .aload 0), (1, .getfield 1203), (4, .iconst 0), (5, .iaload), (6, .aload 0), (7, .getfield 1203), (10, .iconst 1), (11, .iaload), (12, .iadd), (13, .aload 0), (14, .getfield 1203), (17, .iconst 2), (18, .iaload), (19, .iadd), (20, .ireturn)]
theorem h_198_0 : chk (mt 198) 21 0 b_198_0 = true := by decide +kernel
def b_199_0 : List (Nat × Instr) := [(0, .aload 0), (1, .getfield 1203), (4, .iload 1), (5, .iaload), (6, .istore 3), (7, .aload 0), (8, .getfield 1203), (11, .iload 1), (12, .iload 2), (13, .iastore), (14, .aload 0), (15, .iload 3), (16, .invokevirtual 200), (19, .ireturn)]
theorem h_199_0 : chk (mt 199) 20 0 b_199_0 = true := by decide +kernel
def b_200_0 : List (Nat × Instr) := [(0, .aload 0), (1, .iconst 0), (2, .putfield 1201), (5, .aload 0), (6, .iconst 0), (7, .putfield 1232), (10, .aload 0), (11, .iconst 0), (12, .putfield 1251), (15, .iload 1), (16, .ireturn)]
theorem h_200_0 : chk (mt 200) 17 0 b_200_0 = true := by decide +kernel
def b_201_0 : List (Nat × Instr) := [(0, .aload 0), (1, .iconst 0), (2, .putfield 1200), (5, .iload 1), (6, .invokestatic 202), (9, .ifCond .eq 47), (12, .iload 2), (13, .invokestatic 197), (16, .ifCond .eq 47), (19, .iload 3), (20, .i2l), (21, .sipush 0), (22, .sipush 9999), (25, .invokestatic 193), (28, .ifCond .eq 47), (31, .aload 0), (32, .iconst 10), (34, .iconst 3), (35, .iload 1), (36, .imul), (37, .iadd), (38, .iload 2), (39, .iadd), (40, .iload 3), (41, .invokevirtual 199), (44, .goto 52)]
theorem h_201_0 : chk (mt 201) 47 0 b_201_0 = true := by decide +kernel
def b_201_47 : List (Nat × Instr) := [(47, .aload 0), (48, .iconst (-1)), (49, .invokevirtual 194)]
theorem h_201_47 : chk (mt 201) 52 47 b_201_47 = true := by decide +kernel
def b_201_52 : List (Nat × Instr) := [(52, .ireturn)]
theorem h_201_52 : chk (mt 201) 53 52 b_201_52 = true := by decide +kernel
def b_202_0 : List (Nat × Instr) := [(0, .iload 0), (1, .i2l), (2, .sipush 0), (3, .sipush 9), (6, .invokestatic 193), (9, .ireturn)]
theorem h_202_0 : chk (mt 202) 10 0 b_202_0 = true := by decide +kernel
def b_203_0 : List (Nat × Instr) := [(0, .aload 0), (1, .iconst 0), (2, .putfield 1200), (5, .iload 1), (6, .invokestatic 202), (9, .ifCond .eq 47), (12, .iload 2), (13, .i2l), (14, .sipush 0), (15, .sipush 2), (18, .invokestatic 193), (21, .ifCond .eq 47), (24, .iload 3), (25, .i2l), (26, .sipush 0), (27, .iload 2), (28, .iconst 2), (29, .if_icmp .ne 38), (32, .sipush 8), (35, .goto 41)]
theorem h_203_0 : chk (mt 203) 38 0 b_203_0 = true := by decide +kernel
def b_203_38 : List (Nat × Instr) := [(38, .sipush 999)]
theorem h_203_38 : chk (mt 203) 41 38 b_203_38 = true := by decide +kernel
def b_203_41 : List (Nat × Instr) := [(41, .invokestatic 193), (44, .ifCond .ne 53)]
theorem h_203_41 : chk (mt 203) 47 41 b_203_41 = true := by decide +kernel
def b_203_47 : List (Nat × Instr) := [(47, .aload 0), (48, .iconst (-1)), (49, .invokevirtual 194), (52, .ireturn)]
theorem h_203_47 : chk (mt 203) 53 47 b_203_47 = true := by decide +kernel
def b_203_53 : List (Nat × Instr) := [(53, .iload 2), (54, .iconst 2), (55, .if_icmp .ne 89), (58, .iload 3), (59, .ifCond .le 89), (62, .aload 0), (63, .getfield 1203), (66, .iconst 60), (68, .iload 1), (69, .iadd), (70, .iaload), (71, .ifCond .ne 89), (74, .aload 0), (75, .invokevirtual 204), (78, .iconst 5), (79, .if_icmp .ne 89), (82, .aload 0), (83, .iconst (-3)), (85, .invokevirtual 194), (88, .ireturn)]
theorem h_203_53 : chk (mt 203) 89 53 b_203_53 = true := by decide +kernel
def b_203_89 : List (Nat × Instr) := [(89, .aload 0), (90, .iconst 40), (92, .iconst 10), (94, .iload 2), (95, .imul), (96, .iadd), (97, .iload 1), (98, .iadd), (99, .iload 3), (100, .invokevirtual 199), (103, .ireturn)]
theorem h_203_89 : chk (mt 203) 104 89 b_203_89 = true := by decide +kernel
def b_204_0 : List (Nat × Instr) := [(0, .iconst 0), (1, .istore 1), (2, .iconst 0), (3, .istore 2)]
theorem h_204_0 : chk (mt 204) 4 0 b_204_0 = true := by decide +kernel
def b_204_4 : List (Nat × Instr) := [(4, .iload 2), (5, .iconst 10), (7, .if_icmp .ge 36), (10, .iload 1), (11, .aload 0), (12, .getfield 1203), (15, .iconst 60), (17, .iload 2), (18, .iadd), (19, .iaload), (20, .ifCond .le 27), (23, .iconst 1), (24, .goto 28)]
theorem h_204_4 : chk (mt 204) 27 4 b_204_4 = true := by decide +kernel
def b_204_27 : List (Nat × Instr) := [(27, .iconst 0)]
theorem h_204_27 : chk (mt 204) 28 27 b_204_27 = true := by decide +kernel
def b_204_28 : List (Nat × Instr) := [(28, .iadd), (29, .istore 1), (30, .iinc 2 1), (33, .goto 4)]
theorem h_204_28 : chk (mt 204) 36 28 b_204_28 = true := by decide +kernel
def b_204_36 : List (Nat × Instr) := [(36, .iload 1), (37, .ireturn)]
theorem h_204_36 : chk (mt 204) 38 36 b_204_36 = true := by decide +kernel
def b_205_0 : List (Nat × Instr) := [(0, .aload 0), (1, .iconst 0), (2, .putfield 1200), (5, .iload 1), (6, .i2l), (7, .sipush 0), (8, .sipush 15), (11, .invokestatic 193), (14, .ifCond .ne 23), (17, .aload 0), (18, .iconst (-1)), (19, .invokevirtual 194), (22, .ireturn)]
theorem h_205_0 : chk (mt 205) 23 0 b_205_0 = true := by decide +kernel
def b_205_23 : List (Nat × Instr) := [(23, .aload 0), (24, .getfield 1203), (27, .iconst 3), (28, .iaload), (29, .iconst 4), (30, .if_icmp .ne 40), (33, .aload 0), (34, .iconst (-5)), (36, .invokevirtual 194), (39, .ireturn)]
theorem h_205_23 : chk (mt 205) 40 23 b_205_23 = true := by decide +kernel
def b_205_40 : List (Nat × Instr) := [(40, .aload 0), (41, .getfield 1203), (44, .iconst 70), (46, .aload 0), (47, .getfield 1203), (50, .iconst 3), (51, .iaload), (52, .iadd), (53, .iload 1), (54, .iastore), (55, .aload 0), (56, .getfield 1203), (59, .iconst 3), (60, .dup2), (61, .iaload), (62, .iconst 1), (63, .iadd), (64, .iastore), (65, .aload 0), (66, .aload 0), (67, .getfield 1203), (70, .iconst 3), (71, .iaload), (72, .iconst 1), (73, .isub), (74, .invokevirtual 194), (77, .ireturn)]
theorem h_205_40 : chk (mt 205) 78 40 b_205_40 = true := by decide +kernel
def b_206_0 : List (Nat × Instr) := [(0, .aload 0), (1, .iconst 0), (2, .putfield 1200), (5, .iload 2), (6, .i2l), (7, .sipush 0), (8, .sipush 15), (11, .invokestatic 193), (14, .ifCond .ne 23), (17, .aload 0), (18, .iconst (-1)), (19, .invokevirtual 194), (22, .ireturn)]
theorem h_206_0 : chk (mt 206) 23 0 b_206_0 = true := by decide +kernel
def b_206_23 : List (Nat × Instr) := [(23, .iload 1), (24, .i2l), (25, .sipush 0), (26, .aload 0), (27, .getfield 1203), (30, .iconst 3), (31, .iaload), (32, .i2l), (33, .sipush 1), (34, .lsub), (35, .invokestatic 193), (38, .ifCond .eq 53), (41, .aload 0), (42, .iconst 70), (44, .iload 1), (45, .iadd), (46, .iload 2), (47, .invokevirtual 199), (50, .goto 59)]
theorem h_206_23 : chk (mt 206) 53 23 b_206_23 = true := by decide +kernel
def b_206_53 : List (Nat × Instr) := [(53, .aload 0), (54, .iconst (-2)), (56, .invokevirtual 194)]
theorem h_206_53 : chk (mt 206) 59 53 b_206_53 = true := by decide +kernel
def b_206_59 : List (Nat × Instr) := [(59, .ireturn)]
theorem h_206_59 : chk (mt 206) 60 59 b_206_59 = true := by decide +kernel
def b_207_0 : List (Nat × Instr) := [(0, .aload 0), (1, .iconst 0), (2, .putfield 1200), (5, .iload 1), (6, .i2l), (7, .sipush 0), (8, .sipush 1), (9, .invokestatic 193), (12, .ifCond .eq 48), (15, .iload 2), (16, .i2l), (17, .sipush 0), (18, .iload 1), (19, .ifCond .ne 28), (22, .sipush 99), (25, .goto 31)]
theorem h_207_0 : chk (mt 207) 28 0 b_207_0 = true := by decide +kernel
def b_207_28 : List (Nat × Instr) := [(28, .sipush 100)]
theorem h_207_28 : chk (mt 207) 31 28 b_207_28 = true := by decide +kernel
def b_207_31 : List (Nat × Instr) := [(31, .invokestatic 193), (34, .ifCond .eq 48), (37, .aload 0), (38, .iconst 4), (39, .iload 1), (40, .iadd), (41, .iload 2), (42, .invokevirtual 199), (45, .goto 53)]
theorem h_207_31 : chk (mt 207) 48 31 b_207_31 = true := by decide +kernel
def b_207_48 : List (Nat × Instr) := [(48, .aload 0), (49, .iconst (-1)), (50, .invokevirtual 194)]
theorem h_207_48 : chk (mt 207) 53 48 b_207_48 = true := by decide +kernel
def b_207_53 : List (Nat × Instr) := [(53, .ireturn)]
theorem h_207_53 : chk (mt 207) 54 53 b_207_53 = true := by decide +kernel
def b_208_0 : List (Nat × Instr) := [(0, .aload 0), (1, .iconst 0), (2, .putfield 1200), (5, .aload 0), (6, .getfield 1207), (9, .iconst 20), (11, .iadd), (12, .iconst 400), (15, .if_icmp .le 20), (18, .iconst (-1)), (19, .ireturn)]
theorem h_208_0 : chk (mt 208) 20 0 b_208_0 = true := by decide +kernel
def b_208_20 : List (Nat × Instr) := [(20, .aload 0), (21, .iload 1), (22, .invokevirtual 209), (25, .aload 0), (26, .iload 2), (27, .invokevirtual 209), (30, .aload 0), (31, .iload 3), (32, .invokevirtual 209), (35, .aload 0), (36, .iload 4), (38, .invokevirtual 209), (41, .aload 0), (42, .iload 5), (44, .invokevirtual 209), (47, .aload 0), (48, .getfield 1207), (51, .ireturn)]
theorem h_208_20 : chk (mt 208) 52 20 b_208_20 = true := by decide +kernel
def b_209_0 : List (Nat × Instr) := [(0, .iconst 24), (2, .istore 2)]
theorem h_209_0 : chk (mt 209) 3 0 b_209_0 = true := by decide +kernel
def b_209_3 : List (Nat × Instr) := [(3, .iload 2), (4, .ifCond .lt 39), (7, .aload 0), (8, .getfield 1206), (11, .aload 0), (12, .getfield 1207), (15, .iload 1), (16, .iload 2), (17, .ishr), (18, .iconst 255), (21, .iand), (22, .iastore), (23, .aload 0), (24, .dup), (25, .getfield 1207), (28, .iconst 1), (29, .iadd), (30, .putfield 1207), (33, .iinc 2 (-8)), (36, .goto 3)]
theorem h_209_3 : chk (mt 209) 39 3 b_209_3 = true := by decide +kernel
def b_209_39 : List (Nat × Instr) := [(39, .return_)]
theorem h_209_39 : chk (mt 209) 40 39 b_209_39 = true := by decide +kernel
def b_210_0 : List (Nat × Instr) := [(0, .aload 0), (1, .iconst 0), (2, .putfield 1200), (5, .iload 1), (6, .ifCond .lt 17), (9, .iload 1), (10, .aload 0), (11, .getfield 1207), (14, .if_icmp .le 19)]
theorem h_210_0 : chk (mt 210) 17 0 b_210_0 = true := by decide +kernel
def b_210_17 : List (Nat × Instr) := [(17, .iconst (-1)), (18, .ireturn)]
theorem h_210_17 : chk (mt 210) 19 17 b_210_17 = true := by decide +kernel
def b_210_19 : List (Nat × Instr) := [(19, .aload 0), (20, .iload 1), (21, .putfield 1207), (24, .iload 1), (25, .ireturn)]
theorem h_210_19 : chk (mt 210) 26 19 b_210_19 = true := by decide +kernel
def b_211_0 : List (Nat × Instr) := [(0, .aload 0), (1, .iconst 0), (2, .putfield 1200), (5, .aload 0), (6, .getfield 1212), (9, .ireturn)]
theorem h_211_0 : chk (mt 211) 10 0 b_211_0 = true := by decide +kernel
def b_212_0 : List (Nat × Instr) := [(0, .aload 0), (1, .iconst 0), (2, .putfield 1200), (5, .aload 0), (6, .invokevirtual 213), (9, .aload 0), (10, .iconst 0), (11, .putfield 1214), (14, .aload 0), (15, .iconst 0), (16, .putfield 1216), (19, .aload 0), (20, .iconst 0), (21, .putfield 1219), (24, .aload 0), (25, .iconst 0), (26, .putfield 1226), (29, .aload 0), (30, .invokevirtual 217)]
theorem h_212_0 : chk (mt 212) 33 0 b_212_0 = true := by decide +kernel
def b_212_33 : List (Nat × Instr) := [(33, .aload 0), (34, .getfield 1213), (37, .ifCond .ne 60), (40, .aload 0), (41, .iconst 59), (43, .invokevirtual 226), (46, .ifCond .eq 60), (49, .aload 0), (50, .invokevirtual 214), (53, .aload 0), (54, .invokevirtual 217), (57, .goto 33)]
theorem h_212_33 : chk (mt 212) 60 33 b_212_33 = true := by decide +kernel
def b_212_60 : List (Nat × Instr) := [(60, .aload 0), (61, .getfield 1213), (64, .ifCond .ne 79), (67, .aload 0), (68, .getfield 1210), (71, .ifCond .eq 79), (74, .aload 0), (75, .iconst 0), (76, .invokevirtual 219)]
theorem h_212_60 : chk (mt 212) 79 60 b_212_60 = true := by decide +kernel
def b_212_79 : List (Nat × Instr) := [(79, .aload 0), (80, .iconst 0), (81, .putfield 1207), (84, .aload 0), (85, .getfield 1213), (88, .ifCond .eq 98), (91, .aload 0), (92, .iconst (-6)), (94, .invokevirtual 194), (97, .ireturn)]
theorem h_212_79 : chk (mt 212) 98 79 b_212_79 = true := by decide +kernel
def b_212_98 : List (Nat × Instr) := [(98, .aload 0), (99, .getfield 1203), (102, .iconst 8), (104, .aload 0), (105, .getfield 1214), (108, .iastore), (109, .aload 0), (110, .getfield 1203), (113, .iconst 9), (115, .aload 0), (116, .getfield 1226), (119, .iastore), (120, .iconst 0), (121, .istore 1)]
theorem h_212_98 : chk (mt 212) 122 98 b_212_98 = true := by decide +kernel
def b_212_122 : List (Nat × Instr) := [(122, .iload 1), (123, .iconst 11), (125, .aload 0), (126, .getfield 1226), (129, .imul), (130, .if_icmp .ge 155), (133, .aload 0), (134, .getfield 1203), (137, .iconst 290), (140, .iload 1), (141, .iadd), (142, .aload 0), (143, .getfield 1225), (146, .iload 1), (147, .iaload), (148, .iastore), (149, .iinc 1 1), (152, .goto 122)]
theorem h_212_122 : chk (mt 212) 155 122 b_212_122 = true := by decide +kernel
def b_212_155 : List (Nat × Instr) := [(155, .aload 0), (156, .getfield 1203), (159, .iconst 471), (162, .aload 0), (163, .getfield 1214), (166, .iastore), (167, .iconst 0), (168, .istore 1)]
theorem h_212_155 : chk (mt 212) 169 155 b_212_155 = true := by decide +kernel
def b_212_169 : List (Nat × Instr) := [(169, .iload 1), (170, .iconst 8), (172, .aload 0), (173, .getfield 1214), (176, .imul), (177, .if_icmp .ge 202), (180, .aload 0), (181, .getfield 1203), (184, .iconst 472), (187, .iload 1), (188, .iadd), (189, .aload 0), (190, .getfield 1215), (193, .iload 1), (194, .iaload), (195, .iastore), (196, .iinc 1 1), (199, .goto 169)]
theorem h_212_169 : chk (mt 212) 202 169 b_212_169 = true := by decide +kernel
def b_212_202 : List (Nat × Instr) := [(202, .iconst 0), (203, .istore 1)]
theorem h_212_202 : chk (mt 212) 204 202 b_212_202 = true := by decide +kernel
def b_212_204 : List (Nat × Instr) := [(204, .iload 1), (205, .aload 0), (206, .getfield 1216), (209, .if_icmp .ge 256), (212, .aload 0), (213, .getfield 1203), (216, .iconst 664), (219, .iconst 2), (220, .iload 1), (221, .imul), (222, .iadd), (223, .aload 0), (224, .getfield 1217), (227, .iload 1), (228, .iaload), (229, .iastore), (230, .aload 0), (231, .getfield 1203), (234, .iconst 664), (237, .iconst 2), (238, .iload 1), (239, .imul), (240, .iadd), (241, .iconst 1), (242, .iadd), (243, .aload 0), (244, .getfield 1218), (247, .iload 1), (248, .iaload), (249, .iastore), (250, .iinc 1 1), (253, .goto 204)]
theorem h_212_204 : chk (mt 212) 256 204 b_212_204 = true := by decide +kernel
def b_212_256 : List (Nat × Instr) := [(256, .aload 0), (257, .aload 0), (258, .getfield 1214), (261, .invokevirtual 194), (264, .ireturn)]
theorem h_212_256 : chk (mt 212) 265 256 b_212_256 = true := by decide +kernel
def b_213_0 : List (Nat × Instr) := [(0, .aload 0), (1, .iconst 0), (2, .putfield 1209), (5, .aload 0), (6, .iconst 0), (7, .putfield 1213), (10, .aload 0), (11, .iconst (-1)), (12, .putfield 1212), (15, .aload 0), (16, .invokevirtual 214), (19, .return_)]
theorem h_213_0 : chk (mt 213) 20 0 b_213_0 = true := by decide +kernel
def b_214_0 : List (Nat × Instr) := [(0, .aload 0), (1, .aload 0), (2, .getfield 1209), (5, .putfield 1208)]
theorem h_214_0 : chk (mt 214) 8 0 b_214_0 = true := by decide +kernel
def b_214_8 : List (Nat × Instr) := [(8, .aload 0), (9, .getfield 1208), (12, .aload 0), (13, .getfield 1207), (16, .if_icmp .ge 46), (19, .aload 0), (20, .getfield 1206), (23, .aload 0), (24, .getfield 1208), (27, .iaload), (28, .iconst 32), (30, .if_icmp .ne 46), (33, .aload 0), (34, .dup), (35, .getfield 1208), (38, .iconst 1), (39, .iadd), (40, .putfield 1208), (43, .goto 8)]
theorem h_214_8 : chk (mt 214) 46 8 b_214_8 = true := by decide +kernel
def b_214_46 : List (Nat × Instr) := [(46, .aload 0), (47, .aload 0), (48, .getfield 1208), (51, .putfield 1209), (54, .aload 0), (55, .sipush 0), (56, .putfield 1211), (59, .aload 0), (60, .aload 0), (61, .getfield 1208), (64, .aload 0), (65, .getfield 1207), (68, .if_icmp .ne 75), (71, .iconst 0), (72, .goto 114)]
theorem h_214_46 : chk (mt 214) 75 46 b_214_46 = true := by decide +kernel
def b_214_75 : List (Nat × Instr) := [(75, .aload 0), (76, .getfield 1206), (79, .aload 0), (80, .getfield 1208), (83, .iaload), (84, .invokestatic 215), (87, .ifCond .eq 94), (90, .iconst 1), (91, .goto 114)]
theorem h_214_75 : chk (mt 214) 94 75 b_214_75 = true := by decide +kernel
def b_214_94 : List (Nat × Instr) := [(94, .aload 0), (95, .getfield 1206), (98, .aload 0), (99, .getfield 1208), (102, .iaload), (103, .invokestatic 216), (106, .ifCond .eq 113), (109, .iconst 2), (110, .goto 114)]
theorem h_214_94 : chk (mt 214) 113 94 b_214_94 = true := by decide +kernel
def b_214_113 : List (Nat × Instr) := [(113, .iconst 3)]
theorem h_214_113 : chk (mt 214) 114 113 b_214_113 = true := by decide +kernel
def b_214_114 : List (Nat × Instr) := [(114, .putfield 1210), (117, .aload 0), (118, .getfield 1210), (121, .iconst 3), (122, .if_icmp .ne 149), (125, .aload 0), (126, .aload 0), (127, .getfield 1206), (130, .aload 0), (131, .getfield 1208), (134, .iaload), (135, .i2l), (136, .putfield 1211), (139, .aload 0), (140, .dup), (141, .getfield 1209), (144, .iconst 1), (145, .iadd), (146, .putfield 1209)]
theorem h_214_114 : chk (mt 214) 149 114 b_214_114 = true := by decide +kernel
def b_214_149 : List (Nat × Instr) := [(149, .aload 0), (150, .getfield 1210), (153, .iconst 1), (154, .if_icmp .ne 243), (157, .aload 0), (158, .getfield 1209), (161, .aload 0), (162, .getfield 1207), (165, .if_icmp .ge 243), (168, .aload 0), (169, .getfield 1206), (172, .aload 0), (173, .getfield 1209), (176, .iaload), (177, .invokestatic 215), (180, .ifCond .eq 243), (183, .aload 0), (184, .aload 0), (185, .getfield 1209), (188, .aload 0), (189, .getfield 1208), (192, .isub), (193, .iconst 10), (195, .if_icmp .ge 224), (198, .aload 0), (199, .getfield 1211), (202, .sipush 32), (205, .lmul), (206, .aload 0), (207, .getfield 1206), (210, .aload 0), (211, .getfield 1209), (214, .iaload), (215, .i2l), (216, .ladd), (217, .sipush 96), (220, .lsub), (221, .goto 227)]
theorem h_214_149 : chk (mt 214) 224 149 b_214_149 = true := by decide +kernel
def b_214_224 : List (Nat × Instr) := [(224, .sipush (-1))]
theorem h_214_224 : chk (mt 214) 227 224 b_214_224 = true := by decide +kernel
def b_214_227 : List (Nat × Instr) := [(227, .putfield 1211), (230, .aload 0), (231, .dup), (232, .getfield 1209), (235, .iconst 1), (236, .iadd), (237, .putfield 1209), (240, .goto 149)]
theorem h_214_227 : chk (mt 214) 243 227 b_214_227 = true := by decide +kernel
def b_214_243 : List (Nat × Instr) := [(243, .aload 0), (244, .getfield 1210), (247, .iconst 2), (248, .if_icmp .ne 335), (251, .aload 0), (252, .getfield 1209), (255, .aload 0), (256, .getfield 1207), (259, .if_icmp .ge 335), (262, .aload 0), (263, .getfield 1206), (266, .aload 0), (267, .getfield 1209), (270, .iaload), (271, .invokestatic 216), (274, .ifCond .eq 335), (277, .aload 0), (278, .aload 0), (279, .getfield 1211), (282, .sipush 1000000), (285, .lcmp), (286, .ifCond .le 296), (289, .aload 0), (290, .getfield 1211), (293, .goto 319)]
theorem h_214_243 : chk (mt 214) 296 243 b_214_243 = true := by decide +kernel
def b_214_296 : List (Nat × Instr) := [(296, .aload 0), (297, .getfield 1211), (300, .sipush 10), (303, .lmul), (304, .aload 0), (305, .getfield 1206), (308, .aload 0), (309, .getfield 1209), (312, .iaload), (313, .i2l), (314, .ladd), (315, .sipush 48), (318, .lsub)]
theorem h_214_296 : chk (mt 214) 319 296 b_214_296 = true := by decide +kernel
def b_214_319 : List (Nat × Instr) := [(319, .putfield 1211), (322, .aload 0), (323, .dup), (324, .getfield 1209), (327, .iconst 1), (328, .iadd), (329, .putfield 1209), (332, .goto 243)]
theorem h_214_319 : chk (mt 214) 335 319 b_214_319 = true := by decide +kernel
def b_214_335 : List (Nat × Instr) := [(335, .return_)]
theorem h_214_335 : chk (mt 214) 336 335 b_214_335 = true := by decide +kernel
def b_215_0 : List (Nat × Instr) := [(0, .iload 0), (1, .iconst 97), (3, .if_icmp .lt 16), (6, .iload 0), (7, .iconst 122), (9, .if_icmp .gt 16), (12, .iconst 1), (13, .goto 17)]
theorem h_215_0 : chk (mt 215) 16 0 b_215_0 = true := by decide +kernel
def b_215_16 : List (Nat × Instr) := [(16, .iconst 0)]
theorem h_215_16 : chk (mt 215) 17 16 b_215_16 = true := by decide +kernel
def b_215_17 : List (Nat × Instr) := [(17, .ireturn)]
theorem h_215_17 : chk (mt 215) 18 17 b_215_17 = true := by decide +kernel
def b_216_0 : List (Nat × Instr) := [(0, .iload 0), (1, .iconst 48), (3, .if_icmp .lt 16), (6, .iload 0), (7, .iconst 57), (9, .if_icmp .gt 16), (12, .iconst 1), (13, .goto 17)]
theorem h_216_0 : chk (mt 216) 16 0 b_216_0 = true := by decide +kernel
def b_216_16 : List (Nat × Instr) := [(16, .iconst 0)]
theorem h_216_16 : chk (mt 216) 17 16 b_216_16 = true := by decide +kernel
def b_216_17 : List (Nat × Instr) := [(17, .ireturn)]
theorem h_216_17 : chk (mt 216) 18 17 b_216_17 = true := by decide +kernel
def b_217_0 : List (Nat × Instr) := [(0, .aload 0), (1, .sipush 3764), (4, .invokevirtual 218), (7, .ifCond .eq 14), (10, .iconst 2), (11, .goto 43)]
theorem h_217_0 : chk (mt 217) 14 0 b_217_0 = true := by decide +kernel
def b_217_14 : List (Nat × Instr) := [(14, .aload 0), (15, .sipush 14276022451), (18, .invokevirtual 218), (21, .ifCond .eq 28), (24, .iconst 0), (25, .goto 43)]
theorem h_217_14 : chk (mt 217) 28 14 b_217_14 = true := by decide +kernel
def b_217_28 : List (Nat × Instr) := [(28, .aload 0), (29, .sipush 20293004), (32, .invokevirtual 218), (35, .ifCond .eq 42), (38, .iconst 1), (39, .goto 43)]
theorem h_217_28 : chk (mt 217) 42 28 b_217_28 = true := by decide +kernel
def b_217_42 : List (Nat × Instr) := [(42, .iconst (-1))]
theorem h_217_42 : chk (mt 217) 43 42 b_217_42 = true := by decide +kernel
def b_217_43 : List (Nat × Instr) := [(43, .istore 1), (44, .aload 0), (45, .getfield 1213), (48, .ifCond .ne 84), (51, .iload 1), (52, .iconst (-1)), (53, .if_icmp .eq 79), (56, .aload 0), (57, .getfield 1214), (60, .iconst 24), (62, .if_icmp .eq 79), (65, .iload 1), (66, .iconst 2), (67, .if_icmp .ne 84), (70, .aload 0), (71, .getfield 1226), (74, .iconst 16), (76, .if_icmp .ne 84)]
theorem h_217_43 : chk (mt 217) 79 43 b_217_43 = true := by decide +kernel
def b_217_79 : List (Nat × Instr) := [(79, .aload 0), (80, .iconst 0), (81, .invokevirtual 219)]
theorem h_217_79 : chk (mt 217) 84 79 b_217_79 = true := by decide +kernel
def b_217_84 : List (Nat × Instr) := [(84, .aload 0), (85, .getfield 1213), (88, .ifCond .eq 92), (91, .return_)]
theorem h_217_84 : chk (mt 217) 92 84 b_217_84 = true := by decide +kernel
def b_217_92 : List (Nat × Instr) := [(92, .aload 0), (93, .invokevirtual 214), (96, .iconst 8), (98, .aload 0), (99, .getfield 1214), (102, .imul), (103, .istore 2), (104, .iconst 0), (105, .istore 3)]
theorem h_217_92 : chk (mt 217) 106 92 b_217_92 = true := by decide +kernel
def b_217_106 : List (Nat × Instr) := [(106, .iload 3), (107, .iconst 8), (109, .if_icmp .ge 127), (112, .aload 0), (113, .getfield 1215), (116, .iload 2), (117, .iload 3), (118, .iadd), (119, .iconst 0), (120, .iastore), (121, .iinc 3 1), (124, .goto 106)]
theorem h_217_106 : chk (mt 217) 127 106 b_217_106 = true := by decide +kernel
def b_217_127 : List (Nat × Instr) := [(127, .aload 0), (128, .getfield 1215), (131, .iload 2), (132, .iload 1), (133, .iastore), (134, .aload 0), (135, .getfield 1215), (138, .iload 2), (139, .iconst 1), (140, .iadd), (141, .aload 0), (142, .getfield 1226), (145, .iastore), (146, .aload 0), (147, .dup), (148, .getfield 1214), (151, .iconst 1), (152, .iadd), (153, .putfield 1214), (156, .aload 0), (157, .getfield 1215), (160, .iload 2), (161, .iconst 3), (162, .iadd), (163, .aload 0), (164, .getfield 1216), (167, .iastore), (168, .iload 1), (169, .iconst 2), (170, .if_icmp .ne 180), (173, .aload 0), (174, .invokevirtual 220), (177, .goto 185)]
theorem h_217_127 : chk (mt 217) 180 127 b_217_127 = true := by decide +kernel
def b_217_180 : List (Nat × Instr) := [(180, .aload 0), (181, .iconst 0), (182, .invokevirtual 223)]
theorem h_217_180 : chk (mt 217) 185 180 b_217_180 = true := by decide +kernel
def b_217_185 : List (Nat × Instr) := [(185, .aload 0), (186, .getfield 1215), (189, .iload 2), (190, .iconst 4), (191, .iadd), (192, .aload 0), (193, .getfield 1216), (196, .iastore), (197, .aload 0), (198, .getfield 1215), (201, .iload 2), (202, .iconst 5), (203, .iadd), (204, .aload 0), (205, .getfield 1216), (208, .iastore), (209, .aload 0), (210, .getfield 1213), (213, .ifCond .ne 235), (216, .aload 0), (217, .sipush 294), (220, .invokevirtual 218), (223, .ifCond .eq 235), (226, .aload 0), (227, .invokevirtual 214), (230, .aload 0), (231, .iconst 1), (232, .invokevirtual 223)]
theorem h_217_185 : chk (mt 217) 235 185 b_217_185 = true := by decide +kernel
def b_217_235 : List (Nat × Instr) := [(235, .aload 0), (236, .getfield 1215), (239, .iload 2), (240, .iconst 6), (242, .iadd), (243, .aload 0), (244, .getfield 1216), (247, .iastore), (248, .return_)]
theorem h_217_235 : chk (mt 217) 249 235 b_217_235 = true := by decide +kernel
def b_218_0 : List (Nat × Instr) := [(0, .aload 0), (1, .getfield 1210), (4, .iconst 1), (5, .if_icmp .ne 21), (8, .aload 0), (9, .getfield 1211), (12, .lload 1), (13, .lcmp), (14, .ifCond .ne 21), (17, .iconst 1), (18, .goto 22)]
theorem h_218_0 : chk (mt 218) 21 0 b_218_0 = true := by decide +kernel
def b_218_21 : List (Nat × Instr) := [(21, .iconst 0)]
theorem h_218_21 : chk (mt 218) 22 21 b_218_21 = true := by decide +kernel
def b_218_22 : List (Nat × Instr) := [(22, .ireturn)]
theorem h_218_22 : chk (mt 218) 23 22 b_218_22 = true := by decide +kernel
def b_219_0 : List (Nat × Instr) := [(0, .aload 0), (1, .getfield 1213), (4, .ifCond .ne 24), (7, .iload 1), (8, .ifCond .ne 24), (11, .aload 0), (12, .iconst 1), (13, .putfield 1213), (16, .aload 0), (17, .aload 0), (18, .getfield 1208), (21, .putfield 1212)]
theorem h_219_0 : chk (mt 219) 24 0 b_219_0 = true := by decide +kernel
def b_219_24 : List (Nat × Instr) := [(24, .aload 0), (25, .getfield 1213), (28, .ifCond .ne 35), (31, .aload 0), (32, .invokevirtual 214)]
theorem h_219_24 : chk (mt 219) 35 24 b_219_24 = true := by decide +kernel
def b_219_35 : List (Nat × Instr) := [(35, .return_)]
theorem h_219_35 : chk (mt 219) 36 35 b_219_35 = true := by decide +kernel
def b_220_0 : List (Nat × Instr) := [(0, .iconst 11), (2, .aload 0), (3, .getfield 1226), (6, .imul), (7, .istore 1), (8, .iconst 0), (9, .istore 2)]
theorem h_220_0 : chk (mt 220) 10 0 b_220_0 = true := by decide +kernel
def b_220_10 : List (Nat × Instr) := [(10, .iload 2), (11, .iconst 11), (13, .if_icmp .ge 31), (16, .aload 0), (17, .getfield 1225), (20, .iload 1), (21, .iload 2), (22, .iadd), (23, .iconst 0), (24, .iastore), (25, .iinc 2 1), (28, .goto 10)]
theorem h_220_10 : chk (mt 220) 31 10 b_220_10 = true := by decide +kernel
def b_220_31 : List (Nat × Instr) := [(31, .aload 0), (32, .sipush 0), (33, .sipush 9), (36, .invokevirtual 221), (39, .istore 2), (40, .aload 0), (41, .getfield 1225), (44, .iload 1), (45, .iload 2), (46, .iastore), (47, .aload 0), (48, .aload 0), (49, .sipush 655), (52, .invokevirtual 218), (55, .invokevirtual 219), (58, .aload 0), (59, .iload 1), (60, .iload 2), (61, .invokevirtual 222)]
theorem h_220_31 : chk (mt 220) 64 31 b_220_31 = true := by decide +kernel
def b_220_64 : List (Nat × Instr) := [(64, .aload 0), (65, .getfield 1213), (68, .ifCond .ne 94), (71, .aload 0), (72, .sipush 1476), (75, .invokevirtual 218), (78, .ifCond .eq 94), (81, .aload 0), (82, .invokevirtual 214), (85, .aload 0), (86, .iload 1), (87, .iload 2), (88, .invokevirtual 222), (91, .goto 64)]
theorem h_220_64 : chk (mt 220) 94 64 b_220_64 = true := by decide +kernel
def b_220_94 : List (Nat × Instr) := [(94, .aload 0), (95, .dup), (96, .getfield 1226), (99, .iconst 1), (100, .iadd), (101, .putfield 1226), (104, .return_)]
theorem h_220_94 : chk (mt 220) 105 94 b_220_94 = true := by decide +kernel
def b_221_0 : List (Nat × Instr) := [(0, .aload 0), (1, .getfield 1211), (4, .l2i), (5, .istore 5), (7, .aload 0), (8, .aload 0), (9, .getfield 1210), (12, .iconst 2), (13, .if_icmp .ne 32), (16, .aload 0), (17, .getfield 1211), (20, .lload 1), (21, .lload 3), (22, .invokestatic 193), (25, .ifCond .eq 32), (28, .iconst 1), (29, .goto 33)]
theorem h_221_0 : chk (mt 221) 32 0 b_221_0 = true := by decide +kernel
def b_221_32 : List (Nat × Instr) := [(32, .iconst 0)]
theorem h_221_32 : chk (mt 221) 33 32 b_221_32 = true := by decide +kernel
def b_221_33 : List (Nat × Instr) := [(33, .invokevirtual 219), (36, .iload 5), (38, .ireturn)]
theorem h_221_33 : chk (mt 221) 39 33 b_221_33 = true := by decide +kernel
def b_222_0 : List (Nat × Instr) := [(0, .aload 0), (1, .sipush 1), (2, .sipush 9), (5, .invokevirtual 221), (8, .istore 3), (9, .aload 0), (10, .iload 2), (11, .i2l), (12, .sipush 1), (13, .ladd), (14, .sipush 9), (17, .invokevirtual 221), (20, .istore 4), (22, .aload 0), (23, .getfield 1213), (26, .ifCond .ne 44), (29, .aload 0), (30, .getfield 1225), (33, .iload 1), (34, .iconst 1), (35, .iadd), (36, .iload 4), (38, .iadd), (39, .dup2), (40, .iaload), (41, .iload 3), (42, .iadd), (43, .iastore)]
theorem h_222_0 : chk (mt 222) 44 0 b_222_0 = true := by decide +kernel
def b_222_44 : List (Nat × Instr) := [(44, .return_)]
theorem h_222_44 : chk (mt 222) 45 44 b_222_44 = true := by decide +kernel
def b_223_0 : List (Nat × Instr) := [(0, .aload 0), (1, .iconst 0), (2, .putfield 1222), (5, .aload 0), (6, .iconst 0), (7, .putfield 1223), (10, .iload 1), (11, .ifCond .eq 18), (14, .iconst 0), (15, .goto 19)]
theorem h_223_0 : chk (mt 223) 18 0 b_223_0 = true := by decide +kernel
def b_223_18 : List (Nat × Instr) := [(18, .iconst 1)]
theorem h_223_18 : chk (mt 223) 19 18 b_223_18 = true := by decide +kernel
def b_223_19 : List (Nat × Instr) := [(19, .istore 2)]
theorem h_223_19 : chk (mt 223) 20 19 b_223_19 = true := by decide +kernel
def b_223_20 : List (Nat × Instr) := [(20, .aload 0), (21, .getfield 1213), (24, .ifCond .ne 76), (27, .iload 2), (28, .iconst 4), (29, .if_icmp .eq 76), (32, .iload 2), (33, .ifCond .ne 43), (36, .aload 0), (37, .invokevirtual 224), (40, .goto 72)]
theorem h_223_20 : chk (mt 223) 43 20 b_223_20 = true := by decide +kernel
def b_223_43 : List (Nat × Instr) := [(43, .iload 2), (44, .iconst 1), (45, .if_icmp .ne 55), (48, .aload 0), (49, .invokevirtual 228), (52, .goto 72)]
theorem h_223_43 : chk (mt 223) 55 43 b_223_43 = true := by decide +kernel
def b_223_55 : List (Nat × Instr) := [(55, .iload 2), (56, .iconst 3), (57, .if_icmp .ne 68), (60, .aload 0), (61, .iload 1), (62, .invokevirtual 232), (65, .goto 72)]
theorem h_223_55 : chk (mt 223) 68 55 b_223_55 = true := by decide +kernel
def b_223_68 : List (Nat × Instr) := [(68, .aload 0), (69, .invokevirtual 237)]
theorem h_223_68 : chk (mt 223) 72 68 b_223_68 = true := by decide +kernel
def b_223_72 : List (Nat × Instr) := [(72, .istore 2), (73, .goto 20)]
theorem h_223_72 : chk (mt 223) 76 72 b_223_72 = true := by decide +kernel
def b_223_76 : List (Nat × Instr) := [(76, .aload 0), (77, .iconst 1), (78, .invokevirtual 234), (81, .return_)]
theorem h_223_76 : chk (mt 223) 82 76 b_223_76 = true := by decide +kernel
def b_224_0 : List (Nat × Instr) := [(0, .aload 0), (1, .sipush 14836), (4, .invokevirtual 218), (7, .ifCond .eq 23), (10, .aload 0), (11, .iconst 27), (13, .iconst 0), (14, .invokevirtual 225), (17, .aload 0), (18, .invokevirtual 214), (21, .iconst 0), (22, .ireturn)]
theorem h_224_0 : chk (mt 224) 23 0 b_224_0 = true := by decide +kernel
def b_224_23 : List (Nat × Instr) := [(23, .aload 0), (24, .iconst 40), (26, .invokevirtual 226), (29, .ifCond .eq 40), (32, .aload 0), (33, .iconst 30), (35, .invokevirtual 227), (38, .iconst 0), (39, .ireturn)]
theorem h_224_23 : chk (mt 224) 40 23 b_224_23 = true := by decide +kernel
def b_224_40 : List (Nat × Instr) := [(40, .aload 0), (41, .invokevirtual 228), (44, .ireturn)]
theorem h_224_40 : chk (mt 224) 45 40 b_224_40 = true := by decide +kernel
def b_225_0 : List (Nat × Instr) := [(0, .aload 0), (1, .getfield 1220), (4, .aload 0), (5, .getfield 1222), (8, .iload 1), (9, .iastore), (10, .aload 0), (11, .getfield 1221), (14, .aload 0), (15, .getfield 1222), (18, .iload 2), (19, .iastore), (20, .aload 0), (21, .dup), (22, .getfield 1222), (25, .iconst 1), (26, .iadd), (27, .putfield 1222), (30, .return_)]
theorem h_225_0 : chk (mt 225) 31 0 b_225_0 = true := by decide +kernel
def b_226_0 : List (Nat × Instr) := [(0, .aload 0), (1, .getfield 1210), (4, .iconst 3), (5, .if_icmp .ne 22), (8, .aload 0), (9, .getfield 1211), (12, .iload 1), (13, .i2l), (14, .lcmp), (15, .ifCond .ne 22), (18, .iconst 1), (19, .goto 23)]
theorem h_226_0 : chk (mt 226) 22 0 b_226_0 = true := by decide +kernel
def b_226_22 : List (Nat × Instr) := [(22, .iconst 0)]
theorem h_226_22 : chk (mt 226) 23 22 b_226_22 = true := by decide +kernel
def b_226_23 : List (Nat × Instr) := [(23, .ireturn)]
theorem h_226_23 : chk (mt 226) 24 23 b_226_23 = true := by decide +kernel
def b_227_0 : List (Nat × Instr) := [(0, .aload 0), (1, .aload 0), (2, .getfield 1223), (5, .iconst 8), (7, .if_icmp .ge 14), (10, .iconst 1), (11, .goto 15)]
theorem h_227_0 : chk (mt 227) 14 0 b_227_0 = true := by decide +kernel
def b_227_14 : List (Nat × Instr) := [(14, .iconst 0)]
theorem h_227_14 : chk (mt 227) 15 14 b_227_14 = true := by decide +kernel
def b_227_15 : List (Nat × Instr) := [(15, .invokevirtual 219), (18, .aload 0), (19, .getfield 1213), (22, .ifCond .ne 41), (25, .aload 0), (26, .dup), (27, .getfield 1223), (30, .iconst 1), (31, .iadd), (32, .putfield 1223), (35, .aload 0), (36, .iload 1), (37, .iconst 0), (38, .invokevirtual 225)]
theorem h_227_15 : chk (mt 227) 41 15 b_227_15 = true := by decide +kernel
def b_227_41 : List (Nat × Instr) := [(41, .return_)]
theorem h_227_41 : chk (mt 227) 42 41 b_227_41 = true := by decide +kernel
def b_228_0 : List (Nat × Instr) := [(0, .aload 0), (1, .iconst 91), (3, .invokevirtual 226), (6, .ifCond .eq 17), (9, .aload 0), (10, .iconst 31), (12, .invokevirtual 227), (15, .iconst 1), (16, .ireturn)]
theorem h_228_0 : chk (mt 228) 17 0 b_228_0 = true := by decide +kernel
def b_228_17 : List (Nat × Instr) := [(17, .aload 0), (18, .invokevirtual 229), (21, .istore 1), (22, .aload 0), (23, .getfield 1210), (26, .iconst 2), (27, .if_icmp .ne 45), (30, .aload 0), (31, .getfield 1211), (34, .sipush 1000), (37, .lcmp), (38, .ifCond .gt 45), (41, .iconst 1), (42, .goto 46)]
theorem h_228_17 : chk (mt 228) 45 17 b_228_17 = true := by decide +kernel
def b_228_45 : List (Nat × Instr) := [(45, .iconst 0)]
theorem h_228_45 : chk (mt 228) 46 45 b_228_45 = true := by decide +kernel
def b_228_46 : List (Nat × Instr) := [(46, .istore 2), (47, .aload 0), (48, .iload 1), (49, .iconst (-1)), (50, .if_icmp .ne 57), (53, .iload 2), (54, .ifCond .eq 61)]
theorem h_228_46 : chk (mt 228) 57 46 b_228_46 = true := by decide +kernel
def b_228_57 : List (Nat × Instr) := [(57, .iconst 1), (58, .goto 62)]
theorem h_228_57 : chk (mt 228) 61 57 b_228_57 = true := by decide +kernel
def b_228_61 : List (Nat × Instr) := [(61, .iconst 0)]
theorem h_228_61 : chk (mt 228) 62 61 b_228_61 = true := by decide +kernel
def b_228_62 : List (Nat × Instr) := [(62, .iload 1), (63, .iconst (-1)), (64, .if_icmp .ne 71), (67, .iconst 0), (68, .goto 72)]
theorem h_228_62 : chk (mt 228) 71 62 b_228_62 = true := by decide +kernel
def b_228_71 : List (Nat × Instr) := [(71, .iload 1)]
theorem h_228_71 : chk (mt 228) 72 71 b_228_71 = true := by decide +kernel
def b_228_72 : List (Nat × Instr) := [(72, .iload 2), (73, .ifCond .eq 84), (76, .aload 0), (77, .getfield 1211), (80, .l2i), (81, .goto 85)]
theorem h_228_72 : chk (mt 228) 84 72 b_228_72 = true := by decide +kernel
def b_228_84 : List (Nat × Instr) := [(84, .iconst 0)]
theorem h_228_84 : chk (mt 228) 85 84 b_228_84 = true := by decide +kernel
def b_228_85 : List (Nat × Instr) := [(85, .invokevirtual 230), (88, .iconst 3), (89, .ireturn)]
theorem h_228_85 : chk (mt 228) 90 85 b_228_85 = true := by decide +kernel
def b_229_0 : List (Nat × Instr) := [(0, .iconst (-1)), (1, .istore 1), (2, .iconst 0), (3, .istore 2)]
theorem h_229_0 : chk (mt 229) 4 0 b_229_0 = true := by decide +kernel
def b_229_4 : List (Nat × Instr) := [(4, .iload 2), (5, .iconst 5), (6, .if_icmp .ge 36), (9, .aload 0), (10, .aload 0), (11, .getfield 1224), (14, .iload 2), (15, .laload), (16, .invokevirtual 218), (19, .ifCond .eq 28), (22, .iload 2), (23, .iconst 1), (24, .iadd), (25, .goto 29)]
theorem h_229_4 : chk (mt 229) 28 4 b_229_4 = true := by decide +kernel
def b_229_28 : List (Nat × Instr) := [(28, .iload 1)]
theorem h_229_28 : chk (mt 229) 29 28 b_229_28 = true := by decide +kernel
def b_229_29 : List (Nat × Instr) := [(29, .istore 1), (30, .iinc 2 1), (33, .goto 4)]
theorem h_229_29 : chk (mt 229) 36 29 b_229_29 = true := by decide +kernel
def b_229_36 : List (Nat × Instr) := [(36, .iload 1), (37, .ireturn)]
theorem h_229_36 : chk (mt 229) 38 36 b_229_36 = true := by decide +kernel
def b_230_0 : List (Nat × Instr) := [(0, .aload 0), (1, .iload 1), (2, .ifCond .eq 18), (5, .aload 0), (6, .getfield 1219), (9, .iconst 50), (11, .if_icmp .ge 18), (14, .iconst 1), (15, .goto 19)]
theorem h_230_0 : chk (mt 230) 18 0 b_230_0 = true := by decide +kernel
def b_230_18 : List (Nat × Instr) := [(18, .iconst 0)]
theorem h_230_18 : chk (mt 230) 19 18 b_230_18 = true := by decide +kernel
def b_230_19 : List (Nat × Instr) := [(19, .invokevirtual 219), (22, .aload 0), (23, .getfield 1213), (26, .ifCond .ne 45), (29, .aload 0), (30, .iload 2), (31, .iload 3), (32, .invokevirtual 231), (35, .aload 0), (36, .dup), (37, .getfield 1219), (40, .iconst 1), (41, .iadd), (42, .putfield 1219)]
theorem h_230_19 : chk (mt 230) 45 19 b_230_19 = true := by decide +kernel
def b_230_45 : List (Nat × Instr) := [(45, .return_)]
theorem h_230_45 : chk (mt 230) 46 45 b_230_45 = true := by decide +kernel
def b_231_0 : List (Nat × Instr) := [(0, .aload 0), (1, .getfield 1217), (4, .aload 0), (5, .getfield 1216), (8, .iload 1), (9, .iastore), (10, .aload 0), (11, .getfield 1218), (14, .aload 0), (15, .getfield 1216), (18, .iload 2), (19, .iastore), (20, .aload 0), (21, .dup), (22, .getfield 1216), (25, .iconst 1), (26, .iadd), (27, .putfield 1216), (30, .return_)]
theorem h_231_0 : chk (mt 231) 31 0 b_231_0 = true := by decide +kernel
def b_232_0 : List (Nat × Instr) := [(0, .aload 0), (1, .iconst 43), (3, .invokevirtual 226), (6, .ifCond .eq 14), (9, .iconst 20), (11, .goto 57)]
theorem h_232_0 : chk (mt 232) 14 0 b_232_0 = true := by decide +kernel
def b_232_14 : List (Nat × Instr) := [(14, .aload 0), (15, .iconst 45), (17, .invokevirtual 226), (20, .ifCond .eq 28), (23, .iconst 21), (25, .goto 57)]
theorem h_232_14 : chk (mt 232) 28 14 b_232_14 = true := by decide +kernel
def b_232_28 : List (Nat × Instr) := [(28, .aload 0), (29, .iconst 42), (31, .invokevirtual 226), (34, .ifCond .eq 42), (37, .iconst 22), (39, .goto 57)]
theorem h_232_28 : chk (mt 232) 42 28 b_232_28 = true := by decide +kernel
def b_232_42 : List (Nat × Instr) := [(42, .aload 0), (43, .iconst 47), (45, .invokevirtual 226), (48, .ifCond .eq 56), (51, .iconst 23), (53, .goto 57)]
theorem h_232_42 : chk (mt 232) 56 42 b_232_42 = true := by decide +kernel
def b_232_56 : List (Nat × Instr) := [(56, .iconst (-1))]
theorem h_232_56 : chk (mt 232) 57 56 b_232_56 = true := by decide +kernel
def b_232_57 : List (Nat × Instr) := [(57, .istore 2), (58, .iload 2), (59, .iconst (-1)), (60, .if_icmp .eq 83), (63, .aload 0), (64, .iload 2), (65, .invokestatic 233), (68, .invokevirtual 234), (71, .aload 0), (72, .iload 2), (73, .iconst 0), (74, .invokevirtual 225), (77, .aload 0), (78, .invokevirtual 214), (81, .iconst 1), (82, .ireturn)]
theorem h_232_57 : chk (mt 232) 83 57 b_232_57 = true := by decide +kernel
def b_232_83 : List (Nat × Instr) := [(83, .aload 0), (84, .invokevirtual 235), (87, .istore 3), (88, .iload 3), (89, .iconst 31), (91, .if_icmp .ne 138), (94, .aload 0), (95, .aload 0), (96, .iconst 93), (98, .invokevirtual 226), (101, .invokevirtual 219), (104, .aload 0), (105, .getfield 1213), (108, .ifCond .ne 136), (111, .aload 0), (112, .iconst 5), (113, .invokevirtual 234), (116, .aload 0), (117, .dup), (118, .getfield 1222), (121, .iconst 1), (122, .isub), (123, .putfield 1222), (126, .aload 0), (127, .dup), (128, .getfield 1223), (131, .iconst 1), (132, .isub), (133, .putfield 1223)]
theorem h_232_83 : chk (mt 232) 136 83 b_232_83 = true := by decide +kernel
def b_232_136 : List (Nat × Instr) := [(136, .iconst 3), (137, .ireturn)]
theorem h_232_136 : chk (mt 232) 138 136 b_232_136 = true := by decide +kernel
def b_232_138 : List (Nat × Instr) := [(138, .iload 3), (139, .iconst (-1)), (140, .if_icmp .ne 149), (143, .iload 1), (144, .ifCond .ne 149), (147, .iconst 4), (148, .ireturn)]
theorem h_232_138 : chk (mt 232) 149 138 b_232_138 = true := by decide +kernel
def b_232_149 : List (Nat × Instr) := [(149, .aload 0), (150, .invokevirtual 236), (153, .ifCond .eq 158), (156, .iconst 2), (157, .ireturn)]
theorem h_232_149 : chk (mt 232) 158 149 b_232_149 = true := by decide +kernel
def b_232_158 : List (Nat × Instr) := [(158, .aload 0), (159, .iconst 60), (161, .invokevirtual 226), (164, .ifCond .eq 172), (167, .iconst 24), (169, .goto 188)]
theorem h_232_158 : chk (mt 232) 172 158 b_232_158 = true := by decide +kernel
def b_232_172 : List (Nat × Instr) := [(172, .aload 0), (173, .iconst 62), (175, .invokevirtual 226), (178, .ifCond .eq 186), (181, .iconst 25), (183, .goto 188)]
theorem h_232_172 : chk (mt 232) 186 172 b_232_172 = true := by decide +kernel
def b_232_186 : List (Nat × Instr) := [(186, .iconst 26)]
theorem h_232_186 : chk (mt 232) 188 186 b_232_186 = true := by decide +kernel
def b_232_188 : List (Nat × Instr) := [(188, .istore 2), (189, .aload 0), (190, .iload 2), (191, .iconst 26), (193, .if_icmp .ne 205), (196, .aload 0), (197, .iconst 61), (199, .invokevirtual 226), (202, .ifCond .eq 209)]
theorem h_232_188 : chk (mt 232) 205 188 b_232_188 = true := by decide +kernel
def b_232_205 : List (Nat × Instr) := [(205, .iconst 1), (206, .goto 210)]
theorem h_232_205 : chk (mt 232) 209 205 b_232_205 = true := by decide +kernel
def b_232_209 : List (Nat × Instr) := [(209, .iconst 0)]
theorem h_232_209 : chk (mt 232) 210 209 b_232_209 = true := by decide +kernel
def b_232_210 : List (Nat × Instr) := [(210, .invokevirtual 219), (213, .aload 0), (214, .getfield 1213), (217, .ifCond .ne 231), (220, .aload 0), (221, .iconst 5), (222, .invokevirtual 234), (225, .aload 0), (226, .iload 2), (227, .iconst 0), (228, .invokevirtual 225)]
theorem h_232_210 : chk (mt 232) 231 210 b_232_210 = true := by decide +kernel
def b_232_231 : List (Nat × Instr) := [(231, .iconst 1), (232, .ireturn)]
theorem h_232_231 : chk (mt 232) 233 231 b_232_231 = true := by decide +kernel
def b_233_0 : List (Nat × Instr) := [(0, .iload 0), (1, .iconst 30), (3, .if_icmp .lt 10), (6, .iconst 0), (7, .goto 62)]
theorem h_233_0 : chk (mt 233) 10 0 b_233_0 = true := by decide +kernel
def b_233_10 : List (Nat × Instr) := [(10, .iload 0), (11, .iconst 29), (13, .if_icmp .ne 20), (16, .iconst 1), (17, .goto 62)]
theorem h_233_10 : chk (mt 233) 20 10 b_233_10 = true := by decide +kernel
def b_233_20 : List (Nat × Instr) := [(20, .iload 0), (21, .iconst 28), (23, .if_icmp .ne 30), (26, .iconst 2), (27, .goto 62)]
theorem h_233_20 : chk (mt 233) 30 20 b_233_20 = true := by decide +kernel
def b_233_30 : List (Nat × Instr) := [(30, .iload 0), (31, .iconst 27), (33, .if_icmp .ne 40), (36, .iconst 3), (37, .goto 62)]
theorem h_233_30 : chk (mt 233) 40 30 b_233_30 = true := by decide +kernel
def b_233_40 : List (Nat × Instr) := [(40, .iload 0), (41, .iconst 24), (43, .if_icmp .lt 50), (46, .iconst 4), (47, .goto 62)]
theorem h_233_40 : chk (mt 233) 50 40 b_233_40 = true := by decide +kernel
def b_233_50 : List (Nat × Instr) := [(50, .iload 0), (51, .iconst 22), (53, .if_icmp .lt 61), (56, .iconst 6), (58, .goto 62)]
theorem h_233_50 : chk (mt 233) 61 50 b_233_50 = true := by decide +kernel
def b_233_61 : List (Nat × Instr) := [(61, .iconst 5)]
theorem h_233_61 : chk (mt 233) 62 61 b_233_61 = true := by decide +kernel
def b_233_62 : List (Nat × Instr) := [(62, .ireturn)]
theorem h_233_62 : chk (mt 233) 63 62 b_233_62 = true := by decide +kernel
def b_234_0 : List (Nat × Instr) := [(0, .aload 0), (1, .getfield 1222), (4, .ifCond .le 101), (7, .aload 0), (8, .getfield 1220), (11, .aload 0), (12, .getfield 1222), (15, .iconst 1), (16, .isub), (17, .iaload), (18, .invokestatic 233), (21, .iload 1), (22, .if_icmp .lt 101), (25, .aload 0), (26, .dup), (27, .getfield 1222), (30, .iconst 1), (31, .isub), (32, .putfield 1222), (35, .aload 0), (36, .getfield 1220), (39, .aload 0), (40, .getfield 1222), (43, .iaload), (44, .iconst 28), (46, .if_icmp .eq 63), (49, .aload 0), (50, .getfield 1220), (53, .aload 0), (54, .getfield 1222), (57, .iaload), (58, .iconst 29), (60, .if_icmp .ne 84)]
theorem h_234_0 : chk (mt 234) 63 0 b_234_0 = true := by decide +kernel
def b_234_63 : List (Nat × Instr) := [(63, .aload 0), (64, .getfield 1218), (67, .aload 0), (68, .getfield 1221), (71, .aload 0), (72, .getfield 1222), (75, .iaload), (76, .aload 0), (77, .getfield 1216), (80, .iastore), (81, .goto 0)]
theorem h_234_63 : chk (mt 234) 84 63 b_234_63 = true := by decide +kernel
def b_234_84 : List (Nat × Instr) := [(84, .aload 0), (85, .aload 0), (86, .getfield 1220), (89, .aload 0), (90, .getfield 1222), (93, .iaload), (94, .iconst 0), (95, .invokevirtual 231), (98, .goto 0)]
theorem h_234_84 : chk (mt 234) 101 84 b_234_84 = true := by decide +kernel
def b_234_101 : List (Nat × Instr) := [(101, .return_)]
theorem h_234_101 : chk (mt 234) 102 101 b_234_101 = true := by decide +kernel
def b_235_0 : List (Nat × Instr) := [(0, .iconst (-1)), (1, .istore 1), (2, .iconst 0), (3, .istore 2)]
theorem h_235_0 : chk (mt 235) 4 0 b_235_0 = true := by decide +kernel
def b_235_4 : List (Nat × Instr) := [(4, .iload 2), (5, .aload 0), (6, .getfield 1222), (9, .if_icmp .ge 40), (12, .aload 0), (13, .getfield 1220), (16, .iload 2), (17, .iaload), (18, .iconst 30), (20, .if_icmp .lt 32), (23, .aload 0), (24, .getfield 1220), (27, .iload 2), (28, .iaload), (29, .goto 33)]
theorem h_235_4 : chk (mt 235) 32 4 b_235_4 = true := by decide +kernel
def b_235_32 : List (Nat × Instr) := [(32, .iload 1)]
theorem h_235_32 : chk (mt 235) 33 32 b_235_32 = true := by decide +kernel
def b_235_33 : List (Nat × Instr) := [(33, .istore 1), (34, .iinc 2 1), (37, .goto 4)]
theorem h_235_33 : chk (mt 235) 40 33 b_235_33 = true := by decide +kernel
def b_235_40 : List (Nat × Instr) := [(40, .iload 1), (41, .ireturn)]
theorem h_235_40 : chk (mt 235) 42 40 b_235_40 = true := by decide +kernel
def b_236_0 : List (Nat × Instr) := [(0, .aload 0), (1, .getfield 1222), (4, .iconst 1), (5, .isub), (6, .istore 1)]
theorem h_236_0 : chk (mt 236) 7 0 b_236_0 = true := by decide +kernel
def b_236_7 : List (Nat × Instr) := [(7, .iload 1), (8, .ifCond .lt 36), (11, .aload 0), (12, .getfield 1220), (15, .iload 1), (16, .iaload), (17, .i2l), (18, .sipush 20), (21, .sipush 23), (24, .invokestatic 193), (27, .ifCond .eq 36), (30, .iinc 1 (-1)), (33, .goto 7)]
theorem h_236_7 : chk (mt 236) 36 7 b_236_7 = true := by decide +kernel
def b_236_36 : List (Nat × Instr) := [(36, .iload 1), (37, .ifCond .lt 63), (40, .aload 0), (41, .getfield 1220), (44, .iload 1), (45, .iaload), (46, .i2l), (47, .sipush 24), (50, .sipush 26), (53, .invokestatic 193), (56, .ifCond .eq 63), (59, .iconst 1), (60, .goto 64)]
theorem h_236_36 : chk (mt 236) 63 36 b_236_36 = true := by decide +kernel
def b_236_63 : List (Nat × Instr) := [(63, .iconst 0)]
theorem h_236_63 : chk (mt 236) 64 63 b_236_63 = true := by decide +kernel
def b_236_64 : List (Nat × Instr) := [(64, .ireturn)]
theorem h_236_64 : chk (mt 236) 65 64 b_236_64 = true := by decide +kernel
def b_237_0 : List (Nat × Instr) := [(0, .aload 0), (1, .sipush 1476), (4, .invokevirtual 218), (7, .istore 1), (8, .iload 1), (9, .ifCond .ne 22), (12, .aload 0), (13, .sipush 498), (16, .invokevirtual 218), (19, .ifCond .eq 76)]
theorem h_237_0 : chk (mt 237) 22 0 b_237_0 = true := by decide +kernel
def b_237_22 : List (Nat × Instr) := [(22, .aload 0), (23, .iload 1), (24, .ifCond .eq 31), (27, .iconst 2), (28, .goto 32)]
theorem h_237_22 : chk (mt 237) 31 22 b_237_22 = true := by decide +kernel
def b_237_31 : List (Nat × Instr) := [(31, .iconst 1)]
theorem h_237_31 : chk (mt 237) 32 31 b_237_31 = true := by decide +kernel
def b_237_32 : List (Nat × Instr) := [(32, .invokevirtual 234), (35, .aload 0), (36, .iload 1), (37, .ifCond .eq 45), (40, .iconst 28), (42, .goto 47)]
theorem h_237_32 : chk (mt 237) 45 32 b_237_32 = true := by decide +kernel
def b_237_45 : List (Nat × Instr) := [(45, .iconst 29)]
theorem h_237_45 : chk (mt 237) 47 45 b_237_45 = true := by decide +kernel
def b_237_47 : List (Nat × Instr) := [(47, .aload 0), (48, .getfield 1216), (51, .invokevirtual 225), (54, .aload 0), (55, .iload 1), (56, .ifCond .eq 64), (59, .iconst 28), (61, .goto 66)]
theorem h_237_47 : chk (mt 237) 64 47 b_237_47 = true := by decide +kernel
def b_237_64 : List (Nat × Instr) := [(64, .iconst 29)]
theorem h_237_64 : chk (mt 237) 66 64 b_237_64 = true := by decide +kernel
def b_237_66 : List (Nat × Instr) := [(66, .iconst 0), (67, .invokevirtual 231), (70, .aload 0), (71, .invokevirtual 214), (74, .iconst 0), (75, .ireturn)]
theorem h_237_66 : chk (mt 237) 76 66 b_237_66 = true := by decide +kernel
def b_237_76 : List (Nat × Instr) := [(76, .aload 0), (77, .invokevirtual 235), (80, .iconst (-1)), (81, .if_icmp .ne 86), (84, .iconst 4), (85, .ireturn)]
theorem h_237_76 : chk (mt 237) 86 76 b_237_76 = true := by decide +kernel
def b_237_86 : List (Nat × Instr) := [(86, .aload 0), (87, .aload 0), (88, .iconst 41), (90, .invokevirtual 226), (93, .invokevirtual 219), (96, .aload 0), (97, .getfield 1213), (100, .ifCond .ne 128), (103, .aload 0), (104, .iconst 1), (105, .invokevirtual 234), (108, .aload 0), (109, .dup), (110, .getfield 1222), (113, .iconst 1), (114, .isub), (115, .putfield 1222), (118, .aload 0), (119, .dup), (120, .getfield 1223), (123, .iconst 1), (124, .isub), (125, .putfield 1223)]
theorem h_237_86 : chk (mt 237) 128 86 b_237_86 = true := by decide +kernel
def b_237_128 : List (Nat × Instr) := [(128, .iconst 2), (129, .ireturn)]
theorem h_237_128 : chk (mt 237) 130 128 b_237_128 = true := by decide +kernel
def b_238_0 : List (Nat × Instr) := [(0, .aload 0), (1, .iconst 0), (2, .putfield 1200), (5, .aload 0), (6, .iload 1), (7, .invokevirtual 239), (10, .ifCond .eq 31), (13, .iload 2), (14, .ifCond .eq 33), (17, .iload 2), (18, .i2l), (19, .sipush 10), (22, .sipush 19), (25, .invokestatic 193), (28, .ifCond .ne 33)]
theorem h_238_0 : chk (mt 238) 31 0 b_238_0 = true := by decide +kernel
def b_238_31 : List (Nat × Instr) := [(31, .iconst (-1)), (32, .ireturn)]
theorem h_238_31 : chk (mt 238) 33 31 b_238_31 = true := by decide +kernel
def b_238_33 : List (Nat × Instr) := [(33, .iload 2), (34, .ifCond .ne 45), (37, .aload 0), (38, .iload 1), (39, .invokevirtual 240), (42, .goto 54)]
theorem h_238_33 : chk (mt 238) 45 33 b_238_33 = true := by decide +kernel
def b_238_45 : List (Nat × Instr) := [(45, .aload 0), (46, .iload 1), (47, .iload 2), (48, .iconst 10), (50, .isub), (51, .invokevirtual 241)]
theorem h_238_45 : chk (mt 238) 54 45 b_238_45 = true := by decide +kernel
def b_238_54 : List (Nat × Instr) := [(54, .ireturn)]
theorem h_238_54 : chk (mt 238) 55 54 b_238_54 = true := by decide +kernel
def b_239_0 : List (Nat × Instr) := [(0, .iload 1), (1, .i2l), (2, .sipush 0), (3, .aload 0), (4, .getfield 1203), (7, .iconst 9), (9, .iaload), (10, .i2l), (11, .sipush 1), (12, .lsub), (13, .invokestatic 193), (16, .ireturn)]
theorem h_239_0 : chk (mt 239) 17 0 b_239_0 = true := by decide +kernel
def b_240_0 : List (Nat × Instr) := [(0, .aload 0), (1, .getfield 1203), (4, .iconst 290), (7, .iconst 11), (9, .iload 1), (10, .imul), (11, .iadd), (12, .iaload), (13, .ireturn)]
theorem h_240_0 : chk (mt 240) 14 0 b_240_0 = true := by decide +kernel
def b_241_0 : List (Nat × Instr) := [(0, .aload 0), (1, .getfield 1203), (4, .iconst 290), (7, .iconst 11), (9, .iload 1), (10, .imul), (11, .iadd), (12, .iconst 1), (13, .iadd), (14, .iload 2), (15, .iadd), (16, .iaload), (17, .ireturn)]
theorem h_241_0 : chk (mt 241) 18 0 b_241_0 = true := by decide +kernel
def b_242_0 : List (Nat × Instr) := [(0, .aload 0), (1, .iconst 0), (2, .putfield 1200), (5, .aload 0), (6, .iload 1), (7, .invokevirtual 239), (10, .ifCond .eq 20), (13, .iload 2), (14, .invokestatic 197), (17, .ifCond .ne 24)]
theorem h_242_0 : chk (mt 242) 20 0 b_242_0 = true := by decide +kernel
def b_242_20 : List (Nat × Instr) := [(20, .iconst (-100000)), (23, .ireturn)]
theorem h_242_20 : chk (mt 242) 24 20 b_242_20 = true := by decide +kernel
def b_242_24 : List (Nat × Instr) := [(24, .aload 0), (25, .iload 1), (26, .iload 2), (27, .invokevirtual 243), (30, .istore 4), (32, .iload 3), (33, .tableswitch 141 0 4 #[68, 83, 90, 97, 100])]
theorem h_242_24 : chk (mt 242) 68 24 b_242_24 = true := by decide +kernel
def b_242_68 : List (Nat × Instr) := [(68, .aload 0), (69, .iload 1), (70, .iload 2), (71, .invokevirtual 245), (74, .ifCond .eq 81), (77, .iconst 1), (78, .goto 82)]
theorem h_242_68 : chk (mt 242) 81 68 b_242_68 = true := by decide +kernel
def b_242_81 : List (Nat × Instr) := [(81, .iconst 0)]
theorem h_242_81 : chk (mt 242) 82 81 b_242_81 = true := by decide +kernel
def b_242_82 : List (Nat × Instr) := [(82, .ireturn)]
theorem h_242_82 : chk (mt 242) 83 82 b_242_82 = true := by decide +kernel
def b_242_83 : List (Nat × Instr) := [(83, .aload 0), (84, .iload 1), (85, .iload 2), (86, .invokevirtual 250), (89, .ireturn)]
theorem h_242_83 : chk (mt 242) 90 83 b_242_83 = true := by decide +kernel
def b_242_90 : List (Nat × Instr) := [(90, .aload 0), (91, .iload 1), (92, .iload 2), (93, .invokevirtual 251), (96, .ireturn)]
theorem h_242_90 : chk (mt 242) 97 90 b_242_90 = true := by decide +kernel
def b_242_97 : List (Nat × Instr) := [(97, .iload 4), (99, .ireturn)]
theorem h_242_97 : chk (mt 242) 100 97 b_242_97 = true := by decide +kernel
def b_242_100 : List (Nat × Instr) := [(100, .iload 4), (102, .ifCond .lt 135), (105, .iload 4), (107, .i2l), (108, .sipush 100), (111, .lmul), (112, .aload 0), (113, .getfield 1203), (116, .iconst 5), (117, .iaload), (118, .i2l), (119, .aload 0), (120, .aload 0), (121, .iload 1), (122, .invokevirtual 240), (125, .iload 2), (126, .invokevirtual 244), (129, .i2l), (130, .lmul), (131, .lcmp), (132, .ifCond .le 139)]
theorem h_242_100 : chk (mt 242) 135 100 b_242_100 = true := by decide +kernel
def b_242_135 : List (Nat × Instr) := [(135, .iconst 1), (136, .goto 140)]
theorem h_242_135 : chk (mt 242) 139 135 b_242_135 = true := by decide +kernel
def b_242_139 : List (Nat × Instr) := [(139, .iconst 0)]
theorem h_242_139 : chk (mt 242) 140 139 b_242_139 = true := by decide +kernel
def b_242_140 : List (Nat × Instr) := [(140, .ireturn)]
theorem h_242_140 : chk (mt 242) 141 140 b_242_140 = true := by decide +kernel
def b_242_141 : List (Nat × Instr) := [(141, .iconst (-100000)), (144, .ireturn)]
theorem h_242_141 : chk (mt 242) 145 141 b_242_141 = true := by decide +kernel
def b_243_0 : List (Nat × Instr) := [(0, .aload 0), (1, .aload 0), (2, .iload 1), (3, .invokevirtual 240), (6, .iload 2), (7, .invokevirtual 244), (10, .istore 3), (11, .iconst 0), (12, .istore 4)]
theorem h_243_0 : chk (mt 243) 14 0 b_243_0 = true := by decide +kernel
def b_243_14 : List (Nat × Instr) := [(14, .iload 4), (16, .iconst 10), (18, .if_icmp .ge 45), (21, .iload 3), (22, .aload 0), (23, .iload 1), (24, .iload 4), (26, .invokevirtual 241), (29, .aload 0), (30, .iload 4), (32, .iload 2), (33, .invokevirtual 244), (36, .imul), (37, .isub), (38, .istore 3), (39, .iinc 4 1), (42, .goto 14)]
theorem h_243_14 : chk (mt 243) 45 14 b_243_14 = true := by decide +kernel
def b_243_45 : List (Nat × Instr) := [(45, .iload 3), (46, .ireturn)]
theorem h_243_45 : chk (mt 243) 47 45 b_243_45 = true := by decide +kernel
def b_244_0 : List (Nat × Instr) := [(0, .aload 0), (1, .getfield 1203), (4, .iconst 10), (6, .iconst 3), (7, .iload 1), (8, .imul), (9, .iadd), (10, .iload 2), (11, .iadd), (12, .iaload), (13, .ireturn)]
theorem h_244_0 : chk (mt 244) 14 0 b_244_0 = true := by decide +kernel
def b_245_0 : List (Nat × Instr) := [(0, .aload 0), (1, .iconst 2), (2, .iload 1), (3, .iload 2), (4, .iconst 0), (5, .iconst 1), (6, .invokevirtual 246), (9, .iconst 1), (10, .if_icmp .ne 17), (13, .iconst 1), (14, .goto 18)]
theorem h_245_0 : chk (mt 245) 17 0 b_245_0 = true := by decide +kernel
def b_245_17 : List (Nat × Instr) := [(17, .iconst 0)]
theorem h_245_17 : chk (mt 245) 18 17 b_245_17 = true := by decide +kernel
def b_245_18 : List (Nat × Instr) := [(18, .ireturn)]
theorem h_245_18 : chk (mt 245) 19 18 b_245_18 = true := by decide +kernel
def b_246_0 : List (Nat × Instr) := [(0, .aload 0), (1, .getfield 1227), (4, .iconst 1), (5, .iload 3), (6, .i2l), (7, .lastore), (8, .aload 0), (9, .getfield 1227), (12, .iconst 2), (13, .aload 0), (14, .iload 2), (15, .invokevirtual 240), (18, .i2l), (19, .lastore), (20, .aload 0), (21, .getfield 1227), (24, .iconst 3), (25, .iload 2), (26, .i2l), (27, .lastore), (28, .aload 0), (29, .getfield 1227), (32, .iconst 4), (33, .aload 0), (34, .getfield 1203), (37, .iconst 4), (38, .iaload), (39, .i2l), (40, .lastore), (41, .aload 0), (42, .getfield 1227), (45, .iconst 5), (46, .aload 0), (47, .aload 0), (48, .iload 2), (49, .invokevirtual 240), (52, .iload 3), (53, .invokevirtual 244), (56, .i2l), (57, .lastore), (58, .iload 4), (60, .i2l), (61, .lstore 6), (63, .iconst 0), (64, .istore 8)]
theorem h_246_0 : chk (mt 246) 66 0 b_246_0 = true := by decide +kernel
def b_246_66 : List (Nat × Instr) := [(66, .iload 8), (68, .aload 0), (69, .getfield 1203), (72, .iconst 471), (75, .iaload), (76, .if_icmp .ge 161), (79, .iconst 472), (82, .iconst 8), (84, .iload 8), (86, .imul), (87, .iadd), (88, .istore 9), (90, .aload 0), (91, .getfield 1203), (94, .iload 9), (96, .iaload), (97, .iload 1), (98, .if_icmp .ne 123), (101, .iload 1), (102, .iconst 2), (103, .if_icmp .ne 119), (106, .aload 0), (107, .getfield 1203), (110, .iload 9), (112, .iconst 1), (113, .iadd), (114, .iaload), (115, .iload 2), (116, .if_icmp .ne 123)]
theorem h_246_66 : chk (mt 246) 119 66 b_246_66 = true := by decide +kernel
def b_246_119 : List (Nat × Instr) := [(119, .iconst 1), (120, .goto 124)]
theorem h_246_119 : chk (mt 246) 123 119 b_246_119 = true := by decide +kernel
def b_246_123 : List (Nat × Instr) := [(123, .iconst 0)]
theorem h_246_123 : chk (mt 246) 124 123 b_246_123 = true := by decide +kernel
def b_246_124 : List (Nat × Instr) := [(124, .istore 10), (126, .iload 10), (128, .ifCond .eq 155), (131, .aload 0), (132, .iload 9), (134, .invokevirtual 247), (137, .ifCond .eq 155), (140, .iload 1), (141, .iconst 2), (142, .if_icmp .ne 149), (145, .sipush 1), (146, .goto 153)]
theorem h_246_124 : chk (mt 246) 149 124 b_246_124 = true := by decide +kernel
def b_246_149 : List (Nat × Instr) := [(149, .aload 0), (150, .getfield 1231)]
theorem h_246_149 : chk (mt 246) 153 149 b_246_149 = true := by decide +kernel
def b_246_153 : List (Nat × Instr) := [(153, .lstore 6)]
theorem h_246_153 : chk (mt 246) 155 153 b_246_153 = true := by decide +kernel
def b_246_155 : List (Nat × Instr) := [(155, .iinc 8 1), (158, .goto 66)]
theorem h_246_155 : chk (mt 246) 161 155 b_246_155 = true := by decide +kernel
def b_246_161 : List (Nat × Instr) := [(161, .lload 6), (163, .sipush 0), (164, .lcmp), (165, .ifCond .ge 172), (168, .iconst 0), (169, .goto 189)]
theorem h_246_161 : chk (mt 246) 172 161 b_246_161 = true := by decide +kernel
def b_246_172 : List (Nat × Instr) := [(172, .lload 6), (174, .iload 5), (176, .i2l), (177, .lcmp), (178, .ifCond .le 186), (181, .iload 5), (183, .goto 189)]
theorem h_246_172 : chk (mt 246) 186 172 b_246_172 = true := by decide +kernel
def b_246_186 : List (Nat × Instr) := [(186, .lload 6), (188, .l2i)]
theorem h_246_186 : chk (mt 246) 189 186 b_246_186 = true := by decide +kernel
def b_246_189 : List (Nat × Instr) := [(189, .ireturn)]
theorem h_246_189 : chk (mt 246) 190 189 b_246_189 = true := by decide +kernel
def b_247_0 : List (Nat × Instr) := [(0, .aload 0), (1, .getfield 1203), (4, .iload 1), (5, .iconst 5), (6, .iadd), (7, .iaload), (8, .aload 0), (9, .getfield 1203), (12, .iload 1), (13, .iconst 6), (15, .iadd), (16, .iaload), (17, .if_icmp .ge 59), (20, .aload 0), (21, .aload 0), (22, .getfield 1203), (25, .iload 1), (26, .iconst 5), (27, .iadd), (28, .iaload), (29, .aload 0), (30, .getfield 1203), (33, .iload 1), (34, .iconst 6), (36, .iadd), (37, .iaload), (38, .invokevirtual 248), (41, .aload 0), (42, .getfield 1229), (45, .ifCond .ne 57), (48, .aload 0), (49, .getfield 1230), (52, .sipush 0), (53, .lcmp), (54, .ifCond .ne 59)]
theorem h_247_0 : chk (mt 247) 57 0 b_247_0 = true := by decide +kernel
def b_247_57 : List (Nat × Instr) := [(57, .iconst 0), (58, .ireturn)]
theorem h_247_57 : chk (mt 247) 59 57 b_247_57 = true := by decide +kernel
def b_247_59 : List (Nat × Instr) := [(59, .aload 0), (60, .getfield 1203), (63, .iload 1), (64, .iaload), (65, .iconst 2), (66, .if_icmp .eq 110), (69, .aload 0), (70, .aload 0), (71, .getfield 1203), (74, .iload 1), (75, .iconst 3), (76, .iadd), (77, .iaload), (78, .aload 0), (79, .getfield 1203), (82, .iload 1), (83, .iconst 4), (84, .iadd), (85, .iaload), (86, .invokevirtual 248), (89, .aload 0), (90, .aload 0), (91, .getfield 1230), (94, .putfield 1231), (97, .aload 0), (98, .getfield 1229), (101, .ifCond .ne 108), (104, .iconst 1), (105, .goto 109)]
theorem h_247_59 : chk (mt 247) 108 59 b_247_59 = true := by decide +kernel
def b_247_108 : List (Nat × Instr) := [(108, .iconst 0)]
theorem h_247_108 : chk (mt 247) 109 108 b_247_108 = true := by decide +kernel
def b_247_109 : List (Nat × Instr) := [(109, .ireturn)]
theorem h_247_109 : chk (mt 247) 110 109 b_247_109 = true := by decide +kernel
def b_247_110 : List (Nat × Instr) := [(110, .iconst 1), (111, .ireturn)]
theorem h_247_110 : chk (mt 247) 112 110 b_247_110 = true := by decide +kernel
def b_248_0 : List (Nat × Instr) := [(0, .aload 0), (1, .iconst 0), (2, .putfield 1229), (5, .iconst 0), (6, .istore 3), (7, .iload 1), (8, .istore 4)]
theorem h_248_0 : chk (mt 248) 10 0 b_248_0 = true := by decide +kernel
def b_248_10 : List (Nat × Instr) := [(10, .iload 4), (12, .iload 2), (13, .if_icmp .ge 237), (16, .aload 0), (17, .getfield 1229), (20, .ifCond .ne 237), (23, .aload 0), (24, .getfield 1203), (27, .iconst 664), (30, .iconst 2), (31, .iload 4), (33, .imul), (34, .iadd), (35, .iaload), (36, .istore 5), (38, .aload 0), (39, .getfield 1203), (42, .iconst 664), (45, .iconst 2), (46, .iload 4), (48, .imul), (49, .iadd), (50, .iconst 1), (51, .iadd), (52, .iaload), (53, .istore 6), (55, .iinc 4 1), (58, .iload 5), (60, .iconst 20), (62, .if_icmp .ge 95), (65, .aload 0), (66, .getfield 1228), (69, .iload 3), (70, .iload 5), (72, .ifCond .ne 81), (75, .iload 6), (77, .i2l), (78, .goto 88)]
theorem h_248_10 : chk (mt 248) 81 10 b_248_10 = true := by decide +kernel
def b_248_81 : List (Nat × Instr) := [(81, .aload 0), (82, .getfield 1227), (85, .iload 5), (87, .laload)]
theorem h_248_81 : chk (mt 248) 88 81 b_248_81 = true := by decide +kernel
def b_248_88 : List (Nat × Instr) := [(88, .lastore), (89, .iinc 3 1), (92, .goto 234)]
theorem h_248_88 : chk (mt 248) 95 88 b_248_88 = true := by decide +kernel
def b_248_95 : List (Nat × Instr) := [(95, .iload 5), (97, .iconst 27), (99, .if_icmp .ge 172), (102, .iinc 3 (-1)), (105, .aload 0), (106, .getfield 1228), (109, .iload 3), (110, .iconst 1), (111, .isub), (112, .aload 0), (113, .iload 5), (115, .aload 0), (116, .getfield 1228), (119, .iload 3), (120, .iconst 1), (121, .isub), (122, .laload), (123, .aload 0), (124, .getfield 1228), (127, .iload 3), (128, .laload), (129, .invokevirtual 249), (132, .lastore), (133, .aload 0), (134, .aload 0), (135, .getfield 1229), (138, .ifCond .ne 161), (141, .aload 0), (142, .getfield 1228), (145, .iload 3), (146, .iconst 1), (147, .isub), (148, .laload), (149, .sipush (-1000000000)), (152, .sipush 1000000000), (155, .invokestatic 193), (158, .ifCond .ne 165)]
theorem h_248_95 : chk (mt 248) 161 95 b_248_95 = true := by decide +kernel
def b_248_161 : List (Nat × Instr) := [(161, .iconst 1), (162, .goto 166)]
theorem h_248_161 : chk (mt 248) 165 161 b_248_161 = true := by decide +kernel
def b_248_165 : List (Nat × Instr) := [(165, .iconst 0)]
theorem h_248_165 : chk (mt 248) 166 165 b_248_165 = true := by decide +kernel
def b_248_166 : List (Nat × Instr) := [(166, .putfield 1229), (169, .goto 234)]
theorem h_248_166 : chk (mt 248) 172 166 b_248_166 = true := by decide +kernel
def b_248_172 : List (Nat × Instr) := [(172, .iload 5), (174, .iconst 27), (176, .if_icmp .ne 200), (179, .aload 0), (180, .getfield 1228), (183, .iload 3), (184, .iconst 1), (185, .isub), (186, .sipush 1), (187, .aload 0), (188, .getfield 1228), (191, .iload 3), (192, .iconst 1), (193, .isub), (194, .laload), (195, .lsub), (196, .lastore), (197, .goto 234)]
theorem h_248_172 : chk (mt 248) 200 172 b_248_172 = true := by decide +kernel
def b_248_200 : List (Nat × Instr) := [(200, .aload 0), (201, .getfield 1228), (204, .iload 3), (205, .iconst 1), (206, .isub), (207, .laload), (208, .iload 5), (210, .iconst 28), (212, .if_icmp .ne 219), (215, .sipush 0), (216, .goto 220)]
theorem h_248_200 : chk (mt 248) 219 200 b_248_200 = true := by decide +kernel
def b_248_219 : List (Nat × Instr) := [(219, .sipush 1)]
theorem h_248_219 : chk (mt 248) 220 219 b_248_219 = true := by decide +kernel
def b_248_220 : List (Nat × Instr) := [(220, .lcmp), (221, .ifCond .ne 231), (224, .iload 6), (226, .istore 4), (228, .goto 234)]
theorem h_248_220 : chk (mt 248) 231 220 b_248_220 = true := by decide +kernel
def b_248_231 : List (Nat × Instr) := [(231, .iinc 3 (-1))]
theorem h_248_231 : chk (mt 248) 234 231 b_248_231 = true := by decide +kernel
def b_248_234 : List (Nat × Instr) := [(234, .goto 10)]
theorem h_248_234 : chk (mt 248) 237 234 b_248_234 = true := by decide +kernel
def b_248_237 : List (Nat × Instr) := [(237, .aload 0), (238, .iload 3), (239, .ifCond .le 251), (242, .aload 0), (243, .getfield 1228), (246, .iconst 0), (247, .laload), (248, .goto 252)]
theorem h_248_237 : chk (mt 248) 251 237 b_248_237 = true := by decide +kernel
def b_248_251 : List (Nat × Instr) := [(251, .sipush 0)]
theorem h_248_251 : chk (mt 248) 252 251 b_248_251 = true := by decide +kernel
def b_248_252 : List (Nat × Instr) := [(252, .putfield 1230), (255, .return_)]
theorem h_248_252 : chk (mt 248) 256 252 b_248_252 = true := by decide +kernel
def b_249_0 : List (Nat × Instr) := [(0, .iload 1), (1, .tableswitch 113 20 25 #[40, 45, 50, 55, 87, 100])]
theorem h_249_0 : chk (mt 249) 40 0 b_249_0 = true := by decide +kernel
def b_249_40 : List (Nat × Instr) := [(40, .lload 2), (41, .lload 4), (43, .ladd), (44, .lreturn)]
theorem h_249_40 : chk (mt 249) 45 40 b_249_40 = true := by decide +kernel
def b_249_45 : List (Nat × Instr) := [(45, .lload 2), (46, .lload 4), (48, .lsub), (49, .lreturn)]
theorem h_249_45 : chk (mt 249) 50 45 b_249_45 = true := by decide +kernel
def b_249_50 : List (Nat × Instr) := [(50, .lload 2), (51, .lload 4), (53, .lmul), (54, .lreturn)]
theorem h_249_50 : chk (mt 249) 55 50 b_249_50 = true := by decide +kernel
def b_249_55 : List (Nat × Instr) := [(55, .aload 0), (56, .lload 4), (58, .sipush 0), (59, .lcmp), (60, .ifCond .ne 67), (63, .iconst 1), (64, .goto 68)]
theorem h_249_55 : chk (mt 249) 67 55 b_249_55 = true := by decide +kernel
def b_249_67 : List (Nat × Instr) := [(67, .iconst 0)]
theorem h_249_67 : chk (mt 249) 68 67 b_249_67 = true := by decide +kernel
def b_249_68 : List (Nat × Instr) := [(68, .putfield 1229), (71, .aload 0), (72, .getfield 1229), (75, .ifCond .eq 82), (78, .sipush 0), (79, .goto 86)]
theorem h_249_68 : chk (mt 249) 82 68 b_249_68 = true := by decide +kernel
def b_249_82 : List (Nat × Instr) := [(82, .lload 2), (83, .lload 4), (85, .ldiv)]
theorem h_249_82 : chk (mt 249) 86 82 b_249_82 = true := by decide +kernel
def b_249_86 : List (Nat × Instr) := [(86, .lreturn)]
theorem h_249_86 : chk (mt 249) 87 86 b_249_86 = true := by decide +kernel
def b_249_87 : List (Nat × Instr) := [(87, .lload 2), (88, .lload 4), (90, .lcmp), (91, .ifCond .ge 98), (94, .sipush 1), (95, .goto 99)]
theorem h_249_87 : chk (mt 249) 98 87 b_249_87 = true := by decide +kernel
def b_249_98 : List (Nat × Instr) := [(98, .sipush 0)]
theorem h_249_98 : chk (mt 249) 99 98 b_249_98 = true := by decide +kernel
def b_249_99 : List (Nat × Instr) := [(99, .lreturn)]
theorem h_249_99 : chk (mt 249) 100 99 b_249_99 = true := by decide +kernel
def b_249_100 : List (Nat × Instr) := [(100, .lload 2), (101, .lload 4), (103, .lcmp), (104, .ifCond .le 111), (107, .sipush 1), (108, .goto 112)]
theorem h_249_100 : chk (mt 249) 111 100 b_249_100 = true := by decide +kernel
def b_249_111 : List (Nat × Instr) := [(111, .sipush 0)]
theorem h_249_111 : chk (mt 249) 112 111 b_249_111 = true := by decide +kernel
def b_249_112 : List (Nat × Instr) := [(112, .lreturn)]
theorem h_249_112 : chk (mt 249) 113 112 b_249_112 = true := by decide +kernel
def b_249_113 : List (Nat × Instr) := [(113, .lload 2), (114, .lload 4), (116, .lcmp), (117, .ifCond .ne 124), (120, .sipush 1), (121, .goto 125)]
theorem h_249_113 : chk (mt 249) 124 113 b_249_113 = true := by decide +kernel
def b_249_124 : List (Nat × Instr) := [(124, .sipush 0)]
theorem h_249_124 : chk (mt 249) 125 124 b_249_124 = true := by decide +kernel
def b_249_125 : List (Nat × Instr) := [(125, .lreturn)]
theorem h_249_125 : chk (mt 249) 126 125 b_249_125 = true := by decide +kernel
def b_250_0 : List (Nat × Instr) := [(0, .aload 0), (1, .iconst 0), (2, .iload 1), (3, .iload 2), (4, .iconst 1), (5, .iconst 60), (7, .invokevirtual 246), (10, .ireturn)]
theorem h_250_0 : chk (mt 250) 11 0 b_250_0 = true := by decide +kernel
def b_251_0 : List (Nat × Instr) := [(0, .aload 0), (1, .iconst 1), (2, .iload 1), (3, .iload 2), (4, .iconst 0), (5, .iconst 3), (6, .invokevirtual 246), (9, .ireturn)]
theorem h_251_0 : chk (mt 251) 10 0 b_251_0 = true := by decide +kernel
def b_252_0 : List (Nat × Instr) := [(0, .aload 0), (1, .iconst 0), (2, .putfield 1200), (5, .iload 1), (6, .invokestatic 197), (9, .ifCond .ne 14), (12, .iconst (-1)), (13, .ireturn)]
theorem h_252_0 : chk (mt 252) 14 0 b_252_0 = true := by decide +kernel
def b_252_14 : List (Nat × Instr) := [(14, .aload 0), (15, .invokevirtual 253), (18, .aload 0), (19, .getfield 1233), (22, .iload 1), (23, .iaload), (24, .ireturn)]
theorem h_252_14 : chk (mt 252) 25 14 b_252_14 = true := by decide +kernel
def b_253_0 : List (Nat × Instr) := [(0, .aload 0), (1, .getfield 1232), (4, .ifCond .eq 8), (7, .return_)]
theorem h_253_0 : chk (mt 253) 8 0 b_253_0 = true := by decide +kernel
def b_253_8 : List (Nat × Instr) := [(8, .aload 0), (9, .iconst 1), (10, .putfield 1232), (13, .iconst 0), (14, .istore 1)]
theorem h_253_8 : chk (mt 253) 15 8 b_253_8 = true := by decide +kernel
def b_253_15 : List (Nat × Instr) := [(15, .iload 1), (16, .iconst 3), (17, .if_icmp .ge 67), (20, .iconst 0), (21, .istore 2)]
theorem h_253_15 : chk (mt 253) 22 15 b_253_15 = true := by decide +kernel
def b_253_22 : List (Nat × Instr) := [(22, .iload 2), (23, .aload 0), (24, .getfield 1203), (27, .iconst 9), (29, .iaload), (30, .if_icmp .ge 56), (33, .aload 0), (34, .getfield 1238), (37, .iconst 16), (39, .iload 1), (40, .imul), (41, .iload 2), (42, .iadd), (43, .aload 0), (44, .iload 2), (45, .iload 1), (46, .invokevirtual 245), (49, .bastore), (50, .iinc 2 1), (53, .goto 22)]
theorem h_253_22 : chk (mt 253) 56 22 b_253_22 = true := by decide +kernel
def b_253_56 : List (Nat × Instr) := [(56, .aload 0), (57, .iload 1), (58, .invokevirtual 254), (61, .iinc 1 1), (64, .goto 15)]
theorem h_253_56 : chk (mt 253) 67 56 b_253_56 = true := by decide +kernel
def b_253_67 : List (Nat × Instr) := [(67, .return_)]
theorem h_253_67 : chk (mt 253) 68 67 b_253_67 = true := by decide +kernel
def b_254_0 : List (Nat × Instr) := [(0, .aload 0), (1, .getfield 1233), (4, .iload 1), (5, .iconst 0), (6, .iastore), (7, .iconst 0), (8, .istore 2)]
theorem h_254_0 : chk (mt 254) 9 0 b_254_0 = true := by decide +kernel
def b_254_9 : List (Nat × Instr) := [(9, .iload 2), (10, .iconst 10), (12, .if_icmp .ge 36), (15, .aload 0), (16, .getfield 1237), (19, .iload 2), (20, .iload 2), (21, .ifCond .ne 28), (24, .iconst 1), (25, .goto 29)]
theorem h_254_9 : chk (mt 254) 28 9 b_254_9 = true := by decide +kernel
def b_254_28 : List (Nat × Instr) := [(28, .iconst 0)]
theorem h_254_28 : chk (mt 254) 29 28 b_254_28 = true := by decide +kernel
def b_254_29 : List (Nat × Instr) := [(29, .iastore), (30, .iinc 2 1), (33, .goto 9)]
theorem h_254_29 : chk (mt 254) 36 29 b_254_29 = true := by decide +kernel
def b_254_36 : List (Nat × Instr) := [(36, .iconst 0), (37, .istore 2), (38, .aload 0), (39, .getfield 1236), (42, .iconst 0), (43, .iconst (-2)), (45, .iastore)]
theorem h_254_36 : chk (mt 254) 46 36 b_254_36 = true := by decide +kernel
def b_254_46 : List (Nat × Instr) := [(46, .iload 2), (47, .ifCond .lt 113), (50, .aload 0), (51, .getfield 1233), (54, .iload 1), (55, .iaload), (56, .iconst 65), (58, .if_icmp .ge 113), (61, .iload 2), (62, .iconst 10), (64, .if_icmp .ne 78), (67, .aload 0), (68, .iload 1), (69, .invokevirtual 255), (72, .iinc 2 (-1)), (75, .goto 46)]
theorem h_254_46 : chk (mt 254) 78 46 b_254_46 = true := by decide +kernel
def b_254_78 : List (Nat × Instr) := [(78, .aload 0), (79, .iload 1), (80, .iload 2), (81, .invokevirtual 256), (84, .ifCond .eq 107), (87, .iinc 2 1), (90, .iload 2), (91, .iconst 10), (93, .if_icmp .ge 46), (96, .aload 0), (97, .getfield 1236), (100, .iload 2), (101, .iconst (-2)), (103, .iastore), (104, .goto 46)]
theorem h_254_78 : chk (mt 254) 107 78 b_254_78 = true := by decide +kernel
def b_254_107 : List (Nat × Instr) := [(107, .iinc 2 (-1)), (110, .goto 46)]
theorem h_254_107 : chk (mt 254) 113 107 b_254_107 = true := by decide +kernel
def b_254_113 : List (Nat × Instr) := [(113, .return_)]
theorem h_254_113 : chk (mt 254) 114 113 b_254_113 = true := by decide +kernel
def b_255_0 : List (Nat × Instr) := [(0, .aload 0), (1, .getfield 1233), (4, .iload 1), (5, .iaload), (6, .iconst 64), (8, .if_icmp .ge 72), (11, .iconst 640), (14, .iload 1), (15, .imul), (16, .iconst 10), (18, .aload 0), (19, .getfield 1233), (22, .iload 1), (23, .iaload), (24, .imul), (25, .iadd), (26, .istore 2), (27, .iconst 0), (28, .istore 3)]
theorem h_255_0 : chk (mt 255) 29 0 b_255_0 = true := by decide +kernel
def b_255_29 : List (Nat × Instr) := [(29, .iload 3), (30, .iconst 10), (32, .if_icmp .ge 72), (35, .aload 0), (36, .getfield 1234), (39, .iload 2), (40, .iload 3), (41, .iadd), (42, .aload 0), (43, .getfield 1236), (46, .iload 3), (47, .iaload), (48, .iastore), (49, .aload 0), (50, .getfield 1235), (53, .iload 2), (54, .iload 3), (55, .iadd), (56, .aload 0), (57, .getfield 1237), (60, .iconst 100), (62, .iload 3), (63, .iadd), (64, .iaload), (65, .iastore), (66, .iinc 3 1), (69, .goto 29)]
theorem h_255_29 : chk (mt 255) 72 29 b_255_29 = true := by decide +kernel
def b_255_72 : List (Nat × Instr) := [(72, .aload 0), (73, .getfield 1233), (76, .iload 1), (77, .dup2), (78, .iaload), (79, .iconst 1), (80, .iadd), (81, .iastore), (82, .return_)]
theorem h_255_72 : chk (mt 255) 83 72 b_255_72 = true := by decide +kernel
def b_256_0 : List (Nat × Instr) := [(0, .iconst 10), (2, .iload 2), (3, .imul), (4, .istore 3), (5, .iconst 0), (6, .istore 4)]
theorem h_256_0 : chk (mt 256) 8 0 b_256_0 = true := by decide +kernel
def b_256_8 : List (Nat × Instr) := [(8, .iload 4), (10, .ifCond .ne 241), (13, .aload 0), (14, .getfield 1236), (17, .iload 2), (18, .iaload), (19, .aload 0), (20, .getfield 1203), (23, .iconst 9), (25, .iaload), (26, .if_icmp .ge 241), (29, .aload 0), (30, .getfield 1236), (33, .iload 2), (34, .dup2), (35, .iaload), (36, .iconst 1), (37, .iadd), (38, .iastore), (39, .aload 0), (40, .getfield 1236), (43, .iload 2), (44, .iaload), (45, .istore 5), (47, .iload 5), (49, .iconst (-1)), (50, .if_icmp .ne 96), (53, .iconst 0), (54, .istore 6)]
theorem h_256_8 : chk (mt 256) 56 8 b_256_8 = true := by decide +kernel
def b_256_56 : List (Nat × Instr) := [(56, .iload 6), (58, .iconst 10), (60, .if_icmp .ge 90), (63, .aload 0), (64, .getfield 1237), (67, .iload 3), (68, .iconst 10), (70, .iadd), (71, .iload 6), (73, .iadd), (74, .aload 0), (75, .getfield 1237), (78, .iload 3), (79, .iload 6), (81, .iadd), (82, .iaload), (83, .iastore), (84, .iinc 6 1), (87, .goto 56)]
theorem h_256_56 : chk (mt 256) 90 56 b_256_56 = true := by decide +kernel
def b_256_90 : List (Nat × Instr) := [(90, .iconst 1), (91, .istore 4), (93, .goto 238)]
theorem h_256_90 : chk (mt 256) 96 90 b_256_90 = true := by decide +kernel
def b_256_96 : List (Nat × Instr) := [(96, .iload 5), (98, .aload 0), (99, .getfield 1203), (102, .iconst 9), (104, .iaload), (105, .if_icmp .ge 238), (108, .aload 0), (109, .getfield 1237), (112, .iload 3), (113, .iload 2), (114, .iadd), (115, .iaload), (116, .ifCond .le 238), (119, .aload 0), (120, .getfield 1238), (123, .iconst 16), (125, .iload 1), (126, .imul), (127, .iload 5), (129, .iadd), (130, .baload), (131, .ifCond .eq 238), (134, .aload 0), (135, .iload 5), (137, .invokevirtual 240), (140, .iload 2), (141, .if_icmp .ne 238), (144, .iconst 0), (145, .istore 6), (147, .iconst 0), (148, .istore 7)]
theorem h_256_96 : chk (mt 256) 150 96 b_256_96 = true := by decide +kernel
def b_256_150 : List (Nat × Instr) := [(150, .iload 7), (152, .iconst 10), (154, .if_icmp .ge 223), (157, .iload 7), (159, .iload 2), (160, .if_icmp .ne 167), (163, .iconst 0), (164, .goto 194)]
theorem h_256_150 : chk (mt 256) 167 150 b_256_150 = true := by decide +kernel
def b_256_167 : List (Nat × Instr) := [(167, .aload 0), (168, .getfield 1237), (171, .iload 3), (172, .iload 7), (174, .iadd), (175, .iaload), (176, .aload 0), (177, .getfield 1237), (180, .iload 3), (181, .iload 2), (182, .iadd), (183, .iaload), (184, .aload 0), (185, .iload 5), (187, .iload 7), (189, .invokevirtual 241), (192, .imul), (193, .iadd)]
theorem h_256_167 : chk (mt 256) 194 167 b_256_167 = true := by decide +kernel
def b_256_194 : List (Nat × Instr) := [(194, .istore 8), (196, .aload 0), (197, .getfield 1237), (200, .iload 3), (201, .iconst 10), (203, .iadd), (204, .iload 7), (206, .iadd), (207, .iload 8), (209, .iastore), (210, .iload 6), (212, .iload 8), (214, .iadd), (215, .istore 6), (217, .iinc 7 1), (220, .goto 150)]
theorem h_256_194 : chk (mt 256) 223 194 b_256_194 = true := by decide +kernel
def b_256_223 : List (Nat × Instr) := [(223, .iload 6), (225, .iconst 200), (228, .if_icmp .gt 235), (231, .iconst 1), (232, .goto 236)]
theorem h_256_223 : chk (mt 256) 235 223 b_256_223 = true := by decide +kernel
def b_256_235 : List (Nat × Instr) := [(235, .iconst 0)]
theorem h_256_235 : chk (mt 256) 236 235 b_256_235 = true := by decide +kernel
def b_256_236 : List (Nat × Instr) := [(236, .istore 4)]
theorem h_256_236 : chk (mt 256) 238 236 b_256_236 = true := by decide +kernel
def b_256_238 : List (Nat × Instr) := [(238, .goto 8)]
theorem h_256_238 : chk (mt 256) 241 238 b_256_238 = true := by decide +kernel
def b_256_241 : List (Nat × Instr) := [(241, .iload 4), (243, .ireturn)]
theorem h_256_241 : chk (mt 256) 244 241 b_256_241 = true := by decide +kernel
def b_257_0 : List (Nat × Instr) := [(0, .aload 0), (1, .iconst 0), (2, .putfield 1200), (5, .aload 0), (6, .invokevirtual 253), (9, .aload 0), (10, .iload 1), (11, .iload 2), (12, .invokevirtual 258), (15, .ifCond .eq 45), (18, .iload 3), (19, .invokestatic 202), (22, .ifCond .eq 45), (25, .aload 0), (26, .getfield 1234), (29, .iconst 640), (32, .iload 1), (33, .imul), (34, .iconst 10), (36, .iload 2), (37, .imul), (38, .iadd), (39, .iload 3), (40, .iadd), (41, .iaload), (42, .goto 48)]
theorem h_257_0 : chk (mt 257) 45 0 b_257_0 = true := by decide +kernel
def b_257_45 : List (Nat × Instr) := [(45, .iconst (-100000))]
theorem h_257_45 : chk (mt 257) 48 45 b_257_45 = true := by decide +kernel
def b_257_48 : List (Nat × Instr) := [(48, .ireturn)]
theorem h_257_48 : chk (mt 257) 49 48 b_257_48 = true := by decide +kernel
def b_258_0 : List (Nat × Instr) := [(0, .iload 1), (1, .invokestatic 197), (4, .ifCond .eq 62), (7, .aload 0), (8, .getfield 1233), (11, .iload 1), (12, .invokestatic 197), (15, .ifCond .eq 22), (18, .iload 1), (19, .goto 23)]
theorem h_258_0 : chk (mt 258) 22 0 b_258_0 = true := by decide +kernel
def b_258_22 : List (Nat × Instr) := [(22, .iconst 0)]
theorem h_258_22 : chk (mt 258) 23 22 b_258_22 = true := by decide +kernel
def b_258_23 : List (Nat × Instr) := [(23, .iaload), (24, .iconst 65), (26, .if_icmp .ge 62), (29, .iload 2), (30, .i2l), (31, .sipush 0), (32, .aload 0), (33, .getfield 1233), (36, .iload 1), (37, .invokestatic 197), (40, .ifCond .eq 47), (43, .iload 1), (44, .goto 48)]
theorem h_258_23 : chk (mt 258) 47 23 b_258_23 = true := by decide +kernel
def b_258_47 : List (Nat × Instr) := [(47, .iconst 0)]
theorem h_258_47 : chk (mt 258) 48 47 b_258_47 = true := by decide +kernel
def b_258_48 : List (Nat × Instr) := [(48, .iaload), (49, .i2l), (50, .sipush 1), (51, .lsub), (52, .invokestatic 193), (55, .ifCond .eq 62), (58, .iconst 1), (59, .goto 63)]
theorem h_258_48 : chk (mt 258) 62 48 b_258_48 = true := by decide +kernel
def b_258_62 : List (Nat × Instr) := [(62, .iconst 0)]
theorem h_258_62 : chk (mt 258) 63 62 b_258_62 = true := by decide +kernel
def b_258_63 : List (Nat × Instr) := [(63, .ireturn)]
theorem h_258_63 : chk (mt 258) 64 63 b_258_63 = true := by decide +kernel
def b_259_0 : List (Nat × Instr) := [(0, .aload 0), (1, .iconst 0), (2, .putfield 1200), (5, .aload 0), (6, .invokevirtual 253), (9, .aload 0), (10, .iload 1), (11, .iload 2), (12, .invokevirtual 258), (15, .ifCond .eq 45), (18, .iload 3), (19, .invokestatic 202), (22, .ifCond .eq 45), (25, .aload 0), (26, .getfield 1235), (29, .iconst 640), (32, .iload 1), (33, .imul), (34, .iconst 10), (36, .iload 2), (37, .imul), (38, .iadd), (39, .iload 3), (40, .iadd), (41, .iaload), (42, .goto 46)]
theorem h_259_0 : chk (mt 259) 45 0 b_259_0 = true := by decide +kernel
def b_259_45 : List (Nat × Instr) := [(45, .iconst (-1))]
theorem h_259_45 : chk (mt 259) 46 45 b_259_45 = true := by decide +kernel
def b_259_46 : List (Nat × Instr) := [(46, .ireturn)]
theorem h_259_46 : chk (mt 259) 47 46 b_259_46 = true := by decide +kernel
def b_260_0 : List (Nat × Instr) := [(0, .aload 0), (1, .iconst 0), (2, .putfield 1200), (5, .iload 1), (6, .i2l), (7, .sipush 0), (8, .sipush 1), (9, .invokestatic 193), (12, .ifCond .eq 22), (15, .aload 0), (16, .invokevirtual 261), (19, .ifCond .ne 24)]
theorem h_260_0 : chk (mt 260) 22 0 b_260_0 = true := by decide +kernel
def b_260_22 : List (Nat × Instr) := [(22, .iconst (-1)), (23, .ireturn)]
theorem h_260_22 : chk (mt 260) 24 22 b_260_22 = true := by decide +kernel
def b_260_24 : List (Nat × Instr) := [(24, .iload 1), (25, .ifCond .ne 35), (28, .aload 0), (29, .getfield 1253), (32, .goto 39)]
theorem h_260_24 : chk (mt 260) 35 24 b_260_24 = true := by decide +kernel
def b_260_35 : List (Nat × Instr) := [(35, .aload 0), (36, .getfield 1254)]
theorem h_260_35 : chk (mt 260) 39 35 b_260_35 = true := by decide +kernel
def b_260_39 : List (Nat × Instr) := [(39, .ireturn)]
theorem h_260_39 : chk (mt 260) 40 39 b_260_39 = true := by decide +kernel
def b_261_0 : List (Nat × Instr) := [(0, .aload 0), (1, .getfield 1251), (4, .ifCond .eq 12), (7, .aload 0), (8, .getfield 1252), (11, .ireturn)]
theorem h_261_0 : chk (mt 261) 12 0 b_261_0 = true := by decide +kernel
def b_261_12 : List (Nat × Instr) := [(12, .aload 0), (13, .iconst 1), (14, .putfield 1251), (17, .aload 0), (18, .aload 0), (19, .aload 0), (20, .getfield 1203), (23, .iconst 0), (24, .iaload), (25, .aload 0), (26, .getfield 1203), (29, .iconst 1), (30, .iaload), (31, .aload 0), (32, .getfield 1203), (35, .iconst 2), (36, .iaload), (37, .invokevirtual 262), (40, .putfield 1252), (43, .aload 0), (44, .getfield 1252), (47, .ifCond .ne 52), (50, .iconst 0), (51, .ireturn)]
theorem h_261_12 : chk (mt 261) 52 12 b_261_12 = true := by decide +kernel
def b_261_52 : List (Nat × Instr) := [(52, .aload 0), (53, .aload 0), (54, .invokevirtual 263), (57, .putfield 1253), (60, .aload 0), (61, .aload 0), (62, .getfield 1246), (65, .iconst 0), (66, .iaload), (67, .putfield 1254), (70, .iconst 0), (71, .istore 1), (72, .iconst 0), (73, .istore 2)]
theorem h_261_52 : chk (mt 261) 74 52 b_261_52 = true := by decide +kernel
def b_261_74 : List (Nat × Instr) := [(74, .iload 2), (75, .iconst 10), (77, .if_icmp .ge 93), (80, .aload 0), (81, .getfield 1256), (84, .iload 2), (85, .iconst 0), (86, .iastore), (87, .iinc 2 1), (90, .goto 74)]
theorem h_261_74 : chk (mt 261) 93 74 b_261_74 = true := by decide +kernel
def b_261_93 : List (Nat × Instr) := [(93, .iconst 0), (94, .istore 2)]
theorem h_261_93 : chk (mt 261) 95 93 b_261_93 = true := by decide +kernel
def b_261_95 : List (Nat × Instr) := [(95, .iload 2), (96, .aload 0), (97, .getfield 1240), (100, .if_icmp .ge 236), (103, .aload 0), (104, .iload 1), (105, .invokevirtual 265), (108, .iconst 0), (109, .istore 3)]
theorem h_261_95 : chk (mt 261) 110 95 b_261_95 = true := by decide +kernel
def b_261_110 : List (Nat × Instr) := [(110, .aload 0), (111, .iload 2), (112, .iload 3), (113, .invokevirtual 268), (116, .aload 0), (117, .getfield 1245), (120, .iconst 59049), (123, .iload 2), (124, .iconst 1), (125, .iadd), (126, .imul), (127, .aload 0), (128, .aload 0), (129, .getfield 1239), (132, .iload 2), (133, .iaload), (134, .iload 3), (135, .invokevirtual 266), (138, .iadd), (139, .iaload), (140, .iadd), (141, .aload 0), (142, .getfield 1245), (145, .iconst 59049), (148, .iload 2), (149, .imul), (150, .iload 1), (151, .iadd), (152, .iaload), (153, .if_icmp .eq 162), (156, .iinc 3 1), (159, .goto 110)]
theorem h_261_110 : chk (mt 261) 162 110 b_261_110 = true := by decide +kernel
def b_261_162 : List (Nat × Instr) := [(162, .aload 0), (163, .getfield 1255), (166, .iload 2), (167, .iload 3), (168, .iastore), (169, .aload 0), (170, .aload 0), (171, .getfield 1239), (174, .iload 2), (175, .iaload), (176, .iload 3), (177, .invokevirtual 266), (180, .istore 1), (181, .iconst 0), (182, .istore 4)]
theorem h_261_162 : chk (mt 261) 184 162 b_261_162 = true := by decide +kernel
def b_261_184 : List (Nat × Instr) := [(184, .iload 4), (186, .iconst 10), (188, .if_icmp .ge 230), (191, .aload 0), (192, .getfield 1256), (195, .iload 4), (197, .dup2), (198, .iaload), (199, .aload 0), (200, .getfield 1235), (203, .iconst 640), (206, .aload 0), (207, .getfield 1239), (210, .iload 2), (211, .iaload), (212, .imul), (213, .iconst 10), (215, .iload 3), (216, .imul), (217, .iadd), (218, .iload 4), (220, .iadd), (221, .iaload), (222, .iadd), (223, .iastore), (224, .iinc 4 1), (227, .goto 184)]
theorem h_261_184 : chk (mt 261) 230 184 b_261_184 = true := by decide +kernel
def b_261_230 : List (Nat × Instr) := [(230, .iinc 2 1), (233, .goto 95)]
theorem h_261_230 : chk (mt 261) 236 230 b_261_230 = true := by decide +kernel
def b_261_236 : List (Nat × Instr) := [(236, .iconst 1), (237, .ireturn)]
theorem h_261_236 : chk (mt 261) 238 236 b_261_236 = true := by decide +kernel
def b_262_0 : List (Nat × Instr) := [(0, .aload 0), (1, .invokevirtual 253), (4, .aload 0), (5, .iconst 0), (6, .putfield 1240), (9, .iconst 0), (10, .istore 4)]
theorem h_262_0 : chk (mt 262) 12 0 b_262_0 = true := by decide +kernel
def b_262_12 : List (Nat × Instr) := [(12, .iload 4), (14, .iconst 3), (15, .if_icmp .ge 102), (18, .iload 4), (20, .ifCond .ne 27), (23, .iload 1), (24, .goto 38)]
theorem h_262_12 : chk (mt 262) 27 12 b_262_12 = true := by decide +kernel
def b_262_27 : List (Nat × Instr) := [(27, .iload 4), (29, .iconst 1), (30, .if_icmp .ne 37), (33, .iload 2), (34, .goto 38)]
theorem h_262_27 : chk (mt 262) 37 27 b_262_27 = true := by decide +kernel
def b_262_37 : List (Nat × Instr) := [(37, .iload 3)]
theorem h_262_37 : chk (mt 262) 38 37 b_262_37 = true := by decide +kernel
def b_262_38 : List (Nat × Instr) := [(38, .istore 5), (40, .iconst 0), (41, .istore 6)]
theorem h_262_38 : chk (mt 262) 43 38 b_262_38 = true := by decide +kernel
def b_262_43 : List (Nat × Instr) := [(43, .iload 6), (45, .iload 5), (47, .if_icmp .ge 77), (50, .aload 0), (51, .getfield 1239), (54, .aload 0), (55, .getfield 1240), (58, .iload 4), (60, .iastore), (61, .aload 0), (62, .dup), (63, .getfield 1240), (66, .iconst 1), (67, .iadd), (68, .putfield 1240), (71, .iinc 6 1), (74, .goto 43)]
theorem h_262_43 : chk (mt 262) 77 43 b_262_43 = true := by decide +kernel
def b_262_77 : List (Nat × Instr) := [(77, .iload 5), (79, .ifCond .le 96), (82, .aload 0), (83, .getfield 1233), (86, .iload 4), (88, .iaload), (89, .iconst 64), (91, .if_icmp .le 96), (94, .iconst 0), (95, .ireturn)]
theorem h_262_77 : chk (mt 262) 96 77 b_262_77 = true := by decide +kernel
def b_262_96 : List (Nat × Instr) := [(96, .iinc 4 1), (99, .goto 12)]
theorem h_262_96 : chk (mt 262) 102 96 b_262_96 = true := by decide +kernel
def b_262_102 : List (Nat × Instr) := [(102, .aload 0), (103, .iconst 1), (104, .putfield 1248), (107, .iconst 0), (108, .istore 4)]
theorem h_262_102 : chk (mt 262) 110 102 b_262_102 = true := by decide +kernel
def b_262_110 : List (Nat × Instr) := [(110, .iload 4), (112, .iconst 10), (114, .if_icmp .ge 140), (117, .aload 0), (118, .getfield 1241), (121, .iload 4), (123, .aload 0), (124, .getfield 1203), (127, .iconst 60), (129, .iload 4), (131, .iadd), (132, .iaload), (133, .iastore), (134, .iinc 4 1), (137, .goto 110)]
theorem h_262_110 : chk (mt 262) 140 110 b_262_110 = true := by decide +kernel
def b_262_140 : List (Nat × Instr) := [(140, .iconst 1), (141, .ireturn)]
theorem h_262_140 : chk (mt 262) 142 140 b_262_140 = true := by decide +kernel
def b_263_0 : List (Nat × Instr) := [(0, .aload 0), (1, .invokevirtual 264), (4, .iconst 0), (5, .istore 1)]
theorem h_263_0 : chk (mt 263) 6 0 b_263_0 = true := by decide +kernel
def b_263_6 : List (Nat × Instr) := [(6, .iload 1), (7, .aload 0), (8, .getfield 1240), (11, .if_icmp .gt 61), (14, .iconst 0), (15, .istore 2)]
theorem h_263_6 : chk (mt 263) 16 6 b_263_6 = true := by decide +kernel
def b_263_16 : List (Nat × Instr) := [(16, .iload 2), (17, .aload 0), (18, .getfield 1244), (21, .if_icmp .ge 55), (24, .aload 0), (25, .getfield 1247), (28, .iconst 59049), (31, .iload 1), (32, .imul), (33, .iload 2), (34, .iadd), (35, .iload 1), (36, .ifCond .ne 47), (39, .iload 2), (40, .ifCond .ne 47), (43, .iconst 1), (44, .goto 48)]
theorem h_263_16 : chk (mt 263) 47 16 b_263_16 = true := by decide +kernel
def b_263_47 : List (Nat × Instr) := [(47, .iconst 0)]
theorem h_263_47 : chk (mt 263) 48 47 b_263_47 = true := by decide +kernel
def b_263_48 : List (Nat × Instr) := [(48, .bastore), (49, .iinc 2 1), (52, .goto 16)]
theorem h_263_48 : chk (mt 263) 55 48 b_263_48 = true := by decide +kernel
def b_263_55 : List (Nat × Instr) := [(55, .iinc 1 1), (58, .goto 6)]
theorem h_263_55 : chk (mt 263) 61 55 b_263_55 = true := by decide +kernel
def b_263_61 : List (Nat × Instr) := [(61, .iconst 0), (62, .istore 1)]
theorem h_263_61 : chk (mt 263) 63 61 b_263_61 = true := by decide +kernel
def b_263_63 : List (Nat × Instr) := [(63, .iload 1), (64, .aload 0), (65, .getfield 1240), (68, .if_icmp .ge 161), (71, .iconst 0), (72, .istore 2)]
theorem h_263_63 : chk (mt 263) 73 63 b_263_63 = true := by decide +kernel
def b_263_73 : List (Nat × Instr) := [(73, .iload 2), (74, .aload 0), (75, .getfield 1244), (78, .if_icmp .ge 155), (81, .aload 0), (82, .getfield 1247), (85, .iconst 59049), (88, .iload 1), (89, .imul), (90, .iload 2), (91, .iadd), (92, .baload), (93, .ifCond .eq 149), (96, .aload 0), (97, .iload 2), (98, .invokevirtual 265), (101, .iconst 0), (102, .istore 3)]
theorem h_263_73 : chk (mt 263) 103 73 b_263_73 = true := by decide +kernel
def b_263_103 : List (Nat × Instr) := [(103, .iload 3), (104, .aload 0), (105, .getfield 1233), (108, .aload 0), (109, .getfield 1239), (112, .iload 1), (113, .iaload), (114, .iaload), (115, .if_icmp .ge 149), (118, .aload 0), (119, .getfield 1247), (122, .iconst 59049), (125, .iload 1), (126, .iconst 1), (127, .iadd), (128, .imul), (129, .aload 0), (130, .aload 0), (131, .getfield 1239), (134, .iload 1), (135, .iaload), (136, .iload 3), (137, .invokevirtual 266), (140, .iadd), (141, .iconst 1), (142, .bastore), (143, .iinc 3 1), (146, .goto 103)]
theorem h_263_103 : chk (mt 263) 149 103 b_263_103 = true := by decide +kernel
def b_263_149 : List (Nat × Instr) := [(149, .iinc 2 1), (152, .goto 73)]
theorem h_263_149 : chk (mt 263) 155 149 b_263_149 = true := by decide +kernel
def b_263_155 : List (Nat × Instr) := [(155, .iinc 1 1), (158, .goto 63)]
theorem h_263_155 : chk (mt 263) 161 155 b_263_155 = true := by decide +kernel
def b_263_161 : List (Nat × Instr) := [(161, .iconst 0), (162, .istore 1)]
theorem h_263_161 : chk (mt 263) 163 161 b_263_161 = true := by decide +kernel
def b_263_163 : List (Nat × Instr) := [(163, .iload 1), (164, .aload 0), (165, .getfield 1244), (168, .if_icmp .ge 276), (171, .aload 0), (172, .iload 1), (173, .invokevirtual 265), (176, .iconst 0), (177, .istore 2), (178, .iconst 0), (179, .istore 3)]
theorem h_263_163 : chk (mt 263) 180 163 b_263_163 = true := by decide +kernel
def b_263_180 : List (Nat × Instr) := [(180, .iload 3), (181, .aload 0), (182, .getfield 1243), (185, .if_icmp .ge 233), (188, .iload 2), (189, .aload 0), (190, .getfield 1250), (193, .iload 3), (194, .iaload), (195, .aload 0), (196, .getfield 1203), (199, .iconst 40), (201, .aload 0), (202, .getfield 1242), (205, .iload 3), (206, .iaload), (207, .iadd), (208, .iaload), (209, .aload 0), (210, .getfield 1203), (213, .iconst 50), (215, .aload 0), (216, .getfield 1242), (219, .iload 3), (220, .iaload), (221, .iadd), (222, .iaload), (223, .isub), (224, .imul), (225, .iadd), (226, .istore 2), (227, .iinc 3 1), (230, .goto 180)]
theorem h_263_180 : chk (mt 263) 233 180 b_263_180 = true := by decide +kernel
def b_263_233 : List (Nat × Instr) := [(233, .aload 0), (234, .getfield 1245), (237, .iconst 59049), (240, .aload 0), (241, .getfield 1240), (244, .imul), (245, .iload 1), (246, .iadd), (247, .aload 0), (248, .getfield 1248), (251, .iload 2), (252, .imul), (253, .iastore), (254, .aload 0), (255, .getfield 1246), (258, .iconst 59049), (261, .aload 0), (262, .getfield 1240), (265, .imul), (266, .iload 1), (267, .iadd), (268, .iconst 1), (269, .iastore), (270, .iinc 1 1), (273, .goto 163)]
theorem h_263_233 : chk (mt 263) 276 233 b_263_233 = true := by decide +kernel
def b_263_276 : List (Nat × Instr) := [(276, .aload 0), (277, .getfield 1240), (280, .iconst 1), (281, .isub), (282, .istore 1)]
theorem h_263_276 : chk (mt 263) 283 276 b_263_276 = true := by decide +kernel
def b_263_283 : List (Nat × Instr) := [(283, .iload 1), (284, .ifCond .lt 330), (287, .iconst 0), (288, .istore 2)]
theorem h_263_283 : chk (mt 263) 289 283 b_263_283 = true := by decide +kernel
def b_263_289 : List (Nat × Instr) := [(289, .iload 2), (290, .aload 0), (291, .getfield 1244), (294, .if_icmp .ge 324), (297, .aload 0), (298, .getfield 1247), (301, .iconst 59049), (304, .iload 1), (305, .imul), (306, .iload 2), (307, .iadd), (308, .baload), (309, .ifCond .eq 318), (312, .aload 0), (313, .iload 1), (314, .iload 2), (315, .invokevirtual 267)]
theorem h_263_289 : chk (mt 263) 318 289 b_263_289 = true := by decide +kernel
def b_263_318 : List (Nat × Instr) := [(318, .iinc 2 1), (321, .goto 289)]
theorem h_263_318 : chk (mt 263) 324 318 b_263_318 = true := by decide +kernel
def b_263_324 : List (Nat × Instr) := [(324, .iinc 1 (-1)), (327, .goto 283)]
theorem h_263_324 : chk (mt 263) 330 324 b_263_324 = true := by decide +kernel
def b_263_330 : List (Nat × Instr) := [(330, .aload 0), (331, .getfield 1245), (334, .iconst 0), (335, .iaload), (336, .ireturn)]
theorem h_263_330 : chk (mt 263) 337 330 b_263_330 = true := by decide +kernel
def b_264_0 : List (Nat × Instr) := [(0, .aload 0), (1, .iconst 0), (2, .putfield 1243), (5, .aload 0), (6, .iconst 1), (7, .putfield 1244), (10, .iconst 0), (11, .istore 1)]
theorem h_264_0 : chk (mt 264) 12 0 b_264_0 = true := by decide +kernel
def b_264_12 : List (Nat × Instr) := [(12, .iload 1), (13, .iconst 10), (15, .if_icmp .ge 70), (18, .aload 0), (19, .getfield 1241), (22, .iload 1), (23, .iaload), (24, .ifCond .le 64), (27, .aload 0), (28, .getfield 1242), (31, .aload 0), (32, .getfield 1243), (35, .iload 1), (36, .iastore), (37, .aload 0), (38, .dup), (39, .getfield 1243), (42, .iconst 1), (43, .iadd), (44, .putfield 1243), (47, .aload 0), (48, .dup), (49, .getfield 1244), (52, .aload 0), (53, .getfield 1241), (56, .iload 1), (57, .iaload), (58, .iconst 1), (59, .iadd), (60, .imul), (61, .putfield 1244)]
theorem h_264_12 : chk (mt 264) 64 12 b_264_12 = true := by decide +kernel
def b_264_64 : List (Nat × Instr) := [(64, .iinc 1 1), (67, .goto 12)]
theorem h_264_64 : chk (mt 264) 70 64 b_264_64 = true := by decide +kernel
def b_264_70 : List (Nat × Instr) := [(70, .return_)]
theorem h_264_70 : chk (mt 264) 71 70 b_264_70 = true := by decide +kernel
def b_265_0 : List (Nat × Instr) := [(0, .iload 1), (1, .istore 2), (2, .iconst 0), (3, .istore 3)]
theorem h_265_0 : chk (mt 265) 4 0 b_265_0 = true := by decide +kernel
def b_265_4 : List (Nat × Instr) := [(4, .iload 3), (5, .aload 0), (6, .getfield 1243), (9, .if_icmp .ge 48), (12, .aload 0), (13, .getfield 1241), (16, .aload 0), (17, .getfield 1242), (20, .iload 3), (21, .iaload), (22, .iaload), (23, .iconst 1), (24, .iadd), (25, .istore 4), (27, .aload 0), (28, .getfield 1250), (31, .iload 3), (32, .iload 2), (33, .iload 4), (35, .irem), (36, .iastore), (37, .iload 2), (38, .iload 4), (40, .idiv), (41, .istore 2), (42, .iinc 3 1), (45, .goto 4)]
theorem h_265_4 : chk (mt 265) 48 4 b_265_4 = true := by decide +kernel
def b_265_48 : List (Nat × Instr) := [(48, .return_)]
theorem h_265_48 : chk (mt 265) 49 48 b_265_48 = true := by decide +kernel
def b_266_0 : List (Nat × Instr) := [(0, .iconst 640), (3, .iload 1), (4, .imul), (5, .iconst 10), (7, .iload 2), (8, .imul), (9, .iadd), (10, .istore 3), (11, .iconst 0), (12, .istore 4), (14, .aload 0), (15, .getfield 1243), (18, .iconst 1), (19, .isub), (20, .istore 5)]
theorem h_266_0 : chk (mt 266) 22 0 b_266_0 = true := by decide +kernel
def b_266_22 : List (Nat × Instr) := [(22, .iload 5), (24, .ifCond .lt 95), (27, .aload 0), (28, .getfield 1241), (31, .aload 0), (32, .getfield 1242), (35, .iload 5), (37, .iaload), (38, .iaload), (39, .istore 6), (41, .aload 0), (42, .getfield 1250), (45, .iload 5), (47, .iaload), (48, .aload 0), (49, .getfield 1235), (52, .iload 3), (53, .aload 0), (54, .getfield 1242), (57, .iload 5), (59, .iaload), (60, .iadd), (61, .iaload), (62, .iadd), (63, .istore 7), (65, .iload 4), (67, .iload 6), (69, .iconst 1), (70, .iadd), (71, .imul), (72, .iload 7), (74, .iload 6), (76, .if_icmp .le 84), (79, .iload 6), (81, .goto 86)]
theorem h_266_22 : chk (mt 266) 84 22 b_266_22 = true := by decide +kernel
def b_266_84 : List (Nat × Instr) := [(84, .iload 7)]
theorem h_266_84 : chk (mt 266) 86 84 b_266_84 = true := by decide +kernel
def b_266_86 : List (Nat × Instr) := [(86, .iadd), (87, .istore 4), (89, .iinc 5 (-1)), (92, .goto 22)]
theorem h_266_86 : chk (mt 266) 95 86 b_266_86 = true := by decide +kernel
def b_266_95 : List (Nat × Instr) := [(95, .iload 4), (97, .ireturn)]
theorem h_266_95 : chk (mt 266) 98 95 b_266_95 = true := by decide +kernel
def b_267_0 : List (Nat × Instr) := [(0, .aload 0), (1, .iload 2), (2, .invokevirtual 265), (5, .iconst 0), (6, .istore 3), (7, .sipush 0), (8, .lstore 4), (10, .iconst 0), (11, .istore 6)]
theorem h_267_0 : chk (mt 267) 13 0 b_267_0 = true := by decide +kernel
def b_267_13 : List (Nat × Instr) := [(13, .iload 6), (15, .aload 0), (16, .getfield 1233), (19, .aload 0), (20, .getfield 1239), (23, .iload 1), (24, .iaload), (25, .iaload), (26, .if_icmp .ge 114), (29, .iconst 59049), (32, .iload 1), (33, .iconst 1), (34, .iadd), (35, .imul), (36, .aload 0), (37, .aload 0), (38, .getfield 1239), (41, .iload 1), (42, .iaload), (43, .iload 6), (45, .invokevirtual 266), (48, .iadd), (49, .istore 7), (51, .aload 0), (52, .iload 1), (53, .iload 6), (55, .invokevirtual 268), (58, .aload 0), (59, .getfield 1245), (62, .iload 7), (64, .iaload), (65, .iadd), (66, .istore 8), (68, .iload 6), (70, .ifCond .eq 79), (73, .iload 8), (75, .iload 3), (76, .if_icmp .le 85)]
theorem h_267_13 : chk (mt 267) 79 13 b_267_13 = true := by decide +kernel
def b_267_79 : List (Nat × Instr) := [(79, .iload 8), (81, .istore 3), (82, .sipush 0), (83, .lstore 4)]
theorem h_267_79 : chk (mt 267) 85 79 b_267_79 = true := by decide +kernel
def b_267_85 : List (Nat × Instr) := [(85, .lload 4), (87, .iload 8), (89, .iload 3), (90, .if_icmp .ne 104), (93, .aload 0), (94, .getfield 1246), (97, .iload 7), (99, .iaload), (100, .i2l), (101, .goto 105)]
theorem h_267_85 : chk (mt 267) 104 85 b_267_85 = true := by decide +kernel
def b_267_104 : List (Nat × Instr) := [(104, .sipush 0)]
theorem h_267_104 : chk (mt 267) 105 104 b_267_104 = true := by decide +kernel
def b_267_105 : List (Nat × Instr) := [(105, .ladd), (106, .lstore 4), (108, .iinc 6 1), (111, .goto 13)]
theorem h_267_105 : chk (mt 267) 114 105 b_267_105 = true := by decide +kernel
def b_267_114 : List (Nat × Instr) := [(114, .aload 0), (115, .getfield 1245), (118, .iconst 59049), (121, .iload 1), (122, .imul), (123, .iload 2), (124, .iadd), (125, .iload 3), (126, .iastore), (127, .aload 0), (128, .getfield 1246), (131, .iconst 59049), (134, .iload 1), (135, .imul), (136, .iload 2), (137, .iadd), (138, .lload 4), (140, .sipush 1000000000), (143, .lcmp), (144, .ifCond .le 153), (147, .iconst 1000000000), (150, .goto 156)]
theorem h_267_114 : chk (mt 267) 153 114 b_267_114 = true := by decide +kernel
def b_267_153 : List (Nat × Instr) := [(153, .lload 4), (155, .l2i)]
theorem h_267_153 : chk (mt 267) 156 153 b_267_153 = true := by decide +kernel
def b_267_156 : List (Nat × Instr) := [(156, .iastore), (157, .return_)]
theorem h_267_156 : chk (mt 267) 158 156 b_267_156 = true := by decide +kernel
def b_268_0 : List (Nat × Instr) := [(0, .aload 0), (1, .getfield 1248), (4, .aload 0), (5, .aload 0), (6, .getfield 1239), (9, .iload 1), (10, .iaload), (11, .iload 2), (12, .invokevirtual 269), (15, .imul), (16, .aload 0), (17, .getfield 1248), (20, .iconst 1), (21, .if_icmp .le 38), (24, .iload 2), (25, .aload 0), (26, .getfield 1249), (29, .iload 1), (30, .iaload), (31, .if_icmp .eq 38), (34, .iconst 1), (35, .goto 39)]
theorem h_268_0 : chk (mt 268) 38 0 b_268_0 = true := by decide +kernel
def b_268_38 : List (Nat × Instr) := [(38, .iconst 0)]
theorem h_268_38 : chk (mt 268) 39 38 b_268_38 = true := by decide +kernel
def b_268_39 : List (Nat × Instr) := [(39, .isub), (40, .ireturn)]
theorem h_268_39 : chk (mt 268) 41 39 b_268_39 = true := by decide +kernel
def b_269_0 : List (Nat × Instr) := [(0, .iconst 0), (1, .istore 3), (2, .iconst 0), (3, .istore 4)]
theorem h_269_0 : chk (mt 269) 5 0 b_269_0 = true := by decide +kernel
def b_269_5 : List (Nat × Instr) := [(5, .iload 4), (7, .iconst 10), (9, .if_icmp .ge 50), (12, .iload 3), (13, .aload 0), (14, .getfield 1203), (17, .iconst 50), (19, .iload 4), (21, .iadd), (22, .iaload), (23, .aload 0), (24, .getfield 1235), (27, .iconst 640), (30, .iload 1), (31, .imul), (32, .iconst 10), (34, .iload 2), (35, .imul), (36, .iadd), (37, .iload 4), (39, .iadd), (40, .iaload), (41, .imul), (42, .iadd), (43, .istore 3), (44, .iinc 4 1), (47, .goto 5)]
theorem h_269_5 : chk (mt 269) 50 5 b_269_5 = true := by decide +kernel
def b_269_50 : List (Nat × Instr) := [(50, .iload 3), (51, .ireturn)]
theorem h_269_50 : chk (mt 269) 52 50 b_269_50 = true := by decide +kernel
def b_270_0 : List (Nat × Instr) := [(0, .aload 0), (1, .iconst 0), (2, .putfield 1200), (5, .aload 0), (6, .invokevirtual 261), (9, .ifCond .eq 37), (12, .iload 1), (13, .i2l), (14, .sipush 0), (15, .aload 0), (16, .invokevirtual 198), (19, .i2l), (20, .sipush 1), (21, .lsub), (22, .invokestatic 193), (25, .ifCond .eq 37), (28, .aload 0), (29, .getfield 1255), (32, .iload 1), (33, .iaload), (34, .goto 38)]
theorem h_270_0 : chk (mt 270) 37 0 b_270_0 = true := by decide +kernel
def b_270_37 : List (Nat × Instr) := [(37, .iconst (-1))]
theorem h_270_37 : chk (mt 270) 38 37 b_270_37 = true := by decide +kernel
def b_270_38 : List (Nat × Instr) := [(38, .ireturn)]
theorem h_270_38 : chk (mt 270) 39 38 b_270_38 = true := by decide +kernel
def b_271_0 : List (Nat × Instr) := [(0, .aload 0), (1, .iconst 0), (2, .putfield 1200), (5, .iload 1), (6, .invokestatic 202), (9, .ifCond .eq 29), (12, .iload 2), (13, .i2l), (14, .sipush 0), (15, .sipush 1), (16, .invokestatic 193), (19, .ifCond .eq 29), (22, .aload 0), (23, .invokevirtual 261), (26, .ifCond .ne 31)]
theorem h_271_0 : chk (mt 271) 29 0 b_271_0 = true := by decide +kernel
def b_271_29 : List (Nat × Instr) := [(29, .iconst (-1)), (30, .ireturn)]
theorem h_271_29 : chk (mt 271) 31 29 b_271_29 = true := by decide +kernel
def b_271_31 : List (Nat × Instr) := [(31, .iload 2), (32, .ifCond .ne 44), (35, .aload 0), (36, .getfield 1256), (39, .iload 1), (40, .iaload), (41, .goto 62)]
theorem h_271_31 : chk (mt 271) 44 31 b_271_31 = true := by decide +kernel
def b_271_44 : List (Nat × Instr) := [(44, .aload 0), (45, .getfield 1203), (48, .iconst 60), (50, .iload 1), (51, .iadd), (52, .iaload), (53, .aload 0), (54, .getfield 1256), (57, .iload 1), (58, .iaload), (59, .invokestatic 272)]
theorem h_271_44 : chk (mt 271) 62 44 b_271_44 = true := by decide +kernel
def b_271_62 : List (Nat × Instr) := [(62, .ireturn)]
theorem h_271_62 : chk (mt 271) 63 62 b_271_62 = true := by decide +kernel
def b_272_0 : List (Nat × Instr) := [(0, .iload 0), (1, .iload 1), (2, .if_icmp .le 11), (5, .iload 0), (6, .iload 1), (7, .isub), (8, .goto 12)]
theorem h_272_0 : chk (mt 272) 11 0 b_272_0 = true := by decide +kernel
def b_272_11 : List (Nat × Instr) := [(11, .iconst 0)]
theorem h_272_11 : chk (mt 272) 12 11 b_272_11 = true := by decide +kernel
def b_272_12 : List (Nat × Instr) := [(12, .ireturn)]
theorem h_272_12 : chk (mt 272) 13 12 b_272_12 = true := by decide +kernel
def b_273_0 : List (Nat × Instr) := [(0, .aload 0), (1, .iconst 0), (2, .putfield 1200), (5, .iload 1), (6, .invokestatic 197), (9, .ifCond .eq 28), (12, .aload 0), (13, .invokevirtual 261), (16, .ifCond .eq 28), (19, .aload 0), (20, .invokevirtual 198), (23, .iconst 8), (25, .if_icmp .ne 30)]
theorem h_273_0 : chk (mt 273) 28 0 b_273_0 = true := by decide +kernel
def b_273_28 : List (Nat × Instr) := [(28, .iconst (-1)), (29, .ireturn)]
theorem h_273_28 : chk (mt 273) 30 28 b_273_28 = true := by decide +kernel
def b_273_30 : List (Nat × Instr) := [(30, .aload 0), (31, .iload 1), (32, .iconst 1), (33, .invokevirtual 274), (36, .istore 2), (37, .iload 2), (38, .iconst (-1)), (39, .if_icmp .ne 46), (42, .iconst (-1)), (43, .goto 52)]
theorem h_273_30 : chk (mt 273) 46 30 b_273_30 = true := by decide +kernel
def b_273_46 : List (Nat × Instr) := [(46, .iload 2), (47, .aload 0), (48, .getfield 1253), (51, .isub)]
theorem h_273_46 : chk (mt 273) 52 46 b_273_46 = true := by decide +kernel
def b_273_52 : List (Nat × Instr) := [(52, .ireturn)]
theorem h_273_52 : chk (mt 273) 53 52 b_273_52 = true := by decide +kernel
def b_274_0 : List (Nat × Instr) := [(0, .aload 0), (1, .aload 0), (2, .getfield 1203), (5, .iconst 0), (6, .iaload), (7, .iload 1), (8, .ifCond .ne 15), (11, .iload 2), (12, .goto 16)]
theorem h_274_0 : chk (mt 274) 15 0 b_274_0 = true := by decide +kernel
def b_274_15 : List (Nat × Instr) := [(15, .iconst 0)]
theorem h_274_15 : chk (mt 274) 16 15 b_274_15 = true := by decide +kernel
def b_274_16 : List (Nat × Instr) := [(16, .iadd), (17, .aload 0), (18, .getfield 1203), (21, .iconst 1), (22, .iaload), (23, .iload 1), (24, .iconst 1), (25, .if_icmp .ne 32), (28, .iload 2), (29, .goto 33)]
theorem h_274_16 : chk (mt 274) 32 16 b_274_16 = true := by decide +kernel
def b_274_32 : List (Nat × Instr) := [(32, .iconst 0)]
theorem h_274_32 : chk (mt 274) 33 32 b_274_32 = true := by decide +kernel
def b_274_33 : List (Nat × Instr) := [(33, .iadd), (34, .aload 0), (35, .getfield 1203), (38, .iconst 2), (39, .iaload), (40, .iload 1), (41, .iconst 2), (42, .if_icmp .ne 49), (45, .iload 2), (46, .goto 50)]
theorem h_274_33 : chk (mt 274) 49 33 b_274_33 = true := by decide +kernel
def b_274_49 : List (Nat × Instr) := [(49, .iconst 0)]
theorem h_274_49 : chk (mt 274) 50 49 b_274_49 = true := by decide +kernel
def b_274_50 : List (Nat × Instr) := [(50, .iadd), (51, .invokevirtual 262), (54, .ifCond .eq 64), (57, .aload 0), (58, .invokevirtual 263), (61, .goto 65)]
theorem h_274_50 : chk (mt 274) 64 50 b_274_50 = true := by decide +kernel
def b_274_64 : List (Nat × Instr) := [(64, .iconst (-1))]
theorem h_274_64 : chk (mt 274) 65 64 b_274_64 = true := by decide +kernel
def b_274_65 : List (Nat × Instr) := [(65, .ireturn)]
theorem h_274_65 : chk (mt 274) 66 65 b_274_65 = true := by decide +kernel
def b_275_0 : List (Nat × Instr) := [(0, .aload 0), (1, .iconst 0), (2, .putfield 1200), (5, .iload 1), (6, .invokestatic 197), (9, .ifCond .eq 41), (12, .aload 0), (13, .invokevirtual 261), (16, .ifCond .eq 41), (19, .aload 0), (20, .getfield 1203), (23, .iconst 0), (24, .iload 1), (25, .invokestatic 197), (28, .ifCond .eq 35), (31, .iload 1), (32, .goto 36)]
theorem h_275_0 : chk (mt 275) 35 0 b_275_0 = true := by decide +kernel
def b_275_35 : List (Nat × Instr) := [(35, .iconst 0)]
theorem h_275_35 : chk (mt 275) 36 35 b_275_35 = true := by decide +kernel
def b_275_36 : List (Nat × Instr) := [(36, .iadd), (37, .iaload), (38, .ifCond .ne 45)]
theorem h_275_36 : chk (mt 275) 41 36 b_275_36 = true := by decide +kernel
def b_275_41 : List (Nat × Instr) := [(41, .iconst (-100000)), (44, .ireturn)]
theorem h_275_41 : chk (mt 275) 45 41 b_275_41 = true := by decide +kernel
def b_275_45 : List (Nat × Instr) := [(45, .aload 0), (46, .getfield 1253), (49, .aload 0), (50, .iload 1), (51, .iconst (-1)), (52, .invokevirtual 274), (55, .isub), (56, .ireturn)]
theorem h_275_45 : chk (mt 275) 57 45 b_275_45 = true := by decide +kernel
def b_276_0 : List (Nat × Instr) := [(0, .aload 0), (1, .iconst 0), (2, .putfield 1200), (5, .iload 1), (6, .invokestatic 202), (9, .ifCond .eq 19), (12, .aload 0), (13, .invokevirtual 261), (16, .ifCond .ne 21)]
theorem h_276_0 : chk (mt 276) 19 0 b_276_0 = true := by decide +kernel
def b_276_19 : List (Nat × Instr) := [(19, .iconst (-1)), (20, .ireturn)]
theorem h_276_19 : chk (mt 276) 21 19 b_276_19 = true := by decide +kernel
def b_276_21 : List (Nat × Instr) := [(21, .aload 0), (22, .getfield 1203), (25, .iconst 60), (27, .iload 1), (28, .iadd), (29, .iaload), (30, .istore 2), (31, .iload 2), (32, .iconst 8), (34, .if_icmp .eq 49), (37, .iload 2), (38, .ifCond .ne 51), (41, .aload 0), (42, .invokevirtual 204), (45, .iconst 5), (46, .if_icmp .ne 51)]
theorem h_276_21 : chk (mt 276) 49 21 b_276_21 = true := by decide +kernel
def b_276_49 : List (Nat × Instr) := [(49, .iconst (-1)), (50, .ireturn)]
theorem h_276_49 : chk (mt 276) 51 49 b_276_49 = true := by decide +kernel
def b_276_51 : List (Nat × Instr) := [(51, .aload 0), (52, .aload 0), (53, .getfield 1203), (56, .iconst 0), (57, .iaload), (58, .aload 0), (59, .getfield 1203), (62, .iconst 1), (63, .iaload), (64, .aload 0), (65, .getfield 1203), (68, .iconst 2), (69, .iaload), (70, .invokevirtual 262), (73, .istore 3), (74, .aload 0), (75, .getfield 1241), (78, .iload 1), (79, .iload 2), (80, .iconst 1), (81, .iadd), (82, .iastore), (83, .iload 3), (84, .ifCond .eq 99), (87, .aload 0), (88, .invokevirtual 263), (91, .aload 0), (92, .getfield 1253), (95, .isub), (96, .goto 100)]
theorem h_276_51 : chk (mt 276) 99 51 b_276_51 = true := by decide +kernel
def b_276_99 : List (Nat × Instr) := [(99, .iconst (-1))]
theorem h_276_99 : chk (mt 276) 100 99 b_276_99 = true := by decide +kernel
def b_276_100 : List (Nat × Instr) := [(100, .ireturn)]
theorem h_276_100 : chk (mt 276) 101 100 b_276_100 = true := by decide +kernel
def b_277_0 : List (Nat × Instr) := [(0, .aload 0), (1, .iconst 0), (2, .putfield 1200), (5, .iload 1), (6, .invokestatic 197), (9, .ifCond .eq 51), (12, .iload 2), (13, .i2l), (14, .sipush 0), (15, .sipush 1), (16, .invokestatic 193), (19, .ifCond .eq 51), (22, .aload 0), (23, .invokevirtual 261), (26, .ifCond .eq 51), (29, .aload 0), (30, .getfield 1203), (33, .iconst 0), (34, .iload 1), (35, .invokestatic 197), (38, .ifCond .eq 45), (41, .iload 1), (42, .goto 46)]
theorem h_277_0 : chk (mt 277) 45 0 b_277_0 = true := by decide +kernel
def b_277_45 : List (Nat × Instr) := [(45, .iconst 0)]
theorem h_277_45 : chk (mt 277) 46 45 b_277_45 = true := by decide +kernel
def b_277_46 : List (Nat × Instr) := [(46, .iadd), (47, .iaload), (48, .ifCond .ne 53)]
theorem h_277_46 : chk (mt 277) 51 46 b_277_46 = true := by decide +kernel
def b_277_51 : List (Nat × Instr) := [(51, .iconst (-1)), (52, .ireturn)]
theorem h_277_51 : chk (mt 277) 53 51 b_277_51 = true := by decide +kernel
def b_277_53 : List (Nat × Instr) := [(53, .aload 0), (54, .getfield 1203), (57, .iconst 0), (58, .iaload), (59, .iload 1), (60, .ifCond .le 72), (63, .aload 0), (64, .getfield 1203), (67, .iconst 1), (68, .iaload), (69, .goto 73)]
theorem h_277_53 : chk (mt 277) 72 53 b_277_53 = true := by decide +kernel
def b_277_72 : List (Nat × Instr) := [(72, .iconst 0)]
theorem h_277_72 : chk (mt 277) 73 72 b_277_72 = true := by decide +kernel
def b_277_73 : List (Nat × Instr) := [(73, .iadd), (74, .iload 1), (75, .iconst 1), (76, .if_icmp .le 88), (79, .aload 0), (80, .getfield 1203), (83, .iconst 2), (84, .iaload), (85, .goto 89)]
theorem h_277_73 : chk (mt 277) 88 73 b_277_73 = true := by decide +kernel
def b_277_88 : List (Nat × Instr) := [(88, .iconst 0)]
theorem h_277_88 : chk (mt 277) 89 88 b_277_88 = true := by decide +kernel
def b_277_89 : List (Nat × Instr) := [(89, .iadd), (90, .iconst 1), (91, .isub), (92, .istore 3), (93, .iconst 0), (94, .istore 4), (96, .iconst 0), (97, .istore 5)]
theorem h_277_89 : chk (mt 277) 99 89 b_277_89 = true := by decide +kernel
def b_277_99 : List (Nat × Instr) := [(99, .iload 5), (101, .aload 0), (102, .invokevirtual 198), (105, .if_icmp .ge 137), (108, .iload 5), (110, .iload 3), (111, .if_icmp .eq 131), (114, .aload 0), (115, .getfield 1249), (118, .iload 4), (120, .aload 0), (121, .getfield 1255), (124, .iload 5), (126, .iaload), (127, .iastore), (128, .iinc 4 1)]
theorem h_277_99 : chk (mt 277) 131 99 b_277_99 = true := by decide +kernel
def b_277_131 : List (Nat × Instr) := [(131, .iinc 5 1), (134, .goto 99)]
theorem h_277_131 : chk (mt 277) 137 131 b_277_131 = true := by decide +kernel
def b_277_137 : List (Nat × Instr) := [(137, .aload 0), (138, .aload 0), (139, .getfield 1203), (142, .iconst 0), (143, .iaload), (144, .iload 1), (145, .ifCond .ne 152), (148, .iconst 1), (149, .goto 153)]
theorem h_277_137 : chk (mt 277) 152 137 b_277_137 = true := by decide +kernel
def b_277_152 : List (Nat × Instr) := [(152, .iconst 0)]
theorem h_277_152 : chk (mt 277) 153 152 b_277_152 = true := by decide +kernel
def b_277_153 : List (Nat × Instr) := [(153, .isub), (154, .aload 0), (155, .getfield 1203), (158, .iconst 1), (159, .iaload), (160, .iload 1), (161, .iconst 1), (162, .if_icmp .ne 169), (165, .iconst 1), (166, .goto 170)]
theorem h_277_153 : chk (mt 277) 169 153 b_277_153 = true := by decide +kernel
def b_277_169 : List (Nat × Instr) := [(169, .iconst 0)]
theorem h_277_169 : chk (mt 277) 170 169 b_277_169 = true := by decide +kernel
def b_277_170 : List (Nat × Instr) := [(170, .isub), (171, .aload 0), (172, .getfield 1203), (175, .iconst 2), (176, .iaload), (177, .iload 1), (178, .iconst 2), (179, .if_icmp .ne 186), (182, .iconst 1), (183, .goto 187)]
theorem h_277_170 : chk (mt 277) 186 170 b_277_170 = true := by decide +kernel
def b_277_186 : List (Nat × Instr) := [(186, .iconst 0)]
theorem h_277_186 : chk (mt 277) 187 186 b_277_186 = true := by decide +kernel
def b_277_187 : List (Nat × Instr) := [(187, .isub), (188, .invokevirtual 262), (191, .ifCond .ne 196), (194, .iconst (-1)), (195, .ireturn)]
theorem h_277_187 : chk (mt 277) 196 187 b_277_187 = true := by decide +kernel
def b_277_196 : List (Nat × Instr) := [(196, .aload 0), (197, .iconst 16), (199, .putfield 1248), (202, .aload 0), (203, .invokevirtual 263), (206, .istore 5), (208, .iload 5), (210, .iconst 15), (212, .iadd), (213, .iconst 16), (215, .idiv), (216, .istore 6), (218, .iload 2), (219, .ifCond .ne 233), (222, .iconst 16), (224, .iload 6), (226, .imul), (227, .iload 5), (229, .isub), (230, .goto 235)]
theorem h_277_196 : chk (mt 277) 233 196 b_277_196 = true := by decide +kernel
def b_277_233 : List (Nat × Instr) := [(233, .iload 6)]
theorem h_277_233 : chk (mt 277) 235 233 b_277_233 = true := by decide +kernel
def b_277_235 : List (Nat × Instr) := [(235, .ireturn)]
theorem h_277_235 : chk (mt 277) 236 235 b_277_235 = true := by decide +kernel
def b_278_0 : List (Nat × Instr) := [(0, .aload 0), (1, .iconst 0), (2, .putfield 1200), (5, .iload 1), (6, .i2l), (7, .sipush 0), (8, .sipush 7), (11, .invokestatic 193), (14, .ifCond .eq 41), (17, .iload 2), (18, .i2l), (19, .sipush 0), (20, .sipush 63), (23, .invokestatic 193), (26, .ifCond .eq 41), (29, .aload 0), (30, .iconst 74), (32, .iload 1), (33, .iadd), (34, .iload 2), (35, .invokevirtual 199), (38, .goto 46)]
theorem h_278_0 : chk (mt 278) 41 0 b_278_0 = true := by decide +kernel
def b_278_41 : List (Nat × Instr) := [(41, .aload 0), (42, .iconst (-1)), (43, .invokevirtual 194)]
theorem h_278_41 : chk (mt 278) 46 41 b_278_41 = true := by decide +kernel
def b_278_46 : List (Nat × Instr) := [(46, .ireturn)]
theorem h_278_46 : chk (mt 278) 47 46 b_278_46 = true := by decide +kernel
def b_279_0 : List (Nat × Instr) := [(0, .aload 0), (1, .iconst 0), (2, .putfield 1200), (5, .iload 1), (6, .i2l), (7, .sipush 0), (8, .sipush 3), (11, .invokestatic 193), (14, .ifCond .eq 24), (17, .aload 0), (18, .invokevirtual 261), (21, .ifCond .ne 26)]
theorem h_279_0 : chk (mt 279) 24 0 b_279_0 = true := by decide +kernel
def b_279_24 : List (Nat × Instr) := [(24, .iconst (-1)), (25, .ireturn)]
theorem h_279_24 : chk (mt 279) 26 24 b_279_24 = true := by decide +kernel
def b_279_26 : List (Nat × Instr) := [(26, .iconst 0), (27, .istore 2), (28, .iconst 0), (29, .istore 3), (30, .iconst 0), (31, .istore 4), (33, .iconst 0), (34, .istore 5)]
theorem h_279_26 : chk (mt 279) 36 26 b_279_26 = true := by decide +kernel
def b_279_36 : List (Nat × Instr) := [(36, .iload 5), (38, .iconst 10), (40, .if_icmp .ge 183), (43, .iconst 0), (44, .istore 6), (46, .iconst 0), (47, .istore 7)]
theorem h_279_36 : chk (mt 279) 49 36 b_279_36 = true := by decide +kernel
def b_279_49 : List (Nat × Instr) := [(49, .iload 7), (51, .aload 0), (52, .invokevirtual 198), (55, .if_icmp .ge 97), (58, .iload 6), (60, .aload 0), (61, .getfield 1235), (64, .iconst 640), (67, .aload 0), (68, .iload 7), (70, .invokevirtual 280), (73, .imul), (74, .iconst 10), (76, .aload 0), (77, .iload 7), (79, .invokevirtual 281), (82, .imul), (83, .iadd), (84, .iload 5), (86, .iadd), (87, .iaload), (88, .iadd), (89, .istore 6), (91, .iinc 7 1), (94, .goto 49)]
theorem h_279_49 : chk (mt 279) 97 49 b_279_49 = true := by decide +kernel
def b_279_97 : List (Nat × Instr) := [(97, .aload 0), (98, .getfield 1203), (101, .iconst 60), (103, .iload 5), (105, .iadd), (106, .iaload), (107, .istore 7), (109, .iload 2), (110, .iload 6), (112, .iload 7), (114, .if_icmp .ge 122), (117, .iload 6), (119, .goto 124)]
theorem h_279_97 : chk (mt 279) 122 97 b_279_97 = true := by decide +kernel
def b_279_122 : List (Nat × Instr) := [(122, .iload 7)]
theorem h_279_122 : chk (mt 279) 124 122 b_279_122 = true := by decide +kernel
def b_279_124 : List (Nat × Instr) := [(124, .aload 0), (125, .getfield 1203), (128, .iconst 40), (130, .iload 5), (132, .iadd), (133, .iaload), (134, .imul), (135, .iload 6), (137, .iload 7), (139, .if_icmp .le 150), (142, .iload 6), (144, .iload 7), (146, .isub), (147, .goto 151)]
theorem h_279_124 : chk (mt 279) 150 124 b_279_124 = true := by decide +kernel
def b_279_150 : List (Nat × Instr) := [(150, .iconst 0)]
theorem h_279_150 : chk (mt 279) 151 150 b_279_150 = true := by decide +kernel
def b_279_151 : List (Nat × Instr) := [(151, .aload 0), (152, .getfield 1203), (155, .iconst 50), (157, .iload 5), (159, .iadd), (160, .iaload), (161, .imul), (162, .iadd), (163, .iadd), (164, .istore 2), (165, .iload 4), (167, .iload 7), (169, .iload 6), (171, .invokestatic 272), (174, .iadd), (175, .istore 4), (177, .iinc 5 1), (180, .goto 36)]
theorem h_279_151 : chk (mt 279) 183 151 b_279_151 = true := by decide +kernel
def b_279_183 : List (Nat × Instr) := [(183, .iconst 0), (184, .istore 5)]
theorem h_279_183 : chk (mt 279) 186 183 b_279_183 = true := by decide +kernel
def b_279_186 : List (Nat × Instr) := [(186, .iload 5), (188, .aload 0), (189, .invokevirtual 198), (192, .if_icmp .ge 225), (195, .iload 3), (196, .aload 0), (197, .iload 5), (199, .invokevirtual 281), (202, .aload 0), (203, .getfield 1255), (206, .iload 5), (208, .iaload), (209, .if_icmp .eq 216), (212, .iconst 1), (213, .goto 217)]
theorem h_279_186 : chk (mt 279) 216 186 b_279_186 = true := by decide +kernel
def b_279_216 : List (Nat × Instr) := [(216, .iconst 0)]
theorem h_279_216 : chk (mt 279) 217 216 b_279_216 = true := by decide +kernel
def b_279_217 : List (Nat × Instr) := [(217, .iadd), (218, .istore 3), (219, .iinc 5 1), (222, .goto 186)]
theorem h_279_217 : chk (mt 279) 225 217 b_279_217 = true := by decide +kernel
def b_279_225 : List (Nat × Instr) := [(225, .iload 1), (226, .ifCond .ne 233), (229, .iload 2), (230, .goto 258)]
theorem h_279_225 : chk (mt 279) 233 225 b_279_225 = true := by decide +kernel
def b_279_233 : List (Nat × Instr) := [(233, .iload 1), (234, .iconst 1), (235, .if_icmp .ne 247), (238, .aload 0), (239, .getfield 1253), (242, .iload 2), (243, .isub), (244, .goto 258)]
theorem h_279_233 : chk (mt 279) 247 233 b_279_233 = true := by decide +kernel
def b_279_247 : List (Nat × Instr) := [(247, .iload 1), (248, .iconst 2), (249, .if_icmp .ne 256), (252, .iload 3), (253, .goto 258)]
theorem h_279_247 : chk (mt 279) 256 247 b_279_247 = true := by decide +kernel
def b_279_256 : List (Nat × Instr) := [(256, .iload 4)]
theorem h_279_256 : chk (mt 279) 258 256 b_279_256 = true := by decide +kernel
def b_279_258 : List (Nat × Instr) := [(258, .ireturn)]
theorem h_279_258 : chk (mt 279) 259 258 b_279_258 = true := by decide +kernel
def b_280_0 : List (Nat × Instr) := [(0, .iload 1), (1, .aload 0), (2, .getfield 1203), (5, .iconst 0), (6, .iaload), (7, .if_icmp .ge 14), (10, .iconst 0), (11, .goto 36)]
theorem h_280_0 : chk (mt 280) 14 0 b_280_0 = true := by decide +kernel
def b_280_14 : List (Nat × Instr) := [(14, .iload 1), (15, .aload 0), (16, .getfield 1203), (19, .iconst 0), (20, .iaload), (21, .aload 0), (22, .getfield 1203), (25, .iconst 1), (26, .iaload), (27, .iadd), (28, .if_icmp .ge 35), (31, .iconst 1), (32, .goto 36)]
theorem h_280_14 : chk (mt 280) 35 14 b_280_14 = true := by decide +kernel
def b_280_35 : List (Nat × Instr) := [(35, .iconst 2)]
theorem h_280_35 : chk (mt 280) 36 35 b_280_35 = true := by decide +kernel
def b_280_36 : List (Nat × Instr) := [(36, .ireturn)]
theorem h_280_36 : chk (mt 280) 37 36 b_280_36 = true := by decide +kernel
def b_281_0 : List (Nat × Instr) := [(0, .aload 0), (1, .getfield 1203), (4, .iconst 74), (6, .iload 1), (7, .iadd), (8, .iaload), (9, .aload 0), (10, .getfield 1233), (13, .aload 0), (14, .iload 1), (15, .invokevirtual 280), (18, .iaload), (19, .if_icmp .ge 34), (22, .aload 0), (23, .getfield 1203), (26, .iconst 74), (28, .iload 1), (29, .iadd), (30, .iaload), (31, .goto 35)]
theorem h_281_0 : chk (mt 281) 34 0 b_281_0 = true := by decide +kernel
def b_281_34 : List (Nat × Instr) := [(34, .iconst 0)]
theorem h_281_34 : chk (mt 281) 35 34 b_281_34 = true := by decide +kernel
def b_281_35 : List (Nat × Instr) := [(35, .ireturn)]
theorem h_281_35 : chk (mt 281) 36 35 b_281_35 = true := by decide +kernel
def b_282_0 : List (Nat × Instr) := [(0, .aload 0), (1, .iconst 0), (2, .putfield 1200), (5, .iload 1), (6, .iconst (-1)), (7, .if_icmp .eq 18), (10, .aload 0), (11, .iload 1), (12, .invokevirtual 239), (15, .ifCond .eq 25)]
theorem h_282_0 : chk (mt 282) 18 0 b_282_0 = true := by decide +kernel
def b_282_18 : List (Nat × Instr) := [(18, .aload 0), (19, .invokevirtual 261), (22, .ifCond .ne 27)]
theorem h_282_18 : chk (mt 282) 25 18 b_282_18 = true := by decide +kernel
def b_282_25 : List (Nat × Instr) := [(25, .iconst (-1)), (26, .ireturn)]
theorem h_282_25 : chk (mt 282) 27 25 b_282_25 = true := by decide +kernel
def b_282_27 : List (Nat × Instr) := [(27, .aload 0), (28, .invokevirtual 283), (31, .iconst 0), (32, .istore 2), (33, .iconst 0), (34, .istore 3)]
theorem h_282_27 : chk (mt 282) 35 27 b_282_27 = true := by decide +kernel
def b_282_35 : List (Nat × Instr) := [(35, .iload 3), (36, .iconst 16), (38, .if_icmp .ge 56), (41, .iload 2), (42, .aload 0), (43, .getfield 1257), (46, .iload 3), (47, .iaload), (48, .iadd), (49, .istore 2), (50, .iinc 3 1), (53, .goto 35)]
theorem h_282_35 : chk (mt 282) 56 35 b_282_35 = true := by decide +kernel
def b_282_56 : List (Nat × Instr) := [(56, .iload 1), (57, .iconst (-1)), (58, .if_icmp .ne 65), (61, .iload 2), (62, .goto 71)]
theorem h_282_56 : chk (mt 282) 65 56 b_282_56 = true := by decide +kernel
def b_282_65 : List (Nat × Instr) := [(65, .aload 0), (66, .getfield 1257), (69, .iload 1), (70, .iaload)]
theorem h_282_65 : chk (mt 282) 71 65 b_282_65 = true := by decide +kernel
def b_282_71 : List (Nat × Instr) := [(71, .ireturn)]
theorem h_282_71 : chk (mt 282) 72 71 b_282_71 = true := by decide +kernel
def b_283_0 : List (Nat × Instr) := [(0, .aload 0), (1, .iconst 0), (2, .putfield 1260), (5, .iconst 0), (6, .istore 1)]
theorem h_283_0 : chk (mt 283) 7 0 b_283_0 = true := by decide +kernel
def b_283_7 : List (Nat × Instr) := [(7, .iload 1), (8, .iconst 16), (10, .if_icmp .ge 188), (13, .aload 0), (14, .getfield 1257), (17, .iload 1), (18, .iconst 0), (19, .iastore), (20, .aload 0), (21, .getfield 1259), (24, .iload 1), (25, .iconst 0), (26, .bastore), (27, .iconst 0), (28, .istore 2)]
theorem h_283_7 : chk (mt 283) 29 7 b_283_7 = true := by decide +kernel
def b_283_29 : List (Nat × Instr) := [(29, .iload 2), (30, .aload 0), (31, .invokevirtual 198), (34, .if_icmp .ge 182), (37, .iload 1), (38, .aload 0), (39, .getfield 1203), (42, .iconst 9), (44, .iaload), (45, .if_icmp .ge 182), (48, .aload 0), (49, .iload 2), (50, .invokevirtual 280), (53, .istore 3), (54, .aload 0), (55, .getfield 1234), (58, .iconst 640), (61, .iload 3), (62, .imul), (63, .iconst 10), (65, .aload 0), (66, .getfield 1255), (69, .iload 2), (70, .iaload), (71, .imul), (72, .iadd), (73, .aload 0), (74, .iload 1), (75, .invokevirtual 240), (78, .iadd), (79, .iaload), (80, .iload 1), (81, .if_icmp .ne 176), (84, .aload 0), (85, .getfield 1258), (88, .iload 1), (89, .aload 0), (90, .getfield 1259), (93, .iload 1), (94, .baload), (95, .ifCond .eq 107), (98, .aload 0), (99, .getfield 1258), (102, .iload 1), (103, .iaload), (104, .goto 113)]
theorem h_283_29 : chk (mt 283) 107 29 b_283_29 = true := by decide +kernel
def b_283_107 : List (Nat × Instr) := [(107, .aload 0), (108, .iload 1), (109, .iload 3), (110, .invokevirtual 251)]
theorem h_283_107 : chk (mt 283) 113 107 b_283_107 = true := by decide +kernel
def b_283_113 : List (Nat × Instr) := [(113, .iastore), (114, .aload 0), (115, .dup), (116, .getfield 1260), (119, .aload 0), (120, .getfield 1259), (123, .iload 1), (124, .baload), (125, .ifCond .eq 132), (128, .iconst 0), (129, .goto 133)]
theorem h_283_113 : chk (mt 283) 132 113 b_283_113 = true := by decide +kernel
def b_283_132 : List (Nat × Instr) := [(132, .iconst 1)]
theorem h_283_132 : chk (mt 283) 133 132 b_283_132 = true := by decide +kernel
def b_283_133 : List (Nat × Instr) := [(133, .iadd), (134, .putfield 1260), (137, .aload 0), (138, .getfield 1259), (141, .iload 1), (142, .iconst 1), (143, .bastore), (144, .aload 0), (145, .getfield 1257), (148, .iload 1), (149, .dup2), (150, .iaload), (151, .aload 0), (152, .iload 3), (153, .aload 0), (154, .getfield 1255), (157, .iload 2), (158, .iaload), (159, .aload 0), (160, .iload 1), (161, .invokevirtual 240), (164, .invokevirtual 284), (167, .aload 0), (168, .iload 1), (169, .iload 3), (170, .invokevirtual 250), (173, .imul), (174, .iadd), (175, .iastore)]
theorem h_283_133 : chk (mt 283) 176 133 b_283_133 = true := by decide +kernel
def b_283_176 : List (Nat × Instr) := [(176, .iinc 2 1), (179, .goto 29)]
theorem h_283_176 : chk (mt 283) 182 176 b_283_176 = true := by decide +kernel
def b_283_182 : List (Nat × Instr) := [(182, .iinc 1 1), (185, .goto 7)]
theorem h_283_182 : chk (mt 283) 188 182 b_283_182 = true := by decide +kernel
def b_283_188 : List (Nat × Instr) := [(188, .return_)]
theorem h_283_188 : chk (mt 283) 189 188 b_283_188 = true := by decide +kernel
def b_284_0 : List (Nat × Instr) := [(0, .iconst 0), (1, .istore 4)]
theorem h_284_0 : chk (mt 284) 3 0 b_284_0 = true := by decide +kernel
def b_284_3 : List (Nat × Instr) := [(3, .iload 4), (5, .iconst 10), (7, .if_icmp .ge 33), (10, .aload 0), (11, .getfield 1237), (14, .iload 4), (16, .iload 4), (18, .ifCond .ne 25), (21, .iconst 1), (22, .goto 26)]
theorem h_284_3 : chk (mt 284) 25 3 b_284_3 = true := by decide +kernel
def b_284_25 : List (Nat × Instr) := [(25, .iconst 0)]
theorem h_284_25 : chk (mt 284) 26 25 b_284_25 = true := by decide +kernel
def b_284_26 : List (Nat × Instr) := [(26, .iastore), (27, .iinc 4 1), (30, .goto 3)]
theorem h_284_26 : chk (mt 284) 33 26 b_284_26 = true := by decide +kernel
def b_284_33 : List (Nat × Instr) := [(33, .iconst 0), (34, .istore 4)]
theorem h_284_33 : chk (mt 284) 36 33 b_284_33 = true := by decide +kernel
def b_284_36 : List (Nat × Instr) := [(36, .iload 4), (38, .iload 3), (39, .if_icmp .ge 119), (42, .aload 0), (43, .getfield 1234), (46, .iconst 640), (49, .iload 1), (50, .imul), (51, .iconst 10), (53, .iload 2), (54, .imul), (55, .iadd), (56, .iload 4), (58, .iadd), (59, .iaload), (60, .istore 5), (62, .iload 4), (64, .iconst 1), (65, .iadd), (66, .istore 6)]
theorem h_284_36 : chk (mt 284) 68 36 b_284_36 = true := by decide +kernel
def b_284_68 : List (Nat × Instr) := [(68, .iload 6), (70, .iconst 10), (72, .if_icmp .ge 113), (75, .iload 5), (77, .iconst (-1)), (78, .if_icmp .eq 113), (81, .aload 0), (82, .getfield 1237), (85, .iload 6), (87, .dup2), (88, .iaload), (89, .aload 0), (90, .getfield 1237), (93, .iload 4), (95, .iaload), (96, .aload 0), (97, .iload 5), (99, .iload 6), (101, .invokevirtual 241), (104, .imul), (105, .iadd), (106, .iastore), (107, .iinc 6 1), (110, .goto 68)]
theorem h_284_68 : chk (mt 284) 113 68 b_284_68 = true := by decide +kernel
def b_284_113 : List (Nat × Instr) := [(113, .iinc 4 1), (116, .goto 36)]
theorem h_284_113 : chk (mt 284) 119 113 b_284_113 = true := by decide +kernel
def b_284_119 : List (Nat × Instr) := [(119, .aload 0), (120, .getfield 1237), (123, .iload 3), (124, .iaload), (125, .ireturn)]
theorem h_284_119 : chk (mt 284) 126 119 b_284_119 = true := by decide +kernel
def b_285_0 : List (Nat × Instr) := [(0, .aload 0), (1, .iconst 0), (2, .putfield 1200), (5, .iload 1), (6, .iconst (-1)), (7, .if_icmp .eq 18), (10, .aload 0), (11, .iload 1), (12, .invokevirtual 239), (15, .ifCond .eq 25)]
theorem h_285_0 : chk (mt 285) 18 0 b_285_0 = true := by decide +kernel
def b_285_18 : List (Nat × Instr) := [(18, .aload 0), (19, .invokevirtual 261), (22, .ifCond .ne 27)]
theorem h_285_18 : chk (mt 285) 25 18 b_285_18 = true := by decide +kernel
def b_285_25 : List (Nat × Instr) := [(25, .iconst (-1)), (26, .ireturn)]
theorem h_285_25 : chk (mt 285) 27 25 b_285_25 = true := by decide +kernel
def b_285_27 : List (Nat × Instr) := [(27, .aload 0), (28, .invokevirtual 283), (31, .aload 0), (32, .getfield 1260), (35, .iconst 10), (37, .if_icmp .gt 79), (40, .iload 1), (41, .iconst (-1)), (42, .if_icmp .eq 63), (45, .aload 0), (46, .getfield 1259), (49, .iload 1), (50, .iconst (-1)), (51, .if_icmp .ne 58), (54, .iconst 0), (55, .goto 59)]
theorem h_285_27 : chk (mt 285) 58 27 b_285_27 = true := by decide +kernel
def b_285_58 : List (Nat × Instr) := [(58, .iload 1)]
theorem h_285_58 : chk (mt 285) 59 58 b_285_58 = true := by decide +kernel
def b_285_59 : List (Nat × Instr) := [(59, .baload), (60, .ifCond .eq 79)]
theorem h_285_59 : chk (mt 285) 63 59 b_285_59 = true := by decide +kernel
def b_285_63 : List (Nat × Instr) := [(63, .aload 0), (64, .getfield 1260), (67, .ifCond .le 81), (70, .aload 0), (71, .getfield 1203), (74, .iconst 3), (75, .iaload), (76, .ifCond .ne 81)]
theorem h_285_63 : chk (mt 285) 79 63 b_285_63 = true := by decide +kernel
def b_285_79 : List (Nat × Instr) := [(79, .iconst (-1)), (80, .ireturn)]
theorem h_285_79 : chk (mt 285) 81 79 b_285_79 = true := by decide +kernel
def b_285_81 : List (Nat × Instr) := [(81, .iconst 1), (82, .istore 2), (83, .iconst 0), (84, .istore 3)]
theorem h_285_81 : chk (mt 285) 85 81 b_285_81 = true := by decide +kernel
def b_285_85 : List (Nat × Instr) := [(85, .iload 3), (86, .aload 0), (87, .getfield 1260), (90, .if_icmp .ge 108), (93, .iload 2), (94, .aload 0), (95, .getfield 1203), (98, .iconst 3), (99, .iaload), (100, .imul), (101, .istore 2), (102, .iinc 3 1), (105, .goto 85)]
theorem h_285_85 : chk (mt 285) 108 85 b_285_85 = true := by decide +kernel
def b_285_108 : List (Nat × Instr) := [(108, .iconst 1000000000), (111, .istore 3), (112, .iconst 0), (113, .istore 4), (115, .iconst 0), (116, .istore 5)]
theorem h_285_108 : chk (mt 285) 118 108 b_285_108 = true := by decide +kernel
def b_285_118 : List (Nat × Instr) := [(118, .iload 5), (120, .iload 2), (121, .if_icmp .ge 166), (124, .aload 0), (125, .iload 5), (127, .invokevirtual 286), (130, .istore 6), (132, .iload 6), (134, .iload 3), (135, .if_icmp .ge 143), (138, .iload 5), (140, .goto 145)]
theorem h_285_118 : chk (mt 285) 143 118 b_285_118 = true := by decide +kernel
def b_285_143 : List (Nat × Instr) := [(143, .iload 4)]
theorem h_285_143 : chk (mt 285) 145 143 b_285_143 = true := by decide +kernel
def b_285_145 : List (Nat × Instr) := [(145, .istore 4), (147, .iload 6), (149, .iload 3), (150, .if_icmp .ge 158), (153, .iload 6), (155, .goto 159)]
theorem h_285_145 : chk (mt 285) 158 145 b_285_145 = true := by decide +kernel
def b_285_158 : List (Nat × Instr) := [(158, .iload 3)]
theorem h_285_158 : chk (mt 285) 159 158 b_285_158 = true := by decide +kernel
def b_285_159 : List (Nat × Instr) := [(159, .istore 3), (160, .iinc 5 1), (163, .goto 118)]
theorem h_285_159 : chk (mt 285) 166 159 b_285_159 = true := by decide +kernel
def b_285_166 : List (Nat × Instr) := [(166, .iload 3), (167, .iconst 1000000000), (170, .if_icmp .ne 175), (173, .iconst (-1)), (174, .ireturn)]
theorem h_285_166 : chk (mt 285) 175 166 b_285_166 = true := by decide +kernel
def b_285_175 : List (Nat × Instr) := [(175, .iload 4), (177, .istore 5), (179, .iconst 15), (181, .istore 6)]
theorem h_285_175 : chk (mt 285) 183 175 b_285_175 = true := by decide +kernel
def b_285_183 : List (Nat × Instr) := [(183, .iload 6), (185, .ifCond .lt 231), (188, .aload 0), (189, .getfield 1259), (192, .iload 6), (194, .baload), (195, .ifCond .eq 225), (198, .aload 0), (199, .getfield 1262), (202, .iload 6), (204, .iload 5), (206, .aload 0), (207, .getfield 1203), (210, .iconst 3), (211, .iaload), (212, .irem), (213, .iastore), (214, .iload 5), (216, .aload 0), (217, .getfield 1203), (220, .iconst 3), (221, .iaload), (222, .idiv), (223, .istore 5)]
theorem h_285_183 : chk (mt 285) 225 183 b_285_183 = true := by decide +kernel
def b_285_225 : List (Nat × Instr) := [(225, .iinc 6 (-1)), (228, .goto 183)]
theorem h_285_225 : chk (mt 285) 231 225 b_285_225 = true := by decide +kernel
def b_285_231 : List (Nat × Instr) := [(231, .iload 1), (232, .iconst (-1)), (233, .if_icmp .ne 240), (236, .iload 3), (237, .goto 246)]
theorem h_285_231 : chk (mt 285) 240 231 b_285_231 = true := by decide +kernel
def b_285_240 : List (Nat × Instr) := [(240, .aload 0), (241, .getfield 1262), (244, .iload 1), (245, .iaload)]
theorem h_285_240 : chk (mt 285) 246 240 b_285_240 = true := by decide +kernel
def b_285_246 : List (Nat × Instr) := [(246, .ireturn)]
theorem h_285_246 : chk (mt 285) 247 246 b_285_246 = true := by decide +kernel
def b_286_0 : List (Nat × Instr) := [(0, .iload 1), (1, .istore 2), (2, .aload 0), (3, .getfield 1203), (6, .iconst 3), (7, .iaload), (8, .istore 3), (9, .iconst 0), (10, .istore 4)]
theorem h_286_0 : chk (mt 286) 12 0 b_286_0 = true := by decide +kernel
def b_286_12 : List (Nat × Instr) := [(12, .iload 4), (14, .iconst 4), (15, .if_icmp .ge 32), (18, .aload 0), (19, .getfield 1261), (22, .iload 4), (24, .iconst 0), (25, .iastore), (26, .iinc 4 1), (29, .goto 12)]
theorem h_286_12 : chk (mt 286) 32 12 b_286_12 = true := by decide +kernel
def b_286_32 : List (Nat × Instr) := [(32, .iconst 15), (34, .istore 4)]
theorem h_286_32 : chk (mt 286) 36 32 b_286_32 = true := by decide +kernel
def b_286_36 : List (Nat × Instr) := [(36, .iload 4), (38, .ifCond .lt 110), (41, .aload 0), (42, .getfield 1259), (45, .iload 4), (47, .baload), (48, .ifCond .eq 104), (51, .iload 2), (52, .iload 3), (53, .irem), (54, .istore 5), (56, .iload 2), (57, .iload 3), (58, .idiv), (59, .istore 2), (60, .aload 0), (61, .getfield 1203), (64, .iconst 70), (66, .iload 5), (68, .iadd), (69, .iaload), (70, .aload 0), (71, .getfield 1258), (74, .iload 4), (76, .iaload), (77, .invokestatic 287), (80, .ifCond .ne 87), (83, .iconst 1000000000), (86, .ireturn)]
theorem h_286_36 : chk (mt 286) 87 36 b_286_36 = true := by decide +kernel
def b_286_87 : List (Nat × Instr) := [(87, .aload 0), (88, .getfield 1261), (91, .iload 5), (93, .dup2), (94, .iaload), (95, .aload 0), (96, .getfield 1257), (99, .iload 4), (101, .iaload), (102, .iadd), (103, .iastore)]
theorem h_286_87 : chk (mt 286) 104 87 b_286_87 = true := by decide +kernel
def b_286_104 : List (Nat × Instr) := [(104, .iinc 4 (-1)), (107, .goto 36)]
theorem h_286_104 : chk (mt 286) 110 104 b_286_104 = true := by decide +kernel
def b_286_110 : List (Nat × Instr) := [(110, .iconst 0), (111, .istore 4), (113, .iconst 0), (114, .istore 5)]
theorem h_286_110 : chk (mt 286) 116 110 b_286_110 = true := by decide +kernel
def b_286_116 : List (Nat × Instr) := [(116, .iload 5), (118, .iconst 4), (119, .if_icmp .ge 154), (122, .aload 0), (123, .getfield 1261), (126, .iload 5), (128, .iaload), (129, .iload 4), (131, .if_icmp .le 144), (134, .aload 0), (135, .getfield 1261), (138, .iload 5), (140, .iaload), (141, .goto 146)]
theorem h_286_116 : chk (mt 286) 144 116 b_286_116 = true := by decide +kernel
def b_286_144 : List (Nat × Instr) := [(144, .iload 4)]
theorem h_286_144 : chk (mt 286) 146 144 b_286_144 = true := by decide +kernel
def b_286_146 : List (Nat × Instr) := [(146, .istore 4), (148, .iinc 5 1), (151, .goto 116)]
theorem h_286_146 : chk (mt 286) 154 146 b_286_146 = true := by decide +kernel
def b_286_154 : List (Nat × Instr) := [(154, .iload 4), (156, .ireturn)]
theorem h_286_154 : chk (mt 286) 157 154 b_286_154 = true := by decide +kernel
def b_287_0 : List (Nat × Instr) := [(0, .iload 0), (1, .iload 1), (2, .ishr), (3, .iconst 1), (4, .iand), (5, .iconst 1), (6, .if_icmp .ne 13), (9, .iconst 1), (10, .goto 14)]
theorem h_287_0 : chk (mt 287) 13 0 b_287_0 = true := by decide +kernel
def b_287_13 : List (Nat × Instr) := [(13, .iconst 0)]
theorem h_287_13 : chk (mt 287) 14 13 b_287_13 = true := by decide +kernel
def b_287_14 : List (Nat × Instr) := [(14, .ireturn)]
theorem h_287_14 : chk (mt 287) 15 14 b_287_14 = true := by decide +kernel
def b_288_0 : List (Nat × Instr) := [(0, .aload 0), (1, .iconst 0), (2, .putfield 1200), (5, .iload 1), (6, .iload 2), (7, .iload 3), (8, .iload 4), (10, .iload 5), (12, .iload 6), (14, .invokestatic 289), (17, .ifCond .ne 26), (20, .aload 0), (21, .iconst (-1)), (22, .invokevirtual 194), (25, .ireturn)]
theorem h_288_0 : chk (mt 288) 26 0 b_288_0 = true := by decide +kernel
def b_288_26 : List (Nat × Instr) := [(26, .aload 0), (27, .getfield 1203), (30, .iconst 6), (32, .iaload), (33, .iconst 16), (35, .if_icmp .ne 45), (38, .aload 0), (39, .iconst (-5)), (41, .invokevirtual 194), (44, .ireturn)]
theorem h_288_26 : chk (mt 288) 45 26 b_288_26 = true := by decide +kernel
def b_288_45 : List (Nat × Instr) := [(45, .aload 0), (46, .iload 1), (47, .iload 2), (48, .iload 3), (49, .iload 4), (51, .iload 5), (53, .iload 6), (55, .invokevirtual 290), (58, .aload 0), (59, .aload 0), (60, .getfield 1203), (63, .iconst 6), (65, .iaload), (66, .iconst 1), (67, .isub), (68, .invokevirtual 194), (71, .ireturn)]
theorem h_288_45 : chk (mt 288) 72 45 b_288_45 = true := by decide +kernel
def b_289_0 : List (Nat × Instr) := [(0, .iload 0), (1, .i2l), (2, .sipush 1), (3, .sipush 99), (6, .invokestatic 193), (9, .ifCond .eq 78), (12, .iload 1), (13, .i2l), (14, .sipush 0), (15, .sipush 100), (18, .invokestatic 193), (21, .ifCond .eq 78), (24, .iload 2), (25, .i2l), (26, .sipush 0), (27, .sipush 99), (30, .invokestatic 193), (33, .ifCond .eq 78), (36, .iload 3), (37, .i2l), (38, .sipush 0), (39, .sipush 3), (42, .invokestatic 193), (45, .ifCond .eq 78), (48, .iload 4), (50, .i2l), (51, .sipush 0), (52, .sipush 23), (55, .invokestatic 193), (58, .ifCond .eq 78), (61, .iload 5), (63, .i2l), (64, .sipush 0), (65, .sipush 255), (68, .invokestatic 193), (71, .ifCond .eq 78), (74, .iconst 1), (75, .goto 79)]
theorem h_289_0 : chk (mt 289) 78 0 b_289_0 = true := by decide +kernel
def b_289_78 : List (Nat × Instr) := [(78, .iconst 0)]
theorem h_289_78 : chk (mt 289) 79 78 b_289_78 = true := by decide +kernel
def b_289_79 : List (Nat × Instr) := [(79, .ireturn)]
theorem h_289_79 : chk (mt 289) 80 79 b_289_79 = true := by decide +kernel
def b_290_0 : List (Nat × Instr) := [(0, .iconst 90), (2, .iconst 7), (4, .aload 0), (5, .getfield 1203), (8, .iconst 6), (10, .iaload), (11, .imul), (12, .iadd), (13, .istore 7), (15, .aload 0), (16, .getfield 1203), (19, .iload 7), (21, .iload 1), (22, .iastore), (23, .aload 0), (24, .getfield 1203), (27, .iload 7), (29, .iconst 1), (30, .iadd), (31, .iload 2), (32, .iastore), (33, .aload 0), (34, .getfield 1203), (37, .iload 7), (39, .iconst 2), (40, .iadd), (41, .iload 3), (42, .iastore), (43, .aload 0), (44, .getfield 1203), (47, .iload 7), (49, .iconst 3), (50, .iadd), (51, .iload 4), (53, .iastore), (54, .aload 0), (55, .getfield 1203), (58, .iload 7), (60, .iconst 4), (61, .iadd), (62, .iload 5), (64, .iastore), (65, .aload 0), (66, .getfield 1203), (69, .iload 7), (71, .iconst 5), (72, .iadd), (73, .iload 6), (75, .iastore), (76, .aload 0), (77, .getfield 1203), (80, .iload 7), (82, .iconst 6), (84, .iadd), (85, .iconst 1), (86, .iastore), (87, .aload 0), (88, .getfield 1203), (91, .iconst 6), (93, .dup2), (94, .iaload), (95, .iconst 1), (96, .iadd), (97, .iastore), (98, .return_)]
theorem h_290_0 : chk (mt 290) 99 0 b_290_0 = true := by decide +kernel
def b_291_0 : List (Nat × Instr) := [(0, .aload 0), (1, .iconst 0), (2, .putfield 1200), (5, .iload 1), (6, .i2l), (7, .sipush 0), (8, .aload 0), (9, .getfield 1203), (12, .iconst 6), (14, .iaload), (15, .i2l), (16, .sipush 1), (17, .lsub), (18, .invokestatic 193), (21, .ifCond .eq 45), (24, .iload 2), (25, .i2l), (26, .sipush 0), (27, .sipush 6), (30, .invokestatic 193), (33, .ifCond .eq 45), (36, .aload 0), (37, .iload 1), (38, .iload 2), (39, .invokevirtual 292), (42, .goto 46)]
theorem h_291_0 : chk (mt 291) 45 0 b_291_0 = true := by decide +kernel
def b_291_45 : List (Nat × Instr) := [(45, .iconst (-1))]
theorem h_291_45 : chk (mt 291) 46 45 b_291_45 = true := by decide +kernel
def b_291_46 : List (Nat × Instr) := [(46, .ireturn)]
theorem h_291_46 : chk (mt 291) 47 46 b_291_46 = true := by decide +kernel
def b_292_0 : List (Nat × Instr) := [(0, .aload 0), (1, .getfield 1203), (4, .iconst 90), (6, .iconst 7), (8, .iload 1), (9, .imul), (10, .iadd), (11, .iload 2), (12, .iadd), (13, .iaload), (14, .ireturn)]
theorem h_292_0 : chk (mt 292) 15 0 b_292_0 = true := by decide +kernel
def b_293_0 : List (Nat × Instr) := [(0, .aload 0), (1, .iconst 0), (2, .putfield 1200), (5, .aload 0), (6, .getfield 1207), (9, .istore 1), (10, .aload 0), (11, .iconst 0), (12, .putfield 1207), (15, .iload 1), (16, .ifCond .ne 26), (19, .aload 0), (20, .iconst (-6)), (22, .invokevirtual 194), (25, .ireturn)]
theorem h_293_0 : chk (mt 293) 26 0 b_293_0 = true := by decide +kernel
def b_293_26 : List (Nat × Instr) := [(26, .aload 0), (27, .iconst 0), (28, .putfield 1263), (31, .iconst 0), (32, .istore 2), (33, .iconst 0), (34, .istore 3)]
theorem h_293_26 : chk (mt 293) 35 26 b_293_26 = true := by decide +kernel
def b_293_35 : List (Nat × Instr) := [(35, .iload 3), (36, .iload 1), (37, .if_icmp .ge 207), (40, .iload 3), (41, .iconst 5), (42, .iadd), (43, .iload 1), (44, .if_icmp .ge 63), (47, .aload 0), (48, .getfield 1203), (51, .iconst 6), (53, .iaload), (54, .iconst 16), (56, .if_icmp .ge 63), (59, .iconst 1), (60, .goto 64)]
theorem h_293_35 : chk (mt 293) 63 35 b_293_35 = true := by decide +kernel
def b_293_63 : List (Nat × Instr) := [(63, .iconst 0)]
theorem h_293_63 : chk (mt 293) 64 63 b_293_63 = true := by decide +kernel
def b_293_64 : List (Nat × Instr) := [(64, .istore 4), (66, .iload 4), (68, .ifCond .eq 127), (71, .aload 0), (72, .getfield 1206), (75, .iload 3), (76, .iaload), (77, .aload 0), (78, .getfield 1206), (81, .iload 3), (82, .iconst 1), (83, .iadd), (84, .iaload), (85, .aload 0), (86, .getfield 1206), (89, .iload 3), (90, .iconst 2), (91, .iadd), (92, .iaload), (93, .aload 0), (94, .getfield 1206), (97, .iload 3), (98, .iconst 3), (99, .iadd), (100, .iaload), (101, .aload 0), (102, .getfield 1206), (105, .iload 3), (106, .iconst 4), (107, .iadd), (108, .iaload), (109, .aload 0), (110, .getfield 1206), (113, .iload 3), (114, .iconst 5), (115, .iadd), (116, .iaload), (117, .invokestatic 289), (120, .ifCond .eq 127), (123, .iconst 1), (124, .goto 128)]
theorem h_293_64 : chk (mt 293) 127 64 b_293_64 = true := by decide +kernel
def b_293_127 : List (Nat × Instr) := [(127, .iconst 0)]
theorem h_293_127 : chk (mt 293) 128 127 b_293_127 = true := by decide +kernel
def b_293_128 : List (Nat × Instr) := [(128, .istore 4), (130, .iload 4), (132, .ifCond .eq 191), (135, .aload 0), (136, .aload 0), (137, .getfield 1206), (140, .iload 3), (141, .iaload), (142, .aload 0), (143, .getfield 1206), (146, .iload 3), (147, .iconst 1), (148, .iadd), (149, .iaload), (150, .aload 0), (151, .getfield 1206), (154, .iload 3), (155, .iconst 2), (156, .iadd), (157, .iaload), (158, .aload 0), (159, .getfield 1206), (162, .iload 3), (163, .iconst 3), (164, .iadd), (165, .iaload), (166, .aload 0), (167, .getfield 1206), (170, .iload 3), (171, .iconst 4), (172, .iadd), (173, .iaload), (174, .aload 0), (175, .getfield 1206), (178, .iload 3), (179, .iconst 5), (180, .iadd), (181, .iaload), (182, .invokevirtual 290), (185, .iinc 2 1), (188, .goto 201)]
theorem h_293_128 : chk (mt 293) 191 128 b_293_128 = true := by decide +kernel
def b_293_191 : List (Nat × Instr) := [(191, .aload 0), (192, .dup), (193, .getfield 1263), (196, .iconst 1), (197, .iadd), (198, .putfield 1263)]
theorem h_293_191 : chk (mt 293) 201 191 b_293_191 = true := by decide +kernel
def b_293_201 : List (Nat × Instr) := [(201, .iinc 3 6), (204, .goto 35)]
theorem h_293_201 : chk (mt 293) 207 201 b_293_201 = true := by decide +kernel
def b_293_207 : List (Nat × Instr) := [(207, .aload 0), (208, .iload 2), (209, .invokevirtual 194), (212, .ireturn)]
theorem h_293_207 : chk (mt 293) 213 207 b_293_207 = true := by decide +kernel
def b_294_0 : List (Nat × Instr) := [(0, .aload 0), (1, .iconst 0), (2, .putfield 1200), (5, .aload 0), (6, .getfield 1263), (9, .ireturn)]
theorem h_294_0 : chk (mt 294) 10 0 b_294_0 = true := by decide +kernel
def b_295_0 : List (Nat × Instr) := [(0, .aload 0), (1, .iconst 0), (2, .putfield 1200), (5, .iload 1), (6, .i2l), (7, .sipush 1), (8, .sipush 1584), (11, .invokestatic 193), (14, .ifCond .eq 54), (17, .iload 2), (18, .i2l), (19, .sipush 1), (20, .sipush 1584), (23, .invokestatic 193), (26, .ifCond .eq 54), (29, .iload 3), (30, .i2l), (31, .sipush 0), (32, .sipush 100), (35, .invokestatic 193), (38, .ifCond .eq 54), (41, .iload 4), (43, .i2l), (44, .sipush 0), (45, .sipush 2), (48, .invokestatic 193), (51, .ifCond .ne 56)]
theorem h_295_0 : chk (mt 295) 54 0 b_295_0 = true := by decide +kernel
def b_295_54 : List (Nat × Instr) := [(54, .iconst (-1)), (55, .ireturn)]
theorem h_295_54 : chk (mt 295) 56 54 b_295_54 = true := by decide +kernel
def b_295_56 : List (Nat × Instr) := [(56, .iconst 0), (57, .istore 5), (59, .iconst 1000000000), (62, .istore 6), (64, .iconst (-1)), (65, .istore 7), (67, .iconst 0), (68, .istore 8), (70, .iconst 0), (71, .istore 9)]
theorem h_295_56 : chk (mt 295) 73 56 b_295_56 = true := by decide +kernel
def b_295_73 : List (Nat × Instr) := [(73, .iload 9), (75, .aload 0), (76, .getfield 1203), (79, .iconst 6), (81, .iaload), (82, .if_icmp .ge 116), (85, .iload 8), (87, .aload 0), (88, .iload 9), (90, .iconst 6), (92, .invokevirtual 292), (95, .iconst 1), (96, .if_icmp .ne 106), (99, .iconst 1), (100, .iload 9), (102, .ishl), (103, .goto 107)]
theorem h_295_73 : chk (mt 295) 106 73 b_295_73 = true := by decide +kernel
def b_295_106 : List (Nat × Instr) := [(106, .iconst 0)]
theorem h_295_106 : chk (mt 295) 107 106 b_295_106 = true := by decide +kernel
def b_295_107 : List (Nat × Instr) := [(107, .ior), (108, .istore 8), (110, .iinc 9 1), (113, .goto 73)]
theorem h_295_107 : chk (mt 295) 116 107 b_295_107 = true := by decide +kernel
def b_295_116 : List (Nat × Instr) := [(116, .iconst 1), (117, .istore 9)]
theorem h_295_116 : chk (mt 295) 119 116 b_295_116 = true := by decide +kernel
def b_295_119 : List (Nat × Instr) := [(119, .iload 9), (121, .iconst 1), (122, .aload 0), (123, .getfield 1203), (126, .iconst 6), (128, .iaload), (129, .ishl), (130, .if_icmp .ge 284), (133, .iload 9), (135, .iload 8), (137, .iconst (-1)), (138, .ixor), (139, .iand), (140, .ifCond .ne 278), (143, .iconst 0), (144, .istore 10), (146, .iconst 0), (147, .istore 11), (149, .iconst 0), (150, .istore 12)]
theorem h_295_119 : chk (mt 295) 152 119 b_295_119 = true := by decide +kernel
def b_295_152 : List (Nat × Instr) := [(152, .iload 12), (154, .aload 0), (155, .getfield 1203), (158, .iconst 6), (160, .iaload), (161, .if_icmp .ge 212), (164, .iload 9), (166, .iload 12), (168, .invokestatic 287), (171, .ifCond .eq 206), (174, .iload 10), (176, .aload 0), (177, .iload 12), (179, .iconst 0), (180, .invokevirtual 292), (183, .iadd), (184, .istore 10), (186, .iload 11), (188, .aload 0), (189, .iload 12), (191, .iconst 0), (192, .invokevirtual 292), (195, .aload 0), (196, .iload 12), (198, .iconst 1), (199, .invokevirtual 292), (202, .imul), (203, .iadd), (204, .istore 11)]
theorem h_295_152 : chk (mt 295) 206 152 b_295_152 = true := by decide +kernel
def b_295_206 : List (Nat × Instr) := [(206, .iinc 12 1), (209, .goto 152)]
theorem h_295_206 : chk (mt 295) 212 206 b_295_206 = true := by decide +kernel
def b_295_212 : List (Nat × Instr) := [(212, .iload 10), (214, .i2l), (215, .iload 1), (216, .i2l), (217, .iload 2), (218, .i2l), (219, .invokestatic 193), (222, .ifCond .eq 278), (225, .iload 11), (227, .iload 3), (228, .iload 10), (230, .imul), (231, .if_icmp .lt 278), (234, .iinc 5 1), (237, .iload 11), (239, .iload 3), (240, .iload 10), (242, .imul), (243, .isub), (244, .istore 12), (246, .iload 12), (248, .iload 6), (250, .if_icmp .ge 258), (253, .iload 9), (255, .goto 260)]
theorem h_295_212 : chk (mt 295) 258 212 b_295_212 = true := by decide +kernel
def b_295_258 : List (Nat × Instr) := [(258, .iload 7)]
theorem h_295_258 : chk (mt 295) 260 258 b_295_258 = true := by decide +kernel
def b_295_260 : List (Nat × Instr) := [(260, .istore 7), (262, .iload 12), (264, .iload 6), (266, .if_icmp .ge 274), (269, .iload 12), (271, .goto 276)]
theorem h_295_260 : chk (mt 295) 274 260 b_295_260 = true := by decide +kernel
def b_295_274 : List (Nat × Instr) := [(274, .iload 6)]
theorem h_295_274 : chk (mt 295) 276 274 b_295_274 = true := by decide +kernel
def b_295_276 : List (Nat × Instr) := [(276, .istore 6)]
theorem h_295_276 : chk (mt 295) 278 276 b_295_276 = true := by decide +kernel
def b_295_278 : List (Nat × Instr) := [(278, .iinc 9 1), (281, .goto 119)]
theorem h_295_278 : chk (mt 295) 284 278 b_295_278 = true := by decide +kernel
def b_295_284 : List (Nat × Instr) := [(284, .iload 4), (286, .iconst 2), (287, .if_icmp .ne 295), (290, .iload 5), (292, .goto 317)]
theorem h_295_284 : chk (mt 295) 295 284 b_295_284 = true := by decide +kernel
def b_295_295 : List (Nat × Instr) := [(295, .iload 7), (297, .iconst (-1)), (298, .if_icmp .ne 305), (301, .iconst (-1)), (302, .goto 317)]
theorem h_295_295 : chk (mt 295) 305 295 b_295_295 = true := by decide +kernel
def b_295_305 : List (Nat × Instr) := [(305, .iload 4), (307, .ifCond .ne 315), (310, .iload 6), (312, .goto 317)]
theorem h_295_305 : chk (mt 295) 315 305 b_295_305 = true := by decide +kernel
def b_295_315 : List (Nat × Instr) := [(315, .iload 7)]
theorem h_295_315 : chk (mt 295) 317 315 b_295_315 = true := by decide +kernel
def b_295_317 : List (Nat × Instr) := [(317, .ireturn)]
theorem h_295_317 : chk (mt 295) 318 317 b_295_317 = true := by decide +kernel
def b_296_0 : List (Nat × Instr) := [(0, .aload 0), (1, .iconst 0), (2, .putfield 1200), (5, .iload 1), (6, .i2l), (7, .sipush 1), (8, .sipush 16), (11, .invokestatic 193), (14, .ifCond .eq 54), (17, .iload 2), (18, .i2l), (19, .sipush 0), (20, .sipush 99), (23, .invokestatic 193), (26, .ifCond .eq 54), (29, .iload 3), (30, .i2l), (31, .sipush 0), (32, .sipush 99), (35, .invokestatic 193), (38, .ifCond .eq 54), (41, .iload 4), (43, .i2l), (44, .sipush 0), (45, .sipush 99), (48, .invokestatic 193), (51, .ifCond .ne 60)]
theorem h_296_0 : chk (mt 296) 54 0 b_296_0 = true := by decide +kernel
def b_296_54 : List (Nat × Instr) := [(54, .aload 0), (55, .iconst (-1)), (56, .invokevirtual 194), (59, .ireturn)]
theorem h_296_54 : chk (mt 296) 60 54 b_296_54 = true := by decide +kernel
def b_296_60 : List (Nat × Instr) := [(60, .iconst 0), (61, .istore 5), (63, .iconst 0), (64, .istore 6)]
theorem h_296_60 : chk (mt 296) 66 60 b_296_60 = true := by decide +kernel
def b_296_66 : List (Nat × Instr) := [(66, .iload 6), (68, .iload 1), (69, .if_icmp .ge 212), (72, .iconst (-1)), (73, .istore 7), (75, .aload 0), (76, .getfield 1203), (79, .iconst 6), (81, .iaload), (82, .iconst 1), (83, .isub), (84, .istore 8)]
theorem h_296_66 : chk (mt 296) 86 66 b_296_66 = true := by decide +kernel
def b_296_86 : List (Nat × Instr) := [(86, .iload 8), (88, .ifCond .lt 174), (91, .aload 0), (92, .iload 8), (94, .iconst 6), (96, .invokevirtual 292), (99, .iconst 1), (100, .if_icmp .ne 128), (103, .iload 2), (104, .aload 0), (105, .iload 8), (107, .iconst 2), (108, .invokevirtual 292), (111, .isub), (112, .i2l), (113, .iload 3), (114, .i2l), (115, .iload 4), (117, .i2l), (118, .invokestatic 193), (121, .ifCond .eq 128), (124, .iconst 1), (125, .goto 129)]
theorem h_296_86 : chk (mt 296) 128 86 b_296_86 = true := by decide +kernel
def b_296_128 : List (Nat × Instr) := [(128, .iconst 0)]
theorem h_296_128 : chk (mt 296) 129 128 b_296_128 = true := by decide +kernel
def b_296_129 : List (Nat × Instr) := [(129, .istore 9), (131, .iload 9), (133, .ifCond .eq 164), (136, .iload 7), (138, .iconst (-1)), (139, .if_icmp .eq 159), (142, .aload 0), (143, .iload 8), (145, .iconst 2), (146, .invokevirtual 292), (149, .aload 0), (150, .iload 7), (152, .iconst 2), (153, .invokevirtual 292), (156, .if_icmp .gt 164)]
theorem h_296_129 : chk (mt 296) 159 129 b_296_129 = true := by decide +kernel
def b_296_159 : List (Nat × Instr) := [(159, .iload 8), (161, .goto 166)]
theorem h_296_159 : chk (mt 296) 164 159 b_296_159 = true := by decide +kernel
def b_296_164 : List (Nat × Instr) := [(164, .iload 7)]
theorem h_296_164 : chk (mt 296) 166 164 b_296_164 = true := by decide +kernel
def b_296_166 : List (Nat × Instr) := [(166, .istore 7), (168, .iinc 8 (-1)), (171, .goto 86)]
theorem h_296_166 : chk (mt 296) 174 166 b_296_166 = true := by decide +kernel
def b_296_174 : List (Nat × Instr) := [(174, .iload 7), (176, .iconst (-1)), (177, .if_icmp .eq 206), (180, .aload 0), (181, .getfield 1203), (184, .iconst 90), (186, .iconst 7), (188, .iload 7), (190, .imul), (191, .iadd), (192, .iconst 6), (194, .iadd), (195, .iconst 0), (196, .iastore), (197, .iload 5), (199, .iconst 1), (200, .iload 7), (202, .ishl), (203, .ior), (204, .istore 5)]
theorem h_296_174 : chk (mt 296) 206 174 b_296_174 = true := by decide +kernel
def b_296_206 : List (Nat × Instr) := [(206, .iinc 6 1), (209, .goto 66)]
theorem h_296_206 : chk (mt 296) 212 206 b_296_206 = true := by decide +kernel
def b_296_212 : List (Nat × Instr) := [(212, .aload 0), (213, .iload 5), (215, .invokevirtual 194), (218, .ireturn)]
theorem h_296_212 : chk (mt 296) 219 212 b_296_212 = true := by decide +kernel
def b_297_0 : List (Nat × Instr) := [(0, .aload 0), (1, .iconst 0), (2, .putfield 1200), (5, .iload 1), (6, .i2l), (7, .sipush 0), (8, .aload 0), (9, .getfield 1203), (12, .iconst 6), (14, .iaload), (15, .i2l), (16, .sipush 1), (17, .lsub), (18, .invokestatic 193), (21, .ifCond .ne 31), (24, .aload 0), (25, .iconst (-2)), (27, .invokevirtual 194), (30, .ireturn)]
theorem h_297_0 : chk (mt 297) 31 0 b_297_0 = true := by decide +kernel
def b_297_31 : List (Nat × Instr) := [(31, .aload 0), (32, .iload 1), (33, .iconst 6), (35, .invokevirtual 292), (38, .iconst 1), (39, .if_icmp .ne 49), (42, .aload 0), (43, .iconst (-3)), (45, .invokevirtual 194), (48, .ireturn)]
theorem h_297_31 : chk (mt 297) 49 31 b_297_31 = true := by decide +kernel
def b_297_49 : List (Nat × Instr) := [(49, .aload 0), (50, .getfield 1203), (53, .iconst 90), (55, .iconst 7), (57, .iload 1), (58, .imul), (59, .iadd), (60, .iconst 6), (62, .iadd), (63, .iconst 1), (64, .iastore), (65, .aload 0), (66, .iconst 0), (67, .invokevirtual 194), (70, .ireturn)]
theorem h_297_49 : chk (mt 297) 71 49 b_297_49 = true := by decide +kernel
def b_298_0 : List (Nat × Instr) := [(0, .aload 0), (1, .iconst 0), (2, .putfield 1200), (5, .aload 0), (6, .getfield 1203), (9, .iconst 6), (11, .iaload), (12, .istore 3), (13, .iload 1), (14, .i2l), (15, .sipush 0), (16, .sipush 255), (19, .invokestatic 193), (22, .ifCond .eq 43), (25, .iload 2), (26, .iconst (-1)), (27, .if_icmp .eq 45), (30, .iload 2), (31, .i2l), (32, .sipush 0), (33, .iload 3), (34, .i2l), (35, .sipush 1), (36, .lsub), (37, .invokestatic 193), (40, .ifCond .ne 45)]
theorem h_298_0 : chk (mt 298) 43 0 b_298_0 = true := by decide +kernel
def b_298_43 : List (Nat × Instr) := [(43, .iconst (-1)), (44, .ireturn)]
theorem h_298_43 : chk (mt 298) 45 43 b_298_43 = true := by decide +kernel
def b_298_45 : List (Nat × Instr) := [(45, .iconst 0), (46, .istore 4), (48, .iconst 0), (49, .istore 5)]
theorem h_298_45 : chk (mt 298) 51 45 b_298_45 = true := by decide +kernel
def b_298_51 : List (Nat × Instr) := [(51, .iload 5), (53, .iload 3), (54, .if_icmp .ge 87), (57, .aload 0), (58, .getfield 1264), (61, .iload 5), (63, .aload 0), (64, .iload 5), (66, .iconst 5), (67, .invokevirtual 292), (70, .iload 1), (71, .iand), (72, .ifCond .eq 79), (75, .iconst 0), (76, .goto 80)]
theorem h_298_51 : chk (mt 298) 79 51 b_298_51 = true := by decide +kernel
def b_298_79 : List (Nat × Instr) := [(79, .iconst (-1))]
theorem h_298_79 : chk (mt 298) 80 79 b_298_79 = true := by decide +kernel
def b_298_80 : List (Nat × Instr) := [(80, .iastore), (81, .iinc 5 1), (84, .goto 51)]
theorem h_298_80 : chk (mt 298) 87 80 b_298_80 = true := by decide +kernel
def b_298_87 : List (Nat × Instr) := [(87, .iconst 1), (88, .istore 5)]
theorem h_298_87 : chk (mt 298) 90 87 b_298_87 = true := by decide +kernel
def b_298_90 : List (Nat × Instr) := [(90, .iload 5), (92, .iload 3), (93, .if_icmp .gt 193), (96, .iconst 0), (97, .istore 6)]
theorem h_298_90 : chk (mt 298) 99 90 b_298_90 = true := by decide +kernel
def b_298_99 : List (Nat × Instr) := [(99, .iload 6), (101, .iload 3), (102, .if_icmp .ge 187), (105, .iconst 0), (106, .istore 7)]
theorem h_298_99 : chk (mt 298) 108 99 b_298_99 = true := by decide +kernel
def b_298_108 : List (Nat × Instr) := [(108, .iload 7), (110, .iload 3), (111, .if_icmp .ge 181), (114, .aload 0), (115, .getfield 1264), (118, .iload 6), (120, .aload 0), (121, .getfield 1264), (124, .iload 6), (126, .iaload), (127, .iconst (-1)), (128, .if_icmp .ne 167), (131, .aload 0), (132, .getfield 1264), (135, .iload 7), (137, .iaload), (138, .i2l), (139, .sipush 0), (140, .iload 5), (142, .i2l), (143, .sipush 1), (144, .lsub), (145, .invokestatic 193), (148, .ifCond .eq 167), (151, .aload 0), (152, .iload 6), (154, .iload 7), (156, .invokevirtual 299), (159, .ifCond .eq 167), (162, .iload 5), (164, .goto 174)]
theorem h_298_108 : chk (mt 298) 167 108 b_298_108 = true := by decide +kernel
def b_298_167 : List (Nat × Instr) := [(167, .aload 0), (168, .getfield 1264), (171, .iload 6), (173, .iaload)]
theorem h_298_167 : chk (mt 298) 174 167 b_298_167 = true := by decide +kernel
def b_298_174 : List (Nat × Instr) := [(174, .iastore), (175, .iinc 7 1), (178, .goto 108)]
theorem h_298_174 : chk (mt 298) 181 174 b_298_174 = true := by decide +kernel
def b_298_181 : List (Nat × Instr) := [(181, .iinc 6 1), (184, .goto 99)]
theorem h_298_181 : chk (mt 298) 187 181 b_298_181 = true := by decide +kernel
def b_298_187 : List (Nat × Instr) := [(187, .iinc 5 1), (190, .goto 90)]
theorem h_298_187 : chk (mt 298) 193 187 b_298_187 = true := by decide +kernel
def b_298_193 : List (Nat × Instr) := [(193, .iconst 0), (194, .istore 5)]
theorem h_298_193 : chk (mt 298) 196 193 b_298_193 = true := by decide +kernel
def b_298_196 : List (Nat × Instr) := [(196, .iload 5), (198, .iload 3), (199, .if_icmp .ge 232), (202, .iload 4), (204, .aload 0), (205, .getfield 1264), (208, .iload 5), (210, .iaload), (211, .iconst (-1)), (212, .if_icmp .eq 222), (215, .iconst 1), (216, .iload 5), (218, .ishl), (219, .goto 223)]
theorem h_298_196 : chk (mt 298) 222 196 b_298_196 = true := by decide +kernel
def b_298_222 : List (Nat × Instr) := [(222, .iconst 0)]
theorem h_298_222 : chk (mt 298) 223 222 b_298_222 = true := by decide +kernel
def b_298_223 : List (Nat × Instr) := [(223, .ior), (224, .istore 4), (226, .iinc 5 1), (229, .goto 196)]
theorem h_298_223 : chk (mt 298) 232 223 b_298_223 = true := by decide +kernel
def b_298_232 : List (Nat × Instr) := [(232, .iload 2), (233, .iconst (-1)), (234, .if_icmp .ne 242), (237, .iload 4), (239, .goto 248)]
theorem h_298_232 : chk (mt 298) 242 232 b_298_232 = true := by decide +kernel
def b_298_242 : List (Nat × Instr) := [(242, .aload 0), (243, .getfield 1264), (246, .iload 2), (247, .iaload)]
theorem h_298_242 : chk (mt 298) 248 242 b_298_242 = true := by decide +kernel
def b_298_248 : List (Nat × Instr) := [(248, .ireturn)]
theorem h_298_248 : chk (mt 298) 249 248 b_298_248 = true := by decide +kernel
def b_299_0 : List (Nat × Instr) := [(0, .aload 0), (1, .iload 1), (2, .iconst 2), (3, .invokevirtual 292), (6, .aload 0), (7, .iload 2), (8, .iconst 2), (9, .invokevirtual 292), (12, .if_icmp .ne 49), (15, .aload 0), (16, .iload 1), (17, .iconst 3), (18, .invokevirtual 292), (21, .aload 0), (22, .iload 2), (23, .iconst 3), (24, .invokevirtual 292), (27, .if_icmp .ne 49), (30, .aload 0), (31, .iload 1), (32, .iconst 4), (33, .invokevirtual 292), (36, .aload 0), (37, .iload 2), (38, .iconst 4), (39, .invokevirtual 292), (42, .if_icmp .ne 49), (45, .iconst 1), (46, .goto 50)]
theorem h_299_0 : chk (mt 299) 49 0 b_299_0 = true := by decide +kernel
def b_299_49 : List (Nat × Instr) := [(49, .iconst 0)]
theorem h_299_49 : chk (mt 299) 50 49 b_299_49 = true := by decide +kernel
def b_299_50 : List (Nat × Instr) := [(50, .istore 3), (51, .iload 3), (52, .ifCond .ne 71), (55, .aload 0), (56, .iload 1), (57, .iconst 5), (58, .invokevirtual 292), (61, .aload 0), (62, .iload 2), (63, .iconst 5), (64, .invokevirtual 292), (67, .iand), (68, .ifCond .eq 75)]
theorem h_299_50 : chk (mt 299) 71 50 b_299_50 = true := by decide +kernel
def b_299_71 : List (Nat × Instr) := [(71, .iconst 1), (72, .goto 76)]
theorem h_299_71 : chk (mt 299) 75 71 b_299_71 = true := by decide +kernel
def b_299_75 : List (Nat × Instr) := [(75, .iconst 0)]
theorem h_299_75 : chk (mt 299) 76 75 b_299_75 = true := by decide +kernel
def b_299_76 : List (Nat × Instr) := [(76, .ireturn)]
theorem h_299_76 : chk (mt 299) 77 76 b_299_76 = true := by decide +kernel
def b_300_0 : List (Nat × Instr) := [(0, .aload 0), (1, .iconst 0), (2, .putfield 1200), (5, .iload 1), (6, .i2l), (7, .sipush 0), (8, .sipush 999), (11, .invokestatic 193), (14, .ifCond .eq 29), (17, .iload 2), (18, .i2l), (19, .sipush 0), (20, .sipush 999), (23, .invokestatic 193), (26, .ifCond .ne 35)]
theorem h_300_0 : chk (mt 300) 29 0 b_300_0 = true := by decide +kernel
def b_300_29 : List (Nat × Instr) := [(29, .aload 0), (30, .iconst (-1)), (31, .invokevirtual 194), (34, .ireturn)]
theorem h_300_29 : chk (mt 300) 35 29 b_300_29 = true := by decide +kernel
def b_300_35 : List (Nat × Instr) := [(35, .aload 0), (36, .getfield 1203), (39, .iconst 7), (41, .iaload), (42, .iconst 40), (44, .if_icmp .ne 54), (47, .aload 0), (48, .iconst (-5)), (50, .invokevirtual 194), (53, .ireturn)]
theorem h_300_35 : chk (mt 300) 54 35 b_300_35 = true := by decide +kernel
def b_300_54 : List (Nat × Instr) := [(54, .aload 0), (55, .getfield 1203), (58, .iconst 202), (61, .iconst 2), (62, .aload 0), (63, .getfield 1203), (66, .iconst 7), (68, .iaload), (69, .imul), (70, .iadd), (71, .iload 1), (72, .iastore), (73, .aload 0), (74, .getfield 1203), (77, .iconst 202), (80, .iconst 2), (81, .aload 0), (82, .getfield 1203), (85, .iconst 7), (87, .iaload), (88, .imul), (89, .iadd), (90, .iconst 1), (91, .iadd), (92, .iload 2), (93, .iastore), (94, .aload 0), (95, .getfield 1203), (98, .iconst 7), (100, .dup2), (101, .iaload), (102, .iconst 1), (103, .iadd), (104, .iastore), (105, .aload 0), (106, .aload 0), (107, .getfield 1203), (110, .iconst 7), (112, .iaload), (113, .invokevirtual 194), (116, .ireturn)]
theorem h_300_54 : chk (mt 300) 117 54 b_300_54 = true := by decide +kernel
def b_301_0 : List (Nat × Instr) := [(0, .aload 0), (1, .iconst 0), (2, .putfield 1200), (5, .iload 1), (6, .i2l), (7, .sipush 0), (8, .sipush 99), (11, .invokestatic 193), (14, .ifCond .eq 39), (17, .iload 2), (18, .i2l), (19, .sipush 0), (20, .sipush 9999), (23, .invokestatic 193), (26, .ifCond .eq 39), (29, .iload 3), (30, .i2l), (31, .sipush 0), (32, .sipush 1), (33, .invokestatic 193), (36, .ifCond .ne 41)]
theorem h_301_0 : chk (mt 301) 39 0 b_301_0 = true := by decide +kernel
def b_301_39 : List (Nat × Instr) := [(39, .iconst (-1)), (40, .ireturn)]
theorem h_301_39 : chk (mt 301) 41 39 b_301_39 = true := by decide +kernel
def b_301_41 : List (Nat × Instr) := [(41, .iconst (-1)), (42, .istore 4), (44, .iconst 0), (45, .istore 5), (47, .iconst 0), (48, .istore 6), (50, .iconst 0), (51, .istore 7)]
theorem h_301_41 : chk (mt 301) 53 41 b_301_41 = true := by decide +kernel
def b_301_53 : List (Nat × Instr) := [(53, .iload 7), (55, .aload 0), (56, .getfield 1203), (59, .iconst 7), (61, .iaload), (62, .if_icmp .ge 157), (65, .iload 6), (67, .aload 0), (68, .getfield 1203), (71, .iconst 202), (74, .iconst 2), (75, .iload 7), (77, .imul), (78, .iadd), (79, .iaload), (80, .aload 0), (81, .getfield 1203), (84, .iconst 202), (87, .iconst 2), (88, .iload 7), (90, .imul), (91, .iadd), (92, .iconst 1), (93, .iadd), (94, .iaload), (95, .isub), (96, .iload 1), (97, .isub), (98, .iadd), (99, .istore 6), (101, .iload 6), (103, .ifCond .ge 110), (106, .iconst 0), (107, .goto 112)]
theorem h_301_53 : chk (mt 301) 110 53 b_301_53 = true := by decide +kernel
def b_301_110 : List (Nat × Instr) := [(110, .iload 6)]
theorem h_301_110 : chk (mt 301) 112 110 b_301_110 = true := by decide +kernel
def b_301_112 : List (Nat × Instr) := [(112, .istore 6), (114, .iload 4), (116, .iconst (-1)), (117, .if_icmp .ne 131), (120, .iload 6), (122, .iload 2), (123, .if_icmp .le 131), (126, .iload 7), (128, .goto 133)]
theorem h_301_112 : chk (mt 301) 131 112 b_301_112 = true := by decide +kernel
def b_301_131 : List (Nat × Instr) := [(131, .iload 4)]
theorem h_301_131 : chk (mt 301) 133 131 b_301_131 = true := by decide +kernel
def b_301_133 : List (Nat × Instr) := [(133, .istore 4), (135, .iload 6), (137, .iload 5), (139, .if_icmp .le 147), (142, .iload 6), (144, .goto 149)]
theorem h_301_133 : chk (mt 301) 147 133 b_301_133 = true := by decide +kernel
def b_301_147 : List (Nat × Instr) := [(147, .iload 5)]
theorem h_301_147 : chk (mt 301) 149 147 b_301_147 = true := by decide +kernel
def b_301_149 : List (Nat × Instr) := [(149, .istore 5), (151, .iinc 7 1), (154, .goto 53)]
theorem h_301_149 : chk (mt 301) 157 149 b_301_149 = true := by decide +kernel
def b_301_157 : List (Nat × Instr) := [(157, .iload 3), (158, .ifCond .ne 166), (161, .iload 4), (163, .goto 168)]
theorem h_301_157 : chk (mt 301) 166 157 b_301_157 = true := by decide +kernel
def b_301_166 : List (Nat × Instr) := [(166, .iload 5)]
theorem h_301_166 : chk (mt 301) 168 166 b_301_166 = true := by decide +kernel
def b_301_168 : List (Nat × Instr) := [(168, .ireturn)]
theorem h_301_168 : chk (mt 301) 169 168 b_301_168 = true := by decide +kernel
def b_302_0 : List (Nat × Instr) := [(0, .aload 0), (1, .iconst 0), (2, .putfield 1200), (5, .iload 1), (6, .i2l), (7, .sipush 0), (8, .sipush 1000000), (11, .invokestatic 193), (14, .ifCond .ne 23), (17, .aload 0), (18, .iconst (-1)), (19, .invokevirtual 194), (22, .ireturn)]
theorem h_302_0 : chk (mt 302) 23 0 b_302_0 = true := by decide +kernel
def b_302_23 : List (Nat × Instr) := [(23, .iload 1), (24, .i2l), (25, .lstore 2), (26, .iconst 0), (27, .istore 4), (29, .iconst 0), (30, .istore 5)]
theorem h_302_23 : chk (mt 302) 32 23 b_302_23 = true := by decide +kernel
def b_302_32 : List (Nat × Instr) := [(32, .iload 5), (34, .iconst 5), (35, .if_icmp .ge 100), (38, .iconst 0), (39, .istore 6)]
theorem h_302_32 : chk (mt 302) 41 32 b_302_32 = true := by decide +kernel
def b_302_41 : List (Nat × Instr) := [(41, .iload 6), (43, .iconst 3), (44, .if_icmp .ge 94), (47, .lload 2), (48, .sipush 1103), (51, .lmul), (52, .sipush 12345), (55, .ladd), (56, .sipush 1000003), (59, .lrem), (60, .lstore 2), (61, .aload 0), (62, .getfield 1266), (65, .iconst 3), (66, .iload 5), (68, .imul), (69, .iload 6), (71, .iadd), (72, .lload 2), (73, .aload 0), (74, .getfield 1203), (77, .iconst 0), (78, .iload 6), (80, .iadd), (81, .iaload), (82, .i2l), (83, .sipush 1), (84, .ladd), (85, .lrem), (86, .l2i), (87, .iastore), (88, .iinc 6 1), (91, .goto 41)]
theorem h_302_41 : chk (mt 302) 94 41 b_302_41 = true := by decide +kernel
def b_302_94 : List (Nat × Instr) := [(94, .iinc 5 1), (97, .goto 32)]
theorem h_302_94 : chk (mt 302) 100 94 b_302_94 = true := by decide +kernel
def b_302_100 : List (Nat × Instr) := [(100, .iconst 0), (101, .istore 5)]
theorem h_302_100 : chk (mt 302) 103 100 b_302_100 = true := by decide +kernel
def b_302_103 : List (Nat × Instr) := [(103, .iload 5), (105, .iconst 5), (106, .if_icmp .ge 169), (109, .aload 0), (110, .aload 0), (111, .getfield 1266), (114, .iconst 3), (115, .iload 5), (117, .imul), (118, .iaload), (119, .aload 0), (120, .getfield 1266), (123, .iconst 3), (124, .iload 5), (126, .imul), (127, .iconst 1), (128, .iadd), (129, .iaload), (130, .aload 0), (131, .getfield 1266), (134, .iconst 3), (135, .iload 5), (137, .imul), (138, .iconst 2), (139, .iadd), (140, .iaload), (141, .invokevirtual 262), (144, .ifCond .ne 154), (147, .aload 0), (148, .iconst (-3)), (150, .invokevirtual 194), (153, .ireturn)]
theorem h_302_103 : chk (mt 302) 154 103 b_302_103 = true := by decide +kernel
def b_302_154 : List (Nat × Instr) := [(154, .iload 4), (156, .aload 0), (157, .invokevirtual 263), (160, .iadd), (161, .istore 4), (163, .iinc 5 1), (166, .goto 103)]
theorem h_302_154 : chk (mt 302) 169 154 b_302_154 = true := by decide +kernel
def b_302_169 : List (Nat × Instr) := [(169, .aload 0), (170, .iconst 1), (171, .putfield 1267), (174, .iconst 0), (175, .istore 5)]
theorem h_302_169 : chk (mt 302) 177 169 b_302_169 = true := by decide +kernel
def b_302_177 : List (Nat × Instr) := [(177, .iload 5), (179, .iconst 15), (181, .if_icmp .ge 204), (184, .aload 0), (185, .getfield 1265), (188, .iload 5), (190, .aload 0), (191, .getfield 1266), (194, .iload 5), (196, .iaload), (197, .iastore), (198, .iinc 5 1), (201, .goto 177)]
theorem h_302_177 : chk (mt 302) 204 177 b_302_177 = true := by decide +kernel
def b_302_204 : List (Nat × Instr) := [(204, .aload 0), (205, .iload 4), (207, .invokevirtual 194), (210, .ireturn)]
theorem h_302_204 : chk (mt 302) 211 204 b_302_204 = true := by decide +kernel
def b_303_0 : List (Nat × Instr) := [(0, .aload 0), (1, .iconst 0), (2, .putfield 1200), (5, .aload 0), (6, .getfield 1267), (9, .ifCond .eq 44), (12, .iload 1), (13, .i2l), (14, .sipush 0), (15, .sipush 4), (18, .invokestatic 193), (21, .ifCond .eq 44), (24, .iload 2), (25, .invokestatic 197), (28, .ifCond .eq 44), (31, .aload 0), (32, .getfield 1265), (35, .iconst 3), (36, .iload 1), (37, .imul), (38, .iload 2), (39, .iadd), (40, .iaload), (41, .goto 45)]
theorem h_303_0 : chk (mt 303) 44 0 b_303_0 = true := by decide +kernel
def b_303_44 : List (Nat × Instr) := [(44, .iconst (-1))]
theorem h_303_44 : chk (mt 303) 45 44 b_303_44 = true := by decide +kernel
def b_303_45 : List (Nat × Instr) := [(45, .ireturn)]
theorem h_303_45 : chk (mt 303) 46 45 b_303_45 = true := by decide +kernel
def b_304_0 : List (Nat × Instr) := [(0, .aload 0), (1, .iconst 0), (2, .putfield 1200), (5, .iconst 0), (6, .istore 2), (7, .iconst 0), (8, .istore 3)]
theorem h_304_0 : chk (mt 304) 9 0 b_304_0 = true := by decide +kernel
def b_304_9 : List (Nat × Instr) := [(9, .iload 3), (10, .aload 0), (11, .getfield 1203), (14, .iconst 6), (16, .iaload), (17, .if_icmp .ge 36), (20, .iload 2), (21, .aload 0), (22, .iload 3), (23, .iconst 6), (25, .invokevirtual 292), (28, .iadd), (29, .istore 2), (30, .iinc 3 1), (33, .goto 9)]
theorem h_304_9 : chk (mt 304) 36 9 b_304_9 = true := by decide +kernel
def b_304_36 : List (Nat × Instr) := [(36, .iload 1), (37, .tableswitch 200 0 13 #[108, 113, 121, 129, 136, 138, 146, 154, 159, 164, 171, 178, 185, 192])]
theorem h_304_36 : chk (mt 304) 108 36 b_304_36 = true := by decide +kernel
def b_304_108 : List (Nat × Instr) := [(108, .aload 0), (109, .invokevirtual 198), (112, .ireturn)]
theorem h_304_108 : chk (mt 304) 113 108 b_304_108 = true := by decide +kernel
def b_304_113 : List (Nat × Instr) := [(113, .aload 0), (114, .getfield 1203), (117, .iconst 8), (119, .iaload), (120, .ireturn)]
theorem h_304_113 : chk (mt 304) 121 113 b_304_113 = true := by decide +kernel
def b_304_121 : List (Nat × Instr) := [(121, .aload 0), (122, .getfield 1203), (125, .iconst 9), (127, .iaload), (128, .ireturn)]
theorem h_304_121 : chk (mt 304) 129 121 b_304_121 = true := by decide +kernel
def b_304_129 : List (Nat × Instr) := [(129, .aload 0), (130, .getfield 1203), (133, .iconst 3), (134, .iaload), (135, .ireturn)]
theorem h_304_129 : chk (mt 304) 136 129 b_304_129 = true := by decide +kernel
def b_304_136 : List (Nat × Instr) := [(136, .iload 2), (137, .ireturn)]
theorem h_304_136 : chk (mt 304) 138 136 b_304_136 = true := by decide +kernel
def b_304_138 : List (Nat × Instr) := [(138, .aload 0), (139, .getfield 1203), (142, .iconst 6), (144, .iaload), (145, .ireturn)]
theorem h_304_138 : chk (mt 304) 146 138 b_304_138 = true := by decide +kernel
def b_304_146 : List (Nat × Instr) := [(146, .aload 0), (147, .getfield 1203), (150, .iconst 7), (152, .iaload), (153, .ireturn)]
theorem h_304_146 : chk (mt 304) 154 146 b_304_146 = true := by decide +kernel
def b_304_154 : List (Nat × Instr) := [(154, .aload 0), (155, .invokevirtual 204), (158, .ireturn)]
theorem h_304_154 : chk (mt 304) 159 154 b_304_154 = true := by decide +kernel
def b_304_159 : List (Nat × Instr) := [(159, .aload 0), (160, .getfield 1207), (163, .ireturn)]
theorem h_304_159 : chk (mt 304) 164 159 b_304_159 = true := by decide +kernel
def b_304_164 : List (Nat × Instr) := [(164, .aload 0), (165, .getfield 1202), (168, .iconst 1), (169, .iaload), (170, .ireturn)]
theorem h_304_164 : chk (mt 304) 171 164 b_304_164 = true := by decide +kernel
def b_304_171 : List (Nat × Instr) := [(171, .aload 0), (172, .getfield 1202), (175, .iconst 2), (176, .iaload), (177, .ireturn)]
theorem h_304_171 : chk (mt 304) 178 171 b_304_171 = true := by decide +kernel
def b_304_178 : List (Nat × Instr) := [(178, .aload 0), (179, .getfield 1202), (182, .iconst 3), (183, .iaload), (184, .ireturn)]
theorem h_304_178 : chk (mt 304) 185 178 b_304_178 = true := by decide +kernel
def b_304_185 : List (Nat × Instr) := [(185, .aload 0), (186, .getfield 1202), (189, .iconst 5), (190, .iaload), (191, .ireturn)]
theorem h_304_185 : chk (mt 304) 192 185 b_304_185 = true := by decide +kernel
def b_304_192 : List (Nat × Instr) := [(192, .aload 0), (193, .getfield 1202), (196, .iconst 6), (198, .iaload), (199, .ireturn)]
theorem h_304_192 : chk (mt 304) 200 192 b_304_192 = true := by decide +kernel
def b_304_200 : List (Nat × Instr) := [(200, .iconst (-1)), (201, .ireturn)]
theorem h_304_200 : chk (mt 304) 202 200 b_304_200 = true := by decide +kernel
def b_305_0 : List (Nat × Instr) := [(0, .aload 0), (1, .iconst 0), (2, .putfield 1200), (5, .aload 0), (6, .getfield 1201), (9, .ireturn)]
theorem h_305_0 : chk (mt 305) 10 0 b_305_0 = true := by decide +kernel
