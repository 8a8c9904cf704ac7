def b_0_0 : List (Nat × Instr) := [(0, .aload 0), (1, .invokedynamic 1), (4, .aload 0), (5, .new 3), (8, .dup), (9, .invokespecial 2), (12, .putfield 1100), (15, .aload 0), (16, .iconst 2), (17, .anewarray 17), (20, .putfield 1101), (23, .aload 0), (24, .new 0), (27, .dup), (28, .aload 0), (29, .getfield 1100), (32, .invokespecial 4), (35, .putfield 1102), (38, .aload 0), (39, .new 7), (42, .dup), (43, .aload 0), (44, .getfield 1100), (47, .aload 0), (48, .getfield 1102), (51, .invokespecial 5), (54, .putfield 1103), (57, .aload 0), (58, .new 1), (61, .dup), (62, .aload 0), (63, .getfield 1100), (66, .aload 0), (67, .getfield 1102), (70, .aload 0), (71, .getfield 1103), (74, .invokespecial 9), (77, .putfield 1104), (80, .aload 0), (81, .new 5), (84, .dup), (85, .aload 0), (86, .getfield 1100), (89, .invokespecial 10), (92, .putfield 1105), (95, .aload 0), (96, .new 9), (99, .dup), (100, .aload 0), (101, .getfield 1100), (104, .invokespecial 11), (107, .putfield 1106), (110, .aload 0), (111, .iconst 400), (114, .newarray .int), (116, .putfield 1107), (119, .aload 0), (120, .iconst 15), (122, .newarray .int), (124, .putfield 1108), (127, .aload 0), (128, .iconst 15), (130, .newarray .int), (132, .putfield 1109), (135, .aload 0), (136, .iconst 5), (137, .newarray .int), (139, .putfield 1110), (142, .aload 0), (143, .new 10), (146, .dup), (147, .invokespecial 3), (150, .putfield 1111), (153, .aload 0), (154, .new 8), (157, .dup), (158, .aload 0), (159, .getfield 1111), (162, .aload 0), (163, .getfield 1107), (166, .invokespecial 12), (169, .putfield 1112), (172, .aload 0), (173, .iconst 0), (174, .putfield 1113), (177, .aload 0), (178, .iconst 0), (179, .putfield 1114), (182, .aload 0), (183, .iconst (-1)), (184, .putfield 1115), (187, .aload 0), (188, .iconst 0), (189, .putfield 1116), (192, .aload 0), (193, .iconst 0), (194, .putfield 1117), (197, .aload 0), (198, .iconst 0), (199, .putfield 1118), (202, .return_)]
theorem h_0_0 : chk (mt 0) 203 0 b_0_0 = true := by decide +kernel
def b_2_0 : List (Nat × Instr) := [(0, .aload 0), (1, .invokedynamic 1), (4, .aload 0), (5, .iconst 3), (6, .newarray .int), (8, .putfield 300), (11, .aload 0), (12, .iconst 30), (14, .newarray .int), (16, .putfield 301), (19, .aload 0), (20, .iconst 30), (22, .newarray .int), (24, .putfield 302), (27, .aload 0), (28, .iconst 4), (29, .newarray .int), (31, .putfield 303), (34, .aload 0), (35, .iconst 8), (37, .newarray .int), (39, .putfield 304), (42, .aload 0), (43, .iconst 112), (45, .newarray .int), (47, .putfield 305), (50, .aload 0), (51, .iconst 40), (53, .newarray .int), (55, .putfield 306), (58, .aload 0), (59, .new 10), (62, .dup), (63, .invokespecial 3), (66, .putfield 307), (69, .aload 0), (70, .iconst 0), (71, .putfield 308), (74, .aload 0), (75, .iconst 0), (76, .putfield 309), (79, .aload 0), (80, .iconst 0), (81, .putfield 310), (84, .aload 0), (85, .iconst 0), (86, .putfield 311), (89, .aload 0), (90, .iconst 5), (91, .putfield 312), (94, .return_)]
theorem h_2_0 : chk (mt 2) 95 0 b_2_0 = true := by decide +kernel
def b_3_0 : List (Nat × Instr) := [(0, .aload 0), (1, .invokedynamic 1), (4, .aload 0), (5, .iconst 24), (7, .newarray .int), (9, .putfield 1000), (12, .aload 0), (13, .iconst 24), (15, .newarray .int), (17, .putfield 1001), (20, .aload 0), (21, .iconst 24), (23, .newarray .int), (25, .putfield 1002), (28, .aload 0), (29, .iconst 24), (31, .newarray .int), (33, .putfield 1003), (36, .aload 0), (37, .iconst 24), (39, .newarray .int), (41, .putfield 1004), (44, .aload 0), (45, .iconst 16), (47, .newarray .int), (49, .putfield 1005), (52, .aload 0), (53, .iconst 16), (55, .newarray .int), (57, .putfield 1006), (60, .aload 0), (61, .iconst 160), (64, .newarray .int), (66, .putfield 1007), (69, .aload 0), (70, .iconst 400), (73, .newarray .int), (75, .putfield 1008), (78, .aload 0), (79, .iconst 400), (82, .newarray .int), (84, .putfield 1009), (87, .aload 0), (88, .iconst 0), (89, .putfield 1010), (92, .aload 0), (93, .iconst 0), (94, .putfield 1011), (97, .aload 0), (98, .iconst 0), (99, .putfield 1012), (102, .aload 0), (103, .iconst 0), (104, .putfield 1013), (107, .return_)]
theorem h_3_0 : chk (mt 3) 108 0 b_3_0 = true := by decide +kernel
def b_4_0 : List (Nat × Instr) := [(0, .aload 0), (1, .invokedynamic 1), (4, .aload 0), (5, .iconst 5), (6, .newarray .int), (8, .putfield 1), (11, .aload 0), (12, .iconst 64), (14, .newarray .int), (16, .putfield 2), (19, .aload 0), (20, .iconst 0), (21, .putfield 3), (24, .aload 0), (25, .iconst 0), (26, .putfield 4), (29, .aload 0), (30, .aload 1), (31, .putfield 0), (34, .return_)]
theorem h_4_0 : chk (mt 4) 35 0 b_4_0 = true := by decide +kernel
def b_5_0 : List (Nat × Instr) := [(0, .aload 0), (1, .invokedynamic 1), (4, .aload 0), (5, .iconst 3), (6, .anewarray 16), (9, .putfield 702), (12, .aload 0), (13, .new 6), (16, .dup), (17, .invokespecial 6), (20, .putfield 703), (23, .aload 0), (24, .new 4), (27, .dup), (28, .aload 0), (29, .getfield 703), (32, .invokespecial 7), (35, .putfield 704), (38, .aload 0), (39, .iconst 729), (42, .newarray .int), (44, .putfield 705), (47, .aload 0), (48, .iconst 729), (51, .newarray .int), (53, .putfield 706), (56, .aload 0), (57, .iconst 729), (60, .newarray .int), (62, .putfield 707), (65, .aload 0), (66, .iconst 8), (68, .newarray .int), (70, .putfield 708), (73, .aload 0), (74, .iconst 8), (76, .newarray .int), (78, .putfield 709), (81, .aload 0), (82, .iconst 3), (83, .newarray .int), (85, .putfield 710), (88, .aload 0), (89, .iconst 3), (90, .newarray .int), (92, .putfield 711), (95, .aload 0), (96, .iconst 1), (97, .putfield 712), (100, .aload 0), (101, .iconst 1), (102, .putfield 713), (105, .aload 0), (106, .iconst 1), (107, .putfield 714), (110, .aload 0), (111, .iconst 1), (112, .putfield 715), (115, .aload 0), (116, .aload 1), (117, .putfield 700), (120, .aload 0), (121, .aload 2), (122, .putfield 701), (125, .iconst 0), (126, .istore 3)]
theorem h_5_0 : chk (mt 5) 127 0 b_5_0 = true := by decide +kernel
def b_5_127 : List (Nat × Instr) := [(127, .iload 3), (128, .iconst 3), (129, .if_icmp .ge 151), (132, .aload 0), (133, .getfield 702), (136, .iload 3), (137, .new 2), (140, .dup), (141, .invokespecial 8), (144, .aastore), (145, .iinc 3 1), (148, .goto 127)]
theorem h_5_127 : chk (mt 5) 151 127 b_5_127 = true := by decide +kernel
def b_5_151 : List (Nat × Instr) := [(151, .return_)]
theorem h_5_151 : chk (mt 5) 152 151 b_5_151 = true := by decide +kernel
def b_6_0 : List (Nat × Instr) := [(0, .aload 0), (1, .invokedynamic 1), (4, .aload 0), (5, .iconst 192), (8, .newarray .int), (10, .putfield 600), (13, .aload 0), (14, .iconst 192), (17, .newarray .int), (19, .putfield 601), (22, .aload 0), (23, .iconst 192), (26, .newarray .int), (28, .putfield 602), (31, .aload 0), (32, .iconst 192), (35, .newarray .int), (37, .putfield 603), (40, .aload 0), (41, .iconst 192), (44, .newarray .int), (46, .putfield 604), (49, .aload 0), (50, .iconst 3), (51, .newarray .int), (53, .putfield 605), (56, .aload 0), (57, .iconst 3), (58, .newarray .int), (60, .putfield 606), (63, .aload 0), (64, .iconst 5), (65, .newarray .int), (67, .putfield 607), (70, .aload 0), (71, .iconst 5), (72, .newarray .int), (74, .putfield 608), (77, .aload 0), (78, .iconst 5), (79, .newarray .int), (81, .putfield 609), (84, .aload 0), (85, .iconst 5), (86, .newarray .int), (88, .putfield 610), (91, .aload 0), (92, .iconst 1024), (95, .newarray .int), (97, .putfield 611), (100, .aload 0), (101, .iconst 1024), (104, .newarray .int), (106, .putfield 612), (109, .aload 0), (110, .iconst 32), (112, .newarray .int), (114, .putfield 613), (117, .aload 0), (118, .iconst 1024), (121, .newarray .int), (123, .putfield 614), (126, .aload 0), (127, .iconst 1024), (130, .newarray .int), (132, .putfield 615), (135, .aload 0), (136, .iconst 32), (138, .newarray .int), (140, .putfield 616), (143, .aload 0), (144, .iconst 0), (145, .putfield 617), (148, .aload 0), (149, .iconst 0), (150, .putfield 618), (153, .aload 0), (154, .iconst 1), (155, .putfield 619), (158, .return_)]
theorem h_6_0 : chk (mt 6) 159 0 b_6_0 = true := by decide +kernel
def b_7_0 : List (Nat × Instr) := [(0, .aload 0), (1, .invokedynamic 1), (4, .aload 0), (5, .iconst 10), (7, .newarray .int), (9, .putfield 401), (12, .aload 0), (13, .iconst 8), (15, .newarray .int), (17, .putfield 402), (20, .aload 0), (21, .iconst 0), (22, .putfield 403), (25, .aload 0), (26, .iconst 256), (29, .newarray .int), (31, .putfield 404), (34, .aload 0), (35, .iconst 256), (38, .newarray .int), (40, .putfield 405), (43, .aload 0), (44, .iconst 256), (47, .newarray .int), (49, .putfield 406), (52, .aload 0), (53, .iconst 1), (54, .newarray .int), (56, .putfield 407), (59, .aload 0), (60, .iconst 0), (61, .putfield 408), (64, .aload 0), (65, .iconst 0), (66, .putfield 409), (69, .aload 0), (70, .aload 1), (71, .putfield 400), (74, .return_)]
theorem h_7_0 : chk (mt 7) 75 0 b_7_0 = true := by decide +kernel
def b_8_0 : List (Nat × Instr) := [(0, .aload 0), (1, .invokedynamic 1), (4, .aload 0), (5, .iconst 640), (8, .newarray .int), (10, .putfield 200), (13, .aload 0), (14, .iconst 640), (17, .newarray .int), (19, .putfield 201), (22, .aload 0), (23, .iconst 10), (25, .newarray .int), (27, .putfield 202), (30, .aload 0), (31, .iconst 10), (33, .newarray .int), (35, .putfield 203), (38, .aload 0), (39, .iconst 0), (40, .putfield 204), (43, .aload 0), (44, .iconst (-1)), (45, .putfield 205), (48, .aload 0), (49, .iconst 0), (50, .putfield 206), (53, .return_)]
theorem h_8_0 : chk (mt 8) 54 0 b_8_0 = true := by decide +kernel
def b_9_0 : List (Nat × Instr) := [(0, .aload 0), (1, .invokedynamic 1), (4, .aload 0), (5, .iconst 16), (7, .newarray .int), (9, .putfield 103), (12, .aload 0), (13, .iconst 16), (15, .newarray .int), (17, .putfield 104), (20, .aload 0), (21, .iconst 16), (23, .newarray .int), (25, .putfield 105), (28, .aload 0), (29, .iconst 10), (31, .newarray .int), (33, .putfield 106), (36, .aload 0), (37, .iconst 16), (39, .newarray .int), (41, .putfield 107), (44, .aload 0), (45, .iconst 16), (47, .newarray .int), (49, .putfield 108), (52, .aload 0), (53, .iconst 4), (54, .newarray .int), (56, .putfield 109), (59, .aload 0), (60, .iconst 0), (61, .putfield 110), (64, .aload 0), (65, .iconst 0), (66, .putfield 111), (69, .aload 0), (70, .iconst (-1)), (71, .putfield 112), (74, .aload 0), (75, .iconst 0), (76, .putfield 113), (79, .aload 0), (80, .iconst 0), (81, .putfield 114), (84, .aload 0), (85, .iconst 1), (86, .putfield 115), (89, .aload 0), (90, .iconst 1), (91, .putfield 116), (94, .aload 0), (95, .aload 1), (96, .putfield 100), (99, .aload 0), (100, .aload 2), (101, .putfield 101), (104, .aload 0), (105, .aload 3), (106, .putfield 102), (109, .return_)]
theorem h_9_0 : chk (mt 9) 110 0 b_9_0 = true := by decide +kernel
def b_10_0 : List (Nat × Instr) := [(0, .aload 0), (1, .invokedynamic 1), (4, .aload 0), (5, .iconst 16), (7, .newarray .int), (9, .putfield 501), (12, .aload 0), (13, .iconst 256), (16, .newarray .int), (18, .putfield 502), (21, .aload 0), (22, .iconst 256), (25, .newarray .int), (27, .putfield 503), (30, .aload 0), (31, .iconst 256), (34, .newarray .int), (36, .putfield 504), (39, .aload 0), (40, .iconst 256), (43, .newarray .int), (45, .putfield 505), (48, .aload 0), (49, .iconst 0), (50, .putfield 506), (53, .aload 0), (54, .iconst 0), (55, .putfield 507), (58, .aload 0), (59, .iconst (-1)), (60, .putfield 508), (63, .aload 0), (64, .iconst (-1)), (65, .putfield 509), (68, .aload 0), (69, .iconst (-1)), (70, .putfield 510), (73, .aload 0), (74, .iconst 1), (75, .putfield 511), (78, .aload 0), (79, .iconst 0), (80, .putfield 512), (83, .aload 0), (84, .iconst 0), (85, .putfield 513), (88, .aload 0), (89, .iconst 0), (90, .putfield 514), (93, .aload 0), (94, .aload 1), (95, .putfield 500), (98, .return_)]
theorem h_10_0 : chk (mt 10) 99 0 b_10_0 = true := by decide +kernel
def b_11_0 : List (Nat × Instr) := [(0, .aload 0), (1, .invokedynamic 1), (4, .aload 0), (5, .iconst 16), (7, .newarray .int), (9, .putfield 901), (12, .aload 0), (13, .aload 1), (14, .putfield 900), (17, .return_)]
theorem h_11_0 : chk (mt 11) 18 0 b_11_0 = true := by decide +kernel
def b_12_0 : List (Nat × Instr) := [(0, .aload 0), (1, .invokedynamic 1), (4, .aload 0), (5, .iconst 0), (6, .putfield 802), (9, .aload 0), (10, .iconst 0), (11, .putfield 803), (14, .aload 0), (15, .iconst 0), (16, .putfield 804), (19, .aload 0), (20, .iconst 0), (21, .putfield 805), (24, .aload 0), (25, .iconst 0), (26, .putfield 806), (29, .aload 0), (30, .iconst 0), (31, .putfield 807), (34, .aload 0), (35, .aload 1), (36, .putfield 801), (39, .aload 0), (40, .aload 2), (41, .putfield 800), (44, .return_)]
theorem h_12_0 : chk (mt 12) 45 0 b_12_0 = true := by decide +kernel
def b_13_0 : List (Nat × Instr) := [(0, .iload 1), (1, .iconst 0), (2, .iconst 2), (3, .invokestatic 14), (6, .ifCond .eq 19), (9, .iload 2), (10, .iconst 0), (11, .iconst 8), (13, .invokestatic 14), (16, .ifCond .ne 25)]
theorem h_13_0 : chk (mt 13) 19 0 b_13_0 = true := by decide +kernel
def b_13_19 : List (Nat × Instr) := [(19, .aload 0), (20, .iconst (-1)), (21, .invokevirtual 15), (24, .ireturn)]
theorem h_13_19 : chk (mt 13) 25 19 b_13_19 = true := by decide +kernel
def b_13_25 : List (Nat × Instr) := [(25, .aload 0), (26, .getfield 1100), (29, .getfield 300), (32, .iload 1), (33, .iaload), (34, .istore 3), (35, .aload 0), (36, .getfield 1100), (39, .invokevirtual 16), (42, .iload 3), (43, .isub), (44, .iload 2), (45, .iadd), (46, .iconst 8), (48, .if_icmp .le 58), (51, .aload 0), (52, .iconst (-3)), (54, .invokevirtual 15), (57, .ireturn)]
theorem h_13_25 : chk (mt 13) 58 25 b_13_25 = true := by decide +kernel
def b_13_58 : List (Nat × Instr) := [(58, .aload 0), (59, .getfield 1100), (62, .getfield 300), (65, .iload 1), (66, .iload 2), (67, .iastore), (68, .aload 0), (69, .getfield 1103), (72, .invokevirtual 17), (75, .aload 0), (76, .getfield 1104), (79, .invokevirtual 18), (82, .aload 0), (83, .iload 3), (84, .invokevirtual 19), (87, .ireturn)]
theorem h_13_58 : chk (mt 13) 88 58 b_13_58 = true := by decide +kernel
def b_14_0 : List (Nat × Instr) := [(0, .iload 0), (1, .iload 1), (2, .if_icmp .lt 14), (5, .iload 0), (6, .iload 2), (7, .if_icmp .gt 14), (10, .iconst 1), (11, .goto 15)]
theorem h_14_0 : chk (mt 14) 14 0 b_14_0 = true := by decide +kernel
def b_14_14 : List (Nat × Instr) := [(14, .iconst 0)]
theorem h_14_14 : chk (mt 14) 15 14 b_14_14 = true := by decide +kernel
def b_14_15 : List (Nat × Instr) := [(15, .ireturn)]
theorem h_14_15 : chk (mt 14) 16 15 b_14_15 = true := by decide +kernel
def b_15_0 : List (Nat × Instr) := [(0, .aload 0), (1, .iload 1), (2, .putfield 1118), (5, .iload 1), (6, .iconst (-3)), (8, .if_icmp .lt 17), (11, .iconst (-1)), (12, .iload 1), (13, .isub), (14, .goto 21)]
theorem h_15_0 : chk (mt 15) 17 0 b_15_0 = true := by decide +kernel
def b_15_17 : List (Nat × Instr) := [(17, .iconst (-2)), (19, .iload 1), (20, .isub)]
theorem h_15_17 : chk (mt 15) 21 17 b_15_17 = true := by decide +kernel
def b_15_21 : List (Nat × Instr) := [(21, .istore 2), (22, .iload 2), (23, .iconst 0), (24, .aload 0), (25, .getfield 1110), (28, .arraylength), (29, .iconst 1), (30, .isub), (31, .invokestatic 14), (34, .ifCond .eq 47), (37, .aload 0), (38, .getfield 1110), (41, .iload 2), (42, .dup2), (43, .iaload), (44, .iconst 1), (45, .iadd), (46, .iastore)]
theorem h_15_21 : chk (mt 15) 47 21 b_15_21 = true := by decide +kernel
def b_15_47 : List (Nat × Instr) := [(47, .iload 1), (48, .ireturn)]
theorem h_15_47 : chk (mt 15) 49 47 b_15_47 = true := by decide +kernel
def b_16_0 : List (Nat × Instr) := [(0, .aload 0), (1, .getfield 300), (4, .iconst 0), (5, .iaload), (6, .aload 0), (7, .getfield 300), (10, .iconst 1), (11, .iaload), (12, .iadd), (13, .aload 0), (14, .getfield 300), (17, .iconst 2), (18, .iaload), (19, .iadd), (20, .ireturn)]
theorem h_16_0 : chk (mt 16) 21 0 b_16_0 = true := by decide +kernel
def b_17_0 : List (Nat × Instr) := [(0, .aload 0), (1, .iconst 1), (2, .putfield 715), (5, .return_)]
theorem h_17_0 : chk (mt 17) 6 0 b_17_0 = true := by decide +kernel
def b_18_0 : List (Nat × Instr) := [(0, .aload 0), (1, .iconst 1), (2, .putfield 115), (5, .aload 0), (6, .iconst 1), (7, .putfield 116), (10, .return_)]
theorem h_18_0 : chk (mt 18) 11 0 b_18_0 = true := by decide +kernel
def b_19_0 : List (Nat × Instr) := [(0, .aload 0), (1, .iconst 0), (2, .putfield 1118), (5, .iload 1), (6, .ireturn)]
theorem h_19_0 : chk (mt 19) 7 0 b_19_0 = true := by decide +kernel
def b_20_0 : List (Nat × Instr) := [(0, .iload 1), (1, .iconst 0), (2, .iconst 9), (4, .invokestatic 14), (7, .ifCond .eq 30), (10, .iload 2), (11, .iconst 0), (12, .iconst 2), (13, .invokestatic 14), (16, .ifCond .eq 30), (19, .iload 3), (20, .iconst 0), (21, .iconst 9999), (24, .invokestatic 14), (27, .ifCond .ne 36)]
theorem h_20_0 : chk (mt 20) 30 0 b_20_0 = true := by decide +kernel
def b_20_30 : List (Nat × Instr) := [(30, .aload 0), (31, .iconst (-1)), (32, .invokevirtual 15), (35, .ireturn)]
theorem h_20_30 : chk (mt 20) 36 30 b_20_30 = true := by decide +kernel
def b_20_36 : List (Nat × Instr) := [(36, .iload 1), (37, .iconst 3), (38, .imul), (39, .iload 2), (40, .iadd), (41, .istore 4), (43, .aload 0), (44, .getfield 1100), (47, .getfield 301), (50, .iload 4), (52, .iaload), (53, .istore 5), (55, .aload 0), (56, .getfield 1100), (59, .getfield 301), (62, .iload 4), (64, .iload 3), (65, .iastore), (66, .aload 0), (67, .invokevirtual 21), (70, .aload 0), (71, .iload 5), (73, .invokevirtual 19), (76, .ireturn)]
theorem h_20_36 : chk (mt 20) 77 36 b_20_36 = true := by decide +kernel
def b_21_0 : List (Nat × Instr) := [(0, .aload 0), (1, .getfield 1103), (4, .invokevirtual 22), (7, .aload 0), (8, .getfield 1104), (11, .invokevirtual 18), (14, .return_)]
theorem h_21_0 : chk (mt 21) 15 0 b_21_0 = true := by decide +kernel
def b_22_0 : List (Nat × Instr) := [(0, .aload 0), (1, .iconst 1), (2, .putfield 713), (5, .return_)]
theorem h_22_0 : chk (mt 22) 6 0 b_22_0 = true := by decide +kernel
def b_23_0 : List (Nat × Instr) := [(0, .iload 1), (1, .iconst 0), (2, .iconst 9), (4, .invokestatic 14), (7, .ifCond .eq 40), (10, .iload 2), (11, .iconst 0), (12, .iconst 2), (13, .invokestatic 14), (16, .ifCond .eq 40), (19, .iload 3), (20, .iconst 0), (21, .iload 2), (22, .iconst 2), (23, .if_icmp .ne 31), (26, .iconst 8), (28, .goto 34)]
theorem h_23_0 : chk (mt 23) 31 0 b_23_0 = true := by decide +kernel
def b_23_31 : List (Nat × Instr) := [(31, .iconst 999)]
theorem h_23_31 : chk (mt 23) 34 31 b_23_31 = true := by decide +kernel
def b_23_34 : List (Nat × Instr) := [(34, .invokestatic 14), (37, .ifCond .ne 46)]
theorem h_23_34 : chk (mt 23) 40 34 b_23_34 = true := by decide +kernel
def b_23_40 : List (Nat × Instr) := [(40, .aload 0), (41, .iconst (-1)), (42, .invokevirtual 15), (45, .ireturn)]
theorem h_23_40 : chk (mt 23) 46 40 b_23_40 = true := by decide +kernel
def b_23_46 : List (Nat × Instr) := [(46, .iload 2), (47, .iconst 10), (49, .imul), (50, .iload 1), (51, .iadd), (52, .istore 4), (54, .aload 0), (55, .getfield 1100), (58, .getfield 302), (61, .iload 4), (63, .iaload), (64, .istore 5), (66, .iload 2), (67, .iconst 2), (68, .if_icmp .ne 98), (71, .iload 3), (72, .ifCond .le 98), (75, .iload 5), (77, .ifCond .ne 98), (80, .aload 0), (81, .getfield 1100), (84, .invokevirtual 24), (87, .iconst 5), (88, .if_icmp .lt 98), (91, .aload 0), (92, .iconst (-3)), (94, .invokevirtual 15), (97, .ireturn)]
theorem h_23_46 : chk (mt 23) 98 46 b_23_46 = true := by decide +kernel
def b_23_98 : List (Nat × Instr) := [(98, .aload 0), (99, .getfield 1100), (102, .getfield 302), (105, .iload 4), (107, .iload 3), (108, .iastore), (109, .aload 0), (110, .getfield 1103), (113, .invokevirtual 25), (116, .aload 0), (117, .getfield 1104), (120, .invokevirtual 18), (123, .aload 0), (124, .iload 5), (126, .invokevirtual 19), (129, .ireturn)]
theorem h_23_98 : chk (mt 23) 130 98 b_23_98 = true := by decide +kernel
def b_24_0 : List (Nat × Instr) := [(0, .iconst 0), (1, .istore 1), (2, .iconst 0), (3, .istore 2)]
theorem h_24_0 : chk (mt 24) 4 0 b_24_0 = true := by decide +kernel
def b_24_4 : List (Nat × Instr) := [(4, .iload 2), (5, .iconst 10), (7, .if_icmp .ge 31), (10, .aload 0), (11, .getfield 302), (14, .iconst 20), (16, .iload 2), (17, .iadd), (18, .iaload), (19, .ifCond .le 25), (22, .iinc 1 1)]
theorem h_24_4 : chk (mt 24) 25 4 b_24_4 = true := by decide +kernel
def b_24_25 : List (Nat × Instr) := [(25, .iinc 2 1), (28, .goto 4)]
theorem h_24_25 : chk (mt 24) 31 25 b_24_25 = true := by decide +kernel
def b_24_31 : List (Nat × Instr) := [(31, .iload 1), (32, .ireturn)]
theorem h_24_31 : chk (mt 24) 33 31 b_24_31 = true := by decide +kernel
def b_25_0 : List (Nat × Instr) := [(0, .aload 0), (1, .iconst 1), (2, .putfield 714), (5, .aload 0), (6, .iconst 1), (7, .putfield 715), (10, .aload 0), (11, .dup), (12, .getfield 712), (15, .iconst 1), (16, .iadd), (17, .putfield 712), (20, .return_)]
theorem h_25_0 : chk (mt 25) 21 0 b_25_0 = true := by decide +kernel
def b_26_0 : List (Nat × Instr) := [(0, .iload 1), (1, .iconst 0), (2, .iconst 15), (4, .invokestatic 14), (7, .ifCond .ne 16), (10, .aload 0), (11, .iconst (-1)), (12, .invokevirtual 15), (15, .ireturn)]
theorem h_26_0 : chk (mt 26) 16 0 b_26_0 = true := by decide +kernel
def b_26_16 : List (Nat × Instr) := [(16, .aload 0), (17, .getfield 1100), (20, .getfield 308), (23, .istore 2), (24, .iload 2), (25, .iconst 4), (26, .if_icmp .lt 36), (29, .aload 0), (30, .iconst (-5)), (32, .invokevirtual 15), (35, .ireturn)]
theorem h_26_16 : chk (mt 26) 36 16 b_26_16 = true := by decide +kernel
def b_26_36 : List (Nat × Instr) := [(36, .aload 0), (37, .getfield 1100), (40, .getfield 303), (43, .iload 2), (44, .iload 1), (45, .iastore), (46, .aload 0), (47, .getfield 1100), (50, .iload 2), (51, .iconst 1), (52, .iadd), (53, .putfield 308), (56, .aload 0), (57, .getfield 1104), (60, .invokevirtual 18), (63, .aload 0), (64, .iload 2), (65, .invokevirtual 19), (68, .ireturn)]
theorem h_26_36 : chk (mt 26) 69 36 b_26_36 = true := by decide +kernel
def b_27_0 : List (Nat × Instr) := [(0, .iload 2), (1, .iconst 0), (2, .iconst 15), (4, .invokestatic 14), (7, .ifCond .ne 16), (10, .aload 0), (11, .iconst (-1)), (12, .invokevirtual 15), (15, .ireturn)]
theorem h_27_0 : chk (mt 27) 16 0 b_27_0 = true := by decide +kernel
def b_27_16 : List (Nat × Instr) := [(16, .iload 1), (17, .iconst 0), (18, .aload 0), (19, .getfield 1100), (22, .getfield 308), (25, .iconst 1), (26, .isub), (27, .invokestatic 14), (30, .ifCond .ne 40), (33, .aload 0), (34, .iconst (-2)), (36, .invokevirtual 15), (39, .ireturn)]
theorem h_27_16 : chk (mt 27) 40 16 b_27_16 = true := by decide +kernel
def b_27_40 : List (Nat × Instr) := [(40, .aload 0), (41, .getfield 1100), (44, .getfield 303), (47, .iload 1), (48, .iaload), (49, .istore 3), (50, .aload 0), (51, .getfield 1100), (54, .getfield 303), (57, .iload 1), (58, .iload 2), (59, .iastore), (60, .aload 0), (61, .getfield 1104), (64, .invokevirtual 18), (67, .aload 0), (68, .iload 3), (69, .invokevirtual 19), (72, .ireturn)]
theorem h_27_40 : chk (mt 27) 73 40 b_27_40 = true := by decide +kernel
def b_28_0 : List (Nat × Instr) := [(0, .iload 1), (1, .iconst 0), (2, .iconst 1), (3, .invokestatic 14), (6, .ifCond .eq 28), (9, .iload 2), (10, .iconst 0), (11, .iload 1), (12, .ifCond .ne 20), (15, .iconst 99), (17, .goto 22)]
theorem h_28_0 : chk (mt 28) 20 0 b_28_0 = true := by decide +kernel
def b_28_20 : List (Nat × Instr) := [(20, .iconst 100)]
theorem h_28_20 : chk (mt 28) 22 20 b_28_20 = true := by decide +kernel
def b_28_22 : List (Nat × Instr) := [(22, .invokestatic 14), (25, .ifCond .ne 34)]
theorem h_28_22 : chk (mt 28) 28 22 b_28_22 = true := by decide +kernel
def b_28_28 : List (Nat × Instr) := [(28, .aload 0), (29, .iconst (-1)), (30, .invokevirtual 15), (33, .ireturn)]
theorem h_28_28 : chk (mt 28) 34 28 b_28_28 = true := by decide +kernel
def b_28_34 : List (Nat × Instr) := [(34, .iload 1), (35, .iconst 1), (36, .if_icmp .ne 61), (39, .aload 0), (40, .getfield 1100), (43, .getfield 312), (46, .istore 3), (47, .aload 0), (48, .getfield 1100), (51, .iload 2), (52, .putfield 312), (55, .aload 0), (56, .iload 3), (57, .invokevirtual 19), (60, .ireturn)]
theorem h_28_34 : chk (mt 28) 61 34 b_28_34 = true := by decide +kernel
def b_28_61 : List (Nat × Instr) := [(61, .aload 0), (62, .getfield 1100), (65, .getfield 311), (68, .istore 3), (69, .aload 0), (70, .getfield 1100), (73, .iload 2), (74, .putfield 311), (77, .aload 0), (78, .invokevirtual 21), (81, .aload 0), (82, .iload 3), (83, .invokevirtual 19), (86, .ireturn)]
theorem h_28_61 : chk (mt 28) 87 61 b_28_61 = true := by decide +kernel
def b_29_0 : List (Nat × Instr) := [(0, .aload 0), (1, .getfield 1113), (4, .iconst 380), (7, .if_icmp .le 12), (10, .iconst (-1)), (11, .ireturn)]
theorem h_29_0 : chk (mt 29) 12 0 b_29_0 = true := by decide +kernel
def b_29_12 : List (Nat × Instr) := [(12, .aload 0), (13, .iload 1), (14, .invokevirtual 30), (17, .aload 0), (18, .iload 2), (19, .invokevirtual 30), (22, .aload 0), (23, .iload 3), (24, .invokevirtual 30), (27, .aload 0), (28, .iload 4), (30, .invokevirtual 30), (33, .aload 0), (34, .iload 5), (36, .invokevirtual 30), (39, .aload 0), (40, .getfield 1113), (43, .ireturn)]
theorem h_29_12 : chk (mt 29) 44 12 b_29_12 = true := by decide +kernel
def b_30_0 : List (Nat × Instr) := [(0, .iconst 24), (2, .istore 2)]
theorem h_30_0 : chk (mt 30) 3 0 b_30_0 = true := by decide +kernel
def b_30_3 : List (Nat × Instr) := [(3, .iload 2), (4, .ifCond .lt 49), (7, .aload 0), (8, .getfield 1113), (11, .iconst 400), (14, .if_icmp .ge 49), (17, .aload 0), (18, .getfield 1107), (21, .aload 0), (22, .getfield 1113), (25, .iload 1), (26, .iload 2), (27, .iushr), (28, .iconst 255), (31, .iand), (32, .iastore), (33, .aload 0), (34, .dup), (35, .getfield 1113), (38, .iconst 1), (39, .iadd), (40, .putfield 1113), (43, .iinc 2 (-8)), (46, .goto 3)]
theorem h_30_3 : chk (mt 30) 49 3 b_30_3 = true := by decide +kernel
def b_30_49 : List (Nat × Instr) := [(49, .return_)]
theorem h_30_49 : chk (mt 30) 50 49 b_30_49 = true := by decide +kernel
def b_31_0 : List (Nat × Instr) := [(0, .iload 1), (1, .iconst 0), (2, .aload 0), (3, .getfield 1113), (6, .invokestatic 14), (9, .ifCond .ne 14), (12, .iconst (-1)), (13, .ireturn)]
theorem h_31_0 : chk (mt 31) 14 0 b_31_0 = true := by decide +kernel
def b_31_14 : List (Nat × Instr) := [(14, .aload 0), (15, .iload 1), (16, .putfield 1113), (19, .iload 1), (20, .ireturn)]
theorem h_31_14 : chk (mt 31) 21 14 b_31_14 = true := by decide +kernel
def b_32_0 : List (Nat × Instr) := [(0, .aload 0), (1, .getfield 1111), (4, .astore 1), (5, .aload 0), (6, .aload 0), (7, .getfield 1112), (10, .aload 0), (11, .getfield 1113), (14, .aload 1), (15, .invokevirtual 33), (18, .putfield 1115), (21, .aload 0), (22, .iconst 0), (23, .putfield 1113), (26, .aload 0), (27, .getfield 1115), (30, .iconst (-1)), (31, .if_icmp .eq 41), (34, .aload 0), (35, .iconst (-6)), (37, .invokevirtual 15), (40, .ireturn)]
theorem h_32_0 : chk (mt 32) 41 0 b_32_0 = true := by decide +kernel
def b_32_41 : List (Nat × Instr) := [(41, .aload 0), (42, .dup), (43, .getfield 1114), (46, .iconst 1), (47, .iadd), (48, .putfield 1114), (51, .aload 1), (52, .aload 0), (53, .getfield 1114), (56, .putfield 1013), (59, .aload 0), (60, .aload 0), (61, .getfield 1100), (64, .getfield 307), (67, .putfield 1111), (70, .aload 0), (71, .getfield 1100), (74, .aload 1), (75, .putfield 307), (78, .aload 0), (79, .invokevirtual 21), (82, .aload 0), (83, .aload 1), (84, .getfield 1010), (87, .invokevirtual 19), (90, .ireturn)]
theorem h_32_41 : chk (mt 32) 91 41 b_32_41 = true := by decide +kernel
def b_33_0 : List (Nat × Instr) := [(0, .aload 0), (1, .iload 1), (2, .aload 0), (3, .getfield 800), (6, .arraylength), (7, .invokedynamic 3), (10, .putfield 802), (13, .aload 0), (14, .aload 2), (15, .putfield 801), (18, .aload 0), (19, .getfield 801), (22, .invokevirtual 35), (25, .aload 0), (26, .iconst 0), (27, .putfield 805), (30, .aload 0), (31, .iconst 0), (32, .putfield 807), (35, .aload 0), (36, .invokevirtual 37), (39, .iconst 0), (40, .istore 3)]
theorem h_33_0 : chk (mt 33) 41 0 b_33_0 = true := by decide +kernel
def b_33_41 : List (Nat × Instr) := [(41, .iload 3), (42, .iconst 24), (44, .if_icmp .ge 103), (47, .aload 0), (48, .iload 3), (49, .invokevirtual 40), (52, .ifCond .ne 60), (55, .aload 0), (56, .getfield 804), (59, .ireturn)]
theorem h_33_41 : chk (mt 33) 60 41 b_33_41 = true := by decide +kernel
def b_33_60 : List (Nat × Instr) := [(60, .aload 0), (61, .getfield 801), (64, .iload 3), (65, .iconst 1), (66, .iadd), (67, .putfield 1010), (70, .aload 0), (71, .getfield 803), (74, .ifCond .ne 79), (77, .iconst (-1)), (78, .ireturn)]
theorem h_33_60 : chk (mt 33) 79 60 b_33_60 = true := by decide +kernel
def b_33_79 : List (Nat × Instr) := [(79, .aload 0), (80, .iconst 59), (82, .invokevirtual 59), (85, .ifCond .ne 93), (88, .aload 0), (89, .getfield 804), (92, .ireturn)]
theorem h_33_79 : chk (mt 33) 93 79 b_33_79 = true := by decide +kernel
def b_33_93 : List (Nat × Instr) := [(93, .aload 0), (94, .invokevirtual 37), (97, .iinc 3 1), (100, .goto 41)]
theorem h_33_93 : chk (mt 33) 103 93 b_33_93 = true := by decide +kernel
def b_33_103 : List (Nat × Instr) := [(103, .aload 0), (104, .getfield 804), (107, .ireturn)]
theorem h_33_103 : chk (mt 33) 108 103 b_33_103 = true := by decide +kernel
def b_35_0 : List (Nat × Instr) := [(0, .aload 0), (1, .getfield 1007), (4, .iconst 0), (5, .invokestatic 36), (8, .aload 0), (9, .iconst 0), (10, .putfield 1010), (13, .aload 0), (14, .iconst 0), (15, .putfield 1011), (18, .aload 0), (19, .iconst 0), (20, .putfield 1012), (23, .return_)]
theorem h_35_0 : chk (mt 35) 24 0 b_35_0 = true := by decide +kernel
def b_36_0 : List (Nat × Instr) := [(0, .iconst 0), (1, .istore 2), (2, .aload 0), (3, .arraylength), (4, .istore 3)]
theorem h_36_0 : chk (mt 36) 5 0 b_36_0 = true := by decide +kernel
def b_36_5 : List (Nat × Instr) := [(5, .iload 2), (6, .iload 3), (7, .if_icmp .ge 20), (10, .aload 0), (11, .iload 2), (12, .iload 1), (13, .iastore), (14, .iinc 2 1), (17, .goto 5)]
theorem h_36_5 : chk (mt 36) 20 5 b_36_5 = true := by decide +kernel
def b_36_20 : List (Nat × Instr) := [(20, .return_)]
theorem h_36_20 : chk (mt 36) 21 20 b_36_20 = true := by decide +kernel
def b_37_0 : List (Nat × Instr) := [(0, .aload 0), (1, .getfield 805), (4, .istore 1)]
theorem h_37_0 : chk (mt 37) 5 0 b_37_0 = true := by decide +kernel
def b_37_5 : List (Nat × Instr) := [(5, .iload 1), (6, .aload 0), (7, .getfield 802), (10, .if_icmp .ge 30), (13, .aload 0), (14, .getfield 800), (17, .iload 1), (18, .iaload), (19, .iconst 32), (21, .if_icmp .ne 30), (24, .iinc 1 1), (27, .goto 5)]
theorem h_37_5 : chk (mt 37) 30 5 b_37_5 = true := by decide +kernel
def b_37_30 : List (Nat × Instr) := [(30, .aload 0), (31, .iload 1), (32, .putfield 804), (35, .iload 1), (36, .aload 0), (37, .getfield 802), (40, .if_icmp .lt 51), (43, .aload 0), (44, .iconst 0), (45, .putfield 803), (48, .goto 176)]
theorem h_37_30 : chk (mt 37) 51 30 b_37_30 = true := by decide +kernel
def b_37_51 : List (Nat × Instr) := [(51, .aload 0), (52, .getfield 800), (55, .iload 1), (56, .iaload), (57, .invokestatic 38), (60, .ifCond .eq 94), (63, .aload 0), (64, .iconst 1), (65, .putfield 803)]
theorem h_37_51 : chk (mt 37) 68 51 b_37_51 = true := by decide +kernel
def b_37_68 : List (Nat × Instr) := [(68, .iload 1), (69, .aload 0), (70, .getfield 802), (73, .if_icmp .ge 176), (76, .aload 0), (77, .getfield 800), (80, .iload 1), (81, .iaload), (82, .invokestatic 38), (85, .ifCond .eq 176), (88, .iinc 1 1), (91, .goto 68)]
theorem h_37_68 : chk (mt 37) 94 68 b_37_68 = true := by decide +kernel
def b_37_94 : List (Nat × Instr) := [(94, .aload 0), (95, .getfield 800), (98, .iload 1), (99, .iaload), (100, .invokestatic 39), (103, .ifCond .eq 168), (106, .aload 0), (107, .iconst 2), (108, .putfield 803), (111, .aload 0), (112, .iconst 0), (113, .putfield 806)]
theorem h_37_94 : chk (mt 37) 116 94 b_37_94 = true := by decide +kernel
def b_37_116 : List (Nat × Instr) := [(116, .iload 1), (117, .aload 0), (118, .getfield 802), (121, .if_icmp .ge 176), (124, .aload 0), (125, .getfield 800), (128, .iload 1), (129, .iaload), (130, .invokestatic 39), (133, .ifCond .eq 176), (136, .aload 0), (137, .iconst 100000), (139, .aload 0), (140, .getfield 806), (143, .iconst 10), (145, .imul), (146, .aload 0), (147, .getfield 800), (150, .iload 1), (151, .iaload), (152, .iadd), (153, .iconst 48), (155, .isub), (156, .invokedynamic 3), (159, .putfield 806), (162, .iinc 1 1), (165, .goto 116)]
theorem h_37_116 : chk (mt 37) 168 116 b_37_116 = true := by decide +kernel
def b_37_168 : List (Nat × Instr) := [(168, .aload 0), (169, .iconst 3), (170, .putfield 803), (173, .iinc 1 1)]
theorem h_37_168 : chk (mt 37) 176 168 b_37_168 = true := by decide +kernel
def b_37_176 : List (Nat × Instr) := [(176, .aload 0), (177, .iload 1), (178, .putfield 805), (181, .return_)]
theorem h_37_176 : chk (mt 37) 182 176 b_37_176 = true := by decide +kernel
def b_38_0 : List (Nat × Instr) := [(0, .iload 0), (1, .iconst 97), (3, .if_icmp .lt 16), (6, .iload 0), (7, .iconst 122), (9, .if_icmp .gt 16), (12, .iconst 1), (13, .goto 17)]
theorem h_38_0 : chk (mt 38) 16 0 b_38_0 = true := by decide +kernel
def b_38_16 : List (Nat × Instr) := [(16, .iconst 0)]
theorem h_38_16 : chk (mt 38) 17 16 b_38_16 = true := by decide +kernel
def b_38_17 : List (Nat × Instr) := [(17, .ireturn)]
theorem h_38_17 : chk (mt 38) 18 17 b_38_17 = true := by decide +kernel
def b_39_0 : List (Nat × Instr) := [(0, .iload 0), (1, .iconst 48), (3, .if_icmp .lt 16), (6, .iload 0), (7, .iconst 57), (9, .if_icmp .gt 16), (12, .iconst 1), (13, .goto 17)]
theorem h_39_0 : chk (mt 39) 16 0 b_39_0 = true := by decide +kernel
def b_39_16 : List (Nat × Instr) := [(16, .iconst 0)]
theorem h_39_16 : chk (mt 39) 17 16 b_39_16 = true := by decide +kernel
def b_39_17 : List (Nat × Instr) := [(17, .ireturn)]
theorem h_39_17 : chk (mt 39) 18 17 b_39_17 = true := by decide +kernel
def b_40_0 : List (Nat × Instr) := [(0, .aload 0), (1, .getfield 801), (4, .getfield 1001), (7, .iload 1), (8, .aload 0), (9, .getfield 801), (12, .getfield 1012), (15, .iastore), (16, .aload 0), (17, .ldc 0), (19, .invokevirtual 41), (22, .ifCond .eq 44), (25, .aload 0), (26, .getfield 801), (29, .getfield 1000), (32, .iload 1), (33, .iconst 0), (34, .iastore), (35, .aload 0), (36, .iload 1), (37, .invokevirtual 53), (40, .istore 2), (41, .goto 110)]
theorem h_40_0 : chk (mt 40) 44 0 b_40_0 = true := by decide +kernel
def b_40_44 : List (Nat × Instr) := [(44, .aload 0), (45, .ldc 3), (47, .invokevirtual 41), (50, .ifCond .eq 76), (53, .aload 0), (54, .getfield 801), (57, .getfield 1000), (60, .iload 1), (61, .iconst 1), (62, .iastore), (63, .aload 0), (64, .invokevirtual 37), (67, .aload 0), (68, .iconst 0), (69, .invokevirtual 56), (72, .istore 2), (73, .goto 110)]
theorem h_40_44 : chk (mt 40) 76 44 b_40_44 = true := by decide +kernel
def b_40_76 : List (Nat × Instr) := [(76, .aload 0), (77, .ldc 9), (79, .invokevirtual 41), (82, .ifCond .eq 108), (85, .aload 0), (86, .getfield 801), (89, .getfield 1000), (92, .iload 1), (93, .iconst 2), (94, .iastore), (95, .aload 0), (96, .invokevirtual 37), (99, .aload 0), (100, .iconst 0), (101, .invokevirtual 56), (104, .istore 2), (105, .goto 110)]
theorem h_40_76 : chk (mt 40) 108 76 b_40_76 = true := by decide +kernel
def b_40_108 : List (Nat × Instr) := [(108, .iconst 0), (109, .istore 2)]
theorem h_40_108 : chk (mt 40) 110 108 b_40_108 = true := by decide +kernel
def b_40_110 : List (Nat × Instr) := [(110, .aload 0), (111, .getfield 801), (114, .getfield 1002), (117, .iload 1), (118, .aload 0), (119, .getfield 801), (122, .getfield 1012), (125, .iastore), (126, .aload 0), (127, .getfield 801), (130, .getfield 1003), (133, .iload 1), (134, .aload 0), (135, .getfield 801), (138, .getfield 1012), (141, .iastore), (142, .iload 2), (143, .ifCond .eq 165), (146, .aload 0), (147, .ldc 10), (149, .invokevirtual 41), (152, .ifCond .eq 165), (155, .aload 0), (156, .invokevirtual 37), (159, .aload 0), (160, .iconst 0), (161, .invokevirtual 62), (164, .istore 2)]
theorem h_40_110 : chk (mt 40) 165 110 b_40_110 = true := by decide +kernel
def b_40_165 : List (Nat × Instr) := [(165, .aload 0), (166, .getfield 801), (169, .getfield 1004), (172, .iload 1), (173, .aload 0), (174, .getfield 801), (177, .getfield 1012), (180, .iastore), (181, .iload 2), (182, .ireturn)]
theorem h_40_165 : chk (mt 40) 183 165 b_40_165 = true := by decide +kernel
def b_41_0 : List (Nat × Instr) := [(0, .aload 0), (1, .getfield 803), (4, .iconst 1), (5, .if_icmp .ne 24), (8, .aload 0), (9, .getfield 805), (12, .aload 0), (13, .getfield 804), (16, .isub), (17, .aload 1), (18, .invokevirtual 42), (21, .if_icmp .eq 26)]
theorem h_41_0 : chk (mt 41) 24 0 b_41_0 = true := by decide +kernel
def b_41_24 : List (Nat × Instr) := [(24, .iconst 0), (25, .ireturn)]
theorem h_41_24 : chk (mt 41) 26 24 b_41_24 = true := by decide +kernel
def b_41_26 : List (Nat × Instr) := [(26, .iconst 0), (27, .istore 2)]
theorem h_41_26 : chk (mt 41) 28 26 b_41_26 = true := by decide +kernel
def b_41_28 : List (Nat × Instr) := [(28, .iload 2), (29, .aload 1), (30, .invokevirtual 42), (33, .if_icmp .ge 63), (36, .aload 0), (37, .getfield 800), (40, .aload 0), (41, .getfield 804), (44, .iload 2), (45, .iadd), (46, .iaload), (47, .aload 1), (48, .iload 2), (49, .invokevirtual 44), (52, .if_icmp .eq 57), (55, .iconst 0), (56, .ireturn)]
theorem h_41_28 : chk (mt 41) 57 28 b_41_28 = true := by decide +kernel
def b_41_57 : List (Nat × Instr) := [(57, .iinc 2 1), (60, .goto 28)]
theorem h_41_57 : chk (mt 41) 63 57 b_41_57 = true := by decide +kernel
def b_41_63 : List (Nat × Instr) := [(63, .iconst 1), (64, .ireturn)]
theorem h_41_63 : chk (mt 41) 65 63 b_41_63 = true := by decide +kernel
def b_42_0 : List (Nat × Instr) := [(0, .aload 0), (1, .getfield 5000), (4, .arraylength), (5, .aload 0), (6, .invokevirtual 43), (9, .ishr), (10, .ireturn)]
theorem h_42_0 : chk (mt 42) 11 0 b_42_0 = true := by decide +kernel
def b_43_0 : List (Nat × Instr) := [(0, .getstatic 0), (3, .ifCond .eq 13), (6, .aload 0), (7, .getfield 5001), (10, .goto 14)]
theorem h_43_0 : chk (mt 43) 13 0 b_43_0 = true := by decide +kernel
def b_43_13 : List (Nat × Instr) := [(13, .iconst 1)]
theorem h_43_13 : chk (mt 43) 14 13 b_43_13 = true := by decide +kernel
def b_43_14 : List (Nat × Instr) := [(14, .ireturn)]
theorem h_43_14 : chk (mt 43) 15 14 b_43_14 = true := by decide +kernel
def b_44_0 : List (Nat × Instr) := [(0, .aload 0), (1, .invokevirtual 45), (4, .ifCond .eq 16), (7, .aload 0), (8, .getfield 5000), (11, .iload 1), (12, .invokestatic 46), (15, .ireturn)]
theorem h_44_0 : chk (mt 44) 16 0 b_44_0 = true := by decide +kernel
def b_44_16 : List (Nat × Instr) := [(16, .aload 0), (17, .getfield 5000), (20, .iload 1), (21, .invokestatic 49), (24, .ireturn)]
theorem h_44_16 : chk (mt 44) 25 16 b_44_16 = true := by decide +kernel
def b_45_0 : List (Nat × Instr) := [(0, .getstatic 0), (3, .ifCond .eq 17), (6, .aload 0), (7, .getfield 5001), (10, .ifCond .ne 17), (13, .iconst 1), (14, .goto 18)]
theorem h_45_0 : chk (mt 45) 17 0 b_45_0 = true := by decide +kernel
def b_45_17 : List (Nat × Instr) := [(17, .iconst 0)]
theorem h_45_17 : chk (mt 45) 18 17 b_45_17 = true := by decide +kernel
def b_45_18 : List (Nat × Instr) := [(18, .ireturn)]
theorem h_45_18 : chk (mt 45) 19 18 b_45_18 = true := by decide +kernel
def b_46_0 : List (Nat × Instr) := [(0, .iload 1), (1, .aload 0), (2, .arraylength), (3, .invokestatic 47), (6, .aload 0), (7, .iload 1), (8, .baload), (9, .iconst 255), (12, .iand), (13, .i2c), (14, .ireturn)]
theorem h_46_0 : chk (mt 46) 15 0 b_46_0 = true := by decide +kernel
def b_48_0 : List (Nat × Instr) := [(0, .iload 0), (1, .ifCond .lt 9), (4, .iload 0), (5, .iload 1), (6, .if_icmp .lt 16)]
theorem h_48_0 : chk (mt 48) 9 0 b_48_0 = true := by decide +kernel
def b_48_16 : List (Nat × Instr) := [(16, .iload 0), (17, .ireturn)]
theorem h_48_16 : chk (mt 48) 18 16 b_48_16 = true := by decide +kernel
def b_53_0 : List (Nat × Instr) := [(0, .aload 0), (1, .getfield 801), (4, .getfield 1011), (7, .istore 2), (8, .iload 2), (9, .iconst 16), (11, .if_icmp .lt 16), (14, .iconst 0), (15, .ireturn)]
theorem h_53_0 : chk (mt 53) 16 0 b_53_0 = true := by decide +kernel
def b_53_16 : List (Nat × Instr) := [(16, .aload 0), (17, .invokevirtual 37), (20, .aload 0), (21, .iconst 0), (22, .iconst 9), (24, .invokevirtual 54), (27, .ifCond .ne 32), (30, .iconst 0), (31, .ireturn)]
theorem h_53_16 : chk (mt 53) 32 16 b_53_16 = true := by decide +kernel
def b_53_32 : List (Nat × Instr) := [(32, .aload 0), (33, .getfield 801), (36, .getfield 1005), (39, .iload 2), (40, .aload 0), (41, .getfield 806), (44, .iastore), (45, .aload 0), (46, .getfield 801), (49, .getfield 1006), (52, .iload 2), (53, .iload 1), (54, .iastore), (55, .aload 0), (56, .invokevirtual 37), (59, .aload 0), (60, .ldc 1), (62, .invokevirtual 41), (65, .ifCond .eq 76), (68, .aload 0), (69, .iload 2), (70, .invokevirtual 55), (73, .ifCond .ne 78)]
theorem h_53_32 : chk (mt 53) 76 32 b_53_32 = true := by decide +kernel
def b_53_76 : List (Nat × Instr) := [(76, .iconst 0), (77, .ireturn)]
theorem h_53_76 : chk (mt 53) 78 76 b_53_76 = true := by decide +kernel
def b_53_78 : List (Nat × Instr) := [(78, .iconst 0), (79, .istore 3)]
theorem h_53_78 : chk (mt 53) 80 78 b_53_78 = true := by decide +kernel
def b_53_80 : List (Nat × Instr) := [(80, .iload 3), (81, .iconst 400), (84, .if_icmp .ge 112), (87, .aload 0), (88, .ldc 2), (90, .invokevirtual 41), (93, .ifCond .eq 112), (96, .aload 0), (97, .iload 2), (98, .invokevirtual 55), (101, .ifCond .ne 106), (104, .iconst 0), (105, .ireturn)]
theorem h_53_80 : chk (mt 53) 106 80 b_53_80 = true := by decide +kernel
def b_53_106 : List (Nat × Instr) := [(106, .iinc 3 1), (109, .goto 80)]
theorem h_53_106 : chk (mt 53) 112 106 b_53_106 = true := by decide +kernel
def b_53_112 : List (Nat × Instr) := [(112, .aload 0), (113, .getfield 801), (116, .iload 2), (117, .iconst 1), (118, .iadd), (119, .putfield 1011), (122, .iconst 1), (123, .ireturn)]
theorem h_53_112 : chk (mt 53) 124 112 b_53_112 = true := by decide +kernel
def b_54_0 : List (Nat × Instr) := [(0, .aload 0), (1, .getfield 803), (4, .iconst 2), (5, .if_icmp .ne 28), (8, .aload 0), (9, .getfield 806), (12, .iload 1), (13, .if_icmp .lt 28), (16, .aload 0), (17, .getfield 806), (20, .iload 2), (21, .if_icmp .gt 28), (24, .iconst 1), (25, .goto 29)]
theorem h_54_0 : chk (mt 54) 28 0 b_54_0 = true := by decide +kernel
def b_54_28 : List (Nat × Instr) := [(28, .iconst 0)]
theorem h_54_28 : chk (mt 54) 29 28 b_54_28 = true := by decide +kernel
def b_54_29 : List (Nat × Instr) := [(29, .ireturn)]
theorem h_54_29 : chk (mt 54) 30 29 b_54_29 = true := by decide +kernel
def b_55_0 : List (Nat × Instr) := [(0, .aload 0), (1, .invokevirtual 37), (4, .aload 0), (5, .iconst 1), (6, .iconst 9), (8, .invokevirtual 54), (11, .ifCond .ne 16), (14, .iconst 0), (15, .ireturn)]
theorem h_55_0 : chk (mt 55) 16 0 b_55_0 = true := by decide +kernel
def b_55_16 : List (Nat × Instr) := [(16, .aload 0), (17, .getfield 806), (20, .istore 2), (21, .aload 0), (22, .invokevirtual 37), (25, .aload 0), (26, .aload 0), (27, .getfield 801), (30, .getfield 1005), (33, .iload 1), (34, .iaload), (35, .iconst 1), (36, .iadd), (37, .iconst 9), (39, .invokevirtual 54), (42, .ifCond .ne 47), (45, .iconst 0), (46, .ireturn)]
theorem h_55_16 : chk (mt 55) 47 16 b_55_16 = true := by decide +kernel
def b_55_47 : List (Nat × Instr) := [(47, .aload 0), (48, .getfield 801), (51, .getfield 1007), (54, .iload 1), (55, .iconst 10), (57, .imul), (58, .aload 0), (59, .getfield 806), (62, .iadd), (63, .dup2), (64, .iaload), (65, .iload 2), (66, .iadd), (67, .iastore), (68, .aload 0), (69, .invokevirtual 37), (72, .iconst 1), (73, .ireturn)]
theorem h_55_47 : chk (mt 55) 74 47 b_55_47 = true := by decide +kernel
def b_56_0 : List (Nat × Instr) := [(0, .aload 0), (1, .iload 1), (2, .invokevirtual 57), (5, .ifCond .ne 10), (8, .iconst 0), (9, .ireturn)]
theorem h_56_0 : chk (mt 56) 10 0 b_56_0 = true := by decide +kernel
def b_56_10 : List (Nat × Instr) := [(10, .iconst 0), (11, .istore 2)]
theorem h_56_10 : chk (mt 56) 12 10 b_56_10 = true := by decide +kernel
def b_56_12 : List (Nat × Instr) := [(12, .iload 2), (13, .iconst 400), (16, .if_icmp .ge 82), (19, .aload 0), (20, .iconst 43), (22, .invokevirtual 59), (25, .ifCond .ne 37), (28, .aload 0), (29, .iconst 45), (31, .invokevirtual 59), (34, .ifCond .eq 82)]
theorem h_56_12 : chk (mt 56) 37 12 b_56_12 = true := by decide +kernel
def b_56_37 : List (Nat × Instr) := [(37, .aload 0), (38, .iconst 43), (40, .invokevirtual 59), (43, .ifCond .eq 50), (46, .iconst 2), (47, .goto 51)]
theorem h_56_37 : chk (mt 56) 50 37 b_56_37 = true := by decide +kernel
def b_56_50 : List (Nat × Instr) := [(50, .iconst 3)]
theorem h_56_50 : chk (mt 56) 51 50 b_56_50 = true := by decide +kernel
def b_56_51 : List (Nat × Instr) := [(51, .istore 3), (52, .aload 0), (53, .invokevirtual 37), (56, .aload 0), (57, .iload 1), (58, .invokevirtual 57), (61, .ifCond .ne 66), (64, .iconst 0), (65, .ireturn)]
theorem h_56_51 : chk (mt 56) 66 51 b_56_51 = true := by decide +kernel
def b_56_66 : List (Nat × Instr) := [(66, .aload 0), (67, .getfield 801), (70, .iload 3), (71, .iconst 0), (72, .invokevirtual 61), (75, .pop), (76, .iinc 2 1), (79, .goto 12)]
theorem h_56_66 : chk (mt 56) 82 66 b_56_66 = true := by decide +kernel
def b_56_82 : List (Nat × Instr) := [(82, .iconst 1), (83, .ireturn)]
theorem h_56_82 : chk (mt 56) 84 82 b_56_82 = true := by decide +kernel
def b_57_0 : List (Nat × Instr) := [(0, .aload 0), (1, .iload 1), (2, .invokevirtual 58), (5, .ifCond .ne 10), (8, .iconst 0), (9, .ireturn)]
theorem h_57_0 : chk (mt 57) 10 0 b_57_0 = true := by decide +kernel
def b_57_10 : List (Nat × Instr) := [(10, .iconst 0), (11, .istore 2)]
theorem h_57_10 : chk (mt 57) 12 10 b_57_10 = true := by decide +kernel
def b_57_12 : List (Nat × Instr) := [(12, .iload 2), (13, .iconst 400), (16, .if_icmp .ge 82), (19, .aload 0), (20, .iconst 42), (22, .invokevirtual 59), (25, .ifCond .ne 37), (28, .aload 0), (29, .iconst 47), (31, .invokevirtual 59), (34, .ifCond .eq 82)]
theorem h_57_12 : chk (mt 57) 37 12 b_57_12 = true := by decide +kernel
def b_57_37 : List (Nat × Instr) := [(37, .aload 0), (38, .iconst 42), (40, .invokevirtual 59), (43, .ifCond .eq 50), (46, .iconst 4), (47, .goto 51)]
theorem h_57_37 : chk (mt 57) 50 37 b_57_37 = true := by decide +kernel
def b_57_50 : List (Nat × Instr) := [(50, .iconst 5)]
theorem h_57_50 : chk (mt 57) 51 50 b_57_50 = true := by decide +kernel
def b_57_51 : List (Nat × Instr) := [(51, .istore 3), (52, .aload 0), (53, .invokevirtual 37), (56, .aload 0), (57, .iload 1), (58, .invokevirtual 58), (61, .ifCond .ne 66), (64, .iconst 0), (65, .ireturn)]
theorem h_57_51 : chk (mt 57) 66 51 b_57_51 = true := by decide +kernel
def b_57_66 : List (Nat × Instr) := [(66, .aload 0), (67, .getfield 801), (70, .iload 3), (71, .iconst 0), (72, .invokevirtual 61), (75, .pop), (76, .iinc 2 1), (79, .goto 12)]
theorem h_57_66 : chk (mt 57) 82 66 b_57_66 = true := by decide +kernel
def b_57_82 : List (Nat × Instr) := [(82, .iconst 1), (83, .ireturn)]
theorem h_57_82 : chk (mt 57) 84 82 b_57_82 = true := by decide +kernel
def b_58_0 : List (Nat × Instr) := [(0, .aload 0), (1, .iconst 91), (3, .invokevirtual 59), (6, .ifCond .eq 15), (9, .aload 0), (10, .iload 1), (11, .invokevirtual 60), (14, .ireturn)]
theorem h_58_0 : chk (mt 58) 15 0 b_58_0 = true := by decide +kernel
def b_58_15 : List (Nat × Instr) := [(15, .aload 0), (16, .getfield 807), (19, .iconst 50), (21, .if_icmp .lt 26), (24, .iconst 0), (25, .ireturn)]
theorem h_58_15 : chk (mt 58) 26 15 b_58_15 = true := by decide +kernel
def b_58_26 : List (Nat × Instr) := [(26, .aload 0), (27, .iconst 0), (28, .iconst 1000), (31, .invokevirtual 54), (34, .ifCond .eq 53), (37, .aload 0), (38, .getfield 801), (41, .iconst 0), (42, .aload 0), (43, .getfield 806), (46, .invokevirtual 61), (49, .pop), (50, .goto 165)]
theorem h_58_26 : chk (mt 58) 53 26 b_58_26 = true := by decide +kernel
def b_58_53 : List (Nat × Instr) := [(53, .aload 0), (54, .ldc 4), (56, .invokevirtual 41), (59, .ifCond .eq 75), (62, .aload 0), (63, .getfield 801), (66, .iconst 1), (67, .iconst 0), (68, .invokevirtual 61), (71, .pop), (72, .goto 165)]
theorem h_58_53 : chk (mt 58) 75 53 b_58_53 = true := by decide +kernel
def b_58_75 : List (Nat × Instr) := [(75, .aload 0), (76, .ldc 5), (78, .invokevirtual 41), (81, .ifCond .eq 97), (84, .aload 0), (85, .getfield 801), (88, .iconst 1), (89, .iconst 1), (90, .invokevirtual 61), (93, .pop), (94, .goto 165)]
theorem h_58_75 : chk (mt 58) 97 75 b_58_75 = true := by decide +kernel
def b_58_97 : List (Nat × Instr) := [(97, .aload 0), (98, .ldc 6), (100, .invokevirtual 41), (103, .ifCond .eq 119), (106, .aload 0), (107, .getfield 801), (110, .iconst 1), (111, .iconst 2), (112, .invokevirtual 61), (115, .pop), (116, .goto 165)]
theorem h_58_97 : chk (mt 58) 119 97 b_58_97 = true := by decide +kernel
def b_58_119 : List (Nat × Instr) := [(119, .aload 0), (120, .ldc 7), (122, .invokevirtual 41), (125, .ifCond .eq 141), (128, .aload 0), (129, .getfield 801), (132, .iconst 1), (133, .iconst 3), (134, .invokevirtual 61), (137, .pop), (138, .goto 165)]
theorem h_58_119 : chk (mt 58) 141 119 b_58_119 = true := by decide +kernel
def b_58_141 : List (Nat × Instr) := [(141, .aload 0), (142, .ldc 8), (144, .invokevirtual 41), (147, .ifCond .eq 163), (150, .aload 0), (151, .getfield 801), (154, .iconst 1), (155, .iconst 4), (156, .invokevirtual 61), (159, .pop), (160, .goto 165)]
theorem h_58_141 : chk (mt 58) 163 141 b_58_141 = true := by decide +kernel
def b_58_163 : List (Nat × Instr) := [(163, .iconst 0), (164, .ireturn)]
theorem h_58_163 : chk (mt 58) 165 163 b_58_163 = true := by decide +kernel
def b_58_165 : List (Nat × Instr) := [(165, .aload 0), (166, .dup), (167, .getfield 807), (170, .iconst 1), (171, .iadd), (172, .putfield 807), (175, .aload 0), (176, .invokevirtual 37), (179, .iconst 1), (180, .ireturn)]
theorem h_58_165 : chk (mt 58) 181 165 b_58_165 = true := by decide +kernel
def b_59_0 : List (Nat × Instr) := [(0, .aload 0), (1, .getfield 803), (4, .iconst 3), (5, .if_icmp .ne 25), (8, .aload 0), (9, .getfield 800), (12, .aload 0), (13, .getfield 804), (16, .iaload), (17, .iload 1), (18, .if_icmp .ne 25), (21, .iconst 1), (22, .goto 26)]
theorem h_59_0 : chk (mt 59) 25 0 b_59_0 = true := by decide +kernel
def b_59_25 : List (Nat × Instr) := [(25, .iconst 0)]
theorem h_59_25 : chk (mt 59) 26 25 b_59_25 = true := by decide +kernel
def b_59_26 : List (Nat × Instr) := [(26, .ireturn)]
theorem h_59_26 : chk (mt 59) 27 26 b_59_26 = true := by decide +kernel
def b_60_0 : List (Nat × Instr) := [(0, .iload 1), (1, .iconst 8), (3, .if_icmp .lt 8), (6, .iconst 0), (7, .ireturn)]
theorem h_60_0 : chk (mt 60) 8 0 b_60_0 = true := by decide +kernel
def b_60_8 : List (Nat × Instr) := [(8, .aload 0), (9, .invokevirtual 37), (12, .aload 0), (13, .iload 1), (14, .iconst 1), (15, .iadd), (16, .invokevirtual 56), (19, .ifCond .eq 31), (22, .aload 0), (23, .iconst 93), (25, .invokevirtual 59), (28, .ifCond .ne 33)]
theorem h_60_8 : chk (mt 60) 31 8 b_60_8 = true := by decide +kernel
def b_60_31 : List (Nat × Instr) := [(31, .iconst 0), (32, .ireturn)]
theorem h_60_31 : chk (mt 60) 33 31 b_60_31 = true := by decide +kernel
def b_60_33 : List (Nat × Instr) := [(33, .aload 0), (34, .invokevirtual 37), (37, .iconst 1), (38, .ireturn)]
theorem h_60_33 : chk (mt 60) 39 33 b_60_33 = true := by decide +kernel
def b_61_0 : List (Nat × Instr) := [(0, .aload 0), (1, .getfield 1012), (4, .iconst 399), (7, .invokedynamic 3), (10, .istore 3), (11, .aload 0), (12, .getfield 1008), (15, .iload 3), (16, .iload 1), (17, .iastore), (18, .aload 0), (19, .getfield 1009), (22, .iload 3), (23, .iload 2), (24, .iastore), (25, .aload 0), (26, .iload 3), (27, .iconst 1), (28, .iadd), (29, .putfield 1012), (32, .iload 3), (33, .ireturn)]
theorem h_61_0 : chk (mt 61) 34 0 b_61_0 = true := by decide +kernel
def b_62_0 : List (Nat × Instr) := [(0, .aload 0), (1, .iload 1), (2, .invokevirtual 63), (5, .ifCond .ne 10), (8, .iconst 0), (9, .ireturn)]
theorem h_62_0 : chk (mt 62) 10 0 b_62_0 = true := by decide +kernel
def b_62_10 : List (Nat × Instr) := [(10, .iconst 0), (11, .istore 2)]
theorem h_62_10 : chk (mt 62) 12 10 b_62_10 = true := by decide +kernel
def b_62_12 : List (Nat × Instr) := [(12, .iload 2), (13, .iconst 400), (16, .if_icmp .ge 75), (19, .aload 0), (20, .ldc 12), (22, .invokevirtual 41), (25, .ifCond .eq 75), (28, .aload 0), (29, .getfield 801), (32, .iconst 10), (34, .iconst 0), (35, .invokevirtual 61), (38, .istore 3), (39, .aload 0), (40, .invokevirtual 37), (43, .aload 0), (44, .iload 1), (45, .invokevirtual 63), (48, .ifCond .ne 53), (51, .iconst 0), (52, .ireturn)]
theorem h_62_12 : chk (mt 62) 53 12 b_62_12 = true := by decide +kernel
def b_62_53 : List (Nat × Instr) := [(53, .aload 0), (54, .getfield 801), (57, .getfield 1009), (60, .iload 3), (61, .aload 0), (62, .getfield 801), (65, .getfield 1012), (68, .iastore), (69, .iinc 2 1), (72, .goto 12)]
theorem h_62_53 : chk (mt 62) 75 53 b_62_53 = true := by decide +kernel
def b_62_75 : List (Nat × Instr) := [(75, .iconst 1), (76, .ireturn)]
theorem h_62_75 : chk (mt 62) 77 75 b_62_75 = true := by decide +kernel
def b_63_0 : List (Nat × Instr) := [(0, .aload 0), (1, .iload 1), (2, .invokevirtual 64), (5, .ifCond .ne 10), (8, .iconst 0), (9, .ireturn)]
theorem h_63_0 : chk (mt 63) 10 0 b_63_0 = true := by decide +kernel
def b_63_10 : List (Nat × Instr) := [(10, .iconst 0), (11, .istore 2)]
theorem h_63_10 : chk (mt 63) 12 10 b_63_10 = true := by decide +kernel
def b_63_12 : List (Nat × Instr) := [(12, .iload 2), (13, .iconst 400), (16, .if_icmp .ge 75), (19, .aload 0), (20, .ldc 2), (22, .invokevirtual 41), (25, .ifCond .eq 75), (28, .aload 0), (29, .getfield 801), (32, .iconst 11), (34, .iconst 0), (35, .invokevirtual 61), (38, .istore 3), (39, .aload 0), (40, .invokevirtual 37), (43, .aload 0), (44, .iload 1), (45, .invokevirtual 64), (48, .ifCond .ne 53), (51, .iconst 0), (52, .ireturn)]
theorem h_63_12 : chk (mt 63) 53 12 b_63_12 = true := by decide +kernel
def b_63_53 : List (Nat × Instr) := [(53, .aload 0), (54, .getfield 801), (57, .getfield 1009), (60, .iload 3), (61, .aload 0), (62, .getfield 801), (65, .getfield 1012), (68, .iastore), (69, .iinc 2 1), (72, .goto 12)]
theorem h_63_53 : chk (mt 63) 75 53 b_63_53 = true := by decide +kernel
def b_63_75 : List (Nat × Instr) := [(75, .iconst 1), (76, .ireturn)]
theorem h_63_75 : chk (mt 63) 77 75 b_63_75 = true := by decide +kernel
def b_64_0 : List (Nat × Instr) := [(0, .iconst 0), (1, .istore 2), (2, .iconst 0), (3, .istore 3)]
theorem h_64_0 : chk (mt 64) 4 0 b_64_0 = true := by decide +kernel
def b_64_4 : List (Nat × Instr) := [(4, .iload 3), (5, .iconst 400), (8, .if_icmp .ge 40), (11, .aload 0), (12, .ldc 11), (14, .invokevirtual 41), (17, .ifCond .eq 40), (20, .iload 2), (21, .ifCond .ne 28), (24, .iconst 1), (25, .goto 29)]
theorem h_64_4 : chk (mt 64) 28 4 b_64_4 = true := by decide +kernel
def b_64_28 : List (Nat × Instr) := [(28, .iconst 0)]
theorem h_64_28 : chk (mt 64) 29 28 b_64_28 = true := by decide +kernel
def b_64_29 : List (Nat × Instr) := [(29, .istore 2), (30, .aload 0), (31, .invokevirtual 37), (34, .iinc 3 1), (37, .goto 4)]
theorem h_64_29 : chk (mt 64) 40 29 b_64_29 = true := by decide +kernel
def b_64_40 : List (Nat × Instr) := [(40, .aload 0), (41, .iconst 40), (43, .invokevirtual 59), (46, .ifCond .eq 57), (49, .aload 0), (50, .iload 1), (51, .invokevirtual 65), (54, .goto 62)]
theorem h_64_40 : chk (mt 64) 57 40 b_64_40 = true := by decide +kernel
def b_64_57 : List (Nat × Instr) := [(57, .aload 0), (58, .iload 1), (59, .invokevirtual 66)]
theorem h_64_57 : chk (mt 64) 62 57 b_64_57 = true := by decide +kernel
def b_64_62 : List (Nat × Instr) := [(62, .istore 3), (63, .iload 3), (64, .ifCond .eq 82), (67, .iload 2), (68, .ifCond .eq 82), (71, .aload 0), (72, .getfield 801), (75, .iconst 9), (77, .iconst 0), (78, .invokevirtual 61), (81, .pop)]
theorem h_64_62 : chk (mt 64) 82 62 b_64_62 = true := by decide +kernel
def b_64_82 : List (Nat × Instr) := [(82, .iload 3), (83, .ireturn)]
theorem h_64_82 : chk (mt 64) 84 82 b_64_82 = true := by decide +kernel
def b_65_0 : List (Nat × Instr) := [(0, .iload 1), (1, .iconst 8), (3, .if_icmp .lt 8), (6, .iconst 0), (7, .ireturn)]
theorem h_65_0 : chk (mt 65) 8 0 b_65_0 = true := by decide +kernel
def b_65_8 : List (Nat × Instr) := [(8, .aload 0), (9, .invokevirtual 37), (12, .aload 0), (13, .iload 1), (14, .iconst 1), (15, .iadd), (16, .invokevirtual 62), (19, .ifCond .eq 31), (22, .aload 0), (23, .iconst 41), (25, .invokevirtual 59), (28, .ifCond .ne 33)]
theorem h_65_8 : chk (mt 65) 31 8 b_65_8 = true := by decide +kernel
def b_65_31 : List (Nat × Instr) := [(31, .iconst 0), (32, .ireturn)]
theorem h_65_31 : chk (mt 65) 33 31 b_65_31 = true := by decide +kernel
def b_65_33 : List (Nat × Instr) := [(33, .aload 0), (34, .invokevirtual 37), (37, .iconst 1), (38, .ireturn)]
theorem h_65_33 : chk (mt 65) 39 33 b_65_33 = true := by decide +kernel
def b_66_0 : List (Nat × Instr) := [(0, .aload 0), (1, .iload 1), (2, .invokevirtual 56), (5, .ifCond .ne 10), (8, .iconst 0), (9, .ireturn)]
theorem h_66_0 : chk (mt 66) 10 0 b_66_0 = true := by decide +kernel
def b_66_10 : List (Nat × Instr) := [(10, .aload 0), (11, .iconst 60), (13, .invokevirtual 59), (16, .ifCond .eq 25), (19, .iconst 6), (21, .istore 2), (22, .goto 57)]
theorem h_66_10 : chk (mt 66) 25 10 b_66_10 = true := by decide +kernel
def b_66_25 : List (Nat × Instr) := [(25, .aload 0), (26, .iconst 62), (28, .invokevirtual 59), (31, .ifCond .eq 40), (34, .iconst 7), (36, .istore 2), (37, .goto 57)]
theorem h_66_25 : chk (mt 66) 40 25 b_66_25 = true := by decide +kernel
def b_66_40 : List (Nat × Instr) := [(40, .aload 0), (41, .iconst 61), (43, .invokevirtual 59), (46, .ifCond .eq 55), (49, .iconst 8), (51, .istore 2), (52, .goto 57)]
theorem h_66_40 : chk (mt 66) 55 40 b_66_40 = true := by decide +kernel
def b_66_55 : List (Nat × Instr) := [(55, .iconst 0), (56, .ireturn)]
theorem h_66_55 : chk (mt 66) 57 55 b_66_55 = true := by decide +kernel
def b_66_57 : List (Nat × Instr) := [(57, .aload 0), (58, .invokevirtual 37), (61, .aload 0), (62, .iload 1), (63, .invokevirtual 56), (66, .ifCond .ne 71), (69, .iconst 0), (70, .ireturn)]
theorem h_66_57 : chk (mt 66) 71 57 b_66_57 = true := by decide +kernel
def b_66_71 : List (Nat × Instr) := [(71, .aload 0), (72, .getfield 801), (75, .iload 2), (76, .iconst 0), (77, .invokevirtual 61), (80, .pop), (81, .iconst 1), (82, .ireturn)]
theorem h_66_71 : chk (mt 66) 83 71 b_66_71 = true := by decide +kernel
def b_67_0 : List (Nat × Instr) := [(0, .aload 0), (1, .getfield 1115), (4, .ireturn)]
theorem h_67_0 : chk (mt 67) 5 0 b_67_0 = true := by decide +kernel
def b_68_0 : List (Nat × Instr) := [(0, .aload 0), (1, .getfield 1100), (4, .getfield 307), (7, .astore 3), (8, .iload 1), (9, .iconst 0), (10, .aload 3), (11, .getfield 1011), (14, .iconst 1), (15, .isub), (16, .invokestatic 14), (19, .ifCond .ne 24), (22, .iconst (-1)), (23, .ireturn)]
theorem h_68_0 : chk (mt 68) 24 0 b_68_0 = true := by decide +kernel
def b_68_24 : List (Nat × Instr) := [(24, .iload 2), (25, .ifCond .ne 35), (28, .aload 3), (29, .getfield 1005), (32, .iload 1), (33, .iaload), (34, .ireturn)]
theorem h_68_24 : chk (mt 68) 35 24 b_68_24 = true := by decide +kernel
def b_68_35 : List (Nat × Instr) := [(35, .iload 2), (36, .iconst 10), (38, .iconst 19), (40, .invokestatic 14), (43, .ifCond .eq 63), (46, .aload 3), (47, .getfield 1007), (50, .iload 1), (51, .iconst 10), (53, .imul), (54, .iload 2), (55, .iadd), (56, .iconst 10), (58, .isub), (59, .iaload), (60, .goto 64)]
theorem h_68_35 : chk (mt 68) 63 35 b_68_35 = true := by decide +kernel
def b_68_63 : List (Nat × Instr) := [(63, .iconst (-1))]
theorem h_68_63 : chk (mt 68) 64 63 b_68_63 = true := by decide +kernel
def b_68_64 : List (Nat × Instr) := [(64, .ireturn)]
theorem h_68_64 : chk (mt 68) 65 64 b_68_64 = true := by decide +kernel
def b_69_0 : List (Nat × Instr) := [(0, .iload 1), (1, .iconst 0), (2, .aload 0), (3, .getfield 1100), (6, .getfield 307), (9, .getfield 1011), (12, .iconst 1), (13, .isub), (14, .invokestatic 14), (17, .ifCond .eq 29), (20, .iload 2), (21, .iconst 0), (22, .iconst 2), (23, .invokestatic 14), (26, .ifCond .ne 32)]
theorem h_69_0 : chk (mt 69) 29 0 b_69_0 = true := by decide +kernel
def b_69_29 : List (Nat × Instr) := [(29, .iconst (-100000)), (31, .ireturn)]
theorem h_69_29 : chk (mt 69) 32 29 b_69_29 = true := by decide +kernel
def b_69_32 : List (Nat × Instr) := [(32, .iload 3), (33, .tableswitch 136 0 4 #[68, 86, 97, 108, 118])]
theorem h_69_32 : chk (mt 69) 68 32 b_69_32 = true := by decide +kernel
def b_69_68 : List (Nat × Instr) := [(68, .aload 0), (69, .getfield 1102), (72, .iload 1), (73, .iload 2), (74, .invokevirtual 70), (77, .ifCond .eq 84), (80, .iconst 1), (81, .goto 85)]
theorem h_69_68 : chk (mt 69) 84 68 b_69_68 = true := by decide +kernel
def b_69_84 : List (Nat × Instr) := [(84, .iconst 0)]
theorem h_69_84 : chk (mt 69) 85 84 b_69_84 = true := by decide +kernel
def b_69_85 : List (Nat × Instr) := [(85, .ireturn)]
theorem h_69_85 : chk (mt 69) 86 85 b_69_85 = true := by decide +kernel
def b_69_86 : List (Nat × Instr) := [(86, .aload 0), (87, .getfield 1102), (90, .iconst 1), (91, .iload 1), (92, .iload 2), (93, .invokevirtual 77), (96, .ireturn)]
theorem h_69_86 : chk (mt 69) 97 86 b_69_86 = true := by decide +kernel
def b_69_97 : List (Nat × Instr) := [(97, .aload 0), (98, .getfield 1102), (101, .iconst 2), (102, .iload 1), (103, .iload 2), (104, .invokevirtual 77), (107, .ireturn)]
theorem h_69_97 : chk (mt 69) 108 97 b_69_97 = true := by decide +kernel
def b_69_108 : List (Nat × Instr) := [(108, .aload 0), (109, .getfield 1100), (112, .iload 1), (113, .iload 2), (114, .invokevirtual 78), (117, .ireturn)]
theorem h_69_108 : chk (mt 69) 118 108 b_69_108 = true := by decide +kernel
def b_69_118 : List (Nat × Instr) := [(118, .aload 0), (119, .getfield 1100), (122, .iload 1), (123, .iload 2), (124, .invokevirtual 79), (127, .ifCond .eq 134), (130, .iconst 1), (131, .goto 135)]
theorem h_69_118 : chk (mt 69) 134 118 b_69_118 = true := by decide +kernel
def b_69_134 : List (Nat × Instr) := [(134, .iconst 0)]
theorem h_69_134 : chk (mt 69) 135 134 b_69_134 = true := by decide +kernel
def b_69_135 : List (Nat × Instr) := [(135, .ireturn)]
theorem h_69_135 : chk (mt 69) 136 135 b_69_135 = true := by decide +kernel
def b_69_136 : List (Nat × Instr) := [(136, .iconst (-100000)), (138, .ireturn)]
theorem h_69_136 : chk (mt 69) 139 136 b_69_136 = true := by decide +kernel
def b_70_0 : List (Nat × Instr) := [(0, .aload 0), (1, .iload 1), (2, .iload 2), (3, .invokevirtual 71), (6, .aload 0), (7, .aload 0), (8, .getfield 0), (11, .getfield 307), (14, .getfield 1006), (17, .iload 1), (18, .iaload), (19, .invokevirtual 73), (22, .ireturn)]
theorem h_70_0 : chk (mt 70) 23 0 b_70_0 = true := by decide +kernel
def b_71_0 : List (Nat × Instr) := [(0, .aload 0), (1, .getfield 0), (4, .getfield 307), (7, .getfield 1005), (10, .iload 1), (11, .iaload), (12, .istore 3), (13, .aload 0), (14, .getfield 1), (17, .iconst 0), (18, .iload 2), (19, .iastore), (20, .aload 0), (21, .getfield 1), (24, .iconst 1), (25, .iload 3), (26, .iastore), (27, .aload 0), (28, .getfield 1), (31, .iconst 2), (32, .iload 1), (33, .iastore), (34, .aload 0), (35, .getfield 1), (38, .iconst 3), (39, .aload 0), (40, .getfield 0), (43, .getfield 311), (46, .iastore), (47, .aload 0), (48, .getfield 1), (51, .iconst 4), (52, .aload 0), (53, .getfield 0), (56, .iload 3), (57, .iload 2), (58, .invokevirtual 72), (61, .iastore), (62, .return_)]
theorem h_71_0 : chk (mt 71) 63 0 b_71_0 = true := by decide +kernel
def b_72_0 : List (Nat × Instr) := [(0, .aload 0), (1, .getfield 301), (4, .iload 1), (5, .iconst 3), (6, .imul), (7, .iload 2), (8, .iadd), (9, .iaload), (10, .ireturn)]
theorem h_72_0 : chk (mt 72) 11 0 b_72_0 = true := by decide +kernel
def b_73_0 : List (Nat × Instr) := [(0, .aload 0), (1, .getfield 0), (4, .getfield 307), (7, .astore 2), (8, .aload 0), (9, .iconst 0), (10, .putfield 3), (13, .aload 2), (14, .getfield 1004), (17, .iload 1), (18, .iaload), (19, .aload 2), (20, .getfield 1003), (23, .iload 1), (24, .iaload), (25, .if_icmp .le 59), (28, .aload 0), (29, .aload 2), (30, .aload 2), (31, .getfield 1003), (34, .iload 1), (35, .iaload), (36, .aload 2), (37, .getfield 1004), (40, .iload 1), (41, .iaload), (42, .invokevirtual 74), (45, .istore 3), (46, .aload 0), (47, .getfield 3), (50, .ifCond .ne 57), (53, .iload 3), (54, .ifCond .ne 59)]
theorem h_73_0 : chk (mt 73) 57 0 b_73_0 = true := by decide +kernel
def b_73_57 : List (Nat × Instr) := [(57, .iconst 0), (58, .ireturn)]
theorem h_73_57 : chk (mt 73) 59 57 b_73_57 = true := by decide +kernel
def b_73_59 : List (Nat × Instr) := [(59, .aload 0), (60, .aload 0), (61, .aload 2), (62, .aload 2), (63, .getfield 1001), (66, .iload 1), (67, .iaload), (68, .aload 2), (69, .getfield 1002), (72, .iload 1), (73, .iaload), (74, .invokevirtual 74), (77, .putfield 4), (80, .aload 0), (81, .getfield 3), (84, .ifCond .ne 91), (87, .iconst 1), (88, .goto 92)]
theorem h_73_59 : chk (mt 73) 91 59 b_73_59 = true := by decide +kernel
def b_73_91 : List (Nat × Instr) := [(91, .iconst 0)]
theorem h_73_91 : chk (mt 73) 92 91 b_73_91 = true := by decide +kernel
def b_73_92 : List (Nat × Instr) := [(92, .ireturn)]
theorem h_73_92 : chk (mt 73) 93 92 b_73_92 = true := by decide +kernel
def b_74_0 : List (Nat × Instr) := [(0, .iconst 0), (1, .istore 4), (3, .iload 2), (4, .istore 5), (6, .iload 2), (7, .istore 6)]
theorem h_74_0 : chk (mt 74) 9 0 b_74_0 = true := by decide +kernel
def b_74_9 : List (Nat × Instr) := [(9, .iload 6), (11, .iload 3), (12, .if_icmp .ge 278), (15, .iload 5), (17, .iload 3), (18, .if_icmp .ge 278), (21, .aload 0), (22, .getfield 3), (25, .ifCond .ne 278), (28, .aload 1), (29, .getfield 1008), (32, .iload 5), (34, .iaload), (35, .istore 7), (37, .aload 1), (38, .getfield 1009), (41, .iload 5), (43, .iaload), (44, .istore 8), (46, .iinc 5 1), (49, .iload 7), (51, .ifCond .eq 60), (54, .iload 7), (56, .iconst 1), (57, .if_icmp .ne 103)]
theorem h_74_9 : chk (mt 74) 60 9 b_74_9 = true := by decide +kernel
def b_74_60 : List (Nat × Instr) := [(60, .aload 0), (61, .getfield 2), (64, .iload 4), (66, .iconst 63), (68, .invokedynamic 3), (71, .iload 7), (73, .ifCond .ne 81), (76, .iload 8), (78, .goto 88)]
theorem h_74_60 : chk (mt 74) 81 60 b_74_60 = true := by decide +kernel
def b_74_81 : List (Nat × Instr) := [(81, .aload 0), (82, .getfield 1), (85, .iload 8), (87, .iaload)]
theorem h_74_81 : chk (mt 74) 88 81 b_74_81 = true := by decide +kernel
def b_74_88 : List (Nat × Instr) := [(88, .iastore), (89, .iload 4), (91, .iconst 1), (92, .iadd), (93, .iconst 64), (95, .invokedynamic 3), (98, .istore 4), (100, .goto 272)]
theorem h_74_88 : chk (mt 74) 103 88 b_74_88 = true := by decide +kernel
def b_74_103 : List (Nat × Instr) := [(103, .iload 7), (105, .iconst 9), (107, .if_icmp .ne 138), (110, .iload 4), (112, .ifCond .le 138), (115, .aload 0), (116, .getfield 2), (119, .iload 4), (121, .iconst 1), (122, .isub), (123, .iconst 1), (124, .aload 0), (125, .getfield 2), (128, .iload 4), (130, .iconst 1), (131, .isub), (132, .iaload), (133, .isub), (134, .iastore), (135, .goto 272)]
theorem h_74_103 : chk (mt 74) 138 103 b_74_103 = true := by decide +kernel
def b_74_138 : List (Nat × Instr) := [(138, .iload 7), (140, .iconst 10), (142, .if_icmp .eq 152), (145, .iload 7), (147, .iconst 11), (149, .if_icmp .ne 199)]
theorem h_74_138 : chk (mt 74) 152 138 b_74_138 = true := by decide +kernel
def b_74_152 : List (Nat × Instr) := [(152, .iload 4), (154, .ifCond .le 199), (157, .aload 0), (158, .getfield 2), (161, .iload 4), (163, .iconst 1), (164, .isub), (165, .iaload), (166, .iload 7), (168, .iconst 10), (170, .if_icmp .ne 177), (173, .iconst 1), (174, .goto 178)]
theorem h_74_152 : chk (mt 74) 177 152 b_74_152 = true := by decide +kernel
def b_74_177 : List (Nat × Instr) := [(177, .iconst 0)]
theorem h_74_177 : chk (mt 74) 178 177 b_74_177 = true := by decide +kernel
def b_74_178 : List (Nat × Instr) := [(178, .if_icmp .ne 193), (181, .iload 5), (183, .iload 8), (185, .invokedynamic 2), (188, .istore 5), (190, .goto 272)]
theorem h_74_178 : chk (mt 74) 193 178 b_74_178 = true := by decide +kernel
def b_74_193 : List (Nat × Instr) := [(193, .iinc 4 (-1)), (196, .goto 272)]
theorem h_74_193 : chk (mt 74) 199 193 b_74_193 = true := by decide +kernel
def b_74_199 : List (Nat × Instr) := [(199, .iload 4), (201, .iconst 1), (202, .if_icmp .le 272), (205, .iinc 4 (-1)), (208, .iload 7), (210, .aload 0), (211, .getfield 2), (214, .iload 4), (216, .iconst 1), (217, .isub), (218, .iaload), (219, .i2l), (220, .aload 0), (221, .getfield 2), (224, .iload 4), (226, .iaload), (227, .i2l), (228, .invokestatic 76), (231, .lstore 9), (233, .aload 0), (234, .lload 9), (236, .sipush 1000000000), (239, .lcmp), (240, .ifCond .gt 252), (243, .lload 9), (245, .sipush (-1000000000)), (248, .lcmp), (249, .ifCond .ge 256)]
theorem h_74_199 : chk (mt 74) 252 199 b_74_199 = true := by decide +kernel
def b_74_252 : List (Nat × Instr) := [(252, .iconst 1), (253, .goto 257)]
theorem h_74_252 : chk (mt 74) 256 252 b_74_252 = true := by decide +kernel
def b_74_256 : List (Nat × Instr) := [(256, .iconst 0)]
theorem h_74_256 : chk (mt 74) 257 256 b_74_256 = true := by decide +kernel
def b_74_257 : List (Nat × Instr) := [(257, .putfield 3), (260, .aload 0), (261, .getfield 2), (264, .iload 4), (266, .iconst 1), (267, .isub), (268, .lload 9), (270, .l2i), (271, .iastore)]
theorem h_74_257 : chk (mt 74) 272 257 b_74_257 = true := by decide +kernel
def b_74_272 : List (Nat × Instr) := [(272, .iinc 6 1), (275, .goto 9)]
theorem h_74_272 : chk (mt 74) 278 272 b_74_272 = true := by decide +kernel
def b_74_278 : List (Nat × Instr) := [(278, .iload 4), (280, .ifCond .le 295), (283, .aload 0), (284, .getfield 2), (287, .iload 4), (289, .iconst 1), (290, .isub), (291, .iaload), (292, .goto 296)]
theorem h_74_278 : chk (mt 74) 295 278 b_74_278 = true := by decide +kernel
def b_74_295 : List (Nat × Instr) := [(295, .iconst 0)]
theorem h_74_295 : chk (mt 74) 296 295 b_74_295 = true := by decide +kernel
def b_74_296 : List (Nat × Instr) := [(296, .ireturn)]
theorem h_74_296 : chk (mt 74) 297 296 b_74_296 = true := by decide +kernel
def b_76_0 : List (Nat × Instr) := [(0, .iload 0), (1, .tableswitch 92 2 7 #[40, 44, 48, 52, 68, 80])]
theorem h_76_0 : chk (mt 76) 40 0 b_76_0 = true := by decide +kernel
def b_76_40 : List (Nat × Instr) := [(40, .lload 1), (41, .lload 3), (42, .ladd), (43, .lreturn)]
theorem h_76_40 : chk (mt 76) 44 40 b_76_40 = true := by decide +kernel
def b_76_44 : List (Nat × Instr) := [(44, .lload 1), (45, .lload 3), (46, .lsub), (47, .lreturn)]
theorem h_76_44 : chk (mt 76) 48 44 b_76_44 = true := by decide +kernel
def b_76_48 : List (Nat × Instr) := [(48, .lload 1), (49, .lload 3), (50, .lmul), (51, .lreturn)]
theorem h_76_48 : chk (mt 76) 52 48 b_76_48 = true := by decide +kernel
def b_76_52 : List (Nat × Instr) := [(52, .lload 3), (53, .sipush 0), (54, .lcmp), (55, .ifCond .ne 64), (58, .sipush 1000000001), (61, .goto 67)]
theorem h_76_52 : chk (mt 76) 64 52 b_76_52 = true := by decide +kernel
def b_76_64 : List (Nat × Instr) := [(64, .lload 1), (65, .lload 3), (66, .ldiv)]
theorem h_76_64 : chk (mt 76) 67 64 b_76_64 = true := by decide +kernel
def b_76_67 : List (Nat × Instr) := [(67, .lreturn)]
theorem h_76_67 : chk (mt 76) 68 67 b_76_67 = true := by decide +kernel
def b_76_68 : List (Nat × Instr) := [(68, .lload 1), (69, .lload 3), (70, .lcmp), (71, .ifCond .ge 78), (74, .sipush 1), (75, .goto 79)]
theorem h_76_68 : chk (mt 76) 78 68 b_76_68 = true := by decide +kernel
def b_76_78 : List (Nat × Instr) := [(78, .sipush 0)]
theorem h_76_78 : chk (mt 76) 79 78 b_76_78 = true := by decide +kernel
def b_76_79 : List (Nat × Instr) := [(79, .lreturn)]
theorem h_76_79 : chk (mt 76) 80 79 b_76_79 = true := by decide +kernel
def b_76_80 : List (Nat × Instr) := [(80, .lload 1), (81, .lload 3), (82, .lcmp), (83, .ifCond .le 90), (86, .sipush 1), (87, .goto 91)]
theorem h_76_80 : chk (mt 76) 90 80 b_76_80 = true := by decide +kernel
def b_76_90 : List (Nat × Instr) := [(90, .sipush 0)]
theorem h_76_90 : chk (mt 76) 91 90 b_76_90 = true := by decide +kernel
def b_76_91 : List (Nat × Instr) := [(91, .lreturn)]
theorem h_76_91 : chk (mt 76) 92 91 b_76_91 = true := by decide +kernel
def b_76_92 : List (Nat × Instr) := [(92, .lload 1), (93, .lload 3), (94, .lcmp), (95, .ifCond .ne 102), (98, .sipush 1), (99, .goto 103)]
theorem h_76_92 : chk (mt 76) 102 92 b_76_92 = true := by decide +kernel
def b_76_102 : List (Nat × Instr) := [(102, .sipush 0)]
theorem h_76_102 : chk (mt 76) 103 102 b_76_102 = true := by decide +kernel
def b_76_103 : List (Nat × Instr) := [(103, .lreturn)]
theorem h_76_103 : chk (mt 76) 104 103 b_76_103 = true := by decide +kernel
def b_77_0 : List (Nat × Instr) := [(0, .iload 1), (1, .iconst 1), (2, .if_icmp .ne 10), (5, .iconst 60), (7, .goto 11)]
theorem h_77_0 : chk (mt 77) 10 0 b_77_0 = true := by decide +kernel
def b_77_10 : List (Nat × Instr) := [(10, .iconst 3)]
theorem h_77_10 : chk (mt 77) 11 10 b_77_10 = true := by decide +kernel
def b_77_11 : List (Nat × Instr) := [(11, .istore 4), (13, .aload 0), (14, .iload 2), (15, .iload 3), (16, .invokevirtual 71), (19, .aload 0), (20, .getfield 0), (23, .getfield 307), (26, .getfield 1010), (29, .iconst 1), (30, .isub), (31, .istore 5)]
theorem h_77_11 : chk (mt 77) 33 11 b_77_11 = true := by decide +kernel
def b_77_33 : List (Nat × Instr) := [(33, .iload 5), (35, .ifCond .lt 84), (38, .aload 0), (39, .getfield 0), (42, .getfield 307), (45, .getfield 1000), (48, .iload 5), (50, .iaload), (51, .iload 1), (52, .if_icmp .ne 78), (55, .aload 0), (56, .iload 5), (58, .invokevirtual 73), (61, .ifCond .eq 78), (64, .iconst 0), (65, .iload 4), (67, .aload 0), (68, .getfield 4), (71, .invokedynamic 3), (74, .invokedynamic 2), (77, .ireturn)]
theorem h_77_33 : chk (mt 77) 78 33 b_77_33 = true := by decide +kernel
def b_77_78 : List (Nat × Instr) := [(78, .iinc 5 (-1)), (81, .goto 33)]
theorem h_77_78 : chk (mt 77) 84 78 b_77_78 = true := by decide +kernel
def b_77_84 : List (Nat × Instr) := [(84, .iload 1), (85, .iconst 1), (86, .if_icmp .ne 93), (89, .iconst 1), (90, .goto 94)]
theorem h_77_84 : chk (mt 77) 93 84 b_77_84 = true := by decide +kernel
def b_77_93 : List (Nat × Instr) := [(93, .iconst 0)]
theorem h_77_93 : chk (mt 77) 94 93 b_77_93 = true := by decide +kernel
def b_77_94 : List (Nat × Instr) := [(94, .ireturn)]
theorem h_77_94 : chk (mt 77) 95 94 b_77_94 = true := by decide +kernel
def b_78_0 : List (Nat × Instr) := [(0, .aload 0), (1, .aload 0), (2, .getfield 307), (5, .getfield 1005), (8, .iload 1), (9, .iaload), (10, .iload 2), (11, .invokevirtual 72), (14, .istore 3), (15, .iconst 0), (16, .istore 4)]
theorem h_78_0 : chk (mt 78) 18 0 b_78_0 = true := by decide +kernel
def b_78_18 : List (Nat × Instr) := [(18, .iload 4), (20, .iconst 10), (22, .if_icmp .ge 57), (25, .iload 3), (26, .aload 0), (27, .getfield 307), (30, .getfield 1007), (33, .iload 1), (34, .iconst 10), (36, .imul), (37, .iload 4), (39, .iadd), (40, .iaload), (41, .aload 0), (42, .iload 4), (44, .iload 2), (45, .invokevirtual 72), (48, .imul), (49, .isub), (50, .istore 3), (51, .iinc 4 1), (54, .goto 18)]
theorem h_78_18 : chk (mt 78) 57 18 b_78_18 = true := by decide +kernel
def b_78_57 : List (Nat × Instr) := [(57, .iload 3), (58, .ireturn)]
theorem h_78_57 : chk (mt 78) 59 57 b_78_57 = true := by decide +kernel
def b_79_0 : List (Nat × Instr) := [(0, .aload 0), (1, .iload 1), (2, .iload 2), (3, .invokevirtual 78), (6, .istore 3), (7, .iload 3), (8, .ifCond .lt 37), (11, .iload 3), (12, .iconst 100), (14, .imul), (15, .aload 0), (16, .getfield 312), (19, .aload 0), (20, .aload 0), (21, .getfield 307), (24, .getfield 1005), (27, .iload 1), (28, .iaload), (29, .iload 2), (30, .invokevirtual 72), (33, .imul), (34, .if_icmp .le 41)]
theorem h_79_0 : chk (mt 79) 37 0 b_79_0 = true := by decide +kernel
def b_79_37 : List (Nat × Instr) := [(37, .iconst 1), (38, .goto 42)]
theorem h_79_37 : chk (mt 79) 41 37 b_79_37 = true := by decide +kernel
def b_79_41 : List (Nat × Instr) := [(41, .iconst 0)]
theorem h_79_41 : chk (mt 79) 42 41 b_79_41 = true := by decide +kernel
def b_79_42 : List (Nat × Instr) := [(42, .ireturn)]
theorem h_79_42 : chk (mt 79) 43 42 b_79_42 = true := by decide +kernel
def b_80_0 : List (Nat × Instr) := [(0, .iload 1), (1, .iconst 0), (2, .iconst 2), (3, .invokestatic 14), (6, .ifCond .ne 11), (9, .iconst (-1)), (10, .ireturn)]
theorem h_80_0 : chk (mt 80) 11 0 b_80_0 = true := by decide +kernel
def b_80_11 : List (Nat × Instr) := [(11, .aload 0), (12, .getfield 1103), (15, .invokevirtual 81), (18, .aload 0), (19, .getfield 1103), (22, .getfield 702), (25, .iload 1), (26, .aaload), (27, .getfield 204), (30, .ireturn)]
theorem h_80_11 : chk (mt 80) 31 11 b_80_11 = true := by decide +kernel
def b_81_0 : List (Nat × Instr) := [(0, .aload 0), (1, .getfield 713), (4, .ifCond .ne 8), (7, .return_)]
theorem h_81_0 : chk (mt 81) 8 0 b_81_0 = true := by decide +kernel
def b_81_8 : List (Nat × Instr) := [(8, .iconst 0), (9, .istore 1), (10, .iconst 0), (11, .istore 2)]
theorem h_81_8 : chk (mt 81) 12 8 b_81_8 = true := by decide +kernel
def b_81_12 : List (Nat × Instr) := [(12, .iload 2), (13, .iconst 3), (14, .if_icmp .ge 89), (17, .iconst 0), (18, .istore 3), (19, .iconst 0), (20, .istore 4)]
theorem h_81_12 : chk (mt 81) 22 12 b_81_12 = true := by decide +kernel
def b_81_22 : List (Nat × Instr) := [(22, .iload 4), (24, .aload 0), (25, .getfield 700), (28, .getfield 307), (31, .getfield 1011), (34, .if_icmp .ge 63), (37, .aload 0), (38, .getfield 701), (41, .iload 4), (43, .iload 2), (44, .invokevirtual 70), (47, .ifCond .eq 57), (50, .iload 3), (51, .iconst 1), (52, .iload 4), (54, .ishl), (55, .ior), (56, .istore 3)]
theorem h_81_22 : chk (mt 81) 57 22 b_81_22 = true := by decide +kernel
def b_81_57 : List (Nat × Instr) := [(57, .iinc 4 1), (60, .goto 22)]
theorem h_81_57 : chk (mt 81) 63 57 b_81_57 = true := by decide +kernel
def b_81_63 : List (Nat × Instr) := [(63, .iload 1), (64, .aload 0), (65, .getfield 702), (68, .iload 2), (69, .aaload), (70, .aload 0), (71, .getfield 700), (74, .getfield 307), (77, .iload 3), (78, .invokevirtual 82), (81, .ior), (82, .istore 1), (83, .iinc 2 1), (86, .goto 12)]
theorem h_81_63 : chk (mt 81) 89 63 b_81_63 = true := by decide +kernel
def b_81_89 : List (Nat × Instr) := [(89, .aload 0), (90, .iconst 0), (91, .putfield 713), (94, .iload 1), (95, .ifCond .eq 102), (98, .aload 0), (99, .invokevirtual 25)]
theorem h_81_89 : chk (mt 81) 102 89 b_81_89 = true := by decide +kernel
def b_81_102 : List (Nat × Instr) := [(102, .return_)]
theorem h_81_102 : chk (mt 81) 103 102 b_81_102 = true := by decide +kernel
def b_82_0 : List (Nat × Instr) := [(0, .aload 1), (1, .getfield 1013), (4, .aload 0), (5, .getfield 205), (8, .if_icmp .ne 21), (11, .iload 2), (12, .aload 0), (13, .getfield 206), (16, .if_icmp .ne 21), (19, .iconst 0), (20, .ireturn)]
theorem h_82_0 : chk (mt 82) 21 0 b_82_0 = true := by decide +kernel
def b_82_21 : List (Nat × Instr) := [(21, .aload 0), (22, .aload 1), (23, .getfield 1013), (26, .putfield 205), (29, .aload 0), (30, .iload 2), (31, .putfield 206), (34, .aload 0), (35, .iconst 0), (36, .putfield 204), (39, .aload 0), (40, .getfield 203), (43, .iconst 0), (44, .invokestatic 36), (47, .aload 0), (48, .getfield 203), (51, .iconst 0), (52, .iconst 1), (53, .iastore), (54, .aload 0), (55, .aload 1), (56, .iconst 0), (57, .iconst 1), (58, .invokestatic 83), (61, .iconst 1), (62, .ireturn)]
theorem h_82_21 : chk (mt 82) 63 21 b_82_21 = true := by decide +kernel
def b_83_0 : List (Nat × Instr) := [(0, .aload 0), (1, .getfield 204), (4, .iconst 64), (6, .if_icmp .le 10), (9, .return_)]
theorem h_83_0 : chk (mt 83) 10 0 b_83_0 = true := by decide +kernel
def b_83_10 : List (Nat × Instr) := [(10, .iload 2), (11, .iconst 10), (13, .if_icmp .lt 21), (16, .aload 0), (17, .invokevirtual 84), (20, .return_)]
theorem h_83_10 : chk (mt 83) 21 10 b_83_10 = true := by decide +kernel
def b_83_21 : List (Nat × Instr) := [(21, .aload 0), (22, .getfield 203), (25, .iload 2), (26, .iaload), (27, .istore 4), (29, .aload 0), (30, .getfield 202), (33, .iload 2), (34, .iconst (-1)), (35, .iastore), (36, .aload 0), (37, .aload 1), (38, .iload 2), (39, .iconst 1), (40, .iadd), (41, .iload 3), (42, .invokestatic 83), (45, .iconst 0), (46, .istore 5)]
theorem h_83_21 : chk (mt 83) 48 21 b_83_21 = true := by decide +kernel
def b_83_48 : List (Nat × Instr) := [(48, .iload 5), (50, .aload 1), (51, .getfield 1011), (54, .if_icmp .ge 152), (57, .iload 4), (59, .ifCond .le 152), (62, .iload 3), (63, .iload 4), (65, .aload 1), (66, .iload 5), (68, .invokevirtual 85), (71, .iconst 1), (72, .isub), (73, .imul), (74, .iadd), (75, .istore 6), (77, .aload 1), (78, .getfield 1005), (81, .iload 5), (83, .iaload), (84, .iload 2), (85, .if_icmp .ne 146), (88, .aload 0), (89, .getfield 206), (92, .iload 5), (94, .ishr), (95, .iconst 1), (96, .iand), (97, .iconst 1), (98, .if_icmp .ne 146), (101, .iload 6), (103, .iconst 200), (106, .if_icmp .gt 146), (109, .aload 0), (110, .getfield 202), (113, .iload 2), (114, .iload 5), (116, .iastore), (117, .aload 0), (118, .aload 1), (119, .iload 5), (121, .iload 4), (123, .invokevirtual 86), (126, .aload 0), (127, .aload 1), (128, .iload 2), (129, .iconst 1), (130, .iadd), (131, .iload 6), (133, .invokestatic 83), (136, .aload 0), (137, .aload 1), (138, .iload 5), (140, .iload 4), (142, .ineg), (143, .invokevirtual 86)]
theorem h_83_48 : chk (mt 83) 146 48 b_83_48 = true := by decide +kernel
def b_83_146 : List (Nat × Instr) := [(146, .iinc 5 1), (149, .goto 48)]
theorem h_83_146 : chk (mt 83) 152 146 b_83_146 = true := by decide +kernel
def b_83_152 : List (Nat × Instr) := [(152, .return_)]
theorem h_83_152 : chk (mt 83) 153 152 b_83_152 = true := by decide +kernel
def b_84_0 : List (Nat × Instr) := [(0, .aload 0), (1, .getfield 204), (4, .iconst 64), (6, .if_icmp .ge 77), (9, .iconst 0), (10, .istore 1)]
theorem h_84_0 : chk (mt 84) 11 0 b_84_0 = true := by decide +kernel
def b_84_11 : List (Nat × Instr) := [(11, .iload 1), (12, .iconst 10), (14, .if_icmp .ge 77), (17, .aload 0), (18, .getfield 200), (21, .aload 0), (22, .getfield 204), (25, .iconst 10), (27, .imul), (28, .iload 1), (29, .iadd), (30, .aload 0), (31, .getfield 202), (34, .iload 1), (35, .iaload), (36, .iastore), (37, .aload 0), (38, .getfield 201), (41, .aload 0), (42, .getfield 204), (45, .iconst 10), (47, .imul), (48, .iload 1), (49, .iadd), (50, .aload 0), (51, .getfield 202), (54, .iload 1), (55, .iaload), (56, .iconst (-1)), (57, .if_icmp .ne 69), (60, .aload 0), (61, .getfield 203), (64, .iload 1), (65, .iaload), (66, .goto 70)]
theorem h_84_11 : chk (mt 84) 69 11 b_84_11 = true := by decide +kernel
def b_84_69 : List (Nat × Instr) := [(69, .iconst 0)]
theorem h_84_69 : chk (mt 84) 70 69 b_84_69 = true := by decide +kernel
def b_84_70 : List (Nat × Instr) := [(70, .iastore), (71, .iinc 1 1), (74, .goto 11)]
theorem h_84_70 : chk (mt 84) 77 70 b_84_70 = true := by decide +kernel
def b_84_77 : List (Nat × Instr) := [(77, .aload 0), (78, .dup), (79, .getfield 204), (82, .iconst 1), (83, .iadd), (84, .putfield 204), (87, .return_)]
theorem h_84_77 : chk (mt 84) 88 77 b_84_77 = true := by decide +kernel
def b_85_0 : List (Nat × Instr) := [(0, .iconst 0), (1, .istore 2), (2, .iconst 0), (3, .istore 3)]
theorem h_85_0 : chk (mt 85) 4 0 b_85_0 = true := by decide +kernel
def b_85_4 : List (Nat × Instr) := [(4, .iload 3), (5, .iconst 10), (7, .if_icmp .ge 30), (10, .iload 2), (11, .aload 0), (12, .getfield 1007), (15, .iload 1), (16, .iconst 10), (18, .imul), (19, .iload 3), (20, .iadd), (21, .iaload), (22, .iadd), (23, .istore 2), (24, .iinc 3 1), (27, .goto 4)]
theorem h_85_4 : chk (mt 85) 30 4 b_85_4 = true := by decide +kernel
def b_85_30 : List (Nat × Instr) := [(30, .iload 2), (31, .ireturn)]
theorem h_85_30 : chk (mt 85) 32 30 b_85_30 = true := by decide +kernel
def b_86_0 : List (Nat × Instr) := [(0, .iconst 0), (1, .istore 4)]
theorem h_86_0 : chk (mt 86) 3 0 b_86_0 = true := by decide +kernel
def b_86_3 : List (Nat × Instr) := [(3, .iload 4), (5, .iconst 10), (7, .if_icmp .ge 40), (10, .aload 0), (11, .getfield 203), (14, .iload 4), (16, .dup2), (17, .iaload), (18, .iload 3), (19, .aload 1), (20, .getfield 1007), (23, .iload 2), (24, .iconst 10), (26, .imul), (27, .iload 4), (29, .iadd), (30, .iaload), (31, .imul), (32, .iadd), (33, .iastore), (34, .iinc 4 1), (37, .goto 3)]
theorem h_86_3 : chk (mt 86) 40 3 b_86_3 = true := by decide +kernel
def b_86_40 : List (Nat × Instr) := [(40, .return_)]
theorem h_86_40 : chk (mt 86) 41 40 b_86_40 = true := by decide +kernel
def b_87_0 : List (Nat × Instr) := [(0, .aload 0), (1, .iload 1), (2, .iload 2), (3, .iload 3), (4, .invokevirtual 88), (7, .ifCond .ne 13), (10, .iconst (-100000)), (12, .ireturn)]
theorem h_87_0 : chk (mt 87) 13 0 b_87_0 = true := by decide +kernel
def b_87_13 : List (Nat × Instr) := [(13, .aload 0), (14, .getfield 1103), (17, .getfield 702), (20, .iload 1), (21, .aaload), (22, .getfield 200), (25, .iload 2), (26, .iconst 10), (28, .imul), (29, .iload 3), (30, .iadd), (31, .iaload), (32, .ireturn)]
theorem h_87_13 : chk (mt 87) 33 13 b_87_13 = true := by decide +kernel
def b_88_0 : List (Nat × Instr) := [(0, .iload 1), (1, .iconst 0), (2, .iconst 2), (3, .invokestatic 14), (6, .ifCond .eq 19), (9, .iload 3), (10, .iconst 0), (11, .iconst 9), (13, .invokestatic 14), (16, .ifCond .ne 21)]
theorem h_88_0 : chk (mt 88) 19 0 b_88_0 = true := by decide +kernel
def b_88_19 : List (Nat × Instr) := [(19, .iconst 0), (20, .ireturn)]
theorem h_88_19 : chk (mt 88) 21 19 b_88_19 = true := by decide +kernel
def b_88_21 : List (Nat × Instr) := [(21, .aload 0), (22, .getfield 1103), (25, .invokevirtual 81), (28, .aload 0), (29, .getfield 1103), (32, .getfield 702), (35, .iload 1), (36, .aaload), (37, .getfield 204), (40, .istore 4), (42, .iload 4), (44, .iconst 64), (46, .if_icmp .gt 65), (49, .iload 2), (50, .iconst 0), (51, .iload 4), (53, .iconst 1), (54, .isub), (55, .invokestatic 14), (58, .ifCond .eq 65), (61, .iconst 1), (62, .goto 66)]
theorem h_88_21 : chk (mt 88) 65 21 b_88_21 = true := by decide +kernel
def b_88_65 : List (Nat × Instr) := [(65, .iconst 0)]
theorem h_88_65 : chk (mt 88) 66 65 b_88_65 = true := by decide +kernel
def b_88_66 : List (Nat × Instr) := [(66, .ireturn)]
theorem h_88_66 : chk (mt 88) 67 66 b_88_66 = true := by decide +kernel
def b_89_0 : List (Nat × Instr) := [(0, .aload 0), (1, .iload 1), (2, .iload 2), (3, .iload 3), (4, .invokevirtual 88), (7, .ifCond .ne 12), (10, .iconst (-1)), (11, .ireturn)]
theorem h_89_0 : chk (mt 89) 12 0 b_89_0 = true := by decide +kernel
def b_89_12 : List (Nat × Instr) := [(12, .aload 0), (13, .getfield 1103), (16, .getfield 702), (19, .iload 1), (20, .aaload), (21, .getfield 201), (24, .iload 2), (25, .iconst 10), (27, .imul), (28, .iload 3), (29, .iadd), (30, .iaload), (31, .ireturn)]
theorem h_89_12 : chk (mt 89) 32 12 b_89_12 = true := by decide +kernel
def b_90_0 : List (Nat × Instr) := [(0, .iload 1), (1, .iconst 0), (2, .iconst 1), (3, .invokestatic 14), (6, .ifCond .eq 16), (9, .aload 0), (10, .invokevirtual 91), (13, .ifCond .ne 18)]
theorem h_90_0 : chk (mt 90) 16 0 b_90_0 = true := by decide +kernel
def b_90_16 : List (Nat × Instr) := [(16, .iconst (-1)), (17, .ireturn)]
theorem h_90_16 : chk (mt 90) 18 16 b_90_16 = true := by decide +kernel
def b_90_18 : List (Nat × Instr) := [(18, .iload 1), (19, .ifCond .ne 32), (22, .aload 0), (23, .getfield 1103), (26, .invokevirtual 117), (29, .goto 39)]
theorem h_90_18 : chk (mt 90) 32 18 b_90_18 = true := by decide +kernel
def b_90_32 : List (Nat × Instr) := [(32, .aload 0), (33, .getfield 1103), (36, .invokevirtual 118)]
theorem h_90_32 : chk (mt 90) 39 32 b_90_32 = true := by decide +kernel
def b_90_39 : List (Nat × Instr) := [(39, .ireturn)]
theorem h_90_39 : chk (mt 90) 40 39 b_90_39 = true := by decide +kernel
def b_91_0 : List (Nat × Instr) := [(0, .aload 0), (1, .getfield 1103), (4, .invokevirtual 81), (7, .aload 0), (8, .getfield 1103), (11, .aload 0), (12, .getfield 1100), (15, .getfield 300), (18, .iconst 0), (19, .iaload), (20, .aload 0), (21, .getfield 1100), (24, .getfield 300), (27, .iconst 1), (28, .iaload), (29, .aload 0), (30, .getfield 1100), (33, .getfield 300), (36, .iconst 2), (37, .iaload), (38, .invokevirtual 92), (41, .iconst (-1)), (42, .if_icmp .eq 49), (45, .iconst 1), (46, .goto 50)]
theorem h_91_0 : chk (mt 91) 49 0 b_91_0 = true := by decide +kernel
def b_91_49 : List (Nat × Instr) := [(49, .iconst 0)]
theorem h_91_49 : chk (mt 91) 50 49 b_91_49 = true := by decide +kernel
def b_91_50 : List (Nat × Instr) := [(50, .ireturn)]
theorem h_91_50 : chk (mt 91) 51 50 b_91_50 = true := by decide +kernel
def b_92_0 : List (Nat × Instr) := [(0, .iload 1), (1, .iconst 0), (2, .iconst 8), (4, .invokestatic 14), (7, .ifCond .eq 50), (10, .iload 2), (11, .iconst 0), (12, .iconst 8), (14, .invokestatic 14), (17, .ifCond .eq 50), (20, .iload 3), (21, .iconst 0), (22, .iconst 8), (24, .invokestatic 14), (27, .ifCond .eq 50), (30, .iload 1), (31, .iload 2), (32, .iadd), (33, .iload 3), (34, .iadd), (35, .iconst 8), (37, .if_icmp .gt 50), (40, .aload 0), (41, .iload 1), (42, .iload 2), (43, .iload 3), (44, .invokevirtual 93), (47, .ifCond .ne 52)]
theorem h_92_0 : chk (mt 92) 50 0 b_92_0 = true := by decide +kernel
def b_92_50 : List (Nat × Instr) := [(50, .iconst (-1)), (51, .ireturn)]
theorem h_92_50 : chk (mt 92) 52 50 b_92_50 = true := by decide +kernel
def b_92_52 : List (Nat × Instr) := [(52, .iload 1), (53, .iload 2), (54, .iload 3), (55, .invokestatic 94), (58, .istore 4), (60, .aload 0), (61, .getfield 707), (64, .iload 4), (66, .iaload), (67, .aload 0), (68, .getfield 712), (71, .if_icmp .eq 127), (74, .aload 0), (75, .invokevirtual 95), (78, .aload 0), (79, .iload 1), (80, .iload 2), (81, .iload 3), (82, .invokevirtual 104), (85, .aload 0), (86, .getfield 707), (89, .iload 4), (91, .aload 0), (92, .getfield 712), (95, .iastore), (96, .aload 0), (97, .getfield 705), (100, .iload 4), (102, .aload 0), (103, .getfield 704), (106, .getfield 408), (109, .iconst 16), (111, .idiv), (112, .iastore), (113, .aload 0), (114, .getfield 706), (117, .iload 4), (119, .aload 0), (120, .getfield 704), (123, .getfield 409), (126, .iastore)]
theorem h_92_52 : chk (mt 92) 127 52 b_92_52 = true := by decide +kernel
def b_92_127 : List (Nat × Instr) := [(127, .aload 0), (128, .getfield 705), (131, .iload 4), (133, .iaload), (134, .ireturn)]
theorem h_92_127 : chk (mt 92) 135 127 b_92_127 = true := by decide +kernel
def b_93_0 : List (Nat × Instr) := [(0, .iload 1), (1, .ifCond .eq 18), (4, .aload 0), (5, .getfield 702), (8, .iconst 0), (9, .aaload), (10, .getfield 204), (13, .iconst 64), (15, .if_icmp .gt 58)]
theorem h_93_0 : chk (mt 93) 18 0 b_93_0 = true := by decide +kernel
def b_93_18 : List (Nat × Instr) := [(18, .iload 2), (19, .ifCond .eq 36), (22, .aload 0), (23, .getfield 702), (26, .iconst 1), (27, .aaload), (28, .getfield 204), (31, .iconst 64), (33, .if_icmp .gt 58)]
theorem h_93_18 : chk (mt 93) 36 18 b_93_18 = true := by decide +kernel
def b_93_36 : List (Nat × Instr) := [(36, .iload 3), (37, .ifCond .eq 54), (40, .aload 0), (41, .getfield 702), (44, .iconst 2), (45, .aaload), (46, .getfield 204), (49, .iconst 64), (51, .if_icmp .gt 58)]
theorem h_93_36 : chk (mt 93) 54 36 b_93_36 = true := by decide +kernel
def b_93_54 : List (Nat × Instr) := [(54, .iconst 1), (55, .goto 59)]
theorem h_93_54 : chk (mt 93) 58 54 b_93_54 = true := by decide +kernel
def b_93_58 : List (Nat × Instr) := [(58, .iconst 0)]
theorem h_93_58 : chk (mt 93) 59 58 b_93_58 = true := by decide +kernel
def b_93_59 : List (Nat × Instr) := [(59, .ireturn)]
theorem h_93_59 : chk (mt 93) 60 59 b_93_59 = true := by decide +kernel
def b_94_0 : List (Nat × Instr) := [(0, .iload 0), (1, .iconst 9), (3, .imul), (4, .iload 1), (5, .iadd), (6, .iconst 9), (8, .imul), (9, .iload 2), (10, .iadd), (11, .ireturn)]
theorem h_94_0 : chk (mt 94) 12 0 b_94_0 = true := by decide +kernel
def b_95_0 : List (Nat × Instr) := [(0, .aload 0), (1, .getfield 714), (4, .ifCond .eq 34), (7, .aload 0), (8, .getfield 703), (11, .aload 0), (12, .getfield 700), (15, .aload 0), (16, .getfield 702), (19, .invokevirtual 96), (22, .aload 0), (23, .getfield 704), (26, .invokevirtual 103), (29, .aload 0), (30, .iconst 0), (31, .putfield 714)]
theorem h_95_0 : chk (mt 95) 34 0 b_95_0 = true := by decide +kernel
def b_95_34 : List (Nat × Instr) := [(34, .return_)]
theorem h_95_34 : chk (mt 95) 35 34 b_95_34 = true := by decide +kernel
def b_96_0 : List (Nat × Instr) := [(0, .aload 0), (1, .aload 1), (2, .invokevirtual 97), (5, .aload 0), (6, .iconst 0), (7, .iconst 1), (8, .aload 0), (9, .getfield 611), (12, .aload 0), (13, .getfield 614), (16, .invokevirtual 98), (19, .aload 0), (20, .iconst 2), (21, .iconst 3), (22, .aload 0), (23, .getfield 612), (26, .aload 0), (27, .getfield 615), (30, .invokevirtual 98), (33, .aload 0), (34, .iconst 4), (35, .iconst (-1)), (36, .aload 0), (37, .getfield 613), (40, .aload 0), (41, .getfield 616), (44, .invokevirtual 98), (47, .iconst 0), (48, .istore 3)]
theorem h_96_0 : chk (mt 96) 49 0 b_96_0 = true := by decide +kernel
def b_96_49 : List (Nat × Instr) := [(49, .iload 3), (50, .iconst 3), (51, .if_icmp .ge 94), (54, .aload 0), (55, .getfield 605), (58, .iload 3), (59, .iconst 0), (60, .iastore), (61, .aload 0), (62, .getfield 606), (65, .iload 3), (66, .iconst 0), (67, .iastore), (68, .aload 2), (69, .iload 3), (70, .aaload), (71, .getfield 204), (74, .iconst 64), (76, .if_icmp .gt 88), (79, .aload 0), (80, .aload 1), (81, .iload 3), (82, .aload 2), (83, .iload 3), (84, .aaload), (85, .invokevirtual 99)]
theorem h_96_49 : chk (mt 96) 88 49 b_96_49 = true := by decide +kernel
def b_96_88 : List (Nat × Instr) := [(88, .iinc 3 1), (91, .goto 49)]
theorem h_96_88 : chk (mt 96) 94 88 b_96_88 = true := by decide +kernel
def b_96_94 : List (Nat × Instr) := [(94, .return_)]
theorem h_96_94 : chk (mt 96) 95 94 b_96_94 = true := by decide +kernel
def b_97_0 : List (Nat × Instr) := [(0, .aload 0), (1, .iconst 0), (2, .putfield 617), (5, .aload 0), (6, .iconst 0), (7, .putfield 618), (10, .aload 0), (11, .iconst 1), (12, .putfield 619), (15, .aload 0), (16, .getfield 608), (19, .iconst 0), (20, .invokestatic 36), (23, .iconst 0), (24, .istore 2)]
theorem h_97_0 : chk (mt 97) 25 0 b_97_0 = true := by decide +kernel
def b_97_25 : List (Nat × Instr) := [(25, .iload 2), (26, .iconst 10), (28, .if_icmp .ge 153), (31, .aload 0), (32, .getfield 617), (35, .iconst 5), (36, .if_icmp .ge 153), (39, .aload 1), (40, .getfield 302), (43, .iconst 20), (45, .iload 2), (46, .iadd), (47, .iaload), (48, .istore 3), (49, .aload 1), (50, .getfield 302), (53, .iconst 0), (54, .iload 2), (55, .iadd), (56, .iaload), (57, .aload 1), (58, .getfield 302), (61, .iconst 10), (63, .iload 2), (64, .iadd), (65, .iaload), (66, .isub), (67, .istore 4), (69, .iload 3), (70, .ifCond .le 147), (73, .iload 4), (75, .ifCond .eq 147), (78, .aload 0), (79, .getfield 607), (82, .aload 0), (83, .getfield 617), (86, .iload 2), (87, .iastore), (88, .aload 0), (89, .getfield 608), (92, .aload 0), (93, .getfield 617), (96, .iload 3), (97, .iastore), (98, .aload 0), (99, .getfield 609), (102, .aload 0), (103, .getfield 617), (106, .aload 0), (107, .getfield 619), (110, .iastore), (111, .aload 0), (112, .getfield 610), (115, .aload 0), (116, .getfield 617), (119, .iload 4), (121, .iconst 16), (123, .imul), (124, .iastore), (125, .aload 0), (126, .dup), (127, .getfield 619), (130, .iload 3), (131, .iconst 1), (132, .iadd), (133, .imul), (134, .putfield 619), (137, .aload 0), (138, .dup), (139, .getfield 617), (142, .iconst 1), (143, .iadd), (144, .putfield 617)]
theorem h_97_25 : chk (mt 97) 147 25 b_97_25 = true := by decide +kernel
def b_97_147 : List (Nat × Instr) := [(147, .iinc 2 1), (150, .goto 25)]
theorem h_97_147 : chk (mt 97) 153 147 b_97_147 = true := by decide +kernel
def b_97_153 : List (Nat × Instr) := [(153, .iconst 0), (154, .istore 2)]
theorem h_97_153 : chk (mt 97) 155 153 b_97_153 = true := by decide +kernel
def b_97_155 : List (Nat × Instr) := [(155, .iload 2), (156, .iconst 5), (157, .if_icmp .ge 188), (160, .aload 0), (161, .dup), (162, .getfield 618), (165, .iconst 15), (167, .aload 0), (168, .getfield 608), (171, .iload 2), (172, .iaload), (173, .isub), (174, .iconst 5), (175, .iload 2), (176, .imul), (177, .ishl), (178, .ior), (179, .putfield 618), (182, .iinc 2 1), (185, .goto 155)]
theorem h_97_155 : chk (mt 97) 188 155 b_97_155 = true := by decide +kernel
def b_97_188 : List (Nat × Instr) := [(188, .return_)]
theorem h_97_188 : chk (mt 97) 189 188 b_97_188 = true := by decide +kernel
def b_98_0 : List (Nat × Instr) := [(0, .iload 2), (1, .iconst (-1)), (2, .if_icmp .ne 9), (5, .iconst 0), (6, .goto 15)]
theorem h_98_0 : chk (mt 98) 9 0 b_98_0 = true := by decide +kernel
def b_98_9 : List (Nat × Instr) := [(9, .aload 0), (10, .getfield 608), (13, .iload 2), (14, .iaload)]
theorem h_98_9 : chk (mt 98) 15 9 b_98_9 = true := by decide +kernel
def b_98_15 : List (Nat × Instr) := [(15, .istore 5), (17, .iload 2), (18, .iconst (-1)), (19, .if_icmp .ne 26), (22, .iconst 0), (23, .goto 28)]
theorem h_98_15 : chk (mt 98) 26 15 b_98_15 = true := by decide +kernel
def b_98_26 : List (Nat × Instr) := [(26, .iconst 15)]
theorem h_98_26 : chk (mt 98) 28 26 b_98_26 = true := by decide +kernel
def b_98_28 : List (Nat × Instr) := [(28, .istore 6), (30, .iconst 0), (31, .istore 7)]
theorem h_98_28 : chk (mt 98) 33 28 b_98_28 = true := by decide +kernel
def b_98_33 : List (Nat × Instr) := [(33, .iload 7), (35, .iload 5), (37, .if_icmp .gt 197), (40, .iload 7), (42, .ifCond .ne 49), (45, .iconst 0), (46, .goto 58)]
theorem h_98_33 : chk (mt 98) 49 33 b_98_33 = true := by decide +kernel
def b_98_49 : List (Nat × Instr) := [(49, .iload 7), (51, .aload 0), (52, .getfield 609), (55, .iload 2), (56, .iaload), (57, .imul)]
theorem h_98_49 : chk (mt 98) 58 49 b_98_49 = true := by decide +kernel
def b_98_58 : List (Nat × Instr) := [(58, .istore 8), (60, .iload 7), (62, .ifCond .ne 69), (65, .iconst 0), (66, .goto 78)]
theorem h_98_58 : chk (mt 98) 69 58 b_98_58 = true := by decide +kernel
def b_98_69 : List (Nat × Instr) := [(69, .iload 7), (71, .aload 0), (72, .getfield 610), (75, .iload 2), (76, .iaload), (77, .imul)]
theorem h_98_69 : chk (mt 98) 78 69 b_98_69 = true := by decide +kernel
def b_98_78 : List (Nat × Instr) := [(78, .istore 9), (80, .iload 6), (82, .iload 5), (84, .isub), (85, .iload 7), (87, .iadd), (88, .iconst 5), (89, .ishl), (90, .istore 10), (92, .iconst 0), (93, .istore 11)]
theorem h_98_78 : chk (mt 98) 95 78 b_98_78 = true := by decide +kernel
def b_98_95 : List (Nat × Instr) := [(95, .iload 11), (97, .aload 0), (98, .getfield 608), (101, .iload 1), (102, .iaload), (103, .if_icmp .gt 191), (106, .aload 3), (107, .iload 10), (109, .iconst 15), (111, .iadd), (112, .aload 0), (113, .getfield 608), (116, .iload 1), (117, .iaload), (118, .isub), (119, .iload 11), (121, .iadd), (122, .iload 11), (124, .ifCond .ne 132), (127, .iload 8), (129, .goto 144)]
theorem h_98_95 : chk (mt 98) 132 95 b_98_95 = true := by decide +kernel
def b_98_132 : List (Nat × Instr) := [(132, .iload 8), (134, .iload 11), (136, .aload 0), (137, .getfield 609), (140, .iload 1), (141, .iaload), (142, .imul), (143, .iadd)]
theorem h_98_132 : chk (mt 98) 144 132 b_98_132 = true := by decide +kernel
def b_98_144 : List (Nat × Instr) := [(144, .iastore), (145, .aload 4), (147, .iload 10), (149, .iconst 15), (151, .iadd), (152, .aload 0), (153, .getfield 608), (156, .iload 1), (157, .iaload), (158, .isub), (159, .iload 11), (161, .iadd), (162, .iload 11), (164, .ifCond .ne 172), (167, .iload 9), (169, .goto 184)]
theorem h_98_144 : chk (mt 98) 172 144 b_98_144 = true := by decide +kernel
def b_98_172 : List (Nat × Instr) := [(172, .iload 9), (174, .iload 11), (176, .aload 0), (177, .getfield 610), (180, .iload 1), (181, .iaload), (182, .imul), (183, .iadd)]
theorem h_98_172 : chk (mt 98) 184 172 b_98_172 = true := by decide +kernel
def b_98_184 : List (Nat × Instr) := [(184, .iastore), (185, .iinc 11 1), (188, .goto 95)]
theorem h_98_184 : chk (mt 98) 191 184 b_98_184 = true := by decide +kernel
def b_98_191 : List (Nat × Instr) := [(191, .iinc 7 1), (194, .goto 33)]
theorem h_98_191 : chk (mt 98) 197 191 b_98_191 = true := by decide +kernel
def b_98_197 : List (Nat × Instr) := [(197, .return_)]
theorem h_98_197 : chk (mt 98) 198 197 b_98_197 = true := by decide +kernel
def b_99_0 : List (Nat × Instr) := [(0, .iload 2), (1, .iconst 64), (3, .imul), (4, .istore 4), (6, .iconst 0), (7, .istore 5)]
theorem h_99_0 : chk (mt 99) 9 0 b_99_0 = true := by decide +kernel
def b_99_9 : List (Nat × Instr) := [(9, .iload 5), (11, .aload 3), (12, .getfield 204), (15, .if_icmp .ge 215), (18, .aload 0), (19, .aload 3), (20, .iload 5), (22, .invokevirtual 100), (25, .istore 6), (27, .aload 1), (28, .aload 3), (29, .iload 5), (31, .invokestatic 101), (34, .istore 7), (36, .aload 0), (37, .getfield 606), (40, .iload 2), (41, .aload 0), (42, .getfield 606), (45, .iload 2), (46, .iaload), (47, .iload 7), (49, .aload 0), (50, .iload 6), (52, .invokevirtual 102), (55, .iadd), (56, .invokedynamic 2), (59, .iastore), (60, .iload 4), (62, .istore 8), (64, .iload 4), (66, .aload 0), (67, .getfield 605), (70, .iload 2), (71, .iaload), (72, .iadd), (73, .istore 9)]
theorem h_99_9 : chk (mt 99) 75 9 b_99_9 = true := by decide +kernel
def b_99_75 : List (Nat × Instr) := [(75, .iload 8), (77, .iload 9), (79, .if_icmp .ge 100), (82, .aload 0), (83, .getfield 600), (86, .iload 8), (88, .iaload), (89, .iload 6), (91, .if_icmp .eq 100), (94, .iinc 8 1), (97, .goto 75)]
theorem h_99_75 : chk (mt 99) 100 75 b_99_75 = true := by decide +kernel
def b_99_100 : List (Nat × Instr) := [(100, .aload 0), (101, .getfield 604), (104, .iload 4), (106, .iload 5), (108, .iadd), (109, .iload 8), (111, .iastore), (112, .iload 8), (114, .iload 9), (116, .if_icmp .ne 138), (119, .aload 0), (120, .getfield 605), (123, .iload 2), (124, .dup2), (125, .iaload), (126, .iconst 1), (127, .iadd), (128, .iastore), (129, .aload 0), (130, .getfield 600), (133, .iload 8), (135, .iload 6), (137, .iastore)]
theorem h_99_100 : chk (mt 99) 138 100 b_99_100 = true := by decide +kernel
def b_99_138 : List (Nat × Instr) := [(138, .iload 8), (140, .iload 9), (142, .if_icmp .eq 157), (145, .iload 7), (147, .aload 0), (148, .getfield 601), (151, .iload 8), (153, .iaload), (154, .if_icmp .le 186)]
theorem h_99_138 : chk (mt 99) 157 138 b_99_138 = true := by decide +kernel
def b_99_157 : List (Nat × Instr) := [(157, .aload 0), (158, .getfield 601), (161, .iload 8), (163, .iload 7), (165, .iastore), (166, .aload 0), (167, .getfield 602), (170, .iload 8), (172, .iconst 1), (173, .iastore), (174, .aload 0), (175, .getfield 603), (178, .iload 8), (180, .iload 5), (182, .iastore), (183, .goto 209)]
theorem h_99_157 : chk (mt 99) 186 157 b_99_157 = true := by decide +kernel
def b_99_186 : List (Nat × Instr) := [(186, .iload 7), (188, .aload 0), (189, .getfield 601), (192, .iload 8), (194, .iaload), (195, .if_icmp .ne 209), (198, .aload 0), (199, .getfield 602), (202, .iload 8), (204, .dup2), (205, .iaload), (206, .iconst 1), (207, .iadd), (208, .iastore)]
theorem h_99_186 : chk (mt 99) 209 186 b_99_186 = true := by decide +kernel
def b_99_209 : List (Nat × Instr) := [(209, .iinc 5 1), (212, .goto 9)]
theorem h_99_209 : chk (mt 99) 215 209 b_99_209 = true := by decide +kernel
def b_99_215 : List (Nat × Instr) := [(215, .return_)]
theorem h_99_215 : chk (mt 99) 216 215 b_99_215 = true := by decide +kernel
def b_100_0 : List (Nat × Instr) := [(0, .iconst 0), (1, .istore 3), (2, .iconst 0), (3, .istore 4)]
theorem h_100_0 : chk (mt 100) 5 0 b_100_0 = true := by decide +kernel
def b_100_5 : List (Nat × Instr) := [(5, .iload 4), (7, .aload 0), (8, .getfield 617), (11, .if_icmp .ge 59), (14, .aload 1), (15, .getfield 201), (18, .iload 2), (19, .iconst 10), (21, .imul), (22, .aload 0), (23, .getfield 607), (26, .iload 4), (28, .iaload), (29, .iadd), (30, .iaload), (31, .istore 5), (33, .iload 3), (34, .iload 5), (36, .aload 0), (37, .getfield 608), (40, .iload 4), (42, .iaload), (43, .invokedynamic 3), (46, .iconst 5), (47, .iload 4), (49, .imul), (50, .ishl), (51, .ior), (52, .istore 3), (53, .iinc 4 1), (56, .goto 5)]
theorem h_100_5 : chk (mt 100) 59 5 b_100_5 = true := by decide +kernel
def b_100_59 : List (Nat × Instr) := [(59, .iload 3), (60, .ireturn)]
theorem h_100_59 : chk (mt 100) 61 59 b_100_59 = true := by decide +kernel
def b_101_0 : List (Nat × Instr) := [(0, .iconst 0), (1, .istore 3), (2, .iconst 0), (3, .istore 4)]
theorem h_101_0 : chk (mt 101) 5 0 b_101_0 = true := by decide +kernel
def b_101_5 : List (Nat × Instr) := [(5, .iload 4), (7, .iconst 10), (9, .if_icmp .ge 44), (12, .iload 3), (13, .aload 1), (14, .getfield 201), (17, .iload 2), (18, .iconst 10), (20, .imul), (21, .iload 4), (23, .iadd), (24, .iaload), (25, .aload 0), (26, .getfield 302), (29, .iconst 10), (31, .iload 4), (33, .iadd), (34, .iaload), (35, .imul), (36, .iadd), (37, .istore 3), (38, .iinc 4 1), (41, .goto 5)]
theorem h_101_5 : chk (mt 101) 44 5 b_101_5 = true := by decide +kernel
def b_101_44 : List (Nat × Instr) := [(44, .iload 3), (45, .iconst 16), (47, .imul), (48, .ireturn)]
theorem h_101_44 : chk (mt 101) 49 44 b_101_44 = true := by decide +kernel
def b_102_0 : List (Nat × Instr) := [(0, .iconst 0), (1, .istore 2), (2, .iconst 0), (3, .istore 3)]
theorem h_102_0 : chk (mt 102) 4 0 b_102_0 = true := by decide +kernel
def b_102_4 : List (Nat × Instr) := [(4, .iload 3), (5, .aload 0), (6, .getfield 617), (9, .if_icmp .ge 40), (12, .iload 2), (13, .iconst 0), (14, .aload 0), (15, .getfield 610), (18, .iload 3), (19, .iaload), (20, .invokedynamic 2), (23, .iload 1), (24, .iconst 5), (25, .iload 3), (26, .imul), (27, .iushr), (28, .iconst 15), (30, .iand), (31, .imul), (32, .iadd), (33, .istore 2), (34, .iinc 3 1), (37, .goto 4)]
theorem h_102_4 : chk (mt 102) 40 4 b_102_4 = true := by decide +kernel
def b_102_40 : List (Nat × Instr) := [(40, .iload 2), (41, .ireturn)]
theorem h_102_40 : chk (mt 102) 42 40 b_102_40 = true := by decide +kernel
def b_103_0 : List (Nat × Instr) := [(0, .aload 0), (1, .iconst 0), (2, .putfield 403), (5, .aload 0), (6, .getfield 401), (9, .iconst 0), (10, .iconst 0), (11, .iastore), (12, .aload 0), (13, .getfield 401), (16, .iconst 1), (17, .iconst 1), (18, .iastore), (19, .aload 0), (20, .getfield 404), (23, .iconst 0), (24, .aload 0), (25, .getfield 400), (28, .getfield 618), (31, .iastore), (32, .aload 0), (33, .getfield 405), (36, .iconst 0), (37, .iconst 0), (38, .iastore), (39, .aload 0), (40, .getfield 406), (43, .iconst 0), (44, .iconst 1), (45, .iastore), (46, .aload 0), (47, .getfield 407), (50, .arraylength), (51, .aload 0), (52, .getfield 400), (55, .getfield 619), (58, .if_icmp .ge 84), (61, .aload 0), (62, .aload 0), (63, .getfield 400), (66, .getfield 619), (69, .iconst 2), (70, .aload 0), (71, .getfield 407), (74, .arraylength), (75, .imul), (76, .invokedynamic 2), (79, .newarray .int), (81, .putfield 407)]
theorem h_103_0 : chk (mt 103) 84 0 b_103_0 = true := by decide +kernel
def b_103_84 : List (Nat × Instr) := [(84, .return_)]
theorem h_103_84 : chk (mt 103) 85 84 b_103_84 = true := by decide +kernel
def b_104_0 : List (Nat × Instr) := [(0, .aload 0), (1, .iload 1), (2, .iload 2), (3, .iload 3), (4, .invokevirtual 105), (7, .istore 4), (9, .iload 4), (11, .ifCond .ne 31), (14, .aload 0), (15, .getfield 704), (18, .iconst 0), (19, .putfield 408), (22, .aload 0), (23, .getfield 704), (26, .iconst 1), (27, .putfield 409), (30, .return_)]
theorem h_104_0 : chk (mt 104) 31 0 b_104_0 = true := by decide +kernel
def b_104_31 : List (Nat × Instr) := [(31, .aload 0), (32, .getfield 704), (35, .aload 0), (36, .getfield 708), (39, .iload 4), (41, .iconst 1), (42, .isub), (43, .invokevirtual 106), (46, .aload 0), (47, .getfield 704), (50, .aload 0), (51, .getfield 708), (54, .iload 4), (56, .iconst 1), (57, .isub), (58, .iaload), (59, .iconst (-1)), (60, .invokevirtual 115), (63, .return_)]
theorem h_104_31 : chk (mt 104) 64 31 b_104_31 = true := by decide +kernel
def b_105_0 : List (Nat × Instr) := [(0, .iload 1), (1, .iload 2), (2, .iadd), (3, .iload 3), (4, .iadd), (5, .iconst 8), (7, .invokedynamic 3), (10, .istore 4), (12, .iconst 0), (13, .istore 5)]
theorem h_105_0 : chk (mt 105) 15 0 b_105_0 = true := by decide +kernel
def b_105_15 : List (Nat × Instr) := [(15, .iload 5), (17, .iload 4), (19, .if_icmp .ge 58), (22, .aload 0), (23, .getfield 708), (26, .iload 5), (28, .iload 5), (30, .iload 3), (31, .if_icmp .ge 38), (34, .iconst 2), (35, .goto 51)]
theorem h_105_15 : chk (mt 105) 38 15 b_105_15 = true := by decide +kernel
def b_105_38 : List (Nat × Instr) := [(38, .iload 5), (40, .iload 3), (41, .iload 2), (42, .iadd), (43, .if_icmp .ge 50), (46, .iconst 1), (47, .goto 51)]
theorem h_105_38 : chk (mt 105) 50 38 b_105_38 = true := by decide +kernel
def b_105_50 : List (Nat × Instr) := [(50, .iconst 0)]
theorem h_105_50 : chk (mt 105) 51 50 b_105_50 = true := by decide +kernel
def b_105_51 : List (Nat × Instr) := [(51, .iastore), (52, .iinc 5 1), (55, .goto 15)]
theorem h_105_51 : chk (mt 105) 58 51 b_105_51 = true := by decide +kernel
def b_105_58 : List (Nat × Instr) := [(58, .iload 4), (60, .ireturn)]
theorem h_105_58 : chk (mt 105) 61 58 b_105_58 = true := by decide +kernel
def b_106_0 : List (Nat × Instr) := [(0, .iconst 0), (1, .istore 3)]
theorem h_106_0 : chk (mt 106) 2 0 b_106_0 = true := by decide +kernel
def b_106_2 : List (Nat × Instr) := [(2, .iload 3), (3, .iload 2), (4, .if_icmp .ge 33), (7, .iload 3), (8, .aload 0), (9, .getfield 403), (12, .if_icmp .ge 33), (15, .aload 0), (16, .getfield 402), (19, .iload 3), (20, .iaload), (21, .aload 1), (22, .iload 3), (23, .iaload), (24, .if_icmp .ne 33), (27, .iinc 3 1), (30, .goto 2)]
theorem h_106_2 : chk (mt 106) 33 2 b_106_2 = true := by decide +kernel
def b_106_33 : List (Nat × Instr) := [(33, .aload 0), (34, .iload 3), (35, .putfield 403), (38, .iload 3), (39, .istore 4)]
theorem h_106_33 : chk (mt 106) 41 33 b_106_33 = true := by decide +kernel
def b_106_41 : List (Nat × Instr) := [(41, .iload 4), (43, .iload 2), (44, .if_icmp .ge 69), (47, .iload 4), (49, .iconst 8), (51, .if_icmp .ge 69), (54, .aload 0), (55, .aload 1), (56, .iload 4), (58, .iaload), (59, .iconst (-1)), (60, .invokevirtual 107), (63, .iinc 4 1), (66, .goto 41)]
theorem h_106_41 : chk (mt 106) 69 41 b_106_41 = true := by decide +kernel
def b_106_69 : List (Nat × Instr) := [(69, .return_)]
theorem h_106_69 : chk (mt 106) 70 69 b_106_69 = true := by decide +kernel
def b_107_0 : List (Nat × Instr) := [(0, .aload 0), (1, .getfield 403), (4, .iconst 8), (6, .if_icmp .lt 10), (9, .return_)]
theorem h_107_0 : chk (mt 107) 10 0 b_107_0 = true := by decide +kernel
def b_107_10 : List (Nat × Instr) := [(10, .aload 0), (11, .getfield 401), (14, .aload 0), (15, .getfield 403), (18, .iconst 1), (19, .iadd), (20, .iaload), (21, .istore 3), (22, .iload 3), (23, .istore 4), (25, .aload 0), (26, .getfield 401), (29, .aload 0), (30, .getfield 403), (33, .iaload), (34, .istore 5)]
theorem h_107_10 : chk (mt 107) 36 10 b_107_10 = true := by decide +kernel
def b_107_36 : List (Nat × Instr) := [(36, .iload 5), (38, .iload 3), (39, .if_icmp .ge 77), (42, .aload 0), (43, .getfield 404), (46, .arraylength), (47, .iload 4), (49, .isub), (50, .iconst 64), (52, .if_icmp .ge 59), (55, .aload 0), (56, .invokevirtual 108)]
theorem h_107_36 : chk (mt 107) 59 36 b_107_36 = true := by decide +kernel
def b_107_59 : List (Nat × Instr) := [(59, .aload 0), (60, .iload 5), (62, .iload 1), (63, .iload 2), (64, .iload 4), (66, .invokevirtual 110), (69, .istore 4), (71, .iinc 5 1), (74, .goto 36)]
theorem h_107_59 : chk (mt 107) 77 59 b_107_59 = true := by decide +kernel
def b_107_77 : List (Nat × Instr) := [(77, .iload 3), (78, .istore 5)]
theorem h_107_77 : chk (mt 107) 80 77 b_107_77 = true := by decide +kernel
def b_107_80 : List (Nat × Instr) := [(80, .iload 5), (82, .iload 4), (84, .if_icmp .ge 113), (87, .aload 0), (88, .getfield 407), (91, .aload 0), (92, .getfield 400), (95, .aload 0), (96, .getfield 404), (99, .iload 5), (101, .iaload), (102, .invokevirtual 112), (105, .iconst 0), (106, .iastore), (107, .iinc 5 1), (110, .goto 80)]
theorem h_107_80 : chk (mt 107) 113 80 b_107_80 = true := by decide +kernel
def b_107_113 : List (Nat × Instr) := [(113, .aload 0), (114, .getfield 402), (117, .aload 0), (118, .getfield 403), (121, .iload 1), (122, .iastore), (123, .aload 0), (124, .dup), (125, .getfield 403), (128, .iconst 1), (129, .iadd), (130, .putfield 403), (133, .aload 0), (134, .getfield 401), (137, .aload 0), (138, .getfield 403), (141, .iconst 1), (142, .iadd), (143, .iload 4), (145, .iastore), (146, .return_)]
theorem h_107_113 : chk (mt 107) 147 113 b_107_113 = true := by decide +kernel
def b_108_0 : List (Nat × Instr) := [(0, .aload 0), (1, .getfield 404), (4, .arraylength), (5, .iconst 2), (6, .imul), (7, .istore 1), (8, .aload 0), (9, .aload 0), (10, .getfield 404), (13, .iload 1), (14, .invokestatic 109), (17, .putfield 404), (20, .aload 0), (21, .aload 0), (22, .getfield 405), (25, .iload 1), (26, .invokestatic 109), (29, .putfield 405), (32, .aload 0), (33, .aload 0), (34, .getfield 406), (37, .iload 1), (38, .invokestatic 109), (41, .putfield 406), (44, .return_)]
theorem h_108_0 : chk (mt 108) 45 0 b_108_0 = true := by decide +kernel
def b_109_14 : List (Nat × Instr) := [(14, .iload 1), (15, .newarray .int), (17, .astore 2), (18, .aload 0), (19, .iconst 0), (20, .aload 2), (21, .iconst 0), (22, .aload 0), (23, .arraylength), (24, .iload 1), (25, .invokedynamic 3), (28, .invokedynamic 0), (31, .aload 2), (32, .areturn)]
theorem h_109_14 : chk (mt 109) 33 14 b_109_14 = true := by decide +kernel
def b_110_0 : List (Nat × Instr) := [(0, .aload 0), (1, .getfield 400), (4, .getfield 600), (7, .astore 5), (9, .aload 0), (10, .getfield 400), (13, .getfield 601), (16, .astore 6), (18, .aload 0), (19, .getfield 404), (22, .iload 1), (23, .iaload), (24, .istore 7), (26, .aload 0), (27, .getfield 405), (30, .iload 1), (31, .iaload), (32, .istore 8), (34, .iload 4), (36, .istore 9), (38, .iload 2), (39, .iconst 64), (41, .imul), (42, .aload 0), (43, .getfield 400), (46, .getfield 605), (49, .iload 2), (50, .iaload), (51, .iadd), (52, .istore 10), (54, .iload 2), (55, .iconst 64), (57, .imul), (58, .istore 11)]
theorem h_110_0 : chk (mt 110) 60 0 b_110_0 = true := by decide +kernel
def b_110_60 : List (Nat × Instr) := [(60, .iload 11), (62, .iload 10), (64, .if_icmp .ge 294), (67, .iload 7), (69, .aload 5), (71, .iload 11), (73, .iaload), (74, .invokestatic 111), (77, .istore 12), (79, .iload 8), (81, .aload 6), (83, .iload 11), (85, .iaload), (86, .iadd), (87, .iload 11), (89, .iload 3), (90, .if_icmp .ne 97), (93, .iconst 1), (94, .goto 98)]
theorem h_110_60 : chk (mt 110) 97 60 b_110_60 = true := by decide +kernel
def b_110_97 : List (Nat × Instr) := [(97, .iconst 0)]
theorem h_110_97 : chk (mt 110) 98 97 b_110_97 = true := by decide +kernel
def b_110_98 : List (Nat × Instr) := [(98, .iadd), (99, .istore 13), (101, .aload 0), (102, .getfield 400), (105, .iload 12), (107, .invokevirtual 112), (110, .istore 14), (112, .aload 0), (113, .getfield 407), (116, .iload 14), (118, .iaload), (119, .iconst 1), (120, .isub), (121, .istore 15), (123, .iload 15), (125, .ifCond .ge 192), (128, .iload 9), (130, .istore 15), (132, .iinc 9 1), (135, .aload 0), (136, .getfield 407), (139, .iload 14), (141, .iload 9), (143, .iastore), (144, .aload 0), (145, .getfield 404), (148, .iload 15), (150, .iload 12), (152, .iastore), (153, .aload 0), (154, .getfield 405), (157, .iload 15), (159, .iload 13), (161, .iastore), (162, .aload 0), (163, .getfield 406), (166, .iload 15), (168, .iconst 0), (169, .aload 0), (170, .getfield 406), (173, .iload 1), (174, .iaload), (175, .aload 0), (176, .getfield 400), (179, .getfield 602), (182, .iload 11), (184, .iaload), (185, .invokestatic 113), (188, .iastore), (189, .goto 288)]
theorem h_110_98 : chk (mt 110) 192 98 b_110_98 = true := by decide +kernel
def b_110_192 : List (Nat × Instr) := [(192, .iload 13), (194, .aload 0), (195, .getfield 405), (198, .iload 15), (200, .iaload), (201, .if_icmp .le 243), (204, .aload 0), (205, .getfield 405), (208, .iload 15), (210, .iload 13), (212, .iastore), (213, .aload 0), (214, .getfield 406), (217, .iload 15), (219, .iconst 0), (220, .aload 0), (221, .getfield 406), (224, .iload 1), (225, .iaload), (226, .aload 0), (227, .getfield 400), (230, .getfield 602), (233, .iload 11), (235, .iaload), (236, .invokestatic 113), (239, .iastore), (240, .goto 288)]
theorem h_110_192 : chk (mt 110) 243 192 b_110_192 = true := by decide +kernel
def b_110_243 : List (Nat × Instr) := [(243, .iload 13), (245, .aload 0), (246, .getfield 405), (249, .iload 15), (251, .iaload), (252, .if_icmp .ne 288), (255, .aload 0), (256, .getfield 406), (259, .iload 15), (261, .aload 0), (262, .getfield 406), (265, .iload 15), (267, .iaload), (268, .aload 0), (269, .getfield 406), (272, .iload 1), (273, .iaload), (274, .aload 0), (275, .getfield 400), (278, .getfield 602), (281, .iload 11), (283, .iaload), (284, .invokestatic 113), (287, .iastore)]
theorem h_110_243 : chk (mt 110) 288 243 b_110_243 = true := by decide +kernel
def b_110_288 : List (Nat × Instr) := [(288, .iinc 11 1), (291, .goto 60)]
theorem h_110_288 : chk (mt 110) 294 288 b_110_288 = true := by decide +kernel
def b_110_294 : List (Nat × Instr) := [(294, .iload 9), (296, .ireturn)]
theorem h_110_294 : chk (mt 110) 297 294 b_110_294 = true := by decide +kernel
def b_111_0 : List (Nat × Instr) := [(0, .iload 0), (1, .iload 1), (2, .iadd), (3, .istore 2), (4, .iload 2), (5, .iconst 17318416), (7, .iand), (8, .istore 3), (9, .iload 2), (10, .iload 3), (11, .iload 3), (12, .iconst 4), (13, .iushr), (14, .isub), (15, .ior), (16, .iconst 16236015), (18, .iand), (19, .ireturn)]
theorem h_111_0 : chk (mt 111) 20 0 b_111_0 = true := by decide +kernel
def b_112_0 : List (Nat × Instr) := [(0, .aload 0), (1, .getfield 611), (4, .iload 1), (5, .iconst 1023), (8, .iand), (9, .iaload), (10, .aload 0), (11, .getfield 612), (14, .iload 1), (15, .iconst 10), (17, .iushr), (18, .iconst 1023), (21, .iand), (22, .iaload), (23, .iadd), (24, .aload 0), (25, .getfield 613), (28, .iload 1), (29, .iconst 20), (31, .iushr), (32, .iconst 31), (34, .iand), (35, .iaload), (36, .iadd), (37, .ireturn)]
theorem h_112_0 : chk (mt 112) 38 0 b_112_0 = true := by decide +kernel
def b_113_0 : List (Nat × Instr) := [(0, .iload 0), (1, .i2l), (2, .iload 1), (3, .i2l), (4, .iload 2), (5, .i2l), (6, .lmul), (7, .ladd), (8, .lstore 3), (9, .lload 3), (10, .sipush 1000000000), (13, .lcmp), (14, .ifCond .ge 22), (17, .lload 3), (18, .l2i), (19, .goto 24)]
theorem h_113_0 : chk (mt 113) 22 0 b_113_0 = true := by decide +kernel
def b_113_22 : List (Nat × Instr) := [(22, .iconst 1000000000)]
theorem h_113_22 : chk (mt 113) 24 22 b_113_22 = true := by decide +kernel
def b_113_24 : List (Nat × Instr) := [(24, .ireturn)]
theorem h_113_24 : chk (mt 113) 25 24 b_113_24 = true := by decide +kernel
def b_115_0 : List (Nat × Instr) := [(0, .iload 1), (1, .iconst 64), (3, .imul), (4, .istore 3), (5, .iload 3), (6, .aload 0), (7, .getfield 400), (10, .getfield 605), (13, .iload 1), (14, .iaload), (15, .iadd), (16, .istore 4), (18, .aload 0), (19, .getfield 400), (22, .getfield 606), (25, .iload 1), (26, .iaload), (27, .iconst 1), (28, .iadd), (29, .istore 5), (31, .aload 0), (32, .iconst (-1)), (33, .putfield 408), (36, .aload 0), (37, .iconst 0), (38, .putfield 409), (41, .aload 0), (42, .getfield 401), (45, .aload 0), (46, .getfield 403), (49, .iaload), (50, .istore 6)]
theorem h_115_0 : chk (mt 115) 52 0 b_115_0 = true := by decide +kernel
def b_115_52 : List (Nat × Instr) := [(52, .iload 6), (54, .aload 0), (55, .getfield 401), (58, .aload 0), (59, .getfield 403), (62, .iconst 1), (63, .iadd), (64, .iaload), (65, .if_icmp .ge 264), (68, .aload 0), (69, .getfield 404), (72, .iload 6), (74, .iaload), (75, .istore 7), (77, .aload 0), (78, .getfield 405), (81, .iload 6), (83, .iaload), (84, .aload 0), (85, .getfield 400), (88, .iload 7), (90, .invokevirtual 116), (93, .iadd), (94, .iload 5), (96, .iadd), (97, .aload 0), (98, .getfield 408), (101, .if_icmp .ge 107), (104, .goto 258)]
theorem h_115_52 : chk (mt 115) 107 52 b_115_52 = true := by decide +kernel
def b_115_107 : List (Nat × Instr) := [(107, .iload 3), (108, .istore 8)]
theorem h_115_107 : chk (mt 115) 110 107 b_115_107 = true := by decide +kernel
def b_115_110 : List (Nat × Instr) := [(110, .iload 8), (112, .iload 4), (114, .if_icmp .ge 258), (117, .aload 0), (118, .getfield 405), (121, .iload 6), (123, .iaload), (124, .aload 0), (125, .getfield 400), (128, .getfield 601), (131, .iload 8), (133, .iaload), (134, .iadd), (135, .iload 8), (137, .iload 2), (138, .if_icmp .ne 145), (141, .iconst 1), (142, .goto 146)]
theorem h_115_110 : chk (mt 115) 145 110 b_115_110 = true := by decide +kernel
def b_115_145 : List (Nat × Instr) := [(145, .iconst 0)]
theorem h_115_145 : chk (mt 115) 146 145 b_115_145 = true := by decide +kernel
def b_115_146 : List (Nat × Instr) := [(146, .iadd), (147, .aload 0), (148, .getfield 400), (151, .iload 7), (153, .aload 0), (154, .getfield 400), (157, .getfield 600), (160, .iload 8), (162, .iaload), (163, .invokestatic 111), (166, .invokevirtual 116), (169, .iadd), (170, .istore 9), (172, .iload 9), (174, .aload 0), (175, .getfield 408), (178, .if_icmp .le 215), (181, .aload 0), (182, .iload 9), (184, .putfield 408), (187, .aload 0), (188, .iconst 0), (189, .aload 0), (190, .getfield 406), (193, .iload 6), (195, .iaload), (196, .aload 0), (197, .getfield 400), (200, .getfield 602), (203, .iload 8), (205, .iaload), (206, .invokestatic 113), (209, .putfield 409), (212, .goto 252)]
theorem h_115_146 : chk (mt 115) 215 146 b_115_146 = true := by decide +kernel
def b_115_215 : List (Nat × Instr) := [(215, .iload 9), (217, .aload 0), (218, .getfield 408), (221, .if_icmp .ne 252), (224, .aload 0), (225, .aload 0), (226, .getfield 409), (229, .aload 0), (230, .getfield 406), (233, .iload 6), (235, .iaload), (236, .aload 0), (237, .getfield 400), (240, .getfield 602), (243, .iload 8), (245, .iaload), (246, .invokestatic 113), (249, .putfield 409)]
theorem h_115_215 : chk (mt 115) 252 215 b_115_215 = true := by decide +kernel
def b_115_252 : List (Nat × Instr) := [(252, .iinc 8 1), (255, .goto 110)]
theorem h_115_252 : chk (mt 115) 258 252 b_115_252 = true := by decide +kernel
def b_115_258 : List (Nat × Instr) := [(258, .iinc 6 1), (261, .goto 52)]
theorem h_115_258 : chk (mt 115) 264 258 b_115_258 = true := by decide +kernel
def b_115_264 : List (Nat × Instr) := [(264, .return_)]
theorem h_115_264 : chk (mt 115) 265 264 b_115_264 = true := by decide +kernel
def b_116_0 : List (Nat × Instr) := [(0, .aload 0), (1, .getfield 614), (4, .iload 1), (5, .iconst 1023), (8, .iand), (9, .iaload), (10, .aload 0), (11, .getfield 615), (14, .iload 1), (15, .iconst 10), (17, .iushr), (18, .iconst 1023), (21, .iand), (22, .iaload), (23, .iadd), (24, .aload 0), (25, .getfield 616), (28, .iload 1), (29, .iconst 20), (31, .iushr), (32, .iconst 31), (34, .iand), (35, .iaload), (36, .iadd), (37, .ireturn)]
theorem h_116_0 : chk (mt 116) 38 0 b_116_0 = true := by decide +kernel
def b_117_0 : List (Nat × Instr) := [(0, .aload 0), (1, .getfield 705), (4, .aload 0), (5, .getfield 700), (8, .getfield 300), (11, .iconst 0), (12, .iaload), (13, .aload 0), (14, .getfield 700), (17, .getfield 300), (20, .iconst 1), (21, .iaload), (22, .aload 0), (23, .getfield 700), (26, .getfield 300), (29, .iconst 2), (30, .iaload), (31, .invokestatic 94), (34, .iaload), (35, .ireturn)]
theorem h_117_0 : chk (mt 117) 36 0 b_117_0 = true := by decide +kernel
def b_118_0 : List (Nat × Instr) := [(0, .aload 0), (1, .getfield 706), (4, .aload 0), (5, .getfield 700), (8, .getfield 300), (11, .iconst 0), (12, .iaload), (13, .aload 0), (14, .getfield 700), (17, .getfield 300), (20, .iconst 1), (21, .iaload), (22, .aload 0), (23, .getfield 700), (26, .getfield 300), (29, .iconst 2), (30, .iaload), (31, .invokestatic 94), (34, .iaload), (35, .ireturn)]
theorem h_118_0 : chk (mt 118) 36 0 b_118_0 = true := by decide +kernel
def b_119_0 : List (Nat × Instr) := [(0, .iload 1), (1, .iconst 0), (2, .aload 0), (3, .getfield 1100), (6, .invokevirtual 16), (9, .iconst 1), (10, .isub), (11, .invokestatic 14), (14, .ifCond .eq 24), (17, .aload 0), (18, .invokevirtual 91), (21, .ifCond .ne 26)]
theorem h_119_0 : chk (mt 119) 24 0 b_119_0 = true := by decide +kernel
def b_119_24 : List (Nat × Instr) := [(24, .iconst (-1)), (25, .ireturn)]
theorem h_119_24 : chk (mt 119) 26 24 b_119_24 = true := by decide +kernel
def b_119_26 : List (Nat × Instr) := [(26, .aload 0), (27, .getfield 1103), (30, .invokevirtual 120), (33, .aload 0), (34, .getfield 1103), (37, .getfield 709), (40, .iload 1), (41, .iaload), (42, .ireturn)]
theorem h_119_26 : chk (mt 119) 43 26 b_119_26 = true := by decide +kernel
def b_120_0 : List (Nat × Instr) := [(0, .aload 0), (1, .getfield 715), (4, .ifCond .ne 8), (7, .return_)]
theorem h_120_0 : chk (mt 120) 8 0 b_120_0 = true := by decide +kernel
def b_120_8 : List (Nat × Instr) := [(8, .aload 0), (9, .invokevirtual 117), (12, .iconst 16), (14, .imul), (15, .istore 1), (16, .aload 0), (17, .invokevirtual 95), (20, .aload 0), (21, .aload 0), (22, .getfield 700), (25, .getfield 300), (28, .iconst 0), (29, .iaload), (30, .aload 0), (31, .getfield 700), (34, .getfield 300), (37, .iconst 1), (38, .iaload), (39, .aload 0), (40, .getfield 700), (43, .getfield 300), (46, .iconst 2), (47, .iaload), (48, .invokevirtual 105), (51, .istore 2), (52, .aload 0), (53, .getfield 704), (56, .aload 0), (57, .getfield 708), (60, .iload 2), (61, .iconst 1), (62, .isub), (63, .invokevirtual 106), (66, .aload 0), (67, .getfield 703), (70, .getfield 618), (73, .istore 3), (74, .iconst 0), (75, .istore 4)]
theorem h_120_8 : chk (mt 120) 77 8 b_120_8 = true := by decide +kernel
def b_120_77 : List (Nat × Instr) := [(77, .iload 4), (79, .iload 2), (80, .if_icmp .ge 157), (83, .aload 0), (84, .aload 0), (85, .getfield 700), (88, .iload 4), (90, .invokevirtual 121), (93, .iload 2), (94, .iconst 1), (95, .isub), (96, .iload 4), (98, .isub), (99, .iload 3), (100, .iload 1), (101, .invokevirtual 122), (104, .istore 5), (106, .aload 0), (107, .getfield 709), (110, .iload 4), (112, .aload 0), (113, .getfield 703), (116, .getfield 603), (119, .iload 5), (121, .iaload), (122, .iastore), (123, .iload 3), (124, .aload 0), (125, .getfield 703), (128, .getfield 600), (131, .iload 5), (133, .iaload), (134, .invokestatic 111), (137, .istore 3), (138, .iload 1), (139, .aload 0), (140, .getfield 703), (143, .getfield 601), (146, .iload 5), (148, .iaload), (149, .isub), (150, .istore 1), (151, .iinc 4 1), (154, .goto 77)]
theorem h_120_77 : chk (mt 120) 157 77 b_120_77 = true := by decide +kernel
def b_120_157 : List (Nat × Instr) := [(157, .aload 0), (158, .getfield 710), (161, .iconst (-1)), (162, .invokestatic 36), (165, .aload 0), (166, .iconst 0), (167, .putfield 715), (170, .return_)]
theorem h_120_157 : chk (mt 120) 171 157 b_120_157 = true := by decide +kernel
def b_121_0 : List (Nat × Instr) := [(0, .iload 1), (1, .aload 0), (2, .getfield 300), (5, .iconst 0), (6, .iaload), (7, .if_icmp .ge 12), (10, .iconst 0), (11, .ireturn)]
theorem h_121_0 : chk (mt 121) 12 0 b_121_0 = true := by decide +kernel
def b_121_12 : List (Nat × Instr) := [(12, .iload 1), (13, .aload 0), (14, .getfield 300), (17, .iconst 0), (18, .iaload), (19, .aload 0), (20, .getfield 300), (23, .iconst 1), (24, .iaload), (25, .iadd), (26, .if_icmp .ge 33), (29, .iconst 1), (30, .goto 34)]
theorem h_121_12 : chk (mt 121) 33 12 b_121_12 = true := by decide +kernel
def b_121_33 : List (Nat × Instr) := [(33, .iconst 2)]
theorem h_121_33 : chk (mt 121) 34 33 b_121_33 = true := by decide +kernel
def b_121_34 : List (Nat × Instr) := [(34, .ireturn)]
theorem h_121_34 : chk (mt 121) 35 34 b_121_34 = true := by decide +kernel
def b_122_0 : List (Nat × Instr) := [(0, .iload 1), (1, .iconst 64), (3, .imul), (4, .istore 5), (6, .iconst 0), (7, .istore 6)]
theorem h_122_0 : chk (mt 122) 9 0 b_122_0 = true := by decide +kernel
def b_122_9 : List (Nat × Instr) := [(9, .iload 6), (11, .aload 0), (12, .getfield 702), (15, .iload 1), (16, .aaload), (17, .getfield 204), (20, .if_icmp .ge 107), (23, .iload 6), (25, .iconst 64), (27, .if_icmp .ge 107), (30, .aload 0), (31, .getfield 703), (34, .getfield 604), (37, .iload 5), (39, .iload 6), (41, .iadd), (42, .iaload), (43, .istore 7), (45, .aload 0), (46, .getfield 703), (49, .getfield 603), (52, .iload 7), (54, .iaload), (55, .iload 6), (57, .if_icmp .ne 101), (60, .aload 0), (61, .getfield 704), (64, .iload 2), (65, .iload 3), (66, .aload 0), (67, .getfield 703), (70, .getfield 600), (73, .iload 7), (75, .iaload), (76, .invokestatic 111), (79, .iload 4), (81, .aload 0), (82, .getfield 703), (85, .getfield 601), (88, .iload 7), (90, .iaload), (91, .isub), (92, .invokevirtual 123), (95, .ifCond .eq 101), (98, .iload 7), (100, .ireturn)]
theorem h_122_9 : chk (mt 122) 101 9 b_122_9 = true := by decide +kernel
def b_122_101 : List (Nat × Instr) := [(101, .iinc 6 1), (104, .goto 9)]
theorem h_122_101 : chk (mt 122) 107 101 b_122_101 = true := by decide +kernel
def b_122_107 : List (Nat × Instr) := [(107, .iload 5), (109, .ireturn)]
theorem h_122_107 : chk (mt 122) 110 107 b_122_107 = true := by decide +kernel
def b_123_0 : List (Nat × Instr) := [(0, .iload 2), (1, .aload 0), (2, .getfield 400), (5, .getfield 618), (8, .isub), (9, .istore 4), (11, .aload 0), (12, .getfield 401), (15, .iload 1), (16, .iaload), (17, .istore 5)]
theorem h_123_0 : chk (mt 123) 19 0 b_123_0 = true := by decide +kernel
def b_123_19 : List (Nat × Instr) := [(19, .iload 5), (21, .aload 0), (22, .getfield 401), (25, .iload 1), (26, .iconst 1), (27, .iadd), (28, .iaload), (29, .if_icmp .ge 71), (32, .aload 0), (33, .getfield 405), (36, .iload 5), (38, .iaload), (39, .aload 0), (40, .getfield 400), (43, .aload 0), (44, .getfield 404), (47, .iload 5), (49, .iaload), (50, .iload 4), (52, .invokestatic 111), (55, .invokevirtual 116), (58, .iadd), (59, .iload 3), (60, .if_icmp .ne 65), (63, .iconst 1), (64, .ireturn)]
theorem h_123_19 : chk (mt 123) 65 19 b_123_19 = true := by decide +kernel
def b_123_65 : List (Nat × Instr) := [(65, .iinc 5 1), (68, .goto 19)]
theorem h_123_65 : chk (mt 123) 71 65 b_123_65 = true := by decide +kernel
def b_123_71 : List (Nat × Instr) := [(71, .iconst 0), (72, .ireturn)]
theorem h_123_71 : chk (mt 123) 73 71 b_123_71 = true := by decide +kernel
def b_124_0 : List (Nat × Instr) := [(0, .iload 1), (1, .iconst 0), (2, .iconst 9), (4, .invokestatic 14), (7, .ifCond .eq 26), (10, .iload 2), (11, .iconst 0), (12, .iconst 1), (13, .invokestatic 14), (16, .ifCond .eq 26), (19, .aload 0), (20, .invokevirtual 91), (23, .ifCond .ne 28)]
theorem h_124_0 : chk (mt 124) 26 0 b_124_0 = true := by decide +kernel
def b_124_26 : List (Nat × Instr) := [(26, .iconst (-1)), (27, .ireturn)]
theorem h_124_26 : chk (mt 124) 28 26 b_124_26 = true := by decide +kernel
def b_124_28 : List (Nat × Instr) := [(28, .aload 0), (29, .getfield 1103), (32, .invokevirtual 120), (35, .aload 0), (36, .getfield 1103), (39, .iload 1), (40, .invokevirtual 125), (43, .istore 3), (44, .iload 2), (45, .ifCond .ne 52), (48, .iload 3), (49, .goto 61)]
theorem h_124_28 : chk (mt 124) 52 28 b_124_28 = true := by decide +kernel
def b_124_52 : List (Nat × Instr) := [(52, .aload 0), (53, .getfield 1100), (56, .iload 1), (57, .iload 3), (58, .invokevirtual 126)]
theorem h_124_52 : chk (mt 124) 61 52 b_124_52 = true := by decide +kernel
def b_124_61 : List (Nat × Instr) := [(61, .ireturn)]
theorem h_124_61 : chk (mt 124) 62 61 b_124_61 = true := by decide +kernel
def b_125_0 : List (Nat × Instr) := [(0, .iconst 0), (1, .istore 2), (2, .aload 0), (3, .getfield 700), (6, .invokevirtual 16), (9, .istore 3), (10, .iconst 0), (11, .istore 4)]
theorem h_125_0 : chk (mt 125) 13 0 b_125_0 = true := by decide +kernel
def b_125_13 : List (Nat × Instr) := [(13, .iload 4), (15, .iload 3), (16, .if_icmp .ge 58), (19, .iload 2), (20, .aload 0), (21, .getfield 702), (24, .aload 0), (25, .getfield 700), (28, .iload 4), (30, .invokevirtual 121), (33, .aaload), (34, .getfield 201), (37, .aload 0), (38, .getfield 709), (41, .iload 4), (43, .iaload), (44, .iconst 10), (46, .imul), (47, .iload 1), (48, .iadd), (49, .iaload), (50, .iadd), (51, .istore 2), (52, .iinc 4 1), (55, .goto 13)]
theorem h_125_13 : chk (mt 125) 58 13 b_125_13 = true := by decide +kernel
def b_125_58 : List (Nat × Instr) := [(58, .iload 2), (59, .ireturn)]
theorem h_125_58 : chk (mt 125) 60 58 b_125_58 = true := by decide +kernel
def b_126_0 : List (Nat × Instr) := [(0, .iconst 0), (1, .aload 0), (2, .getfield 302), (5, .iconst 20), (7, .iload 1), (8, .iadd), (9, .iaload), (10, .iload 2), (11, .isub), (12, .invokedynamic 2), (15, .ireturn)]
theorem h_126_0 : chk (mt 126) 16 0 b_126_0 = true := by decide +kernel
def b_127_0 : List (Nat × Instr) := [(0, .iload 1), (1, .iconst 0), (2, .iconst 2), (3, .invokestatic 14), (6, .ifCond .eq 16), (9, .aload 0), (10, .invokevirtual 91), (13, .ifCond .ne 18)]
theorem h_127_0 : chk (mt 127) 16 0 b_127_0 = true := by decide +kernel
def b_127_16 : List (Nat × Instr) := [(16, .iconst (-1)), (17, .ireturn)]
theorem h_127_16 : chk (mt 127) 18 16 b_127_16 = true := by decide +kernel
def b_127_18 : List (Nat × Instr) := [(18, .aload 0), (19, .getfield 1103), (22, .iload 1), (23, .iconst 1), (24, .invokevirtual 128), (27, .istore 2), (28, .iload 2), (29, .iconst (-1)), (30, .if_icmp .ne 37), (33, .iconst (-1)), (34, .goto 46)]
theorem h_127_18 : chk (mt 127) 37 18 b_127_18 = true := by decide +kernel
def b_127_37 : List (Nat × Instr) := [(37, .iload 2), (38, .aload 0), (39, .getfield 1103), (42, .invokevirtual 117), (45, .isub)]
theorem h_127_37 : chk (mt 127) 46 37 b_127_37 = true := by decide +kernel
def b_127_46 : List (Nat × Instr) := [(46, .ireturn)]
theorem h_127_46 : chk (mt 127) 47 46 b_127_46 = true := by decide +kernel
def b_128_0 : List (Nat × Instr) := [(0, .aload 0), (1, .aload 0), (2, .getfield 700), (5, .getfield 300), (8, .iconst 0), (9, .iaload), (10, .iload 1), (11, .ifCond .ne 18), (14, .iload 2), (15, .goto 19)]
theorem h_128_0 : chk (mt 128) 18 0 b_128_0 = true := by decide +kernel
def b_128_18 : List (Nat × Instr) := [(18, .iconst 0)]
theorem h_128_18 : chk (mt 128) 19 18 b_128_18 = true := by decide +kernel
def b_128_19 : List (Nat × Instr) := [(19, .iadd), (20, .aload 0), (21, .getfield 700), (24, .getfield 300), (27, .iconst 1), (28, .iaload), (29, .iload 1), (30, .iconst 1), (31, .if_icmp .ne 38), (34, .iload 2), (35, .goto 39)]
theorem h_128_19 : chk (mt 128) 38 19 b_128_19 = true := by decide +kernel
def b_128_38 : List (Nat × Instr) := [(38, .iconst 0)]
theorem h_128_38 : chk (mt 128) 39 38 b_128_38 = true := by decide +kernel
def b_128_39 : List (Nat × Instr) := [(39, .iadd), (40, .aload 0), (41, .getfield 700), (44, .getfield 300), (47, .iconst 2), (48, .iaload), (49, .iload 1), (50, .iconst 2), (51, .if_icmp .ne 58), (54, .iload 2), (55, .goto 59)]
theorem h_128_39 : chk (mt 128) 58 39 b_128_39 = true := by decide +kernel
def b_128_58 : List (Nat × Instr) := [(58, .iconst 0)]
theorem h_128_58 : chk (mt 128) 59 58 b_128_58 = true := by decide +kernel
def b_128_59 : List (Nat × Instr) := [(59, .iadd), (60, .invokevirtual 92), (63, .ireturn)]
theorem h_128_59 : chk (mt 128) 64 59 b_128_59 = true := by decide +kernel
def b_129_0 : List (Nat × Instr) := [(0, .iload 1), (1, .iconst 0), (2, .iconst 2), (3, .invokestatic 14), (6, .ifCond .eq 16), (9, .aload 0), (10, .invokevirtual 91), (13, .ifCond .ne 19)]
theorem h_129_0 : chk (mt 129) 16 0 b_129_0 = true := by decide +kernel
def b_129_16 : List (Nat × Instr) := [(16, .iconst (-100000)), (18, .ireturn)]
theorem h_129_16 : chk (mt 129) 19 16 b_129_16 = true := by decide +kernel
def b_129_19 : List (Nat × Instr) := [(19, .aload 0), (20, .getfield 1103), (23, .iload 1), (24, .iconst (-1)), (25, .invokevirtual 128), (28, .istore 2), (29, .iload 2), (30, .iconst (-1)), (31, .if_icmp .ne 39), (34, .iconst (-100000)), (36, .goto 48)]
theorem h_129_19 : chk (mt 129) 39 19 b_129_19 = true := by decide +kernel
def b_129_39 : List (Nat × Instr) := [(39, .aload 0), (40, .getfield 1103), (43, .invokevirtual 117), (46, .iload 2), (47, .isub)]
theorem h_129_39 : chk (mt 129) 48 39 b_129_39 = true := by decide +kernel
def b_129_48 : List (Nat × Instr) := [(48, .ireturn)]
theorem h_129_48 : chk (mt 129) 49 48 b_129_48 = true := by decide +kernel
def b_130_0 : List (Nat × Instr) := [(0, .iload 1), (1, .iconst 0), (2, .iconst 9), (4, .invokestatic 14), (7, .ifCond .eq 28), (10, .aload 0), (11, .invokevirtual 91), (14, .ifCond .eq 28), (17, .aload 0), (18, .getfield 1103), (21, .iload 1), (22, .invokevirtual 131), (25, .goto 29)]
theorem h_130_0 : chk (mt 130) 28 0 b_130_0 = true := by decide +kernel
def b_130_28 : List (Nat × Instr) := [(28, .iconst (-1))]
theorem h_130_28 : chk (mt 130) 29 28 b_130_28 = true := by decide +kernel
def b_130_29 : List (Nat × Instr) := [(29, .ireturn)]
theorem h_130_29 : chk (mt 130) 30 29 b_130_29 = true := by decide +kernel
def b_131_0 : List (Nat × Instr) := [(0, .iconst 20), (2, .iload 1), (3, .iadd), (4, .istore 2), (5, .aload 0), (6, .getfield 700), (9, .getfield 302), (12, .iload 2), (13, .iaload), (14, .istore 3), (15, .aload 0), (16, .invokevirtual 117), (19, .istore 4), (21, .iload 3), (22, .iconst 8), (24, .if_icmp .ge 42), (27, .iload 3), (28, .ifCond .ne 44), (31, .aload 0), (32, .getfield 700), (35, .invokevirtual 24), (38, .iconst 5), (39, .if_icmp .lt 44)]
theorem h_131_0 : chk (mt 131) 42 0 b_131_0 = true := by decide +kernel
def b_131_42 : List (Nat × Instr) := [(42, .iconst (-1)), (43, .ireturn)]
theorem h_131_42 : chk (mt 131) 44 42 b_131_42 = true := by decide +kernel
def b_131_44 : List (Nat × Instr) := [(44, .aload 0), (45, .getfield 700), (48, .getfield 302), (51, .iconst 0), (52, .iload 1), (53, .iadd), (54, .iaload), (55, .aload 0), (56, .getfield 700), (59, .getfield 302), (62, .iconst 10), (64, .iload 1), (65, .iadd), (66, .iaload), (67, .if_icmp .eq 79), (70, .iload 3), (71, .aload 0), (72, .iload 1), (73, .invokevirtual 132), (76, .if_icmp .lt 81)]
theorem h_131_44 : chk (mt 131) 79 44 b_131_44 = true := by decide +kernel
def b_131_79 : List (Nat × Instr) := [(79, .iconst 0), (80, .ireturn)]
theorem h_131_79 : chk (mt 131) 81 79 b_131_79 = true := by decide +kernel
def b_131_81 : List (Nat × Instr) := [(81, .aload 0), (82, .getfield 700), (85, .getfield 302), (88, .iload 2), (89, .iload 3), (90, .iconst 1), (91, .iadd), (92, .iastore), (93, .aload 0), (94, .iconst 1), (95, .putfield 714), (98, .aload 0), (99, .invokevirtual 95), (102, .aload 0), (103, .aload 0), (104, .getfield 700), (107, .getfield 300), (110, .iconst 0), (111, .iaload), (112, .aload 0), (113, .getfield 700), (116, .getfield 300), (119, .iconst 1), (120, .iaload), (121, .aload 0), (122, .getfield 700), (125, .getfield 300), (128, .iconst 2), (129, .iaload), (130, .invokevirtual 104), (133, .aload 0), (134, .getfield 700), (137, .getfield 302), (140, .iload 2), (141, .iload 3), (142, .iastore), (143, .aload 0), (144, .iconst 1), (145, .putfield 714), (148, .aload 0), (149, .getfield 704), (152, .getfield 408), (155, .iconst 16), (157, .idiv), (158, .iload 4), (160, .isub), (161, .ireturn)]
theorem h_131_81 : chk (mt 131) 162 81 b_131_81 = true := by decide +kernel
def b_132_0 : List (Nat × Instr) := [(0, .iconst 0), (1, .istore 2), (2, .iconst 0), (3, .istore 3)]
theorem h_132_0 : chk (mt 132) 4 0 b_132_0 = true := by decide +kernel
def b_132_4 : List (Nat × Instr) := [(4, .iload 3), (5, .iconst 3), (6, .if_icmp .ge 87), (9, .iconst 0), (10, .istore 4), (12, .iconst 0), (13, .istore 5)]
theorem h_132_4 : chk (mt 132) 15 4 b_132_4 = true := by decide +kernel
def b_132_15 : List (Nat × Instr) := [(15, .iload 5), (17, .aload 0), (18, .getfield 702), (21, .iload 3), (22, .aaload), (23, .getfield 204), (26, .if_icmp .ge 66), (29, .iload 5), (31, .iconst 64), (33, .if_icmp .ge 66), (36, .iload 4), (38, .aload 0), (39, .getfield 702), (42, .iload 3), (43, .aaload), (44, .getfield 201), (47, .iload 5), (49, .iconst 10), (51, .imul), (52, .iload 1), (53, .iadd), (54, .iaload), (55, .invokedynamic 2), (58, .istore 4), (60, .iinc 5 1), (63, .goto 15)]
theorem h_132_15 : chk (mt 132) 66 15 b_132_15 = true := by decide +kernel
def b_132_66 : List (Nat × Instr) := [(66, .iload 2), (67, .aload 0), (68, .getfield 700), (71, .getfield 300), (74, .iload 3), (75, .iaload), (76, .iload 4), (78, .imul), (79, .iadd), (80, .istore 2), (81, .iinc 3 1), (84, .goto 4)]
theorem h_132_66 : chk (mt 132) 87 66 b_132_66 = true := by decide +kernel
def b_132_87 : List (Nat × Instr) := [(87, .iload 2), (88, .ireturn)]
theorem h_132_87 : chk (mt 132) 89 87 b_132_87 = true := by decide +kernel
def b_133_0 : List (Nat × Instr) := [(0, .iload 1), (1, .iconst 0), (2, .iconst 2), (3, .invokestatic 14), (6, .ifCond .eq 37), (9, .iload 2), (10, .iconst 0), (11, .iconst 1), (12, .invokestatic 14), (15, .ifCond .eq 37), (18, .aload 0), (19, .getfield 1100), (22, .getfield 300), (25, .iload 1), (26, .iaload), (27, .ifCond .eq 37), (30, .aload 0), (31, .invokevirtual 91), (34, .ifCond .ne 39)]
theorem h_133_0 : chk (mt 133) 37 0 b_133_0 = true := by decide +kernel
def b_133_37 : List (Nat × Instr) := [(37, .iconst (-1)), (38, .ireturn)]
theorem h_133_37 : chk (mt 133) 39 37 b_133_37 = true := by decide +kernel
def b_133_39 : List (Nat × Instr) := [(39, .aload 0), (40, .getfield 1103), (43, .invokevirtual 120), (46, .aload 0), (47, .getfield 1103), (50, .iload 1), (51, .invokevirtual 134), (54, .iload 2), (55, .ifCond .ne 70), (58, .aload 0), (59, .getfield 1103), (62, .getfield 710), (65, .iload 1), (66, .iaload), (67, .goto 79)]
theorem h_133_39 : chk (mt 133) 70 39 b_133_39 = true := by decide +kernel
def b_133_70 : List (Nat × Instr) := [(70, .aload 0), (71, .getfield 1103), (74, .getfield 711), (77, .iload 1), (78, .iaload)]
theorem h_133_70 : chk (mt 133) 79 70 b_133_70 = true := by decide +kernel
def b_133_79 : List (Nat × Instr) := [(79, .ireturn)]
theorem h_133_79 : chk (mt 133) 80 79 b_133_79 = true := by decide +kernel
def b_134_0 : List (Nat × Instr) := [(0, .aload 0), (1, .getfield 710), (4, .iload 1), (5, .iaload), (6, .iconst (-1)), (7, .if_icmp .eq 11), (10, .return_)]
theorem h_134_0 : chk (mt 134) 11 0 b_134_0 = true := by decide +kernel
def b_134_11 : List (Nat × Instr) := [(11, .aload 0), (12, .getfield 700), (15, .invokevirtual 16), (18, .istore 2), (19, .iload 1), (20, .ifCond .ne 35), (23, .aload 0), (24, .getfield 700), (27, .getfield 300), (30, .iconst 0), (31, .iaload), (32, .goto 63)]
theorem h_134_11 : chk (mt 134) 35 11 b_134_11 = true := by decide +kernel
def b_134_35 : List (Nat × Instr) := [(35, .iload 1), (36, .iconst 1), (37, .if_icmp .ne 62), (40, .aload 0), (41, .getfield 700), (44, .getfield 300), (47, .iconst 0), (48, .iaload), (49, .aload 0), (50, .getfield 700), (53, .getfield 300), (56, .iconst 1), (57, .iaload), (58, .iadd), (59, .goto 63)]
theorem h_134_35 : chk (mt 134) 62 35 b_134_35 = true := by decide +kernel
def b_134_62 : List (Nat × Instr) := [(62, .iload 2)]
theorem h_134_62 : chk (mt 134) 63 62 b_134_62 = true := by decide +kernel
def b_134_63 : List (Nat × Instr) := [(63, .iconst 1), (64, .isub), (65, .istore 3), (66, .iload 3), (67, .ifCond .ne 74), (70, .iconst 1), (71, .goto 75)]
theorem h_134_63 : chk (mt 134) 74 63 b_134_63 = true := by decide +kernel
def b_134_74 : List (Nat × Instr) := [(74, .iconst 0)]
theorem h_134_74 : chk (mt 134) 75 74 b_134_74 = true := by decide +kernel
def b_134_75 : List (Nat × Instr) := [(75, .istore 4), (77, .aload 0), (78, .getfield 710), (81, .iload 1), (82, .iconst 0), (83, .iastore), (84, .aload 0), (85, .getfield 711), (88, .iload 1), (89, .iconst 0), (90, .iastore), (91, .iload 2), (92, .iconst 2), (93, .if_icmp .ge 97), (96, .return_)]
theorem h_134_75 : chk (mt 134) 97 75 b_134_75 = true := by decide +kernel
def b_134_97 : List (Nat × Instr) := [(97, .aload 0), (98, .invokevirtual 95), (101, .aload 0), (102, .getfield 704), (105, .invokevirtual 103), (108, .iload 2), (109, .iconst 1), (110, .isub), (111, .istore 5)]
theorem h_134_97 : chk (mt 134) 113 97 b_134_97 = true := by decide +kernel
def b_134_113 : List (Nat × Instr) := [(113, .iload 5), (115, .iload 4), (117, .if_icmp .le 154), (120, .iload 5), (122, .iload 3), (123, .if_icmp .eq 148), (126, .aload 0), (127, .getfield 704), (130, .aload 0), (131, .getfield 700), (134, .iload 5), (136, .invokevirtual 121), (139, .aload 0), (140, .iload 5), (142, .invokevirtual 135), (145, .invokevirtual 107)]
theorem h_134_113 : chk (mt 134) 148 113 b_134_113 = true := by decide +kernel
def b_134_148 : List (Nat × Instr) := [(148, .iinc 5 (-1)), (151, .goto 113)]
theorem h_134_148 : chk (mt 134) 154 148 b_134_148 = true := by decide +kernel
def b_134_154 : List (Nat × Instr) := [(154, .aload 0), (155, .getfield 704), (158, .aload 0), (159, .getfield 700), (162, .iload 4), (164, .invokevirtual 121), (167, .aload 0), (168, .iload 4), (170, .invokevirtual 135), (173, .invokevirtual 115), (176, .aload 0), (177, .getfield 704), (180, .invokevirtual 103), (183, .aload 0), (184, .getfield 711), (187, .iload 1), (188, .aload 0), (189, .getfield 704), (192, .getfield 408), (195, .iconst 16), (197, .idiv), (198, .iastore), (199, .aload 0), (200, .getfield 710), (203, .iload 1), (204, .iload 2), (205, .iconst 1), (206, .isub), (207, .aload 0), (208, .getfield 704), (211, .getfield 408), (214, .iconst 16), (216, .irem), (217, .isub), (218, .iastore), (219, .return_)]
theorem h_134_154 : chk (mt 134) 220 154 b_134_154 = true := by decide +kernel
def b_135_0 : List (Nat × Instr) := [(0, .aload 0), (1, .getfield 703), (4, .getfield 604), (7, .aload 0), (8, .getfield 700), (11, .iload 1), (12, .invokevirtual 121), (15, .iconst 64), (17, .imul), (18, .aload 0), (19, .getfield 709), (22, .iload 1), (23, .iaload), (24, .iadd), (25, .iaload), (26, .ireturn)]
theorem h_135_0 : chk (mt 135) 27 0 b_135_0 = true := by decide +kernel
def b_136_0 : List (Nat × Instr) := [(0, .iload 1), (1, .iconst 0), (2, .iconst 7), (4, .invokestatic 14), (7, .ifCond .eq 20), (10, .iload 2), (11, .iconst 0), (12, .iconst 63), (14, .invokestatic 14), (17, .ifCond .ne 26)]
theorem h_136_0 : chk (mt 136) 20 0 b_136_0 = true := by decide +kernel
def b_136_20 : List (Nat × Instr) := [(20, .aload 0), (21, .iconst (-1)), (22, .invokevirtual 15), (25, .ireturn)]
theorem h_136_20 : chk (mt 136) 26 20 b_136_20 = true := by decide +kernel
def b_136_26 : List (Nat × Instr) := [(26, .aload 0), (27, .getfield 1100), (30, .getfield 304), (33, .iload 1), (34, .iaload), (35, .istore 3), (36, .aload 0), (37, .getfield 1100), (40, .getfield 304), (43, .iload 1), (44, .iload 2), (45, .iastore), (46, .aload 0), (47, .iload 3), (48, .invokevirtual 19), (51, .ireturn)]
theorem h_136_26 : chk (mt 136) 52 26 b_136_26 = true := by decide +kernel
def b_137_0 : List (Nat × Instr) := [(0, .iload 1), (1, .iconst 0), (2, .iconst 3), (3, .invokestatic 14), (6, .ifCond .eq 16), (9, .aload 0), (10, .invokevirtual 91), (13, .ifCond .ne 18)]
theorem h_137_0 : chk (mt 137) 16 0 b_137_0 = true := by decide +kernel
def b_137_16 : List (Nat × Instr) := [(16, .iconst (-1)), (17, .ireturn)]
theorem h_137_16 : chk (mt 137) 18 16 b_137_16 = true := by decide +kernel
def b_137_18 : List (Nat × Instr) := [(18, .aload 0), (19, .getfield 1103), (22, .invokevirtual 120), (25, .iload 1), (26, .tableswitch 84 0 2 #[52, 60, 76])]
theorem h_137_18 : chk (mt 137) 52 18 b_137_18 = true := by decide +kernel
def b_137_52 : List (Nat × Instr) := [(52, .aload 0), (53, .getfield 1103), (56, .invokevirtual 138), (59, .ireturn)]
theorem h_137_52 : chk (mt 137) 60 52 b_137_52 = true := by decide +kernel
def b_137_60 : List (Nat × Instr) := [(60, .aload 0), (61, .getfield 1103), (64, .invokevirtual 117), (67, .aload 0), (68, .getfield 1103), (71, .invokevirtual 138), (74, .isub), (75, .ireturn)]
theorem h_137_60 : chk (mt 137) 76 60 b_137_60 = true := by decide +kernel
def b_137_76 : List (Nat × Instr) := [(76, .aload 0), (77, .getfield 1103), (80, .invokevirtual 142), (83, .ireturn)]
theorem h_137_76 : chk (mt 137) 84 76 b_137_76 = true := by decide +kernel
def b_137_84 : List (Nat × Instr) := [(84, .aload 0), (85, .getfield 1103), (88, .invokevirtual 143), (91, .ireturn)]
theorem h_137_84 : chk (mt 137) 92 84 b_137_84 = true := by decide +kernel
def b_138_0 : List (Nat × Instr) := [(0, .iconst 0), (1, .istore 1), (2, .iconst 0), (3, .istore 2)]
theorem h_138_0 : chk (mt 138) 4 0 b_138_0 = true := by decide +kernel
def b_138_4 : List (Nat × Instr) := [(4, .iload 2), (5, .iconst 10), (7, .if_icmp .ge 32), (10, .iload 1), (11, .aload 0), (12, .getfield 700), (15, .iload 2), (16, .aload 0), (17, .iload 2), (18, .invokevirtual 139), (21, .invokevirtual 141), (24, .iadd), (25, .istore 1), (26, .iinc 2 1), (29, .goto 4)]
theorem h_138_4 : chk (mt 138) 32 4 b_138_4 = true := by decide +kernel
def b_138_32 : List (Nat × Instr) := [(32, .iload 1), (33, .ireturn)]
theorem h_138_32 : chk (mt 138) 34 32 b_138_32 = true := by decide +kernel
def b_139_0 : List (Nat × Instr) := [(0, .iconst 0), (1, .istore 2), (2, .aload 0), (3, .getfield 700), (6, .invokevirtual 16), (9, .istore 3), (10, .iconst 0), (11, .istore 4)]
theorem h_139_0 : chk (mt 139) 13 0 b_139_0 = true := by decide +kernel
def b_139_13 : List (Nat × Instr) := [(13, .iload 4), (15, .iload 3), (16, .if_icmp .ge 57), (19, .iload 2), (20, .aload 0), (21, .getfield 702), (24, .aload 0), (25, .getfield 700), (28, .iload 4), (30, .invokevirtual 121), (33, .aaload), (34, .getfield 201), (37, .aload 0), (38, .iload 4), (40, .invokevirtual 140), (43, .iconst 10), (45, .imul), (46, .iload 1), (47, .iadd), (48, .iaload), (49, .iadd), (50, .istore 2), (51, .iinc 4 1), (54, .goto 13)]
theorem h_139_13 : chk (mt 139) 57 13 b_139_13 = true := by decide +kernel
def b_139_57 : List (Nat × Instr) := [(57, .iload 2), (58, .ireturn)]
theorem h_139_57 : chk (mt 139) 59 57 b_139_57 = true := by decide +kernel
def b_140_0 : List (Nat × Instr) := [(0, .aload 0), (1, .getfield 700), (4, .getfield 304), (7, .iload 1), (8, .iaload), (9, .istore 2), (10, .iload 2), (11, .aload 0), (12, .getfield 702), (15, .aload 0), (16, .getfield 700), (19, .iload 1), (20, .invokevirtual 121), (23, .aaload), (24, .getfield 204), (27, .if_icmp .ge 34), (30, .iload 2), (31, .goto 35)]
theorem h_140_0 : chk (mt 140) 34 0 b_140_0 = true := by decide +kernel
def b_140_34 : List (Nat × Instr) := [(34, .iconst 0)]
theorem h_140_34 : chk (mt 140) 35 34 b_140_34 = true := by decide +kernel
def b_140_35 : List (Nat × Instr) := [(35, .ireturn)]
theorem h_140_35 : chk (mt 140) 36 35 b_140_35 = true := by decide +kernel
def b_141_0 : List (Nat × Instr) := [(0, .iload 2), (1, .aload 0), (2, .getfield 302), (5, .iconst 20), (7, .iload 1), (8, .iadd), (9, .iaload), (10, .invokedynamic 3), (13, .istore 3), (14, .iload 3), (15, .aload 0), (16, .getfield 302), (19, .iconst 0), (20, .iload 1), (21, .iadd), (22, .iaload), (23, .imul), (24, .iload 2), (25, .iload 3), (26, .isub), (27, .aload 0), (28, .getfield 302), (31, .iconst 10), (33, .iload 1), (34, .iadd), (35, .iaload), (36, .imul), (37, .iadd), (38, .ireturn)]
theorem h_141_0 : chk (mt 141) 39 0 b_141_0 = true := by decide +kernel
def b_142_0 : List (Nat × Instr) := [(0, .iconst 0), (1, .istore 1), (2, .aload 0), (3, .getfield 700), (6, .invokevirtual 16), (9, .istore 2), (10, .iconst 0), (11, .istore 3)]
theorem h_142_0 : chk (mt 142) 12 0 b_142_0 = true := by decide +kernel
def b_142_12 : List (Nat × Instr) := [(12, .iload 3), (13, .iload 2), (14, .if_icmp .ge 40), (17, .aload 0), (18, .iload 3), (19, .invokevirtual 140), (22, .aload 0), (23, .getfield 709), (26, .iload 3), (27, .iaload), (28, .if_icmp .eq 34), (31, .iinc 1 1)]
theorem h_142_12 : chk (mt 142) 34 12 b_142_12 = true := by decide +kernel
def b_142_34 : List (Nat × Instr) := [(34, .iinc 3 1), (37, .goto 12)]
theorem h_142_34 : chk (mt 142) 40 34 b_142_34 = true := by decide +kernel
def b_142_40 : List (Nat × Instr) := [(40, .iload 1), (41, .ireturn)]
theorem h_142_40 : chk (mt 142) 42 40 b_142_40 = true := by decide +kernel
def b_143_0 : List (Nat × Instr) := [(0, .iconst 0), (1, .istore 1), (2, .iconst 0), (3, .istore 2)]
theorem h_143_0 : chk (mt 143) 4 0 b_143_0 = true := by decide +kernel
def b_143_4 : List (Nat × Instr) := [(4, .iload 2), (5, .iconst 10), (7, .if_icmp .ge 32), (10, .iload 1), (11, .aload 0), (12, .getfield 700), (15, .iload 2), (16, .aload 0), (17, .iload 2), (18, .invokevirtual 139), (21, .invokevirtual 126), (24, .iadd), (25, .istore 1), (26, .iinc 2 1), (29, .goto 4)]
theorem h_143_4 : chk (mt 143) 32 4 b_143_4 = true := by decide +kernel
def b_143_32 : List (Nat × Instr) := [(32, .iload 1), (33, .ireturn)]
theorem h_143_32 : chk (mt 143) 34 32 b_143_32 = true := by decide +kernel
def b_144_0 : List (Nat × Instr) := [(0, .iload 1), (1, .iconst (-1)), (2, .aload 0), (3, .getfield 1100), (6, .getfield 307), (9, .getfield 1011), (12, .iconst 1), (13, .isub), (14, .invokestatic 14), (17, .ifCond .eq 27), (20, .aload 0), (21, .invokevirtual 91), (24, .ifCond .ne 29)]
theorem h_144_0 : chk (mt 144) 27 0 b_144_0 = true := by decide +kernel
def b_144_27 : List (Nat × Instr) := [(27, .iconst (-1)), (28, .ireturn)]
theorem h_144_27 : chk (mt 144) 29 27 b_144_27 = true := by decide +kernel
def b_144_29 : List (Nat × Instr) := [(29, .aload 0), (30, .getfield 1103), (33, .invokevirtual 120), (36, .aload 0), (37, .getfield 1104), (40, .invokevirtual 145), (43, .iload 1), (44, .iconst (-1)), (45, .if_icmp .ne 58), (48, .aload 0), (49, .getfield 1104), (52, .getfield 111), (55, .goto 67)]
theorem h_144_29 : chk (mt 144) 58 29 b_144_29 = true := by decide +kernel
def b_144_58 : List (Nat × Instr) := [(58, .aload 0), (59, .getfield 1104), (62, .getfield 103), (65, .iload 1), (66, .iaload)]
theorem h_144_58 : chk (mt 144) 67 58 b_144_58 = true := by decide +kernel
def b_144_67 : List (Nat × Instr) := [(67, .ireturn)]
theorem h_144_67 : chk (mt 144) 68 67 b_144_67 = true := by decide +kernel
def b_145_0 : List (Nat × Instr) := [(0, .aload 0), (1, .getfield 115), (4, .ifCond .ne 8), (7, .return_)]
theorem h_145_0 : chk (mt 145) 8 0 b_145_0 = true := by decide +kernel
def b_145_8 : List (Nat × Instr) := [(8, .aload 0), (9, .iconst 0), (10, .putfield 115), (13, .aload 0), (14, .getfield 103), (17, .iconst 0), (18, .invokestatic 36), (21, .aload 0), (22, .getfield 104), (25, .iconst (-1)), (26, .invokestatic 36), (29, .aload 0), (30, .getfield 100), (33, .invokevirtual 16), (36, .istore 1), (37, .iconst 0), (38, .istore 2)]
theorem h_145_8 : chk (mt 145) 39 8 b_145_8 = true := by decide +kernel
def b_145_39 : List (Nat × Instr) := [(39, .iload 2), (40, .iload 1), (41, .if_icmp .ge 71), (44, .aload 0), (45, .aload 0), (46, .getfield 100), (49, .iload 2), (50, .invokevirtual 121), (53, .aload 0), (54, .getfield 102), (57, .getfield 709), (60, .iload 2), (61, .iaload), (62, .invokevirtual 146), (65, .iinc 2 1), (68, .goto 39)]
theorem h_145_39 : chk (mt 145) 71 39 b_145_39 = true := by decide +kernel
def b_145_71 : List (Nat × Instr) := [(71, .aload 0), (72, .iconst 0), (73, .putfield 110), (76, .aload 0), (77, .iconst 0), (78, .putfield 111), (81, .iconst 0), (82, .istore 2)]
theorem h_145_71 : chk (mt 145) 83 71 b_145_71 = true := by decide +kernel
def b_145_83 : List (Nat × Instr) := [(83, .iload 2), (84, .iconst 16), (86, .if_icmp .ge 140), (89, .aload 0), (90, .getfield 104), (93, .iload 2), (94, .iaload), (95, .iconst (-1)), (96, .if_icmp .eq 134), (99, .aload 0), (100, .getfield 107), (103, .aload 0), (104, .getfield 110), (107, .iload 2), (108, .iastore), (109, .aload 0), (110, .dup), (111, .getfield 110), (114, .iconst 1), (115, .iadd), (116, .putfield 110), (119, .aload 0), (120, .dup), (121, .getfield 111), (124, .aload 0), (125, .getfield 103), (128, .iload 2), (129, .iaload), (130, .iadd), (131, .putfield 111)]
theorem h_145_83 : chk (mt 145) 134 83 b_145_83 = true := by decide +kernel
def b_145_134 : List (Nat × Instr) := [(134, .iinc 2 1), (137, .goto 83)]
theorem h_145_134 : chk (mt 145) 140 134 b_145_134 = true := by decide +kernel
def b_145_140 : List (Nat × Instr) := [(140, .return_)]
theorem h_145_140 : chk (mt 145) 141 140 b_145_140 = true := by decide +kernel
def b_146_0 : List (Nat × Instr) := [(0, .aload 0), (1, .getfield 102), (4, .getfield 702), (7, .iload 1), (8, .aaload), (9, .getfield 200), (12, .astore 3), (13, .aload 0), (14, .getfield 106), (17, .iconst 0), (18, .invokestatic 36), (21, .aload 0), (22, .getfield 106), (25, .iconst 0), (26, .iconst 1), (27, .iastore), (28, .iconst 0), (29, .istore 4)]
theorem h_146_0 : chk (mt 146) 31 0 b_146_0 = true := by decide +kernel
def b_146_31 : List (Nat × Instr) := [(31, .iload 4), (33, .iconst 10), (35, .if_icmp .ge 178), (38, .aload 3), (39, .iload 2), (40, .iconst 10), (42, .imul), (43, .iload 4), (45, .iadd), (46, .iaload), (47, .istore 5), (49, .iload 5), (51, .iconst (-1)), (52, .if_icmp .ne 58), (55, .goto 172)]
theorem h_146_31 : chk (mt 146) 58 31 b_146_31 = true := by decide +kernel
def b_146_58 : List (Nat × Instr) := [(58, .aload 0), (59, .getfield 103), (62, .iload 5), (64, .dup2), (65, .iaload), (66, .aload 0), (67, .getfield 106), (70, .iload 4), (72, .iaload), (73, .aload 0), (74, .getfield 101), (77, .iconst 1), (78, .iload 5), (80, .iload 1), (81, .invokevirtual 77), (84, .imul), (85, .iadd), (86, .iastore), (87, .aload 0), (88, .getfield 104), (91, .iload 5), (93, .iaload), (94, .iconst (-1)), (95, .if_icmp .ne 116), (98, .aload 0), (99, .getfield 104), (102, .iload 5), (104, .aload 0), (105, .getfield 101), (108, .iconst 2), (109, .iload 5), (111, .iload 1), (112, .invokevirtual 77), (115, .iastore)]
theorem h_146_58 : chk (mt 146) 116 58 b_146_58 = true := by decide +kernel
def b_146_116 : List (Nat × Instr) := [(116, .iload 4), (118, .iconst 1), (119, .iadd), (120, .istore 6)]
theorem h_146_116 : chk (mt 146) 122 116 b_146_116 = true := by decide +kernel
def b_146_122 : List (Nat × Instr) := [(122, .iload 6), (124, .iconst 10), (126, .if_icmp .ge 172), (129, .aload 0), (130, .getfield 106), (133, .iload 6), (135, .dup2), (136, .iaload), (137, .aload 0), (138, .getfield 106), (141, .iload 4), (143, .iaload), (144, .aload 0), (145, .getfield 100), (148, .getfield 307), (151, .getfield 1007), (154, .iload 5), (156, .iconst 10), (158, .imul), (159, .iload 6), (161, .iadd), (162, .iaload), (163, .imul), (164, .iadd), (165, .iastore), (166, .iinc 6 1), (169, .goto 122)]
theorem h_146_122 : chk (mt 146) 172 122 b_146_122 = true := by decide +kernel
def b_146_172 : List (Nat × Instr) := [(172, .iinc 4 1), (175, .goto 31)]
theorem h_146_172 : chk (mt 146) 178 172 b_146_172 = true := by decide +kernel
def b_146_178 : List (Nat × Instr) := [(178, .return_)]
theorem h_146_178 : chk (mt 146) 179 178 b_146_178 = true := by decide +kernel
def b_147_0 : List (Nat × Instr) := [(0, .iload 1), (1, .iconst (-1)), (2, .aload 0), (3, .getfield 1100), (6, .getfield 307), (9, .getfield 1011), (12, .iconst 1), (13, .isub), (14, .invokestatic 14), (17, .ifCond .eq 27), (20, .aload 0), (21, .invokevirtual 91), (24, .ifCond .ne 29)]
theorem h_147_0 : chk (mt 147) 27 0 b_147_0 = true := by decide +kernel
def b_147_27 : List (Nat × Instr) := [(27, .iconst (-1)), (28, .ireturn)]
theorem h_147_27 : chk (mt 147) 29 27 b_147_27 = true := by decide +kernel
def b_147_29 : List (Nat × Instr) := [(29, .aload 0), (30, .getfield 1103), (33, .invokevirtual 120), (36, .aload 0), (37, .getfield 1104), (40, .invokevirtual 145), (43, .aload 0), (44, .getfield 1104), (47, .invokevirtual 148), (50, .iload 1), (51, .iconst (-1)), (52, .if_icmp .ne 65), (55, .aload 0), (56, .getfield 1104), (59, .getfield 112), (62, .goto 74)]
theorem h_147_29 : chk (mt 147) 65 29 b_147_29 = true := by decide +kernel
def b_147_65 : List (Nat × Instr) := [(65, .aload 0), (66, .getfield 1104), (69, .getfield 105), (72, .iload 1), (73, .iaload)]
theorem h_147_65 : chk (mt 147) 74 65 b_147_65 = true := by decide +kernel
def b_147_74 : List (Nat × Instr) := [(74, .ireturn)]
theorem h_147_74 : chk (mt 147) 75 74 b_147_74 = true := by decide +kernel
def b_148_0 : List (Nat × Instr) := [(0, .aload 0), (1, .getfield 116), (4, .ifCond .ne 8), (7, .return_)]
theorem h_148_0 : chk (mt 148) 8 0 b_148_0 = true := by decide +kernel
def b_148_8 : List (Nat × Instr) := [(8, .aload 0), (9, .iconst 0), (10, .putfield 116), (13, .aload 0), (14, .getfield 105), (17, .iconst (-1)), (18, .invokestatic 36), (21, .aload 0), (22, .iconst (-1)), (23, .putfield 112), (26, .aload 0), (27, .getfield 110), (30, .iconst 10), (32, .if_icmp .le 36), (35, .return_)]
theorem h_148_8 : chk (mt 148) 36 8 b_148_8 = true := by decide +kernel
def b_148_36 : List (Nat × Instr) := [(36, .aload 0), (37, .getfield 109), (40, .iconst 0), (41, .invokestatic 36), (44, .aload 0), (45, .aload 0), (46, .getfield 111), (49, .iconst 1), (50, .iadd), (51, .putfield 113), (54, .aload 0), (55, .aload 0), (56, .getfield 100), (59, .getfield 308), (62, .ifCond .ne 69), (65, .iconst 0), (66, .goto 91)]
theorem h_148_36 : chk (mt 148) 69 36 b_148_36 = true := by decide +kernel
def b_148_69 : List (Nat × Instr) := [(69, .aload 0), (70, .getfield 111), (73, .aload 0), (74, .getfield 100), (77, .getfield 308), (80, .iadd), (81, .iconst 1), (82, .isub), (83, .aload 0), (84, .getfield 100), (87, .getfield 308), (90, .idiv)]
theorem h_148_69 : chk (mt 148) 91 69 b_148_69 = true := by decide +kernel
def b_148_91 : List (Nat × Instr) := [(91, .putfield 114), (94, .aload 0), (95, .iconst 1), (96, .invokevirtual 149), (99, .aload 0), (100, .iconst 0), (101, .iconst 0), (102, .invokestatic 151), (105, .aload 0), (106, .getfield 113), (109, .aload 0), (110, .getfield 111), (113, .if_icmp .le 117), (116, .return_)]
theorem h_148_91 : chk (mt 148) 117 91 b_148_91 = true := by decide +kernel
def b_148_117 : List (Nat × Instr) := [(117, .aload 0), (118, .aload 0), (119, .getfield 113), (122, .putfield 112), (125, .aload 0), (126, .aload 0), (127, .getfield 112), (130, .iconst 1), (131, .iadd), (132, .putfield 113), (135, .aload 0), (136, .aload 0), (137, .getfield 112), (140, .putfield 114), (143, .aload 0), (144, .iconst 0), (145, .invokevirtual 149), (148, .aload 0), (149, .iconst 0), (150, .iconst 0), (151, .invokestatic 151), (154, .return_)]
theorem h_148_117 : chk (mt 148) 155 117 b_148_117 = true := by decide +kernel
def b_149_0 : List (Nat × Instr) := [(0, .iconst 1), (1, .istore 2)]
theorem h_149_0 : chk (mt 149) 2 0 b_149_0 = true := by decide +kernel
def b_149_2 : List (Nat × Instr) := [(2, .iload 2), (3, .aload 0), (4, .getfield 110), (7, .if_icmp .ge 79), (10, .aload 0), (11, .getfield 107), (14, .iload 2), (15, .iaload), (16, .istore 3), (17, .iload 2), (18, .istore 4)]
theorem h_149_2 : chk (mt 149) 20 2 b_149_2 = true := by decide +kernel
def b_149_20 : List (Nat × Instr) := [(20, .iload 4), (22, .ifCond .le 65), (25, .aload 0), (26, .iload 3), (27, .aload 0), (28, .getfield 107), (31, .iload 4), (33, .iconst 1), (34, .isub), (35, .iaload), (36, .iload 1), (37, .invokevirtual 150), (40, .ifCond .eq 65), (43, .aload 0), (44, .getfield 107), (47, .iload 4), (49, .aload 0), (50, .getfield 107), (53, .iload 4), (55, .iconst 1), (56, .isub), (57, .iaload), (58, .iastore), (59, .iinc 4 (-1)), (62, .goto 20)]
theorem h_149_20 : chk (mt 149) 65 20 b_149_20 = true := by decide +kernel
def b_149_65 : List (Nat × Instr) := [(65, .aload 0), (66, .getfield 107), (69, .iload 4), (71, .iload 3), (72, .iastore), (73, .iinc 2 1), (76, .goto 2)]
theorem h_149_65 : chk (mt 149) 79 65 b_149_65 = true := by decide +kernel
def b_149_79 : List (Nat × Instr) := [(79, .return_)]
theorem h_149_79 : chk (mt 149) 80 79 b_149_79 = true := by decide +kernel
def b_150_0 : List (Nat × Instr) := [(0, .iload 3), (1, .ifCond .eq 27), (4, .aload 0), (5, .getfield 103), (8, .iload 1), (9, .iaload), (10, .aload 0), (11, .getfield 103), (14, .iload 2), (15, .iaload), (16, .if_icmp .le 23), (19, .iconst 1), (20, .goto 37)]
theorem h_150_0 : chk (mt 150) 23 0 b_150_0 = true := by decide +kernel
def b_150_23 : List (Nat × Instr) := [(23, .iconst 0), (24, .goto 37)]
theorem h_150_23 : chk (mt 150) 27 23 b_150_23 = true := by decide +kernel
def b_150_27 : List (Nat × Instr) := [(27, .iload 1), (28, .iload 2), (29, .if_icmp .ge 36), (32, .iconst 1), (33, .goto 37)]
theorem h_150_27 : chk (mt 150) 36 27 b_150_27 = true := by decide +kernel
def b_150_36 : List (Nat × Instr) := [(36, .iconst 0)]
theorem h_150_36 : chk (mt 150) 37 36 b_150_36 = true := by decide +kernel
def b_150_37 : List (Nat × Instr) := [(37, .ireturn)]
theorem h_150_37 : chk (mt 150) 38 37 b_150_37 = true := by decide +kernel
def b_151_0 : List (Nat × Instr) := [(0, .iload 2), (1, .aload 0), (2, .getfield 113), (5, .if_icmp .ge 19), (8, .aload 0), (9, .getfield 113), (12, .aload 0), (13, .getfield 114), (16, .if_icmp .gt 20)]
theorem h_151_0 : chk (mt 151) 19 0 b_151_0 = true := by decide +kernel
def b_151_19 : List (Nat × Instr) := [(19, .return_)]
theorem h_151_19 : chk (mt 151) 20 19 b_151_19 = true := by decide +kernel
def b_151_20 : List (Nat × Instr) := [(20, .iload 1), (21, .aload 0), (22, .getfield 110), (25, .if_icmp .lt 34), (28, .aload 0), (29, .iload 2), (30, .invokevirtual 152), (33, .return_)]
theorem h_151_20 : chk (mt 151) 34 20 b_151_20 = true := by decide +kernel
def b_151_34 : List (Nat × Instr) := [(34, .aload 0), (35, .getfield 107), (38, .iload 1), (39, .iaload), (40, .istore 3), (41, .iconst 0), (42, .istore 4)]
theorem h_151_34 : chk (mt 151) 44 34 b_151_34 = true := by decide +kernel
def b_151_44 : List (Nat × Instr) := [(44, .iload 4), (46, .aload 0), (47, .getfield 100), (50, .getfield 308), (53, .if_icmp .ge 139), (56, .aload 0), (57, .iload 4), (59, .iload 3), (60, .invokevirtual 153), (63, .ifCond .eq 133), (66, .aload 0), (67, .iload 4), (69, .invokevirtual 154), (72, .ifCond .ne 133), (75, .aload 0), (76, .getfield 108), (79, .iload 1), (80, .iload 4), (82, .iastore), (83, .aload 0), (84, .getfield 109), (87, .iload 4), (89, .dup2), (90, .iaload), (91, .aload 0), (92, .getfield 103), (95, .iload 3), (96, .iaload), (97, .iadd), (98, .iastore), (99, .aload 0), (100, .iload 1), (101, .iconst 1), (102, .iadd), (103, .iload 2), (104, .aload 0), (105, .getfield 109), (108, .iload 4), (110, .iaload), (111, .invokedynamic 2), (114, .invokestatic 151), (117, .aload 0), (118, .getfield 109), (121, .iload 4), (123, .dup2), (124, .iaload), (125, .aload 0), (126, .getfield 103), (129, .iload 3), (130, .iaload), (131, .isub), (132, .iastore)]
theorem h_151_44 : chk (mt 151) 133 44 b_151_44 = true := by decide +kernel
def b_151_133 : List (Nat × Instr) := [(133, .iinc 4 1), (136, .goto 44)]
theorem h_151_133 : chk (mt 151) 139 133 b_151_133 = true := by decide +kernel
def b_151_139 : List (Nat × Instr) := [(139, .return_)]
theorem h_151_139 : chk (mt 151) 140 139 b_151_139 = true := by decide +kernel
def b_152_0 : List (Nat × Instr) := [(0, .aload 0), (1, .iload 1), (2, .putfield 113), (5, .iconst 0), (6, .istore 2)]
theorem h_152_0 : chk (mt 152) 7 0 b_152_0 = true := by decide +kernel
def b_152_7 : List (Nat × Instr) := [(7, .iload 2), (8, .aload 0), (9, .getfield 110), (12, .if_icmp .ge 38), (15, .aload 0), (16, .getfield 105), (19, .aload 0), (20, .getfield 107), (23, .iload 2), (24, .iaload), (25, .aload 0), (26, .getfield 108), (29, .iload 2), (30, .iaload), (31, .iastore), (32, .iinc 2 1), (35, .goto 7)]
theorem h_152_7 : chk (mt 152) 38 7 b_152_7 = true := by decide +kernel
def b_152_38 : List (Nat × Instr) := [(38, .return_)]
theorem h_152_38 : chk (mt 152) 39 38 b_152_38 = true := by decide +kernel
def b_153_0 : List (Nat × Instr) := [(0, .aload 0), (1, .getfield 100), (4, .getfield 303), (7, .iload 1), (8, .iaload), (9, .aload 0), (10, .getfield 104), (13, .iload 2), (14, .iaload), (15, .ishr), (16, .iconst 1), (17, .iand), (18, .iconst 1), (19, .if_icmp .ne 26), (22, .iconst 1), (23, .goto 27)]
theorem h_153_0 : chk (mt 153) 26 0 b_153_0 = true := by decide +kernel
def b_153_26 : List (Nat × Instr) := [(26, .iconst 0)]
theorem h_153_26 : chk (mt 153) 27 26 b_153_26 = true := by decide +kernel
def b_153_27 : List (Nat × Instr) := [(27, .ireturn)]
theorem h_153_27 : chk (mt 153) 28 27 b_153_27 = true := by decide +kernel
def b_154_0 : List (Nat × Instr) := [(0, .iconst 0), (1, .istore 2)]
theorem h_154_0 : chk (mt 154) 2 0 b_154_0 = true := by decide +kernel
def b_154_2 : List (Nat × Instr) := [(2, .iload 2), (3, .iload 1), (4, .if_icmp .ge 51), (7, .aload 0), (8, .getfield 100), (11, .getfield 303), (14, .iload 2), (15, .iaload), (16, .aload 0), (17, .getfield 100), (20, .getfield 303), (23, .iload 1), (24, .iaload), (25, .if_icmp .ne 45), (28, .aload 0), (29, .getfield 109), (32, .iload 2), (33, .iaload), (34, .aload 0), (35, .getfield 109), (38, .iload 1), (39, .iaload), (40, .if_icmp .ne 45), (43, .iconst 1), (44, .ireturn)]
theorem h_154_2 : chk (mt 154) 45 2 b_154_2 = true := by decide +kernel
def b_154_45 : List (Nat × Instr) := [(45, .iinc 2 1), (48, .goto 2)]
theorem h_154_45 : chk (mt 154) 51 45 b_154_45 = true := by decide +kernel
def b_154_51 : List (Nat × Instr) := [(51, .iconst 0), (52, .ireturn)]
theorem h_154_51 : chk (mt 154) 53 51 b_154_51 = true := by decide +kernel
def b_155_0 : List (Nat × Instr) := [(0, .aload 0), (1, .getfield 1106), (4, .iload 1), (5, .iload 2), (6, .iload 3), (7, .iload 4), (9, .iload 5), (11, .iload 6), (13, .invokevirtual 156), (16, .ifCond .ne 25), (19, .aload 0), (20, .iconst (-1)), (21, .invokevirtual 15), (24, .ireturn)]
theorem h_155_0 : chk (mt 155) 25 0 b_155_0 = true := by decide +kernel
def b_155_25 : List (Nat × Instr) := [(25, .aload 0), (26, .getfield 1100), (29, .getfield 309), (32, .iconst 16), (34, .if_icmp .lt 44), (37, .aload 0), (38, .iconst (-5)), (40, .invokevirtual 15), (43, .ireturn)]
theorem h_155_25 : chk (mt 155) 44 25 b_155_25 = true := by decide +kernel
def b_155_44 : List (Nat × Instr) := [(44, .aload 0), (45, .getfield 1105), (48, .invokevirtual 157), (51, .aload 0), (52, .aload 0), (53, .getfield 1106), (56, .iload 1), (57, .iload 2), (58, .iload 3), (59, .iload 4), (61, .iload 5), (63, .iload 6), (65, .invokevirtual 158), (68, .invokevirtual 19), (71, .ireturn)]
theorem h_155_44 : chk (mt 155) 72 44 b_155_44 = true := by decide +kernel
def b_156_0 : List (Nat × Instr) := [(0, .iload 1), (1, .iconst 1), (2, .iconst 99), (4, .invokestatic 14), (7, .ifCond .eq 67), (10, .iload 2), (11, .iconst 0), (12, .iconst 100), (14, .invokestatic 14), (17, .ifCond .eq 67), (20, .iload 3), (21, .iconst 0), (22, .iconst 99), (24, .invokestatic 14), (27, .ifCond .eq 67), (30, .iload 4), (32, .iconst 0), (33, .iconst 3), (34, .invokestatic 14), (37, .ifCond .eq 67), (40, .iload 5), (42, .iconst 0), (43, .iconst 23), (45, .invokestatic 14), (48, .ifCond .eq 67), (51, .iload 6), (53, .iconst 0), (54, .iconst 255), (57, .invokestatic 14), (60, .ifCond .eq 67), (63, .iconst 1), (64, .goto 68)]
theorem h_156_0 : chk (mt 156) 67 0 b_156_0 = true := by decide +kernel
def b_156_67 : List (Nat × Instr) := [(67, .iconst 0)]
theorem h_156_67 : chk (mt 156) 68 67 b_156_67 = true := by decide +kernel
def b_156_68 : List (Nat × Instr) := [(68, .ireturn)]
theorem h_156_68 : chk (mt 156) 69 68 b_156_68 = true := by decide +kernel
def b_157_0 : List (Nat × Instr) := [(0, .aload 0), (1, .iconst 1), (2, .putfield 511), (5, .return_)]
theorem h_157_0 : chk (mt 157) 6 0 b_157_0 = true := by decide +kernel
def b_158_0 : List (Nat × Instr) := [(0, .aload 0), (1, .getfield 900), (4, .getfield 309), (7, .istore 7), (9, .iload 7), (11, .iconst 16), (13, .if_icmp .lt 18), (16, .iconst (-1)), (17, .ireturn)]
theorem h_158_0 : chk (mt 158) 18 0 b_158_0 = true := by decide +kernel
def b_158_18 : List (Nat × Instr) := [(18, .iload 7), (20, .iconst 7), (22, .imul), (23, .istore 8), (25, .aload 0), (26, .getfield 900), (29, .getfield 305), (32, .iload 8), (34, .iconst 0), (35, .iadd), (36, .iload 1), (37, .iastore), (38, .aload 0), (39, .getfield 900), (42, .getfield 305), (45, .iload 8), (47, .iconst 1), (48, .iadd), (49, .iload 2), (50, .iastore), (51, .aload 0), (52, .getfield 900), (55, .getfield 305), (58, .iload 8), (60, .iconst 2), (61, .iadd), (62, .iload 3), (63, .iastore), (64, .aload 0), (65, .getfield 900), (68, .getfield 305), (71, .iload 8), (73, .iconst 3), (74, .iadd), (75, .iload 4), (77, .iastore), (78, .aload 0), (79, .getfield 900), (82, .getfield 305), (85, .iload 8), (87, .iconst 4), (88, .iadd), (89, .iload 5), (91, .iastore), (92, .aload 0), (93, .getfield 900), (96, .getfield 305), (99, .iload 8), (101, .iconst 5), (102, .iadd), (103, .iload 6), (105, .iastore), (106, .aload 0), (107, .getfield 900), (110, .getfield 305), (113, .iload 8), (115, .iconst 6), (117, .iadd), (118, .iconst 1), (119, .iastore), (120, .aload 0), (121, .getfield 900), (124, .iload 7), (126, .iconst 1), (127, .iadd), (128, .putfield 309), (131, .iload 7), (133, .ireturn)]
theorem h_158_18 : chk (mt 158) 134 18 b_158_18 = true := by decide +kernel
def b_159_0 : List (Nat × Instr) := [(0, .iload 1), (1, .iconst 0), (2, .aload 0), (3, .getfield 1100), (6, .getfield 309), (9, .iconst 1), (10, .isub), (11, .invokestatic 14), (14, .ifCond .eq 27), (17, .iload 2), (18, .iconst 0), (19, .iconst 6), (21, .invokestatic 14), (24, .ifCond .ne 29)]
theorem h_159_0 : chk (mt 159) 27 0 b_159_0 = true := by decide +kernel
def b_159_27 : List (Nat × Instr) := [(27, .iconst (-1)), (28, .ireturn)]
theorem h_159_27 : chk (mt 159) 29 27 b_159_27 = true := by decide +kernel
def b_159_29 : List (Nat × Instr) := [(29, .aload 0), (30, .getfield 1100), (33, .getfield 305), (36, .iload 1), (37, .iconst 7), (39, .imul), (40, .iload 2), (41, .iadd), (42, .iaload), (43, .ireturn)]
theorem h_159_29 : chk (mt 159) 44 29 b_159_29 = true := by decide +kernel
def b_160_0 : List (Nat × Instr) := [(0, .aload 0), (1, .getfield 1113), (4, .ifCond .ne 14), (7, .aload 0), (8, .iconst (-6)), (10, .invokevirtual 15), (13, .ireturn)]
theorem h_160_0 : chk (mt 160) 14 0 b_160_0 = true := by decide +kernel
def b_160_14 : List (Nat × Instr) := [(14, .aload 0), (15, .getfield 1113), (18, .iconst 5), (19, .iadd), (20, .iconst 6), (22, .idiv), (23, .istore 1), (24, .aload 0), (25, .getfield 1106), (28, .aload 0), (29, .getfield 1107), (32, .aload 0), (33, .getfield 1113), (36, .invokevirtual 161), (39, .istore 2), (40, .aload 0), (41, .iload 1), (42, .iload 2), (43, .isub), (44, .putfield 1116), (47, .aload 0), (48, .iconst 0), (49, .putfield 1113), (52, .aload 0), (53, .getfield 1105), (56, .invokevirtual 157), (59, .aload 0), (60, .iload 2), (61, .invokevirtual 19), (64, .ireturn)]
theorem h_160_14 : chk (mt 160) 65 14 b_160_14 = true := by decide +kernel
def b_161_0 : List (Nat × Instr) := [(0, .iconst 0), (1, .istore 3), (2, .iconst 0), (3, .istore 4)]
theorem h_161_0 : chk (mt 161) 5 0 b_161_0 = true := by decide +kernel
def b_161_5 : List (Nat × Instr) := [(5, .iload 4), (7, .iconst 6), (9, .iadd), (10, .iload 2), (11, .if_icmp .gt 106), (14, .aload 0), (15, .aload 1), (16, .iload 4), (18, .iaload), (19, .aload 1), (20, .iload 4), (22, .iconst 1), (23, .iadd), (24, .iaload), (25, .aload 1), (26, .iload 4), (28, .iconst 2), (29, .iadd), (30, .iaload), (31, .aload 1), (32, .iload 4), (34, .iconst 3), (35, .iadd), (36, .iaload), (37, .aload 1), (38, .iload 4), (40, .iconst 4), (41, .iadd), (42, .iaload), (43, .aload 1), (44, .iload 4), (46, .iconst 5), (47, .iadd), (48, .iaload), (49, .invokevirtual 156), (52, .ifCond .eq 100), (55, .aload 0), (56, .aload 1), (57, .iload 4), (59, .iaload), (60, .aload 1), (61, .iload 4), (63, .iconst 1), (64, .iadd), (65, .iaload), (66, .aload 1), (67, .iload 4), (69, .iconst 2), (70, .iadd), (71, .iaload), (72, .aload 1), (73, .iload 4), (75, .iconst 3), (76, .iadd), (77, .iaload), (78, .aload 1), (79, .iload 4), (81, .iconst 4), (82, .iadd), (83, .iaload), (84, .aload 1), (85, .iload 4), (87, .iconst 5), (88, .iadd), (89, .iaload), (90, .invokevirtual 158), (93, .iconst (-1)), (94, .if_icmp .eq 100), (97, .iinc 3 1)]
theorem h_161_5 : chk (mt 161) 100 5 b_161_5 = true := by decide +kernel
def b_161_100 : List (Nat × Instr) := [(100, .iinc 4 6), (103, .goto 5)]
theorem h_161_100 : chk (mt 161) 106 100 b_161_100 = true := by decide +kernel
def b_161_106 : List (Nat × Instr) := [(106, .iload 3), (107, .ireturn)]
theorem h_161_106 : chk (mt 161) 108 106 b_161_106 = true := by decide +kernel
def b_162_0 : List (Nat × Instr) := [(0, .aload 0), (1, .getfield 1116), (4, .ireturn)]
theorem h_162_0 : chk (mt 162) 5 0 b_162_0 = true := by decide +kernel
def b_163_0 : List (Nat × Instr) := [(0, .iload 1), (1, .iconst 1), (2, .iconst 1584), (5, .invokestatic 14), (8, .ifCond .eq 42), (11, .iload 2), (12, .iconst 1), (13, .iconst 1584), (16, .invokestatic 14), (19, .ifCond .eq 42), (22, .iload 3), (23, .iconst 0), (24, .iconst 100), (26, .invokestatic 14), (29, .ifCond .eq 42), (32, .iload 4), (34, .iconst 0), (35, .iconst 2), (36, .invokestatic 14), (39, .ifCond .ne 44)]
theorem h_163_0 : chk (mt 163) 42 0 b_163_0 = true := by decide +kernel
def b_163_42 : List (Nat × Instr) := [(42, .iconst (-1)), (43, .ireturn)]
theorem h_163_42 : chk (mt 163) 44 42 b_163_42 = true := by decide +kernel
def b_163_44 : List (Nat × Instr) := [(44, .aload 0), (45, .getfield 1105), (48, .iload 1), (49, .iload 2), (50, .iload 3), (51, .invokevirtual 164), (54, .iload 4), (56, .iconst 2), (57, .if_icmp .ne 68), (60, .aload 0), (61, .getfield 1105), (64, .getfield 512), (67, .ireturn)]
theorem h_163_44 : chk (mt 163) 68 44 b_163_44 = true := by decide +kernel
def b_163_68 : List (Nat × Instr) := [(68, .aload 0), (69, .getfield 1105), (72, .getfield 512), (75, .ifCond .ne 80), (78, .iconst (-1)), (79, .ireturn)]
theorem h_163_68 : chk (mt 163) 80 68 b_163_68 = true := by decide +kernel
def b_163_80 : List (Nat × Instr) := [(80, .iload 4), (82, .ifCond .ne 95), (85, .aload 0), (86, .getfield 1105), (89, .getfield 513), (92, .goto 102)]
theorem h_163_80 : chk (mt 163) 95 80 b_163_80 = true := by decide +kernel
def b_163_95 : List (Nat × Instr) := [(95, .aload 0), (96, .getfield 1105), (99, .getfield 514)]
theorem h_163_95 : chk (mt 163) 102 95 b_163_95 = true := by decide +kernel
def b_163_102 : List (Nat × Instr) := [(102, .ireturn)]
theorem h_163_102 : chk (mt 163) 103 102 b_163_102 = true := by decide +kernel
def b_164_0 : List (Nat × Instr) := [(0, .aload 0), (1, .getfield 511), (4, .ifCond .ne 32), (7, .iload 1), (8, .aload 0), (9, .getfield 508), (12, .if_icmp .ne 32), (15, .iload 2), (16, .aload 0), (17, .getfield 509), (20, .if_icmp .ne 32), (23, .iload 3), (24, .aload 0), (25, .getfield 510), (28, .if_icmp .ne 32), (31, .return_)]
theorem h_164_0 : chk (mt 164) 32 0 b_164_0 = true := by decide +kernel
def b_164_32 : List (Nat × Instr) := [(32, .aload 0), (33, .getfield 511), (36, .ifCond .eq 48), (39, .aload 0), (40, .invokevirtual 165), (43, .aload 0), (44, .iconst 0), (45, .putfield 511)]
theorem h_164_32 : chk (mt 164) 48 32 b_164_32 = true := by decide +kernel
def b_164_48 : List (Nat × Instr) := [(48, .aload 0), (49, .iload 1), (50, .putfield 508), (53, .aload 0), (54, .iload 2), (55, .putfield 509), (58, .aload 0), (59, .iload 3), (60, .putfield 510), (63, .aload 0), (64, .iconst 0), (65, .putfield 512), (68, .aload 0), (69, .iconst 1000000000), (71, .putfield 513), (74, .aload 0), (75, .iconst 0), (76, .putfield 514), (79, .aload 0), (80, .getfield 502), (83, .iconst 1), (84, .aload 0), (85, .getfield 506), (88, .ishl), (89, .iconst 1), (90, .isub), (91, .iaload), (92, .istore 4), (94, .iconst 0), (95, .istore 5)]
theorem h_164_48 : chk (mt 164) 97 48 b_164_48 = true := by decide +kernel
def b_164_97 : List (Nat × Instr) := [(97, .iload 5), (99, .iconst 1), (100, .aload 0), (101, .getfield 507), (104, .ishl), (105, .if_icmp .ge 145), (108, .aload 0), (109, .getfield 504), (112, .iload 5), (114, .iaload), (115, .iload 2), (116, .if_icmp .gt 139), (119, .aload 0), (120, .getfield 504), (123, .iload 5), (125, .iaload), (126, .iload 4), (128, .iadd), (129, .iload 1), (130, .if_icmp .lt 139), (133, .aload 0), (134, .iload 5), (136, .invokevirtual 167)]
theorem h_164_97 : chk (mt 164) 139 97 b_164_97 = true := by decide +kernel
def b_164_139 : List (Nat × Instr) := [(139, .iinc 5 1), (142, .goto 97)]
theorem h_164_139 : chk (mt 164) 145 139 b_164_139 = true := by decide +kernel
def b_164_145 : List (Nat × Instr) := [(145, .return_)]
theorem h_164_145 : chk (mt 164) 146 145 b_164_145 = true := by decide +kernel
def b_165_0 : List (Nat × Instr) := [(0, .iconst 0), (1, .istore 1), (2, .iconst 0), (3, .istore 2)]
theorem h_165_0 : chk (mt 165) 4 0 b_165_0 = true := by decide +kernel
def b_165_4 : List (Nat × Instr) := [(4, .iload 2), (5, .aload 0), (6, .getfield 500), (9, .getfield 309), (12, .if_icmp .ge 50), (15, .aload 0), (16, .getfield 500), (19, .getfield 305), (22, .iload 2), (23, .iconst 7), (25, .imul), (26, .iconst 6), (28, .iadd), (29, .iaload), (30, .iconst 1), (31, .if_icmp .ne 44), (34, .aload 0), (35, .getfield 501), (38, .iload 1), (39, .iload 2), (40, .iastore), (41, .iinc 1 1)]
theorem h_165_4 : chk (mt 165) 44 4 b_165_4 = true := by decide +kernel
def b_165_44 : List (Nat × Instr) := [(44, .iinc 2 1), (47, .goto 4)]
theorem h_165_44 : chk (mt 165) 50 44 b_165_44 = true := by decide +kernel
def b_165_50 : List (Nat × Instr) := [(50, .aload 0), (51, .iload 1), (52, .iconst 8), (54, .invokedynamic 3), (57, .putfield 506), (60, .aload 0), (61, .iload 1), (62, .aload 0), (63, .getfield 506), (66, .isub), (67, .putfield 507), (70, .aload 0), (71, .iconst 0), (72, .aload 0), (73, .getfield 506), (76, .aload 0), (77, .getfield 502), (80, .aload 0), (81, .getfield 503), (84, .invokevirtual 166), (87, .aload 0), (88, .aload 0), (89, .getfield 506), (92, .aload 0), (93, .getfield 507), (96, .aload 0), (97, .getfield 504), (100, .aload 0), (101, .getfield 505), (104, .invokevirtual 166), (107, .return_)]
theorem h_165_50 : chk (mt 165) 108 50 b_165_50 = true := by decide +kernel
def b_166_0 : List (Nat × Instr) := [(0, .aload 3), (1, .iconst 0), (2, .iconst 0), (3, .iastore), (4, .aload 4), (6, .iconst 0), (7, .iconst 0), (8, .iastore), (9, .iconst 0), (10, .istore 5)]
theorem h_166_0 : chk (mt 166) 12 0 b_166_0 = true := by decide +kernel
def b_166_12 : List (Nat × Instr) := [(12, .iload 5), (14, .iload 2), (15, .if_icmp .ge 121), (18, .aload 0), (19, .getfield 501), (22, .iload 1), (23, .iload 5), (25, .iadd), (26, .iaload), (27, .iconst 7), (29, .imul), (30, .istore 6), (32, .aload 0), (33, .getfield 500), (36, .getfield 305), (39, .iload 6), (41, .iconst 0), (42, .iadd), (43, .iaload), (44, .istore 7), (46, .iload 7), (48, .aload 0), (49, .getfield 500), (52, .getfield 305), (55, .iload 6), (57, .iconst 1), (58, .iadd), (59, .iaload), (60, .imul), (61, .istore 8), (63, .iconst 1), (64, .iload 5), (66, .ishl), (67, .istore 9), (69, .iconst 0), (70, .istore 10)]
theorem h_166_12 : chk (mt 166) 72 12 b_166_12 = true := by decide +kernel
def b_166_72 : List (Nat × Instr) := [(72, .iload 10), (74, .iload 9), (76, .if_icmp .ge 115), (79, .aload 3), (80, .iload 9), (82, .iload 10), (84, .iadd), (85, .aload 3), (86, .iload 10), (88, .iaload), (89, .iload 7), (91, .iadd), (92, .iastore), (93, .aload 4), (95, .iload 9), (97, .iload 10), (99, .iadd), (100, .aload 4), (102, .iload 10), (104, .iaload), (105, .iload 8), (107, .iadd), (108, .iastore), (109, .iinc 10 1), (112, .goto 72)]
theorem h_166_72 : chk (mt 166) 115 72 b_166_72 = true := by decide +kernel
def b_166_115 : List (Nat × Instr) := [(115, .iinc 5 1), (118, .goto 12)]
theorem h_166_115 : chk (mt 166) 121 115 b_166_115 = true := by decide +kernel
def b_166_121 : List (Nat × Instr) := [(121, .return_)]
theorem h_166_121 : chk (mt 166) 122 121 b_166_121 = true := by decide +kernel
def b_167_0 : List (Nat × Instr) := [(0, .aload 0), (1, .getfield 508), (4, .aload 0), (5, .getfield 504), (8, .iload 1), (9, .iaload), (10, .isub), (11, .istore 2), (12, .aload 0), (13, .getfield 509), (16, .aload 0), (17, .getfield 504), (20, .iload 1), (21, .iaload), (22, .isub), (23, .istore 3), (24, .aload 0), (25, .getfield 505), (28, .iload 1), (29, .iaload), (30, .aload 0), (31, .getfield 504), (34, .iload 1), (35, .iaload), (36, .aload 0), (37, .getfield 510), (40, .imul), (41, .isub), (42, .istore 4), (44, .iconst 0), (45, .istore 5)]
theorem h_167_0 : chk (mt 167) 47 0 b_167_0 = true := by decide +kernel
def b_167_47 : List (Nat × Instr) := [(47, .iload 5), (49, .iconst 1), (50, .aload 0), (51, .getfield 506), (54, .ishl), (55, .if_icmp .ge 155), (58, .aload 0), (59, .getfield 502), (62, .iload 5), (64, .iaload), (65, .istore 6), (67, .iload 6), (69, .iload 2), (70, .if_icmp .lt 149), (73, .iload 6), (75, .iload 3), (76, .if_icmp .le 82), (79, .goto 149)]
theorem h_167_47 : chk (mt 167) 82 47 b_167_47 = true := by decide +kernel
def b_167_82 : List (Nat × Instr) := [(82, .iload 4), (84, .aload 0), (85, .getfield 503), (88, .iload 5), (90, .iaload), (91, .iadd), (92, .iload 6), (94, .aload 0), (95, .getfield 510), (98, .imul), (99, .isub), (100, .istore 7), (102, .iload 7), (104, .ifCond .lt 149), (107, .aload 0), (108, .dup), (109, .getfield 512), (112, .iconst 1), (113, .iadd), (114, .putfield 512), (117, .iload 7), (119, .aload 0), (120, .getfield 513), (123, .if_icmp .ge 149), (126, .aload 0), (127, .iload 7), (129, .putfield 513), (132, .aload 0), (133, .aload 0), (134, .iload 1), (135, .aload 0), (136, .getfield 506), (139, .ishl), (140, .iload 5), (142, .ior), (143, .invokevirtual 168), (146, .putfield 514)]
theorem h_167_82 : chk (mt 167) 149 82 b_167_82 = true := by decide +kernel
def b_167_149 : List (Nat × Instr) := [(149, .iinc 5 1), (152, .goto 47)]
theorem h_167_149 : chk (mt 167) 155 149 b_167_149 = true := by decide +kernel
def b_167_155 : List (Nat × Instr) := [(155, .return_)]
theorem h_167_155 : chk (mt 167) 156 155 b_167_155 = true := by decide +kernel
def b_168_0 : List (Nat × Instr) := [(0, .iconst 0), (1, .istore 2), (2, .iconst 0), (3, .istore 3)]
theorem h_168_0 : chk (mt 168) 4 0 b_168_0 = true := by decide +kernel
def b_168_4 : List (Nat × Instr) := [(4, .iload 3), (5, .aload 0), (6, .getfield 506), (9, .aload 0), (10, .getfield 507), (13, .iadd), (14, .if_icmp .ge 38), (17, .iload 2), (18, .iload 1), (19, .iload 3), (20, .ishr), (21, .iconst 1), (22, .iand), (23, .aload 0), (24, .getfield 501), (27, .iload 3), (28, .iaload), (29, .ishl), (30, .ior), (31, .istore 2), (32, .iinc 3 1), (35, .goto 4)]
theorem h_168_4 : chk (mt 168) 38 4 b_168_4 = true := by decide +kernel
def b_168_38 : List (Nat × Instr) := [(38, .iload 2), (39, .ireturn)]
theorem h_168_38 : chk (mt 168) 40 38 b_168_38 = true := by decide +kernel
def b_169_0 : List (Nat × Instr) := [(0, .iload 1), (1, .iconst 1), (2, .iconst 16), (4, .invokestatic 14), (7, .ifCond .eq 41), (10, .iload 2), (11, .iconst 0), (12, .iconst 99), (14, .invokestatic 14), (17, .ifCond .eq 41), (20, .iload 3), (21, .iconst 0), (22, .iconst 99), (24, .invokestatic 14), (27, .ifCond .eq 41), (30, .iload 4), (32, .iconst 0), (33, .iconst 99), (35, .invokestatic 14), (38, .ifCond .ne 47)]
theorem h_169_0 : chk (mt 169) 41 0 b_169_0 = true := by decide +kernel
def b_169_41 : List (Nat × Instr) := [(41, .aload 0), (42, .iconst (-1)), (43, .invokevirtual 15), (46, .ireturn)]
theorem h_169_41 : chk (mt 169) 47 41 b_169_41 = true := by decide +kernel
def b_169_47 : List (Nat × Instr) := [(47, .aload 0), (48, .getfield 1105), (51, .invokevirtual 157), (54, .aload 0), (55, .aload 0), (56, .getfield 1106), (59, .iload 1), (60, .iload 2), (61, .iload 3), (62, .iload 4), (64, .invokevirtual 170), (67, .invokevirtual 19), (70, .ireturn)]
theorem h_169_47 : chk (mt 169) 71 47 b_169_47 = true := by decide +kernel
def b_170_0 : List (Nat × Instr) := [(0, .iconst 0), (1, .istore 5), (3, .iconst 0), (4, .istore 6)]
theorem h_170_0 : chk (mt 170) 6 0 b_170_0 = true := by decide +kernel
def b_170_6 : List (Nat × Instr) := [(6, .iload 6), (8, .iload 1), (9, .if_icmp .ge 66), (12, .aload 0), (13, .iload 2), (14, .iload 4), (16, .isub), (17, .iload 2), (18, .iload 3), (19, .isub), (20, .invokevirtual 171), (23, .istore 7), (25, .iload 7), (27, .iconst (-1)), (28, .if_icmp .ne 34), (31, .goto 66)]
theorem h_170_6 : chk (mt 170) 34 6 b_170_6 = true := by decide +kernel
def b_170_34 : List (Nat × Instr) := [(34, .aload 0), (35, .getfield 900), (38, .getfield 305), (41, .iload 7), (43, .iconst 7), (45, .imul), (46, .iconst 6), (48, .iadd), (49, .iconst 0), (50, .iastore), (51, .iload 5), (53, .iconst 1), (54, .iload 7), (56, .ishl), (57, .ior), (58, .istore 5), (60, .iinc 6 1), (63, .goto 6)]
theorem h_170_34 : chk (mt 170) 66 34 b_170_34 = true := by decide +kernel
def b_170_66 : List (Nat × Instr) := [(66, .iload 5), (68, .ireturn)]
theorem h_170_66 : chk (mt 170) 69 66 b_170_66 = true := by decide +kernel
def b_171_0 : List (Nat × Instr) := [(0, .iconst (-1)), (1, .istore 3), (2, .iload 2), (3, .iconst 1), (4, .iadd), (5, .istore 4), (7, .iconst 0), (8, .istore 5)]
theorem h_171_0 : chk (mt 171) 10 0 b_171_0 = true := by decide +kernel
def b_171_10 : List (Nat × Instr) := [(10, .iload 5), (12, .aload 0), (13, .getfield 900), (16, .getfield 309), (19, .if_icmp .ge 85), (22, .aload 0), (23, .getfield 900), (26, .getfield 305), (29, .iload 5), (31, .iconst 7), (33, .imul), (34, .iconst 2), (35, .iadd), (36, .iaload), (37, .istore 6), (39, .aload 0), (40, .getfield 900), (43, .getfield 305), (46, .iload 5), (48, .iconst 7), (50, .imul), (51, .iconst 6), (53, .iadd), (54, .iaload), (55, .iconst 1), (56, .if_icmp .ne 79), (59, .iload 6), (61, .iload 1), (62, .if_icmp .lt 79), (65, .iload 6), (67, .iload 4), (69, .if_icmp .ge 79), (72, .iload 5), (74, .istore 3), (75, .iload 6), (77, .istore 4)]
theorem h_171_10 : chk (mt 171) 79 10 b_171_10 = true := by decide +kernel
def b_171_79 : List (Nat × Instr) := [(79, .iinc 5 1), (82, .goto 10)]
theorem h_171_79 : chk (mt 171) 85 79 b_171_79 = true := by decide +kernel
def b_171_85 : List (Nat × Instr) := [(85, .iload 3), (86, .ireturn)]
theorem h_171_85 : chk (mt 171) 87 85 b_171_85 = true := by decide +kernel
def b_172_0 : List (Nat × Instr) := [(0, .iload 1), (1, .iconst 0), (2, .aload 0), (3, .getfield 1100), (6, .getfield 309), (9, .iconst 1), (10, .isub), (11, .invokestatic 14), (14, .ifCond .ne 24), (17, .aload 0), (18, .iconst (-2)), (20, .invokevirtual 15), (23, .ireturn)]
theorem h_172_0 : chk (mt 172) 24 0 b_172_0 = true := by decide +kernel
def b_172_24 : List (Nat × Instr) := [(24, .iload 1), (25, .iconst 7), (27, .imul), (28, .iconst 6), (30, .iadd), (31, .istore 2), (32, .aload 0), (33, .getfield 1100), (36, .getfield 305), (39, .iload 2), (40, .iaload), (41, .iconst 1), (42, .if_icmp .ne 52), (45, .aload 0), (46, .iconst (-3)), (48, .invokevirtual 15), (51, .ireturn)]
theorem h_172_24 : chk (mt 172) 52 24 b_172_24 = true := by decide +kernel
def b_172_52 : List (Nat × Instr) := [(52, .aload 0), (53, .getfield 1100), (56, .getfield 305), (59, .iload 2), (60, .iconst 1), (61, .iastore), (62, .aload 0), (63, .getfield 1105), (66, .invokevirtual 157), (69, .aload 0), (70, .iconst 0), (71, .invokevirtual 19), (74, .ireturn)]
theorem h_172_52 : chk (mt 172) 75 52 b_172_52 = true := by decide +kernel
def b_173_0 : List (Nat × Instr) := [(0, .iload 1), (1, .iconst 0), (2, .iconst 255), (5, .invokestatic 14), (8, .ifCond .eq 28), (11, .iload 2), (12, .iconst (-1)), (13, .aload 0), (14, .getfield 1100), (17, .getfield 309), (20, .iconst 1), (21, .isub), (22, .invokestatic 14), (25, .ifCond .ne 30)]
theorem h_173_0 : chk (mt 173) 28 0 b_173_0 = true := by decide +kernel
def b_173_28 : List (Nat × Instr) := [(28, .iconst (-1)), (29, .ireturn)]
theorem h_173_28 : chk (mt 173) 30 28 b_173_28 = true := by decide +kernel
def b_173_30 : List (Nat × Instr) := [(30, .iload 2), (31, .iconst (-1)), (32, .if_icmp .ne 46), (35, .aload 0), (36, .getfield 1106), (39, .iload 1), (40, .invokevirtual 174), (43, .goto 55)]
theorem h_173_30 : chk (mt 173) 46 30 b_173_30 = true := by decide +kernel
def b_173_46 : List (Nat × Instr) := [(46, .aload 0), (47, .getfield 1106), (50, .iload 1), (51, .iload 2), (52, .invokevirtual 178)]
theorem h_173_46 : chk (mt 173) 55 46 b_173_46 = true := by decide +kernel
def b_173_55 : List (Nat × Instr) := [(55, .ireturn)]
theorem h_173_55 : chk (mt 173) 56 55 b_173_55 = true := by decide +kernel
def b_174_0 : List (Nat × Instr) := [(0, .aload 0), (1, .iload 1), (2, .invokevirtual 175), (5, .iconst 0), (6, .istore 2), (7, .iconst 0), (8, .istore 3)]
theorem h_174_0 : chk (mt 174) 9 0 b_174_0 = true := by decide +kernel
def b_174_9 : List (Nat × Instr) := [(9, .iload 3), (10, .aload 0), (11, .getfield 900), (14, .getfield 309), (17, .if_icmp .ge 42), (20, .aload 0), (21, .getfield 901), (24, .iload 3), (25, .iaload), (26, .iconst (-1)), (27, .if_icmp .eq 36), (30, .iload 2), (31, .iconst 1), (32, .iload 3), (33, .ishl), (34, .ior), (35, .istore 2)]
theorem h_174_9 : chk (mt 174) 36 9 b_174_9 = true := by decide +kernel
def b_174_36 : List (Nat × Instr) := [(36, .iinc 3 1), (39, .goto 9)]
theorem h_174_36 : chk (mt 174) 42 36 b_174_36 = true := by decide +kernel
def b_174_42 : List (Nat × Instr) := [(42, .iload 2), (43, .ireturn)]
theorem h_174_42 : chk (mt 174) 44 42 b_174_42 = true := by decide +kernel
def b_175_0 : List (Nat × Instr) := [(0, .iconst 0), (1, .istore 2)]
theorem h_175_0 : chk (mt 175) 2 0 b_175_0 = true := by decide +kernel
def b_175_2 : List (Nat × Instr) := [(2, .iload 2), (3, .aload 0), (4, .getfield 900), (7, .getfield 309), (10, .if_icmp .ge 49), (13, .aload 0), (14, .getfield 901), (17, .iload 2), (18, .aload 0), (19, .getfield 900), (22, .getfield 305), (25, .iload 2), (26, .iconst 7), (28, .imul), (29, .iconst 5), (30, .iadd), (31, .iaload), (32, .iload 1), (33, .iand), (34, .ifCond .eq 41), (37, .iconst 0), (38, .goto 42)]
theorem h_175_2 : chk (mt 175) 41 2 b_175_2 = true := by decide +kernel
def b_175_41 : List (Nat × Instr) := [(41, .iconst (-1))]
theorem h_175_41 : chk (mt 175) 42 41 b_175_41 = true := by decide +kernel
def b_175_42 : List (Nat × Instr) := [(42, .iastore), (43, .iinc 2 1), (46, .goto 2)]
theorem h_175_42 : chk (mt 175) 49 42 b_175_42 = true := by decide +kernel
def b_175_49 : List (Nat × Instr) := [(49, .iconst 1), (50, .istore 2), (51, .iconst 1), (52, .istore 3)]
theorem h_175_49 : chk (mt 175) 53 49 b_175_49 = true := by decide +kernel
def b_175_53 : List (Nat × Instr) := [(53, .iload 3), (54, .iconst 16), (56, .if_icmp .ge 125), (59, .iload 2), (60, .ifCond .eq 125), (63, .iconst 0), (64, .istore 2), (65, .iconst 0), (66, .istore 4)]
theorem h_175_53 : chk (mt 175) 68 53 b_175_53 = true := by decide +kernel
def b_175_68 : List (Nat × Instr) := [(68, .iload 4), (70, .aload 0), (71, .getfield 900), (74, .getfield 309), (77, .if_icmp .ge 119), (80, .aload 0), (81, .getfield 901), (84, .iload 4), (86, .iaload), (87, .iconst (-1)), (88, .if_icmp .ne 113), (91, .aload 0), (92, .iload 4), (94, .iload 3), (95, .iconst 1), (96, .isub), (97, .invokevirtual 176), (100, .ifCond .eq 113), (103, .aload 0), (104, .getfield 901), (107, .iload 4), (109, .iload 3), (110, .iastore), (111, .iconst 1), (112, .istore 2)]
theorem h_175_68 : chk (mt 175) 113 68 b_175_68 = true := by decide +kernel
def b_175_113 : List (Nat × Instr) := [(113, .iinc 4 1), (116, .goto 68)]
theorem h_175_113 : chk (mt 175) 119 113 b_175_113 = true := by decide +kernel
def b_175_119 : List (Nat × Instr) := [(119, .iinc 3 1), (122, .goto 53)]
theorem h_175_119 : chk (mt 175) 125 119 b_175_119 = true := by decide +kernel
def b_175_125 : List (Nat × Instr) := [(125, .return_)]
theorem h_175_125 : chk (mt 175) 126 125 b_175_125 = true := by decide +kernel
def b_176_0 : List (Nat × Instr) := [(0, .iconst 0), (1, .istore 3)]
theorem h_176_0 : chk (mt 176) 2 0 b_176_0 = true := by decide +kernel
def b_176_2 : List (Nat × Instr) := [(2, .iload 3), (3, .aload 0), (4, .getfield 900), (7, .getfield 309), (10, .if_icmp .ge 46), (13, .aload 0), (14, .getfield 901), (17, .iload 3), (18, .iaload), (19, .iload 2), (20, .if_icmp .ne 40), (23, .aload 0), (24, .iload 1), (25, .iconst 7), (27, .imul), (28, .iload 3), (29, .iconst 7), (31, .imul), (32, .invokevirtual 177), (35, .ifCond .eq 40), (38, .iconst 1), (39, .ireturn)]
theorem h_176_2 : chk (mt 176) 40 2 b_176_2 = true := by decide +kernel
def b_176_40 : List (Nat × Instr) := [(40, .iinc 3 1), (43, .goto 2)]
theorem h_176_40 : chk (mt 176) 46 40 b_176_40 = true := by decide +kernel
def b_176_46 : List (Nat × Instr) := [(46, .iconst 0), (47, .ireturn)]
theorem h_176_46 : chk (mt 176) 48 46 b_176_46 = true := by decide +kernel
def b_177_0 : List (Nat × Instr) := [(0, .aload 0), (1, .getfield 900), (4, .getfield 305), (7, .astore 3), (8, .aload 3), (9, .iload 1), (10, .iconst 5), (11, .iadd), (12, .iaload), (13, .aload 3), (14, .iload 2), (15, .iconst 5), (16, .iadd), (17, .iaload), (18, .iand), (19, .ifCond .eq 24), (22, .iconst 1), (23, .ireturn)]
theorem h_177_0 : chk (mt 177) 24 0 b_177_0 = true := by decide +kernel
def b_177_24 : List (Nat × Instr) := [(24, .aload 3), (25, .iload 1), (26, .iconst 2), (27, .iadd), (28, .iaload), (29, .aload 3), (30, .iload 2), (31, .iconst 2), (32, .iadd), (33, .iaload), (34, .if_icmp .ne 67), (37, .aload 3), (38, .iload 1), (39, .iconst 3), (40, .iadd), (41, .iaload), (42, .aload 3), (43, .iload 2), (44, .iconst 3), (45, .iadd), (46, .iaload), (47, .if_icmp .ne 67), (50, .aload 3), (51, .iload 1), (52, .iconst 4), (53, .iadd), (54, .iaload), (55, .aload 3), (56, .iload 2), (57, .iconst 4), (58, .iadd), (59, .iaload), (60, .if_icmp .ne 67), (63, .iconst 1), (64, .goto 68)]
theorem h_177_24 : chk (mt 177) 67 24 b_177_24 = true := by decide +kernel
def b_177_67 : List (Nat × Instr) := [(67, .iconst 0)]
theorem h_177_67 : chk (mt 177) 68 67 b_177_67 = true := by decide +kernel
def b_177_68 : List (Nat × Instr) := [(68, .ireturn)]
theorem h_177_68 : chk (mt 177) 69 68 b_177_68 = true := by decide +kernel
def b_178_0 : List (Nat × Instr) := [(0, .aload 0), (1, .iload 1), (2, .invokevirtual 175), (5, .aload 0), (6, .getfield 901), (9, .iload 2), (10, .iaload), (11, .ireturn)]
theorem h_178_0 : chk (mt 178) 12 0 b_178_0 = true := by decide +kernel
def b_179_0 : List (Nat × Instr) := [(0, .iload 1), (1, .iconst 0), (2, .iconst 999), (5, .invokestatic 14), (8, .ifCond .eq 22), (11, .iload 2), (12, .iconst 0), (13, .iconst 999), (16, .invokestatic 14), (19, .ifCond .ne 28)]
theorem h_179_0 : chk (mt 179) 22 0 b_179_0 = true := by decide +kernel
def b_179_22 : List (Nat × Instr) := [(22, .aload 0), (23, .iconst (-1)), (24, .invokevirtual 15), (27, .ireturn)]
theorem h_179_22 : chk (mt 179) 28 22 b_179_22 = true := by decide +kernel
def b_179_28 : List (Nat × Instr) := [(28, .aload 0), (29, .getfield 1100), (32, .getfield 310), (35, .istore 3), (36, .iload 3), (37, .iconst 40), (39, .if_icmp .lt 49), (42, .aload 0), (43, .iconst (-5)), (45, .invokevirtual 15), (48, .ireturn)]
theorem h_179_28 : chk (mt 179) 49 28 b_179_28 = true := by decide +kernel
def b_179_49 : List (Nat × Instr) := [(49, .aload 0), (50, .getfield 1100), (53, .getfield 306), (56, .iload 3), (57, .iload 1), (58, .iload 2), (59, .isub), (60, .iastore), (61, .aload 0), (62, .getfield 1100), (65, .iload 3), (66, .iconst 1), (67, .iadd), (68, .putfield 310), (71, .aload 0), (72, .iload 3), (73, .iconst 1), (74, .iadd), (75, .invokevirtual 19), (78, .ireturn)]
theorem h_179_49 : chk (mt 179) 79 49 b_179_49 = true := by decide +kernel
def b_180_0 : List (Nat × Instr) := [(0, .iload 1), (1, .iconst 0), (2, .iconst 99), (4, .invokestatic 14), (7, .ifCond .eq 30), (10, .iload 2), (11, .iconst 0), (12, .iconst 9999), (15, .invokestatic 14), (18, .ifCond .eq 30), (21, .iload 3), (22, .iconst 0), (23, .iconst 1), (24, .invokestatic 14), (27, .ifCond .ne 32)]
theorem h_180_0 : chk (mt 180) 30 0 b_180_0 = true := by decide +kernel
def b_180_30 : List (Nat × Instr) := [(30, .iconst (-1)), (31, .ireturn)]
theorem h_180_30 : chk (mt 180) 32 30 b_180_30 = true := by decide +kernel
def b_180_32 : List (Nat × Instr) := [(32, .iconst 0), (33, .istore 4), (35, .iconst 0), (36, .istore 5), (38, .iconst (-1)), (39, .istore 6), (41, .iconst 0), (42, .istore 7)]
theorem h_180_32 : chk (mt 180) 44 32 b_180_32 = true := by decide +kernel
def b_180_44 : List (Nat × Instr) := [(44, .iload 7), (46, .aload 0), (47, .getfield 1100), (50, .getfield 310), (53, .if_icmp .ge 108), (56, .iconst 0), (57, .iload 4), (59, .aload 0), (60, .getfield 1100), (63, .getfield 306), (66, .iload 7), (68, .iaload), (69, .iadd), (70, .iload 1), (71, .isub), (72, .invokedynamic 2), (75, .istore 4), (77, .iload 5), (79, .iload 4), (81, .invokedynamic 2), (84, .istore 5), (86, .iload 6), (88, .iconst (-1)), (89, .if_icmp .ne 102), (92, .iload 4), (94, .iload 2), (95, .if_icmp .le 102), (98, .iload 7), (100, .istore 6)]
theorem h_180_44 : chk (mt 180) 102 44 b_180_44 = true := by decide +kernel
def b_180_102 : List (Nat × Instr) := [(102, .iinc 7 1), (105, .goto 44)]
theorem h_180_102 : chk (mt 180) 108 102 b_180_102 = true := by decide +kernel
def b_180_108 : List (Nat × Instr) := [(108, .iload 3), (109, .ifCond .ne 117), (112, .iload 6), (114, .goto 119)]
theorem h_180_108 : chk (mt 180) 117 108 b_180_108 = true := by decide +kernel
def b_180_117 : List (Nat × Instr) := [(117, .iload 5)]
theorem h_180_117 : chk (mt 180) 119 117 b_180_117 = true := by decide +kernel
def b_180_119 : List (Nat × Instr) := [(119, .ireturn)]
theorem h_180_119 : chk (mt 180) 120 119 b_180_119 = true := by decide +kernel
def b_181_0 : List (Nat × Instr) := [(0, .iload 1), (1, .iconst 0), (2, .iconst 1000000), (5, .invokestatic 14), (8, .ifCond .ne 17), (11, .aload 0), (12, .iconst (-1)), (13, .invokevirtual 15), (16, .ireturn)]
theorem h_181_0 : chk (mt 181) 17 0 b_181_0 = true := by decide +kernel
def b_181_17 : List (Nat × Instr) := [(17, .aload 0), (18, .iload 1), (19, .invokevirtual 182), (22, .aload 0), (23, .getfield 1103), (26, .invokevirtual 81), (29, .iconst 0), (30, .istore 2), (31, .iconst 0), (32, .istore 3)]
theorem h_181_17 : chk (mt 181) 33 17 b_181_17 = true := by decide +kernel
def b_181_33 : List (Nat × Instr) := [(33, .iload 3), (34, .iconst 5), (35, .if_icmp .ge 101), (38, .iload 3), (39, .iconst 3), (40, .imul), (41, .istore 4), (43, .aload 0), (44, .getfield 1103), (47, .aload 0), (48, .getfield 1108), (51, .iload 4), (53, .iaload), (54, .aload 0), (55, .getfield 1108), (58, .iload 4), (60, .iconst 1), (61, .iadd), (62, .iaload), (63, .aload 0), (64, .getfield 1108), (67, .iload 4), (69, .iconst 2), (70, .iadd), (71, .iaload), (72, .invokevirtual 92), (75, .istore 5), (77, .iload 5), (79, .iconst (-1)), (80, .if_icmp .ne 90), (83, .aload 0), (84, .iconst (-3)), (86, .invokevirtual 15), (89, .ireturn)]
theorem h_181_33 : chk (mt 181) 90 33 b_181_33 = true := by decide +kernel
def b_181_90 : List (Nat × Instr) := [(90, .iload 2), (91, .iload 5), (93, .iadd), (94, .istore 2), (95, .iinc 3 1), (98, .goto 33)]
theorem h_181_90 : chk (mt 181) 101 90 b_181_90 = true := by decide +kernel
def b_181_101 : List (Nat × Instr) := [(101, .aload 0), (102, .getfield 1108), (105, .iconst 0), (106, .aload 0), (107, .getfield 1109), (110, .iconst 0), (111, .iconst 15), (113, .invokedynamic 0), (116, .aload 0), (117, .iconst 1), (118, .putfield 1117), (121, .aload 0), (122, .iload 2), (123, .invokevirtual 19), (126, .ireturn)]
theorem h_181_101 : chk (mt 181) 127 101 b_181_101 = true := by decide +kernel
def b_182_0 : List (Nat × Instr) := [(0, .iload 1), (1, .istore 2), (2, .iconst 0), (3, .istore 3)]
theorem h_182_0 : chk (mt 182) 4 0 b_182_0 = true := by decide +kernel
def b_182_4 : List (Nat × Instr) := [(4, .iload 3), (5, .iconst 15), (7, .if_icmp .ge 51), (10, .iload 2), (11, .iconst 1103), (14, .imul), (15, .iconst 12345), (18, .iadd), (19, .iconst 1000003), (22, .irem), (23, .istore 2), (24, .aload 0), (25, .getfield 1108), (28, .iload 3), (29, .iload 2), (30, .aload 0), (31, .getfield 1100), (34, .getfield 300), (37, .iload 3), (38, .iconst 3), (39, .irem), (40, .iaload), (41, .iconst 1), (42, .iadd), (43, .irem), (44, .iastore), (45, .iinc 3 1), (48, .goto 4)]
theorem h_182_4 : chk (mt 182) 51 4 b_182_4 = true := by decide +kernel
def b_182_51 : List (Nat × Instr) := [(51, .return_)]
theorem h_182_51 : chk (mt 182) 52 51 b_182_51 = true := by decide +kernel
def b_183_0 : List (Nat × Instr) := [(0, .aload 0), (1, .getfield 1117), (4, .ifCond .eq 25), (7, .iload 1), (8, .iconst 0), (9, .iconst 4), (10, .invokestatic 14), (13, .ifCond .eq 25), (16, .iload 2), (17, .iconst 0), (18, .iconst 2), (19, .invokestatic 14), (22, .ifCond .ne 27)]
theorem h_183_0 : chk (mt 183) 25 0 b_183_0 = true := by decide +kernel
def b_183_25 : List (Nat × Instr) := [(25, .iconst (-1)), (26, .ireturn)]
theorem h_183_25 : chk (mt 183) 27 25 b_183_25 = true := by decide +kernel
def b_183_27 : List (Nat × Instr) := [(27, .aload 0), (28, .getfield 1109), (31, .iload 1), (32, .iconst 3), (33, .imul), (34, .iload 2), (35, .iadd), (36, .iaload), (37, .ireturn)]
theorem h_183_27 : chk (mt 183) 38 27 b_183_27 = true := by decide +kernel
def b_184_0 : List (Nat × Instr) := [(0, .iload 1), (1, .iconst 0), (2, .iconst 1), (3, .invokestatic 14), (6, .ifCond .ne 15), (9, .aload 0), (10, .iconst (-1)), (11, .invokevirtual 15), (14, .ireturn)]
theorem h_184_0 : chk (mt 184) 15 0 b_184_0 = true := by decide +kernel
def b_184_15 : List (Nat × Instr) := [(15, .aload 0), (16, .getfield 1101), (19, .iload 1), (20, .aaload), (21, .astore 2), (22, .aload 2), (23, .ifnonnull 41), (26, .new 3), (29, .dup), (30, .invokespecial 2), (33, .astore 2), (34, .aload 0), (35, .getfield 1101), (38, .iload 1), (39, .aload 2), (40, .aastore)]
theorem h_184_15 : chk (mt 184) 41 15 b_184_15 = true := by decide +kernel
def b_184_41 : List (Nat × Instr) := [(41, .aload 2), (42, .aload 0), (43, .getfield 1100), (46, .invokevirtual 185), (49, .aload 0), (50, .iconst 0), (51, .invokevirtual 19), (54, .ireturn)]
theorem h_184_41 : chk (mt 184) 55 41 b_184_41 = true := by decide +kernel
def b_185_0 : List (Nat × Instr) := [(0, .aload 1), (1, .getfield 300), (4, .iconst 0), (5, .aload 0), (6, .getfield 300), (9, .iconst 0), (10, .aload 0), (11, .getfield 300), (14, .arraylength), (15, .invokedynamic 0), (18, .aload 1), (19, .getfield 301), (22, .iconst 0), (23, .aload 0), (24, .getfield 301), (27, .iconst 0), (28, .aload 0), (29, .getfield 301), (32, .arraylength), (33, .invokedynamic 0), (36, .aload 1), (37, .getfield 302), (40, .iconst 0), (41, .aload 0), (42, .getfield 302), (45, .iconst 0), (46, .aload 0), (47, .getfield 302), (50, .arraylength), (51, .invokedynamic 0), (54, .aload 1), (55, .getfield 303), (58, .iconst 0), (59, .aload 0), (60, .getfield 303), (63, .iconst 0), (64, .aload 0), (65, .getfield 303), (68, .arraylength), (69, .invokedynamic 0), (72, .aload 1), (73, .getfield 304), (76, .iconst 0), (77, .aload 0), (78, .getfield 304), (81, .iconst 0), (82, .aload 0), (83, .getfield 304), (86, .arraylength), (87, .invokedynamic 0), (90, .aload 1), (91, .getfield 305), (94, .iconst 0), (95, .aload 0), (96, .getfield 305), (99, .iconst 0), (100, .aload 0), (101, .getfield 305), (104, .arraylength), (105, .invokedynamic 0), (108, .aload 1), (109, .getfield 306), (112, .iconst 0), (113, .aload 0), (114, .getfield 306), (117, .iconst 0), (118, .aload 0), (119, .getfield 306), (122, .arraylength), (123, .invokedynamic 0), (126, .aload 0), (127, .getfield 307), (130, .aload 1), (131, .getfield 307), (134, .invokevirtual 186), (137, .aload 0), (138, .aload 1), (139, .getfield 308), (142, .putfield 308), (145, .aload 0), (146, .aload 1), (147, .getfield 309), (150, .putfield 309), (153, .aload 0), (154, .aload 1), (155, .getfield 310), (158, .putfield 310), (161, .aload 0), (162, .aload 1), (163, .getfield 311), (166, .putfield 311), (169, .aload 0), (170, .aload 1), (171, .getfield 312), (174, .putfield 312), (177, .return_)]
theorem h_185_0 : chk (mt 185) 178 0 b_185_0 = true := by decide +kernel
def b_186_0 : List (Nat × Instr) := [(0, .aload 1), (1, .getfield 1000), (4, .iconst 0), (5, .aload 0), (6, .getfield 1000), (9, .iconst 0), (10, .aload 1), (11, .getfield 1010), (14, .invokedynamic 0), (17, .aload 1), (18, .getfield 1001), (21, .iconst 0), (22, .aload 0), (23, .getfield 1001), (26, .iconst 0), (27, .aload 1), (28, .getfield 1010), (31, .invokedynamic 0), (34, .aload 1), (35, .getfield 1002), (38, .iconst 0), (39, .aload 0), (40, .getfield 1002), (43, .iconst 0), (44, .aload 1), (45, .getfield 1010), (48, .invokedynamic 0), (51, .aload 1), (52, .getfield 1003), (55, .iconst 0), (56, .aload 0), (57, .getfield 1003), (60, .iconst 0), (61, .aload 1), (62, .getfield 1010), (65, .invokedynamic 0), (68, .aload 1), (69, .getfield 1004), (72, .iconst 0), (73, .aload 0), (74, .getfield 1004), (77, .iconst 0), (78, .aload 1), (79, .getfield 1010), (82, .invokedynamic 0), (85, .aload 1), (86, .getfield 1005), (89, .iconst 0), (90, .aload 0), (91, .getfield 1005), (94, .iconst 0), (95, .aload 1), (96, .getfield 1011), (99, .invokedynamic 0), (102, .aload 1), (103, .getfield 1006), (106, .iconst 0), (107, .aload 0), (108, .getfield 1006), (111, .iconst 0), (112, .aload 1), (113, .getfield 1011), (116, .invokedynamic 0), (119, .aload 1), (120, .getfield 1007), (123, .iconst 0), (124, .aload 0), (125, .getfield 1007), (128, .iconst 0), (129, .aload 0), (130, .getfield 1007), (133, .arraylength), (134, .invokedynamic 0), (137, .aload 1), (138, .getfield 1008), (141, .iconst 0), (142, .aload 0), (143, .getfield 1008), (146, .iconst 0), (147, .aload 1), (148, .getfield 1012), (151, .invokedynamic 0), (154, .aload 1), (155, .getfield 1009), (158, .iconst 0), (159, .aload 0), (160, .getfield 1009), (163, .iconst 0), (164, .aload 1), (165, .getfield 1012), (168, .invokedynamic 0), (171, .aload 0), (172, .aload 1), (173, .getfield 1010), (176, .putfield 1010), (179, .aload 0), (180, .aload 1), (181, .getfield 1011), (184, .putfield 1011), (187, .aload 0), (188, .aload 1), (189, .getfield 1012), (192, .putfield 1012), (195, .aload 0), (196, .aload 1), (197, .getfield 1013), (200, .putfield 1013), (203, .return_)]
theorem h_186_0 : chk (mt 186) 204 0 b_186_0 = true := by decide +kernel
def b_187_0 : List (Nat × Instr) := [(0, .iload 1), (1, .iconst 0), (2, .iconst 1), (3, .invokestatic 14), (6, .ifCond .ne 15), (9, .aload 0), (10, .iconst (-1)), (11, .invokevirtual 15), (14, .ireturn)]
theorem h_187_0 : chk (mt 187) 15 0 b_187_0 = true := by decide +kernel
def b_187_15 : List (Nat × Instr) := [(15, .aload 0), (16, .getfield 1101), (19, .iload 1), (20, .aaload), (21, .astore 2), (22, .aload 2), (23, .ifnonnull 33), (26, .aload 0), (27, .iconst (-2)), (29, .invokevirtual 15), (32, .ireturn)]
theorem h_187_15 : chk (mt 187) 33 15 b_187_15 = true := by decide +kernel
def b_187_33 : List (Nat × Instr) := [(33, .aload 0), (34, .getfield 1100), (37, .aload 2), (38, .invokevirtual 185), (41, .aload 0), (42, .invokevirtual 21), (45, .aload 0), (46, .getfield 1103), (49, .invokevirtual 25), (52, .aload 0), (53, .getfield 1105), (56, .invokevirtual 157), (59, .aload 0), (60, .iconst 0), (61, .invokevirtual 19), (64, .ireturn)]
theorem h_187_33 : chk (mt 187) 65 33 b_187_33 = true := by decide +kernel
def b_188_0 : List (Nat × Instr) := [(0, .iload 1), (1, .iconst 9), (3, .iconst 13), (5, .invokestatic 14), (8, .ifCond .eq 21), (11, .aload 0), (12, .getfield 1110), (15, .iload 1), (16, .iconst 9), (18, .isub), (19, .iaload), (20, .ireturn)]
theorem h_188_0 : chk (mt 188) 21 0 b_188_0 = true := by decide +kernel
def b_188_21 : List (Nat × Instr) := [(21, .iload 1), (22, .tableswitch 147 0 8 #[72, 80, 91, 102, 110, 118, 126, 134, 142])]
theorem h_188_21 : chk (mt 188) 72 21 b_188_21 = true := by decide +kernel
def b_188_72 : List (Nat × Instr) := [(72, .aload 0), (73, .getfield 1100), (76, .invokevirtual 16), (79, .ireturn)]
theorem h_188_72 : chk (mt 188) 80 72 b_188_72 = true := by decide +kernel
def b_188_80 : List (Nat × Instr) := [(80, .aload 0), (81, .getfield 1100), (84, .getfield 307), (87, .getfield 1010), (90, .ireturn)]
theorem h_188_80 : chk (mt 188) 91 80 b_188_80 = true := by decide +kernel
def b_188_91 : List (Nat × Instr) := [(91, .aload 0), (92, .getfield 1100), (95, .getfield 307), (98, .getfield 1011), (101, .ireturn)]
theorem h_188_91 : chk (mt 188) 102 91 b_188_91 = true := by decide +kernel
def b_188_102 : List (Nat × Instr) := [(102, .aload 0), (103, .getfield 1100), (106, .getfield 308), (109, .ireturn)]
theorem h_188_102 : chk (mt 188) 110 102 b_188_102 = true := by decide +kernel
def b_188_110 : List (Nat × Instr) := [(110, .aload 0), (111, .getfield 1106), (114, .invokevirtual 189), (117, .ireturn)]
theorem h_188_110 : chk (mt 188) 118 110 b_188_110 = true := by decide +kernel
def b_188_118 : List (Nat × Instr) := [(118, .aload 0), (119, .getfield 1100), (122, .getfield 309), (125, .ireturn)]
theorem h_188_118 : chk (mt 188) 126 118 b_188_118 = true := by decide +kernel
def b_188_126 : List (Nat × Instr) := [(126, .aload 0), (127, .getfield 1100), (130, .getfield 310), (133, .ireturn)]
theorem h_188_126 : chk (mt 188) 134 126 b_188_126 = true := by decide +kernel
def b_188_134 : List (Nat × Instr) := [(134, .aload 0), (135, .getfield 1100), (138, .invokevirtual 24), (141, .ireturn)]
theorem h_188_134 : chk (mt 188) 142 134 b_188_134 = true := by decide +kernel
def b_188_142 : List (Nat × Instr) := [(142, .aload 0), (143, .getfield 1113), (146, .ireturn)]
theorem h_188_142 : chk (mt 188) 147 142 b_188_142 = true := by decide +kernel
def b_188_147 : List (Nat × Instr) := [(147, .iconst (-1)), (148, .ireturn)]
theorem h_188_147 : chk (mt 188) 149 147 b_188_147 = true := by decide +kernel
def b_189_0 : List (Nat × Instr) := [(0, .iconst 0), (1, .istore 1), (2, .iconst 0), (3, .istore 2)]
theorem h_189_0 : chk (mt 189) 4 0 b_189_0 = true := by decide +kernel
def b_189_4 : List (Nat × Instr) := [(4, .iload 2), (5, .aload 0), (6, .getfield 900), (9, .getfield 309), (12, .if_icmp .ge 39), (15, .iload 1), (16, .aload 0), (17, .getfield 900), (20, .getfield 305), (23, .iload 2), (24, .iconst 7), (26, .imul), (27, .iconst 6), (29, .iadd), (30, .iaload), (31, .iadd), (32, .istore 1), (33, .iinc 2 1), (36, .goto 4)]
theorem h_189_4 : chk (mt 189) 39 4 b_189_4 = true := by decide +kernel
def b_189_39 : List (Nat × Instr) := [(39, .iload 1), (40, .ireturn)]
theorem h_189_39 : chk (mt 189) 41 39 b_189_39 = true := by decide +kernel
def b_190_0 : List (Nat × Instr) := [(0, .aload 0), (1, .getfield 1118), (4, .ireturn)]
theorem h_190_0 : chk (mt 190) 5 0 b_190_0 = true := by decide +kernel
