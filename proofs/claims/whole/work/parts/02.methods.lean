/-! tables: classes, owners, field types, methods, links, each with its place among the words -/
abbrev cls : List vw_C := [(RX0, TX0, 5), (RX1, TX1, 17), (RX2, TX2, 7), (RX3, TX3, 13), (RX4, TX4, 10), (RX5, TX5, 15), (RX6, TX6, 20), (RX7, TX7, 16), (RX8, TX8, 8), (RX9, TX9, 2), (RX10, TX10, 14), (RX11, TX11, 19), (RX12, TX12, 68)]
def onm : List String := ["CutFloor$Asker", "CutFloor$Crew", "CutFloor$Cuttings", "CutFloor$Hall", "CutFloor$Layers", "CutFloor$Mixer", "CutFloor$Offers", "CutFloor$Planner", "CutFloor$Reader", "CutFloor$Stock", "CutFloor$Tree", "CutFloor", "CutFloorModel", "CutFloorLaw", "java/lang/Math", "java/util/Arrays", "java/lang/String", "java/lang/StringLatin1", "java/lang/StringUTF16", "java/lang/System", "java/lang/Object", "jdk/internal/util/Preconditions"]
def ftab : List (List Nat) := [[2, 2, 2, 1, 0], [2, 2, 2, 2, 2, 2, 2, 2, 2, 2, 0, 0, 0, 0, 0, 1, 1], [2, 2, 2, 2, 0, 0, 0], [2, 2, 2, 2, 2, 2, 2, 2, 0, 0, 0, 0, 0], [2, 2, 2, 0, 2, 2, 2, 2, 0, 0], [2, 2, 2, 2, 2, 2, 0, 0, 0, 0, 0, 1, 0, 0, 0], [2, 2, 2, 2, 2, 2, 2, 2, 2, 2, 2, 2, 2, 2, 2, 2, 2, 0, 0, 0], [2, 2, 2, 2, 2, 2, 2, 2, 2, 2, 2, 2, 0, 1, 1, 1], [2, 2, 0, 0, 0, 0, 0, 0], [2, 2], [2, 2, 2, 2, 2, 2, 2, 2, 2, 2, 0, 0, 0, 0], [2, 2, 2, 2, 2, 2, 2, 2, 2, 2, 2, 2, 2, 0, 0, 0, 0, 1, 0], [0, 0, 2, 2, 2, 2, 2, 0, 0, 0, 0, 3, 0, 1, 0, 2, 0, 2, 2, 0, 2, 2, 0, 0, 2, 2, 0, 2, 2, 1, 3, 3, 1, 2, 2, 2, 2, 2, 2, 2, 0, 2, 2, 0, 0, 2, 2, 2, 0, 2, 2, 1, 1, 0, 0, 2, 2, 2, 2, 2, 0, 2, 2, 0, 2, 2, 2, 1]]
abbrev MI : Type := Nat × MethodName × ByteArray × Nat × Option FieldType × Nat × Nat
def me0 : MI := (11, ⟨"CutFloor", "<init>", "()V"⟩, prog_1_method_1_code, 1, none, 0, 2)
def me1 : MI := (20, ⟨"java/lang/Object", "<init>", "()V"⟩, object_method_1_code, 1, none, 0, 2)
def me2 : MI := (3, ⟨"CutFloor$Hall", "<init>", "()V"⟩, prog_5_method_1_code, 1, none, 0, 2)
def me3 : MI := (10, ⟨"CutFloor$Tree", "<init>", "()V"⟩, prog_12_method_1_code, 1, none, 0, 2)
def me4 : MI := (0, ⟨"CutFloor$Asker", "<init>", "(LCutFloor$Hall;)V"⟩, prog_2_method_1_code, 2, none, 1, 2)
def me5 : MI := (7, ⟨"CutFloor$Planner", "<init>", "(LCutFloor$Hall;LCutFloor$Asker;)V"⟩, prog_9_method_1_code, 4, none, 2, 2)
def me6 : MI := (6, ⟨"CutFloor$Offers", "<init>", "()V"⟩, prog_8_method_1_code, 1, none, 0, 2)
def me7 : MI := (4, ⟨"CutFloor$Layers", "<init>", "(LCutFloor$Offers;)V"⟩, prog_6_method_1_code, 2, none, 1, 2)
def me8 : MI := (2, ⟨"CutFloor$Cuttings", "<init>", "()V"⟩, prog_4_method_1_code, 1, none, 0, 2)
def me9 : MI := (1, ⟨"CutFloor$Crew", "<init>", "(LCutFloor$Hall;LCutFloor$Asker;LCutFloor$Planner;)V"⟩, prog_3_method_1_code, 4, none, 3, 2)
def me10 : MI := (5, ⟨"CutFloor$Mixer", "<init>", "(LCutFloor$Hall;)V"⟩, prog_7_method_1_code, 2, none, 1, 2)
def me11 : MI := (9, ⟨"CutFloor$Stock", "<init>", "(LCutFloor$Hall;)V"⟩, prog_11_method_1_code, 2, none, 1, 2)
def me12 : MI := (8, ⟨"CutFloor$Reader", "<init>", "(LCutFloor$Tree;[I)V"⟩, prog_10_method_1_code, 3, none, 2, 2)
def me13 : MI := (11, ⟨"CutFloor", "carcasses", "(II)I"⟩, prog_1_method_2_code, 4, (some .int), 2, 1)
def me14 : MI := (11, ⟨"CutFloor", "within", "(III)Z"⟩, prog_1_method_44_code, 3, (some .boolean), 3, 0)
def me15 : MI := (11, ⟨"CutFloor", "refuse", "(I)I"⟩, prog_1_method_46_code, 3, (some .int), 1, 1)
def me16 : MI := (3, ⟨"CutFloor$Hall", "allCarcasses", "()I"⟩, prog_5_method_3_code, 1, (some .int), 0, 1)
def me17 : MI := (7, ⟨"CutFloor$Planner", "forgetFirst", "()V"⟩, prog_9_method_4_code, 1, none, 0, 1)
def me18 : MI := (1, ⟨"CutFloor$Crew", "forget", "()V"⟩, prog_3_method_2_code, 1, none, 0, 1)
def me19 : MI := (11, ⟨"CutFloor", "allow", "(I)I"⟩, prog_1_method_45_code, 2, (some .int), 1, 1)
def me20 : MI := (11, ⟨"CutFloor", "weighs", "(III)I"⟩, prog_1_method_3_code, 6, (some .int), 3, 1)
def me21 : MI := (11, ⟨"CutFloor", "forgetWays", "()V"⟩, prog_1_method_48_code, 1, none, 0, 1)
def me22 : MI := (7, ⟨"CutFloor$Planner", "forgetWays", "()V"⟩, prog_9_method_2_code, 1, none, 0, 1)
def me23 : MI := (11, ⟨"CutFloor", "put", "(III)I"⟩, prog_1_method_4_code, 6, (some .int), 3, 1)
def me24 : MI := (3, ⟨"CutFloor$Hall", "ordersAboveZero", "()I"⟩, prog_5_method_5_code, 3, (some .int), 0, 1)
def me25 : MI := (7, ⟨"CutFloor$Planner", "forgetPlans", "()V"⟩, prog_9_method_3_code, 1, none, 0, 1)
def me26 : MI := (11, ⟨"CutFloor", "man", "(I)I"⟩, prog_1_method_5_code, 3, (some .int), 1, 1)
def me27 : MI := (11, ⟨"CutFloor", "skills", "(II)I"⟩, prog_1_method_6_code, 4, (some .int), 2, 1)
def me28 : MI := (11, ⟨"CutFloor", "terms", "(II)I"⟩, prog_1_method_7_code, 4, (some .int), 2, 1)
def me29 : MI := (11, ⟨"CutFloor", "feed", "(IIIII)I"⟩, prog_1_method_8_code, 6, (some .int), 5, 1)
def me30 : MI := (11, ⟨"CutFloor", "feedFour", "(I)V"⟩, prog_1_method_47_code, 3, none, 1, 1)
def me31 : MI := (11, ⟨"CutFloor", "end", "(I)I"⟩, prog_1_method_9_code, 2, (some .int), 1, 1)
def me32 : MI := (11, ⟨"CutFloor", "tree", "()I"⟩, prog_1_method_10_code, 2, (some .int), 0, 1)
def me33 : MI := (8, ⟨"CutFloor$Reader", "readTree", "(ILCutFloor$Tree;)I"⟩, prog_10_method_2_code, 4, (some .int), 2, 1)
def me34 : MI := (14, ⟨"java/lang/Math", "min", "(II)I"⟩, prog_16_method_69_code, 2, (some .int), 2, 0)
def me35 : MI := (10, ⟨"CutFloor$Tree", "clear", "()V"⟩, prog_12_method_2_code, 1, none, 0, 1)
def me36 : MI := (15, ⟨"java/util/Arrays", "fill", "([II)V"⟩, prog_21_method_103_code, 4, none, 2, 0)
def me37 : MI := (8, ⟨"CutFloor$Reader", "goOn", "()V"⟩, prog_10_method_18_code, 2, none, 0, 1)
def me38 : MI := (8, ⟨"CutFloor$Reader", "isLetter", "(I)Z"⟩, prog_10_method_19_code, 1, (some .boolean), 1, 0)
def me39 : MI := (8, ⟨"CutFloor$Reader", "isDigit", "(I)Z"⟩, prog_10_method_20_code, 1, (some .boolean), 1, 0)
def me40 : MI := (8, ⟨"CutFloor$Reader", "readClause", "(I)Z"⟩, prog_10_method_3_code, 3, (some .boolean), 1, 1)
def me41 : MI := (8, ⟨"CutFloor$Reader", "isWord", "(Ljava/lang/String;)Z"⟩, prog_10_method_15_code, 3, (some .boolean), 1, 1)
def me42 : MI := (16, ⟨"java/lang/String", "length", "()I"⟩, prog_17_method_54_code, 1, (some .int), 0, 1)
def me43 : MI := (16, ⟨"java/lang/String", "coder", "()B"⟩, prog_17_method_152_code, 1, (some .byte), 0, 1)
def me44 : MI := (16, ⟨"java/lang/String", "charAt", "(I)C"⟩, prog_17_method_56_code, 2, (some .char), 1, 1)
def me45 : MI := (16, ⟨"java/lang/String", "isLatin1", "()Z"⟩, prog_17_method_154_code, 1, (some .boolean), 0, 1)
def me46 : MI := (17, ⟨"java/lang/StringLatin1", "charAt", "([BI)C"⟩, prog_18_method_2_code, 2, (some .char), 2, 0)
def me47 : MI := (16, ⟨"java/lang/String", "checkIndex", "(II)V"⟩, prog_17_method_155_code, 2, none, 2, 0)
def me48 : MI := (21, ⟨"jdk/internal/util/Preconditions", "checkIndex", "(IILjava/util/function/BiFunction;)I"⟩, prog_22_method_11_code, 3, (some .int), 3, 0)
def me49 : MI := (18, ⟨"java/lang/StringUTF16", "charAt", "([BI)C"⟩, prog_19_method_83_code, 2, (some .char), 2, 0)
def me50 : MI := (18, ⟨"java/lang/StringUTF16", "checkIndex", "(I[B)V"⟩, prog_19_method_91_code, 2, none, 2, 0)
def me51 : MI := (18, ⟨"java/lang/StringUTF16", "length", "([B)I"⟩, prog_19_method_6_code, 1, (some .int), 1, 0)
def me52 : MI := (18, ⟨"java/lang/StringUTF16", "getChar", "([BI)C"⟩, prog_19_method_5_code, 2, (some .char), 2, 0)
def me53 : MI := (8, ⟨"CutFloor$Reader", "readCut", "(I)Z"⟩, prog_10_method_4_code, 4, (some .boolean), 1, 1)
def me54 : MI := (8, ⟨"CutFloor$Reader", "isNumber", "(II)Z"⟩, prog_10_method_17_code, 3, (some .boolean), 2, 1)
def me55 : MI := (8, ⟨"CutFloor$Reader", "readPieces", "(I)Z"⟩, prog_10_method_5_code, 3, (some .boolean), 1, 1)
def me56 : MI := (8, ⟨"CutFloor$Reader", "readSum", "(I)Z"⟩, prog_10_method_11_code, 4, (some .boolean), 1, 1)
def me57 : MI := (8, ⟨"CutFloor$Reader", "readTerm", "(I)Z"⟩, prog_10_method_12_code, 4, (some .boolean), 1, 1)
def me58 : MI := (8, ⟨"CutFloor$Reader", "readFactor", "(I)Z"⟩, prog_10_method_13_code, 2, (some .boolean), 1, 1)
def me59 : MI := (8, ⟨"CutFloor$Reader", "isSign", "(C)Z"⟩, prog_10_method_16_code, 2, (some .boolean), 1, 1)
def me60 : MI := (8, ⟨"CutFloor$Reader", "readInnerSum", "(I)Z"⟩, prog_10_method_14_code, 2, (some .boolean), 1, 1)
def me61 : MI := (10, ⟨"CutFloor$Tree", "addStep", "(II)I"⟩, prog_12_method_4_code, 4, (some .int), 2, 1)
def me62 : MI := (8, ⟨"CutFloor$Reader", "readTest", "(I)Z"⟩, prog_10_method_6_code, 4, (some .boolean), 1, 1)
def me63 : MI := (8, ⟨"CutFloor$Reader", "readBoth", "(I)Z"⟩, prog_10_method_7_code, 4, (some .boolean), 1, 1)
def me64 : MI := (8, ⟨"CutFloor$Reader", "readPlain", "(I)Z"⟩, prog_10_method_8_code, 4, (some .boolean), 1, 1)
def me65 : MI := (8, ⟨"CutFloor$Reader", "readInner", "(I)Z"⟩, prog_10_method_9_code, 2, (some .boolean), 1, 1)
def me66 : MI := (8, ⟨"CutFloor$Reader", "readComparison", "(I)Z"⟩, prog_10_method_10_code, 3, (some .boolean), 1, 1)
def me67 : MI := (11, ⟨"CutFloor", "fault", "()I"⟩, prog_1_method_11_code, 1, (some .int), 0, 1)
def me68 : MI := (11, ⟨"CutFloor", "way", "(II)I"⟩, prog_1_method_12_code, 4, (some .int), 2, 1)
def me69 : MI := (11, ⟨"CutFloor", "goes", "(III)I"⟩, prog_1_method_13_code, 4, (some .int), 3, 1)
def me70 : MI := (0, ⟨"CutFloor$Asker", "canBeGone", "(II)Z"⟩, prog_2_method_2_code, 3, (some .boolean), 2, 1)
def me71 : MI := (0, ⟨"CutFloor$Asker", "face", "(II)V"⟩, prog_2_method_4_code, 4, none, 2, 1)
def me72 : MI := (3, ⟨"CutFloor$Hall", "weightOf", "(II)I"⟩, prog_5_method_6_code, 3, (some .int), 2, 1)
def me73 : MI := (0, ⟨"CutFloor$Asker", "holds", "(I)Z"⟩, prog_2_method_5_code, 4, (some .boolean), 1, 1)
def me74 : MI := (0, ⟨"CutFloor$Asker", "reckon", "(LCutFloor$Tree;II)I"⟩, prog_2_method_6_code, 11, (some .int), 3, 1)
def me75 : MI := (14, ⟨"java/lang/Math", "max", "(II)I"⟩, prog_16_method_65_code, 2, (some .int), 2, 0)
def me76 : MI := (0, ⟨"CutFloor$Asker", "joined", "(IJJ)J"⟩, prog_2_method_7_code, 5, (some .long), 3, 0)
def me77 : MI := (0, ⟨"CutFloor$Asker", "latestOf", "(III)I"⟩, prog_2_method_3_code, 6, (some .int), 3, 1)
def me78 : MI := (3, ⟨"CutFloor$Hall", "wasteOf", "(II)I"⟩, prog_5_method_7_code, 5, (some .int), 2, 1)
def me79 : MI := (3, ⟨"CutFloor$Hall", "isOff", "(II)Z"⟩, prog_5_method_8_code, 4, (some .boolean), 2, 1)
def me80 : MI := (11, ⟨"CutFloor", "cuttings", "(I)I"⟩, prog_1_method_14_code, 2, (some .int), 1, 1)
def me81 : MI := (7, ⟨"CutFloor$Planner", "renewCuttings", "()V"⟩, prog_9_method_5_code, 5, none, 0, 1)
def me82 : MI := (2, ⟨"CutFloor$Cuttings", "renew", "(LCutFloor$Tree;I)Z"⟩, prog_4_method_2_code, 3, (some .boolean), 2, 1)
def me83 : MI := (2, ⟨"CutFloor$Cuttings", "choose", "(LCutFloor$Cuttings;LCutFloor$Tree;II)V"⟩, prog_4_method_3_code, 7, none, 4, 0)
def me84 : MI := (2, ⟨"CutFloor$Cuttings", "keep", "()V"⟩, prog_4_method_5_code, 2, none, 0, 1)
def me85 : MI := (10, ⟨"CutFloor$Tree", "piecesInAll", "(I)I"⟩, prog_12_method_5_code, 4, (some .int), 1, 1)
def me86 : MI := (2, ⟨"CutFloor$Cuttings", "bring", "(LCutFloor$Tree;II)V"⟩, prog_4_method_4_code, 5, none, 3, 1)
def me87 : MI := (11, ⟨"CutFloor", "choice", "(III)I"⟩, prog_1_method_15_code, 4, (some .int), 3, 1)
def me88 : MI := (11, ⟨"CutFloor", "isThere", "(III)Z"⟩, prog_1_method_50_code, 5, (some .boolean), 3, 1)
def me89 : MI := (11, ⟨"CutFloor", "left", "(III)I"⟩, prog_1_method_16_code, 4, (some .int), 3, 1)
def me90 : MI := (11, ⟨"CutFloor", "best", "(I)I"⟩, prog_1_method_17_code, 2, (some .int), 1, 1)
def me91 : MI := (11, ⟨"CutFloor", "hasPlan", "()Z"⟩, prog_1_method_49_code, 1, (some .boolean), 0, 1)
def me92 : MI := (7, ⟨"CutFloor$Planner", "bestFor", "(III)I"⟩, prog_9_method_9_code, 5, (some .int), 3, 1)
def me93 : MI := (7, ⟨"CutFloor$Planner", "isPlanned", "(III)Z"⟩, prog_9_method_11_code, 4, (some .boolean), 3, 1)
def me94 : MI := (7, ⟨"CutFloor$Planner", "spot", "(III)I"⟩, prog_9_method_10_code, 3, (some .int), 3, 0)
def me95 : MI := (7, ⟨"CutFloor$Planner", "loadOffers", "()V"⟩, prog_9_method_12_code, 1, none, 0, 1)
def me96 : MI := (6, ⟨"CutFloor$Offers", "load", "(LCutFloor$Hall;[LCutFloor$Cuttings;)V"⟩, prog_8_method_5_code, 4, none, 2, 1)
def me97 : MI := (6, ⟨"CutFloor$Offers", "rate", "(LCutFloor$Hall;)V"⟩, prog_8_method_6_code, 5, none, 1, 1)
def me98 : MI := (6, ⟨"CutFloor$Offers", "spread", "(II[I[I)V"⟩, prog_8_method_7_code, 12, none, 4, 1)
def me99 : MI := (6, ⟨"CutFloor$Offers", "group", "(LCutFloor$Hall;ILCutFloor$Cuttings;)V"⟩, prog_8_method_8_code, 10, none, 3, 1)
def me100 : MI := (6, ⟨"CutFloor$Offers", "fillOf", "(LCutFloor$Cuttings;I)I"⟩, prog_8_method_9_code, 6, (some .int), 2, 1)
def me101 : MI := (6, ⟨"CutFloor$Offers", "gainOf", "(LCutFloor$Hall;LCutFloor$Cuttings;I)I"⟩, prog_8_method_11_code, 5, (some .int), 3, 0)
def me102 : MI := (6, ⟨"CutFloor$Offers", "mostBonus", "(I)I"⟩, prog_8_method_10_code, 4, (some .int), 1, 1)
def me103 : MI := (4, ⟨"CutFloor$Layers", "clear", "()V"⟩, prog_6_method_2_code, 1, none, 0, 1)
def me104 : MI := (7, ⟨"CutFloor$Planner", "solve", "(III)V"⟩, prog_9_method_13_code, 5, none, 3, 1)
def me105 : MI := (7, ⟨"CutFloor$Planner", "layOut", "(III)I"⟩, prog_9_method_14_code, 6, (some .int), 3, 1)
def me106 : MI := (4, ⟨"CutFloor$Layers", "follow", "([II)V"⟩, prog_6_method_3_code, 5, none, 2, 1)
def me107 : MI := (4, ⟨"CutFloor$Layers", "step", "(II)V"⟩, prog_6_method_4_code, 6, none, 2, 1)
def me108 : MI := (4, ⟨"CutFloor$Layers", "grow", "()V"⟩, prog_6_method_9_code, 2, none, 0, 1)
def me109 : MI := (15, ⟨"java/util/Arrays", "copyOf", "([II)[I"⟩, prog_21_method_123_code, 3, (some (.array .int)), 2, 0)
def me110 : MI := (4, ⟨"CutFloor$Layers", "extend", "(IIII)I"⟩, prog_6_method_5_code, 16, (some .int), 4, 1)
def me111 : MI := (6, ⟨"CutFloor$Offers", "join", "(II)I"⟩, prog_8_method_2_code, 4, (some .int), 2, 0)
def me112 : MI := (6, ⟨"CutFloor$Offers", "placeOf", "(I)I"⟩, prog_8_method_3_code, 2, (some .int), 1, 1)
def me113 : MI := (4, ⟨"CutFloor$Layers", "together", "(III)I"⟩, prog_6_method_8_code, 5, (some .int), 3, 0)
def me114 : MI := (14, ⟨"java/lang/Math", "min", "(II)I"⟩, prog_16_method_69_code, 2, (some .int), 2, 0)
def me115 : MI := (4, ⟨"CutFloor$Layers", "finish", "(II)V"⟩, prog_6_method_6_code, 10, none, 2, 1)
def me116 : MI := (6, ⟨"CutFloor$Offers", "bonusOf", "(I)I"⟩, prog_8_method_4_code, 2, (some .int), 1, 1)
def me117 : MI := (7, ⟨"CutFloor$Planner", "bestNow", "()I"⟩, prog_9_method_6_code, 1, (some .int), 0, 1)
def me118 : MI := (7, ⟨"CutFloor$Planner", "plansNow", "()I"⟩, prog_9_method_7_code, 1, (some .int), 0, 1)
def me119 : MI := (11, ⟨"CutFloor", "plan", "(I)I"⟩, prog_1_method_18_code, 2, (some .int), 1, 1)
def me120 : MI := (7, ⟨"CutFloor$Planner", "findFirst", "()V"⟩, prog_9_method_15_code, 6, none, 0, 1)
def me121 : MI := (3, ⟨"CutFloor$Hall", "classOf", "(I)I"⟩, prog_5_method_4_code, 2, (some .int), 1, 1)
def me122 : MI := (7, ⟨"CutFloor$Planner", "firstGroup", "(IIII)I"⟩, prog_9_method_16_code, 8, (some .int), 4, 1)
def me123 : MI := (4, ⟨"CutFloor$Layers", "reaches", "(III)Z"⟩, prog_6_method_7_code, 6, (some .boolean), 3, 1)
def me124 : MI := (11, ⟨"CutFloor", "made", "(II)I"⟩, prog_1_method_19_code, 4, (some .int), 2, 1)
def me125 : MI := (7, ⟨"CutFloor$Planner", "manyInFirst", "(I)I"⟩, prog_9_method_17_code, 5, (some .int), 1, 1)
def me126 : MI := (3, ⟨"CutFloor$Hall", "lacking", "(II)I"⟩, prog_5_method_10_code, 3, (some .int), 2, 1)
def me127 : MI := (11, ⟨"CutFloor", "value", "(I)I"⟩, prog_1_method_20_code, 3, (some .int), 1, 1)
def me128 : MI := (7, ⟨"CutFloor$Planner", "bestWith", "(II)I"⟩, prog_9_method_8_code, 3, (some .int), 2, 1)
def me129 : MI := (11, ⟨"CutFloor", "shorts", "(I)I"⟩, prog_1_method_21_code, 3, (some .int), 1, 1)
def me130 : MI := (11, ⟨"CutFloor", "worth", "(I)I"⟩, prog_1_method_22_code, 2, (some .int), 1, 1)
def me131 : MI := (7, ⟨"CutFloor$Planner", "worthOf", "(I)I"⟩, prog_9_method_18_code, 5, (some .int), 1, 1)
def me132 : MI := (7, ⟨"CutFloor$Planner", "mostOf", "(I)I"⟩, prog_9_method_19_code, 6, (some .int), 1, 1)
def me133 : MI := (11, ⟨"CutFloor", "change", "(II)I"⟩, prog_1_method_23_code, 3, (some .int), 2, 1)
def me134 : MI := (7, ⟨"CutFloor$Planner", "findChange", "(I)V"⟩, prog_9_method_20_code, 6, none, 1, 1)
def me135 : MI := (7, ⟨"CutFloor$Planner", "groupInFirst", "(I)I"⟩, prog_9_method_21_code, 2, (some .int), 1, 1)
def me136 : MI := (11, ⟨"CutFloor", "give", "(II)I"⟩, prog_1_method_24_code, 4, (some .int), 2, 1)
def me137 : MI := (11, ⟨"CutFloor", "given", "(I)I"⟩, prog_1_method_25_code, 2, (some .int), 1, 1)
def me138 : MI := (7, ⟨"CutFloor$Planner", "toldBrings", "()I"⟩, prog_9_method_22_code, 3, (some .int), 0, 1)
def me139 : MI := (7, ⟨"CutFloor$Planner", "manyTold", "(I)I"⟩, prog_9_method_25_code, 5, (some .int), 1, 1)
def me140 : MI := (7, ⟨"CutFloor$Planner", "toldCutting", "(I)I"⟩, prog_9_method_26_code, 3, (some .int), 1, 1)
def me141 : MI := (3, ⟨"CutFloor$Hall", "broughtBy", "(II)I"⟩, prog_5_method_9_code, 4, (some .int), 2, 1)
def me142 : MI := (7, ⟨"CutFloor$Planner", "toldOtherwise", "()I"⟩, prog_9_method_24_code, 4, (some .int), 0, 1)
def me143 : MI := (7, ⟨"CutFloor$Planner", "toldLacks", "()I"⟩, prog_9_method_23_code, 3, (some .int), 0, 1)
def me144 : MI := (11, ⟨"CutFloor", "task", "(I)I"⟩, prog_1_method_26_code, 2, (some .int), 1, 1)
def me145 : MI := (1, ⟨"CutFloor$Crew", "listTasks", "()V"⟩, prog_3_method_3_code, 3, none, 0, 1)
def me146 : MI := (1, ⟨"CutFloor$Crew", "addCarcass", "(II)V"⟩, prog_3_method_4_code, 7, none, 2, 1)
def me147 : MI := (11, ⟨"CutFloor", "share", "(I)I"⟩, prog_1_method_27_code, 2, (some .int), 1, 1)
def me148 : MI := (1, ⟨"CutFloor$Crew", "shareTasks", "()V"⟩, prog_3_method_5_code, 1, none, 0, 1)
def me149 : MI := (1, ⟨"CutFloor$Crew", "sortTasks", "(Z)V"⟩, prog_3_method_6_code, 5, none, 1, 1)
def me150 : MI := (1, ⟨"CutFloor$Crew", "isAhead", "(IIZ)Z"⟩, prog_3_method_7_code, 4, (some .boolean), 3, 1)
def me151 : MI := (1, ⟨"CutFloor$Crew", "tryTasks", "(LCutFloor$Crew;II)V"⟩, prog_3_method_8_code, 5, none, 3, 0)
def me152 : MI := (1, ⟨"CutFloor$Crew", "keepTried", "(I)V"⟩, prog_3_method_9_code, 3, none, 1, 1)
def me153 : MI := (1, ⟨"CutFloor$Crew", "canDo", "(II)Z"⟩, prog_3_method_10_code, 3, (some .boolean), 2, 1)
def me154 : MI := (1, ⟨"CutFloor$Crew", "isLikeEarlier", "(I)Z"⟩, prog_3_method_11_code, 3, (some .boolean), 1, 1)
def me155 : MI := (11, ⟨"CutFloor", "box", "(IIIIII)I"⟩, prog_1_method_28_code, 7, (some .int), 6, 1)
def me156 : MI := (9, ⟨"CutFloor$Stock", "canBe", "(IIIIII)Z"⟩, prog_11_method_2_code, 7, (some .boolean), 6, 1)
def me157 : MI := (5, ⟨"CutFloor$Mixer", "forget", "()V"⟩, prog_7_method_2_code, 1, none, 0, 1)
def me158 : MI := (9, ⟨"CutFloor$Stock", "store", "(IIIIII)I"⟩, prog_11_method_3_code, 9, (some .int), 6, 1)
def me159 : MI := (11, ⟨"CutFloor", "of", "(II)I"⟩, prog_1_method_29_code, 3, (some .int), 2, 1)
def me160 : MI := (11, ⟨"CutFloor", "row", "()I"⟩, prog_1_method_30_code, 3, (some .int), 0, 1)
def me161 : MI := (9, ⟨"CutFloor$Stock", "storeRow", "([II)I"⟩, prog_11_method_4_code, 5, (some .int), 2, 1)
def me162 : MI := (11, ⟨"CutFloor", "spoilt", "()I"⟩, prog_1_method_31_code, 1, (some .int), 0, 1)
def me163 : MI := (11, ⟨"CutFloor", "mix", "(IIII)I"⟩, prog_1_method_32_code, 5, (some .int), 4, 1)
def me164 : MI := (5, ⟨"CutFloor$Mixer", "seek", "(III)V"⟩, prog_7_method_3_code, 6, none, 3, 1)
def me165 : MI := (5, ⟨"CutFloor$Mixer", "listBoxes", "()V"⟩, prog_7_method_5_code, 3, none, 0, 1)
def me166 : MI := (5, ⟨"CutFloor$Mixer", "addUp", "(II[I[I)V"⟩, prog_7_method_6_code, 11, none, 4, 1)
def me167 : MI := (5, ⟨"CutFloor$Mixer", "seekWith", "(I)V"⟩, prog_7_method_4_code, 8, none, 1, 1)
def me168 : MI := (5, ⟨"CutFloor$Mixer", "bitsOf", "(I)I"⟩, prog_7_method_7_code, 4, (some .int), 1, 1)
def me169 : MI := (11, ⟨"CutFloor", "send", "(IIII)I"⟩, prog_1_method_33_code, 5, (some .int), 4, 1)
def me170 : MI := (9, ⟨"CutFloor$Stock", "takeOldest", "(IIII)I"⟩, prog_11_method_6_code, 8, (some .int), 4, 1)
def me171 : MI := (9, ⟨"CutFloor$Stock", "oldest", "(II)I"⟩, prog_11_method_7_code, 7, (some .int), 2, 1)
def me172 : MI := (11, ⟨"CutFloor", "again", "(I)I"⟩, prog_1_method_34_code, 3, (some .int), 1, 1)
def me173 : MI := (11, ⟨"CutFloor", "recall", "(II)I"⟩, prog_1_method_35_code, 3, (some .int), 2, 1)
def me174 : MI := (9, ⟨"CutFloor$Stock", "recalledBits", "(I)I"⟩, prog_11_method_8_code, 4, (some .int), 1, 1)
def me175 : MI := (9, ⟨"CutFloor$Stock", "findRounds", "(I)V"⟩, prog_11_method_10_code, 5, none, 1, 1)
def me176 : MI := (9, ⟨"CutFloor$Stock", "touchesRound", "(II)Z"⟩, prog_11_method_11_code, 4, (some .boolean), 2, 1)
def me177 : MI := (9, ⟨"CutFloor$Stock", "touch", "(II)Z"⟩, prog_11_method_12_code, 4, (some .boolean), 2, 1)
def me178 : MI := (9, ⟨"CutFloor$Stock", "recallRound", "(II)I"⟩, prog_11_method_9_code, 3, (some .int), 2, 1)
def me179 : MI := (11, ⟨"CutFloor", "yields", "(II)I"⟩, prog_1_method_36_code, 4, (some .int), 2, 1)
def me180 : MI := (11, ⟨"CutFloor", "drift", "(III)I"⟩, prog_1_method_37_code, 8, (some .int), 3, 1)
def me181 : MI := (11, ⟨"CutFloor", "week", "(I)I"⟩, prog_1_method_38_code, 6, (some .int), 1, 1)
def me182 : MI := (11, ⟨"CutFloor", "drawWeek", "(I)V"⟩, prog_1_method_51_code, 4, none, 1, 1)
def me183 : MI := (11, ⟨"CutFloor", "came", "(II)I"⟩, prog_1_method_39_code, 3, (some .int), 2, 1)
def me184 : MI := (11, ⟨"CutFloor", "image", "(I)I"⟩, prog_1_method_40_code, 3, (some .int), 1, 1)
def me185 : MI := (3, ⟨"CutFloor$Hall", "copyFrom", "(LCutFloor$Hall;)V"⟩, prog_5_method_2_code, 2, none, 1, 1)
def me186 : MI := (10, ⟨"CutFloor$Tree", "copyFrom", "(LCutFloor$Tree;)V"⟩, prog_12_method_3_code, 2, none, 1, 1)
def me187 : MI := (11, ⟨"CutFloor", "back", "(I)I"⟩, prog_1_method_41_code, 3, (some .int), 1, 1)
def me188 : MI := (11, ⟨"CutFloor", "count", "(I)I"⟩, prog_1_method_42_code, 2, (some .int), 1, 1)
def me189 : MI := (9, ⟨"CutFloor$Stock", "boxesThere", "()I"⟩, prog_11_method_5_code, 3, (some .int), 0, 1)
def me190 : MI := (11, ⟨"CutFloor", "status", "()I"⟩, prog_1_method_43_code, 1, (some .int), 0, 1)
def me191 : MI := (12, ⟨"CutFloorModel", "<init>", "()V"⟩, prog_14_method_1_code, 1, none, 0, 2)
def me192 : MI := (12, ⟨"CutFloorModel", "image", "(I)I"⟩, prog_14_method_8_code, 3, (some .int), 1, 1)
def me193 : MI := (12, ⟨"CutFloorModel", "in", "(JJJ)Z"⟩, prog_14_method_3_code, 6, (some .boolean), 3, 0)
def me194 : MI := (12, ⟨"CutFloorModel", "tell", "(I)I"⟩, prog_14_method_5_code, 2, (some .int), 1, 1)
def me195 : MI := (12, ⟨"CutFloorModel", "back", "(I)I"⟩, prog_14_method_9_code, 3, (some .int), 1, 1)
def me196 : MI := (12, ⟨"CutFloorModel", "carcasses", "(II)I"⟩, prog_14_method_13_code, 3, (some .int), 2, 1)
def me197 : MI := (12, ⟨"CutFloorModel", "isClass", "(I)Z"⟩, prog_14_method_10_code, 1, (some .boolean), 1, 0)
def me198 : MI := (12, ⟨"CutFloorModel", "allCarcasses", "()I"⟩, prog_14_method_12_code, 1, (some .int), 0, 1)
def me199 : MI := (12, ⟨"CutFloorModel", "become", "(II)I"⟩, prog_14_method_7_code, 4, (some .int), 2, 1)
def me200 : MI := (12, ⟨"CutFloorModel", "was", "(I)I"⟩, prog_14_method_6_code, 2, (some .int), 1, 1)
def me201 : MI := (12, ⟨"CutFloorModel", "weighs", "(III)I"⟩, prog_14_method_14_code, 4, (some .int), 3, 1)
def me202 : MI := (12, ⟨"CutFloorModel", "isPart", "(I)Z"⟩, prog_14_method_11_code, 1, (some .boolean), 1, 0)
def me203 : MI := (12, ⟨"CutFloorModel", "put", "(III)I"⟩, prog_14_method_16_code, 4, (some .int), 3, 1)
def me204 : MI := (12, ⟨"CutFloorModel", "nOrders", "()I"⟩, prog_14_method_15_code, 3, (some .int), 0, 1)
def me205 : MI := (12, ⟨"CutFloorModel", "man", "(I)I"⟩, prog_14_method_17_code, 2, (some .int), 1, 1)
def me206 : MI := (12, ⟨"CutFloorModel", "skills", "(II)I"⟩, prog_14_method_18_code, 3, (some .int), 2, 1)
def me207 : MI := (12, ⟨"CutFloorModel", "terms", "(II)I"⟩, prog_14_method_19_code, 3, (some .int), 2, 1)
def me208 : MI := (12, ⟨"CutFloorModel", "feed", "(IIIII)I"⟩, prog_14_method_21_code, 6, (some .int), 5, 1)
def me209 : MI := (12, ⟨"CutFloorModel", "four", "(I)V"⟩, prog_14_method_20_code, 3, none, 1, 1)
def me210 : MI := (12, ⟨"CutFloorModel", "end", "(I)I"⟩, prog_14_method_22_code, 2, (some .int), 1, 1)
def me211 : MI := (12, ⟨"CutFloorModel", "fault", "()I"⟩, prog_14_method_31_code, 1, (some .int), 0, 1)
def me212 : MI := (12, ⟨"CutFloorModel", "tree", "()I"⟩, prog_14_method_49_code, 2, (some .int), 0, 1)
def me213 : MI := (12, ⟨"CutFloorModel", "begin", "()V"⟩, prog_14_method_25_code, 1, none, 0, 1)
def me214 : MI := (12, ⟨"CutFloorModel", "next", "()V"⟩, prog_14_method_26_code, 1, none, 0, 1)
def me215 : MI := (12, ⟨"CutFloorModel", "isSmall", "(I)Z"⟩, prog_14_method_23_code, 1, (some .boolean), 1, 0)
def me216 : MI := (12, ⟨"CutFloorModel", "isDigit", "(I)Z"⟩, prog_14_method_24_code, 1, (some .boolean), 1, 0)
def me217 : MI := (12, ⟨"CutFloorModel", "readClause", "()V"⟩, prog_14_method_48_code, 4, none, 0, 1)
def me218 : MI := (12, ⟨"CutFloorModel", "isWord", "(J)Z"⟩, prog_14_method_27_code, 3, (some .boolean), 1, 1)
def me219 : MI := (12, ⟨"CutFloorModel", "must", "(Z)V"⟩, prog_14_method_29_code, 2, none, 1, 1)
def me220 : MI := (12, ⟨"CutFloorModel", "readCut", "()V"⟩, prog_14_method_47_code, 3, none, 0, 1)
def me221 : MI := (12, ⟨"CutFloorModel", "number", "(JJ)I"⟩, prog_14_method_30_code, 6, (some .int), 2, 1)
def me222 : MI := (12, ⟨"CutFloorModel", "readPieces", "(II)V"⟩, prog_14_method_46_code, 5, none, 2, 1)
def me223 : MI := (12, ⟨"CutFloorModel", "readExpression", "(Z)V"⟩, prog_14_method_45_code, 3, none, 1, 1)
def me224 : MI := (12, ⟨"CutFloorModel", "readPlain", "()I"⟩, prog_14_method_42_code, 1, (some .int), 0, 1)
def me225 : MI := (12, ⟨"CutFloorModel", "push", "(II)V"⟩, prog_14_method_33_code, 3, none, 2, 1)
def me226 : MI := (12, ⟨"CutFloorModel", "isSign", "(I)Z"⟩, prog_14_method_28_code, 2, (some .boolean), 1, 1)
def me227 : MI := (12, ⟨"CutFloorModel", "openBracket", "(I)V"⟩, prog_14_method_39_code, 2, none, 1, 1)
def me228 : MI := (12, ⟨"CutFloorModel", "readPart", "()I"⟩, prog_14_method_41_code, 3, (some .int), 0, 1)
def me229 : MI := (12, ⟨"CutFloorModel", "partAt", "()I"⟩, prog_14_method_38_code, 3, (some .int), 0, 1)
def me230 : MI := (12, ⟨"CutFloorModel", "leaf", "(ZII)V"⟩, prog_14_method_40_code, 4, none, 3, 1)
def me231 : MI := (12, ⟨"CutFloorModel", "emit", "(II)V"⟩, prog_14_method_32_code, 3, none, 2, 1)
def me232 : MI := (12, ⟨"CutFloorModel", "behindSum", "(Z)I"⟩, prog_14_method_43_code, 4, (some .int), 1, 1)
def me233 : MI := (12, ⟨"CutFloorModel", "binds", "(I)I"⟩, prog_14_method_34_code, 1, (some .int), 1, 0)
def me234 : MI := (12, ⟨"CutFloorModel", "settle", "(I)V"⟩, prog_14_method_35_code, 2, none, 1, 1)
def me235 : MI := (12, ⟨"CutFloorModel", "inner", "()I"⟩, prog_14_method_36_code, 3, (some .int), 0, 1)
def me236 : MI := (12, ⟨"CutFloorModel", "isCompared", "()Z"⟩, prog_14_method_37_code, 2, (some .boolean), 0, 1)
def me237 : MI := (12, ⟨"CutFloorModel", "behindTest", "()I"⟩, prog_14_method_44_code, 2, (some .int), 0, 1)
def me238 : MI := (12, ⟨"CutFloorModel", "way", "(II)I"⟩, prog_14_method_62_code, 3, (some .int), 2, 1)
def me239 : MI := (12, ⟨"CutFloorModel", "isWay", "(I)Z"⟩, prog_14_method_61_code, 2, (some .boolean), 1, 1)
def me240 : MI := (12, ⟨"CutFloorModel", "partOf", "(I)I"⟩, prog_14_method_53_code, 2, (some .int), 1, 1)
def me241 : MI := (12, ⟨"CutFloorModel", "pieces", "(II)I"⟩, prog_14_method_54_code, 3, (some .int), 2, 1)
def me242 : MI := (12, ⟨"CutFloorModel", "goes", "(III)I"⟩, prog_14_method_63_code, 5, (some .int), 3, 1)
def me243 : MI := (12, ⟨"CutFloorModel", "wastes", "(II)I"⟩, prog_14_method_60_code, 5, (some .int), 2, 1)
def me244 : MI := (12, ⟨"CutFloorModel", "weight", "(II)I"⟩, prog_14_method_55_code, 3, (some .int), 2, 1)
def me245 : MI := (12, ⟨"CutFloorModel", "canGo", "(II)Z"⟩, prog_14_method_57_code, 3, (some .boolean), 2, 1)
def me246 : MI := (12, ⟨"CutFloorModel", "tells", "(IIIII)I"⟩, prog_14_method_56_code, 11, (some .int), 5, 1)
def me247 : MI := (12, ⟨"CutFloorModel", "isSo", "(I)Z"⟩, prog_14_method_52_code, 2, (some .boolean), 1, 1)
def me248 : MI := (12, ⟨"CutFloorModel", "reckonAll", "(II)V"⟩, prog_14_method_51_code, 7, none, 2, 1)
def me249 : MI := (12, ⟨"CutFloorModel", "reckon", "(IJJ)J"⟩, prog_14_method_50_code, 6, (some .long), 3, 1)
def me250 : MI := (12, ⟨"CutFloorModel", "minutes", "(II)I"⟩, prog_14_method_58_code, 3, (some .int), 2, 1)
def me251 : MI := (12, ⟨"CutFloorModel", "skill", "(II)I"⟩, prog_14_method_59_code, 3, (some .int), 2, 1)
def me252 : MI := (12, ⟨"CutFloorModel", "cuttings", "(I)I"⟩, prog_14_method_68_code, 2, (some .int), 1, 1)
def me253 : MI := (12, ⟨"CutFloorModel", "findCuttings", "()V"⟩, prog_14_method_64_code, 3, none, 0, 1)
def me254 : MI := (12, ⟨"CutFloorModel", "findOf", "(I)V"⟩, prog_14_method_65_code, 3, none, 1, 1)
def me255 : MI := (12, ⟨"CutFloorModel", "take", "(I)V"⟩, prog_14_method_67_code, 4, none, 1, 1)
def me256 : MI := (12, ⟨"CutFloorModel", "goesOn", "(II)Z"⟩, prog_14_method_66_code, 9, (some .boolean), 2, 1)
def me257 : MI := (12, ⟨"CutFloorModel", "choice", "(III)I"⟩, prog_14_method_70_code, 4, (some .int), 3, 1)
def me258 : MI := (12, ⟨"CutFloorModel", "isCutting", "(II)Z"⟩, prog_14_method_69_code, 3, (some .boolean), 2, 1)
def me259 : MI := (12, ⟨"CutFloorModel", "left", "(III)I"⟩, prog_14_method_71_code, 4, (some .int), 3, 1)
def me260 : MI := (12, ⟨"CutFloorModel", "best", "(I)I"⟩, prog_14_method_82_code, 2, (some .int), 1, 1)
def me261 : MI := (12, ⟨"CutFloorModel", "findPlan", "()Z"⟩, prog_14_method_80_code, 5, (some .boolean), 0, 1)
def me262 : MI := (12, ⟨"CutFloorModel", "lay", "(III)Z"⟩, prog_14_method_72_code, 7, (some .boolean), 3, 1)
def me263 : MI := (12, ⟨"CutFloorModel", "reckon", "()I"⟩, prog_14_method_78_code, 4, (some .int), 0, 1)
def me264 : MI := (12, ⟨"CutFloorModel", "layOrders", "()V"⟩, prog_14_method_73_code, 2, none, 0, 1)
def me265 : MI := (12, ⟨"CutFloorModel", "split", "(I)V"⟩, prog_14_method_74_code, 5, none, 1, 1)
def me266 : MI := (12, ⟨"CutFloorModel", "behind", "(II)I"⟩, prog_14_method_75_code, 8, (some .int), 2, 1)
def me267 : MI := (12, ⟨"CutFloorModel", "reckonState", "(II)V"⟩, prog_14_method_79_code, 9, none, 2, 1)
def me268 : MI := (12, ⟨"CutFloorModel", "gain", "(II)I"⟩, prog_14_method_77_code, 3, (some .int), 2, 1)
def me269 : MI := (12, ⟨"CutFloorModel", "over", "(II)I"⟩, prog_14_method_76_code, 5, (some .int), 2, 1)
def me270 : MI := (12, ⟨"CutFloorModel", "plan", "(I)I"⟩, prog_14_method_83_code, 2, (some .int), 1, 1)
def me271 : MI := (12, ⟨"CutFloorModel", "made", "(II)I"⟩, prog_14_method_85_code, 3, (some .int), 2, 1)
def me272 : MI := (12, ⟨"CutFloorModel", "lack", "(II)I"⟩, prog_14_method_84_code, 2, (some .int), 2, 0)
def me273 : MI := (12, ⟨"CutFloorModel", "value", "(I)I"⟩, prog_14_method_87_code, 3, (some .int), 1, 1)
def me274 : MI := (12, ⟨"CutFloorModel", "with", "(II)I"⟩, prog_14_method_86_code, 3, (some .int), 2, 1)
def me275 : MI := (12, ⟨"CutFloorModel", "shorts", "(I)I"⟩, prog_14_method_88_code, 2, (some .int), 1, 1)
def me276 : MI := (12, ⟨"CutFloorModel", "worth", "(I)I"⟩, prog_14_method_89_code, 4, (some .int), 1, 1)
def me277 : MI := (12, ⟨"CutFloorModel", "change", "(II)I"⟩, prog_14_method_90_code, 7, (some .int), 2, 1)
def me278 : MI := (12, ⟨"CutFloorModel", "give", "(II)I"⟩, prog_14_method_91_code, 3, (some .int), 2, 1)
def me279 : MI := (12, ⟨"CutFloorModel", "given", "(I)I"⟩, prog_14_method_93_code, 8, (some .int), 1, 1)
def me280 : MI := (12, ⟨"CutFloorModel", "classAt", "(I)I"⟩, prog_14_method_81_code, 2, (some .int), 1, 1)
def me281 : MI := (12, ⟨"CutFloorModel", "toldOf", "(I)I"⟩, prog_14_method_92_code, 2, (some .int), 1, 1)
def me282 : MI := (12, ⟨"CutFloorModel", "task", "(I)I"⟩, prog_14_method_96_code, 4, (some .int), 1, 1)
def me283 : MI := (12, ⟨"CutFloorModel", "findTasks", "()V"⟩, prog_14_method_95_code, 4, none, 0, 1)
def me284 : MI := (12, ⟨"CutFloorModel", "comes", "(III)I"⟩, prog_14_method_94_code, 7, (some .int), 3, 1)
def me285 : MI := (12, ⟨"CutFloorModel", "share", "(I)I"⟩, prog_14_method_98_code, 7, (some .int), 1, 1)
def me286 : MI := (12, ⟨"CutFloorModel", "sharedBy", "(I)I"⟩, prog_14_method_97_code, 6, (some .int), 1, 1)
def me287 : MI := (12, ⟨"CutFloorModel", "is", "(II)Z"⟩, prog_14_method_4_code, 2, (some .boolean), 2, 0)
def me288 : MI := (12, ⟨"CutFloorModel", "box", "(IIIIII)I"⟩, prog_14_method_102_code, 7, (some .int), 6, 1)
def me289 : MI := (12, ⟨"CutFloorModel", "isBox", "(IIIIII)Z"⟩, prog_14_method_99_code, 6, (some .boolean), 6, 0)
def me290 : MI := (12, ⟨"CutFloorModel", "addBox", "(IIIIII)V"⟩, prog_14_method_100_code, 8, none, 6, 1)
def me291 : MI := (12, ⟨"CutFloorModel", "of", "(II)I"⟩, prog_14_method_103_code, 3, (some .int), 2, 1)
def me292 : MI := (12, ⟨"CutFloorModel", "ofBox", "(II)I"⟩, prog_14_method_101_code, 3, (some .int), 2, 1)
def me293 : MI := (12, ⟨"CutFloorModel", "row", "()I"⟩, prog_14_method_104_code, 5, (some .int), 0, 1)
def me294 : MI := (12, ⟨"CutFloorModel", "spoilt", "()I"⟩, prog_14_method_105_code, 1, (some .int), 0, 1)
def me295 : MI := (12, ⟨"CutFloorModel", "mix", "(IIII)I"⟩, prog_14_method_106_code, 13, (some .int), 4, 1)
def me296 : MI := (12, ⟨"CutFloorModel", "send", "(IIII)I"⟩, prog_14_method_107_code, 10, (some .int), 4, 1)
def me297 : MI := (12, ⟨"CutFloorModel", "again", "(I)I"⟩, prog_14_method_108_code, 2, (some .int), 1, 1)
def me298 : MI := (12, ⟨"CutFloorModel", "recall", "(II)I"⟩, prog_14_method_110_code, 8, (some .int), 2, 1)
def me299 : MI := (12, ⟨"CutFloorModel", "touches", "(II)Z"⟩, prog_14_method_109_code, 4, (some .boolean), 2, 1)
def me300 : MI := (12, ⟨"CutFloorModel", "yields", "(II)I"⟩, prog_14_method_111_code, 3, (some .int), 2, 1)
def me301 : MI := (12, ⟨"CutFloorModel", "drift", "(III)I"⟩, prog_14_method_112_code, 8, (some .int), 3, 1)
def me302 : MI := (12, ⟨"CutFloorModel", "week", "(I)I"⟩, prog_14_method_113_code, 7, (some .int), 1, 1)
def me303 : MI := (12, ⟨"CutFloorModel", "came", "(II)I"⟩, prog_14_method_114_code, 3, (some .int), 2, 1)
def me304 : MI := (12, ⟨"CutFloorModel", "count", "(I)I"⟩, prog_14_method_115_code, 4, (some .int), 1, 1)
def me305 : MI := (12, ⟨"CutFloorModel", "status", "()I"⟩, prog_14_method_116_code, 1, (some .int), 0, 1)
def mtb0 : List MI := [me0, me1, me2, me3, me4, me5, me6, me7, me8, me9, me10, me11, me12, me13, me14, me15, me16, me17, me18, me19, me20, me21, me22, me23, me24, me25, me26, me27, me28, me29, me30, me31, me32, me33, me34, me35, me36, me37, me38, me39]
def mtb1 : List MI := [me40, me41, me42, me43, me44, me45, me46, me47, me48, me49, me50, me51, me52, me53, me54, me55, me56, me57, me58, me59, me60, me61, me62, me63, me64, me65, me66, me67, me68, me69, me70, me71, me72, me73, me74, me75, me76, me77, me78, me79]
def mtb2 : List MI := [me80, me81, me82, me83, me84, me85, me86, me87, me88, me89, me90, me91, me92, me93, me94, me95, me96, me97, me98, me99, me100, me101, me102, me103, me104, me105, me106, me107, me108, me109, me110, me111, me112, me113, me114, me115, me116, me117, me118, me119]
def mtb3 : List MI := [me120, me121, me122, me123, me124, me125, me126, me127, me128, me129, me130, me131, me132, me133, me134, me135, me136, me137, me138, me139, me140, me141, me142, me143, me144, me145, me146, me147, me148, me149, me150, me151, me152, me153, me154, me155, me156, me157, me158, me159]
def mtb4 : List MI := [me160, me161, me162, me163, me164, me165, me166, me167, me168, me169, me170, me171, me172, me173, me174, me175, me176, me177, me178, me179, me180, me181, me182, me183, me184, me185, me186, me187, me188, me189, me190, me191, me192, me193, me194, me195, me196, me197, me198, me199]
def mtb5 : List MI := [me200, me201, me202, me203, me204, me205, me206, me207, me208, me209, me210, me211, me212, me213, me214, me215, me216, me217, me218, me219, me220, me221, me222, me223, me224, me225, me226, me227, me228, me229, me230, me231, me232, me233, me234, me235, me236, me237, me238, me239]
def mtb6 : List MI := [me240, me241, me242, me243, me244, me245, me246, me247, me248, me249, me250, me251, me252, me253, me254, me255, me256, me257, me258, me259, me260, me261, me262, me263, me264, me265, me266, me267, me268, me269, me270, me271, me272, me273, me274, me275, me276, me277, me278, me279]
def mtb7 : List MI := [me280, me281, me282, me283, me284, me285, me286, me287, me288, me289, me290, me291, me292, me293, me294, me295, me296, me297, me298, me299, me300, me301, me302, me303, me304, me305]
def mtb : List MI := mtb0 ++ (mtb1 ++ (mtb2 ++ (mtb3 ++ (mtb4 ++ (mtb5 ++ (mtb6 ++ (mtb7)))))))
def mt (i : Nat) : MI := mtb.getD i (99, ⟨"", "", ""⟩, ByteArray.empty, 0, none, 0, 0)
def at_ (p : Nat) (w : Cond) : Bool := decide (lw_tbl[p]? = some w)
theorem at_in {p : Nat} {w : Cond} (h : at_ p w = true) : w ∈ lw_tbl := List.mem_of_getElem? (of_decide_eq_true h)
def MOK (q : MI) : Prop := Cond.code q.2.1 q.2.2.1 q.2.2.2.1 q.2.2.2.2.1 ∈ lw_tbl ∧ plainName q.2.1.cls = true ∧ (q.2.1.cls ≠ "java/lang/invoke/MethodHandle" ∧ q.2.1.cls ≠ "java/lang/invoke/VarHandle" ∧ (parseMethodDescriptor q.2.1.desc).map (fun d => d.parameters.length) = some q.2.2.2.2.2.1) ∧ q.2.2.2.1 ≤ 21 ∧ Cond.initialized q.2.1.cls ∈ lw_tbl ∧ (q.1 = 99 ∨ onm[q.1]? = some q.2.1.cls) ∧ (q.2.2.2.2.2.2 = 0 → Cond.static q.2.1 ∈ lw_tbl) ∧ (q.2.2.2.2.2.2 = 1 → Cond.instanceMethod q.2.1 ∈ lw_tbl ∧ Cond.selects q.2.1.cls q.2.1 q.2.1 ∈ lw_tbl) ∧ (q.2.2.2.2.2.2 = 2 → Cond.instanceMethod q.2.1 ∈ lw_tbl ∧ q.2.1.name = "<init>" ∧ q.2.2.2.2.1 = none)
set_option maxRecDepth 100000 in
theorem mok0 : MOK me0 := ⟨List.mem_of_getElem? (i := 146) rfl, by decide +kernel, ⟨by decide +kernel, by decide +kernel, by decide +kernel⟩, by decide, at_in (p := 122) (by decide +kernel), Or.inr rfl, (fun h => absurd h (by decide)), (fun h => absurd h (by decide)), (fun _ => ⟨at_in (p := 145) (by decide +kernel), rfl, rfl⟩)⟩
set_option maxRecDepth 100000 in
theorem mok2 : MOK me2 := ⟨List.mem_of_getElem? (i := 154) rfl, by decide +kernel, ⟨by decide +kernel, by decide +kernel, by decide +kernel⟩, by decide, at_in (p := 123) (by decide +kernel), Or.inr rfl, (fun h => absurd h (by decide)), (fun h => absurd h (by decide)), (fun _ => ⟨at_in (p := 153) (by decide +kernel), rfl, rfl⟩)⟩
set_option maxRecDepth 100000 in
theorem mok3 : MOK me3 := ⟨List.mem_of_getElem? (i := 160) rfl, by decide +kernel, ⟨by decide +kernel, by decide +kernel, by decide +kernel⟩, by decide, at_in (p := 124) (by decide +kernel), Or.inr rfl, (fun h => absurd h (by decide)), (fun h => absurd h (by decide)), (fun _ => ⟨at_in (p := 159) (by decide +kernel), rfl, rfl⟩)⟩
set_option maxRecDepth 100000 in
theorem mok4 : MOK me4 := ⟨List.mem_of_getElem? (i := 313) rfl, by decide +kernel, ⟨by decide +kernel, by decide +kernel, by decide +kernel⟩, by decide, at_in (p := 125) (by decide +kernel), Or.inr rfl, (fun h => absurd h (by decide)), (fun h => absurd h (by decide)), (fun _ => ⟨at_in (p := 312) (by decide +kernel), rfl, rfl⟩)⟩
set_option maxRecDepth 100000 in
theorem mok5 : MOK me5 := ⟨List.mem_of_getElem? (i := 335) rfl, by decide +kernel, ⟨by decide +kernel, by decide +kernel, by decide +kernel⟩, by decide, at_in (p := 126) (by decide +kernel), Or.inr rfl, (fun h => absurd h (by decide)), (fun h => absurd h (by decide)), (fun _ => ⟨at_in (p := 334) (by decide +kernel), rfl, rfl⟩)⟩
set_option maxRecDepth 100000 in
theorem mok6 : MOK me6 := ⟨List.mem_of_getElem? (i := 343) rfl, by decide +kernel, ⟨by decide +kernel, by decide +kernel, by decide +kernel⟩, by decide, at_in (p := 127) (by decide +kernel), Or.inr rfl, (fun h => absurd h (by decide)), (fun h => absurd h (by decide)), (fun _ => ⟨at_in (p := 342) (by decide +kernel), rfl, rfl⟩)⟩
set_option maxRecDepth 100000 in
theorem mok7 : MOK me7 := ⟨List.mem_of_getElem? (i := 422) rfl, by decide +kernel, ⟨by decide +kernel, by decide +kernel, by decide +kernel⟩, by decide, at_in (p := 128) (by decide +kernel), Or.inr rfl, (fun h => absurd h (by decide)), (fun h => absurd h (by decide)), (fun _ => ⟨at_in (p := 421) (by decide +kernel), rfl, rfl⟩)⟩
set_option maxRecDepth 100000 in
theorem mok8 : MOK me8 := ⟨List.mem_of_getElem? (i := 460) rfl, by decide +kernel, ⟨by decide +kernel, by decide +kernel, by decide +kernel⟩, by decide, at_in (p := 129) (by decide +kernel), Or.inr rfl, (fun h => absurd h (by decide)), (fun h => absurd h (by decide)), (fun _ => ⟨at_in (p := 459) (by decide +kernel), rfl, rfl⟩)⟩
set_option maxRecDepth 100000 in
theorem mok9 : MOK me9 := ⟨List.mem_of_getElem? (i := 551) rfl, by decide +kernel, ⟨by decide +kernel, by decide +kernel, by decide +kernel⟩, by decide, at_in (p := 130) (by decide +kernel), Or.inr rfl, (fun h => absurd h (by decide)), (fun h => absurd h (by decide)), (fun _ => ⟨at_in (p := 550) (by decide +kernel), rfl, rfl⟩)⟩
set_option maxRecDepth 100000 in
theorem mok10 : MOK me10 := ⟨List.mem_of_getElem? (i := 613) rfl, by decide +kernel, ⟨by decide +kernel, by decide +kernel, by decide +kernel⟩, by decide, at_in (p := 131) (by decide +kernel), Or.inr rfl, (fun h => absurd h (by decide)), (fun h => absurd h (by decide)), (fun _ => ⟨at_in (p := 612) (by decide +kernel), rfl, rfl⟩)⟩
set_option maxRecDepth 100000 in
theorem mok11 : MOK me11 := ⟨List.mem_of_getElem? (i := 668) rfl, by decide +kernel, ⟨by decide +kernel, by decide +kernel, by decide +kernel⟩, by decide, at_in (p := 132) (by decide +kernel), Or.inr rfl, (fun h => absurd h (by decide)), (fun h => absurd h (by decide)), (fun _ => ⟨at_in (p := 667) (by decide +kernel), rfl, rfl⟩)⟩
set_option maxRecDepth 100000 in
theorem mok12 : MOK me12 := ⟨List.mem_of_getElem? (i := 683) rfl, by decide +kernel, ⟨by decide +kernel, by decide +kernel, by decide +kernel⟩, by decide, at_in (p := 133) (by decide +kernel), Or.inr rfl, (fun h => absurd h (by decide)), (fun h => absurd h (by decide)), (fun _ => ⟨at_in (p := 682) (by decide +kernel), rfl, rfl⟩)⟩
set_option maxRecDepth 100000 in
theorem mok13 : MOK me13 := ⟨List.mem_of_getElem? (i := 771) rfl, by decide +kernel, ⟨by decide +kernel, by decide +kernel, by decide +kernel⟩, by decide, at_in (p := 122) (by decide +kernel), Or.inr rfl, (fun h => absurd h (by decide)), (fun _ => ⟨at_in (p := 769) (by decide +kernel), at_in (p := 770) (by decide +kernel)⟩), (fun h => absurd h (by decide))⟩
set_option maxRecDepth 100000 in
theorem mok14 : MOK me14 := ⟨List.mem_of_getElem? (i := 774) rfl, by decide +kernel, ⟨by decide +kernel, by decide +kernel, by decide +kernel⟩, by decide, at_in (p := 122) (by decide +kernel), Or.inr rfl, (fun _ => at_in (p := 773) (by decide +kernel)), (fun h => absurd h (by decide)), (fun h => absurd h (by decide))⟩
set_option maxRecDepth 100000 in
theorem mok15 : MOK me15 := ⟨List.mem_of_getElem? (i := 778) rfl, by decide +kernel, ⟨by decide +kernel, by decide +kernel, by decide +kernel⟩, by decide, at_in (p := 122) (by decide +kernel), Or.inr rfl, (fun h => absurd h (by decide)), (fun _ => ⟨at_in (p := 777) (by decide +kernel), at_in (p := 0) (by decide +kernel)⟩), (fun h => absurd h (by decide))⟩
set_option maxRecDepth 100000 in
theorem mok16 : MOK me16 := ⟨List.mem_of_getElem? (i := 782) rfl, by decide +kernel, ⟨by decide +kernel, by decide +kernel, by decide +kernel⟩, by decide, at_in (p := 123) (by decide +kernel), Or.inr rfl, (fun h => absurd h (by decide)), (fun _ => ⟨at_in (p := 780) (by decide +kernel), at_in (p := 781) (by decide +kernel)⟩), (fun h => absurd h (by decide))⟩
set_option maxRecDepth 100000 in
theorem mok17 : MOK me17 := ⟨List.mem_of_getElem? (i := 786) rfl, by decide +kernel, ⟨by decide +kernel, by decide +kernel, by decide +kernel⟩, by decide, at_in (p := 126) (by decide +kernel), Or.inr rfl, (fun h => absurd h (by decide)), (fun _ => ⟨at_in (p := 784) (by decide +kernel), at_in (p := 785) (by decide +kernel)⟩), (fun h => absurd h (by decide))⟩
set_option maxRecDepth 100000 in
theorem mok18 : MOK me18 := ⟨List.mem_of_getElem? (i := 790) rfl, by decide +kernel, ⟨by decide +kernel, by decide +kernel, by decide +kernel⟩, by decide, at_in (p := 130) (by decide +kernel), Or.inr rfl, (fun h => absurd h (by decide)), (fun _ => ⟨at_in (p := 788) (by decide +kernel), at_in (p := 789) (by decide +kernel)⟩), (fun h => absurd h (by decide))⟩
set_option maxRecDepth 100000 in
theorem mok19 : MOK me19 := ⟨List.mem_of_getElem? (i := 794) rfl, by decide +kernel, ⟨by decide +kernel, by decide +kernel, by decide +kernel⟩, by decide, at_in (p := 122) (by decide +kernel), Or.inr rfl, (fun h => absurd h (by decide)), (fun _ => ⟨at_in (p := 793) (by decide +kernel), at_in (p := 1) (by decide +kernel)⟩), (fun h => absurd h (by decide))⟩
set_option maxRecDepth 100000 in
theorem mok20 : MOK me20 := ⟨List.mem_of_getElem? (i := 798) rfl, by decide +kernel, ⟨by decide +kernel, by decide +kernel, by decide +kernel⟩, by decide, at_in (p := 122) (by decide +kernel), Or.inr rfl, (fun h => absurd h (by decide)), (fun _ => ⟨at_in (p := 796) (by decide +kernel), at_in (p := 797) (by decide +kernel)⟩), (fun h => absurd h (by decide))⟩
set_option maxRecDepth 100000 in
theorem mok21 : MOK me21 := ⟨List.mem_of_getElem? (i := 802) rfl, by decide +kernel, ⟨by decide +kernel, by decide +kernel, by decide +kernel⟩, by decide, at_in (p := 122) (by decide +kernel), Or.inr rfl, (fun h => absurd h (by decide)), (fun _ => ⟨at_in (p := 801) (by decide +kernel), at_in (p := 2) (by decide +kernel)⟩), (fun h => absurd h (by decide))⟩
set_option maxRecDepth 100000 in
theorem mok22 : MOK me22 := ⟨List.mem_of_getElem? (i := 806) rfl, by decide +kernel, ⟨by decide +kernel, by decide +kernel, by decide +kernel⟩, by decide, at_in (p := 126) (by decide +kernel), Or.inr rfl, (fun h => absurd h (by decide)), (fun _ => ⟨at_in (p := 804) (by decide +kernel), at_in (p := 805) (by decide +kernel)⟩), (fun h => absurd h (by decide))⟩
set_option maxRecDepth 100000 in
theorem mok23 : MOK me23 := ⟨List.mem_of_getElem? (i := 810) rfl, by decide +kernel, ⟨by decide +kernel, by decide +kernel, by decide +kernel⟩, by decide, at_in (p := 122) (by decide +kernel), Or.inr rfl, (fun h => absurd h (by decide)), (fun _ => ⟨at_in (p := 808) (by decide +kernel), at_in (p := 809) (by decide +kernel)⟩), (fun h => absurd h (by decide))⟩
set_option maxRecDepth 100000 in
theorem mok24 : MOK me24 := ⟨List.mem_of_getElem? (i := 814) rfl, by decide +kernel, ⟨by decide +kernel, by decide +kernel, by decide +kernel⟩, by decide, at_in (p := 123) (by decide +kernel), Or.inr rfl, (fun h => absurd h (by decide)), (fun _ => ⟨at_in (p := 812) (by decide +kernel), at_in (p := 813) (by decide +kernel)⟩), (fun h => absurd h (by decide))⟩
set_option maxRecDepth 100000 in
theorem mok25 : MOK me25 := ⟨List.mem_of_getElem? (i := 818) rfl, by decide +kernel, ⟨by decide +kernel, by decide +kernel, by decide +kernel⟩, by decide, at_in (p := 126) (by decide +kernel), Or.inr rfl, (fun h => absurd h (by decide)), (fun _ => ⟨at_in (p := 816) (by decide +kernel), at_in (p := 817) (by decide +kernel)⟩), (fun h => absurd h (by decide))⟩
set_option maxRecDepth 100000 in
theorem mok26 : MOK me26 := ⟨List.mem_of_getElem? (i := 822) rfl, by decide +kernel, ⟨by decide +kernel, by decide +kernel, by decide +kernel⟩, by decide, at_in (p := 122) (by decide +kernel), Or.inr rfl, (fun h => absurd h (by decide)), (fun _ => ⟨at_in (p := 820) (by decide +kernel), at_in (p := 821) (by decide +kernel)⟩), (fun h => absurd h (by decide))⟩
set_option maxRecDepth 100000 in
theorem mok27 : MOK me27 := ⟨List.mem_of_getElem? (i := 826) rfl, by decide +kernel, ⟨by decide +kernel, by decide +kernel, by decide +kernel⟩, by decide, at_in (p := 122) (by decide +kernel), Or.inr rfl, (fun h => absurd h (by decide)), (fun _ => ⟨at_in (p := 824) (by decide +kernel), at_in (p := 825) (by decide +kernel)⟩), (fun h => absurd h (by decide))⟩
set_option maxRecDepth 100000 in
theorem mok28 : MOK me28 := ⟨List.mem_of_getElem? (i := 830) rfl, by decide +kernel, ⟨by decide +kernel, by decide +kernel, by decide +kernel⟩, by decide, at_in (p := 122) (by decide +kernel), Or.inr rfl, (fun h => absurd h (by decide)), (fun _ => ⟨at_in (p := 828) (by decide +kernel), at_in (p := 829) (by decide +kernel)⟩), (fun h => absurd h (by decide))⟩
set_option maxRecDepth 100000 in
theorem mok29 : MOK me29 := ⟨List.mem_of_getElem? (i := 834) rfl, by decide +kernel, ⟨by decide +kernel, by decide +kernel, by decide +kernel⟩, by decide, at_in (p := 122) (by decide +kernel), Or.inr rfl, (fun h => absurd h (by decide)), (fun _ => ⟨at_in (p := 832) (by decide +kernel), at_in (p := 833) (by decide +kernel)⟩), (fun h => absurd h (by decide))⟩
set_option maxRecDepth 100000 in
theorem mok30 : MOK me30 := ⟨List.mem_of_getElem? (i := 838) rfl, by decide +kernel, ⟨by decide +kernel, by decide +kernel, by decide +kernel⟩, by decide, at_in (p := 122) (by decide +kernel), Or.inr rfl, (fun h => absurd h (by decide)), (fun _ => ⟨at_in (p := 837) (by decide +kernel), at_in (p := 3) (by decide +kernel)⟩), (fun h => absurd h (by decide))⟩
set_option maxRecDepth 100000 in
theorem mok31 : MOK me31 := ⟨List.mem_of_getElem? (i := 842) rfl, by decide +kernel, ⟨by decide +kernel, by decide +kernel, by decide +kernel⟩, by decide, at_in (p := 122) (by decide +kernel), Or.inr rfl, (fun h => absurd h (by decide)), (fun _ => ⟨at_in (p := 840) (by decide +kernel), at_in (p := 841) (by decide +kernel)⟩), (fun h => absurd h (by decide))⟩
set_option maxRecDepth 100000 in
theorem mok32 : MOK me32 := ⟨List.mem_of_getElem? (i := 846) rfl, by decide +kernel, ⟨by decide +kernel, by decide +kernel, by decide +kernel⟩, by decide, at_in (p := 122) (by decide +kernel), Or.inr rfl, (fun h => absurd h (by decide)), (fun _ => ⟨at_in (p := 844) (by decide +kernel), at_in (p := 845) (by decide +kernel)⟩), (fun h => absurd h (by decide))⟩
set_option maxRecDepth 100000 in
theorem mok33 : MOK me33 := ⟨List.mem_of_getElem? (i := 850) rfl, by decide +kernel, ⟨by decide +kernel, by decide +kernel, by decide +kernel⟩, by decide, at_in (p := 133) (by decide +kernel), Or.inr rfl, (fun h => absurd h (by decide)), (fun _ => ⟨at_in (p := 848) (by decide +kernel), at_in (p := 849) (by decide +kernel)⟩), (fun h => absurd h (by decide))⟩
set_option maxRecDepth 100000 in
theorem mok35 : MOK me35 := ⟨List.mem_of_getElem? (i := 857) rfl, by decide +kernel, ⟨by decide +kernel, by decide +kernel, by decide +kernel⟩, by decide, at_in (p := 124) (by decide +kernel), Or.inr rfl, (fun h => absurd h (by decide)), (fun _ => ⟨at_in (p := 855) (by decide +kernel), at_in (p := 856) (by decide +kernel)⟩), (fun h => absurd h (by decide))⟩
set_option maxRecDepth 100000 in
theorem mok36 : MOK me36 := ⟨List.mem_of_getElem? (i := 860) rfl, by decide +kernel, ⟨by decide +kernel, by decide +kernel, by decide +kernel⟩, by decide, at_in (p := 136) (by decide +kernel), Or.inr rfl, (fun _ => at_in (p := 859) (by decide +kernel)), (fun h => absurd h (by decide)), (fun h => absurd h (by decide))⟩
set_option maxRecDepth 100000 in
theorem mok37 : MOK me37 := ⟨List.mem_of_getElem? (i := 864) rfl, by decide +kernel, ⟨by decide +kernel, by decide +kernel, by decide +kernel⟩, by decide, at_in (p := 133) (by decide +kernel), Or.inr rfl, (fun h => absurd h (by decide)), (fun _ => ⟨at_in (p := 863) (by decide +kernel), at_in (p := 4) (by decide +kernel)⟩), (fun h => absurd h (by decide))⟩
set_option maxRecDepth 100000 in
theorem mok38 : MOK me38 := ⟨List.mem_of_getElem? (i := 867) rfl, by decide +kernel, ⟨by decide +kernel, by decide +kernel, by decide +kernel⟩, by decide, at_in (p := 133) (by decide +kernel), Or.inr rfl, (fun _ => at_in (p := 866) (by decide +kernel)), (fun h => absurd h (by decide)), (fun h => absurd h (by decide))⟩
set_option maxRecDepth 100000 in
theorem mok39 : MOK me39 := ⟨List.mem_of_getElem? (i := 870) rfl, by decide +kernel, ⟨by decide +kernel, by decide +kernel, by decide +kernel⟩, by decide, at_in (p := 133) (by decide +kernel), Or.inr rfl, (fun _ => at_in (p := 869) (by decide +kernel)), (fun h => absurd h (by decide)), (fun h => absurd h (by decide))⟩
set_option maxRecDepth 100000 in
theorem mok40 : MOK me40 := ⟨List.mem_of_getElem? (i := 875) rfl, by decide +kernel, ⟨by decide +kernel, by decide +kernel, by decide +kernel⟩, by decide, at_in (p := 133) (by decide +kernel), Or.inr rfl, (fun h => absurd h (by decide)), (fun _ => ⟨at_in (p := 874) (by decide +kernel), at_in (p := 5) (by decide +kernel)⟩), (fun h => absurd h (by decide))⟩
set_option maxRecDepth 100000 in
theorem mok41 : MOK me41 := ⟨List.mem_of_getElem? (i := 880) rfl, by decide +kernel, ⟨by decide +kernel, by decide +kernel, by decide +kernel⟩, by decide, at_in (p := 133) (by decide +kernel), Or.inr rfl, (fun h => absurd h (by decide)), (fun _ => ⟨at_in (p := 879) (by decide +kernel), at_in (p := 6) (by decide +kernel)⟩), (fun h => absurd h (by decide))⟩
set_option maxRecDepth 100000 in
theorem mok42 : MOK me42 := ⟨List.mem_of_getElem? (i := 884) rfl, by decide +kernel, ⟨by decide +kernel, by decide +kernel, by decide +kernel⟩, by decide, at_in (p := 137) (by decide +kernel), Or.inr rfl, (fun h => absurd h (by decide)), (fun _ => ⟨at_in (p := 882) (by decide +kernel), at_in (p := 883) (by decide +kernel)⟩), (fun h => absurd h (by decide))⟩
set_option maxRecDepth 100000 in
theorem mok43 : MOK me43 := ⟨List.mem_of_getElem? (i := 888) rfl, by decide +kernel, ⟨by decide +kernel, by decide +kernel, by decide +kernel⟩, by decide, at_in (p := 137) (by decide +kernel), Or.inr rfl, (fun h => absurd h (by decide)), (fun _ => ⟨at_in (p := 886) (by decide +kernel), at_in (p := 887) (by decide +kernel)⟩), (fun h => absurd h (by decide))⟩
set_option maxRecDepth 100000 in
theorem mok44 : MOK me44 := ⟨List.mem_of_getElem? (i := 894) rfl, by decide +kernel, ⟨by decide +kernel, by decide +kernel, by decide +kernel⟩, by decide, at_in (p := 137) (by decide +kernel), Or.inr rfl, (fun h => absurd h (by decide)), (fun _ => ⟨at_in (p := 892) (by decide +kernel), at_in (p := 893) (by decide +kernel)⟩), (fun h => absurd h (by decide))⟩
set_option maxRecDepth 100000 in
theorem mok45 : MOK me45 := ⟨List.mem_of_getElem? (i := 898) rfl, by decide +kernel, ⟨by decide +kernel, by decide +kernel, by decide +kernel⟩, by decide, at_in (p := 137) (by decide +kernel), Or.inr rfl, (fun h => absurd h (by decide)), (fun _ => ⟨at_in (p := 896) (by decide +kernel), at_in (p := 897) (by decide +kernel)⟩), (fun h => absurd h (by decide))⟩
set_option maxRecDepth 100000 in
theorem mok46 : MOK me46 := ⟨List.mem_of_getElem? (i := 901) rfl, by decide +kernel, ⟨by decide +kernel, by decide +kernel, by decide +kernel⟩, by decide, at_in (p := 138) (by decide +kernel), Or.inr rfl, (fun _ => at_in (p := 900) (by decide +kernel)), (fun h => absurd h (by decide)), (fun h => absurd h (by decide))⟩
set_option maxRecDepth 100000 in
theorem mok47 : MOK me47 := ⟨List.mem_of_getElem? (i := 904) rfl, by decide +kernel, ⟨by decide +kernel, by decide +kernel, by decide +kernel⟩, by decide, at_in (p := 137) (by decide +kernel), Or.inr rfl, (fun _ => at_in (p := 903) (by decide +kernel)), (fun h => absurd h (by decide)), (fun h => absurd h (by decide))⟩
set_option maxRecDepth 100000 in
theorem mok48 : MOK me48 := ⟨List.mem_of_getElem? (i := 909) rfl, by decide +kernel, ⟨by decide +kernel, by decide +kernel, by decide +kernel⟩, by decide, at_in (p := 139) (by decide +kernel), Or.inr rfl, (fun _ => at_in (p := 908) (by decide +kernel)), (fun h => absurd h (by decide)), (fun h => absurd h (by decide))⟩
set_option maxRecDepth 100000 in
theorem mok49 : MOK me49 := ⟨List.mem_of_getElem? (i := 912) rfl, by decide +kernel, ⟨by decide +kernel, by decide +kernel, by decide +kernel⟩, by decide, at_in (p := 140) (by decide +kernel), Or.inr rfl, (fun _ => at_in (p := 911) (by decide +kernel)), (fun h => absurd h (by decide)), (fun h => absurd h (by decide))⟩
set_option maxRecDepth 100000 in
theorem mok50 : MOK me50 := ⟨List.mem_of_getElem? (i := 915) rfl, by decide +kernel, ⟨by decide +kernel, by decide +kernel, by decide +kernel⟩, by decide, at_in (p := 140) (by decide +kernel), Or.inr rfl, (fun _ => at_in (p := 914) (by decide +kernel)), (fun h => absurd h (by decide)), (fun h => absurd h (by decide))⟩
set_option maxRecDepth 100000 in
theorem mok51 : MOK me51 := ⟨List.mem_of_getElem? (i := 918) rfl, by decide +kernel, ⟨by decide +kernel, by decide +kernel, by decide +kernel⟩, by decide, at_in (p := 140) (by decide +kernel), Or.inr rfl, (fun _ => at_in (p := 917) (by decide +kernel)), (fun h => absurd h (by decide)), (fun h => absurd h (by decide))⟩
set_option maxRecDepth 100000 in
theorem mok52 : MOK me52 := ⟨List.mem_of_getElem? (i := 922) rfl, by decide +kernel, ⟨by decide +kernel, by decide +kernel, by decide +kernel⟩, by decide, at_in (p := 140) (by decide +kernel), Or.inr rfl, (fun _ => at_in (p := 921) (by decide +kernel)), (fun h => absurd h (by decide)), (fun h => absurd h (by decide))⟩
set_option maxRecDepth 100000 in
theorem mok53 : MOK me53 := ⟨List.mem_of_getElem? (i := 932) rfl, by decide +kernel, ⟨by decide +kernel, by decide +kernel, by decide +kernel⟩, by decide, at_in (p := 133) (by decide +kernel), Or.inr rfl, (fun h => absurd h (by decide)), (fun _ => ⟨at_in (p := 931) (by decide +kernel), at_in (p := 7) (by decide +kernel)⟩), (fun h => absurd h (by decide))⟩
set_option maxRecDepth 100000 in
theorem mok54 : MOK me54 := ⟨List.mem_of_getElem? (i := 936) rfl, by decide +kernel, ⟨by decide +kernel, by decide +kernel, by decide +kernel⟩, by decide, at_in (p := 133) (by decide +kernel), Or.inr rfl, (fun h => absurd h (by decide)), (fun _ => ⟨at_in (p := 935) (by decide +kernel), at_in (p := 8) (by decide +kernel)⟩), (fun h => absurd h (by decide))⟩
set_option maxRecDepth 100000 in
theorem mok55 : MOK me55 := ⟨List.mem_of_getElem? (i := 941) rfl, by decide +kernel, ⟨by decide +kernel, by decide +kernel, by decide +kernel⟩, by decide, at_in (p := 133) (by decide +kernel), Or.inr rfl, (fun h => absurd h (by decide)), (fun _ => ⟨at_in (p := 940) (by decide +kernel), at_in (p := 9) (by decide +kernel)⟩), (fun h => absurd h (by decide))⟩
set_option maxRecDepth 100000 in
theorem mok56 : MOK me56 := ⟨List.mem_of_getElem? (i := 947) rfl, by decide +kernel, ⟨by decide +kernel, by decide +kernel, by decide +kernel⟩, by decide, at_in (p := 133) (by decide +kernel), Or.inr rfl, (fun h => absurd h (by decide)), (fun _ => ⟨at_in (p := 946) (by decide +kernel), at_in (p := 10) (by decide +kernel)⟩), (fun h => absurd h (by decide))⟩
set_option maxRecDepth 100000 in
theorem mok57 : MOK me57 := ⟨List.mem_of_getElem? (i := 951) rfl, by decide +kernel, ⟨by decide +kernel, by decide +kernel, by decide +kernel⟩, by decide, at_in (p := 133) (by decide +kernel), Or.inr rfl, (fun h => absurd h (by decide)), (fun _ => ⟨at_in (p := 950) (by decide +kernel), at_in (p := 11) (by decide +kernel)⟩), (fun h => absurd h (by decide))⟩
set_option maxRecDepth 100000 in
theorem mok58 : MOK me58 := ⟨List.mem_of_getElem? (i := 955) rfl, by decide +kernel, ⟨by decide +kernel, by decide +kernel, by decide +kernel⟩, by decide, at_in (p := 133) (by decide +kernel), Or.inr rfl, (fun h => absurd h (by decide)), (fun _ => ⟨at_in (p := 954) (by decide +kernel), at_in (p := 12) (by decide +kernel)⟩), (fun h => absurd h (by decide))⟩
set_option maxRecDepth 100000 in
theorem mok59 : MOK me59 := ⟨List.mem_of_getElem? (i := 959) rfl, by decide +kernel, ⟨by decide +kernel, by decide +kernel, by decide +kernel⟩, by decide, at_in (p := 133) (by decide +kernel), Or.inr rfl, (fun h => absurd h (by decide)), (fun _ => ⟨at_in (p := 958) (by decide +kernel), at_in (p := 13) (by decide +kernel)⟩), (fun h => absurd h (by decide))⟩
set_option maxRecDepth 100000 in
theorem mok60 : MOK me60 := ⟨List.mem_of_getElem? (i := 963) rfl, by decide +kernel, ⟨by decide +kernel, by decide +kernel, by decide +kernel⟩, by decide, at_in (p := 133) (by decide +kernel), Or.inr rfl, (fun h => absurd h (by decide)), (fun _ => ⟨at_in (p := 962) (by decide +kernel), at_in (p := 14) (by decide +kernel)⟩), (fun h => absurd h (by decide))⟩
set_option maxRecDepth 100000 in
theorem mok61 : MOK me61 := ⟨List.mem_of_getElem? (i := 967) rfl, by decide +kernel, ⟨by decide +kernel, by decide +kernel, by decide +kernel⟩, by decide, at_in (p := 124) (by decide +kernel), Or.inr rfl, (fun h => absurd h (by decide)), (fun _ => ⟨at_in (p := 965) (by decide +kernel), at_in (p := 966) (by decide +kernel)⟩), (fun h => absurd h (by decide))⟩
set_option maxRecDepth 100000 in
theorem mok62 : MOK me62 := ⟨List.mem_of_getElem? (i := 979) rfl, by decide +kernel, ⟨by decide +kernel, by decide +kernel, by decide +kernel⟩, by decide, at_in (p := 133) (by decide +kernel), Or.inr rfl, (fun h => absurd h (by decide)), (fun _ => ⟨at_in (p := 978) (by decide +kernel), at_in (p := 15) (by decide +kernel)⟩), (fun h => absurd h (by decide))⟩
set_option maxRecDepth 100000 in
theorem mok63 : MOK me63 := ⟨List.mem_of_getElem? (i := 983) rfl, by decide +kernel, ⟨by decide +kernel, by decide +kernel, by decide +kernel⟩, by decide, at_in (p := 133) (by decide +kernel), Or.inr rfl, (fun h => absurd h (by decide)), (fun _ => ⟨at_in (p := 982) (by decide +kernel), at_in (p := 16) (by decide +kernel)⟩), (fun h => absurd h (by decide))⟩
set_option maxRecDepth 100000 in
theorem mok64 : MOK me64 := ⟨List.mem_of_getElem? (i := 987) rfl, by decide +kernel, ⟨by decide +kernel, by decide +kernel, by decide +kernel⟩, by decide, at_in (p := 133) (by decide +kernel), Or.inr rfl, (fun h => absurd h (by decide)), (fun _ => ⟨at_in (p := 986) (by decide +kernel), at_in (p := 17) (by decide +kernel)⟩), (fun h => absurd h (by decide))⟩
set_option maxRecDepth 100000 in
theorem mok65 : MOK me65 := ⟨List.mem_of_getElem? (i := 992) rfl, by decide +kernel, ⟨by decide +kernel, by decide +kernel, by decide +kernel⟩, by decide, at_in (p := 133) (by decide +kernel), Or.inr rfl, (fun h => absurd h (by decide)), (fun _ => ⟨at_in (p := 991) (by decide +kernel), at_in (p := 18) (by decide +kernel)⟩), (fun h => absurd h (by decide))⟩
set_option maxRecDepth 100000 in
theorem mok66 : MOK me66 := ⟨List.mem_of_getElem? (i := 996) rfl, by decide +kernel, ⟨by decide +kernel, by decide +kernel, by decide +kernel⟩, by decide, at_in (p := 133) (by decide +kernel), Or.inr rfl, (fun h => absurd h (by decide)), (fun _ => ⟨at_in (p := 995) (by decide +kernel), at_in (p := 19) (by decide +kernel)⟩), (fun h => absurd h (by decide))⟩
set_option maxRecDepth 100000 in
theorem mok67 : MOK me67 := ⟨List.mem_of_getElem? (i := 1002) rfl, by decide +kernel, ⟨by decide +kernel, by decide +kernel, by decide +kernel⟩, by decide, at_in (p := 122) (by decide +kernel), Or.inr rfl, (fun h => absurd h (by decide)), (fun _ => ⟨at_in (p := 1000) (by decide +kernel), at_in (p := 1001) (by decide +kernel)⟩), (fun h => absurd h (by decide))⟩
set_option maxRecDepth 100000 in
theorem mok68 : MOK me68 := ⟨List.mem_of_getElem? (i := 1006) rfl, by decide +kernel, ⟨by decide +kernel, by decide +kernel, by decide +kernel⟩, by decide, at_in (p := 122) (by decide +kernel), Or.inr rfl, (fun h => absurd h (by decide)), (fun _ => ⟨at_in (p := 1004) (by decide +kernel), at_in (p := 1005) (by decide +kernel)⟩), (fun h => absurd h (by decide))⟩
set_option maxRecDepth 100000 in
theorem mok69 : MOK me69 := ⟨List.mem_of_getElem? (i := 1010) rfl, by decide +kernel, ⟨by decide +kernel, by decide +kernel, by decide +kernel⟩, by decide, at_in (p := 122) (by decide +kernel), Or.inr rfl, (fun h => absurd h (by decide)), (fun _ => ⟨at_in (p := 1008) (by decide +kernel), at_in (p := 1009) (by decide +kernel)⟩), (fun h => absurd h (by decide))⟩
set_option maxRecDepth 100000 in
theorem mok70 : MOK me70 := ⟨List.mem_of_getElem? (i := 1015) rfl, by decide +kernel, ⟨by decide +kernel, by decide +kernel, by decide +kernel⟩, by decide, at_in (p := 125) (by decide +kernel), Or.inr rfl, (fun h => absurd h (by decide)), (fun _ => ⟨at_in (p := 1013) (by decide +kernel), at_in (p := 1014) (by decide +kernel)⟩), (fun h => absurd h (by decide))⟩
set_option maxRecDepth 100000 in
theorem mok71 : MOK me71 := ⟨List.mem_of_getElem? (i := 1019) rfl, by decide +kernel, ⟨by decide +kernel, by decide +kernel, by decide +kernel⟩, by decide, at_in (p := 125) (by decide +kernel), Or.inr rfl, (fun h => absurd h (by decide)), (fun _ => ⟨at_in (p := 1018) (by decide +kernel), at_in (p := 20) (by decide +kernel)⟩), (fun h => absurd h (by decide))⟩
set_option maxRecDepth 100000 in
theorem mok72 : MOK me72 := ⟨List.mem_of_getElem? (i := 1023) rfl, by decide +kernel, ⟨by decide +kernel, by decide +kernel, by decide +kernel⟩, by decide, at_in (p := 123) (by decide +kernel), Or.inr rfl, (fun h => absurd h (by decide)), (fun _ => ⟨at_in (p := 1021) (by decide +kernel), at_in (p := 1022) (by decide +kernel)⟩), (fun h => absurd h (by decide))⟩
set_option maxRecDepth 100000 in
theorem mok73 : MOK me73 := ⟨List.mem_of_getElem? (i := 1027) rfl, by decide +kernel, ⟨by decide +kernel, by decide +kernel, by decide +kernel⟩, by decide, at_in (p := 125) (by decide +kernel), Or.inr rfl, (fun h => absurd h (by decide)), (fun _ => ⟨at_in (p := 1026) (by decide +kernel), at_in (p := 21) (by decide +kernel)⟩), (fun h => absurd h (by decide))⟩
set_option maxRecDepth 100000 in
theorem mok74 : MOK me74 := ⟨List.mem_of_getElem? (i := 1031) rfl, by decide +kernel, ⟨by decide +kernel, by decide +kernel, by decide +kernel⟩, by decide, at_in (p := 125) (by decide +kernel), Or.inr rfl, (fun h => absurd h (by decide)), (fun _ => ⟨at_in (p := 1030) (by decide +kernel), at_in (p := 22) (by decide +kernel)⟩), (fun h => absurd h (by decide))⟩
set_option maxRecDepth 100000 in
theorem mok76 : MOK me76 := ⟨List.mem_of_getElem? (i := 1038) rfl, by decide +kernel, ⟨by decide +kernel, by decide +kernel, by decide +kernel⟩, by decide, at_in (p := 125) (by decide +kernel), Or.inr rfl, (fun _ => at_in (p := 1037) (by decide +kernel)), (fun h => absurd h (by decide)), (fun h => absurd h (by decide))⟩
set_option maxRecDepth 100000 in
theorem mok77 : MOK me77 := ⟨List.mem_of_getElem? (i := 1045) rfl, by decide +kernel, ⟨by decide +kernel, by decide +kernel, by decide +kernel⟩, by decide, at_in (p := 125) (by decide +kernel), Or.inr rfl, (fun h => absurd h (by decide)), (fun _ => ⟨at_in (p := 1043) (by decide +kernel), at_in (p := 1044) (by decide +kernel)⟩), (fun h => absurd h (by decide))⟩
set_option maxRecDepth 100000 in
theorem mok78 : MOK me78 := ⟨List.mem_of_getElem? (i := 1049) rfl, by decide +kernel, ⟨by decide +kernel, by decide +kernel, by decide +kernel⟩, by decide, at_in (p := 123) (by decide +kernel), Or.inr rfl, (fun h => absurd h (by decide)), (fun _ => ⟨at_in (p := 1047) (by decide +kernel), at_in (p := 1048) (by decide +kernel)⟩), (fun h => absurd h (by decide))⟩
set_option maxRecDepth 100000 in
theorem mok79 : MOK me79 := ⟨List.mem_of_getElem? (i := 1054) rfl, by decide +kernel, ⟨by decide +kernel, by decide +kernel, by decide +kernel⟩, by decide, at_in (p := 123) (by decide +kernel), Or.inr rfl, (fun h => absurd h (by decide)), (fun _ => ⟨at_in (p := 1052) (by decide +kernel), at_in (p := 1053) (by decide +kernel)⟩), (fun h => absurd h (by decide))⟩
set_option maxRecDepth 100000 in
theorem mok80 : MOK me80 := ⟨List.mem_of_getElem? (i := 1059) rfl, by decide +kernel, ⟨by decide +kernel, by decide +kernel, by decide +kernel⟩, by decide, at_in (p := 122) (by decide +kernel), Or.inr rfl, (fun h => absurd h (by decide)), (fun _ => ⟨at_in (p := 1057) (by decide +kernel), at_in (p := 1058) (by decide +kernel)⟩), (fun h => absurd h (by decide))⟩
set_option maxRecDepth 100000 in
theorem mok81 : MOK me81 := ⟨List.mem_of_getElem? (i := 1063) rfl, by decide +kernel, ⟨by decide +kernel, by decide +kernel, by decide +kernel⟩, by decide, at_in (p := 126) (by decide +kernel), Or.inr rfl, (fun h => absurd h (by decide)), (fun _ => ⟨at_in (p := 1061) (by decide +kernel), at_in (p := 1062) (by decide +kernel)⟩), (fun h => absurd h (by decide))⟩
set_option maxRecDepth 100000 in
theorem mok82 : MOK me82 := ⟨List.mem_of_getElem? (i := 1068) rfl, by decide +kernel, ⟨by decide +kernel, by decide +kernel, by decide +kernel⟩, by decide, at_in (p := 129) (by decide +kernel), Or.inr rfl, (fun h => absurd h (by decide)), (fun _ => ⟨at_in (p := 1066) (by decide +kernel), at_in (p := 1067) (by decide +kernel)⟩), (fun h => absurd h (by decide))⟩
set_option maxRecDepth 100000 in
theorem mok83 : MOK me83 := ⟨List.mem_of_getElem? (i := 1072) rfl, by decide +kernel, ⟨by decide +kernel, by decide +kernel, by decide +kernel⟩, by decide, at_in (p := 129) (by decide +kernel), Or.inr rfl, (fun _ => at_in (p := 1071) (by decide +kernel)), (fun h => absurd h (by decide)), (fun h => absurd h (by decide))⟩
set_option maxRecDepth 100000 in
theorem mok84 : MOK me84 := ⟨List.mem_of_getElem? (i := 1076) rfl, by decide +kernel, ⟨by decide +kernel, by decide +kernel, by decide +kernel⟩, by decide, at_in (p := 129) (by decide +kernel), Or.inr rfl, (fun h => absurd h (by decide)), (fun _ => ⟨at_in (p := 1075) (by decide +kernel), at_in (p := 23) (by decide +kernel)⟩), (fun h => absurd h (by decide))⟩
set_option maxRecDepth 100000 in
theorem mok85 : MOK me85 := ⟨List.mem_of_getElem? (i := 1080) rfl, by decide +kernel, ⟨by decide +kernel, by decide +kernel, by decide +kernel⟩, by decide, at_in (p := 124) (by decide +kernel), Or.inr rfl, (fun h => absurd h (by decide)), (fun _ => ⟨at_in (p := 1078) (by decide +kernel), at_in (p := 1079) (by decide +kernel)⟩), (fun h => absurd h (by decide))⟩
set_option maxRecDepth 100000 in
theorem mok86 : MOK me86 := ⟨List.mem_of_getElem? (i := 1084) rfl, by decide +kernel, ⟨by decide +kernel, by decide +kernel, by decide +kernel⟩, by decide, at_in (p := 129) (by decide +kernel), Or.inr rfl, (fun h => absurd h (by decide)), (fun _ => ⟨at_in (p := 1083) (by decide +kernel), at_in (p := 24) (by decide +kernel)⟩), (fun h => absurd h (by decide))⟩
set_option maxRecDepth 100000 in
theorem mok87 : MOK me87 := ⟨List.mem_of_getElem? (i := 1089) rfl, by decide +kernel, ⟨by decide +kernel, by decide +kernel, by decide +kernel⟩, by decide, at_in (p := 122) (by decide +kernel), Or.inr rfl, (fun h => absurd h (by decide)), (fun _ => ⟨at_in (p := 1087) (by decide +kernel), at_in (p := 1088) (by decide +kernel)⟩), (fun h => absurd h (by decide))⟩
set_option maxRecDepth 100000 in
theorem mok88 : MOK me88 := ⟨List.mem_of_getElem? (i := 1093) rfl, by decide +kernel, ⟨by decide +kernel, by decide +kernel, by decide +kernel⟩, by decide, at_in (p := 122) (by decide +kernel), Or.inr rfl, (fun h => absurd h (by decide)), (fun _ => ⟨at_in (p := 1092) (by decide +kernel), at_in (p := 25) (by decide +kernel)⟩), (fun h => absurd h (by decide))⟩
set_option maxRecDepth 100000 in
theorem mok89 : MOK me89 := ⟨List.mem_of_getElem? (i := 1097) rfl, by decide +kernel, ⟨by decide +kernel, by decide +kernel, by decide +kernel⟩, by decide, at_in (p := 122) (by decide +kernel), Or.inr rfl, (fun h => absurd h (by decide)), (fun _ => ⟨at_in (p := 1095) (by decide +kernel), at_in (p := 1096) (by decide +kernel)⟩), (fun h => absurd h (by decide))⟩
set_option maxRecDepth 100000 in
theorem mok90 : MOK me90 := ⟨List.mem_of_getElem? (i := 1101) rfl, by decide +kernel, ⟨by decide +kernel, by decide +kernel, by decide +kernel⟩, by decide, at_in (p := 122) (by decide +kernel), Or.inr rfl, (fun h => absurd h (by decide)), (fun _ => ⟨at_in (p := 1099) (by decide +kernel), at_in (p := 1100) (by decide +kernel)⟩), (fun h => absurd h (by decide))⟩
set_option maxRecDepth 100000 in
theorem mok91 : MOK me91 := ⟨List.mem_of_getElem? (i := 1105) rfl, by decide +kernel, ⟨by decide +kernel, by decide +kernel, by decide +kernel⟩, by decide, at_in (p := 122) (by decide +kernel), Or.inr rfl, (fun h => absurd h (by decide)), (fun _ => ⟨at_in (p := 1104) (by decide +kernel), at_in (p := 26) (by decide +kernel)⟩), (fun h => absurd h (by decide))⟩
set_option maxRecDepth 100000 in
theorem mok92 : MOK me92 := ⟨List.mem_of_getElem? (i := 1109) rfl, by decide +kernel, ⟨by decide +kernel, by decide +kernel, by decide +kernel⟩, by decide, at_in (p := 126) (by decide +kernel), Or.inr rfl, (fun h => absurd h (by decide)), (fun _ => ⟨at_in (p := 1107) (by decide +kernel), at_in (p := 1108) (by decide +kernel)⟩), (fun h => absurd h (by decide))⟩
set_option maxRecDepth 100000 in
theorem mok93 : MOK me93 := ⟨List.mem_of_getElem? (i := 1114) rfl, by decide +kernel, ⟨by decide +kernel, by decide +kernel, by decide +kernel⟩, by decide, at_in (p := 126) (by decide +kernel), Or.inr rfl, (fun h => absurd h (by decide)), (fun _ => ⟨at_in (p := 1113) (by decide +kernel), at_in (p := 27) (by decide +kernel)⟩), (fun h => absurd h (by decide))⟩
set_option maxRecDepth 100000 in
theorem mok94 : MOK me94 := ⟨List.mem_of_getElem? (i := 1117) rfl, by decide +kernel, ⟨by decide +kernel, by decide +kernel, by decide +kernel⟩, by decide, at_in (p := 126) (by decide +kernel), Or.inr rfl, (fun _ => at_in (p := 1116) (by decide +kernel)), (fun h => absurd h (by decide)), (fun h => absurd h (by decide))⟩
set_option maxRecDepth 100000 in
theorem mok95 : MOK me95 := ⟨List.mem_of_getElem? (i := 1121) rfl, by decide +kernel, ⟨by decide +kernel, by decide +kernel, by decide +kernel⟩, by decide, at_in (p := 126) (by decide +kernel), Or.inr rfl, (fun h => absurd h (by decide)), (fun _ => ⟨at_in (p := 1120) (by decide +kernel), at_in (p := 28) (by decide +kernel)⟩), (fun h => absurd h (by decide))⟩
set_option maxRecDepth 100000 in
theorem mok96 : MOK me96 := ⟨List.mem_of_getElem? (i := 1125) rfl, by decide +kernel, ⟨by decide +kernel, by decide +kernel, by decide +kernel⟩, by decide, at_in (p := 127) (by decide +kernel), Or.inr rfl, (fun h => absurd h (by decide)), (fun _ => ⟨at_in (p := 1123) (by decide +kernel), at_in (p := 1124) (by decide +kernel)⟩), (fun h => absurd h (by decide))⟩
set_option maxRecDepth 100000 in
theorem mok97 : MOK me97 := ⟨List.mem_of_getElem? (i := 1129) rfl, by decide +kernel, ⟨by decide +kernel, by decide +kernel, by decide +kernel⟩, by decide, at_in (p := 127) (by decide +kernel), Or.inr rfl, (fun h => absurd h (by decide)), (fun _ => ⟨at_in (p := 1128) (by decide +kernel), at_in (p := 29) (by decide +kernel)⟩), (fun h => absurd h (by decide))⟩
set_option maxRecDepth 100000 in
theorem mok98 : MOK me98 := ⟨List.mem_of_getElem? (i := 1134) rfl, by decide +kernel, ⟨by decide +kernel, by decide +kernel, by decide +kernel⟩, by decide, at_in (p := 127) (by decide +kernel), Or.inr rfl, (fun h => absurd h (by decide)), (fun _ => ⟨at_in (p := 1133) (by decide +kernel), at_in (p := 30) (by decide +kernel)⟩), (fun h => absurd h (by decide))⟩
set_option maxRecDepth 100000 in
theorem mok99 : MOK me99 := ⟨List.mem_of_getElem? (i := 1138) rfl, by decide +kernel, ⟨by decide +kernel, by decide +kernel, by decide +kernel⟩, by decide, at_in (p := 127) (by decide +kernel), Or.inr rfl, (fun h => absurd h (by decide)), (fun _ => ⟨at_in (p := 1137) (by decide +kernel), at_in (p := 31) (by decide +kernel)⟩), (fun h => absurd h (by decide))⟩
set_option maxRecDepth 100000 in
theorem mok100 : MOK me100 := ⟨List.mem_of_getElem? (i := 1142) rfl, by decide +kernel, ⟨by decide +kernel, by decide +kernel, by decide +kernel⟩, by decide, at_in (p := 127) (by decide +kernel), Or.inr rfl, (fun h => absurd h (by decide)), (fun _ => ⟨at_in (p := 1141) (by decide +kernel), at_in (p := 32) (by decide +kernel)⟩), (fun h => absurd h (by decide))⟩
set_option maxRecDepth 100000 in
theorem mok101 : MOK me101 := ⟨List.mem_of_getElem? (i := 1146) rfl, by decide +kernel, ⟨by decide +kernel, by decide +kernel, by decide +kernel⟩, by decide, at_in (p := 127) (by decide +kernel), Or.inr rfl, (fun _ => at_in (p := 1145) (by decide +kernel)), (fun h => absurd h (by decide)), (fun h => absurd h (by decide))⟩
set_option maxRecDepth 100000 in
theorem mok102 : MOK me102 := ⟨List.mem_of_getElem? (i := 1150) rfl, by decide +kernel, ⟨by decide +kernel, by decide +kernel, by decide +kernel⟩, by decide, at_in (p := 127) (by decide +kernel), Or.inr rfl, (fun h => absurd h (by decide)), (fun _ => ⟨at_in (p := 1149) (by decide +kernel), at_in (p := 33) (by decide +kernel)⟩), (fun h => absurd h (by decide))⟩
set_option maxRecDepth 100000 in
theorem mok103 : MOK me103 := ⟨List.mem_of_getElem? (i := 1155) rfl, by decide +kernel, ⟨by decide +kernel, by decide +kernel, by decide +kernel⟩, by decide, at_in (p := 128) (by decide +kernel), Or.inr rfl, (fun h => absurd h (by decide)), (fun _ => ⟨at_in (p := 1153) (by decide +kernel), at_in (p := 1154) (by decide +kernel)⟩), (fun h => absurd h (by decide))⟩
set_option maxRecDepth 100000 in
theorem mok104 : MOK me104 := ⟨List.mem_of_getElem? (i := 1160) rfl, by decide +kernel, ⟨by decide +kernel, by decide +kernel, by decide +kernel⟩, by decide, at_in (p := 126) (by decide +kernel), Or.inr rfl, (fun h => absurd h (by decide)), (fun _ => ⟨at_in (p := 1159) (by decide +kernel), at_in (p := 34) (by decide +kernel)⟩), (fun h => absurd h (by decide))⟩
set_option maxRecDepth 100000 in
theorem mok105 : MOK me105 := ⟨List.mem_of_getElem? (i := 1164) rfl, by decide +kernel, ⟨by decide +kernel, by decide +kernel, by decide +kernel⟩, by decide, at_in (p := 126) (by decide +kernel), Or.inr rfl, (fun h => absurd h (by decide)), (fun _ => ⟨at_in (p := 1163) (by decide +kernel), at_in (p := 35) (by decide +kernel)⟩), (fun h => absurd h (by decide))⟩
set_option maxRecDepth 100000 in
theorem mok106 : MOK me106 := ⟨List.mem_of_getElem? (i := 1169) rfl, by decide +kernel, ⟨by decide +kernel, by decide +kernel, by decide +kernel⟩, by decide, at_in (p := 128) (by decide +kernel), Or.inr rfl, (fun h => absurd h (by decide)), (fun _ => ⟨at_in (p := 1167) (by decide +kernel), at_in (p := 1168) (by decide +kernel)⟩), (fun h => absurd h (by decide))⟩
set_option maxRecDepth 100000 in
theorem mok107 : MOK me107 := ⟨List.mem_of_getElem? (i := 1173) rfl, by decide +kernel, ⟨by decide +kernel, by decide +kernel, by decide +kernel⟩, by decide, at_in (p := 128) (by decide +kernel), Or.inr rfl, (fun h => absurd h (by decide)), (fun _ => ⟨at_in (p := 1171) (by decide +kernel), at_in (p := 1172) (by decide +kernel)⟩), (fun h => absurd h (by decide))⟩
set_option maxRecDepth 100000 in
theorem mok108 : MOK me108 := ⟨List.mem_of_getElem? (i := 1177) rfl, by decide +kernel, ⟨by decide +kernel, by decide +kernel, by decide +kernel⟩, by decide, at_in (p := 128) (by decide +kernel), Or.inr rfl, (fun h => absurd h (by decide)), (fun _ => ⟨at_in (p := 1176) (by decide +kernel), at_in (p := 36) (by decide +kernel)⟩), (fun h => absurd h (by decide))⟩
set_option maxRecDepth 100000 in
theorem mok109 : MOK me109 := ⟨List.mem_of_getElem? (i := 1180) rfl, by decide +kernel, ⟨by decide +kernel, by decide +kernel, by decide +kernel⟩, by decide, at_in (p := 136) (by decide +kernel), Or.inr rfl, (fun _ => at_in (p := 1179) (by decide +kernel)), (fun h => absurd h (by decide)), (fun h => absurd h (by decide))⟩
set_option maxRecDepth 100000 in
theorem mok110 : MOK me110 := ⟨List.mem_of_getElem? (i := 1195) rfl, by decide +kernel, ⟨by decide +kernel, by decide +kernel, by decide +kernel⟩, by decide, at_in (p := 128) (by decide +kernel), Or.inr rfl, (fun h => absurd h (by decide)), (fun _ => ⟨at_in (p := 1194) (by decide +kernel), at_in (p := 37) (by decide +kernel)⟩), (fun h => absurd h (by decide))⟩
set_option maxRecDepth 100000 in
theorem mok111 : MOK me111 := ⟨List.mem_of_getElem? (i := 1198) rfl, by decide +kernel, ⟨by decide +kernel, by decide +kernel, by decide +kernel⟩, by decide, at_in (p := 127) (by decide +kernel), Or.inr rfl, (fun _ => at_in (p := 1197) (by decide +kernel)), (fun h => absurd h (by decide)), (fun h => absurd h (by decide))⟩
set_option maxRecDepth 100000 in
theorem mok112 : MOK me112 := ⟨List.mem_of_getElem? (i := 1204) rfl, by decide +kernel, ⟨by decide +kernel, by decide +kernel, by decide +kernel⟩, by decide, at_in (p := 127) (by decide +kernel), Or.inr rfl, (fun h => absurd h (by decide)), (fun _ => ⟨at_in (p := 1202) (by decide +kernel), at_in (p := 1203) (by decide +kernel)⟩), (fun h => absurd h (by decide))⟩
set_option maxRecDepth 100000 in
theorem mok113 : MOK me113 := ⟨List.mem_of_getElem? (i := 1207) rfl, by decide +kernel, ⟨by decide +kernel, by decide +kernel, by decide +kernel⟩, by decide, at_in (p := 128) (by decide +kernel), Or.inr rfl, (fun _ => at_in (p := 1206) (by decide +kernel)), (fun h => absurd h (by decide)), (fun h => absurd h (by decide))⟩
set_option maxRecDepth 100000 in
theorem mok115 : MOK me115 := ⟨List.mem_of_getElem? (i := 1213) rfl, by decide +kernel, ⟨by decide +kernel, by decide +kernel, by decide +kernel⟩, by decide, at_in (p := 128) (by decide +kernel), Or.inr rfl, (fun h => absurd h (by decide)), (fun _ => ⟨at_in (p := 1211) (by decide +kernel), at_in (p := 1212) (by decide +kernel)⟩), (fun h => absurd h (by decide))⟩
set_option maxRecDepth 100000 in
theorem mok116 : MOK me116 := ⟨List.mem_of_getElem? (i := 1217) rfl, by decide +kernel, ⟨by decide +kernel, by decide +kernel, by decide +kernel⟩, by decide, at_in (p := 127) (by decide +kernel), Or.inr rfl, (fun h => absurd h (by decide)), (fun _ => ⟨at_in (p := 1215) (by decide +kernel), at_in (p := 1216) (by decide +kernel)⟩), (fun h => absurd h (by decide))⟩
set_option maxRecDepth 100000 in
theorem mok117 : MOK me117 := ⟨List.mem_of_getElem? (i := 1221) rfl, by decide +kernel, ⟨by decide +kernel, by decide +kernel, by decide +kernel⟩, by decide, at_in (p := 126) (by decide +kernel), Or.inr rfl, (fun h => absurd h (by decide)), (fun _ => ⟨at_in (p := 1219) (by decide +kernel), at_in (p := 1220) (by decide +kernel)⟩), (fun h => absurd h (by decide))⟩
set_option maxRecDepth 100000 in
theorem mok118 : MOK me118 := ⟨List.mem_of_getElem? (i := 1225) rfl, by decide +kernel, ⟨by decide +kernel, by decide +kernel, by decide +kernel⟩, by decide, at_in (p := 126) (by decide +kernel), Or.inr rfl, (fun h => absurd h (by decide)), (fun _ => ⟨at_in (p := 1223) (by decide +kernel), at_in (p := 1224) (by decide +kernel)⟩), (fun h => absurd h (by decide))⟩
set_option maxRecDepth 100000 in
theorem mok119 : MOK me119 := ⟨List.mem_of_getElem? (i := 1229) rfl, by decide +kernel, ⟨by decide +kernel, by decide +kernel, by decide +kernel⟩, by decide, at_in (p := 122) (by decide +kernel), Or.inr rfl, (fun h => absurd h (by decide)), (fun _ => ⟨at_in (p := 1227) (by decide +kernel), at_in (p := 1228) (by decide +kernel)⟩), (fun h => absurd h (by decide))⟩
set_option maxRecDepth 100000 in
theorem mok120 : MOK me120 := ⟨List.mem_of_getElem? (i := 1233) rfl, by decide +kernel, ⟨by decide +kernel, by decide +kernel, by decide +kernel⟩, by decide, at_in (p := 126) (by decide +kernel), Or.inr rfl, (fun h => absurd h (by decide)), (fun _ => ⟨at_in (p := 1231) (by decide +kernel), at_in (p := 1232) (by decide +kernel)⟩), (fun h => absurd h (by decide))⟩
set_option maxRecDepth 100000 in
theorem mok121 : MOK me121 := ⟨List.mem_of_getElem? (i := 1238) rfl, by decide +kernel, ⟨by decide +kernel, by decide +kernel, by decide +kernel⟩, by decide, at_in (p := 123) (by decide +kernel), Or.inr rfl, (fun h => absurd h (by decide)), (fun _ => ⟨at_in (p := 1236) (by decide +kernel), at_in (p := 1237) (by decide +kernel)⟩), (fun h => absurd h (by decide))⟩
set_option maxRecDepth 100000 in
theorem mok122 : MOK me122 := ⟨List.mem_of_getElem? (i := 1242) rfl, by decide +kernel, ⟨by decide +kernel, by decide +kernel, by decide +kernel⟩, by decide, at_in (p := 126) (by decide +kernel), Or.inr rfl, (fun h => absurd h (by decide)), (fun _ => ⟨at_in (p := 1241) (by decide +kernel), at_in (p := 38) (by decide +kernel)⟩), (fun h => absurd h (by decide))⟩
set_option maxRecDepth 100000 in
theorem mok123 : MOK me123 := ⟨List.mem_of_getElem? (i := 1247) rfl, by decide +kernel, ⟨by decide +kernel, by decide +kernel, by decide +kernel⟩, by decide, at_in (p := 128) (by decide +kernel), Or.inr rfl, (fun h => absurd h (by decide)), (fun _ => ⟨at_in (p := 1245) (by decide +kernel), at_in (p := 1246) (by decide +kernel)⟩), (fun h => absurd h (by decide))⟩
set_option maxRecDepth 100000 in
theorem mok124 : MOK me124 := ⟨List.mem_of_getElem? (i := 1252) rfl, by decide +kernel, ⟨by decide +kernel, by decide +kernel, by decide +kernel⟩, by decide, at_in (p := 122) (by decide +kernel), Or.inr rfl, (fun h => absurd h (by decide)), (fun _ => ⟨at_in (p := 1250) (by decide +kernel), at_in (p := 1251) (by decide +kernel)⟩), (fun h => absurd h (by decide))⟩
set_option maxRecDepth 100000 in
theorem mok125 : MOK me125 := ⟨List.mem_of_getElem? (i := 1256) rfl, by decide +kernel, ⟨by decide +kernel, by decide +kernel, by decide +kernel⟩, by decide, at_in (p := 126) (by decide +kernel), Or.inr rfl, (fun h => absurd h (by decide)), (fun _ => ⟨at_in (p := 1254) (by decide +kernel), at_in (p := 1255) (by decide +kernel)⟩), (fun h => absurd h (by decide))⟩
set_option maxRecDepth 100000 in
theorem mok126 : MOK me126 := ⟨List.mem_of_getElem? (i := 1261) rfl, by decide +kernel, ⟨by decide +kernel, by decide +kernel, by decide +kernel⟩, by decide, at_in (p := 123) (by decide +kernel), Or.inr rfl, (fun h => absurd h (by decide)), (fun _ => ⟨at_in (p := 1259) (by decide +kernel), at_in (p := 1260) (by decide +kernel)⟩), (fun h => absurd h (by decide))⟩
set_option maxRecDepth 100000 in
theorem mok127 : MOK me127 := ⟨List.mem_of_getElem? (i := 1266) rfl, by decide +kernel, ⟨by decide +kernel, by decide +kernel, by decide +kernel⟩, by decide, at_in (p := 122) (by decide +kernel), Or.inr rfl, (fun h => absurd h (by decide)), (fun _ => ⟨at_in (p := 1264) (by decide +kernel), at_in (p := 1265) (by decide +kernel)⟩), (fun h => absurd h (by decide))⟩
set_option maxRecDepth 100000 in
theorem mok128 : MOK me128 := ⟨List.mem_of_getElem? (i := 1270) rfl, by decide +kernel, ⟨by decide +kernel, by decide +kernel, by decide +kernel⟩, by decide, at_in (p := 126) (by decide +kernel), Or.inr rfl, (fun h => absurd h (by decide)), (fun _ => ⟨at_in (p := 1268) (by decide +kernel), at_in (p := 1269) (by decide +kernel)⟩), (fun h => absurd h (by decide))⟩
set_option maxRecDepth 100000 in
theorem mok129 : MOK me129 := ⟨List.mem_of_getElem? (i := 1275) rfl, by decide +kernel, ⟨by decide +kernel, by decide +kernel, by decide +kernel⟩, by decide, at_in (p := 122) (by decide +kernel), Or.inr rfl, (fun h => absurd h (by decide)), (fun _ => ⟨at_in (p := 1273) (by decide +kernel), at_in (p := 1274) (by decide +kernel)⟩), (fun h => absurd h (by decide))⟩
set_option maxRecDepth 100000 in
theorem mok130 : MOK me130 := ⟨List.mem_of_getElem? (i := 1279) rfl, by decide +kernel, ⟨by decide +kernel, by decide +kernel, by decide +kernel⟩, by decide, at_in (p := 122) (by decide +kernel), Or.inr rfl, (fun h => absurd h (by decide)), (fun _ => ⟨at_in (p := 1277) (by decide +kernel), at_in (p := 1278) (by decide +kernel)⟩), (fun h => absurd h (by decide))⟩
set_option maxRecDepth 100000 in
theorem mok131 : MOK me131 := ⟨List.mem_of_getElem? (i := 1283) rfl, by decide +kernel, ⟨by decide +kernel, by decide +kernel, by decide +kernel⟩, by decide, at_in (p := 126) (by decide +kernel), Or.inr rfl, (fun h => absurd h (by decide)), (fun _ => ⟨at_in (p := 1281) (by decide +kernel), at_in (p := 1282) (by decide +kernel)⟩), (fun h => absurd h (by decide))⟩
set_option maxRecDepth 100000 in
theorem mok132 : MOK me132 := ⟨List.mem_of_getElem? (i := 1288) rfl, by decide +kernel, ⟨by decide +kernel, by decide +kernel, by decide +kernel⟩, by decide, at_in (p := 126) (by decide +kernel), Or.inr rfl, (fun h => absurd h (by decide)), (fun _ => ⟨at_in (p := 1287) (by decide +kernel), at_in (p := 39) (by decide +kernel)⟩), (fun h => absurd h (by decide))⟩
set_option maxRecDepth 100000 in
theorem mok133 : MOK me133 := ⟨List.mem_of_getElem? (i := 1293) rfl, by decide +kernel, ⟨by decide +kernel, by decide +kernel, by decide +kernel⟩, by decide, at_in (p := 122) (by decide +kernel), Or.inr rfl, (fun h => absurd h (by decide)), (fun _ => ⟨at_in (p := 1291) (by decide +kernel), at_in (p := 1292) (by decide +kernel)⟩), (fun h => absurd h (by decide))⟩
set_option maxRecDepth 100000 in
theorem mok134 : MOK me134 := ⟨List.mem_of_getElem? (i := 1297) rfl, by decide +kernel, ⟨by decide +kernel, by decide +kernel, by decide +kernel⟩, by decide, at_in (p := 126) (by decide +kernel), Or.inr rfl, (fun h => absurd h (by decide)), (fun _ => ⟨at_in (p := 1295) (by decide +kernel), at_in (p := 1296) (by decide +kernel)⟩), (fun h => absurd h (by decide))⟩
set_option maxRecDepth 100000 in
theorem mok135 : MOK me135 := ⟨List.mem_of_getElem? (i := 1301) rfl, by decide +kernel, ⟨by decide +kernel, by decide +kernel, by decide +kernel⟩, by decide, at_in (p := 126) (by decide +kernel), Or.inr rfl, (fun h => absurd h (by decide)), (fun _ => ⟨at_in (p := 1300) (by decide +kernel), at_in (p := 40) (by decide +kernel)⟩), (fun h => absurd h (by decide))⟩
set_option maxRecDepth 100000 in
theorem mok136 : MOK me136 := ⟨List.mem_of_getElem? (i := 1306) rfl, by decide +kernel, ⟨by decide +kernel, by decide +kernel, by decide +kernel⟩, by decide, at_in (p := 122) (by decide +kernel), Or.inr rfl, (fun h => absurd h (by decide)), (fun _ => ⟨at_in (p := 1304) (by decide +kernel), at_in (p := 1305) (by decide +kernel)⟩), (fun h => absurd h (by decide))⟩
set_option maxRecDepth 100000 in
theorem mok137 : MOK me137 := ⟨List.mem_of_getElem? (i := 1310) rfl, by decide +kernel, ⟨by decide +kernel, by decide +kernel, by decide +kernel⟩, by decide, at_in (p := 122) (by decide +kernel), Or.inr rfl, (fun h => absurd h (by decide)), (fun _ => ⟨at_in (p := 1308) (by decide +kernel), at_in (p := 1309) (by decide +kernel)⟩), (fun h => absurd h (by decide))⟩
set_option maxRecDepth 100000 in
theorem mok138 : MOK me138 := ⟨List.mem_of_getElem? (i := 1314) rfl, by decide +kernel, ⟨by decide +kernel, by decide +kernel, by decide +kernel⟩, by decide, at_in (p := 126) (by decide +kernel), Or.inr rfl, (fun h => absurd h (by decide)), (fun _ => ⟨at_in (p := 1312) (by decide +kernel), at_in (p := 1313) (by decide +kernel)⟩), (fun h => absurd h (by decide))⟩
set_option maxRecDepth 100000 in
theorem mok139 : MOK me139 := ⟨List.mem_of_getElem? (i := 1318) rfl, by decide +kernel, ⟨by decide +kernel, by decide +kernel, by decide +kernel⟩, by decide, at_in (p := 126) (by decide +kernel), Or.inr rfl, (fun h => absurd h (by decide)), (fun _ => ⟨at_in (p := 1317) (by decide +kernel), at_in (p := 41) (by decide +kernel)⟩), (fun h => absurd h (by decide))⟩
set_option maxRecDepth 100000 in
theorem mok140 : MOK me140 := ⟨List.mem_of_getElem? (i := 1322) rfl, by decide +kernel, ⟨by decide +kernel, by decide +kernel, by decide +kernel⟩, by decide, at_in (p := 126) (by decide +kernel), Or.inr rfl, (fun h => absurd h (by decide)), (fun _ => ⟨at_in (p := 1321) (by decide +kernel), at_in (p := 42) (by decide +kernel)⟩), (fun h => absurd h (by decide))⟩
set_option maxRecDepth 100000 in
theorem mok141 : MOK me141 := ⟨List.mem_of_getElem? (i := 1326) rfl, by decide +kernel, ⟨by decide +kernel, by decide +kernel, by decide +kernel⟩, by decide, at_in (p := 123) (by decide +kernel), Or.inr rfl, (fun h => absurd h (by decide)), (fun _ => ⟨at_in (p := 1324) (by decide +kernel), at_in (p := 1325) (by decide +kernel)⟩), (fun h => absurd h (by decide))⟩
set_option maxRecDepth 100000 in
theorem mok142 : MOK me142 := ⟨List.mem_of_getElem? (i := 1331) rfl, by decide +kernel, ⟨by decide +kernel, by decide +kernel, by decide +kernel⟩, by decide, at_in (p := 126) (by decide +kernel), Or.inr rfl, (fun h => absurd h (by decide)), (fun _ => ⟨at_in (p := 1329) (by decide +kernel), at_in (p := 1330) (by decide +kernel)⟩), (fun h => absurd h (by decide))⟩
set_option maxRecDepth 100000 in
theorem mok143 : MOK me143 := ⟨List.mem_of_getElem? (i := 1335) rfl, by decide +kernel, ⟨by decide +kernel, by decide +kernel, by decide +kernel⟩, by decide, at_in (p := 126) (by decide +kernel), Or.inr rfl, (fun h => absurd h (by decide)), (fun _ => ⟨at_in (p := 1333) (by decide +kernel), at_in (p := 1334) (by decide +kernel)⟩), (fun h => absurd h (by decide))⟩
set_option maxRecDepth 100000 in
theorem mok144 : MOK me144 := ⟨List.mem_of_getElem? (i := 1340) rfl, by decide +kernel, ⟨by decide +kernel, by decide +kernel, by decide +kernel⟩, by decide, at_in (p := 122) (by decide +kernel), Or.inr rfl, (fun h => absurd h (by decide)), (fun _ => ⟨at_in (p := 1338) (by decide +kernel), at_in (p := 1339) (by decide +kernel)⟩), (fun h => absurd h (by decide))⟩
set_option maxRecDepth 100000 in
theorem mok145 : MOK me145 := ⟨List.mem_of_getElem? (i := 1344) rfl, by decide +kernel, ⟨by decide +kernel, by decide +kernel, by decide +kernel⟩, by decide, at_in (p := 130) (by decide +kernel), Or.inr rfl, (fun h => absurd h (by decide)), (fun _ => ⟨at_in (p := 1342) (by decide +kernel), at_in (p := 1343) (by decide +kernel)⟩), (fun h => absurd h (by decide))⟩
set_option maxRecDepth 100000 in
theorem mok146 : MOK me146 := ⟨List.mem_of_getElem? (i := 1351) rfl, by decide +kernel, ⟨by decide +kernel, by decide +kernel, by decide +kernel⟩, by decide, at_in (p := 130) (by decide +kernel), Or.inr rfl, (fun h => absurd h (by decide)), (fun _ => ⟨at_in (p := 1350) (by decide +kernel), at_in (p := 43) (by decide +kernel)⟩), (fun h => absurd h (by decide))⟩
set_option maxRecDepth 100000 in
theorem mok147 : MOK me147 := ⟨List.mem_of_getElem? (i := 1356) rfl, by decide +kernel, ⟨by decide +kernel, by decide +kernel, by decide +kernel⟩, by decide, at_in (p := 122) (by decide +kernel), Or.inr rfl, (fun h => absurd h (by decide)), (fun _ => ⟨at_in (p := 1354) (by decide +kernel), at_in (p := 1355) (by decide +kernel)⟩), (fun h => absurd h (by decide))⟩
set_option maxRecDepth 100000 in
theorem mok148 : MOK me148 := ⟨List.mem_of_getElem? (i := 1360) rfl, by decide +kernel, ⟨by decide +kernel, by decide +kernel, by decide +kernel⟩, by decide, at_in (p := 130) (by decide +kernel), Or.inr rfl, (fun h => absurd h (by decide)), (fun _ => ⟨at_in (p := 1358) (by decide +kernel), at_in (p := 1359) (by decide +kernel)⟩), (fun h => absurd h (by decide))⟩
set_option maxRecDepth 100000 in
theorem mok149 : MOK me149 := ⟨List.mem_of_getElem? (i := 1364) rfl, by decide +kernel, ⟨by decide +kernel, by decide +kernel, by decide +kernel⟩, by decide, at_in (p := 130) (by decide +kernel), Or.inr rfl, (fun h => absurd h (by decide)), (fun _ => ⟨at_in (p := 1363) (by decide +kernel), at_in (p := 44) (by decide +kernel)⟩), (fun h => absurd h (by decide))⟩
set_option maxRecDepth 100000 in
theorem mok150 : MOK me150 := ⟨List.mem_of_getElem? (i := 1368) rfl, by decide +kernel, ⟨by decide +kernel, by decide +kernel, by decide +kernel⟩, by decide, at_in (p := 130) (by decide +kernel), Or.inr rfl, (fun h => absurd h (by decide)), (fun _ => ⟨at_in (p := 1367) (by decide +kernel), at_in (p := 45) (by decide +kernel)⟩), (fun h => absurd h (by decide))⟩
set_option maxRecDepth 100000 in
theorem mok151 : MOK me151 := ⟨List.mem_of_getElem? (i := 1371) rfl, by decide +kernel, ⟨by decide +kernel, by decide +kernel, by decide +kernel⟩, by decide, at_in (p := 130) (by decide +kernel), Or.inr rfl, (fun _ => at_in (p := 1370) (by decide +kernel)), (fun h => absurd h (by decide)), (fun h => absurd h (by decide))⟩
set_option maxRecDepth 100000 in
theorem mok152 : MOK me152 := ⟨List.mem_of_getElem? (i := 1375) rfl, by decide +kernel, ⟨by decide +kernel, by decide +kernel, by decide +kernel⟩, by decide, at_in (p := 130) (by decide +kernel), Or.inr rfl, (fun h => absurd h (by decide)), (fun _ => ⟨at_in (p := 1374) (by decide +kernel), at_in (p := 46) (by decide +kernel)⟩), (fun h => absurd h (by decide))⟩
set_option maxRecDepth 100000 in
theorem mok153 : MOK me153 := ⟨List.mem_of_getElem? (i := 1379) rfl, by decide +kernel, ⟨by decide +kernel, by decide +kernel, by decide +kernel⟩, by decide, at_in (p := 130) (by decide +kernel), Or.inr rfl, (fun h => absurd h (by decide)), (fun _ => ⟨at_in (p := 1378) (by decide +kernel), at_in (p := 47) (by decide +kernel)⟩), (fun h => absurd h (by decide))⟩
set_option maxRecDepth 100000 in
theorem mok154 : MOK me154 := ⟨List.mem_of_getElem? (i := 1383) rfl, by decide +kernel, ⟨by decide +kernel, by decide +kernel, by decide +kernel⟩, by decide, at_in (p := 130) (by decide +kernel), Or.inr rfl, (fun h => absurd h (by decide)), (fun _ => ⟨at_in (p := 1382) (by decide +kernel), at_in (p := 48) (by decide +kernel)⟩), (fun h => absurd h (by decide))⟩
set_option maxRecDepth 100000 in
theorem mok155 : MOK me155 := ⟨List.mem_of_getElem? (i := 1388) rfl, by decide +kernel, ⟨by decide +kernel, by decide +kernel, by decide +kernel⟩, by decide, at_in (p := 122) (by decide +kernel), Or.inr rfl, (fun h => absurd h (by decide)), (fun _ => ⟨at_in (p := 1386) (by decide +kernel), at_in (p := 1387) (by decide +kernel)⟩), (fun h => absurd h (by decide))⟩
set_option maxRecDepth 100000 in
theorem mok156 : MOK me156 := ⟨List.mem_of_getElem? (i := 1392) rfl, by decide +kernel, ⟨by decide +kernel, by decide +kernel, by decide +kernel⟩, by decide, at_in (p := 132) (by decide +kernel), Or.inr rfl, (fun h => absurd h (by decide)), (fun _ => ⟨at_in (p := 1390) (by decide +kernel), at_in (p := 1391) (by decide +kernel)⟩), (fun h => absurd h (by decide))⟩
set_option maxRecDepth 100000 in
theorem mok157 : MOK me157 := ⟨List.mem_of_getElem? (i := 1397) rfl, by decide +kernel, ⟨by decide +kernel, by decide +kernel, by decide +kernel⟩, by decide, at_in (p := 131) (by decide +kernel), Or.inr rfl, (fun h => absurd h (by decide)), (fun _ => ⟨at_in (p := 1395) (by decide +kernel), at_in (p := 1396) (by decide +kernel)⟩), (fun h => absurd h (by decide))⟩
set_option maxRecDepth 100000 in
theorem mok158 : MOK me158 := ⟨List.mem_of_getElem? (i := 1401) rfl, by decide +kernel, ⟨by decide +kernel, by decide +kernel, by decide +kernel⟩, by decide, at_in (p := 132) (by decide +kernel), Or.inr rfl, (fun h => absurd h (by decide)), (fun _ => ⟨at_in (p := 1399) (by decide +kernel), at_in (p := 1400) (by decide +kernel)⟩), (fun h => absurd h (by decide))⟩
set_option maxRecDepth 100000 in
theorem mok159 : MOK me159 := ⟨List.mem_of_getElem? (i := 1405) rfl, by decide +kernel, ⟨by decide +kernel, by decide +kernel, by decide +kernel⟩, by decide, at_in (p := 122) (by decide +kernel), Or.inr rfl, (fun h => absurd h (by decide)), (fun _ => ⟨at_in (p := 1403) (by decide +kernel), at_in (p := 1404) (by decide +kernel)⟩), (fun h => absurd h (by decide))⟩
set_option maxRecDepth 100000 in
theorem mok160 : MOK me160 := ⟨List.mem_of_getElem? (i := 1409) rfl, by decide +kernel, ⟨by decide +kernel, by decide +kernel, by decide +kernel⟩, by decide, at_in (p := 122) (by decide +kernel), Or.inr rfl, (fun h => absurd h (by decide)), (fun _ => ⟨at_in (p := 1407) (by decide +kernel), at_in (p := 1408) (by decide +kernel)⟩), (fun h => absurd h (by decide))⟩
set_option maxRecDepth 100000 in
theorem mok161 : MOK me161 := ⟨List.mem_of_getElem? (i := 1413) rfl, by decide +kernel, ⟨by decide +kernel, by decide +kernel, by decide +kernel⟩, by decide, at_in (p := 132) (by decide +kernel), Or.inr rfl, (fun h => absurd h (by decide)), (fun _ => ⟨at_in (p := 1411) (by decide +kernel), at_in (p := 1412) (by decide +kernel)⟩), (fun h => absurd h (by decide))⟩
set_option maxRecDepth 100000 in
theorem mok162 : MOK me162 := ⟨List.mem_of_getElem? (i := 1419) rfl, by decide +kernel, ⟨by decide +kernel, by decide +kernel, by decide +kernel⟩, by decide, at_in (p := 122) (by decide +kernel), Or.inr rfl, (fun h => absurd h (by decide)), (fun _ => ⟨at_in (p := 1417) (by decide +kernel), at_in (p := 1418) (by decide +kernel)⟩), (fun h => absurd h (by decide))⟩
set_option maxRecDepth 100000 in
theorem mok163 : MOK me163 := ⟨List.mem_of_getElem? (i := 1423) rfl, by decide +kernel, ⟨by decide +kernel, by decide +kernel, by decide +kernel⟩, by decide, at_in (p := 122) (by decide +kernel), Or.inr rfl, (fun h => absurd h (by decide)), (fun _ => ⟨at_in (p := 1421) (by decide +kernel), at_in (p := 1422) (by decide +kernel)⟩), (fun h => absurd h (by decide))⟩
set_option maxRecDepth 100000 in
theorem mok164 : MOK me164 := ⟨List.mem_of_getElem? (i := 1427) rfl, by decide +kernel, ⟨by decide +kernel, by decide +kernel, by decide +kernel⟩, by decide, at_in (p := 131) (by decide +kernel), Or.inr rfl, (fun h => absurd h (by decide)), (fun _ => ⟨at_in (p := 1425) (by decide +kernel), at_in (p := 1426) (by decide +kernel)⟩), (fun h => absurd h (by decide))⟩
set_option maxRecDepth 100000 in
theorem mok165 : MOK me165 := ⟨List.mem_of_getElem? (i := 1431) rfl, by decide +kernel, ⟨by decide +kernel, by decide +kernel, by decide +kernel⟩, by decide, at_in (p := 131) (by decide +kernel), Or.inr rfl, (fun h => absurd h (by decide)), (fun _ => ⟨at_in (p := 1430) (by decide +kernel), at_in (p := 49) (by decide +kernel)⟩), (fun h => absurd h (by decide))⟩
set_option maxRecDepth 100000 in
theorem mok166 : MOK me166 := ⟨List.mem_of_getElem? (i := 1436) rfl, by decide +kernel, ⟨by decide +kernel, by decide +kernel, by decide +kernel⟩, by decide, at_in (p := 131) (by decide +kernel), Or.inr rfl, (fun h => absurd h (by decide)), (fun _ => ⟨at_in (p := 1435) (by decide +kernel), at_in (p := 50) (by decide +kernel)⟩), (fun h => absurd h (by decide))⟩
set_option maxRecDepth 100000 in
theorem mok167 : MOK me167 := ⟨List.mem_of_getElem? (i := 1441) rfl, by decide +kernel, ⟨by decide +kernel, by decide +kernel, by decide +kernel⟩, by decide, at_in (p := 131) (by decide +kernel), Or.inr rfl, (fun h => absurd h (by decide)), (fun _ => ⟨at_in (p := 1440) (by decide +kernel), at_in (p := 51) (by decide +kernel)⟩), (fun h => absurd h (by decide))⟩
set_option maxRecDepth 100000 in
theorem mok168 : MOK me168 := ⟨List.mem_of_getElem? (i := 1445) rfl, by decide +kernel, ⟨by decide +kernel, by decide +kernel, by decide +kernel⟩, by decide, at_in (p := 131) (by decide +kernel), Or.inr rfl, (fun h => absurd h (by decide)), (fun _ => ⟨at_in (p := 1444) (by decide +kernel), at_in (p := 52) (by decide +kernel)⟩), (fun h => absurd h (by decide))⟩
set_option maxRecDepth 100000 in
theorem mok169 : MOK me169 := ⟨List.mem_of_getElem? (i := 1449) rfl, by decide +kernel, ⟨by decide +kernel, by decide +kernel, by decide +kernel⟩, by decide, at_in (p := 122) (by decide +kernel), Or.inr rfl, (fun h => absurd h (by decide)), (fun _ => ⟨at_in (p := 1447) (by decide +kernel), at_in (p := 1448) (by decide +kernel)⟩), (fun h => absurd h (by decide))⟩
set_option maxRecDepth 100000 in
theorem mok170 : MOK me170 := ⟨List.mem_of_getElem? (i := 1453) rfl, by decide +kernel, ⟨by decide +kernel, by decide +kernel, by decide +kernel⟩, by decide, at_in (p := 132) (by decide +kernel), Or.inr rfl, (fun h => absurd h (by decide)), (fun _ => ⟨at_in (p := 1451) (by decide +kernel), at_in (p := 1452) (by decide +kernel)⟩), (fun h => absurd h (by decide))⟩
set_option maxRecDepth 100000 in
theorem mok171 : MOK me171 := ⟨List.mem_of_getElem? (i := 1457) rfl, by decide +kernel, ⟨by decide +kernel, by decide +kernel, by decide +kernel⟩, by decide, at_in (p := 132) (by decide +kernel), Or.inr rfl, (fun h => absurd h (by decide)), (fun _ => ⟨at_in (p := 1456) (by decide +kernel), at_in (p := 53) (by decide +kernel)⟩), (fun h => absurd h (by decide))⟩
set_option maxRecDepth 100000 in
theorem mok172 : MOK me172 := ⟨List.mem_of_getElem? (i := 1461) rfl, by decide +kernel, ⟨by decide +kernel, by decide +kernel, by decide +kernel⟩, by decide, at_in (p := 122) (by decide +kernel), Or.inr rfl, (fun h => absurd h (by decide)), (fun _ => ⟨at_in (p := 1459) (by decide +kernel), at_in (p := 1460) (by decide +kernel)⟩), (fun h => absurd h (by decide))⟩
set_option maxRecDepth 100000 in
theorem mok173 : MOK me173 := ⟨List.mem_of_getElem? (i := 1465) rfl, by decide +kernel, ⟨by decide +kernel, by decide +kernel, by decide +kernel⟩, by decide, at_in (p := 122) (by decide +kernel), Or.inr rfl, (fun h => absurd h (by decide)), (fun _ => ⟨at_in (p := 1463) (by decide +kernel), at_in (p := 1464) (by decide +kernel)⟩), (fun h => absurd h (by decide))⟩
set_option maxRecDepth 100000 in
theorem mok174 : MOK me174 := ⟨List.mem_of_getElem? (i := 1469) rfl, by decide +kernel, ⟨by decide +kernel, by decide +kernel, by decide +kernel⟩, by decide, at_in (p := 132) (by decide +kernel), Or.inr rfl, (fun h => absurd h (by decide)), (fun _ => ⟨at_in (p := 1467) (by decide +kernel), at_in (p := 1468) (by decide +kernel)⟩), (fun h => absurd h (by decide))⟩
set_option maxRecDepth 100000 in
theorem mok175 : MOK me175 := ⟨List.mem_of_getElem? (i := 1473) rfl, by decide +kernel, ⟨by decide +kernel, by decide +kernel, by decide +kernel⟩, by decide, at_in (p := 132) (by decide +kernel), Or.inr rfl, (fun h => absurd h (by decide)), (fun _ => ⟨at_in (p := 1472) (by decide +kernel), at_in (p := 54) (by decide +kernel)⟩), (fun h => absurd h (by decide))⟩
set_option maxRecDepth 100000 in
theorem mok176 : MOK me176 := ⟨List.mem_of_getElem? (i := 1477) rfl, by decide +kernel, ⟨by decide +kernel, by decide +kernel, by decide +kernel⟩, by decide, at_in (p := 132) (by decide +kernel), Or.inr rfl, (fun h => absurd h (by decide)), (fun _ => ⟨at_in (p := 1476) (by decide +kernel), at_in (p := 55) (by decide +kernel)⟩), (fun h => absurd h (by decide))⟩
set_option maxRecDepth 100000 in
theorem mok177 : MOK me177 := ⟨List.mem_of_getElem? (i := 1481) rfl, by decide +kernel, ⟨by decide +kernel, by decide +kernel, by decide +kernel⟩, by decide, at_in (p := 132) (by decide +kernel), Or.inr rfl, (fun h => absurd h (by decide)), (fun _ => ⟨at_in (p := 1480) (by decide +kernel), at_in (p := 56) (by decide +kernel)⟩), (fun h => absurd h (by decide))⟩
set_option maxRecDepth 100000 in
theorem mok178 : MOK me178 := ⟨List.mem_of_getElem? (i := 1485) rfl, by decide +kernel, ⟨by decide +kernel, by decide +kernel, by decide +kernel⟩, by decide, at_in (p := 132) (by decide +kernel), Or.inr rfl, (fun h => absurd h (by decide)), (fun _ => ⟨at_in (p := 1483) (by decide +kernel), at_in (p := 1484) (by decide +kernel)⟩), (fun h => absurd h (by decide))⟩
set_option maxRecDepth 100000 in
theorem mok179 : MOK me179 := ⟨List.mem_of_getElem? (i := 1489) rfl, by decide +kernel, ⟨by decide +kernel, by decide +kernel, by decide +kernel⟩, by decide, at_in (p := 122) (by decide +kernel), Or.inr rfl, (fun h => absurd h (by decide)), (fun _ => ⟨at_in (p := 1487) (by decide +kernel), at_in (p := 1488) (by decide +kernel)⟩), (fun h => absurd h (by decide))⟩
set_option maxRecDepth 100000 in
theorem mok180 : MOK me180 := ⟨List.mem_of_getElem? (i := 1493) rfl, by decide +kernel, ⟨by decide +kernel, by decide +kernel, by decide +kernel⟩, by decide, at_in (p := 122) (by decide +kernel), Or.inr rfl, (fun h => absurd h (by decide)), (fun _ => ⟨at_in (p := 1491) (by decide +kernel), at_in (p := 1492) (by decide +kernel)⟩), (fun h => absurd h (by decide))⟩
set_option maxRecDepth 100000 in
theorem mok181 : MOK me181 := ⟨List.mem_of_getElem? (i := 1498) rfl, by decide +kernel, ⟨by decide +kernel, by decide +kernel, by decide +kernel⟩, by decide, at_in (p := 122) (by decide +kernel), Or.inr rfl, (fun h => absurd h (by decide)), (fun _ => ⟨at_in (p := 1496) (by decide +kernel), at_in (p := 1497) (by decide +kernel)⟩), (fun h => absurd h (by decide))⟩
set_option maxRecDepth 100000 in
theorem mok182 : MOK me182 := ⟨List.mem_of_getElem? (i := 1503) rfl, by decide +kernel, ⟨by decide +kernel, by decide +kernel, by decide +kernel⟩, by decide, at_in (p := 122) (by decide +kernel), Or.inr rfl, (fun h => absurd h (by decide)), (fun _ => ⟨at_in (p := 1502) (by decide +kernel), at_in (p := 57) (by decide +kernel)⟩), (fun h => absurd h (by decide))⟩
set_option maxRecDepth 100000 in
theorem mok183 : MOK me183 := ⟨List.mem_of_getElem? (i := 1509) rfl, by decide +kernel, ⟨by decide +kernel, by decide +kernel, by decide +kernel⟩, by decide, at_in (p := 122) (by decide +kernel), Or.inr rfl, (fun h => absurd h (by decide)), (fun _ => ⟨at_in (p := 1507) (by decide +kernel), at_in (p := 1508) (by decide +kernel)⟩), (fun h => absurd h (by decide))⟩
set_option maxRecDepth 100000 in
theorem mok184 : MOK me184 := ⟨List.mem_of_getElem? (i := 1513) rfl, by decide +kernel, ⟨by decide +kernel, by decide +kernel, by decide +kernel⟩, by decide, at_in (p := 122) (by decide +kernel), Or.inr rfl, (fun h => absurd h (by decide)), (fun _ => ⟨at_in (p := 1511) (by decide +kernel), at_in (p := 1512) (by decide +kernel)⟩), (fun h => absurd h (by decide))⟩
set_option maxRecDepth 100000 in
theorem mok185 : MOK me185 := ⟨List.mem_of_getElem? (i := 1517) rfl, by decide +kernel, ⟨by decide +kernel, by decide +kernel, by decide +kernel⟩, by decide, at_in (p := 123) (by decide +kernel), Or.inr rfl, (fun h => absurd h (by decide)), (fun _ => ⟨at_in (p := 1515) (by decide +kernel), at_in (p := 1516) (by decide +kernel)⟩), (fun h => absurd h (by decide))⟩
set_option maxRecDepth 100000 in
theorem mok186 : MOK me186 := ⟨List.mem_of_getElem? (i := 1522) rfl, by decide +kernel, ⟨by decide +kernel, by decide +kernel, by decide +kernel⟩, by decide, at_in (p := 124) (by decide +kernel), Or.inr rfl, (fun h => absurd h (by decide)), (fun _ => ⟨at_in (p := 1520) (by decide +kernel), at_in (p := 1521) (by decide +kernel)⟩), (fun h => absurd h (by decide))⟩
set_option maxRecDepth 100000 in
theorem mok187 : MOK me187 := ⟨List.mem_of_getElem? (i := 1527) rfl, by decide +kernel, ⟨by decide +kernel, by decide +kernel, by decide +kernel⟩, by decide, at_in (p := 122) (by decide +kernel), Or.inr rfl, (fun h => absurd h (by decide)), (fun _ => ⟨at_in (p := 1525) (by decide +kernel), at_in (p := 1526) (by decide +kernel)⟩), (fun h => absurd h (by decide))⟩
set_option maxRecDepth 100000 in
theorem mok188 : MOK me188 := ⟨List.mem_of_getElem? (i := 1531) rfl, by decide +kernel, ⟨by decide +kernel, by decide +kernel, by decide +kernel⟩, by decide, at_in (p := 122) (by decide +kernel), Or.inr rfl, (fun h => absurd h (by decide)), (fun _ => ⟨at_in (p := 1529) (by decide +kernel), at_in (p := 1530) (by decide +kernel)⟩), (fun h => absurd h (by decide))⟩
set_option maxRecDepth 100000 in
theorem mok189 : MOK me189 := ⟨List.mem_of_getElem? (i := 1535) rfl, by decide +kernel, ⟨by decide +kernel, by decide +kernel, by decide +kernel⟩, by decide, at_in (p := 132) (by decide +kernel), Or.inr rfl, (fun h => absurd h (by decide)), (fun _ => ⟨at_in (p := 1533) (by decide +kernel), at_in (p := 1534) (by decide +kernel)⟩), (fun h => absurd h (by decide))⟩
set_option maxRecDepth 100000 in
theorem mok190 : MOK me190 := ⟨List.mem_of_getElem? (i := 1539) rfl, by decide +kernel, ⟨by decide +kernel, by decide +kernel, by decide +kernel⟩, by decide, at_in (p := 122) (by decide +kernel), Or.inr rfl, (fun h => absurd h (by decide)), (fun _ => ⟨at_in (p := 1537) (by decide +kernel), at_in (p := 1538) (by decide +kernel)⟩), (fun h => absurd h (by decide))⟩
set_option maxRecDepth 100000 in
theorem mok191 : MOK me191 := ⟨List.mem_of_getElem? (i := 1544) rfl, by decide +kernel, ⟨by decide +kernel, by decide +kernel, by decide +kernel⟩, by decide, at_in (p := 134) (by decide +kernel), Or.inr rfl, (fun h => absurd h (by decide)), (fun h => absurd h (by decide)), (fun _ => ⟨at_in (p := 1543) (by decide +kernel), rfl, rfl⟩)⟩
set_option maxRecDepth 100000 in
theorem mok192 : MOK me192 := ⟨List.mem_of_getElem? (i := 1762) rfl, by decide +kernel, ⟨by decide +kernel, by decide +kernel, by decide +kernel⟩, by decide, at_in (p := 134) (by decide +kernel), Or.inr rfl, (fun h => absurd h (by decide)), (fun _ => ⟨at_in (p := 1760) (by decide +kernel), at_in (p := 1761) (by decide +kernel)⟩), (fun h => absurd h (by decide))⟩
set_option maxRecDepth 100000 in
theorem mok193 : MOK me193 := ⟨List.mem_of_getElem? (i := 1765) rfl, by decide +kernel, ⟨by decide +kernel, by decide +kernel, by decide +kernel⟩, by decide, at_in (p := 134) (by decide +kernel), Or.inr rfl, (fun _ => at_in (p := 1764) (by decide +kernel)), (fun h => absurd h (by decide)), (fun h => absurd h (by decide))⟩
set_option maxRecDepth 100000 in
theorem mok194 : MOK me194 := ⟨List.mem_of_getElem? (i := 1769) rfl, by decide +kernel, ⟨by decide +kernel, by decide +kernel, by decide +kernel⟩, by decide, at_in (p := 134) (by decide +kernel), Or.inr rfl, (fun h => absurd h (by decide)), (fun _ => ⟨at_in (p := 1768) (by decide +kernel), at_in (p := 58) (by decide +kernel)⟩), (fun h => absurd h (by decide))⟩
set_option maxRecDepth 100000 in
theorem mok195 : MOK me195 := ⟨List.mem_of_getElem? (i := 1773) rfl, by decide +kernel, ⟨by decide +kernel, by decide +kernel, by decide +kernel⟩, by decide, at_in (p := 134) (by decide +kernel), Or.inr rfl, (fun h => absurd h (by decide)), (fun _ => ⟨at_in (p := 1771) (by decide +kernel), at_in (p := 1772) (by decide +kernel)⟩), (fun h => absurd h (by decide))⟩
set_option maxRecDepth 100000 in
theorem mok196 : MOK me196 := ⟨List.mem_of_getElem? (i := 1777) rfl, by decide +kernel, ⟨by decide +kernel, by decide +kernel, by decide +kernel⟩, by decide, at_in (p := 134) (by decide +kernel), Or.inr rfl, (fun h => absurd h (by decide)), (fun _ => ⟨at_in (p := 1775) (by decide +kernel), at_in (p := 1776) (by decide +kernel)⟩), (fun h => absurd h (by decide))⟩
set_option maxRecDepth 100000 in
theorem mok197 : MOK me197 := ⟨List.mem_of_getElem? (i := 1780) rfl, by decide +kernel, ⟨by decide +kernel, by decide +kernel, by decide +kernel⟩, by decide, at_in (p := 134) (by decide +kernel), Or.inr rfl, (fun _ => at_in (p := 1779) (by decide +kernel)), (fun h => absurd h (by decide)), (fun h => absurd h (by decide))⟩
set_option maxRecDepth 100000 in
theorem mok198 : MOK me198 := ⟨List.mem_of_getElem? (i := 1786) rfl, by decide +kernel, ⟨by decide +kernel, by decide +kernel, by decide +kernel⟩, by decide, at_in (p := 134) (by decide +kernel), Or.inr rfl, (fun h => absurd h (by decide)), (fun _ => ⟨at_in (p := 1785) (by decide +kernel), at_in (p := 59) (by decide +kernel)⟩), (fun h => absurd h (by decide))⟩
set_option maxRecDepth 100000 in
theorem mok199 : MOK me199 := ⟨List.mem_of_getElem? (i := 1790) rfl, by decide +kernel, ⟨by decide +kernel, by decide +kernel, by decide +kernel⟩, by decide, at_in (p := 134) (by decide +kernel), Or.inr rfl, (fun h => absurd h (by decide)), (fun _ => ⟨at_in (p := 1789) (by decide +kernel), at_in (p := 60) (by decide +kernel)⟩), (fun h => absurd h (by decide))⟩
set_option maxRecDepth 100000 in
theorem mok200 : MOK me200 := ⟨List.mem_of_getElem? (i := 1794) rfl, by decide +kernel, ⟨by decide +kernel, by decide +kernel, by decide +kernel⟩, by decide, at_in (p := 134) (by decide +kernel), Or.inr rfl, (fun h => absurd h (by decide)), (fun _ => ⟨at_in (p := 1793) (by decide +kernel), at_in (p := 61) (by decide +kernel)⟩), (fun h => absurd h (by decide))⟩
set_option maxRecDepth 100000 in
theorem mok201 : MOK me201 := ⟨List.mem_of_getElem? (i := 1798) rfl, by decide +kernel, ⟨by decide +kernel, by decide +kernel, by decide +kernel⟩, by decide, at_in (p := 134) (by decide +kernel), Or.inr rfl, (fun h => absurd h (by decide)), (fun _ => ⟨at_in (p := 1796) (by decide +kernel), at_in (p := 1797) (by decide +kernel)⟩), (fun h => absurd h (by decide))⟩
set_option maxRecDepth 100000 in
theorem mok202 : MOK me202 := ⟨List.mem_of_getElem? (i := 1801) rfl, by decide +kernel, ⟨by decide +kernel, by decide +kernel, by decide +kernel⟩, by decide, at_in (p := 134) (by decide +kernel), Or.inr rfl, (fun _ => at_in (p := 1800) (by decide +kernel)), (fun h => absurd h (by decide)), (fun h => absurd h (by decide))⟩
set_option maxRecDepth 100000 in
theorem mok203 : MOK me203 := ⟨List.mem_of_getElem? (i := 1807) rfl, by decide +kernel, ⟨by decide +kernel, by decide +kernel, by decide +kernel⟩, by decide, at_in (p := 134) (by decide +kernel), Or.inr rfl, (fun h => absurd h (by decide)), (fun _ => ⟨at_in (p := 1805) (by decide +kernel), at_in (p := 1806) (by decide +kernel)⟩), (fun h => absurd h (by decide))⟩
set_option maxRecDepth 100000 in
theorem mok204 : MOK me204 := ⟨List.mem_of_getElem? (i := 1812) rfl, by decide +kernel, ⟨by decide +kernel, by decide +kernel, by decide +kernel⟩, by decide, at_in (p := 134) (by decide +kernel), Or.inr rfl, (fun h => absurd h (by decide)), (fun _ => ⟨at_in (p := 1811) (by decide +kernel), at_in (p := 62) (by decide +kernel)⟩), (fun h => absurd h (by decide))⟩
set_option maxRecDepth 100000 in
theorem mok205 : MOK me205 := ⟨List.mem_of_getElem? (i := 1816) rfl, by decide +kernel, ⟨by decide +kernel, by decide +kernel, by decide +kernel⟩, by decide, at_in (p := 134) (by decide +kernel), Or.inr rfl, (fun h => absurd h (by decide)), (fun _ => ⟨at_in (p := 1814) (by decide +kernel), at_in (p := 1815) (by decide +kernel)⟩), (fun h => absurd h (by decide))⟩
set_option maxRecDepth 100000 in
theorem mok206 : MOK me206 := ⟨List.mem_of_getElem? (i := 1821) rfl, by decide +kernel, ⟨by decide +kernel, by decide +kernel, by decide +kernel⟩, by decide, at_in (p := 134) (by decide +kernel), Or.inr rfl, (fun h => absurd h (by decide)), (fun _ => ⟨at_in (p := 1819) (by decide +kernel), at_in (p := 1820) (by decide +kernel)⟩), (fun h => absurd h (by decide))⟩
set_option maxRecDepth 100000 in
theorem mok207 : MOK me207 := ⟨List.mem_of_getElem? (i := 1825) rfl, by decide +kernel, ⟨by decide +kernel, by decide +kernel, by decide +kernel⟩, by decide, at_in (p := 134) (by decide +kernel), Or.inr rfl, (fun h => absurd h (by decide)), (fun _ => ⟨at_in (p := 1823) (by decide +kernel), at_in (p := 1824) (by decide +kernel)⟩), (fun h => absurd h (by decide))⟩
set_option maxRecDepth 100000 in
theorem mok208 : MOK me208 := ⟨List.mem_of_getElem? (i := 1831) rfl, by decide +kernel, ⟨by decide +kernel, by decide +kernel, by decide +kernel⟩, by decide, at_in (p := 134) (by decide +kernel), Or.inr rfl, (fun h => absurd h (by decide)), (fun _ => ⟨at_in (p := 1829) (by decide +kernel), at_in (p := 1830) (by decide +kernel)⟩), (fun h => absurd h (by decide))⟩
set_option maxRecDepth 100000 in
theorem mok209 : MOK me209 := ⟨List.mem_of_getElem? (i := 1835) rfl, by decide +kernel, ⟨by decide +kernel, by decide +kernel, by decide +kernel⟩, by decide, at_in (p := 134) (by decide +kernel), Or.inr rfl, (fun h => absurd h (by decide)), (fun _ => ⟨at_in (p := 1834) (by decide +kernel), at_in (p := 63) (by decide +kernel)⟩), (fun h => absurd h (by decide))⟩
set_option maxRecDepth 100000 in
theorem mok210 : MOK me210 := ⟨List.mem_of_getElem? (i := 1839) rfl, by decide +kernel, ⟨by decide +kernel, by decide +kernel, by decide +kernel⟩, by decide, at_in (p := 134) (by decide +kernel), Or.inr rfl, (fun h => absurd h (by decide)), (fun _ => ⟨at_in (p := 1837) (by decide +kernel), at_in (p := 1838) (by decide +kernel)⟩), (fun h => absurd h (by decide))⟩
set_option maxRecDepth 100000 in
theorem mok211 : MOK me211 := ⟨List.mem_of_getElem? (i := 1843) rfl, by decide +kernel, ⟨by decide +kernel, by decide +kernel, by decide +kernel⟩, by decide, at_in (p := 134) (by decide +kernel), Or.inr rfl, (fun h => absurd h (by decide)), (fun _ => ⟨at_in (p := 1841) (by decide +kernel), at_in (p := 1842) (by decide +kernel)⟩), (fun h => absurd h (by decide))⟩
set_option maxRecDepth 100000 in
theorem mok212 : MOK me212 := ⟨List.mem_of_getElem? (i := 1847) rfl, by decide +kernel, ⟨by decide +kernel, by decide +kernel, by decide +kernel⟩, by decide, at_in (p := 134) (by decide +kernel), Or.inr rfl, (fun h => absurd h (by decide)), (fun _ => ⟨at_in (p := 1845) (by decide +kernel), at_in (p := 1846) (by decide +kernel)⟩), (fun h => absurd h (by decide))⟩
set_option maxRecDepth 100000 in
theorem mok213 : MOK me213 := ⟨List.mem_of_getElem? (i := 1851) rfl, by decide +kernel, ⟨by decide +kernel, by decide +kernel, by decide +kernel⟩, by decide, at_in (p := 134) (by decide +kernel), Or.inr rfl, (fun h => absurd h (by decide)), (fun _ => ⟨at_in (p := 1850) (by decide +kernel), at_in (p := 64) (by decide +kernel)⟩), (fun h => absurd h (by decide))⟩
set_option maxRecDepth 100000 in
theorem mok214 : MOK me214 := ⟨List.mem_of_getElem? (i := 1855) rfl, by decide +kernel, ⟨by decide +kernel, by decide +kernel, by decide +kernel⟩, by decide, at_in (p := 134) (by decide +kernel), Or.inr rfl, (fun h => absurd h (by decide)), (fun _ => ⟨at_in (p := 1854) (by decide +kernel), at_in (p := 65) (by decide +kernel)⟩), (fun h => absurd h (by decide))⟩
set_option maxRecDepth 100000 in
theorem mok215 : MOK me215 := ⟨List.mem_of_getElem? (i := 1858) rfl, by decide +kernel, ⟨by decide +kernel, by decide +kernel, by decide +kernel⟩, by decide, at_in (p := 134) (by decide +kernel), Or.inr rfl, (fun _ => at_in (p := 1857) (by decide +kernel)), (fun h => absurd h (by decide)), (fun h => absurd h (by decide))⟩
set_option maxRecDepth 100000 in
theorem mok216 : MOK me216 := ⟨List.mem_of_getElem? (i := 1861) rfl, by decide +kernel, ⟨by decide +kernel, by decide +kernel, by decide +kernel⟩, by decide, at_in (p := 134) (by decide +kernel), Or.inr rfl, (fun _ => at_in (p := 1860) (by decide +kernel)), (fun h => absurd h (by decide)), (fun h => absurd h (by decide))⟩
set_option maxRecDepth 100000 in
theorem mok217 : MOK me217 := ⟨List.mem_of_getElem? (i := 1871) rfl, by decide +kernel, ⟨by decide +kernel, by decide +kernel, by decide +kernel⟩, by decide, at_in (p := 134) (by decide +kernel), Or.inr rfl, (fun h => absurd h (by decide)), (fun _ => ⟨at_in (p := 1870) (by decide +kernel), at_in (p := 66) (by decide +kernel)⟩), (fun h => absurd h (by decide))⟩
set_option maxRecDepth 100000 in
theorem mok218 : MOK me218 := ⟨List.mem_of_getElem? (i := 1876) rfl, by decide +kernel, ⟨by decide +kernel, by decide +kernel, by decide +kernel⟩, by decide, at_in (p := 134) (by decide +kernel), Or.inr rfl, (fun h => absurd h (by decide)), (fun _ => ⟨at_in (p := 1875) (by decide +kernel), at_in (p := 67) (by decide +kernel)⟩), (fun h => absurd h (by decide))⟩
set_option maxRecDepth 100000 in
theorem mok219 : MOK me219 := ⟨List.mem_of_getElem? (i := 1882) rfl, by decide +kernel, ⟨by decide +kernel, by decide +kernel, by decide +kernel⟩, by decide, at_in (p := 134) (by decide +kernel), Or.inr rfl, (fun h => absurd h (by decide)), (fun _ => ⟨at_in (p := 1881) (by decide +kernel), at_in (p := 68) (by decide +kernel)⟩), (fun h => absurd h (by decide))⟩
set_option maxRecDepth 100000 in
theorem mok220 : MOK me220 := ⟨List.mem_of_getElem? (i := 1886) rfl, by decide +kernel, ⟨by decide +kernel, by decide +kernel, by decide +kernel⟩, by decide, at_in (p := 134) (by decide +kernel), Or.inr rfl, (fun h => absurd h (by decide)), (fun _ => ⟨at_in (p := 1885) (by decide +kernel), at_in (p := 69) (by decide +kernel)⟩), (fun h => absurd h (by decide))⟩
set_option maxRecDepth 100000 in
theorem mok221 : MOK me221 := ⟨List.mem_of_getElem? (i := 1890) rfl, by decide +kernel, ⟨by decide +kernel, by decide +kernel, by decide +kernel⟩, by decide, at_in (p := 134) (by decide +kernel), Or.inr rfl, (fun h => absurd h (by decide)), (fun _ => ⟨at_in (p := 1889) (by decide +kernel), at_in (p := 70) (by decide +kernel)⟩), (fun h => absurd h (by decide))⟩
set_option maxRecDepth 100000 in
theorem mok222 : MOK me222 := ⟨List.mem_of_getElem? (i := 1895) rfl, by decide +kernel, ⟨by decide +kernel, by decide +kernel, by decide +kernel⟩, by decide, at_in (p := 134) (by decide +kernel), Or.inr rfl, (fun h => absurd h (by decide)), (fun _ => ⟨at_in (p := 1894) (by decide +kernel), at_in (p := 71) (by decide +kernel)⟩), (fun h => absurd h (by decide))⟩
set_option maxRecDepth 100000 in
theorem mok223 : MOK me223 := ⟨List.mem_of_getElem? (i := 1900) rfl, by decide +kernel, ⟨by decide +kernel, by decide +kernel, by decide +kernel⟩, by decide, at_in (p := 134) (by decide +kernel), Or.inr rfl, (fun h => absurd h (by decide)), (fun _ => ⟨at_in (p := 1899) (by decide +kernel), at_in (p := 72) (by decide +kernel)⟩), (fun h => absurd h (by decide))⟩
set_option maxRecDepth 100000 in
theorem mok224 : MOK me224 := ⟨List.mem_of_getElem? (i := 1904) rfl, by decide +kernel, ⟨by decide +kernel, by decide +kernel, by decide +kernel⟩, by decide, at_in (p := 134) (by decide +kernel), Or.inr rfl, (fun h => absurd h (by decide)), (fun _ => ⟨at_in (p := 1903) (by decide +kernel), at_in (p := 73) (by decide +kernel)⟩), (fun h => absurd h (by decide))⟩
set_option maxRecDepth 100000 in
theorem mok225 : MOK me225 := ⟨List.mem_of_getElem? (i := 1909) rfl, by decide +kernel, ⟨by decide +kernel, by decide +kernel, by decide +kernel⟩, by decide, at_in (p := 134) (by decide +kernel), Or.inr rfl, (fun h => absurd h (by decide)), (fun _ => ⟨at_in (p := 1908) (by decide +kernel), at_in (p := 74) (by decide +kernel)⟩), (fun h => absurd h (by decide))⟩
set_option maxRecDepth 100000 in
theorem mok226 : MOK me226 := ⟨List.mem_of_getElem? (i := 1913) rfl, by decide +kernel, ⟨by decide +kernel, by decide +kernel, by decide +kernel⟩, by decide, at_in (p := 134) (by decide +kernel), Or.inr rfl, (fun h => absurd h (by decide)), (fun _ => ⟨at_in (p := 1912) (by decide +kernel), at_in (p := 75) (by decide +kernel)⟩), (fun h => absurd h (by decide))⟩
set_option maxRecDepth 100000 in
theorem mok227 : MOK me227 := ⟨List.mem_of_getElem? (i := 1917) rfl, by decide +kernel, ⟨by decide +kernel, by decide +kernel, by decide +kernel⟩, by decide, at_in (p := 134) (by decide +kernel), Or.inr rfl, (fun h => absurd h (by decide)), (fun _ => ⟨at_in (p := 1916) (by decide +kernel), at_in (p := 76) (by decide +kernel)⟩), (fun h => absurd h (by decide))⟩
set_option maxRecDepth 100000 in
theorem mok228 : MOK me228 := ⟨List.mem_of_getElem? (i := 1921) rfl, by decide +kernel, ⟨by decide +kernel, by decide +kernel, by decide +kernel⟩, by decide, at_in (p := 134) (by decide +kernel), Or.inr rfl, (fun h => absurd h (by decide)), (fun _ => ⟨at_in (p := 1920) (by decide +kernel), at_in (p := 77) (by decide +kernel)⟩), (fun h => absurd h (by decide))⟩
set_option maxRecDepth 100000 in
theorem mok229 : MOK me229 := ⟨List.mem_of_getElem? (i := 1925) rfl, by decide +kernel, ⟨by decide +kernel, by decide +kernel, by decide +kernel⟩, by decide, at_in (p := 134) (by decide +kernel), Or.inr rfl, (fun h => absurd h (by decide)), (fun _ => ⟨at_in (p := 1924) (by decide +kernel), at_in (p := 78) (by decide +kernel)⟩), (fun h => absurd h (by decide))⟩
set_option maxRecDepth 100000 in
theorem mok230 : MOK me230 := ⟨List.mem_of_getElem? (i := 1930) rfl, by decide +kernel, ⟨by decide +kernel, by decide +kernel, by decide +kernel⟩, by decide, at_in (p := 134) (by decide +kernel), Or.inr rfl, (fun h => absurd h (by decide)), (fun _ => ⟨at_in (p := 1929) (by decide +kernel), at_in (p := 79) (by decide +kernel)⟩), (fun h => absurd h (by decide))⟩
set_option maxRecDepth 100000 in
theorem mok231 : MOK me231 := ⟨List.mem_of_getElem? (i := 1934) rfl, by decide +kernel, ⟨by decide +kernel, by decide +kernel, by decide +kernel⟩, by decide, at_in (p := 134) (by decide +kernel), Or.inr rfl, (fun h => absurd h (by decide)), (fun _ => ⟨at_in (p := 1933) (by decide +kernel), at_in (p := 80) (by decide +kernel)⟩), (fun h => absurd h (by decide))⟩
set_option maxRecDepth 100000 in
theorem mok232 : MOK me232 := ⟨List.mem_of_getElem? (i := 1938) rfl, by decide +kernel, ⟨by decide +kernel, by decide +kernel, by decide +kernel⟩, by decide, at_in (p := 134) (by decide +kernel), Or.inr rfl, (fun h => absurd h (by decide)), (fun _ => ⟨at_in (p := 1937) (by decide +kernel), at_in (p := 81) (by decide +kernel)⟩), (fun h => absurd h (by decide))⟩
set_option maxRecDepth 100000 in
theorem mok233 : MOK me233 := ⟨List.mem_of_getElem? (i := 1941) rfl, by decide +kernel, ⟨by decide +kernel, by decide +kernel, by decide +kernel⟩, by decide, at_in (p := 134) (by decide +kernel), Or.inr rfl, (fun _ => at_in (p := 1940) (by decide +kernel)), (fun h => absurd h (by decide)), (fun h => absurd h (by decide))⟩
set_option maxRecDepth 100000 in
theorem mok234 : MOK me234 := ⟨List.mem_of_getElem? (i := 1945) rfl, by decide +kernel, ⟨by decide +kernel, by decide +kernel, by decide +kernel⟩, by decide, at_in (p := 134) (by decide +kernel), Or.inr rfl, (fun h => absurd h (by decide)), (fun _ => ⟨at_in (p := 1944) (by decide +kernel), at_in (p := 82) (by decide +kernel)⟩), (fun h => absurd h (by decide))⟩
set_option maxRecDepth 100000 in
theorem mok235 : MOK me235 := ⟨List.mem_of_getElem? (i := 1949) rfl, by decide +kernel, ⟨by decide +kernel, by decide +kernel, by decide +kernel⟩, by decide, at_in (p := 134) (by decide +kernel), Or.inr rfl, (fun h => absurd h (by decide)), (fun _ => ⟨at_in (p := 1948) (by decide +kernel), at_in (p := 83) (by decide +kernel)⟩), (fun h => absurd h (by decide))⟩
set_option maxRecDepth 100000 in
theorem mok236 : MOK me236 := ⟨List.mem_of_getElem? (i := 1953) rfl, by decide +kernel, ⟨by decide +kernel, by decide +kernel, by decide +kernel⟩, by decide, at_in (p := 134) (by decide +kernel), Or.inr rfl, (fun h => absurd h (by decide)), (fun _ => ⟨at_in (p := 1952) (by decide +kernel), at_in (p := 84) (by decide +kernel)⟩), (fun h => absurd h (by decide))⟩
set_option maxRecDepth 100000 in
theorem mok237 : MOK me237 := ⟨List.mem_of_getElem? (i := 1961) rfl, by decide +kernel, ⟨by decide +kernel, by decide +kernel, by decide +kernel⟩, by decide, at_in (p := 134) (by decide +kernel), Or.inr rfl, (fun h => absurd h (by decide)), (fun _ => ⟨at_in (p := 1960) (by decide +kernel), at_in (p := 85) (by decide +kernel)⟩), (fun h => absurd h (by decide))⟩
set_option maxRecDepth 100000 in
theorem mok238 : MOK me238 := ⟨List.mem_of_getElem? (i := 1967) rfl, by decide +kernel, ⟨by decide +kernel, by decide +kernel, by decide +kernel⟩, by decide, at_in (p := 134) (by decide +kernel), Or.inr rfl, (fun h => absurd h (by decide)), (fun _ => ⟨at_in (p := 1965) (by decide +kernel), at_in (p := 1966) (by decide +kernel)⟩), (fun h => absurd h (by decide))⟩
set_option maxRecDepth 100000 in
theorem mok239 : MOK me239 := ⟨List.mem_of_getElem? (i := 1971) rfl, by decide +kernel, ⟨by decide +kernel, by decide +kernel, by decide +kernel⟩, by decide, at_in (p := 134) (by decide +kernel), Or.inr rfl, (fun h => absurd h (by decide)), (fun _ => ⟨at_in (p := 1970) (by decide +kernel), at_in (p := 86) (by decide +kernel)⟩), (fun h => absurd h (by decide))⟩
set_option maxRecDepth 100000 in
theorem mok240 : MOK me240 := ⟨List.mem_of_getElem? (i := 1976) rfl, by decide +kernel, ⟨by decide +kernel, by decide +kernel, by decide +kernel⟩, by decide, at_in (p := 134) (by decide +kernel), Or.inr rfl, (fun h => absurd h (by decide)), (fun _ => ⟨at_in (p := 1975) (by decide +kernel), at_in (p := 87) (by decide +kernel)⟩), (fun h => absurd h (by decide))⟩
set_option maxRecDepth 100000 in
theorem mok241 : MOK me241 := ⟨List.mem_of_getElem? (i := 1980) rfl, by decide +kernel, ⟨by decide +kernel, by decide +kernel, by decide +kernel⟩, by decide, at_in (p := 134) (by decide +kernel), Or.inr rfl, (fun h => absurd h (by decide)), (fun _ => ⟨at_in (p := 1979) (by decide +kernel), at_in (p := 88) (by decide +kernel)⟩), (fun h => absurd h (by decide))⟩
set_option maxRecDepth 100000 in
theorem mok242 : MOK me242 := ⟨List.mem_of_getElem? (i := 1984) rfl, by decide +kernel, ⟨by decide +kernel, by decide +kernel, by decide +kernel⟩, by decide, at_in (p := 134) (by decide +kernel), Or.inr rfl, (fun h => absurd h (by decide)), (fun _ => ⟨at_in (p := 1982) (by decide +kernel), at_in (p := 1983) (by decide +kernel)⟩), (fun h => absurd h (by decide))⟩
set_option maxRecDepth 100000 in
theorem mok243 : MOK me243 := ⟨List.mem_of_getElem? (i := 1989) rfl, by decide +kernel, ⟨by decide +kernel, by decide +kernel, by decide +kernel⟩, by decide, at_in (p := 134) (by decide +kernel), Or.inr rfl, (fun h => absurd h (by decide)), (fun _ => ⟨at_in (p := 1988) (by decide +kernel), at_in (p := 89) (by decide +kernel)⟩), (fun h => absurd h (by decide))⟩
set_option maxRecDepth 100000 in
theorem mok244 : MOK me244 := ⟨List.mem_of_getElem? (i := 1993) rfl, by decide +kernel, ⟨by decide +kernel, by decide +kernel, by decide +kernel⟩, by decide, at_in (p := 134) (by decide +kernel), Or.inr rfl, (fun h => absurd h (by decide)), (fun _ => ⟨at_in (p := 1992) (by decide +kernel), at_in (p := 90) (by decide +kernel)⟩), (fun h => absurd h (by decide))⟩
set_option maxRecDepth 100000 in
theorem mok245 : MOK me245 := ⟨List.mem_of_getElem? (i := 1997) rfl, by decide +kernel, ⟨by decide +kernel, by decide +kernel, by decide +kernel⟩, by decide, at_in (p := 134) (by decide +kernel), Or.inr rfl, (fun h => absurd h (by decide)), (fun _ => ⟨at_in (p := 1996) (by decide +kernel), at_in (p := 91) (by decide +kernel)⟩), (fun h => absurd h (by decide))⟩
set_option maxRecDepth 100000 in
theorem mok246 : MOK me246 := ⟨List.mem_of_getElem? (i := 2001) rfl, by decide +kernel, ⟨by decide +kernel, by decide +kernel, by decide +kernel⟩, by decide, at_in (p := 134) (by decide +kernel), Or.inr rfl, (fun h => absurd h (by decide)), (fun _ => ⟨at_in (p := 2000) (by decide +kernel), at_in (p := 92) (by decide +kernel)⟩), (fun h => absurd h (by decide))⟩
set_option maxRecDepth 100000 in
theorem mok247 : MOK me247 := ⟨List.mem_of_getElem? (i := 2005) rfl, by decide +kernel, ⟨by decide +kernel, by decide +kernel, by decide +kernel⟩, by decide, at_in (p := 134) (by decide +kernel), Or.inr rfl, (fun h => absurd h (by decide)), (fun _ => ⟨at_in (p := 2004) (by decide +kernel), at_in (p := 93) (by decide +kernel)⟩), (fun h => absurd h (by decide))⟩
set_option maxRecDepth 100000 in
theorem mok248 : MOK me248 := ⟨List.mem_of_getElem? (i := 2009) rfl, by decide +kernel, ⟨by decide +kernel, by decide +kernel, by decide +kernel⟩, by decide, at_in (p := 134) (by decide +kernel), Or.inr rfl, (fun h => absurd h (by decide)), (fun _ => ⟨at_in (p := 2008) (by decide +kernel), at_in (p := 94) (by decide +kernel)⟩), (fun h => absurd h (by decide))⟩
set_option maxRecDepth 100000 in
theorem mok249 : MOK me249 := ⟨List.mem_of_getElem? (i := 2013) rfl, by decide +kernel, ⟨by decide +kernel, by decide +kernel, by decide +kernel⟩, by decide, at_in (p := 134) (by decide +kernel), Or.inr rfl, (fun h => absurd h (by decide)), (fun _ => ⟨at_in (p := 2012) (by decide +kernel), at_in (p := 95) (by decide +kernel)⟩), (fun h => absurd h (by decide))⟩
set_option maxRecDepth 100000 in
theorem mok250 : MOK me250 := ⟨List.mem_of_getElem? (i := 2019) rfl, by decide +kernel, ⟨by decide +kernel, by decide +kernel, by decide +kernel⟩, by decide, at_in (p := 134) (by decide +kernel), Or.inr rfl, (fun h => absurd h (by decide)), (fun _ => ⟨at_in (p := 2018) (by decide +kernel), at_in (p := 96) (by decide +kernel)⟩), (fun h => absurd h (by decide))⟩
set_option maxRecDepth 100000 in
theorem mok251 : MOK me251 := ⟨List.mem_of_getElem? (i := 2023) rfl, by decide +kernel, ⟨by decide +kernel, by decide +kernel, by decide +kernel⟩, by decide, at_in (p := 134) (by decide +kernel), Or.inr rfl, (fun h => absurd h (by decide)), (fun _ => ⟨at_in (p := 2022) (by decide +kernel), at_in (p := 97) (by decide +kernel)⟩), (fun h => absurd h (by decide))⟩
set_option maxRecDepth 100000 in
theorem mok252 : MOK me252 := ⟨List.mem_of_getElem? (i := 2027) rfl, by decide +kernel, ⟨by decide +kernel, by decide +kernel, by decide +kernel⟩, by decide, at_in (p := 134) (by decide +kernel), Or.inr rfl, (fun h => absurd h (by decide)), (fun _ => ⟨at_in (p := 2025) (by decide +kernel), at_in (p := 2026) (by decide +kernel)⟩), (fun h => absurd h (by decide))⟩
set_option maxRecDepth 100000 in
theorem mok253 : MOK me253 := ⟨List.mem_of_getElem? (i := 2031) rfl, by decide +kernel, ⟨by decide +kernel, by decide +kernel, by decide +kernel⟩, by decide, at_in (p := 134) (by decide +kernel), Or.inr rfl, (fun h => absurd h (by decide)), (fun _ => ⟨at_in (p := 2030) (by decide +kernel), at_in (p := 98) (by decide +kernel)⟩), (fun h => absurd h (by decide))⟩
set_option maxRecDepth 100000 in
theorem mok254 : MOK me254 := ⟨List.mem_of_getElem? (i := 2035) rfl, by decide +kernel, ⟨by decide +kernel, by decide +kernel, by decide +kernel⟩, by decide, at_in (p := 134) (by decide +kernel), Or.inr rfl, (fun h => absurd h (by decide)), (fun _ => ⟨at_in (p := 2034) (by decide +kernel), at_in (p := 99) (by decide +kernel)⟩), (fun h => absurd h (by decide))⟩
set_option maxRecDepth 100000 in
theorem mok255 : MOK me255 := ⟨List.mem_of_getElem? (i := 2039) rfl, by decide +kernel, ⟨by decide +kernel, by decide +kernel, by decide +kernel⟩, by decide, at_in (p := 134) (by decide +kernel), Or.inr rfl, (fun h => absurd h (by decide)), (fun _ => ⟨at_in (p := 2038) (by decide +kernel), at_in (p := 100) (by decide +kernel)⟩), (fun h => absurd h (by decide))⟩
set_option maxRecDepth 100000 in
theorem mok256 : MOK me256 := ⟨List.mem_of_getElem? (i := 2043) rfl, by decide +kernel, ⟨by decide +kernel, by decide +kernel, by decide +kernel⟩, by decide, at_in (p := 134) (by decide +kernel), Or.inr rfl, (fun h => absurd h (by decide)), (fun _ => ⟨at_in (p := 2042) (by decide +kernel), at_in (p := 101) (by decide +kernel)⟩), (fun h => absurd h (by decide))⟩
set_option maxRecDepth 100000 in
theorem mok257 : MOK me257 := ⟨List.mem_of_getElem? (i := 2047) rfl, by decide +kernel, ⟨by decide +kernel, by decide +kernel, by decide +kernel⟩, by decide, at_in (p := 134) (by decide +kernel), Or.inr rfl, (fun h => absurd h (by decide)), (fun _ => ⟨at_in (p := 2045) (by decide +kernel), at_in (p := 2046) (by decide +kernel)⟩), (fun h => absurd h (by decide))⟩
set_option maxRecDepth 100000 in
theorem mok258 : MOK me258 := ⟨List.mem_of_getElem? (i := 2051) rfl, by decide +kernel, ⟨by decide +kernel, by decide +kernel, by decide +kernel⟩, by decide, at_in (p := 134) (by decide +kernel), Or.inr rfl, (fun h => absurd h (by decide)), (fun _ => ⟨at_in (p := 2050) (by decide +kernel), at_in (p := 102) (by decide +kernel)⟩), (fun h => absurd h (by decide))⟩
set_option maxRecDepth 100000 in
theorem mok259 : MOK me259 := ⟨List.mem_of_getElem? (i := 2055) rfl, by decide +kernel, ⟨by decide +kernel, by decide +kernel, by decide +kernel⟩, by decide, at_in (p := 134) (by decide +kernel), Or.inr rfl, (fun h => absurd h (by decide)), (fun _ => ⟨at_in (p := 2053) (by decide +kernel), at_in (p := 2054) (by decide +kernel)⟩), (fun h => absurd h (by decide))⟩
set_option maxRecDepth 100000 in
theorem mok260 : MOK me260 := ⟨List.mem_of_getElem? (i := 2059) rfl, by decide +kernel, ⟨by decide +kernel, by decide +kernel, by decide +kernel⟩, by decide, at_in (p := 134) (by decide +kernel), Or.inr rfl, (fun h => absurd h (by decide)), (fun _ => ⟨at_in (p := 2057) (by decide +kernel), at_in (p := 2058) (by decide +kernel)⟩), (fun h => absurd h (by decide))⟩
set_option maxRecDepth 100000 in
theorem mok261 : MOK me261 := ⟨List.mem_of_getElem? (i := 2063) rfl, by decide +kernel, ⟨by decide +kernel, by decide +kernel, by decide +kernel⟩, by decide, at_in (p := 134) (by decide +kernel), Or.inr rfl, (fun h => absurd h (by decide)), (fun _ => ⟨at_in (p := 2062) (by decide +kernel), at_in (p := 103) (by decide +kernel)⟩), (fun h => absurd h (by decide))⟩
set_option maxRecDepth 100000 in
theorem mok262 : MOK me262 := ⟨List.mem_of_getElem? (i := 2067) rfl, by decide +kernel, ⟨by decide +kernel, by decide +kernel, by decide +kernel⟩, by decide, at_in (p := 134) (by decide +kernel), Or.inr rfl, (fun h => absurd h (by decide)), (fun _ => ⟨at_in (p := 2066) (by decide +kernel), at_in (p := 104) (by decide +kernel)⟩), (fun h => absurd h (by decide))⟩
set_option maxRecDepth 100000 in
theorem mok263 : MOK me263 := ⟨List.mem_of_getElem? (i := 2071) rfl, by decide +kernel, ⟨by decide +kernel, by decide +kernel, by decide +kernel⟩, by decide, at_in (p := 134) (by decide +kernel), Or.inr rfl, (fun h => absurd h (by decide)), (fun _ => ⟨at_in (p := 2070) (by decide +kernel), at_in (p := 105) (by decide +kernel)⟩), (fun h => absurd h (by decide))⟩
set_option maxRecDepth 100000 in
theorem mok264 : MOK me264 := ⟨List.mem_of_getElem? (i := 2075) rfl, by decide +kernel, ⟨by decide +kernel, by decide +kernel, by decide +kernel⟩, by decide, at_in (p := 134) (by decide +kernel), Or.inr rfl, (fun h => absurd h (by decide)), (fun _ => ⟨at_in (p := 2074) (by decide +kernel), at_in (p := 106) (by decide +kernel)⟩), (fun h => absurd h (by decide))⟩
set_option maxRecDepth 100000 in
theorem mok265 : MOK me265 := ⟨List.mem_of_getElem? (i := 2080) rfl, by decide +kernel, ⟨by decide +kernel, by decide +kernel, by decide +kernel⟩, by decide, at_in (p := 134) (by decide +kernel), Or.inr rfl, (fun h => absurd h (by decide)), (fun _ => ⟨at_in (p := 2079) (by decide +kernel), at_in (p := 107) (by decide +kernel)⟩), (fun h => absurd h (by decide))⟩
set_option maxRecDepth 100000 in
theorem mok266 : MOK me266 := ⟨List.mem_of_getElem? (i := 2084) rfl, by decide +kernel, ⟨by decide +kernel, by decide +kernel, by decide +kernel⟩, by decide, at_in (p := 134) (by decide +kernel), Or.inr rfl, (fun h => absurd h (by decide)), (fun _ => ⟨at_in (p := 2083) (by decide +kernel), at_in (p := 108) (by decide +kernel)⟩), (fun h => absurd h (by decide))⟩
set_option maxRecDepth 100000 in
theorem mok267 : MOK me267 := ⟨List.mem_of_getElem? (i := 2088) rfl, by decide +kernel, ⟨by decide +kernel, by decide +kernel, by decide +kernel⟩, by decide, at_in (p := 134) (by decide +kernel), Or.inr rfl, (fun h => absurd h (by decide)), (fun _ => ⟨at_in (p := 2087) (by decide +kernel), at_in (p := 109) (by decide +kernel)⟩), (fun h => absurd h (by decide))⟩
set_option maxRecDepth 100000 in
theorem mok268 : MOK me268 := ⟨List.mem_of_getElem? (i := 2092) rfl, by decide +kernel, ⟨by decide +kernel, by decide +kernel, by decide +kernel⟩, by decide, at_in (p := 134) (by decide +kernel), Or.inr rfl, (fun h => absurd h (by decide)), (fun _ => ⟨at_in (p := 2091) (by decide +kernel), at_in (p := 110) (by decide +kernel)⟩), (fun h => absurd h (by decide))⟩
set_option maxRecDepth 100000 in
theorem mok269 : MOK me269 := ⟨List.mem_of_getElem? (i := 2096) rfl, by decide +kernel, ⟨by decide +kernel, by decide +kernel, by decide +kernel⟩, by decide, at_in (p := 134) (by decide +kernel), Or.inr rfl, (fun h => absurd h (by decide)), (fun _ => ⟨at_in (p := 2095) (by decide +kernel), at_in (p := 111) (by decide +kernel)⟩), (fun h => absurd h (by decide))⟩
set_option maxRecDepth 100000 in
theorem mok270 : MOK me270 := ⟨List.mem_of_getElem? (i := 2101) rfl, by decide +kernel, ⟨by decide +kernel, by decide +kernel, by decide +kernel⟩, by decide, at_in (p := 134) (by decide +kernel), Or.inr rfl, (fun h => absurd h (by decide)), (fun _ => ⟨at_in (p := 2099) (by decide +kernel), at_in (p := 2100) (by decide +kernel)⟩), (fun h => absurd h (by decide))⟩
set_option maxRecDepth 100000 in
theorem mok271 : MOK me271 := ⟨List.mem_of_getElem? (i := 2105) rfl, by decide +kernel, ⟨by decide +kernel, by decide +kernel, by decide +kernel⟩, by decide, at_in (p := 134) (by decide +kernel), Or.inr rfl, (fun h => absurd h (by decide)), (fun _ => ⟨at_in (p := 2103) (by decide +kernel), at_in (p := 2104) (by decide +kernel)⟩), (fun h => absurd h (by decide))⟩
set_option maxRecDepth 100000 in
theorem mok272 : MOK me272 := ⟨List.mem_of_getElem? (i := 2108) rfl, by decide +kernel, ⟨by decide +kernel, by decide +kernel, by decide +kernel⟩, by decide, at_in (p := 134) (by decide +kernel), Or.inr rfl, (fun _ => at_in (p := 2107) (by decide +kernel)), (fun h => absurd h (by decide)), (fun h => absurd h (by decide))⟩
set_option maxRecDepth 100000 in
theorem mok273 : MOK me273 := ⟨List.mem_of_getElem? (i := 2112) rfl, by decide +kernel, ⟨by decide +kernel, by decide +kernel, by decide +kernel⟩, by decide, at_in (p := 134) (by decide +kernel), Or.inr rfl, (fun h => absurd h (by decide)), (fun _ => ⟨at_in (p := 2110) (by decide +kernel), at_in (p := 2111) (by decide +kernel)⟩), (fun h => absurd h (by decide))⟩
set_option maxRecDepth 100000 in
theorem mok274 : MOK me274 := ⟨List.mem_of_getElem? (i := 2116) rfl, by decide +kernel, ⟨by decide +kernel, by decide +kernel, by decide +kernel⟩, by decide, at_in (p := 134) (by decide +kernel), Or.inr rfl, (fun h => absurd h (by decide)), (fun _ => ⟨at_in (p := 2115) (by decide +kernel), at_in (p := 112) (by decide +kernel)⟩), (fun h => absurd h (by decide))⟩
set_option maxRecDepth 100000 in
theorem mok275 : MOK me275 := ⟨List.mem_of_getElem? (i := 2120) rfl, by decide +kernel, ⟨by decide +kernel, by decide +kernel, by decide +kernel⟩, by decide, at_in (p := 134) (by decide +kernel), Or.inr rfl, (fun h => absurd h (by decide)), (fun _ => ⟨at_in (p := 2118) (by decide +kernel), at_in (p := 2119) (by decide +kernel)⟩), (fun h => absurd h (by decide))⟩
set_option maxRecDepth 100000 in
theorem mok276 : MOK me276 := ⟨List.mem_of_getElem? (i := 2124) rfl, by decide +kernel, ⟨by decide +kernel, by decide +kernel, by decide +kernel⟩, by decide, at_in (p := 134) (by decide +kernel), Or.inr rfl, (fun h => absurd h (by decide)), (fun _ => ⟨at_in (p := 2122) (by decide +kernel), at_in (p := 2123) (by decide +kernel)⟩), (fun h => absurd h (by decide))⟩
set_option maxRecDepth 100000 in
theorem mok277 : MOK me277 := ⟨List.mem_of_getElem? (i := 2128) rfl, by decide +kernel, ⟨by decide +kernel, by decide +kernel, by decide +kernel⟩, by decide, at_in (p := 134) (by decide +kernel), Or.inr rfl, (fun h => absurd h (by decide)), (fun _ => ⟨at_in (p := 2126) (by decide +kernel), at_in (p := 2127) (by decide +kernel)⟩), (fun h => absurd h (by decide))⟩
set_option maxRecDepth 100000 in
theorem mok278 : MOK me278 := ⟨List.mem_of_getElem? (i := 2132) rfl, by decide +kernel, ⟨by decide +kernel, by decide +kernel, by decide +kernel⟩, by decide, at_in (p := 134) (by decide +kernel), Or.inr rfl, (fun h => absurd h (by decide)), (fun _ => ⟨at_in (p := 2130) (by decide +kernel), at_in (p := 2131) (by decide +kernel)⟩), (fun h => absurd h (by decide))⟩
set_option maxRecDepth 100000 in
theorem mok279 : MOK me279 := ⟨List.mem_of_getElem? (i := 2138) rfl, by decide +kernel, ⟨by decide +kernel, by decide +kernel, by decide +kernel⟩, by decide, at_in (p := 134) (by decide +kernel), Or.inr rfl, (fun h => absurd h (by decide)), (fun _ => ⟨at_in (p := 2136) (by decide +kernel), at_in (p := 2137) (by decide +kernel)⟩), (fun h => absurd h (by decide))⟩
set_option maxRecDepth 100000 in
theorem mok280 : MOK me280 := ⟨List.mem_of_getElem? (i := 2143) rfl, by decide +kernel, ⟨by decide +kernel, by decide +kernel, by decide +kernel⟩, by decide, at_in (p := 134) (by decide +kernel), Or.inr rfl, (fun h => absurd h (by decide)), (fun _ => ⟨at_in (p := 2142) (by decide +kernel), at_in (p := 113) (by decide +kernel)⟩), (fun h => absurd h (by decide))⟩
set_option maxRecDepth 100000 in
theorem mok281 : MOK me281 := ⟨List.mem_of_getElem? (i := 2147) rfl, by decide +kernel, ⟨by decide +kernel, by decide +kernel, by decide +kernel⟩, by decide, at_in (p := 134) (by decide +kernel), Or.inr rfl, (fun h => absurd h (by decide)), (fun _ => ⟨at_in (p := 2146) (by decide +kernel), at_in (p := 114) (by decide +kernel)⟩), (fun h => absurd h (by decide))⟩
set_option maxRecDepth 100000 in
theorem mok282 : MOK me282 := ⟨List.mem_of_getElem? (i := 2151) rfl, by decide +kernel, ⟨by decide +kernel, by decide +kernel, by decide +kernel⟩, by decide, at_in (p := 134) (by decide +kernel), Or.inr rfl, (fun h => absurd h (by decide)), (fun _ => ⟨at_in (p := 2149) (by decide +kernel), at_in (p := 2150) (by decide +kernel)⟩), (fun h => absurd h (by decide))⟩
set_option maxRecDepth 100000 in
theorem mok283 : MOK me283 := ⟨List.mem_of_getElem? (i := 2155) rfl, by decide +kernel, ⟨by decide +kernel, by decide +kernel, by decide +kernel⟩, by decide, at_in (p := 134) (by decide +kernel), Or.inr rfl, (fun h => absurd h (by decide)), (fun _ => ⟨at_in (p := 2154) (by decide +kernel), at_in (p := 115) (by decide +kernel)⟩), (fun h => absurd h (by decide))⟩
set_option maxRecDepth 100000 in
theorem mok284 : MOK me284 := ⟨List.mem_of_getElem? (i := 2159) rfl, by decide +kernel, ⟨by decide +kernel, by decide +kernel, by decide +kernel⟩, by decide, at_in (p := 134) (by decide +kernel), Or.inr rfl, (fun h => absurd h (by decide)), (fun _ => ⟨at_in (p := 2158) (by decide +kernel), at_in (p := 116) (by decide +kernel)⟩), (fun h => absurd h (by decide))⟩
set_option maxRecDepth 100000 in
theorem mok285 : MOK me285 := ⟨List.mem_of_getElem? (i := 2163) rfl, by decide +kernel, ⟨by decide +kernel, by decide +kernel, by decide +kernel⟩, by decide, at_in (p := 134) (by decide +kernel), Or.inr rfl, (fun h => absurd h (by decide)), (fun _ => ⟨at_in (p := 2161) (by decide +kernel), at_in (p := 2162) (by decide +kernel)⟩), (fun h => absurd h (by decide))⟩
set_option maxRecDepth 100000 in
theorem mok286 : MOK me286 := ⟨List.mem_of_getElem? (i := 2167) rfl, by decide +kernel, ⟨by decide +kernel, by decide +kernel, by decide +kernel⟩, by decide, at_in (p := 134) (by decide +kernel), Or.inr rfl, (fun h => absurd h (by decide)), (fun _ => ⟨at_in (p := 2166) (by decide +kernel), at_in (p := 117) (by decide +kernel)⟩), (fun h => absurd h (by decide))⟩
set_option maxRecDepth 100000 in
theorem mok287 : MOK me287 := ⟨List.mem_of_getElem? (i := 2170) rfl, by decide +kernel, ⟨by decide +kernel, by decide +kernel, by decide +kernel⟩, by decide, at_in (p := 134) (by decide +kernel), Or.inr rfl, (fun _ => at_in (p := 2169) (by decide +kernel)), (fun h => absurd h (by decide)), (fun h => absurd h (by decide))⟩
set_option maxRecDepth 100000 in
theorem mok288 : MOK me288 := ⟨List.mem_of_getElem? (i := 2174) rfl, by decide +kernel, ⟨by decide +kernel, by decide +kernel, by decide +kernel⟩, by decide, at_in (p := 134) (by decide +kernel), Or.inr rfl, (fun h => absurd h (by decide)), (fun _ => ⟨at_in (p := 2172) (by decide +kernel), at_in (p := 2173) (by decide +kernel)⟩), (fun h => absurd h (by decide))⟩
set_option maxRecDepth 100000 in
theorem mok289 : MOK me289 := ⟨List.mem_of_getElem? (i := 2177) rfl, by decide +kernel, ⟨by decide +kernel, by decide +kernel, by decide +kernel⟩, by decide, at_in (p := 134) (by decide +kernel), Or.inr rfl, (fun _ => at_in (p := 2176) (by decide +kernel)), (fun h => absurd h (by decide)), (fun h => absurd h (by decide))⟩
set_option maxRecDepth 100000 in
theorem mok290 : MOK me290 := ⟨List.mem_of_getElem? (i := 2182) rfl, by decide +kernel, ⟨by decide +kernel, by decide +kernel, by decide +kernel⟩, by decide, at_in (p := 134) (by decide +kernel), Or.inr rfl, (fun h => absurd h (by decide)), (fun _ => ⟨at_in (p := 2181) (by decide +kernel), at_in (p := 118) (by decide +kernel)⟩), (fun h => absurd h (by decide))⟩
set_option maxRecDepth 100000 in
theorem mok291 : MOK me291 := ⟨List.mem_of_getElem? (i := 2186) rfl, by decide +kernel, ⟨by decide +kernel, by decide +kernel, by decide +kernel⟩, by decide, at_in (p := 134) (by decide +kernel), Or.inr rfl, (fun h => absurd h (by decide)), (fun _ => ⟨at_in (p := 2184) (by decide +kernel), at_in (p := 2185) (by decide +kernel)⟩), (fun h => absurd h (by decide))⟩
set_option maxRecDepth 100000 in
theorem mok292 : MOK me292 := ⟨List.mem_of_getElem? (i := 2191) rfl, by decide +kernel, ⟨by decide +kernel, by decide +kernel, by decide +kernel⟩, by decide, at_in (p := 134) (by decide +kernel), Or.inr rfl, (fun h => absurd h (by decide)), (fun _ => ⟨at_in (p := 2190) (by decide +kernel), at_in (p := 119) (by decide +kernel)⟩), (fun h => absurd h (by decide))⟩
set_option maxRecDepth 100000 in
theorem mok293 : MOK me293 := ⟨List.mem_of_getElem? (i := 2195) rfl, by decide +kernel, ⟨by decide +kernel, by decide +kernel, by decide +kernel⟩, by decide, at_in (p := 134) (by decide +kernel), Or.inr rfl, (fun h => absurd h (by decide)), (fun _ => ⟨at_in (p := 2193) (by decide +kernel), at_in (p := 2194) (by decide +kernel)⟩), (fun h => absurd h (by decide))⟩
set_option maxRecDepth 100000 in
theorem mok294 : MOK me294 := ⟨List.mem_of_getElem? (i := 2199) rfl, by decide +kernel, ⟨by decide +kernel, by decide +kernel, by decide +kernel⟩, by decide, at_in (p := 134) (by decide +kernel), Or.inr rfl, (fun h => absurd h (by decide)), (fun _ => ⟨at_in (p := 2197) (by decide +kernel), at_in (p := 2198) (by decide +kernel)⟩), (fun h => absurd h (by decide))⟩
set_option maxRecDepth 100000 in
theorem mok295 : MOK me295 := ⟨List.mem_of_getElem? (i := 2203) rfl, by decide +kernel, ⟨by decide +kernel, by decide +kernel, by decide +kernel⟩, by decide, at_in (p := 134) (by decide +kernel), Or.inr rfl, (fun h => absurd h (by decide)), (fun _ => ⟨at_in (p := 2201) (by decide +kernel), at_in (p := 2202) (by decide +kernel)⟩), (fun h => absurd h (by decide))⟩
set_option maxRecDepth 100000 in
theorem mok296 : MOK me296 := ⟨List.mem_of_getElem? (i := 2208) rfl, by decide +kernel, ⟨by decide +kernel, by decide +kernel, by decide +kernel⟩, by decide, at_in (p := 134) (by decide +kernel), Or.inr rfl, (fun h => absurd h (by decide)), (fun _ => ⟨at_in (p := 2206) (by decide +kernel), at_in (p := 2207) (by decide +kernel)⟩), (fun h => absurd h (by decide))⟩
set_option maxRecDepth 100000 in
theorem mok297 : MOK me297 := ⟨List.mem_of_getElem? (i := 2213) rfl, by decide +kernel, ⟨by decide +kernel, by decide +kernel, by decide +kernel⟩, by decide, at_in (p := 134) (by decide +kernel), Or.inr rfl, (fun h => absurd h (by decide)), (fun _ => ⟨at_in (p := 2211) (by decide +kernel), at_in (p := 2212) (by decide +kernel)⟩), (fun h => absurd h (by decide))⟩
set_option maxRecDepth 100000 in
theorem mok298 : MOK me298 := ⟨List.mem_of_getElem? (i := 2217) rfl, by decide +kernel, ⟨by decide +kernel, by decide +kernel, by decide +kernel⟩, by decide, at_in (p := 134) (by decide +kernel), Or.inr rfl, (fun h => absurd h (by decide)), (fun _ => ⟨at_in (p := 2215) (by decide +kernel), at_in (p := 2216) (by decide +kernel)⟩), (fun h => absurd h (by decide))⟩
set_option maxRecDepth 100000 in
theorem mok299 : MOK me299 := ⟨List.mem_of_getElem? (i := 2221) rfl, by decide +kernel, ⟨by decide +kernel, by decide +kernel, by decide +kernel⟩, by decide, at_in (p := 134) (by decide +kernel), Or.inr rfl, (fun h => absurd h (by decide)), (fun _ => ⟨at_in (p := 2220) (by decide +kernel), at_in (p := 120) (by decide +kernel)⟩), (fun h => absurd h (by decide))⟩
set_option maxRecDepth 100000 in
theorem mok300 : MOK me300 := ⟨List.mem_of_getElem? (i := 2225) rfl, by decide +kernel, ⟨by decide +kernel, by decide +kernel, by decide +kernel⟩, by decide, at_in (p := 134) (by decide +kernel), Or.inr rfl, (fun h => absurd h (by decide)), (fun _ => ⟨at_in (p := 2223) (by decide +kernel), at_in (p := 2224) (by decide +kernel)⟩), (fun h => absurd h (by decide))⟩
set_option maxRecDepth 100000 in
theorem mok301 : MOK me301 := ⟨List.mem_of_getElem? (i := 2229) rfl, by decide +kernel, ⟨by decide +kernel, by decide +kernel, by decide +kernel⟩, by decide, at_in (p := 134) (by decide +kernel), Or.inr rfl, (fun h => absurd h (by decide)), (fun _ => ⟨at_in (p := 2227) (by decide +kernel), at_in (p := 2228) (by decide +kernel)⟩), (fun h => absurd h (by decide))⟩
set_option maxRecDepth 100000 in
theorem mok302 : MOK me302 := ⟨List.mem_of_getElem? (i := 2233) rfl, by decide +kernel, ⟨by decide +kernel, by decide +kernel, by decide +kernel⟩, by decide, at_in (p := 134) (by decide +kernel), Or.inr rfl, (fun h => absurd h (by decide)), (fun _ => ⟨at_in (p := 2231) (by decide +kernel), at_in (p := 2232) (by decide +kernel)⟩), (fun h => absurd h (by decide))⟩
set_option maxRecDepth 100000 in
theorem mok303 : MOK me303 := ⟨List.mem_of_getElem? (i := 2240) rfl, by decide +kernel, ⟨by decide +kernel, by decide +kernel, by decide +kernel⟩, by decide, at_in (p := 134) (by decide +kernel), Or.inr rfl, (fun h => absurd h (by decide)), (fun _ => ⟨at_in (p := 2238) (by decide +kernel), at_in (p := 2239) (by decide +kernel)⟩), (fun h => absurd h (by decide))⟩
set_option maxRecDepth 100000 in
theorem mok304 : MOK me304 := ⟨List.mem_of_getElem? (i := 2245) rfl, by decide +kernel, ⟨by decide +kernel, by decide +kernel, by decide +kernel⟩, by decide, at_in (p := 134) (by decide +kernel), Or.inr rfl, (fun h => absurd h (by decide)), (fun _ => ⟨at_in (p := 2243) (by decide +kernel), at_in (p := 2244) (by decide +kernel)⟩), (fun h => absurd h (by decide))⟩
set_option maxRecDepth 100000 in
theorem mok305 : MOK me305 := ⟨List.mem_of_getElem? (i := 2249) rfl, by decide +kernel, ⟨by decide +kernel, by decide +kernel, by decide +kernel⟩, by decide, at_in (p := 134) (by decide +kernel), Or.inr rfl, (fun h => absurd h (by decide)), (fun _ => ⟨at_in (p := 2247) (by decide +kernel), at_in (p := 2248) (by decide +kernel)⟩), (fun h => absurd h (by decide))⟩
