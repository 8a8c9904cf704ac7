-- ===== PART A: goes FIRST, ahead of the names: the tables' words, and 'selects' of the private methods out of them =====
/-- a private method of a class that the tables say can be made, by its rows of tables_1 -/
def lw_okq (q : MethodName × Nat) : Prop := (q.1.cls ≠ "java/lang/invoke/MethodHandle" ∧ q.1.cls ≠ "java/lang/invoke/VarHandle") ∧ Cond.instantiable q.1.cls q.2 ∈ tables_1 ∧ Cond.privateMethod q.1 ∈ tables_1 ∧ Cond.instanceMethod q.1 ∈ tables_1
theorem lw_p0 : lw_okq (⟨"CutFloor", "refuse", "(I)I"⟩, 19) := ⟨⟨by decide +kernel, by decide +kernel⟩, List.mem_of_getElem? (i := 22) (by decide +kernel), List.mem_of_getElem? (i := 655) (by decide +kernel), List.mem_of_getElem? (i := 656) (by decide +kernel)⟩
theorem lw_p1 : lw_okq (⟨"CutFloor", "allow", "(I)I"⟩, 19) := ⟨⟨by decide +kernel, by decide +kernel⟩, List.mem_of_getElem? (i := 22) (by decide +kernel), List.mem_of_getElem? (i := 671) (by decide +kernel), List.mem_of_getElem? (i := 672) (by decide +kernel)⟩
theorem lw_p2 : lw_okq (⟨"CutFloor", "forgetWays", "()V"⟩, 19) := ⟨⟨by decide +kernel, by decide +kernel⟩, List.mem_of_getElem? (i := 22) (by decide +kernel), List.mem_of_getElem? (i := 679) (by decide +kernel), List.mem_of_getElem? (i := 680) (by decide +kernel)⟩
theorem lw_p3 : lw_okq (⟨"CutFloor", "feedFour", "(I)V"⟩, 19) := ⟨⟨by decide +kernel, by decide +kernel⟩, List.mem_of_getElem? (i := 22) (by decide +kernel), List.mem_of_getElem? (i := 715) (by decide +kernel), List.mem_of_getElem? (i := 716) (by decide +kernel)⟩
theorem lw_p4 : lw_okq (⟨"CutFloor$Reader", "goOn", "()V"⟩, 8) := ⟨⟨by decide +kernel, by decide +kernel⟩, List.mem_of_getElem? (i := 559) (by decide +kernel), List.mem_of_getElem? (i := 741) (by decide +kernel), List.mem_of_getElem? (i := 742) (by decide +kernel)⟩
theorem lw_p5 : lw_okq (⟨"CutFloor$Reader", "readClause", "(I)Z"⟩, 8) := ⟨⟨by decide +kernel, by decide +kernel⟩, List.mem_of_getElem? (i := 559) (by decide +kernel), List.mem_of_getElem? (i := 752) (by decide +kernel), List.mem_of_getElem? (i := 753) (by decide +kernel)⟩
theorem lw_p6 : lw_okq (⟨"CutFloor$Reader", "isWord", "(Ljava/lang/String;)Z"⟩, 8) := ⟨⟨by decide +kernel, by decide +kernel⟩, List.mem_of_getElem? (i := 559) (by decide +kernel), List.mem_of_getElem? (i := 757) (by decide +kernel), List.mem_of_getElem? (i := 758) (by decide +kernel)⟩
theorem lw_p7 : lw_okq (⟨"CutFloor$Reader", "readCut", "(I)Z"⟩, 8) := ⟨⟨by decide +kernel, by decide +kernel⟩, List.mem_of_getElem? (i := 559) (by decide +kernel), List.mem_of_getElem? (i := 809) (by decide +kernel), List.mem_of_getElem? (i := 810) (by decide +kernel)⟩
theorem lw_p8 : lw_okq (⟨"CutFloor$Reader", "isNumber", "(II)Z"⟩, 8) := ⟨⟨by decide +kernel, by decide +kernel⟩, List.mem_of_getElem? (i := 559) (by decide +kernel), List.mem_of_getElem? (i := 813) (by decide +kernel), List.mem_of_getElem? (i := 814) (by decide +kernel)⟩
theorem lw_p9 : lw_okq (⟨"CutFloor$Reader", "readPieces", "(I)Z"⟩, 8) := ⟨⟨by decide +kernel, by decide +kernel⟩, List.mem_of_getElem? (i := 559) (by decide +kernel), List.mem_of_getElem? (i := 818) (by decide +kernel), List.mem_of_getElem? (i := 819) (by decide +kernel)⟩
theorem lw_p10 : lw_okq (⟨"CutFloor$Reader", "readSum", "(I)Z"⟩, 8) := ⟨⟨by decide +kernel, by decide +kernel⟩, List.mem_of_getElem? (i := 559) (by decide +kernel), List.mem_of_getElem? (i := 824) (by decide +kernel), List.mem_of_getElem? (i := 825) (by decide +kernel)⟩
theorem lw_p11 : lw_okq (⟨"CutFloor$Reader", "readTerm", "(I)Z"⟩, 8) := ⟨⟨by decide +kernel, by decide +kernel⟩, List.mem_of_getElem? (i := 559) (by decide +kernel), List.mem_of_getElem? (i := 828) (by decide +kernel), List.mem_of_getElem? (i := 829) (by decide +kernel)⟩
theorem lw_p12 : lw_okq (⟨"CutFloor$Reader", "readFactor", "(I)Z"⟩, 8) := ⟨⟨by decide +kernel, by decide +kernel⟩, List.mem_of_getElem? (i := 559) (by decide +kernel), List.mem_of_getElem? (i := 832) (by decide +kernel), List.mem_of_getElem? (i := 833) (by decide +kernel)⟩
theorem lw_p13 : lw_okq (⟨"CutFloor$Reader", "isSign", "(C)Z"⟩, 8) := ⟨⟨by decide +kernel, by decide +kernel⟩, List.mem_of_getElem? (i := 559) (by decide +kernel), List.mem_of_getElem? (i := 836) (by decide +kernel), List.mem_of_getElem? (i := 837) (by decide +kernel)⟩
theorem lw_p14 : lw_okq (⟨"CutFloor$Reader", "readInnerSum", "(I)Z"⟩, 8) := ⟨⟨by decide +kernel, by decide +kernel⟩, List.mem_of_getElem? (i := 559) (by decide +kernel), List.mem_of_getElem? (i := 840) (by decide +kernel), List.mem_of_getElem? (i := 841) (by decide +kernel)⟩
theorem lw_p15 : lw_okq (⟨"CutFloor$Reader", "readTest", "(I)Z"⟩, 8) := ⟨⟨by decide +kernel, by decide +kernel⟩, List.mem_of_getElem? (i := 559) (by decide +kernel), List.mem_of_getElem? (i := 856) (by decide +kernel), List.mem_of_getElem? (i := 857) (by decide +kernel)⟩
def lw_privs_1 : List (MethodName × Nat) := [(⟨"CutFloor", "refuse", "(I)I"⟩, 19), (⟨"CutFloor", "allow", "(I)I"⟩, 19), (⟨"CutFloor", "forgetWays", "()V"⟩, 19), (⟨"CutFloor", "feedFour", "(I)V"⟩, 19), (⟨"CutFloor$Reader", "goOn", "()V"⟩, 8), (⟨"CutFloor$Reader", "readClause", "(I)Z"⟩, 8), (⟨"CutFloor$Reader", "isWord", "(Ljava/lang/String;)Z"⟩, 8), (⟨"CutFloor$Reader", "readCut", "(I)Z"⟩, 8), (⟨"CutFloor$Reader", "isNumber", "(II)Z"⟩, 8), (⟨"CutFloor$Reader", "readPieces", "(I)Z"⟩, 8), (⟨"CutFloor$Reader", "readSum", "(I)Z"⟩, 8), (⟨"CutFloor$Reader", "readTerm", "(I)Z"⟩, 8), (⟨"CutFloor$Reader", "readFactor", "(I)Z"⟩, 8), (⟨"CutFloor$Reader", "isSign", "(C)Z"⟩, 8), (⟨"CutFloor$Reader", "readInnerSum", "(I)Z"⟩, 8), (⟨"CutFloor$Reader", "readTest", "(I)Z"⟩, 8)]
theorem lw_r1 : ∀ q ∈ lw_privs_1, lw_okq q := List.forall_mem_cons.mpr ⟨lw_p0, List.forall_mem_cons.mpr ⟨lw_p1, List.forall_mem_cons.mpr ⟨lw_p2, List.forall_mem_cons.mpr ⟨lw_p3, List.forall_mem_cons.mpr ⟨lw_p4, List.forall_mem_cons.mpr ⟨lw_p5, List.forall_mem_cons.mpr ⟨lw_p6, List.forall_mem_cons.mpr ⟨lw_p7, List.forall_mem_cons.mpr ⟨lw_p8, List.forall_mem_cons.mpr ⟨lw_p9, List.forall_mem_cons.mpr ⟨lw_p10, List.forall_mem_cons.mpr ⟨lw_p11, List.forall_mem_cons.mpr ⟨lw_p12, List.forall_mem_cons.mpr ⟨lw_p13, List.forall_mem_cons.mpr ⟨lw_p14, List.forall_mem_cons.mpr ⟨lw_p15, fun _ h => absurd h List.not_mem_nil⟩⟩⟩⟩⟩⟩⟩⟩⟩⟩⟩⟩⟩⟩⟩⟩
theorem lw_p16 : lw_okq (⟨"CutFloor$Reader", "readBoth", "(I)Z"⟩, 8) := ⟨⟨by decide +kernel, by decide +kernel⟩, List.mem_of_getElem? (i := 559) (by decide +kernel), List.mem_of_getElem? (i := 860) (by decide +kernel), List.mem_of_getElem? (i := 861) (by decide +kernel)⟩
theorem lw_p17 : lw_okq (⟨"CutFloor$Reader", "readPlain", "(I)Z"⟩, 8) := ⟨⟨by decide +kernel, by decide +kernel⟩, List.mem_of_getElem? (i := 559) (by decide +kernel), List.mem_of_getElem? (i := 864) (by decide +kernel), List.mem_of_getElem? (i := 865) (by decide +kernel)⟩
theorem lw_p18 : lw_okq (⟨"CutFloor$Reader", "readInner", "(I)Z"⟩, 8) := ⟨⟨by decide +kernel, by decide +kernel⟩, List.mem_of_getElem? (i := 559) (by decide +kernel), List.mem_of_getElem? (i := 869) (by decide +kernel), List.mem_of_getElem? (i := 870) (by decide +kernel)⟩
theorem lw_p19 : lw_okq (⟨"CutFloor$Reader", "readComparison", "(I)Z"⟩, 8) := ⟨⟨by decide +kernel, by decide +kernel⟩, List.mem_of_getElem? (i := 559) (by decide +kernel), List.mem_of_getElem? (i := 873) (by decide +kernel), List.mem_of_getElem? (i := 874) (by decide +kernel)⟩
theorem lw_p20 : lw_okq (⟨"CutFloor$Asker", "face", "(II)V"⟩, 5) := ⟨⟨by decide +kernel, by decide +kernel⟩, List.mem_of_getElem? (i := 189) (by decide +kernel), List.mem_of_getElem? (i := 896) (by decide +kernel), List.mem_of_getElem? (i := 897) (by decide +kernel)⟩
theorem lw_p21 : lw_okq (⟨"CutFloor$Asker", "holds", "(I)Z"⟩, 5) := ⟨⟨by decide +kernel, by decide +kernel⟩, List.mem_of_getElem? (i := 189) (by decide +kernel), List.mem_of_getElem? (i := 904) (by decide +kernel), List.mem_of_getElem? (i := 905) (by decide +kernel)⟩
theorem lw_p22 : lw_okq (⟨"CutFloor$Asker", "reckon", "(LCutFloor$Tree;II)I"⟩, 5) := ⟨⟨by decide +kernel, by decide +kernel⟩, List.mem_of_getElem? (i := 189) (by decide +kernel), List.mem_of_getElem? (i := 908) (by decide +kernel), List.mem_of_getElem? (i := 909) (by decide +kernel)⟩
theorem lw_p23 : lw_okq (⟨"CutFloor$Cuttings", "keep", "()V"⟩, 7) := ⟨⟨by decide +kernel, by decide +kernel⟩, List.mem_of_getElem? (i := 336) (by decide +kernel), List.mem_of_getElem? (i := 953) (by decide +kernel), List.mem_of_getElem? (i := 954) (by decide +kernel)⟩
theorem lw_p24 : lw_okq (⟨"CutFloor$Cuttings", "bring", "(LCutFloor$Tree;II)V"⟩, 7) := ⟨⟨by decide +kernel, by decide +kernel⟩, List.mem_of_getElem? (i := 336) (by decide +kernel), List.mem_of_getElem? (i := 961) (by decide +kernel), List.mem_of_getElem? (i := 962) (by decide +kernel)⟩
theorem lw_p25 : lw_okq (⟨"CutFloor", "isThere", "(III)Z"⟩, 19) := ⟨⟨by decide +kernel, by decide +kernel⟩, List.mem_of_getElem? (i := 22) (by decide +kernel), List.mem_of_getElem? (i := 970) (by decide +kernel), List.mem_of_getElem? (i := 971) (by decide +kernel)⟩
theorem lw_p26 : lw_okq (⟨"CutFloor", "hasPlan", "()Z"⟩, 19) := ⟨⟨by decide +kernel, by decide +kernel⟩, List.mem_of_getElem? (i := 22) (by decide +kernel), List.mem_of_getElem? (i := 982) (by decide +kernel), List.mem_of_getElem? (i := 983) (by decide +kernel)⟩
theorem lw_p27 : lw_okq (⟨"CutFloor$Planner", "isPlanned", "(III)Z"⟩, 16) := ⟨⟨by decide +kernel, by decide +kernel⟩, List.mem_of_getElem? (i := 211) (by decide +kernel), List.mem_of_getElem? (i := 991) (by decide +kernel), List.mem_of_getElem? (i := 992) (by decide +kernel)⟩
theorem lw_p28 : lw_okq (⟨"CutFloor$Planner", "loadOffers", "()V"⟩, 16) := ⟨⟨by decide +kernel, by decide +kernel⟩, List.mem_of_getElem? (i := 211) (by decide +kernel), List.mem_of_getElem? (i := 998) (by decide +kernel), List.mem_of_getElem? (i := 999) (by decide +kernel)⟩
theorem lw_p29 : lw_okq (⟨"CutFloor$Offers", "rate", "(LCutFloor$Hall;)V"⟩, 20) := ⟨⟨by decide +kernel, by decide +kernel⟩, List.mem_of_getElem? (i := 219) (by decide +kernel), List.mem_of_getElem? (i := 1006) (by decide +kernel), List.mem_of_getElem? (i := 1007) (by decide +kernel)⟩
theorem lw_p30 : lw_okq (⟨"CutFloor$Offers", "spread", "(II[I[I)V"⟩, 20) := ⟨⟨by decide +kernel, by decide +kernel⟩, List.mem_of_getElem? (i := 219) (by decide +kernel), List.mem_of_getElem? (i := 1011) (by decide +kernel), List.mem_of_getElem? (i := 1012) (by decide +kernel)⟩
theorem lw_p31 : lw_okq (⟨"CutFloor$Offers", "group", "(LCutFloor$Hall;ILCutFloor$Cuttings;)V"⟩, 20) := ⟨⟨by decide +kernel, by decide +kernel⟩, List.mem_of_getElem? (i := 219) (by decide +kernel), List.mem_of_getElem? (i := 1015) (by decide +kernel), List.mem_of_getElem? (i := 1016) (by decide +kernel)⟩
def lw_privs_2 : List (MethodName × Nat) := [(⟨"CutFloor$Reader", "readBoth", "(I)Z"⟩, 8), (⟨"CutFloor$Reader", "readPlain", "(I)Z"⟩, 8), (⟨"CutFloor$Reader", "readInner", "(I)Z"⟩, 8), (⟨"CutFloor$Reader", "readComparison", "(I)Z"⟩, 8), (⟨"CutFloor$Asker", "face", "(II)V"⟩, 5), (⟨"CutFloor$Asker", "holds", "(I)Z"⟩, 5), (⟨"CutFloor$Asker", "reckon", "(LCutFloor$Tree;II)I"⟩, 5), (⟨"CutFloor$Cuttings", "keep", "()V"⟩, 7), (⟨"CutFloor$Cuttings", "bring", "(LCutFloor$Tree;II)V"⟩, 7), (⟨"CutFloor", "isThere", "(III)Z"⟩, 19), (⟨"CutFloor", "hasPlan", "()Z"⟩, 19), (⟨"CutFloor$Planner", "isPlanned", "(III)Z"⟩, 16), (⟨"CutFloor$Planner", "loadOffers", "()V"⟩, 16), (⟨"CutFloor$Offers", "rate", "(LCutFloor$Hall;)V"⟩, 20), (⟨"CutFloor$Offers", "spread", "(II[I[I)V"⟩, 20), (⟨"CutFloor$Offers", "group", "(LCutFloor$Hall;ILCutFloor$Cuttings;)V"⟩, 20)]
theorem lw_r2 : ∀ q ∈ lw_privs_2, lw_okq q := List.forall_mem_cons.mpr ⟨lw_p16, List.forall_mem_cons.mpr ⟨lw_p17, List.forall_mem_cons.mpr ⟨lw_p18, List.forall_mem_cons.mpr ⟨lw_p19, List.forall_mem_cons.mpr ⟨lw_p20, List.forall_mem_cons.mpr ⟨lw_p21, List.forall_mem_cons.mpr ⟨lw_p22, List.forall_mem_cons.mpr ⟨lw_p23, List.forall_mem_cons.mpr ⟨lw_p24, List.forall_mem_cons.mpr ⟨lw_p25, List.forall_mem_cons.mpr ⟨lw_p26, List.forall_mem_cons.mpr ⟨lw_p27, List.forall_mem_cons.mpr ⟨lw_p28, List.forall_mem_cons.mpr ⟨lw_p29, List.forall_mem_cons.mpr ⟨lw_p30, List.forall_mem_cons.mpr ⟨lw_p31, fun _ h => absurd h List.not_mem_nil⟩⟩⟩⟩⟩⟩⟩⟩⟩⟩⟩⟩⟩⟩⟩⟩
theorem lw_p32 : lw_okq (⟨"CutFloor$Offers", "fillOf", "(LCutFloor$Cuttings;I)I"⟩, 20) := ⟨⟨by decide +kernel, by decide +kernel⟩, List.mem_of_getElem? (i := 219) (by decide +kernel), List.mem_of_getElem? (i := 1019) (by decide +kernel), List.mem_of_getElem? (i := 1020) (by decide +kernel)⟩
theorem lw_p33 : lw_okq (⟨"CutFloor$Offers", "mostBonus", "(I)I"⟩, 20) := ⟨⟨by decide +kernel, by decide +kernel⟩, List.mem_of_getElem? (i := 219) (by decide +kernel), List.mem_of_getElem? (i := 1027) (by decide +kernel), List.mem_of_getElem? (i := 1028) (by decide +kernel)⟩
theorem lw_p34 : lw_okq (⟨"CutFloor$Planner", "solve", "(III)V"⟩, 16) := ⟨⟨by decide +kernel, by decide +kernel⟩, List.mem_of_getElem? (i := 211) (by decide +kernel), List.mem_of_getElem? (i := 1037) (by decide +kernel), List.mem_of_getElem? (i := 1038) (by decide +kernel)⟩
theorem lw_p35 : lw_okq (⟨"CutFloor$Planner", "layOut", "(III)I"⟩, 16) := ⟨⟨by decide +kernel, by decide +kernel⟩, List.mem_of_getElem? (i := 211) (by decide +kernel), List.mem_of_getElem? (i := 1041) (by decide +kernel), List.mem_of_getElem? (i := 1042) (by decide +kernel)⟩
theorem lw_p36 : lw_okq (⟨"CutFloor$Layers", "grow", "()V"⟩, 10) := ⟨⟨by decide +kernel, by decide +kernel⟩, List.mem_of_getElem? (i := 298) (by decide +kernel), List.mem_of_getElem? (i := 1054) (by decide +kernel), List.mem_of_getElem? (i := 1055) (by decide +kernel)⟩
theorem lw_p37 : lw_okq (⟨"CutFloor$Layers", "extend", "(IIII)I"⟩, 10) := ⟨⟨by decide +kernel, by decide +kernel⟩, List.mem_of_getElem? (i := 298) (by decide +kernel), List.mem_of_getElem? (i := 1072) (by decide +kernel), List.mem_of_getElem? (i := 1073) (by decide +kernel)⟩
theorem lw_p38 : lw_okq (⟨"CutFloor$Planner", "firstGroup", "(IIII)I"⟩, 16) := ⟨⟨by decide +kernel, by decide +kernel⟩, List.mem_of_getElem? (i := 211) (by decide +kernel), List.mem_of_getElem? (i := 1119) (by decide +kernel), List.mem_of_getElem? (i := 1120) (by decide +kernel)⟩
theorem lw_p39 : lw_okq (⟨"CutFloor$Planner", "mostOf", "(I)I"⟩, 16) := ⟨⟨by decide +kernel, by decide +kernel⟩, List.mem_of_getElem? (i := 211) (by decide +kernel), List.mem_of_getElem? (i := 1165) (by decide +kernel), List.mem_of_getElem? (i := 1166) (by decide +kernel)⟩
theorem lw_p40 : lw_okq (⟨"CutFloor$Planner", "groupInFirst", "(I)I"⟩, 16) := ⟨⟨by decide +kernel, by decide +kernel⟩, List.mem_of_getElem? (i := 211) (by decide +kernel), List.mem_of_getElem? (i := 1178) (by decide +kernel), List.mem_of_getElem? (i := 1179) (by decide +kernel)⟩
theorem lw_p41 : lw_okq (⟨"CutFloor$Planner", "manyTold", "(I)I"⟩, 16) := ⟨⟨by decide +kernel, by decide +kernel⟩, List.mem_of_getElem? (i := 211) (by decide +kernel), List.mem_of_getElem? (i := 1195) (by decide +kernel), List.mem_of_getElem? (i := 1196) (by decide +kernel)⟩
theorem lw_p42 : lw_okq (⟨"CutFloor$Planner", "toldCutting", "(I)I"⟩, 16) := ⟨⟨by decide +kernel, by decide +kernel⟩, List.mem_of_getElem? (i := 211) (by decide +kernel), List.mem_of_getElem? (i := 1199) (by decide +kernel), List.mem_of_getElem? (i := 1200) (by decide +kernel)⟩
theorem lw_p43 : lw_okq (⟨"CutFloor$Crew", "addCarcass", "(II)V"⟩, 17) := ⟨⟨by decide +kernel, by decide +kernel⟩, List.mem_of_getElem? (i := 427) (by decide +kernel), List.mem_of_getElem? (i := 1228) (by decide +kernel), List.mem_of_getElem? (i := 1229) (by decide +kernel)⟩
theorem lw_p44 : lw_okq (⟨"CutFloor$Crew", "sortTasks", "(Z)V"⟩, 17) := ⟨⟨by decide +kernel, by decide +kernel⟩, List.mem_of_getElem? (i := 427) (by decide +kernel), List.mem_of_getElem? (i := 1241) (by decide +kernel), List.mem_of_getElem? (i := 1242) (by decide +kernel)⟩
theorem lw_p45 : lw_okq (⟨"CutFloor$Crew", "isAhead", "(IIZ)Z"⟩, 17) := ⟨⟨by decide +kernel, by decide +kernel⟩, List.mem_of_getElem? (i := 427) (by decide +kernel), List.mem_of_getElem? (i := 1245) (by decide +kernel), List.mem_of_getElem? (i := 1246) (by decide +kernel)⟩
theorem lw_p46 : lw_okq (⟨"CutFloor$Crew", "keepTried", "(I)V"⟩, 17) := ⟨⟨by decide +kernel, by decide +kernel⟩, List.mem_of_getElem? (i := 427) (by decide +kernel), List.mem_of_getElem? (i := 1252) (by decide +kernel), List.mem_of_getElem? (i := 1253) (by decide +kernel)⟩
theorem lw_p47 : lw_okq (⟨"CutFloor$Crew", "canDo", "(II)Z"⟩, 17) := ⟨⟨by decide +kernel, by decide +kernel⟩, List.mem_of_getElem? (i := 427) (by decide +kernel), List.mem_of_getElem? (i := 1256) (by decide +kernel), List.mem_of_getElem? (i := 1257) (by decide +kernel)⟩
def lw_privs_3 : List (MethodName × Nat) := [(⟨"CutFloor$Offers", "fillOf", "(LCutFloor$Cuttings;I)I"⟩, 20), (⟨"CutFloor$Offers", "mostBonus", "(I)I"⟩, 20), (⟨"CutFloor$Planner", "solve", "(III)V"⟩, 16), (⟨"CutFloor$Planner", "layOut", "(III)I"⟩, 16), (⟨"CutFloor$Layers", "grow", "()V"⟩, 10), (⟨"CutFloor$Layers", "extend", "(IIII)I"⟩, 10), (⟨"CutFloor$Planner", "firstGroup", "(IIII)I"⟩, 16), (⟨"CutFloor$Planner", "mostOf", "(I)I"⟩, 16), (⟨"CutFloor$Planner", "groupInFirst", "(I)I"⟩, 16), (⟨"CutFloor$Planner", "manyTold", "(I)I"⟩, 16), (⟨"CutFloor$Planner", "toldCutting", "(I)I"⟩, 16), (⟨"CutFloor$Crew", "addCarcass", "(II)V"⟩, 17), (⟨"CutFloor$Crew", "sortTasks", "(Z)V"⟩, 17), (⟨"CutFloor$Crew", "isAhead", "(IIZ)Z"⟩, 17), (⟨"CutFloor$Crew", "keepTried", "(I)V"⟩, 17), (⟨"CutFloor$Crew", "canDo", "(II)Z"⟩, 17)]
theorem lw_r3 : ∀ q ∈ lw_privs_3, lw_okq q := List.forall_mem_cons.mpr ⟨lw_p32, List.forall_mem_cons.mpr ⟨lw_p33, List.forall_mem_cons.mpr ⟨lw_p34, List.forall_mem_cons.mpr ⟨lw_p35, List.forall_mem_cons.mpr ⟨lw_p36, List.forall_mem_cons.mpr ⟨lw_p37, List.forall_mem_cons.mpr ⟨lw_p38, List.forall_mem_cons.mpr ⟨lw_p39, List.forall_mem_cons.mpr ⟨lw_p40, List.forall_mem_cons.mpr ⟨lw_p41, List.forall_mem_cons.mpr ⟨lw_p42, List.forall_mem_cons.mpr ⟨lw_p43, List.forall_mem_cons.mpr ⟨lw_p44, List.forall_mem_cons.mpr ⟨lw_p45, List.forall_mem_cons.mpr ⟨lw_p46, List.forall_mem_cons.mpr ⟨lw_p47, fun _ h => absurd h List.not_mem_nil⟩⟩⟩⟩⟩⟩⟩⟩⟩⟩⟩⟩⟩⟩⟩⟩
theorem lw_p48 : lw_okq (⟨"CutFloor$Crew", "isLikeEarlier", "(I)Z"⟩, 17) := ⟨⟨by decide +kernel, by decide +kernel⟩, List.mem_of_getElem? (i := 427) (by decide +kernel), List.mem_of_getElem? (i := 1260) (by decide +kernel), List.mem_of_getElem? (i := 1261) (by decide +kernel)⟩
theorem lw_p49 : lw_okq (⟨"CutFloor$Mixer", "listBoxes", "()V"⟩, 15) := ⟨⟨by decide +kernel, by decide +kernel⟩, List.mem_of_getElem? (i := 489) (by decide +kernel), List.mem_of_getElem? (i := 1308) (by decide +kernel), List.mem_of_getElem? (i := 1309) (by decide +kernel)⟩
theorem lw_p50 : lw_okq (⟨"CutFloor$Mixer", "addUp", "(II[I[I)V"⟩, 15) := ⟨⟨by decide +kernel, by decide +kernel⟩, List.mem_of_getElem? (i := 489) (by decide +kernel), List.mem_of_getElem? (i := 1313) (by decide +kernel), List.mem_of_getElem? (i := 1314) (by decide +kernel)⟩
theorem lw_p51 : lw_okq (⟨"CutFloor$Mixer", "seekWith", "(I)V"⟩, 15) := ⟨⟨by decide +kernel, by decide +kernel⟩, List.mem_of_getElem? (i := 489) (by decide +kernel), List.mem_of_getElem? (i := 1318) (by decide +kernel), List.mem_of_getElem? (i := 1319) (by decide +kernel)⟩
theorem lw_p52 : lw_okq (⟨"CutFloor$Mixer", "bitsOf", "(I)I"⟩, 15) := ⟨⟨by decide +kernel, by decide +kernel⟩, List.mem_of_getElem? (i := 489) (by decide +kernel), List.mem_of_getElem? (i := 1322) (by decide +kernel), List.mem_of_getElem? (i := 1323) (by decide +kernel)⟩
theorem lw_p53 : lw_okq (⟨"CutFloor$Stock", "oldest", "(II)I"⟩, 2) := ⟨⟨by decide +kernel, by decide +kernel⟩, List.mem_of_getElem? (i := 544) (by decide +kernel), List.mem_of_getElem? (i := 1334) (by decide +kernel), List.mem_of_getElem? (i := 1335) (by decide +kernel)⟩
theorem lw_p54 : lw_okq (⟨"CutFloor$Stock", "findRounds", "(I)V"⟩, 2) := ⟨⟨by decide +kernel, by decide +kernel⟩, List.mem_of_getElem? (i := 544) (by decide +kernel), List.mem_of_getElem? (i := 1350) (by decide +kernel), List.mem_of_getElem? (i := 1351) (by decide +kernel)⟩
theorem lw_p55 : lw_okq (⟨"CutFloor$Stock", "touchesRound", "(II)Z"⟩, 2) := ⟨⟨by decide +kernel, by decide +kernel⟩, List.mem_of_getElem? (i := 544) (by decide +kernel), List.mem_of_getElem? (i := 1354) (by decide +kernel), List.mem_of_getElem? (i := 1355) (by decide +kernel)⟩
theorem lw_p56 : lw_okq (⟨"CutFloor$Stock", "touch", "(II)Z"⟩, 2) := ⟨⟨by decide +kernel, by decide +kernel⟩, List.mem_of_getElem? (i := 544) (by decide +kernel), List.mem_of_getElem? (i := 1358) (by decide +kernel), List.mem_of_getElem? (i := 1359) (by decide +kernel)⟩
theorem lw_p57 : lw_okq (⟨"CutFloor", "drawWeek", "(I)V"⟩, 19) := ⟨⟨by decide +kernel, by decide +kernel⟩, List.mem_of_getElem? (i := 22) (by decide +kernel), List.mem_of_getElem? (i := 1380) (by decide +kernel), List.mem_of_getElem? (i := 1381) (by decide +kernel)⟩
theorem lw_p58 : lw_okq (⟨"CutFloorModel", "tell", "(I)I"⟩, 68) := ⟨⟨by decide +kernel, by decide +kernel⟩, List.mem_of_getElem? (i := 1420) (by decide +kernel), List.mem_of_getElem? (i := 1646) (by decide +kernel), List.mem_of_getElem? (i := 1647) (by decide +kernel)⟩
theorem lw_p59 : lw_okq (⟨"CutFloorModel", "allCarcasses", "()I"⟩, 68) := ⟨⟨by decide +kernel, by decide +kernel⟩, List.mem_of_getElem? (i := 1420) (by decide +kernel), List.mem_of_getElem? (i := 1663) (by decide +kernel), List.mem_of_getElem? (i := 1664) (by decide +kernel)⟩
theorem lw_p60 : lw_okq (⟨"CutFloorModel", "become", "(II)I"⟩, 68) := ⟨⟨by decide +kernel, by decide +kernel⟩, List.mem_of_getElem? (i := 1420) (by decide +kernel), List.mem_of_getElem? (i := 1667) (by decide +kernel), List.mem_of_getElem? (i := 1668) (by decide +kernel)⟩
theorem lw_p61 : lw_okq (⟨"CutFloorModel", "was", "(I)I"⟩, 68) := ⟨⟨by decide +kernel, by decide +kernel⟩, List.mem_of_getElem? (i := 1420) (by decide +kernel), List.mem_of_getElem? (i := 1671) (by decide +kernel), List.mem_of_getElem? (i := 1672) (by decide +kernel)⟩
theorem lw_p62 : lw_okq (⟨"CutFloorModel", "nOrders", "()I"⟩, 68) := ⟨⟨by decide +kernel, by decide +kernel⟩, List.mem_of_getElem? (i := 1420) (by decide +kernel), List.mem_of_getElem? (i := 1689) (by decide +kernel), List.mem_of_getElem? (i := 1690) (by decide +kernel)⟩
theorem lw_p63 : lw_okq (⟨"CutFloorModel", "four", "(I)V"⟩, 68) := ⟨⟨by decide +kernel, by decide +kernel⟩, List.mem_of_getElem? (i := 1420) (by decide +kernel), List.mem_of_getElem? (i := 1712) (by decide +kernel), List.mem_of_getElem? (i := 1713) (by decide +kernel)⟩
def lw_privs_4 : List (MethodName × Nat) := [(⟨"CutFloor$Crew", "isLikeEarlier", "(I)Z"⟩, 17), (⟨"CutFloor$Mixer", "listBoxes", "()V"⟩, 15), (⟨"CutFloor$Mixer", "addUp", "(II[I[I)V"⟩, 15), (⟨"CutFloor$Mixer", "seekWith", "(I)V"⟩, 15), (⟨"CutFloor$Mixer", "bitsOf", "(I)I"⟩, 15), (⟨"CutFloor$Stock", "oldest", "(II)I"⟩, 2), (⟨"CutFloor$Stock", "findRounds", "(I)V"⟩, 2), (⟨"CutFloor$Stock", "touchesRound", "(II)Z"⟩, 2), (⟨"CutFloor$Stock", "touch", "(II)Z"⟩, 2), (⟨"CutFloor", "drawWeek", "(I)V"⟩, 19), (⟨"CutFloorModel", "tell", "(I)I"⟩, 68), (⟨"CutFloorModel", "allCarcasses", "()I"⟩, 68), (⟨"CutFloorModel", "become", "(II)I"⟩, 68), (⟨"CutFloorModel", "was", "(I)I"⟩, 68), (⟨"CutFloorModel", "nOrders", "()I"⟩, 68), (⟨"CutFloorModel", "four", "(I)V"⟩, 68)]
theorem lw_r4 : ∀ q ∈ lw_privs_4, lw_okq q := List.forall_mem_cons.mpr ⟨lw_p48, List.forall_mem_cons.mpr ⟨lw_p49, List.forall_mem_cons.mpr ⟨lw_p50, List.forall_mem_cons.mpr ⟨lw_p51, List.forall_mem_cons.mpr ⟨lw_p52, List.forall_mem_cons.mpr ⟨lw_p53, List.forall_mem_cons.mpr ⟨lw_p54, List.forall_mem_cons.mpr ⟨lw_p55, List.forall_mem_cons.mpr ⟨lw_p56, List.forall_mem_cons.mpr ⟨lw_p57, List.forall_mem_cons.mpr ⟨lw_p58, List.forall_mem_cons.mpr ⟨lw_p59, List.forall_mem_cons.mpr ⟨lw_p60, List.forall_mem_cons.mpr ⟨lw_p61, List.forall_mem_cons.mpr ⟨lw_p62, List.forall_mem_cons.mpr ⟨lw_p63, fun _ h => absurd h List.not_mem_nil⟩⟩⟩⟩⟩⟩⟩⟩⟩⟩⟩⟩⟩⟩⟩⟩
theorem lw_p64 : lw_okq (⟨"CutFloorModel", "begin", "()V"⟩, 68) := ⟨⟨by decide +kernel, by decide +kernel⟩, List.mem_of_getElem? (i := 1420) (by decide +kernel), List.mem_of_getElem? (i := 1728) (by decide +kernel), List.mem_of_getElem? (i := 1729) (by decide +kernel)⟩
theorem lw_p65 : lw_okq (⟨"CutFloorModel", "next", "()V"⟩, 68) := ⟨⟨by decide +kernel, by decide +kernel⟩, List.mem_of_getElem? (i := 1420) (by decide +kernel), List.mem_of_getElem? (i := 1732) (by decide +kernel), List.mem_of_getElem? (i := 1733) (by decide +kernel)⟩
theorem lw_p66 : lw_okq (⟨"CutFloorModel", "readClause", "()V"⟩, 68) := ⟨⟨by decide +kernel, by decide +kernel⟩, List.mem_of_getElem? (i := 1420) (by decide +kernel), List.mem_of_getElem? (i := 1748) (by decide +kernel), List.mem_of_getElem? (i := 1749) (by decide +kernel)⟩
theorem lw_p67 : lw_okq (⟨"CutFloorModel", "isWord", "(J)Z"⟩, 68) := ⟨⟨by decide +kernel, by decide +kernel⟩, List.mem_of_getElem? (i := 1420) (by decide +kernel), List.mem_of_getElem? (i := 1753) (by decide +kernel), List.mem_of_getElem? (i := 1754) (by decide +kernel)⟩
theorem lw_p68 : lw_okq (⟨"CutFloorModel", "must", "(Z)V"⟩, 68) := ⟨⟨by decide +kernel, by decide +kernel⟩, List.mem_of_getElem? (i := 1420) (by decide +kernel), List.mem_of_getElem? (i := 1759) (by decide +kernel), List.mem_of_getElem? (i := 1760) (by decide +kernel)⟩
theorem lw_p69 : lw_okq (⟨"CutFloorModel", "readCut", "()V"⟩, 68) := ⟨⟨by decide +kernel, by decide +kernel⟩, List.mem_of_getElem? (i := 1420) (by decide +kernel), List.mem_of_getElem? (i := 1763) (by decide +kernel), List.mem_of_getElem? (i := 1764) (by decide +kernel)⟩
theorem lw_p70 : lw_okq (⟨"CutFloorModel", "number", "(JJ)I"⟩, 68) := ⟨⟨by decide +kernel, by decide +kernel⟩, List.mem_of_getElem? (i := 1420) (by decide +kernel), List.mem_of_getElem? (i := 1767) (by decide +kernel), List.mem_of_getElem? (i := 1768) (by decide +kernel)⟩
theorem lw_p71 : lw_okq (⟨"CutFloorModel", "readPieces", "(II)V"⟩, 68) := ⟨⟨by decide +kernel, by decide +kernel⟩, List.mem_of_getElem? (i := 1420) (by decide +kernel), List.mem_of_getElem? (i := 1772) (by decide +kernel), List.mem_of_getElem? (i := 1773) (by decide +kernel)⟩
theorem lw_p72 : lw_okq (⟨"CutFloorModel", "readExpression", "(Z)V"⟩, 68) := ⟨⟨by decide +kernel, by decide +kernel⟩, List.mem_of_getElem? (i := 1420) (by decide +kernel), List.mem_of_getElem? (i := 1777) (by decide +kernel), List.mem_of_getElem? (i := 1778) (by decide +kernel)⟩
theorem lw_p73 : lw_okq (⟨"CutFloorModel", "readPlain", "()I"⟩, 68) := ⟨⟨by decide +kernel, by decide +kernel⟩, List.mem_of_getElem? (i := 1420) (by decide +kernel), List.mem_of_getElem? (i := 1781) (by decide +kernel), List.mem_of_getElem? (i := 1782) (by decide +kernel)⟩
theorem lw_p74 : lw_okq (⟨"CutFloorModel", "push", "(II)V"⟩, 68) := ⟨⟨by decide +kernel, by decide +kernel⟩, List.mem_of_getElem? (i := 1420) (by decide +kernel), List.mem_of_getElem? (i := 1786) (by decide +kernel), List.mem_of_getElem? (i := 1787) (by decide +kernel)⟩
theorem lw_p75 : lw_okq (⟨"CutFloorModel", "isSign", "(I)Z"⟩, 68) := ⟨⟨by decide +kernel, by decide +kernel⟩, List.mem_of_getElem? (i := 1420) (by decide +kernel), List.mem_of_getElem? (i := 1790) (by decide +kernel), List.mem_of_getElem? (i := 1791) (by decide +kernel)⟩
theorem lw_p76 : lw_okq (⟨"CutFloorModel", "openBracket", "(I)V"⟩, 68) := ⟨⟨by decide +kernel, by decide +kernel⟩, List.mem_of_getElem? (i := 1420) (by decide +kernel), List.mem_of_getElem? (i := 1794) (by decide +kernel), List.mem_of_getElem? (i := 1795) (by decide +kernel)⟩
theorem lw_p77 : lw_okq (⟨"CutFloorModel", "readPart", "()I"⟩, 68) := ⟨⟨by decide +kernel, by decide +kernel⟩, List.mem_of_getElem? (i := 1420) (by decide +kernel), List.mem_of_getElem? (i := 1798) (by decide +kernel), List.mem_of_getElem? (i := 1799) (by decide +kernel)⟩
theorem lw_p78 : lw_okq (⟨"CutFloorModel", "partAt", "()I"⟩, 68) := ⟨⟨by decide +kernel, by decide +kernel⟩, List.mem_of_getElem? (i := 1420) (by decide +kernel), List.mem_of_getElem? (i := 1802) (by decide +kernel), List.mem_of_getElem? (i := 1803) (by decide +kernel)⟩
theorem lw_p79 : lw_okq (⟨"CutFloorModel", "leaf", "(ZII)V"⟩, 68) := ⟨⟨by decide +kernel, by decide +kernel⟩, List.mem_of_getElem? (i := 1420) (by decide +kernel), List.mem_of_getElem? (i := 1807) (by decide +kernel), List.mem_of_getElem? (i := 1808) (by decide +kernel)⟩
def lw_privs_5 : List (MethodName × Nat) := [(⟨"CutFloorModel", "begin", "()V"⟩, 68), (⟨"CutFloorModel", "next", "()V"⟩, 68), (⟨"CutFloorModel", "readClause", "()V"⟩, 68), (⟨"CutFloorModel", "isWord", "(J)Z"⟩, 68), (⟨"CutFloorModel", "must", "(Z)V"⟩, 68), (⟨"CutFloorModel", "readCut", "()V"⟩, 68), (⟨"CutFloorModel", "number", "(JJ)I"⟩, 68), (⟨"CutFloorModel", "readPieces", "(II)V"⟩, 68), (⟨"CutFloorModel", "readExpression", "(Z)V"⟩, 68), (⟨"CutFloorModel", "readPlain", "()I"⟩, 68), (⟨"CutFloorModel", "push", "(II)V"⟩, 68), (⟨"CutFloorModel", "isSign", "(I)Z"⟩, 68), (⟨"CutFloorModel", "openBracket", "(I)V"⟩, 68), (⟨"CutFloorModel", "readPart", "()I"⟩, 68), (⟨"CutFloorModel", "partAt", "()I"⟩, 68), (⟨"CutFloorModel", "leaf", "(ZII)V"⟩, 68)]
theorem lw_r5 : ∀ q ∈ lw_privs_5, lw_okq q := List.forall_mem_cons.mpr ⟨lw_p64, List.forall_mem_cons.mpr ⟨lw_p65, List.forall_mem_cons.mpr ⟨lw_p66, List.forall_mem_cons.mpr ⟨lw_p67, List.forall_mem_cons.mpr ⟨lw_p68, List.forall_mem_cons.mpr ⟨lw_p69, List.forall_mem_cons.mpr ⟨lw_p70, List.forall_mem_cons.mpr ⟨lw_p71, List.forall_mem_cons.mpr ⟨lw_p72, List.forall_mem_cons.mpr ⟨lw_p73, List.forall_mem_cons.mpr ⟨lw_p74, List.forall_mem_cons.mpr ⟨lw_p75, List.forall_mem_cons.mpr ⟨lw_p76, List.forall_mem_cons.mpr ⟨lw_p77, List.forall_mem_cons.mpr ⟨lw_p78, List.forall_mem_cons.mpr ⟨lw_p79, fun _ h => absurd h List.not_mem_nil⟩⟩⟩⟩⟩⟩⟩⟩⟩⟩⟩⟩⟩⟩⟩⟩
theorem lw_p80 : lw_okq (⟨"CutFloorModel", "emit", "(II)V"⟩, 68) := ⟨⟨by decide +kernel, by decide +kernel⟩, List.mem_of_getElem? (i := 1420) (by decide +kernel), List.mem_of_getElem? (i := 1811) (by decide +kernel), List.mem_of_getElem? (i := 1812) (by decide +kernel)⟩
theorem lw_p81 : lw_okq (⟨"CutFloorModel", "behindSum", "(Z)I"⟩, 68) := ⟨⟨by decide +kernel, by decide +kernel⟩, List.mem_of_getElem? (i := 1420) (by decide +kernel), List.mem_of_getElem? (i := 1815) (by decide +kernel), List.mem_of_getElem? (i := 1816) (by decide +kernel)⟩
theorem lw_p82 : lw_okq (⟨"CutFloorModel", "settle", "(I)V"⟩, 68) := ⟨⟨by decide +kernel, by decide +kernel⟩, List.mem_of_getElem? (i := 1420) (by decide +kernel), List.mem_of_getElem? (i := 1822) (by decide +kernel), List.mem_of_getElem? (i := 1823) (by decide +kernel)⟩
theorem lw_p83 : lw_okq (⟨"CutFloorModel", "inner", "()I"⟩, 68) := ⟨⟨by decide +kernel, by decide +kernel⟩, List.mem_of_getElem? (i := 1420) (by decide +kernel), List.mem_of_getElem? (i := 1826) (by decide +kernel), List.mem_of_getElem? (i := 1827) (by decide +kernel)⟩
theorem lw_p84 : lw_okq (⟨"CutFloorModel", "isCompared", "()Z"⟩, 68) := ⟨⟨by decide +kernel, by decide +kernel⟩, List.mem_of_getElem? (i := 1420) (by decide +kernel), List.mem_of_getElem? (i := 1830) (by decide +kernel), List.mem_of_getElem? (i := 1831) (by decide +kernel)⟩
theorem lw_p85 : lw_okq (⟨"CutFloorModel", "behindTest", "()I"⟩, 68) := ⟨⟨by decide +kernel, by decide +kernel⟩, List.mem_of_getElem? (i := 1420) (by decide +kernel), List.mem_of_getElem? (i := 1838) (by decide +kernel), List.mem_of_getElem? (i := 1839) (by decide +kernel)⟩
theorem lw_p86 : lw_okq (⟨"CutFloorModel", "isWay", "(I)Z"⟩, 68) := ⟨⟨by decide +kernel, by decide +kernel⟩, List.mem_of_getElem? (i := 1420) (by decide +kernel), List.mem_of_getElem? (i := 1848) (by decide +kernel), List.mem_of_getElem? (i := 1849) (by decide +kernel)⟩
theorem lw_p87 : lw_okq (⟨"CutFloorModel", "partOf", "(I)I"⟩, 68) := ⟨⟨by decide +kernel, by decide +kernel⟩, List.mem_of_getElem? (i := 1420) (by decide +kernel), List.mem_of_getElem? (i := 1853) (by decide +kernel), List.mem_of_getElem? (i := 1854) (by decide +kernel)⟩
theorem lw_p88 : lw_okq (⟨"CutFloorModel", "pieces", "(II)I"⟩, 68) := ⟨⟨by decide +kernel, by decide +kernel⟩, List.mem_of_getElem? (i := 1420) (by decide +kernel), List.mem_of_getElem? (i := 1857) (by decide +kernel), List.mem_of_getElem? (i := 1858) (by decide +kernel)⟩
theorem lw_p89 : lw_okq (⟨"CutFloorModel", "wastes", "(II)I"⟩, 68) := ⟨⟨by decide +kernel, by decide +kernel⟩, List.mem_of_getElem? (i := 1420) (by decide +kernel), List.mem_of_getElem? (i := 1866) (by decide +kernel), List.mem_of_getElem? (i := 1867) (by decide +kernel)⟩
theorem lw_p90 : lw_okq (⟨"CutFloorModel", "weight", "(II)I"⟩, 68) := ⟨⟨by decide +kernel, by decide +kernel⟩, List.mem_of_getElem? (i := 1420) (by decide +kernel), List.mem_of_getElem? (i := 1870) (by decide +kernel), List.mem_of_getElem? (i := 1871) (by decide +kernel)⟩
theorem lw_p91 : lw_okq (⟨"CutFloorModel", "canGo", "(II)Z"⟩, 68) := ⟨⟨by decide +kernel, by decide +kernel⟩, List.mem_of_getElem? (i := 1420) (by decide +kernel), List.mem_of_getElem? (i := 1874) (by decide +kernel), List.mem_of_getElem? (i := 1875) (by decide +kernel)⟩
theorem lw_p92 : lw_okq (⟨"CutFloorModel", "tells", "(IIIII)I"⟩, 68) := ⟨⟨by decide +kernel, by decide +kernel⟩, List.mem_of_getElem? (i := 1420) (by decide +kernel), List.mem_of_getElem? (i := 1878) (by decide +kernel), List.mem_of_getElem? (i := 1879) (by decide +kernel)⟩
theorem lw_p93 : lw_okq (⟨"CutFloorModel", "isSo", "(I)Z"⟩, 68) := ⟨⟨by decide +kernel, by decide +kernel⟩, List.mem_of_getElem? (i := 1420) (by decide +kernel), List.mem_of_getElem? (i := 1882) (by decide +kernel), List.mem_of_getElem? (i := 1883) (by decide +kernel)⟩
theorem lw_p94 : lw_okq (⟨"CutFloorModel", "reckonAll", "(II)V"⟩, 68) := ⟨⟨by decide +kernel, by decide +kernel⟩, List.mem_of_getElem? (i := 1420) (by decide +kernel), List.mem_of_getElem? (i := 1886) (by decide +kernel), List.mem_of_getElem? (i := 1887) (by decide +kernel)⟩
theorem lw_p95 : lw_okq (⟨"CutFloorModel", "reckon", "(IJJ)J"⟩, 68) := ⟨⟨by decide +kernel, by decide +kernel⟩, List.mem_of_getElem? (i := 1420) (by decide +kernel), List.mem_of_getElem? (i := 1890) (by decide +kernel), List.mem_of_getElem? (i := 1891) (by decide +kernel)⟩
def lw_privs_6 : List (MethodName × Nat) := [(⟨"CutFloorModel", "emit", "(II)V"⟩, 68), (⟨"CutFloorModel", "behindSum", "(Z)I"⟩, 68), (⟨"CutFloorModel", "settle", "(I)V"⟩, 68), (⟨"CutFloorModel", "inner", "()I"⟩, 68), (⟨"CutFloorModel", "isCompared", "()Z"⟩, 68), (⟨"CutFloorModel", "behindTest", "()I"⟩, 68), (⟨"CutFloorModel", "isWay", "(I)Z"⟩, 68), (⟨"CutFloorModel", "partOf", "(I)I"⟩, 68), (⟨"CutFloorModel", "pieces", "(II)I"⟩, 68), (⟨"CutFloorModel", "wastes", "(II)I"⟩, 68), (⟨"CutFloorModel", "weight", "(II)I"⟩, 68), (⟨"CutFloorModel", "canGo", "(II)Z"⟩, 68), (⟨"CutFloorModel", "tells", "(IIIII)I"⟩, 68), (⟨"CutFloorModel", "isSo", "(I)Z"⟩, 68), (⟨"CutFloorModel", "reckonAll", "(II)V"⟩, 68), (⟨"CutFloorModel", "reckon", "(IJJ)J"⟩, 68)]
theorem lw_r6 : ∀ q ∈ lw_privs_6, lw_okq q := List.forall_mem_cons.mpr ⟨lw_p80, List.forall_mem_cons.mpr ⟨lw_p81, List.forall_mem_cons.mpr ⟨lw_p82, List.forall_mem_cons.mpr ⟨lw_p83, List.forall_mem_cons.mpr ⟨lw_p84, List.forall_mem_cons.mpr ⟨lw_p85, List.forall_mem_cons.mpr ⟨lw_p86, List.forall_mem_cons.mpr ⟨lw_p87, List.forall_mem_cons.mpr ⟨lw_p88, List.forall_mem_cons.mpr ⟨lw_p89, List.forall_mem_cons.mpr ⟨lw_p90, List.forall_mem_cons.mpr ⟨lw_p91, List.forall_mem_cons.mpr ⟨lw_p92, List.forall_mem_cons.mpr ⟨lw_p93, List.forall_mem_cons.mpr ⟨lw_p94, List.forall_mem_cons.mpr ⟨lw_p95, fun _ h => absurd h List.not_mem_nil⟩⟩⟩⟩⟩⟩⟩⟩⟩⟩⟩⟩⟩⟩⟩⟩
theorem lw_p96 : lw_okq (⟨"CutFloorModel", "minutes", "(II)I"⟩, 68) := ⟨⟨by decide +kernel, by decide +kernel⟩, List.mem_of_getElem? (i := 1420) (by decide +kernel), List.mem_of_getElem? (i := 1896) (by decide +kernel), List.mem_of_getElem? (i := 1897) (by decide +kernel)⟩
theorem lw_p97 : lw_okq (⟨"CutFloorModel", "skill", "(II)I"⟩, 68) := ⟨⟨by decide +kernel, by decide +kernel⟩, List.mem_of_getElem? (i := 1420) (by decide +kernel), List.mem_of_getElem? (i := 1900) (by decide +kernel), List.mem_of_getElem? (i := 1901) (by decide +kernel)⟩
theorem lw_p98 : lw_okq (⟨"CutFloorModel", "findCuttings", "()V"⟩, 68) := ⟨⟨by decide +kernel, by decide +kernel⟩, List.mem_of_getElem? (i := 1420) (by decide +kernel), List.mem_of_getElem? (i := 1908) (by decide +kernel), List.mem_of_getElem? (i := 1909) (by decide +kernel)⟩
theorem lw_p99 : lw_okq (⟨"CutFloorModel", "findOf", "(I)V"⟩, 68) := ⟨⟨by decide +kernel, by decide +kernel⟩, List.mem_of_getElem? (i := 1420) (by decide +kernel), List.mem_of_getElem? (i := 1912) (by decide +kernel), List.mem_of_getElem? (i := 1913) (by decide +kernel)⟩
theorem lw_p100 : lw_okq (⟨"CutFloorModel", "take", "(I)V"⟩, 68) := ⟨⟨by decide +kernel, by decide +kernel⟩, List.mem_of_getElem? (i := 1420) (by decide +kernel), List.mem_of_getElem? (i := 1916) (by decide +kernel), List.mem_of_getElem? (i := 1917) (by decide +kernel)⟩
theorem lw_p101 : lw_okq (⟨"CutFloorModel", "goesOn", "(II)Z"⟩, 68) := ⟨⟨by decide +kernel, by decide +kernel⟩, List.mem_of_getElem? (i := 1420) (by decide +kernel), List.mem_of_getElem? (i := 1920) (by decide +kernel), List.mem_of_getElem? (i := 1921) (by decide +kernel)⟩
theorem lw_p102 : lw_okq (⟨"CutFloorModel", "isCutting", "(II)Z"⟩, 68) := ⟨⟨by decide +kernel, by decide +kernel⟩, List.mem_of_getElem? (i := 1420) (by decide +kernel), List.mem_of_getElem? (i := 1928) (by decide +kernel), List.mem_of_getElem? (i := 1929) (by decide +kernel)⟩
theorem lw_p103 : lw_okq (⟨"CutFloorModel", "findPlan", "()Z"⟩, 68) := ⟨⟨by decide +kernel, by decide +kernel⟩, List.mem_of_getElem? (i := 1420) (by decide +kernel), List.mem_of_getElem? (i := 1940) (by decide +kernel), List.mem_of_getElem? (i := 1941) (by decide +kernel)⟩
theorem lw_p104 : lw_okq (⟨"CutFloorModel", "lay", "(III)Z"⟩, 68) := ⟨⟨by decide +kernel, by decide +kernel⟩, List.mem_of_getElem? (i := 1420) (by decide +kernel), List.mem_of_getElem? (i := 1944) (by decide +kernel), List.mem_of_getElem? (i := 1945) (by decide +kernel)⟩
theorem lw_p105 : lw_okq (⟨"CutFloorModel", "reckon", "()I"⟩, 68) := ⟨⟨by decide +kernel, by decide +kernel⟩, List.mem_of_getElem? (i := 1420) (by decide +kernel), List.mem_of_getElem? (i := 1948) (by decide +kernel), List.mem_of_getElem? (i := 1949) (by decide +kernel)⟩
theorem lw_p106 : lw_okq (⟨"CutFloorModel", "layOrders", "()V"⟩, 68) := ⟨⟨by decide +kernel, by decide +kernel⟩, List.mem_of_getElem? (i := 1420) (by decide +kernel), List.mem_of_getElem? (i := 1952) (by decide +kernel), List.mem_of_getElem? (i := 1953) (by decide +kernel)⟩
theorem lw_p107 : lw_okq (⟨"CutFloorModel", "split", "(I)V"⟩, 68) := ⟨⟨by decide +kernel, by decide +kernel⟩, List.mem_of_getElem? (i := 1420) (by decide +kernel), List.mem_of_getElem? (i := 1957) (by decide +kernel), List.mem_of_getElem? (i := 1958) (by decide +kernel)⟩
theorem lw_p108 : lw_okq (⟨"CutFloorModel", "behind", "(II)I"⟩, 68) := ⟨⟨by decide +kernel, by decide +kernel⟩, List.mem_of_getElem? (i := 1420) (by decide +kernel), List.mem_of_getElem? (i := 1961) (by decide +kernel), List.mem_of_getElem? (i := 1962) (by decide +kernel)⟩
theorem lw_p109 : lw_okq (⟨"CutFloorModel", "reckonState", "(II)V"⟩, 68) := ⟨⟨by decide +kernel, by decide +kernel⟩, List.mem_of_getElem? (i := 1420) (by decide +kernel), List.mem_of_getElem? (i := 1965) (by decide +kernel), List.mem_of_getElem? (i := 1966) (by decide +kernel)⟩
theorem lw_p110 : lw_okq (⟨"CutFloorModel", "gain", "(II)I"⟩, 68) := ⟨⟨by decide +kernel, by decide +kernel⟩, List.mem_of_getElem? (i := 1420) (by decide +kernel), List.mem_of_getElem? (i := 1969) (by decide +kernel), List.mem_of_getElem? (i := 1970) (by decide +kernel)⟩
theorem lw_p111 : lw_okq (⟨"CutFloorModel", "over", "(II)I"⟩, 68) := ⟨⟨by decide +kernel, by decide +kernel⟩, List.mem_of_getElem? (i := 1420) (by decide +kernel), List.mem_of_getElem? (i := 1973) (by decide +kernel), List.mem_of_getElem? (i := 1974) (by decide +kernel)⟩
def lw_privs_7 : List (MethodName × Nat) := [(⟨"CutFloorModel", "minutes", "(II)I"⟩, 68), (⟨"CutFloorModel", "skill", "(II)I"⟩, 68), (⟨"CutFloorModel", "findCuttings", "()V"⟩, 68), (⟨"CutFloorModel", "findOf", "(I)V"⟩, 68), (⟨"CutFloorModel", "take", "(I)V"⟩, 68), (⟨"CutFloorModel", "goesOn", "(II)Z"⟩, 68), (⟨"CutFloorModel", "isCutting", "(II)Z"⟩, 68), (⟨"CutFloorModel", "findPlan", "()Z"⟩, 68), (⟨"CutFloorModel", "lay", "(III)Z"⟩, 68), (⟨"CutFloorModel", "reckon", "()I"⟩, 68), (⟨"CutFloorModel", "layOrders", "()V"⟩, 68), (⟨"CutFloorModel", "split", "(I)V"⟩, 68), (⟨"CutFloorModel", "behind", "(II)I"⟩, 68), (⟨"CutFloorModel", "reckonState", "(II)V"⟩, 68), (⟨"CutFloorModel", "gain", "(II)I"⟩, 68), (⟨"CutFloorModel", "over", "(II)I"⟩, 68)]
theorem lw_r7 : ∀ q ∈ lw_privs_7, lw_okq q := List.forall_mem_cons.mpr ⟨lw_p96, List.forall_mem_cons.mpr ⟨lw_p97, List.forall_mem_cons.mpr ⟨lw_p98, List.forall_mem_cons.mpr ⟨lw_p99, List.forall_mem_cons.mpr ⟨lw_p100, List.forall_mem_cons.mpr ⟨lw_p101, List.forall_mem_cons.mpr ⟨lw_p102, List.forall_mem_cons.mpr ⟨lw_p103, List.forall_mem_cons.mpr ⟨lw_p104, List.forall_mem_cons.mpr ⟨lw_p105, List.forall_mem_cons.mpr ⟨lw_p106, List.forall_mem_cons.mpr ⟨lw_p107, List.forall_mem_cons.mpr ⟨lw_p108, List.forall_mem_cons.mpr ⟨lw_p109, List.forall_mem_cons.mpr ⟨lw_p110, List.forall_mem_cons.mpr ⟨lw_p111, fun _ h => absurd h List.not_mem_nil⟩⟩⟩⟩⟩⟩⟩⟩⟩⟩⟩⟩⟩⟩⟩⟩
theorem lw_p112 : lw_okq (⟨"CutFloorModel", "with", "(II)I"⟩, 68) := ⟨⟨by decide +kernel, by decide +kernel⟩, List.mem_of_getElem? (i := 1420) (by decide +kernel), List.mem_of_getElem? (i := 1993) (by decide +kernel), List.mem_of_getElem? (i := 1994) (by decide +kernel)⟩
theorem lw_p113 : lw_okq (⟨"CutFloorModel", "classAt", "(I)I"⟩, 68) := ⟨⟨by decide +kernel, by decide +kernel⟩, List.mem_of_getElem? (i := 1420) (by decide +kernel), List.mem_of_getElem? (i := 2020) (by decide +kernel), List.mem_of_getElem? (i := 2021) (by decide +kernel)⟩
theorem lw_p114 : lw_okq (⟨"CutFloorModel", "toldOf", "(I)I"⟩, 68) := ⟨⟨by decide +kernel, by decide +kernel⟩, List.mem_of_getElem? (i := 1420) (by decide +kernel), List.mem_of_getElem? (i := 2024) (by decide +kernel), List.mem_of_getElem? (i := 2025) (by decide +kernel)⟩
theorem lw_p115 : lw_okq (⟨"CutFloorModel", "findTasks", "()V"⟩, 68) := ⟨⟨by decide +kernel, by decide +kernel⟩, List.mem_of_getElem? (i := 1420) (by decide +kernel), List.mem_of_getElem? (i := 2032) (by decide +kernel), List.mem_of_getElem? (i := 2033) (by decide +kernel)⟩
theorem lw_p116 : lw_okq (⟨"CutFloorModel", "comes", "(III)I"⟩, 68) := ⟨⟨by decide +kernel, by decide +kernel⟩, List.mem_of_getElem? (i := 1420) (by decide +kernel), List.mem_of_getElem? (i := 2036) (by decide +kernel), List.mem_of_getElem? (i := 2037) (by decide +kernel)⟩
theorem lw_p117 : lw_okq (⟨"CutFloorModel", "sharedBy", "(I)I"⟩, 68) := ⟨⟨by decide +kernel, by decide +kernel⟩, List.mem_of_getElem? (i := 1420) (by decide +kernel), List.mem_of_getElem? (i := 2044) (by decide +kernel), List.mem_of_getElem? (i := 2045) (by decide +kernel)⟩
theorem lw_p118 : lw_okq (⟨"CutFloorModel", "addBox", "(IIIIII)V"⟩, 68) := ⟨⟨by decide +kernel, by decide +kernel⟩, List.mem_of_getElem? (i := 1420) (by decide +kernel), List.mem_of_getElem? (i := 2059) (by decide +kernel), List.mem_of_getElem? (i := 2060) (by decide +kernel)⟩
theorem lw_p119 : lw_okq (⟨"CutFloorModel", "ofBox", "(II)I"⟩, 68) := ⟨⟨by decide +kernel, by decide +kernel⟩, List.mem_of_getElem? (i := 1420) (by decide +kernel), List.mem_of_getElem? (i := 2068) (by decide +kernel), List.mem_of_getElem? (i := 2069) (by decide +kernel)⟩
theorem lw_p120 : lw_okq (⟨"CutFloorModel", "touches", "(II)Z"⟩, 68) := ⟨⟨by decide +kernel, by decide +kernel⟩, List.mem_of_getElem? (i := 1420) (by decide +kernel), List.mem_of_getElem? (i := 2098) (by decide +kernel), List.mem_of_getElem? (i := 2099) (by decide +kernel)⟩
def lw_privs_8 : List (MethodName × Nat) := [(⟨"CutFloorModel", "with", "(II)I"⟩, 68), (⟨"CutFloorModel", "classAt", "(I)I"⟩, 68), (⟨"CutFloorModel", "toldOf", "(I)I"⟩, 68), (⟨"CutFloorModel", "findTasks", "()V"⟩, 68), (⟨"CutFloorModel", "comes", "(III)I"⟩, 68), (⟨"CutFloorModel", "sharedBy", "(I)I"⟩, 68), (⟨"CutFloorModel", "addBox", "(IIIIII)V"⟩, 68), (⟨"CutFloorModel", "ofBox", "(II)I"⟩, 68), (⟨"CutFloorModel", "touches", "(II)Z"⟩, 68)]
theorem lw_r8 : ∀ q ∈ lw_privs_8, lw_okq q := List.forall_mem_cons.mpr ⟨lw_p112, List.forall_mem_cons.mpr ⟨lw_p113, List.forall_mem_cons.mpr ⟨lw_p114, List.forall_mem_cons.mpr ⟨lw_p115, List.forall_mem_cons.mpr ⟨lw_p116, List.forall_mem_cons.mpr ⟨lw_p117, List.forall_mem_cons.mpr ⟨lw_p118, List.forall_mem_cons.mpr ⟨lw_p119, List.forall_mem_cons.mpr ⟨lw_p120, fun _ h => absurd h List.not_mem_nil⟩⟩⟩⟩⟩⟩⟩⟩⟩
def lw_privs : List (MethodName × Nat) := lw_privs_1 ++ (lw_privs_2 ++ (lw_privs_3 ++ (lw_privs_4 ++ (lw_privs_5 ++ (lw_privs_6 ++ (lw_privs_7 ++ (lw_privs_8)))))))
def lw_tbl : List Cond := k2_sels lw_privs ++ tables_1
theorem lw_privs_ok : ∀ q ∈ lw_privs, lw_okq q := by
  show ∀ q ∈ lw_privs_1 ++ (lw_privs_2 ++ (lw_privs_3 ++ (lw_privs_4 ++ (lw_privs_5 ++ (lw_privs_6 ++ (lw_privs_7 ++ (lw_privs_8))))))), lw_okq q
  exact List.forall_mem_append.mpr ⟨lw_r1, List.forall_mem_append.mpr ⟨lw_r2, List.forall_mem_append.mpr ⟨lw_r3, List.forall_mem_append.mpr ⟨lw_r4, List.forall_mem_append.mpr ⟨lw_r5, List.forall_mem_append.mpr ⟨lw_r6, List.forall_mem_append.mpr ⟨lw_r7, lw_r8⟩⟩⟩⟩⟩⟩⟩
def RX0 : String := "CutFloor$Asker"
def TX0 : u_T := fun k => match k with
  | 0 => ("CutFloor$Asker", "hall", "LCutFloor$Hall;", true)
  | 1 => ("CutFloor$Asker", "facts", "[I", true)
  | 2 => ("CutFloor$Asker", "stack", "[I", true)
  | 3 => ("CutFloor$Asker", "broken", "Z", false)
  | _ => ("CutFloor$Asker", "sumTold", "I", false)
def tyX0 : Nat → FieldType := fun k => match k with
  | 0 => .object "CutFloor$Hall"
  | 1 => .array .int
  | 2 => .array .int
  | 3 => .boolean
  | _ => .int
abbrev wsX00 : List Cond := u_ws RX0 TX0 5
theorem nmX0 : ∀ a, a < 5 → ∀ b, b < 5 → a ≠ b → (TX0 a).2.1 ≠ (TX0 b).2.1 := by decide +kernel
theorem tyX0_ok : ∀ k, k < 5 → parseFieldDescriptor (TX0 k).2.2.1 = some (tyX0 k) := by decide +kernel
abbrev cX0_init : ByteArray := prog_2_method_1_code
def yX0_init : MethodName := ⟨RX0, "<init>", "(LCutFloor$Hall;)V"⟩
abbrev cX0_canBeGone : ByteArray := prog_2_method_2_code
def yX0_canBeGone : MethodName := ⟨RX0, "canBeGone", "(II)Z"⟩
abbrev cX0_latestOf : ByteArray := prog_2_method_3_code
def yX0_latestOf : MethodName := ⟨RX0, "latestOf", "(III)I"⟩
abbrev cX0_face : ByteArray := prog_2_method_4_code
def yX0_face : MethodName := ⟨RX0, "face", "(II)V"⟩
abbrev cX0_holds : ByteArray := prog_2_method_5_code
def yX0_holds : MethodName := ⟨RX0, "holds", "(I)Z"⟩
abbrev cX0_reckon : ByteArray := prog_2_method_6_code
def yX0_reckon : MethodName := ⟨RX0, "reckon", "(LCutFloor$Tree;II)I"⟩
abbrev cX0_joined : ByteArray := prog_2_method_7_code
def yX0_joined : MethodName := ⟨RX0, "joined", "(IJJ)J"⟩
def RX1 : String := "CutFloor$Crew"
def TX1 : u_T := fun k => match k with
  | 0 => ("CutFloor$Crew", "hall", "LCutFloor$Hall;", true)
  | 1 => ("CutFloor$Crew", "asker", "LCutFloor$Asker;", true)
  | 2 => ("CutFloor$Crew", "planner", "LCutFloor$Planner;", true)
  | 3 => ("CutFloor$Crew", "minutes", "[I", true)
  | 4 => ("CutFloor$Crew", "skillNeeded", "[I", true)
  | 5 => ("CutFloor$Crew", "menOfWays", "[I", true)
  | 6 => ("CutFloor$Crew", "coming", "[I", true)
  | 7 => ("CutFloor$Crew", "tasks", "[I", true)
  | 8 => ("CutFloor$Crew", "tried", "[I", true)
  | 9 => ("CutFloor$Crew", "loads", "[I", true)
  | 10 => ("CutFloor$Crew", "taskCount", "I", false)
  | 11 => ("CutFloor$Crew", "minutesInAll", "I", false)
  | 12 => ("CutFloor$Crew", "longest", "I", false)
  | 13 => ("CutFloor$Crew", "limit", "I", false)
  | 14 => ("CutFloor$Crew", "enough", "I", false)
  | 15 => ("CutFloor$Crew", "tasksStale", "Z", false)
  | _ => ("CutFloor$Crew", "shareStale", "Z", false)
def tyX1 : Nat → FieldType := fun k => match k with
  | 0 => .object "CutFloor$Hall"
  | 1 => .object "CutFloor$Asker"
  | 2 => .object "CutFloor$Planner"
  | 3 => .array .int
  | 4 => .array .int
  | 5 => .array .int
  | 6 => .array .int
  | 7 => .array .int
  | 8 => .array .int
  | 9 => .array .int
  | 10 => .int
  | 11 => .int
  | 12 => .int
  | 13 => .int
  | 14 => .int
  | 15 => .boolean
  | _ => .boolean
abbrev wsX10 : List Cond := u_ws RX1 TX1 17
theorem nmX1 : ∀ a, a < 17 → ∀ b, b < 17 → a ≠ b → (TX1 a).2.1 ≠ (TX1 b).2.1 := by decide +kernel
theorem tyX1_ok : ∀ k, k < 17 → parseFieldDescriptor (TX1 k).2.2.1 = some (tyX1 k) := by decide +kernel
abbrev cX1_init : ByteArray := prog_3_method_1_code
def yX1_init : MethodName := ⟨RX1, "<init>", "(LCutFloor$Hall;LCutFloor$Asker;LCutFloor$Planner;)V"⟩
abbrev cX1_forget : ByteArray := prog_3_method_2_code
def yX1_forget : MethodName := ⟨RX1, "forget", "()V"⟩
abbrev cX1_listTasks : ByteArray := prog_3_method_3_code
def yX1_listTasks : MethodName := ⟨RX1, "listTasks", "()V"⟩
abbrev cX1_addCarcass : ByteArray := prog_3_method_4_code
def yX1_addCarcass : MethodName := ⟨RX1, "addCarcass", "(II)V"⟩
abbrev cX1_shareTasks : ByteArray := prog_3_method_5_code
def yX1_shareTasks : MethodName := ⟨RX1, "shareTasks", "()V"⟩
abbrev cX1_sortTasks : ByteArray := prog_3_method_6_code
def yX1_sortTasks : MethodName := ⟨RX1, "sortTasks", "(Z)V"⟩
abbrev cX1_isAhead : ByteArray := prog_3_method_7_code
def yX1_isAhead : MethodName := ⟨RX1, "isAhead", "(IIZ)Z"⟩
abbrev cX1_tryTasks : ByteArray := prog_3_method_8_code
def yX1_tryTasks : MethodName := ⟨RX1, "tryTasks", "(LCutFloor$Crew;II)V"⟩
abbrev cX1_keepTried : ByteArray := prog_3_method_9_code
def yX1_keepTried : MethodName := ⟨RX1, "keepTried", "(I)V"⟩
abbrev cX1_canDo : ByteArray := prog_3_method_10_code
def yX1_canDo : MethodName := ⟨RX1, "canDo", "(II)Z"⟩
abbrev cX1_isLikeEarlier : ByteArray := prog_3_method_11_code
def yX1_isLikeEarlier : MethodName := ⟨RX1, "isLikeEarlier", "(I)Z"⟩
def RX2 : String := "CutFloor$Cuttings"
def TX2 : u_T := fun k => match k with
  | 0 => ("CutFloor$Cuttings", "choices", "[I", true)
  | 1 => ("CutFloor$Cuttings", "lefts", "[I", true)
  | 2 => ("CutFloor$Cuttings", "chosen", "[I", true)
  | 3 => ("CutFloor$Cuttings", "coming", "[I", true)
  | 4 => ("CutFloor$Cuttings", "many", "I", false)
  | 5 => ("CutFloor$Cuttings", "serial", "I", false)
  | _ => ("CutFloor$Cuttings", "open", "I", false)
def tyX2 : Nat → FieldType := fun k => match k with
  | 0 => .array .int
  | 1 => .array .int
  | 2 => .array .int
  | 3 => .array .int
  | 4 => .int
  | 5 => .int
  | _ => .int
abbrev wsX20 : List Cond := u_ws RX2 TX2 7
theorem nmX2 : ∀ a, a < 7 → ∀ b, b < 7 → a ≠ b → (TX2 a).2.1 ≠ (TX2 b).2.1 := by decide +kernel
theorem tyX2_ok : ∀ k, k < 7 → parseFieldDescriptor (TX2 k).2.2.1 = some (tyX2 k) := by decide +kernel
abbrev cX2_init : ByteArray := prog_4_method_1_code
def yX2_init : MethodName := ⟨RX2, "<init>", "()V"⟩
abbrev cX2_renew : ByteArray := prog_4_method_2_code
def yX2_renew : MethodName := ⟨RX2, "renew", "(LCutFloor$Tree;I)Z"⟩
abbrev cX2_choose : ByteArray := prog_4_method_3_code
def yX2_choose : MethodName := ⟨RX2, "choose", "(LCutFloor$Cuttings;LCutFloor$Tree;II)V"⟩
abbrev cX2_bring : ByteArray := prog_4_method_4_code
def yX2_bring : MethodName := ⟨RX2, "bring", "(LCutFloor$Tree;II)V"⟩
abbrev cX2_keep : ByteArray := prog_4_method_5_code
def yX2_keep : MethodName := ⟨RX2, "keep", "()V"⟩
def RX3 : String := "CutFloor$Hall"
def TX3 : u_T := fun k => match k with
  | 0 => ("CutFloor$Hall", "many", "[I", true)
  | 1 => ("CutFloor$Hall", "weights", "[I", true)
  | 2 => ("CutFloor$Hall", "market", "[I", true)
  | 3 => ("CutFloor$Hall", "menSkills", "[I", true)
  | 4 => ("CutFloor$Hall", "told", "[I", true)
  | 5 => ("CutFloor$Hall", "boxes", "[I", true)
  | 6 => ("CutFloor$Hall", "shortfalls", "[I", true)
  | 7 => ("CutFloor$Hall", "tree", "LCutFloor$Tree;", false)
  | 8 => ("CutFloor$Hall", "men", "I", false)
  | 9 => ("CutFloor$Hall", "boxCount", "I", false)
  | 10 => ("CutFloor$Hall", "yieldCount", "I", false)
  | 11 => ("CutFloor$Hall", "day", "I", false)
  | _ => ("CutFloor$Hall", "loss", "I", false)
def tyX3 : Nat → FieldType := fun k => match k with
  | 0 => .array .int
  | 1 => .array .int
  | 2 => .array .int
  | 3 => .array .int
  | 4 => .array .int
  | 5 => .array .int
  | 6 => .array .int
  | 7 => .object "CutFloor$Tree"
  | 8 => .int
  | 9 => .int
  | 10 => .int
  | 11 => .int
  | _ => .int
abbrev wsX30 : List Cond := u_ws RX3 TX3 13
theorem nmX3 : ∀ a, a < 13 → ∀ b, b < 13 → a ≠ b → (TX3 a).2.1 ≠ (TX3 b).2.1 := by decide +kernel
theorem tyX3_ok : ∀ k, k < 13 → parseFieldDescriptor (TX3 k).2.2.1 = some (tyX3 k) := by decide +kernel
abbrev cX3_init : ByteArray := prog_5_method_1_code
def yX3_init : MethodName := ⟨RX3, "<init>", "()V"⟩
abbrev cX3_copyFrom : ByteArray := prog_5_method_2_code
def yX3_copyFrom : MethodName := ⟨RX3, "copyFrom", "(LCutFloor$Hall;)V"⟩
abbrev cX3_allCarcasses : ByteArray := prog_5_method_3_code
def yX3_allCarcasses : MethodName := ⟨RX3, "allCarcasses", "()I"⟩
abbrev cX3_classOf : ByteArray := prog_5_method_4_code
def yX3_classOf : MethodName := ⟨RX3, "classOf", "(I)I"⟩
abbrev cX3_ordersAboveZero : ByteArray := prog_5_method_5_code
def yX3_ordersAboveZero : MethodName := ⟨RX3, "ordersAboveZero", "()I"⟩
abbrev cX3_weightOf : ByteArray := prog_5_method_6_code
def yX3_weightOf : MethodName := ⟨RX3, "weightOf", "(II)I"⟩
abbrev cX3_wasteOf : ByteArray := prog_5_method_7_code
def yX3_wasteOf : MethodName := ⟨RX3, "wasteOf", "(II)I"⟩
abbrev cX3_isOff : ByteArray := prog_5_method_8_code
def yX3_isOff : MethodName := ⟨RX3, "isOff", "(II)Z"⟩
abbrev cX3_broughtBy : ByteArray := prog_5_method_9_code
def yX3_broughtBy : MethodName := ⟨RX3, "broughtBy", "(II)I"⟩
abbrev cX3_lacking : ByteArray := prog_5_method_10_code
def yX3_lacking : MethodName := ⟨RX3, "lacking", "(II)I"⟩
def RX4 : String := "CutFloor$Layers"
def TX4 : u_T := fun k => match k with
  | 0 => ("CutFloor$Layers", "offers", "LCutFloor$Offers;", true)
  | 1 => ("CutFloor$Layers", "starts", "[I", true)
  | 2 => ("CutFloor$Layers", "followed", "[I", true)
  | 3 => ("CutFloor$Layers", "depth", "I", false)
  | 4 => ("CutFloor$Layers", "fillings", "[I", false)
  | 5 => ("CutFloor$Layers", "scores", "[I", false)
  | 6 => ("CutFloor$Layers", "counts", "[I", false)
  | 7 => ("CutFloor$Layers", "slots", "[I", false)
  | 8 => ("CutFloor$Layers", "best", "I", false)
  | _ => ("CutFloor$Layers", "bestCount", "I", false)
def tyX4 : Nat → FieldType := fun k => match k with
  | 0 => .object "CutFloor$Offers"
  | 1 => .array .int
  | 2 => .array .int
  | 3 => .int
  | 4 => .array .int
  | 5 => .array .int
  | 6 => .array .int
  | 7 => .array .int
  | 8 => .int
  | _ => .int
abbrev wsX40 : List Cond := u_ws RX4 TX4 10
theorem nmX4 : ∀ a, a < 10 → ∀ b, b < 10 → a ≠ b → (TX4 a).2.1 ≠ (TX4 b).2.1 := by decide +kernel
theorem tyX4_ok : ∀ k, k < 10 → parseFieldDescriptor (TX4 k).2.2.1 = some (tyX4 k) := by decide +kernel
abbrev cX4_init : ByteArray := prog_6_method_1_code
def yX4_init : MethodName := ⟨RX4, "<init>", "(LCutFloor$Offers;)V"⟩
abbrev cX4_clear : ByteArray := prog_6_method_2_code
def yX4_clear : MethodName := ⟨RX4, "clear", "()V"⟩
abbrev cX4_follow : ByteArray := prog_6_method_3_code
def yX4_follow : MethodName := ⟨RX4, "follow", "([II)V"⟩
abbrev cX4_step : ByteArray := prog_6_method_4_code
def yX4_step : MethodName := ⟨RX4, "step", "(II)V"⟩
abbrev cX4_extend : ByteArray := prog_6_method_5_code
def yX4_extend : MethodName := ⟨RX4, "extend", "(IIII)I"⟩
abbrev cX4_finish : ByteArray := prog_6_method_6_code
def yX4_finish : MethodName := ⟨RX4, "finish", "(II)V"⟩
abbrev cX4_reaches : ByteArray := prog_6_method_7_code
def yX4_reaches : MethodName := ⟨RX4, "reaches", "(III)Z"⟩
abbrev cX4_together : ByteArray := prog_6_method_8_code
def yX4_together : MethodName := ⟨RX4, "together", "(III)I"⟩
abbrev cX4_grow : ByteArray := prog_6_method_9_code
def yX4_grow : MethodName := ⟨RX4, "grow", "()V"⟩
def RX5 : String := "CutFloor$Mixer"
def TX5 : u_T := fun k => match k with
  | 0 => ("CutFloor$Mixer", "hall", "LCutFloor$Hall;", true)
  | 1 => ("CutFloor$Mixer", "numbers", "[I", true)
  | 2 => ("CutFloor$Mixer", "lowWeights", "[I", true)
  | 3 => ("CutFloor$Mixer", "lowLeans", "[I", true)
  | 4 => ("CutFloor$Mixer", "highWeights", "[I", true)
  | 5 => ("CutFloor$Mixer", "highLeans", "[I", true)
  | 6 => ("CutFloor$Mixer", "lowCount", "I", false)
  | 7 => ("CutFloor$Mixer", "highCount", "I", false)
  | 8 => ("CutFloor$Mixer", "askedFrom", "I", false)
  | 9 => ("CutFloor$Mixer", "askedTo", "I", false)
  | 10 => ("CutFloor$Mixer", "askedLean", "I", false)
  | 11 => ("CutFloor$Mixer", "stale", "Z", false)
  | 12 => ("CutFloor$Mixer", "mixes", "I", false)
  | 13 => ("CutFloor$Mixer", "givenAway", "I", false)
  | _ => ("CutFloor$Mixer", "boxBits", "I", false)
def tyX5 : Nat → FieldType := fun k => match k with
  | 0 => .object "CutFloor$Hall"
  | 1 => .array .int
  | 2 => .array .int
  | 3 => .array .int
  | 4 => .array .int
  | 5 => .array .int
  | 6 => .int
  | 7 => .int
  | 8 => .int
  | 9 => .int
  | 10 => .int
  | 11 => .boolean
  | 12 => .int
  | 13 => .int
  | _ => .int
abbrev wsX50 : List Cond := u_ws RX5 TX5 15
theorem nmX5 : ∀ a, a < 15 → ∀ b, b < 15 → a ≠ b → (TX5 a).2.1 ≠ (TX5 b).2.1 := by decide +kernel
theorem tyX5_ok : ∀ k, k < 15 → parseFieldDescriptor (TX5 k).2.2.1 = some (tyX5 k) := by decide +kernel
abbrev cX5_init : ByteArray := prog_7_method_1_code
def yX5_init : MethodName := ⟨RX5, "<init>", "(LCutFloor$Hall;)V"⟩
abbrev cX5_forget : ByteArray := prog_7_method_2_code
def yX5_forget : MethodName := ⟨RX5, "forget", "()V"⟩
abbrev cX5_seek : ByteArray := prog_7_method_3_code
def yX5_seek : MethodName := ⟨RX5, "seek", "(III)V"⟩
abbrev cX5_seekWith : ByteArray := prog_7_method_4_code
def yX5_seekWith : MethodName := ⟨RX5, "seekWith", "(I)V"⟩
abbrev cX5_listBoxes : ByteArray := prog_7_method_5_code
def yX5_listBoxes : MethodName := ⟨RX5, "listBoxes", "()V"⟩
abbrev cX5_addUp : ByteArray := prog_7_method_6_code
def yX5_addUp : MethodName := ⟨RX5, "addUp", "(II[I[I)V"⟩
abbrev cX5_bitsOf : ByteArray := prog_7_method_7_code
def yX5_bitsOf : MethodName := ⟨RX5, "bitsOf", "(I)I"⟩
def RX6 : String := "CutFloor$Offers"
def TX6 : u_T := fun k => match k with
  | 0 => ("CutFloor$Offers", "fills", "[I", true)
  | 1 => ("CutFloor$Offers", "gains", "[I", true)
  | 2 => ("CutFloor$Offers", "alike", "[I", true)
  | 3 => ("CutFloor$Offers", "lowest", "[I", true)
  | 4 => ("CutFloor$Offers", "groupOf", "[I", true)
  | 5 => ("CutFloor$Offers", "groups", "[I", true)
  | 6 => ("CutFloor$Offers", "tops", "[I", true)
  | 7 => ("CutFloor$Offers", "rated", "[I", true)
  | 8 => ("CutFloor$Offers", "caps", "[I", true)
  | 9 => ("CutFloor$Offers", "strides", "[I", true)
  | 10 => ("CutFloor$Offers", "bonuses", "[I", true)
  | 11 => ("CutFloor$Offers", "lowPlaces", "[I", true)
  | 12 => ("CutFloor$Offers", "midPlaces", "[I", true)
  | 13 => ("CutFloor$Offers", "topPlaces", "[I", true)
  | 14 => ("CutFloor$Offers", "lowBonuses", "[I", true)
  | 15 => ("CutFloor$Offers", "midBonuses", "[I", true)
  | 16 => ("CutFloor$Offers", "topBonuses", "[I", true)
  | 17 => ("CutFloor$Offers", "ratedCount", "I", false)
  | 18 => ("CutFloor$Offers", "empty", "I", false)
  | _ => ("CutFloor$Offers", "places", "I", false)
def tyX6 : Nat → FieldType := fun k => match k with
  | 0 => .array .int
  | 1 => .array .int
  | 2 => .array .int
  | 3 => .array .int
  | 4 => .array .int
  | 5 => .array .int
  | 6 => .array .int
  | 7 => .array .int
  | 8 => .array .int
  | 9 => .array .int
  | 10 => .array .int
  | 11 => .array .int
  | 12 => .array .int
  | 13 => .array .int
  | 14 => .array .int
  | 15 => .array .int
  | 16 => .array .int
  | 17 => .int
  | 18 => .int
  | _ => .int
abbrev wsX60 : List Cond := u_ws RX6 TX6 20
theorem nmX6 : ∀ a, a < 20 → ∀ b, b < 20 → a ≠ b → (TX6 a).2.1 ≠ (TX6 b).2.1 := by decide +kernel
theorem tyX6_ok : ∀ k, k < 20 → parseFieldDescriptor (TX6 k).2.2.1 = some (tyX6 k) := by decide +kernel
abbrev cX6_init : ByteArray := prog_8_method_1_code
def yX6_init : MethodName := ⟨RX6, "<init>", "()V"⟩
abbrev cX6_join : ByteArray := prog_8_method_2_code
def yX6_join : MethodName := ⟨RX6, "join", "(II)I"⟩
abbrev cX6_placeOf : ByteArray := prog_8_method_3_code
def yX6_placeOf : MethodName := ⟨RX6, "placeOf", "(I)I"⟩
abbrev cX6_bonusOf : ByteArray := prog_8_method_4_code
def yX6_bonusOf : MethodName := ⟨RX6, "bonusOf", "(I)I"⟩
abbrev cX6_load : ByteArray := prog_8_method_5_code
def yX6_load : MethodName := ⟨RX6, "load", "(LCutFloor$Hall;[LCutFloor$Cuttings;)V"⟩
abbrev cX6_rate : ByteArray := prog_8_method_6_code
def yX6_rate : MethodName := ⟨RX6, "rate", "(LCutFloor$Hall;)V"⟩
abbrev cX6_spread : ByteArray := prog_8_method_7_code
def yX6_spread : MethodName := ⟨RX6, "spread", "(II[I[I)V"⟩
abbrev cX6_group : ByteArray := prog_8_method_8_code
def yX6_group : MethodName := ⟨RX6, "group", "(LCutFloor$Hall;ILCutFloor$Cuttings;)V"⟩
abbrev cX6_fillOf : ByteArray := prog_8_method_9_code
def yX6_fillOf : MethodName := ⟨RX6, "fillOf", "(LCutFloor$Cuttings;I)I"⟩
abbrev cX6_mostBonus : ByteArray := prog_8_method_10_code
def yX6_mostBonus : MethodName := ⟨RX6, "mostBonus", "(I)I"⟩
abbrev cX6_gainOf : ByteArray := prog_8_method_11_code
def yX6_gainOf : MethodName := ⟨RX6, "gainOf", "(LCutFloor$Hall;LCutFloor$Cuttings;I)I"⟩
def RX7 : String := "CutFloor$Planner"
def TX7 : u_T := fun k => match k with
  | 0 => ("CutFloor$Planner", "hall", "LCutFloor$Hall;", true)
  | 1 => ("CutFloor$Planner", "asker", "LCutFloor$Asker;", true)
  | 2 => ("CutFloor$Planner", "cuttings", "[LCutFloor$Cuttings;", true)
  | 3 => ("CutFloor$Planner", "offers", "LCutFloor$Offers;", true)
  | 4 => ("CutFloor$Planner", "layers", "LCutFloor$Layers;", true)
  | 5 => ("CutFloor$Planner", "bests", "[I", true)
  | 6 => ("CutFloor$Planner", "bestCounts", "[I", true)
  | 7 => ("CutFloor$Planner", "bestEpochs", "[I", true)
  | 8 => ("CutFloor$Planner", "classRow", "[I", true)
  | 9 => ("CutFloor$Planner", "first", "[I", true)
  | 10 => ("CutFloor$Planner", "changes", "[I", true)
  | 11 => ("CutFloor$Planner", "othersBring", "[I", true)
  | 12 => ("CutFloor$Planner", "epoch", "I", false)
  | 13 => ("CutFloor$Planner", "waysStale", "Z", false)
  | 14 => ("CutFloor$Planner", "offersStale", "Z", false)
  | _ => ("CutFloor$Planner", "firstStale", "Z", false)
def tyX7 : Nat → FieldType := fun k => match k with
  | 0 => .object "CutFloor$Hall"
  | 1 => .object "CutFloor$Asker"
  | 2 => .array (.object "CutFloor$Cuttings")
  | 3 => .object "CutFloor$Offers"
  | 4 => .object "CutFloor$Layers"
  | 5 => .array .int
  | 6 => .array .int
  | 7 => .array .int
  | 8 => .array .int
  | 9 => .array .int
  | 10 => .array .int
  | 11 => .array .int
  | 12 => .int
  | 13 => .boolean
  | 14 => .boolean
  | _ => .boolean
abbrev wsX70 : List Cond := u_ws RX7 TX7 16
theorem nmX7 : ∀ a, a < 16 → ∀ b, b < 16 → a ≠ b → (TX7 a).2.1 ≠ (TX7 b).2.1 := by decide +kernel
theorem tyX7_ok : ∀ k, k < 16 → parseFieldDescriptor (TX7 k).2.2.1 = some (tyX7 k) := by decide +kernel
abbrev cX7_init : ByteArray := prog_9_method_1_code
def yX7_init : MethodName := ⟨RX7, "<init>", "(LCutFloor$Hall;LCutFloor$Asker;)V"⟩
abbrev cX7_forgetWays : ByteArray := prog_9_method_2_code
def yX7_forgetWays : MethodName := ⟨RX7, "forgetWays", "()V"⟩
abbrev cX7_forgetPlans : ByteArray := prog_9_method_3_code
def yX7_forgetPlans : MethodName := ⟨RX7, "forgetPlans", "()V"⟩
abbrev cX7_forgetFirst : ByteArray := prog_9_method_4_code
def yX7_forgetFirst : MethodName := ⟨RX7, "forgetFirst", "()V"⟩
abbrev cX7_renewCuttings : ByteArray := prog_9_method_5_code
def yX7_renewCuttings : MethodName := ⟨RX7, "renewCuttings", "()V"⟩
abbrev cX7_bestNow : ByteArray := prog_9_method_6_code
def yX7_bestNow : MethodName := ⟨RX7, "bestNow", "()I"⟩
abbrev cX7_plansNow : ByteArray := prog_9_method_7_code
def yX7_plansNow : MethodName := ⟨RX7, "plansNow", "()I"⟩
abbrev cX7_bestWith : ByteArray := prog_9_method_8_code
def yX7_bestWith : MethodName := ⟨RX7, "bestWith", "(II)I"⟩
abbrev cX7_bestFor : ByteArray := prog_9_method_9_code
def yX7_bestFor : MethodName := ⟨RX7, "bestFor", "(III)I"⟩
abbrev cX7_spot : ByteArray := prog_9_method_10_code
def yX7_spot : MethodName := ⟨RX7, "spot", "(III)I"⟩
abbrev cX7_isPlanned : ByteArray := prog_9_method_11_code
def yX7_isPlanned : MethodName := ⟨RX7, "isPlanned", "(III)Z"⟩
abbrev cX7_loadOffers : ByteArray := prog_9_method_12_code
def yX7_loadOffers : MethodName := ⟨RX7, "loadOffers", "()V"⟩
abbrev cX7_solve : ByteArray := prog_9_method_13_code
def yX7_solve : MethodName := ⟨RX7, "solve", "(III)V"⟩
abbrev cX7_layOut : ByteArray := prog_9_method_14_code
def yX7_layOut : MethodName := ⟨RX7, "layOut", "(III)I"⟩
abbrev cX7_findFirst : ByteArray := prog_9_method_15_code
def yX7_findFirst : MethodName := ⟨RX7, "findFirst", "()V"⟩
abbrev cX7_firstGroup : ByteArray := prog_9_method_16_code
def yX7_firstGroup : MethodName := ⟨RX7, "firstGroup", "(IIII)I"⟩
abbrev cX7_manyInFirst : ByteArray := prog_9_method_17_code
def yX7_manyInFirst : MethodName := ⟨RX7, "manyInFirst", "(I)I"⟩
abbrev cX7_worthOf : ByteArray := prog_9_method_18_code
def yX7_worthOf : MethodName := ⟨RX7, "worthOf", "(I)I"⟩
abbrev cX7_mostOf : ByteArray := prog_9_method_19_code
def yX7_mostOf : MethodName := ⟨RX7, "mostOf", "(I)I"⟩
abbrev cX7_findChange : ByteArray := prog_9_method_20_code
def yX7_findChange : MethodName := ⟨RX7, "findChange", "(I)V"⟩
abbrev cX7_groupInFirst : ByteArray := prog_9_method_21_code
def yX7_groupInFirst : MethodName := ⟨RX7, "groupInFirst", "(I)I"⟩
abbrev cX7_toldBrings : ByteArray := prog_9_method_22_code
def yX7_toldBrings : MethodName := ⟨RX7, "toldBrings", "()I"⟩
abbrev cX7_toldLacks : ByteArray := prog_9_method_23_code
def yX7_toldLacks : MethodName := ⟨RX7, "toldLacks", "()I"⟩
abbrev cX7_toldOtherwise : ByteArray := prog_9_method_24_code
def yX7_toldOtherwise : MethodName := ⟨RX7, "toldOtherwise", "()I"⟩
abbrev cX7_manyTold : ByteArray := prog_9_method_25_code
def yX7_manyTold : MethodName := ⟨RX7, "manyTold", "(I)I"⟩
abbrev cX7_toldCutting : ByteArray := prog_9_method_26_code
def yX7_toldCutting : MethodName := ⟨RX7, "toldCutting", "(I)I"⟩
def RX8 : String := "CutFloor$Reader"
def TX8 : u_T := fun k => match k with
  | 0 => ("CutFloor$Reader", "text", "[I", true)
  | 1 => ("CutFloor$Reader", "target", "LCutFloor$Tree;", false)
  | 2 => ("CutFloor$Reader", "length", "I", false)
  | 3 => ("CutFloor$Reader", "kind", "I", false)
  | 4 => ("CutFloor$Reader", "tokenFrom", "I", false)
  | 5 => ("CutFloor$Reader", "tokenTo", "I", false)
  | 6 => ("CutFloor$Reader", "number", "I", false)
  | _ => ("CutFloor$Reader", "factors", "I", false)
def tyX8 : Nat → FieldType := fun k => match k with
  | 0 => .array .int
  | 1 => .object "CutFloor$Tree"
  | 2 => .int
  | 3 => .int
  | 4 => .int
  | 5 => .int
  | 6 => .int
  | _ => .int
abbrev wsX80 : List Cond := u_ws RX8 TX8 8
theorem nmX8 : ∀ a, a < 8 → ∀ b, b < 8 → a ≠ b → (TX8 a).2.1 ≠ (TX8 b).2.1 := by decide +kernel
theorem tyX8_ok : ∀ k, k < 8 → parseFieldDescriptor (TX8 k).2.2.1 = some (tyX8 k) := by decide +kernel
abbrev cX8_init : ByteArray := prog_10_method_1_code
def yX8_init : MethodName := ⟨RX8, "<init>", "(LCutFloor$Tree;[I)V"⟩
abbrev cX8_readTree : ByteArray := prog_10_method_2_code
def yX8_readTree : MethodName := ⟨RX8, "readTree", "(ILCutFloor$Tree;)I"⟩
abbrev cX8_readClause : ByteArray := prog_10_method_3_code
def yX8_readClause : MethodName := ⟨RX8, "readClause", "(I)Z"⟩
abbrev cX8_readCut : ByteArray := prog_10_method_4_code
def yX8_readCut : MethodName := ⟨RX8, "readCut", "(I)Z"⟩
abbrev cX8_readPieces : ByteArray := prog_10_method_5_code
def yX8_readPieces : MethodName := ⟨RX8, "readPieces", "(I)Z"⟩
abbrev cX8_readTest : ByteArray := prog_10_method_6_code
def yX8_readTest : MethodName := ⟨RX8, "readTest", "(I)Z"⟩
abbrev cX8_readBoth : ByteArray := prog_10_method_7_code
def yX8_readBoth : MethodName := ⟨RX8, "readBoth", "(I)Z"⟩
abbrev cX8_readPlain : ByteArray := prog_10_method_8_code
def yX8_readPlain : MethodName := ⟨RX8, "readPlain", "(I)Z"⟩
abbrev cX8_readInner : ByteArray := prog_10_method_9_code
def yX8_readInner : MethodName := ⟨RX8, "readInner", "(I)Z"⟩
abbrev cX8_readComparison : ByteArray := prog_10_method_10_code
def yX8_readComparison : MethodName := ⟨RX8, "readComparison", "(I)Z"⟩
abbrev cX8_readSum : ByteArray := prog_10_method_11_code
def yX8_readSum : MethodName := ⟨RX8, "readSum", "(I)Z"⟩
abbrev cX8_readTerm : ByteArray := prog_10_method_12_code
def yX8_readTerm : MethodName := ⟨RX8, "readTerm", "(I)Z"⟩
abbrev cX8_readFactor : ByteArray := prog_10_method_13_code
def yX8_readFactor : MethodName := ⟨RX8, "readFactor", "(I)Z"⟩
abbrev cX8_readInnerSum : ByteArray := prog_10_method_14_code
def yX8_readInnerSum : MethodName := ⟨RX8, "readInnerSum", "(I)Z"⟩
abbrev cX8_isWord : ByteArray := prog_10_method_15_code
def yX8_isWord : MethodName := ⟨RX8, "isWord", "(Ljava/lang/String;)Z"⟩
abbrev cX8_isSign : ByteArray := prog_10_method_16_code
def yX8_isSign : MethodName := ⟨RX8, "isSign", "(C)Z"⟩
abbrev cX8_isNumber : ByteArray := prog_10_method_17_code
def yX8_isNumber : MethodName := ⟨RX8, "isNumber", "(II)Z"⟩
abbrev cX8_goOn : ByteArray := prog_10_method_18_code
def yX8_goOn : MethodName := ⟨RX8, "goOn", "()V"⟩
abbrev cX8_isLetter : ByteArray := prog_10_method_19_code
def yX8_isLetter : MethodName := ⟨RX8, "isLetter", "(I)Z"⟩
abbrev cX8_isDigit : ByteArray := prog_10_method_20_code
def yX8_isDigit : MethodName := ⟨RX8, "isDigit", "(I)Z"⟩
def RX9 : String := "CutFloor$Stock"
def TX9 : u_T := fun k => match k with
  | 0 => ("CutFloor$Stock", "hall", "LCutFloor$Hall;", true)
  | _ => ("CutFloor$Stock", "rounds", "[I", true)
def tyX9 : Nat → FieldType := fun k => match k with
  | 0 => .object "CutFloor$Hall"
  | _ => .array .int
abbrev wsX90 : List Cond := u_ws RX9 TX9 2
theorem nmX9 : ∀ a, a < 2 → ∀ b, b < 2 → a ≠ b → (TX9 a).2.1 ≠ (TX9 b).2.1 := by decide +kernel
theorem tyX9_ok : ∀ k, k < 2 → parseFieldDescriptor (TX9 k).2.2.1 = some (tyX9 k) := by decide +kernel
abbrev cX9_init : ByteArray := prog_11_method_1_code
def yX9_init : MethodName := ⟨RX9, "<init>", "(LCutFloor$Hall;)V"⟩
abbrev cX9_canBe : ByteArray := prog_11_method_2_code
def yX9_canBe : MethodName := ⟨RX9, "canBe", "(IIIIII)Z"⟩
abbrev cX9_store : ByteArray := prog_11_method_3_code
def yX9_store : MethodName := ⟨RX9, "store", "(IIIIII)I"⟩
abbrev cX9_storeRow : ByteArray := prog_11_method_4_code
def yX9_storeRow : MethodName := ⟨RX9, "storeRow", "([II)I"⟩
abbrev cX9_boxesThere : ByteArray := prog_11_method_5_code
def yX9_boxesThere : MethodName := ⟨RX9, "boxesThere", "()I"⟩
abbrev cX9_takeOldest : ByteArray := prog_11_method_6_code
def yX9_takeOldest : MethodName := ⟨RX9, "takeOldest", "(IIII)I"⟩
abbrev cX9_oldest : ByteArray := prog_11_method_7_code
def yX9_oldest : MethodName := ⟨RX9, "oldest", "(II)I"⟩
abbrev cX9_recalledBits : ByteArray := prog_11_method_8_code
def yX9_recalledBits : MethodName := ⟨RX9, "recalledBits", "(I)I"⟩
abbrev cX9_recallRound : ByteArray := prog_11_method_9_code
def yX9_recallRound : MethodName := ⟨RX9, "recallRound", "(II)I"⟩
abbrev cX9_findRounds : ByteArray := prog_11_method_10_code
def yX9_findRounds : MethodName := ⟨RX9, "findRounds", "(I)V"⟩
abbrev cX9_touchesRound : ByteArray := prog_11_method_11_code
def yX9_touchesRound : MethodName := ⟨RX9, "touchesRound", "(II)Z"⟩
abbrev cX9_touch : ByteArray := prog_11_method_12_code
def yX9_touch : MethodName := ⟨RX9, "touch", "(II)Z"⟩
def RX10 : String := "CutFloor$Tree"
def TX10 : u_T := fun k => match k with
  | 0 => ("CutFloor$Tree", "kinds", "[I", true)
  | 1 => ("CutFloor$Tree", "sumFrom", "[I", true)
  | 2 => ("CutFloor$Tree", "sumTo", "[I", true)
  | 3 => ("CutFloor$Tree", "testFrom", "[I", true)
  | 4 => ("CutFloor$Tree", "testTo", "[I", true)
  | 5 => ("CutFloor$Tree", "wayParts", "[I", true)
  | 6 => ("CutFloor$Tree", "wayClauses", "[I", true)
  | 7 => ("CutFloor$Tree", "pieces", "[I", true)
  | 8 => ("CutFloor$Tree", "steps", "[I", true)
  | 9 => ("CutFloor$Tree", "operands", "[I", true)
  | 10 => ("CutFloor$Tree", "clauseCount", "I", false)
  | 11 => ("CutFloor$Tree", "wayCount", "I", false)
  | 12 => ("CutFloor$Tree", "stepCount", "I", false)
  | _ => ("CutFloor$Tree", "serial", "I", false)
def tyX10 : Nat → FieldType := fun k => match k with
  | 0 => .array .int
  | 1 => .array .int
  | 2 => .array .int
  | 3 => .array .int
  | 4 => .array .int
  | 5 => .array .int
  | 6 => .array .int
  | 7 => .array .int
  | 8 => .array .int
  | 9 => .array .int
  | 10 => .int
  | 11 => .int
  | 12 => .int
  | _ => .int
abbrev wsX100 : List Cond := u_ws RX10 TX10 14
theorem nmX10 : ∀ a, a < 14 → ∀ b, b < 14 → a ≠ b → (TX10 a).2.1 ≠ (TX10 b).2.1 := by decide +kernel
theorem tyX10_ok : ∀ k, k < 14 → parseFieldDescriptor (TX10 k).2.2.1 = some (tyX10 k) := by decide +kernel
abbrev cX10_init : ByteArray := prog_12_method_1_code
def yX10_init : MethodName := ⟨RX10, "<init>", "()V"⟩
abbrev cX10_clear : ByteArray := prog_12_method_2_code
def yX10_clear : MethodName := ⟨RX10, "clear", "()V"⟩
abbrev cX10_copyFrom : ByteArray := prog_12_method_3_code
def yX10_copyFrom : MethodName := ⟨RX10, "copyFrom", "(LCutFloor$Tree;)V"⟩
abbrev cX10_addStep : ByteArray := prog_12_method_4_code
def yX10_addStep : MethodName := ⟨RX10, "addStep", "(II)I"⟩
abbrev cX10_piecesInAll : ByteArray := prog_12_method_5_code
def yX10_piecesInAll : MethodName := ⟨RX10, "piecesInAll", "(I)I"⟩
def RX11 : String := "CutFloor"
def TX11 : u_T := fun k => match k with
  | 0 => ("CutFloor", "hall", "LCutFloor$Hall;", true)
  | 1 => ("CutFloor", "images", "[LCutFloor$Hall;", true)
  | 2 => ("CutFloor", "asker", "LCutFloor$Asker;", true)
  | 3 => ("CutFloor", "planner", "LCutFloor$Planner;", true)
  | 4 => ("CutFloor", "crew", "LCutFloor$Crew;", true)
  | 5 => ("CutFloor", "mixer", "LCutFloor$Mixer;", true)
  | 6 => ("CutFloor", "stock", "LCutFloor$Stock;", true)
  | 7 => ("CutFloor", "tape", "[I", true)
  | 8 => ("CutFloor", "drawn", "[I", true)
  | 9 => ("CutFloor", "latestWeek", "[I", true)
  | 10 => ("CutFloor", "refusals", "[I", true)
  | 11 => ("CutFloor", "spareTree", "LCutFloor$Tree;", false)
  | 12 => ("CutFloor", "reader", "LCutFloor$Reader;", true)
  | 13 => ("CutFloor", "tapeLength", "I", false)
  | 14 => ("CutFloor", "treesRead", "I", false)
  | 15 => ("CutFloor", "faultAt", "I", false)
  | 16 => ("CutFloor", "spoiltBoxes", "I", false)
  | 17 => ("CutFloor", "weekThere", "Z", false)
  | _ => ("CutFloor", "latestStatus", "I", false)
def tyX11 : Nat → FieldType := fun k => match k with
  | 0 => .object "CutFloor$Hall"
  | 1 => .array (.object "CutFloor$Hall")
  | 2 => .object "CutFloor$Asker"
  | 3 => .object "CutFloor$Planner"
  | 4 => .object "CutFloor$Crew"
  | 5 => .object "CutFloor$Mixer"
  | 6 => .object "CutFloor$Stock"
  | 7 => .array .int
  | 8 => .array .int
  | 9 => .array .int
  | 10 => .array .int
  | 11 => .object "CutFloor$Tree"
  | 12 => .object "CutFloor$Reader"
  | 13 => .int
  | 14 => .int
  | 15 => .int
  | 16 => .int
  | 17 => .boolean
  | _ => .int
abbrev wsX110 : List Cond := u_ws RX11 TX11 19
theorem nmX11 : ∀ a, a < 19 → ∀ b, b < 19 → a ≠ b → (TX11 a).2.1 ≠ (TX11 b).2.1 := by decide +kernel
theorem tyX11_ok : ∀ k, k < 19 → parseFieldDescriptor (TX11 k).2.2.1 = some (tyX11 k) := by decide +kernel
abbrev cX11_init : ByteArray := prog_1_method_1_code
def yX11_init : MethodName := ⟨RX11, "<init>", "()V"⟩
abbrev cX11_carcasses : ByteArray := prog_1_method_2_code
def yX11_carcasses : MethodName := ⟨RX11, "carcasses", "(II)I"⟩
abbrev cX11_weighs : ByteArray := prog_1_method_3_code
def yX11_weighs : MethodName := ⟨RX11, "weighs", "(III)I"⟩
abbrev cX11_put : ByteArray := prog_1_method_4_code
def yX11_put : MethodName := ⟨RX11, "put", "(III)I"⟩
abbrev cX11_man : ByteArray := prog_1_method_5_code
def yX11_man : MethodName := ⟨RX11, "man", "(I)I"⟩
abbrev cX11_skills : ByteArray := prog_1_method_6_code
def yX11_skills : MethodName := ⟨RX11, "skills", "(II)I"⟩
abbrev cX11_terms : ByteArray := prog_1_method_7_code
def yX11_terms : MethodName := ⟨RX11, "terms", "(II)I"⟩
abbrev cX11_feed : ByteArray := prog_1_method_8_code
def yX11_feed : MethodName := ⟨RX11, "feed", "(IIIII)I"⟩
abbrev cX11_end : ByteArray := prog_1_method_9_code
def yX11_end : MethodName := ⟨RX11, "end", "(I)I"⟩
abbrev cX11_tree : ByteArray := prog_1_method_10_code
def yX11_tree : MethodName := ⟨RX11, "tree", "()I"⟩
abbrev cX11_fault : ByteArray := prog_1_method_11_code
def yX11_fault : MethodName := ⟨RX11, "fault", "()I"⟩
abbrev cX11_way : ByteArray := prog_1_method_12_code
def yX11_way : MethodName := ⟨RX11, "way", "(II)I"⟩
abbrev cX11_goes : ByteArray := prog_1_method_13_code
def yX11_goes : MethodName := ⟨RX11, "goes", "(III)I"⟩
abbrev cX11_cuttings : ByteArray := prog_1_method_14_code
def yX11_cuttings : MethodName := ⟨RX11, "cuttings", "(I)I"⟩
abbrev cX11_choice : ByteArray := prog_1_method_15_code
def yX11_choice : MethodName := ⟨RX11, "choice", "(III)I"⟩
abbrev cX11_left : ByteArray := prog_1_method_16_code
def yX11_left : MethodName := ⟨RX11, "left", "(III)I"⟩
abbrev cX11_best : ByteArray := prog_1_method_17_code
def yX11_best : MethodName := ⟨RX11, "best", "(I)I"⟩
abbrev cX11_plan : ByteArray := prog_1_method_18_code
def yX11_plan : MethodName := ⟨RX11, "plan", "(I)I"⟩
abbrev cX11_made : ByteArray := prog_1_method_19_code
def yX11_made : MethodName := ⟨RX11, "made", "(II)I"⟩
abbrev cX11_value : ByteArray := prog_1_method_20_code
def yX11_value : MethodName := ⟨RX11, "value", "(I)I"⟩
abbrev cX11_shorts : ByteArray := prog_1_method_21_code
def yX11_shorts : MethodName := ⟨RX11, "shorts", "(I)I"⟩
abbrev cX11_worth : ByteArray := prog_1_method_22_code
def yX11_worth : MethodName := ⟨RX11, "worth", "(I)I"⟩
abbrev cX11_change : ByteArray := prog_1_method_23_code
def yX11_change : MethodName := ⟨RX11, "change", "(II)I"⟩
abbrev cX11_give : ByteArray := prog_1_method_24_code
def yX11_give : MethodName := ⟨RX11, "give", "(II)I"⟩
abbrev cX11_given : ByteArray := prog_1_method_25_code
def yX11_given : MethodName := ⟨RX11, "given", "(I)I"⟩
abbrev cX11_task : ByteArray := prog_1_method_26_code
def yX11_task : MethodName := ⟨RX11, "task", "(I)I"⟩
abbrev cX11_share : ByteArray := prog_1_method_27_code
def yX11_share : MethodName := ⟨RX11, "share", "(I)I"⟩
abbrev cX11_box : ByteArray := prog_1_method_28_code
def yX11_box : MethodName := ⟨RX11, "box", "(IIIIII)I"⟩
abbrev cX11_of : ByteArray := prog_1_method_29_code
def yX11_of : MethodName := ⟨RX11, "of", "(II)I"⟩
abbrev cX11_row : ByteArray := prog_1_method_30_code
def yX11_row : MethodName := ⟨RX11, "row", "()I"⟩
abbrev cX11_spoilt : ByteArray := prog_1_method_31_code
def yX11_spoilt : MethodName := ⟨RX11, "spoilt", "()I"⟩
abbrev cX11_mix : ByteArray := prog_1_method_32_code
def yX11_mix : MethodName := ⟨RX11, "mix", "(IIII)I"⟩
abbrev cX11_send : ByteArray := prog_1_method_33_code
def yX11_send : MethodName := ⟨RX11, "send", "(IIII)I"⟩
abbrev cX11_again : ByteArray := prog_1_method_34_code
def yX11_again : MethodName := ⟨RX11, "again", "(I)I"⟩
abbrev cX11_recall : ByteArray := prog_1_method_35_code
def yX11_recall : MethodName := ⟨RX11, "recall", "(II)I"⟩
abbrev cX11_yields : ByteArray := prog_1_method_36_code
def yX11_yields : MethodName := ⟨RX11, "yields", "(II)I"⟩
abbrev cX11_drift : ByteArray := prog_1_method_37_code
def yX11_drift : MethodName := ⟨RX11, "drift", "(III)I"⟩
abbrev cX11_week : ByteArray := prog_1_method_38_code
def yX11_week : MethodName := ⟨RX11, "week", "(I)I"⟩
abbrev cX11_came : ByteArray := prog_1_method_39_code
def yX11_came : MethodName := ⟨RX11, "came", "(II)I"⟩
abbrev cX11_image : ByteArray := prog_1_method_40_code
def yX11_image : MethodName := ⟨RX11, "image", "(I)I"⟩
abbrev cX11_back : ByteArray := prog_1_method_41_code
def yX11_back : MethodName := ⟨RX11, "back", "(I)I"⟩
abbrev cX11_count : ByteArray := prog_1_method_42_code
def yX11_count : MethodName := ⟨RX11, "count", "(I)I"⟩
abbrev cX11_status : ByteArray := prog_1_method_43_code
def yX11_status : MethodName := ⟨RX11, "status", "()I"⟩
abbrev cX11_within : ByteArray := prog_1_method_44_code
def yX11_within : MethodName := ⟨RX11, "within", "(III)Z"⟩
abbrev cX11_allow : ByteArray := prog_1_method_45_code
def yX11_allow : MethodName := ⟨RX11, "allow", "(I)I"⟩
abbrev cX11_refuse : ByteArray := prog_1_method_46_code
def yX11_refuse : MethodName := ⟨RX11, "refuse", "(I)I"⟩
abbrev cX11_feedFour : ByteArray := prog_1_method_47_code
def yX11_feedFour : MethodName := ⟨RX11, "feedFour", "(I)V"⟩
abbrev cX11_forgetWays : ByteArray := prog_1_method_48_code
def yX11_forgetWays : MethodName := ⟨RX11, "forgetWays", "()V"⟩
abbrev cX11_hasPlan : ByteArray := prog_1_method_49_code
def yX11_hasPlan : MethodName := ⟨RX11, "hasPlan", "()Z"⟩
abbrev cX11_isThere : ByteArray := prog_1_method_50_code
def yX11_isThere : MethodName := ⟨RX11, "isThere", "(III)Z"⟩
abbrev cX11_drawWeek : ByteArray := prog_1_method_51_code
def yX11_drawWeek : MethodName := ⟨RX11, "drawWeek", "(I)V"⟩
def RX12 : String := "CutFloorModel"
def TX12 : u_T := fun k => match k with
  | 0 => ("CutFloorModel", "thrown", "I", false)
  | 1 => ("CutFloorModel", "status", "I", false)
  | 2 => ("CutFloorModel", "refusals", "[I", true)
  | 3 => ("CutFloorModel", "row", "[I", true)
  | 4 => ("CutFloorModel", "images", "[I", true)
  | 5 => ("CutFloorModel", "isKept", "[Z", true)
  | 6 => ("CutFloorModel", "tape", "[I", true)
  | 7 => ("CutFloorModel", "taped", "I", false)
  | 8 => ("CutFloorModel", "from", "I", false)
  | 9 => ("CutFloorModel", "to", "I", false)
  | 10 => ("CutFloorModel", "sort", "I", false)
  | 11 => ("CutFloorModel", "worth", "J", false)
  | 12 => ("CutFloorModel", "fault", "I", false)
  | 13 => ("CutFloorModel", "bad", "Z", false)
  | 14 => ("CutFloorModel", "nClauses", "I", false)
  | 15 => ("CutFloorModel", "nClause", "[I", true)
  | 16 => ("CutFloorModel", "nCode", "I", false)
  | 17 => ("CutFloorModel", "nOp", "[I", true)
  | 18 => ("CutFloorModel", "nArg", "[I", true)
  | 19 => ("CutFloorModel", "nLeaves", "I", false)
  | 20 => ("CutFloorModel", "pile", "[I", true)
  | 21 => ("CutFloorModel", "pileAt", "[I", true)
  | 22 => ("CutFloorModel", "piled", "I", false)
  | 23 => ("CutFloorModel", "opened", "I", false)
  | 24 => ("CutFloorModel", "words", "[J", true)
  | 25 => ("CutFloorModel", "ways", "[I", true)
  | 26 => ("CutFloorModel", "nWays", "I", false)
  | 27 => ("CutFloorModel", "set", "[J", true)
  | 28 => ("CutFloorModel", "rest", "[J", true)
  | 29 => ("CutFloorModel", "broken", "Z", false)
  | 30 => ("CutFloorModel", "value", "J", false)
  | 31 => ("CutFloorModel", "sum", "J", false)
  | 32 => ("CutFloorModel", "isCut", "Z", false)
  | 33 => ("CutFloorModel", "cuts", "[I", true)
  | 34 => ("CutFloorModel", "choices", "[I", true)
  | 35 => ("CutFloorModel", "lefts", "[I", true)
  | 36 => ("CutFloorModel", "choice", "[I", true)
  | 37 => ("CutFloorModel", "counts", "[I", true)
  | 38 => ("CutFloorModel", "open", "[Z", true)
  | 39 => ("CutFloorModel", "classes", "[I", true)
  | 40 => ("CutFloorModel", "carcasses", "I", false)
  | 41 => ("CutFloorModel", "wants", "[I", true)
  | 42 => ("CutFloorModel", "ordered", "[I", true)
  | 43 => ("CutFloorModel", "nOrdered", "I", false)
  | 44 => ("CutFloorModel", "states", "I", false)
  | 45 => ("CutFloorModel", "brings", "[I", true)
  | 46 => ("CutFloorModel", "many", "[I", true)
  | 47 => ("CutFloorModel", "there", "[Z", true)
  | 48 => ("CutFloorModel", "times", "I", false)
  | 49 => ("CutFloorModel", "kept", "[I", true)
  | 50 => ("CutFloorModel", "digits", "[I", true)
  | 51 => ("CutFloorModel", "isPlanned", "Z", false)
  | 52 => ("CutFloorModel", "hasPlan", "Z", false)
  | 53 => ("CutFloorModel", "bestBrings", "I", false)
  | 54 => ("CutFloorModel", "bestWays", "I", false)
  | 55 => ("CutFloorModel", "first", "[I", true)
  | 56 => ("CutFloorModel", "firstLeft", "[I", true)
  | 57 => ("CutFloorModel", "taskMinutes", "[I", true)
  | 58 => ("CutFloorModel", "taskSkill", "[I", true)
  | 59 => ("CutFloorModel", "isTask", "[Z", true)
  | 60 => ("CutFloorModel", "nTasks", "I", false)
  | 61 => ("CutFloorModel", "loads", "[I", true)
  | 62 => ("CutFloorModel", "shared", "[I", true)
  | 63 => ("CutFloorModel", "spoilt", "I", false)
  | 64 => ("CutFloorModel", "rounds", "[I", true)
  | 65 => ("CutFloorModel", "came", "[I", true)
  | 66 => ("CutFloorModel", "drawn", "[I", true)
  | _ => ("CutFloorModel", "isDrawn", "Z", false)
def tyX12 : Nat → FieldType := fun k => match k with
  | 0 => .int
  | 1 => .int
  | 2 => .array .int
  | 3 => .array .int
  | 4 => .array .int
  | 5 => .array .boolean
  | 6 => .array .int
  | 7 => .int
  | 8 => .int
  | 9 => .int
  | 10 => .int
  | 11 => .long
  | 12 => .int
  | 13 => .boolean
  | 14 => .int
  | 15 => .array .int
  | 16 => .int
  | 17 => .array .int
  | 18 => .array .int
  | 19 => .int
  | 20 => .array .int
  | 21 => .array .int
  | 22 => .int
  | 23 => .int
  | 24 => .array .long
  | 25 => .array .int
  | 26 => .int
  | 27 => .array .long
  | 28 => .array .long
  | 29 => .boolean
  | 30 => .long
  | 31 => .long
  | 32 => .boolean
  | 33 => .array .int
  | 34 => .array .int
  | 35 => .array .int
  | 36 => .array .int
  | 37 => .array .int
  | 38 => .array .boolean
  | 39 => .array .int
  | 40 => .int
  | 41 => .array .int
  | 42 => .array .int
  | 43 => .int
  | 44 => .int
  | 45 => .array .int
  | 46 => .array .int
  | 47 => .array .boolean
  | 48 => .int
  | 49 => .array .int
  | 50 => .array .int
  | 51 => .boolean
  | 52 => .boolean
  | 53 => .int
  | 54 => .int
  | 55 => .array .int
  | 56 => .array .int
  | 57 => .array .int
  | 58 => .array .int
  | 59 => .array .boolean
  | 60 => .int
  | 61 => .array .int
  | 62 => .array .int
  | 63 => .int
  | 64 => .array .int
  | 65 => .array .int
  | 66 => .array .int
  | _ => .boolean
abbrev wsX120 : List Cond := u_ws RX12 TX12 68
theorem nmX12 : ∀ a, a < 68 → ∀ b, b < 68 → a ≠ b → (TX12 a).2.1 ≠ (TX12 b).2.1 := by decide +kernel
theorem tyX12_ok : ∀ k, k < 68 → parseFieldDescriptor (TX12 k).2.2.1 = some (tyX12 k) := by decide +kernel
abbrev cX12_init : ByteArray := prog_14_method_1_code
def yX12_init : MethodName := ⟨RX12, "<init>", "()V"⟩
abbrev cX12_in : ByteArray := prog_14_method_3_code
def yX12_in : MethodName := ⟨RX12, "in", "(JJJ)Z"⟩
abbrev cX12_is : ByteArray := prog_14_method_4_code
def yX12_is : MethodName := ⟨RX12, "is", "(II)Z"⟩
abbrev cX12_tell : ByteArray := prog_14_method_5_code
def yX12_tell : MethodName := ⟨RX12, "tell", "(I)I"⟩
abbrev cX12_was : ByteArray := prog_14_method_6_code
def yX12_was : MethodName := ⟨RX12, "was", "(I)I"⟩
abbrev cX12_become : ByteArray := prog_14_method_7_code
def yX12_become : MethodName := ⟨RX12, "become", "(II)I"⟩
abbrev cX12_image : ByteArray := prog_14_method_8_code
def yX12_image : MethodName := ⟨RX12, "image", "(I)I"⟩
abbrev cX12_back : ByteArray := prog_14_method_9_code
def yX12_back : MethodName := ⟨RX12, "back", "(I)I"⟩
abbrev cX12_isClass : ByteArray := prog_14_method_10_code
def yX12_isClass : MethodName := ⟨RX12, "isClass", "(I)Z"⟩
abbrev cX12_isPart : ByteArray := prog_14_method_11_code
def yX12_isPart : MethodName := ⟨RX12, "isPart", "(I)Z"⟩
abbrev cX12_allCarcasses : ByteArray := prog_14_method_12_code
def yX12_allCarcasses : MethodName := ⟨RX12, "allCarcasses", "()I"⟩
abbrev cX12_carcasses : ByteArray := prog_14_method_13_code
def yX12_carcasses : MethodName := ⟨RX12, "carcasses", "(II)I"⟩
abbrev cX12_weighs : ByteArray := prog_14_method_14_code
def yX12_weighs : MethodName := ⟨RX12, "weighs", "(III)I"⟩
abbrev cX12_nOrders : ByteArray := prog_14_method_15_code
def yX12_nOrders : MethodName := ⟨RX12, "nOrders", "()I"⟩
abbrev cX12_put : ByteArray := prog_14_method_16_code
def yX12_put : MethodName := ⟨RX12, "put", "(III)I"⟩
abbrev cX12_man : ByteArray := prog_14_method_17_code
def yX12_man : MethodName := ⟨RX12, "man", "(I)I"⟩
abbrev cX12_skills : ByteArray := prog_14_method_18_code
def yX12_skills : MethodName := ⟨RX12, "skills", "(II)I"⟩
abbrev cX12_terms : ByteArray := prog_14_method_19_code
def yX12_terms : MethodName := ⟨RX12, "terms", "(II)I"⟩
abbrev cX12_four : ByteArray := prog_14_method_20_code
def yX12_four : MethodName := ⟨RX12, "four", "(I)V"⟩
abbrev cX12_feed : ByteArray := prog_14_method_21_code
def yX12_feed : MethodName := ⟨RX12, "feed", "(IIIII)I"⟩
abbrev cX12_end : ByteArray := prog_14_method_22_code
def yX12_end : MethodName := ⟨RX12, "end", "(I)I"⟩
abbrev cX12_isSmall : ByteArray := prog_14_method_23_code
def yX12_isSmall : MethodName := ⟨RX12, "isSmall", "(I)Z"⟩
abbrev cX12_isDigit : ByteArray := prog_14_method_24_code
def yX12_isDigit : MethodName := ⟨RX12, "isDigit", "(I)Z"⟩
abbrev cX12_begin : ByteArray := prog_14_method_25_code
def yX12_begin : MethodName := ⟨RX12, "begin", "()V"⟩
abbrev cX12_next : ByteArray := prog_14_method_26_code
def yX12_next : MethodName := ⟨RX12, "next", "()V"⟩
abbrev cX12_isWord : ByteArray := prog_14_method_27_code
def yX12_isWord : MethodName := ⟨RX12, "isWord", "(J)Z"⟩
abbrev cX12_isSign : ByteArray := prog_14_method_28_code
def yX12_isSign : MethodName := ⟨RX12, "isSign", "(I)Z"⟩
abbrev cX12_must : ByteArray := prog_14_method_29_code
def yX12_must : MethodName := ⟨RX12, "must", "(Z)V"⟩
abbrev cX12_number : ByteArray := prog_14_method_30_code
def yX12_number : MethodName := ⟨RX12, "number", "(JJ)I"⟩
abbrev cX12_fault : ByteArray := prog_14_method_31_code
def yX12_fault : MethodName := ⟨RX12, "fault", "()I"⟩
abbrev cX12_emit : ByteArray := prog_14_method_32_code
def yX12_emit : MethodName := ⟨RX12, "emit", "(II)V"⟩
abbrev cX12_push : ByteArray := prog_14_method_33_code
def yX12_push : MethodName := ⟨RX12, "push", "(II)V"⟩
abbrev cX12_binds : ByteArray := prog_14_method_34_code
def yX12_binds : MethodName := ⟨RX12, "binds", "(I)I"⟩
abbrev cX12_settle : ByteArray := prog_14_method_35_code
def yX12_settle : MethodName := ⟨RX12, "settle", "(I)V"⟩
abbrev cX12_inner : ByteArray := prog_14_method_36_code
def yX12_inner : MethodName := ⟨RX12, "inner", "()I"⟩
abbrev cX12_isCompared : ByteArray := prog_14_method_37_code
def yX12_isCompared : MethodName := ⟨RX12, "isCompared", "()Z"⟩
abbrev cX12_partAt : ByteArray := prog_14_method_38_code
def yX12_partAt : MethodName := ⟨RX12, "partAt", "()I"⟩
abbrev cX12_openBracket : ByteArray := prog_14_method_39_code
def yX12_openBracket : MethodName := ⟨RX12, "openBracket", "(I)V"⟩
abbrev cX12_leaf : ByteArray := prog_14_method_40_code
def yX12_leaf : MethodName := ⟨RX12, "leaf", "(ZII)V"⟩
abbrev cX12_readPart : ByteArray := prog_14_method_41_code
def yX12_readPart : MethodName := ⟨RX12, "readPart", "()I"⟩
abbrev cX12_readPlain : ByteArray := prog_14_method_42_code
def yX12_readPlain : MethodName := ⟨RX12, "readPlain", "()I"⟩
abbrev cX12_behindSum : ByteArray := prog_14_method_43_code
def yX12_behindSum : MethodName := ⟨RX12, "behindSum", "(Z)I"⟩
abbrev cX12_behindTest : ByteArray := prog_14_method_44_code
def yX12_behindTest : MethodName := ⟨RX12, "behindTest", "()I"⟩
abbrev cX12_readExpression : ByteArray := prog_14_method_45_code
def yX12_readExpression : MethodName := ⟨RX12, "readExpression", "(Z)V"⟩
abbrev cX12_readPieces : ByteArray := prog_14_method_46_code
def yX12_readPieces : MethodName := ⟨RX12, "readPieces", "(II)V"⟩
abbrev cX12_readCut : ByteArray := prog_14_method_47_code
def yX12_readCut : MethodName := ⟨RX12, "readCut", "()V"⟩
abbrev cX12_readClause : ByteArray := prog_14_method_48_code
def yX12_readClause : MethodName := ⟨RX12, "readClause", "()V"⟩
abbrev cX12_tree : ByteArray := prog_14_method_49_code
def yX12_tree : MethodName := ⟨RX12, "tree", "()I"⟩
abbrev cX12_reckon : ByteArray := prog_14_method_50_code
def yX12_reckon : MethodName := ⟨RX12, "reckon", "(IJJ)J"⟩
abbrev cX12_reckonAll : ByteArray := prog_14_method_51_code
def yX12_reckonAll : MethodName := ⟨RX12, "reckonAll", "(II)V"⟩
abbrev cX12_isSo : ByteArray := prog_14_method_52_code
def yX12_isSo : MethodName := ⟨RX12, "isSo", "(I)Z"⟩
abbrev cX12_partOf : ByteArray := prog_14_method_53_code
def yX12_partOf : MethodName := ⟨RX12, "partOf", "(I)I"⟩
abbrev cX12_pieces : ByteArray := prog_14_method_54_code
def yX12_pieces : MethodName := ⟨RX12, "pieces", "(II)I"⟩
abbrev cX12_weight : ByteArray := prog_14_method_55_code
def yX12_weight : MethodName := ⟨RX12, "weight", "(II)I"⟩
abbrev cX12_tells : ByteArray := prog_14_method_56_code
def yX12_tells : MethodName := ⟨RX12, "tells", "(IIIII)I"⟩
abbrev cX12_canGo : ByteArray := prog_14_method_57_code
def yX12_canGo : MethodName := ⟨RX12, "canGo", "(II)Z"⟩
abbrev cX12_minutes : ByteArray := prog_14_method_58_code
def yX12_minutes : MethodName := ⟨RX12, "minutes", "(II)I"⟩
abbrev cX12_skill : ByteArray := prog_14_method_59_code
def yX12_skill : MethodName := ⟨RX12, "skill", "(II)I"⟩
abbrev cX12_wastes : ByteArray := prog_14_method_60_code
def yX12_wastes : MethodName := ⟨RX12, "wastes", "(II)I"⟩
abbrev cX12_isWay : ByteArray := prog_14_method_61_code
def yX12_isWay : MethodName := ⟨RX12, "isWay", "(I)Z"⟩
abbrev cX12_way : ByteArray := prog_14_method_62_code
def yX12_way : MethodName := ⟨RX12, "way", "(II)I"⟩
abbrev cX12_goes : ByteArray := prog_14_method_63_code
def yX12_goes : MethodName := ⟨RX12, "goes", "(III)I"⟩
abbrev cX12_findCuttings : ByteArray := prog_14_method_64_code
def yX12_findCuttings : MethodName := ⟨RX12, "findCuttings", "()V"⟩
abbrev cX12_findOf : ByteArray := prog_14_method_65_code
def yX12_findOf : MethodName := ⟨RX12, "findOf", "(I)V"⟩
abbrev cX12_goesOn : ByteArray := prog_14_method_66_code
def yX12_goesOn : MethodName := ⟨RX12, "goesOn", "(II)Z"⟩
abbrev cX12_take : ByteArray := prog_14_method_67_code
def yX12_take : MethodName := ⟨RX12, "take", "(I)V"⟩
abbrev cX12_cuttings : ByteArray := prog_14_method_68_code
def yX12_cuttings : MethodName := ⟨RX12, "cuttings", "(I)I"⟩
abbrev cX12_isCutting : ByteArray := prog_14_method_69_code
def yX12_isCutting : MethodName := ⟨RX12, "isCutting", "(II)Z"⟩
abbrev cX12_choice : ByteArray := prog_14_method_70_code
def yX12_choice : MethodName := ⟨RX12, "choice", "(III)I"⟩
abbrev cX12_left : ByteArray := prog_14_method_71_code
def yX12_left : MethodName := ⟨RX12, "left", "(III)I"⟩
abbrev cX12_lay : ByteArray := prog_14_method_72_code
def yX12_lay : MethodName := ⟨RX12, "lay", "(III)Z"⟩
abbrev cX12_layOrders : ByteArray := prog_14_method_73_code
def yX12_layOrders : MethodName := ⟨RX12, "layOrders", "()V"⟩
abbrev cX12_split : ByteArray := prog_14_method_74_code
def yX12_split : MethodName := ⟨RX12, "split", "(I)V"⟩
abbrev cX12_behind : ByteArray := prog_14_method_75_code
def yX12_behind : MethodName := ⟨RX12, "behind", "(II)I"⟩
abbrev cX12_over : ByteArray := prog_14_method_76_code
def yX12_over : MethodName := ⟨RX12, "over", "(II)I"⟩
abbrev cX12_gain : ByteArray := prog_14_method_77_code
def yX12_gain : MethodName := ⟨RX12, "gain", "(II)I"⟩
abbrev cX12_reckon_ : ByteArray := prog_14_method_78_code
def yX12_reckon_ : MethodName := ⟨RX12, "reckon", "()I"⟩
abbrev cX12_reckonState : ByteArray := prog_14_method_79_code
def yX12_reckonState : MethodName := ⟨RX12, "reckonState", "(II)V"⟩
abbrev cX12_findPlan : ByteArray := prog_14_method_80_code
def yX12_findPlan : MethodName := ⟨RX12, "findPlan", "()Z"⟩
abbrev cX12_classAt : ByteArray := prog_14_method_81_code
def yX12_classAt : MethodName := ⟨RX12, "classAt", "(I)I"⟩
abbrev cX12_best : ByteArray := prog_14_method_82_code
def yX12_best : MethodName := ⟨RX12, "best", "(I)I"⟩
abbrev cX12_plan : ByteArray := prog_14_method_83_code
def yX12_plan : MethodName := ⟨RX12, "plan", "(I)I"⟩
abbrev cX12_lack : ByteArray := prog_14_method_84_code
def yX12_lack : MethodName := ⟨RX12, "lack", "(II)I"⟩
abbrev cX12_made : ByteArray := prog_14_method_85_code
def yX12_made : MethodName := ⟨RX12, "made", "(II)I"⟩
abbrev cX12_with : ByteArray := prog_14_method_86_code
def yX12_with : MethodName := ⟨RX12, "with", "(II)I"⟩
abbrev cX12_value : ByteArray := prog_14_method_87_code
def yX12_value : MethodName := ⟨RX12, "value", "(I)I"⟩
abbrev cX12_shorts : ByteArray := prog_14_method_88_code
def yX12_shorts : MethodName := ⟨RX12, "shorts", "(I)I"⟩
abbrev cX12_worth : ByteArray := prog_14_method_89_code
def yX12_worth : MethodName := ⟨RX12, "worth", "(I)I"⟩
abbrev cX12_change : ByteArray := prog_14_method_90_code
def yX12_change : MethodName := ⟨RX12, "change", "(II)I"⟩
abbrev cX12_give : ByteArray := prog_14_method_91_code
def yX12_give : MethodName := ⟨RX12, "give", "(II)I"⟩
abbrev cX12_toldOf : ByteArray := prog_14_method_92_code
def yX12_toldOf : MethodName := ⟨RX12, "toldOf", "(I)I"⟩
abbrev cX12_given : ByteArray := prog_14_method_93_code
def yX12_given : MethodName := ⟨RX12, "given", "(I)I"⟩
abbrev cX12_comes : ByteArray := prog_14_method_94_code
def yX12_comes : MethodName := ⟨RX12, "comes", "(III)I"⟩
abbrev cX12_findTasks : ByteArray := prog_14_method_95_code
def yX12_findTasks : MethodName := ⟨RX12, "findTasks", "()V"⟩
abbrev cX12_task : ByteArray := prog_14_method_96_code
def yX12_task : MethodName := ⟨RX12, "task", "(I)I"⟩
abbrev cX12_sharedBy : ByteArray := prog_14_method_97_code
def yX12_sharedBy : MethodName := ⟨RX12, "sharedBy", "(I)I"⟩
abbrev cX12_share : ByteArray := prog_14_method_98_code
def yX12_share : MethodName := ⟨RX12, "share", "(I)I"⟩
abbrev cX12_isBox : ByteArray := prog_14_method_99_code
def yX12_isBox : MethodName := ⟨RX12, "isBox", "(IIIIII)Z"⟩
abbrev cX12_addBox : ByteArray := prog_14_method_100_code
def yX12_addBox : MethodName := ⟨RX12, "addBox", "(IIIIII)V"⟩
abbrev cX12_ofBox : ByteArray := prog_14_method_101_code
def yX12_ofBox : MethodName := ⟨RX12, "ofBox", "(II)I"⟩
abbrev cX12_box : ByteArray := prog_14_method_102_code
def yX12_box : MethodName := ⟨RX12, "box", "(IIIIII)I"⟩
abbrev cX12_of : ByteArray := prog_14_method_103_code
def yX12_of : MethodName := ⟨RX12, "of", "(II)I"⟩
abbrev cX12_row : ByteArray := prog_14_method_104_code
def yX12_row : MethodName := ⟨RX12, "row", "()I"⟩
abbrev cX12_spoilt : ByteArray := prog_14_method_105_code
def yX12_spoilt : MethodName := ⟨RX12, "spoilt", "()I"⟩
abbrev cX12_mix : ByteArray := prog_14_method_106_code
def yX12_mix : MethodName := ⟨RX12, "mix", "(IIII)I"⟩
abbrev cX12_send : ByteArray := prog_14_method_107_code
def yX12_send : MethodName := ⟨RX12, "send", "(IIII)I"⟩
abbrev cX12_again : ByteArray := prog_14_method_108_code
def yX12_again : MethodName := ⟨RX12, "again", "(I)I"⟩
abbrev cX12_touches : ByteArray := prog_14_method_109_code
def yX12_touches : MethodName := ⟨RX12, "touches", "(II)Z"⟩
abbrev cX12_recall : ByteArray := prog_14_method_110_code
def yX12_recall : MethodName := ⟨RX12, "recall", "(II)I"⟩
abbrev cX12_yields : ByteArray := prog_14_method_111_code
def yX12_yields : MethodName := ⟨RX12, "yields", "(II)I"⟩
abbrev cX12_drift : ByteArray := prog_14_method_112_code
def yX12_drift : MethodName := ⟨RX12, "drift", "(III)I"⟩
abbrev cX12_week : ByteArray := prog_14_method_113_code
def yX12_week : MethodName := ⟨RX12, "week", "(I)I"⟩
abbrev cX12_came : ByteArray := prog_14_method_114_code
def yX12_came : MethodName := ⟨RX12, "came", "(II)I"⟩
abbrev cX12_count : ByteArray := prog_14_method_115_code
def yX12_count : MethodName := ⟨RX12, "count", "(I)I"⟩
abbrev cX12_status : ByteArray := prog_14_method_116_code
def yX12_status : MethodName := ⟨RX12, "status", "()I"⟩
def RJx145de : String := "java/io/Serializable"
def TJx145de : u_T := fun k => match k with
  | _ => ("", "", "", false)
def tyJx145de : Nat → FieldType := fun k => match k with
  | _ => .int
