-- PART A (kit/laws/SKELETON.whole.lean.txt) and the names, fields and methods (claim/NAMES.whole.lean.txt): starting texts, as printed
-- ===== PART A: goes FIRST, ahead of the names: the tables' words, and 'selects' of the private methods out of them =====
/-- a private method of a class that the tables say can be made, by its rows of tables_1 -/
def lw_okq (q : MethodName × Nat) : Prop := (q.1.cls ≠ "java/lang/invoke/MethodHandle" ∧ q.1.cls ≠ "java/lang/invoke/VarHandle") ∧ Cond.instantiable q.1.cls q.2 ∈ tables_1 ∧ Cond.privateMethod q.1 ∈ tables_1 ∧ Cond.instanceMethod q.1 ∈ tables_1
theorem lw_p0 : lw_okq (⟨"RiverCompact", "isHold", "(I)Z"⟩, 5) := ⟨⟨by decide +kernel, by decide +kernel⟩, List.mem_of_getElem? (i := 21) (by decide +kernel), List.mem_of_getElem? (i := 473) (by decide +kernel), List.mem_of_getElem? (i := 474) (by decide +kernel)⟩
theorem lw_p1 : lw_okq (⟨"RiverCompact$Flow", "sortHolds", "()V"⟩, 14) := ⟨⟨by decide +kernel, by decide +kernel⟩, List.mem_of_getElem? (i := 208) (by decide +kernel), List.mem_of_getElem? (i := 509) (by decide +kernel), List.mem_of_getElem? (i := 510) (by decide +kernel)⟩
theorem lw_p2 : lw_okq (⟨"RiverCompact$Flow", "readyMonth", "(I)V"⟩, 14) := ⟨⟨by decide +kernel, by decide +kernel⟩, List.mem_of_getElem? (i := 208) (by decide +kernel), List.mem_of_getElem? (i := 522) (by decide +kernel), List.mem_of_getElem? (i := 523) (by decide +kernel)⟩
theorem lw_p3 : lw_okq (⟨"RiverCompact$Told", "shutBy", "(LRiverCompact$Hold;)I"⟩, 17) := ⟨⟨by decide +kernel, by decide +kernel⟩, List.mem_of_getElem? (i := 29) (by decide +kernel), List.mem_of_getElem? (i := 530) (by decide +kernel), List.mem_of_getElem? (i := 531) (by decide +kernel)⟩
theorem lw_p4 : lw_okq (⟨"RiverCompact$Flow", "textFor", "(I)LRiverCompact$Text;"⟩, 14) := ⟨⟨by decide +kernel, by decide +kernel⟩, List.mem_of_getElem? (i := 208) (by decide +kernel), List.mem_of_getElem? (i := 538) (by decide +kernel), List.mem_of_getElem? (i := 539) (by decide +kernel)⟩
theorem lw_p5 : lw_okq (⟨"RiverCompact$Flow", "settleWants", "(I)V"⟩, 14) := ⟨⟨by decide +kernel, by decide +kernel⟩, List.mem_of_getElem? (i := 208) (by decide +kernel), List.mem_of_getElem? (i := 565) (by decide +kernel), List.mem_of_getElem? (i := 566) (by decide +kernel)⟩
theorem lw_p6 : lw_okq (⟨"RiverCompact$Flow", "passWater", "(I)V"⟩, 14) := ⟨⟨by decide +kernel, by decide +kernel⟩, List.mem_of_getElem? (i := 208) (by decide +kernel), List.mem_of_getElem? (i := 573) (by decide +kernel), List.mem_of_getElem? (i := 574) (by decide +kernel)⟩
theorem lw_p7 : lw_okq (⟨"RiverCompact$Flow", "gather", "(II)V"⟩, 14) := ⟨⟨by decide +kernel, by decide +kernel⟩, List.mem_of_getElem? (i := 208) (by decide +kernel), List.mem_of_getElem? (i := 577) (by decide +kernel), List.mem_of_getElem? (i := 578) (by decide +kernel)⟩
theorem lw_p8 : lw_okq (⟨"RiverCompact$Flow", "passLake", "(II)V"⟩, 14) := ⟨⟨by decide +kernel, by decide +kernel⟩, List.mem_of_getElem? (i := 208) (by decide +kernel), List.mem_of_getElem? (i := 589) (by decide +kernel), List.mem_of_getElem? (i := 590) (by decide +kernel)⟩
theorem lw_p9 : lw_okq (⟨"RiverCompact$Flow", "serve", "(III)I"⟩, 14) := ⟨⟨by decide +kernel, by decide +kernel⟩, List.mem_of_getElem? (i := 208) (by decide +kernel), List.mem_of_getElem? (i := 602) (by decide +kernel), List.mem_of_getElem? (i := 603) (by decide +kernel)⟩
theorem lw_p10 : lw_okq (⟨"RiverCompact$Reader", "findTokens", "()V"⟩, 11) := ⟨⟨by decide +kernel, by decide +kernel⟩, List.mem_of_getElem? (i := 334) (by decide +kernel), List.mem_of_getElem? (i := 642) (by decide +kernel), List.mem_of_getElem? (i := 643) (by decide +kernel)⟩
theorem lw_p11 : lw_okq (⟨"RiverCompact$Reader", "lengthAt", "(I)I"⟩, 11) := ⟨⟨by decide +kernel, by decide +kernel⟩, List.mem_of_getElem? (i := 334) (by decide +kernel), List.mem_of_getElem? (i := 646) (by decide +kernel), List.mem_of_getElem? (i := 647) (by decide +kernel)⟩
theorem lw_p12 : lw_okq (⟨"RiverCompact$Reader", "tokenAt", "(II)I"⟩, 11) := ⟨⟨by decide +kernel, by decide +kernel⟩, List.mem_of_getElem? (i := 334) (by decide +kernel), List.mem_of_getElem? (i := 657) (by decide +kernel), List.mem_of_getElem? (i := 658) (by decide +kernel)⟩
theorem lw_p13 : lw_okq (⟨"RiverCompact$Reader", "wordAt", "(II)I"⟩, 11) := ⟨⟨by decide +kernel, by decide +kernel⟩, List.mem_of_getElem? (i := 334) (by decide +kernel), List.mem_of_getElem? (i := 661) (by decide +kernel), List.mem_of_getElem? (i := 662) (by decide +kernel)⟩
theorem lw_p14 : lw_okq (⟨"RiverCompact$Reader", "isWord", "(Ljava/lang/String;II)Z"⟩, 11) := ⟨⟨by decide +kernel, by decide +kernel⟩, List.mem_of_getElem? (i := 334) (by decide +kernel), List.mem_of_getElem? (i := 666) (by decide +kernel), List.mem_of_getElem? (i := 667) (by decide +kernel)⟩
theorem lw_p15 : lw_okq (⟨"RiverCompact$Reader", "numberAt", "(II)I"⟩, 11) := ⟨⟨by decide +kernel, by decide +kernel⟩, List.mem_of_getElem? (i := 334) (by decide +kernel), List.mem_of_getElem? (i := 728) (by decide +kernel), List.mem_of_getElem? (i := 729) (by decide +kernel)⟩
def lw_privs_1 : List (MethodName × Nat) := [(⟨"RiverCompact", "isHold", "(I)Z"⟩, 5), (⟨"RiverCompact$Flow", "sortHolds", "()V"⟩, 14), (⟨"RiverCompact$Flow", "readyMonth", "(I)V"⟩, 14), (⟨"RiverCompact$Told", "shutBy", "(LRiverCompact$Hold;)I"⟩, 17), (⟨"RiverCompact$Flow", "textFor", "(I)LRiverCompact$Text;"⟩, 14), (⟨"RiverCompact$Flow", "settleWants", "(I)V"⟩, 14), (⟨"RiverCompact$Flow", "passWater", "(I)V"⟩, 14), (⟨"RiverCompact$Flow", "gather", "(II)V"⟩, 14), (⟨"RiverCompact$Flow", "passLake", "(II)V"⟩, 14), (⟨"RiverCompact$Flow", "serve", "(III)I"⟩, 14), (⟨"RiverCompact$Reader", "findTokens", "()V"⟩, 11), (⟨"RiverCompact$Reader", "lengthAt", "(I)I"⟩, 11), (⟨"RiverCompact$Reader", "tokenAt", "(II)I"⟩, 11), (⟨"RiverCompact$Reader", "wordAt", "(II)I"⟩, 11), (⟨"RiverCompact$Reader", "isWord", "(Ljava/lang/String;II)Z"⟩, 11), (⟨"RiverCompact$Reader", "numberAt", "(II)I"⟩, 11)]
theorem lw_r1 : ∀ q ∈ lw_privs_1, lw_okq q := List.forall_mem_cons.mpr ⟨lw_p0, List.forall_mem_cons.mpr ⟨lw_p1, List.forall_mem_cons.mpr ⟨lw_p2, List.forall_mem_cons.mpr ⟨lw_p3, List.forall_mem_cons.mpr ⟨lw_p4, List.forall_mem_cons.mpr ⟨lw_p5, List.forall_mem_cons.mpr ⟨lw_p6, List.forall_mem_cons.mpr ⟨lw_p7, List.forall_mem_cons.mpr ⟨lw_p8, List.forall_mem_cons.mpr ⟨lw_p9, List.forall_mem_cons.mpr ⟨lw_p10, List.forall_mem_cons.mpr ⟨lw_p11, List.forall_mem_cons.mpr ⟨lw_p12, List.forall_mem_cons.mpr ⟨lw_p13, List.forall_mem_cons.mpr ⟨lw_p14, List.forall_mem_cons.mpr ⟨lw_p15, fun _ h => absurd h List.not_mem_nil⟩⟩⟩⟩⟩⟩⟩⟩⟩⟩⟩⟩⟩⟩⟩⟩
theorem lw_p16 : lw_okq (⟨"RiverCompact$Reader", "expect", "(I)V"⟩, 11) := ⟨⟨by decide +kernel, by decide +kernel⟩, List.mem_of_getElem? (i := 334) (by decide +kernel), List.mem_of_getElem? (i := 732) (by decide +kernel), List.mem_of_getElem? (i := 733) (by decide +kernel)⟩
theorem lw_p17 : lw_okq (⟨"RiverCompact$Reader", "accept", "(I)Z"⟩, 11) := ⟨⟨by decide +kernel, by decide +kernel⟩, List.mem_of_getElem? (i := 334) (by decide +kernel), List.mem_of_getElem? (i := 736) (by decide +kernel), List.mem_of_getElem? (i := 737) (by decide +kernel)⟩
theorem lw_p18 : lw_okq (⟨"RiverCompact$Reader", "peek", "()I"⟩, 11) := ⟨⟨by decide +kernel, by decide +kernel⟩, List.mem_of_getElem? (i := 334) (by decide +kernel), List.mem_of_getElem? (i := 740) (by decide +kernel), List.mem_of_getElem? (i := 741) (by decide +kernel)⟩
theorem lw_p19 : lw_okq (⟨"RiverCompact$Reader", "fail", "()V"⟩, 11) := ⟨⟨by decide +kernel, by decide +kernel⟩, List.mem_of_getElem? (i := 334) (by decide +kernel), List.mem_of_getElem? (i := 744) (by decide +kernel), List.mem_of_getElem? (i := 745) (by decide +kernel)⟩
theorem lw_p20 : lw_okq (⟨"RiverCompact$Reader", "parseOr", "()V"⟩, 11) := ⟨⟨by decide +kernel, by decide +kernel⟩, List.mem_of_getElem? (i := 334) (by decide +kernel), List.mem_of_getElem? (i := 748) (by decide +kernel), List.mem_of_getElem? (i := 749) (by decide +kernel)⟩
theorem lw_p21 : lw_okq (⟨"RiverCompact$Reader", "parseAnd", "()V"⟩, 11) := ⟨⟨by decide +kernel, by decide +kernel⟩, List.mem_of_getElem? (i := 334) (by decide +kernel), List.mem_of_getElem? (i := 752) (by decide +kernel), List.mem_of_getElem? (i := 753) (by decide +kernel)⟩
theorem lw_p22 : lw_okq (⟨"RiverCompact$Reader", "parseNot", "()V"⟩, 11) := ⟨⟨by decide +kernel, by decide +kernel⟩, List.mem_of_getElem? (i := 334) (by decide +kernel), List.mem_of_getElem? (i := 756) (by decide +kernel), List.mem_of_getElem? (i := 757) (by decide +kernel)⟩
theorem lw_p23 : lw_okq (⟨"RiverCompact$Reader", "enter", "(I)Z"⟩, 11) := ⟨⟨by decide +kernel, by decide +kernel⟩, List.mem_of_getElem? (i := 334) (by decide +kernel), List.mem_of_getElem? (i := 760) (by decide +kernel), List.mem_of_getElem? (i := 761) (by decide +kernel)⟩
theorem lw_p24 : lw_okq (⟨"RiverCompact$Reader", "write", "(I)V"⟩, 11) := ⟨⟨by decide +kernel, by decide +kernel⟩, List.mem_of_getElem? (i := 334) (by decide +kernel), List.mem_of_getElem? (i := 764) (by decide +kernel), List.mem_of_getElem? (i := 765) (by decide +kernel)⟩
theorem lw_p25 : lw_okq (⟨"RiverCompact$Reader", "parseSum", "()V"⟩, 11) := ⟨⟨by decide +kernel, by decide +kernel⟩, List.mem_of_getElem? (i := 334) (by decide +kernel), List.mem_of_getElem? (i := 768) (by decide +kernel), List.mem_of_getElem? (i := 769) (by decide +kernel)⟩
theorem lw_p26 : lw_okq (⟨"RiverCompact$Reader", "parseTerm", "()V"⟩, 11) := ⟨⟨by decide +kernel, by decide +kernel⟩, List.mem_of_getElem? (i := 334) (by decide +kernel), List.mem_of_getElem? (i := 772) (by decide +kernel), List.mem_of_getElem? (i := 773) (by decide +kernel)⟩
theorem lw_p27 : lw_okq (⟨"RiverCompact$Reader", "parseOne", "()V"⟩, 11) := ⟨⟨by decide +kernel, by decide +kernel⟩, List.mem_of_getElem? (i := 334) (by decide +kernel), List.mem_of_getElem? (i := 776) (by decide +kernel), List.mem_of_getElem? (i := 777) (by decide +kernel)⟩
theorem lw_p28 : lw_okq (⟨"RiverCompact", "isText", "(I)Z"⟩, 5) := ⟨⟨by decide +kernel, by decide +kernel⟩, List.mem_of_getElem? (i := 21) (by decide +kernel), List.mem_of_getElem? (i := 791) (by decide +kernel), List.mem_of_getElem? (i := 792) (by decide +kernel)⟩
theorem lw_p29 : lw_okq (⟨"RiverCompact$Flow", "partOf", "(III)I"⟩, 14) := ⟨⟨by decide +kernel, by decide +kernel⟩, List.mem_of_getElem? (i := 208) (by decide +kernel), List.mem_of_getElem? (i := 843) (by decide +kernel), List.mem_of_getElem? (i := 844) (by decide +kernel)⟩
theorem lw_p30 : lw_okq (⟨"RiverCompact", "whoGetsLess", "()I"⟩, 5) := ⟨⟨by decide +kernel, by decide +kernel⟩, List.mem_of_getElem? (i := 21) (by decide +kernel), List.mem_of_getElem? (i := 871) (by decide +kernel), List.mem_of_getElem? (i := 872) (by decide +kernel)⟩
theorem lw_p31 : lw_okq (⟨"RiverCompact", "trySale", "(II)V"⟩, 5) := ⟨⟨by decide +kernel, by decide +kernel⟩, List.mem_of_getElem? (i := 21) (by decide +kernel), List.mem_of_getElem? (i := 879) (by decide +kernel), List.mem_of_getElem? (i := 880) (by decide +kernel)⟩
def lw_privs_2 : List (MethodName × Nat) := [(⟨"RiverCompact$Reader", "expect", "(I)V"⟩, 11), (⟨"RiverCompact$Reader", "accept", "(I)Z"⟩, 11), (⟨"RiverCompact$Reader", "peek", "()I"⟩, 11), (⟨"RiverCompact$Reader", "fail", "()V"⟩, 11), (⟨"RiverCompact$Reader", "parseOr", "()V"⟩, 11), (⟨"RiverCompact$Reader", "parseAnd", "()V"⟩, 11), (⟨"RiverCompact$Reader", "parseNot", "()V"⟩, 11), (⟨"RiverCompact$Reader", "enter", "(I)Z"⟩, 11), (⟨"RiverCompact$Reader", "write", "(I)V"⟩, 11), (⟨"RiverCompact$Reader", "parseSum", "()V"⟩, 11), (⟨"RiverCompact$Reader", "parseTerm", "()V"⟩, 11), (⟨"RiverCompact$Reader", "parseOne", "()V"⟩, 11), (⟨"RiverCompact", "isText", "(I)Z"⟩, 5), (⟨"RiverCompact$Flow", "partOf", "(III)I"⟩, 14), (⟨"RiverCompact", "whoGetsLess", "()I"⟩, 5), (⟨"RiverCompact", "trySale", "(II)V"⟩, 5)]
theorem lw_r2 : ∀ q ∈ lw_privs_2, lw_okq q := List.forall_mem_cons.mpr ⟨lw_p16, List.forall_mem_cons.mpr ⟨lw_p17, List.forall_mem_cons.mpr ⟨lw_p18, List.forall_mem_cons.mpr ⟨lw_p19, List.forall_mem_cons.mpr ⟨lw_p20, List.forall_mem_cons.mpr ⟨lw_p21, List.forall_mem_cons.mpr ⟨lw_p22, List.forall_mem_cons.mpr ⟨lw_p23, List.forall_mem_cons.mpr ⟨lw_p24, List.forall_mem_cons.mpr ⟨lw_p25, List.forall_mem_cons.mpr ⟨lw_p26, List.forall_mem_cons.mpr ⟨lw_p27, List.forall_mem_cons.mpr ⟨lw_p28, List.forall_mem_cons.mpr ⟨lw_p29, List.forall_mem_cons.mpr ⟨lw_p30, List.forall_mem_cons.mpr ⟨lw_p31, fun _ h => absurd h List.not_mem_nil⟩⟩⟩⟩⟩⟩⟩⟩⟩⟩⟩⟩⟩⟩⟩⟩
theorem lw_p32 : lw_okq (⟨"RiverCompact", "stateGets", "(III)J"⟩, 5) := ⟨⟨by decide +kernel, by decide +kernel⟩, List.mem_of_getElem? (i := 21) (by decide +kernel), List.mem_of_getElem? (i := 892) (by decide +kernel), List.mem_of_getElem? (i := 893) (by decide +kernel)⟩
theorem lw_p33 : lw_okq (⟨"RiverCompact", "isSetToLeaveDry", "(I)Z"⟩, 5) := ⟨⟨by decide +kernel, by decide +kernel⟩, List.mem_of_getElem? (i := 21) (by decide +kernel), List.mem_of_getElem? (i := 919) (by decide +kernel), List.mem_of_getElem? (i := 920) (by decide +kernel)⟩
theorem lw_p34 : lw_okq (⟨"RiverCompact", "setGets", "(I)J"⟩, 5) := ⟨⟨by decide +kernel, by decide +kernel⟩, List.mem_of_getElem? (i := 21) (by decide +kernel), List.mem_of_getElem? (i := 929) (by decide +kernel), List.mem_of_getElem? (i := 930) (by decide +kernel)⟩
theorem lw_p35 : lw_okq (⟨"RiverCompactModel", "readOf", "(II)I"⟩, 73) := ⟨⟨by decide +kernel, by decide +kernel⟩, List.mem_of_getElem? (i := 991) (by decide +kernel), List.mem_of_getElem? (i := 1246) (by decide +kernel), List.mem_of_getElem? (i := 1247) (by decide +kernel)⟩
theorem lw_p36 : lw_okq (⟨"RiverCompactModel", "puts", "(IIIIII)V"⟩, 73) := ⟨⟨by decide +kernel, by decide +kernel⟩, List.mem_of_getElem? (i := 991) (by decide +kernel), List.mem_of_getElem? (i := 1265) (by decide +kernel), List.mem_of_getElem? (i := 1266) (by decide +kernel)⟩
theorem lw_p37 : lw_okq (⟨"RiverCompactModel", "isHold", "(I)Z"⟩, 73) := ⟨⟨by decide +kernel, by decide +kernel⟩, List.mem_of_getElem? (i := 991) (by decide +kernel), List.mem_of_getElem? (i := 1273) (by decide +kernel), List.mem_of_getElem? (i := 1274) (by decide +kernel)⟩
theorem lw_p38 : lw_okq (⟨"RiverCompactModel", "rank", "(I)I"⟩, 73) := ⟨⟨by decide +kernel, by decide +kernel⟩, List.mem_of_getElem? (i := 991) (by decide +kernel), List.mem_of_getElem? (i := 1284) (by decide +kernel), List.mem_of_getElem? (i := 1285) (by decide +kernel)⟩
theorem lw_p39 : lw_okq (⟨"RiverCompactModel", "hundredths", "(I)I"⟩, 73) := ⟨⟨by decide +kernel, by decide +kernel⟩, List.mem_of_getElem? (i := 991) (by decide +kernel), List.mem_of_getElem? (i := 1288) (by decide +kernel), List.mem_of_getElem? (i := 1289) (by decide +kernel)⟩
theorem lw_p40 : lw_okq (⟨"RiverCompactModel", "isText", "()Z"⟩, 73) := ⟨⟨by decide +kernel, by decide +kernel⟩, List.mem_of_getElem? (i := 991) (by decide +kernel), List.mem_of_getElem? (i := 1305) (by decide +kernel), List.mem_of_getElem? (i := 1306) (by decide +kernel)⟩
theorem lw_p41 : lw_okq (⟨"RiverCompactModel", "next", "()V"⟩, 73) := ⟨⟨by decide +kernel, by decide +kernel⟩, List.mem_of_getElem? (i := 991) (by decide +kernel), List.mem_of_getElem? (i := 1309) (by decide +kernel), List.mem_of_getElem? (i := 1310) (by decide +kernel)⟩
theorem lw_p42 : lw_okq (⟨"RiverCompactModel", "wordAt", "(II)I"⟩, 73) := ⟨⟨by decide +kernel, by decide +kernel⟩, List.mem_of_getElem? (i := 991) (by decide +kernel), List.mem_of_getElem? (i := 1313) (by decide +kernel), List.mem_of_getElem? (i := 1314) (by decide +kernel)⟩
theorem lw_p43 : lw_okq (⟨"RiverCompactModel", "isWord", "(IILjava/lang/String;)Z"⟩, 73) := ⟨⟨by decide +kernel, by decide +kernel⟩, List.mem_of_getElem? (i := 991) (by decide +kernel), List.mem_of_getElem? (i := 1318) (by decide +kernel), List.mem_of_getElem? (i := 1319) (by decide +kernel)⟩
theorem lw_p44 : lw_okq (⟨"RiverCompactModel", "isExpression", "()Z"⟩, 73) := ⟨⟨by decide +kernel, by decide +kernel⟩, List.mem_of_getElem? (i := 991) (by decide +kernel), List.mem_of_getElem? (i := 1337) (by decide +kernel), List.mem_of_getElem? (i := 1338) (by decide +kernel)⟩
theorem lw_p45 : lw_okq (⟨"RiverCompactModel", "pops", "(I)V"⟩, 73) := ⟨⟨by decide +kernel, by decide +kernel⟩, List.mem_of_getElem? (i := 991) (by decide +kernel), List.mem_of_getElem? (i := 1341) (by decide +kernel), List.mem_of_getElem? (i := 1342) (by decide +kernel)⟩
theorem lw_p46 : lw_okq (⟨"RiverCompactModel", "opens", "(I)Z"⟩, 73) := ⟨⟨by decide +kernel, by decide +kernel⟩, List.mem_of_getElem? (i := 991) (by decide +kernel), List.mem_of_getElem? (i := 1348) (by decide +kernel), List.mem_of_getElem? (i := 1349) (by decide +kernel)⟩
theorem lw_p47 : lw_okq (⟨"RiverCompactModel", "run", "()V"⟩, 73) := ⟨⟨by decide +kernel, by decide +kernel⟩, List.mem_of_getElem? (i := 991) (by decide +kernel), List.mem_of_getElem? (i := 1360) (by decide +kernel), List.mem_of_getElem? (i := 1361) (by decide +kernel)⟩
def lw_privs_3 : List (MethodName × Nat) := [(⟨"RiverCompact", "stateGets", "(III)J"⟩, 5), (⟨"RiverCompact", "isSetToLeaveDry", "(I)Z"⟩, 5), (⟨"RiverCompact", "setGets", "(I)J"⟩, 5), (⟨"RiverCompactModel", "readOf", "(II)I"⟩, 73), (⟨"RiverCompactModel", "puts", "(IIIIII)V"⟩, 73), (⟨"RiverCompactModel", "isHold", "(I)Z"⟩, 73), (⟨"RiverCompactModel", "rank", "(I)I"⟩, 73), (⟨"RiverCompactModel", "hundredths", "(I)I"⟩, 73), (⟨"RiverCompactModel", "isText", "()Z"⟩, 73), (⟨"RiverCompactModel", "next", "()V"⟩, 73), (⟨"RiverCompactModel", "wordAt", "(II)I"⟩, 73), (⟨"RiverCompactModel", "isWord", "(IILjava/lang/String;)Z"⟩, 73), (⟨"RiverCompactModel", "isExpression", "()Z"⟩, 73), (⟨"RiverCompactModel", "pops", "(I)V"⟩, 73), (⟨"RiverCompactModel", "opens", "(I)Z"⟩, 73), (⟨"RiverCompactModel", "run", "()V"⟩, 73)]
theorem lw_r3 : ∀ q ∈ lw_privs_3, lw_okq q := List.forall_mem_cons.mpr ⟨lw_p32, List.forall_mem_cons.mpr ⟨lw_p33, List.forall_mem_cons.mpr ⟨lw_p34, List.forall_mem_cons.mpr ⟨lw_p35, List.forall_mem_cons.mpr ⟨lw_p36, List.forall_mem_cons.mpr ⟨lw_p37, List.forall_mem_cons.mpr ⟨lw_p38, List.forall_mem_cons.mpr ⟨lw_p39, List.forall_mem_cons.mpr ⟨lw_p40, List.forall_mem_cons.mpr ⟨lw_p41, List.forall_mem_cons.mpr ⟨lw_p42, List.forall_mem_cons.mpr ⟨lw_p43, List.forall_mem_cons.mpr ⟨lw_p44, List.forall_mem_cons.mpr ⟨lw_p45, List.forall_mem_cons.mpr ⟨lw_p46, List.forall_mem_cons.mpr ⟨lw_p47, fun _ h => absurd h List.not_mem_nil⟩⟩⟩⟩⟩⟩⟩⟩⟩⟩⟩⟩⟩⟩⟩⟩
theorem lw_p48 : lw_okq (⟨"RiverCompactModel", "flows", "(II)V"⟩, 73) := ⟨⟨by decide +kernel, by decide +kernel⟩, List.mem_of_getElem? (i := 991) (by decide +kernel), List.mem_of_getElem? (i := 1364) (by decide +kernel), List.mem_of_getElem? (i := 1365) (by decide +kernel)⟩
theorem lw_p49 : lw_okq (⟨"RiverCompactModel", "sideOf", "(II)I"⟩, 73) := ⟨⟨by decide +kernel, by decide +kernel⟩, List.mem_of_getElem? (i := 991) (by decide +kernel), List.mem_of_getElem? (i := 1368) (by decide +kernel), List.mem_of_getElem? (i := 1369) (by decide +kernel)⟩
theorem lw_p50 : lw_okq (⟨"RiverCompactModel", "wantsOf", "(II)I"⟩, 73) := ⟨⟨by decide +kernel, by decide +kernel⟩, List.mem_of_getElem? (i := 991) (by decide +kernel), List.mem_of_getElem? (i := 1373) (by decide +kernel), List.mem_of_getElem? (i := 1374) (by decide +kernel)⟩
theorem lw_p51 : lw_okq (⟨"RiverCompactModel", "isShut", "(II)Z"⟩, 73) := ⟨⟨by decide +kernel, by decide +kernel⟩, List.mem_of_getElem? (i := 991) (by decide +kernel), List.mem_of_getElem? (i := 1377) (by decide +kernel), List.mem_of_getElem? (i := 1378) (by decide +kernel)⟩
theorem lw_p52 : lw_okq (⟨"RiverCompactModel", "says", "(IIIZ)I"⟩, 73) := ⟨⟨by decide +kernel, by decide +kernel⟩, List.mem_of_getElem? (i := 991) (by decide +kernel), List.mem_of_getElem? (i := 1381) (by decide +kernel), List.mem_of_getElem? (i := 1382) (by decide +kernel)⟩
theorem lw_p53 : lw_okq (⟨"RiverCompactModel", "valueOf", "(III)I"⟩, 73) := ⟨⟨by decide +kernel, by decide +kernel⟩, List.mem_of_getElem? (i := 991) (by decide +kernel), List.mem_of_getElem? (i := 1385) (by decide +kernel), List.mem_of_getElem? (i := 1386) (by decide +kernel)⟩
theorem lw_p54 : lw_okq (⟨"RiverCompactModel", "levels", "(I)I"⟩, 73) := ⟨⟨by decide +kernel, by decide +kernel⟩, List.mem_of_getElem? (i := 991) (by decide +kernel), List.mem_of_getElem? (i := 1389) (by decide +kernel), List.mem_of_getElem? (i := 1390) (by decide +kernel)⟩
theorem lw_p55 : lw_okq (⟨"RiverCompactModel", "asks", "(II)I"⟩, 73) := ⟨⟨by decide +kernel, by decide +kernel⟩, List.mem_of_getElem? (i := 991) (by decide +kernel), List.mem_of_getElem? (i := 1393) (by decide +kernel), List.mem_of_getElem? (i := 1394) (by decide +kernel)⟩
theorem lw_p56 : lw_okq (⟨"RiverCompactModel", "allOf", "(III)J"⟩, 73) := ⟨⟨by decide +kernel, by decide +kernel⟩, List.mem_of_getElem? (i := 991) (by decide +kernel), List.mem_of_getElem? (i := 1402) (by decide +kernel), List.mem_of_getElem? (i := 1403) (by decide +kernel)⟩
theorem lw_p57 : lw_okq (⟨"RiverCompactModel", "sharpOf", "(I)I"⟩, 73) := ⟨⟨by decide +kernel, by decide +kernel⟩, List.mem_of_getElem? (i := 991) (by decide +kernel), List.mem_of_getElem? (i := 1426) (by decide +kernel), List.mem_of_getElem? (i := 1427) (by decide +kernel)⟩
theorem lw_p58 : lw_okq (⟨"RiverCompactModel", "owes", "(IIII)J"⟩, 73) := ⟨⟨by decide +kernel, by decide +kernel⟩, List.mem_of_getElem? (i := 991) (by decide +kernel), List.mem_of_getElem? (i := 1444) (by decide +kernel), List.mem_of_getElem? (i := 1445) (by decide +kernel)⟩
theorem lw_p59 : lw_okq (⟨"RiverCompactModel", "keeps", "()V"⟩, 73) := ⟨⟨by decide +kernel, by decide +kernel⟩, List.mem_of_getElem? (i := 991) (by decide +kernel), List.mem_of_getElem? (i := 1456) (by decide +kernel), List.mem_of_getElem? (i := 1457) (by decide +kernel)⟩
theorem lw_p60 : lw_okq (⟨"RiverCompactModel", "less", "(II)I"⟩, 73) := ⟨⟨by decide +kernel, by decide +kernel⟩, List.mem_of_getElem? (i := 991) (by decide +kernel), List.mem_of_getElem? (i := 1460) (by decide +kernel), List.mem_of_getElem? (i := 1461) (by decide +kernel)⟩
theorem lw_p61 : lw_okq (⟨"RiverCompactModel", "gotBy", "(III)J"⟩, 73) := ⟨⟨by decide +kernel, by decide +kernel⟩, List.mem_of_getElem? (i := 991) (by decide +kernel), List.mem_of_getElem? (i := 1476) (by decide +kernel), List.mem_of_getElem? (i := 1477) (by decide +kernel)⟩
def lw_privs_4 : List (MethodName × Nat) := [(⟨"RiverCompactModel", "flows", "(II)V"⟩, 73), (⟨"RiverCompactModel", "sideOf", "(II)I"⟩, 73), (⟨"RiverCompactModel", "wantsOf", "(II)I"⟩, 73), (⟨"RiverCompactModel", "isShut", "(II)Z"⟩, 73), (⟨"RiverCompactModel", "says", "(IIIZ)I"⟩, 73), (⟨"RiverCompactModel", "valueOf", "(III)I"⟩, 73), (⟨"RiverCompactModel", "levels", "(I)I"⟩, 73), (⟨"RiverCompactModel", "asks", "(II)I"⟩, 73), (⟨"RiverCompactModel", "allOf", "(III)J"⟩, 73), (⟨"RiverCompactModel", "sharpOf", "(I)I"⟩, 73), (⟨"RiverCompactModel", "owes", "(IIII)J"⟩, 73), (⟨"RiverCompactModel", "keeps", "()V"⟩, 73), (⟨"RiverCompactModel", "less", "(II)I"⟩, 73), (⟨"RiverCompactModel", "gotBy", "(III)J"⟩, 73)]
theorem lw_r4 : ∀ q ∈ lw_privs_4, lw_okq q := List.forall_mem_cons.mpr ⟨lw_p48, List.forall_mem_cons.mpr ⟨lw_p49, List.forall_mem_cons.mpr ⟨lw_p50, List.forall_mem_cons.mpr ⟨lw_p51, List.forall_mem_cons.mpr ⟨lw_p52, List.forall_mem_cons.mpr ⟨lw_p53, List.forall_mem_cons.mpr ⟨lw_p54, List.forall_mem_cons.mpr ⟨lw_p55, List.forall_mem_cons.mpr ⟨lw_p56, List.forall_mem_cons.mpr ⟨lw_p57, List.forall_mem_cons.mpr ⟨lw_p58, List.forall_mem_cons.mpr ⟨lw_p59, List.forall_mem_cons.mpr ⟨lw_p60, List.forall_mem_cons.mpr ⟨lw_p61, fun _ h => absurd h List.not_mem_nil⟩⟩⟩⟩⟩⟩⟩⟩⟩⟩⟩⟩⟩⟩
def lw_privs : List (MethodName × Nat) := lw_privs_1 ++ (lw_privs_2 ++ (lw_privs_3 ++ (lw_privs_4)))
def lw_tbl : List Cond := k2_sels lw_privs ++ tables_1
theorem lw_privs_ok : ∀ q ∈ lw_privs, lw_okq q := by
  show ∀ q ∈ lw_privs_1 ++ (lw_privs_2 ++ (lw_privs_3 ++ (lw_privs_4))), lw_okq q
  exact List.forall_mem_append.mpr ⟨lw_r1, List.forall_mem_append.mpr ⟨lw_r2, List.forall_mem_append.mpr ⟨lw_r3, lw_r4⟩⟩⟩
/-! ===== BEGIN printed: names, fields, word lists, decode rows ===== -/
def RX0 : String := "RiverCompact$Flow"
def TX0 : u_T := fun k => match k with
  | 0 => ("RiverCompact$Flow", "told", "LRiverCompact$Told;", true)
  | 1 => ("RiverCompact$Flow", "reachRows", "[LRiverCompact$ReachRows;", true)
  | 2 => ("RiverCompact$Flow", "holdRows", "[LRiverCompact$HoldRows;", true)
  | 3 => ("RiverCompact$Flow", "shut", "[I", true)
  | 4 => ("RiverCompact$Flow", "stale", "Z", false)
  | 5 => ("RiverCompact$Flow", "order", "[I", true)
  | 6 => ("RiverCompact$Flow", "releases", "[I", true)
  | 7 => ("RiverCompact$Flow", "leftOutCall", "I", false)
  | 8 => ("RiverCompact$Flow", "oneText", "I", false)
  | 9 => ("RiverCompact$Flow", "dryHolds", "I", false)
  | 10 => ("RiverCompact$Flow", "readyMonths", "I", false)
  | 11 => ("RiverCompact$Flow", "doneMonths", "I", false)
  | 12 => ("RiverCompact$Flow", "left", "I", false)
  | _ => ("RiverCompact$Flow", "leftSalt", "I", false)
def tyX0 : Nat → FieldType := fun k => match k with
  | 0 => .object "RiverCompact$Told"
  | 1 => .array (.object "RiverCompact$ReachRows")
  | 2 => .array (.object "RiverCompact$HoldRows")
  | 3 => .array .int
  | 4 => .boolean
  | 5 => .array .int
  | 6 => .array .int
  | 7 => .int
  | 8 => .int
  | 9 => .int
  | 10 => .int
  | 11 => .int
  | 12 => .int
  | _ => .int
abbrev wsX00 : List Cond := u_ws RX0 TX0 14
theorem nmX0 : ∀ a, a < 14 → ∀ b, b < 14 → a ≠ b → (TX0 a).2.1 ≠ (TX0 b).2.1 := by decide +kernel
theorem tyX0_ok : ∀ k, k < 14 → parseFieldDescriptor (TX0 k).2.2.1 = some (tyX0 k) := by decide +kernel
abbrev cX0_init : ByteArray := prog_2_method_1_code
def yX0_init : MethodName := ⟨RX0, "<init>", "(LRiverCompact$Told;)V"⟩
abbrev cX0_begin : ByteArray := prog_2_method_2_code
def yX0_begin : MethodName := ⟨RX0, "begin", "(II)V"⟩
abbrev cX0_restart : ByteArray := prog_2_method_3_code
def yX0_restart : MethodName := ⟨RX0, "restart", "()V"⟩
abbrev cX0_workTo : ByteArray := prog_2_method_4_code
def yX0_workTo : MethodName := ⟨RX0, "workTo", "(I)V"⟩
abbrev cX0_setReleases : ByteArray := prog_2_method_5_code
def yX0_setReleases : MethodName := ⟨RX0, "setReleases", "(I)V"⟩
abbrev cX0_releaseBy : ByteArray := prog_2_method_6_code
def yX0_releaseBy : MethodName := ⟨RX0, "releaseBy", "(II)I"⟩
abbrev cX0_staysBelow : ByteArray := prog_2_method_7_code
def yX0_staysBelow : MethodName := ⟨RX0, "staysBelow", "(II)Z"⟩
abbrev cX0_sortHolds : ByteArray := prog_2_method_8_code
def yX0_sortHolds : MethodName := ⟨RX0, "sortHolds", "()V"⟩
abbrev cX0_passWater : ByteArray := prog_2_method_9_code
def yX0_passWater : MethodName := ⟨RX0, "passWater", "(I)V"⟩
abbrev cX0_readyMonth : ByteArray := prog_2_method_10_code
def yX0_readyMonth : MethodName := ⟨RX0, "readyMonth", "(I)V"⟩
abbrev cX0_textFor : ByteArray := prog_2_method_11_code
def yX0_textFor : MethodName := ⟨RX0, "textFor", "(I)LRiverCompact$Text;"⟩
abbrev cX0_settleWants : ByteArray := prog_2_method_12_code
def yX0_settleWants : MethodName := ⟨RX0, "settleWants", "(I)V"⟩
abbrev cX0_gather : ByteArray := prog_2_method_13_code
def yX0_gather : MethodName := ⟨RX0, "gather", "(II)V"⟩
abbrev cX0_passLake : ByteArray := prog_2_method_14_code
def yX0_passLake : MethodName := ⟨RX0, "passLake", "(II)V"⟩
abbrev cX0_serve : ByteArray := prog_2_method_15_code
def yX0_serve : MethodName := ⟨RX0, "serve", "(III)I"⟩
abbrev cX0_share : ByteArray := prog_2_method_16_code
def yX0_share : MethodName := ⟨RX0, "share", "(III)I"⟩
abbrev cX0_levelsAt : ByteArray := prog_2_method_17_code
def yX0_levelsAt : MethodName := ⟨RX0, "levelsAt", "(I)I"⟩
abbrev cX0_returnsOf : ByteArray := prog_2_method_18_code
def yX0_returnsOf : MethodName := ⟨RX0, "returnsOf", "(II)I"⟩
abbrev cX0_steamOf : ByteArray := prog_2_method_19_code
def yX0_steamOf : MethodName := ⟨RX0, "steamOf", "(II)I"⟩
abbrev cX0_headOf : ByteArray := prog_2_method_20_code
def yX0_headOf : MethodName := ⟨RX0, "headOf", "(II)I"⟩
abbrev cX0_powerOf : ByteArray := prog_2_method_21_code
def yX0_powerOf : MethodName := ⟨RX0, "powerOf", "(II)I"⟩
abbrev cX0_sharpOf : ByteArray := prog_2_method_22_code
def yX0_sharpOf : MethodName := ⟨RX0, "sharpOf", "(I)I"⟩
abbrev cX0_getsOf : ByteArray := prog_2_method_23_code
def yX0_getsOf : MethodName := ⟨RX0, "getsOf", "(III)J"⟩
abbrev cX0_owedOf : ByteArray := prog_2_method_24_code
def yX0_owedOf : MethodName := ⟨RX0, "owedOf", "(IIII)J"⟩
abbrev cX0_sumOf : ByteArray := prog_2_method_25_code
def yX0_sumOf : MethodName := ⟨RX0, "sumOf", "(I)J"⟩
abbrev cX0_partOf : ByteArray := prog_2_method_26_code
def yX0_partOf : MethodName := ⟨RX0, "partOf", "(III)I"⟩
def RX1 : String := "RiverCompact$Hold"
def TX1 : u_T := fun k => match k with
  | 0 => ("RiverCompact$Hold", "kind", "I", false)
  | 1 => ("RiverCompact$Hold", "state", "I", false)
  | 2 => ("RiverCompact$Hold", "reach", "I", false)
  | 3 => ("RiverCompact$Hold", "amount", "I", false)
  | 4 => ("RiverCompact$Hold", "since", "I", false)
  | 5 => ("RiverCompact$Hold", "from", "I", false)
  | _ => ("RiverCompact$Hold", "to", "I", false)
def tyX1 : Nat → FieldType := fun k => match k with
  | 0 => .int
  | 1 => .int
  | 2 => .int
  | 3 => .int
  | 4 => .int
  | 5 => .int
  | _ => .int
abbrev wsX10 : List Cond := u_ws RX1 TX1 7
theorem nmX1 : ∀ a, a < 7 → ∀ b, b < 7 → a ≠ b → (TX1 a).2.1 ≠ (TX1 b).2.1 := by decide +kernel
theorem tyX1_ok : ∀ k, k < 7 → parseFieldDescriptor (TX1 k).2.2.1 = some (tyX1 k) := by decide +kernel
abbrev cX1_init : ByteArray := prog_3_method_1_code
def yX1_init : MethodName := ⟨RX1, "<init>", "()V"⟩
abbrev cX1_become : ByteArray := prog_3_method_2_code
def yX1_become : MethodName := ⟨RX1, "become", "(IIIII)V"⟩
abbrev cX1_isInForce : ByteArray := prog_3_method_3_code
def yX1_isInForce : MethodName := ⟨RX1, "isInForce", "(I)Z"⟩
abbrev cX1_asks : ByteArray := prog_3_method_4_code
def yX1_asks : MethodName := ⟨RX1, "asks", "(II)I"⟩
abbrev cX1_rank : ByteArray := prog_3_method_5_code
def yX1_rank : MethodName := ⟨RX1, "rank", "()I"⟩
abbrev cX1_backHundredths : ByteArray := prog_3_method_6_code
def yX1_backHundredths : MethodName := ⟨RX1, "backHundredths", "()I"⟩
abbrev cX1_backOf : ByteArray := prog_3_method_7_code
def yX1_backOf : MethodName := ⟨RX1, "backOf", "(I)I"⟩
abbrev cX1_isOf : ByteArray := prog_3_method_8_code
def yX1_isOf : MethodName := ⟨RX1, "isOf", "(I)Z"⟩
def RX2 : String := "RiverCompact$HoldRows"
def TX2 : u_T := fun k => match k with
  | 0 => ("RiverCompact$HoldRows", "ready", "[I", true)
  | 1 => ("RiverCompact$HoldRows", "wants", "[I", true)
  | _ => ("RiverCompact$HoldRows", "gets", "[I", true)
def tyX2 : Nat → FieldType := fun k => match k with
  | 0 => .array .int
  | 1 => .array .int
  | _ => .array .int
abbrev wsX20 : List Cond := u_ws RX2 TX2 3
theorem nmX2 : ∀ a, a < 3 → ∀ b, b < 3 → a ≠ b → (TX2 a).2.1 ≠ (TX2 b).2.1 := by decide +kernel
theorem tyX2_ok : ∀ k, k < 3 → parseFieldDescriptor (TX2 k).2.2.1 = some (tyX2 k) := by decide +kernel
abbrev cX2_init : ByteArray := prog_4_method_1_code
def yX2_init : MethodName := ⟨RX2, "<init>", "()V"⟩
def RX3 : String := "RiverCompact$Lake"
def TX3 : u_T := fun k => match k with
  | 0 => ("RiverCompact$Lake", "there", "Z", false)
  | 1 => ("RiverCompact$Lake", "room", "I", false)
  | 2 => ("RiverCompact$Lake", "level", "I", false)
  | 3 => ("RiverCompact$Lake", "surface", "I", false)
  | _ => ("RiverCompact$Lake", "release", "I", false)
def tyX3 : Nat → FieldType := fun k => match k with
  | 0 => .boolean
  | 1 => .int
  | 2 => .int
  | 3 => .int
  | _ => .int
abbrev wsX30 : List Cond := u_ws RX3 TX3 5
theorem nmX3 : ∀ a, a < 5 → ∀ b, b < 5 → a ≠ b → (TX3 a).2.1 ≠ (TX3 b).2.1 := by decide +kernel
theorem tyX3_ok : ∀ k, k < 5 → parseFieldDescriptor (TX3 k).2.2.1 = some (tyX3 k) := by decide +kernel
abbrev cX3_init : ByteArray := prog_5_method_1_code
def yX3_init : MethodName := ⟨RX3, "<init>", "()V"⟩
def RX4 : String := "RiverCompact$ReachRows"
def TX4 : u_T := fun k => match k with
  | 0 => ("RiverCompact$ReachRows", "comes", "[I", true)
  | 1 => ("RiverCompact$ReachRows", "comesSalt", "[I", true)
  | 2 => ("RiverCompact$ReachRows", "water", "[I", true)
  | 3 => ("RiverCompact$ReachRows", "on", "[I", true)
  | 4 => ("RiverCompact$ReachRows", "onSalt", "[I", true)
  | 5 => ("RiverCompact$ReachRows", "back", "[I", true)
  | 6 => ("RiverCompact$ReachRows", "backSalt", "[I", true)
  | 7 => ("RiverCompact$ReachRows", "level", "[I", true)
  | _ => ("RiverCompact$ReachRows", "levelSalt", "[I", true)
def tyX4 : Nat → FieldType := fun k => match k with
  | 0 => .array .int
  | 1 => .array .int
  | 2 => .array .int
  | 3 => .array .int
  | 4 => .array .int
  | 5 => .array .int
  | 6 => .array .int
  | 7 => .array .int
  | _ => .array .int
abbrev wsX40 : List Cond := u_ws RX4 TX4 9
theorem nmX4 : ∀ a, a < 9 → ∀ b, b < 9 → a ≠ b → (TX4 a).2.1 ≠ (TX4 b).2.1 := by decide +kernel
theorem tyX4_ok : ∀ k, k < 9 → parseFieldDescriptor (TX4 k).2.2.1 = some (tyX4 k) := by decide +kernel
abbrev cX4_init : ByteArray := prog_6_method_1_code
def yX4_init : MethodName := ⟨RX4, "<init>", "()V"⟩
def RX5 : String := "RiverCompact$Reader"
def TX5 : u_T := fun k => match k with
  | 0 => ("RiverCompact$Reader", "tape", "[B", true)
  | 1 => ("RiverCompact$Reader", "size", "I", false)
  | 2 => ("RiverCompact$Reader", "fault", "I", false)
  | 3 => ("RiverCompact$Reader", "tokens", "[I", true)
  | 4 => ("RiverCompact$Reader", "places", "[I", true)
  | 5 => ("RiverCompact$Reader", "next", "I", false)
  | 6 => ("RiverCompact$Reader", "open", "I", false)
  | 7 => ("RiverCompact$Reader", "steps", "[I", true)
  | 8 => ("RiverCompact$Reader", "used", "I", false)
  | 9 => ("RiverCompact$Reader", "mayEnd", "I", false)
  | _ => ("RiverCompact$Reader", "usesLevel", "Z", false)
def tyX5 : Nat → FieldType := fun k => match k with
  | 0 => .array .byte
  | 1 => .int
  | 2 => .int
  | 3 => .array .int
  | 4 => .array .int
  | 5 => .int
  | 6 => .int
  | 7 => .array .int
  | 8 => .int
  | 9 => .int
  | _ => .boolean
abbrev wsX50 : List Cond := u_ws RX5 TX5 11
theorem nmX5 : ∀ a, a < 11 → ∀ b, b < 11 → a ≠ b → (TX5 a).2.1 ≠ (TX5 b).2.1 := by decide +kernel
theorem tyX5_ok : ∀ k, k < 11 → parseFieldDescriptor (TX5 k).2.2.1 = some (tyX5 k) := by decide +kernel
abbrev cX5_init : ByteArray := prog_7_method_1_code
def yX5_init : MethodName := ⟨RX5, "<init>", "()V"⟩
abbrev cX5_parse : ByteArray := prog_7_method_2_code
def yX5_parse : MethodName := ⟨RX5, "parse", "()V"⟩
abbrev cX5_handOver : ByteArray := prog_7_method_3_code
def yX5_handOver : MethodName := ⟨RX5, "handOver", "(LRiverCompact$Text;)V"⟩
abbrev cX5_findTokens : ByteArray := prog_7_method_4_code
def yX5_findTokens : MethodName := ⟨RX5, "findTokens", "()V"⟩
abbrev cX5_lengthAt : ByteArray := prog_7_method_5_code
def yX5_lengthAt : MethodName := ⟨RX5, "lengthAt", "(I)I"⟩
abbrev cX5_tokenAt : ByteArray := prog_7_method_6_code
def yX5_tokenAt : MethodName := ⟨RX5, "tokenAt", "(II)I"⟩
abbrev cX5_wordAt : ByteArray := prog_7_method_7_code
def yX5_wordAt : MethodName := ⟨RX5, "wordAt", "(II)I"⟩
abbrev cX5_isWord : ByteArray := prog_7_method_8_code
def yX5_isWord : MethodName := ⟨RX5, "isWord", "(Ljava/lang/String;II)Z"⟩
abbrev cX5_numberAt : ByteArray := prog_7_method_9_code
def yX5_numberAt : MethodName := ⟨RX5, "numberAt", "(II)I"⟩
abbrev cX5_isLetter : ByteArray := prog_7_method_10_code
def yX5_isLetter : MethodName := ⟨RX5, "isLetter", "(I)Z"⟩
abbrev cX5_isDigit : ByteArray := prog_7_method_11_code
def yX5_isDigit : MethodName := ⟨RX5, "isDigit", "(I)Z"⟩
abbrev cX5_peek : ByteArray := prog_7_method_12_code
def yX5_peek : MethodName := ⟨RX5, "peek", "()I"⟩
abbrev cX5_accept : ByteArray := prog_7_method_13_code
def yX5_accept : MethodName := ⟨RX5, "accept", "(I)Z"⟩
abbrev cX5_expect : ByteArray := prog_7_method_14_code
def yX5_expect : MethodName := ⟨RX5, "expect", "(I)V"⟩
abbrev cX5_fail : ByteArray := prog_7_method_15_code
def yX5_fail : MethodName := ⟨RX5, "fail", "()V"⟩
abbrev cX5_write : ByteArray := prog_7_method_16_code
def yX5_write : MethodName := ⟨RX5, "write", "(I)V"⟩
abbrev cX5_enter : ByteArray := prog_7_method_17_code
def yX5_enter : MethodName := ⟨RX5, "enter", "(I)Z"⟩
abbrev cX5_parseOr : ByteArray := prog_7_method_18_code
def yX5_parseOr : MethodName := ⟨RX5, "parseOr", "()V"⟩
abbrev cX5_parseAnd : ByteArray := prog_7_method_19_code
def yX5_parseAnd : MethodName := ⟨RX5, "parseAnd", "()V"⟩
abbrev cX5_parseNot : ByteArray := prog_7_method_20_code
def yX5_parseNot : MethodName := ⟨RX5, "parseNot", "()V"⟩
abbrev cX5_parseSum : ByteArray := prog_7_method_21_code
def yX5_parseSum : MethodName := ⟨RX5, "parseSum", "()V"⟩
abbrev cX5_parseTerm : ByteArray := prog_7_method_22_code
def yX5_parseTerm : MethodName := ⟨RX5, "parseTerm", "()V"⟩
abbrev cX5_parseOne : ByteArray := prog_7_method_23_code
def yX5_parseOne : MethodName := ⟨RX5, "parseOne", "()V"⟩
def RX6 : String := "RiverCompact$Sheet"
def TX6 : u_T := fun k => match k with
  | 0 => ("RiverCompact$Sheet", "cells", "[I", true)
  | 1 => ("RiverCompact$Sheet", "sort", "I", false)
  | _ => ("RiverCompact$Sheet", "size", "I", false)
def tyX6 : Nat → FieldType := fun k => match k with
  | 0 => .array .int
  | 1 => .int
  | _ => .int
abbrev wsX60 : List Cond := u_ws RX6 TX6 3
theorem nmX6 : ∀ a, a < 3 → ∀ b, b < 3 → a ≠ b → (TX6 a).2.1 ≠ (TX6 b).2.1 := by decide +kernel
theorem tyX6_ok : ∀ k, k < 3 → parseFieldDescriptor (TX6 k).2.2.1 = some (tyX6 k) := by decide +kernel
abbrev cX6_init : ByteArray := prog_8_method_1_code
def yX6_init : MethodName := ⟨RX6, "<init>", "()V"⟩
abbrev cX6_become : ByteArray := prog_8_method_2_code
def yX6_become : MethodName := ⟨RX6, "become", "(II)V"⟩
abbrev cX6_has : ByteArray := prog_8_method_3_code
def yX6_has : MethodName := ⟨RX6, "has", "(I)Z"⟩
abbrev cX6_hasRun : ByteArray := prog_8_method_4_code
def yX6_hasRun : MethodName := ⟨RX6, "hasRun", "(II)Z"⟩
abbrev cX6_put : ByteArray := prog_8_method_5_code
def yX6_put : MethodName := ⟨RX6, "put", "(II)V"⟩
def RX7 : String := "RiverCompact$Text"
def TX7 : u_T := fun k => match k with
  | 0 => ("RiverCompact$Text", "steps", "[I", true)
  | 1 => ("RiverCompact$Text", "mayEnd", "I", false)
  | 2 => ("RiverCompact$Text", "cutEnd", "I", false)
  | _ => ("RiverCompact$Text", "usesLevel", "Z", false)
def tyX7 : Nat → FieldType := fun k => match k with
  | 0 => .array .int
  | 1 => .int
  | 2 => .int
  | _ => .boolean
abbrev wsX70 : List Cond := u_ws RX7 TX7 4
theorem nmX7 : ∀ a, a < 4 → ∀ b, b < 4 → a ≠ b → (TX7 a).2.1 ≠ (TX7 b).2.1 := by decide +kernel
theorem tyX7_ok : ∀ k, k < 4 → parseFieldDescriptor (TX7 k).2.2.1 = some (tyX7 k) := by decide +kernel
abbrev cX7_init : ByteArray := prog_9_method_1_code
def yX7_init : MethodName := ⟨RX7, "<init>", "()V"⟩
abbrev cX7_worth : ByteArray := prog_9_method_2_code
def yX7_worth : MethodName := ⟨RX7, "worth", "(I[I[I)I"⟩
abbrev cX7_joined : ByteArray := prog_9_method_3_code
def yX7_joined : MethodName := ⟨RX7, "joined", "(III)I"⟩
def RX8 : String := "RiverCompact$Told"
def TX8 : u_T := fun k => match k with
  | 0 => ("RiverCompact$Told", "sides", "[I", true)
  | 1 => ("RiverCompact$Told", "rates", "[I", true)
  | 2 => ("RiverCompact$Told", "floodSums", "[I", true)
  | 3 => ("RiverCompact$Told", "floodCount", "I", false)
  | 4 => ("RiverCompact$Told", "readings", "[I", true)
  | 5 => ("RiverCompact$Told", "gaugeCount", "I", false)
  | 6 => ("RiverCompact$Told", "lakes", "[LRiverCompact$Lake;", true)
  | 7 => ("RiverCompact$Told", "holds", "[LRiverCompact$Hold;", true)
  | 8 => ("RiverCompact$Told", "holdCount", "I", false)
  | 9 => ("RiverCompact$Told", "callers", "[I", true)
  | 10 => ("RiverCompact$Told", "callMonths", "[I", true)
  | 11 => ("RiverCompact$Told", "callCount", "I", false)
  | 12 => ("RiverCompact$Told", "texts", "[LRiverCompact$Text;", true)
  | 13 => ("RiverCompact$Told", "textCount", "I", false)
  | 14 => ("RiverCompact$Told", "textOf", "[I", true)
  | 15 => ("RiverCompact$Told", "names", "[I", true)
  | _ => ("RiverCompact$Told", "stack", "[I", true)
def tyX8 : Nat → FieldType := fun k => match k with
  | 0 => .array .int
  | 1 => .array .int
  | 2 => .array .int
  | 3 => .int
  | 4 => .array .int
  | 5 => .int
  | 6 => .array (.object "RiverCompact$Lake")
  | 7 => .array (.object "RiverCompact$Hold")
  | 8 => .int
  | 9 => .array .int
  | 10 => .array .int
  | 11 => .int
  | 12 => .array (.object "RiverCompact$Text")
  | 13 => .int
  | 14 => .array .int
  | 15 => .array .int
  | _ => .array .int
abbrev wsX80 : List Cond := u_ws RX8 TX8 17
theorem nmX8 : ∀ a, a < 17 → ∀ b, b < 17 → a ≠ b → (TX8 a).2.1 ≠ (TX8 b).2.1 := by decide +kernel
theorem tyX8_ok : ∀ k, k < 17 → parseFieldDescriptor (TX8 k).2.2.1 = some (tyX8 k) := by decide +kernel
abbrev cX8_init : ByteArray := prog_10_method_1_code
def yX8_init : MethodName := ⟨RX8, "<init>", "()V"⟩
abbrev cX8_sideOf : ByteArray := prog_10_method_2_code
def yX8_sideOf : MethodName := ⟨RX8, "sideOf", "(II)I"⟩
abbrev cX8_readOf : ByteArray := prog_10_method_3_code
def yX8_readOf : MethodName := ⟨RX8, "readOf", "(II)I"⟩
abbrev cX8_lakeCount : ByteArray := prog_10_method_4_code
def yX8_lakeCount : MethodName := ⟨RX8, "lakeCount", "()I"⟩
abbrev cX8_shutIn : ByteArray := prog_10_method_5_code
def yX8_shutIn : MethodName := ⟨RX8, "shutIn", "(II)I"⟩
abbrev cX8_shutBy : ByteArray := prog_10_method_6_code
def yX8_shutBy : MethodName := ⟨RX8, "shutBy", "(LRiverCompact$Hold;)I"⟩
abbrev cX8_isAhead : ByteArray := prog_10_method_7_code
def yX8_isAhead : MethodName := ⟨RX8, "isAhead", "(II)Z"⟩
abbrev cX8_setNames : ByteArray := prog_10_method_8_code
def yX8_setNames : MethodName := ⟨RX8, "setNames", "(III)V"⟩
abbrev cX8_wantsBy : ByteArray := prog_10_method_9_code
def yX8_wantsBy : MethodName := ⟨RX8, "wantsBy", "(LRiverCompact$Text;III)I"⟩
def RX9 : String := "RiverCompact"
def TX9 : u_T := fun k => match k with
  | 0 => ("RiverCompact", "told", "LRiverCompact$Told;", true)
  | 1 => ("RiverCompact", "base", "LRiverCompact$Flow;", true)
  | 2 => ("RiverCompact", "trial", "LRiverCompact$Flow;", true)
  | 3 => ("RiverCompact", "reader", "LRiverCompact$Reader;", true)
  | _ => ("RiverCompact", "sheets", "[LRiverCompact$Sheet;", true)
def tyX9 : Nat → FieldType := fun k => match k with
  | 0 => .object "RiverCompact$Told"
  | 1 => .object "RiverCompact$Flow"
  | 2 => .object "RiverCompact$Flow"
  | 3 => .object "RiverCompact$Reader"
  | _ => .array (.object "RiverCompact$Sheet")
abbrev wsX90 : List Cond := u_ws RX9 TX9 5
theorem nmX9 : ∀ a, a < 5 → ∀ b, b < 5 → a ≠ b → (TX9 a).2.1 ≠ (TX9 b).2.1 := by decide +kernel
theorem tyX9_ok : ∀ k, k < 5 → parseFieldDescriptor (TX9 k).2.2.1 = some (tyX9 k) := by decide +kernel
abbrev cX9_init : ByteArray := prog_1_method_1_code
def yX9_init : MethodName := ⟨RX9, "<init>", "()V"⟩
abbrev cX9_side : ByteArray := prog_1_method_2_code
def yX9_side : MethodName := ⟨RX9, "side", "(III)I"⟩
abbrev cX9_salt : ByteArray := prog_1_method_3_code
def yX9_salt : MethodName := ⟨RX9, "salt", "(II)I"⟩
abbrev cX9_flood : ByteArray := prog_1_method_4_code
def yX9_flood : MethodName := ⟨RX9, "flood", "(III)I"⟩
abbrev cX9_gauge : ByteArray := prog_1_method_5_code
def yX9_gauge : MethodName := ⟨RX9, "gauge", "(III)I"⟩
abbrev cX9_read : ByteArray := prog_1_method_6_code
def yX9_read : MethodName := ⟨RX9, "read", "(II)I"⟩
abbrev cX9_lake : ByteArray := prog_1_method_7_code
def yX9_lake : MethodName := ⟨RX9, "lake", "(IIIII)I"⟩
abbrev cX9_release : ByteArray := prog_1_method_8_code
def yX9_release : MethodName := ⟨RX9, "release", "(II)I"⟩
abbrev cX9_hold : ByteArray := prog_1_method_9_code
def yX9_hold : MethodName := ⟨RX9, "hold", "(IIIII)I"⟩
abbrev cX9_force : ByteArray := prog_1_method_10_code
def yX9_force : MethodName := ⟨RX9, "force", "(III)I"⟩
abbrev cX9_holdTold : ByteArray := prog_1_method_11_code
def yX9_holdTold : MethodName := ⟨RX9, "holdTold", "(II)I"⟩
abbrev cX9_takes : ByteArray := prog_1_method_12_code
def yX9_takes : MethodName := ⟨RX9, "takes", "(III)I"⟩
abbrev cX9_all : ByteArray := prog_1_method_13_code
def yX9_all : MethodName := ⟨RX9, "all", "(III)J"⟩
abbrev cX9_call : ByteArray := prog_1_method_14_code
def yX9_call : MethodName := ⟨RX9, "call", "(II)I"⟩
abbrev cX9_helps : ByteArray := prog_1_method_15_code
def yX9_helps : MethodName := ⟨RX9, "helps", "(I)I"⟩
abbrev cX9_feed : ByteArray := prog_1_method_16_code
def yX9_feed : MethodName := ⟨RX9, "feed", "(IJ)I"⟩
abbrev cX9_text : ByteArray := prog_1_method_17_code
def yX9_text : MethodName := ⟨RX9, "text", "()I"⟩
abbrev cX9_rule : ByteArray := prog_1_method_18_code
def yX9_rule : MethodName := ⟨RX9, "rule", "(II)I"⟩
abbrev cX9_says : ByteArray := prog_1_method_19_code
def yX9_says : MethodName := ⟨RX9, "says", "(III)J"⟩
abbrev cX9_told : ByteArray := prog_1_method_20_code
def yX9_told : MethodName := ⟨RX9, "told", "(III)I"⟩
abbrev cX9_lakeTold : ByteArray := prog_1_method_21_code
def yX9_lakeTold : MethodName := ⟨RX9, "lakeTold", "(III)I"⟩
abbrev cX9_sharp : ByteArray := prog_1_method_22_code
def yX9_sharp : MethodName := ⟨RX9, "sharp", "(I)I"⟩
abbrev cX9_sum : ByteArray := prog_1_method_23_code
def yX9_sum : MethodName := ⟨RX9, "sum", "(I)J"⟩
abbrev cX9_owed : ByteArray := prog_1_method_24_code
def yX9_owed : MethodName := ⟨RX9, "owed", "(IIII)J"⟩
abbrev cX9_breaks : ByteArray := prog_1_method_25_code
def yX9_breaks : MethodName := ⟨RX9, "breaks", "(III)I"⟩
abbrev cX9_found : ByteArray := prog_1_method_26_code
def yX9_found : MethodName := ⟨RX9, "found", "(IIII)I"⟩
abbrev cX9_sold : ByteArray := prog_1_method_27_code
def yX9_sold : MethodName := ⟨RX9, "sold", "(II)I"⟩
abbrev cX9_harm : ByteArray := prog_1_method_28_code
def yX9_harm : MethodName := ⟨RX9, "harm", "(II)J"⟩
abbrev cX9_unlike : ByteArray := prog_1_method_29_code
def yX9_unlike : MethodName := ⟨RX9, "unlike", "(IIII)J"⟩
abbrev cX9_held : ByteArray := prog_1_method_30_code
def yX9_held : MethodName := ⟨RX9, "held", "(II)J"⟩
abbrev cX9_dry : ByteArray := prog_1_method_31_code
def yX9_dry : MethodName := ⟨RX9, "dry", "(II)I"⟩
abbrev cX9_count : ByteArray := prog_1_method_32_code
def yX9_count : MethodName := ⟨RX9, "count", "(I)I"⟩
abbrev cX9_sheet : ByteArray := prog_1_method_33_code
def yX9_sheet : MethodName := ⟨RX9, "sheet", "(III)I"⟩
abbrev cX9_cell : ByteArray := prog_1_method_34_code
def yX9_cell : MethodName := ⟨RX9, "cell", "(III)I"⟩
abbrev cX9_copy : ByteArray := prog_1_method_35_code
def yX9_copy : MethodName := ⟨RX9, "copy", "(IIIII)I"⟩
abbrev cX9_gauges : ByteArray := prog_1_method_36_code
def yX9_gauges : MethodName := ⟨RX9, "gauges", "(IIIIII)I"⟩
abbrev cX9_taken : ByteArray := prog_1_method_37_code
def yX9_taken : MethodName := ⟨RX9, "taken", "(II)I"⟩
abbrev cX9_within : ByteArray := prog_1_method_38_code
def yX9_within : MethodName := ⟨RX9, "within", "(III)Z"⟩
abbrev cX9_isReach : ByteArray := prog_1_method_39_code
def yX9_isReach : MethodName := ⟨RX9, "isReach", "(I)Z"⟩
abbrev cX9_isMonth : ByteArray := prog_1_method_40_code
def yX9_isMonth : MethodName := ⟨RX9, "isMonth", "(I)Z"⟩
abbrev cX9_isSpan : ByteArray := prog_1_method_41_code
def yX9_isSpan : MethodName := ⟨RX9, "isSpan", "(II)Z"⟩
abbrev cX9_isState : ByteArray := prog_1_method_42_code
def yX9_isState : MethodName := ⟨RX9, "isState", "(I)Z"⟩
abbrev cX9_isPromise : ByteArray := prog_1_method_43_code
def yX9_isPromise : MethodName := ⟨RX9, "isPromise", "(II)Z"⟩
abbrev cX9_isSheet : ByteArray := prog_1_method_44_code
def yX9_isSheet : MethodName := ⟨RX9, "isSheet", "(I)Z"⟩
abbrev cX9_isHoldAsTold : ByteArray := prog_1_method_45_code
def yX9_isHoldAsTold : MethodName := ⟨RX9, "isHoldAsTold", "(IIIII)Z"⟩
abbrev cX9_isHold : ByteArray := prog_1_method_46_code
def yX9_isHold : MethodName := ⟨RX9, "isHold", "(I)Z"⟩
abbrev cX9_isText : ByteArray := prog_1_method_47_code
def yX9_isText : MethodName := ⟨RX9, "isText", "(I)Z"⟩
abbrev cX9_isSetToLeaveDry : ByteArray := prog_1_method_48_code
def yX9_isSetToLeaveDry : MethodName := ⟨RX9, "isSetToLeaveDry", "(I)Z"⟩
abbrev cX9_trySale : ByteArray := prog_1_method_49_code
def yX9_trySale : MethodName := ⟨RX9, "trySale", "(II)V"⟩
abbrev cX9_whoGetsLess : ByteArray := prog_1_method_50_code
def yX9_whoGetsLess : MethodName := ⟨RX9, "whoGetsLess", "()I"⟩
abbrev cX9_stateGets : ByteArray := prog_1_method_51_code
def yX9_stateGets : MethodName := ⟨RX9, "stateGets", "(III)J"⟩
abbrev cX9_setGets : ByteArray := prog_1_method_52_code
def yX9_setGets : MethodName := ⟨RX9, "setGets", "(I)J"⟩
def RX10 : String := "RiverCompactModel"
def TX10 : u_T := fun k => match k with
  | 0 => ("RiverCompactModel", "side", "[I", true)
  | 1 => ("RiverCompactModel", "rate", "[I", true)
  | 2 => ("RiverCompactModel", "floods", "I", false)
  | 3 => ("RiverCompactModel", "gauges", "I", false)
  | 4 => ("RiverCompactModel", "holds", "I", false)
  | 5 => ("RiverCompactModel", "calls", "I", false)
  | 6 => ("RiverCompactModel", "texts", "I", false)
  | 7 => ("RiverCompactModel", "tapeN", "I", false)
  | 8 => ("RiverCompactModel", "floodReach", "[I", true)
  | 9 => ("RiverCompactModel", "floodMonth", "[I", true)
  | 10 => ("RiverCompactModel", "floodBy", "[I", true)
  | 11 => ("RiverCompactModel", "gaugeReach", "[I", true)
  | 12 => ("RiverCompactModel", "gaugeMonth", "[I", true)
  | 13 => ("RiverCompactModel", "gaugeBy", "[I", true)
  | 14 => ("RiverCompactModel", "hasLake", "[Z", true)
  | 15 => ("RiverCompactModel", "room", "[I", true)
  | 16 => ("RiverCompactModel", "first", "[I", true)
  | 17 => ("RiverCompactModel", "surface", "[I", true)
  | 18 => ("RiverCompactModel", "release", "[I", true)
  | 19 => ("RiverCompactModel", "kind", "[I", true)
  | 20 => ("RiverCompactModel", "state", "[I", true)
  | 21 => ("RiverCompactModel", "reach", "[I", true)
  | 22 => ("RiverCompactModel", "many", "[I", true)
  | 23 => ("RiverCompactModel", "since", "[I", true)
  | 24 => ("RiverCompactModel", "from", "[I", true)
  | 25 => ("RiverCompactModel", "to", "[I", true)
  | 26 => ("RiverCompactModel", "callHold", "[I", true)
  | 27 => ("RiverCompactModel", "callMonth", "[I", true)
  | 28 => ("RiverCompactModel", "tape", "[I", true)
  | 29 => ("RiverCompactModel", "rules", "[I", true)
  | 30 => ("RiverCompactModel", "steps", "[I", true)
  | 31 => ("RiverCompactModel", "stepsN", "[I", true)
  | 32 => ("RiverCompactModel", "cutAt", "[I", true)
  | 33 => ("RiverCompactModel", "held", "[I", true)
  | 34 => ("RiverCompactModel", "size", "[I", true)
  | 35 => ("RiverCompactModel", "cells", "[I", true)
  | 36 => ("RiverCompactModel", "carried", "[I", true)
  | 37 => ("RiverCompactModel", "sides", "[I", true)
  | 38 => ("RiverCompactModel", "returns", "[I", true)
  | 39 => ("RiverCompactModel", "comes", "[I", true)
  | 40 => ("RiverCompactModel", "water", "[I", true)
  | 41 => ("RiverCompactModel", "on", "[I", true)
  | 42 => ("RiverCompactModel", "saltComes", "[J", true)
  | 43 => ("RiverCompactModel", "saltOn", "[J", true)
  | 44 => ("RiverCompactModel", "lakeSalt", "[J", true)
  | 45 => ("RiverCompactModel", "power", "[J", true)
  | 46 => ("RiverCompactModel", "level", "[I", true)
  | 47 => ("RiverCompactModel", "steam", "[I", true)
  | 48 => ("RiverCompactModel", "out", "[I", true)
  | 49 => ("RiverCompactModel", "head", "[I", true)
  | 50 => ("RiverCompactModel", "wants", "[I", true)
  | 51 => ("RiverCompactModel", "gets", "[I", true)
  | 52 => ("RiverCompactModel", "back", "[I", true)
  | 53 => ("RiverCompactModel", "backSalt", "[J", true)
  | 54 => ("RiverCompactModel", "left", "I", false)
  | 55 => ("RiverCompactModel", "at", "I", false)
  | 56 => ("RiverCompactModel", "token", "I", false)
  | 57 => ("RiverCompactModel", "tokenAt", "I", false)
  | 58 => ("RiverCompactModel", "opsN", "I", false)
  | 59 => ("RiverCompactModel", "codeN", "I", false)
  | 60 => ("RiverCompactModel", "deep", "I", false)
  | 61 => ("RiverCompactModel", "ops", "[I", true)
  | 62 => ("RiverCompactModel", "cmp", "[I", true)
  | 63 => ("RiverCompactModel", "code", "[I", true)
  | 64 => ("RiverCompactModel", "mayN", "I", false)
  | 65 => ("RiverCompactModel", "stack", "[I", true)
  | 66 => ("RiverCompactModel", "dry", "I", false)
  | 67 => ("RiverCompactModel", "order", "[I", true)
  | 68 => ("RiverCompactModel", "reads", "[I", true)
  | 69 => ("RiverCompactModel", "before", "[J", true)
  | 70 => ("RiverCompactModel", "kept", "[I", true)
  | 71 => ("RiverCompactModel", "lakes", "[I", true)
  | _ => ("RiverCompactModel", "as", "[I", true)
def tyX10 : Nat → FieldType := fun k => match k with
  | 0 => .array .int
  | 1 => .array .int
  | 2 => .int
  | 3 => .int
  | 4 => .int
  | 5 => .int
  | 6 => .int
  | 7 => .int
  | 8 => .array .int
  | 9 => .array .int
  | 10 => .array .int
  | 11 => .array .int
  | 12 => .array .int
  | 13 => .array .int
  | 14 => .array .boolean
  | 15 => .array .int
  | 16 => .array .int
  | 17 => .array .int
  | 18 => .array .int
  | 19 => .array .int
  | 20 => .array .int
  | 21 => .array .int
  | 22 => .array .int
  | 23 => .array .int
  | 24 => .array .int
  | 25 => .array .int
  | 26 => .array .int
  | 27 => .array .int
  | 28 => .array .int
  | 29 => .array .int
  | 30 => .array .int
  | 31 => .array .int
  | 32 => .array .int
  | 33 => .array .int
  | 34 => .array .int
  | 35 => .array .int
  | 36 => .array .int
  | 37 => .array .int
  | 38 => .array .int
  | 39 => .array .int
  | 40 => .array .int
  | 41 => .array .int
  | 42 => .array .long
  | 43 => .array .long
  | 44 => .array .long
  | 45 => .array .long
  | 46 => .array .int
  | 47 => .array .int
  | 48 => .array .int
  | 49 => .array .int
  | 50 => .array .int
  | 51 => .array .int
  | 52 => .array .int
  | 53 => .array .long
  | 54 => .int
  | 55 => .int
  | 56 => .int
  | 57 => .int
  | 58 => .int
  | 59 => .int
  | 60 => .int
  | 61 => .array .int
  | 62 => .array .int
  | 63 => .array .int
  | 64 => .int
  | 65 => .array .int
  | 66 => .int
  | 67 => .array .int
  | 68 => .array .int
  | 69 => .array .long
  | 70 => .array .int
  | 71 => .array .int
  | _ => .array .int
abbrev wsX100 : List Cond := u_ws RX10 TX10 73
theorem nmX10 : ∀ a, a < 73 → ∀ b, b < 73 → a ≠ b → (TX10 a).2.1 ≠ (TX10 b).2.1 := by decide +kernel
theorem tyX10_ok : ∀ k, k < 73 → parseFieldDescriptor (TX10 k).2.2.1 = some (tyX10 k) := by decide +kernel
abbrev cX10_init : ByteArray := prog_12_method_1_code
def yX10_init : MethodName := ⟨RX10, "<init>", "()V"⟩
abbrev cX10_isReach : ByteArray := prog_12_method_2_code
def yX10_isReach : MethodName := ⟨RX10, "isReach", "(I)Z"⟩
abbrev cX10_isMonth : ByteArray := prog_12_method_3_code
def yX10_isMonth : MethodName := ⟨RX10, "isMonth", "(I)Z"⟩
abbrev cX10_isHold : ByteArray := prog_12_method_4_code
def yX10_isHold : MethodName := ⟨RX10, "isHold", "(I)Z"⟩
abbrev cX10_side : ByteArray := prog_12_method_5_code
def yX10_side : MethodName := ⟨RX10, "side", "(III)I"⟩
abbrev cX10_salt : ByteArray := prog_12_method_6_code
def yX10_salt : MethodName := ⟨RX10, "salt", "(II)I"⟩
abbrev cX10_flood : ByteArray := prog_12_method_7_code
def yX10_flood : MethodName := ⟨RX10, "flood", "(III)I"⟩
abbrev cX10_gauge : ByteArray := prog_12_method_8_code
def yX10_gauge : MethodName := ⟨RX10, "gauge", "(III)I"⟩
abbrev cX10_readOf : ByteArray := prog_12_method_9_code
def yX10_readOf : MethodName := ⟨RX10, "readOf", "(II)I"⟩
abbrev cX10_read : ByteArray := prog_12_method_10_code
def yX10_read : MethodName := ⟨RX10, "read", "(II)I"⟩
abbrev cX10_lake : ByteArray := prog_12_method_11_code
def yX10_lake : MethodName := ⟨RX10, "lake", "(IIIII)I"⟩
abbrev cX10_release : ByteArray := prog_12_method_12_code
def yX10_release : MethodName := ⟨RX10, "release", "(II)I"⟩
abbrev cX10_isHold_ : ByteArray := prog_12_method_13_code
def yX10_isHold_ : MethodName := ⟨RX10, "isHold", "(IIIII)Z"⟩
abbrev cX10_puts : ByteArray := prog_12_method_14_code
def yX10_puts : MethodName := ⟨RX10, "puts", "(IIIIII)V"⟩
abbrev cX10_hold : ByteArray := prog_12_method_15_code
def yX10_hold : MethodName := ⟨RX10, "hold", "(IIIII)I"⟩
abbrev cX10_isSpan : ByteArray := prog_12_method_16_code
def yX10_isSpan : MethodName := ⟨RX10, "isSpan", "(II)Z"⟩
abbrev cX10_force : ByteArray := prog_12_method_17_code
def yX10_force : MethodName := ⟨RX10, "force", "(III)I"⟩
abbrev cX10_rank : ByteArray := prog_12_method_18_code
def yX10_rank : MethodName := ⟨RX10, "rank", "(I)I"⟩
abbrev cX10_hundredths : ByteArray := prog_12_method_19_code
def yX10_hundredths : MethodName := ⟨RX10, "hundredths", "(I)I"⟩
abbrev cX10_holdTold : ByteArray := prog_12_method_20_code
def yX10_holdTold : MethodName := ⟨RX10, "holdTold", "(II)I"⟩
abbrev cX10_asks : ByteArray := prog_12_method_21_code
def yX10_asks : MethodName := ⟨RX10, "asks", "(II)I"⟩
abbrev cX10_call : ByteArray := prog_12_method_22_code
def yX10_call : MethodName := ⟨RX10, "call", "(II)I"⟩
abbrev cX10_isShut : ByteArray := prog_12_method_23_code
def yX10_isShut : MethodName := ⟨RX10, "isShut", "(II)Z"⟩
abbrev cX10_isWord : ByteArray := prog_12_method_24_code
def yX10_isWord : MethodName := ⟨RX10, "isWord", "(IILjava/lang/String;)Z"⟩
abbrev cX10_wordAt : ByteArray := prog_12_method_25_code
def yX10_wordAt : MethodName := ⟨RX10, "wordAt", "(II)I"⟩
abbrev cX10_signOf : ByteArray := prog_12_method_26_code
def yX10_signOf : MethodName := ⟨RX10, "signOf", "(I)I"⟩
abbrev cX10_next : ByteArray := prog_12_method_27_code
def yX10_next : MethodName := ⟨RX10, "next", "()V"⟩
abbrev cX10_strength : ByteArray := prog_12_method_28_code
def yX10_strength : MethodName := ⟨RX10, "strength", "(I)I"⟩
abbrev cX10_pops : ByteArray := prog_12_method_29_code
def yX10_pops : MethodName := ⟨RX10, "pops", "(I)V"⟩
abbrev cX10_opens : ByteArray := prog_12_method_30_code
def yX10_opens : MethodName := ⟨RX10, "opens", "(I)Z"⟩
abbrev cX10_isExpression : ByteArray := prog_12_method_31_code
def yX10_isExpression : MethodName := ⟨RX10, "isExpression", "()Z"⟩
abbrev cX10_feed : ByteArray := prog_12_method_32_code
def yX10_feed : MethodName := ⟨RX10, "feed", "(IJ)I"⟩
abbrev cX10_isText : ByteArray := prog_12_method_33_code
def yX10_isText : MethodName := ⟨RX10, "isText", "()Z"⟩
abbrev cX10_text : ByteArray := prog_12_method_34_code
def yX10_text : MethodName := ⟨RX10, "text", "()I"⟩
abbrev cX10_rule : ByteArray := prog_12_method_35_code
def yX10_rule : MethodName := ⟨RX10, "rule", "(II)I"⟩
abbrev cX10_levels : ByteArray := prog_12_method_36_code
def yX10_levels : MethodName := ⟨RX10, "levels", "(I)I"⟩
abbrev cX10_valueOf : ByteArray := prog_12_method_37_code
def yX10_valueOf : MethodName := ⟨RX10, "valueOf", "(III)I"⟩
abbrev cX10_says : ByteArray := prog_12_method_38_code
def yX10_says : MethodName := ⟨RX10, "says", "(IIIZ)I"⟩
abbrev cX10_wantsOf : ByteArray := prog_12_method_39_code
def yX10_wantsOf : MethodName := ⟨RX10, "wantsOf", "(II)I"⟩
abbrev cX10_sideOf : ByteArray := prog_12_method_40_code
def yX10_sideOf : MethodName := ⟨RX10, "sideOf", "(II)I"⟩
abbrev cX10_run : ByteArray := prog_12_method_41_code
def yX10_run : MethodName := ⟨RX10, "run", "()V"⟩
abbrev cX10_flows : ByteArray := prog_12_method_42_code
def yX10_flows : MethodName := ⟨RX10, "flows", "(II)V"⟩
abbrev cX10_allOf : ByteArray := prog_12_method_43_code
def yX10_allOf : MethodName := ⟨RX10, "allOf", "(III)J"⟩
abbrev cX10_takes : ByteArray := prog_12_method_44_code
def yX10_takes : MethodName := ⟨RX10, "takes", "(III)I"⟩
abbrev cX10_all : ByteArray := prog_12_method_45_code
def yX10_all : MethodName := ⟨RX10, "all", "(III)J"⟩
abbrev cX10_helps : ByteArray := prog_12_method_46_code
def yX10_helps : MethodName := ⟨RX10, "helps", "(I)I"⟩
abbrev cX10_says_ : ByteArray := prog_12_method_47_code
def yX10_says_ : MethodName := ⟨RX10, "says", "(III)J"⟩
abbrev cX10_told : ByteArray := prog_12_method_48_code
def yX10_told : MethodName := ⟨RX10, "told", "(III)I"⟩
abbrev cX10_lakeTold : ByteArray := prog_12_method_49_code
def yX10_lakeTold : MethodName := ⟨RX10, "lakeTold", "(III)I"⟩
abbrev cX10_sharpOf : ByteArray := prog_12_method_50_code
def yX10_sharpOf : MethodName := ⟨RX10, "sharpOf", "(I)I"⟩
abbrev cX10_sharp : ByteArray := prog_12_method_51_code
def yX10_sharp : MethodName := ⟨RX10, "sharp", "(I)I"⟩
abbrev cX10_sum : ByteArray := prog_12_method_52_code
def yX10_sum : MethodName := ⟨RX10, "sum", "(I)J"⟩
abbrev cX10_isPromise : ByteArray := prog_12_method_53_code
def yX10_isPromise : MethodName := ⟨RX10, "isPromise", "(III)Z"⟩
abbrev cX10_owes : ByteArray := prog_12_method_54_code
def yX10_owes : MethodName := ⟨RX10, "owes", "(IIII)J"⟩
abbrev cX10_owed : ByteArray := prog_12_method_55_code
def yX10_owed : MethodName := ⟨RX10, "owed", "(IIII)J"⟩
abbrev cX10_breaks : ByteArray := prog_12_method_56_code
def yX10_breaks : MethodName := ⟨RX10, "breaks", "(III)I"⟩
abbrev cX10_keeps : ByteArray := prog_12_method_57_code
def yX10_keeps : MethodName := ⟨RX10, "keeps", "()V"⟩
abbrev cX10_less : ByteArray := prog_12_method_58_code
def yX10_less : MethodName := ⟨RX10, "less", "(II)I"⟩
abbrev cX10_found : ByteArray := prog_12_method_59_code
def yX10_found : MethodName := ⟨RX10, "found", "(IIII)I"⟩
abbrev cX10_sold : ByteArray := prog_12_method_60_code
def yX10_sold : MethodName := ⟨RX10, "sold", "(II)I"⟩
abbrev cX10_harm : ByteArray := prog_12_method_61_code
def yX10_harm : MethodName := ⟨RX10, "harm", "(II)J"⟩
abbrev cX10_gotBy : ByteArray := prog_12_method_62_code
def yX10_gotBy : MethodName := ⟨RX10, "gotBy", "(III)J"⟩
abbrev cX10_unlike : ByteArray := prog_12_method_63_code
def yX10_unlike : MethodName := ⟨RX10, "unlike", "(IIII)J"⟩
abbrev cX10_held : ByteArray := prog_12_method_64_code
def yX10_held : MethodName := ⟨RX10, "held", "(II)J"⟩
abbrev cX10_dry : ByteArray := prog_12_method_65_code
def yX10_dry : MethodName := ⟨RX10, "dry", "(II)I"⟩
abbrev cX10_count : ByteArray := prog_12_method_66_code
def yX10_count : MethodName := ⟨RX10, "count", "(I)I"⟩
abbrev cX10_sheet : ByteArray := prog_12_method_67_code
def yX10_sheet : MethodName := ⟨RX10, "sheet", "(III)I"⟩
abbrev cX10_cell : ByteArray := prog_12_method_68_code
def yX10_cell : MethodName := ⟨RX10, "cell", "(III)I"⟩
abbrev cX10_copy : ByteArray := prog_12_method_69_code
def yX10_copy : MethodName := ⟨RX10, "copy", "(IIIII)I"⟩
abbrev cX10_gauges : ByteArray := prog_12_method_70_code
def yX10_gauges : MethodName := ⟨RX10, "gauges", "(IIIIII)I"⟩
abbrev cX10_taken : ByteArray := prog_12_method_71_code
def yX10_taken : MethodName := ⟨RX10, "taken", "(II)I"⟩
def RJx145de : String := "java/io/Serializable"
def TJx145de : u_T := fun k => match k with
  | _ => ("", "", "", false)
def tyJx145de : Nat → FieldType := fun k => match k with
  | _ => .int
abbrev wsJx145de0 : List Cond := u_ws RJx145de TJx145de 0
theorem nmJx145de : ∀ a, a < 0 → ∀ b, b < 0 → a ≠ b → (TJx145de a).2.1 ≠ (TJx145de b).2.1 := by decide +kernel
theorem tyJx145de_ok : ∀ k, k < 0 → parseFieldDescriptor (TJx145de k).2.2.1 = some (tyJx145de k) := by decide +kernel
def RJx9f9b0 : String := "java/lang/CharSequence"
def TJx9f9b0 : u_T := fun k => match k with
  | _ => ("", "", "", false)
def tyJx9f9b0 : Nat → FieldType := fun k => match k with
  | _ => .int
abbrev wsJx9f9b00 : List Cond := u_ws RJx9f9b0 TJx9f9b0 0
theorem nmJx9f9b0 : ∀ a, a < 0 → ∀ b, b < 0 → a ≠ b → (TJx9f9b0 a).2.1 ≠ (TJx9f9b0 b).2.1 := by decide +kernel
theorem tyJx9f9b0_ok : ∀ k, k < 0 → parseFieldDescriptor (TJx9f9b0 k).2.2.1 = some (tyJx9f9b0 k) := by decide +kernel
def RJxb160c : String := "java/lang/Comparable"
def TJxb160c : u_T := fun k => match k with
  | _ => ("", "", "", false)
def tyJxb160c : Nat → FieldType := fun k => match k with
  | _ => .int
abbrev wsJxb160c0 : List Cond := u_ws RJxb160c TJxb160c 0
theorem nmJxb160c : ∀ a, a < 0 → ∀ b, b < 0 → a ≠ b → (TJxb160c a).2.1 ≠ (TJxb160c b).2.1 := by decide +kernel
theorem tyJxb160c_ok : ∀ k, k < 0 → parseFieldDescriptor (TJxb160c k).2.2.1 = some (tyJxb160c k) := by decide +kernel
def RJ6 : String := "java/lang/Integer"
def TJ6 : u_T := fun k => match k with
  | _ => ("", "", "", false)
def tyJ6 : Nat → FieldType := fun k => match k with
  | _ => .int
abbrev wsJ60 : List Cond := u_ws RJ6 TJ6 0
theorem nmJ6 : ∀ a, a < 0 → ∀ b, b < 0 → a ≠ b → (TJ6 a).2.1 ≠ (TJ6 b).2.1 := by decide +kernel
theorem tyJ6_ok : ∀ k, k < 0 → parseFieldDescriptor (TJ6 k).2.2.1 = some (tyJ6 k) := by decide +kernel
abbrev cJ6_bitCount_0f7a4 : ByteArray := prog_13_method_49_code
def yJ6_bitCount_0f7a4 : MethodName := ⟨RJ6, "bitCount", "(I)I"⟩
def RJ9 : String := "java/lang/Math"
def TJ9 : u_T := fun k => match k with
  | _ => ("", "", "", false)
def tyJ9 : Nat → FieldType := fun k => match k with
  | _ => .int
abbrev wsJ90 : List Cond := u_ws RJ9 TJ9 0
theorem nmJ9 : ∀ a, a < 0 → ∀ b, b < 0 → a ≠ b → (TJ9 a).2.1 ≠ (TJ9 b).2.1 := by decide +kernel
theorem tyJ9_ok : ∀ k, k < 0 → parseFieldDescriptor (TJ9 k).2.2.1 = some (tyJ9 k) := by decide +kernel
abbrev cJ9_max_7cf53 : ByteArray := prog_14_method_65_code
def yJ9_max_7cf53 : MethodName := ⟨RJ9, "max", "(II)I"⟩
abbrev cJ9_max_f86c9 : ByteArray := prog_14_method_66_code
def yJ9_max_f86c9 : MethodName := ⟨RJ9, "max", "(JJ)J"⟩
abbrev cJ9_min_7cf53 : ByteArray := prog_14_method_69_code
def yJ9_min_7cf53 : MethodName := ⟨RJ9, "min", "(II)I"⟩
abbrev cJ9_min_f86c9 : ByteArray := prog_14_method_70_code
def yJ9_min_f86c9 : MethodName := ⟨RJ9, "min", "(JJ)J"⟩
def RJ0 : String := "java/lang/String"
def TJ0 : u_T := fun k => match k with
  | _ => ("", "", "", false)
def tyJ0 : Nat → FieldType := fun k => match k with
  | _ => .int
abbrev wsJ00 : List Cond := u_ws RJ0 TJ0 0
theorem nmJ0 : ∀ a, a < 0 → ∀ b, b < 0 → a ≠ b → (TJ0 a).2.1 ≠ (TJ0 b).2.1 := by decide +kernel
theorem tyJ0_ok : ∀ k, k < 0 → parseFieldDescriptor (TJ0 k).2.2.1 = some (tyJ0 k) := by decide +kernel
abbrev cJ0_length_8abf5 : ByteArray := prog_15_method_54_code
def yJ0_length_8abf5 : MethodName := ⟨RJ0, "length", "()I"⟩
abbrev cJ0_charAt_5068e : ByteArray := prog_15_method_56_code
def yJ0_charAt_5068e : MethodName := ⟨RJ0, "charAt", "(I)C"⟩
abbrev cJ0_coder_7d493 : ByteArray := prog_15_method_152_code
def yJ0_coder_7d493 : MethodName := ⟨RJ0, "coder", "()B"⟩
abbrev cJ0_isLatin1_aae02 : ByteArray := prog_15_method_154_code
def yJ0_isLatin1_aae02 : MethodName := ⟨RJ0, "isLatin1", "()Z"⟩
abbrev cJ0_checkIndex_df160 : ByteArray := prog_15_method_155_code
def yJ0_checkIndex_df160 : MethodName := ⟨RJ0, "checkIndex", "(II)V"⟩
def RJ1 : String := "java/lang/StringLatin1"
def TJ1 : u_T := fun k => match k with
  | _ => ("", "", "", false)
def tyJ1 : Nat → FieldType := fun k => match k with
  | _ => .int
abbrev wsJ10 : List Cond := u_ws RJ1 TJ1 0
theorem nmJ1 : ∀ a, a < 0 → ∀ b, b < 0 → a ≠ b → (TJ1 a).2.1 ≠ (TJ1 b).2.1 := by decide +kernel
theorem tyJ1_ok : ∀ k, k < 0 → parseFieldDescriptor (TJ1 k).2.2.1 = some (tyJ1 k) := by decide +kernel
abbrev cJ1_charAt_3b067 : ByteArray := prog_16_method_2_code
def yJ1_charAt_3b067 : MethodName := ⟨RJ1, "charAt", "([BI)C"⟩
def RJ2 : String := "java/lang/StringUTF16"
def TJ2 : u_T := fun k => match k with
  | _ => ("", "", "", false)
def tyJ2 : Nat → FieldType := fun k => match k with
  | _ => .int
abbrev wsJ20 : List Cond := u_ws RJ2 TJ2 0
theorem nmJ2 : ∀ a, a < 0 → ∀ b, b < 0 → a ≠ b → (TJ2 a).2.1 ≠ (TJ2 b).2.1 := by decide +kernel
theorem tyJ2_ok : ∀ k, k < 0 → parseFieldDescriptor (TJ2 k).2.2.1 = some (tyJ2 k) := by decide +kernel
abbrev cJ2_getChar_3b067 : ByteArray := prog_17_method_5_code
def yJ2_getChar_3b067 : MethodName := ⟨RJ2, "getChar", "([BI)C"⟩
abbrev cJ2_length_9d52b : ByteArray := prog_17_method_6_code
def yJ2_length_9d52b : MethodName := ⟨RJ2, "length", "([B)I"⟩
abbrev cJ2_charAt_3b067 : ByteArray := prog_17_method_83_code
def yJ2_charAt_3b067 : MethodName := ⟨RJ2, "charAt", "([BI)C"⟩
abbrev cJ2_checkIndex_2214a : ByteArray := prog_17_method_91_code
def yJ2_checkIndex_2214a : MethodName := ⟨RJ2, "checkIndex", "(I[B)V"⟩
def RJ10 : String := "java/lang/System"
def TJ10 : u_T := fun k => match k with
  | _ => ("", "", "", false)
def tyJ10 : Nat → FieldType := fun k => match k with
  | _ => .int
abbrev wsJ100 : List Cond := u_ws RJ10 TJ10 0
theorem nmJ10 : ∀ a, a < 0 → ∀ b, b < 0 → a ≠ b → (TJ10 a).2.1 ≠ (TJ10 b).2.1 := by decide +kernel
theorem tyJ10_ok : ∀ k, k < 0 → parseFieldDescriptor (TJ10 k).2.2.1 = some (tyJ10 k) := by decide +kernel
def RJxfd54e : String := "java/lang/constant/Constable"
def TJxfd54e : u_T := fun k => match k with
  | _ => ("", "", "", false)
def tyJxfd54e : Nat → FieldType := fun k => match k with
  | _ => .int
abbrev wsJxfd54e0 : List Cond := u_ws RJxfd54e TJxfd54e 0
theorem nmJxfd54e : ∀ a, a < 0 → ∀ b, b < 0 → a ≠ b → (TJxfd54e a).2.1 ≠ (TJxfd54e b).2.1 := by decide +kernel
theorem tyJxfd54e_ok : ∀ k, k < 0 → parseFieldDescriptor (TJxfd54e k).2.2.1 = some (tyJxfd54e k) := by decide +kernel
def RJx3cf43 : String := "java/lang/constant/ConstantDesc"
def TJx3cf43 : u_T := fun k => match k with
  | _ => ("", "", "", false)
def tyJx3cf43 : Nat → FieldType := fun k => match k with
  | _ => .int
abbrev wsJx3cf430 : List Cond := u_ws RJx3cf43 TJx3cf43 0
theorem nmJx3cf43 : ∀ a, a < 0 → ∀ b, b < 0 → a ≠ b → (TJx3cf43 a).2.1 ≠ (TJx3cf43 b).2.1 := by decide +kernel
theorem tyJx3cf43_ok : ∀ k, k < 0 → parseFieldDescriptor (TJx3cf43 k).2.2.1 = some (tyJx3cf43 k) := by decide +kernel
def RJ7 : String := "java/util/Arrays"
def TJ7 : u_T := fun k => match k with
  | _ => ("", "", "", false)
def tyJ7 : Nat → FieldType := fun k => match k with
  | _ => .int
abbrev wsJ70 : List Cond := u_ws RJ7 TJ7 0
theorem nmJ7 : ∀ a, a < 0 → ∀ b, b < 0 → a ≠ b → (TJ7 a).2.1 ≠ (TJ7 b).2.1 := by decide +kernel
theorem tyJ7_ok : ∀ k, k < 0 → parseFieldDescriptor (TJ7 k).2.2.1 = some (tyJ7 k) := by decide +kernel
abbrev cJ7_fill_53178 : ByteArray := prog_19_method_103_code
def yJ7_fill_53178 : MethodName := ⟨RJ7, "fill", "([II)V"⟩
def RJ3 : String := "jdk/internal/util/Preconditions"
def TJ3 : u_T := fun k => match k with
  | _ => ("", "", "", false)
def tyJ3 : Nat → FieldType := fun k => match k with
  | _ => .int
abbrev wsJ30 : List Cond := u_ws RJ3 TJ3 0
theorem nmJ3 : ∀ a, a < 0 → ∀ b, b < 0 → a ≠ b → (TJ3 a).2.1 ≠ (TJ3 b).2.1 := by decide +kernel
theorem tyJ3_ok : ∀ k, k < 0 → parseFieldDescriptor (TJ3 k).2.2.1 = some (tyJ3 k) := by decide +kernel
abbrev cJ3_checkIndex_8e157 : ByteArray := prog_20_method_11_code
def yJ3_checkIndex_8e157 : MethodName := ⟨RJ3, "checkIndex", "(IILjava/util/function/BiFunction;)I"⟩
def RL : String := "RiverCompactLaw"
abbrev cL_law : ByteArray := code
def yL_law : MethodName := ⟨RL, "law", "([I)Z"⟩
