section
-- ===== PART A: goes FIRST, ahead of the names: the tables' words, and 'selects' of the private methods out of them =====
/-- a private method of a class that the tables say can be made, by its rows of tables_1 -/
def lw_okq (q : MethodName × Nat) : Prop := (q.1.cls ≠ "java/lang/invoke/MethodHandle" ∧ q.1.cls ≠ "java/lang/invoke/VarHandle") ∧ Cond.instantiable q.1.cls q.2 ∈ tables_1 ∧ Cond.privateMethod q.1 ∈ tables_1 ∧ Cond.instanceMethod q.1 ∈ tables_1
theorem lw_p0 : lw_okq (⟨"SeasonTiers$Reader", "readHead", "(LSeasonTiers$Store;)Z"⟩, 8) := ⟨⟨by decide +kernel, by decide +kernel⟩, List.mem_of_getElem? (i := 32) (by decide +kernel), List.mem_of_getElem? (i := 352) (by decide +kernel), List.mem_of_getElem? (i := 353) (by decide +kernel)⟩
theorem lw_p1 : lw_okq (⟨"SeasonTiers$Reader", "passWord", "(Ljava/lang/String;)Z"⟩, 8) := ⟨⟨by decide +kernel, by decide +kernel⟩, List.mem_of_getElem? (i := 32) (by decide +kernel), List.mem_of_getElem? (i := 357) (by decide +kernel), List.mem_of_getElem? (i := 358) (by decide +kernel)⟩
theorem lw_p2 : lw_okq (⟨"SeasonTiers$Reader", "nextIsWord", "(Ljava/lang/String;)Z"⟩, 8) := ⟨⟨by decide +kernel, by decide +kernel⟩, List.mem_of_getElem? (i := 32) (by decide +kernel), List.mem_of_getElem? (i := 361) (by decide +kernel), List.mem_of_getElem? (i := 362) (by decide +kernel)⟩
theorem lw_p3 : lw_okq (⟨"SeasonTiers$Reader", "nextByte", "()I"⟩, 8) := ⟨⟨by decide +kernel, by decide +kernel⟩, List.mem_of_getElem? (i := 32) (by decide +kernel), List.mem_of_getElem? (i := 365) (by decide +kernel), List.mem_of_getElem? (i := 366) (by decide +kernel)⟩
theorem lw_p4 : lw_okq (⟨"SeasonTiers$Reader", "endOfWord", "()I"⟩, 8) := ⟨⟨by decide +kernel, by decide +kernel⟩, List.mem_of_getElem? (i := 32) (by decide +kernel), List.mem_of_getElem? (i := 369) (by decide +kernel), List.mem_of_getElem? (i := 370) (by decide +kernel)⟩
theorem lw_p5 : lw_okq (⟨"SeasonTiers$Reader", "fail", "(II)Z"⟩, 8) := ⟨⟨by decide +kernel, by decide +kernel⟩, List.mem_of_getElem? (i := 32) (by decide +kernel), List.mem_of_getElem? (i := 421) (by decide +kernel), List.mem_of_getElem? (i := 422) (by decide +kernel)⟩
theorem lw_p6 : lw_okq (⟨"SeasonTiers$Reader", "readNumber", "(II)Z"⟩, 8) := ⟨⟨by decide +kernel, by decide +kernel⟩, List.mem_of_getElem? (i := 32) (by decide +kernel), List.mem_of_getElem? (i := 425) (by decide +kernel), List.mem_of_getElem? (i := 426) (by decide +kernel)⟩
theorem lw_p7 : lw_okq (⟨"SeasonTiers$Reader", "passSemicolon", "()Z"⟩, 8) := ⟨⟨by decide +kernel, by decide +kernel⟩, List.mem_of_getElem? (i := 32) (by decide +kernel), List.mem_of_getElem? (i := 435) (by decide +kernel), List.mem_of_getElem? (i := 436) (by decide +kernel)⟩
theorem lw_p8 : lw_okq (⟨"SeasonTiers$Reader", "readTiers", "(LSeasonTiers$Store;)Z"⟩, 8) := ⟨⟨by decide +kernel, by decide +kernel⟩, List.mem_of_getElem? (i := 32) (by decide +kernel), List.mem_of_getElem? (i := 439) (by decide +kernel), List.mem_of_getElem? (i := 440) (by decide +kernel)⟩
theorem lw_p9 : lw_okq (⟨"SeasonTiers$Reader", "readTier", "(LSeasonTiers$Store;)Z"⟩, 8) := ⟨⟨by decide +kernel, by decide +kernel⟩, List.mem_of_getElem? (i := 32) (by decide +kernel), List.mem_of_getElem? (i := 444) (by decide +kernel), List.mem_of_getElem? (i := 445) (by decide +kernel)⟩
theorem lw_p10 : lw_okq (⟨"SeasonTiers$Reader", "readName", "()Z"⟩, 8) := ⟨⟨by decide +kernel, by decide +kernel⟩, List.mem_of_getElem? (i := 32) (by decide +kernel), List.mem_of_getElem? (i := 448) (by decide +kernel), List.mem_of_getElem? (i := 449) (by decide +kernel)⟩
theorem lw_p11 : lw_okq (⟨"SeasonTiers$Reader", "readFiles", "(LSeasonTiers$Store;)Z"⟩, 8) := ⟨⟨by decide +kernel, by decide +kernel⟩, List.mem_of_getElem? (i := 32) (by decide +kernel), List.mem_of_getElem? (i := 465) (by decide +kernel), List.mem_of_getElem? (i := 466) (by decide +kernel)⟩
theorem lw_p12 : lw_okq (⟨"SeasonTiers$Reader", "readFile", "(LSeasonTiers$Store;)Z"⟩, 8) := ⟨⟨by decide +kernel, by decide +kernel⟩, List.mem_of_getElem? (i := 32) (by decide +kernel), List.mem_of_getElem? (i := 469) (by decide +kernel), List.mem_of_getElem? (i := 470) (by decide +kernel)⟩
theorem lw_p13 : lw_okq (⟨"SeasonTiers$Writer", "putByte", "(I)V"⟩, 2) := ⟨⟨by decide +kernel, by decide +kernel⟩, List.mem_of_getElem? (i := 66) (by decide +kernel), List.mem_of_getElem? (i := 624) (by decide +kernel), List.mem_of_getElem? (i := 625) (by decide +kernel)⟩
theorem lw_p14 : lw_okq (⟨"SeasonTiers$Writer", "putName", "(J)V"⟩, 2) := ⟨⟨by decide +kernel, by decide +kernel⟩, List.mem_of_getElem? (i := 66) (by decide +kernel), List.mem_of_getElem? (i := 628) (by decide +kernel), List.mem_of_getElem? (i := 629) (by decide +kernel)⟩
theorem lw_p15 : lw_okq (⟨"SeasonTiers$Writer", "putFilesOn", "(LSeasonTiers$Store;I)V"⟩, 2) := ⟨⟨by decide +kernel, by decide +kernel⟩, List.mem_of_getElem? (i := 66) (by decide +kernel), List.mem_of_getElem? (i := 632) (by decide +kernel), List.mem_of_getElem? (i := 633) (by decide +kernel)⟩
def lw_privs_1 : List (MethodName × Nat) := [(⟨"SeasonTiers$Reader", "readHead", "(LSeasonTiers$Store;)Z"⟩, 8), (⟨"SeasonTiers$Reader", "passWord", "(Ljava/lang/String;)Z"⟩, 8), (⟨"SeasonTiers$Reader", "nextIsWord", "(Ljava/lang/String;)Z"⟩, 8), (⟨"SeasonTiers$Reader", "nextByte", "()I"⟩, 8), (⟨"SeasonTiers$Reader", "endOfWord", "()I"⟩, 8), (⟨"SeasonTiers$Reader", "fail", "(II)Z"⟩, 8), (⟨"SeasonTiers$Reader", "readNumber", "(II)Z"⟩, 8), (⟨"SeasonTiers$Reader", "passSemicolon", "()Z"⟩, 8), (⟨"SeasonTiers$Reader", "readTiers", "(LSeasonTiers$Store;)Z"⟩, 8), (⟨"SeasonTiers$Reader", "readTier", "(LSeasonTiers$Store;)Z"⟩, 8), (⟨"SeasonTiers$Reader", "readName", "()Z"⟩, 8), (⟨"SeasonTiers$Reader", "readFiles", "(LSeasonTiers$Store;)Z"⟩, 8), (⟨"SeasonTiers$Reader", "readFile", "(LSeasonTiers$Store;)Z"⟩, 8), (⟨"SeasonTiers$Writer", "putByte", "(I)V"⟩, 2), (⟨"SeasonTiers$Writer", "putName", "(J)V"⟩, 2), (⟨"SeasonTiers$Writer", "putFilesOn", "(LSeasonTiers$Store;I)V"⟩, 2)]
theorem lw_r1 : ∀ q ∈ lw_privs_1, lw_okq q := List.forall_mem_cons.mpr ⟨lw_p0, List.forall_mem_cons.mpr ⟨lw_p1, List.forall_mem_cons.mpr ⟨lw_p2, List.forall_mem_cons.mpr ⟨lw_p3, List.forall_mem_cons.mpr ⟨lw_p4, List.forall_mem_cons.mpr ⟨lw_p5, List.forall_mem_cons.mpr ⟨lw_p6, List.forall_mem_cons.mpr ⟨lw_p7, List.forall_mem_cons.mpr ⟨lw_p8, List.forall_mem_cons.mpr ⟨lw_p9, List.forall_mem_cons.mpr ⟨lw_p10, List.forall_mem_cons.mpr ⟨lw_p11, List.forall_mem_cons.mpr ⟨lw_p12, List.forall_mem_cons.mpr ⟨lw_p13, List.forall_mem_cons.mpr ⟨lw_p14, List.forall_mem_cons.mpr ⟨lw_p15, fun _ h => absurd h List.not_mem_nil⟩⟩⟩⟩⟩⟩⟩⟩⟩⟩⟩⟩⟩⟩⟩⟩
theorem lw_p16 : lw_okq (⟨"java/lang/Throwable", "fillInStackTrace", "(I)Ljava/lang/Throwable;"⟩, 6) := ⟨⟨by decide +kernel, by decide +kernel⟩, List.mem_of_getElem? (i := 685) (by decide +kernel), List.mem_of_getElem? (i := 683) (by decide +kernel), List.mem_of_getElem? (i := 684) (by decide +kernel)⟩
theorem lw_p17 : lw_okq (⟨"SeasonTiers", "requireTier", "(I)V"⟩, 9) := ⟨⟨by decide +kernel, by decide +kernel⟩, List.mem_of_getElem? (i := 24) (by decide +kernel), List.mem_of_getElem? (i := 757) (by decide +kernel), List.mem_of_getElem? (i := 758) (by decide +kernel)⟩
theorem lw_p18 : lw_okq (⟨"SeasonTiers", "requireFile", "(I)V"⟩, 9) := ⟨⟨by decide +kernel, by decide +kernel⟩, List.mem_of_getElem? (i := 24) (by decide +kernel), List.mem_of_getElem? (i := 793) (by decide +kernel), List.mem_of_getElem? (i := 794) (by decide +kernel)⟩
theorem lw_p19 : lw_okq (⟨"SeasonTiers$Planner", "findGains", "(LSeasonTiers$Store;II)V"⟩, 12) := ⟨⟨by decide +kernel, by decide +kernel⟩, List.mem_of_getElem? (i := 81) (by decide +kernel), List.mem_of_getElem? (i := 887) (by decide +kernel), List.mem_of_getElem? (i := 888) (by decide +kernel)⟩
theorem lw_p20 : lw_okq (⟨"SeasonTiers$Planner", "findMove", "(LSeasonTiers$Store;)Z"⟩, 12) := ⟨⟨by decide +kernel, by decide +kernel⟩, List.mem_of_getElem? (i := 81) (by decide +kernel), List.mem_of_getElem? (i := 914) (by decide +kernel), List.mem_of_getElem? (i := 915) (by decide +kernel)⟩
theorem lw_p21 : lw_okq (⟨"SeasonTiers$Planner", "setBest", "(IIIJ)V"⟩, 12) := ⟨⟨by decide +kernel, by decide +kernel⟩, List.mem_of_getElem? (i := 81) (by decide +kernel), List.mem_of_getElem? (i := 918) (by decide +kernel), List.mem_of_getElem? (i := 919) (by decide +kernel)⟩
theorem lw_p22 : lw_okq (⟨"SeasonTiers$Planner", "findExchange", "(LSeasonTiers$Store;)Z"⟩, 12) := ⟨⟨by decide +kernel, by decide +kernel⟩, List.mem_of_getElem? (i := 81) (by decide +kernel), List.mem_of_getElem? (i := 922) (by decide +kernel), List.mem_of_getElem? (i := 923) (by decide +kernel)⟩
theorem lw_p23 : lw_okq (⟨"SeasonTiers$Planner", "takeStep", "(LSeasonTiers$Store;)V"⟩, 12) := ⟨⟨by decide +kernel, by decide +kernel⟩, List.mem_of_getElem? (i := 81) (by decide +kernel), List.mem_of_getElem? (i := 926) (by decide +kernel), List.mem_of_getElem? (i := 927) (by decide +kernel)⟩
theorem lw_p24 : lw_okq (⟨"SeasonTiers$Planner", "takeAway", "(IIII)V"⟩, 12) := ⟨⟨by decide +kernel, by decide +kernel⟩, List.mem_of_getElem? (i := 81) (by decide +kernel), List.mem_of_getElem? (i := 930) (by decide +kernel), List.mem_of_getElem? (i := 931) (by decide +kernel)⟩
theorem lw_p25 : lw_okq (⟨"SeasonTiersModel", "begins", "()V"⟩, 32) := ⟨⟨by decide +kernel, by decide +kernel⟩, List.mem_of_getElem? (i := 1087) (by decide +kernel), List.mem_of_getElem? (i := 1093) (by decide +kernel), List.mem_of_getElem? (i := 1094) (by decide +kernel)⟩
theorem lw_p26 : lw_okq (⟨"SeasonTiersModel", "puts", "(IIIIII)V"⟩, 32) := ⟨⟨by decide +kernel, by decide +kernel⟩, List.mem_of_getElem? (i := 1087) (by decide +kernel), List.mem_of_getElem? (i := 1099) (by decide +kernel), List.mem_of_getElem? (i := 1100) (by decide +kernel)⟩
theorem lw_p27 : lw_okq (⟨"SeasonTiersModel", "keeps", "([J)V"⟩, 32) := ⟨⟨by decide +kernel, by decide +kernel⟩, List.mem_of_getElem? (i := 1087) (by decide +kernel), List.mem_of_getElem? (i := 1222) (by decide +kernel), List.mem_of_getElem? (i := 1223) (by decide +kernel)⟩
theorem lw_p28 : lw_okq (⟨"SeasonTiersModel", "its", "(I)I"⟩, 32) := ⟨⟨by decide +kernel, by decide +kernel⟩, List.mem_of_getElem? (i := 1087) (by decide +kernel), List.mem_of_getElem? (i := 1226) (by decide +kernel), List.mem_of_getElem? (i := 1227) (by decide +kernel)⟩
theorem lw_p29 : lw_okq (⟨"SeasonTiersModel", "next", "()V"⟩, 32) := ⟨⟨by decide +kernel, by decide +kernel⟩, List.mem_of_getElem? (i := 1087) (by decide +kernel), List.mem_of_getElem? (i := 1241) (by decide +kernel), List.mem_of_getElem? (i := 1242) (by decide +kernel)⟩
theorem lw_p30 : lw_okq (⟨"SeasonTiersModel", "see", "(I)I"⟩, 32) := ⟨⟨by decide +kernel, by decide +kernel⟩, List.mem_of_getElem? (i := 1087) (by decide +kernel), List.mem_of_getElem? (i := 1245) (by decide +kernel), List.mem_of_getElem? (i := 1246) (by decide +kernel)⟩
theorem lw_p31 : lw_okq (⟨"SeasonTiersModel", "isLetter", "(I)Z"⟩, 32) := ⟨⟨by decide +kernel, by decide +kernel⟩, List.mem_of_getElem? (i := 1087) (by decide +kernel), List.mem_of_getElem? (i := 1249) (by decide +kernel), List.mem_of_getElem? (i := 1250) (by decide +kernel)⟩
def lw_privs_2 : List (MethodName × Nat) := [(⟨"java/lang/Throwable", "fillInStackTrace", "(I)Ljava/lang/Throwable;"⟩, 6), (⟨"SeasonTiers", "requireTier", "(I)V"⟩, 9), (⟨"SeasonTiers", "requireFile", "(I)V"⟩, 9), (⟨"SeasonTiers$Planner", "findGains", "(LSeasonTiers$Store;II)V"⟩, 12), (⟨"SeasonTiers$Planner", "findMove", "(LSeasonTiers$Store;)Z"⟩, 12), (⟨"SeasonTiers$Planner", "setBest", "(IIIJ)V"⟩, 12), (⟨"SeasonTiers$Planner", "findExchange", "(LSeasonTiers$Store;)Z"⟩, 12), (⟨"SeasonTiers$Planner", "takeStep", "(LSeasonTiers$Store;)V"⟩, 12), (⟨"SeasonTiers$Planner", "takeAway", "(IIII)V"⟩, 12), (⟨"SeasonTiersModel", "begins", "()V"⟩, 32), (⟨"SeasonTiersModel", "puts", "(IIIIII)V"⟩, 32), (⟨"SeasonTiersModel", "keeps", "([J)V"⟩, 32), (⟨"SeasonTiersModel", "its", "(I)I"⟩, 32), (⟨"SeasonTiersModel", "next", "()V"⟩, 32), (⟨"SeasonTiersModel", "see", "(I)I"⟩, 32), (⟨"SeasonTiersModel", "isLetter", "(I)Z"⟩, 32)]
theorem lw_r2 : ∀ q ∈ lw_privs_2, lw_okq q := List.forall_mem_cons.mpr ⟨lw_p16, List.forall_mem_cons.mpr ⟨lw_p17, List.forall_mem_cons.mpr ⟨lw_p18, List.forall_mem_cons.mpr ⟨lw_p19, List.forall_mem_cons.mpr ⟨lw_p20, List.forall_mem_cons.mpr ⟨lw_p21, List.forall_mem_cons.mpr ⟨lw_p22, List.forall_mem_cons.mpr ⟨lw_p23, List.forall_mem_cons.mpr ⟨lw_p24, List.forall_mem_cons.mpr ⟨lw_p25, List.forall_mem_cons.mpr ⟨lw_p26, List.forall_mem_cons.mpr ⟨lw_p27, List.forall_mem_cons.mpr ⟨lw_p28, List.forall_mem_cons.mpr ⟨lw_p29, List.forall_mem_cons.mpr ⟨lw_p30, List.forall_mem_cons.mpr ⟨lw_p31, fun _ h => absurd h List.not_mem_nil⟩⟩⟩⟩⟩⟩⟩⟩⟩⟩⟩⟩⟩⟩⟩⟩
theorem lw_p32 : lw_okq (⟨"SeasonTiersModel", "isDigit", "(I)Z"⟩, 32) := ⟨⟨by decide +kernel, by decide +kernel⟩, List.mem_of_getElem? (i := 1087) (by decide +kernel), List.mem_of_getElem? (i := 1253) (by decide +kernel), List.mem_of_getElem? (i := 1254) (by decide +kernel)⟩
theorem lw_p33 : lw_okq (⟨"SeasonTiersModel", "isWord", "(Ljava/lang/String;)Z"⟩, 32) := ⟨⟨by decide +kernel, by decide +kernel⟩, List.mem_of_getElem? (i := 1087) (by decide +kernel), List.mem_of_getElem? (i := 1262) (by decide +kernel), List.mem_of_getElem? (i := 1263) (by decide +kernel)⟩
theorem lw_p34 : lw_okq (⟨"SeasonTiersModel", "must", "(Z)V"⟩, 32) := ⟨⟨by decide +kernel, by decide +kernel⟩, List.mem_of_getElem? (i := 1087) (by decide +kernel), List.mem_of_getElem? (i := 1268) (by decide +kernel), List.mem_of_getElem? (i := 1269) (by decide +kernel)⟩
theorem lw_p35 : lw_okq (⟨"SeasonTiersModel", "fails", "(I)V"⟩, 32) := ⟨⟨by decide +kernel, by decide +kernel⟩, List.mem_of_getElem? (i := 1087) (by decide +kernel), List.mem_of_getElem? (i := 1272) (by decide +kernel), List.mem_of_getElem? (i := 1273) (by decide +kernel)⟩
theorem lw_p36 : lw_okq (⟨"SeasonTiersModel", "takes", "(II)I"⟩, 32) := ⟨⟨by decide +kernel, by decide +kernel⟩, List.mem_of_getElem? (i := 1087) (by decide +kernel), List.mem_of_getElem? (i := 1276) (by decide +kernel), List.mem_of_getElem? (i := 1277) (by decide +kernel)⟩
theorem lw_p37 : lw_okq (⟨"SeasonTiersModel", "mustEnd", "()V"⟩, 32) := ⟨⟨by decide +kernel, by decide +kernel⟩, List.mem_of_getElem? (i := 1087) (by decide +kernel), List.mem_of_getElem? (i := 1281) (by decide +kernel), List.mem_of_getElem? (i := 1282) (by decide +kernel)⟩
theorem lw_p38 : lw_okq (⟨"SeasonTiersModel", "readsTier", "()V"⟩, 32) := ⟨⟨by decide +kernel, by decide +kernel⟩, List.mem_of_getElem? (i := 1087) (by decide +kernel), List.mem_of_getElem? (i := 1285) (by decide +kernel), List.mem_of_getElem? (i := 1286) (by decide +kernel)⟩
theorem lw_p39 : lw_okq (⟨"SeasonTiersModel", "tiers", "()I"⟩, 32) := ⟨⟨by decide +kernel, by decide +kernel⟩, List.mem_of_getElem? (i := 1087) (by decide +kernel), List.mem_of_getElem? (i := 1289) (by decide +kernel), List.mem_of_getElem? (i := 1290) (by decide +kernel)⟩
theorem lw_p40 : lw_okq (⟨"SeasonTiersModel", "mustName", "()V"⟩, 32) := ⟨⟨by decide +kernel, by decide +kernel⟩, List.mem_of_getElem? (i := 1087) (by decide +kernel), List.mem_of_getElem? (i := 1294) (by decide +kernel), List.mem_of_getElem? (i := 1295) (by decide +kernel)⟩
theorem lw_p41 : lw_okq (⟨"SeasonTiersModel", "named", "(III)I"⟩, 32) := ⟨⟨by decide +kernel, by decide +kernel⟩, List.mem_of_getElem? (i := 1087) (by decide +kernel), List.mem_of_getElem? (i := 1298) (by decide +kernel), List.mem_of_getElem? (i := 1299) (by decide +kernel)⟩
theorem lw_p42 : lw_okq (⟨"SeasonTiersModel", "putsName", "(I)V"⟩, 32) := ⟨⟨by decide +kernel, by decide +kernel⟩, List.mem_of_getElem? (i := 1087) (by decide +kernel), List.mem_of_getElem? (i := 1302) (by decide +kernel), List.mem_of_getElem? (i := 1303) (by decide +kernel)⟩
theorem lw_p43 : lw_okq (⟨"SeasonTiersModel", "readsFile", "()V"⟩, 32) := ⟨⟨by decide +kernel, by decide +kernel⟩, List.mem_of_getElem? (i := 1087) (by decide +kernel), List.mem_of_getElem? (i := 1308) (by decide +kernel), List.mem_of_getElem? (i := 1309) (by decide +kernel)⟩
theorem lw_p44 : lw_okq (⟨"SeasonTiersModel", "files", "()I"⟩, 32) := ⟨⟨by decide +kernel, by decide +kernel⟩, List.mem_of_getElem? (i := 1087) (by decide +kernel), List.mem_of_getElem? (i := 1312) (by decide +kernel), List.mem_of_getElem? (i := 1313) (by decide +kernel)⟩
theorem lw_p45 : lw_okq (⟨"SeasonTiersModel", "begins0", "(I)V"⟩, 32) := ⟨⟨by decide +kernel, by decide +kernel⟩, List.mem_of_getElem? (i := 1087) (by decide +kernel), List.mem_of_getElem? (i := 1316) (by decide +kernel), List.mem_of_getElem? (i := 1317) (by decide +kernel)⟩
theorem lw_p46 : lw_okq (⟨"SeasonTiersModel", "sets", "(IIJ)V"⟩, 32) := ⟨⟨by decide +kernel, by decide +kernel⟩, List.mem_of_getElem? (i := 1087) (by decide +kernel), List.mem_of_getElem? (i := 1320) (by decide +kernel), List.mem_of_getElem? (i := 1321) (by decide +kernel)⟩
theorem lw_p47 : lw_okq (⟨"SeasonTiersModel", "freeOn", "(I)I"⟩, 32) := ⟨⟨by decide +kernel, by decide +kernel⟩, List.mem_of_getElem? (i := 1087) (by decide +kernel), List.mem_of_getElem? (i := 1326) (by decide +kernel), List.mem_of_getElem? (i := 1327) (by decide +kernel)⟩
def lw_privs_3 : List (MethodName × Nat) := [(⟨"SeasonTiersModel", "isDigit", "(I)Z"⟩, 32), (⟨"SeasonTiersModel", "isWord", "(Ljava/lang/String;)Z"⟩, 32), (⟨"SeasonTiersModel", "must", "(Z)V"⟩, 32), (⟨"SeasonTiersModel", "fails", "(I)V"⟩, 32), (⟨"SeasonTiersModel", "takes", "(II)I"⟩, 32), (⟨"SeasonTiersModel", "mustEnd", "()V"⟩, 32), (⟨"SeasonTiersModel", "readsTier", "()V"⟩, 32), (⟨"SeasonTiersModel", "tiers", "()I"⟩, 32), (⟨"SeasonTiersModel", "mustName", "()V"⟩, 32), (⟨"SeasonTiersModel", "named", "(III)I"⟩, 32), (⟨"SeasonTiersModel", "putsName", "(I)V"⟩, 32), (⟨"SeasonTiersModel", "readsFile", "()V"⟩, 32), (⟨"SeasonTiersModel", "files", "()I"⟩, 32), (⟨"SeasonTiersModel", "begins0", "(I)V"⟩, 32), (⟨"SeasonTiersModel", "sets", "(IIJ)V"⟩, 32), (⟨"SeasonTiersModel", "freeOn", "(I)I"⟩, 32)]
theorem lw_r3 : ∀ q ∈ lw_privs_3, lw_okq q := List.forall_mem_cons.mpr ⟨lw_p32, List.forall_mem_cons.mpr ⟨lw_p33, List.forall_mem_cons.mpr ⟨lw_p34, List.forall_mem_cons.mpr ⟨lw_p35, List.forall_mem_cons.mpr ⟨lw_p36, List.forall_mem_cons.mpr ⟨lw_p37, List.forall_mem_cons.mpr ⟨lw_p38, List.forall_mem_cons.mpr ⟨lw_p39, List.forall_mem_cons.mpr ⟨lw_p40, List.forall_mem_cons.mpr ⟨lw_p41, List.forall_mem_cons.mpr ⟨lw_p42, List.forall_mem_cons.mpr ⟨lw_p43, List.forall_mem_cons.mpr ⟨lw_p44, List.forall_mem_cons.mpr ⟨lw_p45, List.forall_mem_cons.mpr ⟨lw_p46, List.forall_mem_cons.mpr ⟨lw_p47, fun _ h => absurd h List.not_mem_nil⟩⟩⟩⟩⟩⟩⟩⟩⟩⟩⟩⟩⟩⟩⟩⟩
theorem lw_p48 : lw_okq (⟨"SeasonTiersModel", "ofTier", "(II)I"⟩, 32) := ⟨⟨by decide +kernel, by decide +kernel⟩, List.mem_of_getElem? (i := 1087) (by decide +kernel), List.mem_of_getElem? (i := 1330) (by decide +kernel), List.mem_of_getElem? (i := 1331) (by decide +kernel)⟩
theorem lw_p49 : lw_okq (⟨"SeasonTiersModel", "fullOf", "(I)I"⟩, 32) := ⟨⟨by decide +kernel, by decide +kernel⟩, List.mem_of_getElem? (i := 1087) (by decide +kernel), List.mem_of_getElem? (i := 1334) (by decide +kernel), List.mem_of_getElem? (i := 1335) (by decide +kernel)⟩
theorem lw_p50 : lw_okq (⟨"SeasonTiersModel", "of", "(II)I"⟩, 32) := ⟨⟨by decide +kernel, by decide +kernel⟩, List.mem_of_getElem? (i := 1087) (by decide +kernel), List.mem_of_getElem? (i := 1338) (by decide +kernel), List.mem_of_getElem? (i := 1339) (by decide +kernel)⟩
theorem lw_p51 : lw_okq (⟨"SeasonTiersModel", "pinned", "()I"⟩, 32) := ⟨⟨by decide +kernel, by decide +kernel⟩, List.mem_of_getElem? (i := 1087) (by decide +kernel), List.mem_of_getElem? (i := 1351) (by decide +kernel), List.mem_of_getElem? (i := 1352) (by decide +kernel)⟩
theorem lw_p52 : lw_okq (⟨"SeasonTiersModel", "isPinned", "(I)Z"⟩, 32) := ⟨⟨by decide +kernel, by decide +kernel⟩, List.mem_of_getElem? (i := 1087) (by decide +kernel), List.mem_of_getElem? (i := 1355) (by decide +kernel), List.mem_of_getElem? (i := 1356) (by decide +kernel)⟩
theorem lw_p53 : lw_okq (⟨"SeasonTiersModel", "sizes", "()I"⟩, 32) := ⟨⟨by decide +kernel, by decide +kernel⟩, List.mem_of_getElem? (i := 1087) (by decide +kernel), List.mem_of_getElem? (i := 1359) (by decide +kernel), List.mem_of_getElem? (i := 1360) (by decide +kernel)⟩
theorem lw_p54 : lw_okq (⟨"SeasonTiersModel", "isTier", "(I)Z"⟩, 32) := ⟨⟨by decide +kernel, by decide +kernel⟩, List.mem_of_getElem? (i := 1087) (by decide +kernel), List.mem_of_getElem? (i := 1367) (by decide +kernel), List.mem_of_getElem? (i := 1368) (by decide +kernel)⟩
theorem lw_p55 : lw_okq (⟨"SeasonTiersModel", "filesOn", "(I)I"⟩, 32) := ⟨⟨by decide +kernel, by decide +kernel⟩, List.mem_of_getElem? (i := 1087) (by decide +kernel), List.mem_of_getElem? (i := 1371) (by decide +kernel), List.mem_of_getElem? (i := 1372) (by decide +kernel)⟩
theorem lw_p56 : lw_okq (⟨"SeasonTiersModel", "busiest", "(I)I"⟩, 32) := ⟨⟨by decide +kernel, by decide +kernel⟩, List.mem_of_getElem? (i := 1087) (by decide +kernel), List.mem_of_getElem? (i := 1375) (by decide +kernel), List.mem_of_getElem? (i := 1376) (by decide +kernel)⟩
theorem lw_p57 : lw_okq (⟨"SeasonTiersModel", "forecastOf", "(II)I"⟩, 32) := ⟨⟨by decide +kernel, by decide +kernel⟩, List.mem_of_getElem? (i := 1087) (by decide +kernel), List.mem_of_getElem? (i := 1379) (by decide +kernel), List.mem_of_getElem? (i := 1380) (by decide +kernel)⟩
theorem lw_p58 : lw_okq (⟨"SeasonTiersModel", "knownOf", "(I)I"⟩, 32) := ⟨⟨by decide +kernel, by decide +kernel⟩, List.mem_of_getElem? (i := 1087) (by decide +kernel), List.mem_of_getElem? (i := 1383) (by decide +kernel), List.mem_of_getElem? (i := 1384) (by decide +kernel)⟩
theorem lw_p59 : lw_okq (⟨"SeasonTiersModel", "isFile", "(I)Z"⟩, 32) := ⟨⟨by decide +kernel, by decide +kernel⟩, List.mem_of_getElem? (i := 1087) (by decide +kernel), List.mem_of_getElem? (i := 1394) (by decide +kernel), List.mem_of_getElem? (i := 1395) (by decide +kernel)⟩
theorem lw_p60 : lw_okq (⟨"SeasonTiersModel", "seasonsOf", "(IZ)I"⟩, 32) := ⟨⟨by decide +kernel, by decide +kernel⟩, List.mem_of_getElem? (i := 1087) (by decide +kernel), List.mem_of_getElem? (i := 1398) (by decide +kernel), List.mem_of_getElem? (i := 1399) (by decide +kernel)⟩
theorem lw_p61 : lw_okq (⟨"SeasonTiersModel", "ownCycle", "(I)I"⟩, 32) := ⟨⟨by decide +kernel, by decide +kernel⟩, List.mem_of_getElem? (i := 1087) (by decide +kernel), List.mem_of_getElem? (i := 1426) (by decide +kernel), List.mem_of_getElem? (i := 1427) (by decide +kernel)⟩
theorem lw_p62 : lw_okq (⟨"SeasonTiersModel", "strange", "(II)I"⟩, 32) := ⟨⟨by decide +kernel, by decide +kernel⟩, List.mem_of_getElem? (i := 1087) (by decide +kernel), List.mem_of_getElem? (i := 1430) (by decide +kernel), List.mem_of_getElem? (i := 1431) (by decide +kernel)⟩
theorem lw_p63 : lw_okq (⟨"SeasonTiersModel", "sumOf", "(II)J"⟩, 32) := ⟨⟨by decide +kernel, by decide +kernel⟩, List.mem_of_getElem? (i := 1087) (by decide +kernel), List.mem_of_getElem? (i := 1442) (by decide +kernel), List.mem_of_getElem? (i := 1443) (by decide +kernel)⟩
def lw_privs_4 : List (MethodName × Nat) := [(⟨"SeasonTiersModel", "ofTier", "(II)I"⟩, 32), (⟨"SeasonTiersModel", "fullOf", "(I)I"⟩, 32), (⟨"SeasonTiersModel", "of", "(II)I"⟩, 32), (⟨"SeasonTiersModel", "pinned", "()I"⟩, 32), (⟨"SeasonTiersModel", "isPinned", "(I)Z"⟩, 32), (⟨"SeasonTiersModel", "sizes", "()I"⟩, 32), (⟨"SeasonTiersModel", "isTier", "(I)Z"⟩, 32), (⟨"SeasonTiersModel", "filesOn", "(I)I"⟩, 32), (⟨"SeasonTiersModel", "busiest", "(I)I"⟩, 32), (⟨"SeasonTiersModel", "forecastOf", "(II)I"⟩, 32), (⟨"SeasonTiersModel", "knownOf", "(I)I"⟩, 32), (⟨"SeasonTiersModel", "isFile", "(I)Z"⟩, 32), (⟨"SeasonTiersModel", "seasonsOf", "(IZ)I"⟩, 32), (⟨"SeasonTiersModel", "ownCycle", "(I)I"⟩, 32), (⟨"SeasonTiersModel", "strange", "(II)I"⟩, 32), (⟨"SeasonTiersModel", "sumOf", "(II)J"⟩, 32)]
theorem lw_r4 : ∀ q ∈ lw_privs_4, lw_okq q := List.forall_mem_cons.mpr ⟨lw_p48, List.forall_mem_cons.mpr ⟨lw_p49, List.forall_mem_cons.mpr ⟨lw_p50, List.forall_mem_cons.mpr ⟨lw_p51, List.forall_mem_cons.mpr ⟨lw_p52, List.forall_mem_cons.mpr ⟨lw_p53, List.forall_mem_cons.mpr ⟨lw_p54, List.forall_mem_cons.mpr ⟨lw_p55, List.forall_mem_cons.mpr ⟨lw_p56, List.forall_mem_cons.mpr ⟨lw_p57, List.forall_mem_cons.mpr ⟨lw_p58, List.forall_mem_cons.mpr ⟨lw_p59, List.forall_mem_cons.mpr ⟨lw_p60, List.forall_mem_cons.mpr ⟨lw_p61, List.forall_mem_cons.mpr ⟨lw_p62, List.forall_mem_cons.mpr ⟨lw_p63, fun _ h => absurd h List.not_mem_nil⟩⟩⟩⟩⟩⟩⟩⟩⟩⟩⟩⟩⟩⟩⟩⟩
theorem lw_p64 : lw_okq (⟨"SeasonTiersModel", "costOn", "(III)J"⟩, 32) := ⟨⟨by decide +kernel, by decide +kernel⟩, List.mem_of_getElem? (i := 1087) (by decide +kernel), List.mem_of_getElem? (i := 1457) (by decide +kernel), List.mem_of_getElem? (i := 1458) (by decide +kernel)⟩
theorem lw_p65 : lw_okq (⟨"SeasonTiersModel", "laysCosts", "(I)V"⟩, 32) := ⟨⟨by decide +kernel, by decide +kernel⟩, List.mem_of_getElem? (i := 1087) (by decide +kernel), List.mem_of_getElem? (i := 1466) (by decide +kernel), List.mem_of_getElem? (i := 1467) (by decide +kernel)⟩
theorem lw_p66 : lw_okq (⟨"SeasonTiersModel", "savesBy", "(III)J"⟩, 32) := ⟨⟨by decide +kernel, by decide +kernel⟩, List.mem_of_getElem? (i := 1087) (by decide +kernel), List.mem_of_getElem? (i := 1470) (by decide +kernel), List.mem_of_getElem? (i := 1471) (by decide +kernel)⟩
theorem lw_p67 : lw_okq (⟨"SeasonTiersModel", "plans", "(III)V"⟩, 32) := ⟨⟨by decide +kernel, by decide +kernel⟩, List.mem_of_getElem? (i := 1087) (by decide +kernel), List.mem_of_getElem? (i := 1478) (by decide +kernel), List.mem_of_getElem? (i := 1479) (by decide +kernel)⟩
theorem lw_p68 : lw_okq (⟨"SeasonTiersModel", "findsStep", "()Z"⟩, 32) := ⟨⟨by decide +kernel, by decide +kernel⟩, List.mem_of_getElem? (i := 1087) (by decide +kernel), List.mem_of_getElem? (i := 1482) (by decide +kernel), List.mem_of_getElem? (i := 1483) (by decide +kernel)⟩
theorem lw_p69 : lw_okq (⟨"SeasonTiersModel", "findsMove", "()V"⟩, 32) := ⟨⟨by decide +kernel, by decide +kernel⟩, List.mem_of_getElem? (i := 1087) (by decide +kernel), List.mem_of_getElem? (i := 1486) (by decide +kernel), List.mem_of_getElem? (i := 1487) (by decide +kernel)⟩
theorem lw_p70 : lw_okq (⟨"SeasonTiersModel", "canGo", "(I)Z"⟩, 32) := ⟨⟨by decide +kernel, by decide +kernel⟩, List.mem_of_getElem? (i := 1087) (by decide +kernel), List.mem_of_getElem? (i := 1490) (by decide +kernel), List.mem_of_getElem? (i := 1491) (by decide +kernel)⟩
theorem lw_p71 : lw_okq (⟨"SeasonTiersModel", "found", "(IIIJ)V"⟩, 32) := ⟨⟨by decide +kernel, by decide +kernel⟩, List.mem_of_getElem? (i := 1087) (by decide +kernel), List.mem_of_getElem? (i := 1494) (by decide +kernel), List.mem_of_getElem? (i := 1495) (by decide +kernel)⟩
theorem lw_p72 : lw_okq (⟨"SeasonTiersModel", "findsExchange", "()V"⟩, 32) := ⟨⟨by decide +kernel, by decide +kernel⟩, List.mem_of_getElem? (i := 1087) (by decide +kernel), List.mem_of_getElem? (i := 1498) (by decide +kernel), List.mem_of_getElem? (i := 1499) (by decide +kernel)⟩
theorem lw_p73 : lw_okq (⟨"SeasonTiersModel", "goesOnPaper", "(II)V"⟩, 32) := ⟨⟨by decide +kernel, by decide +kernel⟩, List.mem_of_getElem? (i := 1087) (by decide +kernel), List.mem_of_getElem? (i := 1502) (by decide +kernel), List.mem_of_getElem? (i := 1503) (by decide +kernel)⟩
theorem lw_p74 : lw_okq (⟨"SeasonTiersModel", "closes", "(I)V"⟩, 32) := ⟨⟨by decide +kernel, by decide +kernel⟩, List.mem_of_getElem? (i := 1087) (by decide +kernel), List.mem_of_getElem? (i := 1538) (by decide +kernel), List.mem_of_getElem? (i := 1539) (by decide +kernel)⟩
theorem lw_p75 : lw_okq (⟨"SeasonTiersModel", "pays", "(IIJ)V"⟩, 32) := ⟨⟨by decide +kernel, by decide +kernel⟩, List.mem_of_getElem? (i := 1087) (by decide +kernel), List.mem_of_getElem? (i := 1542) (by decide +kernel), List.mem_of_getElem? (i := 1543) (by decide +kernel)⟩
theorem lw_p76 : lw_okq (⟨"SeasonTiersModel", "learns", "(III)V"⟩, 32) := ⟨⟨by decide +kernel, by decide +kernel⟩, List.mem_of_getElem? (i := 1087) (by decide +kernel), List.mem_of_getElem? (i := 1546) (by decide +kernel), List.mem_of_getElem? (i := 1547) (by decide +kernel)⟩
theorem lw_p77 : lw_okq (⟨"SeasonTiersModel", "keepsUses", "(I)V"⟩, 32) := ⟨⟨by decide +kernel, by decide +kernel⟩, List.mem_of_getElem? (i := 1087) (by decide +kernel), List.mem_of_getElem? (i := 1550) (by decide +kernel), List.mem_of_getElem? (i := 1551) (by decide +kernel)⟩
theorem lw_p78 : lw_okq (⟨"SeasonTiersModel", "goes", "(II)I"⟩, 32) := ⟨⟨by decide +kernel, by decide +kernel⟩, List.mem_of_getElem? (i := 1087) (by decide +kernel), List.mem_of_getElem? (i := 1558) (by decide +kernel), List.mem_of_getElem? (i := 1559) (by decide +kernel)⟩
theorem lw_p79 : lw_okq (⟨"SeasonTiersModel", "relearns", "(I)V"⟩, 32) := ⟨⟨by decide +kernel, by decide +kernel⟩, List.mem_of_getElem? (i := 1087) (by decide +kernel), List.mem_of_getElem? (i := 1579) (by decide +kernel), List.mem_of_getElem? (i := 1580) (by decide +kernel)⟩
def lw_privs_5 : List (MethodName × Nat) := [(⟨"SeasonTiersModel", "costOn", "(III)J"⟩, 32), (⟨"SeasonTiersModel", "laysCosts", "(I)V"⟩, 32), (⟨"SeasonTiersModel", "savesBy", "(III)J"⟩, 32), (⟨"SeasonTiersModel", "plans", "(III)V"⟩, 32), (⟨"SeasonTiersModel", "findsStep", "()Z"⟩, 32), (⟨"SeasonTiersModel", "findsMove", "()V"⟩, 32), (⟨"SeasonTiersModel", "canGo", "(I)Z"⟩, 32), (⟨"SeasonTiersModel", "found", "(IIIJ)V"⟩, 32), (⟨"SeasonTiersModel", "findsExchange", "()V"⟩, 32), (⟨"SeasonTiersModel", "goesOnPaper", "(II)V"⟩, 32), (⟨"SeasonTiersModel", "closes", "(I)V"⟩, 32), (⟨"SeasonTiersModel", "pays", "(IIJ)V"⟩, 32), (⟨"SeasonTiersModel", "learns", "(III)V"⟩, 32), (⟨"SeasonTiersModel", "keepsUses", "(I)V"⟩, 32), (⟨"SeasonTiersModel", "goes", "(II)I"⟩, 32), (⟨"SeasonTiersModel", "relearns", "(I)V"⟩, 32)]
theorem lw_r5 : ∀ q ∈ lw_privs_5, lw_okq q := List.forall_mem_cons.mpr ⟨lw_p64, List.forall_mem_cons.mpr ⟨lw_p65, List.forall_mem_cons.mpr ⟨lw_p66, List.forall_mem_cons.mpr ⟨lw_p67, List.forall_mem_cons.mpr ⟨lw_p68, List.forall_mem_cons.mpr ⟨lw_p69, List.forall_mem_cons.mpr ⟨lw_p70, List.forall_mem_cons.mpr ⟨lw_p71, List.forall_mem_cons.mpr ⟨lw_p72, List.forall_mem_cons.mpr ⟨lw_p73, List.forall_mem_cons.mpr ⟨lw_p74, List.forall_mem_cons.mpr ⟨lw_p75, List.forall_mem_cons.mpr ⟨lw_p76, List.forall_mem_cons.mpr ⟨lw_p77, List.forall_mem_cons.mpr ⟨lw_p78, List.forall_mem_cons.mpr ⟨lw_p79, fun _ h => absurd h List.not_mem_nil⟩⟩⟩⟩⟩⟩⟩⟩⟩⟩⟩⟩⟩⟩⟩⟩
theorem lw_p80 : lw_okq (⟨"SeasonTiersModel", "says", "(J)V"⟩, 32) := ⟨⟨by decide +kernel, by decide +kernel⟩, List.mem_of_getElem? (i := 1087) (by decide +kernel), List.mem_of_getElem? (i := 1592) (by decide +kernel), List.mem_of_getElem? (i := 1593) (by decide +kernel)⟩
theorem lw_p81 : lw_okq (⟨"SeasonTiersModel", "saysName", "(I)V"⟩, 32) := ⟨⟨by decide +kernel, by decide +kernel⟩, List.mem_of_getElem? (i := 1087) (by decide +kernel), List.mem_of_getElem? (i := 1596) (by decide +kernel), List.mem_of_getElem? (i := 1597) (by decide +kernel)⟩
def lw_privs_6 : List (MethodName × Nat) := [(⟨"SeasonTiersModel", "says", "(J)V"⟩, 32), (⟨"SeasonTiersModel", "saysName", "(I)V"⟩, 32)]
theorem lw_r6 : ∀ q ∈ lw_privs_6, lw_okq q := List.forall_mem_cons.mpr ⟨lw_p80, List.forall_mem_cons.mpr ⟨lw_p81, fun _ h => absurd h List.not_mem_nil⟩⟩
def lw_privs : List (MethodName × Nat) := lw_privs_1 ++ (lw_privs_2 ++ (lw_privs_3 ++ (lw_privs_4 ++ (lw_privs_5 ++ (lw_privs_6)))))
def lw_tbl : List Cond := k2_sels lw_privs ++ tables_1
theorem lw_privs_ok : ∀ q ∈ lw_privs, lw_okq q := by
  show ∀ q ∈ lw_privs_1 ++ (lw_privs_2 ++ (lw_privs_3 ++ (lw_privs_4 ++ (lw_privs_5 ++ (lw_privs_6))))), lw_okq q
  exact List.forall_mem_append.mpr ⟨lw_r1, List.forall_mem_append.mpr ⟨lw_r2, List.forall_mem_append.mpr ⟨lw_r3, List.forall_mem_append.mpr ⟨lw_r4, List.forall_mem_append.mpr ⟨lw_r5, lw_r6⟩⟩⟩⟩⟩
/-- the streams that the claim lets the run draw from -/
abbrev lw_cs : List Choice := [Jvm.Choice.named "NaN.bits"]
theorem lw_bits : nanBits ∈ lw_cs := by first | decide | exact List.mem_cons_self | simp [lw_cs, nanBits]
-- ===== end of PART A; then your names; then what follows =====
end
section
/-! ===== BEGIN words of one list among another's, by their places ===== -/
theorem goodIn_r {big : List Cond} (ws : List Cond) (ps : List Nat) (hp : ws = ps.filterMap (fun i => big[i]?)) (h : ws.all goodWord = true) : GoodIn big ws := by
  intro w hw
  have h1 := List.all_eq_true.mp h w hw
  rw [hp] at hw
  obtain ⟨i, -, hi⟩ := List.mem_filterMap.mp hw
  have hm : w ∈ big := by first | exact List.mem_of_getElem? hi | exact List.getElem?_mem hi
  exact ⟨hm, good_of_word h1⟩
theorem goodIn_app {big a b : List Cond} (ha : GoodIn big a) (hb : GoodIn big b) : GoodIn big (a ++ b) := fun w h => (List.mem_append.mp h).elim (ha w) (hb w)
theorem goodIn_ca {big a b : List Cond} {c : Cond} (ha : GoodIn big (c :: a)) (hb : GoodIn big b) : GoodIn big (c :: (a ++ b)) := fun w h => (List.mem_cons.mp h).elim (fun e => ha w (List.mem_cons.mpr (Or.inl e))) (fun h => (List.mem_append.mp h).elim (fun h => ha w (List.mem_cons.mpr (Or.inr h))) (hb w))
theorem goodIn_sub {big ws : List Cond} (hm : ∀ w ∈ ws, w ∈ big) (h : ws.all goodWord = true) : GoodIn big ws := fun w hw => ⟨hm w hw, good_of_word (List.all_eq_true.mp h w hw)⟩
/-! ===== END ===== -/

/-! ===== BEGIN exceptions that leave a method, and their catching by the caller (launches without stack traces) ===== -/
section VXA
/-! The laws vx_back, vx_callV, vx_callS, vx_callSW, vx_throw0, vx_throwS follow proofs of the library, with one case more: JvmDerived/Free/Laws.lean (Back.of_free), Shelf42/LK1.lean (callV, callS), Shelf/KitTraced.lean (throwNew0V, throwNewS). -/
/-- where a method has thrown q: the class by its name, the cell, what was written, the world -/
def vx_T (XC : String → State → State → Prop) (st : State) (q : Addr) (t : State) (mc ms : Nat) (free : Addr → Prop) : Prop :=
  ∃ (E : String) (ce : Cell) (L : List Loc), XC E st t ∧ t.heap[q]? = some ce ∧ ce.vm = .none ∧ st.vm.findClass E = some ce.cls ∧ st.WarmedH t.vm ∧ st.sameButNew ({ t with vm := st.vm } : State) L mc ms ∧ ∀ z ∈ L, free z.base
def vx_Q (Qc : Array Value → State → Outcome → State → Prop) (XC : String → State → State → Prop) (mc ms : Nat) (free : Addr → Prop) : Array Value → State → Outcome → State → Prop := fun a st o t =>
  (Qc a st o t ∧ ∃ L, FrameEnd st o t L mc ms ∧ ∀ q ∈ L, free q.base) ∨ ∃ q, o = .threw q ∧ vx_T XC st q t mc ms free
/-- a callee that returns or throws -/
def vx_Met (l : Launch) (y : MethodName) (ws : List Cond) (rm : Room) (Pc : Array Value → State → Prop) (Qc : Array Value → State → Outcome → State → Prop) (XC : String → State → State → Prop) (mc ms : Nat) (free : Addr → Prop) : Prop :=
  MetFree l y (headSpec ws rm) Pc (fun _ _ _ _ _ => True) (vx_Q Qc XC mc ms free)
def vx_Post (XC : String → State → State → Prop) (mc ms : Nat) (free : Addr → Prop) : Pt → Array Value → Addr → Pt → Prop := fun A a q B =>
  ∃ (g : JFrame) (mk : MethodId) (t : State) (L : List Loc) (E : String) (ce : Cell), B.U.heap = t.heap ∧ B.U.vm = t.vm ∧ XC E (A.U.calling g mk a) t ∧ t.heap[q]? = some ce ∧ ce.vm = .none ∧ A.U.vm.findClass E = some ce.cls ∧ B.locs = A.locs ++ L ∧ (∀ z ∈ L, free z.base) ∧ B.cells = A.cells + mc ∧ B.slots = A.slots + ms
def vx_Back (l : Launch) (R : Room) (p : Program) (e : Env) (below : List Frame) (s : State) (sargs : Array Value) (y : MethodName) (len W9 : Nat)
    (Pre : Pt → Array Value → Prop) (Post : Pt → Array Value → Option Value → Pt → Prop) (PostX : Pt → Array Value → Addr → Pt → Prop) : Prop :=
  ∀ (m : MethodId) (meth : Method) (c : Code) (A : Pt) (g : JFrame) (ig : Instr) (mk : MethodId) (a : Array Value),
    Stand p l e R s m sargs below meth c A.U A.locs A.cells A.slots → g.method = m → g.locals.size = c.maxLocals → decode c.code g.pc = .ok (ig, len) →
    2 * g.monitorRoom + (g.stack.map fun v => v.category).sum ≤ W9 → A.U.methodNamed? y = some mk → Pre A a →
    (∃ (v : Option Value) (B : Pt), Stand p l e R s m sargs below meth c B.U B.locs B.cells B.slots ∧ Post A a v B ∧
      Steps p.tables e below (doInvoke e (A.U.setTop g) [] mk a).1 (B.U.setTop { g with pc := g.pc + len, stack := v.toList ++ g.stack })) ∨
    (∃ (q : Addr) (B : Pt), Stand p l e R s m sargs below meth c B.U B.locs B.cells B.slots ∧ PostX A a q B ∧
      Steps p.tables e below (doInvoke e (A.U.setTop g) [] mk a).1 ((B.U.setTop g).pushFrame (.throwing q)))
section Payer
variable {l : Launch} {R : Room} {p : Program} {e : Env} {below : List Frame} {s : State} {sargs : Array Value} {y : MethodName} {len W9 : Nat}
theorem vx_back {ws : List Cond} {rm : Room} {Pc : Array Value → State → Prop} {Qc : Array Value → State → Outcome → State → Prop} {XC : String → State → State → Prop} {mc ms : Nat} {free : Addr → Prop} {bytes : ByteArray} {maxL : Nat} {ret : Option FieldType}
    (hM : vx_Met l y ws rm Pc Qc XC mc ms free) (hblind : FrameBlind Pc) (hrc : rm.cells = mc) (hrs : rm.slots = ms)
    (hframes : rm.frames + 1 ≤ R.frames) (hlocals : W9 + (maxL + 11) + rm.locals ≤ R.locals)
    (hws : ∀ w ∈ ws, ∀ a' U, s.WarmedH U.vm → w.before a' U = true) (hcode : Cond.code y bytes maxL ret ∈ ws) (hinit : ∀ a' U, s.WarmedH U.vm → (Cond.initialized y.cls).before a' U = true) :
    vx_Back l R p e below s sargs y len W9 (PreOf R mc ms Pc) (PostOf Qc mc ms free) (vx_Post XC mc ms free) := by
  intro m meth c A g ig mk a X hg hsize hdg hW hn hp
  have h1 : (headSpec ws rm).pre.before a A.U = true := atoms_intro fun w hw => hws w hw _ _ X.warmed
  have h2 : (Cond.code y bytes maxL ret).before a A.U = true := hws _ hcode _ _ X.warmed
  have h3 : (Cond.initialized y.cls).before a A.U = true := hinit _ _ X.warmed
  have h4 : A.cells + (headSpec ws rm).room.cells ≤ R.cells := by rw [show (headSpec ws rm).room.cells = mc from hrc]; exact hp.1
  have h5 : A.slots + (headSpec ws rm).room.slots ≤ R.slots := by rw [show (headSpec ws rm).room.slots = ms from hrs]; exact hp.2.1
  have hPc : Pc a (A.U.calling g mk a) := hblind _ _ _ _ hp.2.2
  obtain ⟨U, Ls, c0, s0⟩ := A
  dsimp only [Pt.U, Pt.locs, Pt.cells, Pt.slots] at h1 h2 h3 h4 h5 X hn hPc ⊢
  obtain ⟨methY, cY, hmY, hcY, -, hlY, -, -, -, -⟩ := Cond.code_spec hn h2
  obtain ⟨kY, hkY, -⟩ := className_of_methodNamed hn
  have hinitY : kY.init = .initialized := Cond.initialized_spec (findClass_of_methodNamed hn) hkY h3
  have h : At U g.method c below := by rw [hg]; exact X.here
  have hlocals9 : W9 + (maxL + 11) + (headSpec ws rm).room.locals ≤ R.locals := hlocals
  have happ : (headSpec ws rm).appliesLoose y e.platform (U.calling g mk a) = true :=
    Spec.appliesLoose_calling (g := g) h hdg hn hkY hinitY
      (X.room_calling (g := g) (R' := (headSpec ws rm).room) hsize hmY hcY hframes (by rw [hlY]; omega) h4 h5) h1
  obtain ⟨mid, hmid⟩ := h.above
  have hfr : (U.setTop g).frames = (.java g :: mid) ++ below := by rw [State.frames_setTop' g h.top, hmid]; rfl
  obtain ⟨o, s₂, hsteps, -, hend, hq⟩ := Steps.callFree hM p X.admits X.cas X.clock (acts := []) hfr happ hPc trivial
  have hq' : vx_Q Qc XC mc ms free a (U.calling g mk a) o s₂ := hq
  rw [State.frames_setTop' g h.top] at hend
  obtain ⟨g₀, hg0⟩ := Option.isSome_iff_exists.mp h.top
  obtain ⟨r, hr⟩ := State.topJava?_eq_some.mp hg0
  have hr' : (({ U with heap := s₂.heap, slotsUsed := s₂.slotsUsed } : State).setVm s₂.vm).frames = .java g₀ :: r := hr
  rcases hq' with ⟨hqc, L, hfe, hL⟩ | ⟨q, rfl, E, ce, L, hx, hce, hcv, hcl, hW₂, hsm, hL⟩
  · obtain ⟨⟨v, rfl⟩, hW₂, e2, q2, q3, q4, q5, q6⟩ := id hfe
    have e3 : s₂ = ({ (U.calling g mk a).setFrames s₂.frames with heap := s₂.heap, slotsUsed := s₂.slotsUsed } : State).setVm s₂.vm := by
      have : s₂ = ({ s₂ with vm := (U.calling g mk a).vm } : State).setVm s₂.vm := rfl
      rw [e2] at this
      exact this
    obtain ⟨c₂, i₂, len₂, hc₂, hd₂, hf₂⟩ := hend
    have hW' : U.WarmedH s₂.vm := hW₂
    have hcc : c₂ = c := by
      have h1 : s₂.code? g.method = U.code? g.method := by
        rw [State.code?_eq, State.code?_eq, hW'.alike.method?]
      exact Option.some.inj (hc₂.symm.trans (h1.trans h.code))
    subst hcc
    have hlen : len₂ = len := by rw [hdg] at hd₂; cases hd₂; rfl
    subst hlen
    have hs₂ : s₂ = (({ U with heap := s₂.heap, slotsUsed := s₂.slotsUsed } : State).setVm s₂.vm).setTop { g with pc := g.pc + len₂, stack := v.toList ++ g.stack } := by
      refine e3.trans ?_
      rw [hf₂, State.calling_eq h.top, State.setFrames_setFrames, State.setTop_of_frames _ hr', hr]
      rfl
    have hsame : U.sameButNew ({ U with heap := s₂.heap, slotsUsed := s₂.slotsUsed } : State) L mc ms := by
      refine ⟨?_, q2, q3, q4, q5, q6⟩
      obtain ⟨t, ht, -⟩ := State.frames_cons hr
      show ({ U with heap := s₂.heap, slotsUsed := s₂.slotsUsed } : State) = { U.setFrames U.frames with heap := s₂.heap, slotsUsed := s₂.slotsUsed }
      rw [State.setFrames_self ht]
    subst hg
    refine Or.inl ⟨v, ⟨(({ U with heap := s₂.heap, slotsUsed := s₂.slotsUsed } : State).setVm s₂.vm), Ls ++ L, c0 + mc, s0 + ms⟩,
      ⟨X.admits, X.cas, X.clock, X.frames, X.room, X.hears, X.method, X.code, (X.here.setHeapUsed s₂.heap s₂.slotsUsed).setVm hW'.alike, X.tail, State.WarmedH.trans X.warmed hW', X.limits, X.bytes, X.same.trans (hsame.setVm s.vm)⟩,
      ⟨g, mk, s₂, L, rfl, rfl, hqc, rfl, hL, rfl, rfl⟩, ?_⟩
    show Steps p.tables e below _ ((({ U with heap := s₂.heap, slotsUsed := s₂.slotsUsed } : State).setVm s₂.vm).setTop { g with pc := g.pc + len₂, stack := v.toList ++ g.stack })
    rw [← hs₂]
    exact hsteps
  · obtain ⟨e2, q2, q3, q4, q5, q6⟩ := id hsm
    have e3 : s₂ = ({ (U.calling g mk a).setFrames s₂.frames with heap := s₂.heap, slotsUsed := s₂.slotsUsed } : State).setVm s₂.vm := by
      have : s₂ = ({ s₂ with vm := (U.calling g mk a).vm } : State).setVm s₂.vm := rfl
      rw [e2] at this
      exact this
    have hf₂ : s₂.frames = .throwing q :: .java g :: U.frames.tail := hend
    have hW' : U.WarmedH s₂.vm := hW₂
    have hs₂ : s₂ = ((({ U with heap := s₂.heap, slotsUsed := s₂.slotsUsed } : State).setVm s₂.vm).setTop g).pushFrame (.throwing q) := by
      refine e3.trans ?_
      rw [hf₂, State.calling_eq h.top, State.setFrames_setFrames, State.pushFrame, State.frames_setTop _ hr', State.setTop_of_frames _ hr', State.setFrames_setFrames, hr]
      rfl
    have hsame : U.sameButNew ({ U with heap := s₂.heap, slotsUsed := s₂.slotsUsed } : State) L mc ms := by
      refine ⟨?_, q2, q3, q4, q5, q6⟩
      obtain ⟨t, ht, -⟩ := State.frames_cons hr
      show ({ U with heap := s₂.heap, slotsUsed := s₂.slotsUsed } : State) = { U.setFrames U.frames with heap := s₂.heap, slotsUsed := s₂.slotsUsed }
      rw [State.setFrames_self ht]
    subst hg
    refine Or.inr ⟨q, ⟨(({ U with heap := s₂.heap, slotsUsed := s₂.slotsUsed } : State).setVm s₂.vm), Ls ++ L, c0 + mc, s0 + ms⟩,
      ⟨X.admits, X.cas, X.clock, X.frames, X.room, X.hears, X.method, X.code, (X.here.setHeapUsed s₂.heap s₂.slotsUsed).setVm hW'.alike, X.tail, State.WarmedH.trans X.warmed hW', X.limits, X.bytes, X.same.trans (hsame.setVm s.vm)⟩,
      ⟨g, mk, s₂, L, E, ce, rfl, rfl, hx, hce, hcv, hcl, rfl, hL, rfl, rfl⟩, ?_⟩
    show Steps p.tables e below _ (((({ U with heap := s₂.heap, slotsUsed := s₂.slotsUsed } : State).setVm s₂.vm).setTop g).pushFrame (.throwing q))
    rw [← hs₂]
    exact hsteps
end Payer
section Calls
variable {p : Program} {l : Launch} {e : Env} {R : Room} {s : State} {m : MethodId} {args : Array Value} {below : List Frame} {meth : Method} {c : Code} {T : State} {locs : List Loc} {cells slots : Nat}
theorem vx_callV (X : Stand p l e R s m args below meth c T locs cells slots) (hexec : p.tables.exec = Jvm.exec) {own C : String} {index : Nat} {y : MethodName} {bytes : ByteArray} {maxL : Nat} {ret : Option FieldType}
    (hown : s.vm.findClass own = some m.cls) (hlink : (Cond.methodLink own index y).before args s = true) (hinst : (Cond.instanceMethod y).before args s = true) (hsel : (Cond.selects C y y).before args s = true)
    (hcode : (Cond.code y bytes maxL ret).before args s = true) (hy : y.cls ≠ "java/lang/invoke/MethodHandle" ∧ y.cls ≠ "java/lang/invoke/VarHandle")
    {W9 : Nat} {Pre : Pt → Array Value → Prop} {Post : Pt → Array Value → Option Value → Pt → Prop} {PostX : Pt → Array Value → Addr → Pt → Prop} (hK : vx_Back l R p e below s args y 3 W9 Pre Post PostX)
    {b : Addr} {cellB : Cell} (hcell : T.heap[b]? = some cellB) (hobj : cellB.vm.isStatics = false) (hcls : s.vm.findClass C = some cellB.cls)
    {g : JFrame} (hg : g.method = m) (hsize : g.locals.size = c.maxLocals) {argsL rest : List Value} (hlen : ∀ sig, parseMethodDescriptor y.desc = some sig → argsL.length = sig.parameters.length)
    (hstack : g.stack = argsL.reverse ++ .ref b :: rest) (hW : 2 * g.monitorRoom + (rest.map fun v => v.category).sum ≤ W9) (hdg : decode c.code g.pc = .ok (.invokevirtual index, 3))
    (hpre : ∀ vm₁, s.WarmedH vm₁ → Pre ⟨T.setVm vm₁, locs, cells, slots⟩ (Value.ref b :: argsL).toArray) :
    (∃ (v : Option Value) (vm₁ : Vm) (B : Pt), s.WarmedH vm₁ ∧ Stand p l e R s m args below meth c B.U B.locs B.cells B.slots ∧ Post ⟨T.setVm vm₁, locs, cells, slots⟩ (Value.ref b :: argsL).toArray v B ∧
      ∀ target, Steps p.tables e below (B.U.setTop { g with pc := g.pc + 3, stack := v.toList ++ rest }) target → Steps p.tables e below (T.setTop g) target) ∨
    (∃ (q : Addr) (vm₁ : Vm) (B : Pt), s.WarmedH vm₁ ∧ Stand p l e R s m args below meth c B.U B.locs B.cells B.slots ∧ PostX ⟨T.setVm vm₁, locs, cells, slots⟩ (Value.ref b :: argsL).toArray q B ∧
      Steps p.tables e below (T.setTop g) ((B.U.setTop { g with stack := rest }).pushFrame (.throwing q))) := by
  obtain ⟨mk, methM, hnamed, hmethM, hstM, habM⟩ := Cond.instanceMethod_spec hinst
  obtain ⟨methM', cM, hmethM', -, -, -, -, -, -, hsigM⟩ := Cond.code_spec hnamed hcode
  cases hmethM.symm.trans hmethM'
  obtain ⟨c2, r2, m2, q1, q2, q3, q4, kP, hkP, hkPi⟩ := Cond.selects_spec hsel
  cases hcls.symm.trans q1
  cases (State.methodFound?_of_named hnamed hy).symm.trans q2
  cases hnamed.symm.trans q3
  have hselP : selectMethod e.platform s.vm cellB.cls mk = .method mk := by rw [Launch.admits_selectMethod X.admits]; exact q4
  obtain ⟨vm₁, X₁, hstep₁⟩ := X.invokevirtual hexec hown hlink hnamed hmethM hstM hkP hkPi hy (a := b) (cell := cellB) hcell
    (fun z h => by rw [h] at hobj; cases hobj) hselP hmethM habM hkP hkPi (g := g) hg (argsL := argsL) (rest := rest) (hlen _ hsigM) hstack hdg
  rcases hK m meth c ⟨T.setVm vm₁, locs, cells, slots⟩ { g with stack := rest } (.invokevirtual index) mk (Value.ref b :: argsL).toArray X₁ hg hsize hdg hW (X₁.named hnamed) (hpre vm₁ X₁.warmed) with ⟨v, B, X', hpost, hsteps⟩ | ⟨q, B, X', hpost, hsteps⟩
  · exact Or.inl ⟨v, vm₁, B, X₁.warmed, X', hpost, fun target h => hstep₁ _ fun acts => by rw [doInvoke_state]; exact hsteps.trans h⟩
  · exact Or.inr ⟨q, vm₁, B, X₁.warmed, X', hpost, hstep₁ _ fun acts => by rw [doInvoke_state]; exact hsteps⟩
theorem vx_callS (X : Stand p l e R s m args below meth c T locs cells slots) (hexec : p.tables.exec = Jvm.exec) {own : String} {index : Nat} {y : MethodName} {bytes : ByteArray} {maxL : Nat} {ret : Option FieldType}
    (hown : s.vm.findClass own = some m.cls) (hlink : (Cond.methodLink own index y).before args s = true) (hstat : (Cond.static y).before args s = true) (hinit : (Cond.initialized y.cls).before args s = true)
    (hcode : (Cond.code y bytes maxL ret).before args s = true) (hy : y.cls ≠ "java/lang/invoke/MethodHandle" ∧ y.cls ≠ "java/lang/invoke/VarHandle")
    {W9 : Nat} {Pre : Pt → Array Value → Prop} {Post : Pt → Array Value → Option Value → Pt → Prop} {PostX : Pt → Array Value → Addr → Pt → Prop} (hK : vx_Back l R p e below s args y 3 W9 Pre Post PostX)
    {g : JFrame} (hg : g.method = m) (hsize : g.locals.size = c.maxLocals) {argsL rest : List Value} (hlen : ∀ sig, parseMethodDescriptor y.desc = some sig → argsL.length = sig.parameters.length)
    (hstack : g.stack = argsL.reverse ++ rest) (hW : 2 * g.monitorRoom + (rest.map fun v => v.category).sum ≤ W9) (hdg : decode c.code g.pc = .ok (.invokestatic index, 3))
    (hpre : ∀ vm₁, s.WarmedH vm₁ → Pre ⟨T.setVm vm₁, locs, cells, slots⟩ argsL.toArray) :
    (∃ (v : Option Value) (vm₁ : Vm) (B : Pt), s.WarmedH vm₁ ∧ Stand p l e R s m args below meth c B.U B.locs B.cells B.slots ∧ Post ⟨T.setVm vm₁, locs, cells, slots⟩ argsL.toArray v B ∧
      ∀ target, Steps p.tables e below (B.U.setTop { g with pc := g.pc + 3, stack := v.toList ++ rest }) target → Steps p.tables e below (T.setTop g) target) ∨
    (∃ (q : Addr) (vm₁ : Vm) (B : Pt), s.WarmedH vm₁ ∧ Stand p l e R s m args below meth c B.U B.locs B.cells B.slots ∧ PostX ⟨T.setVm vm₁, locs, cells, slots⟩ argsL.toArray q B ∧
      Steps p.tables e below (T.setTop g) ((B.U.setTop { g with stack := rest }).pushFrame (.throwing q))) := by
  obtain ⟨mk, hnamed⟩ := Cond.code_named hcode
  obtain ⟨methM, cM, hmethM, -, -, -, -, -, -, hsigM⟩ := Cond.code_spec hnamed hcode
  have hstatic : methM.isStatic = true := Cond.static_spec hnamed hmethM hstat
  obtain ⟨kP, hkP, -⟩ := className_of_methodNamed hnamed
  have hinitP : kP.init = .initialized := Cond.initialized_spec (findClass_of_methodNamed hnamed) hkP hinit
  obtain ⟨vm₁, X₁, hstep₁⟩ := X.invokestatic hexec hown hlink hnamed hmethM hstatic hkP hinitP hy (g := g) hg (argsL := argsL) (rest := rest) (hlen _ hsigM) hstack hdg
  rcases hK m meth c ⟨T.setVm vm₁, locs, cells, slots⟩ { g with stack := rest } (.invokestatic index) mk argsL.toArray X₁ hg hsize hdg hW (X₁.named hnamed) (hpre vm₁ X₁.warmed) with ⟨v, B, X', hpost, hsteps⟩ | ⟨q, B, X', hpost, hsteps⟩
  · exact Or.inl ⟨v, vm₁, B, X₁.warmed, X', hpost, fun target h => hstep₁ _ fun acts => by rw [doInvoke_state]; exact hsteps.trans h⟩
  · exact Or.inr ⟨q, vm₁, B, X₁.warmed, X', hpost, hstep₁ _ fun acts => by rw [doInvoke_state]; exact hsteps⟩
end Calls
theorem vx_cls {s : State} {T : State} {vm₁ : Vm} {E : String} {k : ClassId} (hW : s.WarmedH vm₁) (h : (T.setVm vm₁).vm.findClass E = some k) : s.vm.findClass E = some k := by
  have h1 : vm₁.findClass E = some k := h
  rw [hW.alike.findClass] at h1
  exact h1
/-- the method's frame g, with q thrown over it -/
def vx_W (p : Program) (l : Launch) (e : Env) (R : Room) (s : State) (m : MethodId) (args : Array Value) (below : List Frame) (meth : Method) (c : Code) (H : Heap) (locs : List Loc) (cells slots : Nat) (Q : State → Prop) (g : JFrame) (q : Addr) : Prop :=
  ∀ T : State, T.heap = H → Stand p l e R s m args below meth c T locs cells slots → ∃ t, Steps p.tables e below ((T.setTop g).pushFrame (.throwing q)) t ∧ Q t
def vx_Run (p : Program) (l : Launch) (e : Env) (R : Room) (s : State) (m : MethodId) (args : Array Value) (below : List Frame) (meth : Method) (c : Code) (H : Heap) (locs : List Loc) (cells slots mc ms : Nat) (g : JFrame) (rest : List Value) (Qa : State → Outcome → State → Prop) (XC : String → State → State → Prop) (free : Addr → Prop) : Prop :=
  ∀ T : State, T.heap = H → Stand p l e R s m args below meth c T locs cells slots →
    (∃ (v : Option Value) (st₀ t T' : State) (L : List Loc), st₀.heap = H ∧ Stand p l e R s m args below meth c T' (locs ++ L) (cells + mc) (slots + ms) ∧ (∀ q ∈ L, free q.base) ∧ T'.heap = t.heap ∧ T'.vm = t.vm ∧ Qa st₀ (.returned v) t ∧
      Goes p e below T g T' { g with pc := g.pc + 3, stack := v.toList ++ rest }) ∨
    (∃ (q : Addr) (st₀ t T' : State) (L : List Loc) (E : String) (ce : Cell), st₀.heap = H ∧ Stand p l e R s m args below meth c T' (locs ++ L) (cells + mc) (slots + ms) ∧ (∀ z ∈ L, free z.base) ∧ T'.heap = t.heap ∧ T'.vm = t.vm ∧ XC E st₀ t ∧ t.heap[q]? = some ce ∧ ce.vm = .none ∧ s.vm.findClass E = some ce.cls ∧
      Steps p.tables e below (T.setTop g) ((T'.setTop { g with stack := rest }).pushFrame (.throwing q)))
def vx_X {S : Type} (px : S → Prop) (B : String → S → State → Prop) (A : Nat → Prop) : String → State → State → Prop := fun E st t => ∃ u : S, px u ∧ B E u t ∧ va_F A st t
section Runs
variable {p : Program} {l : Launch} {e : Env} {R : Room} {s : State} {m : MethodId} {args : Array Value} {below : List Frame} {meth : Method} {c : Code} {H : Heap} {locs : List Loc} {cells slots : Nat}
variable {y : MethodName} {bytes cc : ByteArray} {maxL nL mc ms n index : Nat} {ret : Option FieldType} {ws : List Cond} {rm : Room} {Pc : Array Value → State → Prop} {Qc : Array Value → State → Outcome → State → Prop} {XC : String → State → State → Prop} {free : Addr → Prop} {Ts : List Cond} {own C : String} {b : Addr} {As rest : List Value} {g : JFrame}
theorem vx_callBack (cb : CallB R s args own index y bytes maxL ret ws rm mc ms n) (hM : vx_Met l y ws rm Pc Qc XC mc ms free) (hbl : FrameBlind Pc) : vx_Back l R p e below s args y 3 8 (PreOf R mc ms Pc) (PostOf Qc mc ms free) (vx_Post XC mc ms free) := by
  obtain ⟨hrc, hrs, hfr, hlo, hws, hcw, -, hini, -⟩ := cb
  exact vx_back (bytes := bytes) (maxL := maxL) (ret := ret) hM hbl hrc hrs hfr hlo hws hcw (fun a' U hW => word_at hW (Or.inl (by first | rfl | simp [Cond.onTables, Cond.keeps, Cond.steady])) hini)
theorem vx_runV (S : CallFix p m c cc nL s args Ts own) (hM : vx_Met l y ws rm Pc Qc XC mc ms free) (cw : CallW R s args own C index y bytes maxL ret ws rm mc ms n) (hp : PreV s H C b Pc As)
    (hg : g.method = m) (hn : As.length = n) (hsize : g.locals.size = nL) (hstack : g.stack = As.reverse ++ .ref b :: rest) (hW : 2 * g.monitorRoom + (rest.map fun v => v.category).sum ≤ 8) (hdg : decode cc g.pc = .ok (.invokevirtual index, 3)) (hf : cells + mc ≤ R.cells ∧ slots + ms ≤ R.slots) :
    vx_Run p l e R s m args below meth c H locs cells slots mc ms g rest (Qc (Value.ref b :: As).toArray) XC free := by
  have hK : vx_Back l R p e below s args y 3 8 (PreOf R mc ms Pc) (PostOf Qc mc ms free) (vx_Post XC mc ms free) := vx_callBack cw.1 hM hp.1
  obtain ⟨⟨-, -, -, -, -, -, hcode, -, hy, hlen, hl⟩, hin, hse⟩ := cw
  obtain ⟨hx, hb, hml, ho, -⟩ := S
  obtain ⟨-, ⟨cellB, hcB, hoB, hclB⟩, hPc⟩ := hp
  intro T hT X
  rcases vx_callV X hx (C := C) (bytes := bytes) (maxL := maxL) (ret := ret) ho hl hin hse hcode hy hK (by rw [hT]; exact hcB) hoB hclB hg (hsize.trans hml.symm) (argsL := As) (rest := rest) (fun sig h => hn.trans (hlen sig h)) hstack hW (by rw [hb]; exact hdg)
    (fun vm₁ hW₁ => ⟨hf.1, hf.2, hPc (T.setVm vm₁) hT hW₁⟩) with ⟨v, vm₁, ⟨U', l2, c2, s2⟩, hW₁, X', ⟨g', mk, t, L, e1, e2, hq, h1, hL, h2, h3⟩, st⟩ | ⟨q, vm₁, ⟨U', l2, c2, s2⟩, hW₁, X', ⟨g', mk, t, L, E, ce, e1, e2, hq, hce, hcv, hcl, h1, hL, h2, h3⟩, st⟩
  · dsimp only [Pt.U, Pt.locs, Pt.cells, Pt.slots] at X' e1 e2 h1 h2 h3 st
    subst h1; subst h2; subst h3
    exact Or.inl ⟨v, (T.setVm vm₁).calling g' mk (Value.ref b :: As).toArray, t, U', L, hT, X', hL, e1, e2, hq, st⟩
  · dsimp only [Pt.U, Pt.locs, Pt.cells, Pt.slots] at X' e1 e2 h1 h2 h3 st hcl
    subst h1; subst h2; subst h3
    exact Or.inr ⟨q, (T.setVm vm₁).calling g' mk (Value.ref b :: As).toArray, t, U', L, E, ce, hT, X', hL, e1, e2, hq, hce, hcv, vx_cls hW₁ hcl, st⟩
theorem vx_runS (S : CallFix p m c cc nL s args Ts own) (hM : vx_Met l y ws rm Pc Qc XC mc ms free) (cw : CallB R s args own index y bytes maxL ret ws rm mc ms n ∧ (Cond.static y).before args s = true) (hp : PreS s H Pc As)
    (hg : g.method = m) (hn : As.length = n) (hsize : g.locals.size = nL) (hstack : g.stack = As.reverse ++ rest) (hW : 2 * g.monitorRoom + (rest.map fun v => v.category).sum ≤ 8) (hdg : decode cc g.pc = .ok (.invokestatic index, 3)) (hf : cells + mc ≤ R.cells ∧ slots + ms ≤ R.slots) :
    vx_Run p l e R s m args below meth c H locs cells slots mc ms g rest (Qc As.toArray) XC free := by
  have hK : vx_Back l R p e below s args y 3 8 (PreOf R mc ms Pc) (PostOf Qc mc ms free) (vx_Post XC mc ms free) := vx_callBack cw.1 hM hp.1
  obtain ⟨⟨-, -, -, -, -, -, hcode, hini, hy, hlen, hl⟩, hstt⟩ := cw
  obtain ⟨hx, hb, hml, ho, -⟩ := S
  intro T hT X
  rcases vx_callS X hx (bytes := bytes) (maxL := maxL) (ret := ret) ho hl hstt hini hcode hy hK hg (hsize.trans hml.symm) (argsL := As) (rest := rest) (fun sig h => hn.trans (hlen sig h)) hstack hW (by rw [hb]; exact hdg)
    (fun vm₁ hW₁ => ⟨hf.1, hf.2, hp.2 (T.setVm vm₁) hT hW₁⟩) with ⟨v, vm₁, ⟨U', l2, c2, s2⟩, hW₁, X', ⟨g', mk, t, L, e1, e2, hq, h1, hL, h2, h3⟩, st⟩ | ⟨q, vm₁, ⟨U', l2, c2, s2⟩, hW₁, X', ⟨g', mk, t, L, E, ce, e1, e2, hq, hce, hcv, hcl, h1, hL, h2, h3⟩, st⟩
  · dsimp only [Pt.U, Pt.locs, Pt.cells, Pt.slots] at X' e1 e2 h1 h2 h3 st
    subst h1; subst h2; subst h3
    exact Or.inl ⟨v, (T.setVm vm₁).calling g' mk As.toArray, t, U', L, hT, X', hL, e1, e2, hq, st⟩
  · dsimp only [Pt.U, Pt.locs, Pt.cells, Pt.slots] at X' e1 e2 h1 h2 h3 st hcl
    subst h1; subst h2; subst h3
    exact Or.inr ⟨q, (T.setVm vm₁).calling g' mk As.toArray, t, U', L, E, ce, hT, X', hL, e1, e2, hq, hce, hcv, vx_cls hW₁ hcl, st⟩
end Runs
section Rows
variable {p : Program} {l : Launch} {e : Env} {R : Room} {s : State} {m : MethodId} {args : Array Value} {below : List Frame} {meth : Method} {c : Code} {H : Heap} {locs : List Loc} {cells slots : Nat} {Q : State → Prop}
variable {mc ms : Nat} {free : Addr → Prop} {A0 A1 : Nat → Prop} {H0 : Heap} {a : Array Value} {pc : Nat} {ls : Array Slot} {st0 rest : List Value}
theorem vx_keep {st₀ t T' : State} {L : List Loc} (h0 : st₀.heap = H) (e1 : T'.heap = t.heap) (hS : va_S A0 H0 H locs) (hA : ∀ q, q < H.size → A1 q → A0 q) (hf : ∀ q, free q → A0 q) (hL : ∀ q ∈ L, free q.base) (hF : va_F A1 st₀ t) :
    H.size ≤ T'.heap.size ∧ (∀ q : Nat, q < H.size → ¬ A1 q → T'.heap[q]? = H[q]?) ∧ va_S A0 H0 T'.heap (locs ++ L) := by
  obtain ⟨hz, hk⟩ := hF
  rw [h0] at hz hk
  exact ⟨by rw [e1]; exact hz, fun q h1 h2 => by rw [e1]; exact hk q h1 h2,
    ⟨Nat.le_trans hS.1 (by rw [e1]; exact hz), fun q h1 h2 => by rw [e1, hk q (Nat.lt_of_lt_of_le h1 hS.1) (fun z => h2 (hA q (Nat.lt_of_lt_of_le h1 hS.1) z))]; exact hS.2.1 q h1 h2, fun q hq => by
      rcases List.mem_append.mp hq with h | h
      · exact hS.2.2 q h
      · exact hf _ (hL q h)⟩⟩
theorem vx_calli {S SX : Type} {post : Int32 → S → Prop} {px : SX → Prop} {B : S → State → Prop} {BX : String → SX → State → Prop} {AX : Nat → Prop} (hr : vx_Run p l e R s m args below meth c H locs cells slots mc ms (F0 m pc ls st0) rest (va_Qi post B A1 a) (vx_X px BX AX) free) (hS : va_S A0 H0 H locs) (hA : ∀ q, q < H.size → A1 q → A0 q) (hf : ∀ q, free q → A0 q) (hAX : ∀ q, q < H.size → AX q → A0 q)
    (kx : ∀ (E : String) (ce : Cell) (q9 : Addr) (u : SX) (t : State) (H1 : Heap) (locs1 : List Loc), t.heap = H1 → s.vm.Alike t.vm → px u → BX E u t → H.size ≤ H1.size → (∀ q : Nat, q < H.size → ¬ AX q → H1[q]? = H[q]?) → va_S A0 H0 H1 locs1 → H1[q9]? = some ce → ce.vm = .none → s.vm.findClass E = some ce.cls → vx_W p l e R s m args below meth c H1 locs1 (cells + mc) (slots + ms) Q (F0 m pc ls rest) q9)
    (kk : ∀ (r : Int32) (u : S) (t : State) (H1 : Heap) (locs1 : List Loc), t.heap = H1 → s.vm.Alike t.vm → post r u → B u t → H.size ≤ H1.size → (∀ q : Nat, q < H.size → ¬ A1 q → H1[q]? = H[q]?) → va_S A0 H0 H1 locs1 → W p l e R s m args below meth c H1 locs1 (cells + mc) (slots + ms) Q (F0 m (pc + 3) ls (.int r :: rest))) : W p l e R s m args below meth c H locs cells slots Q (F0 m pc ls st0) := by
  intro T hT X
  rcases hr T hT X with ⟨v, st₀, t, T', L, h0, X', hL, e1, e2, ⟨⟨r, u, hv, hp, hb⟩, hF⟩, st⟩ | ⟨q, st₀, t, T', L, E, ce, h0, X', hL, e1, e2, ⟨u, hp, hb, hF⟩, hce, hcv, hcl, st⟩
  · cases hv
    obtain ⟨k1, k2, k3⟩ := vx_keep h0 e1 hS hA hf hL hF
    obtain ⟨t2, a1, b1⟩ := kk r u t T'.heap (locs ++ L) e1.symm (by rw [← e2]; exact X'.warmed.alike) hp hb k1 k2 k3 T' rfl X'
    exact ⟨t2, st t2 a1, b1⟩
  · obtain ⟨k1, k2, k3⟩ := vx_keep h0 e1 hS hAX hf hL hF
    obtain ⟨t2, a1, b1⟩ := kx E ce q u t T'.heap (locs ++ L) e1.symm (by rw [← e2]; exact X'.warmed.alike) hp hb k1 k2 k3 (by rw [e1]; exact hce) hcv hcl T' rfl X'
    exact ⟨t2, st.trans a1, b1⟩
theorem vx_calll {S SX : Type} {post : Int64 → S → Prop} {px : SX → Prop} {B : S → State → Prop} {BX : String → SX → State → Prop} {AX : Nat → Prop} (hr : vx_Run p l e R s m args below meth c H locs cells slots mc ms (F0 m pc ls st0) rest (va_Ql post B A1 a) (vx_X px BX AX) free) (hS : va_S A0 H0 H locs) (hA : ∀ q, q < H.size → A1 q → A0 q) (hf : ∀ q, free q → A0 q) (hAX : ∀ q, q < H.size → AX q → A0 q)
    (kx : ∀ (E : String) (ce : Cell) (q9 : Addr) (u : SX) (t : State) (H1 : Heap) (locs1 : List Loc), t.heap = H1 → s.vm.Alike t.vm → px u → BX E u t → H.size ≤ H1.size → (∀ q : Nat, q < H.size → ¬ AX q → H1[q]? = H[q]?) → va_S A0 H0 H1 locs1 → H1[q9]? = some ce → ce.vm = .none → s.vm.findClass E = some ce.cls → vx_W p l e R s m args below meth c H1 locs1 (cells + mc) (slots + ms) Q (F0 m pc ls rest) q9)
    (kk : ∀ (r : Int64) (u : S) (t : State) (H1 : Heap) (locs1 : List Loc), t.heap = H1 → s.vm.Alike t.vm → post r u → B u t → H.size ≤ H1.size → (∀ q : Nat, q < H.size → ¬ A1 q → H1[q]? = H[q]?) → va_S A0 H0 H1 locs1 → W p l e R s m args below meth c H1 locs1 (cells + mc) (slots + ms) Q (F0 m (pc + 3) ls (.long r :: rest))) : W p l e R s m args below meth c H locs cells slots Q (F0 m pc ls st0) := by
  intro T hT X
  rcases hr T hT X with ⟨v, st₀, t, T', L, h0, X', hL, e1, e2, ⟨⟨r, u, hv, hp, hb⟩, hF⟩, st⟩ | ⟨q, st₀, t, T', L, E, ce, h0, X', hL, e1, e2, ⟨u, hp, hb, hF⟩, hce, hcv, hcl, st⟩
  · cases hv
    obtain ⟨k1, k2, k3⟩ := vx_keep h0 e1 hS hA hf hL hF
    obtain ⟨t2, a1, b1⟩ := kk r u t T'.heap (locs ++ L) e1.symm (by rw [← e2]; exact X'.warmed.alike) hp hb k1 k2 k3 T' rfl X'
    exact ⟨t2, st t2 a1, b1⟩
  · obtain ⟨k1, k2, k3⟩ := vx_keep h0 e1 hS hAX hf hL hF
    obtain ⟨t2, a1, b1⟩ := kx E ce q u t T'.heap (locs ++ L) e1.symm (by rw [← e2]; exact X'.warmed.alike) hp hb k1 k2 k3 (by rw [e1]; exact hce) hcv hcl T' rfl X'
    exact ⟨t2, st.trans a1, b1⟩
theorem vx_callf {S SX : Type} {post : UInt32 → S → Prop} {px : SX → Prop} {B : S → State → Prop} {BX : String → SX → State → Prop} {AX : Nat → Prop} (hr : vx_Run p l e R s m args below meth c H locs cells slots mc ms (F0 m pc ls st0) rest (va_Qf post B A1 a) (vx_X px BX AX) free) (hS : va_S A0 H0 H locs) (hA : ∀ q, q < H.size → A1 q → A0 q) (hf : ∀ q, free q → A0 q) (hAX : ∀ q, q < H.size → AX q → A0 q)
    (kx : ∀ (E : String) (ce : Cell) (q9 : Addr) (u : SX) (t : State) (H1 : Heap) (locs1 : List Loc), t.heap = H1 → s.vm.Alike t.vm → px u → BX E u t → H.size ≤ H1.size → (∀ q : Nat, q < H.size → ¬ AX q → H1[q]? = H[q]?) → va_S A0 H0 H1 locs1 → H1[q9]? = some ce → ce.vm = .none → s.vm.findClass E = some ce.cls → vx_W p l e R s m args below meth c H1 locs1 (cells + mc) (slots + ms) Q (F0 m pc ls rest) q9)
    (kk : ∀ (r : UInt32) (u : S) (t : State) (H1 : Heap) (locs1 : List Loc), t.heap = H1 → s.vm.Alike t.vm → post r u → B u t → H.size ≤ H1.size → (∀ q : Nat, q < H.size → ¬ A1 q → H1[q]? = H[q]?) → va_S A0 H0 H1 locs1 → W p l e R s m args below meth c H1 locs1 (cells + mc) (slots + ms) Q (F0 m (pc + 3) ls (.float r :: rest))) : W p l e R s m args below meth c H locs cells slots Q (F0 m pc ls st0) := by
  intro T hT X
  rcases hr T hT X with ⟨v, st₀, t, T', L, h0, X', hL, e1, e2, ⟨⟨r, u, hv, hp, hb⟩, hF⟩, st⟩ | ⟨q, st₀, t, T', L, E, ce, h0, X', hL, e1, e2, ⟨u, hp, hb, hF⟩, hce, hcv, hcl, st⟩
  · cases hv
    obtain ⟨k1, k2, k3⟩ := vx_keep h0 e1 hS hA hf hL hF
    obtain ⟨t2, a1, b1⟩ := kk r u t T'.heap (locs ++ L) e1.symm (by rw [← e2]; exact X'.warmed.alike) hp hb k1 k2 k3 T' rfl X'
    exact ⟨t2, st t2 a1, b1⟩
  · obtain ⟨k1, k2, k3⟩ := vx_keep h0 e1 hS hAX hf hL hF
    obtain ⟨t2, a1, b1⟩ := kx E ce q u t T'.heap (locs ++ L) e1.symm (by rw [← e2]; exact X'.warmed.alike) hp hb k1 k2 k3 (by rw [e1]; exact hce) hcv hcl T' rfl X'
    exact ⟨t2, st.trans a1, b1⟩
theorem vx_calld {S SX : Type} {post : UInt64 → S → Prop} {px : SX → Prop} {B : S → State → Prop} {BX : String → SX → State → Prop} {AX : Nat → Prop} (hr : vx_Run p l e R s m args below meth c H locs cells slots mc ms (F0 m pc ls st0) rest (va_Qd post B A1 a) (vx_X px BX AX) free) (hS : va_S A0 H0 H locs) (hA : ∀ q, q < H.size → A1 q → A0 q) (hf : ∀ q, free q → A0 q) (hAX : ∀ q, q < H.size → AX q → A0 q)
    (kx : ∀ (E : String) (ce : Cell) (q9 : Addr) (u : SX) (t : State) (H1 : Heap) (locs1 : List Loc), t.heap = H1 → s.vm.Alike t.vm → px u → BX E u t → H.size ≤ H1.size → (∀ q : Nat, q < H.size → ¬ AX q → H1[q]? = H[q]?) → va_S A0 H0 H1 locs1 → H1[q9]? = some ce → ce.vm = .none → s.vm.findClass E = some ce.cls → vx_W p l e R s m args below meth c H1 locs1 (cells + mc) (slots + ms) Q (F0 m pc ls rest) q9)
    (kk : ∀ (r : UInt64) (u : S) (t : State) (H1 : Heap) (locs1 : List Loc), t.heap = H1 → s.vm.Alike t.vm → post r u → B u t → H.size ≤ H1.size → (∀ q : Nat, q < H.size → ¬ A1 q → H1[q]? = H[q]?) → va_S A0 H0 H1 locs1 → W p l e R s m args below meth c H1 locs1 (cells + mc) (slots + ms) Q (F0 m (pc + 3) ls (.double r :: rest))) : W p l e R s m args below meth c H locs cells slots Q (F0 m pc ls st0) := by
  intro T hT X
  rcases hr T hT X with ⟨v, st₀, t, T', L, h0, X', hL, e1, e2, ⟨⟨r, u, hv, hp, hb⟩, hF⟩, st⟩ | ⟨q, st₀, t, T', L, E, ce, h0, X', hL, e1, e2, ⟨u, hp, hb, hF⟩, hce, hcv, hcl, st⟩
  · cases hv
    obtain ⟨k1, k2, k3⟩ := vx_keep h0 e1 hS hA hf hL hF
    obtain ⟨t2, a1, b1⟩ := kk r u t T'.heap (locs ++ L) e1.symm (by rw [← e2]; exact X'.warmed.alike) hp hb k1 k2 k3 T' rfl X'
    exact ⟨t2, st t2 a1, b1⟩
  · obtain ⟨k1, k2, k3⟩ := vx_keep h0 e1 hS hAX hf hL hF
    obtain ⟨t2, a1, b1⟩ := kx E ce q u t T'.heap (locs ++ L) e1.symm (by rw [← e2]; exact X'.warmed.alike) hp hb k1 k2 k3 (by rw [e1]; exact hce) hcv hcl T' rfl X'
    exact ⟨t2, st.trans a1, b1⟩
theorem vx_callv {S SX : Type} {post : S → Prop} {px : SX → Prop} {B : S → State → Prop} {BX : String → SX → State → Prop} {AX : Nat → Prop} (hr : vx_Run p l e R s m args below meth c H locs cells slots mc ms (F0 m pc ls st0) rest (va_Qv post B A1 a) (vx_X px BX AX) free) (hS : va_S A0 H0 H locs) (hA : ∀ q, q < H.size → A1 q → A0 q) (hf : ∀ q, free q → A0 q) (hAX : ∀ q, q < H.size → AX q → A0 q)
    (kx : ∀ (E : String) (ce : Cell) (q9 : Addr) (u : SX) (t : State) (H1 : Heap) (locs1 : List Loc), t.heap = H1 → s.vm.Alike t.vm → px u → BX E u t → H.size ≤ H1.size → (∀ q : Nat, q < H.size → ¬ AX q → H1[q]? = H[q]?) → va_S A0 H0 H1 locs1 → H1[q9]? = some ce → ce.vm = .none → s.vm.findClass E = some ce.cls → vx_W p l e R s m args below meth c H1 locs1 (cells + mc) (slots + ms) Q (F0 m pc ls rest) q9)
    (kk : ∀ (u : S) (t : State) (H1 : Heap) (locs1 : List Loc), t.heap = H1 → s.vm.Alike t.vm → post u → B u t → H.size ≤ H1.size → (∀ q : Nat, q < H.size → ¬ A1 q → H1[q]? = H[q]?) → va_S A0 H0 H1 locs1 → W p l e R s m args below meth c H1 locs1 (cells + mc) (slots + ms) Q (F0 m (pc + 3) ls (rest))) : W p l e R s m args below meth c H locs cells slots Q (F0 m pc ls st0) := by
  intro T hT X
  rcases hr T hT X with ⟨v, st₀, t, T', L, h0, X', hL, e1, e2, ⟨⟨u, hv, hp, hb⟩, hF⟩, st⟩ | ⟨q, st₀, t, T', L, E, ce, h0, X', hL, e1, e2, ⟨u, hp, hb, hF⟩, hce, hcv, hcl, st⟩
  · cases hv
    obtain ⟨k1, k2, k3⟩ := vx_keep h0 e1 hS hA hf hL hF
    obtain ⟨t2, a1, b1⟩ := kk u t T'.heap (locs ++ L) e1.symm (by rw [← e2]; exact X'.warmed.alike) hp hb k1 k2 k3 T' rfl X'
    exact ⟨t2, st t2 a1, b1⟩
  · obtain ⟨k1, k2, k3⟩ := vx_keep h0 e1 hS hAX hf hL hF
    obtain ⟨t2, a1, b1⟩ := kx E ce q u t T'.heap (locs ++ L) e1.symm (by rw [← e2]; exact X'.warmed.alike) hp hb k1 k2 k3 (by rw [e1]; exact hce) hcv hcl T' rfl X'
    exact ⟨t2, st.trans a1, b1⟩
/-- caught by the row x of this method's table; the rows ahead don't take it -/
theorem vx_catch {own name : String} {E : String} {ce : Cell} {q : Addr} (hown : s.vm.findClass own = some m.cls) (pre : List ExceptionTableEntry) (x : ExceptionTableEntry) (suf : List ExceptionTableEntry) (hsplit : c.exceptionTable.toList = pre ++ x :: suf)
    (hpass : ∀ z ∈ pre, covers z pc = false ∨ (z.catchType ≠ 0 ∧ ∃ nm : String, (Cond.classLink own z.catchType nm).before args s = true ∧ va_Nc E nm s)) (hx : covers x pc = true) (h0 : x.catchType ≠ 0)
    (hlink : (Cond.classLink own x.catchType name).before args s = true) (hcast : (Cond.castable E name).before args s = true) (hcell : H[q]? = some ce) (hv : ce.vm = .none) (hcl : s.vm.findClass E = some ce.cls)
    (kk : W p l e R s m args below meth c H locs cells slots Q (F0 m x.handlerPc ls [.ref q])) : vx_W p l e R s m args below meth c H locs cells slots Q (F0 m pc ls rest) q := by
  intro T hT X
  have hpl : e.platform.magicAccessors = ({} : Platform).magicAccessors := by rw [X.admits.platform]
  obtain ⟨c3, c4, hc3, hc4, hasg⟩ := Cond.castable_spec hcast
  cases Option.some.inj (hc3.symm.trans hcl)
  obtain ⟨c5, hc5, hcl5⟩ := Cond.classLink_spec hown hlink e.platform hpl
  cases Option.some.inj (hc4.symm.trans hc5)
  obtain ⟨vm', X', st⟩ := X.thenCaughtThrough q (g := F0 m pc ls rest) rfl (Steps.refl _) (by rw [hT]; exact hcell) (by rw [hv]; rfl) (by obtain ⟨k9, h9, -⟩ := Vm.findClass_spec hcl; exact ⟨k9, h9⟩) pre x suf hsplit
    (fun z hz => by
      rcases hpass z hz with h | ⟨hz0, nm, hl1, hn1⟩
      · exact Or.inl h
      · obtain ⟨c6, hc6, hcl6⟩ := Cond.classLink_spec hown hl1 e.platform hpl
        obtain ⟨a8, b8, h1, h2, h3⟩ := hn1
        cases Option.some.inj (h1.symm.trans hcl)
        cases Option.some.inj (h2.symm.trans hc6)
        exact Or.inr ⟨hz0, _, hcl6, h3⟩) hx (Or.inr ⟨h0, c4, hcl5, hasg⟩)
  obtain ⟨t, a1, b1⟩ := kk (T.setVm vm') hT X'
  exact ⟨t, st.trans a1, b1⟩
end Rows
section Ends
variable {p : Program} {l : Launch} {e : Env} {R : Room} {s : State} {m : MethodId} {args : Array Value} {below : List Frame} {meth : Method} {c : Code} {H : Heap} {locs : List Loc} {cells slots : Nat} {Q : State → Prop}
variable {mc ms : Nat} {free : Addr → Prop} {A0 A1 : Nat → Prop} {H0 : Heap} {a : Array Value} {ls : Array Slot} {st0 rest : List Value}
variable {Qc : Array Value → State → Outcome → State → Prop} {XC : String → State → State → Prop}
/-- what a body that may throw owes at its end -/
def vx_MQ (below : List Frame) (Qc : Array Value → State → Outcome → State → Prop) (XC : String → State → State → Prop) (a : Array Value) (s : State) (mc ms : Nat) (free : Addr → Prop) : State → Prop := fun t =>
  ∃ o, t.status = .running ∧ Ended t below o ∧ vx_Q Qc XC mc ms free a s o t
theorem vx_ret {g : JFrame} {mc ms : Nat} (k : W p l e R s m args below meth c H locs cells slots (MQ below Qc args s mc ms free) g) : W p l e R s m args below meth c H locs cells slots (vx_MQ below Qc XC args s mc ms free) g := by
  intro T hT X
  obtain ⟨t, a1, o, b1, b2, b3, b4⟩ := k T hT X
  exact ⟨t, a1, o, b1, b2, Or.inl ⟨b3, b4⟩⟩
/-- not caught here: it goes on to the caller -/
theorem vx_widen {g : JFrame} {q : Addr} {k n : Nat} (h1 : cells ≤ k) (h2 : slots ≤ n) (kk : vx_W p l e R s m args below meth c H locs k n Q g q) : vx_W p l e R s m args below meth c H locs cells slots Q g q := fun T hT X => kk T hT (stand_widen X h1 h2)
theorem vx_out {pc : Nat} {E : String} {ce : Cell} {q : Addr} {mc ms : Nat} (hout : ∀ x ∈ c.exceptionTable.toList, covers x pc = false) (hlocks : meth.locks = false) (hcell : H[q]? = some ce) (hv : ce.vm = .none) (hcl : s.vm.findClass E = some ce.cls)
    (hx : ∀ t : State, t.heap = H → s.vm.Alike t.vm → XC E s t) (hf : ∀ z ∈ locs, free z.base) (hc : cells ≤ mc) (hs : slots ≤ ms) :
    vx_W p l e R s m args below meth c H locs cells slots (vx_MQ below Qc XC args s mc ms free) (F0 m pc ls rest) q := by
  intro T hT X
  obtain ⟨st1, hrun, hend, hW, hsm⟩ := X.leaveThrown q (g := F0 m pc ls rest) rfl rfl rfl hout hlocks
  have hcell9 : (T.setFrames (.throwing q :: below)).heap[q]? = some ce := by
    show T.heap[q]? = some ce
    rw [hT]; exact hcell
  exact ⟨_, st1, .threw q, hrun, hend, Or.inr ⟨q, rfl, E, ce, locs, hx _ hT hW.alike, hcell9, hv, hcl, hW, hsm.mono hc hs, hf⟩⟩
theorem vx_frame {U : State} {k n : Nat} (h : s.sameButNew ({ U with vm := s.vm } : State) locs k n) : s.heap.size ≤ U.heap.size ∧ ∀ q : Nat, q < s.heap.size → (∀ z ∈ locs, z.base ≠ q) → U.heap[q]? = s.heap[q]? := by
  obtain ⟨-, h2, -, -, -, h6⟩ := h
  refine ⟨h2, fun q hq hz => ?_⟩
  obtain ⟨c9, e1, e2, e3, e4⟩ := h6 q _ (Array.getElem?_eq_getElem hq)
  have hs : c9.slots = (s.heap[q]).slots := Array.ext_getElem? fun i => e4 i fun hm => hz _ hm rfl
  have h9 : c9 = s.heap[q] := by
    rw [hs] at e2
    exact e2
  have e5 : U.heap[q]? = some c9 := e1
  rw [e5, h9, Array.getElem?_eq_getElem hq]
/-- the words of a throw but the four that speak of the heap -/
def vx_no (w : Cond) : Bool := decide (w ≠ .isRef (.static Bundle.tN "UNASSIGNED_STACK" Bundle.steD)) && decide (w ≠ .isRef (.static Bundle.tN "SUPPRESSED_SENTINEL" Bundle.listD)) && decide (w ≠ .laysStatic Bundle.tN "UNASSIGNED_STACK" Bundle.steD) && decide (w ≠ .laysStatic Bundle.tN "SUPPRESSED_SENTINEL" Bundle.listD)
def vx_at0 (own : String) (ic : Nat) (X : String) (names : List String) : List Cond := (Bundle.ownAtoms0 own ic X names).filter vx_no
def vx_atS (own : String) (ic : Nat) (X : String) (names : List String) : List Cond := (Bundle.ownAtoms own ic X names).filter vx_no
/-- a word that the tables alone decide, or a good one -/
def vx_ot (w : Cond) : Bool := w.onTables || goodWord w
theorem vx_ot_at {args a' : Array Value} {s U : State} {w : Cond} (hW : s.WarmedH U.vm) (hvm : s.vm = U.vm) (hg : vx_ot w = true) (h : w.before args s = true) : w.before a' U = true := by
  simp only [vx_ot, Bool.or_eq_true] at hg
  rcases hg with hg | hg
  · exact va_tabs hg hvm h
  · exact word_at hW (good_of_word hg) h
/-- a list's words: the good ones out of the method's own list, the others by premises of their own -/
theorem vx_hat {args : Array Value} {s : State} {L B : List Cond} (h1 : ∀ w ∈ L.filter goodWord, w.before args s = true) (h2 : ∀ w ∈ L.filter (fun w => !goodWord w), w ∈ B) (h3 : ∀ w ∈ B, w.before args s = true) : ∀ w ∈ L, w.before args s = true := by
  intro w hw
  by_cases g : goodWord w = true
  · exact h1 w (List.mem_filter.mpr ⟨hw, g⟩)
  · refine h3 w (h2 w (List.mem_filter.mpr ⟨hw, ?_⟩))
    show (!goodWord w) = true
    cases hgw : goodWord w
    · rfl
    · exact absurd hgw g
theorem vx_c {args : Array Value} {s : State} {w : Cond} {B : List Cond} (h : w.before args s = true) (t : ∀ w ∈ B, w.before args s = true) : ∀ w' ∈ w :: B, w'.before args s = true := fun w' h' => (List.mem_cons.mp h').elim (fun e => by rw [e]; exact h) (t w')
theorem vx_n {args : Array Value} {s : State} : ∀ w ∈ ([] : List Cond), w.before args s = true := fun _ h => nomatch h
theorem vx_own {args : Array Value} {s : State} {L : List Cond} (h1 : ∀ w ∈ L.filter vx_no, w.before args s = true)
    (hU : (Cond.isRef (.static Bundle.tN "UNASSIGNED_STACK" Bundle.steD)).before args s = true) (hN : (Cond.isRef (.static Bundle.tN "SUPPRESSED_SENTINEL" Bundle.listD)).before args s = true)
    (lU : (Cond.laysStatic Bundle.tN "UNASSIGNED_STACK" Bundle.steD).before args s = true) (lN : (Cond.laysStatic Bundle.tN "SUPPRESSED_SENTINEL" Bundle.listD).before args s = true) : ∀ w ∈ L, w.before args s = true := by
  intro w hw
  by_cases e1 : w = .isRef (.static Bundle.tN "UNASSIGNED_STACK" Bundle.steD)
  · rw [e1]; exact hU
  · by_cases e2 : w = .isRef (.static Bundle.tN "SUPPRESSED_SENTINEL" Bundle.listD)
    · rw [e2]; exact hN
    · by_cases e3 : w = .laysStatic Bundle.tN "UNASSIGNED_STACK" Bundle.steD
      · rw [e3]; exact lU
      · by_cases e4 : w = .laysStatic Bundle.tN "SUPPRESSED_SENTINEL" Bundle.listD
        · rw [e4]; exact lN
        · exact h1 w (List.mem_filter.mpr ⟨hw, by unfold vx_no; rw [decide_eq_true e1, decide_eq_true e2, decide_eq_true e3, decide_eq_true e4]; rfl⟩)
/-- where a static field lies, its class's statics cell in H -/
def vx_L (C n d : String) (A : Nat → Prop) (U : State) (H : Heap) : Prop := ∃ (c : ClassId) (k : Class) (i : Nat) (f : Field) (a : Nat) (cell : Cell), U.vm.findClass C = some c ∧ U.fieldFound? C n d = some (c, k, i, f) ∧ f.isStatic = true ∧ k.statics = some a ∧ H[a]? = some cell ∧ cell.vm.isStatics = true ∧ cell.cls = c ∧ f.slot < cell.slots.size ∧ k.staticTypes[f.slot]? = some f.type ∧ ¬ A a
theorem vx_L.moved {C n d : String} {A : Nat → Prop} {u U : State} {H : Heap} (hvm : u.vm.Alike U.vm) (h : vx_L C n d A u H) : vx_L C n d A U H := by
  obtain ⟨c, k, i, f, a, cell, h1, h2, h3, h4, h5, h6, h7, h8, h9, h10⟩ := h
  obtain ⟨k', hi', he⟩ := State.fieldFound?_setVm hvm h2
  exact ⟨c, k', i, f, a, cell, by rw [hvm.findClass]; exact h1, hi', h3, by rw [he]; exact h4, h5, h6, h7, h8, by rw [he]; exact h9, h10⟩
theorem vx_L.kept {C n d : String} {A : Nat → Prop} {U : State} {H H1 : Heap} (h : vx_L C n d A U H) (hq : ∀ a : Nat, a < H.size → ¬ A a → H1[a]? = H[a]?) : vx_L C n d A U H1 := by
  obtain ⟨c, k, i, f, a, cell, h1, h2, h3, h4, h5, h6, h7, h8, h9, h10⟩ := h
  exact ⟨c, k, i, f, a, cell, h1, h2, h3, h4, by rw [hq a (Array.getElem?_eq_some_iff.mp h5).1 h10]; exact h5, h6, h7, h8, h9, h10⟩
theorem vx_L.narrow {C n d : String} {A B : Nat → Prop} {U : State} {H : Heap} (h : vx_L C n d A U H) (hAB : ∀ q, B q → A q) : vx_L C n d B U H := by
  obtain ⟨c, k, i, f, a, cell, h1, h2, h3, h4, h5, h6, h7, h8, h9, h10⟩ := h
  exact ⟨c, k, i, f, a, cell, h1, h2, h3, h4, h5, h6, h7, h8, h9, fun z => h10 (hAB _ z)⟩
theorem vx_L.word {C n d : String} {A : Nat → Prop} {s : State} {args : Array Value} (h : vx_L C n d A s s.heap) : (Cond.laysStatic C n d).before args s = true := by
  obtain ⟨c, k, i, f, a, cell, h1, h2, h3, h4, h5, h6, h7, h8, h9, -⟩ := h
  show (Cond.laysStatic C n d).holds args s none s [] = true
  exact Cond.laysStatic_of h1 h2 h3 h4 h5 h6 h7 h8 h9
/-- .. and what it holds: null or some reference -/
def vx_Zq (C n d : String) (A : Nat → Prop) (U : State) (H : Heap) : Prop := va_Zq C n d A U H ∧ vx_L C n d A U H
theorem vx_Zq.moved {C n d : String} {A : Nat → Prop} {u U : State} {H : Heap} (hvm : u.vm.Alike U.vm) (h : vx_Zq C n d A u H) : vx_Zq C n d A U H := ⟨va_Zq.moved hvm h.1, vx_L.moved hvm h.2⟩
theorem vx_Zq.kept {C n d : String} {A : Nat → Prop} {U : State} {H H1 : Heap} (h : vx_Zq C n d A U H) (hq : ∀ a : Nat, a < H.size → ¬ A a → H1[a]? = H[a]?) : vx_Zq C n d A U H1 := ⟨va_Zq.kept h.1 hq, vx_L.kept h.2 hq⟩
theorem vx_Zq.narrow {C n d : String} {A B : Nat → Prop} {U : State} {H : Heap} (h : vx_Zq C n d A U H) (hAB : ∀ q, B q → A q) : vx_Zq C n d B U H := ⟨va_Zq.narrow h.1 hAB, vx_L.narrow h.2 hAB⟩
theorem vx_Zqof {args : Array Value} {s : State} {C n d : String} {A : Nat → Prop} (hl : (Cond.laysStatic C n d).before args s = true) (hini : (Cond.initialized C).before args s = true) (h : (Cond.isRef (.static C n d)).before args s = true) (hA : ∀ a : Nat, a < s.heap.size → ¬ A a) : vx_Zq C n d A s s.heap := by
  refine ⟨va_Zqof hl hini h hA, ?_⟩
  obtain ⟨c, k, i, f, a, cell, h1, h2, h3, h4, h5, h6, h7, h8, h9⟩ := Cond.laysStatic_spec hl
  exact ⟨c, k, i, f, a, cell, h1, h2, h3, h4, h5, h6, h7, h8, h9, hA a (Array.getElem?_eq_some_iff.mp h5).1⟩
theorem vx_isRef {C n d : String} {v : Value} {A : Nat → Prop} {s : State} {args : Array Value} (h : va_Z C n d v A s s.heap) (hv : v.isRef = true) : (Cond.isRef (.static C n d)).before args s = true := by
  obtain ⟨cf, kf, fi, f, a, cell, h1, h2, h3, h4, h5, h6, h7, -⟩ := h
  have he : (Term.static C n d).eval args s none [] s = some v := by
    simp [Term.eval, State.fieldNamed?, h1, h2, h4, h5, h6, h7]
  simp only [Cond.before, Cond.holds, Cond.value, he]
  cases v <;> simp_all [Value.isRef]
theorem vx_isRefq {C n d : String} {A : Nat → Prop} {s : State} {args : Array Value} (h : va_Zq C n d A s s.heap) : (Cond.isRef (.static C n d)).before args s = true := by
  rcases h with h | ⟨t, h⟩
  · exact vx_isRef h rfl
  · exact vx_isRef h rfl
/-- the same frame, seen from here: as if the method were called anew in this heap -/
theorem vx_rebase {T : State} (X : Stand p l e R s m args below meth c T locs cells slots) {R' : Room} (hf : R'.frames ≤ R.frames) (hl : R'.locals ≤ R.locals) (hc : cells + R'.cells ≤ R.cells) (hs : slots + R'.slots ≤ R.slots) :
    Stand p l e R' ((T.setVm s.vm).setFrames (.invoking m args :: below)) m args below meth c T [] 0 0 := by
  have htop : (T.setVm s.vm).topJava?.isSome := X.here.top
  have hF : ((T.setVm s.vm).setFrames (.invoking m args :: below)).frames = .invoking m args :: below := State.frames_setFrames _ (State.cur_lt_of_top htop)
  obtain ⟨g₀, hg0⟩ := Option.isSome_iff_exists.mp htop
  obtain ⟨r, hr⟩ := State.topJava?_eq_some.mp hg0
  have hl9 : e.platform.stackLimits (T.setVm s.vm).me = e.platform.stackLimits s.me := X.limits
  have hb9 : (T.setVm s.vm).me.stackBytes = s.me.stackBytes := X.bytes
  refine ⟨X.admits, X.cas, X.clock, hF, ?_, X.hears, X.method, X.code, X.here, X.tail, X.warmed, ?_, ?_, ?_⟩
  · have h := X.room
    have hU : ((T.setVm s.vm).setFrames (.invoking m args :: below)).localsInUse = s.localsInUse := by
      rw [State.localsInUse_invoking hF (meth := meth) (c := c) X.method X.code, State.localsInUse_invoking X.frames X.method X.code]
    simp only [State.hasRoom, Bool.and_eq_true, decide_eq_true_eq] at h ⊢
    obtain ⟨⟨⟨⟨h1, h2, h3, h4, h5, h6⟩, h7⟩, h8⟩, h9⟩ := h
    rw [X.frames, List.length_cons] at h2 h3
    have q1 := X.heapSize
    have q2 := X.used
    simp only [hF, hU, List.length_cons, State.stackLimits_setFrames, State.stackBytes_setFrames, hl9, hb9]
    refine ⟨⟨⟨⟨by omega, by omega, by omega, by omega, by omega, h6⟩, ?_⟩, ?_⟩, X.book⟩
    · show T.heap.size + R'.cells ≤ e.platform.maxCells
      omega
    · show T.slotsUsed + R'.slots ≤ e.platform.maxSlots
      omega
  · rw [State.stackLimits_setFrames]; rfl
  · rw [State.stackBytes_setFrames]; rfl
  · refine ⟨?_, Nat.le_refl _, Nat.le_refl _, ?_, ?_, fun a c9 h9 => ⟨c9, h9, rfl, rfl, fun _ _ => rfl⟩⟩
    · obtain ⟨t, ht, -⟩ := State.frames_cons hr
      show T.setVm s.vm = { ((T.setVm s.vm).setFrames (.invoking m args :: below)).setFrames (T.setVm s.vm).frames with heap := T.heap, slotsUsed := T.slotsUsed }
      rw [State.setFrames_setFrames, State.setFrames_self ht]
      rfl
    · show T.slotsUsed = T.slotsUsed + ((T.heap.toList.drop T.heap.size).map (·.slots.size)).sum
      rw [List.drop_eq_nil_of_le (Nat.le_of_eq Array.length_toList)]
      rfl
    · show ((T.heap.toList.drop T.heap.size).map (·.slots.size)).sum ≤ 0
      rw [List.drop_eq_nil_of_le (Nat.le_of_eq Array.length_toList)]
      exact Nat.le_refl _
/-- 'throw new E()': new; dup; invokespecial; athrow -/
theorem vx_throw0 {cc : ByteArray} {pc : Nat} (hexec : p.tables.exec = Jvm.exec) (hb : c.code = cc) (hl : l.stackTraces = false) {own cls : String} {names : List String} {ik ic mc ms : Nat} {A : Nat → Prop}
    (hown : s.vm.findClass own = some m.cls) (hcls : Bundle.fit cls = true) (hnames : ∀ n ∈ names, Bundle.fit n = true)
    (hk : (Cond.classLink own ik cls).before args s = true) (hini : (Cond.initialized cls).before args s = true) (hat : ∀ w ∈ vx_at0 own ic cls names, w.before args s = true)
    (hgood : ∀ w ∈ Cond.classLink own ik cls :: Cond.initialized cls :: vx_at0 own ic cls names, vx_ot w = true)
    (hU : vx_Zq Bundle.tN "UNASSIGNED_STACK" Bundle.steD A s s.heap) (hN : vx_Zq Bundle.tN "SUPPRESSED_SENTINEL" Bundle.listD A s s.heap) (hS : va_S A s.heap H locs) (hsize : ls.size = c.maxLocals)
    (d0 : decode cc pc = .ok (.new ik, 3)) (d3 : decode cc (pc + 3) = .ok (.dup, 1)) (d4 : decode cc (pc + 4) = .ok (.invokespecial ic, 3)) (d7 : decode cc (pc + 7) = .ok (.athrow, 1))
    (hout : ∀ x ∈ c.exceptionTable.toList, covers x (pc + 7) = false)
    (hRframes : names.length + 3 < R.frames) (hRlocals : (rest.map fun v => v.category).sum + (13 * (names.length + 1) + 42) ≤ R.locals) (hRcells : cells + 1 ≤ R.cells) (hRslots : slots + 6 ≤ R.slots) (hlocks : meth.locks = false)
    (hx : ∀ t : State, s.vm.Alike t.vm → H.size ≤ t.heap.size → (∀ q : Nat, q < H.size → t.heap[q]? = H[q]?) → XC cls s t)
    (hf : ∀ z ∈ locs, free z.base) (hc : cells + 1 ≤ mc) (hs : slots + 6 ≤ ms) :
    W p l e R s m args below meth c H locs cells slots (vx_MQ below Qc XC args s mc ms free) (F0 m pc ls rest) := by
  intro T hT X
  have htr : e.platform.stackTraces = false := (show e.platform.stackTraces = l.stackTraces by rw [X.admits.platform]).trans hl
  have Y := vx_rebase X (R' := { frames := R.frames, locals := R.locals, cells := 1, slots := 6 }) (Nat.le_refl _) (Nat.le_refl _) hRcells hRslots
  obtain ⟨s', hA⟩ : ∃ z, z = (T.setVm s.vm).setFrames (.invoking m args :: below) := ⟨_, rfl⟩
  rw [← hA] at Y
  have hvm : s'.vm = s.vm := by rw [hA]; rfl
  have hhp : s'.heap = H := by rw [hA]; exact hT
  have hW0 : s.WarmedH s'.vm := by rw [hvm]; exact State.WarmedH.refl s
  have hat' : ∀ w ∈ vx_at0 own ic cls names, w.before args s' = true := fun w hw => vx_ot_at hW0 hvm.symm (hgood w (List.mem_cons_of_mem _ (List.mem_cons_of_mem _ hw))) (hat w hw)
  have hk' : (Cond.classLink own ik cls).before args s' = true := vx_ot_at hW0 hvm.symm (hgood _ List.mem_cons_self) hk
  have hini' : (Cond.initialized cls).before args s' = true := vx_ot_at hW0 hvm.symm (hgood _ (List.mem_cons_of_mem _ List.mem_cons_self)) hini
  have hU' : vx_Zq Bundle.tN "UNASSIGNED_STACK" Bundle.steD A s' s'.heap := by rw [hhp]; exact vx_Zq.moved hW0.alike (hU.kept hS.2.1)
  have hN' : vx_Zq Bundle.tN "SUPPRESSED_SENTINEL" Bundle.listD A s' s'.heap := by rw [hhp]; exact vx_Zq.moved hW0.alike (hN.kept hS.2.1)
  have h : ∀ w ∈ Bundle.ownAtoms0 own ic cls names, w.before args s' = true := vx_own hat' (vx_isRefq hU'.1) (vx_isRefq hN'.1) hU'.2.word hN'.2.word
  have hown' : s'.vm.findClass own = some m.cls := by rw [hvm]; exact hown
  have hins : (Cond.instantiable cls 6).before args s' = true := h _ (by simp [Bundle.ownAtoms0])
  obtain ⟨vm₁, cX, kX, hfX, hkX, -, -, X₁, st1⟩ := Y.newCold hexec (own := own) (C := cls) (index := ik) (n := 6) hown' hk' hins hini'
    (g := F0 m pc ls rest) rfl (by rw [hb]; exact d0) (Nat.le_refl _) (Nat.le_refl _)
  generalize hT1 : (T.setVm vm₁).pushCell { cls := cX, slots := kX.instanceTypes.map defaultValue, vm := .none } = T1 at X₁ st1
  have hcat : (Value.ref T.heap.size).category = 1 := rfl
  have hcellA : T1.heap[T.heap.size]? = some (freshCell cX kX) := by rw [← hT1]; exact State.heap_pushCell_size _ _
  have d3' : decode c.code (pc + 3) = .ok (.dup, 1) := by rw [hb]; exact d3
  obtain ⟨U, hsteps, hrun, hend, hW, hsame, ce, hce, hO⟩ := X₁.ctorThrow0 hexec htr (own := own) (cls := cls) (names := names) (ic := ic) hown' hcls hnames h (fun x hx => nomatch hx) hfX hkX hcellA (by rw [hhp, hT]; exact Nat.le_refl _)
    (g := { method := m, pc := pc + 4, locals := ls, stack := .ref T.heap.size :: .ref T.heap.size :: rest, locked := none }) rfl hsize rfl rfl (rest := rest) rfl
    (by rw [hb]; exact d4) (by rw [hb]; exact d7) hout hRframes (by simp only [List.map_cons, List.sum_cons, hcat]; omega) hlocks
  obtain ⟨f1, f2⟩ := vx_frame hsame
  rw [hhp] at f1 f2
  have hWs : s.WarmedH U.vm := State.WarmedH.trans hW0 hW
  have hcl : s.vm.findClass cls = some ce.cls := by
    have h9 := hO.cls
    rw [hvm] at h9
    exact h9
  have hall : s.sameButNew ({ U with vm := s.vm } : State) locs mc ms := by
    subst hA
    obtain ⟨e1, e2⟩ := hsame
    rw [State.setFrames_setFrames] at e1
    have h2 : (T.setVm s.vm).sameButNew ({ U with vm := s.vm } : State) [] (0 + 1) (0 + 6) := ⟨e1, e2⟩
    have h3 := X.same.trans h2
    rw [List.append_nil] at h3
    exact h3.mono hc hs
  refine ⟨U, ?_, .threw T.heap.size, hrun, hend, Or.inr ⟨T.heap.size, rfl, cls, ce, locs, hx U hWs.alike f1 (fun q hq => f2 q hq (fun z hz => nomatch hz)), hce, hO.vm, hcl, hWs, hall, hf⟩⟩
  refine st1 _ ?_
  show Steps p.tables e below (T1.setTop { method := m, pc := pc + 3, locals := ls, stack := .ref T.heap.size :: rest, locked := none }) _
  jvm_step X₁.here [X₁.here.top, hexec, d3', Value.category]
  exact hsteps
/-- 'throw new E("text")': new; dup; ldc; invokespecial; athrow -/
theorem vx_throwS {cc : ByteArray} {pc : Nat} (hexec : p.tables.exec = Jvm.exec) (hb : c.code = cc) (hl : l.stackTraces = false) {own cls text : String} {names : List String} {ik is ic mc ms sa : Nat} {A : Nat → Prop}
    (hown : s.vm.findClass own = some m.cls) (hcls : Bundle.fit cls = true) (hnames : ∀ n ∈ names, Bundle.fit n = true)
    (hk : (Cond.classLink own ik cls).before args s = true) (hini : (Cond.initialized cls).before args s = true) (hstr : vk_R own is text sa s) (hat : ∀ w ∈ vx_atS own ic cls names, w.before args s = true)
    (hgood : ∀ w ∈ Cond.classLink own ik cls :: Cond.initialized cls :: vx_atS own ic cls names, vx_ot w = true)
    (hU : vx_Zq Bundle.tN "UNASSIGNED_STACK" Bundle.steD A s s.heap) (hN : vx_Zq Bundle.tN "SUPPRESSED_SENTINEL" Bundle.listD A s s.heap) (hS : va_S A s.heap H locs) (hsize : ls.size = c.maxLocals)
    (d0 : decode cc pc = .ok (.new ik, 3)) (d3 : decode cc (pc + 3) = .ok (.dup, 1)) (d4 : decode cc (pc + 4) = .ok (.ldc is, 2)) (d6 : decode cc (pc + 6) = .ok (.invokespecial ic, 3)) (d9 : decode cc (pc + 9) = .ok (.athrow, 1))
    (hout : ∀ x ∈ c.exceptionTable.toList, covers x (pc + 9) = false)
    (hRframes : names.length + 3 < R.frames) (hRlocals : (rest.map fun v => v.category).sum + (13 * (names.length + 1) + 43) ≤ R.locals) (hRcells : cells + 1 ≤ R.cells) (hRslots : slots + 6 ≤ R.slots) (hlocks : meth.locks = false)
    (hx : ∀ t : State, s.vm.Alike t.vm → H.size ≤ t.heap.size → (∀ q : Nat, q < H.size → t.heap[q]? = H[q]?) → XC cls s t)
    (hf : ∀ z ∈ locs, free z.base) (hc : cells + 1 ≤ mc) (hs : slots + 6 ≤ ms) :
    W p l e R s m args below meth c H locs cells slots (vx_MQ below Qc XC args s mc ms free) (F0 m pc ls rest) := by
  intro T hT X
  have htr : e.platform.stackTraces = false := (show e.platform.stackTraces = l.stackTraces by rw [X.admits.platform]).trans hl
  have Y := vx_rebase X (R' := { frames := R.frames, locals := R.locals, cells := 1, slots := 6 }) (Nat.le_refl _) (Nat.le_refl _) hRcells hRslots
  obtain ⟨s', hA⟩ : ∃ z, z = (T.setVm s.vm).setFrames (.invoking m args :: below) := ⟨_, rfl⟩
  rw [← hA] at Y
  have hvm : s'.vm = s.vm := by rw [hA]; rfl
  have hhp : s'.heap = H := by rw [hA]; exact hT
  have hW0 : s.WarmedH s'.vm := by rw [hvm]; exact State.WarmedH.refl s
  have hat' : ∀ w ∈ vx_atS own ic cls names, w.before args s' = true := fun w hw => vx_ot_at hW0 hvm.symm (hgood w (List.mem_cons_of_mem _ (List.mem_cons_of_mem _ hw))) (hat w hw)
  have hk' : (Cond.classLink own ik cls).before args s' = true := vx_ot_at hW0 hvm.symm (hgood _ List.mem_cons_self) hk
  have hini' : (Cond.initialized cls).before args s' = true := vx_ot_at hW0 hvm.symm (hgood _ (List.mem_cons_of_mem _ List.mem_cons_self)) hini
  have hU' : vx_Zq Bundle.tN "UNASSIGNED_STACK" Bundle.steD A s' s'.heap := by rw [hhp]; exact vx_Zq.moved hW0.alike (hU.kept hS.2.1)
  have hN' : vx_Zq Bundle.tN "SUPPRESSED_SENTINEL" Bundle.listD A s' s'.heap := by rw [hhp]; exact vx_Zq.moved hW0.alike (hN.kept hS.2.1)
  have h : ∀ w ∈ Bundle.ownAtoms own ic cls names, w.before args s' = true := vx_own hat' (vx_isRefq hU'.1) (vx_isRefq hN'.1) hU'.2.word hN'.2.word
  have hown' : s'.vm.findClass own = some m.cls := by rw [hvm]; exact hown
  have hins : (Cond.instantiable cls 6).before args s' = true := h _ (by simp [Bundle.ownAtoms])
  obtain ⟨vm₁, cX, kX, hfX, hkX, -, -, X₁, st1⟩ := Y.newCold hexec (own := own) (C := cls) (index := ik) (n := 6) hown' hk' hins hini'
    (g := F0 m pc ls rest) rfl (by rw [hb]; exact d0) (Nat.le_refl _) (Nat.le_refl _)
  generalize hT1 : (T.setVm vm₁).pushCell { cls := cX, slots := kX.instanceTypes.map defaultValue, vm := .none } = T1 at X₁ st1
  have hcat : (Value.ref T.heap.size).category = 1 := rfl
  have hcellA : T1.heap[T.heap.size]? = some (freshCell cX kX) := by rw [← hT1]; exact State.heap_pushCell_size _ _
  have d3' : decode c.code (pc + 3) = .ok (.dup, 1) := by rw [hb]; exact d3
  have d4' : decode c.code (pc + 4) = .ok (.ldc is, 2) := by rw [hb]; exact d4
  have hstr' : vk_R own is text sa s' := vk_R.warm hW0 hstr
  obtain ⟨U, hsteps, hrun, hend, hW, hsame, ce, hce, hO⟩ := X₁.ctorThrowS hexec htr (own := own) (cls := cls) (names := names) (ic := ic) hown' hcls hnames h (fun x hx => nomatch hx) hfX hkX hcellA (by rw [hhp, hT]; exact Nat.le_refl _) (msg := .ref sa) rfl
    (g := { method := m, pc := pc + 6, locals := ls, stack := .ref sa :: .ref T.heap.size :: .ref T.heap.size :: rest, locked := none }) rfl hsize rfl rfl (rest := rest) rfl
    (by rw [hb]; exact d6) (by rw [hb]; exact d9) hout hRframes (by simp only [List.map_cons, List.sum_cons, hcat]; omega) hlocks
  obtain ⟨f1, f2⟩ := vx_frame hsame
  rw [hhp] at f1 f2
  have hWs : s.WarmedH U.vm := State.WarmedH.trans hW0 hW
  have hcl : s.vm.findClass cls = some ce.cls := by
    have h9 := hO.cls
    rw [hvm] at h9
    exact h9
  have hall : s.sameButNew ({ U with vm := s.vm } : State) locs mc ms := by
    subst hA
    obtain ⟨e1, e2⟩ := hsame
    rw [State.setFrames_setFrames] at e1
    have h2 : (T.setVm s.vm).sameButNew ({ U with vm := s.vm } : State) [] (0 + 1) (0 + 6) := ⟨e1, e2⟩
    have h3 := X.same.trans h2
    rw [List.append_nil] at h3
    exact h3.mono hc hs
  refine ⟨U, ?_, .threw T.heap.size, hrun, hend, Or.inr ⟨T.heap.size, rfl, cls, ce, locs, hx U hWs.alike f1 (fun q hq => f2 q hq (fun z hz => nomatch hz)), hce, hO.vm, hcl, hWs, hall, hf⟩⟩
  refine st1 _ ?_
  show Steps p.tables e below (T1.setTop { method := m, pc := pc + 3, locals := ls, stack := .ref T.heap.size :: rest, locked := none }) _
  jvm_step X₁.here [X₁.here.top, hexec, d3', Value.category]
  exact X₁.ldcString hexec (own := own) (text := text) (index := is) (a := sa) hown' hstr'.1 hstr'.2
    (g := { method := m, pc := pc + 4, locals := ls, stack := .ref T.heap.size :: .ref T.heap.size :: rest, locked := none }) rfl d4' _ hsteps
/-- 'throw new E("text")', the text by a wide index -/
theorem vx_throwSW {cc : ByteArray} {pc : Nat} (hexec : p.tables.exec = Jvm.exec) (hb : c.code = cc) (hl : l.stackTraces = false) {own cls text : String} {names : List String} {ik is ic mc ms sa : Nat} {A : Nat → Prop}
    (hown : s.vm.findClass own = some m.cls) (hcls : Bundle.fit cls = true) (hnames : ∀ n ∈ names, Bundle.fit n = true)
    (hk : (Cond.classLink own ik cls).before args s = true) (hini : (Cond.initialized cls).before args s = true) (hstr : vk_R own is text sa s) (hat : ∀ w ∈ vx_atS own ic cls names, w.before args s = true)
    (hgood : ∀ w ∈ Cond.classLink own ik cls :: Cond.initialized cls :: vx_atS own ic cls names, vx_ot w = true)
    (hU : vx_Zq Bundle.tN "UNASSIGNED_STACK" Bundle.steD A s s.heap) (hN : vx_Zq Bundle.tN "SUPPRESSED_SENTINEL" Bundle.listD A s s.heap) (hS : va_S A s.heap H locs) (hsize : ls.size = c.maxLocals)
    (d0 : decode cc pc = .ok (.new ik, 3)) (d3 : decode cc (pc + 3) = .ok (.dup, 1)) (d4 : decode cc (pc + 4) = .ok (.ldc_w is, 3)) (d7 : decode cc (pc + 7) = .ok (.invokespecial ic, 3)) (d10 : decode cc (pc + 10) = .ok (.athrow, 1))
    (hout : ∀ x ∈ c.exceptionTable.toList, covers x (pc + 10) = false)
    (hRframes : names.length + 3 < R.frames) (hRlocals : (rest.map fun v => v.category).sum + (13 * (names.length + 1) + 43) ≤ R.locals) (hRcells : cells + 1 ≤ R.cells) (hRslots : slots + 6 ≤ R.slots) (hlocks : meth.locks = false)
    (hx : ∀ t : State, s.vm.Alike t.vm → H.size ≤ t.heap.size → (∀ q : Nat, q < H.size → t.heap[q]? = H[q]?) → XC cls s t)
    (hf : ∀ z ∈ locs, free z.base) (hc : cells + 1 ≤ mc) (hs : slots + 6 ≤ ms) :
    W p l e R s m args below meth c H locs cells slots (vx_MQ below Qc XC args s mc ms free) (F0 m pc ls rest) := by
  intro T hT X
  have htr : e.platform.stackTraces = false := (show e.platform.stackTraces = l.stackTraces by rw [X.admits.platform]).trans hl
  have Y := vx_rebase X (R' := { frames := R.frames, locals := R.locals, cells := 1, slots := 6 }) (Nat.le_refl _) (Nat.le_refl _) hRcells hRslots
  obtain ⟨s', hA⟩ : ∃ z, z = (T.setVm s.vm).setFrames (.invoking m args :: below) := ⟨_, rfl⟩
  rw [← hA] at Y
  have hvm : s'.vm = s.vm := by rw [hA]; rfl
  have hhp : s'.heap = H := by rw [hA]; exact hT
  have hW0 : s.WarmedH s'.vm := by rw [hvm]; exact State.WarmedH.refl s
  have hat' : ∀ w ∈ vx_atS own ic cls names, w.before args s' = true := fun w hw => vx_ot_at hW0 hvm.symm (hgood w (List.mem_cons_of_mem _ (List.mem_cons_of_mem _ hw))) (hat w hw)
  have hk' : (Cond.classLink own ik cls).before args s' = true := vx_ot_at hW0 hvm.symm (hgood _ List.mem_cons_self) hk
  have hini' : (Cond.initialized cls).before args s' = true := vx_ot_at hW0 hvm.symm (hgood _ (List.mem_cons_of_mem _ List.mem_cons_self)) hini
  have hU' : vx_Zq Bundle.tN "UNASSIGNED_STACK" Bundle.steD A s' s'.heap := by rw [hhp]; exact vx_Zq.moved hW0.alike (hU.kept hS.2.1)
  have hN' : vx_Zq Bundle.tN "SUPPRESSED_SENTINEL" Bundle.listD A s' s'.heap := by rw [hhp]; exact vx_Zq.moved hW0.alike (hN.kept hS.2.1)
  have h : ∀ w ∈ Bundle.ownAtoms own ic cls names, w.before args s' = true := vx_own hat' (vx_isRefq hU'.1) (vx_isRefq hN'.1) hU'.2.word hN'.2.word
  have hown' : s'.vm.findClass own = some m.cls := by rw [hvm]; exact hown
  have hins : (Cond.instantiable cls 6).before args s' = true := h _ (by simp [Bundle.ownAtoms])
  obtain ⟨vm₁, cX, kX, hfX, hkX, -, -, X₁, st1⟩ := Y.newCold hexec (own := own) (C := cls) (index := ik) (n := 6) hown' hk' hins hini'
    (g := F0 m pc ls rest) rfl (by rw [hb]; exact d0) (Nat.le_refl _) (Nat.le_refl _)
  generalize hT1 : (T.setVm vm₁).pushCell { cls := cX, slots := kX.instanceTypes.map defaultValue, vm := .none } = T1 at X₁ st1
  have hcat : (Value.ref T.heap.size).category = 1 := rfl
  have hcellA : T1.heap[T.heap.size]? = some (freshCell cX kX) := by rw [← hT1]; exact State.heap_pushCell_size _ _
  have d3' : decode c.code (pc + 3) = .ok (.dup, 1) := by rw [hb]; exact d3
  have d4' : decode c.code (pc + 4) = .ok (.ldc_w is, 3) := by rw [hb]; exact d4
  have hstr' : vk_R own is text sa s' := vk_R.warm hW0 hstr
  obtain ⟨U, hsteps, hrun, hend, hW, hsame, ce, hce, hO⟩ := X₁.ctorThrowS hexec htr (own := own) (cls := cls) (names := names) (ic := ic) hown' hcls hnames h (fun x hx => nomatch hx) hfX hkX hcellA (by rw [hhp, hT]; exact Nat.le_refl _) (msg := .ref sa) rfl
    (g := { method := m, pc := pc + 7, locals := ls, stack := .ref sa :: .ref T.heap.size :: .ref T.heap.size :: rest, locked := none }) rfl hsize rfl rfl (rest := rest) rfl
    (by rw [hb]; exact d7) (by rw [hb]; exact d10) hout hRframes (by simp only [List.map_cons, List.sum_cons, hcat]; omega) hlocks
  obtain ⟨f1, f2⟩ := vx_frame hsame
  rw [hhp] at f1 f2
  have hWs : s.WarmedH U.vm := State.WarmedH.trans hW0 hW
  have hcl : s.vm.findClass cls = some ce.cls := by
    have h9 := hO.cls
    rw [hvm] at h9
    exact h9
  have hall : s.sameButNew ({ U with vm := s.vm } : State) locs mc ms := by
    subst hA
    obtain ⟨e1, e2⟩ := hsame
    rw [State.setFrames_setFrames] at e1
    have h2 : (T.setVm s.vm).sameButNew ({ U with vm := s.vm } : State) [] (0 + 1) (0 + 6) := ⟨e1, e2⟩
    have h3 := X.same.trans h2
    rw [List.append_nil] at h3
    exact h3.mono hc hs
  refine ⟨U, ?_, .threw T.heap.size, hrun, hend, Or.inr ⟨T.heap.size, rfl, cls, ce, locs, hx U hWs.alike f1 (fun q hq => f2 q hq (fun z hz => nomatch hz)), hce, hO.vm, hcl, hWs, hall, hf⟩⟩
  refine st1 _ ?_
  show Steps p.tables e below (T1.setTop { method := m, pc := pc + 3, locals := ls, stack := .ref T.heap.size :: rest, locked := none }) _
  jvm_step X₁.here [X₁.here.top, hexec, d3', Value.category]
  exact X₁.ldcStringW hexec (own := own) (text := text) (index := is) (a := sa) hown' hstr'.1 hstr'.2
    (g := { method := m, pc := pc + 4, locals := ls, stack := .ref T.heap.size :: .ref T.heap.size :: rest, locked := none }) rfl d4' _ hsteps
end Ends
section Bodies
variable {l : Launch}
theorem vx_ofW {y : MethodName} {ws ws' : List Cond} {rm : Room} {Pc : Array Value → State → Prop} {Qc : Array Value → State → Outcome → State → Prop} {XC : String → State → State → Prop} {mc ms : Nat} {free : Addr → Prop} {cc : ByteArray} {maxL : Nat} {ret : Option FieldType}
    (hy : plainName y.cls = true) (hw : ws = Cond.code y cc maxL ret :: ws')
    (body : ∀ p e s m args below meth c s₁, BodyLoose p l y (headSpec ws rm) cc maxL ret e s m args below meth c s₁ → c.maxLocals = maxL → (∀ x ∈ c.exceptionTable.toList, False) → Pc args s →
      W p l e (headSpec ws rm).room s m args below meth c s.heap [] 0 0 (vx_MQ below Qc XC args s mc ms free) (entryFrame m args maxL)) : vx_Met l y ws rm Pc Qc XC mc ms free := by
  refine MetFree.of_bodyS (code := cc) (maxLocals := maxL) (ret := ret) hy ?_ ?_
  · intro args s m h hn
    obtain ⟨meth, c, h1, h2, h3, h4, h5, h6, -, -⟩ := Cond.code_spec hn (atoms_spec (ws := ws) h _ (by rw [hw]; exact List.mem_cons_self))
    exact ⟨meth, c, h1, h2, h3, h4, h5, h6⟩
  · intro p e s m args below meth c s₁ B hml hP _
    have hh0 : s₁.heap = s.heap := by rw [B.state]; rfl
    have ht : ∀ x ∈ c.exceptionTable.toList, False := by
      obtain ⟨meth9, c9, h1, h2, -, -, -, -, h7, -⟩ := Cond.code_spec B.named (atoms_spec (ws := ws) B.pre _ (by rw [hw]; exact List.mem_cons_self))
      cases Option.some.inj (h1.symm.trans B.method)
      cases Option.some.inj (h2.symm.trans (Stand.of_body B).code)
      intro x hx
      rw [Array.isEmpty_iff.mp h7] at hx
      cases hx
    obtain ⟨t, a1, o, b1, b2, b3⟩ := body p e s m args below meth c s₁ B hml ht hP s₁ hh0 (Stand.of_body B)
    exact ⟨t, o, a1, b1, b2, b3⟩
/-- the table of a body with handlers -/
theorem vx_table {p : Program} {x y : MethodName} {S : Spec} {cc bytes : ByteArray} {maxL maxL' : Nat} {ret ret' : Option FieldType} {e : Env} {s s₁ : State} {m : MethodId} {args : Array Value} {below : List Frame} {meth : Method} {c : Code} {hh : List (Nat × Nat × Nat × Nat)}
    (B : BodyLoose p l y S cc maxL ret e s m args below meth c s₁) (h : (Cond.codeWith y bytes maxL' ret' hh).before args s = true) : c.exceptionTable.toList = tableOf hh := by
  obtain ⟨m9, meth9, c9, hn9, h1, h2, -, -, h6, -⟩ := Cond.codeWith_spec h
  cases Option.some.inj (hn9.symm.trans B.named)
  cases Option.some.inj (h1.symm.trans B.method)
  cases Option.some.inj (h2.symm.trans (Stand.of_body B).code)
  rw [← h6, table_eq]
end Bodies
end VXA
/-! ===== END ===== -/
/-! ===== BEGIN a static call of a method with an exception table ===== -/
section VXS
variable {p : Program} {l : Launch} {e : Env} {R : Room} {s : State} {m : MethodId} {args : Array Value} {below : List Frame} {meth : Method} {c : Code} {T : State} {H : Heap} {locs : List Loc} {cells slots : Nat}
abbrev vx_CSW (R : Room) (s : State) (args : Array Value) (own : String) (index : Nat) (y : MethodName) (bytes : ByteArray) (maxL : Nat) (ret : Option FieldType) (hh : List (Nat × Nat × Nat × Nat)) (ws : List Cond) (rm : Room) (mc ms n : Nat) : Prop :=
  (rm.cells = mc ∧ rm.slots = ms ∧ rm.frames + 1 ≤ R.frames ∧ 8 + (maxL + 11) + rm.locals ≤ R.locals ∧ (∀ w ∈ ws, ∀ (a' : Array Value) (U : State), s.WarmedH U.vm → w.before a' U = true) ∧ Cond.codeWith y bytes maxL ret hh ∈ ws) ∧
  (Cond.codeWith y bytes maxL ret hh).before args s = true ∧ (Cond.initialized y.cls).before args s = true ∧ (y.cls ≠ "java/lang/invoke/MethodHandle" ∧ y.cls ≠ "java/lang/invoke/VarHandle") ∧
  (∀ sig, parseMethodDescriptor y.desc = some sig → n = sig.parameters.length) ∧ (Cond.methodLink own index y).before args s = true ∧ (Cond.static y).before args s = true
theorem vx_cwSW {own : String} {index maxL mc ms : Nat} {y : MethodName} {bytes : ByteArray} {ret : Option FieldType} {hh : List (Nat × Nat × Nat × Nat)} {Ts ws ws' : List Cond} {rm : Room} (n : Nat) (ht : ∀ w ∈ Ts, w.before args s = true) (hT : GoodIn Ts (va_wsS own index y ws)) (hw : ws = Cond.codeWith y bytes maxL ret hh :: ws') (hrc : rm.cells = mc) (hrs : rm.slots = ms)
    (hd : y.cls ≠ "java/lang/invoke/MethodHandle" ∧ y.cls ≠ "java/lang/invoke/VarHandle" ∧ (parseMethodDescriptor y.desc).map (fun d => d.parameters.length) = some n) (hR : rm.frames + 1 ≤ R.frames ∧ 8 + (maxL + 11) + rm.locals ≤ R.locals) :
    vx_CSW R s args own index y bytes maxL ret hh ws rm mc ms n := by
  have ok : ∀ w ∈ va_wsS own index y ws, w.before args s = true := fun w h => ht w (hT w h).1
  have hG : GoodIn Ts ws := fun w h => hT w (by unfold va_wsS; exact List.mem_append_right _ h)
  have hc : Cond.codeWith y bytes maxL ret hh ∈ ws := by rw [hw]; exact List.mem_cons_self
  refine ⟨⟨hrc, hrs, hR.1, hR.2, pay_in ht hG, hc⟩, ht _ (hG _ hc).1, ok _ (by simp [va_wsS]), ⟨hd.1, hd.2.1⟩, fun sig h => ?_, ok _ (by simp [va_wsS]), ok _ (by simp [va_wsS])⟩
  have h2 := hd.2.2
  rw [h] at h2
  exact (Option.some.inj h2).symm
theorem vx_callSW (X : Stand p l e R s m args below meth c T locs cells slots) (hexec : p.tables.exec = Jvm.exec) {own : String} {index : Nat} {y : MethodName} {bytes : ByteArray} {maxL : Nat} {ret : Option FieldType} {hh : List (Nat × Nat × Nat × Nat)}
    (hown : s.vm.findClass own = some m.cls) (hlink : (Cond.methodLink own index y).before args s = true) (hstat : (Cond.static y).before args s = true) (hinit : (Cond.initialized y.cls).before args s = true)
    (hcode : (Cond.codeWith y bytes maxL ret hh).before args s = true) (hy : y.cls ≠ "java/lang/invoke/MethodHandle" ∧ y.cls ≠ "java/lang/invoke/VarHandle")
    {W9 : Nat} {Pre : Pt → Array Value → Prop} {Post : Pt → Array Value → Option Value → Pt → Prop} (hK : Back l R p e below s args y 3 W9 Pre Post)
    {g : JFrame} (hg : g.method = m) (hsize : g.locals.size = c.maxLocals) {argsL rest : List Value} (hlen : ∀ sig, parseMethodDescriptor y.desc = some sig → argsL.length = sig.parameters.length)
    (hstack : g.stack = argsL.reverse ++ rest) (hW : 2 * g.monitorRoom + (rest.map fun v => v.category).sum ≤ W9) (hdg : decode c.code g.pc = .ok (.invokestatic index, 3))
    (hpre : ∀ vm₁, s.WarmedH vm₁ → Pre ⟨T.setVm vm₁, locs, cells, slots⟩ argsL.toArray) :
    ∃ (v : Option Value) (vm₁ : Vm) (B : Pt), s.WarmedH vm₁ ∧ Stand p l e R s m args below meth c B.U B.locs B.cells B.slots ∧ Post ⟨T.setVm vm₁, locs, cells, slots⟩ argsL.toArray v B ∧
      ∀ target, Steps p.tables e below (B.U.setTop { g with pc := g.pc + 3, stack := v.toList ++ rest }) target → Steps p.tables e below (T.setTop g) target := by
  obtain ⟨mk, methM, cM, hnamed, hmethM, -, -, -, -, -, -, hsigM⟩ := Cond.codeWith_spec hcode
  have hstatic : methM.isStatic = true := Cond.static_spec hnamed hmethM hstat
  obtain ⟨kP, hkP, -⟩ := className_of_methodNamed hnamed
  have hinitP : kP.init = .initialized := Cond.initialized_spec (findClass_of_methodNamed hnamed) hkP hinit
  obtain ⟨vm₁, X₁, hstep₁⟩ := X.invokestatic hexec hown hlink hnamed hmethM hstatic hkP hinitP hy (g := g) hg (argsL := argsL) (rest := rest) (hlen _ hsigM) hstack hdg
  obtain ⟨v, B, X', hpost, hsteps⟩ := hK m meth c ⟨T.setVm vm₁, locs, cells, slots⟩ { g with stack := rest } (.invokestatic index) mk argsL.toArray X₁ hg hsize hdg hW (X₁.named hnamed) (hpre vm₁ X₁.warmed)
  exact ⟨v, vm₁, B, X₁.warmed, X', hpost, fun target h => hstep₁ _ fun acts => by rw [doInvoke_state]; exact hsteps.trans h⟩
theorem vx_runSW {y : MethodName} {bytes cc : ByteArray} {maxL nL mc ms n index : Nat} {ret : Option FieldType} {hh : List (Nat × Nat × Nat × Nat)} {ws : List Cond} {rm : Room} {Pc : Array Value → State → Prop} {Qc : Array Value → State → Outcome → State → Prop} {free : Addr → Prop} {Ts : List Cond} {own : String} {As rest : List Value} {g : JFrame}
    (S : CallFix p m c cc nL s args Ts own) (hM : Met l y ws rm Pc Qc mc ms free) (cw : vx_CSW R s args own index y bytes maxL ret hh ws rm mc ms n) (hp : PreS s H Pc As)
    (hg : g.method = m) (hn : As.length = n) (hsize : g.locals.size = nL) (hstack : g.stack = As.reverse ++ rest) (hW : 2 * g.monitorRoom + (rest.map fun v => v.category).sum ≤ 8) (hdg : decode cc g.pc = .ok (.invokestatic index, 3)) (hf : cells + mc ≤ R.cells ∧ slots + ms ≤ R.slots) :
    va_Run p l e R s m args below meth c H locs cells slots mc ms g rest (Qc As.toArray) (free) := by
  obtain ⟨⟨hrc, hrs, hfr, hlo, hws, hcw⟩, hcode, hini, hy, hlen, hl, hstt⟩ := cw
  have hK : Back l R p e below s args y 3 8 (PreOf R mc ms Pc) (PostOf Qc mc ms free) := va_backW (hh := hh) (bytes := bytes) (maxL := maxL) (ret := ret) hM hp.1 hrc hrs hfr hlo hws hcw (fun a' U hW => word_at hW (Or.inl (by first | rfl | simp [Cond.onTables, Cond.keeps, Cond.steady])) hini)
  obtain ⟨hx, hb, hml, ho, -⟩ := S
  intro T hT X
  obtain ⟨v, vm₁, ⟨U', l2, c2, s2⟩, hW₁, X', ⟨g', mk, t, L, e1, e2, hq, h1, hL, h2, h3⟩, st⟩ := vx_callSW X hx (hh := hh) (bytes := bytes) (maxL := maxL) (ret := ret) ho hl hstt hini hcode hy hK hg (hsize.trans hml.symm) (argsL := As) (rest := rest) (fun sig h => hn.trans (hlen sig h)) hstack hW (by rw [hb]; exact hdg)
    (fun vm₁ hW₁ => ⟨hf.1, hf.2, hp.2 (T.setVm vm₁) hT hW₁⟩)
  dsimp only [Pt.U, Pt.locs, Pt.cells, Pt.slots] at X' e1 e2 h1 h2 h3 st
  subst h1; subst h2; subst h3
  exact ⟨v, (T.setVm vm₁).calling g' mk As.toArray, t, U', L, hT, X', hL, e1, e2, hq, st⟩
/-- not caught here, past rows that name other classes: it goes on to the caller -/
theorem vx_outP {p : Program} {l : Launch} {e : Env} {R : Room} {s : State} {m : MethodId} {args : Array Value} {below : List Frame} {meth : Method} {c : Code} {H : Heap} {locs : List Loc} {cells slots : Nat} {free : Addr → Prop} {ls : Array Slot} {rest : List Value} {Qc : Array Value → State → Outcome → State → Prop} {XC : String → State → State → Prop}
    {pc : Nat} {own E : String} {ce : Cell} {q : Addr} {mc ms : Nat} (hown : s.vm.findClass own = some m.cls) (hlocks : meth.locks = false)
    (hpass : ∀ z ∈ c.exceptionTable.toList, covers z pc = false ∨ (z.catchType ≠ 0 ∧ ∃ nm : String, (Cond.classLink own z.catchType nm).before args s = true ∧ va_Nc E nm s)) (hcell : H[q]? = some ce) (hv : ce.vm = .none) (hcl : s.vm.findClass E = some ce.cls)
    (hx : ∀ t : State, t.heap = H → s.vm.Alike t.vm → XC E s t) (hf : ∀ z ∈ locs, free z.base) (hc : cells ≤ mc) (hs : slots ≤ ms) :
    vx_W p l e R s m args below meth c H locs cells slots (vx_MQ below Qc XC args s mc ms free) (F0 m pc ls rest) q := by
  intro T hT X
  have hpl : e.platform.magicAccessors = ({} : Platform).magicAccessors := by rw [X.admits.platform]
  obtain ⟨vm', hW', X', st⟩ := X.outThrough hlocks q (g := F0 m pc ls rest) rfl rfl rfl (cell := ce) (by rw [hT]; exact hcell) (by rw [hv]; rfl)
    (by obtain ⟨k9, h9, -⟩ := Vm.findClass_spec hcl; exact ⟨k9, h9⟩) (fun z hz => by
      rcases hpass z hz with h | ⟨hz0, nm, hl1, hn1⟩
      · exact Or.inl h
      · obtain ⟨c6, hc6, hcl6⟩ := Cond.classLink_spec hown hl1 e.platform hpl
        obtain ⟨a8, b8, h1, h2, h3⟩ := hn1
        cases Option.some.inj (h1.symm.trans hcl)
        cases Option.some.inj (h2.symm.trans hc6)
        exact Or.inr ⟨hz0, _, hcl6, h3⟩)
  obtain ⟨g₀, hfr⟩ := X'.frames_eq
  have hcell9 : ((T.setVm vm').setFrames (.throwing q :: below)).heap[q]? = some ce := by
    show T.heap[q]? = some ce
    rw [hT]; exact hcell
  have hend : Ended ((T.setVm vm').setFrames (.throwing q :: below)) below (.threw q) := State.frames_setFrames _ (State.cur_lt_of_frames hfr)
  refine ⟨(T.setVm vm').setFrames (.throwing q :: below), ?_, .threw q, X'.here.running, hend, Or.inr ⟨q, rfl, E, ce, locs, hx _ hT (X'.ends _).1.alike, hcell9, hv, hcl, (X'.ends _).1, (X'.ends _).2.mono hc hs, hf⟩⟩
  rw [X.pushThrowing_eq]
  exact st
/-- a thing of a world lies in the heap -/
theorem vx_lt {D : va_G} {cl : List vw_C} {ws : va_W} {H1 : Heap} (h : va_P D cl ws H1) {k : Nat} {q : Nat × va_E} (hk : ws[k]? = some q) : q.1 < H1.size := (h k q hk).lt
end VXS
/-! ===== END ===== -/
/-! ===== BEGIN methods with a table of their own: called by a name, returning or throwing ===== -/
section VXH
/-! vx_backW, vx_callVX, vx_callSX, vx_callVW, vx_runVW, vx_runVX, vx_runSX, vx_ofWH follow the same proofs as their sisters above (Free/Laws.lean, Shelf42/LK1.lean); vx_outP calls Shelf42/NT130.lean (outThrough). -/
section
variable {l : Launch} {R : Room} {p : Program} {e : Env} {below : List Frame} {s : State} {sargs : Array Value} {y : MethodName} {len W9 : Nat}
theorem vx_backW {ws : List Cond} {rm : Room} {Pc : Array Value → State → Prop} {Qc : Array Value → State → Outcome → State → Prop} {XC : String → State → State → Prop} {mc ms : Nat} {free : Addr → Prop} {bytes : ByteArray} {maxL : Nat} {ret : Option FieldType} {hh : List (Nat × Nat × Nat × Nat)}
    (hM : vx_Met l y ws rm Pc Qc XC mc ms free) (hblind : FrameBlind Pc) (hrc : rm.cells = mc) (hrs : rm.slots = ms)
    (hframes : rm.frames + 1 ≤ R.frames) (hlocals : W9 + (maxL + 11) + rm.locals ≤ R.locals)
    (hws : ∀ w ∈ ws, ∀ a' U, s.WarmedH U.vm → w.before a' U = true) (hcode : Cond.codeWith y bytes maxL ret hh ∈ ws) (hinit : ∀ a' U, s.WarmedH U.vm → (Cond.initialized y.cls).before a' U = true) :
    vx_Back l R p e below s sargs y len W9 (PreOf R mc ms Pc) (PostOf Qc mc ms free) (vx_Post XC mc ms free) := by
  intro m meth c A g ig mk a X hg hsize hdg hW hn hp
  have h1 : (headSpec ws rm).pre.before a A.U = true := atoms_intro fun w hw => hws w hw _ _ X.warmed
  have h2 : (Cond.codeWith y bytes maxL ret hh).before a A.U = true := hws _ hcode _ _ X.warmed
  have h3 : (Cond.initialized y.cls).before a A.U = true := hinit _ _ X.warmed
  have h4 : A.cells + (headSpec ws rm).room.cells ≤ R.cells := by rw [show (headSpec ws rm).room.cells = mc from hrc]; exact hp.1
  have h5 : A.slots + (headSpec ws rm).room.slots ≤ R.slots := by rw [show (headSpec ws rm).room.slots = ms from hrs]; exact hp.2.1
  have hPc : Pc a (A.U.calling g mk a) := hblind _ _ _ _ hp.2.2
  obtain ⟨U, Ls, c0, s0⟩ := A
  dsimp only [Pt.U, Pt.locs, Pt.cells, Pt.slots] at h1 h2 h3 h4 h5 X hn hPc ⊢
  obtain ⟨m9, methY, cY, hn9, hmY, hcY, -, hlY, -⟩ := Cond.codeWith_spec h2
  cases Option.some.inj (hn9.symm.trans hn)
  obtain ⟨kY, hkY, -⟩ := className_of_methodNamed hn
  have hinitY : kY.init = .initialized := Cond.initialized_spec (findClass_of_methodNamed hn) hkY h3
  have h : At U g.method c below := by rw [hg]; exact X.here
  have hlocals9 : W9 + (maxL + 11) + (headSpec ws rm).room.locals ≤ R.locals := hlocals
  have happ : (headSpec ws rm).appliesLoose y e.platform (U.calling g mk a) = true :=
    Spec.appliesLoose_calling (g := g) h hdg hn hkY hinitY
      (X.room_calling (g := g) (R' := (headSpec ws rm).room) hsize hmY hcY hframes (by rw [hlY]; omega) h4 h5) h1
  obtain ⟨mid, hmid⟩ := h.above
  have hfr : (U.setTop g).frames = (.java g :: mid) ++ below := by rw [State.frames_setTop' g h.top, hmid]; rfl
  obtain ⟨o, s₂, hsteps, -, hend, hq⟩ := Steps.callFree hM p X.admits X.cas X.clock (acts := []) hfr happ hPc trivial
  have hq' : vx_Q Qc XC mc ms free a (U.calling g mk a) o s₂ := hq
  rw [State.frames_setTop' g h.top] at hend
  obtain ⟨g₀, hg0⟩ := Option.isSome_iff_exists.mp h.top
  obtain ⟨r, hr⟩ := State.topJava?_eq_some.mp hg0
  have hr' : (({ U with heap := s₂.heap, slotsUsed := s₂.slotsUsed } : State).setVm s₂.vm).frames = .java g₀ :: r := hr
  rcases hq' with ⟨hqc, L, hfe, hL⟩ | ⟨q, rfl, E, ce, L, hx, hce, hcv, hcl, hW₂, hsm, hL⟩
  · obtain ⟨⟨v, rfl⟩, hW₂, e2, q2, q3, q4, q5, q6⟩ := id hfe
    have e3 : s₂ = ({ (U.calling g mk a).setFrames s₂.frames with heap := s₂.heap, slotsUsed := s₂.slotsUsed } : State).setVm s₂.vm := by
      have : s₂ = ({ s₂ with vm := (U.calling g mk a).vm } : State).setVm s₂.vm := rfl
      rw [e2] at this
      exact this
    obtain ⟨c₂, i₂, len₂, hc₂, hd₂, hf₂⟩ := hend
    have hW' : U.WarmedH s₂.vm := hW₂
    have hcc : c₂ = c := by
      have h1 : s₂.code? g.method = U.code? g.method := by
        rw [State.code?_eq, State.code?_eq, hW'.alike.method?]
      exact Option.some.inj (hc₂.symm.trans (h1.trans h.code))
    subst hcc
    have hlen : len₂ = len := by rw [hdg] at hd₂; cases hd₂; rfl
    subst hlen
    have hs₂ : s₂ = (({ U with heap := s₂.heap, slotsUsed := s₂.slotsUsed } : State).setVm s₂.vm).setTop { g with pc := g.pc + len₂, stack := v.toList ++ g.stack } := by
      refine e3.trans ?_
      rw [hf₂, State.calling_eq h.top, State.setFrames_setFrames, State.setTop_of_frames _ hr', hr]
      rfl
    have hsame : U.sameButNew ({ U with heap := s₂.heap, slotsUsed := s₂.slotsUsed } : State) L mc ms := by
      refine ⟨?_, q2, q3, q4, q5, q6⟩
      obtain ⟨t, ht, -⟩ := State.frames_cons hr
      show ({ U with heap := s₂.heap, slotsUsed := s₂.slotsUsed } : State) = { U.setFrames U.frames with heap := s₂.heap, slotsUsed := s₂.slotsUsed }
      rw [State.setFrames_self ht]
    subst hg
    refine Or.inl ⟨v, ⟨(({ U with heap := s₂.heap, slotsUsed := s₂.slotsUsed } : State).setVm s₂.vm), Ls ++ L, c0 + mc, s0 + ms⟩,
      ⟨X.admits, X.cas, X.clock, X.frames, X.room, X.hears, X.method, X.code, (X.here.setHeapUsed s₂.heap s₂.slotsUsed).setVm hW'.alike, X.tail, State.WarmedH.trans X.warmed hW', X.limits, X.bytes, X.same.trans (hsame.setVm s.vm)⟩,
      ⟨g, mk, s₂, L, rfl, rfl, hqc, rfl, hL, rfl, rfl⟩, ?_⟩
    show Steps p.tables e below _ ((({ U with heap := s₂.heap, slotsUsed := s₂.slotsUsed } : State).setVm s₂.vm).setTop { g with pc := g.pc + len₂, stack := v.toList ++ g.stack })
    rw [← hs₂]
    exact hsteps
  · obtain ⟨e2, q2, q3, q4, q5, q6⟩ := id hsm
    have e3 : s₂ = ({ (U.calling g mk a).setFrames s₂.frames with heap := s₂.heap, slotsUsed := s₂.slotsUsed } : State).setVm s₂.vm := by
      have : s₂ = ({ s₂ with vm := (U.calling g mk a).vm } : State).setVm s₂.vm := rfl
      rw [e2] at this
      exact this
    have hf₂ : s₂.frames = .throwing q :: .java g :: U.frames.tail := hend
    have hW' : U.WarmedH s₂.vm := hW₂
    have hs₂ : s₂ = ((({ U with heap := s₂.heap, slotsUsed := s₂.slotsUsed } : State).setVm s₂.vm).setTop g).pushFrame (.throwing q) := by
      refine e3.trans ?_
      rw [hf₂, State.calling_eq h.top, State.setFrames_setFrames, State.pushFrame, State.frames_setTop _ hr', State.setTop_of_frames _ hr', State.setFrames_setFrames, hr]
      rfl
    have hsame : U.sameButNew ({ U with heap := s₂.heap, slotsUsed := s₂.slotsUsed } : State) L mc ms := by
      refine ⟨?_, q2, q3, q4, q5, q6⟩
      obtain ⟨t, ht, -⟩ := State.frames_cons hr
      show ({ U with heap := s₂.heap, slotsUsed := s₂.slotsUsed } : State) = { U.setFrames U.frames with heap := s₂.heap, slotsUsed := s₂.slotsUsed }
      rw [State.setFrames_self ht]
    subst hg
    refine Or.inr ⟨q, ⟨(({ U with heap := s₂.heap, slotsUsed := s₂.slotsUsed } : State).setVm s₂.vm), Ls ++ L, c0 + mc, s0 + ms⟩,
      ⟨X.admits, X.cas, X.clock, X.frames, X.room, X.hears, X.method, X.code, (X.here.setHeapUsed s₂.heap s₂.slotsUsed).setVm hW'.alike, X.tail, State.WarmedH.trans X.warmed hW', X.limits, X.bytes, X.same.trans (hsame.setVm s.vm)⟩,
      ⟨g, mk, s₂, L, E, ce, rfl, rfl, hx, hce, hcv, hcl, rfl, hL, rfl, rfl⟩, ?_⟩
    show Steps p.tables e below _ (((({ U with heap := s₂.heap, slotsUsed := s₂.slotsUsed } : State).setVm s₂.vm).setTop g).pushFrame (.throwing q))
    rw [← hs₂]
    exact hsteps
end
variable {p : Program} {l : Launch} {e : Env} {R : Room} {s : State} {m : MethodId} {args : Array Value} {below : List Frame} {meth : Method} {c : Code} {T : State} {H : Heap} {locs : List Loc} {cells slots : Nat}
theorem vx_callVX (X : Stand p l e R s m args below meth c T locs cells slots) (hexec : p.tables.exec = Jvm.exec) {own C : String} {index : Nat} {y : MethodName} {bytes : ByteArray} {maxL : Nat} {ret : Option FieldType} {hh : List (Nat × Nat × Nat × Nat)}
    (hown : s.vm.findClass own = some m.cls) (hlink : (Cond.methodLink own index y).before args s = true) (hinst : (Cond.instanceMethod y).before args s = true) (hsel : (Cond.selects C y y).before args s = true)
    (hcode : (Cond.codeWith y bytes maxL ret hh).before args s = true) (hy : y.cls ≠ "java/lang/invoke/MethodHandle" ∧ y.cls ≠ "java/lang/invoke/VarHandle")
    {W9 : Nat} {Pre : Pt → Array Value → Prop} {Post : Pt → Array Value → Option Value → Pt → Prop} {PostX : Pt → Array Value → Addr → Pt → Prop} (hK : vx_Back l R p e below s args y 3 W9 Pre Post PostX)
    {b : Addr} {cellB : Cell} (hcell : T.heap[b]? = some cellB) (hobj : cellB.vm.isStatics = false) (hcls : s.vm.findClass C = some cellB.cls)
    {g : JFrame} (hg : g.method = m) (hsize : g.locals.size = c.maxLocals) {argsL rest : List Value} (hlen : ∀ sig, parseMethodDescriptor y.desc = some sig → argsL.length = sig.parameters.length)
    (hstack : g.stack = argsL.reverse ++ .ref b :: rest) (hW : 2 * g.monitorRoom + (rest.map fun v => v.category).sum ≤ W9) (hdg : decode c.code g.pc = .ok (.invokevirtual index, 3))
    (hpre : ∀ vm₁, s.WarmedH vm₁ → Pre ⟨T.setVm vm₁, locs, cells, slots⟩ (Value.ref b :: argsL).toArray) :
    (∃ (v : Option Value) (vm₁ : Vm) (B : Pt), s.WarmedH vm₁ ∧ Stand p l e R s m args below meth c B.U B.locs B.cells B.slots ∧ Post ⟨T.setVm vm₁, locs, cells, slots⟩ (Value.ref b :: argsL).toArray v B ∧
      ∀ target, Steps p.tables e below (B.U.setTop { g with pc := g.pc + 3, stack := v.toList ++ rest }) target → Steps p.tables e below (T.setTop g) target) ∨
    (∃ (q : Addr) (vm₁ : Vm) (B : Pt), s.WarmedH vm₁ ∧ Stand p l e R s m args below meth c B.U B.locs B.cells B.slots ∧ PostX ⟨T.setVm vm₁, locs, cells, slots⟩ (Value.ref b :: argsL).toArray q B ∧
      Steps p.tables e below (T.setTop g) ((B.U.setTop { g with stack := rest }).pushFrame (.throwing q))) := by
  obtain ⟨mk, methM, hnamed, hmethM, hstM, habM⟩ := Cond.instanceMethod_spec hinst
  obtain ⟨m8, methM', cM, hn8, hmethM', -, -, -, -, -, -, hsigM⟩ := Cond.codeWith_spec hcode
  cases Option.some.inj (hn8.symm.trans hnamed)
  cases hmethM.symm.trans hmethM'
  obtain ⟨c2, r2, m2, q1, q2, q3, q4, kP, hkP, hkPi⟩ := Cond.selects_spec hsel
  cases hcls.symm.trans q1
  cases (State.methodFound?_of_named hnamed hy).symm.trans q2
  cases hnamed.symm.trans q3
  have hselP : selectMethod e.platform s.vm cellB.cls mk = .method mk := by rw [Launch.admits_selectMethod X.admits]; exact q4
  obtain ⟨vm₁, X₁, hstep₁⟩ := X.invokevirtual hexec hown hlink hnamed hmethM hstM hkP hkPi hy (a := b) (cell := cellB) hcell
    (fun z h => by rw [h] at hobj; cases hobj) hselP hmethM habM hkP hkPi (g := g) hg (argsL := argsL) (rest := rest) (hlen _ hsigM) hstack hdg
  rcases hK m meth c ⟨T.setVm vm₁, locs, cells, slots⟩ { g with stack := rest } (.invokevirtual index) mk (Value.ref b :: argsL).toArray X₁ hg hsize hdg hW (X₁.named hnamed) (hpre vm₁ X₁.warmed) with ⟨v, B, X', hpost, hsteps⟩ | ⟨q, B, X', hpost, hsteps⟩
  · exact Or.inl ⟨v, vm₁, B, X₁.warmed, X', hpost, fun target h => hstep₁ _ fun acts => by rw [doInvoke_state]; exact hsteps.trans h⟩
  · exact Or.inr ⟨q, vm₁, B, X₁.warmed, X', hpost, hstep₁ _ fun acts => by rw [doInvoke_state]; exact hsteps⟩
theorem vx_callSX (X : Stand p l e R s m args below meth c T locs cells slots) (hexec : p.tables.exec = Jvm.exec) {own : String} {index : Nat} {y : MethodName} {bytes : ByteArray} {maxL : Nat} {ret : Option FieldType} {hh : List (Nat × Nat × Nat × Nat)}
    (hown : s.vm.findClass own = some m.cls) (hlink : (Cond.methodLink own index y).before args s = true) (hstat : (Cond.static y).before args s = true) (hinit : (Cond.initialized y.cls).before args s = true)
    (hcode : (Cond.codeWith y bytes maxL ret hh).before args s = true) (hy : y.cls ≠ "java/lang/invoke/MethodHandle" ∧ y.cls ≠ "java/lang/invoke/VarHandle")
    {W9 : Nat} {Pre : Pt → Array Value → Prop} {Post : Pt → Array Value → Option Value → Pt → Prop} {PostX : Pt → Array Value → Addr → Pt → Prop} (hK : vx_Back l R p e below s args y 3 W9 Pre Post PostX)
    {g : JFrame} (hg : g.method = m) (hsize : g.locals.size = c.maxLocals) {argsL rest : List Value} (hlen : ∀ sig, parseMethodDescriptor y.desc = some sig → argsL.length = sig.parameters.length)
    (hstack : g.stack = argsL.reverse ++ rest) (hW : 2 * g.monitorRoom + (rest.map fun v => v.category).sum ≤ W9) (hdg : decode c.code g.pc = .ok (.invokestatic index, 3))
    (hpre : ∀ vm₁, s.WarmedH vm₁ → Pre ⟨T.setVm vm₁, locs, cells, slots⟩ argsL.toArray) :
    (∃ (v : Option Value) (vm₁ : Vm) (B : Pt), s.WarmedH vm₁ ∧ Stand p l e R s m args below meth c B.U B.locs B.cells B.slots ∧ Post ⟨T.setVm vm₁, locs, cells, slots⟩ argsL.toArray v B ∧
      ∀ target, Steps p.tables e below (B.U.setTop { g with pc := g.pc + 3, stack := v.toList ++ rest }) target → Steps p.tables e below (T.setTop g) target) ∨
    (∃ (q : Addr) (vm₁ : Vm) (B : Pt), s.WarmedH vm₁ ∧ Stand p l e R s m args below meth c B.U B.locs B.cells B.slots ∧ PostX ⟨T.setVm vm₁, locs, cells, slots⟩ argsL.toArray q B ∧
      Steps p.tables e below (T.setTop g) ((B.U.setTop { g with stack := rest }).pushFrame (.throwing q))) := by
  obtain ⟨mk, methM, cM, hnamed, hmethM, -, -, -, -, -, -, hsigM⟩ := Cond.codeWith_spec hcode
  have hstatic : methM.isStatic = true := Cond.static_spec hnamed hmethM hstat
  obtain ⟨kP, hkP, -⟩ := className_of_methodNamed hnamed
  have hinitP : kP.init = .initialized := Cond.initialized_spec (findClass_of_methodNamed hnamed) hkP hinit
  obtain ⟨vm₁, X₁, hstep₁⟩ := X.invokestatic hexec hown hlink hnamed hmethM hstatic hkP hinitP hy (g := g) hg (argsL := argsL) (rest := rest) (hlen _ hsigM) hstack hdg
  rcases hK m meth c ⟨T.setVm vm₁, locs, cells, slots⟩ { g with stack := rest } (.invokestatic index) mk argsL.toArray X₁ hg hsize hdg hW (X₁.named hnamed) (hpre vm₁ X₁.warmed) with ⟨v, B, X', hpost, hsteps⟩ | ⟨q, B, X', hpost, hsteps⟩
  · exact Or.inl ⟨v, vm₁, B, X₁.warmed, X', hpost, fun target h => hstep₁ _ fun acts => by rw [doInvoke_state]; exact hsteps.trans h⟩
  · exact Or.inr ⟨q, vm₁, B, X₁.warmed, X', hpost, hstep₁ _ fun acts => by rw [doInvoke_state]; exact hsteps⟩
theorem vx_callVW (X : Stand p l e R s m args below meth c T locs cells slots) (hexec : p.tables.exec = Jvm.exec) {own C : String} {index : Nat} {y : MethodName} {bytes : ByteArray} {maxL : Nat} {ret : Option FieldType} {hh : List (Nat × Nat × Nat × Nat)}
    (hown : s.vm.findClass own = some m.cls) (hlink : (Cond.methodLink own index y).before args s = true) (hinst : (Cond.instanceMethod y).before args s = true) (hsel : (Cond.selects C y y).before args s = true)
    (hcode : (Cond.codeWith y bytes maxL ret hh).before args s = true) (hy : y.cls ≠ "java/lang/invoke/MethodHandle" ∧ y.cls ≠ "java/lang/invoke/VarHandle")
    {W9 : Nat} {Pre : Pt → Array Value → Prop} {Post : Pt → Array Value → Option Value → Pt → Prop} (hK : Back l R p e below s args y 3 W9 Pre Post)
    {b : Addr} {cellB : Cell} (hcell : T.heap[b]? = some cellB) (hobj : cellB.vm.isStatics = false) (hcls : s.vm.findClass C = some cellB.cls)
    {g : JFrame} (hg : g.method = m) (hsize : g.locals.size = c.maxLocals) {argsL rest : List Value} (hlen : ∀ sig, parseMethodDescriptor y.desc = some sig → argsL.length = sig.parameters.length)
    (hstack : g.stack = argsL.reverse ++ .ref b :: rest) (hW : 2 * g.monitorRoom + (rest.map fun v => v.category).sum ≤ W9) (hdg : decode c.code g.pc = .ok (.invokevirtual index, 3))
    (hpre : ∀ vm₁, s.WarmedH vm₁ → Pre ⟨T.setVm vm₁, locs, cells, slots⟩ (Value.ref b :: argsL).toArray) :
    ∃ (v : Option Value) (vm₁ : Vm) (B : Pt), s.WarmedH vm₁ ∧ Stand p l e R s m args below meth c B.U B.locs B.cells B.slots ∧ Post ⟨T.setVm vm₁, locs, cells, slots⟩ (Value.ref b :: argsL).toArray v B ∧
      ∀ target, Steps p.tables e below (B.U.setTop { g with pc := g.pc + 3, stack := v.toList ++ rest }) target → Steps p.tables e below (T.setTop g) target := by
  obtain ⟨mk, methM, hnamed, hmethM, hstM, habM⟩ := Cond.instanceMethod_spec hinst
  obtain ⟨m8, methM', cM, hn8, hmethM', -, -, -, -, -, -, hsigM⟩ := Cond.codeWith_spec hcode
  cases Option.some.inj (hn8.symm.trans hnamed)
  cases hmethM.symm.trans hmethM'
  obtain ⟨c2, r2, m2, q1, q2, q3, q4, kP, hkP, hkPi⟩ := Cond.selects_spec hsel
  cases hcls.symm.trans q1
  cases (State.methodFound?_of_named hnamed hy).symm.trans q2
  cases hnamed.symm.trans q3
  have hselP : selectMethod e.platform s.vm cellB.cls mk = .method mk := by rw [Launch.admits_selectMethod X.admits]; exact q4
  obtain ⟨vm₁, X₁, hstep₁⟩ := X.invokevirtual hexec hown hlink hnamed hmethM hstM hkP hkPi hy (a := b) (cell := cellB) hcell
    (fun z h => by rw [h] at hobj; cases hobj) hselP hmethM habM hkP hkPi (g := g) hg (argsL := argsL) (rest := rest) (hlen _ hsigM) hstack hdg
  obtain ⟨v, B, X', hpost, hsteps⟩ := hK m meth c ⟨T.setVm vm₁, locs, cells, slots⟩ { g with stack := rest } (.invokevirtual index) mk (Value.ref b :: argsL).toArray X₁ hg hsize hdg hW (X₁.named hnamed) (hpre vm₁ X₁.warmed)
  exact ⟨v, vm₁, B, X₁.warmed, X', hpost, fun target h => hstep₁ _ fun acts => by rw [doInvoke_state]; exact hsteps.trans h⟩
abbrev vx_CVW (R : Room) (s : State) (args : Array Value) (own C : String) (index : Nat) (y : MethodName) (bytes : ByteArray) (maxL : Nat) (ret : Option FieldType) (hh : List (Nat × Nat × Nat × Nat)) (ws : List Cond) (rm : Room) (mc ms n : Nat) : Prop :=
  (rm.cells = mc ∧ rm.slots = ms ∧ rm.frames + 1 ≤ R.frames ∧ 8 + (maxL + 11) + rm.locals ≤ R.locals ∧ (∀ w ∈ ws, ∀ (a' : Array Value) (U : State), s.WarmedH U.vm → w.before a' U = true) ∧ Cond.codeWith y bytes maxL ret hh ∈ ws) ∧
  (Cond.codeWith y bytes maxL ret hh).before args s = true ∧ (Cond.initialized y.cls).before args s = true ∧ (y.cls ≠ "java/lang/invoke/MethodHandle" ∧ y.cls ≠ "java/lang/invoke/VarHandle") ∧
  (∀ sig, parseMethodDescriptor y.desc = some sig → n = sig.parameters.length) ∧ (Cond.methodLink own index y).before args s = true ∧ (Cond.instanceMethod y).before args s = true ∧ (Cond.selects C y y).before args s = true
theorem vx_cwVW {own C : String} {index maxL mc ms : Nat} {y : MethodName} {bytes : ByteArray} {ret : Option FieldType} {hh : List (Nat × Nat × Nat × Nat)} {Ts ws ws' : List Cond} {rm : Room} (n : Nat) (ht : ∀ w ∈ Ts, w.before args s = true) (hT : GoodIn Ts (wsV own index C y ws)) (hw : ws = Cond.codeWith y bytes maxL ret hh :: ws') (hrc : rm.cells = mc) (hrs : rm.slots = ms)
    (hd : y.cls = C ∧ y.cls ≠ "java/lang/invoke/MethodHandle" ∧ y.cls ≠ "java/lang/invoke/VarHandle" ∧ (parseMethodDescriptor y.desc).map (fun d => d.parameters.length) = some n) (hR : rm.frames + 1 ≤ R.frames ∧ 8 + (maxL + 11) + rm.locals ≤ R.locals) :
    vx_CVW R s args own C index y bytes maxL ret hh ws rm mc ms n := by
  obtain ⟨hC, hd⟩ := hd
  subst hC
  have ok : ∀ w ∈ wsV own index y.cls y ws, w.before args s = true := fun w h => ht w (hT w h).1
  have hG : GoodIn Ts ws := fun w h => hT w (by unfold wsV; exact List.mem_append_right _ h)
  have hc : Cond.codeWith y bytes maxL ret hh ∈ ws := by rw [hw]; exact List.mem_cons_self
  refine ⟨⟨hrc, hrs, hR.1, hR.2, pay_in ht hG, hc⟩, ht _ (hG _ hc).1, ok _ (by simp [wsV]), ⟨hd.1, hd.2.1⟩, fun sig h => ?_, ok _ (by simp [wsV]), ok _ (by simp [wsV]), ok _ (by simp [wsV])⟩
  have h2 := hd.2.2
  rw [h] at h2
  exact (Option.some.inj h2).symm
theorem vx_runVW {y : MethodName} {bytes cc : ByteArray} {maxL nL mc ms n index : Nat} {ret : Option FieldType} {hh : List (Nat × Nat × Nat × Nat)} {ws : List Cond} {rm : Room} {Pc : Array Value → State → Prop} {Qc : Array Value → State → Outcome → State → Prop} {free : Addr → Prop} {Ts : List Cond} {own C : String} {b : Addr} {As rest : List Value} {g : JFrame}
    (S : CallFix p m c cc nL s args Ts own) (hM : Met l y ws rm Pc Qc mc ms free) (cw : vx_CVW R s args own C index y bytes maxL ret hh ws rm mc ms n) (hp : PreV s H C b Pc As)
    (hg : g.method = m) (hn : As.length = n) (hsize : g.locals.size = nL) (hstack : g.stack = As.reverse ++ .ref b :: rest) (hW : 2 * g.monitorRoom + (rest.map fun v => v.category).sum ≤ 8) (hdg : decode cc g.pc = .ok (.invokevirtual index, 3)) (hf : cells + mc ≤ R.cells ∧ slots + ms ≤ R.slots) :
    va_Run p l e R s m args below meth c H locs cells slots mc ms g rest (Qc (Value.ref b :: As).toArray) free := by
  obtain ⟨⟨hrc, hrs, hfr, hlo, hws, hcw⟩, hcode, hini, hy, hlen, hl, hin, hse⟩ := cw
  have hK : Back l R p e below s args y 3 8 (PreOf R mc ms Pc) (PostOf Qc mc ms free) := va_backW (hh := hh) (bytes := bytes) (maxL := maxL) (ret := ret) hM hp.1 hrc hrs hfr hlo hws hcw (fun a' U hW => word_at hW (Or.inl (by first | rfl | simp [Cond.onTables, Cond.keeps, Cond.steady])) hini)
  obtain ⟨hx, hb, hml, ho, -⟩ := S
  obtain ⟨-, ⟨cellB, hcB, hoB, hclB⟩, hPc⟩ := hp
  intro T hT X
  obtain ⟨v, vm₁, ⟨U', l2, c2, s2⟩, hW₁, X', ⟨g', mk, t, L, e1, e2, hq, h1, hL, h2, h3⟩, st⟩ := vx_callVW X hx (C := C) (hh := hh) (bytes := bytes) (maxL := maxL) (ret := ret) ho hl hin hse hcode hy hK (by rw [hT]; exact hcB) hoB hclB hg (hsize.trans hml.symm) (argsL := As) (rest := rest) (fun sig h => hn.trans (hlen sig h)) hstack hW (by rw [hb]; exact hdg)
    (fun vm₁ hW₁ => ⟨hf.1, hf.2, hPc (T.setVm vm₁) hT hW₁⟩)
  dsimp only [Pt.U, Pt.locs, Pt.cells, Pt.slots] at X' e1 e2 h1 h2 h3 st
  subst h1; subst h2; subst h3
  exact ⟨v, (T.setVm vm₁).calling g' mk (Value.ref b :: As).toArray, t, U', L, hT, X', hL, e1, e2, hq, st⟩
section
variable {y : MethodName} {bytes cc : ByteArray} {maxL nL mc ms n index : Nat} {ret : Option FieldType} {ws : List Cond} {rm : Room} {Pc : Array Value → State → Prop} {Qc : Array Value → State → Outcome → State → Prop} {XC : String → State → State → Prop} {free : Addr → Prop} {Ts : List Cond} {own C : String} {b : Addr} {As rest : List Value} {g : JFrame}
theorem vx_runVX {hh : List (Nat × Nat × Nat × Nat)} (S : CallFix p m c cc nL s args Ts own) (hM : vx_Met l y ws rm Pc Qc XC mc ms free) (cw : vx_CVW R s args own C index y bytes maxL ret hh ws rm mc ms n) (hp : PreV s H C b Pc As)
    (hg : g.method = m) (hn : As.length = n) (hsize : g.locals.size = nL) (hstack : g.stack = As.reverse ++ .ref b :: rest) (hW : 2 * g.monitorRoom + (rest.map fun v => v.category).sum ≤ 8) (hdg : decode cc g.pc = .ok (.invokevirtual index, 3)) (hf : cells + mc ≤ R.cells ∧ slots + ms ≤ R.slots) :
    vx_Run p l e R s m args below meth c H locs cells slots mc ms g rest (Qc (Value.ref b :: As).toArray) XC free := by
  obtain ⟨⟨hrc, hrs, hfr, hlo, hws, hcw⟩, hcode, hini, hy, hlen, hl, hin, hse⟩ := cw
  have hK : vx_Back l R p e below s args y 3 8 (PreOf R mc ms Pc) (PostOf Qc mc ms free) (vx_Post XC mc ms free) := vx_backW (hh := hh) (bytes := bytes) (maxL := maxL) (ret := ret) hM hp.1 hrc hrs hfr hlo hws hcw (fun a' U hW => word_at hW (Or.inl (by first | rfl | simp [Cond.onTables, Cond.keeps, Cond.steady])) hini)
  obtain ⟨hx, hb, hml, ho, -⟩ := S
  obtain ⟨-, ⟨cellB, hcB, hoB, hclB⟩, hPc⟩ := hp
  intro T hT X
  rcases vx_callVX X hx (C := C) (hh := hh) (bytes := bytes) (maxL := maxL) (ret := ret) ho hl hin hse hcode hy hK (by rw [hT]; exact hcB) hoB hclB hg (hsize.trans hml.symm) (argsL := As) (rest := rest) (fun sig h => hn.trans (hlen sig h)) hstack hW (by rw [hb]; exact hdg)
    (fun vm₁ hW₁ => ⟨hf.1, hf.2, hPc (T.setVm vm₁) hT hW₁⟩) with ⟨v, vm₁, ⟨U', l2, c2, s2⟩, hW₁, X', ⟨g', mk, t, L, e1, e2, hq, h1, hL, h2, h3⟩, st⟩ | ⟨q, vm₁, ⟨U', l2, c2, s2⟩, hW₁, X', ⟨g', mk, t, L, E, ce, e1, e2, hq, hce, hcv, hcl, h1, hL, h2, h3⟩, st⟩
  · dsimp only [Pt.U, Pt.locs, Pt.cells, Pt.slots] at X' e1 e2 h1 h2 h3 st
    subst h1; subst h2; subst h3
    exact Or.inl ⟨v, (T.setVm vm₁).calling g' mk (Value.ref b :: As).toArray, t, U', L, hT, X', hL, e1, e2, hq, st⟩
  · dsimp only [Pt.U, Pt.locs, Pt.cells, Pt.slots] at X' e1 e2 h1 h2 h3 st hcl
    subst h1; subst h2; subst h3
    exact Or.inr ⟨q, (T.setVm vm₁).calling g' mk (Value.ref b :: As).toArray, t, U', L, E, ce, hT, X', hL, e1, e2, hq, hce, hcv, vx_cls hW₁ hcl, st⟩
theorem vx_runSX {hh : List (Nat × Nat × Nat × Nat)} (S : CallFix p m c cc nL s args Ts own) (hM : vx_Met l y ws rm Pc Qc XC mc ms free) (cw : vx_CSW R s args own index y bytes maxL ret hh ws rm mc ms n) (hp : PreS s H Pc As)
    (hg : g.method = m) (hn : As.length = n) (hsize : g.locals.size = nL) (hstack : g.stack = As.reverse ++ rest) (hW : 2 * g.monitorRoom + (rest.map fun v => v.category).sum ≤ 8) (hdg : decode cc g.pc = .ok (.invokestatic index, 3)) (hf : cells + mc ≤ R.cells ∧ slots + ms ≤ R.slots) :
    vx_Run p l e R s m args below meth c H locs cells slots mc ms g rest (Qc As.toArray) XC free := by
  obtain ⟨⟨hrc, hrs, hfr, hlo, hws, hcw⟩, hcode, hini, hy, hlen, hl, hstt⟩ := cw
  have hK : vx_Back l R p e below s args y 3 8 (PreOf R mc ms Pc) (PostOf Qc mc ms free) (vx_Post XC mc ms free) := vx_backW (hh := hh) (bytes := bytes) (maxL := maxL) (ret := ret) hM hp.1 hrc hrs hfr hlo hws hcw (fun a' U hW => word_at hW (Or.inl (by first | rfl | simp [Cond.onTables, Cond.keeps, Cond.steady])) hini)
  obtain ⟨hx, hb, hml, ho, -⟩ := S
  intro T hT X
  rcases vx_callSX X hx (hh := hh) (bytes := bytes) (maxL := maxL) (ret := ret) ho hl hstt hini hcode hy hK hg (hsize.trans hml.symm) (argsL := As) (rest := rest) (fun sig h => hn.trans (hlen sig h)) hstack hW (by rw [hb]; exact hdg)
    (fun vm₁ hW₁ => ⟨hf.1, hf.2, hp.2 (T.setVm vm₁) hT hW₁⟩) with ⟨v, vm₁, ⟨U', l2, c2, s2⟩, hW₁, X', ⟨g', mk, t, L, e1, e2, hq, h1, hL, h2, h3⟩, st⟩ | ⟨q, vm₁, ⟨U', l2, c2, s2⟩, hW₁, X', ⟨g', mk, t, L, E, ce, e1, e2, hq, hce, hcv, hcl, h1, hL, h2, h3⟩, st⟩
  · dsimp only [Pt.U, Pt.locs, Pt.cells, Pt.slots] at X' e1 e2 h1 h2 h3 st
    subst h1; subst h2; subst h3
    exact Or.inl ⟨v, (T.setVm vm₁).calling g' mk As.toArray, t, U', L, hT, X', hL, e1, e2, hq, st⟩
  · dsimp only [Pt.U, Pt.locs, Pt.cells, Pt.slots] at X' e1 e2 h1 h2 h3 st hcl
    subst h1; subst h2; subst h3
    exact Or.inr ⟨q, (T.setVm vm₁).calling g' mk As.toArray, t, U', L, E, ce, hT, X', hL, e1, e2, hq, hce, hcv, vx_cls hW₁ hcl, st⟩
end
end VXH
theorem vx_ofWH {l : Launch} {y : MethodName} {ws ws' : List Cond} {rm : Room} {Pc : Array Value → State → Prop} {Qc : Array Value → State → Outcome → State → Prop} {XC : String → State → State → Prop} {mc ms : Nat} {free : Addr → Prop} {cc : ByteArray} {maxL : Nat} {ret : Option FieldType} {hh : List (Nat × Nat × Nat × Nat)}
    (hy : plainName y.cls = true) (hw : ws = Cond.codeWith y cc maxL ret hh :: ws')
    (body : ∀ p e s m args below meth c s₁, BodyLoose p l y (headSpec ws rm) cc maxL ret e s m args below meth c s₁ → c.maxLocals = maxL → Pc args s →
      W p l e (headSpec ws rm).room s m args below meth c s.heap [] 0 0 (vx_MQ below Qc XC args s mc ms free) (entryFrame m args maxL)) : vx_Met l y ws rm Pc Qc XC mc ms free := by
  refine MetFree.of_bodyS (code := cc) (maxLocals := maxL) (ret := ret) hy ?_ ?_
  · intro args s m h hn
    obtain ⟨m9, meth, c, hn9, h1, h2, h3, h4, -, h5, h6, -⟩ := Cond.codeWith_spec (atoms_spec (ws := ws) h _ (by rw [hw]; exact List.mem_cons_self))
    cases hn.symm.trans hn9
    exact ⟨meth, c, h1, h2, h3, h4, h5, h6⟩
  · intro p e s m args below meth c s₁ B hml hP _
    have hh0 : s₁.heap = s.heap := by rw [B.state]; rfl
    obtain ⟨t, a1, o, b1, b2, b3⟩ := body p e s m args below meth c s₁ B hml hP s₁ hh0 (Stand.of_body B)
    exact ⟨t, o, a1, b1, b2, b3⟩
/-! ===== END ===== -/

/-! ===== BEGIN printed: names, fields, word lists, decode rows ===== -/
def RX0 : String := "SeasonTiers$FileRow"
def TX0 : u_T := fun k => match k with
  | 0 => ("SeasonTiers$FileRow", "name", "J", false)
  | 1 => ("SeasonTiers$FileRow", "size", "I", false)
  | 2 => ("SeasonTiers$FileRow", "home", "I", false)
  | 3 => ("SeasonTiers$FileRow", "uses", "I", false)
  | 4 => ("SeasonTiers$FileRow", "pinnedUntil", "I", false)
  | 5 => ("SeasonTiers$FileRow", "scored", "I", false)
  | 6 => ("SeasonTiers$FileRow", "offSum", "J", false)
  | 7 => ("SeasonTiers$FileRow", "keptCount", "I", false)
  | 8 => ("SeasonTiers$FileRow", "keptUses", "[I", true)
  | _ => ("SeasonTiers$FileRow", "seasons", "[I", true)
def tyX0 : Nat → FieldType := fun k => match k with
  | 0 => .long
  | 1 => .int
  | 2 => .int
  | 3 => .int
  | 4 => .int
  | 5 => .int
  | 6 => .long
  | 7 => .int
  | 8 => .array .int
  | _ => .array .int
abbrev wsX00 : List Cond := u_ws RX0 TX0 10
theorem nmX0 : ∀ a, a < 10 → ∀ b, b < 10 → a ≠ b → (TX0 a).2.1 ≠ (TX0 b).2.1 := by decide +kernel
theorem tyX0_ok : ∀ k, k < 10 → parseFieldDescriptor (TX0 k).2.2.1 = some (tyX0 k) := by decide +kernel
abbrev cX0_init : ByteArray := prog_2_method_1_code
def yX0_init : MethodName := ⟨RX0, "<init>", "()V"⟩
abbrev cX0_copyFrom : ByteArray := prog_2_method_2_code
def yX0_copyFrom : MethodName := ⟨RX0, "copyFrom", "(LSeasonTiers$FileRow;)V"⟩
abbrev cX0_startAs : ByteArray := prog_2_method_3_code
def yX0_startAs : MethodName := ⟨RX0, "startAs", "(JIII)V"⟩
abbrev cX0_isPinnedIn : ByteArray := prog_2_method_4_code
def yX0_isPinnedIn : MethodName := ⟨RX0, "isPinnedIn", "(I)Z"⟩
abbrev cX0_forgetSeasons : ByteArray := prog_2_method_5_code
def yX0_forgetSeasons : MethodName := ⟨RX0, "forgetSeasons", "()V"⟩
abbrev cX0_knownSeasons : ByteArray := prog_2_method_6_code
def yX0_knownSeasons : MethodName := ⟨RX0, "knownSeasons", "()I"⟩
abbrev cX0_busiestPhase : ByteArray := prog_2_method_7_code
def yX0_busiestPhase : MethodName := ⟨RX0, "busiestPhase", "()I"⟩
abbrev cX0_seasonSpread : ByteArray := prog_2_method_8_code
def yX0_seasonSpread : MethodName := ⟨RX0, "seasonSpread", "()I"⟩
abbrev cX0_meanSeason : ByteArray := prog_2_method_9_code
def yX0_meanSeason : MethodName := ⟨RX0, "meanSeason", "()I"⟩
abbrev cX0_forecastFor : ByteArray := prog_2_method_10_code
def yX0_forecastFor : MethodName := ⟨RX0, "forecastFor", "(I)I"⟩
abbrev cX0_learnSeason : ByteArray := prog_2_method_11_code
def yX0_learnSeason : MethodName := ⟨RX0, "learnSeason", "(III)V"⟩
abbrev cX0_scoreForecast : ByteArray := prog_2_method_12_code
def yX0_scoreForecast : MethodName := ⟨RX0, "scoreForecast", "(I)V"⟩
abbrev cX0_keepUses : ByteArray := prog_2_method_13_code
def yX0_keepUses : MethodName := ⟨RX0, "keepUses", "()V"⟩
abbrev cX0_learnFromKept : ByteArray := prog_2_method_14_code
def yX0_learnFromKept : MethodName := ⟨RX0, "learnFromKept", "(III)V"⟩
abbrev cX0_differenceAt : ByteArray := prog_2_method_15_code
def yX0_differenceAt : MethodName := ⟨RX0, "differenceAt", "(I)I"⟩
abbrev cX0_ownCycle : ByteArray := prog_2_method_16_code
def yX0_ownCycle : MethodName := ⟨RX0, "ownCycle", "()I"⟩
def RX1 : String := "SeasonTiers$History"
def TX1 : u_T := fun k => match k with
  | 0 => ("SeasonTiers$History", "size", "I", false)
  | 1 => ("SeasonTiers$History", "next", "I", false)
  | _ => ("SeasonTiers$History", "ring", "[LSeasonTiers$Store;", true)
def tyX1 : Nat → FieldType := fun k => match k with
  | 0 => .int
  | 1 => .int
  | _ => .array (.object "SeasonTiers$Store")
abbrev wsX10 : List Cond := u_ws RX1 TX1 3
theorem nmX1 : ∀ a, a < 3 → ∀ b, b < 3 → a ≠ b → (TX1 a).2.1 ≠ (TX1 b).2.1 := by decide +kernel
theorem tyX1_ok : ∀ k, k < 3 → parseFieldDescriptor (TX1 k).2.2.1 = some (tyX1 k) := by decide +kernel
abbrev cX1_init : ByteArray := prog_3_method_1_code
def yX1_init : MethodName := ⟨RX1, "<init>", "()V"⟩
abbrev cX1_remember : ByteArray := prog_3_method_2_code
def yX1_remember : MethodName := ⟨RX1, "remember", "(LSeasonTiers$Store;)V"⟩
abbrev cX1_bringBack : ByteArray := prog_3_method_3_code
def yX1_bringBack : MethodName := ⟨RX1, "bringBack", "(LSeasonTiers$Store;)V"⟩
def RX2 : String := "SeasonTiers$Moves"
def TX2 : u_T := fun k => match k with
  | 0 => ("SeasonTiers$Moves", "size", "I", false)
  | _ => ("SeasonTiers$Moves", "rows", "[I", true)
def tyX2 : Nat → FieldType := fun k => match k with
  | 0 => .int
  | _ => .array .int
abbrev wsX20 : List Cond := u_ws RX2 TX2 2
theorem nmX2 : ∀ a, a < 2 → ∀ b, b < 2 → a ≠ b → (TX2 a).2.1 ≠ (TX2 b).2.1 := by decide +kernel
theorem tyX2_ok : ∀ k, k < 2 → parseFieldDescriptor (TX2 k).2.2.1 = some (tyX2 k) := by decide +kernel
abbrev cX2_init : ByteArray := prog_4_method_1_code
def yX2_init : MethodName := ⟨RX2, "<init>", "()V"⟩
abbrev cX2_copyFrom : ByteArray := prog_4_method_2_code
def yX2_copyFrom : MethodName := ⟨RX2, "copyFrom", "(LSeasonTiers$Moves;)V"⟩
abbrev cX2_latest : ByteArray := prog_4_method_3_code
def yX2_latest : MethodName := ⟨RX2, "latest", "(I)I"⟩
abbrev cX2_put : ByteArray := prog_4_method_4_code
def yX2_put : MethodName := ⟨RX2, "put", "(IIIII)V"⟩
abbrev cX2_removeRow : ByteArray := prog_4_method_5_code
def yX2_removeRow : MethodName := ⟨RX2, "removeRow", "(I)V"⟩
abbrev cX2_forgetFile : ByteArray := prog_4_method_6_code
def yX2_forgetFile : MethodName := ⟨RX2, "forgetFile", "(I)V"⟩
def RX3 : String := "SeasonTiers$Planner"
def TX3 : u_T := fun k => match k with
  | 0 => ("SeasonTiers$Planner", "stepCount", "I", false)
  | 1 => ("SeasonTiers$Planner", "saved", "J", false)
  | 2 => ("SeasonTiers$Planner", "firstFiles", "[I", true)
  | 3 => ("SeasonTiers$Planner", "otherFiles", "[I", true)
  | 4 => ("SeasonTiers$Planner", "targets", "[I", true)
  | 5 => ("SeasonTiers$Planner", "gains", "[J", true)
  | 6 => ("SeasonTiers$Planner", "open", "[Z", true)
  | 7 => ("SeasonTiers$Planner", "space", "[I", true)
  | 8 => ("SeasonTiers$Planner", "bestFile", "I", false)
  | 9 => ("SeasonTiers$Planner", "bestOther", "I", false)
  | 10 => ("SeasonTiers$Planner", "bestTarget", "I", false)
  | _ => ("SeasonTiers$Planner", "bestGain", "J", false)
def tyX3 : Nat → FieldType := fun k => match k with
  | 0 => .int
  | 1 => .long
  | 2 => .array .int
  | 3 => .array .int
  | 4 => .array .int
  | 5 => .array .long
  | 6 => .array .boolean
  | 7 => .array .int
  | 8 => .int
  | 9 => .int
  | 10 => .int
  | _ => .long
abbrev wsX30 : List Cond := u_ws RX3 TX3 12
theorem nmX3 : ∀ a, a < 12 → ∀ b, b < 12 → a ≠ b → (TX3 a).2.1 ≠ (TX3 b).2.1 := by decide +kernel
theorem tyX3_ok : ∀ k, k < 12 → parseFieldDescriptor (TX3 k).2.2.1 = some (tyX3 k) := by decide +kernel
abbrev cX3_init : ByteArray := prog_5_method_1_code
def yX3_init : MethodName := ⟨RX3, "<init>", "()V"⟩
abbrev cX3_makePlan : ByteArray := prog_5_method_2_code
def yX3_makePlan : MethodName := ⟨RX3, "makePlan", "(LSeasonTiers$Store;I)V"⟩
abbrev cX3_planAgain : ByteArray := prog_5_method_3_code
def yX3_planAgain : MethodName := ⟨RX3, "planAgain", "(LSeasonTiers$Store;II)V"⟩
abbrev cX3_bestTier : ByteArray := prog_5_method_4_code
def yX3_bestTier : MethodName := ⟨RX3, "bestTier", "(LSeasonTiers$Store;II)I"⟩
abbrev cX3_carryOut : ByteArray := prog_5_method_5_code
def yX3_carryOut : MethodName := ⟨RX3, "carryOut", "(LSeasonTiers$Store;)I"⟩
abbrev cX3_findGains : ByteArray := prog_5_method_6_code
def yX3_findGains : MethodName := ⟨RX3, "findGains", "(LSeasonTiers$Store;II)V"⟩
abbrev cX3_findMove : ByteArray := prog_5_method_7_code
def yX3_findMove : MethodName := ⟨RX3, "findMove", "(LSeasonTiers$Store;)Z"⟩
abbrev cX3_findExchange : ByteArray := prog_5_method_8_code
def yX3_findExchange : MethodName := ⟨RX3, "findExchange", "(LSeasonTiers$Store;)Z"⟩
abbrev cX3_setBest : ByteArray := prog_5_method_9_code
def yX3_setBest : MethodName := ⟨RX3, "setBest", "(IIIJ)V"⟩
abbrev cX3_takeStep : ByteArray := prog_5_method_10_code
def yX3_takeStep : MethodName := ⟨RX3, "takeStep", "(LSeasonTiers$Store;)V"⟩
abbrev cX3_takeAway : ByteArray := prog_5_method_11_code
def yX3_takeAway : MethodName := ⟨RX3, "takeAway", "(IIII)V"⟩
def RX4 : String := "SeasonTiers$Reader"
def TX4 : u_T := fun k => match k with
  | 0 => ("SeasonTiers$Reader", "length", "I", false)
  | 1 => ("SeasonTiers$Reader", "errorAt", "I", false)
  | 2 => ("SeasonTiers$Reader", "text", "[I", true)
  | 3 => ("SeasonTiers$Reader", "at", "I", false)
  | 4 => ("SeasonTiers$Reader", "error", "I", false)
  | 5 => ("SeasonTiers$Reader", "number", "I", false)
  | 6 => ("SeasonTiers$Reader", "name", "J", false)
  | _ => ("SeasonTiers$Reader", "nameAt", "I", false)
def tyX4 : Nat → FieldType := fun k => match k with
  | 0 => .int
  | 1 => .int
  | 2 => .array .int
  | 3 => .int
  | 4 => .int
  | 5 => .int
  | 6 => .long
  | _ => .int
abbrev wsX40 : List Cond := u_ws RX4 TX4 8
theorem nmX4 : ∀ a, a < 8 → ∀ b, b < 8 → a ≠ b → (TX4 a).2.1 ≠ (TX4 b).2.1 := by decide +kernel
theorem tyX4_ok : ∀ k, k < 8 → parseFieldDescriptor (TX4 k).2.2.1 = some (tyX4 k) := by decide +kernel
abbrev cX4_init : ByteArray := prog_6_method_1_code
def yX4_init : MethodName := ⟨RX4, "<init>", "()V"⟩
abbrev cX4_putBytesOf : ByteArray := prog_6_method_2_code
def yX4_putBytesOf : MethodName := ⟨RX4, "putBytesOf", "(I)V"⟩
abbrev cX4_readStore : ByteArray := prog_6_method_3_code
def yX4_readStore : MethodName := ⟨RX4, "readStore", "(LSeasonTiers$Store;)I"⟩
abbrev cX4_readHead : ByteArray := prog_6_method_4_code
def yX4_readHead : MethodName := ⟨RX4, "readHead", "(LSeasonTiers$Store;)Z"⟩
abbrev cX4_readTiers : ByteArray := prog_6_method_5_code
def yX4_readTiers : MethodName := ⟨RX4, "readTiers", "(LSeasonTiers$Store;)Z"⟩
abbrev cX4_readTier : ByteArray := prog_6_method_6_code
def yX4_readTier : MethodName := ⟨RX4, "readTier", "(LSeasonTiers$Store;)Z"⟩
abbrev cX4_readFiles : ByteArray := prog_6_method_7_code
def yX4_readFiles : MethodName := ⟨RX4, "readFiles", "(LSeasonTiers$Store;)Z"⟩
abbrev cX4_readFile : ByteArray := prog_6_method_8_code
def yX4_readFile : MethodName := ⟨RX4, "readFile", "(LSeasonTiers$Store;)Z"⟩
abbrev cX4_readName : ByteArray := prog_6_method_9_code
def yX4_readName : MethodName := ⟨RX4, "readName", "()Z"⟩
abbrev cX4_readNumber : ByteArray := prog_6_method_10_code
def yX4_readNumber : MethodName := ⟨RX4, "readNumber", "(II)Z"⟩
abbrev cX4_passSemicolon : ByteArray := prog_6_method_11_code
def yX4_passSemicolon : MethodName := ⟨RX4, "passSemicolon", "()Z"⟩
abbrev cX4_passWord : ByteArray := prog_6_method_12_code
def yX4_passWord : MethodName := ⟨RX4, "passWord", "(Ljava/lang/String;)Z"⟩
abbrev cX4_nextIsWord : ByteArray := prog_6_method_13_code
def yX4_nextIsWord : MethodName := ⟨RX4, "nextIsWord", "(Ljava/lang/String;)Z"⟩
abbrev cX4_nextByte : ByteArray := prog_6_method_14_code
def yX4_nextByte : MethodName := ⟨RX4, "nextByte", "()I"⟩
abbrev cX4_endOfWord : ByteArray := prog_6_method_15_code
def yX4_endOfWord : MethodName := ⟨RX4, "endOfWord", "()I"⟩
abbrev cX4_isDigit : ByteArray := prog_6_method_16_code
def yX4_isDigit : MethodName := ⟨RX4, "isDigit", "(I)Z"⟩
abbrev cX4_fail : ByteArray := prog_6_method_17_code
def yX4_fail : MethodName := ⟨RX4, "fail", "(II)Z"⟩
def RX5 : String := "SeasonTiers$Store"
def TX5 : u_T := fun k => match k with
  | 0 => ("SeasonTiers$Store", "cycle", "I", false)
  | 1 => ("SeasonTiers$Store", "rate", "I", false)
  | 2 => ("SeasonTiers$Store", "period", "I", false)
  | 3 => ("SeasonTiers$Store", "tierCount", "I", false)
  | 4 => ("SeasonTiers$Store", "fileCount", "I", false)
  | 5 => ("SeasonTiers$Store", "tiers", "[LSeasonTiers$TierRow;", true)
  | 6 => ("SeasonTiers$Store", "files", "[LSeasonTiers$FileRow;", true)
  | _ => ("SeasonTiers$Store", "moves", "LSeasonTiers$Moves;", true)
def tyX5 : Nat → FieldType := fun k => match k with
  | 0 => .int
  | 1 => .int
  | 2 => .int
  | 3 => .int
  | 4 => .int
  | 5 => .array (.object "SeasonTiers$TierRow")
  | 6 => .array (.object "SeasonTiers$FileRow")
  | _ => .object "SeasonTiers$Moves"
abbrev wsX50 : List Cond := u_ws RX5 TX5 8
theorem nmX5 : ∀ a, a < 8 → ∀ b, b < 8 → a ≠ b → (TX5 a).2.1 ≠ (TX5 b).2.1 := by decide +kernel
theorem tyX5_ok : ∀ k, k < 8 → parseFieldDescriptor (TX5 k).2.2.1 = some (tyX5 k) := by decide +kernel
abbrev cX5_init : ByteArray := prog_7_method_1_code
def yX5_init : MethodName := ⟨RX5, "<init>", "()V"⟩
abbrev cX5_copyFrom : ByteArray := prog_7_method_2_code
def yX5_copyFrom : MethodName := ⟨RX5, "copyFrom", "(LSeasonTiers$Store;)V"⟩
abbrev cX5_startAs : ByteArray := prog_7_method_3_code
def yX5_startAs : MethodName := ⟨RX5, "startAs", "(II)V"⟩
abbrev cX5_startAsNew : ByteArray := prog_7_method_4_code
def yX5_startAsNew : MethodName := ⟨RX5, "startAsNew", "()V"⟩
abbrev cX5_phaseAhead : ByteArray := prog_7_method_5_code
def yX5_phaseAhead : MethodName := ⟨RX5, "phaseAhead", "(I)I"⟩
abbrev cX5_tierNamed : ByteArray := prog_7_method_6_code
def yX5_tierNamed : MethodName := ⟨RX5, "tierNamed", "(J)I"⟩
abbrev cX5_fileNamed : ByteArray := prog_7_method_7_code
def yX5_fileNamed : MethodName := ⟨RX5, "fileNamed", "(J)I"⟩
abbrev cX5_pinnedFiles : ByteArray := prog_7_method_8_code
def yX5_pinnedFiles : MethodName := ⟨RX5, "pinnedFiles", "()I"⟩
abbrev cX5_sizeOfAll : ByteArray := prog_7_method_9_code
def yX5_sizeOfAll : MethodName := ⟨RX5, "sizeOfAll", "()I"⟩
abbrev cX5_sizeOn : ByteArray := prog_7_method_10_code
def yX5_sizeOn : MethodName := ⟨RX5, "sizeOn", "(I)I"⟩
abbrev cX5_filesOn : ByteArray := prog_7_method_11_code
def yX5_filesOn : MethodName := ⟨RX5, "filesOn", "(I)I"⟩
abbrev cX5_mostUsedOn : ByteArray := prog_7_method_12_code
def yX5_mostUsedOn : MethodName := ⟨RX5, "mostUsedOn", "(I)I"⟩
abbrev cX5_hasRoomFor : ByteArray := prog_7_method_13_code
def yX5_hasRoomFor : MethodName := ⟨RX5, "hasRoomFor", "(II)Z"⟩
abbrev cX5_paidOnAll : ByteArray := prog_7_method_14_code
def yX5_paidOnAll : MethodName := ⟨RX5, "paidOnAll", "(I)J"⟩
abbrev cX5_forecastSum : ByteArray := prog_7_method_15_code
def yX5_forecastSum : MethodName := ⟨RX5, "forecastSum", "(II)J"⟩
abbrev cX5_costOn : ByteArray := prog_7_method_16_code
def yX5_costOn : MethodName := ⟨RX5, "costOn", "(IIIJ)J"⟩
abbrev cX5_moveCost : ByteArray := prog_7_method_17_code
def yX5_moveCost : MethodName := ⟨RX5, "moveCost", "(III)I"⟩
abbrev cX5_putTier : ByteArray := prog_7_method_18_code
def yX5_putTier : MethodName := ⟨RX5, "putTier", "(J)V"⟩
abbrev cX5_putFile : ByteArray := prog_7_method_19_code
def yX5_putFile : MethodName := ⟨RX5, "putFile", "(JIII)V"⟩
abbrev cX5_removeFile : ByteArray := prog_7_method_20_code
def yX5_removeFile : MethodName := ⟨RX5, "removeFile", "(I)V"⟩
abbrev cX5_endPeriod : ByteArray := prog_7_method_21_code
def yX5_endPeriod : MethodName := ⟨RX5, "endPeriod", "()J"⟩
abbrev cX5_payFor : ByteArray := prog_7_method_22_code
def yX5_payFor : MethodName := ⟨RX5, "payFor", "(LSeasonTiers$FileRow;)J"⟩
abbrev cX5_carry : ByteArray := prog_7_method_23_code
def yX5_carry : MethodName := ⟨RX5, "carry", "(II)I"⟩
abbrev cX5_carryBack : ByteArray := prog_7_method_24_code
def yX5_carryBack : MethodName := ⟨RX5, "carryBack", "()V"⟩
abbrev cX5_learnAgain : ByteArray := prog_7_method_25_code
def yX5_learnAgain : MethodName := ⟨RX5, "learnAgain", "(II)V"⟩
def RX6 : String := "SeasonTiers$TierRow"
def TX6 : u_T := fun k => match k with
  | 0 => ("SeasonTiers$TierRow", "name", "J", false)
  | 1 => ("SeasonTiers$TierRow", "numbers", "[I", true)
  | _ => ("SeasonTiers$TierRow", "paid", "[J", true)
def tyX6 : Nat → FieldType := fun k => match k with
  | 0 => .long
  | 1 => .array .int
  | _ => .array .long
abbrev wsX60 : List Cond := u_ws RX6 TX6 3
theorem nmX6 : ∀ a, a < 3 → ∀ b, b < 3 → a ≠ b → (TX6 a).2.1 ≠ (TX6 b).2.1 := by decide +kernel
theorem tyX6_ok : ∀ k, k < 3 → parseFieldDescriptor (TX6 k).2.2.1 = some (tyX6 k) := by decide +kernel
abbrev cX6_init : ByteArray := prog_8_method_1_code
def yX6_init : MethodName := ⟨RX6, "<init>", "()V"⟩
abbrev cX6_copyFrom : ByteArray := prog_8_method_2_code
def yX6_copyFrom : MethodName := ⟨RX6, "copyFrom", "(LSeasonTiers$TierRow;)V"⟩
abbrev cX6_startAs : ByteArray := prog_8_method_3_code
def yX6_startAs : MethodName := ⟨RX6, "startAs", "(J)V"⟩
abbrev cX6_paidFor : ByteArray := prog_8_method_4_code
def yX6_paidFor : MethodName := ⟨RX6, "paidFor", "(I)J"⟩
def RX7 : String := "SeasonTiers$Writer"
def TX7 : u_T := fun k => match k with
  | 0 => ("SeasonTiers$Writer", "length", "I", false)
  | _ => ("SeasonTiers$Writer", "bytes", "[I", true)
def tyX7 : Nat → FieldType := fun k => match k with
  | 0 => .int
  | _ => .array .int
abbrev wsX70 : List Cond := u_ws RX7 TX7 2
theorem nmX7 : ∀ a, a < 2 → ∀ b, b < 2 → a ≠ b → (TX7 a).2.1 ≠ (TX7 b).2.1 := by decide +kernel
theorem tyX7_ok : ∀ k, k < 2 → parseFieldDescriptor (TX7 k).2.2.1 = some (tyX7 k) := by decide +kernel
abbrev cX7_init : ByteArray := prog_9_method_1_code
def yX7_init : MethodName := ⟨RX7, "<init>", "()V"⟩
abbrev cX7_withLetter : ByteArray := prog_9_method_2_code
def yX7_withLetter : MethodName := ⟨RX7, "withLetter", "(JI)J"⟩
abbrev cX7_writeStore : ByteArray := prog_9_method_3_code
def yX7_writeStore : MethodName := ⟨RX7, "writeStore", "(LSeasonTiers$Store;)V"⟩
abbrev cX7_putFilesOn : ByteArray := prog_9_method_4_code
def yX7_putFilesOn : MethodName := ⟨RX7, "putFilesOn", "(LSeasonTiers$Store;I)V"⟩
abbrev cX7_putName : ByteArray := prog_9_method_5_code
def yX7_putName : MethodName := ⟨RX7, "putName", "(J)V"⟩
abbrev cX7_putByte : ByteArray := prog_9_method_6_code
def yX7_putByte : MethodName := ⟨RX7, "putByte", "(I)V"⟩
def RX8 : String := "SeasonTiers"
def TX8 : u_T := fun k => match k with
  | 0 => ("SeasonTiers", "reader", "LSeasonTiers$Reader;", true)
  | 1 => ("SeasonTiers", "writer", "LSeasonTiers$Writer;", true)
  | 2 => ("SeasonTiers", "planner", "LSeasonTiers$Planner;", true)
  | 3 => ("SeasonTiers", "history", "LSeasonTiers$History;", true)
  | 4 => ("SeasonTiers", "now", "LSeasonTiers$Store;", true)
  | 5 => ("SeasonTiers", "draft", "LSeasonTiers$Store;", true)
  | 6 => ("SeasonTiers", "slots", "[LSeasonTiers$Store;", true)
  | 7 => ("SeasonTiers", "slotFilled", "[Z", true)
  | _ => ("SeasonTiers", "filesByCycle", "[I", true)
def tyX8 : Nat → FieldType := fun k => match k with
  | 0 => .object "SeasonTiers$Reader"
  | 1 => .object "SeasonTiers$Writer"
  | 2 => .object "SeasonTiers$Planner"
  | 3 => .object "SeasonTiers$History"
  | 4 => .object "SeasonTiers$Store"
  | 5 => .object "SeasonTiers$Store"
  | 6 => .array (.object "SeasonTiers$Store")
  | 7 => .array .boolean
  | _ => .array .int
abbrev wsX80 : List Cond := u_ws RX8 TX8 9
theorem nmX8 : ∀ a, a < 9 → ∀ b, b < 9 → a ≠ b → (TX8 a).2.1 ≠ (TX8 b).2.1 := by decide +kernel
theorem tyX8_ok : ∀ k, k < 9 → parseFieldDescriptor (TX8 k).2.2.1 = some (tyX8 k) := by decide +kernel
abbrev cX8_init : ByteArray := prog_1_method_1_code
def yX8_init : MethodName := ⟨RX8, "<init>", "()V"⟩
abbrev cX8_append : ByteArray := prog_1_method_2_code
def yX8_append : MethodName := ⟨RX8, "append", "(IIIII)I"⟩
abbrev cX8_load : ByteArray := prog_1_method_3_code
def yX8_load : MethodName := ⟨RX8, "load", "()I"⟩
abbrev cX8_errorPosition : ByteArray := prog_1_method_4_code
def yX8_errorPosition : MethodName := ⟨RX8, "errorPosition", "()I"⟩
abbrev cX8_count : ByteArray := prog_1_method_5_code
def yX8_count : MethodName := ⟨RX8, "count", "(I)I"⟩
abbrev cX8_tier : ByteArray := prog_1_method_6_code
def yX8_tier : MethodName := ⟨RX8, "tier", "(II)I"⟩
abbrev cX8_file : ByteArray := prog_1_method_7_code
def yX8_file : MethodName := ⟨RX8, "file", "(II)I"⟩
abbrev cX8_season : ByteArray := prog_1_method_8_code
def yX8_season : MethodName := ⟨RX8, "season", "(II)I"⟩
abbrev cX8_kept : ByteArray := prog_1_method_9_code
def yX8_kept : MethodName := ⟨RX8, "kept", "(II)I"⟩
abbrev cX8_forecast : ByteArray := prog_1_method_10_code
def yX8_forecast : MethodName := ⟨RX8, "forecast", "(II)I"⟩
abbrev cX8_off : ByteArray := prog_1_method_11_code
def yX8_off : MethodName := ⟨RX8, "off", "(I)J"⟩
abbrev cX8_meanOff : ByteArray := prog_1_method_12_code
def yX8_meanOff : MethodName := ⟨RX8, "meanOff", "()D"⟩
abbrev cX8_cycleOf : ByteArray := prog_1_method_13_code
def yX8_cycleOf : MethodName := ⟨RX8, "cycleOf", "(I)I"⟩
abbrev cX8_commonCycle : ByteArray := prog_1_method_14_code
def yX8_commonCycle : MethodName := ⟨RX8, "commonCycle", "()I"⟩
abbrev cX8_account : ByteArray := prog_1_method_15_code
def yX8_account : MethodName := ⟨RX8, "account", "(II)J"⟩
abbrev cX8_movingShare : ByteArray := prog_1_method_16_code
def yX8_movingShare : MethodName := ⟨RX8, "movingShare", "()F"⟩
abbrev cX8_cost : ByteArray := prog_1_method_17_code
def yX8_cost : MethodName := ⟨RX8, "cost", "(III)J"⟩
abbrev cX8_wish : ByteArray := prog_1_method_18_code
def yX8_wish : MethodName := ⟨RX8, "wish", "(II)I"⟩
abbrev cX8_steps : ByteArray := prog_1_method_19_code
def yX8_steps : MethodName := ⟨RX8, "steps", "(I)I"⟩
abbrev cX8_step : ByteArray := prog_1_method_20_code
def yX8_step : MethodName := ⟨RX8, "step", "(III)I"⟩
abbrev cX8_saving : ByteArray := prog_1_method_21_code
def yX8_saving : MethodName := ⟨RX8, "saving", "(I)J"⟩
abbrev cX8_withRoom : ByteArray := prog_1_method_22_code
def yX8_withRoom : MethodName := ⟨RX8, "withRoom", "(III)J"⟩
abbrev cX8_add : ByteArray := prog_1_method_23_code
def yX8_add : MethodName := ⟨RX8, "add", "(II)I"⟩
abbrev cX8_drop : ByteArray := prog_1_method_24_code
def yX8_drop : MethodName := ⟨RX8, "drop", "(I)I"⟩
abbrev cX8_use : ByteArray := prog_1_method_25_code
def yX8_use : MethodName := ⟨RX8, "use", "(II)I"⟩
abbrev cX8_close : ByteArray := prog_1_method_26_code
def yX8_close : MethodName := ⟨RX8, "close", "()J"⟩
abbrev cX8_move : ByteArray := prog_1_method_27_code
def yX8_move : MethodName := ⟨RX8, "move", "(II)I"⟩
abbrev cX8_unmove : ByteArray := prog_1_method_28_code
def yX8_unmove : MethodName := ⟨RX8, "unmove", "()I"⟩
abbrev cX8_pin : ByteArray := prog_1_method_29_code
def yX8_pin : MethodName := ⟨RX8, "pin", "(II)I"⟩
abbrev cX8_act : ByteArray := prog_1_method_30_code
def yX8_act : MethodName := ⟨RX8, "act", "(I)I"⟩
abbrev cX8_learn : ByteArray := prog_1_method_31_code
def yX8_learn : MethodName := ⟨RX8, "learn", "(II)I"⟩
abbrev cX8_setTier : ByteArray := prog_1_method_32_code
def yX8_setTier : MethodName := ⟨RX8, "setTier", "(III)I"⟩
abbrev cX8_undo : ByteArray := prog_1_method_33_code
def yX8_undo : MethodName := ⟨RX8, "undo", "()I"⟩
abbrev cX8_save : ByteArray := prog_1_method_34_code
def yX8_save : MethodName := ⟨RX8, "save", "(I)V"⟩
abbrev cX8_restore : ByteArray := prog_1_method_35_code
def yX8_restore : MethodName := ⟨RX8, "restore", "(I)I"⟩
abbrev cX8_writeTiers : ByteArray := prog_1_method_36_code
def yX8_writeTiers : MethodName := ⟨RX8, "writeTiers", "()I"⟩
abbrev cX8_writtenByte : ByteArray := prog_1_method_37_code
def yX8_writtenByte : MethodName := ⟨RX8, "writtenByte", "(I)I"⟩
abbrev cX8_requireTier : ByteArray := prog_1_method_38_code
def yX8_requireTier : MethodName := ⟨RX8, "requireTier", "(I)V"⟩
abbrev cX8_requireFile : ByteArray := prog_1_method_39_code
def yX8_requireFile : MethodName := ⟨RX8, "requireFile", "(I)V"⟩
abbrev cX8_requireSlot : ByteArray := prog_1_method_40_code
def yX8_requireSlot : MethodName := ⟨RX8, "requireSlot", "(I)V"⟩
abbrev cX8_requirePeriods : ByteArray := prog_1_method_41_code
def yX8_requirePeriods : MethodName := ⟨RX8, "requirePeriods", "(I)V"⟩
abbrev cX8_requireWithin : ByteArray := prog_1_method_42_code
def yX8_requireWithin : MethodName := ⟨RX8, "requireWithin", "(III)V"⟩
abbrev cX8_leastOf : ByteArray := prog_1_method_43_code
def yX8_leastOf : MethodName := ⟨RX8, "leastOf", "(I)I"⟩
abbrev cX8_greatestOf : ByteArray := prog_1_method_44_code
def yX8_greatestOf : MethodName := ⟨RX8, "greatestOf", "(I)I"⟩
abbrev cX8_bytesIn : ByteArray := prog_1_method_45_code
def yX8_bytesIn : MethodName := ⟨RX8, "bytesIn", "(I)I"⟩
def RX9 : String := "SeasonTiersModel"
def TX9 : u_T := fun k => match k with
  | 0 => ("SeasonTiersModel", "a", "[J", true)
  | 1 => ("SeasonTiersModel", "aside", "[J", true)
  | 2 => ("SeasonTiersModel", "kept", "[J", true)
  | 3 => ("SeasonTiersModel", "saved", "[J", true)
  | 4 => ("SeasonTiersModel", "isSaved", "[Z", true)
  | 5 => ("SeasonTiersModel", "keptMany", "I", false)
  | 6 => ("SeasonTiersModel", "thrown", "I", false)
  | 7 => ("SeasonTiersModel", "buffer", "[I", true)
  | 8 => ("SeasonTiersModel", "buffered", "I", false)
  | 9 => ("SeasonTiersModel", "at", "I", false)
  | 10 => ("SeasonTiersModel", "behind", "I", false)
  | 11 => ("SeasonTiersModel", "kind", "I", false)
  | 12 => ("SeasonTiersModel", "number", "I", false)
  | 13 => ("SeasonTiersModel", "wrong", "I", false)
  | 14 => ("SeasonTiersModel", "wrongAt", "I", false)
  | 15 => ("SeasonTiersModel", "errorAt", "I", false)
  | 16 => ("SeasonTiersModel", "paperOn", "[I", true)
  | 17 => ("SeasonTiersModel", "stepFile", "[I", true)
  | 18 => ("SeasonTiersModel", "stepOther", "[I", true)
  | 19 => ("SeasonTiersModel", "stepTo", "[I", true)
  | 20 => ("SeasonTiersModel", "isIn0", "[Z", true)
  | 21 => ("SeasonTiersModel", "free", "[I", true)
  | 22 => ("SeasonTiersModel", "onTier", "[J", true)
  | 23 => ("SeasonTiersModel", "stepMany", "I", false)
  | 24 => ("SeasonTiersModel", "foundFile", "I", false)
  | 25 => ("SeasonTiersModel", "foundOther", "I", false)
  | 26 => ("SeasonTiersModel", "foundTo", "I", false)
  | 27 => ("SeasonTiersModel", "planSaves", "J", false)
  | 28 => ("SeasonTiersModel", "foundSaves", "J", false)
  | 29 => ("SeasonTiersModel", "unused", "I", false)
  | 30 => ("SeasonTiersModel", "written", "[I", true)
  | _ => ("SeasonTiersModel", "writtenMany", "I", false)
def tyX9 : Nat → FieldType := fun k => match k with
  | 0 => .array .long
  | 1 => .array .long
  | 2 => .array .long
  | 3 => .array .long
  | 4 => .array .boolean
  | 5 => .int
  | 6 => .int
  | 7 => .array .int
  | 8 => .int
  | 9 => .int
  | 10 => .int
  | 11 => .int
  | 12 => .int
  | 13 => .int
  | 14 => .int
  | 15 => .int
  | 16 => .array .int
  | 17 => .array .int
  | 18 => .array .int
  | 19 => .array .int
  | 20 => .array .boolean
  | 21 => .array .int
  | 22 => .array .long
  | 23 => .int
  | 24 => .int
  | 25 => .int
  | 26 => .int
  | 27 => .long
  | 28 => .long
  | 29 => .int
  | 30 => .array .int
  | _ => .int
abbrev wsX90 : List Cond := u_ws RX9 TX9 32
theorem nmX9 : ∀ a, a < 32 → ∀ b, b < 32 → a ≠ b → (TX9 a).2.1 ≠ (TX9 b).2.1 := by decide +kernel
theorem tyX9_ok : ∀ k, k < 32 → parseFieldDescriptor (TX9 k).2.2.1 = some (tyX9 k) := by decide +kernel
abbrev cX9_init : ByteArray := prog_11_method_1_code
def yX9_init : MethodName := ⟨RX9, "<init>", "()V"⟩
abbrev cX9_puts : ByteArray := prog_11_method_2_code
def yX9_puts : MethodName := ⟨RX9, "puts", "(IIIIII)V"⟩
abbrev cX9_begins : ByteArray := prog_11_method_3_code
def yX9_begins : MethodName := ⟨RX9, "begins", "()V"⟩
abbrev cX9_thrown : ByteArray := prog_11_method_4_code
def yX9_thrown : MethodName := ⟨RX9, "thrown", "()I"⟩
abbrev cX9_isIn : ByteArray := prog_11_method_5_code
def yX9_isIn : MethodName := ⟨RX9, "isIn", "(III)Z"⟩
abbrev cX9_copies : ByteArray := prog_11_method_6_code
def yX9_copies : MethodName := ⟨RX9, "copies", "([JI[JI)V"⟩
abbrev cX9_keeps : ByteArray := prog_11_method_7_code
def yX9_keeps : MethodName := ⟨RX9, "keeps", "([J)V"⟩
abbrev cX9_undo : ByteArray := prog_11_method_8_code
def yX9_undo : MethodName := ⟨RX9, "undo", "()I"⟩
abbrev cX9_save : ByteArray := prog_11_method_9_code
def yX9_save : MethodName := ⟨RX9, "save", "(I)V"⟩
abbrev cX9_restore : ByteArray := prog_11_method_10_code
def yX9_restore : MethodName := ⟨RX9, "restore", "(I)I"⟩
abbrev cX9_byteOf : ByteArray := prog_11_method_11_code
def yX9_byteOf : MethodName := ⟨RX9, "byteOf", "(IIIIII)I"⟩
abbrev cX9_append : ByteArray := prog_11_method_12_code
def yX9_append : MethodName := ⟨RX9, "append", "(IIIII)I"⟩
abbrev cX9_see : ByteArray := prog_11_method_13_code
def yX9_see : MethodName := ⟨RX9, "see", "(I)I"⟩
abbrev cX9_isLetter : ByteArray := prog_11_method_14_code
def yX9_isLetter : MethodName := ⟨RX9, "isLetter", "(I)Z"⟩
abbrev cX9_isDigit : ByteArray := prog_11_method_15_code
def yX9_isDigit : MethodName := ⟨RX9, "isDigit", "(I)Z"⟩
abbrev cX9_next : ByteArray := prog_11_method_16_code
def yX9_next : MethodName := ⟨RX9, "next", "()V"⟩
abbrev cX9_isWord : ByteArray := prog_11_method_17_code
def yX9_isWord : MethodName := ⟨RX9, "isWord", "(Ljava/lang/String;)Z"⟩
abbrev cX9_fails : ByteArray := prog_11_method_18_code
def yX9_fails : MethodName := ⟨RX9, "fails", "(I)V"⟩
abbrev cX9_must : ByteArray := prog_11_method_19_code
def yX9_must : MethodName := ⟨RX9, "must", "(Z)V"⟩
abbrev cX9_mustEnd : ByteArray := prog_11_method_20_code
def yX9_mustEnd : MethodName := ⟨RX9, "mustEnd", "()V"⟩
abbrev cX9_takes : ByteArray := prog_11_method_21_code
def yX9_takes : MethodName := ⟨RX9, "takes", "(II)I"⟩
abbrev cX9_mustName : ByteArray := prog_11_method_22_code
def yX9_mustName : MethodName := ⟨RX9, "mustName", "()V"⟩
abbrev cX9_named : ByteArray := prog_11_method_23_code
def yX9_named : MethodName := ⟨RX9, "named", "(III)I"⟩
abbrev cX9_putsName : ByteArray := prog_11_method_24_code
def yX9_putsName : MethodName := ⟨RX9, "putsName", "(I)V"⟩
abbrev cX9_readsTier : ByteArray := prog_11_method_25_code
def yX9_readsTier : MethodName := ⟨RX9, "readsTier", "()V"⟩
abbrev cX9_readsFile : ByteArray := prog_11_method_26_code
def yX9_readsFile : MethodName := ⟨RX9, "readsFile", "()V"⟩
abbrev cX9_begins0 : ByteArray := prog_11_method_27_code
def yX9_begins0 : MethodName := ⟨RX9, "begins0", "(I)V"⟩
abbrev cX9_load : ByteArray := prog_11_method_28_code
def yX9_load : MethodName := ⟨RX9, "load", "()I"⟩
abbrev cX9_errorPosition : ByteArray := prog_11_method_29_code
def yX9_errorPosition : MethodName := ⟨RX9, "errorPosition", "()I"⟩
abbrev cX9_its : ByteArray := prog_11_method_30_code
def yX9_its : MethodName := ⟨RX9, "its", "(I)I"⟩
abbrev cX9_tiers : ByteArray := prog_11_method_31_code
def yX9_tiers : MethodName := ⟨RX9, "tiers", "()I"⟩
abbrev cX9_files : ByteArray := prog_11_method_32_code
def yX9_files : MethodName := ⟨RX9, "files", "()I"⟩
abbrev cX9_ofTier : ByteArray := prog_11_method_33_code
def yX9_ofTier : MethodName := ⟨RX9, "ofTier", "(II)I"⟩
abbrev cX9_of : ByteArray := prog_11_method_34_code
def yX9_of : MethodName := ⟨RX9, "of", "(II)I"⟩
abbrev cX9_sets : ByteArray := prog_11_method_35_code
def yX9_sets : MethodName := ⟨RX9, "sets", "(IIJ)V"⟩
abbrev cX9_isTier : ByteArray := prog_11_method_36_code
def yX9_isTier : MethodName := ⟨RX9, "isTier", "(I)Z"⟩
abbrev cX9_isFile : ByteArray := prog_11_method_37_code
def yX9_isFile : MethodName := ⟨RX9, "isFile", "(I)Z"⟩
abbrev cX9_fullOf : ByteArray := prog_11_method_38_code
def yX9_fullOf : MethodName := ⟨RX9, "fullOf", "(I)I"⟩
abbrev cX9_freeOn : ByteArray := prog_11_method_39_code
def yX9_freeOn : MethodName := ⟨RX9, "freeOn", "(I)I"⟩
abbrev cX9_isPinned : ByteArray := prog_11_method_40_code
def yX9_isPinned : MethodName := ⟨RX9, "isPinned", "(I)Z"⟩
abbrev cX9_knownOf : ByteArray := prog_11_method_41_code
def yX9_knownOf : MethodName := ⟨RX9, "knownOf", "(I)I"⟩
abbrev cX9_forecastOf : ByteArray := prog_11_method_42_code
def yX9_forecastOf : MethodName := ⟨RX9, "forecastOf", "(II)I"⟩
abbrev cX9_learns : ByteArray := prog_11_method_43_code
def yX9_learns : MethodName := ⟨RX9, "learns", "(III)V"⟩
abbrev cX9_keepsUses : ByteArray := prog_11_method_44_code
def yX9_keepsUses : MethodName := ⟨RX9, "keepsUses", "(I)V"⟩
abbrev cX9_relearns : ByteArray := prog_11_method_45_code
def yX9_relearns : MethodName := ⟨RX9, "relearns", "(I)V"⟩
abbrev cX9_seasonsOf : ByteArray := prog_11_method_46_code
def yX9_seasonsOf : MethodName := ⟨RX9, "seasonsOf", "(IZ)I"⟩
abbrev cX9_strange : ByteArray := prog_11_method_47_code
def yX9_strange : MethodName := ⟨RX9, "strange", "(II)I"⟩
abbrev cX9_ownCycle : ByteArray := prog_11_method_48_code
def yX9_ownCycle : MethodName := ⟨RX9, "ownCycle", "(I)I"⟩
abbrev cX9_pinned : ByteArray := prog_11_method_49_code
def yX9_pinned : MethodName := ⟨RX9, "pinned", "()I"⟩
abbrev cX9_sizes : ByteArray := prog_11_method_50_code
def yX9_sizes : MethodName := ⟨RX9, "sizes", "()I"⟩
abbrev cX9_count : ByteArray := prog_11_method_51_code
def yX9_count : MethodName := ⟨RX9, "count", "(I)I"⟩
abbrev cX9_filesOn : ByteArray := prog_11_method_52_code
def yX9_filesOn : MethodName := ⟨RX9, "filesOn", "(I)I"⟩
abbrev cX9_busiest : ByteArray := prog_11_method_53_code
def yX9_busiest : MethodName := ⟨RX9, "busiest", "(I)I"⟩
abbrev cX9_tier : ByteArray := prog_11_method_54_code
def yX9_tier : MethodName := ⟨RX9, "tier", "(II)I"⟩
abbrev cX9_file : ByteArray := prog_11_method_55_code
def yX9_file : MethodName := ⟨RX9, "file", "(II)I"⟩
abbrev cX9_season : ByteArray := prog_11_method_56_code
def yX9_season : MethodName := ⟨RX9, "season", "(II)I"⟩
abbrev cX9_kept : ByteArray := prog_11_method_57_code
def yX9_kept : MethodName := ⟨RX9, "kept", "(II)I"⟩
abbrev cX9_forecast : ByteArray := prog_11_method_58_code
def yX9_forecast : MethodName := ⟨RX9, "forecast", "(II)I"⟩
abbrev cX9_off : ByteArray := prog_11_method_59_code
def yX9_off : MethodName := ⟨RX9, "off", "(I)J"⟩
abbrev cX9_meanOff : ByteArray := prog_11_method_60_code
def yX9_meanOff : MethodName := ⟨RX9, "meanOff", "()D"⟩
abbrev cX9_cycleOf : ByteArray := prog_11_method_61_code
def yX9_cycleOf : MethodName := ⟨RX9, "cycleOf", "(I)I"⟩
abbrev cX9_commonCycle : ByteArray := prog_11_method_62_code
def yX9_commonCycle : MethodName := ⟨RX9, "commonCycle", "()I"⟩
abbrev cX9_sumOf : ByteArray := prog_11_method_63_code
def yX9_sumOf : MethodName := ⟨RX9, "sumOf", "(II)J"⟩
abbrev cX9_account : ByteArray := prog_11_method_64_code
def yX9_account : MethodName := ⟨RX9, "account", "(II)J"⟩
abbrev cX9_movingShare : ByteArray := prog_11_method_65_code
def yX9_movingShare : MethodName := ⟨RX9, "movingShare", "()F"⟩
abbrev cX9_costOn : ByteArray := prog_11_method_66_code
def yX9_costOn : MethodName := ⟨RX9, "costOn", "(III)J"⟩
abbrev cX9_savesBy : ByteArray := prog_11_method_67_code
def yX9_savesBy : MethodName := ⟨RX9, "savesBy", "(III)J"⟩
abbrev cX9_laysCosts : ByteArray := prog_11_method_68_code
def yX9_laysCosts : MethodName := ⟨RX9, "laysCosts", "(I)V"⟩
abbrev cX9_canGo : ByteArray := prog_11_method_69_code
def yX9_canGo : MethodName := ⟨RX9, "canGo", "(I)Z"⟩
abbrev cX9_found : ByteArray := prog_11_method_70_code
def yX9_found : MethodName := ⟨RX9, "found", "(IIIJ)V"⟩
abbrev cX9_findsMove : ByteArray := prog_11_method_71_code
def yX9_findsMove : MethodName := ⟨RX9, "findsMove", "()V"⟩
abbrev cX9_findsExchange : ByteArray := prog_11_method_72_code
def yX9_findsExchange : MethodName := ⟨RX9, "findsExchange", "()V"⟩
abbrev cX9_goesOnPaper : ByteArray := prog_11_method_73_code
def yX9_goesOnPaper : MethodName := ⟨RX9, "goesOnPaper", "(II)V"⟩
abbrev cX9_plans : ByteArray := prog_11_method_74_code
def yX9_plans : MethodName := ⟨RX9, "plans", "(III)V"⟩
abbrev cX9_findsStep : ByteArray := prog_11_method_75_code
def yX9_findsStep : MethodName := ⟨RX9, "findsStep", "()Z"⟩
abbrev cX9_isSpan : ByteArray := prog_11_method_76_code
def yX9_isSpan : MethodName := ⟨RX9, "isSpan", "(I)Z"⟩
abbrev cX9_cost : ByteArray := prog_11_method_77_code
def yX9_cost : MethodName := ⟨RX9, "cost", "(III)J"⟩
abbrev cX9_wish : ByteArray := prog_11_method_78_code
def yX9_wish : MethodName := ⟨RX9, "wish", "(II)I"⟩
abbrev cX9_steps : ByteArray := prog_11_method_79_code
def yX9_steps : MethodName := ⟨RX9, "steps", "(I)I"⟩
abbrev cX9_step : ByteArray := prog_11_method_80_code
def yX9_step : MethodName := ⟨RX9, "step", "(III)I"⟩
abbrev cX9_saving : ByteArray := prog_11_method_81_code
def yX9_saving : MethodName := ⟨RX9, "saving", "(I)J"⟩
abbrev cX9_withRoom : ByteArray := prog_11_method_82_code
def yX9_withRoom : MethodName := ⟨RX9, "withRoom", "(III)J"⟩
abbrev cX9_refused : ByteArray := prog_11_method_83_code
def yX9_refused : MethodName := ⟨RX9, "refused", "(I)I"⟩
abbrev cX9_add : ByteArray := prog_11_method_84_code
def yX9_add : MethodName := ⟨RX9, "add", "(II)I"⟩
abbrev cX9_drop : ByteArray := prog_11_method_85_code
def yX9_drop : MethodName := ⟨RX9, "drop", "(I)I"⟩
abbrev cX9_use : ByteArray := prog_11_method_86_code
def yX9_use : MethodName := ⟨RX9, "use", "(II)I"⟩
abbrev cX9_pays : ByteArray := prog_11_method_87_code
def yX9_pays : MethodName := ⟨RX9, "pays", "(IIJ)V"⟩
abbrev cX9_closes : ByteArray := prog_11_method_88_code
def yX9_closes : MethodName := ⟨RX9, "closes", "(I)V"⟩
abbrev cX9_close : ByteArray := prog_11_method_89_code
def yX9_close : MethodName := ⟨RX9, "close", "()J"⟩
abbrev cX9_goes : ByteArray := prog_11_method_90_code
def yX9_goes : MethodName := ⟨RX9, "goes", "(II)I"⟩
abbrev cX9_move : ByteArray := prog_11_method_91_code
def yX9_move : MethodName := ⟨RX9, "move", "(II)I"⟩
abbrev cX9_unmove : ByteArray := prog_11_method_92_code
def yX9_unmove : MethodName := ⟨RX9, "unmove", "()I"⟩
abbrev cX9_pin : ByteArray := prog_11_method_93_code
def yX9_pin : MethodName := ⟨RX9, "pin", "(II)I"⟩
abbrev cX9_act : ByteArray := prog_11_method_94_code
def yX9_act : MethodName := ⟨RX9, "act", "(I)I"⟩
abbrev cX9_learn : ByteArray := prog_11_method_95_code
def yX9_learn : MethodName := ⟨RX9, "learn", "(II)I"⟩
abbrev cX9_setTier : ByteArray := prog_11_method_96_code
def yX9_setTier : MethodName := ⟨RX9, "setTier", "(III)I"⟩
abbrev cX9_says : ByteArray := prog_11_method_97_code
def yX9_says : MethodName := ⟨RX9, "says", "(J)V"⟩
abbrev cX9_saysName : ByteArray := prog_11_method_98_code
def yX9_saysName : MethodName := ⟨RX9, "saysName", "(I)V"⟩
abbrev cX9_writeTiers : ByteArray := prog_11_method_99_code
def yX9_writeTiers : MethodName := ⟨RX9, "writeTiers", "()I"⟩
abbrev cX9_writtenByte : ByteArray := prog_11_method_100_code
def yX9_writtenByte : MethodName := ⟨RX9, "writtenByte", "(I)I"⟩
def RJ9 : String := "java/lang/Math"
def TJ9 : u_T := fun k => match k with
  | _ => ("", "", "", false)
def tyJ9 : Nat → FieldType := fun k => match k with
  | _ => .int
abbrev wsJ90 : List Cond := u_ws RJ9 TJ9 0
theorem nmJ9 : ∀ a, a < 0 → ∀ b, b < 0 → a ≠ b → (TJ9 a).2.1 ≠ (TJ9 b).2.1 := by decide +kernel
theorem tyJ9_ok : ∀ k, k < 0 → parseFieldDescriptor (TJ9 k).2.2.1 = some (tyJ9 k) := by decide +kernel
abbrev cJ9_floorMod_7cf53 : ByteArray := prog_16_method_50_code
def yJ9_floorMod_7cf53 : MethodName := ⟨RJ9, "floorMod", "(II)I"⟩
abbrev cJ9_abs_0f7a4 : ByteArray := prog_16_method_59_code
def yJ9_abs_0f7a4 : MethodName := ⟨RJ9, "abs", "(I)I"⟩
abbrev cJ9_max_7cf53 : ByteArray := prog_16_method_65_code
def yJ9_max_7cf53 : MethodName := ⟨RJ9, "max", "(II)I"⟩
abbrev cJ9_min_7cf53 : ByteArray := prog_16_method_69_code
def yJ9_min_7cf53 : MethodName := ⟨RJ9, "min", "(II)I"⟩
def RJ0 : String := "java/lang/String"
def TJ0 : u_T := fun k => match k with
  | _ => ("", "", "", false)
def tyJ0 : Nat → FieldType := fun k => match k with
  | _ => .int
abbrev wsJ00 : List Cond := u_ws RJ0 TJ0 0
theorem nmJ0 : ∀ a, a < 0 → ∀ b, b < 0 → a ≠ b → (TJ0 a).2.1 ≠ (TJ0 b).2.1 := by decide +kernel
theorem tyJ0_ok : ∀ k, k < 0 → parseFieldDescriptor (TJ0 k).2.2.1 = some (tyJ0 k) := by decide +kernel
abbrev cJ0_length_8abf5 : ByteArray := prog_18_method_54_code
def yJ0_length_8abf5 : MethodName := ⟨RJ0, "length", "()I"⟩
abbrev cJ0_charAt_5068e : ByteArray := prog_18_method_56_code
def yJ0_charAt_5068e : MethodName := ⟨RJ0, "charAt", "(I)C"⟩
abbrev cJ0_coder_7d493 : ByteArray := prog_18_method_152_code
def yJ0_coder_7d493 : MethodName := ⟨RJ0, "coder", "()B"⟩
abbrev cJ0_isLatin1_aae02 : ByteArray := prog_18_method_154_code
def yJ0_isLatin1_aae02 : MethodName := ⟨RJ0, "isLatin1", "()Z"⟩
abbrev cJ0_checkIndex_df160 : ByteArray := prog_18_method_155_code
def yJ0_checkIndex_df160 : MethodName := ⟨RJ0, "checkIndex", "(II)V"⟩
def RJ1 : String := "java/lang/StringLatin1"
def TJ1 : u_T := fun k => match k with
  | _ => ("", "", "", false)
def tyJ1 : Nat → FieldType := fun k => match k with
  | _ => .int
abbrev wsJ10 : List Cond := u_ws RJ1 TJ1 0
theorem nmJ1 : ∀ a, a < 0 → ∀ b, b < 0 → a ≠ b → (TJ1 a).2.1 ≠ (TJ1 b).2.1 := by decide +kernel
theorem tyJ1_ok : ∀ k, k < 0 → parseFieldDescriptor (TJ1 k).2.2.1 = some (tyJ1 k) := by decide +kernel
abbrev cJ1_charAt_3b067 : ByteArray := prog_19_method_2_code
def yJ1_charAt_3b067 : MethodName := ⟨RJ1, "charAt", "([BI)C"⟩
def RJ2 : String := "java/lang/StringUTF16"
def TJ2 : u_T := fun k => match k with
  | _ => ("", "", "", false)
def tyJ2 : Nat → FieldType := fun k => match k with
  | _ => .int
abbrev wsJ20 : List Cond := u_ws RJ2 TJ2 0
theorem nmJ2 : ∀ a, a < 0 → ∀ b, b < 0 → a ≠ b → (TJ2 a).2.1 ≠ (TJ2 b).2.1 := by decide +kernel
theorem tyJ2_ok : ∀ k, k < 0 → parseFieldDescriptor (TJ2 k).2.2.1 = some (tyJ2 k) := by decide +kernel
abbrev cJ2_getChar_3b067 : ByteArray := prog_20_method_5_code
def yJ2_getChar_3b067 : MethodName := ⟨RJ2, "getChar", "([BI)C"⟩
abbrev cJ2_length_9d52b : ByteArray := prog_20_method_6_code
def yJ2_length_9d52b : MethodName := ⟨RJ2, "length", "([B)I"⟩
abbrev cJ2_charAt_3b067 : ByteArray := prog_20_method_83_code
def yJ2_charAt_3b067 : MethodName := ⟨RJ2, "charAt", "([BI)C"⟩
abbrev cJ2_checkIndex_2214a : ByteArray := prog_20_method_91_code
def yJ2_checkIndex_2214a : MethodName := ⟨RJ2, "checkIndex", "(I[B)V"⟩
def RJ10 : String := "java/lang/System"
def TJ10 : u_T := fun k => match k with
  | _ => ("", "", "", false)
def tyJ10 : Nat → FieldType := fun k => match k with
  | _ => .int
abbrev wsJ100 : List Cond := u_ws RJ10 TJ10 0
theorem nmJ10 : ∀ a, a < 0 → ∀ b, b < 0 → a ≠ b → (TJ10 a).2.1 ≠ (TJ10 b).2.1 := by decide +kernel
theorem tyJ10_ok : ∀ k, k < 0 → parseFieldDescriptor (TJ10 k).2.2.1 = some (tyJ10 k) := by decide +kernel
def RJ3 : String := "jdk/internal/util/Preconditions"
def TJ3 : u_T := fun k => match k with
  | _ => ("", "", "", false)
def tyJ3 : Nat → FieldType := fun k => match k with
  | _ => .int
abbrev wsJ30 : List Cond := u_ws RJ3 TJ3 0
theorem nmJ3 : ∀ a, a < 0 → ∀ b, b < 0 → a ≠ b → (TJ3 a).2.1 ≠ (TJ3 b).2.1 := by decide +kernel
theorem tyJ3_ok : ∀ k, k < 0 → parseFieldDescriptor (TJ3 k).2.2.1 = some (tyJ3 k) := by decide +kernel
abbrev cJ3_checkIndex_8e157 : ByteArray := prog_23_method_11_code
def yJ3_checkIndex_8e157 : MethodName := ⟨RJ3, "checkIndex", "(IILjava/util/function/BiFunction;)I"⟩
def RL : String := "SeasonTiersLaw"
abbrev cL_append : ByteArray := method_3_code
def yL_append : MethodName := ⟨RL, "append", "(LSeasonTiers;IIIII[J)I"⟩
abbrev cL_count : ByteArray := method_4_code
def yL_count : MethodName := ⟨RL, "count", "(LSeasonTiers;I[J)I"⟩
abbrev cL_tier : ByteArray := method_5_code
def yL_tier : MethodName := ⟨RL, "tier", "(LSeasonTiers;II[J)I"⟩
abbrev cL_file : ByteArray := method_6_code
def yL_file : MethodName := ⟨RL, "file", "(LSeasonTiers;II[J)I"⟩
abbrev cL_season : ByteArray := method_7_code
def yL_season : MethodName := ⟨RL, "season", "(LSeasonTiers;II[J)I"⟩
abbrev cL_kept : ByteArray := method_8_code
def yL_kept : MethodName := ⟨RL, "kept", "(LSeasonTiers;II[J)I"⟩
abbrev cL_forecast : ByteArray := method_9_code
def yL_forecast : MethodName := ⟨RL, "forecast", "(LSeasonTiers;II[J)I"⟩
abbrev cL_off : ByteArray := method_10_code
def yL_off : MethodName := ⟨RL, "off", "(LSeasonTiers;I[J)I"⟩
abbrev cL_cycleOf : ByteArray := method_11_code
def yL_cycleOf : MethodName := ⟨RL, "cycleOf", "(LSeasonTiers;I[J)I"⟩
abbrev cL_account : ByteArray := method_12_code
def yL_account : MethodName := ⟨RL, "account", "(LSeasonTiers;II[J)I"⟩
abbrev cL_cost : ByteArray := method_13_code
def yL_cost : MethodName := ⟨RL, "cost", "(LSeasonTiers;III[J)I"⟩
abbrev cL_wish : ByteArray := method_14_code
def yL_wish : MethodName := ⟨RL, "wish", "(LSeasonTiers;II[J)I"⟩
abbrev cL_steps : ByteArray := method_15_code
def yL_steps : MethodName := ⟨RL, "steps", "(LSeasonTiers;I[J)I"⟩
abbrev cL_step : ByteArray := method_16_code
def yL_step : MethodName := ⟨RL, "step", "(LSeasonTiers;III[J)I"⟩
abbrev cL_saving : ByteArray := method_17_code
def yL_saving : MethodName := ⟨RL, "saving", "(LSeasonTiers;I[J)I"⟩
abbrev cL_withRoom : ByteArray := method_18_code
def yL_withRoom : MethodName := ⟨RL, "withRoom", "(LSeasonTiers;III[J)I"⟩
abbrev cL_add : ByteArray := method_19_code
def yL_add : MethodName := ⟨RL, "add", "(LSeasonTiers;II[J)I"⟩
abbrev cL_drop : ByteArray := method_20_code
def yL_drop : MethodName := ⟨RL, "drop", "(LSeasonTiers;I[J)I"⟩
abbrev cL_use : ByteArray := method_21_code
def yL_use : MethodName := ⟨RL, "use", "(LSeasonTiers;II[J)I"⟩
abbrev cL_move : ByteArray := method_22_code
def yL_move : MethodName := ⟨RL, "move", "(LSeasonTiers;II[J)I"⟩
abbrev cL_pin : ByteArray := method_23_code
def yL_pin : MethodName := ⟨RL, "pin", "(LSeasonTiers;II[J)I"⟩
abbrev cL_act : ByteArray := method_24_code
def yL_act : MethodName := ⟨RL, "act", "(LSeasonTiers;I[J)I"⟩
abbrev cL_learn : ByteArray := method_25_code
def yL_learn : MethodName := ⟨RL, "learn", "(LSeasonTiers;II[J)I"⟩
abbrev cL_setTier : ByteArray := method_26_code
def yL_setTier : MethodName := ⟨RL, "setTier", "(LSeasonTiers;III[J)I"⟩
abbrev cL_undo : ByteArray := method_27_code
def yL_undo : MethodName := ⟨RL, "undo", "(LSeasonTiers;[J)I"⟩
abbrev cL_save : ByteArray := method_28_code
def yL_save : MethodName := ⟨RL, "save", "(LSeasonTiers;I)I"⟩
abbrev cL_restore : ByteArray := method_29_code
def yL_restore : MethodName := ⟨RL, "restore", "(LSeasonTiers;I[J)I"⟩
abbrev cL_writtenByte : ByteArray := method_30_code
def yL_writtenByte : MethodName := ⟨RL, "writtenByte", "(LSeasonTiers;I[J)I"⟩
abbrev cL_law : ByteArray := code
def yL_law : MethodName := ⟨RL, "law", "([I)Z"⟩
theorem inJ9 : ∀ w ∈ wsJ90, w ∈ lw_tbl := by decide +kernel
theorem inJ0 : ∀ w ∈ wsJ00, w ∈ lw_tbl := by decide +kernel
theorem inJ1 : ∀ w ∈ wsJ10, w ∈ lw_tbl := by decide +kernel
theorem inJ2 : ∀ w ∈ wsJ20, w ∈ lw_tbl := by decide +kernel
theorem inJ10 : ∀ w ∈ wsJ100, w ∈ lw_tbl := by decide +kernel
theorem inJ3 : ∀ w ∈ wsJ30, w ∈ lw_tbl := by decide +kernel
abbrev vwCl : List vw_C := [(RX0, TX0, 10), (RX1, TX1, 3), (RX2, TX2, 2), (RX3, TX3, 12), (RX4, TX4, 8), (RX5, TX5, 8), (RX6, TX6, 3), (RX7, TX7, 2), (RX8, TX8, 9), (RX9, TX9, 32)]
end
section

/-! ===== the abstract world: cells by their places from a base; ints, longs, references, kinds, lengths ===== -/
abbrev zMem : Type := (Nat → Nat → Int32) × (Nat → Nat → Int64) × (Nat → Nat → Option Nat) × (Nat → Nat) × (Nat → Nat) × Nat × Nat
def zI (M : zMem) (a k : Nat) : Int32 := M.1 a k
def zJ (M : zMem) (a k : Nat) : Int64 := M.2.1 a k
def zR (M : zMem) (a k : Nat) : Option Nat := M.2.2.1 a k
def zK (M : zMem) (a : Nat) : Nat := M.2.2.2.1 a
def zN (M : zMem) (a : Nat) : Nat := M.2.2.2.2.1 a
def zT (M : zMem) : Nat := M.2.2.2.2.2.1
def zF (M : zMem) : Nat := M.2.2.2.2.2.2
def zu {α : Type} (f : Nat → Nat → α) (a k : Nat) (v : α) : Nat → Nat → α := fun b => if b = a then (fun j => if j = k then v else f a j) else f b
def zur {α : Type} (f : Nat → Nat → α) (a : Nat) (g : Nat → α) : Nat → Nat → α := fun b => if b = a then g else f b
def zsI (M : zMem) (a k : Nat) (v : Int32) : zMem := (zu M.1 a k v, M.2)
def zsJ (M : zMem) (a k : Nat) (v : Int64) : zMem := (M.1, zu M.2.1 a k v, M.2.2)
def zsR (M : zMem) (a k : Nat) (v : Option Nat) : zMem := (M.1, M.2.1, zu M.2.2.1 a k v, M.2.2.2)
def zsA (M : zMem) (a : Nat) (g : Nat → Int32) : zMem := (zur M.1 a g, M.2)
/-- a new cell at the top: all its contents 0 -/
def znw (M : zMem) (kd n : Nat) : zMem := (zur M.1 (zT M) (fun _ => 0), zur M.2.1 (zT M) (fun _ => 0), zur M.2.2.1 (zT M) (fun _ => none), (fun b => if b = zT M then kd else M.2.2.2.1 b), (fun b => if b = zT M then n else M.2.2.2.2.1 b), zT M + 1, zF M)
/-- something was thrown -/
def zth (M : zMem) : zMem := (M.1, M.2.1, M.2.2.1, M.2.2.2.1, M.2.2.2.2.1, M.2.2.2.2.2.1, 1)
/-- kinds of fields: 0 int, 1 long, 2 a reference -/
def zFT : List (List Nat) := [[1,0,0,0,0,0,1,0,2,2],[0,0,2],[0,2],[0,1,2,2,2,2,2,2,0,0,0,1],[0,0,2,0,0,0,1,0],[0,0,0,0,0,2,2,2],[1,2,2],[0,2],[2,2,2,2,2,2,2,2,2],[2,2,2,2,2,0,0,2,0,0,0,0,0,0,0,0,2,2,2,2,2,2,2,0,0,0,0,1,1,0,2,0]]
def zfty (ci k : Nat) : Nat := (zFT.getD ci []).getD k 0
def znf (ci : Nat) : Nat := (zFT.getD ci []).length
/-- the surroundings: base, classes, array classes, the script (where, how long, what), the literals (where, their bytes where) -/
abbrev zG : Type := Nat × va_G × (Nat → ClassId) × (Nat × Nat × (Nat → Int32)) × (Nat → Nat) × (Nat → Nat)
abbrev gB (G : zG) : Nat := G.1
abbrev gD (G : zG) : va_G := G.2.1
abbrev gC (G : zG) : Nat → ClassId := G.2.2.1
abbrev gX (G : zG) : Nat × Nat × (Nat → Int32) := G.2.2.2.1
abbrev gS (G : zG) : Nat → Nat := G.2.2.2.2.1
abbrev gV (G : zG) : Nat → Nat := G.2.2.2.2.2
/-- addresses: below a million the world's cells; a million and on: literals; two millions: the script; three millions and on: the literals' bytes, behind them a formatter of the JDK's -/
def zad (G : zG) (k : Nat) : Nat := if k < 1000000 then gB G + k else if k < 2000000 then gS G (k - 1000000) else if k < 3000000 then (gX G).1 else gV G (k - 3000000)
def zv (G : zG) : Value → Value | .ref k => .ref (zad G k) | .int x => .int x | .long x => .long x | .float x => .float x | .double x => .double x | .null => .null | .retAddr x => .retAddr x
theorem zv_cat (G : zG) (v : Value) : (zv G v).category = v.category := by cases v <;> rfl
def zrv (r : Option Nat) : Value := match r with | none => .null | some a => .ref a
theorem zv_rf (G : zG) (r : Option Nat) : va_rf (r.map (zad G)) = zv G (zrv r) := by cases r <;> rfl
def zfv (G : zG) (M : zMem) (ci a k : Nat) : Value := match zfty ci k with | 0 => .int (zI M a k) | 1 => .long (zJ M a k) | _ => va_rf ((zR M a k).map (zad G))
def zfl (G : zG) (M : zMem) (ci a : Nat) : List Value := (List.range (znf ci)).map (zfv G M ci a)
def zcl (G : zG) (M : zMem) (a : Nat) : va_E :=
  if zK M a ≤ 10 then .inr (zK M a - 1, zfl G M (zK M a - 1) a)
  else if zK M a = 11 then .inl (gC G 0, zN M a, .inl (zI M a))
  else if zK M a = 12 then .inl (gC G 1, zN M a, .inr (.inl (zJ M a)))
  else if zK M a = 13 then .inl (gC G 2, zN M a, .inl (zI M a))
  else .inl (gC G (zK M a - 11), zN M a, .inr (.inr (.inr (.inr (fun k => (zR M a k).map (zad G))))))
def zW (G : zG) (M : zMem) : va_W := (List.range (zT M)).map (fun a => (gB G + a, zcl G M a))
def zwf (M : zMem) : Prop := (∀ a, zT M ≤ a → zK M a = 0) ∧ zT M ≤ 1000000
def zA (G : zG) : Nat → Prop := fun q => gB G ≤ q
def zty (G : zG) : List (ClassId × FieldType) := [(gC G 0, .int), (gC G 1, .long), (gC G 2, .boolean), (gC G 3, .object RX0), (gC G 4, .object RX5), (gC G 5, .object RX6)]
theorem zW_get {G : zG} {M : zMem} {a : Nat} (h : a < zT M) : (zW G M)[a]? = some (gB G + a, zcl G M a) := by
  simp [zW, h]
theorem zW_of {G : zG} {M : zMem} {k : Nat} {q : Nat × va_E} (h : (zW G M)[k]? = some q) : k < zT M ∧ q = (gB G + k, zcl G M k) := by
  have hk : k < zT M := by
    have := (List.getElem?_eq_some_iff.mp h).1
    simpa [zW] using this
  exact ⟨hk, Option.some.inj (h.symm.trans (zW_get hk))⟩
theorem zW_D {G : zG} {M : zMem} : va_D (zA G) (zW G M) := by
  refine ⟨fun i j p q hi hj hpq => ?_, fun k q h => ?_⟩
  · obtain ⟨-, rfl⟩ := zW_of hi
    obtain ⟨-, rfl⟩ := zW_of hj
    exact Nat.add_left_cancel hpq
  · obtain ⟨-, rfl⟩ := zW_of h
    exact Nat.le_add_right _ _
theorem zW_set {G : zG} {M M' : zMem} {a : Nat} {e : va_E} (hT : zT M' = zT M) (he : zcl G M' a = e) (ho : ∀ c, c ≠ a → zcl G M' c = zcl G M c) : (zW G M).set a (gB G + a, e) = zW G M' := by
  apply List.ext_getElem?
  intro k
  by_cases hk : k = a
  · subst hk
    by_cases hl : k < zT M
    · rw [List.getElem?_set_self (by simpa [zW] using hl), zW_get (by omega), he]
    · have h1 : (zW G M').length ≤ k := by simp [zW]; omega
      have h2 : ((zW G M).set k (gB G + k, e)).length ≤ k := by simp [zW]; omega
      rw [List.getElem?_eq_none h1, List.getElem?_eq_none h2]
  · rw [List.getElem?_set_ne (Ne.symm hk)]
    by_cases hl : k < zT M
    · rw [zW_get hl, zW_get (by omega), ho k hk]
    · have h1 : (zW G M').length ≤ k := by simp [zW]; omega
      have h2 : (zW G M).length ≤ k := by simp [zW]; omega
      rw [List.getElem?_eq_none h1, List.getElem?_eq_none h2]
theorem zW_push {G : zG} {M M' : zMem} {e : va_E} (hT : zT M' = zT M + 1) (he : zcl G M' (zT M) = e) (ho : ∀ c, c < zT M → zcl G M' c = zcl G M c) : zW G M ++ [(gB G + zT M, e)] = zW G M' := by
  unfold zW
  rw [hT, List.range_succ, List.map_append]
  congr 1
  · exact List.map_congr_left fun c hc => by rw [ho c (List.mem_range.mp hc)]
  · simp [he]
/-! ===== a method at hand ===== -/
abbrev zMD : Type := MethodName × ByteArray × Nat × Option FieldType × List (Nat × Nat × Nat × Nat)
abbrev zOut : Type := Option Value ⊕ Nat
/-- the good words of the tables -/
def zGW : List Cond := lw_tbl.filter goodWord
theorem zGW_in {w : Cond} (h : w ∈ zGW) : w ∈ lw_tbl ∧ ((w.onTables && w.keeps) = true ∨ ∃ ty, w = .arrayClass ty) := ⟨(List.mem_filter.mp h).1, good_of_word (List.mem_filter.mp h).2⟩
theorem zGW_of {w : Cond} (i : Nat) (h : (lw_tbl[i]?, goodWord w) = (some w, true)) : w ∈ zGW := List.mem_filter.mpr ⟨List.mem_of_getElem? (Prod.mk.inj h).1, (Prod.mk.inj h).2⟩
def zXn : Nat → String | 0 => "java/lang/IllegalStateException" | 1 => "java/lang/IllegalArgumentException" | _ => "java/lang/IndexOutOfBoundsException"
def zNk : Cond → Bool | .methodLinkNest .. => true | .castable .. => true | .arrayOver (.object _) => true | _ => false
theorem zNk_warm {w : Cond} {s U : State} (h : zNk w = true) (hW : s.WarmedH U.vm) (hz : va_Nw w s) : va_Nw w U := by
  cases w with
  | methodLinkNest _ _ _ _ => exact va_Nw.warmM hW hz
  | castable _ _ => exact va_Nw.warmC hW hz
  | arrayOver ty =>
    cases ty with
    | object C => exact va_AO.moved hW.alike hz
    | _ => cases h
  | _ => cases h
theorem zNk_same {w : Cond} {s U : State} (h : zNk w = true) (hv : s.vm = U.vm) (hz : va_Nw w s) : va_Nw w U := by
  cases w with
  | methodLinkNest _ _ _ _ => exact va_Nw.same rfl hv hz
  | castable _ _ => exact va_Nw.same rfl hv hz
  | arrayOver ty =>
    cases ty with
    | object C => exact va_AO.moved (by rw [hv]; exact Vm.Alike.refl U.vm) hz
    | _ => cases h
  | _ => cases h
/-- words of the tables that a call doesn't carry by itself -/
def zNW : List Cond := lw_tbl.filter zNk
/-- the literals: owner, place in its pool, text, number -/
def zLR : List (String × Nat × String × Nat) := [("SeasonTiers$Reader", 53, "cycle", 0), ("SeasonTiers$Reader", 63, "rate", 1), ("SeasonTiers$Reader", 76, "tier", 2), ("SeasonTiers$Reader", 121, "file", 3), ("SeasonTiers$Reader", 126, "on", 4), ("SeasonTiers$Reader", 131, "pin", 5), ("SeasonTiersModel", 199, "cycle", 0), ("SeasonTiersModel", 201, "rate", 1), ("SeasonTiersModel", 157, "tier", 2), ("SeasonTiersModel", 206, "file", 3), ("SeasonTiersModel", 186, "on", 4), ("SeasonTiersModel", 191, "pin", 5)]
def zLb : List (List Int32) := [[99, 121, 99, 108, 101], [114, 97, 116, 101], [116, 105, 101, 114], [102, 105, 108, 101], [111, 110], [112, 105, 110]]
def zLl : List Nat := [5, 4, 4, 4, 2, 3]
/-- what holds of the tables and of the heap's fixed part -/
def zCx (G : zG) (s : State) (H : Heap) : Prop :=
  va_K (gD G) vwCl (zty G) s ∧ (∀ w ∈ zNW, va_Nw w s) ∧ (∀ q ∈ zLR, vk_R q.1 q.2.1 q.2.2.1 (gS G q.2.2.2) s) ∧ vk_S 6 zLl zLb (gS G) (gV G) (zA G) s H ∧ va_X (gX G).1 (gX G).2.1 (gX G).2.2 s H ∧ (gX G).1 < gB G ∧ gB G ≤ H.size ∧
  vx_Zq Bundle.tN "UNASSIGNED_STACK" Bundle.steD (zA G) s H ∧ vx_Zq Bundle.tN "SUPPRESSED_SENTINEL" Bundle.listD (zA G) s H ∧ va_Z "java/lang/String" "COMPACT_STRINGS" "Z" (.int 1) (zA G) s H ∧ (va_Z "jdk/internal/util/Preconditions" "SIOOBE_FORMATTER" "Ljava/util/function/BiFunction;" .null (zA G) s H ∨ va_Z "jdk/internal/util/Preconditions" "SIOOBE_FORMATTER" "Ljava/util/function/BiFunction;" (.ref (gV G 6)) (zA G) s H) ∧ (∀ x x' : Nat, x < 3 → x' < 3 → x ≠ x' → va_Nc (zXn x) (zXn x') s)
theorem zCx.kept {G : zG} {s : State} {H H1 : Heap} (h : zCx G s H) (hz : H.size ≤ H1.size) (hq : ∀ a : Nat, a < H.size → ¬ zA G a → H1[a]? = H[a]?) : zCx G s H1 := by
  obtain ⟨h1, h2, h3, h4, h5, h6, h7, h8, h9, h10, h11, h12⟩ := h
  refine ⟨h1, h2, h3, h4.kept hq, h5.kept (hq _ (by omega) (fun z => by unfold zA at z; omega)), h6, by omega, h8.kept hq, h9.kept hq, h10.kept hq, h11.imp (fun h => h.kept hq) (fun h => h.kept hq), h12⟩
theorem zCx.warm {G : zG} {s U : State} {H : Heap} (h : zCx G s H) (hW : s.WarmedH U.vm) : zCx G U H := by
  obtain ⟨h1, h2, h3, h4, h5, h6, h7, h8, h9, h10, h11, h12⟩ := h
  exact ⟨va_K.moved hW.alike h1, fun w hw => zNk_warm (List.mem_filter.mp hw).2 hW (h2 w hw), fun q hq => vk_R.warm hW (h3 q hq), vk_S.moved hW.alike h4, h5.moved hW.alike, h6, h7, vx_Zq.moved hW.alike h8, vx_Zq.moved hW.alike h9, va_Z.moved hW.alike h10, h11.imp (va_Z.moved hW.alike) (va_Z.moved hW.alike), fun x x' a b c => va_Nc.moved hW.alike (h12 x x' a b c)⟩
theorem zCx.same {G : zG} {s U : State} {H : Heap} (h : zCx G s H) (hv : U.vm = s.vm) : zCx G U H := by
  obtain ⟨h1, h2, h3, h4, h5, h6, h7, h8, h9, h10, h11, h12⟩ := h
  have hA : s.vm.Alike U.vm := by rw [hv]; exact Vm.Alike.refl s.vm
  exact ⟨va_K.moved hA h1, fun w hw => zNk_same (List.mem_filter.mp hw).2 hv.symm (h2 w hw), fun q hq => vk_R.same hv (h3 q hq), vk_S.moved hA h4, h5.moved hA, h6, h7, vx_Zq.moved hA h8, vx_Zq.moved hA h9, va_Z.moved hA h10, h11.imp (va_Z.moved hA) (va_Z.moved hA), fun x x' a b c => va_Nc.moved hA (h12 x x' a b c)⟩
/-- the world in the heap -/
def zWd (G : zG) (M : zMem) (s : State) (H : Heap) (locs : List Loc) (cells : Nat) : Prop :=
  zwf M ∧ va_P (gD G) vwCl (zW G M) H ∧ va_S (zA G) s.heap H locs ∧ (zF M = 0 → s.heap.size + cells ≤ gB G + zT M)
abbrev yN (y : zMD) : MethodName := y.1
abbrev yC (y : zMD) : ByteArray := y.2.1
abbrev yL (y : zMD) : Nat := y.2.2.1
abbrev yR (y : zMD) : Option FieldType := y.2.2.2.1
abbrev yH (y : zMD) : List (Nat × Nat × Nat × Nat) := y.2.2.2.2
/-- what stands of the method that runs -/
def zFix (l : Launch) (G : zG) (y : zMD) (fr lo : Nat) (p : Program) (R : Room) (s : State) (m : MethodId) (args : Array Value) (meth : Method) (c : Code) : Prop :=
  p.tables.exec = Jvm.exec ∧ c.code = yC y ∧ c.maxLocals = yL y ∧ s.vm.findClass (yN y).cls = some m.cls ∧ (∀ w ∈ zGW, w.before args s = true) ∧ meth.locks = false ∧ meth.sig.returnType = yR y ∧ meth.name = (yN y).name ∧ l.stackTraces = false ∧ fr ≤ R.frames ∧ lo ≤ R.locals ∧ c.exceptionTable.toList = tableOf (yH y) ∧ zCx G s s.heap
/-- a return instruction with its value -/
def zrets (y : zMD) (pc : Nat) : Option Value → Prop
  | none => decode (yC y) pc = .ok (.return_, 1) ∧ yR y = none
  | some (.int x) => decode (yC y) pc = .ok (.ireturn, 1) ∧ ∃ ty, yR y = some ty ∧ narrow ty (.int x) = .int x
  | some (.long _) => decode (yC y) pc = .ok (.lreturn, 1) ∧ yR y = some .long
  | some (.float _) => decode (yC y) pc = .ok (.freturn, 1) ∧ yR y = some .float
  | some (.double _) => decode (yC y) pc = .ok (.dreturn, 1) ∧ yR y = some .double
  | some _ => False
/-- a throw's own words -/
def zthr (y : zMD) (fr lo : Nat) (x : Nat) (pc : Nat) (st : List Value) : Prop :=
  ∃ ik ic : Nat, decode (yC y) pc = .ok (.new ik, 3) ∧ decode (yC y) (pc + 3) = .ok (.dup, 1) ∧ decode (yC y) (pc + 4) = .ok (.invokespecial ic, 3) ∧ decode (yC y) (pc + 7) = .ok (.athrow, 1) ∧
    Cond.classLink (yN y).cls ik (zXn x) ∈ zGW ∧ Cond.methodLink (yN y).cls ic ⟨zXn x, "<init>", "()V"⟩ ∈ zGW ∧ yH y = [] ∧ 6 < fr ∧ (st.map fun v => v.category).sum + 94 ≤ lo ∧ x < 3
/-- what is due at the method's end -/
def zEx (l : Launch) (G : zG) (y : zMD) (fr lo : Nat) (Q : zOut → zMem → Prop) (p : Program) (e : Env) (R : Room) (s : State) (m : MethodId) (args : Array Value) (below : List Frame) (meth : Method) (c : Code) (X : State → Prop) : Prop :=
  (∀ (v : Option Value) (M' : zMem), Q (.inl v) M' → ∀ (H : Heap) (locs : List Loc) (cells slots pc : Nat) (la : Array Slot), cells ≤ R.cells → slots ≤ R.slots → zWd G M' s H locs cells → zrets y pc v → W p l e R s m args below meth c H locs cells slots X (F0 m pc la (v.toList.map (zv G)))) ∧
  (∀ (x : Nat) (M' : zMem), Q (.inr x) M' → ∀ (H : Heap) (locs : List Loc) (cells slots pc : Nat) (la : Array Slot) (st : List Value) (q : Addr) (ce : Cell), cells ≤ R.cells → slots ≤ R.slots → zWd G M' s H locs cells → H[q]? = some ce → ce.vm = .none → s.vm.findClass (zXn x) = some ce.cls → yH y = [] → vx_W p l e R s m args below meth c H locs cells slots X (F0 m pc la st) q) ∧
  (∀ (x : Nat) (M' : zMem), Q (.inr x) (zth M') → ∀ (H : Heap) (locs : List Loc) (cells slots pc : Nat) (la : Array Slot) (st : List Value), cells + 1 ≤ R.cells → slots + 6 ≤ R.slots → zWd G M' s H locs cells → la.size = yL y → zthr y fr lo x pc st → W p l e R s m args below meth c H locs cells slots X (F0 m pc la (st.map (zv G))))
/-- locals by their places -/
def zlc : Nat → List (Option Value) → List (Nat × Value)
  | _, [] => []
  | i, none :: t => zlc (i + 1) t
  | i, some v :: t => (i, v) :: zlc (i + 1) t
def zll (G : zG) (ls : List (Option Value)) : List (Nat × Value) := zlc 0 (ls.map (Option.map (zv G)))
theorem zlc_mem : ∀ (ls : List (Option Value)) (k i : Nat) (v : Value), (i, v) ∈ zlc k ls ↔ ∃ j, i = k + j ∧ ls[j]? = some (some v)
  | [], k, i, v => by simp [zlc]
  | none :: t, k, i, v => by
    rw [zlc, zlc_mem t (k + 1) i v]
    constructor
    · rintro ⟨j, rfl, h⟩; exact ⟨j + 1, by omega, by simpa using h⟩
    · rintro ⟨j, rfl, h⟩
      cases j with
      | zero => simp at h
      | succ j => exact ⟨j, by omega, by simpa using h⟩
  | some w :: t, k, i, v => by
    rw [zlc, List.mem_cons, zlc_mem t (k + 1) i v]
    constructor
    · rintro (h | ⟨j, rfl, h⟩)
      · cases h; exact ⟨0, rfl, rfl⟩
      · exact ⟨j + 1, by omega, by simpa using h⟩
    · rintro ⟨j, rfl, h⟩
      cases j with
      | zero => left; simp at h; subst h; rfl
      | succ j => right; exact ⟨j, by omega, by simpa using h⟩
theorem zll_mem {G : zG} {ls : List (Option Value)} {i : Nat} {v : Value} : (i, v) ∈ zll G ls ↔ ∃ w, ls[i]? = some (some w) ∧ v = zv G w := by
  unfold zll
  rw [zlc_mem]
  constructor
  · rintro ⟨j, rfl, h⟩
    rw [List.getElem?_map] at h
    cases hj : ls[j]? with
    | none => rw [hj] at h; cases h
    | some o =>
      rw [hj] at h
      cases o with
      | none => cases h
      | some w => exact ⟨w, by rw [Nat.zero_add]; exact hj, by simpa using h.symm⟩
  · rintro ⟨w, h, rfl⟩
    exact ⟨i, (Nat.zero_add i).symm, by rw [List.getElem?_map, h]; rfl⟩
theorem zll_at {G : zG} {la : Array Slot} {nL : Nat} {ls : List (Option Value)} {i : Nat} {w : Value} (h : lv_has la nL (zll G ls)) (hw : ls[i]? = some (some w)) : la[i]? = some (.val (zv G w)) := h.2.2 (i, zv G w) (zll_mem.mpr ⟨w, hw, rfl⟩)
/-- a place's left neighbour, if a long value stands there, is no value any more -/
def zpr (ls : List (Option Value)) : Nat → List (Option Value)
  | 0 => ls
  | i + 1 => match ls[i]? with
    | some (some (.long _)) => ls.set i none
    | some (some (.double _)) => ls.set i none
    | _ => ls
def zp1 (ls : List (Option Value)) (i : Nat) (v : Value) : List (Option Value) := (zpr ls i).set i (some v)
def zp2 (ls : List (Option Value)) (i : Nat) (v : Value) : List (Option Value) := ((zpr ls i).set i (some v)).set (i + 1) none
theorem zpr_get {ls : List (Option Value)} {i j : Nat} {w : Value} (h : (zpr ls i)[j]? = some (some w)) : ls[j]? = some (some w) ∧ ¬ (j + 1 = i ∧ w.category = 2) := by
  cases i with
  | zero => exact ⟨h, by omega⟩
  | succ i =>
    rw [zpr] at h
    split at h
    next x hx =>
      by_cases hj : j = i
      · subst hj
        rw [List.getElem?_set_self (List.getElem?_eq_some_iff.mp hx).1] at h
        cases h
      · rw [List.getElem?_set_ne (Ne.symm hj)] at h
        exact ⟨h, by omega⟩
    next x hx =>
      by_cases hj : j = i
      · subst hj
        rw [List.getElem?_set_self (List.getElem?_eq_some_iff.mp hx).1] at h
        cases h
      · rw [List.getElem?_set_ne (Ne.symm hj)] at h
        exact ⟨h, by omega⟩
    next hx1 hx2 =>
      refine ⟨h, fun ⟨e1, e2⟩ => ?_⟩
      have : j = i := by omega
      subst this
      cases w with
      | long x => exact hx1 x h
      | double x => exact hx2 x h
      | _ => cases e2
theorem zp1_has {G : zG} {la : Array Slot} {nL i : Nat} {ls : List (Option Value)} {v : Value} (h : lv_has la nL ((i, zv G v) :: (zll G ls).filter (fun q => !(q.1 == i) && !(q.1 + 1 == i && q.2.category == 2)))) : lv_has la nL (zll G (zp1 ls i v)) := by
  refine ⟨h.1, h.2.1, fun q hq => h.2.2 q ?_⟩
  obtain ⟨j, x⟩ := q
  obtain ⟨w, hw, rfl⟩ := zll_mem.mp hq
  unfold zp1 at hw
  by_cases hj : j = i
  · subst hj
    rcases Nat.lt_or_ge j (zpr ls j).length with hl | hl
    · rw [List.getElem?_set_self hl] at hw
      cases hw
      exact List.mem_cons_self
    · rw [List.getElem?_eq_none (by simpa using hl)] at hw
      cases hw
  · rw [List.getElem?_set_ne (Ne.symm hj)] at hw
    obtain ⟨h1, h2⟩ := zpr_get hw
    refine List.mem_cons_of_mem _ (List.mem_filter.mpr ⟨zll_mem.mpr ⟨w, h1, rfl⟩, ?_⟩)
    simp only [zv_cat, Bool.and_eq_true, Bool.not_eq_true', beq_eq_false_iff_ne, ne_eq, Bool.and_eq_false_iff]
    refine ⟨hj, ?_⟩
    by_cases e : j + 1 = i
    · exact Or.inr (fun z => h2 ⟨e, z⟩)
    · exact Or.inl e
theorem zp2_has {G : zG} {la : Array Slot} {nL i : Nat} {ls : List (Option Value)} {v : Value} (h : lv_has la nL ((i, zv G v) :: (zll G ls).filter (fun q => !(q.1 == i) && (!(q.1 == i + 1) && !(q.1 + 1 == i && q.2.category == 2))))) : lv_has la nL (zll G (zp2 ls i v)) := by
  refine ⟨h.1, h.2.1, fun q hq => h.2.2 q ?_⟩
  obtain ⟨j, x⟩ := q
  obtain ⟨w, hw, rfl⟩ := zll_mem.mp hq
  unfold zp2 at hw
  by_cases hj1 : j = i + 1
  · subst hj1
    by_cases hl : i + 1 < ((zpr ls i).set i (some v)).length
    · rw [List.getElem?_set_self hl] at hw
      cases hw
    · rw [List.getElem?_eq_none (by simpa using hl)] at hw
      cases hw
  · rw [List.getElem?_set_ne (Ne.symm hj1)] at hw
    by_cases hj : j = i
    · subst hj
      rcases Nat.lt_or_ge j (zpr ls j).length with hl | hl
      · rw [List.getElem?_set_self hl] at hw
        cases hw
        exact List.mem_cons_self
      · rw [List.getElem?_eq_none (by simpa using hl)] at hw
        cases hw
    · rw [List.getElem?_set_ne (Ne.symm hj)] at hw
      obtain ⟨h1, h2⟩ := zpr_get hw
      refine List.mem_cons_of_mem _ (List.mem_filter.mpr ⟨zll_mem.mpr ⟨w, h1, rfl⟩, ?_⟩)
      simp only [zv_cat, Bool.and_eq_true, Bool.not_eq_true', beq_eq_false_iff_ne, ne_eq, Bool.and_eq_false_iff]
      refine ⟨hj, hj1, ?_⟩
      by_cases e : j + 1 = i
      · exact Or.inr (fun z => h2 ⟨e, z⟩)
      · exact Or.inl e
/-- THE JUDGEMENT: from pc, with these locals, this stack, this world, the method comes to an end that Q allows; fr lo: its room's frames and words; bc bs: cells and slots that it may still make -/
def zS (l : Launch) (G : zG) (y : zMD) (fr lo bc bs pc : Nat) (ls : List (Option Value)) (st : List Value) (M : zMem) (Q : zOut → zMem → Prop) : Prop :=
  ∀ (p : Program) (e : Env) (R : Room) (s : State) (m : MethodId) (args : Array Value) (below : List Frame) (meth : Method) (c : Code) (H : Heap) (locs : List Loc) (cells slots : Nat) (X : State → Prop) (la : Array Slot),
    zFix l G y fr lo p R s m args meth c → cells + bc ≤ R.cells → slots + bs ≤ R.slots → zWd G M s H locs cells → lv_has la (yL y) (zll G ls) → zEx l G y fr lo Q p e R s m args below meth c X →
    W p l e R s m args below meth c H locs cells slots X (F0 m pc la (st.map (zv G)))
end
section
section ZR
variable {l : Launch} {G : zG} {y : zMD} {fr lo bc bs pc : Nat} {ls : List (Option Value)} {st : List Value} {M : zMem} {Q : zOut → zMem → Prop}
theorem s_iadd {a b : Int32} (hd : decode (yC y) pc = .ok (.iadd, 1)) (k : zS l G y fr lo bc bs (pc + 1) ls (.int (a + b) :: st) M Q) : zS l G y fr lo bc bs pc ls (.int b :: .int a :: st) M Q := by
  intro p e R s m args below meth c H locs cells slots X la F hc hs hW hl hE
  exact lv_iadd F.1 F.2.1 hd (k p e R s m args below meth c H locs cells slots X la F hc hs hW hl hE)
theorem s_isub {a b : Int32} (hd : decode (yC y) pc = .ok (.isub, 1)) (k : zS l G y fr lo bc bs (pc + 1) ls (.int (a - b) :: st) M Q) : zS l G y fr lo bc bs pc ls (.int b :: .int a :: st) M Q := by
  intro p e R s m args below meth c H locs cells slots X la F hc hs hW hl hE
  exact lv_isub F.1 F.2.1 hd (k p e R s m args below meth c H locs cells slots X la F hc hs hW hl hE)
theorem s_imul {a b : Int32} (hd : decode (yC y) pc = .ok (.imul, 1)) (k : zS l G y fr lo bc bs (pc + 1) ls (.int (a * b) :: st) M Q) : zS l G y fr lo bc bs pc ls (.int b :: .int a :: st) M Q := by
  intro p e R s m args below meth c H locs cells slots X la F hc hs hW hl hE
  exact lv_imul F.1 F.2.1 hd (k p e R s m args below meth c H locs cells slots X la F hc hs hW hl hE)
theorem s_iand {a b : Int32} (hd : decode (yC y) pc = .ok (.iand, 1)) (k : zS l G y fr lo bc bs (pc + 1) ls (.int (a &&& b) :: st) M Q) : zS l G y fr lo bc bs pc ls (.int b :: .int a :: st) M Q := by
  intro p e R s m args below meth c H locs cells slots X la F hc hs hW hl hE
  exact lv_iand F.1 F.2.1 hd (k p e R s m args below meth c H locs cells slots X la F hc hs hW hl hE)
theorem s_ixor {a b : Int32} (hd : decode (yC y) pc = .ok (.ixor, 1)) (k : zS l G y fr lo bc bs (pc + 1) ls (.int (a ^^^ b) :: st) M Q) : zS l G y fr lo bc bs pc ls (.int b :: .int a :: st) M Q := by
  intro p e R s m args below meth c H locs cells slots X la F hc hs hW hl hE
  exact lv_ixor F.1 F.2.1 hd (k p e R s m args below meth c H locs cells slots X la F hc hs hW hl hE)
theorem s_ishr {a b : Int32} (hd : decode (yC y) pc = .ok (.ishr, 1)) (k : zS l G y fr lo bc bs (pc + 1) ls (.int (a >>> (b &&& 31)) :: st) M Q) : zS l G y fr lo bc bs pc ls (.int b :: .int a :: st) M Q := by
  intro p e R s m args below meth c H locs cells slots X la F hc hs hW hl hE
  exact lv_ishr F.1 F.2.1 hd (k p e R s m args below meth c H locs cells slots X la F hc hs hW hl hE)
theorem s_idiv {a b : Int32} (hd : decode (yC y) pc = .ok (.idiv, 1)) (hne : ¬ b = 0) (k : zS l G y fr lo bc bs (pc + 1) ls (.int (a / b) :: st) M Q) : zS l G y fr lo bc bs pc ls (.int b :: .int a :: st) M Q := by
  intro p e R s m args below meth c H locs cells slots X la F hc hs hW hl hE
  exact lv_idiv F.1 F.2.1 hd hne (k p e R s m args below meth c H locs cells slots X la F hc hs hW hl hE)
theorem s_irem {a b : Int32} (hd : decode (yC y) pc = .ok (.irem, 1)) (hne : ¬ b = 0) (k : zS l G y fr lo bc bs (pc + 1) ls (.int (a - a / b * b) :: st) M Q) : zS l G y fr lo bc bs pc ls (.int b :: .int a :: st) M Q := by
  intro p e R s m args below meth c H locs cells slots X la F hc hs hW hl hE
  exact lv_irem F.1 F.2.1 hd hne (k p e R s m args below meth c H locs cells slots X la F hc hs hW hl hE)
theorem s_ineg {a : Int32} (hd : decode (yC y) pc = .ok (.ineg, 1)) (k : zS l G y fr lo bc bs (pc + 1) ls (.int (-a) :: st) M Q) : zS l G y fr lo bc bs pc ls (.int a :: st) M Q := by
  intro p e R s m args below meth c H locs cells slots X la F hc hs hW hl hE
  exact lv_ineg F.1 F.2.1 hd (k p e R s m args below meth c H locs cells slots X la F hc hs hW hl hE)
theorem s_ladd {a b : Int64} (hd : decode (yC y) pc = .ok (.ladd, 1)) (k : zS l G y fr lo bc bs (pc + 1) ls (.long (a + b) :: st) M Q) : zS l G y fr lo bc bs pc ls (.long b :: .long a :: st) M Q := by
  intro p e R s m args below meth c H locs cells slots X la F hc hs hW hl hE
  exact lv_ladd F.1 F.2.1 hd (k p e R s m args below meth c H locs cells slots X la F hc hs hW hl hE)
theorem s_lsub {a b : Int64} (hd : decode (yC y) pc = .ok (.lsub, 1)) (k : zS l G y fr lo bc bs (pc + 1) ls (.long (a - b) :: st) M Q) : zS l G y fr lo bc bs pc ls (.long b :: .long a :: st) M Q := by
  intro p e R s m args below meth c H locs cells slots X la F hc hs hW hl hE
  exact lv_lsub F.1 F.2.1 hd (k p e R s m args below meth c H locs cells slots X la F hc hs hW hl hE)
theorem s_lmul {a b : Int64} (hd : decode (yC y) pc = .ok (.lmul, 1)) (k : zS l G y fr lo bc bs (pc + 1) ls (.long (a * b) :: st) M Q) : zS l G y fr lo bc bs pc ls (.long b :: .long a :: st) M Q := by
  intro p e R s m args below meth c H locs cells slots X la F hc hs hW hl hE
  exact lv_lmul F.1 F.2.1 hd (k p e R s m args below meth c H locs cells slots X la F hc hs hW hl hE)
theorem s_ldiv {a b : Int64} (hd : decode (yC y) pc = .ok (.ldiv, 1)) (hne : ¬ b = 0) (k : zS l G y fr lo bc bs (pc + 1) ls (.long (a / b) :: st) M Q) : zS l G y fr lo bc bs pc ls (.long b :: .long a :: st) M Q := by
  intro p e R s m args below meth c H locs cells slots X la F hc hs hW hl hE
  exact lv_ldiv F.1 F.2.1 hd hne (k p e R s m args below meth c H locs cells slots X la F hc hs hW hl hE)
theorem s_lneg {a : Int64} (hd : decode (yC y) pc = .ok (.lneg, 1)) (k : zS l G y fr lo bc bs (pc + 1) ls (.long (-a) :: st) M Q) : zS l G y fr lo bc bs pc ls (.long a :: st) M Q := by
  intro p e R s m args below meth c H locs cells slots X la F hc hs hW hl hE
  exact lv_lneg F.1 F.2.1 hd (k p e R s m args below meth c H locs cells slots X la F hc hs hW hl hE)
theorem s_lshl {a : Int64} {b : Int32} (hd : decode (yC y) pc = .ok (.lshl, 1)) (k : zS l G y fr lo bc bs (pc + 1) ls (.long (a <<< (b.toInt64 &&& 63)) :: st) M Q) : zS l G y fr lo bc bs pc ls (.int b :: .long a :: st) M Q := by
  intro p e R s m args below meth c H locs cells slots X la F hc hs hW hl hE
  exact lv_lshl F.1 F.2.1 hd rfl (k p e R s m args below meth c H locs cells slots X la F hc hs hW hl hE)
theorem s_lshr {a : Int64} {b : Int32} (hd : decode (yC y) pc = .ok (.lshr, 1)) (k : zS l G y fr lo bc bs (pc + 1) ls (.long (a >>> (b.toInt64 &&& 63)) :: st) M Q) : zS l G y fr lo bc bs pc ls (.int b :: .long a :: st) M Q := by
  intro p e R s m args below meth c H locs cells slots X la F hc hs hW hl hE
  exact lv_lshr F.1 F.2.1 hd rfl (k p e R s m args below meth c H locs cells slots X la F hc hs hW hl hE)
theorem s_i2l {a : Int32} (hd : decode (yC y) pc = .ok (.i2l, 1)) (k : zS l G y fr lo bc bs (pc + 1) ls (.long a.toInt64 :: st) M Q) : zS l G y fr lo bc bs pc ls (.int a :: st) M Q := by
  intro p e R s m args below meth c H locs cells slots X la F hc hs hW hl hE
  exact lv_i2l F.1 F.2.1 hd rfl (k p e R s m args below meth c H locs cells slots X la F hc hs hW hl hE)
theorem s_l2i {a : Int64} (hd : decode (yC y) pc = .ok (.l2i, 1)) (k : zS l G y fr lo bc bs (pc + 1) ls (.int a.toInt32 :: st) M Q) : zS l G y fr lo bc bs pc ls (.long a :: st) M Q := by
  intro p e R s m args below meth c H locs cells slots X la F hc hs hW hl hE
  exact lv_l2i F.1 F.2.1 hd rfl (k p e R s m args below meth c H locs cells slots X la F hc hs hW hl hE)
theorem s_i2d {a : Int32} (hd : decode (yC y) pc = .ok (.i2d, 1)) (k : zS l G y fr lo bc bs (pc + 1) ls (.double (FP.i2d a) :: st) M Q) : zS l G y fr lo bc bs pc ls (.int a :: st) M Q := by
  intro p e R s m args below meth c H locs cells slots X la F hc hs hW hl hE
  exact lv_i2d F.1 F.2.1 hd (k p e R s m args below meth c H locs cells slots X la F hc hs hW hl hE)
theorem s_l2d {a : Int64} (hd : decode (yC y) pc = .ok (.l2d, 1)) (k : zS l G y fr lo bc bs (pc + 1) ls (.double (FP.l2d a) :: st) M Q) : zS l G y fr lo bc bs pc ls (.long a :: st) M Q := by
  intro p e R s m args below meth c H locs cells slots X la F hc hs hW hl hE
  exact lv_l2d F.1 F.2.1 hd (k p e R s m args below meth c H locs cells slots X la F hc hs hW hl hE)
theorem s_l2f {a : Int64} (hd : decode (yC y) pc = .ok (.l2f, 1)) (k : zS l G y fr lo bc bs (pc + 1) ls (.float (FP.l2f a) :: st) M Q) : zS l G y fr lo bc bs pc ls (.long a :: st) M Q := by
  intro p e R s m args below meth c H locs cells slots X la F hc hs hW hl hE
  exact lv_l2f F.1 F.2.1 hd (k p e R s m args below meth c H locs cells slots X la F hc hs hW hl hE)
theorem s_f2d {a : UInt32} (hd : decode (yC y) pc = .ok (.f2d, 1)) (hne : vf_n64 (FP.f2d a)) (k : zS l G y fr lo bc bs (pc + 1) ls (.double (FP.f2d a) :: st) M Q) : zS l G y fr lo bc bs pc ls (.float a :: st) M Q := by
  intro p e R s m args below meth c H locs cells slots X la F hc hs hW hl hE
  exact lv_f2d F.1 F.2.1 hd hne (k p e R s m args below meth c H locs cells slots X la F hc hs hW hl hE)
theorem s_ddiv {a b : UInt64} (hd : decode (yC y) pc = .ok (.ddiv, 1)) (hne : vf_n64 (FP.ddiv a b)) (k : zS l G y fr lo bc bs (pc + 1) ls (.double (FP.ddiv a b) :: st) M Q) : zS l G y fr lo bc bs pc ls (.double b :: .double a :: st) M Q := by
  intro p e R s m args below meth c H locs cells slots X la F hc hs hW hl hE
  exact lv_ddiv F.1 F.2.1 hd hne (k p e R s m args below meth c H locs cells slots X la F hc hs hW hl hE)
theorem s_fdiv {a b : UInt32} (hd : decode (yC y) pc = .ok (.fdiv, 1)) (hne : vf_n32 (FP.fdiv a b)) (k : zS l G y fr lo bc bs (pc + 1) ls (.float (FP.fdiv a b) :: st) M Q) : zS l G y fr lo bc bs pc ls (.float b :: .float a :: st) M Q := by
  intro p e R s m args below meth c H locs cells slots X la F hc hs hW hl hE
  exact lv_fdiv F.1 F.2.1 hd hne (k p e R s m args below meth c H locs cells slots X la F hc hs hW hl hE)
theorem s_dcmp {a b : UInt64} {op : CmpOp} (hd : decode (yC y) pc = .ok (.dcmp op, 1)) (k : zS l G y fr lo bc bs (pc + 1) ls (.int (Op.cmpValue (FP.dcmp a b) op) :: st) M Q) : zS l G y fr lo bc bs pc ls (.double b :: .double a :: st) M Q := by
  intro p e R s m args below meth c H locs cells slots X la F hc hs hW hl hE
  exact lv_dcmp F.1 F.2.1 hd (k p e R s m args below meth c H locs cells slots X la F hc hs hW hl hE)
theorem s_lcmp {a b : Int64} (hd : decode (yC y) pc = .ok (.lcmp, 1)) (k : zS l G y fr lo bc bs (pc + 1) ls (.int (lg_cmp a b) :: st) M Q) : zS l G y fr lo bc bs pc ls (.long b :: .long a :: st) M Q := by
  intro p e R s m args below meth c H locs cells slots X la F hc hs hW hl hE
  exact W.lcmp F.1 F.2.1 hd (k p e R s m args below meth c H locs cells slots X la F hc hs hW hl hE)
theorem s_iconst {n : Int} (hd : decode (yC y) pc = .ok (.iconst n, 1)) (k : zS l G y fr lo bc bs (pc + 1) ls (.int (Int32.ofInt n) :: st) M Q) : zS l G y fr lo bc bs pc ls (st) M Q := by
  intro p e R s m args below meth c H locs cells slots X la F hc hs hW hl hE
  exact lv_iconst F.1 F.2.1 hd rfl (k p e R s m args below meth c H locs cells slots X la F hc hs hW hl hE)
theorem s_bipush {n : Int} (hd : decode (yC y) pc = .ok (.bipush n, 2)) (k : zS l G y fr lo bc bs (pc + 2) ls (.int (Int8.ofInt n).toInt32 :: st) M Q) : zS l G y fr lo bc bs pc ls (st) M Q := by
  intro p e R s m args below meth c H locs cells slots X la F hc hs hW hl hE
  exact lv_bipush F.1 F.2.1 hd rfl (k p e R s m args below meth c H locs cells slots X la F hc hs hW hl hE)
theorem s_sipush {n : Int} (hd : decode (yC y) pc = .ok (.sipush n, 3)) (k : zS l G y fr lo bc bs (pc + 3) ls (.int (Int16.ofInt n).toInt32 :: st) M Q) : zS l G y fr lo bc bs pc ls (st) M Q := by
  intro p e R s m args below meth c H locs cells slots X la F hc hs hW hl hE
  exact lv_sipush F.1 F.2.1 hd rfl (k p e R s m args below meth c H locs cells slots X la F hc hs hW hl hE)
theorem s_lconst {n : Fin 2} (hd : decode (yC y) pc = .ok (.lconst n, 1)) (k : zS l G y fr lo bc bs (pc + 1) ls (.long (Int64.ofNat n) :: st) M Q) : zS l G y fr lo bc bs pc ls (st) M Q := by
  intro p e R s m args below meth c H locs cells slots X la F hc hs hW hl hE
  exact lv_lconst F.1 F.2.1 hd rfl (k p e R s m args below meth c H locs cells slots X la F hc hs hW hl hE)
theorem s_dconst0  (hd : decode (yC y) pc = .ok (.dconst 0, 1)) (k : zS l G y fr lo bc bs (pc + 1) ls (.double FP.dconst0 :: st) M Q) : zS l G y fr lo bc bs pc ls (st) M Q := by
  intro p e R s m args below meth c H locs cells slots X la F hc hs hW hl hE
  exact lv_dconst0 F.1 F.2.1 hd (k p e R s m args below meth c H locs cells slots X la F hc hs hW hl hE)
theorem s_fconst0  (hd : decode (yC y) pc = .ok (.fconst 0, 1)) (k : zS l G y fr lo bc bs (pc + 1) ls (.float FP.fconst0 :: st) M Q) : zS l G y fr lo bc bs pc ls (st) M Q := by
  intro p e R s m args below meth c H locs cells slots X la F hc hs hW hl hE
  exact lv_fconst0 F.1 F.2.1 hd (k p e R s m args below meth c H locs cells slots X la F hc hs hW hl hE)
theorem s_iconstv {n : Int} {v : Int32} (hd : decode (yC y) pc = .ok (.iconst n, 1)) (hv : Int32.ofInt n = v) (k : zS l G y fr lo bc bs (pc + 1) ls (.int v :: st) M Q) : zS l G y fr lo bc bs pc ls (st) M Q := by
  intro p e R s m args below meth c H locs cells slots X la F hc hs hW hl hE
  exact lv_iconst F.1 F.2.1 hd hv (k p e R s m args below meth c H locs cells slots X la F hc hs hW hl hE)
theorem s_bipushv {n : Int} {v : Int32} (hd : decode (yC y) pc = .ok (.bipush n, 2)) (hv : (Int8.ofInt n).toInt32 = v) (k : zS l G y fr lo bc bs (pc + 2) ls (.int v :: st) M Q) : zS l G y fr lo bc bs pc ls (st) M Q := by
  intro p e R s m args below meth c H locs cells slots X la F hc hs hW hl hE
  exact lv_bipush F.1 F.2.1 hd hv (k p e R s m args below meth c H locs cells slots X la F hc hs hW hl hE)
theorem s_sipushv {n : Int} {v : Int32} (hd : decode (yC y) pc = .ok (.sipush n, 3)) (hv : (Int16.ofInt n).toInt32 = v) (k : zS l G y fr lo bc bs (pc + 3) ls (.int v :: st) M Q) : zS l G y fr lo bc bs pc ls (st) M Q := by
  intro p e R s m args below meth c H locs cells slots X la F hc hs hW hl hE
  exact lv_sipush F.1 F.2.1 hd hv (k p e R s m args below meth c H locs cells slots X la F hc hs hW hl hE)
theorem s_lconstv {n : Fin 2} {v : Int64} (hd : decode (yC y) pc = .ok (.lconst n, 1)) (hv : Int64.ofNat (n : Nat) = v) (k : zS l G y fr lo bc bs (pc + 1) ls (.long v :: st) M Q) : zS l G y fr lo bc bs pc ls (st) M Q := by
  intro p e R s m args below meth c H locs cells slots X la F hc hs hW hl hE
  exact lv_lconst F.1 F.2.1 hd hv (k p e R s m args below meth c H locs cells slots X la F hc hs hW hl hE)
theorem s_ldc {i : Nat} {v : Int32} (hd : decode (yC y) pc = .ok (.ldc i, 2)) (hw : Jvm.Cond.constant (yN y).cls i v ∈ zGW) (k : zS l G y fr lo bc bs (pc + 2) ls (.int v :: st) M Q) : zS l G y fr lo bc bs pc ls (st) M Q := by
  intro p e R s m args below meth c H locs cells slots X la F hc hs hW hl hE
  exact lv_ldc F.1 F.2.1 F.2.2.2.1 (F.2.2.2.2.1 _ hw) hd (k p e R s m args below meth c H locs cells slots X la F hc hs hW hl hE)
theorem s_ldc2 {i : Nat} {v : Int64} (hd : decode (yC y) pc = .ok (.ldc2_w i, 3)) (hw : Jvm.Cond.constantLong (yN y).cls i v ∈ zGW) (k : zS l G y fr lo bc bs (pc + 3) ls (.long v :: st) M Q) : zS l G y fr lo bc bs pc ls (st) M Q := by
  intro p e R s m args below meth c H locs cells slots X la F hc hs hW hl hE
  exact lv_ldc2 F.1 F.2.1 F.2.2.2.1 (F.2.2.2.2.1 _ hw) hd (k p e R s m args below meth c H locs cells slots X la F hc hs hW hl hE)
theorem s_iload {i : Nat} {v : Int32} (hd : decode (yC y) pc = .ok (.iload i, 2)) (hv : ls[i]? = some (some (.int v))) (k : zS l G y fr lo bc bs (pc + 2) ls (.int v :: st) M Q) : zS l G y fr lo bc bs pc ls (st) M Q := by
  intro p e R s m args below meth c H locs cells slots X la F hc hs hW hl hE
  exact lv_iload F.1 F.2.1 hd (zll_at hl hv) (k p e R s m args below meth c H locs cells slots X la F hc hs hW hl hE)
theorem s_iload_n {i : Fin 4} {v : Int32} (hd : decode (yC y) pc = .ok (.iload_n i, 1)) (hv : ls[(i : Nat)]? = some (some (.int v))) (k : zS l G y fr lo bc bs (pc + 1) ls (.int v :: st) M Q) : zS l G y fr lo bc bs pc ls (st) M Q := by
  intro p e R s m args below meth c H locs cells slots X la F hc hs hW hl hE
  exact lv_iload_n F.1 F.2.1 hd rfl (zll_at hl hv) (k p e R s m args below meth c H locs cells slots X la F hc hs hW hl hE)
theorem s_lload {i : Nat} {v : Int64} (hd : decode (yC y) pc = .ok (.lload i, 2)) (hv : ls[i]? = some (some (.long v))) (k : zS l G y fr lo bc bs (pc + 2) ls (.long v :: st) M Q) : zS l G y fr lo bc bs pc ls (st) M Q := by
  intro p e R s m args below meth c H locs cells slots X la F hc hs hW hl hE
  exact lv_lload F.1 F.2.1 hd (zll_at hl hv) (k p e R s m args below meth c H locs cells slots X la F hc hs hW hl hE)
theorem s_lload_n {i : Fin 4} {v : Int64} (hd : decode (yC y) pc = .ok (.lload_n i, 1)) (hv : ls[(i : Nat)]? = some (some (.long v))) (k : zS l G y fr lo bc bs (pc + 1) ls (.long v :: st) M Q) : zS l G y fr lo bc bs pc ls (st) M Q := by
  intro p e R s m args below meth c H locs cells slots X la F hc hs hW hl hE
  exact lv_lload_n F.1 F.2.1 hd rfl (zll_at hl hv) (k p e R s m args below meth c H locs cells slots X la F hc hs hW hl hE)
theorem s_aload {i : Nat} {v : Nat} (hd : decode (yC y) pc = .ok (.aload i, 2)) (hv : ls[i]? = some (some (.ref v))) (k : zS l G y fr lo bc bs (pc + 2) ls (.ref v :: st) M Q) : zS l G y fr lo bc bs pc ls (st) M Q := by
  intro p e R s m args below meth c H locs cells slots X la F hc hs hW hl hE
  exact lv_aload F.1 F.2.1 hd (zll_at hl hv) (k p e R s m args below meth c H locs cells slots X la F hc hs hW hl hE)
theorem s_aload_n {i : Fin 4} {v : Nat} (hd : decode (yC y) pc = .ok (.aload_n i, 1)) (hv : ls[(i : Nat)]? = some (some (.ref v))) (k : zS l G y fr lo bc bs (pc + 1) ls (.ref v :: st) M Q) : zS l G y fr lo bc bs pc ls (st) M Q := by
  intro p e R s m args below meth c H locs cells slots X la F hc hs hW hl hE
  exact lv_aload_n F.1 F.2.1 hd rfl (zll_at hl hv) (k p e R s m args below meth c H locs cells slots X la F hc hs hW hl hE)
theorem s_dload {i : Nat} {v : UInt64} (hd : decode (yC y) pc = .ok (.dload i, 2)) (hv : ls[i]? = some (some (.double v))) (k : zS l G y fr lo bc bs (pc + 2) ls (.double v :: st) M Q) : zS l G y fr lo bc bs pc ls (st) M Q := by
  intro p e R s m args below meth c H locs cells slots X la F hc hs hW hl hE
  exact lv_dload F.1 F.2.1 hd (zll_at hl hv) (k p e R s m args below meth c H locs cells slots X la F hc hs hW hl hE)
theorem s_dload_n {i : Fin 4} {v : UInt64} (hd : decode (yC y) pc = .ok (.dload_n i, 1)) (hv : ls[(i : Nat)]? = some (some (.double v))) (k : zS l G y fr lo bc bs (pc + 1) ls (.double v :: st) M Q) : zS l G y fr lo bc bs pc ls (st) M Q := by
  intro p e R s m args below meth c H locs cells slots X la F hc hs hW hl hE
  exact lv_dload_n F.1 F.2.1 hd rfl (zll_at hl hv) (k p e R s m args below meth c H locs cells slots X la F hc hs hW hl hE)
theorem s_istore {i : Nat} {v : Int32} (hd : decode (yC y) pc = .ok (.istore i, 2)) (hn : i < yL y) (k : zS l G y fr lo bc bs (pc + 2) (zp1 ls i (.int v)) st M Q) : zS l G y fr lo bc bs pc ls (.int v :: st) M Q := by
  intro p e R s m args below meth c H locs cells slots X la F hc hs hW hl hE
  exact lv_istore F.1 F.2.1 hd hl hn rfl (fun la hl => k p e R s m args below meth c H locs cells slots X la F hc hs hW (zp1_has hl) hE)
theorem s_istore_n {i : Fin 4} {v : Int32} (hd : decode (yC y) pc = .ok (.istore_n i, 1)) (hn : (i : Nat) < yL y) (k : zS l G y fr lo bc bs (pc + 1) (zp1 ls i (.int v)) st M Q) : zS l G y fr lo bc bs pc ls (.int v :: st) M Q := by
  intro p e R s m args below meth c H locs cells slots X la F hc hs hW hl hE
  exact lv_istore_n F.1 F.2.1 hd rfl hl hn rfl (fun la hl => k p e R s m args below meth c H locs cells slots X la F hc hs hW (zp1_has hl) hE)
theorem s_lstore {i : Nat} {v : Int64} (hd : decode (yC y) pc = .ok (.lstore i, 2)) (hn : i + 1 < yL y) (k : zS l G y fr lo bc bs (pc + 2) (zp2 ls i (.long v)) st M Q) : zS l G y fr lo bc bs pc ls (.long v :: st) M Q := by
  intro p e R s m args below meth c H locs cells slots X la F hc hs hW hl hE
  exact lv_lstore F.1 F.2.1 hd hl hn rfl (fun la hl => k p e R s m args below meth c H locs cells slots X la F hc hs hW (zp2_has hl) hE)
theorem s_lstore_n {i : Fin 4} {v : Int64} (hd : decode (yC y) pc = .ok (.lstore_n i, 1)) (hn : (i : Nat) + 1 < yL y) (k : zS l G y fr lo bc bs (pc + 1) (zp2 ls i (.long v)) st M Q) : zS l G y fr lo bc bs pc ls (.long v :: st) M Q := by
  intro p e R s m args below meth c H locs cells slots X la F hc hs hW hl hE
  exact lv_lstore_n F.1 F.2.1 hd rfl hl hn rfl (fun la hl => k p e R s m args below meth c H locs cells slots X la F hc hs hW (zp2_has hl) hE)
theorem s_astore {i : Nat} {v : Nat} (hd : decode (yC y) pc = .ok (.astore i, 2)) (hn : i < yL y) (k : zS l G y fr lo bc bs (pc + 2) (zp1 ls i (.ref v)) st M Q) : zS l G y fr lo bc bs pc ls (.ref v :: st) M Q := by
  intro p e R s m args below meth c H locs cells slots X la F hc hs hW hl hE
  exact lv_astore F.1 F.2.1 hd hl hn rfl (fun la hl => k p e R s m args below meth c H locs cells slots X la F hc hs hW (zp1_has hl) hE)
theorem s_astore_n {i : Fin 4} {v : Nat} (hd : decode (yC y) pc = .ok (.astore_n i, 1)) (hn : (i : Nat) < yL y) (k : zS l G y fr lo bc bs (pc + 1) (zp1 ls i (.ref v)) st M Q) : zS l G y fr lo bc bs pc ls (.ref v :: st) M Q := by
  intro p e R s m args below meth c H locs cells slots X la F hc hs hW hl hE
  exact lv_astore_n F.1 F.2.1 hd rfl hl hn rfl (fun la hl => k p e R s m args below meth c H locs cells slots X la F hc hs hW (zp1_has hl) hE)
theorem s_dstore {i : Nat} {v : UInt64} (hd : decode (yC y) pc = .ok (.dstore i, 2)) (hn : i + 1 < yL y) (k : zS l G y fr lo bc bs (pc + 2) (zp2 ls i (.double v)) st M Q) : zS l G y fr lo bc bs pc ls (.double v :: st) M Q := by
  intro p e R s m args below meth c H locs cells slots X la F hc hs hW hl hE
  exact lv_dstore F.1 F.2.1 hd hl hn rfl (fun la hl => k p e R s m args below meth c H locs cells slots X la F hc hs hW (zp2_has hl) hE)
theorem s_dstore_n {i : Fin 4} {v : UInt64} (hd : decode (yC y) pc = .ok (.dstore_n i, 1)) (hn : (i : Nat) + 1 < yL y) (k : zS l G y fr lo bc bs (pc + 1) (zp2 ls i (.double v)) st M Q) : zS l G y fr lo bc bs pc ls (.double v :: st) M Q := by
  intro p e R s m args below meth c H locs cells slots X la F hc hs hW hl hE
  exact lv_dstore_n F.1 F.2.1 hd rfl hl hn rfl (fun la hl => k p e R s m args below meth c H locs cells slots X la F hc hs hW (zp2_has hl) hE)
theorem s_iinc {i : Nat} {n : Int} {v r : Int32} (hd : decode (yC y) pc = .ok (.iinc i n, 3)) (hn : i < yL y) (hv : ls[i]? = some (some (.int v))) (hr : v + Int32.ofInt n = r) (k : zS l G y fr lo bc bs (pc + 3) (zp1 ls i (.int r)) st M Q) : zS l G y fr lo bc bs pc ls st M Q := by
  intro p e R s m args below meth c H locs cells slots X la F hc hs hW hl hE
  obtain ⟨j, hj⟩ := List.getElem?_of_mem (show (i, Value.int v) ∈ zll G ls from zll_mem.mpr ⟨.int v, hv, rfl⟩)
  exact lv_iinc F.1 F.2.1 hd hl hj hr hn rfl (fun la hl => k p e R s m args below meth c H locs cells slots X la F hc hs hW (zp1_has hl) hE)
theorem s_dupi {v : Int32} (hd : decode (yC y) pc = .ok (.dup, 1)) (k : zS l G y fr lo bc bs (pc + 1) ls (.int v :: .int v :: st) M Q) : zS l G y fr lo bc bs pc ls (.int v :: st) M Q := by
  intro p e R s m args below meth c H locs cells slots X la F hc hs hW hl hE
  exact lv_dup F.1 F.2.1 hd rfl (k p e R s m args below meth c H locs cells slots X la F hc hs hW hl hE)
theorem s_dupr {v : Nat} (hd : decode (yC y) pc = .ok (.dup, 1)) (k : zS l G y fr lo bc bs (pc + 1) ls (.ref v :: .ref v :: st) M Q) : zS l G y fr lo bc bs pc ls (.ref v :: st) M Q := by
  intro p e R s m args below meth c H locs cells slots X la F hc hs hW hl hE
  exact lv_dup F.1 F.2.1 hd rfl (k p e R s m args below meth c H locs cells slots X la F hc hs hW hl hE)
theorem s_popi {v : Int32} (hd : decode (yC y) pc = .ok (.pop, 1)) (k : zS l G y fr lo bc bs (pc + 1) ls (st) M Q) : zS l G y fr lo bc bs pc ls (.int v :: st) M Q := by
  intro p e R s m args below meth c H locs cells slots X la F hc hs hW hl hE
  exact lv_pop F.1 F.2.1 hd rfl (k p e R s m args below meth c H locs cells slots X la F hc hs hW hl hE)
theorem s_popr {v : Nat} (hd : decode (yC y) pc = .ok (.pop, 1)) (k : zS l G y fr lo bc bs (pc + 1) ls (st) M Q) : zS l G y fr lo bc bs pc ls (.ref v :: st) M Q := by
  intro p e R s m args below meth c H locs cells slots X la F hc hs hW hl hE
  exact lv_pop F.1 F.2.1 hd rfl (k p e R s m args below meth c H locs cells slots X la F hc hs hW hl hE)
theorem s_dup2ir {v : Int32} {a : Nat} (hd : decode (yC y) pc = .ok (.dup2, 1)) (k : zS l G y fr lo bc bs (pc + 1) ls (.int v :: .ref a :: .int v :: .ref a :: st) M Q) : zS l G y fr lo bc bs pc ls (.int v :: .ref a :: st) M Q := by
  intro p e R s m args below meth c H locs cells slots X la F hc hs hW hl hE
  exact lv_dup2_11 F.1 F.2.1 hd rfl rfl (k p e R s m args below meth c H locs cells slots X la F hc hs hW hl hE)
theorem s_dup2l {v : Int64} (hd : decode (yC y) pc = .ok (.dup2, 1)) (k : zS l G y fr lo bc bs (pc + 1) ls (.long v :: .long v :: st) M Q) : zS l G y fr lo bc bs pc ls (.long v :: st) M Q := by
  intro p e R s m args below meth c H locs cells slots X la F hc hs hW hl hE
  exact lv_dup2_2 F.1 F.2.1 hd rfl (k p e R s m args below meth c H locs cells slots X la F hc hs hW hl hE)
theorem s_goto {off : Int} (t : Nat) (hd : decode (yC y) pc = .ok (.goto off, 3)) (ht : (pc : Int) + off = (t : Int)) (k : zS l G y fr lo bc bs t ls st M Q) : zS l G y fr lo bc bs pc ls st M Q := by
  intro p e R s m args below meth c H locs cells slots X la F hc hs hW hl hE
  exact lv_goto F.1 F.2.1 hd ht (k p e R s m args below meth c H locs cells slots X la F hc hs hW hl hE)
theorem s_icmp_eq {a b : Int32} {off : Int} (t : Nat) (hd : decode (yC y) pc = .ok (.if_icmp .eq off, 3)) (ht : (pc : Int) + off = (t : Int)) (kt : a = b → zS l G y fr lo bc bs t ls st M Q) (kf : ¬ a = b → zS l G y fr lo bc bs (pc + 3) ls st M Q) : zS l G y fr lo bc bs pc ls (.int b :: .int a :: st) M Q := by
  intro p e R s m args below meth c H locs cells slots X la F hc hs hW hl hE
  exact lv_icmp_eq F.1 F.2.1 hd ht (fun h => kt h p e R s m args below meth c H locs cells slots X la F hc hs hW hl hE) (fun h => kf h p e R s m args below meth c H locs cells slots X la F hc hs hW hl hE)
theorem s_if_eq {a : Int32} {off : Int} (t : Nat) (hd : decode (yC y) pc = .ok (.ifCond .eq off, 3)) (ht : (pc : Int) + off = (t : Int)) (kt : a = 0 → zS l G y fr lo bc bs t ls st M Q) (kf : ¬ a = 0 → zS l G y fr lo bc bs (pc + 3) ls st M Q) : zS l G y fr lo bc bs pc ls (.int a :: st) M Q := by
  intro p e R s m args below meth c H locs cells slots X la F hc hs hW hl hE
  exact lv_if_eq F.1 F.2.1 hd ht (fun h => kt h p e R s m args below meth c H locs cells slots X la F hc hs hW hl hE) (fun h => kf h p e R s m args below meth c H locs cells slots X la F hc hs hW hl hE)
theorem s_icmp_ne {a b : Int32} {off : Int} (t : Nat) (hd : decode (yC y) pc = .ok (.if_icmp .ne off, 3)) (ht : (pc : Int) + off = (t : Int)) (kt : ¬ a = b → zS l G y fr lo bc bs t ls st M Q) (kf : a = b → zS l G y fr lo bc bs (pc + 3) ls st M Q) : zS l G y fr lo bc bs pc ls (.int b :: .int a :: st) M Q := by
  intro p e R s m args below meth c H locs cells slots X la F hc hs hW hl hE
  exact lv_icmp_ne F.1 F.2.1 hd ht (fun h => kt h p e R s m args below meth c H locs cells slots X la F hc hs hW hl hE) (fun h => kf h p e R s m args below meth c H locs cells slots X la F hc hs hW hl hE)
theorem s_if_ne {a : Int32} {off : Int} (t : Nat) (hd : decode (yC y) pc = .ok (.ifCond .ne off, 3)) (ht : (pc : Int) + off = (t : Int)) (kt : ¬ a = 0 → zS l G y fr lo bc bs t ls st M Q) (kf : a = 0 → zS l G y fr lo bc bs (pc + 3) ls st M Q) : zS l G y fr lo bc bs pc ls (.int a :: st) M Q := by
  intro p e R s m args below meth c H locs cells slots X la F hc hs hW hl hE
  exact lv_if_ne F.1 F.2.1 hd ht (fun h => kt h p e R s m args below meth c H locs cells slots X la F hc hs hW hl hE) (fun h => kf h p e R s m args below meth c H locs cells slots X la F hc hs hW hl hE)
theorem s_icmp_lt {a b : Int32} {off : Int} (t : Nat) (hd : decode (yC y) pc = .ok (.if_icmp .lt off, 3)) (ht : (pc : Int) + off = (t : Int)) (kt : a < b → zS l G y fr lo bc bs t ls st M Q) (kf : ¬ a < b → zS l G y fr lo bc bs (pc + 3) ls st M Q) : zS l G y fr lo bc bs pc ls (.int b :: .int a :: st) M Q := by
  intro p e R s m args below meth c H locs cells slots X la F hc hs hW hl hE
  exact lv_icmp_lt F.1 F.2.1 hd ht (fun h => kt h p e R s m args below meth c H locs cells slots X la F hc hs hW hl hE) (fun h => kf h p e R s m args below meth c H locs cells slots X la F hc hs hW hl hE)
theorem s_if_lt {a : Int32} {off : Int} (t : Nat) (hd : decode (yC y) pc = .ok (.ifCond .lt off, 3)) (ht : (pc : Int) + off = (t : Int)) (kt : a < 0 → zS l G y fr lo bc bs t ls st M Q) (kf : ¬ a < 0 → zS l G y fr lo bc bs (pc + 3) ls st M Q) : zS l G y fr lo bc bs pc ls (.int a :: st) M Q := by
  intro p e R s m args below meth c H locs cells slots X la F hc hs hW hl hE
  exact lv_if_lt F.1 F.2.1 hd ht (fun h => kt h p e R s m args below meth c H locs cells slots X la F hc hs hW hl hE) (fun h => kf h p e R s m args below meth c H locs cells slots X la F hc hs hW hl hE)
theorem s_icmp_ge {a b : Int32} {off : Int} (t : Nat) (hd : decode (yC y) pc = .ok (.if_icmp .ge off, 3)) (ht : (pc : Int) + off = (t : Int)) (kt : b ≤ a → zS l G y fr lo bc bs t ls st M Q) (kf : ¬ b ≤ a → zS l G y fr lo bc bs (pc + 3) ls st M Q) : zS l G y fr lo bc bs pc ls (.int b :: .int a :: st) M Q := by
  intro p e R s m args below meth c H locs cells slots X la F hc hs hW hl hE
  exact lv_icmp_ge F.1 F.2.1 hd ht (fun h => kt h p e R s m args below meth c H locs cells slots X la F hc hs hW hl hE) (fun h => kf h p e R s m args below meth c H locs cells slots X la F hc hs hW hl hE)
theorem s_if_ge {a : Int32} {off : Int} (t : Nat) (hd : decode (yC y) pc = .ok (.ifCond .ge off, 3)) (ht : (pc : Int) + off = (t : Int)) (kt : 0 ≤ a → zS l G y fr lo bc bs t ls st M Q) (kf : ¬ 0 ≤ a → zS l G y fr lo bc bs (pc + 3) ls st M Q) : zS l G y fr lo bc bs pc ls (.int a :: st) M Q := by
  intro p e R s m args below meth c H locs cells slots X la F hc hs hW hl hE
  exact lv_if_ge F.1 F.2.1 hd ht (fun h => kt h p e R s m args below meth c H locs cells slots X la F hc hs hW hl hE) (fun h => kf h p e R s m args below meth c H locs cells slots X la F hc hs hW hl hE)
theorem s_icmp_gt {a b : Int32} {off : Int} (t : Nat) (hd : decode (yC y) pc = .ok (.if_icmp .gt off, 3)) (ht : (pc : Int) + off = (t : Int)) (kt : b < a → zS l G y fr lo bc bs t ls st M Q) (kf : ¬ b < a → zS l G y fr lo bc bs (pc + 3) ls st M Q) : zS l G y fr lo bc bs pc ls (.int b :: .int a :: st) M Q := by
  intro p e R s m args below meth c H locs cells slots X la F hc hs hW hl hE
  exact lv_icmp_gt F.1 F.2.1 hd ht (fun h => kt h p e R s m args below meth c H locs cells slots X la F hc hs hW hl hE) (fun h => kf h p e R s m args below meth c H locs cells slots X la F hc hs hW hl hE)
theorem s_if_gt {a : Int32} {off : Int} (t : Nat) (hd : decode (yC y) pc = .ok (.ifCond .gt off, 3)) (ht : (pc : Int) + off = (t : Int)) (kt : 0 < a → zS l G y fr lo bc bs t ls st M Q) (kf : ¬ 0 < a → zS l G y fr lo bc bs (pc + 3) ls st M Q) : zS l G y fr lo bc bs pc ls (.int a :: st) M Q := by
  intro p e R s m args below meth c H locs cells slots X la F hc hs hW hl hE
  exact lv_if_gt F.1 F.2.1 hd ht (fun h => kt h p e R s m args below meth c H locs cells slots X la F hc hs hW hl hE) (fun h => kf h p e R s m args below meth c H locs cells slots X la F hc hs hW hl hE)
theorem s_icmp_le {a b : Int32} {off : Int} (t : Nat) (hd : decode (yC y) pc = .ok (.if_icmp .le off, 3)) (ht : (pc : Int) + off = (t : Int)) (kt : a ≤ b → zS l G y fr lo bc bs t ls st M Q) (kf : ¬ a ≤ b → zS l G y fr lo bc bs (pc + 3) ls st M Q) : zS l G y fr lo bc bs pc ls (.int b :: .int a :: st) M Q := by
  intro p e R s m args below meth c H locs cells slots X la F hc hs hW hl hE
  exact lv_icmp_le F.1 F.2.1 hd ht (fun h => kt h p e R s m args below meth c H locs cells slots X la F hc hs hW hl hE) (fun h => kf h p e R s m args below meth c H locs cells slots X la F hc hs hW hl hE)
theorem s_if_le {a : Int32} {off : Int} (t : Nat) (hd : decode (yC y) pc = .ok (.ifCond .le off, 3)) (ht : (pc : Int) + off = (t : Int)) (kt : a ≤ 0 → zS l G y fr lo bc bs t ls st M Q) (kf : ¬ a ≤ 0 → zS l G y fr lo bc bs (pc + 3) ls st M Q) : zS l G y fr lo bc bs pc ls (.int a :: st) M Q := by
  intro p e R s m args below meth c H locs cells slots X la F hc hs hW hl hE
  exact lv_if_le F.1 F.2.1 hd ht (fun h => kt h p e R s m args below meth c H locs cells slots X la F hc hs hW hl hE) (fun h => kf h p e R s m args below meth c H locs cells slots X la F hc hs hW hl hE)
theorem s_tableIn {d lo' hi : Int} {os : Array Int} {len : Nat} {a : Int32} {off : Int} (t : Nat) (hd : decode (yC y) pc = .ok (.tableswitch d lo' hi os, len)) (h1 : ¬ a.toInt < lo') (h2 : ¬ hi < a.toInt) (ho : os[(a.toInt - lo').toNat]? = some off) (ht : (pc : Int) + off = (t : Int)) (k : zS l G y fr lo bc bs t ls st M Q) : zS l G y fr lo bc bs pc ls (.int a :: st) M Q := by
  intro p e R s m args below meth c H locs cells slots X la F hc hs hW hl hE
  exact lv_tableIn F.1 F.2.1 hd h1 h2 ho ht (k p e R s m args below meth c H locs cells slots X la F hc hs hW hl hE)
theorem s_tableOut {d lo' hi : Int} {os : Array Int} {len : Nat} {a : Int32} (t : Nat) (hd : decode (yC y) pc = .ok (.tableswitch d lo' hi os, len)) (h : a.toInt < lo' ∨ hi < a.toInt) (ht : (pc : Int) + d = (t : Int)) (k : zS l G y fr lo bc bs t ls st M Q) : zS l G y fr lo bc bs pc ls (.int a :: st) M Q := by
  intro p e R s m args below meth c H locs cells slots X la F hc hs hW hl hE
  exact lv_tableOut F.1 F.2.1 hd h ht (k p e R s m args below meth c H locs cells slots X la F hc hs hW hl hE)
theorem s_lookup {d : Int} {ps : Array (Int × Int)} {len : Nat} {a : Int32} {off : Int} (t : Nat) (hd : decode (yC y) pc = .ok (.lookupswitch d ps, len)) (hp : (ps.toList.zip (ps.toList.drop 1)).all (fun (a, next) => a.1 < next.1) = true) (ho : Op.lookupswitch.offset ps.toList d a.toInt = off) (ht : (pc : Int) + off = (t : Int)) (k : zS l G y fr lo bc bs t ls st M Q) : zS l G y fr lo bc bs pc ls (.int a :: st) M Q := by
  intro p e R s m args below meth c H locs cells slots X la F hc hs hW hl hE
  exact lv_lookup F.1 F.2.1 hd hp ho ht (k p e R s m args below meth c H locs cells slots X la F hc hs hW hl hE)
/-- less is asked than there is -/
theorem zS.le {fr' lo' bc' bs' : Nat} (h1 : bc' ≤ bc) (h2 : bs' ≤ bs) (k : zS l G y fr lo bc' bs' pc ls st M Q) : zS l G y fr lo bc bs pc ls st M Q := by
  intro p e R s m args below meth c H locs cells slots X la F hc hs hW hl hE
  exact k p e R s m args below meth c H locs cells slots X la F (by omega) (by omega) hW hl hE
theorem zEx.mono {Q' : zOut → zMem → Prop} {p : Program} {e : Env} {R : Room} {s : State} {m : MethodId} {args : Array Value} {below : List Frame} {meth : Method} {c : Code} {X : State → Prop} (h : zEx l G y fr lo Q p e R s m args below meth c X) (hq : ∀ o M', Q' o M' → Q o M') : zEx l G y fr lo Q' p e R s m args below meth c X :=
  ⟨fun v M' q => h.1 v M' (hq _ _ q), fun x M' q => h.2.1 x M' (hq _ _ q), fun x M' q => h.2.2 x M' (hq _ _ q)⟩
theorem zS.mono {Q' : zOut → zMem → Prop} (k : zS l G y fr lo bc bs pc ls st M Q') (hq : ∀ o M', Q' o M' → Q o M') : zS l G y fr lo bc bs pc ls st M Q := by
  intro p e R s m args below meth c H locs cells slots X la F hc hs hW hl hE
  exact k p e R s m args below meth c H locs cells slots X la F hc hs hW hl (hE.mono hq)
/-- the ends -/
theorem s_ireturn {v : Int32} {ty : FieldType} (hd : decode (yC y) pc = .ok (.ireturn, 1)) (hr : yR y = some ty) (hn : narrow ty (.int v) = .int v) (hq : Q (.inl (some (.int v))) M) : zS l G y fr lo bc bs pc ls [.int v] M Q := by
  intro p e R s m args below meth c H locs cells slots X la F hc hs hW hl hE
  exact hE.1 _ _ hq H locs cells slots pc la (by omega) (by omega) hW ⟨hd, ty, hr, hn⟩
theorem s_lreturn {v : Int64} (hd : decode (yC y) pc = .ok (.lreturn, 1)) (hr : yR y = some .long) (hq : Q (.inl (some (.long v))) M) : zS l G y fr lo bc bs pc ls [.long v] M Q := by
  intro p e R s m args below meth c H locs cells slots X la F hc hs hW hl hE
  exact hE.1 _ _ hq H locs cells slots pc la (by omega) (by omega) hW ⟨hd, hr⟩
theorem s_dreturn {v : UInt64} (hd : decode (yC y) pc = .ok (.dreturn, 1)) (hr : yR y = some .double) (hq : Q (.inl (some (.double v))) M) : zS l G y fr lo bc bs pc ls [.double v] M Q := by
  intro p e R s m args below meth c H locs cells slots X la F hc hs hW hl hE
  exact hE.1 _ _ hq H locs cells slots pc la (by omega) (by omega) hW ⟨hd, hr⟩
theorem s_freturn {v : UInt32} (hd : decode (yC y) pc = .ok (.freturn, 1)) (hr : yR y = some .float) (hq : Q (.inl (some (.float v))) M) : zS l G y fr lo bc bs pc ls [.float v] M Q := by
  intro p e R s m args below meth c H locs cells slots X la F hc hs hW hl hE
  exact hE.1 _ _ hq H locs cells slots pc la (by omega) (by omega) hW ⟨hd, hr⟩
theorem s_return (hd : decode (yC y) pc = .ok (.return_, 1)) (hr : yR y = none) (hq : Q (.inl none) M) : zS l G y fr lo bc bs pc ls [] M Q := by
  intro p e R s m args below meth c H locs cells slots X la F hc hs hW hl hE
  exact hE.1 _ _ hq H locs cells slots pc la (by omega) (by omega) hW ⟨hd, hr⟩
theorem s_throw {x : Nat} (ht : zthr y fr lo x pc st) (hq : Q (.inr x) (zth M)) (hb : 1 ≤ bc ∧ 6 ≤ bs) : zS l G y fr lo bc bs pc ls st M Q := by
  intro p e R s m args below meth c H locs cells slots X la F hc hs hW hl hE
  exact hE.2.2 _ _ hq H locs cells slots pc la st (by omega) (by omega) hW hl.1 ht
end ZR
end
section
/-! ===== the rules that read and write the world ===== -/
theorem zwf_lt {M : zMem} {a : Nat} (h : zwf M) (hk : zK M a ≠ 0) : a < zT M ∧ a < 1000000 := by
  rcases Nat.lt_or_ge a (zT M) with q | q
  · exact ⟨q, Nat.lt_of_lt_of_le q h.2⟩
  · exact absurd (h.1 a q) hk
theorem zad_in {G : zG} {a : Nat} (h : a < 1000000) : zad G a = gB G + a := by unfold zad; rw [if_pos h]
theorem zWd.cell {G : zG} {M : zMem} {s : State} {H : Heap} {locs : List Loc} {cells : Nat} (h : zWd G M s H locs cells) {a : Nat} (hk : zK M a ≠ 0) : (zW G M)[a]? = some (zad G a, zcl G M a) := by
  obtain ⟨h1, h2⟩ := zwf_lt h.1 hk
  rw [zad_in h2]
  exact zW_get h1
/-- the same shape, other contents of one cell -/
def zsh (M M' : zMem) : Prop := M'.2.2.2 = M.2.2.2
theorem zsh_wf {M M' : zMem} (h : zsh M M') (hw : zwf M) : zwf M' := by
  obtain ⟨a, b, c, d⟩ := M
  obtain ⟨a', b', c', d'⟩ := M'
  have : d' = d := h
  subst this
  exact hw
theorem zsh_T {M M' : zMem} (h : zsh M M') : zT M' = zT M := congrArg (fun q => q.2.2.1) h
theorem zsh_K {M M' : zMem} (h : zsh M M') (a : Nat) : zK M' a = zK M a := congrArg (fun q => q.1 a) h
theorem zsh_N {M M' : zMem} (h : zsh M M') (a : Nat) : zN M' a = zN M a := congrArg (fun q => q.2.1 a) h
theorem zsh_F {M M' : zMem} (h : zsh M M') : zF M' = zF M := congrArg (fun q => q.2.2.2) h
/-- what a cell shows depends on its own contents alone -/
theorem zcl_eq {G : zG} {M M' : zMem} {a : Nat} (h : zsh M M') (h1 : M'.1 a = M.1 a) (h2 : M'.2.1 a = M.2.1 a) (h3 : M'.2.2.1 a = M.2.2.1 a) : zcl G M' a = zcl G M a := by
  have e1 : zI M' a = zI M a := h1
  have e2 : zJ M' a = zJ M a := h2
  have e3 : zR M' a = zR M a := h3
  have e4 : ∀ ci, zfl G M' ci a = zfl G M ci a := fun ci => List.map_congr_left fun k _ => by unfold zfv; rw [e1, e2, e3]
  unfold zcl
  rw [zsh_K h, zsh_N h, e1, e2, e3, e4]
theorem zWd.put {G : zG} {M M' : zMem} {s : State} {H H1 : Heap} {locs locs1 : List Loc} {cells : Nat} (h : zWd G M s H locs cells) (hs : zsh M M') {a : Nat} {e : va_E} (ha : a < 1000000) (he : zcl G M' a = e) (ho : ∀ c, c ≠ a → M'.1 c = M.1 c ∧ M'.2.1 c = M.2.1 c ∧ M'.2.2.1 c = M.2.2.1 c)
    (hP : va_P (gD G) vwCl ((zW G M).set a (zad G a, e)) H1) (hS : va_S (zA G) s.heap H1 locs1) : zWd G M' s H1 locs1 cells := by
  obtain ⟨h1, h2, h3, h5⟩ := h
  refine ⟨zsh_wf hs h1, ?_, hS, fun q => by rw [zsh_T hs]; exact h5 (by rw [← zsh_F hs]; exact q)⟩
  rw [zad_in ha, zW_set (M' := M') (zsh_T hs) he fun c hc => zcl_eq hs (ho c hc).1 (ho c hc).2.1 (ho c hc).2.2] at hP
  exact hP
theorem zfl_len {G : zG} {M : zMem} {ci a : Nat} : (zfl G M ci a).length = znf ci := by simp [zfl]
theorem zfl_at {G : zG} {M : zMem} {ci a k : Nat} (h : k < znf ci) : (zfl G M ci a)[k]? = some (zfv G M ci a k) := by simp [zfl, h]
theorem zfl_set {G : zG} {M M' : zMem} {ci a k : Nat} {v : Value} (hv : zfv G M' ci a k = v) (ho : ∀ j, j ≠ k → zfv G M' ci a j = zfv G M ci a j) : (zfl G M ci a).set k v = zfl G M' ci a := by
  apply List.ext_getElem?
  intro j
  by_cases hj : j = k
  · subst hj
    by_cases hl : j < znf ci
    · rw [List.getElem?_set_self (by rw [zfl_len]; exact hl), zfl_at hl, hv]
    · rw [List.getElem?_eq_none (by rw [List.length_set, zfl_len]; omega), List.getElem?_eq_none (by rw [zfl_len]; omega)]
  · rw [List.getElem?_set_ne (Ne.symm hj)]
    by_cases hl : j < znf ci
    · rw [zfl_at hl, zfl_at hl, ho j hj]
    · rw [List.getElem?_eq_none (by rw [zfl_len]; omega), List.getElem?_eq_none (by rw [zfl_len]; omega)]
theorem zcl_obj {G : zG} {M : zMem} {ci a : Nat} (h : zK M a = ci + 1) (hc : ci < 10) : zcl G M a = .inr (ci, zfl G M ci a) := by
  unfold zcl; rw [h, if_pos (by omega), Nat.add_sub_cancel]
theorem zcl_I {G : zG} {M : zMem} {a : Nat} (h : zK M a = 11) : zcl G M a = .inl (gC G 0, zN M a, .inl (zI M a)) := by
  unfold zcl; rw [h]; rfl
theorem zcl_J {G : zG} {M : zMem} {a : Nat} (h : zK M a = 12) : zcl G M a = .inl (gC G 1, zN M a, .inr (.inl (zJ M a))) := by
  unfold zcl; rw [h]; rfl
theorem zcl_Z {G : zG} {M : zMem} {a : Nat} (h : zK M a = 13) : zcl G M a = .inl (gC G 2, zN M a, .inl (zI M a)) := by
  unfold zcl; rw [h]; rfl
theorem zcl_R {G : zG} {M : zMem} {a j : Nat} (h : zK M a = 14 + j) : zcl G M a = .inl (gC G (3 + j), zN M a, .inr (.inr (.inr (.inr (fun k => (zR M a k).map (zad G)))))) := by
  unfold zcl; rw [h, if_neg (by omega), if_neg (by omega), if_neg (by omega), if_neg (by omega), show 14 + j - 11 = 3 + j by omega]
/-- a class of the world: its name, its fields, how many -/
def zCl (ci : Nat) : vw_C := vwCl.getD ci (RX0, TX0, 10)
/-- the words of a field by a pool entry: class ci, field k -/
def zfw (own : String) (i ci k : Nat) : Prop :=
  ci < 10 ∧ k < znf ci ∧ (∀ w ∈ u_ws (zCl ci).1 (zCl ci).2.1 (zCl ci).2.2, w ∈ zGW) ∧ vwCl[ci]? = some (zCl ci) ∧ (zCl ci).2.2 = znf ci ∧ Cond.fieldLink own i ((zCl ci).2.1 k).1 ((zCl ci).2.1 k).2.1 ((zCl ci).2.1 k).2.2.1 ∈ zGW
/-- .. and that it may be written -/
def zpw (ci k : Nat) (ty : FieldType) (fin : Bool) : Prop :=
  (∃ ty0 : Nat → FieldType, ∀ j, j < znf ci → parseFieldDescriptor ((zCl ci).2.1 j).2.2.1 = some (ty0 j)) ∧ (∀ a, a < znf ci → ∀ b, b < znf ci → a ≠ b → ((zCl ci).2.1 a).2.1 ≠ ((zCl ci).2.1 b).2.1) ∧ ((zCl ci).2.1 k).2.2.2 = fin ∧ parseFieldDescriptor ((zCl ci).2.1 k).2.2.1 = some ty
section ZM
variable {l : Launch} {G : zG} {y : zMD} {fr lo bc bs pc : Nat} {ls : List (Option Value)} {st : List Value} {M : zMem} {Q : zOut → zMem → Prop}
theorem s_getv {i ci k a : Nat} {v : Value} (hd : decode (yC y) pc = .ok (.getfield i, 3)) (hw : zfw (yN y).cls i ci k) (hK : zK M a = ci + 1) (hv : zfv G M ci a k = zv G v)
    (kk : zS l G y fr lo bc bs (pc + 3) ls (v :: st) M Q) : zS l G y fr lo bc bs pc ls (.ref a :: st) M Q := by
  intro p e R s m args below meth c H locs cells slots X la F hc hs hW hl hE
  obtain ⟨w1, w2, w3, w4, w5, w6⟩ := hw
  have hcell := hW.cell (a := a) (by rw [hK]; omega)
  rw [zcl_obj hK w1] at hcell
  exact va_get (ref := ((zCl ci).2.1 k).1) F.1 F.2.1 F.2.2.2.2.1 w3 F.2.2.2.1 F.2.2.2.2.2.2.2.2.2.2.2.2.1 hW.2.1 a hcell w4 k (by rw [w5]; exact w2) (F.2.2.2.2.1 _ w6) (fun x h => h) (by rw [zfl_at w2, hv]) hd (kk p e R s m args below meth c H locs cells slots X la F hc hs hW hl hE)
theorem s_getI {i ci k a : Nat} (hd : decode (yC y) pc = .ok (.getfield i, 3)) (hw : zfw (yN y).cls i ci k) (ht : zfty ci k = 0) (hK : zK M a = ci + 1)
    (kk : zS l G y fr lo bc bs (pc + 3) ls (.int (zI M a k) :: st) M Q) : zS l G y fr lo bc bs pc ls (.ref a :: st) M Q :=
  s_getv hd hw hK (v := .int (zI M a k)) (by unfold zfv; rw [ht]; rfl) kk
theorem s_getJ {i ci k a : Nat} (hd : decode (yC y) pc = .ok (.getfield i, 3)) (hw : zfw (yN y).cls i ci k) (ht : zfty ci k = 1) (hK : zK M a = ci + 1)
    (kk : zS l G y fr lo bc bs (pc + 3) ls (.long (zJ M a k) :: st) M Q) : zS l G y fr lo bc bs pc ls (.ref a :: st) M Q :=
  s_getv hd hw hK (v := .long (zJ M a k)) (by unfold zfv; rw [ht]; rfl) kk
theorem s_getR {i ci k a r : Nat} (hd : decode (yC y) pc = .ok (.getfield i, 3)) (hw : zfw (yN y).cls i ci k) (ht : zfty ci k = 2) (hK : zK M a = ci + 1) (hr : zR M a k = some r)
    (kk : zS l G y fr lo bc bs (pc + 3) ls (.ref r :: st) M Q) : zS l G y fr lo bc bs pc ls (.ref a :: st) M Q :=
  s_getv hd hw hK (v := .ref r) (by unfold zfv; rw [ht, hr]; rfl) kk
theorem s_putv {i ci k a : Nat} {v : Value} {M' : zMem} {ty : FieldType} (hd : decode (yC y) pc = .ok (.putfield i, 3)) (hw : zfw (yN y).cls i ci k) (hp : zpw ci k ty false) (hK : zK M a = ci + 1) (hn : narrow ty (zv G v) = zv G v) (hf : fits ty (zv G v) = true)
    (hs : zsh M M') (hv : zfv G M' ci a k = zv G v) (ho : ∀ j, j ≠ k → zfv G M' ci a j = zfv G M ci a j) (hc : ∀ c, c ≠ a → M'.1 c = M.1 c ∧ M'.2.1 c = M.2.1 c ∧ M'.2.2.1 c = M.2.2.1 c)
    (kk : zS l G y fr lo bc bs (pc + 3) ls st M' Q) : zS l G y fr lo bc bs pc ls (v :: .ref a :: st) M Q := by
  intro p e R s m args below meth c H locs cells slots X la F hc1 hs1 hW hl hE
  obtain ⟨w1, w2, w3, w4, w5, w6⟩ := hw
  obtain ⟨⟨ty0, p1⟩, p2, p3, p4⟩ := hp
  have hne : zK M a ≠ 0 := by rw [hK]; omega
  have hcell := hW.cell hne
  rw [zcl_obj hK w1] at hcell
  refine va_put (ref := ((zCl ci).2.1 k).1) F.1 F.2.1 F.2.2.2.2.1 w3 ty0 (by rw [w5]; exact p1) (by rw [w5]; exact p2) F.2.2.2.1 F.2.2.2.2.2.2.2.2.2.2.2.2.1 hW.2.1 zW_D hW.2.2.1 a hcell w4 k (by rw [w5]; exact w2) (F.2.2.2.2.1 _ w6) (fun x h => h) p3 p4 hn hf (by rw [zfl_len]; exact w2) hd
    (fun H1 locs1 hP1 hD1 hS1 => ?_)
  rw [zfl_set (M' := M') hv ho] at hP1
  exact kk p e R s m args below meth c H1 locs1 cells slots X la F hc1 hs1 (hW.put hs (zwf_lt hW.1 hne).2 (by rw [zcl_obj (by rw [zsh_K hs]; exact hK) w1]) hc hP1 hS1) hl hE
theorem zu_same {α : Type} {f : Nat → Nat → α} {a k : Nat} {v : α} : zu f a k v a k = v := by simp [zu]
theorem zu_ne {α : Type} {f : Nat → Nat → α} {a k b : Nat} {v : α} (h : b ≠ a) : zu f a k v b = f b := by simp [zu, h]
theorem zu_nk {α : Type} {f : Nat → Nat → α} {a k j : Nat} {v : α} (h : j ≠ k) : zu f a k v a j = f a j := by simp [zu, h]
theorem zu_row {α : Type} (f : Nat → Nat → α) (a k : Nat) (v : α) : zu f a k v a = fun j => if j = k then v else f a j := by funext j; simp [zu]
theorem s_putI {i ci k a : Nat} {v : Int32} (hd : decode (yC y) pc = .ok (.putfield i, 3)) (hw : zfw (yN y).cls i ci k) (ht : zfty ci k = 0) (hp : zpw ci k .int false) (hK : zK M a = ci + 1)
    (kk : zS l G y fr lo bc bs (pc + 3) ls st (zsI M a k v) Q) : zS l G y fr lo bc bs pc ls (.int v :: .ref a :: st) M Q := by
  refine s_putv (M' := zsI M a k v) hd hw hp hK rfl rfl rfl ?_ (fun j hj => ?_) (fun c hc => ⟨zu_ne hc, rfl, rfl⟩) kk
  · unfold zfv; rw [ht]; show Value.int (zu M.1 a k v a k) = _; rw [zu_same]; rfl
  · unfold zfv
    have e : zI (zsI M a k v) a j = zI M a j := zu_nk hj
    rw [e]; rfl
theorem s_putJ {i ci k a : Nat} {v : Int64} (hd : decode (yC y) pc = .ok (.putfield i, 3)) (hw : zfw (yN y).cls i ci k) (ht : zfty ci k = 1) (hp : zpw ci k .long false) (hK : zK M a = ci + 1)
    (kk : zS l G y fr lo bc bs (pc + 3) ls st (zsJ M a k v) Q) : zS l G y fr lo bc bs pc ls (.long v :: .ref a :: st) M Q := by
  refine s_putv (M' := zsJ M a k v) hd hw hp hK rfl rfl rfl ?_ (fun j hj => ?_) (fun c hc => ⟨rfl, zu_ne hc, rfl⟩) kk
  · unfold zfv; rw [ht]; show Value.long (zu M.2.1 a k v a k) = _; rw [zu_same]; rfl
  · unfold zfv
    have e : zJ (zsJ M a k v) a j = zJ M a j := zu_nk hj
    rw [e]; rfl
/-- a final reference field, in a constructor -/
theorem s_putRF {i ci k a v : Nat} {ty : FieldType} (hd : decode (yC y) pc = .ok (.putfield i, 3)) (hw : zfw (yN y).cls i ci k) (ht : zfty ci k = 2) (hp : zpw ci k ty true) (hin : (yN y).name = "<init>") (hdc : ((zCl ci).2.1 k).1 = (yN y).cls) (hn : ∀ r, narrow ty (.ref r) = .ref r) (hf : ∀ r, fits ty (.ref r) = true) (hK : zK M a = ci + 1)
    (kk : zS l G y fr lo bc bs (pc + 3) ls st (zsR M a k (some v)) Q) : zS l G y fr lo bc bs pc ls (.ref v :: .ref a :: st) M Q := by
  intro p e R s m args below meth c H locs cells slots X la F hc1 hs1 hW hl hE
  obtain ⟨w1, w2, w3, w4, w5, w6⟩ := hw
  obtain ⟨⟨ty0, p1⟩, p2, p3, p4⟩ := hp
  have hne : zK M a ≠ 0 := by rw [hK]; omega
  have hcell := hW.cell hne
  rw [zcl_obj hK w1] at hcell
  refine va_putF (ref := ((zCl ci).2.1 k).1) F.1 F.2.1 F.2.2.2.2.1 w3 ty0 (by rw [w5]; exact p1) (by rw [w5]; exact p2) F.2.2.2.1 F.2.2.2.2.2.2.2.2.2.2.2.2.1 hW.2.1 zW_D hW.2.2.1 a hcell w4 k (by rw [w5]; exact w2) (F.2.2.2.2.1 _ w6) (fun x h => h) p3 (F.2.2.2.2.2.2.2.1.trans hin) hdc p4 (hn _) (hf _) (by rw [zfl_len]; exact w2) hd
    (fun H1 locs1 hP1 hD1 hS1 => ?_)
  have hs : zsh M (zsR M a k (some v)) := rfl
  have hv : zfv G (zsR M a k (some v)) ci a k = zv G (.ref v) := by
    unfold zfv
    have e : zR (zsR M a k (some v)) a k = some v := zu_same
    rw [ht, e]; rfl
  have ho : ∀ j, j ≠ k → zfv G (zsR M a k (some v)) ci a j = zfv G M ci a j := fun j hj => by
    unfold zfv
    have e : zR (zsR M a k (some v)) a j = zR M a j := zu_nk hj
    rw [e]; rfl
  rw [zfl_set (M' := zsR M a k (some v)) hv ho] at hP1
  exact kk p e R s m args below meth c H1 locs1 cells slots X la F hc1 hs1 (hW.put hs (zwf_lt hW.1 hne).2 (by rw [zcl_obj (by rw [zsh_K hs]; exact hK) w1]) (fun c hc => ⟨rfl, rfl, zu_ne hc⟩) hP1 hS1) hl hE
/-- rows -/
theorem s_iaload {a : Nat} {i : Int32} (hd : decode (yC y) pc = .ok (.iaload, 1)) (hK : zK M a = 11) (hi : vp_in i (zN M a))
    (kk : zS l G y fr lo bc bs (pc + 1) ls (.int (zI M a i.toNatClampNeg) :: st) M Q) : zS l G y fr lo bc bs pc ls (.int i :: .ref a :: st) M Q := by
  intro p e R s m args below meth c H locs cells slots X la F hc1 hs1 hW hl hE
  have hcell := hW.cell (a := a) (by rw [hK]; omega)
  rw [zcl_I hK] at hcell
  exact va_iald F.1 F.2.1 F.2.2.2.2.2.2.2.2.2.2.2.2.1 hW.2.1 a 0 hcell rfl hi hd (kk p e R s m args below meth c H locs cells slots X la F hc1 hs1 hW hl hE)
theorem s_laload {a : Nat} {i : Int32} (hd : decode (yC y) pc = .ok (.laload, 1)) (hK : zK M a = 12) (hi : vp_in i (zN M a))
    (kk : zS l G y fr lo bc bs (pc + 1) ls (.long (zJ M a i.toNatClampNeg) :: st) M Q) : zS l G y fr lo bc bs pc ls (.int i :: .ref a :: st) M Q := by
  intro p e R s m args below meth c H locs cells slots X la F hc1 hs1 hW hl hE
  have hcell := hW.cell (a := a) (by rw [hK]; omega)
  rw [zcl_J hK] at hcell
  exact va_lald F.1 F.2.1 F.2.2.2.2.2.2.2.2.2.2.2.2.1 hW.2.1 a 1 hcell rfl hi hd (kk p e R s m args below meth c H locs cells slots X la F hc1 hs1 hW hl hE)
theorem s_baload {a : Nat} {i : Int32} (hd : decode (yC y) pc = .ok (.baload, 1)) (hK : zK M a = 13) (hi : vp_in i (zN M a))
    (kk : zS l G y fr lo bc bs (pc + 1) ls (.int (zI M a i.toNatClampNeg) :: st) M Q) : zS l G y fr lo bc bs pc ls (.int i :: .ref a :: st) M Q := by
  intro p e R s m args below meth c H locs cells slots X la F hc1 hs1 hW hl hE
  have hcell := hW.cell (a := a) (by rw [hK]; omega)
  rw [zcl_Z hK] at hcell
  exact va_zald F.1 F.2.1 F.2.2.2.2.2.2.2.2.2.2.2.2.1 hW.2.1 a 2 hcell rfl hi hd (kk p e R s m args below meth c H locs cells slots X la F hc1 hs1 hW hl hE)
theorem zty_R {G : zG} {j : Nat} (h : j < 3) : ∃ C : String, (zty G)[3 + j]? = some (gC G (3 + j), .object C) := by
  rcases (show j = 0 ∨ j = 1 ∨ j = 2 by omega) with rfl | rfl | rfl
  · exact ⟨_, rfl⟩
  · exact ⟨_, rfl⟩
  · exact ⟨_, rfl⟩
theorem s_aaload {a j r : Nat} {i : Int32} (hd : decode (yC y) pc = .ok (.aaload, 1)) (hj : j < 3) (hK : zK M a = 14 + j) (hi : vp_in i (zN M a)) (hr : zR M a i.toNatClampNeg = some r)
    (kk : zS l G y fr lo bc bs (pc + 1) ls (.ref r :: st) M Q) : zS l G y fr lo bc bs pc ls (.int i :: .ref a :: st) M Q := by
  intro p e R s m args below meth c H locs cells slots X la F hc1 hs1 hW hl hE
  have hcell := hW.cell (a := a) (by rw [hK]; omega)
  rw [zcl_R hK] at hcell
  obtain ⟨C, hC⟩ := zty_R (G := G) hj
  refine va_aldq F.1 F.2.1 F.2.2.2.2.2.2.2.2.2.2.2.2.1 hW.2.1 a (3 + j) hcell hC hi hd ?_
  rw [hr]
  exact kk p e R s m args below meth c H locs cells slots X la F hc1 hs1 hW hl hE
theorem s_iastore {a : Nat} {i x : Int32} (hd : decode (yC y) pc = .ok (.iastore, 1)) (hK : zK M a = 11) (hi : vp_in i (zN M a))
    (kk : zS l G y fr lo bc bs (pc + 1) ls st (zsI M a i.toNatClampNeg x) Q) : zS l G y fr lo bc bs pc ls (.int x :: .int i :: .ref a :: st) M Q := by
  intro p e R s m args below meth c H locs cells slots X la F hc1 hs1 hW hl hE
  have hne : zK M a ≠ 0 := by rw [hK]; omega
  have hcell := hW.cell hne
  rw [zcl_I hK] at hcell
  refine va_iast F.1 F.2.1 F.2.2.2.2.2.2.2.2.2.2.2.2.1 hW.2.1 zW_D hW.2.2.1 a 0 hcell rfl hi hd (fun H1 locs1 hP1 hD1 hS1 => ?_)
  have e9 : zI (zsI M a i.toNatClampNeg x) a = upd (zI M a) i.toNatClampNeg x := zu_row _ _ _ _
  exact kk p e R s m args below meth c H1 locs1 cells slots X la F hc1 hs1 (hW.put rfl (zwf_lt hW.1 hne).2 (by rw [zcl_I (by exact hK), e9]; rfl) (fun c hc => ⟨zu_ne hc, rfl, rfl⟩) hP1 hS1) hl hE
theorem s_lastore {a : Nat} {i : Int32} {x : Int64} (hd : decode (yC y) pc = .ok (.lastore, 1)) (hK : zK M a = 12) (hi : vp_in i (zN M a))
    (kk : zS l G y fr lo bc bs (pc + 1) ls st (zsJ M a i.toNatClampNeg x) Q) : zS l G y fr lo bc bs pc ls (.long x :: .int i :: .ref a :: st) M Q := by
  intro p e R s m args below meth c H locs cells slots X la F hc1 hs1 hW hl hE
  have hne : zK M a ≠ 0 := by rw [hK]; omega
  have hcell := hW.cell hne
  rw [zcl_J hK] at hcell
  refine va_last F.1 F.2.1 F.2.2.2.2.2.2.2.2.2.2.2.2.1 hW.2.1 zW_D hW.2.2.1 a 1 hcell rfl hi hd (fun H1 locs1 hP1 hD1 hS1 => ?_)
  have e9 : zJ (zsJ M a i.toNatClampNeg x) a = vp_updL (zJ M a) i.toNatClampNeg x := zu_row _ _ _ _
  exact kk p e R s m args below meth c H1 locs1 cells slots X la F hc1 hs1 (hW.put rfl (zwf_lt hW.1 hne).2 (by rw [zcl_J (by exact hK), e9]; rfl) (fun c hc => ⟨rfl, zu_ne hc, rfl⟩) hP1 hS1) hl hE
theorem s_bastore {a : Nat} {i x : Int32} (hd : decode (yC y) pc = .ok (.bastore, 1)) (hK : zK M a = 13) (hi : vp_in i (zN M a)) (hx : vp_nar .boolean x = x)
    (kk : zS l G y fr lo bc bs (pc + 1) ls st (zsI M a i.toNatClampNeg x) Q) : zS l G y fr lo bc bs pc ls (.int x :: .int i :: .ref a :: st) M Q := by
  intro p e R s m args below meth c H locs cells slots X la F hc1 hs1 hW hl hE
  have hne : zK M a ≠ 0 := by rw [hK]; omega
  have hcell := hW.cell hne
  rw [zcl_Z hK] at hcell
  refine va_zast F.1 F.2.1 F.2.2.2.2.2.2.2.2.2.2.2.2.1 hW.2.1 zW_D hW.2.2.1 a 2 hcell rfl hi hd (fun H1 locs1 hP1 hD1 hS1 => ?_)
  rw [hx] at hP1
  have e9 : zI (zsI M a i.toNatClampNeg x) a = upd (zI M a) i.toNatClampNeg x := zu_row _ _ _ _
  exact kk p e R s m args below meth c H1 locs1 cells slots X la F hc1 hs1 (hW.put rfl (zwf_lt hW.1 hne).2 (by rw [zcl_Z (by exact hK), e9]; rfl) (fun c hc => ⟨zu_ne hc, rfl, rfl⟩) hP1 hS1) hl hE
theorem s_aastore {a j v ci : Nat} {i : Int32} (hd : decode (yC y) pc = .ok (.aastore, 1)) (hK : zK M a = 14 + j) (hv : zK M v = ci + 1) (hci : ci < 10) (hcl : vwCl[ci]? = some (zCl ci)) (hty : ∀ G : zG, (zty G)[3 + j]? = some (gC G (3 + j), .object (zCl ci).1)) (hi : vp_in i (zN M a))
    (kk : zS l G y fr lo bc bs (pc + 1) ls st (zsR M a i.toNatClampNeg (some v)) Q) : zS l G y fr lo bc bs pc ls (.ref v :: .int i :: .ref a :: st) M Q := by
  intro p e R s m args below meth c H locs cells slots X la F hc1 hs1 hW hl hE
  have hne : zK M a ≠ 0 := by rw [hK]; omega
  have hcell := hW.cell hne
  rw [zcl_R hK] at hcell
  have hcv := hW.cell (a := v) (by rw [hv]; omega)
  rw [zcl_obj hv hci] at hcv
  refine va_astq F.1 F.2.1 F.2.2.2.2.2.2.2.2.2.2.2.2.1 hW.2.1 zW_D hW.2.2.1 a (3 + j) v ci hcell (hty G) hcv hcl hi hd (fun H1 locs1 hP1 hD1 hS1 => ?_)
  have e9 : (fun k => (zR (zsR M a i.toNatClampNeg (some v)) a k).map (zad G)) = va_up (fun k => (zR M a k).map (zad G)) i.toNatClampNeg (some (zad G v)) := by
    funext k
    have e1 : zR (zsR M a i.toNatClampNeg (some v)) a = fun k => if k = i.toNatClampNeg then some v else zR M a k := zu_row _ _ _ _
    rw [e1]
    unfold va_up
    by_cases hk : k = i.toNatClampNeg
    · simp [hk]
    · simp [hk]
  exact kk p e R s m args below meth c H1 locs1 cells slots X la F hc1 hs1 (hW.put rfl (zwf_lt hW.1 hne).2 (by rw [zcl_R (j := j) (by exact hK), e9]; rfl) (fun c hc => ⟨rfl, rfl, zu_ne hc⟩) hP1 hS1) hl hE
theorem s_null_aastore : True := trivial
end ZM
end
section
/-! ===== making cells ===== -/
theorem zWd.low {G : zG} {M : zMem} {s : State} {H : Heap} {locs : List Loc} {cells : Nat} (h : zWd G M s H locs cells) (hb : gB G ≤ s.heap.size) : gB G + zT M ≤ H.size := by
  obtain ⟨h1, h2, h3, h4⟩ := h
  rcases Nat.eq_zero_or_pos (zT M) with q | q
  · rw [q]; exact Nat.le_trans hb h3.1
  · have h5 := (h2 (zT M - 1) _ (zW_get (by omega))).lt
    have h6 : gB G + (zT M - 1) < H.size := h5
    omega
theorem znw_wf {M : zMem} {kd n : Nat} (h : zwf M) (ht : zT M < 1000000) : zwf (znw M kd n) := by
  refine ⟨fun a ha => ?_, ht⟩
  have ha' : zT M + 1 ≤ a := ha
  show (if a = zT M then kd else zK M a) = 0
  rw [if_neg (by omega)]
  exact h.1 a (by omega)
theorem znw_cl {G : zG} {M : zMem} {kd n c : Nat} (h : c < zT M) : zcl G (znw M kd n) c = zcl G M c := by
  have hne : c ≠ zT M := by omega
  have e0 : zK (znw M kd n) c = zK M c := if_neg hne
  have e4 : zN (znw M kd n) c = zN M c := if_neg hne
  have e1 : zI (znw M kd n) c = zI M c := if_neg hne
  have e2 : zJ (znw M kd n) c = zJ M c := if_neg hne
  have e3 : zR (znw M kd n) c = zR M c := if_neg hne
  have e5 : ∀ ci, zfl G (znw M kd n) ci c = zfl G M ci c := fun ci => List.map_congr_left fun k _ => by unfold zfv; rw [e1, e2, e3]
  unfold zcl
  rw [e0, e1, e2, e3, e4, e5]
theorem zWd.push {G : zG} {M : zMem} {s : State} {H H1 : Heap} {locs : List Loc} {cells kd n : Nat} (h : zWd G M s H locs cells) (hb : gB G ≤ s.heap.size) (hf : zF M = 0) (hup : H.size ≤ s.heap.size + cells) (ht : zT M < 1000000)
    (hz : H1.size = H.size + 1) (ho : ∀ q, q < H.size → H1[q]? = H[q]?) (hc : va_at (gD G) vwCl (gB G + zT M, zcl G (znw M kd n) (zT M)) H1) : H.size = zad G (zT M) ∧ zWd G (znw M kd n) s H1 locs (cells + 1) := by
  have hlow := h.low hb
  obtain ⟨h1, h2, h3, h4⟩ := h
  have h5 := h4 hf
  refine ⟨by rw [zad_in ht]; omega, znw_wf h1 ht, ?_, ⟨by have := h3.1; omega, fun q q1 q2 => (ho q (Nat.lt_of_lt_of_le q1 h3.1)).trans (h3.2.1 q q1 q2), h3.2.2⟩, fun _ => ?_⟩
  · rw [← zW_push (G := G) (M := M) (M' := znw M kd n) (e := zcl G (znw M kd n) (zT M)) rfl rfl (fun c hc => znw_cl hc)]
    refine (h2.kept (fun k x hx => ho x.1 ((h2 k x hx).lt))).app (fun k x hx => ?_)
    have hk : k < 1 := (List.getElem?_eq_some_iff.mp hx).1
    rw [show k = 0 by omega] at hx
    cases hx
    exact hc
  · show s.heap.size + (cells + 1) ≤ gB G + (zT M + 1)
    omega
theorem znw_K {M : zMem} {kd n : Nat} : zK (znw M kd n) (zT M) = kd := if_pos rfl
theorem znw_N {M : zMem} {kd n : Nat} : zN (znw M kd n) (zT M) = n := if_pos rfl
theorem znw_I {M : zMem} {kd n k : Nat} : zI (znw M kd n) (zT M) k = 0 := by show zur M.1 (zT M) _ (zT M) k = 0; unfold zur; rw [if_pos rfl]
theorem znw_J {M : zMem} {kd n k : Nat} : zJ (znw M kd n) (zT M) k = 0 := by show zur M.2.1 (zT M) _ (zT M) k = 0; unfold zur; rw [if_pos rfl]
theorem znw_R {M : zMem} {kd n k : Nat} : zR (znw M kd n) (zT M) k = none := by show zur M.2.2.1 (zT M) _ (zT M) k = none; unfold zur; rw [if_pos rfl]
section ZN
variable {l : Launch} {G : zG} {y : zMD} {fr lo bc bs pc : Nat} {ls : List (Option Value)} {st : List Value} {M : zMem} {Q : zOut → zMem → Prop}
/-- what is needed for 'new' of class ci -/
def znk (own : String) (i ci : Nat) : Prop :=
  ci < 10 ∧ (∀ w ∈ u_ws (zCl ci).1 (zCl ci).2.1 (zCl ci).2.2, w ∈ zGW) ∧ vwCl[ci]? = some (zCl ci) ∧ (zCl ci).2.2 = znf ci ∧ Cond.classLink own i (zCl ci).1 ∈ zGW ∧ Cond.instantiable (zCl ci).1 (znf ci) ∈ zGW ∧ Cond.initialized (zCl ci).1 ∈ zGW ∧
  ∃ ty : Nat → FieldType, (∀ j, j < znf ci → parseFieldDescriptor ((zCl ci).2.1 j).2.2.1 = some (ty j)) ∧ ∀ j, j < znf ci → defaultValue (ty j) = (match zfty ci j with | 0 => .int 0 | 1 => .long 0 | _ => .null)
theorem s_new {i ci : Nat} (hd : decode (yC y) pc = .ok (.new i, 3)) (hw : znk (yN y).cls i ci) (hf : zF M = 0) (ht : zT M < 1000000)
    (kk : zS l G y fr lo bc bs (pc + 3) ls (.ref (zT M) :: st) (znw M (ci + 1) 0) Q) : zS l G y fr lo (bc + 1) (bs + znf ci) pc ls st M Q := by
  intro p e R s m args below meth c H locs cells slots X la F hc1 hs1 hW hl hE T hT XX
  have hup : H.size ≤ s.heap.size + cells := by rw [← hT]; exact XX.heapSize
  suffices hh : W p l e R s m args below meth c H locs cells slots X (F0 m pc la (List.map (zv G) st)) from hh T hT XX
  obtain ⟨w1, w3, w4, w5, w6, w7, w8, ty, p1, p2⟩ := hw
  have hK := F.2.2.2.2.2.2.2.2.2.2.2.2.1
  have hKn := hK.1 ci _ w4
  have hb : gB G ≤ s.heap.size := F.2.2.2.2.2.2.2.2.2.2.2.2.2.2.2.2.2.2.1
  refine W.newcK F.1 F.2.1 F.2.2.2.1 (F.2.2.2.2.1 _ w6) (F.2.2.2.2.1 _ w7) (F.2.2.2.2.1 _ w8) rfl hd (by omega) (by omega) hKn.2.1 rfl (fun H1 kC hkC e1 z1 o1 => ?_)
  have hat : va_at (gD G) vwCl (gB G + zT M, zcl G (znw M (ci + 1) 0) (zT M)) H1 := by
    rw [zcl_obj znw_K w1]
    refine ⟨_, w4, ?_⟩
    have e2 : gB G + zT M = H.size := by
      have := hW.low hb
      have := hW.2.2.2 hf
      omega
    show t_OB (gB G + zT M) _ _ _ H1 _
    rw [e2]
    refine (u_born ty F.2.2.2.2.1 w3 hKn hkC e1 (by rw [w5]; exact p1)).to (fun j hj => ?_)
    rw [w5] at hj
    rw [p2 j hj]
    show _ = (zfl G (znw M (ci + 1) 0) ci (zT M)).getD j .null
    rw [List.getD_eq_getElem?_getD, zfl_at hj]
    unfold zfv
    rw [znw_I, znw_J, znw_R]
    rfl
  obtain ⟨e3, hW1⟩ := hW.push hb hf hup ht z1 o1 hat
  have k2 := kk p e R s m args below meth c H1 locs (cells + 1) (slots + znf ci) X la F (by omega) (by omega) hW1 hl hE
  rw [e3]
  exact k2
theorem zrow_cls {G : zG} {s : State} {k : Nat} {cA : ClassId} {ty : FieldType} (hK : va_K (gD G) vwCl (zty G) s) (hk : (zty G)[k]? = some (gC G k, ty)) (hp : ∀ C, ty ≠ .object C) (hn : s.vm.findClass ("[" ++ ty.toString) = some cA) : cA = gC G k := by
  have h := (hK.2 k _ hk).2
  have h2 : s.vm.findClass ("[" ++ ty.toString) = some (gC G k) := by
    cases ty with
    | object C => exact absurd rfl (hp C)
    | _ => exact h
  exact Option.some.inj (hn.symm.trans h2)
theorem s_newI {n : Int32} {N : Nat} (hd : decode (yC y) pc = .ok (.newarray .int, 2)) (hw : Cond.arrayClass .int ∈ zGW) (hn : ¬ n < 0) (hN : n.toNatClampNeg = N) (hb4 : N ≤ 100000) (hf : zF M = 0) (ht : zT M < 1000000)
    (kk : zS l G y fr lo bc bs (pc + 2) ls (.ref (zT M) :: st) (znw M 11 N) Q) : zS l G y fr lo (bc + 1) (bs + N) pc ls (.int n :: st) M Q := by
  intro p e R s m args below meth c H locs cells slots X la F hc1 hs1 hW hl hE T hT XX
  have hup : H.size ≤ s.heap.size + cells := by rw [← hT]; exact XX.heapSize
  suffices hh : W p l e R s m args below meth c H locs cells slots X (F0 m pc la (List.map (zv G) (.int n :: st))) from hh T hT XX
  have hK := F.2.2.2.2.2.2.2.2.2.2.2.2.1
  have hb : gB G ≤ s.heap.size := F.2.2.2.2.2.2.2.2.2.2.2.2.2.2.2.2.2.2.1
  refine va_newaK (atype := .int) F.1 F.2.1 (F.2.2.2.2.1 _ hw) rfl hd rfl hn hN (by show N * 4 ≤ _; omega) (by omega) (by omega) rfl (fun H1 cA e1 z1 o1 hAr hNm => ?_)
  have hcA := zrow_cls hK (k := 0) rfl (fun C h => by cases h) hNm
  subst hcA
  have hat : va_at (gD G) vwCl (gB G + zT M, zcl G (znw M 11 N) (zT M)) H1 := by
    rw [zcl_I znw_K]
    have e2 : gB G + zT M = H.size := by
      have := hW.low hb
      have := hW.2.2.2 hf
      omega
    show H1[gB G + zT M]? = some (vp_cell _ _)
    rw [e2, e1, znw_N, vp_cell_i]
    congr 2
    funext k
    rw [znw_I]; rfl
  obtain ⟨e3, hW1⟩ := hW.push hb hf hup ht z1 o1 hat
  have k2 := kk p e R s m args below meth c H1 locs (cells + 1) (slots + N) X la F (by omega) (by omega) hW1 hl hE
  rw [e3]
  exact k2
theorem s_newJ {n : Int32} {N : Nat} (hd : decode (yC y) pc = .ok (.newarray .long, 2)) (hw : Cond.arrayClass .long ∈ zGW) (hn : ¬ n < 0) (hN : n.toNatClampNeg = N) (hb4 : N ≤ 100000) (hf : zF M = 0) (ht : zT M < 1000000)
    (kk : zS l G y fr lo bc bs (pc + 2) ls (.ref (zT M) :: st) (znw M 12 N) Q) : zS l G y fr lo (bc + 1) (bs + N) pc ls (.int n :: st) M Q := by
  intro p e R s m args below meth c H locs cells slots X la F hc1 hs1 hW hl hE T hT XX
  have hup : H.size ≤ s.heap.size + cells := by rw [← hT]; exact XX.heapSize
  suffices hh : W p l e R s m args below meth c H locs cells slots X (F0 m pc la (List.map (zv G) (.int n :: st))) from hh T hT XX
  have hK := F.2.2.2.2.2.2.2.2.2.2.2.2.1
  have hb : gB G ≤ s.heap.size := F.2.2.2.2.2.2.2.2.2.2.2.2.2.2.2.2.2.2.1
  refine va_newaK (atype := .long) F.1 F.2.1 (F.2.2.2.2.1 _ hw) rfl hd rfl hn hN (by show N * 8 ≤ _; omega) (by omega) (by omega) rfl (fun H1 cA e1 z1 o1 hAr hNm => ?_)
  have hcA := zrow_cls hK (k := 1) rfl (fun C h => by cases h) hNm
  subst hcA
  have hat : va_at (gD G) vwCl (gB G + zT M, zcl G (znw M 12 N) (zT M)) H1 := by
    rw [zcl_J znw_K]
    have e2 : gB G + zT M = H.size := by
      have := hW.low hb
      have := hW.2.2.2 hf
      omega
    show H1[gB G + zT M]? = some (vp_cell _ _)
    rw [e2, e1, znw_N, vp_cell_l]
    congr 2
    funext k
    rw [znw_J]; rfl
  obtain ⟨e3, hW1⟩ := hW.push hb hf hup ht z1 o1 hat
  have k2 := kk p e R s m args below meth c H1 locs (cells + 1) (slots + N) X la F (by omega) (by omega) hW1 hl hE
  rw [e3]
  exact k2
theorem s_newZ {n : Int32} {N : Nat} (hd : decode (yC y) pc = .ok (.newarray .boolean, 2)) (hw : Cond.arrayClass .boolean ∈ zGW) (hn : ¬ n < 0) (hN : n.toNatClampNeg = N) (hb4 : N ≤ 100000) (hf : zF M = 0) (ht : zT M < 1000000)
    (kk : zS l G y fr lo bc bs (pc + 2) ls (.ref (zT M) :: st) (znw M 13 N) Q) : zS l G y fr lo (bc + 1) (bs + N) pc ls (.int n :: st) M Q := by
  intro p e R s m args below meth c H locs cells slots X la F hc1 hs1 hW hl hE T hT XX
  have hup : H.size ≤ s.heap.size + cells := by rw [← hT]; exact XX.heapSize
  suffices hh : W p l e R s m args below meth c H locs cells slots X (F0 m pc la (List.map (zv G) (.int n :: st))) from hh T hT XX
  have hK := F.2.2.2.2.2.2.2.2.2.2.2.2.1
  have hb : gB G ≤ s.heap.size := F.2.2.2.2.2.2.2.2.2.2.2.2.2.2.2.2.2.2.1
  refine va_newaK (atype := .boolean) F.1 F.2.1 (F.2.2.2.2.1 _ hw) rfl hd rfl hn hN (by show N * 1 ≤ _; omega) (by omega) (by omega) rfl (fun H1 cA e1 z1 o1 hAr hNm => ?_)
  have hcA := zrow_cls hK (k := 2) rfl (fun C h => by cases h) hNm
  subst hcA
  have hat : va_at (gD G) vwCl (gB G + zT M, zcl G (znw M 13 N) (zT M)) H1 := by
    rw [zcl_Z znw_K]
    have e2 : gB G + zT M = H.size := by
      have := hW.low hb
      have := hW.2.2.2 hf
      omega
    show H1[gB G + zT M]? = some (vp_cell _ _)
    rw [e2, e1, znw_N, vp_cell_i]
    congr 2
    funext k
    rw [znw_I]; rfl
  obtain ⟨e3, hW1⟩ := hW.push hb hf hup ht z1 o1 hat
  have k2 := kk p e R s m args below meth c H1 locs (cells + 1) (slots + N) X la F (by omega) (by omega) hW1 hl hE
  rw [e3]
  exact k2
theorem s_anew {n : Int32} {N i j : Nat} {C : String} (hd : decode (yC y) pc = .ok (.anewarray i, 3)) (hw : Cond.classLink (yN y).cls i C ∈ zGW) (ho : Cond.arrayOver (.object C) ∈ zNW) (hty : ∀ G : zG, (zty G)[3 + j]? = some (gC G (3 + j), .object C)) (hn : ¬ n < 0) (hN : n.toNatClampNeg = N) (hb4 : N ≤ 100000) (hf : zF M = 0) (ht : zT M < 1000000)
    (kk : zS l G y fr lo bc bs (pc + 3) ls (.ref (zT M) :: st) (znw M (14 + j) N) Q) : zS l G y fr lo (bc + 1) (bs + N) pc ls (.int n :: st) M Q := by
  intro p e R s m args below meth c H locs cells slots X la F hc1 hs1 hW hl hE T hT XX
  have hup : H.size ≤ s.heap.size + cells := by rw [← hT]; exact XX.heapSize
  suffices hh : W p l e R s m args below meth c H locs cells slots X (F0 m pc la (List.map (zv G) (.int n :: st))) from hh T hT XX
  have hK := F.2.2.2.2.2.2.2.2.2.2.2.2.1
  have hb : gB G ≤ s.heap.size := F.2.2.2.2.2.2.2.2.2.2.2.2.2.2.2.2.2.2.1
  have hov : va_AO C s := F.2.2.2.2.2.2.2.2.2.2.2.2.2.1 _ ho
  subst hN
  refine W.anew F.1 F.2.1 F.2.2.2.1 (F.2.2.2.2.1 _ hw) (va_AO.use hov) rfl hd rfl hn (by omega) (by omega) (by omega) (fun cA kA comp f1 f2 f3 f4 => ?_)
  have hcA : cA = gC G (3 + j) := by
    obtain ⟨-, -, -, -, -, h4⟩ := (hK.2 (3 + j) _ (hty G)).2
    exact Option.some.inj (f1.symm.trans h4)
  subst hcA
  generalize hH1 : H.push ({ cls := gC G (3 + j), slots := Array.replicate n.toNatClampNeg .null, vm := .none } : Cell) = H1
  have z1 : H1.size = H.size + 1 := by rw [← hH1, Array.size_push]
  have e1 : H1[H.size]? = some (arrV (gC G (3 + j)) n.toNatClampNeg (fun _ => .null)) := by rw [← hH1, Array.getElem?_push_size, ← arrV_new]
  have o1 : ∀ q : Nat, q < H.size → H1[q]? = H[q]? := fun q hq => by rw [← hH1, Array.getElem?_push, if_neg (Nat.ne_of_lt hq)]
  have hat : va_at (gD G) vwCl (gB G + zT M, zcl G (znw M (14 + j) n.toNatClampNeg) (zT M)) H1 := by
    rw [zcl_R (j := j) znw_K]
    have e2 : gB G + zT M = H.size := by
      have := hW.low hb
      have := hW.2.2.2 hf
      omega
    show H1[gB G + zT M]? = some (vp_cell _ _)
    rw [e2, e1, znw_N, vp_cell_q]
    congr 2
    funext k
    rw [znw_R]; rfl
  obtain ⟨e3, hW1⟩ := hW.push hb hf hup ht z1 o1 hat
  have k2 := kk p e R s m args below meth c H1 locs (cells + 1) (slots + n.toNatClampNeg) X la F (by omega) (by omega) hW1 hl hE
  rw [e3]
  exact k2
/-- System.arraycopy of ints -/
theorem s_copyi {i a a0 : Nat} {sp dp n : Int32} (hd : decode (yC y) pc = .ok (.invokestatic i, 3)) (hw : Cond.methodLink (yN y).cls i arraycopyName ∈ zGW) (hnat : Cond.native arraycopyName ∈ zGW) (hstat : Cond.static arraycopyName ∈ zGW) (hini : Cond.initialized "java/lang/System" ∈ zGW)
    (hK0 : zK M a0 = 11) (hK1 : zK M a = 11) (h1 : ¬ sp < 0) (h2 : ¬ dp < 0) (h3 : ¬ n < 0) (h4 : sp.toNatClampNeg + n.toNatClampNeg ≤ zN M a0) (h5 : dp.toNatClampNeg + n.toNatClampNeg ≤ zN M a) (hfr : 1 ≤ fr) (hlo : (st.map fun v => v.category).sum + 18 ≤ lo)
    (kk : zS l G y fr lo bc bs (pc + 3) ls st (zsA M a (va_cpy (zI M a0) (zI M a) sp.toNatClampNeg dp.toNatClampNeg n.toNatClampNeg)) Q) : zS l G y fr lo bc bs pc ls (.int n :: .int dp :: .ref a :: .int sp :: .ref a0 :: st) M Q := by
  intro p e R s m args below meth c H locs cells slots X la F hc1 hs1 hW hl hE
  have hne : zK M a ≠ 0 := by rw [hK1]; omega
  have hc0 := hW.cell (a := a0) (by rw [hK0]; omega)
  rw [zcl_I hK0] at hc0
  have hcA := hW.cell hne
  rw [zcl_I hK1] at hcA
  have hcat : ((st.map (zv G)).map fun v => v.category) = st.map fun v => v.category := by rw [List.map_map]; exact List.map_congr_left fun v _ => zv_cat G v
  have hfrR := F.2.2.2.2.2.2.2.2.2.1
  have hloR := F.2.2.2.2.2.2.2.2.2.2.1
  refine va_copyi F.1 F.2.1 (F.2.2.1.trans hl.1.symm) F.2.2.2.1 (F.2.2.2.2.1 _ hw) (F.2.2.2.2.1 _ hnat) (F.2.2.2.2.1 _ hstat) (F.2.2.2.2.1 _ hini) F.2.2.2.2.2.2.2.2.2.2.2.2.1 hW.2.1 zW_D hW.2.2.1 a0 a 0 0 (ty := .int) hc0 hcA rfl rfl rfl h1 h2 h3 h4 h5 (fun _ _ => rfl) (by omega) (by
    rw [hcat]
    have : nativeFrameWords "java/lang/System" "arraycopy" 5 = 7 := by decide
    omega) hd (fun H1 locs1 hP1 hD1 hS1 => ?_)
  have e9 : zI (zsA M a (va_cpy (zI M a0) (zI M a) sp.toNatClampNeg dp.toNatClampNeg n.toNatClampNeg)) a = va_cpy (zI M a0) (zI M a) sp.toNatClampNeg dp.toNatClampNeg n.toNatClampNeg := if_pos rfl
  exact kk p e R s m args below meth c H1 locs1 cells slots X la F hc1 hs1 (hW.put rfl (zwf_lt hW.1 hne).2 (by rw [zcl_I (by exact hK1), e9]; rfl) (fun c hc => ⟨if_neg hc, rfl, rfl⟩) hP1 hS1) hl hE
/-- a literal -/
theorem s_ldcS {i k : Nat} {tx : String} (hd : decode (yC y) pc = .ok (.ldc i, 2)) (hw : ((yN y).cls, i, tx, k) ∈ zLR) (hk : k < 6)
    (kk : zS l G y fr lo bc bs (pc + 2) ls (.ref (1000000 + k) :: st) M Q) : zS l G y fr lo bc bs pc ls st M Q := by
  intro p e R s m args below meth c H locs cells slots X la F hc1 hs1 hW hl hE
  refine va_ldcS F.1 F.2.1 F.2.2.2.1 (F.2.2.2.2.2.2.2.2.2.2.2.2.2.2.1 _ hw) hd ?_
  have e9 : gS G k = zad G (1000000 + k) := by
    unfold zad
    rw [if_neg (by omega), if_pos (by omega), Nat.add_sub_cancel_left]
  rw [e9]
  exact kk p e R s m args below meth c H locs cells slots X la F hc1 hs1 hW hl hE
/-- Object's own constructor -/
theorem s_objInit {i a : Nat} (hd : decode (yC y) pc = .ok (.invokespecial i, 3)) (hw : Cond.methodLink (yN y).cls i Lib.objectInit ∈ zGW) (hin : Cond.instanceMethod Lib.objectInit ∈ zGW) (hcd : Cond.code Lib.objectInit ⟨#[0xb1]⟩ 1 none ∈ zGW) (hfr : 1 ≤ fr) (hlo : (st.map fun v => v.category).sum + 12 ≤ lo)
    (kk : zS l G y fr lo bc bs (pc + 3) ls st M Q) : zS l G y fr lo bc bs pc ls (.ref a :: st) M Q := by
  intro p e R s m args below meth c H locs cells slots X la F hc1 hs1 hW hl hE
  have hcat : ((st.map (zv G)).map fun v => v.category) = st.map fun v => v.category := by rw [List.map_map]; exact List.map_congr_left fun v _ => zv_cat G v
  have hfrR := F.2.2.2.2.2.2.2.2.2.1
  have hloR := F.2.2.2.2.2.2.2.2.2.2.1
  exact W.objInit F.1 F.2.1 F.2.2.2.1 (F.2.2.2.2.1 _ hw) (F.2.2.2.2.1 _ hin) (F.2.2.2.2.1 _ hcd) rfl (hl.1.trans F.2.2.1.symm) rfl hd (by omega) (by show 2 * 0 + _ + 12 ≤ _; rw [hcat]; omega) (kk p e R s m args below meth c H locs cells slots X la F hc1 hs1 hW hl hE)
end ZN
end
section
/-! ===== contracts ===== -/
/-- a method's words: its code, and the good words of the tables -/
def zws (y : zMD) : List Cond := Cond.code (yN y) (yC y) (yL y) (yR y) :: zGW
def zwsH (y : zMD) : List Cond := Cond.codeWith (yN y) (yC y) (yL y) (yR y) (yH y) :: zGW
def zrm (fr lo mc ms : Nat) : Room := { frames := fr, cells := mc, slots := ms, locals := lo }
/-- a method's start: its arguments, the world -/
def zPc (G : zG) (as : List Value) (M : zMem) : Array Value → State → Prop := fun v U => v = (as.map (zv G)).toArray ∧ zCx G U U.heap ∧ zwf M ∧ va_P (gD G) vwCl (zW G M) U.heap ∧ (zF M = 0 → U.heap.size ≤ gB G + zT M)
/-- its end by a return -/
def zQr (G : zG) (M : zMem) (mc : Nat) (Q : zOut → zMem → Prop) : Array Value → State → Outcome → State → Prop := fun _ st oc t =>
  (∃ (v : Option Value) (M' : zMem), oc = .returned (v.map (zv G)) ∧ Q (.inl v) M' ∧ zwf M' ∧ va_P (gD G) vwCl (zW G M') t.heap ∧ (zF M' = 0 → zF M = 0 ∧ zT M + mc ≤ zT M')) ∧ va_F (zA G) st t
/-- .. by a throw -/
def zXc (G : zG) (Q : zOut → zMem → Prop) : String → State → State → Prop := fun E st t =>
  (∃ (x : Nat) (M' : zMem), E = zXn x ∧ Q (.inr x) M' ∧ zwf M' ∧ va_P (gD G) vwCl (zW G M') t.heap ∧ zF M' ≠ 0) ∧ va_F (zA G) st t
/-- a contract of a method that returns -/
def zCm (l : Launch) (G : zG) (y : zMD) (fr lo mc ms : Nat) (as : List Value) (M : zMem) (Q : zOut → zMem → Prop) : Prop :=
  Met l (yN y) (zws y) (zrm fr lo mc ms) (zPc G as M) (zQr G M mc Q) mc ms (zA G)
/-- .. that has a table of handlers -/
def zCh (l : Launch) (G : zG) (y : zMD) (fr lo mc ms : Nat) (as : List Value) (M : zMem) (Q : zOut → zMem → Prop) : Prop :=
  Met l (yN y) (zwsH y) (zrm fr lo mc ms) (zPc G as M) (zQr G M mc Q) mc ms (zA G)
/-- .. of a method that returns or throws -/
def zCx2 (l : Launch) (G : zG) (y : zMD) (fr lo mc ms : Nat) (as : List Value) (M : zMem) (Q : zOut → zMem → Prop) : Prop :=
  vx_Met l (yN y) (zws y) (zrm fr lo mc ms) (zPc G as M) (zQr G M mc Q) (zXc G Q) mc ms (zA G)
theorem zPc_blind {G : zG} {as : List Value} {M : zMem} : FrameBlind (zPc G as M) := by
  intro a U g mk h
  obtain ⟨h1, h2, h3, h4, h5⟩ := h
  exact ⟨h1, h2.same rfl, h3, h4, h5⟩
theorem zGW_good : ∀ w ∈ zGW, w ∈ zGW ∧ ((w.onTables && w.keeps) = true ∨ ∃ ty, w = .arrayClass ty) := fun w h => ⟨h, (zGW_in h).2⟩
/-- the locals at a method's entry -/
def zea : List Value → List (Option Value)
  | [] => []
  | .long x :: t => some (.long x) :: none :: zea t
  | .double x :: t => some (.double x) :: none :: zea t
  | v :: t => some v :: zea t
def zen (n : Nat) (as : List Value) : List (Option Value) := zea as ++ List.replicate (n - (zea as).length) none
theorem zea_args (G : zG) : ∀ (as : List Value) (i : Nat), lv_args i (as.map (zv G)) = zlc i ((zea as).map (Option.map (zv G)))
  | [], i => rfl
  | .long x :: t, i => by
    show (i, _) :: lv_args (i + 2) _ = (i, _) :: zlc (i + 1 + 1) _
    rw [zea_args G t (i + 2)]
  | .double x :: t, i => by
    show (i, _) :: lv_args (i + 2) _ = (i, _) :: zlc (i + 1 + 1) _
    rw [zea_args G t (i + 2)]
  | .int x :: t, i => by
    show (i, _) :: lv_args (i + 1) _ = (i, _) :: zlc (i + 1) _
    rw [zea_args G t (i + 1)]
  | .float x :: t, i => by
    show (i, _) :: lv_args (i + 1) _ = (i, _) :: zlc (i + 1) _
    rw [zea_args G t (i + 1)]
  | .ref x :: t, i => by
    show (i, _) :: lv_args (i + 1) _ = (i, _) :: zlc (i + 1) _
    rw [zea_args G t (i + 1)]
  | .null :: t, i => by
    show (i, _) :: lv_args (i + 1) _ = (i, _) :: zlc (i + 1) _
    rw [zea_args G t (i + 1)]
  | .retAddr x :: t, i => by
    show (i, _) :: lv_args (i + 1) _ = (i, _) :: zlc (i + 1) _
    rw [zea_args G t (i + 1)]
theorem zlc_app (a : List (Option Value)) : ∀ (i n : Nat), zlc i (a ++ List.replicate n none) = zlc i a := by
  induction a with
  | nil =>
    intro i n
    induction n generalizing i with
    | zero => rfl
    | succ n ih => rw [List.nil_append, List.replicate_succ, zlc]; exact ih (i + 1)
  | cons x t ih =>
    intro i n
    cases x with
    | none => rw [List.cons_append, zlc, zlc]; exact ih (i + 1) n
    | some v => rw [List.cons_append, zlc, zlc, ih (i + 1) n]
theorem zll_en (G : zG) (n : Nat) (as : List Value) : zll G (zen n as) = lv_args 0 (as.map (zv G)) := by
  rw [zea_args]
  unfold zll zen
  rw [List.map_append, List.map_replicate]
  exact zlc_app _ _ _
theorem zsl_len (G : zG) : ∀ as : List Value, (lg_sl (as.map (zv G))).length = (zea as).length
  | [] => rfl
  | .long x :: t => by show (_ ++ lg_sl (t.map (zv G))).length = _; rw [List.length_append, zsl_len G t]; show 2 + _ = _ + 1 + 1; omega
  | .double x :: t => by show (_ ++ lg_sl (t.map (zv G))).length = _; rw [List.length_append, zsl_len G t]; show 2 + _ = _ + 1 + 1; omega
  | .int x :: t => by show (_ ++ lg_sl (t.map (zv G))).length = _; rw [List.length_append, zsl_len G t]; show 1 + _ = _ + 1; omega
  | .float x :: t => by show (_ ++ lg_sl (t.map (zv G))).length = _; rw [List.length_append, zsl_len G t]; show 1 + _ = _ + 1; omega
  | .ref x :: t => by show (_ ++ lg_sl (t.map (zv G))).length = _; rw [List.length_append, zsl_len G t]; show 1 + _ = _ + 1; omega
  | .null :: t => by show (_ ++ lg_sl (t.map (zv G))).length = _; rw [List.length_append, zsl_len G t]; show 1 + _ = _ + 1; omega
  | .retAddr x :: t => by show (_ ++ lg_sl (t.map (zv G))).length = _; rw [List.length_append, zsl_len G t]; show 1 + _ = _ + 1; omega
/-- the names of the exceptions' classes above, behind a throw -/
def zXs : List String := ["java/lang/RuntimeException", "java/lang/Exception"]
/-- all words of a throw stand in the tables -/
def zXw (y : zMD) : Prop := ∀ (x ic : Nat), x < 3 → Cond.methodLink (yN y).cls ic ⟨zXn x, "<init>", "()V"⟩ ∈ zGW → Cond.initialized (zXn x) ∈ zGW ∧ ∀ w ∈ vx_at0 (yN y).cls ic (zXn x) zXs, w ∈ zGW ∨ (w ∈ zNW ∧ w.onTables = true)
section ZC
variable {l : Launch} {G : zG} {y : zMD} {fr lo mc ms : Nat} {as : List Value} {M : zMem} {Q : zOut → zMem → Prop} {ls0 : List (Option Value)}
theorem zret_row {p : Program} {e : Env} {R : Room} {s : State} {m : MethodId} {args : Array Value} {below : List Frame} {meth : Method} {c : Code} {H : Heap} {locs : List Loc} {pc : Nat} {la : Array Slot} {v : Option Value} {M' : zMem}
    (F : zFix l G y fr lo p R s m args meth c) (hM : ∀ v M', Q (.inl v) M' → zF M' = 0 → zF M = 0 ∧ zT M + mc ≤ zT M') (hq : Q (.inl v) M') (hW : zWd G M' s H locs mc) (hz : zrets y pc v) :
    W p l e R s m args below meth c H locs mc ms (MQ below (zQr G M mc Q) args s mc ms (zA G)) (F0 m pc la (v.toList.map (zv G))) := by
  have hq0 : ∀ t : State, t.heap = H → zQr G M mc Q args s (.returned (v.map (zv G))) t := fun t ht => ⟨⟨v, M', rfl, hq, hW.1, by rw [ht]; exact hW.2.1, hM v M' hq⟩, hW.2.2.1.F ht⟩
  have hlocks := F.2.2.2.2.2.1
  have hr := F.2.2.2.2.2.2.1
  cases v with
  | none => exact W.vret F.1 F.2.1 (hr.trans hz.2) (fun t ht _ => hq0 t ht) (fun q h => hW.2.2.1.2.2 q h) hz.1 hlocks
  | some v =>
    cases v with
    | int x =>
      obtain ⟨h1, ty, h2, h3⟩ := hz
      exact W.zret F.1 F.2.1 (hr.trans h2) h3 (fun t ht _ => hq0 t ht) (fun q h => hW.2.2.1.2.2 q h) h1 hlocks
    | long x => exact W.lret F.1 F.2.1 (hr.trans hz.2) (fun t ht _ => hq0 t ht) (fun q h => hW.2.2.1.2.2 q h) hz.1 hlocks
    | float x => exact W.fret F.1 F.2.1 (hr.trans hz.2) (fun t ht _ => hq0 t ht) (fun q h => hW.2.2.1.2.2 q h) hz.1 hlocks
    | double x => exact W.dret F.1 F.2.1 (hr.trans hz.2) (fun t ht _ => hq0 t ht) (fun q h => hW.2.2.1.2.2 q h) hz.1 hlocks
    | null => exact hz.elim
    | ref x => exact hz.elim
    | retAddr x => exact hz.elim
theorem zWd.widen {s : State} {H : Heap} {locs : List Loc} {cells cells' : Nat} {M' : zMem} (h : zWd G M' s H locs cells) (h2 : zF M' = 0 → s.heap.size + cells' ≤ gB G + zT M') : zWd G M' s H locs cells' := ⟨h.1, h.2.1, h.2.2.1, h2⟩
theorem zWd.th {s : State} {H : Heap} {locs : List Loc} {cells cells' : Nat} {M' : zMem} (h : zWd G M' s H locs cells) : zWd G (zth M') s H locs cells' := ⟨h.1, h.2.1, h.2.2.1, fun h => by cases h⟩
/-- the contract out of the walk from the entry: a method without handlers, that returns or throws -/
theorem zCx2.of (hpn : plainName (yN y).cls = true) (hH : yH y = []) (hl : l.stackTraces = false) (hen : zen (yL y) as = ls0) (hle : (zea as).length ≤ yL y) (hX : (∃ x M', Q (.inr x) M') → zXw y)
    (hM : ∀ v M', Q (.inl v) M' → zF M' = 0 → zF M = 0 ∧ zT M + mc ≤ zT M') (hMx : ∀ x M', Q (.inr x) M' → zF M' ≠ 0)
    (h : zS l G y fr lo mc ms 0 ls0 [] M Q) : zCx2 l G y fr lo mc ms as M Q := by
  refine vx_ofW (cc := yC y) (maxL := yL y) (ret := yR y) hpn rfl ?_
  intro p e s m args below meth c s₁ B hml ht hv
  obtain ⟨rfl, hC, hwf, hP, hcnt⟩ := hv
  have hts0 := atoms_spec (ws := zws y) B.pre
  have hts : ∀ w ∈ zGW, w.before ((as.map (zv G)).toArray) s = true := fun w hw => hts0 w (List.mem_cons_of_mem _ hw)
  have htab : c.exceptionTable.toList = tableOf (yH y) := by
    rw [hH]
    cases hc : c.exceptionTable.toList with
    | nil => rfl
    | cons x t => exact (ht x (by rw [hc]; exact List.mem_cons_self)).elim
  have F : zFix l G y fr lo p (headSpec (zws y) (zrm fr lo mc ms)).room s m ((as.map (zv G)).toArray) meth c :=
    ⟨B.exec, B.bytes, hml, findClass_of_methodNamed B.named, hts, B.notSynchronized, B.returns, (name_of_methodNamed B.named B.method).1, hl, Nat.le_refl fr, Nat.le_refl lo, htab, hC⟩
  rw [lg_entry_eq]
  have hlv := lv_entry (as.map (zv G)) (n := yL y) (by rw [zsl_len]; exact hle)
  generalize (lg_sl (as.map (zv G)) ++ List.replicate (yL y - (lg_sl (as.map (zv G))).length) Slot.unset).toArray = la at hlv ⊢
  have hl0 : lv_has la (yL y) (zll G ls0) := by rw [← hen, zll_en]; exact hlv
  refine h p e _ s m _ below meth c s.heap [] 0 0 _ la F (Nat.le_of_eq (Nat.zero_add mc)) (Nat.le_of_eq (Nat.zero_add ms)) ⟨hwf, hP, va_S.rf, fun hz => by rw [Nat.add_zero]; exact hcnt hz⟩ hl0 ⟨?_, ?_, ?_⟩
  · intro v M' hq H locs cells slots pc la hc hs hW hz
    refine W.widen (k := mc) (n := ms) hc hs (vx_ret ?_)
    refine zret_row F hM hq (hW.widen fun h0 => ?_) hz
    have h1 := hM v M' hq h0
    have h2 := hcnt h1.1
    omega
  · intro x M' hq H locs cells slots pc la st q ce hc hs hW hce hcv hcl hH'
    refine vx_out (fun z hz => (ht z hz).elim) F.2.2.2.2.2.1 hce hcv hcl (fun t ht hA => ⟨⟨x, M', rfl, hq, hW.1, by rw [ht]; exact hW.2.1, hMx x M' hq⟩, hW.2.2.1.F ht⟩) (fun z hz => hW.2.2.1.2.2 z hz) hc hs
  · intro x M' hq H locs cells slots pc la st hc hs hW hla hth
    obtain ⟨ik, ic, d0, d3, d4, d7, w1, w2, -, r1, r2, hx3⟩ := hth
    have hfit : Bundle.fit (zXn x) = true := by
      rcases (show x = 0 ∨ x = 1 ∨ x = 2 by omega) with rfl | rfl | rfl <;> decide
    have hcat : ((st.map (zv G)).map fun v => v.category) = st.map fun v => v.category := by rw [List.map_map]; exact List.map_congr_left fun v _ => zv_cat G v
    have hwd : ∀ w ∈ vx_at0 (yN y).cls ic (zXn x) zXs, w.before ((as.map (zv G)).toArray) s = true := fun w hw => by
      rcases (hX ⟨x, _, hq⟩ x ic hx3 w2).2 w hw with h | ⟨h, -⟩
      · exact hts w h
      · have hk := (List.mem_filter.mp h).2
        have hn := hC.2.1 w h
        cases w with
        | methodLinkNest _ _ _ _ => exact va_Nw.use rfl hn
        | castable _ _ => exact va_Nw.use rfl hn
        | arrayOver ty =>
          cases ty with
          | object C => exact va_AO.use hn
          | _ => cases hk
        | _ => cases hk
    have hot : ∀ w : Cond, w ∈ zGW ∨ (w ∈ zNW ∧ w.onTables = true) → vx_ot w = true := fun w hw => by
      rcases hw with h | ⟨-, h⟩
      · unfold vx_ot
        rw [(List.mem_filter.mp h).2, Bool.or_true]
      · unfold vx_ot
        rw [h, Bool.true_or]
    have hini := (hX ⟨x, _, hq⟩ x ic hx3 w2).1
    refine vx_throw0 (A := zA G) (names := zXs) (cls := zXn x) F.1 F.2.1 hl F.2.2.2.1 hfit (by decide) (hts _ w1) (hts _ hini) hwd (fun w hw => ?_) hC.2.2.2.2.2.2.2.1 hC.2.2.2.2.2.2.2.2.1 hW.2.2.1 (hla.trans F.2.2.1.symm) d0 d3 d4 d7 (fun z hz => (ht z hz).elim) (by show 2 + 3 < fr; omega) (by show _ + (13 * 3 + 42) ≤ lo; rw [hcat]; omega) hc hs F.2.2.2.2.2.1
      (fun t hA hz hsame => ⟨⟨x, _, rfl, hq, hW.1, hW.2.1.kept (fun k q hk => hsame q.1 ((hW.2.1 k q hk).lt)), fun h => by cases h⟩, ⟨Nat.le_trans hW.2.2.1.1 hz, fun q q1 q2 => (hsame q (Nat.lt_of_lt_of_le q1 hW.2.2.1.1)).trans (hW.2.2.1.2.1 q q1 q2)⟩⟩) (fun z hz => hW.2.2.1.2.2 z hz) hc hs
    rcases List.mem_cons.mp hw with rfl | hw
    · exact hot _ (Or.inl w1)
    · rcases List.mem_cons.mp hw with rfl | hw
      · exact hot _ (Or.inl hini)
      · exact hot _ ((hX ⟨x, _, hq⟩ x ic hx3 w2).2 w hw)
/-- a contract that throws nothing is one that returns -/
theorem zCm.of2 (h : zCx2 l G y fr lo mc ms as M Q) (hn : ∀ x M', ¬ Q (.inr x) M') : zCm l G y fr lo mc ms as M Q := by
  unfold zCm Met
  unfold zCx2 vx_Met at h
  refine h.mono (fun _ _ h => h) (fun _ _ _ _ _ h => h) (fun a s o t _ hq => ?_)
  rcases hq with hq | ⟨q, -, E, ce, L, ⟨⟨x, M', -, h2, -⟩, -⟩, -⟩
  · exact hq
  · exact absurd h2 (hn x M')
theorem zCm.of (hpn : plainName (yN y).cls = true) (hH : yH y = []) (hl : l.stackTraces = false) (hen : zen (yL y) as = ls0) (hle : (zea as).length ≤ yL y)
    (hM : ∀ v M', Q (.inl v) M' → zF M' = 0 → zF M = 0 ∧ zT M + mc ≤ zT M') (hn : ∀ x M', ¬ Q (.inr x) M')
    (h : zS l G y fr lo mc ms 0 ls0 [] M Q) : zCm l G y fr lo mc ms as M Q :=
  zCm.of2 (zCx2.of hpn hH hl hen hle (fun ⟨x, M', q⟩ => absurd q (hn x M')) hM (fun x M' q => absurd q (hn x M')) h) hn
theorem zCh.of (hpn : plainName (yN y).cls = true) (hl : l.stackTraces = false) (hen : zen (yL y) as = ls0) (hle : (zea as).length ≤ yL y)
    (hM : ∀ v M', Q (.inl v) M' → zF M' = 0 → zF M = 0 ∧ zT M + mc ≤ zT M') (hn : ∀ x M', ¬ Q (.inr x) M')
    (h : zS l G y fr lo mc ms 0 ls0 [] M Q) : zCh l G y fr lo mc ms as M Q := by
  have key : vx_Met l (yN y) (zwsH y) (zrm fr lo mc ms) (zPc G as M) (zQr G M mc Q) (fun _ _ _ => False) mc ms (zA G) := by
    refine vx_ofWH (cc := yC y) (maxL := yL y) (ret := yR y) (hh := yH y) hpn rfl ?_
    intro p e s m args below meth c s₁ B hml hv
    obtain ⟨rfl, hC, hwf, hP, hcnt⟩ := hv
    have hts0 := atoms_spec (ws := zwsH y) B.pre
    have hts : ∀ w ∈ zGW, w.before ((as.map (zv G)).toArray) s = true := fun w hw => hts0 w (List.mem_cons_of_mem _ hw)
    have htab : c.exceptionTable.toList = tableOf (yH y) := vx_table (x := yN y) B (hts0 _ List.mem_cons_self)
    have F : zFix l G y fr lo p (headSpec (zwsH y) (zrm fr lo mc ms)).room s m ((as.map (zv G)).toArray) meth c :=
      ⟨B.exec, B.bytes, hml, findClass_of_methodNamed B.named, hts, B.notSynchronized, B.returns, (name_of_methodNamed B.named B.method).1, hl, Nat.le_refl fr, Nat.le_refl lo, htab, hC⟩
    rw [lg_entry_eq]
    have hlv := lv_entry (as.map (zv G)) (n := yL y) (by rw [zsl_len]; exact hle)
    generalize (lg_sl (as.map (zv G)) ++ List.replicate (yL y - (lg_sl (as.map (zv G))).length) Slot.unset).toArray = la at hlv ⊢
    have hl0 : lv_has la (yL y) (zll G ls0) := by rw [← hen, zll_en]; exact hlv
    refine h p e _ s m _ below meth c s.heap [] 0 0 _ la F (Nat.le_of_eq (Nat.zero_add mc)) (Nat.le_of_eq (Nat.zero_add ms)) ⟨hwf, hP, va_S.rf, fun hz => by rw [Nat.add_zero]; exact hcnt hz⟩ hl0 ⟨?_, fun x M' q => absurd q (hn x M'), fun x M' q => absurd q (hn x _)⟩
    intro v M' hq H locs cells slots pc la hc hs hW hz
    refine W.widen (k := mc) (n := ms) hc hs (vx_ret ?_)
    refine zret_row F hM hq (hW.widen fun h0 => ?_) hz
    have h1 := hM v M' hq h0
    have h2 := hcnt h1.1
    omega
  unfold zCh Met
  unfold vx_Met at key
  refine key.mono (fun _ _ h => h) (fun _ _ _ _ _ h => h) (fun a s o t _ hq => ?_)
  rcases hq with hq | ⟨q, -, E, ce, L, hx, -⟩
  · exact hq
  · exact hx.elim
end ZC
end
section
/-! ===== calls ===== -/
/-- a deterministic end -/
def zD (v : Option Value) (M1 : zMem) : zOut → zMem → Prop := fun o M' => o = .inl v ∧ M' = M1
/-- the words of a call: a method of a class of the world, by pool entry i, with n arguments -/
def zcv (own : String) (i : Nat) (z : zMD) (n : Nat) : Prop :=
  Cond.methodLink own i (yN z) ∈ zGW ∧ Cond.instanceMethod (yN z) ∈ zGW ∧ Cond.selects (yN z).cls (yN z) (yN z) ∈ zGW ∧ Cond.initialized (yN z).cls ∈ zGW ∧ Cond.code (yN z) (yC z) (yL z) (yR z) ∈ zGW ∧
  ((yN z).cls ≠ "java/lang/invoke/MethodHandle" ∧ (yN z).cls ≠ "java/lang/invoke/VarHandle" ∧ (parseMethodDescriptor (yN z).desc).map (fun d => d.parameters.length) = some n)
def zcs (own : String) (i : Nat) (z : zMD) (n : Nat) : Prop :=
  Cond.methodLink own i (yN z) ∈ zGW ∧ Cond.static (yN z) ∈ zGW ∧ Cond.initialized (yN z).cls ∈ zGW ∧ Cond.code (yN z) (yC z) (yL z) (yR z) ∈ zGW ∧
  ((yN z).cls ≠ "java/lang/invoke/MethodHandle" ∧ (yN z).cls ≠ "java/lang/invoke/VarHandle" ∧ (parseMethodDescriptor (yN z).desc).map (fun d => d.parameters.length) = some n)
def zcsH (own : String) (i : Nat) (z : zMD) (n : Nat) : Prop :=
  Cond.methodLink own i (yN z) ∈ zGW ∧ Cond.static (yN z) ∈ zGW ∧ Cond.initialized (yN z).cls ∈ zGW ∧ Cond.codeWith (yN z) (yC z) (yL z) (yR z) (yH z) ∈ zGW ∧
  ((yN z).cls ≠ "java/lang/invoke/MethodHandle" ∧ (yN z).cls ≠ "java/lang/invoke/VarHandle" ∧ (parseMethodDescriptor (yN z).desc).map (fun d => d.parameters.length) = some n)
/-- .. of a nest mate's private method -/
def zcsN (own : String) (i : Nat) (z : zMD) (host : String) (n : Nat) : Prop :=
  Cond.methodLinkNest own i (yN z) host ∈ zNW ∧ Cond.static (yN z) ∈ zGW ∧ Cond.initialized (yN z).cls ∈ zGW ∧ Cond.code (yN z) (yC z) (yL z) (yR z) ∈ zGW ∧
  ((yN z).cls ≠ "java/lang/invoke/MethodHandle" ∧ (yN z).cls ≠ "java/lang/invoke/VarHandle" ∧ (parseMethodDescriptor (yN z).desc).map (fun d => d.parameters.length) = some n)
def zci (own : String) (i : Nat) (z : zMD) (n : Nat) : Prop :=
  Cond.methodLink own i (yN z) ∈ zGW ∧ Cond.instanceMethod (yN z) ∈ zGW ∧ Cond.initialized (yN z).cls ∈ zGW ∧ Cond.code (yN z) (yC z) (yL z) none ∈ zGW ∧ yR z = none ∧ (yN z).name = "<init>" ∧
  ((yN z).cls ≠ "java/lang/invoke/MethodHandle" ∧ (yN z).cls ≠ "java/lang/invoke/VarHandle" ∧ (parseMethodDescriptor (yN z).desc).map (fun d => d.parameters.length) = some n)
def zciN (own : String) (i : Nat) (z : zMD) (host : String) (n : Nat) : Prop :=
  Cond.methodLinkNest own i (yN z) host ∈ zNW ∧ Cond.instanceMethod (yN z) ∈ zGW ∧ Cond.initialized (yN z).cls ∈ zGW ∧ Cond.code (yN z) (yC z) (yL z) none ∈ zGW ∧ yR z = none ∧ (yN z).name = "<init>" ∧
  ((yN z).cls ≠ "java/lang/invoke/MethodHandle" ∧ (yN z).cls ≠ "java/lang/invoke/VarHandle" ∧ (parseMethodDescriptor (yN z).desc).map (fun d => d.parameters.length) = some n)
theorem zws_in {z : zMD} (h : Cond.code (yN z) (yC z) (yL z) (yR z) ∈ zGW) : GoodIn zGW (zws z) := by
  intro w hw
  rcases List.mem_cons.mp hw with rfl | hw
  · exact zGW_good _ h
  · exact zGW_good _ hw
theorem zwsH_in {z : zMD} (h : Cond.codeWith (yN z) (yC z) (yL z) (yR z) (yH z) ∈ zGW) : GoodIn zGW (zwsH z) := by
  intro w hw
  rcases List.mem_cons.mp hw with rfl | hw
  · exact zGW_good _ h
  · exact zGW_good _ hw
section ZL
variable {l : Launch} {G : zG} {y z : zMD} {fr lo fr1 lo1 mc ms bc bs pc i n : Nat} {ls : List (Option Value)} {st : List Value} {as : List Value} {M : zMem} {Q Q1 : zOut → zMem → Prop}
theorem zcat {G : zG} {st : List Value} : ((st.map (zv G)).map fun v => v.category) = st.map fun v => v.category := by rw [List.map_map]; exact List.map_congr_left fun v _ => zv_cat G v
/-- what the callee finds -/
theorem zPc_in {p : Program} {R : Room} {s : State} {m : MethodId} {args : Array Value} {meth : Method} {c : Code} {H : Heap} {locs : List Loc} {cells : Nat}
    (F : zFix l G y fr lo p R s m args meth c) (hW : zWd G M s H locs cells) (hup : H.size ≤ s.heap.size + cells) (U : State) (hU : U.heap = H) (hWm : s.WarmedH U.vm) : zPc G as M (as.map (zv G)).toArray U := by
  have hC : zCx G s H := F.2.2.2.2.2.2.2.2.2.2.2.2.kept hW.2.2.1.1 hW.2.2.1.2.1
  subst hU
  refine ⟨rfl, hC.warm hWm, hW.1, hW.2.1, fun h0 => ?_⟩
  have := hW.2.2.2 h0
  omega
/-- behind a call that returned -/
theorem z_go {p : Program} {e : Env} {R : Room} {s : State} {m : MethodId} {args a : Array Value} {below : List Frame} {meth : Method} {c : Code} {H : Heap} {locs : List Loc} {cells slots : Nat} {X : State → Prop} {la : Array Slot} {st0 : List Value}
    (F : zFix l G y fr lo p R s m args meth c) (hW : zWd G M s H locs cells) (hc : cells + (mc + bc) ≤ R.cells) (hs : slots + (ms + bs) ≤ R.slots) (hl : lv_has la (yL y) (zll G ls)) (hE : zEx l G y fr lo Q p e R s m args below meth c X)
    (hr : va_Run p l e R s m args below meth c H locs cells slots mc ms (F0 m pc la st0) (st.map (zv G)) (zQr G M mc Q1 a) (zA G))
    (kk : ∀ (v : Option Value) (M1 : zMem), Q1 (.inl v) M1 → zS l G y fr lo bc bs (pc + 3) ls (v.toList ++ st) M1 Q) : W p l e R s m args below meth c H locs cells slots X (F0 m pc la st0) := by
  intro T hT XX
  obtain ⟨v, st₀, t, T', L, h0, X', hL, e1, e2, ⟨⟨v', M1, hv, hq, hwf, hP, hcn⟩, hF⟩, go⟩ := hr T hT XX
  cases hv
  obtain ⟨k1, k2, k3⟩ := vx_keep h0 e1 hW.2.2.1 (fun q _ h => h) (fun q h => h) hL hF
  have hW1 : zWd G M1 s T'.heap (locs ++ L) (cells + mc) := ⟨hwf, by rw [e1]; exact hP, k3, fun hz => by
    have h1 := hcn hz
    have h2 := hW.2.2.2 h1.1
    omega⟩
  obtain ⟨t2, a1, b1⟩ := kk v' M1 hq p e R s m args below meth c T'.heap (locs ++ L) (cells + mc) (slots + ms) X la F (by omega) (by omega) hW1 hl hE T' rfl X'
  refine ⟨t2, go t2 ?_, b1⟩
  have e9 : (v'.map (zv G)).toList ++ st.map (zv G) = (v'.toList ++ st).map (zv G) := by cases v' <;> simp
  show Steps _ _ _ (T'.setTop { (F0 m pc la st0) with pc := pc + 3, stack := (v'.map (zv G)).toList ++ st.map (zv G) }) t2
  rw [e9]
  exact a1
theorem s_callV {ci a : Nat} (hd : decode (yC y) pc = .ok (.invokevirtual i, 3)) (hw : zcv (yN y).cls i z n) (hK : zK M a = ci + 1) (hci : ci < 10) (hcl : vwCl[ci]? = some (zCl ci)) (hcn : (zCl ci).1 = (yN z).cls) (hn : as.length = n) (hst : (st.map fun v => v.category).sum ≤ 8) (hrm : fr1 + 1 ≤ fr ∧ 8 + (yL z + 11) + lo1 ≤ lo)
    (hM : zCm l G z fr1 lo1 mc ms (.ref a :: as) M Q1) (kk : ∀ (v : Option Value) (M1 : zMem), Q1 (.inl v) M1 → zS l G y fr lo bc bs (pc + 3) ls (v.toList ++ st) M1 Q) :
    zS l G y fr lo (mc + bc) (ms + bs) pc ls (as.reverse ++ .ref a :: st) M Q := by
  intro p e R s m args below meth c H locs cells slots X la F hc hs hW hl hE
  intro T hT XX
  have hup : H.size ≤ s.heap.size + cells := by rw [← hT]; exact XX.heapSize
  suffices hh : W p l e R s m args below meth c H locs cells slots X (F0 m pc la ((as.reverse ++ .ref a :: st).map (zv G))) from hh T hT XX
  obtain ⟨w1, w2, w3, w4, w5, w6⟩ := hw
  have hfrR := F.2.2.2.2.2.2.2.2.2.1
  have hloR := F.2.2.2.2.2.2.2.2.2.2.1
  have hcell := hW.cell (a := a) (by rw [hK]; omega)
  rw [zcl_obj hK hci] at hcell
  have hrec := va_recv F.2.2.2.2.2.2.2.2.2.2.2.2.1 hW.2.1 hcl hcell
  rw [hcn] at hrec
  have cw : CallW R s args (yN y).cls (yN z).cls i (yN z) (yC z) (yL z) (yR z) (zws z) (zrm fr1 lo1 mc ms) mc ms n :=
    cwV n F.2.2.2.2.1 (fun w hw => by
      rcases List.mem_append.mp hw with h | h
      · rcases List.mem_cons.mp h with rfl | h
        · exact zGW_good _ w1
        · rcases List.mem_cons.mp h with rfl | h
          · exact zGW_good _ w2
          · rcases List.mem_cons.mp h with rfl | h
            · exact zGW_good _ w3
            · rw [List.mem_singleton.mp h]; exact zGW_good _ w4
      · exact zws_in w5 w h) rfl rfl rfl ⟨rfl, w6⟩ ⟨by show fr1 + 1 ≤ _; omega, by show 8 + (yL z + 11) + lo1 ≤ _; omega⟩
  have hstk : (as.reverse ++ .ref a :: st).map (zv G) = (as.map (zv G)).reverse ++ .ref (zad G a) :: st.map (zv G) := by simp [zv]
  rw [hstk]
  refine z_go (a := (Value.ref (zad G a) :: as.map (zv G)).toArray) (mc := mc) (ms := ms) (bc := bc) (bs := bs) F hW hc hs hl hE ?_ kk
  exact va_runV (As := as.map (zv G)) (rest := st.map (zv G)) ⟨F.1, F.2.1, F.2.2.1, F.2.2.2.1, F.2.2.2.2.1⟩ hM cw ⟨zPc_blind, hrec, fun U hU hWm => zPc_in F hW hup U hU hWm⟩ rfl (by rw [List.length_map]; exact hn) hl.1 rfl (lv_room (by rw [zcat]; exact hst)) hd ⟨by omega, by omega⟩
theorem s_callS (hd : decode (yC y) pc = .ok (.invokestatic i, 3)) (hw : zcs (yN y).cls i z n) (hn : as.length = n) (hst : (st.map fun v => v.category).sum ≤ 8) (hrm : fr1 + 1 ≤ fr ∧ 8 + (yL z + 11) + lo1 ≤ lo)
    (hM : zCm l G z fr1 lo1 mc ms as M Q1) (kk : ∀ (v : Option Value) (M1 : zMem), Q1 (.inl v) M1 → zS l G y fr lo bc bs (pc + 3) ls (v.toList ++ st) M1 Q) :
    zS l G y fr lo (mc + bc) (ms + bs) pc ls (as.reverse ++ st) M Q := by
  intro p e R s m args below meth c H locs cells slots X la F hc hs hW hl hE
  intro T hT XX
  have hup : H.size ≤ s.heap.size + cells := by rw [← hT]; exact XX.heapSize
  suffices hh : W p l e R s m args below meth c H locs cells slots X (F0 m pc la ((as.reverse ++ st).map (zv G))) from hh T hT XX
  obtain ⟨w1, w2, w4, w5, w6⟩ := hw
  have hfrR := F.2.2.2.2.2.2.2.2.2.1
  have hloR := F.2.2.2.2.2.2.2.2.2.2.1
  have cw : CallB R s args (yN y).cls i (yN z) (yC z) (yL z) (yR z) (zws z) (zrm fr1 lo1 mc ms) mc ms n ∧ (Cond.static (yN z)).before args s = true :=
    ⟨callB_of n F.2.2.2.2.1 (zws_in w5) rfl rfl rfl (F.2.2.2.2.1 _ w4) (F.2.2.2.2.1 _ w1) w6 ⟨by show fr1 + 1 ≤ _; omega, by show 8 + (yL z + 11) + lo1 ≤ _; omega⟩, F.2.2.2.2.1 _ w2⟩
  have hstk : (as.reverse ++ st).map (zv G) = (as.map (zv G)).reverse ++ st.map (zv G) := by simp
  rw [hstk]
  refine z_go (a := (as.map (zv G)).toArray) (mc := mc) (ms := ms) (bc := bc) (bs := bs) F hW hc hs hl hE ?_ kk
  exact va_runS (As := as.map (zv G)) (rest := st.map (zv G)) ⟨F.1, F.2.1, F.2.2.1, F.2.2.2.1, F.2.2.2.2.1⟩ hM cw ⟨zPc_blind, fun U hU hWm => zPc_in F hW hup U hU hWm⟩ rfl (by rw [List.length_map]; exact hn) hl.1 rfl (lv_room (by rw [zcat]; exact hst)) hd ⟨by omega, by omega⟩
theorem s_callSH (hd : decode (yC y) pc = .ok (.invokestatic i, 3)) (hw : zcsH (yN y).cls i z n) (hn : as.length = n) (hst : (st.map fun v => v.category).sum ≤ 8) (hrm : fr1 + 1 ≤ fr ∧ 8 + (yL z + 11) + lo1 ≤ lo)
    (hM : zCh l G z fr1 lo1 mc ms as M Q1) (kk : ∀ (v : Option Value) (M1 : zMem), Q1 (.inl v) M1 → zS l G y fr lo bc bs (pc + 3) ls (v.toList ++ st) M1 Q) :
    zS l G y fr lo (mc + bc) (ms + bs) pc ls (as.reverse ++ st) M Q := by
  intro p e R s m args below meth c H locs cells slots X la F hc hs hW hl hE
  intro T hT XX
  have hup : H.size ≤ s.heap.size + cells := by rw [← hT]; exact XX.heapSize
  suffices hh : W p l e R s m args below meth c H locs cells slots X (F0 m pc la ((as.reverse ++ st).map (zv G))) from hh T hT XX
  obtain ⟨w1, w2, w4, w5, w6⟩ := hw
  have hfrR := F.2.2.2.2.2.2.2.2.2.1
  have hloR := F.2.2.2.2.2.2.2.2.2.2.1
  have cw : vx_CSW R s args (yN y).cls i (yN z) (yC z) (yL z) (yR z) (yH z) (zwsH z) (zrm fr1 lo1 mc ms) mc ms n :=
    vx_cwSW n F.2.2.2.2.1 (fun w hw => by
      rcases List.mem_append.mp hw with h | h
      · rcases List.mem_cons.mp h with rfl | h
        · exact zGW_good _ w1
        · rcases List.mem_cons.mp h with rfl | h
          · exact zGW_good _ w2
          · rw [List.mem_singleton.mp h]; exact zGW_good _ w4
      · exact zwsH_in w5 w h) rfl rfl rfl w6 ⟨by show fr1 + 1 ≤ _; omega, by show 8 + (yL z + 11) + lo1 ≤ _; omega⟩
  have hstk : (as.reverse ++ st).map (zv G) = (as.map (zv G)).reverse ++ st.map (zv G) := by simp
  rw [hstk]
  refine z_go (a := (as.map (zv G)).toArray) (mc := mc) (ms := ms) (bc := bc) (bs := bs) F hW hc hs hl hE ?_ kk
  exact vx_runSW (As := as.map (zv G)) (rest := st.map (zv G)) ⟨F.1, F.2.1, F.2.2.1, F.2.2.2.1, F.2.2.2.2.1⟩ hM cw ⟨zPc_blind, fun U hU hWm => zPc_in F hW hup U hU hWm⟩ rfl (by rw [List.length_map]; exact hn) hl.1 rfl (lv_room (by rw [zcat]; exact hst)) hd ⟨by omega, by omega⟩
theorem s_callSN {host : String} (hd : decode (yC y) pc = .ok (.invokestatic i, 3)) (hw : zcsN (yN y).cls i z host n) (hn : as.length = n) (hst : (st.map fun v => v.category).sum ≤ 8) (hrm : fr1 + 1 ≤ fr ∧ 8 + (yL z + 11) + lo1 ≤ lo)
    (hM : zCm l G z fr1 lo1 mc ms as M Q1) (kk : ∀ (v : Option Value) (M1 : zMem), Q1 (.inl v) M1 → zS l G y fr lo bc bs (pc + 3) ls (v.toList ++ st) M1 Q) :
    zS l G y fr lo (mc + bc) (ms + bs) pc ls (as.reverse ++ st) M Q := by
  intro p e R s m args below meth c H locs cells slots X la F hc hs hW hl hE
  intro T hT XX
  have hup : H.size ≤ s.heap.size + cells := by rw [← hT]; exact XX.heapSize
  suffices hh : W p l e R s m args below meth c H locs cells slots X (F0 m pc la ((as.reverse ++ st).map (zv G))) from hh T hT XX
  obtain ⟨w1, w2, w4, w5, w6⟩ := hw
  have hfrR := F.2.2.2.2.2.2.2.2.2.1
  have hloR := F.2.2.2.2.2.2.2.2.2.2.1
  have hnw := F.2.2.2.2.2.2.2.2.2.2.2.2.2.1 _ w1
  have cw : va_CN R s args (yN y).cls i (yN z) host (yC z) (yL z) (yR z) (zws z) (zrm fr1 lo1 mc ms) mc ms n :=
    va_cnB n F.2.2.2.2.1 (zws_in w5) rfl rfl rfl hnw (F.2.2.2.2.1 _ w4) w6 ⟨by show fr1 + 1 ≤ _; omega, by show 8 + (yL z + 11) + lo1 ≤ _; omega⟩
  have hstk : (as.reverse ++ st).map (zv G) = (as.map (zv G)).reverse ++ st.map (zv G) := by simp
  rw [hstk]
  refine z_go (a := (as.map (zv G)).toArray) (mc := mc) (ms := ms) (bc := bc) (bs := bs) F hW hc hs hl hE ?_ kk
  exact va_runSN (As := as.map (zv G)) (rest := st.map (zv G)) ⟨F.1, F.2.1, F.2.2.1, F.2.2.2.1, F.2.2.2.2.1⟩ hM ⟨cw, F.2.2.2.2.1 _ w2, trivial⟩ ⟨zPc_blind, fun U hU hWm => zPc_in F hW hup U hU hWm⟩ rfl (by rw [List.length_map]; exact hn) hl.1 rfl (lv_room (by rw [zcat]; exact hst)) hd ⟨by omega, by omega⟩
theorem s_callI {a : Nat} (hd : decode (yC y) pc = .ok (.invokespecial i, 3)) (hw : zci (yN y).cls i z n) (hn : as.length = n) (hst : (st.map fun v => v.category).sum ≤ 8) (hrm : fr1 + 1 ≤ fr ∧ 8 + (yL z + 11) + lo1 ≤ lo)
    (hM : zCm l G z fr1 lo1 mc ms (.ref a :: as) M Q1) (kk : ∀ (v : Option Value) (M1 : zMem), Q1 (.inl v) M1 → zS l G y fr lo bc bs (pc + 3) ls (v.toList ++ st) M1 Q) :
    zS l G y fr lo (mc + bc) (ms + bs) pc ls (as.reverse ++ .ref a :: st) M Q := by
  intro p e R s m args below meth c H locs cells slots X la F hc hs hW hl hE
  intro T hT XX
  have hup : H.size ≤ s.heap.size + cells := by rw [← hT]; exact XX.heapSize
  suffices hh : W p l e R s m args below meth c H locs cells slots X (F0 m pc la ((as.reverse ++ .ref a :: st).map (zv G))) from hh T hT XX
  obtain ⟨w1, w2, w4, w5, w7, w8, w6⟩ := hw
  have hfrR := F.2.2.2.2.2.2.2.2.2.1
  have hloR := F.2.2.2.2.2.2.2.2.2.2.1
  have w5' : Cond.code (yN z) (yC z) (yL z) (yR z) ∈ zGW := by rw [w7]; exact w5
  have cw : CallB R s args (yN y).cls i (yN z) (yC z) (yL z) none (zws z) (zrm fr1 lo1 mc ms) mc ms n ∧ (yN z).name = "<init>" ∧ (Cond.instanceMethod (yN z)).before args s = true :=
    ⟨callB_of (ws' := zGW) n F.2.2.2.2.1 (zws_in w5') (by unfold zws; rw [w7]) rfl rfl (F.2.2.2.2.1 _ w4) (F.2.2.2.2.1 _ w1) w6 ⟨by show fr1 + 1 ≤ _; omega, by show 8 + (yL z + 11) + lo1 ≤ _; omega⟩, w8, F.2.2.2.2.1 _ w2⟩
  have hstk : (as.reverse ++ .ref a :: st).map (zv G) = (as.map (zv G)).reverse ++ .ref (zad G a) :: st.map (zv G) := by simp [zv]
  rw [hstk]
  refine z_go (a := (Value.ref (zad G a) :: as.map (zv G)).toArray) (mc := mc) (ms := ms) (bc := bc) (bs := bs) F hW hc hs hl hE ?_ kk
  exact va_runI (As := as.map (zv G)) (rest := st.map (zv G)) ⟨F.1, F.2.1, F.2.2.1, F.2.2.2.1, F.2.2.2.2.1⟩ hM cw ⟨zPc_blind, fun U hU hWm => zPc_in (as := .ref a :: as) F hW hup U hU hWm⟩ rfl (by rw [List.length_map]; exact hn) hl.1 rfl (lv_room (by rw [zcat]; exact hst)) hd ⟨by omega, by omega⟩
theorem s_callIN {a : Nat} {host : String} (hd : decode (yC y) pc = .ok (.invokespecial i, 3)) (hw : zciN (yN y).cls i z host n) (hn : as.length = n) (hst : (st.map fun v => v.category).sum ≤ 8) (hrm : fr1 + 1 ≤ fr ∧ 8 + (yL z + 11) + lo1 ≤ lo)
    (hM : zCm l G z fr1 lo1 mc ms (.ref a :: as) M Q1) (kk : ∀ (v : Option Value) (M1 : zMem), Q1 (.inl v) M1 → zS l G y fr lo bc bs (pc + 3) ls (v.toList ++ st) M1 Q) :
    zS l G y fr lo (mc + bc) (ms + bs) pc ls (as.reverse ++ .ref a :: st) M Q := by
  intro p e R s m args below meth c H locs cells slots X la F hc hs hW hl hE
  intro T hT XX
  have hup : H.size ≤ s.heap.size + cells := by rw [← hT]; exact XX.heapSize
  suffices hh : W p l e R s m args below meth c H locs cells slots X (F0 m pc la ((as.reverse ++ .ref a :: st).map (zv G))) from hh T hT XX
  obtain ⟨w1, w2, w4, w5, w7, w8, w6⟩ := hw
  have hfrR := F.2.2.2.2.2.2.2.2.2.1
  have hloR := F.2.2.2.2.2.2.2.2.2.2.1
  have hnw := F.2.2.2.2.2.2.2.2.2.2.2.2.2.1 _ w1
  have w5' : Cond.code (yN z) (yC z) (yL z) (yR z) ∈ zGW := by rw [w7]; exact w5
  have cw : va_CN R s args (yN y).cls i (yN z) host (yC z) (yL z) none (zws z) (zrm fr1 lo1 mc ms) mc ms n :=
    va_cnB (ws' := zGW) n F.2.2.2.2.1 (zws_in w5') (by unfold zws; rw [w7]) rfl rfl hnw (F.2.2.2.2.1 _ w4) w6 ⟨by show fr1 + 1 ≤ _; omega, by show 8 + (yL z + 11) + lo1 ≤ _; omega⟩
  have hstk : (as.reverse ++ .ref a :: st).map (zv G) = (as.map (zv G)).reverse ++ .ref (zad G a) :: st.map (zv G) := by simp [zv]
  rw [hstk]
  refine z_go (a := (Value.ref (zad G a) :: as.map (zv G)).toArray) (mc := mc) (ms := ms) (bc := bc) (bs := bs) F hW hc hs hl hE ?_ kk
  exact va_runIN (As := as.map (zv G)) (rest := st.map (zv G)) ⟨F.1, F.2.1, F.2.2.1, F.2.2.2.1, F.2.2.2.2.1⟩ hM ⟨cw, w8, F.2.2.2.2.1 _ w2⟩ ⟨zPc_blind, fun U hU hWm => zPc_in (as := .ref a :: as) F hW hup U hU hWm⟩ rfl (by rw [List.length_map]; exact hn) hl.1 rfl (lv_room (by rw [zcat]; exact hst)) hd ⟨by omega, by omega⟩
end ZL
end
section
/-! ===== calls that may throw ===== -/
section ZX
variable {l : Launch} {G : zG} {y z : zMD} {fr lo fr1 lo1 mc ms bc bs pc i n : Nat} {ls : List (Option Value)} {st : List Value} {as : List Value} {M : zMem} {Q Q1 : zOut → zMem → Prop}
theorem z_goX {p : Program} {e : Env} {R : Room} {s : State} {m : MethodId} {args a : Array Value} {below : List Frame} {meth : Method} {c : Code} {H : Heap} {locs : List Loc} {cells slots : Nat} {X : State → Prop} {la : Array Slot} {st0 : List Value}
    (F : zFix l G y fr lo p R s m args meth c) (hW : zWd G M s H locs cells) (hc : cells + (mc + bc) ≤ R.cells) (hs : slots + (ms + bs) ≤ R.slots) (hl : lv_has la (yL y) (zll G ls)) (hE : zEx l G y fr lo Q p e R s m args below meth c X)
    (hr : vx_Run p l e R s m args below meth c H locs cells slots mc ms (F0 m pc la st0) (st.map (zv G)) (zQr G M mc Q1 a) (zXc G Q1) (zA G))
    (kx : ∀ (x : Nat) (M1 : zMem), Q1 (.inr x) M1 → ∀ (H1 : Heap) (locs1 : List Loc) (q : Addr) (ce : Cell), zWd G M1 s H1 locs1 (cells + mc) → H1[q]? = some ce → ce.vm = .none → s.vm.findClass (zXn x) = some ce.cls → vx_W p l e R s m args below meth c H1 locs1 (cells + mc) (slots + ms) X (F0 m pc la (st.map (zv G))) q)
    (kk : ∀ (v : Option Value) (M1 : zMem), Q1 (.inl v) M1 → zS l G y fr lo bc bs (pc + 3) ls (v.toList ++ st) M1 Q) : W p l e R s m args below meth c H locs cells slots X (F0 m pc la st0) := by
  intro T hT XX
  rcases hr T hT XX with ⟨v, st₀, t, T', L, h0, X', hL, e1, e2, ⟨⟨v', M1, hv, hq, hwf, hP, hcn⟩, hF⟩, go⟩ | ⟨q, st₀, t, T', L, E, ce, h0, X', hL, e1, e2, ⟨⟨x, M1, rfl, hq, hwf, hP, hz⟩, hF⟩, hce, hcv, hcl, go⟩
  · cases hv
    obtain ⟨k1, k2, k3⟩ := vx_keep h0 e1 hW.2.2.1 (fun q _ h => h) (fun q h => h) hL hF
    have hW1 : zWd G M1 s T'.heap (locs ++ L) (cells + mc) := ⟨hwf, by rw [e1]; exact hP, k3, fun hz => by
      have h1 := hcn hz
      have h2 := hW.2.2.2 h1.1
      omega⟩
    obtain ⟨t2, a1, b1⟩ := kk v' M1 hq p e R s m args below meth c T'.heap (locs ++ L) (cells + mc) (slots + ms) X la F (by omega) (by omega) hW1 hl hE T' rfl X'
    refine ⟨t2, go t2 ?_, b1⟩
    have e9 : (v'.map (zv G)).toList ++ st.map (zv G) = (v'.toList ++ st).map (zv G) := by cases v' <;> simp
    show Steps _ _ _ (T'.setTop { (F0 m pc la st0) with pc := pc + 3, stack := (v'.map (zv G)).toList ++ st.map (zv G) }) t2
    rw [e9]
    exact a1
  · obtain ⟨k1, k2, k3⟩ := vx_keep h0 e1 hW.2.2.1 (fun q _ h => h) (fun q h => h) hL hF
    obtain ⟨t2, a1, b1⟩ := kx x M1 hq T'.heap (locs ++ L) q ce ⟨hwf, by rw [e1]; exact hP, k3, fun h => absurd h hz⟩ (by rw [e1]; exact hce) hcv hcl T' rfl X'
    exact ⟨t2, go.trans a1, b1⟩
theorem s_callVX {ci a : Nat} (hd : decode (yC y) pc = .ok (.invokevirtual i, 3)) (hw : zcv (yN y).cls i z n) (hK : zK M a = ci + 1) (hci : ci < 10) (hcl : vwCl[ci]? = some (zCl ci)) (hcn : (zCl ci).1 = (yN z).cls) (hn : as.length = n) (hst : (st.map fun v => v.category).sum ≤ 8) (hrm : fr1 + 1 ≤ fr ∧ 8 + (yL z + 11) + lo1 ≤ lo)
    (hM : zCx2 l G z fr1 lo1 mc ms (.ref a :: as) M Q1) (hH : yH y = []) (kx : ∀ (x : Nat) (M1 : zMem), Q1 (.inr x) M1 → Q (.inr x) M1) (kk : ∀ (v : Option Value) (M1 : zMem), Q1 (.inl v) M1 → zS l G y fr lo bc bs (pc + 3) ls (v.toList ++ st) M1 Q) :
    zS l G y fr lo (mc + bc) (ms + bs) pc ls (as.reverse ++ .ref a :: st) M Q := by
  intro p e R s m args below meth c H locs cells slots X la F hc hs hW hl hE
  intro T hT XX
  have hup : H.size ≤ s.heap.size + cells := by rw [← hT]; exact XX.heapSize
  suffices hh : W p l e R s m args below meth c H locs cells slots X (F0 m pc la ((as.reverse ++ .ref a :: st).map (zv G))) from hh T hT XX
  obtain ⟨w1, w2, w3, w4, w5, w6⟩ := hw
  have hfrR := F.2.2.2.2.2.2.2.2.2.1
  have hloR := F.2.2.2.2.2.2.2.2.2.2.1
  have hcell := hW.cell (a := a) (by rw [hK]; omega)
  rw [zcl_obj hK hci] at hcell
  have hrec := va_recv F.2.2.2.2.2.2.2.2.2.2.2.2.1 hW.2.1 hcl hcell
  rw [hcn] at hrec
  have cw : CallW R s args (yN y).cls (yN z).cls i (yN z) (yC z) (yL z) (yR z) (zws z) (zrm fr1 lo1 mc ms) mc ms n :=
    cwV n F.2.2.2.2.1 (fun w hw => by
      rcases List.mem_append.mp hw with h | h
      · rcases List.mem_cons.mp h with rfl | h
        · exact zGW_good _ w1
        · rcases List.mem_cons.mp h with rfl | h
          · exact zGW_good _ w2
          · rcases List.mem_cons.mp h with rfl | h
            · exact zGW_good _ w3
            · rw [List.mem_singleton.mp h]; exact zGW_good _ w4
      · exact zws_in w5 w h) rfl rfl rfl ⟨rfl, w6⟩ ⟨by show fr1 + 1 ≤ _; omega, by show 8 + (yL z + 11) + lo1 ≤ _; omega⟩
  have hstk : (as.reverse ++ .ref a :: st).map (zv G) = (as.map (zv G)).reverse ++ .ref (zad G a) :: st.map (zv G) := by simp [zv]
  rw [hstk]
  refine z_goX (a := (Value.ref (zad G a) :: as.map (zv G)).toArray) (mc := mc) (ms := ms) (bc := bc) (bs := bs) F hW hc hs hl hE ?_ (fun x M1 hq H1 locs1 q ce hW1 hce hcv hcl9 => hE.2.1 x M1 (kx x M1 hq) H1 locs1 (cells + mc) (slots + ms) pc la (st.map (zv G)) q ce (by omega) (by omega) hW1 hce hcv hcl9 hH) kk
  exact vx_runV (As := as.map (zv G)) (rest := st.map (zv G)) ⟨F.1, F.2.1, F.2.2.1, F.2.2.2.1, F.2.2.2.2.1⟩ hM cw ⟨zPc_blind, hrec, fun U hU hWm => zPc_in F hW hup U hU hWm⟩ rfl (by rw [List.length_map]; exact hn) hl.1 rfl (lv_room (by rw [zcat]; exact hst)) hd ⟨by omega, by omega⟩
theorem s_callSX (hd : decode (yC y) pc = .ok (.invokestatic i, 3)) (hw : zcs (yN y).cls i z n) (hn : as.length = n) (hst : (st.map fun v => v.category).sum ≤ 8) (hrm : fr1 + 1 ≤ fr ∧ 8 + (yL z + 11) + lo1 ≤ lo)
    (hM : zCx2 l G z fr1 lo1 mc ms as M Q1) (hH : yH y = []) (kx : ∀ (x : Nat) (M1 : zMem), Q1 (.inr x) M1 → Q (.inr x) M1) (kk : ∀ (v : Option Value) (M1 : zMem), Q1 (.inl v) M1 → zS l G y fr lo bc bs (pc + 3) ls (v.toList ++ st) M1 Q) :
    zS l G y fr lo (mc + bc) (ms + bs) pc ls (as.reverse ++ st) M Q := by
  intro p e R s m args below meth c H locs cells slots X la F hc hs hW hl hE
  intro T hT XX
  have hup : H.size ≤ s.heap.size + cells := by rw [← hT]; exact XX.heapSize
  suffices hh : W p l e R s m args below meth c H locs cells slots X (F0 m pc la ((as.reverse ++ st).map (zv G))) from hh T hT XX
  obtain ⟨w1, w2, w4, w5, w6⟩ := hw
  have hfrR := F.2.2.2.2.2.2.2.2.2.1
  have hloR := F.2.2.2.2.2.2.2.2.2.2.1
  have cw : CallB R s args (yN y).cls i (yN z) (yC z) (yL z) (yR z) (zws z) (zrm fr1 lo1 mc ms) mc ms n ∧ (Cond.static (yN z)).before args s = true :=
    ⟨callB_of n F.2.2.2.2.1 (zws_in w5) rfl rfl rfl (F.2.2.2.2.1 _ w4) (F.2.2.2.2.1 _ w1) w6 ⟨by show fr1 + 1 ≤ _; omega, by show 8 + (yL z + 11) + lo1 ≤ _; omega⟩, F.2.2.2.2.1 _ w2⟩
  have hstk : (as.reverse ++ st).map (zv G) = (as.map (zv G)).reverse ++ st.map (zv G) := by simp
  rw [hstk]
  refine z_goX (a := (as.map (zv G)).toArray) (mc := mc) (ms := ms) (bc := bc) (bs := bs) F hW hc hs hl hE ?_ (fun x M1 hq H1 locs1 q ce hW1 hce hcv hcl9 => hE.2.1 x M1 (kx x M1 hq) H1 locs1 (cells + mc) (slots + ms) pc la (st.map (zv G)) q ce (by omega) (by omega) hW1 hce hcv hcl9 hH) kk
  exact vx_runS (As := as.map (zv G)) (rest := st.map (zv G)) ⟨F.1, F.2.1, F.2.2.1, F.2.2.2.1, F.2.2.2.2.1⟩ hM cw ⟨zPc_blind, fun U hU hWm => zPc_in F hW hup U hU hWm⟩ rfl (by rw [List.length_map]; exact hn) hl.1 rfl (lv_room (by rw [zcat]; exact hst)) hd ⟨by omega, by omega⟩
/-- an exception of class x at pc is caught: behind the storing of it the walk goes on -/
def zhx (l : Launch) (G : zG) (y : zMD) (fr lo bc bs pc : Nat) (ls : List (Option Value)) (M : zMem) (Q : zOut → zMem → Prop) (x : Nat) : Prop :=
  ∃ (pre : List ExceptionTableEntry) (w : ExceptionTableEntry) (suf : List ExceptionTableEntry) (k len : Nat), tableOf (yH y) = pre ++ w :: suf ∧ x < 3 ∧
    (∀ u ∈ pre, ∃ x', x' < 3 ∧ x ≠ x' ∧ u.catchType ≠ 0 ∧ Cond.classLink (yN y).cls u.catchType (zXn x') ∈ zGW) ∧ covers w pc = true ∧ w.catchType ≠ 0 ∧ Cond.classLink (yN y).cls w.catchType (zXn x) ∈ zGW ∧ Cond.castable (zXn x) (zXn x) ∈ zNW ∧
    k < yL y ∧ ((∃ k4 : Fin 4, (k4 : Nat) = k ∧ decode (yC y) w.handlerPc = .ok (.astore_n k4, 1) ∧ len = 1) ∨ (decode (yC y) w.handlerPc = .ok (.astore k, 2) ∧ len = 2)) ∧
    zS l G y fr lo bc bs (w.handlerPc + len) ((zpr ls k).set k none) [] M Q
theorem zp0_has {G : zG} {la : Array Slot} {nL i q : Nat} {ls : List (Option Value)} (h : lv_has la nL ((i, .ref q) :: (zll G ls).filter (fun q => !(q.1 == i) && !(q.1 + 1 == i && q.2.category == 2)))) : lv_has la nL (zll G ((zpr ls i).set i none)) := by
  refine ⟨h.1, h.2.1, fun q hq => h.2.2 q ?_⟩
  obtain ⟨j, x⟩ := q
  obtain ⟨w, hw, rfl⟩ := zll_mem.mp hq
  by_cases hj : j = i
  · subst hj
    rcases Nat.lt_or_ge j (zpr ls j).length with hl | hl
    · rw [List.getElem?_set_self hl] at hw
      cases hw
    · rw [List.getElem?_eq_none (by simpa using hl)] at hw
      cases hw
  · rw [List.getElem?_set_ne (Ne.symm hj)] at hw
    obtain ⟨h1, h2⟩ := zpr_get hw
    refine List.mem_cons_of_mem _ (List.mem_filter.mpr ⟨zll_mem.mpr ⟨w, h1, rfl⟩, ?_⟩)
    simp only [zv_cat, Bool.and_eq_true, Bool.not_eq_true', beq_eq_false_iff_ne, ne_eq, Bool.and_eq_false_iff]
    refine ⟨hj, ?_⟩
    by_cases e : j + 1 = i
    · exact Or.inr (fun z => h2 ⟨e, z⟩)
    · exact Or.inl e
theorem zhx_go {p : Program} {e : Env} {R : Room} {s : State} {m : MethodId} {args : Array Value} {below : List Frame} {meth : Method} {c : Code} {H : Heap} {locs : List Loc} {cells slots x : Nat} {X : State → Prop} {la : Array Slot} {q : Addr} {ce : Cell} {st0 : List Value}
    (F : zFix l G y fr lo p R s m args meth c) (hW : zWd G M s H locs cells) (hc : cells + bc ≤ R.cells) (hs : slots + bs ≤ R.slots) (hl : lv_has la (yL y) (zll G ls)) (hE : zEx l G y fr lo Q p e R s m args below meth c X)
    (h : zhx l G y fr lo bc bs pc ls M Q x) (hce : H[q]? = some ce) (hcv : ce.vm = .none) (hcl : s.vm.findClass (zXn x) = some ce.cls) : vx_W p l e R s m args below meth c H locs cells slots X (F0 m pc la st0) q := by
  obtain ⟨pre, w, suf, k, len, h1, h2, h3, h4, h5, h6, h7, h8, h9, h10⟩ := h
  have htab := F.2.2.2.2.2.2.2.2.2.2.2.1
  have hN := F.2.2.2.2.2.2.2.2.2.2.2.2.2.1
  have hNc := F.2.2.2.2.2.2.2.2.2.2.2.2.2.2.2.2.2.2.2.2.2.2.2
  refine vx_catch F.2.2.2.1 pre w suf (htab.trans h1) (fun u hu => ?_) h4 h5 (F.2.2.2.2.1 _ h6) (va_Nw.use rfl (hN _ h7)) hce hcv hcl ?_
  · obtain ⟨x', g1, g2, g3, g4⟩ := h3 u hu
    exact Or.inr ⟨g3, _, F.2.2.2.2.1 _ g4, hNc x x' h2 g1 g2⟩
  · rcases h9 with ⟨k4, rfl, h9, rfl⟩ | ⟨h9, rfl⟩
    · exact lv_astore_n F.1 F.2.1 h9 rfl hl h8 rfl (fun la hl => h10 p e R s m args below meth c H locs cells slots X la F hc hs hW (zp0_has hl) hE)
    · exact lv_astore F.1 F.2.1 h9 hl h8 rfl (fun la hl => h10 p e R s m args below meth c H locs cells slots X la F hc hs hW (zp0_has hl) hE)
theorem s_callVH {ci a : Nat} (hd : decode (yC y) pc = .ok (.invokevirtual i, 3)) (hw : zcv (yN y).cls i z n) (hK : zK M a = ci + 1) (hci : ci < 10) (hcl : vwCl[ci]? = some (zCl ci)) (hcn : (zCl ci).1 = (yN z).cls) (hn : as.length = n) (hst : (st.map fun v => v.category).sum ≤ 8) (hrm : fr1 + 1 ≤ fr ∧ 8 + (yL z + 11) + lo1 ≤ lo)
    (hM : zCx2 l G z fr1 lo1 mc ms (.ref a :: as) M Q1) (kx : ∀ (x : Nat) (M1 : zMem), Q1 (.inr x) M1 → zhx l G y fr lo bc bs pc ls M1 Q x) (kk : ∀ (v : Option Value) (M1 : zMem), Q1 (.inl v) M1 → zS l G y fr lo bc bs (pc + 3) ls (v.toList ++ st) M1 Q) :
    zS l G y fr lo (mc + bc) (ms + bs) pc ls (as.reverse ++ .ref a :: st) M Q := by
  intro p e R s m args below meth c H locs cells slots X la F hc hs hW hl hE
  intro T hT XX
  have hup : H.size ≤ s.heap.size + cells := by rw [← hT]; exact XX.heapSize
  suffices hh : W p l e R s m args below meth c H locs cells slots X (F0 m pc la ((as.reverse ++ .ref a :: st).map (zv G))) from hh T hT XX
  obtain ⟨w1, w2, w3, w4, w5, w6⟩ := hw
  have hfrR := F.2.2.2.2.2.2.2.2.2.1
  have hloR := F.2.2.2.2.2.2.2.2.2.2.1
  have hcell := hW.cell (a := a) (by rw [hK]; omega)
  rw [zcl_obj hK hci] at hcell
  have hrec := va_recv F.2.2.2.2.2.2.2.2.2.2.2.2.1 hW.2.1 hcl hcell
  rw [hcn] at hrec
  have cw : CallW R s args (yN y).cls (yN z).cls i (yN z) (yC z) (yL z) (yR z) (zws z) (zrm fr1 lo1 mc ms) mc ms n :=
    cwV n F.2.2.2.2.1 (fun w hw => by
      rcases List.mem_append.mp hw with h | h
      · rcases List.mem_cons.mp h with rfl | h
        · exact zGW_good _ w1
        · rcases List.mem_cons.mp h with rfl | h
          · exact zGW_good _ w2
          · rcases List.mem_cons.mp h with rfl | h
            · exact zGW_good _ w3
            · rw [List.mem_singleton.mp h]; exact zGW_good _ w4
      · exact zws_in w5 w h) rfl rfl rfl ⟨rfl, w6⟩ ⟨by show fr1 + 1 ≤ _; omega, by show 8 + (yL z + 11) + lo1 ≤ _; omega⟩
  have hstk : (as.reverse ++ .ref a :: st).map (zv G) = (as.map (zv G)).reverse ++ .ref (zad G a) :: st.map (zv G) := by simp [zv]
  rw [hstk]
  refine z_goX (a := (Value.ref (zad G a) :: as.map (zv G)).toArray) (mc := mc) (ms := ms) (bc := bc) (bs := bs) F hW hc hs hl hE ?_ (fun x M1 hq H1 locs1 q ce hW1 hce hcv hcl9 => zhx_go F hW1 (by omega) (by omega) hl hE (kx x M1 hq) hce hcv hcl9) kk
  exact vx_runV (As := as.map (zv G)) (rest := st.map (zv G)) ⟨F.1, F.2.1, F.2.2.1, F.2.2.2.1, F.2.2.2.2.1⟩ hM cw ⟨zPc_blind, hrec, fun U hU hWm => zPc_in F hW hup U hU hWm⟩ rfl (by rw [List.length_map]; exact hn) hl.1 rfl (lv_room (by rw [zcat]; exact hst)) hd ⟨by omega, by omega⟩
end ZX
end
section
/-! ===== literals, the script ===== -/
section ZT
variable {l : Launch} {G : zG} {y z : zMD} {fr lo fr1 lo1 mc ms bc bs pc i n : Nat} {ls : List (Option Value)} {st : List Value} {as : List Value} {M : zMem} {Q Q1 : zOut → zMem → Prop}
theorem zad_S {k : Nat} (h : k < 1000000) : zad G (1000000 + k) = gS G k := by
  unfold zad
  rw [if_neg (by omega), if_pos (by omega), Nat.add_sub_cancel_left]
theorem zad_X : zad G 2000000 = (gX G).1 := by
  unfold zad
  rw [if_neg (by omega), if_neg (by omega), if_pos (by omega)]
theorem zad_V {k : Nat} : zad G (3000000 + k) = gV G k := by
  unfold zad
  rw [if_neg (by omega), if_neg (by omega), if_neg (by omega), Nat.add_sub_cancel_left]
/-- a literal's coder, its bytes -/
theorem s_strC {k : Nat} (hk : k < 6) (hd : decode (yC y) pc = .ok (.getfield i, 3)) (hw : Cond.fieldLink (yN y).cls i "java/lang/String" "coder" "B" ∈ zGW)
    (kk : zS l G y fr lo bc bs (pc + 3) ls (.int 0 :: st) M Q) : zS l G y fr lo bc bs pc ls (.ref (1000000 + k) :: st) M Q := by
  intro p e R s m args below meth c H locs cells slots X la F hc hs hW hl hE
  have hV := F.2.2.2.2.2.2.2.2.2.2.2.2.2.2.2.1
  have k2 : W p l e R s m args below meth c H locs cells slots X (F0 m (pc + 3) la (.int 0 :: st.map (zv G))) := kk p e R s m args below meth c H locs cells slots X la F hc hs hW hl hE
  have z := vk_getf F.1 F.2.1 (hV.1 k hk).2.1 hW.2.2.1 F.2.2.2.1 (F.2.2.2.2.1 _ hw) (fun x h => h) hd k2
  rw [← zad_S (G := G) (k := k) (by omega)] at z
  exact z
theorem s_strV {k : Nat} (hk : k < 6) (hd : decode (yC y) pc = .ok (.getfield i, 3)) (hw : Cond.fieldLink (yN y).cls i "java/lang/String" "value" "[B" ∈ zGW)
    (kk : zS l G y fr lo bc bs (pc + 3) ls (.ref (3000000 + k) :: st) M Q) : zS l G y fr lo bc bs pc ls (.ref (1000000 + k) :: st) M Q := by
  intro p e R s m args below meth c H locs cells slots X la F hc hs hW hl hE
  have hV := F.2.2.2.2.2.2.2.2.2.2.2.2.2.2.2.1
  have k2 := kk p e R s m args below meth c H locs cells slots X la F hc hs hW hl hE
  have e9 : (Value.ref (3000000 + k) :: st).map (zv G) = .ref (gV G k) :: st.map (zv G) := by
    show Value.ref (zad G (3000000 + k)) :: _ = _
    rw [zad_V]
  rw [e9] at k2
  have z := vk_getf F.1 F.2.1 (hV.1 k hk).2.2.1 hW.2.2.1 F.2.2.2.1 (F.2.2.2.2.1 _ hw) (fun x h => h) hd k2
  rw [← zad_S (G := G) (k := k) (by omega)] at z
  exact z
theorem s_gstC (hd : decode (yC y) pc = .ok (.getstatic i, 3)) (hw : Cond.fieldLink (yN y).cls i "java/lang/String" "COMPACT_STRINGS" "Z" ∈ zGW)
    (kk : zS l G y fr lo bc bs (pc + 3) ls (.int 1 :: st) M Q) : zS l G y fr lo bc bs pc ls st M Q := by
  intro p e R s m args below meth c H locs cells slots X la F hc hs hW hl hE
  have hZ := F.2.2.2.2.2.2.2.2.2.2.2.2.2.2.2.2.2.2.2.2.2.1
  exact va_gets F.1 F.2.1 hZ hW.2.2.1 F.2.2.2.1 (F.2.2.2.2.1 _ hw) (fun x h => h) hd (kk p e R s m args below meth c H locs cells slots X la F hc hs hW hl hE)
theorem s_gstF (hd : decode (yC y) pc = .ok (.getstatic i, 3)) (hw : Cond.fieldLink (yN y).cls i "jdk/internal/util/Preconditions" "SIOOBE_FORMATTER" "Ljava/util/function/BiFunction;" ∈ zGW)
    (k0 : zS l G y fr lo bc bs (pc + 3) ls (.null :: st) M Q) (k1 : zS l G y fr lo bc bs (pc + 3) ls (.ref 3000006 :: st) M Q) : zS l G y fr lo bc bs pc ls st M Q := by
  intro p e R s m args below meth c H locs cells slots X la F hc hs hW hl hE
  have hZ := F.2.2.2.2.2.2.2.2.2.2.2.2.2.2.2.2.2.2.2.2.2.2.1
  rcases hZ with hZ | hZ
  · exact va_gets F.1 F.2.1 hZ hW.2.2.1 F.2.2.2.1 (F.2.2.2.2.1 _ hw) (fun x h => h) hd (k0 p e R s m args below meth c H locs cells slots X la F hc hs hW hl hE)
  · have k2 := k1 p e R s m args below meth c H locs cells slots X la F hc hs hW hl hE
    have e9 : (Value.ref 3000006 :: st).map (zv G) = .ref (gV G 6) :: st.map (zv G) := by
      show Value.ref (zad G (3000000 + 6)) :: _ = _
      rw [zad_V]
    rw [e9] at k2
    exact va_gets F.1 F.2.1 hZ hW.2.2.1 F.2.2.2.1 (F.2.2.2.2.1 _ hw) (fun x h => h) hd k2
theorem s_strL {k : Nat} (hk : k < 6) (hd : decode (yC y) pc = .ok (.arraylength, 1))
    (kk : zS l G y fr lo bc bs (pc + 1) ls (.int (nI (zLl.getD k 0)) :: st) M Q) : zS l G y fr lo bc bs pc ls (.ref (3000000 + k) :: st) M Q := by
  intro p e R s m args below meth c H locs cells slots X la F hc hs hW hl hE
  have hV := F.2.2.2.2.2.2.2.2.2.2.2.2.2.2.2.1
  have z := va_tlen F.1 F.2.1 (hV.1 k hk).2.2.2 hW.2.2.1 (v := nI (zLl.getD k 0)) rfl hd (kk p e R s m args below meth c H locs cells slots X la F hc hs hW hl hE)
  rw [← zad_V (G := G) (k := k)] at z
  exact z
theorem s_strB {k : Nat} {j : Int32} (hk : k < 6) (hd : decode (yC y) pc = .ok (.baload, 1)) (hj : vp_in j (zLl.getD k 0))
    (kk : zS l G y fr lo bc bs (pc + 1) ls (.int ((zLb.getD k []).getD j.toNatClampNeg 0) :: st) M Q) : zS l G y fr lo bc bs pc ls (.int j :: .ref (3000000 + k) :: st) M Q := by
  intro p e R s m args below meth c H locs cells slots X la F hc hs hW hl hE
  have hV := F.2.2.2.2.2.2.2.2.2.2.2.2.2.2.2.1
  have z := va_tb F.1 F.2.1 (hV.1 k hk).2.2.2 hW.2.2.1 hj (v := .int ((zLb.getD k []).getD j.toNatClampNeg 0)) rfl hd (kk p e R s m args below meth c H locs cells slots X la F hc hs hW hl hE)
  rw [← zad_V (G := G) (k := k)] at z
  exact z
theorem s_i2c {a v : Int32} (hd : decode (yC y) pc = .ok (.i2c, 1)) (hv : (a.toUInt32 % 65536).toInt32 = v) (k : zS l G y fr lo bc bs (pc + 1) ls (.int v :: st) M Q) : zS l G y fr lo bc bs pc ls (.int a :: st) M Q := by
  intro p e R s m args below meth c H locs cells slots X la F hc hs hW hl hE
  exact lv_i2c F.1 F.2.1 hd hv (k p e R s m args below meth c H locs cells slots X la F hc hs hW hl hE)
/-- the script -/
theorem s_scrL (hd : decode (yC y) pc = .ok (.arraylength, 1))
    (kk : zS l G y fr lo bc bs (pc + 1) ls (.int (nI (gX G).2.1) :: st) M Q) : zS l G y fr lo bc bs pc ls (.ref 2000000 :: st) M Q := by
  intro p e R s m args below meth c H locs cells slots X la F hc hs hW hl hE
  have hX := F.2.2.2.2.2.2.2.2.2.2.2.2.2.2.2.2.1
  have hb1 := F.2.2.2.2.2.2.2.2.2.2.2.2.2.2.2.2.2.1
  have hb2 := F.2.2.2.2.2.2.2.2.2.2.2.2.2.2.2.2.2.2.1
  have z := va_slen F.1 F.2.1 hX (by omega) (A := zA G) (by unfold zA; omega) hW.2.2.1 hd (kk p e R s m args below meth c H locs cells slots X la F hc hs hW hl hE)
  rw [← zad_X (G := G)] at z
  exact z
theorem s_scrI {j : Int32} (hd : decode (yC y) pc = .ok (.iaload, 1)) (hj : vp_in j (gX G).2.1)
    (kk : zS l G y fr lo bc bs (pc + 1) ls (.int ((gX G).2.2 j.toNatClampNeg) :: st) M Q) : zS l G y fr lo bc bs pc ls (.int j :: .ref 2000000 :: st) M Q := by
  intro p e R s m args below meth c H locs cells slots X la F hc hs hW hl hE
  have hX := F.2.2.2.2.2.2.2.2.2.2.2.2.2.2.2.2.1
  have hb1 := F.2.2.2.2.2.2.2.2.2.2.2.2.2.2.2.2.2.1
  have hb2 := F.2.2.2.2.2.2.2.2.2.2.2.2.2.2.2.2.2.2.1
  have z := va_sld F.1 F.2.1 hX (by omega) (A := zA G) (by unfold zA; omega) hW.2.2.1 hj hd (kk p e R s m args below meth c H locs cells slots X la F hc hs hW hl hE)
  rw [← zad_X (G := G)] at z
  exact z
theorem s_callVs {k : Nat} (hd : decode (yC y) pc = .ok (.invokevirtual i, 3)) (hw : zcv (yN y).cls i z n) (hk : k < 6) (hcn : (yN z).cls = "java/lang/String") (hn : as.length = n) (hst : (st.map fun v => v.category).sum ≤ 8) (hrm : fr1 + 1 ≤ fr ∧ 8 + (yL z + 11) + lo1 ≤ lo)
    (hM : zCm l G z fr1 lo1 mc ms (.ref (1000000 + k) :: as) M Q1) (kk : ∀ (v : Option Value) (M1 : zMem), Q1 (.inl v) M1 → zS l G y fr lo bc bs (pc + 3) ls (v.toList ++ st) M1 Q) :
    zS l G y fr lo (mc + bc) (ms + bs) pc ls (as.reverse ++ .ref (1000000 + k) :: st) M Q := by
  intro p e R s m args below meth c H locs cells slots X la F hc hs hW hl hE
  intro T hT XX
  have hup : H.size ≤ s.heap.size + cells := by rw [← hT]; exact XX.heapSize
  suffices hh : W p l e R s m args below meth c H locs cells slots X (F0 m pc la ((as.reverse ++ .ref (1000000 + k) :: st).map (zv G))) from hh T hT XX
  obtain ⟨w1, w2, w3, w4, w5, w6⟩ := hw
  have hfrR := F.2.2.2.2.2.2.2.2.2.1
  have hloR := F.2.2.2.2.2.2.2.2.2.2.1
  have hrec := vk_recv (i := k) F.2.2.2.2.2.2.2.2.2.2.2.2.2.2.2.1 hk hW.2.2.1
  rw [← zad_S (G := G) (k := k) (by omega), ← hcn] at hrec
  have cw : CallW R s args (yN y).cls (yN z).cls i (yN z) (yC z) (yL z) (yR z) (zws z) (zrm fr1 lo1 mc ms) mc ms n :=
    cwV n F.2.2.2.2.1 (fun w hw => by
      rcases List.mem_append.mp hw with h | h
      · rcases List.mem_cons.mp h with rfl | h
        · exact zGW_good _ w1
        · rcases List.mem_cons.mp h with rfl | h
          · exact zGW_good _ w2
          · rcases List.mem_cons.mp h with rfl | h
            · exact zGW_good _ w3
            · rw [List.mem_singleton.mp h]; exact zGW_good _ w4
      · exact zws_in w5 w h) rfl rfl rfl ⟨rfl, w6⟩ ⟨by show fr1 + 1 ≤ _; omega, by show 8 + (yL z + 11) + lo1 ≤ _; omega⟩
  have hstk : (as.reverse ++ .ref (1000000 + k) :: st).map (zv G) = (as.map (zv G)).reverse ++ .ref (zad G (1000000 + k)) :: st.map (zv G) := by simp [zv]
  rw [hstk]
  refine z_go (a := (Value.ref (zad G (1000000 + k)) :: as.map (zv G)).toArray) (mc := mc) (ms := ms) (bc := bc) (bs := bs) F hW hc hs hl hE ?_ kk
  exact va_runV (As := as.map (zv G)) (rest := st.map (zv G)) ⟨F.1, F.2.1, F.2.2.1, F.2.2.2.1, F.2.2.2.2.1⟩ hM cw ⟨zPc_blind, hrec, fun U hU hWm => zPc_in F hW hup U hU hWm⟩ rfl (by rw [List.length_map]; exact hn) hl.1 rfl (lv_room (by rw [zcat]; exact hst)) hd ⟨by omega, by omega⟩
end ZT
end
