section
-- ===== PART A: goes FIRST, ahead of the names: the tables' words, and 'selects' of the private methods out of them =====
/-- a private method of a class that the tables say can be made, by its rows of tables_1 -/
def lw_okq (q : MethodName × Nat) : Prop := (q.1.cls ≠ "java/lang/invoke/MethodHandle" ∧ q.1.cls ≠ "java/lang/invoke/VarHandle") ∧ Cond.instantiable q.1.cls q.2 ∈ tables_1 ∧ Cond.privateMethod q.1 ∈ tables_1 ∧ Cond.instanceMethod q.1 ∈ tables_1
theorem lw_p0 : lw_okq (⟨"SeasonTiers$Reader", "readHead", "(LSeasonTiers$Store;)Z"⟩, 8) := ⟨⟨by decide +kernel, by decide +kernel⟩, List.mem_of_getElem? (i := 32) (by decide +kernel), List.mem_of_getElem? (i := 352) (by decide +kernel), List.mem_of_getElem? (i := 353) (by decide +kernel)⟩
theorem lw_p1 : lw_okq (⟨"SeasonTiers$Reader", "passWord", "(Ljava/lang/String;)Z"⟩, 8) := ⟨⟨by decide +kernel, by decide +kernel⟩, List.mem_of_getElem? (i := 32) (by decide +kernel), List.mem_of_getElem? (i := 357) (by decide +kernel), List.mem_of_getElem? (i := 358) (by decide +kernel)⟩
theorem lw_p2 : lw_okq (⟨"SeasonTiers$Reader", "nextIsWord", "(Ljava/lang/String;)Z"⟩, 8) := ⟨⟨by decide +kernel, by decide +kernel⟩, List.mem_of_getElem? (i := 32) (by decide +kernel), List.mem_of_getElem? (i := 361) (by decide +kernel), List.mem_of_getElem? (i := 362) (by decide +kernel)⟩
theorem lw_p3 : lw_okq (⟨"SeasonTiers$Reader", "nextByte", "()I"⟩, 8) := ⟨⟨by decide +kernel, by decide +kernel⟩, List.mem_of_getElem? (i := 32) (by decide +kernel), List.mem_of_getElem? (i := 365) (by decide +kernel), List.mem_of_getElem? (i := 366) (by decide +kernel)⟩
theorem lw_p4 : lw_okq (⟨"SeasonTiers$Reader", "endOfWord", "()I"⟩, 8) := ⟨⟨by decide +kernel, by decide +kernel⟩, List.mem_of_getElem? (i := 32) (by decide +kernel), List.mem_of_getElem? (i := 369) (by decide +kernel), List.mem_of_getElem? (i := 370) (by decide +kernel)⟩
theorem lw_p5 : lw_okq (⟨"SeasonTiers$Reader", "fail", "(II)Z"⟩, 8) := ⟨⟨by decide +kernel, by decide +kernel⟩, List.mem_of_getElem? (i := 32) (by decide +kernel), List.mem_of_getElem? (i := 421) (by decide +kernel), List.mem_of_getElem? (i := 422) (by decide +kernel)⟩
theorem lw_p6 : lw_okq (⟨"SeasonTiers$Reader", "readNumber", "(II)Z"⟩, 8) := ⟨⟨by decide +kernel, by decide +kernel⟩, List.mem_of_getElem? (i := 32) (by decide +kernel), List.mem_of_getElem? (i := 425) (by decide +kernel), List.mem_of_getElem? (i := 426) (by decide +kernel)⟩
theorem lw_p7 : lw_okq (⟨"SeasonTiers$Reader", "passSemicolon", "()Z"⟩, 8) := ⟨⟨by decide +kernel, by decide +kernel⟩, List.mem_of_getElem? (i := 32) (by decide +kernel), List.mem_of_getElem? (i := 435) (by decide +kernel), List.mem_of_getElem? (i := 436) (by decide +kernel)⟩
theorem lw_p8 : lw_okq (⟨"SeasonTiers$Reader", "readTiers", "(LSeasonTiers$Store;)Z"⟩, 8) := ⟨⟨by decide +kernel, by decide +kernel⟩, List.mem_of_getElem? (i := 32) (by decide +kernel), List.mem_of_getElem? (i := 439) (by decide +kernel), List.mem_of_getElem? (i := 440) (by decide +kernel)⟩
theorem lw_p9 : lw_okq (⟨"SeasonTiers$Reader", "readTier", "(LSeasonTiers$Store;)Z"⟩, 8) := ⟨⟨by decide +kernel, by decide +kernel⟩, List.mem_of_getElem? (i := 32) (by decide +kernel), List.mem_of_getElem? (i := 444) (by decide +kernel), List.mem_of_getElem? (i := 445) (by decide +kernel)⟩
theorem lw_p10 : lw_okq (⟨"SeasonTiers$Reader", "readName", "()Z"⟩, 8) := ⟨⟨by decide +kernel, by decide +kernel⟩, List.mem_of_getElem? (i := 32) (by decide +kernel), List.mem_of_getElem? (i := 448) (by decide +kernel), List.mem_of_getElem? (i := 449) (by decide +kernel)⟩
theorem lw_p11 : lw_okq (⟨"SeasonTiers$Reader", "readFiles", "(LSeasonTiers$Store;)Z"⟩, 8) := ⟨⟨by decide +kernel, by decide +kernel⟩, List.mem_of_getElem? (i := 32) (by decide +kernel), List.mem_of_getElem? (i := 465) (by decide +kernel), List.mem_of_getElem? (i := 466) (by decide +kernel)⟩
theorem lw_p12 : lw_okq (⟨"SeasonTiers$Reader", "readFile", "(LSeasonTiers$Store;)Z"⟩, 8) := ⟨⟨by decide +kernel, by decide +kernel⟩, List.mem_of_getElem? (i := 32) (by decide +kernel), List.mem_of_getElem? (i := 469) (by decide +kernel), List.mem_of_getElem? (i := 470) (by decide +kernel)⟩
theorem lw_p13 : lw_okq (⟨"SeasonTiers$Writer", "putByte", "(I)V"⟩, 2) := ⟨⟨by decide +kernel, by decide +kernel⟩, List.mem_of_getElem? (i := 66) (by decide +kernel), List.mem_of_getElem? (i := 624) (by decide +kernel), List.mem_of_getElem? (i := 625) (by decide +kernel)⟩
theorem lw_p14 : lw_okq (⟨"SeasonTiers$Writer", "putName", "(J)V"⟩, 2) := ⟨⟨by decide +kernel, by decide +kernel⟩, List.mem_of_getElem? (i := 66) (by decide +kernel), List.mem_of_getElem? (i := 628) (by decide +kernel), List.mem_of_getElem? (i := 629) (by decide +kernel)⟩
theorem lw_p15 : lw_okq (⟨"SeasonTiers$Writer", "putFilesOn", "(LSeasonTiers$Store;I)V"⟩, 2) := ⟨⟨by decide +kernel, by decide +kernel⟩, List.mem_of_getElem? (i := 66) (by decide +kernel), List.mem_of_getElem? (i := 632) (by decide +kernel), List.mem_of_getElem? (i := 633) (by decide +kernel)⟩
def lw_privs_1 : List (MethodName × Nat) := [(⟨"SeasonTiers$Reader", "readHead", "(LSeasonTiers$Store;)Z"⟩, 8), (⟨"SeasonTiers$Reader", "passWord", "(Ljava/lang/String;)Z"⟩, 8), (⟨"SeasonTiers$Reader", "nextIsWord", "(Ljava/lang/String;)Z"⟩, 8), (⟨"SeasonTiers$Reader", "nextByte", "()I"⟩, 8), (⟨"SeasonTiers$Reader", "endOfWord", "()I"⟩, 8), (⟨"SeasonTiers$Reader", "fail", "(II)Z"⟩, 8), (⟨"SeasonTiers$Reader", "readNumber", "(II)Z"⟩, 8), (⟨"SeasonTiers$Reader", "passSemicolon", "()Z"⟩, 8), (⟨"SeasonTiers$Reader", "readTiers", "(LSeasonTiers$Store;)Z"⟩, 8), (⟨"SeasonTiers$Reader", "readTier", "(LSeasonTiers$Store;)Z"⟩, 8), (⟨"SeasonTiers$Reader", "readName", "()Z"⟩, 8), (⟨"SeasonTiers$Reader", "readFiles", "(LSeasonTiers$Store;)Z"⟩, 8), (⟨"SeasonTiers$Reader", "readFile", "(LSeasonTiers$Store;)Z"⟩, 8), (⟨"SeasonTiers$Writer", "putByte", "(I)V"⟩, 2), (⟨"SeasonTiers$Writer", "putName", "(J)V"⟩, 2), (⟨"SeasonTiers$Writer", "putFilesOn", "(LSeasonTiers$Store;I)V"⟩, 2)]
theorem lw_r1 : ∀ q ∈ lw_privs_1, lw_okq q := List.forall_mem_cons.mpr ⟨lw_p0, List.forall_mem_cons.mpr ⟨lw_p1, List.forall_mem_cons.mpr ⟨lw_p2, List.forall_mem_cons.mpr ⟨lw_p3, List.forall_mem_cons.mpr ⟨lw_p4, List.forall_mem_cons.mpr ⟨lw_p5, List.forall_mem_cons.mpr ⟨lw_p6, List.forall_mem_cons.mpr ⟨lw_p7, List.forall_mem_cons.mpr ⟨lw_p8, List.forall_mem_cons.mpr ⟨lw_p9, List.forall_mem_cons.mpr ⟨lw_p10, List.forall_mem_cons.mpr ⟨lw_p11, List.forall_mem_cons.mpr ⟨lw_p12, List.forall_mem_cons.mpr ⟨lw_p13, List.forall_mem_cons.mpr ⟨lw_p14, List.forall_mem_cons.mpr ⟨lw_p15, fun _ h => absurd h List.not_mem_nil⟩⟩⟩⟩⟩⟩⟩⟩⟩⟩⟩⟩⟩⟩⟩⟩
theorem lw_p16 : lw_okq (⟨"java/lang/Throwable", "fillInStackTrace", "(I)Ljava/lang/Throwable;"⟩, 6) := ⟨⟨by decide +kernel, by decide +kernel⟩, List.mem_of_getElem? (i := 685) (by decide +kernel), List.mem_of_getElem? (i := 683) (by decide +kernel), List.mem_of_getElem? (i := 684) (by decide +kernel)⟩
theorem lw_p17 : lw_okq (⟨"SeasonTiers", "requireTier", "(I)V"⟩, 9) := ⟨⟨by decide +kernel, by decide +kernel⟩, List.mem_of_getElem? (i := 24) (by decide +kernel), List.mem_of_getElem? (i := 757) (by decide +kernel), List.mem_of_getElem? (i := 758) (by decide +kernel)⟩
theorem lw_p18 : lw_okq (⟨"SeasonTiers", "requireFile", "(I)V"⟩, 9) := ⟨⟨by decide +kernel, by decide +kernel⟩, List.mem_of_getElem? (i := 24) (by decide +kernel), List.mem_of_getElem? (i := 793) (by decide +kernel), List.mem_of_getElem? (i := 794) (by decide +kernel)⟩
theorem lw_p19 : lw_okq (⟨"SeasonTiers$Planner", "findGains", "(LSeasonTiers$Store;II)V"⟩, 12) := ⟨⟨by decide +kernel, by decide +kernel⟩, List.mem_of_getElem? (i := 81) (by decide +kernel), List.mem_of_getElem? (i := 887) (by decide +kernel), List.mem_of_getElem? (i := 888) (by decide +kernel)⟩
theorem lw_p20 : lw_okq (⟨"SeasonTiers$Planner", "findMove", "(LSeasonTiers$Store;)Z"⟩, 12) := ⟨⟨by decide +kernel, by decide +kernel⟩, List.mem_of_getElem? (i := 81) (by decide +kernel), List.mem_of_getElem? (i := 914) (by decide +kernel), List.mem_of_getElem? (i := 915) (by decide +kernel)⟩
theorem lw_p21 : lw_okq (⟨"SeasonTiers$Planner", "setBest", "(IIIJ)V"⟩, 12) := ⟨⟨by decide +kernel, by decide +kernel⟩, List.mem_of_getElem? (i := 81) (by decide +kernel), List.mem_of_getElem? (i := 918) (by decide +kernel), List.mem_of_getElem? (i := 919) (by decide +kernel)⟩
theorem lw_p22 : lw_okq (⟨"SeasonTiers$Planner", "findExchange", "(LSeasonTiers$Store;)Z"⟩, 12) := ⟨⟨by decide +kernel, by decide +kernel⟩, List.mem_of_getElem? (i := 81) (by decide +kernel), List.mem_of_getElem? (i := 922) (by decide +kernel), List.mem_of_getElem? (i := 923) (by decide +kernel)⟩
theorem lw_p23 : lw_okq (⟨"SeasonTiers$Planner", "takeStep", "(LSeasonTiers$Store;)V"⟩, 12) := ⟨⟨by decide +kernel, by decide +kernel⟩, List.mem_of_getElem? (i := 81) (by decide +kernel), List.mem_of_getElem? (i := 926) (by decide +kernel), List.mem_of_getElem? (i := 927) (by decide +kernel)⟩
theorem lw_p24 : lw_okq (⟨"SeasonTiers$Planner", "takeAway", "(IIII)V"⟩, 12) := ⟨⟨by decide +kernel, by decide +kernel⟩, List.mem_of_getElem? (i := 81) (by decide +kernel), List.mem_of_getElem? (i := 930) (by decide +kernel), List.mem_of_getElem? (i := 931) (by decide +kernel)⟩
theorem lw_p25 : lw_okq (⟨"SeasonTiersModel", "begins", "()V"⟩, 32) := ⟨⟨by decide +kernel, by decide +kernel⟩, List.mem_of_getElem? (i := 1087) (by decide +kernel), List.mem_of_getElem? (i := 1093) (by decide +kernel), List.mem_of_getElem? (i := 1094) (by decide +kernel)⟩
theorem lw_p26 : lw_okq (⟨"SeasonTiersModel", "puts", "(IIIIII)V"⟩, 32) := ⟨⟨by decide +kernel, by decide +kernel⟩, List.mem_of_getElem? (i := 1087) (by decide +kernel), List.mem_of_getElem? (i := 1099) (by decide +kernel), List.mem_of_getElem? (i := 1100) (by decide +kernel)⟩
theorem lw_p27 : lw_okq (⟨"SeasonTiersModel", "keeps", "([J)V"⟩, 32) := ⟨⟨by decide +kernel, by decide +kernel⟩, List.mem_of_getElem? (i := 1087) (by decide +kernel), List.mem_of_getElem? (i := 1222) (by decide +kernel), List.mem_of_getElem? (i := 1223) (by decide +kernel)⟩
theorem lw_p28 : lw_okq (⟨"SeasonTiersModel", "its", "(I)I"⟩, 32) := ⟨⟨by decide +kernel, by decide +kernel⟩, List.mem_of_getElem? (i := 1087) (by decide +kernel), List.mem_of_getElem? (i := 1226) (by decide +kernel), List.mem_of_getElem? (i := 1227) (by decide +kernel)⟩
theorem lw_p29 : lw_okq (⟨"SeasonTiersModel", "next", "()V"⟩, 32) := ⟨⟨by decide +kernel, by decide +kernel⟩, List.mem_of_getElem? (i := 1087) (by decide +kernel), List.mem_of_getElem? (i := 1241) (by decide +kernel), List.mem_of_getElem? (i := 1242) (by decide +kernel)⟩
theorem lw_p30 : lw_okq (⟨"SeasonTiersModel", "see", "(I)I"⟩, 32) := ⟨⟨by decide +kernel, by decide +kernel⟩, List.mem_of_getElem? (i := 1087) (by decide +kernel), List.mem_of_getElem? (i := 1245) (by decide +kernel), List.mem_of_getElem? (i := 1246) (by decide +kernel)⟩
theorem lw_p31 : lw_okq (⟨"SeasonTiersModel", "isLetter", "(I)Z"⟩, 32) := ⟨⟨by decide +kernel, by decide +kernel⟩, List.mem_of_getElem? (i := 1087) (by decide +kernel), List.mem_of_getElem? (i := 1249) (by decide +kernel), List.mem_of_getElem? (i := 1250) (by decide +kernel)⟩
def lw_privs_2 : List (MethodName × Nat) := [(⟨"java/lang/Throwable", "fillInStackTrace", "(I)Ljava/lang/Throwable;"⟩, 6), (⟨"SeasonTiers", "requireTier", "(I)V"⟩, 9), (⟨"SeasonTiers", "requireFile", "(I)V"⟩, 9), (⟨"SeasonTiers$Planner", "findGains", "(LSeasonTiers$Store;II)V"⟩, 12), (⟨"SeasonTiers$Planner", "findMove", "(LSeasonTiers$Store;)Z"⟩, 12), (⟨"SeasonTiers$Planner", "setBest", "(IIIJ)V"⟩, 12), (⟨"SeasonTiers$Planner", "findExchange", "(LSeasonTiers$Store;)Z"⟩, 12), (⟨"SeasonTiers$Planner", "takeStep", "(LSeasonTiers$Store;)V"⟩, 12), (⟨"SeasonTiers$Planner", "takeAway", "(IIII)V"⟩, 12), (⟨"SeasonTiersModel", "begins", "()V"⟩, 32), (⟨"SeasonTiersModel", "puts", "(IIIIII)V"⟩, 32), (⟨"SeasonTiersModel", "keeps", "([J)V"⟩, 32), (⟨"SeasonTiersModel", "its", "(I)I"⟩, 32), (⟨"SeasonTiersModel", "next", "()V"⟩, 32), (⟨"SeasonTiersModel", "see", "(I)I"⟩, 32), (⟨"SeasonTiersModel", "isLetter", "(I)Z"⟩, 32)]
theorem lw_r2 : ∀ q ∈ lw_privs_2, lw_okq q := List.forall_mem_cons.mpr ⟨lw_p16, List.forall_mem_cons.mpr ⟨lw_p17, List.forall_mem_cons.mpr ⟨lw_p18, List.forall_mem_cons.mpr ⟨lw_p19, List.forall_mem_cons.mpr ⟨lw_p20, List.forall_mem_cons.mpr ⟨lw_p21, List.forall_mem_cons.mpr ⟨lw_p22, List.forall_mem_cons.mpr ⟨lw_p23, List.forall_mem_cons.mpr ⟨lw_p24, List.forall_mem_cons.mpr ⟨lw_p25, List.forall_mem_cons.mpr ⟨lw_p26, List.forall_mem_cons.mpr ⟨lw_p27, List.forall_mem_cons.mpr ⟨lw_p28, List.forall_mem_cons.mpr ⟨lw_p29, List.forall_mem_cons.mpr ⟨lw_p30, List.forall_mem_cons.mpr ⟨lw_p31, fun _ h => absurd h List.not_mem_nil⟩⟩⟩⟩⟩⟩⟩⟩⟩⟩⟩⟩⟩⟩⟩⟩
theorem lw_p32 : lw_okq (⟨"SeasonTiersModel", "isDigit", "(I)Z"⟩, 32) := ⟨⟨by decide +kernel, by decide +kernel⟩, List.mem_of_getElem? (i := 1087) (by decide +kernel), List.mem_of_getElem? (i := 1253) (by decide +kernel), List.mem_of_getElem? (i := 1254) (by decide +kernel)⟩
theorem lw_p33 : lw_okq (⟨"SeasonTiersModel", "isWord", "(Ljava/lang/String;)Z"⟩, 32) := ⟨⟨by decide +kernel, by decide +kernel⟩, List.mem_of_getElem? (i := 1087) (by decide +kernel), List.mem_of_getElem? (i := 1262) (by decide +kernel), List.mem_of_getElem? (i := 1263) (by decide +kernel)⟩
theorem lw_p34 : lw_okq (⟨"SeasonTiersModel", "must", "(Z)V"⟩, 32) := ⟨⟨by decide +kernel, by decide +kernel⟩, List.mem_of_getElem? (i := 1087) (by decide +kernel), List.mem_of_getElem? (i := 1268) (by decide +kernel), List.mem_of_getElem? (i := 1269) (by decide +kernel)⟩
theorem lw_p35 : lw_okq (⟨"SeasonTiersModel", "fails", "(I)V"⟩, 32) := ⟨⟨by decide +kernel, by decide +kernel⟩, List.mem_of_getElem? (i := 1087) (by decide +kernel), List.mem_of_getElem? (i := 1272) (by decide +kernel), List.mem_of_getElem? (i := 1273) (by decide +kernel)⟩
theorem lw_p36 : lw_okq (⟨"SeasonTiersModel", "takes", "(II)I"⟩, 32) := ⟨⟨by decide +kernel, by decide +kernel⟩, List.mem_of_getElem? (i := 1087) (by decide +kernel), List.mem_of_getElem? (i := 1276) (by decide +kernel), List.mem_of_getElem? (i := 1277) (by decide +kernel)⟩
theorem lw_p37 : lw_okq (⟨"SeasonTiersModel", "mustEnd", "()V"⟩, 32) := ⟨⟨by decide +kernel, by decide +kernel⟩, List.mem_of_getElem? (i := 1087) (by decide +kernel), List.mem_of_getElem? (i := 1281) (by decide +kernel), List.mem_of_getElem? (i := 1282) (by decide +kernel)⟩
theorem lw_p38 : lw_okq (⟨"SeasonTiersModel", "readsTier", "()V"⟩, 32) := ⟨⟨by decide +kernel, by decide +kernel⟩, List.mem_of_getElem? (i := 1087) (by decide +kernel), List.mem_of_getElem? (i := 1285) (by decide +kernel), List.mem_of_getElem? (i := 1286) (by decide +kernel)⟩
theorem lw_p39 : lw_okq (⟨"SeasonTiersModel", "tiers", "()I"⟩, 32) := ⟨⟨by decide +kernel, by decide +kernel⟩, List.mem_of_getElem? (i := 1087) (by decide +kernel), List.mem_of_getElem? (i := 1289) (by decide +kernel), List.mem_of_getElem? (i := 1290) (by decide +kernel)⟩
theorem lw_p40 : lw_okq (⟨"SeasonTiersModel", "mustName", "()V"⟩, 32) := ⟨⟨by decide +kernel, by decide +kernel⟩, List.mem_of_getElem? (i := 1087) (by decide +kernel), List.mem_of_getElem? (i := 1294) (by decide +kernel), List.mem_of_getElem? (i := 1295) (by decide +kernel)⟩
theorem lw_p41 : lw_okq (⟨"SeasonTiersModel", "named", "(III)I"⟩, 32) := ⟨⟨by decide +kernel, by decide +kernel⟩, List.mem_of_getElem? (i := 1087) (by decide +kernel), List.mem_of_getElem? (i := 1298) (by decide +kernel), List.mem_of_getElem? (i := 1299) (by decide +kernel)⟩
theorem lw_p42 : lw_okq (⟨"SeasonTiersModel", "putsName", "(I)V"⟩, 32) := ⟨⟨by decide +kernel, by decide +kernel⟩, List.mem_of_getElem? (i := 1087) (by decide +kernel), List.mem_of_getElem? (i := 1302) (by decide +kernel), List.mem_of_getElem? (i := 1303) (by decide +kernel)⟩
theorem lw_p43 : lw_okq (⟨"SeasonTiersModel", "readsFile", "()V"⟩, 32) := ⟨⟨by decide +kernel, by decide +kernel⟩, List.mem_of_getElem? (i := 1087) (by decide +kernel), List.mem_of_getElem? (i := 1308) (by decide +kernel), List.mem_of_getElem? (i := 1309) (by decide +kernel)⟩
theorem lw_p44 : lw_okq (⟨"SeasonTiersModel", "files", "()I"⟩, 32) := ⟨⟨by decide +kernel, by decide +kernel⟩, List.mem_of_getElem? (i := 1087) (by decide +kernel), List.mem_of_getElem? (i := 1312) (by decide +kernel), List.mem_of_getElem? (i := 1313) (by decide +kernel)⟩
theorem lw_p45 : lw_okq (⟨"SeasonTiersModel", "begins0", "(I)V"⟩, 32) := ⟨⟨by decide +kernel, by decide +kernel⟩, List.mem_of_getElem? (i := 1087) (by decide +kernel), List.mem_of_getElem? (i := 1316) (by decide +kernel), List.mem_of_getElem? (i := 1317) (by decide +kernel)⟩
theorem lw_p46 : lw_okq (⟨"SeasonTiersModel", "sets", "(IIJ)V"⟩, 32) := ⟨⟨by decide +kernel, by decide +kernel⟩, List.mem_of_getElem? (i := 1087) (by decide +kernel), List.mem_of_getElem? (i := 1320) (by decide +kernel), List.mem_of_getElem? (i := 1321) (by decide +kernel)⟩
theorem lw_p47 : lw_okq (⟨"SeasonTiersModel", "freeOn", "(I)I"⟩, 32) := ⟨⟨by decide +kernel, by decide +kernel⟩, List.mem_of_getElem? (i := 1087) (by decide +kernel), List.mem_of_getElem? (i := 1326) (by decide +kernel), List.mem_of_getElem? (i := 1327) (by decide +kernel)⟩
def lw_privs_3 : List (MethodName × Nat) := [(⟨"SeasonTiersModel", "isDigit", "(I)Z"⟩, 32), (⟨"SeasonTiersModel", "isWord", "(Ljava/lang/String;)Z"⟩, 32), (⟨"SeasonTiersModel", "must", "(Z)V"⟩, 32), (⟨"SeasonTiersModel", "fails", "(I)V"⟩, 32), (⟨"SeasonTiersModel", "takes", "(II)I"⟩, 32), (⟨"SeasonTiersModel", "mustEnd", "()V"⟩, 32), (⟨"SeasonTiersModel", "readsTier", "()V"⟩, 32), (⟨"SeasonTiersModel", "tiers", "()I"⟩, 32), (⟨"SeasonTiersModel", "mustName", "()V"⟩, 32), (⟨"SeasonTiersModel", "named", "(III)I"⟩, 32), (⟨"SeasonTiersModel", "putsName", "(I)V"⟩, 32), (⟨"SeasonTiersModel", "readsFile", "()V"⟩, 32), (⟨"SeasonTiersModel", "files", "()I"⟩, 32), (⟨"SeasonTiersModel", "begins0", "(I)V"⟩, 32), (⟨"SeasonTiersModel", "sets", "(IIJ)V"⟩, 32), (⟨"SeasonTiersModel", "freeOn", "(I)I"⟩, 32)]
theorem lw_r3 : ∀ q ∈ lw_privs_3, lw_okq q := List.forall_mem_cons.mpr ⟨lw_p32, List.forall_mem_cons.mpr ⟨lw_p33, List.forall_mem_cons.mpr ⟨lw_p34, List.forall_mem_cons.mpr ⟨lw_p35, List.forall_mem_cons.mpr ⟨lw_p36, List.forall_mem_cons.mpr ⟨lw_p37, List.forall_mem_cons.mpr ⟨lw_p38, List.forall_mem_cons.mpr ⟨lw_p39, List.forall_mem_cons.mpr ⟨lw_p40, List.forall_mem_cons.mpr ⟨lw_p41, List.forall_mem_cons.mpr ⟨lw_p42, List.forall_mem_cons.mpr ⟨lw_p43, List.forall_mem_cons.mpr ⟨lw_p44, List.forall_mem_cons.mpr ⟨lw_p45, List.forall_mem_cons.mpr ⟨lw_p46, List.forall_mem_cons.mpr ⟨lw_p47, fun _ h => absurd h List.not_mem_nil⟩⟩⟩⟩⟩⟩⟩⟩⟩⟩⟩⟩⟩⟩⟩⟩
theorem lw_p48 : lw_okq (⟨"SeasonTiersModel", "ofTier", "(II)I"⟩, 32) := ⟨⟨by decide +kernel, by decide +kernel⟩, List.mem_of_getElem? (i := 1087) (by decide +kernel), List.mem_of_getElem? (i := 1330) (by decide +kernel), List.mem_of_getElem? (i := 1331) (by decide +kernel)⟩
theorem lw_p49 : lw_okq (⟨"SeasonTiersModel", "fullOf", "(I)I"⟩, 32) := ⟨⟨by decide +kernel, by decide +kernel⟩, List.mem_of_getElem? (i := 1087) (by decide +kernel), List.mem_of_getElem? (i := 1334) (by decide +kernel), List.mem_of_getElem? (i := 1335) (by decide +kernel)⟩
theorem lw_p50 : lw_okq (⟨"SeasonTiersModel", "of", "(II)I"⟩, 32) := ⟨⟨by decide +kernel, by decide +kernel⟩, List.mem_of_getElem? (i := 1087) (by decide +kernel), List.mem_of_getElem? (i := 1338) (by decide +kernel), List.mem_of_getElem? (i := 1339) (by decide +kernel)⟩
theorem lw_p51 : lw_okq (⟨"SeasonTiersModel", "pinned", "()I"⟩, 32) := ⟨⟨by decide +kernel, by decide +kernel⟩, List.mem_of_getElem? (i := 1087) (by decide +kernel), List.mem_of_getElem? (i := 1351) (by decide +kernel), List.mem_of_getElem? (i := 1352) (by decide +kernel)⟩
theorem lw_p52 : lw_okq (⟨"SeasonTiersModel", "isPinned", "(I)Z"⟩, 32) := ⟨⟨by decide +kernel, by decide +kernel⟩, List.mem_of_getElem? (i := 1087) (by decide +kernel), List.mem_of_getElem? (i := 1355) (by decide +kernel), List.mem_of_getElem? (i := 1356) (by decide +kernel)⟩
theorem lw_p53 : lw_okq (⟨"SeasonTiersModel", "sizes", "()I"⟩, 32) := ⟨⟨by decide +kernel, by decide +kernel⟩, List.mem_of_getElem? (i := 1087) (by decide +kernel), List.mem_of_getElem? (i := 1359) (by decide +kernel), List.mem_of_getElem? (i := 1360) (by decide +kernel)⟩
theorem lw_p54 : lw_okq (⟨"SeasonTiersModel", "isTier", "(I)Z"⟩, 32) := ⟨⟨by decide +kernel, by decide +kernel⟩, List.mem_of_getElem? (i := 1087) (by decide +kernel), List.mem_of_getElem? (i := 1367) (by decide +kernel), List.mem_of_getElem? (i := 1368) (by decide +kernel)⟩
theorem lw_p55 : lw_okq (⟨"SeasonTiersModel", "filesOn", "(I)I"⟩, 32) := ⟨⟨by decide +kernel, by decide +kernel⟩, List.mem_of_getElem? (i := 1087) (by decide +kernel), List.mem_of_getElem? (i := 1371) (by decide +kernel), List.mem_of_getElem? (i := 1372) (by decide +kernel)⟩
theorem lw_p56 : lw_okq (⟨"SeasonTiersModel", "busiest", "(I)I"⟩, 32) := ⟨⟨by decide +kernel, by decide +kernel⟩, List.mem_of_getElem? (i := 1087) (by decide +kernel), List.mem_of_getElem? (i := 1375) (by decide +kernel), List.mem_of_getElem? (i := 1376) (by decide +kernel)⟩
theorem lw_p57 : lw_okq (⟨"SeasonTiersModel", "forecastOf", "(II)I"⟩, 32) := ⟨⟨by decide +kernel, by decide +kernel⟩, List.mem_of_getElem? (i := 1087) (by decide +kernel), List.mem_of_getElem? (i := 1379) (by decide +kernel), List.mem_of_getElem? (i := 1380) (by decide +kernel)⟩
theorem lw_p58 : lw_okq (⟨"SeasonTiersModel", "knownOf", "(I)I"⟩, 32) := ⟨⟨by decide +kernel, by decide +kernel⟩, List.mem_of_getElem? (i := 1087) (by decide +kernel), List.mem_of_getElem? (i := 1383) (by decide +kernel), List.mem_of_getElem? (i := 1384) (by decide +kernel)⟩
theorem lw_p59 : lw_okq (⟨"SeasonTiersModel", "isFile", "(I)Z"⟩, 32) := ⟨⟨by decide +kernel, by decide +kernel⟩, List.mem_of_getElem? (i := 1087) (by decide +kernel), List.mem_of_getElem? (i := 1394) (by decide +kernel), List.mem_of_getElem? (i := 1395) (by decide +kernel)⟩
theorem lw_p60 : lw_okq (⟨"SeasonTiersModel", "seasonsOf", "(IZ)I"⟩, 32) := ⟨⟨by decide +kernel, by decide +kernel⟩, List.mem_of_getElem? (i := 1087) (by decide +kernel), List.mem_of_getElem? (i := 1398) (by decide +kernel), List.mem_of_getElem? (i := 1399) (by decide +kernel)⟩
theorem lw_p61 : lw_okq (⟨"SeasonTiersModel", "ownCycle", "(I)I"⟩, 32) := ⟨⟨by decide +kernel, by decide +kernel⟩, List.mem_of_getElem? (i := 1087) (by decide +kernel), List.mem_of_getElem? (i := 1426) (by decide +kernel), List.mem_of_getElem? (i := 1427) (by decide +kernel)⟩
theorem lw_p62 : lw_okq (⟨"SeasonTiersModel", "strange", "(II)I"⟩, 32) := ⟨⟨by decide +kernel, by decide +kernel⟩, List.mem_of_getElem? (i := 1087) (by decide +kernel), List.mem_of_getElem? (i := 1430) (by decide +kernel), List.mem_of_getElem? (i := 1431) (by decide +kernel)⟩
theorem lw_p63 : lw_okq (⟨"SeasonTiersModel", "sumOf", "(II)J"⟩, 32) := ⟨⟨by decide +kernel, by decide +kernel⟩, List.mem_of_getElem? (i := 1087) (by decide +kernel), List.mem_of_getElem? (i := 1442) (by decide +kernel), List.mem_of_getElem? (i := 1443) (by decide +kernel)⟩
def lw_privs_4 : List (MethodName × Nat) := [(⟨"SeasonTiersModel", "ofTier", "(II)I"⟩, 32), (⟨"SeasonTiersModel", "fullOf", "(I)I"⟩, 32), (⟨"SeasonTiersModel", "of", "(II)I"⟩, 32), (⟨"SeasonTiersModel", "pinned", "()I"⟩, 32), (⟨"SeasonTiersModel", "isPinned", "(I)Z"⟩, 32), (⟨"SeasonTiersModel", "sizes", "()I"⟩, 32), (⟨"SeasonTiersModel", "isTier", "(I)Z"⟩, 32), (⟨"SeasonTiersModel", "filesOn", "(I)I"⟩, 32), (⟨"SeasonTiersModel", "busiest", "(I)I"⟩, 32), (⟨"SeasonTiersModel", "forecastOf", "(II)I"⟩, 32), (⟨"SeasonTiersModel", "knownOf", "(I)I"⟩, 32), (⟨"SeasonTiersModel", "isFile", "(I)Z"⟩, 32), (⟨"SeasonTiersModel", "seasonsOf", "(IZ)I"⟩, 32), (⟨"SeasonTiersModel", "ownCycle", "(I)I"⟩, 32), (⟨"SeasonTiersModel", "strange", "(II)I"⟩, 32), (⟨"SeasonTiersModel", "sumOf", "(II)J"⟩, 32)]
theorem lw_r4 : ∀ q ∈ lw_privs_4, lw_okq q := List.forall_mem_cons.mpr ⟨lw_p48, List.forall_mem_cons.mpr ⟨lw_p49, List.forall_mem_cons.mpr ⟨lw_p50, List.forall_mem_cons.mpr ⟨lw_p51, List.forall_mem_cons.mpr ⟨lw_p52, List.forall_mem_cons.mpr ⟨lw_p53, List.forall_mem_cons.mpr ⟨lw_p54, List.forall_mem_cons.mpr ⟨lw_p55, List.forall_mem_cons.mpr ⟨lw_p56, List.forall_mem_cons.mpr ⟨lw_p57, List.forall_mem_cons.mpr ⟨lw_p58, List.forall_mem_cons.mpr ⟨lw_p59, List.forall_mem_cons.mpr ⟨lw_p60, List.forall_mem_cons.mpr ⟨lw_p61, List.forall_mem_cons.mpr ⟨lw_p62, List.forall_mem_cons.mpr ⟨lw_p63, fun _ h => absurd h List.not_mem_nil⟩⟩⟩⟩⟩⟩⟩⟩⟩⟩⟩⟩⟩⟩⟩⟩
theorem lw_p64 : lw_okq (⟨"SeasonTiersModel", "costOn", "(III)J"⟩, 32) := ⟨⟨by decide +kernel, by decide +kernel⟩, List.mem_of_getElem? (i := 1087) (by decide +kernel), List.mem_of_getElem? (i := 1457) (by decide +kernel), List.mem_of_getElem? (i := 1458) (by decide +kernel)⟩
theorem lw_p65 : lw_okq (⟨"SeasonTiersModel", "laysCosts", "(I)V"⟩, 32) := ⟨⟨by decide +kernel, by decide +kernel⟩, List.mem_of_getElem? (i := 1087) (by decide +kernel), List.mem_of_getElem? (i := 1466) (by decide +kernel), List.mem_of_getElem? (i := 1467) (by decide +kernel)⟩
theorem lw_p66 : lw_okq (⟨"SeasonTiersModel", "savesBy", "(III)J"⟩, 32) := ⟨⟨by decide +kernel, by decide +kernel⟩, List.mem_of_getElem? (i := 1087) (by decide +kernel), List.mem_of_getElem? (i := 1470) (by decide +kernel), List.mem_of_getElem? (i := 1471) (by decide +kernel)⟩
theorem lw_p67 : lw_okq (⟨"SeasonTiersModel", "plans", "(III)V"⟩, 32) := ⟨⟨by decide +kernel, by decide +kernel⟩, List.mem_of_getElem? (i := 1087) (by decide +kernel), List.mem_of_getElem? (i := 1478) (by decide +kernel), List.mem_of_getElem? (i := 1479) (by decide +kernel)⟩
theorem lw_p68 : lw_okq (⟨"SeasonTiersModel", "findsStep", "()Z"⟩, 32) := ⟨⟨by decide +kernel, by decide +kernel⟩, List.mem_of_getElem? (i := 1087) (by decide +kernel), List.mem_of_getElem? (i := 1482) (by decide +kernel), List.mem_of_getElem? (i := 1483) (by decide +kernel)⟩
theorem lw_p69 : lw_okq (⟨"SeasonTiersModel", "findsMove", "()V"⟩, 32) := ⟨⟨by decide +kernel, by decide +kernel⟩, List.mem_of_getElem? (i := 1087) (by decide +kernel), List.mem_of_getElem? (i := 1486) (by decide +kernel), List.mem_of_getElem? (i := 1487) (by decide +kernel)⟩
theorem lw_p70 : lw_okq (⟨"SeasonTiersModel", "canGo", "(I)Z"⟩, 32) := ⟨⟨by decide +kernel, by decide +kernel⟩, List.mem_of_getElem? (i := 1087) (by decide +kernel), List.mem_of_getElem? (i := 1490) (by decide +kernel), List.mem_of_getElem? (i := 1491) (by decide +kernel)⟩
theorem lw_p71 : lw_okq (⟨"SeasonTiersModel", "found", "(IIIJ)V"⟩, 32) := ⟨⟨by decide +kernel, by decide +kernel⟩, List.mem_of_getElem? (i := 1087) (by decide +kernel), List.mem_of_getElem? (i := 1494) (by decide +kernel), List.mem_of_getElem? (i := 1495) (by decide +kernel)⟩
theorem lw_p72 : lw_okq (⟨"SeasonTiersModel", "findsExchange", "()V"⟩, 32) := ⟨⟨by decide +kernel, by decide +kernel⟩, List.mem_of_getElem? (i := 1087) (by decide +kernel), List.mem_of_getElem? (i := 1498) (by decide +kernel), List.mem_of_getElem? (i := 1499) (by decide +kernel)⟩
theorem lw_p73 : lw_okq (⟨"SeasonTiersModel", "goesOnPaper", "(II)V"⟩, 32) := ⟨⟨by decide +kernel, by decide +kernel⟩, List.mem_of_getElem? (i := 1087) (by decide +kernel), List.mem_of_getElem? (i := 1502) (by decide +kernel), List.mem_of_getElem? (i := 1503) (by decide +kernel)⟩
theorem lw_p74 : lw_okq (⟨"SeasonTiersModel", "closes", "(I)V"⟩, 32) := ⟨⟨by decide +kernel, by decide +kernel⟩, List.mem_of_getElem? (i := 1087) (by decide +kernel), List.mem_of_getElem? (i := 1538) (by decide +kernel), List.mem_of_getElem? (i := 1539) (by decide +kernel)⟩
theorem lw_p75 : lw_okq (⟨"SeasonTiersModel", "pays", "(IIJ)V"⟩, 32) := ⟨⟨by decide +kernel, by decide +kernel⟩, List.mem_of_getElem? (i := 1087) (by decide +kernel), List.mem_of_getElem? (i := 1542) (by decide +kernel), List.mem_of_getElem? (i := 1543) (by decide +kernel)⟩
theorem lw_p76 : lw_okq (⟨"SeasonTiersModel", "learns", "(III)V"⟩, 32) := ⟨⟨by decide +kernel, by decide +kernel⟩, List.mem_of_getElem? (i := 1087) (by decide +kernel), List.mem_of_getElem? (i := 1546) (by decide +kernel), List.mem_of_getElem? (i := 1547) (by decide +kernel)⟩
theorem lw_p77 : lw_okq (⟨"SeasonTiersModel", "keepsUses", "(I)V"⟩, 32) := ⟨⟨by decide +kernel, by decide +kernel⟩, List.mem_of_getElem? (i := 1087) (by decide +kernel), List.mem_of_getElem? (i := 1550) (by decide +kernel), List.mem_of_getElem? (i := 1551) (by decide +kernel)⟩
theorem lw_p78 : lw_okq (⟨"SeasonTiersModel", "goes", "(II)I"⟩, 32) := ⟨⟨by decide +kernel, by decide +kernel⟩, List.mem_of_getElem? (i := 1087) (by decide +kernel), List.mem_of_getElem? (i := 1558) (by decide +kernel), List.mem_of_getElem? (i := 1559) (by decide +kernel)⟩
theorem lw_p79 : lw_okq (⟨"SeasonTiersModel", "relearns", "(I)V"⟩, 32) := ⟨⟨by decide +kernel, by decide +kernel⟩, List.mem_of_getElem? (i := 1087) (by decide +kernel), List.mem_of_getElem? (i := 1579) (by decide +kernel), List.mem_of_getElem? (i := 1580) (by decide +kernel)⟩
def lw_privs_5 : List (MethodName × Nat) := [(⟨"SeasonTiersModel", "costOn", "(III)J"⟩, 32), (⟨"SeasonTiersModel", "laysCosts", "(I)V"⟩, 32), (⟨"SeasonTiersModel", "savesBy", "(III)J"⟩, 32), (⟨"SeasonTiersModel", "plans", "(III)V"⟩, 32), (⟨"SeasonTiersModel", "findsStep", "()Z"⟩, 32), (⟨"SeasonTiersModel", "findsMove", "()V"⟩, 32), (⟨"SeasonTiersModel", "canGo", "(I)Z"⟩, 32), (⟨"SeasonTiersModel", "found", "(IIIJ)V"⟩, 32), (⟨"SeasonTiersModel", "findsExchange", "()V"⟩, 32), (⟨"SeasonTiersModel", "goesOnPaper", "(II)V"⟩, 32), (⟨"SeasonTiersModel", "closes", "(I)V"⟩, 32), (⟨"SeasonTiersModel", "pays", "(IIJ)V"⟩, 32), (⟨"SeasonTiersModel", "learns", "(III)V"⟩, 32), (⟨"SeasonTiersModel", "keepsUses", "(I)V"⟩, 32), (⟨"SeasonTiersModel", "goes", "(II)I"⟩, 32), (⟨"SeasonTiersModel", "relearns", "(I)V"⟩, 32)]
theorem lw_r5 : ∀ q ∈ lw_privs_5, lw_okq q := List.forall_mem_cons.mpr ⟨lw_p64, List.forall_mem_cons.mpr ⟨lw_p65, List.forall_mem_cons.mpr ⟨lw_p66, List.forall_mem_cons.mpr ⟨lw_p67, List.forall_mem_cons.mpr ⟨lw_p68, List.forall_mem_cons.mpr ⟨lw_p69, List.forall_mem_cons.mpr ⟨lw_p70, List.forall_mem_cons.mpr ⟨lw_p71, List.forall_mem_cons.mpr ⟨lw_p72, List.forall_mem_cons.mpr ⟨lw_p73, List.forall_mem_cons.mpr ⟨lw_p74, List.forall_mem_cons.mpr ⟨lw_p75, List.forall_mem_cons.mpr ⟨lw_p76, List.forall_mem_cons.mpr ⟨lw_p77, List.forall_mem_cons.mpr ⟨lw_p78, List.forall_mem_cons.mpr ⟨lw_p79, fun _ h => absurd h List.not_mem_nil⟩⟩⟩⟩⟩⟩⟩⟩⟩⟩⟩⟩⟩⟩⟩⟩
theorem lw_p80 : lw_okq (⟨"SeasonTiersModel", "says", "(J)V"⟩, 32) := ⟨⟨by decide +kernel, by decide +kernel⟩, List.mem_of_getElem? (i := 1087) (by decide +kernel), List.mem_of_getElem? (i := 1592) (by decide +kernel), List.mem_of_getElem? (i := 1593) (by decide +kernel)⟩
theorem lw_p81 : lw_okq (⟨"SeasonTiersModel", "saysName", "(I)V"⟩, 32) := ⟨⟨by decide +kernel, by decide +kernel⟩, List.mem_of_getElem? (i := 1087) (by decide +kernel), List.mem_of_getElem? (i := 1596) (by decide +kernel), List.mem_of_getElem? (i := 1597) (by decide +kernel)⟩
def lw_privs_6 : List (MethodName × Nat) := [(⟨"SeasonTiersModel", "says", "(J)V"⟩, 32), (⟨"SeasonTiersModel", "saysName", "(I)V"⟩, 32)]
theorem lw_r6 : ∀ q ∈ lw_privs_6, lw_okq q := List.forall_mem_cons.mpr ⟨lw_p80, List.forall_mem_cons.mpr ⟨lw_p81, fun _ h => absurd h List.not_mem_nil⟩⟩
def lw_privs : List (MethodName × Nat) := lw_privs_1 ++ (lw_privs_2 ++ (lw_privs_3 ++ (lw_privs_4 ++ (lw_privs_5 ++ (lw_privs_6)))))
def lw_tbl : List Cond := k2_sels lw_privs ++ tables_1
theorem lw_privs_ok : ∀ q ∈ lw_privs, lw_okq q := by
  show ∀ q ∈ lw_privs_1 ++ (lw_privs_2 ++ (lw_privs_3 ++ (lw_privs_4 ++ (lw_privs_5 ++ (lw_privs_6))))), lw_okq q
  exact List.forall_mem_append.mpr ⟨lw_r1, List.forall_mem_append.mpr ⟨lw_r2, List.forall_mem_append.mpr ⟨lw_r3, List.forall_mem_append.mpr ⟨lw_r4, List.forall_mem_append.mpr ⟨lw_r5, lw_r6⟩⟩⟩⟩⟩
/-- the streams that the claim lets the run draw from -/
abbrev lw_cs : List Choice := [Jvm.Choice.named "NaN.bits"]
theorem lw_bits : nanBits ∈ lw_cs := by first | decide | exact List.mem_cons_self | simp [lw_cs, nanBits]
-- ===== end of PART A; then your names; then what follows =====
end
section
/-! ===== BEGIN words of one list among another's, by their places ===== -/
theorem goodIn_r {big : List Cond} (ws : List Cond) (ps : List Nat) (hp : ws = ps.filterMap (fun i => big[i]?)) (h : ws.all goodWord = true) : GoodIn big ws := by
  intro w hw
  have h1 := List.all_eq_true.mp h w hw
  rw [hp] at hw
  obtain ⟨i, -, hi⟩ := List.mem_filterMap.mp hw
  have hm : w ∈ big := by first | exact List.mem_of_getElem? hi | exact List.getElem?_mem hi
  exact ⟨hm, good_of_word h1⟩
theorem goodIn_app {big a b : List Cond} (ha : GoodIn big a) (hb : GoodIn big b) : GoodIn big (a ++ b) := fun w h => (List.mem_append.mp h).elim (ha w) (hb w)
theorem goodIn_ca {big a b : List Cond} {c : Cond} (ha : GoodIn big (c :: a)) (hb : GoodIn big b) : GoodIn big (c :: (a ++ b)) := fun w h => (List.mem_cons.mp h).elim (fun e => ha w (List.mem_cons.mpr (Or.inl e))) (fun h => (List.mem_append.mp h).elim (fun h => ha w (List.mem_cons.mpr (Or.inr h))) (hb w))
theorem goodIn_sub {big ws : List Cond} (hm : ∀ w ∈ ws, w ∈ big) (h : ws.all goodWord = true) : GoodIn big ws := fun w hw => ⟨hm w hw, good_of_word (List.all_eq_true.mp h w hw)⟩
/-! ===== END ===== -/

/-! ===== BEGIN exceptions that leave a method, and their catching by the caller (launches without stack traces) ===== -/
section VXA
/-! The laws vx_back, vx_callV, vx_callS, vx_callSW, vx_throw0, vx_throwS follow proofs of the library, with one case more: JvmDerived/Free/Laws.lean (Back.of_free), Shelf42/LK1.lean (callV, callS), Shelf/KitTraced.lean (throwNew0V, throwNewS). -/
/-- where a method has thrown q: the class by its name, the cell, what was written, the world -/
def vx_T (XC : String → State → State → Prop) (st : State) (q : Addr) (t : State) (mc ms : Nat) (free : Addr → Prop) : Prop :=
  ∃ (E : String) (ce : Cell) (L : List Loc), XC E st t ∧ t.heap[q]? = some ce ∧ ce.vm = .none ∧ st.vm.findClass E = some ce.cls ∧ st.WarmedH t.vm ∧ st.sameButNew ({ t with vm := st.vm } : State) L mc ms ∧ ∀ z ∈ L, free z.base
def vx_Q (Qc : Array Value → State → Outcome → State → Prop) (XC : String → State → State → Prop) (mc ms : Nat) (free : Addr → Prop) : Array Value → State → Outcome → State → Prop := fun a st o t =>
  (Qc a st o t ∧ ∃ L, FrameEnd st o t L mc ms ∧ ∀ q ∈ L, free q.base) ∨ ∃ q, o = .threw q ∧ vx_T XC st q t mc ms free
/-- a callee that returns or throws -/
def vx_Met (l : Launch) (y : MethodName) (ws : List Cond) (rm : Room) (Pc : Array Value → State → Prop) (Qc : Array Value → State → Outcome → State → Prop) (XC : String → State → State → Prop) (mc ms : Nat) (free : Addr → Prop) : Prop :=
  MetFree l y (headSpec ws rm) Pc (fun _ _ _ _ _ => True) (vx_Q Qc XC mc ms free)
def vx_Post (XC : String → State → State → Prop) (mc ms : Nat) (free : Addr → Prop) : Pt → Array Value → Addr → Pt → Prop := fun A a q B =>
  ∃ (g : JFrame) (mk : MethodId) (t : State) (L : List Loc) (E : String) (ce : Cell), B.U.heap = t.heap ∧ B.U.vm = t.vm ∧ XC E (A.U.calling g mk a) t ∧ t.heap[q]? = some ce ∧ ce.vm = .none ∧ A.U.vm.findClass E = some ce.cls ∧ B.locs = A.locs ++ L ∧ (∀ z ∈ L, free z.base) ∧ B.cells = A.cells + mc ∧ B.slots = A.slots + ms
def vx_Back (l : Launch) (R : Room) (p : Program) (e : Env) (below : List Frame) (s : State) (sargs : Array Value) (y : MethodName) (len W9 : Nat)
    (Pre : Pt → Array Value → Prop) (Post : Pt → Array Value → Option Value → Pt → Prop) (PostX : Pt → Array Value → Addr → Pt → Prop) : Prop :=
  ∀ (m : MethodId) (meth : Method) (c : Code) (A : Pt) (g : JFrame) (ig : Instr) (mk : MethodId) (a : Array Value),
    Stand p l e R s m sargs below meth c A.U A.locs A.cells A.slots → g.method = m → g.locals.size = c.maxLocals → decode c.code g.pc = .ok (ig, len) →
    2 * g.monitorRoom + (g.stack.map fun v => v.category).sum ≤ W9 → A.U.methodNamed? y = some mk → Pre A a →
    (∃ (v : Option Value) (B : Pt), Stand p l e R s m sargs below meth c B.U B.locs B.cells B.slots ∧ Post A a v B ∧
      Steps p.tables e below (doInvoke e (A.U.setTop g) [] mk a).1 (B.U.setTop { g with pc := g.pc + len, stack := v.toList ++ g.stack })) ∨
    (∃ (q : Addr) (B : Pt), Stand p l e R s m sargs below meth c B.U B.locs B.cells B.slots ∧ PostX A a q B ∧
      Steps p.tables e below (doInvoke e (A.U.setTop g) [] mk a).1 ((B.U.setTop g).pushFrame (.throwing q)))
section Payer
variable {l : Launch} {R : Room} {p : Program} {e : Env} {below : List Frame} {s : State} {sargs : Array Value} {y : MethodName} {len W9 : Nat}
theorem vx_back {ws : List Cond} {rm : Room} {Pc : Array Value → State → Prop} {Qc : Array Value → State → Outcome → State → Prop} {XC : String → State → State → Prop} {mc ms : Nat} {free : Addr → Prop} {bytes : ByteArray} {maxL : Nat} {ret : Option FieldType}
    (hM : vx_Met l y ws rm Pc Qc XC mc ms free) (hblind : FrameBlind Pc) (hrc : rm.cells = mc) (hrs : rm.slots = ms)
    (hframes : rm.frames + 1 ≤ R.frames) (hlocals : W9 + (maxL + 11) + rm.locals ≤ R.locals)
    (hws : ∀ w ∈ ws, ∀ a' U, s.WarmedH U.vm → w.before a' U = true) (hcode : Cond.code y bytes maxL ret ∈ ws) (hinit : ∀ a' U, s.WarmedH U.vm → (Cond.initialized y.cls).before a' U = true) :
    vx_Back l R p e below s sargs y len W9 (PreOf R mc ms Pc) (PostOf Qc mc ms free) (vx_Post XC mc ms free) := by
  intro m meth c A g ig mk a X hg hsize hdg hW hn hp
  have h1 : (headSpec ws rm).pre.before a A.U = true := atoms_intro fun w hw => hws w hw _ _ X.warmed
  have h2 : (Cond.code y bytes maxL ret).before a A.U = true := hws _ hcode _ _ X.warmed
  have h3 : (Cond.initialized y.cls).before a A.U = true := hinit _ _ X.warmed
  have h4 : A.cells + (headSpec ws rm).room.cells ≤ R.cells := by rw [show (headSpec ws rm).room.cells = mc from hrc]; exact hp.1
  have h5 : A.slots + (headSpec ws rm).room.slots ≤ R.slots := by rw [show (headSpec ws rm).room.slots = ms from hrs]; exact hp.2.1
  have hPc : Pc a (A.U.calling g mk a) := hblind _ _ _ _ hp.2.2
  obtain ⟨U, Ls, c0, s0⟩ := A
  dsimp only [Pt.U, Pt.locs, Pt.cells, Pt.slots] at h1 h2 h3 h4 h5 X hn hPc ⊢
  obtain ⟨methY, cY, hmY, hcY, -, hlY, -, -, -, -⟩ := Cond.code_spec hn h2
  obtain ⟨kY, hkY, -⟩ := className_of_methodNamed hn
  have hinitY : kY.init = .initialized := Cond.initialized_spec (findClass_of_methodNamed hn) hkY h3
  have h : At U g.method c below := by rw [hg]; exact X.here
  have hlocals9 : W9 + (maxL + 11) + (headSpec ws rm).room.locals ≤ R.locals := hlocals
  have happ : (headSpec ws rm).appliesLoose y e.platform (U.calling g mk a) = true :=
    Spec.appliesLoose_calling (g := g) h hdg hn hkY hinitY
      (X.room_calling (g := g) (R' := (headSpec ws rm).room) hsize hmY hcY hframes (by rw [hlY]; omega) h4 h5) h1
  obtain ⟨mid, hmid⟩ := h.above
  have hfr : (U.setTop g).frames = (.java g :: mid) ++ below := by rw [State.frames_setTop' g h.top, hmid]; rfl
  obtain ⟨o, s₂, hsteps, -, hend, hq⟩ := Steps.callFree hM p X.admits X.cas X.clock (acts := []) hfr happ hPc trivial
  have hq' : vx_Q Qc XC mc ms free a (U.calling g mk a) o s₂ := hq
  rw [State.frames_setTop' g h.top] at hend
  obtain ⟨g₀, hg0⟩ := Option.isSome_iff_exists.mp h.top
  obtain ⟨r, hr⟩ := State.topJava?_eq_some.mp hg0
  have hr' : (({ U with heap := s₂.heap, slotsUsed := s₂.slotsUsed } : State).setVm s₂.vm).frames = .java g₀ :: r := hr
  rcases hq' with ⟨hqc, L, hfe, hL⟩ | ⟨q, rfl, E, ce, L, hx, hce, hcv, hcl, hW₂, hsm, hL⟩
  · obtain ⟨⟨v, rfl⟩, hW₂, e2, q2, q3, q4, q5, q6⟩ := id hfe
    have e3 : s₂ = ({ (U.calling g mk a).setFrames s₂.frames with heap := s₂.heap, slotsUsed := s₂.slotsUsed } : State).setVm s₂.vm := by
      have : s₂ = ({ s₂ with vm := (U.calling g mk a).vm } : State).setVm s₂.vm := rfl
      rw [e2] at this
      exact this
    obtain ⟨c₂, i₂, len₂, hc₂, hd₂, hf₂⟩ := hend
    have hW' : U.WarmedH s₂.vm := hW₂
    have hcc : c₂ = c := by
      have h1 : s₂.code? g.method = U.code? g.method := by
        rw [State.code?_eq, State.code?_eq, hW'.alike.method?]
      exact Option.some.inj (hc₂.symm.trans (h1.trans h.code))
    subst hcc
    have hlen : len₂ = len := by rw [hdg] at hd₂; cases hd₂; rfl
    subst hlen
    have hs₂ : s₂ = (({ U with heap := s₂.heap, slotsUsed := s₂.slotsUsed } : State).setVm s₂.vm).setTop { g with pc := g.pc + len₂, stack := v.toList ++ g.stack } := by
      refine e3.trans ?_
      rw [hf₂, State.calling_eq h.top, State.setFrames_setFrames, State.setTop_of_frames _ hr', hr]
      rfl
    have hsame : U.sameButNew ({ U with heap := s₂.heap, slotsUsed := s₂.slotsUsed } : State) L mc ms := by
      refine ⟨?_, q2, q3, q4, q5, q6⟩
      obtain ⟨t, ht, -⟩ := State.frames_cons hr
      show ({ U with heap := s₂.heap, slotsUsed := s₂.slotsUsed } : State) = { U.setFrames U.frames with heap := s₂.heap, slotsUsed := s₂.slotsUsed }
      rw [State.setFrames_self ht]
    subst hg
    refine Or.inl ⟨v, ⟨(({ U with heap := s₂.heap, slotsUsed := s₂.slotsUsed } : State).setVm s₂.vm), Ls ++ L, c0 + mc, s0 + ms⟩,
      ⟨X.admits, X.cas, X.clock, X.frames, X.room, X.hears, X.method, X.code, (X.here.setHeapUsed s₂.heap s₂.slotsUsed).setVm hW'.alike, X.tail, State.WarmedH.trans X.warmed hW', X.limits, X.bytes, X.same.trans (hsame.setVm s.vm)⟩,
      ⟨g, mk, s₂, L, rfl, rfl, hqc, rfl, hL, rfl, rfl⟩, ?_⟩
    show Steps p.tables e below _ ((({ U with heap := s₂.heap, slotsUsed := s₂.slotsUsed } : State).setVm s₂.vm).setTop { g with pc := g.pc + len₂, stack := v.toList ++ g.stack })
    rw [← hs₂]
    exact hsteps
  · obtain ⟨e2, q2, q3, q4, q5, q6⟩ := id hsm
    have e3 : s₂ = ({ (U.calling g mk a).setFrames s₂.frames with heap := s₂.heap, slotsUsed := s₂.slotsUsed } : State).setVm s₂.vm := by
      have : s₂ = ({ s₂ with vm := (U.calling g mk a).vm } : State).setVm s₂.vm := rfl
      rw [e2] at this
      exact this
    have hf₂ : s₂.frames = .throwing q :: .java g :: U.frames.tail := hend
    have hW' : U.WarmedH s₂.vm := hW₂
    have hs₂ : s₂ = ((({ U with heap := s₂.heap, slotsUsed := s₂.slotsUsed } : State).setVm s₂.vm).setTop g).pushFrame (.throwing q) := by
      refine e3.trans ?_
      rw [hf₂, State.calling_eq h.top, State.setFrames_setFrames, State.pushFrame, State.frames_setTop _ hr', State.setTop_of_frames _ hr', State.setFrames_setFrames, hr]
      rfl
    have hsame : U.sameButNew ({ U with heap := s₂.heap, slotsUsed := s₂.slotsUsed } : State) L mc ms := by
      refine ⟨?_, q2, q3, q4, q5, q6⟩
      obtain ⟨t, ht, -⟩ := State.frames_cons hr
      show ({ U with heap := s₂.heap, slotsUsed := s₂.slotsUsed } : State) = { U.setFrames U.frames with heap := s₂.heap, slotsUsed := s₂.slotsUsed }
      rw [State.setFrames_self ht]
    subst hg
    refine Or.inr ⟨q, ⟨(({ U with heap := s₂.heap, slotsUsed := s₂.slotsUsed } : State).setVm s₂.vm), Ls ++ L, c0 + mc, s0 + ms⟩,
      ⟨X.admits, X.cas, X.clock, X.frames, X.room, X.hears, X.method, X.code, (X.here.setHeapUsed s₂.heap s₂.slotsUsed).setVm hW'.alike, X.tail, State.WarmedH.trans X.warmed hW', X.limits, X.bytes, X.same.trans (hsame.setVm s.vm)⟩,
      ⟨g, mk, s₂, L, E, ce, rfl, rfl, hx, hce, hcv, hcl, rfl, hL, rfl, rfl⟩, ?_⟩
    show Steps p.tables e below _ (((({ U with heap := s₂.heap, slotsUsed := s₂.slotsUsed } : State).setVm s₂.vm).setTop g).pushFrame (.throwing q))
    rw [← hs₂]
    exact hsteps
end Payer
section Calls
variable {p : Program} {l : Launch} {e : Env} {R : Room} {s : State} {m : MethodId} {args : Array Value} {below : List Frame} {meth : Method} {c : Code} {T : State} {locs : List Loc} {cells slots : Nat}
theorem vx_callV (X : Stand p l e R s m args below meth c T locs cells slots) (hexec : p.tables.exec = Jvm.exec) {own C : String} {index : Nat} {y : MethodName} {bytes : ByteArray} {maxL : Nat} {ret : Option FieldType}
    (hown : s.vm.findClass own = some m.cls) (hlink : (Cond.methodLink own index y).before args s = true) (hinst : (Cond.instanceMethod y).before args s = true) (hsel : (Cond.selects C y y).before args s = true)
    (hcode : (Cond.code y bytes maxL ret).before args s = true) (hy : y.cls ≠ "java/lang/invoke/MethodHandle" ∧ y.cls ≠ "java/lang/invoke/VarHandle")
    {W9 : Nat} {Pre : Pt → Array Value → Prop} {Post : Pt → Array Value → Option Value → Pt → Prop} {PostX : Pt → Array Value → Addr → Pt → Prop} (hK : vx_Back l R p e below s args y 3 W9 Pre Post PostX)
    {b : Addr} {cellB : Cell} (hcell : T.heap[b]? = some cellB) (hobj : cellB.vm.isStatics = false) (hcls : s.vm.findClass C = some cellB.cls)
    {g : JFrame} (hg : g.method = m) (hsize : g.locals.size = c.maxLocals) {argsL rest : List Value} (hlen : ∀ sig, parseMethodDescriptor y.desc = some sig → argsL.length = sig.parameters.length)
    (hstack : g.stack = argsL.reverse ++ .ref b :: rest) (hW : 2 * g.monitorRoom + (rest.map fun v => v.category).sum ≤ W9) (hdg : decode c.code g.pc = .ok (.invokevirtual index, 3))
    (hpre : ∀ vm₁, s.WarmedH vm₁ → Pre ⟨T.setVm vm₁, locs, cells, slots⟩ (Value.ref b :: argsL).toArray) :
    (∃ (v : Option Value) (vm₁ : Vm) (B : Pt), s.WarmedH vm₁ ∧ Stand p l e R s m args below meth c B.U B.locs B.cells B.slots ∧ Post ⟨T.setVm vm₁, locs, cells, slots⟩ (Value.ref b :: argsL).toArray v B ∧
      ∀ target, Steps p.tables e below (B.U.setTop { g with pc := g.pc + 3, stack := v.toList ++ rest }) target → Steps p.tables e below (T.setTop g) target) ∨
    (∃ (q : Addr) (vm₁ : Vm) (B : Pt), s.WarmedH vm₁ ∧ Stand p l e R s m args below meth c B.U B.locs B.cells B.slots ∧ PostX ⟨T.setVm vm₁, locs, cells, slots⟩ (Value.ref b :: argsL).toArray q B ∧
      Steps p.tables e below (T.setTop g) ((B.U.setTop { g with stack := rest }).pushFrame (.throwing q))) := by
  obtain ⟨mk, methM, hnamed, hmethM, hstM, habM⟩ := Cond.instanceMethod_spec hinst
  obtain ⟨methM', cM, hmethM', -, -, -, -, -, -, hsigM⟩ := Cond.code_spec hnamed hcode
  cases hmethM.symm.trans hmethM'
  obtain ⟨c2, r2, m2, q1, q2, q3, q4, kP, hkP, hkPi⟩ := Cond.selects_spec hsel
  cases hcls.symm.trans q1
  cases (State.methodFound?_of_named hnamed hy).symm.trans q2
  cases hnamed.symm.trans q3
  have hselP : selectMethod e.platform s.vm cellB.cls mk = .method mk := by rw [Launch.admits_selectMethod X.admits]; exact q4
  obtain ⟨vm₁, X₁, hstep₁⟩ := X.invokevirtual hexec hown hlink hnamed hmethM hstM hkP hkPi hy (a := b) (cell := cellB) hcell
    (fun z h => by rw [h] at hobj; cases hobj) hselP hmethM habM hkP hkPi (g := g) hg (argsL := argsL) (rest := rest) (hlen _ hsigM) hstack hdg
  rcases hK m meth c ⟨T.setVm vm₁, locs, cells, slots⟩ { g with stack := rest } (.invokevirtual index) mk (Value.ref b :: argsL).toArray X₁ hg hsize hdg hW (X₁.named hnamed) (hpre vm₁ X₁.warmed) with ⟨v, B, X', hpost, hsteps⟩ | ⟨q, B, X', hpost, hsteps⟩
  · exact Or.inl ⟨v, vm₁, B, X₁.warmed, X', hpost, fun target h => hstep₁ _ fun acts => by rw [doInvoke_state]; exact hsteps.trans h⟩
  · exact Or.inr ⟨q, vm₁, B, X₁.warmed, X', hpost, hstep₁ _ fun acts => by rw [doInvoke_state]; exact hsteps⟩
theorem vx_callS (X : Stand p l e R s m args below meth c T locs cells slots) (hexec : p.tables.exec = Jvm.exec) {own : String} {index : Nat} {y : MethodName} {bytes : ByteArray} {maxL : Nat} {ret : Option FieldType}
    (hown : s.vm.findClass own = some m.cls) (hlink : (Cond.methodLink own index y).before args s = true) (hstat : (Cond.static y).before args s = true) (hinit : (Cond.initialized y.cls).before args s = true)
    (hcode : (Cond.code y bytes maxL ret).before args s = true) (hy : y.cls ≠ "java/lang/invoke/MethodHandle" ∧ y.cls ≠ "java/lang/invoke/VarHandle")
    {W9 : Nat} {Pre : Pt → Array Value → Prop} {Post : Pt → Array Value → Option Value → Pt → Prop} {PostX : Pt → Array Value → Addr → Pt → Prop} (hK : vx_Back l R p e below s args y 3 W9 Pre Post PostX)
    {g : JFrame} (hg : g.method = m) (hsize : g.locals.size = c.maxLocals) {argsL rest : List Value} (hlen : ∀ sig, parseMethodDescriptor y.desc = some sig → argsL.length = sig.parameters.length)
    (hstack : g.stack = argsL.reverse ++ rest) (hW : 2 * g.monitorRoom + (rest.map fun v => v.category).sum ≤ W9) (hdg : decode c.code g.pc = .ok (.invokestatic index, 3))
    (hpre : ∀ vm₁, s.WarmedH vm₁ → Pre ⟨T.setVm vm₁, locs, cells, slots⟩ argsL.toArray) :
    (∃ (v : Option Value) (vm₁ : Vm) (B : Pt), s.WarmedH vm₁ ∧ Stand p l e R s m args below meth c B.U B.locs B.cells B.slots ∧ Post ⟨T.setVm vm₁, locs, cells, slots⟩ argsL.toArray v B ∧
      ∀ target, Steps p.tables e below (B.U.setTop { g with pc := g.pc + 3, stack := v.toList ++ rest }) target → Steps p.tables e below (T.setTop g) target) ∨
    (∃ (q : Addr) (vm₁ : Vm) (B : Pt), s.WarmedH vm₁ ∧ Stand p l e R s m args below meth c B.U B.locs B.cells B.slots ∧ PostX ⟨T.setVm vm₁, locs, cells, slots⟩ argsL.toArray q B ∧
      Steps p.tables e below (T.setTop g) ((B.U.setTop { g with stack := rest }).pushFrame (.throwing q))) := by
  obtain ⟨mk, hnamed⟩ := Cond.code_named hcode
  obtain ⟨methM, cM, hmethM, -, -, -, -, -, -, hsigM⟩ := Cond.code_spec hnamed hcode
  have hstatic : methM.isStatic = true := Cond.static_spec hnamed hmethM hstat
  obtain ⟨kP, hkP, -⟩ := className_of_methodNamed hnamed
  have hinitP : kP.init = .initialized := Cond.initialized_spec (findClass_of_methodNamed hnamed) hkP hinit
  obtain ⟨vm₁, X₁, hstep₁⟩ := X.invokestatic hexec hown hlink hnamed hmethM hstatic hkP hinitP hy (g := g) hg (argsL := argsL) (rest := rest) (hlen _ hsigM) hstack hdg
  rcases hK m meth c ⟨T.setVm vm₁, locs, cells, slots⟩ { g with stack := rest } (.invokestatic index) mk argsL.toArray X₁ hg hsize hdg hW (X₁.named hnamed) (hpre vm₁ X₁.warmed) with ⟨v, B, X', hpost, hsteps⟩ | ⟨q, B, X', hpost, hsteps⟩
  · exact Or.inl ⟨v, vm₁, B, X₁.warmed, X', hpost, fun target h => hstep₁ _ fun acts => by rw [doInvoke_state]; exact hsteps.trans h⟩
  · exact Or.inr ⟨q, vm₁, B, X₁.warmed, X', hpost, hstep₁ _ fun acts => by rw [doInvoke_state]; exact hsteps⟩
end Calls
theorem vx_cls {s : State} {T : State} {vm₁ : Vm} {E : String} {k : ClassId} (hW : s.WarmedH vm₁) (h : (T.setVm vm₁).vm.findClass E = some k) : s.vm.findClass E = some k := by
  have h1 : vm₁.findClass E = some k := h
  rw [hW.alike.findClass] at h1
  exact h1
/-- the method's frame g, with q thrown over it -/
def vx_W (p : Program) (l : Launch) (e : Env) (R : Room) (s : State) (m : MethodId) (args : Array Value) (below : List Frame) (meth : Method) (c : Code) (H : Heap) (locs : List Loc) (cells slots : Nat) (Q : State → Prop) (g : JFrame) (q : Addr) : Prop :=
  ∀ T : State, T.heap = H → Stand p l e R s m args below meth c T locs cells slots → ∃ t, Steps p.tables e below ((T.setTop g).pushFrame (.throwing q)) t ∧ Q t
def vx_Run (p : Program) (l : Launch) (e : Env) (R : Room) (s : State) (m : MethodId) (args : Array Value) (below : List Frame) (meth : Method) (c : Code) (H : Heap) (locs : List Loc) (cells slots mc ms : Nat) (g : JFrame) (rest : List Value) (Qa : State → Outcome → State → Prop) (XC : String → State → State → Prop) (free : Addr → Prop) : Prop :=
  ∀ T : State, T.heap = H → Stand p l e R s m args below meth c T locs cells slots →
    (∃ (v : Option Value) (st₀ t T' : State) (L : List Loc), st₀.heap = H ∧ Stand p l e R s m args below meth c T' (locs ++ L) (cells + mc) (slots + ms) ∧ (∀ q ∈ L, free q.base) ∧ T'.heap = t.heap ∧ T'.vm = t.vm ∧ Qa st₀ (.returned v) t ∧
      Goes p e below T g T' { g with pc := g.pc + 3, stack := v.toList ++ rest }) ∨
    (∃ (q : Addr) (st₀ t T' : State) (L : List Loc) (E : String) (ce : Cell), st₀.heap = H ∧ Stand p l e R s m args below meth c T' (locs ++ L) (cells + mc) (slots + ms) ∧ (∀ z ∈ L, free z.base) ∧ T'.heap = t.heap ∧ T'.vm = t.vm ∧ XC E st₀ t ∧ t.heap[q]? = some ce ∧ ce.vm = .none ∧ s.vm.findClass E = some ce.cls ∧
      Steps p.tables e below (T.setTop g) ((T'.setTop { g with stack := rest }).pushFrame (.throwing q)))
def vx_X {S : Type} (px : S → Prop) (B : String → S → State → Prop) (A : Nat → Prop) : String → State → State → Prop := fun E st t => ∃ u : S, px u ∧ B E u t ∧ va_F A st t
section Runs
variable {p : Program} {l : Launch} {e : Env} {R : Room} {s : State} {m : MethodId} {args : Array Value} {below : List Frame} {meth : Method} {c : Code} {H : Heap} {locs : List Loc} {cells slots : Nat}
variable {y : MethodName} {bytes cc : ByteArray} {maxL nL mc ms n index : Nat} {ret : Option FieldType} {ws : List Cond} {rm : Room} {Pc : Array Value → State → Prop} {Qc : Array Value → State → Outcome → State → Prop} {XC : String → State → State → Prop} {free : Addr → Prop} {Ts : List Cond} {own C : String} {b : Addr} {As rest : List Value} {g : JFrame}
theorem vx_callBack (cb : CallB R s args own index y bytes maxL ret ws rm mc ms n) (hM : vx_Met l y ws rm Pc Qc XC mc ms free) (hbl : FrameBlind Pc) : vx_Back l R p e below s args y 3 8 (PreOf R mc ms Pc) (PostOf Qc mc ms free) (vx_Post XC mc ms free) := by
  obtain ⟨hrc, hrs, hfr, hlo, hws, hcw, -, hini, -⟩ := cb
  exact vx_back (bytes := bytes) (maxL := maxL) (ret := ret) hM hbl hrc hrs hfr hlo hws hcw (fun a' U hW => word_at hW (Or.inl (by first | rfl | simp [Cond.onTables, Cond.keeps, Cond.steady])) hini)
theorem vx_runV (S : CallFix p m c cc nL s args Ts own) (hM : vx_Met l y ws rm Pc Qc XC mc ms free) (cw : CallW R s args own C index y bytes maxL ret ws rm mc ms n) (hp : PreV s H C b Pc As)
    (hg : g.method = m) (hn : As.length = n) (hsize : g.locals.size = nL) (hstack : g.stack = As.reverse ++ .ref b :: rest) (hW : 2 * g.monitorRoom + (rest.map fun v => v.category).sum ≤ 8) (hdg : decode cc g.pc = .ok (.invokevirtual index, 3)) (hf : cells + mc ≤ R.cells ∧ slots + ms ≤ R.slots) :
    vx_Run p l e R s m args below meth c H locs cells slots mc ms g rest (Qc (Value.ref b :: As).toArray) XC free := by
  have hK : vx_Back l R p e below s args y 3 8 (PreOf R mc ms Pc) (PostOf Qc mc ms free) (vx_Post XC mc ms free) := vx_callBack cw.1 hM hp.1
  obtain ⟨⟨-, -, -, -, -, -, hcode, -, hy, hlen, hl⟩, hin, hse⟩ := cw
  obtain ⟨hx, hb, hml, ho, -⟩ := S
  obtain ⟨-, ⟨cellB, hcB, hoB, hclB⟩, hPc⟩ := hp
  intro T hT X
  rcases vx_callV X hx (C := C) (bytes := bytes) (maxL := maxL) (ret := ret) ho hl hin hse hcode hy hK (by rw [hT]; exact hcB) hoB hclB hg (hsize.trans hml.symm) (argsL := As) (rest := rest) (fun sig h => hn.trans (hlen sig h)) hstack hW (by rw [hb]; exact hdg)
    (fun vm₁ hW₁ => ⟨hf.1, hf.2, hPc (T.setVm vm₁) hT hW₁⟩) with ⟨v, vm₁, ⟨U', l2, c2, s2⟩, hW₁, X', ⟨g', mk, t, L, e1, e2, hq, h1, hL, h2, h3⟩, st⟩ | ⟨q, vm₁, ⟨U', l2, c2, s2⟩, hW₁, X', ⟨g', mk, t, L, E, ce, e1, e2, hq, hce, hcv, hcl, h1, hL, h2, h3⟩, st⟩
  · dsimp only [Pt.U, Pt.locs, Pt.cells, Pt.slots] at X' e1 e2 h1 h2 h3 st
    subst h1; subst h2; subst h3
    exact Or.inl ⟨v, (T.setVm vm₁).calling g' mk (Value.ref b :: As).toArray, t, U', L, hT, X', hL, e1, e2, hq, st⟩
  · dsimp only [Pt.U, Pt.locs, Pt.cells, Pt.slots] at X' e1 e2 h1 h2 h3 st hcl
    subst h1; subst h2; subst h3
    exact Or.inr ⟨q, (T.setVm vm₁).calling g' mk (Value.ref b :: As).toArray, t, U', L, E, ce, hT, X', hL, e1, e2, hq, hce, hcv, vx_cls hW₁ hcl, st⟩
theorem vx_runS (S : CallFix p m c cc nL s args Ts own) (hM : vx_Met l y ws rm Pc Qc XC mc ms free) (cw : CallB R s args own index y bytes maxL ret ws rm mc ms n ∧ (Cond.static y).before args s = true) (hp : PreS s H Pc As)
    (hg : g.method = m) (hn : As.length = n) (hsize : g.locals.size = nL) (hstack : g.stack = As.reverse ++ rest) (hW : 2 * g.monitorRoom + (rest.map fun v => v.category).sum ≤ 8) (hdg : decode cc g.pc = .ok (.invokestatic index, 3)) (hf : cells + mc ≤ R.cells ∧ slots + ms ≤ R.slots) :
    vx_Run p l e R s m args below meth c H locs cells slots mc ms g rest (Qc As.toArray) XC free := by
  have hK : vx_Back l R p e below s args y 3 8 (PreOf R mc ms Pc) (PostOf Qc mc ms free) (vx_Post XC mc ms free) := vx_callBack cw.1 hM hp.1
  obtain ⟨⟨-, -, -, -, -, -, hcode, hini, hy, hlen, hl⟩, hstt⟩ := cw
  obtain ⟨hx, hb, hml, ho, -⟩ := S
  intro T hT X
  rcases vx_callS X hx (bytes := bytes) (maxL := maxL) (ret := ret) ho hl hstt hini hcode hy hK hg (hsize.trans hml.symm) (argsL := As) (rest := rest) (fun sig h => hn.trans (hlen sig h)) hstack hW (by rw [hb]; exact hdg)
    (fun vm₁ hW₁ => ⟨hf.1, hf.2, hp.2 (T.setVm vm₁) hT hW₁⟩) with ⟨v, vm₁, ⟨U', l2, c2, s2⟩, hW₁, X', ⟨g', mk, t, L, e1, e2, hq, h1, hL, h2, h3⟩, st⟩ | ⟨q, vm₁, ⟨U', l2, c2, s2⟩, hW₁, X', ⟨g', mk, t, L, E, ce, e1, e2, hq, hce, hcv, hcl, h1, hL, h2, h3⟩, st⟩
  · dsimp only [Pt.U, Pt.locs, Pt.cells, Pt.slots] at X' e1 e2 h1 h2 h3 st
    subst h1; subst h2; subst h3
    exact Or.inl ⟨v, (T.setVm vm₁).calling g' mk As.toArray, t, U', L, hT, X', hL, e1, e2, hq, st⟩
  · dsimp only [Pt.U, Pt.locs, Pt.cells, Pt.slots] at X' e1 e2 h1 h2 h3 st hcl
    subst h1; subst h2; subst h3
    exact Or.inr ⟨q, (T.setVm vm₁).calling g' mk As.toArray, t, U', L, E, ce, hT, X', hL, e1, e2, hq, hce, hcv, vx_cls hW₁ hcl, st⟩
end Runs
section Rows
variable {p : Program} {l : Launch} {e : Env} {R : Room} {s : State} {m : MethodId} {args : Array Value} {below : List Frame} {meth : Method} {c : Code} {H : Heap} {locs : List Loc} {cells slots : Nat} {Q : State → Prop}
variable {mc ms : Nat} {free : Addr → Prop} {A0 A1 : Nat → Prop} {H0 : Heap} {a : Array Value} {pc : Nat} {ls : Array Slot} {st0 rest : List Value}
theorem vx_keep {st₀ t T' : State} {L : List Loc} (h0 : st₀.heap = H) (e1 : T'.heap = t.heap) (hS : va_S A0 H0 H locs) (hA : ∀ q, q < H.size → A1 q → A0 q) (hf : ∀ q, free q → A0 q) (hL : ∀ q ∈ L, free q.base) (hF : va_F A1 st₀ t) :
    H.size ≤ T'.heap.size ∧ (∀ q : Nat, q < H.size → ¬ A1 q → T'.heap[q]? = H[q]?) ∧ va_S A0 H0 T'.heap (locs ++ L) := by
  obtain ⟨hz, hk⟩ := hF
  rw [h0] at hz hk
  exact ⟨by rw [e1]; exact hz, fun q h1 h2 => by rw [e1]; exact hk q h1 h2,
    ⟨Nat.le_trans hS.1 (by rw [e1]; exact hz), fun q h1 h2 => by rw [e1, hk q (Nat.lt_of_lt_of_le h1 hS.1) (fun z => h2 (hA q (Nat.lt_of_lt_of_le h1 hS.1) z))]; exact hS.2.1 q h1 h2, fun q hq => by
      rcases List.mem_append.mp hq with h | h
      · exact hS.2.2 q h
      · exact hf _ (hL q h)⟩⟩
theorem vx_calli {S SX : Type} {post : Int32 → S → Prop} {px : SX → Prop} {B : S → State → Prop} {BX : String → SX → State → Prop} {AX : Nat → Prop} (hr : vx_Run p l e R s m args below meth c H locs cells slots mc ms (F0 m pc ls st0) rest (va_Qi post B A1 a) (vx_X px BX AX) free) (hS : va_S A0 H0 H locs) (hA : ∀ q, q < H.size → A1 q → A0 q) (hf : ∀ q, free q → A0 q) (hAX : ∀ q, q < H.size → AX q → A0 q)
    (kx : ∀ (E : String) (ce : Cell) (q9 : Addr) (u : SX) (t : State) (H1 : Heap) (locs1 : List Loc), t.heap = H1 → s.vm.Alike t.vm → px u → BX E u t → H.size ≤ H1.size → (∀ q : Nat, q < H.size → ¬ AX q → H1[q]? = H[q]?) → va_S A0 H0 H1 locs1 → H1[q9]? = some ce → ce.vm = .none → s.vm.findClass E = some ce.cls → vx_W p l e R s m args below meth c H1 locs1 (cells + mc) (slots + ms) Q (F0 m pc ls rest) q9)
    (kk : ∀ (r : Int32) (u : S) (t : State) (H1 : Heap) (locs1 : List Loc), t.heap = H1 → s.vm.Alike t.vm → post r u → B u t → H.size ≤ H1.size → (∀ q : Nat, q < H.size → ¬ A1 q → H1[q]? = H[q]?) → va_S A0 H0 H1 locs1 → W p l e R s m args below meth c H1 locs1 (cells + mc) (slots + ms) Q (F0 m (pc + 3) ls (.int r :: rest))) : W p l e R s m args below meth c H locs cells slots Q (F0 m pc ls st0) := by
  intro T hT X
  rcases hr T hT X with ⟨v, st₀, t, T', L, h0, X', hL, e1, e2, ⟨⟨r, u, hv, hp, hb⟩, hF⟩, st⟩ | ⟨q, st₀, t, T', L, E, ce, h0, X', hL, e1, e2, ⟨u, hp, hb, hF⟩, hce, hcv, hcl, st⟩
  · cases hv
    obtain ⟨k1, k2, k3⟩ := vx_keep h0 e1 hS hA hf hL hF
    obtain ⟨t2, a1, b1⟩ := kk r u t T'.heap (locs ++ L) e1.symm (by rw [← e2]; exact X'.warmed.alike) hp hb k1 k2 k3 T' rfl X'
    exact ⟨t2, st t2 a1, b1⟩
  · obtain ⟨k1, k2, k3⟩ := vx_keep h0 e1 hS hAX hf hL hF
    obtain ⟨t2, a1, b1⟩ := kx E ce q u t T'.heap (locs ++ L) e1.symm (by rw [← e2]; exact X'.warmed.alike) hp hb k1 k2 k3 (by rw [e1]; exact hce) hcv hcl T' rfl X'
    exact ⟨t2, st.trans a1, b1⟩
theorem vx_calll {S SX : Type} {post : Int64 → S → Prop} {px : SX → Prop} {B : S → State → Prop} {BX : String → SX → State → Prop} {AX : Nat → Prop} (hr : vx_Run p l e R s m args below meth c H locs cells slots mc ms (F0 m pc ls st0) rest (va_Ql post B A1 a) (vx_X px BX AX) free) (hS : va_S A0 H0 H locs) (hA : ∀ q, q < H.size → A1 q → A0 q) (hf : ∀ q, free q → A0 q) (hAX : ∀ q, q < H.size → AX q → A0 q)
    (kx : ∀ (E : String) (ce : Cell) (q9 : Addr) (u : SX) (t : State) (H1 : Heap) (locs1 : List Loc), t.heap = H1 → s.vm.Alike t.vm → px u → BX E u t → H.size ≤ H1.size → (∀ q : Nat, q < H.size → ¬ AX q → H1[q]? = H[q]?) → va_S A0 H0 H1 locs1 → H1[q9]? = some ce → ce.vm = .none → s.vm.findClass E = some ce.cls → vx_W p l e R s m args below meth c H1 locs1 (cells + mc) (slots + ms) Q (F0 m pc ls rest) q9)
    (kk : ∀ (r : Int64) (u : S) (t : State) (H1 : Heap) (locs1 : List Loc), t.heap = H1 → s.vm.Alike t.vm → post r u → B u t → H.size ≤ H1.size → (∀ q : Nat, q < H.size → ¬ A1 q → H1[q]? = H[q]?) → va_S A0 H0 H1 locs1 → W p l e R s m args below meth c H1 locs1 (cells + mc) (slots + ms) Q (F0 m (pc + 3) ls (.long r :: rest))) : W p l e R s m args below meth c H locs cells slots Q (F0 m pc ls st0) := by
  intro T hT X
  rcases hr T hT X with ⟨v, st₀, t, T', L, h0, X', hL, e1, e2, ⟨⟨r, u, hv, hp, hb⟩, hF⟩, st⟩ | ⟨q, st₀, t, T', L, E, ce, h0, X', hL, e1, e2, ⟨u, hp, hb, hF⟩, hce, hcv, hcl, st⟩
  · cases hv
    obtain ⟨k1, k2, k3⟩ := vx_keep h0 e1 hS hA hf hL hF
    obtain ⟨t2, a1, b1⟩ := kk r u t T'.heap (locs ++ L) e1.symm (by rw [← e2]; exact X'.warmed.alike) hp hb k1 k2 k3 T' rfl X'
    exact ⟨t2, st t2 a1, b1⟩
  · obtain ⟨k1, k2, k3⟩ := vx_keep h0 e1 hS hAX hf hL hF
    obtain ⟨t2, a1, b1⟩ := kx E ce q u t T'.heap (locs ++ L) e1.symm (by rw [← e2]; exact X'.warmed.alike) hp hb k1 k2 k3 (by rw [e1]; exact hce) hcv hcl T' rfl X'
    exact ⟨t2, st.trans a1, b1⟩
theorem vx_callf {S SX : Type} {post : UInt32 → S → Prop} {px : SX → Prop} {B : S → State → Prop} {BX : String → SX → State → Prop} {AX : Nat → Prop} (hr : vx_Run p l e R s m args below meth c H locs cells slots mc ms (F0 m pc ls st0) rest (va_Qf post B A1 a) (vx_X px BX AX) free) (hS : va_S A0 H0 H locs) (hA : ∀ q, q < H.size → A1 q → A0 q) (hf : ∀ q, free q → A0 q) (hAX : ∀ q, q < H.size → AX q → A0 q)
    (kx : ∀ (E : String) (ce : Cell) (q9 : Addr) (u : SX) (t : State) (H1 : Heap) (locs1 : List Loc), t.heap = H1 → s.vm.Alike t.vm → px u → BX E u t → H.size ≤ H1.size → (∀ q : Nat, q < H.size → ¬ AX q → H1[q]? = H[q]?) → va_S A0 H0 H1 locs1 → H1[q9]? = some ce → ce.vm = .none → s.vm.findClass E = some ce.cls → vx_W p l e R s m args below meth c H1 locs1 (cells + mc) (slots + ms) Q (F0 m pc ls rest) q9)
    (kk : ∀ (r : UInt32) (u : S) (t : State) (H1 : Heap) (locs1 : List Loc), t.heap = H1 → s.vm.Alike t.vm → post r u → B u t → H.size ≤ H1.size → (∀ q : Nat, q < H.size → ¬ A1 q → H1[q]? = H[q]?) → va_S A0 H0 H1 locs1 → W p l e R s m args below meth c H1 locs1 (cells + mc) (slots + ms) Q (F0 m (pc + 3) ls (.float r :: rest))) : W p l e R s m args below meth c H locs cells slots Q (F0 m pc ls st0) := by
  intro T hT X
  rcases hr T hT X with ⟨v, st₀, t, T', L, h0, X', hL, e1, e2, ⟨⟨r, u, hv, hp, hb⟩, hF⟩, st⟩ | ⟨q, st₀, t, T', L, E, ce, h0, X', hL, e1, e2, ⟨u, hp, hb, hF⟩, hce, hcv, hcl, st⟩
  · cases hv
    obtain ⟨k1, k2, k3⟩ := vx_keep h0 e1 hS hA hf hL hF
    obtain ⟨t2, a1, b1⟩ := kk r u t T'.heap (locs ++ L) e1.symm (by rw [← e2]; exact X'.warmed.alike) hp hb k1 k2 k3 T' rfl X'
    exact ⟨t2, st t2 a1, b1⟩
  · obtain ⟨k1, k2, k3⟩ := vx_keep h0 e1 hS hAX hf hL hF
    obtain ⟨t2, a1, b1⟩ := kx E ce q u t T'.heap (locs ++ L) e1.symm (by rw [← e2]; exact X'.warmed.alike) hp hb k1 k2 k3 (by rw [e1]; exact hce) hcv hcl T' rfl X'
    exact ⟨t2, st.trans a1, b1⟩
theorem vx_calld {S SX : Type} {post : UInt64 → S → Prop} {px : SX → Prop} {B : S → State → Prop} {BX : String → SX → State → Prop} {AX : Nat → Prop} (hr : vx_Run p l e R s m args below meth c H locs cells slots mc ms (F0 m pc ls st0) rest (va_Qd post B A1 a) (vx_X px BX AX) free) (hS : va_S A0 H0 H locs) (hA : ∀ q, q < H.size → A1 q → A0 q) (hf : ∀ q, free q → A0 q) (hAX : ∀ q, q < H.size → AX q → A0 q)
    (kx : ∀ (E : String) (ce : Cell) (q9 : Addr) (u : SX) (t : State) (H1 : Heap) (locs1 : List Loc), t.heap = H1 → s.vm.Alike t.vm → px u → BX E u t → H.size ≤ H1.size → (∀ q : Nat, q < H.size → ¬ AX q → H1[q]? = H[q]?) → va_S A0 H0 H1 locs1 → H1[q9]? = some ce → ce.vm = .none → s.vm.findClass E = some ce.cls → vx_W p l e R s m args below meth c H1 locs1 (cells + mc) (slots + ms) Q (F0 m pc ls rest) q9)
    (kk : ∀ (r : UInt64) (u : S) (t : State) (H1 : Heap) (locs1 : List Loc), t.heap = H1 → s.vm.Alike t.vm → post r u → B u t → H.size ≤ H1.size → (∀ q : Nat, q < H.size → ¬ A1 q → H1[q]? = H[q]?) → va_S A0 H0 H1 locs1 → W p l e R s m args below meth c H1 locs1 (cells + mc) (slots + ms) Q (F0 m (pc + 3) ls (.double r :: rest))) : W p l e R s m args below meth c H locs cells slots Q (F0 m pc ls st0) := by
  intro T hT X
  rcases hr T hT X with ⟨v, st₀, t, T', L, h0, X', hL, e1, e2, ⟨⟨r, u, hv, hp, hb⟩, hF⟩, st⟩ | ⟨q, st₀, t, T', L, E, ce, h0, X', hL, e1, e2, ⟨u, hp, hb, hF⟩, hce, hcv, hcl, st⟩
  · cases hv
    obtain ⟨k1, k2, k3⟩ := vx_keep h0 e1 hS hA hf hL hF
    obtain ⟨t2, a1, b1⟩ := kk r u t T'.heap (locs ++ L) e1.symm (by rw [← e2]; exact X'.warmed.alike) hp hb k1 k2 k3 T' rfl X'
    exact ⟨t2, st t2 a1, b1⟩
  · obtain ⟨k1, k2, k3⟩ := vx_keep h0 e1 hS hAX hf hL hF
    obtain ⟨t2, a1, b1⟩ := kx E ce q u t T'.heap (locs ++ L) e1.symm (by rw [← e2]; exact X'.warmed.alike) hp hb k1 k2 k3 (by rw [e1]; exact hce) hcv hcl T' rfl X'
    exact ⟨t2, st.trans a1, b1⟩
theorem vx_callv {S SX : Type} {post : S → Prop} {px : SX → Prop} {B : S → State → Prop} {BX : String → SX → State → Prop} {AX : Nat → Prop} (hr : vx_Run p l e R s m args below meth c H locs cells slots mc ms (F0 m pc ls st0) rest (va_Qv post B A1 a) (vx_X px BX AX) free) (hS : va_S A0 H0 H locs) (hA : ∀ q, q < H.size → A1 q → A0 q) (hf : ∀ q, free q → A0 q) (hAX : ∀ q, q < H.size → AX q → A0 q)
    (kx : ∀ (E : String) (ce : Cell) (q9 : Addr) (u : SX) (t : State) (H1 : Heap) (locs1 : List Loc), t.heap = H1 → s.vm.Alike t.vm → px u → BX E u t → H.size ≤ H1.size → (∀ q : Nat, q < H.size → ¬ AX q → H1[q]? = H[q]?) → va_S A0 H0 H1 locs1 → H1[q9]? = some ce → ce.vm = .none → s.vm.findClass E = some ce.cls → vx_W p l e R s m args below meth c H1 locs1 (cells + mc) (slots + ms) Q (F0 m pc ls rest) q9)
    (kk : ∀ (u : S) (t : State) (H1 : Heap) (locs1 : List Loc), t.heap = H1 → s.vm.Alike t.vm → post u → B u t → H.size ≤ H1.size → (∀ q : Nat, q < H.size → ¬ A1 q → H1[q]? = H[q]?) → va_S A0 H0 H1 locs1 → W p l e R s m args below meth c H1 locs1 (cells + mc) (slots + ms) Q (F0 m (pc + 3) ls (rest))) : W p l e R s m args below meth c H locs cells slots Q (F0 m pc ls st0) := by
  intro T hT X
  rcases hr T hT X with ⟨v, st₀, t, T', L, h0, X', hL, e1, e2, ⟨⟨u, hv, hp, hb⟩, hF⟩, st⟩ | ⟨q, st₀, t, T', L, E, ce, h0, X', hL, e1, e2, ⟨u, hp, hb, hF⟩, hce, hcv, hcl, st⟩
  · cases hv
    obtain ⟨k1, k2, k3⟩ := vx_keep h0 e1 hS hA hf hL hF
    obtain ⟨t2, a1, b1⟩ := kk u t T'.heap (locs ++ L) e1.symm (by rw [← e2]; exact X'.warmed.alike) hp hb k1 k2 k3 T' rfl X'
    exact ⟨t2, st t2 a1, b1⟩
  · obtain ⟨k1, k2, k3⟩ := vx_keep h0 e1 hS hAX hf hL hF
    obtain ⟨t2, a1, b1⟩ := kx E ce q u t T'.heap (locs ++ L) e1.symm (by rw [← e2]; exact X'.warmed.alike) hp hb k1 k2 k3 (by rw [e1]; exact hce) hcv hcl T' rfl X'
    exact ⟨t2, st.trans a1, b1⟩
/-- caught by the row x of this method's table; the rows ahead don't take it -/
theorem vx_catch {own name : String} {E : String} {ce : Cell} {q : Addr} (hown : s.vm.findClass own = some m.cls) (pre : List ExceptionTableEntry) (x : ExceptionTableEntry) (suf : List ExceptionTableEntry) (hsplit : c.exceptionTable.toList = pre ++ x :: suf)
    (hpass : ∀ z ∈ pre, covers z pc = false ∨ (z.catchType ≠ 0 ∧ ∃ nm : String, (Cond.classLink own z.catchType nm).before args s = true ∧ va_Nc E nm s)) (hx : covers x pc = true) (h0 : x.catchType ≠ 0)
    (hlink : (Cond.classLink own x.catchType name).before args s = true) (hcast : (Cond.castable E name).before args s = true) (hcell : H[q]? = some ce) (hv : ce.vm = .none) (hcl : s.vm.findClass E = some ce.cls)
    (kk : W p l e R s m args below meth c H locs cells slots Q (F0 m x.handlerPc ls [.ref q])) : vx_W p l e R s m args below meth c H locs cells slots Q (F0 m pc ls rest) q := by
  intro T hT X
  have hpl : e.platform.magicAccessors = ({} : Platform).magicAccessors := by rw [X.admits.platform]
  obtain ⟨c3, c4, hc3, hc4, hasg⟩ := Cond.castable_spec hcast
  cases Option.some.inj (hc3.symm.trans hcl)
  obtain ⟨c5, hc5, hcl5⟩ := Cond.classLink_spec hown hlink e.platform hpl
  cases Option.some.inj (hc4.symm.trans hc5)
  obtain ⟨vm', X', st⟩ := X.thenCaughtThrough q (g := F0 m pc ls rest) rfl (Steps.refl _) (by rw [hT]; exact hcell) (by rw [hv]; rfl) (by obtain ⟨k9, h9, -⟩ := Vm.findClass_spec hcl; exact ⟨k9, h9⟩) pre x suf hsplit
    (fun z hz => by
      rcases hpass z hz with h | ⟨hz0, nm, hl1, hn1⟩
      · exact Or.inl h
      · obtain ⟨c6, hc6, hcl6⟩ := Cond.classLink_spec hown hl1 e.platform hpl
        obtain ⟨a8, b8, h1, h2, h3⟩ := hn1
        cases Option.some.inj (h1.symm.trans hcl)
        cases Option.some.inj (h2.symm.trans hc6)
        exact Or.inr ⟨hz0, _, hcl6, h3⟩) hx (Or.inr ⟨h0, c4, hcl5, hasg⟩)
  obtain ⟨t, a1, b1⟩ := kk (T.setVm vm') hT X'
  exact ⟨t, st.trans a1, b1⟩
end Rows
section Ends
variable {p : Program} {l : Launch} {e : Env} {R : Room} {s : State} {m : MethodId} {args : Array Value} {below : List Frame} {meth : Method} {c : Code} {H : Heap} {locs : List Loc} {cells slots : Nat} {Q : State → Prop}
variable {mc ms : Nat} {free : Addr → Prop} {A0 A1 : Nat → Prop} {H0 : Heap} {a : Array Value} {ls : Array Slot} {st0 rest : List Value}
variable {Qc : Array Value → State → Outcome → State → Prop} {XC : String → State → State → Prop}
/-- what a body that may throw owes at its end -/
def vx_MQ (below : List Frame) (Qc : Array Value → State → Outcome → State → Prop) (XC : String → State → State → Prop) (a : Array Value) (s : State) (mc ms : Nat) (free : Addr → Prop) : State → Prop := fun t =>
  ∃ o, t.status = .running ∧ Ended t below o ∧ vx_Q Qc XC mc ms free a s o t
theorem vx_ret {g : JFrame} {mc ms : Nat} (k : W p l e R s m args below meth c H locs cells slots (MQ below Qc args s mc ms free) g) : W p l e R s m args below meth c H locs cells slots (vx_MQ below Qc XC args s mc ms free) g := by
  intro T hT X
  obtain ⟨t, a1, o, b1, b2, b3, b4⟩ := k T hT X
  exact ⟨t, a1, o, b1, b2, Or.inl ⟨b3, b4⟩⟩
/-- not caught here: it goes on to the caller -/
theorem vx_widen {g : JFrame} {q : Addr} {k n : Nat} (h1 : cells ≤ k) (h2 : slots ≤ n) (kk : vx_W p l e R s m args below meth c H locs k n Q g q) : vx_W p l e R s m args below meth c H locs cells slots Q g q := fun T hT X => kk T hT (stand_widen X h1 h2)
theorem vx_out {pc : Nat} {E : String} {ce : Cell} {q : Addr} {mc ms : Nat} (hout : ∀ x ∈ c.exceptionTable.toList, covers x pc = false) (hlocks : meth.locks = false) (hcell : H[q]? = some ce) (hv : ce.vm = .none) (hcl : s.vm.findClass E = some ce.cls)
    (hx : ∀ t : State, t.heap = H → s.vm.Alike t.vm → XC E s t) (hf : ∀ z ∈ locs, free z.base) (hc : cells ≤ mc) (hs : slots ≤ ms) :
    vx_W p l e R s m args below meth c H locs cells slots (vx_MQ below Qc XC args s mc ms free) (F0 m pc ls rest) q := by
  intro T hT X
  obtain ⟨st1, hrun, hend, hW, hsm⟩ := X.leaveThrown q (g := F0 m pc ls rest) rfl rfl rfl hout hlocks
  have hcell9 : (T.setFrames (.throwing q :: below)).heap[q]? = some ce := by
    show T.heap[q]? = some ce
    rw [hT]; exact hcell
  exact ⟨_, st1, .threw q, hrun, hend, Or.inr ⟨q, rfl, E, ce, locs, hx _ hT hW.alike, hcell9, hv, hcl, hW, hsm.mono hc hs, hf⟩⟩
theorem vx_frame {U : State} {k n : Nat} (h : s.sameButNew ({ U with vm := s.vm } : State) locs k n) : s.heap.size ≤ U.heap.size ∧ ∀ q : Nat, q < s.heap.size → (∀ z ∈ locs, z.base ≠ q) → U.heap[q]? = s.heap[q]? := by
  obtain ⟨-, h2, -, -, -, h6⟩ := h
  refine ⟨h2, fun q hq hz => ?_⟩
  obtain ⟨c9, e1, e2, e3, e4⟩ := h6 q _ (Array.getElem?_eq_getElem hq)
  have hs : c9.slots = (s.heap[q]).slots := Array.ext_getElem? fun i => e4 i fun hm => hz _ hm rfl
  have h9 : c9 = s.heap[q] := by
    rw [hs] at e2
    exact e2
  have e5 : U.heap[q]? = some c9 := e1
  rw [e5, h9, Array.getElem?_eq_getElem hq]
/-- the words of a throw but the four that speak of the heap -/
def vx_no (w : Cond) : Bool := decide (w ≠ .isRef (.static Bundle.tN "UNASSIGNED_STACK" Bundle.steD)) && decide (w ≠ .isRef (.static Bundle.tN "SUPPRESSED_SENTINEL" Bundle.listD)) && decide (w ≠ .laysStatic Bundle.tN "UNASSIGNED_STACK" Bundle.steD) && decide (w ≠ .laysStatic Bundle.tN "SUPPRESSED_SENTINEL" Bundle.listD)
def vx_at0 (own : String) (ic : Nat) (X : String) (names : List String) : List Cond := (Bundle.ownAtoms0 own ic X names).filter vx_no
def vx_atS (own : String) (ic : Nat) (X : String) (names : List String) : List Cond := (Bundle.ownAtoms own ic X names).filter vx_no
/-- a word that the tables alone decide, or a good one -/
def vx_ot (w : Cond) : Bool := w.onTables || goodWord w
theorem vx_ot_at {args a' : Array Value} {s U : State} {w : Cond} (hW : s.WarmedH U.vm) (hvm : s.vm = U.vm) (hg : vx_ot w = true) (h : w.before args s = true) : w.before a' U = true := by
  simp only [vx_ot, Bool.or_eq_true] at hg
  rcases hg with hg | hg
  · exact va_tabs hg hvm h
  · exact word_at hW (good_of_word hg) h
/-- a list's words: the good ones out of the method's own list, the others by premises of their own -/
theorem vx_hat {args : Array Value} {s : State} {L B : List Cond} (h1 : ∀ w ∈ L.filter goodWord, w.before args s = true) (h2 : ∀ w ∈ L.filter (fun w => !goodWord w), w ∈ B) (h3 : ∀ w ∈ B, w.before args s = true) : ∀ w ∈ L, w.before args s = true := by
  intro w hw
  by_cases g : goodWord w = true
  · exact h1 w (List.mem_filter.mpr ⟨hw, g⟩)
  · refine h3 w (h2 w (List.mem_filter.mpr ⟨hw, ?_⟩))
    show (!goodWord w) = true
    cases hgw : goodWord w
    · rfl
    · exact absurd hgw g
theorem vx_c {args : Array Value} {s : State} {w : Cond} {B : List Cond} (h : w.before args s = true) (t : ∀ w ∈ B, w.before args s = true) : ∀ w' ∈ w :: B, w'.before args s = true := fun w' h' => (List.mem_cons.mp h').elim (fun e => by rw [e]; exact h) (t w')
theorem vx_n {args : Array Value} {s : State} : ∀ w ∈ ([] : List Cond), w.before args s = true := fun _ h => nomatch h
theorem vx_own {args : Array Value} {s : State} {L : List Cond} (h1 : ∀ w ∈ L.filter vx_no, w.before args s = true)
    (hU : (Cond.isRef (.static Bundle.tN "UNASSIGNED_STACK" Bundle.steD)).before args s = true) (hN : (Cond.isRef (.static Bundle.tN "SUPPRESSED_SENTINEL" Bundle.listD)).before args s = true)
    (lU : (Cond.laysStatic Bundle.tN "UNASSIGNED_STACK" Bundle.steD).before args s = true) (lN : (Cond.laysStatic Bundle.tN "SUPPRESSED_SENTINEL" Bundle.listD).before args s = true) : ∀ w ∈ L, w.before args s = true := by
  intro w hw
  by_cases e1 : w = .isRef (.static Bundle.tN "UNASSIGNED_STACK" Bundle.steD)
  · rw [e1]; exact hU
  · by_cases e2 : w = .isRef (.static Bundle.tN "SUPPRESSED_SENTINEL" Bundle.listD)
    · rw [e2]; exact hN
    · by_cases e3 : w = .laysStatic Bundle.tN "UNASSIGNED_STACK" Bundle.steD
      · rw [e3]; exact lU
      · by_cases e4 : w = .laysStatic Bundle.tN "SUPPRESSED_SENTINEL" Bundle.listD
        · rw [e4]; exact lN
        · exact h1 w (List.mem_filter.mpr ⟨hw, by unfold vx_no; rw [decide_eq_true e1, decide_eq_true e2, decide_eq_true e3, decide_eq_true e4]; rfl⟩)
/-- where a static field lies, its class's statics cell in H -/
def vx_L (C n d : String) (A : Nat → Prop) (U : State) (H : Heap) : Prop := ∃ (c : ClassId) (k : Class) (i : Nat) (f : Field) (a : Nat) (cell : Cell), U.vm.findClass C = some c ∧ U.fieldFound? C n d = some (c, k, i, f) ∧ f.isStatic = true ∧ k.statics = some a ∧ H[a]? = some cell ∧ cell.vm.isStatics = true ∧ cell.cls = c ∧ f.slot < cell.slots.size ∧ k.staticTypes[f.slot]? = some f.type ∧ ¬ A a
theorem vx_L.moved {C n d : String} {A : Nat → Prop} {u U : State} {H : Heap} (hvm : u.vm.Alike U.vm) (h : vx_L C n d A u H) : vx_L C n d A U H := by
  obtain ⟨c, k, i, f, a, cell, h1, h2, h3, h4, h5, h6, h7, h8, h9, h10⟩ := h
  obtain ⟨k', hi', he⟩ := State.fieldFound?_setVm hvm h2
  exact ⟨c, k', i, f, a, cell, by rw [hvm.findClass]; exact h1, hi', h3, by rw [he]; exact h4, h5, h6, h7, h8, by rw [he]; exact h9, h10⟩
theorem vx_L.kept {C n d : String} {A : Nat → Prop} {U : State} {H H1 : Heap} (h : vx_L C n d A U H) (hq : ∀ a : Nat, a < H.size → ¬ A a → H1[a]? = H[a]?) : vx_L C n d A U H1 := by
  obtain ⟨c, k, i, f, a, cell, h1, h2, h3, h4, h5, h6, h7, h8, h9, h10⟩ := h
  exact ⟨c, k, i, f, a, cell, h1, h2, h3, h4, by rw [hq a (Array.getElem?_eq_some_iff.mp h5).1 h10]; exact h5, h6, h7, h8, h9, h10⟩
theorem vx_L.narrow {C n d : String} {A B : Nat → Prop} {U : State} {H : Heap} (h : vx_L C n d A U H) (hAB : ∀ q, B q → A q) : vx_L C n d B U H := by
  obtain ⟨c, k, i, f, a, cell, h1, h2, h3, h4, h5, h6, h7, h8, h9, h10⟩ := h
  exact ⟨c, k, i, f, a, cell, h1, h2, h3, h4, h5, h6, h7, h8, h9, fun z => h10 (hAB _ z)⟩
theorem vx_L.word {C n d : String} {A : Nat → Prop} {s : State} {args : Array Value} (h : vx_L C n d A s s.heap) : (Cond.laysStatic C n d).before args s = true := by
  obtain ⟨c, k, i, f, a, cell, h1, h2, h3, h4, h5, h6, h7, h8, h9, -⟩ := h
  show (Cond.laysStatic C n d).holds args s none s [] = true
  exact Cond.laysStatic_of h1 h2 h3 h4 h5 h6 h7 h8 h9
/-- .. and what it holds: null or some reference -/
def vx_Zq (C n d : String) (A : Nat → Prop) (U : State) (H : Heap) : Prop := va_Zq C n d A U H ∧ vx_L C n d A U H
theorem vx_Zq.moved {C n d : String} {A : Nat → Prop} {u U : State} {H : Heap} (hvm : u.vm.Alike U.vm) (h : vx_Zq C n d A u H) : vx_Zq C n d A U H := ⟨va_Zq.moved hvm h.1, vx_L.moved hvm h.2⟩
theorem vx_Zq.kept {C n d : String} {A : Nat → Prop} {U : State} {H H1 : Heap} (h : vx_Zq C n d A U H) (hq : ∀ a : Nat, a < H.size → ¬ A a → H1[a]? = H[a]?) : vx_Zq C n d A U H1 := ⟨va_Zq.kept h.1 hq, vx_L.kept h.2 hq⟩
theorem vx_Zq.narrow {C n d : String} {A B : Nat → Prop} {U : State} {H : Heap} (h : vx_Zq C n d A U H) (hAB : ∀ q, B q → A q) : vx_Zq C n d B U H := ⟨va_Zq.narrow h.1 hAB, vx_L.narrow h.2 hAB⟩
theorem vx_Zqof {args : Array Value} {s : State} {C n d : String} {A : Nat → Prop} (hl : (Cond.laysStatic C n d).before args s = true) (hini : (Cond.initialized C).before args s = true) (h : (Cond.isRef (.static C n d)).before args s = true) (hA : ∀ a : Nat, a < s.heap.size → ¬ A a) : vx_Zq C n d A s s.heap := by
  refine ⟨va_Zqof hl hini h hA, ?_⟩
  obtain ⟨c, k, i, f, a, cell, h1, h2, h3, h4, h5, h6, h7, h8, h9⟩ := Cond.laysStatic_spec hl
  exact ⟨c, k, i, f, a, cell, h1, h2, h3, h4, h5, h6, h7, h8, h9, hA a (Array.getElem?_eq_some_iff.mp h5).1⟩
theorem vx_isRef {C n d : String} {v : Value} {A : Nat → Prop} {s : State} {args : Array Value} (h : va_Z C n d v A s s.heap) (hv : v.isRef = true) : (Cond.isRef (.static C n d)).before args s = true := by
  obtain ⟨cf, kf, fi, f, a, cell, h1, h2, h3, h4, h5, h6, h7, -⟩ := h
  have he : (Term.static C n d).eval args s none [] s = some v := by
    simp [Term.eval, State.fieldNamed?, h1, h2, h4, h5, h6, h7]
  simp only [Cond.before, Cond.holds, Cond.value, he]
  cases v <;> simp_all [Value.isRef]
theorem vx_isRefq {C n d : String} {A : Nat → Prop} {s : State} {args : Array Value} (h : va_Zq C n d A s s.heap) : (Cond.isRef (.static C n d)).before args s = true := by
  rcases h with h | ⟨t, h⟩
  · exact vx_isRef h rfl
  · exact vx_isRef h rfl
/-- the same frame, seen from here: as if the method were called anew in this heap -/
theorem vx_rebase {T : State} (X : Stand p l e R s m args below meth c T locs cells slots) {R' : Room} (hf : R'.frames ≤ R.frames) (hl : R'.locals ≤ R.locals) (hc : cells + R'.cells ≤ R.cells) (hs : slots + R'.slots ≤ R.slots) :
    Stand p l e R' ((T.setVm s.vm).setFrames (.invoking m args :: below)) m args below meth c T [] 0 0 := by
  have htop : (T.setVm s.vm).topJava?.isSome := X.here.top
  have hF : ((T.setVm s.vm).setFrames (.invoking m args :: below)).frames = .invoking m args :: below := State.frames_setFrames _ (State.cur_lt_of_top htop)
  obtain ⟨g₀, hg0⟩ := Option.isSome_iff_exists.mp htop
  obtain ⟨r, hr⟩ := State.topJava?_eq_some.mp hg0
  have hl9 : e.platform.stackLimits (T.setVm s.vm).me = e.platform.stackLimits s.me := X.limits
  have hb9 : (T.setVm s.vm).me.stackBytes = s.me.stackBytes := X.bytes
  refine ⟨X.admits, X.cas, X.clock, hF, ?_, X.hears, X.method, X.code, X.here, X.tail, X.warmed, ?_, ?_, ?_⟩
  · have h := X.room
    have hU : ((T.setVm s.vm).setFrames (.invoking m args :: below)).localsInUse = s.localsInUse := by
      rw [State.localsInUse_invoking hF (meth := meth) (c := c) X.method X.code, State.localsInUse_invoking X.frames X.method X.code]
    simp only [State.hasRoom, Bool.and_eq_true, decide_eq_true_eq] at h ⊢
    obtain ⟨⟨⟨⟨h1, h2, h3, h4, h5, h6⟩, h7⟩, h8⟩, h9⟩ := h
    rw [X.frames, List.length_cons] at h2 h3
    have q1 := X.heapSize
    have q2 := X.used
    simp only [hF, hU, List.length_cons, State.stackLimits_setFrames, State.stackBytes_setFrames, hl9, hb9]
    refine ⟨⟨⟨⟨by omega, by omega, by omega, by omega, by omega, h6⟩, ?_⟩, ?_⟩, X.book⟩
    · show T.heap.size + R'.cells ≤ e.platform.maxCells
      omega
    · show T.slotsUsed + R'.slots ≤ e.platform.maxSlots
      omega
  · rw [State.stackLimits_setFrames]; rfl
  · rw [State.stackBytes_setFrames]; rfl
  · refine ⟨?_, Nat.le_refl _, Nat.le_refl _, ?_, ?_, fun a c9 h9 => ⟨c9, h9, rfl, rfl, fun _ _ => rfl⟩⟩
    · obtain ⟨t, ht, -⟩ := State.frames_cons hr
      show T.setVm s.vm = { ((T.setVm s.vm).setFrames (.invoking m args :: below)).setFrames (T.setVm s.vm).frames with heap := T.heap, slotsUsed := T.slotsUsed }
      rw [State.setFrames_setFrames, State.setFrames_self ht]
      rfl
    · show T.slotsUsed = T.slotsUsed + ((T.heap.toList.drop T.heap.size).map (·.slots.size)).sum
      rw [List.drop_eq_nil_of_le (Nat.le_of_eq Array.length_toList)]
      rfl
    · show ((T.heap.toList.drop T.heap.size).map (·.slots.size)).sum ≤ 0
      rw [List.drop_eq_nil_of_le (Nat.le_of_eq Array.length_toList)]
      exact Nat.le_refl _
/-- 'throw new E()': new; dup; invokespecial; athrow -/
theorem vx_throw0 {cc : ByteArray} {pc : Nat} (hexec : p.tables.exec = Jvm.exec) (hb : c.code = cc) (hl : l.stackTraces = false) {own cls : String} {names : List String} {ik ic mc ms : Nat} {A : Nat → Prop}
    (hown : s.vm.findClass own = some m.cls) (hcls : Bundle.fit cls = true) (hnames : ∀ n ∈ names, Bundle.fit n = true)
    (hk : (Cond.classLink own ik cls).before args s = true) (hini : (Cond.initialized cls).before args s = true) (hat : ∀ w ∈ vx_at0 own ic cls names, w.before args s = true)
    (hgood : ∀ w ∈ Cond.classLink own ik cls :: Cond.initialized cls :: vx_at0 own ic cls names, vx_ot w = true)
    (hU : vx_Zq Bundle.tN "UNASSIGNED_STACK" Bundle.steD A s s.heap) (hN : vx_Zq Bundle.tN "SUPPRESSED_SENTINEL" Bundle.listD A s s.heap) (hS : va_S A s.heap H locs) (hsize : ls.size = c.maxLocals)
    (d0 : decode cc pc = .ok (.new ik, 3)) (d3 : decode cc (pc + 3) = .ok (.dup, 1)) (d4 : decode cc (pc + 4) = .ok (.invokespecial ic, 3)) (d7 : decode cc (pc + 7) = .ok (.athrow, 1))
    (hout : ∀ x ∈ c.exceptionTable.toList, covers x (pc + 7) = false)
    (hRframes : names.length + 3 < R.frames) (hRlocals : (rest.map fun v => v.category).sum + (13 * (names.length + 1) + 42) ≤ R.locals) (hRcells : cells + 1 ≤ R.cells) (hRslots : slots + 6 ≤ R.slots) (hlocks : meth.locks = false)
    (hx : ∀ t : State, s.vm.Alike t.vm → H.size ≤ t.heap.size → (∀ q : Nat, q < H.size → t.heap[q]? = H[q]?) → XC cls s t)
    (hf : ∀ z ∈ locs, free z.base) (hc : cells + 1 ≤ mc) (hs : slots + 6 ≤ ms) :
    W p l e R s m args below meth c H locs cells slots (vx_MQ below Qc XC args s mc ms free) (F0 m pc ls rest) := by
  intro T hT X
  have htr : e.platform.stackTraces = false := (show e.platform.stackTraces = l.stackTraces by rw [X.admits.platform]).trans hl
  have Y := vx_rebase X (R' := { frames := R.frames, locals := R.locals, cells := 1, slots := 6 }) (Nat.le_refl _) (Nat.le_refl _) hRcells hRslots
  obtain ⟨s', hA⟩ : ∃ z, z = (T.setVm s.vm).setFrames (.invoking m args :: below) := ⟨_, rfl⟩
  rw [← hA] at Y
  have hvm : s'.vm = s.vm := by rw [hA]; rfl
  have hhp : s'.heap = H := by rw [hA]; exact hT
  have hW0 : s.WarmedH s'.vm := by rw [hvm]; exact State.WarmedH.refl s
  have hat' : ∀ w ∈ vx_at0 own ic cls names, w.before args s' = true := fun w hw => vx_ot_at hW0 hvm.symm (hgood w (List.mem_cons_of_mem _ (List.mem_cons_of_mem _ hw))) (hat w hw)
  have hk' : (Cond.classLink own ik cls).before args s' = true := vx_ot_at hW0 hvm.symm (hgood _ List.mem_cons_self) hk
  have hini' : (Cond.initialized cls).before args s' = true := vx_ot_at hW0 hvm.symm (hgood _ (List.mem_cons_of_mem _ List.mem_cons_self)) hini
  have hU' : vx_Zq Bundle.tN "UNASSIGNED_STACK" Bundle.steD A s' s'.heap := by rw [hhp]; exact vx_Zq.moved hW0.alike (hU.kept hS.2.1)
  have hN' : vx_Zq Bundle.tN "SUPPRESSED_SENTINEL" Bundle.listD A s' s'.heap := by rw [hhp]; exact vx_Zq.moved hW0.alike (hN.kept hS.2.1)
  have h : ∀ w ∈ Bundle.ownAtoms0 own ic cls names, w.before args s' = true := vx_own hat' (vx_isRefq hU'.1) (vx_isRefq hN'.1) hU'.2.word hN'.2.word
  have hown' : s'.vm.findClass own = some m.cls := by rw [hvm]; exact hown
  have hins : (Cond.instantiable cls 6).before args s' = true := h _ (by simp [Bundle.ownAtoms0])
  obtain ⟨vm₁, cX, kX, hfX, hkX, -, -, X₁, st1⟩ := Y.newCold hexec (own := own) (C := cls) (index := ik) (n := 6) hown' hk' hins hini'
    (g := F0 m pc ls rest) rfl (by rw [hb]; exact d0) (Nat.le_refl _) (Nat.le_refl _)
  generalize hT1 : (T.setVm vm₁).pushCell { cls := cX, slots := kX.instanceTypes.map defaultValue, vm := .none } = T1 at X₁ st1
  have hcat : (Value.ref T.heap.size).category = 1 := rfl
  have hcellA : T1.heap[T.heap.size]? = some (freshCell cX kX) := by rw [← hT1]; exact State.heap_pushCell_size _ _
  have d3' : decode c.code (pc + 3) = .ok (.dup, 1) := by rw [hb]; exact d3
  obtain ⟨U, hsteps, hrun, hend, hW, hsame, ce, hce, hO⟩ := X₁.ctorThrow0 hexec htr (own := own) (cls := cls) (names := names) (ic := ic) hown' hcls hnames h (fun x hx => nomatch hx) hfX hkX hcellA (by rw [hhp, hT]; exact Nat.le_refl _)
    (g := { method := m, pc := pc + 4, locals := ls, stack := .ref T.heap.size :: .ref T.heap.size :: rest, locked := none }) rfl hsize rfl rfl (rest := rest) rfl
    (by rw [hb]; exact d4) (by rw [hb]; exact d7) hout hRframes (by simp only [List.map_cons, List.sum_cons, hcat]; omega) hlocks
  obtain ⟨f1, f2⟩ := vx_frame hsame
  rw [hhp] at f1 f2
  have hWs : s.WarmedH U.vm := State.WarmedH.trans hW0 hW
  have hcl : s.vm.findClass cls = some ce.cls := by
    have h9 := hO.cls
    rw [hvm] at h9
    exact h9
  have hall : s.sameButNew ({ U with vm := s.vm } : State) locs mc ms := by
    subst hA
    obtain ⟨e1, e2⟩ := hsame
    rw [State.setFrames_setFrames] at e1
    have h2 : (T.setVm s.vm).sameButNew ({ U with vm := s.vm } : State) [] (0 + 1) (0 + 6) := ⟨e1, e2⟩
    have h3 := X.same.trans h2
    rw [List.append_nil] at h3
    exact h3.mono hc hs
  refine ⟨U, ?_, .threw T.heap.size, hrun, hend, Or.inr ⟨T.heap.size, rfl, cls, ce, locs, hx U hWs.alike f1 (fun q hq => f2 q hq (fun z hz => nomatch hz)), hce, hO.vm, hcl, hWs, hall, hf⟩⟩
  refine st1 _ ?_
  show Steps p.tables e below (T1.setTop { method := m, pc := pc + 3, locals := ls, stack := .ref T.heap.size :: rest, locked := none }) _
  jvm_step X₁.here [X₁.here.top, hexec, d3', Value.category]
  exact hsteps
/-- 'throw new E("text")': new; dup; ldc; invokespecial; athrow -/
theorem vx_throwS {cc : ByteArray} {pc : Nat} (hexec : p.tables.exec = Jvm.exec) (hb : c.code = cc) (hl : l.stackTraces = false) {own cls text : String} {names : List String} {ik is ic mc ms sa : Nat} {A : Nat → Prop}
    (hown : s.vm.findClass own = some m.cls) (hcls : Bundle.fit cls = true) (hnames : ∀ n ∈ names, Bundle.fit n = true)
    (hk : (Cond.classLink own ik cls).before args s = true) (hini : (Cond.initialized cls).before args s = true) (hstr : vk_R own is text sa s) (hat : ∀ w ∈ vx_atS own ic cls names, w.before args s = true)
    (hgood : ∀ w ∈ Cond.classLink own ik cls :: Cond.initialized cls :: vx_atS own ic cls names, vx_ot w = true)
    (hU : vx_Zq Bundle.tN "UNASSIGNED_STACK" Bundle.steD A s s.heap) (hN : vx_Zq Bundle.tN "SUPPRESSED_SENTINEL" Bundle.listD A s s.heap) (hS : va_S A s.heap H locs) (hsize : ls.size = c.maxLocals)
    (d0 : decode cc pc = .ok (.new ik, 3)) (d3 : decode cc (pc + 3) = .ok (.dup, 1)) (d4 : decode cc (pc + 4) = .ok (.ldc is, 2)) (d6 : decode cc (pc + 6) = .ok (.invokespecial ic, 3)) (d9 : decode cc (pc + 9) = .ok (.athrow, 1))
    (hout : ∀ x ∈ c.exceptionTable.toList, covers x (pc + 9) = false)
    (hRframes : names.length + 3 < R.frames) (hRlocals : (rest.map fun v => v.category).sum + (13 * (names.length + 1) + 43) ≤ R.locals) (hRcells : cells + 1 ≤ R.cells) (hRslots : slots + 6 ≤ R.slots) (hlocks : meth.locks = false)
    (hx : ∀ t : State, s.vm.Alike t.vm → H.size ≤ t.heap.size → (∀ q : Nat, q < H.size → t.heap[q]? = H[q]?) → XC cls s t)
    (hf : ∀ z ∈ locs, free z.base) (hc : cells + 1 ≤ mc) (hs : slots + 6 ≤ ms) :
    W p l e R s m args below meth c H locs cells slots (vx_MQ below Qc XC args s mc ms free) (F0 m pc ls rest) := by
  intro T hT X
  have htr : e.platform.stackTraces = false := (show e.platform.stackTraces = l.stackTraces by rw [X.admits.platform]).trans hl
  have Y := vx_rebase X (R' := { frames := R.frames, locals := R.locals, cells := 1, slots := 6 }) (Nat.le_refl _) (Nat.le_refl _) hRcells hRslots
  obtain ⟨s', hA⟩ : ∃ z, z = (T.setVm s.vm).setFrames (.invoking m args :: below) := ⟨_, rfl⟩
  rw [← hA] at Y
  have hvm : s'.vm = s.vm := by rw [hA]; rfl
  have hhp : s'.heap = H := by rw [hA]; exact hT
  have hW0 : s.WarmedH s'.vm := by rw [hvm]; exact State.WarmedH.refl s
  have hat' : ∀ w ∈ vx_atS own ic cls names, w.before args s' = true := fun w hw => vx_ot_at hW0 hvm.symm (hgood w (List.mem_cons_of_mem _ (List.mem_cons_of_mem _ hw))) (hat w hw)
  have hk' : (Cond.classLink own ik cls).before args s' = true := vx_ot_at hW0 hvm.symm (hgood _ List.mem_cons_self) hk
  have hini' : (Cond.initialized cls).before args s' = true := vx_ot_at hW0 hvm.symm (hgood _ (List.mem_cons_of_mem _ List.mem_cons_self)) hini
  have hU' : vx_Zq Bundle.tN "UNASSIGNED_STACK" Bundle.steD A s' s'.heap := by rw [hhp]; exact vx_Zq.moved hW0.alike (hU.kept hS.2.1)
  have hN' : vx_Zq Bundle.tN "SUPPRESSED_SENTINEL" Bundle.listD A s' s'.heap := by rw [hhp]; exact vx_Zq.moved hW0.alike (hN.kept hS.2.1)
  have h : ∀ w ∈ Bundle.ownAtoms own ic cls names, w.before args s' = true := vx_own hat' (vx_isRefq hU'.1) (vx_isRefq hN'.1) hU'.2.word hN'.2.word
  have hown' : s'.vm.findClass own = some m.cls := by rw [hvm]; exact hown
  have hins : (Cond.instantiable cls 6).before args s' = true := h _ (by simp [Bundle.ownAtoms])
  obtain ⟨vm₁, cX, kX, hfX, hkX, -, -, X₁, st1⟩ := Y.newCold hexec (own := own) (C := cls) (index := ik) (n := 6) hown' hk' hins hini'
    (g := F0 m pc ls rest) rfl (by rw [hb]; exact d0) (Nat.le_refl _) (Nat.le_refl _)
  generalize hT1 : (T.setVm vm₁).pushCell { cls := cX, slots := kX.instanceTypes.map defaultValue, vm := .none } = T1 at X₁ st1
  have hcat : (Value.ref T.heap.size).category = 1 := rfl
  have hcellA : T1.heap[T.heap.size]? = some (freshCell cX kX) := by rw [← hT1]; exact State.heap_pushCell_size _ _
  have d3' : decode c.code (pc + 3) = .ok (.dup, 1) := by rw [hb]; exact d3
  have d4' : decode c.code (pc + 4) = .ok (.ldc is, 2) := by rw [hb]; exact d4
  have hstr' : vk_R own is text sa s' := vk_R.warm hW0 hstr
  obtain ⟨U, hsteps, hrun, hend, hW, hsame, ce, hce, hO⟩ := X₁.ctorThrowS hexec htr (own := own) (cls := cls) (names := names) (ic := ic) hown' hcls hnames h (fun x hx => nomatch hx) hfX hkX hcellA (by rw [hhp, hT]; exact Nat.le_refl _) (msg := .ref sa) rfl
    (g := { method := m, pc := pc + 6, locals := ls, stack := .ref sa :: .ref T.heap.size :: .ref T.heap.size :: rest, locked := none }) rfl hsize rfl rfl (rest := rest) rfl
    (by rw [hb]; exact d6) (by rw [hb]; exact d9) hout hRframes (by simp only [List.map_cons, List.sum_cons, hcat]; omega) hlocks
  obtain ⟨f1, f2⟩ := vx_frame hsame
  rw [hhp] at f1 f2
  have hWs : s.WarmedH U.vm := State.WarmedH.trans hW0 hW
  have hcl : s.vm.findClass cls = some ce.cls := by
    have h9 := hO.cls
    rw [hvm] at h9
    exact h9
  have hall : s.sameButNew ({ U with vm := s.vm } : State) locs mc ms := by
    subst hA
    obtain ⟨e1, e2⟩ := hsame
    rw [State.setFrames_setFrames] at e1
    have h2 : (T.setVm s.vm).sameButNew ({ U with vm := s.vm } : State) [] (0 + 1) (0 + 6) := ⟨e1, e2⟩
    have h3 := X.same.trans h2
    rw [List.append_nil] at h3
    exact h3.mono hc hs
  refine ⟨U, ?_, .threw T.heap.size, hrun, hend, Or.inr ⟨T.heap.size, rfl, cls, ce, locs, hx U hWs.alike f1 (fun q hq => f2 q hq (fun z hz => nomatch hz)), hce, hO.vm, hcl, hWs, hall, hf⟩⟩
  refine st1 _ ?_
  show Steps p.tables e below (T1.setTop { method := m, pc := pc + 3, locals := ls, stack := .ref T.heap.size :: rest, locked := none }) _
  jvm_step X₁.here [X₁.here.top, hexec, d3', Value.category]
  exact X₁.ldcString hexec (own := own) (text := text) (index := is) (a := sa) hown' hstr'.1 hstr'.2
    (g := { method := m, pc := pc + 4, locals := ls, stack := .ref T.heap.size :: .ref T.heap.size :: rest, locked := none }) rfl d4' _ hsteps
/-- 'throw new E("text")', the text by a wide index -/
theorem vx_throwSW {cc : ByteArray} {pc : Nat} (hexec : p.tables.exec = Jvm.exec) (hb : c.code = cc) (hl : l.stackTraces = false) {own cls text : String} {names : List String} {ik is ic mc ms sa : Nat} {A : Nat → Prop}
    (hown : s.vm.findClass own = some m.cls) (hcls : Bundle.fit cls = true) (hnames : ∀ n ∈ names, Bundle.fit n = true)
    (hk : (Cond.classLink own ik cls).before args s = true) (hini : (Cond.initialized cls).before args s = true) (hstr : vk_R own is text sa s) (hat : ∀ w ∈ vx_atS own ic cls names, w.before args s = true)
    (hgood : ∀ w ∈ Cond.classLink own ik cls :: Cond.initialized cls :: vx_atS own ic cls names, vx_ot w = true)
    (hU : vx_Zq Bundle.tN "UNASSIGNED_STACK" Bundle.steD A s s.heap) (hN : vx_Zq Bundle.tN "SUPPRESSED_SENTINEL" Bundle.listD A s s.heap) (hS : va_S A s.heap H locs) (hsize : ls.size = c.maxLocals)
    (d0 : decode cc pc = .ok (.new ik, 3)) (d3 : decode cc (pc + 3) = .ok (.dup, 1)) (d4 : decode cc (pc + 4) = .ok (.ldc_w is, 3)) (d7 : decode cc (pc + 7) = .ok (.invokespecial ic, 3)) (d10 : decode cc (pc + 10) = .ok (.athrow, 1))
    (hout : ∀ x ∈ c.exceptionTable.toList, covers x (pc + 10) = false)
    (hRframes : names.length + 3 < R.frames) (hRlocals : (rest.map fun v => v.category).sum + (13 * (names.length + 1) + 43) ≤ R.locals) (hRcells : cells + 1 ≤ R.cells) (hRslots : slots + 6 ≤ R.slots) (hlocks : meth.locks = false)
    (hx : ∀ t : State, s.vm.Alike t.vm → H.size ≤ t.heap.size → (∀ q : Nat, q < H.size → t.heap[q]? = H[q]?) → XC cls s t)
    (hf : ∀ z ∈ locs, free z.base) (hc : cells + 1 ≤ mc) (hs : slots + 6 ≤ ms) :
    W p l e R s m args below meth c H locs cells slots (vx_MQ below Qc XC args s mc ms free) (F0 m pc ls rest) := by
  intro T hT X
  have htr : e.platform.stackTraces = false := (show e.platform.stackTraces = l.stackTraces by rw [X.admits.platform]).trans hl
  have Y := vx_rebase X (R' := { frames := R.frames, locals := R.locals, cells := 1, slots := 6 }) (Nat.le_refl _) (Nat.le_refl _) hRcells hRslots
  obtain ⟨s', hA⟩ : ∃ z, z = (T.setVm s.vm).setFrames (.invoking m args :: below) := ⟨_, rfl⟩
  rw [← hA] at Y
  have hvm : s'.vm = s.vm := by rw [hA]; rfl
  have hhp : s'.heap = H := by rw [hA]; exact hT
  have hW0 : s.WarmedH s'.vm := by rw [hvm]; exact State.WarmedH.refl s
  have hat' : ∀ w ∈ vx_atS own ic cls names, w.before args s' = true := fun w hw => vx_ot_at hW0 hvm.symm (hgood w (List.mem_cons_of_mem _ (List.mem_cons_of_mem _ hw))) (hat w hw)
  have hk' : (Cond.classLink own ik cls).before args s' = true := vx_ot_at hW0 hvm.symm (hgood _ List.mem_cons_self) hk
  have hini' : (Cond.initialized cls).before args s' = true := vx_ot_at hW0 hvm.symm (hgood _ (List.mem_cons_of_mem _ List.mem_cons_self)) hini
  have hU' : vx_Zq Bundle.tN "UNASSIGNED_STACK" Bundle.steD A s' s'.heap := by rw [hhp]; exact vx_Zq.moved hW0.alike (hU.kept hS.2.1)
  have hN' : vx_Zq Bundle.tN "SUPPRESSED_SENTINEL" Bundle.listD A s' s'.heap := by rw [hhp]; exact vx_Zq.moved hW0.alike (hN.kept hS.2.1)
  have h : ∀ w ∈ Bundle.ownAtoms own ic cls names, w.before args s' = true := vx_own hat' (vx_isRefq hU'.1) (vx_isRefq hN'.1) hU'.2.word hN'.2.word
  have hown' : s'.vm.findClass own = some m.cls := by rw [hvm]; exact hown
  have hins : (Cond.instantiable cls 6).before args s' = true := h _ (by simp [Bundle.ownAtoms])
  obtain ⟨vm₁, cX, kX, hfX, hkX, -, -, X₁, st1⟩ := Y.newCold hexec (own := own) (C := cls) (index := ik) (n := 6) hown' hk' hins hini'
    (g := F0 m pc ls rest) rfl (by rw [hb]; exact d0) (Nat.le_refl _) (Nat.le_refl _)
  generalize hT1 : (T.setVm vm₁).pushCell { cls := cX, slots := kX.instanceTypes.map defaultValue, vm := .none } = T1 at X₁ st1
  have hcat : (Value.ref T.heap.size).category = 1 := rfl
  have hcellA : T1.heap[T.heap.size]? = some (freshCell cX kX) := by rw [← hT1]; exact State.heap_pushCell_size _ _
  have d3' : decode c.code (pc + 3) = .ok (.dup, 1) := by rw [hb]; exact d3
  have d4' : decode c.code (pc + 4) = .ok (.ldc_w is, 3) := by rw [hb]; exact d4
  have hstr' : vk_R own is text sa s' := vk_R.warm hW0 hstr
  obtain ⟨U, hsteps, hrun, hend, hW, hsame, ce, hce, hO⟩ := X₁.ctorThrowS hexec htr (own := own) (cls := cls) (names := names) (ic := ic) hown' hcls hnames h (fun x hx => nomatch hx) hfX hkX hcellA (by rw [hhp, hT]; exact Nat.le_refl _) (msg := .ref sa) rfl
    (g := { method := m, pc := pc + 7, locals := ls, stack := .ref sa :: .ref T.heap.size :: .ref T.heap.size :: rest, locked := none }) rfl hsize rfl rfl (rest := rest) rfl
    (by rw [hb]; exact d7) (by rw [hb]; exact d10) hout hRframes (by simp only [List.map_cons, List.sum_cons, hcat]; omega) hlocks
  obtain ⟨f1, f2⟩ := vx_frame hsame
  rw [hhp] at f1 f2
  have hWs : s.WarmedH U.vm := State.WarmedH.trans hW0 hW
  have hcl : s.vm.findClass cls = some ce.cls := by
    have h9 := hO.cls
    rw [hvm] at h9
    exact h9
  have hall : s.sameButNew ({ U with vm := s.vm } : State) locs mc ms := by
    subst hA
    obtain ⟨e1, e2⟩ := hsame
    rw [State.setFrames_setFrames] at e1
    have h2 : (T.setVm s.vm).sameButNew ({ U with vm := s.vm } : State) [] (0 + 1) (0 + 6) := ⟨e1, e2⟩
    have h3 := X.same.trans h2
    rw [List.append_nil] at h3
    exact h3.mono hc hs
  refine ⟨U, ?_, .threw T.heap.size, hrun, hend, Or.inr ⟨T.heap.size, rfl, cls, ce, locs, hx U hWs.alike f1 (fun q hq => f2 q hq (fun z hz => nomatch hz)), hce, hO.vm, hcl, hWs, hall, hf⟩⟩
  refine st1 _ ?_
  show Steps p.tables e below (T1.setTop { method := m, pc := pc + 3, locals := ls, stack := .ref T.heap.size :: rest, locked := none }) _
  jvm_step X₁.here [X₁.here.top, hexec, d3', Value.category]
  exact X₁.ldcStringW hexec (own := own) (text := text) (index := is) (a := sa) hown' hstr'.1 hstr'.2
    (g := { method := m, pc := pc + 4, locals := ls, stack := .ref T.heap.size :: .ref T.heap.size :: rest, locked := none }) rfl d4' _ hsteps
end Ends
section Bodies
variable {l : Launch}
theorem vx_ofW {y : MethodName} {ws ws' : List Cond} {rm : Room} {Pc : Array Value → State → Prop} {Qc : Array Value → State → Outcome → State → Prop} {XC : String → State → State → Prop} {mc ms : Nat} {free : Addr → Prop} {cc : ByteArray} {maxL : Nat} {ret : Option FieldType}
    (hy : plainName y.cls = true) (hw : ws = Cond.code y cc maxL ret :: ws')
    (body : ∀ p e s m args below meth c s₁, BodyLoose p l y (headSpec ws rm) cc maxL ret e s m args below meth c s₁ → c.maxLocals = maxL → (∀ x ∈ c.exceptionTable.toList, False) → Pc args s →
      W p l e (headSpec ws rm).room s m args below meth c s.heap [] 0 0 (vx_MQ below Qc XC args s mc ms free) (entryFrame m args maxL)) : vx_Met l y ws rm Pc Qc XC mc ms free := by
  refine MetFree.of_bodyS (code := cc) (maxLocals := maxL) (ret := ret) hy ?_ ?_
  · intro args s m h hn
    obtain ⟨meth, c, h1, h2, h3, h4, h5, h6, -, -⟩ := Cond.code_spec hn (atoms_spec (ws := ws) h _ (by rw [hw]; exact List.mem_cons_self))
    exact ⟨meth, c, h1, h2, h3, h4, h5, h6⟩
  · intro p e s m args below meth c s₁ B hml hP _
    have hh0 : s₁.heap = s.heap := by rw [B.state]; rfl
    have ht : ∀ x ∈ c.exceptionTable.toList, False := by
      obtain ⟨meth9, c9, h1, h2, -, -, -, -, h7, -⟩ := Cond.code_spec B.named (atoms_spec (ws := ws) B.pre _ (by rw [hw]; exact List.mem_cons_self))
      cases Option.some.inj (h1.symm.trans B.method)
      cases Option.some.inj (h2.symm.trans (Stand.of_body B).code)
      intro x hx
      rw [Array.isEmpty_iff.mp h7] at hx
      cases hx
    obtain ⟨t, a1, o, b1, b2, b3⟩ := body p e s m args below meth c s₁ B hml ht hP s₁ hh0 (Stand.of_body B)
    exact ⟨t, o, a1, b1, b2, b3⟩
/-- the table of a body with handlers -/
theorem vx_table {p : Program} {x y : MethodName} {S : Spec} {cc bytes : ByteArray} {maxL maxL' : Nat} {ret ret' : Option FieldType} {e : Env} {s s₁ : State} {m : MethodId} {args : Array Value} {below : List Frame} {meth : Method} {c : Code} {hh : List (Nat × Nat × Nat × Nat)}
    (B : BodyLoose p l y S cc maxL ret e s m args below meth c s₁) (h : (Cond.codeWith y bytes maxL' ret' hh).before args s = true) : c.exceptionTable.toList = tableOf hh := by
  obtain ⟨m9, meth9, c9, hn9, h1, h2, -, -, h6, -⟩ := Cond.codeWith_spec h
  cases Option.some.inj (hn9.symm.trans B.named)
  cases Option.some.inj (h1.symm.trans B.method)
  cases Option.some.inj (h2.symm.trans (Stand.of_body B).code)
  rw [← h6, table_eq]
end Bodies
end VXA
/-! ===== END ===== -/
/-! ===== BEGIN a static call of a method with an exception table ===== -/
section VXS
variable {p : Program} {l : Launch} {e : Env} {R : Room} {s : State} {m : MethodId} {args : Array Value} {below : List Frame} {meth : Method} {c : Code} {T : State} {H : Heap} {locs : List Loc} {cells slots : Nat}
abbrev vx_CSW (R : Room) (s : State) (args : Array Value) (own : String) (index : Nat) (y : MethodName) (bytes : ByteArray) (maxL : Nat) (ret : Option FieldType) (hh : List (Nat × Nat × Nat × Nat)) (ws : List Cond) (rm : Room) (mc ms n : Nat) : Prop :=
  (rm.cells = mc ∧ rm.slots = ms ∧ rm.frames + 1 ≤ R.frames ∧ 8 + (maxL + 11) + rm.locals ≤ R.locals ∧ (∀ w ∈ ws, ∀ (a' : Array Value) (U : State), s.WarmedH U.vm → w.before a' U = true) ∧ Cond.codeWith y bytes maxL ret hh ∈ ws) ∧
  (Cond.codeWith y bytes maxL ret hh).before args s = true ∧ (Cond.initialized y.cls).before args s = true ∧ (y.cls ≠ "java/lang/invoke/MethodHandle" ∧ y.cls ≠ "java/lang/invoke/VarHandle") ∧
  (∀ sig, parseMethodDescriptor y.desc = some sig → n = sig.parameters.length) ∧ (Cond.methodLink own index y).before args s = true ∧ (Cond.static y).before args s = true
theorem vx_cwSW {own : String} {index maxL mc ms : Nat} {y : MethodName} {bytes : ByteArray} {ret : Option FieldType} {hh : List (Nat × Nat × Nat × Nat)} {Ts ws ws' : List Cond} {rm : Room} (n : Nat) (ht : ∀ w ∈ Ts, w.before args s = true) (hT : GoodIn Ts (va_wsS own index y ws)) (hw : ws = Cond.codeWith y bytes maxL ret hh :: ws') (hrc : rm.cells = mc) (hrs : rm.slots = ms)
    (hd : y.cls ≠ "java/lang/invoke/MethodHandle" ∧ y.cls ≠ "java/lang/invoke/VarHandle" ∧ (parseMethodDescriptor y.desc).map (fun d => d.parameters.length) = some n) (hR : rm.frames + 1 ≤ R.frames ∧ 8 + (maxL + 11) + rm.locals ≤ R.locals) :
    vx_CSW R s args own index y bytes maxL ret hh ws rm mc ms n := by
  have ok : ∀ w ∈ va_wsS own index y ws, w.before args s = true := fun w h => ht w (hT w h).1
  have hG : GoodIn Ts ws := fun w h => hT w (by unfold va_wsS; exact List.mem_append_right _ h)
  have hc : Cond.codeWith y bytes maxL ret hh ∈ ws := by rw [hw]; exact List.mem_cons_self
  refine ⟨⟨hrc, hrs, hR.1, hR.2, pay_in ht hG, hc⟩, ht _ (hG _ hc).1, ok _ (by simp [va_wsS]), ⟨hd.1, hd.2.1⟩, fun sig h => ?_, ok _ (by simp [va_wsS]), ok _ (by simp [va_wsS])⟩
  have h2 := hd.2.2
  rw [h] at h2
  exact (Option.some.inj h2).symm
theorem vx_callSW (X : Stand p l e R s m args below meth c T locs cells slots) (hexec : p.tables.exec = Jvm.exec) {own : String} {index : Nat} {y : MethodName} {bytes : ByteArray} {maxL : Nat} {ret : Option FieldType} {hh : List (Nat × Nat × Nat × Nat)}
    (hown : s.vm.findClass own = some m.cls) (hlink : (Cond.methodLink own index y).before args s = true) (hstat : (Cond.static y).before args s = true) (hinit : (Cond.initialized y.cls).before args s = true)
    (hcode : (Cond.codeWith y bytes maxL ret hh).before args s = true) (hy : y.cls ≠ "java/lang/invoke/MethodHandle" ∧ y.cls ≠ "java/lang/invoke/VarHandle")
    {W9 : Nat} {Pre : Pt → Array Value → Prop} {Post : Pt → Array Value → Option Value → Pt → Prop} (hK : Back l R p e below s args y 3 W9 Pre Post)
    {g : JFrame} (hg : g.method = m) (hsize : g.locals.size = c.maxLocals) {argsL rest : List Value} (hlen : ∀ sig, parseMethodDescriptor y.desc = some sig → argsL.length = sig.parameters.length)
    (hstack : g.stack = argsL.reverse ++ rest) (hW : 2 * g.monitorRoom + (rest.map fun v => v.category).sum ≤ W9) (hdg : decode c.code g.pc = .ok (.invokestatic index, 3))
    (hpre : ∀ vm₁, s.WarmedH vm₁ → Pre ⟨T.setVm vm₁, locs, cells, slots⟩ argsL.toArray) :
    ∃ (v : Option Value) (vm₁ : Vm) (B : Pt), s.WarmedH vm₁ ∧ Stand p l e R s m args below meth c B.U B.locs B.cells B.slots ∧ Post ⟨T.setVm vm₁, locs, cells, slots⟩ argsL.toArray v B ∧
      ∀ target, Steps p.tables e below (B.U.setTop { g with pc := g.pc + 3, stack := v.toList ++ rest }) target → Steps p.tables e below (T.setTop g) target := by
  obtain ⟨mk, methM, cM, hnamed, hmethM, -, -, -, -, -, -, hsigM⟩ := Cond.codeWith_spec hcode
  have hstatic : methM.isStatic = true := Cond.static_spec hnamed hmethM hstat
  obtain ⟨kP, hkP, -⟩ := className_of_methodNamed hnamed
  have hinitP : kP.init = .initialized := Cond.initialized_spec (findClass_of_methodNamed hnamed) hkP hinit
  obtain ⟨vm₁, X₁, hstep₁⟩ := X.invokestatic hexec hown hlink hnamed hmethM hstatic hkP hinitP hy (g := g) hg (argsL := argsL) (rest := rest) (hlen _ hsigM) hstack hdg
  obtain ⟨v, B, X', hpost, hsteps⟩ := hK m meth c ⟨T.setVm vm₁, locs, cells, slots⟩ { g with stack := rest } (.invokestatic index) mk argsL.toArray X₁ hg hsize hdg hW (X₁.named hnamed) (hpre vm₁ X₁.warmed)
  exact ⟨v, vm₁, B, X₁.warmed, X', hpost, fun target h => hstep₁ _ fun acts => by rw [doInvoke_state]; exact hsteps.trans h⟩
theorem vx_runSW {y : MethodName} {bytes cc : ByteArray} {maxL nL mc ms n index : Nat} {ret : Option FieldType} {hh : List (Nat × Nat × Nat × Nat)} {ws : List Cond} {rm : Room} {Pc : Array Value → State → Prop} {Qc : Array Value → State → Outcome → State → Prop} {free : Addr → Prop} {Ts : List Cond} {own : String} {As rest : List Value} {g : JFrame}
    (S : CallFix p m c cc nL s args Ts own) (hM : Met l y ws rm Pc Qc mc ms free) (cw : vx_CSW R s args own index y bytes maxL ret hh ws rm mc ms n) (hp : PreS s H Pc As)
    (hg : g.method = m) (hn : As.length = n) (hsize : g.locals.size = nL) (hstack : g.stack = As.reverse ++ rest) (hW : 2 * g.monitorRoom + (rest.map fun v => v.category).sum ≤ 8) (hdg : decode cc g.pc = .ok (.invokestatic index, 3)) (hf : cells + mc ≤ R.cells ∧ slots + ms ≤ R.slots) :
    va_Run p l e R s m args below meth c H locs cells slots mc ms g rest (Qc As.toArray) (free) := by
  obtain ⟨⟨hrc, hrs, hfr, hlo, hws, hcw⟩, hcode, hini, hy, hlen, hl, hstt⟩ := cw
  have hK : Back l R p e below s args y 3 8 (PreOf R mc ms Pc) (PostOf Qc mc ms free) := va_backW (hh := hh) (bytes := bytes) (maxL := maxL) (ret := ret) hM hp.1 hrc hrs hfr hlo hws hcw (fun a' U hW => word_at hW (Or.inl (by first | rfl | simp [Cond.onTables, Cond.keeps, Cond.steady])) hini)
  obtain ⟨hx, hb, hml, ho, -⟩ := S
  intro T hT X
  obtain ⟨v, vm₁, ⟨U', l2, c2, s2⟩, hW₁, X', ⟨g', mk, t, L, e1, e2, hq, h1, hL, h2, h3⟩, st⟩ := vx_callSW X hx (hh := hh) (bytes := bytes) (maxL := maxL) (ret := ret) ho hl hstt hini hcode hy hK hg (hsize.trans hml.symm) (argsL := As) (rest := rest) (fun sig h => hn.trans (hlen sig h)) hstack hW (by rw [hb]; exact hdg)
    (fun vm₁ hW₁ => ⟨hf.1, hf.2, hp.2 (T.setVm vm₁) hT hW₁⟩)
  dsimp only [Pt.U, Pt.locs, Pt.cells, Pt.slots] at X' e1 e2 h1 h2 h3 st
  subst h1; subst h2; subst h3
  exact ⟨v, (T.setVm vm₁).calling g' mk As.toArray, t, U', L, hT, X', hL, e1, e2, hq, st⟩
/-- not caught here, past rows that name other classes: it goes on to the caller -/
theorem vx_outP {p : Program} {l : Launch} {e : Env} {R : Room} {s : State} {m : MethodId} {args : Array Value} {below : List Frame} {meth : Method} {c : Code} {H : Heap} {locs : List Loc} {cells slots : Nat} {free : Addr → Prop} {ls : Array Slot} {rest : List Value} {Qc : Array Value → State → Outcome → State → Prop} {XC : String → State → State → Prop}
    {pc : Nat} {own E : String} {ce : Cell} {q : Addr} {mc ms : Nat} (hown : s.vm.findClass own = some m.cls) (hlocks : meth.locks = false)
    (hpass : ∀ z ∈ c.exceptionTable.toList, covers z pc = false ∨ (z.catchType ≠ 0 ∧ ∃ nm : String, (Cond.classLink own z.catchType nm).before args s = true ∧ va_Nc E nm s)) (hcell : H[q]? = some ce) (hv : ce.vm = .none) (hcl : s.vm.findClass E = some ce.cls)
    (hx : ∀ t : State, t.heap = H → s.vm.Alike t.vm → XC E s t) (hf : ∀ z ∈ locs, free z.base) (hc : cells ≤ mc) (hs : slots ≤ ms) :
    vx_W p l e R s m args below meth c H locs cells slots (vx_MQ below Qc XC args s mc ms free) (F0 m pc ls rest) q := by
  intro T hT X
  have hpl : e.platform.magicAccessors = ({} : Platform).magicAccessors := by rw [X.admits.platform]
  obtain ⟨vm', hW', X', st⟩ := X.outThrough hlocks q (g := F0 m pc ls rest) rfl rfl rfl (cell := ce) (by rw [hT]; exact hcell) (by rw [hv]; rfl)
    (by obtain ⟨k9, h9, -⟩ := Vm.findClass_spec hcl; exact ⟨k9, h9⟩) (fun z hz => by
      rcases hpass z hz with h | ⟨hz0, nm, hl1, hn1⟩
      · exact Or.inl h
      · obtain ⟨c6, hc6, hcl6⟩ := Cond.classLink_spec hown hl1 e.platform hpl
        obtain ⟨a8, b8, h1, h2, h3⟩ := hn1
        cases Option.some.inj (h1.symm.trans hcl)
        cases Option.some.inj (h2.symm.trans hc6)
        exact Or.inr ⟨hz0, _, hcl6, h3⟩)
  obtain ⟨g₀, hfr⟩ := X'.frames_eq
  have hcell9 : ((T.setVm vm').setFrames (.throwing q :: below)).heap[q]? = some ce := by
    show T.heap[q]? = some ce
    rw [hT]; exact hcell
  have hend : Ended ((T.setVm vm').setFrames (.throwing q :: below)) below (.threw q) := State.frames_setFrames _ (State.cur_lt_of_frames hfr)
  refine ⟨(T.setVm vm').setFrames (.throwing q :: below), ?_, .threw q, X'.here.running, hend, Or.inr ⟨q, rfl, E, ce, locs, hx _ hT (X'.ends _).1.alike, hcell9, hv, hcl, (X'.ends _).1, (X'.ends _).2.mono hc hs, hf⟩⟩
  rw [X.pushThrowing_eq]
  exact st
/-- a thing of a world lies in the heap -/
theorem vx_lt {D : va_G} {cl : List vw_C} {ws : va_W} {H1 : Heap} (h : va_P D cl ws H1) {k : Nat} {q : Nat × va_E} (hk : ws[k]? = some q) : q.1 < H1.size := (h k q hk).lt
end VXS
/-! ===== END ===== -/
/-! ===== BEGIN methods with a table of their own: called by a name, returning or throwing ===== -/
section VXH
/-! vx_backW, vx_callVX, vx_callSX, vx_callVW, vx_runVW, vx_runVX, vx_runSX, vx_ofWH follow the same proofs as their sisters above (Free/Laws.lean, Shelf42/LK1.lean); vx_outP calls Shelf42/NT130.lean (outThrough). -/
section
variable {l : Launch} {R : Room} {p : Program} {e : Env} {below : List Frame} {s : State} {sargs : Array Value} {y : MethodName} {len W9 : Nat}
theorem vx_backW {ws : List Cond} {rm : Room} {Pc : Array Value → State → Prop} {Qc : Array Value → State → Outcome → State → Prop} {XC : String → State → State → Prop} {mc ms : Nat} {free : Addr → Prop} {bytes : ByteArray} {maxL : Nat} {ret : Option FieldType} {hh : List (Nat × Nat × Nat × Nat)}
    (hM : vx_Met l y ws rm Pc Qc XC mc ms free) (hblind : FrameBlind Pc) (hrc : rm.cells = mc) (hrs : rm.slots = ms)
    (hframes : rm.frames + 1 ≤ R.frames) (hlocals : W9 + (maxL + 11) + rm.locals ≤ R.locals)
    (hws : ∀ w ∈ ws, ∀ a' U, s.WarmedH U.vm → w.before a' U = true) (hcode : Cond.codeWith y bytes maxL ret hh ∈ ws) (hinit : ∀ a' U, s.WarmedH U.vm → (Cond.initialized y.cls).before a' U = true) :
    vx_Back l R p e below s sargs y len W9 (PreOf R mc ms Pc) (PostOf Qc mc ms free) (vx_Post XC mc ms free) := by
  intro m meth c A g ig mk a X hg hsize hdg hW hn hp
  have h1 : (headSpec ws rm).pre.before a A.U = true := atoms_intro fun w hw => hws w hw _ _ X.warmed
  have h2 : (Cond.codeWith y bytes maxL ret hh).before a A.U = true := hws _ hcode _ _ X.warmed
  have h3 : (Cond.initialized y.cls).before a A.U = true := hinit _ _ X.warmed
  have h4 : A.cells + (headSpec ws rm).room.cells ≤ R.cells := by rw [show (headSpec ws rm).room.cells = mc from hrc]; exact hp.1
  have h5 : A.slots + (headSpec ws rm).room.slots ≤ R.slots := by rw [show (headSpec ws rm).room.slots = ms from hrs]; exact hp.2.1
  have hPc : Pc a (A.U.calling g mk a) := hblind _ _ _ _ hp.2.2
  obtain ⟨U, Ls, c0, s0⟩ := A
  dsimp only [Pt.U, Pt.locs, Pt.cells, Pt.slots] at h1 h2 h3 h4 h5 X hn hPc ⊢
  obtain ⟨m9, methY, cY, hn9, hmY, hcY, -, hlY, -⟩ := Cond.codeWith_spec h2
  cases Option.some.inj (hn9.symm.trans hn)
  obtain ⟨kY, hkY, -⟩ := className_of_methodNamed hn
  have hinitY : kY.init = .initialized := Cond.initialized_spec (findClass_of_methodNamed hn) hkY h3
  have h : At U g.method c below := by rw [hg]; exact X.here
  have hlocals9 : W9 + (maxL + 11) + (headSpec ws rm).room.locals ≤ R.locals := hlocals
  have happ : (headSpec ws rm).appliesLoose y e.platform (U.calling g mk a) = true :=
    Spec.appliesLoose_calling (g := g) h hdg hn hkY hinitY
      (X.room_calling (g := g) (R' := (headSpec ws rm).room) hsize hmY hcY hframes (by rw [hlY]; omega) h4 h5) h1
  obtain ⟨mid, hmid⟩ := h.above
  have hfr : (U.setTop g).frames = (.java g :: mid) ++ below := by rw [State.frames_setTop' g h.top, hmid]; rfl
  obtain ⟨o, s₂, hsteps, -, hend, hq⟩ := Steps.callFree hM p X.admits X.cas X.clock (acts := []) hfr happ hPc trivial
  have hq' : vx_Q Qc XC mc ms free a (U.calling g mk a) o s₂ := hq
  rw [State.frames_setTop' g h.top] at hend
  obtain ⟨g₀, hg0⟩ := Option.isSome_iff_exists.mp h.top
  obtain ⟨r, hr⟩ := State.topJava?_eq_some.mp hg0
  have hr' : (({ U with heap := s₂.heap, slotsUsed := s₂.slotsUsed } : State).setVm s₂.vm).frames = .java g₀ :: r := hr
  rcases hq' with ⟨hqc, L, hfe, hL⟩ | ⟨q, rfl, E, ce, L, hx, hce, hcv, hcl, hW₂, hsm, hL⟩
  · obtain ⟨⟨v, rfl⟩, hW₂, e2, q2, q3, q4, q5, q6⟩ := id hfe
    have e3 : s₂ = ({ (U.calling g mk a).setFrames s₂.frames with heap := s₂.heap, slotsUsed := s₂.slotsUsed } : State).setVm s₂.vm := by
      have : s₂ = ({ s₂ with vm := (U.calling g mk a).vm } : State).setVm s₂.vm := rfl
      rw [e2] at this
      exact this
    obtain ⟨c₂, i₂, len₂, hc₂, hd₂, hf₂⟩ := hend
    have hW' : U.WarmedH s₂.vm := hW₂
    have hcc : c₂ = c := by
      have h1 : s₂.code? g.method = U.code? g.method := by
        rw [State.code?_eq, State.code?_eq, hW'.alike.method?]
      exact Option.some.inj (hc₂.symm.trans (h1.trans h.code))
    subst hcc
    have hlen : len₂ = len := by rw [hdg] at hd₂; cases hd₂; rfl
    subst hlen
    have hs₂ : s₂ = (({ U with heap := s₂.heap, slotsUsed := s₂.slotsUsed } : State).setVm s₂.vm).setTop { g with pc := g.pc + len₂, stack := v.toList ++ g.stack } := by
      refine e3.trans ?_
      rw [hf₂, State.calling_eq h.top, State.setFrames_setFrames, State.setTop_of_frames _ hr', hr]
      rfl
    have hsame : U.sameButNew ({ U with heap := s₂.heap, slotsUsed := s₂.slotsUsed } : State) L mc ms := by
      refine ⟨?_, q2, q3, q4, q5, q6⟩
      obtain ⟨t, ht, -⟩ := State.frames_cons hr
      show ({ U with heap := s₂.heap, slotsUsed := s₂.slotsUsed } : State) = { U.setFrames U.frames with heap := s₂.heap, slotsUsed := s₂.slotsUsed }
      rw [State.setFrames_self ht]
    subst hg
    refine Or.inl ⟨v, ⟨(({ U with heap := s₂.heap, slotsUsed := s₂.slotsUsed } : State).setVm s₂.vm), Ls ++ L, c0 + mc, s0 + ms⟩,
      ⟨X.admits, X.cas, X.clock, X.frames, X.room, X.hears, X.method, X.code, (X.here.setHeapUsed s₂.heap s₂.slotsUsed).setVm hW'.alike, X.tail, State.WarmedH.trans X.warmed hW', X.limits, X.bytes, X.same.trans (hsame.setVm s.vm)⟩,
      ⟨g, mk, s₂, L, rfl, rfl, hqc, rfl, hL, rfl, rfl⟩, ?_⟩
    show Steps p.tables e below _ ((({ U with heap := s₂.heap, slotsUsed := s₂.slotsUsed } : State).setVm s₂.vm).setTop { g with pc := g.pc + len₂, stack := v.toList ++ g.stack })
    rw [← hs₂]
    exact hsteps
  · obtain ⟨e2, q2, q3, q4, q5, q6⟩ := id hsm
    have e3 : s₂ = ({ (U.calling g mk a).setFrames s₂.frames with heap := s₂.heap, slotsUsed := s₂.slotsUsed } : State).setVm s₂.vm := by
      have : s₂ = ({ s₂ with vm := (U.calling g mk a).vm } : State).setVm s₂.vm := rfl
      rw [e2] at this
      exact this
    have hf₂ : s₂.frames = .throwing q :: .java g :: U.frames.tail := hend
    have hW' : U.WarmedH s₂.vm := hW₂
    have hs₂ : s₂ = ((({ U with heap := s₂.heap, slotsUsed := s₂.slotsUsed } : State).setVm s₂.vm).setTop g).pushFrame (.throwing q) := by
      refine e3.trans ?_
      rw [hf₂, State.calling_eq h.top, State.setFrames_setFrames, State.pushFrame, State.frames_setTop _ hr', State.setTop_of_frames _ hr', State.setFrames_setFrames, hr]
      rfl
    have hsame : U.sameButNew ({ U with heap := s₂.heap, slotsUsed := s₂.slotsUsed } : State) L mc ms := by
      refine ⟨?_, q2, q3, q4, q5, q6⟩
      obtain ⟨t, ht, -⟩ := State.frames_cons hr
      show ({ U with heap := s₂.heap, slotsUsed := s₂.slotsUsed } : State) = { U.setFrames U.frames with heap := s₂.heap, slotsUsed := s₂.slotsUsed }
      rw [State.setFrames_self ht]
    subst hg
    refine Or.inr ⟨q, ⟨(({ U with heap := s₂.heap, slotsUsed := s₂.slotsUsed } : State).setVm s₂.vm), Ls ++ L, c0 + mc, s0 + ms⟩,
      ⟨X.admits, X.cas, X.clock, X.frames, X.room, X.hears, X.method, X.code, (X.here.setHeapUsed s₂.heap s₂.slotsUsed).setVm hW'.alike, X.tail, State.WarmedH.trans X.warmed hW', X.limits, X.bytes, X.same.trans (hsame.setVm s.vm)⟩,
      ⟨g, mk, s₂, L, E, ce, rfl, rfl, hx, hce, hcv, hcl, rfl, hL, rfl, rfl⟩, ?_⟩
    show Steps p.tables e below _ (((({ U with heap := s₂.heap, slotsUsed := s₂.slotsUsed } : State).setVm s₂.vm).setTop g).pushFrame (.throwing q))
    rw [← hs₂]
    exact hsteps
end
variable {p : Program} {l : Launch} {e : Env} {R : Room} {s : State} {m : MethodId} {args : Array Value} {below : List Frame} {meth : Method} {c : Code} {T : State} {H : Heap} {locs : List Loc} {cells slots : Nat}
theorem vx_callVX (X : Stand p l e R s m args below meth c T locs cells slots) (hexec : p.tables.exec = Jvm.exec) {own C : String} {index : Nat} {y : MethodName} {bytes : ByteArray} {maxL : Nat} {ret : Option FieldType} {hh : List (Nat × Nat × Nat × Nat)}
    (hown : s.vm.findClass own = some m.cls) (hlink : (Cond.methodLink own index y).before args s = true) (hinst : (Cond.instanceMethod y).before args s = true) (hsel : (Cond.selects C y y).before args s = true)
    (hcode : (Cond.codeWith y bytes maxL ret hh).before args s = true) (hy : y.cls ≠ "java/lang/invoke/MethodHandle" ∧ y.cls ≠ "java/lang/invoke/VarHandle")
    {W9 : Nat} {Pre : Pt → Array Value → Prop} {Post : Pt → Array Value → Option Value → Pt → Prop} {PostX : Pt → Array Value → Addr → Pt → Prop} (hK : vx_Back l R p e below s args y 3 W9 Pre Post PostX)
    {b : Addr} {cellB : Cell} (hcell : T.heap[b]? = some cellB) (hobj : cellB.vm.isStatics = false) (hcls : s.vm.findClass C = some cellB.cls)
    {g : JFrame} (hg : g.method = m) (hsize : g.locals.size = c.maxLocals) {argsL rest : List Value} (hlen : ∀ sig, parseMethodDescriptor y.desc = some sig → argsL.length = sig.parameters.length)
    (hstack : g.stack = argsL.reverse ++ .ref b :: rest) (hW : 2 * g.monitorRoom + (rest.map fun v => v.category).sum ≤ W9) (hdg : decode c.code g.pc = .ok (.invokevirtual index, 3))
    (hpre : ∀ vm₁, s.WarmedH vm₁ → Pre ⟨T.setVm vm₁, locs, cells, slots⟩ (Value.ref b :: argsL).toArray) :
    (∃ (v : Option Value) (vm₁ : Vm) (B : Pt), s.WarmedH vm₁ ∧ Stand p l e R s m args below meth c B.U B.locs B.cells B.slots ∧ Post ⟨T.setVm vm₁, locs, cells, slots⟩ (Value.ref b :: argsL).toArray v B ∧
      ∀ target, Steps p.tables e below (B.U.setTop { g with pc := g.pc + 3, stack := v.toList ++ rest }) target → Steps p.tables e below (T.setTop g) target) ∨
    (∃ (q : Addr) (vm₁ : Vm) (B : Pt), s.WarmedH vm₁ ∧ Stand p l e R s m args below meth c B.U B.locs B.cells B.slots ∧ PostX ⟨T.setVm vm₁, locs, cells, slots⟩ (Value.ref b :: argsL).toArray q B ∧
      Steps p.tables e below (T.setTop g) ((B.U.setTop { g with stack := rest }).pushFrame (.throwing q))) := by
  obtain ⟨mk, methM, hnamed, hmethM, hstM, habM⟩ := Cond.instanceMethod_spec hinst
  obtain ⟨m8, methM', cM, hn8, hmethM', -, -, -, -, -, -, hsigM⟩ := Cond.codeWith_spec hcode
  cases Option.some.inj (hn8.symm.trans hnamed)
  cases hmethM.symm.trans hmethM'
  obtain ⟨c2, r2, m2, q1, q2, q3, q4, kP, hkP, hkPi⟩ := Cond.selects_spec hsel
  cases hcls.symm.trans q1
  cases (State.methodFound?_of_named hnamed hy).symm.trans q2
  cases hnamed.symm.trans q3
  have hselP : selectMethod e.platform s.vm cellB.cls mk = .method mk := by rw [Launch.admits_selectMethod X.admits]; exact q4
  obtain ⟨vm₁, X₁, hstep₁⟩ := X.invokevirtual hexec hown hlink hnamed hmethM hstM hkP hkPi hy (a := b) (cell := cellB) hcell
    (fun z h => by rw [h] at hobj; cases hobj) hselP hmethM habM hkP hkPi (g := g) hg (argsL := argsL) (rest := rest) (hlen _ hsigM) hstack hdg
  rcases hK m meth c ⟨T.setVm vm₁, locs, cells, slots⟩ { g with stack := rest } (.invokevirtual index) mk (Value.ref b :: argsL).toArray X₁ hg hsize hdg hW (X₁.named hnamed) (hpre vm₁ X₁.warmed) with ⟨v, B, X', hpost, hsteps⟩ | ⟨q, B, X', hpost, hsteps⟩
  · exact Or.inl ⟨v, vm₁, B, X₁.warmed, X', hpost, fun target h => hstep₁ _ fun acts => by rw [doInvoke_state]; exact hsteps.trans h⟩
  · exact Or.inr ⟨q, vm₁, B, X₁.warmed, X', hpost, hstep₁ _ fun acts => by rw [doInvoke_state]; exact hsteps⟩
theorem vx_callSX (X : Stand p l e R s m args below meth c T locs cells slots) (hexec : p.tables.exec = Jvm.exec) {own : String} {index : Nat} {y : MethodName} {bytes : ByteArray} {maxL : Nat} {ret : Option FieldType} {hh : List (Nat × Nat × Nat × Nat)}
    (hown : s.vm.findClass own = some m.cls) (hlink : (Cond.methodLink own index y).before args s = true) (hstat : (Cond.static y).before args s = true) (hinit : (Cond.initialized y.cls).before args s = true)
    (hcode : (Cond.codeWith y bytes maxL ret hh).before args s = true) (hy : y.cls ≠ "java/lang/invoke/MethodHandle" ∧ y.cls ≠ "java/lang/invoke/VarHandle")
    {W9 : Nat} {Pre : Pt → Array Value → Prop} {Post : Pt → Array Value → Option Value → Pt → Prop} {PostX : Pt → Array Value → Addr → Pt → Prop} (hK : vx_Back l R p e below s args y 3 W9 Pre Post PostX)
    {g : JFrame} (hg : g.method = m) (hsize : g.locals.size = c.maxLocals) {argsL rest : List Value} (hlen : ∀ sig, parseMethodDescriptor y.desc = some sig → argsL.length = sig.parameters.length)
    (hstack : g.stack = argsL.reverse ++ rest) (hW : 2 * g.monitorRoom + (rest.map fun v => v.category).sum ≤ W9) (hdg : decode c.code g.pc = .ok (.invokestatic index, 3))
    (hpre : ∀ vm₁, s.WarmedH vm₁ → Pre ⟨T.setVm vm₁, locs, cells, slots⟩ argsL.toArray) :
    (∃ (v : Option Value) (vm₁ : Vm) (B : Pt), s.WarmedH vm₁ ∧ Stand p l e R s m args below meth c B.U B.locs B.cells B.slots ∧ Post ⟨T.setVm vm₁, locs, cells, slots⟩ argsL.toArray v B ∧
      ∀ target, Steps p.tables e below (B.U.setTop { g with pc := g.pc + 3, stack := v.toList ++ rest }) target → Steps p.tables e below (T.setTop g) target) ∨
    (∃ (q : Addr) (vm₁ : Vm) (B : Pt), s.WarmedH vm₁ ∧ Stand p l e R s m args below meth c B.U B.locs B.cells B.slots ∧ PostX ⟨T.setVm vm₁, locs, cells, slots⟩ argsL.toArray q B ∧
      Steps p.tables e below (T.setTop g) ((B.U.setTop { g with stack := rest }).pushFrame (.throwing q))) := by
  obtain ⟨mk, methM, cM, hnamed, hmethM, -, -, -, -, -, -, hsigM⟩ := Cond.codeWith_spec hcode
  have hstatic : methM.isStatic = true := Cond.static_spec hnamed hmethM hstat
  obtain ⟨kP, hkP, -⟩ := className_of_methodNamed hnamed
  have hinitP : kP.init = .initialized := Cond.initialized_spec (findClass_of_methodNamed hnamed) hkP hinit
  obtain ⟨vm₁, X₁, hstep₁⟩ := X.invokestatic hexec hown hlink hnamed hmethM hstatic hkP hinitP hy (g := g) hg (argsL := argsL) (rest := rest) (hlen _ hsigM) hstack hdg
  rcases hK m meth c ⟨T.setVm vm₁, locs, cells, slots⟩ { g with stack := rest } (.invokestatic index) mk argsL.toArray X₁ hg hsize hdg hW (X₁.named hnamed) (hpre vm₁ X₁.warmed) with ⟨v, B, X', hpost, hsteps⟩ | ⟨q, B, X', hpost, hsteps⟩
  · exact Or.inl ⟨v, vm₁, B, X₁.warmed, X', hpost, fun target h => hstep₁ _ fun acts => by rw [doInvoke_state]; exact hsteps.trans h⟩
  · exact Or.inr ⟨q, vm₁, B, X₁.warmed, X', hpost, hstep₁ _ fun acts => by rw [doInvoke_state]; exact hsteps⟩
theorem vx_callVW (X : Stand p l e R s m args below meth c T locs cells slots) (hexec : p.tables.exec = Jvm.exec) {own C : String} {index : Nat} {y : MethodName} {bytes : ByteArray} {maxL : Nat} {ret : Option FieldType} {hh : List (Nat × Nat × Nat × Nat)}
    (hown : s.vm.findClass own = some m.cls) (hlink : (Cond.methodLink own index y).before args s = true) (hinst : (Cond.instanceMethod y).before args s = true) (hsel : (Cond.selects C y y).before args s = true)
    (hcode : (Cond.codeWith y bytes maxL ret hh).before args s = true) (hy : y.cls ≠ "java/lang/invoke/MethodHandle" ∧ y.cls ≠ "java/lang/invoke/VarHandle")
    {W9 : Nat} {Pre : Pt → Array Value → Prop} {Post : Pt → Array Value → Option Value → Pt → Prop} (hK : Back l R p e below s args y 3 W9 Pre Post)
    {b : Addr} {cellB : Cell} (hcell : T.heap[b]? = some cellB) (hobj : cellB.vm.isStatics = false) (hcls : s.vm.findClass C = some cellB.cls)
    {g : JFrame} (hg : g.method = m) (hsize : g.locals.size = c.maxLocals) {argsL rest : List Value} (hlen : ∀ sig, parseMethodDescriptor y.desc = some sig → argsL.length = sig.parameters.length)
    (hstack : g.stack = argsL.reverse ++ .ref b :: rest) (hW : 2 * g.monitorRoom + (rest.map fun v => v.category).sum ≤ W9) (hdg : decode c.code g.pc = .ok (.invokevirtual index, 3))
    (hpre : ∀ vm₁, s.WarmedH vm₁ → Pre ⟨T.setVm vm₁, locs, cells, slots⟩ (Value.ref b :: argsL).toArray) :
    ∃ (v : Option Value) (vm₁ : Vm) (B : Pt), s.WarmedH vm₁ ∧ Stand p l e R s m args below meth c B.U B.locs B.cells B.slots ∧ Post ⟨T.setVm vm₁, locs, cells, slots⟩ (Value.ref b :: argsL).toArray v B ∧
      ∀ target, Steps p.tables e below (B.U.setTop { g with pc := g.pc + 3, stack := v.toList ++ rest }) target → Steps p.tables e below (T.setTop g) target := by
  obtain ⟨mk, methM, hnamed, hmethM, hstM, habM⟩ := Cond.instanceMethod_spec hinst
  obtain ⟨m8, methM', cM, hn8, hmethM', -, -, -, -, -, -, hsigM⟩ := Cond.codeWith_spec hcode
  cases Option.some.inj (hn8.symm.trans hnamed)
  cases hmethM.symm.trans hmethM'
  obtain ⟨c2, r2, m2, q1, q2, q3, q4, kP, hkP, hkPi⟩ := Cond.selects_spec hsel
  cases hcls.symm.trans q1
  cases (State.methodFound?_of_named hnamed hy).symm.trans q2
  cases hnamed.symm.trans q3
  have hselP : selectMethod e.platform s.vm cellB.cls mk = .method mk := by rw [Launch.admits_selectMethod X.admits]; exact q4
  obtain ⟨vm₁, X₁, hstep₁⟩ := X.invokevirtual hexec hown hlink hnamed hmethM hstM hkP hkPi hy (a := b) (cell := cellB) hcell
    (fun z h => by rw [h] at hobj; cases hobj) hselP hmethM habM hkP hkPi (g := g) hg (argsL := argsL) (rest := rest) (hlen _ hsigM) hstack hdg
  obtain ⟨v, B, X', hpost, hsteps⟩ := hK m meth c ⟨T.setVm vm₁, locs, cells, slots⟩ { g with stack := rest } (.invokevirtual index) mk (Value.ref b :: argsL).toArray X₁ hg hsize hdg hW (X₁.named hnamed) (hpre vm₁ X₁.warmed)
  exact ⟨v, vm₁, B, X₁.warmed, X', hpost, fun target h => hstep₁ _ fun acts => by rw [doInvoke_state]; exact hsteps.trans h⟩
abbrev vx_CVW (R : Room) (s : State) (args : Array Value) (own C : String) (index : Nat) (y : MethodName) (bytes : ByteArray) (maxL : Nat) (ret : Option FieldType) (hh : List (Nat × Nat × Nat × Nat)) (ws : List Cond) (rm : Room) (mc ms n : Nat) : Prop :=
  (rm.cells = mc ∧ rm.slots = ms ∧ rm.frames + 1 ≤ R.frames ∧ 8 + (maxL + 11) + rm.locals ≤ R.locals ∧ (∀ w ∈ ws, ∀ (a' : Array Value) (U : State), s.WarmedH U.vm → w.before a' U = true) ∧ Cond.codeWith y bytes maxL ret hh ∈ ws) ∧
  (Cond.codeWith y bytes maxL ret hh).before args s = true ∧ (Cond.initialized y.cls).before args s = true ∧ (y.cls ≠ "java/lang/invoke/MethodHandle" ∧ y.cls ≠ "java/lang/invoke/VarHandle") ∧
  (∀ sig, parseMethodDescriptor y.desc = some sig → n = sig.parameters.length) ∧ (Cond.methodLink own index y).before args s = true ∧ (Cond.instanceMethod y).before args s = true ∧ (Cond.selects C y y).before args s = true
theorem vx_cwVW {own C : String} {index maxL mc ms : Nat} {y : MethodName} {bytes : ByteArray} {ret : Option FieldType} {hh : List (Nat × Nat × Nat × Nat)} {Ts ws ws' : List Cond} {rm : Room} (n : Nat) (ht : ∀ w ∈ Ts, w.before args s = true) (hT : GoodIn Ts (wsV own index C y ws)) (hw : ws = Cond.codeWith y bytes maxL ret hh :: ws') (hrc : rm.cells = mc) (hrs : rm.slots = ms)
    (hd : y.cls = C ∧ y.cls ≠ "java/lang/invoke/MethodHandle" ∧ y.cls ≠ "java/lang/invoke/VarHandle" ∧ (parseMethodDescriptor y.desc).map (fun d => d.parameters.length) = some n) (hR : rm.frames + 1 ≤ R.frames ∧ 8 + (maxL + 11) + rm.locals ≤ R.locals) :
    vx_CVW R s args own C index y bytes maxL ret hh ws rm mc ms n := by
  obtain ⟨hC, hd⟩ := hd
  subst hC
  have ok : ∀ w ∈ wsV own index y.cls y ws, w.before args s = true := fun w h => ht w (hT w h).1
  have hG : GoodIn Ts ws := fun w h => hT w (by unfold wsV; exact List.mem_append_right _ h)
  have hc : Cond.codeWith y bytes maxL ret hh ∈ ws := by rw [hw]; exact List.mem_cons_self
  refine ⟨⟨hrc, hrs, hR.1, hR.2, pay_in ht hG, hc⟩, ht _ (hG _ hc).1, ok _ (by simp [wsV]), ⟨hd.1, hd.2.1⟩, fun sig h => ?_, ok _ (by simp [wsV]), ok _ (by simp [wsV]), ok _ (by simp [wsV])⟩
  have h2 := hd.2.2
  rw [h] at h2
  exact (Option.some.inj h2).symm
theorem vx_runVW {y : MethodName} {bytes cc : ByteArray} {maxL nL mc ms n index : Nat} {ret : Option FieldType} {hh : List (Nat × Nat × Nat × Nat)} {ws : List Cond} {rm : Room} {Pc : Array Value → State → Prop} {Qc : Array Value → State → Outcome → State → Prop} {free : Addr → Prop} {Ts : List Cond} {own C : String} {b : Addr} {As rest : List Value} {g : JFrame}
    (S : CallFix p m c cc nL s args Ts own) (hM : Met l y ws rm Pc Qc mc ms free) (cw : vx_CVW R s args own C index y bytes maxL ret hh ws rm mc ms n) (hp : PreV s H C b Pc As)
    (hg : g.method = m) (hn : As.length = n) (hsize : g.locals.size = nL) (hstack : g.stack = As.reverse ++ .ref b :: rest) (hW : 2 * g.monitorRoom + (rest.map fun v => v.category).sum ≤ 8) (hdg : decode cc g.pc = .ok (.invokevirtual index, 3)) (hf : cells + mc ≤ R.cells ∧ slots + ms ≤ R.slots) :
    va_Run p l e R s m args below meth c H locs cells slots mc ms g rest (Qc (Value.ref b :: As).toArray) free := by
  obtain ⟨⟨hrc, hrs, hfr, hlo, hws, hcw⟩, hcode, hini, hy, hlen, hl, hin, hse⟩ := cw
  have hK : Back l R p e below s args y 3 8 (PreOf R mc ms Pc) (PostOf Qc mc ms free) := va_backW (hh := hh) (bytes := bytes) (maxL := maxL) (ret := ret) hM hp.1 hrc hrs hfr hlo hws hcw (fun a' U hW => word_at hW (Or.inl (by first | rfl | simp [Cond.onTables, Cond.keeps, Cond.steady])) hini)
  obtain ⟨hx, hb, hml, ho, -⟩ := S
  obtain ⟨-, ⟨cellB, hcB, hoB, hclB⟩, hPc⟩ := hp
  intro T hT X
  obtain ⟨v, vm₁, ⟨U', l2, c2, s2⟩, hW₁, X', ⟨g', mk, t, L, e1, e2, hq, h1, hL, h2, h3⟩, st⟩ := vx_callVW X hx (C := C) (hh := hh) (bytes := bytes) (maxL := maxL) (ret := ret) ho hl hin hse hcode hy hK (by rw [hT]; exact hcB) hoB hclB hg (hsize.trans hml.symm) (argsL := As) (rest := rest) (fun sig h => hn.trans (hlen sig h)) hstack hW (by rw [hb]; exact hdg)
    (fun vm₁ hW₁ => ⟨hf.1, hf.2, hPc (T.setVm vm₁) hT hW₁⟩)
  dsimp only [Pt.U, Pt.locs, Pt.cells, Pt.slots] at X' e1 e2 h1 h2 h3 st
  subst h1; subst h2; subst h3
  exact ⟨v, (T.setVm vm₁).calling g' mk (Value.ref b :: As).toArray, t, U', L, hT, X', hL, e1, e2, hq, st⟩
section
variable {y : MethodName} {bytes cc : ByteArray} {maxL nL mc ms n index : Nat} {ret : Option FieldType} {ws : List Cond} {rm : Room} {Pc : Array Value → State → Prop} {Qc : Array Value → State → Outcome → State → Prop} {XC : String → State → State → Prop} {free : Addr → Prop} {Ts : List Cond} {own C : String} {b : Addr} {As rest : List Value} {g : JFrame}
theorem vx_runVX {hh : List (Nat × Nat × Nat × Nat)} (S : CallFix p m c cc nL s args Ts own) (hM : vx_Met l y ws rm Pc Qc XC mc ms free) (cw : vx_CVW R s args own C index y bytes maxL ret hh ws rm mc ms n) (hp : PreV s H C b Pc As)
    (hg : g.method = m) (hn : As.length = n) (hsize : g.locals.size = nL) (hstack : g.stack = As.reverse ++ .ref b :: rest) (hW : 2 * g.monitorRoom + (rest.map fun v => v.category).sum ≤ 8) (hdg : decode cc g.pc = .ok (.invokevirtual index, 3)) (hf : cells + mc ≤ R.cells ∧ slots + ms ≤ R.slots) :
    vx_Run p l e R s m args below meth c H locs cells slots mc ms g rest (Qc (Value.ref b :: As).toArray) XC free := by
  obtain ⟨⟨hrc, hrs, hfr, hlo, hws, hcw⟩, hcode, hini, hy, hlen, hl, hin, hse⟩ := cw
  have hK : vx_Back l R p e below s args y 3 8 (PreOf R mc ms Pc) (PostOf Qc mc ms free) (vx_Post XC mc ms free) := vx_backW (hh := hh) (bytes := bytes) (maxL := maxL) (ret := ret) hM hp.1 hrc hrs hfr hlo hws hcw (fun a' U hW => word_at hW (Or.inl (by first | rfl | simp [Cond.onTables, Cond.keeps, Cond.steady])) hini)
  obtain ⟨hx, hb, hml, ho, -⟩ := S
  obtain ⟨-, ⟨cellB, hcB, hoB, hclB⟩, hPc⟩ := hp
  intro T hT X
  rcases vx_callVX X hx (C := C) (hh := hh) (bytes := bytes) (maxL := maxL) (ret := ret) ho hl hin hse hcode hy hK (by rw [hT]; exact hcB) hoB hclB hg (hsize.trans hml.symm) (argsL := As) (rest := rest) (fun sig h => hn.trans (hlen sig h)) hstack hW (by rw [hb]; exact hdg)
    (fun vm₁ hW₁ => ⟨hf.1, hf.2, hPc (T.setVm vm₁) hT hW₁⟩) with ⟨v, vm₁, ⟨U', l2, c2, s2⟩, hW₁, X', ⟨g', mk, t, L, e1, e2, hq, h1, hL, h2, h3⟩, st⟩ | ⟨q, vm₁, ⟨U', l2, c2, s2⟩, hW₁, X', ⟨g', mk, t, L, E, ce, e1, e2, hq, hce, hcv, hcl, h1, hL, h2, h3⟩, st⟩
  · dsimp only [Pt.U, Pt.locs, Pt.cells, Pt.slots] at X' e1 e2 h1 h2 h3 st
    subst h1; subst h2; subst h3
    exact Or.inl ⟨v, (T.setVm vm₁).calling g' mk (Value.ref b :: As).toArray, t, U', L, hT, X', hL, e1, e2, hq, st⟩
  · dsimp only [Pt.U, Pt.locs, Pt.cells, Pt.slots] at X' e1 e2 h1 h2 h3 st hcl
    subst h1; subst h2; subst h3
    exact Or.inr ⟨q, (T.setVm vm₁).calling g' mk (Value.ref b :: As).toArray, t, U', L, E, ce, hT, X', hL, e1, e2, hq, hce, hcv, vx_cls hW₁ hcl, st⟩
theorem vx_runSX {hh : List (Nat × Nat × Nat × Nat)} (S : CallFix p m c cc nL s args Ts own) (hM : vx_Met l y ws rm Pc Qc XC mc ms free) (cw : vx_CSW R s args own index y bytes maxL ret hh ws rm mc ms n) (hp : PreS s H Pc As)
    (hg : g.method = m) (hn : As.length = n) (hsize : g.locals.size = nL) (hstack : g.stack = As.reverse ++ rest) (hW : 2 * g.monitorRoom + (rest.map fun v => v.category).sum ≤ 8) (hdg : decode cc g.pc = .ok (.invokestatic index, 3)) (hf : cells + mc ≤ R.cells ∧ slots + ms ≤ R.slots) :
    vx_Run p l e R s m args below meth c H locs cells slots mc ms g rest (Qc As.toArray) XC free := by
  obtain ⟨⟨hrc, hrs, hfr, hlo, hws, hcw⟩, hcode, hini, hy, hlen, hl, hstt⟩ := cw
  have hK : vx_Back l R p e below s args y 3 8 (PreOf R mc ms Pc) (PostOf Qc mc ms free) (vx_Post XC mc ms free) := vx_backW (hh := hh) (bytes := bytes) (maxL := maxL) (ret := ret) hM hp.1 hrc hrs hfr hlo hws hcw (fun a' U hW => word_at hW (Or.inl (by first | rfl | simp [Cond.onTables, Cond.keeps, Cond.steady])) hini)
  obtain ⟨hx, hb, hml, ho, -⟩ := S
  intro T hT X
  rcases vx_callSX X hx (hh := hh) (bytes := bytes) (maxL := maxL) (ret := ret) ho hl hstt hini hcode hy hK hg (hsize.trans hml.symm) (argsL := As) (rest := rest) (fun sig h => hn.trans (hlen sig h)) hstack hW (by rw [hb]; exact hdg)
    (fun vm₁ hW₁ => ⟨hf.1, hf.2, hp.2 (T.setVm vm₁) hT hW₁⟩) with ⟨v, vm₁, ⟨U', l2, c2, s2⟩, hW₁, X', ⟨g', mk, t, L, e1, e2, hq, h1, hL, h2, h3⟩, st⟩ | ⟨q, vm₁, ⟨U', l2, c2, s2⟩, hW₁, X', ⟨g', mk, t, L, E, ce, e1, e2, hq, hce, hcv, hcl, h1, hL, h2, h3⟩, st⟩
  · dsimp only [Pt.U, Pt.locs, Pt.cells, Pt.slots] at X' e1 e2 h1 h2 h3 st
    subst h1; subst h2; subst h3
    exact Or.inl ⟨v, (T.setVm vm₁).calling g' mk As.toArray, t, U', L, hT, X', hL, e1, e2, hq, st⟩
  · dsimp only [Pt.U, Pt.locs, Pt.cells, Pt.slots] at X' e1 e2 h1 h2 h3 st hcl
    subst h1; subst h2; subst h3
    exact Or.inr ⟨q, (T.setVm vm₁).calling g' mk As.toArray, t, U', L, E, ce, hT, X', hL, e1, e2, hq, hce, hcv, vx_cls hW₁ hcl, st⟩
end
end VXH
theorem vx_ofWH {l : Launch} {y : MethodName} {ws ws' : List Cond} {rm : Room} {Pc : Array Value → State → Prop} {Qc : Array Value → State → Outcome → State → Prop} {XC : String → State → State → Prop} {mc ms : Nat} {free : Addr → Prop} {cc : ByteArray} {maxL : Nat} {ret : Option FieldType} {hh : List (Nat × Nat × Nat × Nat)}
    (hy : plainName y.cls = true) (hw : ws = Cond.codeWith y cc maxL ret hh :: ws')
    (body : ∀ p e s m args below meth c s₁, BodyLoose p l y (headSpec ws rm) cc maxL ret e s m args below meth c s₁ → c.maxLocals = maxL → Pc args s →
      W p l e (headSpec ws rm).room s m args below meth c s.heap [] 0 0 (vx_MQ below Qc XC args s mc ms free) (entryFrame m args maxL)) : vx_Met l y ws rm Pc Qc XC mc ms free := by
  refine MetFree.of_bodyS (code := cc) (maxLocals := maxL) (ret := ret) hy ?_ ?_
  · intro args s m h hn
    obtain ⟨m9, meth, c, hn9, h1, h2, h3, h4, -, h5, h6, -⟩ := Cond.codeWith_spec (atoms_spec (ws := ws) h _ (by rw [hw]; exact List.mem_cons_self))
    cases hn.symm.trans hn9
    exact ⟨meth, c, h1, h2, h3, h4, h5, h6⟩
  · intro p e s m args below meth c s₁ B hml hP _
    have hh0 : s₁.heap = s.heap := by rw [B.state]; rfl
    obtain ⟨t, a1, o, b1, b2, b3⟩ := body p e s m args below meth c s₁ B hml hP s₁ hh0 (Stand.of_body B)
    exact ⟨t, o, a1, b1, b2, b3⟩
/-! ===== END ===== -/

/-! ===== BEGIN printed: names, fields, word lists, decode rows ===== -/
def RX0 : String := "SeasonTiers$FileRow"
def TX0 : u_T := fun k => match k with
  | 0 => ("SeasonTiers$FileRow", "name", "J", false)
  | 1 => ("SeasonTiers$FileRow", "size", "I", false)
  | 2 => ("SeasonTiers$FileRow", "home", "I", false)
  | 3 => ("SeasonTiers$FileRow", "uses", "I", false)
  | 4 => ("SeasonTiers$FileRow", "pinnedUntil", "I", false)
  | 5 => ("SeasonTiers$FileRow", "scored", "I", false)
  | 6 => ("SeasonTiers$FileRow", "offSum", "J", false)
  | 7 => ("SeasonTiers$FileRow", "keptCount", "I", false)
  | 8 => ("SeasonTiers$FileRow", "keptUses", "[I", true)
  | _ => ("SeasonTiers$FileRow", "seasons", "[I", true)
def tyX0 : Nat → FieldType := fun k => match k with
  | 0 => .long
  | 1 => .int
  | 2 => .int
  | 3 => .int
  | 4 => .int
  | 5 => .int
  | 6 => .long
  | 7 => .int
  | 8 => .array .int
  | _ => .array .int
abbrev wsX00 : List Cond := u_ws RX0 TX0 10
theorem nmX0 : ∀ a, a < 10 → ∀ b, b < 10 → a ≠ b → (TX0 a).2.1 ≠ (TX0 b).2.1 := by decide +kernel
theorem tyX0_ok : ∀ k, k < 10 → parseFieldDescriptor (TX0 k).2.2.1 = some (tyX0 k) := by decide +kernel
abbrev cX0_init : ByteArray := prog_2_method_1_code
def yX0_init : MethodName := ⟨RX0, "<init>", "()V"⟩
abbrev cX0_copyFrom : ByteArray := prog_2_method_2_code
def yX0_copyFrom : MethodName := ⟨RX0, "copyFrom", "(LSeasonTiers$FileRow;)V"⟩
abbrev cX0_startAs : ByteArray := prog_2_method_3_code
def yX0_startAs : MethodName := ⟨RX0, "startAs", "(JIII)V"⟩
abbrev cX0_isPinnedIn : ByteArray := prog_2_method_4_code
def yX0_isPinnedIn : MethodName := ⟨RX0, "isPinnedIn", "(I)Z"⟩
abbrev cX0_forgetSeasons : ByteArray := prog_2_method_5_code
def yX0_forgetSeasons : MethodName := ⟨RX0, "forgetSeasons", "()V"⟩
abbrev cX0_knownSeasons : ByteArray := prog_2_method_6_code
def yX0_knownSeasons : MethodName := ⟨RX0, "knownSeasons", "()I"⟩
abbrev cX0_busiestPhase : ByteArray := prog_2_method_7_code
def yX0_busiestPhase : MethodName := ⟨RX0, "busiestPhase", "()I"⟩
abbrev cX0_seasonSpread : ByteArray := prog_2_method_8_code
def yX0_seasonSpread : MethodName := ⟨RX0, "seasonSpread", "()I"⟩
abbrev cX0_meanSeason : ByteArray := prog_2_method_9_code
def yX0_meanSeason : MethodName := ⟨RX0, "meanSeason", "()I"⟩
abbrev cX0_forecastFor : ByteArray := prog_2_method_10_code
def yX0_forecastFor : MethodName := ⟨RX0, "forecastFor", "(I)I"⟩
abbrev cX0_learnSeason : ByteArray := prog_2_method_11_code
def yX0_learnSeason : MethodName := ⟨RX0, "learnSeason", "(III)V"⟩
abbrev cX0_scoreForecast : ByteArray := prog_2_method_12_code
def yX0_scoreForecast : MethodName := ⟨RX0, "scoreForecast", "(I)V"⟩
abbrev cX0_keepUses : ByteArray := prog_2_method_13_code
def yX0_keepUses : MethodName := ⟨RX0, "keepUses", "()V"⟩
abbrev cX0_learnFromKept : ByteArray := prog_2_method_14_code
def yX0_learnFromKept : MethodName := ⟨RX0, "learnFromKept", "(III)V"⟩
abbrev cX0_differenceAt : ByteArray := prog_2_method_15_code
def yX0_differenceAt : MethodName := ⟨RX0, "differenceAt", "(I)I"⟩
abbrev cX0_ownCycle : ByteArray := prog_2_method_16_code
def yX0_ownCycle : MethodName := ⟨RX0, "ownCycle", "()I"⟩
def RX1 : String := "SeasonTiers$History"
def TX1 : u_T := fun k => match k with
  | 0 => ("SeasonTiers$History", "size", "I", false)
  | 1 => ("SeasonTiers$History", "next", "I", false)
  | _ => ("SeasonTiers$History", "ring", "[LSeasonTiers$Store;", true)
def tyX1 : Nat → FieldType := fun k => match k with
  | 0 => .int
  | 1 => .int
  | _ => .array (.object "SeasonTiers$Store")
abbrev wsX10 : List Cond := u_ws RX1 TX1 3
theorem nmX1 : ∀ a, a < 3 → ∀ b, b < 3 → a ≠ b → (TX1 a).2.1 ≠ (TX1 b).2.1 := by decide +kernel
theorem tyX1_ok : ∀ k, k < 3 → parseFieldDescriptor (TX1 k).2.2.1 = some (tyX1 k) := by decide +kernel
abbrev cX1_init : ByteArray := prog_3_method_1_code
def yX1_init : MethodName := ⟨RX1, "<init>", "()V"⟩
abbrev cX1_remember : ByteArray := prog_3_method_2_code
def yX1_remember : MethodName := ⟨RX1, "remember", "(LSeasonTiers$Store;)V"⟩
abbrev cX1_bringBack : ByteArray := prog_3_method_3_code
def yX1_bringBack : MethodName := ⟨RX1, "bringBack", "(LSeasonTiers$Store;)V"⟩
def RX2 : String := "SeasonTiers$Moves"
def TX2 : u_T := fun k => match k with
  | 0 => ("SeasonTiers$Moves", "size", "I", false)
  | _ => ("SeasonTiers$Moves", "rows", "[I", true)
def tyX2 : Nat → FieldType := fun k => match k with
  | 0 => .int
  | _ => .array .int
abbrev wsX20 : List Cond := u_ws RX2 TX2 2
theorem nmX2 : ∀ a, a < 2 → ∀ b, b < 2 → a ≠ b → (TX2 a).2.1 ≠ (TX2 b).2.1 := by decide +kernel
theorem tyX2_ok : ∀ k, k < 2 → parseFieldDescriptor (TX2 k).2.2.1 = some (tyX2 k) := by decide +kernel
abbrev cX2_init : ByteArray := prog_4_method_1_code
def yX2_init : MethodName := ⟨RX2, "<init>", "()V"⟩
abbrev cX2_copyFrom : ByteArray := prog_4_method_2_code
def yX2_copyFrom : MethodName := ⟨RX2, "copyFrom", "(LSeasonTiers$Moves;)V"⟩
abbrev cX2_latest : ByteArray := prog_4_method_3_code
def yX2_latest : MethodName := ⟨RX2, "latest", "(I)I"⟩
abbrev cX2_put : ByteArray := prog_4_method_4_code
def yX2_put : MethodName := ⟨RX2, "put", "(IIIII)V"⟩
abbrev cX2_removeRow : ByteArray := prog_4_method_5_code
def yX2_removeRow : MethodName := ⟨RX2, "removeRow", "(I)V"⟩
abbrev cX2_forgetFile : ByteArray := prog_4_method_6_code
def yX2_forgetFile : MethodName := ⟨RX2, "forgetFile", "(I)V"⟩
def RX3 : String := "SeasonTiers$Planner"
def TX3 : u_T := fun k => match k with
  | 0 => ("SeasonTiers$Planner", "stepCount", "I", false)
  | 1 => ("SeasonTiers$Planner", "saved", "J", false)
  | 2 => ("SeasonTiers$Planner", "firstFiles", "[I", true)
  | 3 => ("SeasonTiers$Planner", "otherFiles", "[I", true)
  | 4 => ("SeasonTiers$Planner", "targets", "[I", true)
  | 5 => ("SeasonTiers$Planner", "gains", "[J", true)
  | 6 => ("SeasonTiers$Planner", "open", "[Z", true)
  | 7 => ("SeasonTiers$Planner", "space", "[I", true)
  | 8 => ("SeasonTiers$Planner", "bestFile", "I", false)
  | 9 => ("SeasonTiers$Planner", "bestOther", "I", false)
  | 10 => ("SeasonTiers$Planner", "bestTarget", "I", false)
  | _ => ("SeasonTiers$Planner", "bestGain", "J", false)
def tyX3 : Nat → FieldType := fun k => match k with
  | 0 => .int
  | 1 => .long
  | 2 => .array .int
  | 3 => .array .int
  | 4 => .array .int
  | 5 => .array .long
  | 6 => .array .boolean
  | 7 => .array .int
  | 8 => .int
  | 9 => .int
  | 10 => .int
  | _ => .long
abbrev wsX30 : List Cond := u_ws RX3 TX3 12
theorem nmX3 : ∀ a, a < 12 → ∀ b, b < 12 → a ≠ b → (TX3 a).2.1 ≠ (TX3 b).2.1 := by decide +kernel
theorem tyX3_ok : ∀ k, k < 12 → parseFieldDescriptor (TX3 k).2.2.1 = some (tyX3 k) := by decide +kernel
abbrev cX3_init : ByteArray := prog_5_method_1_code
def yX3_init : MethodName := ⟨RX3, "<init>", "()V"⟩
abbrev cX3_makePlan : ByteArray := prog_5_method_2_code
def yX3_makePlan : MethodName := ⟨RX3, "makePlan", "(LSeasonTiers$Store;I)V"⟩
abbrev cX3_planAgain : ByteArray := prog_5_method_3_code
def yX3_planAgain : MethodName := ⟨RX3, "planAgain", "(LSeasonTiers$Store;II)V"⟩
abbrev cX3_bestTier : ByteArray := prog_5_method_4_code
def yX3_bestTier : MethodName := ⟨RX3, "bestTier", "(LSeasonTiers$Store;II)I"⟩
abbrev cX3_carryOut : ByteArray := prog_5_method_5_code
def yX3_carryOut : MethodName := ⟨RX3, "carryOut", "(LSeasonTiers$Store;)I"⟩
abbrev cX3_findGains : ByteArray := prog_5_method_6_code
def yX3_findGains : MethodName := ⟨RX3, "findGains", "(LSeasonTiers$Store;II)V"⟩
abbrev cX3_findMove : ByteArray := prog_5_method_7_code
def yX3_findMove : MethodName := ⟨RX3, "findMove", "(LSeasonTiers$Store;)Z"⟩
abbrev cX3_findExchange : ByteArray := prog_5_method_8_code
def yX3_findExchange : MethodName := ⟨RX3, "findExchange", "(LSeasonTiers$Store;)Z"⟩
abbrev cX3_setBest : ByteArray := prog_5_method_9_code
def yX3_setBest : MethodName := ⟨RX3, "setBest", "(IIIJ)V"⟩
abbrev cX3_takeStep : ByteArray := prog_5_method_10_code
def yX3_takeStep : MethodName := ⟨RX3, "takeStep", "(LSeasonTiers$Store;)V"⟩
abbrev cX3_takeAway : ByteArray := prog_5_method_11_code
def yX3_takeAway : MethodName := ⟨RX3, "takeAway", "(IIII)V"⟩
def RX4 : String := "SeasonTiers$Reader"
def TX4 : u_T := fun k => match k with
  | 0 => ("SeasonTiers$Reader", "length", "I", false)
  | 1 => ("SeasonTiers$Reader", "errorAt", "I", false)
  | 2 => ("SeasonTiers$Reader", "text", "[I", true)
  | 3 => ("SeasonTiers$Reader", "at", "I", false)
  | 4 => ("SeasonTiers$Reader", "error", "I", false)
  | 5 => ("SeasonTiers$Reader", "number", "I", false)
  | 6 => ("SeasonTiers$Reader", "name", "J", false)
  | _ => ("SeasonTiers$Reader", "nameAt", "I", false)
def tyX4 : Nat → FieldType := fun k => match k with
  | 0 => .int
  | 1 => .int
  | 2 => .array .int
  | 3 => .int
  | 4 => .int
  | 5 => .int
  | 6 => .long
  | _ => .int
abbrev wsX40 : List Cond := u_ws RX4 TX4 8
theorem nmX4 : ∀ a, a < 8 → ∀ b, b < 8 → a ≠ b → (TX4 a).2.1 ≠ (TX4 b).2.1 := by decide +kernel
theorem tyX4_ok : ∀ k, k < 8 → parseFieldDescriptor (TX4 k).2.2.1 = some (tyX4 k) := by decide +kernel
abbrev cX4_init : ByteArray := prog_6_method_1_code
def yX4_init : MethodName := ⟨RX4, "<init>", "()V"⟩
abbrev cX4_putBytesOf : ByteArray := prog_6_method_2_code
def yX4_putBytesOf : MethodName := ⟨RX4, "putBytesOf", "(I)V"⟩
abbrev cX4_readStore : ByteArray := prog_6_method_3_code
def yX4_readStore : MethodName := ⟨RX4, "readStore", "(LSeasonTiers$Store;)I"⟩
abbrev cX4_readHead : ByteArray := prog_6_method_4_code
def yX4_readHead : MethodName := ⟨RX4, "readHead", "(LSeasonTiers$Store;)Z"⟩
abbrev cX4_readTiers : ByteArray := prog_6_method_5_code
def yX4_readTiers : MethodName := ⟨RX4, "readTiers", "(LSeasonTiers$Store;)Z"⟩
abbrev cX4_readTier : ByteArray := prog_6_method_6_code
def yX4_readTier : MethodName := ⟨RX4, "readTier", "(LSeasonTiers$Store;)Z"⟩
abbrev cX4_readFiles : ByteArray := prog_6_method_7_code
def yX4_readFiles : MethodName := ⟨RX4, "readFiles", "(LSeasonTiers$Store;)Z"⟩
abbrev cX4_readFile : ByteArray := prog_6_method_8_code
def yX4_readFile : MethodName := ⟨RX4, "readFile", "(LSeasonTiers$Store;)Z"⟩
abbrev cX4_readName : ByteArray := prog_6_method_9_code
def yX4_readName : MethodName := ⟨RX4, "readName", "()Z"⟩
abbrev cX4_readNumber : ByteArray := prog_6_method_10_code
def yX4_readNumber : MethodName := ⟨RX4, "readNumber", "(II)Z"⟩
abbrev cX4_passSemicolon : ByteArray := prog_6_method_11_code
def yX4_passSemicolon : MethodName := ⟨RX4, "passSemicolon", "()Z"⟩
abbrev cX4_passWord : ByteArray := prog_6_method_12_code
def yX4_passWord : MethodName := ⟨RX4, "passWord", "(Ljava/lang/String;)Z"⟩
abbrev cX4_nextIsWord : ByteArray := prog_6_method_13_code
def yX4_nextIsWord : MethodName := ⟨RX4, "nextIsWord", "(Ljava/lang/String;)Z"⟩
abbrev cX4_nextByte : ByteArray := prog_6_method_14_code
def yX4_nextByte : MethodName := ⟨RX4, "nextByte", "()I"⟩
abbrev cX4_endOfWord : ByteArray := prog_6_method_15_code
def yX4_endOfWord : MethodName := ⟨RX4, "endOfWord", "()I"⟩
abbrev cX4_isDigit : ByteArray := prog_6_method_16_code
def yX4_isDigit : MethodName := ⟨RX4, "isDigit", "(I)Z"⟩
abbrev cX4_fail : ByteArray := prog_6_method_17_code
def yX4_fail : MethodName := ⟨RX4, "fail", "(II)Z"⟩
def RX5 : String := "SeasonTiers$Store"
def TX5 : u_T := fun k => match k with
  | 0 => ("SeasonTiers$Store", "cycle", "I", false)
  | 1 => ("SeasonTiers$Store", "rate", "I", false)
  | 2 => ("SeasonTiers$Store", "period", "I", false)
  | 3 => ("SeasonTiers$Store", "tierCount", "I", false)
  | 4 => ("SeasonTiers$Store", "fileCount", "I", false)
  | 5 => ("SeasonTiers$Store", "tiers", "[LSeasonTiers$TierRow;", true)
  | 6 => ("SeasonTiers$Store", "files", "[LSeasonTiers$FileRow;", true)
  | _ => ("SeasonTiers$Store", "moves", "LSeasonTiers$Moves;", true)
def tyX5 : Nat → FieldType := fun k => match k with
  | 0 => .int
  | 1 => .int
  | 2 => .int
  | 3 => .int
  | 4 => .int
  | 5 => .array (.object "SeasonTiers$TierRow")
  | 6 => .array (.object "SeasonTiers$FileRow")
  | _ => .object "SeasonTiers$Moves"
abbrev wsX50 : List Cond := u_ws RX5 TX5 8
theorem nmX5 : ∀ a, a < 8 → ∀ b, b < 8 → a ≠ b → (TX5 a).2.1 ≠ (TX5 b).2.1 := by decide +kernel
theorem tyX5_ok : ∀ k, k < 8 → parseFieldDescriptor (TX5 k).2.2.1 = some (tyX5 k) := by decide +kernel
abbrev cX5_init : ByteArray := prog_7_method_1_code
def yX5_init : MethodName := ⟨RX5, "<init>", "()V"⟩
abbrev cX5_copyFrom : ByteArray := prog_7_method_2_code
def yX5_copyFrom : MethodName := ⟨RX5, "copyFrom", "(LSeasonTiers$Store;)V"⟩
abbrev cX5_startAs : ByteArray := prog_7_method_3_code
def yX5_startAs : MethodName := ⟨RX5, "startAs", "(II)V"⟩
abbrev cX5_startAsNew : ByteArray := prog_7_method_4_code
def yX5_startAsNew : MethodName := ⟨RX5, "startAsNew", "()V"⟩
abbrev cX5_phaseAhead : ByteArray := prog_7_method_5_code
def yX5_phaseAhead : MethodName := ⟨RX5, "phaseAhead", "(I)I"⟩
abbrev cX5_tierNamed : ByteArray := prog_7_method_6_code
def yX5_tierNamed : MethodName := ⟨RX5, "tierNamed", "(J)I"⟩
abbrev cX5_fileNamed : ByteArray := prog_7_method_7_code
def yX5_fileNamed : MethodName := ⟨RX5, "fileNamed", "(J)I"⟩
abbrev cX5_pinnedFiles : ByteArray := prog_7_method_8_code
def yX5_pinnedFiles : MethodName := ⟨RX5, "pinnedFiles", "()I"⟩
abbrev cX5_sizeOfAll : ByteArray := prog_7_method_9_code
def yX5_sizeOfAll : MethodName := ⟨RX5, "sizeOfAll", "()I"⟩
abbrev cX5_sizeOn : ByteArray := prog_7_method_10_code
def yX5_sizeOn : MethodName := ⟨RX5, "sizeOn", "(I)I"⟩
abbrev cX5_filesOn : ByteArray := prog_7_method_11_code
def yX5_filesOn : MethodName := ⟨RX5, "filesOn", "(I)I"⟩
abbrev cX5_mostUsedOn : ByteArray := prog_7_method_12_code
def yX5_mostUsedOn : MethodName := ⟨RX5, "mostUsedOn", "(I)I"⟩
abbrev cX5_hasRoomFor : ByteArray := prog_7_method_13_code
def yX5_hasRoomFor : MethodName := ⟨RX5, "hasRoomFor", "(II)Z"⟩
abbrev cX5_paidOnAll : ByteArray := prog_7_method_14_code
def yX5_paidOnAll : MethodName := ⟨RX5, "paidOnAll", "(I)J"⟩
abbrev cX5_forecastSum : ByteArray := prog_7_method_15_code
def yX5_forecastSum : MethodName := ⟨RX5, "forecastSum", "(II)J"⟩
abbrev cX5_costOn : ByteArray := prog_7_method_16_code
def yX5_costOn : MethodName := ⟨RX5, "costOn", "(IIIJ)J"⟩
abbrev cX5_moveCost : ByteArray := prog_7_method_17_code
def yX5_moveCost : MethodName := ⟨RX5, "moveCost", "(III)I"⟩
abbrev cX5_putTier : ByteArray := prog_7_method_18_code
def yX5_putTier : MethodName := ⟨RX5, "putTier", "(J)V"⟩
abbrev cX5_putFile : ByteArray := prog_7_method_19_code
def yX5_putFile : MethodName := ⟨RX5, "putFile", "(JIII)V"⟩
abbrev cX5_removeFile : ByteArray := prog_7_method_20_code
def yX5_removeFile : MethodName := ⟨RX5, "removeFile", "(I)V"⟩
abbrev cX5_endPeriod : ByteArray := prog_7_method_21_code
def yX5_endPeriod : MethodName := ⟨RX5, "endPeriod", "()J"⟩
abbrev cX5_payFor : ByteArray := prog_7_method_22_code
def yX5_payFor : MethodName := ⟨RX5, "payFor", "(LSeasonTiers$FileRow;)J"⟩
abbrev cX5_carry : ByteArray := prog_7_method_23_code
def yX5_carry : MethodName := ⟨RX5, "carry", "(II)I"⟩
abbrev cX5_carryBack : ByteArray := prog_7_method_24_code
def yX5_carryBack : MethodName := ⟨RX5, "carryBack", "()V"⟩
abbrev cX5_learnAgain : ByteArray := prog_7_method_25_code
def yX5_learnAgain : MethodName := ⟨RX5, "learnAgain", "(II)V"⟩
def RX6 : String := "SeasonTiers$TierRow"
def TX6 : u_T := fun k => match k with
  | 0 => ("SeasonTiers$TierRow", "name", "J", false)
  | 1 => ("SeasonTiers$TierRow", "numbers", "[I", true)
  | _ => ("SeasonTiers$TierRow", "paid", "[J", true)
def tyX6 : Nat → FieldType := fun k => match k with
  | 0 => .long
  | 1 => .array .int
  | _ => .array .long
abbrev wsX60 : List Cond := u_ws RX6 TX6 3
theorem nmX6 : ∀ a, a < 3 → ∀ b, b < 3 → a ≠ b → (TX6 a).2.1 ≠ (TX6 b).2.1 := by decide +kernel
theorem tyX6_ok : ∀ k, k < 3 → parseFieldDescriptor (TX6 k).2.2.1 = some (tyX6 k) := by decide +kernel
abbrev cX6_init : ByteArray := prog_8_method_1_code
def yX6_init : MethodName := ⟨RX6, "<init>", "()V"⟩
abbrev cX6_copyFrom : ByteArray := prog_8_method_2_code
def yX6_copyFrom : MethodName := ⟨RX6, "copyFrom", "(LSeasonTiers$TierRow;)V"⟩
abbrev cX6_startAs : ByteArray := prog_8_method_3_code
def yX6_startAs : MethodName := ⟨RX6, "startAs", "(J)V"⟩
abbrev cX6_paidFor : ByteArray := prog_8_method_4_code
def yX6_paidFor : MethodName := ⟨RX6, "paidFor", "(I)J"⟩
def RX7 : String := "SeasonTiers$Writer"
def TX7 : u_T := fun k => match k with
  | 0 => ("SeasonTiers$Writer", "length", "I", false)
  | _ => ("SeasonTiers$Writer", "bytes", "[I", true)
def tyX7 : Nat → FieldType := fun k => match k with
  | 0 => .int
  | _ => .array .int
abbrev wsX70 : List Cond := u_ws RX7 TX7 2
theorem nmX7 : ∀ a, a < 2 → ∀ b, b < 2 → a ≠ b → (TX7 a).2.1 ≠ (TX7 b).2.1 := by decide +kernel
theorem tyX7_ok : ∀ k, k < 2 → parseFieldDescriptor (TX7 k).2.2.1 = some (tyX7 k) := by decide +kernel
abbrev cX7_init : ByteArray := prog_9_method_1_code
def yX7_init : MethodName := ⟨RX7, "<init>", "()V"⟩
abbrev cX7_withLetter : ByteArray := prog_9_method_2_code
def yX7_withLetter : MethodName := ⟨RX7, "withLetter", "(JI)J"⟩
abbrev cX7_writeStore : ByteArray := prog_9_method_3_code
def yX7_writeStore : MethodName := ⟨RX7, "writeStore", "(LSeasonTiers$Store;)V"⟩
abbrev cX7_putFilesOn : ByteArray := prog_9_method_4_code
def yX7_putFilesOn : MethodName := ⟨RX7, "putFilesOn", "(LSeasonTiers$Store;I)V"⟩
abbrev cX7_putName : ByteArray := prog_9_method_5_code
def yX7_putName : MethodName := ⟨RX7, "putName", "(J)V"⟩
abbrev cX7_putByte : ByteArray := prog_9_method_6_code
def yX7_putByte : MethodName := ⟨RX7, "putByte", "(I)V"⟩
def RX8 : String := "SeasonTiers"
def TX8 : u_T := fun k => match k with
  | 0 => ("SeasonTiers", "reader", "LSeasonTiers$Reader;", true)
  | 1 => ("SeasonTiers", "writer", "LSeasonTiers$Writer;", true)
  | 2 => ("SeasonTiers", "planner", "LSeasonTiers$Planner;", true)
  | 3 => ("SeasonTiers", "history", "LSeasonTiers$History;", true)
  | 4 => ("SeasonTiers", "now", "LSeasonTiers$Store;", true)
  | 5 => ("SeasonTiers", "draft", "LSeasonTiers$Store;", true)
  | 6 => ("SeasonTiers", "slots", "[LSeasonTiers$Store;", true)
  | 7 => ("SeasonTiers", "slotFilled", "[Z", true)
  | _ => ("SeasonTiers", "filesByCycle", "[I", true)
def tyX8 : Nat → FieldType := fun k => match k with
  | 0 => .object "SeasonTiers$Reader"
  | 1 => .object "SeasonTiers$Writer"
  | 2 => .object "SeasonTiers$Planner"
  | 3 => .object "SeasonTiers$History"
  | 4 => .object "SeasonTiers$Store"
  | 5 => .object "SeasonTiers$Store"
  | 6 => .array (.object "SeasonTiers$Store")
  | 7 => .array .boolean
  | _ => .array .int
abbrev wsX80 : List Cond := u_ws RX8 TX8 9
theorem nmX8 : ∀ a, a < 9 → ∀ b, b < 9 → a ≠ b → (TX8 a).2.1 ≠ (TX8 b).2.1 := by decide +kernel
theorem tyX8_ok : ∀ k, k < 9 → parseFieldDescriptor (TX8 k).2.2.1 = some (tyX8 k) := by decide +kernel
abbrev cX8_init : ByteArray := prog_1_method_1_code
def yX8_init : MethodName := ⟨RX8, "<init>", "()V"⟩
abbrev cX8_append : ByteArray := prog_1_method_2_code
def yX8_append : MethodName := ⟨RX8, "append", "(IIIII)I"⟩
abbrev cX8_load : ByteArray := prog_1_method_3_code
def yX8_load : MethodName := ⟨RX8, "load", "()I"⟩
abbrev cX8_errorPosition : ByteArray := prog_1_method_4_code
def yX8_errorPosition : MethodName := ⟨RX8, "errorPosition", "()I"⟩
abbrev cX8_count : ByteArray := prog_1_method_5_code
def yX8_count : MethodName := ⟨RX8, "count", "(I)I"⟩
abbrev cX8_tier : ByteArray := prog_1_method_6_code
def yX8_tier : MethodName := ⟨RX8, "tier", "(II)I"⟩
abbrev cX8_file : ByteArray := prog_1_method_7_code
def yX8_file : MethodName := ⟨RX8, "file", "(II)I"⟩
abbrev cX8_season : ByteArray := prog_1_method_8_code
def yX8_season : MethodName := ⟨RX8, "season", "(II)I"⟩
abbrev cX8_kept : ByteArray := prog_1_method_9_code
def yX8_kept : MethodName := ⟨RX8, "kept", "(II)I"⟩
abbrev cX8_forecast : ByteArray := prog_1_method_10_code
def yX8_forecast : MethodName := ⟨RX8, "forecast", "(II)I"⟩
abbrev cX8_off : ByteArray := prog_1_method_11_code
def yX8_off : MethodName := ⟨RX8, "off", "(I)J"⟩
abbrev cX8_meanOff : ByteArray := prog_1_method_12_code
def yX8_meanOff : MethodName := ⟨RX8, "meanOff", "()D"⟩
abbrev cX8_cycleOf : ByteArray := prog_1_method_13_code
def yX8_cycleOf : MethodName := ⟨RX8, "cycleOf", "(I)I"⟩
abbrev cX8_commonCycle : ByteArray := prog_1_method_14_code
def yX8_commonCycle : MethodName := ⟨RX8, "commonCycle", "()I"⟩
abbrev cX8_account : ByteArray := prog_1_method_15_code
def yX8_account : MethodName := ⟨RX8, "account", "(II)J"⟩
abbrev cX8_movingShare : ByteArray := prog_1_method_16_code
def yX8_movingShare : MethodName := ⟨RX8, "movingShare", "()F"⟩
abbrev cX8_cost : ByteArray := prog_1_method_17_code
def yX8_cost : MethodName := ⟨RX8, "cost", "(III)J"⟩
abbrev cX8_wish : ByteArray := prog_1_method_18_code
def yX8_wish : MethodName := ⟨RX8, "wish", "(II)I"⟩
abbrev cX8_steps : ByteArray := prog_1_method_19_code
def yX8_steps : MethodName := ⟨RX8, "steps", "(I)I"⟩
abbrev cX8_step : ByteArray := prog_1_method_20_code
def yX8_step : MethodName := ⟨RX8, "step", "(III)I"⟩
abbrev cX8_saving : ByteArray := prog_1_method_21_code
def yX8_saving : MethodName := ⟨RX8, "saving", "(I)J"⟩
abbrev cX8_withRoom : ByteArray := prog_1_method_22_code
def yX8_withRoom : MethodName := ⟨RX8, "withRoom", "(III)J"⟩
abbrev cX8_add : ByteArray := prog_1_method_23_code
def yX8_add : MethodName := ⟨RX8, "add", "(II)I"⟩
abbrev cX8_drop : ByteArray := prog_1_method_24_code
def yX8_drop : MethodName := ⟨RX8, "drop", "(I)I"⟩
abbrev cX8_use : ByteArray := prog_1_method_25_code
def yX8_use : MethodName := ⟨RX8, "use", "(II)I"⟩
abbrev cX8_close : ByteArray := prog_1_method_26_code
def yX8_close : MethodName := ⟨RX8, "close", "()J"⟩
abbrev cX8_move : ByteArray := prog_1_method_27_code
def yX8_move : MethodName := ⟨RX8, "move", "(II)I"⟩
abbrev cX8_unmove : ByteArray := prog_1_method_28_code
def yX8_unmove : MethodName := ⟨RX8, "unmove", "()I"⟩
abbrev cX8_pin : ByteArray := prog_1_method_29_code
def yX8_pin : MethodName := ⟨RX8, "pin", "(II)I"⟩
abbrev cX8_act : ByteArray := prog_1_method_30_code
def yX8_act : MethodName := ⟨RX8, "act", "(I)I"⟩
abbrev cX8_learn : ByteArray := prog_1_method_31_code
def yX8_learn : MethodName := ⟨RX8, "learn", "(II)I"⟩
abbrev cX8_setTier : ByteArray := prog_1_method_32_code
def yX8_setTier : MethodName := ⟨RX8, "setTier", "(III)I"⟩
abbrev cX8_undo : ByteArray := prog_1_method_33_code
def yX8_undo : MethodName := ⟨RX8, "undo", "()I"⟩
abbrev cX8_save : ByteArray := prog_1_method_34_code
def yX8_save : MethodName := ⟨RX8, "save", "(I)V"⟩
abbrev cX8_restore : ByteArray := prog_1_method_35_code
def yX8_restore : MethodName := ⟨RX8, "restore", "(I)I"⟩
abbrev cX8_writeTiers : ByteArray := prog_1_method_36_code
def yX8_writeTiers : MethodName := ⟨RX8, "writeTiers", "()I"⟩
abbrev cX8_writtenByte : ByteArray := prog_1_method_37_code
def yX8_writtenByte : MethodName := ⟨RX8, "writtenByte", "(I)I"⟩
abbrev cX8_requireTier : ByteArray := prog_1_method_38_code
def yX8_requireTier : MethodName := ⟨RX8, "requireTier", "(I)V"⟩
abbrev cX8_requireFile : ByteArray := prog_1_method_39_code
def yX8_requireFile : MethodName := ⟨RX8, "requireFile", "(I)V"⟩
abbrev cX8_requireSlot : ByteArray := prog_1_method_40_code
def yX8_requireSlot : MethodName := ⟨RX8, "requireSlot", "(I)V"⟩
abbrev cX8_requirePeriods : ByteArray := prog_1_method_41_code
def yX8_requirePeriods : MethodName := ⟨RX8, "requirePeriods", "(I)V"⟩
abbrev cX8_requireWithin : ByteArray := prog_1_method_42_code
def yX8_requireWithin : MethodName := ⟨RX8, "requireWithin", "(III)V"⟩
abbrev cX8_leastOf : ByteArray := prog_1_method_43_code
def yX8_leastOf : MethodName := ⟨RX8, "leastOf", "(I)I"⟩
abbrev cX8_greatestOf : ByteArray := prog_1_method_44_code
def yX8_greatestOf : MethodName := ⟨RX8, "greatestOf", "(I)I"⟩
abbrev cX8_bytesIn : ByteArray := prog_1_method_45_code
def yX8_bytesIn : MethodName := ⟨RX8, "bytesIn", "(I)I"⟩
def RX9 : String := "SeasonTiersModel"
def TX9 : u_T := fun k => match k with
  | 0 => ("SeasonTiersModel", "a", "[J", true)
  | 1 => ("SeasonTiersModel", "aside", "[J", true)
  | 2 => ("SeasonTiersModel", "kept", "[J", true)
  | 3 => ("SeasonTiersModel", "saved", "[J", true)
  | 4 => ("SeasonTiersModel", "isSaved", "[Z", true)
  | 5 => ("SeasonTiersModel", "keptMany", "I", false)
  | 6 => ("SeasonTiersModel", "thrown", "I", false)
  | 7 => ("SeasonTiersModel", "buffer", "[I", true)
  | 8 => ("SeasonTiersModel", "buffered", "I", false)
  | 9 => ("SeasonTiersModel", "at", "I", false)
  | 10 => ("SeasonTiersModel", "behind", "I", false)
  | 11 => ("SeasonTiersModel", "kind", "I", false)
  | 12 => ("SeasonTiersModel", "number", "I", false)
  | 13 => ("SeasonTiersModel", "wrong", "I", false)
  | 14 => ("SeasonTiersModel", "wrongAt", "I", false)
  | 15 => ("SeasonTiersModel", "errorAt", "I", false)
  | 16 => ("SeasonTiersModel", "paperOn", "[I", true)
  | 17 => ("SeasonTiersModel", "stepFile", "[I", true)
  | 18 => ("SeasonTiersModel", "stepOther", "[I", true)
  | 19 => ("SeasonTiersModel", "stepTo", "[I", true)
  | 20 => ("SeasonTiersModel", "isIn0", "[Z", true)
  | 21 => ("SeasonTiersModel", "free", "[I", true)
  | 22 => ("SeasonTiersModel", "onTier", "[J", true)
  | 23 => ("SeasonTiersModel", "stepMany", "I", false)
  | 24 => ("SeasonTiersModel", "foundFile", "I", false)
  | 25 => ("SeasonTiersModel", "foundOther", "I", false)
  | 26 => ("SeasonTiersModel", "foundTo", "I", false)
  | 27 => ("SeasonTiersModel", "planSaves", "J", false)
  | 28 => ("SeasonTiersModel", "foundSaves", "J", false)
  | 29 => ("SeasonTiersModel", "unused", "I", false)
  | 30 => ("SeasonTiersModel", "written", "[I", true)
  | _ => ("SeasonTiersModel", "writtenMany", "I", false)
def tyX9 : Nat → FieldType := fun k => match k with
  | 0 => .array .long
  | 1 => .array .long
  | 2 => .array .long
  | 3 => .array .long
  | 4 => .array .boolean
  | 5 => .int
  | 6 => .int
  | 7 => .array .int
  | 8 => .int
  | 9 => .int
  | 10 => .int
  | 11 => .int
  | 12 => .int
  | 13 => .int
  | 14 => .int
  | 15 => .int
  | 16 => .array .int
  | 17 => .array .int
  | 18 => .array .int
  | 19 => .array .int
  | 20 => .array .boolean
  | 21 => .array .int
  | 22 => .array .long
  | 23 => .int
  | 24 => .int
  | 25 => .int
  | 26 => .int
  | 27 => .long
  | 28 => .long
  | 29 => .int
  | 30 => .array .int
  | _ => .int
abbrev wsX90 : List Cond := u_ws RX9 TX9 32
theorem nmX9 : ∀ a, a < 32 → ∀ b, b < 32 → a ≠ b → (TX9 a).2.1 ≠ (TX9 b).2.1 := by decide +kernel
theorem tyX9_ok : ∀ k, k < 32 → parseFieldDescriptor (TX9 k).2.2.1 = some (tyX9 k) := by decide +kernel
abbrev cX9_init : ByteArray := prog_11_method_1_code
def yX9_init : MethodName := ⟨RX9, "<init>", "()V"⟩
abbrev cX9_puts : ByteArray := prog_11_method_2_code
def yX9_puts : MethodName := ⟨RX9, "puts", "(IIIIII)V"⟩
abbrev cX9_begins : ByteArray := prog_11_method_3_code
def yX9_begins : MethodName := ⟨RX9, "begins", "()V"⟩
abbrev cX9_thrown : ByteArray := prog_11_method_4_code
def yX9_thrown : MethodName := ⟨RX9, "thrown", "()I"⟩
abbrev cX9_isIn : ByteArray := prog_11_method_5_code
def yX9_isIn : MethodName := ⟨RX9, "isIn", "(III)Z"⟩
abbrev cX9_copies : ByteArray := prog_11_method_6_code
def yX9_copies : MethodName := ⟨RX9, "copies", "([JI[JI)V"⟩
abbrev cX9_keeps : ByteArray := prog_11_method_7_code
def yX9_keeps : MethodName := ⟨RX9, "keeps", "([J)V"⟩
abbrev cX9_undo : ByteArray := prog_11_method_8_code
def yX9_undo : MethodName := ⟨RX9, "undo", "()I"⟩
abbrev cX9_save : ByteArray := prog_11_method_9_code
def yX9_save : MethodName := ⟨RX9, "save", "(I)V"⟩
abbrev cX9_restore : ByteArray := prog_11_method_10_code
def yX9_restore : MethodName := ⟨RX9, "restore", "(I)I"⟩
abbrev cX9_byteOf : ByteArray := prog_11_method_11_code
def yX9_byteOf : MethodName := ⟨RX9, "byteOf", "(IIIIII)I"⟩
abbrev cX9_append : ByteArray := prog_11_method_12_code
def yX9_append : MethodName := ⟨RX9, "append", "(IIIII)I"⟩
abbrev cX9_see : ByteArray := prog_11_method_13_code
def yX9_see : MethodName := ⟨RX9, "see", "(I)I"⟩
abbrev cX9_isLetter : ByteArray := prog_11_method_14_code
def yX9_isLetter : MethodName := ⟨RX9, "isLetter", "(I)Z"⟩
abbrev cX9_isDigit : ByteArray := prog_11_method_15_code
def yX9_isDigit : MethodName := ⟨RX9, "isDigit", "(I)Z"⟩
abbrev cX9_next : ByteArray := prog_11_method_16_code
def yX9_next : MethodName := ⟨RX9, "next", "()V"⟩
abbrev cX9_isWord : ByteArray := prog_11_method_17_code
def yX9_isWord : MethodName := ⟨RX9, "isWord", "(Ljava/lang/String;)Z"⟩
abbrev cX9_fails : ByteArray := prog_11_method_18_code
def yX9_fails : MethodName := ⟨RX9, "fails", "(I)V"⟩
abbrev cX9_must : ByteArray := prog_11_method_19_code
def yX9_must : MethodName := ⟨RX9, "must", "(Z)V"⟩
abbrev cX9_mustEnd : ByteArray := prog_11_method_20_code
def yX9_mustEnd : MethodName := ⟨RX9, "mustEnd", "()V"⟩
abbrev cX9_takes : ByteArray := prog_11_method_21_code
def yX9_takes : MethodName := ⟨RX9, "takes", "(II)I"⟩
abbrev cX9_mustName : ByteArray := prog_11_method_22_code
def yX9_mustName : MethodName := ⟨RX9, "mustName", "()V"⟩
abbrev cX9_named : ByteArray := prog_11_method_23_code
def yX9_named : MethodName := ⟨RX9, "named", "(III)I"⟩
abbrev cX9_putsName : ByteArray := prog_11_method_24_code
def yX9_putsName : MethodName := ⟨RX9, "putsName", "(I)V"⟩
abbrev cX9_readsTier : ByteArray := prog_11_method_25_code
def yX9_readsTier : MethodName := ⟨RX9, "readsTier", "()V"⟩
abbrev cX9_readsFile : ByteArray := prog_11_method_26_code
def yX9_readsFile : MethodName := ⟨RX9, "readsFile", "()V"⟩
abbrev cX9_begins0 : ByteArray := prog_11_method_27_code
def yX9_begins0 : MethodName := ⟨RX9, "begins0", "(I)V"⟩
abbrev cX9_load : ByteArray := prog_11_method_28_code
def yX9_load : MethodName := ⟨RX9, "load", "()I"⟩
abbrev cX9_errorPosition : ByteArray := prog_11_method_29_code
def yX9_errorPosition : MethodName := ⟨RX9, "errorPosition", "()I"⟩
abbrev cX9_its : ByteArray := prog_11_method_30_code
def yX9_its : MethodName := ⟨RX9, "its", "(I)I"⟩
abbrev cX9_tiers : ByteArray := prog_11_method_31_code
def yX9_tiers : MethodName := ⟨RX9, "tiers", "()I"⟩
abbrev cX9_files : ByteArray := prog_11_method_32_code
def yX9_files : MethodName := ⟨RX9, "files", "()I"⟩
abbrev cX9_ofTier : ByteArray := prog_11_method_33_code
def yX9_ofTier : MethodName := ⟨RX9, "ofTier", "(II)I"⟩
abbrev cX9_of : ByteArray := prog_11_method_34_code
def yX9_of : MethodName := ⟨RX9, "of", "(II)I"⟩
abbrev cX9_sets : ByteArray := prog_11_method_35_code
def yX9_sets : MethodName := ⟨RX9, "sets", "(IIJ)V"⟩
abbrev cX9_isTier : ByteArray := prog_11_method_36_code
def yX9_isTier : MethodName := ⟨RX9, "isTier", "(I)Z"⟩
abbrev cX9_isFile : ByteArray := prog_11_method_37_code
def yX9_isFile : MethodName := ⟨RX9, "isFile", "(I)Z"⟩
abbrev cX9_fullOf : ByteArray := prog_11_method_38_code
def yX9_fullOf : MethodName := ⟨RX9, "fullOf", "(I)I"⟩
abbrev cX9_freeOn : ByteArray := prog_11_method_39_code
def yX9_freeOn : MethodName := ⟨RX9, "freeOn", "(I)I"⟩
abbrev cX9_isPinned : ByteArray := prog_11_method_40_code
def yX9_isPinned : MethodName := ⟨RX9, "isPinned", "(I)Z"⟩
abbrev cX9_knownOf : ByteArray := prog_11_method_41_code
def yX9_knownOf : MethodName := ⟨RX9, "knownOf", "(I)I"⟩
abbrev cX9_forecastOf : ByteArray := prog_11_method_42_code
def yX9_forecastOf : MethodName := ⟨RX9, "forecastOf", "(II)I"⟩
abbrev cX9_learns : ByteArray := prog_11_method_43_code
def yX9_learns : MethodName := ⟨RX9, "learns", "(III)V"⟩
abbrev cX9_keepsUses : ByteArray := prog_11_method_44_code
def yX9_keepsUses : MethodName := ⟨RX9, "keepsUses", "(I)V"⟩
abbrev cX9_relearns : ByteArray := prog_11_method_45_code
def yX9_relearns : MethodName := ⟨RX9, "relearns", "(I)V"⟩
abbrev cX9_seasonsOf : ByteArray := prog_11_method_46_code
def yX9_seasonsOf : MethodName := ⟨RX9, "seasonsOf", "(IZ)I"⟩
abbrev cX9_strange : ByteArray := prog_11_method_47_code
def yX9_strange : MethodName := ⟨RX9, "strange", "(II)I"⟩
abbrev cX9_ownCycle : ByteArray := prog_11_method_48_code
def yX9_ownCycle : MethodName := ⟨RX9, "ownCycle", "(I)I"⟩
abbrev cX9_pinned : ByteArray := prog_11_method_49_code
def yX9_pinned : MethodName := ⟨RX9, "pinned", "()I"⟩
abbrev cX9_sizes : ByteArray := prog_11_method_50_code
def yX9_sizes : MethodName := ⟨RX9, "sizes", "()I"⟩
abbrev cX9_count : ByteArray := prog_11_method_51_code
def yX9_count : MethodName := ⟨RX9, "count", "(I)I"⟩
abbrev cX9_filesOn : ByteArray := prog_11_method_52_code
def yX9_filesOn : MethodName := ⟨RX9, "filesOn", "(I)I"⟩
abbrev cX9_busiest : ByteArray := prog_11_method_53_code
def yX9_busiest : MethodName := ⟨RX9, "busiest", "(I)I"⟩
abbrev cX9_tier : ByteArray := prog_11_method_54_code
def yX9_tier : MethodName := ⟨RX9, "tier", "(II)I"⟩
abbrev cX9_file : ByteArray := prog_11_method_55_code
def yX9_file : MethodName := ⟨RX9, "file", "(II)I"⟩
abbrev cX9_season : ByteArray := prog_11_method_56_code
def yX9_season : MethodName := ⟨RX9, "season", "(II)I"⟩
abbrev cX9_kept : ByteArray := prog_11_method_57_code
def yX9_kept : MethodName := ⟨RX9, "kept", "(II)I"⟩
abbrev cX9_forecast : ByteArray := prog_11_method_58_code
def yX9_forecast : MethodName := ⟨RX9, "forecast", "(II)I"⟩
abbrev cX9_off : ByteArray := prog_11_method_59_code
def yX9_off : MethodName := ⟨RX9, "off", "(I)J"⟩
abbrev cX9_meanOff : ByteArray := prog_11_method_60_code
def yX9_meanOff : MethodName := ⟨RX9, "meanOff", "()D"⟩
abbrev cX9_cycleOf : ByteArray := prog_11_method_61_code
def yX9_cycleOf : MethodName := ⟨RX9, "cycleOf", "(I)I"⟩
abbrev cX9_commonCycle : ByteArray := prog_11_method_62_code
def yX9_commonCycle : MethodName := ⟨RX9, "commonCycle", "()I"⟩
abbrev cX9_sumOf : ByteArray := prog_11_method_63_code
def yX9_sumOf : MethodName := ⟨RX9, "sumOf", "(II)J"⟩
abbrev cX9_account : ByteArray := prog_11_method_64_code
def yX9_account : MethodName := ⟨RX9, "account", "(II)J"⟩
abbrev cX9_movingShare : ByteArray := prog_11_method_65_code
def yX9_movingShare : MethodName := ⟨RX9, "movingShare", "()F"⟩
abbrev cX9_costOn : ByteArray := prog_11_method_66_code
def yX9_costOn : MethodName := ⟨RX9, "costOn", "(III)J"⟩
abbrev cX9_savesBy : ByteArray := prog_11_method_67_code
def yX9_savesBy : MethodName := ⟨RX9, "savesBy", "(III)J"⟩
abbrev cX9_laysCosts : ByteArray := prog_11_method_68_code
def yX9_laysCosts : MethodName := ⟨RX9, "laysCosts", "(I)V"⟩
abbrev cX9_canGo : ByteArray := prog_11_method_69_code
def yX9_canGo : MethodName := ⟨RX9, "canGo", "(I)Z"⟩
abbrev cX9_found : ByteArray := prog_11_method_70_code
def yX9_found : MethodName := ⟨RX9, "found", "(IIIJ)V"⟩
abbrev cX9_findsMove : ByteArray := prog_11_method_71_code
def yX9_findsMove : MethodName := ⟨RX9, "findsMove", "()V"⟩
abbrev cX9_findsExchange : ByteArray := prog_11_method_72_code
def yX9_findsExchange : MethodName := ⟨RX9, "findsExchange", "()V"⟩
abbrev cX9_goesOnPaper : ByteArray := prog_11_method_73_code
def yX9_goesOnPaper : MethodName := ⟨RX9, "goesOnPaper", "(II)V"⟩
abbrev cX9_plans : ByteArray := prog_11_method_74_code
def yX9_plans : MethodName := ⟨RX9, "plans", "(III)V"⟩
abbrev cX9_findsStep : ByteArray := prog_11_method_75_code
def yX9_findsStep : MethodName := ⟨RX9, "findsStep", "()Z"⟩
abbrev cX9_isSpan : ByteArray := prog_11_method_76_code
def yX9_isSpan : MethodName := ⟨RX9, "isSpan", "(I)Z"⟩
abbrev cX9_cost : ByteArray := prog_11_method_77_code
def yX9_cost : MethodName := ⟨RX9, "cost", "(III)J"⟩
abbrev cX9_wish : ByteArray := prog_11_method_78_code
def yX9_wish : MethodName := ⟨RX9, "wish", "(II)I"⟩
abbrev cX9_steps : ByteArray := prog_11_method_79_code
def yX9_steps : MethodName := ⟨RX9, "steps", "(I)I"⟩
abbrev cX9_step : ByteArray := prog_11_method_80_code
def yX9_step : MethodName := ⟨RX9, "step", "(III)I"⟩
abbrev cX9_saving : ByteArray := prog_11_method_81_code
def yX9_saving : MethodName := ⟨RX9, "saving", "(I)J"⟩
abbrev cX9_withRoom : ByteArray := prog_11_method_82_code
def yX9_withRoom : MethodName := ⟨RX9, "withRoom", "(III)J"⟩
abbrev cX9_refused : ByteArray := prog_11_method_83_code
def yX9_refused : MethodName := ⟨RX9, "refused", "(I)I"⟩
abbrev cX9_add : ByteArray := prog_11_method_84_code
def yX9_add : MethodName := ⟨RX9, "add", "(II)I"⟩
abbrev cX9_drop : ByteArray := prog_11_method_85_code
def yX9_drop : MethodName := ⟨RX9, "drop", "(I)I"⟩
abbrev cX9_use : ByteArray := prog_11_method_86_code
def yX9_use : MethodName := ⟨RX9, "use", "(II)I"⟩
abbrev cX9_pays : ByteArray := prog_11_method_87_code
def yX9_pays : MethodName := ⟨RX9, "pays", "(IIJ)V"⟩
abbrev cX9_closes : ByteArray := prog_11_method_88_code
def yX9_closes : MethodName := ⟨RX9, "closes", "(I)V"⟩
abbrev cX9_close : ByteArray := prog_11_method_89_code
def yX9_close : MethodName := ⟨RX9, "close", "()J"⟩
abbrev cX9_goes : ByteArray := prog_11_method_90_code
def yX9_goes : MethodName := ⟨RX9, "goes", "(II)I"⟩
abbrev cX9_move : ByteArray := prog_11_method_91_code
def yX9_move : MethodName := ⟨RX9, "move", "(II)I"⟩
abbrev cX9_unmove : ByteArray := prog_11_method_92_code
def yX9_unmove : MethodName := ⟨RX9, "unmove", "()I"⟩
abbrev cX9_pin : ByteArray := prog_11_method_93_code
def yX9_pin : MethodName := ⟨RX9, "pin", "(II)I"⟩
abbrev cX9_act : ByteArray := prog_11_method_94_code
def yX9_act : MethodName := ⟨RX9, "act", "(I)I"⟩
abbrev cX9_learn : ByteArray := prog_11_method_95_code
def yX9_learn : MethodName := ⟨RX9, "learn", "(II)I"⟩
abbrev cX9_setTier : ByteArray := prog_11_method_96_code
def yX9_setTier : MethodName := ⟨RX9, "setTier", "(III)I"⟩
abbrev cX9_says : ByteArray := prog_11_method_97_code
def yX9_says : MethodName := ⟨RX9, "says", "(J)V"⟩
abbrev cX9_saysName : ByteArray := prog_11_method_98_code
def yX9_saysName : MethodName := ⟨RX9, "saysName", "(I)V"⟩
abbrev cX9_writeTiers : ByteArray := prog_11_method_99_code
def yX9_writeTiers : MethodName := ⟨RX9, "writeTiers", "()I"⟩
abbrev cX9_writtenByte : ByteArray := prog_11_method_100_code
def yX9_writtenByte : MethodName := ⟨RX9, "writtenByte", "(I)I"⟩
def RJ9 : String := "java/lang/Math"
def TJ9 : u_T := fun k => match k with
  | _ => ("", "", "", false)
def tyJ9 : Nat → FieldType := fun k => match k with
  | _ => .int
abbrev wsJ90 : List Cond := u_ws RJ9 TJ9 0
theorem nmJ9 : ∀ a, a < 0 → ∀ b, b < 0 → a ≠ b → (TJ9 a).2.1 ≠ (TJ9 b).2.1 := by decide +kernel
theorem tyJ9_ok : ∀ k, k < 0 → parseFieldDescriptor (TJ9 k).2.2.1 = some (tyJ9 k) := by decide +kernel
abbrev cJ9_floorMod_7cf53 : ByteArray := prog_16_method_50_code
def yJ9_floorMod_7cf53 : MethodName := ⟨RJ9, "floorMod", "(II)I"⟩
abbrev cJ9_abs_0f7a4 : ByteArray := prog_16_method_59_code
def yJ9_abs_0f7a4 : MethodName := ⟨RJ9, "abs", "(I)I"⟩
abbrev cJ9_max_7cf53 : ByteArray := prog_16_method_65_code
def yJ9_max_7cf53 : MethodName := ⟨RJ9, "max", "(II)I"⟩
abbrev cJ9_min_7cf53 : ByteArray := prog_16_method_69_code
def yJ9_min_7cf53 : MethodName := ⟨RJ9, "min", "(II)I"⟩
def RJ0 : String := "java/lang/String"
def TJ0 : u_T := fun k => match k with
  | _ => ("", "", "", false)
def tyJ0 : Nat → FieldType := fun k => match k with
  | _ => .int
abbrev wsJ00 : List Cond := u_ws RJ0 TJ0 0
theorem nmJ0 : ∀ a, a < 0 → ∀ b, b < 0 → a ≠ b → (TJ0 a).2.1 ≠ (TJ0 b).2.1 := by decide +kernel
theorem tyJ0_ok : ∀ k, k < 0 → parseFieldDescriptor (TJ0 k).2.2.1 = some (tyJ0 k) := by decide +kernel
abbrev cJ0_length_8abf5 : ByteArray := prog_18_method_54_code
def yJ0_length_8abf5 : MethodName := ⟨RJ0, "length", "()I"⟩
abbrev cJ0_charAt_5068e : ByteArray := prog_18_method_56_code
def yJ0_charAt_5068e : MethodName := ⟨RJ0, "charAt", "(I)C"⟩
abbrev cJ0_coder_7d493 : ByteArray := prog_18_method_152_code
def yJ0_coder_7d493 : MethodName := ⟨RJ0, "coder", "()B"⟩
abbrev cJ0_isLatin1_aae02 : ByteArray := prog_18_method_154_code
def yJ0_isLatin1_aae02 : MethodName := ⟨RJ0, "isLatin1", "()Z"⟩
abbrev cJ0_checkIndex_df160 : ByteArray := prog_18_method_155_code
def yJ0_checkIndex_df160 : MethodName := ⟨RJ0, "checkIndex", "(II)V"⟩
def RJ1 : String := "java/lang/StringLatin1"
def TJ1 : u_T := fun k => match k with
  | _ => ("", "", "", false)
def tyJ1 : Nat → FieldType := fun k => match k with
  | _ => .int
abbrev wsJ10 : List Cond := u_ws RJ1 TJ1 0
theorem nmJ1 : ∀ a, a < 0 → ∀ b, b < 0 → a ≠ b → (TJ1 a).2.1 ≠ (TJ1 b).2.1 := by decide +kernel
theorem tyJ1_ok : ∀ k, k < 0 → parseFieldDescriptor (TJ1 k).2.2.1 = some (tyJ1 k) := by decide +kernel
abbrev cJ1_charAt_3b067 : ByteArray := prog_19_method_2_code
def yJ1_charAt_3b067 : MethodName := ⟨RJ1, "charAt", "([BI)C"⟩
def RJ2 : String := "java/lang/StringUTF16"
def TJ2 : u_T := fun k => match k with
  | _ => ("", "", "", false)
def tyJ2 : Nat → FieldType := fun k => match k with
  | _ => .int
abbrev wsJ20 : List Cond := u_ws RJ2 TJ2 0
theorem nmJ2 : ∀ a, a < 0 → ∀ b, b < 0 → a ≠ b → (TJ2 a).2.1 ≠ (TJ2 b).2.1 := by decide +kernel
theorem tyJ2_ok : ∀ k, k < 0 → parseFieldDescriptor (TJ2 k).2.2.1 = some (tyJ2 k) := by decide +kernel
abbrev cJ2_getChar_3b067 : ByteArray := prog_20_method_5_code
def yJ2_getChar_3b067 : MethodName := ⟨RJ2, "getChar", "([BI)C"⟩
abbrev cJ2_length_9d52b : ByteArray := prog_20_method_6_code
def yJ2_length_9d52b : MethodName := ⟨RJ2, "length", "([B)I"⟩
abbrev cJ2_charAt_3b067 : ByteArray := prog_20_method_83_code
def yJ2_charAt_3b067 : MethodName := ⟨RJ2, "charAt", "([BI)C"⟩
abbrev cJ2_checkIndex_2214a : ByteArray := prog_20_method_91_code
def yJ2_checkIndex_2214a : MethodName := ⟨RJ2, "checkIndex", "(I[B)V"⟩
def RJ10 : String := "java/lang/System"
def TJ10 : u_T := fun k => match k with
  | _ => ("", "", "", false)
def tyJ10 : Nat → FieldType := fun k => match k with
  | _ => .int
abbrev wsJ100 : List Cond := u_ws RJ10 TJ10 0
theorem nmJ10 : ∀ a, a < 0 → ∀ b, b < 0 → a ≠ b → (TJ10 a).2.1 ≠ (TJ10 b).2.1 := by decide +kernel
theorem tyJ10_ok : ∀ k, k < 0 → parseFieldDescriptor (TJ10 k).2.2.1 = some (tyJ10 k) := by decide +kernel
def RJ3 : String := "jdk/internal/util/Preconditions"
def TJ3 : u_T := fun k => match k with
  | _ => ("", "", "", false)
def tyJ3 : Nat → FieldType := fun k => match k with
  | _ => .int
abbrev wsJ30 : List Cond := u_ws RJ3 TJ3 0
theorem nmJ3 : ∀ a, a < 0 → ∀ b, b < 0 → a ≠ b → (TJ3 a).2.1 ≠ (TJ3 b).2.1 := by decide +kernel
theorem tyJ3_ok : ∀ k, k < 0 → parseFieldDescriptor (TJ3 k).2.2.1 = some (tyJ3 k) := by decide +kernel
abbrev cJ3_checkIndex_8e157 : ByteArray := prog_23_method_11_code
def yJ3_checkIndex_8e157 : MethodName := ⟨RJ3, "checkIndex", "(IILjava/util/function/BiFunction;)I"⟩
def RL : String := "SeasonTiersLaw"
abbrev cL_append : ByteArray := method_3_code
def yL_append : MethodName := ⟨RL, "append", "(LSeasonTiers;IIIII[J)I"⟩
abbrev cL_count : ByteArray := method_4_code
def yL_count : MethodName := ⟨RL, "count", "(LSeasonTiers;I[J)I"⟩
abbrev cL_tier : ByteArray := method_5_code
def yL_tier : MethodName := ⟨RL, "tier", "(LSeasonTiers;II[J)I"⟩
abbrev cL_file : ByteArray := method_6_code
def yL_file : MethodName := ⟨RL, "file", "(LSeasonTiers;II[J)I"⟩
abbrev cL_season : ByteArray := method_7_code
def yL_season : MethodName := ⟨RL, "season", "(LSeasonTiers;II[J)I"⟩
abbrev cL_kept : ByteArray := method_8_code
def yL_kept : MethodName := ⟨RL, "kept", "(LSeasonTiers;II[J)I"⟩
abbrev cL_forecast : ByteArray := method_9_code
def yL_forecast : MethodName := ⟨RL, "forecast", "(LSeasonTiers;II[J)I"⟩
abbrev cL_off : ByteArray := method_10_code
def yL_off : MethodName := ⟨RL, "off", "(LSeasonTiers;I[J)I"⟩
abbrev cL_cycleOf : ByteArray := method_11_code
def yL_cycleOf : MethodName := ⟨RL, "cycleOf", "(LSeasonTiers;I[J)I"⟩
abbrev cL_account : ByteArray := method_12_code
def yL_account : MethodName := ⟨RL, "account", "(LSeasonTiers;II[J)I"⟩
abbrev cL_cost : ByteArray := method_13_code
def yL_cost : MethodName := ⟨RL, "cost", "(LSeasonTiers;III[J)I"⟩
abbrev cL_wish : ByteArray := method_14_code
def yL_wish : MethodName := ⟨RL, "wish", "(LSeasonTiers;II[J)I"⟩
abbrev cL_steps : ByteArray := method_15_code
def yL_steps : MethodName := ⟨RL, "steps", "(LSeasonTiers;I[J)I"⟩
abbrev cL_step : ByteArray := method_16_code
def yL_step : MethodName := ⟨RL, "step", "(LSeasonTiers;III[J)I"⟩
abbrev cL_saving : ByteArray := method_17_code
def yL_saving : MethodName := ⟨RL, "saving", "(LSeasonTiers;I[J)I"⟩
abbrev cL_withRoom : ByteArray := method_18_code
def yL_withRoom : MethodName := ⟨RL, "withRoom", "(LSeasonTiers;III[J)I"⟩
abbrev cL_add : ByteArray := method_19_code
def yL_add : MethodName := ⟨RL, "add", "(LSeasonTiers;II[J)I"⟩
abbrev cL_drop : ByteArray := method_20_code
def yL_drop : MethodName := ⟨RL, "drop", "(LSeasonTiers;I[J)I"⟩
abbrev cL_use : ByteArray := method_21_code
def yL_use : MethodName := ⟨RL, "use", "(LSeasonTiers;II[J)I"⟩
abbrev cL_move : ByteArray := method_22_code
def yL_move : MethodName := ⟨RL, "move", "(LSeasonTiers;II[J)I"⟩
abbrev cL_pin : ByteArray := method_23_code
def yL_pin : MethodName := ⟨RL, "pin", "(LSeasonTiers;II[J)I"⟩
abbrev cL_act : ByteArray := method_24_code
def yL_act : MethodName := ⟨RL, "act", "(LSeasonTiers;I[J)I"⟩
abbrev cL_learn : ByteArray := method_25_code
def yL_learn : MethodName := ⟨RL, "learn", "(LSeasonTiers;II[J)I"⟩
abbrev cL_setTier : ByteArray := method_26_code
def yL_setTier : MethodName := ⟨RL, "setTier", "(LSeasonTiers;III[J)I"⟩
abbrev cL_undo : ByteArray := method_27_code
def yL_undo : MethodName := ⟨RL, "undo", "(LSeasonTiers;[J)I"⟩
abbrev cL_save : ByteArray := method_28_code
def yL_save : MethodName := ⟨RL, "save", "(LSeasonTiers;I)I"⟩
abbrev cL_restore : ByteArray := method_29_code
def yL_restore : MethodName := ⟨RL, "restore", "(LSeasonTiers;I[J)I"⟩
abbrev cL_writtenByte : ByteArray := method_30_code
def yL_writtenByte : MethodName := ⟨RL, "writtenByte", "(LSeasonTiers;I[J)I"⟩
abbrev cL_law : ByteArray := code
def yL_law : MethodName := ⟨RL, "law", "([I)Z"⟩
theorem inJ9 : ∀ w ∈ wsJ90, w ∈ lw_tbl := by decide +kernel
theorem inJ0 : ∀ w ∈ wsJ00, w ∈ lw_tbl := by decide +kernel
theorem inJ1 : ∀ w ∈ wsJ10, w ∈ lw_tbl := by decide +kernel
theorem inJ2 : ∀ w ∈ wsJ20, w ∈ lw_tbl := by decide +kernel
theorem inJ10 : ∀ w ∈ wsJ100, w ∈ lw_tbl := by decide +kernel
theorem inJ3 : ∀ w ∈ wsJ30, w ∈ lw_tbl := by decide +kernel
abbrev vwCl : List vw_C := [(RX0, TX0, 10), (RX1, TX1, 3), (RX2, TX2, 2), (RX3, TX3, 12), (RX4, TX4, 8), (RX5, TX5, 8), (RX6, TX6, 3), (RX7, TX7, 2), (RX8, TX8, 9), (RX9, TX9, 32)]
end
section

/-! ===== the abstract world: cells by their places from a base; ints, longs, references, kinds, lengths ===== -/
abbrev zMem : Type := (Nat → Nat → Int32) × (Nat → Nat → Int64) × (Nat → Nat → Option Nat) × (Nat → Nat) × (Nat → Nat) × Nat × Nat
def zI (M : zMem) (a k : Nat) : Int32 := M.1 a k
def zJ (M : zMem) (a k : Nat) : Int64 := M.2.1 a k
def zR (M : zMem) (a k : Nat) : Option Nat := M.2.2.1 a k
def zK (M : zMem) (a : Nat) : Nat := M.2.2.2.1 a
def zN (M : zMem) (a : Nat) : Nat := M.2.2.2.2.1 a
def zT (M : zMem) : Nat := M.2.2.2.2.2.1
def zF (M : zMem) : Nat := M.2.2.2.2.2.2
def zu {α : Type} (f : Nat → Nat → α) (a k : Nat) (v : α) : Nat → Nat → α := fun b => if b = a then (fun j => if j = k then v else f a j) else f b
def zur {α : Type} (f : Nat → Nat → α) (a : Nat) (g : Nat → α) : Nat → Nat → α := fun b => if b = a then g else f b
def zsI (M : zMem) (a k : Nat) (v : Int32) : zMem := (zu M.1 a k v, M.2)
def zsJ (M : zMem) (a k : Nat) (v : Int64) : zMem := (M.1, zu M.2.1 a k v, M.2.2)
def zsR (M : zMem) (a k : Nat) (v : Option Nat) : zMem := (M.1, M.2.1, zu M.2.2.1 a k v, M.2.2.2)
def zsA (M : zMem) (a : Nat) (g : Nat → Int32) : zMem := (zur M.1 a g, M.2)
/-- a new cell at the top: all its contents 0 -/
def znw (M : zMem) (kd n : Nat) : zMem := (zur M.1 (zT M) (fun _ => 0), zur M.2.1 (zT M) (fun _ => 0), zur M.2.2.1 (zT M) (fun _ => none), (fun b => if b = zT M then kd else M.2.2.2.1 b), (fun b => if b = zT M then n else M.2.2.2.2.1 b), zT M + 1, zF M)
/-- something was thrown -/
def zth (M : zMem) : zMem := (M.1, M.2.1, M.2.2.1, M.2.2.2.1, M.2.2.2.2.1, M.2.2.2.2.2.1, 1)
/-- kinds of fields: 0 int, 1 long, 2 a reference -/
def zFT : List (List Nat) := [[1,0,0,0,0,0,1,0,2,2],[0,0,2],[0,2],[0,1,2,2,2,2,2,2,0,0,0,1],[0,0,2,0,0,0,1,0],[0,0,0,0,0,2,2,2],[1,2,2],[0,2],[2,2,2,2,2,2,2,2,2],[2,2,2,2,2,0,0,2,0,0,0,0,0,0,0,0,2,2,2,2,2,2,2,0,0,0,0,1,1,0,2,0]]
def zfty (ci k : Nat) : Nat := (zFT.getD ci []).getD k 0
def znf (ci : Nat) : Nat := (zFT.getD ci []).length
/-- the surroundings: base, classes, array classes, the script (where, how long, what), the literals (where, their bytes where) -/
abbrev zG : Type := Nat × va_G × (Nat → ClassId) × (Nat × Nat × (Nat → Int32)) × (Nat → Nat) × (Nat → Nat)
abbrev gB (G : zG) : Nat := G.1
abbrev gD (G : zG) : va_G := G.2.1
abbrev gC (G : zG) : Nat → ClassId := G.2.2.1
abbrev gX (G : zG) : Nat × Nat × (Nat → Int32) := G.2.2.2.1
abbrev gS (G : zG) : Nat → Nat := G.2.2.2.2.1
abbrev gV (G : zG) : Nat → Nat := G.2.2.2.2.2
/-- addresses: below a million the world's cells; a million and on: literals; two millions: the script; three millions and on: the literals' bytes, behind them a formatter of the JDK's -/
def zad (G : zG) (k : Nat) : Nat := if k < 1000000 then gB G + k else if k < 2000000 then gS G (k - 1000000) else if k < 3000000 then (gX G).1 else gV G (k - 3000000)
def zv (G : zG) : Value → Value | .ref k => .ref (zad G k) | .int x => .int x | .long x => .long x | .float x => .float x | .double x => .double x | .null => .null | .retAddr x => .retAddr x
theorem zv_cat (G : zG) (v : Value) : (zv G v).category = v.category := by cases v <;> rfl
def zrv (r : Option Nat) : Value := match r with | none => .null | some a => .ref a
theorem zv_rf (G : zG) (r : Option Nat) : va_rf (r.map (zad G)) = zv G (zrv r) := by cases r <;> rfl
def zfv (G : zG) (M : zMem) (ci a k : Nat) : Value := match zfty ci k with | 0 => .int (zI M a k) | 1 => .long (zJ M a k) | _ => va_rf ((zR M a k).map (zad G))
def zfl (G : zG) (M : zMem) (ci a : Nat) : List Value := (List.range (znf ci)).map (zfv G M ci a)
def zcl (G : zG) (M : zMem) (a : Nat) : va_E :=
  if zK M a ≤ 10 then .inr (zK M a - 1, zfl G M (zK M a - 1) a)
  else if zK M a = 11 then .inl (gC G 0, zN M a, .inl (zI M a))
  else if zK M a = 12 then .inl (gC G 1, zN M a, .inr (.inl (zJ M a)))
  else if zK M a = 13 then .inl (gC G 2, zN M a, .inl (zI M a))
  else .inl (gC G (zK M a - 11), zN M a, .inr (.inr (.inr (.inr (fun k => (zR M a k).map (zad G))))))
def zW (G : zG) (M : zMem) : va_W := (List.range (zT M)).map (fun a => (gB G + a, zcl G M a))
def zwf (M : zMem) : Prop := (∀ a, zT M ≤ a → zK M a = 0) ∧ zT M ≤ 1000000
def zA (G : zG) : Nat → Prop := fun q => gB G ≤ q
def zty (G : zG) : List (ClassId × FieldType) := [(gC G 0, .int), (gC G 1, .long), (gC G 2, .boolean), (gC G 3, .object RX0), (gC G 4, .object RX5), (gC G 5, .object RX6)]
theorem zW_get {G : zG} {M : zMem} {a : Nat} (h : a < zT M) : (zW G M)[a]? = some (gB G + a, zcl G M a) := by
  simp [zW, h]
theorem zW_of {G : zG} {M : zMem} {k : Nat} {q : Nat × va_E} (h : (zW G M)[k]? = some q) : k < zT M ∧ q = (gB G + k, zcl G M k) := by
  have hk : k < zT M := by
    have := (List.getElem?_eq_some_iff.mp h).1
    simpa [zW] using this
  exact ⟨hk, Option.some.inj (h.symm.trans (zW_get hk))⟩
theorem zW_D {G : zG} {M : zMem} : va_D (zA G) (zW G M) := by
  refine ⟨fun i j p q hi hj hpq => ?_, fun k q h => ?_⟩
  · obtain ⟨-, rfl⟩ := zW_of hi
    obtain ⟨-, rfl⟩ := zW_of hj
    exact Nat.add_left_cancel hpq
  · obtain ⟨-, rfl⟩ := zW_of h
    exact Nat.le_add_right _ _
theorem zW_set {G : zG} {M M' : zMem} {a : Nat} {e : va_E} (hT : zT M' = zT M) (he : zcl G M' a = e) (ho : ∀ c, c ≠ a → zcl G M' c = zcl G M c) : (zW G M).set a (gB G + a, e) = zW G M' := by
  apply List.ext_getElem?
  intro k
  by_cases hk : k = a
  · subst hk
    by_cases hl : k < zT M
    · rw [List.getElem?_set_self (by simpa [zW] using hl), zW_get (by omega), he]
    · have h1 : (zW G M').length ≤ k := by simp [zW]; omega
      have h2 : ((zW G M).set k (gB G + k, e)).length ≤ k := by simp [zW]; omega
      rw [List.getElem?_eq_none h1, List.getElem?_eq_none h2]
  · rw [List.getElem?_set_ne (Ne.symm hk)]
    by_cases hl : k < zT M
    · rw [zW_get hl, zW_get (by omega), ho k hk]
    · have h1 : (zW G M').length ≤ k := by simp [zW]; omega
      have h2 : (zW G M).length ≤ k := by simp [zW]; omega
      rw [List.getElem?_eq_none h1, List.getElem?_eq_none h2]
theorem zW_push {G : zG} {M M' : zMem} {e : va_E} (hT : zT M' = zT M + 1) (he : zcl G M' (zT M) = e) (ho : ∀ c, c < zT M → zcl G M' c = zcl G M c) : zW G M ++ [(gB G + zT M, e)] = zW G M' := by
  unfold zW
  rw [hT, List.range_succ, List.map_append]
  congr 1
  · exact List.map_congr_left fun c hc => by rw [ho c (List.mem_range.mp hc)]
  · simp [he]
/-! ===== a method at hand ===== -/
abbrev zMD : Type := MethodName × ByteArray × Nat × Option FieldType × List (Nat × Nat × Nat × Nat)
abbrev zOut : Type := Option Value ⊕ Nat
/-- the good words of the tables -/
def zGW : List Cond := lw_tbl.filter goodWord
theorem zGW_in {w : Cond} (h : w ∈ zGW) : w ∈ lw_tbl ∧ ((w.onTables && w.keeps) = true ∨ ∃ ty, w = .arrayClass ty) := ⟨(List.mem_filter.mp h).1, good_of_word (List.mem_filter.mp h).2⟩
theorem zGW_of {w : Cond} (i : Nat) (h : (lw_tbl[i]?, goodWord w) = (some w, true)) : w ∈ zGW := List.mem_filter.mpr ⟨List.mem_of_getElem? (Prod.mk.inj h).1, (Prod.mk.inj h).2⟩
def zXn : Nat → String | 0 => "java/lang/IllegalStateException" | 1 => "java/lang/IllegalArgumentException" | _ => "java/lang/IndexOutOfBoundsException"
def zNk : Cond → Bool | .methodLinkNest .. => true | .castable .. => true | .declares _ => true | .arrayOver (.object _) => true | _ => false
theorem zNk_warm {w : Cond} {s U : State} (h : zNk w = true) (hW : s.WarmedH U.vm) (hz : va_Nw w s) : va_Nw w U := by
  cases w with
  | methodLinkNest _ _ _ _ => exact va_Nw.warmM hW hz
  | castable _ _ => exact va_Nw.warmC hW hz
  | declares _ => exact va_Nw.warmD hW hz
  | arrayOver ty =>
    cases ty with
    | object C => exact va_AO.moved hW.alike hz
    | _ => cases h
  | _ => cases h
theorem zNk_same {w : Cond} {s U : State} (h : zNk w = true) (hv : s.vm = U.vm) (hz : va_Nw w s) : va_Nw w U := by
  cases w with
  | methodLinkNest _ _ _ _ => exact va_Nw.same rfl hv hz
  | castable _ _ => exact va_Nw.same rfl hv hz
  | declares _ => exact va_Nw.same rfl hv hz
  | arrayOver ty =>
    cases ty with
    | object C => exact va_AO.moved (by rw [hv]; exact Vm.Alike.refl U.vm) hz
    | _ => cases h
  | _ => cases h
/-- words of the tables that a call doesn't carry by itself -/
def zNW : List Cond := lw_tbl.filter zNk
/-- the literals: owner, place in its pool, text, number -/
def zLR : List (String × Nat × String × Nat) := [("SeasonTiers$Reader", 53, "cycle", 0), ("SeasonTiers$Reader", 63, "rate", 1), ("SeasonTiers$Reader", 76, "tier", 2), ("SeasonTiers$Reader", 121, "file", 3), ("SeasonTiers$Reader", 126, "on", 4), ("SeasonTiers$Reader", 131, "pin", 5), ("SeasonTiersModel", 199, "cycle", 0), ("SeasonTiersModel", 201, "rate", 1), ("SeasonTiersModel", 157, "tier", 2), ("SeasonTiersModel", 206, "file", 3), ("SeasonTiersModel", 186, "on", 4), ("SeasonTiersModel", 191, "pin", 5)]
def zLb : List (List Int32) := [[99, 121, 99, 108, 101], [114, 97, 116, 101], [116, 105, 101, 114], [102, 105, 108, 101], [111, 110], [112, 105, 110]]
def zLl : List Nat := [5, 4, 4, 4, 2, 3]
/-- what holds of the tables and of the heap's fixed part -/
def zCx (G : zG) (s : State) (H : Heap) : Prop :=
  va_K (gD G) vwCl (zty G) s ∧ (∀ w ∈ zNW, va_Nw w s) ∧ (∀ q ∈ zLR, vk_R q.1 q.2.1 q.2.2.1 (gS G q.2.2.2) s) ∧ vk_S 6 zLl zLb (gS G) (gV G) (zA G) s H ∧ va_X (gX G).1 (gX G).2.1 (gX G).2.2 s H ∧ (gX G).1 < gB G ∧ gB G ≤ H.size ∧
  vx_Zq Bundle.tN "UNASSIGNED_STACK" Bundle.steD (zA G) s H ∧ vx_Zq Bundle.tN "SUPPRESSED_SENTINEL" Bundle.listD (zA G) s H ∧ va_Z "java/lang/String" "COMPACT_STRINGS" "Z" (.int 1) (zA G) s H ∧ (va_Z "jdk/internal/util/Preconditions" "SIOOBE_FORMATTER" "Ljava/util/function/BiFunction;" .null (zA G) s H ∨ va_Z "jdk/internal/util/Preconditions" "SIOOBE_FORMATTER" "Ljava/util/function/BiFunction;" (.ref (gV G 6)) (zA G) s H) ∧ (∀ x x' : Nat, x < 3 → x' < 3 → x ≠ x' → va_Nc (zXn x) (zXn x') s)
theorem zCx.kept {G : zG} {s : State} {H H1 : Heap} (h : zCx G s H) (hz : H.size ≤ H1.size) (hq : ∀ a : Nat, a < H.size → ¬ zA G a → H1[a]? = H[a]?) : zCx G s H1 := by
  obtain ⟨h1, h2, h3, h4, h5, h6, h7, h8, h9, h10, h11, h12⟩ := h
  refine ⟨h1, h2, h3, h4.kept hq, h5.kept (hq _ (by omega) (fun z => by unfold zA at z; omega)), h6, by omega, h8.kept hq, h9.kept hq, h10.kept hq, h11.imp (fun h => h.kept hq) (fun h => h.kept hq), h12⟩
theorem zCx.warm {G : zG} {s U : State} {H : Heap} (h : zCx G s H) (hW : s.WarmedH U.vm) : zCx G U H := by
  obtain ⟨h1, h2, h3, h4, h5, h6, h7, h8, h9, h10, h11, h12⟩ := h
  exact ⟨va_K.moved hW.alike h1, fun w hw => zNk_warm (List.mem_filter.mp hw).2 hW (h2 w hw), fun q hq => vk_R.warm hW (h3 q hq), vk_S.moved hW.alike h4, h5.moved hW.alike, h6, h7, vx_Zq.moved hW.alike h8, vx_Zq.moved hW.alike h9, va_Z.moved hW.alike h10, h11.imp (va_Z.moved hW.alike) (va_Z.moved hW.alike), fun x x' a b c => va_Nc.moved hW.alike (h12 x x' a b c)⟩
theorem zCx.same {G : zG} {s U : State} {H : Heap} (h : zCx G s H) (hv : U.vm = s.vm) : zCx G U H := by
  obtain ⟨h1, h2, h3, h4, h5, h6, h7, h8, h9, h10, h11, h12⟩ := h
  have hA : s.vm.Alike U.vm := by rw [hv]; exact Vm.Alike.refl s.vm
  exact ⟨va_K.moved hA h1, fun w hw => zNk_same (List.mem_filter.mp hw).2 hv.symm (h2 w hw), fun q hq => vk_R.same hv (h3 q hq), vk_S.moved hA h4, h5.moved hA, h6, h7, vx_Zq.moved hA h8, vx_Zq.moved hA h9, va_Z.moved hA h10, h11.imp (va_Z.moved hA) (va_Z.moved hA), fun x x' a b c => va_Nc.moved hA (h12 x x' a b c)⟩
/-- the world in the heap -/
def zWd (G : zG) (M : zMem) (s : State) (H : Heap) (locs : List Loc) (cells : Nat) : Prop :=
  zwf M ∧ va_P (gD G) vwCl (zW G M) H ∧ va_S (zA G) s.heap H locs ∧ (zF M = 0 → s.heap.size + cells ≤ gB G + zT M)
abbrev yN (y : zMD) : MethodName := y.1
abbrev yC (y : zMD) : ByteArray := y.2.1
abbrev yL (y : zMD) : Nat := y.2.2.1
abbrev yR (y : zMD) : Option FieldType := y.2.2.2.1
abbrev yH (y : zMD) : List (Nat × Nat × Nat × Nat) := y.2.2.2.2
/-- what stands of the method that runs -/
def zFix (l : Launch) (G : zG) (y : zMD) (fr lo : Nat) (p : Program) (R : Room) (s : State) (m : MethodId) (args : Array Value) (meth : Method) (c : Code) : Prop :=
  p.tables.exec = Jvm.exec ∧ c.code = yC y ∧ c.maxLocals = yL y ∧ s.vm.findClass (yN y).cls = some m.cls ∧ (∀ w ∈ zGW, w.before args s = true) ∧ meth.locks = false ∧ meth.sig.returnType = yR y ∧ meth.name = (yN y).name ∧ l.stackTraces = false ∧ fr ≤ R.frames ∧ lo ≤ R.locals ∧ c.exceptionTable.toList = tableOf (yH y) ∧ zCx G s s.heap
/-- a return instruction with its value -/
def zrets (y : zMD) (pc : Nat) : Option Value → Prop
  | none => decode (yC y) pc = .ok (.return_, 1) ∧ yR y = none
  | some (.int x) => decode (yC y) pc = .ok (.ireturn, 1) ∧ ∃ ty, yR y = some ty ∧ narrow ty (.int x) = .int x
  | some (.long _) => decode (yC y) pc = .ok (.lreturn, 1) ∧ yR y = some .long
  | some (.float _) => decode (yC y) pc = .ok (.freturn, 1) ∧ yR y = some .float
  | some (.double _) => decode (yC y) pc = .ok (.dreturn, 1) ∧ yR y = some .double
  | some _ => False
/-- the names of the exceptions' classes above, behind a throw -/
def zXs : List String := ["java/lang/RuntimeException", "java/lang/Exception"]
/-- all words of a throw stand in the tables -/
def zxw (own : String) (x ic : Nat) : Prop := Cond.initialized (zXn x) ∈ zGW ∧ ∀ w ∈ vx_at0 own ic (zXn x) zXs, w ∈ zGW ∨ (w ∈ zNW ∧ w.onTables = true)
/-- a throw's own words -/
def zthr (y : zMD) (fr lo : Nat) (x : Nat) (pc : Nat) (st : List Value) : Prop :=
  ∃ ik ic : Nat, decode (yC y) pc = .ok (.new ik, 3) ∧ decode (yC y) (pc + 3) = .ok (.dup, 1) ∧ decode (yC y) (pc + 4) = .ok (.invokespecial ic, 3) ∧ decode (yC y) (pc + 7) = .ok (.athrow, 1) ∧
    Cond.classLink (yN y).cls ik (zXn x) ∈ zGW ∧ Cond.methodLink (yN y).cls ic ⟨zXn x, "<init>", "()V"⟩ ∈ zGW ∧ yH y = [] ∧ 6 < fr ∧ (st.map fun v => v.category).sum + 94 ≤ lo ∧ x < 3 ∧ zxw (yN y).cls x ic
/-- what is due at the method's end -/
def zEx (l : Launch) (G : zG) (y : zMD) (fr lo : Nat) (Q : zOut → zMem → Prop) (p : Program) (e : Env) (R : Room) (s : State) (m : MethodId) (args : Array Value) (below : List Frame) (meth : Method) (c : Code) (X : State → Prop) : Prop :=
  (∀ (v : Option Value) (M' : zMem), Q (.inl v) M' → ∀ (H : Heap) (locs : List Loc) (cells slots pc : Nat) (la : Array Slot), cells ≤ R.cells → slots ≤ R.slots → zWd G M' s H locs cells → zrets y pc v → W p l e R s m args below meth c H locs cells slots X (F0 m pc la (v.toList.map (zv G)))) ∧
  (∀ (x : Nat) (M' : zMem), Q (.inr x) M' → ∀ (H : Heap) (locs : List Loc) (cells slots pc : Nat) (la : Array Slot) (st : List Value) (q : Addr) (ce : Cell), cells ≤ R.cells → slots ≤ R.slots → zWd G M' s H locs cells → H[q]? = some ce → ce.vm = .none → s.vm.findClass (zXn x) = some ce.cls → yH y = [] → vx_W p l e R s m args below meth c H locs cells slots X (F0 m pc la st) q) ∧
  (∀ (x : Nat) (M' : zMem), Q (.inr x) (zth M') → ∀ (H : Heap) (locs : List Loc) (cells slots pc : Nat) (la : Array Slot) (st : List Value), cells + 1 ≤ R.cells → slots + 6 ≤ R.slots → zWd G M' s H locs cells → la.size = yL y → zthr y fr lo x pc st → W p l e R s m args below meth c H locs cells slots X (F0 m pc la (st.map (zv G))))
/-- locals by their places -/
def zlc : Nat → List (Option Value) → List (Nat × Value)
  | _, [] => []
  | i, none :: t => zlc (i + 1) t
  | i, some v :: t => (i, v) :: zlc (i + 1) t
def zll (G : zG) (ls : List (Option Value)) : List (Nat × Value) := zlc 0 (ls.map (Option.map (zv G)))
theorem zlc_mem : ∀ (ls : List (Option Value)) (k i : Nat) (v : Value), (i, v) ∈ zlc k ls ↔ ∃ j, i = k + j ∧ ls[j]? = some (some v)
  | [], k, i, v => by simp [zlc]
  | none :: t, k, i, v => by
    rw [zlc, zlc_mem t (k + 1) i v]
    constructor
    · rintro ⟨j, rfl, h⟩; exact ⟨j + 1, by omega, by simpa using h⟩
    · rintro ⟨j, rfl, h⟩
      cases j with
      | zero => simp at h
      | succ j => exact ⟨j, by omega, by simpa using h⟩
  | some w :: t, k, i, v => by
    rw [zlc, List.mem_cons, zlc_mem t (k + 1) i v]
    constructor
    · rintro (h | ⟨j, rfl, h⟩)
      · cases h; exact ⟨0, rfl, rfl⟩
      · exact ⟨j + 1, by omega, by simpa using h⟩
    · rintro ⟨j, rfl, h⟩
      cases j with
      | zero => left; simp at h; subst h; rfl
      | succ j => right; exact ⟨j, by omega, by simpa using h⟩
theorem zll_mem {G : zG} {ls : List (Option Value)} {i : Nat} {v : Value} : (i, v) ∈ zll G ls ↔ ∃ w, ls[i]? = some (some w) ∧ v = zv G w := by
  unfold zll
  rw [zlc_mem]
  constructor
  · rintro ⟨j, rfl, h⟩
    rw [List.getElem?_map] at h
    cases hj : ls[j]? with
    | none => rw [hj] at h; cases h
    | some o =>
      rw [hj] at h
      cases o with
      | none => cases h
      | some w => exact ⟨w, by rw [Nat.zero_add]; exact hj, by simpa using h.symm⟩
  · rintro ⟨w, h, rfl⟩
    exact ⟨i, (Nat.zero_add i).symm, by rw [List.getElem?_map, h]; rfl⟩
theorem zll_at {G : zG} {la : Array Slot} {nL : Nat} {ls : List (Option Value)} {i : Nat} {w : Value} (h : lv_has la nL (zll G ls)) (hw : ls[i]? = some (some w)) : la[i]? = some (.val (zv G w)) := h.2.2 (i, zv G w) (zll_mem.mpr ⟨w, hw, rfl⟩)
/-- a place's left neighbour, if a long value stands there, is no value any more -/
def zpr (ls : List (Option Value)) : Nat → List (Option Value)
  | 0 => ls
  | i + 1 => match ls[i]? with
    | some (some (.long _)) => ls.set i none
    | some (some (.double _)) => ls.set i none
    | _ => ls
def zp1 (ls : List (Option Value)) (i : Nat) (v : Value) : List (Option Value) := (zpr ls i).set i (some v)
def zp2 (ls : List (Option Value)) (i : Nat) (v : Value) : List (Option Value) := ((zpr ls i).set i (some v)).set (i + 1) none
theorem zpr_get {ls : List (Option Value)} {i j : Nat} {w : Value} (h : (zpr ls i)[j]? = some (some w)) : ls[j]? = some (some w) ∧ ¬ (j + 1 = i ∧ w.category = 2) := by
  cases i with
  | zero => exact ⟨h, by omega⟩
  | succ i =>
    rw [zpr] at h
    split at h
    next x hx =>
      by_cases hj : j = i
      · subst hj
        rw [List.getElem?_set_self (List.getElem?_eq_some_iff.mp hx).1] at h
        cases h
      · rw [List.getElem?_set_ne (Ne.symm hj)] at h
        exact ⟨h, by omega⟩
    next x hx =>
      by_cases hj : j = i
      · subst hj
        rw [List.getElem?_set_self (List.getElem?_eq_some_iff.mp hx).1] at h
        cases h
      · rw [List.getElem?_set_ne (Ne.symm hj)] at h
        exact ⟨h, by omega⟩
    next hx1 hx2 =>
      refine ⟨h, fun ⟨e1, e2⟩ => ?_⟩
      have : j = i := by omega
      subst this
      cases w with
      | long x => exact hx1 x h
      | double x => exact hx2 x h
      | _ => cases e2
theorem zp1_has {G : zG} {la : Array Slot} {nL i : Nat} {ls : List (Option Value)} {v : Value} (h : lv_has la nL ((i, zv G v) :: (zll G ls).filter (fun q => !(q.1 == i) && !(q.1 + 1 == i && q.2.category == 2)))) : lv_has la nL (zll G (zp1 ls i v)) := by
  refine ⟨h.1, h.2.1, fun q hq => h.2.2 q ?_⟩
  obtain ⟨j, x⟩ := q
  obtain ⟨w, hw, rfl⟩ := zll_mem.mp hq
  unfold zp1 at hw
  by_cases hj : j = i
  · subst hj
    rcases Nat.lt_or_ge j (zpr ls j).length with hl | hl
    · rw [List.getElem?_set_self hl] at hw
      cases hw
      exact List.mem_cons_self
    · rw [List.getElem?_eq_none (by simpa using hl)] at hw
      cases hw
  · rw [List.getElem?_set_ne (Ne.symm hj)] at hw
    obtain ⟨h1, h2⟩ := zpr_get hw
    refine List.mem_cons_of_mem _ (List.mem_filter.mpr ⟨zll_mem.mpr ⟨w, h1, rfl⟩, ?_⟩)
    simp only [zv_cat, Bool.and_eq_true, Bool.not_eq_true', beq_eq_false_iff_ne, ne_eq, Bool.and_eq_false_iff]
    refine ⟨hj, ?_⟩
    by_cases e : j + 1 = i
    · exact Or.inr (fun z => h2 ⟨e, z⟩)
    · exact Or.inl e
theorem zp2_has {G : zG} {la : Array Slot} {nL i : Nat} {ls : List (Option Value)} {v : Value} (h : lv_has la nL ((i, zv G v) :: (zll G ls).filter (fun q => !(q.1 == i) && (!(q.1 == i + 1) && !(q.1 + 1 == i && q.2.category == 2))))) : lv_has la nL (zll G (zp2 ls i v)) := by
  refine ⟨h.1, h.2.1, fun q hq => h.2.2 q ?_⟩
  obtain ⟨j, x⟩ := q
  obtain ⟨w, hw, rfl⟩ := zll_mem.mp hq
  unfold zp2 at hw
  by_cases hj1 : j = i + 1
  · subst hj1
    by_cases hl : i + 1 < ((zpr ls i).set i (some v)).length
    · rw [List.getElem?_set_self hl] at hw
      cases hw
    · rw [List.getElem?_eq_none (by simpa using hl)] at hw
      cases hw
  · rw [List.getElem?_set_ne (Ne.symm hj1)] at hw
    by_cases hj : j = i
    · subst hj
      rcases Nat.lt_or_ge j (zpr ls j).length with hl | hl
      · rw [List.getElem?_set_self hl] at hw
        cases hw
        exact List.mem_cons_self
      · rw [List.getElem?_eq_none (by simpa using hl)] at hw
        cases hw
    · rw [List.getElem?_set_ne (Ne.symm hj)] at hw
      obtain ⟨h1, h2⟩ := zpr_get hw
      refine List.mem_cons_of_mem _ (List.mem_filter.mpr ⟨zll_mem.mpr ⟨w, h1, rfl⟩, ?_⟩)
      simp only [zv_cat, Bool.and_eq_true, Bool.not_eq_true', beq_eq_false_iff_ne, ne_eq, Bool.and_eq_false_iff]
      refine ⟨hj, hj1, ?_⟩
      by_cases e : j + 1 = i
      · exact Or.inr (fun z => h2 ⟨e, z⟩)
      · exact Or.inl e
/-- THE JUDGEMENT: from pc, with these locals, this stack, this world, the method comes to an end that Q allows; fr lo: its room's frames and words; bc bs: cells and slots that it may still make -/
def zS (l : Launch) (G : zG) (y : zMD) (fr lo bc bs pc : Nat) (ls : List (Option Value)) (st : List Value) (M : zMem) (Q : zOut → zMem → Prop) : Prop :=
  ∀ (p : Program) (e : Env) (R : Room) (s : State) (m : MethodId) (args : Array Value) (below : List Frame) (meth : Method) (c : Code) (H : Heap) (locs : List Loc) (cells slots : Nat) (X : State → Prop) (la : Array Slot),
    zFix l G y fr lo p R s m args meth c → cells + bc ≤ R.cells → slots + bs ≤ R.slots → zWd G M s H locs cells → lv_has la (yL y) (zll G ls) → zEx l G y fr lo Q p e R s m args below meth c X →
    W p l e R s m args below meth c H locs cells slots X (F0 m pc la (st.map (zv G)))
end
section
section ZR
variable {l : Launch} {G : zG} {y : zMD} {fr lo bc bs pc : Nat} {ls : List (Option Value)} {st : List Value} {M : zMem} {Q : zOut → zMem → Prop}
theorem s_iadd {a b : Int32} (hd : decode (yC y) pc = .ok (.iadd, 1)) (k : zS l G y fr lo bc bs (pc + 1) ls (.int (a + b) :: st) M Q) : zS l G y fr lo bc bs pc ls (.int b :: .int a :: st) M Q := by
  intro p e R s m args below meth c H locs cells slots X la F hc hs hW hl hE
  exact lv_iadd F.1 F.2.1 hd (k p e R s m args below meth c H locs cells slots X la F hc hs hW hl hE)
theorem s_isub {a b : Int32} (hd : decode (yC y) pc = .ok (.isub, 1)) (k : zS l G y fr lo bc bs (pc + 1) ls (.int (a - b) :: st) M Q) : zS l G y fr lo bc bs pc ls (.int b :: .int a :: st) M Q := by
  intro p e R s m args below meth c H locs cells slots X la F hc hs hW hl hE
  exact lv_isub F.1 F.2.1 hd (k p e R s m args below meth c H locs cells slots X la F hc hs hW hl hE)
theorem s_imul {a b : Int32} (hd : decode (yC y) pc = .ok (.imul, 1)) (k : zS l G y fr lo bc bs (pc + 1) ls (.int (a * b) :: st) M Q) : zS l G y fr lo bc bs pc ls (.int b :: .int a :: st) M Q := by
  intro p e R s m args below meth c H locs cells slots X la F hc hs hW hl hE
  exact lv_imul F.1 F.2.1 hd (k p e R s m args below meth c H locs cells slots X la F hc hs hW hl hE)
theorem s_iand {a b : Int32} (hd : decode (yC y) pc = .ok (.iand, 1)) (k : zS l G y fr lo bc bs (pc + 1) ls (.int (a &&& b) :: st) M Q) : zS l G y fr lo bc bs pc ls (.int b :: .int a :: st) M Q := by
  intro p e R s m args below meth c H locs cells slots X la F hc hs hW hl hE
  exact lv_iand F.1 F.2.1 hd (k p e R s m args below meth c H locs cells slots X la F hc hs hW hl hE)
theorem s_ixor {a b : Int32} (hd : decode (yC y) pc = .ok (.ixor, 1)) (k : zS l G y fr lo bc bs (pc + 1) ls (.int (a ^^^ b) :: st) M Q) : zS l G y fr lo bc bs pc ls (.int b :: .int a :: st) M Q := by
  intro p e R s m args below meth c H locs cells slots X la F hc hs hW hl hE
  exact lv_ixor F.1 F.2.1 hd (k p e R s m args below meth c H locs cells slots X la F hc hs hW hl hE)
theorem s_ishr {a b : Int32} (hd : decode (yC y) pc = .ok (.ishr, 1)) (k : zS l G y fr lo bc bs (pc + 1) ls (.int (a >>> (b &&& 31)) :: st) M Q) : zS l G y fr lo bc bs pc ls (.int b :: .int a :: st) M Q := by
  intro p e R s m args below meth c H locs cells slots X la F hc hs hW hl hE
  exact lv_ishr F.1 F.2.1 hd (k p e R s m args below meth c H locs cells slots X la F hc hs hW hl hE)
theorem s_idiv {a b : Int32} (hd : decode (yC y) pc = .ok (.idiv, 1)) (hne : ¬ b = 0) (k : zS l G y fr lo bc bs (pc + 1) ls (.int (a / b) :: st) M Q) : zS l G y fr lo bc bs pc ls (.int b :: .int a :: st) M Q := by
  intro p e R s m args below meth c H locs cells slots X la F hc hs hW hl hE
  exact lv_idiv F.1 F.2.1 hd hne (k p e R s m args below meth c H locs cells slots X la F hc hs hW hl hE)
theorem s_irem {a b : Int32} (hd : decode (yC y) pc = .ok (.irem, 1)) (hne : ¬ b = 0) (k : zS l G y fr lo bc bs (pc + 1) ls (.int (a - a / b * b) :: st) M Q) : zS l G y fr lo bc bs pc ls (.int b :: .int a :: st) M Q := by
  intro p e R s m args below meth c H locs cells slots X la F hc hs hW hl hE
  exact lv_irem F.1 F.2.1 hd hne (k p e R s m args below meth c H locs cells slots X la F hc hs hW hl hE)
theorem s_ineg {a : Int32} (hd : decode (yC y) pc = .ok (.ineg, 1)) (k : zS l G y fr lo bc bs (pc + 1) ls (.int (-a) :: st) M Q) : zS l G y fr lo bc bs pc ls (.int a :: st) M Q := by
  intro p e R s m args below meth c H locs cells slots X la F hc hs hW hl hE
  exact lv_ineg F.1 F.2.1 hd (k p e R s m args below meth c H locs cells slots X la F hc hs hW hl hE)
theorem s_ladd {a b : Int64} (hd : decode (yC y) pc = .ok (.ladd, 1)) (k : zS l G y fr lo bc bs (pc + 1) ls (.long (a + b) :: st) M Q) : zS l G y fr lo bc bs pc ls (.long b :: .long a :: st) M Q := by
  intro p e R s m args below meth c H locs cells slots X la F hc hs hW hl hE
  exact lv_ladd F.1 F.2.1 hd (k p e R s m args below meth c H locs cells slots X la F hc hs hW hl hE)
theorem s_lsub {a b : Int64} (hd : decode (yC y) pc = .ok (.lsub, 1)) (k : zS l G y fr lo bc bs (pc + 1) ls (.long (a - b) :: st) M Q) : zS l G y fr lo bc bs pc ls (.long b :: .long a :: st) M Q := by
  intro p e R s m args below meth c H locs cells slots X la F hc hs hW hl hE
  exact lv_lsub F.1 F.2.1 hd (k p e R s m args below meth c H locs cells slots X la F hc hs hW hl hE)
theorem s_lmul {a b : Int64} (hd : decode (yC y) pc = .ok (.lmul, 1)) (k : zS l G y fr lo bc bs (pc + 1) ls (.long (a * b) :: st) M Q) : zS l G y fr lo bc bs pc ls (.long b :: .long a :: st) M Q := by
  intro p e R s m args below meth c H locs cells slots X la F hc hs hW hl hE
  exact lv_lmul F.1 F.2.1 hd (k p e R s m args below meth c H locs cells slots X la F hc hs hW hl hE)
theorem s_ldiv {a b : Int64} (hd : decode (yC y) pc = .ok (.ldiv, 1)) (hne : ¬ b = 0) (k : zS l G y fr lo bc bs (pc + 1) ls (.long (a / b) :: st) M Q) : zS l G y fr lo bc bs pc ls (.long b :: .long a :: st) M Q := by
  intro p e R s m args below meth c H locs cells slots X la F hc hs hW hl hE
  exact lv_ldiv F.1 F.2.1 hd hne (k p e R s m args below meth c H locs cells slots X la F hc hs hW hl hE)
theorem s_lneg {a : Int64} (hd : decode (yC y) pc = .ok (.lneg, 1)) (k : zS l G y fr lo bc bs (pc + 1) ls (.long (-a) :: st) M Q) : zS l G y fr lo bc bs pc ls (.long a :: st) M Q := by
  intro p e R s m args below meth c H locs cells slots X la F hc hs hW hl hE
  exact lv_lneg F.1 F.2.1 hd (k p e R s m args below meth c H locs cells slots X la F hc hs hW hl hE)
theorem s_lshl {a : Int64} {b : Int32} (hd : decode (yC y) pc = .ok (.lshl, 1)) (k : zS l G y fr lo bc bs (pc + 1) ls (.long (a <<< (b.toInt64 &&& 63)) :: st) M Q) : zS l G y fr lo bc bs pc ls (.int b :: .long a :: st) M Q := by
  intro p e R s m args below meth c H locs cells slots X la F hc hs hW hl hE
  exact lv_lshl F.1 F.2.1 hd rfl (k p e R s m args below meth c H locs cells slots X la F hc hs hW hl hE)
theorem s_lshr {a : Int64} {b : Int32} (hd : decode (yC y) pc = .ok (.lshr, 1)) (k : zS l G y fr lo bc bs (pc + 1) ls (.long (a >>> (b.toInt64 &&& 63)) :: st) M Q) : zS l G y fr lo bc bs pc ls (.int b :: .long a :: st) M Q := by
  intro p e R s m args below meth c H locs cells slots X la F hc hs hW hl hE
  exact lv_lshr F.1 F.2.1 hd rfl (k p e R s m args below meth c H locs cells slots X la F hc hs hW hl hE)
theorem s_i2l {a : Int32} (hd : decode (yC y) pc = .ok (.i2l, 1)) (k : zS l G y fr lo bc bs (pc + 1) ls (.long a.toInt64 :: st) M Q) : zS l G y fr lo bc bs pc ls (.int a :: st) M Q := by
  intro p e R s m args below meth c H locs cells slots X la F hc hs hW hl hE
  exact lv_i2l F.1 F.2.1 hd rfl (k p e R s m args below meth c H locs cells slots X la F hc hs hW hl hE)
theorem s_l2i {a : Int64} (hd : decode (yC y) pc = .ok (.l2i, 1)) (k : zS l G y fr lo bc bs (pc + 1) ls (.int a.toInt32 :: st) M Q) : zS l G y fr lo bc bs pc ls (.long a :: st) M Q := by
  intro p e R s m args below meth c H locs cells slots X la F hc hs hW hl hE
  exact lv_l2i F.1 F.2.1 hd rfl (k p e R s m args below meth c H locs cells slots X la F hc hs hW hl hE)
theorem s_i2d {a : Int32} (hd : decode (yC y) pc = .ok (.i2d, 1)) (k : zS l G y fr lo bc bs (pc + 1) ls (.double (FP.i2d a) :: st) M Q) : zS l G y fr lo bc bs pc ls (.int a :: st) M Q := by
  intro p e R s m args below meth c H locs cells slots X la F hc hs hW hl hE
  exact lv_i2d F.1 F.2.1 hd (k p e R s m args below meth c H locs cells slots X la F hc hs hW hl hE)
theorem s_l2d {a : Int64} (hd : decode (yC y) pc = .ok (.l2d, 1)) (k : zS l G y fr lo bc bs (pc + 1) ls (.double (FP.l2d a) :: st) M Q) : zS l G y fr lo bc bs pc ls (.long a :: st) M Q := by
  intro p e R s m args below meth c H locs cells slots X la F hc hs hW hl hE
  exact lv_l2d F.1 F.2.1 hd (k p e R s m args below meth c H locs cells slots X la F hc hs hW hl hE)
theorem s_l2f {a : Int64} (hd : decode (yC y) pc = .ok (.l2f, 1)) (k : zS l G y fr lo bc bs (pc + 1) ls (.float (FP.l2f a) :: st) M Q) : zS l G y fr lo bc bs pc ls (.long a :: st) M Q := by
  intro p e R s m args below meth c H locs cells slots X la F hc hs hW hl hE
  exact lv_l2f F.1 F.2.1 hd (k p e R s m args below meth c H locs cells slots X la F hc hs hW hl hE)
theorem s_f2d {a : UInt32} (hd : decode (yC y) pc = .ok (.f2d, 1)) (hne : vf_n64 (FP.f2d a)) (k : zS l G y fr lo bc bs (pc + 1) ls (.double (FP.f2d a) :: st) M Q) : zS l G y fr lo bc bs pc ls (.float a :: st) M Q := by
  intro p e R s m args below meth c H locs cells slots X la F hc hs hW hl hE
  exact lv_f2d F.1 F.2.1 hd hne (k p e R s m args below meth c H locs cells slots X la F hc hs hW hl hE)
theorem s_ddiv {a b : UInt64} (hd : decode (yC y) pc = .ok (.ddiv, 1)) (hne : vf_n64 (FP.ddiv a b)) (k : zS l G y fr lo bc bs (pc + 1) ls (.double (FP.ddiv a b) :: st) M Q) : zS l G y fr lo bc bs pc ls (.double b :: .double a :: st) M Q := by
  intro p e R s m args below meth c H locs cells slots X la F hc hs hW hl hE
  exact lv_ddiv F.1 F.2.1 hd hne (k p e R s m args below meth c H locs cells slots X la F hc hs hW hl hE)
theorem s_fdiv {a b : UInt32} (hd : decode (yC y) pc = .ok (.fdiv, 1)) (hne : vf_n32 (FP.fdiv a b)) (k : zS l G y fr lo bc bs (pc + 1) ls (.float (FP.fdiv a b) :: st) M Q) : zS l G y fr lo bc bs pc ls (.float b :: .float a :: st) M Q := by
  intro p e R s m args below meth c H locs cells slots X la F hc hs hW hl hE
  exact lv_fdiv F.1 F.2.1 hd hne (k p e R s m args below meth c H locs cells slots X la F hc hs hW hl hE)
theorem s_dcmp {a b : UInt64} {op : CmpOp} (hd : decode (yC y) pc = .ok (.dcmp op, 1)) (k : zS l G y fr lo bc bs (pc + 1) ls (.int (Op.cmpValue (FP.dcmp a b) op) :: st) M Q) : zS l G y fr lo bc bs pc ls (.double b :: .double a :: st) M Q := by
  intro p e R s m args below meth c H locs cells slots X la F hc hs hW hl hE
  exact lv_dcmp F.1 F.2.1 hd (k p e R s m args below meth c H locs cells slots X la F hc hs hW hl hE)
theorem s_lcmp {a b : Int64} (hd : decode (yC y) pc = .ok (.lcmp, 1)) (k : zS l G y fr lo bc bs (pc + 1) ls (.int (lg_cmp a b) :: st) M Q) : zS l G y fr lo bc bs pc ls (.long b :: .long a :: st) M Q := by
  intro p e R s m args below meth c H locs cells slots X la F hc hs hW hl hE
  exact W.lcmp F.1 F.2.1 hd (k p e R s m args below meth c H locs cells slots X la F hc hs hW hl hE)
theorem s_iconst {n : Int} (hd : decode (yC y) pc = .ok (.iconst n, 1)) (k : zS l G y fr lo bc bs (pc + 1) ls (.int (Int32.ofInt n) :: st) M Q) : zS l G y fr lo bc bs pc ls (st) M Q := by
  intro p e R s m args below meth c H locs cells slots X la F hc hs hW hl hE
  exact lv_iconst F.1 F.2.1 hd rfl (k p e R s m args below meth c H locs cells slots X la F hc hs hW hl hE)
theorem s_bipush {n : Int} (hd : decode (yC y) pc = .ok (.bipush n, 2)) (k : zS l G y fr lo bc bs (pc + 2) ls (.int (Int8.ofInt n).toInt32 :: st) M Q) : zS l G y fr lo bc bs pc ls (st) M Q := by
  intro p e R s m args below meth c H locs cells slots X la F hc hs hW hl hE
  exact lv_bipush F.1 F.2.1 hd rfl (k p e R s m args below meth c H locs cells slots X la F hc hs hW hl hE)
theorem s_sipush {n : Int} (hd : decode (yC y) pc = .ok (.sipush n, 3)) (k : zS l G y fr lo bc bs (pc + 3) ls (.int (Int16.ofInt n).toInt32 :: st) M Q) : zS l G y fr lo bc bs pc ls (st) M Q := by
  intro p e R s m args below meth c H locs cells slots X la F hc hs hW hl hE
  exact lv_sipush F.1 F.2.1 hd rfl (k p e R s m args below meth c H locs cells slots X la F hc hs hW hl hE)
theorem s_lconst {n : Fin 2} (hd : decode (yC y) pc = .ok (.lconst n, 1)) (k : zS l G y fr lo bc bs (pc + 1) ls (.long (Int64.ofNat n) :: st) M Q) : zS l G y fr lo bc bs pc ls (st) M Q := by
  intro p e R s m args below meth c H locs cells slots X la F hc hs hW hl hE
  exact lv_lconst F.1 F.2.1 hd rfl (k p e R s m args below meth c H locs cells slots X la F hc hs hW hl hE)
theorem s_dconst0  (hd : decode (yC y) pc = .ok (.dconst 0, 1)) (k : zS l G y fr lo bc bs (pc + 1) ls (.double FP.dconst0 :: st) M Q) : zS l G y fr lo bc bs pc ls (st) M Q := by
  intro p e R s m args below meth c H locs cells slots X la F hc hs hW hl hE
  exact lv_dconst0 F.1 F.2.1 hd (k p e R s m args below meth c H locs cells slots X la F hc hs hW hl hE)
theorem s_fconst0  (hd : decode (yC y) pc = .ok (.fconst 0, 1)) (k : zS l G y fr lo bc bs (pc + 1) ls (.float FP.fconst0 :: st) M Q) : zS l G y fr lo bc bs pc ls (st) M Q := by
  intro p e R s m args below meth c H locs cells slots X la F hc hs hW hl hE
  exact lv_fconst0 F.1 F.2.1 hd (k p e R s m args below meth c H locs cells slots X la F hc hs hW hl hE)
theorem s_iconstv {n : Int} {v : Int32} (hd : decode (yC y) pc = .ok (.iconst n, 1)) (hv : Int32.ofInt n = v) (k : zS l G y fr lo bc bs (pc + 1) ls (.int v :: st) M Q) : zS l G y fr lo bc bs pc ls (st) M Q := by
  intro p e R s m args below meth c H locs cells slots X la F hc hs hW hl hE
  exact lv_iconst F.1 F.2.1 hd hv (k p e R s m args below meth c H locs cells slots X la F hc hs hW hl hE)
theorem s_bipushv {n : Int} {v : Int32} (hd : decode (yC y) pc = .ok (.bipush n, 2)) (hv : (Int8.ofInt n).toInt32 = v) (k : zS l G y fr lo bc bs (pc + 2) ls (.int v :: st) M Q) : zS l G y fr lo bc bs pc ls (st) M Q := by
  intro p e R s m args below meth c H locs cells slots X la F hc hs hW hl hE
  exact lv_bipush F.1 F.2.1 hd hv (k p e R s m args below meth c H locs cells slots X la F hc hs hW hl hE)
theorem s_sipushv {n : Int} {v : Int32} (hd : decode (yC y) pc = .ok (.sipush n, 3)) (hv : (Int16.ofInt n).toInt32 = v) (k : zS l G y fr lo bc bs (pc + 3) ls (.int v :: st) M Q) : zS l G y fr lo bc bs pc ls (st) M Q := by
  intro p e R s m args below meth c H locs cells slots X la F hc hs hW hl hE
  exact lv_sipush F.1 F.2.1 hd hv (k p e R s m args below meth c H locs cells slots X la F hc hs hW hl hE)
theorem s_lconstv {n : Fin 2} {v : Int64} (hd : decode (yC y) pc = .ok (.lconst n, 1)) (hv : Int64.ofNat (n : Nat) = v) (k : zS l G y fr lo bc bs (pc + 1) ls (.long v :: st) M Q) : zS l G y fr lo bc bs pc ls (st) M Q := by
  intro p e R s m args below meth c H locs cells slots X la F hc hs hW hl hE
  exact lv_lconst F.1 F.2.1 hd hv (k p e R s m args below meth c H locs cells slots X la F hc hs hW hl hE)
theorem s_ldc {i : Nat} {v : Int32} (hd : decode (yC y) pc = .ok (.ldc i, 2)) (hw : Jvm.Cond.constant (yN y).cls i v ∈ zGW) (k : zS l G y fr lo bc bs (pc + 2) ls (.int v :: st) M Q) : zS l G y fr lo bc bs pc ls (st) M Q := by
  intro p e R s m args below meth c H locs cells slots X la F hc hs hW hl hE
  exact lv_ldc F.1 F.2.1 F.2.2.2.1 (F.2.2.2.2.1 _ hw) hd (k p e R s m args below meth c H locs cells slots X la F hc hs hW hl hE)
theorem s_ldc2 {i : Nat} {v : Int64} (hd : decode (yC y) pc = .ok (.ldc2_w i, 3)) (hw : Jvm.Cond.constantLong (yN y).cls i v ∈ zGW) (k : zS l G y fr lo bc bs (pc + 3) ls (.long v :: st) M Q) : zS l G y fr lo bc bs pc ls (st) M Q := by
  intro p e R s m args below meth c H locs cells slots X la F hc hs hW hl hE
  exact lv_ldc2 F.1 F.2.1 F.2.2.2.1 (F.2.2.2.2.1 _ hw) hd (k p e R s m args below meth c H locs cells slots X la F hc hs hW hl hE)
theorem s_iload {i : Nat} {v : Int32} (hd : decode (yC y) pc = .ok (.iload i, 2)) (hv : ls[i]? = some (some (.int v))) (k : zS l G y fr lo bc bs (pc + 2) ls (.int v :: st) M Q) : zS l G y fr lo bc bs pc ls (st) M Q := by
  intro p e R s m args below meth c H locs cells slots X la F hc hs hW hl hE
  exact lv_iload F.1 F.2.1 hd (zll_at hl hv) (k p e R s m args below meth c H locs cells slots X la F hc hs hW hl hE)
theorem s_iload_n {i : Fin 4} {v : Int32} (hd : decode (yC y) pc = .ok (.iload_n i, 1)) (hv : ls[(i : Nat)]? = some (some (.int v))) (k : zS l G y fr lo bc bs (pc + 1) ls (.int v :: st) M Q) : zS l G y fr lo bc bs pc ls (st) M Q := by
  intro p e R s m args below meth c H locs cells slots X la F hc hs hW hl hE
  exact lv_iload_n F.1 F.2.1 hd rfl (zll_at hl hv) (k p e R s m args below meth c H locs cells slots X la F hc hs hW hl hE)
theorem s_lload {i : Nat} {v : Int64} (hd : decode (yC y) pc = .ok (.lload i, 2)) (hv : ls[i]? = some (some (.long v))) (k : zS l G y fr lo bc bs (pc + 2) ls (.long v :: st) M Q) : zS l G y fr lo bc bs pc ls (st) M Q := by
  intro p e R s m args below meth c H locs cells slots X la F hc hs hW hl hE
  exact lv_lload F.1 F.2.1 hd (zll_at hl hv) (k p e R s m args below meth c H locs cells slots X la F hc hs hW hl hE)
theorem s_lload_n {i : Fin 4} {v : Int64} (hd : decode (yC y) pc = .ok (.lload_n i, 1)) (hv : ls[(i : Nat)]? = some (some (.long v))) (k : zS l G y fr lo bc bs (pc + 1) ls (.long v :: st) M Q) : zS l G y fr lo bc bs pc ls (st) M Q := by
  intro p e R s m args below meth c H locs cells slots X la F hc hs hW hl hE
  exact lv_lload_n F.1 F.2.1 hd rfl (zll_at hl hv) (k p e R s m args below meth c H locs cells slots X la F hc hs hW hl hE)
theorem s_aload {i : Nat} {v : Nat} (hd : decode (yC y) pc = .ok (.aload i, 2)) (hv : ls[i]? = some (some (.ref v))) (k : zS l G y fr lo bc bs (pc + 2) ls (.ref v :: st) M Q) : zS l G y fr lo bc bs pc ls (st) M Q := by
  intro p e R s m args below meth c H locs cells slots X la F hc hs hW hl hE
  exact lv_aload F.1 F.2.1 hd (zll_at hl hv) (k p e R s m args below meth c H locs cells slots X la F hc hs hW hl hE)
theorem s_aload_n {i : Fin 4} {v : Nat} (hd : decode (yC y) pc = .ok (.aload_n i, 1)) (hv : ls[(i : Nat)]? = some (some (.ref v))) (k : zS l G y fr lo bc bs (pc + 1) ls (.ref v :: st) M Q) : zS l G y fr lo bc bs pc ls (st) M Q := by
  intro p e R s m args below meth c H locs cells slots X la F hc hs hW hl hE
  exact lv_aload_n F.1 F.2.1 hd rfl (zll_at hl hv) (k p e R s m args below meth c H locs cells slots X la F hc hs hW hl hE)
theorem s_dload {i : Nat} {v : UInt64} (hd : decode (yC y) pc = .ok (.dload i, 2)) (hv : ls[i]? = some (some (.double v))) (k : zS l G y fr lo bc bs (pc + 2) ls (.double v :: st) M Q) : zS l G y fr lo bc bs pc ls (st) M Q := by
  intro p e R s m args below meth c H locs cells slots X la F hc hs hW hl hE
  exact lv_dload F.1 F.2.1 hd (zll_at hl hv) (k p e R s m args below meth c H locs cells slots X la F hc hs hW hl hE)
theorem s_dload_n {i : Fin 4} {v : UInt64} (hd : decode (yC y) pc = .ok (.dload_n i, 1)) (hv : ls[(i : Nat)]? = some (some (.double v))) (k : zS l G y fr lo bc bs (pc + 1) ls (.double v :: st) M Q) : zS l G y fr lo bc bs pc ls (st) M Q := by
  intro p e R s m args below meth c H locs cells slots X la F hc hs hW hl hE
  exact lv_dload_n F.1 F.2.1 hd rfl (zll_at hl hv) (k p e R s m args below meth c H locs cells slots X la F hc hs hW hl hE)
theorem s_istore {i : Nat} {v : Int32} (hd : decode (yC y) pc = .ok (.istore i, 2)) (hn : i < yL y) (k : zS l G y fr lo bc bs (pc + 2) (zp1 ls i (.int v)) st M Q) : zS l G y fr lo bc bs pc ls (.int v :: st) M Q := by
  intro p e R s m args below meth c H locs cells slots X la F hc hs hW hl hE
  exact lv_istore F.1 F.2.1 hd hl hn rfl (fun la hl => k p e R s m args below meth c H locs cells slots X la F hc hs hW (zp1_has hl) hE)
theorem s_istore_n {i : Fin 4} {v : Int32} (hd : decode (yC y) pc = .ok (.istore_n i, 1)) (hn : (i : Nat) < yL y) (k : zS l G y fr lo bc bs (pc + 1) (zp1 ls i (.int v)) st M Q) : zS l G y fr lo bc bs pc ls (.int v :: st) M Q := by
  intro p e R s m args below meth c H locs cells slots X la F hc hs hW hl hE
  exact lv_istore_n F.1 F.2.1 hd rfl hl hn rfl (fun la hl => k p e R s m args below meth c H locs cells slots X la F hc hs hW (zp1_has hl) hE)
theorem s_lstore {i : Nat} {v : Int64} (hd : decode (yC y) pc = .ok (.lstore i, 2)) (hn : i + 1 < yL y) (k : zS l G y fr lo bc bs (pc + 2) (zp2 ls i (.long v)) st M Q) : zS l G y fr lo bc bs pc ls (.long v :: st) M Q := by
  intro p e R s m args below meth c H locs cells slots X la F hc hs hW hl hE
  exact lv_lstore F.1 F.2.1 hd hl hn rfl (fun la hl => k p e R s m args below meth c H locs cells slots X la F hc hs hW (zp2_has hl) hE)
theorem s_lstore_n {i : Fin 4} {v : Int64} (hd : decode (yC y) pc = .ok (.lstore_n i, 1)) (hn : (i : Nat) + 1 < yL y) (k : zS l G y fr lo bc bs (pc + 1) (zp2 ls i (.long v)) st M Q) : zS l G y fr lo bc bs pc ls (.long v :: st) M Q := by
  intro p e R s m args below meth c H locs cells slots X la F hc hs hW hl hE
  exact lv_lstore_n F.1 F.2.1 hd rfl hl hn rfl (fun la hl => k p e R s m args below meth c H locs cells slots X la F hc hs hW (zp2_has hl) hE)
theorem s_astore {i : Nat} {v : Nat} (hd : decode (yC y) pc = .ok (.astore i, 2)) (hn : i < yL y) (k : zS l G y fr lo bc bs (pc + 2) (zp1 ls i (.ref v)) st M Q) : zS l G y fr lo bc bs pc ls (.ref v :: st) M Q := by
  intro p e R s m args below meth c H locs cells slots X la F hc hs hW hl hE
  exact lv_astore F.1 F.2.1 hd hl hn rfl (fun la hl => k p e R s m args below meth c H locs cells slots X la F hc hs hW (zp1_has hl) hE)
theorem s_astore_n {i : Fin 4} {v : Nat} (hd : decode (yC y) pc = .ok (.astore_n i, 1)) (hn : (i : Nat) < yL y) (k : zS l G y fr lo bc bs (pc + 1) (zp1 ls i (.ref v)) st M Q) : zS l G y fr lo bc bs pc ls (.ref v :: st) M Q := by
  intro p e R s m args below meth c H locs cells slots X la F hc hs hW hl hE
  exact lv_astore_n F.1 F.2.1 hd rfl hl hn rfl (fun la hl => k p e R s m args below meth c H locs cells slots X la F hc hs hW (zp1_has hl) hE)
theorem s_dstore {i : Nat} {v : UInt64} (hd : decode (yC y) pc = .ok (.dstore i, 2)) (hn : i + 1 < yL y) (k : zS l G y fr lo bc bs (pc + 2) (zp2 ls i (.double v)) st M Q) : zS l G y fr lo bc bs pc ls (.double v :: st) M Q := by
  intro p e R s m args below meth c H locs cells slots X la F hc hs hW hl hE
  exact lv_dstore F.1 F.2.1 hd hl hn rfl (fun la hl => k p e R s m args below meth c H locs cells slots X la F hc hs hW (zp2_has hl) hE)
theorem s_dstore_n {i : Fin 4} {v : UInt64} (hd : decode (yC y) pc = .ok (.dstore_n i, 1)) (hn : (i : Nat) + 1 < yL y) (k : zS l G y fr lo bc bs (pc + 1) (zp2 ls i (.double v)) st M Q) : zS l G y fr lo bc bs pc ls (.double v :: st) M Q := by
  intro p e R s m args below meth c H locs cells slots X la F hc hs hW hl hE
  exact lv_dstore_n F.1 F.2.1 hd rfl hl hn rfl (fun la hl => k p e R s m args below meth c H locs cells slots X la F hc hs hW (zp2_has hl) hE)
theorem s_iinc {i : Nat} {n : Int} {v r : Int32} (hd : decode (yC y) pc = .ok (.iinc i n, 3)) (hn : i < yL y) (hv : ls[i]? = some (some (.int v))) (hr : v + Int32.ofInt n = r) (k : zS l G y fr lo bc bs (pc + 3) (zp1 ls i (.int r)) st M Q) : zS l G y fr lo bc bs pc ls st M Q := by
  intro p e R s m args below meth c H locs cells slots X la F hc hs hW hl hE
  obtain ⟨j, hj⟩ := List.getElem?_of_mem (show (i, Value.int v) ∈ zll G ls from zll_mem.mpr ⟨.int v, hv, rfl⟩)
  exact lv_iinc F.1 F.2.1 hd hl hj hr hn rfl (fun la hl => k p e R s m args below meth c H locs cells slots X la F hc hs hW (zp1_has hl) hE)
theorem s_dupi {v : Int32} (hd : decode (yC y) pc = .ok (.dup, 1)) (k : zS l G y fr lo bc bs (pc + 1) ls (.int v :: .int v :: st) M Q) : zS l G y fr lo bc bs pc ls (.int v :: st) M Q := by
  intro p e R s m args below meth c H locs cells slots X la F hc hs hW hl hE
  exact lv_dup F.1 F.2.1 hd rfl (k p e R s m args below meth c H locs cells slots X la F hc hs hW hl hE)
theorem s_dupr {v : Nat} (hd : decode (yC y) pc = .ok (.dup, 1)) (k : zS l G y fr lo bc bs (pc + 1) ls (.ref v :: .ref v :: st) M Q) : zS l G y fr lo bc bs pc ls (.ref v :: st) M Q := by
  intro p e R s m args below meth c H locs cells slots X la F hc hs hW hl hE
  exact lv_dup F.1 F.2.1 hd rfl (k p e R s m args below meth c H locs cells slots X la F hc hs hW hl hE)
theorem s_popi {v : Int32} (hd : decode (yC y) pc = .ok (.pop, 1)) (k : zS l G y fr lo bc bs (pc + 1) ls (st) M Q) : zS l G y fr lo bc bs pc ls (.int v :: st) M Q := by
  intro p e R s m args below meth c H locs cells slots X la F hc hs hW hl hE
  exact lv_pop F.1 F.2.1 hd rfl (k p e R s m args below meth c H locs cells slots X la F hc hs hW hl hE)
theorem s_popr {v : Nat} (hd : decode (yC y) pc = .ok (.pop, 1)) (k : zS l G y fr lo bc bs (pc + 1) ls (st) M Q) : zS l G y fr lo bc bs pc ls (.ref v :: st) M Q := by
  intro p e R s m args below meth c H locs cells slots X la F hc hs hW hl hE
  exact lv_pop F.1 F.2.1 hd rfl (k p e R s m args below meth c H locs cells slots X la F hc hs hW hl hE)
theorem s_dup2ir {v : Int32} {a : Nat} (hd : decode (yC y) pc = .ok (.dup2, 1)) (k : zS l G y fr lo bc bs (pc + 1) ls (.int v :: .ref a :: .int v :: .ref a :: st) M Q) : zS l G y fr lo bc bs pc ls (.int v :: .ref a :: st) M Q := by
  intro p e R s m args below meth c H locs cells slots X la F hc hs hW hl hE
  exact lv_dup2_11 F.1 F.2.1 hd rfl rfl (k p e R s m args below meth c H locs cells slots X la F hc hs hW hl hE)
theorem s_dup2l {v : Int64} (hd : decode (yC y) pc = .ok (.dup2, 1)) (k : zS l G y fr lo bc bs (pc + 1) ls (.long v :: .long v :: st) M Q) : zS l G y fr lo bc bs pc ls (.long v :: st) M Q := by
  intro p e R s m args below meth c H locs cells slots X la F hc hs hW hl hE
  exact lv_dup2_2 F.1 F.2.1 hd rfl (k p e R s m args below meth c H locs cells slots X la F hc hs hW hl hE)
theorem s_goto {off : Int} (t : Nat) (hd : decode (yC y) pc = .ok (.goto off, 3)) (ht : (pc : Int) + off = (t : Int)) (k : zS l G y fr lo bc bs t ls st M Q) : zS l G y fr lo bc bs pc ls st M Q := by
  intro p e R s m args below meth c H locs cells slots X la F hc hs hW hl hE
  exact lv_goto F.1 F.2.1 hd ht (k p e R s m args below meth c H locs cells slots X la F hc hs hW hl hE)
theorem s_icmp_eq {a b : Int32} {off : Int} (t : Nat) (hd : decode (yC y) pc = .ok (.if_icmp .eq off, 3)) (ht : (pc : Int) + off = (t : Int)) (kt : a = b → zS l G y fr lo bc bs t ls st M Q) (kf : ¬ a = b → zS l G y fr lo bc bs (pc + 3) ls st M Q) : zS l G y fr lo bc bs pc ls (.int b :: .int a :: st) M Q := by
  intro p e R s m args below meth c H locs cells slots X la F hc hs hW hl hE
  exact lv_icmp_eq F.1 F.2.1 hd ht (fun h => kt h p e R s m args below meth c H locs cells slots X la F hc hs hW hl hE) (fun h => kf h p e R s m args below meth c H locs cells slots X la F hc hs hW hl hE)
theorem s_if_eq {a : Int32} {off : Int} (t : Nat) (hd : decode (yC y) pc = .ok (.ifCond .eq off, 3)) (ht : (pc : Int) + off = (t : Int)) (kt : a = 0 → zS l G y fr lo bc bs t ls st M Q) (kf : ¬ a = 0 → zS l G y fr lo bc bs (pc + 3) ls st M Q) : zS l G y fr lo bc bs pc ls (.int a :: st) M Q := by
  intro p e R s m args below meth c H locs cells slots X la F hc hs hW hl hE
  exact lv_if_eq F.1 F.2.1 hd ht (fun h => kt h p e R s m args below meth c H locs cells slots X la F hc hs hW hl hE) (fun h => kf h p e R s m args below meth c H locs cells slots X la F hc hs hW hl hE)
theorem s_icmp_ne {a b : Int32} {off : Int} (t : Nat) (hd : decode (yC y) pc = .ok (.if_icmp .ne off, 3)) (ht : (pc : Int) + off = (t : Int)) (kt : ¬ a = b → zS l G y fr lo bc bs t ls st M Q) (kf : a = b → zS l G y fr lo bc bs (pc + 3) ls st M Q) : zS l G y fr lo bc bs pc ls (.int b :: .int a :: st) M Q := by
  intro p e R s m args below meth c H locs cells slots X la F hc hs hW hl hE
  exact lv_icmp_ne F.1 F.2.1 hd ht (fun h => kt h p e R s m args below meth c H locs cells slots X la F hc hs hW hl hE) (fun h => kf h p e R s m args below meth c H locs cells slots X la F hc hs hW hl hE)
theorem s_if_ne {a : Int32} {off : Int} (t : Nat) (hd : decode (yC y) pc = .ok (.ifCond .ne off, 3)) (ht : (pc : Int) + off = (t : Int)) (kt : ¬ a = 0 → zS l G y fr lo bc bs t ls st M Q) (kf : a = 0 → zS l G y fr lo bc bs (pc + 3) ls st M Q) : zS l G y fr lo bc bs pc ls (.int a :: st) M Q := by
  intro p e R s m args below meth c H locs cells slots X la F hc hs hW hl hE
  exact lv_if_ne F.1 F.2.1 hd ht (fun h => kt h p e R s m args below meth c H locs cells slots X la F hc hs hW hl hE) (fun h => kf h p e R s m args below meth c H locs cells slots X la F hc hs hW hl hE)
theorem s_icmp_lt {a b : Int32} {off : Int} (t : Nat) (hd : decode (yC y) pc = .ok (.if_icmp .lt off, 3)) (ht : (pc : Int) + off = (t : Int)) (kt : a < b → zS l G y fr lo bc bs t ls st M Q) (kf : ¬ a < b → zS l G y fr lo bc bs (pc + 3) ls st M Q) : zS l G y fr lo bc bs pc ls (.int b :: .int a :: st) M Q := by
  intro p e R s m args below meth c H locs cells slots X la F hc hs hW hl hE
  exact lv_icmp_lt F.1 F.2.1 hd ht (fun h => kt h p e R s m args below meth c H locs cells slots X la F hc hs hW hl hE) (fun h => kf h p e R s m args below meth c H locs cells slots X la F hc hs hW hl hE)
theorem s_if_lt {a : Int32} {off : Int} (t : Nat) (hd : decode (yC y) pc = .ok (.ifCond .lt off, 3)) (ht : (pc : Int) + off = (t : Int)) (kt : a < 0 → zS l G y fr lo bc bs t ls st M Q) (kf : ¬ a < 0 → zS l G y fr lo bc bs (pc + 3) ls st M Q) : zS l G y fr lo bc bs pc ls (.int a :: st) M Q := by
  intro p e R s m args below meth c H locs cells slots X la F hc hs hW hl hE
  exact lv_if_lt F.1 F.2.1 hd ht (fun h => kt h p e R s m args below meth c H locs cells slots X la F hc hs hW hl hE) (fun h => kf h p e R s m args below meth c H locs cells slots X la F hc hs hW hl hE)
theorem s_icmp_ge {a b : Int32} {off : Int} (t : Nat) (hd : decode (yC y) pc = .ok (.if_icmp .ge off, 3)) (ht : (pc : Int) + off = (t : Int)) (kt : b ≤ a → zS l G y fr lo bc bs t ls st M Q) (kf : ¬ b ≤ a → zS l G y fr lo bc bs (pc + 3) ls st M Q) : zS l G y fr lo bc bs pc ls (.int b :: .int a :: st) M Q := by
  intro p e R s m args below meth c H locs cells slots X la F hc hs hW hl hE
  exact lv_icmp_ge F.1 F.2.1 hd ht (fun h => kt h p e R s m args below meth c H locs cells slots X la F hc hs hW hl hE) (fun h => kf h p e R s m args below meth c H locs cells slots X la F hc hs hW hl hE)
theorem s_if_ge {a : Int32} {off : Int} (t : Nat) (hd : decode (yC y) pc = .ok (.ifCond .ge off, 3)) (ht : (pc : Int) + off = (t : Int)) (kt : 0 ≤ a → zS l G y fr lo bc bs t ls st M Q) (kf : ¬ 0 ≤ a → zS l G y fr lo bc bs (pc + 3) ls st M Q) : zS l G y fr lo bc bs pc ls (.int a :: st) M Q := by
  intro p e R s m args below meth c H locs cells slots X la F hc hs hW hl hE
  exact lv_if_ge F.1 F.2.1 hd ht (fun h => kt h p e R s m args below meth c H locs cells slots X la F hc hs hW hl hE) (fun h => kf h p e R s m args below meth c H locs cells slots X la F hc hs hW hl hE)
theorem s_icmp_gt {a b : Int32} {off : Int} (t : Nat) (hd : decode (yC y) pc = .ok (.if_icmp .gt off, 3)) (ht : (pc : Int) + off = (t : Int)) (kt : b < a → zS l G y fr lo bc bs t ls st M Q) (kf : ¬ b < a → zS l G y fr lo bc bs (pc + 3) ls st M Q) : zS l G y fr lo bc bs pc ls (.int b :: .int a :: st) M Q := by
  intro p e R s m args below meth c H locs cells slots X la F hc hs hW hl hE
  exact lv_icmp_gt F.1 F.2.1 hd ht (fun h => kt h p e R s m args below meth c H locs cells slots X la F hc hs hW hl hE) (fun h => kf h p e R s m args below meth c H locs cells slots X la F hc hs hW hl hE)
theorem s_if_gt {a : Int32} {off : Int} (t : Nat) (hd : decode (yC y) pc = .ok (.ifCond .gt off, 3)) (ht : (pc : Int) + off = (t : Int)) (kt : 0 < a → zS l G y fr lo bc bs t ls st M Q) (kf : ¬ 0 < a → zS l G y fr lo bc bs (pc + 3) ls st M Q) : zS l G y fr lo bc bs pc ls (.int a :: st) M Q := by
  intro p e R s m args below meth c H locs cells slots X la F hc hs hW hl hE
  exact lv_if_gt F.1 F.2.1 hd ht (fun h => kt h p e R s m args below meth c H locs cells slots X la F hc hs hW hl hE) (fun h => kf h p e R s m args below meth c H locs cells slots X la F hc hs hW hl hE)
theorem s_icmp_le {a b : Int32} {off : Int} (t : Nat) (hd : decode (yC y) pc = .ok (.if_icmp .le off, 3)) (ht : (pc : Int) + off = (t : Int)) (kt : a ≤ b → zS l G y fr lo bc bs t ls st M Q) (kf : ¬ a ≤ b → zS l G y fr lo bc bs (pc + 3) ls st M Q) : zS l G y fr lo bc bs pc ls (.int b :: .int a :: st) M Q := by
  intro p e R s m args below meth c H locs cells slots X la F hc hs hW hl hE
  exact lv_icmp_le F.1 F.2.1 hd ht (fun h => kt h p e R s m args below meth c H locs cells slots X la F hc hs hW hl hE) (fun h => kf h p e R s m args below meth c H locs cells slots X la F hc hs hW hl hE)
theorem s_if_le {a : Int32} {off : Int} (t : Nat) (hd : decode (yC y) pc = .ok (.ifCond .le off, 3)) (ht : (pc : Int) + off = (t : Int)) (kt : a ≤ 0 → zS l G y fr lo bc bs t ls st M Q) (kf : ¬ a ≤ 0 → zS l G y fr lo bc bs (pc + 3) ls st M Q) : zS l G y fr lo bc bs pc ls (.int a :: st) M Q := by
  intro p e R s m args below meth c H locs cells slots X la F hc hs hW hl hE
  exact lv_if_le F.1 F.2.1 hd ht (fun h => kt h p e R s m args below meth c H locs cells slots X la F hc hs hW hl hE) (fun h => kf h p e R s m args below meth c H locs cells slots X la F hc hs hW hl hE)
theorem s_tableIn {d lo' hi : Int} {os : Array Int} {len : Nat} {a : Int32} {off : Int} (t : Nat) (hd : decode (yC y) pc = .ok (.tableswitch d lo' hi os, len)) (h1 : ¬ a.toInt < lo') (h2 : ¬ hi < a.toInt) (ho : os[(a.toInt - lo').toNat]? = some off) (ht : (pc : Int) + off = (t : Int)) (k : zS l G y fr lo bc bs t ls st M Q) : zS l G y fr lo bc bs pc ls (.int a :: st) M Q := by
  intro p e R s m args below meth c H locs cells slots X la F hc hs hW hl hE
  exact lv_tableIn F.1 F.2.1 hd h1 h2 ho ht (k p e R s m args below meth c H locs cells slots X la F hc hs hW hl hE)
theorem s_tableOut {d lo' hi : Int} {os : Array Int} {len : Nat} {a : Int32} (t : Nat) (hd : decode (yC y) pc = .ok (.tableswitch d lo' hi os, len)) (h : a.toInt < lo' ∨ hi < a.toInt) (ht : (pc : Int) + d = (t : Int)) (k : zS l G y fr lo bc bs t ls st M Q) : zS l G y fr lo bc bs pc ls (.int a :: st) M Q := by
  intro p e R s m args below meth c H locs cells slots X la F hc hs hW hl hE
  exact lv_tableOut F.1 F.2.1 hd h ht (k p e R s m args below meth c H locs cells slots X la F hc hs hW hl hE)
theorem s_lookup {d : Int} {ps : Array (Int × Int)} {len : Nat} {a : Int32} {off : Int} (t : Nat) (hd : decode (yC y) pc = .ok (.lookupswitch d ps, len)) (hp : (ps.toList.zip (ps.toList.drop 1)).all (fun (a, next) => a.1 < next.1) = true) (ho : Op.lookupswitch.offset ps.toList d a.toInt = off) (ht : (pc : Int) + off = (t : Int)) (k : zS l G y fr lo bc bs t ls st M Q) : zS l G y fr lo bc bs pc ls (.int a :: st) M Q := by
  intro p e R s m args below meth c H locs cells slots X la F hc hs hW hl hE
  exact lv_lookup F.1 F.2.1 hd hp ho ht (k p e R s m args below meth c H locs cells slots X la F hc hs hW hl hE)
/-- less is asked than there is -/
theorem zS.le {fr' lo' bc' bs' : Nat} (h1 : bc' ≤ bc) (h2 : bs' ≤ bs) (k : zS l G y fr lo bc' bs' pc ls st M Q) : zS l G y fr lo bc bs pc ls st M Q := by
  intro p e R s m args below meth c H locs cells slots X la F hc hs hW hl hE
  exact k p e R s m args below meth c H locs cells slots X la F (by omega) (by omega) hW hl hE
theorem zEx.mono {Q' : zOut → zMem → Prop} {p : Program} {e : Env} {R : Room} {s : State} {m : MethodId} {args : Array Value} {below : List Frame} {meth : Method} {c : Code} {X : State → Prop} (h : zEx l G y fr lo Q p e R s m args below meth c X) (hq : ∀ o M', Q' o M' → Q o M') : zEx l G y fr lo Q' p e R s m args below meth c X :=
  ⟨fun v M' q => h.1 v M' (hq _ _ q), fun x M' q => h.2.1 x M' (hq _ _ q), fun x M' q => h.2.2 x M' (hq _ _ q)⟩
theorem zS.mono {Q' : zOut → zMem → Prop} (k : zS l G y fr lo bc bs pc ls st M Q') (hq : ∀ o M', Q' o M' → Q o M') : zS l G y fr lo bc bs pc ls st M Q := by
  intro p e R s m args below meth c H locs cells slots X la F hc hs hW hl hE
  exact k p e R s m args below meth c H locs cells slots X la F hc hs hW hl (hE.mono hq)
/-- the ends -/
theorem s_ireturn {v : Int32} {ty : FieldType} (hd : decode (yC y) pc = .ok (.ireturn, 1)) (hr : yR y = some ty) (hn : narrow ty (.int v) = .int v) (hq : Q (.inl (some (.int v))) M) : zS l G y fr lo bc bs pc ls [.int v] M Q := by
  intro p e R s m args below meth c H locs cells slots X la F hc hs hW hl hE
  exact hE.1 _ _ hq H locs cells slots pc la (by omega) (by omega) hW ⟨hd, ty, hr, hn⟩
theorem s_lreturn {v : Int64} (hd : decode (yC y) pc = .ok (.lreturn, 1)) (hr : yR y = some .long) (hq : Q (.inl (some (.long v))) M) : zS l G y fr lo bc bs pc ls [.long v] M Q := by
  intro p e R s m args below meth c H locs cells slots X la F hc hs hW hl hE
  exact hE.1 _ _ hq H locs cells slots pc la (by omega) (by omega) hW ⟨hd, hr⟩
theorem s_dreturn {v : UInt64} (hd : decode (yC y) pc = .ok (.dreturn, 1)) (hr : yR y = some .double) (hq : Q (.inl (some (.double v))) M) : zS l G y fr lo bc bs pc ls [.double v] M Q := by
  intro p e R s m args below meth c H locs cells slots X la F hc hs hW hl hE
  exact hE.1 _ _ hq H locs cells slots pc la (by omega) (by omega) hW ⟨hd, hr⟩
theorem s_freturn {v : UInt32} (hd : decode (yC y) pc = .ok (.freturn, 1)) (hr : yR y = some .float) (hq : Q (.inl (some (.float v))) M) : zS l G y fr lo bc bs pc ls [.float v] M Q := by
  intro p e R s m args below meth c H locs cells slots X la F hc hs hW hl hE
  exact hE.1 _ _ hq H locs cells slots pc la (by omega) (by omega) hW ⟨hd, hr⟩
theorem s_return (hd : decode (yC y) pc = .ok (.return_, 1)) (hr : yR y = none) (hq : Q (.inl none) M) : zS l G y fr lo bc bs pc ls [] M Q := by
  intro p e R s m args below meth c H locs cells slots X la F hc hs hW hl hE
  exact hE.1 _ _ hq H locs cells slots pc la (by omega) (by omega) hW ⟨hd, hr⟩
theorem s_throw {x : Nat} (ht : zthr y fr lo x pc st) (hq : Q (.inr x) (zth M)) (hb : 1 ≤ bc ∧ 6 ≤ bs) : zS l G y fr lo bc bs pc ls st M Q := by
  intro p e R s m args below meth c H locs cells slots X la F hc hs hW hl hE
  exact hE.2.2 _ _ hq H locs cells slots pc la st (by omega) (by omega) hW hl.1 ht
end ZR
end
section
/-! ===== the rules that read and write the world ===== -/
theorem zwf_lt {M : zMem} {a : Nat} (h : zwf M) (hk : zK M a ≠ 0) : a < zT M ∧ a < 1000000 := by
  rcases Nat.lt_or_ge a (zT M) with q | q
  · exact ⟨q, Nat.lt_of_lt_of_le q h.2⟩
  · exact absurd (h.1 a q) hk
theorem zad_in {G : zG} {a : Nat} (h : a < 1000000) : zad G a = gB G + a := by unfold zad; rw [if_pos h]
theorem zWd.cell {G : zG} {M : zMem} {s : State} {H : Heap} {locs : List Loc} {cells : Nat} (h : zWd G M s H locs cells) {a : Nat} (hk : zK M a ≠ 0) : (zW G M)[a]? = some (zad G a, zcl G M a) := by
  obtain ⟨h1, h2⟩ := zwf_lt h.1 hk
  rw [zad_in h2]
  exact zW_get h1
/-- the same shape, other contents of one cell -/
def zsh (M M' : zMem) : Prop := M'.2.2.2 = M.2.2.2
theorem zsh_wf {M M' : zMem} (h : zsh M M') (hw : zwf M) : zwf M' := by
  obtain ⟨a, b, c, d⟩ := M
  obtain ⟨a', b', c', d'⟩ := M'
  have : d' = d := h
  subst this
  exact hw
theorem zsh_T {M M' : zMem} (h : zsh M M') : zT M' = zT M := congrArg (fun q => q.2.2.1) h
theorem zsh_K {M M' : zMem} (h : zsh M M') (a : Nat) : zK M' a = zK M a := congrArg (fun q => q.1 a) h
theorem zsh_N {M M' : zMem} (h : zsh M M') (a : Nat) : zN M' a = zN M a := congrArg (fun q => q.2.1 a) h
theorem zsh_F {M M' : zMem} (h : zsh M M') : zF M' = zF M := congrArg (fun q => q.2.2.2) h
/-- what a cell shows depends on its own contents alone -/
theorem zcl_eq {G : zG} {M M' : zMem} {a : Nat} (h : zsh M M') (h1 : M'.1 a = M.1 a) (h2 : M'.2.1 a = M.2.1 a) (h3 : M'.2.2.1 a = M.2.2.1 a) : zcl G M' a = zcl G M a := by
  have e1 : zI M' a = zI M a := h1
  have e2 : zJ M' a = zJ M a := h2
  have e3 : zR M' a = zR M a := h3
  have e4 : ∀ ci, zfl G M' ci a = zfl G M ci a := fun ci => List.map_congr_left fun k _ => by unfold zfv; rw [e1, e2, e3]
  unfold zcl
  rw [zsh_K h, zsh_N h, e1, e2, e3, e4]
theorem zWd.put {G : zG} {M M' : zMem} {s : State} {H H1 : Heap} {locs locs1 : List Loc} {cells : Nat} (h : zWd G M s H locs cells) (hs : zsh M M') {a : Nat} {e : va_E} (ha : a < 1000000) (he : zcl G M' a = e) (ho : ∀ c, c ≠ a → M'.1 c = M.1 c ∧ M'.2.1 c = M.2.1 c ∧ M'.2.2.1 c = M.2.2.1 c)
    (hP : va_P (gD G) vwCl ((zW G M).set a (zad G a, e)) H1) (hS : va_S (zA G) s.heap H1 locs1) : zWd G M' s H1 locs1 cells := by
  obtain ⟨h1, h2, h3, h5⟩ := h
  refine ⟨zsh_wf hs h1, ?_, hS, fun q => by rw [zsh_T hs]; exact h5 (by rw [← zsh_F hs]; exact q)⟩
  rw [zad_in ha, zW_set (M' := M') (zsh_T hs) he fun c hc => zcl_eq hs (ho c hc).1 (ho c hc).2.1 (ho c hc).2.2] at hP
  exact hP
theorem zfl_len {G : zG} {M : zMem} {ci a : Nat} : (zfl G M ci a).length = znf ci := by simp [zfl]
theorem zfl_at {G : zG} {M : zMem} {ci a k : Nat} (h : k < znf ci) : (zfl G M ci a)[k]? = some (zfv G M ci a k) := by simp [zfl, h]
theorem zfl_set {G : zG} {M M' : zMem} {ci a k : Nat} {v : Value} (hv : zfv G M' ci a k = v) (ho : ∀ j, j ≠ k → zfv G M' ci a j = zfv G M ci a j) : (zfl G M ci a).set k v = zfl G M' ci a := by
  apply List.ext_getElem?
  intro j
  by_cases hj : j = k
  · subst hj
    by_cases hl : j < znf ci
    · rw [List.getElem?_set_self (by rw [zfl_len]; exact hl), zfl_at hl, hv]
    · rw [List.getElem?_eq_none (by rw [List.length_set, zfl_len]; omega), List.getElem?_eq_none (by rw [zfl_len]; omega)]
  · rw [List.getElem?_set_ne (Ne.symm hj)]
    by_cases hl : j < znf ci
    · rw [zfl_at hl, zfl_at hl, ho j hj]
    · rw [List.getElem?_eq_none (by rw [zfl_len]; omega), List.getElem?_eq_none (by rw [zfl_len]; omega)]
theorem zcl_obj {G : zG} {M : zMem} {ci a : Nat} (h : zK M a = ci + 1) (hc : ci < 10) : zcl G M a = .inr (ci, zfl G M ci a) := by
  unfold zcl; rw [h, if_pos (by omega), Nat.add_sub_cancel]
theorem zcl_I {G : zG} {M : zMem} {a : Nat} (h : zK M a = 11) : zcl G M a = .inl (gC G 0, zN M a, .inl (zI M a)) := by
  unfold zcl; rw [h]; rfl
theorem zcl_J {G : zG} {M : zMem} {a : Nat} (h : zK M a = 12) : zcl G M a = .inl (gC G 1, zN M a, .inr (.inl (zJ M a))) := by
  unfold zcl; rw [h]; rfl
theorem zcl_Z {G : zG} {M : zMem} {a : Nat} (h : zK M a = 13) : zcl G M a = .inl (gC G 2, zN M a, .inl (zI M a)) := by
  unfold zcl; rw [h]; rfl
theorem zcl_R {G : zG} {M : zMem} {a j : Nat} (h : zK M a = 14 + j) : zcl G M a = .inl (gC G (3 + j), zN M a, .inr (.inr (.inr (.inr (fun k => (zR M a k).map (zad G)))))) := by
  unfold zcl; rw [h, if_neg (by omega), if_neg (by omega), if_neg (by omega), if_neg (by omega), show 14 + j - 11 = 3 + j by omega]
/-- a class of the world: its name, its fields, how many -/
def zCl (ci : Nat) : vw_C := vwCl.getD ci (RX0, TX0, 10)
/-- the words of a field by a pool entry: class ci, field k -/
def zfw (own : String) (i ci k : Nat) : Prop :=
  ci < 10 ∧ k < znf ci ∧ (∀ w ∈ u_ws (zCl ci).1 (zCl ci).2.1 (zCl ci).2.2, w ∈ zGW) ∧ vwCl[ci]? = some (zCl ci) ∧ (zCl ci).2.2 = znf ci ∧ Cond.fieldLink own i ((zCl ci).2.1 k).1 ((zCl ci).2.1 k).2.1 ((zCl ci).2.1 k).2.2.1 ∈ zGW
/-- .. and that it may be written -/
def zpw (ci k : Nat) (ty : FieldType) (fin : Bool) : Prop :=
  (∃ ty0 : Nat → FieldType, ∀ j, j < znf ci → parseFieldDescriptor ((zCl ci).2.1 j).2.2.1 = some (ty0 j)) ∧ (∀ a, a < znf ci → ∀ b, b < znf ci → a ≠ b → ((zCl ci).2.1 a).2.1 ≠ ((zCl ci).2.1 b).2.1) ∧ ((zCl ci).2.1 k).2.2.2 = fin ∧ parseFieldDescriptor ((zCl ci).2.1 k).2.2.1 = some ty
section ZM
variable {l : Launch} {G : zG} {y : zMD} {fr lo bc bs pc : Nat} {ls : List (Option Value)} {st : List Value} {M : zMem} {Q : zOut → zMem → Prop}
theorem s_getv {i ci k a : Nat} {v : Value} (hd : decode (yC y) pc = .ok (.getfield i, 3)) (hw : zfw (yN y).cls i ci k) (hK : zK M a = ci + 1) (hv : zfv G M ci a k = zv G v)
    (kk : zS l G y fr lo bc bs (pc + 3) ls (v :: st) M Q) : zS l G y fr lo bc bs pc ls (.ref a :: st) M Q := by
  intro p e R s m args below meth c H locs cells slots X la F hc hs hW hl hE
  obtain ⟨w1, w2, w3, w4, w5, w6⟩ := hw
  have hcell := hW.cell (a := a) (by rw [hK]; omega)
  rw [zcl_obj hK w1] at hcell
  exact va_get (ref := ((zCl ci).2.1 k).1) F.1 F.2.1 F.2.2.2.2.1 w3 F.2.2.2.1 F.2.2.2.2.2.2.2.2.2.2.2.2.1 hW.2.1 a hcell w4 k (by rw [w5]; exact w2) (F.2.2.2.2.1 _ w6) (fun x h => h) (by rw [zfl_at w2, hv]) hd (kk p e R s m args below meth c H locs cells slots X la F hc hs hW hl hE)
theorem s_getI {i ci k a : Nat} (hd : decode (yC y) pc = .ok (.getfield i, 3)) (hw : zfw (yN y).cls i ci k) (ht : zfty ci k = 0) (hK : zK M a = ci + 1)
    (kk : zS l G y fr lo bc bs (pc + 3) ls (.int (zI M a k) :: st) M Q) : zS l G y fr lo bc bs pc ls (.ref a :: st) M Q :=
  s_getv hd hw hK (v := .int (zI M a k)) (by unfold zfv; rw [ht]; rfl) kk
theorem s_getJ {i ci k a : Nat} (hd : decode (yC y) pc = .ok (.getfield i, 3)) (hw : zfw (yN y).cls i ci k) (ht : zfty ci k = 1) (hK : zK M a = ci + 1)
    (kk : zS l G y fr lo bc bs (pc + 3) ls (.long (zJ M a k) :: st) M Q) : zS l G y fr lo bc bs pc ls (.ref a :: st) M Q :=
  s_getv hd hw hK (v := .long (zJ M a k)) (by unfold zfv; rw [ht]; rfl) kk
theorem s_getR {i ci k a r : Nat} (hd : decode (yC y) pc = .ok (.getfield i, 3)) (hw : zfw (yN y).cls i ci k) (ht : zfty ci k = 2) (hK : zK M a = ci + 1) (hr : zR M a k = some r)
    (kk : zS l G y fr lo bc bs (pc + 3) ls (.ref r :: st) M Q) : zS l G y fr lo bc bs pc ls (.ref a :: st) M Q :=
  s_getv hd hw hK (v := .ref r) (by unfold zfv; rw [ht, hr]; rfl) kk
theorem s_putv {i ci k a : Nat} {v : Value} {M' : zMem} {ty : FieldType} (hd : decode (yC y) pc = .ok (.putfield i, 3)) (hw : zfw (yN y).cls i ci k) (hp : zpw ci k ty false) (hK : zK M a = ci + 1) (hn : narrow ty (zv G v) = zv G v) (hf : fits ty (zv G v) = true)
    (hs : zsh M M') (hv : zfv G M' ci a k = zv G v) (ho : ∀ j, j ≠ k → zfv G M' ci a j = zfv G M ci a j) (hc : ∀ c, c ≠ a → M'.1 c = M.1 c ∧ M'.2.1 c = M.2.1 c ∧ M'.2.2.1 c = M.2.2.1 c)
    (kk : zS l G y fr lo bc bs (pc + 3) ls st M' Q) : zS l G y fr lo bc bs pc ls (v :: .ref a :: st) M Q := by
  intro p e R s m args below meth c H locs cells slots X la F hc1 hs1 hW hl hE
  obtain ⟨w1, w2, w3, w4, w5, w6⟩ := hw
  obtain ⟨⟨ty0, p1⟩, p2, p3, p4⟩ := hp
  have hne : zK M a ≠ 0 := by rw [hK]; omega
  have hcell := hW.cell hne
  rw [zcl_obj hK w1] at hcell
  refine va_put (ref := ((zCl ci).2.1 k).1) F.1 F.2.1 F.2.2.2.2.1 w3 ty0 (by rw [w5]; exact p1) (by rw [w5]; exact p2) F.2.2.2.1 F.2.2.2.2.2.2.2.2.2.2.2.2.1 hW.2.1 zW_D hW.2.2.1 a hcell w4 k (by rw [w5]; exact w2) (F.2.2.2.2.1 _ w6) (fun x h => h) p3 p4 hn hf (by rw [zfl_len]; exact w2) hd
    (fun H1 locs1 hP1 hD1 hS1 => ?_)
  rw [zfl_set (M' := M') hv ho] at hP1
  exact kk p e R s m args below meth c H1 locs1 cells slots X la F hc1 hs1 (hW.put hs (zwf_lt hW.1 hne).2 (by rw [zcl_obj (by rw [zsh_K hs]; exact hK) w1]) hc hP1 hS1) hl hE
theorem zu_same {α : Type} {f : Nat → Nat → α} {a k : Nat} {v : α} : zu f a k v a k = v := by simp [zu]
theorem zu_ne {α : Type} {f : Nat → Nat → α} {a k b : Nat} {v : α} (h : b ≠ a) : zu f a k v b = f b := by simp [zu, h]
theorem zu_nk {α : Type} {f : Nat → Nat → α} {a k j : Nat} {v : α} (h : j ≠ k) : zu f a k v a j = f a j := by simp [zu, h]
theorem zu_row {α : Type} (f : Nat → Nat → α) (a k : Nat) (v : α) : zu f a k v a = fun j => if j = k then v else f a j := by funext j; simp [zu]
theorem s_putI {i ci k a : Nat} {v : Int32} (hd : decode (yC y) pc = .ok (.putfield i, 3)) (hw : zfw (yN y).cls i ci k) (ht : zfty ci k = 0) (hp : zpw ci k .int false) (hK : zK M a = ci + 1)
    (kk : zS l G y fr lo bc bs (pc + 3) ls st (zsI M a k v) Q) : zS l G y fr lo bc bs pc ls (.int v :: .ref a :: st) M Q := by
  refine s_putv (M' := zsI M a k v) hd hw hp hK rfl rfl rfl ?_ (fun j hj => ?_) (fun c hc => ⟨zu_ne hc, rfl, rfl⟩) kk
  · unfold zfv; rw [ht]; show Value.int (zu M.1 a k v a k) = _; rw [zu_same]; rfl
  · unfold zfv
    have e : zI (zsI M a k v) a j = zI M a j := zu_nk hj
    rw [e]; rfl
theorem s_putJ {i ci k a : Nat} {v : Int64} (hd : decode (yC y) pc = .ok (.putfield i, 3)) (hw : zfw (yN y).cls i ci k) (ht : zfty ci k = 1) (hp : zpw ci k .long false) (hK : zK M a = ci + 1)
    (kk : zS l G y fr lo bc bs (pc + 3) ls st (zsJ M a k v) Q) : zS l G y fr lo bc bs pc ls (.long v :: .ref a :: st) M Q := by
  refine s_putv (M' := zsJ M a k v) hd hw hp hK rfl rfl rfl ?_ (fun j hj => ?_) (fun c hc => ⟨rfl, zu_ne hc, rfl⟩) kk
  · unfold zfv; rw [ht]; show Value.long (zu M.2.1 a k v a k) = _; rw [zu_same]; rfl
  · unfold zfv
    have e : zJ (zsJ M a k v) a j = zJ M a j := zu_nk hj
    rw [e]; rfl
/-- a final reference field, in a constructor -/
theorem s_putRF {i ci k a v : Nat} {ty : FieldType} (hd : decode (yC y) pc = .ok (.putfield i, 3)) (hw : zfw (yN y).cls i ci k) (ht : zfty ci k = 2) (hp : zpw ci k ty true) (hin : (yN y).name = "<init>") (hdc : ((zCl ci).2.1 k).1 = (yN y).cls) (hn : ∀ r, narrow ty (.ref r) = .ref r) (hf : ∀ r, fits ty (.ref r) = true) (hK : zK M a = ci + 1)
    (kk : zS l G y fr lo bc bs (pc + 3) ls st (zsR M a k (some v)) Q) : zS l G y fr lo bc bs pc ls (.ref v :: .ref a :: st) M Q := by
  intro p e R s m args below meth c H locs cells slots X la F hc1 hs1 hW hl hE
  obtain ⟨w1, w2, w3, w4, w5, w6⟩ := hw
  obtain ⟨⟨ty0, p1⟩, p2, p3, p4⟩ := hp
  have hne : zK M a ≠ 0 := by rw [hK]; omega
  have hcell := hW.cell hne
  rw [zcl_obj hK w1] at hcell
  refine va_putF (ref := ((zCl ci).2.1 k).1) F.1 F.2.1 F.2.2.2.2.1 w3 ty0 (by rw [w5]; exact p1) (by rw [w5]; exact p2) F.2.2.2.1 F.2.2.2.2.2.2.2.2.2.2.2.2.1 hW.2.1 zW_D hW.2.2.1 a hcell w4 k (by rw [w5]; exact w2) (F.2.2.2.2.1 _ w6) (fun x h => h) p3 (F.2.2.2.2.2.2.2.1.trans hin) hdc p4 (hn _) (hf _) (by rw [zfl_len]; exact w2) hd
    (fun H1 locs1 hP1 hD1 hS1 => ?_)
  have hs : zsh M (zsR M a k (some v)) := rfl
  have hv : zfv G (zsR M a k (some v)) ci a k = zv G (.ref v) := by
    unfold zfv
    have e : zR (zsR M a k (some v)) a k = some v := zu_same
    rw [ht, e]; rfl
  have ho : ∀ j, j ≠ k → zfv G (zsR M a k (some v)) ci a j = zfv G M ci a j := fun j hj => by
    unfold zfv
    have e : zR (zsR M a k (some v)) a j = zR M a j := zu_nk hj
    rw [e]; rfl
  rw [zfl_set (M' := zsR M a k (some v)) hv ho] at hP1
  exact kk p e R s m args below meth c H1 locs1 cells slots X la F hc1 hs1 (hW.put hs (zwf_lt hW.1 hne).2 (by rw [zcl_obj (by rw [zsh_K hs]; exact hK) w1]) (fun c hc => ⟨rfl, rfl, zu_ne hc⟩) hP1 hS1) hl hE
/-- rows -/
theorem s_iaload {a : Nat} {i : Int32} (hd : decode (yC y) pc = .ok (.iaload, 1)) (hK : zK M a = 11) (hi : vp_in i (zN M a))
    (kk : zS l G y fr lo bc bs (pc + 1) ls (.int (zI M a i.toNatClampNeg) :: st) M Q) : zS l G y fr lo bc bs pc ls (.int i :: .ref a :: st) M Q := by
  intro p e R s m args below meth c H locs cells slots X la F hc1 hs1 hW hl hE
  have hcell := hW.cell (a := a) (by rw [hK]; omega)
  rw [zcl_I hK] at hcell
  exact va_iald F.1 F.2.1 F.2.2.2.2.2.2.2.2.2.2.2.2.1 hW.2.1 a 0 hcell rfl hi hd (kk p e R s m args below meth c H locs cells slots X la F hc1 hs1 hW hl hE)
theorem s_laload {a : Nat} {i : Int32} (hd : decode (yC y) pc = .ok (.laload, 1)) (hK : zK M a = 12) (hi : vp_in i (zN M a))
    (kk : zS l G y fr lo bc bs (pc + 1) ls (.long (zJ M a i.toNatClampNeg) :: st) M Q) : zS l G y fr lo bc bs pc ls (.int i :: .ref a :: st) M Q := by
  intro p e R s m args below meth c H locs cells slots X la F hc1 hs1 hW hl hE
  have hcell := hW.cell (a := a) (by rw [hK]; omega)
  rw [zcl_J hK] at hcell
  exact va_lald F.1 F.2.1 F.2.2.2.2.2.2.2.2.2.2.2.2.1 hW.2.1 a 1 hcell rfl hi hd (kk p e R s m args below meth c H locs cells slots X la F hc1 hs1 hW hl hE)
theorem s_baload {a : Nat} {i : Int32} (hd : decode (yC y) pc = .ok (.baload, 1)) (hK : zK M a = 13) (hi : vp_in i (zN M a))
    (kk : zS l G y fr lo bc bs (pc + 1) ls (.int (zI M a i.toNatClampNeg) :: st) M Q) : zS l G y fr lo bc bs pc ls (.int i :: .ref a :: st) M Q := by
  intro p e R s m args below meth c H locs cells slots X la F hc1 hs1 hW hl hE
  have hcell := hW.cell (a := a) (by rw [hK]; omega)
  rw [zcl_Z hK] at hcell
  exact va_zald F.1 F.2.1 F.2.2.2.2.2.2.2.2.2.2.2.2.1 hW.2.1 a 2 hcell rfl hi hd (kk p e R s m args below meth c H locs cells slots X la F hc1 hs1 hW hl hE)
theorem zty_R {G : zG} {j : Nat} (h : j < 3) : ∃ C : String, (zty G)[3 + j]? = some (gC G (3 + j), .object C) := by
  rcases (show j = 0 ∨ j = 1 ∨ j = 2 by omega) with rfl | rfl | rfl
  · exact ⟨_, rfl⟩
  · exact ⟨_, rfl⟩
  · exact ⟨_, rfl⟩
theorem s_aaload {a j r : Nat} {i : Int32} (hd : decode (yC y) pc = .ok (.aaload, 1)) (hj : j < 3) (hK : zK M a = 14 + j) (hi : vp_in i (zN M a)) (hr : zR M a i.toNatClampNeg = some r)
    (kk : zS l G y fr lo bc bs (pc + 1) ls (.ref r :: st) M Q) : zS l G y fr lo bc bs pc ls (.int i :: .ref a :: st) M Q := by
  intro p e R s m args below meth c H locs cells slots X la F hc1 hs1 hW hl hE
  have hcell := hW.cell (a := a) (by rw [hK]; omega)
  rw [zcl_R hK] at hcell
  obtain ⟨C, hC⟩ := zty_R (G := G) hj
  refine va_aldq F.1 F.2.1 F.2.2.2.2.2.2.2.2.2.2.2.2.1 hW.2.1 a (3 + j) hcell hC hi hd ?_
  rw [hr]
  exact kk p e R s m args below meth c H locs cells slots X la F hc1 hs1 hW hl hE
theorem s_iastore {a : Nat} {i x : Int32} (hd : decode (yC y) pc = .ok (.iastore, 1)) (hK : zK M a = 11) (hi : vp_in i (zN M a))
    (kk : zS l G y fr lo bc bs (pc + 1) ls st (zsI M a i.toNatClampNeg x) Q) : zS l G y fr lo bc bs pc ls (.int x :: .int i :: .ref a :: st) M Q := by
  intro p e R s m args below meth c H locs cells slots X la F hc1 hs1 hW hl hE
  have hne : zK M a ≠ 0 := by rw [hK]; omega
  have hcell := hW.cell hne
  rw [zcl_I hK] at hcell
  refine va_iast F.1 F.2.1 F.2.2.2.2.2.2.2.2.2.2.2.2.1 hW.2.1 zW_D hW.2.2.1 a 0 hcell rfl hi hd (fun H1 locs1 hP1 hD1 hS1 => ?_)
  have e9 : zI (zsI M a i.toNatClampNeg x) a = upd (zI M a) i.toNatClampNeg x := zu_row _ _ _ _
  exact kk p e R s m args below meth c H1 locs1 cells slots X la F hc1 hs1 (hW.put rfl (zwf_lt hW.1 hne).2 (by rw [zcl_I (by exact hK), e9]; rfl) (fun c hc => ⟨zu_ne hc, rfl, rfl⟩) hP1 hS1) hl hE
theorem s_lastore {a : Nat} {i : Int32} {x : Int64} (hd : decode (yC y) pc = .ok (.lastore, 1)) (hK : zK M a = 12) (hi : vp_in i (zN M a))
    (kk : zS l G y fr lo bc bs (pc + 1) ls st (zsJ M a i.toNatClampNeg x) Q) : zS l G y fr lo bc bs pc ls (.long x :: .int i :: .ref a :: st) M Q := by
  intro p e R s m args below meth c H locs cells slots X la F hc1 hs1 hW hl hE
  have hne : zK M a ≠ 0 := by rw [hK]; omega
  have hcell := hW.cell hne
  rw [zcl_J hK] at hcell
  refine va_last F.1 F.2.1 F.2.2.2.2.2.2.2.2.2.2.2.2.1 hW.2.1 zW_D hW.2.2.1 a 1 hcell rfl hi hd (fun H1 locs1 hP1 hD1 hS1 => ?_)
  have e9 : zJ (zsJ M a i.toNatClampNeg x) a = vp_updL (zJ M a) i.toNatClampNeg x := zu_row _ _ _ _
  exact kk p e R s m args below meth c H1 locs1 cells slots X la F hc1 hs1 (hW.put rfl (zwf_lt hW.1 hne).2 (by rw [zcl_J (by exact hK), e9]; rfl) (fun c hc => ⟨rfl, zu_ne hc, rfl⟩) hP1 hS1) hl hE
theorem s_bastore {a : Nat} {i x : Int32} (hd : decode (yC y) pc = .ok (.bastore, 1)) (hK : zK M a = 13) (hi : vp_in i (zN M a)) (hx : vp_nar .boolean x = x)
    (kk : zS l G y fr lo bc bs (pc + 1) ls st (zsI M a i.toNatClampNeg x) Q) : zS l G y fr lo bc bs pc ls (.int x :: .int i :: .ref a :: st) M Q := by
  intro p e R s m args below meth c H locs cells slots X la F hc1 hs1 hW hl hE
  have hne : zK M a ≠ 0 := by rw [hK]; omega
  have hcell := hW.cell hne
  rw [zcl_Z hK] at hcell
  refine va_zast F.1 F.2.1 F.2.2.2.2.2.2.2.2.2.2.2.2.1 hW.2.1 zW_D hW.2.2.1 a 2 hcell rfl hi hd (fun H1 locs1 hP1 hD1 hS1 => ?_)
  rw [hx] at hP1
  have e9 : zI (zsI M a i.toNatClampNeg x) a = upd (zI M a) i.toNatClampNeg x := zu_row _ _ _ _
  exact kk p e R s m args below meth c H1 locs1 cells slots X la F hc1 hs1 (hW.put rfl (zwf_lt hW.1 hne).2 (by rw [zcl_Z (by exact hK), e9]; rfl) (fun c hc => ⟨zu_ne hc, rfl, rfl⟩) hP1 hS1) hl hE
theorem s_aastore {a j v ci : Nat} {i : Int32} (hd : decode (yC y) pc = .ok (.aastore, 1)) (hK : zK M a = 14 + j) (hv : zK M v = ci + 1) (hci : ci < 10) (hcl : vwCl[ci]? = some (zCl ci)) (hty : ∀ G : zG, (zty G)[3 + j]? = some (gC G (3 + j), .object (zCl ci).1)) (hi : vp_in i (zN M a))
    (kk : zS l G y fr lo bc bs (pc + 1) ls st (zsR M a i.toNatClampNeg (some v)) Q) : zS l G y fr lo bc bs pc ls (.ref v :: .int i :: .ref a :: st) M Q := by
  intro p e R s m args below meth c H locs cells slots X la F hc1 hs1 hW hl hE
  have hne : zK M a ≠ 0 := by rw [hK]; omega
  have hcell := hW.cell hne
  rw [zcl_R hK] at hcell
  have hcv := hW.cell (a := v) (by rw [hv]; omega)
  rw [zcl_obj hv hci] at hcv
  refine va_astq F.1 F.2.1 F.2.2.2.2.2.2.2.2.2.2.2.2.1 hW.2.1 zW_D hW.2.2.1 a (3 + j) v ci hcell (hty G) hcv hcl hi hd (fun H1 locs1 hP1 hD1 hS1 => ?_)
  have e9 : (fun k => (zR (zsR M a i.toNatClampNeg (some v)) a k).map (zad G)) = va_up (fun k => (zR M a k).map (zad G)) i.toNatClampNeg (some (zad G v)) := by
    funext k
    have e1 : zR (zsR M a i.toNatClampNeg (some v)) a = fun k => if k = i.toNatClampNeg then some v else zR M a k := zu_row _ _ _ _
    rw [e1]
    unfold va_up
    by_cases hk : k = i.toNatClampNeg
    · simp [hk]
    · simp [hk]
  exact kk p e R s m args below meth c H1 locs1 cells slots X la F hc1 hs1 (hW.put rfl (zwf_lt hW.1 hne).2 (by rw [zcl_R (j := j) (by exact hK), e9]; rfl) (fun c hc => ⟨rfl, rfl, zu_ne hc⟩) hP1 hS1) hl hE
theorem s_null_aastore : True := trivial
end ZM
end
section
/-! ===== making cells ===== -/
theorem zWd.low {G : zG} {M : zMem} {s : State} {H : Heap} {locs : List Loc} {cells : Nat} (h : zWd G M s H locs cells) (hb : gB G ≤ s.heap.size) : gB G + zT M ≤ H.size := by
  obtain ⟨h1, h2, h3, h4⟩ := h
  rcases Nat.eq_zero_or_pos (zT M) with q | q
  · rw [q]; exact Nat.le_trans hb h3.1
  · have h5 := (h2 (zT M - 1) _ (zW_get (by omega))).lt
    have h6 : gB G + (zT M - 1) < H.size := h5
    omega
theorem znw_wf {M : zMem} {kd n : Nat} (h : zwf M) (ht : zT M < 1000000) : zwf (znw M kd n) := by
  refine ⟨fun a ha => ?_, ht⟩
  have ha' : zT M + 1 ≤ a := ha
  show (if a = zT M then kd else zK M a) = 0
  rw [if_neg (by omega)]
  exact h.1 a (by omega)
theorem znw_cl {G : zG} {M : zMem} {kd n c : Nat} (h : c < zT M) : zcl G (znw M kd n) c = zcl G M c := by
  have hne : c ≠ zT M := by omega
  have e0 : zK (znw M kd n) c = zK M c := if_neg hne
  have e4 : zN (znw M kd n) c = zN M c := if_neg hne
  have e1 : zI (znw M kd n) c = zI M c := if_neg hne
  have e2 : zJ (znw M kd n) c = zJ M c := if_neg hne
  have e3 : zR (znw M kd n) c = zR M c := if_neg hne
  have e5 : ∀ ci, zfl G (znw M kd n) ci c = zfl G M ci c := fun ci => List.map_congr_left fun k _ => by unfold zfv; rw [e1, e2, e3]
  unfold zcl
  rw [e0, e1, e2, e3, e4, e5]
theorem zWd.push {G : zG} {M : zMem} {s : State} {H H1 : Heap} {locs : List Loc} {cells kd n : Nat} (h : zWd G M s H locs cells) (hb : gB G ≤ s.heap.size) (hf : zF M = 0) (hup : H.size ≤ s.heap.size + cells) (ht : zT M < 1000000)
    (hz : H1.size = H.size + 1) (ho : ∀ q, q < H.size → H1[q]? = H[q]?) (hc : va_at (gD G) vwCl (gB G + zT M, zcl G (znw M kd n) (zT M)) H1) : H.size = zad G (zT M) ∧ zWd G (znw M kd n) s H1 locs (cells + 1) := by
  have hlow := h.low hb
  obtain ⟨h1, h2, h3, h4⟩ := h
  have h5 := h4 hf
  refine ⟨by rw [zad_in ht]; omega, znw_wf h1 ht, ?_, ⟨by have := h3.1; omega, fun q q1 q2 => (ho q (Nat.lt_of_lt_of_le q1 h3.1)).trans (h3.2.1 q q1 q2), h3.2.2⟩, fun _ => ?_⟩
  · rw [← zW_push (G := G) (M := M) (M' := znw M kd n) (e := zcl G (znw M kd n) (zT M)) rfl rfl (fun c hc => znw_cl hc)]
    refine (h2.kept (fun k x hx => ho x.1 ((h2 k x hx).lt))).app (fun k x hx => ?_)
    have hk : k < 1 := (List.getElem?_eq_some_iff.mp hx).1
    rw [show k = 0 by omega] at hx
    cases hx
    exact hc
  · show s.heap.size + (cells + 1) ≤ gB G + (zT M + 1)
    omega
theorem znw_K {M : zMem} {kd n : Nat} : zK (znw M kd n) (zT M) = kd := if_pos rfl
theorem znw_N {M : zMem} {kd n : Nat} : zN (znw M kd n) (zT M) = n := if_pos rfl
theorem znw_I {M : zMem} {kd n k : Nat} : zI (znw M kd n) (zT M) k = 0 := by show zur M.1 (zT M) _ (zT M) k = 0; unfold zur; rw [if_pos rfl]
theorem znw_J {M : zMem} {kd n k : Nat} : zJ (znw M kd n) (zT M) k = 0 := by show zur M.2.1 (zT M) _ (zT M) k = 0; unfold zur; rw [if_pos rfl]
theorem znw_R {M : zMem} {kd n k : Nat} : zR (znw M kd n) (zT M) k = none := by show zur M.2.2.1 (zT M) _ (zT M) k = none; unfold zur; rw [if_pos rfl]
section ZN
variable {l : Launch} {G : zG} {y : zMD} {fr lo bc bs pc : Nat} {ls : List (Option Value)} {st : List Value} {M : zMem} {Q : zOut → zMem → Prop}
/-- what is needed for 'new' of class ci -/
def znk (own : String) (i ci : Nat) : Prop :=
  ci < 10 ∧ (∀ w ∈ u_ws (zCl ci).1 (zCl ci).2.1 (zCl ci).2.2, w ∈ zGW) ∧ vwCl[ci]? = some (zCl ci) ∧ (zCl ci).2.2 = znf ci ∧ Cond.classLink own i (zCl ci).1 ∈ zGW ∧ Cond.instantiable (zCl ci).1 (znf ci) ∈ zGW ∧ Cond.initialized (zCl ci).1 ∈ zGW ∧
  ∃ ty : Nat → FieldType, (∀ j, j < znf ci → parseFieldDescriptor ((zCl ci).2.1 j).2.2.1 = some (ty j)) ∧ ∀ j, j < znf ci → defaultValue (ty j) = (match zfty ci j with | 0 => .int 0 | 1 => .long 0 | _ => .null)
theorem s_new {i ci : Nat} (hd : decode (yC y) pc = .ok (.new i, 3)) (hw : znk (yN y).cls i ci) (hf : zF M = 0) (ht : zT M < 1000000)
    (kk : zS l G y fr lo bc bs (pc + 3) ls (.ref (zT M) :: st) (znw M (ci + 1) 0) Q) : zS l G y fr lo (bc + 1) (bs + znf ci) pc ls st M Q := by
  intro p e R s m args below meth c H locs cells slots X la F hc1 hs1 hW hl hE T hT XX
  have hup : H.size ≤ s.heap.size + cells := by rw [← hT]; exact XX.heapSize
  suffices hh : W p l e R s m args below meth c H locs cells slots X (F0 m pc la (List.map (zv G) st)) from hh T hT XX
  obtain ⟨w1, w3, w4, w5, w6, w7, w8, ty, p1, p2⟩ := hw
  have hK := F.2.2.2.2.2.2.2.2.2.2.2.2.1
  have hKn := hK.1 ci _ w4
  have hb : gB G ≤ s.heap.size := F.2.2.2.2.2.2.2.2.2.2.2.2.2.2.2.2.2.2.1
  refine W.newcK F.1 F.2.1 F.2.2.2.1 (F.2.2.2.2.1 _ w6) (F.2.2.2.2.1 _ w7) (F.2.2.2.2.1 _ w8) rfl hd (by omega) (by omega) hKn.2.1 rfl (fun H1 kC hkC e1 z1 o1 => ?_)
  have hat : va_at (gD G) vwCl (gB G + zT M, zcl G (znw M (ci + 1) 0) (zT M)) H1 := by
    rw [zcl_obj znw_K w1]
    refine ⟨_, w4, ?_⟩
    have e2 : gB G + zT M = H.size := by
      have := hW.low hb
      have := hW.2.2.2 hf
      omega
    show t_OB (gB G + zT M) _ _ _ H1 _
    rw [e2]
    refine (u_born ty F.2.2.2.2.1 w3 hKn hkC e1 (by rw [w5]; exact p1)).to (fun j hj => ?_)
    rw [w5] at hj
    rw [p2 j hj]
    show _ = (zfl G (znw M (ci + 1) 0) ci (zT M)).getD j .null
    rw [List.getD_eq_getElem?_getD, zfl_at hj]
    unfold zfv
    rw [znw_I, znw_J, znw_R]
    rfl
  obtain ⟨e3, hW1⟩ := hW.push hb hf hup ht z1 o1 hat
  have k2 := kk p e R s m args below meth c H1 locs (cells + 1) (slots + znf ci) X la F (by omega) (by omega) hW1 hl hE
  rw [e3]
  exact k2
theorem zrow_cls {G : zG} {s : State} {k : Nat} {cA : ClassId} {ty : FieldType} (hK : va_K (gD G) vwCl (zty G) s) (hk : (zty G)[k]? = some (gC G k, ty)) (hp : ∀ C, ty ≠ .object C) (hn : s.vm.findClass ("[" ++ ty.toString) = some cA) : cA = gC G k := by
  have h := (hK.2 k _ hk).2
  have h2 : s.vm.findClass ("[" ++ ty.toString) = some (gC G k) := by
    cases ty with
    | object C => exact absurd rfl (hp C)
    | _ => exact h
  exact Option.some.inj (hn.symm.trans h2)
theorem s_newI {n : Int32} {N : Nat} (hd : decode (yC y) pc = .ok (.newarray .int, 2)) (hw : Cond.arrayClass .int ∈ zGW) (hn : ¬ n < 0) (hN : n.toNatClampNeg = N) (hb4 : N ≤ 100000) (hf : zF M = 0) (ht : zT M < 1000000)
    (kk : zS l G y fr lo bc bs (pc + 2) ls (.ref (zT M) :: st) (znw M 11 N) Q) : zS l G y fr lo (bc + 1) (bs + N) pc ls (.int n :: st) M Q := by
  intro p e R s m args below meth c H locs cells slots X la F hc1 hs1 hW hl hE T hT XX
  have hup : H.size ≤ s.heap.size + cells := by rw [← hT]; exact XX.heapSize
  suffices hh : W p l e R s m args below meth c H locs cells slots X (F0 m pc la (List.map (zv G) (.int n :: st))) from hh T hT XX
  have hK := F.2.2.2.2.2.2.2.2.2.2.2.2.1
  have hb : gB G ≤ s.heap.size := F.2.2.2.2.2.2.2.2.2.2.2.2.2.2.2.2.2.2.1
  refine va_newaK (atype := .int) F.1 F.2.1 (F.2.2.2.2.1 _ hw) rfl hd rfl hn hN (by show N * 4 ≤ _; omega) (by omega) (by omega) rfl (fun H1 cA e1 z1 o1 hAr hNm => ?_)
  have hcA := zrow_cls hK (k := 0) rfl (fun C h => by cases h) hNm
  subst hcA
  have hat : va_at (gD G) vwCl (gB G + zT M, zcl G (znw M 11 N) (zT M)) H1 := by
    rw [zcl_I znw_K]
    have e2 : gB G + zT M = H.size := by
      have := hW.low hb
      have := hW.2.2.2 hf
      omega
    show H1[gB G + zT M]? = some (vp_cell _ _)
    rw [e2, e1, znw_N, vp_cell_i]
    congr 2
    funext k
    rw [znw_I]; rfl
  obtain ⟨e3, hW1⟩ := hW.push hb hf hup ht z1 o1 hat
  have k2 := kk p e R s m args below meth c H1 locs (cells + 1) (slots + N) X la F (by omega) (by omega) hW1 hl hE
  rw [e3]
  exact k2
theorem s_newJ {n : Int32} {N : Nat} (hd : decode (yC y) pc = .ok (.newarray .long, 2)) (hw : Cond.arrayClass .long ∈ zGW) (hn : ¬ n < 0) (hN : n.toNatClampNeg = N) (hb4 : N ≤ 100000) (hf : zF M = 0) (ht : zT M < 1000000)
    (kk : zS l G y fr lo bc bs (pc + 2) ls (.ref (zT M) :: st) (znw M 12 N) Q) : zS l G y fr lo (bc + 1) (bs + N) pc ls (.int n :: st) M Q := by
  intro p e R s m args below meth c H locs cells slots X la F hc1 hs1 hW hl hE T hT XX
  have hup : H.size ≤ s.heap.size + cells := by rw [← hT]; exact XX.heapSize
  suffices hh : W p l e R s m args below meth c H locs cells slots X (F0 m pc la (List.map (zv G) (.int n :: st))) from hh T hT XX
  have hK := F.2.2.2.2.2.2.2.2.2.2.2.2.1
  have hb : gB G ≤ s.heap.size := F.2.2.2.2.2.2.2.2.2.2.2.2.2.2.2.2.2.2.1
  refine va_newaK (atype := .long) F.1 F.2.1 (F.2.2.2.2.1 _ hw) rfl hd rfl hn hN (by show N * 8 ≤ _; omega) (by omega) (by omega) rfl (fun H1 cA e1 z1 o1 hAr hNm => ?_)
  have hcA := zrow_cls hK (k := 1) rfl (fun C h => by cases h) hNm
  subst hcA
  have hat : va_at (gD G) vwCl (gB G + zT M, zcl G (znw M 12 N) (zT M)) H1 := by
    rw [zcl_J znw_K]
    have e2 : gB G + zT M = H.size := by
      have := hW.low hb
      have := hW.2.2.2 hf
      omega
    show H1[gB G + zT M]? = some (vp_cell _ _)
    rw [e2, e1, znw_N, vp_cell_l]
    congr 2
    funext k
    rw [znw_J]; rfl
  obtain ⟨e3, hW1⟩ := hW.push hb hf hup ht z1 o1 hat
  have k2 := kk p e R s m args below meth c H1 locs (cells + 1) (slots + N) X la F (by omega) (by omega) hW1 hl hE
  rw [e3]
  exact k2
theorem s_newZ {n : Int32} {N : Nat} (hd : decode (yC y) pc = .ok (.newarray .boolean, 2)) (hw : Cond.arrayClass .boolean ∈ zGW) (hn : ¬ n < 0) (hN : n.toNatClampNeg = N) (hb4 : N ≤ 100000) (hf : zF M = 0) (ht : zT M < 1000000)
    (kk : zS l G y fr lo bc bs (pc + 2) ls (.ref (zT M) :: st) (znw M 13 N) Q) : zS l G y fr lo (bc + 1) (bs + N) pc ls (.int n :: st) M Q := by
  intro p e R s m args below meth c H locs cells slots X la F hc1 hs1 hW hl hE T hT XX
  have hup : H.size ≤ s.heap.size + cells := by rw [← hT]; exact XX.heapSize
  suffices hh : W p l e R s m args below meth c H locs cells slots X (F0 m pc la (List.map (zv G) (.int n :: st))) from hh T hT XX
  have hK := F.2.2.2.2.2.2.2.2.2.2.2.2.1
  have hb : gB G ≤ s.heap.size := F.2.2.2.2.2.2.2.2.2.2.2.2.2.2.2.2.2.2.1
  refine va_newaK (atype := .boolean) F.1 F.2.1 (F.2.2.2.2.1 _ hw) rfl hd rfl hn hN (by show N * 1 ≤ _; omega) (by omega) (by omega) rfl (fun H1 cA e1 z1 o1 hAr hNm => ?_)
  have hcA := zrow_cls hK (k := 2) rfl (fun C h => by cases h) hNm
  subst hcA
  have hat : va_at (gD G) vwCl (gB G + zT M, zcl G (znw M 13 N) (zT M)) H1 := by
    rw [zcl_Z znw_K]
    have e2 : gB G + zT M = H.size := by
      have := hW.low hb
      have := hW.2.2.2 hf
      omega
    show H1[gB G + zT M]? = some (vp_cell _ _)
    rw [e2, e1, znw_N, vp_cell_i]
    congr 2
    funext k
    rw [znw_I]; rfl
  obtain ⟨e3, hW1⟩ := hW.push hb hf hup ht z1 o1 hat
  have k2 := kk p e R s m args below meth c H1 locs (cells + 1) (slots + N) X la F (by omega) (by omega) hW1 hl hE
  rw [e3]
  exact k2
theorem s_anew {n : Int32} {N i j : Nat} {C : String} (hd : decode (yC y) pc = .ok (.anewarray i, 3)) (hw : Cond.classLink (yN y).cls i C ∈ zGW) (ho : Cond.arrayOver (.object C) ∈ zNW) (hty : ∀ G : zG, (zty G)[3 + j]? = some (gC G (3 + j), .object C)) (hn : ¬ n < 0) (hN : n.toNatClampNeg = N) (hb4 : N ≤ 100000) (hf : zF M = 0) (ht : zT M < 1000000)
    (kk : zS l G y fr lo bc bs (pc + 3) ls (.ref (zT M) :: st) (znw M (14 + j) N) Q) : zS l G y fr lo (bc + 1) (bs + N) pc ls (.int n :: st) M Q := by
  intro p e R s m args below meth c H locs cells slots X la F hc1 hs1 hW hl hE T hT XX
  have hup : H.size ≤ s.heap.size + cells := by rw [← hT]; exact XX.heapSize
  suffices hh : W p l e R s m args below meth c H locs cells slots X (F0 m pc la (List.map (zv G) (.int n :: st))) from hh T hT XX
  have hK := F.2.2.2.2.2.2.2.2.2.2.2.2.1
  have hb : gB G ≤ s.heap.size := F.2.2.2.2.2.2.2.2.2.2.2.2.2.2.2.2.2.2.1
  have hov : va_AO C s := F.2.2.2.2.2.2.2.2.2.2.2.2.2.1 _ ho
  subst hN
  refine W.anew F.1 F.2.1 F.2.2.2.1 (F.2.2.2.2.1 _ hw) (va_AO.use hov) rfl hd rfl hn (by omega) (by omega) (by omega) (fun cA kA comp f1 f2 f3 f4 => ?_)
  have hcA : cA = gC G (3 + j) := by
    obtain ⟨-, -, -, -, -, h4⟩ := (hK.2 (3 + j) _ (hty G)).2
    exact Option.some.inj (f1.symm.trans h4)
  subst hcA
  generalize hH1 : H.push ({ cls := gC G (3 + j), slots := Array.replicate n.toNatClampNeg .null, vm := .none } : Cell) = H1
  have z1 : H1.size = H.size + 1 := by rw [← hH1, Array.size_push]
  have e1 : H1[H.size]? = some (arrV (gC G (3 + j)) n.toNatClampNeg (fun _ => .null)) := by rw [← hH1, Array.getElem?_push_size, ← arrV_new]
  have o1 : ∀ q : Nat, q < H.size → H1[q]? = H[q]? := fun q hq => by rw [← hH1, Array.getElem?_push, if_neg (Nat.ne_of_lt hq)]
  have hat : va_at (gD G) vwCl (gB G + zT M, zcl G (znw M (14 + j) n.toNatClampNeg) (zT M)) H1 := by
    rw [zcl_R (j := j) znw_K]
    have e2 : gB G + zT M = H.size := by
      have := hW.low hb
      have := hW.2.2.2 hf
      omega
    show H1[gB G + zT M]? = some (vp_cell _ _)
    rw [e2, e1, znw_N, vp_cell_q]
    congr 2
    funext k
    rw [znw_R]; rfl
  obtain ⟨e3, hW1⟩ := hW.push hb hf hup ht z1 o1 hat
  have k2 := kk p e R s m args below meth c H1 locs (cells + 1) (slots + n.toNatClampNeg) X la F (by omega) (by omega) hW1 hl hE
  rw [e3]
  exact k2
/-- System.arraycopy of ints -/
theorem s_copyi {i a a0 : Nat} {sp dp n : Int32} (hd : decode (yC y) pc = .ok (.invokestatic i, 3)) (hw : Cond.methodLink (yN y).cls i arraycopyName ∈ zGW) (hnat : Cond.native arraycopyName ∈ zGW) (hstat : Cond.static arraycopyName ∈ zGW) (hini : Cond.initialized "java/lang/System" ∈ zGW)
    (hK0 : zK M a0 = 11) (hK1 : zK M a = 11) (h1 : ¬ sp < 0) (h2 : ¬ dp < 0) (h3 : ¬ n < 0) (h4 : sp.toNatClampNeg + n.toNatClampNeg ≤ zN M a0) (h5 : dp.toNatClampNeg + n.toNatClampNeg ≤ zN M a) (hfr : 1 ≤ fr) (hlo : (st.map fun v => v.category).sum + 18 ≤ lo)
    (kk : zS l G y fr lo bc bs (pc + 3) ls st (zsA M a (va_cpy (zI M a0) (zI M a) sp.toNatClampNeg dp.toNatClampNeg n.toNatClampNeg)) Q) : zS l G y fr lo bc bs pc ls (.int n :: .int dp :: .ref a :: .int sp :: .ref a0 :: st) M Q := by
  intro p e R s m args below meth c H locs cells slots X la F hc1 hs1 hW hl hE
  have hne : zK M a ≠ 0 := by rw [hK1]; omega
  have hc0 := hW.cell (a := a0) (by rw [hK0]; omega)
  rw [zcl_I hK0] at hc0
  have hcA := hW.cell hne
  rw [zcl_I hK1] at hcA
  have hcat : ((st.map (zv G)).map fun v => v.category) = st.map fun v => v.category := by rw [List.map_map]; exact List.map_congr_left fun v _ => zv_cat G v
  have hfrR := F.2.2.2.2.2.2.2.2.2.1
  have hloR := F.2.2.2.2.2.2.2.2.2.2.1
  refine va_copyi F.1 F.2.1 (F.2.2.1.trans hl.1.symm) F.2.2.2.1 (F.2.2.2.2.1 _ hw) (F.2.2.2.2.1 _ hnat) (F.2.2.2.2.1 _ hstat) (F.2.2.2.2.1 _ hini) F.2.2.2.2.2.2.2.2.2.2.2.2.1 hW.2.1 zW_D hW.2.2.1 a0 a 0 0 (ty := .int) hc0 hcA rfl rfl rfl h1 h2 h3 h4 h5 (fun _ _ => rfl) (by omega) (by
    rw [hcat]
    have : nativeFrameWords "java/lang/System" "arraycopy" 5 = 7 := by decide
    omega) hd (fun H1 locs1 hP1 hD1 hS1 => ?_)
  have e9 : zI (zsA M a (va_cpy (zI M a0) (zI M a) sp.toNatClampNeg dp.toNatClampNeg n.toNatClampNeg)) a = va_cpy (zI M a0) (zI M a) sp.toNatClampNeg dp.toNatClampNeg n.toNatClampNeg := if_pos rfl
  exact kk p e R s m args below meth c H1 locs1 cells slots X la F hc1 hs1 (hW.put rfl (zwf_lt hW.1 hne).2 (by rw [zcl_I (by exact hK1), e9]; rfl) (fun c hc => ⟨if_neg hc, rfl, rfl⟩) hP1 hS1) hl hE
/-- a literal -/
theorem s_ldcS {i k : Nat} {tx : String} (hd : decode (yC y) pc = .ok (.ldc i, 2)) (hw : ((yN y).cls, i, tx, k) ∈ zLR) (hk : k < 6)
    (kk : zS l G y fr lo bc bs (pc + 2) ls (.ref (1000000 + k) :: st) M Q) : zS l G y fr lo bc bs pc ls st M Q := by
  intro p e R s m args below meth c H locs cells slots X la F hc1 hs1 hW hl hE
  refine va_ldcS F.1 F.2.1 F.2.2.2.1 (F.2.2.2.2.2.2.2.2.2.2.2.2.2.2.1 _ hw) hd ?_
  have e9 : gS G k = zad G (1000000 + k) := by
    unfold zad
    rw [if_neg (by omega), if_pos (by omega), Nat.add_sub_cancel_left]
  rw [e9]
  exact kk p e R s m args below meth c H locs cells slots X la F hc1 hs1 hW hl hE
/-- Object's own constructor -/
theorem s_objInit {i a : Nat} (hd : decode (yC y) pc = .ok (.invokespecial i, 3)) (hw : Cond.methodLink (yN y).cls i Lib.objectInit ∈ zGW) (hin : Cond.instanceMethod Lib.objectInit ∈ zGW) (hcd : Cond.code Lib.objectInit ⟨#[0xb1]⟩ 1 none ∈ zGW) (hfr : 1 ≤ fr) (hlo : (st.map fun v => v.category).sum + 12 ≤ lo)
    (kk : zS l G y fr lo bc bs (pc + 3) ls st M Q) : zS l G y fr lo bc bs pc ls (.ref a :: st) M Q := by
  intro p e R s m args below meth c H locs cells slots X la F hc1 hs1 hW hl hE
  have hcat : ((st.map (zv G)).map fun v => v.category) = st.map fun v => v.category := by rw [List.map_map]; exact List.map_congr_left fun v _ => zv_cat G v
  have hfrR := F.2.2.2.2.2.2.2.2.2.1
  have hloR := F.2.2.2.2.2.2.2.2.2.2.1
  exact W.objInit F.1 F.2.1 F.2.2.2.1 (F.2.2.2.2.1 _ hw) (F.2.2.2.2.1 _ hin) (F.2.2.2.2.1 _ hcd) rfl (hl.1.trans F.2.2.1.symm) rfl hd (by omega) (by show 2 * 0 + _ + 12 ≤ _; rw [hcat]; omega) (kk p e R s m args below meth c H locs cells slots X la F hc1 hs1 hW hl hE)
end ZN
end
section
/-! ===== contracts ===== -/
/-- a method's words: its code, and the good words of the tables -/
def zws (y : zMD) : List Cond := Cond.code (yN y) (yC y) (yL y) (yR y) :: zGW
def zwsH (y : zMD) : List Cond := Cond.codeWith (yN y) (yC y) (yL y) (yR y) (yH y) :: zGW
def zrm (fr lo mc ms : Nat) : Room := { frames := fr, cells := mc, slots := ms, locals := lo }
/-- a method's start: its arguments, the world -/
def zPc (G : zG) (as : List Value) (M : zMem) : Array Value → State → Prop := fun v U => v = (as.map (zv G)).toArray ∧ zCx G U U.heap ∧ zwf M ∧ va_P (gD G) vwCl (zW G M) U.heap ∧ (zF M = 0 → U.heap.size ≤ gB G + zT M)
/-- its end by a return -/
def zQr (G : zG) (M : zMem) (mc : Nat) (Q : zOut → zMem → Prop) : Array Value → State → Outcome → State → Prop := fun _ st oc t =>
  (∃ (v : Option Value) (M' : zMem), oc = .returned (v.map (zv G)) ∧ Q (.inl v) M' ∧ zwf M' ∧ va_P (gD G) vwCl (zW G M') t.heap ∧ (zF M' = 0 → zF M = 0 ∧ zT M + mc ≤ zT M')) ∧ va_F (zA G) st t
/-- .. by a throw -/
def zXc (G : zG) (Q : zOut → zMem → Prop) : String → State → State → Prop := fun E st t =>
  (∃ (x : Nat) (M' : zMem), E = zXn x ∧ Q (.inr x) M' ∧ zwf M' ∧ va_P (gD G) vwCl (zW G M') t.heap ∧ zF M' ≠ 0) ∧ va_F (zA G) st t
/-- a contract of a method that returns -/
def zCm (l : Launch) (G : zG) (y : zMD) (fr lo mc ms : Nat) (as : List Value) (M : zMem) (Q : zOut → zMem → Prop) : Prop :=
  Met l (yN y) (zws y) (zrm fr lo mc ms) (zPc G as M) (zQr G M mc Q) mc ms (zA G)
/-- .. that has a table of handlers -/
def zCh (l : Launch) (G : zG) (y : zMD) (fr lo mc ms : Nat) (as : List Value) (M : zMem) (Q : zOut → zMem → Prop) : Prop :=
  Met l (yN y) (zwsH y) (zrm fr lo mc ms) (zPc G as M) (zQr G M mc Q) mc ms (zA G)
/-- .. of a method that returns or throws -/
def zCx2 (l : Launch) (G : zG) (y : zMD) (fr lo mc ms : Nat) (as : List Value) (M : zMem) (Q : zOut → zMem → Prop) : Prop :=
  vx_Met l (yN y) (zws y) (zrm fr lo mc ms) (zPc G as M) (zQr G M mc Q) (zXc G Q) mc ms (zA G)
theorem zPc_blind {G : zG} {as : List Value} {M : zMem} : FrameBlind (zPc G as M) := by
  intro a U g mk h
  obtain ⟨h1, h2, h3, h4, h5⟩ := h
  exact ⟨h1, h2.same rfl, h3, h4, h5⟩
theorem zGW_good : ∀ w ∈ zGW, w ∈ zGW ∧ ((w.onTables && w.keeps) = true ∨ ∃ ty, w = .arrayClass ty) := fun w h => ⟨h, (zGW_in h).2⟩
/-- the locals at a method's entry -/
def zea : List Value → List (Option Value)
  | [] => []
  | .long x :: t => some (.long x) :: none :: zea t
  | .double x :: t => some (.double x) :: none :: zea t
  | v :: t => some v :: zea t
def zen (n : Nat) (as : List Value) : List (Option Value) := zea as ++ List.replicate (n - (zea as).length) none
theorem zea_args (G : zG) : ∀ (as : List Value) (i : Nat), lv_args i (as.map (zv G)) = zlc i ((zea as).map (Option.map (zv G)))
  | [], i => rfl
  | .long x :: t, i => by
    show (i, _) :: lv_args (i + 2) _ = (i, _) :: zlc (i + 1 + 1) _
    rw [zea_args G t (i + 2)]
  | .double x :: t, i => by
    show (i, _) :: lv_args (i + 2) _ = (i, _) :: zlc (i + 1 + 1) _
    rw [zea_args G t (i + 2)]
  | .int x :: t, i => by
    show (i, _) :: lv_args (i + 1) _ = (i, _) :: zlc (i + 1) _
    rw [zea_args G t (i + 1)]
  | .float x :: t, i => by
    show (i, _) :: lv_args (i + 1) _ = (i, _) :: zlc (i + 1) _
    rw [zea_args G t (i + 1)]
  | .ref x :: t, i => by
    show (i, _) :: lv_args (i + 1) _ = (i, _) :: zlc (i + 1) _
    rw [zea_args G t (i + 1)]
  | .null :: t, i => by
    show (i, _) :: lv_args (i + 1) _ = (i, _) :: zlc (i + 1) _
    rw [zea_args G t (i + 1)]
  | .retAddr x :: t, i => by
    show (i, _) :: lv_args (i + 1) _ = (i, _) :: zlc (i + 1) _
    rw [zea_args G t (i + 1)]
theorem zlc_app (a : List (Option Value)) : ∀ (i n : Nat), zlc i (a ++ List.replicate n none) = zlc i a := by
  induction a with
  | nil =>
    intro i n
    induction n generalizing i with
    | zero => rfl
    | succ n ih => rw [List.nil_append, List.replicate_succ, zlc]; exact ih (i + 1)
  | cons x t ih =>
    intro i n
    cases x with
    | none => rw [List.cons_append, zlc, zlc]; exact ih (i + 1) n
    | some v => rw [List.cons_append, zlc, zlc, ih (i + 1) n]
theorem zll_en (G : zG) (n : Nat) (as : List Value) : zll G (zen n as) = lv_args 0 (as.map (zv G)) := by
  rw [zea_args]
  unfold zll zen
  rw [List.map_append, List.map_replicate]
  exact zlc_app _ _ _
theorem zsl_len (G : zG) : ∀ as : List Value, (lg_sl (as.map (zv G))).length = (zea as).length
  | [] => rfl
  | .long x :: t => by show (_ ++ lg_sl (t.map (zv G))).length = _; rw [List.length_append, zsl_len G t]; show 2 + _ = _ + 1 + 1; omega
  | .double x :: t => by show (_ ++ lg_sl (t.map (zv G))).length = _; rw [List.length_append, zsl_len G t]; show 2 + _ = _ + 1 + 1; omega
  | .int x :: t => by show (_ ++ lg_sl (t.map (zv G))).length = _; rw [List.length_append, zsl_len G t]; show 1 + _ = _ + 1; omega
  | .float x :: t => by show (_ ++ lg_sl (t.map (zv G))).length = _; rw [List.length_append, zsl_len G t]; show 1 + _ = _ + 1; omega
  | .ref x :: t => by show (_ ++ lg_sl (t.map (zv G))).length = _; rw [List.length_append, zsl_len G t]; show 1 + _ = _ + 1; omega
  | .null :: t => by show (_ ++ lg_sl (t.map (zv G))).length = _; rw [List.length_append, zsl_len G t]; show 1 + _ = _ + 1; omega
  | .retAddr x :: t => by show (_ ++ lg_sl (t.map (zv G))).length = _; rw [List.length_append, zsl_len G t]; show 1 + _ = _ + 1; omega
section ZC
variable {l : Launch} {G : zG} {y : zMD} {fr lo mc ms : Nat} {as : List Value} {M : zMem} {Q : zOut → zMem → Prop} {ls0 : List (Option Value)}
theorem zret_row {p : Program} {e : Env} {R : Room} {s : State} {m : MethodId} {args : Array Value} {below : List Frame} {meth : Method} {c : Code} {H : Heap} {locs : List Loc} {pc : Nat} {la : Array Slot} {v : Option Value} {M' : zMem}
    (F : zFix l G y fr lo p R s m args meth c) (hM : ∀ v M', Q (.inl v) M' → zF M' = 0 → zF M = 0 ∧ zT M + mc ≤ zT M') (hq : Q (.inl v) M') (hW : zWd G M' s H locs mc) (hz : zrets y pc v) :
    W p l e R s m args below meth c H locs mc ms (MQ below (zQr G M mc Q) args s mc ms (zA G)) (F0 m pc la (v.toList.map (zv G))) := by
  have hq0 : ∀ t : State, t.heap = H → zQr G M mc Q args s (.returned (v.map (zv G))) t := fun t ht => ⟨⟨v, M', rfl, hq, hW.1, by rw [ht]; exact hW.2.1, hM v M' hq⟩, hW.2.2.1.F ht⟩
  have hlocks := F.2.2.2.2.2.1
  have hr := F.2.2.2.2.2.2.1
  cases v with
  | none => exact W.vret F.1 F.2.1 (hr.trans hz.2) (fun t ht _ => hq0 t ht) (fun q h => hW.2.2.1.2.2 q h) hz.1 hlocks
  | some v =>
    cases v with
    | int x =>
      obtain ⟨h1, ty, h2, h3⟩ := hz
      exact W.zret F.1 F.2.1 (hr.trans h2) h3 (fun t ht _ => hq0 t ht) (fun q h => hW.2.2.1.2.2 q h) h1 hlocks
    | long x => exact W.lret F.1 F.2.1 (hr.trans hz.2) (fun t ht _ => hq0 t ht) (fun q h => hW.2.2.1.2.2 q h) hz.1 hlocks
    | float x => exact W.fret F.1 F.2.1 (hr.trans hz.2) (fun t ht _ => hq0 t ht) (fun q h => hW.2.2.1.2.2 q h) hz.1 hlocks
    | double x => exact W.dret F.1 F.2.1 (hr.trans hz.2) (fun t ht _ => hq0 t ht) (fun q h => hW.2.2.1.2.2 q h) hz.1 hlocks
    | null => exact hz.elim
    | ref x => exact hz.elim
    | retAddr x => exact hz.elim
theorem zWd.widen {s : State} {H : Heap} {locs : List Loc} {cells cells' : Nat} {M' : zMem} (h : zWd G M' s H locs cells) (h2 : zF M' = 0 → s.heap.size + cells' ≤ gB G + zT M') : zWd G M' s H locs cells' := ⟨h.1, h.2.1, h.2.2.1, h2⟩
theorem zWd.th {s : State} {H : Heap} {locs : List Loc} {cells cells' : Nat} {M' : zMem} (h : zWd G M' s H locs cells) : zWd G (zth M') s H locs cells' := ⟨h.1, h.2.1, h.2.2.1, fun h => by cases h⟩
/-- the contract out of the walk from the entry: a method without handlers, that returns or throws -/
theorem zCx2.of (hpn : plainName (yN y).cls = true) (hH : yH y = []) (hl : l.stackTraces = false) (hen : zen (yL y) as = ls0) (hle : (zea as).length ≤ yL y)
    (hM : ∀ v M', Q (.inl v) M' → zF M' = 0 → zF M = 0 ∧ zT M + mc ≤ zT M') (hMx : ∀ x M', Q (.inr x) M' → zF M' ≠ 0)
    (h : zS l G y fr lo mc ms 0 ls0 [] M Q) : zCx2 l G y fr lo mc ms as M Q := by
  refine vx_ofW (cc := yC y) (maxL := yL y) (ret := yR y) hpn rfl ?_
  intro p e s m args below meth c s₁ B hml ht hv
  obtain ⟨rfl, hC, hwf, hP, hcnt⟩ := hv
  have hts0 := atoms_spec (ws := zws y) B.pre
  have hts : ∀ w ∈ zGW, w.before ((as.map (zv G)).toArray) s = true := fun w hw => hts0 w (List.mem_cons_of_mem _ hw)
  have htab : c.exceptionTable.toList = tableOf (yH y) := by
    rw [hH]
    cases hc : c.exceptionTable.toList with
    | nil => rfl
    | cons x t => exact (ht x (by rw [hc]; exact List.mem_cons_self)).elim
  have F : zFix l G y fr lo p (headSpec (zws y) (zrm fr lo mc ms)).room s m ((as.map (zv G)).toArray) meth c :=
    ⟨B.exec, B.bytes, hml, findClass_of_methodNamed B.named, hts, B.notSynchronized, B.returns, (name_of_methodNamed B.named B.method).1, hl, Nat.le_refl fr, Nat.le_refl lo, htab, hC⟩
  rw [lg_entry_eq]
  have hlv := lv_entry (as.map (zv G)) (n := yL y) (by rw [zsl_len]; exact hle)
  generalize (lg_sl (as.map (zv G)) ++ List.replicate (yL y - (lg_sl (as.map (zv G))).length) Slot.unset).toArray = la at hlv ⊢
  have hl0 : lv_has la (yL y) (zll G ls0) := by rw [← hen, zll_en]; exact hlv
  refine h p e _ s m _ below meth c s.heap [] 0 0 _ la F (Nat.le_of_eq (Nat.zero_add mc)) (Nat.le_of_eq (Nat.zero_add ms)) ⟨hwf, hP, va_S.rf, fun hz => by rw [Nat.add_zero]; exact hcnt hz⟩ hl0 ⟨?_, ?_, ?_⟩
  · intro v M' hq H locs cells slots pc la hc hs hW hz
    refine W.widen (k := mc) (n := ms) hc hs (vx_ret ?_)
    refine zret_row F hM hq (hW.widen fun h0 => ?_) hz
    have h1 := hM v M' hq h0
    have h2 := hcnt h1.1
    omega
  · intro x M' hq H locs cells slots pc la st q ce hc hs hW hce hcv hcl hH'
    refine vx_out (fun z hz => (ht z hz).elim) F.2.2.2.2.2.1 hce hcv hcl (fun t ht hA => ⟨⟨x, M', rfl, hq, hW.1, by rw [ht]; exact hW.2.1, hMx x M' hq⟩, hW.2.2.1.F ht⟩) (fun z hz => hW.2.2.1.2.2 z hz) hc hs
  · intro x M' hq H locs cells slots pc la st hc hs hW hla hth
    obtain ⟨ik, ic, d0, d3, d4, d7, w1, w2, -, r1, r2, hx3, hxw⟩ := hth
    have hfit : Bundle.fit (zXn x) = true := by
      rcases (show x = 0 ∨ x = 1 ∨ x = 2 by omega) with rfl | rfl | rfl <;> decide
    have hcat : ((st.map (zv G)).map fun v => v.category) = st.map fun v => v.category := by rw [List.map_map]; exact List.map_congr_left fun v _ => zv_cat G v
    have hwd : ∀ w ∈ vx_at0 (yN y).cls ic (zXn x) zXs, w.before ((as.map (zv G)).toArray) s = true := fun w hw => by
      rcases hxw.2 w hw with h | ⟨h, -⟩
      · exact hts w h
      · have hk := (List.mem_filter.mp h).2
        have hn := hC.2.1 w h
        cases w with
        | methodLinkNest _ _ _ _ => exact va_Nw.use rfl hn
        | castable _ _ => exact va_Nw.use rfl hn
        | declares _ => exact va_Nw.use rfl hn
        | arrayOver ty =>
          cases ty with
          | object C => exact va_AO.use hn
          | _ => cases hk
        | _ => cases hk
    have hot : ∀ w : Cond, w ∈ zGW ∨ (w ∈ zNW ∧ w.onTables = true) → vx_ot w = true := fun w hw => by
      rcases hw with h | ⟨-, h⟩
      · unfold vx_ot
        rw [(List.mem_filter.mp h).2, Bool.or_true]
      · unfold vx_ot
        rw [h, Bool.true_or]
    have hini := hxw.1
    refine vx_throw0 (A := zA G) (names := zXs) (cls := zXn x) F.1 F.2.1 hl F.2.2.2.1 hfit (by decide) (hts _ w1) (hts _ hini) hwd (fun w hw => ?_) hC.2.2.2.2.2.2.2.1 hC.2.2.2.2.2.2.2.2.1 hW.2.2.1 (hla.trans F.2.2.1.symm) d0 d3 d4 d7 (fun z hz => (ht z hz).elim) (by show 2 + 3 < fr; omega) (by show _ + (13 * 3 + 42) ≤ lo; rw [hcat]; omega) hc hs F.2.2.2.2.2.1
      (fun t hA hz hsame => ⟨⟨x, _, rfl, hq, hW.1, hW.2.1.kept (fun k q hk => hsame q.1 ((hW.2.1 k q hk).lt)), fun h => by cases h⟩, ⟨Nat.le_trans hW.2.2.1.1 hz, fun q q1 q2 => (hsame q (Nat.lt_of_lt_of_le q1 hW.2.2.1.1)).trans (hW.2.2.1.2.1 q q1 q2)⟩⟩) (fun z hz => hW.2.2.1.2.2 z hz) hc hs
    rcases List.mem_cons.mp hw with rfl | hw
    · exact hot _ (Or.inl w1)
    · rcases List.mem_cons.mp hw with rfl | hw
      · exact hot _ (Or.inl hini)
      · exact hot _ (hxw.2 w hw)
/-- a contract that throws nothing is one that returns -/
theorem zCm.of2 (h : zCx2 l G y fr lo mc ms as M Q) (hn : ∀ x M', ¬ Q (.inr x) M') : zCm l G y fr lo mc ms as M Q := by
  unfold zCm Met
  unfold zCx2 vx_Met at h
  refine h.mono (fun _ _ h => h) (fun _ _ _ _ _ h => h) (fun a s o t _ hq => ?_)
  rcases hq with hq | ⟨q, -, E, ce, L, ⟨⟨x, M', -, h2, -⟩, -⟩, -⟩
  · exact hq
  · exact absurd h2 (hn x M')
theorem zCm.of (hpn : plainName (yN y).cls = true) (hH : yH y = []) (hl : l.stackTraces = false) (hen : zen (yL y) as = ls0) (hle : (zea as).length ≤ yL y)
    (hM : ∀ v M', Q (.inl v) M' → zF M' = 0 → zF M = 0 ∧ zT M + mc ≤ zT M') (hn : ∀ x M', ¬ Q (.inr x) M')
    (h : zS l G y fr lo mc ms 0 ls0 [] M Q) : zCm l G y fr lo mc ms as M Q :=
  zCm.of2 (zCx2.of hpn hH hl hen hle hM (fun x M' q => absurd q (hn x M')) h) hn
theorem zCh.of (hpn : plainName (yN y).cls = true) (hl : l.stackTraces = false) (hen : zen (yL y) as = ls0) (hle : (zea as).length ≤ yL y)
    (hM : ∀ v M', Q (.inl v) M' → zF M' = 0 → zF M = 0 ∧ zT M + mc ≤ zT M') (hn : ∀ x M', ¬ Q (.inr x) M')
    (h : zS l G y fr lo mc ms 0 ls0 [] M Q) : zCh l G y fr lo mc ms as M Q := by
  have key : vx_Met l (yN y) (zwsH y) (zrm fr lo mc ms) (zPc G as M) (zQr G M mc Q) (fun _ _ _ => False) mc ms (zA G) := by
    refine vx_ofWH (cc := yC y) (maxL := yL y) (ret := yR y) (hh := yH y) hpn rfl ?_
    intro p e s m args below meth c s₁ B hml hv
    obtain ⟨rfl, hC, hwf, hP, hcnt⟩ := hv
    have hts0 := atoms_spec (ws := zwsH y) B.pre
    have hts : ∀ w ∈ zGW, w.before ((as.map (zv G)).toArray) s = true := fun w hw => hts0 w (List.mem_cons_of_mem _ hw)
    have htab : c.exceptionTable.toList = tableOf (yH y) := vx_table (x := yN y) B (hts0 _ List.mem_cons_self)
    have F : zFix l G y fr lo p (headSpec (zwsH y) (zrm fr lo mc ms)).room s m ((as.map (zv G)).toArray) meth c :=
      ⟨B.exec, B.bytes, hml, findClass_of_methodNamed B.named, hts, B.notSynchronized, B.returns, (name_of_methodNamed B.named B.method).1, hl, Nat.le_refl fr, Nat.le_refl lo, htab, hC⟩
    rw [lg_entry_eq]
    have hlv := lv_entry (as.map (zv G)) (n := yL y) (by rw [zsl_len]; exact hle)
    generalize (lg_sl (as.map (zv G)) ++ List.replicate (yL y - (lg_sl (as.map (zv G))).length) Slot.unset).toArray = la at hlv ⊢
    have hl0 : lv_has la (yL y) (zll G ls0) := by rw [← hen, zll_en]; exact hlv
    refine h p e _ s m _ below meth c s.heap [] 0 0 _ la F (Nat.le_of_eq (Nat.zero_add mc)) (Nat.le_of_eq (Nat.zero_add ms)) ⟨hwf, hP, va_S.rf, fun hz => by rw [Nat.add_zero]; exact hcnt hz⟩ hl0 ⟨?_, fun x M' q => absurd q (hn x M'), fun x M' q => absurd q (hn x _)⟩
    intro v M' hq H locs cells slots pc la hc hs hW hz
    refine W.widen (k := mc) (n := ms) hc hs (vx_ret ?_)
    refine zret_row F hM hq (hW.widen fun h0 => ?_) hz
    have h1 := hM v M' hq h0
    have h2 := hcnt h1.1
    omega
  unfold zCh Met
  unfold vx_Met at key
  refine key.mono (fun _ _ h => h) (fun _ _ _ _ _ h => h) (fun a s o t _ hq => ?_)
  rcases hq with hq | ⟨q, -, E, ce, L, hx, -⟩
  · exact hq
  · exact hx.elim
end ZC
end
section
/-! ===== calls ===== -/
/-- a deterministic end -/
def zD (v : Option Value) (M1 : zMem) : zOut → zMem → Prop := fun o M' => o = .inl v ∧ M' = M1
/-- the words of a call: a method of a class of the world, by pool entry i, with n arguments -/
def zcv (own : String) (i : Nat) (z : zMD) (n : Nat) : Prop :=
  Cond.methodLink own i (yN z) ∈ zGW ∧ Cond.instanceMethod (yN z) ∈ zGW ∧ Cond.selects (yN z).cls (yN z) (yN z) ∈ zGW ∧ Cond.initialized (yN z).cls ∈ zGW ∧ Cond.code (yN z) (yC z) (yL z) (yR z) ∈ zGW ∧
  ((yN z).cls ≠ "java/lang/invoke/MethodHandle" ∧ (yN z).cls ≠ "java/lang/invoke/VarHandle" ∧ (parseMethodDescriptor (yN z).desc).map (fun d => d.parameters.length) = some n)
def zcs (own : String) (i : Nat) (z : zMD) (n : Nat) : Prop :=
  Cond.methodLink own i (yN z) ∈ zGW ∧ Cond.static (yN z) ∈ zGW ∧ Cond.initialized (yN z).cls ∈ zGW ∧ Cond.code (yN z) (yC z) (yL z) (yR z) ∈ zGW ∧
  ((yN z).cls ≠ "java/lang/invoke/MethodHandle" ∧ (yN z).cls ≠ "java/lang/invoke/VarHandle" ∧ (parseMethodDescriptor (yN z).desc).map (fun d => d.parameters.length) = some n)
def zcsH (own : String) (i : Nat) (z : zMD) (n : Nat) : Prop :=
  Cond.methodLink own i (yN z) ∈ zGW ∧ Cond.static (yN z) ∈ zGW ∧ Cond.initialized (yN z).cls ∈ zGW ∧ Cond.codeWith (yN z) (yC z) (yL z) (yR z) (yH z) ∈ zGW ∧
  ((yN z).cls ≠ "java/lang/invoke/MethodHandle" ∧ (yN z).cls ≠ "java/lang/invoke/VarHandle" ∧ (parseMethodDescriptor (yN z).desc).map (fun d => d.parameters.length) = some n)
/-- .. of a nest mate's private method -/
def zcsN (own : String) (i : Nat) (z : zMD) (host : String) (n : Nat) : Prop :=
  Cond.methodLinkNest own i (yN z) host ∈ zNW ∧ Cond.static (yN z) ∈ zGW ∧ Cond.initialized (yN z).cls ∈ zGW ∧ Cond.code (yN z) (yC z) (yL z) (yR z) ∈ zGW ∧
  ((yN z).cls ≠ "java/lang/invoke/MethodHandle" ∧ (yN z).cls ≠ "java/lang/invoke/VarHandle" ∧ (parseMethodDescriptor (yN z).desc).map (fun d => d.parameters.length) = some n)
def zci (own : String) (i : Nat) (z : zMD) (n : Nat) : Prop :=
  Cond.methodLink own i (yN z) ∈ zGW ∧ Cond.instanceMethod (yN z) ∈ zGW ∧ Cond.initialized (yN z).cls ∈ zGW ∧ Cond.code (yN z) (yC z) (yL z) none ∈ zGW ∧ yR z = none ∧ (yN z).name = "<init>" ∧
  ((yN z).cls ≠ "java/lang/invoke/MethodHandle" ∧ (yN z).cls ≠ "java/lang/invoke/VarHandle" ∧ (parseMethodDescriptor (yN z).desc).map (fun d => d.parameters.length) = some n)
def zciN (own : String) (i : Nat) (z : zMD) (host : String) (n : Nat) : Prop :=
  Cond.methodLinkNest own i (yN z) host ∈ zNW ∧ Cond.instanceMethod (yN z) ∈ zGW ∧ Cond.initialized (yN z).cls ∈ zGW ∧ Cond.code (yN z) (yC z) (yL z) none ∈ zGW ∧ yR z = none ∧ (yN z).name = "<init>" ∧
  ((yN z).cls ≠ "java/lang/invoke/MethodHandle" ∧ (yN z).cls ≠ "java/lang/invoke/VarHandle" ∧ (parseMethodDescriptor (yN z).desc).map (fun d => d.parameters.length) = some n)
theorem zws_in {z : zMD} (h : Cond.code (yN z) (yC z) (yL z) (yR z) ∈ zGW) : GoodIn zGW (zws z) := by
  intro w hw
  rcases List.mem_cons.mp hw with rfl | hw
  · exact zGW_good _ h
  · exact zGW_good _ hw
theorem zwsH_in {z : zMD} (h : Cond.codeWith (yN z) (yC z) (yL z) (yR z) (yH z) ∈ zGW) : GoodIn zGW (zwsH z) := by
  intro w hw
  rcases List.mem_cons.mp hw with rfl | hw
  · exact zGW_good _ h
  · exact zGW_good _ hw
section ZL
variable {l : Launch} {G : zG} {y z : zMD} {fr lo fr1 lo1 mc ms bc bs pc i n : Nat} {ls : List (Option Value)} {st : List Value} {as : List Value} {M : zMem} {Q Q1 : zOut → zMem → Prop}
theorem zcat {G : zG} {st : List Value} : ((st.map (zv G)).map fun v => v.category) = st.map fun v => v.category := by rw [List.map_map]; exact List.map_congr_left fun v _ => zv_cat G v
/-- what the callee finds -/
theorem zPc_in {p : Program} {R : Room} {s : State} {m : MethodId} {args : Array Value} {meth : Method} {c : Code} {H : Heap} {locs : List Loc} {cells : Nat}
    (F : zFix l G y fr lo p R s m args meth c) (hW : zWd G M s H locs cells) (hup : H.size ≤ s.heap.size + cells) (U : State) (hU : U.heap = H) (hWm : s.WarmedH U.vm) : zPc G as M (as.map (zv G)).toArray U := by
  have hC : zCx G s H := F.2.2.2.2.2.2.2.2.2.2.2.2.kept hW.2.2.1.1 hW.2.2.1.2.1
  subst hU
  refine ⟨rfl, hC.warm hWm, hW.1, hW.2.1, fun h0 => ?_⟩
  have := hW.2.2.2 h0
  omega
/-- behind a call that returned -/
theorem z_go {p : Program} {e : Env} {R : Room} {s : State} {m : MethodId} {args a : Array Value} {below : List Frame} {meth : Method} {c : Code} {H : Heap} {locs : List Loc} {cells slots : Nat} {X : State → Prop} {la : Array Slot} {st0 : List Value}
    (F : zFix l G y fr lo p R s m args meth c) (hW : zWd G M s H locs cells) (hc : cells + (mc + bc) ≤ R.cells) (hs : slots + (ms + bs) ≤ R.slots) (hl : lv_has la (yL y) (zll G ls)) (hE : zEx l G y fr lo Q p e R s m args below meth c X)
    (hr : va_Run p l e R s m args below meth c H locs cells slots mc ms (F0 m pc la st0) (st.map (zv G)) (zQr G M mc Q1 a) (zA G))
    (kk : ∀ (v : Option Value) (M1 : zMem), Q1 (.inl v) M1 → zS l G y fr lo bc bs (pc + 3) ls (v.toList ++ st) M1 Q) : W p l e R s m args below meth c H locs cells slots X (F0 m pc la st0) := by
  intro T hT XX
  obtain ⟨v, st₀, t, T', L, h0, X', hL, e1, e2, ⟨⟨v', M1, hv, hq, hwf, hP, hcn⟩, hF⟩, go⟩ := hr T hT XX
  cases hv
  obtain ⟨k1, k2, k3⟩ := vx_keep h0 e1 hW.2.2.1 (fun q _ h => h) (fun q h => h) hL hF
  have hW1 : zWd G M1 s T'.heap (locs ++ L) (cells + mc) := ⟨hwf, by rw [e1]; exact hP, k3, fun hz => by
    have h1 := hcn hz
    have h2 := hW.2.2.2 h1.1
    omega⟩
  obtain ⟨t2, a1, b1⟩ := kk v' M1 hq p e R s m args below meth c T'.heap (locs ++ L) (cells + mc) (slots + ms) X la F (by omega) (by omega) hW1 hl hE T' rfl X'
  refine ⟨t2, go t2 ?_, b1⟩
  have e9 : (v'.map (zv G)).toList ++ st.map (zv G) = (v'.toList ++ st).map (zv G) := by cases v' <;> simp
  show Steps _ _ _ (T'.setTop { (F0 m pc la st0) with pc := pc + 3, stack := (v'.map (zv G)).toList ++ st.map (zv G) }) t2
  rw [e9]
  exact a1
theorem s_callV {ci a : Nat} (hd : decode (yC y) pc = .ok (.invokevirtual i, 3)) (hw : zcv (yN y).cls i z n) (hK : zK M a = ci + 1) (hci : ci < 10) (hcl : vwCl[ci]? = some (zCl ci)) (hcn : (zCl ci).1 = (yN z).cls) (hn : as.length = n) (hst : (st.map fun v => v.category).sum ≤ 8) (hrm : fr1 + 1 ≤ fr ∧ 8 + (yL z + 11) + lo1 ≤ lo)
    (hM : zCm l G z fr1 lo1 mc ms (.ref a :: as) M Q1) (kk : ∀ (v : Option Value) (M1 : zMem), Q1 (.inl v) M1 → zS l G y fr lo bc bs (pc + 3) ls (v.toList ++ st) M1 Q) :
    zS l G y fr lo (mc + bc) (ms + bs) pc ls (as.reverse ++ .ref a :: st) M Q := by
  intro p e R s m args below meth c H locs cells slots X la F hc hs hW hl hE
  intro T hT XX
  have hup : H.size ≤ s.heap.size + cells := by rw [← hT]; exact XX.heapSize
  suffices hh : W p l e R s m args below meth c H locs cells slots X (F0 m pc la ((as.reverse ++ .ref a :: st).map (zv G))) from hh T hT XX
  obtain ⟨w1, w2, w3, w4, w5, w6⟩ := hw
  have hfrR := F.2.2.2.2.2.2.2.2.2.1
  have hloR := F.2.2.2.2.2.2.2.2.2.2.1
  have hcell := hW.cell (a := a) (by rw [hK]; omega)
  rw [zcl_obj hK hci] at hcell
  have hrec := va_recv F.2.2.2.2.2.2.2.2.2.2.2.2.1 hW.2.1 hcl hcell
  rw [hcn] at hrec
  have cw : CallW R s args (yN y).cls (yN z).cls i (yN z) (yC z) (yL z) (yR z) (zws z) (zrm fr1 lo1 mc ms) mc ms n :=
    cwV n F.2.2.2.2.1 (fun w hw => by
      rcases List.mem_append.mp hw with h | h
      · rcases List.mem_cons.mp h with rfl | h
        · exact zGW_good _ w1
        · rcases List.mem_cons.mp h with rfl | h
          · exact zGW_good _ w2
          · rcases List.mem_cons.mp h with rfl | h
            · exact zGW_good _ w3
            · rw [List.mem_singleton.mp h]; exact zGW_good _ w4
      · exact zws_in w5 w h) rfl rfl rfl ⟨rfl, w6⟩ ⟨by show fr1 + 1 ≤ _; omega, by show 8 + (yL z + 11) + lo1 ≤ _; omega⟩
  have hstk : (as.reverse ++ .ref a :: st).map (zv G) = (as.map (zv G)).reverse ++ .ref (zad G a) :: st.map (zv G) := by simp [zv]
  rw [hstk]
  refine z_go (a := (Value.ref (zad G a) :: as.map (zv G)).toArray) (mc := mc) (ms := ms) (bc := bc) (bs := bs) F hW hc hs hl hE ?_ kk
  exact va_runV (As := as.map (zv G)) (rest := st.map (zv G)) ⟨F.1, F.2.1, F.2.2.1, F.2.2.2.1, F.2.2.2.2.1⟩ hM cw ⟨zPc_blind, hrec, fun U hU hWm => zPc_in F hW hup U hU hWm⟩ rfl (by rw [List.length_map]; exact hn) hl.1 rfl (lv_room (by rw [zcat]; exact hst)) hd ⟨by omega, by omega⟩
theorem s_callS (hd : decode (yC y) pc = .ok (.invokestatic i, 3)) (hw : zcs (yN y).cls i z n) (hn : as.length = n) (hst : (st.map fun v => v.category).sum ≤ 8) (hrm : fr1 + 1 ≤ fr ∧ 8 + (yL z + 11) + lo1 ≤ lo)
    (hM : zCm l G z fr1 lo1 mc ms as M Q1) (kk : ∀ (v : Option Value) (M1 : zMem), Q1 (.inl v) M1 → zS l G y fr lo bc bs (pc + 3) ls (v.toList ++ st) M1 Q) :
    zS l G y fr lo (mc + bc) (ms + bs) pc ls (as.reverse ++ st) M Q := by
  intro p e R s m args below meth c H locs cells slots X la F hc hs hW hl hE
  intro T hT XX
  have hup : H.size ≤ s.heap.size + cells := by rw [← hT]; exact XX.heapSize
  suffices hh : W p l e R s m args below meth c H locs cells slots X (F0 m pc la ((as.reverse ++ st).map (zv G))) from hh T hT XX
  obtain ⟨w1, w2, w4, w5, w6⟩ := hw
  have hfrR := F.2.2.2.2.2.2.2.2.2.1
  have hloR := F.2.2.2.2.2.2.2.2.2.2.1
  have cw : CallB R s args (yN y).cls i (yN z) (yC z) (yL z) (yR z) (zws z) (zrm fr1 lo1 mc ms) mc ms n ∧ (Cond.static (yN z)).before args s = true :=
    ⟨callB_of n F.2.2.2.2.1 (zws_in w5) rfl rfl rfl (F.2.2.2.2.1 _ w4) (F.2.2.2.2.1 _ w1) w6 ⟨by show fr1 + 1 ≤ _; omega, by show 8 + (yL z + 11) + lo1 ≤ _; omega⟩, F.2.2.2.2.1 _ w2⟩
  have hstk : (as.reverse ++ st).map (zv G) = (as.map (zv G)).reverse ++ st.map (zv G) := by simp
  rw [hstk]
  refine z_go (a := (as.map (zv G)).toArray) (mc := mc) (ms := ms) (bc := bc) (bs := bs) F hW hc hs hl hE ?_ kk
  exact va_runS (As := as.map (zv G)) (rest := st.map (zv G)) ⟨F.1, F.2.1, F.2.2.1, F.2.2.2.1, F.2.2.2.2.1⟩ hM cw ⟨zPc_blind, fun U hU hWm => zPc_in F hW hup U hU hWm⟩ rfl (by rw [List.length_map]; exact hn) hl.1 rfl (lv_room (by rw [zcat]; exact hst)) hd ⟨by omega, by omega⟩
theorem s_callSH (hd : decode (yC y) pc = .ok (.invokestatic i, 3)) (hw : zcsH (yN y).cls i z n) (hn : as.length = n) (hst : (st.map fun v => v.category).sum ≤ 8) (hrm : fr1 + 1 ≤ fr ∧ 8 + (yL z + 11) + lo1 ≤ lo)
    (hM : zCh l G z fr1 lo1 mc ms as M Q1) (kk : ∀ (v : Option Value) (M1 : zMem), Q1 (.inl v) M1 → zS l G y fr lo bc bs (pc + 3) ls (v.toList ++ st) M1 Q) :
    zS l G y fr lo (mc + bc) (ms + bs) pc ls (as.reverse ++ st) M Q := by
  intro p e R s m args below meth c H locs cells slots X la F hc hs hW hl hE
  intro T hT XX
  have hup : H.size ≤ s.heap.size + cells := by rw [← hT]; exact XX.heapSize
  suffices hh : W p l e R s m args below meth c H locs cells slots X (F0 m pc la ((as.reverse ++ st).map (zv G))) from hh T hT XX
  obtain ⟨w1, w2, w4, w5, w6⟩ := hw
  have hfrR := F.2.2.2.2.2.2.2.2.2.1
  have hloR := F.2.2.2.2.2.2.2.2.2.2.1
  have cw : vx_CSW R s args (yN y).cls i (yN z) (yC z) (yL z) (yR z) (yH z) (zwsH z) (zrm fr1 lo1 mc ms) mc ms n :=
    vx_cwSW n F.2.2.2.2.1 (fun w hw => by
      rcases List.mem_append.mp hw with h | h
      · rcases List.mem_cons.mp h with rfl | h
        · exact zGW_good _ w1
        · rcases List.mem_cons.mp h with rfl | h
          · exact zGW_good _ w2
          · rw [List.mem_singleton.mp h]; exact zGW_good _ w4
      · exact zwsH_in w5 w h) rfl rfl rfl w6 ⟨by show fr1 + 1 ≤ _; omega, by show 8 + (yL z + 11) + lo1 ≤ _; omega⟩
  have hstk : (as.reverse ++ st).map (zv G) = (as.map (zv G)).reverse ++ st.map (zv G) := by simp
  rw [hstk]
  refine z_go (a := (as.map (zv G)).toArray) (mc := mc) (ms := ms) (bc := bc) (bs := bs) F hW hc hs hl hE ?_ kk
  exact vx_runSW (As := as.map (zv G)) (rest := st.map (zv G)) ⟨F.1, F.2.1, F.2.2.1, F.2.2.2.1, F.2.2.2.2.1⟩ hM cw ⟨zPc_blind, fun U hU hWm => zPc_in F hW hup U hU hWm⟩ rfl (by rw [List.length_map]; exact hn) hl.1 rfl (lv_room (by rw [zcat]; exact hst)) hd ⟨by omega, by omega⟩
theorem s_callSN {host : String} (hd : decode (yC y) pc = .ok (.invokestatic i, 3)) (hw : zcsN (yN y).cls i z host n) (hn : as.length = n) (hst : (st.map fun v => v.category).sum ≤ 8) (hrm : fr1 + 1 ≤ fr ∧ 8 + (yL z + 11) + lo1 ≤ lo)
    (hM : zCm l G z fr1 lo1 mc ms as M Q1) (kk : ∀ (v : Option Value) (M1 : zMem), Q1 (.inl v) M1 → zS l G y fr lo bc bs (pc + 3) ls (v.toList ++ st) M1 Q) :
    zS l G y fr lo (mc + bc) (ms + bs) pc ls (as.reverse ++ st) M Q := by
  intro p e R s m args below meth c H locs cells slots X la F hc hs hW hl hE
  intro T hT XX
  have hup : H.size ≤ s.heap.size + cells := by rw [← hT]; exact XX.heapSize
  suffices hh : W p l e R s m args below meth c H locs cells slots X (F0 m pc la ((as.reverse ++ st).map (zv G))) from hh T hT XX
  obtain ⟨w1, w2, w4, w5, w6⟩ := hw
  have hfrR := F.2.2.2.2.2.2.2.2.2.1
  have hloR := F.2.2.2.2.2.2.2.2.2.2.1
  have hnw := F.2.2.2.2.2.2.2.2.2.2.2.2.2.1 _ w1
  have cw : va_CN R s args (yN y).cls i (yN z) host (yC z) (yL z) (yR z) (zws z) (zrm fr1 lo1 mc ms) mc ms n :=
    va_cnB n F.2.2.2.2.1 (zws_in w5) rfl rfl rfl hnw (F.2.2.2.2.1 _ w4) w6 ⟨by show fr1 + 1 ≤ _; omega, by show 8 + (yL z + 11) + lo1 ≤ _; omega⟩
  have hstk : (as.reverse ++ st).map (zv G) = (as.map (zv G)).reverse ++ st.map (zv G) := by simp
  rw [hstk]
  refine z_go (a := (as.map (zv G)).toArray) (mc := mc) (ms := ms) (bc := bc) (bs := bs) F hW hc hs hl hE ?_ kk
  exact va_runSN (As := as.map (zv G)) (rest := st.map (zv G)) ⟨F.1, F.2.1, F.2.2.1, F.2.2.2.1, F.2.2.2.2.1⟩ hM ⟨cw, F.2.2.2.2.1 _ w2, trivial⟩ ⟨zPc_blind, fun U hU hWm => zPc_in F hW hup U hU hWm⟩ rfl (by rw [List.length_map]; exact hn) hl.1 rfl (lv_room (by rw [zcat]; exact hst)) hd ⟨by omega, by omega⟩
theorem s_callI {a : Nat} (hd : decode (yC y) pc = .ok (.invokespecial i, 3)) (hw : zci (yN y).cls i z n) (hn : as.length = n) (hst : (st.map fun v => v.category).sum ≤ 8) (hrm : fr1 + 1 ≤ fr ∧ 8 + (yL z + 11) + lo1 ≤ lo)
    (hM : zCm l G z fr1 lo1 mc ms (.ref a :: as) M Q1) (kk : ∀ (v : Option Value) (M1 : zMem), Q1 (.inl v) M1 → zS l G y fr lo bc bs (pc + 3) ls (v.toList ++ st) M1 Q) :
    zS l G y fr lo (mc + bc) (ms + bs) pc ls (as.reverse ++ .ref a :: st) M Q := by
  intro p e R s m args below meth c H locs cells slots X la F hc hs hW hl hE
  intro T hT XX
  have hup : H.size ≤ s.heap.size + cells := by rw [← hT]; exact XX.heapSize
  suffices hh : W p l e R s m args below meth c H locs cells slots X (F0 m pc la ((as.reverse ++ .ref a :: st).map (zv G))) from hh T hT XX
  obtain ⟨w1, w2, w4, w5, w7, w8, w6⟩ := hw
  have hfrR := F.2.2.2.2.2.2.2.2.2.1
  have hloR := F.2.2.2.2.2.2.2.2.2.2.1
  have w5' : Cond.code (yN z) (yC z) (yL z) (yR z) ∈ zGW := by rw [w7]; exact w5
  have cw : CallB R s args (yN y).cls i (yN z) (yC z) (yL z) none (zws z) (zrm fr1 lo1 mc ms) mc ms n ∧ (yN z).name = "<init>" ∧ (Cond.instanceMethod (yN z)).before args s = true :=
    ⟨callB_of (ws' := zGW) n F.2.2.2.2.1 (zws_in w5') (by unfold zws; rw [w7]) rfl rfl (F.2.2.2.2.1 _ w4) (F.2.2.2.2.1 _ w1) w6 ⟨by show fr1 + 1 ≤ _; omega, by show 8 + (yL z + 11) + lo1 ≤ _; omega⟩, w8, F.2.2.2.2.1 _ w2⟩
  have hstk : (as.reverse ++ .ref a :: st).map (zv G) = (as.map (zv G)).reverse ++ .ref (zad G a) :: st.map (zv G) := by simp [zv]
  rw [hstk]
  refine z_go (a := (Value.ref (zad G a) :: as.map (zv G)).toArray) (mc := mc) (ms := ms) (bc := bc) (bs := bs) F hW hc hs hl hE ?_ kk
  exact va_runI (As := as.map (zv G)) (rest := st.map (zv G)) ⟨F.1, F.2.1, F.2.2.1, F.2.2.2.1, F.2.2.2.2.1⟩ hM cw ⟨zPc_blind, fun U hU hWm => zPc_in (as := .ref a :: as) F hW hup U hU hWm⟩ rfl (by rw [List.length_map]; exact hn) hl.1 rfl (lv_room (by rw [zcat]; exact hst)) hd ⟨by omega, by omega⟩
theorem s_callIN {a : Nat} {host : String} (hd : decode (yC y) pc = .ok (.invokespecial i, 3)) (hw : zciN (yN y).cls i z host n) (hn : as.length = n) (hst : (st.map fun v => v.category).sum ≤ 8) (hrm : fr1 + 1 ≤ fr ∧ 8 + (yL z + 11) + lo1 ≤ lo)
    (hM : zCm l G z fr1 lo1 mc ms (.ref a :: as) M Q1) (kk : ∀ (v : Option Value) (M1 : zMem), Q1 (.inl v) M1 → zS l G y fr lo bc bs (pc + 3) ls (v.toList ++ st) M1 Q) :
    zS l G y fr lo (mc + bc) (ms + bs) pc ls (as.reverse ++ .ref a :: st) M Q := by
  intro p e R s m args below meth c H locs cells slots X la F hc hs hW hl hE
  intro T hT XX
  have hup : H.size ≤ s.heap.size + cells := by rw [← hT]; exact XX.heapSize
  suffices hh : W p l e R s m args below meth c H locs cells slots X (F0 m pc la ((as.reverse ++ .ref a :: st).map (zv G))) from hh T hT XX
  obtain ⟨w1, w2, w4, w5, w7, w8, w6⟩ := hw
  have hfrR := F.2.2.2.2.2.2.2.2.2.1
  have hloR := F.2.2.2.2.2.2.2.2.2.2.1
  have hnw := F.2.2.2.2.2.2.2.2.2.2.2.2.2.1 _ w1
  have w5' : Cond.code (yN z) (yC z) (yL z) (yR z) ∈ zGW := by rw [w7]; exact w5
  have cw : va_CN R s args (yN y).cls i (yN z) host (yC z) (yL z) none (zws z) (zrm fr1 lo1 mc ms) mc ms n :=
    va_cnB (ws' := zGW) n F.2.2.2.2.1 (zws_in w5') (by unfold zws; rw [w7]) rfl rfl hnw (F.2.2.2.2.1 _ w4) w6 ⟨by show fr1 + 1 ≤ _; omega, by show 8 + (yL z + 11) + lo1 ≤ _; omega⟩
  have hstk : (as.reverse ++ .ref a :: st).map (zv G) = (as.map (zv G)).reverse ++ .ref (zad G a) :: st.map (zv G) := by simp [zv]
  rw [hstk]
  refine z_go (a := (Value.ref (zad G a) :: as.map (zv G)).toArray) (mc := mc) (ms := ms) (bc := bc) (bs := bs) F hW hc hs hl hE ?_ kk
  exact va_runIN (As := as.map (zv G)) (rest := st.map (zv G)) ⟨F.1, F.2.1, F.2.2.1, F.2.2.2.1, F.2.2.2.2.1⟩ hM ⟨cw, w8, F.2.2.2.2.1 _ w2⟩ ⟨zPc_blind, fun U hU hWm => zPc_in (as := .ref a :: as) F hW hup U hU hWm⟩ rfl (by rw [List.length_map]; exact hn) hl.1 rfl (lv_room (by rw [zcat]; exact hst)) hd ⟨by omega, by omega⟩
end ZL
end
section
/-! ===== calls that may throw ===== -/
section ZX
variable {l : Launch} {G : zG} {y z : zMD} {fr lo fr1 lo1 mc ms bc bs pc i n : Nat} {ls : List (Option Value)} {st : List Value} {as : List Value} {M : zMem} {Q Q1 : zOut → zMem → Prop}
theorem z_goX {p : Program} {e : Env} {R : Room} {s : State} {m : MethodId} {args a : Array Value} {below : List Frame} {meth : Method} {c : Code} {H : Heap} {locs : List Loc} {cells slots : Nat} {X : State → Prop} {la : Array Slot} {st0 : List Value}
    (F : zFix l G y fr lo p R s m args meth c) (hW : zWd G M s H locs cells) (hc : cells + (mc + bc) ≤ R.cells) (hs : slots + (ms + bs) ≤ R.slots) (hl : lv_has la (yL y) (zll G ls)) (hE : zEx l G y fr lo Q p e R s m args below meth c X)
    (hr : vx_Run p l e R s m args below meth c H locs cells slots mc ms (F0 m pc la st0) (st.map (zv G)) (zQr G M mc Q1 a) (zXc G Q1) (zA G))
    (kx : ∀ (x : Nat) (M1 : zMem), Q1 (.inr x) M1 → ∀ (H1 : Heap) (locs1 : List Loc) (q : Addr) (ce : Cell), zWd G M1 s H1 locs1 (cells + mc) → H1[q]? = some ce → ce.vm = .none → s.vm.findClass (zXn x) = some ce.cls → vx_W p l e R s m args below meth c H1 locs1 (cells + mc) (slots + ms) X (F0 m pc la (st.map (zv G))) q)
    (kk : ∀ (v : Option Value) (M1 : zMem), Q1 (.inl v) M1 → zS l G y fr lo bc bs (pc + 3) ls (v.toList ++ st) M1 Q) : W p l e R s m args below meth c H locs cells slots X (F0 m pc la st0) := by
  intro T hT XX
  rcases hr T hT XX with ⟨v, st₀, t, T', L, h0, X', hL, e1, e2, ⟨⟨v', M1, hv, hq, hwf, hP, hcn⟩, hF⟩, go⟩ | ⟨q, st₀, t, T', L, E, ce, h0, X', hL, e1, e2, ⟨⟨x, M1, rfl, hq, hwf, hP, hz⟩, hF⟩, hce, hcv, hcl, go⟩
  · cases hv
    obtain ⟨k1, k2, k3⟩ := vx_keep h0 e1 hW.2.2.1 (fun q _ h => h) (fun q h => h) hL hF
    have hW1 : zWd G M1 s T'.heap (locs ++ L) (cells + mc) := ⟨hwf, by rw [e1]; exact hP, k3, fun hz => by
      have h1 := hcn hz
      have h2 := hW.2.2.2 h1.1
      omega⟩
    obtain ⟨t2, a1, b1⟩ := kk v' M1 hq p e R s m args below meth c T'.heap (locs ++ L) (cells + mc) (slots + ms) X la F (by omega) (by omega) hW1 hl hE T' rfl X'
    refine ⟨t2, go t2 ?_, b1⟩
    have e9 : (v'.map (zv G)).toList ++ st.map (zv G) = (v'.toList ++ st).map (zv G) := by cases v' <;> simp
    show Steps _ _ _ (T'.setTop { (F0 m pc la st0) with pc := pc + 3, stack := (v'.map (zv G)).toList ++ st.map (zv G) }) t2
    rw [e9]
    exact a1
  · obtain ⟨k1, k2, k3⟩ := vx_keep h0 e1 hW.2.2.1 (fun q _ h => h) (fun q h => h) hL hF
    obtain ⟨t2, a1, b1⟩ := kx x M1 hq T'.heap (locs ++ L) q ce ⟨hwf, by rw [e1]; exact hP, k3, fun h => absurd h hz⟩ (by rw [e1]; exact hce) hcv hcl T' rfl X'
    exact ⟨t2, go.trans a1, b1⟩
theorem s_callVX {ci a : Nat} (hd : decode (yC y) pc = .ok (.invokevirtual i, 3)) (hw : zcv (yN y).cls i z n) (hK : zK M a = ci + 1) (hci : ci < 10) (hcl : vwCl[ci]? = some (zCl ci)) (hcn : (zCl ci).1 = (yN z).cls) (hn : as.length = n) (hst : (st.map fun v => v.category).sum ≤ 8) (hrm : fr1 + 1 ≤ fr ∧ 8 + (yL z + 11) + lo1 ≤ lo)
    (hM : zCx2 l G z fr1 lo1 mc ms (.ref a :: as) M Q1) (hH : yH y = []) (kx : ∀ (x : Nat) (M1 : zMem), Q1 (.inr x) M1 → Q (.inr x) M1) (kk : ∀ (v : Option Value) (M1 : zMem), Q1 (.inl v) M1 → zS l G y fr lo bc bs (pc + 3) ls (v.toList ++ st) M1 Q) :
    zS l G y fr lo (mc + bc) (ms + bs) pc ls (as.reverse ++ .ref a :: st) M Q := by
  intro p e R s m args below meth c H locs cells slots X la F hc hs hW hl hE
  intro T hT XX
  have hup : H.size ≤ s.heap.size + cells := by rw [← hT]; exact XX.heapSize
  suffices hh : W p l e R s m args below meth c H locs cells slots X (F0 m pc la ((as.reverse ++ .ref a :: st).map (zv G))) from hh T hT XX
  obtain ⟨w1, w2, w3, w4, w5, w6⟩ := hw
  have hfrR := F.2.2.2.2.2.2.2.2.2.1
  have hloR := F.2.2.2.2.2.2.2.2.2.2.1
  have hcell := hW.cell (a := a) (by rw [hK]; omega)
  rw [zcl_obj hK hci] at hcell
  have hrec := va_recv F.2.2.2.2.2.2.2.2.2.2.2.2.1 hW.2.1 hcl hcell
  rw [hcn] at hrec
  have cw : CallW R s args (yN y).cls (yN z).cls i (yN z) (yC z) (yL z) (yR z) (zws z) (zrm fr1 lo1 mc ms) mc ms n :=
    cwV n F.2.2.2.2.1 (fun w hw => by
      rcases List.mem_append.mp hw with h | h
      · rcases List.mem_cons.mp h with rfl | h
        · exact zGW_good _ w1
        · rcases List.mem_cons.mp h with rfl | h
          · exact zGW_good _ w2
          · rcases List.mem_cons.mp h with rfl | h
            · exact zGW_good _ w3
            · rw [List.mem_singleton.mp h]; exact zGW_good _ w4
      · exact zws_in w5 w h) rfl rfl rfl ⟨rfl, w6⟩ ⟨by show fr1 + 1 ≤ _; omega, by show 8 + (yL z + 11) + lo1 ≤ _; omega⟩
  have hstk : (as.reverse ++ .ref a :: st).map (zv G) = (as.map (zv G)).reverse ++ .ref (zad G a) :: st.map (zv G) := by simp [zv]
  rw [hstk]
  refine z_goX (a := (Value.ref (zad G a) :: as.map (zv G)).toArray) (mc := mc) (ms := ms) (bc := bc) (bs := bs) F hW hc hs hl hE ?_ (fun x M1 hq H1 locs1 q ce hW1 hce hcv hcl9 => hE.2.1 x M1 (kx x M1 hq) H1 locs1 (cells + mc) (slots + ms) pc la (st.map (zv G)) q ce (by omega) (by omega) hW1 hce hcv hcl9 hH) kk
  exact vx_runV (As := as.map (zv G)) (rest := st.map (zv G)) ⟨F.1, F.2.1, F.2.2.1, F.2.2.2.1, F.2.2.2.2.1⟩ hM cw ⟨zPc_blind, hrec, fun U hU hWm => zPc_in F hW hup U hU hWm⟩ rfl (by rw [List.length_map]; exact hn) hl.1 rfl (lv_room (by rw [zcat]; exact hst)) hd ⟨by omega, by omega⟩
theorem s_callSX (hd : decode (yC y) pc = .ok (.invokestatic i, 3)) (hw : zcs (yN y).cls i z n) (hn : as.length = n) (hst : (st.map fun v => v.category).sum ≤ 8) (hrm : fr1 + 1 ≤ fr ∧ 8 + (yL z + 11) + lo1 ≤ lo)
    (hM : zCx2 l G z fr1 lo1 mc ms as M Q1) (hH : yH y = []) (kx : ∀ (x : Nat) (M1 : zMem), Q1 (.inr x) M1 → Q (.inr x) M1) (kk : ∀ (v : Option Value) (M1 : zMem), Q1 (.inl v) M1 → zS l G y fr lo bc bs (pc + 3) ls (v.toList ++ st) M1 Q) :
    zS l G y fr lo (mc + bc) (ms + bs) pc ls (as.reverse ++ st) M Q := by
  intro p e R s m args below meth c H locs cells slots X la F hc hs hW hl hE
  intro T hT XX
  have hup : H.size ≤ s.heap.size + cells := by rw [← hT]; exact XX.heapSize
  suffices hh : W p l e R s m args below meth c H locs cells slots X (F0 m pc la ((as.reverse ++ st).map (zv G))) from hh T hT XX
  obtain ⟨w1, w2, w4, w5, w6⟩ := hw
  have hfrR := F.2.2.2.2.2.2.2.2.2.1
  have hloR := F.2.2.2.2.2.2.2.2.2.2.1
  have cw : CallB R s args (yN y).cls i (yN z) (yC z) (yL z) (yR z) (zws z) (zrm fr1 lo1 mc ms) mc ms n ∧ (Cond.static (yN z)).before args s = true :=
    ⟨callB_of n F.2.2.2.2.1 (zws_in w5) rfl rfl rfl (F.2.2.2.2.1 _ w4) (F.2.2.2.2.1 _ w1) w6 ⟨by show fr1 + 1 ≤ _; omega, by show 8 + (yL z + 11) + lo1 ≤ _; omega⟩, F.2.2.2.2.1 _ w2⟩
  have hstk : (as.reverse ++ st).map (zv G) = (as.map (zv G)).reverse ++ st.map (zv G) := by simp
  rw [hstk]
  refine z_goX (a := (as.map (zv G)).toArray) (mc := mc) (ms := ms) (bc := bc) (bs := bs) F hW hc hs hl hE ?_ (fun x M1 hq H1 locs1 q ce hW1 hce hcv hcl9 => hE.2.1 x M1 (kx x M1 hq) H1 locs1 (cells + mc) (slots + ms) pc la (st.map (zv G)) q ce (by omega) (by omega) hW1 hce hcv hcl9 hH) kk
  exact vx_runS (As := as.map (zv G)) (rest := st.map (zv G)) ⟨F.1, F.2.1, F.2.2.1, F.2.2.2.1, F.2.2.2.2.1⟩ hM cw ⟨zPc_blind, fun U hU hWm => zPc_in F hW hup U hU hWm⟩ rfl (by rw [List.length_map]; exact hn) hl.1 rfl (lv_room (by rw [zcat]; exact hst)) hd ⟨by omega, by omega⟩
/-- an exception of class x at pc is caught: behind the storing of it the walk goes on -/
def zhx (l : Launch) (G : zG) (y : zMD) (fr lo bc bs pc : Nat) (ls : List (Option Value)) (M : zMem) (Q : zOut → zMem → Prop) (x : Nat) : Prop :=
  ∃ (pre : List ExceptionTableEntry) (w : ExceptionTableEntry) (suf : List ExceptionTableEntry) (k len : Nat), tableOf (yH y) = pre ++ w :: suf ∧ x < 3 ∧
    (∀ u ∈ pre, ∃ x', x' < 3 ∧ x ≠ x' ∧ u.catchType ≠ 0 ∧ Cond.classLink (yN y).cls u.catchType (zXn x') ∈ zGW) ∧ covers w pc = true ∧ w.catchType ≠ 0 ∧ Cond.classLink (yN y).cls w.catchType (zXn x) ∈ zGW ∧ Cond.castable (zXn x) (zXn x) ∈ zNW ∧
    k < yL y ∧ ((∃ k4 : Fin 4, (k4 : Nat) = k ∧ decode (yC y) w.handlerPc = .ok (.astore_n k4, 1) ∧ len = 1) ∨ (decode (yC y) w.handlerPc = .ok (.astore k, 2) ∧ len = 2)) ∧
    zS l G y fr lo bc bs (w.handlerPc + len) ((zpr ls k).set k none) [] M Q
theorem zp0_has {G : zG} {la : Array Slot} {nL i q : Nat} {ls : List (Option Value)} (h : lv_has la nL ((i, .ref q) :: (zll G ls).filter (fun q => !(q.1 == i) && !(q.1 + 1 == i && q.2.category == 2)))) : lv_has la nL (zll G ((zpr ls i).set i none)) := by
  refine ⟨h.1, h.2.1, fun q hq => h.2.2 q ?_⟩
  obtain ⟨j, x⟩ := q
  obtain ⟨w, hw, rfl⟩ := zll_mem.mp hq
  by_cases hj : j = i
  · subst hj
    rcases Nat.lt_or_ge j (zpr ls j).length with hl | hl
    · rw [List.getElem?_set_self hl] at hw
      cases hw
    · rw [List.getElem?_eq_none (by simpa using hl)] at hw
      cases hw
  · rw [List.getElem?_set_ne (Ne.symm hj)] at hw
    obtain ⟨h1, h2⟩ := zpr_get hw
    refine List.mem_cons_of_mem _ (List.mem_filter.mpr ⟨zll_mem.mpr ⟨w, h1, rfl⟩, ?_⟩)
    simp only [zv_cat, Bool.and_eq_true, Bool.not_eq_true', beq_eq_false_iff_ne, ne_eq, Bool.and_eq_false_iff]
    refine ⟨hj, ?_⟩
    by_cases e : j + 1 = i
    · exact Or.inr (fun z => h2 ⟨e, z⟩)
    · exact Or.inl e
theorem zhx_go {p : Program} {e : Env} {R : Room} {s : State} {m : MethodId} {args : Array Value} {below : List Frame} {meth : Method} {c : Code} {H : Heap} {locs : List Loc} {cells slots x : Nat} {X : State → Prop} {la : Array Slot} {q : Addr} {ce : Cell} {st0 : List Value}
    (F : zFix l G y fr lo p R s m args meth c) (hW : zWd G M s H locs cells) (hc : cells + bc ≤ R.cells) (hs : slots + bs ≤ R.slots) (hl : lv_has la (yL y) (zll G ls)) (hE : zEx l G y fr lo Q p e R s m args below meth c X)
    (h : zhx l G y fr lo bc bs pc ls M Q x) (hce : H[q]? = some ce) (hcv : ce.vm = .none) (hcl : s.vm.findClass (zXn x) = some ce.cls) : vx_W p l e R s m args below meth c H locs cells slots X (F0 m pc la st0) q := by
  obtain ⟨pre, w, suf, k, len, h1, h2, h3, h4, h5, h6, h7, h8, h9, h10⟩ := h
  have htab := F.2.2.2.2.2.2.2.2.2.2.2.1
  have hN := F.2.2.2.2.2.2.2.2.2.2.2.2.2.1
  have hNc := F.2.2.2.2.2.2.2.2.2.2.2.2.2.2.2.2.2.2.2.2.2.2.2
  refine vx_catch F.2.2.2.1 pre w suf (htab.trans h1) (fun u hu => ?_) h4 h5 (F.2.2.2.2.1 _ h6) (va_Nw.use rfl (hN _ h7)) hce hcv hcl ?_
  · obtain ⟨x', g1, g2, g3, g4⟩ := h3 u hu
    exact Or.inr ⟨g3, _, F.2.2.2.2.1 _ g4, hNc x x' h2 g1 g2⟩
  · rcases h9 with ⟨k4, rfl, h9, rfl⟩ | ⟨h9, rfl⟩
    · exact lv_astore_n F.1 F.2.1 h9 rfl hl h8 rfl (fun la hl => h10 p e R s m args below meth c H locs cells slots X la F hc hs hW (zp0_has hl) hE)
    · exact lv_astore F.1 F.2.1 h9 hl h8 rfl (fun la hl => h10 p e R s m args below meth c H locs cells slots X la F hc hs hW (zp0_has hl) hE)
theorem s_callVH {ci a : Nat} (hd : decode (yC y) pc = .ok (.invokevirtual i, 3)) (hw : zcv (yN y).cls i z n) (hK : zK M a = ci + 1) (hci : ci < 10) (hcl : vwCl[ci]? = some (zCl ci)) (hcn : (zCl ci).1 = (yN z).cls) (hn : as.length = n) (hst : (st.map fun v => v.category).sum ≤ 8) (hrm : fr1 + 1 ≤ fr ∧ 8 + (yL z + 11) + lo1 ≤ lo)
    (hM : zCx2 l G z fr1 lo1 mc ms (.ref a :: as) M Q1) (kx : ∀ (x : Nat) (M1 : zMem), Q1 (.inr x) M1 → zhx l G y fr lo bc bs pc ls M1 Q x) (kk : ∀ (v : Option Value) (M1 : zMem), Q1 (.inl v) M1 → zS l G y fr lo bc bs (pc + 3) ls (v.toList ++ st) M1 Q) :
    zS l G y fr lo (mc + bc) (ms + bs) pc ls (as.reverse ++ .ref a :: st) M Q := by
  intro p e R s m args below meth c H locs cells slots X la F hc hs hW hl hE
  intro T hT XX
  have hup : H.size ≤ s.heap.size + cells := by rw [← hT]; exact XX.heapSize
  suffices hh : W p l e R s m args below meth c H locs cells slots X (F0 m pc la ((as.reverse ++ .ref a :: st).map (zv G))) from hh T hT XX
  obtain ⟨w1, w2, w3, w4, w5, w6⟩ := hw
  have hfrR := F.2.2.2.2.2.2.2.2.2.1
  have hloR := F.2.2.2.2.2.2.2.2.2.2.1
  have hcell := hW.cell (a := a) (by rw [hK]; omega)
  rw [zcl_obj hK hci] at hcell
  have hrec := va_recv F.2.2.2.2.2.2.2.2.2.2.2.2.1 hW.2.1 hcl hcell
  rw [hcn] at hrec
  have cw : CallW R s args (yN y).cls (yN z).cls i (yN z) (yC z) (yL z) (yR z) (zws z) (zrm fr1 lo1 mc ms) mc ms n :=
    cwV n F.2.2.2.2.1 (fun w hw => by
      rcases List.mem_append.mp hw with h | h
      · rcases List.mem_cons.mp h with rfl | h
        · exact zGW_good _ w1
        · rcases List.mem_cons.mp h with rfl | h
          · exact zGW_good _ w2
          · rcases List.mem_cons.mp h with rfl | h
            · exact zGW_good _ w3
            · rw [List.mem_singleton.mp h]; exact zGW_good _ w4
      · exact zws_in w5 w h) rfl rfl rfl ⟨rfl, w6⟩ ⟨by show fr1 + 1 ≤ _; omega, by show 8 + (yL z + 11) + lo1 ≤ _; omega⟩
  have hstk : (as.reverse ++ .ref a :: st).map (zv G) = (as.map (zv G)).reverse ++ .ref (zad G a) :: st.map (zv G) := by simp [zv]
  rw [hstk]
  refine z_goX (a := (Value.ref (zad G a) :: as.map (zv G)).toArray) (mc := mc) (ms := ms) (bc := bc) (bs := bs) F hW hc hs hl hE ?_ (fun x M1 hq H1 locs1 q ce hW1 hce hcv hcl9 => zhx_go F hW1 (by omega) (by omega) hl hE (kx x M1 hq) hce hcv hcl9) kk
  exact vx_runV (As := as.map (zv G)) (rest := st.map (zv G)) ⟨F.1, F.2.1, F.2.2.1, F.2.2.2.1, F.2.2.2.2.1⟩ hM cw ⟨zPc_blind, hrec, fun U hU hWm => zPc_in F hW hup U hU hWm⟩ rfl (by rw [List.length_map]; exact hn) hl.1 rfl (lv_room (by rw [zcat]; exact hst)) hd ⟨by omega, by omega⟩
end ZX
end
section
/-! ===== literals, the script ===== -/
section ZT
variable {l : Launch} {G : zG} {y z : zMD} {fr lo fr1 lo1 mc ms bc bs pc i n : Nat} {ls : List (Option Value)} {st : List Value} {as : List Value} {M : zMem} {Q Q1 : zOut → zMem → Prop}
theorem zad_S {k : Nat} (h : k < 1000000) : zad G (1000000 + k) = gS G k := by
  unfold zad
  rw [if_neg (by omega), if_pos (by omega), Nat.add_sub_cancel_left]
theorem zad_X : zad G 2000000 = (gX G).1 := by
  unfold zad
  rw [if_neg (by omega), if_neg (by omega), if_pos (by omega)]
theorem zad_V {k : Nat} : zad G (3000000 + k) = gV G k := by
  unfold zad
  rw [if_neg (by omega), if_neg (by omega), if_neg (by omega), Nat.add_sub_cancel_left]
/-- a literal's coder, its bytes -/
theorem s_strC {k : Nat} (hk : k < 6) (hd : decode (yC y) pc = .ok (.getfield i, 3)) (hw : Cond.fieldLink (yN y).cls i "java/lang/String" "coder" "B" ∈ zGW)
    (kk : zS l G y fr lo bc bs (pc + 3) ls (.int 0 :: st) M Q) : zS l G y fr lo bc bs pc ls (.ref (1000000 + k) :: st) M Q := by
  intro p e R s m args below meth c H locs cells slots X la F hc hs hW hl hE
  have hV := F.2.2.2.2.2.2.2.2.2.2.2.2.2.2.2.1
  have k2 : W p l e R s m args below meth c H locs cells slots X (F0 m (pc + 3) la (.int 0 :: st.map (zv G))) := kk p e R s m args below meth c H locs cells slots X la F hc hs hW hl hE
  have z := vk_getf F.1 F.2.1 (hV.1 k hk).2.1 hW.2.2.1 F.2.2.2.1 (F.2.2.2.2.1 _ hw) (fun x h => h) hd k2
  rw [← zad_S (G := G) (k := k) (by omega)] at z
  exact z
theorem s_strV {k : Nat} (hk : k < 6) (hd : decode (yC y) pc = .ok (.getfield i, 3)) (hw : Cond.fieldLink (yN y).cls i "java/lang/String" "value" "[B" ∈ zGW)
    (kk : zS l G y fr lo bc bs (pc + 3) ls (.ref (3000000 + k) :: st) M Q) : zS l G y fr lo bc bs pc ls (.ref (1000000 + k) :: st) M Q := by
  intro p e R s m args below meth c H locs cells slots X la F hc hs hW hl hE
  have hV := F.2.2.2.2.2.2.2.2.2.2.2.2.2.2.2.1
  have k2 := kk p e R s m args below meth c H locs cells slots X la F hc hs hW hl hE
  have e9 : (Value.ref (3000000 + k) :: st).map (zv G) = .ref (gV G k) :: st.map (zv G) := by
    show Value.ref (zad G (3000000 + k)) :: _ = _
    rw [zad_V]
  rw [e9] at k2
  have z := vk_getf F.1 F.2.1 (hV.1 k hk).2.2.1 hW.2.2.1 F.2.2.2.1 (F.2.2.2.2.1 _ hw) (fun x h => h) hd k2
  rw [← zad_S (G := G) (k := k) (by omega)] at z
  exact z
theorem s_gstC (hd : decode (yC y) pc = .ok (.getstatic i, 3)) (hw : Cond.fieldLink (yN y).cls i "java/lang/String" "COMPACT_STRINGS" "Z" ∈ zGW)
    (kk : zS l G y fr lo bc bs (pc + 3) ls (.int 1 :: st) M Q) : zS l G y fr lo bc bs pc ls st M Q := by
  intro p e R s m args below meth c H locs cells slots X la F hc hs hW hl hE
  have hZ := F.2.2.2.2.2.2.2.2.2.2.2.2.2.2.2.2.2.2.2.2.2.1
  exact va_gets F.1 F.2.1 hZ hW.2.2.1 F.2.2.2.1 (F.2.2.2.2.1 _ hw) (fun x h => h) hd (kk p e R s m args below meth c H locs cells slots X la F hc hs hW hl hE)
theorem s_gstF (hd : decode (yC y) pc = .ok (.getstatic i, 3)) (hw : Cond.fieldLink (yN y).cls i "jdk/internal/util/Preconditions" "SIOOBE_FORMATTER" "Ljava/util/function/BiFunction;" ∈ zGW)
    (k0 : zS l G y fr lo bc bs (pc + 3) ls (.null :: st) M Q) (k1 : zS l G y fr lo bc bs (pc + 3) ls (.ref 3000006 :: st) M Q) : zS l G y fr lo bc bs pc ls st M Q := by
  intro p e R s m args below meth c H locs cells slots X la F hc hs hW hl hE
  have hZ := F.2.2.2.2.2.2.2.2.2.2.2.2.2.2.2.2.2.2.2.2.2.2.1
  rcases hZ with hZ | hZ
  · exact va_gets F.1 F.2.1 hZ hW.2.2.1 F.2.2.2.1 (F.2.2.2.2.1 _ hw) (fun x h => h) hd (k0 p e R s m args below meth c H locs cells slots X la F hc hs hW hl hE)
  · have k2 := k1 p e R s m args below meth c H locs cells slots X la F hc hs hW hl hE
    have e9 : (Value.ref 3000006 :: st).map (zv G) = .ref (gV G 6) :: st.map (zv G) := by
      show Value.ref (zad G (3000000 + 6)) :: _ = _
      rw [zad_V]
    rw [e9] at k2
    exact va_gets F.1 F.2.1 hZ hW.2.2.1 F.2.2.2.1 (F.2.2.2.2.1 _ hw) (fun x h => h) hd k2
theorem s_strL {k : Nat} (hk : k < 6) (hd : decode (yC y) pc = .ok (.arraylength, 1))
    (kk : zS l G y fr lo bc bs (pc + 1) ls (.int (nI (zLl.getD k 0)) :: st) M Q) : zS l G y fr lo bc bs pc ls (.ref (3000000 + k) :: st) M Q := by
  intro p e R s m args below meth c H locs cells slots X la F hc hs hW hl hE
  have hV := F.2.2.2.2.2.2.2.2.2.2.2.2.2.2.2.1
  have z := va_tlen F.1 F.2.1 (hV.1 k hk).2.2.2 hW.2.2.1 (v := nI (zLl.getD k 0)) rfl hd (kk p e R s m args below meth c H locs cells slots X la F hc hs hW hl hE)
  rw [← zad_V (G := G) (k := k)] at z
  exact z
theorem s_strB {k : Nat} {j : Int32} (hk : k < 6) (hd : decode (yC y) pc = .ok (.baload, 1)) (hj : vp_in j (zLl.getD k 0))
    (kk : zS l G y fr lo bc bs (pc + 1) ls (.int ((zLb.getD k []).getD j.toNatClampNeg 0) :: st) M Q) : zS l G y fr lo bc bs pc ls (.int j :: .ref (3000000 + k) :: st) M Q := by
  intro p e R s m args below meth c H locs cells slots X la F hc hs hW hl hE
  have hV := F.2.2.2.2.2.2.2.2.2.2.2.2.2.2.2.1
  have z := va_tb F.1 F.2.1 (hV.1 k hk).2.2.2 hW.2.2.1 hj (v := .int ((zLb.getD k []).getD j.toNatClampNeg 0)) rfl hd (kk p e R s m args below meth c H locs cells slots X la F hc hs hW hl hE)
  rw [← zad_V (G := G) (k := k)] at z
  exact z
theorem s_i2c {a v : Int32} (hd : decode (yC y) pc = .ok (.i2c, 1)) (hv : (a.toUInt32 % 65536).toInt32 = v) (k : zS l G y fr lo bc bs (pc + 1) ls (.int v :: st) M Q) : zS l G y fr lo bc bs pc ls (.int a :: st) M Q := by
  intro p e R s m args below meth c H locs cells slots X la F hc hs hW hl hE
  exact lv_i2c F.1 F.2.1 hd hv (k p e R s m args below meth c H locs cells slots X la F hc hs hW hl hE)
/-- the script -/
theorem s_scrL (hd : decode (yC y) pc = .ok (.arraylength, 1))
    (kk : zS l G y fr lo bc bs (pc + 1) ls (.int (nI (gX G).2.1) :: st) M Q) : zS l G y fr lo bc bs pc ls (.ref 2000000 :: st) M Q := by
  intro p e R s m args below meth c H locs cells slots X la F hc hs hW hl hE
  have hX := F.2.2.2.2.2.2.2.2.2.2.2.2.2.2.2.2.1
  have hb1 := F.2.2.2.2.2.2.2.2.2.2.2.2.2.2.2.2.2.1
  have hb2 := F.2.2.2.2.2.2.2.2.2.2.2.2.2.2.2.2.2.2.1
  have z := va_slen F.1 F.2.1 hX (by omega) (A := zA G) (by unfold zA; omega) hW.2.2.1 hd (kk p e R s m args below meth c H locs cells slots X la F hc hs hW hl hE)
  rw [← zad_X (G := G)] at z
  exact z
theorem s_scrI {j : Int32} (hd : decode (yC y) pc = .ok (.iaload, 1)) (hj : vp_in j (gX G).2.1)
    (kk : zS l G y fr lo bc bs (pc + 1) ls (.int ((gX G).2.2 j.toNatClampNeg) :: st) M Q) : zS l G y fr lo bc bs pc ls (.int j :: .ref 2000000 :: st) M Q := by
  intro p e R s m args below meth c H locs cells slots X la F hc hs hW hl hE
  have hX := F.2.2.2.2.2.2.2.2.2.2.2.2.2.2.2.2.1
  have hb1 := F.2.2.2.2.2.2.2.2.2.2.2.2.2.2.2.2.2.1
  have hb2 := F.2.2.2.2.2.2.2.2.2.2.2.2.2.2.2.2.2.2.1
  have z := va_sld F.1 F.2.1 hX (by omega) (A := zA G) (by unfold zA; omega) hW.2.2.1 hj hd (kk p e R s m args below meth c H locs cells slots X la F hc hs hW hl hE)
  rw [← zad_X (G := G)] at z
  exact z
theorem s_callVs {k : Nat} (hd : decode (yC y) pc = .ok (.invokevirtual i, 3)) (hw : zcv (yN y).cls i z n) (hk : k < 6) (hcn : (yN z).cls = "java/lang/String") (hn : as.length = n) (hst : (st.map fun v => v.category).sum ≤ 8) (hrm : fr1 + 1 ≤ fr ∧ 8 + (yL z + 11) + lo1 ≤ lo)
    (hM : zCm l G z fr1 lo1 mc ms (.ref (1000000 + k) :: as) M Q1) (kk : ∀ (v : Option Value) (M1 : zMem), Q1 (.inl v) M1 → zS l G y fr lo bc bs (pc + 3) ls (v.toList ++ st) M1 Q) :
    zS l G y fr lo (mc + bc) (ms + bs) pc ls (as.reverse ++ .ref (1000000 + k) :: st) M Q := by
  intro p e R s m args below meth c H locs cells slots X la F hc hs hW hl hE
  intro T hT XX
  have hup : H.size ≤ s.heap.size + cells := by rw [← hT]; exact XX.heapSize
  suffices hh : W p l e R s m args below meth c H locs cells slots X (F0 m pc la ((as.reverse ++ .ref (1000000 + k) :: st).map (zv G))) from hh T hT XX
  obtain ⟨w1, w2, w3, w4, w5, w6⟩ := hw
  have hfrR := F.2.2.2.2.2.2.2.2.2.1
  have hloR := F.2.2.2.2.2.2.2.2.2.2.1
  have hrec := vk_recv (i := k) F.2.2.2.2.2.2.2.2.2.2.2.2.2.2.2.1 hk hW.2.2.1
  rw [← zad_S (G := G) (k := k) (by omega), ← hcn] at hrec
  have cw : CallW R s args (yN y).cls (yN z).cls i (yN z) (yC z) (yL z) (yR z) (zws z) (zrm fr1 lo1 mc ms) mc ms n :=
    cwV n F.2.2.2.2.1 (fun w hw => by
      rcases List.mem_append.mp hw with h | h
      · rcases List.mem_cons.mp h with rfl | h
        · exact zGW_good _ w1
        · rcases List.mem_cons.mp h with rfl | h
          · exact zGW_good _ w2
          · rcases List.mem_cons.mp h with rfl | h
            · exact zGW_good _ w3
            · rw [List.mem_singleton.mp h]; exact zGW_good _ w4
      · exact zws_in w5 w h) rfl rfl rfl ⟨rfl, w6⟩ ⟨by show fr1 + 1 ≤ _; omega, by show 8 + (yL z + 11) + lo1 ≤ _; omega⟩
  have hstk : (as.reverse ++ .ref (1000000 + k) :: st).map (zv G) = (as.map (zv G)).reverse ++ .ref (zad G (1000000 + k)) :: st.map (zv G) := by simp [zv]
  rw [hstk]
  refine z_go (a := (Value.ref (zad G (1000000 + k)) :: as.map (zv G)).toArray) (mc := mc) (ms := ms) (bc := bc) (bs := bs) F hW hc hs hl hE ?_ kk
  exact va_runV (As := as.map (zv G)) (rest := st.map (zv G)) ⟨F.1, F.2.1, F.2.2.1, F.2.2.2.1, F.2.2.2.2.1⟩ hM cw ⟨zPc_blind, hrec, fun U hU hWm => zPc_in F hW hup U hU hWm⟩ rfl (by rw [List.length_map]; exact hn) hl.1 rfl (lv_room (by rw [zcat]; exact hst)) hd ⟨by omega, by omega⟩
end ZT
end
section
/-! ===== the methods: names, codes, tables; instructions decoded; words by their places (all by program) ===== -/
def zdec (b : ByteArray) (l : List (Nat × Instr × Nat)) : Bool := l.all (fun q => decide (decode b q.1 = .ok (q.2.1, q.2.2)))
theorem zdk {b : ByteArray} {l : List (Nat × Instr × Nat)} (h : zdec b l = true) (i : Nat) {pc : Nat} {ins : Instr} {len : Nat} (hi : l[i]? = some (pc, ins, len)) : decode b pc = .ok (ins, len) :=
  of_decide_eq_true (List.all_eq_true.mp h (pc, ins, len) (List.mem_of_getElem? hi))
theorem zin_all {ws : List Cond} (h : ws.all (fun w => decide (w ∈ lw_tbl) && goodWord w) = true) : ∀ w ∈ ws, w ∈ zGW := fun w hw => by
  have h1 := List.all_eq_true.mp h w hw
  simp only [Bool.and_eq_true, decide_eq_true_eq] at h1
  exact List.mem_filter.mpr h1
theorem zin_nw (i : Nat) {w : Cond} (h : (lw_tbl[i]?, zNk w) = (some w, true)) : w ∈ zNW := List.mem_filter.mpr ⟨List.mem_of_getElem? (Prod.mk.inj h).1, (Prod.mk.inj h).2⟩
theorem zxw_of {own : String} {x ic : Nat} (i : Nat) (hi : (lw_tbl[i]?, goodWord (Cond.initialized (zXn x))) = (some (Cond.initialized (zXn x)), true)) (h : (vx_at0 own ic (zXn x) zXs).all (fun w => decide (w ∈ lw_tbl) && (goodWord w || (zNk w && w.onTables))) = true) : zxw own x ic := by
  refine ⟨zGW_of i hi, fun w hw => ?_⟩
  have h1 := List.all_eq_true.mp h w hw
  simp only [Bool.and_eq_true, Bool.or_eq_true, decide_eq_true_eq] at h1
  rcases h1.2 with h2 | h2
  · exact Or.inl (List.mem_filter.mpr ⟨h1.1, h2⟩)
  · exact Or.inr ⟨List.mem_filter.mpr ⟨h1.1, h2.1⟩, h2.2⟩

theorem uw_0 : ∀ w ∈ u_ws (zCl 0).1 (zCl 0).2.1 (zCl 0).2.2, w ∈ zGW := zin_all (by decide +kernel)
theorem uw_1 : ∀ w ∈ u_ws (zCl 1).1 (zCl 1).2.1 (zCl 1).2.2, w ∈ zGW := zin_all (by decide +kernel)
theorem uw_2 : ∀ w ∈ u_ws (zCl 2).1 (zCl 2).2.1 (zCl 2).2.2, w ∈ zGW := zin_all (by decide +kernel)
theorem uw_3 : ∀ w ∈ u_ws (zCl 3).1 (zCl 3).2.1 (zCl 3).2.2, w ∈ zGW := zin_all (by decide +kernel)
theorem uw_4 : ∀ w ∈ u_ws (zCl 4).1 (zCl 4).2.1 (zCl 4).2.2, w ∈ zGW := zin_all (by decide +kernel)
theorem uw_5 : ∀ w ∈ u_ws (zCl 5).1 (zCl 5).2.1 (zCl 5).2.2, w ∈ zGW := zin_all (by decide +kernel)
theorem uw_6 : ∀ w ∈ u_ws (zCl 6).1 (zCl 6).2.1 (zCl 6).2.2, w ∈ zGW := zin_all (by decide +kernel)
theorem uw_7 : ∀ w ∈ u_ws (zCl 7).1 (zCl 7).2.1 (zCl 7).2.2, w ∈ zGW := zin_all (by decide +kernel)
theorem uw_8 : ∀ w ∈ u_ws (zCl 8).1 (zCl 8).2.1 (zCl 8).2.2, w ∈ zGW := zin_all (by decide +kernel)
theorem uw_9 : ∀ w ∈ u_ws (zCl 9).1 (zCl 9).2.1 (zCl 9).2.2, w ∈ zGW := zin_all (by decide +kernel)
def mX0_init : zMD := (yX0_init, cX0_init, 1, none, [])
def mX0_copyFrom : zMD := (yX0_copyFrom, cX0_copyFrom, 2, none, [])
def mX0_startAs : zMD := (yX0_startAs, cX0_startAs, 6, none, [])
def mX0_isPinnedIn : zMD := (yX0_isPinnedIn, cX0_isPinnedIn, 2, some .boolean, [])
def mX0_forgetSeasons : zMD := (yX0_forgetSeasons, cX0_forgetSeasons, 2, none, [])
def mX0_knownSeasons : zMD := (yX0_knownSeasons, cX0_knownSeasons, 3, some .int, [])
def mX0_busiestPhase : zMD := (yX0_busiestPhase, cX0_busiestPhase, 4, some .int, [])
def mX0_seasonSpread : zMD := (yX0_seasonSpread, cX0_seasonSpread, 5, some .int, [])
def mX0_meanSeason : zMD := (yX0_meanSeason, cX0_meanSeason, 4, some .int, [])
def mX0_forecastFor : zMD := (yX0_forecastFor, cX0_forecastFor, 2, some .int, [])
def mX0_learnSeason : zMD := (yX0_learnSeason, cX0_learnSeason, 6, none, [])
def mX0_scoreForecast : zMD := (yX0_scoreForecast, cX0_scoreForecast, 2, none, [])
def mX0_keepUses : zMD := (yX0_keepUses, cX0_keepUses, 1, none, [])
def mX0_learnFromKept : zMD := (yX0_learnFromKept, cX0_learnFromKept, 6, none, [])
def mX0_differenceAt : zMD := (yX0_differenceAt, cX0_differenceAt, 4, some .int, [])
def mX0_ownCycle : zMD := (yX0_ownCycle, cX0_ownCycle, 7, some .int, [])
def mX1_init : zMD := (yX1_init, cX1_init, 2, none, [])
def mX1_remember : zMD := (yX1_remember, cX1_remember, 2, none, [])
def mX1_bringBack : zMD := (yX1_bringBack, cX1_bringBack, 2, none, [])
def mX2_init : zMD := (yX2_init, cX2_init, 1, none, [])
def mX2_copyFrom : zMD := (yX2_copyFrom, cX2_copyFrom, 2, none, [])
def mX2_latest : zMD := (yX2_latest, cX2_latest, 2, some .int, [])
def mX2_put : zMD := (yX2_put, cX2_put, 7, none, [])
def mX2_removeRow : zMD := (yX2_removeRow, cX2_removeRow, 3, none, [])
def mX2_forgetFile : zMD := (yX2_forgetFile, cX2_forgetFile, 4, none, [])
def mX3_init : zMD := (yX3_init, cX3_init, 1, none, [])
def mX3_makePlan : zMD := (yX3_makePlan, cX3_makePlan, 4, none, [])
def mX3_planAgain : zMD := (yX3_planAgain, cX3_planAgain, 5, none, [])
def mX3_bestTier : zMD := (yX3_bestTier, cX3_bestTier, 8, some .int, [])
def mX3_carryOut : zMD := (yX3_carryOut, cX3_carryOut, 5, some .int, [])
def mX3_findGains : zMD := (yX3_findGains, cX3_findGains, 10, none, [])
def mX3_findMove : zMD := (yX3_findMove, cX3_findMove, 6, some .boolean, [])
def mX3_findExchange : zMD := (yX3_findExchange, cX3_findExchange, 9, some .boolean, [])
def mX3_setBest : zMD := (yX3_setBest, cX3_setBest, 6, none, [])
def mX3_takeStep : zMD := (yX3_takeStep, cX3_takeStep, 3, none, [])
def mX3_takeAway : zMD := (yX3_takeAway, cX3_takeAway, 5, none, [])
def mX4_init : zMD := (yX4_init, cX4_init, 1, none, [])
def mX4_putBytesOf : zMD := (yX4_putBytesOf, cX4_putBytesOf, 4, none, [])
def mX4_readStore : zMD := (yX4_readStore, cX4_readStore, 3, some .int, [])
def mX4_readHead : zMD := (yX4_readHead, cX4_readHead, 4, some .boolean, [])
def mX4_readTiers : zMD := (yX4_readTiers, cX4_readTiers, 3, some .boolean, [])
def mX4_readTier : zMD := (yX4_readTier, cX4_readTier, 3, some .boolean, [])
def mX4_readFiles : zMD := (yX4_readFiles, cX4_readFiles, 3, some .boolean, [])
def mX4_readFile : zMD := (yX4_readFile, cX4_readFile, 6, some .boolean, [])
def mX4_readName : zMD := (yX4_readName, cX4_readName, 2, some .boolean, [])
def mX4_readNumber : zMD := (yX4_readNumber, cX4_readNumber, 4, some .boolean, [])
def mX4_passSemicolon : zMD := (yX4_passSemicolon, cX4_passSemicolon, 1, some .boolean, [])
def mX4_passWord : zMD := (yX4_passWord, cX4_passWord, 2, some .boolean, [])
def mX4_nextIsWord : zMD := (yX4_nextIsWord, cX4_nextIsWord, 3, some .boolean, [])
def mX4_nextByte : zMD := (yX4_nextByte, cX4_nextByte, 1, some .int, [])
def mX4_endOfWord : zMD := (yX4_endOfWord, cX4_endOfWord, 2, some .int, [])
def mX4_isDigit : zMD := (yX4_isDigit, cX4_isDigit, 1, some .boolean, [])
def mX4_fail : zMD := (yX4_fail, cX4_fail, 3, some .boolean, [])
def mX5_init : zMD := (yX5_init, cX5_init, 2, none, [])
def mX5_copyFrom : zMD := (yX5_copyFrom, cX5_copyFrom, 3, none, [])
def mX5_startAs : zMD := (yX5_startAs, cX5_startAs, 3, none, [])
def mX5_startAsNew : zMD := (yX5_startAsNew, cX5_startAsNew, 3, none, [])
def mX5_phaseAhead : zMD := (yX5_phaseAhead, cX5_phaseAhead, 2, some .int, [])
def mX5_tierNamed : zMD := (yX5_tierNamed, cX5_tierNamed, 4, some .int, [])
def mX5_fileNamed : zMD := (yX5_fileNamed, cX5_fileNamed, 4, some .int, [])
def mX5_pinnedFiles : zMD := (yX5_pinnedFiles, cX5_pinnedFiles, 3, some .int, [])
def mX5_sizeOfAll : zMD := (yX5_sizeOfAll, cX5_sizeOfAll, 3, some .int, [])
def mX5_sizeOn : zMD := (yX5_sizeOn, cX5_sizeOn, 4, some .int, [])
def mX5_filesOn : zMD := (yX5_filesOn, cX5_filesOn, 4, some .int, [])
def mX5_mostUsedOn : zMD := (yX5_mostUsedOn, cX5_mostUsedOn, 7, some .int, [])
def mX5_hasRoomFor : zMD := (yX5_hasRoomFor, cX5_hasRoomFor, 3, some .boolean, [])
def mX5_paidOnAll : zMD := (yX5_paidOnAll, cX5_paidOnAll, 5, some .long, [])
def mX5_forecastSum : zMD := (yX5_forecastSum, cX5_forecastSum, 9, some .long, [])
def mX5_costOn : zMD := (yX5_costOn, cX5_costOn, 9, some .long, [])
def mX5_moveCost : zMD := (yX5_moveCost, cX5_moveCost, 4, some .int, [])
def mX5_putTier : zMD := (yX5_putTier, cX5_putTier, 3, none, [])
def mX5_putFile : zMD := (yX5_putFile, cX5_putFile, 6, none, [])
def mX5_removeFile : zMD := (yX5_removeFile, cX5_removeFile, 4, none, [])
def mX5_endPeriod : zMD := (yX5_endPeriod, cX5_endPeriod, 6, some .long, [])
def mX5_payFor : zMD := (yX5_payFor, cX5_payFor, 7, some .long, [])
def mX5_carry : zMD := (yX5_carry, cX5_carry, 6, some .int, [])
def mX5_carryBack : zMD := (yX5_carryBack, cX5_carryBack, 2, none, [])
def mX5_learnAgain : zMD := (yX5_learnAgain, cX5_learnAgain, 4, none, [])
def mX6_init : zMD := (yX6_init, cX6_init, 1, none, [])
def mX6_copyFrom : zMD := (yX6_copyFrom, cX6_copyFrom, 3, none, [])
def mX6_startAs : zMD := (yX6_startAs, cX6_startAs, 4, none, [])
def mX6_paidFor : zMD := (yX6_paidFor, cX6_paidFor, 2, some .long, [])
def mX7_init : zMD := (yX7_init, cX7_init, 1, none, [])
def mX7_withLetter : zMD := (yX7_withLetter, cX7_withLetter, 3, some .long, [])
def mX7_writeStore : zMD := (yX7_writeStore, cX7_writeStore, 3, none, [])
def mX7_putFilesOn : zMD := (yX7_putFilesOn, cX7_putFilesOn, 5, none, [])
def mX7_putName : zMD := (yX7_putName, cX7_putName, 5, none, [])
def mX7_putByte : zMD := (yX7_putByte, cX7_putByte, 2, none, [])
def mX8_init : zMD := (yX8_init, cX8_init, 2, none, [])
def mX8_append : zMD := (yX8_append, cX8_append, 7, some .int, [])
def mX8_load : zMD := (yX8_load, cX8_load, 2, some .int, [])
def mX8_errorPosition : zMD := (yX8_errorPosition, cX8_errorPosition, 1, some .int, [])
def mX8_count : zMD := (yX8_count, cX8_count, 2, some .int, [])
def mX8_tier : zMD := (yX8_tier, cX8_tier, 3, some .int, [])
def mX8_file : zMD := (yX8_file, cX8_file, 4, some .int, [])
def mX8_season : zMD := (yX8_season, cX8_season, 3, some .int, [])
def mX8_kept : zMD := (yX8_kept, cX8_kept, 3, some .int, [])
def mX8_forecast : zMD := (yX8_forecast, cX8_forecast, 3, some .int, [])
def mX8_off : zMD := (yX8_off, cX8_off, 2, some .long, [])
def mX8_meanOff : zMD := (yX8_meanOff, cX8_meanOff, 5, some .double, [])
def mX8_cycleOf : zMD := (yX8_cycleOf, cX8_cycleOf, 2, some .int, [])
def mX8_commonCycle : zMD := (yX8_commonCycle, cX8_commonCycle, 4, some .int, [])
def mX8_account : zMD := (yX8_account, cX8_account, 3, some .long, [])
def mX8_movingShare : zMD := (yX8_movingShare, cX8_movingShare, 3, some .float, [])
def mX8_cost : zMD := (yX8_cost, cX8_cost, 4, some .long, [])
def mX8_wish : zMD := (yX8_wish, cX8_wish, 3, some .int, [])
def mX8_steps : zMD := (yX8_steps, cX8_steps, 2, some .int, [])
def mX8_step : zMD := (yX8_step, cX8_step, 4, some .int, [])
def mX8_saving : zMD := (yX8_saving, cX8_saving, 2, some .long, [])
def mX8_withRoom : zMD := (yX8_withRoom, cX8_withRoom, 6, some .long, [])
def mX8_add : zMD := (yX8_add, cX8_add, 3, some .int, [])
def mX8_drop : zMD := (yX8_drop, cX8_drop, 2, some .int, [])
def mX8_use : zMD := (yX8_use, cX8_use, 4, some .int, [])
def mX8_close : zMD := (yX8_close, cX8_close, 1, some .long, [])
def mX8_move : zMD := (yX8_move, cX8_move, 4, some .int, [])
def mX8_unmove : zMD := (yX8_unmove, cX8_unmove, 2, some .int, [])
def mX8_pin : zMD := (yX8_pin, cX8_pin, 4, some .int, [])
def mX8_act : zMD := (yX8_act, cX8_act, 2, some .int, [])
def mX8_learn : zMD := (yX8_learn, cX8_learn, 4, some .int, [])
def mX8_setTier : zMD := (yX8_setTier, cX8_setTier, 5, some .int, [])
def mX8_undo : zMD := (yX8_undo, cX8_undo, 1, some .int, [])
def mX8_save : zMD := (yX8_save, cX8_save, 2, none, [])
def mX8_restore : zMD := (yX8_restore, cX8_restore, 2, some .int, [])
def mX8_writeTiers : zMD := (yX8_writeTiers, cX8_writeTiers, 1, some .int, [])
def mX8_writtenByte : zMD := (yX8_writtenByte, cX8_writtenByte, 2, some .int, [])
def mX8_requireTier : zMD := (yX8_requireTier, cX8_requireTier, 2, none, [])
def mX8_requireFile : zMD := (yX8_requireFile, cX8_requireFile, 2, none, [])
def mX8_requireSlot : zMD := (yX8_requireSlot, cX8_requireSlot, 1, none, [])
def mX8_requirePeriods : zMD := (yX8_requirePeriods, cX8_requirePeriods, 1, none, [])
def mX8_requireWithin : zMD := (yX8_requireWithin, cX8_requireWithin, 3, none, [])
def mX8_leastOf : zMD := (yX8_leastOf, cX8_leastOf, 1, some .int, [])
def mX8_greatestOf : zMD := (yX8_greatestOf, cX8_greatestOf, 1, some .int, [])
def mX8_bytesIn : zMD := (yX8_bytesIn, cX8_bytesIn, 3, some .int, [])
def mX9_init : zMD := (yX9_init, cX9_init, 2, none, [])
def mX9_puts : zMD := (yX9_puts, cX9_puts, 7, none, [])
def mX9_begins : zMD := (yX9_begins, cX9_begins, 2, none, [])
def mX9_thrown : zMD := (yX9_thrown, cX9_thrown, 1, some .int, [])
def mX9_isIn : zMD := (yX9_isIn, cX9_isIn, 3, some .boolean, [])
def mX9_copies : zMD := (yX9_copies, cX9_copies, 5, none, [])
def mX9_keeps : zMD := (yX9_keeps, cX9_keeps, 3, none, [])
def mX9_undo : zMD := (yX9_undo, cX9_undo, 1, some .int, [])
def mX9_save : zMD := (yX9_save, cX9_save, 2, none, [])
def mX9_restore : zMD := (yX9_restore, cX9_restore, 2, some .int, [])
def mX9_byteOf : zMD := (yX9_byteOf, cX9_byteOf, 7, some .int, [])
def mX9_append : zMD := (yX9_append, cX9_append, 9, some .int, [])
def mX9_see : zMD := (yX9_see, cX9_see, 2, some .int, [])
def mX9_isLetter : zMD := (yX9_isLetter, cX9_isLetter, 2, some .boolean, [])
def mX9_isDigit : zMD := (yX9_isDigit, cX9_isDigit, 2, some .boolean, [])
def mX9_next : zMD := (yX9_next, cX9_next, 1, none, [])
def mX9_isWord : zMD := (yX9_isWord, cX9_isWord, 3, some .boolean, [])
def mX9_fails : zMD := (yX9_fails, cX9_fails, 2, none, [])
def mX9_must : zMD := (yX9_must, cX9_must, 2, none, [])
def mX9_mustEnd : zMD := (yX9_mustEnd, cX9_mustEnd, 1, none, [])
def mX9_takes : zMD := (yX9_takes, cX9_takes, 4, some .int, [])
def mX9_mustName : zMD := (yX9_mustName, cX9_mustName, 1, none, [])
def mX9_named : zMD := (yX9_named, cX9_named, 7, some .int, [])
def mX9_putsName : zMD := (yX9_putsName, cX9_putsName, 3, none, [])
def mX9_readsTier : zMD := (yX9_readsTier, cX9_readsTier, 3, none, [])
def mX9_readsFile : zMD := (yX9_readsFile, cX9_readsFile, 5, none, [])
def mX9_begins0 : zMD := (yX9_begins0, cX9_begins0, 3, none, [])
def mX9_load : zMD := (yX9_load, cX9_load, 1, some .int, [])
def mX9_errorPosition : zMD := (yX9_errorPosition, cX9_errorPosition, 1, some .int, [])
def mX9_its : zMD := (yX9_its, cX9_its, 2, some .int, [])
def mX9_tiers : zMD := (yX9_tiers, cX9_tiers, 1, some .int, [])
def mX9_files : zMD := (yX9_files, cX9_files, 1, some .int, [])
def mX9_ofTier : zMD := (yX9_ofTier, cX9_ofTier, 3, some .int, [])
def mX9_of : zMD := (yX9_of, cX9_of, 3, some .int, [])
def mX9_sets : zMD := (yX9_sets, cX9_sets, 5, none, [])
def mX9_isTier : zMD := (yX9_isTier, cX9_isTier, 2, some .boolean, [])
def mX9_isFile : zMD := (yX9_isFile, cX9_isFile, 2, some .boolean, [])
def mX9_fullOf : zMD := (yX9_fullOf, cX9_fullOf, 4, some .int, [])
def mX9_freeOn : zMD := (yX9_freeOn, cX9_freeOn, 2, some .int, [])
def mX9_isPinned : zMD := (yX9_isPinned, cX9_isPinned, 2, some .boolean, [])
def mX9_knownOf : zMD := (yX9_knownOf, cX9_knownOf, 4, some .int, [])
def mX9_forecastOf : zMD := (yX9_forecastOf, cX9_forecastOf, 7, some .int, [])
def mX9_learns : zMD := (yX9_learns, cX9_learns, 5, none, [])
def mX9_keepsUses : zMD := (yX9_keepsUses, cX9_keepsUses, 4, none, [])
def mX9_relearns : zMD := (yX9_relearns, cX9_relearns, 4, none, [])
def mX9_seasonsOf : zMD := (yX9_seasonsOf, cX9_seasonsOf, 7, some .int, [])
def mX9_strange : zMD := (yX9_strange, cX9_strange, 6, some .int, [])
def mX9_ownCycle : zMD := (yX9_ownCycle, cX9_ownCycle, 6, some .int, [])
def mX9_pinned : zMD := (yX9_pinned, cX9_pinned, 3, some .int, [])
def mX9_sizes : zMD := (yX9_sizes, cX9_sizes, 3, some .int, [])
def mX9_count : zMD := (yX9_count, cX9_count, 2, some .int, [])
def mX9_filesOn : zMD := (yX9_filesOn, cX9_filesOn, 4, some .int, [])
def mX9_busiest : zMD := (yX9_busiest, cX9_busiest, 4, some .int, [])
def mX9_tier : zMD := (yX9_tier, cX9_tier, 3, some .int, [])
def mX9_file : zMD := (yX9_file, cX9_file, 3, some .int, [])
def mX9_season : zMD := (yX9_season, cX9_season, 3, some .int, [])
def mX9_kept : zMD := (yX9_kept, cX9_kept, 3, some .int, [])
def mX9_forecast : zMD := (yX9_forecast, cX9_forecast, 3, some .int, [])
def mX9_off : zMD := (yX9_off, cX9_off, 2, some .long, [])
def mX9_meanOff : zMD := (yX9_meanOff, cX9_meanOff, 5, some .double, [])
def mX9_cycleOf : zMD := (yX9_cycleOf, cX9_cycleOf, 2, some .int, [])
def mX9_commonCycle : zMD := (yX9_commonCycle, cX9_commonCycle, 6, some .int, [])
def mX9_sumOf : zMD := (yX9_sumOf, cX9_sumOf, 7, some .long, [])
def mX9_account : zMD := (yX9_account, cX9_account, 3, some .long, [])
def mX9_movingShare : zMD := (yX9_movingShare, cX9_movingShare, 3, some .float, [])
def mX9_costOn : zMD := (yX9_costOn, cX9_costOn, 7, some .long, [])
def mX9_savesBy : zMD := (yX9_savesBy, cX9_savesBy, 4, some .long, [])
def mX9_laysCosts : zMD := (yX9_laysCosts, cX9_laysCosts, 4, none, [])
def mX9_canGo : zMD := (yX9_canGo, cX9_canGo, 2, some .boolean, [])
def mX9_found : zMD := (yX9_found, cX9_found, 6, none, [])
def mX9_findsMove : zMD := (yX9_findsMove, cX9_findsMove, 3, none, [])
def mX9_findsExchange : zMD := (yX9_findsExchange, cX9_findsExchange, 6, none, [])
def mX9_goesOnPaper : zMD := (yX9_goesOnPaper, cX9_goesOnPaper, 3, none, [])
def mX9_plans : zMD := (yX9_plans, cX9_plans, 5, none, [])
def mX9_findsStep : zMD := (yX9_findsStep, cX9_findsStep, 1, some .boolean, [])
def mX9_isSpan : zMD := (yX9_isSpan, cX9_isSpan, 1, some .boolean, [])
def mX9_cost : zMD := (yX9_cost, cX9_cost, 4, some .long, [])
def mX9_wish : zMD := (yX9_wish, cX9_wish, 9, some .int, [])
def mX9_steps : zMD := (yX9_steps, cX9_steps, 2, some .int, [])
def mX9_step : zMD := (yX9_step, cX9_step, 4, some .int, [])
def mX9_saving : zMD := (yX9_saving, cX9_saving, 2, some .long, [])
def mX9_withRoom : zMD := (yX9_withRoom, cX9_withRoom, 6, some .long, [])
def mX9_refused : zMD := (yX9_refused, cX9_refused, 1, some .int, [])
def mX9_add : zMD := (yX9_add, cX9_add, 4, some .int, [])
def mX9_drop : zMD := (yX9_drop, cX9_drop, 7, some .int, [])
def mX9_use : zMD := (yX9_use, cX9_use, 3, some .int, [])
def mX9_pays : zMD := (yX9_pays, cX9_pays, 5, none, [])
def mX9_closes : zMD := (yX9_closes, cX9_closes, 5, none, [])
def mX9_close : zMD := (yX9_close, cX9_close, 4, some .long, [])
def mX9_goes : zMD := (yX9_goes, cX9_goes, 7, some .int, [])
def mX9_move : zMD := (yX9_move, cX9_move, 3, some .int, [])
def mX9_unmove : zMD := (yX9_unmove, cX9_unmove, 4, some .int, [])
def mX9_pin : zMD := (yX9_pin, cX9_pin, 4, some .int, [])
def mX9_act : zMD := (yX9_act, cX9_act, 5, some .int, [])
def mX9_learn : zMD := (yX9_learn, cX9_learn, 5, some .int, [])
def mX9_setTier : zMD := (yX9_setTier, cX9_setTier, 6, some .int, [])
def mX9_says : zMD := (yX9_says, cX9_says, 3, none, [])
def mX9_saysName : zMD := (yX9_saysName, cX9_saysName, 3, none, [])
def mX9_writeTiers : zMD := (yX9_writeTiers, cX9_writeTiers, 4, some .int, [])
def mX9_writtenByte : zMD := (yX9_writtenByte, cX9_writtenByte, 2, some .int, [])
def mJ9_floorMod_7cf53 : zMD := (yJ9_floorMod_7cf53, cJ9_floorMod_7cf53, 3, some .int, [])
def mJ9_abs_0f7a4 : zMD := (yJ9_abs_0f7a4, cJ9_abs_0f7a4, 1, some .int, [])
def mJ9_max_7cf53 : zMD := (yJ9_max_7cf53, cJ9_max_7cf53, 2, some .int, [])
def mJ9_min_7cf53 : zMD := (yJ9_min_7cf53, cJ9_min_7cf53, 2, some .int, [])
def mJ0_length_8abf5 : zMD := (yJ0_length_8abf5, cJ0_length_8abf5, 1, some .int, [])
def mJ0_charAt_5068e : zMD := (yJ0_charAt_5068e, cJ0_charAt_5068e, 2, some .char, [])
def mJ0_coder_7d493 : zMD := (yJ0_coder_7d493, cJ0_coder_7d493, 1, some .byte, [])
def mJ0_isLatin1_aae02 : zMD := (yJ0_isLatin1_aae02, cJ0_isLatin1_aae02, 1, some .boolean, [])
def mJ0_checkIndex_df160 : zMD := (yJ0_checkIndex_df160, cJ0_checkIndex_df160, 2, none, [])
def mJ1_charAt_3b067 : zMD := (yJ1_charAt_3b067, cJ1_charAt_3b067, 2, some .char, [])
def mJ2_getChar_3b067 : zMD := (yJ2_getChar_3b067, cJ2_getChar_3b067, 2, some .char, [])
def mJ2_length_9d52b : zMD := (yJ2_length_9d52b, cJ2_length_9d52b, 1, some .int, [])
def mJ2_charAt_3b067 : zMD := (yJ2_charAt_3b067, cJ2_charAt_3b067, 2, some .char, [])
def mJ2_checkIndex_2214a : zMD := (yJ2_checkIndex_2214a, cJ2_checkIndex_2214a, 2, none, [])
def mJ3_checkIndex_8e157 : zMD := (yJ3_checkIndex_8e157, cJ3_checkIndex_8e157, 3, some .int, [])
def mL_append : zMD := (yL_append, cL_append, 8, some .int, [(0, 16, 19, 13)])
def mL_count : zMD := (yL_count, cL_count, 4, some .int, [(0, 9, 12, 19)])
def mL_tier : zMD := (yL_tier, cL_tier, 5, some .int, [(0, 10, 13, 25), (0, 10, 17, 19)])
def mL_file : zMD := (yL_file, cL_file, 5, some .int, [(0, 10, 13, 25), (0, 10, 17, 19)])
def mL_season : zMD := (yL_season, cL_season, 5, some .int, [(0, 10, 13, 25)])
def mL_kept : zMD := (yL_kept, cL_kept, 5, some .int, [(0, 10, 13, 25)])
def mL_forecast : zMD := (yL_forecast, cL_forecast, 5, some .int, [(0, 10, 13, 25), (0, 10, 17, 19)])
def mL_off : zMD := (yL_off, cL_off, 4, some .int, [(0, 8, 11, 25)])
def mL_cycleOf : zMD := (yL_cycleOf, cL_cycleOf, 4, some .int, [(0, 9, 12, 25)])
def mL_account : zMD := (yL_account, cL_account, 5, some .int, [(0, 9, 12, 25), (0, 9, 16, 19)])
def mL_cost : zMD := (yL_cost, cL_cost, 6, some .int, [(0, 11, 14, 25), (0, 11, 18, 19)])
def mL_wish : zMD := (yL_wish, cL_wish, 5, some .int, [(0, 10, 13, 25), (0, 10, 17, 19)])
def mL_steps : zMD := (yL_steps, cL_steps, 4, some .int, [(0, 9, 12, 19)])
def mL_step : zMD := (yL_step, cL_step, 6, some .int, [(0, 12, 15, 19), (0, 12, 19, 25)])
def mL_saving : zMD := (yL_saving, cL_saving, 4, some .int, [(0, 8, 11, 19)])
def mL_withRoom : zMD := (yL_withRoom, cL_withRoom, 6, some .int, [(0, 11, 14, 25), (0, 11, 18, 19)])
def mL_add : zMD := (yL_add, cL_add, 5, some .int, [(0, 10, 13, 19), (0, 10, 17, 25)])
def mL_drop : zMD := (yL_drop, cL_drop, 4, some .int, [(0, 9, 12, 25)])
def mL_use : zMD := (yL_use, cL_use, 5, some .int, [(0, 10, 13, 25), (0, 10, 17, 19)])
def mL_move : zMD := (yL_move, cL_move, 5, some .int, [(0, 10, 13, 25)])
def mL_pin : zMD := (yL_pin, cL_pin, 5, some .int, [(0, 10, 13, 25), (0, 10, 17, 19)])
def mL_act : zMD := (yL_act, cL_act, 4, some .int, [(0, 9, 12, 19)])
def mL_learn : zMD := (yL_learn, cL_learn, 5, some .int, [(0, 10, 13, 19)])
def mL_setTier : zMD := (yL_setTier, cL_setTier, 6, some .int, [(0, 12, 15, 25), (0, 12, 19, 19)])
def mL_undo : zMD := (yL_undo, cL_undo, 3, some .int, [(0, 8, 11, 13)])
def mL_save : zMD := (yL_save, cL_save, 3, some .int, [(0, 5, 8, 25)])
def mL_restore : zMD := (yL_restore, cL_restore, 4, some .int, [(0, 9, 12, 25), (0, 9, 15, 13)])
def mL_writtenByte : zMD := (yL_writtenByte, cL_writtenByte, 4, some .int, [(0, 9, 12, 25)])
theorem cd_X0_init : Cond.code (yN mX0_init) (yC mX0_init) (yL mX0_init) (yR mX0_init) ∈ zGW := zGW_of 269 (by decide +kernel)
theorem im_X0_init : Cond.instanceMethod (yN mX0_init) ∈ zGW := zGW_of 268 (by decide +kernel)
theorem iw_X0_init : Cond.initialized (yN mX0_init).cls ∈ zGW := zGW_of 91 (by decide +kernel)
theorem np_X0_init : (yN mX0_init).cls ≠ "java/lang/invoke/MethodHandle" ∧ (yN mX0_init).cls ≠ "java/lang/invoke/VarHandle" ∧ (parseMethodDescriptor (yN mX0_init).desc).map (fun d => d.parameters.length) = some 0 := by decide +kernel
theorem cd_X0_copyFrom : Cond.code (yN mX0_copyFrom) (yC mX0_copyFrom) (yL mX0_copyFrom) (yR mX0_copyFrom) ∈ zGW := zGW_of 596 (by decide +kernel)
theorem im_X0_copyFrom : Cond.instanceMethod (yN mX0_copyFrom) ∈ zGW := zGW_of 594 (by decide +kernel)
theorem sl_X0_copyFrom : Cond.selects (yN mX0_copyFrom).cls (yN mX0_copyFrom) (yN mX0_copyFrom) ∈ zGW := zGW_of 595 (by decide +kernel)
theorem np_X0_copyFrom : (yN mX0_copyFrom).cls ≠ "java/lang/invoke/MethodHandle" ∧ (yN mX0_copyFrom).cls ≠ "java/lang/invoke/VarHandle" ∧ (parseMethodDescriptor (yN mX0_copyFrom).desc).map (fun d => d.parameters.length) = some 1 := by decide +kernel
theorem cd_X0_startAs : Cond.code (yN mX0_startAs) (yC mX0_startAs) (yL mX0_startAs) (yR mX0_startAs) ∈ zGW := zGW_of 576 (by decide +kernel)
theorem im_X0_startAs : Cond.instanceMethod (yN mX0_startAs) ∈ zGW := zGW_of 574 (by decide +kernel)
theorem sl_X0_startAs : Cond.selects (yN mX0_startAs).cls (yN mX0_startAs) (yN mX0_startAs) ∈ zGW := zGW_of 575 (by decide +kernel)
theorem np_X0_startAs : (yN mX0_startAs).cls ≠ "java/lang/invoke/MethodHandle" ∧ (yN mX0_startAs).cls ≠ "java/lang/invoke/VarHandle" ∧ (parseMethodDescriptor (yN mX0_startAs).desc).map (fun d => d.parameters.length) = some 4 := by decide +kernel
theorem cd_X0_isPinnedIn : Cond.code (yN mX0_isPinnedIn) (yC mX0_isPinnedIn) (yL mX0_isPinnedIn) (yR mX0_isPinnedIn) ∈ zGW := zGW_of 810 (by decide +kernel)
theorem im_X0_isPinnedIn : Cond.instanceMethod (yN mX0_isPinnedIn) ∈ zGW := zGW_of 808 (by decide +kernel)
theorem sl_X0_isPinnedIn : Cond.selects (yN mX0_isPinnedIn).cls (yN mX0_isPinnedIn) (yN mX0_isPinnedIn) ∈ zGW := zGW_of 809 (by decide +kernel)
theorem np_X0_isPinnedIn : (yN mX0_isPinnedIn).cls ≠ "java/lang/invoke/MethodHandle" ∧ (yN mX0_isPinnedIn).cls ≠ "java/lang/invoke/VarHandle" ∧ (parseMethodDescriptor (yN mX0_isPinnedIn).desc).map (fun d => d.parameters.length) = some 1 := by decide +kernel
theorem cd_X0_forgetSeasons : Cond.code (yN mX0_forgetSeasons) (yC mX0_forgetSeasons) (yL mX0_forgetSeasons) (yR mX0_forgetSeasons) ∈ zGW := zGW_of 580 (by decide +kernel)
theorem im_X0_forgetSeasons : Cond.instanceMethod (yN mX0_forgetSeasons) ∈ zGW := zGW_of 578 (by decide +kernel)
theorem sl_X0_forgetSeasons : Cond.selects (yN mX0_forgetSeasons).cls (yN mX0_forgetSeasons) (yN mX0_forgetSeasons) ∈ zGW := zGW_of 579 (by decide +kernel)
theorem np_X0_forgetSeasons : (yN mX0_forgetSeasons).cls ≠ "java/lang/invoke/MethodHandle" ∧ (yN mX0_forgetSeasons).cls ≠ "java/lang/invoke/VarHandle" ∧ (parseMethodDescriptor (yN mX0_forgetSeasons).desc).map (fun d => d.parameters.length) = some 0 := by decide +kernel
theorem cd_X0_knownSeasons : Cond.code (yN mX0_knownSeasons) (yC mX0_knownSeasons) (yL mX0_knownSeasons) (yR mX0_knownSeasons) ∈ zGW := zGW_of 666 (by decide +kernel)
theorem im_X0_knownSeasons : Cond.instanceMethod (yN mX0_knownSeasons) ∈ zGW := zGW_of 664 (by decide +kernel)
theorem sl_X0_knownSeasons : Cond.selects (yN mX0_knownSeasons).cls (yN mX0_knownSeasons) (yN mX0_knownSeasons) ∈ zGW := zGW_of 665 (by decide +kernel)
theorem np_X0_knownSeasons : (yN mX0_knownSeasons).cls ≠ "java/lang/invoke/MethodHandle" ∧ (yN mX0_knownSeasons).cls ≠ "java/lang/invoke/VarHandle" ∧ (parseMethodDescriptor (yN mX0_knownSeasons).desc).map (fun d => d.parameters.length) = some 0 := by decide +kernel
theorem cd_X0_busiestPhase : Cond.code (yN mX0_busiestPhase) (yC mX0_busiestPhase) (yL mX0_busiestPhase) (yR mX0_busiestPhase) ∈ zGW := zGW_of 883 (by decide +kernel)
theorem im_X0_busiestPhase : Cond.instanceMethod (yN mX0_busiestPhase) ∈ zGW := zGW_of 881 (by decide +kernel)
theorem sl_X0_busiestPhase : Cond.selects (yN mX0_busiestPhase).cls (yN mX0_busiestPhase) (yN mX0_busiestPhase) ∈ zGW := zGW_of 882 (by decide +kernel)
theorem np_X0_busiestPhase : (yN mX0_busiestPhase).cls ≠ "java/lang/invoke/MethodHandle" ∧ (yN mX0_busiestPhase).cls ≠ "java/lang/invoke/VarHandle" ∧ (parseMethodDescriptor (yN mX0_busiestPhase).desc).map (fun d => d.parameters.length) = some 0 := by decide +kernel
theorem cd_X0_seasonSpread : Cond.code (yN mX0_seasonSpread) (yC mX0_seasonSpread) (yL mX0_seasonSpread) (yR mX0_seasonSpread) ∈ zGW := zGW_of 887 (by decide +kernel)
theorem im_X0_seasonSpread : Cond.instanceMethod (yN mX0_seasonSpread) ∈ zGW := zGW_of 885 (by decide +kernel)
theorem sl_X0_seasonSpread : Cond.selects (yN mX0_seasonSpread).cls (yN mX0_seasonSpread) (yN mX0_seasonSpread) ∈ zGW := zGW_of 886 (by decide +kernel)
theorem np_X0_seasonSpread : (yN mX0_seasonSpread).cls ≠ "java/lang/invoke/MethodHandle" ∧ (yN mX0_seasonSpread).cls ≠ "java/lang/invoke/VarHandle" ∧ (parseMethodDescriptor (yN mX0_seasonSpread).desc).map (fun d => d.parameters.length) = some 0 := by decide +kernel
theorem cd_X0_meanSeason : Cond.code (yN mX0_meanSeason) (yC mX0_meanSeason) (yL mX0_meanSeason) (yR mX0_meanSeason) ∈ zGW := zGW_of 674 (by decide +kernel)
theorem im_X0_meanSeason : Cond.instanceMethod (yN mX0_meanSeason) ∈ zGW := zGW_of 672 (by decide +kernel)
theorem sl_X0_meanSeason : Cond.selects (yN mX0_meanSeason).cls (yN mX0_meanSeason) (yN mX0_meanSeason) ∈ zGW := zGW_of 673 (by decide +kernel)
theorem np_X0_meanSeason : (yN mX0_meanSeason).cls ≠ "java/lang/invoke/MethodHandle" ∧ (yN mX0_meanSeason).cls ≠ "java/lang/invoke/VarHandle" ∧ (parseMethodDescriptor (yN mX0_meanSeason).desc).map (fun d => d.parameters.length) = some 0 := by decide +kernel
theorem cd_X0_forecastFor : Cond.code (yN mX0_forecastFor) (yC mX0_forecastFor) (yL mX0_forecastFor) (yR mX0_forecastFor) ∈ zGW := zGW_of 670 (by decide +kernel)
theorem im_X0_forecastFor : Cond.instanceMethod (yN mX0_forecastFor) ∈ zGW := zGW_of 668 (by decide +kernel)
theorem sl_X0_forecastFor : Cond.selects (yN mX0_forecastFor).cls (yN mX0_forecastFor) (yN mX0_forecastFor) ∈ zGW := zGW_of 669 (by decide +kernel)
theorem np_X0_forecastFor : (yN mX0_forecastFor).cls ≠ "java/lang/invoke/MethodHandle" ∧ (yN mX0_forecastFor).cls ≠ "java/lang/invoke/VarHandle" ∧ (parseMethodDescriptor (yN mX0_forecastFor).desc).map (fun d => d.parameters.length) = some 1 := by decide +kernel
theorem cd_X0_learnSeason : Cond.code (yN mX0_learnSeason) (yC mX0_learnSeason) (yL mX0_learnSeason) (yR mX0_learnSeason) ∈ zGW := zGW_of 678 (by decide +kernel)
theorem im_X0_learnSeason : Cond.instanceMethod (yN mX0_learnSeason) ∈ zGW := zGW_of 676 (by decide +kernel)
theorem sl_X0_learnSeason : Cond.selects (yN mX0_learnSeason).cls (yN mX0_learnSeason) (yN mX0_learnSeason) ∈ zGW := zGW_of 677 (by decide +kernel)
theorem np_X0_learnSeason : (yN mX0_learnSeason).cls ≠ "java/lang/invoke/MethodHandle" ∧ (yN mX0_learnSeason).cls ≠ "java/lang/invoke/VarHandle" ∧ (parseMethodDescriptor (yN mX0_learnSeason).desc).map (fun d => d.parameters.length) = some 3 := by decide +kernel
theorem cd_X0_scoreForecast : Cond.code (yN mX0_scoreForecast) (yC mX0_scoreForecast) (yL mX0_scoreForecast) (yR mX0_scoreForecast) ∈ zGW := zGW_of 662 (by decide +kernel)
theorem im_X0_scoreForecast : Cond.instanceMethod (yN mX0_scoreForecast) ∈ zGW := zGW_of 660 (by decide +kernel)
theorem sl_X0_scoreForecast : Cond.selects (yN mX0_scoreForecast).cls (yN mX0_scoreForecast) (yN mX0_scoreForecast) ∈ zGW := zGW_of 661 (by decide +kernel)
theorem np_X0_scoreForecast : (yN mX0_scoreForecast).cls ≠ "java/lang/invoke/MethodHandle" ∧ (yN mX0_scoreForecast).cls ≠ "java/lang/invoke/VarHandle" ∧ (parseMethodDescriptor (yN mX0_scoreForecast).desc).map (fun d => d.parameters.length) = some 1 := by decide +kernel
theorem cd_X0_keepUses : Cond.code (yN mX0_keepUses) (yC mX0_keepUses) (yL mX0_keepUses) (yR mX0_keepUses) ∈ zGW := zGW_of 682 (by decide +kernel)
theorem im_X0_keepUses : Cond.instanceMethod (yN mX0_keepUses) ∈ zGW := zGW_of 680 (by decide +kernel)
theorem sl_X0_keepUses : Cond.selects (yN mX0_keepUses).cls (yN mX0_keepUses) (yN mX0_keepUses) ∈ zGW := zGW_of 681 (by decide +kernel)
theorem np_X0_keepUses : (yN mX0_keepUses).cls ≠ "java/lang/invoke/MethodHandle" ∧ (yN mX0_keepUses).cls ≠ "java/lang/invoke/VarHandle" ∧ (parseMethodDescriptor (yN mX0_keepUses).desc).map (fun d => d.parameters.length) = some 0 := by decide +kernel
theorem cd_X0_learnFromKept : Cond.code (yN mX0_learnFromKept) (yC mX0_learnFromKept) (yL mX0_learnFromKept) (yR mX0_learnFromKept) ∈ zGW := zGW_of 1119 (by decide +kernel)
theorem im_X0_learnFromKept : Cond.instanceMethod (yN mX0_learnFromKept) ∈ zGW := zGW_of 1117 (by decide +kernel)
theorem sl_X0_learnFromKept : Cond.selects (yN mX0_learnFromKept).cls (yN mX0_learnFromKept) (yN mX0_learnFromKept) ∈ zGW := zGW_of 1118 (by decide +kernel)
theorem np_X0_learnFromKept : (yN mX0_learnFromKept).cls ≠ "java/lang/invoke/MethodHandle" ∧ (yN mX0_learnFromKept).cls ≠ "java/lang/invoke/VarHandle" ∧ (parseMethodDescriptor (yN mX0_learnFromKept).desc).map (fun d => d.parameters.length) = some 3 := by decide +kernel
theorem cd_X0_differenceAt : Cond.code (yN mX0_differenceAt) (yC mX0_differenceAt) (yL mX0_differenceAt) (yR mX0_differenceAt) ∈ zGW := zGW_of 626 (by decide +kernel)
theorem im_X0_differenceAt : Cond.instanceMethod (yN mX0_differenceAt) ∈ zGW := zGW_of 624 (by decide +kernel)
theorem sl_X0_differenceAt : Cond.selects (yN mX0_differenceAt).cls (yN mX0_differenceAt) (yN mX0_differenceAt) ∈ zGW := zGW_of 625 (by decide +kernel)
theorem np_X0_differenceAt : (yN mX0_differenceAt).cls ≠ "java/lang/invoke/MethodHandle" ∧ (yN mX0_differenceAt).cls ≠ "java/lang/invoke/VarHandle" ∧ (parseMethodDescriptor (yN mX0_differenceAt).desc).map (fun d => d.parameters.length) = some 1 := by decide +kernel
theorem cd_X0_ownCycle : Cond.code (yN mX0_ownCycle) (yC mX0_ownCycle) (yL mX0_ownCycle) (yR mX0_ownCycle) ∈ zGW := zGW_of 622 (by decide +kernel)
theorem im_X0_ownCycle : Cond.instanceMethod (yN mX0_ownCycle) ∈ zGW := zGW_of 620 (by decide +kernel)
theorem sl_X0_ownCycle : Cond.selects (yN mX0_ownCycle).cls (yN mX0_ownCycle) (yN mX0_ownCycle) ∈ zGW := zGW_of 621 (by decide +kernel)
theorem np_X0_ownCycle : (yN mX0_ownCycle).cls ≠ "java/lang/invoke/MethodHandle" ∧ (yN mX0_ownCycle).cls ≠ "java/lang/invoke/VarHandle" ∧ (parseMethodDescriptor (yN mX0_ownCycle).desc).map (fun d => d.parameters.length) = some 0 := by decide +kernel
theorem cd_X1_init : Cond.code (yN mX1_init) (yC mX1_init) (yL mX1_init) (yR mX1_init) ∈ zGW := zGW_of 216 (by decide +kernel)
theorem im_X1_init : Cond.instanceMethod (yN mX1_init) ∈ zGW := zGW_of 215 (by decide +kernel)
theorem iw_X1_init : Cond.initialized (yN mX1_init).cls ∈ zGW := zGW_of 87 (by decide +kernel)
theorem np_X1_init : (yN mX1_init).cls ≠ "java/lang/invoke/MethodHandle" ∧ (yN mX1_init).cls ≠ "java/lang/invoke/VarHandle" ∧ (parseMethodDescriptor (yN mX1_init).desc).map (fun d => d.parameters.length) = some 0 := by decide +kernel
theorem cd_X1_remember : Cond.code (yN mX1_remember) (yC mX1_remember) (yL mX1_remember) (yR mX1_remember) ∈ zGW := zGW_of 584 (by decide +kernel)
theorem im_X1_remember : Cond.instanceMethod (yN mX1_remember) ∈ zGW := zGW_of 582 (by decide +kernel)
theorem sl_X1_remember : Cond.selects (yN mX1_remember).cls (yN mX1_remember) (yN mX1_remember) ∈ zGW := zGW_of 583 (by decide +kernel)
theorem np_X1_remember : (yN mX1_remember).cls ≠ "java/lang/invoke/MethodHandle" ∧ (yN mX1_remember).cls ≠ "java/lang/invoke/VarHandle" ∧ (parseMethodDescriptor (yN mX1_remember).desc).map (fun d => d.parameters.length) = some 1 := by decide +kernel
theorem cd_X1_bringBack : Cond.code (yN mX1_bringBack) (yC mX1_bringBack) (yL mX1_bringBack) (yR mX1_bringBack) ∈ zGW := zGW_of 1143 (by decide +kernel)
theorem im_X1_bringBack : Cond.instanceMethod (yN mX1_bringBack) ∈ zGW := zGW_of 1141 (by decide +kernel)
theorem sl_X1_bringBack : Cond.selects (yN mX1_bringBack).cls (yN mX1_bringBack) (yN mX1_bringBack) ∈ zGW := zGW_of 1142 (by decide +kernel)
theorem np_X1_bringBack : (yN mX1_bringBack).cls ≠ "java/lang/invoke/MethodHandle" ∧ (yN mX1_bringBack).cls ≠ "java/lang/invoke/VarHandle" ∧ (parseMethodDescriptor (yN mX1_bringBack).desc).map (fun d => d.parameters.length) = some 1 := by decide +kernel
theorem cd_X2_init : Cond.code (yN mX2_init) (yC mX2_init) (yL mX2_init) (yR mX2_init) ∈ zGW := zGW_of 233 (by decide +kernel)
theorem im_X2_init : Cond.instanceMethod (yN mX2_init) ∈ zGW := zGW_of 232 (by decide +kernel)
theorem iw_X2_init : Cond.initialized (yN mX2_init).cls ∈ zGW := zGW_of 89 (by decide +kernel)
theorem np_X2_init : (yN mX2_init).cls ≠ "java/lang/invoke/MethodHandle" ∧ (yN mX2_init).cls ≠ "java/lang/invoke/VarHandle" ∧ (parseMethodDescriptor (yN mX2_init).desc).map (fun d => d.parameters.length) = some 0 := by decide +kernel
theorem cd_X2_copyFrom : Cond.code (yN mX2_copyFrom) (yC mX2_copyFrom) (yL mX2_copyFrom) (yR mX2_copyFrom) ∈ zGW := zGW_of 603 (by decide +kernel)
theorem im_X2_copyFrom : Cond.instanceMethod (yN mX2_copyFrom) ∈ zGW := zGW_of 601 (by decide +kernel)
theorem sl_X2_copyFrom : Cond.selects (yN mX2_copyFrom).cls (yN mX2_copyFrom) (yN mX2_copyFrom) ∈ zGW := zGW_of 602 (by decide +kernel)
theorem np_X2_copyFrom : (yN mX2_copyFrom).cls ≠ "java/lang/invoke/MethodHandle" ∧ (yN mX2_copyFrom).cls ≠ "java/lang/invoke/VarHandle" ∧ (parseMethodDescriptor (yN mX2_copyFrom).desc).map (fun d => d.parameters.length) = some 1 := by decide +kernel
theorem cd_X2_latest : Cond.code (yN mX2_latest) (yC mX2_latest) (yL mX2_latest) (yR mX2_latest) ∈ zGW := zGW_of 690 (by decide +kernel)
theorem im_X2_latest : Cond.instanceMethod (yN mX2_latest) ∈ zGW := zGW_of 688 (by decide +kernel)
theorem sl_X2_latest : Cond.selects (yN mX2_latest).cls (yN mX2_latest) (yN mX2_latest) ∈ zGW := zGW_of 689 (by decide +kernel)
theorem np_X2_latest : (yN mX2_latest).cls ≠ "java/lang/invoke/MethodHandle" ∧ (yN mX2_latest).cls ≠ "java/lang/invoke/VarHandle" ∧ (parseMethodDescriptor (yN mX2_latest).desc).map (fun d => d.parameters.length) = some 1 := by decide +kernel
theorem cd_X2_put : Cond.code (yN mX2_put) (yC mX2_put) (yL mX2_put) (yR mX2_put) ∈ zGW := zGW_of 1085 (by decide +kernel)
theorem im_X2_put : Cond.instanceMethod (yN mX2_put) ∈ zGW := zGW_of 1083 (by decide +kernel)
theorem sl_X2_put : Cond.selects (yN mX2_put).cls (yN mX2_put) (yN mX2_put) ∈ zGW := zGW_of 1084 (by decide +kernel)
theorem np_X2_put : (yN mX2_put).cls ≠ "java/lang/invoke/MethodHandle" ∧ (yN mX2_put).cls ≠ "java/lang/invoke/VarHandle" ∧ (parseMethodDescriptor (yN mX2_put).desc).map (fun d => d.parameters.length) = some 5 := by decide +kernel
theorem cd_X2_removeRow : Cond.code (yN mX2_removeRow) (yC mX2_removeRow) (yL mX2_removeRow) (yR mX2_removeRow) ∈ zGW := zGW_of 1063 (by decide +kernel)
theorem im_X2_removeRow : Cond.instanceMethod (yN mX2_removeRow) ∈ zGW := zGW_of 1061 (by decide +kernel)
theorem sl_X2_removeRow : Cond.selects (yN mX2_removeRow).cls (yN mX2_removeRow) (yN mX2_removeRow) ∈ zGW := zGW_of 1062 (by decide +kernel)
theorem np_X2_removeRow : (yN mX2_removeRow).cls ≠ "java/lang/invoke/MethodHandle" ∧ (yN mX2_removeRow).cls ≠ "java/lang/invoke/VarHandle" ∧ (parseMethodDescriptor (yN mX2_removeRow).desc).map (fun d => d.parameters.length) = some 1 := by decide +kernel
theorem cd_X2_forgetFile : Cond.code (yN mX2_forgetFile) (yC mX2_forgetFile) (yL mX2_forgetFile) (yR mX2_forgetFile) ∈ zGW := zGW_of 1059 (by decide +kernel)
theorem im_X2_forgetFile : Cond.instanceMethod (yN mX2_forgetFile) ∈ zGW := zGW_of 1057 (by decide +kernel)
theorem sl_X2_forgetFile : Cond.selects (yN mX2_forgetFile).cls (yN mX2_forgetFile) (yN mX2_forgetFile) ∈ zGW := zGW_of 1058 (by decide +kernel)
theorem np_X2_forgetFile : (yN mX2_forgetFile).cls ≠ "java/lang/invoke/MethodHandle" ∧ (yN mX2_forgetFile).cls ≠ "java/lang/invoke/VarHandle" ∧ (parseMethodDescriptor (yN mX2_forgetFile).desc).map (fun d => d.parameters.length) = some 1 := by decide +kernel
theorem cd_X3_init : Cond.code (yN mX3_init) (yC mX3_init) (yL mX3_init) (yR mX3_init) ∈ zGW := zGW_of 166 (by decide +kernel)
theorem im_X3_init : Cond.instanceMethod (yN mX3_init) ∈ zGW := zGW_of 165 (by decide +kernel)
theorem iw_X3_init : Cond.initialized (yN mX3_init).cls ∈ zGW := zGW_of 86 (by decide +kernel)
theorem np_X3_init : (yN mX3_init).cls ≠ "java/lang/invoke/MethodHandle" ∧ (yN mX3_init).cls ≠ "java/lang/invoke/VarHandle" ∧ (parseMethodDescriptor (yN mX3_init).desc).map (fun d => d.parameters.length) = some 0 := by decide +kernel
theorem cd_X3_makePlan : Cond.code (yN mX3_makePlan) (yC mX3_makePlan) (yL mX3_makePlan) (yR mX3_makePlan) ∈ zGW := zGW_of 988 (by decide +kernel)
theorem im_X3_makePlan : Cond.instanceMethod (yN mX3_makePlan) ∈ zGW := zGW_of 986 (by decide +kernel)
theorem sl_X3_makePlan : Cond.selects (yN mX3_makePlan).cls (yN mX3_makePlan) (yN mX3_makePlan) ∈ zGW := zGW_of 987 (by decide +kernel)
theorem np_X3_makePlan : (yN mX3_makePlan).cls ≠ "java/lang/invoke/MethodHandle" ∧ (yN mX3_makePlan).cls ≠ "java/lang/invoke/VarHandle" ∧ (parseMethodDescriptor (yN mX3_makePlan).desc).map (fun d => d.parameters.length) = some 2 := by decide +kernel
theorem cd_X3_planAgain : Cond.code (yN mX3_planAgain) (yC mX3_planAgain) (yL mX3_planAgain) (yR mX3_planAgain) ∈ zGW := zGW_of 992 (by decide +kernel)
theorem im_X3_planAgain : Cond.instanceMethod (yN mX3_planAgain) ∈ zGW := zGW_of 990 (by decide +kernel)
theorem sl_X3_planAgain : Cond.selects (yN mX3_planAgain).cls (yN mX3_planAgain) (yN mX3_planAgain) ∈ zGW := zGW_of 991 (by decide +kernel)
theorem np_X3_planAgain : (yN mX3_planAgain).cls ≠ "java/lang/invoke/MethodHandle" ∧ (yN mX3_planAgain).cls ≠ "java/lang/invoke/VarHandle" ∧ (parseMethodDescriptor (yN mX3_planAgain).desc).map (fun d => d.parameters.length) = some 3 := by decide +kernel
theorem cd_X3_bestTier : Cond.code (yN mX3_bestTier) (yC mX3_bestTier) (yL mX3_bestTier) (yR mX3_bestTier) ∈ zGW := zGW_of 967 (by decide +kernel)
theorem im_X3_bestTier : Cond.instanceMethod (yN mX3_bestTier) ∈ zGW := zGW_of 965 (by decide +kernel)
theorem sl_X3_bestTier : Cond.selects (yN mX3_bestTier).cls (yN mX3_bestTier) (yN mX3_bestTier) ∈ zGW := zGW_of 966 (by decide +kernel)
theorem np_X3_bestTier : (yN mX3_bestTier).cls ≠ "java/lang/invoke/MethodHandle" ∧ (yN mX3_bestTier).cls ≠ "java/lang/invoke/VarHandle" ∧ (parseMethodDescriptor (yN mX3_bestTier).desc).map (fun d => d.parameters.length) = some 3 := by decide +kernel
theorem cd_X3_carryOut : Cond.code (yN mX3_carryOut) (yC mX3_carryOut) (yL mX3_carryOut) (yR mX3_carryOut) ∈ zGW := zGW_of 1103 (by decide +kernel)
theorem im_X3_carryOut : Cond.instanceMethod (yN mX3_carryOut) ∈ zGW := zGW_of 1101 (by decide +kernel)
theorem sl_X3_carryOut : Cond.selects (yN mX3_carryOut).cls (yN mX3_carryOut) (yN mX3_carryOut) ∈ zGW := zGW_of 1102 (by decide +kernel)
theorem np_X3_carryOut : (yN mX3_carryOut).cls ≠ "java/lang/invoke/MethodHandle" ∧ (yN mX3_carryOut).cls ≠ "java/lang/invoke/VarHandle" ∧ (parseMethodDescriptor (yN mX3_carryOut).desc).map (fun d => d.parameters.length) = some 1 := by decide +kernel
theorem cd_X3_findGains : Cond.code (yN mX3_findGains) (yC mX3_findGains) (yL mX3_findGains) (yR mX3_findGains) ∈ zGW := zGW_of 971 (by decide +kernel)
theorem im_X3_findGains : Cond.instanceMethod (yN mX3_findGains) ∈ zGW := zGW_of 970 (by decide +kernel)
theorem sl_X3_findGains : Cond.selects (yN mX3_findGains).cls (yN mX3_findGains) (yN mX3_findGains) ∈ zGW := zGW_of 19 (by decide +kernel)
theorem np_X3_findGains : (yN mX3_findGains).cls ≠ "java/lang/invoke/MethodHandle" ∧ (yN mX3_findGains).cls ≠ "java/lang/invoke/VarHandle" ∧ (parseMethodDescriptor (yN mX3_findGains).desc).map (fun d => d.parameters.length) = some 3 := by decide +kernel
theorem cd_X3_findMove : Cond.code (yN mX3_findMove) (yC mX3_findMove) (yL mX3_findMove) (yR mX3_findMove) ∈ zGW := zGW_of 998 (by decide +kernel)
theorem im_X3_findMove : Cond.instanceMethod (yN mX3_findMove) ∈ zGW := zGW_of 997 (by decide +kernel)
theorem sl_X3_findMove : Cond.selects (yN mX3_findMove).cls (yN mX3_findMove) (yN mX3_findMove) ∈ zGW := zGW_of 20 (by decide +kernel)
theorem np_X3_findMove : (yN mX3_findMove).cls ≠ "java/lang/invoke/MethodHandle" ∧ (yN mX3_findMove).cls ≠ "java/lang/invoke/VarHandle" ∧ (parseMethodDescriptor (yN mX3_findMove).desc).map (fun d => d.parameters.length) = some 1 := by decide +kernel
theorem cd_X3_findExchange : Cond.code (yN mX3_findExchange) (yC mX3_findExchange) (yL mX3_findExchange) (yR mX3_findExchange) ∈ zGW := zGW_of 1006 (by decide +kernel)
theorem im_X3_findExchange : Cond.instanceMethod (yN mX3_findExchange) ∈ zGW := zGW_of 1005 (by decide +kernel)
theorem sl_X3_findExchange : Cond.selects (yN mX3_findExchange).cls (yN mX3_findExchange) (yN mX3_findExchange) ∈ zGW := zGW_of 22 (by decide +kernel)
theorem np_X3_findExchange : (yN mX3_findExchange).cls ≠ "java/lang/invoke/MethodHandle" ∧ (yN mX3_findExchange).cls ≠ "java/lang/invoke/VarHandle" ∧ (parseMethodDescriptor (yN mX3_findExchange).desc).map (fun d => d.parameters.length) = some 1 := by decide +kernel
theorem cd_X3_setBest : Cond.code (yN mX3_setBest) (yC mX3_setBest) (yL mX3_setBest) (yR mX3_setBest) ∈ zGW := zGW_of 1002 (by decide +kernel)
theorem im_X3_setBest : Cond.instanceMethod (yN mX3_setBest) ∈ zGW := zGW_of 1001 (by decide +kernel)
theorem sl_X3_setBest : Cond.selects (yN mX3_setBest).cls (yN mX3_setBest) (yN mX3_setBest) ∈ zGW := zGW_of 21 (by decide +kernel)
theorem np_X3_setBest : (yN mX3_setBest).cls ≠ "java/lang/invoke/MethodHandle" ∧ (yN mX3_setBest).cls ≠ "java/lang/invoke/VarHandle" ∧ (parseMethodDescriptor (yN mX3_setBest).desc).map (fun d => d.parameters.length) = some 4 := by decide +kernel
theorem cd_X3_takeStep : Cond.code (yN mX3_takeStep) (yC mX3_takeStep) (yL mX3_takeStep) (yR mX3_takeStep) ∈ zGW := zGW_of 1010 (by decide +kernel)
theorem im_X3_takeStep : Cond.instanceMethod (yN mX3_takeStep) ∈ zGW := zGW_of 1009 (by decide +kernel)
theorem sl_X3_takeStep : Cond.selects (yN mX3_takeStep).cls (yN mX3_takeStep) (yN mX3_takeStep) ∈ zGW := zGW_of 23 (by decide +kernel)
theorem np_X3_takeStep : (yN mX3_takeStep).cls ≠ "java/lang/invoke/MethodHandle" ∧ (yN mX3_takeStep).cls ≠ "java/lang/invoke/VarHandle" ∧ (parseMethodDescriptor (yN mX3_takeStep).desc).map (fun d => d.parameters.length) = some 1 := by decide +kernel
theorem cd_X3_takeAway : Cond.code (yN mX3_takeAway) (yC mX3_takeAway) (yL mX3_takeAway) (yR mX3_takeAway) ∈ zGW := zGW_of 1014 (by decide +kernel)
theorem im_X3_takeAway : Cond.instanceMethod (yN mX3_takeAway) ∈ zGW := zGW_of 1013 (by decide +kernel)
theorem sl_X3_takeAway : Cond.selects (yN mX3_takeAway).cls (yN mX3_takeAway) (yN mX3_takeAway) ∈ zGW := zGW_of 24 (by decide +kernel)
theorem np_X3_takeAway : (yN mX3_takeAway).cls ≠ "java/lang/invoke/MethodHandle" ∧ (yN mX3_takeAway).cls ≠ "java/lang/invoke/VarHandle" ∧ (parseMethodDescriptor (yN mX3_takeAway).desc).map (fun d => d.parameters.length) = some 4 := by decide +kernel
theorem cd_X4_init : Cond.code (yN mX4_init) (yC mX4_init) (yL mX4_init) (yR mX4_init) ∈ zGW := zGW_of 117 (by decide +kernel)
theorem im_X4_init : Cond.instanceMethod (yN mX4_init) ∈ zGW := zGW_of 116 (by decide +kernel)
theorem iw_X4_init : Cond.initialized (yN mX4_init).cls ∈ zGW := zGW_of 84 (by decide +kernel)
theorem np_X4_init : (yN mX4_init).cls ≠ "java/lang/invoke/MethodHandle" ∧ (yN mX4_init).cls ≠ "java/lang/invoke/VarHandle" ∧ (parseMethodDescriptor (yN mX4_init).desc).map (fun d => d.parameters.length) = some 0 := by decide +kernel
theorem cd_X4_putBytesOf : Cond.code (yN mX4_putBytesOf) (yC mX4_putBytesOf) (yL mX4_putBytesOf) (yR mX4_putBytesOf) ∈ zGW := zGW_of 794 (by decide +kernel)
theorem im_X4_putBytesOf : Cond.instanceMethod (yN mX4_putBytesOf) ∈ zGW := zGW_of 792 (by decide +kernel)
theorem sl_X4_putBytesOf : Cond.selects (yN mX4_putBytesOf).cls (yN mX4_putBytesOf) (yN mX4_putBytesOf) ∈ zGW := zGW_of 793 (by decide +kernel)
theorem np_X4_putBytesOf : (yN mX4_putBytesOf).cls ≠ "java/lang/invoke/MethodHandle" ∧ (yN mX4_putBytesOf).cls ≠ "java/lang/invoke/VarHandle" ∧ (parseMethodDescriptor (yN mX4_putBytesOf).desc).map (fun d => d.parameters.length) = some 1 := by decide +kernel
theorem cd_X4_readStore : Cond.code (yN mX4_readStore) (yC mX4_readStore) (yL mX4_readStore) (yR mX4_readStore) ∈ zGW := zGW_of 432 (by decide +kernel)
theorem im_X4_readStore : Cond.instanceMethod (yN mX4_readStore) ∈ zGW := zGW_of 430 (by decide +kernel)
theorem sl_X4_readStore : Cond.selects (yN mX4_readStore).cls (yN mX4_readStore) (yN mX4_readStore) ∈ zGW := zGW_of 431 (by decide +kernel)
theorem np_X4_readStore : (yN mX4_readStore).cls ≠ "java/lang/invoke/MethodHandle" ∧ (yN mX4_readStore).cls ≠ "java/lang/invoke/VarHandle" ∧ (parseMethodDescriptor (yN mX4_readStore).desc).map (fun d => d.parameters.length) = some 1 := by decide +kernel
theorem cd_X4_readHead : Cond.code (yN mX4_readHead) (yC mX4_readHead) (yL mX4_readHead) (yR mX4_readHead) ∈ zGW := zGW_of 436 (by decide +kernel)
theorem im_X4_readHead : Cond.instanceMethod (yN mX4_readHead) ∈ zGW := zGW_of 435 (by decide +kernel)
theorem sl_X4_readHead : Cond.selects (yN mX4_readHead).cls (yN mX4_readHead) (yN mX4_readHead) ∈ zGW := zGW_of 0 (by decide +kernel)
theorem np_X4_readHead : (yN mX4_readHead).cls ≠ "java/lang/invoke/MethodHandle" ∧ (yN mX4_readHead).cls ≠ "java/lang/invoke/VarHandle" ∧ (parseMethodDescriptor (yN mX4_readHead).desc).map (fun d => d.parameters.length) = some 1 := by decide +kernel
theorem cd_X4_readTiers : Cond.code (yN mX4_readTiers) (yC mX4_readTiers) (yL mX4_readTiers) (yR mX4_readTiers) ∈ zGW := zGW_of 523 (by decide +kernel)
theorem im_X4_readTiers : Cond.instanceMethod (yN mX4_readTiers) ∈ zGW := zGW_of 522 (by decide +kernel)
theorem sl_X4_readTiers : Cond.selects (yN mX4_readTiers).cls (yN mX4_readTiers) (yN mX4_readTiers) ∈ zGW := zGW_of 8 (by decide +kernel)
theorem np_X4_readTiers : (yN mX4_readTiers).cls ≠ "java/lang/invoke/MethodHandle" ∧ (yN mX4_readTiers).cls ≠ "java/lang/invoke/VarHandle" ∧ (parseMethodDescriptor (yN mX4_readTiers).desc).map (fun d => d.parameters.length) = some 1 := by decide +kernel
theorem cd_X4_readTier : Cond.code (yN mX4_readTier) (yC mX4_readTier) (yL mX4_readTier) (yR mX4_readTier) ∈ zGW := zGW_of 528 (by decide +kernel)
theorem im_X4_readTier : Cond.instanceMethod (yN mX4_readTier) ∈ zGW := zGW_of 527 (by decide +kernel)
theorem sl_X4_readTier : Cond.selects (yN mX4_readTier).cls (yN mX4_readTier) (yN mX4_readTier) ∈ zGW := zGW_of 9 (by decide +kernel)
theorem np_X4_readTier : (yN mX4_readTier).cls ≠ "java/lang/invoke/MethodHandle" ∧ (yN mX4_readTier).cls ≠ "java/lang/invoke/VarHandle" ∧ (parseMethodDescriptor (yN mX4_readTier).desc).map (fun d => d.parameters.length) = some 1 := by decide +kernel
theorem cd_X4_readFiles : Cond.code (yN mX4_readFiles) (yC mX4_readFiles) (yL mX4_readFiles) (yR mX4_readFiles) ∈ zGW := zGW_of 549 (by decide +kernel)
theorem im_X4_readFiles : Cond.instanceMethod (yN mX4_readFiles) ∈ zGW := zGW_of 548 (by decide +kernel)
theorem sl_X4_readFiles : Cond.selects (yN mX4_readFiles).cls (yN mX4_readFiles) (yN mX4_readFiles) ∈ zGW := zGW_of 11 (by decide +kernel)
theorem np_X4_readFiles : (yN mX4_readFiles).cls ≠ "java/lang/invoke/MethodHandle" ∧ (yN mX4_readFiles).cls ≠ "java/lang/invoke/VarHandle" ∧ (parseMethodDescriptor (yN mX4_readFiles).desc).map (fun d => d.parameters.length) = some 1 := by decide +kernel
theorem cd_X4_readFile : Cond.code (yN mX4_readFile) (yC mX4_readFile) (yL mX4_readFile) (yR mX4_readFile) ∈ zGW := zGW_of 553 (by decide +kernel)
theorem im_X4_readFile : Cond.instanceMethod (yN mX4_readFile) ∈ zGW := zGW_of 552 (by decide +kernel)
theorem sl_X4_readFile : Cond.selects (yN mX4_readFile).cls (yN mX4_readFile) (yN mX4_readFile) ∈ zGW := zGW_of 12 (by decide +kernel)
theorem np_X4_readFile : (yN mX4_readFile).cls ≠ "java/lang/invoke/MethodHandle" ∧ (yN mX4_readFile).cls ≠ "java/lang/invoke/VarHandle" ∧ (parseMethodDescriptor (yN mX4_readFile).desc).map (fun d => d.parameters.length) = some 1 := by decide +kernel
theorem cd_X4_readName : Cond.code (yN mX4_readName) (yC mX4_readName) (yL mX4_readName) (yR mX4_readName) ∈ zGW := zGW_of 532 (by decide +kernel)
theorem im_X4_readName : Cond.instanceMethod (yN mX4_readName) ∈ zGW := zGW_of 531 (by decide +kernel)
theorem sl_X4_readName : Cond.selects (yN mX4_readName).cls (yN mX4_readName) (yN mX4_readName) ∈ zGW := zGW_of 10 (by decide +kernel)
theorem np_X4_readName : (yN mX4_readName).cls ≠ "java/lang/invoke/MethodHandle" ∧ (yN mX4_readName).cls ≠ "java/lang/invoke/VarHandle" ∧ (parseMethodDescriptor (yN mX4_readName).desc).map (fun d => d.parameters.length) = some 0 := by decide +kernel
theorem cd_X4_readNumber : Cond.code (yN mX4_readNumber) (yC mX4_readNumber) (yL mX4_readNumber) (yR mX4_readNumber) ∈ zGW := zGW_of 509 (by decide +kernel)
theorem im_X4_readNumber : Cond.instanceMethod (yN mX4_readNumber) ∈ zGW := zGW_of 508 (by decide +kernel)
theorem sl_X4_readNumber : Cond.selects (yN mX4_readNumber).cls (yN mX4_readNumber) (yN mX4_readNumber) ∈ zGW := zGW_of 6 (by decide +kernel)
theorem np_X4_readNumber : (yN mX4_readNumber).cls ≠ "java/lang/invoke/MethodHandle" ∧ (yN mX4_readNumber).cls ≠ "java/lang/invoke/VarHandle" ∧ (parseMethodDescriptor (yN mX4_readNumber).desc).map (fun d => d.parameters.length) = some 2 := by decide +kernel
theorem cd_X4_passSemicolon : Cond.code (yN mX4_passSemicolon) (yC mX4_passSemicolon) (yL mX4_passSemicolon) (yR mX4_passSemicolon) ∈ zGW := zGW_of 519 (by decide +kernel)
theorem im_X4_passSemicolon : Cond.instanceMethod (yN mX4_passSemicolon) ∈ zGW := zGW_of 518 (by decide +kernel)
theorem sl_X4_passSemicolon : Cond.selects (yN mX4_passSemicolon).cls (yN mX4_passSemicolon) (yN mX4_passSemicolon) ∈ zGW := zGW_of 7 (by decide +kernel)
theorem np_X4_passSemicolon : (yN mX4_passSemicolon).cls ≠ "java/lang/invoke/MethodHandle" ∧ (yN mX4_passSemicolon).cls ≠ "java/lang/invoke/VarHandle" ∧ (parseMethodDescriptor (yN mX4_passSemicolon).desc).map (fun d => d.parameters.length) = some 0 := by decide +kernel
theorem cd_X4_passWord : Cond.code (yN mX4_passWord) (yC mX4_passWord) (yL mX4_passWord) (yR mX4_passWord) ∈ zGW := zGW_of 441 (by decide +kernel)
theorem im_X4_passWord : Cond.instanceMethod (yN mX4_passWord) ∈ zGW := zGW_of 440 (by decide +kernel)
theorem sl_X4_passWord : Cond.selects (yN mX4_passWord).cls (yN mX4_passWord) (yN mX4_passWord) ∈ zGW := zGW_of 1 (by decide +kernel)
theorem np_X4_passWord : (yN mX4_passWord).cls ≠ "java/lang/invoke/MethodHandle" ∧ (yN mX4_passWord).cls ≠ "java/lang/invoke/VarHandle" ∧ (parseMethodDescriptor (yN mX4_passWord).desc).map (fun d => d.parameters.length) = some 1 := by decide +kernel
theorem cd_X4_nextIsWord : Cond.code (yN mX4_nextIsWord) (yC mX4_nextIsWord) (yL mX4_nextIsWord) (yR mX4_nextIsWord) ∈ zGW := zGW_of 445 (by decide +kernel)
theorem im_X4_nextIsWord : Cond.instanceMethod (yN mX4_nextIsWord) ∈ zGW := zGW_of 444 (by decide +kernel)
theorem sl_X4_nextIsWord : Cond.selects (yN mX4_nextIsWord).cls (yN mX4_nextIsWord) (yN mX4_nextIsWord) ∈ zGW := zGW_of 2 (by decide +kernel)
theorem np_X4_nextIsWord : (yN mX4_nextIsWord).cls ≠ "java/lang/invoke/MethodHandle" ∧ (yN mX4_nextIsWord).cls ≠ "java/lang/invoke/VarHandle" ∧ (parseMethodDescriptor (yN mX4_nextIsWord).desc).map (fun d => d.parameters.length) = some 1 := by decide +kernel
theorem cd_X4_nextByte : Cond.code (yN mX4_nextByte) (yC mX4_nextByte) (yL mX4_nextByte) (yR mX4_nextByte) ∈ zGW := zGW_of 449 (by decide +kernel)
theorem im_X4_nextByte : Cond.instanceMethod (yN mX4_nextByte) ∈ zGW := zGW_of 448 (by decide +kernel)
theorem sl_X4_nextByte : Cond.selects (yN mX4_nextByte).cls (yN mX4_nextByte) (yN mX4_nextByte) ∈ zGW := zGW_of 3 (by decide +kernel)
theorem np_X4_nextByte : (yN mX4_nextByte).cls ≠ "java/lang/invoke/MethodHandle" ∧ (yN mX4_nextByte).cls ≠ "java/lang/invoke/VarHandle" ∧ (parseMethodDescriptor (yN mX4_nextByte).desc).map (fun d => d.parameters.length) = some 0 := by decide +kernel
theorem cd_X4_endOfWord : Cond.code (yN mX4_endOfWord) (yC mX4_endOfWord) (yL mX4_endOfWord) (yR mX4_endOfWord) ∈ zGW := zGW_of 453 (by decide +kernel)
theorem im_X4_endOfWord : Cond.instanceMethod (yN mX4_endOfWord) ∈ zGW := zGW_of 452 (by decide +kernel)
theorem sl_X4_endOfWord : Cond.selects (yN mX4_endOfWord).cls (yN mX4_endOfWord) (yN mX4_endOfWord) ∈ zGW := zGW_of 4 (by decide +kernel)
theorem np_X4_endOfWord : (yN mX4_endOfWord).cls ≠ "java/lang/invoke/MethodHandle" ∧ (yN mX4_endOfWord).cls ≠ "java/lang/invoke/VarHandle" ∧ (parseMethodDescriptor (yN mX4_endOfWord).desc).map (fun d => d.parameters.length) = some 0 := by decide +kernel
theorem cd_X4_isDigit : Cond.code (yN mX4_isDigit) (yC mX4_isDigit) (yL mX4_isDigit) (yR mX4_isDigit) ∈ zGW := zGW_of 512 (by decide +kernel)
theorem st_X4_isDigit : Cond.static (yN mX4_isDigit) ∈ zGW := zGW_of 511 (by decide +kernel)
theorem np_X4_isDigit : (yN mX4_isDigit).cls ≠ "java/lang/invoke/MethodHandle" ∧ (yN mX4_isDigit).cls ≠ "java/lang/invoke/VarHandle" ∧ (parseMethodDescriptor (yN mX4_isDigit).desc).map (fun d => d.parameters.length) = some 1 := by decide +kernel
theorem cd_X4_fail : Cond.code (yN mX4_fail) (yC mX4_fail) (yL mX4_fail) (yR mX4_fail) ∈ zGW := zGW_of 505 (by decide +kernel)
theorem im_X4_fail : Cond.instanceMethod (yN mX4_fail) ∈ zGW := zGW_of 504 (by decide +kernel)
theorem sl_X4_fail : Cond.selects (yN mX4_fail).cls (yN mX4_fail) (yN mX4_fail) ∈ zGW := zGW_of 5 (by decide +kernel)
theorem np_X4_fail : (yN mX4_fail).cls ≠ "java/lang/invoke/MethodHandle" ∧ (yN mX4_fail).cls ≠ "java/lang/invoke/VarHandle" ∧ (parseMethodDescriptor (yN mX4_fail).desc).map (fun d => d.parameters.length) = some 2 := by decide +kernel
theorem cd_X5_init : Cond.code (yN mX5_init) (yC mX5_init) (yL mX5_init) (yR mX5_init) ∈ zGW := zGW_of 223 (by decide +kernel)
theorem im_X5_init : Cond.instanceMethod (yN mX5_init) ∈ zGW := zGW_of 222 (by decide +kernel)
theorem iw_X5_init : Cond.initialized (yN mX5_init).cls ∈ zGW := zGW_of 88 (by decide +kernel)
theorem np_X5_init : (yN mX5_init).cls ≠ "java/lang/invoke/MethodHandle" ∧ (yN mX5_init).cls ≠ "java/lang/invoke/VarHandle" ∧ (parseMethodDescriptor (yN mX5_init).desc).map (fun d => d.parameters.length) = some 0 := by decide +kernel
theorem cd_X5_copyFrom : Cond.code (yN mX5_copyFrom) (yC mX5_copyFrom) (yL mX5_copyFrom) (yR mX5_copyFrom) ∈ zGW := zGW_of 588 (by decide +kernel)
theorem im_X5_copyFrom : Cond.instanceMethod (yN mX5_copyFrom) ∈ zGW := zGW_of 586 (by decide +kernel)
theorem sl_X5_copyFrom : Cond.selects (yN mX5_copyFrom).cls (yN mX5_copyFrom) (yN mX5_copyFrom) ∈ zGW := zGW_of 587 (by decide +kernel)
theorem np_X5_copyFrom : (yN mX5_copyFrom).cls ≠ "java/lang/invoke/MethodHandle" ∧ (yN mX5_copyFrom).cls ≠ "java/lang/invoke/VarHandle" ∧ (parseMethodDescriptor (yN mX5_copyFrom).desc).map (fun d => d.parameters.length) = some 1 := by decide +kernel
theorem cd_X5_startAs : Cond.code (yN mX5_startAs) (yC mX5_startAs) (yL mX5_startAs) (yR mX5_startAs) ∈ zGW := zGW_of 385 (by decide +kernel)
theorem im_X5_startAs : Cond.instanceMethod (yN mX5_startAs) ∈ zGW := zGW_of 383 (by decide +kernel)
theorem sl_X5_startAs : Cond.selects (yN mX5_startAs).cls (yN mX5_startAs) (yN mX5_startAs) ∈ zGW := zGW_of 384 (by decide +kernel)
theorem np_X5_startAs : (yN mX5_startAs).cls ≠ "java/lang/invoke/MethodHandle" ∧ (yN mX5_startAs).cls ≠ "java/lang/invoke/VarHandle" ∧ (parseMethodDescriptor (yN mX5_startAs).desc).map (fun d => d.parameters.length) = some 2 := by decide +kernel
theorem cd_X5_startAsNew : Cond.code (yN mX5_startAsNew) (yC mX5_startAsNew) (yL mX5_startAsNew) (yR mX5_startAsNew) ∈ zGW := zGW_of 381 (by decide +kernel)
theorem im_X5_startAsNew : Cond.instanceMethod (yN mX5_startAsNew) ∈ zGW := zGW_of 379 (by decide +kernel)
theorem sl_X5_startAsNew : Cond.selects (yN mX5_startAsNew).cls (yN mX5_startAsNew) (yN mX5_startAsNew) ∈ zGW := zGW_of 380 (by decide +kernel)
theorem np_X5_startAsNew : (yN mX5_startAsNew).cls ≠ "java/lang/invoke/MethodHandle" ∧ (yN mX5_startAsNew).cls ≠ "java/lang/invoke/VarHandle" ∧ (parseMethodDescriptor (yN mX5_startAsNew).desc).map (fun d => d.parameters.length) = some 0 := by decide +kernel
theorem cd_X5_phaseAhead : Cond.code (yN mX5_phaseAhead) (yC mX5_phaseAhead) (yL mX5_phaseAhead) (yR mX5_phaseAhead) ∈ zGW := zGW_of 654 (by decide +kernel)
theorem im_X5_phaseAhead : Cond.instanceMethod (yN mX5_phaseAhead) ∈ zGW := zGW_of 652 (by decide +kernel)
theorem sl_X5_phaseAhead : Cond.selects (yN mX5_phaseAhead).cls (yN mX5_phaseAhead) (yN mX5_phaseAhead) ∈ zGW := zGW_of 653 (by decide +kernel)
theorem np_X5_phaseAhead : (yN mX5_phaseAhead).cls ≠ "java/lang/invoke/MethodHandle" ∧ (yN mX5_phaseAhead).cls ≠ "java/lang/invoke/VarHandle" ∧ (parseMethodDescriptor (yN mX5_phaseAhead).desc).map (fun d => d.parameters.length) = some 1 := by decide +kernel
theorem cd_X5_tierNamed : Cond.code (yN mX5_tierNamed) (yC mX5_tierNamed) (yL mX5_tierNamed) (yR mX5_tierNamed) ∈ zGW := zGW_of 537 (by decide +kernel)
theorem im_X5_tierNamed : Cond.instanceMethod (yN mX5_tierNamed) ∈ zGW := zGW_of 535 (by decide +kernel)
theorem sl_X5_tierNamed : Cond.selects (yN mX5_tierNamed).cls (yN mX5_tierNamed) (yN mX5_tierNamed) ∈ zGW := zGW_of 536 (by decide +kernel)
theorem np_X5_tierNamed : (yN mX5_tierNamed).cls ≠ "java/lang/invoke/MethodHandle" ∧ (yN mX5_tierNamed).cls ≠ "java/lang/invoke/VarHandle" ∧ (parseMethodDescriptor (yN mX5_tierNamed).desc).map (fun d => d.parameters.length) = some 1 := by decide +kernel
theorem cd_X5_fileNamed : Cond.code (yN mX5_fileNamed) (yC mX5_fileNamed) (yL mX5_fileNamed) (yR mX5_fileNamed) ∈ zGW := zGW_of 558 (by decide +kernel)
theorem im_X5_fileNamed : Cond.instanceMethod (yN mX5_fileNamed) ∈ zGW := zGW_of 556 (by decide +kernel)
theorem sl_X5_fileNamed : Cond.selects (yN mX5_fileNamed).cls (yN mX5_fileNamed) (yN mX5_fileNamed) ∈ zGW := zGW_of 557 (by decide +kernel)
theorem np_X5_fileNamed : (yN mX5_fileNamed).cls ≠ "java/lang/invoke/MethodHandle" ∧ (yN mX5_fileNamed).cls ≠ "java/lang/invoke/VarHandle" ∧ (parseMethodDescriptor (yN mX5_fileNamed).desc).map (fun d => d.parameters.length) = some 1 := by decide +kernel
theorem cd_X5_pinnedFiles : Cond.code (yN mX5_pinnedFiles) (yC mX5_pinnedFiles) (yL mX5_pinnedFiles) (yR mX5_pinnedFiles) ∈ zGW := zGW_of 806 (by decide +kernel)
theorem im_X5_pinnedFiles : Cond.instanceMethod (yN mX5_pinnedFiles) ∈ zGW := zGW_of 804 (by decide +kernel)
theorem sl_X5_pinnedFiles : Cond.selects (yN mX5_pinnedFiles).cls (yN mX5_pinnedFiles) (yN mX5_pinnedFiles) ∈ zGW := zGW_of 805 (by decide +kernel)
theorem np_X5_pinnedFiles : (yN mX5_pinnedFiles).cls ≠ "java/lang/invoke/MethodHandle" ∧ (yN mX5_pinnedFiles).cls ≠ "java/lang/invoke/VarHandle" ∧ (parseMethodDescriptor (yN mX5_pinnedFiles).desc).map (fun d => d.parameters.length) = some 0 := by decide +kernel
theorem cd_X5_sizeOfAll : Cond.code (yN mX5_sizeOfAll) (yC mX5_sizeOfAll) (yL mX5_sizeOfAll) (yR mX5_sizeOfAll) ∈ zGW := zGW_of 814 (by decide +kernel)
theorem im_X5_sizeOfAll : Cond.instanceMethod (yN mX5_sizeOfAll) ∈ zGW := zGW_of 812 (by decide +kernel)
theorem sl_X5_sizeOfAll : Cond.selects (yN mX5_sizeOfAll).cls (yN mX5_sizeOfAll) (yN mX5_sizeOfAll) ∈ zGW := zGW_of 813 (by decide +kernel)
theorem np_X5_sizeOfAll : (yN mX5_sizeOfAll).cls ≠ "java/lang/invoke/MethodHandle" ∧ (yN mX5_sizeOfAll).cls ≠ "java/lang/invoke/VarHandle" ∧ (parseMethodDescriptor (yN mX5_sizeOfAll).desc).map (fun d => d.parameters.length) = some 0 := by decide +kernel
theorem cd_X5_sizeOn : Cond.code (yN mX5_sizeOn) (yC mX5_sizeOn) (yL mX5_sizeOn) (yR mX5_sizeOn) ∈ zGW := zGW_of 567 (by decide +kernel)
theorem im_X5_sizeOn : Cond.instanceMethod (yN mX5_sizeOn) ∈ zGW := zGW_of 565 (by decide +kernel)
theorem sl_X5_sizeOn : Cond.selects (yN mX5_sizeOn).cls (yN mX5_sizeOn) (yN mX5_sizeOn) ∈ zGW := zGW_of 566 (by decide +kernel)
theorem np_X5_sizeOn : (yN mX5_sizeOn).cls ≠ "java/lang/invoke/MethodHandle" ∧ (yN mX5_sizeOn).cls ≠ "java/lang/invoke/VarHandle" ∧ (parseMethodDescriptor (yN mX5_sizeOn).desc).map (fun d => d.parameters.length) = some 1 := by decide +kernel
theorem cd_X5_filesOn : Cond.code (yN mX5_filesOn) (yC mX5_filesOn) (yL mX5_filesOn) (yR mX5_filesOn) ∈ zGW := zGW_of 861 (by decide +kernel)
theorem im_X5_filesOn : Cond.instanceMethod (yN mX5_filesOn) ∈ zGW := zGW_of 859 (by decide +kernel)
theorem sl_X5_filesOn : Cond.selects (yN mX5_filesOn).cls (yN mX5_filesOn) (yN mX5_filesOn) ∈ zGW := zGW_of 860 (by decide +kernel)
theorem np_X5_filesOn : (yN mX5_filesOn).cls ≠ "java/lang/invoke/MethodHandle" ∧ (yN mX5_filesOn).cls ≠ "java/lang/invoke/VarHandle" ∧ (parseMethodDescriptor (yN mX5_filesOn).desc).map (fun d => d.parameters.length) = some 1 := by decide +kernel
theorem cd_X5_mostUsedOn : Cond.code (yN mX5_mostUsedOn) (yC mX5_mostUsedOn) (yL mX5_mostUsedOn) (yR mX5_mostUsedOn) ∈ zGW := zGW_of 865 (by decide +kernel)
theorem im_X5_mostUsedOn : Cond.instanceMethod (yN mX5_mostUsedOn) ∈ zGW := zGW_of 863 (by decide +kernel)
theorem sl_X5_mostUsedOn : Cond.selects (yN mX5_mostUsedOn).cls (yN mX5_mostUsedOn) (yN mX5_mostUsedOn) ∈ zGW := zGW_of 864 (by decide +kernel)
theorem np_X5_mostUsedOn : (yN mX5_mostUsedOn).cls ≠ "java/lang/invoke/MethodHandle" ∧ (yN mX5_mostUsedOn).cls ≠ "java/lang/invoke/VarHandle" ∧ (parseMethodDescriptor (yN mX5_mostUsedOn).desc).map (fun d => d.parameters.length) = some 1 := by decide +kernel
theorem cd_X5_hasRoomFor : Cond.code (yN mX5_hasRoomFor) (yC mX5_hasRoomFor) (yL mX5_hasRoomFor) (yR mX5_hasRoomFor) ∈ zGW := zGW_of 563 (by decide +kernel)
theorem im_X5_hasRoomFor : Cond.instanceMethod (yN mX5_hasRoomFor) ∈ zGW := zGW_of 561 (by decide +kernel)
theorem sl_X5_hasRoomFor : Cond.selects (yN mX5_hasRoomFor).cls (yN mX5_hasRoomFor) (yN mX5_hasRoomFor) ∈ zGW := zGW_of 562 (by decide +kernel)
theorem np_X5_hasRoomFor : (yN mX5_hasRoomFor).cls ≠ "java/lang/invoke/MethodHandle" ∧ (yN mX5_hasRoomFor).cls ≠ "java/lang/invoke/VarHandle" ∧ (parseMethodDescriptor (yN mX5_hasRoomFor).desc).map (fun d => d.parameters.length) = some 2 := by decide +kernel
theorem cd_X5_paidOnAll : Cond.code (yN mX5_paidOnAll) (yC mX5_paidOnAll) (yL mX5_paidOnAll) (yR mX5_paidOnAll) ∈ zGW := zGW_of 637 (by decide +kernel)
theorem im_X5_paidOnAll : Cond.instanceMethod (yN mX5_paidOnAll) ∈ zGW := zGW_of 635 (by decide +kernel)
theorem sl_X5_paidOnAll : Cond.selects (yN mX5_paidOnAll).cls (yN mX5_paidOnAll) (yN mX5_paidOnAll) ∈ zGW := zGW_of 636 (by decide +kernel)
theorem np_X5_paidOnAll : (yN mX5_paidOnAll).cls ≠ "java/lang/invoke/MethodHandle" ∧ (yN mX5_paidOnAll).cls ≠ "java/lang/invoke/VarHandle" ∧ (parseMethodDescriptor (yN mX5_paidOnAll).desc).map (fun d => d.parameters.length) = some 1 := by decide +kernel
theorem cd_X5_forecastSum : Cond.code (yN mX5_forecastSum) (yC mX5_forecastSum) (yL mX5_forecastSum) (yR mX5_forecastSum) ∈ zGW := zGW_of 950 (by decide +kernel)
theorem im_X5_forecastSum : Cond.instanceMethod (yN mX5_forecastSum) ∈ zGW := zGW_of 948 (by decide +kernel)
theorem sl_X5_forecastSum : Cond.selects (yN mX5_forecastSum).cls (yN mX5_forecastSum) (yN mX5_forecastSum) ∈ zGW := zGW_of 949 (by decide +kernel)
theorem np_X5_forecastSum : (yN mX5_forecastSum).cls ≠ "java/lang/invoke/MethodHandle" ∧ (yN mX5_forecastSum).cls ≠ "java/lang/invoke/VarHandle" ∧ (parseMethodDescriptor (yN mX5_forecastSum).desc).map (fun d => d.parameters.length) = some 2 := by decide +kernel
theorem cd_X5_costOn : Cond.code (yN mX5_costOn) (yC mX5_costOn) (yL mX5_costOn) (yR mX5_costOn) ∈ zGW := zGW_of 955 (by decide +kernel)
theorem im_X5_costOn : Cond.instanceMethod (yN mX5_costOn) ∈ zGW := zGW_of 953 (by decide +kernel)
theorem sl_X5_costOn : Cond.selects (yN mX5_costOn).cls (yN mX5_costOn) (yN mX5_costOn) ∈ zGW := zGW_of 954 (by decide +kernel)
theorem np_X5_costOn : (yN mX5_costOn).cls ≠ "java/lang/invoke/MethodHandle" ∧ (yN mX5_costOn).cls ≠ "java/lang/invoke/VarHandle" ∧ (parseMethodDescriptor (yN mX5_costOn).desc).map (fun d => d.parameters.length) = some 4 := by decide +kernel
theorem cd_X5_moveCost : Cond.code (yN mX5_moveCost) (yC mX5_moveCost) (yL mX5_moveCost) (yR mX5_moveCost) ∈ zGW := zGW_of 977 (by decide +kernel)
theorem im_X5_moveCost : Cond.instanceMethod (yN mX5_moveCost) ∈ zGW := zGW_of 975 (by decide +kernel)
theorem sl_X5_moveCost : Cond.selects (yN mX5_moveCost).cls (yN mX5_moveCost) (yN mX5_moveCost) ∈ zGW := zGW_of 976 (by decide +kernel)
theorem np_X5_moveCost : (yN mX5_moveCost).cls ≠ "java/lang/invoke/MethodHandle" ∧ (yN mX5_moveCost).cls ≠ "java/lang/invoke/VarHandle" ∧ (parseMethodDescriptor (yN mX5_moveCost).desc).map (fun d => d.parameters.length) = some 3 := by decide +kernel
theorem cd_X5_putTier : Cond.code (yN mX5_putTier) (yC mX5_putTier) (yL mX5_putTier) (yR mX5_putTier) ∈ zGW := zGW_of 392 (by decide +kernel)
theorem im_X5_putTier : Cond.instanceMethod (yN mX5_putTier) ∈ zGW := zGW_of 390 (by decide +kernel)
theorem sl_X5_putTier : Cond.selects (yN mX5_putTier).cls (yN mX5_putTier) (yN mX5_putTier) ∈ zGW := zGW_of 391 (by decide +kernel)
theorem np_X5_putTier : (yN mX5_putTier).cls ≠ "java/lang/invoke/MethodHandle" ∧ (yN mX5_putTier).cls ≠ "java/lang/invoke/VarHandle" ∧ (parseMethodDescriptor (yN mX5_putTier).desc).map (fun d => d.parameters.length) = some 1 := by decide +kernel
theorem cd_X5_putFile : Cond.code (yN mX5_putFile) (yC mX5_putFile) (yL mX5_putFile) (yR mX5_putFile) ∈ zGW := zGW_of 572 (by decide +kernel)
theorem im_X5_putFile : Cond.instanceMethod (yN mX5_putFile) ∈ zGW := zGW_of 570 (by decide +kernel)
theorem sl_X5_putFile : Cond.selects (yN mX5_putFile).cls (yN mX5_putFile) (yN mX5_putFile) ∈ zGW := zGW_of 571 (by decide +kernel)
theorem np_X5_putFile : (yN mX5_putFile).cls ≠ "java/lang/invoke/MethodHandle" ∧ (yN mX5_putFile).cls ≠ "java/lang/invoke/VarHandle" ∧ (parseMethodDescriptor (yN mX5_putFile).desc).map (fun d => d.parameters.length) = some 4 := by decide +kernel
theorem cd_X5_removeFile : Cond.code (yN mX5_removeFile) (yC mX5_removeFile) (yL mX5_removeFile) (yR mX5_removeFile) ∈ zGW := zGW_of 1055 (by decide +kernel)
theorem im_X5_removeFile : Cond.instanceMethod (yN mX5_removeFile) ∈ zGW := zGW_of 1053 (by decide +kernel)
theorem sl_X5_removeFile : Cond.selects (yN mX5_removeFile).cls (yN mX5_removeFile) (yN mX5_removeFile) ∈ zGW := zGW_of 1054 (by decide +kernel)
theorem np_X5_removeFile : (yN mX5_removeFile).cls ≠ "java/lang/invoke/MethodHandle" ∧ (yN mX5_removeFile).cls ≠ "java/lang/invoke/VarHandle" ∧ (parseMethodDescriptor (yN mX5_removeFile).desc).map (fun d => d.parameters.length) = some 1 := by decide +kernel
theorem cd_X5_endPeriod : Cond.code (yN mX5_endPeriod) (yC mX5_endPeriod) (yL mX5_endPeriod) (yR mX5_endPeriod) ∈ zGW := zGW_of 650 (by decide +kernel)
theorem im_X5_endPeriod : Cond.instanceMethod (yN mX5_endPeriod) ∈ zGW := zGW_of 648 (by decide +kernel)
theorem sl_X5_endPeriod : Cond.selects (yN mX5_endPeriod).cls (yN mX5_endPeriod) (yN mX5_endPeriod) ∈ zGW := zGW_of 649 (by decide +kernel)
theorem np_X5_endPeriod : (yN mX5_endPeriod).cls ≠ "java/lang/invoke/MethodHandle" ∧ (yN mX5_endPeriod).cls ≠ "java/lang/invoke/VarHandle" ∧ (parseMethodDescriptor (yN mX5_endPeriod).desc).map (fun d => d.parameters.length) = some 0 := by decide +kernel
theorem cd_X5_payFor : Cond.code (yN mX5_payFor) (yC mX5_payFor) (yL mX5_payFor) (yR mX5_payFor) ∈ zGW := zGW_of 658 (by decide +kernel)
theorem im_X5_payFor : Cond.instanceMethod (yN mX5_payFor) ∈ zGW := zGW_of 656 (by decide +kernel)
theorem sl_X5_payFor : Cond.selects (yN mX5_payFor).cls (yN mX5_payFor) (yN mX5_payFor) ∈ zGW := zGW_of 657 (by decide +kernel)
theorem np_X5_payFor : (yN mX5_payFor).cls ≠ "java/lang/invoke/MethodHandle" ∧ (yN mX5_payFor).cls ≠ "java/lang/invoke/VarHandle" ∧ (parseMethodDescriptor (yN mX5_payFor).desc).map (fun d => d.parameters.length) = some 1 := by decide +kernel
theorem cd_X5_carry : Cond.code (yN mX5_carry) (yC mX5_carry) (yL mX5_carry) (yR mX5_carry) ∈ zGW := zGW_of 1081 (by decide +kernel)
theorem im_X5_carry : Cond.instanceMethod (yN mX5_carry) ∈ zGW := zGW_of 1079 (by decide +kernel)
theorem sl_X5_carry : Cond.selects (yN mX5_carry).cls (yN mX5_carry) (yN mX5_carry) ∈ zGW := zGW_of 1080 (by decide +kernel)
theorem np_X5_carry : (yN mX5_carry).cls ≠ "java/lang/invoke/MethodHandle" ∧ (yN mX5_carry).cls ≠ "java/lang/invoke/VarHandle" ∧ (parseMethodDescriptor (yN mX5_carry).desc).map (fun d => d.parameters.length) = some 2 := by decide +kernel
theorem cd_X5_carryBack : Cond.code (yN mX5_carryBack) (yC mX5_carryBack) (yL mX5_carryBack) (yR mX5_carryBack) ∈ zGW := zGW_of 695 (by decide +kernel)
theorem im_X5_carryBack : Cond.instanceMethod (yN mX5_carryBack) ∈ zGW := zGW_of 693 (by decide +kernel)
theorem sl_X5_carryBack : Cond.selects (yN mX5_carryBack).cls (yN mX5_carryBack) (yN mX5_carryBack) ∈ zGW := zGW_of 694 (by decide +kernel)
theorem np_X5_carryBack : (yN mX5_carryBack).cls ≠ "java/lang/invoke/MethodHandle" ∧ (yN mX5_carryBack).cls ≠ "java/lang/invoke/VarHandle" ∧ (parseMethodDescriptor (yN mX5_carryBack).desc).map (fun d => d.parameters.length) = some 0 := by decide +kernel
theorem cd_X5_learnAgain : Cond.code (yN mX5_learnAgain) (yC mX5_learnAgain) (yL mX5_learnAgain) (yR mX5_learnAgain) ∈ zGW := zGW_of 1115 (by decide +kernel)
theorem im_X5_learnAgain : Cond.instanceMethod (yN mX5_learnAgain) ∈ zGW := zGW_of 1113 (by decide +kernel)
theorem sl_X5_learnAgain : Cond.selects (yN mX5_learnAgain).cls (yN mX5_learnAgain) (yN mX5_learnAgain) ∈ zGW := zGW_of 1114 (by decide +kernel)
theorem np_X5_learnAgain : (yN mX5_learnAgain).cls ≠ "java/lang/invoke/MethodHandle" ∧ (yN mX5_learnAgain).cls ≠ "java/lang/invoke/VarHandle" ∧ (parseMethodDescriptor (yN mX5_learnAgain).desc).map (fun d => d.parameters.length) = some 2 := by decide +kernel
theorem cd_X6_init : Cond.code (yN mX6_init) (yC mX6_init) (yL mX6_init) (yR mX6_init) ∈ zGW := zGW_of 247 (by decide +kernel)
theorem im_X6_init : Cond.instanceMethod (yN mX6_init) ∈ zGW := zGW_of 246 (by decide +kernel)
theorem iw_X6_init : Cond.initialized (yN mX6_init).cls ∈ zGW := zGW_of 90 (by decide +kernel)
theorem np_X6_init : (yN mX6_init).cls ≠ "java/lang/invoke/MethodHandle" ∧ (yN mX6_init).cls ≠ "java/lang/invoke/VarHandle" ∧ (parseMethodDescriptor (yN mX6_init).desc).map (fun d => d.parameters.length) = some 0 := by decide +kernel
theorem cd_X6_copyFrom : Cond.code (yN mX6_copyFrom) (yC mX6_copyFrom) (yL mX6_copyFrom) (yR mX6_copyFrom) ∈ zGW := zGW_of 592 (by decide +kernel)
theorem im_X6_copyFrom : Cond.instanceMethod (yN mX6_copyFrom) ∈ zGW := zGW_of 590 (by decide +kernel)
theorem sl_X6_copyFrom : Cond.selects (yN mX6_copyFrom).cls (yN mX6_copyFrom) (yN mX6_copyFrom) ∈ zGW := zGW_of 591 (by decide +kernel)
theorem np_X6_copyFrom : (yN mX6_copyFrom).cls ≠ "java/lang/invoke/MethodHandle" ∧ (yN mX6_copyFrom).cls ≠ "java/lang/invoke/VarHandle" ∧ (parseMethodDescriptor (yN mX6_copyFrom).desc).map (fun d => d.parameters.length) = some 1 := by decide +kernel
theorem cd_X6_startAs : Cond.code (yN mX6_startAs) (yC mX6_startAs) (yL mX6_startAs) (yR mX6_startAs) ∈ zGW := zGW_of 396 (by decide +kernel)
theorem im_X6_startAs : Cond.instanceMethod (yN mX6_startAs) ∈ zGW := zGW_of 394 (by decide +kernel)
theorem sl_X6_startAs : Cond.selects (yN mX6_startAs).cls (yN mX6_startAs) (yN mX6_startAs) ∈ zGW := zGW_of 395 (by decide +kernel)
theorem np_X6_startAs : (yN mX6_startAs).cls ≠ "java/lang/invoke/MethodHandle" ∧ (yN mX6_startAs).cls ≠ "java/lang/invoke/VarHandle" ∧ (parseMethodDescriptor (yN mX6_startAs).desc).map (fun d => d.parameters.length) = some 1 := by decide +kernel
theorem cd_X6_paidFor : Cond.code (yN mX6_paidFor) (yC mX6_paidFor) (yL mX6_paidFor) (yR mX6_paidFor) ∈ zGW := zGW_of 641 (by decide +kernel)
theorem im_X6_paidFor : Cond.instanceMethod (yN mX6_paidFor) ∈ zGW := zGW_of 639 (by decide +kernel)
theorem sl_X6_paidFor : Cond.selects (yN mX6_paidFor).cls (yN mX6_paidFor) (yN mX6_paidFor) ∈ zGW := zGW_of 640 (by decide +kernel)
theorem np_X6_paidFor : (yN mX6_paidFor).cls ≠ "java/lang/invoke/MethodHandle" ∧ (yN mX6_paidFor).cls ≠ "java/lang/invoke/VarHandle" ∧ (parseMethodDescriptor (yN mX6_paidFor).desc).map (fun d => d.parameters.length) = some 1 := by decide +kernel
theorem cd_X7_init : Cond.code (yN mX7_init) (yC mX7_init) (yL mX7_init) (yR mX7_init) ∈ zGW := zGW_of 151 (by decide +kernel)
theorem im_X7_init : Cond.instanceMethod (yN mX7_init) ∈ zGW := zGW_of 150 (by decide +kernel)
theorem iw_X7_init : Cond.initialized (yN mX7_init).cls ∈ zGW := zGW_of 85 (by decide +kernel)
theorem np_X7_init : (yN mX7_init).cls ≠ "java/lang/invoke/MethodHandle" ∧ (yN mX7_init).cls ≠ "java/lang/invoke/VarHandle" ∧ (parseMethodDescriptor (yN mX7_init).desc).map (fun d => d.parameters.length) = some 0 := by decide +kernel
theorem cd_X7_withLetter : Cond.code (yN mX7_withLetter) (yC mX7_withLetter) (yL mX7_withLetter) (yR mX7_withLetter) ∈ zGW := zGW_of 388 (by decide +kernel)
theorem st_X7_withLetter : Cond.static (yN mX7_withLetter) ∈ zGW := zGW_of 387 (by decide +kernel)
theorem np_X7_withLetter : (yN mX7_withLetter).cls ≠ "java/lang/invoke/MethodHandle" ∧ (yN mX7_withLetter).cls ≠ "java/lang/invoke/VarHandle" ∧ (parseMethodDescriptor (yN mX7_withLetter).desc).map (fun d => d.parameters.length) = some 2 := by decide +kernel
theorem cd_X7_writeStore : Cond.code (yN mX7_writeStore) (yC mX7_writeStore) (yL mX7_writeStore) (yR mX7_writeStore) ∈ zGW := zGW_of 704 (by decide +kernel)
theorem im_X7_writeStore : Cond.instanceMethod (yN mX7_writeStore) ∈ zGW := zGW_of 702 (by decide +kernel)
theorem sl_X7_writeStore : Cond.selects (yN mX7_writeStore).cls (yN mX7_writeStore) (yN mX7_writeStore) ∈ zGW := zGW_of 703 (by decide +kernel)
theorem np_X7_writeStore : (yN mX7_writeStore).cls ≠ "java/lang/invoke/MethodHandle" ∧ (yN mX7_writeStore).cls ≠ "java/lang/invoke/VarHandle" ∧ (parseMethodDescriptor (yN mX7_writeStore).desc).map (fun d => d.parameters.length) = some 1 := by decide +kernel
theorem cd_X7_putFilesOn : Cond.code (yN mX7_putFilesOn) (yC mX7_putFilesOn) (yL mX7_putFilesOn) (yR mX7_putFilesOn) ∈ zGW := zGW_of 716 (by decide +kernel)
theorem im_X7_putFilesOn : Cond.instanceMethod (yN mX7_putFilesOn) ∈ zGW := zGW_of 715 (by decide +kernel)
theorem sl_X7_putFilesOn : Cond.selects (yN mX7_putFilesOn).cls (yN mX7_putFilesOn) (yN mX7_putFilesOn) ∈ zGW := zGW_of 15 (by decide +kernel)
theorem np_X7_putFilesOn : (yN mX7_putFilesOn).cls ≠ "java/lang/invoke/MethodHandle" ∧ (yN mX7_putFilesOn).cls ≠ "java/lang/invoke/VarHandle" ∧ (parseMethodDescriptor (yN mX7_putFilesOn).desc).map (fun d => d.parameters.length) = some 2 := by decide +kernel
theorem cd_X7_putName : Cond.code (yN mX7_putName) (yC mX7_putName) (yL mX7_putName) (yR mX7_putName) ∈ zGW := zGW_of 712 (by decide +kernel)
theorem im_X7_putName : Cond.instanceMethod (yN mX7_putName) ∈ zGW := zGW_of 711 (by decide +kernel)
theorem sl_X7_putName : Cond.selects (yN mX7_putName).cls (yN mX7_putName) (yN mX7_putName) ∈ zGW := zGW_of 14 (by decide +kernel)
theorem np_X7_putName : (yN mX7_putName).cls ≠ "java/lang/invoke/MethodHandle" ∧ (yN mX7_putName).cls ≠ "java/lang/invoke/VarHandle" ∧ (parseMethodDescriptor (yN mX7_putName).desc).map (fun d => d.parameters.length) = some 1 := by decide +kernel
theorem cd_X7_putByte : Cond.code (yN mX7_putByte) (yC mX7_putByte) (yL mX7_putByte) (yR mX7_putByte) ∈ zGW := zGW_of 708 (by decide +kernel)
theorem im_X7_putByte : Cond.instanceMethod (yN mX7_putByte) ∈ zGW := zGW_of 707 (by decide +kernel)
theorem sl_X7_putByte : Cond.selects (yN mX7_putByte).cls (yN mX7_putByte) (yN mX7_putByte) ∈ zGW := zGW_of 13 (by decide +kernel)
theorem np_X7_putByte : (yN mX7_putByte).cls ≠ "java/lang/invoke/MethodHandle" ∧ (yN mX7_putByte).cls ≠ "java/lang/invoke/VarHandle" ∧ (parseMethodDescriptor (yN mX7_putByte).desc).map (fun d => d.parameters.length) = some 1 := by decide +kernel
theorem cd_X8_init : Cond.code (yN mX8_init) (yC mX8_init) (yL mX8_init) (yR mX8_init) ∈ zGW := zGW_of 109 (by decide +kernel)
theorem im_X8_init : Cond.instanceMethod (yN mX8_init) ∈ zGW := zGW_of 108 (by decide +kernel)
theorem iw_X8_init : Cond.initialized (yN mX8_init).cls ∈ zGW := zGW_of 83 (by decide +kernel)
theorem np_X8_init : (yN mX8_init).cls ≠ "java/lang/invoke/MethodHandle" ∧ (yN mX8_init).cls ≠ "java/lang/invoke/VarHandle" ∧ (parseMethodDescriptor (yN mX8_init).desc).map (fun d => d.parameters.length) = some 0 := by decide +kernel
theorem cd_X8_append : Cond.code (yN mX8_append) (yC mX8_append) (yL mX8_append) (yR mX8_append) ∈ zGW := zGW_of 724 (by decide +kernel)
theorem im_X8_append : Cond.instanceMethod (yN mX8_append) ∈ zGW := zGW_of 722 (by decide +kernel)
theorem sl_X8_append : Cond.selects (yN mX8_append).cls (yN mX8_append) (yN mX8_append) ∈ zGW := zGW_of 723 (by decide +kernel)
theorem np_X8_append : (yN mX8_append).cls ≠ "java/lang/invoke/MethodHandle" ∧ (yN mX8_append).cls ≠ "java/lang/invoke/VarHandle" ∧ (parseMethodDescriptor (yN mX8_append).desc).map (fun d => d.parameters.length) = some 5 := by decide +kernel
theorem cd_X8_load : Cond.code (yN mX8_load) (yC mX8_load) (yL mX8_load) (yR mX8_load) ∈ zGW := zGW_of 428 (by decide +kernel)
theorem im_X8_load : Cond.instanceMethod (yN mX8_load) ∈ zGW := zGW_of 426 (by decide +kernel)
theorem sl_X8_load : Cond.selects (yN mX8_load).cls (yN mX8_load) (yN mX8_load) ∈ zGW := zGW_of 427 (by decide +kernel)
theorem np_X8_load : (yN mX8_load).cls ≠ "java/lang/invoke/MethodHandle" ∧ (yN mX8_load).cls ≠ "java/lang/invoke/VarHandle" ∧ (parseMethodDescriptor (yN mX8_load).desc).map (fun d => d.parameters.length) = some 0 := by decide +kernel
theorem cd_X8_errorPosition : Cond.code (yN mX8_errorPosition) (yC mX8_errorPosition) (yL mX8_errorPosition) (yR mX8_errorPosition) ∈ zGW := zGW_of 610 (by decide +kernel)
theorem im_X8_errorPosition : Cond.instanceMethod (yN mX8_errorPosition) ∈ zGW := zGW_of 608 (by decide +kernel)
theorem sl_X8_errorPosition : Cond.selects (yN mX8_errorPosition).cls (yN mX8_errorPosition) (yN mX8_errorPosition) ∈ zGW := zGW_of 609 (by decide +kernel)
theorem np_X8_errorPosition : (yN mX8_errorPosition).cls ≠ "java/lang/invoke/MethodHandle" ∧ (yN mX8_errorPosition).cls ≠ "java/lang/invoke/VarHandle" ∧ (parseMethodDescriptor (yN mX8_errorPosition).desc).map (fun d => d.parameters.length) = some 0 := by decide +kernel
theorem cd_X8_count : Cond.code (yN mX8_count) (yC mX8_count) (yL mX8_count) (yR mX8_count) ∈ zGW := zGW_of 802 (by decide +kernel)
theorem im_X8_count : Cond.instanceMethod (yN mX8_count) ∈ zGW := zGW_of 800 (by decide +kernel)
theorem sl_X8_count : Cond.selects (yN mX8_count).cls (yN mX8_count) (yN mX8_count) ∈ zGW := zGW_of 801 (by decide +kernel)
theorem np_X8_count : (yN mX8_count).cls ≠ "java/lang/invoke/MethodHandle" ∧ (yN mX8_count).cls ≠ "java/lang/invoke/VarHandle" ∧ (parseMethodDescriptor (yN mX8_count).desc).map (fun d => d.parameters.length) = some 1 := by decide +kernel
theorem cd_X8_tier : Cond.code (yN mX8_tier) (yC mX8_tier) (yL mX8_tier) (yR mX8_tier) ∈ zGW := zGW_of 837 (by decide +kernel)
theorem im_X8_tier : Cond.instanceMethod (yN mX8_tier) ∈ zGW := zGW_of 835 (by decide +kernel)
theorem sl_X8_tier : Cond.selects (yN mX8_tier).cls (yN mX8_tier) (yN mX8_tier) ∈ zGW := zGW_of 836 (by decide +kernel)
theorem np_X8_tier : (yN mX8_tier).cls ≠ "java/lang/invoke/MethodHandle" ∧ (yN mX8_tier).cls ≠ "java/lang/invoke/VarHandle" ∧ (parseMethodDescriptor (yN mX8_tier).desc).map (fun d => d.parameters.length) = some 2 := by decide +kernel
theorem cd_X8_file : Cond.code (yN mX8_file) (yC mX8_file) (yL mX8_file) (yR mX8_file) ∈ zGW := zGW_of 873 (by decide +kernel)
theorem im_X8_file : Cond.instanceMethod (yN mX8_file) ∈ zGW := zGW_of 871 (by decide +kernel)
theorem sl_X8_file : Cond.selects (yN mX8_file).cls (yN mX8_file) (yN mX8_file) ∈ zGW := zGW_of 872 (by decide +kernel)
theorem np_X8_file : (yN mX8_file).cls ≠ "java/lang/invoke/MethodHandle" ∧ (yN mX8_file).cls ≠ "java/lang/invoke/VarHandle" ∧ (parseMethodDescriptor (yN mX8_file).desc).map (fun d => d.parameters.length) = some 2 := by decide +kernel
theorem cd_X8_season : Cond.code (yN mX8_season) (yC mX8_season) (yL mX8_season) (yR mX8_season) ∈ zGW := zGW_of 895 (by decide +kernel)
theorem im_X8_season : Cond.instanceMethod (yN mX8_season) ∈ zGW := zGW_of 893 (by decide +kernel)
theorem sl_X8_season : Cond.selects (yN mX8_season).cls (yN mX8_season) (yN mX8_season) ∈ zGW := zGW_of 894 (by decide +kernel)
theorem np_X8_season : (yN mX8_season).cls ≠ "java/lang/invoke/MethodHandle" ∧ (yN mX8_season).cls ≠ "java/lang/invoke/VarHandle" ∧ (parseMethodDescriptor (yN mX8_season).desc).map (fun d => d.parameters.length) = some 2 := by decide +kernel
theorem cd_X8_kept : Cond.code (yN mX8_kept) (yC mX8_kept) (yL mX8_kept) (yR mX8_kept) ∈ zGW := zGW_of 902 (by decide +kernel)
theorem im_X8_kept : Cond.instanceMethod (yN mX8_kept) ∈ zGW := zGW_of 900 (by decide +kernel)
theorem sl_X8_kept : Cond.selects (yN mX8_kept).cls (yN mX8_kept) (yN mX8_kept) ∈ zGW := zGW_of 901 (by decide +kernel)
theorem np_X8_kept : (yN mX8_kept).cls ≠ "java/lang/invoke/MethodHandle" ∧ (yN mX8_kept).cls ≠ "java/lang/invoke/VarHandle" ∧ (parseMethodDescriptor (yN mX8_kept).desc).map (fun d => d.parameters.length) = some 2 := by decide +kernel
theorem cd_X8_forecast : Cond.code (yN mX8_forecast) (yC mX8_forecast) (yL mX8_forecast) (yR mX8_forecast) ∈ zGW := zGW_of 909 (by decide +kernel)
theorem im_X8_forecast : Cond.instanceMethod (yN mX8_forecast) ∈ zGW := zGW_of 907 (by decide +kernel)
theorem sl_X8_forecast : Cond.selects (yN mX8_forecast).cls (yN mX8_forecast) (yN mX8_forecast) ∈ zGW := zGW_of 908 (by decide +kernel)
theorem np_X8_forecast : (yN mX8_forecast).cls ≠ "java/lang/invoke/MethodHandle" ∧ (yN mX8_forecast).cls ≠ "java/lang/invoke/VarHandle" ∧ (parseMethodDescriptor (yN mX8_forecast).desc).map (fun d => d.parameters.length) = some 2 := by decide +kernel
theorem cd_X8_off : Cond.code (yN mX8_off) (yC mX8_off) (yL mX8_off) (yR mX8_off) ∈ zGW := zGW_of 918 (by decide +kernel)
theorem im_X8_off : Cond.instanceMethod (yN mX8_off) ∈ zGW := zGW_of 916 (by decide +kernel)
theorem sl_X8_off : Cond.selects (yN mX8_off).cls (yN mX8_off) (yN mX8_off) ∈ zGW := zGW_of 917 (by decide +kernel)
theorem np_X8_off : (yN mX8_off).cls ≠ "java/lang/invoke/MethodHandle" ∧ (yN mX8_off).cls ≠ "java/lang/invoke/VarHandle" ∧ (parseMethodDescriptor (yN mX8_off).desc).map (fun d => d.parameters.length) = some 1 := by decide +kernel
theorem cd_X8_meanOff : Cond.code (yN mX8_meanOff) (yC mX8_meanOff) (yL mX8_meanOff) (yR mX8_meanOff) ∈ zGW := zGW_of 614 (by decide +kernel)
theorem im_X8_meanOff : Cond.instanceMethod (yN mX8_meanOff) ∈ zGW := zGW_of 612 (by decide +kernel)
theorem sl_X8_meanOff : Cond.selects (yN mX8_meanOff).cls (yN mX8_meanOff) (yN mX8_meanOff) ∈ zGW := zGW_of 613 (by decide +kernel)
theorem np_X8_meanOff : (yN mX8_meanOff).cls ≠ "java/lang/invoke/MethodHandle" ∧ (yN mX8_meanOff).cls ≠ "java/lang/invoke/VarHandle" ∧ (parseMethodDescriptor (yN mX8_meanOff).desc).map (fun d => d.parameters.length) = some 0 := by decide +kernel
theorem cd_X8_cycleOf : Cond.code (yN mX8_cycleOf) (yC mX8_cycleOf) (yL mX8_cycleOf) (yR mX8_cycleOf) ∈ zGW := zGW_of 925 (by decide +kernel)
theorem im_X8_cycleOf : Cond.instanceMethod (yN mX8_cycleOf) ∈ zGW := zGW_of 923 (by decide +kernel)
theorem sl_X8_cycleOf : Cond.selects (yN mX8_cycleOf).cls (yN mX8_cycleOf) (yN mX8_cycleOf) ∈ zGW := zGW_of 924 (by decide +kernel)
theorem np_X8_cycleOf : (yN mX8_cycleOf).cls ≠ "java/lang/invoke/MethodHandle" ∧ (yN mX8_cycleOf).cls ≠ "java/lang/invoke/VarHandle" ∧ (parseMethodDescriptor (yN mX8_cycleOf).desc).map (fun d => d.parameters.length) = some 1 := by decide +kernel
theorem cd_X8_commonCycle : Cond.code (yN mX8_commonCycle) (yC mX8_commonCycle) (yL mX8_commonCycle) (yR mX8_commonCycle) ∈ zGW := zGW_of 618 (by decide +kernel)
theorem im_X8_commonCycle : Cond.instanceMethod (yN mX8_commonCycle) ∈ zGW := zGW_of 616 (by decide +kernel)
theorem sl_X8_commonCycle : Cond.selects (yN mX8_commonCycle).cls (yN mX8_commonCycle) (yN mX8_commonCycle) ∈ zGW := zGW_of 617 (by decide +kernel)
theorem np_X8_commonCycle : (yN mX8_commonCycle).cls ≠ "java/lang/invoke/MethodHandle" ∧ (yN mX8_commonCycle).cls ≠ "java/lang/invoke/VarHandle" ∧ (parseMethodDescriptor (yN mX8_commonCycle).desc).map (fun d => d.parameters.length) = some 0 := by decide +kernel
theorem cd_X8_account : Cond.code (yN mX8_account) (yC mX8_account) (yL mX8_account) (yR mX8_account) ∈ zGW := zGW_of 932 (by decide +kernel)
theorem im_X8_account : Cond.instanceMethod (yN mX8_account) ∈ zGW := zGW_of 930 (by decide +kernel)
theorem sl_X8_account : Cond.selects (yN mX8_account).cls (yN mX8_account) (yN mX8_account) ∈ zGW := zGW_of 931 (by decide +kernel)
theorem np_X8_account : (yN mX8_account).cls ≠ "java/lang/invoke/MethodHandle" ∧ (yN mX8_account).cls ≠ "java/lang/invoke/VarHandle" ∧ (parseMethodDescriptor (yN mX8_account).desc).map (fun d => d.parameters.length) = some 2 := by decide +kernel
theorem cd_X8_movingShare : Cond.code (yN mX8_movingShare) (yC mX8_movingShare) (yL mX8_movingShare) (yR mX8_movingShare) ∈ zGW := zGW_of 633 (by decide +kernel)
theorem im_X8_movingShare : Cond.instanceMethod (yN mX8_movingShare) ∈ zGW := zGW_of 631 (by decide +kernel)
theorem sl_X8_movingShare : Cond.selects (yN mX8_movingShare).cls (yN mX8_movingShare) (yN mX8_movingShare) ∈ zGW := zGW_of 632 (by decide +kernel)
theorem np_X8_movingShare : (yN mX8_movingShare).cls ≠ "java/lang/invoke/MethodHandle" ∧ (yN mX8_movingShare).cls ≠ "java/lang/invoke/VarHandle" ∧ (parseMethodDescriptor (yN mX8_movingShare).desc).map (fun d => d.parameters.length) = some 0 := by decide +kernel
theorem cd_X8_cost : Cond.code (yN mX8_cost) (yC mX8_cost) (yL mX8_cost) (yR mX8_cost) ∈ zGW := zGW_of 943 (by decide +kernel)
theorem im_X8_cost : Cond.instanceMethod (yN mX8_cost) ∈ zGW := zGW_of 941 (by decide +kernel)
theorem sl_X8_cost : Cond.selects (yN mX8_cost).cls (yN mX8_cost) (yN mX8_cost) ∈ zGW := zGW_of 942 (by decide +kernel)
theorem np_X8_cost : (yN mX8_cost).cls ≠ "java/lang/invoke/MethodHandle" ∧ (yN mX8_cost).cls ≠ "java/lang/invoke/VarHandle" ∧ (parseMethodDescriptor (yN mX8_cost).desc).map (fun d => d.parameters.length) = some 3 := by decide +kernel
theorem cd_X8_wish : Cond.code (yN mX8_wish) (yC mX8_wish) (yL mX8_wish) (yR mX8_wish) ∈ zGW := zGW_of 963 (by decide +kernel)
theorem im_X8_wish : Cond.instanceMethod (yN mX8_wish) ∈ zGW := zGW_of 961 (by decide +kernel)
theorem sl_X8_wish : Cond.selects (yN mX8_wish).cls (yN mX8_wish) (yN mX8_wish) ∈ zGW := zGW_of 962 (by decide +kernel)
theorem np_X8_wish : (yN mX8_wish).cls ≠ "java/lang/invoke/MethodHandle" ∧ (yN mX8_wish).cls ≠ "java/lang/invoke/VarHandle" ∧ (parseMethodDescriptor (yN mX8_wish).desc).map (fun d => d.parameters.length) = some 2 := by decide +kernel
theorem cd_X8_steps : Cond.code (yN mX8_steps) (yC mX8_steps) (yL mX8_steps) (yR mX8_steps) ∈ zGW := zGW_of 984 (by decide +kernel)
theorem im_X8_steps : Cond.instanceMethod (yN mX8_steps) ∈ zGW := zGW_of 982 (by decide +kernel)
theorem sl_X8_steps : Cond.selects (yN mX8_steps).cls (yN mX8_steps) (yN mX8_steps) ∈ zGW := zGW_of 983 (by decide +kernel)
theorem np_X8_steps : (yN mX8_steps).cls ≠ "java/lang/invoke/MethodHandle" ∧ (yN mX8_steps).cls ≠ "java/lang/invoke/VarHandle" ∧ (parseMethodDescriptor (yN mX8_steps).desc).map (fun d => d.parameters.length) = some 1 := by decide +kernel
theorem cd_X8_step : Cond.code (yN mX8_step) (yC mX8_step) (yL mX8_step) (yR mX8_step) ∈ zGW := zGW_of 1021 (by decide +kernel)
theorem im_X8_step : Cond.instanceMethod (yN mX8_step) ∈ zGW := zGW_of 1019 (by decide +kernel)
theorem sl_X8_step : Cond.selects (yN mX8_step).cls (yN mX8_step) (yN mX8_step) ∈ zGW := zGW_of 1020 (by decide +kernel)
theorem np_X8_step : (yN mX8_step).cls ≠ "java/lang/invoke/MethodHandle" ∧ (yN mX8_step).cls ≠ "java/lang/invoke/VarHandle" ∧ (parseMethodDescriptor (yN mX8_step).desc).map (fun d => d.parameters.length) = some 3 := by decide +kernel
theorem cd_X8_saving : Cond.code (yN mX8_saving) (yC mX8_saving) (yL mX8_saving) (yR mX8_saving) ∈ zGW := zGW_of 1028 (by decide +kernel)
theorem im_X8_saving : Cond.instanceMethod (yN mX8_saving) ∈ zGW := zGW_of 1026 (by decide +kernel)
theorem sl_X8_saving : Cond.selects (yN mX8_saving).cls (yN mX8_saving) (yN mX8_saving) ∈ zGW := zGW_of 1027 (by decide +kernel)
theorem np_X8_saving : (yN mX8_saving).cls ≠ "java/lang/invoke/MethodHandle" ∧ (yN mX8_saving).cls ≠ "java/lang/invoke/VarHandle" ∧ (parseMethodDescriptor (yN mX8_saving).desc).map (fun d => d.parameters.length) = some 1 := by decide +kernel
theorem cd_X8_withRoom : Cond.code (yN mX8_withRoom) (yC mX8_withRoom) (yL mX8_withRoom) (yR mX8_withRoom) ∈ zGW := zGW_of 1035 (by decide +kernel)
theorem im_X8_withRoom : Cond.instanceMethod (yN mX8_withRoom) ∈ zGW := zGW_of 1033 (by decide +kernel)
theorem sl_X8_withRoom : Cond.selects (yN mX8_withRoom).cls (yN mX8_withRoom) (yN mX8_withRoom) ∈ zGW := zGW_of 1034 (by decide +kernel)
theorem np_X8_withRoom : (yN mX8_withRoom).cls ≠ "java/lang/invoke/MethodHandle" ∧ (yN mX8_withRoom).cls ≠ "java/lang/invoke/VarHandle" ∧ (parseMethodDescriptor (yN mX8_withRoom).desc).map (fun d => d.parameters.length) = some 3 := by decide +kernel
theorem cd_X8_add : Cond.code (yN mX8_add) (yC mX8_add) (yL mX8_add) (yR mX8_add) ∈ zGW := zGW_of 1043 (by decide +kernel)
theorem im_X8_add : Cond.instanceMethod (yN mX8_add) ∈ zGW := zGW_of 1041 (by decide +kernel)
theorem sl_X8_add : Cond.selects (yN mX8_add).cls (yN mX8_add) (yN mX8_add) ∈ zGW := zGW_of 1042 (by decide +kernel)
theorem np_X8_add : (yN mX8_add).cls ≠ "java/lang/invoke/MethodHandle" ∧ (yN mX8_add).cls ≠ "java/lang/invoke/VarHandle" ∧ (parseMethodDescriptor (yN mX8_add).desc).map (fun d => d.parameters.length) = some 2 := by decide +kernel
theorem cd_X8_drop : Cond.code (yN mX8_drop) (yC mX8_drop) (yL mX8_drop) (yR mX8_drop) ∈ zGW := zGW_of 1051 (by decide +kernel)
theorem im_X8_drop : Cond.instanceMethod (yN mX8_drop) ∈ zGW := zGW_of 1049 (by decide +kernel)
theorem sl_X8_drop : Cond.selects (yN mX8_drop).cls (yN mX8_drop) (yN mX8_drop) ∈ zGW := zGW_of 1050 (by decide +kernel)
theorem np_X8_drop : (yN mX8_drop).cls ≠ "java/lang/invoke/MethodHandle" ∧ (yN mX8_drop).cls ≠ "java/lang/invoke/VarHandle" ∧ (parseMethodDescriptor (yN mX8_drop).desc).map (fun d => d.parameters.length) = some 1 := by decide +kernel
theorem cd_X8_use : Cond.code (yN mX8_use) (yC mX8_use) (yL mX8_use) (yR mX8_use) ∈ zGW := zGW_of 1070 (by decide +kernel)
theorem im_X8_use : Cond.instanceMethod (yN mX8_use) ∈ zGW := zGW_of 1068 (by decide +kernel)
theorem sl_X8_use : Cond.selects (yN mX8_use).cls (yN mX8_use) (yN mX8_use) ∈ zGW := zGW_of 1069 (by decide +kernel)
theorem np_X8_use : (yN mX8_use).cls ≠ "java/lang/invoke/MethodHandle" ∧ (yN mX8_use).cls ≠ "java/lang/invoke/VarHandle" ∧ (parseMethodDescriptor (yN mX8_use).desc).map (fun d => d.parameters.length) = some 2 := by decide +kernel
theorem cd_X8_close : Cond.code (yN mX8_close) (yC mX8_close) (yL mX8_close) (yR mX8_close) ∈ zGW := zGW_of 645 (by decide +kernel)
theorem im_X8_close : Cond.instanceMethod (yN mX8_close) ∈ zGW := zGW_of 643 (by decide +kernel)
theorem sl_X8_close : Cond.selects (yN mX8_close).cls (yN mX8_close) (yN mX8_close) ∈ zGW := zGW_of 644 (by decide +kernel)
theorem np_X8_close : (yN mX8_close).cls ≠ "java/lang/invoke/MethodHandle" ∧ (yN mX8_close).cls ≠ "java/lang/invoke/VarHandle" ∧ (parseMethodDescriptor (yN mX8_close).desc).map (fun d => d.parameters.length) = some 0 := by decide +kernel
theorem cd_X8_move : Cond.code (yN mX8_move) (yC mX8_move) (yL mX8_move) (yR mX8_move) ∈ zGW := zGW_of 1077 (by decide +kernel)
theorem im_X8_move : Cond.instanceMethod (yN mX8_move) ∈ zGW := zGW_of 1075 (by decide +kernel)
theorem sl_X8_move : Cond.selects (yN mX8_move).cls (yN mX8_move) (yN mX8_move) ∈ zGW := zGW_of 1076 (by decide +kernel)
theorem np_X8_move : (yN mX8_move).cls ≠ "java/lang/invoke/MethodHandle" ∧ (yN mX8_move).cls ≠ "java/lang/invoke/VarHandle" ∧ (parseMethodDescriptor (yN mX8_move).desc).map (fun d => d.parameters.length) = some 2 := by decide +kernel
theorem cd_X8_unmove : Cond.code (yN mX8_unmove) (yC mX8_unmove) (yL mX8_unmove) (yR mX8_unmove) ∈ zGW := zGW_of 686 (by decide +kernel)
theorem im_X8_unmove : Cond.instanceMethod (yN mX8_unmove) ∈ zGW := zGW_of 684 (by decide +kernel)
theorem sl_X8_unmove : Cond.selects (yN mX8_unmove).cls (yN mX8_unmove) (yN mX8_unmove) ∈ zGW := zGW_of 685 (by decide +kernel)
theorem np_X8_unmove : (yN mX8_unmove).cls ≠ "java/lang/invoke/MethodHandle" ∧ (yN mX8_unmove).cls ≠ "java/lang/invoke/VarHandle" ∧ (parseMethodDescriptor (yN mX8_unmove).desc).map (fun d => d.parameters.length) = some 0 := by decide +kernel
theorem cd_X8_pin : Cond.code (yN mX8_pin) (yC mX8_pin) (yL mX8_pin) (yR mX8_pin) ∈ zGW := zGW_of 1092 (by decide +kernel)
theorem im_X8_pin : Cond.instanceMethod (yN mX8_pin) ∈ zGW := zGW_of 1090 (by decide +kernel)
theorem sl_X8_pin : Cond.selects (yN mX8_pin).cls (yN mX8_pin) (yN mX8_pin) ∈ zGW := zGW_of 1091 (by decide +kernel)
theorem np_X8_pin : (yN mX8_pin).cls ≠ "java/lang/invoke/MethodHandle" ∧ (yN mX8_pin).cls ≠ "java/lang/invoke/VarHandle" ∧ (parseMethodDescriptor (yN mX8_pin).desc).map (fun d => d.parameters.length) = some 2 := by decide +kernel
theorem cd_X8_act : Cond.code (yN mX8_act) (yC mX8_act) (yL mX8_act) (yR mX8_act) ∈ zGW := zGW_of 1099 (by decide +kernel)
theorem im_X8_act : Cond.instanceMethod (yN mX8_act) ∈ zGW := zGW_of 1097 (by decide +kernel)
theorem sl_X8_act : Cond.selects (yN mX8_act).cls (yN mX8_act) (yN mX8_act) ∈ zGW := zGW_of 1098 (by decide +kernel)
theorem np_X8_act : (yN mX8_act).cls ≠ "java/lang/invoke/MethodHandle" ∧ (yN mX8_act).cls ≠ "java/lang/invoke/VarHandle" ∧ (parseMethodDescriptor (yN mX8_act).desc).map (fun d => d.parameters.length) = some 1 := by decide +kernel
theorem cd_X8_learn : Cond.code (yN mX8_learn) (yC mX8_learn) (yL mX8_learn) (yR mX8_learn) ∈ zGW := zGW_of 1111 (by decide +kernel)
theorem im_X8_learn : Cond.instanceMethod (yN mX8_learn) ∈ zGW := zGW_of 1109 (by decide +kernel)
theorem sl_X8_learn : Cond.selects (yN mX8_learn).cls (yN mX8_learn) (yN mX8_learn) ∈ zGW := zGW_of 1110 (by decide +kernel)
theorem np_X8_learn : (yN mX8_learn).cls ≠ "java/lang/invoke/MethodHandle" ∧ (yN mX8_learn).cls ≠ "java/lang/invoke/VarHandle" ∧ (parseMethodDescriptor (yN mX8_learn).desc).map (fun d => d.parameters.length) = some 2 := by decide +kernel
theorem cd_X8_setTier : Cond.code (yN mX8_setTier) (yC mX8_setTier) (yL mX8_setTier) (yR mX8_setTier) ∈ zGW := zGW_of 1130 (by decide +kernel)
theorem im_X8_setTier : Cond.instanceMethod (yN mX8_setTier) ∈ zGW := zGW_of 1128 (by decide +kernel)
theorem sl_X8_setTier : Cond.selects (yN mX8_setTier).cls (yN mX8_setTier) (yN mX8_setTier) ∈ zGW := zGW_of 1129 (by decide +kernel)
theorem np_X8_setTier : (yN mX8_setTier).cls ≠ "java/lang/invoke/MethodHandle" ∧ (yN mX8_setTier).cls ≠ "java/lang/invoke/VarHandle" ∧ (parseMethodDescriptor (yN mX8_setTier).desc).map (fun d => d.parameters.length) = some 3 := by decide +kernel
theorem cd_X8_undo : Cond.code (yN mX8_undo) (yC mX8_undo) (yL mX8_undo) (yR mX8_undo) ∈ zGW := zGW_of 1139 (by decide +kernel)
theorem im_X8_undo : Cond.instanceMethod (yN mX8_undo) ∈ zGW := zGW_of 1137 (by decide +kernel)
theorem sl_X8_undo : Cond.selects (yN mX8_undo).cls (yN mX8_undo) (yN mX8_undo) ∈ zGW := zGW_of 1138 (by decide +kernel)
theorem np_X8_undo : (yN mX8_undo).cls ≠ "java/lang/invoke/MethodHandle" ∧ (yN mX8_undo).cls ≠ "java/lang/invoke/VarHandle" ∧ (parseMethodDescriptor (yN mX8_undo).desc).map (fun d => d.parameters.length) = some 0 := by decide +kernel
theorem cd_X8_save : Cond.code (yN mX8_save) (yC mX8_save) (yL mX8_save) (yR mX8_save) ∈ zGW := zGW_of 1150 (by decide +kernel)
theorem im_X8_save : Cond.instanceMethod (yN mX8_save) ∈ zGW := zGW_of 1148 (by decide +kernel)
theorem sl_X8_save : Cond.selects (yN mX8_save).cls (yN mX8_save) (yN mX8_save) ∈ zGW := zGW_of 1149 (by decide +kernel)
theorem np_X8_save : (yN mX8_save).cls ≠ "java/lang/invoke/MethodHandle" ∧ (yN mX8_save).cls ≠ "java/lang/invoke/VarHandle" ∧ (parseMethodDescriptor (yN mX8_save).desc).map (fun d => d.parameters.length) = some 1 := by decide +kernel
theorem cd_X8_restore : Cond.code (yN mX8_restore) (yC mX8_restore) (yL mX8_restore) (yR mX8_restore) ∈ zGW := zGW_of 1160 (by decide +kernel)
theorem im_X8_restore : Cond.instanceMethod (yN mX8_restore) ∈ zGW := zGW_of 1158 (by decide +kernel)
theorem sl_X8_restore : Cond.selects (yN mX8_restore).cls (yN mX8_restore) (yN mX8_restore) ∈ zGW := zGW_of 1159 (by decide +kernel)
theorem np_X8_restore : (yN mX8_restore).cls ≠ "java/lang/invoke/MethodHandle" ∧ (yN mX8_restore).cls ≠ "java/lang/invoke/VarHandle" ∧ (parseMethodDescriptor (yN mX8_restore).desc).map (fun d => d.parameters.length) = some 1 := by decide +kernel
theorem cd_X8_writeTiers : Cond.code (yN mX8_writeTiers) (yC mX8_writeTiers) (yL mX8_writeTiers) (yR mX8_writeTiers) ∈ zGW := zGW_of 700 (by decide +kernel)
theorem im_X8_writeTiers : Cond.instanceMethod (yN mX8_writeTiers) ∈ zGW := zGW_of 698 (by decide +kernel)
theorem sl_X8_writeTiers : Cond.selects (yN mX8_writeTiers).cls (yN mX8_writeTiers) (yN mX8_writeTiers) ∈ zGW := zGW_of 699 (by decide +kernel)
theorem np_X8_writeTiers : (yN mX8_writeTiers).cls ≠ "java/lang/invoke/MethodHandle" ∧ (yN mX8_writeTiers).cls ≠ "java/lang/invoke/VarHandle" ∧ (parseMethodDescriptor (yN mX8_writeTiers).desc).map (fun d => d.parameters.length) = some 0 := by decide +kernel
theorem cd_X8_writtenByte : Cond.code (yN mX8_writtenByte) (yC mX8_writtenByte) (yL mX8_writtenByte) (yR mX8_writtenByte) ∈ zGW := zGW_of 1167 (by decide +kernel)
theorem im_X8_writtenByte : Cond.instanceMethod (yN mX8_writtenByte) ∈ zGW := zGW_of 1165 (by decide +kernel)
theorem sl_X8_writtenByte : Cond.selects (yN mX8_writtenByte).cls (yN mX8_writtenByte) (yN mX8_writtenByte) ∈ zGW := zGW_of 1166 (by decide +kernel)
theorem np_X8_writtenByte : (yN mX8_writtenByte).cls ≠ "java/lang/invoke/MethodHandle" ∧ (yN mX8_writtenByte).cls ≠ "java/lang/invoke/VarHandle" ∧ (parseMethodDescriptor (yN mX8_writtenByte).desc).map (fun d => d.parameters.length) = some 1 := by decide +kernel
theorem cd_X8_requireTier : Cond.code (yN mX8_requireTier) (yC mX8_requireTier) (yL mX8_requireTier) (yR mX8_requireTier) ∈ zGW := zGW_of 841 (by decide +kernel)
theorem im_X8_requireTier : Cond.instanceMethod (yN mX8_requireTier) ∈ zGW := zGW_of 840 (by decide +kernel)
theorem sl_X8_requireTier : Cond.selects (yN mX8_requireTier).cls (yN mX8_requireTier) (yN mX8_requireTier) ∈ zGW := zGW_of 17 (by decide +kernel)
theorem np_X8_requireTier : (yN mX8_requireTier).cls ≠ "java/lang/invoke/MethodHandle" ∧ (yN mX8_requireTier).cls ≠ "java/lang/invoke/VarHandle" ∧ (parseMethodDescriptor (yN mX8_requireTier).desc).map (fun d => d.parameters.length) = some 1 := by decide +kernel
theorem cd_X8_requireFile : Cond.code (yN mX8_requireFile) (yC mX8_requireFile) (yL mX8_requireFile) (yR mX8_requireFile) ∈ zGW := zGW_of 877 (by decide +kernel)
theorem im_X8_requireFile : Cond.instanceMethod (yN mX8_requireFile) ∈ zGW := zGW_of 876 (by decide +kernel)
theorem sl_X8_requireFile : Cond.selects (yN mX8_requireFile).cls (yN mX8_requireFile) (yN mX8_requireFile) ∈ zGW := zGW_of 18 (by decide +kernel)
theorem np_X8_requireFile : (yN mX8_requireFile).cls ≠ "java/lang/invoke/MethodHandle" ∧ (yN mX8_requireFile).cls ≠ "java/lang/invoke/VarHandle" ∧ (parseMethodDescriptor (yN mX8_requireFile).desc).map (fun d => d.parameters.length) = some 1 := by decide +kernel
theorem cd_X8_requireSlot : Cond.code (yN mX8_requireSlot) (yC mX8_requireSlot) (yL mX8_requireSlot) (yR mX8_requireSlot) ∈ zGW := zGW_of 1153 (by decide +kernel)
theorem st_X8_requireSlot : Cond.static (yN mX8_requireSlot) ∈ zGW := zGW_of 1152 (by decide +kernel)
theorem np_X8_requireSlot : (yN mX8_requireSlot).cls ≠ "java/lang/invoke/MethodHandle" ∧ (yN mX8_requireSlot).cls ≠ "java/lang/invoke/VarHandle" ∧ (parseMethodDescriptor (yN mX8_requireSlot).desc).map (fun d => d.parameters.length) = some 1 := by decide +kernel
theorem cd_X8_requirePeriods : Cond.code (yN mX8_requirePeriods) (yC mX8_requirePeriods) (yL mX8_requirePeriods) (yR mX8_requirePeriods) ∈ zGW := zGW_of 946 (by decide +kernel)
theorem st_X8_requirePeriods : Cond.static (yN mX8_requirePeriods) ∈ zGW := zGW_of 945 (by decide +kernel)
theorem np_X8_requirePeriods : (yN mX8_requirePeriods).cls ≠ "java/lang/invoke/MethodHandle" ∧ (yN mX8_requirePeriods).cls ≠ "java/lang/invoke/VarHandle" ∧ (parseMethodDescriptor (yN mX8_requirePeriods).desc).map (fun d => d.parameters.length) = some 1 := by decide +kernel
theorem cd_X8_requireWithin : Cond.code (yN mX8_requireWithin) (yC mX8_requireWithin) (yL mX8_requireWithin) (yR mX8_requireWithin) ∈ zGW := zGW_of 935 (by decide +kernel)
theorem st_X8_requireWithin : Cond.static (yN mX8_requireWithin) ∈ zGW := zGW_of 934 (by decide +kernel)
theorem np_X8_requireWithin : (yN mX8_requireWithin).cls ≠ "java/lang/invoke/MethodHandle" ∧ (yN mX8_requireWithin).cls ≠ "java/lang/invoke/VarHandle" ∧ (parseMethodDescriptor (yN mX8_requireWithin).desc).map (fun d => d.parameters.length) = some 3 := by decide +kernel
theorem cd_X8_leastOf : Cond.code (yN mX8_leastOf) (yC mX8_leastOf) (yL mX8_leastOf) (yR mX8_leastOf) ∈ zGW := zGW_of 541 (by decide +kernel)
theorem st_X8_leastOf : Cond.static (yN mX8_leastOf) ∈ zGW := zGW_of 540 (by decide +kernel)
theorem np_X8_leastOf : (yN mX8_leastOf).cls ≠ "java/lang/invoke/MethodHandle" ∧ (yN mX8_leastOf).cls ≠ "java/lang/invoke/VarHandle" ∧ (parseMethodDescriptor (yN mX8_leastOf).desc).map (fun d => d.parameters.length) = some 1 := by decide +kernel
theorem cd_X8_greatestOf : Cond.code (yN mX8_greatestOf) (yC mX8_greatestOf) (yL mX8_greatestOf) (yR mX8_greatestOf) ∈ zGW := zGW_of 544 (by decide +kernel)
theorem st_X8_greatestOf : Cond.static (yN mX8_greatestOf) ∈ zGW := zGW_of 543 (by decide +kernel)
theorem np_X8_greatestOf : (yN mX8_greatestOf).cls ≠ "java/lang/invoke/MethodHandle" ∧ (yN mX8_greatestOf).cls ≠ "java/lang/invoke/VarHandle" ∧ (parseMethodDescriptor (yN mX8_greatestOf).desc).map (fun d => d.parameters.length) = some 1 := by decide +kernel
theorem cd_X8_bytesIn : Cond.code (yN mX8_bytesIn) (yC mX8_bytesIn) (yL mX8_bytesIn) (yR mX8_bytesIn) ∈ zGW := zGW_of 727 (by decide +kernel)
theorem st_X8_bytesIn : Cond.static (yN mX8_bytesIn) ∈ zGW := zGW_of 726 (by decide +kernel)
theorem np_X8_bytesIn : (yN mX8_bytesIn).cls ≠ "java/lang/invoke/MethodHandle" ∧ (yN mX8_bytesIn).cls ≠ "java/lang/invoke/VarHandle" ∧ (parseMethodDescriptor (yN mX8_bytesIn).desc).map (fun d => d.parameters.length) = some 1 := by decide +kernel
theorem cd_X9_init : Cond.code (yN mX9_init) (yC mX9_init) (yL mX9_init) (yR mX9_init) ∈ zGW := zGW_of 1172 (by decide +kernel)
theorem im_X9_init : Cond.instanceMethod (yN mX9_init) ∈ zGW := zGW_of 1171 (by decide +kernel)
theorem iw_X9_init : Cond.initialized (yN mX9_init).cls ∈ zGW := zGW_of 92 (by decide +kernel)
theorem np_X9_init : (yN mX9_init).cls ≠ "java/lang/invoke/MethodHandle" ∧ (yN mX9_init).cls ≠ "java/lang/invoke/VarHandle" ∧ (parseMethodDescriptor (yN mX9_init).desc).map (fun d => d.parameters.length) = some 0 := by decide +kernel
theorem cd_X9_puts : Cond.code (yN mX9_puts) (yC mX9_puts) (yL mX9_puts) (yR mX9_puts) ∈ zGW := zGW_of 1183 (by decide +kernel)
theorem im_X9_puts : Cond.instanceMethod (yN mX9_puts) ∈ zGW := zGW_of 1182 (by decide +kernel)
theorem sl_X9_puts : Cond.selects (yN mX9_puts).cls (yN mX9_puts) (yN mX9_puts) ∈ zGW := zGW_of 26 (by decide +kernel)
theorem np_X9_puts : (yN mX9_puts).cls ≠ "java/lang/invoke/MethodHandle" ∧ (yN mX9_puts).cls ≠ "java/lang/invoke/VarHandle" ∧ (parseMethodDescriptor (yN mX9_puts).desc).map (fun d => d.parameters.length) = some 6 := by decide +kernel
theorem cd_X9_begins : Cond.code (yN mX9_begins) (yC mX9_begins) (yL mX9_begins) (yR mX9_begins) ∈ zGW := zGW_of 1177 (by decide +kernel)
theorem im_X9_begins : Cond.instanceMethod (yN mX9_begins) ∈ zGW := zGW_of 1176 (by decide +kernel)
theorem sl_X9_begins : Cond.selects (yN mX9_begins).cls (yN mX9_begins) (yN mX9_begins) ∈ zGW := zGW_of 25 (by decide +kernel)
theorem np_X9_begins : (yN mX9_begins).cls ≠ "java/lang/invoke/MethodHandle" ∧ (yN mX9_begins).cls ≠ "java/lang/invoke/VarHandle" ∧ (parseMethodDescriptor (yN mX9_begins).desc).map (fun d => d.parameters.length) = some 0 := by decide +kernel
theorem cd_X9_thrown : Cond.code (yN mX9_thrown) (yC mX9_thrown) (yL mX9_thrown) (yR mX9_thrown) ∈ zGW := zGW_of 1284 (by decide +kernel)
theorem im_X9_thrown : Cond.instanceMethod (yN mX9_thrown) ∈ zGW := zGW_of 1282 (by decide +kernel)
theorem sl_X9_thrown : Cond.selects (yN mX9_thrown).cls (yN mX9_thrown) (yN mX9_thrown) ∈ zGW := zGW_of 1283 (by decide +kernel)
theorem np_X9_thrown : (yN mX9_thrown).cls ≠ "java/lang/invoke/MethodHandle" ∧ (yN mX9_thrown).cls ≠ "java/lang/invoke/VarHandle" ∧ (parseMethodDescriptor (yN mX9_thrown).desc).map (fun d => d.parameters.length) = some 0 := by decide +kernel
theorem cd_X9_isIn : Cond.code (yN mX9_isIn) (yC mX9_isIn) (yL mX9_isIn) (yR mX9_isIn) ∈ zGW := zGW_of 1298 (by decide +kernel)
theorem st_X9_isIn : Cond.static (yN mX9_isIn) ∈ zGW := zGW_of 1297 (by decide +kernel)
theorem np_X9_isIn : (yN mX9_isIn).cls ≠ "java/lang/invoke/MethodHandle" ∧ (yN mX9_isIn).cls ≠ "java/lang/invoke/VarHandle" ∧ (parseMethodDescriptor (yN mX9_isIn).desc).map (fun d => d.parameters.length) = some 3 := by decide +kernel
theorem cd_X9_copies : Cond.code (yN mX9_copies) (yC mX9_copies) (yL mX9_copies) (yR mX9_copies) ∈ zGW := zGW_of 1291 (by decide +kernel)
theorem st_X9_copies : Cond.static (yN mX9_copies) ∈ zGW := zGW_of 1290 (by decide +kernel)
theorem np_X9_copies : (yN mX9_copies).cls ≠ "java/lang/invoke/MethodHandle" ∧ (yN mX9_copies).cls ≠ "java/lang/invoke/VarHandle" ∧ (parseMethodDescriptor (yN mX9_copies).desc).map (fun d => d.parameters.length) = some 4 := by decide +kernel
theorem cd_X9_keeps : Cond.code (yN mX9_keeps) (yC mX9_keeps) (yL mX9_keeps) (yR mX9_keeps) ∈ zGW := zGW_of 1306 (by decide +kernel)
theorem im_X9_keeps : Cond.instanceMethod (yN mX9_keeps) ∈ zGW := zGW_of 1305 (by decide +kernel)
theorem sl_X9_keeps : Cond.selects (yN mX9_keeps).cls (yN mX9_keeps) (yN mX9_keeps) ∈ zGW := zGW_of 27 (by decide +kernel)
theorem np_X9_keeps : (yN mX9_keeps).cls ≠ "java/lang/invoke/MethodHandle" ∧ (yN mX9_keeps).cls ≠ "java/lang/invoke/VarHandle" ∧ (parseMethodDescriptor (yN mX9_keeps).desc).map (fun d => d.parameters.length) = some 1 := by decide +kernel
theorem cd_X9_undo : Cond.code (yN mX9_undo) (yC mX9_undo) (yL mX9_undo) (yR mX9_undo) ∈ zGW := zGW_of 1288 (by decide +kernel)
theorem im_X9_undo : Cond.instanceMethod (yN mX9_undo) ∈ zGW := zGW_of 1286 (by decide +kernel)
theorem sl_X9_undo : Cond.selects (yN mX9_undo).cls (yN mX9_undo) (yN mX9_undo) ∈ zGW := zGW_of 1287 (by decide +kernel)
theorem np_X9_undo : (yN mX9_undo).cls ≠ "java/lang/invoke/MethodHandle" ∧ (yN mX9_undo).cls ≠ "java/lang/invoke/VarHandle" ∧ (parseMethodDescriptor (yN mX9_undo).desc).map (fun d => d.parameters.length) = some 0 := by decide +kernel
theorem cd_X9_save : Cond.code (yN mX9_save) (yC mX9_save) (yL mX9_save) (yR mX9_save) ∈ zGW := zGW_of 1295 (by decide +kernel)
theorem im_X9_save : Cond.instanceMethod (yN mX9_save) ∈ zGW := zGW_of 1293 (by decide +kernel)
theorem sl_X9_save : Cond.selects (yN mX9_save).cls (yN mX9_save) (yN mX9_save) ∈ zGW := zGW_of 1294 (by decide +kernel)
theorem np_X9_save : (yN mX9_save).cls ≠ "java/lang/invoke/MethodHandle" ∧ (yN mX9_save).cls ≠ "java/lang/invoke/VarHandle" ∧ (parseMethodDescriptor (yN mX9_save).desc).map (fun d => d.parameters.length) = some 1 := by decide +kernel
theorem cd_X9_restore : Cond.code (yN mX9_restore) (yC mX9_restore) (yL mX9_restore) (yR mX9_restore) ∈ zGW := zGW_of 1302 (by decide +kernel)
theorem im_X9_restore : Cond.instanceMethod (yN mX9_restore) ∈ zGW := zGW_of 1300 (by decide +kernel)
theorem sl_X9_restore : Cond.selects (yN mX9_restore).cls (yN mX9_restore) (yN mX9_restore) ∈ zGW := zGW_of 1301 (by decide +kernel)
theorem np_X9_restore : (yN mX9_restore).cls ≠ "java/lang/invoke/MethodHandle" ∧ (yN mX9_restore).cls ≠ "java/lang/invoke/VarHandle" ∧ (parseMethodDescriptor (yN mX9_restore).desc).map (fun d => d.parameters.length) = some 1 := by decide +kernel
theorem cd_X9_byteOf : Cond.code (yN mX9_byteOf) (yC mX9_byteOf) (yL mX9_byteOf) (yR mX9_byteOf) ∈ zGW := zGW_of 1317 (by decide +kernel)
theorem st_X9_byteOf : Cond.static (yN mX9_byteOf) ∈ zGW := zGW_of 1316 (by decide +kernel)
theorem np_X9_byteOf : (yN mX9_byteOf).cls ≠ "java/lang/invoke/MethodHandle" ∧ (yN mX9_byteOf).cls ≠ "java/lang/invoke/VarHandle" ∧ (parseMethodDescriptor (yN mX9_byteOf).desc).map (fun d => d.parameters.length) = some 6 := by decide +kernel
theorem cd_X9_append : Cond.code (yN mX9_append) (yC mX9_append) (yL mX9_append) (yR mX9_append) ∈ zGW := zGW_of 1314 (by decide +kernel)
theorem im_X9_append : Cond.instanceMethod (yN mX9_append) ∈ zGW := zGW_of 1312 (by decide +kernel)
theorem sl_X9_append : Cond.selects (yN mX9_append).cls (yN mX9_append) (yN mX9_append) ∈ zGW := zGW_of 1313 (by decide +kernel)
theorem np_X9_append : (yN mX9_append).cls ≠ "java/lang/invoke/MethodHandle" ∧ (yN mX9_append).cls ≠ "java/lang/invoke/VarHandle" ∧ (parseMethodDescriptor (yN mX9_append).desc).map (fun d => d.parameters.length) = some 5 := by decide +kernel
theorem cd_X9_see : Cond.code (yN mX9_see) (yC mX9_see) (yL mX9_see) (yR mX9_see) ∈ zGW := zGW_of 1329 (by decide +kernel)
theorem im_X9_see : Cond.instanceMethod (yN mX9_see) ∈ zGW := zGW_of 1328 (by decide +kernel)
theorem sl_X9_see : Cond.selects (yN mX9_see).cls (yN mX9_see) (yN mX9_see) ∈ zGW := zGW_of 30 (by decide +kernel)
theorem np_X9_see : (yN mX9_see).cls ≠ "java/lang/invoke/MethodHandle" ∧ (yN mX9_see).cls ≠ "java/lang/invoke/VarHandle" ∧ (parseMethodDescriptor (yN mX9_see).desc).map (fun d => d.parameters.length) = some 1 := by decide +kernel
theorem cd_X9_isLetter : Cond.code (yN mX9_isLetter) (yC mX9_isLetter) (yL mX9_isLetter) (yR mX9_isLetter) ∈ zGW := zGW_of 1333 (by decide +kernel)
theorem im_X9_isLetter : Cond.instanceMethod (yN mX9_isLetter) ∈ zGW := zGW_of 1332 (by decide +kernel)
theorem sl_X9_isLetter : Cond.selects (yN mX9_isLetter).cls (yN mX9_isLetter) (yN mX9_isLetter) ∈ zGW := zGW_of 31 (by decide +kernel)
theorem np_X9_isLetter : (yN mX9_isLetter).cls ≠ "java/lang/invoke/MethodHandle" ∧ (yN mX9_isLetter).cls ≠ "java/lang/invoke/VarHandle" ∧ (parseMethodDescriptor (yN mX9_isLetter).desc).map (fun d => d.parameters.length) = some 1 := by decide +kernel
theorem cd_X9_isDigit : Cond.code (yN mX9_isDigit) (yC mX9_isDigit) (yL mX9_isDigit) (yR mX9_isDigit) ∈ zGW := zGW_of 1337 (by decide +kernel)
theorem im_X9_isDigit : Cond.instanceMethod (yN mX9_isDigit) ∈ zGW := zGW_of 1336 (by decide +kernel)
theorem sl_X9_isDigit : Cond.selects (yN mX9_isDigit).cls (yN mX9_isDigit) (yN mX9_isDigit) ∈ zGW := zGW_of 32 (by decide +kernel)
theorem np_X9_isDigit : (yN mX9_isDigit).cls ≠ "java/lang/invoke/MethodHandle" ∧ (yN mX9_isDigit).cls ≠ "java/lang/invoke/VarHandle" ∧ (parseMethodDescriptor (yN mX9_isDigit).desc).map (fun d => d.parameters.length) = some 1 := by decide +kernel
theorem cd_X9_next : Cond.code (yN mX9_next) (yC mX9_next) (yL mX9_next) (yR mX9_next) ∈ zGW := zGW_of 1325 (by decide +kernel)
theorem im_X9_next : Cond.instanceMethod (yN mX9_next) ∈ zGW := zGW_of 1324 (by decide +kernel)
theorem sl_X9_next : Cond.selects (yN mX9_next).cls (yN mX9_next) (yN mX9_next) ∈ zGW := zGW_of 29 (by decide +kernel)
theorem np_X9_next : (yN mX9_next).cls ≠ "java/lang/invoke/MethodHandle" ∧ (yN mX9_next).cls ≠ "java/lang/invoke/VarHandle" ∧ (parseMethodDescriptor (yN mX9_next).desc).map (fun d => d.parameters.length) = some 0 := by decide +kernel
theorem cd_X9_isWord : Cond.code (yN mX9_isWord) (yC mX9_isWord) (yL mX9_isWord) (yR mX9_isWord) ∈ zGW := zGW_of 1346 (by decide +kernel)
theorem im_X9_isWord : Cond.instanceMethod (yN mX9_isWord) ∈ zGW := zGW_of 1345 (by decide +kernel)
theorem sl_X9_isWord : Cond.selects (yN mX9_isWord).cls (yN mX9_isWord) (yN mX9_isWord) ∈ zGW := zGW_of 33 (by decide +kernel)
theorem np_X9_isWord : (yN mX9_isWord).cls ≠ "java/lang/invoke/MethodHandle" ∧ (yN mX9_isWord).cls ≠ "java/lang/invoke/VarHandle" ∧ (parseMethodDescriptor (yN mX9_isWord).desc).map (fun d => d.parameters.length) = some 1 := by decide +kernel
theorem cd_X9_fails : Cond.code (yN mX9_fails) (yC mX9_fails) (yL mX9_fails) (yR mX9_fails) ∈ zGW := zGW_of 1356 (by decide +kernel)
theorem im_X9_fails : Cond.instanceMethod (yN mX9_fails) ∈ zGW := zGW_of 1355 (by decide +kernel)
theorem sl_X9_fails : Cond.selects (yN mX9_fails).cls (yN mX9_fails) (yN mX9_fails) ∈ zGW := zGW_of 35 (by decide +kernel)
theorem np_X9_fails : (yN mX9_fails).cls ≠ "java/lang/invoke/MethodHandle" ∧ (yN mX9_fails).cls ≠ "java/lang/invoke/VarHandle" ∧ (parseMethodDescriptor (yN mX9_fails).desc).map (fun d => d.parameters.length) = some 1 := by decide +kernel
theorem cd_X9_must : Cond.code (yN mX9_must) (yC mX9_must) (yL mX9_must) (yR mX9_must) ∈ zGW := zGW_of 1352 (by decide +kernel)
theorem im_X9_must : Cond.instanceMethod (yN mX9_must) ∈ zGW := zGW_of 1351 (by decide +kernel)
theorem sl_X9_must : Cond.selects (yN mX9_must).cls (yN mX9_must) (yN mX9_must) ∈ zGW := zGW_of 34 (by decide +kernel)
theorem np_X9_must : (yN mX9_must).cls ≠ "java/lang/invoke/MethodHandle" ∧ (yN mX9_must).cls ≠ "java/lang/invoke/VarHandle" ∧ (parseMethodDescriptor (yN mX9_must).desc).map (fun d => d.parameters.length) = some 1 := by decide +kernel
theorem cd_X9_mustEnd : Cond.code (yN mX9_mustEnd) (yC mX9_mustEnd) (yL mX9_mustEnd) (yR mX9_mustEnd) ∈ zGW := zGW_of 1365 (by decide +kernel)
theorem im_X9_mustEnd : Cond.instanceMethod (yN mX9_mustEnd) ∈ zGW := zGW_of 1364 (by decide +kernel)
theorem sl_X9_mustEnd : Cond.selects (yN mX9_mustEnd).cls (yN mX9_mustEnd) (yN mX9_mustEnd) ∈ zGW := zGW_of 37 (by decide +kernel)
theorem np_X9_mustEnd : (yN mX9_mustEnd).cls ≠ "java/lang/invoke/MethodHandle" ∧ (yN mX9_mustEnd).cls ≠ "java/lang/invoke/VarHandle" ∧ (parseMethodDescriptor (yN mX9_mustEnd).desc).map (fun d => d.parameters.length) = some 0 := by decide +kernel
theorem cd_X9_takes : Cond.code (yN mX9_takes) (yC mX9_takes) (yL mX9_takes) (yR mX9_takes) ∈ zGW := zGW_of 1360 (by decide +kernel)
theorem im_X9_takes : Cond.instanceMethod (yN mX9_takes) ∈ zGW := zGW_of 1359 (by decide +kernel)
theorem sl_X9_takes : Cond.selects (yN mX9_takes).cls (yN mX9_takes) (yN mX9_takes) ∈ zGW := zGW_of 36 (by decide +kernel)
theorem np_X9_takes : (yN mX9_takes).cls ≠ "java/lang/invoke/MethodHandle" ∧ (yN mX9_takes).cls ≠ "java/lang/invoke/VarHandle" ∧ (parseMethodDescriptor (yN mX9_takes).desc).map (fun d => d.parameters.length) = some 2 := by decide +kernel
theorem cd_X9_mustName : Cond.code (yN mX9_mustName) (yC mX9_mustName) (yL mX9_mustName) (yR mX9_mustName) ∈ zGW := zGW_of 1378 (by decide +kernel)
theorem im_X9_mustName : Cond.instanceMethod (yN mX9_mustName) ∈ zGW := zGW_of 1377 (by decide +kernel)
theorem sl_X9_mustName : Cond.selects (yN mX9_mustName).cls (yN mX9_mustName) (yN mX9_mustName) ∈ zGW := zGW_of 40 (by decide +kernel)
theorem np_X9_mustName : (yN mX9_mustName).cls ≠ "java/lang/invoke/MethodHandle" ∧ (yN mX9_mustName).cls ≠ "java/lang/invoke/VarHandle" ∧ (parseMethodDescriptor (yN mX9_mustName).desc).map (fun d => d.parameters.length) = some 0 := by decide +kernel
theorem cd_X9_named : Cond.code (yN mX9_named) (yC mX9_named) (yL mX9_named) (yR mX9_named) ∈ zGW := zGW_of 1382 (by decide +kernel)
theorem im_X9_named : Cond.instanceMethod (yN mX9_named) ∈ zGW := zGW_of 1381 (by decide +kernel)
theorem sl_X9_named : Cond.selects (yN mX9_named).cls (yN mX9_named) (yN mX9_named) ∈ zGW := zGW_of 41 (by decide +kernel)
theorem np_X9_named : (yN mX9_named).cls ≠ "java/lang/invoke/MethodHandle" ∧ (yN mX9_named).cls ≠ "java/lang/invoke/VarHandle" ∧ (parseMethodDescriptor (yN mX9_named).desc).map (fun d => d.parameters.length) = some 3 := by decide +kernel
theorem cd_X9_putsName : Cond.code (yN mX9_putsName) (yC mX9_putsName) (yL mX9_putsName) (yR mX9_putsName) ∈ zGW := zGW_of 1386 (by decide +kernel)
theorem im_X9_putsName : Cond.instanceMethod (yN mX9_putsName) ∈ zGW := zGW_of 1385 (by decide +kernel)
theorem sl_X9_putsName : Cond.selects (yN mX9_putsName).cls (yN mX9_putsName) (yN mX9_putsName) ∈ zGW := zGW_of 42 (by decide +kernel)
theorem np_X9_putsName : (yN mX9_putsName).cls ≠ "java/lang/invoke/MethodHandle" ∧ (yN mX9_putsName).cls ≠ "java/lang/invoke/VarHandle" ∧ (parseMethodDescriptor (yN mX9_putsName).desc).map (fun d => d.parameters.length) = some 1 := by decide +kernel
theorem cd_X9_readsTier : Cond.code (yN mX9_readsTier) (yC mX9_readsTier) (yL mX9_readsTier) (yR mX9_readsTier) ∈ zGW := zGW_of 1369 (by decide +kernel)
theorem im_X9_readsTier : Cond.instanceMethod (yN mX9_readsTier) ∈ zGW := zGW_of 1368 (by decide +kernel)
theorem sl_X9_readsTier : Cond.selects (yN mX9_readsTier).cls (yN mX9_readsTier) (yN mX9_readsTier) ∈ zGW := zGW_of 38 (by decide +kernel)
theorem np_X9_readsTier : (yN mX9_readsTier).cls ≠ "java/lang/invoke/MethodHandle" ∧ (yN mX9_readsTier).cls ≠ "java/lang/invoke/VarHandle" ∧ (parseMethodDescriptor (yN mX9_readsTier).desc).map (fun d => d.parameters.length) = some 0 := by decide +kernel
theorem cd_X9_readsFile : Cond.code (yN mX9_readsFile) (yC mX9_readsFile) (yL mX9_readsFile) (yR mX9_readsFile) ∈ zGW := zGW_of 1392 (by decide +kernel)
theorem im_X9_readsFile : Cond.instanceMethod (yN mX9_readsFile) ∈ zGW := zGW_of 1391 (by decide +kernel)
theorem sl_X9_readsFile : Cond.selects (yN mX9_readsFile).cls (yN mX9_readsFile) (yN mX9_readsFile) ∈ zGW := zGW_of 43 (by decide +kernel)
theorem np_X9_readsFile : (yN mX9_readsFile).cls ≠ "java/lang/invoke/MethodHandle" ∧ (yN mX9_readsFile).cls ≠ "java/lang/invoke/VarHandle" ∧ (parseMethodDescriptor (yN mX9_readsFile).desc).map (fun d => d.parameters.length) = some 0 := by decide +kernel
theorem cd_X9_begins0 : Cond.code (yN mX9_begins0) (yC mX9_begins0) (yL mX9_begins0) (yR mX9_begins0) ∈ zGW := zGW_of 1400 (by decide +kernel)
theorem im_X9_begins0 : Cond.instanceMethod (yN mX9_begins0) ∈ zGW := zGW_of 1399 (by decide +kernel)
theorem sl_X9_begins0 : Cond.selects (yN mX9_begins0).cls (yN mX9_begins0) (yN mX9_begins0) ∈ zGW := zGW_of 45 (by decide +kernel)
theorem np_X9_begins0 : (yN mX9_begins0).cls ≠ "java/lang/invoke/MethodHandle" ∧ (yN mX9_begins0).cls ≠ "java/lang/invoke/VarHandle" ∧ (parseMethodDescriptor (yN mX9_begins0).desc).map (fun d => d.parameters.length) = some 1 := by decide +kernel
theorem cd_X9_load : Cond.code (yN mX9_load) (yC mX9_load) (yL mX9_load) (yR mX9_load) ∈ zGW := zGW_of 1321 (by decide +kernel)
theorem im_X9_load : Cond.instanceMethod (yN mX9_load) ∈ zGW := zGW_of 1319 (by decide +kernel)
theorem sl_X9_load : Cond.selects (yN mX9_load).cls (yN mX9_load) (yN mX9_load) ∈ zGW := zGW_of 1320 (by decide +kernel)
theorem np_X9_load : (yN mX9_load).cls ≠ "java/lang/invoke/MethodHandle" ∧ (yN mX9_load).cls ≠ "java/lang/invoke/VarHandle" ∧ (parseMethodDescriptor (yN mX9_load).desc).map (fun d => d.parameters.length) = some 0 := by decide +kernel
theorem cd_X9_errorPosition : Cond.code (yN mX9_errorPosition) (yC mX9_errorPosition) (yL mX9_errorPosition) (yR mX9_errorPosition) ∈ zGW := zGW_of 1427 (by decide +kernel)
theorem im_X9_errorPosition : Cond.instanceMethod (yN mX9_errorPosition) ∈ zGW := zGW_of 1425 (by decide +kernel)
theorem sl_X9_errorPosition : Cond.selects (yN mX9_errorPosition).cls (yN mX9_errorPosition) (yN mX9_errorPosition) ∈ zGW := zGW_of 1426 (by decide +kernel)
theorem np_X9_errorPosition : (yN mX9_errorPosition).cls ≠ "java/lang/invoke/MethodHandle" ∧ (yN mX9_errorPosition).cls ≠ "java/lang/invoke/VarHandle" ∧ (parseMethodDescriptor (yN mX9_errorPosition).desc).map (fun d => d.parameters.length) = some 0 := by decide +kernel
theorem cd_X9_its : Cond.code (yN mX9_its) (yC mX9_its) (yL mX9_its) (yR mX9_its) ∈ zGW := zGW_of 1310 (by decide +kernel)
theorem im_X9_its : Cond.instanceMethod (yN mX9_its) ∈ zGW := zGW_of 1309 (by decide +kernel)
theorem sl_X9_its : Cond.selects (yN mX9_its).cls (yN mX9_its) (yN mX9_its) ∈ zGW := zGW_of 28 (by decide +kernel)
theorem np_X9_its : (yN mX9_its).cls ≠ "java/lang/invoke/MethodHandle" ∧ (yN mX9_its).cls ≠ "java/lang/invoke/VarHandle" ∧ (parseMethodDescriptor (yN mX9_its).desc).map (fun d => d.parameters.length) = some 1 := by decide +kernel
theorem cd_X9_tiers : Cond.code (yN mX9_tiers) (yC mX9_tiers) (yL mX9_tiers) (yR mX9_tiers) ∈ zGW := zGW_of 1373 (by decide +kernel)
theorem im_X9_tiers : Cond.instanceMethod (yN mX9_tiers) ∈ zGW := zGW_of 1372 (by decide +kernel)
theorem sl_X9_tiers : Cond.selects (yN mX9_tiers).cls (yN mX9_tiers) (yN mX9_tiers) ∈ zGW := zGW_of 39 (by decide +kernel)
theorem np_X9_tiers : (yN mX9_tiers).cls ≠ "java/lang/invoke/MethodHandle" ∧ (yN mX9_tiers).cls ≠ "java/lang/invoke/VarHandle" ∧ (parseMethodDescriptor (yN mX9_tiers).desc).map (fun d => d.parameters.length) = some 0 := by decide +kernel
theorem cd_X9_files : Cond.code (yN mX9_files) (yC mX9_files) (yL mX9_files) (yR mX9_files) ∈ zGW := zGW_of 1396 (by decide +kernel)
theorem im_X9_files : Cond.instanceMethod (yN mX9_files) ∈ zGW := zGW_of 1395 (by decide +kernel)
theorem sl_X9_files : Cond.selects (yN mX9_files).cls (yN mX9_files) (yN mX9_files) ∈ zGW := zGW_of 44 (by decide +kernel)
theorem np_X9_files : (yN mX9_files).cls ≠ "java/lang/invoke/MethodHandle" ∧ (yN mX9_files).cls ≠ "java/lang/invoke/VarHandle" ∧ (parseMethodDescriptor (yN mX9_files).desc).map (fun d => d.parameters.length) = some 0 := by decide +kernel
theorem cd_X9_ofTier : Cond.code (yN mX9_ofTier) (yC mX9_ofTier) (yL mX9_ofTier) (yR mX9_ofTier) ∈ zGW := zGW_of 1414 (by decide +kernel)
theorem im_X9_ofTier : Cond.instanceMethod (yN mX9_ofTier) ∈ zGW := zGW_of 1413 (by decide +kernel)
theorem sl_X9_ofTier : Cond.selects (yN mX9_ofTier).cls (yN mX9_ofTier) (yN mX9_ofTier) ∈ zGW := zGW_of 48 (by decide +kernel)
theorem np_X9_ofTier : (yN mX9_ofTier).cls ≠ "java/lang/invoke/MethodHandle" ∧ (yN mX9_ofTier).cls ≠ "java/lang/invoke/VarHandle" ∧ (parseMethodDescriptor (yN mX9_ofTier).desc).map (fun d => d.parameters.length) = some 2 := by decide +kernel
theorem cd_X9_of : Cond.code (yN mX9_of) (yC mX9_of) (yL mX9_of) (yR mX9_of) ∈ zGW := zGW_of 1422 (by decide +kernel)
theorem im_X9_of : Cond.instanceMethod (yN mX9_of) ∈ zGW := zGW_of 1421 (by decide +kernel)
theorem sl_X9_of : Cond.selects (yN mX9_of).cls (yN mX9_of) (yN mX9_of) ∈ zGW := zGW_of 50 (by decide +kernel)
theorem np_X9_of : (yN mX9_of).cls ≠ "java/lang/invoke/MethodHandle" ∧ (yN mX9_of).cls ≠ "java/lang/invoke/VarHandle" ∧ (parseMethodDescriptor (yN mX9_of).desc).map (fun d => d.parameters.length) = some 2 := by decide +kernel
theorem cd_X9_sets : Cond.code (yN mX9_sets) (yC mX9_sets) (yL mX9_sets) (yR mX9_sets) ∈ zGW := zGW_of 1404 (by decide +kernel)
theorem im_X9_sets : Cond.instanceMethod (yN mX9_sets) ∈ zGW := zGW_of 1403 (by decide +kernel)
theorem sl_X9_sets : Cond.selects (yN mX9_sets).cls (yN mX9_sets) (yN mX9_sets) ∈ zGW := zGW_of 46 (by decide +kernel)
theorem np_X9_sets : (yN mX9_sets).cls ≠ "java/lang/invoke/MethodHandle" ∧ (yN mX9_sets).cls ≠ "java/lang/invoke/VarHandle" ∧ (parseMethodDescriptor (yN mX9_sets).desc).map (fun d => d.parameters.length) = some 3 := by decide +kernel
theorem cd_X9_isTier : Cond.code (yN mX9_isTier) (yC mX9_isTier) (yL mX9_isTier) (yR mX9_isTier) ∈ zGW := zGW_of 1451 (by decide +kernel)
theorem im_X9_isTier : Cond.instanceMethod (yN mX9_isTier) ∈ zGW := zGW_of 1450 (by decide +kernel)
theorem sl_X9_isTier : Cond.selects (yN mX9_isTier).cls (yN mX9_isTier) (yN mX9_isTier) ∈ zGW := zGW_of 54 (by decide +kernel)
theorem np_X9_isTier : (yN mX9_isTier).cls ≠ "java/lang/invoke/MethodHandle" ∧ (yN mX9_isTier).cls ≠ "java/lang/invoke/VarHandle" ∧ (parseMethodDescriptor (yN mX9_isTier).desc).map (fun d => d.parameters.length) = some 1 := by decide +kernel
theorem cd_X9_isFile : Cond.code (yN mX9_isFile) (yC mX9_isFile) (yL mX9_isFile) (yR mX9_isFile) ∈ zGW := zGW_of 1478 (by decide +kernel)
theorem im_X9_isFile : Cond.instanceMethod (yN mX9_isFile) ∈ zGW := zGW_of 1477 (by decide +kernel)
theorem sl_X9_isFile : Cond.selects (yN mX9_isFile).cls (yN mX9_isFile) (yN mX9_isFile) ∈ zGW := zGW_of 59 (by decide +kernel)
theorem np_X9_isFile : (yN mX9_isFile).cls ≠ "java/lang/invoke/MethodHandle" ∧ (yN mX9_isFile).cls ≠ "java/lang/invoke/VarHandle" ∧ (parseMethodDescriptor (yN mX9_isFile).desc).map (fun d => d.parameters.length) = some 1 := by decide +kernel
theorem cd_X9_fullOf : Cond.code (yN mX9_fullOf) (yC mX9_fullOf) (yL mX9_fullOf) (yR mX9_fullOf) ∈ zGW := zGW_of 1418 (by decide +kernel)
theorem im_X9_fullOf : Cond.instanceMethod (yN mX9_fullOf) ∈ zGW := zGW_of 1417 (by decide +kernel)
theorem sl_X9_fullOf : Cond.selects (yN mX9_fullOf).cls (yN mX9_fullOf) (yN mX9_fullOf) ∈ zGW := zGW_of 49 (by decide +kernel)
theorem np_X9_fullOf : (yN mX9_fullOf).cls ≠ "java/lang/invoke/MethodHandle" ∧ (yN mX9_fullOf).cls ≠ "java/lang/invoke/VarHandle" ∧ (parseMethodDescriptor (yN mX9_fullOf).desc).map (fun d => d.parameters.length) = some 1 := by decide +kernel
theorem cd_X9_freeOn : Cond.code (yN mX9_freeOn) (yC mX9_freeOn) (yL mX9_freeOn) (yR mX9_freeOn) ∈ zGW := zGW_of 1410 (by decide +kernel)
theorem im_X9_freeOn : Cond.instanceMethod (yN mX9_freeOn) ∈ zGW := zGW_of 1409 (by decide +kernel)
theorem sl_X9_freeOn : Cond.selects (yN mX9_freeOn).cls (yN mX9_freeOn) (yN mX9_freeOn) ∈ zGW := zGW_of 47 (by decide +kernel)
theorem np_X9_freeOn : (yN mX9_freeOn).cls ≠ "java/lang/invoke/MethodHandle" ∧ (yN mX9_freeOn).cls ≠ "java/lang/invoke/VarHandle" ∧ (parseMethodDescriptor (yN mX9_freeOn).desc).map (fun d => d.parameters.length) = some 1 := by decide +kernel
theorem cd_X9_isPinned : Cond.code (yN mX9_isPinned) (yC mX9_isPinned) (yL mX9_isPinned) (yR mX9_isPinned) ∈ zGW := zGW_of 1439 (by decide +kernel)
theorem im_X9_isPinned : Cond.instanceMethod (yN mX9_isPinned) ∈ zGW := zGW_of 1438 (by decide +kernel)
theorem sl_X9_isPinned : Cond.selects (yN mX9_isPinned).cls (yN mX9_isPinned) (yN mX9_isPinned) ∈ zGW := zGW_of 52 (by decide +kernel)
theorem np_X9_isPinned : (yN mX9_isPinned).cls ≠ "java/lang/invoke/MethodHandle" ∧ (yN mX9_isPinned).cls ≠ "java/lang/invoke/VarHandle" ∧ (parseMethodDescriptor (yN mX9_isPinned).desc).map (fun d => d.parameters.length) = some 1 := by decide +kernel
theorem cd_X9_knownOf : Cond.code (yN mX9_knownOf) (yC mX9_knownOf) (yL mX9_knownOf) (yR mX9_knownOf) ∈ zGW := zGW_of 1467 (by decide +kernel)
theorem im_X9_knownOf : Cond.instanceMethod (yN mX9_knownOf) ∈ zGW := zGW_of 1466 (by decide +kernel)
theorem sl_X9_knownOf : Cond.selects (yN mX9_knownOf).cls (yN mX9_knownOf) (yN mX9_knownOf) ∈ zGW := zGW_of 58 (by decide +kernel)
theorem np_X9_knownOf : (yN mX9_knownOf).cls ≠ "java/lang/invoke/MethodHandle" ∧ (yN mX9_knownOf).cls ≠ "java/lang/invoke/VarHandle" ∧ (parseMethodDescriptor (yN mX9_knownOf).desc).map (fun d => d.parameters.length) = some 1 := by decide +kernel
theorem cd_X9_forecastOf : Cond.code (yN mX9_forecastOf) (yC mX9_forecastOf) (yL mX9_forecastOf) (yR mX9_forecastOf) ∈ zGW := zGW_of 1463 (by decide +kernel)
theorem im_X9_forecastOf : Cond.instanceMethod (yN mX9_forecastOf) ∈ zGW := zGW_of 1462 (by decide +kernel)
theorem sl_X9_forecastOf : Cond.selects (yN mX9_forecastOf).cls (yN mX9_forecastOf) (yN mX9_forecastOf) ∈ zGW := zGW_of 57 (by decide +kernel)
theorem np_X9_forecastOf : (yN mX9_forecastOf).cls ≠ "java/lang/invoke/MethodHandle" ∧ (yN mX9_forecastOf).cls ≠ "java/lang/invoke/VarHandle" ∧ (parseMethodDescriptor (yN mX9_forecastOf).desc).map (fun d => d.parameters.length) = some 2 := by decide +kernel
theorem cd_X9_learns : Cond.code (yN mX9_learns) (yC mX9_learns) (yL mX9_learns) (yR mX9_learns) ∈ zGW := zGW_of 1630 (by decide +kernel)
theorem im_X9_learns : Cond.instanceMethod (yN mX9_learns) ∈ zGW := zGW_of 1629 (by decide +kernel)
theorem sl_X9_learns : Cond.selects (yN mX9_learns).cls (yN mX9_learns) (yN mX9_learns) ∈ zGW := zGW_of 76 (by decide +kernel)
theorem np_X9_learns : (yN mX9_learns).cls ≠ "java/lang/invoke/MethodHandle" ∧ (yN mX9_learns).cls ≠ "java/lang/invoke/VarHandle" ∧ (parseMethodDescriptor (yN mX9_learns).desc).map (fun d => d.parameters.length) = some 3 := by decide +kernel
theorem cd_X9_keepsUses : Cond.code (yN mX9_keepsUses) (yC mX9_keepsUses) (yL mX9_keepsUses) (yR mX9_keepsUses) ∈ zGW := zGW_of 1634 (by decide +kernel)
theorem im_X9_keepsUses : Cond.instanceMethod (yN mX9_keepsUses) ∈ zGW := zGW_of 1633 (by decide +kernel)
theorem sl_X9_keepsUses : Cond.selects (yN mX9_keepsUses).cls (yN mX9_keepsUses) (yN mX9_keepsUses) ∈ zGW := zGW_of 77 (by decide +kernel)
theorem np_X9_keepsUses : (yN mX9_keepsUses).cls ≠ "java/lang/invoke/MethodHandle" ∧ (yN mX9_keepsUses).cls ≠ "java/lang/invoke/VarHandle" ∧ (parseMethodDescriptor (yN mX9_keepsUses).desc).map (fun d => d.parameters.length) = some 1 := by decide +kernel
theorem cd_X9_relearns : Cond.code (yN mX9_relearns) (yC mX9_relearns) (yL mX9_relearns) (yR mX9_relearns) ∈ zGW := zGW_of 1663 (by decide +kernel)
theorem im_X9_relearns : Cond.instanceMethod (yN mX9_relearns) ∈ zGW := zGW_of 1662 (by decide +kernel)
theorem sl_X9_relearns : Cond.selects (yN mX9_relearns).cls (yN mX9_relearns) (yN mX9_relearns) ∈ zGW := zGW_of 79 (by decide +kernel)
theorem np_X9_relearns : (yN mX9_relearns).cls ≠ "java/lang/invoke/MethodHandle" ∧ (yN mX9_relearns).cls ≠ "java/lang/invoke/VarHandle" ∧ (parseMethodDescriptor (yN mX9_relearns).desc).map (fun d => d.parameters.length) = some 1 := by decide +kernel
theorem cd_X9_seasonsOf : Cond.code (yN mX9_seasonsOf) (yC mX9_seasonsOf) (yL mX9_seasonsOf) (yR mX9_seasonsOf) ∈ zGW := zGW_of 1482 (by decide +kernel)
theorem im_X9_seasonsOf : Cond.instanceMethod (yN mX9_seasonsOf) ∈ zGW := zGW_of 1481 (by decide +kernel)
theorem sl_X9_seasonsOf : Cond.selects (yN mX9_seasonsOf).cls (yN mX9_seasonsOf) (yN mX9_seasonsOf) ∈ zGW := zGW_of 60 (by decide +kernel)
theorem np_X9_seasonsOf : (yN mX9_seasonsOf).cls ≠ "java/lang/invoke/MethodHandle" ∧ (yN mX9_seasonsOf).cls ≠ "java/lang/invoke/VarHandle" ∧ (parseMethodDescriptor (yN mX9_seasonsOf).desc).map (fun d => d.parameters.length) = some 2 := by decide +kernel
theorem cd_X9_strange : Cond.code (yN mX9_strange) (yC mX9_strange) (yL mX9_strange) (yR mX9_strange) ∈ zGW := zGW_of 1514 (by decide +kernel)
theorem im_X9_strange : Cond.instanceMethod (yN mX9_strange) ∈ zGW := zGW_of 1513 (by decide +kernel)
theorem sl_X9_strange : Cond.selects (yN mX9_strange).cls (yN mX9_strange) (yN mX9_strange) ∈ zGW := zGW_of 62 (by decide +kernel)
theorem np_X9_strange : (yN mX9_strange).cls ≠ "java/lang/invoke/MethodHandle" ∧ (yN mX9_strange).cls ≠ "java/lang/invoke/VarHandle" ∧ (parseMethodDescriptor (yN mX9_strange).desc).map (fun d => d.parameters.length) = some 2 := by decide +kernel
theorem cd_X9_ownCycle : Cond.code (yN mX9_ownCycle) (yC mX9_ownCycle) (yL mX9_ownCycle) (yR mX9_ownCycle) ∈ zGW := zGW_of 1510 (by decide +kernel)
theorem im_X9_ownCycle : Cond.instanceMethod (yN mX9_ownCycle) ∈ zGW := zGW_of 1509 (by decide +kernel)
theorem sl_X9_ownCycle : Cond.selects (yN mX9_ownCycle).cls (yN mX9_ownCycle) (yN mX9_ownCycle) ∈ zGW := zGW_of 61 (by decide +kernel)
theorem np_X9_ownCycle : (yN mX9_ownCycle).cls ≠ "java/lang/invoke/MethodHandle" ∧ (yN mX9_ownCycle).cls ≠ "java/lang/invoke/VarHandle" ∧ (parseMethodDescriptor (yN mX9_ownCycle).desc).map (fun d => d.parameters.length) = some 1 := by decide +kernel
theorem cd_X9_pinned : Cond.code (yN mX9_pinned) (yC mX9_pinned) (yL mX9_pinned) (yR mX9_pinned) ∈ zGW := zGW_of 1435 (by decide +kernel)
theorem im_X9_pinned : Cond.instanceMethod (yN mX9_pinned) ∈ zGW := zGW_of 1434 (by decide +kernel)
theorem sl_X9_pinned : Cond.selects (yN mX9_pinned).cls (yN mX9_pinned) (yN mX9_pinned) ∈ zGW := zGW_of 51 (by decide +kernel)
theorem np_X9_pinned : (yN mX9_pinned).cls ≠ "java/lang/invoke/MethodHandle" ∧ (yN mX9_pinned).cls ≠ "java/lang/invoke/VarHandle" ∧ (parseMethodDescriptor (yN mX9_pinned).desc).map (fun d => d.parameters.length) = some 0 := by decide +kernel
theorem cd_X9_sizes : Cond.code (yN mX9_sizes) (yC mX9_sizes) (yL mX9_sizes) (yR mX9_sizes) ∈ zGW := zGW_of 1443 (by decide +kernel)
theorem im_X9_sizes : Cond.instanceMethod (yN mX9_sizes) ∈ zGW := zGW_of 1442 (by decide +kernel)
theorem sl_X9_sizes : Cond.selects (yN mX9_sizes).cls (yN mX9_sizes) (yN mX9_sizes) ∈ zGW := zGW_of 53 (by decide +kernel)
theorem np_X9_sizes : (yN mX9_sizes).cls ≠ "java/lang/invoke/MethodHandle" ∧ (yN mX9_sizes).cls ≠ "java/lang/invoke/VarHandle" ∧ (parseMethodDescriptor (yN mX9_sizes).desc).map (fun d => d.parameters.length) = some 0 := by decide +kernel
theorem cd_X9_count : Cond.code (yN mX9_count) (yC mX9_count) (yL mX9_count) (yR mX9_count) ∈ zGW := zGW_of 1431 (by decide +kernel)
theorem im_X9_count : Cond.instanceMethod (yN mX9_count) ∈ zGW := zGW_of 1429 (by decide +kernel)
theorem sl_X9_count : Cond.selects (yN mX9_count).cls (yN mX9_count) (yN mX9_count) ∈ zGW := zGW_of 1430 (by decide +kernel)
theorem np_X9_count : (yN mX9_count).cls ≠ "java/lang/invoke/MethodHandle" ∧ (yN mX9_count).cls ≠ "java/lang/invoke/VarHandle" ∧ (parseMethodDescriptor (yN mX9_count).desc).map (fun d => d.parameters.length) = some 1 := by decide +kernel
theorem cd_X9_filesOn : Cond.code (yN mX9_filesOn) (yC mX9_filesOn) (yL mX9_filesOn) (yR mX9_filesOn) ∈ zGW := zGW_of 1455 (by decide +kernel)
theorem im_X9_filesOn : Cond.instanceMethod (yN mX9_filesOn) ∈ zGW := zGW_of 1454 (by decide +kernel)
theorem sl_X9_filesOn : Cond.selects (yN mX9_filesOn).cls (yN mX9_filesOn) (yN mX9_filesOn) ∈ zGW := zGW_of 55 (by decide +kernel)
theorem np_X9_filesOn : (yN mX9_filesOn).cls ≠ "java/lang/invoke/MethodHandle" ∧ (yN mX9_filesOn).cls ≠ "java/lang/invoke/VarHandle" ∧ (parseMethodDescriptor (yN mX9_filesOn).desc).map (fun d => d.parameters.length) = some 1 := by decide +kernel
theorem cd_X9_busiest : Cond.code (yN mX9_busiest) (yC mX9_busiest) (yL mX9_busiest) (yR mX9_busiest) ∈ zGW := zGW_of 1459 (by decide +kernel)
theorem im_X9_busiest : Cond.instanceMethod (yN mX9_busiest) ∈ zGW := zGW_of 1458 (by decide +kernel)
theorem sl_X9_busiest : Cond.selects (yN mX9_busiest).cls (yN mX9_busiest) (yN mX9_busiest) ∈ zGW := zGW_of 56 (by decide +kernel)
theorem np_X9_busiest : (yN mX9_busiest).cls ≠ "java/lang/invoke/MethodHandle" ∧ (yN mX9_busiest).cls ≠ "java/lang/invoke/VarHandle" ∧ (parseMethodDescriptor (yN mX9_busiest).desc).map (fun d => d.parameters.length) = some 1 := by decide +kernel
theorem cd_X9_tier : Cond.code (yN mX9_tier) (yC mX9_tier) (yL mX9_tier) (yR mX9_tier) ∈ zGW := zGW_of 1447 (by decide +kernel)
theorem im_X9_tier : Cond.instanceMethod (yN mX9_tier) ∈ zGW := zGW_of 1445 (by decide +kernel)
theorem sl_X9_tier : Cond.selects (yN mX9_tier).cls (yN mX9_tier) (yN mX9_tier) ∈ zGW := zGW_of 1446 (by decide +kernel)
theorem np_X9_tier : (yN mX9_tier).cls ≠ "java/lang/invoke/MethodHandle" ∧ (yN mX9_tier).cls ≠ "java/lang/invoke/VarHandle" ∧ (parseMethodDescriptor (yN mX9_tier).desc).map (fun d => d.parameters.length) = some 2 := by decide +kernel
theorem cd_X9_file : Cond.code (yN mX9_file) (yC mX9_file) (yL mX9_file) (yR mX9_file) ∈ zGW := zGW_of 1474 (by decide +kernel)
theorem im_X9_file : Cond.instanceMethod (yN mX9_file) ∈ zGW := zGW_of 1472 (by decide +kernel)
theorem sl_X9_file : Cond.selects (yN mX9_file).cls (yN mX9_file) (yN mX9_file) ∈ zGW := zGW_of 1473 (by decide +kernel)
theorem np_X9_file : (yN mX9_file).cls ≠ "java/lang/invoke/MethodHandle" ∧ (yN mX9_file).cls ≠ "java/lang/invoke/VarHandle" ∧ (parseMethodDescriptor (yN mX9_file).desc).map (fun d => d.parameters.length) = some 2 := by decide +kernel
theorem cd_X9_season : Cond.code (yN mX9_season) (yC mX9_season) (yL mX9_season) (yR mX9_season) ∈ zGW := zGW_of 1486 (by decide +kernel)
theorem im_X9_season : Cond.instanceMethod (yN mX9_season) ∈ zGW := zGW_of 1484 (by decide +kernel)
theorem sl_X9_season : Cond.selects (yN mX9_season).cls (yN mX9_season) (yN mX9_season) ∈ zGW := zGW_of 1485 (by decide +kernel)
theorem np_X9_season : (yN mX9_season).cls ≠ "java/lang/invoke/MethodHandle" ∧ (yN mX9_season).cls ≠ "java/lang/invoke/VarHandle" ∧ (parseMethodDescriptor (yN mX9_season).desc).map (fun d => d.parameters.length) = some 2 := by decide +kernel
theorem cd_X9_kept : Cond.code (yN mX9_kept) (yC mX9_kept) (yL mX9_kept) (yR mX9_kept) ∈ zGW := zGW_of 1490 (by decide +kernel)
theorem im_X9_kept : Cond.instanceMethod (yN mX9_kept) ∈ zGW := zGW_of 1488 (by decide +kernel)
theorem sl_X9_kept : Cond.selects (yN mX9_kept).cls (yN mX9_kept) (yN mX9_kept) ∈ zGW := zGW_of 1489 (by decide +kernel)
theorem np_X9_kept : (yN mX9_kept).cls ≠ "java/lang/invoke/MethodHandle" ∧ (yN mX9_kept).cls ≠ "java/lang/invoke/VarHandle" ∧ (parseMethodDescriptor (yN mX9_kept).desc).map (fun d => d.parameters.length) = some 2 := by decide +kernel
theorem cd_X9_forecast : Cond.code (yN mX9_forecast) (yC mX9_forecast) (yL mX9_forecast) (yR mX9_forecast) ∈ zGW := zGW_of 1494 (by decide +kernel)
theorem im_X9_forecast : Cond.instanceMethod (yN mX9_forecast) ∈ zGW := zGW_of 1492 (by decide +kernel)
theorem sl_X9_forecast : Cond.selects (yN mX9_forecast).cls (yN mX9_forecast) (yN mX9_forecast) ∈ zGW := zGW_of 1493 (by decide +kernel)
theorem np_X9_forecast : (yN mX9_forecast).cls ≠ "java/lang/invoke/MethodHandle" ∧ (yN mX9_forecast).cls ≠ "java/lang/invoke/VarHandle" ∧ (parseMethodDescriptor (yN mX9_forecast).desc).map (fun d => d.parameters.length) = some 2 := by decide +kernel
theorem cd_X9_off : Cond.code (yN mX9_off) (yC mX9_off) (yL mX9_off) (yR mX9_off) ∈ zGW := zGW_of 1498 (by decide +kernel)
theorem im_X9_off : Cond.instanceMethod (yN mX9_off) ∈ zGW := zGW_of 1496 (by decide +kernel)
theorem sl_X9_off : Cond.selects (yN mX9_off).cls (yN mX9_off) (yN mX9_off) ∈ zGW := zGW_of 1497 (by decide +kernel)
theorem np_X9_off : (yN mX9_off).cls ≠ "java/lang/invoke/MethodHandle" ∧ (yN mX9_off).cls ≠ "java/lang/invoke/VarHandle" ∧ (parseMethodDescriptor (yN mX9_off).desc).map (fun d => d.parameters.length) = some 1 := by decide +kernel
theorem cd_X9_meanOff : Cond.code (yN mX9_meanOff) (yC mX9_meanOff) (yL mX9_meanOff) (yR mX9_meanOff) ∈ zGW := zGW_of 1502 (by decide +kernel)
theorem im_X9_meanOff : Cond.instanceMethod (yN mX9_meanOff) ∈ zGW := zGW_of 1500 (by decide +kernel)
theorem sl_X9_meanOff : Cond.selects (yN mX9_meanOff).cls (yN mX9_meanOff) (yN mX9_meanOff) ∈ zGW := zGW_of 1501 (by decide +kernel)
theorem np_X9_meanOff : (yN mX9_meanOff).cls ≠ "java/lang/invoke/MethodHandle" ∧ (yN mX9_meanOff).cls ≠ "java/lang/invoke/VarHandle" ∧ (parseMethodDescriptor (yN mX9_meanOff).desc).map (fun d => d.parameters.length) = some 0 := by decide +kernel
theorem cd_X9_cycleOf : Cond.code (yN mX9_cycleOf) (yC mX9_cycleOf) (yL mX9_cycleOf) (yR mX9_cycleOf) ∈ zGW := zGW_of 1506 (by decide +kernel)
theorem im_X9_cycleOf : Cond.instanceMethod (yN mX9_cycleOf) ∈ zGW := zGW_of 1504 (by decide +kernel)
theorem sl_X9_cycleOf : Cond.selects (yN mX9_cycleOf).cls (yN mX9_cycleOf) (yN mX9_cycleOf) ∈ zGW := zGW_of 1505 (by decide +kernel)
theorem np_X9_cycleOf : (yN mX9_cycleOf).cls ≠ "java/lang/invoke/MethodHandle" ∧ (yN mX9_cycleOf).cls ≠ "java/lang/invoke/VarHandle" ∧ (parseMethodDescriptor (yN mX9_cycleOf).desc).map (fun d => d.parameters.length) = some 1 := by decide +kernel
theorem cd_X9_commonCycle : Cond.code (yN mX9_commonCycle) (yC mX9_commonCycle) (yL mX9_commonCycle) (yR mX9_commonCycle) ∈ zGW := zGW_of 1518 (by decide +kernel)
theorem im_X9_commonCycle : Cond.instanceMethod (yN mX9_commonCycle) ∈ zGW := zGW_of 1516 (by decide +kernel)
theorem sl_X9_commonCycle : Cond.selects (yN mX9_commonCycle).cls (yN mX9_commonCycle) (yN mX9_commonCycle) ∈ zGW := zGW_of 1517 (by decide +kernel)
theorem np_X9_commonCycle : (yN mX9_commonCycle).cls ≠ "java/lang/invoke/MethodHandle" ∧ (yN mX9_commonCycle).cls ≠ "java/lang/invoke/VarHandle" ∧ (parseMethodDescriptor (yN mX9_commonCycle).desc).map (fun d => d.parameters.length) = some 0 := by decide +kernel
theorem cd_X9_sumOf : Cond.code (yN mX9_sumOf) (yC mX9_sumOf) (yL mX9_sumOf) (yR mX9_sumOf) ∈ zGW := zGW_of 1526 (by decide +kernel)
theorem im_X9_sumOf : Cond.instanceMethod (yN mX9_sumOf) ∈ zGW := zGW_of 1525 (by decide +kernel)
theorem sl_X9_sumOf : Cond.selects (yN mX9_sumOf).cls (yN mX9_sumOf) (yN mX9_sumOf) ∈ zGW := zGW_of 63 (by decide +kernel)
theorem np_X9_sumOf : (yN mX9_sumOf).cls ≠ "java/lang/invoke/MethodHandle" ∧ (yN mX9_sumOf).cls ≠ "java/lang/invoke/VarHandle" ∧ (parseMethodDescriptor (yN mX9_sumOf).desc).map (fun d => d.parameters.length) = some 2 := by decide +kernel
theorem cd_X9_account : Cond.code (yN mX9_account) (yC mX9_account) (yL mX9_account) (yR mX9_account) ∈ zGW := zGW_of 1522 (by decide +kernel)
theorem im_X9_account : Cond.instanceMethod (yN mX9_account) ∈ zGW := zGW_of 1520 (by decide +kernel)
theorem sl_X9_account : Cond.selects (yN mX9_account).cls (yN mX9_account) (yN mX9_account) ∈ zGW := zGW_of 1521 (by decide +kernel)
theorem np_X9_account : (yN mX9_account).cls ≠ "java/lang/invoke/MethodHandle" ∧ (yN mX9_account).cls ≠ "java/lang/invoke/VarHandle" ∧ (parseMethodDescriptor (yN mX9_account).desc).map (fun d => d.parameters.length) = some 2 := by decide +kernel
theorem cd_X9_movingShare : Cond.code (yN mX9_movingShare) (yC mX9_movingShare) (yL mX9_movingShare) (yR mX9_movingShare) ∈ zGW := zGW_of 1530 (by decide +kernel)
theorem im_X9_movingShare : Cond.instanceMethod (yN mX9_movingShare) ∈ zGW := zGW_of 1528 (by decide +kernel)
theorem sl_X9_movingShare : Cond.selects (yN mX9_movingShare).cls (yN mX9_movingShare) (yN mX9_movingShare) ∈ zGW := zGW_of 1529 (by decide +kernel)
theorem np_X9_movingShare : (yN mX9_movingShare).cls ≠ "java/lang/invoke/MethodHandle" ∧ (yN mX9_movingShare).cls ≠ "java/lang/invoke/VarHandle" ∧ (parseMethodDescriptor (yN mX9_movingShare).desc).map (fun d => d.parameters.length) = some 0 := by decide +kernel
theorem cd_X9_costOn : Cond.code (yN mX9_costOn) (yC mX9_costOn) (yL mX9_costOn) (yR mX9_costOn) ∈ zGW := zGW_of 1541 (by decide +kernel)
theorem im_X9_costOn : Cond.instanceMethod (yN mX9_costOn) ∈ zGW := zGW_of 1540 (by decide +kernel)
theorem sl_X9_costOn : Cond.selects (yN mX9_costOn).cls (yN mX9_costOn) (yN mX9_costOn) ∈ zGW := zGW_of 64 (by decide +kernel)
theorem np_X9_costOn : (yN mX9_costOn).cls ≠ "java/lang/invoke/MethodHandle" ∧ (yN mX9_costOn).cls ≠ "java/lang/invoke/VarHandle" ∧ (parseMethodDescriptor (yN mX9_costOn).desc).map (fun d => d.parameters.length) = some 3 := by decide +kernel
theorem cd_X9_savesBy : Cond.code (yN mX9_savesBy) (yC mX9_savesBy) (yL mX9_savesBy) (yR mX9_savesBy) ∈ zGW := zGW_of 1554 (by decide +kernel)
theorem im_X9_savesBy : Cond.instanceMethod (yN mX9_savesBy) ∈ zGW := zGW_of 1553 (by decide +kernel)
theorem sl_X9_savesBy : Cond.selects (yN mX9_savesBy).cls (yN mX9_savesBy) (yN mX9_savesBy) ∈ zGW := zGW_of 66 (by decide +kernel)
theorem np_X9_savesBy : (yN mX9_savesBy).cls ≠ "java/lang/invoke/MethodHandle" ∧ (yN mX9_savesBy).cls ≠ "java/lang/invoke/VarHandle" ∧ (parseMethodDescriptor (yN mX9_savesBy).desc).map (fun d => d.parameters.length) = some 3 := by decide +kernel
theorem cd_X9_laysCosts : Cond.code (yN mX9_laysCosts) (yC mX9_laysCosts) (yL mX9_laysCosts) (yR mX9_laysCosts) ∈ zGW := zGW_of 1550 (by decide +kernel)
theorem im_X9_laysCosts : Cond.instanceMethod (yN mX9_laysCosts) ∈ zGW := zGW_of 1549 (by decide +kernel)
theorem sl_X9_laysCosts : Cond.selects (yN mX9_laysCosts).cls (yN mX9_laysCosts) (yN mX9_laysCosts) ∈ zGW := zGW_of 65 (by decide +kernel)
theorem np_X9_laysCosts : (yN mX9_laysCosts).cls ≠ "java/lang/invoke/MethodHandle" ∧ (yN mX9_laysCosts).cls ≠ "java/lang/invoke/VarHandle" ∧ (parseMethodDescriptor (yN mX9_laysCosts).desc).map (fun d => d.parameters.length) = some 1 := by decide +kernel
theorem cd_X9_canGo : Cond.code (yN mX9_canGo) (yC mX9_canGo) (yL mX9_canGo) (yR mX9_canGo) ∈ zGW := zGW_of 1574 (by decide +kernel)
theorem im_X9_canGo : Cond.instanceMethod (yN mX9_canGo) ∈ zGW := zGW_of 1573 (by decide +kernel)
theorem sl_X9_canGo : Cond.selects (yN mX9_canGo).cls (yN mX9_canGo) (yN mX9_canGo) ∈ zGW := zGW_of 70 (by decide +kernel)
theorem np_X9_canGo : (yN mX9_canGo).cls ≠ "java/lang/invoke/MethodHandle" ∧ (yN mX9_canGo).cls ≠ "java/lang/invoke/VarHandle" ∧ (parseMethodDescriptor (yN mX9_canGo).desc).map (fun d => d.parameters.length) = some 1 := by decide +kernel
theorem cd_X9_found : Cond.code (yN mX9_found) (yC mX9_found) (yL mX9_found) (yR mX9_found) ∈ zGW := zGW_of 1578 (by decide +kernel)
theorem im_X9_found : Cond.instanceMethod (yN mX9_found) ∈ zGW := zGW_of 1577 (by decide +kernel)
theorem sl_X9_found : Cond.selects (yN mX9_found).cls (yN mX9_found) (yN mX9_found) ∈ zGW := zGW_of 71 (by decide +kernel)
theorem np_X9_found : (yN mX9_found).cls ≠ "java/lang/invoke/MethodHandle" ∧ (yN mX9_found).cls ≠ "java/lang/invoke/VarHandle" ∧ (parseMethodDescriptor (yN mX9_found).desc).map (fun d => d.parameters.length) = some 4 := by decide +kernel
theorem cd_X9_findsMove : Cond.code (yN mX9_findsMove) (yC mX9_findsMove) (yL mX9_findsMove) (yR mX9_findsMove) ∈ zGW := zGW_of 1570 (by decide +kernel)
theorem im_X9_findsMove : Cond.instanceMethod (yN mX9_findsMove) ∈ zGW := zGW_of 1569 (by decide +kernel)
theorem sl_X9_findsMove : Cond.selects (yN mX9_findsMove).cls (yN mX9_findsMove) (yN mX9_findsMove) ∈ zGW := zGW_of 69 (by decide +kernel)
theorem np_X9_findsMove : (yN mX9_findsMove).cls ≠ "java/lang/invoke/MethodHandle" ∧ (yN mX9_findsMove).cls ≠ "java/lang/invoke/VarHandle" ∧ (parseMethodDescriptor (yN mX9_findsMove).desc).map (fun d => d.parameters.length) = some 0 := by decide +kernel
theorem cd_X9_findsExchange : Cond.code (yN mX9_findsExchange) (yC mX9_findsExchange) (yL mX9_findsExchange) (yR mX9_findsExchange) ∈ zGW := zGW_of 1582 (by decide +kernel)
theorem im_X9_findsExchange : Cond.instanceMethod (yN mX9_findsExchange) ∈ zGW := zGW_of 1581 (by decide +kernel)
theorem sl_X9_findsExchange : Cond.selects (yN mX9_findsExchange).cls (yN mX9_findsExchange) (yN mX9_findsExchange) ∈ zGW := zGW_of 72 (by decide +kernel)
theorem np_X9_findsExchange : (yN mX9_findsExchange).cls ≠ "java/lang/invoke/MethodHandle" ∧ (yN mX9_findsExchange).cls ≠ "java/lang/invoke/VarHandle" ∧ (parseMethodDescriptor (yN mX9_findsExchange).desc).map (fun d => d.parameters.length) = some 0 := by decide +kernel
theorem cd_X9_goesOnPaper : Cond.code (yN mX9_goesOnPaper) (yC mX9_goesOnPaper) (yL mX9_goesOnPaper) (yR mX9_goesOnPaper) ∈ zGW := zGW_of 1586 (by decide +kernel)
theorem im_X9_goesOnPaper : Cond.instanceMethod (yN mX9_goesOnPaper) ∈ zGW := zGW_of 1585 (by decide +kernel)
theorem sl_X9_goesOnPaper : Cond.selects (yN mX9_goesOnPaper).cls (yN mX9_goesOnPaper) (yN mX9_goesOnPaper) ∈ zGW := zGW_of 73 (by decide +kernel)
theorem np_X9_goesOnPaper : (yN mX9_goesOnPaper).cls ≠ "java/lang/invoke/MethodHandle" ∧ (yN mX9_goesOnPaper).cls ≠ "java/lang/invoke/VarHandle" ∧ (parseMethodDescriptor (yN mX9_goesOnPaper).desc).map (fun d => d.parameters.length) = some 2 := by decide +kernel
theorem cd_X9_plans : Cond.code (yN mX9_plans) (yC mX9_plans) (yL mX9_plans) (yR mX9_plans) ∈ zGW := zGW_of 1562 (by decide +kernel)
theorem im_X9_plans : Cond.instanceMethod (yN mX9_plans) ∈ zGW := zGW_of 1561 (by decide +kernel)
theorem sl_X9_plans : Cond.selects (yN mX9_plans).cls (yN mX9_plans) (yN mX9_plans) ∈ zGW := zGW_of 67 (by decide +kernel)
theorem np_X9_plans : (yN mX9_plans).cls ≠ "java/lang/invoke/MethodHandle" ∧ (yN mX9_plans).cls ≠ "java/lang/invoke/VarHandle" ∧ (parseMethodDescriptor (yN mX9_plans).desc).map (fun d => d.parameters.length) = some 3 := by decide +kernel
theorem cd_X9_findsStep : Cond.code (yN mX9_findsStep) (yC mX9_findsStep) (yL mX9_findsStep) (yR mX9_findsStep) ∈ zGW := zGW_of 1566 (by decide +kernel)
theorem im_X9_findsStep : Cond.instanceMethod (yN mX9_findsStep) ∈ zGW := zGW_of 1565 (by decide +kernel)
theorem sl_X9_findsStep : Cond.selects (yN mX9_findsStep).cls (yN mX9_findsStep) (yN mX9_findsStep) ∈ zGW := zGW_of 68 (by decide +kernel)
theorem np_X9_findsStep : (yN mX9_findsStep).cls ≠ "java/lang/invoke/MethodHandle" ∧ (yN mX9_findsStep).cls ≠ "java/lang/invoke/VarHandle" ∧ (parseMethodDescriptor (yN mX9_findsStep).desc).map (fun d => d.parameters.length) = some 0 := by decide +kernel
theorem cd_X9_isSpan : Cond.code (yN mX9_isSpan) (yC mX9_isSpan) (yL mX9_isSpan) (yR mX9_isSpan) ∈ zGW := zGW_of 1537 (by decide +kernel)
theorem st_X9_isSpan : Cond.static (yN mX9_isSpan) ∈ zGW := zGW_of 1536 (by decide +kernel)
theorem np_X9_isSpan : (yN mX9_isSpan).cls ≠ "java/lang/invoke/MethodHandle" ∧ (yN mX9_isSpan).cls ≠ "java/lang/invoke/VarHandle" ∧ (parseMethodDescriptor (yN mX9_isSpan).desc).map (fun d => d.parameters.length) = some 1 := by decide +kernel
theorem cd_X9_cost : Cond.code (yN mX9_cost) (yC mX9_cost) (yL mX9_cost) (yR mX9_cost) ∈ zGW := zGW_of 1534 (by decide +kernel)
theorem im_X9_cost : Cond.instanceMethod (yN mX9_cost) ∈ zGW := zGW_of 1532 (by decide +kernel)
theorem sl_X9_cost : Cond.selects (yN mX9_cost).cls (yN mX9_cost) (yN mX9_cost) ∈ zGW := zGW_of 1533 (by decide +kernel)
theorem np_X9_cost : (yN mX9_cost).cls ≠ "java/lang/invoke/MethodHandle" ∧ (yN mX9_cost).cls ≠ "java/lang/invoke/VarHandle" ∧ (parseMethodDescriptor (yN mX9_cost).desc).map (fun d => d.parameters.length) = some 3 := by decide +kernel
theorem cd_X9_wish : Cond.code (yN mX9_wish) (yC mX9_wish) (yL mX9_wish) (yR mX9_wish) ∈ zGW := zGW_of 1546 (by decide +kernel)
theorem im_X9_wish : Cond.instanceMethod (yN mX9_wish) ∈ zGW := zGW_of 1544 (by decide +kernel)
theorem sl_X9_wish : Cond.selects (yN mX9_wish).cls (yN mX9_wish) (yN mX9_wish) ∈ zGW := zGW_of 1545 (by decide +kernel)
theorem np_X9_wish : (yN mX9_wish).cls ≠ "java/lang/invoke/MethodHandle" ∧ (yN mX9_wish).cls ≠ "java/lang/invoke/VarHandle" ∧ (parseMethodDescriptor (yN mX9_wish).desc).map (fun d => d.parameters.length) = some 2 := by decide +kernel
theorem cd_X9_steps : Cond.code (yN mX9_steps) (yC mX9_steps) (yL mX9_steps) (yR mX9_steps) ∈ zGW := zGW_of 1558 (by decide +kernel)
theorem im_X9_steps : Cond.instanceMethod (yN mX9_steps) ∈ zGW := zGW_of 1556 (by decide +kernel)
theorem sl_X9_steps : Cond.selects (yN mX9_steps).cls (yN mX9_steps) (yN mX9_steps) ∈ zGW := zGW_of 1557 (by decide +kernel)
theorem np_X9_steps : (yN mX9_steps).cls ≠ "java/lang/invoke/MethodHandle" ∧ (yN mX9_steps).cls ≠ "java/lang/invoke/VarHandle" ∧ (parseMethodDescriptor (yN mX9_steps).desc).map (fun d => d.parameters.length) = some 1 := by decide +kernel
theorem cd_X9_step : Cond.code (yN mX9_step) (yC mX9_step) (yL mX9_step) (yR mX9_step) ∈ zGW := zGW_of 1590 (by decide +kernel)
theorem im_X9_step : Cond.instanceMethod (yN mX9_step) ∈ zGW := zGW_of 1588 (by decide +kernel)
theorem sl_X9_step : Cond.selects (yN mX9_step).cls (yN mX9_step) (yN mX9_step) ∈ zGW := zGW_of 1589 (by decide +kernel)
theorem np_X9_step : (yN mX9_step).cls ≠ "java/lang/invoke/MethodHandle" ∧ (yN mX9_step).cls ≠ "java/lang/invoke/VarHandle" ∧ (parseMethodDescriptor (yN mX9_step).desc).map (fun d => d.parameters.length) = some 3 := by decide +kernel
theorem cd_X9_saving : Cond.code (yN mX9_saving) (yC mX9_saving) (yL mX9_saving) (yR mX9_saving) ∈ zGW := zGW_of 1594 (by decide +kernel)
theorem im_X9_saving : Cond.instanceMethod (yN mX9_saving) ∈ zGW := zGW_of 1592 (by decide +kernel)
theorem sl_X9_saving : Cond.selects (yN mX9_saving).cls (yN mX9_saving) (yN mX9_saving) ∈ zGW := zGW_of 1593 (by decide +kernel)
theorem np_X9_saving : (yN mX9_saving).cls ≠ "java/lang/invoke/MethodHandle" ∧ (yN mX9_saving).cls ≠ "java/lang/invoke/VarHandle" ∧ (parseMethodDescriptor (yN mX9_saving).desc).map (fun d => d.parameters.length) = some 1 := by decide +kernel
theorem cd_X9_withRoom : Cond.code (yN mX9_withRoom) (yC mX9_withRoom) (yL mX9_withRoom) (yR mX9_withRoom) ∈ zGW := zGW_of 1598 (by decide +kernel)
theorem im_X9_withRoom : Cond.instanceMethod (yN mX9_withRoom) ∈ zGW := zGW_of 1596 (by decide +kernel)
theorem sl_X9_withRoom : Cond.selects (yN mX9_withRoom).cls (yN mX9_withRoom) (yN mX9_withRoom) ∈ zGW := zGW_of 1597 (by decide +kernel)
theorem np_X9_withRoom : (yN mX9_withRoom).cls ≠ "java/lang/invoke/MethodHandle" ∧ (yN mX9_withRoom).cls ≠ "java/lang/invoke/VarHandle" ∧ (parseMethodDescriptor (yN mX9_withRoom).desc).map (fun d => d.parameters.length) = some 3 := by decide +kernel
theorem cd_X9_refused : Cond.code (yN mX9_refused) (yC mX9_refused) (yL mX9_refused) (yR mX9_refused) ∈ zGW := zGW_of 1605 (by decide +kernel)
theorem st_X9_refused : Cond.static (yN mX9_refused) ∈ zGW := zGW_of 1604 (by decide +kernel)
theorem np_X9_refused : (yN mX9_refused).cls ≠ "java/lang/invoke/MethodHandle" ∧ (yN mX9_refused).cls ≠ "java/lang/invoke/VarHandle" ∧ (parseMethodDescriptor (yN mX9_refused).desc).map (fun d => d.parameters.length) = some 1 := by decide +kernel
theorem cd_X9_add : Cond.code (yN mX9_add) (yC mX9_add) (yL mX9_add) (yR mX9_add) ∈ zGW := zGW_of 1602 (by decide +kernel)
theorem im_X9_add : Cond.instanceMethod (yN mX9_add) ∈ zGW := zGW_of 1600 (by decide +kernel)
theorem sl_X9_add : Cond.selects (yN mX9_add).cls (yN mX9_add) (yN mX9_add) ∈ zGW := zGW_of 1601 (by decide +kernel)
theorem np_X9_add : (yN mX9_add).cls ≠ "java/lang/invoke/MethodHandle" ∧ (yN mX9_add).cls ≠ "java/lang/invoke/VarHandle" ∧ (parseMethodDescriptor (yN mX9_add).desc).map (fun d => d.parameters.length) = some 2 := by decide +kernel
theorem cd_X9_drop : Cond.code (yN mX9_drop) (yC mX9_drop) (yL mX9_drop) (yR mX9_drop) ∈ zGW := zGW_of 1609 (by decide +kernel)
theorem im_X9_drop : Cond.instanceMethod (yN mX9_drop) ∈ zGW := zGW_of 1607 (by decide +kernel)
theorem sl_X9_drop : Cond.selects (yN mX9_drop).cls (yN mX9_drop) (yN mX9_drop) ∈ zGW := zGW_of 1608 (by decide +kernel)
theorem np_X9_drop : (yN mX9_drop).cls ≠ "java/lang/invoke/MethodHandle" ∧ (yN mX9_drop).cls ≠ "java/lang/invoke/VarHandle" ∧ (parseMethodDescriptor (yN mX9_drop).desc).map (fun d => d.parameters.length) = some 1 := by decide +kernel
theorem cd_X9_use : Cond.code (yN mX9_use) (yC mX9_use) (yL mX9_use) (yR mX9_use) ∈ zGW := zGW_of 1613 (by decide +kernel)
theorem im_X9_use : Cond.instanceMethod (yN mX9_use) ∈ zGW := zGW_of 1611 (by decide +kernel)
theorem sl_X9_use : Cond.selects (yN mX9_use).cls (yN mX9_use) (yN mX9_use) ∈ zGW := zGW_of 1612 (by decide +kernel)
theorem np_X9_use : (yN mX9_use).cls ≠ "java/lang/invoke/MethodHandle" ∧ (yN mX9_use).cls ≠ "java/lang/invoke/VarHandle" ∧ (parseMethodDescriptor (yN mX9_use).desc).map (fun d => d.parameters.length) = some 2 := by decide +kernel
theorem cd_X9_pays : Cond.code (yN mX9_pays) (yC mX9_pays) (yL mX9_pays) (yR mX9_pays) ∈ zGW := zGW_of 1626 (by decide +kernel)
theorem im_X9_pays : Cond.instanceMethod (yN mX9_pays) ∈ zGW := zGW_of 1625 (by decide +kernel)
theorem sl_X9_pays : Cond.selects (yN mX9_pays).cls (yN mX9_pays) (yN mX9_pays) ∈ zGW := zGW_of 75 (by decide +kernel)
theorem np_X9_pays : (yN mX9_pays).cls ≠ "java/lang/invoke/MethodHandle" ∧ (yN mX9_pays).cls ≠ "java/lang/invoke/VarHandle" ∧ (parseMethodDescriptor (yN mX9_pays).desc).map (fun d => d.parameters.length) = some 3 := by decide +kernel
theorem cd_X9_closes : Cond.code (yN mX9_closes) (yC mX9_closes) (yL mX9_closes) (yR mX9_closes) ∈ zGW := zGW_of 1622 (by decide +kernel)
theorem im_X9_closes : Cond.instanceMethod (yN mX9_closes) ∈ zGW := zGW_of 1621 (by decide +kernel)
theorem sl_X9_closes : Cond.selects (yN mX9_closes).cls (yN mX9_closes) (yN mX9_closes) ∈ zGW := zGW_of 74 (by decide +kernel)
theorem np_X9_closes : (yN mX9_closes).cls ≠ "java/lang/invoke/MethodHandle" ∧ (yN mX9_closes).cls ≠ "java/lang/invoke/VarHandle" ∧ (parseMethodDescriptor (yN mX9_closes).desc).map (fun d => d.parameters.length) = some 1 := by decide +kernel
theorem cd_X9_close : Cond.code (yN mX9_close) (yC mX9_close) (yL mX9_close) (yR mX9_close) ∈ zGW := zGW_of 1617 (by decide +kernel)
theorem im_X9_close : Cond.instanceMethod (yN mX9_close) ∈ zGW := zGW_of 1615 (by decide +kernel)
theorem sl_X9_close : Cond.selects (yN mX9_close).cls (yN mX9_close) (yN mX9_close) ∈ zGW := zGW_of 1616 (by decide +kernel)
theorem np_X9_close : (yN mX9_close).cls ≠ "java/lang/invoke/MethodHandle" ∧ (yN mX9_close).cls ≠ "java/lang/invoke/VarHandle" ∧ (parseMethodDescriptor (yN mX9_close).desc).map (fun d => d.parameters.length) = some 0 := by decide +kernel
theorem cd_X9_goes : Cond.code (yN mX9_goes) (yC mX9_goes) (yL mX9_goes) (yR mX9_goes) ∈ zGW := zGW_of 1642 (by decide +kernel)
theorem im_X9_goes : Cond.instanceMethod (yN mX9_goes) ∈ zGW := zGW_of 1641 (by decide +kernel)
theorem sl_X9_goes : Cond.selects (yN mX9_goes).cls (yN mX9_goes) (yN mX9_goes) ∈ zGW := zGW_of 78 (by decide +kernel)
theorem np_X9_goes : (yN mX9_goes).cls ≠ "java/lang/invoke/MethodHandle" ∧ (yN mX9_goes).cls ≠ "java/lang/invoke/VarHandle" ∧ (parseMethodDescriptor (yN mX9_goes).desc).map (fun d => d.parameters.length) = some 2 := by decide +kernel
theorem cd_X9_move : Cond.code (yN mX9_move) (yC mX9_move) (yL mX9_move) (yR mX9_move) ∈ zGW := zGW_of 1638 (by decide +kernel)
theorem im_X9_move : Cond.instanceMethod (yN mX9_move) ∈ zGW := zGW_of 1636 (by decide +kernel)
theorem sl_X9_move : Cond.selects (yN mX9_move).cls (yN mX9_move) (yN mX9_move) ∈ zGW := zGW_of 1637 (by decide +kernel)
theorem np_X9_move : (yN mX9_move).cls ≠ "java/lang/invoke/MethodHandle" ∧ (yN mX9_move).cls ≠ "java/lang/invoke/VarHandle" ∧ (parseMethodDescriptor (yN mX9_move).desc).map (fun d => d.parameters.length) = some 2 := by decide +kernel
theorem cd_X9_unmove : Cond.code (yN mX9_unmove) (yC mX9_unmove) (yL mX9_unmove) (yR mX9_unmove) ∈ zGW := zGW_of 1647 (by decide +kernel)
theorem im_X9_unmove : Cond.instanceMethod (yN mX9_unmove) ∈ zGW := zGW_of 1645 (by decide +kernel)
theorem sl_X9_unmove : Cond.selects (yN mX9_unmove).cls (yN mX9_unmove) (yN mX9_unmove) ∈ zGW := zGW_of 1646 (by decide +kernel)
theorem np_X9_unmove : (yN mX9_unmove).cls ≠ "java/lang/invoke/MethodHandle" ∧ (yN mX9_unmove).cls ≠ "java/lang/invoke/VarHandle" ∧ (parseMethodDescriptor (yN mX9_unmove).desc).map (fun d => d.parameters.length) = some 0 := by decide +kernel
theorem cd_X9_pin : Cond.code (yN mX9_pin) (yC mX9_pin) (yL mX9_pin) (yR mX9_pin) ∈ zGW := zGW_of 1651 (by decide +kernel)
theorem im_X9_pin : Cond.instanceMethod (yN mX9_pin) ∈ zGW := zGW_of 1649 (by decide +kernel)
theorem sl_X9_pin : Cond.selects (yN mX9_pin).cls (yN mX9_pin) (yN mX9_pin) ∈ zGW := zGW_of 1650 (by decide +kernel)
theorem np_X9_pin : (yN mX9_pin).cls ≠ "java/lang/invoke/MethodHandle" ∧ (yN mX9_pin).cls ≠ "java/lang/invoke/VarHandle" ∧ (parseMethodDescriptor (yN mX9_pin).desc).map (fun d => d.parameters.length) = some 2 := by decide +kernel
theorem cd_X9_act : Cond.code (yN mX9_act) (yC mX9_act) (yL mX9_act) (yR mX9_act) ∈ zGW := zGW_of 1655 (by decide +kernel)
theorem im_X9_act : Cond.instanceMethod (yN mX9_act) ∈ zGW := zGW_of 1653 (by decide +kernel)
theorem sl_X9_act : Cond.selects (yN mX9_act).cls (yN mX9_act) (yN mX9_act) ∈ zGW := zGW_of 1654 (by decide +kernel)
theorem np_X9_act : (yN mX9_act).cls ≠ "java/lang/invoke/MethodHandle" ∧ (yN mX9_act).cls ≠ "java/lang/invoke/VarHandle" ∧ (parseMethodDescriptor (yN mX9_act).desc).map (fun d => d.parameters.length) = some 1 := by decide +kernel
theorem cd_X9_learn : Cond.code (yN mX9_learn) (yC mX9_learn) (yL mX9_learn) (yR mX9_learn) ∈ zGW := zGW_of 1659 (by decide +kernel)
theorem im_X9_learn : Cond.instanceMethod (yN mX9_learn) ∈ zGW := zGW_of 1657 (by decide +kernel)
theorem sl_X9_learn : Cond.selects (yN mX9_learn).cls (yN mX9_learn) (yN mX9_learn) ∈ zGW := zGW_of 1658 (by decide +kernel)
theorem np_X9_learn : (yN mX9_learn).cls ≠ "java/lang/invoke/MethodHandle" ∧ (yN mX9_learn).cls ≠ "java/lang/invoke/VarHandle" ∧ (parseMethodDescriptor (yN mX9_learn).desc).map (fun d => d.parameters.length) = some 2 := by decide +kernel
theorem cd_X9_setTier : Cond.code (yN mX9_setTier) (yC mX9_setTier) (yL mX9_setTier) (yR mX9_setTier) ∈ zGW := zGW_of 1667 (by decide +kernel)
theorem im_X9_setTier : Cond.instanceMethod (yN mX9_setTier) ∈ zGW := zGW_of 1665 (by decide +kernel)
theorem sl_X9_setTier : Cond.selects (yN mX9_setTier).cls (yN mX9_setTier) (yN mX9_setTier) ∈ zGW := zGW_of 1666 (by decide +kernel)
theorem np_X9_setTier : (yN mX9_setTier).cls ≠ "java/lang/invoke/MethodHandle" ∧ (yN mX9_setTier).cls ≠ "java/lang/invoke/VarHandle" ∧ (parseMethodDescriptor (yN mX9_setTier).desc).map (fun d => d.parameters.length) = some 3 := by decide +kernel
theorem cd_X9_says : Cond.code (yN mX9_says) (yC mX9_says) (yL mX9_says) (yR mX9_says) ∈ zGW := zGW_of 1676 (by decide +kernel)
theorem im_X9_says : Cond.instanceMethod (yN mX9_says) ∈ zGW := zGW_of 1675 (by decide +kernel)
theorem sl_X9_says : Cond.selects (yN mX9_says).cls (yN mX9_says) (yN mX9_says) ∈ zGW := zGW_of 80 (by decide +kernel)
theorem np_X9_says : (yN mX9_says).cls ≠ "java/lang/invoke/MethodHandle" ∧ (yN mX9_says).cls ≠ "java/lang/invoke/VarHandle" ∧ (parseMethodDescriptor (yN mX9_says).desc).map (fun d => d.parameters.length) = some 1 := by decide +kernel
theorem cd_X9_saysName : Cond.code (yN mX9_saysName) (yC mX9_saysName) (yL mX9_saysName) (yR mX9_saysName) ∈ zGW := zGW_of 1680 (by decide +kernel)
theorem im_X9_saysName : Cond.instanceMethod (yN mX9_saysName) ∈ zGW := zGW_of 1679 (by decide +kernel)
theorem sl_X9_saysName : Cond.selects (yN mX9_saysName).cls (yN mX9_saysName) (yN mX9_saysName) ∈ zGW := zGW_of 81 (by decide +kernel)
theorem np_X9_saysName : (yN mX9_saysName).cls ≠ "java/lang/invoke/MethodHandle" ∧ (yN mX9_saysName).cls ≠ "java/lang/invoke/VarHandle" ∧ (parseMethodDescriptor (yN mX9_saysName).desc).map (fun d => d.parameters.length) = some 1 := by decide +kernel
theorem cd_X9_writeTiers : Cond.code (yN mX9_writeTiers) (yC mX9_writeTiers) (yL mX9_writeTiers) (yR mX9_writeTiers) ∈ zGW := zGW_of 1671 (by decide +kernel)
theorem im_X9_writeTiers : Cond.instanceMethod (yN mX9_writeTiers) ∈ zGW := zGW_of 1669 (by decide +kernel)
theorem sl_X9_writeTiers : Cond.selects (yN mX9_writeTiers).cls (yN mX9_writeTiers) (yN mX9_writeTiers) ∈ zGW := zGW_of 1670 (by decide +kernel)
theorem np_X9_writeTiers : (yN mX9_writeTiers).cls ≠ "java/lang/invoke/MethodHandle" ∧ (yN mX9_writeTiers).cls ≠ "java/lang/invoke/VarHandle" ∧ (parseMethodDescriptor (yN mX9_writeTiers).desc).map (fun d => d.parameters.length) = some 0 := by decide +kernel
theorem cd_X9_writtenByte : Cond.code (yN mX9_writtenByte) (yC mX9_writtenByte) (yL mX9_writtenByte) (yR mX9_writtenByte) ∈ zGW := zGW_of 1687 (by decide +kernel)
theorem im_X9_writtenByte : Cond.instanceMethod (yN mX9_writtenByte) ∈ zGW := zGW_of 1685 (by decide +kernel)
theorem sl_X9_writtenByte : Cond.selects (yN mX9_writtenByte).cls (yN mX9_writtenByte) (yN mX9_writtenByte) ∈ zGW := zGW_of 1686 (by decide +kernel)
theorem np_X9_writtenByte : (yN mX9_writtenByte).cls ≠ "java/lang/invoke/MethodHandle" ∧ (yN mX9_writtenByte).cls ≠ "java/lang/invoke/VarHandle" ∧ (parseMethodDescriptor (yN mX9_writtenByte).desc).map (fun d => d.parameters.length) = some 1 := by decide +kernel
theorem cd_J9_floorMod_7cf53 : Cond.code (yN mJ9_floorMod_7cf53) (yC mJ9_floorMod_7cf53) (yL mJ9_floorMod_7cf53) (yR mJ9_floorMod_7cf53) ∈ zGW := zGW_of 1122 (by decide +kernel)
theorem st_J9_floorMod_7cf53 : Cond.static (yN mJ9_floorMod_7cf53) ∈ zGW := zGW_of 1121 (by decide +kernel)
theorem iw_J9_floorMod_7cf53 : Cond.initialized (yN mJ9_floorMod_7cf53).cls ∈ zGW := zGW_of 102 (by decide +kernel)
theorem np_J9_floorMod_7cf53 : (yN mJ9_floorMod_7cf53).cls ≠ "java/lang/invoke/MethodHandle" ∧ (yN mJ9_floorMod_7cf53).cls ≠ "java/lang/invoke/VarHandle" ∧ (parseMethodDescriptor (yN mJ9_floorMod_7cf53).desc).map (fun d => d.parameters.length) = some 2 := by decide +kernel
theorem cd_J9_abs_0f7a4 : Cond.code (yN mJ9_abs_0f7a4) (yC mJ9_abs_0f7a4) (yL mJ9_abs_0f7a4) (yR mJ9_abs_0f7a4) ∈ zGW := zGW_of 629 (by decide +kernel)
theorem st_J9_abs_0f7a4 : Cond.static (yN mJ9_abs_0f7a4) ∈ zGW := zGW_of 628 (by decide +kernel)
theorem np_J9_abs_0f7a4 : (yN mJ9_abs_0f7a4).cls ≠ "java/lang/invoke/MethodHandle" ∧ (yN mJ9_abs_0f7a4).cls ≠ "java/lang/invoke/VarHandle" ∧ (parseMethodDescriptor (yN mJ9_abs_0f7a4).desc).map (fun d => d.parameters.length) = some 1 := by decide +kernel
theorem cd_J9_max_7cf53 : Cond.code (yN mJ9_max_7cf53) (yC mJ9_max_7cf53) (yL mJ9_max_7cf53) (yR mJ9_max_7cf53) ∈ zGW := zGW_of 1470 (by decide +kernel)
theorem st_J9_max_7cf53 : Cond.static (yN mJ9_max_7cf53) ∈ zGW := zGW_of 1469 (by decide +kernel)
theorem np_J9_max_7cf53 : (yN mJ9_max_7cf53).cls ≠ "java/lang/invoke/MethodHandle" ∧ (yN mJ9_max_7cf53).cls ≠ "java/lang/invoke/VarHandle" ∧ (parseMethodDescriptor (yN mJ9_max_7cf53).desc).map (fun d => d.parameters.length) = some 2 := by decide +kernel
theorem cd_J9_min_7cf53 : Cond.code (yN mJ9_min_7cf53) (yC mJ9_min_7cf53) (yL mJ9_min_7cf53) (yR mJ9_min_7cf53) ∈ zGW := zGW_of 1341 (by decide +kernel)
theorem st_J9_min_7cf53 : Cond.static (yN mJ9_min_7cf53) ∈ zGW := zGW_of 1340 (by decide +kernel)
theorem np_J9_min_7cf53 : (yN mJ9_min_7cf53).cls ≠ "java/lang/invoke/MethodHandle" ∧ (yN mJ9_min_7cf53).cls ≠ "java/lang/invoke/VarHandle" ∧ (parseMethodDescriptor (yN mJ9_min_7cf53).desc).map (fun d => d.parameters.length) = some 2 := by decide +kernel
theorem cd_J0_length_8abf5 : Cond.code (yN mJ0_length_8abf5) (yC mJ0_length_8abf5) (yL mJ0_length_8abf5) (yR mJ0_length_8abf5) ∈ zGW := zGW_of 457 (by decide +kernel)
theorem im_J0_length_8abf5 : Cond.instanceMethod (yN mJ0_length_8abf5) ∈ zGW := zGW_of 455 (by decide +kernel)
theorem sl_J0_length_8abf5 : Cond.selects (yN mJ0_length_8abf5).cls (yN mJ0_length_8abf5) (yN mJ0_length_8abf5) ∈ zGW := zGW_of 456 (by decide +kernel)
theorem iw_J0_length_8abf5 : Cond.initialized (yN mJ0_length_8abf5).cls ∈ zGW := zGW_of 97 (by decide +kernel)
theorem np_J0_length_8abf5 : (yN mJ0_length_8abf5).cls ≠ "java/lang/invoke/MethodHandle" ∧ (yN mJ0_length_8abf5).cls ≠ "java/lang/invoke/VarHandle" ∧ (parseMethodDescriptor (yN mJ0_length_8abf5).desc).map (fun d => d.parameters.length) = some 0 := by decide +kernel
theorem cd_J0_charAt_5068e : Cond.code (yN mJ0_charAt_5068e) (yC mJ0_charAt_5068e) (yL mJ0_charAt_5068e) (yR mJ0_charAt_5068e) ∈ zGW := zGW_of 467 (by decide +kernel)
theorem im_J0_charAt_5068e : Cond.instanceMethod (yN mJ0_charAt_5068e) ∈ zGW := zGW_of 465 (by decide +kernel)
theorem sl_J0_charAt_5068e : Cond.selects (yN mJ0_charAt_5068e).cls (yN mJ0_charAt_5068e) (yN mJ0_charAt_5068e) ∈ zGW := zGW_of 466 (by decide +kernel)
theorem np_J0_charAt_5068e : (yN mJ0_charAt_5068e).cls ≠ "java/lang/invoke/MethodHandle" ∧ (yN mJ0_charAt_5068e).cls ≠ "java/lang/invoke/VarHandle" ∧ (parseMethodDescriptor (yN mJ0_charAt_5068e).desc).map (fun d => d.parameters.length) = some 1 := by decide +kernel
theorem cd_J0_coder_7d493 : Cond.code (yN mJ0_coder_7d493) (yC mJ0_coder_7d493) (yL mJ0_coder_7d493) (yR mJ0_coder_7d493) ∈ zGW := zGW_of 461 (by decide +kernel)
theorem im_J0_coder_7d493 : Cond.instanceMethod (yN mJ0_coder_7d493) ∈ zGW := zGW_of 459 (by decide +kernel)
theorem sl_J0_coder_7d493 : Cond.selects (yN mJ0_coder_7d493).cls (yN mJ0_coder_7d493) (yN mJ0_coder_7d493) ∈ zGW := zGW_of 460 (by decide +kernel)
theorem np_J0_coder_7d493 : (yN mJ0_coder_7d493).cls ≠ "java/lang/invoke/MethodHandle" ∧ (yN mJ0_coder_7d493).cls ≠ "java/lang/invoke/VarHandle" ∧ (parseMethodDescriptor (yN mJ0_coder_7d493).desc).map (fun d => d.parameters.length) = some 0 := by decide +kernel
theorem cd_J0_isLatin1_aae02 : Cond.code (yN mJ0_isLatin1_aae02) (yC mJ0_isLatin1_aae02) (yL mJ0_isLatin1_aae02) (yR mJ0_isLatin1_aae02) ∈ zGW := zGW_of 471 (by decide +kernel)
theorem im_J0_isLatin1_aae02 : Cond.instanceMethod (yN mJ0_isLatin1_aae02) ∈ zGW := zGW_of 469 (by decide +kernel)
theorem sl_J0_isLatin1_aae02 : Cond.selects (yN mJ0_isLatin1_aae02).cls (yN mJ0_isLatin1_aae02) (yN mJ0_isLatin1_aae02) ∈ zGW := zGW_of 470 (by decide +kernel)
theorem np_J0_isLatin1_aae02 : (yN mJ0_isLatin1_aae02).cls ≠ "java/lang/invoke/MethodHandle" ∧ (yN mJ0_isLatin1_aae02).cls ≠ "java/lang/invoke/VarHandle" ∧ (parseMethodDescriptor (yN mJ0_isLatin1_aae02).desc).map (fun d => d.parameters.length) = some 0 := by decide +kernel
theorem cd_J0_checkIndex_df160 : Cond.code (yN mJ0_checkIndex_df160) (yC mJ0_checkIndex_df160) (yL mJ0_checkIndex_df160) (yR mJ0_checkIndex_df160) ∈ zGW := zGW_of 477 (by decide +kernel)
theorem st_J0_checkIndex_df160 : Cond.static (yN mJ0_checkIndex_df160) ∈ zGW := zGW_of 476 (by decide +kernel)
theorem np_J0_checkIndex_df160 : (yN mJ0_checkIndex_df160).cls ≠ "java/lang/invoke/MethodHandle" ∧ (yN mJ0_checkIndex_df160).cls ≠ "java/lang/invoke/VarHandle" ∧ (parseMethodDescriptor (yN mJ0_checkIndex_df160).desc).map (fun d => d.parameters.length) = some 2 := by decide +kernel
theorem cd_J1_charAt_3b067 : Cond.code (yN mJ1_charAt_3b067) (yC mJ1_charAt_3b067) (yL mJ1_charAt_3b067) (yR mJ1_charAt_3b067) ∈ zGW := zGW_of 474 (by decide +kernel)
theorem st_J1_charAt_3b067 : Cond.static (yN mJ1_charAt_3b067) ∈ zGW := zGW_of 473 (by decide +kernel)
theorem iw_J1_charAt_3b067 : Cond.initialized (yN mJ1_charAt_3b067).cls ∈ zGW := zGW_of 98 (by decide +kernel)
theorem np_J1_charAt_3b067 : (yN mJ1_charAt_3b067).cls ≠ "java/lang/invoke/MethodHandle" ∧ (yN mJ1_charAt_3b067).cls ≠ "java/lang/invoke/VarHandle" ∧ (parseMethodDescriptor (yN mJ1_charAt_3b067).desc).map (fun d => d.parameters.length) = some 2 := by decide +kernel
theorem cd_J2_getChar_3b067 : Cond.code (yN mJ2_getChar_3b067) (yC mJ2_getChar_3b067) (yL mJ2_getChar_3b067) (yR mJ2_getChar_3b067) ∈ zGW := zGW_of 495 (by decide +kernel)
theorem st_J2_getChar_3b067 : Cond.static (yN mJ2_getChar_3b067) ∈ zGW := zGW_of 494 (by decide +kernel)
theorem iw_J2_getChar_3b067 : Cond.initialized (yN mJ2_getChar_3b067).cls ∈ zGW := zGW_of 100 (by decide +kernel)
theorem np_J2_getChar_3b067 : (yN mJ2_getChar_3b067).cls ≠ "java/lang/invoke/MethodHandle" ∧ (yN mJ2_getChar_3b067).cls ≠ "java/lang/invoke/VarHandle" ∧ (parseMethodDescriptor (yN mJ2_getChar_3b067).desc).map (fun d => d.parameters.length) = some 2 := by decide +kernel
theorem cd_J2_length_9d52b : Cond.code (yN mJ2_length_9d52b) (yC mJ2_length_9d52b) (yL mJ2_length_9d52b) (yR mJ2_length_9d52b) ∈ zGW := zGW_of 491 (by decide +kernel)
theorem st_J2_length_9d52b : Cond.static (yN mJ2_length_9d52b) ∈ zGW := zGW_of 490 (by decide +kernel)
theorem np_J2_length_9d52b : (yN mJ2_length_9d52b).cls ≠ "java/lang/invoke/MethodHandle" ∧ (yN mJ2_length_9d52b).cls ≠ "java/lang/invoke/VarHandle" ∧ (parseMethodDescriptor (yN mJ2_length_9d52b).desc).map (fun d => d.parameters.length) = some 1 := by decide +kernel
theorem cd_J2_charAt_3b067 : Cond.code (yN mJ2_charAt_3b067) (yC mJ2_charAt_3b067) (yL mJ2_charAt_3b067) (yR mJ2_charAt_3b067) ∈ zGW := zGW_of 485 (by decide +kernel)
theorem st_J2_charAt_3b067 : Cond.static (yN mJ2_charAt_3b067) ∈ zGW := zGW_of 484 (by decide +kernel)
theorem np_J2_charAt_3b067 : (yN mJ2_charAt_3b067).cls ≠ "java/lang/invoke/MethodHandle" ∧ (yN mJ2_charAt_3b067).cls ≠ "java/lang/invoke/VarHandle" ∧ (parseMethodDescriptor (yN mJ2_charAt_3b067).desc).map (fun d => d.parameters.length) = some 2 := by decide +kernel
theorem cd_J2_checkIndex_2214a : Cond.code (yN mJ2_checkIndex_2214a) (yC mJ2_checkIndex_2214a) (yL mJ2_checkIndex_2214a) (yR mJ2_checkIndex_2214a) ∈ zGW := zGW_of 488 (by decide +kernel)
theorem st_J2_checkIndex_2214a : Cond.static (yN mJ2_checkIndex_2214a) ∈ zGW := zGW_of 487 (by decide +kernel)
theorem np_J2_checkIndex_2214a : (yN mJ2_checkIndex_2214a).cls ≠ "java/lang/invoke/MethodHandle" ∧ (yN mJ2_checkIndex_2214a).cls ≠ "java/lang/invoke/VarHandle" ∧ (parseMethodDescriptor (yN mJ2_checkIndex_2214a).desc).map (fun d => d.parameters.length) = some 2 := by decide +kernel
theorem cd_J3_checkIndex_8e157 : Cond.code (yN mJ3_checkIndex_8e157) (yC mJ3_checkIndex_8e157) (yL mJ3_checkIndex_8e157) (yR mJ3_checkIndex_8e157) ∈ zGW := zGW_of 482 (by decide +kernel)
theorem st_J3_checkIndex_8e157 : Cond.static (yN mJ3_checkIndex_8e157) ∈ zGW := zGW_of 481 (by decide +kernel)
theorem iw_J3_checkIndex_8e157 : Cond.initialized (yN mJ3_checkIndex_8e157).cls ∈ zGW := zGW_of 99 (by decide +kernel)
theorem np_J3_checkIndex_8e157 : (yN mJ3_checkIndex_8e157).cls ≠ "java/lang/invoke/MethodHandle" ∧ (yN mJ3_checkIndex_8e157).cls ≠ "java/lang/invoke/VarHandle" ∧ (parseMethodDescriptor (yN mJ3_checkIndex_8e157).desc).map (fun d => d.parameters.length) = some 3 := by decide +kernel
theorem cd_L_append : Cond.codeWith (yN mL_append) (yC mL_append) (yL mL_append) (yR mL_append) (yH mL_append) ∈ zGW := zGW_of 719 (by decide +kernel)
theorem st_L_append : Cond.static (yN mL_append) ∈ zGW := zGW_of 718 (by decide +kernel)
theorem iw_L_append : Cond.initialized (yN mL_append).cls ∈ zGW := zGW_of 82 (by decide +kernel)
theorem np_L_append : (yN mL_append).cls ≠ "java/lang/invoke/MethodHandle" ∧ (yN mL_append).cls ≠ "java/lang/invoke/VarHandle" ∧ (parseMethodDescriptor (yN mL_append).desc).map (fun d => d.parameters.length) = some 7 := by decide +kernel
theorem cd_L_count : Cond.codeWith (yN mL_count) (yC mL_count) (yL mL_count) (yR mL_count) (yH mL_count) ∈ zGW := zGW_of 797 (by decide +kernel)
theorem st_L_count : Cond.static (yN mL_count) ∈ zGW := zGW_of 796 (by decide +kernel)
theorem np_L_count : (yN mL_count).cls ≠ "java/lang/invoke/MethodHandle" ∧ (yN mL_count).cls ≠ "java/lang/invoke/VarHandle" ∧ (parseMethodDescriptor (yN mL_count).desc).map (fun d => d.parameters.length) = some 3 := by decide +kernel
theorem cd_L_tier : Cond.codeWith (yN mL_tier) (yC mL_tier) (yL mL_tier) (yR mL_tier) (yH mL_tier) ∈ zGW := zGW_of 832 (by decide +kernel)
theorem st_L_tier : Cond.static (yN mL_tier) ∈ zGW := zGW_of 831 (by decide +kernel)
theorem np_L_tier : (yN mL_tier).cls ≠ "java/lang/invoke/MethodHandle" ∧ (yN mL_tier).cls ≠ "java/lang/invoke/VarHandle" ∧ (parseMethodDescriptor (yN mL_tier).desc).map (fun d => d.parameters.length) = some 4 := by decide +kernel
theorem cd_L_file : Cond.codeWith (yN mL_file) (yC mL_file) (yL mL_file) (yR mL_file) (yH mL_file) ∈ zGW := zGW_of 869 (by decide +kernel)
theorem st_L_file : Cond.static (yN mL_file) ∈ zGW := zGW_of 868 (by decide +kernel)
theorem np_L_file : (yN mL_file).cls ≠ "java/lang/invoke/MethodHandle" ∧ (yN mL_file).cls ≠ "java/lang/invoke/VarHandle" ∧ (parseMethodDescriptor (yN mL_file).desc).map (fun d => d.parameters.length) = some 4 := by decide +kernel
theorem cd_L_season : Cond.codeWith (yN mL_season) (yC mL_season) (yL mL_season) (yR mL_season) (yH mL_season) ∈ zGW := zGW_of 891 (by decide +kernel)
theorem st_L_season : Cond.static (yN mL_season) ∈ zGW := zGW_of 890 (by decide +kernel)
theorem np_L_season : (yN mL_season).cls ≠ "java/lang/invoke/MethodHandle" ∧ (yN mL_season).cls ≠ "java/lang/invoke/VarHandle" ∧ (parseMethodDescriptor (yN mL_season).desc).map (fun d => d.parameters.length) = some 4 := by decide +kernel
theorem cd_L_kept : Cond.codeWith (yN mL_kept) (yC mL_kept) (yL mL_kept) (yR mL_kept) (yH mL_kept) ∈ zGW := zGW_of 898 (by decide +kernel)
theorem st_L_kept : Cond.static (yN mL_kept) ∈ zGW := zGW_of 897 (by decide +kernel)
theorem np_L_kept : (yN mL_kept).cls ≠ "java/lang/invoke/MethodHandle" ∧ (yN mL_kept).cls ≠ "java/lang/invoke/VarHandle" ∧ (parseMethodDescriptor (yN mL_kept).desc).map (fun d => d.parameters.length) = some 4 := by decide +kernel
theorem cd_L_forecast : Cond.codeWith (yN mL_forecast) (yC mL_forecast) (yL mL_forecast) (yR mL_forecast) (yH mL_forecast) ∈ zGW := zGW_of 905 (by decide +kernel)
theorem st_L_forecast : Cond.static (yN mL_forecast) ∈ zGW := zGW_of 904 (by decide +kernel)
theorem np_L_forecast : (yN mL_forecast).cls ≠ "java/lang/invoke/MethodHandle" ∧ (yN mL_forecast).cls ≠ "java/lang/invoke/VarHandle" ∧ (parseMethodDescriptor (yN mL_forecast).desc).map (fun d => d.parameters.length) = some 4 := by decide +kernel
theorem cd_L_off : Cond.codeWith (yN mL_off) (yC mL_off) (yL mL_off) (yR mL_off) (yH mL_off) ∈ zGW := zGW_of 914 (by decide +kernel)
theorem st_L_off : Cond.static (yN mL_off) ∈ zGW := zGW_of 913 (by decide +kernel)
theorem np_L_off : (yN mL_off).cls ≠ "java/lang/invoke/MethodHandle" ∧ (yN mL_off).cls ≠ "java/lang/invoke/VarHandle" ∧ (parseMethodDescriptor (yN mL_off).desc).map (fun d => d.parameters.length) = some 3 := by decide +kernel
theorem cd_L_cycleOf : Cond.codeWith (yN mL_cycleOf) (yC mL_cycleOf) (yL mL_cycleOf) (yR mL_cycleOf) (yH mL_cycleOf) ∈ zGW := zGW_of 921 (by decide +kernel)
theorem st_L_cycleOf : Cond.static (yN mL_cycleOf) ∈ zGW := zGW_of 920 (by decide +kernel)
theorem np_L_cycleOf : (yN mL_cycleOf).cls ≠ "java/lang/invoke/MethodHandle" ∧ (yN mL_cycleOf).cls ≠ "java/lang/invoke/VarHandle" ∧ (parseMethodDescriptor (yN mL_cycleOf).desc).map (fun d => d.parameters.length) = some 3 := by decide +kernel
theorem cd_L_account : Cond.codeWith (yN mL_account) (yC mL_account) (yL mL_account) (yR mL_account) (yH mL_account) ∈ zGW := zGW_of 928 (by decide +kernel)
theorem st_L_account : Cond.static (yN mL_account) ∈ zGW := zGW_of 927 (by decide +kernel)
theorem np_L_account : (yN mL_account).cls ≠ "java/lang/invoke/MethodHandle" ∧ (yN mL_account).cls ≠ "java/lang/invoke/VarHandle" ∧ (parseMethodDescriptor (yN mL_account).desc).map (fun d => d.parameters.length) = some 4 := by decide +kernel
theorem cd_L_cost : Cond.codeWith (yN mL_cost) (yC mL_cost) (yL mL_cost) (yR mL_cost) (yH mL_cost) ∈ zGW := zGW_of 939 (by decide +kernel)
theorem st_L_cost : Cond.static (yN mL_cost) ∈ zGW := zGW_of 938 (by decide +kernel)
theorem np_L_cost : (yN mL_cost).cls ≠ "java/lang/invoke/MethodHandle" ∧ (yN mL_cost).cls ≠ "java/lang/invoke/VarHandle" ∧ (parseMethodDescriptor (yN mL_cost).desc).map (fun d => d.parameters.length) = some 5 := by decide +kernel
theorem cd_L_wish : Cond.codeWith (yN mL_wish) (yC mL_wish) (yL mL_wish) (yR mL_wish) (yH mL_wish) ∈ zGW := zGW_of 959 (by decide +kernel)
theorem st_L_wish : Cond.static (yN mL_wish) ∈ zGW := zGW_of 958 (by decide +kernel)
theorem np_L_wish : (yN mL_wish).cls ≠ "java/lang/invoke/MethodHandle" ∧ (yN mL_wish).cls ≠ "java/lang/invoke/VarHandle" ∧ (parseMethodDescriptor (yN mL_wish).desc).map (fun d => d.parameters.length) = some 4 := by decide +kernel
theorem cd_L_steps : Cond.codeWith (yN mL_steps) (yC mL_steps) (yL mL_steps) (yR mL_steps) (yH mL_steps) ∈ zGW := zGW_of 980 (by decide +kernel)
theorem st_L_steps : Cond.static (yN mL_steps) ∈ zGW := zGW_of 979 (by decide +kernel)
theorem np_L_steps : (yN mL_steps).cls ≠ "java/lang/invoke/MethodHandle" ∧ (yN mL_steps).cls ≠ "java/lang/invoke/VarHandle" ∧ (parseMethodDescriptor (yN mL_steps).desc).map (fun d => d.parameters.length) = some 3 := by decide +kernel
theorem cd_L_step : Cond.codeWith (yN mL_step) (yC mL_step) (yL mL_step) (yR mL_step) (yH mL_step) ∈ zGW := zGW_of 1017 (by decide +kernel)
theorem st_L_step : Cond.static (yN mL_step) ∈ zGW := zGW_of 1016 (by decide +kernel)
theorem np_L_step : (yN mL_step).cls ≠ "java/lang/invoke/MethodHandle" ∧ (yN mL_step).cls ≠ "java/lang/invoke/VarHandle" ∧ (parseMethodDescriptor (yN mL_step).desc).map (fun d => d.parameters.length) = some 5 := by decide +kernel
theorem cd_L_saving : Cond.codeWith (yN mL_saving) (yC mL_saving) (yL mL_saving) (yR mL_saving) (yH mL_saving) ∈ zGW := zGW_of 1024 (by decide +kernel)
theorem st_L_saving : Cond.static (yN mL_saving) ∈ zGW := zGW_of 1023 (by decide +kernel)
theorem np_L_saving : (yN mL_saving).cls ≠ "java/lang/invoke/MethodHandle" ∧ (yN mL_saving).cls ≠ "java/lang/invoke/VarHandle" ∧ (parseMethodDescriptor (yN mL_saving).desc).map (fun d => d.parameters.length) = some 3 := by decide +kernel
theorem cd_L_withRoom : Cond.codeWith (yN mL_withRoom) (yC mL_withRoom) (yL mL_withRoom) (yR mL_withRoom) (yH mL_withRoom) ∈ zGW := zGW_of 1031 (by decide +kernel)
theorem st_L_withRoom : Cond.static (yN mL_withRoom) ∈ zGW := zGW_of 1030 (by decide +kernel)
theorem np_L_withRoom : (yN mL_withRoom).cls ≠ "java/lang/invoke/MethodHandle" ∧ (yN mL_withRoom).cls ≠ "java/lang/invoke/VarHandle" ∧ (parseMethodDescriptor (yN mL_withRoom).desc).map (fun d => d.parameters.length) = some 5 := by decide +kernel
theorem cd_L_add : Cond.codeWith (yN mL_add) (yC mL_add) (yL mL_add) (yR mL_add) (yH mL_add) ∈ zGW := zGW_of 1039 (by decide +kernel)
theorem st_L_add : Cond.static (yN mL_add) ∈ zGW := zGW_of 1038 (by decide +kernel)
theorem np_L_add : (yN mL_add).cls ≠ "java/lang/invoke/MethodHandle" ∧ (yN mL_add).cls ≠ "java/lang/invoke/VarHandle" ∧ (parseMethodDescriptor (yN mL_add).desc).map (fun d => d.parameters.length) = some 4 := by decide +kernel
theorem cd_L_drop : Cond.codeWith (yN mL_drop) (yC mL_drop) (yL mL_drop) (yR mL_drop) (yH mL_drop) ∈ zGW := zGW_of 1047 (by decide +kernel)
theorem st_L_drop : Cond.static (yN mL_drop) ∈ zGW := zGW_of 1046 (by decide +kernel)
theorem np_L_drop : (yN mL_drop).cls ≠ "java/lang/invoke/MethodHandle" ∧ (yN mL_drop).cls ≠ "java/lang/invoke/VarHandle" ∧ (parseMethodDescriptor (yN mL_drop).desc).map (fun d => d.parameters.length) = some 3 := by decide +kernel
theorem cd_L_use : Cond.codeWith (yN mL_use) (yC mL_use) (yL mL_use) (yR mL_use) (yH mL_use) ∈ zGW := zGW_of 1066 (by decide +kernel)
theorem st_L_use : Cond.static (yN mL_use) ∈ zGW := zGW_of 1065 (by decide +kernel)
theorem np_L_use : (yN mL_use).cls ≠ "java/lang/invoke/MethodHandle" ∧ (yN mL_use).cls ≠ "java/lang/invoke/VarHandle" ∧ (parseMethodDescriptor (yN mL_use).desc).map (fun d => d.parameters.length) = some 4 := by decide +kernel
theorem cd_L_move : Cond.codeWith (yN mL_move) (yC mL_move) (yL mL_move) (yR mL_move) (yH mL_move) ∈ zGW := zGW_of 1073 (by decide +kernel)
theorem st_L_move : Cond.static (yN mL_move) ∈ zGW := zGW_of 1072 (by decide +kernel)
theorem np_L_move : (yN mL_move).cls ≠ "java/lang/invoke/MethodHandle" ∧ (yN mL_move).cls ≠ "java/lang/invoke/VarHandle" ∧ (parseMethodDescriptor (yN mL_move).desc).map (fun d => d.parameters.length) = some 4 := by decide +kernel
theorem cd_L_pin : Cond.codeWith (yN mL_pin) (yC mL_pin) (yL mL_pin) (yR mL_pin) (yH mL_pin) ∈ zGW := zGW_of 1088 (by decide +kernel)
theorem st_L_pin : Cond.static (yN mL_pin) ∈ zGW := zGW_of 1087 (by decide +kernel)
theorem np_L_pin : (yN mL_pin).cls ≠ "java/lang/invoke/MethodHandle" ∧ (yN mL_pin).cls ≠ "java/lang/invoke/VarHandle" ∧ (parseMethodDescriptor (yN mL_pin).desc).map (fun d => d.parameters.length) = some 4 := by decide +kernel
theorem cd_L_act : Cond.codeWith (yN mL_act) (yC mL_act) (yL mL_act) (yR mL_act) (yH mL_act) ∈ zGW := zGW_of 1095 (by decide +kernel)
theorem st_L_act : Cond.static (yN mL_act) ∈ zGW := zGW_of 1094 (by decide +kernel)
theorem np_L_act : (yN mL_act).cls ≠ "java/lang/invoke/MethodHandle" ∧ (yN mL_act).cls ≠ "java/lang/invoke/VarHandle" ∧ (parseMethodDescriptor (yN mL_act).desc).map (fun d => d.parameters.length) = some 3 := by decide +kernel
theorem cd_L_learn : Cond.codeWith (yN mL_learn) (yC mL_learn) (yL mL_learn) (yR mL_learn) (yH mL_learn) ∈ zGW := zGW_of 1107 (by decide +kernel)
theorem st_L_learn : Cond.static (yN mL_learn) ∈ zGW := zGW_of 1106 (by decide +kernel)
theorem np_L_learn : (yN mL_learn).cls ≠ "java/lang/invoke/MethodHandle" ∧ (yN mL_learn).cls ≠ "java/lang/invoke/VarHandle" ∧ (parseMethodDescriptor (yN mL_learn).desc).map (fun d => d.parameters.length) = some 4 := by decide +kernel
theorem cd_L_setTier : Cond.codeWith (yN mL_setTier) (yC mL_setTier) (yL mL_setTier) (yR mL_setTier) (yH mL_setTier) ∈ zGW := zGW_of 1126 (by decide +kernel)
theorem st_L_setTier : Cond.static (yN mL_setTier) ∈ zGW := zGW_of 1125 (by decide +kernel)
theorem np_L_setTier : (yN mL_setTier).cls ≠ "java/lang/invoke/MethodHandle" ∧ (yN mL_setTier).cls ≠ "java/lang/invoke/VarHandle" ∧ (parseMethodDescriptor (yN mL_setTier).desc).map (fun d => d.parameters.length) = some 5 := by decide +kernel
theorem cd_L_undo : Cond.codeWith (yN mL_undo) (yC mL_undo) (yL mL_undo) (yR mL_undo) (yH mL_undo) ∈ zGW := zGW_of 1135 (by decide +kernel)
theorem st_L_undo : Cond.static (yN mL_undo) ∈ zGW := zGW_of 1134 (by decide +kernel)
theorem np_L_undo : (yN mL_undo).cls ≠ "java/lang/invoke/MethodHandle" ∧ (yN mL_undo).cls ≠ "java/lang/invoke/VarHandle" ∧ (parseMethodDescriptor (yN mL_undo).desc).map (fun d => d.parameters.length) = some 2 := by decide +kernel
theorem cd_L_save : Cond.codeWith (yN mL_save) (yC mL_save) (yL mL_save) (yR mL_save) (yH mL_save) ∈ zGW := zGW_of 1146 (by decide +kernel)
theorem st_L_save : Cond.static (yN mL_save) ∈ zGW := zGW_of 1145 (by decide +kernel)
theorem np_L_save : (yN mL_save).cls ≠ "java/lang/invoke/MethodHandle" ∧ (yN mL_save).cls ≠ "java/lang/invoke/VarHandle" ∧ (parseMethodDescriptor (yN mL_save).desc).map (fun d => d.parameters.length) = some 2 := by decide +kernel
theorem cd_L_restore : Cond.codeWith (yN mL_restore) (yC mL_restore) (yL mL_restore) (yR mL_restore) (yH mL_restore) ∈ zGW := zGW_of 1156 (by decide +kernel)
theorem st_L_restore : Cond.static (yN mL_restore) ∈ zGW := zGW_of 1155 (by decide +kernel)
theorem np_L_restore : (yN mL_restore).cls ≠ "java/lang/invoke/MethodHandle" ∧ (yN mL_restore).cls ≠ "java/lang/invoke/VarHandle" ∧ (parseMethodDescriptor (yN mL_restore).desc).map (fun d => d.parameters.length) = some 3 := by decide +kernel
theorem cd_L_writtenByte : Cond.codeWith (yN mL_writtenByte) (yC mL_writtenByte) (yL mL_writtenByte) (yR mL_writtenByte) (yH mL_writtenByte) ∈ zGW := zGW_of 1163 (by decide +kernel)
theorem st_L_writtenByte : Cond.static (yN mL_writtenByte) ∈ zGW := zGW_of 1162 (by decide +kernel)
theorem np_L_writtenByte : (yN mL_writtenByte).cls ≠ "java/lang/invoke/MethodHandle" ∧ (yN mL_writtenByte).cls ≠ "java/lang/invoke/VarHandle" ∧ (parseMethodDescriptor (yN mL_writtenByte).desc).map (fun d => d.parameters.length) = some 3 := by decide +kernel
def mL_law : zMD := (yL_law, cL_law, 9, ret, [])
theorem fw_X4_9 : zfw RX4 9 4 0 := ⟨by decide, by decide, uw_4, rfl, rfl, zGW_of 119 (by decide +kernel)⟩
theorem fw_X8_66 : zfw RX8 66 4 0 := ⟨by decide, by decide, uw_4, rfl, rfl, zGW_of 120 (by decide +kernel)⟩
theorem fw_X4_15 : zfw RX4 15 4 1 := ⟨by decide, by decide, uw_4, rfl, rfl, zGW_of 121 (by decide +kernel)⟩
theorem fw_X8_88 : zfw RX8 88 4 1 := ⟨by decide, by decide, uw_4, rfl, rfl, zGW_of 122 (by decide +kernel)⟩
theorem fw_X4_18 : zfw RX4 18 4 2 := ⟨by decide, by decide, uw_4, rfl, rfl, zGW_of 123 (by decide +kernel)⟩
theorem fw_X4_22 : zfw RX4 22 4 3 := ⟨by decide, by decide, uw_4, rfl, rfl, zGW_of 124 (by decide +kernel)⟩
theorem fw_X4_25 : zfw RX4 25 4 4 := ⟨by decide, by decide, uw_4, rfl, rfl, zGW_of 125 (by decide +kernel)⟩
theorem fw_X4_28 : zfw RX4 28 4 5 := ⟨by decide, by decide, uw_4, rfl, rfl, zGW_of 126 (by decide +kernel)⟩
theorem fw_X4_31 : zfw RX4 31 4 6 := ⟨by decide, by decide, uw_4, rfl, rfl, zGW_of 127 (by decide +kernel)⟩
theorem fw_X4_35 : zfw RX4 35 4 7 := ⟨by decide, by decide, uw_4, rfl, rfl, zGW_of 128 (by decide +kernel)⟩
theorem fw_X7_9 : zfw RX7 9 7 0 := ⟨by decide, by decide, uw_7, rfl, rfl, zGW_of 153 (by decide +kernel)⟩
theorem fw_X8_306 : zfw RX8 306 7 0 := ⟨by decide, by decide, uw_7, rfl, rfl, zGW_of 154 (by decide +kernel)⟩
theorem fw_X7_15 : zfw RX7 15 7 1 := ⟨by decide, by decide, uw_7, rfl, rfl, zGW_of 155 (by decide +kernel)⟩
theorem fw_X8_307 : zfw RX8 307 7 1 := ⟨by decide, by decide, uw_7, rfl, rfl, zGW_of 156 (by decide +kernel)⟩
theorem fw_X3_9 : zfw RX3 9 3 0 := ⟨by decide, by decide, uw_3, rfl, rfl, zGW_of 168 (by decide +kernel)⟩
theorem fw_X8_236 : zfw RX8 236 3 0 := ⟨by decide, by decide, uw_3, rfl, rfl, zGW_of 169 (by decide +kernel)⟩
theorem fw_X3_15 : zfw RX3 15 3 1 := ⟨by decide, by decide, uw_3, rfl, rfl, zGW_of 170 (by decide +kernel)⟩
theorem fw_X8_248 : zfw RX8 248 3 1 := ⟨by decide, by decide, uw_3, rfl, rfl, zGW_of 171 (by decide +kernel)⟩
theorem fw_X3_19 : zfw RX3 19 3 2 := ⟨by decide, by decide, uw_3, rfl, rfl, zGW_of 172 (by decide +kernel)⟩
theorem fw_X8_239 : zfw RX8 239 3 2 := ⟨by decide, by decide, uw_3, rfl, rfl, zGW_of 173 (by decide +kernel)⟩
theorem fw_X3_23 : zfw RX3 23 3 3 := ⟨by decide, by decide, uw_3, rfl, rfl, zGW_of 174 (by decide +kernel)⟩
theorem fw_X8_242 : zfw RX8 242 3 3 := ⟨by decide, by decide, uw_3, rfl, rfl, zGW_of 175 (by decide +kernel)⟩
theorem fw_X3_26 : zfw RX3 26 3 4 := ⟨by decide, by decide, uw_3, rfl, rfl, zGW_of 176 (by decide +kernel)⟩
theorem fw_X8_245 : zfw RX8 245 3 4 := ⟨by decide, by decide, uw_3, rfl, rfl, zGW_of 177 (by decide +kernel)⟩
theorem fw_X3_29 : zfw RX3 29 3 5 := ⟨by decide, by decide, uw_3, rfl, rfl, zGW_of 178 (by decide +kernel)⟩
theorem fw_X3_33 : zfw RX3 33 3 6 := ⟨by decide, by decide, uw_3, rfl, rfl, zGW_of 179 (by decide +kernel)⟩
theorem fw_X3_37 : zfw RX3 37 3 7 := ⟨by decide, by decide, uw_3, rfl, rfl, zGW_of 180 (by decide +kernel)⟩
theorem fw_X3_40 : zfw RX3 40 3 8 := ⟨by decide, by decide, uw_3, rfl, rfl, zGW_of 181 (by decide +kernel)⟩
theorem fw_X3_43 : zfw RX3 43 3 9 := ⟨by decide, by decide, uw_3, rfl, rfl, zGW_of 182 (by decide +kernel)⟩
theorem fw_X3_46 : zfw RX3 46 3 10 := ⟨by decide, by decide, uw_3, rfl, rfl, zGW_of 183 (by decide +kernel)⟩
theorem fw_X3_49 : zfw RX3 49 3 11 := ⟨by decide, by decide, uw_3, rfl, rfl, zGW_of 184 (by decide +kernel)⟩
theorem fw_X2_9 : zfw RX2 9 2 0 := ⟨by decide, by decide, uw_2, rfl, rfl, zGW_of 235 (by decide +kernel)⟩
theorem fw_X5_58 : zfw RX5 58 2 0 := ⟨by decide, by decide, uw_2, rfl, rfl, zGW_of 236 (by decide +kernel)⟩
theorem fw_X8_114 : zfw RX8 114 2 0 := ⟨by decide, by decide, uw_2, rfl, rfl, zGW_of 237 (by decide +kernel)⟩
theorem fw_X2_15 : zfw RX2 15 2 1 := ⟨by decide, by decide, uw_2, rfl, rfl, zGW_of 238 (by decide +kernel)⟩
theorem fw_X6_9 : zfw RX6 9 6 0 := ⟨by decide, by decide, uw_6, rfl, rfl, zGW_of 249 (by decide +kernel)⟩
theorem fw_X7_32 : zfw RX7 32 6 0 := ⟨by decide, by decide, uw_6, rfl, rfl, zGW_of 250 (by decide +kernel)⟩
theorem fw_X5_79 : zfw RX5 79 6 0 := ⟨by decide, by decide, uw_6, rfl, rfl, zGW_of 251 (by decide +kernel)⟩
theorem fw_X6_15 : zfw RX6 15 6 1 := ⟨by decide, by decide, uw_6, rfl, rfl, zGW_of 252 (by decide +kernel)⟩
theorem fw_X3_71 : zfw RX3 71 6 1 := ⟨by decide, by decide, uw_6, rfl, rfl, zGW_of 253 (by decide +kernel)⟩
theorem fw_X5_75 : zfw RX5 75 6 1 := ⟨by decide, by decide, uw_6, rfl, rfl, zGW_of 254 (by decide +kernel)⟩
theorem fw_X8_132 : zfw RX8 132 6 1 := ⟨by decide, by decide, uw_6, rfl, rfl, zGW_of 255 (by decide +kernel)⟩
theorem fw_X4_109 : zfw RX4 109 6 1 := ⟨by decide, by decide, uw_6, rfl, rfl, zGW_of 256 (by decide +kernel)⟩
theorem fw_X6_19 : zfw RX6 19 6 2 := ⟨by decide, by decide, uw_6, rfl, rfl, zGW_of 257 (by decide +kernel)⟩
theorem fw_X5_141 : zfw RX5 141 6 2 := ⟨by decide, by decide, uw_6, rfl, rfl, zGW_of 258 (by decide +kernel)⟩
theorem fw_X0_9 : zfw RX0 9 0 0 := ⟨by decide, by decide, uw_0, rfl, rfl, zGW_of 271 (by decide +kernel)⟩
theorem fw_X7_58 : zfw RX7 58 0 0 := ⟨by decide, by decide, uw_0, rfl, rfl, zGW_of 272 (by decide +kernel)⟩
theorem fw_X5_83 : zfw RX5 83 0 0 := ⟨by decide, by decide, uw_0, rfl, rfl, zGW_of 273 (by decide +kernel)⟩
theorem fw_X0_15 : zfw RX0 15 0 1 := ⟨by decide, by decide, uw_0, rfl, rfl, zGW_of 274 (by decide +kernel)⟩
theorem fw_X3_123 : zfw RX3 123 0 1 := ⟨by decide, by decide, uw_0, rfl, rfl, zGW_of 275 (by decide +kernel)⟩
theorem fw_X8_153 : zfw RX8 153 0 1 := ⟨by decide, by decide, uw_0, rfl, rfl, zGW_of 276 (by decide +kernel)⟩
theorem fw_X5_88 : zfw RX5 88 0 1 := ⟨by decide, by decide, uw_0, rfl, rfl, zGW_of 277 (by decide +kernel)⟩
theorem fw_X0_19 : zfw RX0 19 0 2 := ⟨by decide, by decide, uw_0, rfl, rfl, zGW_of 278 (by decide +kernel)⟩
theorem fw_X3_104 : zfw RX3 104 0 2 := ⟨by decide, by decide, uw_0, rfl, rfl, zGW_of 279 (by decide +kernel)⟩
theorem fw_X7_53 : zfw RX7 53 0 2 := ⟨by decide, by decide, uw_0, rfl, rfl, zGW_of 280 (by decide +kernel)⟩
theorem fw_X8_156 : zfw RX8 156 0 2 := ⟨by decide, by decide, uw_0, rfl, rfl, zGW_of 281 (by decide +kernel)⟩
theorem fw_X5_89 : zfw RX5 89 0 2 := ⟨by decide, by decide, uw_0, rfl, rfl, zGW_of 282 (by decide +kernel)⟩
theorem fw_X0_22 : zfw RX0 22 0 3 := ⟨by decide, by decide, uw_0, rfl, rfl, zGW_of 283 (by decide +kernel)⟩
theorem fw_X8_159 : zfw RX8 159 0 3 := ⟨by decide, by decide, uw_0, rfl, rfl, zGW_of 284 (by decide +kernel)⟩
theorem fw_X5_131 : zfw RX5 131 0 3 := ⟨by decide, by decide, uw_0, rfl, rfl, zGW_of 285 (by decide +kernel)⟩
theorem fw_X0_25 : zfw RX0 25 0 4 := ⟨by decide, by decide, uw_0, rfl, rfl, zGW_of 286 (by decide +kernel)⟩
theorem fw_X8_162 : zfw RX8 162 0 4 := ⟨by decide, by decide, uw_0, rfl, rfl, zGW_of 287 (by decide +kernel)⟩
theorem fw_X0_28 : zfw RX0 28 0 5 := ⟨by decide, by decide, uw_0, rfl, rfl, zGW_of 288 (by decide +kernel)⟩
theorem fw_X8_172 : zfw RX8 172 0 5 := ⟨by decide, by decide, uw_0, rfl, rfl, zGW_of 289 (by decide +kernel)⟩
theorem fw_X0_31 : zfw RX0 31 0 6 := ⟨by decide, by decide, uw_0, rfl, rfl, zGW_of 290 (by decide +kernel)⟩
theorem fw_X8_199 : zfw RX8 199 0 6 := ⟨by decide, by decide, uw_0, rfl, rfl, zGW_of 291 (by decide +kernel)⟩
theorem fw_X0_34 : zfw RX0 34 0 7 := ⟨by decide, by decide, uw_0, rfl, rfl, zGW_of 292 (by decide +kernel)⟩
theorem fw_X8_169 : zfw RX8 169 0 7 := ⟨by decide, by decide, uw_0, rfl, rfl, zGW_of 293 (by decide +kernel)⟩
theorem fw_X0_37 : zfw RX0 37 0 8 := ⟨by decide, by decide, uw_0, rfl, rfl, zGW_of 294 (by decide +kernel)⟩
theorem fw_X8_190 : zfw RX8 190 0 8 := ⟨by decide, by decide, uw_0, rfl, rfl, zGW_of 295 (by decide +kernel)⟩
theorem fw_X0_41 : zfw RX0 41 0 9 := ⟨by decide, by decide, uw_0, rfl, rfl, zGW_of 296 (by decide +kernel)⟩
theorem fw_X8_187 : zfw RX8 187 0 9 := ⟨by decide, by decide, uw_0, rfl, rfl, zGW_of 297 (by decide +kernel)⟩
theorem fw_X5_110 : zfw RX5 110 0 9 := ⟨by decide, by decide, uw_0, rfl, rfl, zGW_of 298 (by decide +kernel)⟩
theorem fw_X5_9 : zfw RX5 9 5 0 := ⟨by decide, by decide, uw_5, rfl, rfl, zGW_of 320 (by decide +kernel)⟩
theorem fw_X8_91 : zfw RX8 91 5 0 := ⟨by decide, by decide, uw_5, rfl, rfl, zGW_of 321 (by decide +kernel)⟩
theorem fw_X5_15 : zfw RX5 15 5 1 := ⟨by decide, by decide, uw_5, rfl, rfl, zGW_of 322 (by decide +kernel)⟩
theorem fw_X8_94 : zfw RX8 94 5 1 := ⟨by decide, by decide, uw_5, rfl, rfl, zGW_of 323 (by decide +kernel)⟩
theorem fw_X5_18 : zfw RX5 18 5 2 := ⟨by decide, by decide, uw_5, rfl, rfl, zGW_of 324 (by decide +kernel)⟩
theorem fw_X3_84 : zfw RX3 84 5 2 := ⟨by decide, by decide, uw_5, rfl, rfl, zGW_of 325 (by decide +kernel)⟩
theorem fw_X8_103 : zfw RX8 103 5 2 := ⟨by decide, by decide, uw_5, rfl, rfl, zGW_of 326 (by decide +kernel)⟩
theorem fw_X5_21 : zfw RX5 21 5 3 := ⟨by decide, by decide, uw_5, rfl, rfl, zGW_of 327 (by decide +kernel)⟩
theorem fw_X7_19 : zfw RX7 19 5 3 := ⟨by decide, by decide, uw_5, rfl, rfl, zGW_of 328 (by decide +kernel)⟩
theorem fw_X3_64 : zfw RX3 64 5 3 := ⟨by decide, by decide, uw_5, rfl, rfl, zGW_of 329 (by decide +kernel)⟩
theorem fw_X8_97 : zfw RX8 97 5 3 := ⟨by decide, by decide, uw_5, rfl, rfl, zGW_of 330 (by decide +kernel)⟩
theorem fw_X4_81 : zfw RX4 81 5 3 := ⟨by decide, by decide, uw_5, rfl, rfl, zGW_of 331 (by decide +kernel)⟩
theorem fw_X5_24 : zfw RX5 24 5 4 := ⟨by decide, by decide, uw_5, rfl, rfl, zGW_of 332 (by decide +kernel)⟩
theorem fw_X3_52 : zfw RX3 52 5 4 := ⟨by decide, by decide, uw_5, rfl, rfl, zGW_of 333 (by decide +kernel)⟩
theorem fw_X4_48 : zfw RX4 48 5 4 := ⟨by decide, by decide, uw_5, rfl, rfl, zGW_of 334 (by decide +kernel)⟩
theorem fw_X7_46 : zfw RX7 46 5 4 := ⟨by decide, by decide, uw_5, rfl, rfl, zGW_of 335 (by decide +kernel)⟩
theorem fw_X8_100 : zfw RX8 100 5 4 := ⟨by decide, by decide, uw_5, rfl, rfl, zGW_of 336 (by decide +kernel)⟩
theorem fw_X5_29 : zfw RX5 29 5 5 := ⟨by decide, by decide, uw_5, rfl, rfl, zGW_of 337 (by decide +kernel)⟩
theorem fw_X7_28 : zfw RX7 28 5 5 := ⟨by decide, by decide, uw_5, rfl, rfl, zGW_of 338 (by decide +kernel)⟩
theorem fw_X3_67 : zfw RX3 67 5 5 := ⟨by decide, by decide, uw_5, rfl, rfl, zGW_of 339 (by decide +kernel)⟩
theorem fw_X8_128 : zfw RX8 128 5 5 := ⟨by decide, by decide, uw_5, rfl, rfl, zGW_of 340 (by decide +kernel)⟩
theorem fw_X4_105 : zfw RX4 105 5 5 := ⟨by decide, by decide, uw_5, rfl, rfl, zGW_of 341 (by decide +kernel)⟩
theorem fw_X5_35 : zfw RX5 35 5 6 := ⟨by decide, by decide, uw_5, rfl, rfl, zGW_of 342 (by decide +kernel)⟩
theorem fw_X3_80 : zfw RX3 80 5 6 := ⟨by decide, by decide, uw_5, rfl, rfl, zGW_of 343 (by decide +kernel)⟩
theorem fw_X7_49 : zfw RX7 49 5 6 := ⟨by decide, by decide, uw_5, rfl, rfl, zGW_of 344 (by decide +kernel)⟩
theorem fw_X8_149 : zfw RX8 149 5 6 := ⟨by decide, by decide, uw_5, rfl, rfl, zGW_of 345 (by decide +kernel)⟩
theorem fw_X5_42 : zfw RX5 42 5 7 := ⟨by decide, by decide, uw_5, rfl, rfl, zGW_of 346 (by decide +kernel)⟩
theorem fw_X8_110 : zfw RX8 110 5 7 := ⟨by decide, by decide, uw_5, rfl, rfl, zGW_of 347 (by decide +kernel)⟩
theorem fw_X1_9 : zfw RX1 9 1 0 := ⟨by decide, by decide, uw_1, rfl, rfl, zGW_of 365 (by decide +kernel)⟩
theorem fw_X8_296 : zfw RX8 296 1 0 := ⟨by decide, by decide, uw_1, rfl, rfl, zGW_of 366 (by decide +kernel)⟩
theorem fw_X1_15 : zfw RX1 15 1 1 := ⟨by decide, by decide, uw_1, rfl, rfl, zGW_of 367 (by decide +kernel)⟩
theorem fw_X1_20 : zfw RX1 20 1 2 := ⟨by decide, by decide, uw_1, rfl, rfl, zGW_of 368 (by decide +kernel)⟩
theorem fw_X8_10 : zfw RX8 10 8 0 := ⟨by decide, by decide, uw_8, rfl, rfl, zGW_of 397 (by decide +kernel)⟩
theorem fw_X8_19 : zfw RX8 19 8 1 := ⟨by decide, by decide, uw_8, rfl, rfl, zGW_of 398 (by decide +kernel)⟩
theorem fw_X8_26 : zfw RX8 26 8 2 := ⟨by decide, by decide, uw_8, rfl, rfl, zGW_of 399 (by decide +kernel)⟩
theorem fw_X8_33 : zfw RX8 33 8 3 := ⟨by decide, by decide, uw_8, rfl, rfl, zGW_of 400 (by decide +kernel)⟩
theorem fw_X8_40 : zfw RX8 40 8 4 := ⟨by decide, by decide, uw_8, rfl, rfl, zGW_of 401 (by decide +kernel)⟩
theorem fw_X8_44 : zfw RX8 44 8 5 := ⟨by decide, by decide, uw_8, rfl, rfl, zGW_of 402 (by decide +kernel)⟩
theorem fw_X8_47 : zfw RX8 47 8 6 := ⟨by decide, by decide, uw_8, rfl, rfl, zGW_of 403 (by decide +kernel)⟩
theorem fw_X8_51 : zfw RX8 51 8 7 := ⟨by decide, by decide, uw_8, rfl, rfl, zGW_of 404 (by decide +kernel)⟩
theorem fw_X8_55 : zfw RX8 55 8 8 := ⟨by decide, by decide, uw_8, rfl, rfl, zGW_of 405 (by decide +kernel)⟩
theorem fw_X9_7 : zfw RX9 7 9 0 := ⟨by decide, by decide, uw_9, rfl, rfl, zGW_of 1184 (by decide +kernel)⟩
theorem fw_X9_13 : zfw RX9 13 9 1 := ⟨by decide, by decide, uw_9, rfl, rfl, zGW_of 1185 (by decide +kernel)⟩
theorem fw_X9_16 : zfw RX9 16 9 2 := ⟨by decide, by decide, uw_9, rfl, rfl, zGW_of 1186 (by decide +kernel)⟩
theorem fw_X9_19 : zfw RX9 19 9 3 := ⟨by decide, by decide, uw_9, rfl, rfl, zGW_of 1187 (by decide +kernel)⟩
theorem fw_X9_22 : zfw RX9 22 9 4 := ⟨by decide, by decide, uw_9, rfl, rfl, zGW_of 1188 (by decide +kernel)⟩
theorem fw_X9_72 : zfw RX9 72 9 5 := ⟨by decide, by decide, uw_9, rfl, rfl, zGW_of 1189 (by decide +kernel)⟩
theorem fw_X9_69 : zfw RX9 69 9 6 := ⟨by decide, by decide, uw_9, rfl, rfl, zGW_of 1190 (by decide +kernel)⟩
theorem fw_X9_26 : zfw RX9 26 9 7 := ⟨by decide, by decide, uw_9, rfl, rfl, zGW_of 1191 (by decide +kernel)⟩
theorem fw_X9_95 : zfw RX9 95 9 8 := ⟨by decide, by decide, uw_9, rfl, rfl, zGW_of 1192 (by decide +kernel)⟩
theorem fw_X9_104 : zfw RX9 104 9 9 := ⟨by decide, by decide, uw_9, rfl, rfl, zGW_of 1193 (by decide +kernel)⟩
theorem fw_X9_101 : zfw RX9 101 9 10 := ⟨by decide, by decide, uw_9, rfl, rfl, zGW_of 1194 (by decide +kernel)⟩
theorem fw_X9_110 : zfw RX9 110 9 11 := ⟨by decide, by decide, uw_9, rfl, rfl, zGW_of 1195 (by decide +kernel)⟩
theorem fw_X9_107 : zfw RX9 107 9 12 := ⟨by decide, by decide, uw_9, rfl, rfl, zGW_of 1196 (by decide +kernel)⟩
theorem fw_X9_127 : zfw RX9 127 9 13 := ⟨by decide, by decide, uw_9, rfl, rfl, zGW_of 1197 (by decide +kernel)⟩
theorem fw_X9_140 : zfw RX9 140 9 14 := ⟨by decide, by decide, uw_9, rfl, rfl, zGW_of 1198 (by decide +kernel)⟩
theorem fw_X9_30 : zfw RX9 30 9 15 := ⟨by decide, by decide, uw_9, rfl, rfl, zGW_of 1199 (by decide +kernel)⟩
theorem fw_X9_34 : zfw RX9 34 9 16 := ⟨by decide, by decide, uw_9, rfl, rfl, zGW_of 1200 (by decide +kernel)⟩
theorem fw_X9_37 : zfw RX9 37 9 17 := ⟨by decide, by decide, uw_9, rfl, rfl, zGW_of 1201 (by decide +kernel)⟩
theorem fw_X9_40 : zfw RX9 40 9 18 := ⟨by decide, by decide, uw_9, rfl, rfl, zGW_of 1202 (by decide +kernel)⟩
theorem fw_X9_43 : zfw RX9 43 9 19 := ⟨by decide, by decide, uw_9, rfl, rfl, zGW_of 1203 (by decide +kernel)⟩
theorem fw_X9_46 : zfw RX9 46 9 20 := ⟨by decide, by decide, uw_9, rfl, rfl, zGW_of 1204 (by decide +kernel)⟩
theorem fw_X9_49 : zfw RX9 49 9 21 := ⟨by decide, by decide, uw_9, rfl, rfl, zGW_of 1205 (by decide +kernel)⟩
theorem fw_X9_52 : zfw RX9 52 9 22 := ⟨by decide, by decide, uw_9, rfl, rfl, zGW_of 1206 (by decide +kernel)⟩
theorem fw_X9_300 : zfw RX9 300 9 23 := ⟨by decide, by decide, uw_9, rfl, rfl, zGW_of 1207 (by decide +kernel)⟩
theorem fw_X9_278 : zfw RX9 278 9 24 := ⟨by decide, by decide, uw_9, rfl, rfl, zGW_of 1208 (by decide +kernel)⟩
theorem fw_X9_281 : zfw RX9 281 9 25 := ⟨by decide, by decide, uw_9, rfl, rfl, zGW_of 1209 (by decide +kernel)⟩
theorem fw_X9_284 : zfw RX9 284 9 26 := ⟨by decide, by decide, uw_9, rfl, rfl, zGW_of 1210 (by decide +kernel)⟩
theorem fw_X9_303 : zfw RX9 303 9 27 := ⟨by decide, by decide, uw_9, rfl, rfl, zGW_of 1211 (by decide +kernel)⟩
theorem fw_X9_274 : zfw RX9 274 9 28 := ⟨by decide, by decide, uw_9, rfl, rfl, zGW_of 1212 (by decide +kernel)⟩
theorem fw_X9_345 : zfw RX9 345 9 29 := ⟨by decide, by decide, uw_9, rfl, rfl, zGW_of 1213 (by decide +kernel)⟩
theorem fw_X9_55 : zfw RX9 55 9 30 := ⟨by decide, by decide, uw_9, rfl, rfl, zGW_of 1214 (by decide +kernel)⟩
theorem fw_X9_351 : zfw RX9 351 9 31 := ⟨by decide, by decide, uw_9, rfl, rfl, zGW_of 1215 (by decide +kernel)⟩
theorem pw_0_0 : zpw 0 0 .long false := ⟨⟨tyX0, by decide +kernel⟩, by decide +kernel, by decide, by decide +kernel⟩
theorem pw_0_1 : zpw 0 1 .int false := ⟨⟨tyX0, by decide +kernel⟩, by decide +kernel, by decide, by decide +kernel⟩
theorem pw_0_2 : zpw 0 2 .int false := ⟨⟨tyX0, by decide +kernel⟩, by decide +kernel, by decide, by decide +kernel⟩
theorem pw_0_3 : zpw 0 3 .int false := ⟨⟨tyX0, by decide +kernel⟩, by decide +kernel, by decide, by decide +kernel⟩
theorem pw_0_4 : zpw 0 4 .int false := ⟨⟨tyX0, by decide +kernel⟩, by decide +kernel, by decide, by decide +kernel⟩
theorem pw_0_5 : zpw 0 5 .int false := ⟨⟨tyX0, by decide +kernel⟩, by decide +kernel, by decide, by decide +kernel⟩
theorem pw_0_6 : zpw 0 6 .long false := ⟨⟨tyX0, by decide +kernel⟩, by decide +kernel, by decide, by decide +kernel⟩
theorem pw_0_7 : zpw 0 7 .int false := ⟨⟨tyX0, by decide +kernel⟩, by decide +kernel, by decide, by decide +kernel⟩
theorem pw_0_8 : zpw 0 8 (.array .int) true := ⟨⟨tyX0, by decide +kernel⟩, by decide +kernel, by decide, by decide +kernel⟩
theorem pw_0_9 : zpw 0 9 (.array .int) true := ⟨⟨tyX0, by decide +kernel⟩, by decide +kernel, by decide, by decide +kernel⟩
theorem pw_1_0 : zpw 1 0 .int false := ⟨⟨tyX1, by decide +kernel⟩, by decide +kernel, by decide, by decide +kernel⟩
theorem pw_1_1 : zpw 1 1 .int false := ⟨⟨tyX1, by decide +kernel⟩, by decide +kernel, by decide, by decide +kernel⟩
theorem pw_1_2 : zpw 1 2 (.array (.object "SeasonTiers$Store")) true := ⟨⟨tyX1, by decide +kernel⟩, by decide +kernel, by decide, by decide +kernel⟩
theorem pw_2_0 : zpw 2 0 .int false := ⟨⟨tyX2, by decide +kernel⟩, by decide +kernel, by decide, by decide +kernel⟩
theorem pw_2_1 : zpw 2 1 (.array .int) true := ⟨⟨tyX2, by decide +kernel⟩, by decide +kernel, by decide, by decide +kernel⟩
theorem pw_3_0 : zpw 3 0 .int false := ⟨⟨tyX3, by decide +kernel⟩, by decide +kernel, by decide, by decide +kernel⟩
theorem pw_3_1 : zpw 3 1 .long false := ⟨⟨tyX3, by decide +kernel⟩, by decide +kernel, by decide, by decide +kernel⟩
theorem pw_3_2 : zpw 3 2 (.array .int) true := ⟨⟨tyX3, by decide +kernel⟩, by decide +kernel, by decide, by decide +kernel⟩
theorem pw_3_3 : zpw 3 3 (.array .int) true := ⟨⟨tyX3, by decide +kernel⟩, by decide +kernel, by decide, by decide +kernel⟩
theorem pw_3_4 : zpw 3 4 (.array .int) true := ⟨⟨tyX3, by decide +kernel⟩, by decide +kernel, by decide, by decide +kernel⟩
theorem pw_3_5 : zpw 3 5 (.array .long) true := ⟨⟨tyX3, by decide +kernel⟩, by decide +kernel, by decide, by decide +kernel⟩
theorem pw_3_6 : zpw 3 6 (.array .boolean) true := ⟨⟨tyX3, by decide +kernel⟩, by decide +kernel, by decide, by decide +kernel⟩
theorem pw_3_7 : zpw 3 7 (.array .int) true := ⟨⟨tyX3, by decide +kernel⟩, by decide +kernel, by decide, by decide +kernel⟩
theorem pw_3_8 : zpw 3 8 .int false := ⟨⟨tyX3, by decide +kernel⟩, by decide +kernel, by decide, by decide +kernel⟩
theorem pw_3_9 : zpw 3 9 .int false := ⟨⟨tyX3, by decide +kernel⟩, by decide +kernel, by decide, by decide +kernel⟩
theorem pw_3_10 : zpw 3 10 .int false := ⟨⟨tyX3, by decide +kernel⟩, by decide +kernel, by decide, by decide +kernel⟩
theorem pw_3_11 : zpw 3 11 .long false := ⟨⟨tyX3, by decide +kernel⟩, by decide +kernel, by decide, by decide +kernel⟩
theorem pw_4_0 : zpw 4 0 .int false := ⟨⟨tyX4, by decide +kernel⟩, by decide +kernel, by decide, by decide +kernel⟩
theorem pw_4_1 : zpw 4 1 .int false := ⟨⟨tyX4, by decide +kernel⟩, by decide +kernel, by decide, by decide +kernel⟩
theorem pw_4_2 : zpw 4 2 (.array .int) true := ⟨⟨tyX4, by decide +kernel⟩, by decide +kernel, by decide, by decide +kernel⟩
theorem pw_4_3 : zpw 4 3 .int false := ⟨⟨tyX4, by decide +kernel⟩, by decide +kernel, by decide, by decide +kernel⟩
theorem pw_4_4 : zpw 4 4 .int false := ⟨⟨tyX4, by decide +kernel⟩, by decide +kernel, by decide, by decide +kernel⟩
theorem pw_4_5 : zpw 4 5 .int false := ⟨⟨tyX4, by decide +kernel⟩, by decide +kernel, by decide, by decide +kernel⟩
theorem pw_4_6 : zpw 4 6 .long false := ⟨⟨tyX4, by decide +kernel⟩, by decide +kernel, by decide, by decide +kernel⟩
theorem pw_4_7 : zpw 4 7 .int false := ⟨⟨tyX4, by decide +kernel⟩, by decide +kernel, by decide, by decide +kernel⟩
theorem pw_5_0 : zpw 5 0 .int false := ⟨⟨tyX5, by decide +kernel⟩, by decide +kernel, by decide, by decide +kernel⟩
theorem pw_5_1 : zpw 5 1 .int false := ⟨⟨tyX5, by decide +kernel⟩, by decide +kernel, by decide, by decide +kernel⟩
theorem pw_5_2 : zpw 5 2 .int false := ⟨⟨tyX5, by decide +kernel⟩, by decide +kernel, by decide, by decide +kernel⟩
theorem pw_5_3 : zpw 5 3 .int false := ⟨⟨tyX5, by decide +kernel⟩, by decide +kernel, by decide, by decide +kernel⟩
theorem pw_5_4 : zpw 5 4 .int false := ⟨⟨tyX5, by decide +kernel⟩, by decide +kernel, by decide, by decide +kernel⟩
theorem pw_5_5 : zpw 5 5 (.array (.object "SeasonTiers$TierRow")) true := ⟨⟨tyX5, by decide +kernel⟩, by decide +kernel, by decide, by decide +kernel⟩
theorem pw_5_6 : zpw 5 6 (.array (.object "SeasonTiers$FileRow")) true := ⟨⟨tyX5, by decide +kernel⟩, by decide +kernel, by decide, by decide +kernel⟩
theorem pw_5_7 : zpw 5 7 (.object "SeasonTiers$Moves") true := ⟨⟨tyX5, by decide +kernel⟩, by decide +kernel, by decide, by decide +kernel⟩
theorem pw_6_0 : zpw 6 0 .long false := ⟨⟨tyX6, by decide +kernel⟩, by decide +kernel, by decide, by decide +kernel⟩
theorem pw_6_1 : zpw 6 1 (.array .int) true := ⟨⟨tyX6, by decide +kernel⟩, by decide +kernel, by decide, by decide +kernel⟩
theorem pw_6_2 : zpw 6 2 (.array .long) true := ⟨⟨tyX6, by decide +kernel⟩, by decide +kernel, by decide, by decide +kernel⟩
theorem pw_7_0 : zpw 7 0 .int false := ⟨⟨tyX7, by decide +kernel⟩, by decide +kernel, by decide, by decide +kernel⟩
theorem pw_7_1 : zpw 7 1 (.array .int) true := ⟨⟨tyX7, by decide +kernel⟩, by decide +kernel, by decide, by decide +kernel⟩
theorem pw_8_0 : zpw 8 0 (.object "SeasonTiers$Reader") true := ⟨⟨tyX8, by decide +kernel⟩, by decide +kernel, by decide, by decide +kernel⟩
theorem pw_8_1 : zpw 8 1 (.object "SeasonTiers$Writer") true := ⟨⟨tyX8, by decide +kernel⟩, by decide +kernel, by decide, by decide +kernel⟩
theorem pw_8_2 : zpw 8 2 (.object "SeasonTiers$Planner") true := ⟨⟨tyX8, by decide +kernel⟩, by decide +kernel, by decide, by decide +kernel⟩
theorem pw_8_3 : zpw 8 3 (.object "SeasonTiers$History") true := ⟨⟨tyX8, by decide +kernel⟩, by decide +kernel, by decide, by decide +kernel⟩
theorem pw_8_4 : zpw 8 4 (.object "SeasonTiers$Store") true := ⟨⟨tyX8, by decide +kernel⟩, by decide +kernel, by decide, by decide +kernel⟩
theorem pw_8_5 : zpw 8 5 (.object "SeasonTiers$Store") true := ⟨⟨tyX8, by decide +kernel⟩, by decide +kernel, by decide, by decide +kernel⟩
theorem pw_8_6 : zpw 8 6 (.array (.object "SeasonTiers$Store")) true := ⟨⟨tyX8, by decide +kernel⟩, by decide +kernel, by decide, by decide +kernel⟩
theorem pw_8_7 : zpw 8 7 (.array .boolean) true := ⟨⟨tyX8, by decide +kernel⟩, by decide +kernel, by decide, by decide +kernel⟩
theorem pw_8_8 : zpw 8 8 (.array .int) true := ⟨⟨tyX8, by decide +kernel⟩, by decide +kernel, by decide, by decide +kernel⟩
theorem pw_9_0 : zpw 9 0 (.array .long) true := ⟨⟨tyX9, by decide +kernel⟩, by decide +kernel, by decide, by decide +kernel⟩
theorem pw_9_1 : zpw 9 1 (.array .long) true := ⟨⟨tyX9, by decide +kernel⟩, by decide +kernel, by decide, by decide +kernel⟩
theorem pw_9_2 : zpw 9 2 (.array .long) true := ⟨⟨tyX9, by decide +kernel⟩, by decide +kernel, by decide, by decide +kernel⟩
theorem pw_9_3 : zpw 9 3 (.array .long) true := ⟨⟨tyX9, by decide +kernel⟩, by decide +kernel, by decide, by decide +kernel⟩
theorem pw_9_4 : zpw 9 4 (.array .boolean) true := ⟨⟨tyX9, by decide +kernel⟩, by decide +kernel, by decide, by decide +kernel⟩
theorem pw_9_5 : zpw 9 5 .int false := ⟨⟨tyX9, by decide +kernel⟩, by decide +kernel, by decide, by decide +kernel⟩
theorem pw_9_6 : zpw 9 6 .int false := ⟨⟨tyX9, by decide +kernel⟩, by decide +kernel, by decide, by decide +kernel⟩
theorem pw_9_7 : zpw 9 7 (.array .int) true := ⟨⟨tyX9, by decide +kernel⟩, by decide +kernel, by decide, by decide +kernel⟩
theorem pw_9_8 : zpw 9 8 .int false := ⟨⟨tyX9, by decide +kernel⟩, by decide +kernel, by decide, by decide +kernel⟩
theorem pw_9_9 : zpw 9 9 .int false := ⟨⟨tyX9, by decide +kernel⟩, by decide +kernel, by decide, by decide +kernel⟩
theorem pw_9_10 : zpw 9 10 .int false := ⟨⟨tyX9, by decide +kernel⟩, by decide +kernel, by decide, by decide +kernel⟩
theorem pw_9_11 : zpw 9 11 .int false := ⟨⟨tyX9, by decide +kernel⟩, by decide +kernel, by decide, by decide +kernel⟩
theorem pw_9_12 : zpw 9 12 .int false := ⟨⟨tyX9, by decide +kernel⟩, by decide +kernel, by decide, by decide +kernel⟩
theorem pw_9_13 : zpw 9 13 .int false := ⟨⟨tyX9, by decide +kernel⟩, by decide +kernel, by decide, by decide +kernel⟩
theorem pw_9_14 : zpw 9 14 .int false := ⟨⟨tyX9, by decide +kernel⟩, by decide +kernel, by decide, by decide +kernel⟩
theorem pw_9_15 : zpw 9 15 .int false := ⟨⟨tyX9, by decide +kernel⟩, by decide +kernel, by decide, by decide +kernel⟩
theorem pw_9_16 : zpw 9 16 (.array .int) true := ⟨⟨tyX9, by decide +kernel⟩, by decide +kernel, by decide, by decide +kernel⟩
theorem pw_9_17 : zpw 9 17 (.array .int) true := ⟨⟨tyX9, by decide +kernel⟩, by decide +kernel, by decide, by decide +kernel⟩
theorem pw_9_18 : zpw 9 18 (.array .int) true := ⟨⟨tyX9, by decide +kernel⟩, by decide +kernel, by decide, by decide +kernel⟩
theorem pw_9_19 : zpw 9 19 (.array .int) true := ⟨⟨tyX9, by decide +kernel⟩, by decide +kernel, by decide, by decide +kernel⟩
theorem pw_9_20 : zpw 9 20 (.array .boolean) true := ⟨⟨tyX9, by decide +kernel⟩, by decide +kernel, by decide, by decide +kernel⟩
theorem pw_9_21 : zpw 9 21 (.array .int) true := ⟨⟨tyX9, by decide +kernel⟩, by decide +kernel, by decide, by decide +kernel⟩
theorem pw_9_22 : zpw 9 22 (.array .long) true := ⟨⟨tyX9, by decide +kernel⟩, by decide +kernel, by decide, by decide +kernel⟩
theorem pw_9_23 : zpw 9 23 .int false := ⟨⟨tyX9, by decide +kernel⟩, by decide +kernel, by decide, by decide +kernel⟩
theorem pw_9_24 : zpw 9 24 .int false := ⟨⟨tyX9, by decide +kernel⟩, by decide +kernel, by decide, by decide +kernel⟩
theorem pw_9_25 : zpw 9 25 .int false := ⟨⟨tyX9, by decide +kernel⟩, by decide +kernel, by decide, by decide +kernel⟩
theorem pw_9_26 : zpw 9 26 .int false := ⟨⟨tyX9, by decide +kernel⟩, by decide +kernel, by decide, by decide +kernel⟩
theorem pw_9_27 : zpw 9 27 .long false := ⟨⟨tyX9, by decide +kernel⟩, by decide +kernel, by decide, by decide +kernel⟩
theorem pw_9_28 : zpw 9 28 .long false := ⟨⟨tyX9, by decide +kernel⟩, by decide +kernel, by decide, by decide +kernel⟩
theorem pw_9_29 : zpw 9 29 .int false := ⟨⟨tyX9, by decide +kernel⟩, by decide +kernel, by decide, by decide +kernel⟩
theorem pw_9_30 : zpw 9 30 (.array .int) true := ⟨⟨tyX9, by decide +kernel⟩, by decide +kernel, by decide, by decide +kernel⟩
theorem pw_9_31 : zpw 9 31 .int false := ⟨⟨tyX9, by decide +kernel⟩, by decide +kernel, by decide, by decide +kernel⟩
theorem cw_L_108 : zci RL 108 mX8_init 0 := ⟨zGW_of 107 (by decide +kernel), im_X8_init, iw_X8_init, cd_X8_init, rfl, rfl, np_X8_init⟩
theorem cw_X8_9 : zciN RX8 9 mX4_init "SeasonTiers" 0 := ⟨zin_nw 115 (by decide +kernel), im_X4_init, iw_X4_init, cd_X4_init, rfl, rfl, np_X4_init⟩
theorem cw_X8_18 : zciN RX8 18 mX7_init "SeasonTiers" 0 := ⟨zin_nw 149 (by decide +kernel), im_X7_init, iw_X7_init, cd_X7_init, rfl, rfl, np_X7_init⟩
theorem cw_X8_25 : zciN RX8 25 mX3_init "SeasonTiers" 0 := ⟨zin_nw 164 (by decide +kernel), im_X3_init, iw_X3_init, cd_X3_init, rfl, rfl, np_X3_init⟩
theorem cw_X8_32 : zci RX8 32 mX1_init 0 := ⟨zGW_of 214 (by decide +kernel), im_X1_init, iw_X1_init, cd_X1_init, rfl, rfl, np_X1_init⟩
theorem cw_X1_24 : zci RX1 24 mX5_init 0 := ⟨zGW_of 221 (by decide +kernel), im_X5_init, iw_X5_init, cd_X5_init, rfl, rfl, np_X5_init⟩
theorem cw_X5_41 : zciN RX5 41 mX2_init "SeasonTiers" 0 := ⟨zin_nw 231 (by decide +kernel), im_X2_init, iw_X2_init, cd_X2_init, rfl, rfl, np_X2_init⟩
theorem cw_X5_46 : zciN RX5 46 mX6_init "SeasonTiers" 0 := ⟨zin_nw 245 (by decide +kernel), im_X6_init, iw_X6_init, cd_X6_init, rfl, rfl, np_X6_init⟩
theorem cw_X5_47 : zciN RX5 47 mX0_init "SeasonTiers" 0 := ⟨zin_nw 267 (by decide +kernel), im_X0_init, iw_X0_init, cd_X0_init, rfl, rfl, np_X0_init⟩
theorem cw_X8_39 : zci RX8 39 mX5_init 0 := ⟨zGW_of 377 (by decide +kernel), im_X5_init, iw_X5_init, cd_X5_init, rfl, rfl, np_X5_init⟩
theorem cw_X8_59 : zcv RX8 59 mX5_startAsNew 0 := ⟨zGW_of 378 (by decide +kernel), im_X5_startAsNew, sl_X5_startAsNew, iw_X5_init, cd_X5_startAsNew, np_X5_startAsNew⟩
theorem cw_X5_61 : zcv RX5 61 mX5_startAs 2 := ⟨zGW_of 382 (by decide +kernel), im_X5_startAs, sl_X5_startAs, iw_X5_init, cd_X5_startAs, np_X5_startAs⟩
theorem cw_X5_65 : zcs RX5 65 mX7_withLetter 2 := ⟨zGW_of 386 (by decide +kernel), st_X7_withLetter, iw_X7_init, cd_X7_withLetter, np_X7_withLetter⟩
theorem cw_X5_71 : zcv RX5 71 mX5_putTier 1 := ⟨zGW_of 389 (by decide +kernel), im_X5_putTier, sl_X5_putTier, iw_X5_init, cd_X5_putTier, np_X5_putTier⟩
theorem cw_X5_115 : zcv RX5 115 mX6_startAs 1 := ⟨zGW_of 393 (by decide +kernel), im_X6_startAs, sl_X6_startAs, iw_X6_init, cd_X6_startAs, np_X6_startAs⟩
theorem cw_L_121 : zcv RL 121 mX8_load 0 := ⟨zGW_of 425 (by decide +kernel), im_X8_load, sl_X8_load, iw_X8_init, cd_X8_load, np_X8_load⟩
theorem cw_X8_77 : zcv RX8 77 mX4_readStore 1 := ⟨zGW_of 429 (by decide +kernel), im_X4_readStore, sl_X4_readStore, iw_X4_init, cd_X4_readStore, np_X4_readStore⟩
theorem cw_X4_38 : zcv RX4 38 mX4_readHead 1 := ⟨zGW_of 433 (by decide +kernel), im_X4_readHead, sl_X4_readHead, iw_X4_init, cd_X4_readHead, np_X4_readHead⟩
theorem cw_X4_55 : zcv RX4 55 mX4_passWord 1 := ⟨zGW_of 438 (by decide +kernel), im_X4_passWord, sl_X4_passWord, iw_X4_init, cd_X4_passWord, np_X4_passWord⟩
theorem cw_X4_65 : zcv RX4 65 mX4_nextIsWord 1 := ⟨zGW_of 442 (by decide +kernel), im_X4_nextIsWord, sl_X4_nextIsWord, iw_X4_init, cd_X4_nextIsWord, np_X4_nextIsWord⟩
theorem cw_X4_114 : zcv RX4 114 mX4_nextByte 0 := ⟨zGW_of 446 (by decide +kernel), im_X4_nextByte, sl_X4_nextByte, iw_X4_init, cd_X4_nextByte, np_X4_nextByte⟩
theorem cw_X4_137 : zcv RX4 137 mX4_endOfWord 0 := ⟨zGW_of 450 (by decide +kernel), im_X4_endOfWord, sl_X4_endOfWord, iw_X4_init, cd_X4_endOfWord, np_X4_endOfWord⟩
theorem cw_X4_151 : zcv RX4 151 mJ0_length_8abf5 0 := ⟨zGW_of 454 (by decide +kernel), im_J0_length_8abf5, sl_J0_length_8abf5, iw_J0_length_8abf5, cd_J0_length_8abf5, np_J0_length_8abf5⟩
theorem cw_J0_335 : zcv RJ0 335 mJ0_coder_7d493 0 := ⟨zGW_of 458 (by decide +kernel), im_J0_coder_7d493, sl_J0_coder_7d493, iw_J0_length_8abf5, cd_J0_coder_7d493, np_J0_coder_7d493⟩
theorem cw_X4_155 : zcv RX4 155 mJ0_charAt_5068e 1 := ⟨zGW_of 464 (by decide +kernel), im_J0_charAt_5068e, sl_J0_charAt_5068e, iw_J0_length_8abf5, cd_J0_charAt_5068e, np_J0_charAt_5068e⟩
theorem cw_J0_492 : zcv RJ0 492 mJ0_isLatin1_aae02 0 := ⟨zGW_of 468 (by decide +kernel), im_J0_isLatin1_aae02, sl_J0_isLatin1_aae02, iw_J0_length_8abf5, cd_J0_isLatin1_aae02, np_J0_isLatin1_aae02⟩
theorem cw_J0_495 : zcs RJ0 495 mJ1_charAt_3b067 2 := ⟨zGW_of 472 (by decide +kernel), st_J1_charAt_3b067, iw_J1_charAt_3b067, cd_J1_charAt_3b067, np_J1_charAt_3b067⟩
theorem cw_J1_9 : zcs RJ1 9 mJ0_checkIndex_df160 2 := ⟨zGW_of 475 (by decide +kernel), st_J0_checkIndex_df160, iw_J0_length_8abf5, cd_J0_checkIndex_df160, np_J0_checkIndex_df160⟩
theorem cw_J0_1059 : zcs RJ0 1059 mJ3_checkIndex_8e157 3 := ⟨zGW_of 480 (by decide +kernel), st_J3_checkIndex_8e157, iw_J3_checkIndex_8e157, cd_J3_checkIndex_8e157, np_J3_checkIndex_8e157⟩
theorem cw_J0_498 : zcs RJ0 498 mJ2_charAt_3b067 2 := ⟨zGW_of 483 (by decide +kernel), st_J2_charAt_3b067, iw_J2_getChar_3b067, cd_J2_charAt_3b067, np_J2_charAt_3b067⟩
theorem cw_J2_67 : zcs RJ2 67 mJ2_checkIndex_2214a 2 := ⟨zGW_of 486 (by decide +kernel), st_J2_checkIndex_2214a, iw_J2_getChar_3b067, cd_J2_checkIndex_2214a, np_J2_checkIndex_2214a⟩
theorem cw_J2_48 : zcs RJ2 48 mJ2_length_9d52b 1 := ⟨zGW_of 489 (by decide +kernel), st_J2_length_9d52b, iw_J2_getChar_3b067, cd_J2_length_9d52b, np_J2_length_9d52b⟩
theorem cw_J2_414 : zcs RJ2 414 mJ0_checkIndex_df160 2 := ⟨zGW_of 492 (by decide +kernel), st_J0_checkIndex_df160, iw_J0_length_8abf5, cd_J0_checkIndex_df160, np_J0_checkIndex_df160⟩
theorem cw_J2_71 : zcs RJ2 71 mJ2_getChar_3b067 2 := ⟨zGW_of 493 (by decide +kernel), st_J2_getChar_3b067, iw_J2_getChar_3b067, cd_J2_getChar_3b067, np_J2_getChar_3b067⟩
theorem cw_X4_84 : zcv RX4 84 mX4_fail 2 := ⟨zGW_of 502 (by decide +kernel), im_X4_fail, sl_X4_fail, iw_X4_init, cd_X4_fail, np_X4_fail⟩
theorem cw_X4_59 : zcv RX4 59 mX4_readNumber 2 := ⟨zGW_of 506 (by decide +kernel), im_X4_readNumber, sl_X4_readNumber, iw_X4_init, cd_X4_readNumber, np_X4_readNumber⟩
theorem cw_X4_146 : zcs RX4 146 mX4_isDigit 1 := ⟨zGW_of 510 (by decide +kernel), st_X4_isDigit, iw_X4_init, cd_X4_isDigit, np_X4_isDigit⟩
theorem cw_X4_68 : zcv RX4 68 mX5_startAs 2 := ⟨zGW_of 515 (by decide +kernel), im_X5_startAs, sl_X5_startAs, iw_X5_init, cd_X5_startAs, np_X5_startAs⟩
theorem cw_X4_72 : zcv RX4 72 mX4_passSemicolon 0 := ⟨zGW_of 516 (by decide +kernel), im_X4_passSemicolon, sl_X4_passSemicolon, iw_X4_init, cd_X4_passSemicolon, np_X4_passSemicolon⟩
theorem cw_X4_42 : zcv RX4 42 mX4_readTiers 1 := ⟨zGW_of 520 (by decide +kernel), im_X4_readTiers, sl_X4_readTiers, iw_X4_init, cd_X4_readTiers, np_X4_readTiers⟩
theorem cw_X4_78 : zcv RX4 78 mX4_readTier 1 := ⟨zGW_of 525 (by decide +kernel), im_X4_readTier, sl_X4_readTier, iw_X4_init, cd_X4_readTier, np_X4_readTier⟩
theorem cw_X4_87 : zcv RX4 87 mX4_readName 0 := ⟨zGW_of 529 (by decide +kernel), im_X4_readName, sl_X4_readName, iw_X4_init, cd_X4_readName, np_X4_readName⟩
theorem cw_X4_140 : zcs RX4 140 mX7_withLetter 2 := ⟨zGW_of 533 (by decide +kernel), st_X7_withLetter, iw_X7_init, cd_X7_withLetter, np_X7_withLetter⟩
theorem cw_X4_90 : zcv RX4 90 mX5_tierNamed 1 := ⟨zGW_of 534 (by decide +kernel), im_X5_tierNamed, sl_X5_tierNamed, iw_X5_init, cd_X5_tierNamed, np_X5_tierNamed⟩
theorem cw_X4_94 : zcv RX4 94 mX5_putTier 1 := ⟨zGW_of 538 (by decide +kernel), im_X5_putTier, sl_X5_putTier, iw_X5_init, cd_X5_putTier, np_X5_putTier⟩
theorem cw_X4_98 : zcsN RX4 98 mX8_leastOf "SeasonTiers" 1 := ⟨zin_nw 539 (by decide +kernel), st_X8_leastOf, iw_X8_init, cd_X8_leastOf, np_X8_leastOf⟩
theorem cw_X4_102 : zcsN RX4 102 mX8_greatestOf "SeasonTiers" 1 := ⟨zin_nw 542 (by decide +kernel), st_X8_greatestOf, iw_X8_init, cd_X8_greatestOf, np_X8_greatestOf⟩
theorem cw_X4_45 : zcv RX4 45 mX4_readFiles 1 := ⟨zGW_of 546 (by decide +kernel), im_X4_readFiles, sl_X4_readFiles, iw_X4_init, cd_X4_readFiles, np_X4_readFiles⟩
theorem cw_X4_118 : zcv RX4 118 mX4_readFile 1 := ⟨zGW_of 550 (by decide +kernel), im_X4_readFile, sl_X4_readFile, iw_X4_init, cd_X4_readFile, np_X4_readFile⟩
theorem cw_X4_123 : zcv RX4 123 mX5_fileNamed 1 := ⟨zGW_of 555 (by decide +kernel), im_X5_fileNamed, sl_X5_fileNamed, iw_X5_init, cd_X5_fileNamed, np_X5_fileNamed⟩
theorem cw_X4_128 : zcv RX4 128 mX5_hasRoomFor 2 := ⟨zGW_of 560 (by decide +kernel), im_X5_hasRoomFor, sl_X5_hasRoomFor, iw_X5_init, cd_X5_hasRoomFor, np_X5_hasRoomFor⟩
theorem cw_X5_99 : zcv RX5 99 mX5_sizeOn 1 := ⟨zGW_of 564 (by decide +kernel), im_X5_sizeOn, sl_X5_sizeOn, iw_X5_init, cd_X5_sizeOn, np_X5_sizeOn⟩
theorem cw_X4_133 : zcv RX4 133 mX5_putFile 4 := ⟨zGW_of 569 (by decide +kernel), im_X5_putFile, sl_X5_putFile, iw_X5_init, cd_X5_putFile, np_X5_putFile⟩
theorem cw_X5_117 : zcv RX5 117 mX0_startAs 4 := ⟨zGW_of 573 (by decide +kernel), im_X0_startAs, sl_X0_startAs, iw_X0_init, cd_X0_startAs, np_X0_startAs⟩
theorem cw_X0_50 : zcv RX0 50 mX0_forgetSeasons 0 := ⟨zGW_of 577 (by decide +kernel), im_X0_forgetSeasons, sl_X0_forgetSeasons, iw_X0_init, cd_X0_forgetSeasons, np_X0_forgetSeasons⟩
theorem cw_X8_81 : zcv RX8 81 mX1_remember 1 := ⟨zGW_of 581 (by decide +kernel), im_X1_remember, sl_X1_remember, iw_X1_init, cd_X1_remember, np_X1_remember⟩
theorem cw_X1_25 : zcv RX1 25 mX5_copyFrom 1 := ⟨zGW_of 585 (by decide +kernel), im_X5_copyFrom, sl_X5_copyFrom, iw_X5_init, cd_X5_copyFrom, np_X5_copyFrom⟩
theorem cw_X5_48 : zcv RX5 48 mX6_copyFrom 1 := ⟨zGW_of 589 (by decide +kernel), im_X6_copyFrom, sl_X6_copyFrom, iw_X6_init, cd_X6_copyFrom, np_X6_copyFrom⟩
theorem cw_X5_52 : zcv RX5 52 mX0_copyFrom 1 := ⟨zGW_of 593 (by decide +kernel), im_X0_copyFrom, sl_X0_copyFrom, iw_X0_init, cd_X0_copyFrom, np_X0_copyFrom⟩
theorem cw_X5_55 : zcv RX5 55 mX2_copyFrom 1 := ⟨zGW_of 600 (by decide +kernel), im_X2_copyFrom, sl_X2_copyFrom, iw_X2_init, cd_X2_copyFrom, np_X2_copyFrom⟩
theorem cw_X8_85 : zcv RX8 85 mX5_copyFrom 1 := ⟨zGW_of 605 (by decide +kernel), im_X5_copyFrom, sl_X5_copyFrom, iw_X5_init, cd_X5_copyFrom, np_X5_copyFrom⟩
theorem cw_L_125 : zcv RL 125 mX8_errorPosition 0 := ⟨zGW_of 607 (by decide +kernel), im_X8_errorPosition, sl_X8_errorPosition, iw_X8_init, cd_X8_errorPosition, np_X8_errorPosition⟩
theorem cw_L_152 : zcv RL 152 mX8_meanOff 0 := ⟨zGW_of 611 (by decide +kernel), im_X8_meanOff, sl_X8_meanOff, iw_X8_init, cd_X8_meanOff, np_X8_meanOff⟩
theorem cw_L_160 : zcv RL 160 mX8_commonCycle 0 := ⟨zGW_of 615 (by decide +kernel), im_X8_commonCycle, sl_X8_commonCycle, iw_X8_init, cd_X8_commonCycle, np_X8_commonCycle⟩
theorem cw_X8_203 : zcv RX8 203 mX0_ownCycle 0 := ⟨zGW_of 619 (by decide +kernel), im_X0_ownCycle, sl_X0_ownCycle, iw_X0_init, cd_X0_ownCycle, np_X0_ownCycle⟩
theorem cw_X0_80 : zcv RX0 80 mX0_differenceAt 1 := ⟨zGW_of 623 (by decide +kernel), im_X0_differenceAt, sl_X0_differenceAt, iw_X0_init, cd_X0_differenceAt, np_X0_differenceAt⟩
theorem cw_X0_67 : zcs RX0 67 mJ9_abs_0f7a4 1 := ⟨zGW_of 627 (by decide +kernel), st_J9_abs_0f7a4, iw_J9_floorMod_7cf53, cd_J9_abs_0f7a4, np_J9_abs_0f7a4⟩
theorem cw_L_167 : zcv RL 167 mX8_movingShare 0 := ⟨zGW_of 630 (by decide +kernel), im_X8_movingShare, sl_X8_movingShare, iw_X8_init, cd_X8_movingShare, np_X8_movingShare⟩
theorem cw_X8_210 : zcv RX8 210 mX5_paidOnAll 1 := ⟨zGW_of 634 (by decide +kernel), im_X5_paidOnAll, sl_X5_paidOnAll, iw_X5_init, cd_X5_paidOnAll, np_X5_paidOnAll⟩
theorem cw_X5_102 : zcv RX5 102 mX6_paidFor 1 := ⟨zGW_of 638 (by decide +kernel), im_X6_paidFor, sl_X6_paidFor, iw_X6_init, cd_X6_paidFor, np_X6_paidFor⟩
theorem cw_L_200 : zcv RL 200 mX8_close 0 := ⟨zGW_of 642 (by decide +kernel), im_X8_close, sl_X8_close, iw_X8_init, cd_X8_close, np_X8_close⟩
theorem cw_X8_269 : zcv RX8 269 mX5_endPeriod 0 := ⟨zGW_of 647 (by decide +kernel), im_X5_endPeriod, sl_X5_endPeriod, iw_X5_init, cd_X5_endPeriod, np_X5_endPeriod⟩
theorem cw_X5_92 : zcv RX5 92 mX5_phaseAhead 1 := ⟨zGW_of 651 (by decide +kernel), im_X5_phaseAhead, sl_X5_phaseAhead, iw_X5_init, cd_X5_phaseAhead, np_X5_phaseAhead⟩
theorem cw_X5_124 : zcv RX5 124 mX5_payFor 1 := ⟨zGW_of 655 (by decide +kernel), im_X5_payFor, sl_X5_payFor, iw_X5_init, cd_X5_payFor, np_X5_payFor⟩
theorem cw_X5_128 : zcv RX5 128 mX0_scoreForecast 1 := ⟨zGW_of 659 (by decide +kernel), im_X0_scoreForecast, sl_X0_scoreForecast, iw_X0_init, cd_X0_scoreForecast, np_X0_scoreForecast⟩
theorem cw_X0_60 : zcv RX0 60 mX0_knownSeasons 0 := ⟨zGW_of 663 (by decide +kernel), im_X0_knownSeasons, sl_X0_knownSeasons, iw_X0_init, cd_X0_knownSeasons, np_X0_knownSeasons⟩
theorem cw_X0_63 : zcv RX0 63 mX0_forecastFor 1 := ⟨zGW_of 667 (by decide +kernel), im_X0_forecastFor, sl_X0_forecastFor, iw_X0_init, cd_X0_forecastFor, np_X0_forecastFor⟩
theorem cw_X0_57 : zcv RX0 57 mX0_meanSeason 0 := ⟨zGW_of 671 (by decide +kernel), im_X0_meanSeason, sl_X0_meanSeason, iw_X0_init, cd_X0_meanSeason, np_X0_meanSeason⟩
theorem cw_X5_134 : zcv RX5 134 mX0_learnSeason 3 := ⟨zGW_of 675 (by decide +kernel), im_X0_learnSeason, sl_X0_learnSeason, iw_X0_init, cd_X0_learnSeason, np_X0_learnSeason⟩
theorem cw_X5_138 : zcv RX5 138 mX0_keepUses 0 := ⟨zGW_of 679 (by decide +kernel), im_X0_keepUses, sl_X0_keepUses, iw_X0_init, cd_X0_keepUses, np_X0_keepUses⟩
theorem cw_L_208 : zcv RL 208 mX8_unmove 0 := ⟨zGW_of 683 (by decide +kernel), im_X8_unmove, sl_X8_unmove, iw_X8_init, cd_X8_unmove, np_X8_unmove⟩
theorem cw_X8_277 : zcv RX8 277 mX2_latest 1 := ⟨zGW_of 687 (by decide +kernel), im_X2_latest, sl_X2_latest, iw_X2_init, cd_X2_latest, np_X2_latest⟩
theorem cw_X8_256 : zcv RX8 256 mX5_hasRoomFor 2 := ⟨zGW_of 691 (by decide +kernel), im_X5_hasRoomFor, sl_X5_hasRoomFor, iw_X5_init, cd_X5_hasRoomFor, np_X5_hasRoomFor⟩
theorem cw_X8_280 : zcv RX8 280 mX5_carryBack 0 := ⟨zGW_of 692 (by decide +kernel), im_X5_carryBack, sl_X5_carryBack, iw_X5_init, cd_X5_carryBack, np_X5_carryBack⟩
theorem cw_X5_149 : zcv RX5 149 mX2_latest 1 := ⟨zGW_of 696 (by decide +kernel), im_X2_latest, sl_X2_latest, iw_X2_init, cd_X2_latest, np_X2_latest⟩
theorem cw_L_235 : zcv RL 235 mX8_writeTiers 0 := ⟨zGW_of 697 (by decide +kernel), im_X8_writeTiers, sl_X8_writeTiers, iw_X8_init, cd_X8_writeTiers, np_X8_writeTiers⟩
theorem cw_X8_303 : zcv RX8 303 mX7_writeStore 1 := ⟨zGW_of 701 (by decide +kernel), im_X7_writeStore, sl_X7_writeStore, iw_X7_init, cd_X7_writeStore, np_X7_writeStore⟩
theorem cw_X7_24 : zcv RX7 24 mX7_putByte 1 := ⟨zGW_of 705 (by decide +kernel), im_X7_putByte, sl_X7_putByte, iw_X7_init, cd_X7_putByte, np_X7_putByte⟩
theorem cw_X7_38 : zcv RX7 38 mX7_putName 1 := ⟨zGW_of 709 (by decide +kernel), im_X7_putName, sl_X7_putName, iw_X7_init, cd_X7_putName, np_X7_putName⟩
theorem cw_X7_42 : zcv RX7 42 mX7_putFilesOn 2 := ⟨zGW_of 713 (by decide +kernel), im_X7_putFilesOn, sl_X7_putFilesOn, iw_X7_init, cd_X7_putFilesOn, np_X7_putFilesOn⟩
theorem cw_L_112 : zcsH RL 112 mL_append 7 := ⟨zGW_of 717 (by decide +kernel), st_L_append, iw_L_append, cd_L_append, np_L_append⟩
theorem cw_L_7 : zcv RL 7 mX8_append 5 := ⟨zGW_of 721 (by decide +kernel), im_X8_append, sl_X8_append, iw_X8_init, cd_X8_append, np_X8_append⟩
theorem cw_X8_62 : zcs RX8 62 mX8_bytesIn 1 := ⟨zGW_of 725 (by decide +kernel), st_X8_bytesIn, iw_X8_init, cd_X8_bytesIn, np_X8_bytesIn⟩
theorem cw_X8_73 : zcv RX8 73 mX4_putBytesOf 1 := ⟨zGW_of 791 (by decide +kernel), im_X4_putBytesOf, sl_X4_putBytesOf, iw_X4_init, cd_X4_putBytesOf, np_X4_putBytesOf⟩
theorem cw_L_129 : zcsH RL 129 mL_count 3 := ⟨zGW_of 795 (by decide +kernel), st_L_count, iw_L_append, cd_L_count, np_L_count⟩
theorem cw_L_15 : zcv RL 15 mX8_count 1 := ⟨zGW_of 799 (by decide +kernel), im_X8_count, sl_X8_count, iw_X8_init, cd_X8_count, np_X8_count⟩
theorem cw_X8_106 : zcv RX8 106 mX5_pinnedFiles 0 := ⟨zGW_of 803 (by decide +kernel), im_X5_pinnedFiles, sl_X5_pinnedFiles, iw_X5_init, cd_X5_pinnedFiles, np_X5_pinnedFiles⟩
theorem cw_X5_84 : zcv RX5 84 mX0_isPinnedIn 1 := ⟨zGW_of 807 (by decide +kernel), im_X0_isPinnedIn, sl_X0_isPinnedIn, iw_X0_init, cd_X0_isPinnedIn, np_X0_isPinnedIn⟩
theorem cw_X8_119 : zcv RX8 119 mX5_sizeOfAll 0 := ⟨zGW_of 811 (by decide +kernel), im_X5_sizeOfAll, sl_X5_sizeOfAll, iw_X5_init, cd_X5_sizeOfAll, np_X5_sizeOfAll⟩
theorem cw_L_133 : zcsH RL 133 mL_tier 4 := ⟨zGW_of 830 (by decide +kernel), st_L_tier, iw_L_append, cd_L_tier, np_L_tier⟩
theorem cw_L_21 : zcv RL 21 mX8_tier 2 := ⟨zGW_of 834 (by decide +kernel), im_X8_tier, sl_X8_tier, iw_X8_init, cd_X8_tier, np_X8_tier⟩
theorem cw_X8_125 : zcv RX8 125 mX8_requireTier 1 := ⟨zGW_of 838 (by decide +kernel), im_X8_requireTier, sl_X8_requireTier, iw_X8_init, cd_X8_requireTier, np_X8_requireTier⟩
theorem cw_X8_137 : zcv RX8 137 mX5_sizeOn 1 := ⟨zGW_of 857 (by decide +kernel), im_X5_sizeOn, sl_X5_sizeOn, iw_X5_init, cd_X5_sizeOn, np_X5_sizeOn⟩
theorem cw_X8_140 : zcv RX8 140 mX5_filesOn 1 := ⟨zGW_of 858 (by decide +kernel), im_X5_filesOn, sl_X5_filesOn, iw_X5_init, cd_X5_filesOn, np_X5_filesOn⟩
theorem cw_X8_143 : zcv RX8 143 mX5_mostUsedOn 1 := ⟨zGW_of 862 (by decide +kernel), im_X5_mostUsedOn, sl_X5_mostUsedOn, iw_X5_init, cd_X5_mostUsedOn, np_X5_mostUsedOn⟩
theorem cw_X5_96 : zcv RX5 96 mX0_forecastFor 1 := ⟨zGW_of 866 (by decide +kernel), im_X0_forecastFor, sl_X0_forecastFor, iw_X0_init, cd_X0_forecastFor, np_X0_forecastFor⟩
theorem cw_L_137 : zcsH RL 137 mL_file 4 := ⟨zGW_of 867 (by decide +kernel), st_L_file, iw_L_append, cd_L_file, np_L_file⟩
theorem cw_L_27 : zcv RL 27 mX8_file 2 := ⟨zGW_of 870 (by decide +kernel), im_X8_file, sl_X8_file, iw_X8_init, cd_X8_file, np_X8_file⟩
theorem cw_X8_146 : zcv RX8 146 mX8_requireFile 1 := ⟨zGW_of 874 (by decide +kernel), im_X8_requireFile, sl_X8_requireFile, iw_X8_init, cd_X8_requireFile, np_X8_requireFile⟩
theorem cw_X8_165 : zcv RX8 165 mX0_isPinnedIn 1 := ⟨zGW_of 878 (by decide +kernel), im_X0_isPinnedIn, sl_X0_isPinnedIn, iw_X0_init, cd_X0_isPinnedIn, np_X0_isPinnedIn⟩
theorem cw_X8_175 : zcv RX8 175 mX0_knownSeasons 0 := ⟨zGW_of 879 (by decide +kernel), im_X0_knownSeasons, sl_X0_knownSeasons, iw_X0_init, cd_X0_knownSeasons, np_X0_knownSeasons⟩
theorem cw_X8_178 : zcv RX8 178 mX0_busiestPhase 0 := ⟨zGW_of 880 (by decide +kernel), im_X0_busiestPhase, sl_X0_busiestPhase, iw_X0_init, cd_X0_busiestPhase, np_X0_busiestPhase⟩
theorem cw_X8_181 : zcv RX8 181 mX0_seasonSpread 0 := ⟨zGW_of 884 (by decide +kernel), im_X0_seasonSpread, sl_X0_seasonSpread, iw_X0_init, cd_X0_seasonSpread, np_X0_seasonSpread⟩
theorem cw_X0_53 : zcv RX0 53 mX0_busiestPhase 0 := ⟨zGW_of 888 (by decide +kernel), im_X0_busiestPhase, sl_X0_busiestPhase, iw_X0_init, cd_X0_busiestPhase, np_X0_busiestPhase⟩
theorem cw_L_140 : zcsH RL 140 mL_season 4 := ⟨zGW_of 889 (by decide +kernel), st_L_season, iw_L_append, cd_L_season, np_L_season⟩
theorem cw_L_30 : zcv RL 30 mX8_season 2 := ⟨zGW_of 892 (by decide +kernel), im_X8_season, sl_X8_season, iw_X8_init, cd_X8_season, np_X8_season⟩
theorem cw_L_143 : zcsH RL 143 mL_kept 4 := ⟨zGW_of 896 (by decide +kernel), st_L_kept, iw_L_append, cd_L_kept, np_L_kept⟩
theorem cw_L_33 : zcv RL 33 mX8_kept 2 := ⟨zGW_of 899 (by decide +kernel), im_X8_kept, sl_X8_kept, iw_X8_init, cd_X8_kept, np_X8_kept⟩
theorem cw_L_146 : zcsH RL 146 mL_forecast 4 := ⟨zGW_of 903 (by decide +kernel), st_L_forecast, iw_L_append, cd_L_forecast, np_L_forecast⟩
theorem cw_L_36 : zcv RL 36 mX8_forecast 2 := ⟨zGW_of 906 (by decide +kernel), im_X8_forecast, sl_X8_forecast, iw_X8_init, cd_X8_forecast, np_X8_forecast⟩
theorem cw_X8_193 : zcv RX8 193 mX5_phaseAhead 1 := ⟨zGW_of 910 (by decide +kernel), im_X5_phaseAhead, sl_X5_phaseAhead, iw_X5_init, cd_X5_phaseAhead, np_X5_phaseAhead⟩
theorem cw_X8_196 : zcv RX8 196 mX0_forecastFor 1 := ⟨zGW_of 911 (by decide +kernel), im_X0_forecastFor, sl_X0_forecastFor, iw_X0_init, cd_X0_forecastFor, np_X0_forecastFor⟩
theorem cw_L_149 : zcsH RL 149 mL_off 3 := ⟨zGW_of 912 (by decide +kernel), st_L_off, iw_L_append, cd_L_off, np_L_off⟩
theorem cw_L_39 : zcv RL 39 mX8_off 1 := ⟨zGW_of 915 (by decide +kernel), im_X8_off, sl_X8_off, iw_X8_init, cd_X8_off, np_X8_off⟩
theorem cw_L_157 : zcsH RL 157 mL_cycleOf 3 := ⟨zGW_of 919 (by decide +kernel), st_L_cycleOf, iw_L_append, cd_L_cycleOf, np_L_cycleOf⟩
theorem cw_L_43 : zcv RL 43 mX8_cycleOf 1 := ⟨zGW_of 922 (by decide +kernel), im_X8_cycleOf, sl_X8_cycleOf, iw_X8_init, cd_X8_cycleOf, np_X8_cycleOf⟩
theorem cw_L_164 : zcsH RL 164 mL_account 4 := ⟨zGW_of 926 (by decide +kernel), st_L_account, iw_L_append, cd_L_account, np_L_account⟩
theorem cw_L_46 : zcv RL 46 mX8_account 2 := ⟨zGW_of 929 (by decide +kernel), im_X8_account, sl_X8_account, iw_X8_init, cd_X8_account, np_X8_account⟩
theorem cw_X8_206 : zcs RX8 206 mX8_requireWithin 3 := ⟨zGW_of 933 (by decide +kernel), st_X8_requireWithin, iw_X8_init, cd_X8_requireWithin, np_X8_requireWithin⟩
theorem cw_X8_214 : zcv RX8 214 mX6_paidFor 1 := ⟨zGW_of 936 (by decide +kernel), im_X6_paidFor, sl_X6_paidFor, iw_X6_init, cd_X6_paidFor, np_X6_paidFor⟩
theorem cw_L_172 : zcsH RL 172 mL_cost 5 := ⟨zGW_of 937 (by decide +kernel), st_L_cost, iw_L_append, cd_L_cost, np_L_cost⟩
theorem cw_L_50 : zcv RL 50 mX8_cost 3 := ⟨zGW_of 940 (by decide +kernel), im_X8_cost, sl_X8_cost, iw_X8_init, cd_X8_cost, np_X8_cost⟩
theorem cw_X8_217 : zcs RX8 217 mX8_requirePeriods 1 := ⟨zGW_of 944 (by decide +kernel), st_X8_requirePeriods, iw_X8_init, cd_X8_requirePeriods, np_X8_requirePeriods⟩
theorem cw_X8_220 : zcv RX8 220 mX5_forecastSum 2 := ⟨zGW_of 947 (by decide +kernel), im_X5_forecastSum, sl_X5_forecastSum, iw_X5_init, cd_X5_forecastSum, np_X5_forecastSum⟩
theorem cw_X5_106 : zcv RX5 106 mX0_meanSeason 0 := ⟨zGW_of 951 (by decide +kernel), im_X0_meanSeason, sl_X0_meanSeason, iw_X0_init, cd_X0_meanSeason, np_X0_meanSeason⟩
theorem cw_X8_224 : zcv RX8 224 mX5_costOn 4 := ⟨zGW_of 952 (by decide +kernel), im_X5_costOn, sl_X5_costOn, iw_X5_init, cd_X5_costOn, np_X5_costOn⟩
theorem cw_L_176 : zcsH RL 176 mL_wish 4 := ⟨zGW_of 957 (by decide +kernel), st_L_wish, iw_L_append, cd_L_wish, np_L_wish⟩
theorem cw_L_54 : zcv RL 54 mX8_wish 2 := ⟨zGW_of 960 (by decide +kernel), im_X8_wish, sl_X8_wish, iw_X8_init, cd_X8_wish, np_X8_wish⟩
theorem cw_X8_228 : zcv RX8 228 mX3_bestTier 3 := ⟨zGW_of 964 (by decide +kernel), im_X3_bestTier, sl_X3_bestTier, iw_X3_init, cd_X3_bestTier, np_X3_bestTier⟩
theorem cw_X3_57 : zcv RX3 57 mX3_findGains 3 := ⟨zGW_of 968 (by decide +kernel), im_X3_findGains, sl_X3_findGains, iw_X3_init, cd_X3_findGains, np_X3_findGains⟩
theorem cw_X3_111 : zcv RX3 111 mX5_forecastSum 2 := ⟨zGW_of 972 (by decide +kernel), im_X5_forecastSum, sl_X5_forecastSum, iw_X5_init, cd_X5_forecastSum, np_X5_forecastSum⟩
theorem cw_X3_115 : zcv RX3 115 mX5_costOn 4 := ⟨zGW_of 973 (by decide +kernel), im_X5_costOn, sl_X5_costOn, iw_X5_init, cd_X5_costOn, np_X5_costOn⟩
theorem cw_X3_119 : zcv RX3 119 mX5_moveCost 3 := ⟨zGW_of 974 (by decide +kernel), im_X5_moveCost, sl_X5_moveCost, iw_X5_init, cd_X5_moveCost, np_X5_moveCost⟩
theorem cw_L_179 : zcsH RL 179 mL_steps 3 := ⟨zGW_of 978 (by decide +kernel), st_L_steps, iw_L_append, cd_L_steps, np_L_steps⟩
theorem cw_L_57 : zcv RL 57 mX8_steps 1 := ⟨zGW_of 981 (by decide +kernel), im_X8_steps, sl_X8_steps, iw_X8_init, cd_X8_steps, np_X8_steps⟩
theorem cw_X8_232 : zcv RX8 232 mX3_makePlan 2 := ⟨zGW_of 985 (by decide +kernel), im_X3_makePlan, sl_X3_makePlan, iw_X3_init, cd_X3_makePlan, np_X3_makePlan⟩
theorem cw_X3_61 : zcv RX3 61 mX3_planAgain 3 := ⟨zGW_of 989 (by decide +kernel), im_X3_planAgain, sl_X3_planAgain, iw_X3_init, cd_X3_planAgain, np_X3_planAgain⟩
theorem cw_X3_76 : zcv RX3 76 mX5_sizeOn 1 := ⟨zGW_of 993 (by decide +kernel), im_X5_sizeOn, sl_X5_sizeOn, iw_X5_init, cd_X5_sizeOn, np_X5_sizeOn⟩
theorem cw_X3_87 : zcv RX3 87 mX0_isPinnedIn 1 := ⟨zGW_of 994 (by decide +kernel), im_X0_isPinnedIn, sl_X0_isPinnedIn, iw_X0_init, cd_X0_isPinnedIn, np_X0_isPinnedIn⟩
theorem cw_X3_93 : zcv RX3 93 mX3_findMove 1 := ⟨zGW_of 995 (by decide +kernel), im_X3_findMove, sl_X3_findMove, iw_X3_init, cd_X3_findMove, np_X3_findMove⟩
theorem cw_X3_126 : zcv RX3 126 mX3_setBest 4 := ⟨zGW_of 999 (by decide +kernel), im_X3_setBest, sl_X3_setBest, iw_X3_init, cd_X3_setBest, np_X3_setBest⟩
theorem cw_X3_97 : zcv RX3 97 mX3_findExchange 1 := ⟨zGW_of 1003 (by decide +kernel), im_X3_findExchange, sl_X3_findExchange, iw_X3_init, cd_X3_findExchange, np_X3_findExchange⟩
theorem cw_X3_100 : zcv RX3 100 mX3_takeStep 1 := ⟨zGW_of 1007 (by decide +kernel), im_X3_takeStep, sl_X3_takeStep, iw_X3_init, cd_X3_takeStep, np_X3_takeStep⟩
theorem cw_X3_130 : zcv RX3 130 mX3_takeAway 4 := ⟨zGW_of 1011 (by decide +kernel), im_X3_takeAway, sl_X3_takeAway, iw_X3_init, cd_X3_takeAway, np_X3_takeAway⟩
theorem cw_L_182 : zcsH RL 182 mL_step 5 := ⟨zGW_of 1015 (by decide +kernel), st_L_step, iw_L_append, cd_L_step, np_L_step⟩
theorem cw_L_60 : zcv RL 60 mX8_step 3 := ⟨zGW_of 1018 (by decide +kernel), im_X8_step, sl_X8_step, iw_X8_init, cd_X8_step, np_X8_step⟩
theorem cw_L_185 : zcsH RL 185 mL_saving 3 := ⟨zGW_of 1022 (by decide +kernel), st_L_saving, iw_L_append, cd_L_saving, np_L_saving⟩
theorem cw_L_64 : zcv RL 64 mX8_saving 1 := ⟨zGW_of 1025 (by decide +kernel), im_X8_saving, sl_X8_saving, iw_X8_init, cd_X8_saving, np_X8_saving⟩
theorem cw_L_188 : zcsH RL 188 mL_withRoom 5 := ⟨zGW_of 1029 (by decide +kernel), st_L_withRoom, iw_L_append, cd_L_withRoom, np_L_withRoom⟩
theorem cw_L_67 : zcv RL 67 mX8_withRoom 3 := ⟨zGW_of 1032 (by decide +kernel), im_X8_withRoom, sl_X8_withRoom, iw_X8_init, cd_X8_withRoom, np_X8_withRoom⟩
theorem cw_X8_252 : zcv RX8 252 mX3_planAgain 3 := ⟨zGW_of 1036 (by decide +kernel), im_X3_planAgain, sl_X3_planAgain, iw_X3_init, cd_X3_planAgain, np_X3_planAgain⟩
theorem cw_L_191 : zcsH RL 191 mL_add 4 := ⟨zGW_of 1037 (by decide +kernel), st_L_add, iw_L_append, cd_L_add, np_L_add⟩
theorem cw_L_70 : zcv RL 70 mX8_add 2 := ⟨zGW_of 1040 (by decide +kernel), im_X8_add, sl_X8_add, iw_X8_init, cd_X8_add, np_X8_add⟩
theorem cw_X8_260 : zcv RX8 260 mX5_putFile 4 := ⟨zGW_of 1044 (by decide +kernel), im_X5_putFile, sl_X5_putFile, iw_X5_init, cd_X5_putFile, np_X5_putFile⟩
theorem cw_L_194 : zcsH RL 194 mL_drop 3 := ⟨zGW_of 1045 (by decide +kernel), st_L_drop, iw_L_append, cd_L_drop, np_L_drop⟩
theorem cw_L_73 : zcv RL 73 mX8_drop 1 := ⟨zGW_of 1048 (by decide +kernel), im_X8_drop, sl_X8_drop, iw_X8_init, cd_X8_drop, np_X8_drop⟩
theorem cw_X8_264 : zcv RX8 264 mX5_removeFile 1 := ⟨zGW_of 1052 (by decide +kernel), im_X5_removeFile, sl_X5_removeFile, iw_X5_init, cd_X5_removeFile, np_X5_removeFile⟩
theorem cw_X5_120 : zcv RX5 120 mX2_forgetFile 1 := ⟨zGW_of 1056 (by decide +kernel), im_X2_forgetFile, sl_X2_forgetFile, iw_X2_init, cd_X2_forgetFile, np_X2_forgetFile⟩
theorem cw_X2_25 : zcv RX2 25 mX2_removeRow 1 := ⟨zGW_of 1060 (by decide +kernel), im_X2_removeRow, sl_X2_removeRow, iw_X2_init, cd_X2_removeRow, np_X2_removeRow⟩
theorem cw_L_197 : zcsH RL 197 mL_use 4 := ⟨zGW_of 1064 (by decide +kernel), st_L_use, iw_L_append, cd_L_use, np_L_use⟩
theorem cw_L_76 : zcv RL 76 mX8_use 2 := ⟨zGW_of 1067 (by decide +kernel), im_X8_use, sl_X8_use, iw_X8_init, cd_X8_use, np_X8_use⟩
theorem cw_L_205 : zcsH RL 205 mL_move 4 := ⟨zGW_of 1071 (by decide +kernel), st_L_move, iw_L_append, cd_L_move, np_L_move⟩
theorem cw_L_79 : zcv RL 79 mX8_move 2 := ⟨zGW_of 1074 (by decide +kernel), im_X8_move, sl_X8_move, iw_X8_init, cd_X8_move, np_X8_move⟩
theorem cw_X8_273 : zcv RX8 273 mX5_carry 2 := ⟨zGW_of 1078 (by decide +kernel), im_X5_carry, sl_X5_carry, iw_X5_init, cd_X5_carry, np_X5_carry⟩
theorem cw_X5_145 : zcv RX5 145 mX2_put 5 := ⟨zGW_of 1082 (by decide +kernel), im_X2_put, sl_X2_put, iw_X2_init, cd_X2_put, np_X2_put⟩
theorem cw_L_212 : zcsH RL 212 mL_pin 4 := ⟨zGW_of 1086 (by decide +kernel), st_L_pin, iw_L_append, cd_L_pin, np_L_pin⟩
theorem cw_L_82 : zcv RL 82 mX8_pin 2 := ⟨zGW_of 1089 (by decide +kernel), im_X8_pin, sl_X8_pin, iw_X8_init, cd_X8_pin, np_X8_pin⟩
theorem cw_L_215 : zcsH RL 215 mL_act 3 := ⟨zGW_of 1093 (by decide +kernel), st_L_act, iw_L_append, cd_L_act, np_L_act⟩
theorem cw_L_85 : zcv RL 85 mX8_act 1 := ⟨zGW_of 1096 (by decide +kernel), im_X8_act, sl_X8_act, iw_X8_init, cd_X8_act, np_X8_act⟩
theorem cw_X8_283 : zcv RX8 283 mX3_carryOut 1 := ⟨zGW_of 1100 (by decide +kernel), im_X3_carryOut, sl_X3_carryOut, iw_X3_init, cd_X3_carryOut, np_X3_carryOut⟩
theorem cw_X3_107 : zcv RX3 107 mX5_carry 2 := ⟨zGW_of 1104 (by decide +kernel), im_X5_carry, sl_X5_carry, iw_X5_init, cd_X5_carry, np_X5_carry⟩
theorem cw_L_218 : zcsH RL 218 mL_learn 4 := ⟨zGW_of 1105 (by decide +kernel), st_L_learn, iw_L_append, cd_L_learn, np_L_learn⟩
theorem cw_L_88 : zcv RL 88 mX8_learn 2 := ⟨zGW_of 1108 (by decide +kernel), im_X8_learn, sl_X8_learn, iw_X8_init, cd_X8_learn, np_X8_learn⟩
theorem cw_X8_286 : zcv RX8 286 mX5_learnAgain 2 := ⟨zGW_of 1112 (by decide +kernel), im_X5_learnAgain, sl_X5_learnAgain, iw_X5_init, cd_X5_learnAgain, np_X5_learnAgain⟩
theorem cw_X5_152 : zcv RX5 152 mX0_learnFromKept 3 := ⟨zGW_of 1116 (by decide +kernel), im_X0_learnFromKept, sl_X0_learnFromKept, iw_X0_init, cd_X0_learnFromKept, np_X0_learnFromKept⟩
theorem cw_X0_72 : zcs RX0 72 mJ9_floorMod_7cf53 2 := ⟨zGW_of 1120 (by decide +kernel), st_J9_floorMod_7cf53, iw_J9_floorMod_7cf53, cd_J9_floorMod_7cf53, np_J9_floorMod_7cf53⟩
theorem cw_X0_76 : zcv RX0 76 mX0_learnSeason 3 := ⟨zGW_of 1123 (by decide +kernel), im_X0_learnSeason, sl_X0_learnSeason, iw_X0_init, cd_X0_learnSeason, np_X0_learnSeason⟩
theorem cw_L_221 : zcsH RL 221 mL_setTier 5 := ⟨zGW_of 1124 (by decide +kernel), st_L_setTier, iw_L_append, cd_L_setTier, np_L_setTier⟩
theorem cw_L_91 : zcv RL 91 mX8_setTier 3 := ⟨zGW_of 1127 (by decide +kernel), im_X8_setTier, sl_X8_setTier, iw_X8_init, cd_X8_setTier, np_X8_setTier⟩
theorem cw_X8_290 : zcs RX8 290 mX8_leastOf 1 := ⟨zGW_of 1131 (by decide +kernel), st_X8_leastOf, iw_X8_init, cd_X8_leastOf, np_X8_leastOf⟩
theorem cw_X8_293 : zcs RX8 293 mX8_greatestOf 1 := ⟨zGW_of 1132 (by decide +kernel), st_X8_greatestOf, iw_X8_init, cd_X8_greatestOf, np_X8_greatestOf⟩
theorem cw_L_224 : zcsH RL 224 mL_undo 2 := ⟨zGW_of 1133 (by decide +kernel), st_L_undo, iw_L_append, cd_L_undo, np_L_undo⟩
theorem cw_L_94 : zcv RL 94 mX8_undo 0 := ⟨zGW_of 1136 (by decide +kernel), im_X8_undo, sl_X8_undo, iw_X8_init, cd_X8_undo, np_X8_undo⟩
theorem cw_X8_297 : zcv RX8 297 mX1_bringBack 1 := ⟨zGW_of 1140 (by decide +kernel), im_X1_bringBack, sl_X1_bringBack, iw_X1_init, cd_X1_bringBack, np_X1_bringBack⟩
theorem cw_L_228 : zcsH RL 228 mL_save 2 := ⟨zGW_of 1144 (by decide +kernel), st_L_save, iw_L_append, cd_L_save, np_L_save⟩
theorem cw_L_98 : zcv RL 98 mX8_save 1 := ⟨zGW_of 1147 (by decide +kernel), im_X8_save, sl_X8_save, iw_X8_init, cd_X8_save, np_X8_save⟩
theorem cw_X8_300 : zcs RX8 300 mX8_requireSlot 1 := ⟨zGW_of 1151 (by decide +kernel), st_X8_requireSlot, iw_X8_init, cd_X8_requireSlot, np_X8_requireSlot⟩
theorem cw_L_232 : zcsH RL 232 mL_restore 3 := ⟨zGW_of 1154 (by decide +kernel), st_L_restore, iw_L_append, cd_L_restore, np_L_restore⟩
theorem cw_L_102 : zcv RL 102 mX8_restore 1 := ⟨zGW_of 1157 (by decide +kernel), im_X8_restore, sl_X8_restore, iw_X8_init, cd_X8_restore, np_X8_restore⟩
theorem cw_L_239 : zcsH RL 239 mL_writtenByte 3 := ⟨zGW_of 1161 (by decide +kernel), st_L_writtenByte, iw_L_append, cd_L_writtenByte, np_L_writtenByte⟩
theorem cw_L_105 : zcv RL 105 mX8_writtenByte 1 := ⟨zGW_of 1164 (by decide +kernel), im_X8_writtenByte, sl_X8_writtenByte, iw_X8_init, cd_X8_writtenByte, np_X8_writtenByte⟩
theorem cw_L_111 : zci RL 111 mX9_init 0 := ⟨zGW_of 1170 (by decide +kernel), im_X9_init, iw_X9_init, cd_X9_init, rfl, rfl, np_X9_init⟩
theorem cw_X9_58 : zcv RX9 58 mX9_begins 0 := ⟨zGW_of 1174 (by decide +kernel), im_X9_begins, sl_X9_begins, iw_X9_init, cd_X9_begins, np_X9_begins⟩
theorem cw_X9_63 : zcv RX9 63 mX9_puts 6 := ⟨zGW_of 1180 (by decide +kernel), im_X9_puts, sl_X9_puts, iw_X9_init, cd_X9_puts, np_X9_puts⟩
theorem cw_L_118 : zcv RL 118 mX9_thrown 0 := ⟨zGW_of 1281 (by decide +kernel), im_X9_thrown, sl_X9_thrown, iw_X9_init, cd_X9_thrown, np_X9_thrown⟩
theorem cw_L_227 : zcv RL 227 mX9_undo 0 := ⟨zGW_of 1285 (by decide +kernel), im_X9_undo, sl_X9_undo, iw_X9_init, cd_X9_undo, np_X9_undo⟩
theorem cw_X9_75 : zcs RX9 75 mX9_copies 4 := ⟨zGW_of 1289 (by decide +kernel), st_X9_copies, iw_X9_init, cd_X9_copies, np_X9_copies⟩
theorem cw_L_231 : zcv RL 231 mX9_save 1 := ⟨zGW_of 1292 (by decide +kernel), im_X9_save, sl_X9_save, iw_X9_init, cd_X9_save, np_X9_save⟩
theorem cw_X9_79 : zcs RX9 79 mX9_isIn 3 := ⟨zGW_of 1296 (by decide +kernel), st_X9_isIn, iw_X9_init, cd_X9_isIn, np_X9_isIn⟩
theorem cw_L_234 : zcv RL 234 mX9_restore 1 := ⟨zGW_of 1299 (by decide +kernel), im_X9_restore, sl_X9_restore, iw_X9_init, cd_X9_restore, np_X9_restore⟩
theorem cw_X9_83 : zcv RX9 83 mX9_keeps 1 := ⟨zGW_of 1303 (by decide +kernel), im_X9_keeps, sl_X9_keeps, iw_X9_init, cd_X9_keeps, np_X9_keeps⟩
theorem cw_X9_87 : zcv RX9 87 mX9_its 1 := ⟨zGW_of 1307 (by decide +kernel), im_X9_its, sl_X9_its, iw_X9_init, cd_X9_its, np_X9_its⟩
theorem cw_L_117 : zcv RL 117 mX9_append 5 := ⟨zGW_of 1311 (by decide +kernel), im_X9_append, sl_X9_append, iw_X9_init, cd_X9_append, np_X9_append⟩
theorem cw_X9_91 : zcs RX9 91 mX9_byteOf 6 := ⟨zGW_of 1315 (by decide +kernel), st_X9_byteOf, iw_X9_init, cd_X9_byteOf, np_X9_byteOf⟩
theorem cw_L_124 : zcv RL 124 mX9_load 0 := ⟨zGW_of 1318 (by decide +kernel), im_X9_load, sl_X9_load, iw_X9_init, cd_X9_load, np_X9_load⟩
theorem cw_X9_147 : zcv RX9 147 mX9_next 0 := ⟨zGW_of 1322 (by decide +kernel), im_X9_next, sl_X9_next, iw_X9_init, cd_X9_next, np_X9_next⟩
theorem cw_X9_98 : zcv RX9 98 mX9_see 1 := ⟨zGW_of 1326 (by decide +kernel), im_X9_see, sl_X9_see, iw_X9_init, cd_X9_see, np_X9_see⟩
theorem cw_X9_113 : zcv RX9 113 mX9_isLetter 1 := ⟨zGW_of 1330 (by decide +kernel), im_X9_isLetter, sl_X9_isLetter, iw_X9_init, cd_X9_isLetter, np_X9_isLetter⟩
theorem cw_X9_117 : zcv RX9 117 mX9_isDigit 1 := ⟨zGW_of 1334 (by decide +kernel), im_X9_isDigit, sl_X9_isDigit, iw_X9_init, cd_X9_isDigit, np_X9_isDigit⟩
theorem cw_X9_121 : zcs RX9 121 mJ9_min_7cf53 2 := ⟨zGW_of 1339 (by decide +kernel), st_J9_min_7cf53, iw_J9_floorMod_7cf53, cd_J9_min_7cf53, np_J9_min_7cf53⟩
theorem cw_X9_159 : zcv RX9 159 mX9_isWord 1 := ⟨zGW_of 1343 (by decide +kernel), im_X9_isWord, sl_X9_isWord, iw_X9_init, cd_X9_isWord, np_X9_isWord⟩
theorem cw_X9_130 : zcv RX9 130 mJ0_length_8abf5 0 := ⟨zGW_of 1347 (by decide +kernel), im_J0_length_8abf5, sl_J0_length_8abf5, iw_J0_length_8abf5, cd_J0_length_8abf5, np_J0_length_8abf5⟩
theorem cw_X9_136 : zcv RX9 136 mJ0_charAt_5068e 1 := ⟨zGW_of 1348 (by decide +kernel), im_J0_charAt_5068e, sl_J0_charAt_5068e, iw_J0_length_8abf5, cd_J0_charAt_5068e, np_J0_charAt_5068e⟩
theorem cw_X9_150 : zcv RX9 150 mX9_must 1 := ⟨zGW_of 1349 (by decide +kernel), im_X9_must, sl_X9_must, iw_X9_init, cd_X9_must, np_X9_must⟩
theorem cw_X9_143 : zcv RX9 143 mX9_fails 1 := ⟨zGW_of 1353 (by decide +kernel), im_X9_fails, sl_X9_fails, iw_X9_init, cd_X9_fails, np_X9_fails⟩
theorem cw_X9_174 : zcv RX9 174 mX9_takes 2 := ⟨zGW_of 1357 (by decide +kernel), im_X9_takes, sl_X9_takes, iw_X9_init, cd_X9_takes, np_X9_takes⟩
theorem cw_X9_177 : zcv RX9 177 mX9_mustEnd 0 := ⟨zGW_of 1362 (by decide +kernel), im_X9_mustEnd, sl_X9_mustEnd, iw_X9_init, cd_X9_mustEnd, np_X9_mustEnd⟩
theorem cw_X9_203 : zcv RX9 203 mX9_readsTier 0 := ⟨zGW_of 1366 (by decide +kernel), im_X9_readsTier, sl_X9_readsTier, iw_X9_init, cd_X9_readsTier, np_X9_readsTier⟩
theorem cw_X9_154 : zcv RX9 154 mX9_tiers 0 := ⟨zGW_of 1370 (by decide +kernel), im_X9_tiers, sl_X9_tiers, iw_X9_init, cd_X9_tiers, np_X9_tiers⟩
theorem cw_X9_163 : zcv RX9 163 mX9_mustName 0 := ⟨zGW_of 1375 (by decide +kernel), im_X9_mustName, sl_X9_mustName, iw_X9_init, cd_X9_mustName, np_X9_mustName⟩
theorem cw_X9_166 : zcv RX9 166 mX9_named 3 := ⟨zGW_of 1379 (by decide +kernel), im_X9_named, sl_X9_named, iw_X9_init, cd_X9_named, np_X9_named⟩
theorem cw_X9_170 : zcv RX9 170 mX9_putsName 1 := ⟨zGW_of 1383 (by decide +kernel), im_X9_putsName, sl_X9_putsName, iw_X9_init, cd_X9_putsName, np_X9_putsName⟩
theorem cw_X9_208 : zcv RX9 208 mX9_readsFile 0 := ⟨zGW_of 1389 (by decide +kernel), im_X9_readsFile, sl_X9_readsFile, iw_X9_init, cd_X9_readsFile, np_X9_readsFile⟩
theorem cw_X9_180 : zcv RX9 180 mX9_files 0 := ⟨zGW_of 1393 (by decide +kernel), im_X9_files, sl_X9_files, iw_X9_init, cd_X9_files, np_X9_files⟩
theorem cw_X9_183 : zcv RX9 183 mX9_begins0 1 := ⟨zGW_of 1397 (by decide +kernel), im_X9_begins0, sl_X9_begins0, iw_X9_init, cd_X9_begins0, np_X9_begins0⟩
theorem cw_X9_193 : zcv RX9 193 mX9_sets 3 := ⟨zGW_of 1401 (by decide +kernel), im_X9_sets, sl_X9_sets, iw_X9_init, cd_X9_sets, np_X9_sets⟩
theorem cw_X9_188 : zcv RX9 188 mX9_freeOn 1 := ⟨zGW_of 1407 (by decide +kernel), im_X9_freeOn, sl_X9_freeOn, iw_X9_init, cd_X9_freeOn, np_X9_freeOn⟩
theorem cw_X9_214 : zcv RX9 214 mX9_ofTier 2 := ⟨zGW_of 1411 (by decide +kernel), im_X9_ofTier, sl_X9_ofTier, iw_X9_init, cd_X9_ofTier, np_X9_ofTier⟩
theorem cw_X9_217 : zcv RX9 217 mX9_fullOf 1 := ⟨zGW_of 1415 (by decide +kernel), im_X9_fullOf, sl_X9_fullOf, iw_X9_init, cd_X9_fullOf, np_X9_fullOf⟩
theorem cw_X9_211 : zcv RX9 211 mX9_of 2 := ⟨zGW_of 1419 (by decide +kernel), im_X9_of, sl_X9_of, iw_X9_init, cd_X9_of, np_X9_of⟩
theorem cw_L_128 : zcv RL 128 mX9_errorPosition 0 := ⟨zGW_of 1424 (by decide +kernel), im_X9_errorPosition, sl_X9_errorPosition, iw_X9_init, cd_X9_errorPosition, np_X9_errorPosition⟩
theorem cw_L_132 : zcv RL 132 mX9_count 1 := ⟨zGW_of 1428 (by decide +kernel), im_X9_count, sl_X9_count, iw_X9_init, cd_X9_count, np_X9_count⟩
theorem cw_X9_236 : zcv RX9 236 mX9_pinned 0 := ⟨zGW_of 1432 (by decide +kernel), im_X9_pinned, sl_X9_pinned, iw_X9_init, cd_X9_pinned, np_X9_pinned⟩
theorem cw_X9_233 : zcv RX9 233 mX9_isPinned 1 := ⟨zGW_of 1436 (by decide +kernel), im_X9_isPinned, sl_X9_isPinned, iw_X9_init, cd_X9_isPinned, np_X9_isPinned⟩
theorem cw_X9_239 : zcv RX9 239 mX9_sizes 0 := ⟨zGW_of 1440 (by decide +kernel), im_X9_sizes, sl_X9_sizes, iw_X9_init, cd_X9_sizes, np_X9_sizes⟩
theorem cw_L_136 : zcv RL 136 mX9_tier 2 := ⟨zGW_of 1444 (by decide +kernel), im_X9_tier, sl_X9_tier, iw_X9_init, cd_X9_tier, np_X9_tier⟩
theorem cw_X9_245 : zcv RX9 245 mX9_isTier 1 := ⟨zGW_of 1448 (by decide +kernel), im_X9_isTier, sl_X9_isTier, iw_X9_init, cd_X9_isTier, np_X9_isTier⟩
theorem cw_X9_248 : zcv RX9 248 mX9_filesOn 1 := ⟨zGW_of 1452 (by decide +kernel), im_X9_filesOn, sl_X9_filesOn, iw_X9_init, cd_X9_filesOn, np_X9_filesOn⟩
theorem cw_X9_251 : zcv RX9 251 mX9_busiest 1 := ⟨zGW_of 1456 (by decide +kernel), im_X9_busiest, sl_X9_busiest, iw_X9_init, cd_X9_busiest, np_X9_busiest⟩
theorem cw_X9_242 : zcv RX9 242 mX9_forecastOf 2 := ⟨zGW_of 1460 (by decide +kernel), im_X9_forecastOf, sl_X9_forecastOf, iw_X9_init, cd_X9_forecastOf, np_X9_forecastOf⟩
theorem cw_X9_220 : zcv RX9 220 mX9_knownOf 1 := ⟨zGW_of 1464 (by decide +kernel), im_X9_knownOf, sl_X9_knownOf, iw_X9_init, cd_X9_knownOf, np_X9_knownOf⟩
theorem cw_X9_223 : zcs RX9 223 mJ9_max_7cf53 2 := ⟨zGW_of 1468 (by decide +kernel), st_J9_max_7cf53, iw_J9_floorMod_7cf53, cd_J9_max_7cf53, np_J9_max_7cf53⟩
theorem cw_L_139 : zcv RL 139 mX9_file 2 := ⟨zGW_of 1471 (by decide +kernel), im_X9_file, sl_X9_file, iw_X9_init, cd_X9_file, np_X9_file⟩
theorem cw_X9_254 : zcv RX9 254 mX9_isFile 1 := ⟨zGW_of 1475 (by decide +kernel), im_X9_isFile, sl_X9_isFile, iw_X9_init, cd_X9_isFile, np_X9_isFile⟩
theorem cw_X9_257 : zcv RX9 257 mX9_seasonsOf 2 := ⟨zGW_of 1479 (by decide +kernel), im_X9_seasonsOf, sl_X9_seasonsOf, iw_X9_init, cd_X9_seasonsOf, np_X9_seasonsOf⟩
theorem cw_L_142 : zcv RL 142 mX9_season 2 := ⟨zGW_of 1483 (by decide +kernel), im_X9_season, sl_X9_season, iw_X9_init, cd_X9_season, np_X9_season⟩
theorem cw_L_145 : zcv RL 145 mX9_kept 2 := ⟨zGW_of 1487 (by decide +kernel), im_X9_kept, sl_X9_kept, iw_X9_init, cd_X9_kept, np_X9_kept⟩
theorem cw_L_148 : zcv RL 148 mX9_forecast 2 := ⟨zGW_of 1491 (by decide +kernel), im_X9_forecast, sl_X9_forecast, iw_X9_init, cd_X9_forecast, np_X9_forecast⟩
theorem cw_L_151 : zcv RL 151 mX9_off 1 := ⟨zGW_of 1495 (by decide +kernel), im_X9_off, sl_X9_off, iw_X9_init, cd_X9_off, np_X9_off⟩
theorem cw_L_156 : zcv RL 156 mX9_meanOff 0 := ⟨zGW_of 1499 (by decide +kernel), im_X9_meanOff, sl_X9_meanOff, iw_X9_init, cd_X9_meanOff, np_X9_meanOff⟩
theorem cw_L_159 : zcv RL 159 mX9_cycleOf 1 := ⟨zGW_of 1503 (by decide +kernel), im_X9_cycleOf, sl_X9_cycleOf, iw_X9_init, cd_X9_cycleOf, np_X9_cycleOf⟩
theorem cw_X9_261 : zcv RX9 261 mX9_ownCycle 1 := ⟨zGW_of 1507 (by decide +kernel), im_X9_ownCycle, sl_X9_ownCycle, iw_X9_init, cd_X9_ownCycle, np_X9_ownCycle⟩
theorem cw_X9_230 : zcv RX9 230 mX9_strange 2 := ⟨zGW_of 1511 (by decide +kernel), im_X9_strange, sl_X9_strange, iw_X9_init, cd_X9_strange, np_X9_strange⟩
theorem cw_L_163 : zcv RL 163 mX9_commonCycle 0 := ⟨zGW_of 1515 (by decide +kernel), im_X9_commonCycle, sl_X9_commonCycle, iw_X9_init, cd_X9_commonCycle, np_X9_commonCycle⟩
theorem cw_L_166 : zcv RL 166 mX9_account 2 := ⟨zGW_of 1519 (by decide +kernel), im_X9_account, sl_X9_account, iw_X9_init, cd_X9_account, np_X9_account⟩
theorem cw_X9_264 : zcv RX9 264 mX9_sumOf 2 := ⟨zGW_of 1523 (by decide +kernel), im_X9_sumOf, sl_X9_sumOf, iw_X9_init, cd_X9_sumOf, np_X9_sumOf⟩
theorem cw_L_171 : zcv RL 171 mX9_movingShare 0 := ⟨zGW_of 1527 (by decide +kernel), im_X9_movingShare, sl_X9_movingShare, iw_X9_init, cd_X9_movingShare, np_X9_movingShare⟩
theorem cw_L_175 : zcv RL 175 mX9_cost 3 := ⟨zGW_of 1531 (by decide +kernel), im_X9_cost, sl_X9_cost, iw_X9_init, cd_X9_cost, np_X9_cost⟩
theorem cw_X9_320 : zcs RX9 320 mX9_isSpan 1 := ⟨zGW_of 1535 (by decide +kernel), st_X9_isSpan, iw_X9_init, cd_X9_isSpan, np_X9_isSpan⟩
theorem cw_X9_270 : zcv RX9 270 mX9_costOn 3 := ⟨zGW_of 1538 (by decide +kernel), im_X9_costOn, sl_X9_costOn, iw_X9_init, cd_X9_costOn, np_X9_costOn⟩
theorem cw_L_178 : zcv RL 178 mX9_wish 2 := ⟨zGW_of 1543 (by decide +kernel), im_X9_wish, sl_X9_wish, iw_X9_init, cd_X9_wish, np_X9_wish⟩
theorem cw_X9_297 : zcv RX9 297 mX9_laysCosts 1 := ⟨zGW_of 1547 (by decide +kernel), im_X9_laysCosts, sl_X9_laysCosts, iw_X9_init, cd_X9_laysCosts, np_X9_laysCosts⟩
theorem cw_X9_290 : zcv RX9 290 mX9_savesBy 3 := ⟨zGW_of 1551 (by decide +kernel), im_X9_savesBy, sl_X9_savesBy, iw_X9_init, cd_X9_savesBy, np_X9_savesBy⟩
theorem cw_L_181 : zcv RL 181 mX9_steps 1 := ⟨zGW_of 1555 (by decide +kernel), im_X9_steps, sl_X9_steps, iw_X9_init, cd_X9_steps, np_X9_steps⟩
theorem cw_X9_323 : zcv RX9 323 mX9_plans 3 := ⟨zGW_of 1559 (by decide +kernel), im_X9_plans, sl_X9_plans, iw_X9_init, cd_X9_plans, np_X9_plans⟩
theorem cw_X9_306 : zcv RX9 306 mX9_findsStep 0 := ⟨zGW_of 1563 (by decide +kernel), im_X9_findsStep, sl_X9_findsStep, iw_X9_init, cd_X9_findsStep, np_X9_findsStep⟩
theorem cw_X9_314 : zcv RX9 314 mX9_findsMove 0 := ⟨zGW_of 1567 (by decide +kernel), im_X9_findsMove, sl_X9_findsMove, iw_X9_init, cd_X9_findsMove, np_X9_findsMove⟩
theorem cw_X9_287 : zcv RX9 287 mX9_canGo 1 := ⟨zGW_of 1571 (by decide +kernel), im_X9_canGo, sl_X9_canGo, iw_X9_init, cd_X9_canGo, np_X9_canGo⟩
theorem cw_X9_293 : zcv RX9 293 mX9_found 4 := ⟨zGW_of 1575 (by decide +kernel), im_X9_found, sl_X9_found, iw_X9_init, cd_X9_found, np_X9_found⟩
theorem cw_X9_317 : zcv RX9 317 mX9_findsExchange 0 := ⟨zGW_of 1579 (by decide +kernel), im_X9_findsExchange, sl_X9_findsExchange, iw_X9_init, cd_X9_findsExchange, np_X9_findsExchange⟩
theorem cw_X9_310 : zcv RX9 310 mX9_goesOnPaper 2 := ⟨zGW_of 1583 (by decide +kernel), im_X9_goesOnPaper, sl_X9_goesOnPaper, iw_X9_init, cd_X9_goesOnPaper, np_X9_goesOnPaper⟩
theorem cw_L_184 : zcv RL 184 mX9_step 3 := ⟨zGW_of 1587 (by decide +kernel), im_X9_step, sl_X9_step, iw_X9_init, cd_X9_step, np_X9_step⟩
theorem cw_L_187 : zcv RL 187 mX9_saving 1 := ⟨zGW_of 1591 (by decide +kernel), im_X9_saving, sl_X9_saving, iw_X9_init, cd_X9_saving, np_X9_saving⟩
theorem cw_L_190 : zcv RL 190 mX9_withRoom 3 := ⟨zGW_of 1595 (by decide +kernel), im_X9_withRoom, sl_X9_withRoom, iw_X9_init, cd_X9_withRoom, np_X9_withRoom⟩
theorem cw_L_193 : zcv RL 193 mX9_add 2 := ⟨zGW_of 1599 (by decide +kernel), im_X9_add, sl_X9_add, iw_X9_init, cd_X9_add, np_X9_add⟩
theorem cw_X9_326 : zcs RX9 326 mX9_refused 1 := ⟨zGW_of 1603 (by decide +kernel), st_X9_refused, iw_X9_init, cd_X9_refused, np_X9_refused⟩
theorem cw_L_196 : zcv RL 196 mX9_drop 1 := ⟨zGW_of 1606 (by decide +kernel), im_X9_drop, sl_X9_drop, iw_X9_init, cd_X9_drop, np_X9_drop⟩
theorem cw_L_199 : zcv RL 199 mX9_use 2 := ⟨zGW_of 1610 (by decide +kernel), im_X9_use, sl_X9_use, iw_X9_init, cd_X9_use, np_X9_use⟩
theorem cw_L_204 : zcv RL 204 mX9_close 0 := ⟨zGW_of 1614 (by decide +kernel), im_X9_close, sl_X9_close, iw_X9_init, cd_X9_close, np_X9_close⟩
theorem cw_X9_337 : zcv RX9 337 mX9_closes 1 := ⟨zGW_of 1619 (by decide +kernel), im_X9_closes, sl_X9_closes, iw_X9_init, cd_X9_closes, np_X9_closes⟩
theorem cw_X9_329 : zcv RX9 329 mX9_pays 3 := ⟨zGW_of 1623 (by decide +kernel), im_X9_pays, sl_X9_pays, iw_X9_init, cd_X9_pays, np_X9_pays⟩
theorem cw_X9_226 : zcv RX9 226 mX9_learns 3 := ⟨zGW_of 1627 (by decide +kernel), im_X9_learns, sl_X9_learns, iw_X9_init, cd_X9_learns, np_X9_learns⟩
theorem cw_X9_332 : zcv RX9 332 mX9_keepsUses 1 := ⟨zGW_of 1631 (by decide +kernel), im_X9_keepsUses, sl_X9_keepsUses, iw_X9_init, cd_X9_keepsUses, np_X9_keepsUses⟩
theorem cw_L_207 : zcv RL 207 mX9_move 2 := ⟨zGW_of 1635 (by decide +kernel), im_X9_move, sl_X9_move, iw_X9_init, cd_X9_move, np_X9_move⟩
theorem cw_X9_342 : zcv RX9 342 mX9_goes 2 := ⟨zGW_of 1639 (by decide +kernel), im_X9_goes, sl_X9_goes, iw_X9_init, cd_X9_goes, np_X9_goes⟩
theorem cw_L_211 : zcv RL 211 mX9_unmove 0 := ⟨zGW_of 1644 (by decide +kernel), im_X9_unmove, sl_X9_unmove, iw_X9_init, cd_X9_unmove, np_X9_unmove⟩
theorem cw_L_214 : zcv RL 214 mX9_pin 2 := ⟨zGW_of 1648 (by decide +kernel), im_X9_pin, sl_X9_pin, iw_X9_init, cd_X9_pin, np_X9_pin⟩
theorem cw_L_217 : zcv RL 217 mX9_act 1 := ⟨zGW_of 1652 (by decide +kernel), im_X9_act, sl_X9_act, iw_X9_init, cd_X9_act, np_X9_act⟩
theorem cw_L_220 : zcv RL 220 mX9_learn 2 := ⟨zGW_of 1656 (by decide +kernel), im_X9_learn, sl_X9_learn, iw_X9_init, cd_X9_learn, np_X9_learn⟩
theorem cw_X9_348 : zcv RX9 348 mX9_relearns 1 := ⟨zGW_of 1660 (by decide +kernel), im_X9_relearns, sl_X9_relearns, iw_X9_init, cd_X9_relearns, np_X9_relearns⟩
theorem cw_L_223 : zcv RL 223 mX9_setTier 3 := ⟨zGW_of 1664 (by decide +kernel), im_X9_setTier, sl_X9_setTier, iw_X9_init, cd_X9_setTier, np_X9_setTier⟩
theorem cw_L_238 : zcv RL 238 mX9_writeTiers 0 := ⟨zGW_of 1668 (by decide +kernel), im_X9_writeTiers, sl_X9_writeTiers, iw_X9_init, cd_X9_writeTiers, np_X9_writeTiers⟩
theorem cw_X9_354 : zcv RX9 354 mX9_says 1 := ⟨zGW_of 1673 (by decide +kernel), im_X9_says, sl_X9_says, iw_X9_init, cd_X9_says, np_X9_says⟩
theorem cw_X9_360 : zcv RX9 360 mX9_saysName 1 := ⟨zGW_of 1677 (by decide +kernel), im_X9_saysName, sl_X9_saysName, iw_X9_init, cd_X9_saysName, np_X9_saysName⟩
theorem cw_L_241 : zcv RL 241 mX9_writtenByte 1 := ⟨zGW_of 1684 (by decide +kernel), im_X9_writtenByte, sl_X9_writtenByte, iw_X9_init, cd_X9_writtenByte, np_X9_writtenByte⟩
theorem nk_L_8 : znk RL 8 8 := ⟨by decide, uw_8, rfl, rfl, zGW_of 105 (by decide +kernel), zGW_of 106 (by decide +kernel), zGW_of 83 (by decide +kernel), tyX8, by decide +kernel, by decide +kernel⟩
theorem nk_X8_7 : znk RX8 7 4 := ⟨by decide, uw_4, rfl, rfl, zGW_of 113 (by decide +kernel), zGW_of 114 (by decide +kernel), zGW_of 84 (by decide +kernel), tyX4, by decide +kernel, by decide +kernel⟩
theorem nk_X8_16 : znk RX8 16 7 := ⟨by decide, uw_7, rfl, rfl, zGW_of 147 (by decide +kernel), zGW_of 148 (by decide +kernel), zGW_of 85 (by decide +kernel), tyX7, by decide +kernel, by decide +kernel⟩
theorem nk_X8_23 : znk RX8 23 3 := ⟨by decide, uw_3, rfl, rfl, zGW_of 162 (by decide +kernel), zGW_of 163 (by decide +kernel), zGW_of 86 (by decide +kernel), tyX3, by decide +kernel, by decide +kernel⟩
theorem nk_X8_30 : znk RX8 30 1 := ⟨by decide, uw_1, rfl, rfl, zGW_of 212 (by decide +kernel), zGW_of 213 (by decide +kernel), zGW_of 87 (by decide +kernel), tyX1, by decide +kernel, by decide +kernel⟩
theorem nk_X1_18 : znk RX1 18 5 := ⟨by decide, uw_5, rfl, rfl, zGW_of 218 (by decide +kernel), zGW_of 220 (by decide +kernel), zGW_of 88 (by decide +kernel), tyX5, by decide +kernel, by decide +kernel⟩
theorem nk_X5_27 : znk RX5 27 6 := ⟨by decide, uw_6, rfl, rfl, zGW_of 225 (by decide +kernel), zGW_of 244 (by decide +kernel), zGW_of 90 (by decide +kernel), tyX6, by decide +kernel, by decide +kernel⟩
theorem nk_X5_33 : znk RX5 33 0 := ⟨by decide, uw_0, rfl, rfl, zGW_of 227 (by decide +kernel), zGW_of 266 (by decide +kernel), zGW_of 91 (by decide +kernel), tyX0, by decide +kernel, by decide +kernel⟩
theorem nk_X5_39 : znk RX5 39 2 := ⟨by decide, uw_2, rfl, rfl, zGW_of 229 (by decide +kernel), zGW_of 230 (by decide +kernel), zGW_of 89 (by decide +kernel), tyX2, by decide +kernel, by decide +kernel⟩
theorem nk_X8_37 : znk RX8 37 5 := ⟨by decide, uw_5, rfl, rfl, zGW_of 376 (by decide +kernel), zGW_of 220 (by decide +kernel), zGW_of 88 (by decide +kernel), tyX5, by decide +kernel, by decide +kernel⟩
theorem nk_L_109 : znk RL 109 9 := ⟨by decide, uw_9, rfl, rfl, zGW_of 1168 (by decide +kernel), zGW_of 1169 (by decide +kernel), zGW_of 92 (by decide +kernel), tyX9, by decide +kernel, by decide +kernel⟩
theorem clw_L_8 : Cond.classLink RL 8 "SeasonTiers" ∈ zGW := zGW_of 105 (by decide +kernel)
theorem ow_X8_1 : Cond.methodLink RX8 1 Lib.objectInit ∈ zGW := zGW_of 110 (by decide +kernel)
theorem clw_X8_7 : Cond.classLink RX8 7 "SeasonTiers$Reader" ∈ zGW := zGW_of 113 (by decide +kernel)
theorem ow_X4_3 : Cond.methodLink RX4 3 Lib.objectInit ∈ zGW := zGW_of 118 (by decide +kernel)
theorem aw_int : Cond.arrayClass .int ∈ zGW := zGW_of 146 (by decide +kernel)
theorem clw_X8_16 : Cond.classLink RX8 16 "SeasonTiers$Writer" ∈ zGW := zGW_of 147 (by decide +kernel)
theorem ow_X7_3 : Cond.methodLink RX7 3 Lib.objectInit ∈ zGW := zGW_of 152 (by decide +kernel)
theorem clw_X8_23 : Cond.classLink RX8 23 "SeasonTiers$Planner" ∈ zGW := zGW_of 162 (by decide +kernel)
theorem ow_X3_3 : Cond.methodLink RX3 3 Lib.objectInit ∈ zGW := zGW_of 167 (by decide +kernel)
theorem aw_long : Cond.arrayClass .long ∈ zGW := zGW_of 210 (by decide +kernel)
theorem aw_boolean : Cond.arrayClass .boolean ∈ zGW := zGW_of 211 (by decide +kernel)
theorem clw_X8_30 : Cond.classLink RX8 30 "SeasonTiers$History" ∈ zGW := zGW_of 212 (by decide +kernel)
theorem ow_X1_3 : Cond.methodLink RX1 3 Lib.objectInit ∈ zGW := zGW_of 217 (by decide +kernel)
theorem clw_X1_18 : Cond.classLink RX1 18 "SeasonTiers$Store" ∈ zGW := zGW_of 218 (by decide +kernel)
theorem ao_5 : Cond.arrayOver (.object RX5) ∈ zNW := zin_nw 219 (by decide +kernel)
theorem ow_X5_3 : Cond.methodLink RX5 3 Lib.objectInit ∈ zGW := zGW_of 224 (by decide +kernel)
theorem clw_X5_27 : Cond.classLink RX5 27 "SeasonTiers$TierRow" ∈ zGW := zGW_of 225 (by decide +kernel)
theorem ao_6 : Cond.arrayOver (.object RX6) ∈ zNW := zin_nw 226 (by decide +kernel)
theorem clw_X5_33 : Cond.classLink RX5 33 "SeasonTiers$FileRow" ∈ zGW := zGW_of 227 (by decide +kernel)
theorem ao_0 : Cond.arrayOver (.object RX0) ∈ zNW := zin_nw 228 (by decide +kernel)
theorem clw_X5_39 : Cond.classLink RX5 39 "SeasonTiers$Moves" ∈ zGW := zGW_of 229 (by decide +kernel)
theorem ow_X2_3 : Cond.methodLink RX2 3 Lib.objectInit ∈ zGW := zGW_of 234 (by decide +kernel)
theorem ow_X6_3 : Cond.methodLink RX6 3 Lib.objectInit ∈ zGW := zGW_of 248 (by decide +kernel)
theorem ow_X0_3 : Cond.methodLink RX0 3 Lib.objectInit ∈ zGW := zGW_of 270 (by decide +kernel)
theorem clw_X8_37 : Cond.classLink RX8 37 "SeasonTiers$Store" ∈ zGW := zGW_of 376 (by decide +kernel)
theorem jw_J0_38 : Cond.fieldLink RJ0 38 "java/lang/String" "COMPACT_STRINGS" "Z" ∈ zGW := zGW_of 462 (by decide +kernel)
theorem jw_J0_1053 : Cond.fieldLink RJ0 1053 "jdk/internal/util/Preconditions" "SIOOBE_FORMATTER" "Ljava/util/function/BiFunction;" ∈ zGW := zGW_of 478 (by decide +kernel)
theorem jw_J2_44 : Cond.fieldLink RJ2 44 "java/lang/StringUTF16" "$assertionsDisabled" "Z" ∈ zGW := zGW_of 496 (by decide +kernel)
theorem jw_J2_59 : Cond.fieldLink RJ2 59 "java/lang/StringUTF16" "HI_BYTE_SHIFT" "I" ∈ zGW := zGW_of 498 (by decide +kernel)
theorem jw_J2_63 : Cond.fieldLink RJ2 63 "java/lang/StringUTF16" "LO_BYTE_SHIFT" "I" ∈ zGW := zGW_of 500 (by decide +kernel)
theorem kw_X4_150 : Cond.constant RX4 150 (99999) ∈ zGW := zGW_of 513 (by decide +kernel)
theorem kw_X8_251 : Cond.constant RX8 251 (99999) ∈ zGW := zGW_of 545 (by decide +kernel)
theorem yw_X0_44 : Cond.methodLink RX0 44 arraycopyName ∈ zGW := zGW_of 597 (by decide +kernel)
theorem yw_X2_19 : Cond.methodLink RX2 19 arraycopyName ∈ zGW := zGW_of 604 (by decide +kernel)
theorem aw_byte : Cond.arrayClass .byte ∈ zGW := zGW_of 606 (by decide +kernel)
theorem kw_X8_267 : Cond.constantLong RX8 267 (-17) ∈ zGW := zGW_of 646 (by decide +kernel)
theorem clw_L_13 : Cond.classLink RL 13 "java/lang/IllegalStateException" ∈ zGW := zGW_of 720 (by decide +kernel)
theorem clw_X8_70 : Cond.classLink RX8 70 "java/lang/IllegalStateException" ∈ zGW := zGW_of 728 (by decide +kernel)
theorem ca_0 : Cond.castable (zXn 0) (zXn 0) ∈ zNW := zin_nw 730 (by decide +kernel)
theorem xi_0 : Cond.methodLink RX8 72 ⟨zXn 0, "<init>", "()V"⟩ ∈ zGW := zGW_of 769 (by decide +kernel)
theorem xw_0 : zxw RX8 0 72 := zxw_of 96 (by decide +kernel) (by decide +kernel)
theorem clw_L_19 : Cond.classLink RL 19 "java/lang/IllegalArgumentException" ∈ zGW := zGW_of 798 (by decide +kernel)
theorem clw_X8_122 : Cond.classLink RX8 122 "java/lang/IllegalArgumentException" ∈ zGW := zGW_of 815 (by decide +kernel)
theorem ca_1 : Cond.castable (zXn 1) (zXn 1) ∈ zNW := zin_nw 817 (by decide +kernel)
theorem xi_1 : Cond.methodLink RX8 124 ⟨zXn 1, "<init>", "()V"⟩ ∈ zGW := zGW_of 824 (by decide +kernel)
theorem xw_1 : zxw RX8 1 124 := zxw_of 103 (by decide +kernel) (by decide +kernel)
theorem clw_L_25 : Cond.classLink RL 25 "java/lang/IndexOutOfBoundsException" ∈ zGW := zGW_of 833 (by decide +kernel)
theorem clw_X8_184 : Cond.classLink RX8 184 "java/lang/IndexOutOfBoundsException" ∈ zGW := zGW_of 842 (by decide +kernel)
theorem ca_2 : Cond.castable (zXn 2) (zXn 2) ∈ zNW := zin_nw 844 (by decide +kernel)
theorem xi_2 : Cond.methodLink RX8 186 ⟨zXn 2, "<init>", "()V"⟩ ∈ zGW := zGW_of 851 (by decide +kernel)
theorem xw_2 : zxw RX8 2 186 := zxw_of 104 (by decide +kernel) (by decide +kernel)
theorem kw_X5_113 : Cond.constantLong RX5 113 (16) ∈ zGW := zGW_of 956 (by decide +kernel)
theorem clw_L_109 : Cond.classLink RL 109 "SeasonTiersModel" ∈ zGW := zGW_of 1168 (by decide +kernel)
theorem ow_X9_1 : Cond.methodLink RX9 1 Lib.objectInit ∈ zGW := zGW_of 1173 (by decide +kernel)
theorem kw_X9_67 : Cond.constantLong RX9 67 (4) ∈ zGW := zGW_of 1178 (by decide +kernel)
theorem kw_X9_61 : Cond.constantLong RX9 61 (2) ∈ zGW := zGW_of 1179 (by decide +kernel)
theorem kw_X9_120 : Cond.constant RX9 120 (1000000) ∈ zGW := zGW_of 1338 (by decide +kernel)
theorem kw_X9_173 : Cond.constant RX9 173 (99999) ∈ zGW := zGW_of 1387 (by decide +kernel)
theorem kw_X9_197 : Cond.constantLong RX9 197 (-1) ∈ zGW := zGW_of 1405 (by decide +kernel)
theorem kw_X9_268 : Cond.constantLong RX9 268 (16) ∈ zGW := zGW_of 1542 (by decide +kernel)
theorem kw_X9_335 : Cond.constantLong RX9 335 (9999) ∈ zGW := zGW_of 1618 (by decide +kernel)
theorem kw_X9_340 : Cond.constantLong RX9 340 (60) ∈ zGW := zGW_of 1643 (by decide +kernel)
theorem kw_X9_358 : Cond.constantLong RX9 358 (32) ∈ zGW := zGW_of 1672 (by decide +kernel)
theorem kw_X9_363 : Cond.constantLong RX9 363 (58) ∈ zGW := zGW_of 1681 (by decide +kernel)
theorem kw_X9_365 : Cond.constantLong RX9 365 (44) ∈ zGW := zGW_of 1682 (by decide +kernel)
theorem kw_X9_367 : Cond.constantLong RX9 367 (45) ∈ zGW := zGW_of 1683 (by decide +kernel)
theorem jw_J0_9 : Cond.fieldLink RJ0 9 "java/lang/String" "value" "[B" ∈ zGW := zGW_of 1689 (by decide +kernel)
theorem jw_J0_15 : Cond.fieldLink RJ0 15 "java/lang/String" "coder" "B" ∈ zGW := zGW_of 1690 (by decide +kernel)
theorem yw_nat : Cond.native arraycopyName ∈ zGW := zGW_of 599 (by decide +kernel)
theorem yw_sta : Cond.static arraycopyName ∈ zGW := zGW_of 598 (by decide +kernel)
theorem yw_ini : Cond.initialized "java/lang/System" ∈ zGW := zGW_of 101 (by decide +kernel)
theorem ow_ins : Cond.instanceMethod Lib.objectInit ∈ zGW := zGW_of 111 (by decide +kernel)
theorem ow_code : Cond.code Lib.objectInit ⟨#[0xb1]⟩ 1 none ∈ zGW := zGW_of 112 (by decide +kernel)
end
section
/-! the class: instructions decoded -/
def kX0_init : List (Nat × Instr × Nat) := [(0, .aload_n 0, 1), (1, .invokespecial 3, 3), (4, .aload_n 0, 1), (5, .lconst 0, 1), (6, .putfield 9, 3), (9, .aload_n 0, 1), (10, .iconst 0, 1), (11, .putfield 15, 3), (14, .aload_n 0, 1), (15, .iconst 0, 1), (16, .putfield 19, 3), (19, .aload_n 0, 1), (20, .iconst 0, 1), (21, .putfield 22, 3), (24, .aload_n 0, 1), (25, .iconst 0, 1), (26, .putfield 25, 3), (29, .aload_n 0, 1), (30, .iconst 0, 1), (31, .putfield 28, 3), (34, .aload_n 0, 1), (35, .lconst 0, 1), (36, .putfield 31, 3), (39, .aload_n 0, 1), (40, .iconst 0, 1), (41, .putfield 34, 3), (44, .aload_n 0, 1), (45, .bipush 24, 2), (47, .newarray .int, 2), (49, .putfield 37, 3), (52, .aload_n 0, 1), (53, .bipush 12, 2), (55, .newarray .int, 2), (57, .putfield 41, 3), (60, .return_, 1)]
theorem hX0_init : zdec (yC mX0_init) kX0_init = true := by decide +kernel
def kX0_copyFrom : List (Nat × Instr × Nat) := [(0, .aload_n 0, 1), (1, .aload_n 1, 1), (2, .getfield 9, 3), (5, .putfield 9, 3), (8, .aload_n 0, 1), (9, .aload_n 1, 1), (10, .getfield 15, 3), (13, .putfield 15, 3), (16, .aload_n 0, 1), (17, .aload_n 1, 1), (18, .getfield 19, 3), (21, .putfield 19, 3), (24, .aload_n 0, 1), (25, .aload_n 1, 1), (26, .getfield 22, 3), (29, .putfield 22, 3), (32, .aload_n 0, 1), (33, .aload_n 1, 1), (34, .getfield 25, 3), (37, .putfield 25, 3), (40, .aload_n 0, 1), (41, .aload_n 1, 1), (42, .getfield 28, 3), (45, .putfield 28, 3), (48, .aload_n 0, 1), (49, .aload_n 1, 1), (50, .getfield 31, 3), (53, .putfield 31, 3), (56, .aload_n 0, 1), (57, .aload_n 1, 1), (58, .getfield 34, 3), (61, .putfield 34, 3), (64, .aload_n 1, 1), (65, .getfield 37, 3), (68, .iconst 0, 1), (69, .aload_n 0, 1), (70, .getfield 37, 3), (73, .iconst 0, 1), (74, .bipush 24, 2), (76, .invokestatic 44, 3), (79, .aload_n 1, 1), (80, .getfield 41, 3), (83, .iconst 0, 1), (84, .aload_n 0, 1), (85, .getfield 41, 3), (88, .iconst 0, 1), (89, .bipush 12, 2), (91, .invokestatic 44, 3), (94, .return_, 1)]
theorem hX0_copyFrom : zdec (yC mX0_copyFrom) kX0_copyFrom = true := by decide +kernel
def kX0_startAs : List (Nat × Instr × Nat) := [(0, .aload_n 0, 1), (1, .lload_n 1, 1), (2, .putfield 9, 3), (5, .aload_n 0, 1), (6, .iload_n 3, 1), (7, .putfield 15, 3), (10, .aload_n 0, 1), (11, .iload 4, 2), (13, .putfield 19, 3), (16, .aload_n 0, 1), (17, .iconst 0, 1), (18, .putfield 22, 3), (21, .aload_n 0, 1), (22, .iload 5, 2), (24, .putfield 25, 3), (27, .aload_n 0, 1), (28, .iconst 0, 1), (29, .putfield 28, 3), (32, .aload_n 0, 1), (33, .lconst 0, 1), (34, .putfield 31, 3), (37, .aload_n 0, 1), (38, .iconst 0, 1), (39, .putfield 34, 3), (42, .aload_n 0, 1), (43, .invokevirtual 50, 3), (46, .return_, 1)]
theorem hX0_startAs : zdec (yC mX0_startAs) kX0_startAs = true := by decide +kernel
def kX0_isPinnedIn : List (Nat × Instr × Nat) := [(0, .iload_n 1, 1), (1, .aload_n 0, 1), (2, .getfield 25, 3), (5, .if_icmp .ge 7, 3), (8, .iconst 1, 1), (9, .goto 4, 3), (12, .iconst 0, 1), (13, .ireturn, 1)]
theorem hX0_isPinnedIn : zdec (yC mX0_isPinnedIn) kX0_isPinnedIn = true := by decide +kernel
def kX0_forgetSeasons : List (Nat × Instr × Nat) := [(0, .iconst 0, 1), (1, .istore_n 1, 1), (2, .iload_n 1, 1), (3, .bipush 12, 2), (5, .if_icmp .ge 16, 3), (8, .aload_n 0, 1), (9, .getfield 41, 3), (12, .iload_n 1, 1), (13, .iconst (-1), 1), (14, .iastore, 1), (15, .iinc 1 1, 3), (18, .goto (-16), 3), (21, .return_, 1)]
theorem hX0_forgetSeasons : zdec (yC mX0_forgetSeasons) kX0_forgetSeasons = true := by decide +kernel
def kX0_knownSeasons : List (Nat × Instr × Nat) := [(0, .iconst 0, 1), (1, .istore_n 1, 1), (2, .iconst 0, 1), (3, .istore_n 2, 1), (4, .iload_n 2, 1), (5, .bipush 12, 2), (7, .if_icmp .ge 22, 3), (10, .aload_n 0, 1), (11, .getfield 41, 3), (14, .iload_n 2, 1), (15, .iaload, 1), (16, .iconst (-1), 1), (17, .if_icmp .eq 6, 3), (20, .iinc 1 1, 3), (23, .iinc 2 1, 3), (26, .goto (-22), 3), (29, .iload_n 1, 1), (30, .ireturn, 1)]
theorem hX0_knownSeasons : zdec (yC mX0_knownSeasons) kX0_knownSeasons = true := by decide +kernel
def kX0_busiestPhase : List (Nat × Instr × Nat) := [(0, .iconst (-1), 1), (1, .istore_n 1, 1), (2, .iconst (-1), 1), (3, .istore_n 2, 1), (4, .iconst 0, 1), (5, .istore_n 3, 1), (6, .iload_n 3, 1), (7, .bipush 12, 2), (9, .if_icmp .ge 28, 3), (12, .aload_n 0, 1), (13, .getfield 41, 3), (16, .iload_n 3, 1), (17, .iaload, 1), (18, .iload_n 2, 1), (19, .if_icmp .le 12, 3), (22, .aload_n 0, 1), (23, .getfield 41, 3), (26, .iload_n 3, 1), (27, .iaload, 1), (28, .istore_n 2, 1), (29, .iload_n 3, 1), (30, .istore_n 1, 1), (31, .iinc 3 1, 3), (34, .goto (-28), 3), (37, .iload_n 1, 1), (38, .ireturn, 1)]
theorem hX0_busiestPhase : zdec (yC mX0_busiestPhase) kX0_busiestPhase = true := by decide +kernel
def kX0_seasonSpread : List (Nat × Instr × Nat) := [(0, .aload_n 0, 1), (1, .invokevirtual 53, 3), (4, .istore_n 1, 1), (5, .iload_n 1, 1), (6, .iconst (-1), 1), (7, .if_icmp .ne 5, 3), (10, .iconst 0, 1), (11, .ireturn, 1), (12, .aload_n 0, 1), (13, .getfield 41, 3), (16, .iload_n 1, 1), (17, .iaload, 1), (18, .istore_n 2, 1), (19, .iload_n 2, 1), (20, .istore_n 3, 1), (21, .iconst 0, 1), (22, .istore 4, 2), (24, .iload 4, 2), (26, .bipush 12, 2), (28, .if_icmp .ge 39, 3), (31, .aload_n 0, 1), (32, .getfield 41, 3), (35, .iload 4, 2), (37, .iaload, 1), (38, .iconst (-1), 1), (39, .if_icmp .eq 22, 3), (42, .aload_n 0, 1), (43, .getfield 41, 3), (46, .iload 4, 2), (48, .iaload, 1), (49, .iload_n 3, 1), (50, .if_icmp .ge 11, 3), (53, .aload_n 0, 1), (54, .getfield 41, 3), (57, .iload 4, 2), (59, .iaload, 1), (60, .istore_n 3, 1), (61, .iinc 4 1, 3), (64, .goto (-40), 3), (67, .iload_n 2, 1), (68, .iload_n 3, 1), (69, .isub, 1), (70, .ireturn, 1)]
theorem hX0_seasonSpread : zdec (yC mX0_seasonSpread) kX0_seasonSpread = true := by decide +kernel
def kX0_meanSeason : List (Nat × Instr × Nat) := [(0, .iconst 0, 1), (1, .istore_n 1, 1), (2, .iconst 0, 1), (3, .istore_n 2, 1), (4, .iconst 0, 1), (5, .istore_n 3, 1), (6, .iload_n 3, 1), (7, .bipush 12, 2), (9, .if_icmp .ge 31, 3), (12, .aload_n 0, 1), (13, .getfield 41, 3), (16, .iload_n 3, 1), (17, .iaload, 1), (18, .iconst (-1), 1), (19, .if_icmp .eq 15, 3), (22, .iload_n 1, 1), (23, .aload_n 0, 1), (24, .getfield 41, 3), (27, .iload_n 3, 1), (28, .iaload, 1), (29, .iadd, 1), (30, .istore_n 1, 1), (31, .iinc 2 1, 3), (34, .iinc 3 1, 3), (37, .goto (-31), 3), (40, .iload_n 2, 1), (41, .ifCond .ne 7, 3), (44, .iconst 0, 1), (45, .goto 6, 3), (48, .iload_n 1, 1), (49, .iload_n 2, 1), (50, .idiv, 1), (51, .ireturn, 1)]
theorem hX0_meanSeason : zdec (yC mX0_meanSeason) kX0_meanSeason = true := by decide +kernel
def kX0_forecastFor : List (Nat × Instr × Nat) := [(0, .aload_n 0, 1), (1, .getfield 41, 3), (4, .iload_n 1, 1), (5, .iaload, 1), (6, .iconst (-1), 1), (7, .if_icmp .eq 12, 3), (10, .aload_n 0, 1), (11, .getfield 41, 3), (14, .iload_n 1, 1), (15, .iaload, 1), (16, .goto 7, 3), (19, .aload_n 0, 1), (20, .invokevirtual 57, 3), (23, .ireturn, 1)]
theorem hX0_forecastFor : zdec (yC mX0_forecastFor) kX0_forecastFor = true := by decide +kernel
def kX0_learnSeason : List (Nat × Instr × Nat) := [(0, .bipush 16, 2), (2, .iload_n 2, 1), (3, .imul, 1), (4, .istore 4, 2), (6, .aload_n 0, 1), (7, .getfield 41, 3), (10, .iload_n 1, 1), (11, .iaload, 1), (12, .istore 5, 2), (14, .aload_n 0, 1), (15, .getfield 41, 3), (18, .iload_n 1, 1), (19, .iload 5, 2), (21, .iconst (-1), 1), (22, .if_icmp .ne 8, 3), (25, .iload 4, 2), (27, .goto 16, 3), (30, .iload 5, 2), (32, .iload 4, 2), (34, .iload 5, 2), (36, .isub, 1), (37, .iload_n 3, 1), (38, .imul, 1), (39, .bipush 8, 2), (41, .idiv, 1), (42, .iadd, 1), (43, .iastore, 1), (44, .return_, 1)]
theorem hX0_learnSeason : zdec (yC mX0_learnSeason) kX0_learnSeason = true := by decide +kernel
def kX0_scoreForecast : List (Nat × Instr × Nat) := [(0, .aload_n 0, 1), (1, .invokevirtual 60, 3), (4, .ifCond .le 39, 3), (7, .aload_n 0, 1), (8, .dup, 1), (9, .getfield 31, 3), (12, .bipush 16, 2), (14, .aload_n 0, 1), (15, .getfield 22, 3), (18, .imul, 1), (19, .aload_n 0, 1), (20, .iload_n 1, 1), (21, .invokevirtual 63, 3), (24, .isub, 1), (25, .invokestatic 67, 3), (28, .i2l, 1), (29, .ladd, 1), (30, .putfield 31, 3), (33, .aload_n 0, 1), (34, .dup, 1), (35, .getfield 28, 3), (38, .iconst 1, 1), (39, .iadd, 1), (40, .putfield 28, 3), (43, .return_, 1)]
theorem hX0_scoreForecast : zdec (yC mX0_scoreForecast) kX0_scoreForecast = true := by decide +kernel
def kX0_keepUses : List (Nat × Instr × Nat) := [(0, .aload_n 0, 1), (1, .getfield 34, 3), (4, .bipush 24, 2), (6, .if_icmp .ne 28, 3), (9, .aload_n 0, 1), (10, .getfield 37, 3), (13, .iconst 1, 1), (14, .aload_n 0, 1), (15, .getfield 37, 3), (18, .iconst 0, 1), (19, .bipush 23, 2), (21, .invokestatic 44, 3), (24, .aload_n 0, 1), (25, .dup, 1), (26, .getfield 34, 3), (29, .iconst 1, 1), (30, .isub, 1), (31, .putfield 34, 3), (34, .aload_n 0, 1), (35, .getfield 37, 3), (38, .aload_n 0, 1), (39, .getfield 34, 3), (42, .aload_n 0, 1), (43, .getfield 22, 3), (46, .iastore, 1), (47, .aload_n 0, 1), (48, .dup, 1), (49, .getfield 34, 3), (52, .iconst 1, 1), (53, .iadd, 1), (54, .putfield 34, 3), (57, .aload_n 0, 1), (58, .iconst 0, 1), (59, .putfield 22, 3), (62, .return_, 1)]
theorem hX0_keepUses : zdec (yC mX0_keepUses) kX0_keepUses = true := by decide +kernel
def kX0_learnFromKept : List (Nat × Instr × Nat) := [(0, .aload_n 0, 1), (1, .invokevirtual 50, 3), (4, .iload_n 1, 1), (5, .aload_n 0, 1), (6, .getfield 34, 3), (9, .isub, 1), (10, .istore 4, 2), (12, .iconst 0, 1), (13, .istore 5, 2), (15, .iload 5, 2), (17, .aload_n 0, 1), (18, .getfield 34, 3), (21, .if_icmp .ge 30, 3), (24, .aload_n 0, 1), (25, .iload 4, 2), (27, .iload 5, 2), (29, .iadd, 1), (30, .iload_n 2, 1), (31, .invokestatic 72, 3), (34, .aload_n 0, 1), (35, .getfield 37, 3), (38, .iload 5, 2), (40, .iaload, 1), (41, .iload_n 3, 1), (42, .invokevirtual 76, 3), (45, .iinc 5 1, 3), (48, .goto (-33), 3), (51, .return_, 1)]
theorem hX0_learnFromKept : zdec (yC mX0_learnFromKept) kX0_learnFromKept = true := by decide +kernel
def kX0_differenceAt : List (Nat × Instr × Nat) := [(0, .iconst 0, 1), (1, .istore_n 2, 1), (2, .iconst 0, 1), (3, .istore_n 3, 1), (4, .iload_n 3, 1), (5, .iload_n 1, 1), (6, .iadd, 1), (7, .aload_n 0, 1), (8, .getfield 34, 3), (11, .if_icmp .ge 30, 3), (14, .iload_n 2, 1), (15, .aload_n 0, 1), (16, .getfield 37, 3), (19, .iload_n 3, 1), (20, .iaload, 1), (21, .aload_n 0, 1), (22, .getfield 37, 3), (25, .iload_n 3, 1), (26, .iload_n 1, 1), (27, .iadd, 1), (28, .iaload, 1), (29, .isub, 1), (30, .invokestatic 67, 3), (33, .iadd, 1), (34, .istore_n 2, 1), (35, .iinc 3 1, 3), (38, .goto (-34), 3), (41, .iload_n 2, 1), (42, .ireturn, 1)]
theorem hX0_differenceAt : zdec (yC mX0_differenceAt) kX0_differenceAt = true := by decide +kernel
def kX0_ownCycle : List (Nat × Instr × Nat) := [(0, .iconst (-1), 1), (1, .istore_n 1, 1), (2, .iconst 0, 1), (3, .istore_n 2, 1), (4, .iconst 1, 1), (5, .istore_n 3, 1), (6, .iconst 2, 1), (7, .istore 4, 2), (9, .iload 4, 2), (11, .bipush 12, 2), (13, .if_icmp .gt 60, 3), (16, .iload 4, 2), (18, .aload_n 0, 1), (19, .getfield 34, 3), (22, .if_icmp .ge 51, 3), (25, .aload_n 0, 1), (26, .iload 4, 2), (28, .invokevirtual 80, 3), (31, .istore 5, 2), (33, .aload_n 0, 1), (34, .getfield 34, 3), (37, .iload 4, 2), (39, .isub, 1), (40, .istore 6, 2), (42, .iload_n 1, 1), (43, .iconst (-1), 1), (44, .if_icmp .eq 14, 3), (47, .iload 5, 2), (49, .iload_n 3, 1), (50, .imul, 1), (51, .iload_n 2, 1), (52, .iload 6, 2), (54, .imul, 1), (55, .if_icmp .ge 12, 3), (58, .iload 4, 2), (60, .istore_n 1, 1), (61, .iload 5, 2), (63, .istore_n 2, 1), (64, .iload 6, 2), (66, .istore_n 3, 1), (67, .iinc 4 1, 3), (70, .goto (-61), 3), (73, .iload_n 1, 1), (74, .ireturn, 1)]
theorem hX0_ownCycle : zdec (yC mX0_ownCycle) kX0_ownCycle = true := by decide +kernel
def kX1_init : List (Nat × Instr × Nat) := [(0, .aload_n 0, 1), (1, .invokespecial 3, 3), (4, .aload_n 0, 1), (5, .iconst 0, 1), (6, .putfield 9, 3), (9, .aload_n 0, 1), (10, .iconst 0, 1), (11, .putfield 15, 3), (14, .aload_n 0, 1), (15, .bipush 8, 2), (17, .anewarray 18, 3), (20, .putfield 20, 3), (23, .iconst 0, 1), (24, .istore_n 1, 1), (25, .iload_n 1, 1), (26, .bipush 8, 2), (28, .if_icmp .ge 22, 3), (31, .aload_n 0, 1), (32, .getfield 20, 3), (35, .iload_n 1, 1), (36, .new 18, 3), (39, .dup, 1), (40, .invokespecial 24, 3), (43, .aastore, 1), (44, .iinc 1 1, 3), (47, .goto (-22), 3), (50, .return_, 1)]
theorem hX1_init : zdec (yC mX1_init) kX1_init = true := by decide +kernel
def kX1_remember : List (Nat × Instr × Nat) := [(0, .aload_n 0, 1), (1, .getfield 20, 3), (4, .aload_n 0, 1), (5, .getfield 15, 3), (8, .aaload, 1), (9, .aload_n 1, 1), (10, .invokevirtual 25, 3), (13, .aload_n 0, 1), (14, .aload_n 0, 1), (15, .getfield 15, 3), (18, .iconst 1, 1), (19, .iadd, 1), (20, .bipush 8, 2), (22, .irem, 1), (23, .putfield 15, 3), (26, .aload_n 0, 1), (27, .getfield 9, 3), (30, .bipush 8, 2), (32, .if_icmp .ge 13, 3), (35, .aload_n 0, 1), (36, .dup, 1), (37, .getfield 9, 3), (40, .iconst 1, 1), (41, .iadd, 1), (42, .putfield 9, 3), (45, .return_, 1)]
theorem hX1_remember : zdec (yC mX1_remember) kX1_remember = true := by decide +kernel
def kX1_bringBack : List (Nat × Instr × Nat) := [(0, .aload_n 0, 1), (1, .aload_n 0, 1), (2, .getfield 15, 3), (5, .bipush 8, 2), (7, .iadd, 1), (8, .iconst 1, 1), (9, .isub, 1), (10, .bipush 8, 2), (12, .irem, 1), (13, .putfield 15, 3), (16, .aload_n 0, 1), (17, .dup, 1), (18, .getfield 9, 3), (21, .iconst 1, 1), (22, .isub, 1), (23, .putfield 9, 3), (26, .aload_n 1, 1), (27, .aload_n 0, 1), (28, .getfield 20, 3), (31, .aload_n 0, 1), (32, .getfield 15, 3), (35, .aaload, 1), (36, .invokevirtual 25, 3), (39, .return_, 1)]
theorem hX1_bringBack : zdec (yC mX1_bringBack) kX1_bringBack = true := by decide +kernel
def kX2_init : List (Nat × Instr × Nat) := [(0, .aload_n 0, 1), (1, .invokespecial 3, 3), (4, .aload_n 0, 1), (5, .iconst 0, 1), (6, .putfield 9, 3), (9, .aload_n 0, 1), (10, .sipush 300, 3), (13, .newarray .int, 2), (15, .putfield 15, 3), (18, .return_, 1)]
theorem hX2_init : zdec (yC mX2_init) kX2_init = true := by decide +kernel
def kX2_copyFrom : List (Nat × Instr × Nat) := [(0, .aload_n 0, 1), (1, .aload_n 1, 1), (2, .getfield 9, 3), (5, .putfield 9, 3), (8, .aload_n 1, 1), (9, .getfield 15, 3), (12, .iconst 0, 1), (13, .aload_n 0, 1), (14, .getfield 15, 3), (17, .iconst 0, 1), (18, .aload_n 0, 1), (19, .getfield 9, 3), (22, .iconst 5, 1), (23, .imul, 1), (24, .invokestatic 19, 3), (27, .return_, 1)]
theorem hX2_copyFrom : zdec (yC mX2_copyFrom) kX2_copyFrom = true := by decide +kernel
def kX2_latest : List (Nat × Instr × Nat) := [(0, .aload_n 0, 1), (1, .getfield 15, 3), (4, .aload_n 0, 1), (5, .getfield 9, 3), (8, .iconst 1, 1), (9, .isub, 1), (10, .iconst 5, 1), (11, .imul, 1), (12, .iload_n 1, 1), (13, .iadd, 1), (14, .iaload, 1), (15, .ireturn, 1)]
theorem hX2_latest : zdec (yC mX2_latest) kX2_latest = true := by decide +kernel
def kX2_put : List (Nat × Instr × Nat) := [(0, .aload_n 0, 1), (1, .getfield 9, 3), (4, .bipush 60, 2), (6, .if_icmp .ne 8, 3), (9, .aload_n 0, 1), (10, .iconst 0, 1), (11, .invokevirtual 25, 3), (14, .aload_n 0, 1), (15, .getfield 9, 3), (18, .iconst 5, 1), (19, .imul, 1), (20, .istore 6, 2), (22, .aload_n 0, 1), (23, .getfield 15, 3), (26, .iload 6, 2), (28, .iconst 0, 1), (29, .iadd, 1), (30, .iload_n 1, 1), (31, .iastore, 1), (32, .aload_n 0, 1), (33, .getfield 15, 3), (36, .iload 6, 2), (38, .iconst 1, 1), (39, .iadd, 1), (40, .iload_n 2, 1), (41, .iastore, 1), (42, .aload_n 0, 1), (43, .getfield 15, 3), (46, .iload 6, 2), (48, .iconst 2, 1), (49, .iadd, 1), (50, .iload_n 3, 1), (51, .iastore, 1), (52, .aload_n 0, 1), (53, .getfield 15, 3), (56, .iload 6, 2), (58, .iconst 3, 1), (59, .iadd, 1), (60, .iload 4, 2), (62, .iastore, 1), (63, .aload_n 0, 1), (64, .getfield 15, 3), (67, .iload 6, 2), (69, .iconst 4, 1), (70, .iadd, 1), (71, .iload 5, 2), (73, .iastore, 1), (74, .aload_n 0, 1), (75, .dup, 1), (76, .getfield 9, 3), (79, .iconst 1, 1), (80, .iadd, 1), (81, .putfield 9, 3), (84, .return_, 1)]
theorem hX2_put : zdec (yC mX2_put) kX2_put = true := by decide +kernel
def kX2_removeRow : List (Nat × Instr × Nat) := [(0, .iload_n 1, 1), (1, .iconst 5, 1), (2, .imul, 1), (3, .istore_n 2, 1), (4, .aload_n 0, 1), (5, .getfield 15, 3), (8, .iload_n 2, 1), (9, .iconst 5, 1), (10, .iadd, 1), (11, .aload_n 0, 1), (12, .getfield 15, 3), (15, .iload_n 2, 1), (16, .aload_n 0, 1), (17, .getfield 9, 3), (20, .iload_n 1, 1), (21, .isub, 1), (22, .iconst 1, 1), (23, .isub, 1), (24, .iconst 5, 1), (25, .imul, 1), (26, .invokestatic 19, 3), (29, .aload_n 0, 1), (30, .dup, 1), (31, .getfield 9, 3), (34, .iconst 1, 1), (35, .isub, 1), (36, .putfield 9, 3), (39, .return_, 1)]
theorem hX2_removeRow : zdec (yC mX2_removeRow) kX2_removeRow = true := by decide +kernel
def kX2_forgetFile : List (Nat × Instr × Nat) := [(0, .aload_n 0, 1), (1, .getfield 9, 3), (4, .iconst 1, 1), (5, .isub, 1), (6, .istore_n 2, 1), (7, .iload_n 2, 1), (8, .ifCond .lt 51, 3), (11, .aload_n 0, 1), (12, .getfield 15, 3), (15, .iload_n 2, 1), (16, .iconst 5, 1), (17, .imul, 1), (18, .iconst 0, 1), (19, .iadd, 1), (20, .iaload, 1), (21, .istore_n 3, 1), (22, .iload_n 3, 1), (23, .iload_n 1, 1), (24, .if_icmp .ne 11, 3), (27, .aload_n 0, 1), (28, .iload_n 2, 1), (29, .invokevirtual 25, 3), (32, .goto 21, 3), (35, .iload_n 3, 1), (36, .iload_n 1, 1), (37, .if_icmp .le 16, 3), (40, .aload_n 0, 1), (41, .getfield 15, 3), (44, .iload_n 2, 1), (45, .iconst 5, 1), (46, .imul, 1), (47, .iconst 0, 1), (48, .iadd, 1), (49, .iload_n 3, 1), (50, .iconst 1, 1), (51, .isub, 1), (52, .iastore, 1), (53, .iinc 2 (-1), 3), (56, .goto (-49), 3), (59, .return_, 1)]
theorem hX2_forgetFile : zdec (yC mX2_forgetFile) kX2_forgetFile = true := by decide +kernel
def kX3_init : List (Nat × Instr × Nat) := [(0, .aload_n 0, 1), (1, .invokespecial 3, 3), (4, .aload_n 0, 1), (5, .iconst 0, 1), (6, .putfield 9, 3), (9, .aload_n 0, 1), (10, .lconst 0, 1), (11, .putfield 15, 3), (14, .aload_n 0, 1), (15, .bipush 20, 2), (17, .newarray .int, 2), (19, .putfield 19, 3), (22, .aload_n 0, 1), (23, .bipush 20, 2), (25, .newarray .int, 2), (27, .putfield 23, 3), (30, .aload_n 0, 1), (31, .bipush 20, 2), (33, .newarray .int, 2), (35, .putfield 26, 3), (38, .aload_n 0, 1), (39, .bipush 80, 2), (41, .newarray .long, 2), (43, .putfield 29, 3), (46, .aload_n 0, 1), (47, .bipush 20, 2), (49, .newarray .boolean, 2), (51, .putfield 33, 3), (54, .aload_n 0, 1), (55, .iconst 4, 1), (56, .newarray .int, 2), (58, .putfield 37, 3), (61, .aload_n 0, 1), (62, .iconst (-1), 1), (63, .putfield 40, 3), (66, .aload_n 0, 1), (67, .iconst (-1), 1), (68, .putfield 43, 3), (71, .aload_n 0, 1), (72, .iconst (-1), 1), (73, .putfield 46, 3), (76, .aload_n 0, 1), (77, .lconst 0, 1), (78, .putfield 49, 3), (81, .return_, 1)]
theorem hX3_init : zdec (yC mX3_init) kX3_init = true := by decide +kernel
def kX3_makePlan : List (Nat × Instr × Nat) := [(0, .iconst 0, 1), (1, .istore_n 3, 1), (2, .iload_n 3, 1), (3, .aload_n 1, 1), (4, .getfield 52, 3), (7, .if_icmp .ge 16, 3), (10, .aload_n 0, 1), (11, .aload_n 1, 1), (12, .iload_n 3, 1), (13, .iload_n 2, 1), (14, .invokevirtual 57, 3), (17, .iinc 3 1, 3), (20, .goto (-18), 3), (23, .aload_n 0, 1), (24, .aload_n 1, 1), (25, .iconst 0, 1), (26, .iconst 0, 1), (27, .invokevirtual 61, 3), (30, .return_, 1)]
theorem hX3_makePlan : zdec (yC mX3_makePlan) kX3_makePlan = true := by decide +kernel
def kX3_planAgain_0 : List (Nat × Instr × Nat) := [(0, .aload_n 0, 1), (1, .iconst 0, 1), (2, .putfield 9, 3), (5, .aload_n 0, 1), (6, .lconst 0, 1), (7, .putfield 15, 3), (10, .iconst 0, 1), (11, .istore 4, 2), (13, .iload 4, 2), (15, .aload_n 1, 1), (16, .getfield 64, 3), (19, .if_icmp .ge 35, 3), (22, .aload_n 0, 1), (23, .getfield 37, 3), (26, .iload 4, 2), (28, .aload_n 1, 1), (29, .getfield 67, 3), (32, .iload 4, 2), (34, .aaload, 1), (35, .getfield 71, 3), (38, .iconst 0, 1), (39, .iaload, 1), (40, .aload_n 1, 1), (41, .iload 4, 2), (43, .invokevirtual 76, 3), (46, .isub, 1), (47, .iastore, 1), (48, .iinc 4 1, 3), (51, .goto (-38), 3), (54, .aload_n 0, 1), (55, .getfield 37, 3), (58, .iload_n 2, 1), (59, .dup2, 1), (60, .iaload, 1), (61, .iload_n 3, 1), (62, .iadd, 1), (63, .iastore, 1), (64, .iconst 0, 1), (65, .istore 4, 2), (67, .iload 4, 2), (69, .aload_n 1, 1), (70, .getfield 52, 3), (73, .if_icmp .ge 38, 3), (76, .aload_n 0, 1), (77, .getfield 33, 3), (80, .iload 4, 2), (82, .aload_n 1, 1), (83, .getfield 80, 3), (86, .iload 4, 2), (88, .aaload, 1), (89, .aload_n 1, 1), (90, .getfield 84, 3), (93, .invokevirtual 87, 3), (96, .ifCond .ne 7, 3), (99, .iconst 1, 1), (100, .goto 4, 3), (103, .iconst 0, 1), (104, .bastore, 1), (105, .iinc 4 1, 3), (108, .goto (-41), 3)]
theorem hX3_planAgain_0 : zdec (yC mX3_planAgain) kX3_planAgain_0 = true := by decide +kernel
def kX3_planAgain_1 : List (Nat × Instr × Nat) := [(111, .iconst 0, 1), (112, .istore 4, 2), (114, .iload 4, 2), (116, .bipush 20, 2), (118, .if_icmp .ge 30, 3), (121, .aload_n 0, 1), (122, .aload_n 1, 1), (123, .invokevirtual 93, 3), (126, .ifCond .ne 11, 3), (129, .aload_n 0, 1), (130, .aload_n 1, 1), (131, .invokevirtual 97, 3), (134, .ifCond .eq 14, 3), (137, .aload_n 0, 1), (138, .aload_n 1, 1), (139, .invokevirtual 100, 3), (142, .iinc 4 1, 3), (145, .goto (-31), 3), (148, .return_, 1)]
theorem hX3_planAgain_1 : zdec (yC mX3_planAgain) kX3_planAgain_1 = true := by decide +kernel
def kX3_bestTier : List (Nat × Instr × Nat) := [(0, .aload_n 0, 1), (1, .aload_n 1, 1), (2, .iload_n 2, 1), (3, .iload_n 3, 1), (4, .invokevirtual 57, 3), (7, .aload_n 1, 1), (8, .getfield 80, 3), (11, .iload_n 2, 1), (12, .aaload, 1), (13, .getfield 104, 3), (16, .istore 4, 2), (18, .lconst 0, 1), (19, .lstore 5, 2), (21, .iconst 0, 1), (22, .istore 7, 2), (24, .iload 7, 2), (26, .aload_n 1, 1), (27, .getfield 64, 3), (30, .if_icmp .ge 43, 3), (33, .aload_n 0, 1), (34, .getfield 29, 3), (37, .iload_n 2, 1), (38, .iconst 4, 1), (39, .imul, 1), (40, .iload 7, 2), (42, .iadd, 1), (43, .laload, 1), (44, .lload 5, 2), (46, .lcmp, 1), (47, .ifCond .le 20, 3), (50, .aload_n 0, 1), (51, .getfield 29, 3), (54, .iload_n 2, 1), (55, .iconst 4, 1), (56, .imul, 1), (57, .iload 7, 2), (59, .iadd, 1), (60, .laload, 1), (61, .lstore 5, 2), (63, .iload 7, 2), (65, .istore 4, 2), (67, .iinc 7 1, 3), (70, .goto (-46), 3), (73, .iload 4, 2), (75, .ireturn, 1)]
theorem hX3_bestTier : zdec (yC mX3_bestTier) kX3_bestTier = true := by decide +kernel
def kX3_carryOut : List (Nat × Instr × Nat) := [(0, .iconst 0, 1), (1, .istore_n 2, 1), (2, .iconst 0, 1), (3, .istore_n 3, 1), (4, .iload_n 3, 1), (5, .aload_n 0, 1), (6, .getfield 9, 3), (9, .if_icmp .ge 71, 3), (12, .aload_n 1, 1), (13, .getfield 80, 3), (16, .aload_n 0, 1), (17, .getfield 19, 3), (20, .iload_n 3, 1), (21, .iaload, 1), (22, .aaload, 1), (23, .getfield 104, 3), (26, .istore 4, 2), (28, .aload_n 1, 1), (29, .aload_n 0, 1), (30, .getfield 19, 3), (33, .iload_n 3, 1), (34, .iaload, 1), (35, .aload_n 0, 1), (36, .getfield 26, 3), (39, .iload_n 3, 1), (40, .iaload, 1), (41, .invokevirtual 107, 3), (44, .pop, 1), (45, .iinc 2 1, 3), (48, .aload_n 0, 1), (49, .getfield 23, 3), (52, .iload_n 3, 1), (53, .iaload, 1), (54, .iconst (-1), 1), (55, .if_icmp .eq 19, 3), (58, .aload_n 1, 1), (59, .aload_n 0, 1), (60, .getfield 23, 3), (63, .iload_n 3, 1), (64, .iaload, 1), (65, .iload 4, 2), (67, .invokevirtual 107, 3), (70, .pop, 1), (71, .iinc 2 1, 3), (74, .iinc 3 1, 3), (77, .goto (-73), 3), (80, .iload_n 2, 1), (81, .ireturn, 1)]
theorem hX3_carryOut : zdec (yC mX3_carryOut) kX3_carryOut = true := by decide +kernel
def kX3_findGains : List (Nat × Instr × Nat) := [(0, .aload_n 1, 1), (1, .getfield 80, 3), (4, .iload_n 2, 1), (5, .aaload, 1), (6, .getfield 104, 3), (9, .istore 4, 2), (11, .aload_n 1, 1), (12, .iload_n 2, 1), (13, .iload_n 3, 1), (14, .invokevirtual 111, 3), (17, .lstore 5, 2), (19, .aload_n 1, 1), (20, .iload_n 2, 1), (21, .iload 4, 2), (23, .iload_n 3, 1), (24, .lload 5, 2), (26, .invokevirtual 115, 3), (29, .lstore 7, 2), (31, .iconst 0, 1), (32, .istore 9, 2), (34, .iload 9, 2), (36, .aload_n 1, 1), (37, .getfield 64, 3), (40, .if_icmp .ge 55, 3), (43, .aload_n 0, 1), (44, .getfield 29, 3), (47, .iload_n 2, 1), (48, .iconst 4, 1), (49, .imul, 1), (50, .iload 9, 2), (52, .iadd, 1), (53, .iload 9, 2), (55, .iload 4, 2), (57, .if_icmp .ne 7, 3), (60, .lconst 0, 1), (61, .goto 27, 3), (64, .lload 7, 2), (66, .aload_n 1, 1), (67, .iload_n 2, 1), (68, .iload 9, 2), (70, .iload_n 3, 1), (71, .lload 5, 2), (73, .invokevirtual 115, 3), (76, .lsub, 1), (77, .aload_n 1, 1), (78, .iload_n 2, 1), (79, .iload 4, 2), (81, .iload 9, 2), (83, .invokevirtual 119, 3), (86, .i2l, 1), (87, .lsub, 1), (88, .lastore, 1), (89, .iinc 9 1, 3), (92, .goto (-58), 3), (95, .return_, 1)]
theorem hX3_findGains : zdec (yC mX3_findGains) kX3_findGains = true := by decide +kernel
def kX3_findMove_0 : List (Nat × Instr × Nat) := [(0, .aload_n 0, 1), (1, .lconst 0, 1), (2, .putfield 49, 3), (5, .iconst 0, 1), (6, .istore_n 2, 1), (7, .iload_n 2, 1), (8, .aload_n 1, 1), (9, .getfield 52, 3), (12, .if_icmp .ge 83, 3), (15, .iconst 0, 1), (16, .istore_n 3, 1), (17, .aload_n 0, 1), (18, .getfield 33, 3), (21, .iload_n 2, 1), (22, .baload, 1), (23, .ifCond .eq 66, 3), (26, .iload_n 3, 1), (27, .aload_n 1, 1), (28, .getfield 64, 3), (31, .if_icmp .ge 58, 3), (34, .aload_n 0, 1), (35, .getfield 29, 3), (38, .iload_n 2, 1), (39, .iconst 4, 1), (40, .imul, 1), (41, .iload_n 3, 1), (42, .iadd, 1), (43, .laload, 1), (44, .lstore 4, 2), (46, .lload 4, 2), (48, .aload_n 0, 1), (49, .getfield 49, 3), (52, .lcmp, 1), (53, .ifCond .le 30, 3), (56, .aload_n 1, 1), (57, .getfield 80, 3), (60, .iload_n 2, 1), (61, .aaload, 1), (62, .getfield 123, 3), (65, .aload_n 0, 1), (66, .getfield 37, 3), (69, .iload_n 3, 1), (70, .iaload, 1), (71, .if_icmp .gt 12, 3), (74, .aload_n 0, 1), (75, .iload_n 2, 1), (76, .iconst (-1), 1), (77, .iload_n 3, 1), (78, .lload 4, 2), (80, .invokevirtual 126, 3), (83, .iinc 3 1, 3), (86, .goto (-69), 3), (89, .iinc 2 1, 3), (92, .goto (-85), 3), (95, .aload_n 0, 1), (96, .getfield 49, 3), (99, .lconst 0, 1), (100, .lcmp, 1), (101, .ifCond .le 7, 3), (104, .iconst 1, 1)]
theorem hX3_findMove_0 : zdec (yC mX3_findMove) kX3_findMove_0 = true := by decide +kernel
def kX3_findMove_1 : List (Nat × Instr × Nat) := [(105, .goto 4, 3), (108, .iconst 0, 1), (109, .ireturn, 1)]
theorem hX3_findMove_1 : zdec (yC mX3_findMove) kX3_findMove_1 = true := by decide +kernel
def kX3_findExchange_0 : List (Nat × Instr × Nat) := [(0, .aload_n 0, 1), (1, .lconst 0, 1), (2, .putfield 49, 3), (5, .iconst 0, 1), (6, .istore_n 2, 1), (7, .iload_n 2, 1), (8, .aload_n 1, 1), (9, .getfield 52, 3), (12, .if_icmp .ge 165, 3), (15, .iload_n 2, 1), (16, .iconst 1, 1), (17, .iadd, 1), (18, .istore_n 3, 1), (19, .aload_n 0, 1), (20, .getfield 33, 3), (23, .iload_n 2, 1), (24, .baload, 1), (25, .ifCond .eq 146, 3), (28, .iload_n 3, 1), (29, .aload_n 1, 1), (30, .getfield 52, 3), (33, .if_icmp .ge 138, 3), (36, .aload_n 1, 1), (37, .getfield 80, 3), (40, .iload_n 2, 1), (41, .aaload, 1), (42, .getfield 104, 3), (45, .istore 4, 2), (47, .aload_n 1, 1), (48, .getfield 80, 3), (51, .iload_n 3, 1), (52, .aaload, 1), (53, .getfield 104, 3), (56, .istore 5, 2), (58, .aload_n 0, 1), (59, .getfield 29, 3), (62, .iload_n 2, 1), (63, .iconst 4, 1), (64, .imul, 1), (65, .iload 5, 2), (67, .iadd, 1), (68, .laload, 1), (69, .aload_n 0, 1), (70, .getfield 29, 3), (73, .iload_n 3, 1), (74, .iconst 4, 1), (75, .imul, 1), (76, .iload 4, 2), (78, .iadd, 1), (79, .laload, 1), (80, .ladd, 1), (81, .lstore 6, 2), (83, .aload_n 1, 1), (84, .getfield 80, 3), (87, .iload_n 3, 1), (88, .aaload, 1), (89, .getfield 123, 3), (92, .aload_n 1, 1), (93, .getfield 80, 3), (96, .iload_n 2, 1)]
theorem hX3_findExchange_0 : zdec (yC mX3_findExchange) kX3_findExchange_0 = true := by decide +kernel
def kX3_findExchange_1 : List (Nat × Instr × Nat) := [(97, .aaload, 1), (98, .getfield 123, 3), (101, .isub, 1), (102, .istore 8, 2), (104, .aload_n 0, 1), (105, .getfield 33, 3), (108, .iload_n 3, 1), (109, .baload, 1), (110, .ifCond .eq 55, 3), (113, .iload 4, 2), (115, .iload 5, 2), (117, .if_icmp .eq 48, 3), (120, .lload 6, 2), (122, .aload_n 0, 1), (123, .getfield 49, 3), (126, .lcmp, 1), (127, .ifCond .le 38, 3), (130, .iload 8, 2), (132, .aload_n 0, 1), (133, .getfield 37, 3), (136, .iload 4, 2), (138, .iaload, 1), (139, .if_icmp .gt 26, 3), (142, .iload 8, 2), (144, .ineg, 1), (145, .aload_n 0, 1), (146, .getfield 37, 3), (149, .iload 5, 2), (151, .iaload, 1), (152, .if_icmp .gt 13, 3), (155, .aload_n 0, 1), (156, .iload_n 2, 1), (157, .iload_n 3, 1), (158, .iload 5, 2), (160, .lload 6, 2), (162, .invokevirtual 126, 3), (165, .iinc 3 1, 3), (168, .goto (-149), 3), (171, .iinc 2 1, 3), (174, .goto (-167), 3), (177, .aload_n 0, 1), (178, .getfield 49, 3), (181, .lconst 0, 1), (182, .lcmp, 1), (183, .ifCond .le 7, 3), (186, .iconst 1, 1), (187, .goto 4, 3), (190, .iconst 0, 1), (191, .ireturn, 1)]
theorem hX3_findExchange_1 : zdec (yC mX3_findExchange) kX3_findExchange_1 = true := by decide +kernel
def kX3_setBest : List (Nat × Instr × Nat) := [(0, .aload_n 0, 1), (1, .iload_n 1, 1), (2, .putfield 40, 3), (5, .aload_n 0, 1), (6, .iload_n 2, 1), (7, .putfield 43, 3), (10, .aload_n 0, 1), (11, .iload_n 3, 1), (12, .putfield 46, 3), (15, .aload_n 0, 1), (16, .lload 4, 2), (18, .putfield 49, 3), (21, .return_, 1)]
theorem hX3_setBest : zdec (yC mX3_setBest) kX3_setBest = true := by decide +kernel
def kX3_takeStep_0 : List (Nat × Instr × Nat) := [(0, .aload_n 0, 1), (1, .getfield 19, 3), (4, .aload_n 0, 1), (5, .getfield 9, 3), (8, .aload_n 0, 1), (9, .getfield 40, 3), (12, .iastore, 1), (13, .aload_n 0, 1), (14, .getfield 23, 3), (17, .aload_n 0, 1), (18, .getfield 9, 3), (21, .aload_n 0, 1), (22, .getfield 43, 3), (25, .iastore, 1), (26, .aload_n 0, 1), (27, .getfield 26, 3), (30, .aload_n 0, 1), (31, .getfield 9, 3), (34, .aload_n 0, 1), (35, .getfield 46, 3), (38, .iastore, 1), (39, .aload_n 0, 1), (40, .dup, 1), (41, .getfield 9, 3), (44, .iconst 1, 1), (45, .iadd, 1), (46, .putfield 9, 3), (49, .aload_n 0, 1), (50, .dup, 1), (51, .getfield 15, 3), (54, .aload_n 0, 1), (55, .getfield 49, 3), (58, .ladd, 1), (59, .putfield 15, 3), (62, .aload_n 1, 1), (63, .getfield 80, 3), (66, .aload_n 0, 1), (67, .getfield 40, 3), (70, .aaload, 1), (71, .getfield 104, 3), (74, .istore_n 2, 1), (75, .aload_n 0, 1), (76, .aload_n 0, 1), (77, .getfield 40, 3), (80, .aload_n 1, 1), (81, .getfield 80, 3), (84, .aload_n 0, 1), (85, .getfield 40, 3), (88, .aaload, 1), (89, .getfield 123, 3), (92, .iload_n 2, 1), (93, .aload_n 0, 1), (94, .getfield 46, 3), (97, .invokevirtual 130, 3), (100, .aload_n 0, 1), (101, .getfield 43, 3), (104, .iconst (-1), 1), (105, .if_icmp .eq 28, 3), (108, .aload_n 0, 1), (109, .aload_n 0, 1)]
theorem hX3_takeStep_0 : zdec (yC mX3_takeStep) kX3_takeStep_0 = true := by decide +kernel
def kX3_takeStep_1 : List (Nat × Instr × Nat) := [(110, .getfield 43, 3), (113, .aload_n 1, 1), (114, .getfield 80, 3), (117, .aload_n 0, 1), (118, .getfield 43, 3), (121, .aaload, 1), (122, .getfield 123, 3), (125, .aload_n 0, 1), (126, .getfield 46, 3), (129, .iload_n 2, 1), (130, .invokevirtual 130, 3), (133, .return_, 1)]
theorem hX3_takeStep_1 : zdec (yC mX3_takeStep) kX3_takeStep_1 = true := by decide +kernel
def kX3_takeAway : List (Nat × Instr × Nat) := [(0, .aload_n 0, 1), (1, .getfield 33, 3), (4, .iload_n 1, 1), (5, .iconst 0, 1), (6, .bastore, 1), (7, .aload_n 0, 1), (8, .getfield 37, 3), (11, .iload_n 3, 1), (12, .dup2, 1), (13, .iaload, 1), (14, .iload_n 2, 1), (15, .iadd, 1), (16, .iastore, 1), (17, .aload_n 0, 1), (18, .getfield 37, 3), (21, .iload 4, 2), (23, .dup2, 1), (24, .iaload, 1), (25, .iload_n 2, 1), (26, .isub, 1), (27, .iastore, 1), (28, .return_, 1)]
theorem hX3_takeAway : zdec (yC mX3_takeAway) kX3_takeAway = true := by decide +kernel
def kX4_init : List (Nat × Instr × Nat) := [(0, .aload_n 0, 1), (1, .invokespecial 3, 3), (4, .aload_n 0, 1), (5, .iconst 0, 1), (6, .putfield 9, 3), (9, .aload_n 0, 1), (10, .iconst (-1), 1), (11, .putfield 15, 3), (14, .aload_n 0, 1), (15, .sipush 600, 3), (18, .newarray .int, 2), (20, .putfield 18, 3), (23, .aload_n 0, 1), (24, .iconst 0, 1), (25, .putfield 22, 3), (28, .aload_n 0, 1), (29, .iconst 0, 1), (30, .putfield 25, 3), (33, .aload_n 0, 1), (34, .iconst 0, 1), (35, .putfield 28, 3), (38, .aload_n 0, 1), (39, .lconst 0, 1), (40, .putfield 31, 3), (43, .aload_n 0, 1), (44, .iconst 0, 1), (45, .putfield 35, 3), (48, .return_, 1)]
theorem hX4_init : zdec (yC mX4_init) kX4_init = true := by decide +kernel
def kX4_putBytesOf : List (Nat × Instr × Nat) := [(0, .bipush 24, 2), (2, .istore_n 2, 1), (3, .iload_n 2, 1), (4, .ifCond .lt 51, 3), (7, .iload_n 1, 1), (8, .iload_n 2, 1), (9, .ishr, 1), (10, .sipush 255, 3), (13, .iand, 1), (14, .istore_n 3, 1), (15, .iload_n 3, 1), (16, .ifCond .eq 33, 3), (19, .aload_n 0, 1), (20, .getfield 9, 3), (23, .sipush 600, 3), (26, .if_icmp .ge 23, 3), (29, .aload_n 0, 1), (30, .getfield 18, 3), (33, .aload_n 0, 1), (34, .getfield 9, 3), (37, .iload_n 3, 1), (38, .iastore, 1), (39, .aload_n 0, 1), (40, .dup, 1), (41, .getfield 9, 3), (44, .iconst 1, 1), (45, .iadd, 1), (46, .putfield 9, 3), (49, .iinc 2 (-8), 3), (52, .goto (-49), 3), (55, .return_, 1)]
theorem hX4_putBytesOf : zdec (yC mX4_putBytesOf) kX4_putBytesOf = true := by decide +kernel
def kX4_readStore : List (Nat × Instr × Nat) := [(0, .aload_n 0, 1), (1, .iconst 0, 1), (2, .putfield 22, 3), (5, .aload_n 0, 1), (6, .iconst (-1), 1), (7, .putfield 15, 3), (10, .aload_n 0, 1), (11, .aload_n 1, 1), (12, .invokevirtual 38, 3), (15, .ifCond .eq 23, 3), (18, .aload_n 0, 1), (19, .aload_n 1, 1), (20, .invokevirtual 42, 3), (23, .ifCond .eq 15, 3), (26, .aload_n 0, 1), (27, .aload_n 1, 1), (28, .invokevirtual 45, 3), (31, .ifCond .eq 7, 3), (34, .iconst 1, 1), (35, .goto 4, 3), (38, .iconst 0, 1), (39, .istore_n 2, 1), (40, .aload_n 0, 1), (41, .iconst 0, 1), (42, .putfield 9, 3), (45, .iload_n 2, 1), (46, .ifCond .eq 10, 3), (49, .aload_n 1, 1), (50, .getfield 48, 3), (53, .goto 7, 3), (56, .aload_n 0, 1), (57, .getfield 25, 3), (60, .ireturn, 1)]
theorem hX4_readStore : zdec (yC mX4_readStore) kX4_readStore = true := by decide +kernel
def kX4_readHead : List (Nat × Instr × Nat) := [(0, .aload_n 0, 1), (1, .ldc 53, 2), (3, .invokevirtual 55, 3), (6, .ifCond .eq 13, 3), (9, .aload_n 0, 1), (10, .iconst 2, 1), (11, .bipush 12, 2), (13, .invokevirtual 59, 3), (16, .ifCond .ne 5, 3), (19, .iconst 0, 1), (20, .ireturn, 1), (21, .aload_n 0, 1), (22, .getfield 28, 3), (25, .istore_n 2, 1), (26, .iconst 4, 1), (27, .istore_n 3, 1), (28, .aload_n 0, 1), (29, .ldc 63, 2), (31, .invokevirtual 65, 3), (34, .ifCond .eq 29, 3), (37, .aload_n 0, 1), (38, .ldc 63, 2), (40, .invokevirtual 55, 3), (43, .ifCond .eq 13, 3), (46, .aload_n 0, 1), (47, .iconst 1, 1), (48, .bipush 8, 2), (50, .invokevirtual 59, 3), (53, .ifCond .ne 5, 3), (56, .iconst 0, 1), (57, .ireturn, 1), (58, .aload_n 0, 1), (59, .getfield 28, 3), (62, .istore_n 3, 1), (63, .aload_n 1, 1), (64, .iload_n 2, 1), (65, .iload_n 3, 1), (66, .invokevirtual 68, 3), (69, .aload_n 0, 1), (70, .invokevirtual 72, 3), (73, .ireturn, 1)]
theorem hX4_readHead : zdec (yC mX4_readHead) kX4_readHead = true := by decide +kernel
def kX4_readTiers : List (Nat × Instr × Nat) := [(0, .iconst 0, 1), (1, .istore_n 2, 1), (2, .iload_n 2, 1), (3, .iconst 4, 1), (4, .if_icmp .gt 33, 3), (7, .iload_n 2, 1), (8, .iconst 2, 1), (9, .if_icmp .lt 12, 3), (12, .aload_n 0, 1), (13, .ldc 76, 2), (15, .invokevirtual 65, 3), (18, .ifCond .eq 19, 3), (21, .aload_n 0, 1), (22, .aload_n 1, 1), (23, .invokevirtual 78, 3), (26, .ifCond .ne 5, 3), (29, .iconst 0, 1), (30, .ireturn, 1), (31, .iinc 2 1, 3), (34, .goto (-32), 3), (37, .iconst 1, 1), (38, .ireturn, 1)]
theorem hX4_readTiers : zdec (yC mX4_readTiers) kX4_readTiers = true := by decide +kernel
def kX4_readTier_0 : List (Nat × Instr × Nat) := [(0, .aload_n 0, 1), (1, .ldc 76, 2), (3, .invokevirtual 65, 3), (6, .ifCond .eq 22, 3), (9, .aload_n 1, 1), (10, .getfield 81, 3), (13, .iconst 4, 1), (14, .if_icmp .ne 14, 3), (17, .aload_n 0, 1), (18, .bipush (-7), 2), (20, .aload_n 0, 1), (21, .getfield 22, 3), (24, .invokevirtual 84, 3), (27, .ireturn, 1), (28, .aload_n 0, 1), (29, .ldc 76, 2), (31, .invokevirtual 55, 3), (34, .ifCond .eq 10, 3), (37, .aload_n 0, 1), (38, .invokevirtual 87, 3), (41, .ifCond .ne 5, 3), (44, .iconst 0, 1), (45, .ireturn, 1), (46, .aload_n 1, 1), (47, .aload_n 0, 1), (48, .getfield 31, 3), (51, .invokevirtual 90, 3), (54, .iconst (-1), 1), (55, .if_icmp .eq 14, 3), (58, .aload_n 0, 1), (59, .bipush (-5), 2), (61, .aload_n 0, 1), (62, .getfield 35, 3), (65, .invokevirtual 84, 3), (68, .ireturn, 1), (69, .aload_n 1, 1), (70, .aload_n 0, 1), (71, .getfield 31, 3), (74, .invokevirtual 94, 3), (77, .iconst 0, 1), (78, .istore_n 2, 1), (79, .iload_n 2, 1), (80, .iconst 5, 1), (81, .if_icmp .ge 46, 3), (84, .aload_n 0, 1), (85, .iload_n 2, 1), (86, .invokestatic 98, 3), (89, .iload_n 2, 1), (90, .invokestatic 102, 3), (93, .invokevirtual 59, 3), (96, .ifCond .ne 5, 3), (99, .iconst 0, 1), (100, .ireturn, 1), (101, .aload_n 1, 1), (102, .getfield 105, 3), (105, .aload_n 1, 1), (106, .getfield 81, 3), (109, .iconst 1, 1), (110, .isub, 1), (111, .aaload, 1)]
theorem hX4_readTier_0 : zdec (yC mX4_readTier) kX4_readTier_0 = true := by decide +kernel
def kX4_readTier_1 : List (Nat × Instr × Nat) := [(112, .getfield 109, 3), (115, .iload_n 2, 1), (116, .aload_n 0, 1), (117, .getfield 28, 3), (120, .iastore, 1), (121, .iinc 2 1, 3), (124, .goto (-45), 3), (127, .aload_n 0, 1), (128, .invokevirtual 72, 3), (131, .ireturn, 1)]
theorem hX4_readTier_1 : zdec (yC mX4_readTier) kX4_readTier_1 = true := by decide +kernel
def kX4_readFiles : List (Nat × Instr × Nat) := [(0, .iconst 0, 1), (1, .istore_n 2, 1), (2, .iload_n 2, 1), (3, .bipush 20, 2), (5, .if_icmp .gt 27, 3), (8, .aload_n 0, 1), (9, .invokevirtual 114, 3), (12, .iconst (-1), 1), (13, .if_icmp .eq 19, 3), (16, .aload_n 0, 1), (17, .aload_n 1, 1), (18, .invokevirtual 118, 3), (21, .ifCond .ne 5, 3), (24, .iconst 0, 1), (25, .ireturn, 1), (26, .iinc 2 1, 3), (29, .goto (-27), 3), (32, .iconst 1, 1), (33, .ireturn, 1)]
theorem hX4_readFiles : zdec (yC mX4_readFiles) kX4_readFiles = true := by decide +kernel
def kX4_readFile_0 : List (Nat × Instr × Nat) := [(0, .aload_n 0, 1), (1, .ldc 121, 2), (3, .invokevirtual 65, 3), (6, .ifCond .eq 23, 3), (9, .aload_n 1, 1), (10, .getfield 48, 3), (13, .bipush 20, 2), (15, .if_icmp .ne 14, 3), (18, .aload_n 0, 1), (19, .bipush (-7), 2), (21, .aload_n 0, 1), (22, .getfield 22, 3), (25, .invokevirtual 84, 3), (28, .ireturn, 1), (29, .aload_n 0, 1), (30, .ldc 121, 2), (32, .invokevirtual 55, 3), (35, .ifCond .eq 10, 3), (38, .aload_n 0, 1), (39, .invokevirtual 87, 3), (42, .ifCond .ne 5, 3), (45, .iconst 0, 1), (46, .ireturn, 1), (47, .aload_n 1, 1), (48, .aload_n 0, 1), (49, .getfield 31, 3), (52, .invokevirtual 123, 3), (55, .iconst (-1), 1), (56, .if_icmp .eq 14, 3), (59, .aload_n 0, 1), (60, .bipush (-5), 2), (62, .aload_n 0, 1), (63, .getfield 35, 3), (66, .invokevirtual 84, 3), (69, .ireturn, 1), (70, .aload_n 0, 1), (71, .getfield 31, 3), (74, .lstore_n 2, 1), (75, .aload_n 0, 1), (76, .iconst 1, 1), (77, .sipush 999, 3), (80, .invokevirtual 59, 3), (83, .ifCond .ne 5, 3), (86, .iconst 0, 1), (87, .ireturn, 1), (88, .aload_n 0, 1), (89, .getfield 28, 3), (92, .istore 4, 2), (94, .aload_n 0, 1), (95, .ldc 126, 2), (97, .invokevirtual 55, 3), (100, .ifCond .eq 10, 3), (103, .aload_n 0, 1), (104, .invokevirtual 87, 3), (107, .ifCond .ne 5, 3), (110, .iconst 0, 1), (111, .ireturn, 1), (112, .aload_n 1, 1), (113, .aload_n 0, 1), (114, .getfield 31, 3)]
theorem hX4_readFile_0 : zdec (yC mX4_readFile) kX4_readFile_0 = true := by decide +kernel
def kX4_readFile_1 : List (Nat × Instr × Nat) := [(117, .invokevirtual 90, 3), (120, .istore 5, 2), (122, .iload 5, 2), (124, .iconst (-1), 1), (125, .if_icmp .ne 14, 3), (128, .aload_n 0, 1), (129, .bipush (-4), 2), (131, .aload_n 0, 1), (132, .getfield 35, 3), (135, .invokevirtual 84, 3), (138, .ireturn, 1), (139, .aload_n 1, 1), (140, .iload 5, 2), (142, .iload 4, 2), (144, .invokevirtual 128, 3), (147, .ifCond .ne 14, 3), (150, .aload_n 0, 1), (151, .bipush (-6), 2), (153, .aload_n 0, 1), (154, .getfield 35, 3), (157, .invokevirtual 84, 3), (160, .ireturn, 1), (161, .aload_n 0, 1), (162, .iconst 0, 1), (163, .putfield 28, 3), (166, .aload_n 0, 1), (167, .ldc 131, 2), (169, .invokevirtual 65, 3), (172, .ifCond .eq 25, 3), (175, .aload_n 0, 1), (176, .ldc 131, 2), (178, .invokevirtual 55, 3), (181, .ifCond .eq 14, 3), (184, .aload_n 0, 1), (185, .iconst 0, 1), (186, .sipush 9999, 3), (189, .invokevirtual 59, 3), (192, .ifCond .ne 5, 3), (195, .iconst 0, 1), (196, .ireturn, 1), (197, .aload_n 1, 1), (198, .lload_n 2, 1), (199, .iload 4, 2), (201, .iload 5, 2), (203, .aload_n 0, 1), (204, .getfield 28, 3), (207, .invokevirtual 133, 3), (210, .aload_n 0, 1), (211, .invokevirtual 72, 3), (214, .ireturn, 1)]
theorem hX4_readFile_1 : zdec (yC mX4_readFile) kX4_readFile_1 = true := by decide +kernel
def kX4_readName : List (Nat × Instr × Nat) := [(0, .aload_n 0, 1), (1, .invokevirtual 114, 3), (4, .pop, 1), (5, .aload_n 0, 1), (6, .invokevirtual 137, 3), (9, .istore_n 1, 1), (10, .iload_n 1, 1), (11, .aload_n 0, 1), (12, .getfield 22, 3), (15, .if_icmp .eq 14, 3), (18, .iload_n 1, 1), (19, .aload_n 0, 1), (20, .getfield 22, 3), (23, .isub, 1), (24, .bipush 8, 2), (26, .if_icmp .le 14, 3), (29, .aload_n 0, 1), (30, .bipush (-2), 2), (32, .aload_n 0, 1), (33, .getfield 22, 3), (36, .invokevirtual 84, 3), (39, .ireturn, 1), (40, .aload_n 0, 1), (41, .aload_n 0, 1), (42, .getfield 22, 3), (45, .putfield 35, 3), (48, .aload_n 0, 1), (49, .lconst 0, 1), (50, .putfield 31, 3), (53, .aload_n 0, 1), (54, .getfield 22, 3), (57, .iload_n 1, 1), (58, .if_icmp .ge 36, 3), (61, .aload_n 0, 1), (62, .aload_n 0, 1), (63, .getfield 31, 3), (66, .aload_n 0, 1), (67, .getfield 18, 3), (70, .aload_n 0, 1), (71, .getfield 22, 3), (74, .iaload, 1), (75, .invokestatic 140, 3), (78, .putfield 31, 3), (81, .aload_n 0, 1), (82, .dup, 1), (83, .getfield 22, 3), (86, .iconst 1, 1), (87, .iadd, 1), (88, .putfield 22, 3), (91, .goto (-38), 3), (94, .iconst 1, 1), (95, .ireturn, 1)]
theorem hX4_readName : zdec (yC mX4_readName) kX4_readName = true := by decide +kernel
def kX4_readNumber_0 : List (Nat × Instr × Nat) := [(0, .aload_n 0, 1), (1, .invokevirtual 114, 3), (4, .invokestatic 146, 3), (7, .ifCond .ne 14, 3), (10, .aload_n 0, 1), (11, .bipush (-2), 2), (13, .aload_n 0, 1), (14, .getfield 22, 3), (17, .invokevirtual 84, 3), (20, .ireturn, 1), (21, .aload_n 0, 1), (22, .getfield 22, 3), (25, .istore_n 3, 1), (26, .aload_n 0, 1), (27, .iconst 0, 1), (28, .putfield 28, 3), (31, .aload_n 0, 1), (32, .getfield 22, 3), (35, .aload_n 0, 1), (36, .getfield 9, 3), (39, .if_icmp .ge 64, 3), (42, .aload_n 0, 1), (43, .getfield 18, 3), (46, .aload_n 0, 1), (47, .getfield 22, 3), (50, .iaload, 1), (51, .invokestatic 146, 3), (54, .ifCond .eq 49, 3), (57, .aload_n 0, 1), (58, .getfield 28, 3), (61, .ldc 150, 2), (63, .if_icmp .gt 27, 3), (66, .aload_n 0, 1), (67, .aload_n 0, 1), (68, .getfield 28, 3), (71, .bipush 10, 2), (73, .imul, 1), (74, .aload_n 0, 1), (75, .getfield 18, 3), (78, .aload_n 0, 1), (79, .getfield 22, 3), (82, .iaload, 1), (83, .iadd, 1), (84, .bipush 48, 2), (86, .isub, 1), (87, .putfield 28, 3), (90, .aload_n 0, 1), (91, .dup, 1), (92, .getfield 22, 3), (95, .iconst 1, 1), (96, .iadd, 1), (97, .putfield 22, 3), (100, .goto (-69), 3), (103, .aload_n 0, 1), (104, .getfield 28, 3), (107, .iload_n 1, 1), (108, .if_icmp .lt 11, 3), (111, .aload_n 0, 1), (112, .getfield 28, 3), (115, .iload_n 2, 1)]
theorem hX4_readNumber_0 : zdec (yC mX4_readNumber) kX4_readNumber_0 = true := by decide +kernel
def kX4_readNumber_1 : List (Nat × Instr × Nat) := [(116, .if_icmp .le 13, 3), (119, .aload_n 0, 1), (120, .bipush (-3), 2), (122, .iload_n 3, 1), (123, .invokevirtual 84, 3), (126, .ifCond .eq 7, 3), (129, .iconst 1, 1), (130, .goto 4, 3), (133, .iconst 0, 1), (134, .ireturn, 1)]
theorem hX4_readNumber_1 : zdec (yC mX4_readNumber) kX4_readNumber_1 = true := by decide +kernel
def kX4_passSemicolon : List (Nat × Instr × Nat) := [(0, .aload_n 0, 1), (1, .invokevirtual 114, 3), (4, .bipush 59, 2), (6, .if_icmp .eq 14, 3), (9, .aload_n 0, 1), (10, .bipush (-2), 2), (12, .aload_n 0, 1), (13, .getfield 22, 3), (16, .invokevirtual 84, 3), (19, .ireturn, 1), (20, .aload_n 0, 1), (21, .dup, 1), (22, .getfield 22, 3), (25, .iconst 1, 1), (26, .iadd, 1), (27, .putfield 22, 3), (30, .iconst 1, 1), (31, .ireturn, 1)]
theorem hX4_passSemicolon : zdec (yC mX4_passSemicolon) kX4_passSemicolon = true := by decide +kernel
def kX4_passWord : List (Nat × Instr × Nat) := [(0, .aload_n 0, 1), (1, .aload_n 1, 1), (2, .invokevirtual 65, 3), (5, .ifCond .ne 14, 3), (8, .aload_n 0, 1), (9, .bipush (-2), 2), (11, .aload_n 0, 1), (12, .getfield 22, 3), (15, .invokevirtual 84, 3), (18, .ireturn, 1), (19, .aload_n 0, 1), (20, .dup, 1), (21, .getfield 22, 3), (24, .aload_n 1, 1), (25, .invokevirtual 151, 3), (28, .iadd, 1), (29, .putfield 22, 3), (32, .iconst 1, 1), (33, .ireturn, 1)]
theorem hX4_passWord : zdec (yC mX4_passWord) kX4_passWord = true := by decide +kernel
def kX4_nextIsWord : List (Nat × Instr × Nat) := [(0, .aload_n 0, 1), (1, .invokevirtual 114, 3), (4, .pop, 1), (5, .aload_n 0, 1), (6, .invokevirtual 137, 3), (9, .aload_n 0, 1), (10, .getfield 22, 3), (13, .isub, 1), (14, .aload_n 1, 1), (15, .invokevirtual 151, 3), (18, .if_icmp .eq 5, 3), (21, .iconst 0, 1), (22, .ireturn, 1), (23, .iconst 0, 1), (24, .istore_n 2, 1), (25, .iload_n 2, 1), (26, .aload_n 1, 1), (27, .invokevirtual 151, 3), (30, .if_icmp .ge 30, 3), (33, .aload_n 0, 1), (34, .getfield 18, 3), (37, .aload_n 0, 1), (38, .getfield 22, 3), (41, .iload_n 2, 1), (42, .iadd, 1), (43, .iaload, 1), (44, .aload_n 1, 1), (45, .iload_n 2, 1), (46, .invokevirtual 155, 3), (49, .if_icmp .eq 5, 3), (52, .iconst 0, 1), (53, .ireturn, 1), (54, .iinc 2 1, 3), (57, .goto (-32), 3), (60, .iconst 1, 1), (61, .ireturn, 1)]
theorem hX4_nextIsWord : zdec (yC mX4_nextIsWord) kX4_nextIsWord = true := by decide +kernel
def kX4_nextByte : List (Nat × Instr × Nat) := [(0, .aload_n 0, 1), (1, .getfield 22, 3), (4, .aload_n 0, 1), (5, .getfield 9, 3), (8, .if_icmp .ge 30, 3), (11, .aload_n 0, 1), (12, .getfield 18, 3), (15, .aload_n 0, 1), (16, .getfield 22, 3), (19, .iaload, 1), (20, .bipush 32, 2), (22, .if_icmp .ne 16, 3), (25, .aload_n 0, 1), (26, .dup, 1), (27, .getfield 22, 3), (30, .iconst 1, 1), (31, .iadd, 1), (32, .putfield 22, 3), (35, .goto (-35), 3), (38, .aload_n 0, 1), (39, .getfield 22, 3), (42, .aload_n 0, 1), (43, .getfield 9, 3), (46, .if_icmp .ge 15, 3), (49, .aload_n 0, 1), (50, .getfield 18, 3), (53, .aload_n 0, 1), (54, .getfield 22, 3), (57, .iaload, 1), (58, .goto 4, 3), (61, .iconst (-1), 1), (62, .ireturn, 1)]
theorem hX4_nextByte : zdec (yC mX4_nextByte) kX4_nextByte = true := by decide +kernel
def kX4_endOfWord : List (Nat × Instr × Nat) := [(0, .aload_n 0, 1), (1, .getfield 22, 3), (4, .istore_n 1, 1), (5, .iload_n 1, 1), (6, .aload_n 0, 1), (7, .getfield 9, 3), (10, .if_icmp .ge 31, 3), (13, .aload_n 0, 1), (14, .getfield 18, 3), (17, .iload_n 1, 1), (18, .iaload, 1), (19, .bipush 97, 2), (21, .if_icmp .lt 20, 3), (24, .aload_n 0, 1), (25, .getfield 18, 3), (28, .iload_n 1, 1), (29, .iaload, 1), (30, .bipush 122, 2), (32, .if_icmp .gt 9, 3), (35, .iinc 1 1, 3), (38, .goto (-33), 3), (41, .iload_n 1, 1), (42, .ireturn, 1)]
theorem hX4_endOfWord : zdec (yC mX4_endOfWord) kX4_endOfWord = true := by decide +kernel
def kX4_isDigit : List (Nat × Instr × Nat) := [(0, .iload_n 0, 1), (1, .bipush 48, 2), (3, .if_icmp .lt 13, 3), (6, .iload_n 0, 1), (7, .bipush 57, 2), (9, .if_icmp .gt 7, 3), (12, .iconst 1, 1), (13, .goto 4, 3), (16, .iconst 0, 1), (17, .ireturn, 1)]
theorem hX4_isDigit : zdec (yC mX4_isDigit) kX4_isDigit = true := by decide +kernel
def kX4_fail : List (Nat × Instr × Nat) := [(0, .aload_n 0, 1), (1, .iload_n 1, 1), (2, .putfield 25, 3), (5, .aload_n 0, 1), (6, .iload_n 2, 1), (7, .putfield 15, 3), (10, .iconst 0, 1), (11, .ireturn, 1)]
theorem hX4_fail : zdec (yC mX4_fail) kX4_fail = true := by decide +kernel
def kX5_init : List (Nat × Instr × Nat) := [(0, .aload_n 0, 1), (1, .invokespecial 3, 3), (4, .aload_n 0, 1), (5, .iconst 2, 1), (6, .putfield 9, 3), (9, .aload_n 0, 1), (10, .iconst 4, 1), (11, .putfield 15, 3), (14, .aload_n 0, 1), (15, .iconst 0, 1), (16, .putfield 18, 3), (19, .aload_n 0, 1), (20, .iconst 0, 1), (21, .putfield 21, 3), (24, .aload_n 0, 1), (25, .iconst 0, 1), (26, .putfield 24, 3), (29, .aload_n 0, 1), (30, .iconst 4, 1), (31, .anewarray 27, 3), (34, .putfield 29, 3), (37, .aload_n 0, 1), (38, .bipush 20, 2), (40, .anewarray 33, 3), (43, .putfield 35, 3), (46, .aload_n 0, 1), (47, .new 39, 3), (50, .dup, 1), (51, .invokespecial 41, 3), (54, .putfield 42, 3), (57, .iconst 0, 1), (58, .istore_n 1, 1), (59, .iload_n 1, 1), (60, .iconst 4, 1), (61, .if_icmp .ge 22, 3), (64, .aload_n 0, 1), (65, .getfield 29, 3), (68, .iload_n 1, 1), (69, .new 27, 3), (72, .dup, 1), (73, .invokespecial 46, 3), (76, .aastore, 1), (77, .iinc 1 1, 3), (80, .goto (-21), 3), (83, .iconst 0, 1), (84, .istore_n 1, 1), (85, .iload_n 1, 1), (86, .bipush 20, 2), (88, .if_icmp .ge 22, 3), (91, .aload_n 0, 1), (92, .getfield 35, 3), (95, .iload_n 1, 1), (96, .new 33, 3), (99, .dup, 1), (100, .invokespecial 47, 3), (103, .aastore, 1), (104, .iinc 1 1, 3), (107, .goto (-22), 3), (110, .return_, 1)]
theorem hX5_init : zdec (yC mX5_init) kX5_init = true := by decide +kernel
def kX5_copyFrom : List (Nat × Instr × Nat) := [(0, .aload_n 0, 1), (1, .aload_n 1, 1), (2, .getfield 9, 3), (5, .putfield 9, 3), (8, .aload_n 0, 1), (9, .aload_n 1, 1), (10, .getfield 15, 3), (13, .putfield 15, 3), (16, .aload_n 0, 1), (17, .aload_n 1, 1), (18, .getfield 18, 3), (21, .putfield 18, 3), (24, .aload_n 0, 1), (25, .aload_n 1, 1), (26, .getfield 21, 3), (29, .putfield 21, 3), (32, .aload_n 0, 1), (33, .aload_n 1, 1), (34, .getfield 24, 3), (37, .putfield 24, 3), (40, .iconst 0, 1), (41, .istore_n 2, 1), (42, .iload_n 2, 1), (43, .aload_n 0, 1), (44, .getfield 21, 3), (47, .if_icmp .ge 24, 3), (50, .aload_n 0, 1), (51, .getfield 29, 3), (54, .iload_n 2, 1), (55, .aaload, 1), (56, .aload_n 1, 1), (57, .getfield 29, 3), (60, .iload_n 2, 1), (61, .aaload, 1), (62, .invokevirtual 48, 3), (65, .iinc 2 1, 3), (68, .goto (-26), 3), (71, .iconst 0, 1), (72, .istore_n 2, 1), (73, .iload_n 2, 1), (74, .aload_n 0, 1), (75, .getfield 24, 3), (78, .if_icmp .ge 24, 3), (81, .aload_n 0, 1), (82, .getfield 35, 3), (85, .iload_n 2, 1), (86, .aaload, 1), (87, .aload_n 1, 1), (88, .getfield 35, 3), (91, .iload_n 2, 1), (92, .aaload, 1), (93, .invokevirtual 52, 3), (96, .iinc 2 1, 3), (99, .goto (-26), 3), (102, .aload_n 0, 1), (103, .getfield 42, 3), (106, .aload_n 1, 1), (107, .getfield 42, 3), (110, .invokevirtual 55, 3), (113, .return_, 1)]
theorem hX5_copyFrom : zdec (yC mX5_copyFrom) kX5_copyFrom = true := by decide +kernel
def kX5_startAs : List (Nat × Instr × Nat) := [(0, .aload_n 0, 1), (1, .iload_n 1, 1), (2, .putfield 9, 3), (5, .aload_n 0, 1), (6, .iload_n 2, 1), (7, .putfield 15, 3), (10, .aload_n 0, 1), (11, .iconst 0, 1), (12, .putfield 18, 3), (15, .aload_n 0, 1), (16, .iconst 0, 1), (17, .putfield 21, 3), (20, .aload_n 0, 1), (21, .iconst 0, 1), (22, .putfield 24, 3), (25, .aload_n 0, 1), (26, .getfield 42, 3), (29, .iconst 0, 1), (30, .putfield 58, 3), (33, .return_, 1)]
theorem hX5_startAs : zdec (yC mX5_startAs) kX5_startAs = true := by decide +kernel
def kX5_startAsNew : List (Nat × Instr × Nat) := [(0, .aload_n 0, 1), (1, .iconst 2, 1), (2, .iconst 4, 1), (3, .invokevirtual 61, 3), (6, .iconst 0, 1), (7, .istore_n 1, 1), (8, .iload_n 1, 1), (9, .iconst 2, 1), (10, .if_icmp .ge 55, 3), (13, .aload_n 0, 1), (14, .lconst 0, 1), (15, .bipush 97, 2), (17, .iload_n 1, 1), (18, .iadd, 1), (19, .invokestatic 65, 3), (22, .invokevirtual 71, 3), (25, .iconst 0, 1), (26, .istore_n 2, 1), (27, .iload_n 2, 1), (28, .iconst 5, 1), (29, .if_icmp .ge 30, 3), (32, .aload_n 0, 1), (33, .getfield 29, 3), (36, .iload_n 1, 1), (37, .aaload, 1), (38, .getfield 75, 3), (41, .iload_n 2, 1), (42, .iload_n 2, 1), (43, .ifCond .ne 8, 3), (46, .bipush 10, 2), (48, .goto 4, 3), (51, .iconst 1, 1), (52, .iastore, 1), (53, .iinc 2 1, 3), (56, .goto (-29), 3), (59, .iinc 1 1, 3), (62, .goto (-54), 3), (65, .return_, 1)]
theorem hX5_startAsNew : zdec (yC mX5_startAsNew) kX5_startAsNew = true := by decide +kernel
def kX5_phaseAhead : List (Nat × Instr × Nat) := [(0, .aload_n 0, 1), (1, .getfield 18, 3), (4, .iload_n 1, 1), (5, .iadd, 1), (6, .aload_n 0, 1), (7, .getfield 9, 3), (10, .irem, 1), (11, .ireturn, 1)]
theorem hX5_phaseAhead : zdec (yC mX5_phaseAhead) kX5_phaseAhead = true := by decide +kernel
def kX5_tierNamed : List (Nat × Instr × Nat) := [(0, .iconst 0, 1), (1, .istore_n 3, 1), (2, .iload_n 3, 1), (3, .aload_n 0, 1), (4, .getfield 21, 3), (7, .if_icmp .ge 25, 3), (10, .aload_n 0, 1), (11, .getfield 29, 3), (14, .iload_n 3, 1), (15, .aaload, 1), (16, .getfield 79, 3), (19, .lload_n 1, 1), (20, .lcmp, 1), (21, .ifCond .ne 5, 3), (24, .iload_n 3, 1), (25, .ireturn, 1), (26, .iinc 3 1, 3), (29, .goto (-27), 3), (32, .iconst (-1), 1), (33, .ireturn, 1)]
theorem hX5_tierNamed : zdec (yC mX5_tierNamed) kX5_tierNamed = true := by decide +kernel
def kX5_fileNamed : List (Nat × Instr × Nat) := [(0, .iconst 0, 1), (1, .istore_n 3, 1), (2, .iload_n 3, 1), (3, .aload_n 0, 1), (4, .getfield 24, 3), (7, .if_icmp .ge 25, 3), (10, .aload_n 0, 1), (11, .getfield 35, 3), (14, .iload_n 3, 1), (15, .aaload, 1), (16, .getfield 83, 3), (19, .lload_n 1, 1), (20, .lcmp, 1), (21, .ifCond .ne 5, 3), (24, .iload_n 3, 1), (25, .ireturn, 1), (26, .iinc 3 1, 3), (29, .goto (-27), 3), (32, .iconst (-1), 1), (33, .ireturn, 1)]
theorem hX5_fileNamed : zdec (yC mX5_fileNamed) kX5_fileNamed = true := by decide +kernel
def kX5_pinnedFiles : List (Nat × Instr × Nat) := [(0, .iconst 0, 1), (1, .istore_n 1, 1), (2, .iconst 0, 1), (3, .istore_n 2, 1), (4, .iload_n 2, 1), (5, .aload_n 0, 1), (6, .getfield 24, 3), (9, .if_icmp .ge 28, 3), (12, .aload_n 0, 1), (13, .getfield 35, 3), (16, .iload_n 2, 1), (17, .aaload, 1), (18, .aload_n 0, 1), (19, .getfield 18, 3), (22, .invokevirtual 84, 3), (25, .ifCond .eq 6, 3), (28, .iinc 1 1, 3), (31, .iinc 2 1, 3), (34, .goto (-30), 3), (37, .iload_n 1, 1), (38, .ireturn, 1)]
theorem hX5_pinnedFiles : zdec (yC mX5_pinnedFiles) kX5_pinnedFiles = true := by decide +kernel
def kX5_sizeOfAll : List (Nat × Instr × Nat) := [(0, .iconst 0, 1), (1, .istore_n 1, 1), (2, .iconst 0, 1), (3, .istore_n 2, 1), (4, .iload_n 2, 1), (5, .aload_n 0, 1), (6, .getfield 24, 3), (9, .if_icmp .ge 21, 3), (12, .iload_n 1, 1), (13, .aload_n 0, 1), (14, .getfield 35, 3), (17, .iload_n 2, 1), (18, .aaload, 1), (19, .getfield 88, 3), (22, .iadd, 1), (23, .istore_n 1, 1), (24, .iinc 2 1, 3), (27, .goto (-23), 3), (30, .iload_n 1, 1), (31, .ireturn, 1)]
theorem hX5_sizeOfAll : zdec (yC mX5_sizeOfAll) kX5_sizeOfAll = true := by decide +kernel
def kX5_sizeOn : List (Nat × Instr × Nat) := [(0, .iconst 0, 1), (1, .istore_n 2, 1), (2, .iconst 0, 1), (3, .istore_n 3, 1), (4, .iload_n 3, 1), (5, .aload_n 0, 1), (6, .getfield 24, 3), (9, .if_icmp .ge 34, 3), (12, .aload_n 0, 1), (13, .getfield 35, 3), (16, .iload_n 3, 1), (17, .aaload, 1), (18, .getfield 89, 3), (21, .iload_n 1, 1), (22, .if_icmp .ne 15, 3), (25, .iload_n 2, 1), (26, .aload_n 0, 1), (27, .getfield 35, 3), (30, .iload_n 3, 1), (31, .aaload, 1), (32, .getfield 88, 3), (35, .iadd, 1), (36, .istore_n 2, 1), (37, .iinc 3 1, 3), (40, .goto (-36), 3), (43, .iload_n 2, 1), (44, .ireturn, 1)]
theorem hX5_sizeOn : zdec (yC mX5_sizeOn) kX5_sizeOn = true := by decide +kernel
def kX5_filesOn : List (Nat × Instr × Nat) := [(0, .iconst 0, 1), (1, .istore_n 2, 1), (2, .iconst 0, 1), (3, .istore_n 3, 1), (4, .iload_n 3, 1), (5, .aload_n 0, 1), (6, .getfield 24, 3), (9, .if_icmp .ge 25, 3), (12, .aload_n 0, 1), (13, .getfield 35, 3), (16, .iload_n 3, 1), (17, .aaload, 1), (18, .getfield 89, 3), (21, .iload_n 1, 1), (22, .if_icmp .ne 6, 3), (25, .iinc 2 1, 3), (28, .iinc 3 1, 3), (31, .goto (-27), 3), (34, .iload_n 2, 1), (35, .ireturn, 1)]
theorem hX5_filesOn : zdec (yC mX5_filesOn) kX5_filesOn = true := by decide +kernel
def kX5_mostUsedOn : List (Nat × Instr × Nat) := [(0, .aload_n 0, 1), (1, .iconst 0, 1), (2, .invokevirtual 92, 3), (5, .istore_n 2, 1), (6, .iconst (-1), 1), (7, .istore_n 3, 1), (8, .iconst (-1), 1), (9, .istore 4, 2), (11, .iconst 0, 1), (12, .istore 5, 2), (14, .iload 5, 2), (16, .aload_n 0, 1), (17, .getfield 24, 3), (20, .if_icmp .ge 50, 3), (23, .aload_n 0, 1), (24, .getfield 35, 3), (27, .iload 5, 2), (29, .aaload, 1), (30, .iload_n 2, 1), (31, .invokevirtual 96, 3), (34, .istore 6, 2), (36, .aload_n 0, 1), (37, .getfield 35, 3), (40, .iload 5, 2), (42, .aaload, 1), (43, .getfield 89, 3), (46, .iload_n 1, 1), (47, .if_icmp .ne 17, 3), (50, .iload 6, 2), (52, .iload 4, 2), (54, .if_icmp .le 10, 3), (57, .iload 6, 2), (59, .istore 4, 2), (61, .iload 5, 2), (63, .istore_n 3, 1), (64, .iinc 5 1, 3), (67, .goto (-53), 3), (70, .iload_n 3, 1), (71, .ireturn, 1)]
theorem hX5_mostUsedOn : zdec (yC mX5_mostUsedOn) kX5_mostUsedOn = true := by decide +kernel
def kX5_hasRoomFor : List (Nat × Instr × Nat) := [(0, .aload_n 0, 1), (1, .iload_n 1, 1), (2, .invokevirtual 99, 3), (5, .iload_n 2, 1), (6, .iadd, 1), (7, .aload_n 0, 1), (8, .getfield 29, 3), (11, .iload_n 1, 1), (12, .aaload, 1), (13, .getfield 75, 3), (16, .iconst 0, 1), (17, .iaload, 1), (18, .if_icmp .gt 7, 3), (21, .iconst 1, 1), (22, .goto 4, 3), (25, .iconst 0, 1), (26, .ireturn, 1)]
theorem hX5_hasRoomFor : zdec (yC mX5_hasRoomFor) kX5_hasRoomFor = true := by decide +kernel
def kX5_paidOnAll : List (Nat × Instr × Nat) := [(0, .lconst 0, 1), (1, .lstore_n 2, 1), (2, .iconst 0, 1), (3, .istore 4, 2), (5, .iload 4, 2), (7, .aload_n 0, 1), (8, .getfield 21, 3), (11, .if_icmp .ge 23, 3), (14, .lload_n 2, 1), (15, .aload_n 0, 1), (16, .getfield 29, 3), (19, .iload 4, 2), (21, .aaload, 1), (22, .iload_n 1, 1), (23, .invokevirtual 102, 3), (26, .ladd, 1), (27, .lstore_n 2, 1), (28, .iinc 4 1, 3), (31, .goto (-26), 3), (34, .lload_n 2, 1), (35, .lreturn, 1)]
theorem hX5_paidOnAll : zdec (yC mX5_paidOnAll) kX5_paidOnAll = true := by decide +kernel
def kX5_forecastSum : List (Nat × Instr × Nat) := [(0, .aload_n 0, 1), (1, .getfield 35, 3), (4, .iload_n 1, 1), (5, .aaload, 1), (6, .astore_n 3, 1), (7, .aload_n 3, 1), (8, .invokevirtual 106, 3), (11, .istore 4, 2), (13, .lconst 0, 1), (14, .lstore 5, 2), (16, .iconst 0, 1), (17, .istore 7, 2), (19, .iload 7, 2), (21, .iload_n 2, 1), (22, .if_icmp .ge 42, 3), (25, .aload_n 3, 1), (26, .getfield 110, 3), (29, .aload_n 0, 1), (30, .iload 7, 2), (32, .invokevirtual 92, 3), (35, .iaload, 1), (36, .istore 8, 2), (38, .lload 5, 2), (40, .iload 8, 2), (42, .iconst (-1), 1), (43, .if_icmp .ne 9, 3), (46, .iload 4, 2), (48, .i2l, 1), (49, .goto 6, 3), (52, .iload 8, 2), (54, .i2l, 1), (55, .ladd, 1), (56, .lstore 5, 2), (58, .iinc 7 1, 3), (61, .goto (-42), 3), (64, .lload 5, 2), (66, .lreturn, 1)]
theorem hX5_forecastSum : zdec (yC mX5_forecastSum) kX5_forecastSum = true := by decide +kernel
def kX5_costOn : List (Nat × Instr × Nat) := [(0, .aload_n 0, 1), (1, .getfield 35, 3), (4, .iload_n 1, 1), (5, .aaload, 1), (6, .getfield 88, 3), (9, .i2l, 1), (10, .lstore 6, 2), (12, .aload_n 0, 1), (13, .getfield 29, 3), (16, .iload_n 2, 1), (17, .aaload, 1), (18, .getfield 75, 3), (21, .astore 8, 2), (23, .iload_n 3, 1), (24, .i2l, 1), (25, .lload 6, 2), (27, .lmul, 1), (28, .aload 8, 2), (30, .iconst 1, 1), (31, .iaload, 1), (32, .i2l, 1), (33, .lmul, 1), (34, .lload 6, 2), (36, .aload 8, 2), (38, .iconst 2, 1), (39, .iaload, 1), (40, .i2l, 1), (41, .lmul, 1), (42, .lload 4, 2), (44, .lmul, 1), (45, .ldc2_w 113, 3), (48, .ldiv, 1), (49, .ladd, 1), (50, .lreturn, 1)]
theorem hX5_costOn : zdec (yC mX5_costOn) kX5_costOn = true := by decide +kernel
def kX5_moveCost : List (Nat × Instr × Nat) := [(0, .aload_n 0, 1), (1, .getfield 35, 3), (4, .iload_n 1, 1), (5, .aaload, 1), (6, .getfield 88, 3), (9, .aload_n 0, 1), (10, .getfield 29, 3), (13, .iload_n 2, 1), (14, .aaload, 1), (15, .getfield 75, 3), (18, .iconst 4, 1), (19, .iaload, 1), (20, .aload_n 0, 1), (21, .getfield 29, 3), (24, .iload_n 3, 1), (25, .aaload, 1), (26, .getfield 75, 3), (29, .iconst 3, 1), (30, .iaload, 1), (31, .iadd, 1), (32, .imul, 1), (33, .ireturn, 1)]
theorem hX5_moveCost : zdec (yC mX5_moveCost) kX5_moveCost = true := by decide +kernel
def kX5_putTier : List (Nat × Instr × Nat) := [(0, .aload_n 0, 1), (1, .getfield 29, 3), (4, .aload_n 0, 1), (5, .getfield 21, 3), (8, .aaload, 1), (9, .lload_n 1, 1), (10, .invokevirtual 115, 3), (13, .aload_n 0, 1), (14, .dup, 1), (15, .getfield 21, 3), (18, .iconst 1, 1), (19, .iadd, 1), (20, .putfield 21, 3), (23, .return_, 1)]
theorem hX5_putTier : zdec (yC mX5_putTier) kX5_putTier = true := by decide +kernel
def kX5_putFile : List (Nat × Instr × Nat) := [(0, .aload_n 0, 1), (1, .getfield 35, 3), (4, .aload_n 0, 1), (5, .getfield 24, 3), (8, .aaload, 1), (9, .lload_n 1, 1), (10, .iload_n 3, 1), (11, .iload 4, 2), (13, .iload 5, 2), (15, .invokevirtual 117, 3), (18, .aload_n 0, 1), (19, .dup, 1), (20, .getfield 24, 3), (23, .iconst 1, 1), (24, .iadd, 1), (25, .putfield 24, 3), (28, .return_, 1)]
theorem hX5_putFile : zdec (yC mX5_putFile) kX5_putFile = true := by decide +kernel
def kX5_removeFile : List (Nat × Instr × Nat) := [(0, .aload_n 0, 1), (1, .getfield 35, 3), (4, .iload_n 1, 1), (5, .aaload, 1), (6, .astore_n 2, 1), (7, .iload_n 1, 1), (8, .istore_n 3, 1), (9, .iload_n 3, 1), (10, .iconst 1, 1), (11, .iadd, 1), (12, .aload_n 0, 1), (13, .getfield 24, 3), (16, .if_icmp .ge 23, 3), (19, .aload_n 0, 1), (20, .getfield 35, 3), (23, .iload_n 3, 1), (24, .aload_n 0, 1), (25, .getfield 35, 3), (28, .iload_n 3, 1), (29, .iconst 1, 1), (30, .iadd, 1), (31, .aaload, 1), (32, .aastore, 1), (33, .iinc 3 1, 3), (36, .goto (-27), 3), (39, .aload_n 0, 1), (40, .dup, 1), (41, .getfield 24, 3), (44, .iconst 1, 1), (45, .isub, 1), (46, .putfield 24, 3), (49, .aload_n 0, 1), (50, .getfield 35, 3), (53, .aload_n 0, 1), (54, .getfield 24, 3), (57, .aload_n 2, 1), (58, .aastore, 1), (59, .aload_n 0, 1), (60, .getfield 42, 3), (63, .iload_n 1, 1), (64, .invokevirtual 120, 3), (67, .return_, 1)]
theorem hX5_removeFile : zdec (yC mX5_removeFile) kX5_removeFile = true := by decide +kernel
def kX5_endPeriod : List (Nat × Instr × Nat) := [(0, .aload_n 0, 1), (1, .iconst 0, 1), (2, .invokevirtual 92, 3), (5, .istore_n 1, 1), (6, .lconst 0, 1), (7, .lstore_n 2, 1), (8, .iconst 0, 1), (9, .istore 4, 2), (11, .iload 4, 2), (13, .aload_n 0, 1), (14, .getfield 24, 3), (17, .if_icmp .ge 53, 3), (20, .aload_n 0, 1), (21, .getfield 35, 3), (24, .iload 4, 2), (26, .aaload, 1), (27, .astore 5, 2), (29, .lload_n 2, 1), (30, .aload_n 0, 1), (31, .aload 5, 2), (33, .invokevirtual 124, 3), (36, .ladd, 1), (37, .lstore_n 2, 1), (38, .aload 5, 2), (40, .iload_n 1, 1), (41, .invokevirtual 128, 3), (44, .aload 5, 2), (46, .iload_n 1, 1), (47, .aload 5, 2), (49, .getfield 131, 3), (52, .aload_n 0, 1), (53, .getfield 15, 3), (56, .invokevirtual 134, 3), (59, .aload 5, 2), (61, .invokevirtual 138, 3), (64, .iinc 4 1, 3), (67, .goto (-56), 3), (70, .aload_n 0, 1), (71, .dup, 1), (72, .getfield 18, 3), (75, .iconst 1, 1), (76, .iadd, 1), (77, .putfield 18, 3), (80, .aload_n 0, 1), (81, .getfield 42, 3), (84, .iconst 0, 1), (85, .putfield 58, 3), (88, .lload_n 2, 1), (89, .lreturn, 1)]
theorem hX5_endPeriod : zdec (yC mX5_endPeriod) kX5_endPeriod = true := by decide +kernel
def kX5_payFor : List (Nat × Instr × Nat) := [(0, .aload_n 0, 1), (1, .getfield 29, 3), (4, .aload_n 1, 1), (5, .getfield 89, 3), (8, .aaload, 1), (9, .astore_n 2, 1), (10, .aload_n 1, 1), (11, .getfield 88, 3), (14, .aload_n 2, 1), (15, .getfield 75, 3), (18, .iconst 1, 1), (19, .iaload, 1), (20, .imul, 1), (21, .i2l, 1), (22, .lstore_n 3, 1), (23, .aload_n 1, 1), (24, .getfield 88, 3), (27, .i2l, 1), (28, .aload_n 1, 1), (29, .getfield 131, 3), (32, .i2l, 1), (33, .lmul, 1), (34, .aload_n 2, 1), (35, .getfield 75, 3), (38, .iconst 2, 1), (39, .iaload, 1), (40, .i2l, 1), (41, .lmul, 1), (42, .lstore 5, 2), (44, .aload_n 2, 1), (45, .getfield 141, 3), (48, .iconst 0, 1), (49, .dup2, 1), (50, .laload, 1), (51, .lload_n 3, 1), (52, .ladd, 1), (53, .lastore, 1), (54, .aload_n 2, 1), (55, .getfield 141, 3), (58, .iconst 1, 1), (59, .dup2, 1), (60, .laload, 1), (61, .lload 5, 2), (63, .ladd, 1), (64, .lastore, 1), (65, .lload_n 3, 1), (66, .lload 5, 2), (68, .ladd, 1), (69, .lreturn, 1)]
theorem hX5_payFor : zdec (yC mX5_payFor) kX5_payFor = true := by decide +kernel
def kX5_carry_0 : List (Nat × Instr × Nat) := [(0, .aload_n 0, 1), (1, .getfield 35, 3), (4, .iload_n 1, 1), (5, .aaload, 1), (6, .astore_n 3, 1), (7, .aload_n 3, 1), (8, .getfield 88, 3), (11, .aload_n 0, 1), (12, .getfield 29, 3), (15, .aload_n 3, 1), (16, .getfield 89, 3), (19, .aaload, 1), (20, .getfield 75, 3), (23, .iconst 4, 1), (24, .iaload, 1), (25, .imul, 1), (26, .istore 4, 2), (28, .aload_n 3, 1), (29, .getfield 88, 3), (32, .aload_n 0, 1), (33, .getfield 29, 3), (36, .iload_n 2, 1), (37, .aaload, 1), (38, .getfield 75, 3), (41, .iconst 3, 1), (42, .iaload, 1), (43, .imul, 1), (44, .istore 5, 2), (46, .aload_n 0, 1), (47, .getfield 42, 3), (50, .iload_n 1, 1), (51, .aload_n 3, 1), (52, .getfield 89, 3), (55, .iload_n 2, 1), (56, .iload 4, 2), (58, .iload 5, 2), (60, .invokevirtual 145, 3), (63, .aload_n 0, 1), (64, .getfield 29, 3), (67, .aload_n 3, 1), (68, .getfield 89, 3), (71, .aaload, 1), (72, .getfield 141, 3), (75, .iconst 2, 1), (76, .dup2, 1), (77, .laload, 1), (78, .iload 4, 2), (80, .i2l, 1), (81, .ladd, 1), (82, .lastore, 1), (83, .aload_n 0, 1), (84, .getfield 29, 3), (87, .iload_n 2, 1), (88, .aaload, 1), (89, .getfield 141, 3), (92, .iconst 2, 1), (93, .dup2, 1), (94, .laload, 1), (95, .iload 5, 2), (97, .i2l, 1)]
theorem hX5_carry_0 : zdec (yC mX5_carry) kX5_carry_0 = true := by decide +kernel
def kX5_carry_1 : List (Nat × Instr × Nat) := [(98, .ladd, 1), (99, .lastore, 1), (100, .aload_n 3, 1), (101, .iload_n 2, 1), (102, .putfield 89, 3), (105, .iload 4, 2), (107, .iload 5, 2), (109, .iadd, 1), (110, .ireturn, 1)]
theorem hX5_carry_1 : zdec (yC mX5_carry) kX5_carry_1 = true := by decide +kernel
def kX5_carryBack : List (Nat × Instr × Nat) := [(0, .aload_n 0, 1), (1, .getfield 42, 3), (4, .iconst 1, 1), (5, .invokevirtual 149, 3), (8, .istore_n 1, 1), (9, .aload_n 0, 1), (10, .getfield 29, 3), (13, .iload_n 1, 1), (14, .aaload, 1), (15, .getfield 141, 3), (18, .iconst 2, 1), (19, .dup2, 1), (20, .laload, 1), (21, .aload_n 0, 1), (22, .getfield 42, 3), (25, .iconst 3, 1), (26, .invokevirtual 149, 3), (29, .i2l, 1), (30, .lsub, 1), (31, .lastore, 1), (32, .aload_n 0, 1), (33, .getfield 29, 3), (36, .aload_n 0, 1), (37, .getfield 42, 3), (40, .iconst 2, 1), (41, .invokevirtual 149, 3), (44, .aaload, 1), (45, .getfield 141, 3), (48, .iconst 2, 1), (49, .dup2, 1), (50, .laload, 1), (51, .aload_n 0, 1), (52, .getfield 42, 3), (55, .iconst 4, 1), (56, .invokevirtual 149, 3), (59, .i2l, 1), (60, .lsub, 1), (61, .lastore, 1), (62, .aload_n 0, 1), (63, .getfield 35, 3), (66, .aload_n 0, 1), (67, .getfield 42, 3), (70, .iconst 0, 1), (71, .invokevirtual 149, 3), (74, .aaload, 1), (75, .iload_n 1, 1), (76, .putfield 89, 3), (79, .aload_n 0, 1), (80, .getfield 42, 3), (83, .dup, 1), (84, .getfield 58, 3), (87, .iconst 1, 1), (88, .isub, 1), (89, .putfield 58, 3), (92, .return_, 1)]
theorem hX5_carryBack : zdec (yC mX5_carryBack) kX5_carryBack = true := by decide +kernel
def kX5_learnAgain : List (Nat × Instr × Nat) := [(0, .aload_n 0, 1), (1, .iload_n 1, 1), (2, .putfield 9, 3), (5, .aload_n 0, 1), (6, .iload_n 2, 1), (7, .putfield 15, 3), (10, .iconst 0, 1), (11, .istore_n 3, 1), (12, .iload_n 3, 1), (13, .aload_n 0, 1), (14, .getfield 24, 3), (17, .if_icmp .ge 30, 3), (20, .aload_n 0, 1), (21, .getfield 35, 3), (24, .iload_n 3, 1), (25, .aaload, 1), (26, .aload_n 0, 1), (27, .getfield 18, 3), (30, .aload_n 0, 1), (31, .getfield 9, 3), (34, .aload_n 0, 1), (35, .getfield 15, 3), (38, .invokevirtual 152, 3), (41, .iinc 3 1, 3), (44, .goto (-32), 3), (47, .return_, 1)]
theorem hX5_learnAgain : zdec (yC mX5_learnAgain) kX5_learnAgain = true := by decide +kernel
def kX6_init : List (Nat × Instr × Nat) := [(0, .aload_n 0, 1), (1, .invokespecial 3, 3), (4, .aload_n 0, 1), (5, .lconst 0, 1), (6, .putfield 9, 3), (9, .aload_n 0, 1), (10, .iconst 5, 1), (11, .newarray .int, 2), (13, .putfield 15, 3), (16, .aload_n 0, 1), (17, .iconst 3, 1), (18, .newarray .long, 2), (20, .putfield 19, 3), (23, .return_, 1)]
theorem hX6_init : zdec (yC mX6_init) kX6_init = true := by decide +kernel
def kX6_copyFrom : List (Nat × Instr × Nat) := [(0, .aload_n 0, 1), (1, .aload_n 1, 1), (2, .getfield 9, 3), (5, .putfield 9, 3), (8, .iconst 0, 1), (9, .istore_n 2, 1), (10, .iload_n 2, 1), (11, .iconst 5, 1), (12, .if_icmp .ge 21, 3), (15, .aload_n 0, 1), (16, .getfield 15, 3), (19, .iload_n 2, 1), (20, .aload_n 1, 1), (21, .getfield 15, 3), (24, .iload_n 2, 1), (25, .iaload, 1), (26, .iastore, 1), (27, .iinc 2 1, 3), (30, .goto (-20), 3), (33, .iconst 0, 1), (34, .istore_n 2, 1), (35, .iload_n 2, 1), (36, .iconst 3, 1), (37, .if_icmp .ge 21, 3), (40, .aload_n 0, 1), (41, .getfield 19, 3), (44, .iload_n 2, 1), (45, .aload_n 1, 1), (46, .getfield 19, 3), (49, .iload_n 2, 1), (50, .laload, 1), (51, .lastore, 1), (52, .iinc 2 1, 3), (55, .goto (-20), 3), (58, .return_, 1)]
theorem hX6_copyFrom : zdec (yC mX6_copyFrom) kX6_copyFrom = true := by decide +kernel
def kX6_startAs : List (Nat × Instr × Nat) := [(0, .aload_n 0, 1), (1, .lload_n 1, 1), (2, .putfield 9, 3), (5, .iconst 0, 1), (6, .istore_n 3, 1), (7, .iload_n 3, 1), (8, .iconst 3, 1), (9, .if_icmp .ge 16, 3), (12, .aload_n 0, 1), (13, .getfield 19, 3), (16, .iload_n 3, 1), (17, .lconst 0, 1), (18, .lastore, 1), (19, .iinc 3 1, 3), (22, .goto (-15), 3), (25, .return_, 1)]
theorem hX6_startAs : zdec (yC mX6_startAs) kX6_startAs = true := by decide +kernel
def kX6_paidFor : List (Nat × Instr × Nat) := [(0, .iload_n 1, 1), (1, .iconst 3, 1), (2, .if_icmp .ne 26, 3), (5, .aload_n 0, 1), (6, .getfield 19, 3), (9, .iconst 0, 1), (10, .laload, 1), (11, .aload_n 0, 1), (12, .getfield 19, 3), (15, .iconst 1, 1), (16, .laload, 1), (17, .ladd, 1), (18, .aload_n 0, 1), (19, .getfield 19, 3), (22, .iconst 2, 1), (23, .laload, 1), (24, .ladd, 1), (25, .goto 9, 3), (28, .aload_n 0, 1), (29, .getfield 19, 3), (32, .iload_n 1, 1), (33, .laload, 1), (34, .lreturn, 1)]
theorem hX6_paidFor : zdec (yC mX6_paidFor) kX6_paidFor = true := by decide +kernel
def kX7_init : List (Nat × Instr × Nat) := [(0, .aload_n 0, 1), (1, .invokespecial 3, 3), (4, .aload_n 0, 1), (5, .iconst 0, 1), (6, .putfield 9, 3), (9, .aload_n 0, 1), (10, .sipush 256, 3), (13, .newarray .int, 2), (15, .putfield 15, 3), (18, .return_, 1)]
theorem hX7_init : zdec (yC mX7_init) kX7_init = true := by decide +kernel
def kX7_withLetter : List (Nat × Instr × Nat) := [(0, .lload_n 0, 1), (1, .iconst 5, 1), (2, .lshl, 1), (3, .iload_n 2, 1), (4, .bipush 97, 2), (6, .isub, 1), (7, .iconst 1, 1), (8, .iadd, 1), (9, .i2l, 1), (10, .ladd, 1), (11, .lreturn, 1)]
theorem hX7_withLetter : zdec (yC mX7_withLetter) kX7_withLetter = true := by decide +kernel
def kX7_writeStore : List (Nat × Instr × Nat) := [(0, .aload_n 0, 1), (1, .iconst 0, 1), (2, .putfield 9, 3), (5, .iconst 0, 1), (6, .istore_n 2, 1), (7, .iload_n 2, 1), (8, .aload_n 1, 1), (9, .getfield 19, 3), (12, .if_icmp .ge 44, 3), (15, .iload_n 2, 1), (16, .ifCond .le 9, 3), (19, .aload_n 0, 1), (20, .bipush 32, 2), (22, .invokevirtual 24, 3), (25, .aload_n 0, 1), (26, .aload_n 1, 1), (27, .getfield 28, 3), (30, .iload_n 2, 1), (31, .aaload, 1), (32, .getfield 32, 3), (35, .invokevirtual 38, 3), (38, .aload_n 0, 1), (39, .bipush 58, 2), (41, .invokevirtual 24, 3), (44, .aload_n 0, 1), (45, .aload_n 1, 1), (46, .iload_n 2, 1), (47, .invokevirtual 42, 3), (50, .iinc 2 1, 3), (53, .goto (-46), 3), (56, .return_, 1)]
theorem hX7_writeStore : zdec (yC mX7_writeStore) kX7_writeStore = true := by decide +kernel
def kX7_putFilesOn : List (Nat × Instr × Nat) := [(0, .iconst 1, 1), (1, .istore_n 3, 1), (2, .iconst 0, 1), (3, .istore 4, 2), (5, .iload 4, 2), (7, .aload_n 1, 1), (8, .getfield 46, 3), (11, .if_icmp .ge 49, 3), (14, .aload_n 1, 1), (15, .getfield 49, 3), (18, .iload 4, 2), (20, .aaload, 1), (21, .getfield 53, 3), (24, .iload_n 2, 1), (25, .if_icmp .ne 29, 3), (28, .iload_n 3, 1), (29, .ifCond .ne 9, 3), (32, .aload_n 0, 1), (33, .bipush 44, 2), (35, .invokevirtual 24, 3), (38, .aload_n 0, 1), (39, .aload_n 1, 1), (40, .getfield 49, 3), (43, .iload 4, 2), (45, .aaload, 1), (46, .getfield 58, 3), (49, .invokevirtual 38, 3), (52, .iconst 0, 1), (53, .istore_n 3, 1), (54, .iinc 4 1, 3), (57, .goto (-52), 3), (60, .return_, 1)]
theorem hX7_putFilesOn : zdec (yC mX7_putFilesOn) kX7_putFilesOn = true := by decide +kernel
def kX7_putName : List (Nat × Instr × Nat) := [(0, .lload_n 1, 1), (1, .lconst 0, 1), (2, .lcmp, 1), (3, .ifCond .ne 9, 3), (6, .aload_n 0, 1), (7, .bipush 45, 2), (9, .invokevirtual 24, 3), (12, .bipush 35, 2), (14, .istore_n 3, 1), (15, .iload_n 3, 1), (16, .ifCond .lt 34, 3), (19, .lload_n 1, 1), (20, .iload_n 3, 1), (21, .lshr, 1), (22, .l2i, 1), (23, .bipush 31, 2), (25, .iand, 1), (26, .istore 4, 2), (28, .iload 4, 2), (30, .ifCond .le 14, 3), (33, .aload_n 0, 1), (34, .bipush 97, 2), (36, .iload 4, 2), (38, .iadd, 1), (39, .iconst 1, 1), (40, .isub, 1), (41, .invokevirtual 24, 3), (44, .iinc 3 (-5), 3), (47, .goto (-32), 3), (50, .return_, 1)]
theorem hX7_putName : zdec (yC mX7_putName) kX7_putName = true := by decide +kernel
def kX7_putByte : List (Nat × Instr × Nat) := [(0, .aload_n 0, 1), (1, .getfield 9, 3), (4, .sipush 256, 3), (7, .if_icmp .ge 23, 3), (10, .aload_n 0, 1), (11, .getfield 15, 3), (14, .aload_n 0, 1), (15, .getfield 9, 3), (18, .iload_n 1, 1), (19, .iastore, 1), (20, .aload_n 0, 1), (21, .dup, 1), (22, .getfield 9, 3), (25, .iconst 1, 1), (26, .iadd, 1), (27, .putfield 9, 3), (30, .return_, 1)]
theorem hX7_putByte : zdec (yC mX7_putByte) kX7_putByte = true := by decide +kernel
def kX8_init_0 : List (Nat × Instr × Nat) := [(0, .aload_n 0, 1), (1, .invokespecial 1, 3), (4, .aload_n 0, 1), (5, .new 7, 3), (8, .dup, 1), (9, .invokespecial 9, 3), (12, .putfield 10, 3), (15, .aload_n 0, 1), (16, .new 16, 3), (19, .dup, 1), (20, .invokespecial 18, 3), (23, .putfield 19, 3), (26, .aload_n 0, 1), (27, .new 23, 3), (30, .dup, 1), (31, .invokespecial 25, 3), (34, .putfield 26, 3), (37, .aload_n 0, 1), (38, .new 30, 3), (41, .dup, 1), (42, .invokespecial 32, 3), (45, .putfield 33, 3), (48, .aload_n 0, 1), (49, .new 37, 3), (52, .dup, 1), (53, .invokespecial 39, 3), (56, .putfield 40, 3), (59, .aload_n 0, 1), (60, .new 37, 3), (63, .dup, 1), (64, .invokespecial 39, 3), (67, .putfield 44, 3), (70, .aload_n 0, 1), (71, .iconst 2, 1), (72, .anewarray 37, 3), (75, .putfield 47, 3), (78, .aload_n 0, 1), (79, .iconst 2, 1), (80, .newarray .boolean, 2), (82, .putfield 51, 3), (85, .aload_n 0, 1), (86, .bipush 13, 2), (88, .newarray .int, 2), (90, .putfield 55, 3), (93, .iconst 0, 1), (94, .istore_n 1, 1), (95, .iload_n 1, 1), (96, .iconst 2, 1), (97, .if_icmp .ge 22, 3), (100, .aload_n 0, 1), (101, .getfield 47, 3), (104, .iload_n 1, 1), (105, .new 37, 3), (108, .dup, 1), (109, .invokespecial 39, 3), (112, .aastore, 1), (113, .iinc 1 1, 3), (116, .goto (-21), 3), (119, .aload_n 0, 1), (120, .getfield 40, 3)]
theorem hX8_init_0 : zdec (yC mX8_init) kX8_init_0 = true := by decide +kernel
def kX8_init_1 : List (Nat × Instr × Nat) := [(123, .invokevirtual 59, 3), (126, .return_, 1)]
theorem hX8_init_1 : zdec (yC mX8_init) kX8_init_1 = true := by decide +kernel
def kX8_append : List (Nat × Instr × Nat) := [(0, .iload_n 1, 1), (1, .invokestatic 62, 3), (4, .iload_n 2, 1), (5, .invokestatic 62, 3), (8, .iadd, 1), (9, .iload_n 3, 1), (10, .invokestatic 62, 3), (13, .iadd, 1), (14, .iload 4, 2), (16, .invokestatic 62, 3), (19, .iadd, 1), (20, .iload 5, 2), (22, .invokestatic 62, 3), (25, .iadd, 1), (26, .istore 6, 2), (28, .aload_n 0, 1), (29, .getfield 10, 3), (32, .getfield 66, 3), (35, .iload 6, 2), (37, .iadd, 1), (38, .sipush 600, 3), (41, .if_icmp .le 11, 3), (44, .new 70, 3), (47, .dup, 1), (48, .invokespecial 72, 3), (51, .athrow, 1), (52, .aload_n 0, 1), (53, .getfield 10, 3), (56, .iload_n 1, 1), (57, .invokevirtual 73, 3), (60, .aload_n 0, 1), (61, .getfield 10, 3), (64, .iload_n 2, 1), (65, .invokevirtual 73, 3), (68, .aload_n 0, 1), (69, .getfield 10, 3), (72, .iload_n 3, 1), (73, .invokevirtual 73, 3), (76, .aload_n 0, 1), (77, .getfield 10, 3), (80, .iload 4, 2), (82, .invokevirtual 73, 3), (85, .aload_n 0, 1), (86, .getfield 10, 3), (89, .iload 5, 2), (91, .invokevirtual 73, 3), (94, .aload_n 0, 1), (95, .getfield 10, 3), (98, .getfield 66, 3), (101, .ireturn, 1)]
theorem hX8_append : zdec (yC mX8_append) kX8_append = true := by decide +kernel
def kX8_load : List (Nat × Instr × Nat) := [(0, .aload_n 0, 1), (1, .getfield 10, 3), (4, .aload_n 0, 1), (5, .getfield 44, 3), (8, .invokevirtual 77, 3), (11, .istore_n 1, 1), (12, .iload_n 1, 1), (13, .ifCond .lt 25, 3), (16, .aload_n 0, 1), (17, .getfield 33, 3), (20, .aload_n 0, 1), (21, .getfield 40, 3), (24, .invokevirtual 81, 3), (27, .aload_n 0, 1), (28, .getfield 40, 3), (31, .aload_n 0, 1), (32, .getfield 44, 3), (35, .invokevirtual 85, 3), (38, .iload_n 1, 1), (39, .ireturn, 1)]
theorem hX8_load : zdec (yC mX8_load) kX8_load = true := by decide +kernel
def kX8_errorPosition : List (Nat × Instr × Nat) := [(0, .aload_n 0, 1), (1, .getfield 10, 3), (4, .getfield 88, 3), (7, .ireturn, 1)]
theorem hX8_errorPosition : zdec (yC mX8_errorPosition) kX8_errorPosition = true := by decide +kernel
def kX8_count : List (Nat × Instr × Nat) := [(0, .iload_n 1, 1), (1, .tableswitch 114 0 7 #[47, 55, 63, 71, 79, 87, 95, 106], 47), (48, .aload_n 0, 1), (49, .getfield 40, 3), (52, .getfield 91, 3), (55, .ireturn, 1), (56, .aload_n 0, 1), (57, .getfield 40, 3), (60, .getfield 94, 3), (63, .ireturn, 1), (64, .aload_n 0, 1), (65, .getfield 40, 3), (68, .getfield 97, 3), (71, .ireturn, 1), (72, .aload_n 0, 1), (73, .getfield 40, 3), (76, .getfield 100, 3), (79, .ireturn, 1), (80, .aload_n 0, 1), (81, .getfield 40, 3), (84, .getfield 103, 3), (87, .ireturn, 1), (88, .aload_n 0, 1), (89, .getfield 40, 3), (92, .invokevirtual 106, 3), (95, .ireturn, 1), (96, .aload_n 0, 1), (97, .getfield 40, 3), (100, .getfield 110, 3), (103, .getfield 114, 3), (106, .ireturn, 1), (107, .aload_n 0, 1), (108, .getfield 40, 3), (111, .invokevirtual 119, 3), (114, .ireturn, 1), (115, .new 122, 3), (118, .dup, 1), (119, .invokespecial 124, 3), (122, .athrow, 1)]
theorem hX8_count : zdec (yC mX8_count) kX8_count = true := by decide +kernel
def kX8_tier : List (Nat × Instr × Nat) := [(0, .aload_n 0, 1), (1, .iload_n 1, 1), (2, .invokevirtual 125, 3), (5, .iload_n 2, 1), (6, .ifCond .lt 23, 3), (9, .iload_n 2, 1), (10, .iconst 5, 1), (11, .if_icmp .ge 18, 3), (14, .aload_n 0, 1), (15, .getfield 40, 3), (18, .getfield 128, 3), (21, .iload_n 1, 1), (22, .aaload, 1), (23, .getfield 132, 3), (26, .iload_n 2, 1), (27, .iaload, 1), (28, .ireturn, 1), (29, .iload_n 2, 1), (30, .tableswitch 53 5 7 #[26, 35, 44], 26), (56, .aload_n 0, 1), (57, .getfield 40, 3), (60, .iload_n 1, 1), (61, .invokevirtual 137, 3), (64, .ireturn, 1), (65, .aload_n 0, 1), (66, .getfield 40, 3), (69, .iload_n 1, 1), (70, .invokevirtual 140, 3), (73, .ireturn, 1), (74, .aload_n 0, 1), (75, .getfield 40, 3), (78, .iload_n 1, 1), (79, .invokevirtual 143, 3), (82, .ireturn, 1), (83, .new 122, 3), (86, .dup, 1), (87, .invokespecial 124, 3), (90, .athrow, 1)]
theorem hX8_tier : zdec (yC mX8_tier) kX8_tier = true := by decide +kernel
def kX8_file : List (Nat × Instr × Nat) := [(0, .aload_n 0, 1), (1, .iload_n 1, 1), (2, .invokevirtual 146, 3), (5, .aload_n 0, 1), (6, .getfield 40, 3), (9, .getfield 149, 3), (12, .iload_n 1, 1), (13, .aaload, 1), (14, .astore_n 3, 1), (15, .iload_n 2, 1), (16, .tableswitch 121 0 9 #[56, 61, 66, 71, 76, 96, 101, 106, 111, 116], 56), (72, .aload_n 3, 1), (73, .getfield 153, 3), (76, .ireturn, 1), (77, .aload_n 3, 1), (78, .getfield 156, 3), (81, .ireturn, 1), (82, .aload_n 3, 1), (83, .getfield 159, 3), (86, .ireturn, 1), (87, .aload_n 3, 1), (88, .getfield 162, 3), (91, .ireturn, 1), (92, .aload_n 3, 1), (93, .aload_n 0, 1), (94, .getfield 40, 3), (97, .getfield 103, 3), (100, .invokevirtual 165, 3), (103, .ifCond .eq 7, 3), (106, .iconst 1, 1), (107, .goto 4, 3), (110, .iconst 0, 1), (111, .ireturn, 1), (112, .aload_n 3, 1), (113, .getfield 169, 3), (116, .ireturn, 1), (117, .aload_n 3, 1), (118, .getfield 172, 3), (121, .ireturn, 1), (122, .aload_n 3, 1), (123, .invokevirtual 175, 3), (126, .ireturn, 1), (127, .aload_n 3, 1), (128, .invokevirtual 178, 3), (131, .ireturn, 1), (132, .aload_n 3, 1), (133, .invokevirtual 181, 3), (136, .ireturn, 1), (137, .new 122, 3), (140, .dup, 1), (141, .invokespecial 124, 3), (144, .athrow, 1)]
theorem hX8_file : zdec (yC mX8_file) kX8_file = true := by decide +kernel
def kX8_season : List (Nat × Instr × Nat) := [(0, .aload_n 0, 1), (1, .iload_n 1, 1), (2, .invokevirtual 146, 3), (5, .iload_n 2, 1), (6, .ifCond .lt 14, 3), (9, .iload_n 2, 1), (10, .aload_n 0, 1), (11, .getfield 40, 3), (14, .getfield 91, 3), (17, .if_icmp .lt 11, 3), (20, .new 184, 3), (23, .dup, 1), (24, .invokespecial 186, 3), (27, .athrow, 1), (28, .aload_n 0, 1), (29, .getfield 40, 3), (32, .getfield 149, 3), (35, .iload_n 1, 1), (36, .aaload, 1), (37, .getfield 187, 3), (40, .iload_n 2, 1), (41, .iaload, 1), (42, .ireturn, 1)]
theorem hX8_season : zdec (yC mX8_season) kX8_season = true := by decide +kernel
def kX8_kept : List (Nat × Instr × Nat) := [(0, .aload_n 0, 1), (1, .iload_n 1, 1), (2, .invokevirtual 146, 3), (5, .iload_n 2, 1), (6, .ifCond .lt 19, 3), (9, .iload_n 2, 1), (10, .aload_n 0, 1), (11, .getfield 40, 3), (14, .getfield 149, 3), (17, .iload_n 1, 1), (18, .aaload, 1), (19, .getfield 169, 3), (22, .if_icmp .lt 11, 3), (25, .new 184, 3), (28, .dup, 1), (29, .invokespecial 186, 3), (32, .athrow, 1), (33, .aload_n 0, 1), (34, .getfield 40, 3), (37, .getfield 149, 3), (40, .iload_n 1, 1), (41, .aaload, 1), (42, .getfield 190, 3), (45, .iload_n 2, 1), (46, .iaload, 1), (47, .ireturn, 1)]
theorem hX8_kept : zdec (yC mX8_kept) kX8_kept = true := by decide +kernel
def kX8_forecast : List (Nat × Instr × Nat) := [(0, .aload_n 0, 1), (1, .iload_n 1, 1), (2, .invokevirtual 146, 3), (5, .iload_n 2, 1), (6, .ifCond .lt 9, 3), (9, .iload_n 2, 1), (10, .bipush 24, 2), (12, .if_icmp .le 11, 3), (15, .new 122, 3), (18, .dup, 1), (19, .invokespecial 124, 3), (22, .athrow, 1), (23, .aload_n 0, 1), (24, .getfield 40, 3), (27, .getfield 149, 3), (30, .iload_n 1, 1), (31, .aaload, 1), (32, .aload_n 0, 1), (33, .getfield 40, 3), (36, .iload_n 2, 1), (37, .invokevirtual 193, 3), (40, .invokevirtual 196, 3), (43, .ireturn, 1)]
theorem hX8_forecast : zdec (yC mX8_forecast) kX8_forecast = true := by decide +kernel
def kX8_off : List (Nat × Instr × Nat) := [(0, .aload_n 0, 1), (1, .iload_n 1, 1), (2, .invokevirtual 146, 3), (5, .aload_n 0, 1), (6, .getfield 40, 3), (9, .getfield 149, 3), (12, .iload_n 1, 1), (13, .aaload, 1), (14, .getfield 199, 3), (17, .lreturn, 1)]
theorem hX8_off : zdec (yC mX8_off) kX8_off = true := by decide +kernel
def kX8_meanOff : List (Nat × Instr × Nat) := [(0, .lconst 0, 1), (1, .lstore_n 1, 1), (2, .iconst 0, 1), (3, .istore_n 3, 1), (4, .iconst 0, 1), (5, .istore 4, 2), (7, .iload 4, 2), (9, .aload_n 0, 1), (10, .getfield 40, 3), (13, .getfield 100, 3), (16, .if_icmp .ge 41, 3), (19, .lload_n 1, 1), (20, .aload_n 0, 1), (21, .getfield 40, 3), (24, .getfield 149, 3), (27, .iload 4, 2), (29, .aaload, 1), (30, .getfield 199, 3), (33, .ladd, 1), (34, .lstore_n 1, 1), (35, .iload_n 3, 1), (36, .aload_n 0, 1), (37, .getfield 40, 3), (40, .getfield 149, 3), (43, .iload 4, 2), (45, .aaload, 1), (46, .getfield 172, 3), (49, .iadd, 1), (50, .istore_n 3, 1), (51, .iinc 4 1, 3), (54, .goto (-47), 3), (57, .iload_n 3, 1), (58, .ifCond .ne 7, 3), (61, .dconst 0, 1), (62, .goto 8, 3), (65, .lload_n 1, 1), (66, .l2d, 1), (67, .iload_n 3, 1), (68, .i2d, 1), (69, .ddiv, 1), (70, .dreturn, 1)]
theorem hX8_meanOff : zdec (yC mX8_meanOff) kX8_meanOff = true := by decide +kernel
def kX8_cycleOf : List (Nat × Instr × Nat) := [(0, .aload_n 0, 1), (1, .iload_n 1, 1), (2, .invokevirtual 146, 3), (5, .aload_n 0, 1), (6, .getfield 40, 3), (9, .getfield 149, 3), (12, .iload_n 1, 1), (13, .aaload, 1), (14, .invokevirtual 203, 3), (17, .ireturn, 1)]
theorem hX8_cycleOf : zdec (yC mX8_cycleOf) kX8_cycleOf = true := by decide +kernel
def kX8_commonCycle_0 : List (Nat × Instr × Nat) := [(0, .iconst 0, 1), (1, .istore_n 1, 1), (2, .iload_n 1, 1), (3, .bipush 12, 2), (5, .if_icmp .gt 16, 3), (8, .aload_n 0, 1), (9, .getfield 55, 3), (12, .iload_n 1, 1), (13, .iconst 0, 1), (14, .iastore, 1), (15, .iinc 1 1, 3), (18, .goto (-16), 3), (21, .iconst 0, 1), (22, .istore_n 1, 1), (23, .iload_n 1, 1), (24, .aload_n 0, 1), (25, .getfield 40, 3), (28, .getfield 100, 3), (31, .if_icmp .ge 37, 3), (34, .aload_n 0, 1), (35, .getfield 40, 3), (38, .getfield 149, 3), (41, .iload_n 1, 1), (42, .aaload, 1), (43, .invokevirtual 203, 3), (46, .istore_n 2, 1), (47, .iload_n 2, 1), (48, .iconst (-1), 1), (49, .if_icmp .eq 13, 3), (52, .aload_n 0, 1), (53, .getfield 55, 3), (56, .iload_n 2, 1), (57, .dup2, 1), (58, .iaload, 1), (59, .iconst 1, 1), (60, .iadd, 1), (61, .iastore, 1), (62, .iinc 1 1, 3), (65, .goto (-42), 3), (68, .iconst (-1), 1), (69, .istore_n 1, 1), (70, .iconst 0, 1), (71, .istore_n 2, 1), (72, .iconst 2, 1), (73, .istore_n 3, 1), (74, .iload_n 3, 1), (75, .bipush 12, 2), (77, .if_icmp .gt 28, 3), (80, .aload_n 0, 1), (81, .getfield 55, 3), (84, .iload_n 3, 1), (85, .iaload, 1), (86, .iload_n 2, 1), (87, .if_icmp .le 12, 3), (90, .aload_n 0, 1), (91, .getfield 55, 3), (94, .iload_n 3, 1), (95, .iaload, 1), (96, .istore_n 2, 1), (97, .iload_n 3, 1)]
theorem hX8_commonCycle_0 : zdec (yC mX8_commonCycle) kX8_commonCycle_0 = true := by decide +kernel
def kX8_commonCycle_1 : List (Nat × Instr × Nat) := [(98, .istore_n 1, 1), (99, .iinc 3 1, 3), (102, .goto (-28), 3), (105, .iload_n 1, 1), (106, .ireturn, 1)]
theorem hX8_commonCycle_1 : zdec (yC mX8_commonCycle) kX8_commonCycle_1 = true := by decide +kernel
def kX8_account : List (Nat × Instr × Nat) := [(0, .iload_n 1, 1), (1, .iconst (-1), 1), (2, .if_icmp .eq 8, 3), (5, .aload_n 0, 1), (6, .iload_n 1, 1), (7, .invokevirtual 125, 3), (10, .iload_n 2, 1), (11, .iconst 0, 1), (12, .iconst 3, 1), (13, .invokestatic 206, 3), (16, .iload_n 1, 1), (17, .iconst (-1), 1), (18, .if_icmp .ne 14, 3), (21, .aload_n 0, 1), (22, .getfield 40, 3), (25, .iload_n 2, 1), (26, .invokevirtual 210, 3), (29, .goto 16, 3), (32, .aload_n 0, 1), (33, .getfield 40, 3), (36, .getfield 128, 3), (39, .iload_n 1, 1), (40, .aaload, 1), (41, .iload_n 2, 1), (42, .invokevirtual 214, 3), (45, .lreturn, 1)]
theorem hX8_account : zdec (yC mX8_account) kX8_account = true := by decide +kernel
def kX8_movingShare : List (Nat × Instr × Nat) := [(0, .aload_n 0, 1), (1, .getfield 40, 3), (4, .iconst 3, 1), (5, .invokevirtual 210, 3), (8, .lstore_n 1, 1), (9, .lload_n 1, 1), (10, .lconst 0, 1), (11, .lcmp, 1), (12, .ifCond .ne 7, 3), (15, .fconst 0, 1), (16, .goto 15, 3), (19, .aload_n 0, 1), (20, .getfield 40, 3), (23, .iconst 2, 1), (24, .invokevirtual 210, 3), (27, .l2f, 1), (28, .lload_n 1, 1), (29, .l2f, 1), (30, .fdiv, 1), (31, .freturn, 1)]
theorem hX8_movingShare : zdec (yC mX8_movingShare) kX8_movingShare = true := by decide +kernel
def kX8_cost : List (Nat × Instr × Nat) := [(0, .aload_n 0, 1), (1, .iload_n 1, 1), (2, .invokevirtual 146, 3), (5, .aload_n 0, 1), (6, .iload_n 2, 1), (7, .invokevirtual 125, 3), (10, .iload_n 3, 1), (11, .invokestatic 217, 3), (14, .aload_n 0, 1), (15, .getfield 40, 3), (18, .iload_n 1, 1), (19, .iload_n 2, 1), (20, .iload_n 3, 1), (21, .aload_n 0, 1), (22, .getfield 40, 3), (25, .iload_n 1, 1), (26, .iload_n 3, 1), (27, .invokevirtual 220, 3), (30, .invokevirtual 224, 3), (33, .lreturn, 1)]
theorem hX8_cost : zdec (yC mX8_cost) kX8_cost = true := by decide +kernel
def kX8_wish : List (Nat × Instr × Nat) := [(0, .aload_n 0, 1), (1, .iload_n 1, 1), (2, .invokevirtual 146, 3), (5, .iload_n 2, 1), (6, .invokestatic 217, 3), (9, .aload_n 0, 1), (10, .getfield 26, 3), (13, .aload_n 0, 1), (14, .getfield 40, 3), (17, .iload_n 1, 1), (18, .iload_n 2, 1), (19, .invokevirtual 228, 3), (22, .ireturn, 1)]
theorem hX8_wish : zdec (yC mX8_wish) kX8_wish = true := by decide +kernel
def kX8_steps : List (Nat × Instr × Nat) := [(0, .iload_n 1, 1), (1, .invokestatic 217, 3), (4, .aload_n 0, 1), (5, .getfield 26, 3), (8, .aload_n 0, 1), (9, .getfield 40, 3), (12, .iload_n 1, 1), (13, .invokevirtual 232, 3), (16, .aload_n 0, 1), (17, .getfield 26, 3), (20, .getfield 236, 3), (23, .ireturn, 1)]
theorem hX8_steps : zdec (yC mX8_steps) kX8_steps = true := by decide +kernel
def kX8_step : List (Nat × Instr × Nat) := [(0, .iload_n 1, 1), (1, .invokestatic 217, 3), (4, .iload_n 3, 1), (5, .iconst 0, 1), (6, .iconst 2, 1), (7, .invokestatic 206, 3), (10, .aload_n 0, 1), (11, .getfield 26, 3), (14, .aload_n 0, 1), (15, .getfield 40, 3), (18, .iload_n 1, 1), (19, .invokevirtual 232, 3), (22, .iload_n 2, 1), (23, .ifCond .lt 14, 3), (26, .iload_n 2, 1), (27, .aload_n 0, 1), (28, .getfield 26, 3), (31, .getfield 236, 3), (34, .if_icmp .lt 11, 3), (37, .new 184, 3), (40, .dup, 1), (41, .invokespecial 186, 3), (44, .athrow, 1), (45, .iload_n 3, 1), (46, .lookupswitch 46 #[(0, 26), (1, 36)], 26), (72, .aload_n 0, 1), (73, .getfield 26, 3), (76, .getfield 239, 3), (79, .iload_n 2, 1), (80, .iaload, 1), (81, .ireturn, 1), (82, .aload_n 0, 1), (83, .getfield 26, 3), (86, .getfield 242, 3), (89, .iload_n 2, 1), (90, .iaload, 1), (91, .ireturn, 1), (92, .aload_n 0, 1), (93, .getfield 26, 3), (96, .getfield 245, 3), (99, .iload_n 2, 1), (100, .iaload, 1), (101, .ireturn, 1)]
theorem hX8_step : zdec (yC mX8_step) kX8_step = true := by decide +kernel
def kX8_saving : List (Nat × Instr × Nat) := [(0, .iload_n 1, 1), (1, .invokestatic 217, 3), (4, .aload_n 0, 1), (5, .getfield 26, 3), (8, .aload_n 0, 1), (9, .getfield 40, 3), (12, .iload_n 1, 1), (13, .invokevirtual 232, 3), (16, .aload_n 0, 1), (17, .getfield 26, 3), (20, .getfield 248, 3), (23, .lreturn, 1)]
theorem hX8_saving : zdec (yC mX8_saving) kX8_saving = true := by decide +kernel
def kX8_withRoom : List (Nat × Instr × Nat) := [(0, .aload_n 0, 1), (1, .iload_n 1, 1), (2, .invokevirtual 125, 3), (5, .iload_n 2, 1), (6, .iconst 0, 1), (7, .ldc 251, 2), (9, .invokestatic 206, 3), (12, .iload_n 3, 1), (13, .invokestatic 217, 3), (16, .aload_n 0, 1), (17, .getfield 26, 3), (20, .aload_n 0, 1), (21, .getfield 40, 3), (24, .iload_n 3, 1), (25, .invokevirtual 232, 3), (28, .aload_n 0, 1), (29, .getfield 26, 3), (32, .getfield 248, 3), (35, .lstore 4, 2), (37, .aload_n 0, 1), (38, .getfield 26, 3), (41, .aload_n 0, 1), (42, .getfield 40, 3), (45, .iload_n 1, 1), (46, .iload_n 2, 1), (47, .invokevirtual 252, 3), (50, .aload_n 0, 1), (51, .getfield 26, 3), (54, .getfield 248, 3), (57, .lload 4, 2), (59, .lsub, 1), (60, .lreturn, 1)]
theorem hX8_withRoom : zdec (yC mX8_withRoom) kX8_withRoom = true := by decide +kernel
def kX8_add : List (Nat × Instr × Nat) := [(0, .iload_n 1, 1), (1, .iconst 1, 1), (2, .sipush 999, 3), (5, .invokestatic 206, 3), (8, .aload_n 0, 1), (9, .iload_n 2, 1), (10, .invokevirtual 125, 3), (13, .aload_n 0, 1), (14, .getfield 40, 3), (17, .getfield 100, 3), (20, .bipush 20, 2), (22, .if_icmp .lt 6, 3), (25, .bipush (-11), 2), (27, .ireturn, 1), (28, .aload_n 0, 1), (29, .getfield 40, 3), (32, .iload_n 2, 1), (33, .iload_n 1, 1), (34, .invokevirtual 256, 3), (37, .ifCond .ne 6, 3), (40, .bipush (-15), 2), (42, .ireturn, 1), (43, .aload_n 0, 1), (44, .getfield 33, 3), (47, .aload_n 0, 1), (48, .getfield 40, 3), (51, .invokevirtual 81, 3), (54, .aload_n 0, 1), (55, .getfield 40, 3), (58, .lconst 0, 1), (59, .iload_n 1, 1), (60, .iload_n 2, 1), (61, .iconst 0, 1), (62, .invokevirtual 260, 3), (65, .aload_n 0, 1), (66, .getfield 40, 3), (69, .getfield 100, 3), (72, .iconst 1, 1), (73, .isub, 1), (74, .ireturn, 1)]
theorem hX8_add : zdec (yC mX8_add) kX8_add = true := by decide +kernel
def kX8_drop : List (Nat × Instr × Nat) := [(0, .aload_n 0, 1), (1, .iload_n 1, 1), (2, .invokevirtual 146, 3), (5, .aload_n 0, 1), (6, .getfield 33, 3), (9, .aload_n 0, 1), (10, .getfield 40, 3), (13, .invokevirtual 81, 3), (16, .aload_n 0, 1), (17, .getfield 40, 3), (20, .iload_n 1, 1), (21, .invokevirtual 264, 3), (24, .aload_n 0, 1), (25, .getfield 40, 3), (28, .getfield 100, 3), (31, .ireturn, 1)]
theorem hX8_drop : zdec (yC mX8_drop) kX8_drop = true := by decide +kernel
def kX8_use : List (Nat × Instr × Nat) := [(0, .aload_n 0, 1), (1, .iload_n 1, 1), (2, .invokevirtual 146, 3), (5, .iload_n 2, 1), (6, .iconst 1, 1), (7, .sipush 9999, 3), (10, .invokestatic 206, 3), (13, .aload_n 0, 1), (14, .getfield 40, 3), (17, .getfield 149, 3), (20, .iload_n 1, 1), (21, .aaload, 1), (22, .astore_n 3, 1), (23, .aload_n 3, 1), (24, .getfield 159, 3), (27, .iload_n 2, 1), (28, .iadd, 1), (29, .sipush 9999, 3), (32, .if_icmp .le 6, 3), (35, .bipush (-18), 2), (37, .ireturn, 1), (38, .aload_n 0, 1), (39, .getfield 33, 3), (42, .aload_n 0, 1), (43, .getfield 40, 3), (46, .invokevirtual 81, 3), (49, .aload_n 3, 1), (50, .dup, 1), (51, .getfield 159, 3), (54, .iload_n 2, 1), (55, .iadd, 1), (56, .putfield 159, 3), (59, .aload_n 3, 1), (60, .getfield 159, 3), (63, .ireturn, 1)]
theorem hX8_use : zdec (yC mX8_use) kX8_use = true := by decide +kernel
def kX8_close : List (Nat × Instr × Nat) := [(0, .aload_n 0, 1), (1, .getfield 40, 3), (4, .getfield 103, 3), (7, .sipush 9999, 3), (10, .if_icmp .lt 7, 3), (13, .ldc2_w 267, 3), (16, .lreturn, 1), (17, .aload_n 0, 1), (18, .getfield 33, 3), (21, .aload_n 0, 1), (22, .getfield 40, 3), (25, .invokevirtual 81, 3), (28, .aload_n 0, 1), (29, .getfield 40, 3), (32, .invokevirtual 269, 3), (35, .lreturn, 1)]
theorem hX8_close : zdec (yC mX8_close) kX8_close = true := by decide +kernel
def kX8_move : List (Nat × Instr × Nat) := [(0, .aload_n 0, 1), (1, .iload_n 1, 1), (2, .invokevirtual 146, 3), (5, .aload_n 0, 1), (6, .iload_n 2, 1), (7, .invokevirtual 125, 3), (10, .aload_n 0, 1), (11, .getfield 40, 3), (14, .getfield 149, 3), (17, .iload_n 1, 1), (18, .aaload, 1), (19, .astore_n 3, 1), (20, .aload_n 3, 1), (21, .aload_n 0, 1), (22, .getfield 40, 3), (25, .getfield 103, 3), (28, .invokevirtual 165, 3), (31, .ifCond .eq 6, 3), (34, .bipush (-13), 2), (36, .ireturn, 1), (37, .aload_n 3, 1), (38, .getfield 156, 3), (41, .iload_n 2, 1), (42, .if_icmp .ne 6, 3), (45, .bipush (-14), 2), (47, .ireturn, 1), (48, .aload_n 0, 1), (49, .getfield 40, 3), (52, .iload_n 2, 1), (53, .aload_n 3, 1), (54, .getfield 153, 3), (57, .invokevirtual 256, 3), (60, .ifCond .ne 6, 3), (63, .bipush (-15), 2), (65, .ireturn, 1), (66, .aload_n 0, 1), (67, .getfield 33, 3), (70, .aload_n 0, 1), (71, .getfield 40, 3), (74, .invokevirtual 81, 3), (77, .aload_n 0, 1), (78, .getfield 40, 3), (81, .iload_n 1, 1), (82, .iload_n 2, 1), (83, .invokevirtual 273, 3), (86, .ireturn, 1)]
theorem hX8_move : zdec (yC mX8_move) kX8_move = true := by decide +kernel
def kX8_unmove : List (Nat × Instr × Nat) := [(0, .aload_n 0, 1), (1, .getfield 40, 3), (4, .getfield 110, 3), (7, .getfield 114, 3), (10, .ifCond .ne 6, 3), (13, .bipush (-16), 2), (15, .ireturn, 1), (16, .aload_n 0, 1), (17, .getfield 40, 3), (20, .getfield 110, 3), (23, .iconst 0, 1), (24, .invokevirtual 277, 3), (27, .istore_n 1, 1), (28, .aload_n 0, 1), (29, .getfield 40, 3), (32, .aload_n 0, 1), (33, .getfield 40, 3), (36, .getfield 110, 3), (39, .iconst 1, 1), (40, .invokevirtual 277, 3), (43, .aload_n 0, 1), (44, .getfield 40, 3), (47, .getfield 149, 3), (50, .iload_n 1, 1), (51, .aaload, 1), (52, .getfield 153, 3), (55, .invokevirtual 256, 3), (58, .ifCond .ne 6, 3), (61, .bipush (-15), 2), (63, .ireturn, 1), (64, .aload_n 0, 1), (65, .getfield 33, 3), (68, .aload_n 0, 1), (69, .getfield 40, 3), (72, .invokevirtual 81, 3), (75, .aload_n 0, 1), (76, .getfield 40, 3), (79, .invokevirtual 280, 3), (82, .iload_n 1, 1), (83, .ireturn, 1)]
theorem hX8_unmove : zdec (yC mX8_unmove) kX8_unmove = true := by decide +kernel
def kX8_pin : List (Nat × Instr × Nat) := [(0, .aload_n 0, 1), (1, .iload_n 1, 1), (2, .invokevirtual 146, 3), (5, .iload_n 2, 1), (6, .iconst 0, 1), (7, .sipush 9999, 3), (10, .invokestatic 206, 3), (13, .aload_n 0, 1), (14, .getfield 40, 3), (17, .getfield 149, 3), (20, .iload_n 1, 1), (21, .aaload, 1), (22, .getfield 162, 3), (25, .istore_n 3, 1), (26, .aload_n 0, 1), (27, .getfield 33, 3), (30, .aload_n 0, 1), (31, .getfield 40, 3), (34, .invokevirtual 81, 3), (37, .aload_n 0, 1), (38, .getfield 40, 3), (41, .getfield 149, 3), (44, .iload_n 1, 1), (45, .aaload, 1), (46, .iload_n 2, 1), (47, .putfield 162, 3), (50, .iload_n 3, 1), (51, .ireturn, 1)]
theorem hX8_pin : zdec (yC mX8_pin) kX8_pin = true := by decide +kernel
def kX8_act : List (Nat × Instr × Nat) := [(0, .iload_n 1, 1), (1, .invokestatic 217, 3), (4, .aload_n 0, 1), (5, .getfield 26, 3), (8, .aload_n 0, 1), (9, .getfield 40, 3), (12, .iload_n 1, 1), (13, .invokevirtual 232, 3), (16, .aload_n 0, 1), (17, .getfield 33, 3), (20, .aload_n 0, 1), (21, .getfield 40, 3), (24, .invokevirtual 81, 3), (27, .aload_n 0, 1), (28, .getfield 26, 3), (31, .aload_n 0, 1), (32, .getfield 40, 3), (35, .invokevirtual 283, 3), (38, .ireturn, 1)]
theorem hX8_act : zdec (yC mX8_act) kX8_act = true := by decide +kernel
def kX8_learn : List (Nat × Instr × Nat) := [(0, .iload_n 1, 1), (1, .iconst 2, 1), (2, .bipush 12, 2), (4, .invokestatic 206, 3), (7, .iload_n 2, 1), (8, .iconst 1, 1), (9, .bipush 8, 2), (11, .invokestatic 206, 3), (14, .aload_n 0, 1), (15, .getfield 40, 3), (18, .getfield 91, 3), (21, .istore_n 3, 1), (22, .aload_n 0, 1), (23, .getfield 33, 3), (26, .aload_n 0, 1), (27, .getfield 40, 3), (30, .invokevirtual 81, 3), (33, .aload_n 0, 1), (34, .getfield 40, 3), (37, .iload_n 1, 1), (38, .iload_n 2, 1), (39, .invokevirtual 286, 3), (42, .iload_n 3, 1), (43, .ireturn, 1)]
theorem hX8_learn : zdec (yC mX8_learn) kX8_learn = true := by decide +kernel
def kX8_setTier : List (Nat × Instr × Nat) := [(0, .aload_n 0, 1), (1, .iload_n 1, 1), (2, .invokevirtual 125, 3), (5, .iload_n 2, 1), (6, .iconst 0, 1), (7, .iconst 4, 1), (8, .invokestatic 206, 3), (11, .iload_n 3, 1), (12, .iload_n 2, 1), (13, .invokestatic 290, 3), (16, .iload_n 2, 1), (17, .invokestatic 293, 3), (20, .invokestatic 206, 3), (23, .iload_n 2, 1), (24, .ifCond .ne 18, 3), (27, .aload_n 0, 1), (28, .getfield 40, 3), (31, .iload_n 1, 1), (32, .invokevirtual 137, 3), (35, .iload_n 3, 1), (36, .if_icmp .le 6, 3), (39, .bipush (-15), 2), (41, .ireturn, 1), (42, .aload_n 0, 1), (43, .getfield 40, 3), (46, .getfield 128, 3), (49, .iload_n 1, 1), (50, .aaload, 1), (51, .getfield 132, 3), (54, .iload_n 2, 1), (55, .iaload, 1), (56, .istore 4, 2), (58, .aload_n 0, 1), (59, .getfield 33, 3), (62, .aload_n 0, 1), (63, .getfield 40, 3), (66, .invokevirtual 81, 3), (69, .aload_n 0, 1), (70, .getfield 40, 3), (73, .getfield 128, 3), (76, .iload_n 1, 1), (77, .aaload, 1), (78, .getfield 132, 3), (81, .iload_n 2, 1), (82, .iload_n 3, 1), (83, .iastore, 1), (84, .iload 4, 2), (86, .ireturn, 1)]
theorem hX8_setTier : zdec (yC mX8_setTier) kX8_setTier = true := by decide +kernel
def kX8_undo : List (Nat × Instr × Nat) := [(0, .aload_n 0, 1), (1, .getfield 33, 3), (4, .getfield 296, 3), (7, .ifCond .ne 11, 3), (10, .new 70, 3), (13, .dup, 1), (14, .invokespecial 72, 3), (17, .athrow, 1), (18, .aload_n 0, 1), (19, .getfield 33, 3), (22, .aload_n 0, 1), (23, .getfield 40, 3), (26, .invokevirtual 297, 3), (29, .aload_n 0, 1), (30, .getfield 33, 3), (33, .getfield 296, 3), (36, .ireturn, 1)]
theorem hX8_undo : zdec (yC mX8_undo) kX8_undo = true := by decide +kernel
def kX8_save : List (Nat × Instr × Nat) := [(0, .iload_n 1, 1), (1, .invokestatic 300, 3), (4, .aload_n 0, 1), (5, .getfield 47, 3), (8, .iload_n 1, 1), (9, .aaload, 1), (10, .aload_n 0, 1), (11, .getfield 40, 3), (14, .invokevirtual 85, 3), (17, .aload_n 0, 1), (18, .getfield 51, 3), (21, .iload_n 1, 1), (22, .iconst 1, 1), (23, .bastore, 1), (24, .return_, 1)]
theorem hX8_save : zdec (yC mX8_save) kX8_save = true := by decide +kernel
def kX8_restore : List (Nat × Instr × Nat) := [(0, .iload_n 1, 1), (1, .invokestatic 300, 3), (4, .aload_n 0, 1), (5, .getfield 51, 3), (8, .iload_n 1, 1), (9, .baload, 1), (10, .ifCond .ne 11, 3), (13, .new 70, 3), (16, .dup, 1), (17, .invokespecial 72, 3), (20, .athrow, 1), (21, .aload_n 0, 1), (22, .getfield 33, 3), (25, .aload_n 0, 1), (26, .getfield 40, 3), (29, .invokevirtual 81, 3), (32, .aload_n 0, 1), (33, .getfield 40, 3), (36, .aload_n 0, 1), (37, .getfield 47, 3), (40, .iload_n 1, 1), (41, .aaload, 1), (42, .invokevirtual 85, 3), (45, .aload_n 0, 1), (46, .getfield 40, 3), (49, .getfield 103, 3), (52, .ireturn, 1)]
theorem hX8_restore : zdec (yC mX8_restore) kX8_restore = true := by decide +kernel
def kX8_writeTiers : List (Nat × Instr × Nat) := [(0, .aload_n 0, 1), (1, .getfield 19, 3), (4, .aload_n 0, 1), (5, .getfield 40, 3), (8, .invokevirtual 303, 3), (11, .aload_n 0, 1), (12, .getfield 19, 3), (15, .getfield 306, 3), (18, .ireturn, 1)]
theorem hX8_writeTiers : zdec (yC mX8_writeTiers) kX8_writeTiers = true := by decide +kernel
def kX8_writtenByte : List (Nat × Instr × Nat) := [(0, .iload_n 1, 1), (1, .ifCond .lt 14, 3), (4, .iload_n 1, 1), (5, .aload_n 0, 1), (6, .getfield 19, 3), (9, .getfield 306, 3), (12, .if_icmp .lt 11, 3), (15, .new 184, 3), (18, .dup, 1), (19, .invokespecial 186, 3), (22, .athrow, 1), (23, .aload_n 0, 1), (24, .getfield 19, 3), (27, .getfield 307, 3), (30, .iload_n 1, 1), (31, .iaload, 1), (32, .ireturn, 1)]
theorem hX8_writtenByte : zdec (yC mX8_writtenByte) kX8_writtenByte = true := by decide +kernel
def kX8_requireTier : List (Nat × Instr × Nat) := [(0, .iload_n 1, 1), (1, .ifCond .lt 14, 3), (4, .iload_n 1, 1), (5, .aload_n 0, 1), (6, .getfield 40, 3), (9, .getfield 97, 3), (12, .if_icmp .lt 11, 3), (15, .new 184, 3), (18, .dup, 1), (19, .invokespecial 186, 3), (22, .athrow, 1), (23, .return_, 1)]
theorem hX8_requireTier : zdec (yC mX8_requireTier) kX8_requireTier = true := by decide +kernel
def kX8_requireFile : List (Nat × Instr × Nat) := [(0, .iload_n 1, 1), (1, .ifCond .lt 14, 3), (4, .iload_n 1, 1), (5, .aload_n 0, 1), (6, .getfield 40, 3), (9, .getfield 100, 3), (12, .if_icmp .lt 11, 3), (15, .new 184, 3), (18, .dup, 1), (19, .invokespecial 186, 3), (22, .athrow, 1), (23, .return_, 1)]
theorem hX8_requireFile : zdec (yC mX8_requireFile) kX8_requireFile = true := by decide +kernel
def kX8_requireSlot : List (Nat × Instr × Nat) := [(0, .iload_n 0, 1), (1, .ifCond .lt 8, 3), (4, .iload_n 0, 1), (5, .iconst 2, 1), (6, .if_icmp .lt 11, 3), (9, .new 184, 3), (12, .dup, 1), (13, .invokespecial 186, 3), (16, .athrow, 1), (17, .return_, 1)]
theorem hX8_requireSlot : zdec (yC mX8_requireSlot) kX8_requireSlot = true := by decide +kernel
def kX8_requirePeriods : List (Nat × Instr × Nat) := [(0, .iload_n 0, 1), (1, .iconst 1, 1), (2, .bipush 24, 2), (4, .invokestatic 206, 3), (7, .return_, 1)]
theorem hX8_requirePeriods : zdec (yC mX8_requirePeriods) kX8_requirePeriods = true := by decide +kernel
def kX8_requireWithin : List (Nat × Instr × Nat) := [(0, .iload_n 0, 1), (1, .iload_n 1, 1), (2, .if_icmp .lt 8, 3), (5, .iload_n 0, 1), (6, .iload_n 2, 1), (7, .if_icmp .le 11, 3), (10, .new 122, 3), (13, .dup, 1), (14, .invokespecial 124, 3), (17, .athrow, 1), (18, .return_, 1)]
theorem hX8_requireWithin : zdec (yC mX8_requireWithin) kX8_requireWithin = true := by decide +kernel
def kX8_leastOf : List (Nat × Instr × Nat) := [(0, .iload_n 0, 1), (1, .ifCond .ne 7, 3), (4, .iconst 1, 1), (5, .goto 4, 3), (8, .iconst 0, 1), (9, .ireturn, 1)]
theorem hX8_leastOf : zdec (yC mX8_leastOf) kX8_leastOf = true := by decide +kernel
def kX8_greatestOf : List (Nat × Instr × Nat) := [(0, .iload_n 0, 1), (1, .ifCond .ne 8, 3), (4, .ldc 251, 2), (6, .goto 5, 3), (9, .bipush 99, 2), (11, .ireturn, 1)]
theorem hX8_greatestOf : zdec (yC mX8_greatestOf) kX8_greatestOf = true := by decide +kernel
def kX8_bytesIn : List (Nat × Instr × Nat) := [(0, .iconst 0, 1), (1, .istore_n 1, 1), (2, .bipush 24, 2), (4, .istore_n 2, 1), (5, .iload_n 2, 1), (6, .ifCond .lt 22, 3), (9, .iload_n 0, 1), (10, .iload_n 2, 1), (11, .ishr, 1), (12, .sipush 255, 3), (15, .iand, 1), (16, .ifCond .eq 6, 3), (19, .iinc 1 1, 3), (22, .iinc 2 (-8), 3), (25, .goto (-20), 3), (28, .iload_n 1, 1), (29, .ireturn, 1)]
theorem hX8_bytesIn : zdec (yC mX8_bytesIn) kX8_bytesIn = true := by decide +kernel
end
section
/-! the reference: instructions decoded -/
def kX9_init_0 : List (Nat × Instr × Nat) := [(0, .aload_n 0, 1), (1, .invokespecial 1, 3), (4, .aload_n 0, 1), (5, .sipush 1390, 3), (8, .newarray .long, 2), (10, .putfield 7, 3), (13, .aload_n 0, 1), (14, .sipush 1390, 3), (17, .newarray .long, 2), (19, .putfield 13, 3), (22, .aload_n 0, 1), (23, .sipush 11120, 3), (26, .newarray .long, 2), (28, .putfield 16, 3), (31, .aload_n 0, 1), (32, .sipush 2780, 3), (35, .newarray .long, 2), (37, .putfield 19, 3), (40, .aload_n 0, 1), (41, .iconst 2, 1), (42, .newarray .boolean, 2), (44, .putfield 22, 3), (47, .aload_n 0, 1), (48, .sipush 600, 3), (51, .newarray .int, 2), (53, .putfield 26, 3), (56, .aload_n 0, 1), (57, .iconst (-1), 1), (58, .putfield 30, 3), (61, .aload_n 0, 1), (62, .bipush 20, 2), (64, .newarray .int, 2), (66, .putfield 34, 3), (69, .aload_n 0, 1), (70, .bipush 20, 2), (72, .newarray .int, 2), (74, .putfield 37, 3), (77, .aload_n 0, 1), (78, .bipush 20, 2), (80, .newarray .int, 2), (82, .putfield 40, 3), (85, .aload_n 0, 1), (86, .bipush 20, 2), (88, .newarray .int, 2), (90, .putfield 43, 3), (93, .aload_n 0, 1), (94, .bipush 20, 2), (96, .newarray .boolean, 2), (98, .putfield 46, 3), (101, .aload_n 0, 1), (102, .iconst 4, 1), (103, .newarray .int, 2), (105, .putfield 49, 3), (108, .aload_n 0, 1), (109, .bipush 80, 2), (111, .newarray .long, 2), (113, .putfield 52, 3), (116, .aload_n 0, 1), (117, .sipush 300, 3), (120, .newarray .int, 2)]
theorem hX9_init_0 : zdec (yC mX9_init) kX9_init_0 = true := by decide +kernel
def kX9_init_1 : List (Nat × Instr × Nat) := [(122, .putfield 55, 3), (125, .aload_n 0, 1), (126, .invokevirtual 58, 3), (129, .aload_n 0, 1), (130, .getfield 7, 3), (133, .iconst 0, 1), (134, .ldc2_w 61, 3), (137, .lastore, 1), (138, .aload_n 0, 1), (139, .getfield 7, 3), (142, .iconst 2, 1), (143, .ldc2_w 61, 3), (146, .lastore, 1), (147, .iconst 0, 1), (148, .istore_n 1, 1), (149, .iload_n 1, 1), (150, .iconst 2, 1), (151, .if_icmp .ge 45, 3), (154, .aload_n 0, 1), (155, .bipush 6, 2), (157, .bipush 13, 2), (159, .iload_n 1, 1), (160, .imul, 1), (161, .iadd, 1), (162, .bipush 10, 2), (164, .iconst 1, 1), (165, .iconst 1, 1), (166, .iconst 1, 1), (167, .iconst 1, 1), (168, .invokevirtual 63, 3), (171, .aload_n 0, 1), (172, .getfield 7, 3), (175, .bipush 6, 2), (177, .bipush 13, 2), (179, .iload_n 1, 1), (180, .imul, 1), (181, .iadd, 1), (182, .iconst 5, 1), (183, .iadd, 1), (184, .bipush 97, 2), (186, .iload_n 1, 1), (187, .iadd, 1), (188, .i2l, 1), (189, .lastore, 1), (190, .iinc 1 1, 3), (193, .goto (-44), 3), (196, .return_, 1)]
theorem hX9_init_1 : zdec (yC mX9_init) kX9_init_1 = true := by decide +kernel
def kX9_puts : List (Nat × Instr × Nat) := [(0, .aload_n 0, 1), (1, .getfield 7, 3), (4, .iload_n 1, 1), (5, .iload_n 2, 1), (6, .i2l, 1), (7, .lastore, 1), (8, .aload_n 0, 1), (9, .getfield 7, 3), (12, .iload_n 1, 1), (13, .iconst 1, 1), (14, .iadd, 1), (15, .iload_n 3, 1), (16, .i2l, 1), (17, .lastore, 1), (18, .aload_n 0, 1), (19, .getfield 7, 3), (22, .iload_n 1, 1), (23, .iconst 2, 1), (24, .iadd, 1), (25, .iload 4, 2), (27, .i2l, 1), (28, .lastore, 1), (29, .aload_n 0, 1), (30, .getfield 7, 3), (33, .iload_n 1, 1), (34, .iconst 3, 1), (35, .iadd, 1), (36, .iload 5, 2), (38, .i2l, 1), (39, .lastore, 1), (40, .aload_n 0, 1), (41, .getfield 7, 3), (44, .iload_n 1, 1), (45, .iconst 4, 1), (46, .iadd, 1), (47, .iload 6, 2), (49, .i2l, 1), (50, .lastore, 1), (51, .return_, 1)]
theorem hX9_puts : zdec (yC mX9_puts) kX9_puts = true := by decide +kernel
def kX9_begins : List (Nat × Instr × Nat) := [(0, .iconst 0, 1), (1, .istore_n 1, 1), (2, .iload_n 1, 1), (3, .sipush 1390, 3), (6, .if_icmp .ge 16, 3), (9, .aload_n 0, 1), (10, .getfield 7, 3), (13, .iload_n 1, 1), (14, .lconst 0, 1), (15, .lastore, 1), (16, .iinc 1 1, 3), (19, .goto (-17), 3), (22, .aload_n 0, 1), (23, .getfield 7, 3), (26, .iconst 1, 1), (27, .ldc2_w 67, 3), (30, .lastore, 1), (31, .return_, 1)]
theorem hX9_begins : zdec (yC mX9_begins) kX9_begins = true := by decide +kernel
def kX9_thrown : List (Nat × Instr × Nat) := [(0, .aload_n 0, 1), (1, .getfield 69, 3), (4, .ireturn, 1)]
theorem hX9_thrown : zdec (yC mX9_thrown) kX9_thrown = true := by decide +kernel
def kX9_isIn : List (Nat × Instr × Nat) := [(0, .iload_n 0, 1), (1, .iload_n 1, 1), (2, .if_icmp .lt 12, 3), (5, .iload_n 0, 1), (6, .iload_n 2, 1), (7, .if_icmp .gt 7, 3), (10, .iconst 1, 1), (11, .goto 4, 3), (14, .iconst 0, 1), (15, .ireturn, 1)]
theorem hX9_isIn : zdec (yC mX9_isIn) kX9_isIn = true := by decide +kernel
def kX9_copies : List (Nat × Instr × Nat) := [(0, .iconst 0, 1), (1, .istore 4, 2), (3, .iload 4, 2), (5, .sipush 1390, 3), (8, .if_icmp .ge 21, 3), (11, .aload_n 0, 1), (12, .iload_n 1, 1), (13, .iload 4, 2), (15, .iadd, 1), (16, .aload_n 2, 1), (17, .iload_n 3, 1), (18, .iload 4, 2), (20, .iadd, 1), (21, .laload, 1), (22, .lastore, 1), (23, .iinc 4 1, 3), (26, .goto (-23), 3), (29, .return_, 1)]
theorem hX9_copies : zdec (yC mX9_copies) kX9_copies = true := by decide +kernel
def kX9_keeps : List (Nat × Instr × Nat) := [(0, .aload_n 0, 1), (1, .getfield 72, 3), (4, .bipush 8, 2), (6, .if_icmp .ne 44, 3), (9, .iconst 0, 1), (10, .istore_n 2, 1), (11, .iload_n 2, 1), (12, .sipush 9730, 3), (15, .if_icmp .ge 25, 3), (18, .aload_n 0, 1), (19, .getfield 16, 3), (22, .iload_n 2, 1), (23, .aload_n 0, 1), (24, .getfield 16, 3), (27, .iload_n 2, 1), (28, .sipush 1390, 3), (31, .iadd, 1), (32, .laload, 1), (33, .lastore, 1), (34, .iinc 2 1, 3), (37, .goto (-26), 3), (40, .aload_n 0, 1), (41, .dup, 1), (42, .getfield 72, 3), (45, .iconst 1, 1), (46, .isub, 1), (47, .putfield 72, 3), (50, .aload_n 0, 1), (51, .getfield 16, 3), (54, .sipush 1390, 3), (57, .aload_n 0, 1), (58, .getfield 72, 3), (61, .imul, 1), (62, .aload_n 1, 1), (63, .iconst 0, 1), (64, .invokestatic 75, 3), (67, .aload_n 0, 1), (68, .dup, 1), (69, .getfield 72, 3), (72, .iconst 1, 1), (73, .iadd, 1), (74, .putfield 72, 3), (77, .return_, 1)]
theorem hX9_keeps : zdec (yC mX9_keeps) kX9_keeps = true := by decide +kernel
def kX9_undo : List (Nat × Instr × Nat) := [(0, .aload_n 0, 1), (1, .aload_n 0, 1), (2, .getfield 72, 3), (5, .ifCond .ne 7, 3), (8, .iconst 1, 1), (9, .goto 4, 3), (12, .iconst 0, 1), (13, .putfield 69, 3), (16, .aload_n 0, 1), (17, .getfield 69, 3), (20, .ifCond .le 5, 3), (23, .iconst 0, 1), (24, .ireturn, 1), (25, .aload_n 0, 1), (26, .dup, 1), (27, .getfield 72, 3), (30, .iconst 1, 1), (31, .isub, 1), (32, .putfield 72, 3), (35, .aload_n 0, 1), (36, .getfield 7, 3), (39, .iconst 0, 1), (40, .aload_n 0, 1), (41, .getfield 16, 3), (44, .sipush 1390, 3), (47, .aload_n 0, 1), (48, .getfield 72, 3), (51, .imul, 1), (52, .invokestatic 75, 3), (55, .aload_n 0, 1), (56, .getfield 72, 3), (59, .ireturn, 1)]
theorem hX9_undo : zdec (yC mX9_undo) kX9_undo = true := by decide +kernel
def kX9_save : List (Nat × Instr × Nat) := [(0, .aload_n 0, 1), (1, .iload_n 1, 1), (2, .iconst 0, 1), (3, .iconst 1, 1), (4, .invokestatic 79, 3), (7, .ifCond .eq 7, 3), (10, .iconst 0, 1), (11, .goto 4, 3), (14, .iconst 1, 1), (15, .putfield 69, 3), (18, .aload_n 0, 1), (19, .getfield 69, 3), (22, .ifCond .le 4, 3), (25, .return_, 1), (26, .aload_n 0, 1), (27, .getfield 19, 3), (30, .sipush 1390, 3), (33, .iload_n 1, 1), (34, .imul, 1), (35, .aload_n 0, 1), (36, .getfield 7, 3), (39, .iconst 0, 1), (40, .invokestatic 75, 3), (43, .aload_n 0, 1), (44, .getfield 22, 3), (47, .iload_n 1, 1), (48, .iconst 1, 1), (49, .bastore, 1), (50, .return_, 1)]
theorem hX9_save : zdec (yC mX9_save) kX9_save = true := by decide +kernel
def kX9_restore : List (Nat × Instr × Nat) := [(0, .aload_n 0, 1), (1, .iload_n 1, 1), (2, .iconst 0, 1), (3, .iconst 1, 1), (4, .invokestatic 79, 3), (7, .ifCond .ne 7, 3), (10, .iconst 1, 1), (11, .goto 17, 3), (14, .aload_n 0, 1), (15, .getfield 22, 3), (18, .iload_n 1, 1), (19, .baload, 1), (20, .ifCond .eq 7, 3), (23, .iconst 0, 1), (24, .goto 4, 3), (27, .iconst 2, 1), (28, .putfield 69, 3), (31, .aload_n 0, 1), (32, .getfield 69, 3), (35, .ifCond .le 5, 3), (38, .iconst 0, 1), (39, .ireturn, 1), (40, .aload_n 0, 1), (41, .aload_n 0, 1), (42, .getfield 7, 3), (45, .invokevirtual 83, 3), (48, .aload_n 0, 1), (49, .getfield 7, 3), (52, .iconst 0, 1), (53, .aload_n 0, 1), (54, .getfield 19, 3), (57, .sipush 1390, 3), (60, .iload_n 1, 1), (61, .imul, 1), (62, .invokestatic 75, 3), (65, .aload_n 0, 1), (66, .iconst 4, 1), (67, .invokevirtual 87, 3), (70, .ireturn, 1)]
theorem hX9_restore : zdec (yC mX9_restore) kX9_restore = true := by decide +kernel
def kX9_byteOf : List (Nat × Instr × Nat) := [(0, .iload_n 0, 1), (1, .iconst 4, 1), (2, .if_icmp .ge 7, 3), (5, .iload_n 1, 1), (6, .goto 36, 3), (9, .iload_n 0, 1), (10, .bipush 8, 2), (12, .if_icmp .ge 7, 3), (15, .iload_n 2, 1), (16, .goto 26, 3), (19, .iload_n 0, 1), (20, .bipush 12, 2), (22, .if_icmp .ge 7, 3), (25, .iload_n 3, 1), (26, .goto 16, 3), (29, .iload_n 0, 1), (30, .bipush 16, 2), (32, .if_icmp .ge 8, 3), (35, .iload 4, 2), (37, .goto 5, 3), (40, .iload 5, 2), (42, .istore 6, 2), (44, .iload 6, 2), (46, .bipush 24, 2), (48, .bipush 8, 2), (50, .iload_n 0, 1), (51, .iconst 4, 1), (52, .irem, 1), (53, .imul, 1), (54, .isub, 1), (55, .ishr, 1), (56, .sipush 255, 3), (59, .iand, 1), (60, .ireturn, 1)]
theorem hX9_byteOf : zdec (yC mX9_byteOf) kX9_byteOf = true := by decide +kernel
def kX9_append_0 : List (Nat × Instr × Nat) := [(0, .iconst 0, 1), (1, .istore 6, 2), (3, .iconst 0, 1), (4, .istore 7, 2), (6, .iload 7, 2), (8, .bipush 20, 2), (10, .if_icmp .ge 34, 3), (13, .iload 6, 2), (15, .iload 7, 2), (17, .iload_n 1, 1), (18, .iload_n 2, 1), (19, .iload_n 3, 1), (20, .iload 4, 2), (22, .iload 5, 2), (24, .invokestatic 91, 3), (27, .ifCond .ne 7, 3), (30, .iconst 0, 1), (31, .goto 4, 3), (34, .iconst 1, 1), (35, .iadd, 1), (36, .istore 6, 2), (38, .iinc 7 1, 3), (41, .goto (-35), 3), (44, .aload_n 0, 1), (45, .aload_n 0, 1), (46, .getfield 95, 3), (49, .iload 6, 2), (51, .iadd, 1), (52, .sipush 600, 3), (55, .if_icmp .le 7, 3), (58, .iconst 1, 1), (59, .goto 4, 3), (62, .iconst 0, 1), (63, .putfield 69, 3), (66, .aload_n 0, 1), (67, .getfield 69, 3), (70, .ifCond .le 5, 3), (73, .iconst 0, 1), (74, .ireturn, 1), (75, .iconst 0, 1), (76, .istore 7, 2), (78, .iload 7, 2), (80, .bipush 20, 2), (82, .if_icmp .ge 52, 3), (85, .iload 7, 2), (87, .iload_n 1, 1), (88, .iload_n 2, 1), (89, .iload_n 3, 1), (90, .iload 4, 2), (92, .iload 5, 2), (94, .invokestatic 91, 3), (97, .istore 8, 2), (99, .iload 8, 2), (101, .ifCond .ne 6, 3), (104, .goto 24, 3), (107, .aload_n 0, 1), (108, .getfield 26, 3), (111, .aload_n 0, 1), (112, .getfield 95, 3), (115, .iload 8, 2)]
theorem hX9_append_0 : zdec (yC mX9_append) kX9_append_0 = true := by decide +kernel
def kX9_append_1 : List (Nat × Instr × Nat) := [(117, .iastore, 1), (118, .aload_n 0, 1), (119, .dup, 1), (120, .getfield 95, 3), (123, .iconst 1, 1), (124, .iadd, 1), (125, .putfield 95, 3), (128, .iinc 7 1, 3), (131, .goto (-53), 3), (134, .aload_n 0, 1), (135, .getfield 95, 3), (138, .ireturn, 1)]
theorem hX9_append_1 : zdec (yC mX9_append) kX9_append_1 = true := by decide +kernel
def kX9_see : List (Nat × Instr × Nat) := [(0, .iload_n 1, 1), (1, .aload_n 0, 1), (2, .getfield 95, 3), (5, .if_icmp .ge 12, 3), (8, .aload_n 0, 1), (9, .getfield 26, 3), (12, .iload_n 1, 1), (13, .iaload, 1), (14, .goto 4, 3), (17, .iconst (-1), 1), (18, .ireturn, 1)]
theorem hX9_see : zdec (yC mX9_see) kX9_see = true := by decide +kernel
def kX9_isLetter : List (Nat × Instr × Nat) := [(0, .aload_n 0, 1), (1, .iload_n 1, 1), (2, .invokevirtual 98, 3), (5, .bipush 97, 2), (7, .bipush 122, 2), (9, .invokestatic 79, 3), (12, .ireturn, 1)]
theorem hX9_isLetter : zdec (yC mX9_isLetter) kX9_isLetter = true := by decide +kernel
def kX9_isDigit : List (Nat × Instr × Nat) := [(0, .aload_n 0, 1), (1, .iload_n 1, 1), (2, .invokevirtual 98, 3), (5, .bipush 48, 2), (7, .bipush 57, 2), (9, .invokestatic 79, 3), (12, .ireturn, 1)]
theorem hX9_isDigit : zdec (yC mX9_isDigit) kX9_isDigit = true := by decide +kernel
def kX9_next_0 : List (Nat × Instr × Nat) := [(0, .aload_n 0, 1), (1, .aload_n 0, 1), (2, .getfield 101, 3), (5, .putfield 104, 3), (8, .aload_n 0, 1), (9, .aload_n 0, 1), (10, .getfield 104, 3), (13, .invokevirtual 98, 3), (16, .bipush 32, 2), (18, .if_icmp .ne 16, 3), (21, .aload_n 0, 1), (22, .dup, 1), (23, .getfield 104, 3), (26, .iconst 1, 1), (27, .iadd, 1), (28, .putfield 104, 3), (31, .goto (-23), 3), (34, .aload_n 0, 1), (35, .aload_n 0, 1), (36, .getfield 104, 3), (39, .putfield 101, 3), (42, .aload_n 0, 1), (43, .iconst 0, 1), (44, .putfield 107, 3), (47, .aload_n 0, 1), (48, .getfield 104, 3), (51, .aload_n 0, 1), (52, .getfield 95, 3), (55, .if_icmp .lt 11, 3), (58, .aload_n 0, 1), (59, .iconst 3, 1), (60, .putfield 110, 3), (63, .goto 132, 3), (66, .aload_n 0, 1), (67, .aload_n 0, 1), (68, .getfield 104, 3), (71, .invokevirtual 113, 3), (74, .ifCond .eq 35, 3), (77, .aload_n 0, 1), (78, .aload_n 0, 1), (79, .getfield 101, 3), (82, .invokevirtual 113, 3), (85, .ifCond .eq 16, 3), (88, .aload_n 0, 1), (89, .dup, 1), (90, .getfield 101, 3), (93, .iconst 1, 1), (94, .iadd, 1), (95, .putfield 101, 3), (98, .goto (-21), 3), (101, .aload_n 0, 1), (102, .iconst 0, 1), (103, .putfield 110, 3), (106, .goto 89, 3), (109, .aload_n 0, 1), (110, .aload_n 0, 1), (111, .getfield 104, 3), (114, .invokevirtual 117, 3), (117, .ifCond .eq 63, 3), (120, .aload_n 0, 1)]
theorem hX9_next_0 : zdec (yC mX9_next) kX9_next_0 = true := by decide +kernel
def kX9_next_1 : List (Nat × Instr × Nat) := [(121, .aload_n 0, 1), (122, .getfield 101, 3), (125, .invokevirtual 117, 3), (128, .ifCond .eq 44, 3), (131, .aload_n 0, 1), (132, .ldc 120, 2), (134, .bipush 10, 2), (136, .aload_n 0, 1), (137, .getfield 107, 3), (140, .imul, 1), (141, .aload_n 0, 1), (142, .aload_n 0, 1), (143, .getfield 101, 3), (146, .invokevirtual 98, 3), (149, .iadd, 1), (150, .bipush 48, 2), (152, .isub, 1), (153, .invokestatic 121, 3), (156, .putfield 107, 3), (159, .aload_n 0, 1), (160, .dup, 1), (161, .getfield 101, 3), (164, .iconst 1, 1), (165, .iadd, 1), (166, .putfield 101, 3), (169, .goto (-49), 3), (172, .aload_n 0, 1), (173, .iconst 1, 1), (174, .putfield 110, 3), (177, .goto 18, 3), (180, .aload_n 0, 1), (181, .dup, 1), (182, .getfield 101, 3), (185, .iconst 1, 1), (186, .iadd, 1), (187, .putfield 101, 3), (190, .aload_n 0, 1), (191, .iconst 2, 1), (192, .putfield 110, 3), (195, .return_, 1)]
theorem hX9_next_1 : zdec (yC mX9_next) kX9_next_1 = true := by decide +kernel
def kX9_isWord : List (Nat × Instr × Nat) := [(0, .aload_n 0, 1), (1, .getfield 127, 3), (4, .ifCond .ne 26, 3), (7, .aload_n 0, 1), (8, .getfield 110, 3), (11, .ifCond .ne 19, 3), (14, .aload_n 0, 1), (15, .getfield 101, 3), (18, .aload_n 0, 1), (19, .getfield 104, 3), (22, .isub, 1), (23, .aload_n 1, 1), (24, .invokevirtual 130, 3), (27, .if_icmp .eq 5, 3), (30, .iconst 0, 1), (31, .ireturn, 1), (32, .iconst 0, 1), (33, .istore_n 2, 1), (34, .iload_n 2, 1), (35, .aload_n 1, 1), (36, .invokevirtual 130, 3), (39, .if_icmp .ge 30, 3), (42, .aload_n 0, 1), (43, .getfield 26, 3), (46, .aload_n 0, 1), (47, .getfield 104, 3), (50, .iload_n 2, 1), (51, .iadd, 1), (52, .iaload, 1), (53, .aload_n 1, 1), (54, .iload_n 2, 1), (55, .invokevirtual 136, 3), (58, .if_icmp .eq 5, 3), (61, .iconst 0, 1), (62, .ireturn, 1), (63, .iinc 2 1, 3), (66, .goto (-32), 3), (69, .iconst 1, 1), (70, .ireturn, 1)]
theorem hX9_isWord : zdec (yC mX9_isWord) kX9_isWord = true := by decide +kernel
def kX9_fails : List (Nat × Instr × Nat) := [(0, .aload_n 0, 1), (1, .getfield 127, 3), (4, .ifCond .eq 4, 3), (7, .return_, 1), (8, .aload_n 0, 1), (9, .iload_n 1, 1), (10, .putfield 127, 3), (13, .aload_n 0, 1), (14, .aload_n 0, 1), (15, .getfield 104, 3), (18, .putfield 140, 3), (21, .return_, 1)]
theorem hX9_fails : zdec (yC mX9_fails) kX9_fails = true := by decide +kernel
def kX9_must : List (Nat × Instr × Nat) := [(0, .iload_n 1, 1), (1, .ifCond .ne 9, 3), (4, .aload_n 0, 1), (5, .bipush (-2), 2), (7, .invokevirtual 143, 3), (10, .aload_n 0, 1), (11, .getfield 127, 3), (14, .ifCond .ne 7, 3), (17, .aload_n 0, 1), (18, .invokevirtual 147, 3), (21, .return_, 1)]
theorem hX9_must : zdec (yC mX9_must) kX9_must = true := by decide +kernel
def kX9_mustEnd : List (Nat × Instr × Nat) := [(0, .aload_n 0, 1), (1, .aload_n 0, 1), (2, .getfield 110, 3), (5, .iconst 2, 1), (6, .if_icmp .ne 20, 3), (9, .aload_n 0, 1), (10, .aload_n 0, 1), (11, .getfield 104, 3), (14, .invokevirtual 98, 3), (17, .bipush 59, 2), (19, .if_icmp .ne 7, 3), (22, .iconst 1, 1), (23, .goto 4, 3), (26, .iconst 0, 1), (27, .invokevirtual 150, 3), (30, .return_, 1)]
theorem hX9_mustEnd : zdec (yC mX9_mustEnd) kX9_mustEnd = true := by decide +kernel
def kX9_takes : List (Nat × Instr × Nat) := [(0, .aload_n 0, 1), (1, .getfield 127, 3), (4, .ifCond .ne 17, 3), (7, .aload_n 0, 1), (8, .getfield 110, 3), (11, .iconst 1, 1), (12, .if_icmp .eq 9, 3), (15, .aload_n 0, 1), (16, .bipush (-2), 2), (18, .invokevirtual 143, 3), (21, .aload_n 0, 1), (22, .getfield 127, 3), (25, .ifCond .ne 21, 3), (28, .aload_n 0, 1), (29, .getfield 107, 3), (32, .iload_n 1, 1), (33, .iload_n 2, 1), (34, .invokestatic 79, 3), (37, .ifCond .ne 9, 3), (40, .aload_n 0, 1), (41, .bipush (-3), 2), (43, .invokevirtual 143, 3), (46, .aload_n 0, 1), (47, .getfield 127, 3), (50, .ifCond .ne 10, 3), (53, .aload_n 0, 1), (54, .getfield 107, 3), (57, .goto 4, 3), (60, .iconst 0, 1), (61, .istore_n 3, 1), (62, .aload_n 0, 1), (63, .getfield 127, 3), (66, .ifCond .ne 7, 3), (69, .aload_n 0, 1), (70, .invokevirtual 147, 3), (73, .iload_n 3, 1), (74, .ireturn, 1)]
theorem hX9_takes : zdec (yC mX9_takes) kX9_takes = true := by decide +kernel
def kX9_mustName : List (Nat × Instr × Nat) := [(0, .aload_n 0, 1), (1, .getfield 127, 3), (4, .ifCond .ne 30, 3), (7, .aload_n 0, 1), (8, .getfield 110, 3), (11, .ifCond .ne 17, 3), (14, .aload_n 0, 1), (15, .getfield 101, 3), (18, .aload_n 0, 1), (19, .getfield 104, 3), (22, .isub, 1), (23, .bipush 8, 2), (25, .if_icmp .le 9, 3), (28, .aload_n 0, 1), (29, .bipush (-2), 2), (31, .invokevirtual 143, 3), (34, .return_, 1)]
theorem hX9_mustName : zdec (yC mX9_mustName) kX9_mustName = true := by decide +kernel
def kX9_named : List (Nat × Instr × Nat) := [(0, .iconst 0, 1), (1, .istore 4, 2), (3, .iload 4, 2), (5, .iload_n 2, 1), (6, .if_icmp .ge 104, 3), (9, .aload_n 0, 1), (10, .getfield 127, 3), (13, .ifCond .ne 97, 3), (16, .iconst 1, 1), (17, .istore 5, 2), (19, .iconst 0, 1), (20, .istore 6, 2), (22, .iload 6, 2), (24, .bipush 8, 2), (26, .if_icmp .ge 70, 3), (29, .iload 5, 2), (31, .ifCond .eq 56, 3), (34, .aload_n 0, 1), (35, .getfield 7, 3), (38, .iload_n 1, 1), (39, .iload_n 3, 1), (40, .iload 4, 2), (42, .imul, 1), (43, .iadd, 1), (44, .iload 6, 2), (46, .iadd, 1), (47, .laload, 1), (48, .aload_n 0, 1), (49, .getfield 104, 3), (52, .iload 6, 2), (54, .iadd, 1), (55, .aload_n 0, 1), (56, .getfield 101, 3), (59, .if_icmp .ge 18, 3), (62, .aload_n 0, 1), (63, .getfield 26, 3), (66, .aload_n 0, 1), (67, .getfield 104, 3), (70, .iload 6, 2), (72, .iadd, 1), (73, .iaload, 1), (74, .goto 4, 3), (77, .iconst 0, 1), (78, .i2l, 1), (79, .lcmp, 1), (80, .ifCond .ne 7, 3), (83, .iconst 1, 1), (84, .goto 4, 3), (87, .iconst 0, 1), (88, .istore 5, 2), (90, .iinc 6 1, 3), (93, .goto (-71), 3), (96, .iload 5, 2), (98, .ifCond .eq 6, 3), (101, .iload 4, 2), (103, .ireturn, 1), (104, .iinc 4 1, 3), (107, .goto (-104), 3), (110, .iconst (-1), 1), (111, .ireturn, 1)]
theorem hX9_named : zdec (yC mX9_named) kX9_named = true := by decide +kernel
def kX9_putsName : List (Nat × Instr × Nat) := [(0, .iconst 0, 1), (1, .istore_n 2, 1), (2, .iload_n 2, 1), (3, .bipush 8, 2), (5, .if_icmp .ge 46, 3), (8, .aload_n 0, 1), (9, .getfield 7, 3), (12, .iload_n 1, 1), (13, .iload_n 2, 1), (14, .iadd, 1), (15, .aload_n 0, 1), (16, .getfield 104, 3), (19, .iload_n 2, 1), (20, .iadd, 1), (21, .aload_n 0, 1), (22, .getfield 101, 3), (25, .if_icmp .ge 18, 3), (28, .aload_n 0, 1), (29, .getfield 26, 3), (32, .aload_n 0, 1), (33, .getfield 104, 3), (36, .iload_n 2, 1), (37, .iadd, 1), (38, .iaload, 1), (39, .i2l, 1), (40, .goto 4, 3), (43, .lconst 0, 1), (44, .lastore, 1), (45, .iinc 2 1, 3), (48, .goto (-46), 3), (51, .return_, 1)]
theorem hX9_putsName : zdec (yC mX9_putsName) kX9_putsName = true := by decide +kernel
def kX9_readsTier_0 : List (Nat × Instr × Nat) := [(0, .aload_n 0, 1), (1, .invokevirtual 154, 3), (4, .istore_n 1, 1), (5, .iload_n 1, 1), (6, .iconst 4, 1), (7, .if_icmp .ne 9, 3), (10, .aload_n 0, 1), (11, .bipush (-7), 2), (13, .invokevirtual 143, 3), (16, .aload_n 0, 1), (17, .aload_n 0, 1), (18, .ldc 157, 2), (20, .invokevirtual 159, 3), (23, .invokevirtual 150, 3), (26, .aload_n 0, 1), (27, .invokevirtual 163, 3), (30, .aload_n 0, 1), (31, .bipush 11, 2), (33, .iload_n 1, 1), (34, .bipush 13, 2), (36, .invokevirtual 166, 3), (39, .iconst (-1), 1), (40, .if_icmp .eq 9, 3), (43, .aload_n 0, 1), (44, .bipush (-5), 2), (46, .invokevirtual 143, 3), (49, .aload_n 0, 1), (50, .getfield 127, 3), (53, .ifCond .eq 4, 3), (56, .return_, 1), (57, .aload_n 0, 1), (58, .bipush 6, 2), (60, .bipush 13, 2), (62, .iload_n 1, 1), (63, .imul, 1), (64, .iadd, 1), (65, .iconst 5, 1), (66, .iadd, 1), (67, .invokevirtual 170, 3), (70, .aload_n 0, 1), (71, .invokevirtual 147, 3), (74, .aload_n 0, 1), (75, .getfield 7, 3), (78, .bipush 6, 2), (80, .bipush 13, 2), (82, .iload_n 1, 1), (83, .imul, 1), (84, .iadd, 1), (85, .aload_n 0, 1), (86, .iconst 1, 1), (87, .ldc 173, 2), (89, .invokevirtual 174, 3), (92, .i2l, 1), (93, .lastore, 1), (94, .iconst 1, 1), (95, .istore_n 2, 1), (96, .iload_n 2, 1), (97, .iconst 4, 1), (98, .if_icmp .gt 31, 3), (101, .aload_n 0, 1)]
theorem hX9_readsTier_0 : zdec (yC mX9_readsTier) kX9_readsTier_0 = true := by decide +kernel
def kX9_readsTier_1 : List (Nat × Instr × Nat) := [(102, .getfield 7, 3), (105, .bipush 6, 2), (107, .bipush 13, 2), (109, .iload_n 1, 1), (110, .imul, 1), (111, .iadd, 1), (112, .iload_n 2, 1), (113, .iadd, 1), (114, .aload_n 0, 1), (115, .iconst 0, 1), (116, .bipush 99, 2), (118, .invokevirtual 174, 3), (121, .i2l, 1), (122, .lastore, 1), (123, .iinc 2 1, 3), (126, .goto (-30), 3), (129, .aload_n 0, 1), (130, .invokevirtual 177, 3), (133, .aload_n 0, 1), (134, .getfield 7, 3), (137, .iconst 2, 1), (138, .dup2, 1), (139, .laload, 1), (140, .lconst 1, 1), (141, .ladd, 1), (142, .lastore, 1), (143, .return_, 1)]
theorem hX9_readsTier_1 : zdec (yC mX9_readsTier) kX9_readsTier_1 = true := by decide +kernel
def kX9_readsFile_0 : List (Nat × Instr × Nat) := [(0, .aload_n 0, 1), (1, .invokevirtual 180, 3), (4, .istore_n 1, 1), (5, .iload_n 1, 1), (6, .bipush 20, 2), (8, .if_icmp .ne 9, 3), (11, .aload_n 0, 1), (12, .bipush (-7), 2), (14, .invokevirtual 143, 3), (17, .aload_n 0, 1), (18, .iconst 1, 1), (19, .invokevirtual 150, 3), (22, .aload_n 0, 1), (23, .invokevirtual 163, 3), (26, .aload_n 0, 1), (27, .bipush 64, 2), (29, .iload_n 1, 1), (30, .bipush 51, 2), (32, .invokevirtual 166, 3), (35, .iconst (-1), 1), (36, .if_icmp .eq 9, 3), (39, .aload_n 0, 1), (40, .bipush (-5), 2), (42, .invokevirtual 143, 3), (45, .aload_n 0, 1), (46, .getfield 127, 3), (49, .ifCond .eq 4, 3), (52, .return_, 1), (53, .aload_n 0, 1), (54, .iload_n 1, 1), (55, .invokevirtual 183, 3), (58, .aload_n 0, 1), (59, .bipush 58, 2), (61, .bipush 51, 2), (63, .iload_n 1, 1), (64, .imul, 1), (65, .iadd, 1), (66, .bipush 6, 2), (68, .iadd, 1), (69, .invokevirtual 170, 3), (72, .aload_n 0, 1), (73, .invokevirtual 147, 3), (76, .aload_n 0, 1), (77, .iconst 1, 1), (78, .sipush 999, 3), (81, .invokevirtual 174, 3), (84, .istore_n 2, 1), (85, .aload_n 0, 1), (86, .aload_n 0, 1), (87, .ldc 186, 2), (89, .invokevirtual 159, 3), (92, .invokevirtual 150, 3), (95, .aload_n 0, 1), (96, .invokevirtual 163, 3), (99, .aload_n 0, 1), (100, .bipush 11, 2), (102, .aload_n 0, 1), (103, .invokevirtual 154, 3), (106, .bipush 13, 2), (108, .invokevirtual 166, 3)]
theorem hX9_readsFile_0 : zdec (yC mX9_readsFile) kX9_readsFile_0 = true := by decide +kernel
def kX9_readsFile_1 : List (Nat × Instr × Nat) := [(111, .istore_n 3, 1), (112, .iload_n 3, 1), (113, .iconst (-1), 1), (114, .if_icmp .ne 9, 3), (117, .aload_n 0, 1), (118, .bipush (-4), 2), (120, .invokevirtual 143, 3), (123, .aload_n 0, 1), (124, .getfield 127, 3), (127, .ifCond .ne 18, 3), (130, .aload_n 0, 1), (131, .iload_n 3, 1), (132, .invokevirtual 188, 3), (135, .iload_n 2, 1), (136, .if_icmp .ge 9, 3), (139, .aload_n 0, 1), (140, .bipush (-6), 2), (142, .invokevirtual 143, 3), (145, .aload_n 0, 1), (146, .iconst 1, 1), (147, .invokevirtual 150, 3), (150, .iconst 0, 1), (151, .istore 4, 2), (153, .aload_n 0, 1), (154, .ldc 191, 2), (156, .invokevirtual 159, 3), (159, .ifCond .eq 17, 3), (162, .aload_n 0, 1), (163, .invokevirtual 147, 3), (166, .aload_n 0, 1), (167, .iconst 0, 1), (168, .sipush 9999, 3), (171, .invokevirtual 174, 3), (174, .istore 4, 2), (176, .aload_n 0, 1), (177, .invokevirtual 177, 3), (180, .aload_n 0, 1), (181, .iload_n 1, 1), (182, .iconst 0, 1), (183, .iload_n 2, 1), (184, .i2l, 1), (185, .invokevirtual 193, 3), (188, .aload_n 0, 1), (189, .iload_n 1, 1), (190, .iconst 1, 1), (191, .iload_n 3, 1), (192, .i2l, 1), (193, .invokevirtual 193, 3), (196, .aload_n 0, 1), (197, .iload_n 1, 1), (198, .iconst 3, 1), (199, .iload 4, 2), (201, .i2l, 1), (202, .invokevirtual 193, 3), (205, .aload_n 0, 1), (206, .getfield 7, 3), (209, .iconst 3, 1), (210, .dup2, 1), (211, .laload, 1), (212, .lconst 1, 1)]
theorem hX9_readsFile_1 : zdec (yC mX9_readsFile) kX9_readsFile_1 = true := by decide +kernel
def kX9_readsFile_2 : List (Nat × Instr × Nat) := [(213, .ladd, 1), (214, .lastore, 1), (215, .return_, 1)]
theorem hX9_readsFile_2 : zdec (yC mX9_readsFile) kX9_readsFile_2 = true := by decide +kernel
def kX9_begins0 : List (Nat × Instr × Nat) := [(0, .iconst 0, 1), (1, .istore_n 2, 1), (2, .iload_n 2, 1), (3, .bipush 51, 2), (5, .if_icmp .ge 16, 3), (8, .aload_n 0, 1), (9, .iload_n 1, 1), (10, .iload_n 2, 1), (11, .lconst 0, 1), (12, .invokevirtual 193, 3), (15, .iinc 2 1, 3), (18, .goto (-16), 3), (21, .iconst 0, 1), (22, .istore_n 2, 1), (23, .iload_n 2, 1), (24, .bipush 12, 2), (26, .if_icmp .ge 21, 3), (29, .aload_n 0, 1), (30, .iload_n 1, 1), (31, .bipush 14, 2), (33, .iload_n 2, 1), (34, .iadd, 1), (35, .ldc2_w 197, 3), (38, .invokevirtual 193, 3), (41, .iinc 2 1, 3), (44, .goto (-21), 3), (47, .return_, 1)]
theorem hX9_begins0 : zdec (yC mX9_begins0) kX9_begins0 = true := by decide +kernel
def kX9_load_0 : List (Nat × Instr × Nat) := [(0, .aload_n 0, 1), (1, .iconst 0, 1), (2, .putfield 69, 3), (5, .aload_n 0, 1), (6, .iconst 0, 1), (7, .putfield 101, 3), (10, .aload_n 0, 1), (11, .iconst 0, 1), (12, .putfield 127, 3), (15, .aload_n 0, 1), (16, .getfield 13, 3), (19, .iconst 0, 1), (20, .aload_n 0, 1), (21, .getfield 7, 3), (24, .iconst 0, 1), (25, .invokestatic 75, 3), (28, .aload_n 0, 1), (29, .invokevirtual 58, 3), (32, .aload_n 0, 1), (33, .invokevirtual 147, 3), (36, .aload_n 0, 1), (37, .aload_n 0, 1), (38, .ldc 199, 2), (40, .invokevirtual 159, 3), (43, .invokevirtual 150, 3), (46, .aload_n 0, 1), (47, .getfield 7, 3), (50, .iconst 0, 1), (51, .aload_n 0, 1), (52, .iconst 2, 1), (53, .bipush 12, 2), (55, .invokevirtual 174, 3), (58, .i2l, 1), (59, .lastore, 1), (60, .aload_n 0, 1), (61, .ldc 201, 2), (63, .invokevirtual 159, 3), (66, .ifCond .eq 21, 3), (69, .aload_n 0, 1), (70, .invokevirtual 147, 3), (73, .aload_n 0, 1), (74, .getfield 7, 3), (77, .iconst 1, 1), (78, .aload_n 0, 1), (79, .iconst 1, 1), (80, .bipush 8, 2), (82, .invokevirtual 174, 3), (85, .i2l, 1), (86, .lastore, 1), (87, .aload_n 0, 1), (88, .invokevirtual 177, 3), (91, .aload_n 0, 1), (92, .invokevirtual 203, 3), (95, .aload_n 0, 1), (96, .invokevirtual 203, 3), (99, .aload_n 0, 1), (100, .ldc 157, 2), (102, .invokevirtual 159, 3), (105, .ifCond .eq 10, 3), (108, .aload_n 0, 1)]
theorem hX9_load_0 : zdec (yC mX9_load) kX9_load_0 = true := by decide +kernel
def kX9_load_1 : List (Nat × Instr × Nat) := [(109, .invokevirtual 203, 3), (112, .goto (-13), 3), (115, .aload_n 0, 1), (116, .ldc 206, 2), (118, .invokevirtual 159, 3), (121, .ifCond .eq 10, 3), (124, .aload_n 0, 1), (125, .invokevirtual 208, 3), (128, .goto (-13), 3), (131, .aload_n 0, 1), (132, .getfield 127, 3), (135, .ifCond .ne 17, 3), (138, .aload_n 0, 1), (139, .getfield 110, 3), (142, .iconst 3, 1), (143, .if_icmp .eq 9, 3), (146, .aload_n 0, 1), (147, .bipush (-2), 2), (149, .invokevirtual 143, 3), (152, .aload_n 0, 1), (153, .aload_n 0, 1), (154, .getfield 127, 3), (157, .ifCond .ne 7, 3), (160, .iconst (-1), 1), (161, .goto 7, 3), (164, .aload_n 0, 1), (165, .getfield 140, 3), (168, .putfield 30, 3), (171, .aload_n 0, 1), (172, .iconst 0, 1), (173, .putfield 95, 3), (176, .aload_n 0, 1), (177, .getfield 127, 3), (180, .ifCond .eq 16, 3), (183, .aload_n 0, 1), (184, .getfield 7, 3), (187, .iconst 0, 1), (188, .aload_n 0, 1), (189, .getfield 13, 3), (192, .iconst 0, 1), (193, .invokestatic 75, 3), (196, .aload_n 0, 1), (197, .getfield 127, 3), (200, .ifCond .eq 8, 3), (203, .aload_n 0, 1), (204, .getfield 127, 3), (207, .ireturn, 1), (208, .aload_n 0, 1), (209, .aload_n 0, 1), (210, .getfield 13, 3), (213, .invokevirtual 83, 3), (216, .aload_n 0, 1), (217, .invokevirtual 180, 3), (220, .ireturn, 1)]
theorem hX9_load_1 : zdec (yC mX9_load) kX9_load_1 = true := by decide +kernel
def kX9_errorPosition : List (Nat × Instr × Nat) := [(0, .aload_n 0, 1), (1, .iconst 0, 1), (2, .putfield 69, 3), (5, .aload_n 0, 1), (6, .getfield 30, 3), (9, .ireturn, 1)]
theorem hX9_errorPosition : zdec (yC mX9_errorPosition) kX9_errorPosition = true := by decide +kernel
def kX9_its : List (Nat × Instr × Nat) := [(0, .aload_n 0, 1), (1, .getfield 7, 3), (4, .iload_n 1, 1), (5, .laload, 1), (6, .l2i, 1), (7, .ireturn, 1)]
theorem hX9_its : zdec (yC mX9_its) kX9_its = true := by decide +kernel
def kX9_tiers : List (Nat × Instr × Nat) := [(0, .aload_n 0, 1), (1, .iconst 2, 1), (2, .invokevirtual 87, 3), (5, .ireturn, 1)]
theorem hX9_tiers : zdec (yC mX9_tiers) kX9_tiers = true := by decide +kernel
def kX9_files : List (Nat × Instr × Nat) := [(0, .aload_n 0, 1), (1, .iconst 3, 1), (2, .invokevirtual 87, 3), (5, .ireturn, 1)]
theorem hX9_files : zdec (yC mX9_files) kX9_files = true := by decide +kernel
def kX9_ofTier : List (Nat × Instr × Nat) := [(0, .aload_n 0, 1), (1, .bipush 6, 2), (3, .bipush 13, 2), (5, .iload_n 1, 1), (6, .imul, 1), (7, .iadd, 1), (8, .iload_n 2, 1), (9, .iadd, 1), (10, .invokevirtual 87, 3), (13, .ireturn, 1)]
theorem hX9_ofTier : zdec (yC mX9_ofTier) kX9_ofTier = true := by decide +kernel
def kX9_of : List (Nat × Instr × Nat) := [(0, .aload_n 0, 1), (1, .bipush 58, 2), (3, .bipush 51, 2), (5, .iload_n 1, 1), (6, .imul, 1), (7, .iadd, 1), (8, .iload_n 2, 1), (9, .iadd, 1), (10, .invokevirtual 87, 3), (13, .ireturn, 1)]
theorem hX9_of : zdec (yC mX9_of) kX9_of = true := by decide +kernel
def kX9_sets : List (Nat × Instr × Nat) := [(0, .aload_n 0, 1), (1, .getfield 7, 3), (4, .bipush 58, 2), (6, .bipush 51, 2), (8, .iload_n 1, 1), (9, .imul, 1), (10, .iadd, 1), (11, .iload_n 2, 1), (12, .iadd, 1), (13, .lload_n 3, 1), (14, .lastore, 1), (15, .return_, 1)]
theorem hX9_sets : zdec (yC mX9_sets) kX9_sets = true := by decide +kernel
def kX9_isTier : List (Nat × Instr × Nat) := [(0, .iload_n 1, 1), (1, .iconst 0, 1), (2, .aload_n 0, 1), (3, .invokevirtual 154, 3), (6, .iconst 1, 1), (7, .isub, 1), (8, .invokestatic 79, 3), (11, .ireturn, 1)]
theorem hX9_isTier : zdec (yC mX9_isTier) kX9_isTier = true := by decide +kernel
def kX9_isFile : List (Nat × Instr × Nat) := [(0, .iload_n 1, 1), (1, .iconst 0, 1), (2, .aload_n 0, 1), (3, .invokevirtual 180, 3), (6, .iconst 1, 1), (7, .isub, 1), (8, .invokestatic 79, 3), (11, .ireturn, 1)]
theorem hX9_isFile : zdec (yC mX9_isFile) kX9_isFile = true := by decide +kernel
def kX9_fullOf : List (Nat × Instr × Nat) := [(0, .iconst 0, 1), (1, .istore_n 2, 1), (2, .iconst 0, 1), (3, .istore_n 3, 1), (4, .iload_n 3, 1), (5, .aload_n 0, 1), (6, .invokevirtual 180, 3), (9, .if_icmp .ge 32, 3), (12, .iload_n 2, 1), (13, .aload_n 0, 1), (14, .iload_n 3, 1), (15, .iconst 1, 1), (16, .invokevirtual 211, 3), (19, .iload_n 1, 1), (20, .if_icmp .ne 12, 3), (23, .aload_n 0, 1), (24, .iload_n 3, 1), (25, .iconst 0, 1), (26, .invokevirtual 211, 3), (29, .goto 4, 3), (32, .iconst 0, 1), (33, .iadd, 1), (34, .istore_n 2, 1), (35, .iinc 3 1, 3), (38, .goto (-34), 3), (41, .iload_n 2, 1), (42, .ireturn, 1)]
theorem hX9_fullOf : zdec (yC mX9_fullOf) kX9_fullOf = true := by decide +kernel
def kX9_freeOn : List (Nat × Instr × Nat) := [(0, .aload_n 0, 1), (1, .iload_n 1, 1), (2, .iconst 0, 1), (3, .invokevirtual 214, 3), (6, .aload_n 0, 1), (7, .iload_n 1, 1), (8, .invokevirtual 217, 3), (11, .isub, 1), (12, .ireturn, 1)]
theorem hX9_freeOn : zdec (yC mX9_freeOn) kX9_freeOn = true := by decide +kernel
def kX9_isPinned : List (Nat × Instr × Nat) := [(0, .aload_n 0, 1), (1, .getfield 7, 3), (4, .iconst 4, 1), (5, .laload, 1), (6, .aload_n 0, 1), (7, .iload_n 1, 1), (8, .iconst 3, 1), (9, .invokevirtual 211, 3), (12, .i2l, 1), (13, .lcmp, 1), (14, .ifCond .ge 7, 3), (17, .iconst 1, 1), (18, .goto 4, 3), (21, .iconst 0, 1), (22, .ireturn, 1)]
theorem hX9_isPinned : zdec (yC mX9_isPinned) kX9_isPinned = true := by decide +kernel
def kX9_knownOf : List (Nat × Instr × Nat) := [(0, .iconst 0, 1), (1, .istore_n 2, 1), (2, .iconst 0, 1), (3, .istore_n 3, 1), (4, .iload_n 3, 1), (5, .aload_n 0, 1), (6, .iconst 0, 1), (7, .invokevirtual 87, 3), (10, .if_icmp .ge 30, 3), (13, .iload_n 2, 1), (14, .aload_n 0, 1), (15, .iload_n 1, 1), (16, .bipush 14, 2), (18, .iload_n 3, 1), (19, .iadd, 1), (20, .invokevirtual 211, 3), (23, .iconst (-1), 1), (24, .if_icmp .ne 7, 3), (27, .iconst 0, 1), (28, .goto 4, 3), (31, .iconst 1, 1), (32, .iadd, 1), (33, .istore_n 2, 1), (34, .iinc 3 1, 3), (37, .goto (-33), 3), (40, .iload_n 2, 1), (41, .ireturn, 1)]
theorem hX9_knownOf : zdec (yC mX9_knownOf) kX9_knownOf = true := by decide +kernel
def kX9_forecastOf : List (Nat × Instr × Nat) := [(0, .aload_n 0, 1), (1, .iload_n 1, 1), (2, .bipush 14, 2), (4, .aload_n 0, 1), (5, .iconst 4, 1), (6, .invokevirtual 87, 3), (9, .iload_n 2, 1), (10, .iadd, 1), (11, .aload_n 0, 1), (12, .iconst 0, 1), (13, .invokevirtual 87, 3), (16, .irem, 1), (17, .iadd, 1), (18, .invokevirtual 211, 3), (21, .istore_n 3, 1), (22, .iload_n 3, 1), (23, .iconst (-1), 1), (24, .if_icmp .eq 5, 3), (27, .iload_n 3, 1), (28, .ireturn, 1), (29, .aload_n 0, 1), (30, .iload_n 1, 1), (31, .invokevirtual 220, 3), (34, .istore 4, 2), (36, .iconst 0, 1), (37, .istore 5, 2), (39, .iconst 0, 1), (40, .istore 6, 2), (42, .iload 6, 2), (44, .aload_n 0, 1), (45, .iconst 0, 1), (46, .invokevirtual 87, 3), (49, .if_icmp .ge 28, 3), (52, .iload 5, 2), (54, .iconst 0, 1), (55, .aload_n 0, 1), (56, .iload_n 1, 1), (57, .bipush 14, 2), (59, .iload 6, 2), (61, .iadd, 1), (62, .invokevirtual 211, 3), (65, .invokestatic 223, 3), (68, .iadd, 1), (69, .istore 5, 2), (71, .iinc 6 1, 3), (74, .goto (-32), 3), (77, .iload 4, 2), (79, .ifCond .ne 7, 3), (82, .iconst 0, 1), (83, .goto 8, 3), (86, .iload 5, 2), (88, .iload 4, 2), (90, .idiv, 1), (91, .ireturn, 1)]
theorem hX9_forecastOf : zdec (yC mX9_forecastOf) kX9_forecastOf = true := by decide +kernel
def kX9_learns : List (Nat × Instr × Nat) := [(0, .aload_n 0, 1), (1, .iload_n 1, 1), (2, .bipush 14, 2), (4, .iload_n 2, 1), (5, .iadd, 1), (6, .invokevirtual 211, 3), (9, .istore 4, 2), (11, .aload_n 0, 1), (12, .iload_n 1, 1), (13, .bipush 14, 2), (15, .iload_n 2, 1), (16, .iadd, 1), (17, .iload 4, 2), (19, .iconst (-1), 1), (20, .if_icmp .ne 11, 3), (23, .bipush 16, 2), (25, .iload_n 3, 1), (26, .imul, 1), (27, .i2l, 1), (28, .goto 23, 3), (31, .iload 4, 2), (33, .bipush 16, 2), (35, .iload_n 3, 1), (36, .imul, 1), (37, .iload 4, 2), (39, .isub, 1), (40, .aload_n 0, 1), (41, .iconst 1, 1), (42, .invokevirtual 87, 3), (45, .imul, 1), (46, .bipush 8, 2), (48, .idiv, 1), (49, .iadd, 1), (50, .i2l, 1), (51, .invokevirtual 193, 3), (54, .return_, 1)]
theorem hX9_learns : zdec (yC mX9_learns) kX9_learns = true := by decide +kernel
def kX9_keepsUses : List (Nat × Instr × Nat) := [(0, .aload_n 0, 1), (1, .iload_n 1, 1), (2, .iconst 4, 1), (3, .invokevirtual 211, 3), (6, .istore_n 2, 1), (7, .iload_n 2, 1), (8, .bipush 24, 2), (10, .if_icmp .ne 41, 3), (13, .iconst 0, 1), (14, .istore_n 3, 1), (15, .iload_n 3, 1), (16, .bipush 23, 2), (18, .if_icmp .ge 30, 3), (21, .aload_n 0, 1), (22, .iload_n 1, 1), (23, .bipush 26, 2), (25, .iload_n 3, 1), (26, .iadd, 1), (27, .aload_n 0, 1), (28, .iload_n 1, 1), (29, .bipush 26, 2), (31, .iload_n 3, 1), (32, .iadd, 1), (33, .iconst 1, 1), (34, .iadd, 1), (35, .invokevirtual 211, 3), (38, .i2l, 1), (39, .invokevirtual 193, 3), (42, .iinc 3 1, 3), (45, .goto (-30), 3), (48, .iinc 2 (-1), 3), (51, .aload_n 0, 1), (52, .iload_n 1, 1), (53, .bipush 26, 2), (55, .iload_n 2, 1), (56, .iadd, 1), (57, .aload_n 0, 1), (58, .iload_n 1, 1), (59, .iconst 2, 1), (60, .invokevirtual 211, 3), (63, .i2l, 1), (64, .invokevirtual 193, 3), (67, .aload_n 0, 1), (68, .iload_n 1, 1), (69, .iconst 4, 1), (70, .iload_n 2, 1), (71, .iconst 1, 1), (72, .iadd, 1), (73, .i2l, 1), (74, .invokevirtual 193, 3), (77, .aload_n 0, 1), (78, .iload_n 1, 1), (79, .iconst 2, 1), (80, .lconst 0, 1), (81, .invokevirtual 193, 3), (84, .return_, 1)]
theorem hX9_keepsUses : zdec (yC mX9_keepsUses) kX9_keepsUses = true := by decide +kernel
def kX9_relearns : List (Nat × Instr × Nat) := [(0, .iconst 0, 1), (1, .istore_n 2, 1), (2, .iload_n 2, 1), (3, .bipush 12, 2), (5, .if_icmp .ge 21, 3), (8, .aload_n 0, 1), (9, .iload_n 1, 1), (10, .bipush 14, 2), (12, .iload_n 2, 1), (13, .iadd, 1), (14, .ldc2_w 197, 3), (17, .invokevirtual 193, 3), (20, .iinc 2 1, 3), (23, .goto (-21), 3), (26, .aload_n 0, 1), (27, .iload_n 1, 1), (28, .iconst 4, 1), (29, .invokevirtual 211, 3), (32, .istore_n 2, 1), (33, .iconst 0, 1), (34, .istore_n 3, 1), (35, .iload_n 3, 1), (36, .iload_n 2, 1), (37, .if_icmp .ge 38, 3), (40, .aload_n 0, 1), (41, .iload_n 1, 1), (42, .aload_n 0, 1), (43, .iconst 4, 1), (44, .invokevirtual 87, 3), (47, .iload_n 2, 1), (48, .isub, 1), (49, .iload_n 3, 1), (50, .iadd, 1), (51, .aload_n 0, 1), (52, .iconst 0, 1), (53, .invokevirtual 87, 3), (56, .irem, 1), (57, .aload_n 0, 1), (58, .iload_n 1, 1), (59, .bipush 26, 2), (61, .iload_n 3, 1), (62, .iadd, 1), (63, .invokevirtual 211, 3), (66, .invokevirtual 226, 3), (69, .iinc 3 1, 3), (72, .goto (-37), 3), (75, .return_, 1)]
theorem hX9_relearns : zdec (yC mX9_relearns) kX9_relearns = true := by decide +kernel
def kX9_seasonsOf_0 : List (Nat × Instr × Nat) := [(0, .iconst (-1), 1), (1, .istore_n 3, 1), (2, .iconst (-1), 1), (3, .istore 4, 2), (5, .iconst 0, 1), (6, .istore 5, 2), (8, .iload 5, 2), (10, .aload_n 0, 1), (11, .iconst 0, 1), (12, .invokevirtual 87, 3), (15, .if_icmp .ge 72, 3), (18, .aload_n 0, 1), (19, .iload_n 1, 1), (20, .bipush 14, 2), (22, .iload 5, 2), (24, .iadd, 1), (25, .invokevirtual 211, 3), (28, .istore 6, 2), (30, .iload 6, 2), (32, .iconst (-1), 1), (33, .if_icmp .ne 6, 3), (36, .goto 45, 3), (39, .iload_n 3, 1), (40, .iconst (-1), 1), (41, .if_icmp .eq 17, 3), (44, .iload 6, 2), (46, .aload_n 0, 1), (47, .iload_n 1, 1), (48, .bipush 14, 2), (50, .iload_n 3, 1), (51, .iadd, 1), (52, .invokevirtual 211, 3), (55, .if_icmp .le 6, 3), (58, .iload 5, 2), (60, .istore_n 3, 1), (61, .iload 4, 2), (63, .iconst (-1), 1), (64, .if_icmp .ne 8, 3), (67, .iload 6, 2), (69, .goto 10, 3), (72, .iload 4, 2), (74, .iload 6, 2), (76, .invokestatic 121, 3), (79, .istore 4, 2), (81, .iinc 5 1, 3), (84, .goto (-76), 3), (87, .iload_n 2, 1), (88, .ifCond .eq 7, 3), (91, .iload_n 3, 1), (92, .goto 24, 3), (95, .iload_n 3, 1), (96, .iconst (-1), 1), (97, .if_icmp .ne 7, 3), (100, .iconst 0, 1), (101, .goto 15, 3), (104, .aload_n 0, 1), (105, .iload_n 1, 1), (106, .bipush 14, 2), (108, .iload_n 3, 1), (109, .iadd, 1)]
theorem hX9_seasonsOf_0 : zdec (yC mX9_seasonsOf) kX9_seasonsOf_0 = true := by decide +kernel
def kX9_seasonsOf_1 : List (Nat × Instr × Nat) := [(110, .invokevirtual 211, 3), (113, .iload 4, 2), (115, .isub, 1), (116, .ireturn, 1)]
theorem hX9_seasonsOf_1 : zdec (yC mX9_seasonsOf) kX9_seasonsOf_1 = true := by decide +kernel
def kX9_strange : List (Nat × Instr × Nat) := [(0, .iconst 0, 1), (1, .istore_n 3, 1), (2, .iload_n 2, 1), (3, .istore 4, 2), (5, .iload 4, 2), (7, .aload_n 0, 1), (8, .iload_n 1, 1), (9, .iconst 4, 1), (10, .invokevirtual 211, 3), (13, .if_icmp .ge 50, 3), (16, .aload_n 0, 1), (17, .iload_n 1, 1), (18, .bipush 26, 2), (20, .iload 4, 2), (22, .iadd, 1), (23, .invokevirtual 211, 3), (26, .aload_n 0, 1), (27, .iload_n 1, 1), (28, .bipush 26, 2), (30, .iload 4, 2), (32, .iadd, 1), (33, .iload_n 2, 1), (34, .isub, 1), (35, .invokevirtual 211, 3), (38, .isub, 1), (39, .istore 5, 2), (41, .iload_n 3, 1), (42, .iload 5, 2), (44, .ifCond .ge 9, 3), (47, .iload 5, 2), (49, .ineg, 1), (50, .goto 5, 3), (53, .iload 5, 2), (55, .iadd, 1), (56, .istore_n 3, 1), (57, .iinc 4 1, 3), (60, .goto (-55), 3), (63, .iload_n 3, 1), (64, .ireturn, 1)]
theorem hX9_strange : zdec (yC mX9_strange) kX9_strange = true := by decide +kernel
def kX9_ownCycle : List (Nat × Instr × Nat) := [(0, .iconst (-1), 1), (1, .istore_n 2, 1), (2, .aload_n 0, 1), (3, .iload_n 1, 1), (4, .iconst 4, 1), (5, .invokevirtual 211, 3), (8, .i2l, 1), (9, .lstore_n 3, 1), (10, .iconst 2, 1), (11, .istore 5, 2), (13, .iload 5, 2), (15, .bipush 12, 2), (17, .if_icmp .gt 55, 3), (20, .iload 5, 2), (22, .i2l, 1), (23, .lload_n 3, 1), (24, .lcmp, 1), (25, .ifCond .ge 47, 3), (28, .iload_n 2, 1), (29, .iconst (-1), 1), (30, .if_icmp .eq 33, 3), (33, .aload_n 0, 1), (34, .iload_n 1, 1), (35, .iload 5, 2), (37, .invokevirtual 230, 3), (40, .i2l, 1), (41, .lload_n 3, 1), (42, .iload_n 2, 1), (43, .i2l, 1), (44, .lsub, 1), (45, .lmul, 1), (46, .aload_n 0, 1), (47, .iload_n 1, 1), (48, .iload_n 2, 1), (49, .invokevirtual 230, 3), (52, .i2l, 1), (53, .lload_n 3, 1), (54, .iload 5, 2), (56, .i2l, 1), (57, .lsub, 1), (58, .lmul, 1), (59, .lcmp, 1), (60, .ifCond .ge 6, 3), (63, .iload 5, 2), (65, .istore_n 2, 1), (66, .iinc 5 1, 3), (69, .goto (-56), 3), (72, .iload_n 2, 1), (73, .ireturn, 1)]
theorem hX9_ownCycle : zdec (yC mX9_ownCycle) kX9_ownCycle = true := by decide +kernel
def kX9_pinned : List (Nat × Instr × Nat) := [(0, .iconst 0, 1), (1, .istore_n 1, 1), (2, .iconst 0, 1), (3, .istore_n 2, 1), (4, .iload_n 2, 1), (5, .aload_n 0, 1), (6, .invokevirtual 180, 3), (9, .if_icmp .ge 25, 3), (12, .iload_n 1, 1), (13, .aload_n 0, 1), (14, .iload_n 2, 1), (15, .invokevirtual 233, 3), (18, .ifCond .eq 7, 3), (21, .iconst 1, 1), (22, .goto 4, 3), (25, .iconst 0, 1), (26, .iadd, 1), (27, .istore_n 1, 1), (28, .iinc 2 1, 3), (31, .goto (-27), 3), (34, .iload_n 1, 1), (35, .ireturn, 1)]
theorem hX9_pinned : zdec (yC mX9_pinned) kX9_pinned = true := by decide +kernel
def kX9_sizes : List (Nat × Instr × Nat) := [(0, .iconst 0, 1), (1, .istore_n 1, 1), (2, .iconst 0, 1), (3, .istore_n 2, 1), (4, .iload_n 2, 1), (5, .aload_n 0, 1), (6, .invokevirtual 154, 3), (9, .if_icmp .ge 17, 3), (12, .iload_n 1, 1), (13, .aload_n 0, 1), (14, .iload_n 2, 1), (15, .invokevirtual 217, 3), (18, .iadd, 1), (19, .istore_n 1, 1), (20, .iinc 2 1, 3), (23, .goto (-19), 3), (26, .iload_n 1, 1), (27, .ireturn, 1)]
theorem hX9_sizes : zdec (yC mX9_sizes) kX9_sizes = true := by decide +kernel
def kX9_count : List (Nat × Instr × Nat) := [(0, .aload_n 0, 1), (1, .iload_n 1, 1), (2, .iconst 0, 1), (3, .bipush 7, 2), (5, .invokestatic 79, 3), (8, .ifCond .eq 7, 3), (11, .iconst 0, 1), (12, .goto 4, 3), (15, .iconst 1, 1), (16, .putfield 69, 3), (19, .aload_n 0, 1), (20, .getfield 69, 3), (23, .ifCond .le 5, 3), (26, .iconst 0, 1), (27, .ireturn, 1), (28, .iload_n 1, 1), (29, .tableswitch 43 5 7 #[27, 32, 38], 27), (56, .aload_n 0, 1), (57, .invokevirtual 236, 3), (60, .ireturn, 1), (61, .aload_n 0, 1), (62, .iconst 5, 1), (63, .invokevirtual 87, 3), (66, .ireturn, 1), (67, .aload_n 0, 1), (68, .invokevirtual 239, 3), (71, .ireturn, 1), (72, .aload_n 0, 1), (73, .iload_n 1, 1), (74, .invokevirtual 87, 3), (77, .ireturn, 1)]
theorem hX9_count : zdec (yC mX9_count) kX9_count = true := by decide +kernel
def kX9_filesOn : List (Nat × Instr × Nat) := [(0, .iconst 0, 1), (1, .istore_n 2, 1), (2, .iconst 0, 1), (3, .istore_n 3, 1), (4, .iload_n 3, 1), (5, .aload_n 0, 1), (6, .invokevirtual 180, 3), (9, .if_icmp .ge 27, 3), (12, .iload_n 2, 1), (13, .aload_n 0, 1), (14, .iload_n 3, 1), (15, .iconst 1, 1), (16, .invokevirtual 211, 3), (19, .iload_n 1, 1), (20, .if_icmp .ne 7, 3), (23, .iconst 1, 1), (24, .goto 4, 3), (27, .iconst 0, 1), (28, .iadd, 1), (29, .istore_n 2, 1), (30, .iinc 3 1, 3), (33, .goto (-29), 3), (36, .iload_n 2, 1), (37, .ireturn, 1)]
theorem hX9_filesOn : zdec (yC mX9_filesOn) kX9_filesOn = true := by decide +kernel
def kX9_busiest : List (Nat × Instr × Nat) := [(0, .iconst (-1), 1), (1, .istore_n 2, 1), (2, .iconst 0, 1), (3, .istore_n 3, 1), (4, .iload_n 3, 1), (5, .aload_n 0, 1), (6, .invokevirtual 180, 3), (9, .if_icmp .ge 41, 3), (12, .aload_n 0, 1), (13, .iload_n 3, 1), (14, .iconst 1, 1), (15, .invokevirtual 211, 3), (18, .iload_n 1, 1), (19, .if_icmp .ne 25, 3), (22, .iload_n 2, 1), (23, .iconst (-1), 1), (24, .if_icmp .eq 18, 3), (27, .aload_n 0, 1), (28, .iload_n 3, 1), (29, .iconst 0, 1), (30, .invokevirtual 242, 3), (33, .aload_n 0, 1), (34, .iload_n 2, 1), (35, .iconst 0, 1), (36, .invokevirtual 242, 3), (39, .if_icmp .le 5, 3), (42, .iload_n 3, 1), (43, .istore_n 2, 1), (44, .iinc 3 1, 3), (47, .goto (-43), 3), (50, .iload_n 2, 1), (51, .ireturn, 1)]
theorem hX9_busiest : zdec (yC mX9_busiest) kX9_busiest = true := by decide +kernel
def kX9_tier : List (Nat × Instr × Nat) := [(0, .aload_n 0, 1), (1, .aload_n 0, 1), (2, .iload_n 1, 1), (3, .invokevirtual 245, 3), (6, .ifCond .ne 7, 3), (9, .iconst 1, 1), (10, .goto 18, 3), (13, .iload_n 2, 1), (14, .iconst 0, 1), (15, .bipush 7, 2), (17, .invokestatic 79, 3), (20, .ifCond .eq 7, 3), (23, .iconst 0, 1), (24, .goto 4, 3), (27, .iconst 2, 1), (28, .putfield 69, 3), (31, .aload_n 0, 1), (32, .getfield 69, 3), (35, .ifCond .le 5, 3), (38, .iconst 0, 1), (39, .ireturn, 1), (40, .iload_n 2, 1), (41, .iconst 5, 1), (42, .if_icmp .ge 12, 3), (45, .aload_n 0, 1), (46, .iload_n 1, 1), (47, .iload_n 2, 1), (48, .invokevirtual 214, 3), (51, .goto 35, 3), (54, .iload_n 2, 1), (55, .iconst 5, 1), (56, .if_icmp .ne 11, 3), (59, .aload_n 0, 1), (60, .iload_n 1, 1), (61, .invokevirtual 217, 3), (64, .goto 22, 3), (67, .iload_n 2, 1), (68, .bipush 6, 2), (70, .if_icmp .ne 11, 3), (73, .aload_n 0, 1), (74, .iload_n 1, 1), (75, .invokevirtual 248, 3), (78, .goto 8, 3), (81, .aload_n 0, 1), (82, .iload_n 1, 1), (83, .invokevirtual 251, 3), (86, .ireturn, 1)]
theorem hX9_tier : zdec (yC mX9_tier) kX9_tier = true := by decide +kernel
def kX9_file : List (Nat × Instr × Nat) := [(0, .aload_n 0, 1), (1, .aload_n 0, 1), (2, .iload_n 1, 1), (3, .invokevirtual 254, 3), (6, .ifCond .ne 7, 3), (9, .iconst 1, 1), (10, .goto 18, 3), (13, .iload_n 2, 1), (14, .iconst 0, 1), (15, .bipush 9, 2), (17, .invokestatic 79, 3), (20, .ifCond .eq 7, 3), (23, .iconst 0, 1), (24, .goto 4, 3), (27, .iconst 2, 1), (28, .putfield 69, 3), (31, .aload_n 0, 1), (32, .getfield 69, 3), (35, .ifCond .le 5, 3), (38, .iconst 0, 1), (39, .ireturn, 1), (40, .iload_n 2, 1), (41, .tableswitch 87 4 9 #[39, 53, 60, 67, 73, 80], 39), (80, .aload_n 0, 1), (81, .iload_n 1, 1), (82, .invokevirtual 233, 3), (85, .ifCond .eq 7, 3), (88, .iconst 1, 1), (89, .goto 4, 3), (92, .iconst 0, 1), (93, .ireturn, 1), (94, .aload_n 0, 1), (95, .iload_n 1, 1), (96, .iconst 4, 1), (97, .invokevirtual 211, 3), (100, .ireturn, 1), (101, .aload_n 0, 1), (102, .iload_n 1, 1), (103, .iconst 5, 1), (104, .invokevirtual 211, 3), (107, .ireturn, 1), (108, .aload_n 0, 1), (109, .iload_n 1, 1), (110, .invokevirtual 220, 3), (113, .ireturn, 1), (114, .aload_n 0, 1), (115, .iload_n 1, 1), (116, .iconst 1, 1), (117, .invokevirtual 257, 3), (120, .ireturn, 1), (121, .aload_n 0, 1), (122, .iload_n 1, 1), (123, .iconst 0, 1), (124, .invokevirtual 257, 3), (127, .ireturn, 1), (128, .aload_n 0, 1), (129, .iload_n 1, 1), (130, .iload_n 2, 1), (131, .invokevirtual 211, 3), (134, .ireturn, 1)]
theorem hX9_file : zdec (yC mX9_file) kX9_file = true := by decide +kernel
def kX9_season : List (Nat × Instr × Nat) := [(0, .aload_n 0, 1), (1, .aload_n 0, 1), (2, .iload_n 1, 1), (3, .invokevirtual 254, 3), (6, .ifCond .eq 22, 3), (9, .iload_n 2, 1), (10, .iconst 0, 1), (11, .aload_n 0, 1), (12, .iconst 0, 1), (13, .invokevirtual 87, 3), (16, .iconst 1, 1), (17, .isub, 1), (18, .invokestatic 79, 3), (21, .ifCond .eq 7, 3), (24, .iconst 0, 1), (25, .goto 4, 3), (28, .iconst 1, 1), (29, .putfield 69, 3), (32, .aload_n 0, 1), (33, .getfield 69, 3), (36, .ifCond .le 7, 3), (39, .iconst 0, 1), (40, .goto 12, 3), (43, .aload_n 0, 1), (44, .iload_n 1, 1), (45, .bipush 14, 2), (47, .iload_n 2, 1), (48, .iadd, 1), (49, .invokevirtual 211, 3), (52, .ireturn, 1)]
theorem hX9_season : zdec (yC mX9_season) kX9_season = true := by decide +kernel
def kX9_kept : List (Nat × Instr × Nat) := [(0, .aload_n 0, 1), (1, .aload_n 0, 1), (2, .iload_n 1, 1), (3, .invokevirtual 254, 3), (6, .ifCond .eq 23, 3), (9, .iload_n 2, 1), (10, .iconst 0, 1), (11, .aload_n 0, 1), (12, .iload_n 1, 1), (13, .iconst 4, 1), (14, .invokevirtual 211, 3), (17, .iconst 1, 1), (18, .isub, 1), (19, .invokestatic 79, 3), (22, .ifCond .eq 7, 3), (25, .iconst 0, 1), (26, .goto 4, 3), (29, .iconst 1, 1), (30, .putfield 69, 3), (33, .aload_n 0, 1), (34, .getfield 69, 3), (37, .ifCond .le 7, 3), (40, .iconst 0, 1), (41, .goto 12, 3), (44, .aload_n 0, 1), (45, .iload_n 1, 1), (46, .bipush 26, 2), (48, .iload_n 2, 1), (49, .iadd, 1), (50, .invokevirtual 211, 3), (53, .ireturn, 1)]
theorem hX9_kept : zdec (yC mX9_kept) kX9_kept = true := by decide +kernel
def kX9_forecast : List (Nat × Instr × Nat) := [(0, .aload_n 0, 1), (1, .aload_n 0, 1), (2, .iload_n 1, 1), (3, .invokevirtual 254, 3), (6, .ifCond .ne 7, 3), (9, .iconst 1, 1), (10, .goto 18, 3), (13, .iload_n 2, 1), (14, .iconst 0, 1), (15, .bipush 24, 2), (17, .invokestatic 79, 3), (20, .ifCond .eq 7, 3), (23, .iconst 0, 1), (24, .goto 4, 3), (27, .iconst 2, 1), (28, .putfield 69, 3), (31, .aload_n 0, 1), (32, .getfield 69, 3), (35, .ifCond .le 7, 3), (38, .iconst 0, 1), (39, .goto 9, 3), (42, .aload_n 0, 1), (43, .iload_n 1, 1), (44, .iload_n 2, 1), (45, .invokevirtual 242, 3), (48, .ireturn, 1)]
theorem hX9_forecast : zdec (yC mX9_forecast) kX9_forecast = true := by decide +kernel
def kX9_off : List (Nat × Instr × Nat) := [(0, .aload_n 0, 1), (1, .aload_n 0, 1), (2, .iload_n 1, 1), (3, .invokevirtual 254, 3), (6, .ifCond .eq 7, 3), (9, .iconst 0, 1), (10, .goto 4, 3), (13, .iconst 1, 1), (14, .putfield 69, 3), (17, .aload_n 0, 1), (18, .getfield 69, 3), (21, .ifCond .le 7, 3), (24, .lconst 0, 1), (25, .goto 18, 3), (28, .aload_n 0, 1), (29, .getfield 7, 3), (32, .bipush 58, 2), (34, .bipush 51, 2), (36, .iload_n 1, 1), (37, .imul, 1), (38, .iadd, 1), (39, .bipush 50, 2), (41, .iadd, 1), (42, .laload, 1), (43, .lreturn, 1)]
theorem hX9_off : zdec (yC mX9_off) kX9_off = true := by decide +kernel
def kX9_meanOff : List (Nat × Instr × Nat) := [(0, .aload_n 0, 1), (1, .iconst 0, 1), (2, .putfield 69, 3), (5, .lconst 0, 1), (6, .lstore_n 1, 1), (7, .iconst 0, 1), (8, .istore_n 3, 1), (9, .iconst 0, 1), (10, .istore 4, 2), (12, .iload 4, 2), (14, .aload_n 0, 1), (15, .invokevirtual 180, 3), (18, .if_icmp .ge 38, 3), (21, .lload_n 1, 1), (22, .aload_n 0, 1), (23, .getfield 7, 3), (26, .bipush 58, 2), (28, .bipush 51, 2), (30, .iload 4, 2), (32, .imul, 1), (33, .iadd, 1), (34, .bipush 50, 2), (36, .iadd, 1), (37, .laload, 1), (38, .ladd, 1), (39, .lstore_n 1, 1), (40, .iload_n 3, 1), (41, .aload_n 0, 1), (42, .iload 4, 2), (44, .iconst 5, 1), (45, .invokevirtual 211, 3), (48, .iadd, 1), (49, .istore_n 3, 1), (50, .iinc 4 1, 3), (53, .goto (-41), 3), (56, .iload_n 3, 1), (57, .ifCond .ne 7, 3), (60, .dconst 0, 1), (61, .goto 8, 3), (64, .lload_n 1, 1), (65, .l2d, 1), (66, .iload_n 3, 1), (67, .i2d, 1), (68, .ddiv, 1), (69, .dreturn, 1)]
theorem hX9_meanOff : zdec (yC mX9_meanOff) kX9_meanOff = true := by decide +kernel
def kX9_cycleOf : List (Nat × Instr × Nat) := [(0, .aload_n 0, 1), (1, .aload_n 0, 1), (2, .iload_n 1, 1), (3, .invokevirtual 254, 3), (6, .ifCond .eq 7, 3), (9, .iconst 0, 1), (10, .goto 4, 3), (13, .iconst 1, 1), (14, .putfield 69, 3), (17, .aload_n 0, 1), (18, .getfield 69, 3), (21, .ifCond .le 7, 3), (24, .iconst 0, 1), (25, .goto 8, 3), (28, .aload_n 0, 1), (29, .iload_n 1, 1), (30, .invokevirtual 261, 3), (33, .ireturn, 1)]
theorem hX9_cycleOf : zdec (yC mX9_cycleOf) kX9_cycleOf = true := by decide +kernel
def kX9_commonCycle : List (Nat × Instr × Nat) := [(0, .aload_n 0, 1), (1, .iconst 0, 1), (2, .putfield 69, 3), (5, .iconst (-1), 1), (6, .istore_n 1, 1), (7, .iconst 0, 1), (8, .istore_n 2, 1), (9, .iconst 2, 1), (10, .istore_n 3, 1), (11, .iload_n 3, 1), (12, .bipush 12, 2), (14, .if_icmp .gt 64, 3), (17, .iconst 0, 1), (18, .istore 4, 2), (20, .iconst 0, 1), (21, .istore 5, 2), (23, .iload 5, 2), (25, .aload_n 0, 1), (26, .invokevirtual 180, 3), (29, .if_icmp .ge 29, 3), (32, .iload 4, 2), (34, .aload_n 0, 1), (35, .iload 5, 2), (37, .invokevirtual 261, 3), (40, .iload_n 3, 1), (41, .if_icmp .ne 7, 3), (44, .iconst 1, 1), (45, .goto 4, 3), (48, .iconst 0, 1), (49, .iadd, 1), (50, .istore 4, 2), (52, .iinc 5 1, 3), (55, .goto (-32), 3), (58, .iload 4, 2), (60, .iload_n 2, 1), (61, .if_icmp .gt 6, 3), (64, .goto 8, 3), (67, .iload 4, 2), (69, .istore_n 2, 1), (70, .iload_n 3, 1), (71, .istore_n 1, 1), (72, .iinc 3 1, 3), (75, .goto (-64), 3), (78, .iload_n 1, 1), (79, .ireturn, 1)]
theorem hX9_commonCycle : zdec (yC mX9_commonCycle) kX9_commonCycle = true := by decide +kernel
def kX9_sumOf : List (Nat × Instr × Nat) := [(0, .lconst 0, 1), (1, .lstore_n 3, 1), (2, .iconst 0, 1), (3, .istore 5, 2), (5, .iload 5, 2), (7, .aload_n 0, 1), (8, .invokevirtual 154, 3), (11, .if_icmp .ge 69, 3), (14, .iconst 0, 1), (15, .istore 6, 2), (17, .iload 6, 2), (19, .iconst 3, 1), (20, .if_icmp .ge 54, 3), (23, .lload_n 3, 1), (24, .iload_n 1, 1), (25, .iconst (-1), 1), (26, .if_icmp .eq 9, 3), (29, .iload_n 1, 1), (30, .iload 5, 2), (32, .if_icmp .ne 33, 3), (35, .iload_n 2, 1), (36, .iconst 3, 1), (37, .if_icmp .eq 9, 3), (40, .iload_n 2, 1), (41, .iload 6, 2), (43, .if_icmp .ne 22, 3), (46, .aload_n 0, 1), (47, .getfield 7, 3), (50, .sipush 1378, 3), (53, .iconst 3, 1), (54, .iload 5, 2), (56, .imul, 1), (57, .iadd, 1), (58, .iload 6, 2), (60, .iadd, 1), (61, .laload, 1), (62, .goto 4, 3), (65, .lconst 0, 1), (66, .ladd, 1), (67, .lstore_n 3, 1), (68, .iinc 6 1, 3), (71, .goto (-54), 3), (74, .iinc 5 1, 3), (77, .goto (-72), 3), (80, .lload_n 3, 1), (81, .lreturn, 1)]
theorem hX9_sumOf : zdec (yC mX9_sumOf) kX9_sumOf = true := by decide +kernel
def kX9_account : List (Nat × Instr × Nat) := [(0, .aload_n 0, 1), (1, .iload_n 1, 1), (2, .iconst (-1), 1), (3, .if_icmp .eq 15, 3), (6, .aload_n 0, 1), (7, .iload_n 1, 1), (8, .invokevirtual 245, 3), (11, .ifCond .ne 7, 3), (14, .iconst 1, 1), (15, .goto 17, 3), (18, .iload_n 2, 1), (19, .iconst 0, 1), (20, .iconst 3, 1), (21, .invokestatic 79, 3), (24, .ifCond .eq 7, 3), (27, .iconst 0, 1), (28, .goto 4, 3), (31, .iconst 2, 1), (32, .putfield 69, 3), (35, .aload_n 0, 1), (36, .getfield 69, 3), (39, .ifCond .le 7, 3), (42, .lconst 0, 1), (43, .goto 9, 3), (46, .aload_n 0, 1), (47, .iload_n 1, 1), (48, .iload_n 2, 1), (49, .invokevirtual 264, 3), (52, .lreturn, 1)]
theorem hX9_account : zdec (yC mX9_account) kX9_account = true := by decide +kernel
def kX9_movingShare : List (Nat × Instr × Nat) := [(0, .aload_n 0, 1), (1, .iconst 0, 1), (2, .putfield 69, 3), (5, .aload_n 0, 1), (6, .iconst (-1), 1), (7, .iconst 3, 1), (8, .invokevirtual 264, 3), (11, .lstore_n 1, 1), (12, .lload_n 1, 1), (13, .lconst 0, 1), (14, .lcmp, 1), (15, .ifCond .ne 7, 3), (18, .fconst 0, 1), (19, .goto 13, 3), (22, .aload_n 0, 1), (23, .iconst (-1), 1), (24, .iconst 2, 1), (25, .invokevirtual 264, 3), (28, .l2f, 1), (29, .lload_n 1, 1), (30, .l2f, 1), (31, .fdiv, 1), (32, .freturn, 1)]
theorem hX9_movingShare : zdec (yC mX9_movingShare) kX9_movingShare = true := by decide +kernel
def kX9_costOn : List (Nat × Instr × Nat) := [(0, .lconst 0, 1), (1, .lstore 4, 2), (3, .iconst 0, 1), (4, .istore 6, 2), (6, .iload 6, 2), (8, .iload_n 3, 1), (9, .if_icmp .ge 22, 3), (12, .lload 4, 2), (14, .aload_n 0, 1), (15, .iload_n 1, 1), (16, .iload 6, 2), (18, .invokevirtual 242, 3), (21, .i2l, 1), (22, .ladd, 1), (23, .lstore 4, 2), (25, .iinc 6 1, 3), (28, .goto (-22), 3), (31, .iload_n 3, 1), (32, .i2l, 1), (33, .aload_n 0, 1), (34, .iload_n 1, 1), (35, .iconst 0, 1), (36, .invokevirtual 211, 3), (39, .i2l, 1), (40, .lmul, 1), (41, .aload_n 0, 1), (42, .iload_n 2, 1), (43, .iconst 1, 1), (44, .invokevirtual 214, 3), (47, .i2l, 1), (48, .lmul, 1), (49, .aload_n 0, 1), (50, .iload_n 1, 1), (51, .iconst 0, 1), (52, .invokevirtual 211, 3), (55, .i2l, 1), (56, .aload_n 0, 1), (57, .iload_n 2, 1), (58, .iconst 2, 1), (59, .invokevirtual 214, 3), (62, .i2l, 1), (63, .lmul, 1), (64, .lload 4, 2), (66, .lmul, 1), (67, .ldc2_w 268, 3), (70, .ldiv, 1), (71, .ladd, 1), (72, .lreturn, 1)]
theorem hX9_costOn : zdec (yC mX9_costOn) kX9_costOn = true := by decide +kernel
def kX9_savesBy : List (Nat × Instr × Nat) := [(0, .aload_n 0, 1), (1, .getfield 52, 3), (4, .iconst 4, 1), (5, .iload_n 1, 1), (6, .imul, 1), (7, .iload_n 2, 1), (8, .iadd, 1), (9, .laload, 1), (10, .aload_n 0, 1), (11, .getfield 52, 3), (14, .iconst 4, 1), (15, .iload_n 1, 1), (16, .imul, 1), (17, .iload_n 3, 1), (18, .iadd, 1), (19, .laload, 1), (20, .lsub, 1), (21, .aload_n 0, 1), (22, .iload_n 1, 1), (23, .iconst 0, 1), (24, .invokevirtual 211, 3), (27, .i2l, 1), (28, .aload_n 0, 1), (29, .iload_n 2, 1), (30, .iconst 4, 1), (31, .invokevirtual 214, 3), (34, .aload_n 0, 1), (35, .iload_n 3, 1), (36, .iconst 3, 1), (37, .invokevirtual 214, 3), (40, .iadd, 1), (41, .i2l, 1), (42, .lmul, 1), (43, .lsub, 1), (44, .lreturn, 1)]
theorem hX9_savesBy : zdec (yC mX9_savesBy) kX9_savesBy = true := by decide +kernel
def kX9_laysCosts : List (Nat × Instr × Nat) := [(0, .iconst 0, 1), (1, .istore_n 2, 1), (2, .iload_n 2, 1), (3, .aload_n 0, 1), (4, .invokevirtual 180, 3), (7, .if_icmp .ge 42, 3), (10, .iconst 0, 1), (11, .istore_n 3, 1), (12, .iload_n 3, 1), (13, .aload_n 0, 1), (14, .invokevirtual 154, 3), (17, .if_icmp .ge 26, 3), (20, .aload_n 0, 1), (21, .getfield 52, 3), (24, .iconst 4, 1), (25, .iload_n 2, 1), (26, .imul, 1), (27, .iload_n 3, 1), (28, .iadd, 1), (29, .aload_n 0, 1), (30, .iload_n 2, 1), (31, .iload_n 3, 1), (32, .iload_n 1, 1), (33, .invokevirtual 270, 3), (36, .lastore, 1), (37, .iinc 3 1, 3), (40, .goto (-28), 3), (43, .iinc 2 1, 3), (46, .goto (-44), 3), (49, .return_, 1)]
theorem hX9_laysCosts : zdec (yC mX9_laysCosts) kX9_laysCosts = true := by decide +kernel
def kX9_canGo : List (Nat × Instr × Nat) := [(0, .aload_n 0, 1), (1, .iload_n 1, 1), (2, .invokevirtual 233, 3), (5, .ifCond .ne 16, 3), (8, .aload_n 0, 1), (9, .getfield 46, 3), (12, .iload_n 1, 1), (13, .baload, 1), (14, .ifCond .ne 7, 3), (17, .iconst 1, 1), (18, .goto 4, 3), (21, .iconst 0, 1), (22, .ireturn, 1)]
theorem hX9_canGo : zdec (yC mX9_canGo) kX9_canGo = true := by decide +kernel
def kX9_found : List (Nat × Instr × Nat) := [(0, .lload 4, 2), (2, .aload_n 0, 1), (3, .getfield 274, 3), (6, .lcmp, 1), (7, .ifCond .gt 4, 3), (10, .return_, 1), (11, .aload_n 0, 1), (12, .lload 4, 2), (14, .putfield 274, 3), (17, .aload_n 0, 1), (18, .iload_n 1, 1), (19, .putfield 278, 3), (22, .aload_n 0, 1), (23, .iload_n 2, 1), (24, .putfield 281, 3), (27, .aload_n 0, 1), (28, .iload_n 3, 1), (29, .putfield 284, 3), (32, .return_, 1)]
theorem hX9_found : zdec (yC mX9_found) kX9_found = true := by decide +kernel
def kX9_findsMove : List (Nat × Instr × Nat) := [(0, .iconst 0, 1), (1, .istore_n 1, 1), (2, .iload_n 1, 1), (3, .aload_n 0, 1), (4, .invokevirtual 180, 3), (7, .if_icmp .ge 77, 3), (10, .iconst 0, 1), (11, .istore_n 2, 1), (12, .iload_n 2, 1), (13, .aload_n 0, 1), (14, .invokevirtual 154, 3), (17, .if_icmp .ge 61, 3), (20, .aload_n 0, 1), (21, .iload_n 1, 1), (22, .invokevirtual 287, 3), (25, .ifCond .eq 47, 3), (28, .iload_n 2, 1), (29, .aload_n 0, 1), (30, .getfield 34, 3), (33, .iload_n 1, 1), (34, .iaload, 1), (35, .if_icmp .eq 37, 3), (38, .aload_n 0, 1), (39, .getfield 49, 3), (42, .iload_n 2, 1), (43, .iaload, 1), (44, .aload_n 0, 1), (45, .iload_n 1, 1), (46, .iconst 0, 1), (47, .invokevirtual 211, 3), (50, .if_icmp .lt 22, 3), (53, .aload_n 0, 1), (54, .iload_n 1, 1), (55, .iconst (-1), 1), (56, .iload_n 2, 1), (57, .aload_n 0, 1), (58, .iload_n 1, 1), (59, .aload_n 0, 1), (60, .getfield 34, 3), (63, .iload_n 1, 1), (64, .iaload, 1), (65, .iload_n 2, 1), (66, .invokevirtual 290, 3), (69, .invokevirtual 293, 3), (72, .iinc 2 1, 3), (75, .goto (-63), 3), (78, .iinc 1 1, 3), (81, .goto (-79), 3), (84, .return_, 1)]
theorem hX9_findsMove : zdec (yC mX9_findsMove) kX9_findsMove = true := by decide +kernel
def kX9_findsExchange_0 : List (Nat × Instr × Nat) := [(0, .iconst 0, 1), (1, .istore_n 1, 1), (2, .iload_n 1, 1), (3, .aload_n 0, 1), (4, .invokevirtual 180, 3), (7, .if_icmp .ge 131, 3), (10, .iload_n 1, 1), (11, .iconst 1, 1), (12, .iadd, 1), (13, .istore_n 2, 1), (14, .iload_n 2, 1), (15, .aload_n 0, 1), (16, .invokevirtual 180, 3), (19, .if_icmp .ge 113, 3), (22, .aload_n 0, 1), (23, .getfield 34, 3), (26, .iload_n 1, 1), (27, .iaload, 1), (28, .istore_n 3, 1), (29, .aload_n 0, 1), (30, .getfield 34, 3), (33, .iload_n 2, 1), (34, .iaload, 1), (35, .istore 4, 2), (37, .aload_n 0, 1), (38, .iload_n 1, 1), (39, .invokevirtual 287, 3), (42, .ifCond .eq 84, 3), (45, .aload_n 0, 1), (46, .iload_n 2, 1), (47, .invokevirtual 287, 3), (50, .ifCond .eq 76, 3), (53, .iload_n 3, 1), (54, .iload 4, 2), (56, .if_icmp .ne 6, 3), (59, .goto 67, 3), (62, .aload_n 0, 1), (63, .iload_n 2, 1), (64, .iconst 0, 1), (65, .invokevirtual 211, 3), (68, .aload_n 0, 1), (69, .iload_n 1, 1), (70, .iconst 0, 1), (71, .invokevirtual 211, 3), (74, .isub, 1), (75, .istore 5, 2), (77, .aload_n 0, 1), (78, .getfield 49, 3), (81, .iload_n 3, 1), (82, .iaload, 1), (83, .iload 5, 2), (85, .if_icmp .lt 41, 3), (88, .aload_n 0, 1), (89, .getfield 49, 3), (92, .iload 4, 2), (94, .iaload, 1), (95, .iload 5, 2), (97, .ineg, 1), (98, .if_icmp .lt 28, 3), (101, .aload_n 0, 1)]
theorem hX9_findsExchange_0 : zdec (yC mX9_findsExchange) kX9_findsExchange_0 = true := by decide +kernel
def kX9_findsExchange_1 : List (Nat × Instr × Nat) := [(102, .iload_n 1, 1), (103, .iload_n 2, 1), (104, .iload 4, 2), (106, .aload_n 0, 1), (107, .iload_n 1, 1), (108, .iload_n 3, 1), (109, .iload 4, 2), (111, .invokevirtual 290, 3), (114, .aload_n 0, 1), (115, .iload_n 2, 1), (116, .iload 4, 2), (118, .iload_n 3, 1), (119, .invokevirtual 290, 3), (122, .ladd, 1), (123, .invokevirtual 293, 3), (126, .iinc 2 1, 3), (129, .goto (-115), 3), (132, .iinc 1 1, 3), (135, .goto (-133), 3), (138, .return_, 1)]
theorem hX9_findsExchange_1 : zdec (yC mX9_findsExchange) kX9_findsExchange_1 = true := by decide +kernel
def kX9_goesOnPaper : List (Nat × Instr × Nat) := [(0, .aload_n 0, 1), (1, .getfield 49, 3), (4, .aload_n 0, 1), (5, .getfield 34, 3), (8, .iload_n 1, 1), (9, .iaload, 1), (10, .dup2, 1), (11, .iaload, 1), (12, .aload_n 0, 1), (13, .iload_n 1, 1), (14, .iconst 0, 1), (15, .invokevirtual 211, 3), (18, .iadd, 1), (19, .iastore, 1), (20, .aload_n 0, 1), (21, .getfield 49, 3), (24, .iload_n 2, 1), (25, .dup2, 1), (26, .iaload, 1), (27, .aload_n 0, 1), (28, .iload_n 1, 1), (29, .iconst 0, 1), (30, .invokevirtual 211, 3), (33, .isub, 1), (34, .iastore, 1), (35, .aload_n 0, 1), (36, .getfield 34, 3), (39, .iload_n 1, 1), (40, .iload_n 2, 1), (41, .iastore, 1), (42, .aload_n 0, 1), (43, .getfield 46, 3), (46, .iload_n 1, 1), (47, .iconst 1, 1), (48, .bastore, 1), (49, .return_, 1)]
theorem hX9_goesOnPaper : zdec (yC mX9_goesOnPaper) kX9_goesOnPaper = true := by decide +kernel
def kX9_plans_0 : List (Nat × Instr × Nat) := [(0, .aload_n 0, 1), (1, .iload_n 1, 1), (2, .invokevirtual 297, 3), (5, .aload_n 0, 1), (6, .iconst 0, 1), (7, .putfield 300, 3), (10, .aload_n 0, 1), (11, .lconst 0, 1), (12, .putfield 303, 3), (15, .iconst 0, 1), (16, .istore 4, 2), (18, .iload 4, 2), (20, .aload_n 0, 1), (21, .invokevirtual 154, 3), (24, .if_icmp .ge 34, 3), (27, .aload_n 0, 1), (28, .getfield 49, 3), (31, .iload 4, 2), (33, .aload_n 0, 1), (34, .iload 4, 2), (36, .invokevirtual 188, 3), (39, .iload 4, 2), (41, .iload_n 2, 1), (42, .if_icmp .ne 7, 3), (45, .iload_n 3, 1), (46, .goto 4, 3), (49, .iconst 0, 1), (50, .iadd, 1), (51, .iastore, 1), (52, .iinc 4 1, 3), (55, .goto (-37), 3), (58, .iconst 0, 1), (59, .istore 4, 2), (61, .iload 4, 2), (63, .aload_n 0, 1), (64, .invokevirtual 180, 3), (67, .if_icmp .ge 31, 3), (70, .aload_n 0, 1), (71, .getfield 34, 3), (74, .iload 4, 2), (76, .aload_n 0, 1), (77, .iload 4, 2), (79, .iconst 1, 1), (80, .invokevirtual 211, 3), (83, .iastore, 1), (84, .aload_n 0, 1), (85, .getfield 46, 3), (88, .iload 4, 2), (90, .iconst 0, 1), (91, .bastore, 1), (92, .iinc 4 1, 3), (95, .goto (-34), 3), (98, .aload_n 0, 1), (99, .invokevirtual 306, 3), (102, .ifCond .eq 109, 3), (105, .aload_n 0, 1), (106, .getfield 37, 3), (109, .aload_n 0, 1), (110, .getfield 300, 3), (113, .aload_n 0, 1)]
theorem hX9_plans_0 : zdec (yC mX9_plans) kX9_plans_0 = true := by decide +kernel
def kX9_plans_1 : List (Nat × Instr × Nat) := [(114, .getfield 278, 3), (117, .iastore, 1), (118, .aload_n 0, 1), (119, .getfield 40, 3), (122, .aload_n 0, 1), (123, .getfield 300, 3), (126, .aload_n 0, 1), (127, .getfield 281, 3), (130, .iastore, 1), (131, .aload_n 0, 1), (132, .getfield 43, 3), (135, .aload_n 0, 1), (136, .getfield 300, 3), (139, .aload_n 0, 1), (140, .getfield 284, 3), (143, .iastore, 1), (144, .aload_n 0, 1), (145, .dup, 1), (146, .getfield 300, 3), (149, .iconst 1, 1), (150, .iadd, 1), (151, .putfield 300, 3), (154, .aload_n 0, 1), (155, .dup, 1), (156, .getfield 303, 3), (159, .aload_n 0, 1), (160, .getfield 274, 3), (163, .ladd, 1), (164, .putfield 303, 3), (167, .aload_n 0, 1), (168, .getfield 34, 3), (171, .aload_n 0, 1), (172, .getfield 278, 3), (175, .iaload, 1), (176, .istore 4, 2), (178, .aload_n 0, 1), (179, .aload_n 0, 1), (180, .getfield 278, 3), (183, .aload_n 0, 1), (184, .getfield 284, 3), (187, .invokevirtual 310, 3), (190, .aload_n 0, 1), (191, .getfield 281, 3), (194, .iconst (-1), 1), (195, .if_icmp .eq 13, 3), (198, .aload_n 0, 1), (199, .aload_n 0, 1), (200, .getfield 281, 3), (203, .iload 4, 2), (205, .invokevirtual 310, 3), (208, .goto (-110), 3), (211, .return_, 1)]
theorem hX9_plans_1 : zdec (yC mX9_plans) kX9_plans_1 = true := by decide +kernel
def kX9_findsStep : List (Nat × Instr × Nat) := [(0, .aload_n 0, 1), (1, .lconst 0, 1), (2, .putfield 274, 3), (5, .aload_n 0, 1), (6, .invokevirtual 314, 3), (9, .aload_n 0, 1), (10, .getfield 274, 3), (13, .lconst 0, 1), (14, .lcmp, 1), (15, .ifCond .ne 7, 3), (18, .aload_n 0, 1), (19, .invokevirtual 317, 3), (22, .aload_n 0, 1), (23, .getfield 274, 3), (26, .lconst 0, 1), (27, .lcmp, 1), (28, .ifCond .le 7, 3), (31, .iconst 1, 1), (32, .goto 4, 3), (35, .iconst 0, 1), (36, .ireturn, 1)]
theorem hX9_findsStep : zdec (yC mX9_findsStep) kX9_findsStep = true := by decide +kernel
def kX9_isSpan : List (Nat × Instr × Nat) := [(0, .iload_n 0, 1), (1, .iconst 1, 1), (2, .bipush 24, 2), (4, .invokestatic 79, 3), (7, .ireturn, 1)]
theorem hX9_isSpan : zdec (yC mX9_isSpan) kX9_isSpan = true := by decide +kernel
def kX9_cost : List (Nat × Instr × Nat) := [(0, .aload_n 0, 1), (1, .aload_n 0, 1), (2, .iload_n 1, 1), (3, .invokevirtual 254, 3), (6, .ifCond .eq 11, 3), (9, .aload_n 0, 1), (10, .iload_n 2, 1), (11, .invokevirtual 245, 3), (14, .ifCond .ne 7, 3), (17, .iconst 1, 1), (18, .goto 15, 3), (21, .iload_n 3, 1), (22, .invokestatic 320, 3), (25, .ifCond .eq 7, 3), (28, .iconst 0, 1), (29, .goto 4, 3), (32, .iconst 2, 1), (33, .putfield 69, 3), (36, .aload_n 0, 1), (37, .getfield 69, 3), (40, .ifCond .le 7, 3), (43, .lconst 0, 1), (44, .goto 10, 3), (47, .aload_n 0, 1), (48, .iload_n 1, 1), (49, .iload_n 2, 1), (50, .iload_n 3, 1), (51, .invokevirtual 270, 3), (54, .lreturn, 1)]
theorem hX9_cost : zdec (yC mX9_cost) kX9_cost = true := by decide +kernel
def kX9_wish_0 : List (Nat × Instr × Nat) := [(0, .aload_n 0, 1), (1, .aload_n 0, 1), (2, .iload_n 1, 1), (3, .invokevirtual 254, 3), (6, .ifCond .ne 7, 3), (9, .iconst 1, 1), (10, .goto 15, 3), (13, .iload_n 2, 1), (14, .invokestatic 320, 3), (17, .ifCond .eq 7, 3), (20, .iconst 0, 1), (21, .goto 4, 3), (24, .iconst 2, 1), (25, .putfield 69, 3), (28, .aload_n 0, 1), (29, .getfield 69, 3), (32, .ifCond .le 5, 3), (35, .iconst 0, 1), (36, .ireturn, 1), (37, .aload_n 0, 1), (38, .iload_n 2, 1), (39, .invokevirtual 297, 3), (42, .aload_n 0, 1), (43, .iload_n 1, 1), (44, .iconst 1, 1), (45, .invokevirtual 211, 3), (48, .istore_n 3, 1), (49, .lconst 0, 1), (50, .lstore 4, 2), (52, .iconst 0, 1), (53, .istore 6, 2), (55, .iload 6, 2), (57, .aload_n 0, 1), (58, .invokevirtual 154, 3), (61, .if_icmp .ge 57, 3), (64, .iload 6, 2), (66, .aload_n 0, 1), (67, .iload_n 1, 1), (68, .iconst 1, 1), (69, .invokevirtual 211, 3), (72, .if_icmp .ne 7, 3), (75, .lconst 0, 1), (76, .goto 16, 3), (79, .aload_n 0, 1), (80, .iload_n 1, 1), (81, .aload_n 0, 1), (82, .iload_n 1, 1), (83, .iconst 1, 1), (84, .invokevirtual 211, 3), (87, .iload 6, 2), (89, .invokevirtual 290, 3), (92, .lstore 7, 2), (94, .lload 7, 2), (96, .lload 4, 2), (98, .lcmp, 1), (99, .ifCond .gt 6, 3), (102, .goto 10, 3), (105, .lload 7, 2), (107, .lstore 4, 2), (109, .iload 6, 2)]
theorem hX9_wish_0 : zdec (yC mX9_wish) kX9_wish_0 = true := by decide +kernel
def kX9_wish_1 : List (Nat × Instr × Nat) := [(111, .istore_n 3, 1), (112, .iinc 6 1, 3), (115, .goto (-60), 3), (118, .iload_n 3, 1), (119, .ireturn, 1)]
theorem hX9_wish_1 : zdec (yC mX9_wish) kX9_wish_1 = true := by decide +kernel
def kX9_steps : List (Nat × Instr × Nat) := [(0, .aload_n 0, 1), (1, .iload_n 1, 1), (2, .invokestatic 320, 3), (5, .ifCond .eq 7, 3), (8, .iconst 0, 1), (9, .goto 4, 3), (12, .iconst 1, 1), (13, .putfield 69, 3), (16, .aload_n 0, 1), (17, .getfield 69, 3), (20, .ifCond .le 5, 3), (23, .iconst 0, 1), (24, .ireturn, 1), (25, .aload_n 0, 1), (26, .iload_n 1, 1), (27, .iconst (-1), 1), (28, .iconst 0, 1), (29, .invokevirtual 323, 3), (32, .aload_n 0, 1), (33, .getfield 300, 3), (36, .ireturn, 1)]
theorem hX9_steps : zdec (yC mX9_steps) kX9_steps = true := by decide +kernel
def kX9_step_0 : List (Nat × Instr × Nat) := [(0, .aload_n 0, 1), (1, .iload_n 1, 1), (2, .invokestatic 320, 3), (5, .ifCond .eq 16, 3), (8, .iload_n 3, 1), (9, .iconst 0, 1), (10, .iconst 2, 1), (11, .invokestatic 79, 3), (14, .ifCond .eq 7, 3), (17, .iconst 0, 1), (18, .goto 4, 3), (21, .iconst 1, 1), (22, .putfield 69, 3), (25, .aload_n 0, 1), (26, .getfield 69, 3), (29, .ifCond .le 5, 3), (32, .iconst 0, 1), (33, .ireturn, 1), (34, .aload_n 0, 1), (35, .iload_n 1, 1), (36, .iconst (-1), 1), (37, .iconst 0, 1), (38, .invokevirtual 323, 3), (41, .aload_n 0, 1), (42, .iload_n 2, 1), (43, .iconst 0, 1), (44, .aload_n 0, 1), (45, .getfield 300, 3), (48, .iconst 1, 1), (49, .isub, 1), (50, .invokestatic 79, 3), (53, .ifCond .eq 7, 3), (56, .iconst 0, 1), (57, .goto 4, 3), (60, .iconst 2, 1), (61, .putfield 69, 3), (64, .aload_n 0, 1), (65, .getfield 69, 3), (68, .ifCond .le 5, 3), (71, .iconst 0, 1), (72, .ireturn, 1), (73, .iload_n 3, 1), (74, .ifCond .ne 12, 3), (77, .aload_n 0, 1), (78, .getfield 37, 3), (81, .iload_n 2, 1), (82, .iaload, 1), (83, .goto 23, 3), (86, .iload_n 3, 1), (87, .iconst 1, 1), (88, .if_icmp .ne 12, 3), (91, .aload_n 0, 1), (92, .getfield 40, 3), (95, .iload_n 2, 1), (96, .iaload, 1), (97, .goto 9, 3), (100, .aload_n 0, 1), (101, .getfield 43, 3), (104, .iload_n 2, 1), (105, .iaload, 1)]
theorem hX9_step_0 : zdec (yC mX9_step) kX9_step_0 = true := by decide +kernel
def kX9_step_1 : List (Nat × Instr × Nat) := [(106, .ireturn, 1)]
theorem hX9_step_1 : zdec (yC mX9_step) kX9_step_1 = true := by decide +kernel
def kX9_saving : List (Nat × Instr × Nat) := [(0, .aload_n 0, 1), (1, .iload_n 1, 1), (2, .invokestatic 320, 3), (5, .ifCond .eq 7, 3), (8, .iconst 0, 1), (9, .goto 4, 3), (12, .iconst 1, 1), (13, .putfield 69, 3), (16, .aload_n 0, 1), (17, .getfield 69, 3), (20, .ifCond .le 5, 3), (23, .lconst 0, 1), (24, .lreturn, 1), (25, .aload_n 0, 1), (26, .iload_n 1, 1), (27, .iconst (-1), 1), (28, .iconst 0, 1), (29, .invokevirtual 323, 3), (32, .aload_n 0, 1), (33, .getfield 303, 3), (36, .lreturn, 1)]
theorem hX9_saving : zdec (yC mX9_saving) kX9_saving = true := by decide +kernel
def kX9_withRoom : List (Nat × Instr × Nat) := [(0, .aload_n 0, 1), (1, .aload_n 0, 1), (2, .iload_n 1, 1), (3, .invokevirtual 245, 3), (6, .ifCond .ne 7, 3), (9, .iconst 1, 1), (10, .goto 25, 3), (13, .iload_n 2, 1), (14, .iconst 0, 1), (15, .ldc 173, 2), (17, .invokestatic 79, 3), (20, .ifCond .eq 14, 3), (23, .iload_n 3, 1), (24, .invokestatic 320, 3), (27, .ifCond .eq 7, 3), (30, .iconst 0, 1), (31, .goto 4, 3), (34, .iconst 2, 1), (35, .putfield 69, 3), (38, .aload_n 0, 1), (39, .getfield 69, 3), (42, .ifCond .le 5, 3), (45, .lconst 0, 1), (46, .lreturn, 1), (47, .aload_n 0, 1), (48, .iload_n 3, 1), (49, .iload_n 1, 1), (50, .iload_n 2, 1), (51, .invokevirtual 323, 3), (54, .aload_n 0, 1), (55, .getfield 303, 3), (58, .lstore 4, 2), (60, .aload_n 0, 1), (61, .iload_n 3, 1), (62, .iconst (-1), 1), (63, .iconst 0, 1), (64, .invokevirtual 323, 3), (67, .lload 4, 2), (69, .aload_n 0, 1), (70, .getfield 303, 3), (73, .lsub, 1), (74, .lreturn, 1)]
theorem hX9_withRoom : zdec (yC mX9_withRoom) kX9_withRoom = true := by decide +kernel
def kX9_refused : List (Nat × Instr × Nat) := [(0, .bipush (-10), 2), (2, .iload_n 0, 1), (3, .isub, 1), (4, .ireturn, 1)]
theorem hX9_refused : zdec (yC mX9_refused) kX9_refused = true := by decide +kernel
def kX9_add_0 : List (Nat × Instr × Nat) := [(0, .aload_n 0, 1), (1, .iload_n 1, 1), (2, .iconst 1, 1), (3, .sipush 999, 3), (6, .invokestatic 79, 3), (9, .ifCond .ne 7, 3), (12, .iconst 1, 1), (13, .goto 16, 3), (16, .aload_n 0, 1), (17, .iload_n 2, 1), (18, .invokevirtual 245, 3), (21, .ifCond .eq 7, 3), (24, .iconst 0, 1), (25, .goto 4, 3), (28, .iconst 2, 1), (29, .putfield 69, 3), (32, .aload_n 0, 1), (33, .getfield 69, 3), (36, .ifCond .le 5, 3), (39, .iconst 0, 1), (40, .ireturn, 1), (41, .aload_n 0, 1), (42, .invokevirtual 180, 3), (45, .istore_n 3, 1), (46, .iload_n 3, 1), (47, .bipush 20, 2), (49, .if_icmp .ne 8, 3), (52, .iconst 1, 1), (53, .invokestatic 326, 3), (56, .ireturn, 1), (57, .aload_n 0, 1), (58, .iload_n 2, 1), (59, .invokevirtual 188, 3), (62, .iload_n 1, 1), (63, .if_icmp .ge 8, 3), (66, .iconst 5, 1), (67, .invokestatic 326, 3), (70, .ireturn, 1), (71, .aload_n 0, 1), (72, .aload_n 0, 1), (73, .getfield 7, 3), (76, .invokevirtual 83, 3), (79, .aload_n 0, 1), (80, .iload_n 3, 1), (81, .invokevirtual 183, 3), (84, .aload_n 0, 1), (85, .iload_n 3, 1), (86, .iconst 0, 1), (87, .iload_n 1, 1), (88, .i2l, 1), (89, .invokevirtual 193, 3), (92, .aload_n 0, 1), (93, .iload_n 3, 1), (94, .iconst 1, 1), (95, .iload_n 2, 1), (96, .i2l, 1), (97, .invokevirtual 193, 3), (100, .aload_n 0, 1), (101, .getfield 7, 3), (104, .iconst 3, 1)]
theorem hX9_add_0 : zdec (yC mX9_add) kX9_add_0 = true := by decide +kernel
def kX9_add_1 : List (Nat × Instr × Nat) := [(105, .dup2, 1), (106, .laload, 1), (107, .lconst 1, 1), (108, .ladd, 1), (109, .lastore, 1), (110, .iload_n 3, 1), (111, .ireturn, 1)]
theorem hX9_add_1 : zdec (yC mX9_add) kX9_add_1 = true := by decide +kernel
def kX9_drop_0 : List (Nat × Instr × Nat) := [(0, .aload_n 0, 1), (1, .aload_n 0, 1), (2, .iload_n 1, 1), (3, .invokevirtual 254, 3), (6, .ifCond .eq 7, 3), (9, .iconst 0, 1), (10, .goto 4, 3), (13, .iconst 1, 1), (14, .putfield 69, 3), (17, .aload_n 0, 1), (18, .getfield 69, 3), (21, .ifCond .le 5, 3), (24, .iconst 0, 1), (25, .ireturn, 1), (26, .aload_n 0, 1), (27, .aload_n 0, 1), (28, .getfield 7, 3), (31, .invokevirtual 83, 3), (34, .bipush 58, 2), (36, .bipush 51, 2), (38, .iload_n 1, 1), (39, .imul, 1), (40, .iadd, 1), (41, .istore_n 2, 1), (42, .iload_n 2, 1), (43, .sipush 1027, 3), (46, .if_icmp .ge 24, 3), (49, .aload_n 0, 1), (50, .getfield 7, 3), (53, .iload_n 2, 1), (54, .aload_n 0, 1), (55, .getfield 7, 3), (58, .iload_n 2, 1), (59, .bipush 51, 2), (61, .iadd, 1), (62, .laload, 1), (63, .lastore, 1), (64, .iinc 2 1, 3), (67, .goto (-25), 3), (70, .aload_n 0, 1), (71, .getfield 7, 3), (74, .iconst 3, 1), (75, .dup2, 1), (76, .laload, 1), (77, .lconst 1, 1), (78, .lsub, 1), (79, .lastore, 1), (80, .iconst 0, 1), (81, .istore_n 2, 1), (82, .iconst 0, 1), (83, .istore_n 3, 1), (84, .iload_n 3, 1), (85, .aload_n 0, 1), (86, .iconst 5, 1), (87, .invokevirtual 87, 3), (90, .if_icmp .ge 110, 3), (93, .aload_n 0, 1), (94, .getfield 7, 3), (97, .sipush 1078, 3), (100, .iconst 5, 1)]
theorem hX9_drop_0 : zdec (yC mX9_drop) kX9_drop_0 = true := by decide +kernel
def kX9_drop_1 : List (Nat × Instr × Nat) := [(101, .iload_n 3, 1), (102, .imul, 1), (103, .iadd, 1), (104, .laload, 1), (105, .lstore 4, 2), (107, .lload 4, 2), (109, .iload_n 1, 1), (110, .i2l, 1), (111, .lcmp, 1), (112, .ifCond .ne 6, 3), (115, .goto 79, 3), (118, .iconst 0, 1), (119, .istore 6, 2), (121, .iload 6, 2), (123, .iconst 5, 1), (124, .if_icmp .ge 39, 3), (127, .aload_n 0, 1), (128, .getfield 7, 3), (131, .sipush 1078, 3), (134, .iconst 5, 1), (135, .iload_n 2, 1), (136, .imul, 1), (137, .iadd, 1), (138, .iload 6, 2), (140, .iadd, 1), (141, .aload_n 0, 1), (142, .getfield 7, 3), (145, .sipush 1078, 3), (148, .iconst 5, 1), (149, .iload_n 3, 1), (150, .imul, 1), (151, .iadd, 1), (152, .iload 6, 2), (154, .iadd, 1), (155, .laload, 1), (156, .lastore, 1), (157, .iinc 6 1, 3), (160, .goto (-39), 3), (163, .aload_n 0, 1), (164, .getfield 7, 3), (167, .sipush 1078, 3), (170, .iconst 5, 1), (171, .iload_n 2, 1), (172, .imul, 1), (173, .iadd, 1), (174, .dup2, 1), (175, .laload, 1), (176, .lload 4, 2), (178, .iload_n 1, 1), (179, .i2l, 1), (180, .lcmp, 1), (181, .ifCond .le 7, 3), (184, .lconst 1, 1), (185, .goto 4, 3), (188, .lconst 0, 1), (189, .lsub, 1), (190, .lastore, 1), (191, .iinc 2 1, 3), (194, .iinc 3 1, 3), (197, .goto (-113), 3)]
theorem hX9_drop_1 : zdec (yC mX9_drop) kX9_drop_1 = true := by decide +kernel
def kX9_drop_2 : List (Nat × Instr × Nat) := [(200, .aload_n 0, 1), (201, .getfield 7, 3), (204, .iconst 5, 1), (205, .iload_n 2, 1), (206, .i2l, 1), (207, .lastore, 1), (208, .aload_n 0, 1), (209, .invokevirtual 180, 3), (212, .ireturn, 1)]
theorem hX9_drop_2 : zdec (yC mX9_drop) kX9_drop_2 = true := by decide +kernel
def kX9_use : List (Nat × Instr × Nat) := [(0, .aload_n 0, 1), (1, .aload_n 0, 1), (2, .iload_n 1, 1), (3, .invokevirtual 254, 3), (6, .ifCond .ne 7, 3), (9, .iconst 1, 1), (10, .goto 19, 3), (13, .iload_n 2, 1), (14, .iconst 1, 1), (15, .sipush 9999, 3), (18, .invokestatic 79, 3), (21, .ifCond .eq 7, 3), (24, .iconst 0, 1), (25, .goto 4, 3), (28, .iconst 2, 1), (29, .putfield 69, 3), (32, .aload_n 0, 1), (33, .getfield 69, 3), (36, .ifCond .le 5, 3), (39, .iconst 0, 1), (40, .ireturn, 1), (41, .aload_n 0, 1), (42, .iload_n 1, 1), (43, .iconst 2, 1), (44, .invokevirtual 211, 3), (47, .iload_n 2, 1), (48, .iadd, 1), (49, .sipush 9999, 3), (52, .if_icmp .le 9, 3), (55, .bipush 8, 2), (57, .invokestatic 326, 3), (60, .ireturn, 1), (61, .aload_n 0, 1), (62, .aload_n 0, 1), (63, .getfield 7, 3), (66, .invokevirtual 83, 3), (69, .aload_n 0, 1), (70, .iload_n 1, 1), (71, .iconst 2, 1), (72, .aload_n 0, 1), (73, .iload_n 1, 1), (74, .iconst 2, 1), (75, .invokevirtual 211, 3), (78, .iload_n 2, 1), (79, .iadd, 1), (80, .i2l, 1), (81, .invokevirtual 193, 3), (84, .aload_n 0, 1), (85, .iload_n 1, 1), (86, .iconst 2, 1), (87, .invokevirtual 211, 3), (90, .ireturn, 1)]
theorem hX9_use : zdec (yC mX9_use) kX9_use = true := by decide +kernel
def kX9_pays : List (Nat × Instr × Nat) := [(0, .aload_n 0, 1), (1, .getfield 7, 3), (4, .sipush 1378, 3), (7, .iconst 3, 1), (8, .iload_n 1, 1), (9, .imul, 1), (10, .iadd, 1), (11, .iload_n 2, 1), (12, .iadd, 1), (13, .dup2, 1), (14, .laload, 1), (15, .lload_n 3, 1), (16, .ladd, 1), (17, .lastore, 1), (18, .return_, 1)]
theorem hX9_pays : zdec (yC mX9_pays) kX9_pays = true := by decide +kernel
def kX9_closes_0 : List (Nat × Instr × Nat) := [(0, .aload_n 0, 1), (1, .iload_n 1, 1), (2, .iconst 2, 1), (3, .invokevirtual 211, 3), (6, .istore_n 2, 1), (7, .aload_n 0, 1), (8, .iload_n 1, 1), (9, .iconst 1, 1), (10, .invokevirtual 211, 3), (13, .istore_n 3, 1), (14, .aload_n 0, 1), (15, .iload_n 1, 1), (16, .invokevirtual 220, 3), (19, .ifCond .le 64, 3), (22, .bipush 16, 2), (24, .iload_n 2, 1), (25, .imul, 1), (26, .aload_n 0, 1), (27, .iload_n 1, 1), (28, .iconst 0, 1), (29, .invokevirtual 242, 3), (32, .isub, 1), (33, .istore 4, 2), (35, .aload_n 0, 1), (36, .getfield 7, 3), (39, .bipush 58, 2), (41, .bipush 51, 2), (43, .iload_n 1, 1), (44, .imul, 1), (45, .iadd, 1), (46, .bipush 50, 2), (48, .iadd, 1), (49, .dup2, 1), (50, .laload, 1), (51, .iload 4, 2), (53, .ifCond .ge 10, 3), (56, .iload 4, 2), (58, .ineg, 1), (59, .i2l, 1), (60, .goto 6, 3), (63, .iload 4, 2), (65, .i2l, 1), (66, .ladd, 1), (67, .lastore, 1), (68, .aload_n 0, 1), (69, .iload_n 1, 1), (70, .iconst 5, 1), (71, .aload_n 0, 1), (72, .iload_n 1, 1), (73, .iconst 5, 1), (74, .invokevirtual 211, 3), (77, .iconst 1, 1), (78, .iadd, 1), (79, .i2l, 1), (80, .invokevirtual 193, 3), (83, .aload_n 0, 1), (84, .iload_n 3, 1), (85, .iconst 0, 1), (86, .aload_n 0, 1), (87, .iload_n 1, 1)]
theorem hX9_closes_0 : zdec (yC mX9_closes) kX9_closes_0 = true := by decide +kernel
def kX9_closes_1 : List (Nat × Instr × Nat) := [(88, .iconst 0, 1), (89, .invokevirtual 211, 3), (92, .aload_n 0, 1), (93, .iload_n 3, 1), (94, .iconst 1, 1), (95, .invokevirtual 214, 3), (98, .imul, 1), (99, .i2l, 1), (100, .invokevirtual 329, 3), (103, .aload_n 0, 1), (104, .iload_n 3, 1), (105, .iconst 1, 1), (106, .aload_n 0, 1), (107, .iload_n 1, 1), (108, .iconst 0, 1), (109, .invokevirtual 211, 3), (112, .i2l, 1), (113, .iload_n 2, 1), (114, .i2l, 1), (115, .lmul, 1), (116, .aload_n 0, 1), (117, .iload_n 3, 1), (118, .iconst 2, 1), (119, .invokevirtual 214, 3), (122, .i2l, 1), (123, .lmul, 1), (124, .invokevirtual 329, 3), (127, .aload_n 0, 1), (128, .iload_n 1, 1), (129, .aload_n 0, 1), (130, .iconst 4, 1), (131, .invokevirtual 87, 3), (134, .aload_n 0, 1), (135, .iconst 0, 1), (136, .invokevirtual 87, 3), (139, .irem, 1), (140, .iload_n 2, 1), (141, .invokevirtual 226, 3), (144, .aload_n 0, 1), (145, .iload_n 1, 1), (146, .invokevirtual 332, 3), (149, .return_, 1)]
theorem hX9_closes_1 : zdec (yC mX9_closes) kX9_closes_1 = true := by decide +kernel
def kX9_close : List (Nat × Instr × Nat) := [(0, .aload_n 0, 1), (1, .iconst 0, 1), (2, .putfield 69, 3), (5, .aload_n 0, 1), (6, .getfield 7, 3), (9, .iconst 4, 1), (10, .laload, 1), (11, .ldc2_w 335, 3), (14, .lcmp, 1), (15, .ifCond .ne 10, 3), (18, .bipush 7, 2), (20, .invokestatic 326, 3), (23, .i2l, 1), (24, .lreturn, 1), (25, .aload_n 0, 1), (26, .aload_n 0, 1), (27, .getfield 7, 3), (30, .invokevirtual 83, 3), (33, .aload_n 0, 1), (34, .iconst (-1), 1), (35, .iconst 3, 1), (36, .invokevirtual 264, 3), (39, .lstore_n 1, 1), (40, .iconst 0, 1), (41, .istore_n 3, 1), (42, .iload_n 3, 1), (43, .aload_n 0, 1), (44, .invokevirtual 180, 3), (47, .if_icmp .ge 14, 3), (50, .aload_n 0, 1), (51, .iload_n 3, 1), (52, .invokevirtual 337, 3), (55, .iinc 3 1, 3), (58, .goto (-16), 3), (61, .aload_n 0, 1), (62, .getfield 7, 3), (65, .iconst 4, 1), (66, .dup2, 1), (67, .laload, 1), (68, .lconst 1, 1), (69, .ladd, 1), (70, .lastore, 1), (71, .aload_n 0, 1), (72, .getfield 7, 3), (75, .iconst 5, 1), (76, .lconst 0, 1), (77, .lastore, 1), (78, .aload_n 0, 1), (79, .iconst (-1), 1), (80, .iconst 3, 1), (81, .invokevirtual 264, 3), (84, .lload_n 1, 1), (85, .lsub, 1), (86, .lreturn, 1)]
theorem hX9_close : zdec (yC mX9_close) kX9_close = true := by decide +kernel
def kX9_goes_0 : List (Nat × Instr × Nat) := [(0, .aload_n 0, 1), (1, .iload_n 1, 1), (2, .iconst 1, 1), (3, .invokevirtual 211, 3), (6, .istore_n 3, 1), (7, .aload_n 0, 1), (8, .iload_n 1, 1), (9, .iconst 0, 1), (10, .invokevirtual 211, 3), (13, .aload_n 0, 1), (14, .iload_n 3, 1), (15, .iconst 4, 1), (16, .invokevirtual 214, 3), (19, .imul, 1), (20, .istore 4, 2), (22, .aload_n 0, 1), (23, .iload_n 1, 1), (24, .iconst 0, 1), (25, .invokevirtual 211, 3), (28, .aload_n 0, 1), (29, .iload_n 2, 1), (30, .iconst 3, 1), (31, .invokevirtual 214, 3), (34, .imul, 1), (35, .istore 5, 2), (37, .aload_n 0, 1), (38, .iload_n 1, 1), (39, .iconst 1, 1), (40, .iload_n 2, 1), (41, .i2l, 1), (42, .invokevirtual 193, 3), (45, .aload_n 0, 1), (46, .iload_n 3, 1), (47, .iconst 2, 1), (48, .iload 4, 2), (50, .i2l, 1), (51, .invokevirtual 329, 3), (54, .aload_n 0, 1), (55, .iload_n 2, 1), (56, .iconst 2, 1), (57, .iload 5, 2), (59, .i2l, 1), (60, .invokevirtual 329, 3), (63, .aload_n 0, 1), (64, .getfield 7, 3), (67, .iconst 5, 1), (68, .laload, 1), (69, .ldc2_w 340, 3), (72, .lcmp, 1), (73, .ifCond .ne 48, 3), (76, .sipush 1078, 3), (79, .istore 6, 2), (81, .iload 6, 2), (83, .sipush 1373, 3), (86, .if_icmp .ge 25, 3), (89, .aload_n 0, 1), (90, .getfield 7, 3), (93, .iload 6, 2), (95, .aload_n 0, 1), (96, .getfield 7, 3)]
theorem hX9_goes_0 : zdec (yC mX9_goes) kX9_goes_0 = true := by decide +kernel
def kX9_goes_1 : List (Nat × Instr × Nat) := [(99, .iload 6, 2), (101, .iconst 5, 1), (102, .iadd, 1), (103, .laload, 1), (104, .lastore, 1), (105, .iinc 6 1, 3), (108, .goto (-27), 3), (111, .aload_n 0, 1), (112, .getfield 7, 3), (115, .iconst 5, 1), (116, .dup2, 1), (117, .laload, 1), (118, .lconst 1, 1), (119, .lsub, 1), (120, .lastore, 1), (121, .aload_n 0, 1), (122, .sipush 1078, 3), (125, .iconst 5, 1), (126, .aload_n 0, 1), (127, .iconst 5, 1), (128, .invokevirtual 87, 3), (131, .imul, 1), (132, .iadd, 1), (133, .iload_n 1, 1), (134, .iload_n 3, 1), (135, .iload_n 2, 1), (136, .iload 4, 2), (138, .iload 5, 2), (140, .invokevirtual 63, 3), (143, .aload_n 0, 1), (144, .getfield 7, 3), (147, .iconst 5, 1), (148, .dup2, 1), (149, .laload, 1), (150, .lconst 1, 1), (151, .ladd, 1), (152, .lastore, 1), (153, .iload 4, 2), (155, .iload 5, 2), (157, .iadd, 1), (158, .ireturn, 1)]
theorem hX9_goes_1 : zdec (yC mX9_goes) kX9_goes_1 = true := by decide +kernel
def kX9_move : List (Nat × Instr × Nat) := [(0, .aload_n 0, 1), (1, .aload_n 0, 1), (2, .iload_n 1, 1), (3, .invokevirtual 254, 3), (6, .ifCond .eq 15, 3), (9, .aload_n 0, 1), (10, .iload_n 2, 1), (11, .invokevirtual 245, 3), (14, .ifCond .eq 7, 3), (17, .iconst 0, 1), (18, .goto 4, 3), (21, .iconst 1, 1), (22, .putfield 69, 3), (25, .aload_n 0, 1), (26, .getfield 69, 3), (29, .ifCond .le 5, 3), (32, .iconst 0, 1), (33, .ireturn, 1), (34, .aload_n 0, 1), (35, .iload_n 1, 1), (36, .invokevirtual 233, 3), (39, .ifCond .eq 8, 3), (42, .iconst 3, 1), (43, .invokestatic 326, 3), (46, .ireturn, 1), (47, .aload_n 0, 1), (48, .iload_n 1, 1), (49, .iconst 1, 1), (50, .invokevirtual 211, 3), (53, .iload_n 2, 1), (54, .if_icmp .ne 8, 3), (57, .iconst 4, 1), (58, .invokestatic 326, 3), (61, .ireturn, 1), (62, .aload_n 0, 1), (63, .iload_n 2, 1), (64, .invokevirtual 188, 3), (67, .aload_n 0, 1), (68, .iload_n 1, 1), (69, .iconst 0, 1), (70, .invokevirtual 211, 3), (73, .if_icmp .ge 8, 3), (76, .iconst 5, 1), (77, .invokestatic 326, 3), (80, .ireturn, 1), (81, .aload_n 0, 1), (82, .aload_n 0, 1), (83, .getfield 7, 3), (86, .invokevirtual 83, 3), (89, .aload_n 0, 1), (90, .iload_n 1, 1), (91, .iload_n 2, 1), (92, .invokevirtual 342, 3), (95, .ireturn, 1)]
theorem hX9_move : zdec (yC mX9_move) kX9_move = true := by decide +kernel
def kX9_unmove_0 : List (Nat × Instr × Nat) := [(0, .aload_n 0, 1), (1, .iconst 0, 1), (2, .putfield 69, 3), (5, .aload_n 0, 1), (6, .getfield 7, 3), (9, .iconst 5, 1), (10, .laload, 1), (11, .lconst 0, 1), (12, .lcmp, 1), (13, .ifCond .ne 9, 3), (16, .bipush 6, 2), (18, .invokestatic 326, 3), (21, .ireturn, 1), (22, .sipush 1078, 3), (25, .iconst 5, 1), (26, .aload_n 0, 1), (27, .iconst 5, 1), (28, .invokevirtual 87, 3), (31, .iconst 1, 1), (32, .isub, 1), (33, .imul, 1), (34, .iadd, 1), (35, .istore_n 1, 1), (36, .aload_n 0, 1), (37, .iload_n 1, 1), (38, .invokevirtual 87, 3), (41, .istore_n 2, 1), (42, .aload_n 0, 1), (43, .iload_n 1, 1), (44, .iconst 1, 1), (45, .iadd, 1), (46, .invokevirtual 87, 3), (49, .istore_n 3, 1), (50, .aload_n 0, 1), (51, .iload_n 3, 1), (52, .invokevirtual 188, 3), (55, .aload_n 0, 1), (56, .iload_n 2, 1), (57, .iconst 0, 1), (58, .invokevirtual 211, 3), (61, .if_icmp .ge 8, 3), (64, .iconst 5, 1), (65, .invokestatic 326, 3), (68, .ireturn, 1), (69, .aload_n 0, 1), (70, .aload_n 0, 1), (71, .getfield 7, 3), (74, .invokevirtual 83, 3), (77, .aload_n 0, 1), (78, .iload_n 2, 1), (79, .iconst 1, 1), (80, .iload_n 3, 1), (81, .i2l, 1), (82, .invokevirtual 193, 3), (85, .aload_n 0, 1), (86, .iload_n 3, 1), (87, .iconst 2, 1), (88, .aload_n 0, 1), (89, .getfield 7, 3), (92, .iload_n 1, 1)]
theorem hX9_unmove_0 : zdec (yC mX9_unmove) kX9_unmove_0 = true := by decide +kernel
def kX9_unmove_1 : List (Nat × Instr × Nat) := [(93, .iconst 3, 1), (94, .iadd, 1), (95, .laload, 1), (96, .lneg, 1), (97, .invokevirtual 329, 3), (100, .aload_n 0, 1), (101, .aload_n 0, 1), (102, .iload_n 1, 1), (103, .iconst 2, 1), (104, .iadd, 1), (105, .invokevirtual 87, 3), (108, .iconst 2, 1), (109, .aload_n 0, 1), (110, .getfield 7, 3), (113, .iload_n 1, 1), (114, .iconst 4, 1), (115, .iadd, 1), (116, .laload, 1), (117, .lneg, 1), (118, .invokevirtual 329, 3), (121, .aload_n 0, 1), (122, .getfield 7, 3), (125, .iconst 5, 1), (126, .dup2, 1), (127, .laload, 1), (128, .lconst 1, 1), (129, .lsub, 1), (130, .lastore, 1), (131, .iload_n 2, 1), (132, .ireturn, 1)]
theorem hX9_unmove_1 : zdec (yC mX9_unmove) kX9_unmove_1 = true := by decide +kernel
def kX9_pin : List (Nat × Instr × Nat) := [(0, .aload_n 0, 1), (1, .aload_n 0, 1), (2, .iload_n 1, 1), (3, .invokevirtual 254, 3), (6, .ifCond .ne 7, 3), (9, .iconst 1, 1), (10, .goto 19, 3), (13, .iload_n 2, 1), (14, .iconst 0, 1), (15, .sipush 9999, 3), (18, .invokestatic 79, 3), (21, .ifCond .eq 7, 3), (24, .iconst 0, 1), (25, .goto 4, 3), (28, .iconst 2, 1), (29, .putfield 69, 3), (32, .aload_n 0, 1), (33, .getfield 69, 3), (36, .ifCond .le 5, 3), (39, .iconst 0, 1), (40, .ireturn, 1), (41, .aload_n 0, 1), (42, .aload_n 0, 1), (43, .getfield 7, 3), (46, .invokevirtual 83, 3), (49, .aload_n 0, 1), (50, .iload_n 1, 1), (51, .iconst 3, 1), (52, .invokevirtual 211, 3), (55, .istore_n 3, 1), (56, .aload_n 0, 1), (57, .iload_n 1, 1), (58, .iconst 3, 1), (59, .iload_n 2, 1), (60, .i2l, 1), (61, .invokevirtual 193, 3), (64, .iload_n 3, 1), (65, .ireturn, 1)]
theorem hX9_pin : zdec (yC mX9_pin) kX9_pin = true := by decide +kernel
def kX9_act_0 : List (Nat × Instr × Nat) := [(0, .aload_n 0, 1), (1, .iload_n 1, 1), (2, .invokestatic 320, 3), (5, .ifCond .eq 7, 3), (8, .iconst 0, 1), (9, .goto 4, 3), (12, .iconst 1, 1), (13, .putfield 69, 3), (16, .aload_n 0, 1), (17, .getfield 69, 3), (20, .ifCond .le 5, 3), (23, .iconst 0, 1), (24, .ireturn, 1), (25, .aload_n 0, 1), (26, .iload_n 1, 1), (27, .iconst (-1), 1), (28, .iconst 0, 1), (29, .invokevirtual 323, 3), (32, .aload_n 0, 1), (33, .aload_n 0, 1), (34, .getfield 7, 3), (37, .invokevirtual 83, 3), (40, .iconst 0, 1), (41, .istore_n 2, 1), (42, .iconst 0, 1), (43, .istore_n 3, 1), (44, .iload_n 3, 1), (45, .aload_n 0, 1), (46, .getfield 300, 3), (49, .if_icmp .ge 77, 3), (52, .aload_n 0, 1), (53, .aload_n 0, 1), (54, .getfield 37, 3), (57, .iload_n 3, 1), (58, .iaload, 1), (59, .iconst 1, 1), (60, .invokevirtual 211, 3), (63, .istore 4, 2), (65, .aload_n 0, 1), (66, .aload_n 0, 1), (67, .aload_n 0, 1), (68, .getfield 37, 3), (71, .iload_n 3, 1), (72, .iaload, 1), (73, .aload_n 0, 1), (74, .getfield 43, 3), (77, .iload_n 3, 1), (78, .iaload, 1), (79, .invokevirtual 342, 3), (82, .putfield 345, 3), (85, .iinc 2 1, 3), (88, .aload_n 0, 1), (89, .getfield 40, 3), (92, .iload_n 3, 1), (93, .iaload, 1), (94, .iconst (-1), 1), (95, .if_icmp .ne 6, 3), (98, .goto 22, 3), (101, .aload_n 0, 1), (102, .aload_n 0, 1)]
theorem hX9_act_0 : zdec (yC mX9_act) kX9_act_0 = true := by decide +kernel
def kX9_act_1 : List (Nat × Instr × Nat) := [(103, .aload_n 0, 1), (104, .getfield 40, 3), (107, .iload_n 3, 1), (108, .iaload, 1), (109, .iload 4, 2), (111, .invokevirtual 342, 3), (114, .putfield 345, 3), (117, .iinc 2 1, 3), (120, .iinc 3 1, 3), (123, .goto (-79), 3), (126, .iload_n 2, 1), (127, .ireturn, 1)]
theorem hX9_act_1 : zdec (yC mX9_act) kX9_act_1 = true := by decide +kernel
def kX9_learn : List (Nat × Instr × Nat) := [(0, .aload_n 0, 1), (1, .iload_n 1, 1), (2, .iconst 2, 1), (3, .bipush 12, 2), (5, .invokestatic 79, 3), (8, .ifCond .eq 17, 3), (11, .iload_n 2, 1), (12, .iconst 1, 1), (13, .bipush 8, 2), (15, .invokestatic 79, 3), (18, .ifCond .eq 7, 3), (21, .iconst 0, 1), (22, .goto 4, 3), (25, .iconst 1, 1), (26, .putfield 69, 3), (29, .aload_n 0, 1), (30, .getfield 69, 3), (33, .ifCond .le 5, 3), (36, .iconst 0, 1), (37, .ireturn, 1), (38, .aload_n 0, 1), (39, .aload_n 0, 1), (40, .getfield 7, 3), (43, .invokevirtual 83, 3), (46, .aload_n 0, 1), (47, .iconst 0, 1), (48, .invokevirtual 87, 3), (51, .istore_n 3, 1), (52, .aload_n 0, 1), (53, .getfield 7, 3), (56, .iconst 0, 1), (57, .iload_n 1, 1), (58, .i2l, 1), (59, .lastore, 1), (60, .aload_n 0, 1), (61, .getfield 7, 3), (64, .iconst 1, 1), (65, .iload_n 2, 1), (66, .i2l, 1), (67, .lastore, 1), (68, .iconst 0, 1), (69, .istore 4, 2), (71, .iload 4, 2), (73, .aload_n 0, 1), (74, .invokevirtual 180, 3), (77, .if_icmp .ge 15, 3), (80, .aload_n 0, 1), (81, .iload 4, 2), (83, .invokevirtual 348, 3), (86, .iinc 4 1, 3), (89, .goto (-18), 3), (92, .iload_n 3, 1), (93, .ireturn, 1)]
theorem hX9_learn : zdec (yC mX9_learn) kX9_learn = true := by decide +kernel
def kX9_setTier_0 : List (Nat × Instr × Nat) := [(0, .iload_n 2, 1), (1, .iconst 0, 1), (2, .iconst 4, 1), (3, .invokestatic 79, 3), (6, .ifCond .eq 34, 3), (9, .iload_n 3, 1), (10, .iload_n 2, 1), (11, .ifCond .ne 7, 3), (14, .iconst 1, 1), (15, .goto 4, 3), (18, .iconst 0, 1), (19, .iload_n 2, 1), (20, .ifCond .ne 8, 3), (23, .ldc 173, 2), (25, .goto 5, 3), (28, .bipush 99, 2), (30, .invokestatic 79, 3), (33, .ifCond .eq 7, 3), (36, .iconst 1, 1), (37, .goto 4, 3), (40, .iconst 0, 1), (41, .istore 4, 2), (43, .aload_n 0, 1), (44, .aload_n 0, 1), (45, .iload_n 1, 1), (46, .invokevirtual 245, 3), (49, .ifCond .ne 7, 3), (52, .iconst 1, 1), (53, .goto 13, 3), (56, .iload 4, 2), (58, .ifCond .eq 7, 3), (61, .iconst 0, 1), (62, .goto 4, 3), (65, .iconst 2, 1), (66, .putfield 69, 3), (69, .aload_n 0, 1), (70, .getfield 69, 3), (73, .ifCond .le 5, 3), (76, .iconst 0, 1), (77, .ireturn, 1), (78, .iload_n 2, 1), (79, .ifCond .ne 17, 3), (82, .aload_n 0, 1), (83, .iload_n 1, 1), (84, .invokevirtual 217, 3), (87, .iload_n 3, 1), (88, .if_icmp .le 8, 3), (91, .iconst 5, 1), (92, .invokestatic 326, 3), (95, .ireturn, 1), (96, .aload_n 0, 1), (97, .aload_n 0, 1), (98, .getfield 7, 3), (101, .invokevirtual 83, 3), (104, .aload_n 0, 1), (105, .iload_n 1, 1), (106, .iload_n 2, 1), (107, .invokevirtual 214, 3), (110, .istore 5, 2), (112, .aload_n 0, 1)]
theorem hX9_setTier_0 : zdec (yC mX9_setTier) kX9_setTier_0 = true := by decide +kernel
def kX9_setTier_1 : List (Nat × Instr × Nat) := [(113, .getfield 7, 3), (116, .bipush 6, 2), (118, .bipush 13, 2), (120, .iload_n 1, 1), (121, .imul, 1), (122, .iadd, 1), (123, .iload_n 2, 1), (124, .iadd, 1), (125, .iload_n 3, 1), (126, .i2l, 1), (127, .lastore, 1), (128, .iload 5, 2), (130, .ireturn, 1)]
theorem hX9_setTier_1 : zdec (yC mX9_setTier) kX9_setTier_1 = true := by decide +kernel
def kX9_says : List (Nat × Instr × Nat) := [(0, .aload_n 0, 1), (1, .getfield 55, 3), (4, .aload_n 0, 1), (5, .getfield 351, 3), (8, .lload_n 1, 1), (9, .l2i, 1), (10, .iastore, 1), (11, .aload_n 0, 1), (12, .dup, 1), (13, .getfield 351, 3), (16, .iconst 1, 1), (17, .iadd, 1), (18, .putfield 351, 3), (21, .return_, 1)]
theorem hX9_says : zdec (yC mX9_says) kX9_says = true := by decide +kernel
def kX9_saysName : List (Nat × Instr × Nat) := [(0, .iconst 0, 1), (1, .istore_n 2, 1), (2, .iload_n 2, 1), (3, .bipush 8, 2), (5, .if_icmp .ge 34, 3), (8, .aload_n 0, 1), (9, .getfield 7, 3), (12, .iload_n 1, 1), (13, .iload_n 2, 1), (14, .iadd, 1), (15, .laload, 1), (16, .lconst 0, 1), (17, .lcmp, 1), (18, .ifCond .le 21, 3), (21, .aload_n 0, 1), (22, .aload_n 0, 1), (23, .getfield 7, 3), (26, .iload_n 1, 1), (27, .iload_n 2, 1), (28, .iadd, 1), (29, .laload, 1), (30, .invokevirtual 354, 3), (33, .iinc 2 1, 3), (36, .goto (-34), 3), (39, .return_, 1)]
theorem hX9_saysName : zdec (yC mX9_saysName) kX9_saysName = true := by decide +kernel
def kX9_writeTiers_0 : List (Nat × Instr × Nat) := [(0, .aload_n 0, 1), (1, .iconst 0, 1), (2, .putfield 69, 3), (5, .aload_n 0, 1), (6, .iconst 0, 1), (7, .putfield 351, 3), (10, .iconst 0, 1), (11, .istore_n 1, 1), (12, .iload_n 1, 1), (13, .aload_n 0, 1), (14, .invokevirtual 154, 3), (17, .if_icmp .ge 116, 3), (20, .iload_n 1, 1), (21, .ifCond .le 10, 3), (24, .aload_n 0, 1), (25, .ldc2_w 358, 3), (28, .invokevirtual 354, 3), (31, .aload_n 0, 1), (32, .bipush 6, 2), (34, .bipush 13, 2), (36, .iload_n 1, 1), (37, .imul, 1), (38, .iadd, 1), (39, .iconst 5, 1), (40, .iadd, 1), (41, .invokevirtual 360, 3), (44, .aload_n 0, 1), (45, .ldc2_w 363, 3), (48, .invokevirtual 354, 3), (51, .iconst 0, 1), (52, .istore_n 2, 1), (53, .iconst 0, 1), (54, .istore_n 3, 1), (55, .iload_n 3, 1), (56, .aload_n 0, 1), (57, .invokevirtual 180, 3), (60, .if_icmp .ge 67, 3), (63, .aload_n 0, 1), (64, .iload_n 3, 1), (65, .iconst 1, 1), (66, .invokevirtual 211, 3), (69, .iload_n 1, 1), (70, .if_icmp .eq 6, 3), (73, .goto 48, 3), (76, .iload_n 2, 1), (77, .ifCond .le 10, 3), (80, .aload_n 0, 1), (81, .ldc2_w 365, 3), (84, .invokevirtual 354, 3), (87, .aload_n 0, 1), (88, .iload_n 3, 1), (89, .bipush 6, 2), (91, .invokevirtual 211, 3), (94, .ifCond .ne 10, 3), (97, .aload_n 0, 1), (98, .ldc2_w 367, 3), (101, .invokevirtual 354, 3), (104, .aload_n 0, 1), (105, .bipush 58, 2), (107, .bipush 51, 2)]
theorem hX9_writeTiers_0 : zdec (yC mX9_writeTiers) kX9_writeTiers_0 = true := by decide +kernel
def kX9_writeTiers_1 : List (Nat × Instr × Nat) := [(109, .iload_n 3, 1), (110, .imul, 1), (111, .iadd, 1), (112, .bipush 6, 2), (114, .iadd, 1), (115, .invokevirtual 360, 3), (118, .iinc 2 1, 3), (121, .iinc 3 1, 3), (124, .goto (-69), 3), (127, .iinc 1 1, 3), (130, .goto (-118), 3), (133, .aload_n 0, 1), (134, .getfield 351, 3), (137, .ireturn, 1)]
theorem hX9_writeTiers_1 : zdec (yC mX9_writeTiers) kX9_writeTiers_1 = true := by decide +kernel
def kX9_writtenByte : List (Nat × Instr × Nat) := [(0, .aload_n 0, 1), (1, .iload_n 1, 1), (2, .iconst 0, 1), (3, .aload_n 0, 1), (4, .getfield 351, 3), (7, .iconst 1, 1), (8, .isub, 1), (9, .invokestatic 79, 3), (12, .ifCond .eq 7, 3), (15, .iconst 0, 1), (16, .goto 4, 3), (19, .iconst 1, 1), (20, .putfield 69, 3), (23, .aload_n 0, 1), (24, .getfield 69, 3), (27, .ifCond .le 7, 3), (30, .iconst 0, 1), (31, .goto 9, 3), (34, .aload_n 0, 1), (35, .getfield 55, 3), (38, .iload_n 1, 1), (39, .iaload, 1), (40, .ireturn, 1)]
theorem hX9_writtenByte : zdec (yC mX9_writtenByte) kX9_writtenByte = true := by decide +kernel
end
section
/-! the law and the JDK's own: instructions decoded -/
def kJ9_floorMod_7cf53 : List (Nat × Instr × Nat) := [(0, .iload_n 0, 1), (1, .iload_n 1, 1), (2, .irem, 1), (3, .istore_n 2, 1), (4, .iload_n 0, 1), (5, .iload_n 1, 1), (6, .ixor, 1), (7, .ifCond .ge 11, 3), (10, .iload_n 2, 1), (11, .ifCond .eq 7, 3), (14, .iload_n 2, 1), (15, .iload_n 1, 1), (16, .iadd, 1), (17, .ireturn, 1), (18, .iload_n 2, 1), (19, .ireturn, 1)]
theorem hJ9_floorMod_7cf53 : zdec (yC mJ9_floorMod_7cf53) kJ9_floorMod_7cf53 = true := by decide +kernel
def kJ9_abs_0f7a4 : List (Nat × Instr × Nat) := [(0, .iload_n 0, 1), (1, .ifCond .ge 8, 3), (4, .iload_n 0, 1), (5, .ineg, 1), (6, .goto 4, 3), (9, .iload_n 0, 1), (10, .ireturn, 1)]
theorem hJ9_abs_0f7a4 : zdec (yC mJ9_abs_0f7a4) kJ9_abs_0f7a4 = true := by decide +kernel
def kJ9_max_7cf53 : List (Nat × Instr × Nat) := [(0, .iload_n 0, 1), (1, .iload_n 1, 1), (2, .if_icmp .lt 7, 3), (5, .iload_n 0, 1), (6, .goto 4, 3), (9, .iload_n 1, 1), (10, .ireturn, 1)]
theorem hJ9_max_7cf53 : zdec (yC mJ9_max_7cf53) kJ9_max_7cf53 = true := by decide +kernel
def kJ9_min_7cf53 : List (Nat × Instr × Nat) := [(0, .iload_n 0, 1), (1, .iload_n 1, 1), (2, .if_icmp .gt 7, 3), (5, .iload_n 0, 1), (6, .goto 4, 3), (9, .iload_n 1, 1), (10, .ireturn, 1)]
theorem hJ9_min_7cf53 : zdec (yC mJ9_min_7cf53) kJ9_min_7cf53 = true := by decide +kernel
def kJ0_length_8abf5 : List (Nat × Instr × Nat) := [(0, .aload_n 0, 1), (1, .getfield 9, 3), (4, .arraylength, 1), (5, .aload_n 0, 1), (6, .invokevirtual 335, 3), (9, .ishr, 1), (10, .ireturn, 1)]
theorem hJ0_length_8abf5 : zdec (yC mJ0_length_8abf5) kJ0_length_8abf5 = true := by decide +kernel
def kJ0_charAt_5068e : List (Nat × Instr × Nat) := [(0, .aload_n 0, 1), (1, .invokevirtual 492, 3), (4, .ifCond .eq 12, 3), (7, .aload_n 0, 1), (8, .getfield 9, 3), (11, .iload_n 1, 1), (12, .invokestatic 495, 3), (15, .ireturn, 1), (16, .aload_n 0, 1), (17, .getfield 9, 3), (20, .iload_n 1, 1), (21, .invokestatic 498, 3), (24, .ireturn, 1)]
theorem hJ0_charAt_5068e : zdec (yC mJ0_charAt_5068e) kJ0_charAt_5068e = true := by decide +kernel
def kJ0_coder_7d493 : List (Nat × Instr × Nat) := [(0, .getstatic 38, 3), (3, .ifCond .eq 10, 3), (6, .aload_n 0, 1), (7, .getfield 15, 3), (10, .goto 4, 3), (13, .iconst 1, 1), (14, .ireturn, 1)]
theorem hJ0_coder_7d493 : zdec (yC mJ0_coder_7d493) kJ0_coder_7d493 = true := by decide +kernel
def kJ0_isLatin1_aae02 : List (Nat × Instr × Nat) := [(0, .getstatic 38, 3), (3, .ifCond .eq 14, 3), (6, .aload_n 0, 1), (7, .getfield 15, 3), (10, .ifCond .ne 7, 3), (13, .iconst 1, 1), (14, .goto 4, 3), (17, .iconst 0, 1), (18, .ireturn, 1)]
theorem hJ0_isLatin1_aae02 : zdec (yC mJ0_isLatin1_aae02) kJ0_isLatin1_aae02 = true := by decide +kernel
def kJ0_checkIndex_df160 : List (Nat × Instr × Nat) := [(0, .iload_n 0, 1), (1, .iload_n 1, 1), (2, .getstatic 1053, 3), (5, .invokestatic 1059, 3), (8, .pop, 1), (9, .return_, 1)]
theorem hJ0_checkIndex_df160 : zdec (yC mJ0_checkIndex_df160) kJ0_checkIndex_df160 = true := by decide +kernel
def kJ1_charAt_3b067 : List (Nat × Instr × Nat) := [(0, .iload_n 1, 1), (1, .aload_n 0, 1), (2, .arraylength, 1), (3, .invokestatic 9, 3), (6, .aload_n 0, 1), (7, .iload_n 1, 1), (8, .baload, 1), (9, .sipush 255, 3), (12, .iand, 1), (13, .i2c, 1), (14, .ireturn, 1)]
theorem hJ1_charAt_3b067 : zdec (yC mJ1_charAt_3b067) kJ1_charAt_3b067 = true := by decide +kernel
def kJ2_getChar_3b067 : List (Nat × Instr × Nat) := [(0, .getstatic 44, 3), (3, .ifCond .ne 25, 3), (6, .iload_n 1, 1), (7, .ifCond .lt 11, 3), (10, .iload_n 1, 1), (11, .aload_n 0, 1), (12, .invokestatic 48, 3), (15, .if_icmp .lt 13, 3), (18, .new 52, 3), (21, .dup, 1), (22, .ldc 54, 2), (24, .invokespecial 56, 3), (27, .athrow, 1), (28, .iload_n 1, 1), (29, .iconst 1, 1), (30, .ishl, 1), (31, .istore_n 1, 1), (32, .aload_n 0, 1), (33, .iload_n 1, 1), (34, .iinc 1 1, 3), (37, .baload, 1), (38, .sipush 255, 3), (41, .iand, 1), (42, .getstatic 59, 3), (45, .ishl, 1), (46, .aload_n 0, 1), (47, .iload_n 1, 1), (48, .baload, 1), (49, .sipush 255, 3), (52, .iand, 1), (53, .getstatic 63, 3), (56, .ishl, 1), (57, .ior, 1), (58, .i2c, 1), (59, .ireturn, 1)]
theorem hJ2_getChar_3b067 : zdec (yC mJ2_getChar_3b067) kJ2_getChar_3b067 = true := by decide +kernel
def kJ2_length_9d52b : List (Nat × Instr × Nat) := [(0, .aload_n 0, 1), (1, .arraylength, 1), (2, .iconst 1, 1), (3, .ishr, 1), (4, .ireturn, 1)]
theorem hJ2_length_9d52b : zdec (yC mJ2_length_9d52b) kJ2_length_9d52b = true := by decide +kernel
def kJ2_charAt_3b067 : List (Nat × Instr × Nat) := [(0, .iload_n 1, 1), (1, .aload_n 0, 1), (2, .invokestatic 67, 3), (5, .aload_n 0, 1), (6, .iload_n 1, 1), (7, .invokestatic 71, 3), (10, .ireturn, 1)]
theorem hJ2_charAt_3b067 : zdec (yC mJ2_charAt_3b067) kJ2_charAt_3b067 = true := by decide +kernel
def kJ2_checkIndex_2214a : List (Nat × Instr × Nat) := [(0, .iload_n 0, 1), (1, .aload_n 1, 1), (2, .invokestatic 48, 3), (5, .invokestatic 414, 3), (8, .return_, 1)]
theorem hJ2_checkIndex_2214a : zdec (yC mJ2_checkIndex_2214a) kJ2_checkIndex_2214a = true := by decide +kernel
def kJ3_checkIndex_8e157 : List (Nat × Instr × Nat) := [(0, .iload_n 0, 1), (1, .ifCond .lt 8, 3), (4, .iload_n 0, 1), (5, .iload_n 1, 1), (6, .if_icmp .lt 10, 3), (9, .aload_n 2, 1), (10, .iload_n 0, 1), (11, .iload_n 1, 1), (12, .invokestatic 95, 3), (15, .athrow, 1), (16, .iload_n 0, 1), (17, .ireturn, 1)]
theorem hJ3_checkIndex_8e157 : zdec (yC mJ3_checkIndex_8e157) kJ3_checkIndex_8e157 = true := by decide +kernel
def kL_append : List (Nat × Instr × Nat) := [(0, .aload 6, 2), (2, .iconst 0, 1), (3, .aload_n 0, 1), (4, .iload_n 1, 1), (5, .iload_n 2, 1), (6, .iload_n 3, 1), (7, .iload 4, 2), (9, .iload 5, 2), (11, .invokevirtual 7, 3), (14, .i2l, 1), (15, .lastore, 1), (16, .goto 7, 3), (19, .astore 7, 2), (21, .iconst 1, 1), (22, .ireturn, 1), (23, .iconst 0, 1), (24, .ireturn, 1)]
theorem hL_append : zdec (yC mL_append) kL_append = true := by decide +kernel
def kL_count : List (Nat × Instr × Nat) := [(0, .aload_n 2, 1), (1, .iconst 0, 1), (2, .aload_n 0, 1), (3, .iload_n 1, 1), (4, .invokevirtual 15, 3), (7, .i2l, 1), (8, .lastore, 1), (9, .goto 6, 3), (12, .astore_n 3, 1), (13, .iconst 1, 1), (14, .ireturn, 1), (15, .iconst 0, 1), (16, .ireturn, 1)]
theorem hL_count : zdec (yC mL_count) kL_count = true := by decide +kernel
def kL_tier : List (Nat × Instr × Nat) := [(0, .aload_n 3, 1), (1, .iconst 0, 1), (2, .aload_n 0, 1), (3, .iload_n 1, 1), (4, .iload_n 2, 1), (5, .invokevirtual 21, 3), (8, .i2l, 1), (9, .lastore, 1), (10, .goto 11, 3), (13, .astore 4, 2), (15, .iconst 1, 1), (16, .ireturn, 1), (17, .astore 4, 2), (19, .iconst 2, 1), (20, .ireturn, 1), (21, .iconst 0, 1), (22, .ireturn, 1)]
theorem hL_tier : zdec (yC mL_tier) kL_tier = true := by decide +kernel
def kL_file : List (Nat × Instr × Nat) := [(0, .aload_n 3, 1), (1, .iconst 0, 1), (2, .aload_n 0, 1), (3, .iload_n 1, 1), (4, .iload_n 2, 1), (5, .invokevirtual 27, 3), (8, .i2l, 1), (9, .lastore, 1), (10, .goto 11, 3), (13, .astore 4, 2), (15, .iconst 1, 1), (16, .ireturn, 1), (17, .astore 4, 2), (19, .iconst 2, 1), (20, .ireturn, 1), (21, .iconst 0, 1), (22, .ireturn, 1)]
theorem hL_file : zdec (yC mL_file) kL_file = true := by decide +kernel
def kL_season : List (Nat × Instr × Nat) := [(0, .aload_n 3, 1), (1, .iconst 0, 1), (2, .aload_n 0, 1), (3, .iload_n 1, 1), (4, .iload_n 2, 1), (5, .invokevirtual 30, 3), (8, .i2l, 1), (9, .lastore, 1), (10, .goto 7, 3), (13, .astore 4, 2), (15, .iconst 1, 1), (16, .ireturn, 1), (17, .iconst 0, 1), (18, .ireturn, 1)]
theorem hL_season : zdec (yC mL_season) kL_season = true := by decide +kernel
def kL_kept : List (Nat × Instr × Nat) := [(0, .aload_n 3, 1), (1, .iconst 0, 1), (2, .aload_n 0, 1), (3, .iload_n 1, 1), (4, .iload_n 2, 1), (5, .invokevirtual 33, 3), (8, .i2l, 1), (9, .lastore, 1), (10, .goto 7, 3), (13, .astore 4, 2), (15, .iconst 1, 1), (16, .ireturn, 1), (17, .iconst 0, 1), (18, .ireturn, 1)]
theorem hL_kept : zdec (yC mL_kept) kL_kept = true := by decide +kernel
def kL_forecast : List (Nat × Instr × Nat) := [(0, .aload_n 3, 1), (1, .iconst 0, 1), (2, .aload_n 0, 1), (3, .iload_n 1, 1), (4, .iload_n 2, 1), (5, .invokevirtual 36, 3), (8, .i2l, 1), (9, .lastore, 1), (10, .goto 11, 3), (13, .astore 4, 2), (15, .iconst 1, 1), (16, .ireturn, 1), (17, .astore 4, 2), (19, .iconst 2, 1), (20, .ireturn, 1), (21, .iconst 0, 1), (22, .ireturn, 1)]
theorem hL_forecast : zdec (yC mL_forecast) kL_forecast = true := by decide +kernel
def kL_off : List (Nat × Instr × Nat) := [(0, .aload_n 2, 1), (1, .iconst 0, 1), (2, .aload_n 0, 1), (3, .iload_n 1, 1), (4, .invokevirtual 39, 3), (7, .lastore, 1), (8, .goto 6, 3), (11, .astore_n 3, 1), (12, .iconst 1, 1), (13, .ireturn, 1), (14, .iconst 0, 1), (15, .ireturn, 1)]
theorem hL_off : zdec (yC mL_off) kL_off = true := by decide +kernel
def kL_cycleOf : List (Nat × Instr × Nat) := [(0, .aload_n 2, 1), (1, .iconst 0, 1), (2, .aload_n 0, 1), (3, .iload_n 1, 1), (4, .invokevirtual 43, 3), (7, .i2l, 1), (8, .lastore, 1), (9, .goto 6, 3), (12, .astore_n 3, 1), (13, .iconst 1, 1), (14, .ireturn, 1), (15, .iconst 0, 1), (16, .ireturn, 1)]
theorem hL_cycleOf : zdec (yC mL_cycleOf) kL_cycleOf = true := by decide +kernel
def kL_account : List (Nat × Instr × Nat) := [(0, .aload_n 3, 1), (1, .iconst 0, 1), (2, .aload_n 0, 1), (3, .iload_n 1, 1), (4, .iload_n 2, 1), (5, .invokevirtual 46, 3), (8, .lastore, 1), (9, .goto 11, 3), (12, .astore 4, 2), (14, .iconst 1, 1), (15, .ireturn, 1), (16, .astore 4, 2), (18, .iconst 2, 1), (19, .ireturn, 1), (20, .iconst 0, 1), (21, .ireturn, 1)]
theorem hL_account : zdec (yC mL_account) kL_account = true := by decide +kernel
def kL_cost : List (Nat × Instr × Nat) := [(0, .aload 4, 2), (2, .iconst 0, 1), (3, .aload_n 0, 1), (4, .iload_n 1, 1), (5, .iload_n 2, 1), (6, .iload_n 3, 1), (7, .invokevirtual 50, 3), (10, .lastore, 1), (11, .goto 11, 3), (14, .astore 5, 2), (16, .iconst 1, 1), (17, .ireturn, 1), (18, .astore 5, 2), (20, .iconst 2, 1), (21, .ireturn, 1), (22, .iconst 0, 1), (23, .ireturn, 1)]
theorem hL_cost : zdec (yC mL_cost) kL_cost = true := by decide +kernel
def kL_wish : List (Nat × Instr × Nat) := [(0, .aload_n 3, 1), (1, .iconst 0, 1), (2, .aload_n 0, 1), (3, .iload_n 1, 1), (4, .iload_n 2, 1), (5, .invokevirtual 54, 3), (8, .i2l, 1), (9, .lastore, 1), (10, .goto 11, 3), (13, .astore 4, 2), (15, .iconst 1, 1), (16, .ireturn, 1), (17, .astore 4, 2), (19, .iconst 2, 1), (20, .ireturn, 1), (21, .iconst 0, 1), (22, .ireturn, 1)]
theorem hL_wish : zdec (yC mL_wish) kL_wish = true := by decide +kernel
def kL_steps : List (Nat × Instr × Nat) := [(0, .aload_n 2, 1), (1, .iconst 0, 1), (2, .aload_n 0, 1), (3, .iload_n 1, 1), (4, .invokevirtual 57, 3), (7, .i2l, 1), (8, .lastore, 1), (9, .goto 6, 3), (12, .astore_n 3, 1), (13, .iconst 1, 1), (14, .ireturn, 1), (15, .iconst 0, 1), (16, .ireturn, 1)]
theorem hL_steps : zdec (yC mL_steps) kL_steps = true := by decide +kernel
def kL_step : List (Nat × Instr × Nat) := [(0, .aload 4, 2), (2, .iconst 0, 1), (3, .aload_n 0, 1), (4, .iload_n 1, 1), (5, .iload_n 2, 1), (6, .iload_n 3, 1), (7, .invokevirtual 60, 3), (10, .i2l, 1), (11, .lastore, 1), (12, .goto 11, 3), (15, .astore 5, 2), (17, .iconst 1, 1), (18, .ireturn, 1), (19, .astore 5, 2), (21, .iconst 2, 1), (22, .ireturn, 1), (23, .iconst 0, 1), (24, .ireturn, 1)]
theorem hL_step : zdec (yC mL_step) kL_step = true := by decide +kernel
def kL_saving : List (Nat × Instr × Nat) := [(0, .aload_n 2, 1), (1, .iconst 0, 1), (2, .aload_n 0, 1), (3, .iload_n 1, 1), (4, .invokevirtual 64, 3), (7, .lastore, 1), (8, .goto 6, 3), (11, .astore_n 3, 1), (12, .iconst 1, 1), (13, .ireturn, 1), (14, .iconst 0, 1), (15, .ireturn, 1)]
theorem hL_saving : zdec (yC mL_saving) kL_saving = true := by decide +kernel
def kL_withRoom : List (Nat × Instr × Nat) := [(0, .aload 4, 2), (2, .iconst 0, 1), (3, .aload_n 0, 1), (4, .iload_n 1, 1), (5, .iload_n 2, 1), (6, .iload_n 3, 1), (7, .invokevirtual 67, 3), (10, .lastore, 1), (11, .goto 11, 3), (14, .astore 5, 2), (16, .iconst 1, 1), (17, .ireturn, 1), (18, .astore 5, 2), (20, .iconst 2, 1), (21, .ireturn, 1), (22, .iconst 0, 1), (23, .ireturn, 1)]
theorem hL_withRoom : zdec (yC mL_withRoom) kL_withRoom = true := by decide +kernel
def kL_add : List (Nat × Instr × Nat) := [(0, .aload_n 3, 1), (1, .iconst 0, 1), (2, .aload_n 0, 1), (3, .iload_n 1, 1), (4, .iload_n 2, 1), (5, .invokevirtual 70, 3), (8, .i2l, 1), (9, .lastore, 1), (10, .goto 11, 3), (13, .astore 4, 2), (15, .iconst 1, 1), (16, .ireturn, 1), (17, .astore 4, 2), (19, .iconst 2, 1), (20, .ireturn, 1), (21, .iconst 0, 1), (22, .ireturn, 1)]
theorem hL_add : zdec (yC mL_add) kL_add = true := by decide +kernel
def kL_drop : List (Nat × Instr × Nat) := [(0, .aload_n 2, 1), (1, .iconst 0, 1), (2, .aload_n 0, 1), (3, .iload_n 1, 1), (4, .invokevirtual 73, 3), (7, .i2l, 1), (8, .lastore, 1), (9, .goto 6, 3), (12, .astore_n 3, 1), (13, .iconst 1, 1), (14, .ireturn, 1), (15, .iconst 0, 1), (16, .ireturn, 1)]
theorem hL_drop : zdec (yC mL_drop) kL_drop = true := by decide +kernel
def kL_use : List (Nat × Instr × Nat) := [(0, .aload_n 3, 1), (1, .iconst 0, 1), (2, .aload_n 0, 1), (3, .iload_n 1, 1), (4, .iload_n 2, 1), (5, .invokevirtual 76, 3), (8, .i2l, 1), (9, .lastore, 1), (10, .goto 11, 3), (13, .astore 4, 2), (15, .iconst 1, 1), (16, .ireturn, 1), (17, .astore 4, 2), (19, .iconst 2, 1), (20, .ireturn, 1), (21, .iconst 0, 1), (22, .ireturn, 1)]
theorem hL_use : zdec (yC mL_use) kL_use = true := by decide +kernel
def kL_move : List (Nat × Instr × Nat) := [(0, .aload_n 3, 1), (1, .iconst 0, 1), (2, .aload_n 0, 1), (3, .iload_n 1, 1), (4, .iload_n 2, 1), (5, .invokevirtual 79, 3), (8, .i2l, 1), (9, .lastore, 1), (10, .goto 7, 3), (13, .astore 4, 2), (15, .iconst 1, 1), (16, .ireturn, 1), (17, .iconst 0, 1), (18, .ireturn, 1)]
theorem hL_move : zdec (yC mL_move) kL_move = true := by decide +kernel
def kL_pin : List (Nat × Instr × Nat) := [(0, .aload_n 3, 1), (1, .iconst 0, 1), (2, .aload_n 0, 1), (3, .iload_n 1, 1), (4, .iload_n 2, 1), (5, .invokevirtual 82, 3), (8, .i2l, 1), (9, .lastore, 1), (10, .goto 11, 3), (13, .astore 4, 2), (15, .iconst 1, 1), (16, .ireturn, 1), (17, .astore 4, 2), (19, .iconst 2, 1), (20, .ireturn, 1), (21, .iconst 0, 1), (22, .ireturn, 1)]
theorem hL_pin : zdec (yC mL_pin) kL_pin = true := by decide +kernel
def kL_act : List (Nat × Instr × Nat) := [(0, .aload_n 2, 1), (1, .iconst 0, 1), (2, .aload_n 0, 1), (3, .iload_n 1, 1), (4, .invokevirtual 85, 3), (7, .i2l, 1), (8, .lastore, 1), (9, .goto 6, 3), (12, .astore_n 3, 1), (13, .iconst 1, 1), (14, .ireturn, 1), (15, .iconst 0, 1), (16, .ireturn, 1)]
theorem hL_act : zdec (yC mL_act) kL_act = true := by decide +kernel
def kL_learn : List (Nat × Instr × Nat) := [(0, .aload_n 3, 1), (1, .iconst 0, 1), (2, .aload_n 0, 1), (3, .iload_n 1, 1), (4, .iload_n 2, 1), (5, .invokevirtual 88, 3), (8, .i2l, 1), (9, .lastore, 1), (10, .goto 7, 3), (13, .astore 4, 2), (15, .iconst 1, 1), (16, .ireturn, 1), (17, .iconst 0, 1), (18, .ireturn, 1)]
theorem hL_learn : zdec (yC mL_learn) kL_learn = true := by decide +kernel
def kL_setTier : List (Nat × Instr × Nat) := [(0, .aload 4, 2), (2, .iconst 0, 1), (3, .aload_n 0, 1), (4, .iload_n 1, 1), (5, .iload_n 2, 1), (6, .iload_n 3, 1), (7, .invokevirtual 91, 3), (10, .i2l, 1), (11, .lastore, 1), (12, .goto 11, 3), (15, .astore 5, 2), (17, .iconst 1, 1), (18, .ireturn, 1), (19, .astore 5, 2), (21, .iconst 2, 1), (22, .ireturn, 1), (23, .iconst 0, 1), (24, .ireturn, 1)]
theorem hL_setTier : zdec (yC mL_setTier) kL_setTier = true := by decide +kernel
def kL_undo : List (Nat × Instr × Nat) := [(0, .aload_n 1, 1), (1, .iconst 0, 1), (2, .aload_n 0, 1), (3, .invokevirtual 94, 3), (6, .i2l, 1), (7, .lastore, 1), (8, .goto 6, 3), (11, .astore_n 2, 1), (12, .iconst 1, 1), (13, .ireturn, 1), (14, .iconst 0, 1), (15, .ireturn, 1)]
theorem hL_undo : zdec (yC mL_undo) kL_undo = true := by decide +kernel
def kL_save : List (Nat × Instr × Nat) := [(0, .aload_n 0, 1), (1, .iload_n 1, 1), (2, .invokevirtual 98, 3), (5, .goto 6, 3), (8, .astore_n 2, 1), (9, .iconst 1, 1), (10, .ireturn, 1), (11, .iconst 0, 1), (12, .ireturn, 1)]
theorem hL_save : zdec (yC mL_save) kL_save = true := by decide +kernel
def kL_restore : List (Nat × Instr × Nat) := [(0, .aload_n 2, 1), (1, .iconst 0, 1), (2, .aload_n 0, 1), (3, .iload_n 1, 1), (4, .invokevirtual 102, 3), (7, .i2l, 1), (8, .lastore, 1), (9, .goto 9, 3), (12, .astore_n 3, 1), (13, .iconst 1, 1), (14, .ireturn, 1), (15, .astore_n 3, 1), (16, .iconst 2, 1), (17, .ireturn, 1), (18, .iconst 0, 1), (19, .ireturn, 1)]
theorem hL_restore : zdec (yC mL_restore) kL_restore = true := by decide +kernel
def kL_writtenByte : List (Nat × Instr × Nat) := [(0, .aload_n 2, 1), (1, .iconst 0, 1), (2, .aload_n 0, 1), (3, .iload_n 1, 1), (4, .invokevirtual 105, 3), (7, .i2l, 1), (8, .lastore, 1), (9, .goto 6, 3), (12, .astore_n 3, 1), (13, .iconst 1, 1), (14, .ireturn, 1), (15, .iconst 0, 1), (16, .ireturn, 1)]
theorem hL_writtenByte : zdec (yC mL_writtenByte) kL_writtenByte = true := by decide +kernel
def kL_law_0 : List (Nat × Instr × Nat) := [(0, .new 8, 3), (3, .dup, 1), (4, .invokespecial 108, 3), (7, .astore_n 1, 1), (8, .new 109, 3), (11, .dup, 1), (12, .invokespecial 111, 3), (15, .astore_n 2, 1), (16, .iconst 1, 1), (17, .newarray .long, 2), (19, .astore_n 3, 1), (20, .iconst 0, 1), (21, .istore 4, 2), (23, .iload 4, 2), (25, .aload_n 0, 1), (26, .arraylength, 1), (27, .bipush 6, 2), (29, .isub, 1), (30, .if_icmp .gt 2158, 3), (33, .aload_n 0, 1), (34, .iload 4, 2), (36, .iaload, 1), (37, .bipush 63, 2), (39, .iand, 1), (40, .tableswitch 2142 0 35 #[160, 264, 277, 290, 346, 414, 482, 550, 618, 686, 741, 782, 838, 851, 918, 961, 1040, 1108, 1164, 1244, 1299, 1378, 1446, 1502, 1570, 1584, 1652, 1665, 1733, 1789, 1857, 1937, 1981, 2017, 2073, 2086], 160), (200, .aload_n 1, 1), (201, .aload_n 0, 1), (202, .iload 4, 2), (204, .iconst 1, 1), (205, .iadd, 1), (206, .iaload, 1), (207, .aload_n 0, 1), (208, .iload 4, 2), (210, .iconst 2, 1), (211, .iadd, 1), (212, .iaload, 1), (213, .aload_n 0, 1), (214, .iload 4, 2), (216, .iconst 3, 1), (217, .iadd, 1), (218, .iaload, 1), (219, .aload_n 0, 1), (220, .iload 4, 2), (222, .iconst 4, 1), (223, .iadd, 1), (224, .iaload, 1), (225, .aload_n 0, 1), (226, .iload 4, 2), (228, .iconst 5, 1), (229, .iadd, 1), (230, .iaload, 1), (231, .aload_n 3, 1), (232, .invokestatic 112, 3), (235, .istore 5, 2), (237, .aload_n 2, 1), (238, .aload_n 0, 1), (239, .iload 4, 2), (241, .iconst 1, 1), (242, .iadd, 1), (243, .iaload, 1)]
theorem hL_law_0 : zdec (yC mL_law) kL_law_0 = true := by decide +kernel
def kL_law_1 : List (Nat × Instr × Nat) := [(244, .aload_n 0, 1), (245, .iload 4, 2), (247, .iconst 2, 1), (248, .iadd, 1), (249, .iaload, 1), (250, .aload_n 0, 1), (251, .iload 4, 2), (253, .iconst 3, 1), (254, .iadd, 1), (255, .iaload, 1), (256, .aload_n 0, 1), (257, .iload 4, 2), (259, .iconst 4, 1), (260, .iadd, 1), (261, .iaload, 1), (262, .aload_n 0, 1), (263, .iload 4, 2), (265, .iconst 5, 1), (266, .iadd, 1), (267, .iaload, 1), (268, .invokevirtual 117, 3), (271, .istore 6, 2), (273, .aload_n 2, 1), (274, .invokevirtual 118, 3), (277, .iload 5, 2), (279, .if_icmp .eq 5, 3), (282, .iconst 0, 1), (283, .ireturn, 1), (284, .iload 5, 2), (286, .ifCond .ne 15, 3), (289, .aload_n 3, 1), (290, .iconst 0, 1), (291, .laload, 1), (292, .iload 6, 2), (294, .i2l, 1), (295, .lcmp, 1), (296, .ifCond .eq 5, 3), (299, .iconst 0, 1), (300, .ireturn, 1), (301, .goto 1881, 3), (304, .aload_n 1, 1), (305, .invokevirtual 121, 3), (308, .aload_n 2, 1), (309, .invokevirtual 124, 3), (312, .if_icmp .eq 1870, 3), (315, .iconst 0, 1), (316, .ireturn, 1), (317, .aload_n 1, 1), (318, .invokevirtual 125, 3), (321, .aload_n 2, 1), (322, .invokevirtual 128, 3), (325, .if_icmp .eq 1857, 3), (328, .iconst 0, 1), (329, .ireturn, 1), (330, .aload_n 1, 1), (331, .aload_n 0, 1), (332, .iload 4, 2), (334, .iconst 1, 1), (335, .iadd, 1), (336, .iaload, 1)]
theorem hL_law_1 : zdec (yC mL_law) kL_law_1 = true := by decide +kernel
def kL_law_2 : List (Nat × Instr × Nat) := [(337, .aload_n 3, 1), (338, .invokestatic 129, 3), (341, .istore 5, 2), (343, .aload_n 2, 1), (344, .aload_n 0, 1), (345, .iload 4, 2), (347, .iconst 1, 1), (348, .iadd, 1), (349, .iaload, 1), (350, .invokevirtual 132, 3), (353, .istore 6, 2), (355, .aload_n 2, 1), (356, .invokevirtual 118, 3), (359, .iload 5, 2), (361, .if_icmp .eq 5, 3), (364, .iconst 0, 1), (365, .ireturn, 1), (366, .iload 5, 2), (368, .ifCond .ne 15, 3), (371, .aload_n 3, 1), (372, .iconst 0, 1), (373, .laload, 1), (374, .iload 6, 2), (376, .i2l, 1), (377, .lcmp, 1), (378, .ifCond .eq 5, 3), (381, .iconst 0, 1), (382, .ireturn, 1), (383, .goto 1799, 3), (386, .aload_n 1, 1), (387, .aload_n 0, 1), (388, .iload 4, 2), (390, .iconst 1, 1), (391, .iadd, 1), (392, .iaload, 1), (393, .aload_n 0, 1), (394, .iload 4, 2), (396, .iconst 2, 1), (397, .iadd, 1), (398, .iaload, 1), (399, .aload_n 3, 1), (400, .invokestatic 133, 3), (403, .istore 5, 2), (405, .aload_n 2, 1), (406, .aload_n 0, 1), (407, .iload 4, 2), (409, .iconst 1, 1), (410, .iadd, 1), (411, .iaload, 1), (412, .aload_n 0, 1), (413, .iload 4, 2), (415, .iconst 2, 1), (416, .iadd, 1), (417, .iaload, 1), (418, .invokevirtual 136, 3), (421, .istore 6, 2), (423, .aload_n 2, 1), (424, .invokevirtual 118, 3), (427, .iload 5, 2), (429, .if_icmp .eq 5, 3)]
theorem hL_law_2 : zdec (yC mL_law) kL_law_2 = true := by decide +kernel
def kL_law_3 : List (Nat × Instr × Nat) := [(432, .iconst 0, 1), (433, .ireturn, 1), (434, .iload 5, 2), (436, .ifCond .ne 15, 3), (439, .aload_n 3, 1), (440, .iconst 0, 1), (441, .laload, 1), (442, .iload 6, 2), (444, .i2l, 1), (445, .lcmp, 1), (446, .ifCond .eq 5, 3), (449, .iconst 0, 1), (450, .ireturn, 1), (451, .goto 1731, 3), (454, .aload_n 1, 1), (455, .aload_n 0, 1), (456, .iload 4, 2), (458, .iconst 1, 1), (459, .iadd, 1), (460, .iaload, 1), (461, .aload_n 0, 1), (462, .iload 4, 2), (464, .iconst 2, 1), (465, .iadd, 1), (466, .iaload, 1), (467, .aload_n 3, 1), (468, .invokestatic 137, 3), (471, .istore 5, 2), (473, .aload_n 2, 1), (474, .aload_n 0, 1), (475, .iload 4, 2), (477, .iconst 1, 1), (478, .iadd, 1), (479, .iaload, 1), (480, .aload_n 0, 1), (481, .iload 4, 2), (483, .iconst 2, 1), (484, .iadd, 1), (485, .iaload, 1), (486, .invokevirtual 139, 3), (489, .istore 6, 2), (491, .aload_n 2, 1), (492, .invokevirtual 118, 3), (495, .iload 5, 2), (497, .if_icmp .eq 5, 3), (500, .iconst 0, 1), (501, .ireturn, 1), (502, .iload 5, 2), (504, .ifCond .ne 15, 3), (507, .aload_n 3, 1), (508, .iconst 0, 1), (509, .laload, 1), (510, .iload 6, 2), (512, .i2l, 1), (513, .lcmp, 1), (514, .ifCond .eq 5, 3), (517, .iconst 0, 1), (518, .ireturn, 1), (519, .goto 1663, 3), (522, .aload_n 1, 1)]
theorem hL_law_3 : zdec (yC mL_law) kL_law_3 = true := by decide +kernel
def kL_law_4 : List (Nat × Instr × Nat) := [(523, .aload_n 0, 1), (524, .iload 4, 2), (526, .iconst 1, 1), (527, .iadd, 1), (528, .iaload, 1), (529, .aload_n 0, 1), (530, .iload 4, 2), (532, .iconst 2, 1), (533, .iadd, 1), (534, .iaload, 1), (535, .aload_n 3, 1), (536, .invokestatic 140, 3), (539, .istore 5, 2), (541, .aload_n 2, 1), (542, .aload_n 0, 1), (543, .iload 4, 2), (545, .iconst 1, 1), (546, .iadd, 1), (547, .iaload, 1), (548, .aload_n 0, 1), (549, .iload 4, 2), (551, .iconst 2, 1), (552, .iadd, 1), (553, .iaload, 1), (554, .invokevirtual 142, 3), (557, .istore 6, 2), (559, .aload_n 2, 1), (560, .invokevirtual 118, 3), (563, .iload 5, 2), (565, .if_icmp .eq 5, 3), (568, .iconst 0, 1), (569, .ireturn, 1), (570, .iload 5, 2), (572, .ifCond .ne 15, 3), (575, .aload_n 3, 1), (576, .iconst 0, 1), (577, .laload, 1), (578, .iload 6, 2), (580, .i2l, 1), (581, .lcmp, 1), (582, .ifCond .eq 5, 3), (585, .iconst 0, 1), (586, .ireturn, 1), (587, .goto 1595, 3), (590, .aload_n 1, 1), (591, .aload_n 0, 1), (592, .iload 4, 2), (594, .iconst 1, 1), (595, .iadd, 1), (596, .iaload, 1), (597, .aload_n 0, 1), (598, .iload 4, 2), (600, .iconst 2, 1), (601, .iadd, 1), (602, .iaload, 1), (603, .aload_n 3, 1), (604, .invokestatic 143, 3), (607, .istore 5, 2), (609, .aload_n 2, 1), (610, .aload_n 0, 1)]
theorem hL_law_4 : zdec (yC mL_law) kL_law_4 = true := by decide +kernel
def kL_law_5 : List (Nat × Instr × Nat) := [(611, .iload 4, 2), (613, .iconst 1, 1), (614, .iadd, 1), (615, .iaload, 1), (616, .aload_n 0, 1), (617, .iload 4, 2), (619, .iconst 2, 1), (620, .iadd, 1), (621, .iaload, 1), (622, .invokevirtual 145, 3), (625, .istore 6, 2), (627, .aload_n 2, 1), (628, .invokevirtual 118, 3), (631, .iload 5, 2), (633, .if_icmp .eq 5, 3), (636, .iconst 0, 1), (637, .ireturn, 1), (638, .iload 5, 2), (640, .ifCond .ne 15, 3), (643, .aload_n 3, 1), (644, .iconst 0, 1), (645, .laload, 1), (646, .iload 6, 2), (648, .i2l, 1), (649, .lcmp, 1), (650, .ifCond .eq 5, 3), (653, .iconst 0, 1), (654, .ireturn, 1), (655, .goto 1527, 3), (658, .aload_n 1, 1), (659, .aload_n 0, 1), (660, .iload 4, 2), (662, .iconst 1, 1), (663, .iadd, 1), (664, .iaload, 1), (665, .aload_n 0, 1), (666, .iload 4, 2), (668, .iconst 2, 1), (669, .iadd, 1), (670, .iaload, 1), (671, .aload_n 3, 1), (672, .invokestatic 146, 3), (675, .istore 5, 2), (677, .aload_n 2, 1), (678, .aload_n 0, 1), (679, .iload 4, 2), (681, .iconst 1, 1), (682, .iadd, 1), (683, .iaload, 1), (684, .aload_n 0, 1), (685, .iload 4, 2), (687, .iconst 2, 1), (688, .iadd, 1), (689, .iaload, 1), (690, .invokevirtual 148, 3), (693, .istore 6, 2), (695, .aload_n 2, 1), (696, .invokevirtual 118, 3), (699, .iload 5, 2), (701, .if_icmp .eq 5, 3)]
theorem hL_law_5 : zdec (yC mL_law) kL_law_5 = true := by decide +kernel
def kL_law_6 : List (Nat × Instr × Nat) := [(704, .iconst 0, 1), (705, .ireturn, 1), (706, .iload 5, 2), (708, .ifCond .ne 15, 3), (711, .aload_n 3, 1), (712, .iconst 0, 1), (713, .laload, 1), (714, .iload 6, 2), (716, .i2l, 1), (717, .lcmp, 1), (718, .ifCond .eq 5, 3), (721, .iconst 0, 1), (722, .ireturn, 1), (723, .goto 1459, 3), (726, .aload_n 1, 1), (727, .aload_n 0, 1), (728, .iload 4, 2), (730, .iconst 1, 1), (731, .iadd, 1), (732, .iaload, 1), (733, .aload_n 3, 1), (734, .invokestatic 149, 3), (737, .istore 5, 2), (739, .aload_n 2, 1), (740, .aload_n 0, 1), (741, .iload 4, 2), (743, .iconst 1, 1), (744, .iadd, 1), (745, .iaload, 1), (746, .invokevirtual 151, 3), (749, .lstore 6, 2), (751, .aload_n 2, 1), (752, .invokevirtual 118, 3), (755, .iload 5, 2), (757, .if_icmp .eq 5, 3), (760, .iconst 0, 1), (761, .ireturn, 1), (762, .iload 5, 2), (764, .ifCond .ne 14, 3), (767, .aload_n 3, 1), (768, .iconst 0, 1), (769, .laload, 1), (770, .lload 6, 2), (772, .lcmp, 1), (773, .ifCond .eq 5, 3), (776, .iconst 0, 1), (777, .ireturn, 1), (778, .goto 1404, 3), (781, .aload_n 1, 1), (782, .invokevirtual 152, 3), (785, .dstore 5, 2), (787, .aload_n 2, 1), (788, .invokevirtual 156, 3), (791, .dstore 7, 2), (793, .dload 5, 2), (795, .dload 7, 2), (797, .dcmp .l, 1), (798, .ifCond .eq 21, 3), (801, .dload 5, 2), (803, .dload 5, 2)]
theorem hL_law_6 : zdec (yC mL_law) kL_law_6 = true := by decide +kernel
def kL_law_7 : List (Nat × Instr × Nat) := [(805, .dcmp .l, 1), (806, .ifCond .eq 11, 3), (809, .dload 7, 2), (811, .dload 7, 2), (813, .dcmp .l, 1), (814, .ifCond .ne 5, 3), (817, .iconst 0, 1), (818, .ireturn, 1), (819, .goto 1363, 3), (822, .aload_n 1, 1), (823, .aload_n 0, 1), (824, .iload 4, 2), (826, .iconst 1, 1), (827, .iadd, 1), (828, .iaload, 1), (829, .aload_n 3, 1), (830, .invokestatic 157, 3), (833, .istore 5, 2), (835, .aload_n 2, 1), (836, .aload_n 0, 1), (837, .iload 4, 2), (839, .iconst 1, 1), (840, .iadd, 1), (841, .iaload, 1), (842, .invokevirtual 159, 3), (845, .istore 6, 2), (847, .aload_n 2, 1), (848, .invokevirtual 118, 3), (851, .iload 5, 2), (853, .if_icmp .eq 5, 3), (856, .iconst 0, 1), (857, .ireturn, 1), (858, .iload 5, 2), (860, .ifCond .ne 15, 3), (863, .aload_n 3, 1), (864, .iconst 0, 1), (865, .laload, 1), (866, .iload 6, 2), (868, .i2l, 1), (869, .lcmp, 1), (870, .ifCond .eq 5, 3), (873, .iconst 0, 1), (874, .ireturn, 1), (875, .goto 1307, 3), (878, .aload_n 1, 1), (879, .invokevirtual 160, 3), (882, .aload_n 2, 1), (883, .invokevirtual 163, 3), (886, .if_icmp .eq 1296, 3), (889, .iconst 0, 1), (890, .ireturn, 1), (891, .aload_n 1, 1), (892, .aload_n 0, 1), (893, .iload 4, 2), (895, .iconst 1, 1), (896, .iadd, 1), (897, .iaload, 1), (898, .aload_n 0, 1), (899, .iload 4, 2), (901, .iconst 2, 1)]
theorem hL_law_7 : zdec (yC mL_law) kL_law_7 = true := by decide +kernel
def kL_law_8 : List (Nat × Instr × Nat) := [(902, .iadd, 1), (903, .iaload, 1), (904, .aload_n 3, 1), (905, .invokestatic 164, 3), (908, .istore 5, 2), (910, .aload_n 2, 1), (911, .aload_n 0, 1), (912, .iload 4, 2), (914, .iconst 1, 1), (915, .iadd, 1), (916, .iaload, 1), (917, .aload_n 0, 1), (918, .iload 4, 2), (920, .iconst 2, 1), (921, .iadd, 1), (922, .iaload, 1), (923, .invokevirtual 166, 3), (926, .lstore 6, 2), (928, .aload_n 2, 1), (929, .invokevirtual 118, 3), (932, .iload 5, 2), (934, .if_icmp .eq 5, 3), (937, .iconst 0, 1), (938, .ireturn, 1), (939, .iload 5, 2), (941, .ifCond .ne 14, 3), (944, .aload_n 3, 1), (945, .iconst 0, 1), (946, .laload, 1), (947, .lload 6, 2), (949, .lcmp, 1), (950, .ifCond .eq 5, 3), (953, .iconst 0, 1), (954, .ireturn, 1), (955, .goto 1227, 3), (958, .aload_n 1, 1), (959, .invokevirtual 167, 3), (962, .f2d, 1), (963, .dstore 5, 2), (965, .aload_n 2, 1), (966, .invokevirtual 171, 3), (969, .f2d, 1), (970, .dstore 7, 2), (972, .dload 5, 2), (974, .dload 7, 2), (976, .dcmp .l, 1), (977, .ifCond .eq 21, 3), (980, .dload 5, 2), (982, .dload 5, 2), (984, .dcmp .l, 1), (985, .ifCond .eq 11, 3), (988, .dload 7, 2), (990, .dload 7, 2), (992, .dcmp .l, 1), (993, .ifCond .ne 5, 3), (996, .iconst 0, 1), (997, .ireturn, 1), (998, .goto 1184, 3), (1001, .aload_n 1, 1), (1002, .aload_n 0, 1)]
theorem hL_law_8 : zdec (yC mL_law) kL_law_8 = true := by decide +kernel
def kL_law_9 : List (Nat × Instr × Nat) := [(1003, .iload 4, 2), (1005, .iconst 1, 1), (1006, .iadd, 1), (1007, .iaload, 1), (1008, .aload_n 0, 1), (1009, .iload 4, 2), (1011, .iconst 2, 1), (1012, .iadd, 1), (1013, .iaload, 1), (1014, .aload_n 0, 1), (1015, .iload 4, 2), (1017, .iconst 3, 1), (1018, .iadd, 1), (1019, .iaload, 1), (1020, .aload_n 3, 1), (1021, .invokestatic 172, 3), (1024, .istore 5, 2), (1026, .aload_n 2, 1), (1027, .aload_n 0, 1), (1028, .iload 4, 2), (1030, .iconst 1, 1), (1031, .iadd, 1), (1032, .iaload, 1), (1033, .aload_n 0, 1), (1034, .iload 4, 2), (1036, .iconst 2, 1), (1037, .iadd, 1), (1038, .iaload, 1), (1039, .aload_n 0, 1), (1040, .iload 4, 2), (1042, .iconst 3, 1), (1043, .iadd, 1), (1044, .iaload, 1), (1045, .invokevirtual 175, 3), (1048, .lstore 6, 2), (1050, .aload_n 2, 1), (1051, .invokevirtual 118, 3), (1054, .iload 5, 2), (1056, .if_icmp .eq 5, 3), (1059, .iconst 0, 1), (1060, .ireturn, 1), (1061, .iload 5, 2), (1063, .ifCond .ne 14, 3), (1066, .aload_n 3, 1), (1067, .iconst 0, 1), (1068, .laload, 1), (1069, .lload 6, 2), (1071, .lcmp, 1), (1072, .ifCond .eq 5, 3), (1075, .iconst 0, 1), (1076, .ireturn, 1), (1077, .goto 1105, 3), (1080, .aload_n 1, 1), (1081, .aload_n 0, 1), (1082, .iload 4, 2), (1084, .iconst 1, 1), (1085, .iadd, 1), (1086, .iaload, 1), (1087, .aload_n 0, 1), (1088, .iload 4, 2)]
theorem hL_law_9 : zdec (yC mL_law) kL_law_9 = true := by decide +kernel
def kL_law_10 : List (Nat × Instr × Nat) := [(1090, .iconst 2, 1), (1091, .iadd, 1), (1092, .iaload, 1), (1093, .aload_n 3, 1), (1094, .invokestatic 176, 3), (1097, .istore 5, 2), (1099, .aload_n 2, 1), (1100, .aload_n 0, 1), (1101, .iload 4, 2), (1103, .iconst 1, 1), (1104, .iadd, 1), (1105, .iaload, 1), (1106, .aload_n 0, 1), (1107, .iload 4, 2), (1109, .iconst 2, 1), (1110, .iadd, 1), (1111, .iaload, 1), (1112, .invokevirtual 178, 3), (1115, .istore 6, 2), (1117, .aload_n 2, 1), (1118, .invokevirtual 118, 3), (1121, .iload 5, 2), (1123, .if_icmp .eq 5, 3), (1126, .iconst 0, 1), (1127, .ireturn, 1), (1128, .iload 5, 2), (1130, .ifCond .ne 15, 3), (1133, .aload_n 3, 1), (1134, .iconst 0, 1), (1135, .laload, 1), (1136, .iload 6, 2), (1138, .i2l, 1), (1139, .lcmp, 1), (1140, .ifCond .eq 5, 3), (1143, .iconst 0, 1), (1144, .ireturn, 1), (1145, .goto 1037, 3), (1148, .aload_n 1, 1), (1149, .aload_n 0, 1), (1150, .iload 4, 2), (1152, .iconst 1, 1), (1153, .iadd, 1), (1154, .iaload, 1), (1155, .aload_n 3, 1), (1156, .invokestatic 179, 3), (1159, .istore 5, 2), (1161, .aload_n 2, 1), (1162, .aload_n 0, 1), (1163, .iload 4, 2), (1165, .iconst 1, 1), (1166, .iadd, 1), (1167, .iaload, 1), (1168, .invokevirtual 181, 3), (1171, .istore 6, 2), (1173, .aload_n 2, 1), (1174, .invokevirtual 118, 3), (1177, .iload 5, 2), (1179, .if_icmp .eq 5, 3), (1182, .iconst 0, 1), (1183, .ireturn, 1)]
theorem hL_law_10 : zdec (yC mL_law) kL_law_10 = true := by decide +kernel
def kL_law_11 : List (Nat × Instr × Nat) := [(1184, .iload 5, 2), (1186, .ifCond .ne 15, 3), (1189, .aload_n 3, 1), (1190, .iconst 0, 1), (1191, .laload, 1), (1192, .iload 6, 2), (1194, .i2l, 1), (1195, .lcmp, 1), (1196, .ifCond .eq 5, 3), (1199, .iconst 0, 1), (1200, .ireturn, 1), (1201, .goto 981, 3), (1204, .aload_n 1, 1), (1205, .aload_n 0, 1), (1206, .iload 4, 2), (1208, .iconst 1, 1), (1209, .iadd, 1), (1210, .iaload, 1), (1211, .aload_n 0, 1), (1212, .iload 4, 2), (1214, .iconst 2, 1), (1215, .iadd, 1), (1216, .iaload, 1), (1217, .aload_n 0, 1), (1218, .iload 4, 2), (1220, .iconst 3, 1), (1221, .iadd, 1), (1222, .iaload, 1), (1223, .aload_n 3, 1), (1224, .invokestatic 182, 3), (1227, .istore 5, 2), (1229, .aload_n 2, 1), (1230, .aload_n 0, 1), (1231, .iload 4, 2), (1233, .iconst 1, 1), (1234, .iadd, 1), (1235, .iaload, 1), (1236, .aload_n 0, 1), (1237, .iload 4, 2), (1239, .iconst 2, 1), (1240, .iadd, 1), (1241, .iaload, 1), (1242, .aload_n 0, 1), (1243, .iload 4, 2), (1245, .iconst 3, 1), (1246, .iadd, 1), (1247, .iaload, 1), (1248, .invokevirtual 184, 3), (1251, .istore 6, 2), (1253, .aload_n 2, 1), (1254, .invokevirtual 118, 3), (1257, .iload 5, 2), (1259, .if_icmp .eq 5, 3), (1262, .iconst 0, 1), (1263, .ireturn, 1), (1264, .iload 5, 2), (1266, .ifCond .ne 15, 3), (1269, .aload_n 3, 1), (1270, .iconst 0, 1), (1271, .laload, 1)]
theorem hL_law_11 : zdec (yC mL_law) kL_law_11 = true := by decide +kernel
def kL_law_12 : List (Nat × Instr × Nat) := [(1272, .iload 6, 2), (1274, .i2l, 1), (1275, .lcmp, 1), (1276, .ifCond .eq 5, 3), (1279, .iconst 0, 1), (1280, .ireturn, 1), (1281, .goto 901, 3), (1284, .aload_n 1, 1), (1285, .aload_n 0, 1), (1286, .iload 4, 2), (1288, .iconst 1, 1), (1289, .iadd, 1), (1290, .iaload, 1), (1291, .aload_n 3, 1), (1292, .invokestatic 185, 3), (1295, .istore 5, 2), (1297, .aload_n 2, 1), (1298, .aload_n 0, 1), (1299, .iload 4, 2), (1301, .iconst 1, 1), (1302, .iadd, 1), (1303, .iaload, 1), (1304, .invokevirtual 187, 3), (1307, .lstore 6, 2), (1309, .aload_n 2, 1), (1310, .invokevirtual 118, 3), (1313, .iload 5, 2), (1315, .if_icmp .eq 5, 3), (1318, .iconst 0, 1), (1319, .ireturn, 1), (1320, .iload 5, 2), (1322, .ifCond .ne 14, 3), (1325, .aload_n 3, 1), (1326, .iconst 0, 1), (1327, .laload, 1), (1328, .lload 6, 2), (1330, .lcmp, 1), (1331, .ifCond .eq 5, 3), (1334, .iconst 0, 1), (1335, .ireturn, 1), (1336, .goto 846, 3), (1339, .aload_n 1, 1), (1340, .aload_n 0, 1), (1341, .iload 4, 2), (1343, .iconst 1, 1), (1344, .iadd, 1), (1345, .iaload, 1), (1346, .aload_n 0, 1), (1347, .iload 4, 2), (1349, .iconst 2, 1), (1350, .iadd, 1), (1351, .iaload, 1), (1352, .aload_n 0, 1), (1353, .iload 4, 2), (1355, .iconst 3, 1), (1356, .iadd, 1), (1357, .iaload, 1), (1358, .aload_n 3, 1), (1359, .invokestatic 188, 3), (1362, .istore 5, 2)]
theorem hL_law_12 : zdec (yC mL_law) kL_law_12 = true := by decide +kernel
def kL_law_13 : List (Nat × Instr × Nat) := [(1364, .aload_n 2, 1), (1365, .aload_n 0, 1), (1366, .iload 4, 2), (1368, .iconst 1, 1), (1369, .iadd, 1), (1370, .iaload, 1), (1371, .aload_n 0, 1), (1372, .iload 4, 2), (1374, .iconst 2, 1), (1375, .iadd, 1), (1376, .iaload, 1), (1377, .aload_n 0, 1), (1378, .iload 4, 2), (1380, .iconst 3, 1), (1381, .iadd, 1), (1382, .iaload, 1), (1383, .invokevirtual 190, 3), (1386, .lstore 6, 2), (1388, .aload_n 2, 1), (1389, .invokevirtual 118, 3), (1392, .iload 5, 2), (1394, .if_icmp .eq 5, 3), (1397, .iconst 0, 1), (1398, .ireturn, 1), (1399, .iload 5, 2), (1401, .ifCond .ne 14, 3), (1404, .aload_n 3, 1), (1405, .iconst 0, 1), (1406, .laload, 1), (1407, .lload 6, 2), (1409, .lcmp, 1), (1410, .ifCond .eq 5, 3), (1413, .iconst 0, 1), (1414, .ireturn, 1), (1415, .goto 767, 3), (1418, .aload_n 1, 1), (1419, .aload_n 0, 1), (1420, .iload 4, 2), (1422, .iconst 1, 1), (1423, .iadd, 1), (1424, .iaload, 1), (1425, .aload_n 0, 1), (1426, .iload 4, 2), (1428, .iconst 2, 1), (1429, .iadd, 1), (1430, .iaload, 1), (1431, .aload_n 3, 1), (1432, .invokestatic 191, 3), (1435, .istore 5, 2), (1437, .aload_n 2, 1), (1438, .aload_n 0, 1), (1439, .iload 4, 2), (1441, .iconst 1, 1), (1442, .iadd, 1), (1443, .iaload, 1), (1444, .aload_n 0, 1), (1445, .iload 4, 2), (1447, .iconst 2, 1), (1448, .iadd, 1), (1449, .iaload, 1)]
theorem hL_law_13 : zdec (yC mL_law) kL_law_13 = true := by decide +kernel
def kL_law_14 : List (Nat × Instr × Nat) := [(1450, .invokevirtual 193, 3), (1453, .istore 6, 2), (1455, .aload_n 2, 1), (1456, .invokevirtual 118, 3), (1459, .iload 5, 2), (1461, .if_icmp .eq 5, 3), (1464, .iconst 0, 1), (1465, .ireturn, 1), (1466, .iload 5, 2), (1468, .ifCond .ne 15, 3), (1471, .aload_n 3, 1), (1472, .iconst 0, 1), (1473, .laload, 1), (1474, .iload 6, 2), (1476, .i2l, 1), (1477, .lcmp, 1), (1478, .ifCond .eq 5, 3), (1481, .iconst 0, 1), (1482, .ireturn, 1), (1483, .goto 699, 3), (1486, .aload_n 1, 1), (1487, .aload_n 0, 1), (1488, .iload 4, 2), (1490, .iconst 1, 1), (1491, .iadd, 1), (1492, .iaload, 1), (1493, .aload_n 3, 1), (1494, .invokestatic 194, 3), (1497, .istore 5, 2), (1499, .aload_n 2, 1), (1500, .aload_n 0, 1), (1501, .iload 4, 2), (1503, .iconst 1, 1), (1504, .iadd, 1), (1505, .iaload, 1), (1506, .invokevirtual 196, 3), (1509, .istore 6, 2), (1511, .aload_n 2, 1), (1512, .invokevirtual 118, 3), (1515, .iload 5, 2), (1517, .if_icmp .eq 5, 3), (1520, .iconst 0, 1), (1521, .ireturn, 1), (1522, .iload 5, 2), (1524, .ifCond .ne 15, 3), (1527, .aload_n 3, 1), (1528, .iconst 0, 1), (1529, .laload, 1), (1530, .iload 6, 2), (1532, .i2l, 1), (1533, .lcmp, 1), (1534, .ifCond .eq 5, 3), (1537, .iconst 0, 1), (1538, .ireturn, 1), (1539, .goto 643, 3), (1542, .aload_n 1, 1), (1543, .aload_n 0, 1), (1544, .iload 4, 2), (1546, .iconst 1, 1), (1547, .iadd, 1)]
theorem hL_law_14 : zdec (yC mL_law) kL_law_14 = true := by decide +kernel
def kL_law_15 : List (Nat × Instr × Nat) := [(1548, .iaload, 1), (1549, .aload_n 0, 1), (1550, .iload 4, 2), (1552, .iconst 2, 1), (1553, .iadd, 1), (1554, .iaload, 1), (1555, .aload_n 3, 1), (1556, .invokestatic 197, 3), (1559, .istore 5, 2), (1561, .aload_n 2, 1), (1562, .aload_n 0, 1), (1563, .iload 4, 2), (1565, .iconst 1, 1), (1566, .iadd, 1), (1567, .iaload, 1), (1568, .aload_n 0, 1), (1569, .iload 4, 2), (1571, .iconst 2, 1), (1572, .iadd, 1), (1573, .iaload, 1), (1574, .invokevirtual 199, 3), (1577, .istore 6, 2), (1579, .aload_n 2, 1), (1580, .invokevirtual 118, 3), (1583, .iload 5, 2), (1585, .if_icmp .eq 5, 3), (1588, .iconst 0, 1), (1589, .ireturn, 1), (1590, .iload 5, 2), (1592, .ifCond .ne 15, 3), (1595, .aload_n 3, 1), (1596, .iconst 0, 1), (1597, .laload, 1), (1598, .iload 6, 2), (1600, .i2l, 1), (1601, .lcmp, 1), (1602, .ifCond .eq 5, 3), (1605, .iconst 0, 1), (1606, .ireturn, 1), (1607, .goto 575, 3), (1610, .aload_n 1, 1), (1611, .invokevirtual 200, 3), (1614, .aload_n 2, 1), (1615, .invokevirtual 204, 3), (1618, .lcmp, 1), (1619, .ifCond .eq 563, 3), (1622, .iconst 0, 1), (1623, .ireturn, 1), (1624, .aload_n 1, 1), (1625, .aload_n 0, 1), (1626, .iload 4, 2), (1628, .iconst 1, 1), (1629, .iadd, 1), (1630, .iaload, 1), (1631, .aload_n 0, 1), (1632, .iload 4, 2), (1634, .iconst 2, 1), (1635, .iadd, 1), (1636, .iaload, 1), (1637, .aload_n 3, 1)]
theorem hL_law_15 : zdec (yC mL_law) kL_law_15 = true := by decide +kernel
def kL_law_16 : List (Nat × Instr × Nat) := [(1638, .invokestatic 205, 3), (1641, .istore 5, 2), (1643, .aload_n 2, 1), (1644, .aload_n 0, 1), (1645, .iload 4, 2), (1647, .iconst 1, 1), (1648, .iadd, 1), (1649, .iaload, 1), (1650, .aload_n 0, 1), (1651, .iload 4, 2), (1653, .iconst 2, 1), (1654, .iadd, 1), (1655, .iaload, 1), (1656, .invokevirtual 207, 3), (1659, .istore 6, 2), (1661, .aload_n 2, 1), (1662, .invokevirtual 118, 3), (1665, .iload 5, 2), (1667, .if_icmp .eq 5, 3), (1670, .iconst 0, 1), (1671, .ireturn, 1), (1672, .iload 5, 2), (1674, .ifCond .ne 15, 3), (1677, .aload_n 3, 1), (1678, .iconst 0, 1), (1679, .laload, 1), (1680, .iload 6, 2), (1682, .i2l, 1), (1683, .lcmp, 1), (1684, .ifCond .eq 5, 3), (1687, .iconst 0, 1), (1688, .ireturn, 1), (1689, .goto 493, 3), (1692, .aload_n 1, 1), (1693, .invokevirtual 208, 3), (1696, .aload_n 2, 1), (1697, .invokevirtual 211, 3), (1700, .if_icmp .eq 482, 3), (1703, .iconst 0, 1), (1704, .ireturn, 1), (1705, .aload_n 1, 1), (1706, .aload_n 0, 1), (1707, .iload 4, 2), (1709, .iconst 1, 1), (1710, .iadd, 1), (1711, .iaload, 1), (1712, .aload_n 0, 1), (1713, .iload 4, 2), (1715, .iconst 2, 1), (1716, .iadd, 1), (1717, .iaload, 1), (1718, .aload_n 3, 1), (1719, .invokestatic 212, 3), (1722, .istore 5, 2), (1724, .aload_n 2, 1), (1725, .aload_n 0, 1), (1726, .iload 4, 2), (1728, .iconst 1, 1), (1729, .iadd, 1), (1730, .iaload, 1)]
theorem hL_law_16 : zdec (yC mL_law) kL_law_16 = true := by decide +kernel
def kL_law_17 : List (Nat × Instr × Nat) := [(1731, .aload_n 0, 1), (1732, .iload 4, 2), (1734, .iconst 2, 1), (1735, .iadd, 1), (1736, .iaload, 1), (1737, .invokevirtual 214, 3), (1740, .istore 6, 2), (1742, .aload_n 2, 1), (1743, .invokevirtual 118, 3), (1746, .iload 5, 2), (1748, .if_icmp .eq 5, 3), (1751, .iconst 0, 1), (1752, .ireturn, 1), (1753, .iload 5, 2), (1755, .ifCond .ne 15, 3), (1758, .aload_n 3, 1), (1759, .iconst 0, 1), (1760, .laload, 1), (1761, .iload 6, 2), (1763, .i2l, 1), (1764, .lcmp, 1), (1765, .ifCond .eq 5, 3), (1768, .iconst 0, 1), (1769, .ireturn, 1), (1770, .goto 412, 3), (1773, .aload_n 1, 1), (1774, .aload_n 0, 1), (1775, .iload 4, 2), (1777, .iconst 1, 1), (1778, .iadd, 1), (1779, .iaload, 1), (1780, .aload_n 3, 1), (1781, .invokestatic 215, 3), (1784, .istore 5, 2), (1786, .aload_n 2, 1), (1787, .aload_n 0, 1), (1788, .iload 4, 2), (1790, .iconst 1, 1), (1791, .iadd, 1), (1792, .iaload, 1), (1793, .invokevirtual 217, 3), (1796, .istore 6, 2), (1798, .aload_n 2, 1), (1799, .invokevirtual 118, 3), (1802, .iload 5, 2), (1804, .if_icmp .eq 5, 3), (1807, .iconst 0, 1), (1808, .ireturn, 1), (1809, .iload 5, 2), (1811, .ifCond .ne 15, 3), (1814, .aload_n 3, 1), (1815, .iconst 0, 1), (1816, .laload, 1), (1817, .iload 6, 2), (1819, .i2l, 1), (1820, .lcmp, 1), (1821, .ifCond .eq 5, 3), (1824, .iconst 0, 1), (1825, .ireturn, 1), (1826, .goto 356, 3)]
theorem hL_law_17 : zdec (yC mL_law) kL_law_17 = true := by decide +kernel
def kL_law_18 : List (Nat × Instr × Nat) := [(1829, .aload_n 1, 1), (1830, .aload_n 0, 1), (1831, .iload 4, 2), (1833, .iconst 1, 1), (1834, .iadd, 1), (1835, .iaload, 1), (1836, .aload_n 0, 1), (1837, .iload 4, 2), (1839, .iconst 2, 1), (1840, .iadd, 1), (1841, .iaload, 1), (1842, .aload_n 3, 1), (1843, .invokestatic 218, 3), (1846, .istore 5, 2), (1848, .aload_n 2, 1), (1849, .aload_n 0, 1), (1850, .iload 4, 2), (1852, .iconst 1, 1), (1853, .iadd, 1), (1854, .iaload, 1), (1855, .aload_n 0, 1), (1856, .iload 4, 2), (1858, .iconst 2, 1), (1859, .iadd, 1), (1860, .iaload, 1), (1861, .invokevirtual 220, 3), (1864, .istore 6, 2), (1866, .aload_n 2, 1), (1867, .invokevirtual 118, 3), (1870, .iload 5, 2), (1872, .if_icmp .eq 5, 3), (1875, .iconst 0, 1), (1876, .ireturn, 1), (1877, .iload 5, 2), (1879, .ifCond .ne 15, 3), (1882, .aload_n 3, 1), (1883, .iconst 0, 1), (1884, .laload, 1), (1885, .iload 6, 2), (1887, .i2l, 1), (1888, .lcmp, 1), (1889, .ifCond .eq 5, 3), (1892, .iconst 0, 1), (1893, .ireturn, 1), (1894, .goto 288, 3), (1897, .aload_n 1, 1), (1898, .aload_n 0, 1), (1899, .iload 4, 2), (1901, .iconst 1, 1), (1902, .iadd, 1), (1903, .iaload, 1), (1904, .aload_n 0, 1), (1905, .iload 4, 2), (1907, .iconst 2, 1), (1908, .iadd, 1), (1909, .iaload, 1), (1910, .aload_n 0, 1), (1911, .iload 4, 2), (1913, .iconst 3, 1), (1914, .iadd, 1)]
theorem hL_law_18 : zdec (yC mL_law) kL_law_18 = true := by decide +kernel
def kL_law_19 : List (Nat × Instr × Nat) := [(1915, .iaload, 1), (1916, .aload_n 3, 1), (1917, .invokestatic 221, 3), (1920, .istore 5, 2), (1922, .aload_n 2, 1), (1923, .aload_n 0, 1), (1924, .iload 4, 2), (1926, .iconst 1, 1), (1927, .iadd, 1), (1928, .iaload, 1), (1929, .aload_n 0, 1), (1930, .iload 4, 2), (1932, .iconst 2, 1), (1933, .iadd, 1), (1934, .iaload, 1), (1935, .aload_n 0, 1), (1936, .iload 4, 2), (1938, .iconst 3, 1), (1939, .iadd, 1), (1940, .iaload, 1), (1941, .invokevirtual 223, 3), (1944, .istore 6, 2), (1946, .aload_n 2, 1), (1947, .invokevirtual 118, 3), (1950, .iload 5, 2), (1952, .if_icmp .eq 5, 3), (1955, .iconst 0, 1), (1956, .ireturn, 1), (1957, .iload 5, 2), (1959, .ifCond .ne 15, 3), (1962, .aload_n 3, 1), (1963, .iconst 0, 1), (1964, .laload, 1), (1965, .iload 6, 2), (1967, .i2l, 1), (1968, .lcmp, 1), (1969, .ifCond .eq 5, 3), (1972, .iconst 0, 1), (1973, .ireturn, 1), (1974, .goto 208, 3), (1977, .aload_n 1, 1), (1978, .aload_n 3, 1), (1979, .invokestatic 224, 3), (1982, .istore 5, 2), (1984, .aload_n 2, 1), (1985, .invokevirtual 227, 3), (1988, .istore 6, 2), (1990, .aload_n 2, 1), (1991, .invokevirtual 118, 3), (1994, .iload 5, 2), (1996, .if_icmp .eq 5, 3), (1999, .iconst 0, 1), (2000, .ireturn, 1), (2001, .iload 5, 2), (2003, .ifCond .ne 15, 3), (2006, .aload_n 3, 1), (2007, .iconst 0, 1), (2008, .laload, 1), (2009, .iload 6, 2), (2011, .i2l, 1)]
theorem hL_law_19 : zdec (yC mL_law) kL_law_19 = true := by decide +kernel
def kL_law_20 : List (Nat × Instr × Nat) := [(2012, .lcmp, 1), (2013, .ifCond .eq 5, 3), (2016, .iconst 0, 1), (2017, .ireturn, 1), (2018, .goto 164, 3), (2021, .aload_n 1, 1), (2022, .aload_n 0, 1), (2023, .iload 4, 2), (2025, .iconst 1, 1), (2026, .iadd, 1), (2027, .iaload, 1), (2028, .invokestatic 228, 3), (2031, .istore 5, 2), (2033, .aload_n 2, 1), (2034, .aload_n 0, 1), (2035, .iload 4, 2), (2037, .iconst 1, 1), (2038, .iadd, 1), (2039, .iaload, 1), (2040, .invokevirtual 231, 3), (2043, .aload_n 2, 1), (2044, .invokevirtual 118, 3), (2047, .iload 5, 2), (2049, .if_icmp .eq 5, 3), (2052, .iconst 0, 1), (2053, .ireturn, 1), (2054, .goto 128, 3), (2057, .aload_n 1, 1), (2058, .aload_n 0, 1), (2059, .iload 4, 2), (2061, .iconst 1, 1), (2062, .iadd, 1), (2063, .iaload, 1), (2064, .aload_n 3, 1), (2065, .invokestatic 232, 3), (2068, .istore 5, 2), (2070, .aload_n 2, 1), (2071, .aload_n 0, 1), (2072, .iload 4, 2), (2074, .iconst 1, 1), (2075, .iadd, 1), (2076, .iaload, 1), (2077, .invokevirtual 234, 3), (2080, .istore 6, 2), (2082, .aload_n 2, 1), (2083, .invokevirtual 118, 3), (2086, .iload 5, 2), (2088, .if_icmp .eq 5, 3), (2091, .iconst 0, 1), (2092, .ireturn, 1), (2093, .iload 5, 2), (2095, .ifCond .ne 15, 3), (2098, .aload_n 3, 1), (2099, .iconst 0, 1), (2100, .laload, 1), (2101, .iload 6, 2), (2103, .i2l, 1), (2104, .lcmp, 1), (2105, .ifCond .eq 5, 3), (2108, .iconst 0, 1)]
theorem hL_law_20 : zdec (yC mL_law) kL_law_20 = true := by decide +kernel
def kL_law_21 : List (Nat × Instr × Nat) := [(2109, .ireturn, 1), (2110, .goto 72, 3), (2113, .aload_n 1, 1), (2114, .invokevirtual 235, 3), (2117, .aload_n 2, 1), (2118, .invokevirtual 238, 3), (2121, .if_icmp .eq 61, 3), (2124, .iconst 0, 1), (2125, .ireturn, 1), (2126, .aload_n 1, 1), (2127, .aload_n 0, 1), (2128, .iload 4, 2), (2130, .iconst 1, 1), (2131, .iadd, 1), (2132, .iaload, 1), (2133, .aload_n 3, 1), (2134, .invokestatic 239, 3), (2137, .istore 5, 2), (2139, .aload_n 2, 1), (2140, .aload_n 0, 1), (2141, .iload 4, 2), (2143, .iconst 1, 1), (2144, .iadd, 1), (2145, .iaload, 1), (2146, .invokevirtual 241, 3), (2149, .istore 6, 2), (2151, .aload_n 2, 1), (2152, .invokevirtual 118, 3), (2155, .iload 5, 2), (2157, .if_icmp .eq 5, 3), (2160, .iconst 0, 1), (2161, .ireturn, 1), (2162, .iload 5, 2), (2164, .ifCond .ne 15, 3), (2167, .aload_n 3, 1), (2168, .iconst 0, 1), (2169, .laload, 1), (2170, .iload 6, 2), (2172, .i2l, 1), (2173, .lcmp, 1), (2174, .ifCond .eq 5, 3), (2177, .iconst 0, 1), (2178, .ireturn, 1), (2179, .goto 3, 3), (2182, .iinc 4 6, 3), (2185, .goto (-2162), 3), (2188, .iconst 1, 1), (2189, .ireturn, 1)]
theorem hL_law_21 : zdec (yC mL_law) kL_law_21 = true := by decide +kernel
end
section
/-! ===== rules as the walks use them: places as numbers, calls that make nothing ===== -/
section ZH
variable {l : Launch} {G : zG} {y z : zMD} {fr lo fr1 lo1 bc bs pc i n : Nat} {ls : List (Option Value)} {st : List Value} {as : List Value} {M : zMem} {Q Q1 : zOut → zMem → Prop}
theorem s_topi {a b : Int32} (h : a = b) (k : zS l G y fr lo bc bs pc ls (.int b :: st) M Q) : zS l G y fr lo bc bs pc ls (.int a :: st) M Q := by rw [h]; exact k
theorem s_topl {a b : Int64} (h : a = b) (k : zS l G y fr lo bc bs pc ls (.long b :: st) M Q) : zS l G y fr lo bc bs pc ls (.long a :: st) M Q := by rw [h]; exact k
theorem s_ls {ls' : List (Option Value)} (h : ls = ls') (k : zS l G y fr lo bc bs pc ls' st M Q) : zS l G y fr lo bc bs pc ls st M Q := by rw [h]; exact k
theorem s_mem {M' : zMem} (h : M = M') (k : zS l G y fr lo bc bs pc ls st M' Q) : zS l G y fr lo bc bs pc ls st M Q := by rw [h]; exact k
theorem nI_in2 {j n : Nat} (h : j < n) (hn : n < 100000) : vp_in (nI j) n := vp_in_nI h (by omega)
theorem nI_cl {j n : Nat} (h : j < n) (hn : n < 100000) : (nI j).toNatClampNeg = j := nI_clamp (by omega)
theorem s_ialoadN {a N j : Nat} (hd : decode (yC y) pc = .ok (.iaload, 1)) (hK : zK M a = 11) (hN : zN M a = N) (hj : j < N) (hn : N < 100000)
    (kk : zS l G y fr lo bc bs (pc + 1) ls (.int (zI M a j) :: st) M Q) : zS l G y fr lo bc bs pc ls (.int (nI j) :: .ref a :: st) M Q :=
  s_iaload hd hK (by rw [hN]; exact nI_in2 hj hn) (by rw [nI_cl hj hn]; exact kk)
theorem s_laloadN {a N j : Nat} (hd : decode (yC y) pc = .ok (.laload, 1)) (hK : zK M a = 12) (hN : zN M a = N) (hj : j < N) (hn : N < 100000)
    (kk : zS l G y fr lo bc bs (pc + 1) ls (.long (zJ M a j) :: st) M Q) : zS l G y fr lo bc bs pc ls (.int (nI j) :: .ref a :: st) M Q :=
  s_laload hd hK (by rw [hN]; exact nI_in2 hj hn) (by rw [nI_cl hj hn]; exact kk)
theorem s_baloadN {a N j : Nat} (hd : decode (yC y) pc = .ok (.baload, 1)) (hK : zK M a = 13) (hN : zN M a = N) (hj : j < N) (hn : N < 100000)
    (kk : zS l G y fr lo bc bs (pc + 1) ls (.int (zI M a j) :: st) M Q) : zS l G y fr lo bc bs pc ls (.int (nI j) :: .ref a :: st) M Q :=
  s_baload hd hK (by rw [hN]; exact nI_in2 hj hn) (by rw [nI_cl hj hn]; exact kk)
theorem s_aaloadN {a N j q r : Nat} (hd : decode (yC y) pc = .ok (.aaload, 1)) (hK : zK M a = 14 + q) (hq : q < 3) (hN : zN M a = N) (hj : j < N) (hn : N < 100000) (hr : zR M a j = some r)
    (kk : zS l G y fr lo bc bs (pc + 1) ls (.ref r :: st) M Q) : zS l G y fr lo bc bs pc ls (.int (nI j) :: .ref a :: st) M Q :=
  s_aaload hd hq hK (by rw [hN]; exact nI_in2 hj hn) (by rw [nI_cl hj hn]; exact hr) kk
theorem s_iastoreN {a N j : Nat} {x : Int32} (hd : decode (yC y) pc = .ok (.iastore, 1)) (hK : zK M a = 11) (hN : zN M a = N) (hj : j < N) (hn : N < 100000)
    (kk : zS l G y fr lo bc bs (pc + 1) ls st (zsI M a j x) Q) : zS l G y fr lo bc bs pc ls (.int x :: .int (nI j) :: .ref a :: st) M Q :=
  s_iastore hd hK (by rw [hN]; exact nI_in2 hj hn) (by rw [nI_cl hj hn]; exact kk)
theorem s_lastoreN {a N j : Nat} {x : Int64} (hd : decode (yC y) pc = .ok (.lastore, 1)) (hK : zK M a = 12) (hN : zN M a = N) (hj : j < N) (hn : N < 100000)
    (kk : zS l G y fr lo bc bs (pc + 1) ls st (zsJ M a j x) Q) : zS l G y fr lo bc bs pc ls (.long x :: .int (nI j) :: .ref a :: st) M Q :=
  s_lastore hd hK (by rw [hN]; exact nI_in2 hj hn) (by rw [nI_cl hj hn]; exact kk)
theorem s_bastoreN {a N j : Nat} {x : Int32} (hd : decode (yC y) pc = .ok (.bastore, 1)) (hK : zK M a = 13) (hN : zN M a = N) (hj : j < N) (hn : N < 100000) (hx : vp_nar .boolean x = x)
    (kk : zS l G y fr lo bc bs (pc + 1) ls st (zsI M a j x) Q) : zS l G y fr lo bc bs pc ls (.int x :: .int (nI j) :: .ref a :: st) M Q :=
  s_bastore hd hK (by rw [hN]; exact nI_in2 hj hn) hx (by rw [nI_cl hj hn]; exact kk)
theorem s_aastoreN {a N j q v ci : Nat} (hd : decode (yC y) pc = .ok (.aastore, 1)) (hK : zK M a = 14 + q) (hv : zK M v = ci + 1) (hci : ci < 10) (hcl : vwCl[ci]? = some (zCl ci)) (hty : ∀ G : zG, (zty G)[3 + q]? = some (gC G (3 + q), .object (zCl ci).1)) (hN : zN M a = N) (hj : j < N) (hn : N < 100000)
    (kk : zS l G y fr lo bc bs (pc + 1) ls st (zsR M a j (some v)) Q) : zS l G y fr lo bc bs pc ls (.ref v :: .int (nI j) :: .ref a :: st) M Q :=
  s_aastore hd hK hv hci hcl hty (by rw [hN]; exact nI_in2 hj hn) (by rw [nI_cl hj hn]; exact kk)
theorem s_callV0 {ci a : Nat} {v : Option Value} {M1 : zMem} (as : List Value) (hd : decode (yC y) pc = .ok (.invokevirtual i, 3)) (hw : zcv (yN y).cls i z n) (hK : zK M a = ci + 1) (hci : ci < 10) (hcl : vwCl[ci]? = some (zCl ci)) (hcn : (zCl ci).1 = (yN z).cls) (hn : as.length = n) (hst : (st.map fun v => v.category).sum ≤ 8) (hrm : fr1 + 1 ≤ fr ∧ 8 + (yL z + 11) + lo1 ≤ lo)
    (hM : zCm l G z fr1 lo1 0 0 (.ref a :: as) M (zD v M1)) (kk : zS l G y fr lo bc bs (pc + 3) ls (v.toList ++ st) M1 Q) :
    zS l G y fr lo bc bs pc ls (as.reverse ++ .ref a :: st) M Q := by
  have h := s_callV (mc := 0) (ms := 0) (bc := bc) (bs := bs) (Q := Q) (ls := ls) hd hw hK hci hcl hcn hn hst hrm hM (fun v' M' hq => by obtain ⟨h1, rfl⟩ := hq; cases h1; exact kk)
  rw [Nat.zero_add, Nat.zero_add] at h
  exact h
theorem s_callV1 {ci a : Nat} (as : List Value) (hd : decode (yC y) pc = .ok (.invokevirtual i, 3)) (hw : zcv (yN y).cls i z n) (hK : zK M a = ci + 1) (hci : ci < 10) (hcl : vwCl[ci]? = some (zCl ci)) (hcn : (zCl ci).1 = (yN z).cls) (hn : as.length = n) (hst : (st.map fun v => v.category).sum ≤ 8) (hrm : fr1 + 1 ≤ fr ∧ 8 + (yL z + 11) + lo1 ≤ lo)
    (hM : zCm l G z fr1 lo1 0 0 (.ref a :: as) M Q1) (kk : ∀ v M1, Q1 (.inl v) M1 → zS l G y fr lo bc bs (pc + 3) ls (v.toList ++ st) M1 Q) :
    zS l G y fr lo bc bs pc ls (as.reverse ++ .ref a :: st) M Q := by
  have h := s_callV (mc := 0) (ms := 0) (bc := bc) (bs := bs) (Q := Q) (ls := ls) hd hw hK hci hcl hcn hn hst hrm hM kk
  rw [Nat.zero_add, Nat.zero_add] at h
  exact h
theorem s_callS0 {v : Option Value} {M1 : zMem} (as : List Value) (hd : decode (yC y) pc = .ok (.invokestatic i, 3)) (hw : zcs (yN y).cls i z n) (hn : as.length = n) (hst : (st.map fun v => v.category).sum ≤ 8) (hrm : fr1 + 1 ≤ fr ∧ 8 + (yL z + 11) + lo1 ≤ lo)
    (hM : zCm l G z fr1 lo1 0 0 as M (zD v M1)) (kk : zS l G y fr lo bc bs (pc + 3) ls (v.toList ++ st) M1 Q) :
    zS l G y fr lo bc bs pc ls (as.reverse ++ st) M Q := by
  have h := s_callS (mc := 0) (ms := 0) (bc := bc) (bs := bs) (Q := Q) (ls := ls) hd hw hn hst hrm hM (fun v' M' hq => by obtain ⟨h1, rfl⟩ := hq; cases h1; exact kk)
  rw [Nat.zero_add, Nat.zero_add] at h
  exact h
theorem s_callSN0 {v : Option Value} {M1 : zMem} {host : String} (as : List Value) (hd : decode (yC y) pc = .ok (.invokestatic i, 3)) (hw : zcsN (yN y).cls i z host n) (hn : as.length = n) (hst : (st.map fun v => v.category).sum ≤ 8) (hrm : fr1 + 1 ≤ fr ∧ 8 + (yL z + 11) + lo1 ≤ lo)
    (hM : zCm l G z fr1 lo1 0 0 as M (zD v M1)) (kk : zS l G y fr lo bc bs (pc + 3) ls (v.toList ++ st) M1 Q) :
    zS l G y fr lo bc bs pc ls (as.reverse ++ st) M Q := by
  have h := s_callSN (mc := 0) (ms := 0) (bc := bc) (bs := bs) (Q := Q) (ls := ls) hd hw hn hst hrm hM (fun v' M' hq => by obtain ⟨h1, rfl⟩ := hq; cases h1; exact kk)
  rw [Nat.zero_add, Nat.zero_add] at h
  exact h
theorem s_callS1 (as : List Value) (hd : decode (yC y) pc = .ok (.invokestatic i, 3)) (hw : zcs (yN y).cls i z n) (hn : as.length = n) (hst : (st.map fun v => v.category).sum ≤ 8) (hrm : fr1 + 1 ≤ fr ∧ 8 + (yL z + 11) + lo1 ≤ lo)
    (hM : zCm l G z fr1 lo1 0 0 as M Q1) (kk : ∀ v M1, Q1 (.inl v) M1 → zS l G y fr lo bc bs (pc + 3) ls (v.toList ++ st) M1 Q) :
    zS l G y fr lo bc bs pc ls (as.reverse ++ st) M Q := by
  have h := s_callS (mc := 0) (ms := 0) (bc := bc) (bs := bs) (Q := Q) (ls := ls) hd hw hn hst hrm hM kk
  rw [Nat.zero_add, Nat.zero_add] at h
  exact h
/-- contracts of methods that make nothing -/
theorem zCm.of0 {ls0 : List (Option Value)} (hpn : plainName (yN y).cls = true) (hH : yH y = []) (hl : l.stackTraces = false) (hen : zen (yL y) as = ls0) (hle : (zea as).length ≤ yL y)
    (hM : ∀ v M', Q (.inl v) M' → zsh M M') (hn : ∀ x M', ¬ Q (.inr x) M')
    (h : zS l G y fr lo 0 0 0 ls0 [] M Q) : zCm l G y fr lo 0 0 as M Q :=
  zCm.of hpn hH hl hen hle (fun v M' q h0 => ⟨by rw [← zsh_F (hM v M' q)]; exact h0, by rw [zsh_T (hM v M' q)]; exact Nat.le_refl _⟩) hn h
theorem zCd.of {ls0 : List (Option Value)} {v : Option Value} {M1 : zMem} (hpn : plainName (yN y).cls = true) (hH : yH y = []) (hl : l.stackTraces = false) (hen : zen (yL y) as = ls0) (hle : (zea as).length ≤ yL y) (hM : zsh M M1)
    (h : zS l G y fr lo 0 0 0 ls0 [] M (zD v M1)) : zCm l G y fr lo 0 0 as M (zD v M1) :=
  zCm.of0 hpn hH hl hen hle (fun v' M' q => by rw [q.2]; exact hM) (fun x M' q => by cases q.1) h
/-- what is asked of the room may grow -/
theorem zS.room {fr' lo' : Nat} (h1 : fr' ≤ fr) (h2 : lo' ≤ lo) (k : zS l G y fr' lo' bc bs pc ls st M Q) : zS l G y fr' lo' bc bs pc ls st M Q := k
end ZH
end
section
/-! ===== methods of classes that hold natives too (Math, String) ===== -/
theorem zofF {l : Launch} {y : MethodName} {ws ws' : List Cond} {rm : Room} {Pc : Array Value → State → Prop} {Qc : Array Value → State → Outcome → State → Prop} {XC : String → State → State → Prop} {mc ms : Nat} {free : Addr → Prop} {cc : ByteArray} {maxL : Nat} {ret : Option FieldType}
    (hy : plainFor y = true) (hw : ws = Cond.code y cc maxL ret :: ws')
    (body : ∀ p e s m args below meth c s₁, BodyLoose p l y (headSpec ws rm) cc maxL ret e s m args below meth c s₁ → c.maxLocals = maxL → (∀ x ∈ c.exceptionTable.toList, False) → Pc args s →
      W p l e (headSpec ws rm).room s m args below meth c s.heap [] 0 0 (vx_MQ below Qc XC args s mc ms free) (entryFrame m args maxL)) : vx_Met l y ws rm Pc Qc XC mc ms free := by
  refine MetFree.of_bodySF (code := cc) (maxLocals := maxL) (ret := ret) hy ?_ ?_
  · intro args s m h hn
    obtain ⟨meth, c, h1, h2, h3, h4, h5, h6, -, -⟩ := Cond.code_spec hn (atoms_spec (ws := ws) h _ (by rw [hw]; exact List.mem_cons_self))
    exact ⟨meth, c, h1, h2, h3, h4, h5, h6⟩
  · intro p e s m args below meth c s₁ B hml hP _
    have hh0 : s₁.heap = s.heap := by rw [B.state]; rfl
    have ht : ∀ x ∈ c.exceptionTable.toList, False := by
      obtain ⟨meth9, c9, h1, h2, -, -, -, -, h7, -⟩ := Cond.code_spec B.named (atoms_spec (ws := ws) B.pre _ (by rw [hw]; exact List.mem_cons_self))
      cases Option.some.inj (h1.symm.trans B.method)
      cases Option.some.inj (h2.symm.trans (Stand.of_body B).code)
      intro x hx
      rw [Array.isEmpty_iff.mp h7] at hx
      cases hx
    obtain ⟨t, a1, o, b1, b2, b3⟩ := body p e s m args below meth c s₁ B hml ht hP s₁ hh0 (Stand.of_body B)
    exact ⟨t, o, a1, b1, b2, b3⟩
/-- a deterministic contract of such a method, that makes nothing -/
theorem zCd.ofF {l : Launch} {G : zG} {y : zMD} {fr lo : Nat} {as : List Value} {M : zMem} {ls0 : List (Option Value)} {v : Option Value} {M1 : zMem} (hpn : plainFor (yN y) = true) (hH : yH y = []) (hl : l.stackTraces = false) (hen : zen (yL y) as = ls0) (hle : (zea as).length ≤ yL y) (hM : zsh M M1)
    (h : zS l G y fr lo 0 0 0 ls0 [] M (zD v M1)) : zCm l G y fr lo 0 0 as M (zD v M1) := by
  have hM0 : ∀ v' M', zD v M1 (.inl v') M' → zF M' = 0 → zF M = 0 ∧ zT M + 0 ≤ zT M' := fun v' M' q h0 => by
    obtain ⟨-, rfl⟩ := q
    exact ⟨by rw [← zsh_F hM]; exact h0, by rw [zsh_T hM]; exact Nat.le_refl _⟩
  have hn : ∀ x M', ¬ zD v M1 (.inr x) M' := fun x M' q => by cases q.1
  refine zCm.of2 ?_ hn
  refine zofF (cc := yC y) (maxL := yL y) (ret := yR y) hpn rfl ?_
  intro p e s m args below meth c s₁ B hml ht hv
  obtain ⟨rfl, hC, hwf, hP, hcnt⟩ := hv
  have hts0 := atoms_spec (ws := zws y) B.pre
  have hts : ∀ w ∈ zGW, w.before ((as.map (zv G)).toArray) s = true := fun w hw => hts0 w (List.mem_cons_of_mem _ hw)
  have htab : c.exceptionTable.toList = tableOf (yH y) := by
    rw [hH]
    cases hc : c.exceptionTable.toList with
    | nil => rfl
    | cons x t => exact (ht x (by rw [hc]; exact List.mem_cons_self)).elim
  have F : zFix l G y fr lo p (headSpec (zws y) (zrm fr lo 0 0)).room s m ((as.map (zv G)).toArray) meth c :=
    ⟨B.exec, B.bytes, hml, findClass_of_methodNamed B.named, hts, B.notSynchronized, B.returns, (name_of_methodNamed B.named B.method).1, hl, Nat.le_refl fr, Nat.le_refl lo, htab, hC⟩
  rw [lg_entry_eq]
  have hlv := lv_entry (as.map (zv G)) (n := yL y) (by rw [zsl_len]; exact hle)
  generalize (lg_sl (as.map (zv G)) ++ List.replicate (yL y - (lg_sl (as.map (zv G))).length) Slot.unset).toArray = la at hlv ⊢
  have hl0 : lv_has la (yL y) (zll G ls0) := by rw [← hen, zll_en]; exact hlv
  refine h p e _ s m _ below meth c s.heap [] 0 0 _ la F (Nat.le_refl 0) (Nat.le_refl 0) ⟨hwf, hP, va_S.rf, fun hz => by rw [Nat.add_zero]; exact hcnt hz⟩ hl0 ⟨?_, fun x M' q => absurd q (hn x M'), fun x M' q => absurd q (hn x _)⟩
  intro v M' hq H locs cells slots pc la hc hs hW hz
  refine W.widen (k := 0) (n := 0) hc hs (vx_ret ?_)
  refine zret_row F hM0 hq (hW.widen fun h0 => ?_) hz
  have h1 := hM0 v M' hq h0
  have h2 := hcnt h1.1
  omega
end
section
theorem zc_bipush_12 : (Int8.ofInt 12).toInt32 = nI 12 := by decide
theorem zc_iconst_m1 : Int32.ofInt (-1) = (-1) := by decide
theorem zc_iconst_0 : Int32.ofInt 0 = nI 0 := by decide
theorem zc_iconst_1 : Int32.ofInt 1 = nI 1 := by decide
/-! ===== FileRow ===== -/
/-- a file's row: its kind, its two rows of numbers -/
def rSh (M : zMem) (a : Nat) : Prop := zK M a = 1 ∧ zR M a 8 = some (a + 1) ∧ zR M a 9 = some (a + 2) ∧ zK M (a + 1) = 11 ∧ zN M (a + 1) = 24 ∧ zK M (a + 2) = 11 ∧ zN M (a + 2) = 12
theorem nle {a b : Nat} (h : nI a ≤ nI b) (ha : a < 100000) (hb : b < 100000) : a ≤ b := (nI_leI (by omega) (by omega)).mp h
theorem nlt {a b : Nat} (h : ¬ nI a ≤ nI b) (ha : a < 100000) (hb : b < 100000) : b < a := by
  rcases Nat.lt_or_ge b a with q | q
  · exact q
  · exact absurd (nI_le q (by omega)) h
theorem nlt' {a b : Nat} (h : nI a < nI b) (ha : a < 100000) (hb : b < 100000) : a < b := (nI_ltI (by omega) (by omega)).mp h
theorem nge' {a b : Nat} (h : ¬ nI a < nI b) (ha : a < 100000) (hb : b < 100000) : b ≤ a := by
  rcases Nat.lt_or_ge a b with q | q
  · exact absurd (nI_lt q (by omega)) h
  · exact q
theorem neq {a b : Nat} (h : nI a = nI b) (ha : a < 100000) (hb : b < 100000) : a = b := (nI_eq (by omega) (by omega)).mp h
theorem nne {a b : Nat} (h : ¬ nI a = nI b) : a ≠ b := fun q => h (by rw [q])
theorem ngt0 {x : Int32} (h : x ≤ 0) : ¬ 0 < x := Int32.not_lt.mpr h
/-- how many of the first n are known -/
def zkn (g : Nat → Int32) : Nat → Int32
  | 0 => nI 0
  | n + 1 => if g n = (-1) then zkn g n else zkn g n + nI 1
/-- the sum of those that are known -/
def zsm (g : Nat → Int32) : Nat → Int32
  | 0 => nI 0
  | n + 1 => if g n = (-1) then zsm g n else zsm g n + g n
/-- the greatest so far: where, what -/
def zbp (g : Nat → Int32) : Nat → Int32 × Int32
  | 0 => (-1, -1)
  | n + 1 => if g n ≤ (zbp g n).2 then zbp g n else (nI n, g n)
/-- the least of the known, from m -/
def zlt (g : Nat → Int32) (m : Int32) : Nat → Int32
  | 0 => m
  | n + 1 => if g n = (-1) then zlt g m n else if zlt g m n ≤ g n then zlt g m n else g n
def zspr (g : Nat → Int32) : Int32 := if (zbp g 12).1 = (-1) then nI 0 else (zbp g 12).2 - zlt g (zbp g 12).2 12
def zmn (g : Nat → Int32) : Int32 := if zkn g 12 = 0 then nI 0 else zsm g 12 / zkn g 12
def zfc (g : Nat → Int32) (ph : Nat) : Int32 := if g ph = (-1) then zmn g else g ph
def zlv (old u rate : Int32) : Int32 := if old = (-1) then nI 16 * u else old + (nI 16 * u - old) * rate / nI 8
def zab (x : Int32) : Int32 := if x < 0 then -x else x
/-- differences at a distance -/
def zdf (u : Nat → Int32) (c : Nat) : Nat → Int32
  | 0 => nI 0
  | i + 1 => zdf u c i + zab (u i - u (i + c))
/-- the own cycle, over the numbers from 2 to 1 + k: the best, its sum, its pairs -/
def zoc (u : Nat → Int32) (n : Nat) : Nat → Int32 × Int32 × Int32
  | 0 => (-1, nI 0, nI 1)
  | k + 1 => if (zoc u n k).1 = (-1) ∨ zdf u (k + 2) (n - (k + 2)) * (zoc u n k).2.2 < (zoc u n k).2.1 * nI (n - (k + 2)) then (nI (k + 2), zdf u (k + 2) (n - (k + 2)), nI (n - (k + 2))) else zoc u n k
theorem zbp_at (g : Nat → Int32) : ∀ n, (zbp g n).1 = (-1) ∧ (zbp g n).2 = (-1) ∨ ∃ j, j < n ∧ (zbp g n).1 = nI j ∧ (zbp g n).2 = g j
  | 0 => Or.inl ⟨rfl, rfl⟩
  | n + 1 => by
    unfold zbp
    by_cases h : g n ≤ (zbp g n).2
    · rw [if_pos h]
      rcases zbp_at g n with q | ⟨j, h1, h2, h3⟩
      · exact Or.inl q
      · exact Or.inr ⟨j, by omega, h2, h3⟩
    · rw [if_neg h]
      exact Or.inr ⟨n, by omega, rfl, rfl⟩
/-- a row's contents as they were, but for one place -/
def zw1 (g : Nat → Int32) (k : Nat) (v : Int32) : Nat → Int32 := fun j => if j = k then v else g j
theorem zsA_1 (M : zMem) (a k : Nat) (g : Nat → Int32) (v : Int32) : zsI (zsA M a g) a k v = zsA M a (zw1 g k v) := by
  unfold zsI zsA
  congr 1
  funext b
  unfold zu zur zw1
  by_cases h : b = a
  · simp [h]
  · simp [h]
theorem zsA_0 (M : zMem) (a k : Nat) (v : Int32) : zsI M a k v = zsA M a (zw1 (zI M a) k v) := by
  unfold zsI zsA
  congr 1
theorem zsA_id (M : zMem) (a : Nat) : zsA M a (zI M a) = M := by
  unfold zsA
  have : zur M.1 a (zI M a) = M.1 := by
    funext b
    unfold zur
    by_cases h : b = a
    · rw [if_pos h, h]; rfl
    · rw [if_neg h]
  rw [this]
theorem zsA_g {M : zMem} {a : Nat} {g h : Nat → Int32} (e : g = h) : zsA M a g = zsA M a h := by rw [e]
theorem zsA_zsA (M : zMem) (a : Nat) (g h : Nat → Int32) : zsA (zsA M a g) a h = zsA M a h := by
  unfold zsA
  congr 1
  funext b
  unfold zur
  by_cases q : b = a
  · simp [q]
  · simp [q]
theorem zI_A (M : zMem) (a : Nat) (g : Nat → Int32) : zI (zsA M a g) a = g := if_pos rfl
theorem zI_An (M : zMem) {a b : Nat} (g : Nat → Int32) (h : b ≠ a) : zI (zsA M a g) b = zI M b := if_neg h
/-- unknown in the first n -/
def zuk (g : Nat → Int32) (n : Nat) : Nat → Int32 := fun j => if j < n then (-1) else g j
theorem zuk_0 (g : Nat → Int32) : zuk g 0 = g := by funext j; unfold zuk; rw [if_neg (by omega)]
theorem zuk_1 (g : Nat → Int32) (n : Nat) : zw1 (zuk g n) n (-1) = zuk g (n + 1) := by
  funext j
  unfold zw1 zuk
  by_cases h : j = n
  · rw [if_pos h, if_pos (by omega)]
  · rw [if_neg h]
    by_cases q : j < n
    · rw [if_pos q, if_pos (by omega)]
    · rw [if_neg q, if_neg (by omega)]
section
variable {l : Launch} {G : zG}
theorem c_abs (hl : l.stackTraces = false) (M : zMem) (x : Int32) : zCm l G mJ9_abs_0f7a4 0 0 0 0 [.int x] M (zD (some (.int (zab x))) M) := by
  refine zCd.ofF (ls0 := [some (.int (x))]) (by decide +kernel) rfl hl rfl (Nat.le_of_ble_eq_true rfl) rfl ?_
  refine s_iload_n (zdk hJ9_abs_0f7a4 0 rfl) rfl ?_
  refine s_if_ge 9 (zdk hJ9_abs_0f7a4 1 rfl) (by decide) (fun c1 => ?_) (fun c1 => ?_)
  · refine s_iload_n (zdk hJ9_abs_0f7a4 5 rfl) rfl ?_
    refine s_ireturn (zdk hJ9_abs_0f7a4 6 rfl) rfl rfl ?_
    first | exact ⟨by rw [zab, if_neg (Int32.not_lt.mpr c1)], rfl⟩ | exact ⟨by rw [zab, if_pos (Int32.not_le.mp c1)], rfl⟩
  · refine s_iload_n (zdk hJ9_abs_0f7a4 2 rfl) rfl ?_
    refine s_ineg (zdk hJ9_abs_0f7a4 3 rfl) ?_
    refine s_goto 10 (zdk hJ9_abs_0f7a4 4 rfl) (by decide) ?_
    refine s_ireturn (zdk hJ9_abs_0f7a4 6 rfl) rfl rfl ?_
    first | exact ⟨by rw [zab, if_neg (Int32.not_lt.mpr c1)], rfl⟩ | exact ⟨by rw [zab, if_pos (Int32.not_le.mp c1)], rfl⟩
theorem c_floorMod (hl : l.stackTraces = false) (M : zMem) {x c : Nat} (hx : x < 100000) (hc0 : 0 < c) (hc : c < 100000) : zCm l G mJ9_floorMod_7cf53 0 0 0 0 [.int (nI x), .int (nI c)] M (zD (some (.int (nI (x % c)))) M) := by
  refine zCd.ofF (ls0 := [some (.int (nI x)), some (.int (nI c)), none]) (by decide +kernel) rfl hl rfl (Nat.le_of_ble_eq_true rfl) rfl ?_
  have hxor : 0 ≤ nI x ^^^ nI c := by
    have h1 : (nI x ^^^ nI c).toBitVec.toNat < 2 ^ 31 := by
      have e1 : (nI x).toBitVec.toNat = x := pk_tn (by omega)
      have e2 : (nI c).toBitVec.toNat = c := pk_tn (by omega)
      show ((nI x).toBitVec ^^^ (nI c).toBitVec).toNat < _
      rw [BitVec.toNat_xor, e1, e2]
      exact Nat.xor_lt_two_pow (by omega) (by omega)
    rw [Int32.le_iff_toInt_le]
    show (0 : Int) ≤ (nI x ^^^ nI c).toBitVec.toInt
    rw [BitVec.toInt_eq_toNat_cond, if_pos (by omega)]
    omega
  refine s_iload_n (zdk hJ9_floorMod_7cf53 0 rfl) rfl ?_
  refine s_iload_n (zdk hJ9_floorMod_7cf53 1 rfl) rfl ?_
  refine s_irem (zdk hJ9_floorMod_7cf53 2 rfl) (fun q => by have := nI_ne0 hc0 (by omega); exact this q) ?_
  refine s_topi (b := nI (x % c)) (pk_rem (by omega) hc0 (by omega)) ?_
  refine s_istore_n (zdk hJ9_floorMod_7cf53 3 rfl) (Nat.le_of_ble_eq_true rfl) ?_
  refine s_ls (ls' := [some (.int (nI x)), some (.int (nI c)), some (.int (nI (x % c)))]) rfl ?_
  refine s_iload_n (zdk hJ9_floorMod_7cf53 4 rfl) rfl ?_
  refine s_iload_n (zdk hJ9_floorMod_7cf53 5 rfl) rfl ?_
  refine s_ixor (zdk hJ9_floorMod_7cf53 6 rfl) ?_
  refine s_if_ge 18 (zdk hJ9_floorMod_7cf53 7 rfl) (by decide) (fun c7 => ?_) (fun c7 => ?_)
  · refine s_iload_n (zdk hJ9_floorMod_7cf53 14 rfl) rfl ?_
    refine s_ireturn (zdk hJ9_floorMod_7cf53 15 rfl) rfl rfl ?_
    exact ⟨rfl, rfl⟩
  · exact absurd hxor c7
theorem c_X0_isPinnedIn (hl : l.stackTraces = false) {M : zMem} {a : Nat} (ha : rSh M a) (per : Int32) : zCm l G mX0_isPinnedIn 0 0 0 0 [.ref a, .int per] M (zD (some (.int (if per < zI M a 4 then nI 1 else nI 0))) M) := by
  refine zCd.of (ls0 := [some (.ref a), some (.int (per))]) (by decide +kernel) rfl hl rfl (Nat.le_of_ble_eq_true rfl) rfl ?_
  refine s_iload_n (zdk hX0_isPinnedIn 0 rfl) rfl ?_
  refine s_aload_n (zdk hX0_isPinnedIn 1 rfl) rfl ?_
  refine s_getI (zdk hX0_isPinnedIn 2 rfl) fw_X0_25 rfl (ha.1) ?_
  refine s_icmp_ge 12 (zdk hX0_isPinnedIn 3 rfl) (by decide) (fun c5 => ?_) (fun c5 => ?_)
  · refine s_iconstv (v := nI 0) (zdk hX0_isPinnedIn 6 rfl) zc_iconst_0 ?_
    refine s_ireturn (zdk hX0_isPinnedIn 7 rfl) rfl rfl ?_
    first | (rw [if_neg (Int32.not_lt.mpr c5)]; exact ⟨rfl, rfl⟩) | (rw [if_pos (Int32.not_le.mp c5)]; exact ⟨rfl, rfl⟩)
  · refine s_iconstv (v := nI 1) (zdk hX0_isPinnedIn 4 rfl) zc_iconst_1 ?_
    refine s_goto 13 (zdk hX0_isPinnedIn 5 rfl) (by decide) ?_
    refine s_ireturn (zdk hX0_isPinnedIn 7 rfl) rfl rfl ?_
    first | (rw [if_neg (Int32.not_lt.mpr c5)]; exact ⟨rfl, rfl⟩) | (rw [if_pos (Int32.not_le.mp c5)]; exact ⟨rfl, rfl⟩)
theorem w_X0_forgetSeasons_2 {M : zMem} {a : Nat} (ha : rSh M a) : ∀ (k : Nat) (i : Nat), i ≤ 12 → 12 - i < k → zS l G mX0_forgetSeasons 0 0 0 0 2 [some (.ref a), some (.int (nI i))] [] (zsA M (a + 2) (zuk (zI M (a + 2)) i)) (zD none (zsA M (a + 2) (zuk (zI M (a + 2)) 12))) := by
  intro k
  induction k with
  | zero => intros; omega
  | succ k ih =>
    intro i hi hk
    refine s_iload_n (zdk hX0_forgetSeasons 2 rfl) rfl ?_
    refine s_bipushv (v := nI 12) (zdk hX0_forgetSeasons 3 rfl) zc_bipush_12 ?_
    refine s_icmp_ge 21 (zdk hX0_forgetSeasons 4 rfl) (by decide) (fun c5 => ?_) (fun c5 => ?_)
    · obtain rfl : i = 12 := by have := nle c5 (by omega) (by omega); omega
      refine s_return (zdk hX0_forgetSeasons 12 rfl) rfl ?_
      exact ⟨rfl, rfl⟩
    · have hi2 : i < 12 := nlt c5 (by omega) (by omega)
      refine s_aload_n (zdk hX0_forgetSeasons 5 rfl) rfl ?_
      refine s_getR (zdk hX0_forgetSeasons 6 rfl) fw_X0_41 rfl (ha.1) (ha.2.2.1) ?_
      refine s_iload_n (zdk hX0_forgetSeasons 7 rfl) rfl ?_
      refine s_iconstv (v := (-1)) (zdk hX0_forgetSeasons 8 rfl) zc_iconst_m1 ?_
      refine s_iastoreN (N := 12) (j := i) (zdk hX0_forgetSeasons 9 rfl) (ha.2.2.2.2.2.1) (ha.2.2.2.2.2.2) (hi2) (by decide) ?_
      refine s_mem (M' := (zsA M (a + 2) (zuk (zI M (a + 2)) (i + 1)))) ((zsA_1 M (a + 2) i _ _).trans (zsA_g (zuk_1 _ _))) ?_
      refine s_iinc (r := nI (i + 1)) (zdk hX0_forgetSeasons 10 rfl) (Nat.le_of_ble_eq_true rfl) rfl (nI_1 i) ?_
      refine s_ls (ls' := [some (.ref a), some (.int (nI (i + 1)))]) rfl ?_
      refine s_goto 2 (zdk hX0_forgetSeasons 11 rfl) (by decide) ?_
      exact ih (i + 1) (by omega) (by omega)
theorem c_X0_forgetSeasons (hl : l.stackTraces = false) {M : zMem} {a : Nat} (ha : rSh M a) : zCm l G mX0_forgetSeasons 0 0 0 0 [.ref a] M (zD none (zsA M (a + 2) (zuk (zI M (a + 2)) 12))) := by
  refine zCd.of (ls0 := [some (.ref a), none]) (by decide +kernel) rfl hl rfl (Nat.le_of_ble_eq_true rfl) rfl ?_
  refine s_iconstv (v := nI 0) (zdk hX0_forgetSeasons 0 rfl) zc_iconst_0 ?_
  refine s_istore_n (zdk hX0_forgetSeasons 1 rfl) (Nat.le_of_ble_eq_true rfl) ?_
  refine s_ls (ls' := [some (.ref a), some (.int (nI 0))]) rfl ?_
  have h := w_X0_forgetSeasons_2 (l := l) (G := G) ha 13 0 (by omega) (by omega)
  rw [zuk_0, zsA_id] at h
  exact h
theorem w_X0_knownSeasons_4 {M : zMem} {a : Nat} (ha : rSh M a) : ∀ (k : Nat) (i : Nat), i ≤ 12 → 12 - i < k → zS l G mX0_knownSeasons 0 0 0 0 4 [some (.ref a), some (.int (zkn (zI M (a + 2)) i)), some (.int (nI i))] [] M (zD (some (.int (zkn (zI M (a + 2)) 12))) M) := by
  intro k
  induction k with
  | zero => intros; omega
  | succ k ih =>
    intro i hi hk
    refine s_iload_n (zdk hX0_knownSeasons 4 rfl) rfl ?_
    refine s_bipushv (v := nI 12) (zdk hX0_knownSeasons 5 rfl) zc_bipush_12 ?_
    refine s_icmp_ge 29 (zdk hX0_knownSeasons 6 rfl) (by decide) (fun c7 => ?_) (fun c7 => ?_)
    · obtain rfl : i = 12 := by have := nle c7 (by omega) (by omega); omega
      refine s_iload_n (zdk hX0_knownSeasons 16 rfl) rfl ?_
      refine s_ireturn (zdk hX0_knownSeasons 17 rfl) rfl rfl ?_
      exact ⟨rfl, rfl⟩
    · have hi2 : i < 12 := nlt c7 (by omega) (by omega)
      refine s_aload_n (zdk hX0_knownSeasons 7 rfl) rfl ?_
      refine s_getR (zdk hX0_knownSeasons 8 rfl) fw_X0_41 rfl (ha.1) (ha.2.2.1) ?_
      refine s_iload_n (zdk hX0_knownSeasons 9 rfl) rfl ?_
      refine s_ialoadN (N := 12) (j := i) (zdk hX0_knownSeasons 10 rfl) (ha.2.2.2.2.2.1) (ha.2.2.2.2.2.2) (hi2) (by decide) ?_
      refine s_iconstv (v := (-1)) (zdk hX0_knownSeasons 11 rfl) zc_iconst_m1 ?_
      refine s_icmp_eq 23 (zdk hX0_knownSeasons 12 rfl) (by decide) (fun c17 => ?_) (fun c17 => ?_)
      · have e1 : zkn (zI M (a + 2)) (i + 1) = zkn (zI M (a + 2)) i := if_pos c17
        rw [← e1]
        refine s_iinc (r := nI (i + 1)) (zdk hX0_knownSeasons 14 rfl) (Nat.le_of_ble_eq_true rfl) rfl (nI_1 i) ?_
        refine s_ls (ls' := [some (.ref a), some (.int (zkn (zI M (a + 2)) (i + 1))), some (.int (nI (i + 1)))]) rfl ?_
        refine s_goto 4 (zdk hX0_knownSeasons 15 rfl) (by decide) ?_
        exact ih (i + 1) (by omega) (by omega)
      · have e1 : zkn (zI M (a + 2)) (i + 1) = zkn (zI M (a + 2)) i + nI 1 := if_neg c17
        refine s_iinc (r := zkn (zI M (a + 2)) i + nI 1) (zdk hX0_knownSeasons 13 rfl) (Nat.le_of_ble_eq_true rfl) rfl (rfl) ?_
        refine s_ls (ls' := [some (.ref a), some (.int (zkn (zI M (a + 2)) i + nI 1)), some (.int (nI i))]) rfl ?_
        rw [← e1]
        refine s_iinc (r := nI (i + 1)) (zdk hX0_knownSeasons 14 rfl) (Nat.le_of_ble_eq_true rfl) rfl (nI_1 i) ?_
        refine s_ls (ls' := [some (.ref a), some (.int (zkn (zI M (a + 2)) (i + 1))), some (.int (nI (i + 1)))]) rfl ?_
        refine s_goto 4 (zdk hX0_knownSeasons 15 rfl) (by decide) ?_
        exact ih (i + 1) (by omega) (by omega)
theorem c_X0_knownSeasons (hl : l.stackTraces = false) {M : zMem} {a : Nat} (ha : rSh M a) : zCm l G mX0_knownSeasons 0 0 0 0 [.ref a] M (zD (some (.int (zkn (zI M (a + 2)) 12))) M) := by
  refine zCd.of (ls0 := [some (.ref a), none, none]) (by decide +kernel) rfl hl rfl (Nat.le_of_ble_eq_true rfl) rfl ?_
  refine s_iconstv (v := nI 0) (zdk hX0_knownSeasons 0 rfl) zc_iconst_0 ?_
  refine s_istore_n (zdk hX0_knownSeasons 1 rfl) (Nat.le_of_ble_eq_true rfl) ?_
  refine s_ls (ls' := [some (.ref a), some (.int (nI 0)), none]) rfl ?_
  refine s_iconstv (v := nI 0) (zdk hX0_knownSeasons 2 rfl) zc_iconst_0 ?_
  refine s_istore_n (zdk hX0_knownSeasons 3 rfl) (Nat.le_of_ble_eq_true rfl) ?_
  refine s_ls (ls' := [some (.ref a), some (.int (nI 0)), some (.int (nI 0))]) rfl ?_
  exact w_X0_knownSeasons_4 ha 13 0 (by omega) (by omega)
theorem w_X0_busiestPhase_6 {M : zMem} {a : Nat} (ha : rSh M a) : ∀ (k : Nat) (i : Nat), i ≤ 12 → 12 - i < k → zS l G mX0_busiestPhase 0 0 0 0 6 [some (.ref a), some (.int ((zbp (zI M (a + 2)) i).1)), some (.int ((zbp (zI M (a + 2)) i).2)), some (.int (nI i))] [] M (zD (some (.int ((zbp (zI M (a + 2)) 12).1))) M) := by
  intro k
  induction k with
  | zero => intros; omega
  | succ k ih =>
    intro i hi hk
    refine s_iload_n (zdk hX0_busiestPhase 6 rfl) rfl ?_
    refine s_bipushv (v := nI 12) (zdk hX0_busiestPhase 7 rfl) zc_bipush_12 ?_
    refine s_icmp_ge 37 (zdk hX0_busiestPhase 8 rfl) (by decide) (fun c9 => ?_) (fun c9 => ?_)
    · obtain rfl : i = 12 := by have := nle c9 (by omega) (by omega); omega
      refine s_iload_n (zdk hX0_busiestPhase 24 rfl) rfl ?_
      refine s_ireturn (zdk hX0_busiestPhase 25 rfl) rfl rfl ?_
      exact ⟨rfl, rfl⟩
    · have hi2 : i < 12 := nlt c9 (by omega) (by omega)
      refine s_aload_n (zdk hX0_busiestPhase 9 rfl) rfl ?_
      refine s_getR (zdk hX0_busiestPhase 10 rfl) fw_X0_41 rfl (ha.1) (ha.2.2.1) ?_
      refine s_iload_n (zdk hX0_busiestPhase 11 rfl) rfl ?_
      refine s_ialoadN (N := 12) (j := i) (zdk hX0_busiestPhase 12 rfl) (ha.2.2.2.2.2.1) (ha.2.2.2.2.2.2) (hi2) (by decide) ?_
      refine s_iload_n (zdk hX0_busiestPhase 13 rfl) rfl ?_
      refine s_icmp_le 31 (zdk hX0_busiestPhase 14 rfl) (by decide) (fun c19 => ?_) (fun c19 => ?_)
      · have e1 : zbp (zI M (a + 2)) (i + 1) = zbp (zI M (a + 2)) i := if_pos c19
        refine s_ls (ls' := [some (.ref a), some (.int ((zbp (zI M (a + 2)) (i + 1)).1)), some (.int ((zbp (zI M (a + 2)) (i + 1)).2)), some (.int (nI i))]) (by rw [e1]) ?_
        refine s_iinc (r := nI (i + 1)) (zdk hX0_busiestPhase 22 rfl) (Nat.le_of_ble_eq_true rfl) rfl (nI_1 i) ?_
        refine s_ls (ls' := [some (.ref a), some (.int ((zbp (zI M (a + 2)) (i + 1)).1)), some (.int ((zbp (zI M (a + 2)) (i + 1)).2)), some (.int (nI (i + 1)))]) rfl ?_
        refine s_goto 6 (zdk hX0_busiestPhase 23 rfl) (by decide) ?_
        exact ih (i + 1) (by omega) (by omega)
      · have e1 : zbp (zI M (a + 2)) (i + 1) = (nI i, zI M (a + 2) i) := if_neg c19
        refine s_aload_n (zdk hX0_busiestPhase 15 rfl) rfl ?_
        refine s_getR (zdk hX0_busiestPhase 16 rfl) fw_X0_41 rfl (ha.1) (ha.2.2.1) ?_
        refine s_iload_n (zdk hX0_busiestPhase 17 rfl) rfl ?_
        refine s_ialoadN (N := 12) (j := i) (zdk hX0_busiestPhase 18 rfl) (ha.2.2.2.2.2.1) (ha.2.2.2.2.2.2) (hi2) (by decide) ?_
        refine s_istore_n (zdk hX0_busiestPhase 19 rfl) (Nat.le_of_ble_eq_true rfl) ?_
        refine s_ls (ls' := [some (.ref a), some (.int ((zbp (zI M (a + 2)) i).1)), some (.int (zI M (a + 2) (i))), some (.int (nI i))]) rfl ?_
        refine s_iload_n (zdk hX0_busiestPhase 20 rfl) rfl ?_
        refine s_istore_n (zdk hX0_busiestPhase 21 rfl) (Nat.le_of_ble_eq_true rfl) ?_
        refine s_ls (ls' := [some (.ref a), some (.int (nI i)), some (.int (zI M (a + 2) (i))), some (.int (nI i))]) rfl ?_
        refine s_ls (ls' := [some (.ref a), some (.int ((zbp (zI M (a + 2)) (i + 1)).1)), some (.int ((zbp (zI M (a + 2)) (i + 1)).2)), some (.int (nI i))]) (by rw [e1]) ?_
        refine s_iinc (r := nI (i + 1)) (zdk hX0_busiestPhase 22 rfl) (Nat.le_of_ble_eq_true rfl) rfl (nI_1 i) ?_
        refine s_ls (ls' := [some (.ref a), some (.int ((zbp (zI M (a + 2)) (i + 1)).1)), some (.int ((zbp (zI M (a + 2)) (i + 1)).2)), some (.int (nI (i + 1)))]) rfl ?_
        refine s_goto 6 (zdk hX0_busiestPhase 23 rfl) (by decide) ?_
        exact ih (i + 1) (by omega) (by omega)
end
end
section
theorem zc_bipush_8 : (Int8.ofInt 8).toInt32 = nI 8 := by decide
theorem zc_bipush_16 : (Int8.ofInt 16).toInt32 = nI 16 := by decide
theorem zc_iconst_2 : Int32.ofInt 2 = nI 2 := by decide
section
variable {l : Launch} {G : zG}
theorem c_X0_busiestPhase (hl : l.stackTraces = false) {M : zMem} {a : Nat} (ha : rSh M a) : zCm l G mX0_busiestPhase 0 0 0 0 [.ref a] M (zD (some (.int ((zbp (zI M (a + 2)) 12).1))) M) := by
  refine zCd.of (ls0 := [some (.ref a), none, none, none]) (by decide +kernel) rfl hl rfl (Nat.le_of_ble_eq_true rfl) rfl ?_
  refine s_iconstv (v := (-1)) (zdk hX0_busiestPhase 0 rfl) zc_iconst_m1 ?_
  refine s_istore_n (zdk hX0_busiestPhase 1 rfl) (Nat.le_of_ble_eq_true rfl) ?_
  refine s_ls (ls' := [some (.ref a), some (.int ((-1))), none, none]) rfl ?_
  refine s_iconstv (v := (-1)) (zdk hX0_busiestPhase 2 rfl) zc_iconst_m1 ?_
  refine s_istore_n (zdk hX0_busiestPhase 3 rfl) (Nat.le_of_ble_eq_true rfl) ?_
  refine s_ls (ls' := [some (.ref a), some (.int ((-1))), some (.int ((-1))), none]) rfl ?_
  refine s_iconstv (v := nI 0) (zdk hX0_busiestPhase 4 rfl) zc_iconst_0 ?_
  refine s_istore_n (zdk hX0_busiestPhase 5 rfl) (Nat.le_of_ble_eq_true rfl) ?_
  refine s_ls (ls' := [some (.ref a), some (.int ((-1))), some (.int ((-1))), some (.int (nI 0))]) rfl ?_
  exact w_X0_busiestPhase_6 ha 13 0 (by omega) (by omega)
theorem w_X0_seasonSpread_24 {M : zMem} {a : Nat} (ha : rSh M a) (x1 m : Int32) : ∀ (k : Nat) (i : Nat), i ≤ 12 → 12 - i < k → zS l G mX0_seasonSpread 1 23 0 0 24 [some (.ref a), some (.int (x1)), some (.int (m)), some (.int (zlt (zI M (a + 2)) m i)), some (.int (nI i))] [] M (zD (some (.int (m - zlt (zI M (a + 2)) m 12))) M) := by
  intro k
  induction k with
  | zero => intros; omega
  | succ k ih =>
    intro i hi hk
    refine s_iload (zdk hX0_seasonSpread 17 rfl) rfl ?_
    refine s_bipushv (v := nI 12) (zdk hX0_seasonSpread 18 rfl) zc_bipush_12 ?_
    refine s_icmp_ge 67 (zdk hX0_seasonSpread 19 rfl) (by decide) (fun c28 => ?_) (fun c28 => ?_)
    · obtain rfl : i = 12 := by have := nle c28 (by omega) (by omega); omega
      refine s_iload_n (zdk hX0_seasonSpread 39 rfl) rfl ?_
      refine s_iload_n (zdk hX0_seasonSpread 40 rfl) rfl ?_
      refine s_isub (zdk hX0_seasonSpread 41 rfl) ?_
      refine s_ireturn (zdk hX0_seasonSpread 42 rfl) rfl rfl ?_
      exact ⟨rfl, rfl⟩
    · have hi2 : i < 12 := nlt c28 (by omega) (by omega)
      refine s_aload_n (zdk hX0_seasonSpread 20 rfl) rfl ?_
      refine s_getR (zdk hX0_seasonSpread 21 rfl) fw_X0_41 rfl (ha.1) (ha.2.2.1) ?_
      refine s_iload (zdk hX0_seasonSpread 22 rfl) rfl ?_
      refine s_ialoadN (N := 12) (j := i) (zdk hX0_seasonSpread 23 rfl) (ha.2.2.2.2.2.1) (ha.2.2.2.2.2.2) (hi2) (by decide) ?_
      refine s_iconstv (v := (-1)) (zdk hX0_seasonSpread 24 rfl) zc_iconst_m1 ?_
      refine s_icmp_eq 61 (zdk hX0_seasonSpread 25 rfl) (by decide) (fun c39 => ?_) (fun c39 => ?_)
      · have e1 : zlt (zI M (a + 2)) m (i + 1) = zlt (zI M (a + 2)) m i := if_pos c39
        refine s_ls (ls' := [some (.ref a), some (.int (x1)), some (.int (m)), some (.int (zlt (zI M (a + 2)) m (i + 1))), some (.int (nI i))]) (by rw [e1]) ?_
        refine s_iinc (r := nI (i + 1)) (zdk hX0_seasonSpread 37 rfl) (Nat.le_of_ble_eq_true rfl) rfl (nI_1 i) ?_
        refine s_ls (ls' := [some (.ref a), some (.int (x1)), some (.int (m)), some (.int (zlt (zI M (a + 2)) m (i + 1))), some (.int (nI (i + 1)))]) rfl ?_
        refine s_goto 24 (zdk hX0_seasonSpread 38 rfl) (by decide) ?_
        exact ih (i + 1) (by omega) (by omega)
      · refine s_aload_n (zdk hX0_seasonSpread 26 rfl) rfl ?_
        refine s_getR (zdk hX0_seasonSpread 27 rfl) fw_X0_41 rfl (ha.1) (ha.2.2.1) ?_
        refine s_iload (zdk hX0_seasonSpread 28 rfl) rfl ?_
        refine s_ialoadN (N := 12) (j := i) (zdk hX0_seasonSpread 29 rfl) (ha.2.2.2.2.2.1) (ha.2.2.2.2.2.2) (hi2) (by decide) ?_
        refine s_iload_n (zdk hX0_seasonSpread 30 rfl) rfl ?_
        refine s_icmp_ge 61 (zdk hX0_seasonSpread 31 rfl) (by decide) (fun c50 => ?_) (fun c50 => ?_)
        · have e1 : zlt (zI M (a + 2)) m (i + 1) = zlt (zI M (a + 2)) m i := (if_neg c39).trans (if_pos c50)
          refine s_ls (ls' := [some (.ref a), some (.int (x1)), some (.int (m)), some (.int (zlt (zI M (a + 2)) m (i + 1))), some (.int (nI i))]) (by rw [e1]) ?_
          refine s_iinc (r := nI (i + 1)) (zdk hX0_seasonSpread 37 rfl) (Nat.le_of_ble_eq_true rfl) rfl (nI_1 i) ?_
          refine s_ls (ls' := [some (.ref a), some (.int (x1)), some (.int (m)), some (.int (zlt (zI M (a + 2)) m (i + 1))), some (.int (nI (i + 1)))]) rfl ?_
          refine s_goto 24 (zdk hX0_seasonSpread 38 rfl) (by decide) ?_
          exact ih (i + 1) (by omega) (by omega)
        · have e1 : zlt (zI M (a + 2)) m (i + 1) = zI M (a + 2) i := (if_neg c39).trans (if_neg c50)
          refine s_aload_n (zdk hX0_seasonSpread 32 rfl) rfl ?_
          refine s_getR (zdk hX0_seasonSpread 33 rfl) fw_X0_41 rfl (ha.1) (ha.2.2.1) ?_
          refine s_iload (zdk hX0_seasonSpread 34 rfl) rfl ?_
          refine s_ialoadN (N := 12) (j := i) (zdk hX0_seasonSpread 35 rfl) (ha.2.2.2.2.2.1) (ha.2.2.2.2.2.2) (hi2) (by decide) ?_
          refine s_istore_n (zdk hX0_seasonSpread 36 rfl) (Nat.le_of_ble_eq_true rfl) ?_
          refine s_ls (ls' := [some (.ref a), some (.int (x1)), some (.int (m)), some (.int (zI M (a + 2) (i))), some (.int (nI i))]) rfl ?_
          refine s_ls (ls' := [some (.ref a), some (.int (x1)), some (.int (m)), some (.int (zlt (zI M (a + 2)) m (i + 1))), some (.int (nI i))]) (by rw [e1]) ?_
          refine s_iinc (r := nI (i + 1)) (zdk hX0_seasonSpread 37 rfl) (Nat.le_of_ble_eq_true rfl) rfl (nI_1 i) ?_
          refine s_ls (ls' := [some (.ref a), some (.int (x1)), some (.int (m)), some (.int (zlt (zI M (a + 2)) m (i + 1))), some (.int (nI (i + 1)))]) rfl ?_
          refine s_goto 24 (zdk hX0_seasonSpread 38 rfl) (by decide) ?_
          exact ih (i + 1) (by omega) (by omega)
theorem c_X0_seasonSpread (hl : l.stackTraces = false) {M : zMem} {a : Nat} (ha : rSh M a) : zCm l G mX0_seasonSpread 1 23 0 0 [.ref a] M (zD (some (.int (zspr (zI M (a + 2))))) M) := by
  refine zCd.of (ls0 := [some (.ref a), none, none, none, none]) (by decide +kernel) rfl hl rfl (Nat.le_of_ble_eq_true rfl) rfl ?_
  refine s_aload_n (zdk hX0_seasonSpread 0 rfl) rfl ?_
  refine s_callV0 (ci := 0) [] (zdk hX0_seasonSpread 1 rfl) cw_X0_53 (ha.1) (by decide) rfl rfl rfl (Nat.le_of_ble_eq_true rfl) (by decide) (c_X0_busiestPhase hl ha) ?_
  refine s_istore_n (zdk hX0_seasonSpread 2 rfl) (Nat.le_of_ble_eq_true rfl) ?_
  refine s_ls (ls' := [some (.ref a), some (.int ((zbp (zI M (a + 2)) 12).1)), none, none, none]) rfl ?_
  refine s_iload_n (zdk hX0_seasonSpread 3 rfl) rfl ?_
  refine s_iconstv (v := (-1)) (zdk hX0_seasonSpread 4 rfl) zc_iconst_m1 ?_
  refine s_icmp_ne 12 (zdk hX0_seasonSpread 5 rfl) (by decide) (fun c7 => ?_) (fun c7 => ?_)
  · obtain ⟨j, hj, e1, e2⟩ : ∃ j, j < 12 ∧ (zbp (zI M (a + 2)) 12).1 = nI j ∧ (zbp (zI M (a + 2)) 12).2 = zI M (a + 2) j := by
      rcases zbp_at (zI M (a + 2)) 12 with q | q
      · exact absurd q.1 c7
      · exact q
    refine s_ls (ls' := [some (.ref a), some (.int (nI j)), none, none, none]) (by rw [← e1]) ?_
    refine s_aload_n (zdk hX0_seasonSpread 8 rfl) rfl ?_
    refine s_getR (zdk hX0_seasonSpread 9 rfl) fw_X0_41 rfl (ha.1) (ha.2.2.1) ?_
    refine s_iload_n (zdk hX0_seasonSpread 10 rfl) rfl ?_
    refine s_ialoadN (N := 12) (j := j) (zdk hX0_seasonSpread 11 rfl) (ha.2.2.2.2.2.1) (ha.2.2.2.2.2.2) (hj) (by decide) ?_
    refine s_istore_n (zdk hX0_seasonSpread 12 rfl) (Nat.le_of_ble_eq_true rfl) ?_
    refine s_ls (ls' := [some (.ref a), some (.int (nI j)), some (.int (zI M (a + 2) (j))), none, none]) rfl ?_
    refine s_iload_n (zdk hX0_seasonSpread 13 rfl) rfl ?_
    refine s_istore_n (zdk hX0_seasonSpread 14 rfl) (Nat.le_of_ble_eq_true rfl) ?_
    refine s_ls (ls' := [some (.ref a), some (.int (nI j)), some (.int (zI M (a + 2) (j))), some (.int (zI M (a + 2) (j))), none]) rfl ?_
    refine s_iconstv (v := nI 0) (zdk hX0_seasonSpread 15 rfl) zc_iconst_0 ?_
    refine s_istore (zdk hX0_seasonSpread 16 rfl) (Nat.le_of_ble_eq_true rfl) ?_
    refine s_ls (ls' := [some (.ref a), some (.int (nI j)), some (.int (zI M (a + 2) (j))), some (.int (zI M (a + 2) (j))), some (.int (nI 0))]) rfl ?_
    have h := w_X0_seasonSpread_24 (l := l) (G := G) ha (nI j) (zI M (a + 2) j) 13 0 (by omega) (by omega)
    have e3 : zspr (zI M (a + 2)) = zI M (a + 2) j - zlt (zI M (a + 2)) (zI M (a + 2) j) 12 := by rw [zspr, if_neg c7, e2]
    rw [e3]
    exact h
  · refine s_iconstv (v := nI 0) (zdk hX0_seasonSpread 6 rfl) zc_iconst_0 ?_
    refine s_ireturn (zdk hX0_seasonSpread 7 rfl) rfl rfl ?_
    exact ⟨by rw [zspr, if_pos c7], rfl⟩
theorem w_X0_meanSeason_6 {M : zMem} {a : Nat} (ha : rSh M a) : ∀ (k : Nat) (i : Nat), i ≤ 12 → 12 - i < k → zS l G mX0_meanSeason 0 0 0 0 6 [some (.ref a), some (.int (zsm (zI M (a + 2)) i)), some (.int (zkn (zI M (a + 2)) i)), some (.int (nI i))] [] M (zD (some (.int (zmn (zI M (a + 2))))) M) := by
  intro k
  induction k with
  | zero => intros; omega
  | succ k ih =>
    intro i hi hk
    refine s_iload_n (zdk hX0_meanSeason 6 rfl) rfl ?_
    refine s_bipushv (v := nI 12) (zdk hX0_meanSeason 7 rfl) zc_bipush_12 ?_
    refine s_icmp_ge 40 (zdk hX0_meanSeason 8 rfl) (by decide) (fun c9 => ?_) (fun c9 => ?_)
    · obtain rfl : i = 12 := by have := nle c9 (by omega) (by omega); omega
      refine s_iload_n (zdk hX0_meanSeason 25 rfl) rfl ?_
      refine s_if_ne 48 (zdk hX0_meanSeason 26 rfl) (by decide) (fun c41 => ?_) (fun c41 => ?_)
      · refine s_iload_n (zdk hX0_meanSeason 29 rfl) rfl ?_
        refine s_iload_n (zdk hX0_meanSeason 30 rfl) rfl ?_
        refine s_idiv (zdk hX0_meanSeason 31 rfl) (c41) ?_
        refine s_ireturn (zdk hX0_meanSeason 32 rfl) rfl rfl ?_
        first | exact ⟨by rw [zmn, if_pos c41], rfl⟩ | exact ⟨by rw [zmn, if_neg c41], rfl⟩
      · refine s_iconstv (v := nI 0) (zdk hX0_meanSeason 27 rfl) zc_iconst_0 ?_
        refine s_goto 51 (zdk hX0_meanSeason 28 rfl) (by decide) ?_
        refine s_ireturn (zdk hX0_meanSeason 32 rfl) rfl rfl ?_
        first | exact ⟨by rw [zmn, if_pos c41], rfl⟩ | exact ⟨by rw [zmn, if_neg c41], rfl⟩
    · have hi2 : i < 12 := nlt c9 (by omega) (by omega)
      refine s_aload_n (zdk hX0_meanSeason 9 rfl) rfl ?_
      refine s_getR (zdk hX0_meanSeason 10 rfl) fw_X0_41 rfl (ha.1) (ha.2.2.1) ?_
      refine s_iload_n (zdk hX0_meanSeason 11 rfl) rfl ?_
      refine s_ialoadN (N := 12) (j := i) (zdk hX0_meanSeason 12 rfl) (ha.2.2.2.2.2.1) (ha.2.2.2.2.2.2) (hi2) (by decide) ?_
      refine s_iconstv (v := (-1)) (zdk hX0_meanSeason 13 rfl) zc_iconst_m1 ?_
      refine s_icmp_eq 34 (zdk hX0_meanSeason 14 rfl) (by decide) (fun c19 => ?_) (fun c19 => ?_)
      · have e1 : zsm (zI M (a + 2)) (i + 1) = zsm (zI M (a + 2)) i := if_pos c19
        have e2 : zkn (zI M (a + 2)) (i + 1) = zkn (zI M (a + 2)) i := if_pos c19
        refine s_ls (ls' := [some (.ref a), some (.int (zsm (zI M (a + 2)) (i + 1))), some (.int (zkn (zI M (a + 2)) (i + 1))), some (.int (nI i))]) (by rw [e1, e2]) ?_
        refine s_iinc (r := nI (i + 1)) (zdk hX0_meanSeason 23 rfl) (Nat.le_of_ble_eq_true rfl) rfl (nI_1 i) ?_
        refine s_ls (ls' := [some (.ref a), some (.int (zsm (zI M (a + 2)) (i + 1))), some (.int (zkn (zI M (a + 2)) (i + 1))), some (.int (nI (i + 1)))]) rfl ?_
        refine s_goto 6 (zdk hX0_meanSeason 24 rfl) (by decide) ?_
        exact ih (i + 1) (by omega) (by omega)
      · have e1 : zsm (zI M (a + 2)) (i + 1) = zsm (zI M (a + 2)) i + zI M (a + 2) i := if_neg c19
        have e2 : zkn (zI M (a + 2)) (i + 1) = zkn (zI M (a + 2)) i + nI 1 := if_neg c19
        refine s_iload_n (zdk hX0_meanSeason 15 rfl) rfl ?_
        refine s_aload_n (zdk hX0_meanSeason 16 rfl) rfl ?_
        refine s_getR (zdk hX0_meanSeason 17 rfl) fw_X0_41 rfl (ha.1) (ha.2.2.1) ?_
        refine s_iload_n (zdk hX0_meanSeason 18 rfl) rfl ?_
        refine s_ialoadN (N := 12) (j := i) (zdk hX0_meanSeason 19 rfl) (ha.2.2.2.2.2.1) (ha.2.2.2.2.2.2) (hi2) (by decide) ?_
        refine s_iadd (zdk hX0_meanSeason 20 rfl) ?_
        refine s_istore_n (zdk hX0_meanSeason 21 rfl) (Nat.le_of_ble_eq_true rfl) ?_
        refine s_ls (ls' := [some (.ref a), some (.int ((zsm (zI M (a + 2)) i) + (zI M (a + 2) (i)))), some (.int (zkn (zI M (a + 2)) i)), some (.int (nI i))]) rfl ?_
        refine s_iinc (r := zkn (zI M (a + 2)) i + nI 1) (zdk hX0_meanSeason 22 rfl) (Nat.le_of_ble_eq_true rfl) rfl (rfl) ?_
        refine s_ls (ls' := [some (.ref a), some (.int ((zsm (zI M (a + 2)) i) + (zI M (a + 2) (i)))), some (.int (zkn (zI M (a + 2)) i + nI 1)), some (.int (nI i))]) rfl ?_
        refine s_ls (ls' := [some (.ref a), some (.int (zsm (zI M (a + 2)) (i + 1))), some (.int (zkn (zI M (a + 2)) (i + 1))), some (.int (nI i))]) (by rw [e1, e2]) ?_
        refine s_iinc (r := nI (i + 1)) (zdk hX0_meanSeason 23 rfl) (Nat.le_of_ble_eq_true rfl) rfl (nI_1 i) ?_
        refine s_ls (ls' := [some (.ref a), some (.int (zsm (zI M (a + 2)) (i + 1))), some (.int (zkn (zI M (a + 2)) (i + 1))), some (.int (nI (i + 1)))]) rfl ?_
        refine s_goto 6 (zdk hX0_meanSeason 24 rfl) (by decide) ?_
        exact ih (i + 1) (by omega) (by omega)
theorem c_X0_meanSeason (hl : l.stackTraces = false) {M : zMem} {a : Nat} (ha : rSh M a) : zCm l G mX0_meanSeason 0 0 0 0 [.ref a] M (zD (some (.int (zmn (zI M (a + 2))))) M) := by
  refine zCd.of (ls0 := [some (.ref a), none, none, none]) (by decide +kernel) rfl hl rfl (Nat.le_of_ble_eq_true rfl) rfl ?_
  refine s_iconstv (v := nI 0) (zdk hX0_meanSeason 0 rfl) zc_iconst_0 ?_
  refine s_istore_n (zdk hX0_meanSeason 1 rfl) (Nat.le_of_ble_eq_true rfl) ?_
  refine s_ls (ls' := [some (.ref a), some (.int (nI 0)), none, none]) rfl ?_
  refine s_iconstv (v := nI 0) (zdk hX0_meanSeason 2 rfl) zc_iconst_0 ?_
  refine s_istore_n (zdk hX0_meanSeason 3 rfl) (Nat.le_of_ble_eq_true rfl) ?_
  refine s_ls (ls' := [some (.ref a), some (.int (nI 0)), some (.int (nI 0)), none]) rfl ?_
  refine s_iconstv (v := nI 0) (zdk hX0_meanSeason 4 rfl) zc_iconst_0 ?_
  refine s_istore_n (zdk hX0_meanSeason 5 rfl) (Nat.le_of_ble_eq_true rfl) ?_
  refine s_ls (ls' := [some (.ref a), some (.int (nI 0)), some (.int (nI 0)), some (.int (nI 0))]) rfl ?_
  exact w_X0_meanSeason_6 ha 13 0 (by omega) (by omega)
theorem c_X0_forecastFor (hl : l.stackTraces = false) {M : zMem} {a : Nat} (ha : rSh M a) {ph : Nat} (hp : ph < 12) : zCm l G mX0_forecastFor 1 23 0 0 [.ref a, .int (nI ph)] M (zD (some (.int (zfc (zI M (a + 2)) ph))) M) := by
  refine zCd.of (ls0 := [some (.ref a), some (.int (nI ph))]) (by decide +kernel) rfl hl rfl (Nat.le_of_ble_eq_true rfl) rfl ?_
  refine s_aload_n (zdk hX0_forecastFor 0 rfl) rfl ?_
  refine s_getR (zdk hX0_forecastFor 1 rfl) fw_X0_41 rfl (ha.1) (ha.2.2.1) ?_
  refine s_iload_n (zdk hX0_forecastFor 2 rfl) rfl ?_
  refine s_ialoadN (N := 12) (j := ph) (zdk hX0_forecastFor 3 rfl) (ha.2.2.2.2.2.1) (ha.2.2.2.2.2.2) (hp) (by decide) ?_
  refine s_iconstv (v := (-1)) (zdk hX0_forecastFor 4 rfl) zc_iconst_m1 ?_
  refine s_icmp_eq 19 (zdk hX0_forecastFor 5 rfl) (by decide) (fun c7 => ?_) (fun c7 => ?_)
  · refine s_aload_n (zdk hX0_forecastFor 11 rfl) rfl ?_
    refine s_callV0 (ci := 0) [] (zdk hX0_forecastFor 12 rfl) cw_X0_57 (ha.1) (by decide) rfl rfl rfl (Nat.le_of_ble_eq_true rfl) (by decide) (c_X0_meanSeason hl ha) ?_
    refine s_ireturn (zdk hX0_forecastFor 13 rfl) rfl rfl ?_
    first | exact ⟨by rw [zfc, if_neg c7], rfl⟩ | exact ⟨by rw [zfc, if_pos c7], rfl⟩
  · refine s_aload_n (zdk hX0_forecastFor 6 rfl) rfl ?_
    refine s_getR (zdk hX0_forecastFor 7 rfl) fw_X0_41 rfl (ha.1) (ha.2.2.1) ?_
    refine s_iload_n (zdk hX0_forecastFor 8 rfl) rfl ?_
    refine s_ialoadN (N := 12) (j := ph) (zdk hX0_forecastFor 9 rfl) (ha.2.2.2.2.2.1) (ha.2.2.2.2.2.2) (hp) (by decide) ?_
    refine s_goto 23 (zdk hX0_forecastFor 10 rfl) (by decide) ?_
    refine s_ireturn (zdk hX0_forecastFor 13 rfl) rfl rfl ?_
    first | exact ⟨by rw [zfc, if_neg c7], rfl⟩ | exact ⟨by rw [zfc, if_pos c7], rfl⟩
theorem c_X0_learnSeason (hl : l.stackTraces = false) {M : zMem} {a : Nat} (ha : rSh M a) {ph : Nat} (hp : ph < 12) (u rate : Int32) : zCm l G mX0_learnSeason 0 0 0 0 [.ref a, .int (nI ph), .int u, .int rate] M (zD none (zsI M (a + 2) ph (zlv (zI M (a + 2) ph) u rate))) := by
  refine zCd.of (ls0 := [some (.ref a), some (.int (nI ph)), some (.int (u)), some (.int (rate)), none, none]) (by decide +kernel) rfl hl rfl (Nat.le_of_ble_eq_true rfl) rfl ?_
  refine s_bipushv (v := nI 16) (zdk hX0_learnSeason 0 rfl) zc_bipush_16 ?_
  refine s_iload_n (zdk hX0_learnSeason 1 rfl) rfl ?_
  refine s_imul (zdk hX0_learnSeason 2 rfl) ?_
  refine s_istore (zdk hX0_learnSeason 3 rfl) (Nat.le_of_ble_eq_true rfl) ?_
  refine s_ls (ls' := [some (.ref a), some (.int (nI ph)), some (.int (u)), some (.int (rate)), some (.int ((nI 16) * (u))), none]) rfl ?_
  refine s_aload_n (zdk hX0_learnSeason 4 rfl) rfl ?_
  refine s_getR (zdk hX0_learnSeason 5 rfl) fw_X0_41 rfl (ha.1) (ha.2.2.1) ?_
  refine s_iload_n (zdk hX0_learnSeason 6 rfl) rfl ?_
  refine s_ialoadN (N := 12) (j := ph) (zdk hX0_learnSeason 7 rfl) (ha.2.2.2.2.2.1) (ha.2.2.2.2.2.2) (hp) (by decide) ?_
  refine s_istore (zdk hX0_learnSeason 8 rfl) (Nat.le_of_ble_eq_true rfl) ?_
  refine s_ls (ls' := [some (.ref a), some (.int (nI ph)), some (.int (u)), some (.int (rate)), some (.int ((nI 16) * (u))), some (.int (zI M (a + 2) (ph)))]) rfl ?_
  refine s_aload_n (zdk hX0_learnSeason 9 rfl) rfl ?_
  refine s_getR (zdk hX0_learnSeason 10 rfl) fw_X0_41 rfl (ha.1) (ha.2.2.1) ?_
  refine s_iload_n (zdk hX0_learnSeason 11 rfl) rfl ?_
  refine s_iload (zdk hX0_learnSeason 12 rfl) rfl ?_
  refine s_iconstv (v := (-1)) (zdk hX0_learnSeason 13 rfl) zc_iconst_m1 ?_
  refine s_icmp_ne 30 (zdk hX0_learnSeason 14 rfl) (by decide) (fun c22 => ?_) (fun c22 => ?_)
  · refine s_iload (zdk hX0_learnSeason 17 rfl) rfl ?_
    refine s_iload (zdk hX0_learnSeason 18 rfl) rfl ?_
    refine s_iload (zdk hX0_learnSeason 19 rfl) rfl ?_
    refine s_isub (zdk hX0_learnSeason 20 rfl) ?_
    refine s_iload_n (zdk hX0_learnSeason 21 rfl) rfl ?_
    refine s_imul (zdk hX0_learnSeason 22 rfl) ?_
    refine s_bipushv (v := nI 8) (zdk hX0_learnSeason 23 rfl) zc_bipush_8 ?_
    refine s_idiv (zdk hX0_learnSeason 24 rfl) (by decide) ?_
    refine s_iadd (zdk hX0_learnSeason 25 rfl) ?_
    refine s_iastoreN (N := 12) (j := ph) (zdk hX0_learnSeason 26 rfl) (ha.2.2.2.2.2.1) (ha.2.2.2.2.2.2) (hp) (by decide) ?_
    refine s_return (zdk hX0_learnSeason 27 rfl) rfl ?_
    first | exact ⟨rfl, by rw [zlv, if_neg c22]⟩ | exact ⟨rfl, by rw [zlv, if_pos c22]⟩
  · refine s_iload (zdk hX0_learnSeason 15 rfl) rfl ?_
    refine s_goto 43 (zdk hX0_learnSeason 16 rfl) (by decide) ?_
    refine s_iastoreN (N := 12) (j := ph) (zdk hX0_learnSeason 26 rfl) (ha.2.2.2.2.2.1) (ha.2.2.2.2.2.2) (hp) (by decide) ?_
    refine s_return (zdk hX0_learnSeason 27 rfl) rfl ?_
    first | exact ⟨rfl, by rw [zlv, if_neg c22]⟩ | exact ⟨rfl, by rw [zlv, if_pos c22]⟩
theorem c_X0_scoreForecast (hl : l.stackTraces = false) {M : zMem} {a : Nat} (ha : rSh M a) {ph : Nat} (hp : ph < 12) : zCm l G mX0_scoreForecast 2 46 0 0 [.ref a, .int (nI ph)] M (zD none (if 0 < zkn (zI M (a + 2)) 12 then (zsI (zsJ M a 6 (zJ M a 6 + (zab (nI 16 * zI M a 3 - zfc (zI M (a + 2)) ph)).toInt64)) a 5 (zI M a 5 + nI 1)) else M)) := by
  refine zCd.of (ls0 := [some (.ref a), some (.int (nI ph))]) (by decide +kernel) rfl hl rfl (Nat.le_of_ble_eq_true rfl) (by split <;> rfl) ?_
  refine s_aload_n (zdk hX0_scoreForecast 0 rfl) rfl ?_
  refine s_callV0 (ci := 0) [] (zdk hX0_scoreForecast 1 rfl) cw_X0_60 (ha.1) (by decide) rfl rfl rfl (Nat.le_of_ble_eq_true rfl) (by decide) (c_X0_knownSeasons hl ha) ?_
  refine s_if_le 43 (zdk hX0_scoreForecast 2 rfl) (by decide) (fun c4 => ?_) (fun c4 => ?_)
  · rw [if_neg (ngt0 c4)]
    refine s_return (zdk hX0_scoreForecast 24 rfl) rfl ?_
    exact ⟨rfl, rfl⟩
  · rw [if_pos (Int32.not_le.mp c4)]
    refine s_aload_n (zdk hX0_scoreForecast 3 rfl) rfl ?_
    refine s_dupr (zdk hX0_scoreForecast 4 rfl) ?_
    refine s_getJ (zdk hX0_scoreForecast 5 rfl) fw_X0_31 rfl (ha.1) ?_
    refine s_bipushv (v := nI 16) (zdk hX0_scoreForecast 6 rfl) zc_bipush_16 ?_
    refine s_aload_n (zdk hX0_scoreForecast 7 rfl) rfl ?_
    refine s_getI (zdk hX0_scoreForecast 8 rfl) fw_X0_22 rfl (ha.1) ?_
    refine s_imul (zdk hX0_scoreForecast 9 rfl) ?_
    refine s_aload_n (zdk hX0_scoreForecast 10 rfl) rfl ?_
    refine s_iload_n (zdk hX0_scoreForecast 11 rfl) rfl ?_
    refine s_callV0 (ci := 0) [.int (nI ph)] (zdk hX0_scoreForecast 12 rfl) cw_X0_63 (ha.1) (by decide) rfl rfl rfl (Nat.le_of_ble_eq_true rfl) (by decide) (c_X0_forecastFor hl ha hp) ?_
    refine s_isub (zdk hX0_scoreForecast 13 rfl) ?_
    refine s_callS0 [.int (((nI 16) * (zI M a 3)) - (zfc (zI M (a + 2)) ph))] (zdk hX0_scoreForecast 14 rfl) cw_X0_67 rfl (Nat.le_of_ble_eq_true rfl) (by decide) (c_abs hl M _) ?_
    refine s_i2l (zdk hX0_scoreForecast 15 rfl) ?_
    refine s_ladd (zdk hX0_scoreForecast 16 rfl) ?_
    refine s_putJ (zdk hX0_scoreForecast 17 rfl) fw_X0_31 rfl pw_0_6 (ha.1) ?_
    refine s_aload_n (zdk hX0_scoreForecast 18 rfl) rfl ?_
    refine s_dupr (zdk hX0_scoreForecast 19 rfl) ?_
    refine s_getI (zdk hX0_scoreForecast 20 rfl) fw_X0_28 rfl (ha.1) ?_
    refine s_iconstv (v := nI 1) (zdk hX0_scoreForecast 21 rfl) zc_iconst_1 ?_
    refine s_iadd (zdk hX0_scoreForecast 22 rfl) ?_
    refine s_putI (zdk hX0_scoreForecast 23 rfl) fw_X0_28 rfl pw_0_5 (ha.1) ?_
    refine s_return (zdk hX0_scoreForecast 24 rfl) rfl ?_
    exact ⟨rfl, rfl⟩
theorem w_X0_differenceAt_4 (hl : l.stackTraces = false) {M : zMem} {a : Nat} (ha : rSh M a) {n c : Nat} (hn : zI M a 7 = nI n) (hn24 : n ≤ 24) (hc : c ≤ n) : ∀ (k : Nat) (i : Nat), i ≤ n - c → n - c - i < k → zS l G mX0_differenceAt 1 23 0 0 4 [some (.ref a), some (.int (nI c)), some (.int (zdf (zI M (a + 1)) c i)), some (.int (nI i))] [] M (zD (some (.int (zdf (zI M (a + 1)) c (n - c)))) M) := by
  intro k
  induction k with
  | zero => intros; omega
  | succ k ih =>
    intro i hi hk
    refine s_iload_n (zdk hX0_differenceAt 4 rfl) rfl ?_
    refine s_iload_n (zdk hX0_differenceAt 5 rfl) rfl ?_
    refine s_iadd (zdk hX0_differenceAt 6 rfl) ?_
    refine s_topi (b := nI (i + c)) (nI_add i c) ?_
    refine s_aload_n (zdk hX0_differenceAt 7 rfl) rfl ?_
    refine s_getI (zdk hX0_differenceAt 8 rfl) fw_X0_34 rfl (ha.1) ?_
    refine s_topi (b := nI n) (hn) ?_
    refine s_icmp_ge 41 (zdk hX0_differenceAt 9 rfl) (by decide) (fun c11 => ?_) (fun c11 => ?_)
    · obtain rfl : i = n - c := by have := nle c11 (by omega) (by omega); omega
      refine s_iload_n (zdk hX0_differenceAt 27 rfl) rfl ?_
      refine s_ireturn (zdk hX0_differenceAt 28 rfl) rfl rfl ?_
      exact ⟨rfl, rfl⟩
    · have hi2 : i + c < n := nlt c11 (by omega) (by omega)
      refine s_iload_n (zdk hX0_differenceAt 10 rfl) rfl ?_
      refine s_aload_n (zdk hX0_differenceAt 11 rfl) rfl ?_
      refine s_getR (zdk hX0_differenceAt 12 rfl) fw_X0_37 rfl (ha.1) (ha.2.1) ?_
      refine s_iload_n (zdk hX0_differenceAt 13 rfl) rfl ?_
      refine s_ialoadN (N := 24) (j := i) (zdk hX0_differenceAt 14 rfl) (ha.2.2.2.1) (ha.2.2.2.2.1) (by omega) (by decide) ?_
      refine s_aload_n (zdk hX0_differenceAt 15 rfl) rfl ?_
      refine s_getR (zdk hX0_differenceAt 16 rfl) fw_X0_37 rfl (ha.1) (ha.2.1) ?_
      refine s_iload_n (zdk hX0_differenceAt 17 rfl) rfl ?_
      refine s_iload_n (zdk hX0_differenceAt 18 rfl) rfl ?_
      refine s_iadd (zdk hX0_differenceAt 19 rfl) ?_
      refine s_topi (b := nI (i + c)) (nI_add i c) ?_
      refine s_ialoadN (N := 24) (j := (i + c)) (zdk hX0_differenceAt 20 rfl) (ha.2.2.2.1) (ha.2.2.2.2.1) (by omega) (by decide) ?_
      refine s_isub (zdk hX0_differenceAt 21 rfl) ?_
      refine s_callS0 [.int ((zI M (a + 1) (i)) - (zI M (a + 1) ((i + c))))] (zdk hX0_differenceAt 22 rfl) cw_X0_67 rfl (Nat.le_of_ble_eq_true rfl) (by decide) (c_abs hl M _) ?_
      refine s_iadd (zdk hX0_differenceAt 23 rfl) ?_
      refine s_istore_n (zdk hX0_differenceAt 24 rfl) (Nat.le_of_ble_eq_true rfl) ?_
      refine s_ls (ls' := [some (.ref a), some (.int (nI c)), some (.int ((zdf (zI M (a + 1)) c i) + (zab ((zI M (a + 1) (i)) - (zI M (a + 1) ((i + c))))))), some (.int (nI i))]) rfl ?_
      refine s_ls (ls' := [some (.ref a), some (.int (nI c)), some (.int (zdf (zI M (a + 1)) c (i + 1))), some (.int (nI i))]) rfl ?_
      refine s_iinc (r := nI (i + 1)) (zdk hX0_differenceAt 25 rfl) (Nat.le_of_ble_eq_true rfl) rfl (nI_1 i) ?_
      refine s_ls (ls' := [some (.ref a), some (.int (nI c)), some (.int (zdf (zI M (a + 1)) c (i + 1))), some (.int (nI (i + 1)))]) rfl ?_
      refine s_goto 4 (zdk hX0_differenceAt 26 rfl) (by decide) ?_
      exact ih (i + 1) (by omega) (by omega)
theorem c_X0_differenceAt (hl : l.stackTraces = false) {M : zMem} {a : Nat} (ha : rSh M a) {n c : Nat} (hn : zI M a 7 = nI n) (hn24 : n ≤ 24) (hc : c ≤ n) : zCm l G mX0_differenceAt 1 23 0 0 [.ref a, .int (nI c)] M (zD (some (.int (zdf (zI M (a + 1)) c (n - c)))) M) := by
  refine zCd.of (ls0 := [some (.ref a), some (.int (nI c)), none, none]) (by decide +kernel) rfl hl rfl (Nat.le_of_ble_eq_true rfl) rfl ?_
  refine s_iconstv (v := nI 0) (zdk hX0_differenceAt 0 rfl) zc_iconst_0 ?_
  refine s_istore_n (zdk hX0_differenceAt 1 rfl) (Nat.le_of_ble_eq_true rfl) ?_
  refine s_ls (ls' := [some (.ref a), some (.int (nI c)), some (.int (nI 0)), none]) rfl ?_
  refine s_iconstv (v := nI 0) (zdk hX0_differenceAt 2 rfl) zc_iconst_0 ?_
  refine s_istore_n (zdk hX0_differenceAt 3 rfl) (Nat.le_of_ble_eq_true rfl) ?_
  refine s_ls (ls' := [some (.ref a), some (.int (nI c)), some (.int (nI 0)), some (.int (nI 0))]) rfl ?_
  exact w_X0_differenceAt_4 hl ha hn hn24 hc 25 0 (by omega) (by omega)
/-- how far the own cycle is looked for: numbers up to 12 and less than n -/
def zon (n : Nat) : Nat := min 11 (n - 2)
theorem w_X0_ownCycle_9 (hl : l.stackTraces = false) {M : zMem} {a : Nat} (ha : rSh M a) {n : Nat} (hn : zI M a 7 = nI n) (hn24 : n ≤ 24) : ∀ (k : Nat) (i : Nat) (x5 x6 : Option Value), i ≤ zon n → zon n - i < k → zS l G mX0_ownCycle 2 46 0 0 9 [some (.ref a), some (.int ((zoc (zI M (a + 1)) n i).1)), some (.int ((zoc (zI M (a + 1)) n i).2.1)), some (.int ((zoc (zI M (a + 1)) n i).2.2)), some (.int (nI (i + 2))), x5, x6] [] M (zD (some (.int ((zoc (zI M (a + 1)) n (zon n)).1))) M) := by
  intro k
  induction k with
  | zero => intros; omega
  | succ k ih =>
    intro i x5 x6 hi hk
    refine s_iload (zdk hX0_ownCycle 8 rfl) rfl ?_
    refine s_bipushv (v := nI 12) (zdk hX0_ownCycle 9 rfl) zc_bipush_12 ?_
    refine s_icmp_gt 73 (zdk hX0_ownCycle 10 rfl) (by decide) (fun c13 => ?_) (fun c13 => ?_)
    · obtain rfl : i = zon n := by unfold zon at *; have := nlt' c13 (by omega) (by omega); omega
      refine s_iload_n (zdk hX0_ownCycle 42 rfl) rfl ?_
      refine s_ireturn (zdk hX0_ownCycle 43 rfl) rfl rfl ?_
      exact ⟨rfl, rfl⟩
    · have hi11 : i + 2 ≤ 12 := nge' c13 (by omega) (by unfold zon at *; omega)
      refine s_iload (zdk hX0_ownCycle 11 rfl) rfl ?_
      refine s_aload_n (zdk hX0_ownCycle 12 rfl) rfl ?_
      refine s_getI (zdk hX0_ownCycle 13 rfl) fw_X0_34 rfl (ha.1) ?_
      refine s_topi (b := nI n) (hn) ?_
      refine s_icmp_ge 73 (zdk hX0_ownCycle 14 rfl) (by decide) (fun c22 => ?_) (fun c22 => ?_)
      · obtain rfl : i = zon n := by unfold zon at *; have := nle c22 (by omega) (by omega); omega
        refine s_iload_n (zdk hX0_ownCycle 42 rfl) rfl ?_
        refine s_ireturn (zdk hX0_ownCycle 43 rfl) rfl rfl ?_
        exact ⟨rfl, rfl⟩
      · have hi2 : i + 2 < n := nlt c22 (by omega) (by omega)
        refine s_aload_n (zdk hX0_ownCycle 15 rfl) rfl ?_
        refine s_iload (zdk hX0_ownCycle 16 rfl) rfl ?_
        refine s_callV0 (ci := 0) [.int (nI (i + 2))] (zdk hX0_ownCycle 17 rfl) cw_X0_80 (ha.1) (by decide) rfl rfl rfl (Nat.le_of_ble_eq_true rfl) (by decide) (c_X0_differenceAt hl ha hn hn24 (by omega)) ?_
        refine s_istore (zdk hX0_ownCycle 18 rfl) (Nat.le_of_ble_eq_true rfl) ?_
        refine s_ls (ls' := [some (.ref a), some (.int ((zoc (zI M (a + 1)) n i).1)), some (.int ((zoc (zI M (a + 1)) n i).2.1)), some (.int ((zoc (zI M (a + 1)) n i).2.2)), some (.int (nI (i + 2))), some (.int (zdf (zI M (a + 1)) (i + 2) (n - (i + 2)))), x6]) rfl ?_
        refine s_aload_n (zdk hX0_ownCycle 19 rfl) rfl ?_
        refine s_getI (zdk hX0_ownCycle 20 rfl) fw_X0_34 rfl (ha.1) ?_
        refine s_topi (b := nI n) (hn) ?_
        refine s_iload (zdk hX0_ownCycle 21 rfl) rfl ?_
        refine s_isub (zdk hX0_ownCycle 22 rfl) ?_
        refine s_topi (b := nI (n - (i + 2))) (pk_sub (by omega)) ?_
        refine s_istore (zdk hX0_ownCycle 23 rfl) (Nat.le_of_ble_eq_true rfl) ?_
        refine s_ls (ls' := [some (.ref a), some (.int ((zoc (zI M (a + 1)) n i).1)), some (.int ((zoc (zI M (a + 1)) n i).2.1)), some (.int ((zoc (zI M (a + 1)) n i).2.2)), some (.int (nI (i + 2))), some (.int (zdf (zI M (a + 1)) (i + 2) (n - (i + 2)))), some (.int (nI (n - (i + 2))))]) rfl ?_
        refine s_iload_n (zdk hX0_ownCycle 24 rfl) rfl ?_
        refine s_iconstv (v := (-1)) (zdk hX0_ownCycle 25 rfl) zc_iconst_m1 ?_
        refine s_icmp_eq 58 (zdk hX0_ownCycle 26 rfl) (by decide) (fun c44 => ?_) (fun c44 => ?_)
        · have e1 : (zoc (zI M (a + 1)) n (i + 1)) = (nI (i + 2), zdf (zI M (a + 1)) (i + 2) (n - (i + 2)), nI (n - (i + 2))) := if_pos (Or.inl c44)
          refine s_iload (zdk hX0_ownCycle 34 rfl) rfl ?_
          refine s_istore_n (zdk hX0_ownCycle 35 rfl) (Nat.le_of_ble_eq_true rfl) ?_
          refine s_ls (ls' := [some (.ref a), some (.int (nI (i + 2))), some (.int ((zoc (zI M (a + 1)) n i).2.1)), some (.int ((zoc (zI M (a + 1)) n i).2.2)), some (.int (nI (i + 2))), some (.int (zdf (zI M (a + 1)) (i + 2) (n - (i + 2)))), some (.int (nI (n - (i + 2))))]) rfl ?_
          refine s_iload (zdk hX0_ownCycle 36 rfl) rfl ?_
          refine s_istore_n (zdk hX0_ownCycle 37 rfl) (Nat.le_of_ble_eq_true rfl) ?_
          refine s_ls (ls' := [some (.ref a), some (.int (nI (i + 2))), some (.int (zdf (zI M (a + 1)) (i + 2) (n - (i + 2)))), some (.int ((zoc (zI M (a + 1)) n i).2.2)), some (.int (nI (i + 2))), some (.int (zdf (zI M (a + 1)) (i + 2) (n - (i + 2)))), some (.int (nI (n - (i + 2))))]) rfl ?_
          refine s_iload (zdk hX0_ownCycle 38 rfl) rfl ?_
          refine s_istore_n (zdk hX0_ownCycle 39 rfl) (Nat.le_of_ble_eq_true rfl) ?_
          refine s_ls (ls' := [some (.ref a), some (.int (nI (i + 2))), some (.int (zdf (zI M (a + 1)) (i + 2) (n - (i + 2)))), some (.int (nI (n - (i + 2)))), some (.int (nI (i + 2))), some (.int (zdf (zI M (a + 1)) (i + 2) (n - (i + 2)))), some (.int (nI (n - (i + 2))))]) rfl ?_
          refine s_ls (ls' := [some (.ref a), some (.int ((zoc (zI M (a + 1)) n (i + 1)).1)), some (.int ((zoc (zI M (a + 1)) n (i + 1)).2.1)), some (.int ((zoc (zI M (a + 1)) n (i + 1)).2.2)), some (.int (nI (i + 2))), some (.int (zdf (zI M (a + 1)) (i + 2) (n - (i + 2)))), some (.int (nI (n - (i + 2))))]) (by rw [e1]) ?_
          refine s_iinc (r := nI (i + 1 + 2)) (zdk hX0_ownCycle 40 rfl) (Nat.le_of_ble_eq_true rfl) rfl (nI_1 (i + 2)) ?_
          refine s_ls (ls' := [some (.ref a), some (.int ((zoc (zI M (a + 1)) n (i + 1)).1)), some (.int ((zoc (zI M (a + 1)) n (i + 1)).2.1)), some (.int ((zoc (zI M (a + 1)) n (i + 1)).2.2)), some (.int (nI (i + 1 + 2))), some (.int (zdf (zI M (a + 1)) (i + 2) (n - (i + 2)))), some (.int (nI (n - (i + 2))))]) rfl ?_
          refine s_goto 9 (zdk hX0_ownCycle 41 rfl) (by decide) ?_
          exact ih (i + 1) _ _ (by unfold zon at *; omega) (by unfold zon at *; omega)
        · refine s_iload (zdk hX0_ownCycle 27 rfl) rfl ?_
          refine s_iload_n (zdk hX0_ownCycle 28 rfl) rfl ?_
          refine s_imul (zdk hX0_ownCycle 29 rfl) ?_
          refine s_iload_n (zdk hX0_ownCycle 30 rfl) rfl ?_
          refine s_iload (zdk hX0_ownCycle 31 rfl) rfl ?_
          refine s_imul (zdk hX0_ownCycle 32 rfl) ?_
          refine s_icmp_ge 67 (zdk hX0_ownCycle 33 rfl) (by decide) (fun c55 => ?_) (fun c55 => ?_)
          · have e1 : (zoc (zI M (a + 1)) n (i + 1)) = (zoc (zI M (a + 1)) n i) := if_neg (fun q => q.elim c44 (Int32.not_lt.mpr c55))
            refine s_ls (ls' := [some (.ref a), some (.int ((zoc (zI M (a + 1)) n (i + 1)).1)), some (.int ((zoc (zI M (a + 1)) n (i + 1)).2.1)), some (.int ((zoc (zI M (a + 1)) n (i + 1)).2.2)), some (.int (nI (i + 2))), some (.int (zdf (zI M (a + 1)) (i + 2) (n - (i + 2)))), some (.int (nI (n - (i + 2))))]) (by rw [e1]) ?_
            refine s_iinc (r := nI (i + 1 + 2)) (zdk hX0_ownCycle 40 rfl) (Nat.le_of_ble_eq_true rfl) rfl (nI_1 (i + 2)) ?_
            refine s_ls (ls' := [some (.ref a), some (.int ((zoc (zI M (a + 1)) n (i + 1)).1)), some (.int ((zoc (zI M (a + 1)) n (i + 1)).2.1)), some (.int ((zoc (zI M (a + 1)) n (i + 1)).2.2)), some (.int (nI (i + 1 + 2))), some (.int (zdf (zI M (a + 1)) (i + 2) (n - (i + 2)))), some (.int (nI (n - (i + 2))))]) rfl ?_
            refine s_goto 9 (zdk hX0_ownCycle 41 rfl) (by decide) ?_
            exact ih (i + 1) _ _ (by unfold zon at *; omega) (by unfold zon at *; omega)
          · have e1 : (zoc (zI M (a + 1)) n (i + 1)) = (nI (i + 2), zdf (zI M (a + 1)) (i + 2) (n - (i + 2)), nI (n - (i + 2))) := if_pos (Or.inr (Int32.not_le.mp c55))
            refine s_iload (zdk hX0_ownCycle 34 rfl) rfl ?_
            refine s_istore_n (zdk hX0_ownCycle 35 rfl) (Nat.le_of_ble_eq_true rfl) ?_
            refine s_ls (ls' := [some (.ref a), some (.int (nI (i + 2))), some (.int ((zoc (zI M (a + 1)) n i).2.1)), some (.int ((zoc (zI M (a + 1)) n i).2.2)), some (.int (nI (i + 2))), some (.int (zdf (zI M (a + 1)) (i + 2) (n - (i + 2)))), some (.int (nI (n - (i + 2))))]) rfl ?_
            refine s_iload (zdk hX0_ownCycle 36 rfl) rfl ?_
            refine s_istore_n (zdk hX0_ownCycle 37 rfl) (Nat.le_of_ble_eq_true rfl) ?_
            refine s_ls (ls' := [some (.ref a), some (.int (nI (i + 2))), some (.int (zdf (zI M (a + 1)) (i + 2) (n - (i + 2)))), some (.int ((zoc (zI M (a + 1)) n i).2.2)), some (.int (nI (i + 2))), some (.int (zdf (zI M (a + 1)) (i + 2) (n - (i + 2)))), some (.int (nI (n - (i + 2))))]) rfl ?_
            refine s_iload (zdk hX0_ownCycle 38 rfl) rfl ?_
            refine s_istore_n (zdk hX0_ownCycle 39 rfl) (Nat.le_of_ble_eq_true rfl) ?_
            refine s_ls (ls' := [some (.ref a), some (.int (nI (i + 2))), some (.int (zdf (zI M (a + 1)) (i + 2) (n - (i + 2)))), some (.int (nI (n - (i + 2)))), some (.int (nI (i + 2))), some (.int (zdf (zI M (a + 1)) (i + 2) (n - (i + 2)))), some (.int (nI (n - (i + 2))))]) rfl ?_
            refine s_ls (ls' := [some (.ref a), some (.int ((zoc (zI M (a + 1)) n (i + 1)).1)), some (.int ((zoc (zI M (a + 1)) n (i + 1)).2.1)), some (.int ((zoc (zI M (a + 1)) n (i + 1)).2.2)), some (.int (nI (i + 2))), some (.int (zdf (zI M (a + 1)) (i + 2) (n - (i + 2)))), some (.int (nI (n - (i + 2))))]) (by rw [e1]) ?_
            refine s_iinc (r := nI (i + 1 + 2)) (zdk hX0_ownCycle 40 rfl) (Nat.le_of_ble_eq_true rfl) rfl (nI_1 (i + 2)) ?_
            refine s_ls (ls' := [some (.ref a), some (.int ((zoc (zI M (a + 1)) n (i + 1)).1)), some (.int ((zoc (zI M (a + 1)) n (i + 1)).2.1)), some (.int ((zoc (zI M (a + 1)) n (i + 1)).2.2)), some (.int (nI (i + 1 + 2))), some (.int (zdf (zI M (a + 1)) (i + 2) (n - (i + 2)))), some (.int (nI (n - (i + 2))))]) rfl ?_
            refine s_goto 9 (zdk hX0_ownCycle 41 rfl) (by decide) ?_
            exact ih (i + 1) _ _ (by unfold zon at *; omega) (by unfold zon at *; omega)
theorem c_X0_ownCycle (hl : l.stackTraces = false) {M : zMem} {a : Nat} (ha : rSh M a) {n : Nat} (hn : zI M a 7 = nI n) (hn24 : n ≤ 24) : zCm l G mX0_ownCycle 2 46 0 0 [.ref a] M (zD (some (.int ((zoc (zI M (a + 1)) n (zon n)).1))) M) := by
  refine zCd.of (ls0 := [some (.ref a), none, none, none, none, none, none]) (by decide +kernel) rfl hl rfl (Nat.le_of_ble_eq_true rfl) rfl ?_
  refine s_iconstv (v := (-1)) (zdk hX0_ownCycle 0 rfl) zc_iconst_m1 ?_
  refine s_istore_n (zdk hX0_ownCycle 1 rfl) (Nat.le_of_ble_eq_true rfl) ?_
  refine s_ls (ls' := [some (.ref a), some (.int ((-1))), none, none, none, none, none]) rfl ?_
  refine s_iconstv (v := nI 0) (zdk hX0_ownCycle 2 rfl) zc_iconst_0 ?_
  refine s_istore_n (zdk hX0_ownCycle 3 rfl) (Nat.le_of_ble_eq_true rfl) ?_
  refine s_ls (ls' := [some (.ref a), some (.int ((-1))), some (.int (nI 0)), none, none, none, none]) rfl ?_
  refine s_iconstv (v := nI 1) (zdk hX0_ownCycle 4 rfl) zc_iconst_1 ?_
  refine s_istore_n (zdk hX0_ownCycle 5 rfl) (Nat.le_of_ble_eq_true rfl) ?_
  refine s_ls (ls' := [some (.ref a), some (.int ((-1))), some (.int (nI 0)), some (.int (nI 1)), none, none, none]) rfl ?_
  refine s_iconstv (v := nI 2) (zdk hX0_ownCycle 6 rfl) zc_iconst_2 ?_
  refine s_istore (zdk hX0_ownCycle 7 rfl) (Nat.le_of_ble_eq_true rfl) ?_
  refine s_ls (ls' := [some (.ref a), some (.int ((-1))), some (.int (nI 0)), some (.int (nI 1)), some (.int (nI 2)), none, none]) rfl ?_
  exact w_X0_ownCycle_9 hl ha hn hn24 12 0 none none (by omega) (by unfold zon; omega)
end
end
section
theorem zc_bipush_23 : (Int8.ofInt 23).toInt32 = nI 23 := by decide
theorem zc_bipush_24 : (Int8.ofInt 24).toInt32 = nI 24 := by decide
/-! ===== reading over writing ===== -/
theorem zI_In {M : zMem} {a b k : Nat} {v : Int32} (h : b ≠ a) : zI (zsI M a k v) b = zI M b := if_neg h
theorem zI_Ie {M : zMem} {a k : Nat} {v : Int32} : zI (zsI M a k v) a = zw1 (zI M a) k v := if_pos rfl
theorem zJ_Jn {M : zMem} {a b k : Nat} {v : Int64} (h : b ≠ a) : zJ (zsJ M a k v) b = zJ M b := if_neg h
theorem zJ_Je {M : zMem} {a k : Nat} {v : Int64} : zJ (zsJ M a k v) a = fun j => if j = k then v else zJ M a j := if_pos rfl
theorem zI_J {M : zMem} {a k : Nat} {v : Int64} : zI (zsJ M a k v) = zI M := rfl
theorem zJ_I {M : zMem} {a k : Nat} {v : Int32} : zJ (zsI M a k v) = zJ M := rfl
theorem zJ_A {M : zMem} {a : Nat} {g : Nat → Int32} : zJ (zsA M a g) = zJ M := rfl
theorem zI_R {M : zMem} {a k : Nat} {v : Option Nat} : zI (zsR M a k v) = zI M := rfl
theorem zJ_R {M : zMem} {a k : Nat} {v : Option Nat} : zJ (zsR M a k v) = zJ M := rfl
theorem zw1_n {g : Nat → Int32} {k j : Nat} {v : Int32} (h : j ≠ k) : zw1 g k v j = g j := if_neg h
theorem zw1_e {g : Nat → Int32} {k : Nat} {v : Int32} : zw1 g k v k = v := if_pos rfl
section
variable {l : Launch} {G : zG} {y : zMD} {fr lo bc bs pc : Nat} {ls : List (Option Value)} {st : List Value} {M : zMem} {Q : zOut → zMem → Prop}
theorem s_copyN {i a a0 sp dp n : Nat} (hd : decode (yC y) pc = .ok (.invokestatic i, 3)) (hw : Cond.methodLink (yN y).cls i arraycopyName ∈ zGW) (hnat : Cond.native arraycopyName ∈ zGW) (hstat : Cond.static arraycopyName ∈ zGW) (hini : Cond.initialized "java/lang/System" ∈ zGW)
    (hK0 : zK M a0 = 11) (hK1 : zK M a = 11) (h1 : sp < 100000) (h2 : dp < 100000) (h3 : n < 100000) (h4 : sp + n ≤ zN M a0) (h5 : dp + n ≤ zN M a) (hfr : 1 ≤ fr) (hlo : (st.map fun v => v.category).sum + 18 ≤ lo)
    (kk : zS l G y fr lo bc bs (pc + 3) ls st (zsA M a (va_cpy (zI M a0) (zI M a) sp dp n)) Q) : zS l G y fr lo bc bs pc ls (.int (nI n) :: .int (nI dp) :: .ref a :: .int (nI sp) :: .ref a0 :: st) M Q := by
  have e1 : (nI sp).toNatClampNeg = sp := nI_clamp (by omega)
  have e2 : (nI dp).toNatClampNeg = dp := nI_clamp (by omega)
  have e3 : (nI n).toNatClampNeg = n := nI_clamp (by omega)
  exact s_copyi hd hw hnat hstat hini hK0 hK1 (nI_pos (by omega)) (nI_pos (by omega)) (nI_pos (by omega)) (by rw [e1, e3]; exact h4) (by rw [e2, e3]; exact h5) hfr hlo (by rw [e1, e2, e3]; exact kk)
end
section
variable {l : Launch} {G : zG}
def zM_start (M : zMem) (a : Nat) (nm : Int64) (sz home un : Int32) : zMem := zsA (zsI (zsJ (zsI (zsI (zsI (zsI (zsI (zsJ M a 0 nm) a 1 sz) a 2 home) a 3 (nI 0)) a 4 un) a 5 (nI 0)) a 6 (lN 0)) a 7 (nI 0)) (a + 2) (zuk (zI (zsI (zsJ (zsI (zsI (zsI (zsI (zsI (zsJ M a 0 nm) a 1 sz) a 2 home) a 3 (nI 0)) a 4 un) a 5 (nI 0)) a 6 (lN 0)) a 7 (nI 0)) (a + 2)) 12)
theorem c_X0_startAs (hl : l.stackTraces = false) {M : zMem} {a : Nat} (ha : rSh M a) (nm : Int64) (sz home un : Int32) : zCm l G mX0_startAs 1 22 0 0 [.ref a, .long nm, .int sz, .int home, .int un] M (zD none (zM_start M a nm sz home un)) := by
  refine zCd.of (ls0 := [some (.ref a), some (.long (nm)), none, some (.int (sz)), some (.int (home)), some (.int (un))]) (by decide +kernel) rfl hl rfl (Nat.le_of_ble_eq_true rfl) rfl ?_
  refine s_aload_n (zdk hX0_startAs 0 rfl) rfl ?_
  refine s_lload_n (zdk hX0_startAs 1 rfl) rfl ?_
  refine s_putJ (zdk hX0_startAs 2 rfl) fw_X0_9 rfl pw_0_0 (ha.1) ?_
  refine s_aload_n (zdk hX0_startAs 3 rfl) rfl ?_
  refine s_iload_n (zdk hX0_startAs 4 rfl) rfl ?_
  refine s_putI (zdk hX0_startAs 5 rfl) fw_X0_15 rfl pw_0_1 (ha.1) ?_
  refine s_aload_n (zdk hX0_startAs 6 rfl) rfl ?_
  refine s_iload (zdk hX0_startAs 7 rfl) rfl ?_
  refine s_putI (zdk hX0_startAs 8 rfl) fw_X0_19 rfl pw_0_2 (ha.1) ?_
  refine s_aload_n (zdk hX0_startAs 9 rfl) rfl ?_
  refine s_iconstv (v := nI 0) (zdk hX0_startAs 10 rfl) zc_iconst_0 ?_
  refine s_putI (zdk hX0_startAs 11 rfl) fw_X0_22 rfl pw_0_3 (ha.1) ?_
  refine s_aload_n (zdk hX0_startAs 12 rfl) rfl ?_
  refine s_iload (zdk hX0_startAs 13 rfl) rfl ?_
  refine s_putI (zdk hX0_startAs 14 rfl) fw_X0_25 rfl pw_0_4 (ha.1) ?_
  refine s_aload_n (zdk hX0_startAs 15 rfl) rfl ?_
  refine s_iconstv (v := nI 0) (zdk hX0_startAs 16 rfl) zc_iconst_0 ?_
  refine s_putI (zdk hX0_startAs 17 rfl) fw_X0_28 rfl pw_0_5 (ha.1) ?_
  refine s_aload_n (zdk hX0_startAs 18 rfl) rfl ?_
  refine s_lconstv (v := lN 0) (zdk hX0_startAs 19 rfl) rfl ?_
  refine s_putJ (zdk hX0_startAs 20 rfl) fw_X0_31 rfl pw_0_6 (ha.1) ?_
  refine s_aload_n (zdk hX0_startAs 21 rfl) rfl ?_
  refine s_iconstv (v := nI 0) (zdk hX0_startAs 22 rfl) zc_iconst_0 ?_
  refine s_putI (zdk hX0_startAs 23 rfl) fw_X0_34 rfl pw_0_7 (ha.1) ?_
  refine s_aload_n (zdk hX0_startAs 24 rfl) rfl ?_
  refine s_callV0 (ci := 0) [] (zdk hX0_startAs 25 rfl) cw_X0_50 (ha.1) (by decide) rfl rfl rfl (Nat.le_of_ble_eq_true rfl) (by decide) (c_X0_forgetSeasons (M := _) hl ha) ?_
  refine s_return (zdk hX0_startAs 26 rfl) rfl ?_
  exact ⟨rfl, rfl⟩
def zM_copy (M : zMem) (a b : Nat) : zMem := zsA (zsA (zsI (zsJ (zsI (zsI (zsI (zsI (zsI (zsJ M a 0 (zJ M b 0)) a 1 (zI M b 1)) a 2 (zI M b 2)) a 3 (zI M b 3)) a 4 (zI M b 4)) a 5 (zI M b 5)) a 6 (zJ M b 6)) a 7 (zI M b 7)) (a + 1) (va_cpy (zI M (b + 1)) (zI M (a + 1)) 0 0 24)) (a + 2) (va_cpy (zI M (b + 2)) (zI M (a + 2)) 0 0 12)
theorem c_X0_copyFrom (hl : l.stackTraces = false) {M : zMem} {a b : Nat} (ha : rSh M a) (hb : rSh M b) (hab : b ≠ a) (h1 : b + 3 ≤ a ∨ a + 3 ≤ b) : zCm l G mX0_copyFrom 1 18 0 0 [.ref a, .ref b] M (zD none (zM_copy M a b)) := by
  refine zCd.of (ls0 := [some (.ref a), some (.ref b)]) (by decide +kernel) rfl hl rfl (Nat.le_of_ble_eq_true rfl) rfl ?_
  refine s_aload_n (zdk hX0_copyFrom 0 rfl) rfl ?_
  refine s_aload_n (zdk hX0_copyFrom 1 rfl) rfl ?_
  refine s_getJ (zdk hX0_copyFrom 2 rfl) fw_X0_9 rfl (hb.1) ?_
  refine s_topl (b := zJ M b 0) ((by simp only [zI_J, zJ_I, zI_In hab, zJ_Jn hab])) ?_
  refine s_putJ (zdk hX0_copyFrom 3 rfl) fw_X0_9 rfl pw_0_0 (ha.1) ?_
  refine s_aload_n (zdk hX0_copyFrom 4 rfl) rfl ?_
  refine s_aload_n (zdk hX0_copyFrom 5 rfl) rfl ?_
  refine s_getI (zdk hX0_copyFrom 6 rfl) fw_X0_15 rfl (hb.1) ?_
  refine s_topi (b := zI M b 1) ((by simp only [zI_J, zJ_I, zI_In hab, zJ_Jn hab])) ?_
  refine s_putI (zdk hX0_copyFrom 7 rfl) fw_X0_15 rfl pw_0_1 (ha.1) ?_
  refine s_aload_n (zdk hX0_copyFrom 8 rfl) rfl ?_
  refine s_aload_n (zdk hX0_copyFrom 9 rfl) rfl ?_
  refine s_getI (zdk hX0_copyFrom 10 rfl) fw_X0_19 rfl (hb.1) ?_
  refine s_topi (b := zI M b 2) ((by simp only [zI_J, zJ_I, zI_In hab, zJ_Jn hab])) ?_
  refine s_putI (zdk hX0_copyFrom 11 rfl) fw_X0_19 rfl pw_0_2 (ha.1) ?_
  refine s_aload_n (zdk hX0_copyFrom 12 rfl) rfl ?_
  refine s_aload_n (zdk hX0_copyFrom 13 rfl) rfl ?_
  refine s_getI (zdk hX0_copyFrom 14 rfl) fw_X0_22 rfl (hb.1) ?_
  refine s_topi (b := zI M b 3) ((by simp only [zI_J, zJ_I, zI_In hab, zJ_Jn hab])) ?_
  refine s_putI (zdk hX0_copyFrom 15 rfl) fw_X0_22 rfl pw_0_3 (ha.1) ?_
  refine s_aload_n (zdk hX0_copyFrom 16 rfl) rfl ?_
  refine s_aload_n (zdk hX0_copyFrom 17 rfl) rfl ?_
  refine s_getI (zdk hX0_copyFrom 18 rfl) fw_X0_25 rfl (hb.1) ?_
  refine s_topi (b := zI M b 4) ((by simp only [zI_J, zJ_I, zI_In hab, zJ_Jn hab])) ?_
  refine s_putI (zdk hX0_copyFrom 19 rfl) fw_X0_25 rfl pw_0_4 (ha.1) ?_
  refine s_aload_n (zdk hX0_copyFrom 20 rfl) rfl ?_
  refine s_aload_n (zdk hX0_copyFrom 21 rfl) rfl ?_
  refine s_getI (zdk hX0_copyFrom 22 rfl) fw_X0_28 rfl (hb.1) ?_
  refine s_topi (b := zI M b 5) ((by simp only [zI_J, zJ_I, zI_In hab, zJ_Jn hab])) ?_
  refine s_putI (zdk hX0_copyFrom 23 rfl) fw_X0_28 rfl pw_0_5 (ha.1) ?_
  refine s_aload_n (zdk hX0_copyFrom 24 rfl) rfl ?_
  refine s_aload_n (zdk hX0_copyFrom 25 rfl) rfl ?_
  refine s_getJ (zdk hX0_copyFrom 26 rfl) fw_X0_31 rfl (hb.1) ?_
  refine s_topl (b := zJ M b 6) ((by simp only [zI_J, zJ_I, zI_In hab, zJ_Jn hab])) ?_
  refine s_putJ (zdk hX0_copyFrom 27 rfl) fw_X0_31 rfl pw_0_6 (ha.1) ?_
  refine s_aload_n (zdk hX0_copyFrom 28 rfl) rfl ?_
  refine s_aload_n (zdk hX0_copyFrom 29 rfl) rfl ?_
  refine s_getI (zdk hX0_copyFrom 30 rfl) fw_X0_34 rfl (hb.1) ?_
  refine s_topi (b := zI M b 7) ((by simp only [zI_J, zJ_I, zI_In hab, zJ_Jn hab])) ?_
  refine s_putI (zdk hX0_copyFrom 31 rfl) fw_X0_34 rfl pw_0_7 (ha.1) ?_
  refine s_aload_n (zdk hX0_copyFrom 32 rfl) rfl ?_
  refine s_getR (zdk hX0_copyFrom 33 rfl) fw_X0_37 rfl (hb.1) (hb.2.1) ?_
  refine s_iconstv (v := nI 0) (zdk hX0_copyFrom 34 rfl) zc_iconst_0 ?_
  refine s_aload_n (zdk hX0_copyFrom 35 rfl) rfl ?_
  refine s_getR (zdk hX0_copyFrom 36 rfl) fw_X0_37 rfl (ha.1) (ha.2.1) ?_
  refine s_iconstv (v := nI 0) (zdk hX0_copyFrom 37 rfl) zc_iconst_0 ?_
  refine s_bipushv (v := nI 24) (zdk hX0_copyFrom 38 rfl) zc_bipush_24 ?_
  refine s_copyN (sp := 0) (dp := 0) (n := 24) (zdk hX0_copyFrom 39 rfl) yw_X0_44 yw_nat yw_sta yw_ini (hb.2.2.2.1) (ha.2.2.2.1) (by omega) (by omega) (by omega) (Nat.le_trans (show 0 + 24 ≤ 24 by omega) (Nat.le_of_eq (Eq.symm (hb.2.2.2.2.1)))) (Nat.le_trans (show 0 + 24 ≤ 24 by omega) (Nat.le_of_eq (Eq.symm (ha.2.2.2.2.1)))) (Nat.le_of_ble_eq_true rfl) (Nat.le_of_ble_eq_true rfl) ?_
  refine s_mem (M' := (zsA (zsI (zsJ (zsI (zsI (zsI (zsI (zsI (zsJ M a 0 (zJ M b 0)) a 1 (zI M b 1)) a 2 (zI M b 2)) a 3 (zI M b 3)) a 4 (zI M b 4)) a 5 (zI M b 5)) a 6 (zJ M b 6)) a 7 (zI M b 7)) (a + 1) (va_cpy (zI M (b + 1)) (zI M (a + 1)) 0 0 24))) ((by simp only [zI_J, zI_In (show b + 1 ≠ a by omega), zI_In (show a + 1 ≠ a by omega)])) ?_
  refine s_aload_n (zdk hX0_copyFrom 40 rfl) rfl ?_
  refine s_getR (zdk hX0_copyFrom 41 rfl) fw_X0_41 rfl (hb.1) (hb.2.2.1) ?_
  refine s_iconstv (v := nI 0) (zdk hX0_copyFrom 42 rfl) zc_iconst_0 ?_
  refine s_aload_n (zdk hX0_copyFrom 43 rfl) rfl ?_
  refine s_getR (zdk hX0_copyFrom 44 rfl) fw_X0_41 rfl (ha.1) (ha.2.2.1) ?_
  refine s_iconstv (v := nI 0) (zdk hX0_copyFrom 45 rfl) zc_iconst_0 ?_
  refine s_bipushv (v := nI 12) (zdk hX0_copyFrom 46 rfl) zc_bipush_12 ?_
  refine s_copyN (sp := 0) (dp := 0) (n := 12) (zdk hX0_copyFrom 47 rfl) yw_X0_44 yw_nat yw_sta yw_ini (hb.2.2.2.2.2.1) (ha.2.2.2.2.2.1) (by omega) (by omega) (by omega) (Nat.le_trans (show 0 + 12 ≤ 12 by omega) (Nat.le_of_eq (Eq.symm (hb.2.2.2.2.2.2)))) (Nat.le_trans (show 0 + 12 ≤ 12 by omega) (Nat.le_of_eq (Eq.symm (ha.2.2.2.2.2.2)))) (Nat.le_of_ble_eq_true rfl) (Nat.le_of_ble_eq_true rfl) ?_
  refine s_mem (M' := (zM_copy M a b)) ((by simp only [zI_J, zI_In (show b + 2 ≠ a by omega), zI_In (show a + 2 ≠ a by omega), zI_An _ _ (show b + 2 ≠ a + 1 by omega), zI_An _ _ (show a + 2 ≠ a + 1 by omega)]; rfl)) ?_
  refine s_return (zdk hX0_copyFrom 48 rfl) rfl ?_
  exact ⟨rfl, rfl⟩
def zM_keep (M : zMem) (a n : Nat) : zMem := (zsI (zsI (zsI M (a + 1) n (zI M a 3)) a 7 (nI (n + 1))) a 3 (nI 0))
theorem c_X0_keepUses (hl : l.stackTraces = false) {M : zMem} {a n : Nat} (ha : rSh M a) (hn : zI M a 7 = nI n) (hn24 : n < 24) : zCm l G mX0_keepUses 1 18 0 0 [.ref a] M (zD none (zM_keep M a n)) := by
  refine zCd.of (ls0 := [some (.ref a)]) (by decide +kernel) rfl hl rfl (Nat.le_of_ble_eq_true rfl) rfl ?_
  refine s_aload_n (zdk hX0_keepUses 0 rfl) rfl ?_
  refine s_getI (zdk hX0_keepUses 1 rfl) fw_X0_34 rfl (ha.1) ?_
  refine s_topi (b := nI n) (hn) ?_
  refine s_bipushv (v := nI 24) (zdk hX0_keepUses 2 rfl) zc_bipush_24 ?_
  refine s_icmp_ne 34 (zdk hX0_keepUses 3 rfl) (by decide) (fun c6 => ?_) (fun c6 => ?_)
  · refine s_aload_n (zdk hX0_keepUses 18 rfl) rfl ?_
    refine s_getR (zdk hX0_keepUses 19 rfl) fw_X0_37 rfl (ha.1) (ha.2.1) ?_
    refine s_aload_n (zdk hX0_keepUses 20 rfl) rfl ?_
    refine s_getI (zdk hX0_keepUses 21 rfl) fw_X0_34 rfl (ha.1) ?_
    refine s_topi (b := nI n) (hn) ?_
    refine s_aload_n (zdk hX0_keepUses 22 rfl) rfl ?_
    refine s_getI (zdk hX0_keepUses 23 rfl) fw_X0_22 rfl (ha.1) ?_
    refine s_iastoreN (N := 24) (j := n) (zdk hX0_keepUses 24 rfl) (ha.2.2.2.1) (ha.2.2.2.2.1) (hn24) (by decide) ?_
    refine s_aload_n (zdk hX0_keepUses 25 rfl) rfl ?_
    refine s_dupr (zdk hX0_keepUses 26 rfl) ?_
    refine s_getI (zdk hX0_keepUses 27 rfl) fw_X0_34 rfl (ha.1) ?_
    refine s_topi (b := nI n) ((congrFun (zI_In (show a ≠ a + 1 by omega)) 7).trans hn) ?_
    refine s_iconstv (v := nI 1) (zdk hX0_keepUses 28 rfl) zc_iconst_1 ?_
    refine s_iadd (zdk hX0_keepUses 29 rfl) ?_
    refine s_topi (b := nI (n + 1)) (nI_1 n) ?_
    refine s_putI (zdk hX0_keepUses 30 rfl) fw_X0_34 rfl pw_0_7 (ha.1) ?_
    refine s_aload_n (zdk hX0_keepUses 31 rfl) rfl ?_
    refine s_iconstv (v := nI 0) (zdk hX0_keepUses 32 rfl) zc_iconst_0 ?_
    refine s_putI (zdk hX0_keepUses 33 rfl) fw_X0_22 rfl pw_0_3 (ha.1) ?_
    refine s_return (zdk hX0_keepUses 34 rfl) rfl ?_
    exact ⟨rfl, rfl⟩
  · exact absurd (neq c6 (by omega) (by omega)) (by omega)
theorem c_X0_keepUses24 (hl : l.stackTraces = false) {M : zMem} {a : Nat} (ha : rSh M a) (hn : zI M a 7 = nI 24) : zCm l G mX0_keepUses 1 18 0 0 [.ref a] M (zD none (zM_keep (zsI (zsA M (a + 1) (va_cpy (zI M (a + 1)) (zI M (a + 1)) 1 0 23)) a 7 (nI 23)) a 23)) := by
  refine zCd.of (ls0 := [some (.ref a)]) (by decide +kernel) rfl hl rfl (Nat.le_of_ble_eq_true rfl) rfl ?_
  refine s_aload_n (zdk hX0_keepUses 0 rfl) rfl ?_
  refine s_getI (zdk hX0_keepUses 1 rfl) fw_X0_34 rfl (ha.1) ?_
  refine s_topi (b := nI 24) (hn) ?_
  refine s_bipushv (v := nI 24) (zdk hX0_keepUses 2 rfl) zc_bipush_24 ?_
  refine s_icmp_ne 34 (zdk hX0_keepUses 3 rfl) (by decide) (fun c6 => ?_) (fun c6 => ?_)
  · exact absurd rfl c6
  · refine s_aload_n (zdk hX0_keepUses 4 rfl) rfl ?_
    refine s_getR (zdk hX0_keepUses 5 rfl) fw_X0_37 rfl (ha.1) (ha.2.1) ?_
    refine s_iconstv (v := nI 1) (zdk hX0_keepUses 6 rfl) zc_iconst_1 ?_
    refine s_aload_n (zdk hX0_keepUses 7 rfl) rfl ?_
    refine s_getR (zdk hX0_keepUses 8 rfl) fw_X0_37 rfl (ha.1) (ha.2.1) ?_
    refine s_iconstv (v := nI 0) (zdk hX0_keepUses 9 rfl) zc_iconst_0 ?_
    refine s_bipushv (v := nI 23) (zdk hX0_keepUses 10 rfl) zc_bipush_23 ?_
    refine s_copyN (sp := 1) (dp := 0) (n := 23) (zdk hX0_keepUses 11 rfl) yw_X0_44 yw_nat yw_sta yw_ini (ha.2.2.2.1) (ha.2.2.2.1) (by omega) (by omega) (by omega) (Nat.le_trans (show 1 + 23 ≤ 24 by omega) (Nat.le_of_eq (Eq.symm (ha.2.2.2.2.1)))) (Nat.le_trans (show 0 + 23 ≤ 24 by omega) (Nat.le_of_eq (Eq.symm (ha.2.2.2.2.1)))) (Nat.le_of_ble_eq_true rfl) (Nat.le_of_ble_eq_true rfl) ?_
    refine s_aload_n (zdk hX0_keepUses 12 rfl) rfl ?_
    refine s_dupr (zdk hX0_keepUses 13 rfl) ?_
    refine s_getI (zdk hX0_keepUses 14 rfl) fw_X0_34 rfl (ha.1) ?_
    refine s_topi (b := nI 24) (((congrFun (zI_An M _ (show a ≠ a + 1 by omega)) 7).trans hn)) ?_
    refine s_iconstv (v := nI 1) (zdk hX0_keepUses 15 rfl) zc_iconst_1 ?_
    refine s_isub (zdk hX0_keepUses 16 rfl) ?_
    refine s_topi (b := nI 23) (by decide) ?_
    refine s_putI (zdk hX0_keepUses 17 rfl) fw_X0_34 rfl pw_0_7 (ha.1) ?_
    refine s_aload_n (zdk hX0_keepUses 18 rfl) rfl ?_
    refine s_getR (zdk hX0_keepUses 19 rfl) fw_X0_37 rfl (ha.1) (ha.2.1) ?_
    refine s_aload_n (zdk hX0_keepUses 20 rfl) rfl ?_
    refine s_getI (zdk hX0_keepUses 21 rfl) fw_X0_34 rfl (ha.1) ?_
    refine s_topi (b := nI 23) ((congrFun zI_Ie 7).trans zw1_e) ?_
    refine s_aload_n (zdk hX0_keepUses 22 rfl) rfl ?_
    refine s_getI (zdk hX0_keepUses 23 rfl) fw_X0_22 rfl (ha.1) ?_
    refine s_iastoreN (N := 24) (j := 23) (zdk hX0_keepUses 24 rfl) (ha.2.2.2.1) (ha.2.2.2.2.1) (by omega) (by decide) ?_
    refine s_aload_n (zdk hX0_keepUses 25 rfl) rfl ?_
    refine s_dupr (zdk hX0_keepUses 26 rfl) ?_
    refine s_getI (zdk hX0_keepUses 27 rfl) fw_X0_34 rfl (ha.1) ?_
    refine s_topi (b := nI 23) ((congrFun (zI_In (show a ≠ a + 1 by omega)) 7).trans ((congrFun zI_Ie 7).trans zw1_e)) ?_
    refine s_iconstv (v := nI 1) (zdk hX0_keepUses 28 rfl) zc_iconst_1 ?_
    refine s_iadd (zdk hX0_keepUses 29 rfl) ?_
    refine s_topi (b := nI 24) (by decide) ?_
    refine s_putI (zdk hX0_keepUses 30 rfl) fw_X0_34 rfl pw_0_7 (ha.1) ?_
    refine s_aload_n (zdk hX0_keepUses 31 rfl) rfl ?_
    refine s_iconstv (v := nI 0) (zdk hX0_keepUses 32 rfl) zc_iconst_0 ?_
    refine s_putI (zdk hX0_keepUses 33 rfl) fw_X0_22 rfl pw_0_3 (ha.1) ?_
    refine s_return (zdk hX0_keepUses 34 rfl) rfl ?_
    exact ⟨rfl, rfl⟩
/-- seasons learned anew from the first i kept uses -/
def zrl (g u : Nat → Int32) (q c : Nat) (rate : Int32) : Nat → Nat → Int32
  | 0 => zuk g 12
  | i + 1 => zw1 (zrl g u q c rate i) ((q + i) % c) (zlv (zrl g u q c rate i ((q + i) % c)) (u i) rate)
theorem w_X0_learnFromKept_15 (hl : l.stackTraces = false) {M : zMem} {a P n c : Nat} (ha : rSh M a) (hn : zI M a 7 = nI n) (hn24 : n ≤ 24) (hP : n ≤ P) (hP2 : P < 20000) (hc : 0 < c) (hc2 : c ≤ 12) (rate : Int32) : ∀ (k : Nat) (i : Nat), i ≤ n → n - i < k → zS l G mX0_learnFromKept 1 25 0 0 15 [some (.ref a), some (.int (nI P)), some (.int (nI c)), some (.int (rate)), some (.int (nI (P - n))), some (.int (nI i))] [] (zsA M (a + 2) (zrl (zI M (a + 2)) (zI M (a + 1)) (P - n) c rate i)) (zD none (zsA M (a + 2) (zrl (zI M (a + 2)) (zI M (a + 1)) (P - n) c rate n))) := by
  intro k
  induction k with
  | zero => intros; omega
  | succ k ih =>
    intro i hi hk
    refine s_iload (zdk hX0_learnFromKept 9 rfl) rfl ?_
    refine s_aload_n (zdk hX0_learnFromKept 10 rfl) rfl ?_
    refine s_getI (zdk hX0_learnFromKept 11 rfl) fw_X0_34 rfl (ha.1) ?_
    refine s_topi (b := nI n) ((congrFun (zI_An M _ (show a ≠ a + 2 by omega)) 7).trans hn) ?_
    refine s_icmp_ge 51 (zdk hX0_learnFromKept 12 rfl) (by decide) (fun c21 => ?_) (fun c21 => ?_)
    · obtain rfl : i = n := by have := nle c21 (by omega) (by omega); omega
      refine s_return (zdk hX0_learnFromKept 27 rfl) rfl ?_
      exact ⟨rfl, rfl⟩
    · have hi2 : i < n := nlt c21 (by omega) (by omega)
      refine s_aload_n (zdk hX0_learnFromKept 13 rfl) rfl ?_
      refine s_iload (zdk hX0_learnFromKept 14 rfl) rfl ?_
      refine s_iload (zdk hX0_learnFromKept 15 rfl) rfl ?_
      refine s_iadd (zdk hX0_learnFromKept 16 rfl) ?_
      refine s_topi (b := nI (P - n + i)) (nI_add _ _) ?_
      refine s_iload_n (zdk hX0_learnFromKept 17 rfl) rfl ?_
      refine s_callS0 [.int (nI (P - n + i)), .int (nI c)] (zdk hX0_learnFromKept 18 rfl) cw_X0_72 rfl (Nat.le_of_ble_eq_true rfl) (by decide) (c_floorMod hl _ (by omega) hc (by omega)) ?_
      refine s_aload_n (zdk hX0_learnFromKept 19 rfl) rfl ?_
      refine s_getR (zdk hX0_learnFromKept 20 rfl) fw_X0_37 rfl (ha.1) (ha.2.1) ?_
      refine s_iload (zdk hX0_learnFromKept 21 rfl) rfl ?_
      refine s_ialoadN (N := 24) (j := i) (zdk hX0_learnFromKept 22 rfl) (ha.2.2.2.1) (ha.2.2.2.2.1) (by omega) (by decide) ?_
      refine s_iload_n (zdk hX0_learnFromKept 23 rfl) rfl ?_
      have hm : (P - n + i) % c < 12 := by have := Nat.mod_lt (P - n + i) hc; omega
      refine s_topi rfl ?_
      refine s_callV0 (ci := 0) [.int (nI ((P - n + i) % c)), .int (zI (zsA M (a + 2) (zrl (zI M (a + 2)) (zI M (a + 1)) (P - n) c rate i)) (a + 1) (i)), .int (rate)] (zdk hX0_learnFromKept 24 rfl) cw_X0_76 (ha.1) (by decide) rfl rfl rfl (Nat.le_of_ble_eq_true rfl) (by decide) (c_X0_learnSeason (M := (zsA M (a + 2) (zrl (zI M (a + 2)) (zI M (a + 1)) (P - n) c rate i))) (ph := (P - n + i) % c) hl ha hm _ rate) ?_
      refine s_mem (M' := (zsA M (a + 2) (zrl (zI M (a + 2)) (zI M (a + 1)) (P - n) c rate (i + 1)))) (by rw [zsA_1]; refine zsA_g ?_; rw [zI_A, zI_An M _ (show a + 1 ≠ a + 2 by omega)]; rfl) ?_
      refine s_iinc (r := nI (i + 1)) (zdk hX0_learnFromKept 25 rfl) (Nat.le_of_ble_eq_true rfl) rfl (nI_1 i) ?_
      refine s_ls (ls' := [some (.ref a), some (.int (nI P)), some (.int (nI c)), some (.int (rate)), some (.int (nI (P - n))), some (.int (nI (i + 1)))]) rfl ?_
      refine s_goto 15 (zdk hX0_learnFromKept 26 rfl) (by decide) ?_
      exact ih (i + 1) (by omega) (by omega)
theorem c_X0_learnFromKept (hl : l.stackTraces = false) {M : zMem} {a P n c : Nat} (ha : rSh M a) (hn : zI M a 7 = nI n) (hn24 : n ≤ 24) (hP : n ≤ P) (hP2 : P < 20000) (hc : 0 < c) (hc2 : c ≤ 12) (rate : Int32) : zCm l G mX0_learnFromKept 1 25 0 0 [.ref a, .int (nI P), .int (nI c), .int rate] M (zD none (zsA M (a + 2) (zrl (zI M (a + 2)) (zI M (a + 1)) (P - n) c rate n))) := by
  refine zCd.of (ls0 := [some (.ref a), some (.int (nI P)), some (.int (nI c)), some (.int (rate)), none, none]) (by decide +kernel) rfl hl rfl (Nat.le_of_ble_eq_true rfl) rfl ?_
  refine s_aload_n (zdk hX0_learnFromKept 0 rfl) rfl ?_
  refine s_callV0 (ci := 0) [] (zdk hX0_learnFromKept 1 rfl) cw_X0_50 (ha.1) (by decide) rfl rfl rfl (Nat.le_of_ble_eq_true rfl) (by decide) (c_X0_forgetSeasons (M := _) hl ha) ?_
  refine s_iload_n (zdk hX0_learnFromKept 2 rfl) rfl ?_
  refine s_aload_n (zdk hX0_learnFromKept 3 rfl) rfl ?_
  refine s_getI (zdk hX0_learnFromKept 4 rfl) fw_X0_34 rfl (ha.1) ?_
  refine s_topi (b := nI n) ((congrFun (zI_An M _ (show a ≠ a + 2 by omega)) 7).trans hn) ?_
  refine s_isub (zdk hX0_learnFromKept 5 rfl) ?_
  refine s_topi (b := nI (P - n)) (pk_sub (by omega)) ?_
  refine s_istore (zdk hX0_learnFromKept 6 rfl) (Nat.le_of_ble_eq_true rfl) ?_
  refine s_ls (ls' := [some (.ref a), some (.int (nI P)), some (.int (nI c)), some (.int (rate)), some (.int (nI (P - n))), none]) rfl ?_
  refine s_iconstv (v := nI 0) (zdk hX0_learnFromKept 7 rfl) zc_iconst_0 ?_
  refine s_istore (zdk hX0_learnFromKept 8 rfl) (Nat.le_of_ble_eq_true rfl) ?_
  refine s_ls (ls' := [some (.ref a), some (.int (nI P)), some (.int (nI c)), some (.int (rate)), some (.int (nI (P - n))), some (.int (nI 0))]) rfl ?_
  exact w_X0_learnFromKept_15 hl ha hn hn24 hP hP2 hc hc2 rate (n + 1) 0 (by omega) (by omega)
end
end
section
theorem zc_bipush_60 : (Int8.ofInt 60).toInt32 = nI 60 := by decide
theorem zc_iconst_3 : Int32.ofInt 3 = nI 3 := by decide
theorem zc_iconst_4 : Int32.ofInt 4 = nI 4 := by decide
theorem zc_iconst_5 : Int32.ofInt 5 = nI 5 := by decide
/-! ===== TierRow, Moves ===== -/
def tSh (M : zMem) (a : Nat) : Prop := zK M a = 7 ∧ zR M a 1 = some (a + 1) ∧ zR M a 2 = some (a + 2) ∧ zK M (a + 1) = 11 ∧ zN M (a + 1) = 5 ∧ zK M (a + 2) = 12 ∧ zN M (a + 2) = 3
def vSh (M : zMem) (a : Nat) : Prop := zK M a = 3 ∧ zR M a 1 = some (a + 1) ∧ zK M (a + 1) = 11 ∧ zN M (a + 1) = 300
/-- a row of longs as a whole -/
def zsL (M : zMem) (a : Nat) (g : Nat → Int64) : zMem := (M.1, zur M.2.1 a g, M.2.2)
def zwL (g : Nat → Int64) (k : Nat) (v : Int64) : Nat → Int64 := fun j => if j = k then v else g j
theorem zsL_1 (M : zMem) (a k : Nat) (g : Nat → Int64) (v : Int64) : zsJ (zsL M a g) a k v = zsL M a (zwL g k v) := by
  unfold zsJ zsL
  congr 2
  funext b
  unfold zu zur zwL
  by_cases h : b = a
  · simp [h]
  · simp [h]
theorem zsL_id (M : zMem) (a : Nat) : zsL M a (zJ M a) = M := by
  unfold zsL
  have : zur M.2.1 a (zJ M a) = M.2.1 := by
    funext b
    unfold zur
    by_cases h : b = a
    · rw [if_pos h, h]; rfl
    · rw [if_neg h]
  rw [this]
theorem zsL_0 (M : zMem) (a k : Nat) (v : Int64) : zsJ M a k v = zsL M a (zwL (zJ M a) k v) := by
  rw [← zsL_1, zsL_id]
theorem zsL_g {M : zMem} {a : Nat} {g h : Nat → Int64} (e : g = h) : zsL M a g = zsL M a h := by rw [e]
theorem zsL_zsL (M : zMem) (a : Nat) (g h : Nat → Int64) : zsL (zsL M a g) a h = zsL M a h := by
  unfold zsL
  congr 2
  funext b
  unfold zur
  by_cases q : b = a
  · simp [q]
  · simp [q]
theorem zJ_Le {M : zMem} {a : Nat} {g : Nat → Int64} : zJ (zsL M a g) a = g := if_pos rfl
theorem zJ_Ln {M : zMem} {a b : Nat} {g : Nat → Int64} (h : b ≠ a) : zJ (zsL M a g) b = zJ M b := if_neg h
theorem zI_L {M : zMem} {a : Nat} {g : Nat → Int64} : zI (zsL M a g) = zI M := rfl
/-- the first n of f, then g's -/
def zcn {α : Type} (f g : Nat → α) (n : Nat) : Nat → α := fun j => if j < n then f j else g j
theorem zcn_0 {α : Type} (f g : Nat → α) : zcn f g 0 = g := by funext j; unfold zcn; rw [if_neg (by omega)]
theorem zcn_1 (f g : Nat → Int32) (n : Nat) : zw1 (zcn f g n) n (f n) = zcn f g (n + 1) := by
  funext j
  unfold zw1 zcn
  by_cases h : j = n
  · rw [if_pos h, if_pos (by omega), h]
  · rw [if_neg h]
    by_cases q : j < n
    · rw [if_pos q, if_pos (by omega)]
    · rw [if_neg q, if_neg (by omega)]
theorem zcn_L (f g : Nat → Int64) (n : Nat) : zwL (zcn f g n) n (f n) = zcn f g (n + 1) := by
  funext j
  unfold zwL zcn
  by_cases h : j = n
  · rw [if_pos h, if_pos (by omega), h]
  · rw [if_neg h]
    by_cases q : j < n
    · rw [if_pos q, if_pos (by omega)]
    · rw [if_neg q, if_neg (by omega)]
theorem nI_m1 (x : Int32) : x + Int32.ofInt (-1) = x - nI 1 := by rw [Int32.sub_eq_add_neg]; rfl
section
variable {l : Launch} {G : zG}
theorem w_X6_startAs_7 {M : zMem} {a : Nat} (ha : tSh M a) (nm : Int64) : ∀ (k : Nat) (i : Nat), i ≤ 3 → 3 - i < k → zS l G mX6_startAs 0 0 0 0 7 [some (.ref a), some (.long (nm)), none, some (.int (nI i))] [] (zsL (zsJ M a 0 nm) (a + 2) (zcn (fun _ => lN 0) (zJ M (a + 2)) i)) (zD none (zsL (zsJ M a 0 nm) (a + 2) (zcn (fun _ => lN 0) (zJ M (a + 2)) 3))) := by
  intro k
  induction k with
  | zero => intros; omega
  | succ k ih =>
    intro i hi hk
    refine s_iload_n (zdk hX6_startAs 5 rfl) rfl ?_
    refine s_iconstv (v := nI 3) (zdk hX6_startAs 6 rfl) zc_iconst_3 ?_
    refine s_icmp_ge 25 (zdk hX6_startAs 7 rfl) (by decide) (fun c9 => ?_) (fun c9 => ?_)
    · obtain rfl : i = 3 := by have := nle c9 (by omega) (by omega); omega
      refine s_return (zdk hX6_startAs 15 rfl) rfl ?_
      exact ⟨rfl, rfl⟩
    · have hi2 : i < 3 := nlt c9 (by omega) (by omega)
      refine s_aload_n (zdk hX6_startAs 8 rfl) rfl ?_
      refine s_getR (zdk hX6_startAs 9 rfl) fw_X6_19 rfl (ha.1) (ha.2.2.1) ?_
      refine s_iload_n (zdk hX6_startAs 10 rfl) rfl ?_
      refine s_lconstv (v := lN 0) (zdk hX6_startAs 11 rfl) rfl ?_
      refine s_lastoreN (N := 3) (j := i) (zdk hX6_startAs 12 rfl) (ha.2.2.2.2.2.1) (ha.2.2.2.2.2.2) (hi2) (by decide) ?_
      refine s_mem (M' := (zsL (zsJ M a 0 nm) (a + 2) (zcn (fun _ => lN 0) (zJ M (a + 2)) (i + 1)))) ((zsL_1 _ _ _ _ _).trans (zsL_g (zcn_L _ _ _))) ?_
      refine s_iinc (r := nI (i + 1)) (zdk hX6_startAs 13 rfl) (Nat.le_of_ble_eq_true rfl) rfl (nI_1 i) ?_
      refine s_ls (ls' := [some (.ref a), some (.long (nm)), none, some (.int (nI (i + 1)))]) rfl ?_
      refine s_goto 7 (zdk hX6_startAs 14 rfl) (by decide) ?_
      exact ih (i + 1) (by omega) (by omega)
theorem c_X6_startAs (hl : l.stackTraces = false) {M : zMem} {a : Nat} (ha : tSh M a) (nm : Int64) : zCm l G mX6_startAs 0 0 0 0 [.ref a, .long nm] M (zD none (zsL (zsJ M a 0 nm) (a + 2) (zcn (fun _ => lN 0) (zJ M (a + 2)) 3))) := by
  refine zCd.of (ls0 := [some (.ref a), some (.long (nm)), none, none]) (by decide +kernel) rfl hl rfl (Nat.le_of_ble_eq_true rfl) rfl ?_
  refine s_aload_n (zdk hX6_startAs 0 rfl) rfl ?_
  refine s_lload_n (zdk hX6_startAs 1 rfl) rfl ?_
  refine s_putJ (zdk hX6_startAs 2 rfl) fw_X6_9 rfl pw_6_0 (ha.1) ?_
  refine s_iconstv (v := nI 0) (zdk hX6_startAs 3 rfl) zc_iconst_0 ?_
  refine s_istore_n (zdk hX6_startAs 4 rfl) (Nat.le_of_ble_eq_true rfl) ?_
  refine s_ls (ls' := [some (.ref a), some (.long (nm)), none, some (.int (nI 0))]) rfl ?_
  have h := w_X6_startAs_7 (l := l) (G := G) ha nm 4 0 (by omega) (by omega)
  rw [zcn_0] at h
  rw [show zsL (zsJ M a 0 nm) (a + 2) (zJ M (a + 2)) = zsJ M a 0 nm from (zsL_g (zJ_Jn (by omega)).symm).trans (zsL_id _ _)] at h
  exact h
def zM_tcopy (M : zMem) (a b : Nat) : zMem := (zsL (zsA (zsJ M a 0 (zJ M b 0)) (a + 1) (zcn (zI M (b + 1)) (zI M (a + 1)) 5)) (a + 2) (zcn (zJ M (b + 2)) (zJ M (a + 2)) 3))
theorem w_X6_copyFrom_35 {M : zMem} {a b : Nat} (ha : tSh M a) (hb : tSh M b) (hab : b ≠ a) (h1 : b + 3 ≤ a ∨ a + 3 ≤ b) : ∀ (k : Nat) (i : Nat), i ≤ 3 → 3 - i < k → zS l G mX6_copyFrom 0 0 0 0 35 [some (.ref a), some (.ref b), some (.int (nI i))] [] (zsL (zsA (zsJ M a 0 (zJ M b 0)) (a + 1) (zcn (zI M (b + 1)) (zI M (a + 1)) 5)) (a + 2) (zcn (zJ M (b + 2)) (zJ M (a + 2)) i)) (zD none (zM_tcopy M a b)) := by
  intro k
  induction k with
  | zero => intros; omega
  | succ k ih =>
    intro i hi hk
    refine s_iload_n (zdk hX6_copyFrom 21 rfl) rfl ?_
    refine s_iconstv (v := nI 3) (zdk hX6_copyFrom 22 rfl) zc_iconst_3 ?_
    refine s_icmp_ge 58 (zdk hX6_copyFrom 23 rfl) (by decide) (fun c37 => ?_) (fun c37 => ?_)
    · obtain rfl : i = 3 := by have := nle c37 (by omega) (by omega); omega
      refine s_return (zdk hX6_copyFrom 34 rfl) rfl ?_
      exact ⟨rfl, rfl⟩
    · have hi2 : i < 3 := nlt c37 (by omega) (by omega)
      refine s_aload_n (zdk hX6_copyFrom 24 rfl) rfl ?_
      refine s_getR (zdk hX6_copyFrom 25 rfl) fw_X6_19 rfl (ha.1) (ha.2.2.1) ?_
      refine s_iload_n (zdk hX6_copyFrom 26 rfl) rfl ?_
      refine s_aload_n (zdk hX6_copyFrom 27 rfl) rfl ?_
      refine s_getR (zdk hX6_copyFrom 28 rfl) fw_X6_19 rfl (hb.1) (hb.2.2.1) ?_
      refine s_iload_n (zdk hX6_copyFrom 29 rfl) rfl ?_
      refine s_laloadN (N := 3) (j := i) (zdk hX6_copyFrom 30 rfl) (hb.2.2.2.2.2.1) (hb.2.2.2.2.2.2) (hi2) (by decide) ?_
      refine s_topl (b := zJ M (b + 2) i) ((congrFun (zJ_Ln (show b + 2 ≠ a + 2 by omega)) i).trans (congrFun (zJ_Jn (show b + 2 ≠ a by omega)) i)) ?_
      refine s_lastoreN (N := 3) (j := i) (zdk hX6_copyFrom 31 rfl) (ha.2.2.2.2.2.1) (ha.2.2.2.2.2.2) (hi2) (by decide) ?_
      refine s_mem (M' := (zsL (zsA (zsJ M a 0 (zJ M b 0)) (a + 1) (zcn (zI M (b + 1)) (zI M (a + 1)) 5)) (a + 2) (zcn (zJ M (b + 2)) (zJ M (a + 2)) (i + 1)))) ((zsL_1 _ _ _ _ _).trans (zsL_g (zcn_L _ _ _))) ?_
      refine s_iinc (r := nI (i + 1)) (zdk hX6_copyFrom 32 rfl) (Nat.le_of_ble_eq_true rfl) rfl (nI_1 i) ?_
      refine s_ls (ls' := [some (.ref a), some (.ref b), some (.int (nI (i + 1)))]) rfl ?_
      refine s_goto 35 (zdk hX6_copyFrom 33 rfl) (by decide) ?_
      exact ih (i + 1) (by omega) (by omega)
theorem w_X6_copyFrom_10 {M : zMem} {a b : Nat} (ha : tSh M a) (hb : tSh M b) (hab : b ≠ a) (h1 : b + 3 ≤ a ∨ a + 3 ≤ b) : ∀ (k : Nat) (i : Nat), i ≤ 5 → 5 - i < k → zS l G mX6_copyFrom 0 0 0 0 10 [some (.ref a), some (.ref b), some (.int (nI i))] [] (zsA (zsJ M a 0 (zJ M b 0)) (a + 1) (zcn (zI M (b + 1)) (zI M (a + 1)) i)) (zD none (zM_tcopy M a b)) := by
  intro k
  induction k with
  | zero => intros; omega
  | succ k ih =>
    intro i hi hk
    refine s_iload_n (zdk hX6_copyFrom 6 rfl) rfl ?_
    refine s_iconstv (v := nI 5) (zdk hX6_copyFrom 7 rfl) zc_iconst_5 ?_
    refine s_icmp_ge 33 (zdk hX6_copyFrom 8 rfl) (by decide) (fun c12 => ?_) (fun c12 => ?_)
    · obtain rfl : i = 5 := by have := nle c12 (by omega) (by omega); omega
      refine s_iconstv (v := nI 0) (zdk hX6_copyFrom 19 rfl) zc_iconst_0 ?_
      refine s_istore_n (zdk hX6_copyFrom 20 rfl) (Nat.le_of_ble_eq_true rfl) ?_
      refine s_ls (ls' := [some (.ref a), some (.ref b), some (.int (nI 0))]) rfl ?_
      have h := w_X6_copyFrom_35 (l := l) (G := G) ha hb hab h1 4 0 (by omega) (by omega)
      rw [zcn_0 (zJ M (b + 2))] at h
      rw [show zJ M (a + 2) = zJ (zsA (zsJ M a 0 (zJ M b 0)) (a + 1) (zcn (zI M (b + 1)) (zI M (a + 1)) 5)) (a + 2) from (zJ_Jn (show a + 2 ≠ a by omega)).symm, zsL_id] at h
      exact h
    · have hi2 : i < 5 := nlt c12 (by omega) (by omega)
      refine s_aload_n (zdk hX6_copyFrom 9 rfl) rfl ?_
      refine s_getR (zdk hX6_copyFrom 10 rfl) fw_X6_15 rfl (ha.1) (ha.2.1) ?_
      refine s_iload_n (zdk hX6_copyFrom 11 rfl) rfl ?_
      refine s_aload_n (zdk hX6_copyFrom 12 rfl) rfl ?_
      refine s_getR (zdk hX6_copyFrom 13 rfl) fw_X6_15 rfl (hb.1) (hb.2.1) ?_
      refine s_iload_n (zdk hX6_copyFrom 14 rfl) rfl ?_
      refine s_ialoadN (N := 5) (j := i) (zdk hX6_copyFrom 15 rfl) (hb.2.2.2.1) (hb.2.2.2.2.1) (hi2) (by decide) ?_
      refine s_topi (b := zI M (b + 1) i) ((congrFun (zI_An _ _ (show b + 1 ≠ a + 1 by omega)) i)) ?_
      refine s_iastoreN (N := 5) (j := i) (zdk hX6_copyFrom 16 rfl) (ha.2.2.2.1) (ha.2.2.2.2.1) (hi2) (by decide) ?_
      refine s_mem (M' := (zsA (zsJ M a 0 (zJ M b 0)) (a + 1) (zcn (zI M (b + 1)) (zI M (a + 1)) (i + 1)))) ((zsA_1 _ _ _ _ _).trans (zsA_g (zcn_1 _ _ _))) ?_
      refine s_iinc (r := nI (i + 1)) (zdk hX6_copyFrom 17 rfl) (Nat.le_of_ble_eq_true rfl) rfl (nI_1 i) ?_
      refine s_ls (ls' := [some (.ref a), some (.ref b), some (.int (nI (i + 1)))]) rfl ?_
      refine s_goto 10 (zdk hX6_copyFrom 18 rfl) (by decide) ?_
      exact ih (i + 1) (by omega) (by omega)
theorem c_X6_copyFrom (hl : l.stackTraces = false) {M : zMem} {a b : Nat} (ha : tSh M a) (hb : tSh M b) (hab : b ≠ a) (h1 : b + 3 ≤ a ∨ a + 3 ≤ b) : zCm l G mX6_copyFrom 0 0 0 0 [.ref a, .ref b] M (zD none (zM_tcopy M a b)) := by
  refine zCd.of (ls0 := [some (.ref a), some (.ref b), none]) (by decide +kernel) rfl hl rfl (Nat.le_of_ble_eq_true rfl) rfl ?_
  refine s_aload_n (zdk hX6_copyFrom 0 rfl) rfl ?_
  refine s_aload_n (zdk hX6_copyFrom 1 rfl) rfl ?_
  refine s_getJ (zdk hX6_copyFrom 2 rfl) fw_X6_9 rfl (hb.1) ?_
  refine s_putJ (zdk hX6_copyFrom 3 rfl) fw_X6_9 rfl pw_6_0 (ha.1) ?_
  refine s_iconstv (v := nI 0) (zdk hX6_copyFrom 4 rfl) zc_iconst_0 ?_
  refine s_istore_n (zdk hX6_copyFrom 5 rfl) (Nat.le_of_ble_eq_true rfl) ?_
  refine s_ls (ls' := [some (.ref a), some (.ref b), some (.int (nI 0))]) rfl ?_
  have h := w_X6_copyFrom_10 (l := l) (G := G) ha hb hab h1 6 0 (by omega) (by omega)
  rw [zcn_0] at h
  rw [show zI M (a + 1) = zI (zsJ M a 0 (zJ M b 0)) (a + 1) from rfl, zsA_id] at h
  exact h
def zpd (g : Nat → Int64) (k : Nat) : Int64 := if k = 3 then g 0 + g 1 + g 2 else g k
theorem c_X6_paidFor (hl : l.stackTraces = false) {M : zMem} {a : Nat} (ha : tSh M a) {k : Nat} (hk : k ≤ 3) : zCm l G mX6_paidFor 0 0 0 0 [.ref a, .int (nI k)] M (zD (some (.long (zpd (zJ M (a + 2)) k))) M) := by
  refine zCd.of (ls0 := [some (.ref a), some (.int (nI k))]) (by decide +kernel) rfl hl rfl (Nat.le_of_ble_eq_true rfl) rfl ?_
  refine s_iload_n (zdk hX6_paidFor 0 rfl) rfl ?_
  refine s_iconstv (v := nI 3) (zdk hX6_paidFor 1 rfl) zc_iconst_3 ?_
  refine s_icmp_ne 28 (zdk hX6_paidFor 2 rfl) (by decide) (fun c2 => ?_) (fun c2 => ?_)
  · have hk3 : k ≠ 3 := nne c2
    refine s_aload_n (zdk hX6_paidFor 18 rfl) rfl ?_
    refine s_getR (zdk hX6_paidFor 19 rfl) fw_X6_19 rfl (ha.1) (ha.2.2.1) ?_
    refine s_iload_n (zdk hX6_paidFor 20 rfl) rfl ?_
    refine s_laloadN (N := 3) (j := k) (zdk hX6_paidFor 21 rfl) (ha.2.2.2.2.2.1) (ha.2.2.2.2.2.2) (by omega) (by decide) ?_
    refine s_lreturn (zdk hX6_paidFor 22 rfl) rfl  ?_
    first | exact ⟨by rw [zpd, if_neg hk3], rfl⟩ | exact ⟨rfl, rfl⟩
  · obtain rfl : k = 3 := neq c2 (by omega) (by omega)
    refine s_aload_n (zdk hX6_paidFor 3 rfl) rfl ?_
    refine s_getR (zdk hX6_paidFor 4 rfl) fw_X6_19 rfl (ha.1) (ha.2.2.1) ?_
    refine s_iconstv (v := nI 0) (zdk hX6_paidFor 5 rfl) zc_iconst_0 ?_
    refine s_laloadN (N := 3) (j := 0) (zdk hX6_paidFor 6 rfl) (ha.2.2.2.2.2.1) (ha.2.2.2.2.2.2) (by omega) (by decide) ?_
    refine s_aload_n (zdk hX6_paidFor 7 rfl) rfl ?_
    refine s_getR (zdk hX6_paidFor 8 rfl) fw_X6_19 rfl (ha.1) (ha.2.2.1) ?_
    refine s_iconstv (v := nI 1) (zdk hX6_paidFor 9 rfl) zc_iconst_1 ?_
    refine s_laloadN (N := 3) (j := 1) (zdk hX6_paidFor 10 rfl) (ha.2.2.2.2.2.1) (ha.2.2.2.2.2.2) (by omega) (by decide) ?_
    refine s_ladd (zdk hX6_paidFor 11 rfl) ?_
    refine s_aload_n (zdk hX6_paidFor 12 rfl) rfl ?_
    refine s_getR (zdk hX6_paidFor 13 rfl) fw_X6_19 rfl (ha.1) (ha.2.2.1) ?_
    refine s_iconstv (v := nI 2) (zdk hX6_paidFor 14 rfl) zc_iconst_2 ?_
    refine s_laloadN (N := 3) (j := 2) (zdk hX6_paidFor 15 rfl) (ha.2.2.2.2.2.1) (ha.2.2.2.2.2.2) (by omega) (by decide) ?_
    refine s_ladd (zdk hX6_paidFor 16 rfl) ?_
    refine s_goto 34 (zdk hX6_paidFor 17 rfl) (by decide) ?_
    refine s_lreturn (zdk hX6_paidFor 22 rfl) rfl  ?_
    first | exact ⟨by rw [zpd, if_neg hk3], rfl⟩ | exact ⟨rfl, rfl⟩
theorem c_X2_latest (hl : l.stackTraces = false) {M : zMem} {a : Nat} (ha : vSh M a) {n k : Nat} (hn : zI M a 0 = nI n) (h0 : 0 < n) (hn2 : n ≤ 60) (hk : k < 5) : zCm l G mX2_latest 0 0 0 0 [.ref a, .int (nI k)] M (zD (some (.int (zI M (a + 1) ((n - 1) * 5 + k)))) M) := by
  refine zCd.of (ls0 := [some (.ref a), some (.int (nI k))]) (by decide +kernel) rfl hl rfl (Nat.le_of_ble_eq_true rfl) rfl ?_
  refine s_aload_n (zdk hX2_latest 0 rfl) rfl ?_
  refine s_getR (zdk hX2_latest 1 rfl) fw_X2_15 rfl (ha.1) (ha.2.1) ?_
  refine s_aload_n (zdk hX2_latest 2 rfl) rfl ?_
  refine s_getI (zdk hX2_latest 3 rfl) fw_X2_9 rfl (ha.1) ?_
  refine s_topi (b := nI n) (hn) ?_
  refine s_iconstv (v := nI 1) (zdk hX2_latest 4 rfl) zc_iconst_1 ?_
  refine s_isub (zdk hX2_latest 5 rfl) ?_
  refine s_topi (b := nI (n - 1)) (pk_sub (by omega)) ?_
  refine s_iconstv (v := nI 5) (zdk hX2_latest 6 rfl) zc_iconst_5 ?_
  refine s_imul (zdk hX2_latest 7 rfl) ?_
  refine s_topi (b := nI ((n - 1) * 5)) (pk_mul _ _) ?_
  refine s_iload_n (zdk hX2_latest 8 rfl) rfl ?_
  refine s_iadd (zdk hX2_latest 9 rfl) ?_
  refine s_topi (b := nI ((n - 1) * 5 + k)) (nI_add _ _) ?_
  refine s_ialoadN (N := 300) (j := ((n - 1) * 5 + k)) (zdk hX2_latest 10 rfl) (ha.2.2.1) (ha.2.2.2) (by omega) (by decide) ?_
  refine s_ireturn (zdk hX2_latest 11 rfl) rfl rfl ?_
  exact ⟨rfl, rfl⟩
def zM_rm (M : zMem) (a n r : Nat) : zMem := zsI (zsA M (a + 1) (va_cpy (zI M (a + 1)) (zI M (a + 1)) (r * 5 + 5) (r * 5) ((n - r - 1) * 5))) a 0 (nI (n - 1))
theorem c_X2_removeRow (hl : l.stackTraces = false) {M : zMem} {a : Nat} (ha : vSh M a) {n r : Nat} (hn : zI M a 0 = nI n) (hr : r < n) (hn2 : n ≤ 60) : zCm l G mX2_removeRow 1 18 0 0 [.ref a, .int (nI r)] M (zD none (zM_rm M a n r)) := by
  refine zCd.of (ls0 := [some (.ref a), some (.int (nI r)), none]) (by decide +kernel) rfl hl rfl (Nat.le_of_ble_eq_true rfl) rfl ?_
  refine s_iload_n (zdk hX2_removeRow 0 rfl) rfl ?_
  refine s_iconstv (v := nI 5) (zdk hX2_removeRow 1 rfl) zc_iconst_5 ?_
  refine s_imul (zdk hX2_removeRow 2 rfl) ?_
  refine s_topi (b := nI (r * 5)) (pk_mul _ _) ?_
  refine s_istore_n (zdk hX2_removeRow 3 rfl) (Nat.le_of_ble_eq_true rfl) ?_
  refine s_ls (ls' := [some (.ref a), some (.int (nI r)), some (.int (nI (r * 5)))]) rfl ?_
  refine s_aload_n (zdk hX2_removeRow 4 rfl) rfl ?_
  refine s_getR (zdk hX2_removeRow 5 rfl) fw_X2_15 rfl (ha.1) (ha.2.1) ?_
  refine s_iload_n (zdk hX2_removeRow 6 rfl) rfl ?_
  refine s_iconstv (v := nI 5) (zdk hX2_removeRow 7 rfl) zc_iconst_5 ?_
  refine s_iadd (zdk hX2_removeRow 8 rfl) ?_
  refine s_topi (b := nI (r * 5 + 5)) (nI_add _ _) ?_
  refine s_aload_n (zdk hX2_removeRow 9 rfl) rfl ?_
  refine s_getR (zdk hX2_removeRow 10 rfl) fw_X2_15 rfl (ha.1) (ha.2.1) ?_
  refine s_iload_n (zdk hX2_removeRow 11 rfl) rfl ?_
  refine s_aload_n (zdk hX2_removeRow 12 rfl) rfl ?_
  refine s_getI (zdk hX2_removeRow 13 rfl) fw_X2_9 rfl (ha.1) ?_
  refine s_topi (b := nI n) (hn) ?_
  refine s_iload_n (zdk hX2_removeRow 14 rfl) rfl ?_
  refine s_isub (zdk hX2_removeRow 15 rfl) ?_
  refine s_topi (b := nI (n - r)) (pk_sub (by omega)) ?_
  refine s_iconstv (v := nI 1) (zdk hX2_removeRow 16 rfl) zc_iconst_1 ?_
  refine s_isub (zdk hX2_removeRow 17 rfl) ?_
  refine s_topi (b := nI (n - r - 1)) (pk_sub (by omega)) ?_
  refine s_iconstv (v := nI 5) (zdk hX2_removeRow 18 rfl) zc_iconst_5 ?_
  refine s_imul (zdk hX2_removeRow 19 rfl) ?_
  refine s_topi (b := nI ((n - r - 1) * 5)) (pk_mul _ _) ?_
  refine s_copyN (sp := r * 5 + 5) (dp := r * 5) (n := (n - r - 1) * 5) (zdk hX2_removeRow 20 rfl) yw_X2_19 yw_nat yw_sta yw_ini (ha.2.2.1) (ha.2.2.1) (by omega) (by omega) (by omega) (Nat.le_trans (show r * 5 + 5 + (n - r - 1) * 5 ≤ 300 by omega) (Nat.le_of_eq (Eq.symm (ha.2.2.2)))) (Nat.le_trans (show r * 5 + (n - r - 1) * 5 ≤ 300 by omega) (Nat.le_of_eq (Eq.symm (ha.2.2.2)))) (Nat.le_of_ble_eq_true rfl) (Nat.le_of_ble_eq_true rfl) ?_
  refine s_aload_n (zdk hX2_removeRow 21 rfl) rfl ?_
  refine s_dupr (zdk hX2_removeRow 22 rfl) ?_
  refine s_getI (zdk hX2_removeRow 23 rfl) fw_X2_9 rfl (ha.1) ?_
  refine s_topi (b := nI n) ((congrFun (zI_An M _ (show a ≠ a + 1 by omega)) 0).trans hn) ?_
  refine s_iconstv (v := nI 1) (zdk hX2_removeRow 24 rfl) zc_iconst_1 ?_
  refine s_isub (zdk hX2_removeRow 25 rfl) ?_
  refine s_topi (b := nI (n - 1)) (pk_sub (by omega)) ?_
  refine s_putI (zdk hX2_removeRow 26 rfl) fw_X2_9 rfl pw_2_0 (ha.1) ?_
  refine s_return (zdk hX2_removeRow 27 rfl) rfl ?_
  exact ⟨rfl, rfl⟩
def zM_put (M : zMem) (a n : Nat) (f fr to oc ic : Int32) : zMem := zsI (zsI (zsI (zsI (zsI (zsI M (a + 1) (n * 5 + 0) f) (a + 1) (n * 5 + 1) fr) (a + 1) (n * 5 + 2) to) (a + 1) (n * 5 + 3) oc) (a + 1) (n * 5 + 4) ic) a 0 (nI (n + 1))
theorem w_X2_put_14 {M : zMem} {a : Nat} (ha : vSh M a) {n : Nat} (hn : zI M a 0 = nI n) (hn2 : n < 60)  (f fr to oc ic : Int32) : zS l G mX2_put 2 40 0 0 14 [some (.ref a), some (.int (f)), some (.int (fr)), some (.int (to)), some (.int (oc)), some (.int (ic)), none] [] M (zD none (zM_put M a n f fr to oc ic)) := by
  refine s_aload_n (zdk hX2_put 7 rfl) rfl ?_
  refine s_getI (zdk hX2_put 8 rfl) fw_X2_9 rfl (ha.1) ?_
  refine s_topi (b := nI n) (hn) ?_
  refine s_iconstv (v := nI 5) (zdk hX2_put 9 rfl) zc_iconst_5 ?_
  refine s_imul (zdk hX2_put 10 rfl) ?_
  refine s_topi (b := nI (n * 5)) (pk_mul _ _) ?_
  refine s_istore (zdk hX2_put 11 rfl) (Nat.le_of_ble_eq_true rfl) ?_
  refine s_ls (ls' := [some (.ref a), some (.int (f)), some (.int (fr)), some (.int (to)), some (.int (oc)), some (.int (ic)), some (.int (nI (n * 5)))]) rfl ?_
  refine s_aload_n (zdk hX2_put 12 rfl) rfl ?_
  refine s_getR (zdk hX2_put 13 rfl) fw_X2_15 rfl (ha.1) (ha.2.1) ?_
  refine s_iload (zdk hX2_put 14 rfl) rfl ?_
  refine s_iconstv (v := nI 0) (zdk hX2_put 15 rfl) zc_iconst_0 ?_
  refine s_iadd (zdk hX2_put 16 rfl) ?_
  refine s_topi (b := nI (n * 5 + 0)) (nI_add _ _) ?_
  refine s_iload_n (zdk hX2_put 17 rfl) rfl ?_
  refine s_iastoreN (N := 300) (j := (n * 5 + 0)) (zdk hX2_put 18 rfl) (ha.2.2.1) (ha.2.2.2) (by omega) (by decide) ?_
  refine s_aload_n (zdk hX2_put 19 rfl) rfl ?_
  refine s_getR (zdk hX2_put 20 rfl) fw_X2_15 rfl (ha.1) (ha.2.1) ?_
  refine s_iload (zdk hX2_put 21 rfl) rfl ?_
  refine s_iconstv (v := nI 1) (zdk hX2_put 22 rfl) zc_iconst_1 ?_
  refine s_iadd (zdk hX2_put 23 rfl) ?_
  refine s_topi (b := nI (n * 5 + 1)) (nI_add _ _) ?_
  refine s_iload_n (zdk hX2_put 24 rfl) rfl ?_
  refine s_iastoreN (N := 300) (j := (n * 5 + 1)) (zdk hX2_put 25 rfl) (ha.2.2.1) (ha.2.2.2) (by omega) (by decide) ?_
  refine s_aload_n (zdk hX2_put 26 rfl) rfl ?_
  refine s_getR (zdk hX2_put 27 rfl) fw_X2_15 rfl (ha.1) (ha.2.1) ?_
  refine s_iload (zdk hX2_put 28 rfl) rfl ?_
  refine s_iconstv (v := nI 2) (zdk hX2_put 29 rfl) zc_iconst_2 ?_
  refine s_iadd (zdk hX2_put 30 rfl) ?_
  refine s_topi (b := nI (n * 5 + 2)) (nI_add _ _) ?_
  refine s_iload_n (zdk hX2_put 31 rfl) rfl ?_
  refine s_iastoreN (N := 300) (j := (n * 5 + 2)) (zdk hX2_put 32 rfl) (ha.2.2.1) (ha.2.2.2) (by omega) (by decide) ?_
  refine s_aload_n (zdk hX2_put 33 rfl) rfl ?_
  refine s_getR (zdk hX2_put 34 rfl) fw_X2_15 rfl (ha.1) (ha.2.1) ?_
  refine s_iload (zdk hX2_put 35 rfl) rfl ?_
  refine s_iconstv (v := nI 3) (zdk hX2_put 36 rfl) zc_iconst_3 ?_
  refine s_iadd (zdk hX2_put 37 rfl) ?_
  refine s_topi (b := nI (n * 5 + 3)) (nI_add _ _) ?_
  refine s_iload (zdk hX2_put 38 rfl) rfl ?_
  refine s_iastoreN (N := 300) (j := (n * 5 + 3)) (zdk hX2_put 39 rfl) (ha.2.2.1) (ha.2.2.2) (by omega) (by decide) ?_
  refine s_aload_n (zdk hX2_put 40 rfl) rfl ?_
  refine s_getR (zdk hX2_put 41 rfl) fw_X2_15 rfl (ha.1) (ha.2.1) ?_
  refine s_iload (zdk hX2_put 42 rfl) rfl ?_
  refine s_iconstv (v := nI 4) (zdk hX2_put 43 rfl) zc_iconst_4 ?_
  refine s_iadd (zdk hX2_put 44 rfl) ?_
  refine s_topi (b := nI (n * 5 + 4)) (nI_add _ _) ?_
  refine s_iload (zdk hX2_put 45 rfl) rfl ?_
  refine s_iastoreN (N := 300) (j := (n * 5 + 4)) (zdk hX2_put 46 rfl) (ha.2.2.1) (ha.2.2.2) (by omega) (by decide) ?_
  refine s_aload_n (zdk hX2_put 47 rfl) rfl ?_
  refine s_dupr (zdk hX2_put 48 rfl) ?_
  refine s_getI (zdk hX2_put 49 rfl) fw_X2_9 rfl (ha.1) ?_
  refine s_topi (b := nI n) ((by rw [zI_In (show a ≠ a + 1 by omega), zI_In (show a ≠ a + 1 by omega), zI_In (show a ≠ a + 1 by omega), zI_In (show a ≠ a + 1 by omega), zI_In (show a ≠ a + 1 by omega)]; exact hn)) ?_
  refine s_iconstv (v := nI 1) (zdk hX2_put 50 rfl) zc_iconst_1 ?_
  refine s_iadd (zdk hX2_put 51 rfl) ?_
  refine s_topi (b := nI (n + 1)) (nI_1 n) ?_
  refine s_putI (zdk hX2_put 52 rfl) fw_X2_9 rfl pw_2_0 (ha.1) ?_
  refine s_return (zdk hX2_put 53 rfl) rfl ?_
  exact ⟨rfl, rfl⟩
theorem c_X2_put (hl : l.stackTraces = false) {M : zMem} {a : Nat} (ha : vSh M a) {n : Nat} (hn : zI M a 0 = nI n) (hn2 : n < 60) (f fr to oc ic : Int32) : zCm l G mX2_put 2 40 0 0 [.ref a, .int f, .int fr, .int to, .int oc, .int ic] M (zD none (zM_put M a n f fr to oc ic)) := by
  refine zCd.of (ls0 := [some (.ref a), some (.int (f)), some (.int (fr)), some (.int (to)), some (.int (oc)), some (.int (ic)), none]) (by decide +kernel) rfl hl rfl (Nat.le_of_ble_eq_true rfl) rfl ?_
  refine s_aload_n (zdk hX2_put 0 rfl) rfl ?_
  refine s_getI (zdk hX2_put 1 rfl) fw_X2_9 rfl (ha.1) ?_
  refine s_topi (b := nI n) (hn) ?_
  refine s_bipushv (v := nI 60) (zdk hX2_put 2 rfl) zc_bipush_60 ?_
  refine s_icmp_ne 14 (zdk hX2_put 3 rfl) (by decide) (fun c6 => ?_) (fun c6 => ?_)
  · exact w_X2_put_14 ha hn hn2 f fr to oc ic
  · exact absurd (neq c6 (by omega) (by omega)) (by omega)
theorem c_X2_put60 (hl : l.stackTraces = false) {M : zMem} {a : Nat} (ha : vSh M a) (hn : zI M a 0 = nI 60) (f fr to oc ic : Int32) : zCm l G mX2_put 2 40 0 0 [.ref a, .int f, .int fr, .int to, .int oc, .int ic] M (zD none (zM_put (zM_rm M a 60 0) a 59 f fr to oc ic)) := by
  refine zCd.of (ls0 := [some (.ref a), some (.int (f)), some (.int (fr)), some (.int (to)), some (.int (oc)), some (.int (ic)), none]) (by decide +kernel) rfl hl rfl (Nat.le_of_ble_eq_true rfl) rfl ?_
  refine s_aload_n (zdk hX2_put 0 rfl) rfl ?_
  refine s_getI (zdk hX2_put 1 rfl) fw_X2_9 rfl (ha.1) ?_
  refine s_topi (b := nI 60) (hn) ?_
  refine s_bipushv (v := nI 60) (zdk hX2_put 2 rfl) zc_bipush_60 ?_
  refine s_icmp_ne 14 (zdk hX2_put 3 rfl) (by decide) (fun c6 => ?_) (fun c6 => ?_)
  · exact absurd rfl c6
  · refine s_aload_n (zdk hX2_put 4 rfl) rfl ?_
    refine s_iconstv (v := nI 0) (zdk hX2_put 5 rfl) zc_iconst_0 ?_
    refine s_callV0 (ci := 2) [.int (nI 0)] (zdk hX2_put 6 rfl) cw_X2_25 (ha.1) (by decide) rfl rfl rfl (Nat.le_of_ble_eq_true rfl) (by decide) (c_X2_removeRow hl ha hn (by omega) (by omega)) ?_
    exact w_X2_put_14 (M := zM_rm M a 60 0) ha ((congrFun zI_Ie 0).trans zw1_e) (by omega) f fr to oc ic
def zM_vcopy (M : zMem) (a b n : Nat) : zMem := zsA (zsI M a 0 (nI n)) (a + 1) (va_cpy (zI M (b + 1)) (zI M (a + 1)) 0 0 (n * 5))
theorem c_X2_copyFrom (hl : l.stackTraces = false) {M : zMem} {a b n : Nat} (ha : vSh M a) (hb : vSh M b) (hab : b ≠ a) (h1 : b + 2 ≤ a ∨ a + 2 ≤ b) (hn : zI M b 0 = nI n) (hn2 : n ≤ 60) : zCm l G mX2_copyFrom 1 18 0 0 [.ref a, .ref b] M (zD none (zM_vcopy M a b n)) := by
  refine zCd.of (ls0 := [some (.ref a), some (.ref b)]) (by decide +kernel) rfl hl rfl (Nat.le_of_ble_eq_true rfl) rfl ?_
  refine s_aload_n (zdk hX2_copyFrom 0 rfl) rfl ?_
  refine s_aload_n (zdk hX2_copyFrom 1 rfl) rfl ?_
  refine s_getI (zdk hX2_copyFrom 2 rfl) fw_X2_9 rfl (hb.1) ?_
  refine s_topi (b := nI n) (hn) ?_
  refine s_putI (zdk hX2_copyFrom 3 rfl) fw_X2_9 rfl pw_2_0 (ha.1) ?_
  refine s_aload_n (zdk hX2_copyFrom 4 rfl) rfl ?_
  refine s_getR (zdk hX2_copyFrom 5 rfl) fw_X2_15 rfl (hb.1) (hb.2.1) ?_
  refine s_iconstv (v := nI 0) (zdk hX2_copyFrom 6 rfl) zc_iconst_0 ?_
  refine s_aload_n (zdk hX2_copyFrom 7 rfl) rfl ?_
  refine s_getR (zdk hX2_copyFrom 8 rfl) fw_X2_15 rfl (ha.1) (ha.2.1) ?_
  refine s_iconstv (v := nI 0) (zdk hX2_copyFrom 9 rfl) zc_iconst_0 ?_
  refine s_aload_n (zdk hX2_copyFrom 10 rfl) rfl ?_
  refine s_getI (zdk hX2_copyFrom 11 rfl) fw_X2_9 rfl (ha.1) ?_
  refine s_topi (b := nI n) ((congrFun zI_Ie 0).trans zw1_e) ?_
  refine s_iconstv (v := nI 5) (zdk hX2_copyFrom 12 rfl) zc_iconst_5 ?_
  refine s_imul (zdk hX2_copyFrom 13 rfl) ?_
  refine s_topi (b := nI (n * 5)) (pk_mul _ _) ?_
  refine s_copyN (sp := 0) (dp := 0) (n := n * 5) (zdk hX2_copyFrom 14 rfl) yw_X2_19 yw_nat yw_sta yw_ini (hb.2.2.1) (ha.2.2.1) (by omega) (by omega) (by omega) (Nat.le_trans (show 0 + n * 5 ≤ 300 by omega) (Nat.le_of_eq (Eq.symm (hb.2.2.2)))) (Nat.le_trans (show 0 + n * 5 ≤ 300 by omega) (Nat.le_of_eq (Eq.symm (ha.2.2.2)))) (Nat.le_of_ble_eq_true rfl) (Nat.le_of_ble_eq_true rfl) ?_
  refine s_mem (M' := (zM_vcopy M a b n)) ((by rw [zI_In (show b + 1 ≠ a by omega), zI_In (show a + 1 ≠ a by omega)]; rfl)) ?_
  refine s_return (zdk hX2_copyFrom 15 rfl) rfl ?_
  exact ⟨rfl, rfl⟩
/-- the moves of a file go, those behind it get new numbers: the first i rows are left -/
def zM_fg (a : Nat) (f : Int32) : Nat → Nat → zMem → zMem
  | 0, _, M => M
  | i + 1, n, M => if zI M (a + 1) (i * 5 + 0) = f then zM_fg a f i (n - 1) (zM_rm M a n i) else if zI M (a + 1) (i * 5 + 0) ≤ f then zM_fg a f i n M else zM_fg a f i n (zsI M (a + 1) (i * 5 + 0) (zI M (a + 1) (i * 5 + 0) - nI 1))
theorem zM_fg_sh (a : Nat) (f : Int32) : ∀ (i n : Nat) (M : zMem), zsh M (zM_fg a f i n M)
  | 0, n, M => rfl
  | i + 1, n, M => by
    unfold zM_fg
    split
    · exact (zM_fg_sh a f i (n - 1) (zM_rm M a n i)).trans rfl
    · split
      · exact zM_fg_sh a f i n M
      · exact (zM_fg_sh a f i n _).trans rfl
theorem w_X2_forgetFile_7 (hl : l.stackTraces = false) {a : Nat} {f : Int32} : ∀ (i n : Nat) (M : zMem) (x3 : Option Value), vSh M a → zI M a 0 = nI n → i ≤ n → n ≤ 60 → zS l G mX2_forgetFile 2 40 0 0 7 [some (.ref a), some (.int (f)), some (.int (nI i - nI 1)), x3] [] M (zD none (zM_fg a f i n M)) := by
  intro i
  induction i with
  | zero =>
    intro n M x3 ha hn h1 hn2
    refine s_iload_n (zdk hX2_forgetFile 5 rfl) rfl ?_
    refine s_if_lt 59 (zdk hX2_forgetFile 6 rfl) (by decide) (fun c8 => ?_) (fun c8 => ?_)
    · refine s_return (zdk hX2_forgetFile 39 rfl) rfl ?_
      exact ⟨rfl, rfl⟩
    · exact absurd (by decide) c8
  | succ i ih =>
    intro n M x3 ha hn h1 hn2
    rw [show nI (i + 1) - nI 1 = nI i from pk_sub (by omega)]
    refine s_iload_n (zdk hX2_forgetFile 5 rfl) rfl ?_
    refine s_if_lt 59 (zdk hX2_forgetFile 6 rfl) (by decide) (fun c8 => ?_) (fun c8 => ?_)
    · exact absurd c8 (nI_pos (by omega))
    · refine s_aload_n (zdk hX2_forgetFile 7 rfl) rfl ?_
      refine s_getR (zdk hX2_forgetFile 8 rfl) fw_X2_15 rfl (ha.1) (ha.2.1) ?_
      refine s_iload_n (zdk hX2_forgetFile 9 rfl) rfl ?_
      refine s_iconstv (v := nI 5) (zdk hX2_forgetFile 10 rfl) zc_iconst_5 ?_
      refine s_imul (zdk hX2_forgetFile 11 rfl) ?_
      refine s_topi (b := nI (i * 5)) (pk_mul _ _) ?_
      refine s_iconstv (v := nI 0) (zdk hX2_forgetFile 12 rfl) zc_iconst_0 ?_
      refine s_iadd (zdk hX2_forgetFile 13 rfl) ?_
      refine s_topi (b := nI (i * 5 + 0)) (nI_add _ _) ?_
      refine s_ialoadN (N := 300) (j := (i * 5 + 0)) (zdk hX2_forgetFile 14 rfl) (ha.2.2.1) (ha.2.2.2) (by omega) (by decide) ?_
      refine s_istore_n (zdk hX2_forgetFile 15 rfl) (Nat.le_of_ble_eq_true rfl) ?_
      refine s_ls (ls' := [some (.ref a), some (.int (f)), some (.int (nI i)), some (.int (zI M (a + 1) ((i * 5 + 0))))]) rfl ?_
      refine s_iload_n (zdk hX2_forgetFile 16 rfl) rfl ?_
      refine s_iload_n (zdk hX2_forgetFile 17 rfl) rfl ?_
      refine s_icmp_ne 35 (zdk hX2_forgetFile 18 rfl) (by decide) (fun c24 => ?_) (fun c24 => ?_)
      · refine s_iload_n (zdk hX2_forgetFile 23 rfl) rfl ?_
        refine s_iload_n (zdk hX2_forgetFile 24 rfl) rfl ?_
        refine s_icmp_le 53 (zdk hX2_forgetFile 25 rfl) (by decide) (fun c37 => ?_) (fun c37 => ?_)
        · rw [show zM_fg a f (i + 1) n M = zM_fg a f i n M from (if_neg c24).trans (if_pos c37)]
          refine s_iinc (r := nI i - nI 1) (zdk hX2_forgetFile 37 rfl) (Nat.le_of_ble_eq_true rfl) rfl (nI_m1 _) ?_
          refine s_ls (ls' := [some (.ref a), some (.int (f)), some (.int (nI i - nI 1)), some (.int (zI M (a + 1) ((i * 5 + 0))))]) rfl ?_
          refine s_goto 7 (zdk hX2_forgetFile 38 rfl) (by decide) ?_
          exact ih _ M _ ha hn (by omega) (by omega)
        · rw [show zM_fg a f (i + 1) n M = zM_fg a f i n (zsI M (a + 1) (i * 5 + 0) (zI M (a + 1) (i * 5 + 0) - nI 1)) from (if_neg c24).trans (if_neg c37)]
          refine s_aload_n (zdk hX2_forgetFile 26 rfl) rfl ?_
          refine s_getR (zdk hX2_forgetFile 27 rfl) fw_X2_15 rfl (ha.1) (ha.2.1) ?_
          refine s_iload_n (zdk hX2_forgetFile 28 rfl) rfl ?_
          refine s_iconstv (v := nI 5) (zdk hX2_forgetFile 29 rfl) zc_iconst_5 ?_
          refine s_imul (zdk hX2_forgetFile 30 rfl) ?_
          refine s_topi (b := nI (i * 5)) (pk_mul _ _) ?_
          refine s_iconstv (v := nI 0) (zdk hX2_forgetFile 31 rfl) zc_iconst_0 ?_
          refine s_iadd (zdk hX2_forgetFile 32 rfl) ?_
          refine s_topi (b := nI (i * 5 + 0)) (nI_add _ _) ?_
          refine s_iload_n (zdk hX2_forgetFile 33 rfl) rfl ?_
          refine s_iconstv (v := nI 1) (zdk hX2_forgetFile 34 rfl) zc_iconst_1 ?_
          refine s_isub (zdk hX2_forgetFile 35 rfl) ?_
          refine s_iastoreN (N := 300) (j := (i * 5 + 0)) (zdk hX2_forgetFile 36 rfl) (ha.2.2.1) (ha.2.2.2) (by omega) (by decide) ?_
          refine s_iinc (r := nI i - nI 1) (zdk hX2_forgetFile 37 rfl) (Nat.le_of_ble_eq_true rfl) rfl (nI_m1 _) ?_
          refine s_ls (ls' := [some (.ref a), some (.int (f)), some (.int (nI i - nI 1)), some (.int (zI M (a + 1) ((i * 5 + 0))))]) rfl ?_
          refine s_goto 7 (zdk hX2_forgetFile 38 rfl) (by decide) ?_
          exact ih _ (zsI M (a + 1) ((i * 5 + 0)) ((zI M (a + 1) ((i * 5 + 0))) - (nI 1))) _ ha ((congrFun (zI_In (show a ≠ a + 1 by omega)) 0).trans hn) (by omega) (by omega)
      · rw [show zM_fg a f (i + 1) n M = zM_fg a f i (n - 1) (zM_rm M a n i) from if_pos c24]
        refine s_aload_n (zdk hX2_forgetFile 19 rfl) rfl ?_
        refine s_iload_n (zdk hX2_forgetFile 20 rfl) rfl ?_
        refine s_callV0 (ci := 2) [.int (nI i)] (zdk hX2_forgetFile 21 rfl) cw_X2_25 (ha.1) (by decide) rfl rfl rfl (Nat.le_of_ble_eq_true rfl) (by decide) (c_X2_removeRow hl ha hn (by omega) hn2) ?_
        refine s_goto 53 (zdk hX2_forgetFile 22 rfl) (by decide) ?_
        refine s_iinc (r := nI i - nI 1) (zdk hX2_forgetFile 37 rfl) (Nat.le_of_ble_eq_true rfl) rfl (nI_m1 _) ?_
        refine s_ls (ls' := [some (.ref a), some (.int (f)), some (.int (nI i - nI 1)), some (.int (zI M (a + 1) ((i * 5 + 0))))]) rfl ?_
        refine s_goto 7 (zdk hX2_forgetFile 38 rfl) (by decide) ?_
        exact ih _ (zM_rm M a n i) _ ha ((congrFun zI_Ie 0).trans zw1_e) (by omega) (by omega)
theorem c_X2_forgetFile (hl : l.stackTraces = false) {M : zMem} {a : Nat} (ha : vSh M a) {n : Nat} (hn : zI M a 0 = nI n) (hn2 : n ≤ 60) (f : Int32) : zCm l G mX2_forgetFile 2 40 0 0 [.ref a, .int f] M (zD none (zM_fg a f n n M)) := by
  refine zCd.of (ls0 := [some (.ref a), some (.int (f)), none, none]) (by decide +kernel) rfl hl rfl (Nat.le_of_ble_eq_true rfl) (zM_fg_sh a f n n M) ?_
  refine s_aload_n (zdk hX2_forgetFile 0 rfl) rfl ?_
  refine s_getI (zdk hX2_forgetFile 1 rfl) fw_X2_9 rfl (ha.1) ?_
  refine s_topi (b := nI n) (hn) ?_
  refine s_iconstv (v := nI 1) (zdk hX2_forgetFile 2 rfl) zc_iconst_1 ?_
  refine s_isub (zdk hX2_forgetFile 3 rfl) ?_
  refine s_istore_n (zdk hX2_forgetFile 4 rfl) (Nat.le_of_ble_eq_true rfl) ?_
  refine s_ls (ls' := [some (.ref a), some (.int (f)), some (.int ((nI n) - (nI 1))), none]) rfl ?_
  exact w_X2_forgetFile_7 hl n n M none ha hn (Nat.le_refl _) hn2
end
end
section
/-! ===== what a store's cells hold ===== -/
def its (g : Nat → Int64) (k : Nat) : Int32 := (g k).toInt32
def gN (g : Nat → Int64) (k : Nat) : Nat := (its g k).toNatClampNeg
def gt (g : Nat → Int64) (t k : Nat) : Int32 := its g (6 + 13 * t + k)
def gf (g : Nat → Int64) (f k : Nat) : Int32 := its g (58 + 51 * f + k)
def gs (g : Nat → Int64) (f : Nat) : Nat → Int32 := fun p => its g (58 + 51 * f + 14 + p)
def gu (g : Nat → Int64) (f : Nat) : Nat → Int32 := fun j => its g (58 + 51 * f + 26 + j)
def go (g : Nat → Int64) (f : Nat) : Int64 := g (58 + 51 * f + 50)
def gm (g : Nat → Int64) (w k : Nat) : Int32 := its g (1078 + 5 * w + k)
def gp (g : Nat → Int64) (t k : Nat) : Int64 := g (1378 + 3 * t + k)
/-- a name of letters from b, packed -/
def zpk (g : Nat → Int64) (b : Nat) : Nat → Int64
  | 0 => 0
  | j + 1 => if g (b + j) = 0 then zpk g b j else (zpk g b j <<< 5) + (its g (b + j) - nI 97 + nI 1).toInt64
theorem zpk_eq {g h : Nat → Int64} {b : Nat} : ∀ n, (∀ j, j < n → g (b + j) = h (b + j)) → zpk g b n = zpk h b n
  | 0, _ => rfl
  | n + 1, e => by
    unfold zpk
    rw [zpk_eq n (fun j hj => e j (by omega)), e n (by omega), show its g (b + n) = its h (b + n) from congrArg Int64.toInt32 (e n (by omega))]
/-- bounds of what counts and what points -/
def gBd (g : Nat → Int64) : Prop :=
  (its g 0 = nI (gN g 0) ∧ 2 ≤ gN g 0 ∧ gN g 0 ≤ 12) ∧ (its g 2 = nI (gN g 2) ∧ gN g 2 ≤ 4) ∧ (its g 3 = nI (gN g 3) ∧ gN g 3 ≤ 20) ∧ (its g 4 = nI (gN g 4) ∧ gN g 4 ≤ 9999) ∧ (its g 5 = nI (gN g 5) ∧ gN g 5 ≤ 60)
  ∧ (∀ f, f < gN g 3 → (gf g f 1 = nI (gN g (58 + 51 * f + 1)) ∧ gN g (58 + 51 * f + 1) < gN g 2) ∧ (gf g f 4 = nI (gN g (58 + 51 * f + 4)) ∧ gN g (58 + 51 * f + 4) ≤ 24 ∧ gN g (58 + 51 * f + 4) ≤ gN g 4))
  ∧ (∀ w, w < gN g 5 → (gm g w 0 = nI (gN g (1078 + 5 * w + 0)) ∧ gN g (1078 + 5 * w + 0) < gN g 3) ∧ (gm g w 1 = nI (gN g (1078 + 5 * w + 1)) ∧ gN g (1078 + 5 * w + 1) < gN g 2) ∧ (gm g w 2 = nI (gN g (1078 + 5 * w + 2)) ∧ gN g (1078 + 5 * w + 2) < gN g 2))
/-- a tier's row, a file's row, the moves, the head -/
def rTi (M : zMem) (a : Nat) (g : Nat → Int64) (t : Nat) : Prop := zJ M a 0 = zpk g (6 + 13 * t + 5) 8 ∧ (∀ k, k < 5 → zI M (a + 1) k = gt g t k) ∧ (∀ k, k < 3 → zJ M (a + 2) k = gp g t k)
def rFi (M : zMem) (a : Nat) (g : Nat → Int64) (f : Nat) : Prop := zJ M a 0 = zpk g (58 + 51 * f + 6) 8 ∧ zI M a 1 = gf g f 0 ∧ zI M a 2 = gf g f 1 ∧ zI M a 3 = gf g f 2 ∧ zI M a 4 = gf g f 3 ∧ zI M a 5 = gf g f 5 ∧ zJ M a 6 = go g f ∧ zI M a 7 = gf g f 4 ∧ (∀ j, j < 12 → zI M (a + 2) j = gs g f j) ∧ (∀ j, j < gN g (58 + 51 * f + 4) → zI M (a + 1) j = gu g f j)
def rMv (M : zMem) (s : Nat) (g : Nat → Int64) : Prop := zI M (s + 3) 0 = its g 5 ∧ ∀ w, w < gN g 5 → ∀ k, k < 5 → zI M (s + 3 + 1) (w * 5 + k) = gm g w k
def rHd (M : zMem) (s : Nat) (g : Nat → Int64) : Prop := zI M s 0 = its g 0 ∧ zI M s 1 = its g 1 ∧ zI M s 2 = its g 4 ∧ zI M s 3 = its g 2 ∧ zI M s 4 = its g 3
/-- the shape of a store from s: its file rows in the order p -/
def sSh (M : zMem) (s : Nat) (p : Nat → Nat) : Prop :=
  (zK M s = 6 ∧ zR M s 5 = some (s + 1) ∧ zR M s 6 = some (s + 2) ∧ zR M s 7 = some (s + 3)) ∧ (zK M (s + 1) = 16 ∧ zN M (s + 1) = 4) ∧ (zK M (s + 2) = 14 ∧ zN M (s + 2) = 20) ∧ vSh M (s + 3)
  ∧ (∀ t, t < 4 → zR M (s + 1) t = some (s + 5 + 3 * t) ∧ tSh M (s + 5 + 3 * t)) ∧ (∀ q, q < 20 → rSh M (s + 17 + 3 * q)) ∧ (∀ f, f < 20 → zR M (s + 2) f = some (s + 17 + 3 * p f) ∧ p f < 20) ∧ (∀ f f', f < 20 → f' < 20 → p f = p f' → f = f')
def rSt (M : zMem) (s : Nat) (g : Nat → Int64) (p : Nat → Nat) : Prop :=
  sSh M s p ∧ rHd M s g ∧ rMv M s g ∧ (∀ t, t < gN g 2 → rTi M (s + 5 + 3 * t) g t) ∧ (∀ f, f < gN g 3 → rFi M (s + 17 + 3 * p f) g f) ∧ gBd g
/-- agreement of two worlds on some cells -/
def zag (M M' : zMem) (P : Nat → Prop) : Prop := zsh M M' ∧ ∀ b, P b → zI M' b = zI M b ∧ zJ M' b = zJ M b ∧ zR M' b = zR M b
theorem zag.mono {M M' : zMem} {P P' : Nat → Prop} (h : zag M M' P) (hp : ∀ b, P' b → P b) : zag M M' P' := ⟨h.1, fun b q => h.2 b (hp b q)⟩
theorem zag.trans {M M' M'' : zMem} {P : Nat → Prop} (h : zag M M' P) (h' : zag M' M'' P) : zag M M'' P :=
  ⟨h'.1.trans h.1, fun b q => ⟨(h'.2 b q).1.trans (h.2 b q).1, (h'.2 b q).2.1.trans (h.2 b q).2.1, (h'.2 b q).2.2.trans (h.2 b q).2.2⟩⟩
theorem zag.refl (M : zMem) (P : Nat → Prop) : zag M M P := ⟨rfl, fun _ _ => ⟨rfl, rfl, rfl⟩⟩
theorem zag_I (M : zMem) (a k : Nat) (v : Int32) : zag M (zsI M a k v) (fun b => b ≠ a) := ⟨rfl, fun _ h => ⟨zI_In h, rfl, rfl⟩⟩
theorem zag_J (M : zMem) (a k : Nat) (v : Int64) : zag M (zsJ M a k v) (fun b => b ≠ a) := ⟨rfl, fun _ h => ⟨rfl, zJ_Jn h, rfl⟩⟩
theorem zag_A (M : zMem) (a : Nat) (g : Nat → Int32) : zag M (zsA M a g) (fun b => b ≠ a) := ⟨rfl, fun _ h => ⟨zI_An M g h, rfl, rfl⟩⟩
theorem zag_L (M : zMem) (a : Nat) (g : Nat → Int64) : zag M (zsL M a g) (fun b => b ≠ a) := ⟨rfl, fun _ h => ⟨rfl, zJ_Ln h, rfl⟩⟩
theorem zag_rSh {M M' : zMem} {a : Nat} {P : Nat → Prop} (h : zag M M' P) (h0 : P a) (q : rSh M a) : rSh M' a := by
  unfold rSh at *
  rw [zsh_K h.1, zsh_K h.1, zsh_K h.1, zsh_N h.1, zsh_N h.1, (h.2 a h0).2.2]
  exact q
theorem zag_tSh {M M' : zMem} {a : Nat} {P : Nat → Prop} (h : zag M M' P) (h0 : P a) (q : tSh M a) : tSh M' a := by
  unfold tSh at *
  rw [zsh_K h.1, zsh_K h.1, zsh_K h.1, zsh_N h.1, zsh_N h.1, (h.2 a h0).2.2]
  exact q
theorem zag_vSh {M M' : zMem} {a : Nat} {P : Nat → Prop} (h : zag M M' P) (h0 : P a) (q : vSh M a) : vSh M' a := by
  unfold vSh at *
  rw [zsh_K h.1, zsh_K h.1, zsh_N h.1, (h.2 a h0).2.2]
  exact q
/-- a world of the same shape, where the rows' references are as they were -/
theorem sSh.keep {M M' : zMem} {s : Nat} {p : Nat → Nat} (h : sSh M s p) (e : zsh M M') (er : ∀ b, s ≤ b → b < s + 77 → zR M' b = zR M b) : sSh M' s p := by
  obtain ⟨⟨a1, a2, a3, a4⟩, ⟨b1, b2⟩, ⟨c1, c2⟩, d, t, q, f, j⟩ := h
  have kk := fun b => zsh_K e b
  have nn := fun b => zsh_N e b
  refine ⟨⟨by rw [kk]; exact a1, by rw [er s (by omega) (by omega)]; exact a2, by rw [er s (by omega) (by omega)]; exact a3, by rw [er s (by omega) (by omega)]; exact a4⟩, ⟨by rw [kk]; exact b1, by rw [nn]; exact b2⟩, ⟨by rw [kk]; exact c1, by rw [nn]; exact c2⟩, ?_, ?_, ?_, ?_, j⟩
  · unfold vSh at *
    rw [kk, kk, nn, er (s + 3) (by omega) (by omega)]
    exact d
  · intro i hi
    have := t i hi
    unfold tSh at *
    rw [kk, kk, kk, nn, nn, er (s + 1) (by omega) (by omega), er (s + 5 + 3 * i) (by omega) (by omega)]
    exact this
  · intro i hi
    have := q i hi
    unfold rSh at *
    rw [kk, kk, kk, nn, nn, er (s + 17 + 3 * i) (by omega) (by omega)]
    exact this
  · intro i hi
    rw [er (s + 2) (by omega) (by omega)]
    exact f i hi
theorem rTi.keep {M M' : zMem} {a t : Nat} {g g' : Nat → Int64} (h : rTi M a g t) (e : ∀ b, a ≤ b → b < a + 3 → zI M' b = zI M b ∧ zJ M' b = zJ M b) (eg : ∀ k, k < 13 → g' (6 + 13 * t + k) = g (6 + 13 * t + k)) (ep : ∀ k, k < 3 → g' (1378 + 3 * t + k) = g (1378 + 3 * t + k)) : rTi M' a g' t := by
  obtain ⟨a1, a2, a3⟩ := h
  refine ⟨?_, ?_, ?_⟩
  · rw [(e a (by omega) (by omega)).2, a1]
    exact zpk_eq 8 (fun j hj => by have := eg (5 + j) (by omega); rw [← Nat.add_assoc] at this; exact this.symm)
  · intro k hk
    rw [(e (a + 1) (by omega) (by omega)).1, a2 k hk]
    exact congrArg Int64.toInt32 (eg k (by omega)).symm
  · intro k hk
    rw [(e (a + 2) (by omega) (by omega)).2, a3 k hk]
    exact (ep k hk).symm
theorem rFi.keep {M M' : zMem} {a f : Nat} {g g' : Nat → Int64} (h : rFi M a g f) (hk : gN g (58 + 51 * f + 4) ≤ 24) (e : ∀ b, a ≤ b → b < a + 3 → zI M' b = zI M b ∧ zJ M' b = zJ M b) (eg : ∀ k, k < 51 → g' (58 + 51 * f + k) = g (58 + 51 * f + k)) : rFi M' a g' f := by
  obtain ⟨a1, a2, a3, a4, a5, a6, a7, a8, a9, a10⟩ := h
  have ei : ∀ k, k < 51 → its g (58 + 51 * f + k) = its g' (58 + 51 * f + k) := fun k hk => congrArg Int64.toInt32 (eg k hk).symm
  have e0 := e a (by omega) (by omega)
  refine ⟨?_, ?_, ?_, ?_, ?_, ?_, ?_, ?_, ?_, ?_⟩
  · rw [e0.2, a1]
    exact zpk_eq 8 (fun j hj => by have := eg (6 + j) (by omega); rw [← Nat.add_assoc] at this; exact this.symm)
  · rw [e0.1, a2]; exact ei _ (by omega)
  · rw [e0.1, a3]; exact ei _ (by omega)
  · rw [e0.1, a4]; exact ei _ (by omega)
  · rw [e0.1, a5]; exact ei _ (by omega)
  · rw [e0.1, a6]; exact ei _ (by omega)
  · rw [e0.2, a7]; exact (eg _ (by omega)).symm
  · rw [e0.1, a8]; exact ei _ (by omega)
  · intro j hj
    rw [(e (a + 2) (by omega) (by omega)).1, a9 j hj]
    have := ei (14 + j) (by omega)
    rw [← Nat.add_assoc] at this
    exact this
  · intro j hj
    have e4 : gN g' (58 + 51 * f + 4) = gN g (58 + 51 * f + 4) := congrArg Int32.toNatClampNeg (ei 4 (by omega)).symm
    rw [e4] at hj
    rw [(e (a + 1) (by omega) (by omega)).1, a10 j hj]
    have := ei (26 + j) (by omega)
    rw [← Nat.add_assoc] at this
    exact this
theorem gN_eq {g g' : Nat → Int64} {k : Nat} (h : g' k = g k) : gN g' k = gN g k := by unfold gN its; rw [h]
theorem its_eq {g g' : Nat → Int64} {k : Nat} (h : g' k = g k) : its g' k = its g k := by unfold its; rw [h]
theorem rSt.b {M : zMem} {s : Nat} {g : Nat → Int64} {p : Nat → Nat} (h : rSt M s g p) : gBd g := h.2.2.2.2.2
theorem rSt.keep {M M' : zMem} {s : Nat} {g : Nat → Int64} {p : Nat → Nat} (h : rSt M s g p) (e : zag M M' (fun b => s ≤ b ∧ b < s + 77)) : rSt M' s g p := by
  obtain ⟨h1, h2, h3, h4, h5, h6⟩ := h
  have e0 := e.2
  refine ⟨h1.keep e.1 (fun b q1 q2 => (e0 b ⟨q1, q2⟩).2.2), ?_, ?_, ?_, ?_, h6⟩
  · unfold rHd at *
    rw [(e0 s ⟨by omega, by omega⟩).1]
    exact h2
  · unfold rMv at *
    rw [(e0 (s + 3) ⟨by omega, by omega⟩).1, (e0 (s + 3 + 1) ⟨by omega, by omega⟩).1]
    exact h3
  · intro t ht
    have hb := h6.2.1.2
    exact (h4 t ht).keep (fun b q1 q2 => ⟨(e0 b ⟨by omega, by omega⟩).1, (e0 b ⟨by omega, by omega⟩).2.1⟩) (fun _ _ => rfl) (fun _ _ => rfl)
  · intro f hf
    have hb := h6.2.2.1.2
    have hp := (h1.2.2.2.2.2.2.1 f (by omega)).2
    exact (h5 f hf).keep (h6.2.2.2.2.2.1 f hf).2.2.1 (fun b q1 q2 => ⟨(e0 b ⟨by omega, by omega⟩).1, (e0 b ⟨by omega, by omega⟩).2.1⟩) (fun _ _ => rfl)
/-- one file's row changes -/
theorem rSt.file {M M' : zMem} {s f : Nat} {g g' : Nat → Int64} {p : Nat → Nat} (h : rSt M s g p) (hf : f < 20) (e : zag M M' (fun b => b < s + 17 + 3 * p f ∨ s + 17 + 3 * p f + 3 ≤ b)) (er : zR M' (s + 17 + 3 * p f) = zR M (s + 17 + 3 * p f)) (er1 : zR M' (s + 17 + 3 * p f + 1) = zR M (s + 17 + 3 * p f + 1)) (er2 : zR M' (s + 17 + 3 * p f + 2) = zR M (s + 17 + 3 * p f + 2))
    (eg : ∀ k, k < 58 + 51 * f ∨ 58 + 51 * f + 51 ≤ k → g' k = g k) (hr : f < gN g 3 → rFi M' (s + 17 + 3 * p f) g' f) (hb : gBd g') : rSt M' s g' p := by
  obtain ⟨h1, h2, h3, h4, h5, h6⟩ := h
  have e0 := e.2
  have hpf := (h1.2.2.2.2.2.2.1 f hf).2
  have c3 : gN g' 3 = gN g 3 := gN_eq (eg 3 (by omega))
  have c2 : gN g' 2 = gN g 2 := gN_eq (eg 2 (by omega))
  have c5 : gN g' 5 = gN g 5 := gN_eq (eg 5 (by omega))
  refine ⟨h1.keep e.1 (fun b q1 q2 => ?_), ?_, ?_, ?_, ?_, hb⟩
  · by_cases c : b < s + 17 + 3 * p f ∨ s + 17 + 3 * p f + 3 ≤ b
    · exact (e0 b c).2.2
    · rcases (by omega : b = s + 17 + 3 * p f ∨ b = s + 17 + 3 * p f + 1 ∨ b = s + 17 + 3 * p f + 2) with q | q | q
      · rw [q]; exact er
      · rw [q]; exact er1
      · rw [q]; exact er2
  · unfold rHd at *
    rw [(e0 s (by omega)).1, its_eq (eg 0 (by omega)), its_eq (eg 1 (by omega)), its_eq (eg 2 (by omega)), its_eq (eg 3 (by omega)), its_eq (eg 4 (by omega))]
    exact h2
  · unfold rMv at *
    rw [(e0 (s + 3) (by omega)).1, (e0 (s + 3 + 1) (by omega)).1, its_eq (eg 5 (by omega)), c5]
    refine ⟨h3.1, fun w hw k hk => ?_⟩
    rw [h3.2 w hw k hk]
    have := h6.2.2.2.2.1.2
    exact (its_eq (eg _ (by omega))).symm
  · intro t ht
    rw [c2] at ht
    have hb := h6.2.1.2
    exact (h4 t ht).keep (fun b q1 q2 => ⟨(e0 b (by omega)).1, (e0 b (by omega)).2.1⟩) (fun k hk => eg _ (by omega)) (fun k hk => eg _ (by omega))
  · intro f' hf'
    rw [c3] at hf'
    by_cases q : f' = f
    · rw [q]; exact hr (by omega)
    · have hb := h6.2.2.1.2
      have hp := (h1.2.2.2.2.2.2.1 f' (by omega)).2
      have hne : p f' ≠ p f := fun q2 => q (h1.2.2.2.2.2.2.2 f' f (by omega) hf q2)
      exact (h5 f' hf').keep (h6.2.2.2.2.2.1 f' hf').2.2.1 (fun b q1 q2 => ⟨(e0 b (by omega)).1, (e0 b (by omega)).2.1⟩) (fun k hk => eg _ (by omega))
/-- one tier's row changes -/
theorem rSt.tier {M M' : zMem} {s t : Nat} {g g' : Nat → Int64} {p : Nat → Nat} (h : rSt M s g p) (ht : t < 4) (e : zag M M' (fun b => b < s + 5 + 3 * t ∨ s + 5 + 3 * t + 3 ≤ b)) (er : ∀ b, s + 5 + 3 * t ≤ b → b < s + 5 + 3 * t + 3 → zR M' b = zR M b)
    (eg : ∀ k, (k < 6 + 13 * t ∨ 6 + 13 * t + 13 ≤ k) → (k < 1378 + 3 * t ∨ 1378 + 3 * t + 3 ≤ k) → g' k = g k) (hr : t < gN g 2 → rTi M' (s + 5 + 3 * t) g' t) (hb : gBd g') : rSt M' s g' p := by
  obtain ⟨h1, h2, h3, h4, h5, h6⟩ := h
  have e0 := e.2
  have c3 : gN g' 3 = gN g 3 := gN_eq (eg 3 (by omega) (by omega))
  have c2 : gN g' 2 = gN g 2 := gN_eq (eg 2 (by omega) (by omega))
  have c5 : gN g' 5 = gN g 5 := gN_eq (eg 5 (by omega) (by omega))
  refine ⟨h1.keep e.1 (fun b q1 q2 => ?_), ?_, ?_, ?_, ?_, hb⟩
  · by_cases c : b < s + 5 + 3 * t ∨ s + 5 + 3 * t + 3 ≤ b
    · exact (e0 b c).2.2
    · exact er b (by omega) (by omega)
  · unfold rHd at *
    rw [(e0 s (by omega)).1, its_eq (eg 0 (by omega) (by omega)), its_eq (eg 1 (by omega) (by omega)), its_eq (eg 2 (by omega) (by omega)), its_eq (eg 3 (by omega) (by omega)), its_eq (eg 4 (by omega) (by omega))]
    exact h2
  · unfold rMv at *
    rw [(e0 (s + 3) (by omega)).1, (e0 (s + 3 + 1) (by omega)).1, its_eq (eg 5 (by omega) (by omega)), c5]
    refine ⟨h3.1, fun w hw k hk => ?_⟩
    rw [h3.2 w hw k hk]
    have := h6.2.2.2.2.1.2
    exact (its_eq (eg _ (by omega) (by omega))).symm
  · intro t' ht'
    rw [c2] at ht'
    by_cases q : t' = t
    · rw [q]; exact hr (by omega)
    · have hb := h6.2.1.2
      exact (h4 t' ht').keep (fun b q1 q2 => ⟨(e0 b (by omega)).1, (e0 b (by omega)).2.1⟩) (fun k hk => eg _ (by omega) (by omega)) (fun k hk => eg _ (by omega) (by omega))
  · intro f hf
    rw [c3] at hf
    have hb := h6.2.2.1.2
    have hp := (h1.2.2.2.2.2.2.1 f (by omega)).2
    exact (h5 f hf).keep (h6.2.2.2.2.2.1 f hf).2.2.1 (fun b q1 q2 => ⟨(e0 b (by omega)).1, (e0 b (by omega)).2.1⟩) (fun k hk => eg _ (by omega) (by omega))
/-- the head, the moves, the counts change -/
theorem rSt.head {M M' : zMem} {s : Nat} {g g' : Nat → Int64} {p : Nat → Nat} (h : rSt M s g p) (e : zag M M' (fun b => b ≠ s ∧ b ≠ s + 3 ∧ b ≠ s + 3 + 1)) (er : ∀ b, zR M' b = zR M b)
    (eg : ∀ k, 6 ≤ k → (k < 1078 ∨ 1378 ≤ k) → g' k = g k) (hh : rHd M' s g') (hm : rMv M' s g') (ht : ∀ t, gN g 2 ≤ t → t < gN g' 2 → rTi M' (s + 5 + 3 * t) g' t) (hf : ∀ f, gN g 3 ≤ f → f < gN g' 3 → rFi M' (s + 17 + 3 * p f) g' f) (hb : gBd g') : rSt M' s g' p := by
  obtain ⟨h1, h2, h3, h4, h5, h6⟩ := h
  have e0 := e.2
  refine ⟨h1.keep e.1 (fun b q1 q2 => er b), hh, hm, ?_, ?_, hb⟩
  · intro t ht'
    by_cases q : t < gN g 2
    · have hb := h6.2.1.2
      exact (h4 t q).keep (fun b q1 q2 => ⟨(e0 b (by omega)).1, (e0 b (by omega)).2.1⟩) (fun k hk => eg _ (by omega) (by omega)) (fun k hk => eg _ (by omega) (by omega))
    · exact ht t (by omega) ht'
  · intro f hf'
    by_cases q : f < gN g 3
    · have hb := h6.2.2.1.2
      have hp := (h1.2.2.2.2.2.2.1 f (by omega)).2
      exact (h5 f q).keep (h6.2.2.2.2.2.1 f q).2.2.1 (fun b q1 q2 => ⟨(e0 b (by omega)).1, (e0 b (by omega)).2.1⟩) (fun k hk => eg _ (by omega) (by omega))
    · exact hf f (by omega) hf'
/-- the stores of the world -/
def zst (s : Nat) : Prop := (∃ i, i < 10 ∧ s = 14 + 77 * i) ∨ (∃ i, i < 2 ∧ s = 787 + 77 * i)
def zblk (b : Nat) : Prop := (14 ≤ b ∧ b < 784) ∨ (787 ≤ b ∧ b < 941)
def rW (M : zMem) (S : Nat → Nat → Int64) : Prop := ∀ s, zst s → ∃ p, rSt M s (S s) p
def zup (S : Nat → Nat → Int64) (s : Nat) (g : Nat → Int64) : Nat → Nat → Int64 := fun b => if b = s then g else S b
theorem zup_e {S : Nat → Nat → Int64} {s : Nat} {g : Nat → Int64} : zup S s g s = g := if_pos rfl
theorem zup_n {S : Nat → Nat → Int64} {s b : Nat} {g : Nat → Int64} (h : b ≠ s) : zup S s g b = S b := if_neg h
theorem zst_dj {s s' : Nat} (h : zst s) (h' : zst s') (hn : s' ≠ s) : s' + 77 ≤ s ∨ s + 77 ≤ s' := by
  rcases h with ⟨i, hi, e⟩ | ⟨i, hi, e⟩ <;> rcases h' with ⟨j, hj, e'⟩ | ⟨j, hj, e'⟩ <;> omega
theorem zst_blk {s b : Nat} (h : zst s) (h1 : s ≤ b) (h2 : b < s + 77) : zblk b := by
  unfold zblk
  rcases h with ⟨i, hi, e⟩ | ⟨i, hi, e⟩ <;> omega
/-- one store changes -/
theorem rW.up {M M' : zMem} {S : Nat → Nat → Int64} {s : Nat} {g : Nat → Int64} {p : Nat → Nat} (h : rW M S) (hs : zst s) (e : zag M M' (fun b => b < s ∨ s + 77 ≤ b)) (hr : rSt M' s g p) : rW M' (zup S s g) := by
  intro s' hs'
  by_cases q : s' = s
  · rw [q, zup_e]; exact ⟨p, hr⟩
  · rw [zup_n q]
    obtain ⟨p', hp⟩ := h s' hs'
    have := zst_dj hs hs' q
    exact ⟨p', hp.keep (e.mono fun b hb => by omega)⟩
/-- no store changes -/
theorem rW.keep {M M' : zMem} {S : Nat → Nat → Int64} (h : rW M S) (e : zag M M' zblk) : rW M' S := by
  intro s hs
  obtain ⟨p, hp⟩ := h s hs
  exact ⟨p, hp.keep (e.mono fun b hb => zst_blk hs hb.1 hb.2)⟩
end
