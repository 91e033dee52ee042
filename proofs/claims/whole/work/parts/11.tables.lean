/-! ===== the methods: names, codes, tables; instructions decoded; words by their places (all by program) ===== -/
def zdec (b : ByteArray) (l : List (Nat × Instr × Nat)) : Bool := l.all (fun q => decide (decode b q.1 = .ok (q.2.1, q.2.2)))
theorem zdk {b : ByteArray} {l : List (Nat × Instr × Nat)} (h : zdec b l = true) (i : Nat) {pc : Nat} {ins : Instr} {len : Nat} (hi : l[i]? = some (pc, ins, len)) : decode b pc = .ok (ins, len) :=
  of_decide_eq_true (List.all_eq_true.mp h (pc, ins, len) (List.mem_of_getElem? hi))
theorem zin_all {ws : List Cond} (h : ws.all (fun w => decide (w ∈ lw_tbl) && goodWord w) = true) : ∀ w ∈ ws, w ∈ zGW := fun w hw => by
  have h1 := List.all_eq_true.mp h w hw
  simp only [Bool.and_eq_true, decide_eq_true_eq] at h1
  exact List.mem_filter.mpr h1
theorem zin_nw (i : Nat) {w : Cond} (h : (lw_tbl[i]?, zNk w) = (some w, true)) : w ∈ zNW := List.mem_filter.mpr ⟨List.mem_of_getElem? (Prod.mk.inj h).1, (Prod.mk.inj h).2⟩
theorem zxw_of {own : String} {x ic : Nat} (i : Nat) (hi : (lw_tbl[i]?, goodWord (Cond.initialized (zXn x))) = (some (Cond.initialized (zXn x)), true)) (h : (vx_at0 own ic (zXn x) zXs).all (fun w => decide (w ∈ lw_tbl) && (goodWord w || (zNk w && w.onTables))) = true) : zxw own x ic := by
  refine ⟨zGW_of i hi, fun w hw => ?_⟩
  have h1 := List.all_eq_true.mp h w hw
  simp only [Bool.and_eq_true, Bool.or_eq_true, decide_eq_true_eq] at h1
  rcases h1.2 with h2 | h2
  · exact Or.inl (List.mem_filter.mpr ⟨h1.1, h2⟩)
  · exact Or.inr ⟨List.mem_filter.mpr ⟨h1.1, h2.1⟩, h2.2⟩

theorem uw_0 : ∀ w ∈ u_ws (zCl 0).1 (zCl 0).2.1 (zCl 0).2.2, w ∈ zGW := zin_all (by decide +kernel)
theorem uw_1 : ∀ w ∈ u_ws (zCl 1).1 (zCl 1).2.1 (zCl 1).2.2, w ∈ zGW := zin_all (by decide +kernel)
theorem uw_2 : ∀ w ∈ u_ws (zCl 2).1 (zCl 2).2.1 (zCl 2).2.2, w ∈ zGW := zin_all (by decide +kernel)
theorem uw_3 : ∀ w ∈ u_ws (zCl 3).1 (zCl 3).2.1 (zCl 3).2.2, w ∈ zGW := zin_all (by decide +kernel)
theorem uw_4 : ∀ w ∈ u_ws (zCl 4).1 (zCl 4).2.1 (zCl 4).2.2, w ∈ zGW := zin_all (by decide +kernel)
theorem uw_5 : ∀ w ∈ u_ws (zCl 5).1 (zCl 5).2.1 (zCl 5).2.2, w ∈ zGW := zin_all (by decide +kernel)
theorem uw_6 : ∀ w ∈ u_ws (zCl 6).1 (zCl 6).2.1 (zCl 6).2.2, w ∈ zGW := zin_all (by decide +kernel)
theorem uw_7 : ∀ w ∈ u_ws (zCl 7).1 (zCl 7).2.1 (zCl 7).2.2, w ∈ zGW := zin_all (by decide +kernel)
theorem uw_8 : ∀ w ∈ u_ws (zCl 8).1 (zCl 8).2.1 (zCl 8).2.2, w ∈ zGW := zin_all (by decide +kernel)
theorem uw_9 : ∀ w ∈ u_ws (zCl 9).1 (zCl 9).2.1 (zCl 9).2.2, w ∈ zGW := zin_all (by decide +kernel)
def mX0_init : zMD := (yX0_init, cX0_init, 1, none, [])
def mX0_copyFrom : zMD := (yX0_copyFrom, cX0_copyFrom, 2, none, [])
def mX0_startAs : zMD := (yX0_startAs, cX0_startAs, 6, none, [])
def mX0_isPinnedIn : zMD := (yX0_isPinnedIn, cX0_isPinnedIn, 2, some .boolean, [])
def mX0_forgetSeasons : zMD := (yX0_forgetSeasons, cX0_forgetSeasons, 2, none, [])
def mX0_knownSeasons : zMD := (yX0_knownSeasons, cX0_knownSeasons, 3, some .int, [])
def mX0_busiestPhase : zMD := (yX0_busiestPhase, cX0_busiestPhase, 4, some .int, [])
def mX0_seasonSpread : zMD := (yX0_seasonSpread, cX0_seasonSpread, 5, some .int, [])
def mX0_meanSeason : zMD := (yX0_meanSeason, cX0_meanSeason, 4, some .int, [])
def mX0_forecastFor : zMD := (yX0_forecastFor, cX0_forecastFor, 2, some .int, [])
def mX0_learnSeason : zMD := (yX0_learnSeason, cX0_learnSeason, 6, none, [])
def mX0_scoreForecast : zMD := (yX0_scoreForecast, cX0_scoreForecast, 2, none, [])
def mX0_keepUses : zMD := (yX0_keepUses, cX0_keepUses, 1, none, [])
def mX0_learnFromKept : zMD := (yX0_learnFromKept, cX0_learnFromKept, 6, none, [])
def mX0_differenceAt : zMD := (yX0_differenceAt, cX0_differenceAt, 4, some .int, [])
def mX0_ownCycle : zMD := (yX0_ownCycle, cX0_ownCycle, 7, some .int, [])
def mX1_init : zMD := (yX1_init, cX1_init, 2, none, [])
def mX1_remember : zMD := (yX1_remember, cX1_remember, 2, none, [])
def mX1_bringBack : zMD := (yX1_bringBack, cX1_bringBack, 2, none, [])
def mX2_init : zMD := (yX2_init, cX2_init, 1, none, [])
def mX2_copyFrom : zMD := (yX2_copyFrom, cX2_copyFrom, 2, none, [])
def mX2_latest : zMD := (yX2_latest, cX2_latest, 2, some .int, [])
def mX2_put : zMD := (yX2_put, cX2_put, 7, none, [])
def mX2_removeRow : zMD := (yX2_removeRow, cX2_removeRow, 3, none, [])
def mX2_forgetFile : zMD := (yX2_forgetFile, cX2_forgetFile, 4, none, [])
def mX3_init : zMD := (yX3_init, cX3_init, 1, none, [])
def mX3_makePlan : zMD := (yX3_makePlan, cX3_makePlan, 4, none, [])
def mX3_planAgain : zMD := (yX3_planAgain, cX3_planAgain, 5, none, [])
def mX3_bestTier : zMD := (yX3_bestTier, cX3_bestTier, 8, some .int, [])
def mX3_carryOut : zMD := (yX3_carryOut, cX3_carryOut, 5, some .int, [])
def mX3_findGains : zMD := (yX3_findGains, cX3_findGains, 10, none, [])
def mX3_findMove : zMD := (yX3_findMove, cX3_findMove, 6, some .boolean, [])
def mX3_findExchange : zMD := (yX3_findExchange, cX3_findExchange, 9, some .boolean, [])
def mX3_setBest : zMD := (yX3_setBest, cX3_setBest, 6, none, [])
def mX3_takeStep : zMD := (yX3_takeStep, cX3_takeStep, 3, none, [])
def mX3_takeAway : zMD := (yX3_takeAway, cX3_takeAway, 5, none, [])
def mX4_init : zMD := (yX4_init, cX4_init, 1, none, [])
def mX4_putBytesOf : zMD := (yX4_putBytesOf, cX4_putBytesOf, 4, none, [])
def mX4_readStore : zMD := (yX4_readStore, cX4_readStore, 3, some .int, [])
def mX4_readHead : zMD := (yX4_readHead, cX4_readHead, 4, some .boolean, [])
def mX4_readTiers : zMD := (yX4_readTiers, cX4_readTiers, 3, some .boolean, [])
def mX4_readTier : zMD := (yX4_readTier, cX4_readTier, 3, some .boolean, [])
def mX4_readFiles : zMD := (yX4_readFiles, cX4_readFiles, 3, some .boolean, [])
def mX4_readFile : zMD := (yX4_readFile, cX4_readFile, 6, some .boolean, [])
def mX4_readName : zMD := (yX4_readName, cX4_readName, 2, some .boolean, [])
def mX4_readNumber : zMD := (yX4_readNumber, cX4_readNumber, 4, some .boolean, [])
def mX4_passSemicolon : zMD := (yX4_passSemicolon, cX4_passSemicolon, 1, some .boolean, [])
def mX4_passWord : zMD := (yX4_passWord, cX4_passWord, 2, some .boolean, [])
def mX4_nextIsWord : zMD := (yX4_nextIsWord, cX4_nextIsWord, 3, some .boolean, [])
def mX4_nextByte : zMD := (yX4_nextByte, cX4_nextByte, 1, some .int, [])
def mX4_endOfWord : zMD := (yX4_endOfWord, cX4_endOfWord, 2, some .int, [])
def mX4_isDigit : zMD := (yX4_isDigit, cX4_isDigit, 1, some .boolean, [])
def mX4_fail : zMD := (yX4_fail, cX4_fail, 3, some .boolean, [])
def mX5_init : zMD := (yX5_init, cX5_init, 2, none, [])
def mX5_copyFrom : zMD := (yX5_copyFrom, cX5_copyFrom, 3, none, [])
def mX5_startAs : zMD := (yX5_startAs, cX5_startAs, 3, none, [])
def mX5_startAsNew : zMD := (yX5_startAsNew, cX5_startAsNew, 3, none, [])
def mX5_phaseAhead : zMD := (yX5_phaseAhead, cX5_phaseAhead, 2, some .int, [])
def mX5_tierNamed : zMD := (yX5_tierNamed, cX5_tierNamed, 4, some .int, [])
def mX5_fileNamed : zMD := (yX5_fileNamed, cX5_fileNamed, 4, some .int, [])
def mX5_pinnedFiles : zMD := (yX5_pinnedFiles, cX5_pinnedFiles, 3, some .int, [])
def mX5_sizeOfAll : zMD := (yX5_sizeOfAll, cX5_sizeOfAll, 3, some .int, [])
def mX5_sizeOn : zMD := (yX5_sizeOn, cX5_sizeOn, 4, some .int, [])
def mX5_filesOn : zMD := (yX5_filesOn, cX5_filesOn, 4, some .int, [])
def mX5_mostUsedOn : zMD := (yX5_mostUsedOn, cX5_mostUsedOn, 7, some .int, [])
def mX5_hasRoomFor : zMD := (yX5_hasRoomFor, cX5_hasRoomFor, 3, some .boolean, [])
def mX5_paidOnAll : zMD := (yX5_paidOnAll, cX5_paidOnAll, 5, some .long, [])
def mX5_forecastSum : zMD := (yX5_forecastSum, cX5_forecastSum, 9, some .long, [])
def mX5_costOn : zMD := (yX5_costOn, cX5_costOn, 9, some .long, [])
def mX5_moveCost : zMD := (yX5_moveCost, cX5_moveCost, 4, some .int, [])
def mX5_putTier : zMD := (yX5_putTier, cX5_putTier, 3, none, [])
def mX5_putFile : zMD := (yX5_putFile, cX5_putFile, 6, none, [])
def mX5_removeFile : zMD := (yX5_removeFile, cX5_removeFile, 4, none, [])
def mX5_endPeriod : zMD := (yX5_endPeriod, cX5_endPeriod, 6, some .long, [])
def mX5_payFor : zMD := (yX5_payFor, cX5_payFor, 7, some .long, [])
def mX5_carry : zMD := (yX5_carry, cX5_carry, 6, some .int, [])
def mX5_carryBack : zMD := (yX5_carryBack, cX5_carryBack, 2, none, [])
def mX5_learnAgain : zMD := (yX5_learnAgain, cX5_learnAgain, 4, none, [])
def mX6_init : zMD := (yX6_init, cX6_init, 1, none, [])
def mX6_copyFrom : zMD := (yX6_copyFrom, cX6_copyFrom, 3, none, [])
def mX6_startAs : zMD := (yX6_startAs, cX6_startAs, 4, none, [])
def mX6_paidFor : zMD := (yX6_paidFor, cX6_paidFor, 2, some .long, [])
def mX7_init : zMD := (yX7_init, cX7_init, 1, none, [])
def mX7_withLetter : zMD := (yX7_withLetter, cX7_withLetter, 3, some .long, [])
def mX7_writeStore : zMD := (yX7_writeStore, cX7_writeStore, 3, none, [])
def mX7_putFilesOn : zMD := (yX7_putFilesOn, cX7_putFilesOn, 5, none, [])
def mX7_putName : zMD := (yX7_putName, cX7_putName, 5, none, [])
def mX7_putByte : zMD := (yX7_putByte, cX7_putByte, 2, none, [])
def mX8_init : zMD := (yX8_init, cX8_init, 2, none, [])
def mX8_append : zMD := (yX8_append, cX8_append, 7, some .int, [])
def mX8_load : zMD := (yX8_load, cX8_load, 2, some .int, [])
def mX8_errorPosition : zMD := (yX8_errorPosition, cX8_errorPosition, 1, some .int, [])
def mX8_count : zMD := (yX8_count, cX8_count, 2, some .int, [])
def mX8_tier : zMD := (yX8_tier, cX8_tier, 3, some .int, [])
def mX8_file : zMD := (yX8_file, cX8_file, 4, some .int, [])
def mX8_season : zMD := (yX8_season, cX8_season, 3, some .int, [])
def mX8_kept : zMD := (yX8_kept, cX8_kept, 3, some .int, [])
def mX8_forecast : zMD := (yX8_forecast, cX8_forecast, 3, some .int, [])
def mX8_off : zMD := (yX8_off, cX8_off, 2, some .long, [])
def mX8_meanOff : zMD := (yX8_meanOff, cX8_meanOff, 5, some .double, [])
def mX8_cycleOf : zMD := (yX8_cycleOf, cX8_cycleOf, 2, some .int, [])
def mX8_commonCycle : zMD := (yX8_commonCycle, cX8_commonCycle, 4, some .int, [])
def mX8_account : zMD := (yX8_account, cX8_account, 3, some .long, [])
def mX8_movingShare : zMD := (yX8_movingShare, cX8_movingShare, 3, some .float, [])
def mX8_cost : zMD := (yX8_cost, cX8_cost, 4, some .long, [])
def mX8_wish : zMD := (yX8_wish, cX8_wish, 3, some .int, [])
def mX8_steps : zMD := (yX8_steps, cX8_steps, 2, some .int, [])
def mX8_step : zMD := (yX8_step, cX8_step, 4, some .int, [])
def mX8_saving : zMD := (yX8_saving, cX8_saving, 2, some .long, [])
def mX8_withRoom : zMD := (yX8_withRoom, cX8_withRoom, 6, some .long, [])
def mX8_add : zMD := (yX8_add, cX8_add, 3, some .int, [])
def mX8_drop : zMD := (yX8_drop, cX8_drop, 2, some .int, [])
def mX8_use : zMD := (yX8_use, cX8_use, 4, some .int, [])
def mX8_close : zMD := (yX8_close, cX8_close, 1, some .long, [])
def mX8_move : zMD := (yX8_move, cX8_move, 4, some .int, [])
def mX8_unmove : zMD := (yX8_unmove, cX8_unmove, 2, some .int, [])
def mX8_pin : zMD := (yX8_pin, cX8_pin, 4, some .int, [])
def mX8_act : zMD := (yX8_act, cX8_act, 2, some .int, [])
def mX8_learn : zMD := (yX8_learn, cX8_learn, 4, some .int, [])
def mX8_setTier : zMD := (yX8_setTier, cX8_setTier, 5, some .int, [])
def mX8_undo : zMD := (yX8_undo, cX8_undo, 1, some .int, [])
def mX8_save : zMD := (yX8_save, cX8_save, 2, none, [])
def mX8_restore : zMD := (yX8_restore, cX8_restore, 2, some .int, [])
def mX8_writeTiers : zMD := (yX8_writeTiers, cX8_writeTiers, 1, some .int, [])
def mX8_writtenByte : zMD := (yX8_writtenByte, cX8_writtenByte, 2, some .int, [])
def mX8_requireTier : zMD := (yX8_requireTier, cX8_requireTier, 2, none, [])
def mX8_requireFile : zMD := (yX8_requireFile, cX8_requireFile, 2, none, [])
def mX8_requireSlot : zMD := (yX8_requireSlot, cX8_requireSlot, 1, none, [])
def mX8_requirePeriods : zMD := (yX8_requirePeriods, cX8_requirePeriods, 1, none, [])
def mX8_requireWithin : zMD := (yX8_requireWithin, cX8_requireWithin, 3, none, [])
def mX8_leastOf : zMD := (yX8_leastOf, cX8_leastOf, 1, some .int, [])
def mX8_greatestOf : zMD := (yX8_greatestOf, cX8_greatestOf, 1, some .int, [])
def mX8_bytesIn : zMD := (yX8_bytesIn, cX8_bytesIn, 3, some .int, [])
def mX9_init : zMD := (yX9_init, cX9_init, 2, none, [])
def mX9_puts : zMD := (yX9_puts, cX9_puts, 7, none, [])
def mX9_begins : zMD := (yX9_begins, cX9_begins, 2, none, [])
def mX9_thrown : zMD := (yX9_thrown, cX9_thrown, 1, some .int, [])
def mX9_isIn : zMD := (yX9_isIn, cX9_isIn, 3, some .boolean, [])
def mX9_copies : zMD := (yX9_copies, cX9_copies, 5, none, [])
def mX9_keeps : zMD := (yX9_keeps, cX9_keeps, 3, none, [])
def mX9_undo : zMD := (yX9_undo, cX9_undo, 1, some .int, [])
def mX9_save : zMD := (yX9_save, cX9_save, 2, none, [])
def mX9_restore : zMD := (yX9_restore, cX9_restore, 2, some .int, [])
def mX9_byteOf : zMD := (yX9_byteOf, cX9_byteOf, 7, some .int, [])
def mX9_append : zMD := (yX9_append, cX9_append, 9, some .int, [])
def mX9_see : zMD := (yX9_see, cX9_see, 2, some .int, [])
def mX9_isLetter : zMD := (yX9_isLetter, cX9_isLetter, 2, some .boolean, [])
def mX9_isDigit : zMD := (yX9_isDigit, cX9_isDigit, 2, some .boolean, [])
def mX9_next : zMD := (yX9_next, cX9_next, 1, none, [])
def mX9_isWord : zMD := (yX9_isWord, cX9_isWord, 3, some .boolean, [])
def mX9_fails : zMD := (yX9_fails, cX9_fails, 2, none, [])
def mX9_must : zMD := (yX9_must, cX9_must, 2, none, [])
def mX9_mustEnd : zMD := (yX9_mustEnd, cX9_mustEnd, 1, none, [])
def mX9_takes : zMD := (yX9_takes, cX9_takes, 4, some .int, [])
def mX9_mustName : zMD := (yX9_mustName, cX9_mustName, 1, none, [])
def mX9_named : zMD := (yX9_named, cX9_named, 7, some .int, [])
def mX9_putsName : zMD := (yX9_putsName, cX9_putsName, 3, none, [])
def mX9_readsTier : zMD := (yX9_readsTier, cX9_readsTier, 3, none, [])
def mX9_readsFile : zMD := (yX9_readsFile, cX9_readsFile, 5, none, [])
def mX9_begins0 : zMD := (yX9_begins0, cX9_begins0, 3, none, [])
def mX9_load : zMD := (yX9_load, cX9_load, 1, some .int, [])
def mX9_errorPosition : zMD := (yX9_errorPosition, cX9_errorPosition, 1, some .int, [])
def mX9_its : zMD := (yX9_its, cX9_its, 2, some .int, [])
def mX9_tiers : zMD := (yX9_tiers, cX9_tiers, 1, some .int, [])
def mX9_files : zMD := (yX9_files, cX9_files, 1, some .int, [])
def mX9_ofTier : zMD := (yX9_ofTier, cX9_ofTier, 3, some .int, [])
def mX9_of : zMD := (yX9_of, cX9_of, 3, some .int, [])
def mX9_sets : zMD := (yX9_sets, cX9_sets, 5, none, [])
def mX9_isTier : zMD := (yX9_isTier, cX9_isTier, 2, some .boolean, [])
def mX9_isFile : zMD := (yX9_isFile, cX9_isFile, 2, some .boolean, [])
def mX9_fullOf : zMD := (yX9_fullOf, cX9_fullOf, 4, some .int, [])
def mX9_freeOn : zMD := (yX9_freeOn, cX9_freeOn, 2, some .int, [])
def mX9_isPinned : zMD := (yX9_isPinned, cX9_isPinned, 2, some .boolean, [])
def mX9_knownOf : zMD := (yX9_knownOf, cX9_knownOf, 4, some .int, [])
def mX9_forecastOf : zMD := (yX9_forecastOf, cX9_forecastOf, 7, some .int, [])
def mX9_learns : zMD := (yX9_learns, cX9_learns, 5, none, [])
def mX9_keepsUses : zMD := (yX9_keepsUses, cX9_keepsUses, 4, none, [])
def mX9_relearns : zMD := (yX9_relearns, cX9_relearns, 4, none, [])
def mX9_seasonsOf : zMD := (yX9_seasonsOf, cX9_seasonsOf, 7, some .int, [])
def mX9_strange : zMD := (yX9_strange, cX9_strange, 6, some .int, [])
def mX9_ownCycle : zMD := (yX9_ownCycle, cX9_ownCycle, 6, some .int, [])
def mX9_pinned : zMD := (yX9_pinned, cX9_pinned, 3, some .int, [])
def mX9_sizes : zMD := (yX9_sizes, cX9_sizes, 3, some .int, [])
def mX9_count : zMD := (yX9_count, cX9_count, 2, some .int, [])
def mX9_filesOn : zMD := (yX9_filesOn, cX9_filesOn, 4, some .int, [])
def mX9_busiest : zMD := (yX9_busiest, cX9_busiest, 4, some .int, [])
def mX9_tier : zMD := (yX9_tier, cX9_tier, 3, some .int, [])
def mX9_file : zMD := (yX9_file, cX9_file, 3, some .int, [])
def mX9_season : zMD := (yX9_season, cX9_season, 3, some .int, [])
def mX9_kept : zMD := (yX9_kept, cX9_kept, 3, some .int, [])
def mX9_forecast : zMD := (yX9_forecast, cX9_forecast, 3, some .int, [])
def mX9_off : zMD := (yX9_off, cX9_off, 2, some .long, [])
def mX9_meanOff : zMD := (yX9_meanOff, cX9_meanOff, 5, some .double, [])
def mX9_cycleOf : zMD := (yX9_cycleOf, cX9_cycleOf, 2, some .int, [])
def mX9_commonCycle : zMD := (yX9_commonCycle, cX9_commonCycle, 6, some .int, [])
def mX9_sumOf : zMD := (yX9_sumOf, cX9_sumOf, 7, some .long, [])
def mX9_account : zMD := (yX9_account, cX9_account, 3, some .long, [])
def mX9_movingShare : zMD := (yX9_movingShare, cX9_movingShare, 3, some .float, [])
def mX9_costOn : zMD := (yX9_costOn, cX9_costOn, 7, some .long, [])
def mX9_savesBy : zMD := (yX9_savesBy, cX9_savesBy, 4, some .long, [])
def mX9_laysCosts : zMD := (yX9_laysCosts, cX9_laysCosts, 4, none, [])
def mX9_canGo : zMD := (yX9_canGo, cX9_canGo, 2, some .boolean, [])
def mX9_found : zMD := (yX9_found, cX9_found, 6, none, [])
def mX9_findsMove : zMD := (yX9_findsMove, cX9_findsMove, 3, none, [])
def mX9_findsExchange : zMD := (yX9_findsExchange, cX9_findsExchange, 6, none, [])
def mX9_goesOnPaper : zMD := (yX9_goesOnPaper, cX9_goesOnPaper, 3, none, [])
def mX9_plans : zMD := (yX9_plans, cX9_plans, 5, none, [])
def mX9_findsStep : zMD := (yX9_findsStep, cX9_findsStep, 1, some .boolean, [])
def mX9_isSpan : zMD := (yX9_isSpan, cX9_isSpan, 1, some .boolean, [])
def mX9_cost : zMD := (yX9_cost, cX9_cost, 4, some .long, [])
def mX9_wish : zMD := (yX9_wish, cX9_wish, 9, some .int, [])
def mX9_steps : zMD := (yX9_steps, cX9_steps, 2, some .int, [])
def mX9_step : zMD := (yX9_step, cX9_step, 4, some .int, [])
def mX9_saving : zMD := (yX9_saving, cX9_saving, 2, some .long, [])
def mX9_withRoom : zMD := (yX9_withRoom, cX9_withRoom, 6, some .long, [])
def mX9_refused : zMD := (yX9_refused, cX9_refused, 1, some .int, [])
def mX9_add : zMD := (yX9_add, cX9_add, 4, some .int, [])
def mX9_drop : zMD := (yX9_drop, cX9_drop, 7, some .int, [])
def mX9_use : zMD := (yX9_use, cX9_use, 3, some .int, [])
def mX9_pays : zMD := (yX9_pays, cX9_pays, 5, none, [])
def mX9_closes : zMD := (yX9_closes, cX9_closes, 5, none, [])
def mX9_close : zMD := (yX9_close, cX9_close, 4, some .long, [])
def mX9_goes : zMD := (yX9_goes, cX9_goes, 7, some .int, [])
def mX9_move : zMD := (yX9_move, cX9_move, 3, some .int, [])
def mX9_unmove : zMD := (yX9_unmove, cX9_unmove, 4, some .int, [])
def mX9_pin : zMD := (yX9_pin, cX9_pin, 4, some .int, [])
def mX9_act : zMD := (yX9_act, cX9_act, 5, some .int, [])
def mX9_learn : zMD := (yX9_learn, cX9_learn, 5, some .int, [])
def mX9_setTier : zMD := (yX9_setTier, cX9_setTier, 6, some .int, [])
def mX9_says : zMD := (yX9_says, cX9_says, 3, none, [])
def mX9_saysName : zMD := (yX9_saysName, cX9_saysName, 3, none, [])
def mX9_writeTiers : zMD := (yX9_writeTiers, cX9_writeTiers, 4, some .int, [])
def mX9_writtenByte : zMD := (yX9_writtenByte, cX9_writtenByte, 2, some .int, [])
def mJ9_floorMod_7cf53 : zMD := (yJ9_floorMod_7cf53, cJ9_floorMod_7cf53, 3, some .int, [])
def mJ9_abs_0f7a4 : zMD := (yJ9_abs_0f7a4, cJ9_abs_0f7a4, 1, some .int, [])
def mJ9_max_7cf53 : zMD := (yJ9_max_7cf53, cJ9_max_7cf53, 2, some .int, [])
def mJ9_min_7cf53 : zMD := (yJ9_min_7cf53, cJ9_min_7cf53, 2, some .int, [])
def mJ0_length_8abf5 : zMD := (yJ0_length_8abf5, cJ0_length_8abf5, 1, some .int, [])
def mJ0_charAt_5068e : zMD := (yJ0_charAt_5068e, cJ0_charAt_5068e, 2, some .char, [])
def mJ0_coder_7d493 : zMD := (yJ0_coder_7d493, cJ0_coder_7d493, 1, some .byte, [])
def mJ0_isLatin1_aae02 : zMD := (yJ0_isLatin1_aae02, cJ0_isLatin1_aae02, 1, some .boolean, [])
def mJ0_checkIndex_df160 : zMD := (yJ0_checkIndex_df160, cJ0_checkIndex_df160, 2, none, [])
def mJ1_charAt_3b067 : zMD := (yJ1_charAt_3b067, cJ1_charAt_3b067, 2, some .char, [])
def mJ2_getChar_3b067 : zMD := (yJ2_getChar_3b067, cJ2_getChar_3b067, 2, some .char, [])
def mJ2_length_9d52b : zMD := (yJ2_length_9d52b, cJ2_length_9d52b, 1, some .int, [])
def mJ2_charAt_3b067 : zMD := (yJ2_charAt_3b067, cJ2_charAt_3b067, 2, some .char, [])
def mJ2_checkIndex_2214a : zMD := (yJ2_checkIndex_2214a, cJ2_checkIndex_2214a, 2, none, [])
def mJ3_checkIndex_8e157 : zMD := (yJ3_checkIndex_8e157, cJ3_checkIndex_8e157, 3, some .int, [])
def mL_append : zMD := (yL_append, cL_append, 8, some .int, [(0, 16, 19, 13)])
def mL_count : zMD := (yL_count, cL_count, 4, some .int, [(0, 9, 12, 19)])
def mL_tier : zMD := (yL_tier, cL_tier, 5, some .int, [(0, 10, 13, 25), (0, 10, 17, 19)])
def mL_file : zMD := (yL_file, cL_file, 5, some .int, [(0, 10, 13, 25), (0, 10, 17, 19)])
def mL_season : zMD := (yL_season, cL_season, 5, some .int, [(0, 10, 13, 25)])
def mL_kept : zMD := (yL_kept, cL_kept, 5, some .int, [(0, 10, 13, 25)])
def mL_forecast : zMD := (yL_forecast, cL_forecast, 5, some .int, [(0, 10, 13, 25), (0, 10, 17, 19)])
def mL_off : zMD := (yL_off, cL_off, 4, some .int, [(0, 8, 11, 25)])
def mL_cycleOf : zMD := (yL_cycleOf, cL_cycleOf, 4, some .int, [(0, 9, 12, 25)])
def mL_account : zMD := (yL_account, cL_account, 5, some .int, [(0, 9, 12, 25), (0, 9, 16, 19)])
def mL_cost : zMD := (yL_cost, cL_cost, 6, some .int, [(0, 11, 14, 25), (0, 11, 18, 19)])
def mL_wish : zMD := (yL_wish, cL_wish, 5, some .int, [(0, 10, 13, 25), (0, 10, 17, 19)])
def mL_steps : zMD := (yL_steps, cL_steps, 4, some .int, [(0, 9, 12, 19)])
def mL_step : zMD := (yL_step, cL_step, 6, some .int, [(0, 12, 15, 19), (0, 12, 19, 25)])
def mL_saving : zMD := (yL_saving, cL_saving, 4, some .int, [(0, 8, 11, 19)])
def mL_withRoom : zMD := (yL_withRoom, cL_withRoom, 6, some .int, [(0, 11, 14, 25), (0, 11, 18, 19)])
def mL_add : zMD := (yL_add, cL_add, 5, some .int, [(0, 10, 13, 19), (0, 10, 17, 25)])
def mL_drop : zMD := (yL_drop, cL_drop, 4, some .int, [(0, 9, 12, 25)])
def mL_use : zMD := (yL_use, cL_use, 5, some .int, [(0, 10, 13, 25), (0, 10, 17, 19)])
def mL_move : zMD := (yL_move, cL_move, 5, some .int, [(0, 10, 13, 25)])
def mL_pin : zMD := (yL_pin, cL_pin, 5, some .int, [(0, 10, 13, 25), (0, 10, 17, 19)])
def mL_act : zMD := (yL_act, cL_act, 4, some .int, [(0, 9, 12, 19)])
def mL_learn : zMD := (yL_learn, cL_learn, 5, some .int, [(0, 10, 13, 19)])
def mL_setTier : zMD := (yL_setTier, cL_setTier, 6, some .int, [(0, 12, 15, 25), (0, 12, 19, 19)])
def mL_undo : zMD := (yL_undo, cL_undo, 3, some .int, [(0, 8, 11, 13)])
def mL_save : zMD := (yL_save, cL_save, 3, some .int, [(0, 5, 8, 25)])
def mL_restore : zMD := (yL_restore, cL_restore, 4, some .int, [(0, 9, 12, 25), (0, 9, 15, 13)])
def mL_writtenByte : zMD := (yL_writtenByte, cL_writtenByte, 4, some .int, [(0, 9, 12, 25)])
theorem cd_X0_init : Cond.code (yN mX0_init) (yC mX0_init) (yL mX0_init) (yR mX0_init) ∈ zGW := zGW_of 269 (by decide +kernel)
theorem im_X0_init : Cond.instanceMethod (yN mX0_init) ∈ zGW := zGW_of 268 (by decide +kernel)
theorem iw_X0_init : Cond.initialized (yN mX0_init).cls ∈ zGW := zGW_of 91 (by decide +kernel)
theorem np_X0_init : (yN mX0_init).cls ≠ "java/lang/invoke/MethodHandle" ∧ (yN mX0_init).cls ≠ "java/lang/invoke/VarHandle" ∧ (parseMethodDescriptor (yN mX0_init).desc).map (fun d => d.parameters.length) = some 0 := by decide +kernel
theorem cd_X0_copyFrom : Cond.code (yN mX0_copyFrom) (yC mX0_copyFrom) (yL mX0_copyFrom) (yR mX0_copyFrom) ∈ zGW := zGW_of 596 (by decide +kernel)
theorem im_X0_copyFrom : Cond.instanceMethod (yN mX0_copyFrom) ∈ zGW := zGW_of 594 (by decide +kernel)
theorem sl_X0_copyFrom : Cond.selects (yN mX0_copyFrom).cls (yN mX0_copyFrom) (yN mX0_copyFrom) ∈ zGW := zGW_of 595 (by decide +kernel)
theorem np_X0_copyFrom : (yN mX0_copyFrom).cls ≠ "java/lang/invoke/MethodHandle" ∧ (yN mX0_copyFrom).cls ≠ "java/lang/invoke/VarHandle" ∧ (parseMethodDescriptor (yN mX0_copyFrom).desc).map (fun d => d.parameters.length) = some 1 := by decide +kernel
theorem cd_X0_startAs : Cond.code (yN mX0_startAs) (yC mX0_startAs) (yL mX0_startAs) (yR mX0_startAs) ∈ zGW := zGW_of 576 (by decide +kernel)
theorem im_X0_startAs : Cond.instanceMethod (yN mX0_startAs) ∈ zGW := zGW_of 574 (by decide +kernel)
theorem sl_X0_startAs : Cond.selects (yN mX0_startAs).cls (yN mX0_startAs) (yN mX0_startAs) ∈ zGW := zGW_of 575 (by decide +kernel)
theorem np_X0_startAs : (yN mX0_startAs).cls ≠ "java/lang/invoke/MethodHandle" ∧ (yN mX0_startAs).cls ≠ "java/lang/invoke/VarHandle" ∧ (parseMethodDescriptor (yN mX0_startAs).desc).map (fun d => d.parameters.length) = some 4 := by decide +kernel
theorem cd_X0_isPinnedIn : Cond.code (yN mX0_isPinnedIn) (yC mX0_isPinnedIn) (yL mX0_isPinnedIn) (yR mX0_isPinnedIn) ∈ zGW := zGW_of 810 (by decide +kernel)
theorem im_X0_isPinnedIn : Cond.instanceMethod (yN mX0_isPinnedIn) ∈ zGW := zGW_of 808 (by decide +kernel)
theorem sl_X0_isPinnedIn : Cond.selects (yN mX0_isPinnedIn).cls (yN mX0_isPinnedIn) (yN mX0_isPinnedIn) ∈ zGW := zGW_of 809 (by decide +kernel)
theorem np_X0_isPinnedIn : (yN mX0_isPinnedIn).cls ≠ "java/lang/invoke/MethodHandle" ∧ (yN mX0_isPinnedIn).cls ≠ "java/lang/invoke/VarHandle" ∧ (parseMethodDescriptor (yN mX0_isPinnedIn).desc).map (fun d => d.parameters.length) = some 1 := by decide +kernel
theorem cd_X0_forgetSeasons : Cond.code (yN mX0_forgetSeasons) (yC mX0_forgetSeasons) (yL mX0_forgetSeasons) (yR mX0_forgetSeasons) ∈ zGW := zGW_of 580 (by decide +kernel)
theorem im_X0_forgetSeasons : Cond.instanceMethod (yN mX0_forgetSeasons) ∈ zGW := zGW_of 578 (by decide +kernel)
theorem sl_X0_forgetSeasons : Cond.selects (yN mX0_forgetSeasons).cls (yN mX0_forgetSeasons) (yN mX0_forgetSeasons) ∈ zGW := zGW_of 579 (by decide +kernel)
theorem np_X0_forgetSeasons : (yN mX0_forgetSeasons).cls ≠ "java/lang/invoke/MethodHandle" ∧ (yN mX0_forgetSeasons).cls ≠ "java/lang/invoke/VarHandle" ∧ (parseMethodDescriptor (yN mX0_forgetSeasons).desc).map (fun d => d.parameters.length) = some 0 := by decide +kernel
theorem cd_X0_knownSeasons : Cond.code (yN mX0_knownSeasons) (yC mX0_knownSeasons) (yL mX0_knownSeasons) (yR mX0_knownSeasons) ∈ zGW := zGW_of 666 (by decide +kernel)
theorem im_X0_knownSeasons : Cond.instanceMethod (yN mX0_knownSeasons) ∈ zGW := zGW_of 664 (by decide +kernel)
theorem sl_X0_knownSeasons : Cond.selects (yN mX0_knownSeasons).cls (yN mX0_knownSeasons) (yN mX0_knownSeasons) ∈ zGW := zGW_of 665 (by decide +kernel)
theorem np_X0_knownSeasons : (yN mX0_knownSeasons).cls ≠ "java/lang/invoke/MethodHandle" ∧ (yN mX0_knownSeasons).cls ≠ "java/lang/invoke/VarHandle" ∧ (parseMethodDescriptor (yN mX0_knownSeasons).desc).map (fun d => d.parameters.length) = some 0 := by decide +kernel
theorem cd_X0_busiestPhase : Cond.code (yN mX0_busiestPhase) (yC mX0_busiestPhase) (yL mX0_busiestPhase) (yR mX0_busiestPhase) ∈ zGW := zGW_of 883 (by decide +kernel)
theorem im_X0_busiestPhase : Cond.instanceMethod (yN mX0_busiestPhase) ∈ zGW := zGW_of 881 (by decide +kernel)
theorem sl_X0_busiestPhase : Cond.selects (yN mX0_busiestPhase).cls (yN mX0_busiestPhase) (yN mX0_busiestPhase) ∈ zGW := zGW_of 882 (by decide +kernel)
theorem np_X0_busiestPhase : (yN mX0_busiestPhase).cls ≠ "java/lang/invoke/MethodHandle" ∧ (yN mX0_busiestPhase).cls ≠ "java/lang/invoke/VarHandle" ∧ (parseMethodDescriptor (yN mX0_busiestPhase).desc).map (fun d => d.parameters.length) = some 0 := by decide +kernel
theorem cd_X0_seasonSpread : Cond.code (yN mX0_seasonSpread) (yC mX0_seasonSpread) (yL mX0_seasonSpread) (yR mX0_seasonSpread) ∈ zGW := zGW_of 887 (by decide +kernel)
theorem im_X0_seasonSpread : Cond.instanceMethod (yN mX0_seasonSpread) ∈ zGW := zGW_of 885 (by decide +kernel)
theorem sl_X0_seasonSpread : Cond.selects (yN mX0_seasonSpread).cls (yN mX0_seasonSpread) (yN mX0_seasonSpread) ∈ zGW := zGW_of 886 (by decide +kernel)
theorem np_X0_seasonSpread : (yN mX0_seasonSpread).cls ≠ "java/lang/invoke/MethodHandle" ∧ (yN mX0_seasonSpread).cls ≠ "java/lang/invoke/VarHandle" ∧ (parseMethodDescriptor (yN mX0_seasonSpread).desc).map (fun d => d.parameters.length) = some 0 := by decide +kernel
theorem cd_X0_meanSeason : Cond.code (yN mX0_meanSeason) (yC mX0_meanSeason) (yL mX0_meanSeason) (yR mX0_meanSeason) ∈ zGW := zGW_of 674 (by decide +kernel)
theorem im_X0_meanSeason : Cond.instanceMethod (yN mX0_meanSeason) ∈ zGW := zGW_of 672 (by decide +kernel)
theorem sl_X0_meanSeason : Cond.selects (yN mX0_meanSeason).cls (yN mX0_meanSeason) (yN mX0_meanSeason) ∈ zGW := zGW_of 673 (by decide +kernel)
theorem np_X0_meanSeason : (yN mX0_meanSeason).cls ≠ "java/lang/invoke/MethodHandle" ∧ (yN mX0_meanSeason).cls ≠ "java/lang/invoke/VarHandle" ∧ (parseMethodDescriptor (yN mX0_meanSeason).desc).map (fun d => d.parameters.length) = some 0 := by decide +kernel
theorem cd_X0_forecastFor : Cond.code (yN mX0_forecastFor) (yC mX0_forecastFor) (yL mX0_forecastFor) (yR mX0_forecastFor) ∈ zGW := zGW_of 670 (by decide +kernel)
theorem im_X0_forecastFor : Cond.instanceMethod (yN mX0_forecastFor) ∈ zGW := zGW_of 668 (by decide +kernel)
theorem sl_X0_forecastFor : Cond.selects (yN mX0_forecastFor).cls (yN mX0_forecastFor) (yN mX0_forecastFor) ∈ zGW := zGW_of 669 (by decide +kernel)
theorem np_X0_forecastFor : (yN mX0_forecastFor).cls ≠ "java/lang/invoke/MethodHandle" ∧ (yN mX0_forecastFor).cls ≠ "java/lang/invoke/VarHandle" ∧ (parseMethodDescriptor (yN mX0_forecastFor).desc).map (fun d => d.parameters.length) = some 1 := by decide +kernel
theorem cd_X0_learnSeason : Cond.code (yN mX0_learnSeason) (yC mX0_learnSeason) (yL mX0_learnSeason) (yR mX0_learnSeason) ∈ zGW := zGW_of 678 (by decide +kernel)
theorem im_X0_learnSeason : Cond.instanceMethod (yN mX0_learnSeason) ∈ zGW := zGW_of 676 (by decide +kernel)
theorem sl_X0_learnSeason : Cond.selects (yN mX0_learnSeason).cls (yN mX0_learnSeason) (yN mX0_learnSeason) ∈ zGW := zGW_of 677 (by decide +kernel)
theorem np_X0_learnSeason : (yN mX0_learnSeason).cls ≠ "java/lang/invoke/MethodHandle" ∧ (yN mX0_learnSeason).cls ≠ "java/lang/invoke/VarHandle" ∧ (parseMethodDescriptor (yN mX0_learnSeason).desc).map (fun d => d.parameters.length) = some 3 := by decide +kernel
theorem cd_X0_scoreForecast : Cond.code (yN mX0_scoreForecast) (yC mX0_scoreForecast) (yL mX0_scoreForecast) (yR mX0_scoreForecast) ∈ zGW := zGW_of 662 (by decide +kernel)
theorem im_X0_scoreForecast : Cond.instanceMethod (yN mX0_scoreForecast) ∈ zGW := zGW_of 660 (by decide +kernel)
theorem sl_X0_scoreForecast : Cond.selects (yN mX0_scoreForecast).cls (yN mX0_scoreForecast) (yN mX0_scoreForecast) ∈ zGW := zGW_of 661 (by decide +kernel)
theorem np_X0_scoreForecast : (yN mX0_scoreForecast).cls ≠ "java/lang/invoke/MethodHandle" ∧ (yN mX0_scoreForecast).cls ≠ "java/lang/invoke/VarHandle" ∧ (parseMethodDescriptor (yN mX0_scoreForecast).desc).map (fun d => d.parameters.length) = some 1 := by decide +kernel
theorem cd_X0_keepUses : Cond.code (yN mX0_keepUses) (yC mX0_keepUses) (yL mX0_keepUses) (yR mX0_keepUses) ∈ zGW := zGW_of 682 (by decide +kernel)
theorem im_X0_keepUses : Cond.instanceMethod (yN mX0_keepUses) ∈ zGW := zGW_of 680 (by decide +kernel)
theorem sl_X0_keepUses : Cond.selects (yN mX0_keepUses).cls (yN mX0_keepUses) (yN mX0_keepUses) ∈ zGW := zGW_of 681 (by decide +kernel)
theorem np_X0_keepUses : (yN mX0_keepUses).cls ≠ "java/lang/invoke/MethodHandle" ∧ (yN mX0_keepUses).cls ≠ "java/lang/invoke/VarHandle" ∧ (parseMethodDescriptor (yN mX0_keepUses).desc).map (fun d => d.parameters.length) = some 0 := by decide +kernel
theorem cd_X0_learnFromKept : Cond.code (yN mX0_learnFromKept) (yC mX0_learnFromKept) (yL mX0_learnFromKept) (yR mX0_learnFromKept) ∈ zGW := zGW_of 1119 (by decide +kernel)
theorem im_X0_learnFromKept : Cond.instanceMethod (yN mX0_learnFromKept) ∈ zGW := zGW_of 1117 (by decide +kernel)
theorem sl_X0_learnFromKept : Cond.selects (yN mX0_learnFromKept).cls (yN mX0_learnFromKept) (yN mX0_learnFromKept) ∈ zGW := zGW_of 1118 (by decide +kernel)
theorem np_X0_learnFromKept : (yN mX0_learnFromKept).cls ≠ "java/lang/invoke/MethodHandle" ∧ (yN mX0_learnFromKept).cls ≠ "java/lang/invoke/VarHandle" ∧ (parseMethodDescriptor (yN mX0_learnFromKept).desc).map (fun d => d.parameters.length) = some 3 := by decide +kernel
theorem cd_X0_differenceAt : Cond.code (yN mX0_differenceAt) (yC mX0_differenceAt) (yL mX0_differenceAt) (yR mX0_differenceAt) ∈ zGW := zGW_of 626 (by decide +kernel)
theorem im_X0_differenceAt : Cond.instanceMethod (yN mX0_differenceAt) ∈ zGW := zGW_of 624 (by decide +kernel)
theorem sl_X0_differenceAt : Cond.selects (yN mX0_differenceAt).cls (yN mX0_differenceAt) (yN mX0_differenceAt) ∈ zGW := zGW_of 625 (by decide +kernel)
theorem np_X0_differenceAt : (yN mX0_differenceAt).cls ≠ "java/lang/invoke/MethodHandle" ∧ (yN mX0_differenceAt).cls ≠ "java/lang/invoke/VarHandle" ∧ (parseMethodDescriptor (yN mX0_differenceAt).desc).map (fun d => d.parameters.length) = some 1 := by decide +kernel
theorem cd_X0_ownCycle : Cond.code (yN mX0_ownCycle) (yC mX0_ownCycle) (yL mX0_ownCycle) (yR mX0_ownCycle) ∈ zGW := zGW_of 622 (by decide +kernel)
theorem im_X0_ownCycle : Cond.instanceMethod (yN mX0_ownCycle) ∈ zGW := zGW_of 620 (by decide +kernel)
theorem sl_X0_ownCycle : Cond.selects (yN mX0_ownCycle).cls (yN mX0_ownCycle) (yN mX0_ownCycle) ∈ zGW := zGW_of 621 (by decide +kernel)
theorem np_X0_ownCycle : (yN mX0_ownCycle).cls ≠ "java/lang/invoke/MethodHandle" ∧ (yN mX0_ownCycle).cls ≠ "java/lang/invoke/VarHandle" ∧ (parseMethodDescriptor (yN mX0_ownCycle).desc).map (fun d => d.parameters.length) = some 0 := by decide +kernel
theorem cd_X1_init : Cond.code (yN mX1_init) (yC mX1_init) (yL mX1_init) (yR mX1_init) ∈ zGW := zGW_of 216 (by decide +kernel)
theorem im_X1_init : Cond.instanceMethod (yN mX1_init) ∈ zGW := zGW_of 215 (by decide +kernel)
theorem iw_X1_init : Cond.initialized (yN mX1_init).cls ∈ zGW := zGW_of 87 (by decide +kernel)
theorem np_X1_init : (yN mX1_init).cls ≠ "java/lang/invoke/MethodHandle" ∧ (yN mX1_init).cls ≠ "java/lang/invoke/VarHandle" ∧ (parseMethodDescriptor (yN mX1_init).desc).map (fun d => d.parameters.length) = some 0 := by decide +kernel
theorem cd_X1_remember : Cond.code (yN mX1_remember) (yC mX1_remember) (yL mX1_remember) (yR mX1_remember) ∈ zGW := zGW_of 584 (by decide +kernel)
theorem im_X1_remember : Cond.instanceMethod (yN mX1_remember) ∈ zGW := zGW_of 582 (by decide +kernel)
theorem sl_X1_remember : Cond.selects (yN mX1_remember).cls (yN mX1_remember) (yN mX1_remember) ∈ zGW := zGW_of 583 (by decide +kernel)
theorem np_X1_remember : (yN mX1_remember).cls ≠ "java/lang/invoke/MethodHandle" ∧ (yN mX1_remember).cls ≠ "java/lang/invoke/VarHandle" ∧ (parseMethodDescriptor (yN mX1_remember).desc).map (fun d => d.parameters.length) = some 1 := by decide +kernel
theorem cd_X1_bringBack : Cond.code (yN mX1_bringBack) (yC mX1_bringBack) (yL mX1_bringBack) (yR mX1_bringBack) ∈ zGW := zGW_of 1143 (by decide +kernel)
theorem im_X1_bringBack : Cond.instanceMethod (yN mX1_bringBack) ∈ zGW := zGW_of 1141 (by decide +kernel)
theorem sl_X1_bringBack : Cond.selects (yN mX1_bringBack).cls (yN mX1_bringBack) (yN mX1_bringBack) ∈ zGW := zGW_of 1142 (by decide +kernel)
theorem np_X1_bringBack : (yN mX1_bringBack).cls ≠ "java/lang/invoke/MethodHandle" ∧ (yN mX1_bringBack).cls ≠ "java/lang/invoke/VarHandle" ∧ (parseMethodDescriptor (yN mX1_bringBack).desc).map (fun d => d.parameters.length) = some 1 := by decide +kernel
theorem cd_X2_init : Cond.code (yN mX2_init) (yC mX2_init) (yL mX2_init) (yR mX2_init) ∈ zGW := zGW_of 233 (by decide +kernel)
theorem im_X2_init : Cond.instanceMethod (yN mX2_init) ∈ zGW := zGW_of 232 (by decide +kernel)
theorem iw_X2_init : Cond.initialized (yN mX2_init).cls ∈ zGW := zGW_of 89 (by decide +kernel)
theorem np_X2_init : (yN mX2_init).cls ≠ "java/lang/invoke/MethodHandle" ∧ (yN mX2_init).cls ≠ "java/lang/invoke/VarHandle" ∧ (parseMethodDescriptor (yN mX2_init).desc).map (fun d => d.parameters.length) = some 0 := by decide +kernel
theorem cd_X2_copyFrom : Cond.code (yN mX2_copyFrom) (yC mX2_copyFrom) (yL mX2_copyFrom) (yR mX2_copyFrom) ∈ zGW := zGW_of 603 (by decide +kernel)
theorem im_X2_copyFrom : Cond.instanceMethod (yN mX2_copyFrom) ∈ zGW := zGW_of 601 (by decide +kernel)
theorem sl_X2_copyFrom : Cond.selects (yN mX2_copyFrom).cls (yN mX2_copyFrom) (yN mX2_copyFrom) ∈ zGW := zGW_of 602 (by decide +kernel)
theorem np_X2_copyFrom : (yN mX2_copyFrom).cls ≠ "java/lang/invoke/MethodHandle" ∧ (yN mX2_copyFrom).cls ≠ "java/lang/invoke/VarHandle" ∧ (parseMethodDescriptor (yN mX2_copyFrom).desc).map (fun d => d.parameters.length) = some 1 := by decide +kernel
theorem cd_X2_latest : Cond.code (yN mX2_latest) (yC mX2_latest) (yL mX2_latest) (yR mX2_latest) ∈ zGW := zGW_of 690 (by decide +kernel)
theorem im_X2_latest : Cond.instanceMethod (yN mX2_latest) ∈ zGW := zGW_of 688 (by decide +kernel)
theorem sl_X2_latest : Cond.selects (yN mX2_latest).cls (yN mX2_latest) (yN mX2_latest) ∈ zGW := zGW_of 689 (by decide +kernel)
theorem np_X2_latest : (yN mX2_latest).cls ≠ "java/lang/invoke/MethodHandle" ∧ (yN mX2_latest).cls ≠ "java/lang/invoke/VarHandle" ∧ (parseMethodDescriptor (yN mX2_latest).desc).map (fun d => d.parameters.length) = some 1 := by decide +kernel
theorem cd_X2_put : Cond.code (yN mX2_put) (yC mX2_put) (yL mX2_put) (yR mX2_put) ∈ zGW := zGW_of 1085 (by decide +kernel)
theorem im_X2_put : Cond.instanceMethod (yN mX2_put) ∈ zGW := zGW_of 1083 (by decide +kernel)
theorem sl_X2_put : Cond.selects (yN mX2_put).cls (yN mX2_put) (yN mX2_put) ∈ zGW := zGW_of 1084 (by decide +kernel)
theorem np_X2_put : (yN mX2_put).cls ≠ "java/lang/invoke/MethodHandle" ∧ (yN mX2_put).cls ≠ "java/lang/invoke/VarHandle" ∧ (parseMethodDescriptor (yN mX2_put).desc).map (fun d => d.parameters.length) = some 5 := by decide +kernel
theorem cd_X2_removeRow : Cond.code (yN mX2_removeRow) (yC mX2_removeRow) (yL mX2_removeRow) (yR mX2_removeRow) ∈ zGW := zGW_of 1063 (by decide +kernel)
theorem im_X2_removeRow : Cond.instanceMethod (yN mX2_removeRow) ∈ zGW := zGW_of 1061 (by decide +kernel)
theorem sl_X2_removeRow : Cond.selects (yN mX2_removeRow).cls (yN mX2_removeRow) (yN mX2_removeRow) ∈ zGW := zGW_of 1062 (by decide +kernel)
theorem np_X2_removeRow : (yN mX2_removeRow).cls ≠ "java/lang/invoke/MethodHandle" ∧ (yN mX2_removeRow).cls ≠ "java/lang/invoke/VarHandle" ∧ (parseMethodDescriptor (yN mX2_removeRow).desc).map (fun d => d.parameters.length) = some 1 := by decide +kernel
theorem cd_X2_forgetFile : Cond.code (yN mX2_forgetFile) (yC mX2_forgetFile) (yL mX2_forgetFile) (yR mX2_forgetFile) ∈ zGW := zGW_of 1059 (by decide +kernel)
theorem im_X2_forgetFile : Cond.instanceMethod (yN mX2_forgetFile) ∈ zGW := zGW_of 1057 (by decide +kernel)
theorem sl_X2_forgetFile : Cond.selects (yN mX2_forgetFile).cls (yN mX2_forgetFile) (yN mX2_forgetFile) ∈ zGW := zGW_of 1058 (by decide +kernel)
theorem np_X2_forgetFile : (yN mX2_forgetFile).cls ≠ "java/lang/invoke/MethodHandle" ∧ (yN mX2_forgetFile).cls ≠ "java/lang/invoke/VarHandle" ∧ (parseMethodDescriptor (yN mX2_forgetFile).desc).map (fun d => d.parameters.length) = some 1 := by decide +kernel
theorem cd_X3_init : Cond.code (yN mX3_init) (yC mX3_init) (yL mX3_init) (yR mX3_init) ∈ zGW := zGW_of 166 (by decide +kernel)
theorem im_X3_init : Cond.instanceMethod (yN mX3_init) ∈ zGW := zGW_of 165 (by decide +kernel)
theorem iw_X3_init : Cond.initialized (yN mX3_init).cls ∈ zGW := zGW_of 86 (by decide +kernel)
theorem np_X3_init : (yN mX3_init).cls ≠ "java/lang/invoke/MethodHandle" ∧ (yN mX3_init).cls ≠ "java/lang/invoke/VarHandle" ∧ (parseMethodDescriptor (yN mX3_init).desc).map (fun d => d.parameters.length) = some 0 := by decide +kernel
theorem cd_X3_makePlan : Cond.code (yN mX3_makePlan) (yC mX3_makePlan) (yL mX3_makePlan) (yR mX3_makePlan) ∈ zGW := zGW_of 988 (by decide +kernel)
theorem im_X3_makePlan : Cond.instanceMethod (yN mX3_makePlan) ∈ zGW := zGW_of 986 (by decide +kernel)
theorem sl_X3_makePlan : Cond.selects (yN mX3_makePlan).cls (yN mX3_makePlan) (yN mX3_makePlan) ∈ zGW := zGW_of 987 (by decide +kernel)
theorem np_X3_makePlan : (yN mX3_makePlan).cls ≠ "java/lang/invoke/MethodHandle" ∧ (yN mX3_makePlan).cls ≠ "java/lang/invoke/VarHandle" ∧ (parseMethodDescriptor (yN mX3_makePlan).desc).map (fun d => d.parameters.length) = some 2 := by decide +kernel
theorem cd_X3_planAgain : Cond.code (yN mX3_planAgain) (yC mX3_planAgain) (yL mX3_planAgain) (yR mX3_planAgain) ∈ zGW := zGW_of 992 (by decide +kernel)
theorem im_X3_planAgain : Cond.instanceMethod (yN mX3_planAgain) ∈ zGW := zGW_of 990 (by decide +kernel)
theorem sl_X3_planAgain : Cond.selects (yN mX3_planAgain).cls (yN mX3_planAgain) (yN mX3_planAgain) ∈ zGW := zGW_of 991 (by decide +kernel)
theorem np_X3_planAgain : (yN mX3_planAgain).cls ≠ "java/lang/invoke/MethodHandle" ∧ (yN mX3_planAgain).cls ≠ "java/lang/invoke/VarHandle" ∧ (parseMethodDescriptor (yN mX3_planAgain).desc).map (fun d => d.parameters.length) = some 3 := by decide +kernel
theorem cd_X3_bestTier : Cond.code (yN mX3_bestTier) (yC mX3_bestTier) (yL mX3_bestTier) (yR mX3_bestTier) ∈ zGW := zGW_of 967 (by decide +kernel)
theorem im_X3_bestTier : Cond.instanceMethod (yN mX3_bestTier) ∈ zGW := zGW_of 965 (by decide +kernel)
theorem sl_X3_bestTier : Cond.selects (yN mX3_bestTier).cls (yN mX3_bestTier) (yN mX3_bestTier) ∈ zGW := zGW_of 966 (by decide +kernel)
theorem np_X3_bestTier : (yN mX3_bestTier).cls ≠ "java/lang/invoke/MethodHandle" ∧ (yN mX3_bestTier).cls ≠ "java/lang/invoke/VarHandle" ∧ (parseMethodDescriptor (yN mX3_bestTier).desc).map (fun d => d.parameters.length) = some 3 := by decide +kernel
theorem cd_X3_carryOut : Cond.code (yN mX3_carryOut) (yC mX3_carryOut) (yL mX3_carryOut) (yR mX3_carryOut) ∈ zGW := zGW_of 1103 (by decide +kernel)
theorem im_X3_carryOut : Cond.instanceMethod (yN mX3_carryOut) ∈ zGW := zGW_of 1101 (by decide +kernel)
theorem sl_X3_carryOut : Cond.selects (yN mX3_carryOut).cls (yN mX3_carryOut) (yN mX3_carryOut) ∈ zGW := zGW_of 1102 (by decide +kernel)
theorem np_X3_carryOut : (yN mX3_carryOut).cls ≠ "java/lang/invoke/MethodHandle" ∧ (yN mX3_carryOut).cls ≠ "java/lang/invoke/VarHandle" ∧ (parseMethodDescriptor (yN mX3_carryOut).desc).map (fun d => d.parameters.length) = some 1 := by decide +kernel
theorem cd_X3_findGains : Cond.code (yN mX3_findGains) (yC mX3_findGains) (yL mX3_findGains) (yR mX3_findGains) ∈ zGW := zGW_of 971 (by decide +kernel)
theorem im_X3_findGains : Cond.instanceMethod (yN mX3_findGains) ∈ zGW := zGW_of 970 (by decide +kernel)
theorem sl_X3_findGains : Cond.selects (yN mX3_findGains).cls (yN mX3_findGains) (yN mX3_findGains) ∈ zGW := zGW_of 19 (by decide +kernel)
theorem np_X3_findGains : (yN mX3_findGains).cls ≠ "java/lang/invoke/MethodHandle" ∧ (yN mX3_findGains).cls ≠ "java/lang/invoke/VarHandle" ∧ (parseMethodDescriptor (yN mX3_findGains).desc).map (fun d => d.parameters.length) = some 3 := by decide +kernel
theorem cd_X3_findMove : Cond.code (yN mX3_findMove) (yC mX3_findMove) (yL mX3_findMove) (yR mX3_findMove) ∈ zGW := zGW_of 998 (by decide +kernel)
theorem im_X3_findMove : Cond.instanceMethod (yN mX3_findMove) ∈ zGW := zGW_of 997 (by decide +kernel)
theorem sl_X3_findMove : Cond.selects (yN mX3_findMove).cls (yN mX3_findMove) (yN mX3_findMove) ∈ zGW := zGW_of 20 (by decide +kernel)
theorem np_X3_findMove : (yN mX3_findMove).cls ≠ "java/lang/invoke/MethodHandle" ∧ (yN mX3_findMove).cls ≠ "java/lang/invoke/VarHandle" ∧ (parseMethodDescriptor (yN mX3_findMove).desc).map (fun d => d.parameters.length) = some 1 := by decide +kernel
theorem cd_X3_findExchange : Cond.code (yN mX3_findExchange) (yC mX3_findExchange) (yL mX3_findExchange) (yR mX3_findExchange) ∈ zGW := zGW_of 1006 (by decide +kernel)
theorem im_X3_findExchange : Cond.instanceMethod (yN mX3_findExchange) ∈ zGW := zGW_of 1005 (by decide +kernel)
theorem sl_X3_findExchange : Cond.selects (yN mX3_findExchange).cls (yN mX3_findExchange) (yN mX3_findExchange) ∈ zGW := zGW_of 22 (by decide +kernel)
theorem np_X3_findExchange : (yN mX3_findExchange).cls ≠ "java/lang/invoke/MethodHandle" ∧ (yN mX3_findExchange).cls ≠ "java/lang/invoke/VarHandle" ∧ (parseMethodDescriptor (yN mX3_findExchange).desc).map (fun d => d.parameters.length) = some 1 := by decide +kernel
theorem cd_X3_setBest : Cond.code (yN mX3_setBest) (yC mX3_setBest) (yL mX3_setBest) (yR mX3_setBest) ∈ zGW := zGW_of 1002 (by decide +kernel)
theorem im_X3_setBest : Cond.instanceMethod (yN mX3_setBest) ∈ zGW := zGW_of 1001 (by decide +kernel)
theorem sl_X3_setBest : Cond.selects (yN mX3_setBest).cls (yN mX3_setBest) (yN mX3_setBest) ∈ zGW := zGW_of 21 (by decide +kernel)
theorem np_X3_setBest : (yN mX3_setBest).cls ≠ "java/lang/invoke/MethodHandle" ∧ (yN mX3_setBest).cls ≠ "java/lang/invoke/VarHandle" ∧ (parseMethodDescriptor (yN mX3_setBest).desc).map (fun d => d.parameters.length) = some 4 := by decide +kernel
theorem cd_X3_takeStep : Cond.code (yN mX3_takeStep) (yC mX3_takeStep) (yL mX3_takeStep) (yR mX3_takeStep) ∈ zGW := zGW_of 1010 (by decide +kernel)
theorem im_X3_takeStep : Cond.instanceMethod (yN mX3_takeStep) ∈ zGW := zGW_of 1009 (by decide +kernel)
theorem sl_X3_takeStep : Cond.selects (yN mX3_takeStep).cls (yN mX3_takeStep) (yN mX3_takeStep) ∈ zGW := zGW_of 23 (by decide +kernel)
theorem np_X3_takeStep : (yN mX3_takeStep).cls ≠ "java/lang/invoke/MethodHandle" ∧ (yN mX3_takeStep).cls ≠ "java/lang/invoke/VarHandle" ∧ (parseMethodDescriptor (yN mX3_takeStep).desc).map (fun d => d.parameters.length) = some 1 := by decide +kernel
theorem cd_X3_takeAway : Cond.code (yN mX3_takeAway) (yC mX3_takeAway) (yL mX3_takeAway) (yR mX3_takeAway) ∈ zGW := zGW_of 1014 (by decide +kernel)
theorem im_X3_takeAway : Cond.instanceMethod (yN mX3_takeAway) ∈ zGW := zGW_of 1013 (by decide +kernel)
theorem sl_X3_takeAway : Cond.selects (yN mX3_takeAway).cls (yN mX3_takeAway) (yN mX3_takeAway) ∈ zGW := zGW_of 24 (by decide +kernel)
theorem np_X3_takeAway : (yN mX3_takeAway).cls ≠ "java/lang/invoke/MethodHandle" ∧ (yN mX3_takeAway).cls ≠ "java/lang/invoke/VarHandle" ∧ (parseMethodDescriptor (yN mX3_takeAway).desc).map (fun d => d.parameters.length) = some 4 := by decide +kernel
theorem cd_X4_init : Cond.code (yN mX4_init) (yC mX4_init) (yL mX4_init) (yR mX4_init) ∈ zGW := zGW_of 117 (by decide +kernel)
theorem im_X4_init : Cond.instanceMethod (yN mX4_init) ∈ zGW := zGW_of 116 (by decide +kernel)
theorem iw_X4_init : Cond.initialized (yN mX4_init).cls ∈ zGW := zGW_of 84 (by decide +kernel)
theorem np_X4_init : (yN mX4_init).cls ≠ "java/lang/invoke/MethodHandle" ∧ (yN mX4_init).cls ≠ "java/lang/invoke/VarHandle" ∧ (parseMethodDescriptor (yN mX4_init).desc).map (fun d => d.parameters.length) = some 0 := by decide +kernel
theorem cd_X4_putBytesOf : Cond.code (yN mX4_putBytesOf) (yC mX4_putBytesOf) (yL mX4_putBytesOf) (yR mX4_putBytesOf) ∈ zGW := zGW_of 794 (by decide +kernel)
theorem im_X4_putBytesOf : Cond.instanceMethod (yN mX4_putBytesOf) ∈ zGW := zGW_of 792 (by decide +kernel)
theorem sl_X4_putBytesOf : Cond.selects (yN mX4_putBytesOf).cls (yN mX4_putBytesOf) (yN mX4_putBytesOf) ∈ zGW := zGW_of 793 (by decide +kernel)
theorem np_X4_putBytesOf : (yN mX4_putBytesOf).cls ≠ "java/lang/invoke/MethodHandle" ∧ (yN mX4_putBytesOf).cls ≠ "java/lang/invoke/VarHandle" ∧ (parseMethodDescriptor (yN mX4_putBytesOf).desc).map (fun d => d.parameters.length) = some 1 := by decide +kernel
theorem cd_X4_readStore : Cond.code (yN mX4_readStore) (yC mX4_readStore) (yL mX4_readStore) (yR mX4_readStore) ∈ zGW := zGW_of 432 (by decide +kernel)
theorem im_X4_readStore : Cond.instanceMethod (yN mX4_readStore) ∈ zGW := zGW_of 430 (by decide +kernel)
theorem sl_X4_readStore : Cond.selects (yN mX4_readStore).cls (yN mX4_readStore) (yN mX4_readStore) ∈ zGW := zGW_of 431 (by decide +kernel)
theorem np_X4_readStore : (yN mX4_readStore).cls ≠ "java/lang/invoke/MethodHandle" ∧ (yN mX4_readStore).cls ≠ "java/lang/invoke/VarHandle" ∧ (parseMethodDescriptor (yN mX4_readStore).desc).map (fun d => d.parameters.length) = some 1 := by decide +kernel
theorem cd_X4_readHead : Cond.code (yN mX4_readHead) (yC mX4_readHead) (yL mX4_readHead) (yR mX4_readHead) ∈ zGW := zGW_of 436 (by decide +kernel)
theorem im_X4_readHead : Cond.instanceMethod (yN mX4_readHead) ∈ zGW := zGW_of 435 (by decide +kernel)
theorem sl_X4_readHead : Cond.selects (yN mX4_readHead).cls (yN mX4_readHead) (yN mX4_readHead) ∈ zGW := zGW_of 0 (by decide +kernel)
theorem np_X4_readHead : (yN mX4_readHead).cls ≠ "java/lang/invoke/MethodHandle" ∧ (yN mX4_readHead).cls ≠ "java/lang/invoke/VarHandle" ∧ (parseMethodDescriptor (yN mX4_readHead).desc).map (fun d => d.parameters.length) = some 1 := by decide +kernel
theorem cd_X4_readTiers : Cond.code (yN mX4_readTiers) (yC mX4_readTiers) (yL mX4_readTiers) (yR mX4_readTiers) ∈ zGW := zGW_of 523 (by decide +kernel)
theorem im_X4_readTiers : Cond.instanceMethod (yN mX4_readTiers) ∈ zGW := zGW_of 522 (by decide +kernel)
theorem sl_X4_readTiers : Cond.selects (yN mX4_readTiers).cls (yN mX4_readTiers) (yN mX4_readTiers) ∈ zGW := zGW_of 8 (by decide +kernel)
theorem np_X4_readTiers : (yN mX4_readTiers).cls ≠ "java/lang/invoke/MethodHandle" ∧ (yN mX4_readTiers).cls ≠ "java/lang/invoke/VarHandle" ∧ (parseMethodDescriptor (yN mX4_readTiers).desc).map (fun d => d.parameters.length) = some 1 := by decide +kernel
theorem cd_X4_readTier : Cond.code (yN mX4_readTier) (yC mX4_readTier) (yL mX4_readTier) (yR mX4_readTier) ∈ zGW := zGW_of 528 (by decide +kernel)
theorem im_X4_readTier : Cond.instanceMethod (yN mX4_readTier) ∈ zGW := zGW_of 527 (by decide +kernel)
theorem sl_X4_readTier : Cond.selects (yN mX4_readTier).cls (yN mX4_readTier) (yN mX4_readTier) ∈ zGW := zGW_of 9 (by decide +kernel)
theorem np_X4_readTier : (yN mX4_readTier).cls ≠ "java/lang/invoke/MethodHandle" ∧ (yN mX4_readTier).cls ≠ "java/lang/invoke/VarHandle" ∧ (parseMethodDescriptor (yN mX4_readTier).desc).map (fun d => d.parameters.length) = some 1 := by decide +kernel
theorem cd_X4_readFiles : Cond.code (yN mX4_readFiles) (yC mX4_readFiles) (yL mX4_readFiles) (yR mX4_readFiles) ∈ zGW := zGW_of 549 (by decide +kernel)
theorem im_X4_readFiles : Cond.instanceMethod (yN mX4_readFiles) ∈ zGW := zGW_of 548 (by decide +kernel)
theorem sl_X4_readFiles : Cond.selects (yN mX4_readFiles).cls (yN mX4_readFiles) (yN mX4_readFiles) ∈ zGW := zGW_of 11 (by decide +kernel)
theorem np_X4_readFiles : (yN mX4_readFiles).cls ≠ "java/lang/invoke/MethodHandle" ∧ (yN mX4_readFiles).cls ≠ "java/lang/invoke/VarHandle" ∧ (parseMethodDescriptor (yN mX4_readFiles).desc).map (fun d => d.parameters.length) = some 1 := by decide +kernel
theorem cd_X4_readFile : Cond.code (yN mX4_readFile) (yC mX4_readFile) (yL mX4_readFile) (yR mX4_readFile) ∈ zGW := zGW_of 553 (by decide +kernel)
theorem im_X4_readFile : Cond.instanceMethod (yN mX4_readFile) ∈ zGW := zGW_of 552 (by decide +kernel)
theorem sl_X4_readFile : Cond.selects (yN mX4_readFile).cls (yN mX4_readFile) (yN mX4_readFile) ∈ zGW := zGW_of 12 (by decide +kernel)
theorem np_X4_readFile : (yN mX4_readFile).cls ≠ "java/lang/invoke/MethodHandle" ∧ (yN mX4_readFile).cls ≠ "java/lang/invoke/VarHandle" ∧ (parseMethodDescriptor (yN mX4_readFile).desc).map (fun d => d.parameters.length) = some 1 := by decide +kernel
theorem cd_X4_readName : Cond.code (yN mX4_readName) (yC mX4_readName) (yL mX4_readName) (yR mX4_readName) ∈ zGW := zGW_of 532 (by decide +kernel)
theorem im_X4_readName : Cond.instanceMethod (yN mX4_readName) ∈ zGW := zGW_of 531 (by decide +kernel)
theorem sl_X4_readName : Cond.selects (yN mX4_readName).cls (yN mX4_readName) (yN mX4_readName) ∈ zGW := zGW_of 10 (by decide +kernel)
theorem np_X4_readName : (yN mX4_readName).cls ≠ "java/lang/invoke/MethodHandle" ∧ (yN mX4_readName).cls ≠ "java/lang/invoke/VarHandle" ∧ (parseMethodDescriptor (yN mX4_readName).desc).map (fun d => d.parameters.length) = some 0 := by decide +kernel
theorem cd_X4_readNumber : Cond.code (yN mX4_readNumber) (yC mX4_readNumber) (yL mX4_readNumber) (yR mX4_readNumber) ∈ zGW := zGW_of 509 (by decide +kernel)
theorem im_X4_readNumber : Cond.instanceMethod (yN mX4_readNumber) ∈ zGW := zGW_of 508 (by decide +kernel)
theorem sl_X4_readNumber : Cond.selects (yN mX4_readNumber).cls (yN mX4_readNumber) (yN mX4_readNumber) ∈ zGW := zGW_of 6 (by decide +kernel)
theorem np_X4_readNumber : (yN mX4_readNumber).cls ≠ "java/lang/invoke/MethodHandle" ∧ (yN mX4_readNumber).cls ≠ "java/lang/invoke/VarHandle" ∧ (parseMethodDescriptor (yN mX4_readNumber).desc).map (fun d => d.parameters.length) = some 2 := by decide +kernel
theorem cd_X4_passSemicolon : Cond.code (yN mX4_passSemicolon) (yC mX4_passSemicolon) (yL mX4_passSemicolon) (yR mX4_passSemicolon) ∈ zGW := zGW_of 519 (by decide +kernel)
theorem im_X4_passSemicolon : Cond.instanceMethod (yN mX4_passSemicolon) ∈ zGW := zGW_of 518 (by decide +kernel)
theorem sl_X4_passSemicolon : Cond.selects (yN mX4_passSemicolon).cls (yN mX4_passSemicolon) (yN mX4_passSemicolon) ∈ zGW := zGW_of 7 (by decide +kernel)
theorem np_X4_passSemicolon : (yN mX4_passSemicolon).cls ≠ "java/lang/invoke/MethodHandle" ∧ (yN mX4_passSemicolon).cls ≠ "java/lang/invoke/VarHandle" ∧ (parseMethodDescriptor (yN mX4_passSemicolon).desc).map (fun d => d.parameters.length) = some 0 := by decide +kernel
theorem cd_X4_passWord : Cond.code (yN mX4_passWord) (yC mX4_passWord) (yL mX4_passWord) (yR mX4_passWord) ∈ zGW := zGW_of 441 (by decide +kernel)
theorem im_X4_passWord : Cond.instanceMethod (yN mX4_passWord) ∈ zGW := zGW_of 440 (by decide +kernel)
theorem sl_X4_passWord : Cond.selects (yN mX4_passWord).cls (yN mX4_passWord) (yN mX4_passWord) ∈ zGW := zGW_of 1 (by decide +kernel)
theorem np_X4_passWord : (yN mX4_passWord).cls ≠ "java/lang/invoke/MethodHandle" ∧ (yN mX4_passWord).cls ≠ "java/lang/invoke/VarHandle" ∧ (parseMethodDescriptor (yN mX4_passWord).desc).map (fun d => d.parameters.length) = some 1 := by decide +kernel
theorem cd_X4_nextIsWord : Cond.code (yN mX4_nextIsWord) (yC mX4_nextIsWord) (yL mX4_nextIsWord) (yR mX4_nextIsWord) ∈ zGW := zGW_of 445 (by decide +kernel)
theorem im_X4_nextIsWord : Cond.instanceMethod (yN mX4_nextIsWord) ∈ zGW := zGW_of 444 (by decide +kernel)
theorem sl_X4_nextIsWord : Cond.selects (yN mX4_nextIsWord).cls (yN mX4_nextIsWord) (yN mX4_nextIsWord) ∈ zGW := zGW_of 2 (by decide +kernel)
theorem np_X4_nextIsWord : (yN mX4_nextIsWord).cls ≠ "java/lang/invoke/MethodHandle" ∧ (yN mX4_nextIsWord).cls ≠ "java/lang/invoke/VarHandle" ∧ (parseMethodDescriptor (yN mX4_nextIsWord).desc).map (fun d => d.parameters.length) = some 1 := by decide +kernel
theorem cd_X4_nextByte : Cond.code (yN mX4_nextByte) (yC mX4_nextByte) (yL mX4_nextByte) (yR mX4_nextByte) ∈ zGW := zGW_of 449 (by decide +kernel)
theorem im_X4_nextByte : Cond.instanceMethod (yN mX4_nextByte) ∈ zGW := zGW_of 448 (by decide +kernel)
theorem sl_X4_nextByte : Cond.selects (yN mX4_nextByte).cls (yN mX4_nextByte) (yN mX4_nextByte) ∈ zGW := zGW_of 3 (by decide +kernel)
theorem np_X4_nextByte : (yN mX4_nextByte).cls ≠ "java/lang/invoke/MethodHandle" ∧ (yN mX4_nextByte).cls ≠ "java/lang/invoke/VarHandle" ∧ (parseMethodDescriptor (yN mX4_nextByte).desc).map (fun d => d.parameters.length) = some 0 := by decide +kernel
theorem cd_X4_endOfWord : Cond.code (yN mX4_endOfWord) (yC mX4_endOfWord) (yL mX4_endOfWord) (yR mX4_endOfWord) ∈ zGW := zGW_of 453 (by decide +kernel)
theorem im_X4_endOfWord : Cond.instanceMethod (yN mX4_endOfWord) ∈ zGW := zGW_of 452 (by decide +kernel)
theorem sl_X4_endOfWord : Cond.selects (yN mX4_endOfWord).cls (yN mX4_endOfWord) (yN mX4_endOfWord) ∈ zGW := zGW_of 4 (by decide +kernel)
theorem np_X4_endOfWord : (yN mX4_endOfWord).cls ≠ "java/lang/invoke/MethodHandle" ∧ (yN mX4_endOfWord).cls ≠ "java/lang/invoke/VarHandle" ∧ (parseMethodDescriptor (yN mX4_endOfWord).desc).map (fun d => d.parameters.length) = some 0 := by decide +kernel
theorem cd_X4_isDigit : Cond.code (yN mX4_isDigit) (yC mX4_isDigit) (yL mX4_isDigit) (yR mX4_isDigit) ∈ zGW := zGW_of 512 (by decide +kernel)
theorem st_X4_isDigit : Cond.static (yN mX4_isDigit) ∈ zGW := zGW_of 511 (by decide +kernel)
theorem np_X4_isDigit : (yN mX4_isDigit).cls ≠ "java/lang/invoke/MethodHandle" ∧ (yN mX4_isDigit).cls ≠ "java/lang/invoke/VarHandle" ∧ (parseMethodDescriptor (yN mX4_isDigit).desc).map (fun d => d.parameters.length) = some 1 := by decide +kernel
theorem cd_X4_fail : Cond.code (yN mX4_fail) (yC mX4_fail) (yL mX4_fail) (yR mX4_fail) ∈ zGW := zGW_of 505 (by decide +kernel)
theorem im_X4_fail : Cond.instanceMethod (yN mX4_fail) ∈ zGW := zGW_of 504 (by decide +kernel)
theorem sl_X4_fail : Cond.selects (yN mX4_fail).cls (yN mX4_fail) (yN mX4_fail) ∈ zGW := zGW_of 5 (by decide +kernel)
theorem np_X4_fail : (yN mX4_fail).cls ≠ "java/lang/invoke/MethodHandle" ∧ (yN mX4_fail).cls ≠ "java/lang/invoke/VarHandle" ∧ (parseMethodDescriptor (yN mX4_fail).desc).map (fun d => d.parameters.length) = some 2 := by decide +kernel
theorem cd_X5_init : Cond.code (yN mX5_init) (yC mX5_init) (yL mX5_init) (yR mX5_init) ∈ zGW := zGW_of 223 (by decide +kernel)
theorem im_X5_init : Cond.instanceMethod (yN mX5_init) ∈ zGW := zGW_of 222 (by decide +kernel)
theorem iw_X5_init : Cond.initialized (yN mX5_init).cls ∈ zGW := zGW_of 88 (by decide +kernel)
theorem np_X5_init : (yN mX5_init).cls ≠ "java/lang/invoke/MethodHandle" ∧ (yN mX5_init).cls ≠ "java/lang/invoke/VarHandle" ∧ (parseMethodDescriptor (yN mX5_init).desc).map (fun d => d.parameters.length) = some 0 := by decide +kernel
theorem cd_X5_copyFrom : Cond.code (yN mX5_copyFrom) (yC mX5_copyFrom) (yL mX5_copyFrom) (yR mX5_copyFrom) ∈ zGW := zGW_of 588 (by decide +kernel)
theorem im_X5_copyFrom : Cond.instanceMethod (yN mX5_copyFrom) ∈ zGW := zGW_of 586 (by decide +kernel)
theorem sl_X5_copyFrom : Cond.selects (yN mX5_copyFrom).cls (yN mX5_copyFrom) (yN mX5_copyFrom) ∈ zGW := zGW_of 587 (by decide +kernel)
theorem np_X5_copyFrom : (yN mX5_copyFrom).cls ≠ "java/lang/invoke/MethodHandle" ∧ (yN mX5_copyFrom).cls ≠ "java/lang/invoke/VarHandle" ∧ (parseMethodDescriptor (yN mX5_copyFrom).desc).map (fun d => d.parameters.length) = some 1 := by decide +kernel
theorem cd_X5_startAs : Cond.code (yN mX5_startAs) (yC mX5_startAs) (yL mX5_startAs) (yR mX5_startAs) ∈ zGW := zGW_of 385 (by decide +kernel)
theorem im_X5_startAs : Cond.instanceMethod (yN mX5_startAs) ∈ zGW := zGW_of 383 (by decide +kernel)
theorem sl_X5_startAs : Cond.selects (yN mX5_startAs).cls (yN mX5_startAs) (yN mX5_startAs) ∈ zGW := zGW_of 384 (by decide +kernel)
theorem np_X5_startAs : (yN mX5_startAs).cls ≠ "java/lang/invoke/MethodHandle" ∧ (yN mX5_startAs).cls ≠ "java/lang/invoke/VarHandle" ∧ (parseMethodDescriptor (yN mX5_startAs).desc).map (fun d => d.parameters.length) = some 2 := by decide +kernel
theorem cd_X5_startAsNew : Cond.code (yN mX5_startAsNew) (yC mX5_startAsNew) (yL mX5_startAsNew) (yR mX5_startAsNew) ∈ zGW := zGW_of 381 (by decide +kernel)
theorem im_X5_startAsNew : Cond.instanceMethod (yN mX5_startAsNew) ∈ zGW := zGW_of 379 (by decide +kernel)
theorem sl_X5_startAsNew : Cond.selects (yN mX5_startAsNew).cls (yN mX5_startAsNew) (yN mX5_startAsNew) ∈ zGW := zGW_of 380 (by decide +kernel)
theorem np_X5_startAsNew : (yN mX5_startAsNew).cls ≠ "java/lang/invoke/MethodHandle" ∧ (yN mX5_startAsNew).cls ≠ "java/lang/invoke/VarHandle" ∧ (parseMethodDescriptor (yN mX5_startAsNew).desc).map (fun d => d.parameters.length) = some 0 := by decide +kernel
theorem cd_X5_phaseAhead : Cond.code (yN mX5_phaseAhead) (yC mX5_phaseAhead) (yL mX5_phaseAhead) (yR mX5_phaseAhead) ∈ zGW := zGW_of 654 (by decide +kernel)
theorem im_X5_phaseAhead : Cond.instanceMethod (yN mX5_phaseAhead) ∈ zGW := zGW_of 652 (by decide +kernel)
theorem sl_X5_phaseAhead : Cond.selects (yN mX5_phaseAhead).cls (yN mX5_phaseAhead) (yN mX5_phaseAhead) ∈ zGW := zGW_of 653 (by decide +kernel)
theorem np_X5_phaseAhead : (yN mX5_phaseAhead).cls ≠ "java/lang/invoke/MethodHandle" ∧ (yN mX5_phaseAhead).cls ≠ "java/lang/invoke/VarHandle" ∧ (parseMethodDescriptor (yN mX5_phaseAhead).desc).map (fun d => d.parameters.length) = some 1 := by decide +kernel
theorem cd_X5_tierNamed : Cond.code (yN mX5_tierNamed) (yC mX5_tierNamed) (yL mX5_tierNamed) (yR mX5_tierNamed) ∈ zGW := zGW_of 537 (by decide +kernel)
theorem im_X5_tierNamed : Cond.instanceMethod (yN mX5_tierNamed) ∈ zGW := zGW_of 535 (by decide +kernel)
theorem sl_X5_tierNamed : Cond.selects (yN mX5_tierNamed).cls (yN mX5_tierNamed) (yN mX5_tierNamed) ∈ zGW := zGW_of 536 (by decide +kernel)
theorem np_X5_tierNamed : (yN mX5_tierNamed).cls ≠ "java/lang/invoke/MethodHandle" ∧ (yN mX5_tierNamed).cls ≠ "java/lang/invoke/VarHandle" ∧ (parseMethodDescriptor (yN mX5_tierNamed).desc).map (fun d => d.parameters.length) = some 1 := by decide +kernel
theorem cd_X5_fileNamed : Cond.code (yN mX5_fileNamed) (yC mX5_fileNamed) (yL mX5_fileNamed) (yR mX5_fileNamed) ∈ zGW := zGW_of 558 (by decide +kernel)
theorem im_X5_fileNamed : Cond.instanceMethod (yN mX5_fileNamed) ∈ zGW := zGW_of 556 (by decide +kernel)
theorem sl_X5_fileNamed : Cond.selects (yN mX5_fileNamed).cls (yN mX5_fileNamed) (yN mX5_fileNamed) ∈ zGW := zGW_of 557 (by decide +kernel)
theorem np_X5_fileNamed : (yN mX5_fileNamed).cls ≠ "java/lang/invoke/MethodHandle" ∧ (yN mX5_fileNamed).cls ≠ "java/lang/invoke/VarHandle" ∧ (parseMethodDescriptor (yN mX5_fileNamed).desc).map (fun d => d.parameters.length) = some 1 := by decide +kernel
theorem cd_X5_pinnedFiles : Cond.code (yN mX5_pinnedFiles) (yC mX5_pinnedFiles) (yL mX5_pinnedFiles) (yR mX5_pinnedFiles) ∈ zGW := zGW_of 806 (by decide +kernel)
theorem im_X5_pinnedFiles : Cond.instanceMethod (yN mX5_pinnedFiles) ∈ zGW := zGW_of 804 (by decide +kernel)
theorem sl_X5_pinnedFiles : Cond.selects (yN mX5_pinnedFiles).cls (yN mX5_pinnedFiles) (yN mX5_pinnedFiles) ∈ zGW := zGW_of 805 (by decide +kernel)
theorem np_X5_pinnedFiles : (yN mX5_pinnedFiles).cls ≠ "java/lang/invoke/MethodHandle" ∧ (yN mX5_pinnedFiles).cls ≠ "java/lang/invoke/VarHandle" ∧ (parseMethodDescriptor (yN mX5_pinnedFiles).desc).map (fun d => d.parameters.length) = some 0 := by decide +kernel
theorem cd_X5_sizeOfAll : Cond.code (yN mX5_sizeOfAll) (yC mX5_sizeOfAll) (yL mX5_sizeOfAll) (yR mX5_sizeOfAll) ∈ zGW := zGW_of 814 (by decide +kernel)
theorem im_X5_sizeOfAll : Cond.instanceMethod (yN mX5_sizeOfAll) ∈ zGW := zGW_of 812 (by decide +kernel)
theorem sl_X5_sizeOfAll : Cond.selects (yN mX5_sizeOfAll).cls (yN mX5_sizeOfAll) (yN mX5_sizeOfAll) ∈ zGW := zGW_of 813 (by decide +kernel)
theorem np_X5_sizeOfAll : (yN mX5_sizeOfAll).cls ≠ "java/lang/invoke/MethodHandle" ∧ (yN mX5_sizeOfAll).cls ≠ "java/lang/invoke/VarHandle" ∧ (parseMethodDescriptor (yN mX5_sizeOfAll).desc).map (fun d => d.parameters.length) = some 0 := by decide +kernel
theorem cd_X5_sizeOn : Cond.code (yN mX5_sizeOn) (yC mX5_sizeOn) (yL mX5_sizeOn) (yR mX5_sizeOn) ∈ zGW := zGW_of 567 (by decide +kernel)
theorem im_X5_sizeOn : Cond.instanceMethod (yN mX5_sizeOn) ∈ zGW := zGW_of 565 (by decide +kernel)
theorem sl_X5_sizeOn : Cond.selects (yN mX5_sizeOn).cls (yN mX5_sizeOn) (yN mX5_sizeOn) ∈ zGW := zGW_of 566 (by decide +kernel)
theorem np_X5_sizeOn : (yN mX5_sizeOn).cls ≠ "java/lang/invoke/MethodHandle" ∧ (yN mX5_sizeOn).cls ≠ "java/lang/invoke/VarHandle" ∧ (parseMethodDescriptor (yN mX5_sizeOn).desc).map (fun d => d.parameters.length) = some 1 := by decide +kernel
theorem cd_X5_filesOn : Cond.code (yN mX5_filesOn) (yC mX5_filesOn) (yL mX5_filesOn) (yR mX5_filesOn) ∈ zGW := zGW_of 861 (by decide +kernel)
theorem im_X5_filesOn : Cond.instanceMethod (yN mX5_filesOn) ∈ zGW := zGW_of 859 (by decide +kernel)
theorem sl_X5_filesOn : Cond.selects (yN mX5_filesOn).cls (yN mX5_filesOn) (yN mX5_filesOn) ∈ zGW := zGW_of 860 (by decide +kernel)
theorem np_X5_filesOn : (yN mX5_filesOn).cls ≠ "java/lang/invoke/MethodHandle" ∧ (yN mX5_filesOn).cls ≠ "java/lang/invoke/VarHandle" ∧ (parseMethodDescriptor (yN mX5_filesOn).desc).map (fun d => d.parameters.length) = some 1 := by decide +kernel
theorem cd_X5_mostUsedOn : Cond.code (yN mX5_mostUsedOn) (yC mX5_mostUsedOn) (yL mX5_mostUsedOn) (yR mX5_mostUsedOn) ∈ zGW := zGW_of 865 (by decide +kernel)
theorem im_X5_mostUsedOn : Cond.instanceMethod (yN mX5_mostUsedOn) ∈ zGW := zGW_of 863 (by decide +kernel)
theorem sl_X5_mostUsedOn : Cond.selects (yN mX5_mostUsedOn).cls (yN mX5_mostUsedOn) (yN mX5_mostUsedOn) ∈ zGW := zGW_of 864 (by decide +kernel)
theorem np_X5_mostUsedOn : (yN mX5_mostUsedOn).cls ≠ "java/lang/invoke/MethodHandle" ∧ (yN mX5_mostUsedOn).cls ≠ "java/lang/invoke/VarHandle" ∧ (parseMethodDescriptor (yN mX5_mostUsedOn).desc).map (fun d => d.parameters.length) = some 1 := by decide +kernel
theorem cd_X5_hasRoomFor : Cond.code (yN mX5_hasRoomFor) (yC mX5_hasRoomFor) (yL mX5_hasRoomFor) (yR mX5_hasRoomFor) ∈ zGW := zGW_of 563 (by decide +kernel)
theorem im_X5_hasRoomFor : Cond.instanceMethod (yN mX5_hasRoomFor) ∈ zGW := zGW_of 561 (by decide +kernel)
theorem sl_X5_hasRoomFor : Cond.selects (yN mX5_hasRoomFor).cls (yN mX5_hasRoomFor) (yN mX5_hasRoomFor) ∈ zGW := zGW_of 562 (by decide +kernel)
theorem np_X5_hasRoomFor : (yN mX5_hasRoomFor).cls ≠ "java/lang/invoke/MethodHandle" ∧ (yN mX5_hasRoomFor).cls ≠ "java/lang/invoke/VarHandle" ∧ (parseMethodDescriptor (yN mX5_hasRoomFor).desc).map (fun d => d.parameters.length) = some 2 := by decide +kernel
theorem cd_X5_paidOnAll : Cond.code (yN mX5_paidOnAll) (yC mX5_paidOnAll) (yL mX5_paidOnAll) (yR mX5_paidOnAll) ∈ zGW := zGW_of 637 (by decide +kernel)
theorem im_X5_paidOnAll : Cond.instanceMethod (yN mX5_paidOnAll) ∈ zGW := zGW_of 635 (by decide +kernel)
theorem sl_X5_paidOnAll : Cond.selects (yN mX5_paidOnAll).cls (yN mX5_paidOnAll) (yN mX5_paidOnAll) ∈ zGW := zGW_of 636 (by decide +kernel)
theorem np_X5_paidOnAll : (yN mX5_paidOnAll).cls ≠ "java/lang/invoke/MethodHandle" ∧ (yN mX5_paidOnAll).cls ≠ "java/lang/invoke/VarHandle" ∧ (parseMethodDescriptor (yN mX5_paidOnAll).desc).map (fun d => d.parameters.length) = some 1 := by decide +kernel
theorem cd_X5_forecastSum : Cond.code (yN mX5_forecastSum) (yC mX5_forecastSum) (yL mX5_forecastSum) (yR mX5_forecastSum) ∈ zGW := zGW_of 950 (by decide +kernel)
theorem im_X5_forecastSum : Cond.instanceMethod (yN mX5_forecastSum) ∈ zGW := zGW_of 948 (by decide +kernel)
theorem sl_X5_forecastSum : Cond.selects (yN mX5_forecastSum).cls (yN mX5_forecastSum) (yN mX5_forecastSum) ∈ zGW := zGW_of 949 (by decide +kernel)
theorem np_X5_forecastSum : (yN mX5_forecastSum).cls ≠ "java/lang/invoke/MethodHandle" ∧ (yN mX5_forecastSum).cls ≠ "java/lang/invoke/VarHandle" ∧ (parseMethodDescriptor (yN mX5_forecastSum).desc).map (fun d => d.parameters.length) = some 2 := by decide +kernel
theorem cd_X5_costOn : Cond.code (yN mX5_costOn) (yC mX5_costOn) (yL mX5_costOn) (yR mX5_costOn) ∈ zGW := zGW_of 955 (by decide +kernel)
theorem im_X5_costOn : Cond.instanceMethod (yN mX5_costOn) ∈ zGW := zGW_of 953 (by decide +kernel)
theorem sl_X5_costOn : Cond.selects (yN mX5_costOn).cls (yN mX5_costOn) (yN mX5_costOn) ∈ zGW := zGW_of 954 (by decide +kernel)
theorem np_X5_costOn : (yN mX5_costOn).cls ≠ "java/lang/invoke/MethodHandle" ∧ (yN mX5_costOn).cls ≠ "java/lang/invoke/VarHandle" ∧ (parseMethodDescriptor (yN mX5_costOn).desc).map (fun d => d.parameters.length) = some 4 := by decide +kernel
theorem cd_X5_moveCost : Cond.code (yN mX5_moveCost) (yC mX5_moveCost) (yL mX5_moveCost) (yR mX5_moveCost) ∈ zGW := zGW_of 977 (by decide +kernel)
theorem im_X5_moveCost : Cond.instanceMethod (yN mX5_moveCost) ∈ zGW := zGW_of 975 (by decide +kernel)
theorem sl_X5_moveCost : Cond.selects (yN mX5_moveCost).cls (yN mX5_moveCost) (yN mX5_moveCost) ∈ zGW := zGW_of 976 (by decide +kernel)
theorem np_X5_moveCost : (yN mX5_moveCost).cls ≠ "java/lang/invoke/MethodHandle" ∧ (yN mX5_moveCost).cls ≠ "java/lang/invoke/VarHandle" ∧ (parseMethodDescriptor (yN mX5_moveCost).desc).map (fun d => d.parameters.length) = some 3 := by decide +kernel
theorem cd_X5_putTier : Cond.code (yN mX5_putTier) (yC mX5_putTier) (yL mX5_putTier) (yR mX5_putTier) ∈ zGW := zGW_of 392 (by decide +kernel)
theorem im_X5_putTier : Cond.instanceMethod (yN mX5_putTier) ∈ zGW := zGW_of 390 (by decide +kernel)
theorem sl_X5_putTier : Cond.selects (yN mX5_putTier).cls (yN mX5_putTier) (yN mX5_putTier) ∈ zGW := zGW_of 391 (by decide +kernel)
theorem np_X5_putTier : (yN mX5_putTier).cls ≠ "java/lang/invoke/MethodHandle" ∧ (yN mX5_putTier).cls ≠ "java/lang/invoke/VarHandle" ∧ (parseMethodDescriptor (yN mX5_putTier).desc).map (fun d => d.parameters.length) = some 1 := by decide +kernel
theorem cd_X5_putFile : Cond.code (yN mX5_putFile) (yC mX5_putFile) (yL mX5_putFile) (yR mX5_putFile) ∈ zGW := zGW_of 572 (by decide +kernel)
theorem im_X5_putFile : Cond.instanceMethod (yN mX5_putFile) ∈ zGW := zGW_of 570 (by decide +kernel)
theorem sl_X5_putFile : Cond.selects (yN mX5_putFile).cls (yN mX5_putFile) (yN mX5_putFile) ∈ zGW := zGW_of 571 (by decide +kernel)
theorem np_X5_putFile : (yN mX5_putFile).cls ≠ "java/lang/invoke/MethodHandle" ∧ (yN mX5_putFile).cls ≠ "java/lang/invoke/VarHandle" ∧ (parseMethodDescriptor (yN mX5_putFile).desc).map (fun d => d.parameters.length) = some 4 := by decide +kernel
theorem cd_X5_removeFile : Cond.code (yN mX5_removeFile) (yC mX5_removeFile) (yL mX5_removeFile) (yR mX5_removeFile) ∈ zGW := zGW_of 1055 (by decide +kernel)
theorem im_X5_removeFile : Cond.instanceMethod (yN mX5_removeFile) ∈ zGW := zGW_of 1053 (by decide +kernel)
theorem sl_X5_removeFile : Cond.selects (yN mX5_removeFile).cls (yN mX5_removeFile) (yN mX5_removeFile) ∈ zGW := zGW_of 1054 (by decide +kernel)
theorem np_X5_removeFile : (yN mX5_removeFile).cls ≠ "java/lang/invoke/MethodHandle" ∧ (yN mX5_removeFile).cls ≠ "java/lang/invoke/VarHandle" ∧ (parseMethodDescriptor (yN mX5_removeFile).desc).map (fun d => d.parameters.length) = some 1 := by decide +kernel
theorem cd_X5_endPeriod : Cond.code (yN mX5_endPeriod) (yC mX5_endPeriod) (yL mX5_endPeriod) (yR mX5_endPeriod) ∈ zGW := zGW_of 650 (by decide +kernel)
theorem im_X5_endPeriod : Cond.instanceMethod (yN mX5_endPeriod) ∈ zGW := zGW_of 648 (by decide +kernel)
theorem sl_X5_endPeriod : Cond.selects (yN mX5_endPeriod).cls (yN mX5_endPeriod) (yN mX5_endPeriod) ∈ zGW := zGW_of 649 (by decide +kernel)
theorem np_X5_endPeriod : (yN mX5_endPeriod).cls ≠ "java/lang/invoke/MethodHandle" ∧ (yN mX5_endPeriod).cls ≠ "java/lang/invoke/VarHandle" ∧ (parseMethodDescriptor (yN mX5_endPeriod).desc).map (fun d => d.parameters.length) = some 0 := by decide +kernel
theorem cd_X5_payFor : Cond.code (yN mX5_payFor) (yC mX5_payFor) (yL mX5_payFor) (yR mX5_payFor) ∈ zGW := zGW_of 658 (by decide +kernel)
theorem im_X5_payFor : Cond.instanceMethod (yN mX5_payFor) ∈ zGW := zGW_of 656 (by decide +kernel)
theorem sl_X5_payFor : Cond.selects (yN mX5_payFor).cls (yN mX5_payFor) (yN mX5_payFor) ∈ zGW := zGW_of 657 (by decide +kernel)
theorem np_X5_payFor : (yN mX5_payFor).cls ≠ "java/lang/invoke/MethodHandle" ∧ (yN mX5_payFor).cls ≠ "java/lang/invoke/VarHandle" ∧ (parseMethodDescriptor (yN mX5_payFor).desc).map (fun d => d.parameters.length) = some 1 := by decide +kernel
theorem cd_X5_carry : Cond.code (yN mX5_carry) (yC mX5_carry) (yL mX5_carry) (yR mX5_carry) ∈ zGW := zGW_of 1081 (by decide +kernel)
theorem im_X5_carry : Cond.instanceMethod (yN mX5_carry) ∈ zGW := zGW_of 1079 (by decide +kernel)
theorem sl_X5_carry : Cond.selects (yN mX5_carry).cls (yN mX5_carry) (yN mX5_carry) ∈ zGW := zGW_of 1080 (by decide +kernel)
theorem np_X5_carry : (yN mX5_carry).cls ≠ "java/lang/invoke/MethodHandle" ∧ (yN mX5_carry).cls ≠ "java/lang/invoke/VarHandle" ∧ (parseMethodDescriptor (yN mX5_carry).desc).map (fun d => d.parameters.length) = some 2 := by decide +kernel
theorem cd_X5_carryBack : Cond.code (yN mX5_carryBack) (yC mX5_carryBack) (yL mX5_carryBack) (yR mX5_carryBack) ∈ zGW := zGW_of 695 (by decide +kernel)
theorem im_X5_carryBack : Cond.instanceMethod (yN mX5_carryBack) ∈ zGW := zGW_of 693 (by decide +kernel)
theorem sl_X5_carryBack : Cond.selects (yN mX5_carryBack).cls (yN mX5_carryBack) (yN mX5_carryBack) ∈ zGW := zGW_of 694 (by decide +kernel)
theorem np_X5_carryBack : (yN mX5_carryBack).cls ≠ "java/lang/invoke/MethodHandle" ∧ (yN mX5_carryBack).cls ≠ "java/lang/invoke/VarHandle" ∧ (parseMethodDescriptor (yN mX5_carryBack).desc).map (fun d => d.parameters.length) = some 0 := by decide +kernel
theorem cd_X5_learnAgain : Cond.code (yN mX5_learnAgain) (yC mX5_learnAgain) (yL mX5_learnAgain) (yR mX5_learnAgain) ∈ zGW := zGW_of 1115 (by decide +kernel)
theorem im_X5_learnAgain : Cond.instanceMethod (yN mX5_learnAgain) ∈ zGW := zGW_of 1113 (by decide +kernel)
theorem sl_X5_learnAgain : Cond.selects (yN mX5_learnAgain).cls (yN mX5_learnAgain) (yN mX5_learnAgain) ∈ zGW := zGW_of 1114 (by decide +kernel)
theorem np_X5_learnAgain : (yN mX5_learnAgain).cls ≠ "java/lang/invoke/MethodHandle" ∧ (yN mX5_learnAgain).cls ≠ "java/lang/invoke/VarHandle" ∧ (parseMethodDescriptor (yN mX5_learnAgain).desc).map (fun d => d.parameters.length) = some 2 := by decide +kernel
theorem cd_X6_init : Cond.code (yN mX6_init) (yC mX6_init) (yL mX6_init) (yR mX6_init) ∈ zGW := zGW_of 247 (by decide +kernel)
theorem im_X6_init : Cond.instanceMethod (yN mX6_init) ∈ zGW := zGW_of 246 (by decide +kernel)
theorem iw_X6_init : Cond.initialized (yN mX6_init).cls ∈ zGW := zGW_of 90 (by decide +kernel)
theorem np_X6_init : (yN mX6_init).cls ≠ "java/lang/invoke/MethodHandle" ∧ (yN mX6_init).cls ≠ "java/lang/invoke/VarHandle" ∧ (parseMethodDescriptor (yN mX6_init).desc).map (fun d => d.parameters.length) = some 0 := by decide +kernel
theorem cd_X6_copyFrom : Cond.code (yN mX6_copyFrom) (yC mX6_copyFrom) (yL mX6_copyFrom) (yR mX6_copyFrom) ∈ zGW := zGW_of 592 (by decide +kernel)
theorem im_X6_copyFrom : Cond.instanceMethod (yN mX6_copyFrom) ∈ zGW := zGW_of 590 (by decide +kernel)
theorem sl_X6_copyFrom : Cond.selects (yN mX6_copyFrom).cls (yN mX6_copyFrom) (yN mX6_copyFrom) ∈ zGW := zGW_of 591 (by decide +kernel)
theorem np_X6_copyFrom : (yN mX6_copyFrom).cls ≠ "java/lang/invoke/MethodHandle" ∧ (yN mX6_copyFrom).cls ≠ "java/lang/invoke/VarHandle" ∧ (parseMethodDescriptor (yN mX6_copyFrom).desc).map (fun d => d.parameters.length) = some 1 := by decide +kernel
theorem cd_X6_startAs : Cond.code (yN mX6_startAs) (yC mX6_startAs) (yL mX6_startAs) (yR mX6_startAs) ∈ zGW := zGW_of 396 (by decide +kernel)
theorem im_X6_startAs : Cond.instanceMethod (yN mX6_startAs) ∈ zGW := zGW_of 394 (by decide +kernel)
theorem sl_X6_startAs : Cond.selects (yN mX6_startAs).cls (yN mX6_startAs) (yN mX6_startAs) ∈ zGW := zGW_of 395 (by decide +kernel)
theorem np_X6_startAs : (yN mX6_startAs).cls ≠ "java/lang/invoke/MethodHandle" ∧ (yN mX6_startAs).cls ≠ "java/lang/invoke/VarHandle" ∧ (parseMethodDescriptor (yN mX6_startAs).desc).map (fun d => d.parameters.length) = some 1 := by decide +kernel
theorem cd_X6_paidFor : Cond.code (yN mX6_paidFor) (yC mX6_paidFor) (yL mX6_paidFor) (yR mX6_paidFor) ∈ zGW := zGW_of 641 (by decide +kernel)
theorem im_X6_paidFor : Cond.instanceMethod (yN mX6_paidFor) ∈ zGW := zGW_of 639 (by decide +kernel)
theorem sl_X6_paidFor : Cond.selects (yN mX6_paidFor).cls (yN mX6_paidFor) (yN mX6_paidFor) ∈ zGW := zGW_of 640 (by decide +kernel)
theorem np_X6_paidFor : (yN mX6_paidFor).cls ≠ "java/lang/invoke/MethodHandle" ∧ (yN mX6_paidFor).cls ≠ "java/lang/invoke/VarHandle" ∧ (parseMethodDescriptor (yN mX6_paidFor).desc).map (fun d => d.parameters.length) = some 1 := by decide +kernel
theorem cd_X7_init : Cond.code (yN mX7_init) (yC mX7_init) (yL mX7_init) (yR mX7_init) ∈ zGW := zGW_of 151 (by decide +kernel)
theorem im_X7_init : Cond.instanceMethod (yN mX7_init) ∈ zGW := zGW_of 150 (by decide +kernel)
theorem iw_X7_init : Cond.initialized (yN mX7_init).cls ∈ zGW := zGW_of 85 (by decide +kernel)
theorem np_X7_init : (yN mX7_init).cls ≠ "java/lang/invoke/MethodHandle" ∧ (yN mX7_init).cls ≠ "java/lang/invoke/VarHandle" ∧ (parseMethodDescriptor (yN mX7_init).desc).map (fun d => d.parameters.length) = some 0 := by decide +kernel
theorem cd_X7_withLetter : Cond.code (yN mX7_withLetter) (yC mX7_withLetter) (yL mX7_withLetter) (yR mX7_withLetter) ∈ zGW := zGW_of 388 (by decide +kernel)
theorem st_X7_withLetter : Cond.static (yN mX7_withLetter) ∈ zGW := zGW_of 387 (by decide +kernel)
theorem np_X7_withLetter : (yN mX7_withLetter).cls ≠ "java/lang/invoke/MethodHandle" ∧ (yN mX7_withLetter).cls ≠ "java/lang/invoke/VarHandle" ∧ (parseMethodDescriptor (yN mX7_withLetter).desc).map (fun d => d.parameters.length) = some 2 := by decide +kernel
theorem cd_X7_writeStore : Cond.code (yN mX7_writeStore) (yC mX7_writeStore) (yL mX7_writeStore) (yR mX7_writeStore) ∈ zGW := zGW_of 704 (by decide +kernel)
theorem im_X7_writeStore : Cond.instanceMethod (yN mX7_writeStore) ∈ zGW := zGW_of 702 (by decide +kernel)
theorem sl_X7_writeStore : Cond.selects (yN mX7_writeStore).cls (yN mX7_writeStore) (yN mX7_writeStore) ∈ zGW := zGW_of 703 (by decide +kernel)
theorem np_X7_writeStore : (yN mX7_writeStore).cls ≠ "java/lang/invoke/MethodHandle" ∧ (yN mX7_writeStore).cls ≠ "java/lang/invoke/VarHandle" ∧ (parseMethodDescriptor (yN mX7_writeStore).desc).map (fun d => d.parameters.length) = some 1 := by decide +kernel
theorem cd_X7_putFilesOn : Cond.code (yN mX7_putFilesOn) (yC mX7_putFilesOn) (yL mX7_putFilesOn) (yR mX7_putFilesOn) ∈ zGW := zGW_of 716 (by decide +kernel)
theorem im_X7_putFilesOn : Cond.instanceMethod (yN mX7_putFilesOn) ∈ zGW := zGW_of 715 (by decide +kernel)
theorem sl_X7_putFilesOn : Cond.selects (yN mX7_putFilesOn).cls (yN mX7_putFilesOn) (yN mX7_putFilesOn) ∈ zGW := zGW_of 15 (by decide +kernel)
theorem np_X7_putFilesOn : (yN mX7_putFilesOn).cls ≠ "java/lang/invoke/MethodHandle" ∧ (yN mX7_putFilesOn).cls ≠ "java/lang/invoke/VarHandle" ∧ (parseMethodDescriptor (yN mX7_putFilesOn).desc).map (fun d => d.parameters.length) = some 2 := by decide +kernel
theorem cd_X7_putName : Cond.code (yN mX7_putName) (yC mX7_putName) (yL mX7_putName) (yR mX7_putName) ∈ zGW := zGW_of 712 (by decide +kernel)
theorem im_X7_putName : Cond.instanceMethod (yN mX7_putName) ∈ zGW := zGW_of 711 (by decide +kernel)
theorem sl_X7_putName : Cond.selects (yN mX7_putName).cls (yN mX7_putName) (yN mX7_putName) ∈ zGW := zGW_of 14 (by decide +kernel)
theorem np_X7_putName : (yN mX7_putName).cls ≠ "java/lang/invoke/MethodHandle" ∧ (yN mX7_putName).cls ≠ "java/lang/invoke/VarHandle" ∧ (parseMethodDescriptor (yN mX7_putName).desc).map (fun d => d.parameters.length) = some 1 := by decide +kernel
theorem cd_X7_putByte : Cond.code (yN mX7_putByte) (yC mX7_putByte) (yL mX7_putByte) (yR mX7_putByte) ∈ zGW := zGW_of 708 (by decide +kernel)
theorem im_X7_putByte : Cond.instanceMethod (yN mX7_putByte) ∈ zGW := zGW_of 707 (by decide +kernel)
theorem sl_X7_putByte : Cond.selects (yN mX7_putByte).cls (yN mX7_putByte) (yN mX7_putByte) ∈ zGW := zGW_of 13 (by decide +kernel)
theorem np_X7_putByte : (yN mX7_putByte).cls ≠ "java/lang/invoke/MethodHandle" ∧ (yN mX7_putByte).cls ≠ "java/lang/invoke/VarHandle" ∧ (parseMethodDescriptor (yN mX7_putByte).desc).map (fun d => d.parameters.length) = some 1 := by decide +kernel
theorem cd_X8_init : Cond.code (yN mX8_init) (yC mX8_init) (yL mX8_init) (yR mX8_init) ∈ zGW := zGW_of 109 (by decide +kernel)
theorem im_X8_init : Cond.instanceMethod (yN mX8_init) ∈ zGW := zGW_of 108 (by decide +kernel)
theorem iw_X8_init : Cond.initialized (yN mX8_init).cls ∈ zGW := zGW_of 83 (by decide +kernel)
theorem np_X8_init : (yN mX8_init).cls ≠ "java/lang/invoke/MethodHandle" ∧ (yN mX8_init).cls ≠ "java/lang/invoke/VarHandle" ∧ (parseMethodDescriptor (yN mX8_init).desc).map (fun d => d.parameters.length) = some 0 := by decide +kernel
theorem cd_X8_append : Cond.code (yN mX8_append) (yC mX8_append) (yL mX8_append) (yR mX8_append) ∈ zGW := zGW_of 724 (by decide +kernel)
theorem im_X8_append : Cond.instanceMethod (yN mX8_append) ∈ zGW := zGW_of 722 (by decide +kernel)
theorem sl_X8_append : Cond.selects (yN mX8_append).cls (yN mX8_append) (yN mX8_append) ∈ zGW := zGW_of 723 (by decide +kernel)
theorem np_X8_append : (yN mX8_append).cls ≠ "java/lang/invoke/MethodHandle" ∧ (yN mX8_append).cls ≠ "java/lang/invoke/VarHandle" ∧ (parseMethodDescriptor (yN mX8_append).desc).map (fun d => d.parameters.length) = some 5 := by decide +kernel
theorem cd_X8_load : Cond.code (yN mX8_load) (yC mX8_load) (yL mX8_load) (yR mX8_load) ∈ zGW := zGW_of 428 (by decide +kernel)
theorem im_X8_load : Cond.instanceMethod (yN mX8_load) ∈ zGW := zGW_of 426 (by decide +kernel)
theorem sl_X8_load : Cond.selects (yN mX8_load).cls (yN mX8_load) (yN mX8_load) ∈ zGW := zGW_of 427 (by decide +kernel)
theorem np_X8_load : (yN mX8_load).cls ≠ "java/lang/invoke/MethodHandle" ∧ (yN mX8_load).cls ≠ "java/lang/invoke/VarHandle" ∧ (parseMethodDescriptor (yN mX8_load).desc).map (fun d => d.parameters.length) = some 0 := by decide +kernel
theorem cd_X8_errorPosition : Cond.code (yN mX8_errorPosition) (yC mX8_errorPosition) (yL mX8_errorPosition) (yR mX8_errorPosition) ∈ zGW := zGW_of 610 (by decide +kernel)
theorem im_X8_errorPosition : Cond.instanceMethod (yN mX8_errorPosition) ∈ zGW := zGW_of 608 (by decide +kernel)
theorem sl_X8_errorPosition : Cond.selects (yN mX8_errorPosition).cls (yN mX8_errorPosition) (yN mX8_errorPosition) ∈ zGW := zGW_of 609 (by decide +kernel)
theorem np_X8_errorPosition : (yN mX8_errorPosition).cls ≠ "java/lang/invoke/MethodHandle" ∧ (yN mX8_errorPosition).cls ≠ "java/lang/invoke/VarHandle" ∧ (parseMethodDescriptor (yN mX8_errorPosition).desc).map (fun d => d.parameters.length) = some 0 := by decide +kernel
theorem cd_X8_count : Cond.code (yN mX8_count) (yC mX8_count) (yL mX8_count) (yR mX8_count) ∈ zGW := zGW_of 802 (by decide +kernel)
theorem im_X8_count : Cond.instanceMethod (yN mX8_count) ∈ zGW := zGW_of 800 (by decide +kernel)
theorem sl_X8_count : Cond.selects (yN mX8_count).cls (yN mX8_count) (yN mX8_count) ∈ zGW := zGW_of 801 (by decide +kernel)
theorem np_X8_count : (yN mX8_count).cls ≠ "java/lang/invoke/MethodHandle" ∧ (yN mX8_count).cls ≠ "java/lang/invoke/VarHandle" ∧ (parseMethodDescriptor (yN mX8_count).desc).map (fun d => d.parameters.length) = some 1 := by decide +kernel
theorem cd_X8_tier : Cond.code (yN mX8_tier) (yC mX8_tier) (yL mX8_tier) (yR mX8_tier) ∈ zGW := zGW_of 837 (by decide +kernel)
theorem im_X8_tier : Cond.instanceMethod (yN mX8_tier) ∈ zGW := zGW_of 835 (by decide +kernel)
theorem sl_X8_tier : Cond.selects (yN mX8_tier).cls (yN mX8_tier) (yN mX8_tier) ∈ zGW := zGW_of 836 (by decide +kernel)
theorem np_X8_tier : (yN mX8_tier).cls ≠ "java/lang/invoke/MethodHandle" ∧ (yN mX8_tier).cls ≠ "java/lang/invoke/VarHandle" ∧ (parseMethodDescriptor (yN mX8_tier).desc).map (fun d => d.parameters.length) = some 2 := by decide +kernel
theorem cd_X8_file : Cond.code (yN mX8_file) (yC mX8_file) (yL mX8_file) (yR mX8_file) ∈ zGW := zGW_of 873 (by decide +kernel)
theorem im_X8_file : Cond.instanceMethod (yN mX8_file) ∈ zGW := zGW_of 871 (by decide +kernel)
theorem sl_X8_file : Cond.selects (yN mX8_file).cls (yN mX8_file) (yN mX8_file) ∈ zGW := zGW_of 872 (by decide +kernel)
theorem np_X8_file : (yN mX8_file).cls ≠ "java/lang/invoke/MethodHandle" ∧ (yN mX8_file).cls ≠ "java/lang/invoke/VarHandle" ∧ (parseMethodDescriptor (yN mX8_file).desc).map (fun d => d.parameters.length) = some 2 := by decide +kernel
theorem cd_X8_season : Cond.code (yN mX8_season) (yC mX8_season) (yL mX8_season) (yR mX8_season) ∈ zGW := zGW_of 895 (by decide +kernel)
theorem im_X8_season : Cond.instanceMethod (yN mX8_season) ∈ zGW := zGW_of 893 (by decide +kernel)
theorem sl_X8_season : Cond.selects (yN mX8_season).cls (yN mX8_season) (yN mX8_season) ∈ zGW := zGW_of 894 (by decide +kernel)
theorem np_X8_season : (yN mX8_season).cls ≠ "java/lang/invoke/MethodHandle" ∧ (yN mX8_season).cls ≠ "java/lang/invoke/VarHandle" ∧ (parseMethodDescriptor (yN mX8_season).desc).map (fun d => d.parameters.length) = some 2 := by decide +kernel
theorem cd_X8_kept : Cond.code (yN mX8_kept) (yC mX8_kept) (yL mX8_kept) (yR mX8_kept) ∈ zGW := zGW_of 902 (by decide +kernel)
theorem im_X8_kept : Cond.instanceMethod (yN mX8_kept) ∈ zGW := zGW_of 900 (by decide +kernel)
theorem sl_X8_kept : Cond.selects (yN mX8_kept).cls (yN mX8_kept) (yN mX8_kept) ∈ zGW := zGW_of 901 (by decide +kernel)
theorem np_X8_kept : (yN mX8_kept).cls ≠ "java/lang/invoke/MethodHandle" ∧ (yN mX8_kept).cls ≠ "java/lang/invoke/VarHandle" ∧ (parseMethodDescriptor (yN mX8_kept).desc).map (fun d => d.parameters.length) = some 2 := by decide +kernel
theorem cd_X8_forecast : Cond.code (yN mX8_forecast) (yC mX8_forecast) (yL mX8_forecast) (yR mX8_forecast) ∈ zGW := zGW_of 909 (by decide +kernel)
theorem im_X8_forecast : Cond.instanceMethod (yN mX8_forecast) ∈ zGW := zGW_of 907 (by decide +kernel)
theorem sl_X8_forecast : Cond.selects (yN mX8_forecast).cls (yN mX8_forecast) (yN mX8_forecast) ∈ zGW := zGW_of 908 (by decide +kernel)
theorem np_X8_forecast : (yN mX8_forecast).cls ≠ "java/lang/invoke/MethodHandle" ∧ (yN mX8_forecast).cls ≠ "java/lang/invoke/VarHandle" ∧ (parseMethodDescriptor (yN mX8_forecast).desc).map (fun d => d.parameters.length) = some 2 := by decide +kernel
theorem cd_X8_off : Cond.code (yN mX8_off) (yC mX8_off) (yL mX8_off) (yR mX8_off) ∈ zGW := zGW_of 918 (by decide +kernel)
theorem im_X8_off : Cond.instanceMethod (yN mX8_off) ∈ zGW := zGW_of 916 (by decide +kernel)
theorem sl_X8_off : Cond.selects (yN mX8_off).cls (yN mX8_off) (yN mX8_off) ∈ zGW := zGW_of 917 (by decide +kernel)
theorem np_X8_off : (yN mX8_off).cls ≠ "java/lang/invoke/MethodHandle" ∧ (yN mX8_off).cls ≠ "java/lang/invoke/VarHandle" ∧ (parseMethodDescriptor (yN mX8_off).desc).map (fun d => d.parameters.length) = some 1 := by decide +kernel
theorem cd_X8_meanOff : Cond.code (yN mX8_meanOff) (yC mX8_meanOff) (yL mX8_meanOff) (yR mX8_meanOff) ∈ zGW := zGW_of 614 (by decide +kernel)
theorem im_X8_meanOff : Cond.instanceMethod (yN mX8_meanOff) ∈ zGW := zGW_of 612 (by decide +kernel)
theorem sl_X8_meanOff : Cond.selects (yN mX8_meanOff).cls (yN mX8_meanOff) (yN mX8_meanOff) ∈ zGW := zGW_of 613 (by decide +kernel)
theorem np_X8_meanOff : (yN mX8_meanOff).cls ≠ "java/lang/invoke/MethodHandle" ∧ (yN mX8_meanOff).cls ≠ "java/lang/invoke/VarHandle" ∧ (parseMethodDescriptor (yN mX8_meanOff).desc).map (fun d => d.parameters.length) = some 0 := by decide +kernel
theorem cd_X8_cycleOf : Cond.code (yN mX8_cycleOf) (yC mX8_cycleOf) (yL mX8_cycleOf) (yR mX8_cycleOf) ∈ zGW := zGW_of 925 (by decide +kernel)
theorem im_X8_cycleOf : Cond.instanceMethod (yN mX8_cycleOf) ∈ zGW := zGW_of 923 (by decide +kernel)
theorem sl_X8_cycleOf : Cond.selects (yN mX8_cycleOf).cls (yN mX8_cycleOf) (yN mX8_cycleOf) ∈ zGW := zGW_of 924 (by decide +kernel)
theorem np_X8_cycleOf : (yN mX8_cycleOf).cls ≠ "java/lang/invoke/MethodHandle" ∧ (yN mX8_cycleOf).cls ≠ "java/lang/invoke/VarHandle" ∧ (parseMethodDescriptor (yN mX8_cycleOf).desc).map (fun d => d.parameters.length) = some 1 := by decide +kernel
theorem cd_X8_commonCycle : Cond.code (yN mX8_commonCycle) (yC mX8_commonCycle) (yL mX8_commonCycle) (yR mX8_commonCycle) ∈ zGW := zGW_of 618 (by decide +kernel)
theorem im_X8_commonCycle : Cond.instanceMethod (yN mX8_commonCycle) ∈ zGW := zGW_of 616 (by decide +kernel)
theorem sl_X8_commonCycle : Cond.selects (yN mX8_commonCycle).cls (yN mX8_commonCycle) (yN mX8_commonCycle) ∈ zGW := zGW_of 617 (by decide +kernel)
theorem np_X8_commonCycle : (yN mX8_commonCycle).cls ≠ "java/lang/invoke/MethodHandle" ∧ (yN mX8_commonCycle).cls ≠ "java/lang/invoke/VarHandle" ∧ (parseMethodDescriptor (yN mX8_commonCycle).desc).map (fun d => d.parameters.length) = some 0 := by decide +kernel
theorem cd_X8_account : Cond.code (yN mX8_account) (yC mX8_account) (yL mX8_account) (yR mX8_account) ∈ zGW := zGW_of 932 (by decide +kernel)
theorem im_X8_account : Cond.instanceMethod (yN mX8_account) ∈ zGW := zGW_of 930 (by decide +kernel)
theorem sl_X8_account : Cond.selects (yN mX8_account).cls (yN mX8_account) (yN mX8_account) ∈ zGW := zGW_of 931 (by decide +kernel)
theorem np_X8_account : (yN mX8_account).cls ≠ "java/lang/invoke/MethodHandle" ∧ (yN mX8_account).cls ≠ "java/lang/invoke/VarHandle" ∧ (parseMethodDescriptor (yN mX8_account).desc).map (fun d => d.parameters.length) = some 2 := by decide +kernel
theorem cd_X8_movingShare : Cond.code (yN mX8_movingShare) (yC mX8_movingShare) (yL mX8_movingShare) (yR mX8_movingShare) ∈ zGW := zGW_of 633 (by decide +kernel)
theorem im_X8_movingShare : Cond.instanceMethod (yN mX8_movingShare) ∈ zGW := zGW_of 631 (by decide +kernel)
theorem sl_X8_movingShare : Cond.selects (yN mX8_movingShare).cls (yN mX8_movingShare) (yN mX8_movingShare) ∈ zGW := zGW_of 632 (by decide +kernel)
theorem np_X8_movingShare : (yN mX8_movingShare).cls ≠ "java/lang/invoke/MethodHandle" ∧ (yN mX8_movingShare).cls ≠ "java/lang/invoke/VarHandle" ∧ (parseMethodDescriptor (yN mX8_movingShare).desc).map (fun d => d.parameters.length) = some 0 := by decide +kernel
theorem cd_X8_cost : Cond.code (yN mX8_cost) (yC mX8_cost) (yL mX8_cost) (yR mX8_cost) ∈ zGW := zGW_of 943 (by decide +kernel)
theorem im_X8_cost : Cond.instanceMethod (yN mX8_cost) ∈ zGW := zGW_of 941 (by decide +kernel)
theorem sl_X8_cost : Cond.selects (yN mX8_cost).cls (yN mX8_cost) (yN mX8_cost) ∈ zGW := zGW_of 942 (by decide +kernel)
theorem np_X8_cost : (yN mX8_cost).cls ≠ "java/lang/invoke/MethodHandle" ∧ (yN mX8_cost).cls ≠ "java/lang/invoke/VarHandle" ∧ (parseMethodDescriptor (yN mX8_cost).desc).map (fun d => d.parameters.length) = some 3 := by decide +kernel
theorem cd_X8_wish : Cond.code (yN mX8_wish) (yC mX8_wish) (yL mX8_wish) (yR mX8_wish) ∈ zGW := zGW_of 963 (by decide +kernel)
theorem im_X8_wish : Cond.instanceMethod (yN mX8_wish) ∈ zGW := zGW_of 961 (by decide +kernel)
theorem sl_X8_wish : Cond.selects (yN mX8_wish).cls (yN mX8_wish) (yN mX8_wish) ∈ zGW := zGW_of 962 (by decide +kernel)
theorem np_X8_wish : (yN mX8_wish).cls ≠ "java/lang/invoke/MethodHandle" ∧ (yN mX8_wish).cls ≠ "java/lang/invoke/VarHandle" ∧ (parseMethodDescriptor (yN mX8_wish).desc).map (fun d => d.parameters.length) = some 2 := by decide +kernel
theorem cd_X8_steps : Cond.code (yN mX8_steps) (yC mX8_steps) (yL mX8_steps) (yR mX8_steps) ∈ zGW := zGW_of 984 (by decide +kernel)
theorem im_X8_steps : Cond.instanceMethod (yN mX8_steps) ∈ zGW := zGW_of 982 (by decide +kernel)
theorem sl_X8_steps : Cond.selects (yN mX8_steps).cls (yN mX8_steps) (yN mX8_steps) ∈ zGW := zGW_of 983 (by decide +kernel)
theorem np_X8_steps : (yN mX8_steps).cls ≠ "java/lang/invoke/MethodHandle" ∧ (yN mX8_steps).cls ≠ "java/lang/invoke/VarHandle" ∧ (parseMethodDescriptor (yN mX8_steps).desc).map (fun d => d.parameters.length) = some 1 := by decide +kernel
theorem cd_X8_step : Cond.code (yN mX8_step) (yC mX8_step) (yL mX8_step) (yR mX8_step) ∈ zGW := zGW_of 1021 (by decide +kernel)
theorem im_X8_step : Cond.instanceMethod (yN mX8_step) ∈ zGW := zGW_of 1019 (by decide +kernel)
theorem sl_X8_step : Cond.selects (yN mX8_step).cls (yN mX8_step) (yN mX8_step) ∈ zGW := zGW_of 1020 (by decide +kernel)
theorem np_X8_step : (yN mX8_step).cls ≠ "java/lang/invoke/MethodHandle" ∧ (yN mX8_step).cls ≠ "java/lang/invoke/VarHandle" ∧ (parseMethodDescriptor (yN mX8_step).desc).map (fun d => d.parameters.length) = some 3 := by decide +kernel
theorem cd_X8_saving : Cond.code (yN mX8_saving) (yC mX8_saving) (yL mX8_saving) (yR mX8_saving) ∈ zGW := zGW_of 1028 (by decide +kernel)
theorem im_X8_saving : Cond.instanceMethod (yN mX8_saving) ∈ zGW := zGW_of 1026 (by decide +kernel)
theorem sl_X8_saving : Cond.selects (yN mX8_saving).cls (yN mX8_saving) (yN mX8_saving) ∈ zGW := zGW_of 1027 (by decide +kernel)
theorem np_X8_saving : (yN mX8_saving).cls ≠ "java/lang/invoke/MethodHandle" ∧ (yN mX8_saving).cls ≠ "java/lang/invoke/VarHandle" ∧ (parseMethodDescriptor (yN mX8_saving).desc).map (fun d => d.parameters.length) = some 1 := by decide +kernel
theorem cd_X8_withRoom : Cond.code (yN mX8_withRoom) (yC mX8_withRoom) (yL mX8_withRoom) (yR mX8_withRoom) ∈ zGW := zGW_of 1035 (by decide +kernel)
theorem im_X8_withRoom : Cond.instanceMethod (yN mX8_withRoom) ∈ zGW := zGW_of 1033 (by decide +kernel)
theorem sl_X8_withRoom : Cond.selects (yN mX8_withRoom).cls (yN mX8_withRoom) (yN mX8_withRoom) ∈ zGW := zGW_of 1034 (by decide +kernel)
theorem np_X8_withRoom : (yN mX8_withRoom).cls ≠ "java/lang/invoke/MethodHandle" ∧ (yN mX8_withRoom).cls ≠ "java/lang/invoke/VarHandle" ∧ (parseMethodDescriptor (yN mX8_withRoom).desc).map (fun d => d.parameters.length) = some 3 := by decide +kernel
theorem cd_X8_add : Cond.code (yN mX8_add) (yC mX8_add) (yL mX8_add) (yR mX8_add) ∈ zGW := zGW_of 1043 (by decide +kernel)
theorem im_X8_add : Cond.instanceMethod (yN mX8_add) ∈ zGW := zGW_of 1041 (by decide +kernel)
theorem sl_X8_add : Cond.selects (yN mX8_add).cls (yN mX8_add) (yN mX8_add) ∈ zGW := zGW_of 1042 (by decide +kernel)
theorem np_X8_add : (yN mX8_add).cls ≠ "java/lang/invoke/MethodHandle" ∧ (yN mX8_add).cls ≠ "java/lang/invoke/VarHandle" ∧ (parseMethodDescriptor (yN mX8_add).desc).map (fun d => d.parameters.length) = some 2 := by decide +kernel
theorem cd_X8_drop : Cond.code (yN mX8_drop) (yC mX8_drop) (yL mX8_drop) (yR mX8_drop) ∈ zGW := zGW_of 1051 (by decide +kernel)
theorem im_X8_drop : Cond.instanceMethod (yN mX8_drop) ∈ zGW := zGW_of 1049 (by decide +kernel)
theorem sl_X8_drop : Cond.selects (yN mX8_drop).cls (yN mX8_drop) (yN mX8_drop) ∈ zGW := zGW_of 1050 (by decide +kernel)
theorem np_X8_drop : (yN mX8_drop).cls ≠ "java/lang/invoke/MethodHandle" ∧ (yN mX8_drop).cls ≠ "java/lang/invoke/VarHandle" ∧ (parseMethodDescriptor (yN mX8_drop).desc).map (fun d => d.parameters.length) = some 1 := by decide +kernel
theorem cd_X8_use : Cond.code (yN mX8_use) (yC mX8_use) (yL mX8_use) (yR mX8_use) ∈ zGW := zGW_of 1070 (by decide +kernel)
theorem im_X8_use : Cond.instanceMethod (yN mX8_use) ∈ zGW := zGW_of 1068 (by decide +kernel)
theorem sl_X8_use : Cond.selects (yN mX8_use).cls (yN mX8_use) (yN mX8_use) ∈ zGW := zGW_of 1069 (by decide +kernel)
theorem np_X8_use : (yN mX8_use).cls ≠ "java/lang/invoke/MethodHandle" ∧ (yN mX8_use).cls ≠ "java/lang/invoke/VarHandle" ∧ (parseMethodDescriptor (yN mX8_use).desc).map (fun d => d.parameters.length) = some 2 := by decide +kernel
theorem cd_X8_close : Cond.code (yN mX8_close) (yC mX8_close) (yL mX8_close) (yR mX8_close) ∈ zGW := zGW_of 645 (by decide +kernel)
theorem im_X8_close : Cond.instanceMethod (yN mX8_close) ∈ zGW := zGW_of 643 (by decide +kernel)
theorem sl_X8_close : Cond.selects (yN mX8_close).cls (yN mX8_close) (yN mX8_close) ∈ zGW := zGW_of 644 (by decide +kernel)
theorem np_X8_close : (yN mX8_close).cls ≠ "java/lang/invoke/MethodHandle" ∧ (yN mX8_close).cls ≠ "java/lang/invoke/VarHandle" ∧ (parseMethodDescriptor (yN mX8_close).desc).map (fun d => d.parameters.length) = some 0 := by decide +kernel
theorem cd_X8_move : Cond.code (yN mX8_move) (yC mX8_move) (yL mX8_move) (yR mX8_move) ∈ zGW := zGW_of 1077 (by decide +kernel)
theorem im_X8_move : Cond.instanceMethod (yN mX8_move) ∈ zGW := zGW_of 1075 (by decide +kernel)
theorem sl_X8_move : Cond.selects (yN mX8_move).cls (yN mX8_move) (yN mX8_move) ∈ zGW := zGW_of 1076 (by decide +kernel)
theorem np_X8_move : (yN mX8_move).cls ≠ "java/lang/invoke/MethodHandle" ∧ (yN mX8_move).cls ≠ "java/lang/invoke/VarHandle" ∧ (parseMethodDescriptor (yN mX8_move).desc).map (fun d => d.parameters.length) = some 2 := by decide +kernel
theorem cd_X8_unmove : Cond.code (yN mX8_unmove) (yC mX8_unmove) (yL mX8_unmove) (yR mX8_unmove) ∈ zGW := zGW_of 686 (by decide +kernel)
theorem im_X8_unmove : Cond.instanceMethod (yN mX8_unmove) ∈ zGW := zGW_of 684 (by decide +kernel)
theorem sl_X8_unmove : Cond.selects (yN mX8_unmove).cls (yN mX8_unmove) (yN mX8_unmove) ∈ zGW := zGW_of 685 (by decide +kernel)
theorem np_X8_unmove : (yN mX8_unmove).cls ≠ "java/lang/invoke/MethodHandle" ∧ (yN mX8_unmove).cls ≠ "java/lang/invoke/VarHandle" ∧ (parseMethodDescriptor (yN mX8_unmove).desc).map (fun d => d.parameters.length) = some 0 := by decide +kernel
theorem cd_X8_pin : Cond.code (yN mX8_pin) (yC mX8_pin) (yL mX8_pin) (yR mX8_pin) ∈ zGW := zGW_of 1092 (by decide +kernel)
theorem im_X8_pin : Cond.instanceMethod (yN mX8_pin) ∈ zGW := zGW_of 1090 (by decide +kernel)
theorem sl_X8_pin : Cond.selects (yN mX8_pin).cls (yN mX8_pin) (yN mX8_pin) ∈ zGW := zGW_of 1091 (by decide +kernel)
theorem np_X8_pin : (yN mX8_pin).cls ≠ "java/lang/invoke/MethodHandle" ∧ (yN mX8_pin).cls ≠ "java/lang/invoke/VarHandle" ∧ (parseMethodDescriptor (yN mX8_pin).desc).map (fun d => d.parameters.length) = some 2 := by decide +kernel
theorem cd_X8_act : Cond.code (yN mX8_act) (yC mX8_act) (yL mX8_act) (yR mX8_act) ∈ zGW := zGW_of 1099 (by decide +kernel)
theorem im_X8_act : Cond.instanceMethod (yN mX8_act) ∈ zGW := zGW_of 1097 (by decide +kernel)
theorem sl_X8_act : Cond.selects (yN mX8_act).cls (yN mX8_act) (yN mX8_act) ∈ zGW := zGW_of 1098 (by decide +kernel)
theorem np_X8_act : (yN mX8_act).cls ≠ "java/lang/invoke/MethodHandle" ∧ (yN mX8_act).cls ≠ "java/lang/invoke/VarHandle" ∧ (parseMethodDescriptor (yN mX8_act).desc).map (fun d => d.parameters.length) = some 1 := by decide +kernel
theorem cd_X8_learn : Cond.code (yN mX8_learn) (yC mX8_learn) (yL mX8_learn) (yR mX8_learn) ∈ zGW := zGW_of 1111 (by decide +kernel)
theorem im_X8_learn : Cond.instanceMethod (yN mX8_learn) ∈ zGW := zGW_of 1109 (by decide +kernel)
theorem sl_X8_learn : Cond.selects (yN mX8_learn).cls (yN mX8_learn) (yN mX8_learn) ∈ zGW := zGW_of 1110 (by decide +kernel)
theorem np_X8_learn : (yN mX8_learn).cls ≠ "java/lang/invoke/MethodHandle" ∧ (yN mX8_learn).cls ≠ "java/lang/invoke/VarHandle" ∧ (parseMethodDescriptor (yN mX8_learn).desc).map (fun d => d.parameters.length) = some 2 := by decide +kernel
theorem cd_X8_setTier : Cond.code (yN mX8_setTier) (yC mX8_setTier) (yL mX8_setTier) (yR mX8_setTier) ∈ zGW := zGW_of 1130 (by decide +kernel)
theorem im_X8_setTier : Cond.instanceMethod (yN mX8_setTier) ∈ zGW := zGW_of 1128 (by decide +kernel)
theorem sl_X8_setTier : Cond.selects (yN mX8_setTier).cls (yN mX8_setTier) (yN mX8_setTier) ∈ zGW := zGW_of 1129 (by decide +kernel)
theorem np_X8_setTier : (yN mX8_setTier).cls ≠ "java/lang/invoke/MethodHandle" ∧ (yN mX8_setTier).cls ≠ "java/lang/invoke/VarHandle" ∧ (parseMethodDescriptor (yN mX8_setTier).desc).map (fun d => d.parameters.length) = some 3 := by decide +kernel
theorem cd_X8_undo : Cond.code (yN mX8_undo) (yC mX8_undo) (yL mX8_undo) (yR mX8_undo) ∈ zGW := zGW_of 1139 (by decide +kernel)
theorem im_X8_undo : Cond.instanceMethod (yN mX8_undo) ∈ zGW := zGW_of 1137 (by decide +kernel)
theorem sl_X8_undo : Cond.selects (yN mX8_undo).cls (yN mX8_undo) (yN mX8_undo) ∈ zGW := zGW_of 1138 (by decide +kernel)
theorem np_X8_undo : (yN mX8_undo).cls ≠ "java/lang/invoke/MethodHandle" ∧ (yN mX8_undo).cls ≠ "java/lang/invoke/VarHandle" ∧ (parseMethodDescriptor (yN mX8_undo).desc).map (fun d => d.parameters.length) = some 0 := by decide +kernel
theorem cd_X8_save : Cond.code (yN mX8_save) (yC mX8_save) (yL mX8_save) (yR mX8_save) ∈ zGW := zGW_of 1150 (by decide +kernel)
theorem im_X8_save : Cond.instanceMethod (yN mX8_save) ∈ zGW := zGW_of 1148 (by decide +kernel)
theorem sl_X8_save : Cond.selects (yN mX8_save).cls (yN mX8_save) (yN mX8_save) ∈ zGW := zGW_of 1149 (by decide +kernel)
theorem np_X8_save : (yN mX8_save).cls ≠ "java/lang/invoke/MethodHandle" ∧ (yN mX8_save).cls ≠ "java/lang/invoke/VarHandle" ∧ (parseMethodDescriptor (yN mX8_save).desc).map (fun d => d.parameters.length) = some 1 := by decide +kernel
theorem cd_X8_restore : Cond.code (yN mX8_restore) (yC mX8_restore) (yL mX8_restore) (yR mX8_restore) ∈ zGW := zGW_of 1160 (by decide +kernel)
theorem im_X8_restore : Cond.instanceMethod (yN mX8_restore) ∈ zGW := zGW_of 1158 (by decide +kernel)
theorem sl_X8_restore : Cond.selects (yN mX8_restore).cls (yN mX8_restore) (yN mX8_restore) ∈ zGW := zGW_of 1159 (by decide +kernel)
theorem np_X8_restore : (yN mX8_restore).cls ≠ "java/lang/invoke/MethodHandle" ∧ (yN mX8_restore).cls ≠ "java/lang/invoke/VarHandle" ∧ (parseMethodDescriptor (yN mX8_restore).desc).map (fun d => d.parameters.length) = some 1 := by decide +kernel
theorem cd_X8_writeTiers : Cond.code (yN mX8_writeTiers) (yC mX8_writeTiers) (yL mX8_writeTiers) (yR mX8_writeTiers) ∈ zGW := zGW_of 700 (by decide +kernel)
theorem im_X8_writeTiers : Cond.instanceMethod (yN mX8_writeTiers) ∈ zGW := zGW_of 698 (by decide +kernel)
theorem sl_X8_writeTiers : Cond.selects (yN mX8_writeTiers).cls (yN mX8_writeTiers) (yN mX8_writeTiers) ∈ zGW := zGW_of 699 (by decide +kernel)
theorem np_X8_writeTiers : (yN mX8_writeTiers).cls ≠ "java/lang/invoke/MethodHandle" ∧ (yN mX8_writeTiers).cls ≠ "java/lang/invoke/VarHandle" ∧ (parseMethodDescriptor (yN mX8_writeTiers).desc).map (fun d => d.parameters.length) = some 0 := by decide +kernel
theorem cd_X8_writtenByte : Cond.code (yN mX8_writtenByte) (yC mX8_writtenByte) (yL mX8_writtenByte) (yR mX8_writtenByte) ∈ zGW := zGW_of 1167 (by decide +kernel)
theorem im_X8_writtenByte : Cond.instanceMethod (yN mX8_writtenByte) ∈ zGW := zGW_of 1165 (by decide +kernel)
theorem sl_X8_writtenByte : Cond.selects (yN mX8_writtenByte).cls (yN mX8_writtenByte) (yN mX8_writtenByte) ∈ zGW := zGW_of 1166 (by decide +kernel)
theorem np_X8_writtenByte : (yN mX8_writtenByte).cls ≠ "java/lang/invoke/MethodHandle" ∧ (yN mX8_writtenByte).cls ≠ "java/lang/invoke/VarHandle" ∧ (parseMethodDescriptor (yN mX8_writtenByte).desc).map (fun d => d.parameters.length) = some 1 := by decide +kernel
theorem cd_X8_requireTier : Cond.code (yN mX8_requireTier) (yC mX8_requireTier) (yL mX8_requireTier) (yR mX8_requireTier) ∈ zGW := zGW_of 841 (by decide +kernel)
theorem im_X8_requireTier : Cond.instanceMethod (yN mX8_requireTier) ∈ zGW := zGW_of 840 (by decide +kernel)
theorem sl_X8_requireTier : Cond.selects (yN mX8_requireTier).cls (yN mX8_requireTier) (yN mX8_requireTier) ∈ zGW := zGW_of 17 (by decide +kernel)
theorem np_X8_requireTier : (yN mX8_requireTier).cls ≠ "java/lang/invoke/MethodHandle" ∧ (yN mX8_requireTier).cls ≠ "java/lang/invoke/VarHandle" ∧ (parseMethodDescriptor (yN mX8_requireTier).desc).map (fun d => d.parameters.length) = some 1 := by decide +kernel
theorem cd_X8_requireFile : Cond.code (yN mX8_requireFile) (yC mX8_requireFile) (yL mX8_requireFile) (yR mX8_requireFile) ∈ zGW := zGW_of 877 (by decide +kernel)
theorem im_X8_requireFile : Cond.instanceMethod (yN mX8_requireFile) ∈ zGW := zGW_of 876 (by decide +kernel)
theorem sl_X8_requireFile : Cond.selects (yN mX8_requireFile).cls (yN mX8_requireFile) (yN mX8_requireFile) ∈ zGW := zGW_of 18 (by decide +kernel)
theorem np_X8_requireFile : (yN mX8_requireFile).cls ≠ "java/lang/invoke/MethodHandle" ∧ (yN mX8_requireFile).cls ≠ "java/lang/invoke/VarHandle" ∧ (parseMethodDescriptor (yN mX8_requireFile).desc).map (fun d => d.parameters.length) = some 1 := by decide +kernel
theorem cd_X8_requireSlot : Cond.code (yN mX8_requireSlot) (yC mX8_requireSlot) (yL mX8_requireSlot) (yR mX8_requireSlot) ∈ zGW := zGW_of 1153 (by decide +kernel)
theorem st_X8_requireSlot : Cond.static (yN mX8_requireSlot) ∈ zGW := zGW_of 1152 (by decide +kernel)
theorem np_X8_requireSlot : (yN mX8_requireSlot).cls ≠ "java/lang/invoke/MethodHandle" ∧ (yN mX8_requireSlot).cls ≠ "java/lang/invoke/VarHandle" ∧ (parseMethodDescriptor (yN mX8_requireSlot).desc).map (fun d => d.parameters.length) = some 1 := by decide +kernel
theorem cd_X8_requirePeriods : Cond.code (yN mX8_requirePeriods) (yC mX8_requirePeriods) (yL mX8_requirePeriods) (yR mX8_requirePeriods) ∈ zGW := zGW_of 946 (by decide +kernel)
theorem st_X8_requirePeriods : Cond.static (yN mX8_requirePeriods) ∈ zGW := zGW_of 945 (by decide +kernel)
theorem np_X8_requirePeriods : (yN mX8_requirePeriods).cls ≠ "java/lang/invoke/MethodHandle" ∧ (yN mX8_requirePeriods).cls ≠ "java/lang/invoke/VarHandle" ∧ (parseMethodDescriptor (yN mX8_requirePeriods).desc).map (fun d => d.parameters.length) = some 1 := by decide +kernel
theorem cd_X8_requireWithin : Cond.code (yN mX8_requireWithin) (yC mX8_requireWithin) (yL mX8_requireWithin) (yR mX8_requireWithin) ∈ zGW := zGW_of 935 (by decide +kernel)
theorem st_X8_requireWithin : Cond.static (yN mX8_requireWithin) ∈ zGW := zGW_of 934 (by decide +kernel)
theorem np_X8_requireWithin : (yN mX8_requireWithin).cls ≠ "java/lang/invoke/MethodHandle" ∧ (yN mX8_requireWithin).cls ≠ "java/lang/invoke/VarHandle" ∧ (parseMethodDescriptor (yN mX8_requireWithin).desc).map (fun d => d.parameters.length) = some 3 := by decide +kernel
theorem cd_X8_leastOf : Cond.code (yN mX8_leastOf) (yC mX8_leastOf) (yL mX8_leastOf) (yR mX8_leastOf) ∈ zGW := zGW_of 541 (by decide +kernel)
theorem st_X8_leastOf : Cond.static (yN mX8_leastOf) ∈ zGW := zGW_of 540 (by decide +kernel)
theorem np_X8_leastOf : (yN mX8_leastOf).cls ≠ "java/lang/invoke/MethodHandle" ∧ (yN mX8_leastOf).cls ≠ "java/lang/invoke/VarHandle" ∧ (parseMethodDescriptor (yN mX8_leastOf).desc).map (fun d => d.parameters.length) = some 1 := by decide +kernel
theorem cd_X8_greatestOf : Cond.code (yN mX8_greatestOf) (yC mX8_greatestOf) (yL mX8_greatestOf) (yR mX8_greatestOf) ∈ zGW := zGW_of 544 (by decide +kernel)
theorem st_X8_greatestOf : Cond.static (yN mX8_greatestOf) ∈ zGW := zGW_of 543 (by decide +kernel)
theorem np_X8_greatestOf : (yN mX8_greatestOf).cls ≠ "java/lang/invoke/MethodHandle" ∧ (yN mX8_greatestOf).cls ≠ "java/lang/invoke/VarHandle" ∧ (parseMethodDescriptor (yN mX8_greatestOf).desc).map (fun d => d.parameters.length) = some 1 := by decide +kernel
theorem cd_X8_bytesIn : Cond.code (yN mX8_bytesIn) (yC mX8_bytesIn) (yL mX8_bytesIn) (yR mX8_bytesIn) ∈ zGW := zGW_of 727 (by decide +kernel)
theorem st_X8_bytesIn : Cond.static (yN mX8_bytesIn) ∈ zGW := zGW_of 726 (by decide +kernel)
theorem np_X8_bytesIn : (yN mX8_bytesIn).cls ≠ "java/lang/invoke/MethodHandle" ∧ (yN mX8_bytesIn).cls ≠ "java/lang/invoke/VarHandle" ∧ (parseMethodDescriptor (yN mX8_bytesIn).desc).map (fun d => d.parameters.length) = some 1 := by decide +kernel
theorem cd_X9_init : Cond.code (yN mX9_init) (yC mX9_init) (yL mX9_init) (yR mX9_init) ∈ zGW := zGW_of 1172 (by decide +kernel)
theorem im_X9_init : Cond.instanceMethod (yN mX9_init) ∈ zGW := zGW_of 1171 (by decide +kernel)
theorem iw_X9_init : Cond.initialized (yN mX9_init).cls ∈ zGW := zGW_of 92 (by decide +kernel)
theorem np_X9_init : (yN mX9_init).cls ≠ "java/lang/invoke/MethodHandle" ∧ (yN mX9_init).cls ≠ "java/lang/invoke/VarHandle" ∧ (parseMethodDescriptor (yN mX9_init).desc).map (fun d => d.parameters.length) = some 0 := by decide +kernel
theorem cd_X9_puts : Cond.code (yN mX9_puts) (yC mX9_puts) (yL mX9_puts) (yR mX9_puts) ∈ zGW := zGW_of 1183 (by decide +kernel)
theorem im_X9_puts : Cond.instanceMethod (yN mX9_puts) ∈ zGW := zGW_of 1182 (by decide +kernel)
theorem sl_X9_puts : Cond.selects (yN mX9_puts).cls (yN mX9_puts) (yN mX9_puts) ∈ zGW := zGW_of 26 (by decide +kernel)
theorem np_X9_puts : (yN mX9_puts).cls ≠ "java/lang/invoke/MethodHandle" ∧ (yN mX9_puts).cls ≠ "java/lang/invoke/VarHandle" ∧ (parseMethodDescriptor (yN mX9_puts).desc).map (fun d => d.parameters.length) = some 6 := by decide +kernel
theorem cd_X9_begins : Cond.code (yN mX9_begins) (yC mX9_begins) (yL mX9_begins) (yR mX9_begins) ∈ zGW := zGW_of 1177 (by decide +kernel)
theorem im_X9_begins : Cond.instanceMethod (yN mX9_begins) ∈ zGW := zGW_of 1176 (by decide +kernel)
theorem sl_X9_begins : Cond.selects (yN mX9_begins).cls (yN mX9_begins) (yN mX9_begins) ∈ zGW := zGW_of 25 (by decide +kernel)
theorem np_X9_begins : (yN mX9_begins).cls ≠ "java/lang/invoke/MethodHandle" ∧ (yN mX9_begins).cls ≠ "java/lang/invoke/VarHandle" ∧ (parseMethodDescriptor (yN mX9_begins).desc).map (fun d => d.parameters.length) = some 0 := by decide +kernel
theorem cd_X9_thrown : Cond.code (yN mX9_thrown) (yC mX9_thrown) (yL mX9_thrown) (yR mX9_thrown) ∈ zGW := zGW_of 1284 (by decide +kernel)
theorem im_X9_thrown : Cond.instanceMethod (yN mX9_thrown) ∈ zGW := zGW_of 1282 (by decide +kernel)
theorem sl_X9_thrown : Cond.selects (yN mX9_thrown).cls (yN mX9_thrown) (yN mX9_thrown) ∈ zGW := zGW_of 1283 (by decide +kernel)
theorem np_X9_thrown : (yN mX9_thrown).cls ≠ "java/lang/invoke/MethodHandle" ∧ (yN mX9_thrown).cls ≠ "java/lang/invoke/VarHandle" ∧ (parseMethodDescriptor (yN mX9_thrown).desc).map (fun d => d.parameters.length) = some 0 := by decide +kernel
theorem cd_X9_isIn : Cond.code (yN mX9_isIn) (yC mX9_isIn) (yL mX9_isIn) (yR mX9_isIn) ∈ zGW := zGW_of 1298 (by decide +kernel)
theorem st_X9_isIn : Cond.static (yN mX9_isIn) ∈ zGW := zGW_of 1297 (by decide +kernel)
theorem np_X9_isIn : (yN mX9_isIn).cls ≠ "java/lang/invoke/MethodHandle" ∧ (yN mX9_isIn).cls ≠ "java/lang/invoke/VarHandle" ∧ (parseMethodDescriptor (yN mX9_isIn).desc).map (fun d => d.parameters.length) = some 3 := by decide +kernel
theorem cd_X9_copies : Cond.code (yN mX9_copies) (yC mX9_copies) (yL mX9_copies) (yR mX9_copies) ∈ zGW := zGW_of 1291 (by decide +kernel)
theorem st_X9_copies : Cond.static (yN mX9_copies) ∈ zGW := zGW_of 1290 (by decide +kernel)
theorem np_X9_copies : (yN mX9_copies).cls ≠ "java/lang/invoke/MethodHandle" ∧ (yN mX9_copies).cls ≠ "java/lang/invoke/VarHandle" ∧ (parseMethodDescriptor (yN mX9_copies).desc).map (fun d => d.parameters.length) = some 4 := by decide +kernel
theorem cd_X9_keeps : Cond.code (yN mX9_keeps) (yC mX9_keeps) (yL mX9_keeps) (yR mX9_keeps) ∈ zGW := zGW_of 1306 (by decide +kernel)
theorem im_X9_keeps : Cond.instanceMethod (yN mX9_keeps) ∈ zGW := zGW_of 1305 (by decide +kernel)
theorem sl_X9_keeps : Cond.selects (yN mX9_keeps).cls (yN mX9_keeps) (yN mX9_keeps) ∈ zGW := zGW_of 27 (by decide +kernel)
theorem np_X9_keeps : (yN mX9_keeps).cls ≠ "java/lang/invoke/MethodHandle" ∧ (yN mX9_keeps).cls ≠ "java/lang/invoke/VarHandle" ∧ (parseMethodDescriptor (yN mX9_keeps).desc).map (fun d => d.parameters.length) = some 1 := by decide +kernel
theorem cd_X9_undo : Cond.code (yN mX9_undo) (yC mX9_undo) (yL mX9_undo) (yR mX9_undo) ∈ zGW := zGW_of 1288 (by decide +kernel)
theorem im_X9_undo : Cond.instanceMethod (yN mX9_undo) ∈ zGW := zGW_of 1286 (by decide +kernel)
theorem sl_X9_undo : Cond.selects (yN mX9_undo).cls (yN mX9_undo) (yN mX9_undo) ∈ zGW := zGW_of 1287 (by decide +kernel)
theorem np_X9_undo : (yN mX9_undo).cls ≠ "java/lang/invoke/MethodHandle" ∧ (yN mX9_undo).cls ≠ "java/lang/invoke/VarHandle" ∧ (parseMethodDescriptor (yN mX9_undo).desc).map (fun d => d.parameters.length) = some 0 := by decide +kernel
theorem cd_X9_save : Cond.code (yN mX9_save) (yC mX9_save) (yL mX9_save) (yR mX9_save) ∈ zGW := zGW_of 1295 (by decide +kernel)
theorem im_X9_save : Cond.instanceMethod (yN mX9_save) ∈ zGW := zGW_of 1293 (by decide +kernel)
theorem sl_X9_save : Cond.selects (yN mX9_save).cls (yN mX9_save) (yN mX9_save) ∈ zGW := zGW_of 1294 (by decide +kernel)
theorem np_X9_save : (yN mX9_save).cls ≠ "java/lang/invoke/MethodHandle" ∧ (yN mX9_save).cls ≠ "java/lang/invoke/VarHandle" ∧ (parseMethodDescriptor (yN mX9_save).desc).map (fun d => d.parameters.length) = some 1 := by decide +kernel
theorem cd_X9_restore : Cond.code (yN mX9_restore) (yC mX9_restore) (yL mX9_restore) (yR mX9_restore) ∈ zGW := zGW_of 1302 (by decide +kernel)
theorem im_X9_restore : Cond.instanceMethod (yN mX9_restore) ∈ zGW := zGW_of 1300 (by decide +kernel)
theorem sl_X9_restore : Cond.selects (yN mX9_restore).cls (yN mX9_restore) (yN mX9_restore) ∈ zGW := zGW_of 1301 (by decide +kernel)
theorem np_X9_restore : (yN mX9_restore).cls ≠ "java/lang/invoke/MethodHandle" ∧ (yN mX9_restore).cls ≠ "java/lang/invoke/VarHandle" ∧ (parseMethodDescriptor (yN mX9_restore).desc).map (fun d => d.parameters.length) = some 1 := by decide +kernel
theorem cd_X9_byteOf : Cond.code (yN mX9_byteOf) (yC mX9_byteOf) (yL mX9_byteOf) (yR mX9_byteOf) ∈ zGW := zGW_of 1317 (by decide +kernel)
theorem st_X9_byteOf : Cond.static (yN mX9_byteOf) ∈ zGW := zGW_of 1316 (by decide +kernel)
theorem np_X9_byteOf : (yN mX9_byteOf).cls ≠ "java/lang/invoke/MethodHandle" ∧ (yN mX9_byteOf).cls ≠ "java/lang/invoke/VarHandle" ∧ (parseMethodDescriptor (yN mX9_byteOf).desc).map (fun d => d.parameters.length) = some 6 := by decide +kernel
theorem cd_X9_append : Cond.code (yN mX9_append) (yC mX9_append) (yL mX9_append) (yR mX9_append) ∈ zGW := zGW_of 1314 (by decide +kernel)
theorem im_X9_append : Cond.instanceMethod (yN mX9_append) ∈ zGW := zGW_of 1312 (by decide +kernel)
theorem sl_X9_append : Cond.selects (yN mX9_append).cls (yN mX9_append) (yN mX9_append) ∈ zGW := zGW_of 1313 (by decide +kernel)
theorem np_X9_append : (yN mX9_append).cls ≠ "java/lang/invoke/MethodHandle" ∧ (yN mX9_append).cls ≠ "java/lang/invoke/VarHandle" ∧ (parseMethodDescriptor (yN mX9_append).desc).map (fun d => d.parameters.length) = some 5 := by decide +kernel
theorem cd_X9_see : Cond.code (yN mX9_see) (yC mX9_see) (yL mX9_see) (yR mX9_see) ∈ zGW := zGW_of 1329 (by decide +kernel)
theorem im_X9_see : Cond.instanceMethod (yN mX9_see) ∈ zGW := zGW_of 1328 (by decide +kernel)
theorem sl_X9_see : Cond.selects (yN mX9_see).cls (yN mX9_see) (yN mX9_see) ∈ zGW := zGW_of 30 (by decide +kernel)
theorem np_X9_see : (yN mX9_see).cls ≠ "java/lang/invoke/MethodHandle" ∧ (yN mX9_see).cls ≠ "java/lang/invoke/VarHandle" ∧ (parseMethodDescriptor (yN mX9_see).desc).map (fun d => d.parameters.length) = some 1 := by decide +kernel
theorem cd_X9_isLetter : Cond.code (yN mX9_isLetter) (yC mX9_isLetter) (yL mX9_isLetter) (yR mX9_isLetter) ∈ zGW := zGW_of 1333 (by decide +kernel)
theorem im_X9_isLetter : Cond.instanceMethod (yN mX9_isLetter) ∈ zGW := zGW_of 1332 (by decide +kernel)
theorem sl_X9_isLetter : Cond.selects (yN mX9_isLetter).cls (yN mX9_isLetter) (yN mX9_isLetter) ∈ zGW := zGW_of 31 (by decide +kernel)
theorem np_X9_isLetter : (yN mX9_isLetter).cls ≠ "java/lang/invoke/MethodHandle" ∧ (yN mX9_isLetter).cls ≠ "java/lang/invoke/VarHandle" ∧ (parseMethodDescriptor (yN mX9_isLetter).desc).map (fun d => d.parameters.length) = some 1 := by decide +kernel
theorem cd_X9_isDigit : Cond.code (yN mX9_isDigit) (yC mX9_isDigit) (yL mX9_isDigit) (yR mX9_isDigit) ∈ zGW := zGW_of 1337 (by decide +kernel)
theorem im_X9_isDigit : Cond.instanceMethod (yN mX9_isDigit) ∈ zGW := zGW_of 1336 (by decide +kernel)
theorem sl_X9_isDigit : Cond.selects (yN mX9_isDigit).cls (yN mX9_isDigit) (yN mX9_isDigit) ∈ zGW := zGW_of 32 (by decide +kernel)
theorem np_X9_isDigit : (yN mX9_isDigit).cls ≠ "java/lang/invoke/MethodHandle" ∧ (yN mX9_isDigit).cls ≠ "java/lang/invoke/VarHandle" ∧ (parseMethodDescriptor (yN mX9_isDigit).desc).map (fun d => d.parameters.length) = some 1 := by decide +kernel
theorem cd_X9_next : Cond.code (yN mX9_next) (yC mX9_next) (yL mX9_next) (yR mX9_next) ∈ zGW := zGW_of 1325 (by decide +kernel)
theorem im_X9_next : Cond.instanceMethod (yN mX9_next) ∈ zGW := zGW_of 1324 (by decide +kernel)
theorem sl_X9_next : Cond.selects (yN mX9_next).cls (yN mX9_next) (yN mX9_next) ∈ zGW := zGW_of 29 (by decide +kernel)
theorem np_X9_next : (yN mX9_next).cls ≠ "java/lang/invoke/MethodHandle" ∧ (yN mX9_next).cls ≠ "java/lang/invoke/VarHandle" ∧ (parseMethodDescriptor (yN mX9_next).desc).map (fun d => d.parameters.length) = some 0 := by decide +kernel
theorem cd_X9_isWord : Cond.code (yN mX9_isWord) (yC mX9_isWord) (yL mX9_isWord) (yR mX9_isWord) ∈ zGW := zGW_of 1346 (by decide +kernel)
theorem im_X9_isWord : Cond.instanceMethod (yN mX9_isWord) ∈ zGW := zGW_of 1345 (by decide +kernel)
theorem sl_X9_isWord : Cond.selects (yN mX9_isWord).cls (yN mX9_isWord) (yN mX9_isWord) ∈ zGW := zGW_of 33 (by decide +kernel)
theorem np_X9_isWord : (yN mX9_isWord).cls ≠ "java/lang/invoke/MethodHandle" ∧ (yN mX9_isWord).cls ≠ "java/lang/invoke/VarHandle" ∧ (parseMethodDescriptor (yN mX9_isWord).desc).map (fun d => d.parameters.length) = some 1 := by decide +kernel
theorem cd_X9_fails : Cond.code (yN mX9_fails) (yC mX9_fails) (yL mX9_fails) (yR mX9_fails) ∈ zGW := zGW_of 1356 (by decide +kernel)
theorem im_X9_fails : Cond.instanceMethod (yN mX9_fails) ∈ zGW := zGW_of 1355 (by decide +kernel)
theorem sl_X9_fails : Cond.selects (yN mX9_fails).cls (yN mX9_fails) (yN mX9_fails) ∈ zGW := zGW_of 35 (by decide +kernel)
theorem np_X9_fails : (yN mX9_fails).cls ≠ "java/lang/invoke/MethodHandle" ∧ (yN mX9_fails).cls ≠ "java/lang/invoke/VarHandle" ∧ (parseMethodDescriptor (yN mX9_fails).desc).map (fun d => d.parameters.length) = some 1 := by decide +kernel
theorem cd_X9_must : Cond.code (yN mX9_must) (yC mX9_must) (yL mX9_must) (yR mX9_must) ∈ zGW := zGW_of 1352 (by decide +kernel)
theorem im_X9_must : Cond.instanceMethod (yN mX9_must) ∈ zGW := zGW_of 1351 (by decide +kernel)
theorem sl_X9_must : Cond.selects (yN mX9_must).cls (yN mX9_must) (yN mX9_must) ∈ zGW := zGW_of 34 (by decide +kernel)
theorem np_X9_must : (yN mX9_must).cls ≠ "java/lang/invoke/MethodHandle" ∧ (yN mX9_must).cls ≠ "java/lang/invoke/VarHandle" ∧ (parseMethodDescriptor (yN mX9_must).desc).map (fun d => d.parameters.length) = some 1 := by decide +kernel
theorem cd_X9_mustEnd : Cond.code (yN mX9_mustEnd) (yC mX9_mustEnd) (yL mX9_mustEnd) (yR mX9_mustEnd) ∈ zGW := zGW_of 1365 (by decide +kernel)
theorem im_X9_mustEnd : Cond.instanceMethod (yN mX9_mustEnd) ∈ zGW := zGW_of 1364 (by decide +kernel)
theorem sl_X9_mustEnd : Cond.selects (yN mX9_mustEnd).cls (yN mX9_mustEnd) (yN mX9_mustEnd) ∈ zGW := zGW_of 37 (by decide +kernel)
theorem np_X9_mustEnd : (yN mX9_mustEnd).cls ≠ "java/lang/invoke/MethodHandle" ∧ (yN mX9_mustEnd).cls ≠ "java/lang/invoke/VarHandle" ∧ (parseMethodDescriptor (yN mX9_mustEnd).desc).map (fun d => d.parameters.length) = some 0 := by decide +kernel
theorem cd_X9_takes : Cond.code (yN mX9_takes) (yC mX9_takes) (yL mX9_takes) (yR mX9_takes) ∈ zGW := zGW_of 1360 (by decide +kernel)
theorem im_X9_takes : Cond.instanceMethod (yN mX9_takes) ∈ zGW := zGW_of 1359 (by decide +kernel)
theorem sl_X9_takes : Cond.selects (yN mX9_takes).cls (yN mX9_takes) (yN mX9_takes) ∈ zGW := zGW_of 36 (by decide +kernel)
theorem np_X9_takes : (yN mX9_takes).cls ≠ "java/lang/invoke/MethodHandle" ∧ (yN mX9_takes).cls ≠ "java/lang/invoke/VarHandle" ∧ (parseMethodDescriptor (yN mX9_takes).desc).map (fun d => d.parameters.length) = some 2 := by decide +kernel
theorem cd_X9_mustName : Cond.code (yN mX9_mustName) (yC mX9_mustName) (yL mX9_mustName) (yR mX9_mustName) ∈ zGW := zGW_of 1378 (by decide +kernel)
theorem im_X9_mustName : Cond.instanceMethod (yN mX9_mustName) ∈ zGW := zGW_of 1377 (by decide +kernel)
theorem sl_X9_mustName : Cond.selects (yN mX9_mustName).cls (yN mX9_mustName) (yN mX9_mustName) ∈ zGW := zGW_of 40 (by decide +kernel)
theorem np_X9_mustName : (yN mX9_mustName).cls ≠ "java/lang/invoke/MethodHandle" ∧ (yN mX9_mustName).cls ≠ "java/lang/invoke/VarHandle" ∧ (parseMethodDescriptor (yN mX9_mustName).desc).map (fun d => d.parameters.length) = some 0 := by decide +kernel
theorem cd_X9_named : Cond.code (yN mX9_named) (yC mX9_named) (yL mX9_named) (yR mX9_named) ∈ zGW := zGW_of 1382 (by decide +kernel)
theorem im_X9_named : Cond.instanceMethod (yN mX9_named) ∈ zGW := zGW_of 1381 (by decide +kernel)
theorem sl_X9_named : Cond.selects (yN mX9_named).cls (yN mX9_named) (yN mX9_named) ∈ zGW := zGW_of 41 (by decide +kernel)
theorem np_X9_named : (yN mX9_named).cls ≠ "java/lang/invoke/MethodHandle" ∧ (yN mX9_named).cls ≠ "java/lang/invoke/VarHandle" ∧ (parseMethodDescriptor (yN mX9_named).desc).map (fun d => d.parameters.length) = some 3 := by decide +kernel
theorem cd_X9_putsName : Cond.code (yN mX9_putsName) (yC mX9_putsName) (yL mX9_putsName) (yR mX9_putsName) ∈ zGW := zGW_of 1386 (by decide +kernel)
theorem im_X9_putsName : Cond.instanceMethod (yN mX9_putsName) ∈ zGW := zGW_of 1385 (by decide +kernel)
theorem sl_X9_putsName : Cond.selects (yN mX9_putsName).cls (yN mX9_putsName) (yN mX9_putsName) ∈ zGW := zGW_of 42 (by decide +kernel)
theorem np_X9_putsName : (yN mX9_putsName).cls ≠ "java/lang/invoke/MethodHandle" ∧ (yN mX9_putsName).cls ≠ "java/lang/invoke/VarHandle" ∧ (parseMethodDescriptor (yN mX9_putsName).desc).map (fun d => d.parameters.length) = some 1 := by decide +kernel
theorem cd_X9_readsTier : Cond.code (yN mX9_readsTier) (yC mX9_readsTier) (yL mX9_readsTier) (yR mX9_readsTier) ∈ zGW := zGW_of 1369 (by decide +kernel)
theorem im_X9_readsTier : Cond.instanceMethod (yN mX9_readsTier) ∈ zGW := zGW_of 1368 (by decide +kernel)
theorem sl_X9_readsTier : Cond.selects (yN mX9_readsTier).cls (yN mX9_readsTier) (yN mX9_readsTier) ∈ zGW := zGW_of 38 (by decide +kernel)
theorem np_X9_readsTier : (yN mX9_readsTier).cls ≠ "java/lang/invoke/MethodHandle" ∧ (yN mX9_readsTier).cls ≠ "java/lang/invoke/VarHandle" ∧ (parseMethodDescriptor (yN mX9_readsTier).desc).map (fun d => d.parameters.length) = some 0 := by decide +kernel
theorem cd_X9_readsFile : Cond.code (yN mX9_readsFile) (yC mX9_readsFile) (yL mX9_readsFile) (yR mX9_readsFile) ∈ zGW := zGW_of 1392 (by decide +kernel)
theorem im_X9_readsFile : Cond.instanceMethod (yN mX9_readsFile) ∈ zGW := zGW_of 1391 (by decide +kernel)
theorem sl_X9_readsFile : Cond.selects (yN mX9_readsFile).cls (yN mX9_readsFile) (yN mX9_readsFile) ∈ zGW := zGW_of 43 (by decide +kernel)
theorem np_X9_readsFile : (yN mX9_readsFile).cls ≠ "java/lang/invoke/MethodHandle" ∧ (yN mX9_readsFile).cls ≠ "java/lang/invoke/VarHandle" ∧ (parseMethodDescriptor (yN mX9_readsFile).desc).map (fun d => d.parameters.length) = some 0 := by decide +kernel
theorem cd_X9_begins0 : Cond.code (yN mX9_begins0) (yC mX9_begins0) (yL mX9_begins0) (yR mX9_begins0) ∈ zGW := zGW_of 1400 (by decide +kernel)
theorem im_X9_begins0 : Cond.instanceMethod (yN mX9_begins0) ∈ zGW := zGW_of 1399 (by decide +kernel)
theorem sl_X9_begins0 : Cond.selects (yN mX9_begins0).cls (yN mX9_begins0) (yN mX9_begins0) ∈ zGW := zGW_of 45 (by decide +kernel)
theorem np_X9_begins0 : (yN mX9_begins0).cls ≠ "java/lang/invoke/MethodHandle" ∧ (yN mX9_begins0).cls ≠ "java/lang/invoke/VarHandle" ∧ (parseMethodDescriptor (yN mX9_begins0).desc).map (fun d => d.parameters.length) = some 1 := by decide +kernel
theorem cd_X9_load : Cond.code (yN mX9_load) (yC mX9_load) (yL mX9_load) (yR mX9_load) ∈ zGW := zGW_of 1321 (by decide +kernel)
theorem im_X9_load : Cond.instanceMethod (yN mX9_load) ∈ zGW := zGW_of 1319 (by decide +kernel)
theorem sl_X9_load : Cond.selects (yN mX9_load).cls (yN mX9_load) (yN mX9_load) ∈ zGW := zGW_of 1320 (by decide +kernel)
theorem np_X9_load : (yN mX9_load).cls ≠ "java/lang/invoke/MethodHandle" ∧ (yN mX9_load).cls ≠ "java/lang/invoke/VarHandle" ∧ (parseMethodDescriptor (yN mX9_load).desc).map (fun d => d.parameters.length) = some 0 := by decide +kernel
theorem cd_X9_errorPosition : Cond.code (yN mX9_errorPosition) (yC mX9_errorPosition) (yL mX9_errorPosition) (yR mX9_errorPosition) ∈ zGW := zGW_of 1427 (by decide +kernel)
theorem im_X9_errorPosition : Cond.instanceMethod (yN mX9_errorPosition) ∈ zGW := zGW_of 1425 (by decide +kernel)
theorem sl_X9_errorPosition : Cond.selects (yN mX9_errorPosition).cls (yN mX9_errorPosition) (yN mX9_errorPosition) ∈ zGW := zGW_of 1426 (by decide +kernel)
theorem np_X9_errorPosition : (yN mX9_errorPosition).cls ≠ "java/lang/invoke/MethodHandle" ∧ (yN mX9_errorPosition).cls ≠ "java/lang/invoke/VarHandle" ∧ (parseMethodDescriptor (yN mX9_errorPosition).desc).map (fun d => d.parameters.length) = some 0 := by decide +kernel
theorem cd_X9_its : Cond.code (yN mX9_its) (yC mX9_its) (yL mX9_its) (yR mX9_its) ∈ zGW := zGW_of 1310 (by decide +kernel)
theorem im_X9_its : Cond.instanceMethod (yN mX9_its) ∈ zGW := zGW_of 1309 (by decide +kernel)
theorem sl_X9_its : Cond.selects (yN mX9_its).cls (yN mX9_its) (yN mX9_its) ∈ zGW := zGW_of 28 (by decide +kernel)
theorem np_X9_its : (yN mX9_its).cls ≠ "java/lang/invoke/MethodHandle" ∧ (yN mX9_its).cls ≠ "java/lang/invoke/VarHandle" ∧ (parseMethodDescriptor (yN mX9_its).desc).map (fun d => d.parameters.length) = some 1 := by decide +kernel
theorem cd_X9_tiers : Cond.code (yN mX9_tiers) (yC mX9_tiers) (yL mX9_tiers) (yR mX9_tiers) ∈ zGW := zGW_of 1373 (by decide +kernel)
theorem im_X9_tiers : Cond.instanceMethod (yN mX9_tiers) ∈ zGW := zGW_of 1372 (by decide +kernel)
theorem sl_X9_tiers : Cond.selects (yN mX9_tiers).cls (yN mX9_tiers) (yN mX9_tiers) ∈ zGW := zGW_of 39 (by decide +kernel)
theorem np_X9_tiers : (yN mX9_tiers).cls ≠ "java/lang/invoke/MethodHandle" ∧ (yN mX9_tiers).cls ≠ "java/lang/invoke/VarHandle" ∧ (parseMethodDescriptor (yN mX9_tiers).desc).map (fun d => d.parameters.length) = some 0 := by decide +kernel
theorem cd_X9_files : Cond.code (yN mX9_files) (yC mX9_files) (yL mX9_files) (yR mX9_files) ∈ zGW := zGW_of 1396 (by decide +kernel)
theorem im_X9_files : Cond.instanceMethod (yN mX9_files) ∈ zGW := zGW_of 1395 (by decide +kernel)
theorem sl_X9_files : Cond.selects (yN mX9_files).cls (yN mX9_files) (yN mX9_files) ∈ zGW := zGW_of 44 (by decide +kernel)
theorem np_X9_files : (yN mX9_files).cls ≠ "java/lang/invoke/MethodHandle" ∧ (yN mX9_files).cls ≠ "java/lang/invoke/VarHandle" ∧ (parseMethodDescriptor (yN mX9_files).desc).map (fun d => d.parameters.length) = some 0 := by decide +kernel
theorem cd_X9_ofTier : Cond.code (yN mX9_ofTier) (yC mX9_ofTier) (yL mX9_ofTier) (yR mX9_ofTier) ∈ zGW := zGW_of 1414 (by decide +kernel)
theorem im_X9_ofTier : Cond.instanceMethod (yN mX9_ofTier) ∈ zGW := zGW_of 1413 (by decide +kernel)
theorem sl_X9_ofTier : Cond.selects (yN mX9_ofTier).cls (yN mX9_ofTier) (yN mX9_ofTier) ∈ zGW := zGW_of 48 (by decide +kernel)
theorem np_X9_ofTier : (yN mX9_ofTier).cls ≠ "java/lang/invoke/MethodHandle" ∧ (yN mX9_ofTier).cls ≠ "java/lang/invoke/VarHandle" ∧ (parseMethodDescriptor (yN mX9_ofTier).desc).map (fun d => d.parameters.length) = some 2 := by decide +kernel
theorem cd_X9_of : Cond.code (yN mX9_of) (yC mX9_of) (yL mX9_of) (yR mX9_of) ∈ zGW := zGW_of 1422 (by decide +kernel)
theorem im_X9_of : Cond.instanceMethod (yN mX9_of) ∈ zGW := zGW_of 1421 (by decide +kernel)
theorem sl_X9_of : Cond.selects (yN mX9_of).cls (yN mX9_of) (yN mX9_of) ∈ zGW := zGW_of 50 (by decide +kernel)
theorem np_X9_of : (yN mX9_of).cls ≠ "java/lang/invoke/MethodHandle" ∧ (yN mX9_of).cls ≠ "java/lang/invoke/VarHandle" ∧ (parseMethodDescriptor (yN mX9_of).desc).map (fun d => d.parameters.length) = some 2 := by decide +kernel
theorem cd_X9_sets : Cond.code (yN mX9_sets) (yC mX9_sets) (yL mX9_sets) (yR mX9_sets) ∈ zGW := zGW_of 1404 (by decide +kernel)
theorem im_X9_sets : Cond.instanceMethod (yN mX9_sets) ∈ zGW := zGW_of 1403 (by decide +kernel)
theorem sl_X9_sets : Cond.selects (yN mX9_sets).cls (yN mX9_sets) (yN mX9_sets) ∈ zGW := zGW_of 46 (by decide +kernel)
theorem np_X9_sets : (yN mX9_sets).cls ≠ "java/lang/invoke/MethodHandle" ∧ (yN mX9_sets).cls ≠ "java/lang/invoke/VarHandle" ∧ (parseMethodDescriptor (yN mX9_sets).desc).map (fun d => d.parameters.length) = some 3 := by decide +kernel
theorem cd_X9_isTier : Cond.code (yN mX9_isTier) (yC mX9_isTier) (yL mX9_isTier) (yR mX9_isTier) ∈ zGW := zGW_of 1451 (by decide +kernel)
theorem im_X9_isTier : Cond.instanceMethod (yN mX9_isTier) ∈ zGW := zGW_of 1450 (by decide +kernel)
theorem sl_X9_isTier : Cond.selects (yN mX9_isTier).cls (yN mX9_isTier) (yN mX9_isTier) ∈ zGW := zGW_of 54 (by decide +kernel)
theorem np_X9_isTier : (yN mX9_isTier).cls ≠ "java/lang/invoke/MethodHandle" ∧ (yN mX9_isTier).cls ≠ "java/lang/invoke/VarHandle" ∧ (parseMethodDescriptor (yN mX9_isTier).desc).map (fun d => d.parameters.length) = some 1 := by decide +kernel
theorem cd_X9_isFile : Cond.code (yN mX9_isFile) (yC mX9_isFile) (yL mX9_isFile) (yR mX9_isFile) ∈ zGW := zGW_of 1478 (by decide +kernel)
theorem im_X9_isFile : Cond.instanceMethod (yN mX9_isFile) ∈ zGW := zGW_of 1477 (by decide +kernel)
theorem sl_X9_isFile : Cond.selects (yN mX9_isFile).cls (yN mX9_isFile) (yN mX9_isFile) ∈ zGW := zGW_of 59 (by decide +kernel)
theorem np_X9_isFile : (yN mX9_isFile).cls ≠ "java/lang/invoke/MethodHandle" ∧ (yN mX9_isFile).cls ≠ "java/lang/invoke/VarHandle" ∧ (parseMethodDescriptor (yN mX9_isFile).desc).map (fun d => d.parameters.length) = some 1 := by decide +kernel
theorem cd_X9_fullOf : Cond.code (yN mX9_fullOf) (yC mX9_fullOf) (yL mX9_fullOf) (yR mX9_fullOf) ∈ zGW := zGW_of 1418 (by decide +kernel)
theorem im_X9_fullOf : Cond.instanceMethod (yN mX9_fullOf) ∈ zGW := zGW_of 1417 (by decide +kernel)
theorem sl_X9_fullOf : Cond.selects (yN mX9_fullOf).cls (yN mX9_fullOf) (yN mX9_fullOf) ∈ zGW := zGW_of 49 (by decide +kernel)
theorem np_X9_fullOf : (yN mX9_fullOf).cls ≠ "java/lang/invoke/MethodHandle" ∧ (yN mX9_fullOf).cls ≠ "java/lang/invoke/VarHandle" ∧ (parseMethodDescriptor (yN mX9_fullOf).desc).map (fun d => d.parameters.length) = some 1 := by decide +kernel
theorem cd_X9_freeOn : Cond.code (yN mX9_freeOn) (yC mX9_freeOn) (yL mX9_freeOn) (yR mX9_freeOn) ∈ zGW := zGW_of 1410 (by decide +kernel)
theorem im_X9_freeOn : Cond.instanceMethod (yN mX9_freeOn) ∈ zGW := zGW_of 1409 (by decide +kernel)
theorem sl_X9_freeOn : Cond.selects (yN mX9_freeOn).cls (yN mX9_freeOn) (yN mX9_freeOn) ∈ zGW := zGW_of 47 (by decide +kernel)
theorem np_X9_freeOn : (yN mX9_freeOn).cls ≠ "java/lang/invoke/MethodHandle" ∧ (yN mX9_freeOn).cls ≠ "java/lang/invoke/VarHandle" ∧ (parseMethodDescriptor (yN mX9_freeOn).desc).map (fun d => d.parameters.length) = some 1 := by decide +kernel
theorem cd_X9_isPinned : Cond.code (yN mX9_isPinned) (yC mX9_isPinned) (yL mX9_isPinned) (yR mX9_isPinned) ∈ zGW := zGW_of 1439 (by decide +kernel)
theorem im_X9_isPinned : Cond.instanceMethod (yN mX9_isPinned) ∈ zGW := zGW_of 1438 (by decide +kernel)
theorem sl_X9_isPinned : Cond.selects (yN mX9_isPinned).cls (yN mX9_isPinned) (yN mX9_isPinned) ∈ zGW := zGW_of 52 (by decide +kernel)
theorem np_X9_isPinned : (yN mX9_isPinned).cls ≠ "java/lang/invoke/MethodHandle" ∧ (yN mX9_isPinned).cls ≠ "java/lang/invoke/VarHandle" ∧ (parseMethodDescriptor (yN mX9_isPinned).desc).map (fun d => d.parameters.length) = some 1 := by decide +kernel
theorem cd_X9_knownOf : Cond.code (yN mX9_knownOf) (yC mX9_knownOf) (yL mX9_knownOf) (yR mX9_knownOf) ∈ zGW := zGW_of 1467 (by decide +kernel)
theorem im_X9_knownOf : Cond.instanceMethod (yN mX9_knownOf) ∈ zGW := zGW_of 1466 (by decide +kernel)
theorem sl_X9_knownOf : Cond.selects (yN mX9_knownOf).cls (yN mX9_knownOf) (yN mX9_knownOf) ∈ zGW := zGW_of 58 (by decide +kernel)
theorem np_X9_knownOf : (yN mX9_knownOf).cls ≠ "java/lang/invoke/MethodHandle" ∧ (yN mX9_knownOf).cls ≠ "java/lang/invoke/VarHandle" ∧ (parseMethodDescriptor (yN mX9_knownOf).desc).map (fun d => d.parameters.length) = some 1 := by decide +kernel
theorem cd_X9_forecastOf : Cond.code (yN mX9_forecastOf) (yC mX9_forecastOf) (yL mX9_forecastOf) (yR mX9_forecastOf) ∈ zGW := zGW_of 1463 (by decide +kernel)
theorem im_X9_forecastOf : Cond.instanceMethod (yN mX9_forecastOf) ∈ zGW := zGW_of 1462 (by decide +kernel)
theorem sl_X9_forecastOf : Cond.selects (yN mX9_forecastOf).cls (yN mX9_forecastOf) (yN mX9_forecastOf) ∈ zGW := zGW_of 57 (by decide +kernel)
theorem np_X9_forecastOf : (yN mX9_forecastOf).cls ≠ "java/lang/invoke/MethodHandle" ∧ (yN mX9_forecastOf).cls ≠ "java/lang/invoke/VarHandle" ∧ (parseMethodDescriptor (yN mX9_forecastOf).desc).map (fun d => d.parameters.length) = some 2 := by decide +kernel
theorem cd_X9_learns : Cond.code (yN mX9_learns) (yC mX9_learns) (yL mX9_learns) (yR mX9_learns) ∈ zGW := zGW_of 1630 (by decide +kernel)
theorem im_X9_learns : Cond.instanceMethod (yN mX9_learns) ∈ zGW := zGW_of 1629 (by decide +kernel)
theorem sl_X9_learns : Cond.selects (yN mX9_learns).cls (yN mX9_learns) (yN mX9_learns) ∈ zGW := zGW_of 76 (by decide +kernel)
theorem np_X9_learns : (yN mX9_learns).cls ≠ "java/lang/invoke/MethodHandle" ∧ (yN mX9_learns).cls ≠ "java/lang/invoke/VarHandle" ∧ (parseMethodDescriptor (yN mX9_learns).desc).map (fun d => d.parameters.length) = some 3 := by decide +kernel
theorem cd_X9_keepsUses : Cond.code (yN mX9_keepsUses) (yC mX9_keepsUses) (yL mX9_keepsUses) (yR mX9_keepsUses) ∈ zGW := zGW_of 1634 (by decide +kernel)
theorem im_X9_keepsUses : Cond.instanceMethod (yN mX9_keepsUses) ∈ zGW := zGW_of 1633 (by decide +kernel)
theorem sl_X9_keepsUses : Cond.selects (yN mX9_keepsUses).cls (yN mX9_keepsUses) (yN mX9_keepsUses) ∈ zGW := zGW_of 77 (by decide +kernel)
theorem np_X9_keepsUses : (yN mX9_keepsUses).cls ≠ "java/lang/invoke/MethodHandle" ∧ (yN mX9_keepsUses).cls ≠ "java/lang/invoke/VarHandle" ∧ (parseMethodDescriptor (yN mX9_keepsUses).desc).map (fun d => d.parameters.length) = some 1 := by decide +kernel
theorem cd_X9_relearns : Cond.code (yN mX9_relearns) (yC mX9_relearns) (yL mX9_relearns) (yR mX9_relearns) ∈ zGW := zGW_of 1663 (by decide +kernel)
theorem im_X9_relearns : Cond.instanceMethod (yN mX9_relearns) ∈ zGW := zGW_of 1662 (by decide +kernel)
theorem sl_X9_relearns : Cond.selects (yN mX9_relearns).cls (yN mX9_relearns) (yN mX9_relearns) ∈ zGW := zGW_of 79 (by decide +kernel)
theorem np_X9_relearns : (yN mX9_relearns).cls ≠ "java/lang/invoke/MethodHandle" ∧ (yN mX9_relearns).cls ≠ "java/lang/invoke/VarHandle" ∧ (parseMethodDescriptor (yN mX9_relearns).desc).map (fun d => d.parameters.length) = some 1 := by decide +kernel
theorem cd_X9_seasonsOf : Cond.code (yN mX9_seasonsOf) (yC mX9_seasonsOf) (yL mX9_seasonsOf) (yR mX9_seasonsOf) ∈ zGW := zGW_of 1482 (by decide +kernel)
theorem im_X9_seasonsOf : Cond.instanceMethod (yN mX9_seasonsOf) ∈ zGW := zGW_of 1481 (by decide +kernel)
theorem sl_X9_seasonsOf : Cond.selects (yN mX9_seasonsOf).cls (yN mX9_seasonsOf) (yN mX9_seasonsOf) ∈ zGW := zGW_of 60 (by decide +kernel)
theorem np_X9_seasonsOf : (yN mX9_seasonsOf).cls ≠ "java/lang/invoke/MethodHandle" ∧ (yN mX9_seasonsOf).cls ≠ "java/lang/invoke/VarHandle" ∧ (parseMethodDescriptor (yN mX9_seasonsOf).desc).map (fun d => d.parameters.length) = some 2 := by decide +kernel
theorem cd_X9_strange : Cond.code (yN mX9_strange) (yC mX9_strange) (yL mX9_strange) (yR mX9_strange) ∈ zGW := zGW_of 1514 (by decide +kernel)
theorem im_X9_strange : Cond.instanceMethod (yN mX9_strange) ∈ zGW := zGW_of 1513 (by decide +kernel)
theorem sl_X9_strange : Cond.selects (yN mX9_strange).cls (yN mX9_strange) (yN mX9_strange) ∈ zGW := zGW_of 62 (by decide +kernel)
theorem np_X9_strange : (yN mX9_strange).cls ≠ "java/lang/invoke/MethodHandle" ∧ (yN mX9_strange).cls ≠ "java/lang/invoke/VarHandle" ∧ (parseMethodDescriptor (yN mX9_strange).desc).map (fun d => d.parameters.length) = some 2 := by decide +kernel
theorem cd_X9_ownCycle : Cond.code (yN mX9_ownCycle) (yC mX9_ownCycle) (yL mX9_ownCycle) (yR mX9_ownCycle) ∈ zGW := zGW_of 1510 (by decide +kernel)
theorem im_X9_ownCycle : Cond.instanceMethod (yN mX9_ownCycle) ∈ zGW := zGW_of 1509 (by decide +kernel)
theorem sl_X9_ownCycle : Cond.selects (yN mX9_ownCycle).cls (yN mX9_ownCycle) (yN mX9_ownCycle) ∈ zGW := zGW_of 61 (by decide +kernel)
theorem np_X9_ownCycle : (yN mX9_ownCycle).cls ≠ "java/lang/invoke/MethodHandle" ∧ (yN mX9_ownCycle).cls ≠ "java/lang/invoke/VarHandle" ∧ (parseMethodDescriptor (yN mX9_ownCycle).desc).map (fun d => d.parameters.length) = some 1 := by decide +kernel
theorem cd_X9_pinned : Cond.code (yN mX9_pinned) (yC mX9_pinned) (yL mX9_pinned) (yR mX9_pinned) ∈ zGW := zGW_of 1435 (by decide +kernel)
theorem im_X9_pinned : Cond.instanceMethod (yN mX9_pinned) ∈ zGW := zGW_of 1434 (by decide +kernel)
theorem sl_X9_pinned : Cond.selects (yN mX9_pinned).cls (yN mX9_pinned) (yN mX9_pinned) ∈ zGW := zGW_of 51 (by decide +kernel)
theorem np_X9_pinned : (yN mX9_pinned).cls ≠ "java/lang/invoke/MethodHandle" ∧ (yN mX9_pinned).cls ≠ "java/lang/invoke/VarHandle" ∧ (parseMethodDescriptor (yN mX9_pinned).desc).map (fun d => d.parameters.length) = some 0 := by decide +kernel
theorem cd_X9_sizes : Cond.code (yN mX9_sizes) (yC mX9_sizes) (yL mX9_sizes) (yR mX9_sizes) ∈ zGW := zGW_of 1443 (by decide +kernel)
theorem im_X9_sizes : Cond.instanceMethod (yN mX9_sizes) ∈ zGW := zGW_of 1442 (by decide +kernel)
theorem sl_X9_sizes : Cond.selects (yN mX9_sizes).cls (yN mX9_sizes) (yN mX9_sizes) ∈ zGW := zGW_of 53 (by decide +kernel)
theorem np_X9_sizes : (yN mX9_sizes).cls ≠ "java/lang/invoke/MethodHandle" ∧ (yN mX9_sizes).cls ≠ "java/lang/invoke/VarHandle" ∧ (parseMethodDescriptor (yN mX9_sizes).desc).map (fun d => d.parameters.length) = some 0 := by decide +kernel
theorem cd_X9_count : Cond.code (yN mX9_count) (yC mX9_count) (yL mX9_count) (yR mX9_count) ∈ zGW := zGW_of 1431 (by decide +kernel)
theorem im_X9_count : Cond.instanceMethod (yN mX9_count) ∈ zGW := zGW_of 1429 (by decide +kernel)
theorem sl_X9_count : Cond.selects (yN mX9_count).cls (yN mX9_count) (yN mX9_count) ∈ zGW := zGW_of 1430 (by decide +kernel)
theorem np_X9_count : (yN mX9_count).cls ≠ "java/lang/invoke/MethodHandle" ∧ (yN mX9_count).cls ≠ "java/lang/invoke/VarHandle" ∧ (parseMethodDescriptor (yN mX9_count).desc).map (fun d => d.parameters.length) = some 1 := by decide +kernel
theorem cd_X9_filesOn : Cond.code (yN mX9_filesOn) (yC mX9_filesOn) (yL mX9_filesOn) (yR mX9_filesOn) ∈ zGW := zGW_of 1455 (by decide +kernel)
theorem im_X9_filesOn : Cond.instanceMethod (yN mX9_filesOn) ∈ zGW := zGW_of 1454 (by decide +kernel)
theorem sl_X9_filesOn : Cond.selects (yN mX9_filesOn).cls (yN mX9_filesOn) (yN mX9_filesOn) ∈ zGW := zGW_of 55 (by decide +kernel)
theorem np_X9_filesOn : (yN mX9_filesOn).cls ≠ "java/lang/invoke/MethodHandle" ∧ (yN mX9_filesOn).cls ≠ "java/lang/invoke/VarHandle" ∧ (parseMethodDescriptor (yN mX9_filesOn).desc).map (fun d => d.parameters.length) = some 1 := by decide +kernel
theorem cd_X9_busiest : Cond.code (yN mX9_busiest) (yC mX9_busiest) (yL mX9_busiest) (yR mX9_busiest) ∈ zGW := zGW_of 1459 (by decide +kernel)
theorem im_X9_busiest : Cond.instanceMethod (yN mX9_busiest) ∈ zGW := zGW_of 1458 (by decide +kernel)
theorem sl_X9_busiest : Cond.selects (yN mX9_busiest).cls (yN mX9_busiest) (yN mX9_busiest) ∈ zGW := zGW_of 56 (by decide +kernel)
theorem np_X9_busiest : (yN mX9_busiest).cls ≠ "java/lang/invoke/MethodHandle" ∧ (yN mX9_busiest).cls ≠ "java/lang/invoke/VarHandle" ∧ (parseMethodDescriptor (yN mX9_busiest).desc).map (fun d => d.parameters.length) = some 1 := by decide +kernel
theorem cd_X9_tier : Cond.code (yN mX9_tier) (yC mX9_tier) (yL mX9_tier) (yR mX9_tier) ∈ zGW := zGW_of 1447 (by decide +kernel)
theorem im_X9_tier : Cond.instanceMethod (yN mX9_tier) ∈ zGW := zGW_of 1445 (by decide +kernel)
theorem sl_X9_tier : Cond.selects (yN mX9_tier).cls (yN mX9_tier) (yN mX9_tier) ∈ zGW := zGW_of 1446 (by decide +kernel)
theorem np_X9_tier : (yN mX9_tier).cls ≠ "java/lang/invoke/MethodHandle" ∧ (yN mX9_tier).cls ≠ "java/lang/invoke/VarHandle" ∧ (parseMethodDescriptor (yN mX9_tier).desc).map (fun d => d.parameters.length) = some 2 := by decide +kernel
theorem cd_X9_file : Cond.code (yN mX9_file) (yC mX9_file) (yL mX9_file) (yR mX9_file) ∈ zGW := zGW_of 1474 (by decide +kernel)
theorem im_X9_file : Cond.instanceMethod (yN mX9_file) ∈ zGW := zGW_of 1472 (by decide +kernel)
theorem sl_X9_file : Cond.selects (yN mX9_file).cls (yN mX9_file) (yN mX9_file) ∈ zGW := zGW_of 1473 (by decide +kernel)
theorem np_X9_file : (yN mX9_file).cls ≠ "java/lang/invoke/MethodHandle" ∧ (yN mX9_file).cls ≠ "java/lang/invoke/VarHandle" ∧ (parseMethodDescriptor (yN mX9_file).desc).map (fun d => d.parameters.length) = some 2 := by decide +kernel
theorem cd_X9_season : Cond.code (yN mX9_season) (yC mX9_season) (yL mX9_season) (yR mX9_season) ∈ zGW := zGW_of 1486 (by decide +kernel)
theorem im_X9_season : Cond.instanceMethod (yN mX9_season) ∈ zGW := zGW_of 1484 (by decide +kernel)
theorem sl_X9_season : Cond.selects (yN mX9_season).cls (yN mX9_season) (yN mX9_season) ∈ zGW := zGW_of 1485 (by decide +kernel)
theorem np_X9_season : (yN mX9_season).cls ≠ "java/lang/invoke/MethodHandle" ∧ (yN mX9_season).cls ≠ "java/lang/invoke/VarHandle" ∧ (parseMethodDescriptor (yN mX9_season).desc).map (fun d => d.parameters.length) = some 2 := by decide +kernel
theorem cd_X9_kept : Cond.code (yN mX9_kept) (yC mX9_kept) (yL mX9_kept) (yR mX9_kept) ∈ zGW := zGW_of 1490 (by decide +kernel)
theorem im_X9_kept : Cond.instanceMethod (yN mX9_kept) ∈ zGW := zGW_of 1488 (by decide +kernel)
theorem sl_X9_kept : Cond.selects (yN mX9_kept).cls (yN mX9_kept) (yN mX9_kept) ∈ zGW := zGW_of 1489 (by decide +kernel)
theorem np_X9_kept : (yN mX9_kept).cls ≠ "java/lang/invoke/MethodHandle" ∧ (yN mX9_kept).cls ≠ "java/lang/invoke/VarHandle" ∧ (parseMethodDescriptor (yN mX9_kept).desc).map (fun d => d.parameters.length) = some 2 := by decide +kernel
theorem cd_X9_forecast : Cond.code (yN mX9_forecast) (yC mX9_forecast) (yL mX9_forecast) (yR mX9_forecast) ∈ zGW := zGW_of 1494 (by decide +kernel)
theorem im_X9_forecast : Cond.instanceMethod (yN mX9_forecast) ∈ zGW := zGW_of 1492 (by decide +kernel)
theorem sl_X9_forecast : Cond.selects (yN mX9_forecast).cls (yN mX9_forecast) (yN mX9_forecast) ∈ zGW := zGW_of 1493 (by decide +kernel)
theorem np_X9_forecast : (yN mX9_forecast).cls ≠ "java/lang/invoke/MethodHandle" ∧ (yN mX9_forecast).cls ≠ "java/lang/invoke/VarHandle" ∧ (parseMethodDescriptor (yN mX9_forecast).desc).map (fun d => d.parameters.length) = some 2 := by decide +kernel
theorem cd_X9_off : Cond.code (yN mX9_off) (yC mX9_off) (yL mX9_off) (yR mX9_off) ∈ zGW := zGW_of 1498 (by decide +kernel)
theorem im_X9_off : Cond.instanceMethod (yN mX9_off) ∈ zGW := zGW_of 1496 (by decide +kernel)
theorem sl_X9_off : Cond.selects (yN mX9_off).cls (yN mX9_off) (yN mX9_off) ∈ zGW := zGW_of 1497 (by decide +kernel)
theorem np_X9_off : (yN mX9_off).cls ≠ "java/lang/invoke/MethodHandle" ∧ (yN mX9_off).cls ≠ "java/lang/invoke/VarHandle" ∧ (parseMethodDescriptor (yN mX9_off).desc).map (fun d => d.parameters.length) = some 1 := by decide +kernel
theorem cd_X9_meanOff : Cond.code (yN mX9_meanOff) (yC mX9_meanOff) (yL mX9_meanOff) (yR mX9_meanOff) ∈ zGW := zGW_of 1502 (by decide +kernel)
theorem im_X9_meanOff : Cond.instanceMethod (yN mX9_meanOff) ∈ zGW := zGW_of 1500 (by decide +kernel)
theorem sl_X9_meanOff : Cond.selects (yN mX9_meanOff).cls (yN mX9_meanOff) (yN mX9_meanOff) ∈ zGW := zGW_of 1501 (by decide +kernel)
theorem np_X9_meanOff : (yN mX9_meanOff).cls ≠ "java/lang/invoke/MethodHandle" ∧ (yN mX9_meanOff).cls ≠ "java/lang/invoke/VarHandle" ∧ (parseMethodDescriptor (yN mX9_meanOff).desc).map (fun d => d.parameters.length) = some 0 := by decide +kernel
theorem cd_X9_cycleOf : Cond.code (yN mX9_cycleOf) (yC mX9_cycleOf) (yL mX9_cycleOf) (yR mX9_cycleOf) ∈ zGW := zGW_of 1506 (by decide +kernel)
theorem im_X9_cycleOf : Cond.instanceMethod (yN mX9_cycleOf) ∈ zGW := zGW_of 1504 (by decide +kernel)
theorem sl_X9_cycleOf : Cond.selects (yN mX9_cycleOf).cls (yN mX9_cycleOf) (yN mX9_cycleOf) ∈ zGW := zGW_of 1505 (by decide +kernel)
theorem np_X9_cycleOf : (yN mX9_cycleOf).cls ≠ "java/lang/invoke/MethodHandle" ∧ (yN mX9_cycleOf).cls ≠ "java/lang/invoke/VarHandle" ∧ (parseMethodDescriptor (yN mX9_cycleOf).desc).map (fun d => d.parameters.length) = some 1 := by decide +kernel
theorem cd_X9_commonCycle : Cond.code (yN mX9_commonCycle) (yC mX9_commonCycle) (yL mX9_commonCycle) (yR mX9_commonCycle) ∈ zGW := zGW_of 1518 (by decide +kernel)
theorem im_X9_commonCycle : Cond.instanceMethod (yN mX9_commonCycle) ∈ zGW := zGW_of 1516 (by decide +kernel)
theorem sl_X9_commonCycle : Cond.selects (yN mX9_commonCycle).cls (yN mX9_commonCycle) (yN mX9_commonCycle) ∈ zGW := zGW_of 1517 (by decide +kernel)
theorem np_X9_commonCycle : (yN mX9_commonCycle).cls ≠ "java/lang/invoke/MethodHandle" ∧ (yN mX9_commonCycle).cls ≠ "java/lang/invoke/VarHandle" ∧ (parseMethodDescriptor (yN mX9_commonCycle).desc).map (fun d => d.parameters.length) = some 0 := by decide +kernel
theorem cd_X9_sumOf : Cond.code (yN mX9_sumOf) (yC mX9_sumOf) (yL mX9_sumOf) (yR mX9_sumOf) ∈ zGW := zGW_of 1526 (by decide +kernel)
theorem im_X9_sumOf : Cond.instanceMethod (yN mX9_sumOf) ∈ zGW := zGW_of 1525 (by decide +kernel)
theorem sl_X9_sumOf : Cond.selects (yN mX9_sumOf).cls (yN mX9_sumOf) (yN mX9_sumOf) ∈ zGW := zGW_of 63 (by decide +kernel)
theorem np_X9_sumOf : (yN mX9_sumOf).cls ≠ "java/lang/invoke/MethodHandle" ∧ (yN mX9_sumOf).cls ≠ "java/lang/invoke/VarHandle" ∧ (parseMethodDescriptor (yN mX9_sumOf).desc).map (fun d => d.parameters.length) = some 2 := by decide +kernel
theorem cd_X9_account : Cond.code (yN mX9_account) (yC mX9_account) (yL mX9_account) (yR mX9_account) ∈ zGW := zGW_of 1522 (by decide +kernel)
theorem im_X9_account : Cond.instanceMethod (yN mX9_account) ∈ zGW := zGW_of 1520 (by decide +kernel)
theorem sl_X9_account : Cond.selects (yN mX9_account).cls (yN mX9_account) (yN mX9_account) ∈ zGW := zGW_of 1521 (by decide +kernel)
theorem np_X9_account : (yN mX9_account).cls ≠ "java/lang/invoke/MethodHandle" ∧ (yN mX9_account).cls ≠ "java/lang/invoke/VarHandle" ∧ (parseMethodDescriptor (yN mX9_account).desc).map (fun d => d.parameters.length) = some 2 := by decide +kernel
theorem cd_X9_movingShare : Cond.code (yN mX9_movingShare) (yC mX9_movingShare) (yL mX9_movingShare) (yR mX9_movingShare) ∈ zGW := zGW_of 1530 (by decide +kernel)
theorem im_X9_movingShare : Cond.instanceMethod (yN mX9_movingShare) ∈ zGW := zGW_of 1528 (by decide +kernel)
theorem sl_X9_movingShare : Cond.selects (yN mX9_movingShare).cls (yN mX9_movingShare) (yN mX9_movingShare) ∈ zGW := zGW_of 1529 (by decide +kernel)
theorem np_X9_movingShare : (yN mX9_movingShare).cls ≠ "java/lang/invoke/MethodHandle" ∧ (yN mX9_movingShare).cls ≠ "java/lang/invoke/VarHandle" ∧ (parseMethodDescriptor (yN mX9_movingShare).desc).map (fun d => d.parameters.length) = some 0 := by decide +kernel
theorem cd_X9_costOn : Cond.code (yN mX9_costOn) (yC mX9_costOn) (yL mX9_costOn) (yR mX9_costOn) ∈ zGW := zGW_of 1541 (by decide +kernel)
theorem im_X9_costOn : Cond.instanceMethod (yN mX9_costOn) ∈ zGW := zGW_of 1540 (by decide +kernel)
theorem sl_X9_costOn : Cond.selects (yN mX9_costOn).cls (yN mX9_costOn) (yN mX9_costOn) ∈ zGW := zGW_of 64 (by decide +kernel)
theorem np_X9_costOn : (yN mX9_costOn).cls ≠ "java/lang/invoke/MethodHandle" ∧ (yN mX9_costOn).cls ≠ "java/lang/invoke/VarHandle" ∧ (parseMethodDescriptor (yN mX9_costOn).desc).map (fun d => d.parameters.length) = some 3 := by decide +kernel
theorem cd_X9_savesBy : Cond.code (yN mX9_savesBy) (yC mX9_savesBy) (yL mX9_savesBy) (yR mX9_savesBy) ∈ zGW := zGW_of 1554 (by decide +kernel)
theorem im_X9_savesBy : Cond.instanceMethod (yN mX9_savesBy) ∈ zGW := zGW_of 1553 (by decide +kernel)
theorem sl_X9_savesBy : Cond.selects (yN mX9_savesBy).cls (yN mX9_savesBy) (yN mX9_savesBy) ∈ zGW := zGW_of 66 (by decide +kernel)
theorem np_X9_savesBy : (yN mX9_savesBy).cls ≠ "java/lang/invoke/MethodHandle" ∧ (yN mX9_savesBy).cls ≠ "java/lang/invoke/VarHandle" ∧ (parseMethodDescriptor (yN mX9_savesBy).desc).map (fun d => d.parameters.length) = some 3 := by decide +kernel
theorem cd_X9_laysCosts : Cond.code (yN mX9_laysCosts) (yC mX9_laysCosts) (yL mX9_laysCosts) (yR mX9_laysCosts) ∈ zGW := zGW_of 1550 (by decide +kernel)
theorem im_X9_laysCosts : Cond.instanceMethod (yN mX9_laysCosts) ∈ zGW := zGW_of 1549 (by decide +kernel)
theorem sl_X9_laysCosts : Cond.selects (yN mX9_laysCosts).cls (yN mX9_laysCosts) (yN mX9_laysCosts) ∈ zGW := zGW_of 65 (by decide +kernel)
theorem np_X9_laysCosts : (yN mX9_laysCosts).cls ≠ "java/lang/invoke/MethodHandle" ∧ (yN mX9_laysCosts).cls ≠ "java/lang/invoke/VarHandle" ∧ (parseMethodDescriptor (yN mX9_laysCosts).desc).map (fun d => d.parameters.length) = some 1 := by decide +kernel
theorem cd_X9_canGo : Cond.code (yN mX9_canGo) (yC mX9_canGo) (yL mX9_canGo) (yR mX9_canGo) ∈ zGW := zGW_of 1574 (by decide +kernel)
theorem im_X9_canGo : Cond.instanceMethod (yN mX9_canGo) ∈ zGW := zGW_of 1573 (by decide +kernel)
theorem sl_X9_canGo : Cond.selects (yN mX9_canGo).cls (yN mX9_canGo) (yN mX9_canGo) ∈ zGW := zGW_of 70 (by decide +kernel)
theorem np_X9_canGo : (yN mX9_canGo).cls ≠ "java/lang/invoke/MethodHandle" ∧ (yN mX9_canGo).cls ≠ "java/lang/invoke/VarHandle" ∧ (parseMethodDescriptor (yN mX9_canGo).desc).map (fun d => d.parameters.length) = some 1 := by decide +kernel
theorem cd_X9_found : Cond.code (yN mX9_found) (yC mX9_found) (yL mX9_found) (yR mX9_found) ∈ zGW := zGW_of 1578 (by decide +kernel)
theorem im_X9_found : Cond.instanceMethod (yN mX9_found) ∈ zGW := zGW_of 1577 (by decide +kernel)
theorem sl_X9_found : Cond.selects (yN mX9_found).cls (yN mX9_found) (yN mX9_found) ∈ zGW := zGW_of 71 (by decide +kernel)
theorem np_X9_found : (yN mX9_found).cls ≠ "java/lang/invoke/MethodHandle" ∧ (yN mX9_found).cls ≠ "java/lang/invoke/VarHandle" ∧ (parseMethodDescriptor (yN mX9_found).desc).map (fun d => d.parameters.length) = some 4 := by decide +kernel
theorem cd_X9_findsMove : Cond.code (yN mX9_findsMove) (yC mX9_findsMove) (yL mX9_findsMove) (yR mX9_findsMove) ∈ zGW := zGW_of 1570 (by decide +kernel)
theorem im_X9_findsMove : Cond.instanceMethod (yN mX9_findsMove) ∈ zGW := zGW_of 1569 (by decide +kernel)
theorem sl_X9_findsMove : Cond.selects (yN mX9_findsMove).cls (yN mX9_findsMove) (yN mX9_findsMove) ∈ zGW := zGW_of 69 (by decide +kernel)
theorem np_X9_findsMove : (yN mX9_findsMove).cls ≠ "java/lang/invoke/MethodHandle" ∧ (yN mX9_findsMove).cls ≠ "java/lang/invoke/VarHandle" ∧ (parseMethodDescriptor (yN mX9_findsMove).desc).map (fun d => d.parameters.length) = some 0 := by decide +kernel
theorem cd_X9_findsExchange : Cond.code (yN mX9_findsExchange) (yC mX9_findsExchange) (yL mX9_findsExchange) (yR mX9_findsExchange) ∈ zGW := zGW_of 1582 (by decide +kernel)
theorem im_X9_findsExchange : Cond.instanceMethod (yN mX9_findsExchange) ∈ zGW := zGW_of 1581 (by decide +kernel)
theorem sl_X9_findsExchange : Cond.selects (yN mX9_findsExchange).cls (yN mX9_findsExchange) (yN mX9_findsExchange) ∈ zGW := zGW_of 72 (by decide +kernel)
theorem np_X9_findsExchange : (yN mX9_findsExchange).cls ≠ "java/lang/invoke/MethodHandle" ∧ (yN mX9_findsExchange).cls ≠ "java/lang/invoke/VarHandle" ∧ (parseMethodDescriptor (yN mX9_findsExchange).desc).map (fun d => d.parameters.length) = some 0 := by decide +kernel
theorem cd_X9_goesOnPaper : Cond.code (yN mX9_goesOnPaper) (yC mX9_goesOnPaper) (yL mX9_goesOnPaper) (yR mX9_goesOnPaper) ∈ zGW := zGW_of 1586 (by decide +kernel)
theorem im_X9_goesOnPaper : Cond.instanceMethod (yN mX9_goesOnPaper) ∈ zGW := zGW_of 1585 (by decide +kernel)
theorem sl_X9_goesOnPaper : Cond.selects (yN mX9_goesOnPaper).cls (yN mX9_goesOnPaper) (yN mX9_goesOnPaper) ∈ zGW := zGW_of 73 (by decide +kernel)
theorem np_X9_goesOnPaper : (yN mX9_goesOnPaper).cls ≠ "java/lang/invoke/MethodHandle" ∧ (yN mX9_goesOnPaper).cls ≠ "java/lang/invoke/VarHandle" ∧ (parseMethodDescriptor (yN mX9_goesOnPaper).desc).map (fun d => d.parameters.length) = some 2 := by decide +kernel
theorem cd_X9_plans : Cond.code (yN mX9_plans) (yC mX9_plans) (yL mX9_plans) (yR mX9_plans) ∈ zGW := zGW_of 1562 (by decide +kernel)
theorem im_X9_plans : Cond.instanceMethod (yN mX9_plans) ∈ zGW := zGW_of 1561 (by decide +kernel)
theorem sl_X9_plans : Cond.selects (yN mX9_plans).cls (yN mX9_plans) (yN mX9_plans) ∈ zGW := zGW_of 67 (by decide +kernel)
theorem np_X9_plans : (yN mX9_plans).cls ≠ "java/lang/invoke/MethodHandle" ∧ (yN mX9_plans).cls ≠ "java/lang/invoke/VarHandle" ∧ (parseMethodDescriptor (yN mX9_plans).desc).map (fun d => d.parameters.length) = some 3 := by decide +kernel
theorem cd_X9_findsStep : Cond.code (yN mX9_findsStep) (yC mX9_findsStep) (yL mX9_findsStep) (yR mX9_findsStep) ∈ zGW := zGW_of 1566 (by decide +kernel)
theorem im_X9_findsStep : Cond.instanceMethod (yN mX9_findsStep) ∈ zGW := zGW_of 1565 (by decide +kernel)
theorem sl_X9_findsStep : Cond.selects (yN mX9_findsStep).cls (yN mX9_findsStep) (yN mX9_findsStep) ∈ zGW := zGW_of 68 (by decide +kernel)
theorem np_X9_findsStep : (yN mX9_findsStep).cls ≠ "java/lang/invoke/MethodHandle" ∧ (yN mX9_findsStep).cls ≠ "java/lang/invoke/VarHandle" ∧ (parseMethodDescriptor (yN mX9_findsStep).desc).map (fun d => d.parameters.length) = some 0 := by decide +kernel
theorem cd_X9_isSpan : Cond.code (yN mX9_isSpan) (yC mX9_isSpan) (yL mX9_isSpan) (yR mX9_isSpan) ∈ zGW := zGW_of 1537 (by decide +kernel)
theorem st_X9_isSpan : Cond.static (yN mX9_isSpan) ∈ zGW := zGW_of 1536 (by decide +kernel)
theorem np_X9_isSpan : (yN mX9_isSpan).cls ≠ "java/lang/invoke/MethodHandle" ∧ (yN mX9_isSpan).cls ≠ "java/lang/invoke/VarHandle" ∧ (parseMethodDescriptor (yN mX9_isSpan).desc).map (fun d => d.parameters.length) = some 1 := by decide +kernel
theorem cd_X9_cost : Cond.code (yN mX9_cost) (yC mX9_cost) (yL mX9_cost) (yR mX9_cost) ∈ zGW := zGW_of 1534 (by decide +kernel)
theorem im_X9_cost : Cond.instanceMethod (yN mX9_cost) ∈ zGW := zGW_of 1532 (by decide +kernel)
theorem sl_X9_cost : Cond.selects (yN mX9_cost).cls (yN mX9_cost) (yN mX9_cost) ∈ zGW := zGW_of 1533 (by decide +kernel)
theorem np_X9_cost : (yN mX9_cost).cls ≠ "java/lang/invoke/MethodHandle" ∧ (yN mX9_cost).cls ≠ "java/lang/invoke/VarHandle" ∧ (parseMethodDescriptor (yN mX9_cost).desc).map (fun d => d.parameters.length) = some 3 := by decide +kernel
theorem cd_X9_wish : Cond.code (yN mX9_wish) (yC mX9_wish) (yL mX9_wish) (yR mX9_wish) ∈ zGW := zGW_of 1546 (by decide +kernel)
theorem im_X9_wish : Cond.instanceMethod (yN mX9_wish) ∈ zGW := zGW_of 1544 (by decide +kernel)
theorem sl_X9_wish : Cond.selects (yN mX9_wish).cls (yN mX9_wish) (yN mX9_wish) ∈ zGW := zGW_of 1545 (by decide +kernel)
theorem np_X9_wish : (yN mX9_wish).cls ≠ "java/lang/invoke/MethodHandle" ∧ (yN mX9_wish).cls ≠ "java/lang/invoke/VarHandle" ∧ (parseMethodDescriptor (yN mX9_wish).desc).map (fun d => d.parameters.length) = some 2 := by decide +kernel
theorem cd_X9_steps : Cond.code (yN mX9_steps) (yC mX9_steps) (yL mX9_steps) (yR mX9_steps) ∈ zGW := zGW_of 1558 (by decide +kernel)
theorem im_X9_steps : Cond.instanceMethod (yN mX9_steps) ∈ zGW := zGW_of 1556 (by decide +kernel)
theorem sl_X9_steps : Cond.selects (yN mX9_steps).cls (yN mX9_steps) (yN mX9_steps) ∈ zGW := zGW_of 1557 (by decide +kernel)
theorem np_X9_steps : (yN mX9_steps).cls ≠ "java/lang/invoke/MethodHandle" ∧ (yN mX9_steps).cls ≠ "java/lang/invoke/VarHandle" ∧ (parseMethodDescriptor (yN mX9_steps).desc).map (fun d => d.parameters.length) = some 1 := by decide +kernel
theorem cd_X9_step : Cond.code (yN mX9_step) (yC mX9_step) (yL mX9_step) (yR mX9_step) ∈ zGW := zGW_of 1590 (by decide +kernel)
theorem im_X9_step : Cond.instanceMethod (yN mX9_step) ∈ zGW := zGW_of 1588 (by decide +kernel)
theorem sl_X9_step : Cond.selects (yN mX9_step).cls (yN mX9_step) (yN mX9_step) ∈ zGW := zGW_of 1589 (by decide +kernel)
theorem np_X9_step : (yN mX9_step).cls ≠ "java/lang/invoke/MethodHandle" ∧ (yN mX9_step).cls ≠ "java/lang/invoke/VarHandle" ∧ (parseMethodDescriptor (yN mX9_step).desc).map (fun d => d.parameters.length) = some 3 := by decide +kernel
theorem cd_X9_saving : Cond.code (yN mX9_saving) (yC mX9_saving) (yL mX9_saving) (yR mX9_saving) ∈ zGW := zGW_of 1594 (by decide +kernel)
theorem im_X9_saving : Cond.instanceMethod (yN mX9_saving) ∈ zGW := zGW_of 1592 (by decide +kernel)
theorem sl_X9_saving : Cond.selects (yN mX9_saving).cls (yN mX9_saving) (yN mX9_saving) ∈ zGW := zGW_of 1593 (by decide +kernel)
theorem np_X9_saving : (yN mX9_saving).cls ≠ "java/lang/invoke/MethodHandle" ∧ (yN mX9_saving).cls ≠ "java/lang/invoke/VarHandle" ∧ (parseMethodDescriptor (yN mX9_saving).desc).map (fun d => d.parameters.length) = some 1 := by decide +kernel
theorem cd_X9_withRoom : Cond.code (yN mX9_withRoom) (yC mX9_withRoom) (yL mX9_withRoom) (yR mX9_withRoom) ∈ zGW := zGW_of 1598 (by decide +kernel)
theorem im_X9_withRoom : Cond.instanceMethod (yN mX9_withRoom) ∈ zGW := zGW_of 1596 (by decide +kernel)
theorem sl_X9_withRoom : Cond.selects (yN mX9_withRoom).cls (yN mX9_withRoom) (yN mX9_withRoom) ∈ zGW := zGW_of 1597 (by decide +kernel)
theorem np_X9_withRoom : (yN mX9_withRoom).cls ≠ "java/lang/invoke/MethodHandle" ∧ (yN mX9_withRoom).cls ≠ "java/lang/invoke/VarHandle" ∧ (parseMethodDescriptor (yN mX9_withRoom).desc).map (fun d => d.parameters.length) = some 3 := by decide +kernel
theorem cd_X9_refused : Cond.code (yN mX9_refused) (yC mX9_refused) (yL mX9_refused) (yR mX9_refused) ∈ zGW := zGW_of 1605 (by decide +kernel)
theorem st_X9_refused : Cond.static (yN mX9_refused) ∈ zGW := zGW_of 1604 (by decide +kernel)
theorem np_X9_refused : (yN mX9_refused).cls ≠ "java/lang/invoke/MethodHandle" ∧ (yN mX9_refused).cls ≠ "java/lang/invoke/VarHandle" ∧ (parseMethodDescriptor (yN mX9_refused).desc).map (fun d => d.parameters.length) = some 1 := by decide +kernel
theorem cd_X9_add : Cond.code (yN mX9_add) (yC mX9_add) (yL mX9_add) (yR mX9_add) ∈ zGW := zGW_of 1602 (by decide +kernel)
theorem im_X9_add : Cond.instanceMethod (yN mX9_add) ∈ zGW := zGW_of 1600 (by decide +kernel)
theorem sl_X9_add : Cond.selects (yN mX9_add).cls (yN mX9_add) (yN mX9_add) ∈ zGW := zGW_of 1601 (by decide +kernel)
theorem np_X9_add : (yN mX9_add).cls ≠ "java/lang/invoke/MethodHandle" ∧ (yN mX9_add).cls ≠ "java/lang/invoke/VarHandle" ∧ (parseMethodDescriptor (yN mX9_add).desc).map (fun d => d.parameters.length) = some 2 := by decide +kernel
theorem cd_X9_drop : Cond.code (yN mX9_drop) (yC mX9_drop) (yL mX9_drop) (yR mX9_drop) ∈ zGW := zGW_of 1609 (by decide +kernel)
theorem im_X9_drop : Cond.instanceMethod (yN mX9_drop) ∈ zGW := zGW_of 1607 (by decide +kernel)
theorem sl_X9_drop : Cond.selects (yN mX9_drop).cls (yN mX9_drop) (yN mX9_drop) ∈ zGW := zGW_of 1608 (by decide +kernel)
theorem np_X9_drop : (yN mX9_drop).cls ≠ "java/lang/invoke/MethodHandle" ∧ (yN mX9_drop).cls ≠ "java/lang/invoke/VarHandle" ∧ (parseMethodDescriptor (yN mX9_drop).desc).map (fun d => d.parameters.length) = some 1 := by decide +kernel
theorem cd_X9_use : Cond.code (yN mX9_use) (yC mX9_use) (yL mX9_use) (yR mX9_use) ∈ zGW := zGW_of 1613 (by decide +kernel)
theorem im_X9_use : Cond.instanceMethod (yN mX9_use) ∈ zGW := zGW_of 1611 (by decide +kernel)
theorem sl_X9_use : Cond.selects (yN mX9_use).cls (yN mX9_use) (yN mX9_use) ∈ zGW := zGW_of 1612 (by decide +kernel)
theorem np_X9_use : (yN mX9_use).cls ≠ "java/lang/invoke/MethodHandle" ∧ (yN mX9_use).cls ≠ "java/lang/invoke/VarHandle" ∧ (parseMethodDescriptor (yN mX9_use).desc).map (fun d => d.parameters.length) = some 2 := by decide +kernel
theorem cd_X9_pays : Cond.code (yN mX9_pays) (yC mX9_pays) (yL mX9_pays) (yR mX9_pays) ∈ zGW := zGW_of 1626 (by decide +kernel)
theorem im_X9_pays : Cond.instanceMethod (yN mX9_pays) ∈ zGW := zGW_of 1625 (by decide +kernel)
theorem sl_X9_pays : Cond.selects (yN mX9_pays).cls (yN mX9_pays) (yN mX9_pays) ∈ zGW := zGW_of 75 (by decide +kernel)
theorem np_X9_pays : (yN mX9_pays).cls ≠ "java/lang/invoke/MethodHandle" ∧ (yN mX9_pays).cls ≠ "java/lang/invoke/VarHandle" ∧ (parseMethodDescriptor (yN mX9_pays).desc).map (fun d => d.parameters.length) = some 3 := by decide +kernel
theorem cd_X9_closes : Cond.code (yN mX9_closes) (yC mX9_closes) (yL mX9_closes) (yR mX9_closes) ∈ zGW := zGW_of 1622 (by decide +kernel)
theorem im_X9_closes : Cond.instanceMethod (yN mX9_closes) ∈ zGW := zGW_of 1621 (by decide +kernel)
theorem sl_X9_closes : Cond.selects (yN mX9_closes).cls (yN mX9_closes) (yN mX9_closes) ∈ zGW := zGW_of 74 (by decide +kernel)
theorem np_X9_closes : (yN mX9_closes).cls ≠ "java/lang/invoke/MethodHandle" ∧ (yN mX9_closes).cls ≠ "java/lang/invoke/VarHandle" ∧ (parseMethodDescriptor (yN mX9_closes).desc).map (fun d => d.parameters.length) = some 1 := by decide +kernel
theorem cd_X9_close : Cond.code (yN mX9_close) (yC mX9_close) (yL mX9_close) (yR mX9_close) ∈ zGW := zGW_of 1617 (by decide +kernel)
theorem im_X9_close : Cond.instanceMethod (yN mX9_close) ∈ zGW := zGW_of 1615 (by decide +kernel)
theorem sl_X9_close : Cond.selects (yN mX9_close).cls (yN mX9_close) (yN mX9_close) ∈ zGW := zGW_of 1616 (by decide +kernel)
theorem np_X9_close : (yN mX9_close).cls ≠ "java/lang/invoke/MethodHandle" ∧ (yN mX9_close).cls ≠ "java/lang/invoke/VarHandle" ∧ (parseMethodDescriptor (yN mX9_close).desc).map (fun d => d.parameters.length) = some 0 := by decide +kernel
theorem cd_X9_goes : Cond.code (yN mX9_goes) (yC mX9_goes) (yL mX9_goes) (yR mX9_goes) ∈ zGW := zGW_of 1642 (by decide +kernel)
theorem im_X9_goes : Cond.instanceMethod (yN mX9_goes) ∈ zGW := zGW_of 1641 (by decide +kernel)
theorem sl_X9_goes : Cond.selects (yN mX9_goes).cls (yN mX9_goes) (yN mX9_goes) ∈ zGW := zGW_of 78 (by decide +kernel)
theorem np_X9_goes : (yN mX9_goes).cls ≠ "java/lang/invoke/MethodHandle" ∧ (yN mX9_goes).cls ≠ "java/lang/invoke/VarHandle" ∧ (parseMethodDescriptor (yN mX9_goes).desc).map (fun d => d.parameters.length) = some 2 := by decide +kernel
theorem cd_X9_move : Cond.code (yN mX9_move) (yC mX9_move) (yL mX9_move) (yR mX9_move) ∈ zGW := zGW_of 1638 (by decide +kernel)
theorem im_X9_move : Cond.instanceMethod (yN mX9_move) ∈ zGW := zGW_of 1636 (by decide +kernel)
theorem sl_X9_move : Cond.selects (yN mX9_move).cls (yN mX9_move) (yN mX9_move) ∈ zGW := zGW_of 1637 (by decide +kernel)
theorem np_X9_move : (yN mX9_move).cls ≠ "java/lang/invoke/MethodHandle" ∧ (yN mX9_move).cls ≠ "java/lang/invoke/VarHandle" ∧ (parseMethodDescriptor (yN mX9_move).desc).map (fun d => d.parameters.length) = some 2 := by decide +kernel
theorem cd_X9_unmove : Cond.code (yN mX9_unmove) (yC mX9_unmove) (yL mX9_unmove) (yR mX9_unmove) ∈ zGW := zGW_of 1647 (by decide +kernel)
theorem im_X9_unmove : Cond.instanceMethod (yN mX9_unmove) ∈ zGW := zGW_of 1645 (by decide +kernel)
theorem sl_X9_unmove : Cond.selects (yN mX9_unmove).cls (yN mX9_unmove) (yN mX9_unmove) ∈ zGW := zGW_of 1646 (by decide +kernel)
theorem np_X9_unmove : (yN mX9_unmove).cls ≠ "java/lang/invoke/MethodHandle" ∧ (yN mX9_unmove).cls ≠ "java/lang/invoke/VarHandle" ∧ (parseMethodDescriptor (yN mX9_unmove).desc).map (fun d => d.parameters.length) = some 0 := by decide +kernel
theorem cd_X9_pin : Cond.code (yN mX9_pin) (yC mX9_pin) (yL mX9_pin) (yR mX9_pin) ∈ zGW := zGW_of 1651 (by decide +kernel)
theorem im_X9_pin : Cond.instanceMethod (yN mX9_pin) ∈ zGW := zGW_of 1649 (by decide +kernel)
theorem sl_X9_pin : Cond.selects (yN mX9_pin).cls (yN mX9_pin) (yN mX9_pin) ∈ zGW := zGW_of 1650 (by decide +kernel)
theorem np_X9_pin : (yN mX9_pin).cls ≠ "java/lang/invoke/MethodHandle" ∧ (yN mX9_pin).cls ≠ "java/lang/invoke/VarHandle" ∧ (parseMethodDescriptor (yN mX9_pin).desc).map (fun d => d.parameters.length) = some 2 := by decide +kernel
theorem cd_X9_act : Cond.code (yN mX9_act) (yC mX9_act) (yL mX9_act) (yR mX9_act) ∈ zGW := zGW_of 1655 (by decide +kernel)
theorem im_X9_act : Cond.instanceMethod (yN mX9_act) ∈ zGW := zGW_of 1653 (by decide +kernel)
theorem sl_X9_act : Cond.selects (yN mX9_act).cls (yN mX9_act) (yN mX9_act) ∈ zGW := zGW_of 1654 (by decide +kernel)
theorem np_X9_act : (yN mX9_act).cls ≠ "java/lang/invoke/MethodHandle" ∧ (yN mX9_act).cls ≠ "java/lang/invoke/VarHandle" ∧ (parseMethodDescriptor (yN mX9_act).desc).map (fun d => d.parameters.length) = some 1 := by decide +kernel
theorem cd_X9_learn : Cond.code (yN mX9_learn) (yC mX9_learn) (yL mX9_learn) (yR mX9_learn) ∈ zGW := zGW_of 1659 (by decide +kernel)
theorem im_X9_learn : Cond.instanceMethod (yN mX9_learn) ∈ zGW := zGW_of 1657 (by decide +kernel)
theorem sl_X9_learn : Cond.selects (yN mX9_learn).cls (yN mX9_learn) (yN mX9_learn) ∈ zGW := zGW_of 1658 (by decide +kernel)
theorem np_X9_learn : (yN mX9_learn).cls ≠ "java/lang/invoke/MethodHandle" ∧ (yN mX9_learn).cls ≠ "java/lang/invoke/VarHandle" ∧ (parseMethodDescriptor (yN mX9_learn).desc).map (fun d => d.parameters.length) = some 2 := by decide +kernel
theorem cd_X9_setTier : Cond.code (yN mX9_setTier) (yC mX9_setTier) (yL mX9_setTier) (yR mX9_setTier) ∈ zGW := zGW_of 1667 (by decide +kernel)
theorem im_X9_setTier : Cond.instanceMethod (yN mX9_setTier) ∈ zGW := zGW_of 1665 (by decide +kernel)
theorem sl_X9_setTier : Cond.selects (yN mX9_setTier).cls (yN mX9_setTier) (yN mX9_setTier) ∈ zGW := zGW_of 1666 (by decide +kernel)
theorem np_X9_setTier : (yN mX9_setTier).cls ≠ "java/lang/invoke/MethodHandle" ∧ (yN mX9_setTier).cls ≠ "java/lang/invoke/VarHandle" ∧ (parseMethodDescriptor (yN mX9_setTier).desc).map (fun d => d.parameters.length) = some 3 := by decide +kernel
theorem cd_X9_says : Cond.code (yN mX9_says) (yC mX9_says) (yL mX9_says) (yR mX9_says) ∈ zGW := zGW_of 1676 (by decide +kernel)
theorem im_X9_says : Cond.instanceMethod (yN mX9_says) ∈ zGW := zGW_of 1675 (by decide +kernel)
theorem sl_X9_says : Cond.selects (yN mX9_says).cls (yN mX9_says) (yN mX9_says) ∈ zGW := zGW_of 80 (by decide +kernel)
theorem np_X9_says : (yN mX9_says).cls ≠ "java/lang/invoke/MethodHandle" ∧ (yN mX9_says).cls ≠ "java/lang/invoke/VarHandle" ∧ (parseMethodDescriptor (yN mX9_says).desc).map (fun d => d.parameters.length) = some 1 := by decide +kernel
theorem cd_X9_saysName : Cond.code (yN mX9_saysName) (yC mX9_saysName) (yL mX9_saysName) (yR mX9_saysName) ∈ zGW := zGW_of 1680 (by decide +kernel)
theorem im_X9_saysName : Cond.instanceMethod (yN mX9_saysName) ∈ zGW := zGW_of 1679 (by decide +kernel)
theorem sl_X9_saysName : Cond.selects (yN mX9_saysName).cls (yN mX9_saysName) (yN mX9_saysName) ∈ zGW := zGW_of 81 (by decide +kernel)
theorem np_X9_saysName : (yN mX9_saysName).cls ≠ "java/lang/invoke/MethodHandle" ∧ (yN mX9_saysName).cls ≠ "java/lang/invoke/VarHandle" ∧ (parseMethodDescriptor (yN mX9_saysName).desc).map (fun d => d.parameters.length) = some 1 := by decide +kernel
theorem cd_X9_writeTiers : Cond.code (yN mX9_writeTiers) (yC mX9_writeTiers) (yL mX9_writeTiers) (yR mX9_writeTiers) ∈ zGW := zGW_of 1671 (by decide +kernel)
theorem im_X9_writeTiers : Cond.instanceMethod (yN mX9_writeTiers) ∈ zGW := zGW_of 1669 (by decide +kernel)
theorem sl_X9_writeTiers : Cond.selects (yN mX9_writeTiers).cls (yN mX9_writeTiers) (yN mX9_writeTiers) ∈ zGW := zGW_of 1670 (by decide +kernel)
theorem np_X9_writeTiers : (yN mX9_writeTiers).cls ≠ "java/lang/invoke/MethodHandle" ∧ (yN mX9_writeTiers).cls ≠ "java/lang/invoke/VarHandle" ∧ (parseMethodDescriptor (yN mX9_writeTiers).desc).map (fun d => d.parameters.length) = some 0 := by decide +kernel
theorem cd_X9_writtenByte : Cond.code (yN mX9_writtenByte) (yC mX9_writtenByte) (yL mX9_writtenByte) (yR mX9_writtenByte) ∈ zGW := zGW_of 1687 (by decide +kernel)
theorem im_X9_writtenByte : Cond.instanceMethod (yN mX9_writtenByte) ∈ zGW := zGW_of 1685 (by decide +kernel)
theorem sl_X9_writtenByte : Cond.selects (yN mX9_writtenByte).cls (yN mX9_writtenByte) (yN mX9_writtenByte) ∈ zGW := zGW_of 1686 (by decide +kernel)
theorem np_X9_writtenByte : (yN mX9_writtenByte).cls ≠ "java/lang/invoke/MethodHandle" ∧ (yN mX9_writtenByte).cls ≠ "java/lang/invoke/VarHandle" ∧ (parseMethodDescriptor (yN mX9_writtenByte).desc).map (fun d => d.parameters.length) = some 1 := by decide +kernel
theorem cd_J9_floorMod_7cf53 : Cond.code (yN mJ9_floorMod_7cf53) (yC mJ9_floorMod_7cf53) (yL mJ9_floorMod_7cf53) (yR mJ9_floorMod_7cf53) ∈ zGW := zGW_of 1122 (by decide +kernel)
theorem st_J9_floorMod_7cf53 : Cond.static (yN mJ9_floorMod_7cf53) ∈ zGW := zGW_of 1121 (by decide +kernel)
theorem iw_J9_floorMod_7cf53 : Cond.initialized (yN mJ9_floorMod_7cf53).cls ∈ zGW := zGW_of 102 (by decide +kernel)
theorem np_J9_floorMod_7cf53 : (yN mJ9_floorMod_7cf53).cls ≠ "java/lang/invoke/MethodHandle" ∧ (yN mJ9_floorMod_7cf53).cls ≠ "java/lang/invoke/VarHandle" ∧ (parseMethodDescriptor (yN mJ9_floorMod_7cf53).desc).map (fun d => d.parameters.length) = some 2 := by decide +kernel
theorem cd_J9_abs_0f7a4 : Cond.code (yN mJ9_abs_0f7a4) (yC mJ9_abs_0f7a4) (yL mJ9_abs_0f7a4) (yR mJ9_abs_0f7a4) ∈ zGW := zGW_of 629 (by decide +kernel)
theorem st_J9_abs_0f7a4 : Cond.static (yN mJ9_abs_0f7a4) ∈ zGW := zGW_of 628 (by decide +kernel)
theorem np_J9_abs_0f7a4 : (yN mJ9_abs_0f7a4).cls ≠ "java/lang/invoke/MethodHandle" ∧ (yN mJ9_abs_0f7a4).cls ≠ "java/lang/invoke/VarHandle" ∧ (parseMethodDescriptor (yN mJ9_abs_0f7a4).desc).map (fun d => d.parameters.length) = some 1 := by decide +kernel
theorem cd_J9_max_7cf53 : Cond.code (yN mJ9_max_7cf53) (yC mJ9_max_7cf53) (yL mJ9_max_7cf53) (yR mJ9_max_7cf53) ∈ zGW := zGW_of 1470 (by decide +kernel)
theorem st_J9_max_7cf53 : Cond.static (yN mJ9_max_7cf53) ∈ zGW := zGW_of 1469 (by decide +kernel)
theorem np_J9_max_7cf53 : (yN mJ9_max_7cf53).cls ≠ "java/lang/invoke/MethodHandle" ∧ (yN mJ9_max_7cf53).cls ≠ "java/lang/invoke/VarHandle" ∧ (parseMethodDescriptor (yN mJ9_max_7cf53).desc).map (fun d => d.parameters.length) = some 2 := by decide +kernel
theorem cd_J9_min_7cf53 : Cond.code (yN mJ9_min_7cf53) (yC mJ9_min_7cf53) (yL mJ9_min_7cf53) (yR mJ9_min_7cf53) ∈ zGW := zGW_of 1341 (by decide +kernel)
theorem st_J9_min_7cf53 : Cond.static (yN mJ9_min_7cf53) ∈ zGW := zGW_of 1340 (by decide +kernel)
theorem np_J9_min_7cf53 : (yN mJ9_min_7cf53).cls ≠ "java/lang/invoke/MethodHandle" ∧ (yN mJ9_min_7cf53).cls ≠ "java/lang/invoke/VarHandle" ∧ (parseMethodDescriptor (yN mJ9_min_7cf53).desc).map (fun d => d.parameters.length) = some 2 := by decide +kernel
theorem cd_J0_length_8abf5 : Cond.code (yN mJ0_length_8abf5) (yC mJ0_length_8abf5) (yL mJ0_length_8abf5) (yR mJ0_length_8abf5) ∈ zGW := zGW_of 457 (by decide +kernel)
theorem im_J0_length_8abf5 : Cond.instanceMethod (yN mJ0_length_8abf5) ∈ zGW := zGW_of 455 (by decide +kernel)
theorem sl_J0_length_8abf5 : Cond.selects (yN mJ0_length_8abf5).cls (yN mJ0_length_8abf5) (yN mJ0_length_8abf5) ∈ zGW := zGW_of 456 (by decide +kernel)
theorem iw_J0_length_8abf5 : Cond.initialized (yN mJ0_length_8abf5).cls ∈ zGW := zGW_of 97 (by decide +kernel)
theorem np_J0_length_8abf5 : (yN mJ0_length_8abf5).cls ≠ "java/lang/invoke/MethodHandle" ∧ (yN mJ0_length_8abf5).cls ≠ "java/lang/invoke/VarHandle" ∧ (parseMethodDescriptor (yN mJ0_length_8abf5).desc).map (fun d => d.parameters.length) = some 0 := by decide +kernel
theorem cd_J0_charAt_5068e : Cond.code (yN mJ0_charAt_5068e) (yC mJ0_charAt_5068e) (yL mJ0_charAt_5068e) (yR mJ0_charAt_5068e) ∈ zGW := zGW_of 467 (by decide +kernel)
theorem im_J0_charAt_5068e : Cond.instanceMethod (yN mJ0_charAt_5068e) ∈ zGW := zGW_of 465 (by decide +kernel)
theorem sl_J0_charAt_5068e : Cond.selects (yN mJ0_charAt_5068e).cls (yN mJ0_charAt_5068e) (yN mJ0_charAt_5068e) ∈ zGW := zGW_of 466 (by decide +kernel)
theorem np_J0_charAt_5068e : (yN mJ0_charAt_5068e).cls ≠ "java/lang/invoke/MethodHandle" ∧ (yN mJ0_charAt_5068e).cls ≠ "java/lang/invoke/VarHandle" ∧ (parseMethodDescriptor (yN mJ0_charAt_5068e).desc).map (fun d => d.parameters.length) = some 1 := by decide +kernel
theorem cd_J0_coder_7d493 : Cond.code (yN mJ0_coder_7d493) (yC mJ0_coder_7d493) (yL mJ0_coder_7d493) (yR mJ0_coder_7d493) ∈ zGW := zGW_of 461 (by decide +kernel)
theorem im_J0_coder_7d493 : Cond.instanceMethod (yN mJ0_coder_7d493) ∈ zGW := zGW_of 459 (by decide +kernel)
theorem sl_J0_coder_7d493 : Cond.selects (yN mJ0_coder_7d493).cls (yN mJ0_coder_7d493) (yN mJ0_coder_7d493) ∈ zGW := zGW_of 460 (by decide +kernel)
theorem np_J0_coder_7d493 : (yN mJ0_coder_7d493).cls ≠ "java/lang/invoke/MethodHandle" ∧ (yN mJ0_coder_7d493).cls ≠ "java/lang/invoke/VarHandle" ∧ (parseMethodDescriptor (yN mJ0_coder_7d493).desc).map (fun d => d.parameters.length) = some 0 := by decide +kernel
theorem cd_J0_isLatin1_aae02 : Cond.code (yN mJ0_isLatin1_aae02) (yC mJ0_isLatin1_aae02) (yL mJ0_isLatin1_aae02) (yR mJ0_isLatin1_aae02) ∈ zGW := zGW_of 471 (by decide +kernel)
theorem im_J0_isLatin1_aae02 : Cond.instanceMethod (yN mJ0_isLatin1_aae02) ∈ zGW := zGW_of 469 (by decide +kernel)
theorem sl_J0_isLatin1_aae02 : Cond.selects (yN mJ0_isLatin1_aae02).cls (yN mJ0_isLatin1_aae02) (yN mJ0_isLatin1_aae02) ∈ zGW := zGW_of 470 (by decide +kernel)
theorem np_J0_isLatin1_aae02 : (yN mJ0_isLatin1_aae02).cls ≠ "java/lang/invoke/MethodHandle" ∧ (yN mJ0_isLatin1_aae02).cls ≠ "java/lang/invoke/VarHandle" ∧ (parseMethodDescriptor (yN mJ0_isLatin1_aae02).desc).map (fun d => d.parameters.length) = some 0 := by decide +kernel
theorem cd_J0_checkIndex_df160 : Cond.code (yN mJ0_checkIndex_df160) (yC mJ0_checkIndex_df160) (yL mJ0_checkIndex_df160) (yR mJ0_checkIndex_df160) ∈ zGW := zGW_of 477 (by decide +kernel)
theorem st_J0_checkIndex_df160 : Cond.static (yN mJ0_checkIndex_df160) ∈ zGW := zGW_of 476 (by decide +kernel)
theorem np_J0_checkIndex_df160 : (yN mJ0_checkIndex_df160).cls ≠ "java/lang/invoke/MethodHandle" ∧ (yN mJ0_checkIndex_df160).cls ≠ "java/lang/invoke/VarHandle" ∧ (parseMethodDescriptor (yN mJ0_checkIndex_df160).desc).map (fun d => d.parameters.length) = some 2 := by decide +kernel
theorem cd_J1_charAt_3b067 : Cond.code (yN mJ1_charAt_3b067) (yC mJ1_charAt_3b067) (yL mJ1_charAt_3b067) (yR mJ1_charAt_3b067) ∈ zGW := zGW_of 474 (by decide +kernel)
theorem st_J1_charAt_3b067 : Cond.static (yN mJ1_charAt_3b067) ∈ zGW := zGW_of 473 (by decide +kernel)
theorem iw_J1_charAt_3b067 : Cond.initialized (yN mJ1_charAt_3b067).cls ∈ zGW := zGW_of 98 (by decide +kernel)
theorem np_J1_charAt_3b067 : (yN mJ1_charAt_3b067).cls ≠ "java/lang/invoke/MethodHandle" ∧ (yN mJ1_charAt_3b067).cls ≠ "java/lang/invoke/VarHandle" ∧ (parseMethodDescriptor (yN mJ1_charAt_3b067).desc).map (fun d => d.parameters.length) = some 2 := by decide +kernel
theorem cd_J2_getChar_3b067 : Cond.code (yN mJ2_getChar_3b067) (yC mJ2_getChar_3b067) (yL mJ2_getChar_3b067) (yR mJ2_getChar_3b067) ∈ zGW := zGW_of 495 (by decide +kernel)
theorem st_J2_getChar_3b067 : Cond.static (yN mJ2_getChar_3b067) ∈ zGW := zGW_of 494 (by decide +kernel)
theorem iw_J2_getChar_3b067 : Cond.initialized (yN mJ2_getChar_3b067).cls ∈ zGW := zGW_of 100 (by decide +kernel)
theorem np_J2_getChar_3b067 : (yN mJ2_getChar_3b067).cls ≠ "java/lang/invoke/MethodHandle" ∧ (yN mJ2_getChar_3b067).cls ≠ "java/lang/invoke/VarHandle" ∧ (parseMethodDescriptor (yN mJ2_getChar_3b067).desc).map (fun d => d.parameters.length) = some 2 := by decide +kernel
theorem cd_J2_length_9d52b : Cond.code (yN mJ2_length_9d52b) (yC mJ2_length_9d52b) (yL mJ2_length_9d52b) (yR mJ2_length_9d52b) ∈ zGW := zGW_of 491 (by decide +kernel)
theorem st_J2_length_9d52b : Cond.static (yN mJ2_length_9d52b) ∈ zGW := zGW_of 490 (by decide +kernel)
theorem np_J2_length_9d52b : (yN mJ2_length_9d52b).cls ≠ "java/lang/invoke/MethodHandle" ∧ (yN mJ2_length_9d52b).cls ≠ "java/lang/invoke/VarHandle" ∧ (parseMethodDescriptor (yN mJ2_length_9d52b).desc).map (fun d => d.parameters.length) = some 1 := by decide +kernel
theorem cd_J2_charAt_3b067 : Cond.code (yN mJ2_charAt_3b067) (yC mJ2_charAt_3b067) (yL mJ2_charAt_3b067) (yR mJ2_charAt_3b067) ∈ zGW := zGW_of 485 (by decide +kernel)
theorem st_J2_charAt_3b067 : Cond.static (yN mJ2_charAt_3b067) ∈ zGW := zGW_of 484 (by decide +kernel)
theorem np_J2_charAt_3b067 : (yN mJ2_charAt_3b067).cls ≠ "java/lang/invoke/MethodHandle" ∧ (yN mJ2_charAt_3b067).cls ≠ "java/lang/invoke/VarHandle" ∧ (parseMethodDescriptor (yN mJ2_charAt_3b067).desc).map (fun d => d.parameters.length) = some 2 := by decide +kernel
theorem cd_J2_checkIndex_2214a : Cond.code (yN mJ2_checkIndex_2214a) (yC mJ2_checkIndex_2214a) (yL mJ2_checkIndex_2214a) (yR mJ2_checkIndex_2214a) ∈ zGW := zGW_of 488 (by decide +kernel)
theorem st_J2_checkIndex_2214a : Cond.static (yN mJ2_checkIndex_2214a) ∈ zGW := zGW_of 487 (by decide +kernel)
theorem np_J2_checkIndex_2214a : (yN mJ2_checkIndex_2214a).cls ≠ "java/lang/invoke/MethodHandle" ∧ (yN mJ2_checkIndex_2214a).cls ≠ "java/lang/invoke/VarHandle" ∧ (parseMethodDescriptor (yN mJ2_checkIndex_2214a).desc).map (fun d => d.parameters.length) = some 2 := by decide +kernel
theorem cd_J3_checkIndex_8e157 : Cond.code (yN mJ3_checkIndex_8e157) (yC mJ3_checkIndex_8e157) (yL mJ3_checkIndex_8e157) (yR mJ3_checkIndex_8e157) ∈ zGW := zGW_of 482 (by decide +kernel)
theorem st_J3_checkIndex_8e157 : Cond.static (yN mJ3_checkIndex_8e157) ∈ zGW := zGW_of 481 (by decide +kernel)
theorem iw_J3_checkIndex_8e157 : Cond.initialized (yN mJ3_checkIndex_8e157).cls ∈ zGW := zGW_of 99 (by decide +kernel)
theorem np_J3_checkIndex_8e157 : (yN mJ3_checkIndex_8e157).cls ≠ "java/lang/invoke/MethodHandle" ∧ (yN mJ3_checkIndex_8e157).cls ≠ "java/lang/invoke/VarHandle" ∧ (parseMethodDescriptor (yN mJ3_checkIndex_8e157).desc).map (fun d => d.parameters.length) = some 3 := by decide +kernel
theorem cd_L_append : Cond.codeWith (yN mL_append) (yC mL_append) (yL mL_append) (yR mL_append) (yH mL_append) ∈ zGW := zGW_of 719 (by decide +kernel)
theorem st_L_append : Cond.static (yN mL_append) ∈ zGW := zGW_of 718 (by decide +kernel)
theorem iw_L_append : Cond.initialized (yN mL_append).cls ∈ zGW := zGW_of 82 (by decide +kernel)
theorem np_L_append : (yN mL_append).cls ≠ "java/lang/invoke/MethodHandle" ∧ (yN mL_append).cls ≠ "java/lang/invoke/VarHandle" ∧ (parseMethodDescriptor (yN mL_append).desc).map (fun d => d.parameters.length) = some 7 := by decide +kernel
theorem cd_L_count : Cond.codeWith (yN mL_count) (yC mL_count) (yL mL_count) (yR mL_count) (yH mL_count) ∈ zGW := zGW_of 797 (by decide +kernel)
theorem st_L_count : Cond.static (yN mL_count) ∈ zGW := zGW_of 796 (by decide +kernel)
theorem np_L_count : (yN mL_count).cls ≠ "java/lang/invoke/MethodHandle" ∧ (yN mL_count).cls ≠ "java/lang/invoke/VarHandle" ∧ (parseMethodDescriptor (yN mL_count).desc).map (fun d => d.parameters.length) = some 3 := by decide +kernel
theorem cd_L_tier : Cond.codeWith (yN mL_tier) (yC mL_tier) (yL mL_tier) (yR mL_tier) (yH mL_tier) ∈ zGW := zGW_of 832 (by decide +kernel)
theorem st_L_tier : Cond.static (yN mL_tier) ∈ zGW := zGW_of 831 (by decide +kernel)
theorem np_L_tier : (yN mL_tier).cls ≠ "java/lang/invoke/MethodHandle" ∧ (yN mL_tier).cls ≠ "java/lang/invoke/VarHandle" ∧ (parseMethodDescriptor (yN mL_tier).desc).map (fun d => d.parameters.length) = some 4 := by decide +kernel
theorem cd_L_file : Cond.codeWith (yN mL_file) (yC mL_file) (yL mL_file) (yR mL_file) (yH mL_file) ∈ zGW := zGW_of 869 (by decide +kernel)
theorem st_L_file : Cond.static (yN mL_file) ∈ zGW := zGW_of 868 (by decide +kernel)
theorem np_L_file : (yN mL_file).cls ≠ "java/lang/invoke/MethodHandle" ∧ (yN mL_file).cls ≠ "java/lang/invoke/VarHandle" ∧ (parseMethodDescriptor (yN mL_file).desc).map (fun d => d.parameters.length) = some 4 := by decide +kernel
theorem cd_L_season : Cond.codeWith (yN mL_season) (yC mL_season) (yL mL_season) (yR mL_season) (yH mL_season) ∈ zGW := zGW_of 891 (by decide +kernel)
theorem st_L_season : Cond.static (yN mL_season) ∈ zGW := zGW_of 890 (by decide +kernel)
theorem np_L_season : (yN mL_season).cls ≠ "java/lang/invoke/MethodHandle" ∧ (yN mL_season).cls ≠ "java/lang/invoke/VarHandle" ∧ (parseMethodDescriptor (yN mL_season).desc).map (fun d => d.parameters.length) = some 4 := by decide +kernel
theorem cd_L_kept : Cond.codeWith (yN mL_kept) (yC mL_kept) (yL mL_kept) (yR mL_kept) (yH mL_kept) ∈ zGW := zGW_of 898 (by decide +kernel)
theorem st_L_kept : Cond.static (yN mL_kept) ∈ zGW := zGW_of 897 (by decide +kernel)
theorem np_L_kept : (yN mL_kept).cls ≠ "java/lang/invoke/MethodHandle" ∧ (yN mL_kept).cls ≠ "java/lang/invoke/VarHandle" ∧ (parseMethodDescriptor (yN mL_kept).desc).map (fun d => d.parameters.length) = some 4 := by decide +kernel
theorem cd_L_forecast : Cond.codeWith (yN mL_forecast) (yC mL_forecast) (yL mL_forecast) (yR mL_forecast) (yH mL_forecast) ∈ zGW := zGW_of 905 (by decide +kernel)
theorem st_L_forecast : Cond.static (yN mL_forecast) ∈ zGW := zGW_of 904 (by decide +kernel)
theorem np_L_forecast : (yN mL_forecast).cls ≠ "java/lang/invoke/MethodHandle" ∧ (yN mL_forecast).cls ≠ "java/lang/invoke/VarHandle" ∧ (parseMethodDescriptor (yN mL_forecast).desc).map (fun d => d.parameters.length) = some 4 := by decide +kernel
theorem cd_L_off : Cond.codeWith (yN mL_off) (yC mL_off) (yL mL_off) (yR mL_off) (yH mL_off) ∈ zGW := zGW_of 914 (by decide +kernel)
theorem st_L_off : Cond.static (yN mL_off) ∈ zGW := zGW_of 913 (by decide +kernel)
theorem np_L_off : (yN mL_off).cls ≠ "java/lang/invoke/MethodHandle" ∧ (yN mL_off).cls ≠ "java/lang/invoke/VarHandle" ∧ (parseMethodDescriptor (yN mL_off).desc).map (fun d => d.parameters.length) = some 3 := by decide +kernel
theorem cd_L_cycleOf : Cond.codeWith (yN mL_cycleOf) (yC mL_cycleOf) (yL mL_cycleOf) (yR mL_cycleOf) (yH mL_cycleOf) ∈ zGW := zGW_of 921 (by decide +kernel)
theorem st_L_cycleOf : Cond.static (yN mL_cycleOf) ∈ zGW := zGW_of 920 (by decide +kernel)
theorem np_L_cycleOf : (yN mL_cycleOf).cls ≠ "java/lang/invoke/MethodHandle" ∧ (yN mL_cycleOf).cls ≠ "java/lang/invoke/VarHandle" ∧ (parseMethodDescriptor (yN mL_cycleOf).desc).map (fun d => d.parameters.length) = some 3 := by decide +kernel
theorem cd_L_account : Cond.codeWith (yN mL_account) (yC mL_account) (yL mL_account) (yR mL_account) (yH mL_account) ∈ zGW := zGW_of 928 (by decide +kernel)
theorem st_L_account : Cond.static (yN mL_account) ∈ zGW := zGW_of 927 (by decide +kernel)
theorem np_L_account : (yN mL_account).cls ≠ "java/lang/invoke/MethodHandle" ∧ (yN mL_account).cls ≠ "java/lang/invoke/VarHandle" ∧ (parseMethodDescriptor (yN mL_account).desc).map (fun d => d.parameters.length) = some 4 := by decide +kernel
theorem cd_L_cost : Cond.codeWith (yN mL_cost) (yC mL_cost) (yL mL_cost) (yR mL_cost) (yH mL_cost) ∈ zGW := zGW_of 939 (by decide +kernel)
theorem st_L_cost : Cond.static (yN mL_cost) ∈ zGW := zGW_of 938 (by decide +kernel)
theorem np_L_cost : (yN mL_cost).cls ≠ "java/lang/invoke/MethodHandle" ∧ (yN mL_cost).cls ≠ "java/lang/invoke/VarHandle" ∧ (parseMethodDescriptor (yN mL_cost).desc).map (fun d => d.parameters.length) = some 5 := by decide +kernel
theorem cd_L_wish : Cond.codeWith (yN mL_wish) (yC mL_wish) (yL mL_wish) (yR mL_wish) (yH mL_wish) ∈ zGW := zGW_of 959 (by decide +kernel)
theorem st_L_wish : Cond.static (yN mL_wish) ∈ zGW := zGW_of 958 (by decide +kernel)
theorem np_L_wish : (yN mL_wish).cls ≠ "java/lang/invoke/MethodHandle" ∧ (yN mL_wish).cls ≠ "java/lang/invoke/VarHandle" ∧ (parseMethodDescriptor (yN mL_wish).desc).map (fun d => d.parameters.length) = some 4 := by decide +kernel
theorem cd_L_steps : Cond.codeWith (yN mL_steps) (yC mL_steps) (yL mL_steps) (yR mL_steps) (yH mL_steps) ∈ zGW := zGW_of 980 (by decide +kernel)
theorem st_L_steps : Cond.static (yN mL_steps) ∈ zGW := zGW_of 979 (by decide +kernel)
theorem np_L_steps : (yN mL_steps).cls ≠ "java/lang/invoke/MethodHandle" ∧ (yN mL_steps).cls ≠ "java/lang/invoke/VarHandle" ∧ (parseMethodDescriptor (yN mL_steps).desc).map (fun d => d.parameters.length) = some 3 := by decide +kernel
theorem cd_L_step : Cond.codeWith (yN mL_step) (yC mL_step) (yL mL_step) (yR mL_step) (yH mL_step) ∈ zGW := zGW_of 1017 (by decide +kernel)
theorem st_L_step : Cond.static (yN mL_step) ∈ zGW := zGW_of 1016 (by decide +kernel)
theorem np_L_step : (yN mL_step).cls ≠ "java/lang/invoke/MethodHandle" ∧ (yN mL_step).cls ≠ "java/lang/invoke/VarHandle" ∧ (parseMethodDescriptor (yN mL_step).desc).map (fun d => d.parameters.length) = some 5 := by decide +kernel
theorem cd_L_saving : Cond.codeWith (yN mL_saving) (yC mL_saving) (yL mL_saving) (yR mL_saving) (yH mL_saving) ∈ zGW := zGW_of 1024 (by decide +kernel)
theorem st_L_saving : Cond.static (yN mL_saving) ∈ zGW := zGW_of 1023 (by decide +kernel)
theorem np_L_saving : (yN mL_saving).cls ≠ "java/lang/invoke/MethodHandle" ∧ (yN mL_saving).cls ≠ "java/lang/invoke/VarHandle" ∧ (parseMethodDescriptor (yN mL_saving).desc).map (fun d => d.parameters.length) = some 3 := by decide +kernel
theorem cd_L_withRoom : Cond.codeWith (yN mL_withRoom) (yC mL_withRoom) (yL mL_withRoom) (yR mL_withRoom) (yH mL_withRoom) ∈ zGW := zGW_of 1031 (by decide +kernel)
theorem st_L_withRoom : Cond.static (yN mL_withRoom) ∈ zGW := zGW_of 1030 (by decide +kernel)
theorem np_L_withRoom : (yN mL_withRoom).cls ≠ "java/lang/invoke/MethodHandle" ∧ (yN mL_withRoom).cls ≠ "java/lang/invoke/VarHandle" ∧ (parseMethodDescriptor (yN mL_withRoom).desc).map (fun d => d.parameters.length) = some 5 := by decide +kernel
theorem cd_L_add : Cond.codeWith (yN mL_add) (yC mL_add) (yL mL_add) (yR mL_add) (yH mL_add) ∈ zGW := zGW_of 1039 (by decide +kernel)
theorem st_L_add : Cond.static (yN mL_add) ∈ zGW := zGW_of 1038 (by decide +kernel)
theorem np_L_add : (yN mL_add).cls ≠ "java/lang/invoke/MethodHandle" ∧ (yN mL_add).cls ≠ "java/lang/invoke/VarHandle" ∧ (parseMethodDescriptor (yN mL_add).desc).map (fun d => d.parameters.length) = some 4 := by decide +kernel
theorem cd_L_drop : Cond.codeWith (yN mL_drop) (yC mL_drop) (yL mL_drop) (yR mL_drop) (yH mL_drop) ∈ zGW := zGW_of 1047 (by decide +kernel)
theorem st_L_drop : Cond.static (yN mL_drop) ∈ zGW := zGW_of 1046 (by decide +kernel)
theorem np_L_drop : (yN mL_drop).cls ≠ "java/lang/invoke/MethodHandle" ∧ (yN mL_drop).cls ≠ "java/lang/invoke/VarHandle" ∧ (parseMethodDescriptor (yN mL_drop).desc).map (fun d => d.parameters.length) = some 3 := by decide +kernel
theorem cd_L_use : Cond.codeWith (yN mL_use) (yC mL_use) (yL mL_use) (yR mL_use) (yH mL_use) ∈ zGW := zGW_of 1066 (by decide +kernel)
theorem st_L_use : Cond.static (yN mL_use) ∈ zGW := zGW_of 1065 (by decide +kernel)
theorem np_L_use : (yN mL_use).cls ≠ "java/lang/invoke/MethodHandle" ∧ (yN mL_use).cls ≠ "java/lang/invoke/VarHandle" ∧ (parseMethodDescriptor (yN mL_use).desc).map (fun d => d.parameters.length) = some 4 := by decide +kernel
theorem cd_L_move : Cond.codeWith (yN mL_move) (yC mL_move) (yL mL_move) (yR mL_move) (yH mL_move) ∈ zGW := zGW_of 1073 (by decide +kernel)
theorem st_L_move : Cond.static (yN mL_move) ∈ zGW := zGW_of 1072 (by decide +kernel)
theorem np_L_move : (yN mL_move).cls ≠ "java/lang/invoke/MethodHandle" ∧ (yN mL_move).cls ≠ "java/lang/invoke/VarHandle" ∧ (parseMethodDescriptor (yN mL_move).desc).map (fun d => d.parameters.length) = some 4 := by decide +kernel
theorem cd_L_pin : Cond.codeWith (yN mL_pin) (yC mL_pin) (yL mL_pin) (yR mL_pin) (yH mL_pin) ∈ zGW := zGW_of 1088 (by decide +kernel)
theorem st_L_pin : Cond.static (yN mL_pin) ∈ zGW := zGW_of 1087 (by decide +kernel)
theorem np_L_pin : (yN mL_pin).cls ≠ "java/lang/invoke/MethodHandle" ∧ (yN mL_pin).cls ≠ "java/lang/invoke/VarHandle" ∧ (parseMethodDescriptor (yN mL_pin).desc).map (fun d => d.parameters.length) = some 4 := by decide +kernel
theorem cd_L_act : Cond.codeWith (yN mL_act) (yC mL_act) (yL mL_act) (yR mL_act) (yH mL_act) ∈ zGW := zGW_of 1095 (by decide +kernel)
theorem st_L_act : Cond.static (yN mL_act) ∈ zGW := zGW_of 1094 (by decide +kernel)
theorem np_L_act : (yN mL_act).cls ≠ "java/lang/invoke/MethodHandle" ∧ (yN mL_act).cls ≠ "java/lang/invoke/VarHandle" ∧ (parseMethodDescriptor (yN mL_act).desc).map (fun d => d.parameters.length) = some 3 := by decide +kernel
theorem cd_L_learn : Cond.codeWith (yN mL_learn) (yC mL_learn) (yL mL_learn) (yR mL_learn) (yH mL_learn) ∈ zGW := zGW_of 1107 (by decide +kernel)
theorem st_L_learn : Cond.static (yN mL_learn) ∈ zGW := zGW_of 1106 (by decide +kernel)
theorem np_L_learn : (yN mL_learn).cls ≠ "java/lang/invoke/MethodHandle" ∧ (yN mL_learn).cls ≠ "java/lang/invoke/VarHandle" ∧ (parseMethodDescriptor (yN mL_learn).desc).map (fun d => d.parameters.length) = some 4 := by decide +kernel
theorem cd_L_setTier : Cond.codeWith (yN mL_setTier) (yC mL_setTier) (yL mL_setTier) (yR mL_setTier) (yH mL_setTier) ∈ zGW := zGW_of 1126 (by decide +kernel)
theorem st_L_setTier : Cond.static (yN mL_setTier) ∈ zGW := zGW_of 1125 (by decide +kernel)
theorem np_L_setTier : (yN mL_setTier).cls ≠ "java/lang/invoke/MethodHandle" ∧ (yN mL_setTier).cls ≠ "java/lang/invoke/VarHandle" ∧ (parseMethodDescriptor (yN mL_setTier).desc).map (fun d => d.parameters.length) = some 5 := by decide +kernel
theorem cd_L_undo : Cond.codeWith (yN mL_undo) (yC mL_undo) (yL mL_undo) (yR mL_undo) (yH mL_undo) ∈ zGW := zGW_of 1135 (by decide +kernel)
theorem st_L_undo : Cond.static (yN mL_undo) ∈ zGW := zGW_of 1134 (by decide +kernel)
theorem np_L_undo : (yN mL_undo).cls ≠ "java/lang/invoke/MethodHandle" ∧ (yN mL_undo).cls ≠ "java/lang/invoke/VarHandle" ∧ (parseMethodDescriptor (yN mL_undo).desc).map (fun d => d.parameters.length) = some 2 := by decide +kernel
theorem cd_L_save : Cond.codeWith (yN mL_save) (yC mL_save) (yL mL_save) (yR mL_save) (yH mL_save) ∈ zGW := zGW_of 1146 (by decide +kernel)
theorem st_L_save : Cond.static (yN mL_save) ∈ zGW := zGW_of 1145 (by decide +kernel)
theorem np_L_save : (yN mL_save).cls ≠ "java/lang/invoke/MethodHandle" ∧ (yN mL_save).cls ≠ "java/lang/invoke/VarHandle" ∧ (parseMethodDescriptor (yN mL_save).desc).map (fun d => d.parameters.length) = some 2 := by decide +kernel
theorem cd_L_restore : Cond.codeWith (yN mL_restore) (yC mL_restore) (yL mL_restore) (yR mL_restore) (yH mL_restore) ∈ zGW := zGW_of 1156 (by decide +kernel)
theorem st_L_restore : Cond.static (yN mL_restore) ∈ zGW := zGW_of 1155 (by decide +kernel)
theorem np_L_restore : (yN mL_restore).cls ≠ "java/lang/invoke/MethodHandle" ∧ (yN mL_restore).cls ≠ "java/lang/invoke/VarHandle" ∧ (parseMethodDescriptor (yN mL_restore).desc).map (fun d => d.parameters.length) = some 3 := by decide +kernel
theorem cd_L_writtenByte : Cond.codeWith (yN mL_writtenByte) (yC mL_writtenByte) (yL mL_writtenByte) (yR mL_writtenByte) (yH mL_writtenByte) ∈ zGW := zGW_of 1163 (by decide +kernel)
theorem st_L_writtenByte : Cond.static (yN mL_writtenByte) ∈ zGW := zGW_of 1162 (by decide +kernel)
theorem np_L_writtenByte : (yN mL_writtenByte).cls ≠ "java/lang/invoke/MethodHandle" ∧ (yN mL_writtenByte).cls ≠ "java/lang/invoke/VarHandle" ∧ (parseMethodDescriptor (yN mL_writtenByte).desc).map (fun d => d.parameters.length) = some 3 := by decide +kernel
def mL_law : zMD := (yL_law, cL_law, 9, ret, [])
theorem fw_X4_9 : zfw RX4 9 4 0 := ⟨by decide, by decide, uw_4, rfl, rfl, zGW_of 119 (by decide +kernel)⟩
theorem fw_X8_66 : zfw RX8 66 4 0 := ⟨by decide, by decide, uw_4, rfl, rfl, zGW_of 120 (by decide +kernel)⟩
theorem fw_X4_15 : zfw RX4 15 4 1 := ⟨by decide, by decide, uw_4, rfl, rfl, zGW_of 121 (by decide +kernel)⟩
theorem fw_X8_88 : zfw RX8 88 4 1 := ⟨by decide, by decide, uw_4, rfl, rfl, zGW_of 122 (by decide +kernel)⟩
theorem fw_X4_18 : zfw RX4 18 4 2 := ⟨by decide, by decide, uw_4, rfl, rfl, zGW_of 123 (by decide +kernel)⟩
theorem fw_X4_22 : zfw RX4 22 4 3 := ⟨by decide, by decide, uw_4, rfl, rfl, zGW_of 124 (by decide +kernel)⟩
theorem fw_X4_25 : zfw RX4 25 4 4 := ⟨by decide, by decide, uw_4, rfl, rfl, zGW_of 125 (by decide +kernel)⟩
theorem fw_X4_28 : zfw RX4 28 4 5 := ⟨by decide, by decide, uw_4, rfl, rfl, zGW_of 126 (by decide +kernel)⟩
theorem fw_X4_31 : zfw RX4 31 4 6 := ⟨by decide, by decide, uw_4, rfl, rfl, zGW_of 127 (by decide +kernel)⟩
theorem fw_X4_35 : zfw RX4 35 4 7 := ⟨by decide, by decide, uw_4, rfl, rfl, zGW_of 128 (by decide +kernel)⟩
theorem fw_X7_9 : zfw RX7 9 7 0 := ⟨by decide, by decide, uw_7, rfl, rfl, zGW_of 153 (by decide +kernel)⟩
theorem fw_X8_306 : zfw RX8 306 7 0 := ⟨by decide, by decide, uw_7, rfl, rfl, zGW_of 154 (by decide +kernel)⟩
theorem fw_X7_15 : zfw RX7 15 7 1 := ⟨by decide, by decide, uw_7, rfl, rfl, zGW_of 155 (by decide +kernel)⟩
theorem fw_X8_307 : zfw RX8 307 7 1 := ⟨by decide, by decide, uw_7, rfl, rfl, zGW_of 156 (by decide +kernel)⟩
theorem fw_X3_9 : zfw RX3 9 3 0 := ⟨by decide, by decide, uw_3, rfl, rfl, zGW_of 168 (by decide +kernel)⟩
theorem fw_X8_236 : zfw RX8 236 3 0 := ⟨by decide, by decide, uw_3, rfl, rfl, zGW_of 169 (by decide +kernel)⟩
theorem fw_X3_15 : zfw RX3 15 3 1 := ⟨by decide, by decide, uw_3, rfl, rfl, zGW_of 170 (by decide +kernel)⟩
theorem fw_X8_248 : zfw RX8 248 3 1 := ⟨by decide, by decide, uw_3, rfl, rfl, zGW_of 171 (by decide +kernel)⟩
theorem fw_X3_19 : zfw RX3 19 3 2 := ⟨by decide, by decide, uw_3, rfl, rfl, zGW_of 172 (by decide +kernel)⟩
theorem fw_X8_239 : zfw RX8 239 3 2 := ⟨by decide, by decide, uw_3, rfl, rfl, zGW_of 173 (by decide +kernel)⟩
theorem fw_X3_23 : zfw RX3 23 3 3 := ⟨by decide, by decide, uw_3, rfl, rfl, zGW_of 174 (by decide +kernel)⟩
theorem fw_X8_242 : zfw RX8 242 3 3 := ⟨by decide, by decide, uw_3, rfl, rfl, zGW_of 175 (by decide +kernel)⟩
theorem fw_X3_26 : zfw RX3 26 3 4 := ⟨by decide, by decide, uw_3, rfl, rfl, zGW_of 176 (by decide +kernel)⟩
theorem fw_X8_245 : zfw RX8 245 3 4 := ⟨by decide, by decide, uw_3, rfl, rfl, zGW_of 177 (by decide +kernel)⟩
theorem fw_X3_29 : zfw RX3 29 3 5 := ⟨by decide, by decide, uw_3, rfl, rfl, zGW_of 178 (by decide +kernel)⟩
theorem fw_X3_33 : zfw RX3 33 3 6 := ⟨by decide, by decide, uw_3, rfl, rfl, zGW_of 179 (by decide +kernel)⟩
theorem fw_X3_37 : zfw RX3 37 3 7 := ⟨by decide, by decide, uw_3, rfl, rfl, zGW_of 180 (by decide +kernel)⟩
theorem fw_X3_40 : zfw RX3 40 3 8 := ⟨by decide, by decide, uw_3, rfl, rfl, zGW_of 181 (by decide +kernel)⟩
theorem fw_X3_43 : zfw RX3 43 3 9 := ⟨by decide, by decide, uw_3, rfl, rfl, zGW_of 182 (by decide +kernel)⟩
theorem fw_X3_46 : zfw RX3 46 3 10 := ⟨by decide, by decide, uw_3, rfl, rfl, zGW_of 183 (by decide +kernel)⟩
theorem fw_X3_49 : zfw RX3 49 3 11 := ⟨by decide, by decide, uw_3, rfl, rfl, zGW_of 184 (by decide +kernel)⟩
theorem fw_X2_9 : zfw RX2 9 2 0 := ⟨by decide, by decide, uw_2, rfl, rfl, zGW_of 235 (by decide +kernel)⟩
theorem fw_X5_58 : zfw RX5 58 2 0 := ⟨by decide, by decide, uw_2, rfl, rfl, zGW_of 236 (by decide +kernel)⟩
theorem fw_X8_114 : zfw RX8 114 2 0 := ⟨by decide, by decide, uw_2, rfl, rfl, zGW_of 237 (by decide +kernel)⟩
theorem fw_X2_15 : zfw RX2 15 2 1 := ⟨by decide, by decide, uw_2, rfl, rfl, zGW_of 238 (by decide +kernel)⟩
theorem fw_X6_9 : zfw RX6 9 6 0 := ⟨by decide, by decide, uw_6, rfl, rfl, zGW_of 249 (by decide +kernel)⟩
theorem fw_X7_32 : zfw RX7 32 6 0 := ⟨by decide, by decide, uw_6, rfl, rfl, zGW_of 250 (by decide +kernel)⟩
theorem fw_X5_79 : zfw RX5 79 6 0 := ⟨by decide, by decide, uw_6, rfl, rfl, zGW_of 251 (by decide +kernel)⟩
theorem fw_X6_15 : zfw RX6 15 6 1 := ⟨by decide, by decide, uw_6, rfl, rfl, zGW_of 252 (by decide +kernel)⟩
theorem fw_X3_71 : zfw RX3 71 6 1 := ⟨by decide, by decide, uw_6, rfl, rfl, zGW_of 253 (by decide +kernel)⟩
theorem fw_X5_75 : zfw RX5 75 6 1 := ⟨by decide, by decide, uw_6, rfl, rfl, zGW_of 254 (by decide +kernel)⟩
theorem fw_X8_132 : zfw RX8 132 6 1 := ⟨by decide, by decide, uw_6, rfl, rfl, zGW_of 255 (by decide +kernel)⟩
theorem fw_X4_109 : zfw RX4 109 6 1 := ⟨by decide, by decide, uw_6, rfl, rfl, zGW_of 256 (by decide +kernel)⟩
theorem fw_X6_19 : zfw RX6 19 6 2 := ⟨by decide, by decide, uw_6, rfl, rfl, zGW_of 257 (by decide +kernel)⟩
theorem fw_X5_141 : zfw RX5 141 6 2 := ⟨by decide, by decide, uw_6, rfl, rfl, zGW_of 258 (by decide +kernel)⟩
theorem fw_X0_9 : zfw RX0 9 0 0 := ⟨by decide, by decide, uw_0, rfl, rfl, zGW_of 271 (by decide +kernel)⟩
theorem fw_X7_58 : zfw RX7 58 0 0 := ⟨by decide, by decide, uw_0, rfl, rfl, zGW_of 272 (by decide +kernel)⟩
theorem fw_X5_83 : zfw RX5 83 0 0 := ⟨by decide, by decide, uw_0, rfl, rfl, zGW_of 273 (by decide +kernel)⟩
theorem fw_X0_15 : zfw RX0 15 0 1 := ⟨by decide, by decide, uw_0, rfl, rfl, zGW_of 274 (by decide +kernel)⟩
theorem fw_X3_123 : zfw RX3 123 0 1 := ⟨by decide, by decide, uw_0, rfl, rfl, zGW_of 275 (by decide +kernel)⟩
theorem fw_X8_153 : zfw RX8 153 0 1 := ⟨by decide, by decide, uw_0, rfl, rfl, zGW_of 276 (by decide +kernel)⟩
theorem fw_X5_88 : zfw RX5 88 0 1 := ⟨by decide, by decide, uw_0, rfl, rfl, zGW_of 277 (by decide +kernel)⟩
theorem fw_X0_19 : zfw RX0 19 0 2 := ⟨by decide, by decide, uw_0, rfl, rfl, zGW_of 278 (by decide +kernel)⟩
theorem fw_X3_104 : zfw RX3 104 0 2 := ⟨by decide, by decide, uw_0, rfl, rfl, zGW_of 279 (by decide +kernel)⟩
theorem fw_X7_53 : zfw RX7 53 0 2 := ⟨by decide, by decide, uw_0, rfl, rfl, zGW_of 280 (by decide +kernel)⟩
theorem fw_X8_156 : zfw RX8 156 0 2 := ⟨by decide, by decide, uw_0, rfl, rfl, zGW_of 281 (by decide +kernel)⟩
theorem fw_X5_89 : zfw RX5 89 0 2 := ⟨by decide, by decide, uw_0, rfl, rfl, zGW_of 282 (by decide +kernel)⟩
theorem fw_X0_22 : zfw RX0 22 0 3 := ⟨by decide, by decide, uw_0, rfl, rfl, zGW_of 283 (by decide +kernel)⟩
theorem fw_X8_159 : zfw RX8 159 0 3 := ⟨by decide, by decide, uw_0, rfl, rfl, zGW_of 284 (by decide +kernel)⟩
theorem fw_X5_131 : zfw RX5 131 0 3 := ⟨by decide, by decide, uw_0, rfl, rfl, zGW_of 285 (by decide +kernel)⟩
theorem fw_X0_25 : zfw RX0 25 0 4 := ⟨by decide, by decide, uw_0, rfl, rfl, zGW_of 286 (by decide +kernel)⟩
theorem fw_X8_162 : zfw RX8 162 0 4 := ⟨by decide, by decide, uw_0, rfl, rfl, zGW_of 287 (by decide +kernel)⟩
theorem fw_X0_28 : zfw RX0 28 0 5 := ⟨by decide, by decide, uw_0, rfl, rfl, zGW_of 288 (by decide +kernel)⟩
theorem fw_X8_172 : zfw RX8 172 0 5 := ⟨by decide, by decide, uw_0, rfl, rfl, zGW_of 289 (by decide +kernel)⟩
theorem fw_X0_31 : zfw RX0 31 0 6 := ⟨by decide, by decide, uw_0, rfl, rfl, zGW_of 290 (by decide +kernel)⟩
theorem fw_X8_199 : zfw RX8 199 0 6 := ⟨by decide, by decide, uw_0, rfl, rfl, zGW_of 291 (by decide +kernel)⟩
theorem fw_X0_34 : zfw RX0 34 0 7 := ⟨by decide, by decide, uw_0, rfl, rfl, zGW_of 292 (by decide +kernel)⟩
theorem fw_X8_169 : zfw RX8 169 0 7 := ⟨by decide, by decide, uw_0, rfl, rfl, zGW_of 293 (by decide +kernel)⟩
theorem fw_X0_37 : zfw RX0 37 0 8 := ⟨by decide, by decide, uw_0, rfl, rfl, zGW_of 294 (by decide +kernel)⟩
theorem fw_X8_190 : zfw RX8 190 0 8 := ⟨by decide, by decide, uw_0, rfl, rfl, zGW_of 295 (by decide +kernel)⟩
theorem fw_X0_41 : zfw RX0 41 0 9 := ⟨by decide, by decide, uw_0, rfl, rfl, zGW_of 296 (by decide +kernel)⟩
theorem fw_X8_187 : zfw RX8 187 0 9 := ⟨by decide, by decide, uw_0, rfl, rfl, zGW_of 297 (by decide +kernel)⟩
theorem fw_X5_110 : zfw RX5 110 0 9 := ⟨by decide, by decide, uw_0, rfl, rfl, zGW_of 298 (by decide +kernel)⟩
theorem fw_X5_9 : zfw RX5 9 5 0 := ⟨by decide, by decide, uw_5, rfl, rfl, zGW_of 320 (by decide +kernel)⟩
theorem fw_X8_91 : zfw RX8 91 5 0 := ⟨by decide, by decide, uw_5, rfl, rfl, zGW_of 321 (by decide +kernel)⟩
theorem fw_X5_15 : zfw RX5 15 5 1 := ⟨by decide, by decide, uw_5, rfl, rfl, zGW_of 322 (by decide +kernel)⟩
theorem fw_X8_94 : zfw RX8 94 5 1 := ⟨by decide, by decide, uw_5, rfl, rfl, zGW_of 323 (by decide +kernel)⟩
theorem fw_X5_18 : zfw RX5 18 5 2 := ⟨by decide, by decide, uw_5, rfl, rfl, zGW_of 324 (by decide +kernel)⟩
theorem fw_X3_84 : zfw RX3 84 5 2 := ⟨by decide, by decide, uw_5, rfl, rfl, zGW_of 325 (by decide +kernel)⟩
theorem fw_X8_103 : zfw RX8 103 5 2 := ⟨by decide, by decide, uw_5, rfl, rfl, zGW_of 326 (by decide +kernel)⟩
theorem fw_X5_21 : zfw RX5 21 5 3 := ⟨by decide, by decide, uw_5, rfl, rfl, zGW_of 327 (by decide +kernel)⟩
theorem fw_X7_19 : zfw RX7 19 5 3 := ⟨by decide, by decide, uw_5, rfl, rfl, zGW_of 328 (by decide +kernel)⟩
theorem fw_X3_64 : zfw RX3 64 5 3 := ⟨by decide, by decide, uw_5, rfl, rfl, zGW_of 329 (by decide +kernel)⟩
theorem fw_X8_97 : zfw RX8 97 5 3 := ⟨by decide, by decide, uw_5, rfl, rfl, zGW_of 330 (by decide +kernel)⟩
theorem fw_X4_81 : zfw RX4 81 5 3 := ⟨by decide, by decide, uw_5, rfl, rfl, zGW_of 331 (by decide +kernel)⟩
theorem fw_X5_24 : zfw RX5 24 5 4 := ⟨by decide, by decide, uw_5, rfl, rfl, zGW_of 332 (by decide +kernel)⟩
theorem fw_X3_52 : zfw RX3 52 5 4 := ⟨by decide, by decide, uw_5, rfl, rfl, zGW_of 333 (by decide +kernel)⟩
theorem fw_X4_48 : zfw RX4 48 5 4 := ⟨by decide, by decide, uw_5, rfl, rfl, zGW_of 334 (by decide +kernel)⟩
theorem fw_X7_46 : zfw RX7 46 5 4 := ⟨by decide, by decide, uw_5, rfl, rfl, zGW_of 335 (by decide +kernel)⟩
theorem fw_X8_100 : zfw RX8 100 5 4 := ⟨by decide, by decide, uw_5, rfl, rfl, zGW_of 336 (by decide +kernel)⟩
theorem fw_X5_29 : zfw RX5 29 5 5 := ⟨by decide, by decide, uw_5, rfl, rfl, zGW_of 337 (by decide +kernel)⟩
theorem fw_X7_28 : zfw RX7 28 5 5 := ⟨by decide, by decide, uw_5, rfl, rfl, zGW_of 338 (by decide +kernel)⟩
theorem fw_X3_67 : zfw RX3 67 5 5 := ⟨by decide, by decide, uw_5, rfl, rfl, zGW_of 339 (by decide +kernel)⟩
theorem fw_X8_128 : zfw RX8 128 5 5 := ⟨by decide, by decide, uw_5, rfl, rfl, zGW_of 340 (by decide +kernel)⟩
theorem fw_X4_105 : zfw RX4 105 5 5 := ⟨by decide, by decide, uw_5, rfl, rfl, zGW_of 341 (by decide +kernel)⟩
theorem fw_X5_35 : zfw RX5 35 5 6 := ⟨by decide, by decide, uw_5, rfl, rfl, zGW_of 342 (by decide +kernel)⟩
theorem fw_X3_80 : zfw RX3 80 5 6 := ⟨by decide, by decide, uw_5, rfl, rfl, zGW_of 343 (by decide +kernel)⟩
theorem fw_X7_49 : zfw RX7 49 5 6 := ⟨by decide, by decide, uw_5, rfl, rfl, zGW_of 344 (by decide +kernel)⟩
theorem fw_X8_149 : zfw RX8 149 5 6 := ⟨by decide, by decide, uw_5, rfl, rfl, zGW_of 345 (by decide +kernel)⟩
theorem fw_X5_42 : zfw RX5 42 5 7 := ⟨by decide, by decide, uw_5, rfl, rfl, zGW_of 346 (by decide +kernel)⟩
theorem fw_X8_110 : zfw RX8 110 5 7 := ⟨by decide, by decide, uw_5, rfl, rfl, zGW_of 347 (by decide +kernel)⟩
theorem fw_X1_9 : zfw RX1 9 1 0 := ⟨by decide, by decide, uw_1, rfl, rfl, zGW_of 365 (by decide +kernel)⟩
theorem fw_X8_296 : zfw RX8 296 1 0 := ⟨by decide, by decide, uw_1, rfl, rfl, zGW_of 366 (by decide +kernel)⟩
theorem fw_X1_15 : zfw RX1 15 1 1 := ⟨by decide, by decide, uw_1, rfl, rfl, zGW_of 367 (by decide +kernel)⟩
theorem fw_X1_20 : zfw RX1 20 1 2 := ⟨by decide, by decide, uw_1, rfl, rfl, zGW_of 368 (by decide +kernel)⟩
theorem fw_X8_10 : zfw RX8 10 8 0 := ⟨by decide, by decide, uw_8, rfl, rfl, zGW_of 397 (by decide +kernel)⟩
theorem fw_X8_19 : zfw RX8 19 8 1 := ⟨by decide, by decide, uw_8, rfl, rfl, zGW_of 398 (by decide +kernel)⟩
theorem fw_X8_26 : zfw RX8 26 8 2 := ⟨by decide, by decide, uw_8, rfl, rfl, zGW_of 399 (by decide +kernel)⟩
theorem fw_X8_33 : zfw RX8 33 8 3 := ⟨by decide, by decide, uw_8, rfl, rfl, zGW_of 400 (by decide +kernel)⟩
theorem fw_X8_40 : zfw RX8 40 8 4 := ⟨by decide, by decide, uw_8, rfl, rfl, zGW_of 401 (by decide +kernel)⟩
theorem fw_X8_44 : zfw RX8 44 8 5 := ⟨by decide, by decide, uw_8, rfl, rfl, zGW_of 402 (by decide +kernel)⟩
theorem fw_X8_47 : zfw RX8 47 8 6 := ⟨by decide, by decide, uw_8, rfl, rfl, zGW_of 403 (by decide +kernel)⟩
theorem fw_X8_51 : zfw RX8 51 8 7 := ⟨by decide, by decide, uw_8, rfl, rfl, zGW_of 404 (by decide +kernel)⟩
theorem fw_X8_55 : zfw RX8 55 8 8 := ⟨by decide, by decide, uw_8, rfl, rfl, zGW_of 405 (by decide +kernel)⟩
theorem fw_X9_7 : zfw RX9 7 9 0 := ⟨by decide, by decide, uw_9, rfl, rfl, zGW_of 1184 (by decide +kernel)⟩
theorem fw_X9_13 : zfw RX9 13 9 1 := ⟨by decide, by decide, uw_9, rfl, rfl, zGW_of 1185 (by decide +kernel)⟩
theorem fw_X9_16 : zfw RX9 16 9 2 := ⟨by decide, by decide, uw_9, rfl, rfl, zGW_of 1186 (by decide +kernel)⟩
theorem fw_X9_19 : zfw RX9 19 9 3 := ⟨by decide, by decide, uw_9, rfl, rfl, zGW_of 1187 (by decide +kernel)⟩
theorem fw_X9_22 : zfw RX9 22 9 4 := ⟨by decide, by decide, uw_9, rfl, rfl, zGW_of 1188 (by decide +kernel)⟩
theorem fw_X9_72 : zfw RX9 72 9 5 := ⟨by decide, by decide, uw_9, rfl, rfl, zGW_of 1189 (by decide +kernel)⟩
theorem fw_X9_69 : zfw RX9 69 9 6 := ⟨by decide, by decide, uw_9, rfl, rfl, zGW_of 1190 (by decide +kernel)⟩
theorem fw_X9_26 : zfw RX9 26 9 7 := ⟨by decide, by decide, uw_9, rfl, rfl, zGW_of 1191 (by decide +kernel)⟩
theorem fw_X9_95 : zfw RX9 95 9 8 := ⟨by decide, by decide, uw_9, rfl, rfl, zGW_of 1192 (by decide +kernel)⟩
theorem fw_X9_104 : zfw RX9 104 9 9 := ⟨by decide, by decide, uw_9, rfl, rfl, zGW_of 1193 (by decide +kernel)⟩
theorem fw_X9_101 : zfw RX9 101 9 10 := ⟨by decide, by decide, uw_9, rfl, rfl, zGW_of 1194 (by decide +kernel)⟩
theorem fw_X9_110 : zfw RX9 110 9 11 := ⟨by decide, by decide, uw_9, rfl, rfl, zGW_of 1195 (by decide +kernel)⟩
theorem fw_X9_107 : zfw RX9 107 9 12 := ⟨by decide, by decide, uw_9, rfl, rfl, zGW_of 1196 (by decide +kernel)⟩
theorem fw_X9_127 : zfw RX9 127 9 13 := ⟨by decide, by decide, uw_9, rfl, rfl, zGW_of 1197 (by decide +kernel)⟩
theorem fw_X9_140 : zfw RX9 140 9 14 := ⟨by decide, by decide, uw_9, rfl, rfl, zGW_of 1198 (by decide +kernel)⟩
theorem fw_X9_30 : zfw RX9 30 9 15 := ⟨by decide, by decide, uw_9, rfl, rfl, zGW_of 1199 (by decide +kernel)⟩
theorem fw_X9_34 : zfw RX9 34 9 16 := ⟨by decide, by decide, uw_9, rfl, rfl, zGW_of 1200 (by decide +kernel)⟩
theorem fw_X9_37 : zfw RX9 37 9 17 := ⟨by decide, by decide, uw_9, rfl, rfl, zGW_of 1201 (by decide +kernel)⟩
theorem fw_X9_40 : zfw RX9 40 9 18 := ⟨by decide, by decide, uw_9, rfl, rfl, zGW_of 1202 (by decide +kernel)⟩
theorem fw_X9_43 : zfw RX9 43 9 19 := ⟨by decide, by decide, uw_9, rfl, rfl, zGW_of 1203 (by decide +kernel)⟩
theorem fw_X9_46 : zfw RX9 46 9 20 := ⟨by decide, by decide, uw_9, rfl, rfl, zGW_of 1204 (by decide +kernel)⟩
theorem fw_X9_49 : zfw RX9 49 9 21 := ⟨by decide, by decide, uw_9, rfl, rfl, zGW_of 1205 (by decide +kernel)⟩
theorem fw_X9_52 : zfw RX9 52 9 22 := ⟨by decide, by decide, uw_9, rfl, rfl, zGW_of 1206 (by decide +kernel)⟩
theorem fw_X9_300 : zfw RX9 300 9 23 := ⟨by decide, by decide, uw_9, rfl, rfl, zGW_of 1207 (by decide +kernel)⟩
theorem fw_X9_278 : zfw RX9 278 9 24 := ⟨by decide, by decide, uw_9, rfl, rfl, zGW_of 1208 (by decide +kernel)⟩
theorem fw_X9_281 : zfw RX9 281 9 25 := ⟨by decide, by decide, uw_9, rfl, rfl, zGW_of 1209 (by decide +kernel)⟩
theorem fw_X9_284 : zfw RX9 284 9 26 := ⟨by decide, by decide, uw_9, rfl, rfl, zGW_of 1210 (by decide +kernel)⟩
theorem fw_X9_303 : zfw RX9 303 9 27 := ⟨by decide, by decide, uw_9, rfl, rfl, zGW_of 1211 (by decide +kernel)⟩
theorem fw_X9_274 : zfw RX9 274 9 28 := ⟨by decide, by decide, uw_9, rfl, rfl, zGW_of 1212 (by decide +kernel)⟩
theorem fw_X9_345 : zfw RX9 345 9 29 := ⟨by decide, by decide, uw_9, rfl, rfl, zGW_of 1213 (by decide +kernel)⟩
theorem fw_X9_55 : zfw RX9 55 9 30 := ⟨by decide, by decide, uw_9, rfl, rfl, zGW_of 1214 (by decide +kernel)⟩
theorem fw_X9_351 : zfw RX9 351 9 31 := ⟨by decide, by decide, uw_9, rfl, rfl, zGW_of 1215 (by decide +kernel)⟩
theorem pw_0_0 : zpw 0 0 .long false := ⟨⟨tyX0, by decide +kernel⟩, by decide +kernel, by decide, by decide +kernel⟩
theorem pw_0_1 : zpw 0 1 .int false := ⟨⟨tyX0, by decide +kernel⟩, by decide +kernel, by decide, by decide +kernel⟩
theorem pw_0_2 : zpw 0 2 .int false := ⟨⟨tyX0, by decide +kernel⟩, by decide +kernel, by decide, by decide +kernel⟩
theorem pw_0_3 : zpw 0 3 .int false := ⟨⟨tyX0, by decide +kernel⟩, by decide +kernel, by decide, by decide +kernel⟩
theorem pw_0_4 : zpw 0 4 .int false := ⟨⟨tyX0, by decide +kernel⟩, by decide +kernel, by decide, by decide +kernel⟩
theorem pw_0_5 : zpw 0 5 .int false := ⟨⟨tyX0, by decide +kernel⟩, by decide +kernel, by decide, by decide +kernel⟩
theorem pw_0_6 : zpw 0 6 .long false := ⟨⟨tyX0, by decide +kernel⟩, by decide +kernel, by decide, by decide +kernel⟩
theorem pw_0_7 : zpw 0 7 .int false := ⟨⟨tyX0, by decide +kernel⟩, by decide +kernel, by decide, by decide +kernel⟩
theorem pw_0_8 : zpw 0 8 (.array .int) true := ⟨⟨tyX0, by decide +kernel⟩, by decide +kernel, by decide, by decide +kernel⟩
theorem pw_0_9 : zpw 0 9 (.array .int) true := ⟨⟨tyX0, by decide +kernel⟩, by decide +kernel, by decide, by decide +kernel⟩
theorem pw_1_0 : zpw 1 0 .int false := ⟨⟨tyX1, by decide +kernel⟩, by decide +kernel, by decide, by decide +kernel⟩
theorem pw_1_1 : zpw 1 1 .int false := ⟨⟨tyX1, by decide +kernel⟩, by decide +kernel, by decide, by decide +kernel⟩
theorem pw_1_2 : zpw 1 2 (.array (.object "SeasonTiers$Store")) true := ⟨⟨tyX1, by decide +kernel⟩, by decide +kernel, by decide, by decide +kernel⟩
theorem pw_2_0 : zpw 2 0 .int false := ⟨⟨tyX2, by decide +kernel⟩, by decide +kernel, by decide, by decide +kernel⟩
theorem pw_2_1 : zpw 2 1 (.array .int) true := ⟨⟨tyX2, by decide +kernel⟩, by decide +kernel, by decide, by decide +kernel⟩
theorem pw_3_0 : zpw 3 0 .int false := ⟨⟨tyX3, by decide +kernel⟩, by decide +kernel, by decide, by decide +kernel⟩
theorem pw_3_1 : zpw 3 1 .long false := ⟨⟨tyX3, by decide +kernel⟩, by decide +kernel, by decide, by decide +kernel⟩
theorem pw_3_2 : zpw 3 2 (.array .int) true := ⟨⟨tyX3, by decide +kernel⟩, by decide +kernel, by decide, by decide +kernel⟩
theorem pw_3_3 : zpw 3 3 (.array .int) true := ⟨⟨tyX3, by decide +kernel⟩, by decide +kernel, by decide, by decide +kernel⟩
theorem pw_3_4 : zpw 3 4 (.array .int) true := ⟨⟨tyX3, by decide +kernel⟩, by decide +kernel, by decide, by decide +kernel⟩
theorem pw_3_5 : zpw 3 5 (.array .long) true := ⟨⟨tyX3, by decide +kernel⟩, by decide +kernel, by decide, by decide +kernel⟩
theorem pw_3_6 : zpw 3 6 (.array .boolean) true := ⟨⟨tyX3, by decide +kernel⟩, by decide +kernel, by decide, by decide +kernel⟩
theorem pw_3_7 : zpw 3 7 (.array .int) true := ⟨⟨tyX3, by decide +kernel⟩, by decide +kernel, by decide, by decide +kernel⟩
theorem pw_3_8 : zpw 3 8 .int false := ⟨⟨tyX3, by decide +kernel⟩, by decide +kernel, by decide, by decide +kernel⟩
theorem pw_3_9 : zpw 3 9 .int false := ⟨⟨tyX3, by decide +kernel⟩, by decide +kernel, by decide, by decide +kernel⟩
theorem pw_3_10 : zpw 3 10 .int false := ⟨⟨tyX3, by decide +kernel⟩, by decide +kernel, by decide, by decide +kernel⟩
theorem pw_3_11 : zpw 3 11 .long false := ⟨⟨tyX3, by decide +kernel⟩, by decide +kernel, by decide, by decide +kernel⟩
theorem pw_4_0 : zpw 4 0 .int false := ⟨⟨tyX4, by decide +kernel⟩, by decide +kernel, by decide, by decide +kernel⟩
theorem pw_4_1 : zpw 4 1 .int false := ⟨⟨tyX4, by decide +kernel⟩, by decide +kernel, by decide, by decide +kernel⟩
theorem pw_4_2 : zpw 4 2 (.array .int) true := ⟨⟨tyX4, by decide +kernel⟩, by decide +kernel, by decide, by decide +kernel⟩
theorem pw_4_3 : zpw 4 3 .int false := ⟨⟨tyX4, by decide +kernel⟩, by decide +kernel, by decide, by decide +kernel⟩
theorem pw_4_4 : zpw 4 4 .int false := ⟨⟨tyX4, by decide +kernel⟩, by decide +kernel, by decide, by decide +kernel⟩
theorem pw_4_5 : zpw 4 5 .int false := ⟨⟨tyX4, by decide +kernel⟩, by decide +kernel, by decide, by decide +kernel⟩
theorem pw_4_6 : zpw 4 6 .long false := ⟨⟨tyX4, by decide +kernel⟩, by decide +kernel, by decide, by decide +kernel⟩
theorem pw_4_7 : zpw 4 7 .int false := ⟨⟨tyX4, by decide +kernel⟩, by decide +kernel, by decide, by decide +kernel⟩
theorem pw_5_0 : zpw 5 0 .int false := ⟨⟨tyX5, by decide +kernel⟩, by decide +kernel, by decide, by decide +kernel⟩
theorem pw_5_1 : zpw 5 1 .int false := ⟨⟨tyX5, by decide +kernel⟩, by decide +kernel, by decide, by decide +kernel⟩
theorem pw_5_2 : zpw 5 2 .int false := ⟨⟨tyX5, by decide +kernel⟩, by decide +kernel, by decide, by decide +kernel⟩
theorem pw_5_3 : zpw 5 3 .int false := ⟨⟨tyX5, by decide +kernel⟩, by decide +kernel, by decide, by decide +kernel⟩
theorem pw_5_4 : zpw 5 4 .int false := ⟨⟨tyX5, by decide +kernel⟩, by decide +kernel, by decide, by decide +kernel⟩
theorem pw_5_5 : zpw 5 5 (.array (.object "SeasonTiers$TierRow")) true := ⟨⟨tyX5, by decide +kernel⟩, by decide +kernel, by decide, by decide +kernel⟩
theorem pw_5_6 : zpw 5 6 (.array (.object "SeasonTiers$FileRow")) true := ⟨⟨tyX5, by decide +kernel⟩, by decide +kernel, by decide, by decide +kernel⟩
theorem pw_5_7 : zpw 5 7 (.object "SeasonTiers$Moves") true := ⟨⟨tyX5, by decide +kernel⟩, by decide +kernel, by decide, by decide +kernel⟩
theorem pw_6_0 : zpw 6 0 .long false := ⟨⟨tyX6, by decide +kernel⟩, by decide +kernel, by decide, by decide +kernel⟩
theorem pw_6_1 : zpw 6 1 (.array .int) true := ⟨⟨tyX6, by decide +kernel⟩, by decide +kernel, by decide, by decide +kernel⟩
theorem pw_6_2 : zpw 6 2 (.array .long) true := ⟨⟨tyX6, by decide +kernel⟩, by decide +kernel, by decide, by decide +kernel⟩
theorem pw_7_0 : zpw 7 0 .int false := ⟨⟨tyX7, by decide +kernel⟩, by decide +kernel, by decide, by decide +kernel⟩
theorem pw_7_1 : zpw 7 1 (.array .int) true := ⟨⟨tyX7, by decide +kernel⟩, by decide +kernel, by decide, by decide +kernel⟩
theorem pw_8_0 : zpw 8 0 (.object "SeasonTiers$Reader") true := ⟨⟨tyX8, by decide +kernel⟩, by decide +kernel, by decide, by decide +kernel⟩
theorem pw_8_1 : zpw 8 1 (.object "SeasonTiers$Writer") true := ⟨⟨tyX8, by decide +kernel⟩, by decide +kernel, by decide, by decide +kernel⟩
theorem pw_8_2 : zpw 8 2 (.object "SeasonTiers$Planner") true := ⟨⟨tyX8, by decide +kernel⟩, by decide +kernel, by decide, by decide +kernel⟩
theorem pw_8_3 : zpw 8 3 (.object "SeasonTiers$History") true := ⟨⟨tyX8, by decide +kernel⟩, by decide +kernel, by decide, by decide +kernel⟩
theorem pw_8_4 : zpw 8 4 (.object "SeasonTiers$Store") true := ⟨⟨tyX8, by decide +kernel⟩, by decide +kernel, by decide, by decide +kernel⟩
theorem pw_8_5 : zpw 8 5 (.object "SeasonTiers$Store") true := ⟨⟨tyX8, by decide +kernel⟩, by decide +kernel, by decide, by decide +kernel⟩
theorem pw_8_6 : zpw 8 6 (.array (.object "SeasonTiers$Store")) true := ⟨⟨tyX8, by decide +kernel⟩, by decide +kernel, by decide, by decide +kernel⟩
theorem pw_8_7 : zpw 8 7 (.array .boolean) true := ⟨⟨tyX8, by decide +kernel⟩, by decide +kernel, by decide, by decide +kernel⟩
theorem pw_8_8 : zpw 8 8 (.array .int) true := ⟨⟨tyX8, by decide +kernel⟩, by decide +kernel, by decide, by decide +kernel⟩
theorem pw_9_0 : zpw 9 0 (.array .long) true := ⟨⟨tyX9, by decide +kernel⟩, by decide +kernel, by decide, by decide +kernel⟩
theorem pw_9_1 : zpw 9 1 (.array .long) true := ⟨⟨tyX9, by decide +kernel⟩, by decide +kernel, by decide, by decide +kernel⟩
theorem pw_9_2 : zpw 9 2 (.array .long) true := ⟨⟨tyX9, by decide +kernel⟩, by decide +kernel, by decide, by decide +kernel⟩
theorem pw_9_3 : zpw 9 3 (.array .long) true := ⟨⟨tyX9, by decide +kernel⟩, by decide +kernel, by decide, by decide +kernel⟩
theorem pw_9_4 : zpw 9 4 (.array .boolean) true := ⟨⟨tyX9, by decide +kernel⟩, by decide +kernel, by decide, by decide +kernel⟩
theorem pw_9_5 : zpw 9 5 .int false := ⟨⟨tyX9, by decide +kernel⟩, by decide +kernel, by decide, by decide +kernel⟩
theorem pw_9_6 : zpw 9 6 .int false := ⟨⟨tyX9, by decide +kernel⟩, by decide +kernel, by decide, by decide +kernel⟩
theorem pw_9_7 : zpw 9 7 (.array .int) true := ⟨⟨tyX9, by decide +kernel⟩, by decide +kernel, by decide, by decide +kernel⟩
theorem pw_9_8 : zpw 9 8 .int false := ⟨⟨tyX9, by decide +kernel⟩, by decide +kernel, by decide, by decide +kernel⟩
theorem pw_9_9 : zpw 9 9 .int false := ⟨⟨tyX9, by decide +kernel⟩, by decide +kernel, by decide, by decide +kernel⟩
theorem pw_9_10 : zpw 9 10 .int false := ⟨⟨tyX9, by decide +kernel⟩, by decide +kernel, by decide, by decide +kernel⟩
theorem pw_9_11 : zpw 9 11 .int false := ⟨⟨tyX9, by decide +kernel⟩, by decide +kernel, by decide, by decide +kernel⟩
theorem pw_9_12 : zpw 9 12 .int false := ⟨⟨tyX9, by decide +kernel⟩, by decide +kernel, by decide, by decide +kernel⟩
theorem pw_9_13 : zpw 9 13 .int false := ⟨⟨tyX9, by decide +kernel⟩, by decide +kernel, by decide, by decide +kernel⟩
theorem pw_9_14 : zpw 9 14 .int false := ⟨⟨tyX9, by decide +kernel⟩, by decide +kernel, by decide, by decide +kernel⟩
theorem pw_9_15 : zpw 9 15 .int false := ⟨⟨tyX9, by decide +kernel⟩, by decide +kernel, by decide, by decide +kernel⟩
theorem pw_9_16 : zpw 9 16 (.array .int) true := ⟨⟨tyX9, by decide +kernel⟩, by decide +kernel, by decide, by decide +kernel⟩
theorem pw_9_17 : zpw 9 17 (.array .int) true := ⟨⟨tyX9, by decide +kernel⟩, by decide +kernel, by decide, by decide +kernel⟩
theorem pw_9_18 : zpw 9 18 (.array .int) true := ⟨⟨tyX9, by decide +kernel⟩, by decide +kernel, by decide, by decide +kernel⟩
theorem pw_9_19 : zpw 9 19 (.array .int) true := ⟨⟨tyX9, by decide +kernel⟩, by decide +kernel, by decide, by decide +kernel⟩
theorem pw_9_20 : zpw 9 20 (.array .boolean) true := ⟨⟨tyX9, by decide +kernel⟩, by decide +kernel, by decide, by decide +kernel⟩
theorem pw_9_21 : zpw 9 21 (.array .int) true := ⟨⟨tyX9, by decide +kernel⟩, by decide +kernel, by decide, by decide +kernel⟩
theorem pw_9_22 : zpw 9 22 (.array .long) true := ⟨⟨tyX9, by decide +kernel⟩, by decide +kernel, by decide, by decide +kernel⟩
theorem pw_9_23 : zpw 9 23 .int false := ⟨⟨tyX9, by decide +kernel⟩, by decide +kernel, by decide, by decide +kernel⟩
theorem pw_9_24 : zpw 9 24 .int false := ⟨⟨tyX9, by decide +kernel⟩, by decide +kernel, by decide, by decide +kernel⟩
theorem pw_9_25 : zpw 9 25 .int false := ⟨⟨tyX9, by decide +kernel⟩, by decide +kernel, by decide, by decide +kernel⟩
theorem pw_9_26 : zpw 9 26 .int false := ⟨⟨tyX9, by decide +kernel⟩, by decide +kernel, by decide, by decide +kernel⟩
theorem pw_9_27 : zpw 9 27 .long false := ⟨⟨tyX9, by decide +kernel⟩, by decide +kernel, by decide, by decide +kernel⟩
theorem pw_9_28 : zpw 9 28 .long false := ⟨⟨tyX9, by decide +kernel⟩, by decide +kernel, by decide, by decide +kernel⟩
theorem pw_9_29 : zpw 9 29 .int false := ⟨⟨tyX9, by decide +kernel⟩, by decide +kernel, by decide, by decide +kernel⟩
theorem pw_9_30 : zpw 9 30 (.array .int) true := ⟨⟨tyX9, by decide +kernel⟩, by decide +kernel, by decide, by decide +kernel⟩
theorem pw_9_31 : zpw 9 31 .int false := ⟨⟨tyX9, by decide +kernel⟩, by decide +kernel, by decide, by decide +kernel⟩
theorem cw_L_108 : zci RL 108 mX8_init 0 := ⟨zGW_of 107 (by decide +kernel), im_X8_init, iw_X8_init, cd_X8_init, rfl, rfl, np_X8_init⟩
theorem cw_X8_9 : zciN RX8 9 mX4_init "SeasonTiers" 0 := ⟨zin_nw 115 (by decide +kernel), im_X4_init, iw_X4_init, cd_X4_init, rfl, rfl, np_X4_init⟩
theorem cw_X8_18 : zciN RX8 18 mX7_init "SeasonTiers" 0 := ⟨zin_nw 149 (by decide +kernel), im_X7_init, iw_X7_init, cd_X7_init, rfl, rfl, np_X7_init⟩
theorem cw_X8_25 : zciN RX8 25 mX3_init "SeasonTiers" 0 := ⟨zin_nw 164 (by decide +kernel), im_X3_init, iw_X3_init, cd_X3_init, rfl, rfl, np_X3_init⟩
theorem cw_X8_32 : zci RX8 32 mX1_init 0 := ⟨zGW_of 214 (by decide +kernel), im_X1_init, iw_X1_init, cd_X1_init, rfl, rfl, np_X1_init⟩
theorem cw_X1_24 : zci RX1 24 mX5_init 0 := ⟨zGW_of 221 (by decide +kernel), im_X5_init, iw_X5_init, cd_X5_init, rfl, rfl, np_X5_init⟩
theorem cw_X5_41 : zciN RX5 41 mX2_init "SeasonTiers" 0 := ⟨zin_nw 231 (by decide +kernel), im_X2_init, iw_X2_init, cd_X2_init, rfl, rfl, np_X2_init⟩
theorem cw_X5_46 : zciN RX5 46 mX6_init "SeasonTiers" 0 := ⟨zin_nw 245 (by decide +kernel), im_X6_init, iw_X6_init, cd_X6_init, rfl, rfl, np_X6_init⟩
theorem cw_X5_47 : zciN RX5 47 mX0_init "SeasonTiers" 0 := ⟨zin_nw 267 (by decide +kernel), im_X0_init, iw_X0_init, cd_X0_init, rfl, rfl, np_X0_init⟩
theorem cw_X8_39 : zci RX8 39 mX5_init 0 := ⟨zGW_of 377 (by decide +kernel), im_X5_init, iw_X5_init, cd_X5_init, rfl, rfl, np_X5_init⟩
theorem cw_X8_59 : zcv RX8 59 mX5_startAsNew 0 := ⟨zGW_of 378 (by decide +kernel), im_X5_startAsNew, sl_X5_startAsNew, iw_X5_init, cd_X5_startAsNew, np_X5_startAsNew⟩
theorem cw_X5_61 : zcv RX5 61 mX5_startAs 2 := ⟨zGW_of 382 (by decide +kernel), im_X5_startAs, sl_X5_startAs, iw_X5_init, cd_X5_startAs, np_X5_startAs⟩
theorem cw_X5_65 : zcs RX5 65 mX7_withLetter 2 := ⟨zGW_of 386 (by decide +kernel), st_X7_withLetter, iw_X7_init, cd_X7_withLetter, np_X7_withLetter⟩
theorem cw_X5_71 : zcv RX5 71 mX5_putTier 1 := ⟨zGW_of 389 (by decide +kernel), im_X5_putTier, sl_X5_putTier, iw_X5_init, cd_X5_putTier, np_X5_putTier⟩
theorem cw_X5_115 : zcv RX5 115 mX6_startAs 1 := ⟨zGW_of 393 (by decide +kernel), im_X6_startAs, sl_X6_startAs, iw_X6_init, cd_X6_startAs, np_X6_startAs⟩
theorem cw_L_121 : zcv RL 121 mX8_load 0 := ⟨zGW_of 425 (by decide +kernel), im_X8_load, sl_X8_load, iw_X8_init, cd_X8_load, np_X8_load⟩
theorem cw_X8_77 : zcv RX8 77 mX4_readStore 1 := ⟨zGW_of 429 (by decide +kernel), im_X4_readStore, sl_X4_readStore, iw_X4_init, cd_X4_readStore, np_X4_readStore⟩
theorem cw_X4_38 : zcv RX4 38 mX4_readHead 1 := ⟨zGW_of 433 (by decide +kernel), im_X4_readHead, sl_X4_readHead, iw_X4_init, cd_X4_readHead, np_X4_readHead⟩
theorem cw_X4_55 : zcv RX4 55 mX4_passWord 1 := ⟨zGW_of 438 (by decide +kernel), im_X4_passWord, sl_X4_passWord, iw_X4_init, cd_X4_passWord, np_X4_passWord⟩
theorem cw_X4_65 : zcv RX4 65 mX4_nextIsWord 1 := ⟨zGW_of 442 (by decide +kernel), im_X4_nextIsWord, sl_X4_nextIsWord, iw_X4_init, cd_X4_nextIsWord, np_X4_nextIsWord⟩
theorem cw_X4_114 : zcv RX4 114 mX4_nextByte 0 := ⟨zGW_of 446 (by decide +kernel), im_X4_nextByte, sl_X4_nextByte, iw_X4_init, cd_X4_nextByte, np_X4_nextByte⟩
theorem cw_X4_137 : zcv RX4 137 mX4_endOfWord 0 := ⟨zGW_of 450 (by decide +kernel), im_X4_endOfWord, sl_X4_endOfWord, iw_X4_init, cd_X4_endOfWord, np_X4_endOfWord⟩
theorem cw_X4_151 : zcv RX4 151 mJ0_length_8abf5 0 := ⟨zGW_of 454 (by decide +kernel), im_J0_length_8abf5, sl_J0_length_8abf5, iw_J0_length_8abf5, cd_J0_length_8abf5, np_J0_length_8abf5⟩
theorem cw_J0_335 : zcv RJ0 335 mJ0_coder_7d493 0 := ⟨zGW_of 458 (by decide +kernel), im_J0_coder_7d493, sl_J0_coder_7d493, iw_J0_length_8abf5, cd_J0_coder_7d493, np_J0_coder_7d493⟩
theorem cw_X4_155 : zcv RX4 155 mJ0_charAt_5068e 1 := ⟨zGW_of 464 (by decide +kernel), im_J0_charAt_5068e, sl_J0_charAt_5068e, iw_J0_length_8abf5, cd_J0_charAt_5068e, np_J0_charAt_5068e⟩
theorem cw_J0_492 : zcv RJ0 492 mJ0_isLatin1_aae02 0 := ⟨zGW_of 468 (by decide +kernel), im_J0_isLatin1_aae02, sl_J0_isLatin1_aae02, iw_J0_length_8abf5, cd_J0_isLatin1_aae02, np_J0_isLatin1_aae02⟩
theorem cw_J0_495 : zcs RJ0 495 mJ1_charAt_3b067 2 := ⟨zGW_of 472 (by decide +kernel), st_J1_charAt_3b067, iw_J1_charAt_3b067, cd_J1_charAt_3b067, np_J1_charAt_3b067⟩
theorem cw_J1_9 : zcs RJ1 9 mJ0_checkIndex_df160 2 := ⟨zGW_of 475 (by decide +kernel), st_J0_checkIndex_df160, iw_J0_length_8abf5, cd_J0_checkIndex_df160, np_J0_checkIndex_df160⟩
theorem cw_J0_1059 : zcs RJ0 1059 mJ3_checkIndex_8e157 3 := ⟨zGW_of 480 (by decide +kernel), st_J3_checkIndex_8e157, iw_J3_checkIndex_8e157, cd_J3_checkIndex_8e157, np_J3_checkIndex_8e157⟩
theorem cw_J0_498 : zcs RJ0 498 mJ2_charAt_3b067 2 := ⟨zGW_of 483 (by decide +kernel), st_J2_charAt_3b067, iw_J2_getChar_3b067, cd_J2_charAt_3b067, np_J2_charAt_3b067⟩
theorem cw_J2_67 : zcs RJ2 67 mJ2_checkIndex_2214a 2 := ⟨zGW_of 486 (by decide +kernel), st_J2_checkIndex_2214a, iw_J2_getChar_3b067, cd_J2_checkIndex_2214a, np_J2_checkIndex_2214a⟩
theorem cw_J2_48 : zcs RJ2 48 mJ2_length_9d52b 1 := ⟨zGW_of 489 (by decide +kernel), st_J2_length_9d52b, iw_J2_getChar_3b067, cd_J2_length_9d52b, np_J2_length_9d52b⟩
theorem cw_J2_414 : zcs RJ2 414 mJ0_checkIndex_df160 2 := ⟨zGW_of 492 (by decide +kernel), st_J0_checkIndex_df160, iw_J0_length_8abf5, cd_J0_checkIndex_df160, np_J0_checkIndex_df160⟩
theorem cw_J2_71 : zcs RJ2 71 mJ2_getChar_3b067 2 := ⟨zGW_of 493 (by decide +kernel), st_J2_getChar_3b067, iw_J2_getChar_3b067, cd_J2_getChar_3b067, np_J2_getChar_3b067⟩
theorem cw_X4_84 : zcv RX4 84 mX4_fail 2 := ⟨zGW_of 502 (by decide +kernel), im_X4_fail, sl_X4_fail, iw_X4_init, cd_X4_fail, np_X4_fail⟩
theorem cw_X4_59 : zcv RX4 59 mX4_readNumber 2 := ⟨zGW_of 506 (by decide +kernel), im_X4_readNumber, sl_X4_readNumber, iw_X4_init, cd_X4_readNumber, np_X4_readNumber⟩
theorem cw_X4_146 : zcs RX4 146 mX4_isDigit 1 := ⟨zGW_of 510 (by decide +kernel), st_X4_isDigit, iw_X4_init, cd_X4_isDigit, np_X4_isDigit⟩
theorem cw_X4_68 : zcv RX4 68 mX5_startAs 2 := ⟨zGW_of 515 (by decide +kernel), im_X5_startAs, sl_X5_startAs, iw_X5_init, cd_X5_startAs, np_X5_startAs⟩
theorem cw_X4_72 : zcv RX4 72 mX4_passSemicolon 0 := ⟨zGW_of 516 (by decide +kernel), im_X4_passSemicolon, sl_X4_passSemicolon, iw_X4_init, cd_X4_passSemicolon, np_X4_passSemicolon⟩
theorem cw_X4_42 : zcv RX4 42 mX4_readTiers 1 := ⟨zGW_of 520 (by decide +kernel), im_X4_readTiers, sl_X4_readTiers, iw_X4_init, cd_X4_readTiers, np_X4_readTiers⟩
theorem cw_X4_78 : zcv RX4 78 mX4_readTier 1 := ⟨zGW_of 525 (by decide +kernel), im_X4_readTier, sl_X4_readTier, iw_X4_init, cd_X4_readTier, np_X4_readTier⟩
theorem cw_X4_87 : zcv RX4 87 mX4_readName 0 := ⟨zGW_of 529 (by decide +kernel), im_X4_readName, sl_X4_readName, iw_X4_init, cd_X4_readName, np_X4_readName⟩
theorem cw_X4_140 : zcs RX4 140 mX7_withLetter 2 := ⟨zGW_of 533 (by decide +kernel), st_X7_withLetter, iw_X7_init, cd_X7_withLetter, np_X7_withLetter⟩
theorem cw_X4_90 : zcv RX4 90 mX5_tierNamed 1 := ⟨zGW_of 534 (by decide +kernel), im_X5_tierNamed, sl_X5_tierNamed, iw_X5_init, cd_X5_tierNamed, np_X5_tierNamed⟩
theorem cw_X4_94 : zcv RX4 94 mX5_putTier 1 := ⟨zGW_of 538 (by decide +kernel), im_X5_putTier, sl_X5_putTier, iw_X5_init, cd_X5_putTier, np_X5_putTier⟩
theorem cw_X4_98 : zcsN RX4 98 mX8_leastOf "SeasonTiers" 1 := ⟨zin_nw 539 (by decide +kernel), st_X8_leastOf, iw_X8_init, cd_X8_leastOf, np_X8_leastOf⟩
theorem cw_X4_102 : zcsN RX4 102 mX8_greatestOf "SeasonTiers" 1 := ⟨zin_nw 542 (by decide +kernel), st_X8_greatestOf, iw_X8_init, cd_X8_greatestOf, np_X8_greatestOf⟩
theorem cw_X4_45 : zcv RX4 45 mX4_readFiles 1 := ⟨zGW_of 546 (by decide +kernel), im_X4_readFiles, sl_X4_readFiles, iw_X4_init, cd_X4_readFiles, np_X4_readFiles⟩
theorem cw_X4_118 : zcv RX4 118 mX4_readFile 1 := ⟨zGW_of 550 (by decide +kernel), im_X4_readFile, sl_X4_readFile, iw_X4_init, cd_X4_readFile, np_X4_readFile⟩
theorem cw_X4_123 : zcv RX4 123 mX5_fileNamed 1 := ⟨zGW_of 555 (by decide +kernel), im_X5_fileNamed, sl_X5_fileNamed, iw_X5_init, cd_X5_fileNamed, np_X5_fileNamed⟩
theorem cw_X4_128 : zcv RX4 128 mX5_hasRoomFor 2 := ⟨zGW_of 560 (by decide +kernel), im_X5_hasRoomFor, sl_X5_hasRoomFor, iw_X5_init, cd_X5_hasRoomFor, np_X5_hasRoomFor⟩
theorem cw_X5_99 : zcv RX5 99 mX5_sizeOn 1 := ⟨zGW_of 564 (by decide +kernel), im_X5_sizeOn, sl_X5_sizeOn, iw_X5_init, cd_X5_sizeOn, np_X5_sizeOn⟩
theorem cw_X4_133 : zcv RX4 133 mX5_putFile 4 := ⟨zGW_of 569 (by decide +kernel), im_X5_putFile, sl_X5_putFile, iw_X5_init, cd_X5_putFile, np_X5_putFile⟩
theorem cw_X5_117 : zcv RX5 117 mX0_startAs 4 := ⟨zGW_of 573 (by decide +kernel), im_X0_startAs, sl_X0_startAs, iw_X0_init, cd_X0_startAs, np_X0_startAs⟩
theorem cw_X0_50 : zcv RX0 50 mX0_forgetSeasons 0 := ⟨zGW_of 577 (by decide +kernel), im_X0_forgetSeasons, sl_X0_forgetSeasons, iw_X0_init, cd_X0_forgetSeasons, np_X0_forgetSeasons⟩
theorem cw_X8_81 : zcv RX8 81 mX1_remember 1 := ⟨zGW_of 581 (by decide +kernel), im_X1_remember, sl_X1_remember, iw_X1_init, cd_X1_remember, np_X1_remember⟩
theorem cw_X1_25 : zcv RX1 25 mX5_copyFrom 1 := ⟨zGW_of 585 (by decide +kernel), im_X5_copyFrom, sl_X5_copyFrom, iw_X5_init, cd_X5_copyFrom, np_X5_copyFrom⟩
theorem cw_X5_48 : zcv RX5 48 mX6_copyFrom 1 := ⟨zGW_of 589 (by decide +kernel), im_X6_copyFrom, sl_X6_copyFrom, iw_X6_init, cd_X6_copyFrom, np_X6_copyFrom⟩
theorem cw_X5_52 : zcv RX5 52 mX0_copyFrom 1 := ⟨zGW_of 593 (by decide +kernel), im_X0_copyFrom, sl_X0_copyFrom, iw_X0_init, cd_X0_copyFrom, np_X0_copyFrom⟩
theorem cw_X5_55 : zcv RX5 55 mX2_copyFrom 1 := ⟨zGW_of 600 (by decide +kernel), im_X2_copyFrom, sl_X2_copyFrom, iw_X2_init, cd_X2_copyFrom, np_X2_copyFrom⟩
theorem cw_X8_85 : zcv RX8 85 mX5_copyFrom 1 := ⟨zGW_of 605 (by decide +kernel), im_X5_copyFrom, sl_X5_copyFrom, iw_X5_init, cd_X5_copyFrom, np_X5_copyFrom⟩
theorem cw_L_125 : zcv RL 125 mX8_errorPosition 0 := ⟨zGW_of 607 (by decide +kernel), im_X8_errorPosition, sl_X8_errorPosition, iw_X8_init, cd_X8_errorPosition, np_X8_errorPosition⟩
theorem cw_L_152 : zcv RL 152 mX8_meanOff 0 := ⟨zGW_of 611 (by decide +kernel), im_X8_meanOff, sl_X8_meanOff, iw_X8_init, cd_X8_meanOff, np_X8_meanOff⟩
theorem cw_L_160 : zcv RL 160 mX8_commonCycle 0 := ⟨zGW_of 615 (by decide +kernel), im_X8_commonCycle, sl_X8_commonCycle, iw_X8_init, cd_X8_commonCycle, np_X8_commonCycle⟩
theorem cw_X8_203 : zcv RX8 203 mX0_ownCycle 0 := ⟨zGW_of 619 (by decide +kernel), im_X0_ownCycle, sl_X0_ownCycle, iw_X0_init, cd_X0_ownCycle, np_X0_ownCycle⟩
theorem cw_X0_80 : zcv RX0 80 mX0_differenceAt 1 := ⟨zGW_of 623 (by decide +kernel), im_X0_differenceAt, sl_X0_differenceAt, iw_X0_init, cd_X0_differenceAt, np_X0_differenceAt⟩
theorem cw_X0_67 : zcs RX0 67 mJ9_abs_0f7a4 1 := ⟨zGW_of 627 (by decide +kernel), st_J9_abs_0f7a4, iw_J9_floorMod_7cf53, cd_J9_abs_0f7a4, np_J9_abs_0f7a4⟩
theorem cw_L_167 : zcv RL 167 mX8_movingShare 0 := ⟨zGW_of 630 (by decide +kernel), im_X8_movingShare, sl_X8_movingShare, iw_X8_init, cd_X8_movingShare, np_X8_movingShare⟩
theorem cw_X8_210 : zcv RX8 210 mX5_paidOnAll 1 := ⟨zGW_of 634 (by decide +kernel), im_X5_paidOnAll, sl_X5_paidOnAll, iw_X5_init, cd_X5_paidOnAll, np_X5_paidOnAll⟩
theorem cw_X5_102 : zcv RX5 102 mX6_paidFor 1 := ⟨zGW_of 638 (by decide +kernel), im_X6_paidFor, sl_X6_paidFor, iw_X6_init, cd_X6_paidFor, np_X6_paidFor⟩
theorem cw_L_200 : zcv RL 200 mX8_close 0 := ⟨zGW_of 642 (by decide +kernel), im_X8_close, sl_X8_close, iw_X8_init, cd_X8_close, np_X8_close⟩
theorem cw_X8_269 : zcv RX8 269 mX5_endPeriod 0 := ⟨zGW_of 647 (by decide +kernel), im_X5_endPeriod, sl_X5_endPeriod, iw_X5_init, cd_X5_endPeriod, np_X5_endPeriod⟩
theorem cw_X5_92 : zcv RX5 92 mX5_phaseAhead 1 := ⟨zGW_of 651 (by decide +kernel), im_X5_phaseAhead, sl_X5_phaseAhead, iw_X5_init, cd_X5_phaseAhead, np_X5_phaseAhead⟩
theorem cw_X5_124 : zcv RX5 124 mX5_payFor 1 := ⟨zGW_of 655 (by decide +kernel), im_X5_payFor, sl_X5_payFor, iw_X5_init, cd_X5_payFor, np_X5_payFor⟩
theorem cw_X5_128 : zcv RX5 128 mX0_scoreForecast 1 := ⟨zGW_of 659 (by decide +kernel), im_X0_scoreForecast, sl_X0_scoreForecast, iw_X0_init, cd_X0_scoreForecast, np_X0_scoreForecast⟩
theorem cw_X0_60 : zcv RX0 60 mX0_knownSeasons 0 := ⟨zGW_of 663 (by decide +kernel), im_X0_knownSeasons, sl_X0_knownSeasons, iw_X0_init, cd_X0_knownSeasons, np_X0_knownSeasons⟩
theorem cw_X0_63 : zcv RX0 63 mX0_forecastFor 1 := ⟨zGW_of 667 (by decide +kernel), im_X0_forecastFor, sl_X0_forecastFor, iw_X0_init, cd_X0_forecastFor, np_X0_forecastFor⟩
theorem cw_X0_57 : zcv RX0 57 mX0_meanSeason 0 := ⟨zGW_of 671 (by decide +kernel), im_X0_meanSeason, sl_X0_meanSeason, iw_X0_init, cd_X0_meanSeason, np_X0_meanSeason⟩
theorem cw_X5_134 : zcv RX5 134 mX0_learnSeason 3 := ⟨zGW_of 675 (by decide +kernel), im_X0_learnSeason, sl_X0_learnSeason, iw_X0_init, cd_X0_learnSeason, np_X0_learnSeason⟩
theorem cw_X5_138 : zcv RX5 138 mX0_keepUses 0 := ⟨zGW_of 679 (by decide +kernel), im_X0_keepUses, sl_X0_keepUses, iw_X0_init, cd_X0_keepUses, np_X0_keepUses⟩
theorem cw_L_208 : zcv RL 208 mX8_unmove 0 := ⟨zGW_of 683 (by decide +kernel), im_X8_unmove, sl_X8_unmove, iw_X8_init, cd_X8_unmove, np_X8_unmove⟩
theorem cw_X8_277 : zcv RX8 277 mX2_latest 1 := ⟨zGW_of 687 (by decide +kernel), im_X2_latest, sl_X2_latest, iw_X2_init, cd_X2_latest, np_X2_latest⟩
theorem cw_X8_256 : zcv RX8 256 mX5_hasRoomFor 2 := ⟨zGW_of 691 (by decide +kernel), im_X5_hasRoomFor, sl_X5_hasRoomFor, iw_X5_init, cd_X5_hasRoomFor, np_X5_hasRoomFor⟩
theorem cw_X8_280 : zcv RX8 280 mX5_carryBack 0 := ⟨zGW_of 692 (by decide +kernel), im_X5_carryBack, sl_X5_carryBack, iw_X5_init, cd_X5_carryBack, np_X5_carryBack⟩
theorem cw_X5_149 : zcv RX5 149 mX2_latest 1 := ⟨zGW_of 696 (by decide +kernel), im_X2_latest, sl_X2_latest, iw_X2_init, cd_X2_latest, np_X2_latest⟩
theorem cw_L_235 : zcv RL 235 mX8_writeTiers 0 := ⟨zGW_of 697 (by decide +kernel), im_X8_writeTiers, sl_X8_writeTiers, iw_X8_init, cd_X8_writeTiers, np_X8_writeTiers⟩
theorem cw_X8_303 : zcv RX8 303 mX7_writeStore 1 := ⟨zGW_of 701 (by decide +kernel), im_X7_writeStore, sl_X7_writeStore, iw_X7_init, cd_X7_writeStore, np_X7_writeStore⟩
theorem cw_X7_24 : zcv RX7 24 mX7_putByte 1 := ⟨zGW_of 705 (by decide +kernel), im_X7_putByte, sl_X7_putByte, iw_X7_init, cd_X7_putByte, np_X7_putByte⟩
theorem cw_X7_38 : zcv RX7 38 mX7_putName 1 := ⟨zGW_of 709 (by decide +kernel), im_X7_putName, sl_X7_putName, iw_X7_init, cd_X7_putName, np_X7_putName⟩
theorem cw_X7_42 : zcv RX7 42 mX7_putFilesOn 2 := ⟨zGW_of 713 (by decide +kernel), im_X7_putFilesOn, sl_X7_putFilesOn, iw_X7_init, cd_X7_putFilesOn, np_X7_putFilesOn⟩
theorem cw_L_112 : zcsH RL 112 mL_append 7 := ⟨zGW_of 717 (by decide +kernel), st_L_append, iw_L_append, cd_L_append, np_L_append⟩
theorem cw_L_7 : zcv RL 7 mX8_append 5 := ⟨zGW_of 721 (by decide +kernel), im_X8_append, sl_X8_append, iw_X8_init, cd_X8_append, np_X8_append⟩
theorem cw_X8_62 : zcs RX8 62 mX8_bytesIn 1 := ⟨zGW_of 725 (by decide +kernel), st_X8_bytesIn, iw_X8_init, cd_X8_bytesIn, np_X8_bytesIn⟩
theorem cw_X8_73 : zcv RX8 73 mX4_putBytesOf 1 := ⟨zGW_of 791 (by decide +kernel), im_X4_putBytesOf, sl_X4_putBytesOf, iw_X4_init, cd_X4_putBytesOf, np_X4_putBytesOf⟩
theorem cw_L_129 : zcsH RL 129 mL_count 3 := ⟨zGW_of 795 (by decide +kernel), st_L_count, iw_L_append, cd_L_count, np_L_count⟩
theorem cw_L_15 : zcv RL 15 mX8_count 1 := ⟨zGW_of 799 (by decide +kernel), im_X8_count, sl_X8_count, iw_X8_init, cd_X8_count, np_X8_count⟩
theorem cw_X8_106 : zcv RX8 106 mX5_pinnedFiles 0 := ⟨zGW_of 803 (by decide +kernel), im_X5_pinnedFiles, sl_X5_pinnedFiles, iw_X5_init, cd_X5_pinnedFiles, np_X5_pinnedFiles⟩
theorem cw_X5_84 : zcv RX5 84 mX0_isPinnedIn 1 := ⟨zGW_of 807 (by decide +kernel), im_X0_isPinnedIn, sl_X0_isPinnedIn, iw_X0_init, cd_X0_isPinnedIn, np_X0_isPinnedIn⟩
theorem cw_X8_119 : zcv RX8 119 mX5_sizeOfAll 0 := ⟨zGW_of 811 (by decide +kernel), im_X5_sizeOfAll, sl_X5_sizeOfAll, iw_X5_init, cd_X5_sizeOfAll, np_X5_sizeOfAll⟩
theorem cw_L_133 : zcsH RL 133 mL_tier 4 := ⟨zGW_of 830 (by decide +kernel), st_L_tier, iw_L_append, cd_L_tier, np_L_tier⟩
theorem cw_L_21 : zcv RL 21 mX8_tier 2 := ⟨zGW_of 834 (by decide +kernel), im_X8_tier, sl_X8_tier, iw_X8_init, cd_X8_tier, np_X8_tier⟩
theorem cw_X8_125 : zcv RX8 125 mX8_requireTier 1 := ⟨zGW_of 838 (by decide +kernel), im_X8_requireTier, sl_X8_requireTier, iw_X8_init, cd_X8_requireTier, np_X8_requireTier⟩
theorem cw_X8_137 : zcv RX8 137 mX5_sizeOn 1 := ⟨zGW_of 857 (by decide +kernel), im_X5_sizeOn, sl_X5_sizeOn, iw_X5_init, cd_X5_sizeOn, np_X5_sizeOn⟩
theorem cw_X8_140 : zcv RX8 140 mX5_filesOn 1 := ⟨zGW_of 858 (by decide +kernel), im_X5_filesOn, sl_X5_filesOn, iw_X5_init, cd_X5_filesOn, np_X5_filesOn⟩
theorem cw_X8_143 : zcv RX8 143 mX5_mostUsedOn 1 := ⟨zGW_of 862 (by decide +kernel), im_X5_mostUsedOn, sl_X5_mostUsedOn, iw_X5_init, cd_X5_mostUsedOn, np_X5_mostUsedOn⟩
theorem cw_X5_96 : zcv RX5 96 mX0_forecastFor 1 := ⟨zGW_of 866 (by decide +kernel), im_X0_forecastFor, sl_X0_forecastFor, iw_X0_init, cd_X0_forecastFor, np_X0_forecastFor⟩
theorem cw_L_137 : zcsH RL 137 mL_file 4 := ⟨zGW_of 867 (by decide +kernel), st_L_file, iw_L_append, cd_L_file, np_L_file⟩
theorem cw_L_27 : zcv RL 27 mX8_file 2 := ⟨zGW_of 870 (by decide +kernel), im_X8_file, sl_X8_file, iw_X8_init, cd_X8_file, np_X8_file⟩
theorem cw_X8_146 : zcv RX8 146 mX8_requireFile 1 := ⟨zGW_of 874 (by decide +kernel), im_X8_requireFile, sl_X8_requireFile, iw_X8_init, cd_X8_requireFile, np_X8_requireFile⟩
theorem cw_X8_165 : zcv RX8 165 mX0_isPinnedIn 1 := ⟨zGW_of 878 (by decide +kernel), im_X0_isPinnedIn, sl_X0_isPinnedIn, iw_X0_init, cd_X0_isPinnedIn, np_X0_isPinnedIn⟩
theorem cw_X8_175 : zcv RX8 175 mX0_knownSeasons 0 := ⟨zGW_of 879 (by decide +kernel), im_X0_knownSeasons, sl_X0_knownSeasons, iw_X0_init, cd_X0_knownSeasons, np_X0_knownSeasons⟩
theorem cw_X8_178 : zcv RX8 178 mX0_busiestPhase 0 := ⟨zGW_of 880 (by decide +kernel), im_X0_busiestPhase, sl_X0_busiestPhase, iw_X0_init, cd_X0_busiestPhase, np_X0_busiestPhase⟩
theorem cw_X8_181 : zcv RX8 181 mX0_seasonSpread 0 := ⟨zGW_of 884 (by decide +kernel), im_X0_seasonSpread, sl_X0_seasonSpread, iw_X0_init, cd_X0_seasonSpread, np_X0_seasonSpread⟩
theorem cw_X0_53 : zcv RX0 53 mX0_busiestPhase 0 := ⟨zGW_of 888 (by decide +kernel), im_X0_busiestPhase, sl_X0_busiestPhase, iw_X0_init, cd_X0_busiestPhase, np_X0_busiestPhase⟩
theorem cw_L_140 : zcsH RL 140 mL_season 4 := ⟨zGW_of 889 (by decide +kernel), st_L_season, iw_L_append, cd_L_season, np_L_season⟩
theorem cw_L_30 : zcv RL 30 mX8_season 2 := ⟨zGW_of 892 (by decide +kernel), im_X8_season, sl_X8_season, iw_X8_init, cd_X8_season, np_X8_season⟩
theorem cw_L_143 : zcsH RL 143 mL_kept 4 := ⟨zGW_of 896 (by decide +kernel), st_L_kept, iw_L_append, cd_L_kept, np_L_kept⟩
theorem cw_L_33 : zcv RL 33 mX8_kept 2 := ⟨zGW_of 899 (by decide +kernel), im_X8_kept, sl_X8_kept, iw_X8_init, cd_X8_kept, np_X8_kept⟩
theorem cw_L_146 : zcsH RL 146 mL_forecast 4 := ⟨zGW_of 903 (by decide +kernel), st_L_forecast, iw_L_append, cd_L_forecast, np_L_forecast⟩
theorem cw_L_36 : zcv RL 36 mX8_forecast 2 := ⟨zGW_of 906 (by decide +kernel), im_X8_forecast, sl_X8_forecast, iw_X8_init, cd_X8_forecast, np_X8_forecast⟩
theorem cw_X8_193 : zcv RX8 193 mX5_phaseAhead 1 := ⟨zGW_of 910 (by decide +kernel), im_X5_phaseAhead, sl_X5_phaseAhead, iw_X5_init, cd_X5_phaseAhead, np_X5_phaseAhead⟩
theorem cw_X8_196 : zcv RX8 196 mX0_forecastFor 1 := ⟨zGW_of 911 (by decide +kernel), im_X0_forecastFor, sl_X0_forecastFor, iw_X0_init, cd_X0_forecastFor, np_X0_forecastFor⟩
theorem cw_L_149 : zcsH RL 149 mL_off 3 := ⟨zGW_of 912 (by decide +kernel), st_L_off, iw_L_append, cd_L_off, np_L_off⟩
theorem cw_L_39 : zcv RL 39 mX8_off 1 := ⟨zGW_of 915 (by decide +kernel), im_X8_off, sl_X8_off, iw_X8_init, cd_X8_off, np_X8_off⟩
theorem cw_L_157 : zcsH RL 157 mL_cycleOf 3 := ⟨zGW_of 919 (by decide +kernel), st_L_cycleOf, iw_L_append, cd_L_cycleOf, np_L_cycleOf⟩
theorem cw_L_43 : zcv RL 43 mX8_cycleOf 1 := ⟨zGW_of 922 (by decide +kernel), im_X8_cycleOf, sl_X8_cycleOf, iw_X8_init, cd_X8_cycleOf, np_X8_cycleOf⟩
theorem cw_L_164 : zcsH RL 164 mL_account 4 := ⟨zGW_of 926 (by decide +kernel), st_L_account, iw_L_append, cd_L_account, np_L_account⟩
theorem cw_L_46 : zcv RL 46 mX8_account 2 := ⟨zGW_of 929 (by decide +kernel), im_X8_account, sl_X8_account, iw_X8_init, cd_X8_account, np_X8_account⟩
theorem cw_X8_206 : zcs RX8 206 mX8_requireWithin 3 := ⟨zGW_of 933 (by decide +kernel), st_X8_requireWithin, iw_X8_init, cd_X8_requireWithin, np_X8_requireWithin⟩
theorem cw_X8_214 : zcv RX8 214 mX6_paidFor 1 := ⟨zGW_of 936 (by decide +kernel), im_X6_paidFor, sl_X6_paidFor, iw_X6_init, cd_X6_paidFor, np_X6_paidFor⟩
theorem cw_L_172 : zcsH RL 172 mL_cost 5 := ⟨zGW_of 937 (by decide +kernel), st_L_cost, iw_L_append, cd_L_cost, np_L_cost⟩
theorem cw_L_50 : zcv RL 50 mX8_cost 3 := ⟨zGW_of 940 (by decide +kernel), im_X8_cost, sl_X8_cost, iw_X8_init, cd_X8_cost, np_X8_cost⟩
theorem cw_X8_217 : zcs RX8 217 mX8_requirePeriods 1 := ⟨zGW_of 944 (by decide +kernel), st_X8_requirePeriods, iw_X8_init, cd_X8_requirePeriods, np_X8_requirePeriods⟩
theorem cw_X8_220 : zcv RX8 220 mX5_forecastSum 2 := ⟨zGW_of 947 (by decide +kernel), im_X5_forecastSum, sl_X5_forecastSum, iw_X5_init, cd_X5_forecastSum, np_X5_forecastSum⟩
theorem cw_X5_106 : zcv RX5 106 mX0_meanSeason 0 := ⟨zGW_of 951 (by decide +kernel), im_X0_meanSeason, sl_X0_meanSeason, iw_X0_init, cd_X0_meanSeason, np_X0_meanSeason⟩
theorem cw_X8_224 : zcv RX8 224 mX5_costOn 4 := ⟨zGW_of 952 (by decide +kernel), im_X5_costOn, sl_X5_costOn, iw_X5_init, cd_X5_costOn, np_X5_costOn⟩
theorem cw_L_176 : zcsH RL 176 mL_wish 4 := ⟨zGW_of 957 (by decide +kernel), st_L_wish, iw_L_append, cd_L_wish, np_L_wish⟩
theorem cw_L_54 : zcv RL 54 mX8_wish 2 := ⟨zGW_of 960 (by decide +kernel), im_X8_wish, sl_X8_wish, iw_X8_init, cd_X8_wish, np_X8_wish⟩
theorem cw_X8_228 : zcv RX8 228 mX3_bestTier 3 := ⟨zGW_of 964 (by decide +kernel), im_X3_bestTier, sl_X3_bestTier, iw_X3_init, cd_X3_bestTier, np_X3_bestTier⟩
theorem cw_X3_57 : zcv RX3 57 mX3_findGains 3 := ⟨zGW_of 968 (by decide +kernel), im_X3_findGains, sl_X3_findGains, iw_X3_init, cd_X3_findGains, np_X3_findGains⟩
theorem cw_X3_111 : zcv RX3 111 mX5_forecastSum 2 := ⟨zGW_of 972 (by decide +kernel), im_X5_forecastSum, sl_X5_forecastSum, iw_X5_init, cd_X5_forecastSum, np_X5_forecastSum⟩
theorem cw_X3_115 : zcv RX3 115 mX5_costOn 4 := ⟨zGW_of 973 (by decide +kernel), im_X5_costOn, sl_X5_costOn, iw_X5_init, cd_X5_costOn, np_X5_costOn⟩
theorem cw_X3_119 : zcv RX3 119 mX5_moveCost 3 := ⟨zGW_of 974 (by decide +kernel), im_X5_moveCost, sl_X5_moveCost, iw_X5_init, cd_X5_moveCost, np_X5_moveCost⟩
theorem cw_L_179 : zcsH RL 179 mL_steps 3 := ⟨zGW_of 978 (by decide +kernel), st_L_steps, iw_L_append, cd_L_steps, np_L_steps⟩
theorem cw_L_57 : zcv RL 57 mX8_steps 1 := ⟨zGW_of 981 (by decide +kernel), im_X8_steps, sl_X8_steps, iw_X8_init, cd_X8_steps, np_X8_steps⟩
theorem cw_X8_232 : zcv RX8 232 mX3_makePlan 2 := ⟨zGW_of 985 (by decide +kernel), im_X3_makePlan, sl_X3_makePlan, iw_X3_init, cd_X3_makePlan, np_X3_makePlan⟩
theorem cw_X3_61 : zcv RX3 61 mX3_planAgain 3 := ⟨zGW_of 989 (by decide +kernel), im_X3_planAgain, sl_X3_planAgain, iw_X3_init, cd_X3_planAgain, np_X3_planAgain⟩
theorem cw_X3_76 : zcv RX3 76 mX5_sizeOn 1 := ⟨zGW_of 993 (by decide +kernel), im_X5_sizeOn, sl_X5_sizeOn, iw_X5_init, cd_X5_sizeOn, np_X5_sizeOn⟩
theorem cw_X3_87 : zcv RX3 87 mX0_isPinnedIn 1 := ⟨zGW_of 994 (by decide +kernel), im_X0_isPinnedIn, sl_X0_isPinnedIn, iw_X0_init, cd_X0_isPinnedIn, np_X0_isPinnedIn⟩
theorem cw_X3_93 : zcv RX3 93 mX3_findMove 1 := ⟨zGW_of 995 (by decide +kernel), im_X3_findMove, sl_X3_findMove, iw_X3_init, cd_X3_findMove, np_X3_findMove⟩
theorem cw_X3_126 : zcv RX3 126 mX3_setBest 4 := ⟨zGW_of 999 (by decide +kernel), im_X3_setBest, sl_X3_setBest, iw_X3_init, cd_X3_setBest, np_X3_setBest⟩
theorem cw_X3_97 : zcv RX3 97 mX3_findExchange 1 := ⟨zGW_of 1003 (by decide +kernel), im_X3_findExchange, sl_X3_findExchange, iw_X3_init, cd_X3_findExchange, np_X3_findExchange⟩
theorem cw_X3_100 : zcv RX3 100 mX3_takeStep 1 := ⟨zGW_of 1007 (by decide +kernel), im_X3_takeStep, sl_X3_takeStep, iw_X3_init, cd_X3_takeStep, np_X3_takeStep⟩
theorem cw_X3_130 : zcv RX3 130 mX3_takeAway 4 := ⟨zGW_of 1011 (by decide +kernel), im_X3_takeAway, sl_X3_takeAway, iw_X3_init, cd_X3_takeAway, np_X3_takeAway⟩
theorem cw_L_182 : zcsH RL 182 mL_step 5 := ⟨zGW_of 1015 (by decide +kernel), st_L_step, iw_L_append, cd_L_step, np_L_step⟩
theorem cw_L_60 : zcv RL 60 mX8_step 3 := ⟨zGW_of 1018 (by decide +kernel), im_X8_step, sl_X8_step, iw_X8_init, cd_X8_step, np_X8_step⟩
theorem cw_L_185 : zcsH RL 185 mL_saving 3 := ⟨zGW_of 1022 (by decide +kernel), st_L_saving, iw_L_append, cd_L_saving, np_L_saving⟩
theorem cw_L_64 : zcv RL 64 mX8_saving 1 := ⟨zGW_of 1025 (by decide +kernel), im_X8_saving, sl_X8_saving, iw_X8_init, cd_X8_saving, np_X8_saving⟩
theorem cw_L_188 : zcsH RL 188 mL_withRoom 5 := ⟨zGW_of 1029 (by decide +kernel), st_L_withRoom, iw_L_append, cd_L_withRoom, np_L_withRoom⟩
theorem cw_L_67 : zcv RL 67 mX8_withRoom 3 := ⟨zGW_of 1032 (by decide +kernel), im_X8_withRoom, sl_X8_withRoom, iw_X8_init, cd_X8_withRoom, np_X8_withRoom⟩
theorem cw_X8_252 : zcv RX8 252 mX3_planAgain 3 := ⟨zGW_of 1036 (by decide +kernel), im_X3_planAgain, sl_X3_planAgain, iw_X3_init, cd_X3_planAgain, np_X3_planAgain⟩
theorem cw_L_191 : zcsH RL 191 mL_add 4 := ⟨zGW_of 1037 (by decide +kernel), st_L_add, iw_L_append, cd_L_add, np_L_add⟩
theorem cw_L_70 : zcv RL 70 mX8_add 2 := ⟨zGW_of 1040 (by decide +kernel), im_X8_add, sl_X8_add, iw_X8_init, cd_X8_add, np_X8_add⟩
theorem cw_X8_260 : zcv RX8 260 mX5_putFile 4 := ⟨zGW_of 1044 (by decide +kernel), im_X5_putFile, sl_X5_putFile, iw_X5_init, cd_X5_putFile, np_X5_putFile⟩
theorem cw_L_194 : zcsH RL 194 mL_drop 3 := ⟨zGW_of 1045 (by decide +kernel), st_L_drop, iw_L_append, cd_L_drop, np_L_drop⟩
theorem cw_L_73 : zcv RL 73 mX8_drop 1 := ⟨zGW_of 1048 (by decide +kernel), im_X8_drop, sl_X8_drop, iw_X8_init, cd_X8_drop, np_X8_drop⟩
theorem cw_X8_264 : zcv RX8 264 mX5_removeFile 1 := ⟨zGW_of 1052 (by decide +kernel), im_X5_removeFile, sl_X5_removeFile, iw_X5_init, cd_X5_removeFile, np_X5_removeFile⟩
theorem cw_X5_120 : zcv RX5 120 mX2_forgetFile 1 := ⟨zGW_of 1056 (by decide +kernel), im_X2_forgetFile, sl_X2_forgetFile, iw_X2_init, cd_X2_forgetFile, np_X2_forgetFile⟩
theorem cw_X2_25 : zcv RX2 25 mX2_removeRow 1 := ⟨zGW_of 1060 (by decide +kernel), im_X2_removeRow, sl_X2_removeRow, iw_X2_init, cd_X2_removeRow, np_X2_removeRow⟩
theorem cw_L_197 : zcsH RL 197 mL_use 4 := ⟨zGW_of 1064 (by decide +kernel), st_L_use, iw_L_append, cd_L_use, np_L_use⟩
theorem cw_L_76 : zcv RL 76 mX8_use 2 := ⟨zGW_of 1067 (by decide +kernel), im_X8_use, sl_X8_use, iw_X8_init, cd_X8_use, np_X8_use⟩
theorem cw_L_205 : zcsH RL 205 mL_move 4 := ⟨zGW_of 1071 (by decide +kernel), st_L_move, iw_L_append, cd_L_move, np_L_move⟩
theorem cw_L_79 : zcv RL 79 mX8_move 2 := ⟨zGW_of 1074 (by decide +kernel), im_X8_move, sl_X8_move, iw_X8_init, cd_X8_move, np_X8_move⟩
theorem cw_X8_273 : zcv RX8 273 mX5_carry 2 := ⟨zGW_of 1078 (by decide +kernel), im_X5_carry, sl_X5_carry, iw_X5_init, cd_X5_carry, np_X5_carry⟩
theorem cw_X5_145 : zcv RX5 145 mX2_put 5 := ⟨zGW_of 1082 (by decide +kernel), im_X2_put, sl_X2_put, iw_X2_init, cd_X2_put, np_X2_put⟩
theorem cw_L_212 : zcsH RL 212 mL_pin 4 := ⟨zGW_of 1086 (by decide +kernel), st_L_pin, iw_L_append, cd_L_pin, np_L_pin⟩
theorem cw_L_82 : zcv RL 82 mX8_pin 2 := ⟨zGW_of 1089 (by decide +kernel), im_X8_pin, sl_X8_pin, iw_X8_init, cd_X8_pin, np_X8_pin⟩
theorem cw_L_215 : zcsH RL 215 mL_act 3 := ⟨zGW_of 1093 (by decide +kernel), st_L_act, iw_L_append, cd_L_act, np_L_act⟩
theorem cw_L_85 : zcv RL 85 mX8_act 1 := ⟨zGW_of 1096 (by decide +kernel), im_X8_act, sl_X8_act, iw_X8_init, cd_X8_act, np_X8_act⟩
theorem cw_X8_283 : zcv RX8 283 mX3_carryOut 1 := ⟨zGW_of 1100 (by decide +kernel), im_X3_carryOut, sl_X3_carryOut, iw_X3_init, cd_X3_carryOut, np_X3_carryOut⟩
theorem cw_X3_107 : zcv RX3 107 mX5_carry 2 := ⟨zGW_of 1104 (by decide +kernel), im_X5_carry, sl_X5_carry, iw_X5_init, cd_X5_carry, np_X5_carry⟩
theorem cw_L_218 : zcsH RL 218 mL_learn 4 := ⟨zGW_of 1105 (by decide +kernel), st_L_learn, iw_L_append, cd_L_learn, np_L_learn⟩
theorem cw_L_88 : zcv RL 88 mX8_learn 2 := ⟨zGW_of 1108 (by decide +kernel), im_X8_learn, sl_X8_learn, iw_X8_init, cd_X8_learn, np_X8_learn⟩
theorem cw_X8_286 : zcv RX8 286 mX5_learnAgain 2 := ⟨zGW_of 1112 (by decide +kernel), im_X5_learnAgain, sl_X5_learnAgain, iw_X5_init, cd_X5_learnAgain, np_X5_learnAgain⟩
theorem cw_X5_152 : zcv RX5 152 mX0_learnFromKept 3 := ⟨zGW_of 1116 (by decide +kernel), im_X0_learnFromKept, sl_X0_learnFromKept, iw_X0_init, cd_X0_learnFromKept, np_X0_learnFromKept⟩
theorem cw_X0_72 : zcs RX0 72 mJ9_floorMod_7cf53 2 := ⟨zGW_of 1120 (by decide +kernel), st_J9_floorMod_7cf53, iw_J9_floorMod_7cf53, cd_J9_floorMod_7cf53, np_J9_floorMod_7cf53⟩
theorem cw_X0_76 : zcv RX0 76 mX0_learnSeason 3 := ⟨zGW_of 1123 (by decide +kernel), im_X0_learnSeason, sl_X0_learnSeason, iw_X0_init, cd_X0_learnSeason, np_X0_learnSeason⟩
theorem cw_L_221 : zcsH RL 221 mL_setTier 5 := ⟨zGW_of 1124 (by decide +kernel), st_L_setTier, iw_L_append, cd_L_setTier, np_L_setTier⟩
theorem cw_L_91 : zcv RL 91 mX8_setTier 3 := ⟨zGW_of 1127 (by decide +kernel), im_X8_setTier, sl_X8_setTier, iw_X8_init, cd_X8_setTier, np_X8_setTier⟩
theorem cw_X8_290 : zcs RX8 290 mX8_leastOf 1 := ⟨zGW_of 1131 (by decide +kernel), st_X8_leastOf, iw_X8_init, cd_X8_leastOf, np_X8_leastOf⟩
theorem cw_X8_293 : zcs RX8 293 mX8_greatestOf 1 := ⟨zGW_of 1132 (by decide +kernel), st_X8_greatestOf, iw_X8_init, cd_X8_greatestOf, np_X8_greatestOf⟩
theorem cw_L_224 : zcsH RL 224 mL_undo 2 := ⟨zGW_of 1133 (by decide +kernel), st_L_undo, iw_L_append, cd_L_undo, np_L_undo⟩
theorem cw_L_94 : zcv RL 94 mX8_undo 0 := ⟨zGW_of 1136 (by decide +kernel), im_X8_undo, sl_X8_undo, iw_X8_init, cd_X8_undo, np_X8_undo⟩
theorem cw_X8_297 : zcv RX8 297 mX1_bringBack 1 := ⟨zGW_of 1140 (by decide +kernel), im_X1_bringBack, sl_X1_bringBack, iw_X1_init, cd_X1_bringBack, np_X1_bringBack⟩
theorem cw_L_228 : zcsH RL 228 mL_save 2 := ⟨zGW_of 1144 (by decide +kernel), st_L_save, iw_L_append, cd_L_save, np_L_save⟩
theorem cw_L_98 : zcv RL 98 mX8_save 1 := ⟨zGW_of 1147 (by decide +kernel), im_X8_save, sl_X8_save, iw_X8_init, cd_X8_save, np_X8_save⟩
theorem cw_X8_300 : zcs RX8 300 mX8_requireSlot 1 := ⟨zGW_of 1151 (by decide +kernel), st_X8_requireSlot, iw_X8_init, cd_X8_requireSlot, np_X8_requireSlot⟩
theorem cw_L_232 : zcsH RL 232 mL_restore 3 := ⟨zGW_of 1154 (by decide +kernel), st_L_restore, iw_L_append, cd_L_restore, np_L_restore⟩
theorem cw_L_102 : zcv RL 102 mX8_restore 1 := ⟨zGW_of 1157 (by decide +kernel), im_X8_restore, sl_X8_restore, iw_X8_init, cd_X8_restore, np_X8_restore⟩
theorem cw_L_239 : zcsH RL 239 mL_writtenByte 3 := ⟨zGW_of 1161 (by decide +kernel), st_L_writtenByte, iw_L_append, cd_L_writtenByte, np_L_writtenByte⟩
theorem cw_L_105 : zcv RL 105 mX8_writtenByte 1 := ⟨zGW_of 1164 (by decide +kernel), im_X8_writtenByte, sl_X8_writtenByte, iw_X8_init, cd_X8_writtenByte, np_X8_writtenByte⟩
theorem cw_L_111 : zci RL 111 mX9_init 0 := ⟨zGW_of 1170 (by decide +kernel), im_X9_init, iw_X9_init, cd_X9_init, rfl, rfl, np_X9_init⟩
theorem cw_X9_58 : zcv RX9 58 mX9_begins 0 := ⟨zGW_of 1174 (by decide +kernel), im_X9_begins, sl_X9_begins, iw_X9_init, cd_X9_begins, np_X9_begins⟩
theorem cw_X9_63 : zcv RX9 63 mX9_puts 6 := ⟨zGW_of 1180 (by decide +kernel), im_X9_puts, sl_X9_puts, iw_X9_init, cd_X9_puts, np_X9_puts⟩
theorem cw_L_118 : zcv RL 118 mX9_thrown 0 := ⟨zGW_of 1281 (by decide +kernel), im_X9_thrown, sl_X9_thrown, iw_X9_init, cd_X9_thrown, np_X9_thrown⟩
theorem cw_L_227 : zcv RL 227 mX9_undo 0 := ⟨zGW_of 1285 (by decide +kernel), im_X9_undo, sl_X9_undo, iw_X9_init, cd_X9_undo, np_X9_undo⟩
theorem cw_X9_75 : zcs RX9 75 mX9_copies 4 := ⟨zGW_of 1289 (by decide +kernel), st_X9_copies, iw_X9_init, cd_X9_copies, np_X9_copies⟩
theorem cw_L_231 : zcv RL 231 mX9_save 1 := ⟨zGW_of 1292 (by decide +kernel), im_X9_save, sl_X9_save, iw_X9_init, cd_X9_save, np_X9_save⟩
theorem cw_X9_79 : zcs RX9 79 mX9_isIn 3 := ⟨zGW_of 1296 (by decide +kernel), st_X9_isIn, iw_X9_init, cd_X9_isIn, np_X9_isIn⟩
theorem cw_L_234 : zcv RL 234 mX9_restore 1 := ⟨zGW_of 1299 (by decide +kernel), im_X9_restore, sl_X9_restore, iw_X9_init, cd_X9_restore, np_X9_restore⟩
theorem cw_X9_83 : zcv RX9 83 mX9_keeps 1 := ⟨zGW_of 1303 (by decide +kernel), im_X9_keeps, sl_X9_keeps, iw_X9_init, cd_X9_keeps, np_X9_keeps⟩
theorem cw_X9_87 : zcv RX9 87 mX9_its 1 := ⟨zGW_of 1307 (by decide +kernel), im_X9_its, sl_X9_its, iw_X9_init, cd_X9_its, np_X9_its⟩
theorem cw_L_117 : zcv RL 117 mX9_append 5 := ⟨zGW_of 1311 (by decide +kernel), im_X9_append, sl_X9_append, iw_X9_init, cd_X9_append, np_X9_append⟩
theorem cw_X9_91 : zcs RX9 91 mX9_byteOf 6 := ⟨zGW_of 1315 (by decide +kernel), st_X9_byteOf, iw_X9_init, cd_X9_byteOf, np_X9_byteOf⟩
theorem cw_L_124 : zcv RL 124 mX9_load 0 := ⟨zGW_of 1318 (by decide +kernel), im_X9_load, sl_X9_load, iw_X9_init, cd_X9_load, np_X9_load⟩
theorem cw_X9_147 : zcv RX9 147 mX9_next 0 := ⟨zGW_of 1322 (by decide +kernel), im_X9_next, sl_X9_next, iw_X9_init, cd_X9_next, np_X9_next⟩
theorem cw_X9_98 : zcv RX9 98 mX9_see 1 := ⟨zGW_of 1326 (by decide +kernel), im_X9_see, sl_X9_see, iw_X9_init, cd_X9_see, np_X9_see⟩
theorem cw_X9_113 : zcv RX9 113 mX9_isLetter 1 := ⟨zGW_of 1330 (by decide +kernel), im_X9_isLetter, sl_X9_isLetter, iw_X9_init, cd_X9_isLetter, np_X9_isLetter⟩
theorem cw_X9_117 : zcv RX9 117 mX9_isDigit 1 := ⟨zGW_of 1334 (by decide +kernel), im_X9_isDigit, sl_X9_isDigit, iw_X9_init, cd_X9_isDigit, np_X9_isDigit⟩
theorem cw_X9_121 : zcs RX9 121 mJ9_min_7cf53 2 := ⟨zGW_of 1339 (by decide +kernel), st_J9_min_7cf53, iw_J9_floorMod_7cf53, cd_J9_min_7cf53, np_J9_min_7cf53⟩
theorem cw_X9_159 : zcv RX9 159 mX9_isWord 1 := ⟨zGW_of 1343 (by decide +kernel), im_X9_isWord, sl_X9_isWord, iw_X9_init, cd_X9_isWord, np_X9_isWord⟩
theorem cw_X9_130 : zcv RX9 130 mJ0_length_8abf5 0 := ⟨zGW_of 1347 (by decide +kernel), im_J0_length_8abf5, sl_J0_length_8abf5, iw_J0_length_8abf5, cd_J0_length_8abf5, np_J0_length_8abf5⟩
theorem cw_X9_136 : zcv RX9 136 mJ0_charAt_5068e 1 := ⟨zGW_of 1348 (by decide +kernel), im_J0_charAt_5068e, sl_J0_charAt_5068e, iw_J0_length_8abf5, cd_J0_charAt_5068e, np_J0_charAt_5068e⟩
theorem cw_X9_150 : zcv RX9 150 mX9_must 1 := ⟨zGW_of 1349 (by decide +kernel), im_X9_must, sl_X9_must, iw_X9_init, cd_X9_must, np_X9_must⟩
theorem cw_X9_143 : zcv RX9 143 mX9_fails 1 := ⟨zGW_of 1353 (by decide +kernel), im_X9_fails, sl_X9_fails, iw_X9_init, cd_X9_fails, np_X9_fails⟩
theorem cw_X9_174 : zcv RX9 174 mX9_takes 2 := ⟨zGW_of 1357 (by decide +kernel), im_X9_takes, sl_X9_takes, iw_X9_init, cd_X9_takes, np_X9_takes⟩
theorem cw_X9_177 : zcv RX9 177 mX9_mustEnd 0 := ⟨zGW_of 1362 (by decide +kernel), im_X9_mustEnd, sl_X9_mustEnd, iw_X9_init, cd_X9_mustEnd, np_X9_mustEnd⟩
theorem cw_X9_203 : zcv RX9 203 mX9_readsTier 0 := ⟨zGW_of 1366 (by decide +kernel), im_X9_readsTier, sl_X9_readsTier, iw_X9_init, cd_X9_readsTier, np_X9_readsTier⟩
theorem cw_X9_154 : zcv RX9 154 mX9_tiers 0 := ⟨zGW_of 1370 (by decide +kernel), im_X9_tiers, sl_X9_tiers, iw_X9_init, cd_X9_tiers, np_X9_tiers⟩
theorem cw_X9_163 : zcv RX9 163 mX9_mustName 0 := ⟨zGW_of 1375 (by decide +kernel), im_X9_mustName, sl_X9_mustName, iw_X9_init, cd_X9_mustName, np_X9_mustName⟩
theorem cw_X9_166 : zcv RX9 166 mX9_named 3 := ⟨zGW_of 1379 (by decide +kernel), im_X9_named, sl_X9_named, iw_X9_init, cd_X9_named, np_X9_named⟩
theorem cw_X9_170 : zcv RX9 170 mX9_putsName 1 := ⟨zGW_of 1383 (by decide +kernel), im_X9_putsName, sl_X9_putsName, iw_X9_init, cd_X9_putsName, np_X9_putsName⟩
theorem cw_X9_208 : zcv RX9 208 mX9_readsFile 0 := ⟨zGW_of 1389 (by decide +kernel), im_X9_readsFile, sl_X9_readsFile, iw_X9_init, cd_X9_readsFile, np_X9_readsFile⟩
theorem cw_X9_180 : zcv RX9 180 mX9_files 0 := ⟨zGW_of 1393 (by decide +kernel), im_X9_files, sl_X9_files, iw_X9_init, cd_X9_files, np_X9_files⟩
theorem cw_X9_183 : zcv RX9 183 mX9_begins0 1 := ⟨zGW_of 1397 (by decide +kernel), im_X9_begins0, sl_X9_begins0, iw_X9_init, cd_X9_begins0, np_X9_begins0⟩
theorem cw_X9_193 : zcv RX9 193 mX9_sets 3 := ⟨zGW_of 1401 (by decide +kernel), im_X9_sets, sl_X9_sets, iw_X9_init, cd_X9_sets, np_X9_sets⟩
theorem cw_X9_188 : zcv RX9 188 mX9_freeOn 1 := ⟨zGW_of 1407 (by decide +kernel), im_X9_freeOn, sl_X9_freeOn, iw_X9_init, cd_X9_freeOn, np_X9_freeOn⟩
theorem cw_X9_214 : zcv RX9 214 mX9_ofTier 2 := ⟨zGW_of 1411 (by decide +kernel), im_X9_ofTier, sl_X9_ofTier, iw_X9_init, cd_X9_ofTier, np_X9_ofTier⟩
theorem cw_X9_217 : zcv RX9 217 mX9_fullOf 1 := ⟨zGW_of 1415 (by decide +kernel), im_X9_fullOf, sl_X9_fullOf, iw_X9_init, cd_X9_fullOf, np_X9_fullOf⟩
theorem cw_X9_211 : zcv RX9 211 mX9_of 2 := ⟨zGW_of 1419 (by decide +kernel), im_X9_of, sl_X9_of, iw_X9_init, cd_X9_of, np_X9_of⟩
theorem cw_L_128 : zcv RL 128 mX9_errorPosition 0 := ⟨zGW_of 1424 (by decide +kernel), im_X9_errorPosition, sl_X9_errorPosition, iw_X9_init, cd_X9_errorPosition, np_X9_errorPosition⟩
theorem cw_L_132 : zcv RL 132 mX9_count 1 := ⟨zGW_of 1428 (by decide +kernel), im_X9_count, sl_X9_count, iw_X9_init, cd_X9_count, np_X9_count⟩
theorem cw_X9_236 : zcv RX9 236 mX9_pinned 0 := ⟨zGW_of 1432 (by decide +kernel), im_X9_pinned, sl_X9_pinned, iw_X9_init, cd_X9_pinned, np_X9_pinned⟩
theorem cw_X9_233 : zcv RX9 233 mX9_isPinned 1 := ⟨zGW_of 1436 (by decide +kernel), im_X9_isPinned, sl_X9_isPinned, iw_X9_init, cd_X9_isPinned, np_X9_isPinned⟩
theorem cw_X9_239 : zcv RX9 239 mX9_sizes 0 := ⟨zGW_of 1440 (by decide +kernel), im_X9_sizes, sl_X9_sizes, iw_X9_init, cd_X9_sizes, np_X9_sizes⟩
theorem cw_L_136 : zcv RL 136 mX9_tier 2 := ⟨zGW_of 1444 (by decide +kernel), im_X9_tier, sl_X9_tier, iw_X9_init, cd_X9_tier, np_X9_tier⟩
theorem cw_X9_245 : zcv RX9 245 mX9_isTier 1 := ⟨zGW_of 1448 (by decide +kernel), im_X9_isTier, sl_X9_isTier, iw_X9_init, cd_X9_isTier, np_X9_isTier⟩
theorem cw_X9_248 : zcv RX9 248 mX9_filesOn 1 := ⟨zGW_of 1452 (by decide +kernel), im_X9_filesOn, sl_X9_filesOn, iw_X9_init, cd_X9_filesOn, np_X9_filesOn⟩
theorem cw_X9_251 : zcv RX9 251 mX9_busiest 1 := ⟨zGW_of 1456 (by decide +kernel), im_X9_busiest, sl_X9_busiest, iw_X9_init, cd_X9_busiest, np_X9_busiest⟩
theorem cw_X9_242 : zcv RX9 242 mX9_forecastOf 2 := ⟨zGW_of 1460 (by decide +kernel), im_X9_forecastOf, sl_X9_forecastOf, iw_X9_init, cd_X9_forecastOf, np_X9_forecastOf⟩
theorem cw_X9_220 : zcv RX9 220 mX9_knownOf 1 := ⟨zGW_of 1464 (by decide +kernel), im_X9_knownOf, sl_X9_knownOf, iw_X9_init, cd_X9_knownOf, np_X9_knownOf⟩
theorem cw_X9_223 : zcs RX9 223 mJ9_max_7cf53 2 := ⟨zGW_of 1468 (by decide +kernel), st_J9_max_7cf53, iw_J9_floorMod_7cf53, cd_J9_max_7cf53, np_J9_max_7cf53⟩
theorem cw_L_139 : zcv RL 139 mX9_file 2 := ⟨zGW_of 1471 (by decide +kernel), im_X9_file, sl_X9_file, iw_X9_init, cd_X9_file, np_X9_file⟩
theorem cw_X9_254 : zcv RX9 254 mX9_isFile 1 := ⟨zGW_of 1475 (by decide +kernel), im_X9_isFile, sl_X9_isFile, iw_X9_init, cd_X9_isFile, np_X9_isFile⟩
theorem cw_X9_257 : zcv RX9 257 mX9_seasonsOf 2 := ⟨zGW_of 1479 (by decide +kernel), im_X9_seasonsOf, sl_X9_seasonsOf, iw_X9_init, cd_X9_seasonsOf, np_X9_seasonsOf⟩
theorem cw_L_142 : zcv RL 142 mX9_season 2 := ⟨zGW_of 1483 (by decide +kernel), im_X9_season, sl_X9_season, iw_X9_init, cd_X9_season, np_X9_season⟩
theorem cw_L_145 : zcv RL 145 mX9_kept 2 := ⟨zGW_of 1487 (by decide +kernel), im_X9_kept, sl_X9_kept, iw_X9_init, cd_X9_kept, np_X9_kept⟩
theorem cw_L_148 : zcv RL 148 mX9_forecast 2 := ⟨zGW_of 1491 (by decide +kernel), im_X9_forecast, sl_X9_forecast, iw_X9_init, cd_X9_forecast, np_X9_forecast⟩
theorem cw_L_151 : zcv RL 151 mX9_off 1 := ⟨zGW_of 1495 (by decide +kernel), im_X9_off, sl_X9_off, iw_X9_init, cd_X9_off, np_X9_off⟩
theorem cw_L_156 : zcv RL 156 mX9_meanOff 0 := ⟨zGW_of 1499 (by decide +kernel), im_X9_meanOff, sl_X9_meanOff, iw_X9_init, cd_X9_meanOff, np_X9_meanOff⟩
theorem cw_L_159 : zcv RL 159 mX9_cycleOf 1 := ⟨zGW_of 1503 (by decide +kernel), im_X9_cycleOf, sl_X9_cycleOf, iw_X9_init, cd_X9_cycleOf, np_X9_cycleOf⟩
theorem cw_X9_261 : zcv RX9 261 mX9_ownCycle 1 := ⟨zGW_of 1507 (by decide +kernel), im_X9_ownCycle, sl_X9_ownCycle, iw_X9_init, cd_X9_ownCycle, np_X9_ownCycle⟩
theorem cw_X9_230 : zcv RX9 230 mX9_strange 2 := ⟨zGW_of 1511 (by decide +kernel), im_X9_strange, sl_X9_strange, iw_X9_init, cd_X9_strange, np_X9_strange⟩
theorem cw_L_163 : zcv RL 163 mX9_commonCycle 0 := ⟨zGW_of 1515 (by decide +kernel), im_X9_commonCycle, sl_X9_commonCycle, iw_X9_init, cd_X9_commonCycle, np_X9_commonCycle⟩
theorem cw_L_166 : zcv RL 166 mX9_account 2 := ⟨zGW_of 1519 (by decide +kernel), im_X9_account, sl_X9_account, iw_X9_init, cd_X9_account, np_X9_account⟩
theorem cw_X9_264 : zcv RX9 264 mX9_sumOf 2 := ⟨zGW_of 1523 (by decide +kernel), im_X9_sumOf, sl_X9_sumOf, iw_X9_init, cd_X9_sumOf, np_X9_sumOf⟩
theorem cw_L_171 : zcv RL 171 mX9_movingShare 0 := ⟨zGW_of 1527 (by decide +kernel), im_X9_movingShare, sl_X9_movingShare, iw_X9_init, cd_X9_movingShare, np_X9_movingShare⟩
theorem cw_L_175 : zcv RL 175 mX9_cost 3 := ⟨zGW_of 1531 (by decide +kernel), im_X9_cost, sl_X9_cost, iw_X9_init, cd_X9_cost, np_X9_cost⟩
theorem cw_X9_320 : zcs RX9 320 mX9_isSpan 1 := ⟨zGW_of 1535 (by decide +kernel), st_X9_isSpan, iw_X9_init, cd_X9_isSpan, np_X9_isSpan⟩
theorem cw_X9_270 : zcv RX9 270 mX9_costOn 3 := ⟨zGW_of 1538 (by decide +kernel), im_X9_costOn, sl_X9_costOn, iw_X9_init, cd_X9_costOn, np_X9_costOn⟩
theorem cw_L_178 : zcv RL 178 mX9_wish 2 := ⟨zGW_of 1543 (by decide +kernel), im_X9_wish, sl_X9_wish, iw_X9_init, cd_X9_wish, np_X9_wish⟩
theorem cw_X9_297 : zcv RX9 297 mX9_laysCosts 1 := ⟨zGW_of 1547 (by decide +kernel), im_X9_laysCosts, sl_X9_laysCosts, iw_X9_init, cd_X9_laysCosts, np_X9_laysCosts⟩
theorem cw_X9_290 : zcv RX9 290 mX9_savesBy 3 := ⟨zGW_of 1551 (by decide +kernel), im_X9_savesBy, sl_X9_savesBy, iw_X9_init, cd_X9_savesBy, np_X9_savesBy⟩
theorem cw_L_181 : zcv RL 181 mX9_steps 1 := ⟨zGW_of 1555 (by decide +kernel), im_X9_steps, sl_X9_steps, iw_X9_init, cd_X9_steps, np_X9_steps⟩
theorem cw_X9_323 : zcv RX9 323 mX9_plans 3 := ⟨zGW_of 1559 (by decide +kernel), im_X9_plans, sl_X9_plans, iw_X9_init, cd_X9_plans, np_X9_plans⟩
theorem cw_X9_306 : zcv RX9 306 mX9_findsStep 0 := ⟨zGW_of 1563 (by decide +kernel), im_X9_findsStep, sl_X9_findsStep, iw_X9_init, cd_X9_findsStep, np_X9_findsStep⟩
theorem cw_X9_314 : zcv RX9 314 mX9_findsMove 0 := ⟨zGW_of 1567 (by decide +kernel), im_X9_findsMove, sl_X9_findsMove, iw_X9_init, cd_X9_findsMove, np_X9_findsMove⟩
theorem cw_X9_287 : zcv RX9 287 mX9_canGo 1 := ⟨zGW_of 1571 (by decide +kernel), im_X9_canGo, sl_X9_canGo, iw_X9_init, cd_X9_canGo, np_X9_canGo⟩
theorem cw_X9_293 : zcv RX9 293 mX9_found 4 := ⟨zGW_of 1575 (by decide +kernel), im_X9_found, sl_X9_found, iw_X9_init, cd_X9_found, np_X9_found⟩
theorem cw_X9_317 : zcv RX9 317 mX9_findsExchange 0 := ⟨zGW_of 1579 (by decide +kernel), im_X9_findsExchange, sl_X9_findsExchange, iw_X9_init, cd_X9_findsExchange, np_X9_findsExchange⟩
theorem cw_X9_310 : zcv RX9 310 mX9_goesOnPaper 2 := ⟨zGW_of 1583 (by decide +kernel), im_X9_goesOnPaper, sl_X9_goesOnPaper, iw_X9_init, cd_X9_goesOnPaper, np_X9_goesOnPaper⟩
theorem cw_L_184 : zcv RL 184 mX9_step 3 := ⟨zGW_of 1587 (by decide +kernel), im_X9_step, sl_X9_step, iw_X9_init, cd_X9_step, np_X9_step⟩
theorem cw_L_187 : zcv RL 187 mX9_saving 1 := ⟨zGW_of 1591 (by decide +kernel), im_X9_saving, sl_X9_saving, iw_X9_init, cd_X9_saving, np_X9_saving⟩
theorem cw_L_190 : zcv RL 190 mX9_withRoom 3 := ⟨zGW_of 1595 (by decide +kernel), im_X9_withRoom, sl_X9_withRoom, iw_X9_init, cd_X9_withRoom, np_X9_withRoom⟩
theorem cw_L_193 : zcv RL 193 mX9_add 2 := ⟨zGW_of 1599 (by decide +kernel), im_X9_add, sl_X9_add, iw_X9_init, cd_X9_add, np_X9_add⟩
theorem cw_X9_326 : zcs RX9 326 mX9_refused 1 := ⟨zGW_of 1603 (by decide +kernel), st_X9_refused, iw_X9_init, cd_X9_refused, np_X9_refused⟩
theorem cw_L_196 : zcv RL 196 mX9_drop 1 := ⟨zGW_of 1606 (by decide +kernel), im_X9_drop, sl_X9_drop, iw_X9_init, cd_X9_drop, np_X9_drop⟩
theorem cw_L_199 : zcv RL 199 mX9_use 2 := ⟨zGW_of 1610 (by decide +kernel), im_X9_use, sl_X9_use, iw_X9_init, cd_X9_use, np_X9_use⟩
theorem cw_L_204 : zcv RL 204 mX9_close 0 := ⟨zGW_of 1614 (by decide +kernel), im_X9_close, sl_X9_close, iw_X9_init, cd_X9_close, np_X9_close⟩
theorem cw_X9_337 : zcv RX9 337 mX9_closes 1 := ⟨zGW_of 1619 (by decide +kernel), im_X9_closes, sl_X9_closes, iw_X9_init, cd_X9_closes, np_X9_closes⟩
theorem cw_X9_329 : zcv RX9 329 mX9_pays 3 := ⟨zGW_of 1623 (by decide +kernel), im_X9_pays, sl_X9_pays, iw_X9_init, cd_X9_pays, np_X9_pays⟩
theorem cw_X9_226 : zcv RX9 226 mX9_learns 3 := ⟨zGW_of 1627 (by decide +kernel), im_X9_learns, sl_X9_learns, iw_X9_init, cd_X9_learns, np_X9_learns⟩
theorem cw_X9_332 : zcv RX9 332 mX9_keepsUses 1 := ⟨zGW_of 1631 (by decide +kernel), im_X9_keepsUses, sl_X9_keepsUses, iw_X9_init, cd_X9_keepsUses, np_X9_keepsUses⟩
theorem cw_L_207 : zcv RL 207 mX9_move 2 := ⟨zGW_of 1635 (by decide +kernel), im_X9_move, sl_X9_move, iw_X9_init, cd_X9_move, np_X9_move⟩
theorem cw_X9_342 : zcv RX9 342 mX9_goes 2 := ⟨zGW_of 1639 (by decide +kernel), im_X9_goes, sl_X9_goes, iw_X9_init, cd_X9_goes, np_X9_goes⟩
theorem cw_L_211 : zcv RL 211 mX9_unmove 0 := ⟨zGW_of 1644 (by decide +kernel), im_X9_unmove, sl_X9_unmove, iw_X9_init, cd_X9_unmove, np_X9_unmove⟩
theorem cw_L_214 : zcv RL 214 mX9_pin 2 := ⟨zGW_of 1648 (by decide +kernel), im_X9_pin, sl_X9_pin, iw_X9_init, cd_X9_pin, np_X9_pin⟩
theorem cw_L_217 : zcv RL 217 mX9_act 1 := ⟨zGW_of 1652 (by decide +kernel), im_X9_act, sl_X9_act, iw_X9_init, cd_X9_act, np_X9_act⟩
theorem cw_L_220 : zcv RL 220 mX9_learn 2 := ⟨zGW_of 1656 (by decide +kernel), im_X9_learn, sl_X9_learn, iw_X9_init, cd_X9_learn, np_X9_learn⟩
theorem cw_X9_348 : zcv RX9 348 mX9_relearns 1 := ⟨zGW_of 1660 (by decide +kernel), im_X9_relearns, sl_X9_relearns, iw_X9_init, cd_X9_relearns, np_X9_relearns⟩
theorem cw_L_223 : zcv RL 223 mX9_setTier 3 := ⟨zGW_of 1664 (by decide +kernel), im_X9_setTier, sl_X9_setTier, iw_X9_init, cd_X9_setTier, np_X9_setTier⟩
theorem cw_L_238 : zcv RL 238 mX9_writeTiers 0 := ⟨zGW_of 1668 (by decide +kernel), im_X9_writeTiers, sl_X9_writeTiers, iw_X9_init, cd_X9_writeTiers, np_X9_writeTiers⟩
theorem cw_X9_354 : zcv RX9 354 mX9_says 1 := ⟨zGW_of 1673 (by decide +kernel), im_X9_says, sl_X9_says, iw_X9_init, cd_X9_says, np_X9_says⟩
theorem cw_X9_360 : zcv RX9 360 mX9_saysName 1 := ⟨zGW_of 1677 (by decide +kernel), im_X9_saysName, sl_X9_saysName, iw_X9_init, cd_X9_saysName, np_X9_saysName⟩
theorem cw_L_241 : zcv RL 241 mX9_writtenByte 1 := ⟨zGW_of 1684 (by decide +kernel), im_X9_writtenByte, sl_X9_writtenByte, iw_X9_init, cd_X9_writtenByte, np_X9_writtenByte⟩
theorem nk_L_8 : znk RL 8 8 := ⟨by decide, uw_8, rfl, rfl, zGW_of 105 (by decide +kernel), zGW_of 106 (by decide +kernel), zGW_of 83 (by decide +kernel), tyX8, by decide +kernel, by decide +kernel⟩
theorem nk_X8_7 : znk RX8 7 4 := ⟨by decide, uw_4, rfl, rfl, zGW_of 113 (by decide +kernel), zGW_of 114 (by decide +kernel), zGW_of 84 (by decide +kernel), tyX4, by decide +kernel, by decide +kernel⟩
theorem nk_X8_16 : znk RX8 16 7 := ⟨by decide, uw_7, rfl, rfl, zGW_of 147 (by decide +kernel), zGW_of 148 (by decide +kernel), zGW_of 85 (by decide +kernel), tyX7, by decide +kernel, by decide +kernel⟩
theorem nk_X8_23 : znk RX8 23 3 := ⟨by decide, uw_3, rfl, rfl, zGW_of 162 (by decide +kernel), zGW_of 163 (by decide +kernel), zGW_of 86 (by decide +kernel), tyX3, by decide +kernel, by decide +kernel⟩
theorem nk_X8_30 : znk RX8 30 1 := ⟨by decide, uw_1, rfl, rfl, zGW_of 212 (by decide +kernel), zGW_of 213 (by decide +kernel), zGW_of 87 (by decide +kernel), tyX1, by decide +kernel, by decide +kernel⟩
theorem nk_X1_18 : znk RX1 18 5 := ⟨by decide, uw_5, rfl, rfl, zGW_of 218 (by decide +kernel), zGW_of 220 (by decide +kernel), zGW_of 88 (by decide +kernel), tyX5, by decide +kernel, by decide +kernel⟩
theorem nk_X5_27 : znk RX5 27 6 := ⟨by decide, uw_6, rfl, rfl, zGW_of 225 (by decide +kernel), zGW_of 244 (by decide +kernel), zGW_of 90 (by decide +kernel), tyX6, by decide +kernel, by decide +kernel⟩
theorem nk_X5_33 : znk RX5 33 0 := ⟨by decide, uw_0, rfl, rfl, zGW_of 227 (by decide +kernel), zGW_of 266 (by decide +kernel), zGW_of 91 (by decide +kernel), tyX0, by decide +kernel, by decide +kernel⟩
theorem nk_X5_39 : znk RX5 39 2 := ⟨by decide, uw_2, rfl, rfl, zGW_of 229 (by decide +kernel), zGW_of 230 (by decide +kernel), zGW_of 89 (by decide +kernel), tyX2, by decide +kernel, by decide +kernel⟩
theorem nk_X8_37 : znk RX8 37 5 := ⟨by decide, uw_5, rfl, rfl, zGW_of 376 (by decide +kernel), zGW_of 220 (by decide +kernel), zGW_of 88 (by decide +kernel), tyX5, by decide +kernel, by decide +kernel⟩
theorem nk_L_109 : znk RL 109 9 := ⟨by decide, uw_9, rfl, rfl, zGW_of 1168 (by decide +kernel), zGW_of 1169 (by decide +kernel), zGW_of 92 (by decide +kernel), tyX9, by decide +kernel, by decide +kernel⟩
theorem clw_L_8 : Cond.classLink RL 8 "SeasonTiers" ∈ zGW := zGW_of 105 (by decide +kernel)
theorem ow_X8_1 : Cond.methodLink RX8 1 Lib.objectInit ∈ zGW := zGW_of 110 (by decide +kernel)
theorem clw_X8_7 : Cond.classLink RX8 7 "SeasonTiers$Reader" ∈ zGW := zGW_of 113 (by decide +kernel)
theorem ow_X4_3 : Cond.methodLink RX4 3 Lib.objectInit ∈ zGW := zGW_of 118 (by decide +kernel)
theorem aw_int : Cond.arrayClass .int ∈ zGW := zGW_of 146 (by decide +kernel)
theorem clw_X8_16 : Cond.classLink RX8 16 "SeasonTiers$Writer" ∈ zGW := zGW_of 147 (by decide +kernel)
theorem ow_X7_3 : Cond.methodLink RX7 3 Lib.objectInit ∈ zGW := zGW_of 152 (by decide +kernel)
theorem clw_X8_23 : Cond.classLink RX8 23 "SeasonTiers$Planner" ∈ zGW := zGW_of 162 (by decide +kernel)
theorem ow_X3_3 : Cond.methodLink RX3 3 Lib.objectInit ∈ zGW := zGW_of 167 (by decide +kernel)
theorem aw_long : Cond.arrayClass .long ∈ zGW := zGW_of 210 (by decide +kernel)
theorem aw_boolean : Cond.arrayClass .boolean ∈ zGW := zGW_of 211 (by decide +kernel)
theorem clw_X8_30 : Cond.classLink RX8 30 "SeasonTiers$History" ∈ zGW := zGW_of 212 (by decide +kernel)
theorem ow_X1_3 : Cond.methodLink RX1 3 Lib.objectInit ∈ zGW := zGW_of 217 (by decide +kernel)
theorem clw_X1_18 : Cond.classLink RX1 18 "SeasonTiers$Store" ∈ zGW := zGW_of 218 (by decide +kernel)
theorem ao_5 : Cond.arrayOver (.object RX5) ∈ zNW := zin_nw 219 (by decide +kernel)
theorem ow_X5_3 : Cond.methodLink RX5 3 Lib.objectInit ∈ zGW := zGW_of 224 (by decide +kernel)
theorem clw_X5_27 : Cond.classLink RX5 27 "SeasonTiers$TierRow" ∈ zGW := zGW_of 225 (by decide +kernel)
theorem ao_6 : Cond.arrayOver (.object RX6) ∈ zNW := zin_nw 226 (by decide +kernel)
theorem clw_X5_33 : Cond.classLink RX5 33 "SeasonTiers$FileRow" ∈ zGW := zGW_of 227 (by decide +kernel)
theorem ao_0 : Cond.arrayOver (.object RX0) ∈ zNW := zin_nw 228 (by decide +kernel)
theorem clw_X5_39 : Cond.classLink RX5 39 "SeasonTiers$Moves" ∈ zGW := zGW_of 229 (by decide +kernel)
theorem ow_X2_3 : Cond.methodLink RX2 3 Lib.objectInit ∈ zGW := zGW_of 234 (by decide +kernel)
theorem ow_X6_3 : Cond.methodLink RX6 3 Lib.objectInit ∈ zGW := zGW_of 248 (by decide +kernel)
theorem ow_X0_3 : Cond.methodLink RX0 3 Lib.objectInit ∈ zGW := zGW_of 270 (by decide +kernel)
theorem clw_X8_37 : Cond.classLink RX8 37 "SeasonTiers$Store" ∈ zGW := zGW_of 376 (by decide +kernel)
theorem jw_J0_38 : Cond.fieldLink RJ0 38 "java/lang/String" "COMPACT_STRINGS" "Z" ∈ zGW := zGW_of 462 (by decide +kernel)
theorem jw_J0_1053 : Cond.fieldLink RJ0 1053 "jdk/internal/util/Preconditions" "SIOOBE_FORMATTER" "Ljava/util/function/BiFunction;" ∈ zGW := zGW_of 478 (by decide +kernel)
theorem jw_J2_44 : Cond.fieldLink RJ2 44 "java/lang/StringUTF16" "$assertionsDisabled" "Z" ∈ zGW := zGW_of 496 (by decide +kernel)
theorem jw_J2_59 : Cond.fieldLink RJ2 59 "java/lang/StringUTF16" "HI_BYTE_SHIFT" "I" ∈ zGW := zGW_of 498 (by decide +kernel)
theorem jw_J2_63 : Cond.fieldLink RJ2 63 "java/lang/StringUTF16" "LO_BYTE_SHIFT" "I" ∈ zGW := zGW_of 500 (by decide +kernel)
theorem kw_X4_150 : Cond.constant RX4 150 (99999) ∈ zGW := zGW_of 513 (by decide +kernel)
theorem kw_X8_251 : Cond.constant RX8 251 (99999) ∈ zGW := zGW_of 545 (by decide +kernel)
theorem yw_X0_44 : Cond.methodLink RX0 44 arraycopyName ∈ zGW := zGW_of 597 (by decide +kernel)
theorem yw_X2_19 : Cond.methodLink RX2 19 arraycopyName ∈ zGW := zGW_of 604 (by decide +kernel)
theorem aw_byte : Cond.arrayClass .byte ∈ zGW := zGW_of 606 (by decide +kernel)
theorem kw_X8_267 : Cond.constantLong RX8 267 (-17) ∈ zGW := zGW_of 646 (by decide +kernel)
theorem clw_L_13 : Cond.classLink RL 13 "java/lang/IllegalStateException" ∈ zGW := zGW_of 720 (by decide +kernel)
theorem clw_X8_70 : Cond.classLink RX8 70 "java/lang/IllegalStateException" ∈ zGW := zGW_of 728 (by decide +kernel)
theorem ca_0 : Cond.castable (zXn 0) (zXn 0) ∈ zNW := zin_nw 730 (by decide +kernel)
theorem xi_0 : Cond.methodLink RX8 72 ⟨zXn 0, "<init>", "()V"⟩ ∈ zGW := zGW_of 769 (by decide +kernel)
theorem xw_0 : zxw RX8 0 72 := zxw_of 96 (by decide +kernel) (by decide +kernel)
theorem clw_L_19 : Cond.classLink RL 19 "java/lang/IllegalArgumentException" ∈ zGW := zGW_of 798 (by decide +kernel)
theorem clw_X8_122 : Cond.classLink RX8 122 "java/lang/IllegalArgumentException" ∈ zGW := zGW_of 815 (by decide +kernel)
theorem ca_1 : Cond.castable (zXn 1) (zXn 1) ∈ zNW := zin_nw 817 (by decide +kernel)
theorem xi_1 : Cond.methodLink RX8 124 ⟨zXn 1, "<init>", "()V"⟩ ∈ zGW := zGW_of 824 (by decide +kernel)
theorem xw_1 : zxw RX8 1 124 := zxw_of 103 (by decide +kernel) (by decide +kernel)
theorem clw_L_25 : Cond.classLink RL 25 "java/lang/IndexOutOfBoundsException" ∈ zGW := zGW_of 833 (by decide +kernel)
theorem clw_X8_184 : Cond.classLink RX8 184 "java/lang/IndexOutOfBoundsException" ∈ zGW := zGW_of 842 (by decide +kernel)
theorem ca_2 : Cond.castable (zXn 2) (zXn 2) ∈ zNW := zin_nw 844 (by decide +kernel)
theorem xi_2 : Cond.methodLink RX8 186 ⟨zXn 2, "<init>", "()V"⟩ ∈ zGW := zGW_of 851 (by decide +kernel)
theorem xw_2 : zxw RX8 2 186 := zxw_of 104 (by decide +kernel) (by decide +kernel)
theorem kw_X5_113 : Cond.constantLong RX5 113 (16) ∈ zGW := zGW_of 956 (by decide +kernel)
theorem clw_L_109 : Cond.classLink RL 109 "SeasonTiersModel" ∈ zGW := zGW_of 1168 (by decide +kernel)
theorem ow_X9_1 : Cond.methodLink RX9 1 Lib.objectInit ∈ zGW := zGW_of 1173 (by decide +kernel)
theorem kw_X9_67 : Cond.constantLong RX9 67 (4) ∈ zGW := zGW_of 1178 (by decide +kernel)
theorem kw_X9_61 : Cond.constantLong RX9 61 (2) ∈ zGW := zGW_of 1179 (by decide +kernel)
theorem kw_X9_120 : Cond.constant RX9 120 (1000000) ∈ zGW := zGW_of 1338 (by decide +kernel)
theorem kw_X9_173 : Cond.constant RX9 173 (99999) ∈ zGW := zGW_of 1387 (by decide +kernel)
theorem kw_X9_197 : Cond.constantLong RX9 197 (-1) ∈ zGW := zGW_of 1405 (by decide +kernel)
theorem kw_X9_268 : Cond.constantLong RX9 268 (16) ∈ zGW := zGW_of 1542 (by decide +kernel)
theorem kw_X9_335 : Cond.constantLong RX9 335 (9999) ∈ zGW := zGW_of 1618 (by decide +kernel)
theorem kw_X9_340 : Cond.constantLong RX9 340 (60) ∈ zGW := zGW_of 1643 (by decide +kernel)
theorem kw_X9_358 : Cond.constantLong RX9 358 (32) ∈ zGW := zGW_of 1672 (by decide +kernel)
theorem kw_X9_363 : Cond.constantLong RX9 363 (58) ∈ zGW := zGW_of 1681 (by decide +kernel)
theorem kw_X9_365 : Cond.constantLong RX9 365 (44) ∈ zGW := zGW_of 1682 (by decide +kernel)
theorem kw_X9_367 : Cond.constantLong RX9 367 (45) ∈ zGW := zGW_of 1683 (by decide +kernel)
theorem jw_J0_9 : Cond.fieldLink RJ0 9 "java/lang/String" "value" "[B" ∈ zGW := zGW_of 1689 (by decide +kernel)
theorem jw_J0_15 : Cond.fieldLink RJ0 15 "java/lang/String" "coder" "B" ∈ zGW := zGW_of 1690 (by decide +kernel)
theorem yw_nat : Cond.native arraycopyName ∈ zGW := zGW_of 599 (by decide +kernel)
theorem yw_sta : Cond.static arraycopyName ∈ zGW := zGW_of 598 (by decide +kernel)
theorem yw_ini : Cond.initialized "java/lang/System" ∈ zGW := zGW_of 101 (by decide +kernel)
theorem ow_ins : Cond.instanceMethod Lib.objectInit ∈ zGW := zGW_of 111 (by decide +kernel)
theorem ow_code : Cond.code Lib.objectInit ⟨#[0xb1]⟩ 1 none ∈ zGW := zGW_of 112 (by decide +kernel)
