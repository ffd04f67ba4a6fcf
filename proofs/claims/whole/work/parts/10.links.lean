/-! methods, links: written by program out of the tables -/
theorem aTb_priv {x : Cond} (i : Nat) (h : (k2_sels lw_privs)[i]? = some x) (hg : goodWord x = true) : x ∈ aTb := aTb_in (List.mem_append_left _ (List.mem_of_getElem? h)) hg
abbrev mJ9_max_7cf53 : aM := (yJ9_max_7cf53, cJ9_max_7cf53, 2, (some .int), { frames := 0, cells := 0, slots := 0, locals := 0 })
abbrev mJ9_min_7cf53 : aM := (yJ9_min_7cf53, cJ9_min_7cf53, 2, (some .int), { frames := 0, cells := 0, slots := 0, locals := 0 })
abbrev mJ9_min_f86c9 : aM := (yJ9_min_f86c9, cJ9_min_f86c9, 4, (some .long), { frames := 0, cells := 0, slots := 0, locals := 0 })
abbrev mX0_atBest : aM := (yX0_atBest, cX0_atBest, 7, (some .int), { frames := 6, cells := 0, slots := 0, locals := 139 })
abbrev mX0_bySavings : aM := (yX0_bySavings, cX0_bySavings, 6, (some .int), { frames := 6, cells := 0, slots := 0, locals := 139 })
abbrev mX0_firstBestShare : aM := (yX0_firstBestShare, cX0_firstBestShare, 8, (some .int), { frames := 1, cells := 0, slots := 0, locals := 25 })
abbrev mX0_init : aM := (yX0_init, cX0_init, 2, none, { frames := 3, cells := 16, slots := 739, locals := 60 })
abbrev mX0_learnTimes : aM := (yX0_learnTimes, cX0_learnTimes, 4, none, { frames := 4, cells := 0, slots := 0, locals := 94 })
abbrev mX0_needInSteps : aM := (yX0_needInSteps, cX0_needInSteps, 3, (some .int), { frames := 5, cells := 0, slots := 0, locals := 117 })
abbrev mX0_sumOfTimes : aM := (yX0_sumOfTimes, cX0_sumOfTimes, 5, (some .int), { frames := 0, cells := 0, slots := 0, locals := 0 })
abbrev mX0_sumWith : aM := (yX0_sumWith, cX0_sumWith, 6, (some .int), { frames := 0, cells := 0, slots := 0, locals := 0 })
abbrev mX0_takeFirstBest : aM := (yX0_takeFirstBest, cX0_takeFirstBest, 7, none, { frames := 2, cells := 0, slots := 0, locals := 52 })
abbrev mX0_timeByRoom : aM := (yX0_timeByRoom, cX0_timeByRoom, 3, (some .int), { frames := 4, cells := 0, slots := 0, locals := 94 })
abbrev mX0_whoSavesMost : aM := (yX0_whoSavesMost, cX0_whoSavesMost, 8, (some .int), { frames := 1, cells := 0, slots := 0, locals := 20 })
abbrev mX10_acts : aM := (yX10_acts, cX10_acts, 3, none, { frames := 4, cells := 0, slots := 0, locals := 97 })
abbrev mX10_alone : aM := (yX10_alone, cX10_alone, 11, (some .int), { frames := 1, cells := 0, slots := 0, locals := 22 })
abbrev mX10_areNeeds : aM := (yX10_areNeeds, cX10_areNeeds, 3, (some .boolean), { frames := 3, cells := 0, slots := 0, locals := 74 })
abbrev mX10_asks : aM := (yX10_asks, cX10_asks, 9, (some .boolean), { frames := 3, cells := 0, slots := 0, locals := 69 })
abbrev mX10_begin : aM := (yX10_begin, cX10_begin, 3, (some .boolean), { frames := 5, cells := 0, slots := 0, locals := 122 })
abbrev mX10_best : aM := (yX10_best, cX10_best, 9, (some .int), { frames := 4, cells := 0, slots := 0, locals := 96 })
abbrev mX10_clear : aM := (yX10_clear, cX10_clear, 2, (some .int), { frames := 0, cells := 0, slots := 0, locals := 0 })
abbrev mX10_collects : aM := (yX10_collects, cX10_collects, 3, (some .int), { frames := 1, cells := 0, slots := 0, locals := 24 })
abbrev mX10_cost : aM := (yX10_cost, cX10_cost, 3, (some .int), { frames := 0, cells := 0, slots := 0, locals := 0 })
abbrev mX10_count : aM := (yX10_count, cX10_count, 4, (some .int), { frames := 0, cells := 0, slots := 0, locals := 0 })
abbrev mX10_cut : aM := (yX10_cut, cX10_cut, 3, (some .long), { frames := 0, cells := 0, slots := 0, locals := 0 })
abbrev mX10_deal : aM := (yX10_deal, cX10_deal, 1, (some .int), { frames := 5, cells := 0, slots := 0, locals := 122 })
abbrev mX10_dealt : aM := (yX10_dealt, cX10_dealt, 7, (some .int), { frames := 4, cells := 0, slots := 0, locals := 96 })
abbrev mX10_falls : aM := (yX10_falls, cX10_falls, 7, (some .int), { frames := 3, cells := 0, slots := 0, locals := 74 })
abbrev mX10_gives : aM := (yX10_gives, cX10_gives, 4, none, { frames := 2, cells := 0, slots := 0, locals := 46 })
abbrev mX10_holds : aM := (yX10_holds, cX10_holds, 2, (some .int), { frames := 0, cells := 0, slots := 0, locals := 0 })
abbrev mX10_in : aM := (yX10_in, cX10_in, 3, (some .boolean), { frames := 0, cells := 0, slots := 0, locals := 0 })
abbrev mX10_init : aM := (yX10_init, cX10_init, 1, none, { frames := 1, cells := 32, slots := 18685, locals := 20 })
abbrev mX10_isAny : aM := (yX10_isAny, cX10_isAny, 2, (some .boolean), { frames := 1, cells := 0, slots := 0, locals := 21 })
abbrev mX10_isOver : aM := (yX10_isOver, cX10_isOver, 4, none, { frames := 1, cells := 0, slots := 0, locals := 24 })
abbrev mX10_isProgram : aM := (yX10_isProgram, cX10_isProgram, 2, (some .boolean), { frames := 1, cells := 0, slots := 0, locals := 22 })
abbrev mX10_isSlot : aM := (yX10_isSlot, cX10_isSlot, 1, (some .boolean), { frames := 1, cells := 0, slots := 0, locals := 22 })
abbrev mX10_isThere : aM := (yX10_isThere, cX10_isThere, 2, (some .boolean), { frames := 0, cells := 0, slots := 0, locals := 0 })
abbrev mX10_isUp : aM := (yX10_isUp, cX10_isUp, 2, (some .boolean), { frames := 0, cells := 0, slots := 0, locals := 0 })
abbrev mX10_log : aM := (yX10_log, cX10_log, 3, (some .int), { frames := 1, cells := 0, slots := 0, locals := 22 })
abbrev mX10_makes : aM := (yX10_makes, cX10_makes, 3, none, { frames := 3, cells := 0, slots := 0, locals := 69 })
abbrev mX10_need : aM := (yX10_need, cX10_need, 2, (some .int), { frames := 3, cells := 0, slots := 0, locals := 74 })
abbrev mX10_needOf : aM := (yX10_needOf, cX10_needOf, 3, (some .int), { frames := 2, cells := 0, slots := 0, locals := 52 })
abbrev mX10_of : aM := (yX10_of, cX10_of, 3, (some .int), { frames := 1, cells := 0, slots := 0, locals := 22 })
abbrev mX10_passes : aM := (yX10_passes, cX10_passes, 3, none, { frames := 2, cells := 0, slots := 0, locals := 47 })
abbrev mX10_paste : aM := (yX10_paste, cX10_paste, 7, (some .int), { frames := 2, cells := 0, slots := 0, locals := 42 })
abbrev mX10_program : aM := (yX10_program, cX10_program, 8, (some .int), { frames := 2, cells := 0, slots := 0, locals := 42 })
abbrev mX10_redeals : aM := (yX10_redeals, cX10_redeals, 3, none, { frames := 4, cells := 0, slots := 0, locals := 99 })
abbrev mX10_row : aM := (yX10_row, cX10_row, 5, (some .int), { frames := 2, cells := 0, slots := 0, locals := 42 })
abbrev mX10_run : aM := (yX10_run, cX10_run, 3, (some .int), { frames := 6, cells := 0, slots := 0, locals := 142 })
abbrev mX10_s : aM := (yX10_s, cX10_s, 2, (some .int), { frames := 1, cells := 0, slots := 0, locals := 21 })
abbrev mX10_share : aM := (yX10_share, cX10_share, 2, (some .int), { frames := 2, cells := 0, slots := 0, locals := 43 })
abbrev mX10_spare : aM := (yX10_spare, cX10_spare, 3, (some .int), { frames := 1, cells := 0, slots := 0, locals := 21 })
abbrev mX10_stop : aM := (yX10_stop, cX10_stop, 2, (some .boolean), { frames := 0, cells := 0, slots := 0, locals := 0 })
abbrev mX10_sum : aM := (yX10_sum, cX10_sum, 3, (some .int), { frames := 2, cells := 0, slots := 0, locals := 52 })
abbrev mX10_swung : aM := (yX10_swung, cX10_swung, 11, (some .boolean), { frames := 3, cells := 0, slots := 0, locals := 69 })
abbrev mX10_tear : aM := (yX10_tear, cX10_tear, 2, (some .boolean), { frames := 2, cells := 0, slots := 0, locals := 42 })
abbrev mX10_tells : aM := (yX10_tells, cX10_tells, 5, none, { frames := 0, cells := 0, slots := 0, locals := 0 })
abbrev mX10_terms : aM := (yX10_terms, cX10_terms, 6, (some .int), { frames := 1, cells := 0, slots := 0, locals := 22 })
abbrev mX10_ticks : aM := (yX10_ticks, cX10_ticks, 2, none, { frames := 5, cells := 0, slots := 0, locals := 121 })
abbrev mX10_time : aM := (yX10_time, cX10_time, 3, (some .int), { frames := 2, cells := 0, slots := 0, locals := 52 })
abbrev mX10_up : aM := (yX10_up, cX10_up, 2, (some .int), { frames := 0, cells := 0, slots := 0, locals := 0 })
abbrev mX10_write : aM := (yX10_write, cX10_write, 5, (some .int), { frames := 2, cells := 0, slots := 0, locals := 42 })
abbrev mX1_become : aM := (yX1_become, cX1_become, 6, none, { frames := 0, cells := 0, slots := 0, locals := 0 })
abbrev mX1_costToCollect : aM := (yX1_costToCollect, cX1_costToCollect, 3, (some .int), { frames := 0, cells := 0, slots := 0, locals := 0 })
abbrev mX1_fallsEverSlower : aM := (yX1_fallsEverSlower, cX1_fallsEverSlower, 6, (some .boolean), { frames := 0, cells := 0, slots := 0, locals := 0 })
abbrev mX1_holds : aM := (yX1_holds, cX1_holds, 2, (some .int), { frames := 0, cells := 0, slots := 0, locals := 0 })
abbrev mX1_init : aM := (yX1_init, cX1_init, 1, none, { frames := 1, cells := 2, slots := 125, locals := 20 })
abbrev mX1_isMake : aM := (yX1_isMake, cX1_isMake, 1, (some .boolean), { frames := 0, cells := 0, slots := 0, locals := 0 })
abbrev mX1_roomFor : aM := (yX1_roomFor, cX1_roomFor, 2, (some .int), { frames := 0, cells := 0, slots := 0, locals := 0 })
abbrev mX2_cellsOfStep : aM := (yX2_cellsOfStep, cX2_cellsOfStep, 2, (some .int), { frames := 1, cells := 0, slots := 0, locals := 21 })
abbrev mX2_collectNow : aM := (yX2_collectNow, cX2_collectNow, 2, (some .int), { frames := 1, cells := 0, slots := 0, locals := 22 })
abbrev mX2_endRound : aM := (yX2_endRound, cX2_endRound, 1, none, { frames := 0, cells := 0, slots := 0, locals := 0 })
abbrev mX2_fits : aM := (yX2_fits, cX2_fits, 2, (some .boolean), { frames := 1, cells := 0, slots := 0, locals := 21 })
abbrev mX2_gain : aM := (yX2_gain, cX2_gain, 4, (some .long), { frames := 2, cells := 0, slots := 0, locals := 42 })
abbrev mX2_goesOn : aM := (yX2_goesOn, cX2_goesOn, 1, (some .boolean), { frames := 0, cells := 0, slots := 0, locals := 0 })
abbrev mX2_init : aM := (yX2_init, cX2_init, 3, none, { frames := 2, cells := 2, slots := 63, locals := 40 })
abbrev mX2_isAboutToMake : aM := (yX2_isAboutToMake, cX2_isAboutToMake, 1, (some .boolean), { frames := 1, cells := 0, slots := 0, locals := 20 })
abbrev mX2_isAwake : aM := (yX2_isAwake, cX2_isAwake, 1, (some .boolean), { frames := 0, cells := 0, slots := 0, locals := 0 })
abbrev mX2_keep : aM := (yX2_keep, cX2_keep, 2, (some .int), { frames := 1, cells := 0, slots := 0, locals := 21 })
abbrev mX2_leave : aM := (yX2_leave, cX2_leave, 4, (some .int), { frames := 0, cells := 0, slots := 0, locals := 0 })
abbrev mX2_loss : aM := (yX2_loss, cX2_loss, 4, (some .long), { frames := 2, cells := 0, slots := 0, locals := 42 })
abbrev mX2_makeNow : aM := (yX2_makeNow, cX2_makeNow, 2, none, { frames := 1, cells := 0, slots := 0, locals := 21 })
abbrev mX2_nextAct : aM := (yX2_nextAct, cX2_nextAct, 1, (some .int), { frames := 0, cells := 0, slots := 0, locals := 0 })
abbrev mX2_spare : aM := (yX2_spare, cX2_spare, 2, (some .int), { frames := 2, cells := 0, slots := 0, locals := 42 })
abbrev mX2_start : aM := (yX2_start, cX2_start, 2, none, { frames := 1, cells := 0, slots := 0, locals := 20 })
abbrev mX2_told : aM := (yX2_told, cX2_told, 2, (some .int), { frames := 0, cells := 0, slots := 0, locals := 0 })
abbrev mX2_waitFor : aM := (yX2_waitFor, cX2_waitFor, 3, none, { frames := 0, cells := 0, slots := 0, locals := 0 })
abbrev mX3_cut : aM := (yX3_cut, cX3_cut, 3, (some .long), { frames := 0, cells := 0, slots := 0, locals := 0 })
abbrev mX3_hasPlaces : aM := (yX3_hasPlaces, cX3_hasPlaces, 3, (some .boolean), { frames := 0, cells := 0, slots := 0, locals := 0 })
abbrev mX3_holdsActsAlone : aM := (yX3_holdsActsAlone, cX3_holdsActsAlone, 2, (some .boolean), { frames := 1, cells := 0, slots := 0, locals := 21 })
abbrev mX3_init : aM := (yX3_init, cX3_init, 1, none, { frames := 1, cells := 1, slots := 60, locals := 20 })
abbrev mX3_isAct : aM := (yX3_isAct, cX3_isAct, 2, (some .boolean), { frames := 0, cells := 0, slots := 0, locals := 0 })
abbrev mX3_isBare : aM := (yX3_isBare, cX3_isBare, 1, (some .boolean), { frames := 0, cells := 0, slots := 0, locals := 0 })
abbrev mX3_lay : aM := (yX3_lay, cX3_lay, 4, none, { frames := 0, cells := 0, slots := 0, locals := 0 })
abbrev mX3_strip : aM := (yX3_strip, cX3_strip, 1, none, { frames := 0, cells := 0, slots := 0, locals := 0 })
abbrev mX4_add : aM := (yX4_add, cX4_add, 6, none, { frames := 0, cells := 0, slots := 0, locals := 0 })
abbrev mX4_forget : aM := (yX4_forget, cX4_forget, 1, none, { frames := 0, cells := 0, slots := 0, locals := 0 })
abbrev mX4_init : aM := (yX4_init, cX4_init, 1, none, { frames := 1, cells := 4, slots := 240, locals := 20 })
abbrev mX4_kept : aM := (yX4_kept, cX4_kept, 1, (some .int), { frames := 1, cells := 0, slots := 0, locals := 21 })
abbrev mX4_told : aM := (yX4_told, cX4_told, 4, (some .int), { frames := 2, cells := 0, slots := 0, locals := 41 })
abbrev mX5_allSteps : aM := (yX5_allSteps, cX5_allSteps, 1, (some .int), { frames := 0, cells := 0, slots := 0, locals := 0 })
abbrev mX5_areSound : aM := (yX5_areSound, cX5_areSound, 3, (some .boolean), { frames := 0, cells := 0, slots := 0, locals := 0 })
abbrev mX5_dealtSteps : aM := (yX5_dealtSteps, cX5_dealtSteps, 1, (some .int), { frames := 0, cells := 0, slots := 0, locals := 0 })
abbrev mX5_init : aM := (yX5_init, cX5_init, 1, none, { frames := 1, cells := 0, slots := 0, locals := 20 })
abbrev mX5_stepsFor : aM := (yX5_stepsFor, cX5_stepsFor, 2, (some .int), { frames := 0, cells := 0, slots := 0, locals := 0 })
abbrev mX6_add : aM := (yX6_add, cX6_add, 2, none, { frames := 0, cells := 0, slots := 0, locals := 0 })
abbrev mX6_die : aM := (yX6_die, cX6_die, 3, none, { frames := 0, cells := 0, slots := 0, locals := 0 })
abbrev mX6_forget : aM := (yX6_forget, cX6_forget, 1, none, { frames := 0, cells := 0, slots := 0, locals := 0 })
abbrev mX6_init : aM := (yX6_init, cX6_init, 1, none, { frames := 1, cells := 1, slots := 60, locals := 20 })
abbrev mX7_collect : aM := (yX7_collect, cX7_collect, 3, (some .int), { frames := 2, cells := 0, slots := 0, locals := 43 })
abbrev mX7_doOtherAct : aM := (yX7_doOtherAct, cX7_doOtherAct, 3, none, { frames := 3, cells := 0, slots := 0, locals := 70 })
abbrev mX7_endAct : aM := (yX7_endAct, cX7_endAct, 2, none, { frames := 2, cells := 0, slots := 0, locals := 49 })
abbrev mX7_fairPart : aM := (yX7_fairPart, cX7_fairPart, 1, (some .int), { frames := 0, cells := 0, slots := 0, locals := 0 })
abbrev mX7_getsByAsking : aM := (yX7_getsByAsking, cX7_getsByAsking, 9, (some .boolean), { frames := 4, cells := 0, slots := 0, locals := 88 })
abbrev mX7_give : aM := (yX7_give, cX7_give, 4, none, { frames := 3, cells := 0, slots := 0, locals := 65 })
abbrev mX7_init : aM := (yX7_init, cX7_init, 4, none, { frames := 3, cells := 24, slots := 731, locals := 62 })
abbrev mX7_leave : aM := (yX7_leave, cX7_leave, 5, none, { frames := 1, cells := 0, slots := 0, locals := 25 })
abbrev mX7_movesStep : aM := (yX7_movesStep, cX7_movesStep, 3, (some .boolean), { frames := 4, cells := 0, slots := 0, locals := 92 })
abbrev mX7_passTick : aM := (yX7_passTick, cX7_passTick, 3, none, { frames := 3, cells := 0, slots := 0, locals := 70 })
abbrev mX7_redeal : aM := (yX7_redeal, cX7_redeal, 3, none, { frames := 5, cells := 0, slots := 0, locals := 114 })
abbrev mX7_someGoOn : aM := (yX7_someGoOn, cX7_someGoOn, 2, (some .boolean), { frames := 1, cells := 0, slots := 0, locals := 20 })
abbrev mX7_spareOfOthers : aM := (yX7_spareOfOthers, cX7_spareOfOthers, 4, (some .int), { frames := 3, cells := 0, slots := 0, locals := 63 })
abbrev mX7_squeeze : aM := (yX7_squeeze, cX7_squeeze, 3, none, { frames := 3, cells := 0, slots := 0, locals := 65 })
abbrev mX7_start : aM := (yX7_start, cX7_start, 5, none, { frames := 2, cells := 0, slots := 0, locals := 41 })
abbrev mX7_tick : aM := (yX7_tick, cX7_tick, 3, none, { frames := 6, cells := 0, slots := 0, locals := 138 })
abbrev mX7_tryMake : aM := (yX7_tryMake, cX7_tryMake, 3, none, { frames := 5, cells := 0, slots := 0, locals := 116 })
abbrev mX7_wake : aM := (yX7_wake, cX7_wake, 3, none, { frames := 1, cells := 0, slots := 0, locals := 25 })
abbrev mX7_whoGainsMost : aM := (yX7_whoGainsMost, cX7_whoGainsMost, 7, (some .int), { frames := 3, cells := 0, slots := 0, locals := 65 })
abbrev mX7_whoLosesLeast : aM := (yX7_whoLosesLeast, cX7_whoLosesLeast, 8, (some .int), { frames := 3, cells := 0, slots := 0, locals := 65 })
abbrev mX7_whoSparesMost : aM := (yX7_whoSparesMost, cX7_whoSparesMost, 6, (some .int), { frames := 3, cells := 0, slots := 0, locals := 63 })
abbrev mX8_init : aM := (yX8_init, cX8_init, 1, none, { frames := 2, cells := 5, slots := 258, locals := 40 })
abbrev mX8_makeInAll : aM := (yX8_makeInAll, cX8_makeInAll, 5, none, { frames := 1, cells := 0, slots := 0, locals := 22 })
abbrev mX8_pass : aM := (yX8_pass, cX8_pass, 6, none, { frames := 3, cells := 0, slots := 0, locals := 69 })
abbrev mX8_passRound : aM := (yX8_passRound, cX8_passRound, 4, none, { frames := 2, cells := 0, slots := 0, locals := 46 })
abbrev mX8_timeOf : aM := (yX8_timeOf, cX8_timeOf, 2, (some .int), { frames := 0, cells := 0, slots := 0, locals := 0 })
abbrev mX9_begin : aM := (yX9_begin, cX9_begin, 2, (some .boolean), { frames := 7, cells := 0, slots := 0, locals := 164 })
abbrev mX9_best : aM := (yX9_best, cX9_best, 1, (some .int), { frames := 7, cells := 0, slots := 0, locals := 165 })
abbrev mX9_clear : aM := (yX9_clear, cX9_clear, 2, (some .int), { frames := 0, cells := 0, slots := 0, locals := 0 })
abbrev mX9_count : aM := (yX9_count, cX9_count, 2, (some .int), { frames := 2, cells := 0, slots := 0, locals := 42 })
abbrev mX9_deal : aM := (yX9_deal, cX9_deal, 1, (some .int), { frames := 7, cells := 0, slots := 0, locals := 164 })
abbrev mX9_falls : aM := (yX9_falls, cX9_falls, 4, (some .int), { frames := 6, cells := 0, slots := 0, locals := 139 })
abbrev mX9_init : aM := (yX9_init, cX9_init, 2, none, { frames := 4, cells := 71, slots := 2542, locals := 85 })
abbrev mX9_isProgram : aM := (yX9_isProgram, cX9_isProgram, 2, (some .boolean), { frames := 0, cells := 0, slots := 0, locals := 0 })
abbrev mX9_isSlot : aM := (yX9_isSlot, cX9_isSlot, 2, (some .boolean), { frames := 0, cells := 0, slots := 0, locals := 0 })
abbrev mX9_log : aM := (yX9_log, cX9_log, 3, (some .int), { frames := 3, cells := 0, slots := 0, locals := 64 })
abbrev mX9_need : aM := (yX9_need, cX9_need, 3, (some .int), { frames := 6, cells := 0, slots := 0, locals := 139 })
abbrev mX9_of : aM := (yX9_of, cX9_of, 3, (some .int), { frames := 1, cells := 0, slots := 0, locals := 21 })
abbrev mX9_paste : aM := (yX9_paste, cX9_paste, 8, (some .int), { frames := 1, cells := 0, slots := 0, locals := 40 })
abbrev mX9_program : aM := (yX9_program, cX9_program, 6, (some .int), { frames := 2, cells := 0, slots := 0, locals := 42 })
abbrev mX9_row : aM := (yX9_row, cX9_row, 4, (some .int), { frames := 1, cells := 0, slots := 0, locals := 23 })
abbrev mX9_rowsThere : aM := (yX9_rowsThere, cX9_rowsThere, 3, (some .int), { frames := 1, cells := 0, slots := 0, locals := 20 })
abbrev mX9_run : aM := (yX9_run, cX9_run, 3, (some .int), { frames := 7, cells := 0, slots := 0, locals := 160 })
abbrev mX9_share : aM := (yX9_share, cX9_share, 2, (some .int), { frames := 1, cells := 0, slots := 0, locals := 21 })
abbrev mX9_stop : aM := (yX9_stop, cX9_stop, 2, (some .boolean), { frames := 0, cells := 0, slots := 0, locals := 0 })
abbrev mX9_tear : aM := (yX9_tear, cX9_tear, 2, (some .boolean), { frames := 1, cells := 0, slots := 0, locals := 21 })
abbrev mX9_terms : aM := (yX9_terms, cX9_terms, 7, (some .int), { frames := 1, cells := 0, slots := 0, locals := 22 })
abbrev mX9_time : aM := (yX9_time, cX9_time, 3, (some .int), { frames := 5, cells := 0, slots := 0, locals := 116 })
abbrev mX9_write : aM := (yX9_write, cX9_write, 6, (some .int), { frames := 1, cells := 0, slots := 0, locals := 22 })
def mOk (M : aM) : Prop := plainName M.1.cls = true ∧ M.1 ≠ yL_law ∧ M.2.2.2.2.cells = 0 ∧ M.2.2.2.2.slots = 0
theorem npJ9_max_7cf53 : (parseMethodDescriptor mJ9_max_7cf53.1.desc).map (fun d => d.parameters.length) = some 2 := by decide +kernel
theorem npJ9_min_7cf53 : (parseMethodDescriptor mJ9_min_7cf53.1.desc).map (fun d => d.parameters.length) = some 2 := by decide +kernel
theorem npJ9_min_f86c9 : (parseMethodDescriptor mJ9_min_f86c9.1.desc).map (fun d => d.parameters.length) = some 2 := by decide +kernel
theorem npX0_atBest : (parseMethodDescriptor mX0_atBest.1.desc).map (fun d => d.parameters.length) = some 2 := by decide +kernel
theorem okX0_atBest : mOk mX0_atBest := ⟨by decide +kernel, by decide +kernel, rfl, rfl⟩
theorem npX0_bySavings : (parseMethodDescriptor mX0_bySavings.1.desc).map (fun d => d.parameters.length) = some 2 := by decide +kernel
theorem okX0_bySavings : mOk mX0_bySavings := ⟨by decide +kernel, by decide +kernel, rfl, rfl⟩
theorem npX0_firstBestShare : (parseMethodDescriptor mX0_firstBestShare.1.desc).map (fun d => d.parameters.length) = some 3 := by decide +kernel
theorem okX0_firstBestShare : mOk mX0_firstBestShare := ⟨by decide +kernel, by decide +kernel, rfl, rfl⟩
theorem npX0_init : (parseMethodDescriptor mX0_init.1.desc).map (fun d => d.parameters.length) = some 1 := by decide +kernel
theorem nlX0_init : plainName mX0_init.1.cls = true ∧ mX0_init.1 ≠ yL_law := ⟨by decide +kernel, by decide +kernel⟩
theorem npX0_learnTimes : (parseMethodDescriptor mX0_learnTimes.1.desc).map (fun d => d.parameters.length) = some 1 := by decide +kernel
theorem okX0_learnTimes : mOk mX0_learnTimes := ⟨by decide +kernel, by decide +kernel, rfl, rfl⟩
theorem npX0_needInSteps : (parseMethodDescriptor mX0_needInSteps.1.desc).map (fun d => d.parameters.length) = some 1 := by decide +kernel
theorem okX0_needInSteps : mOk mX0_needInSteps := ⟨by decide +kernel, by decide +kernel, rfl, rfl⟩
theorem npX0_sumOfTimes : (parseMethodDescriptor mX0_sumOfTimes.1.desc).map (fun d => d.parameters.length) = some 2 := by decide +kernel
theorem okX0_sumOfTimes : mOk mX0_sumOfTimes := ⟨by decide +kernel, by decide +kernel, rfl, rfl⟩
theorem npX0_sumWith : (parseMethodDescriptor mX0_sumWith.1.desc).map (fun d => d.parameters.length) = some 4 := by decide +kernel
theorem okX0_sumWith : mOk mX0_sumWith := ⟨by decide +kernel, by decide +kernel, rfl, rfl⟩
theorem npX0_takeFirstBest : (parseMethodDescriptor mX0_takeFirstBest.1.desc).map (fun d => d.parameters.length) = some 3 := by decide +kernel
theorem okX0_takeFirstBest : mOk mX0_takeFirstBest := ⟨by decide +kernel, by decide +kernel, rfl, rfl⟩
theorem npX0_timeByRoom : (parseMethodDescriptor mX0_timeByRoom.1.desc).map (fun d => d.parameters.length) = some 2 := by decide +kernel
theorem okX0_timeByRoom : mOk mX0_timeByRoom := ⟨by decide +kernel, by decide +kernel, rfl, rfl⟩
theorem npX0_whoSavesMost : (parseMethodDescriptor mX0_whoSavesMost.1.desc).map (fun d => d.parameters.length) = some 2 := by decide +kernel
theorem okX0_whoSavesMost : mOk mX0_whoSavesMost := ⟨by decide +kernel, by decide +kernel, rfl, rfl⟩
theorem npX10_acts : (parseMethodDescriptor mX10_acts.1.desc).map (fun d => d.parameters.length) = some 1 := by decide +kernel
theorem okX10_acts : mOk mX10_acts := ⟨by decide +kernel, by decide +kernel, rfl, rfl⟩
theorem npX10_alone : (parseMethodDescriptor mX10_alone.1.desc).map (fun d => d.parameters.length) = some 2 := by decide +kernel
theorem okX10_alone : mOk mX10_alone := ⟨by decide +kernel, by decide +kernel, rfl, rfl⟩
theorem npX10_areNeeds : (parseMethodDescriptor mX10_areNeeds.1.desc).map (fun d => d.parameters.length) = some 0 := by decide +kernel
theorem okX10_areNeeds : mOk mX10_areNeeds := ⟨by decide +kernel, by decide +kernel, rfl, rfl⟩
theorem npX10_asks : (parseMethodDescriptor mX10_asks.1.desc).map (fun d => d.parameters.length) = some 2 := by decide +kernel
theorem okX10_asks : mOk mX10_asks := ⟨by decide +kernel, by decide +kernel, rfl, rfl⟩
theorem npX10_begin : (parseMethodDescriptor mX10_begin.1.desc).map (fun d => d.parameters.length) = some 0 := by decide +kernel
theorem okX10_begin : mOk mX10_begin := ⟨by decide +kernel, by decide +kernel, rfl, rfl⟩
theorem npX10_best : (parseMethodDescriptor mX10_best.1.desc).map (fun d => d.parameters.length) = some 0 := by decide +kernel
theorem okX10_best : mOk mX10_best := ⟨by decide +kernel, by decide +kernel, rfl, rfl⟩
theorem npX10_clear : (parseMethodDescriptor mX10_clear.1.desc).map (fun d => d.parameters.length) = some 0 := by decide +kernel
theorem okX10_clear : mOk mX10_clear := ⟨by decide +kernel, by decide +kernel, rfl, rfl⟩
theorem npX10_collects : (parseMethodDescriptor mX10_collects.1.desc).map (fun d => d.parameters.length) = some 1 := by decide +kernel
theorem okX10_collects : mOk mX10_collects := ⟨by decide +kernel, by decide +kernel, rfl, rfl⟩
theorem npX10_cost : (parseMethodDescriptor mX10_cost.1.desc).map (fun d => d.parameters.length) = some 3 := by decide +kernel
theorem okX10_cost : mOk mX10_cost := ⟨by decide +kernel, by decide +kernel, rfl, rfl⟩
theorem npX10_count : (parseMethodDescriptor mX10_count.1.desc).map (fun d => d.parameters.length) = some 1 := by decide +kernel
theorem okX10_count : mOk mX10_count := ⟨by decide +kernel, by decide +kernel, rfl, rfl⟩
theorem npX10_cut : (parseMethodDescriptor mX10_cut.1.desc).map (fun d => d.parameters.length) = some 2 := by decide +kernel
theorem okX10_cut : mOk mX10_cut := ⟨by decide +kernel, by decide +kernel, rfl, rfl⟩
theorem npX10_deal : (parseMethodDescriptor mX10_deal.1.desc).map (fun d => d.parameters.length) = some 0 := by decide +kernel
theorem okX10_deal : mOk mX10_deal := ⟨by decide +kernel, by decide +kernel, rfl, rfl⟩
theorem npX10_dealt : (parseMethodDescriptor mX10_dealt.1.desc).map (fun d => d.parameters.length) = some 0 := by decide +kernel
theorem okX10_dealt : mOk mX10_dealt := ⟨by decide +kernel, by decide +kernel, rfl, rfl⟩
theorem npX10_falls : (parseMethodDescriptor mX10_falls.1.desc).map (fun d => d.parameters.length) = some 1 := by decide +kernel
theorem okX10_falls : mOk mX10_falls := ⟨by decide +kernel, by decide +kernel, rfl, rfl⟩
theorem npX10_gives : (parseMethodDescriptor mX10_gives.1.desc).map (fun d => d.parameters.length) = some 2 := by decide +kernel
theorem okX10_gives : mOk mX10_gives := ⟨by decide +kernel, by decide +kernel, rfl, rfl⟩
theorem npX10_holds : (parseMethodDescriptor mX10_holds.1.desc).map (fun d => d.parameters.length) = some 2 := by decide +kernel
theorem okX10_holds : mOk mX10_holds := ⟨by decide +kernel, by decide +kernel, rfl, rfl⟩
theorem npX10_in : (parseMethodDescriptor mX10_in.1.desc).map (fun d => d.parameters.length) = some 3 := by decide +kernel
theorem okX10_in : mOk mX10_in := ⟨by decide +kernel, by decide +kernel, rfl, rfl⟩
theorem npX10_init : (parseMethodDescriptor mX10_init.1.desc).map (fun d => d.parameters.length) = some 0 := by decide +kernel
theorem nlX10_init : plainName mX10_init.1.cls = true ∧ mX10_init.1 ≠ yL_law := ⟨by decide +kernel, by decide +kernel⟩
theorem npX10_isAny : (parseMethodDescriptor mX10_isAny.1.desc).map (fun d => d.parameters.length) = some 0 := by decide +kernel
theorem okX10_isAny : mOk mX10_isAny := ⟨by decide +kernel, by decide +kernel, rfl, rfl⟩
theorem npX10_isOver : (parseMethodDescriptor mX10_isOver.1.desc).map (fun d => d.parameters.length) = some 2 := by decide +kernel
theorem okX10_isOver : mOk mX10_isOver := ⟨by decide +kernel, by decide +kernel, rfl, rfl⟩
theorem npX10_isProgram : (parseMethodDescriptor mX10_isProgram.1.desc).map (fun d => d.parameters.length) = some 1 := by decide +kernel
theorem okX10_isProgram : mOk mX10_isProgram := ⟨by decide +kernel, by decide +kernel, rfl, rfl⟩
theorem npX10_isSlot : (parseMethodDescriptor mX10_isSlot.1.desc).map (fun d => d.parameters.length) = some 1 := by decide +kernel
theorem okX10_isSlot : mOk mX10_isSlot := ⟨by decide +kernel, by decide +kernel, rfl, rfl⟩
theorem npX10_isThere : (parseMethodDescriptor mX10_isThere.1.desc).map (fun d => d.parameters.length) = some 1 := by decide +kernel
theorem okX10_isThere : mOk mX10_isThere := ⟨by decide +kernel, by decide +kernel, rfl, rfl⟩
theorem npX10_isUp : (parseMethodDescriptor mX10_isUp.1.desc).map (fun d => d.parameters.length) = some 1 := by decide +kernel
theorem okX10_isUp : mOk mX10_isUp := ⟨by decide +kernel, by decide +kernel, rfl, rfl⟩
theorem npX10_log : (parseMethodDescriptor mX10_log.1.desc).map (fun d => d.parameters.length) = some 2 := by decide +kernel
theorem okX10_log : mOk mX10_log := ⟨by decide +kernel, by decide +kernel, rfl, rfl⟩
theorem npX10_makes : (parseMethodDescriptor mX10_makes.1.desc).map (fun d => d.parameters.length) = some 2 := by decide +kernel
theorem okX10_makes : mOk mX10_makes := ⟨by decide +kernel, by decide +kernel, rfl, rfl⟩
theorem npX10_need : (parseMethodDescriptor mX10_need.1.desc).map (fun d => d.parameters.length) = some 1 := by decide +kernel
theorem okX10_need : mOk mX10_need := ⟨by decide +kernel, by decide +kernel, rfl, rfl⟩
theorem npX10_needOf : (parseMethodDescriptor mX10_needOf.1.desc).map (fun d => d.parameters.length) = some 1 := by decide +kernel
theorem okX10_needOf : mOk mX10_needOf := ⟨by decide +kernel, by decide +kernel, rfl, rfl⟩
theorem npX10_of : (parseMethodDescriptor mX10_of.1.desc).map (fun d => d.parameters.length) = some 2 := by decide +kernel
theorem okX10_of : mOk mX10_of := ⟨by decide +kernel, by decide +kernel, rfl, rfl⟩
theorem npX10_passes : (parseMethodDescriptor mX10_passes.1.desc).map (fun d => d.parameters.length) = some 1 := by decide +kernel
theorem okX10_passes : mOk mX10_passes := ⟨by decide +kernel, by decide +kernel, rfl, rfl⟩
theorem npX10_paste : (parseMethodDescriptor mX10_paste.1.desc).map (fun d => d.parameters.length) = some 5 := by decide +kernel
theorem okX10_paste : mOk mX10_paste := ⟨by decide +kernel, by decide +kernel, rfl, rfl⟩
theorem npX10_program : (parseMethodDescriptor mX10_program.1.desc).map (fun d => d.parameters.length) = some 4 := by decide +kernel
theorem okX10_program : mOk mX10_program := ⟨by decide +kernel, by decide +kernel, rfl, rfl⟩
theorem npX10_redeals : (parseMethodDescriptor mX10_redeals.1.desc).map (fun d => d.parameters.length) = some 0 := by decide +kernel
theorem okX10_redeals : mOk mX10_redeals := ⟨by decide +kernel, by decide +kernel, rfl, rfl⟩
theorem npX10_row : (parseMethodDescriptor mX10_row.1.desc).map (fun d => d.parameters.length) = some 3 := by decide +kernel
theorem okX10_row : mOk mX10_row := ⟨by decide +kernel, by decide +kernel, rfl, rfl⟩
theorem npX10_run : (parseMethodDescriptor mX10_run.1.desc).map (fun d => d.parameters.length) = some 1 := by decide +kernel
theorem okX10_run : mOk mX10_run := ⟨by decide +kernel, by decide +kernel, rfl, rfl⟩
theorem npX10_s : (parseMethodDescriptor mX10_s.1.desc).map (fun d => d.parameters.length) = some 1 := by decide +kernel
theorem okX10_s : mOk mX10_s := ⟨by decide +kernel, by decide +kernel, rfl, rfl⟩
theorem npX10_share : (parseMethodDescriptor mX10_share.1.desc).map (fun d => d.parameters.length) = some 1 := by decide +kernel
theorem okX10_share : mOk mX10_share := ⟨by decide +kernel, by decide +kernel, rfl, rfl⟩
theorem npX10_spare : (parseMethodDescriptor mX10_spare.1.desc).map (fun d => d.parameters.length) = some 1 := by decide +kernel
theorem okX10_spare : mOk mX10_spare := ⟨by decide +kernel, by decide +kernel, rfl, rfl⟩
theorem npX10_stop : (parseMethodDescriptor mX10_stop.1.desc).map (fun d => d.parameters.length) = some 0 := by decide +kernel
theorem okX10_stop : mOk mX10_stop := ⟨by decide +kernel, by decide +kernel, rfl, rfl⟩
theorem npX10_sum : (parseMethodDescriptor mX10_sum.1.desc).map (fun d => d.parameters.length) = some 0 := by decide +kernel
theorem okX10_sum : mOk mX10_sum := ⟨by decide +kernel, by decide +kernel, rfl, rfl⟩
theorem npX10_swung : (parseMethodDescriptor mX10_swung.1.desc).map (fun d => d.parameters.length) = some 0 := by decide +kernel
theorem okX10_swung : mOk mX10_swung := ⟨by decide +kernel, by decide +kernel, rfl, rfl⟩
theorem npX10_tear : (parseMethodDescriptor mX10_tear.1.desc).map (fun d => d.parameters.length) = some 1 := by decide +kernel
theorem okX10_tear : mOk mX10_tear := ⟨by decide +kernel, by decide +kernel, rfl, rfl⟩
theorem npX10_tells : (parseMethodDescriptor mX10_tells.1.desc).map (fun d => d.parameters.length) = some 3 := by decide +kernel
theorem okX10_tells : mOk mX10_tells := ⟨by decide +kernel, by decide +kernel, rfl, rfl⟩
theorem npX10_terms : (parseMethodDescriptor mX10_terms.1.desc).map (fun d => d.parameters.length) = some 5 := by decide +kernel
theorem okX10_terms : mOk mX10_terms := ⟨by decide +kernel, by decide +kernel, rfl, rfl⟩
theorem npX10_ticks : (parseMethodDescriptor mX10_ticks.1.desc).map (fun d => d.parameters.length) = some 0 := by decide +kernel
theorem okX10_ticks : mOk mX10_ticks := ⟨by decide +kernel, by decide +kernel, rfl, rfl⟩
theorem npX10_time : (parseMethodDescriptor mX10_time.1.desc).map (fun d => d.parameters.length) = some 2 := by decide +kernel
theorem okX10_time : mOk mX10_time := ⟨by decide +kernel, by decide +kernel, rfl, rfl⟩
theorem npX10_up : (parseMethodDescriptor mX10_up.1.desc).map (fun d => d.parameters.length) = some 1 := by decide +kernel
theorem okX10_up : mOk mX10_up := ⟨by decide +kernel, by decide +kernel, rfl, rfl⟩
theorem npX10_write : (parseMethodDescriptor mX10_write.1.desc).map (fun d => d.parameters.length) = some 3 := by decide +kernel
theorem okX10_write : mOk mX10_write := ⟨by decide +kernel, by decide +kernel, rfl, rfl⟩
theorem npX1_become : (parseMethodDescriptor mX1_become.1.desc).map (fun d => d.parameters.length) = some 4 := by decide +kernel
theorem okX1_become : mOk mX1_become := ⟨by decide +kernel, by decide +kernel, rfl, rfl⟩
theorem npX1_costToCollect : (parseMethodDescriptor mX1_costToCollect.1.desc).map (fun d => d.parameters.length) = some 2 := by decide +kernel
theorem okX1_costToCollect : mOk mX1_costToCollect := ⟨by decide +kernel, by decide +kernel, rfl, rfl⟩
theorem npX1_fallsEverSlower : (parseMethodDescriptor mX1_fallsEverSlower.1.desc).map (fun d => d.parameters.length) = some 2 := by decide +kernel
theorem okX1_fallsEverSlower : mOk mX1_fallsEverSlower := ⟨by decide +kernel, by decide +kernel, rfl, rfl⟩
theorem npX1_holds : (parseMethodDescriptor mX1_holds.1.desc).map (fun d => d.parameters.length) = some 1 := by decide +kernel
theorem okX1_holds : mOk mX1_holds := ⟨by decide +kernel, by decide +kernel, rfl, rfl⟩
theorem npX1_init : (parseMethodDescriptor mX1_init.1.desc).map (fun d => d.parameters.length) = some 0 := by decide +kernel
theorem nlX1_init : plainName mX1_init.1.cls = true ∧ mX1_init.1 ≠ yL_law := ⟨by decide +kernel, by decide +kernel⟩
theorem npX1_isMake : (parseMethodDescriptor mX1_isMake.1.desc).map (fun d => d.parameters.length) = some 1 := by decide +kernel
theorem okX1_isMake : mOk mX1_isMake := ⟨by decide +kernel, by decide +kernel, rfl, rfl⟩
theorem npX1_roomFor : (parseMethodDescriptor mX1_roomFor.1.desc).map (fun d => d.parameters.length) = some 1 := by decide +kernel
theorem okX1_roomFor : mOk mX1_roomFor := ⟨by decide +kernel, by decide +kernel, rfl, rfl⟩
theorem npX2_cellsOfStep : (parseMethodDescriptor mX2_cellsOfStep.1.desc).map (fun d => d.parameters.length) = some 1 := by decide +kernel
theorem okX2_cellsOfStep : mOk mX2_cellsOfStep := ⟨by decide +kernel, by decide +kernel, rfl, rfl⟩
theorem npX2_collectNow : (parseMethodDescriptor mX2_collectNow.1.desc).map (fun d => d.parameters.length) = some 0 := by decide +kernel
theorem okX2_collectNow : mOk mX2_collectNow := ⟨by decide +kernel, by decide +kernel, rfl, rfl⟩
theorem npX2_endRound : (parseMethodDescriptor mX2_endRound.1.desc).map (fun d => d.parameters.length) = some 0 := by decide +kernel
theorem okX2_endRound : mOk mX2_endRound := ⟨by decide +kernel, by decide +kernel, rfl, rfl⟩
theorem npX2_fits : (parseMethodDescriptor mX2_fits.1.desc).map (fun d => d.parameters.length) = some 1 := by decide +kernel
theorem okX2_fits : mOk mX2_fits := ⟨by decide +kernel, by decide +kernel, rfl, rfl⟩
theorem npX2_gain : (parseMethodDescriptor mX2_gain.1.desc).map (fun d => d.parameters.length) = some 1 := by decide +kernel
theorem okX2_gain : mOk mX2_gain := ⟨by decide +kernel, by decide +kernel, rfl, rfl⟩
theorem npX2_goesOn : (parseMethodDescriptor mX2_goesOn.1.desc).map (fun d => d.parameters.length) = some 0 := by decide +kernel
theorem okX2_goesOn : mOk mX2_goesOn := ⟨by decide +kernel, by decide +kernel, rfl, rfl⟩
theorem npX2_init : (parseMethodDescriptor mX2_init.1.desc).map (fun d => d.parameters.length) = some 2 := by decide +kernel
theorem nlX2_init : plainName mX2_init.1.cls = true ∧ mX2_init.1 ≠ yL_law := ⟨by decide +kernel, by decide +kernel⟩
theorem npX2_isAboutToMake : (parseMethodDescriptor mX2_isAboutToMake.1.desc).map (fun d => d.parameters.length) = some 0 := by decide +kernel
theorem okX2_isAboutToMake : mOk mX2_isAboutToMake := ⟨by decide +kernel, by decide +kernel, rfl, rfl⟩
theorem npX2_isAwake : (parseMethodDescriptor mX2_isAwake.1.desc).map (fun d => d.parameters.length) = some 0 := by decide +kernel
theorem okX2_isAwake : mOk mX2_isAwake := ⟨by decide +kernel, by decide +kernel, rfl, rfl⟩
theorem npX2_keep : (parseMethodDescriptor mX2_keep.1.desc).map (fun d => d.parameters.length) = some 1 := by decide +kernel
theorem okX2_keep : mOk mX2_keep := ⟨by decide +kernel, by decide +kernel, rfl, rfl⟩
theorem npX2_leave : (parseMethodDescriptor mX2_leave.1.desc).map (fun d => d.parameters.length) = some 2 := by decide +kernel
theorem okX2_leave : mOk mX2_leave := ⟨by decide +kernel, by decide +kernel, rfl, rfl⟩
theorem npX2_loss : (parseMethodDescriptor mX2_loss.1.desc).map (fun d => d.parameters.length) = some 1 := by decide +kernel
theorem okX2_loss : mOk mX2_loss := ⟨by decide +kernel, by decide +kernel, rfl, rfl⟩
theorem npX2_makeNow : (parseMethodDescriptor mX2_makeNow.1.desc).map (fun d => d.parameters.length) = some 1 := by decide +kernel
theorem okX2_makeNow : mOk mX2_makeNow := ⟨by decide +kernel, by decide +kernel, rfl, rfl⟩
theorem npX2_nextAct : (parseMethodDescriptor mX2_nextAct.1.desc).map (fun d => d.parameters.length) = some 0 := by decide +kernel
theorem okX2_nextAct : mOk mX2_nextAct := ⟨by decide +kernel, by decide +kernel, rfl, rfl⟩
theorem npX2_spare : (parseMethodDescriptor mX2_spare.1.desc).map (fun d => d.parameters.length) = some 1 := by decide +kernel
theorem okX2_spare : mOk mX2_spare := ⟨by decide +kernel, by decide +kernel, rfl, rfl⟩
theorem npX2_start : (parseMethodDescriptor mX2_start.1.desc).map (fun d => d.parameters.length) = some 1 := by decide +kernel
theorem okX2_start : mOk mX2_start := ⟨by decide +kernel, by decide +kernel, rfl, rfl⟩
theorem npX2_told : (parseMethodDescriptor mX2_told.1.desc).map (fun d => d.parameters.length) = some 1 := by decide +kernel
theorem okX2_told : mOk mX2_told := ⟨by decide +kernel, by decide +kernel, rfl, rfl⟩
theorem npX2_waitFor : (parseMethodDescriptor mX2_waitFor.1.desc).map (fun d => d.parameters.length) = some 2 := by decide +kernel
theorem okX2_waitFor : mOk mX2_waitFor := ⟨by decide +kernel, by decide +kernel, rfl, rfl⟩
theorem npX3_cut : (parseMethodDescriptor mX3_cut.1.desc).map (fun d => d.parameters.length) = some 1 := by decide +kernel
theorem okX3_cut : mOk mX3_cut := ⟨by decide +kernel, by decide +kernel, rfl, rfl⟩
theorem npX3_hasPlaces : (parseMethodDescriptor mX3_hasPlaces.1.desc).map (fun d => d.parameters.length) = some 2 := by decide +kernel
theorem okX3_hasPlaces : mOk mX3_hasPlaces := ⟨by decide +kernel, by decide +kernel, rfl, rfl⟩
theorem npX3_holdsActsAlone : (parseMethodDescriptor mX3_holdsActsAlone.1.desc).map (fun d => d.parameters.length) = some 0 := by decide +kernel
theorem okX3_holdsActsAlone : mOk mX3_holdsActsAlone := ⟨by decide +kernel, by decide +kernel, rfl, rfl⟩
theorem npX3_init : (parseMethodDescriptor mX3_init.1.desc).map (fun d => d.parameters.length) = some 0 := by decide +kernel
theorem nlX3_init : plainName mX3_init.1.cls = true ∧ mX3_init.1 ≠ yL_law := ⟨by decide +kernel, by decide +kernel⟩
theorem npX3_isAct : (parseMethodDescriptor mX3_isAct.1.desc).map (fun d => d.parameters.length) = some 1 := by decide +kernel
theorem okX3_isAct : mOk mX3_isAct := ⟨by decide +kernel, by decide +kernel, rfl, rfl⟩
theorem npX3_isBare : (parseMethodDescriptor mX3_isBare.1.desc).map (fun d => d.parameters.length) = some 0 := by decide +kernel
theorem okX3_isBare : mOk mX3_isBare := ⟨by decide +kernel, by decide +kernel, rfl, rfl⟩
theorem npX3_lay : (parseMethodDescriptor mX3_lay.1.desc).map (fun d => d.parameters.length) = some 2 := by decide +kernel
theorem okX3_lay : mOk mX3_lay := ⟨by decide +kernel, by decide +kernel, rfl, rfl⟩
theorem npX3_strip : (parseMethodDescriptor mX3_strip.1.desc).map (fun d => d.parameters.length) = some 0 := by decide +kernel
theorem okX3_strip : mOk mX3_strip := ⟨by decide +kernel, by decide +kernel, rfl, rfl⟩
theorem npX4_add : (parseMethodDescriptor mX4_add.1.desc).map (fun d => d.parameters.length) = some 4 := by decide +kernel
theorem okX4_add : mOk mX4_add := ⟨by decide +kernel, by decide +kernel, rfl, rfl⟩
theorem npX4_forget : (parseMethodDescriptor mX4_forget.1.desc).map (fun d => d.parameters.length) = some 0 := by decide +kernel
theorem okX4_forget : mOk mX4_forget := ⟨by decide +kernel, by decide +kernel, rfl, rfl⟩
theorem npX4_init : (parseMethodDescriptor mX4_init.1.desc).map (fun d => d.parameters.length) = some 0 := by decide +kernel
theorem nlX4_init : plainName mX4_init.1.cls = true ∧ mX4_init.1 ≠ yL_law := ⟨by decide +kernel, by decide +kernel⟩
theorem npX4_kept : (parseMethodDescriptor mX4_kept.1.desc).map (fun d => d.parameters.length) = some 0 := by decide +kernel
theorem okX4_kept : mOk mX4_kept := ⟨by decide +kernel, by decide +kernel, rfl, rfl⟩
theorem npX4_told : (parseMethodDescriptor mX4_told.1.desc).map (fun d => d.parameters.length) = some 2 := by decide +kernel
theorem okX4_told : mOk mX4_told := ⟨by decide +kernel, by decide +kernel, rfl, rfl⟩
theorem npX5_allSteps : (parseMethodDescriptor mX5_allSteps.1.desc).map (fun d => d.parameters.length) = some 0 := by decide +kernel
theorem okX5_allSteps : mOk mX5_allSteps := ⟨by decide +kernel, by decide +kernel, rfl, rfl⟩
theorem npX5_areSound : (parseMethodDescriptor mX5_areSound.1.desc).map (fun d => d.parameters.length) = some 3 := by decide +kernel
theorem okX5_areSound : mOk mX5_areSound := ⟨by decide +kernel, by decide +kernel, rfl, rfl⟩
theorem npX5_dealtSteps : (parseMethodDescriptor mX5_dealtSteps.1.desc).map (fun d => d.parameters.length) = some 0 := by decide +kernel
theorem okX5_dealtSteps : mOk mX5_dealtSteps := ⟨by decide +kernel, by decide +kernel, rfl, rfl⟩
theorem npX5_init : (parseMethodDescriptor mX5_init.1.desc).map (fun d => d.parameters.length) = some 0 := by decide +kernel
theorem nlX5_init : plainName mX5_init.1.cls = true ∧ mX5_init.1 ≠ yL_law := ⟨by decide +kernel, by decide +kernel⟩
theorem npX5_stepsFor : (parseMethodDescriptor mX5_stepsFor.1.desc).map (fun d => d.parameters.length) = some 1 := by decide +kernel
theorem okX5_stepsFor : mOk mX5_stepsFor := ⟨by decide +kernel, by decide +kernel, rfl, rfl⟩
theorem npX6_add : (parseMethodDescriptor mX6_add.1.desc).map (fun d => d.parameters.length) = some 1 := by decide +kernel
theorem okX6_add : mOk mX6_add := ⟨by decide +kernel, by decide +kernel, rfl, rfl⟩
theorem npX6_die : (parseMethodDescriptor mX6_die.1.desc).map (fun d => d.parameters.length) = some 1 := by decide +kernel
theorem okX6_die : mOk mX6_die := ⟨by decide +kernel, by decide +kernel, rfl, rfl⟩
theorem npX6_forget : (parseMethodDescriptor mX6_forget.1.desc).map (fun d => d.parameters.length) = some 0 := by decide +kernel
theorem okX6_forget : mOk mX6_forget := ⟨by decide +kernel, by decide +kernel, rfl, rfl⟩
theorem npX6_init : (parseMethodDescriptor mX6_init.1.desc).map (fun d => d.parameters.length) = some 0 := by decide +kernel
theorem nlX6_init : plainName mX6_init.1.cls = true ∧ mX6_init.1 ≠ yL_law := ⟨by decide +kernel, by decide +kernel⟩
theorem npX7_collect : (parseMethodDescriptor mX7_collect.1.desc).map (fun d => d.parameters.length) = some 1 := by decide +kernel
theorem okX7_collect : mOk mX7_collect := ⟨by decide +kernel, by decide +kernel, rfl, rfl⟩
theorem npX7_doOtherAct : (parseMethodDescriptor mX7_doOtherAct.1.desc).map (fun d => d.parameters.length) = some 1 := by decide +kernel
theorem okX7_doOtherAct : mOk mX7_doOtherAct := ⟨by decide +kernel, by decide +kernel, rfl, rfl⟩
theorem npX7_endAct : (parseMethodDescriptor mX7_endAct.1.desc).map (fun d => d.parameters.length) = some 1 := by decide +kernel
theorem okX7_endAct : mOk mX7_endAct := ⟨by decide +kernel, by decide +kernel, rfl, rfl⟩
theorem npX7_fairPart : (parseMethodDescriptor mX7_fairPart.1.desc).map (fun d => d.parameters.length) = some 0 := by decide +kernel
theorem okX7_fairPart : mOk mX7_fairPart := ⟨by decide +kernel, by decide +kernel, rfl, rfl⟩
theorem npX7_getsByAsking : (parseMethodDescriptor mX7_getsByAsking.1.desc).map (fun d => d.parameters.length) = some 2 := by decide +kernel
theorem okX7_getsByAsking : mOk mX7_getsByAsking := ⟨by decide +kernel, by decide +kernel, rfl, rfl⟩
theorem npX7_give : (parseMethodDescriptor mX7_give.1.desc).map (fun d => d.parameters.length) = some 2 := by decide +kernel
theorem okX7_give : mOk mX7_give := ⟨by decide +kernel, by decide +kernel, rfl, rfl⟩
theorem npX7_init : (parseMethodDescriptor mX7_init.1.desc).map (fun d => d.parameters.length) = some 2 := by decide +kernel
theorem nlX7_init : plainName mX7_init.1.cls = true ∧ mX7_init.1 ≠ yL_law := ⟨by decide +kernel, by decide +kernel⟩
theorem npX7_leave : (parseMethodDescriptor mX7_leave.1.desc).map (fun d => d.parameters.length) = some 3 := by decide +kernel
theorem okX7_leave : mOk mX7_leave := ⟨by decide +kernel, by decide +kernel, rfl, rfl⟩
theorem npX7_movesStep : (parseMethodDescriptor mX7_movesStep.1.desc).map (fun d => d.parameters.length) = some 0 := by decide +kernel
theorem okX7_movesStep : mOk mX7_movesStep := ⟨by decide +kernel, by decide +kernel, rfl, rfl⟩
theorem npX7_passTick : (parseMethodDescriptor mX7_passTick.1.desc).map (fun d => d.parameters.length) = some 1 := by decide +kernel
theorem okX7_passTick : mOk mX7_passTick := ⟨by decide +kernel, by decide +kernel, rfl, rfl⟩
theorem npX7_redeal : (parseMethodDescriptor mX7_redeal.1.desc).map (fun d => d.parameters.length) = some 0 := by decide +kernel
theorem okX7_redeal : mOk mX7_redeal := ⟨by decide +kernel, by decide +kernel, rfl, rfl⟩
theorem npX7_someGoOn : (parseMethodDescriptor mX7_someGoOn.1.desc).map (fun d => d.parameters.length) = some 0 := by decide +kernel
theorem okX7_someGoOn : mOk mX7_someGoOn := ⟨by decide +kernel, by decide +kernel, rfl, rfl⟩
theorem npX7_spareOfOthers : (parseMethodDescriptor mX7_spareOfOthers.1.desc).map (fun d => d.parameters.length) = some 1 := by decide +kernel
theorem okX7_spareOfOthers : mOk mX7_spareOfOthers := ⟨by decide +kernel, by decide +kernel, rfl, rfl⟩
theorem npX7_squeeze : (parseMethodDescriptor mX7_squeeze.1.desc).map (fun d => d.parameters.length) = some 1 := by decide +kernel
theorem okX7_squeeze : mOk mX7_squeeze := ⟨by decide +kernel, by decide +kernel, rfl, rfl⟩
theorem npX7_start : (parseMethodDescriptor mX7_start.1.desc).map (fun d => d.parameters.length) = some 2 := by decide +kernel
theorem okX7_start : mOk mX7_start := ⟨by decide +kernel, by decide +kernel, rfl, rfl⟩
theorem npX7_tick : (parseMethodDescriptor mX7_tick.1.desc).map (fun d => d.parameters.length) = some 0 := by decide +kernel
theorem okX7_tick : mOk mX7_tick := ⟨by decide +kernel, by decide +kernel, rfl, rfl⟩
theorem npX7_tryMake : (parseMethodDescriptor mX7_tryMake.1.desc).map (fun d => d.parameters.length) = some 1 := by decide +kernel
theorem okX7_tryMake : mOk mX7_tryMake := ⟨by decide +kernel, by decide +kernel, rfl, rfl⟩
theorem npX7_wake : (parseMethodDescriptor mX7_wake.1.desc).map (fun d => d.parameters.length) = some 1 := by decide +kernel
theorem okX7_wake : mOk mX7_wake := ⟨by decide +kernel, by decide +kernel, rfl, rfl⟩
theorem npX7_whoGainsMost : (parseMethodDescriptor mX7_whoGainsMost.1.desc).map (fun d => d.parameters.length) = some 0 := by decide +kernel
theorem okX7_whoGainsMost : mOk mX7_whoGainsMost := ⟨by decide +kernel, by decide +kernel, rfl, rfl⟩
theorem npX7_whoLosesLeast : (parseMethodDescriptor mX7_whoLosesLeast.1.desc).map (fun d => d.parameters.length) = some 1 := by decide +kernel
theorem okX7_whoLosesLeast : mOk mX7_whoLosesLeast := ⟨by decide +kernel, by decide +kernel, rfl, rfl⟩
theorem npX7_whoSparesMost : (parseMethodDescriptor mX7_whoSparesMost.1.desc).map (fun d => d.parameters.length) = some 1 := by decide +kernel
theorem okX7_whoSparesMost : mOk mX7_whoSparesMost := ⟨by decide +kernel, by decide +kernel, rfl, rfl⟩
theorem npX8_init : (parseMethodDescriptor mX8_init.1.desc).map (fun d => d.parameters.length) = some 0 := by decide +kernel
theorem nlX8_init : plainName mX8_init.1.cls = true ∧ mX8_init.1 ≠ yL_law := ⟨by decide +kernel, by decide +kernel⟩
theorem npX8_makeInAll : (parseMethodDescriptor mX8_makeInAll.1.desc).map (fun d => d.parameters.length) = some 2 := by decide +kernel
theorem okX8_makeInAll : mOk mX8_makeInAll := ⟨by decide +kernel, by decide +kernel, rfl, rfl⟩
theorem npX8_pass : (parseMethodDescriptor mX8_pass.1.desc).map (fun d => d.parameters.length) = some 4 := by decide +kernel
theorem okX8_pass : mOk mX8_pass := ⟨by decide +kernel, by decide +kernel, rfl, rfl⟩
theorem npX8_passRound : (parseMethodDescriptor mX8_passRound.1.desc).map (fun d => d.parameters.length) = some 1 := by decide +kernel
theorem okX8_passRound : mOk mX8_passRound := ⟨by decide +kernel, by decide +kernel, rfl, rfl⟩
theorem npX8_timeOf : (parseMethodDescriptor mX8_timeOf.1.desc).map (fun d => d.parameters.length) = some 1 := by decide +kernel
theorem okX8_timeOf : mOk mX8_timeOf := ⟨by decide +kernel, by decide +kernel, rfl, rfl⟩
theorem npX9_begin : (parseMethodDescriptor mX9_begin.1.desc).map (fun d => d.parameters.length) = some 0 := by decide +kernel
theorem okX9_begin : mOk mX9_begin := ⟨by decide +kernel, by decide +kernel, rfl, rfl⟩
theorem npX9_best : (parseMethodDescriptor mX9_best.1.desc).map (fun d => d.parameters.length) = some 0 := by decide +kernel
theorem okX9_best : mOk mX9_best := ⟨by decide +kernel, by decide +kernel, rfl, rfl⟩
theorem npX9_clear : (parseMethodDescriptor mX9_clear.1.desc).map (fun d => d.parameters.length) = some 0 := by decide +kernel
theorem okX9_clear : mOk mX9_clear := ⟨by decide +kernel, by decide +kernel, rfl, rfl⟩
theorem npX9_count : (parseMethodDescriptor mX9_count.1.desc).map (fun d => d.parameters.length) = some 1 := by decide +kernel
theorem okX9_count : mOk mX9_count := ⟨by decide +kernel, by decide +kernel, rfl, rfl⟩
theorem npX9_deal : (parseMethodDescriptor mX9_deal.1.desc).map (fun d => d.parameters.length) = some 0 := by decide +kernel
theorem okX9_deal : mOk mX9_deal := ⟨by decide +kernel, by decide +kernel, rfl, rfl⟩
theorem npX9_falls : (parseMethodDescriptor mX9_falls.1.desc).map (fun d => d.parameters.length) = some 1 := by decide +kernel
theorem okX9_falls : mOk mX9_falls := ⟨by decide +kernel, by decide +kernel, rfl, rfl⟩
theorem npX9_init : (parseMethodDescriptor mX9_init.1.desc).map (fun d => d.parameters.length) = some 0 := by decide +kernel
theorem nlX9_init : plainName mX9_init.1.cls = true ∧ mX9_init.1 ≠ yL_law := ⟨by decide +kernel, by decide +kernel⟩
theorem npX9_isProgram : (parseMethodDescriptor mX9_isProgram.1.desc).map (fun d => d.parameters.length) = some 1 := by decide +kernel
theorem okX9_isProgram : mOk mX9_isProgram := ⟨by decide +kernel, by decide +kernel, rfl, rfl⟩
theorem npX9_isSlot : (parseMethodDescriptor mX9_isSlot.1.desc).map (fun d => d.parameters.length) = some 1 := by decide +kernel
theorem okX9_isSlot : mOk mX9_isSlot := ⟨by decide +kernel, by decide +kernel, rfl, rfl⟩
theorem npX9_log : (parseMethodDescriptor mX9_log.1.desc).map (fun d => d.parameters.length) = some 2 := by decide +kernel
theorem okX9_log : mOk mX9_log := ⟨by decide +kernel, by decide +kernel, rfl, rfl⟩
theorem npX9_need : (parseMethodDescriptor mX9_need.1.desc).map (fun d => d.parameters.length) = some 1 := by decide +kernel
theorem okX9_need : mOk mX9_need := ⟨by decide +kernel, by decide +kernel, rfl, rfl⟩
theorem npX9_of : (parseMethodDescriptor mX9_of.1.desc).map (fun d => d.parameters.length) = some 2 := by decide +kernel
theorem okX9_of : mOk mX9_of := ⟨by decide +kernel, by decide +kernel, rfl, rfl⟩
theorem npX9_paste : (parseMethodDescriptor mX9_paste.1.desc).map (fun d => d.parameters.length) = some 5 := by decide +kernel
theorem okX9_paste : mOk mX9_paste := ⟨by decide +kernel, by decide +kernel, rfl, rfl⟩
theorem npX9_program : (parseMethodDescriptor mX9_program.1.desc).map (fun d => d.parameters.length) = some 4 := by decide +kernel
theorem okX9_program : mOk mX9_program := ⟨by decide +kernel, by decide +kernel, rfl, rfl⟩
theorem npX9_row : (parseMethodDescriptor mX9_row.1.desc).map (fun d => d.parameters.length) = some 3 := by decide +kernel
theorem okX9_row : mOk mX9_row := ⟨by decide +kernel, by decide +kernel, rfl, rfl⟩
theorem npX9_rowsThere : (parseMethodDescriptor mX9_rowsThere.1.desc).map (fun d => d.parameters.length) = some 0 := by decide +kernel
theorem okX9_rowsThere : mOk mX9_rowsThere := ⟨by decide +kernel, by decide +kernel, rfl, rfl⟩
theorem npX9_run : (parseMethodDescriptor mX9_run.1.desc).map (fun d => d.parameters.length) = some 1 := by decide +kernel
theorem okX9_run : mOk mX9_run := ⟨by decide +kernel, by decide +kernel, rfl, rfl⟩
theorem npX9_share : (parseMethodDescriptor mX9_share.1.desc).map (fun d => d.parameters.length) = some 1 := by decide +kernel
theorem okX9_share : mOk mX9_share := ⟨by decide +kernel, by decide +kernel, rfl, rfl⟩
theorem npX9_stop : (parseMethodDescriptor mX9_stop.1.desc).map (fun d => d.parameters.length) = some 0 := by decide +kernel
theorem okX9_stop : mOk mX9_stop := ⟨by decide +kernel, by decide +kernel, rfl, rfl⟩
theorem npX9_tear : (parseMethodDescriptor mX9_tear.1.desc).map (fun d => d.parameters.length) = some 1 := by decide +kernel
theorem okX9_tear : mOk mX9_tear := ⟨by decide +kernel, by decide +kernel, rfl, rfl⟩
theorem npX9_terms : (parseMethodDescriptor mX9_terms.1.desc).map (fun d => d.parameters.length) = some 5 := by decide +kernel
theorem okX9_terms : mOk mX9_terms := ⟨by decide +kernel, by decide +kernel, rfl, rfl⟩
theorem npX9_time : (parseMethodDescriptor mX9_time.1.desc).map (fun d => d.parameters.length) = some 2 := by decide +kernel
theorem okX9_time : mOk mX9_time := ⟨by decide +kernel, by decide +kernel, rfl, rfl⟩
theorem npX9_write : (parseMethodDescriptor mX9_write.1.desc).map (fun d => d.parameters.length) = some 3 := by decide +kernel
theorem okX9_write : mOk mX9_write := ⟨by decide +kernel, by decide +kernel, rfl, rfl⟩
abbrev mL_law : aM := (yL_law, cL_law, 4, ret, room_1)
theorem iniL : Cond.initialized RL ∈ aTb := aTb_at 0 (by decide +kernel) (by decide +kernel)
theorem iniX9 : Cond.initialized RX9 ∈ aTb := aTb_at 1 (by decide +kernel) (by decide +kernel)
theorem iniX3 : Cond.initialized RX3 ∈ aTb := aTb_at 2 (by decide +kernel) (by decide +kernel)
theorem iniX1 : Cond.initialized RX1 ∈ aTb := aTb_at 3 (by decide +kernel) (by decide +kernel)
theorem iniX5 : Cond.initialized RX5 ∈ aTb := aTb_at 4 (by decide +kernel) (by decide +kernel)
theorem iniX0 : Cond.initialized RX0 ∈ aTb := aTb_at 5 (by decide +kernel) (by decide +kernel)
theorem iniX8 : Cond.initialized RX8 ∈ aTb := aTb_at 6 (by decide +kernel) (by decide +kernel)
theorem iniX6 : Cond.initialized RX6 ∈ aTb := aTb_at 7 (by decide +kernel) (by decide +kernel)
theorem iniX7 : Cond.initialized RX7 ∈ aTb := aTb_at 8 (by decide +kernel) (by decide +kernel)
theorem iniX4 : Cond.initialized RX4 ∈ aTb := aTb_at 9 (by decide +kernel) (by decide +kernel)
theorem iniX2 : Cond.initialized RX2 ∈ aTb := aTb_at 10 (by decide +kernel) (by decide +kernel)
theorem iniX10 : Cond.initialized RX10 ∈ aTb := aTb_at 11 (by decide +kernel) (by decide +kernel)
theorem iniJ10 : Cond.initialized RJ10 ∈ aTb := aTb_at 12 (by decide +kernel) (by decide +kernel)
theorem iniJ9 : Cond.initialized RJ9 ∈ aTb := aTb_at 13 (by decide +kernel) (by decide +kernel)
theorem codJ9_max_7cf53 : Cond.code mJ9_max_7cf53.1 mJ9_max_7cf53.2.1 mJ9_max_7cf53.2.2.1 mJ9_max_7cf53.2.2.2.1 ∈ aTb := aTb_at 550 (by decide +kernel) (by decide +kernel)
theorem staJ9_max_7cf53 : Cond.static mJ9_max_7cf53.1 ∈ aTb := aTb_at 549 (by decide +kernel) (by decide +kernel)
theorem codJ9_min_7cf53 : Cond.code mJ9_min_7cf53.1 mJ9_min_7cf53.2.1 mJ9_min_7cf53.2.2.1 mJ9_min_7cf53.2.2.2.1 ∈ aTb := aTb_at 441 (by decide +kernel) (by decide +kernel)
theorem staJ9_min_7cf53 : Cond.static mJ9_min_7cf53.1 ∈ aTb := aTb_at 440 (by decide +kernel) (by decide +kernel)
theorem codJ9_min_f86c9 : Cond.code mJ9_min_f86c9.1 mJ9_min_f86c9.2.1 mJ9_min_f86c9.2.2.1 mJ9_min_f86c9.2.2.2.1 ∈ aTb := aTb_at 1015 (by decide +kernel) (by decide +kernel)
theorem staJ9_min_f86c9 : Cond.static mJ9_min_f86c9.1 ∈ aTb := aTb_at 1014 (by decide +kernel) (by decide +kernel)
theorem codX0_atBest : Cond.code mX0_atBest.1 mX0_atBest.2.1 mX0_atBest.2.2.1 mX0_atBest.2.2.2.1 ∈ aTb := aTb_at 535 (by decide +kernel) (by decide +kernel)
theorem insX0_atBest : Cond.instanceMethod mX0_atBest.1 ∈ aTb := aTb_at 533 (by decide +kernel) (by decide +kernel)
theorem selX0_atBest : Cond.selects mX0_atBest.1.cls mX0_atBest.1 mX0_atBest.1 ∈ aTb := aTb_at 534 (by decide +kernel) (by decide +kernel)
theorem codX0_bySavings : Cond.code mX0_bySavings.1 mX0_bySavings.2.1 mX0_bySavings.2.2.1 mX0_bySavings.2.2.2.1 ∈ aTb := aTb_at 514 (by decide +kernel) (by decide +kernel)
theorem insX0_bySavings : Cond.instanceMethod mX0_bySavings.1 ∈ aTb := aTb_at 512 (by decide +kernel) (by decide +kernel)
theorem selX0_bySavings : Cond.selects mX0_bySavings.1.cls mX0_bySavings.1 mX0_bySavings.1 ∈ aTb := aTb_at 513 (by decide +kernel) (by decide +kernel)
theorem codX0_firstBestShare : Cond.code mX0_firstBestShare.1 mX0_firstBestShare.2.1 mX0_firstBestShare.2.2.1 mX0_firstBestShare.2.2.2.1 ∈ aTb := aTb_at 539 (by decide +kernel) (by decide +kernel)
theorem insX0_firstBestShare : Cond.instanceMethod mX0_firstBestShare.1 ∈ aTb := aTb_at 538 (by decide +kernel) (by decide +kernel)
theorem selX0_firstBestShare : Cond.selects mX0_firstBestShare.1.cls mX0_firstBestShare.1 mX0_firstBestShare.1 ∈ aTb := aTb_priv 7 (by decide +kernel) (by decide +kernel)
theorem codX0_init : Cond.code mX0_init.1 mX0_init.2.1 mX0_init.2.2.1 mX0_init.2.2.2.1 ∈ aTb := aTb_at 126 (by decide +kernel) (by decide +kernel)
theorem insX0_init : Cond.instanceMethod mX0_init.1 ∈ aTb := aTb_at 125 (by decide +kernel) (by decide +kernel)
theorem codX0_learnTimes : Cond.code mX0_learnTimes.1 mX0_learnTimes.2.1 mX0_learnTimes.2.2.1 mX0_learnTimes.2.2.2.1 ∈ aTb := aTb_at 488 (by decide +kernel) (by decide +kernel)
theorem insX0_learnTimes : Cond.instanceMethod mX0_learnTimes.1 ∈ aTb := aTb_at 487 (by decide +kernel) (by decide +kernel)
theorem selX0_learnTimes : Cond.selects mX0_learnTimes.1.cls mX0_learnTimes.1 mX0_learnTimes.1 ∈ aTb := aTb_priv 4 (by decide +kernel) (by decide +kernel)
theorem codX0_needInSteps : Cond.code mX0_needInSteps.1 mX0_needInSteps.2.1 mX0_needInSteps.2.2.1 mX0_needInSteps.2.2.2.1 ∈ aTb := aTb_at 484 (by decide +kernel) (by decide +kernel)
theorem insX0_needInSteps : Cond.instanceMethod mX0_needInSteps.1 ∈ aTb := aTb_at 482 (by decide +kernel) (by decide +kernel)
theorem selX0_needInSteps : Cond.selects mX0_needInSteps.1.cls mX0_needInSteps.1 mX0_needInSteps.1 ∈ aTb := aTb_at 483 (by decide +kernel) (by decide +kernel)
theorem codX0_sumOfTimes : Cond.code mX0_sumOfTimes.1 mX0_sumOfTimes.2.1 mX0_sumOfTimes.2.2.1 mX0_sumOfTimes.2.2.2.1 ∈ aTb := aTb_at 527 (by decide +kernel) (by decide +kernel)
theorem insX0_sumOfTimes : Cond.instanceMethod mX0_sumOfTimes.1 ∈ aTb := aTb_at 526 (by decide +kernel) (by decide +kernel)
theorem selX0_sumOfTimes : Cond.selects mX0_sumOfTimes.1.cls mX0_sumOfTimes.1 mX0_sumOfTimes.1 ∈ aTb := aTb_priv 6 (by decide +kernel) (by decide +kernel)
theorem codX0_sumWith : Cond.code mX0_sumWith.1 mX0_sumWith.2.1 mX0_sumWith.2.2.1 mX0_sumWith.2.2.2.1 ∈ aTb := aTb_at 543 (by decide +kernel) (by decide +kernel)
theorem insX0_sumWith : Cond.instanceMethod mX0_sumWith.1 ∈ aTb := aTb_at 542 (by decide +kernel) (by decide +kernel)
theorem selX0_sumWith : Cond.selects mX0_sumWith.1.cls mX0_sumWith.1 mX0_sumWith.1 ∈ aTb := aTb_priv 8 (by decide +kernel) (by decide +kernel)
theorem codX0_takeFirstBest : Cond.code mX0_takeFirstBest.1 mX0_takeFirstBest.2.1 mX0_takeFirstBest.2.2.1 mX0_takeFirstBest.2.2.2.1 ∈ aTb := aTb_at 547 (by decide +kernel) (by decide +kernel)
theorem insX0_takeFirstBest : Cond.instanceMethod mX0_takeFirstBest.1 ∈ aTb := aTb_at 546 (by decide +kernel) (by decide +kernel)
theorem selX0_takeFirstBest : Cond.selects mX0_takeFirstBest.1.cls mX0_takeFirstBest.1 mX0_takeFirstBest.1 ∈ aTb := aTb_priv 9 (by decide +kernel) (by decide +kernel)
theorem codX0_timeByRoom : Cond.code mX0_timeByRoom.1 mX0_timeByRoom.2.1 mX0_timeByRoom.2.2.1 mX0_timeByRoom.2.2.2.1 ∈ aTb := aTb_at 434 (by decide +kernel) (by decide +kernel)
theorem insX0_timeByRoom : Cond.instanceMethod mX0_timeByRoom.1 ∈ aTb := aTb_at 432 (by decide +kernel) (by decide +kernel)
theorem selX0_timeByRoom : Cond.selects mX0_timeByRoom.1.cls mX0_timeByRoom.1 mX0_timeByRoom.1 ∈ aTb := aTb_at 433 (by decide +kernel) (by decide +kernel)
theorem codX0_whoSavesMost : Cond.code mX0_whoSavesMost.1 mX0_whoSavesMost.2.1 mX0_whoSavesMost.2.2.1 mX0_whoSavesMost.2.2.2.1 ∈ aTb := aTb_at 523 (by decide +kernel) (by decide +kernel)
theorem insX0_whoSavesMost : Cond.instanceMethod mX0_whoSavesMost.1 ∈ aTb := aTb_at 522 (by decide +kernel) (by decide +kernel)
theorem selX0_whoSavesMost : Cond.selects mX0_whoSavesMost.1.cls mX0_whoSavesMost.1 mX0_whoSavesMost.1 ∈ aTb := aTb_priv 5 (by decide +kernel) (by decide +kernel)
theorem codX10_acts : Cond.code mX10_acts.1 mX10_acts.2.1 mX10_acts.2.2.1 mX10_acts.2.2.2.1 ∈ aTb := aTb_at 1047 (by decide +kernel) (by decide +kernel)
theorem insX10_acts : Cond.instanceMethod mX10_acts.1 ∈ aTb := aTb_at 1046 (by decide +kernel) (by decide +kernel)
theorem selX10_acts : Cond.selects mX10_acts.1.cls mX10_acts.1 mX10_acts.1 ∈ aTb := aTb_priv 39 (by decide +kernel) (by decide +kernel)
theorem codX10_alone : Cond.code mX10_alone.1 mX10_alone.2.1 mX10_alone.2.2.1 mX10_alone.2.2.2.1 ∈ aTb := aTb_at 968 (by decide +kernel) (by decide +kernel)
theorem insX10_alone : Cond.instanceMethod mX10_alone.1 ∈ aTb := aTb_at 967 (by decide +kernel) (by decide +kernel)
theorem selX10_alone : Cond.selects mX10_alone.1.cls mX10_alone.1 mX10_alone.1 ∈ aTb := aTb_priv 30 (by decide +kernel) (by decide +kernel)
theorem codX10_areNeeds : Cond.code mX10_areNeeds.1 mX10_areNeeds.2.1 mX10_areNeeds.2.2.1 mX10_areNeeds.2.2.2.1 ∈ aTb := aTb_at 1003 (by decide +kernel) (by decide +kernel)
theorem insX10_areNeeds : Cond.instanceMethod mX10_areNeeds.1 ∈ aTb := aTb_at 1002 (by decide +kernel) (by decide +kernel)
theorem selX10_areNeeds : Cond.selects mX10_areNeeds.1.cls mX10_areNeeds.1 mX10_areNeeds.1 ∈ aTb := aTb_priv 34 (by decide +kernel) (by decide +kernel)
theorem codX10_asks : Cond.code mX10_asks.1 mX10_asks.2.1 mX10_asks.2.2.1 mX10_asks.2.2.2.1 ∈ aTb := aTb_at 1072 (by decide +kernel) (by decide +kernel)
theorem insX10_asks : Cond.instanceMethod mX10_asks.1 ∈ aTb := aTb_at 1071 (by decide +kernel) (by decide +kernel)
theorem selX10_asks : Cond.selects mX10_asks.1.cls mX10_asks.1 mX10_asks.1 ∈ aTb := aTb_priv 45 (by decide +kernel) (by decide +kernel)
theorem codX10_begin : Cond.code mX10_begin.1 mX10_begin.2.1 mX10_begin.2.2.1 mX10_begin.2.2.2.1 ∈ aTb := aTb_at 1023 (by decide +kernel) (by decide +kernel)
theorem insX10_begin : Cond.instanceMethod mX10_begin.1 ∈ aTb := aTb_at 1021 (by decide +kernel) (by decide +kernel)
theorem selX10_begin : Cond.selects mX10_begin.1.cls mX10_begin.1 mX10_begin.1 ∈ aTb := aTb_at 1022 (by decide +kernel) (by decide +kernel)
theorem codX10_best : Cond.code mX10_best.1 mX10_best.2.1 mX10_best.2.2.1 mX10_best.2.2.2.1 ∈ aTb := aTb_at 1011 (by decide +kernel) (by decide +kernel)
theorem insX10_best : Cond.instanceMethod mX10_best.1 ∈ aTb := aTb_at 1009 (by decide +kernel) (by decide +kernel)
theorem selX10_best : Cond.selects mX10_best.1.cls mX10_best.1 mX10_best.1 ∈ aTb := aTb_at 1010 (by decide +kernel) (by decide +kernel)
theorem codX10_clear : Cond.code mX10_clear.1 mX10_clear.2.1 mX10_clear.2.2.1 mX10_clear.2.2.2.1 ∈ aTb := aTb_at 956 (by decide +kernel) (by decide +kernel)
theorem insX10_clear : Cond.instanceMethod mX10_clear.1 ∈ aTb := aTb_at 954 (by decide +kernel) (by decide +kernel)
theorem selX10_clear : Cond.selects mX10_clear.1.cls mX10_clear.1 mX10_clear.1 ∈ aTb := aTb_at 955 (by decide +kernel) (by decide +kernel)
theorem codX10_collects : Cond.code mX10_collects.1 mX10_collects.2.1 mX10_collects.2.2.1 mX10_collects.2.2.2.1 ∈ aTb := aTb_at 1068 (by decide +kernel) (by decide +kernel)
theorem insX10_collects : Cond.instanceMethod mX10_collects.1 ∈ aTb := aTb_at 1067 (by decide +kernel) (by decide +kernel)
theorem selX10_collects : Cond.selects mX10_collects.1.cls mX10_collects.1 mX10_collects.1 ∈ aTb := aTb_priv 44 (by decide +kernel) (by decide +kernel)
theorem codX10_cost : Cond.code mX10_cost.1 mX10_cost.2.1 mX10_cost.2.2.1 mX10_cost.2.2.2.1 ∈ aTb := aTb_at 974 (by decide +kernel) (by decide +kernel)
theorem staX10_cost : Cond.static mX10_cost.1 ∈ aTb := aTb_at 973 (by decide +kernel) (by decide +kernel)
theorem codX10_count : Cond.code mX10_count.1 mX10_count.2.1 mX10_count.2.2.1 mX10_count.2.2.2.1 ∈ aTb := aTb_at 1105 (by decide +kernel) (by decide +kernel)
theorem insX10_count : Cond.instanceMethod mX10_count.1 ∈ aTb := aTb_at 1103 (by decide +kernel) (by decide +kernel)
theorem selX10_count : Cond.selects mX10_count.1.cls mX10_count.1 mX10_count.1 ∈ aTb := aTb_at 1104 (by decide +kernel) (by decide +kernel)
theorem codX10_cut : Cond.code mX10_cut.1 mX10_cut.2.1 mX10_cut.2.2.1 mX10_cut.2.2.2.1 ∈ aTb := aTb_at 936 (by decide +kernel) (by decide +kernel)
theorem staX10_cut : Cond.static mX10_cut.1 ∈ aTb := aTb_at 935 (by decide +kernel) (by decide +kernel)
theorem codX10_deal : Cond.code mX10_deal.1 mX10_deal.2.1 mX10_deal.2.2.1 mX10_deal.2.2.2.1 ∈ aTb := aTb_at 995 (by decide +kernel) (by decide +kernel)
theorem insX10_deal : Cond.instanceMethod mX10_deal.1 ∈ aTb := aTb_at 993 (by decide +kernel) (by decide +kernel)
theorem selX10_deal : Cond.selects mX10_deal.1.cls mX10_deal.1 mX10_deal.1 ∈ aTb := aTb_at 994 (by decide +kernel) (by decide +kernel)
theorem codX10_dealt : Cond.code mX10_dealt.1 mX10_dealt.2.1 mX10_dealt.2.2.1 mX10_dealt.2.2.2.1 ∈ aTb := aTb_at 999 (by decide +kernel) (by decide +kernel)
theorem insX10_dealt : Cond.instanceMethod mX10_dealt.1 ∈ aTb := aTb_at 998 (by decide +kernel) (by decide +kernel)
theorem selX10_dealt : Cond.selects mX10_dealt.1.cls mX10_dealt.1 mX10_dealt.1 ∈ aTb := aTb_priv 33 (by decide +kernel) (by decide +kernel)
theorem codX10_falls : Cond.code mX10_falls.1 mX10_falls.2.1 mX10_falls.2.2.1 mX10_falls.2.2.2.1 ∈ aTb := aTb_at 990 (by decide +kernel) (by decide +kernel)
theorem insX10_falls : Cond.instanceMethod mX10_falls.1 ∈ aTb := aTb_at 988 (by decide +kernel) (by decide +kernel)
theorem selX10_falls : Cond.selects mX10_falls.1.cls mX10_falls.1 mX10_falls.1 ∈ aTb := aTb_at 989 (by decide +kernel) (by decide +kernel)
theorem codX10_gives : Cond.code mX10_gives.1 mX10_gives.2.1 mX10_gives.2.2.1 mX10_gives.2.2.2.1 ∈ aTb := aTb_at 1081 (by decide +kernel) (by decide +kernel)
theorem insX10_gives : Cond.instanceMethod mX10_gives.1 ∈ aTb := aTb_at 1080 (by decide +kernel) (by decide +kernel)
theorem selX10_gives : Cond.selects mX10_gives.1.cls mX10_gives.1 mX10_gives.1 ∈ aTb := aTb_priv 47 (by decide +kernel) (by decide +kernel)
theorem codX10_holds : Cond.code mX10_holds.1 mX10_holds.2.1 mX10_holds.2.2.1 mX10_holds.2.2.2.1 ∈ aTb := aTb_at 971 (by decide +kernel) (by decide +kernel)
theorem staX10_holds : Cond.static mX10_holds.1 ∈ aTb := aTb_at 970 (by decide +kernel) (by decide +kernel)
theorem codX10_in : Cond.code mX10_in.1 mX10_in.2.1 mX10_in.2.2.1 mX10_in.2.2.2.1 ∈ aTb := aTb_at 925 (by decide +kernel) (by decide +kernel)
theorem staX10_in : Cond.static mX10_in.1 ∈ aTb := aTb_at 924 (by decide +kernel) (by decide +kernel)
theorem codX10_init : Cond.code mX10_init.1 mX10_init.2.1 mX10_init.2.2.1 mX10_init.2.2.2.1 ∈ aTb := aTb_at 774 (by decide +kernel) (by decide +kernel)
theorem insX10_init : Cond.instanceMethod mX10_init.1 ∈ aTb := aTb_at 773 (by decide +kernel) (by decide +kernel)
theorem codX10_isAny : Cond.code mX10_isAny.1 mX10_isAny.2.1 mX10_isAny.2.2.1 mX10_isAny.2.2.2.1 ∈ aTb := aTb_at 1035 (by decide +kernel) (by decide +kernel)
theorem insX10_isAny : Cond.instanceMethod mX10_isAny.1 ∈ aTb := aTb_at 1034 (by decide +kernel) (by decide +kernel)
theorem selX10_isAny : Cond.selects mX10_isAny.1.cls mX10_isAny.1 mX10_isAny.1 ∈ aTb := aTb_priv 36 (by decide +kernel) (by decide +kernel)
theorem codX10_isOver : Cond.code mX10_isOver.1 mX10_isOver.2.1 mX10_isOver.2.2.1 mX10_isOver.2.2.2.1 ∈ aTb := aTb_at 1060 (by decide +kernel) (by decide +kernel)
theorem insX10_isOver : Cond.instanceMethod mX10_isOver.1 ∈ aTb := aTb_at 1059 (by decide +kernel) (by decide +kernel)
theorem selX10_isOver : Cond.selects mX10_isOver.1.cls mX10_isOver.1 mX10_isOver.1 ∈ aTb := aTb_priv 42 (by decide +kernel) (by decide +kernel)
theorem codX10_isProgram : Cond.code mX10_isProgram.1 mX10_isProgram.2.1 mX10_isProgram.2.2.1 mX10_isProgram.2.2.2.1 ∈ aTb := aTb_at 964 (by decide +kernel) (by decide +kernel)
theorem insX10_isProgram : Cond.instanceMethod mX10_isProgram.1 ∈ aTb := aTb_at 963 (by decide +kernel) (by decide +kernel)
theorem selX10_isProgram : Cond.selects mX10_isProgram.1.cls mX10_isProgram.1 mX10_isProgram.1 ∈ aTb := aTb_priv 29 (by decide +kernel) (by decide +kernel)
theorem codX10_isSlot : Cond.code mX10_isSlot.1 mX10_isSlot.2.1 mX10_isSlot.2.2.1 mX10_isSlot.2.2.2.1 ∈ aTb := aTb_at 922 (by decide +kernel) (by decide +kernel)
theorem staX10_isSlot : Cond.static mX10_isSlot.1 ∈ aTb := aTb_at 921 (by decide +kernel) (by decide +kernel)
theorem codX10_isThere : Cond.code mX10_isThere.1 mX10_isThere.2.1 mX10_isThere.2.2.1 mX10_isThere.2.2.2.1 ∈ aTb := aTb_at 1039 (by decide +kernel) (by decide +kernel)
theorem insX10_isThere : Cond.instanceMethod mX10_isThere.1 ∈ aTb := aTb_at 1038 (by decide +kernel) (by decide +kernel)
theorem selX10_isThere : Cond.selects mX10_isThere.1.cls mX10_isThere.1 mX10_isThere.1 ∈ aTb := aTb_priv 37 (by decide +kernel) (by decide +kernel)
theorem codX10_isUp : Cond.code mX10_isUp.1 mX10_isUp.2.1 mX10_isUp.2.2.1 mX10_isUp.2.2.2.1 ∈ aTb := aTb_at 1085 (by decide +kernel) (by decide +kernel)
theorem insX10_isUp : Cond.instanceMethod mX10_isUp.1 ∈ aTb := aTb_at 1084 (by decide +kernel) (by decide +kernel)
theorem selX10_isUp : Cond.selects mX10_isUp.1.cls mX10_isUp.1 mX10_isUp.1 ∈ aTb := aTb_priv 48 (by decide +kernel) (by decide +kernel)
theorem codX10_log : Cond.code mX10_log.1 mX10_log.2.1 mX10_log.2.2.1 mX10_log.2.2.2.1 ∈ aTb := aTb_at 1109 (by decide +kernel) (by decide +kernel)
theorem insX10_log : Cond.instanceMethod mX10_log.1 ∈ aTb := aTb_at 1107 (by decide +kernel) (by decide +kernel)
theorem selX10_log : Cond.selects mX10_log.1.cls mX10_log.1 mX10_log.1 ∈ aTb := aTb_at 1108 (by decide +kernel) (by decide +kernel)
theorem codX10_makes : Cond.code mX10_makes.1 mX10_makes.2.1 mX10_makes.2.2.1 mX10_makes.2.2.2.1 ∈ aTb := aTb_at 1064 (by decide +kernel) (by decide +kernel)
theorem insX10_makes : Cond.instanceMethod mX10_makes.1 ∈ aTb := aTb_at 1063 (by decide +kernel) (by decide +kernel)
theorem selX10_makes : Cond.selects mX10_makes.1.cls mX10_makes.1 mX10_makes.1 ∈ aTb := aTb_priv 43 (by decide +kernel) (by decide +kernel)
theorem codX10_need : Cond.code mX10_need.1 mX10_need.2.1 mX10_need.2.2.1 mX10_need.2.2.2.1 ∈ aTb := aTb_at 978 (by decide +kernel) (by decide +kernel)
theorem insX10_need : Cond.instanceMethod mX10_need.1 ∈ aTb := aTb_at 976 (by decide +kernel) (by decide +kernel)
theorem selX10_need : Cond.selects mX10_need.1.cls mX10_need.1 mX10_need.1 ∈ aTb := aTb_at 977 (by decide +kernel) (by decide +kernel)
theorem codX10_needOf : Cond.code mX10_needOf.1 mX10_needOf.2.1 mX10_needOf.2.2.1 mX10_needOf.2.2.2.1 ∈ aTb := aTb_at 982 (by decide +kernel) (by decide +kernel)
theorem insX10_needOf : Cond.instanceMethod mX10_needOf.1 ∈ aTb := aTb_at 981 (by decide +kernel) (by decide +kernel)
theorem selX10_needOf : Cond.selects mX10_needOf.1.cls mX10_needOf.1 mX10_needOf.1 ∈ aTb := aTb_priv 31 (by decide +kernel) (by decide +kernel)
theorem codX10_of : Cond.code mX10_of.1 mX10_of.2.1 mX10_of.2.2.1 mX10_of.2.2.2.1 ∈ aTb := aTb_at 1101 (by decide +kernel) (by decide +kernel)
theorem insX10_of : Cond.instanceMethod mX10_of.1 ∈ aTb := aTb_at 1099 (by decide +kernel) (by decide +kernel)
theorem selX10_of : Cond.selects mX10_of.1.cls mX10_of.1 mX10_of.1 ∈ aTb := aTb_at 1100 (by decide +kernel) (by decide +kernel)
theorem codX10_passes : Cond.code mX10_passes.1 mX10_passes.2.1 mX10_passes.2.2.1 mX10_passes.2.2.2.1 ∈ aTb := aTb_at 1051 (by decide +kernel) (by decide +kernel)
theorem insX10_passes : Cond.instanceMethod mX10_passes.1 ∈ aTb := aTb_at 1050 (by decide +kernel) (by decide +kernel)
theorem selX10_passes : Cond.selects mX10_passes.1.cls mX10_passes.1 mX10_passes.1 ∈ aTb := aTb_priv 40 (by decide +kernel) (by decide +kernel)
theorem codX10_paste : Cond.code mX10_paste.1 mX10_paste.2.1 mX10_paste.2.2.1 mX10_paste.2.2.2.1 ∈ aTb := aTb_at 940 (by decide +kernel) (by decide +kernel)
theorem insX10_paste : Cond.instanceMethod mX10_paste.1 ∈ aTb := aTb_at 938 (by decide +kernel) (by decide +kernel)
theorem selX10_paste : Cond.selects mX10_paste.1.cls mX10_paste.1 mX10_paste.1 ∈ aTb := aTb_at 939 (by decide +kernel) (by decide +kernel)
theorem codX10_program : Cond.code mX10_program.1 mX10_program.2.1 mX10_program.2.2.1 mX10_program.2.2.2.1 ∈ aTb := aTb_at 948 (by decide +kernel) (by decide +kernel)
theorem insX10_program : Cond.instanceMethod mX10_program.1 ∈ aTb := aTb_at 946 (by decide +kernel) (by decide +kernel)
theorem selX10_program : Cond.selects mX10_program.1.cls mX10_program.1 mX10_program.1 ∈ aTb := aTb_at 947 (by decide +kernel) (by decide +kernel)
theorem codX10_redeals : Cond.code mX10_redeals.1 mX10_redeals.2.1 mX10_redeals.2.2.1 mX10_redeals.2.2.2.1 ∈ aTb := aTb_at 1089 (by decide +kernel) (by decide +kernel)
theorem insX10_redeals : Cond.instanceMethod mX10_redeals.1 ∈ aTb := aTb_at 1088 (by decide +kernel) (by decide +kernel)
theorem selX10_redeals : Cond.selects mX10_redeals.1.cls mX10_redeals.1 mX10_redeals.1 ∈ aTb := aTb_priv 49 (by decide +kernel) (by decide +kernel)
theorem codX10_row : Cond.code mX10_row.1 mX10_row.2.1 mX10_row.2.2.1 mX10_row.2.2.2.1 ∈ aTb := aTb_at 919 (by decide +kernel) (by decide +kernel)
theorem insX10_row : Cond.instanceMethod mX10_row.1 ∈ aTb := aTb_at 917 (by decide +kernel) (by decide +kernel)
theorem selX10_row : Cond.selects mX10_row.1.cls mX10_row.1 mX10_row.1 ∈ aTb := aTb_at 918 (by decide +kernel) (by decide +kernel)
theorem codX10_run : Cond.code mX10_run.1 mX10_run.2.1 mX10_run.2.2.1 mX10_run.2.2.2.1 ∈ aTb := aTb_at 1031 (by decide +kernel) (by decide +kernel)
theorem insX10_run : Cond.instanceMethod mX10_run.1 ∈ aTb := aTb_at 1029 (by decide +kernel) (by decide +kernel)
theorem selX10_run : Cond.selects mX10_run.1.cls mX10_run.1 mX10_run.1 ∈ aTb := aTb_at 1030 (by decide +kernel) (by decide +kernel)
theorem codX10_s : Cond.code mX10_s.1 mX10_s.2.1 mX10_s.2.2.1 mX10_s.2.2.2.1 ∈ aTb := aTb_at 1097 (by decide +kernel) (by decide +kernel)
theorem insX10_s : Cond.instanceMethod mX10_s.1 ∈ aTb := aTb_at 1096 (by decide +kernel) (by decide +kernel)
theorem selX10_s : Cond.selects mX10_s.1.cls mX10_s.1 mX10_s.1 ∈ aTb := aTb_priv 51 (by decide +kernel) (by decide +kernel)
theorem codX10_share : Cond.code mX10_share.1 mX10_share.2.1 mX10_share.2.2.1 mX10_share.2.2.2.1 ∈ aTb := aTb_at 1019 (by decide +kernel) (by decide +kernel)
theorem insX10_share : Cond.instanceMethod mX10_share.1 ∈ aTb := aTb_at 1017 (by decide +kernel) (by decide +kernel)
theorem selX10_share : Cond.selects mX10_share.1.cls mX10_share.1 mX10_share.1 ∈ aTb := aTb_at 1018 (by decide +kernel) (by decide +kernel)
theorem codX10_spare : Cond.code mX10_spare.1 mX10_spare.2.1 mX10_spare.2.2.1 mX10_spare.2.2.2.1 ∈ aTb := aTb_at 1076 (by decide +kernel) (by decide +kernel)
theorem insX10_spare : Cond.instanceMethod mX10_spare.1 ∈ aTb := aTb_at 1075 (by decide +kernel) (by decide +kernel)
theorem selX10_spare : Cond.selects mX10_spare.1.cls mX10_spare.1 mX10_spare.1 ∈ aTb := aTb_priv 46 (by decide +kernel) (by decide +kernel)
theorem codX10_stop : Cond.code mX10_stop.1 mX10_stop.2.1 mX10_stop.2.2.1 mX10_stop.2.2.2.1 ∈ aTb := aTb_at 1027 (by decide +kernel) (by decide +kernel)
theorem insX10_stop : Cond.instanceMethod mX10_stop.1 ∈ aTb := aTb_at 1025 (by decide +kernel) (by decide +kernel)
theorem selX10_stop : Cond.selects mX10_stop.1.cls mX10_stop.1 mX10_stop.1 ∈ aTb := aTb_at 1026 (by decide +kernel) (by decide +kernel)
theorem codX10_sum : Cond.code mX10_sum.1 mX10_sum.2.1 mX10_sum.2.2.1 mX10_sum.2.2.2.1 ∈ aTb := aTb_at 1007 (by decide +kernel) (by decide +kernel)
theorem insX10_sum : Cond.instanceMethod mX10_sum.1 ∈ aTb := aTb_at 1006 (by decide +kernel) (by decide +kernel)
theorem selX10_sum : Cond.selects mX10_sum.1.cls mX10_sum.1 mX10_sum.1 ∈ aTb := aTb_priv 35 (by decide +kernel) (by decide +kernel)
theorem codX10_swung : Cond.code mX10_swung.1 mX10_swung.2.1 mX10_swung.2.2.1 mX10_swung.2.2.2.1 ∈ aTb := aTb_at 1093 (by decide +kernel) (by decide +kernel)
theorem insX10_swung : Cond.instanceMethod mX10_swung.1 ∈ aTb := aTb_at 1092 (by decide +kernel) (by decide +kernel)
theorem selX10_swung : Cond.selects mX10_swung.1.cls mX10_swung.1 mX10_swung.1 ∈ aTb := aTb_priv 50 (by decide +kernel) (by decide +kernel)
theorem codX10_tear : Cond.code mX10_tear.1 mX10_tear.2.1 mX10_tear.2.2.1 mX10_tear.2.2.2.1 ∈ aTb := aTb_at 929 (by decide +kernel) (by decide +kernel)
theorem insX10_tear : Cond.instanceMethod mX10_tear.1 ∈ aTb := aTb_at 927 (by decide +kernel) (by decide +kernel)
theorem selX10_tear : Cond.selects mX10_tear.1.cls mX10_tear.1 mX10_tear.1 ∈ aTb := aTb_at 928 (by decide +kernel) (by decide +kernel)
theorem codX10_tells : Cond.code mX10_tells.1 mX10_tells.2.1 mX10_tells.2.2.1 mX10_tells.2.2.2.1 ∈ aTb := aTb_at 1056 (by decide +kernel) (by decide +kernel)
theorem insX10_tells : Cond.instanceMethod mX10_tells.1 ∈ aTb := aTb_at 1055 (by decide +kernel) (by decide +kernel)
theorem selX10_tells : Cond.selects mX10_tells.1.cls mX10_tells.1 mX10_tells.1 ∈ aTb := aTb_priv 41 (by decide +kernel) (by decide +kernel)
theorem codX10_terms : Cond.code mX10_terms.1 mX10_terms.2.1 mX10_terms.2.2.1 mX10_terms.2.2.2.1 ∈ aTb := aTb_at 944 (by decide +kernel) (by decide +kernel)
theorem insX10_terms : Cond.instanceMethod mX10_terms.1 ∈ aTb := aTb_at 942 (by decide +kernel) (by decide +kernel)
theorem selX10_terms : Cond.selects mX10_terms.1.cls mX10_terms.1 mX10_terms.1 ∈ aTb := aTb_at 943 (by decide +kernel) (by decide +kernel)
theorem codX10_ticks : Cond.code mX10_ticks.1 mX10_ticks.2.1 mX10_ticks.2.2.1 mX10_ticks.2.2.2.1 ∈ aTb := aTb_at 1043 (by decide +kernel) (by decide +kernel)
theorem insX10_ticks : Cond.instanceMethod mX10_ticks.1 ∈ aTb := aTb_at 1042 (by decide +kernel) (by decide +kernel)
theorem selX10_ticks : Cond.selects mX10_ticks.1.cls mX10_ticks.1 mX10_ticks.1 ∈ aTb := aTb_priv 38 (by decide +kernel) (by decide +kernel)
theorem codX10_time : Cond.code mX10_time.1 mX10_time.2.1 mX10_time.2.2.1 mX10_time.2.2.2.1 ∈ aTb := aTb_at 960 (by decide +kernel) (by decide +kernel)
theorem insX10_time : Cond.instanceMethod mX10_time.1 ∈ aTb := aTb_at 958 (by decide +kernel) (by decide +kernel)
theorem selX10_time : Cond.selects mX10_time.1.cls mX10_time.1 mX10_time.1 ∈ aTb := aTb_at 959 (by decide +kernel) (by decide +kernel)
theorem codX10_up : Cond.code mX10_up.1 mX10_up.2.1 mX10_up.2.2.1 mX10_up.2.2.2.1 ∈ aTb := aTb_at 986 (by decide +kernel) (by decide +kernel)
theorem insX10_up : Cond.instanceMethod mX10_up.1 ∈ aTb := aTb_at 985 (by decide +kernel) (by decide +kernel)
theorem selX10_up : Cond.selects mX10_up.1.cls mX10_up.1 mX10_up.1 ∈ aTb := aTb_priv 32 (by decide +kernel) (by decide +kernel)
theorem codX10_write : Cond.code mX10_write.1 mX10_write.2.1 mX10_write.2.2.1 mX10_write.2.2.2.1 ∈ aTb := aTb_at 933 (by decide +kernel) (by decide +kernel)
theorem insX10_write : Cond.instanceMethod mX10_write.1 ∈ aTb := aTb_at 931 (by decide +kernel) (by decide +kernel)
theorem selX10_write : Cond.selects mX10_write.1.cls mX10_write.1 mX10_write.1 ∈ aTb := aTb_at 932 (by decide +kernel) (by decide +kernel)
theorem codX1_become : Cond.code mX1_become.1 mX1_become.2.1 mX1_become.2.2.1 mX1_become.2.2.2.1 ∈ aTb := aTb_at 418 (by decide +kernel) (by decide +kernel)
theorem insX1_become : Cond.instanceMethod mX1_become.1 ∈ aTb := aTb_at 416 (by decide +kernel) (by decide +kernel)
theorem selX1_become : Cond.selects mX1_become.1.cls mX1_become.1 mX1_become.1 ∈ aTb := aTb_at 417 (by decide +kernel) (by decide +kernel)
theorem codX1_costToCollect : Cond.code mX1_costToCollect.1 mX1_costToCollect.2.1 mX1_costToCollect.2.2.1 mX1_costToCollect.2.2.2.1 ∈ aTb := aTb_at 468 (by decide +kernel) (by decide +kernel)
theorem insX1_costToCollect : Cond.instanceMethod mX1_costToCollect.1 ∈ aTb := aTb_at 466 (by decide +kernel) (by decide +kernel)
theorem selX1_costToCollect : Cond.selects mX1_costToCollect.1.cls mX1_costToCollect.1 mX1_costToCollect.1 ∈ aTb := aTb_at 467 (by decide +kernel) (by decide +kernel)
theorem codX1_fallsEverSlower : Cond.code mX1_fallsEverSlower.1 mX1_fallsEverSlower.2.1 mX1_fallsEverSlower.2.2.1 mX1_fallsEverSlower.2.2.2.1 ∈ aTb := aTb_at 505 (by decide +kernel) (by decide +kernel)
theorem insX1_fallsEverSlower : Cond.instanceMethod mX1_fallsEverSlower.1 ∈ aTb := aTb_at 503 (by decide +kernel) (by decide +kernel)
theorem selX1_fallsEverSlower : Cond.selects mX1_fallsEverSlower.1.cls mX1_fallsEverSlower.1 mX1_fallsEverSlower.1 ∈ aTb := aTb_at 504 (by decide +kernel) (by decide +kernel)
theorem codX1_holds : Cond.code mX1_holds.1 mX1_holds.2.1 mX1_holds.2.2.1 mX1_holds.2.2.2.1 ∈ aTb := aTb_at 449 (by decide +kernel) (by decide +kernel)
theorem insX1_holds : Cond.instanceMethod mX1_holds.1 ∈ aTb := aTb_at 447 (by decide +kernel) (by decide +kernel)
theorem selX1_holds : Cond.selects mX1_holds.1.cls mX1_holds.1 mX1_holds.1 ∈ aTb := aTb_at 448 (by decide +kernel) (by decide +kernel)
theorem codX1_init : Cond.code mX1_init.1 mX1_init.2.1 mX1_init.2.2.1 mX1_init.2.2.2.1 ∈ aTb := aTb_at 50 (by decide +kernel) (by decide +kernel)
theorem insX1_init : Cond.instanceMethod mX1_init.1 ∈ aTb := aTb_at 49 (by decide +kernel) (by decide +kernel)
theorem codX1_isMake : Cond.code mX1_isMake.1 mX1_isMake.2.1 mX1_isMake.2.2.1 mX1_isMake.2.2.2.1 ∈ aTb := aTb_at 460 (by decide +kernel) (by decide +kernel)
theorem staX1_isMake : Cond.static mX1_isMake.1 ∈ aTb := aTb_at 459 (by decide +kernel) (by decide +kernel)
theorem codX1_roomFor : Cond.code mX1_roomFor.1 mX1_roomFor.2.1 mX1_roomFor.2.2.1 mX1_roomFor.2.2.2.1 ∈ aTb := aTb_at 635 (by decide +kernel) (by decide +kernel)
theorem insX1_roomFor : Cond.instanceMethod mX1_roomFor.1 ∈ aTb := aTb_at 633 (by decide +kernel) (by decide +kernel)
theorem selX1_roomFor : Cond.selects mX1_roomFor.1.cls mX1_roomFor.1 mX1_roomFor.1 ∈ aTb := aTb_at 634 (by decide +kernel) (by decide +kernel)
theorem codX2_cellsOfStep : Cond.code mX2_cellsOfStep.1 mX2_cellsOfStep.2.1 mX2_cellsOfStep.2.2.1 mX2_cellsOfStep.2.2.2.1 ∈ aTb := aTb_at 729 (by decide +kernel) (by decide +kernel)
theorem insX2_cellsOfStep : Cond.instanceMethod mX2_cellsOfStep.1 ∈ aTb := aTb_at 728 (by decide +kernel) (by decide +kernel)
theorem selX2_cellsOfStep : Cond.selects mX2_cellsOfStep.1.cls mX2_cellsOfStep.1 mX2_cellsOfStep.1 ∈ aTb := aTb_priv 26 (by decide +kernel) (by decide +kernel)
theorem codX2_collectNow : Cond.code mX2_collectNow.1 mX2_collectNow.2.1 mX2_collectNow.2.2.1 mX2_collectNow.2.2.2.1 ∈ aTb := aTb_at 618 (by decide +kernel) (by decide +kernel)
theorem insX2_collectNow : Cond.instanceMethod mX2_collectNow.1 ∈ aTb := aTb_at 616 (by decide +kernel) (by decide +kernel)
theorem selX2_collectNow : Cond.selects mX2_collectNow.1.cls mX2_collectNow.1 mX2_collectNow.1 ∈ aTb := aTb_at 617 (by decide +kernel) (by decide +kernel)
theorem codX2_endRound : Cond.code mX2_endRound.1 mX2_endRound.2.1 mX2_endRound.2.2.1 mX2_endRound.2.2.2.1 ∈ aTb := aTb_at 687 (by decide +kernel) (by decide +kernel)
theorem insX2_endRound : Cond.instanceMethod mX2_endRound.1 ∈ aTb := aTb_at 685 (by decide +kernel) (by decide +kernel)
theorem selX2_endRound : Cond.selects mX2_endRound.1.cls mX2_endRound.1 mX2_endRound.1 ∈ aTb := aTb_at 686 (by decide +kernel) (by decide +kernel)
theorem codX2_fits : Cond.code mX2_fits.1 mX2_fits.2.1 mX2_fits.2.2.1 mX2_fits.2.2.2.1 ∈ aTb := aTb_at 609 (by decide +kernel) (by decide +kernel)
theorem insX2_fits : Cond.instanceMethod mX2_fits.1 ∈ aTb := aTb_at 607 (by decide +kernel) (by decide +kernel)
theorem selX2_fits : Cond.selects mX2_fits.1.cls mX2_fits.1 mX2_fits.1 ∈ aTb := aTb_at 608 (by decide +kernel) (by decide +kernel)
theorem codX2_gain : Cond.code mX2_gain.1 mX2_gain.2.1 mX2_gain.2.2.1 mX2_gain.2.2.2.1 ∈ aTb := aTb_at 721 (by decide +kernel) (by decide +kernel)
theorem insX2_gain : Cond.instanceMethod mX2_gain.1 ∈ aTb := aTb_at 719 (by decide +kernel) (by decide +kernel)
theorem selX2_gain : Cond.selects mX2_gain.1.cls mX2_gain.1 mX2_gain.1 ∈ aTb := aTb_at 720 (by decide +kernel) (by decide +kernel)
theorem codX2_goesOn : Cond.code mX2_goesOn.1 mX2_goesOn.2.1 mX2_goesOn.2.2.1 mX2_goesOn.2.2.2.1 ∈ aTb := aTb_at 587 (by decide +kernel) (by decide +kernel)
theorem insX2_goesOn : Cond.instanceMethod mX2_goesOn.1 ∈ aTb := aTb_at 585 (by decide +kernel) (by decide +kernel)
theorem selX2_goesOn : Cond.selects mX2_goesOn.1.cls mX2_goesOn.1 mX2_goesOn.1 ∈ aTb := aTb_at 586 (by decide +kernel) (by decide +kernel)
theorem codX2_init : Cond.code mX2_init.1 mX2_init.2.1 mX2_init.2.2.1 mX2_init.2.2.2.1 ∈ aTb := aTb_at 233 (by decide +kernel) (by decide +kernel)
theorem insX2_init : Cond.instanceMethod mX2_init.1 ∈ aTb := aTb_at 232 (by decide +kernel) (by decide +kernel)
theorem codX2_isAboutToMake : Cond.code mX2_isAboutToMake.1 mX2_isAboutToMake.2.1 mX2_isAboutToMake.2.2.1 mX2_isAboutToMake.2.2.2.1 ∈ aTb := aTb_at 595 (by decide +kernel) (by decide +kernel)
theorem insX2_isAboutToMake : Cond.instanceMethod mX2_isAboutToMake.1 ∈ aTb := aTb_at 593 (by decide +kernel) (by decide +kernel)
theorem selX2_isAboutToMake : Cond.selects mX2_isAboutToMake.1.cls mX2_isAboutToMake.1 mX2_isAboutToMake.1 ∈ aTb := aTb_at 594 (by decide +kernel) (by decide +kernel)
theorem codX2_isAwake : Cond.code mX2_isAwake.1 mX2_isAwake.2.1 mX2_isAwake.2.2.1 mX2_isAwake.2.2.2.1 ∈ aTb := aTb_at 725 (by decide +kernel) (by decide +kernel)
theorem insX2_isAwake : Cond.instanceMethod mX2_isAwake.1 ∈ aTb := aTb_at 723 (by decide +kernel) (by decide +kernel)
theorem selX2_isAwake : Cond.selects mX2_isAwake.1.cls mX2_isAwake.1 mX2_isAwake.1 ∈ aTb := aTb_at 724 (by decide +kernel) (by decide +kernel)
theorem codX2_keep : Cond.code mX2_keep.1 mX2_keep.2.1 mX2_keep.2.2.1 mX2_keep.2.2.2.1 ∈ aTb := aTb_at 649 (by decide +kernel) (by decide +kernel)
theorem insX2_keep : Cond.instanceMethod mX2_keep.1 ∈ aTb := aTb_at 647 (by decide +kernel) (by decide +kernel)
theorem selX2_keep : Cond.selects mX2_keep.1.cls mX2_keep.1 mX2_keep.1 ∈ aTb := aTb_at 648 (by decide +kernel) (by decide +kernel)
theorem codX2_leave : Cond.code mX2_leave.1 mX2_leave.2.1 mX2_leave.2.2.1 mX2_leave.2.2.2.1 ∈ aTb := aTb_at 674 (by decide +kernel) (by decide +kernel)
theorem insX2_leave : Cond.instanceMethod mX2_leave.1 ∈ aTb := aTb_at 672 (by decide +kernel) (by decide +kernel)
theorem selX2_leave : Cond.selects mX2_leave.1.cls mX2_leave.1 mX2_leave.1 ∈ aTb := aTb_at 673 (by decide +kernel) (by decide +kernel)
theorem codX2_loss : Cond.code mX2_loss.1 mX2_loss.2.1 mX2_loss.2.2.1 mX2_loss.2.2.2.1 ∈ aTb := aTb_at 738 (by decide +kernel) (by decide +kernel)
theorem insX2_loss : Cond.instanceMethod mX2_loss.1 ∈ aTb := aTb_at 736 (by decide +kernel) (by decide +kernel)
theorem selX2_loss : Cond.selects mX2_loss.1.cls mX2_loss.1 mX2_loss.1 ∈ aTb := aTb_at 737 (by decide +kernel) (by decide +kernel)
theorem codX2_makeNow : Cond.code mX2_makeNow.1 mX2_makeNow.2.1 mX2_makeNow.2.2.1 mX2_makeNow.2.2.2.1 ∈ aTb := aTb_at 678 (by decide +kernel) (by decide +kernel)
theorem insX2_makeNow : Cond.instanceMethod mX2_makeNow.1 ∈ aTb := aTb_at 676 (by decide +kernel) (by decide +kernel)
theorem selX2_makeNow : Cond.selects mX2_makeNow.1.cls mX2_makeNow.1 mX2_makeNow.1 ∈ aTb := aTb_at 677 (by decide +kernel) (by decide +kernel)
theorem codX2_nextAct : Cond.code mX2_nextAct.1 mX2_nextAct.2.1 mX2_nextAct.2.2.1 mX2_nextAct.2.2.2.1 ∈ aTb := aTb_at 599 (by decide +kernel) (by decide +kernel)
theorem insX2_nextAct : Cond.instanceMethod mX2_nextAct.1 ∈ aTb := aTb_at 597 (by decide +kernel) (by decide +kernel)
theorem selX2_nextAct : Cond.selects mX2_nextAct.1.cls mX2_nextAct.1 mX2_nextAct.1 ∈ aTb := aTb_at 598 (by decide +kernel) (by decide +kernel)
theorem codX2_spare : Cond.code mX2_spare.1 mX2_spare.2.1 mX2_spare.2.2.1 mX2_spare.2.2.2.1 ∈ aTb := aTb_at 644 (by decide +kernel) (by decide +kernel)
theorem insX2_spare : Cond.instanceMethod mX2_spare.1 ∈ aTb := aTb_at 642 (by decide +kernel) (by decide +kernel)
theorem selX2_spare : Cond.selects mX2_spare.1.cls mX2_spare.1 mX2_spare.1 ∈ aTb := aTb_at 643 (by decide +kernel) (by decide +kernel)
theorem codX2_start : Cond.code mX2_start.1 mX2_start.2.1 mX2_start.2.2.1 mX2_start.2.2.2.1 ∈ aTb := aTb_at 570 (by decide +kernel) (by decide +kernel)
theorem insX2_start : Cond.instanceMethod mX2_start.1 ∈ aTb := aTb_at 568 (by decide +kernel) (by decide +kernel)
theorem selX2_start : Cond.selects mX2_start.1.cls mX2_start.1 mX2_start.1 ∈ aTb := aTb_at 569 (by decide +kernel) (by decide +kernel)
theorem codX2_told : Cond.code mX2_told.1 mX2_told.2.1 mX2_told.2.2.1 mX2_told.2.2.2.1 ∈ aTb := aTb_at 747 (by decide +kernel) (by decide +kernel)
theorem insX2_told : Cond.instanceMethod mX2_told.1 ∈ aTb := aTb_at 745 (by decide +kernel) (by decide +kernel)
theorem selX2_told : Cond.selects mX2_told.1.cls mX2_told.1 mX2_told.1 ∈ aTb := aTb_at 746 (by decide +kernel) (by decide +kernel)
theorem codX2_waitFor : Cond.code mX2_waitFor.1 mX2_waitFor.2.1 mX2_waitFor.2.2.1 mX2_waitFor.2.2.2.1 ∈ aTb := aTb_at 627 (by decide +kernel) (by decide +kernel)
theorem insX2_waitFor : Cond.instanceMethod mX2_waitFor.1 ∈ aTb := aTb_at 625 (by decide +kernel) (by decide +kernel)
theorem selX2_waitFor : Cond.selects mX2_waitFor.1.cls mX2_waitFor.1 mX2_waitFor.1 ∈ aTb := aTb_at 626 (by decide +kernel) (by decide +kernel)
theorem codX3_cut : Cond.code mX3_cut.1 mX3_cut.2.1 mX3_cut.2.2.1 mX3_cut.2.2.2.1 ∈ aTb := aTb_at 381 (by decide +kernel) (by decide +kernel)
theorem insX3_cut : Cond.instanceMethod mX3_cut.1 ∈ aTb := aTb_at 379 (by decide +kernel) (by decide +kernel)
theorem selX3_cut : Cond.selects mX3_cut.1.cls mX3_cut.1 mX3_cut.1 ∈ aTb := aTb_at 380 (by decide +kernel) (by decide +kernel)
theorem codX3_hasPlaces : Cond.code mX3_hasPlaces.1 mX3_hasPlaces.2.1 mX3_hasPlaces.2.2.1 mX3_hasPlaces.2.2.2.1 ∈ aTb := aTb_at 389 (by decide +kernel) (by decide +kernel)
theorem insX3_hasPlaces : Cond.instanceMethod mX3_hasPlaces.1 ∈ aTb := aTb_at 387 (by decide +kernel) (by decide +kernel)
theorem selX3_hasPlaces : Cond.selects mX3_hasPlaces.1.cls mX3_hasPlaces.1 mX3_hasPlaces.1 ∈ aTb := aTb_at 388 (by decide +kernel) (by decide +kernel)
theorem codX3_holdsActsAlone : Cond.code mX3_holdsActsAlone.1 mX3_holdsActsAlone.2.1 mX3_holdsActsAlone.2.2.1 mX3_holdsActsAlone.2.2.2.1 ∈ aTb := aTb_at 407 (by decide +kernel) (by decide +kernel)
theorem insX3_holdsActsAlone : Cond.instanceMethod mX3_holdsActsAlone.1 ∈ aTb := aTb_at 405 (by decide +kernel) (by decide +kernel)
theorem selX3_holdsActsAlone : Cond.selects mX3_holdsActsAlone.1.cls mX3_holdsActsAlone.1 mX3_holdsActsAlone.1 ∈ aTb := aTb_at 406 (by decide +kernel) (by decide +kernel)
theorem codX3_init : Cond.code mX3_init.1 mX3_init.2.1 mX3_init.2.2.1 mX3_init.2.2.2.1 ∈ aTb := aTb_at 27 (by decide +kernel) (by decide +kernel)
theorem insX3_init : Cond.instanceMethod mX3_init.1 ∈ aTb := aTb_at 26 (by decide +kernel) (by decide +kernel)
theorem codX3_isAct : Cond.code mX3_isAct.1 mX3_isAct.2.1 mX3_isAct.2.2.1 mX3_isAct.2.2.2.1 ∈ aTb := aTb_at 410 (by decide +kernel) (by decide +kernel)
theorem staX3_isAct : Cond.static mX3_isAct.1 ∈ aTb := aTb_at 409 (by decide +kernel) (by decide +kernel)
theorem codX3_isBare : Cond.code mX3_isBare.1 mX3_isBare.2.1 mX3_isBare.2.2.1 mX3_isBare.2.2.2.1 ∈ aTb := aTb_at 369 (by decide +kernel) (by decide +kernel)
theorem insX3_isBare : Cond.instanceMethod mX3_isBare.1 ∈ aTb := aTb_at 367 (by decide +kernel) (by decide +kernel)
theorem selX3_isBare : Cond.selects mX3_isBare.1.cls mX3_isBare.1 mX3_isBare.1 ∈ aTb := aTb_at 368 (by decide +kernel) (by decide +kernel)
theorem codX3_lay : Cond.code mX3_lay.1 mX3_lay.2.1 mX3_lay.2.2.1 mX3_lay.2.2.2.1 ∈ aTb := aTb_at 361 (by decide +kernel) (by decide +kernel)
theorem insX3_lay : Cond.instanceMethod mX3_lay.1 ∈ aTb := aTb_at 359 (by decide +kernel) (by decide +kernel)
theorem selX3_lay : Cond.selects mX3_lay.1.cls mX3_lay.1 mX3_lay.1 ∈ aTb := aTb_at 360 (by decide +kernel) (by decide +kernel)
theorem codX3_strip : Cond.code mX3_strip.1 mX3_strip.2.1 mX3_strip.2.2.1 mX3_strip.2.2.2.1 ∈ aTb := aTb_at 373 (by decide +kernel) (by decide +kernel)
theorem insX3_strip : Cond.instanceMethod mX3_strip.1 ∈ aTb := aTb_at 371 (by decide +kernel) (by decide +kernel)
theorem selX3_strip : Cond.selects mX3_strip.1.cls mX3_strip.1 mX3_strip.1 ∈ aTb := aTb_at 372 (by decide +kernel) (by decide +kernel)
theorem codX4_add : Cond.code mX4_add.1 mX4_add.2.1 mX4_add.2.2.1 mX4_add.2.2.2.1 ∈ aTb := aTb_at 623 (by decide +kernel) (by decide +kernel)
theorem insX4_add : Cond.instanceMethod mX4_add.1 ∈ aTb := aTb_at 621 (by decide +kernel) (by decide +kernel)
theorem selX4_add : Cond.selects mX4_add.1.cls mX4_add.1 mX4_add.1 ∈ aTb := aTb_at 622 (by decide +kernel) (by decide +kernel)
theorem codX4_forget : Cond.code mX4_forget.1 mX4_forget.2.1 mX4_forget.2.2.1 mX4_forget.2.2.2.1 ∈ aTb := aTb_at 566 (by decide +kernel) (by decide +kernel)
theorem insX4_forget : Cond.instanceMethod mX4_forget.1 ∈ aTb := aTb_at 564 (by decide +kernel) (by decide +kernel)
theorem selX4_forget : Cond.selects mX4_forget.1.cls mX4_forget.1 mX4_forget.1 ∈ aTb := aTb_at 565 (by decide +kernel) (by decide +kernel)
theorem codX4_init : Cond.code mX4_init.1 mX4_init.2.1 mX4_init.2.2.1 mX4_init.2.2.2.1 ∈ aTb := aTb_at 209 (by decide +kernel) (by decide +kernel)
theorem insX4_init : Cond.instanceMethod mX4_init.1 ∈ aTb := aTb_at 208 (by decide +kernel) (by decide +kernel)
theorem codX4_kept : Cond.code mX4_kept.1 mX4_kept.2.1 mX4_kept.2.2.1 mX4_kept.2.2.2.1 ∈ aTb := aTb_at 755 (by decide +kernel) (by decide +kernel)
theorem insX4_kept : Cond.instanceMethod mX4_kept.1 ∈ aTb := aTb_at 753 (by decide +kernel) (by decide +kernel)
theorem selX4_kept : Cond.selects mX4_kept.1.cls mX4_kept.1 mX4_kept.1 ∈ aTb := aTb_at 754 (by decide +kernel) (by decide +kernel)
theorem codX4_told : Cond.code mX4_told.1 mX4_told.2.1 mX4_told.2.2.1 mX4_told.2.2.2.1 ∈ aTb := aTb_at 768 (by decide +kernel) (by decide +kernel)
theorem insX4_told : Cond.instanceMethod mX4_told.1 ∈ aTb := aTb_at 766 (by decide +kernel) (by decide +kernel)
theorem selX4_told : Cond.selects mX4_told.1.cls mX4_told.1 mX4_told.1 ∈ aTb := aTb_at 767 (by decide +kernel) (by decide +kernel)
theorem codX5_allSteps : Cond.code mX5_allSteps.1 mX5_allSteps.2.1 mX5_allSteps.2.2.1 mX5_allSteps.2.2.2.1 ∈ aTb := aTb_at 492 (by decide +kernel) (by decide +kernel)
theorem insX5_allSteps : Cond.instanceMethod mX5_allSteps.1 ∈ aTb := aTb_at 490 (by decide +kernel) (by decide +kernel)
theorem selX5_allSteps : Cond.selects mX5_allSteps.1.cls mX5_allSteps.1 mX5_allSteps.1 ∈ aTb := aTb_at 491 (by decide +kernel) (by decide +kernel)
theorem codX5_areSound : Cond.code mX5_areSound.1 mX5_areSound.2.1 mX5_areSound.2.2.1 mX5_areSound.2.2.2.1 ∈ aTb := aTb_at 399 (by decide +kernel) (by decide +kernel)
theorem staX5_areSound : Cond.static mX5_areSound.1 ∈ aTb := aTb_at 398 (by decide +kernel) (by decide +kernel)
theorem codX5_dealtSteps : Cond.code mX5_dealtSteps.1 mX5_dealtSteps.2.1 mX5_dealtSteps.2.2.1 mX5_dealtSteps.2.2.2.1 ∈ aTb := aTb_at 518 (by decide +kernel) (by decide +kernel)
theorem insX5_dealtSteps : Cond.instanceMethod mX5_dealtSteps.1 ∈ aTb := aTb_at 516 (by decide +kernel) (by decide +kernel)
theorem selX5_dealtSteps : Cond.selects mX5_dealtSteps.1.cls mX5_dealtSteps.1 mX5_dealtSteps.1 ∈ aTb := aTb_at 517 (by decide +kernel) (by decide +kernel)
theorem codX5_init : Cond.code mX5_init.1 mX5_init.2.1 mX5_init.2.2.1 mX5_init.2.2.2.1 ∈ aTb := aTb_at 92 (by decide +kernel) (by decide +kernel)
theorem insX5_init : Cond.instanceMethod mX5_init.1 ∈ aTb := aTb_at 91 (by decide +kernel) (by decide +kernel)
theorem codX5_stepsFor : Cond.code mX5_stepsFor.1 mX5_stepsFor.2.1 mX5_stepsFor.2.2.1 mX5_stepsFor.2.2.2.1 ∈ aTb := aTb_at 496 (by decide +kernel) (by decide +kernel)
theorem insX5_stepsFor : Cond.instanceMethod mX5_stepsFor.1 ∈ aTb := aTb_at 494 (by decide +kernel) (by decide +kernel)
theorem selX5_stepsFor : Cond.selects mX5_stepsFor.1.cls mX5_stepsFor.1 mX5_stepsFor.1 ∈ aTb := aTb_at 495 (by decide +kernel) (by decide +kernel)
theorem codX6_add : Cond.code mX6_add.1 mX6_add.2.1 mX6_add.2.2.1 mX6_add.2.2.2.1 ∈ aTb := aTb_at 472 (by decide +kernel) (by decide +kernel)
theorem insX6_add : Cond.instanceMethod mX6_add.1 ∈ aTb := aTb_at 470 (by decide +kernel) (by decide +kernel)
theorem selX6_add : Cond.selects mX6_add.1.cls mX6_add.1 mX6_add.1 ∈ aTb := aTb_at 471 (by decide +kernel) (by decide +kernel)
theorem codX6_die : Cond.code mX6_die.1 mX6_die.2.1 mX6_die.2.2.1 mX6_die.2.2.2.1 ∈ aTb := aTb_at 457 (by decide +kernel) (by decide +kernel)
theorem insX6_die : Cond.instanceMethod mX6_die.1 ∈ aTb := aTb_at 455 (by decide +kernel) (by decide +kernel)
theorem selX6_die : Cond.selects mX6_die.1.cls mX6_die.1 mX6_die.1 ∈ aTb := aTb_at 456 (by decide +kernel) (by decide +kernel)
theorem codX6_forget : Cond.code mX6_forget.1 mX6_forget.2.1 mX6_forget.2.2.1 mX6_forget.2.2.2.1 ∈ aTb := aTb_at 445 (by decide +kernel) (by decide +kernel)
theorem insX6_forget : Cond.instanceMethod mX6_forget.1 ∈ aTb := aTb_at 443 (by decide +kernel) (by decide +kernel)
theorem selX6_forget : Cond.selects mX6_forget.1.cls mX6_forget.1 mX6_forget.1 ∈ aTb := aTb_at 444 (by decide +kernel) (by decide +kernel)
theorem codX6_init : Cond.code mX6_init.1 mX6_init.2.1 mX6_init.2.2.1 mX6_init.2.2.2.1 ∈ aTb := aTb_at 138 (by decide +kernel) (by decide +kernel)
theorem insX6_init : Cond.instanceMethod mX6_init.1 ∈ aTb := aTb_at 137 (by decide +kernel) (by decide +kernel)
theorem codX7_collect : Cond.code mX7_collect.1 mX7_collect.2.1 mX7_collect.2.2.1 mX7_collect.2.2.2.1 ∈ aTb := aTb_at 614 (by decide +kernel) (by decide +kernel)
theorem insX7_collect : Cond.instanceMethod mX7_collect.1 ∈ aTb := aTb_at 613 (by decide +kernel) (by decide +kernel)
theorem selX7_collect : Cond.selects mX7_collect.1.cls mX7_collect.1 mX7_collect.1 ∈ aTb := aTb_priv 11 (by decide +kernel) (by decide +kernel)
theorem codX7_doOtherAct : Cond.code mX7_doOtherAct.1 mX7_doOtherAct.2.1 mX7_doOtherAct.2.2.1 mX7_doOtherAct.2.2.2.1 ∈ aTb := aTb_at 691 (by decide +kernel) (by decide +kernel)
theorem insX7_doOtherAct : Cond.instanceMethod mX7_doOtherAct.1 ∈ aTb := aTb_at 690 (by decide +kernel) (by decide +kernel)
theorem selX7_doOtherAct : Cond.selects mX7_doOtherAct.1.cls mX7_doOtherAct.1 mX7_doOtherAct.1 ∈ aTb := aTb_priv 19 (by decide +kernel) (by decide +kernel)
theorem codX7_endAct : Cond.code mX7_endAct.1 mX7_endAct.2.1 mX7_endAct.2.2.1 mX7_endAct.2.2.2.1 ∈ aTb := aTb_at 683 (by decide +kernel) (by decide +kernel)
theorem insX7_endAct : Cond.instanceMethod mX7_endAct.1 ∈ aTb := aTb_at 682 (by decide +kernel) (by decide +kernel)
theorem selX7_endAct : Cond.selects mX7_endAct.1.cls mX7_endAct.1 mX7_endAct.1 ∈ aTb := aTb_priv 18 (by decide +kernel) (by decide +kernel)
theorem codX7_fairPart : Cond.code mX7_fairPart.1 mX7_fairPart.2.1 mX7_fairPart.2.2.1 mX7_fairPart.2.2.2.1 ∈ aTb := aTb_at 656 (by decide +kernel) (by decide +kernel)
theorem insX7_fairPart : Cond.instanceMethod mX7_fairPart.1 ∈ aTb := aTb_at 655 (by decide +kernel) (by decide +kernel)
theorem selX7_fairPart : Cond.selects mX7_fairPart.1.cls mX7_fairPart.1 mX7_fairPart.1 ∈ aTb := aTb_priv 14 (by decide +kernel) (by decide +kernel)
theorem codX7_getsByAsking : Cond.code mX7_getsByAsking.1 mX7_getsByAsking.2.1 mX7_getsByAsking.2.2.1 mX7_getsByAsking.2.2.2.1 ∈ aTb := aTb_at 631 (by decide +kernel) (by decide +kernel)
theorem insX7_getsByAsking : Cond.instanceMethod mX7_getsByAsking.1 ∈ aTb := aTb_at 630 (by decide +kernel) (by decide +kernel)
theorem selX7_getsByAsking : Cond.selects mX7_getsByAsking.1.cls mX7_getsByAsking.1 mX7_getsByAsking.1 ∈ aTb := aTb_priv 12 (by decide +kernel) (by decide +kernel)
theorem codX7_give : Cond.code mX7_give.1 mX7_give.2.1 mX7_give.2.2.1 mX7_give.2.2.2.1 ∈ aTb := aTb_at 661 (by decide +kernel) (by decide +kernel)
theorem insX7_give : Cond.instanceMethod mX7_give.1 ∈ aTb := aTb_at 660 (by decide +kernel) (by decide +kernel)
theorem selX7_give : Cond.selects mX7_give.1.cls mX7_give.1 mX7_give.1 ∈ aTb := aTb_priv 15 (by decide +kernel) (by decide +kernel)
theorem codX7_init : Cond.code mX7_init.1 mX7_init.2.1 mX7_init.2.2.1 mX7_init.2.2.2.1 ∈ aTb := aTb_at 203 (by decide +kernel) (by decide +kernel)
theorem insX7_init : Cond.instanceMethod mX7_init.1 ∈ aTb := aTb_at 202 (by decide +kernel) (by decide +kernel)
theorem codX7_leave : Cond.code mX7_leave.1 mX7_leave.2.1 mX7_leave.2.2.1 mX7_leave.2.2.2.1 ∈ aTb := aTb_at 670 (by decide +kernel) (by decide +kernel)
theorem insX7_leave : Cond.instanceMethod mX7_leave.1 ∈ aTb := aTb_at 669 (by decide +kernel) (by decide +kernel)
theorem selX7_leave : Cond.selects mX7_leave.1.cls mX7_leave.1 mX7_leave.1 ∈ aTb := aTb_priv 17 (by decide +kernel) (by decide +kernel)
theorem codX7_movesStep : Cond.code mX7_movesStep.1 mX7_movesStep.2.1 mX7_movesStep.2.2.1 mX7_movesStep.2.2.2.1 ∈ aTb := aTb_at 713 (by decide +kernel) (by decide +kernel)
theorem insX7_movesStep : Cond.instanceMethod mX7_movesStep.1 ∈ aTb := aTb_at 712 (by decide +kernel) (by decide +kernel)
theorem selX7_movesStep : Cond.selects mX7_movesStep.1.cls mX7_movesStep.1 mX7_movesStep.1 ∈ aTb := aTb_priv 24 (by decide +kernel) (by decide +kernel)
theorem codX7_passTick : Cond.code mX7_passTick.1 mX7_passTick.2.1 mX7_passTick.2.2.1 mX7_passTick.2.2.2.1 ∈ aTb := aTb_at 696 (by decide +kernel) (by decide +kernel)
theorem insX7_passTick : Cond.instanceMethod mX7_passTick.1 ∈ aTb := aTb_at 695 (by decide +kernel) (by decide +kernel)
theorem selX7_passTick : Cond.selects mX7_passTick.1.cls mX7_passTick.1 mX7_passTick.1 ∈ aTb := aTb_priv 20 (by decide +kernel) (by decide +kernel)
theorem codX7_redeal : Cond.code mX7_redeal.1 mX7_redeal.2.1 mX7_redeal.2.2.1 mX7_redeal.2.2.2.1 ∈ aTb := aTb_at 705 (by decide +kernel) (by decide +kernel)
theorem insX7_redeal : Cond.instanceMethod mX7_redeal.1 ∈ aTb := aTb_at 704 (by decide +kernel) (by decide +kernel)
theorem selX7_redeal : Cond.selects mX7_redeal.1.cls mX7_redeal.1 mX7_redeal.1 ∈ aTb := aTb_priv 22 (by decide +kernel) (by decide +kernel)
theorem codX7_someGoOn : Cond.code mX7_someGoOn.1 mX7_someGoOn.2.1 mX7_someGoOn.2.2.1 mX7_someGoOn.2.2.2.1 ∈ aTb := aTb_at 583 (by decide +kernel) (by decide +kernel)
theorem insX7_someGoOn : Cond.instanceMethod mX7_someGoOn.1 ∈ aTb := aTb_at 581 (by decide +kernel) (by decide +kernel)
theorem selX7_someGoOn : Cond.selects mX7_someGoOn.1.cls mX7_someGoOn.1 mX7_someGoOn.1 ∈ aTb := aTb_at 582 (by decide +kernel) (by decide +kernel)
theorem codX7_spareOfOthers : Cond.code mX7_spareOfOthers.1 mX7_spareOfOthers.2.1 mX7_spareOfOthers.2.2.1 mX7_spareOfOthers.2.2.2.1 ∈ aTb := aTb_at 640 (by decide +kernel) (by decide +kernel)
theorem insX7_spareOfOthers : Cond.instanceMethod mX7_spareOfOthers.1 ∈ aTb := aTb_at 639 (by decide +kernel) (by decide +kernel)
theorem selX7_spareOfOthers : Cond.selects mX7_spareOfOthers.1.cls mX7_spareOfOthers.1 mX7_spareOfOthers.1 ∈ aTb := aTb_priv 13 (by decide +kernel) (by decide +kernel)
theorem codX7_squeeze : Cond.code mX7_squeeze.1 mX7_squeeze.2.1 mX7_squeeze.2.2.1 mX7_squeeze.2.2.2.1 ∈ aTb := aTb_at 709 (by decide +kernel) (by decide +kernel)
theorem insX7_squeeze : Cond.instanceMethod mX7_squeeze.1 ∈ aTb := aTb_at 708 (by decide +kernel) (by decide +kernel)
theorem selX7_squeeze : Cond.selects mX7_squeeze.1.cls mX7_squeeze.1 mX7_squeeze.1 ∈ aTb := aTb_priv 23 (by decide +kernel) (by decide +kernel)
theorem codX7_start : Cond.code mX7_start.1 mX7_start.2.1 mX7_start.2.2.1 mX7_start.2.2.2.1 ∈ aTb := aTb_at 562 (by decide +kernel) (by decide +kernel)
theorem insX7_start : Cond.instanceMethod mX7_start.1 ∈ aTb := aTb_at 560 (by decide +kernel) (by decide +kernel)
theorem selX7_start : Cond.selects mX7_start.1.cls mX7_start.1 mX7_start.1 ∈ aTb := aTb_at 561 (by decide +kernel) (by decide +kernel)
theorem codX7_tick : Cond.code mX7_tick.1 mX7_tick.2.1 mX7_tick.2.2.1 mX7_tick.2.2.2.1 ∈ aTb := aTb_at 591 (by decide +kernel) (by decide +kernel)
theorem insX7_tick : Cond.instanceMethod mX7_tick.1 ∈ aTb := aTb_at 589 (by decide +kernel) (by decide +kernel)
theorem selX7_tick : Cond.selects mX7_tick.1.cls mX7_tick.1 mX7_tick.1 ∈ aTb := aTb_at 590 (by decide +kernel) (by decide +kernel)
theorem codX7_tryMake : Cond.code mX7_tryMake.1 mX7_tryMake.2.1 mX7_tryMake.2.2.1 mX7_tryMake.2.2.2.1 ∈ aTb := aTb_at 604 (by decide +kernel) (by decide +kernel)
theorem insX7_tryMake : Cond.instanceMethod mX7_tryMake.1 ∈ aTb := aTb_at 603 (by decide +kernel) (by decide +kernel)
theorem selX7_tryMake : Cond.selects mX7_tryMake.1.cls mX7_tryMake.1 mX7_tryMake.1 ∈ aTb := aTb_priv 10 (by decide +kernel) (by decide +kernel)
theorem codX7_wake : Cond.code mX7_wake.1 mX7_wake.2.1 mX7_wake.2.2.1 mX7_wake.2.2.2.1 ∈ aTb := aTb_at 700 (by decide +kernel) (by decide +kernel)
theorem insX7_wake : Cond.instanceMethod mX7_wake.1 ∈ aTb := aTb_at 699 (by decide +kernel) (by decide +kernel)
theorem selX7_wake : Cond.selects mX7_wake.1.cls mX7_wake.1 mX7_wake.1 ∈ aTb := aTb_priv 21 (by decide +kernel) (by decide +kernel)
theorem codX7_whoGainsMost : Cond.code mX7_whoGainsMost.1 mX7_whoGainsMost.2.1 mX7_whoGainsMost.2.2.1 mX7_whoGainsMost.2.2.2.1 ∈ aTb := aTb_at 717 (by decide +kernel) (by decide +kernel)
theorem insX7_whoGainsMost : Cond.instanceMethod mX7_whoGainsMost.1 ∈ aTb := aTb_at 716 (by decide +kernel) (by decide +kernel)
theorem selX7_whoGainsMost : Cond.selects mX7_whoGainsMost.1.cls mX7_whoGainsMost.1 mX7_whoGainsMost.1 ∈ aTb := aTb_priv 25 (by decide +kernel) (by decide +kernel)
theorem codX7_whoLosesLeast : Cond.code mX7_whoLosesLeast.1 mX7_whoLosesLeast.2.1 mX7_whoLosesLeast.2.2.1 mX7_whoLosesLeast.2.2.2.1 ∈ aTb := aTb_at 733 (by decide +kernel) (by decide +kernel)
theorem insX7_whoLosesLeast : Cond.instanceMethod mX7_whoLosesLeast.1 ∈ aTb := aTb_at 732 (by decide +kernel) (by decide +kernel)
theorem selX7_whoLosesLeast : Cond.selects mX7_whoLosesLeast.1.cls mX7_whoLosesLeast.1 mX7_whoLosesLeast.1 ∈ aTb := aTb_priv 27 (by decide +kernel) (by decide +kernel)
theorem codX7_whoSparesMost : Cond.code mX7_whoSparesMost.1 mX7_whoSparesMost.2.1 mX7_whoSparesMost.2.2.1 mX7_whoSparesMost.2.2.2.1 ∈ aTb := aTb_at 666 (by decide +kernel) (by decide +kernel)
theorem insX7_whoSparesMost : Cond.instanceMethod mX7_whoSparesMost.1 ∈ aTb := aTb_at 665 (by decide +kernel) (by decide +kernel)
theorem selX7_whoSparesMost : Cond.selects mX7_whoSparesMost.1.cls mX7_whoSparesMost.1 mX7_whoSparesMost.1 ∈ aTb := aTb_priv 16 (by decide +kernel) (by decide +kernel)
theorem codX8_init : Cond.code mX8_init.1 mX8_init.2.1 mX8_init.2.2.1 mX8_init.2.2.2.1 ∈ aTb := aTb_at 132 (by decide +kernel) (by decide +kernel)
theorem insX8_init : Cond.instanceMethod mX8_init.1 ∈ aTb := aTb_at 131 (by decide +kernel) (by decide +kernel)
theorem codX8_makeInAll : Cond.code mX8_makeInAll.1 mX8_makeInAll.2.1 mX8_makeInAll.2.2.1 mX8_makeInAll.2.2.2.1 ∈ aTb := aTb_at 464 (by decide +kernel) (by decide +kernel)
theorem insX8_makeInAll : Cond.instanceMethod mX8_makeInAll.1 ∈ aTb := aTb_at 463 (by decide +kernel) (by decide +kernel)
theorem selX8_makeInAll : Cond.selects mX8_makeInAll.1.cls mX8_makeInAll.1 mX8_makeInAll.1 ∈ aTb := aTb_priv 3 (by decide +kernel) (by decide +kernel)
theorem codX8_pass : Cond.code mX8_pass.1 mX8_pass.2.1 mX8_pass.2.2.1 mX8_pass.2.2.2.1 ∈ aTb := aTb_at 438 (by decide +kernel) (by decide +kernel)
theorem insX8_pass : Cond.instanceMethod mX8_pass.1 ∈ aTb := aTb_at 436 (by decide +kernel) (by decide +kernel)
theorem selX8_pass : Cond.selects mX8_pass.1.cls mX8_pass.1 mX8_pass.1 ∈ aTb := aTb_at 437 (by decide +kernel) (by decide +kernel)
theorem codX8_passRound : Cond.code mX8_passRound.1 mX8_passRound.2.1 mX8_passRound.2.2.1 mX8_passRound.2.2.2.1 ∈ aTb := aTb_at 453 (by decide +kernel) (by decide +kernel)
theorem insX8_passRound : Cond.instanceMethod mX8_passRound.1 ∈ aTb := aTb_at 452 (by decide +kernel) (by decide +kernel)
theorem selX8_passRound : Cond.selects mX8_passRound.1.cls mX8_passRound.1 mX8_passRound.1 ∈ aTb := aTb_priv 2 (by decide +kernel) (by decide +kernel)
theorem codX8_timeOf : Cond.code mX8_timeOf.1 mX8_timeOf.2.1 mX8_timeOf.2.2.1 mX8_timeOf.2.2.2.1 ∈ aTb := aTb_at 476 (by decide +kernel) (by decide +kernel)
theorem insX8_timeOf : Cond.instanceMethod mX8_timeOf.1 ∈ aTb := aTb_at 474 (by decide +kernel) (by decide +kernel)
theorem selX8_timeOf : Cond.selects mX8_timeOf.1.cls mX8_timeOf.1 mX8_timeOf.1 ∈ aTb := aTb_at 475 (by decide +kernel) (by decide +kernel)
theorem codX9_begin : Cond.code mX9_begin.1 mX9_begin.2.1 mX9_begin.2.2.1 mX9_begin.2.2.2.1 ∈ aTb := aTb_at 558 (by decide +kernel) (by decide +kernel)
theorem insX9_begin : Cond.instanceMethod mX9_begin.1 ∈ aTb := aTb_at 556 (by decide +kernel) (by decide +kernel)
theorem selX9_begin : Cond.selects mX9_begin.1.cls mX9_begin.1 mX9_begin.1 ∈ aTb := aTb_at 557 (by decide +kernel) (by decide +kernel)
theorem codX9_best : Cond.code mX9_best.1 mX9_best.2.1 mX9_best.2.2.1 mX9_best.2.2.2.1 ∈ aTb := aTb_at 531 (by decide +kernel) (by decide +kernel)
theorem insX9_best : Cond.instanceMethod mX9_best.1 ∈ aTb := aTb_at 529 (by decide +kernel) (by decide +kernel)
theorem selX9_best : Cond.selects mX9_best.1.cls mX9_best.1 mX9_best.1 ∈ aTb := aTb_at 530 (by decide +kernel) (by decide +kernel)
theorem codX9_clear : Cond.code mX9_clear.1 mX9_clear.2.1 mX9_clear.2.2.1 mX9_clear.2.2.2.1 ∈ aTb := aTb_at 422 (by decide +kernel) (by decide +kernel)
theorem insX9_clear : Cond.instanceMethod mX9_clear.1 ∈ aTb := aTb_at 420 (by decide +kernel) (by decide +kernel)
theorem selX9_clear : Cond.selects mX9_clear.1.cls mX9_clear.1 mX9_clear.1 ∈ aTb := aTb_at 421 (by decide +kernel) (by decide +kernel)
theorem codX9_count : Cond.code mX9_count.1 mX9_count.2.1 mX9_count.2.2.1 mX9_count.2.2.2.1 ∈ aTb := aTb_at 751 (by decide +kernel) (by decide +kernel)
theorem insX9_count : Cond.instanceMethod mX9_count.1 ∈ aTb := aTb_at 749 (by decide +kernel) (by decide +kernel)
theorem selX9_count : Cond.selects mX9_count.1.cls mX9_count.1 mX9_count.1 ∈ aTb := aTb_at 750 (by decide +kernel) (by decide +kernel)
theorem codX9_deal : Cond.code mX9_deal.1 mX9_deal.2.1 mX9_deal.2.2.1 mX9_deal.2.2.2.1 ∈ aTb := aTb_at 510 (by decide +kernel) (by decide +kernel)
theorem insX9_deal : Cond.instanceMethod mX9_deal.1 ∈ aTb := aTb_at 508 (by decide +kernel) (by decide +kernel)
theorem selX9_deal : Cond.selects mX9_deal.1.cls mX9_deal.1 mX9_deal.1 ∈ aTb := aTb_at 509 (by decide +kernel) (by decide +kernel)
theorem codX9_falls : Cond.code mX9_falls.1 mX9_falls.2.1 mX9_falls.2.2.1 mX9_falls.2.2.2.1 ∈ aTb := aTb_at 500 (by decide +kernel) (by decide +kernel)
theorem insX9_falls : Cond.instanceMethod mX9_falls.1 ∈ aTb := aTb_at 498 (by decide +kernel) (by decide +kernel)
theorem selX9_falls : Cond.selects mX9_falls.1.cls mX9_falls.1 mX9_falls.1 ∈ aTb := aTb_at 499 (by decide +kernel) (by decide +kernel)
theorem codX9_init : Cond.code mX9_init.1 mX9_init.2.1 mX9_init.2.2.1 mX9_init.2.2.2.1 ∈ aTb := aTb_at 18 (by decide +kernel) (by decide +kernel)
theorem insX9_init : Cond.instanceMethod mX9_init.1 ∈ aTb := aTb_at 17 (by decide +kernel) (by decide +kernel)
theorem codX9_isProgram : Cond.code mX9_isProgram.1 mX9_isProgram.2.1 mX9_isProgram.2.2.1 mX9_isProgram.2.2.2.1 ∈ aTb := aTb_at 430 (by decide +kernel) (by decide +kernel)
theorem insX9_isProgram : Cond.instanceMethod mX9_isProgram.1 ∈ aTb := aTb_at 429 (by decide +kernel) (by decide +kernel)
theorem selX9_isProgram : Cond.selects mX9_isProgram.1.cls mX9_isProgram.1 mX9_isProgram.1 ∈ aTb := aTb_priv 1 (by decide +kernel) (by decide +kernel)
theorem codX9_isSlot : Cond.code mX9_isSlot.1 mX9_isSlot.2.1 mX9_isSlot.2.2.1 mX9_isSlot.2.2.2.1 ∈ aTb := aTb_at 357 (by decide +kernel) (by decide +kernel)
theorem insX9_isSlot : Cond.instanceMethod mX9_isSlot.1 ∈ aTb := aTb_at 356 (by decide +kernel) (by decide +kernel)
theorem selX9_isSlot : Cond.selects mX9_isSlot.1.cls mX9_isSlot.1 mX9_isSlot.1 ∈ aTb := aTb_priv 0 (by decide +kernel) (by decide +kernel)
theorem codX9_log : Cond.code mX9_log.1 mX9_log.2.1 mX9_log.2.2.1 mX9_log.2.2.2.1 ∈ aTb := aTb_at 764 (by decide +kernel) (by decide +kernel)
theorem insX9_log : Cond.instanceMethod mX9_log.1 ∈ aTb := aTb_at 762 (by decide +kernel) (by decide +kernel)
theorem selX9_log : Cond.selects mX9_log.1.cls mX9_log.1 mX9_log.1 ∈ aTb := aTb_at 763 (by decide +kernel) (by decide +kernel)
theorem codX9_need : Cond.code mX9_need.1 mX9_need.2.1 mX9_need.2.2.1 mX9_need.2.2.2.1 ∈ aTb := aTb_at 480 (by decide +kernel) (by decide +kernel)
theorem insX9_need : Cond.instanceMethod mX9_need.1 ∈ aTb := aTb_at 478 (by decide +kernel) (by decide +kernel)
theorem selX9_need : Cond.selects mX9_need.1.cls mX9_need.1 mX9_need.1 ∈ aTb := aTb_at 479 (by decide +kernel) (by decide +kernel)
theorem codX9_of : Cond.code mX9_of.1 mX9_of.2.1 mX9_of.2.2.1 mX9_of.2.2.2.1 ∈ aTb := aTb_at 743 (by decide +kernel) (by decide +kernel)
theorem insX9_of : Cond.instanceMethod mX9_of.1 ∈ aTb := aTb_at 741 (by decide +kernel) (by decide +kernel)
theorem selX9_of : Cond.selects mX9_of.1.cls mX9_of.1 mX9_of.1 ∈ aTb := aTb_at 742 (by decide +kernel) (by decide +kernel)
theorem codX9_paste : Cond.code mX9_paste.1 mX9_paste.2.1 mX9_paste.2.2.1 mX9_paste.2.2.2.1 ∈ aTb := aTb_at 385 (by decide +kernel) (by decide +kernel)
theorem insX9_paste : Cond.instanceMethod mX9_paste.1 ∈ aTb := aTb_at 383 (by decide +kernel) (by decide +kernel)
theorem selX9_paste : Cond.selects mX9_paste.1.cls mX9_paste.1 mX9_paste.1 ∈ aTb := aTb_at 384 (by decide +kernel) (by decide +kernel)
theorem codX9_program : Cond.code mX9_program.1 mX9_program.2.1 mX9_program.2.2.1 mX9_program.2.2.2.1 ∈ aTb := aTb_at 403 (by decide +kernel) (by decide +kernel)
theorem insX9_program : Cond.instanceMethod mX9_program.1 ∈ aTb := aTb_at 401 (by decide +kernel) (by decide +kernel)
theorem selX9_program : Cond.selects mX9_program.1.cls mX9_program.1 mX9_program.1 ∈ aTb := aTb_at 402 (by decide +kernel) (by decide +kernel)
theorem codX9_row : Cond.code mX9_row.1 mX9_row.2.1 mX9_row.2.2.1 mX9_row.2.2.2.1 ∈ aTb := aTb_at 353 (by decide +kernel) (by decide +kernel)
theorem insX9_row : Cond.instanceMethod mX9_row.1 ∈ aTb := aTb_at 351 (by decide +kernel) (by decide +kernel)
theorem selX9_row : Cond.selects mX9_row.1.cls mX9_row.1 mX9_row.1 ∈ aTb := aTb_at 352 (by decide +kernel) (by decide +kernel)
theorem codX9_rowsThere : Cond.code mX9_rowsThere.1 mX9_rowsThere.2.1 mX9_rowsThere.2.2.1 mX9_rowsThere.2.2.2.1 ∈ aTb := aTb_at 760 (by decide +kernel) (by decide +kernel)
theorem insX9_rowsThere : Cond.instanceMethod mX9_rowsThere.1 ∈ aTb := aTb_at 759 (by decide +kernel) (by decide +kernel)
theorem selX9_rowsThere : Cond.selects mX9_rowsThere.1.cls mX9_rowsThere.1 mX9_rowsThere.1 ∈ aTb := aTb_priv 28 (by decide +kernel) (by decide +kernel)
theorem codX9_run : Cond.code mX9_run.1 mX9_run.2.1 mX9_run.2.2.1 mX9_run.2.2.2.1 ∈ aTb := aTb_at 579 (by decide +kernel) (by decide +kernel)
theorem insX9_run : Cond.instanceMethod mX9_run.1 ∈ aTb := aTb_at 577 (by decide +kernel) (by decide +kernel)
theorem selX9_run : Cond.selects mX9_run.1.cls mX9_run.1 mX9_run.1 ∈ aTb := aTb_at 578 (by decide +kernel) (by decide +kernel)
theorem codX9_share : Cond.code mX9_share.1 mX9_share.2.1 mX9_share.2.2.1 mX9_share.2.2.2.1 ∈ aTb := aTb_at 554 (by decide +kernel) (by decide +kernel)
theorem insX9_share : Cond.instanceMethod mX9_share.1 ∈ aTb := aTb_at 552 (by decide +kernel) (by decide +kernel)
theorem selX9_share : Cond.selects mX9_share.1.cls mX9_share.1 mX9_share.1 ∈ aTb := aTb_at 553 (by decide +kernel) (by decide +kernel)
theorem codX9_stop : Cond.code mX9_stop.1 mX9_stop.2.1 mX9_stop.2.2.1 mX9_stop.2.2.2.1 ∈ aTb := aTb_at 575 (by decide +kernel) (by decide +kernel)
theorem insX9_stop : Cond.instanceMethod mX9_stop.1 ∈ aTb := aTb_at 573 (by decide +kernel) (by decide +kernel)
theorem selX9_stop : Cond.selects mX9_stop.1.cls mX9_stop.1 mX9_stop.1 ∈ aTb := aTb_at 574 (by decide +kernel) (by decide +kernel)
theorem codX9_tear : Cond.code mX9_tear.1 mX9_tear.2.1 mX9_tear.2.2.1 mX9_tear.2.2.2.1 ∈ aTb := aTb_at 365 (by decide +kernel) (by decide +kernel)
theorem insX9_tear : Cond.instanceMethod mX9_tear.1 ∈ aTb := aTb_at 363 (by decide +kernel) (by decide +kernel)
theorem selX9_tear : Cond.selects mX9_tear.1.cls mX9_tear.1 mX9_tear.1 ∈ aTb := aTb_at 364 (by decide +kernel) (by decide +kernel)
theorem codX9_terms : Cond.code mX9_terms.1 mX9_terms.2.1 mX9_terms.2.2.1 mX9_terms.2.2.2.1 ∈ aTb := aTb_at 396 (by decide +kernel) (by decide +kernel)
theorem insX9_terms : Cond.instanceMethod mX9_terms.1 ∈ aTb := aTb_at 394 (by decide +kernel) (by decide +kernel)
theorem selX9_terms : Cond.selects mX9_terms.1.cls mX9_terms.1 mX9_terms.1 ∈ aTb := aTb_at 395 (by decide +kernel) (by decide +kernel)
theorem codX9_time : Cond.code mX9_time.1 mX9_time.2.1 mX9_time.2.2.1 mX9_time.2.2.2.1 ∈ aTb := aTb_at 426 (by decide +kernel) (by decide +kernel)
theorem insX9_time : Cond.instanceMethod mX9_time.1 ∈ aTb := aTb_at 424 (by decide +kernel) (by decide +kernel)
theorem selX9_time : Cond.selects mX9_time.1.cls mX9_time.1 mX9_time.1 ∈ aTb := aTb_at 425 (by decide +kernel) (by decide +kernel)
theorem codX9_write : Cond.code mX9_write.1 mX9_write.2.1 mX9_write.2.2.1 mX9_write.2.2.2.1 ∈ aTb := aTb_at 377 (by decide +kernel) (by decide +kernel)
theorem insX9_write : Cond.instanceMethod mX9_write.1 ∈ aTb := aTb_at 375 (by decide +kernel) (by decide +kernel)
theorem selX9_write : Cond.selects mX9_write.1.cls mX9_write.1 mX9_write.1 ∈ aTb := aTb_at 376 (by decide +kernel) (by decide +kernel)
theorem insObj : Cond.instanceMethod Lib.objectInit ∈ aTb := aTb_at 20 (by decide +kernel) (by decide +kernel)
theorem codObj : Cond.code Lib.objectInit ⟨#[0xb1]⟩ 1 none ∈ aTb := aTb_at 21 (by decide +kernel) (by decide +kernel)
theorem loX9_1 : Cond.methodLink RX9 1 Lib.objectInit ∈ aTb := aTb_at 19 (by decide +kernel) (by decide +kernel)
theorem lX9_32 : aIk RX9 32 mX0_init := ⟨⟨aTb_at 124 (by decide +kernel) (by decide +kernel), insX0_init, iniX0, codX0_init⟩, by decide +kernel, by decide +kernel⟩
theorem lX9_41 : aIk RX9 41 mX7_init := ⟨⟨aTb_at 201 (by decide +kernel) (by decide +kernel), insX7_init, iniX7, codX7_init⟩, by decide +kernel, by decide +kernel⟩
theorem lX9_48 : aVk RX9 48 mX9_isSlot := ⟨⟨aTb_at 354 (by decide +kernel) (by decide +kernel), insX9_isSlot, selX9_isSlot, iniX9, codX9_isSlot⟩, by decide +kernel, by decide +kernel⟩
theorem lX9_52 : aVk RX9 52 mX3_lay := ⟨⟨aTb_at 358 (by decide +kernel) (by decide +kernel), insX3_lay, selX3_lay, iniX3, codX3_lay⟩, by decide +kernel, by decide +kernel⟩
theorem lX9_56 : aVk RX9 56 mX3_isBare := ⟨⟨aTb_at 366 (by decide +kernel) (by decide +kernel), insX3_isBare, selX3_isBare, iniX3, codX3_isBare⟩, by decide +kernel, by decide +kernel⟩
theorem lX9_60 : aVk RX9 60 mX3_strip := ⟨⟨aTb_at 370 (by decide +kernel) (by decide +kernel), insX3_strip, selX3_strip, iniX3, codX3_strip⟩, by decide +kernel, by decide +kernel⟩
theorem lX9_71 : aVk RX9 71 mX3_cut := ⟨⟨aTb_at 378 (by decide +kernel) (by decide +kernel), insX3_cut, selX3_cut, iniX3, codX3_cut⟩, by decide +kernel, by decide +kernel⟩
theorem lX9_78 : aVk RX9 78 mX3_hasPlaces := ⟨⟨aTb_at 386 (by decide +kernel) (by decide +kernel), insX3_hasPlaces, selX3_hasPlaces, iniX3, codX3_hasPlaces⟩, by decide +kernel, by decide +kernel⟩
theorem lsX9_82 : Cond.methodLink RX9 82 arraycopyName ∈ aTb := aTb_at 390 (by decide +kernel) (by decide +kernel)
theorem lX9_92 : aSk RX9 92 mX5_areSound := ⟨⟨aTb_at 397 (by decide +kernel) (by decide +kernel), staX5_areSound, iniX5, codX5_areSound⟩, by decide +kernel, by decide +kernel⟩
theorem lX9_120 : aVk RX9 120 mX3_holdsActsAlone := ⟨⟨aTb_at 404 (by decide +kernel) (by decide +kernel), insX3_holdsActsAlone, selX3_holdsActsAlone, iniX3, codX3_holdsActsAlone⟩, by decide +kernel, by decide +kernel⟩
theorem lX9_123 : aVk RX9 123 mX1_become := ⟨⟨aTb_at 415 (by decide +kernel) (by decide +kernel), insX1_become, selX1_become, iniX1, codX1_become⟩, by decide +kernel, by decide +kernel⟩
theorem lX9_130 : aVk RX9 130 mX9_isProgram := ⟨⟨aTb_at 427 (by decide +kernel) (by decide +kernel), insX9_isProgram, selX9_isProgram, iniX9, codX9_isProgram⟩, by decide +kernel, by decide +kernel⟩
theorem lX9_133 : aVk RX9 133 mX0_timeByRoom := ⟨⟨aTb_at 431 (by decide +kernel) (by decide +kernel), insX0_timeByRoom, selX0_timeByRoom, iniX0, codX0_timeByRoom⟩, by decide +kernel, by decide +kernel⟩
theorem lX9_137 : aVk RX9 137 mX0_needInSteps := ⟨⟨aTb_at 481 (by decide +kernel) (by decide +kernel), insX0_needInSteps, selX0_needInSteps, iniX0, codX0_needInSteps⟩, by decide +kernel, by decide +kernel⟩
theorem lX9_141 : aVk RX9 141 mX5_allSteps := ⟨⟨aTb_at 501 (by decide +kernel) (by decide +kernel), insX5_allSteps, selX5_allSteps, iniX5, codX5_allSteps⟩, by decide +kernel, by decide +kernel⟩
theorem lX9_145 : aVk RX9 145 mX1_fallsEverSlower := ⟨⟨aTb_at 502 (by decide +kernel) (by decide +kernel), insX1_fallsEverSlower, selX1_fallsEverSlower, iniX1, codX1_fallsEverSlower⟩, by decide +kernel, by decide +kernel⟩
theorem lX9_148 : aVk RX9 148 mX0_bySavings := ⟨⟨aTb_at 511 (by decide +kernel) (by decide +kernel), insX0_bySavings, selX0_bySavings, iniX0, codX0_bySavings⟩, by decide +kernel, by decide +kernel⟩
theorem lX9_152 : aVk RX9 152 mX0_atBest := ⟨⟨aTb_at 532 (by decide +kernel) (by decide +kernel), insX0_atBest, selX0_atBest, iniX0, codX0_atBest⟩, by decide +kernel, by decide +kernel⟩
theorem lX9_159 : aVk RX9 159 mX7_start := ⟨⟨aTb_at 559 (by decide +kernel) (by decide +kernel), insX7_start, selX7_start, iniX7, codX7_start⟩, by decide +kernel, by decide +kernel⟩
theorem lX9_163 : aVk RX9 163 mX7_someGoOn := ⟨⟨aTb_at 580 (by decide +kernel) (by decide +kernel), insX7_someGoOn, selX7_someGoOn, iniX7, codX7_someGoOn⟩, by decide +kernel, by decide +kernel⟩
theorem lX9_166 : aVk RX9 166 mX7_tick := ⟨⟨aTb_at 588 (by decide +kernel) (by decide +kernel), insX7_tick, selX7_tick, iniX7, codX7_tick⟩, by decide +kernel, by decide +kernel⟩
theorem lX9_176 : aVk RX9 176 mX2_told := ⟨⟨aTb_at 744 (by decide +kernel) (by decide +kernel), insX2_told, selX2_told, iniX2, codX2_told⟩, by decide +kernel, by decide +kernel⟩
theorem lX9_189 : aVk RX9 189 mX4_kept := ⟨⟨aTb_at 752 (by decide +kernel) (by decide +kernel), insX4_kept, selX4_kept, iniX4, codX4_kept⟩, by decide +kernel, by decide +kernel⟩
theorem lX9_197 : aVk RX9 197 mX9_rowsThere := ⟨⟨aTb_at 757 (by decide +kernel) (by decide +kernel), insX9_rowsThere, selX9_rowsThere, iniX9, codX9_rowsThere⟩, by decide +kernel, by decide +kernel⟩
theorem lX9_200 : aVk RX9 200 mX4_told := ⟨⟨aTb_at 765 (by decide +kernel) (by decide +kernel), insX4_told, selX4_told, iniX4, codX4_told⟩, by decide +kernel, by decide +kernel⟩
theorem loX0_3 : Cond.methodLink RX0 3 Lib.objectInit ∈ aTb := aTb_at 127 (by decide +kernel) (by decide +kernel)
theorem lX0_38 : aVk RX0 38 mX8_pass := ⟨⟨aTb_at 435 (by decide +kernel) (by decide +kernel), insX8_pass, selX8_pass, iniX8, codX8_pass⟩, by decide +kernel, by decide +kernel⟩
theorem lX0_42 : aVk RX0 42 mX8_timeOf := ⟨⟨aTb_at 473 (by decide +kernel) (by decide +kernel), insX8_timeOf, selX8_timeOf, iniX8, codX8_timeOf⟩, by decide +kernel, by decide +kernel⟩
theorem lX0_46 : aVk RX0 46 mX0_learnTimes := ⟨⟨aTb_at 485 (by decide +kernel) (by decide +kernel), insX0_learnTimes, selX0_learnTimes, iniX0, codX0_learnTimes⟩, by decide +kernel, by decide +kernel⟩
theorem lX0_56 : aVk RX0 56 mX5_stepsFor := ⟨⟨aTb_at 493 (by decide +kernel) (by decide +kernel), insX5_stepsFor, selX5_stepsFor, iniX5, codX5_stepsFor⟩, by decide +kernel, by decide +kernel⟩
theorem lX0_61 : aVk RX0 61 mX5_allSteps := ⟨⟨aTb_at 489 (by decide +kernel) (by decide +kernel), insX5_allSteps, selX5_allSteps, iniX5, codX5_allSteps⟩, by decide +kernel, by decide +kernel⟩
theorem lX0_74 : aVk RX0 74 mX5_dealtSteps := ⟨⟨aTb_at 515 (by decide +kernel) (by decide +kernel), insX5_dealtSteps, selX5_dealtSteps, iniX5, codX5_dealtSteps⟩, by decide +kernel, by decide +kernel⟩
theorem lX0_77 : aVk RX0 77 mX0_needInSteps := ⟨⟨aTb_at 519 (by decide +kernel) (by decide +kernel), insX0_needInSteps, selX0_needInSteps, iniX0, codX0_needInSteps⟩, by decide +kernel, by decide +kernel⟩
theorem lX0_81 : aVk RX0 81 mX0_whoSavesMost := ⟨⟨aTb_at 520 (by decide +kernel) (by decide +kernel), insX0_whoSavesMost, selX0_whoSavesMost, iniX0, codX0_whoSavesMost⟩, by decide +kernel, by decide +kernel⟩
theorem lX0_85 : aVk RX0 85 mX0_sumOfTimes := ⟨⟨aTb_at 524 (by decide +kernel) (by decide +kernel), insX0_sumOfTimes, selX0_sumOfTimes, iniX0, codX0_sumOfTimes⟩, by decide +kernel, by decide +kernel⟩
theorem lX0_88 : aVk RX0 88 mX0_firstBestShare := ⟨⟨aTb_at 536 (by decide +kernel) (by decide +kernel), insX0_firstBestShare, selX0_firstBestShare, iniX0, codX0_firstBestShare⟩, by decide +kernel, by decide +kernel⟩
theorem lX0_92 : aVk RX0 92 mX0_sumWith := ⟨⟨aTb_at 540 (by decide +kernel) (by decide +kernel), insX0_sumWith, selX0_sumWith, iniX0, codX0_sumWith⟩, by decide +kernel, by decide +kernel⟩
theorem lX0_96 : aVk RX0 96 mX0_takeFirstBest := ⟨⟨aTb_at 544 (by decide +kernel) (by decide +kernel), insX0_takeFirstBest, selX0_takeFirstBest, iniX0, codX0_takeFirstBest⟩, by decide +kernel, by decide +kernel⟩
theorem lX0_100 : aSk RX0 100 mJ9_max_7cf53 := ⟨⟨aTb_at 548 (by decide +kernel) (by decide +kernel), staJ9_max_7cf53, iniJ9, codJ9_max_7cf53⟩, by decide +kernel, by decide +kernel⟩
theorem loX1_3 : Cond.methodLink RX1 3 Lib.objectInit ∈ aTb := aTb_at 51 (by decide +kernel) (by decide +kernel)
theorem loX2_3 : Cond.methodLink RX2 3 Lib.objectInit ∈ aTb := aTb_at 234 (by decide +kernel) (by decide +kernel)
theorem lX2_26 : aVk RX2 26 mX6_forget := ⟨⟨aTb_at 571 (by decide +kernel) (by decide +kernel), insX6_forget, selX6_forget, iniX6, codX6_forget⟩, by decide +kernel, by decide +kernel⟩
theorem lX2_81 : aVk RX2 81 mX2_nextAct := ⟨⟨aTb_at 596 (by decide +kernel) (by decide +kernel), insX2_nextAct, selX2_nextAct, iniX2, codX2_nextAct⟩, by decide +kernel, by decide +kernel⟩
theorem lX2_85 : aSk RX2 85 mX1_isMake := ⟨⟨aTb_at 600 (by decide +kernel) (by decide +kernel), staX1_isMake, iniX1, codX1_isMake⟩, by decide +kernel, by decide +kernel⟩
theorem lX2_89 : aVk RX2 89 mX1_holds := ⟨⟨aTb_at 610 (by decide +kernel) (by decide +kernel), insX1_holds, selX1_holds, iniX1, codX1_holds⟩, by decide +kernel, by decide +kernel⟩
theorem lX2_104 : aVk RX2 104 mX1_roomFor := ⟨⟨aTb_at 650 (by decide +kernel) (by decide +kernel), insX1_roomFor, selX1_roomFor, iniX1, codX1_roomFor⟩, by decide +kernel, by decide +kernel⟩
theorem lX2_107 : aSk RX2 107 mJ9_max_7cf53 := ⟨⟨aTb_at 651 (by decide +kernel) (by decide +kernel), staJ9_max_7cf53, iniJ9, codJ9_max_7cf53⟩, by decide +kernel, by decide +kernel⟩
theorem lX2_113 : aVk RX2 113 mX5_stepsFor := ⟨⟨aTb_at 652 (by decide +kernel) (by decide +kernel), insX5_stepsFor, selX5_stepsFor, iniX5, codX5_stepsFor⟩, by decide +kernel, by decide +kernel⟩
theorem lX2_116 : aVk RX2 116 mX2_goesOn := ⟨⟨aTb_at 645 (by decide +kernel) (by decide +kernel), insX2_goesOn, selX2_goesOn, iniX2, codX2_goesOn⟩, by decide +kernel, by decide +kernel⟩
theorem lX2_120 : aVk RX2 120 mX2_keep := ⟨⟨aTb_at 646 (by decide +kernel) (by decide +kernel), insX2_keep, selX2_keep, iniX2, codX2_keep⟩, by decide +kernel, by decide +kernel⟩
theorem lX2_124 : aVk RX2 124 mX1_costToCollect := ⟨⟨aTb_at 619 (by decide +kernel) (by decide +kernel), insX1_costToCollect, selX1_costToCollect, iniX1, codX1_costToCollect⟩, by decide +kernel, by decide +kernel⟩
theorem lX2_127 : aVk RX2 127 mX6_add := ⟨⟨aTb_at 679 (by decide +kernel) (by decide +kernel), insX6_add, selX6_add, iniX6, codX6_add⟩, by decide +kernel, by decide +kernel⟩
theorem lX2_134 : aVk RX2 134 mX2_isAwake := ⟨⟨aTb_at 722 (by decide +kernel) (by decide +kernel), insX2_isAwake, selX2_isAwake, iniX2, codX2_isAwake⟩, by decide +kernel, by decide +kernel⟩
theorem lX2_137 : aVk RX2 137 mX2_cellsOfStep := ⟨⟨aTb_at 726 (by decide +kernel) (by decide +kernel), insX2_cellsOfStep, selX2_cellsOfStep, iniX2, codX2_cellsOfStep⟩, by decide +kernel, by decide +kernel⟩
theorem loX3_3 : Cond.methodLink RX3 3 Lib.objectInit ∈ aTb := aTb_at 28 (by decide +kernel) (by decide +kernel)
theorem lX3_22 : aSk RX3 22 mX3_isAct := ⟨⟨aTb_at 408 (by decide +kernel) (by decide +kernel), staX3_isAct, iniX3, codX3_isAct⟩, by decide +kernel, by decide +kernel⟩
theorem loX4_3 : Cond.methodLink RX4 3 Lib.objectInit ∈ aTb := aTb_at 210 (by decide +kernel) (by decide +kernel)
theorem lX4_28 : aSk RX4 28 mJ9_min_7cf53 := ⟨⟨aTb_at 756 (by decide +kernel) (by decide +kernel), staJ9_min_7cf53, iniJ9, codJ9_min_7cf53⟩, by decide +kernel, by decide +kernel⟩
theorem lX4_34 : aVk RX4 34 mX4_kept := ⟨⟨aTb_at 769 (by decide +kernel) (by decide +kernel), insX4_kept, selX4_kept, iniX4, codX4_kept⟩, by decide +kernel, by decide +kernel⟩
theorem loX5_3 : Cond.methodLink RX5 3 Lib.objectInit ∈ aTb := aTb_at 93 (by decide +kernel) (by decide +kernel)
theorem loX6_3 : Cond.methodLink RX6 3 Lib.objectInit ∈ aTb := aTb_at 139 (by decide +kernel) (by decide +kernel)
theorem loX7_3 : Cond.methodLink RX7 3 Lib.objectInit ∈ aTb := aTb_at 204 (by decide +kernel) (by decide +kernel)
theorem lX7_42 : aIk RX7 42 mX2_init := ⟨⟨aTb_at 231 (by decide +kernel) (by decide +kernel), insX2_init, iniX2, codX2_init⟩, by decide +kernel, by decide +kernel⟩
theorem lX7_45 : aVk RX7 45 mX4_forget := ⟨⟨aTb_at 563 (by decide +kernel) (by decide +kernel), insX4_forget, selX4_forget, iniX4, codX4_forget⟩, by decide +kernel, by decide +kernel⟩
theorem lX7_56 : aVk RX7 56 mX2_start := ⟨⟨aTb_at 567 (by decide +kernel) (by decide +kernel), insX2_start, selX2_start, iniX2, codX2_start⟩, by decide +kernel, by decide +kernel⟩
theorem lX7_60 : aVk RX7 60 mX2_goesOn := ⟨⟨aTb_at 584 (by decide +kernel) (by decide +kernel), insX2_goesOn, selX2_goesOn, iniX2, codX2_goesOn⟩, by decide +kernel, by decide +kernel⟩
theorem lX7_64 : aVk RX7 64 mX2_isAboutToMake := ⟨⟨aTb_at 592 (by decide +kernel) (by decide +kernel), insX2_isAboutToMake, selX2_isAboutToMake, iniX2, codX2_isAboutToMake⟩, by decide +kernel, by decide +kernel⟩
theorem lX7_67 : aVk RX7 67 mX7_tryMake := ⟨⟨aTb_at 601 (by decide +kernel) (by decide +kernel), insX7_tryMake, selX7_tryMake, iniX7, codX7_tryMake⟩, by decide +kernel, by decide +kernel⟩
theorem lX7_74 : aVk RX7 74 mX7_doOtherAct := ⟨⟨aTb_at 688 (by decide +kernel) (by decide +kernel), insX7_doOtherAct, selX7_doOtherAct, iniX7, codX7_doOtherAct⟩, by decide +kernel, by decide +kernel⟩
theorem lX7_77 : aVk RX7 77 mX7_passTick := ⟨⟨aTb_at 693 (by decide +kernel) (by decide +kernel), insX7_passTick, selX7_passTick, iniX7, codX7_passTick⟩, by decide +kernel, by decide +kernel⟩
theorem lX7_83 : aVk RX7 83 mX7_redeal := ⟨⟨aTb_at 702 (by decide +kernel) (by decide +kernel), insX7_redeal, selX7_redeal, iniX7, codX7_redeal⟩, by decide +kernel, by decide +kernel⟩
theorem lX7_89 : aVk RX7 89 mX2_waitFor := ⟨⟨aTb_at 624 (by decide +kernel) (by decide +kernel), insX2_waitFor, selX2_waitFor, iniX2, codX2_waitFor⟩, by decide +kernel, by decide +kernel⟩
theorem lX7_93 : aVk RX7 93 mX7_wake := ⟨⟨aTb_at 697 (by decide +kernel) (by decide +kernel), insX7_wake, selX7_wake, iniX7, codX7_wake⟩, by decide +kernel, by decide +kernel⟩
theorem lX7_96 : aVk RX7 96 mX7_endAct := ⟨⟨aTb_at 680 (by decide +kernel) (by decide +kernel), insX7_endAct, selX7_endAct, iniX7, codX7_endAct⟩, by decide +kernel, by decide +kernel⟩
theorem lX7_99 : aVk RX7 99 mX2_nextAct := ⟨⟨aTb_at 605 (by decide +kernel) (by decide +kernel), insX2_nextAct, selX2_nextAct, iniX2, codX2_nextAct⟩, by decide +kernel, by decide +kernel⟩
theorem lX7_107 : aVk RX7 107 mX6_die := ⟨⟨aTb_at 692 (by decide +kernel) (by decide +kernel), insX6_die, selX6_die, iniX6, codX6_die⟩, by decide +kernel, by decide +kernel⟩
theorem lX7_112 : aVk RX7 112 mX2_fits := ⟨⟨aTb_at 606 (by decide +kernel) (by decide +kernel), insX2_fits, selX2_fits, iniX2, codX2_fits⟩, by decide +kernel, by decide +kernel⟩
theorem lX7_122 : aVk RX7 122 mX7_collect := ⟨⟨aTb_at 611 (by decide +kernel) (by decide +kernel), insX7_collect, selX7_collect, iniX7, codX7_collect⟩, by decide +kernel, by decide +kernel⟩
theorem lX7_126 : aVk RX7 126 mX7_getsByAsking := ⟨⟨aTb_at 628 (by decide +kernel) (by decide +kernel), insX7_getsByAsking, selX7_getsByAsking, iniX7, codX7_getsByAsking⟩, by decide +kernel, by decide +kernel⟩
theorem lX7_130 : aVk RX7 130 mX7_leave := ⟨⟨aTb_at 667 (by decide +kernel) (by decide +kernel), insX7_leave, selX7_leave, iniX7, codX7_leave⟩, by decide +kernel, by decide +kernel⟩
theorem lX7_134 : aVk RX7 134 mX2_makeNow := ⟨⟨aTb_at 675 (by decide +kernel) (by decide +kernel), insX2_makeNow, selX2_makeNow, iniX2, codX2_makeNow⟩, by decide +kernel, by decide +kernel⟩
theorem lX7_146 : aSk RX7 146 mJ9_max_7cf53 := ⟨⟨aTb_at 701 (by decide +kernel) (by decide +kernel), staJ9_max_7cf53, iniJ9, codJ9_max_7cf53⟩, by decide +kernel, by decide +kernel⟩
theorem lX7_152 : aSk RX7 152 mJ9_min_7cf53 := ⟨⟨aTb_at 657 (by decide +kernel) (by decide +kernel), staJ9_min_7cf53, iniJ9, codJ9_min_7cf53⟩, by decide +kernel, by decide +kernel⟩
theorem lX7_158 : aVk RX7 158 mX4_add := ⟨⟨aTb_at 620 (by decide +kernel) (by decide +kernel), insX4_add, selX4_add, iniX4, codX4_add⟩, by decide +kernel, by decide +kernel⟩
theorem lX7_174 : aVk RX7 174 mX2_endRound := ⟨⟨aTb_at 684 (by decide +kernel) (by decide +kernel), insX2_endRound, selX2_endRound, iniX2, codX2_endRound⟩, by decide +kernel, by decide +kernel⟩
theorem lX7_189 : aVk RX7 189 mX2_leave := ⟨⟨aTb_at 671 (by decide +kernel) (by decide +kernel), insX2_leave, selX2_leave, iniX2, codX2_leave⟩, by decide +kernel, by decide +kernel⟩
theorem lX7_191 : aVk RX7 191 mX2_collectNow := ⟨⟨aTb_at 615 (by decide +kernel) (by decide +kernel), insX2_collectNow, selX2_collectNow, iniX2, codX2_collectNow⟩, by decide +kernel, by decide +kernel⟩
theorem lX7_194 : aVk RX7 194 mX1_roomFor := ⟨⟨aTb_at 632 (by decide +kernel) (by decide +kernel), insX1_roomFor, selX1_roomFor, iniX1, codX1_roomFor⟩, by decide +kernel, by decide +kernel⟩
theorem lX7_198 : aVk RX7 198 mX5_stepsFor := ⟨⟨aTb_at 636 (by decide +kernel) (by decide +kernel), insX5_stepsFor, selX5_stepsFor, iniX5, codX5_stepsFor⟩, by decide +kernel, by decide +kernel⟩
theorem lX7_201 : aVk RX7 201 mX7_spareOfOthers := ⟨⟨aTb_at 637 (by decide +kernel) (by decide +kernel), insX7_spareOfOthers, selX7_spareOfOthers, iniX7, codX7_spareOfOthers⟩, by decide +kernel, by decide +kernel⟩
theorem lX7_204 : aVk RX7 204 mX7_fairPart := ⟨⟨aTb_at 653 (by decide +kernel) (by decide +kernel), insX7_fairPart, selX7_fairPart, iniX7, codX7_fairPart⟩, by decide +kernel, by decide +kernel⟩
theorem lX7_207 : aVk RX7 207 mX2_spare := ⟨⟨aTb_at 641 (by decide +kernel) (by decide +kernel), insX2_spare, selX2_spare, iniX2, codX2_spare⟩, by decide +kernel, by decide +kernel⟩
theorem lX7_211 : aVk RX7 211 mX7_give := ⟨⟨aTb_at 658 (by decide +kernel) (by decide +kernel), insX7_give, selX7_give, iniX7, codX7_give⟩, by decide +kernel, by decide +kernel⟩
theorem lX7_215 : aVk RX7 215 mX7_whoSparesMost := ⟨⟨aTb_at 663 (by decide +kernel) (by decide +kernel), insX7_whoSparesMost, selX7_whoSparesMost, iniX7, codX7_whoSparesMost⟩, by decide +kernel, by decide +kernel⟩
theorem lX7_218 : aVk RX7 218 mX1_holds := ⟨⟨aTb_at 662 (by decide +kernel) (by decide +kernel), insX1_holds, selX1_holds, iniX1, codX1_holds⟩, by decide +kernel, by decide +kernel⟩
theorem lX7_221 : aVk RX7 221 mX7_squeeze := ⟨⟨aTb_at 706 (by decide +kernel) (by decide +kernel), insX7_squeeze, selX7_squeeze, iniX7, codX7_squeeze⟩, by decide +kernel, by decide +kernel⟩
theorem lX7_227 : aVk RX7 227 mX7_movesStep := ⟨⟨aTb_at 710 (by decide +kernel) (by decide +kernel), insX7_movesStep, selX7_movesStep, iniX7, codX7_movesStep⟩, by decide +kernel, by decide +kernel⟩
theorem lX7_233 : aVk RX7 233 mX7_whoGainsMost := ⟨⟨aTb_at 714 (by decide +kernel) (by decide +kernel), insX7_whoGainsMost, selX7_whoGainsMost, iniX7, codX7_whoGainsMost⟩, by decide +kernel, by decide +kernel⟩
theorem lX7_239 : aVk RX7 239 mX7_whoLosesLeast := ⟨⟨aTb_at 730 (by decide +kernel) (by decide +kernel), insX7_whoLosesLeast, selX7_whoLosesLeast, iniX7, codX7_whoLosesLeast⟩, by decide +kernel, by decide +kernel⟩
theorem lX7_242 : aVk RX7 242 mX2_loss := ⟨⟨aTb_at 735 (by decide +kernel) (by decide +kernel), insX2_loss, selX2_loss, iniX2, codX2_loss⟩, by decide +kernel, by decide +kernel⟩
theorem lX7_246 : aVk RX7 246 mX2_gain := ⟨⟨aTb_at 718 (by decide +kernel) (by decide +kernel), insX2_gain, selX2_gain, iniX2, codX2_gain⟩, by decide +kernel, by decide +kernel⟩
theorem loX8_3 : Cond.methodLink RX8 3 Lib.objectInit ∈ aTb := aTb_at 133 (by decide +kernel) (by decide +kernel)
theorem lX8_28 : aSk RX8 28 mJ9_min_7cf53 := ⟨⟨aTb_at 439 (by decide +kernel) (by decide +kernel), staJ9_min_7cf53, iniJ9, codJ9_min_7cf53⟩, by decide +kernel, by decide +kernel⟩
theorem lX8_44 : aVk RX8 44 mX6_forget := ⟨⟨aTb_at 442 (by decide +kernel) (by decide +kernel), insX6_forget, selX6_forget, iniX6, codX6_forget⟩, by decide +kernel, by decide +kernel⟩
theorem lX8_47 : aVk RX8 47 mX1_holds := ⟨⟨aTb_at 446 (by decide +kernel) (by decide +kernel), insX1_holds, selX1_holds, iniX1, codX1_holds⟩, by decide +kernel, by decide +kernel⟩
theorem lX8_55 : aVk RX8 55 mX8_passRound := ⟨⟨aTb_at 450 (by decide +kernel) (by decide +kernel), insX8_passRound, selX8_passRound, iniX8, codX8_passRound⟩, by decide +kernel, by decide +kernel⟩
theorem lX8_65 : aVk RX8 65 mX6_die := ⟨⟨aTb_at 454 (by decide +kernel) (by decide +kernel), insX6_die, selX6_die, iniX6, codX6_die⟩, by decide +kernel, by decide +kernel⟩
theorem lX8_69 : aSk RX8 69 mX1_isMake := ⟨⟨aTb_at 458 (by decide +kernel) (by decide +kernel), staX1_isMake, iniX1, codX1_isMake⟩, by decide +kernel, by decide +kernel⟩
theorem lX8_73 : aVk RX8 73 mX8_makeInAll := ⟨⟨aTb_at 461 (by decide +kernel) (by decide +kernel), insX8_makeInAll, selX8_makeInAll, iniX8, codX8_makeInAll⟩, by decide +kernel, by decide +kernel⟩
theorem lX8_80 : aVk RX8 80 mX1_costToCollect := ⟨⟨aTb_at 465 (by decide +kernel) (by decide +kernel), insX1_costToCollect, selX1_costToCollect, iniX1, codX1_costToCollect⟩, by decide +kernel, by decide +kernel⟩
theorem lX8_83 : aVk RX8 83 mX6_add := ⟨⟨aTb_at 469 (by decide +kernel) (by decide +kernel), insX6_add, selX6_add, iniX6, codX6_add⟩, by decide +kernel, by decide +kernel⟩
theorem lL_9 : aIk RL 9 mX9_init := ⟨⟨aTb_at 16 (by decide +kernel) (by decide +kernel), insX9_init, iniX9, codX9_init⟩, by decide +kernel, by decide +kernel⟩
theorem lL_12 : aIk RL 12 mX10_init := ⟨⟨aTb_at 772 (by decide +kernel) (by decide +kernel), insX10_init, iniX10, codX10_init⟩, by decide +kernel, by decide +kernel⟩
theorem lL_13 : aVk RL 13 mX9_row := ⟨⟨aTb_at 350 (by decide +kernel) (by decide +kernel), insX9_row, selX9_row, iniX9, codX9_row⟩, by decide +kernel, by decide +kernel⟩
theorem lL_17 : aVk RL 17 mX10_row := ⟨⟨aTb_at 916 (by decide +kernel) (by decide +kernel), insX10_row, selX10_row, iniX10, codX10_row⟩, by decide +kernel, by decide +kernel⟩
theorem lL_18 : aVk RL 18 mX9_tear := ⟨⟨aTb_at 362 (by decide +kernel) (by decide +kernel), insX9_tear, selX9_tear, iniX9, codX9_tear⟩, by decide +kernel, by decide +kernel⟩
theorem lL_22 : aVk RL 22 mX10_tear := ⟨⟨aTb_at 926 (by decide +kernel) (by decide +kernel), insX10_tear, selX10_tear, iniX10, codX10_tear⟩, by decide +kernel, by decide +kernel⟩
theorem lL_25 : aVk RL 25 mX9_write := ⟨⟨aTb_at 374 (by decide +kernel) (by decide +kernel), insX9_write, selX9_write, iniX9, codX9_write⟩, by decide +kernel, by decide +kernel⟩
theorem lL_29 : aVk RL 29 mX10_write := ⟨⟨aTb_at 930 (by decide +kernel) (by decide +kernel), insX10_write, selX10_write, iniX10, codX10_write⟩, by decide +kernel, by decide +kernel⟩
theorem lL_30 : aVk RL 30 mX9_paste := ⟨⟨aTb_at 382 (by decide +kernel) (by decide +kernel), insX9_paste, selX9_paste, iniX9, codX9_paste⟩, by decide +kernel, by decide +kernel⟩
theorem lL_34 : aVk RL 34 mX10_paste := ⟨⟨aTb_at 937 (by decide +kernel) (by decide +kernel), insX10_paste, selX10_paste, iniX10, codX10_paste⟩, by decide +kernel, by decide +kernel⟩
theorem lL_35 : aVk RL 35 mX9_terms := ⟨⟨aTb_at 393 (by decide +kernel) (by decide +kernel), insX9_terms, selX9_terms, iniX9, codX9_terms⟩, by decide +kernel, by decide +kernel⟩
theorem lL_38 : aVk RL 38 mX10_terms := ⟨⟨aTb_at 941 (by decide +kernel) (by decide +kernel), insX10_terms, selX10_terms, iniX10, codX10_terms⟩, by decide +kernel, by decide +kernel⟩
theorem lL_39 : aVk RL 39 mX9_program := ⟨⟨aTb_at 400 (by decide +kernel) (by decide +kernel), insX9_program, selX9_program, iniX9, codX9_program⟩, by decide +kernel, by decide +kernel⟩
theorem lL_43 : aVk RL 43 mX10_program := ⟨⟨aTb_at 945 (by decide +kernel) (by decide +kernel), insX10_program, selX10_program, iniX10, codX10_program⟩, by decide +kernel, by decide +kernel⟩
theorem lL_44 : aVk RL 44 mX9_clear := ⟨⟨aTb_at 419 (by decide +kernel) (by decide +kernel), insX9_clear, selX9_clear, iniX9, codX9_clear⟩, by decide +kernel, by decide +kernel⟩
theorem lL_48 : aVk RL 48 mX10_clear := ⟨⟨aTb_at 953 (by decide +kernel) (by decide +kernel), insX10_clear, selX10_clear, iniX10, codX10_clear⟩, by decide +kernel, by decide +kernel⟩
theorem lL_49 : aVk RL 49 mX9_time := ⟨⟨aTb_at 423 (by decide +kernel) (by decide +kernel), insX9_time, selX9_time, iniX9, codX9_time⟩, by decide +kernel, by decide +kernel⟩
theorem lL_53 : aVk RL 53 mX10_time := ⟨⟨aTb_at 957 (by decide +kernel) (by decide +kernel), insX10_time, selX10_time, iniX10, codX10_time⟩, by decide +kernel, by decide +kernel⟩
theorem lL_54 : aVk RL 54 mX9_need := ⟨⟨aTb_at 477 (by decide +kernel) (by decide +kernel), insX9_need, selX9_need, iniX9, codX9_need⟩, by decide +kernel, by decide +kernel⟩
theorem lL_58 : aVk RL 58 mX10_need := ⟨⟨aTb_at 975 (by decide +kernel) (by decide +kernel), insX10_need, selX10_need, iniX10, codX10_need⟩, by decide +kernel, by decide +kernel⟩
theorem lL_59 : aVk RL 59 mX9_falls := ⟨⟨aTb_at 497 (by decide +kernel) (by decide +kernel), insX9_falls, selX9_falls, iniX9, codX9_falls⟩, by decide +kernel, by decide +kernel⟩
theorem lL_62 : aVk RL 62 mX10_falls := ⟨⟨aTb_at 987 (by decide +kernel) (by decide +kernel), insX10_falls, selX10_falls, iniX10, codX10_falls⟩, by decide +kernel, by decide +kernel⟩
theorem lL_63 : aVk RL 63 mX9_deal := ⟨⟨aTb_at 507 (by decide +kernel) (by decide +kernel), insX9_deal, selX9_deal, iniX9, codX9_deal⟩, by decide +kernel, by decide +kernel⟩
theorem lL_66 : aVk RL 66 mX10_deal := ⟨⟨aTb_at 992 (by decide +kernel) (by decide +kernel), insX10_deal, selX10_deal, iniX10, codX10_deal⟩, by decide +kernel, by decide +kernel⟩
theorem lL_67 : aVk RL 67 mX9_best := ⟨⟨aTb_at 528 (by decide +kernel) (by decide +kernel), insX9_best, selX9_best, iniX9, codX9_best⟩, by decide +kernel, by decide +kernel⟩
theorem lL_70 : aVk RL 70 mX10_best := ⟨⟨aTb_at 1008 (by decide +kernel) (by decide +kernel), insX10_best, selX10_best, iniX10, codX10_best⟩, by decide +kernel, by decide +kernel⟩
theorem lL_71 : aVk RL 71 mX9_share := ⟨⟨aTb_at 551 (by decide +kernel) (by decide +kernel), insX9_share, selX9_share, iniX9, codX9_share⟩, by decide +kernel, by decide +kernel⟩
theorem lL_74 : aVk RL 74 mX10_share := ⟨⟨aTb_at 1016 (by decide +kernel) (by decide +kernel), insX10_share, selX10_share, iniX10, codX10_share⟩, by decide +kernel, by decide +kernel⟩
theorem lL_75 : aVk RL 75 mX9_begin := ⟨⟨aTb_at 555 (by decide +kernel) (by decide +kernel), insX9_begin, selX9_begin, iniX9, codX9_begin⟩, by decide +kernel, by decide +kernel⟩
theorem lL_79 : aVk RL 79 mX10_begin := ⟨⟨aTb_at 1020 (by decide +kernel) (by decide +kernel), insX10_begin, selX10_begin, iniX10, codX10_begin⟩, by decide +kernel, by decide +kernel⟩
theorem lL_80 : aVk RL 80 mX9_stop := ⟨⟨aTb_at 572 (by decide +kernel) (by decide +kernel), insX9_stop, selX9_stop, iniX9, codX9_stop⟩, by decide +kernel, by decide +kernel⟩
theorem lL_83 : aVk RL 83 mX10_stop := ⟨⟨aTb_at 1024 (by decide +kernel) (by decide +kernel), insX10_stop, selX10_stop, iniX10, codX10_stop⟩, by decide +kernel, by decide +kernel⟩
theorem lL_84 : aVk RL 84 mX9_run := ⟨⟨aTb_at 576 (by decide +kernel) (by decide +kernel), insX9_run, selX9_run, iniX9, codX9_run⟩, by decide +kernel, by decide +kernel⟩
theorem lL_87 : aVk RL 87 mX10_run := ⟨⟨aTb_at 1028 (by decide +kernel) (by decide +kernel), insX10_run, selX10_run, iniX10, codX10_run⟩, by decide +kernel, by decide +kernel⟩
theorem lL_88 : aVk RL 88 mX9_of := ⟨⟨aTb_at 740 (by decide +kernel) (by decide +kernel), insX9_of, selX9_of, iniX9, codX9_of⟩, by decide +kernel, by decide +kernel⟩
theorem lL_91 : aVk RL 91 mX10_of := ⟨⟨aTb_at 1098 (by decide +kernel) (by decide +kernel), insX10_of, selX10_of, iniX10, codX10_of⟩, by decide +kernel, by decide +kernel⟩
theorem lL_92 : aVk RL 92 mX9_count := ⟨⟨aTb_at 748 (by decide +kernel) (by decide +kernel), insX9_count, selX9_count, iniX9, codX9_count⟩, by decide +kernel, by decide +kernel⟩
theorem lL_95 : aVk RL 95 mX10_count := ⟨⟨aTb_at 1102 (by decide +kernel) (by decide +kernel), insX10_count, selX10_count, iniX10, codX10_count⟩, by decide +kernel, by decide +kernel⟩
theorem lL_96 : aVk RL 96 mX9_log := ⟨⟨aTb_at 761 (by decide +kernel) (by decide +kernel), insX9_log, selX9_log, iniX9, codX9_log⟩, by decide +kernel, by decide +kernel⟩
theorem lL_99 : aVk RL 99 mX10_log := ⟨⟨aTb_at 1106 (by decide +kernel) (by decide +kernel), insX10_log, selX10_log, iniX10, codX10_log⟩, by decide +kernel, by decide +kernel⟩
theorem loX10_1 : Cond.methodLink RX10 1 Lib.objectInit ∈ aTb := aTb_at 775 (by decide +kernel) (by decide +kernel)
theorem lX10_124 : aSk RX10 124 mX10_in := ⟨⟨aTb_at 923 (by decide +kernel) (by decide +kernel), staX10_in, iniX10, codX10_in⟩, by decide +kernel, by decide +kernel⟩
theorem lX10_128 : aSk RX10 128 mX10_isSlot := ⟨⟨aTb_at 920 (by decide +kernel) (by decide +kernel), staX10_isSlot, iniX10, codX10_isSlot⟩, by decide +kernel, by decide +kernel⟩
theorem lX10_132 : aSk RX10 132 mX10_cut := ⟨⟨aTb_at 934 (by decide +kernel) (by decide +kernel), staX10_cut, iniX10, codX10_cut⟩, by decide +kernel, by decide +kernel⟩
theorem lX10_160 : aSk RX10 160 mX10_holds := ⟨⟨aTb_at 969 (by decide +kernel) (by decide +kernel), staX10_holds, iniX10, codX10_holds⟩, by decide +kernel, by decide +kernel⟩
theorem lX10_164 : aSk RX10 164 mX10_cost := ⟨⟨aTb_at 972 (by decide +kernel) (by decide +kernel), staX10_cost, iniX10, codX10_cost⟩, by decide +kernel, by decide +kernel⟩
theorem lX10_168 : aVk RX10 168 mX10_isProgram := ⟨⟨aTb_at 961 (by decide +kernel) (by decide +kernel), insX10_isProgram, selX10_isProgram, iniX10, codX10_isProgram⟩, by decide +kernel, by decide +kernel⟩
theorem lX10_171 : aVk RX10 171 mX10_alone := ⟨⟨aTb_at 965 (by decide +kernel) (by decide +kernel), insX10_alone, selX10_alone, iniX10, codX10_alone⟩, by decide +kernel, by decide +kernel⟩
theorem lX10_174 : aVk RX10 174 mX10_up := ⟨⟨aTb_at 983 (by decide +kernel) (by decide +kernel), insX10_up, selX10_up, iniX10, codX10_up⟩, by decide +kernel, by decide +kernel⟩
theorem lX10_178 : aVk RX10 178 mX10_needOf := ⟨⟨aTb_at 979 (by decide +kernel) (by decide +kernel), insX10_needOf, selX10_needOf, iniX10, codX10_needOf⟩, by decide +kernel, by decide +kernel⟩
theorem lX10_184 : aVk RX10 184 mX10_areNeeds := ⟨⟨aTb_at 1000 (by decide +kernel) (by decide +kernel), insX10_areNeeds, selX10_areNeeds, iniX10, codX10_areNeeds⟩, by decide +kernel, by decide +kernel⟩
theorem lX10_188 : aVk RX10 188 mX10_sum := ⟨⟨aTb_at 1004 (by decide +kernel) (by decide +kernel), insX10_sum, selX10_sum, iniX10, codX10_sum⟩, by decide +kernel, by decide +kernel⟩
theorem lX10_192 : aVk RX10 192 mX10_dealt := ⟨⟨aTb_at 996 (by decide +kernel) (by decide +kernel), insX10_dealt, selX10_dealt, iniX10, codX10_dealt⟩, by decide +kernel, by decide +kernel⟩
theorem lX10_197 : aSk RX10 197 mJ9_min_f86c9 := ⟨⟨aTb_at 1013 (by decide +kernel) (by decide +kernel), staJ9_min_f86c9, iniJ9, codJ9_min_f86c9⟩, by decide +kernel, by decide +kernel⟩
theorem lX10_215 : aVk RX10 215 mX10_tells := ⟨⟨aTb_at 1053 (by decide +kernel) (by decide +kernel), insX10_tells, selX10_tells, iniX10, codX10_tells⟩, by decide +kernel, by decide +kernel⟩
theorem lX10_219 : aVk RX10 219 mX10_isThere := ⟨⟨aTb_at 1036 (by decide +kernel) (by decide +kernel), insX10_isThere, selX10_isThere, iniX10, codX10_isThere⟩, by decide +kernel, by decide +kernel⟩
theorem lX10_222 : aSk RX10 222 mJ9_max_7cf53 := ⟨⟨aTb_at 1077 (by decide +kernel) (by decide +kernel), staJ9_max_7cf53, iniJ9, codJ9_max_7cf53⟩, by decide +kernel, by decide +kernel⟩
theorem lX10_225 : aVk RX10 225 mX10_collects := ⟨⟨aTb_at 1065 (by decide +kernel) (by decide +kernel), insX10_collects, selX10_collects, iniX10, codX10_collects⟩, by decide +kernel, by decide +kernel⟩
theorem lX10_228 : aSk RX10 228 mJ9_min_7cf53 := ⟨⟨aTb_at 1052 (by decide +kernel) (by decide +kernel), staJ9_min_7cf53, iniJ9, codJ9_min_7cf53⟩, by decide +kernel, by decide +kernel⟩
theorem lX10_230 : aVk RX10 230 mX10_isOver := ⟨⟨aTb_at 1057 (by decide +kernel) (by decide +kernel), insX10_isOver, selX10_isOver, iniX10, codX10_isOver⟩, by decide +kernel, by decide +kernel⟩
theorem lX10_234 : aVk RX10 234 mX10_passes := ⟨⟨aTb_at 1048 (by decide +kernel) (by decide +kernel), insX10_passes, selX10_passes, iniX10, codX10_passes⟩, by decide +kernel, by decide +kernel⟩
theorem lX10_238 : aVk RX10 238 mX10_spare := ⟨⟨aTb_at 1073 (by decide +kernel) (by decide +kernel), insX10_spare, selX10_spare, iniX10, codX10_spare⟩, by decide +kernel, by decide +kernel⟩
theorem lX10_241 : aVk RX10 241 mX10_gives := ⟨⟨aTb_at 1078 (by decide +kernel) (by decide +kernel), insX10_gives, selX10_gives, iniX10, codX10_gives⟩, by decide +kernel, by decide +kernel⟩
theorem lX10_244 : aVk RX10 244 mX10_isUp := ⟨⟨aTb_at 1082 (by decide +kernel) (by decide +kernel), insX10_isUp, selX10_isUp, iniX10, codX10_isUp⟩, by decide +kernel, by decide +kernel⟩
theorem lX10_247 : aVk RX10 247 mX10_makes := ⟨⟨aTb_at 1061 (by decide +kernel) (by decide +kernel), insX10_makes, selX10_makes, iniX10, codX10_makes⟩, by decide +kernel, by decide +kernel⟩
theorem lX10_249 : aVk RX10 249 mX10_asks := ⟨⟨aTb_at 1069 (by decide +kernel) (by decide +kernel), insX10_asks, selX10_asks, iniX10, codX10_asks⟩, by decide +kernel, by decide +kernel⟩
theorem lX10_253 : aVk RX10 253 mX10_acts := ⟨⟨aTb_at 1044 (by decide +kernel) (by decide +kernel), insX10_acts, selX10_acts, iniX10, codX10_acts⟩, by decide +kernel, by decide +kernel⟩
theorem lX10_256 : aVk RX10 256 mX10_redeals := ⟨⟨aTb_at 1086 (by decide +kernel) (by decide +kernel), insX10_redeals, selX10_redeals, iniX10, codX10_redeals⟩, by decide +kernel, by decide +kernel⟩
theorem lX10_259 : aVk RX10 259 mX10_swung := ⟨⟨aTb_at 1090 (by decide +kernel) (by decide +kernel), insX10_swung, selX10_swung, iniX10, codX10_swung⟩, by decide +kernel, by decide +kernel⟩
theorem lX10_262 : aVk RX10 262 mX10_s := ⟨⟨aTb_at 1094 (by decide +kernel) (by decide +kernel), insX10_s, selX10_s, iniX10, codX10_s⟩, by decide +kernel, by decide +kernel⟩
theorem lX10_265 : aVk RX10 265 mX10_isAny := ⟨⟨aTb_at 1032 (by decide +kernel) (by decide +kernel), insX10_isAny, selX10_isAny, iniX10, codX10_isAny⟩, by decide +kernel, by decide +kernel⟩
theorem lX10_268 : aVk RX10 268 mX10_ticks := ⟨⟨aTb_at 1040 (by decide +kernel) (by decide +kernel), insX10_ticks, selX10_ticks, iniX10, codX10_ticks⟩, by decide +kernel, by decide +kernel⟩
theorem lX9_15 : aNk RX9 15 "RoomDealer" mX3_init := ⟨⟨List.mem_append_right _ (List.mem_of_getElem? (i := 25) (by decide +kernel)), insX3_init, iniX3, codX3_init⟩, by decide +kernel, by decide +kernel⟩
theorem lX9_22 : aNk RX9 22 "RoomDealer" mX1_init := ⟨⟨List.mem_append_right _ (List.mem_of_getElem? (i := 48) (by decide +kernel)), insX1_init, iniX1, codX1_init⟩, by decide +kernel, by decide +kernel⟩
theorem lX9_25 : aNk RX9 25 "RoomDealer" mX5_init := ⟨⟨List.mem_append_right _ (List.mem_of_getElem? (i := 90) (by decide +kernel)), insX5_init, iniX5, codX5_init⟩, by decide +kernel, by decide +kernel⟩
theorem lX0_11 : aNk RX0 11 "RoomDealer" mX8_init := ⟨⟨List.mem_append_right _ (List.mem_of_getElem? (i := 130) (by decide +kernel)), insX8_init, iniX8, codX8_init⟩, by decide +kernel, by decide +kernel⟩
theorem lX2_11 : aNk RX2 11 "RoomDealer" mX6_init := ⟨⟨List.mem_append_right _ (List.mem_of_getElem? (i := 236) (by decide +kernel)), insX6_init, iniX6, codX6_init⟩, by decide +kernel, by decide +kernel⟩
theorem lX7_11 : aNk RX7 11 "RoomDealer" mX4_init := ⟨⟨List.mem_append_right _ (List.mem_of_getElem? (i := 207) (by decide +kernel)), insX4_init, iniX4, codX4_init⟩, by decide +kernel, by decide +kernel⟩
theorem lX8_11 : aNk RX8 11 "RoomDealer" mX6_init := ⟨⟨List.mem_append_right _ (List.mem_of_getElem? (i := 136) (by decide +kernel)), insX6_init, iniX6, codX6_init⟩, by decide +kernel, by decide +kernel⟩
theorem fX9_11 : aFk RX9 11 9 0 := ⟨⟨by decide, by decide⟩, aTb_at 331 (by decide +kernel) (by decide +kernel)⟩
theorem fX9_18 : aFk RX9 18 9 2 := ⟨⟨by decide, by decide⟩, aTb_at 333 (by decide +kernel) (by decide +kernel)⟩
theorem fX9_26 : aFk RX9 26 9 1 := ⟨⟨by decide, by decide⟩, aTb_at 332 (by decide +kernel) (by decide +kernel)⟩
theorem fX9_35 : aFk RX9 35 9 3 := ⟨⟨by decide, by decide⟩, aTb_at 334 (by decide +kernel) (by decide +kernel)⟩
theorem fX9_44 : aFk RX9 44 9 4 := ⟨⟨by decide, by decide⟩, aTb_at 335 (by decide +kernel) (by decide +kernel)⟩
theorem fX9_63 : aFk RX9 63 3 2 := ⟨⟨by decide, by decide⟩, aTb_at 36 (by decide +kernel) (by decide +kernel)⟩
theorem fX9_67 : aFk RX9 67 3 0 := ⟨⟨by decide, by decide⟩, aTb_at 31 (by decide +kernel) (by decide +kernel)⟩
theorem fX9_75 : aFk RX9 75 3 1 := ⟨⟨by decide, by decide⟩, aTb_at 33 (by decide +kernel) (by decide +kernel)⟩
theorem fX9_88 : aFk RX9 88 7 4 := ⟨⟨by decide, by decide⟩, aTb_at 311 (by decide +kernel) (by decide +kernel)⟩
theorem fX9_96 : aFk RX9 96 5 0 := ⟨⟨by decide, by decide⟩, aTb_at 97 (by decide +kernel) (by decide +kernel)⟩
theorem fX9_99 : aFk RX9 99 5 1 := ⟨⟨by decide, by decide⟩, aTb_at 101 (by decide +kernel) (by decide +kernel)⟩
theorem fX9_102 : aFk RX9 102 5 2 := ⟨⟨by decide, by decide⟩, aTb_at 103 (by decide +kernel) (by decide +kernel)⟩
theorem fX9_105 : aFk RX9 105 5 3 := ⟨⟨by decide, by decide⟩, aTb_at 107 (by decide +kernel) (by decide +kernel)⟩
theorem fX9_108 : aFk RX9 108 5 4 := ⟨⟨by decide, by decide⟩, aTb_at 109 (by decide +kernel) (by decide +kernel)⟩
theorem fX9_111 : aFk RX9 111 0 4 := ⟨⟨by decide, by decide⟩, aTb_at 184 (by decide +kernel) (by decide +kernel)⟩
theorem fX9_114 : aFk RX9 114 9 5 := ⟨⟨by decide, by decide⟩, aTb_at 336 (by decide +kernel) (by decide +kernel)⟩
theorem fX9_117 : aFk RX9 117 1 6 := ⟨⟨by decide, by decide⟩, aTb_at 71 (by decide +kernel) (by decide +kernel)⟩
theorem fX9_127 : aFk RX9 127 7 3 := ⟨⟨by decide, by decide⟩, aTb_at 309 (by decide +kernel) (by decide +kernel)⟩
theorem fX9_155 : aFk RX9 155 0 2 := ⟨⟨by decide, by decide⟩, aTb_at 181 (by decide +kernel) (by decide +kernel)⟩
theorem fX9_169 : aFk RX9 169 7 5 := ⟨⟨by decide, by decide⟩, aTb_at 313 (by decide +kernel) (by decide +kernel)⟩
theorem fX9_172 : aFk RX9 172 7 2 := ⟨⟨by decide, by decide⟩, aTb_at 307 (by decide +kernel) (by decide +kernel)⟩
theorem fX9_182 : aFk RX9 182 7 6 := ⟨⟨by decide, by decide⟩, aTb_at 315 (by decide +kernel) (by decide +kernel)⟩
theorem fX9_185 : aFk RX9 185 7 1 := ⟨⟨by decide, by decide⟩, aTb_at 305 (by decide +kernel) (by decide +kernel)⟩
theorem fX9_194 : aFk RX9 194 4 4 := ⟨⟨by decide, by decide⟩, aTb_at 216 (by decide +kernel) (by decide +kernel)⟩
theorem fX0_12 : aFk RX0 12 0 1 := ⟨⟨by decide, by decide⟩, aTb_at 179 (by decide +kernel) (by decide +kernel)⟩
theorem fX0_18 : aFk RX0 18 0 2 := ⟨⟨by decide, by decide⟩, aTb_at 180 (by decide +kernel) (by decide +kernel)⟩
theorem fX0_22 : aFk RX0 22 0 3 := ⟨⟨by decide, by decide⟩, aTb_at 182 (by decide +kernel) (by decide +kernel)⟩
theorem fX0_25 : aFk RX0 25 0 4 := ⟨⟨by decide, by decide⟩, aTb_at 183 (by decide +kernel) (by decide +kernel)⟩
theorem fX0_31 : aFk RX0 31 0 5 := ⟨⟨by decide, by decide⟩, aTb_at 185 (by decide +kernel) (by decide +kernel)⟩
theorem fX0_34 : aFk RX0 34 0 0 := ⟨⟨by decide, by decide⟩, aTb_at 178 (by decide +kernel) (by decide +kernel)⟩
theorem fX0_50 : aFk RX0 50 1 4 := ⟨⟨by decide, by decide⟩, aTb_at 65 (by decide +kernel) (by decide +kernel)⟩
theorem fX0_65 : aFk RX0 65 1 5 := ⟨⟨by decide, by decide⟩, aTb_at 68 (by decide +kernel) (by decide +kernel)⟩
theorem fX0_68 : aFk RX0 68 1 6 := ⟨⟨by decide, by decide⟩, aTb_at 70 (by decide +kernel) (by decide +kernel)⟩
theorem fX0_71 : aFk RX0 71 5 0 := ⟨⟨by decide, by decide⟩, aTb_at 96 (by decide +kernel) (by decide +kernel)⟩
theorem fX1_9 : aFk RX1 9 1 0 := ⟨⟨by decide, by decide⟩, aTb_at 52 (by decide +kernel) (by decide +kernel)⟩
theorem fX1_15 : aFk RX1 15 1 5 := ⟨⟨by decide, by decide⟩, aTb_at 67 (by decide +kernel) (by decide +kernel)⟩
theorem fX1_18 : aFk RX1 18 3 2 := ⟨⟨by decide, by decide⟩, aTb_at 35 (by decide +kernel) (by decide +kernel)⟩
theorem fX1_24 : aFk RX1 24 1 1 := ⟨⟨by decide, by decide⟩, aTb_at 55 (by decide +kernel) (by decide +kernel)⟩
theorem fX1_25 : aFk RX1 25 3 0 := ⟨⟨by decide, by decide⟩, aTb_at 30 (by decide +kernel) (by decide +kernel)⟩
theorem fX1_29 : aFk RX1 29 1 2 := ⟨⟨by decide, by decide⟩, aTb_at 59 (by decide +kernel) (by decide +kernel)⟩
theorem fX1_33 : aFk RX1 33 1 3 := ⟨⟨by decide, by decide⟩, aTb_at 61 (by decide +kernel) (by decide +kernel)⟩
theorem fX1_36 : aFk RX1 36 1 4 := ⟨⟨by decide, by decide⟩, aTb_at 64 (by decide +kernel) (by decide +kernel)⟩
theorem fX1_39 : aFk RX1 39 1 6 := ⟨⟨by decide, by decide⟩, aTb_at 69 (by decide +kernel) (by decide +kernel)⟩
theorem fX2_12 : aFk RX2 12 2 0 := ⟨⟨by decide, by decide⟩, aTb_at 237 (by decide +kernel) (by decide +kernel)⟩
theorem fX2_18 : aFk RX2 18 2 1 := ⟨⟨by decide, by decide⟩, aTb_at 239 (by decide +kernel) (by decide +kernel)⟩
theorem fX2_22 : aFk RX2 22 2 2 := ⟨⟨by decide, by decide⟩, aTb_at 241 (by decide +kernel) (by decide +kernel)⟩
theorem fX2_29 : aFk RX2 29 2 3 := ⟨⟨by decide, by decide⟩, aTb_at 243 (by decide +kernel) (by decide +kernel)⟩
theorem fX2_32 : aFk RX2 32 2 4 := ⟨⟨by decide, by decide⟩, aTb_at 245 (by decide +kernel) (by decide +kernel)⟩
theorem fX2_35 : aFk RX2 35 2 5 := ⟨⟨by decide, by decide⟩, aTb_at 247 (by decide +kernel) (by decide +kernel)⟩
theorem fX2_38 : aFk RX2 38 2 6 := ⟨⟨by decide, by decide⟩, aTb_at 249 (by decide +kernel) (by decide +kernel)⟩
theorem fX2_41 : aFk RX2 41 2 7 := ⟨⟨by decide, by decide⟩, aTb_at 251 (by decide +kernel) (by decide +kernel)⟩
theorem fX2_44 : aFk RX2 44 2 8 := ⟨⟨by decide, by decide⟩, aTb_at 253 (by decide +kernel) (by decide +kernel)⟩
theorem fX2_47 : aFk RX2 47 2 9 := ⟨⟨by decide, by decide⟩, aTb_at 254 (by decide +kernel) (by decide +kernel)⟩
theorem fX2_50 : aFk RX2 50 2 10 := ⟨⟨by decide, by decide⟩, aTb_at 256 (by decide +kernel) (by decide +kernel)⟩
theorem fX2_53 : aFk RX2 53 2 11 := ⟨⟨by decide, by decide⟩, aTb_at 257 (by decide +kernel) (by decide +kernel)⟩
theorem fX2_56 : aFk RX2 56 2 12 := ⟨⟨by decide, by decide⟩, aTb_at 259 (by decide +kernel) (by decide +kernel)⟩
theorem fX2_60 : aFk RX2 60 2 13 := ⟨⟨by decide, by decide⟩, aTb_at 261 (by decide +kernel) (by decide +kernel)⟩
theorem fX2_63 : aFk RX2 63 2 14 := ⟨⟨by decide, by decide⟩, aTb_at 263 (by decide +kernel) (by decide +kernel)⟩
theorem fX2_66 : aFk RX2 66 2 15 := ⟨⟨by decide, by decide⟩, aTb_at 265 (by decide +kernel) (by decide +kernel)⟩
theorem fX2_69 : aFk RX2 69 2 16 := ⟨⟨by decide, by decide⟩, aTb_at 266 (by decide +kernel) (by decide +kernel)⟩
theorem fX2_72 : aFk RX2 72 1 1 := ⟨⟨by decide, by decide⟩, aTb_at 57 (by decide +kernel) (by decide +kernel)⟩
theorem fX2_77 : aFk RX2 77 1 0 := ⟨⟨by decide, by decide⟩, aTb_at 54 (by decide +kernel) (by decide +kernel)⟩
theorem fX2_93 : aFk RX2 93 5 0 := ⟨⟨by decide, by decide⟩, aTb_at 98 (by decide +kernel) (by decide +kernel)⟩
theorem fX2_98 : aFk RX2 98 1 4 := ⟨⟨by decide, by decide⟩, aTb_at 66 (by decide +kernel) (by decide +kernel)⟩
theorem fX2_101 : aFk RX2 101 6 2 := ⟨⟨by decide, by decide⟩, aTb_at 146 (by decide +kernel) (by decide +kernel)⟩
theorem fX2_131 : aFk RX2 131 1 2 := ⟨⟨by decide, by decide⟩, aTb_at 60 (by decide +kernel) (by decide +kernel)⟩
theorem fX2_142 : aFk RX2 142 6 1 := ⟨⟨by decide, by decide⟩, aTb_at 142 (by decide +kernel) (by decide +kernel)⟩
theorem fX3_9 : aFk RX3 9 3 0 := ⟨⟨by decide, by decide⟩, aTb_at 29 (by decide +kernel) (by decide +kernel)⟩
theorem fX3_15 : aFk RX3 15 3 1 := ⟨⟨by decide, by decide⟩, aTb_at 32 (by decide +kernel) (by decide +kernel)⟩
theorem fX3_19 : aFk RX3 19 3 2 := ⟨⟨by decide, by decide⟩, aTb_at 34 (by decide +kernel) (by decide +kernel)⟩
theorem fX4_9 : aFk RX4 9 4 0 := ⟨⟨by decide, by decide⟩, aTb_at 211 (by decide +kernel) (by decide +kernel)⟩
theorem fX4_15 : aFk RX4 15 4 1 := ⟨⟨by decide, by decide⟩, aTb_at 212 (by decide +kernel) (by decide +kernel)⟩
theorem fX4_18 : aFk RX4 18 4 2 := ⟨⟨by decide, by decide⟩, aTb_at 213 (by decide +kernel) (by decide +kernel)⟩
theorem fX4_21 : aFk RX4 21 4 3 := ⟨⟨by decide, by decide⟩, aTb_at 214 (by decide +kernel) (by decide +kernel)⟩
theorem fX4_24 : aFk RX4 24 4 4 := ⟨⟨by decide, by decide⟩, aTb_at 215 (by decide +kernel) (by decide +kernel)⟩
theorem fX5_9 : aFk RX5 9 5 0 := ⟨⟨by decide, by decide⟩, aTb_at 94 (by decide +kernel) (by decide +kernel)⟩
theorem fX5_15 : aFk RX5 15 5 1 := ⟨⟨by decide, by decide⟩, aTb_at 99 (by decide +kernel) (by decide +kernel)⟩
theorem fX5_18 : aFk RX5 18 5 2 := ⟨⟨by decide, by decide⟩, aTb_at 102 (by decide +kernel) (by decide +kernel)⟩
theorem fX5_21 : aFk RX5 21 5 3 := ⟨⟨by decide, by decide⟩, aTb_at 105 (by decide +kernel) (by decide +kernel)⟩
theorem fX5_24 : aFk RX5 24 5 4 := ⟨⟨by decide, by decide⟩, aTb_at 108 (by decide +kernel) (by decide +kernel)⟩
theorem fX6_11 : aFk RX6 11 6 0 := ⟨⟨by decide, by decide⟩, aTb_at 140 (by decide +kernel) (by decide +kernel)⟩
theorem fX6_15 : aFk RX6 15 6 1 := ⟨⟨by decide, by decide⟩, aTb_at 141 (by decide +kernel) (by decide +kernel)⟩
theorem fX6_19 : aFk RX6 19 6 2 := ⟨⟨by decide, by decide⟩, aTb_at 143 (by decide +kernel) (by decide +kernel)⟩
theorem fX7_12 : aFk RX7 12 7 1 := ⟨⟨by decide, by decide⟩, aTb_at 304 (by decide +kernel) (by decide +kernel)⟩
theorem fX7_20 : aFk RX7 20 7 2 := ⟨⟨by decide, by decide⟩, aTb_at 306 (by decide +kernel) (by decide +kernel)⟩
theorem fX7_24 : aFk RX7 24 7 3 := ⟨⟨by decide, by decide⟩, aTb_at 308 (by decide +kernel) (by decide +kernel)⟩
theorem fX7_28 : aFk RX7 28 7 4 := ⟨⟨by decide, by decide⟩, aTb_at 310 (by decide +kernel) (by decide +kernel)⟩
theorem fX7_32 : aFk RX7 32 7 5 := ⟨⟨by decide, by decide⟩, aTb_at 312 (by decide +kernel) (by decide +kernel)⟩
theorem fX7_35 : aFk RX7 35 7 6 := ⟨⟨by decide, by decide⟩, aTb_at 314 (by decide +kernel) (by decide +kernel)⟩
theorem fX7_38 : aFk RX7 38 7 0 := ⟨⟨by decide, by decide⟩, aTb_at 303 (by decide +kernel) (by decide +kernel)⟩
theorem fX7_48 : aFk RX7 48 5 1 := ⟨⟨by decide, by decide⟩, aTb_at 100 (by decide +kernel) (by decide +kernel)⟩
theorem fX7_53 : aFk RX7 53 5 0 := ⟨⟨by decide, by decide⟩, aTb_at 95 (by decide +kernel) (by decide +kernel)⟩
theorem fX7_71 : aFk RX7 71 2 3 := ⟨⟨by decide, by decide⟩, aTb_at 244 (by decide +kernel) (by decide +kernel)⟩
theorem fX7_80 : aFk RX7 80 5 3 := ⟨⟨by decide, by decide⟩, aTb_at 106 (by decide +kernel) (by decide +kernel)⟩
theorem fX7_86 : aFk RX7 86 2 11 := ⟨⟨by decide, by decide⟩, aTb_at 258 (by decide +kernel) (by decide +kernel)⟩
theorem fX7_103 : aFk RX7 103 2 0 := ⟨⟨by decide, by decide⟩, aTb_at 238 (by decide +kernel) (by decide +kernel)⟩
theorem fX7_116 : aFk RX7 116 2 5 := ⟨⟨by decide, by decide⟩, aTb_at 248 (by decide +kernel) (by decide +kernel)⟩
theorem fX7_119 : aFk RX7 119 6 2 := ⟨⟨by decide, by decide⟩, aTb_at 145 (by decide +kernel) (by decide +kernel)⟩
theorem fX7_137 : aFk RX7 137 2 13 := ⟨⟨by decide, by decide⟩, aTb_at 262 (by decide +kernel) (by decide +kernel)⟩
theorem fX7_140 : aFk RX7 140 2 14 := ⟨⟨by decide, by decide⟩, aTb_at 264 (by decide +kernel) (by decide +kernel)⟩
theorem fX7_143 : aFk RX7 143 2 4 := ⟨⟨by decide, by decide⟩, aTb_at 246 (by decide +kernel) (by decide +kernel)⟩
theorem fX7_155 : aFk RX7 155 2 1 := ⟨⟨by decide, by decide⟩, aTb_at 240 (by decide +kernel) (by decide +kernel)⟩
theorem fX7_162 : aFk RX7 162 2 7 := ⟨⟨by decide, by decide⟩, aTb_at 252 (by decide +kernel) (by decide +kernel)⟩
theorem fX7_165 : aFk RX7 165 2 2 := ⟨⟨by decide, by decide⟩, aTb_at 242 (by decide +kernel) (by decide +kernel)⟩
theorem fX7_169 : aFk RX7 169 1 1 := ⟨⟨by decide, by decide⟩, aTb_at 58 (by decide +kernel) (by decide +kernel)⟩
theorem fX7_177 : aFk RX7 177 2 12 := ⟨⟨by decide, by decide⟩, aTb_at 260 (by decide +kernel) (by decide +kernel)⟩
theorem fX7_180 : aFk RX7 180 2 16 := ⟨⟨by decide, by decide⟩, aTb_at 267 (by decide +kernel) (by decide +kernel)⟩
theorem fX7_183 : aFk RX7 183 2 6 := ⟨⟨by decide, by decide⟩, aTb_at 250 (by decide +kernel) (by decide +kernel)⟩
theorem fX7_186 : aFk RX7 186 1 3 := ⟨⟨by decide, by decide⟩, aTb_at 63 (by decide +kernel) (by decide +kernel)⟩
theorem fX7_224 : aFk RX7 224 5 4 := ⟨⟨by decide, by decide⟩, aTb_at 110 (by decide +kernel) (by decide +kernel)⟩
theorem fX7_230 : aFk RX7 230 2 9 := ⟨⟨by decide, by decide⟩, aTb_at 255 (by decide +kernel) (by decide +kernel)⟩
theorem fX7_236 : aFk RX7 236 5 2 := ⟨⟨by decide, by decide⟩, aTb_at 104 (by decide +kernel) (by decide +kernel)⟩
theorem fX8_12 : aFk RX8 12 8 0 := ⟨⟨by decide, by decide⟩, aTb_at 154 (by decide +kernel) (by decide +kernel)⟩
theorem fX8_18 : aFk RX8 18 8 1 := ⟨⟨by decide, by decide⟩, aTb_at 155 (by decide +kernel) (by decide +kernel)⟩
theorem fX8_22 : aFk RX8 22 8 2 := ⟨⟨by decide, by decide⟩, aTb_at 156 (by decide +kernel) (by decide +kernel)⟩
theorem fX8_25 : aFk RX8 25 8 3 := ⟨⟨by decide, by decide⟩, aTb_at 157 (by decide +kernel) (by decide +kernel)⟩
theorem fX8_34 : aFk RX8 34 8 4 := ⟨⟨by decide, by decide⟩, aTb_at 158 (by decide +kernel) (by decide +kernel)⟩
theorem fX8_38 : aFk RX8 38 8 5 := ⟨⟨by decide, by decide⟩, aTb_at 159 (by decide +kernel) (by decide +kernel)⟩
theorem fX8_41 : aFk RX8 41 8 6 := ⟨⟨by decide, by decide⟩, aTb_at 160 (by decide +kernel) (by decide +kernel)⟩
theorem fX8_52 : aFk RX8 52 1 3 := ⟨⟨by decide, by decide⟩, aTb_at 62 (by decide +kernel) (by decide +kernel)⟩
theorem fX8_59 : aFk RX8 59 1 1 := ⟨⟨by decide, by decide⟩, aTb_at 56 (by decide +kernel) (by decide +kernel)⟩
theorem fX8_62 : aFk RX8 62 1 0 := ⟨⟨by decide, by decide⟩, aTb_at 53 (by decide +kernel) (by decide +kernel)⟩
theorem fX8_77 : aFk RX8 77 6 2 := ⟨⟨by decide, by decide⟩, aTb_at 144 (by decide +kernel) (by decide +kernel)⟩
theorem fX10_9 : aFk RX10 9 10 1 := ⟨⟨by decide, by decide⟩, aTb_at 777 (by decide +kernel) (by decide +kernel)⟩
theorem fX10_13 : aFk RX10 13 10 2 := ⟨⟨by decide, by decide⟩, aTb_at 778 (by decide +kernel) (by decide +kernel)⟩
theorem fX10_16 : aFk RX10 16 10 3 := ⟨⟨by decide, by decide⟩, aTb_at 779 (by decide +kernel) (by decide +kernel)⟩
theorem fX10_20 : aFk RX10 20 10 4 := ⟨⟨by decide, by decide⟩, aTb_at 780 (by decide +kernel) (by decide +kernel)⟩
theorem fX10_23 : aFk RX10 23 10 5 := ⟨⟨by decide, by decide⟩, aTb_at 781 (by decide +kernel) (by decide +kernel)⟩
theorem fX10_27 : aFk RX10 27 10 6 := ⟨⟨by decide, by decide⟩, aTb_at 782 (by decide +kernel) (by decide +kernel)⟩
theorem fX10_30 : aFk RX10 30 10 8 := ⟨⟨by decide, by decide⟩, aTb_at 784 (by decide +kernel) (by decide +kernel)⟩
theorem fX10_33 : aFk RX10 33 10 9 := ⟨⟨by decide, by decide⟩, aTb_at 785 (by decide +kernel) (by decide +kernel)⟩
theorem fX10_36 : aFk RX10 36 10 11 := ⟨⟨by decide, by decide⟩, aTb_at 787 (by decide +kernel) (by decide +kernel)⟩
theorem fX10_39 : aFk RX10 39 10 12 := ⟨⟨by decide, by decide⟩, aTb_at 788 (by decide +kernel) (by decide +kernel)⟩
theorem fX10_42 : aFk RX10 42 10 13 := ⟨⟨by decide, by decide⟩, aTb_at 789 (by decide +kernel) (by decide +kernel)⟩
theorem fX10_45 : aFk RX10 45 10 14 := ⟨⟨by decide, by decide⟩, aTb_at 790 (by decide +kernel) (by decide +kernel)⟩
theorem fX10_48 : aFk RX10 48 10 15 := ⟨⟨by decide, by decide⟩, aTb_at 791 (by decide +kernel) (by decide +kernel)⟩
theorem fX10_51 : aFk RX10 51 10 16 := ⟨⟨by decide, by decide⟩, aTb_at 792 (by decide +kernel) (by decide +kernel)⟩
theorem fX10_54 : aFk RX10 54 10 18 := ⟨⟨by decide, by decide⟩, aTb_at 794 (by decide +kernel) (by decide +kernel)⟩
theorem fX10_57 : aFk RX10 57 10 19 := ⟨⟨by decide, by decide⟩, aTb_at 795 (by decide +kernel) (by decide +kernel)⟩
theorem fX10_60 : aFk RX10 60 10 20 := ⟨⟨by decide, by decide⟩, aTb_at 796 (by decide +kernel) (by decide +kernel)⟩
theorem fX10_63 : aFk RX10 63 10 21 := ⟨⟨by decide, by decide⟩, aTb_at 797 (by decide +kernel) (by decide +kernel)⟩
theorem fX10_66 : aFk RX10 66 10 28 := ⟨⟨by decide, by decide⟩, aTb_at 804 (by decide +kernel) (by decide +kernel)⟩
theorem fX10_69 : aFk RX10 69 10 29 := ⟨⟨by decide, by decide⟩, aTb_at 805 (by decide +kernel) (by decide +kernel)⟩
theorem fX10_72 : aFk RX10 72 10 30 := ⟨⟨by decide, by decide⟩, aTb_at 806 (by decide +kernel) (by decide +kernel)⟩
theorem fX10_75 : aFk RX10 75 10 31 := ⟨⟨by decide, by decide⟩, aTb_at 807 (by decide +kernel) (by decide +kernel)⟩
theorem fX10_78 : aFk RX10 78 10 32 := ⟨⟨by decide, by decide⟩, aTb_at 808 (by decide +kernel) (by decide +kernel)⟩
theorem fX10_81 : aFk RX10 81 10 33 := ⟨⟨by decide, by decide⟩, aTb_at 809 (by decide +kernel) (by decide +kernel)⟩
theorem fX10_84 : aFk RX10 84 10 34 := ⟨⟨by decide, by decide⟩, aTb_at 810 (by decide +kernel) (by decide +kernel)⟩
theorem fX10_87 : aFk RX10 87 10 35 := ⟨⟨by decide, by decide⟩, aTb_at 811 (by decide +kernel) (by decide +kernel)⟩
theorem fX10_90 : aFk RX10 90 10 36 := ⟨⟨by decide, by decide⟩, aTb_at 812 (by decide +kernel) (by decide +kernel)⟩
theorem fX10_93 : aFk RX10 93 10 37 := ⟨⟨by decide, by decide⟩, aTb_at 813 (by decide +kernel) (by decide +kernel)⟩
theorem fX10_96 : aFk RX10 96 10 38 := ⟨⟨by decide, by decide⟩, aTb_at 814 (by decide +kernel) (by decide +kernel)⟩
theorem fX10_99 : aFk RX10 99 10 39 := ⟨⟨by decide, by decide⟩, aTb_at 815 (by decide +kernel) (by decide +kernel)⟩
theorem fX10_102 : aFk RX10 102 10 40 := ⟨⟨by decide, by decide⟩, aTb_at 816 (by decide +kernel) (by decide +kernel)⟩
theorem fX10_105 : aFk RX10 105 10 41 := ⟨⟨by decide, by decide⟩, aTb_at 817 (by decide +kernel) (by decide +kernel)⟩
theorem fX10_108 : aFk RX10 108 10 42 := ⟨⟨by decide, by decide⟩, aTb_at 818 (by decide +kernel) (by decide +kernel)⟩
theorem fX10_112 : aFk RX10 112 10 43 := ⟨⟨by decide, by decide⟩, aTb_at 819 (by decide +kernel) (by decide +kernel)⟩
theorem fX10_115 : aFk RX10 115 10 44 := ⟨⟨by decide, by decide⟩, aTb_at 820 (by decide +kernel) (by decide +kernel)⟩
theorem fX10_118 : aFk RX10 118 10 45 := ⟨⟨by decide, by decide⟩, aTb_at 821 (by decide +kernel) (by decide +kernel)⟩
theorem fX10_121 : aFk RX10 121 10 0 := ⟨⟨by decide, by decide⟩, aTb_at 776 (by decide +kernel) (by decide +kernel)⟩
theorem fX10_136 : aFk RX10 136 10 22 := ⟨⟨by decide, by decide⟩, aTb_at 798 (by decide +kernel) (by decide +kernel)⟩
theorem fX10_140 : aFk RX10 140 10 7 := ⟨⟨by decide, by decide⟩, aTb_at 783 (by decide +kernel) (by decide +kernel)⟩
theorem fX10_143 : aFk RX10 143 10 17 := ⟨⟨by decide, by decide⟩, aTb_at 793 (by decide +kernel) (by decide +kernel)⟩
theorem fX10_146 : aFk RX10 146 10 10 := ⟨⟨by decide, by decide⟩, aTb_at 786 (by decide +kernel) (by decide +kernel)⟩
theorem fX10_157 : aFk RX10 157 10 23 := ⟨⟨by decide, by decide⟩, aTb_at 799 (by decide +kernel) (by decide +kernel)⟩
theorem fX10_203 : aFk RX10 203 10 24 := ⟨⟨by decide, by decide⟩, aTb_at 800 (by decide +kernel) (by decide +kernel)⟩
theorem fX10_206 : aFk RX10 206 10 25 := ⟨⟨by decide, by decide⟩, aTb_at 801 (by decide +kernel) (by decide +kernel)⟩
theorem fX10_209 : aFk RX10 209 10 26 := ⟨⟨by decide, by decide⟩, aTb_at 802 (by decide +kernel) (by decide +kernel)⟩
theorem fX10_212 : aFk RX10 212 10 27 := ⟨⟨by decide, by decide⟩, aTb_at 803 (by decide +kernel) (by decide +kernel)⟩
theorem kX9_9 : Cond.classLink RX9 9 "RoomDealer$Slot" ∈ aTb := aTb_at 22 (by decide +kernel) (by decide +kernel)
theorem kX9_16 : Cond.classLink RX9 16 "RoomDealer$Program" ∈ aTb := aTb_at 45 (by decide +kernel) (by decide +kernel)
theorem kX9_23 : Cond.classLink RX9 23 "RoomDealer$Terms" ∈ aTb := aTb_at 88 (by decide +kernel) (by decide +kernel)
theorem kX9_30 : Cond.classLink RX9 30 "RoomDealer$Dealer" ∈ aTb := aTb_at 122 (by decide +kernel) (by decide +kernel)
theorem kX9_39 : Cond.classLink RX9 39 "RoomDealer$Together" ∈ aTb := aTb_at 199 (by decide +kernel) (by decide +kernel)
theorem kX0_9 : Cond.classLink RX0 9 "RoomDealer$Trial" ∈ aTb := aTb_at 128 (by decide +kernel) (by decide +kernel)
theorem kX0_29 : Cond.classLink RX0 29 "[[I" ∈ aTb := aTb_at 176 (by decide +kernel) (by decide +kernel)
theorem kX2_9 : Cond.classLink RX2 9 "RoomDealer$Things" ∈ aTb := aTb_at 235 (by decide +kernel) (by decide +kernel)
theorem kX7_9 : Cond.classLink RX7 9 "RoomDealer$Story" ∈ aTb := aTb_at 205 (by decide +kernel) (by decide +kernel)
theorem kX7_18 : Cond.classLink RX7 18 "RoomDealer$Runner" ∈ aTb := aTb_at 228 (by decide +kernel) (by decide +kernel)
theorem kX8_9 : Cond.classLink RX8 9 "RoomDealer$Things" ∈ aTb := aTb_at 134 (by decide +kernel) (by decide +kernel)
theorem kL_7 : Cond.classLink RL 7 "RoomDealer" ∈ aTb := aTb_at 14 (by decide +kernel) (by decide +kernel)
theorem kL_10 : Cond.classLink RL 10 "RoomDealerModel" ∈ aTb := aTb_at 770 (by decide +kernel) (by decide +kernel)
theorem newX9 : Cond.instantiable RX9 6 ∈ aTb := aTb_at 15 (by decide +kernel) (by decide +kernel)
theorem newX3 : Cond.instantiable RX3 3 ∈ aTb := aTb_at 24 (by decide +kernel) (by decide +kernel)
theorem newX1 : Cond.instantiable RX1 7 ∈ aTb := aTb_at 47 (by decide +kernel) (by decide +kernel)
theorem newX5 : Cond.instantiable RX5 5 ∈ aTb := aTb_at 89 (by decide +kernel) (by decide +kernel)
theorem newX0 : Cond.instantiable RX0 6 ∈ aTb := aTb_at 123 (by decide +kernel) (by decide +kernel)
theorem newX8 : Cond.instantiable RX8 7 ∈ aTb := aTb_at 129 (by decide +kernel) (by decide +kernel)
theorem newX6 : Cond.instantiable RX6 3 ∈ aTb := aTb_at 135 (by decide +kernel) (by decide +kernel)
theorem newX7 : Cond.instantiable RX7 7 ∈ aTb := aTb_at 200 (by decide +kernel) (by decide +kernel)
theorem newX4 : Cond.instantiable RX4 5 ∈ aTb := aTb_at 206 (by decide +kernel) (by decide +kernel)
theorem newX2 : Cond.instantiable RX2 17 ∈ aTb := aTb_at 230 (by decide +kernel) (by decide +kernel)
theorem newX10 : Cond.instantiable RX10 46 ∈ aTb := aTb_at 771 (by decide +kernel) (by decide +kernel)
theorem qX1_44 : Cond.constant RX1 44 (Int32.ofInt (2147483647)) ∈ aTb := aTb_at 506 (by decide +kernel) (by decide +kernel)
theorem qX10_183 : Cond.constant RX10 183 (Int32.ofInt (2147483647)) ∈ aTb := aTb_at 991 (by decide +kernel) (by decide +kernel)
theorem qX2_140 : Cond.constantLong RX2 140 (Int64.ofInt (-1)) ∈ aTb := aTb_at 739 (by decide +kernel) (by decide +kernel)
theorem qX3_26 : Cond.constantLong RX3 26 (Int64.ofInt (-59)) ∈ aTb := aTb_at 411 (by decide +kernel) (by decide +kernel)
theorem qX3_28 : Cond.constantLong RX3 28 (Int64.ofInt (99)) ∈ aTb := aTb_at 412 (by decide +kernel) (by decide +kernel)
theorem qX3_30 : Cond.constantLong RX3 30 (Int64.ofInt (1000)) ∈ aTb := aTb_at 413 (by decide +kernel) (by decide +kernel)
theorem qX3_32 : Cond.constantLong RX3 32 (Int64.ofInt (1200)) ∈ aTb := aTb_at 414 (by decide +kernel) (by decide +kernel)
theorem qX7_249 : Cond.constantLong RX7 249 (Int64.ofInt (-1)) ∈ aTb := aTb_at 734 (by decide +kernel) (by decide +kernel)
theorem qL_23 : Cond.constantLong RL 23 (Int64.ofInt (4294967295)) ∈ aTb := aTb_at 1110 (by decide +kernel) (by decide +kernel)
theorem qX10_149 : Cond.constantLong RX10 149 (Int64.ofInt (-59)) ∈ aTb := aTb_at 949 (by decide +kernel) (by decide +kernel)
theorem qX10_151 : Cond.constantLong RX10 151 (Int64.ofInt (99)) ∈ aTb := aTb_at 950 (by decide +kernel) (by decide +kernel)
theorem qX10_153 : Cond.constantLong RX10 153 (Int64.ofInt (1001)) ∈ aTb := aTb_at 951 (by decide +kernel) (by decide +kernel)
theorem qX10_155 : Cond.constantLong RX10 155 (Int64.ofInt (1200)) ∈ aTb := aTb_at 952 (by decide +kernel) (by decide +kernel)
theorem qX10_195 : Cond.constantLong RX10 195 (Int64.ofInt (1099511627776)) ∈ aTb := aTb_at 1012 (by decide +kernel) (by decide +kernel)
theorem arr_long : Cond.arrayClass .long ∈ aTb := aTb_at 44 (by decide +kernel) (by decide +kernel)
theorem arr_int : Cond.arrayClass .int ∈ aTb := aTb_at 87 (by decide +kernel) (by decide +kernel)
theorem arr_boolean : Cond.arrayClass .boolean ∈ aTb := aTb_at 915 (by decide +kernel) (by decide +kernel)
theorem ovrX3 : Cond.arrayOver (.object RX3) ∈ lw_tbl := List.mem_append_right _ (List.mem_of_getElem? (i := 23) (by decide +kernel))
theorem ovrX1 : Cond.arrayOver (.object RX1) ∈ lw_tbl := List.mem_append_right _ (List.mem_of_getElem? (i := 46) (by decide +kernel))
theorem ovrX2 : Cond.arrayOver (.object RX2) ∈ lw_tbl := List.mem_append_right _ (List.mem_of_getElem? (i := 229) (by decide +kernel))
theorem natCopy : Cond.native arraycopyName ∈ aTb := aTb_at 392 (by decide +kernel) (by decide +kernel)
theorem staCopy : Cond.static arraycopyName ∈ aTb := aTb_at 391 (by decide +kernel) (by decide +kernel)
