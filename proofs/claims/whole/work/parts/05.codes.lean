set_option maxRecDepth 100000 in
theorem m_Arr_fill_c : mCodeOk m_Arr_fill = true := by decide +kernel
set_option maxRecDepth 100000 in
theorem m_EB_above_c : mCodeOk m_EB_above = true := by decide +kernel
set_option maxRecDepth 100000 in
theorem m_EB_at_c : mCodeOk m_EB_at = true := by decide +kernel
set_option maxRecDepth 100000 in
theorem m_EB_bind_c : mCodeOk m_EB_bind = true := by decide +kernel
set_option maxRecDepth 100000 in
theorem m_EB_bindAll_c : mCodeOk m_EB_bindAll = true := by decide +kernel
set_option maxRecDepth 100000 in
theorem m_EB_bit_c : mCodeOk m_EB_bit = true := by decide +kernel
set_option maxRecDepth 100000 in
theorem m_EB_body_c : mCodeOk m_EB_body = true := by decide +kernel
set_option maxRecDepth 100000 in
theorem m_EB_bodyToBind_c : mCodeOk m_EB_bodyToBind = true := by decide +kernel
set_option maxRecDepth 100000 in
theorem m_EB_call_c : mCodeOk m_EB_call = true := by decide +kernel
set_option maxRecDepth 100000 in
theorem m_EB_callers_c : mCodeOk m_EB_callers = true := by decide +kernel
set_option maxRecDepth 100000 in
theorem m_EB_callsHurtBy_c : mCodeOk m_EB_callsHurtBy = true := by decide +kernel
set_option maxRecDepth 100000 in
theorem m_EB_common_c : mCodeOk m_EB_common = true := by decide +kernel
set_option maxRecDepth 100000 in
theorem m_EB_drift_c : mCodeOk m_EB_drift = true := by decide +kernel
set_option maxRecDepth 100000 in
theorem m_EB_driftBind_c : mCodeOk m_EB_driftBind = true := by decide +kernel
set_option maxRecDepth 100000 in
theorem m_EB_driftOnce_c : mCodeOk m_EB_driftOnce = true := by decide +kernel
set_option maxRecDepth 100000 in
theorem m_EB_fault_c : mCodeOk m_EB_fault = true := by decide +kernel
set_option maxRecDepth 100000 in
theorem m_EB_feed_c : mCodeOk m_EB_feed = true := by decide +kernel
set_option maxRecDepth 100000 in
theorem m_EB_flowNow_c : mCodeOk m_EB_flowNow = true := by decide +kernel
set_option maxRecDepth 100000 in
theorem m_EB_found_c : mCodeOk m_EB_found = true := by decide +kernel
set_option maxRecDepth 100000 in
theorem m_EB_goBack_c : mCodeOk m_EB_goBack = true := by decide +kernel
set_option maxRecDepth 100000 in
theorem m_EB_has_c : mCodeOk m_EB_has = true := by decide +kernel
set_option maxRecDepth 100000 in
theorem m_EB_holds_c : mCodeOk m_EB_holds = true := by decide +kernel
set_option maxRecDepth 100000 in
theorem m_EB_init_c : mCodeOk m_EB_init = true := by decide +kernel
set_option maxRecDepth 100000 in
theorem m_EB_isBelow_c : mCodeOk m_EB_isBelow = true := by decide +kernel
set_option maxRecDepth 100000 in
theorem m_EB_isBody_c : mCodeOk m_EB_isBody = true := by decide +kernel
set_option maxRecDepth 100000 in
theorem m_EB_isBroken_c : mCodeOk m_EB_isBroken = true := by decide +kernel
set_option maxRecDepth 100000 in
theorem m_EB_isCall_c : mCodeOk m_EB_isCall = true := by decide +kernel
set_option maxRecDepth 100000 in
theorem m_EB_isImage_c : mCodeOk m_EB_isImage = true := by decide +kernel
set_option maxRecDepth 100000 in
theorem m_EB_isType_c : mCodeOk m_EB_isType = true := by decide +kernel
set_option maxRecDepth 100000 in
theorem m_EB_journal_c : mCodeOk m_EB_journal = true := by decide +kernel
set_option maxRecDepth 100000 in
theorem m_EB_keep_c : mCodeOk m_EB_keep = true := by decide +kernel
set_option maxRecDepth 100000 in
theorem m_EB_least_c : mCodeOk m_EB_least = true := by decide +kernel
set_option maxRecDepth 100000 in
theorem m_EB_load_c : mCodeOk m_EB_load = true := by decide +kernel
set_option maxRecDepth 100000 in
theorem m_EB_loadWithAbove_c : mCodeOk m_EB_loadWithAbove = true := by decide +kernel
set_option maxRecDepth 100000 in
theorem m_EB_loose_c : mCodeOk m_EB_loose = true := by decide +kernel
set_option maxRecDepth 100000 in
theorem m_EB_makers_c : mCodeOk m_EB_makers = true := by decide +kernel
set_option maxRecDepth 100000 in
theorem m_EB_pick_c : mCodeOk m_EB_pick = true := by decide +kernel
set_option maxRecDepth 100000 in
theorem m_EB_program_c : mCodeOk m_EB_program = true := by decide +kernel
set_option maxRecDepth 100000 in
theorem m_EB_root_c : mCodeOk m_EB_root = true := by decide +kernel
set_option maxRecDepth 100000 in
theorem m_EB_startAnew_c : mCodeOk m_EB_startAnew = true := by decide +kernel
set_option maxRecDepth 100000 in
theorem m_EB_told_c : mCodeOk m_EB_told = true := by decide +kernel
set_option maxRecDepth 100000 in
theorem m_EB_type_c : mCodeOk m_EB_type = true := by decide +kernel
set_option maxRecDepth 100000 in
theorem m_EB_typesThatBreak_c : mCodeOk m_EB_typesThatBreak = true := by decide +kernel
set_option maxRecDepth 100000 in
theorem m_EB_undo_c : mCodeOk m_EB_undo = true := by decide +kernel
set_option maxRecDepth 100000 in
theorem m_EB_users_c : mCodeOk m_EB_users = true := by decide +kernel
set_option maxRecDepth 100000 in
theorem m_EB_way_c : mCodeOk m_EB_way = true := by decide +kernel
set_option maxRecDepth 100000 in
theorem m_EB_whatItDoes_c : mCodeOk m_EB_whatItDoes = true := by decide +kernel
set_option maxRecDepth 100000 in
theorem m_Flow_comesBack_c : mCodeOk m_Flow_comesBack = true := by decide +kernel
set_option maxRecDepth 100000 in
theorem m_Flow_follow_c : mCodeOk m_Flow_follow = true := by decide +kernel
set_option maxRecDepth 100000 in
theorem m_Flow_forget_c : mCodeOk m_Flow_forget = true := by decide +kernel
set_option maxRecDepth 100000 in
theorem m_Flow_init_c : mCodeOk m_Flow_init = true := by decide +kernel
set_option maxRecDepth 100000 in
theorem m_Flow_layTo_c : mCodeOk m_Flow_layTo = true := by decide +kernel
set_option maxRecDepth 100000 in
theorem m_Flow_link_c : mCodeOk m_Flow_link = true := by decide +kernel
set_option maxRecDepth 100000 in
theorem m_Flow_spread_c : mCodeOk m_Flow_spread = true := by decide +kernel
set_option maxRecDepth 100000 in
theorem m_Flow_wayTo_c : mCodeOk m_Flow_wayTo = true := by decide +kernel
set_option maxRecDepth 100000 in
theorem m_Flow_whoCalls_c : mCodeOk m_Flow_whoCalls = true := by decide +kernel
set_option maxRecDepth 100000 in
theorem m_Int_bitCount_c : mCodeOk m_Int_bitCount = true := by decide +kernel
set_option maxRecDepth 100000 in
theorem m_Int_numberOfTrailingZeros_c : mCodeOk m_Int_numberOfTrailingZeros = true := by decide +kernel
set_option maxRecDepth 100000 in
theorem m_Jour_become_c : mCodeOk m_Jour_become = true := by decide +kernel
set_option maxRecDepth 100000 in
theorem m_Jour_clear_c : mCodeOk m_Jour_clear = true := by decide +kernel
set_option maxRecDepth 100000 in
theorem m_Jour_entry_c : mCodeOk m_Jour_entry = true := by decide +kernel
set_option maxRecDepth 100000 in
theorem m_Jour_init_c : mCodeOk m_Jour_init = true := by decide +kernel
set_option maxRecDepth 100000 in
theorem m_Jour_write_c : mCodeOk m_Jour_write = true := by decide +kernel
set_option maxRecDepth 100000 in
theorem m_MD_above_c : mCodeOk m_MD_above = true := by decide +kernel
set_option maxRecDepth 100000 in
theorem m_MD_belowOf_c : mCodeOk m_MD_belowOf = true := by decide +kernel
set_option maxRecDepth 100000 in
theorem m_MD_bind_c : mCodeOk m_MD_bind = true := by decide +kernel
set_option maxRecDepth 100000 in
theorem m_MD_bindAll_c : mCodeOk m_MD_bindAll = true := by decide +kernel
set_option maxRecDepth 100000 in
theorem m_MD_bindNow_c : mCodeOk m_MD_bindNow = true := by decide +kernel
set_option maxRecDepth 100000 in
theorem m_MD_bits_c : mCodeOk m_MD_bits = true := by decide +kernel
set_option maxRecDepth 100000 in
theorem m_MD_bodiesOf_c : mCodeOk m_MD_bodiesOf = true := by decide +kernel
set_option maxRecDepth 100000 in
theorem m_MD_body_c : mCodeOk m_MD_body = true := by decide +kernel
set_option maxRecDepth 100000 in
theorem m_MD_bodyOf_c : mCodeOk m_MD_bodyOf = true := by decide +kernel
set_option maxRecDepth 100000 in
theorem m_MD_boundOnes_c : mCodeOk m_MD_boundOnes = true := by decide +kernel
set_option maxRecDepth 100000 in
theorem m_MD_breaks_c : mCodeOk m_MD_breaks = true := by decide +kernel
set_option maxRecDepth 100000 in
theorem m_MD_byFaces_c : mCodeOk m_MD_byFaces = true := by decide +kernel
set_option maxRecDepth 100000 in
theorem m_MD_call_c : mCodeOk m_MD_call = true := by decide +kernel
set_option maxRecDepth 100000 in
theorem m_MD_calledBy_c : mCodeOk m_MD_calledBy = true := by decide +kernel
set_option maxRecDepth 100000 in
theorem m_MD_callers_c : mCodeOk m_MD_callers = true := by decide +kernel
set_option maxRecDepth 100000 in
theorem m_MD_callersOf_c : mCodeOk m_MD_callersOf = true := by decide +kernel
set_option maxRecDepth 100000 in
theorem m_MD_canBind_c : mCodeOk m_MD_canBind = true := by decide +kernel
set_option maxRecDepth 100000 in
theorem m_MD_classes_c : mCodeOk m_MD_classes = true := by decide +kernel
set_option maxRecDepth 100000 in
theorem m_MD_common_c : mCodeOk m_MD_common = true := by decide +kernel
set_option maxRecDepth 100000 in
theorem m_MD_could_c : mCodeOk m_MD_could = true := by decide +kernel
set_option maxRecDepth 100000 in
theorem m_MD_does_c : mCodeOk m_MD_does = true := by decide +kernel
set_option maxRecDepth 100000 in
theorem m_MD_doneBy_c : mCodeOk m_MD_doneBy = true := by decide +kernel
set_option maxRecDepth 100000 in
theorem m_MD_drift_c : mCodeOk m_MD_drift = true := by decide +kernel
set_option maxRecDepth 100000 in
theorem m_MD_fails_c : mCodeOk m_MD_fails = true := by decide +kernel
set_option maxRecDepth 100000 in
theorem m_MD_fault_c : mCodeOk m_MD_fault = true := by decide +kernel
set_option maxRecDepth 100000 in
theorem m_MD_feed_c : mCodeOk m_MD_feed = true := by decide +kernel
set_option maxRecDepth 100000 in
theorem m_MD_firstOf_c : mCodeOk m_MD_firstOf = true := by decide +kernel
set_option maxRecDepth 100000 in
theorem m_MD_found_c : mCodeOk m_MD_found = true := by decide +kernel
set_option maxRecDepth 100000 in
theorem m_MD_foundFor_c : mCodeOk m_MD_foundFor = true := by decide +kernel
set_option maxRecDepth 100000 in
theorem m_MD_foundFrom_c : mCodeOk m_MD_foundFrom = true := by decide +kernel
set_option maxRecDepth 100000 in
theorem m_MD_goBack_c : mCodeOk m_MD_goBack = true := by decide +kernel
set_option maxRecDepth 100000 in
theorem m_MD_has_c : mCodeOk m_MD_has = true := by decide +kernel
set_option maxRecDepth 100000 in
theorem m_MD_here_c : mCodeOk m_MD_here = true := by decide +kernel
set_option maxRecDepth 100000 in
theorem m_MD_holds_c : mCodeOk m_MD_holds = true := by decide +kernel
set_option maxRecDepth 100000 in
theorem m_MD_hurts_c : mCodeOk m_MD_hurts = true := by decide +kernel
set_option maxRecDepth 100000 in
theorem m_MD_in_c : mCodeOk m_MD_in = true := by decide +kernel
set_option maxRecDepth 100000 in
theorem m_MD_init_c : mCodeOk m_MD_init = true := by decide +kernel
set_option maxRecDepth 100000 in
theorem m_MD_isBelow_c : mCodeOk m_MD_isBelow = true := by decide +kernel
set_option maxRecDepth 100000 in
theorem m_MD_isBody_c : mCodeOk m_MD_isBody = true := by decide +kernel
set_option maxRecDepth 100000 in
theorem m_MD_isCall_c : mCodeOk m_MD_isCall = true := by decide +kernel
set_option maxRecDepth 100000 in
theorem m_MD_isFull_c : mCodeOk m_MD_isFull = true := by decide +kernel
set_option maxRecDepth 100000 in
theorem m_MD_isOne_c : mCodeOk m_MD_isOne = true := by decide +kernel
set_option maxRecDepth 100000 in
theorem m_MD_isOver_c : mCodeOk m_MD_isOver = true := by decide +kernel
set_option maxRecDepth 100000 in
theorem m_MD_isType_c : mCodeOk m_MD_isType = true := by decide +kernel
set_option maxRecDepth 100000 in
theorem m_MD_journal_c : mCodeOk m_MD_journal = true := by decide +kernel
set_option maxRecDepth 100000 in
theorem m_MD_keep_c : mCodeOk m_MD_keep = true := by decide +kernel
set_option maxRecDepth 100000 in
theorem m_MD_layLeft_c : mCodeOk m_MD_layLeft = true := by decide +kernel
set_option maxRecDepth 100000 in
theorem m_MD_load_c : mCodeOk m_MD_load = true := by decide +kernel
set_option maxRecDepth 100000 in
theorem m_MD_loadNow_c : mCodeOk m_MD_loadNow = true := by decide +kernel
set_option maxRecDepth 100000 in
theorem m_MD_loadedBodies_c : mCodeOk m_MD_loadedBodies = true := by decide +kernel
set_option maxRecDepth 100000 in
theorem m_MD_loose_c : mCodeOk m_MD_loose = true := by decide +kernel
set_option maxRecDepth 100000 in
theorem m_MD_lowest_c : mCodeOk m_MD_lowest = true := by decide +kernel
set_option maxRecDepth 100000 in
theorem m_MD_makers_c : mCodeOk m_MD_makers = true := by decide +kernel
set_option maxRecDepth 100000 in
theorem m_MD_mayOf_c : mCodeOk m_MD_mayOf = true := by decide +kernel
set_option maxRecDepth 100000 in
theorem m_MD_over_c : mCodeOk m_MD_over = true := by decide +kernel
set_option maxRecDepth 100000 in
theorem m_MD_program_c : mCodeOk m_MD_program = true := by decide +kernel
set_option maxRecDepth 100000 in
theorem m_MD_reach_c : mCodeOk m_MD_reach = true := by decide +kernel
set_option maxRecDepth 100000 in
theorem m_MD_reachFrom_c : mCodeOk m_MD_reachFrom = true := by decide +kernel
set_option maxRecDepth 100000 in
theorem m_MD_remember_c : mCodeOk m_MD_remember = true := by decide +kernel
set_option maxRecDepth 100000 in
theorem m_MD_ring_c : mCodeOk m_MD_ring = true := by decide +kernel
set_option maxRecDepth 100000 in
theorem m_MD_root_c : mCodeOk m_MD_root = true := by decide +kernel
set_option maxRecDepth 100000 in
theorem m_MD_stepBy_c : mCodeOk m_MD_stepBy = true := by decide +kernel
set_option maxRecDepth 100000 in
theorem m_MD_stepsOf_c : mCodeOk m_MD_stepsOf = true := by decide +kernel
set_option maxRecDepth 100000 in
theorem m_MD_takeBody_c : mCodeOk m_MD_takeBody = true := by decide +kernel
set_option maxRecDepth 100000 in
theorem m_MD_takeClass_c : mCodeOk m_MD_takeClass = true := by decide +kernel
set_option maxRecDepth 100000 in
theorem m_MD_takeClause_c : mCodeOk m_MD_takeClause = true := by decide +kernel
set_option maxRecDepth 100000 in
theorem m_MD_takeFace_c : mCodeOk m_MD_takeFace = true := by decide +kernel
set_option maxRecDepth 100000 in
theorem m_MD_takeFaces_c : mCodeOk m_MD_takeFaces = true := by decide +kernel
set_option maxRecDepth 100000 in
theorem m_MD_takeInterface_c : mCodeOk m_MD_takeInterface = true := by decide +kernel
set_option maxRecDepth 100000 in
theorem m_MD_takeNumber_c : mCodeOk m_MD_takeNumber = true := by decide +kernel
set_option maxRecDepth 100000 in
theorem m_MD_takeRead_c : mCodeOk m_MD_takeRead = true := by decide +kernel
set_option maxRecDepth 100000 in
theorem m_MD_takeStep_c : mCodeOk m_MD_takeStep = true := by decide +kernel
set_option maxRecDepth 100000 in
theorem m_MD_told_c : mCodeOk m_MD_told = true := by decide +kernel
set_option maxRecDepth 100000 in
theorem m_MD_type_c : mCodeOk m_MD_type = true := by decide +kernel
set_option maxRecDepth 100000 in
theorem m_MD_undo_c : mCodeOk m_MD_undo = true := by decide +kernel
set_option maxRecDepth 100000 in
theorem m_MD_users_c : mCodeOk m_MD_users = true := by decide +kernel
set_option maxRecDepth 100000 in
theorem m_MD_way_c : mCodeOk m_MD_way = true := by decide +kernel
set_option maxRecDepth 100000 in
theorem m_MD_wouldGo_c : mCodeOk m_MD_wouldGo = true := by decide +kernel
set_option maxRecDepth 100000 in
theorem m_MD_write_c : mCodeOk m_MD_write = true := by decide +kernel
set_option maxRecDepth 100000 in
theorem m_Mat_floorMod_c : mCodeOk m_Mat_floorMod = true := by decide +kernel
set_option maxRecDepth 100000 in
theorem m_Mat_max_c : mCodeOk m_Mat_max = true := by decide +kernel
set_option maxRecDepth 100000 in
theorem m_Mat_min_c : mCodeOk m_Mat_min = true := by decide +kernel
set_option maxRecDepth 100000 in
theorem m_Past_clear_c : mCodeOk m_Past_clear = true := by decide +kernel
set_option maxRecDepth 100000 in
theorem m_Past_giveBack_c : mCodeOk m_Past_giveBack = true := by decide +kernel
set_option maxRecDepth 100000 in
theorem m_Past_init_c : mCodeOk m_Past_init = true := by decide +kernel
set_option maxRecDepth 100000 in
theorem m_Past_remember_c : mCodeOk m_Past_remember = true := by decide +kernel
set_option maxRecDepth 100000 in
theorem m_Plan_addBody_c : mCodeOk m_Plan_addBody = true := by decide +kernel
set_option maxRecDepth 100000 in
theorem m_Plan_addStep_c : mCodeOk m_Plan_addStep = true := by decide +kernel
set_option maxRecDepth 100000 in
theorem m_Plan_addType_c : mCodeOk m_Plan_addType = true := by decide +kernel
set_option maxRecDepth 100000 in
theorem m_Plan_bodiesOf_c : mCodeOk m_Plan_bodiesOf = true := by decide +kernel
set_option maxRecDepth 100000 in
theorem m_Plan_bodiesThatMake_c : mCodeOk m_Plan_bodiesThatMake = true := by decide +kernel
set_option maxRecDepth 100000 in
theorem m_Plan_calledBy_c : mCodeOk m_Plan_calledBy = true := by decide +kernel
set_option maxRecDepth 100000 in
theorem m_Plan_clear_c : mCodeOk m_Plan_clear = true := by decide +kernel
set_option maxRecDepth 100000 in
theorem m_Plan_firstShared_c : mCodeOk m_Plan_firstShared = true := by decide +kernel
set_option maxRecDepth 100000 in
theorem m_Plan_foundFor_c : mCodeOk m_Plan_foundFor = true := by decide +kernel
set_option maxRecDepth 100000 in
theorem m_Plan_foundOver_c : mCodeOk m_Plan_foundOver = true := by decide +kernel
set_option maxRecDepth 100000 in
theorem m_Plan_init_c : mCodeOk m_Plan_init = true := by decide +kernel
set_option maxRecDepth 100000 in
theorem m_Plan_isClass_c : mCodeOk m_Plan_isClass = true := by decide +kernel
set_option maxRecDepth 100000 in
theorem m_Plan_key_c : mCodeOk m_Plan_key = true := by decide +kernel
set_option maxRecDepth 100000 in
theorem m_Plan_lookUp_c : mCodeOk m_Plan_lookUp = true := by decide +kernel
set_option maxRecDepth 100000 in
theorem m_Plan_lookUpAll_c : mCodeOk m_Plan_lookUpAll = true := by decide +kernel
set_option maxRecDepth 100000 in
theorem m_Plan_lookUpInInterfaces_c : mCodeOk m_Plan_lookUpInInterfaces = true := by decide +kernel
set_option maxRecDepth 100000 in
theorem m_Plan_madeBy_c : mCodeOk m_Plan_madeBy = true := by decide +kernel
set_option maxRecDepth 100000 in
theorem m_Plan_mayOf_c : mCodeOk m_Plan_mayOf = true := by decide +kernel
set_option maxRecDepth 100000 in
theorem m_Plan_ownBody_c : mCodeOk m_Plan_ownBody = true := by decide +kernel
set_option maxRecDepth 100000 in
theorem m_Plan_stepsOf_c : mCodeOk m_Plan_stepsOf = true := by decide +kernel
set_option maxRecDepth 100000 in
theorem m_Read_advance_c : mCodeOk m_Read_advance = true := by decide +kernel
set_option maxRecDepth 100000 in
theorem m_Read_fail_c : mCodeOk m_Read_fail = true := by decide +kernel
set_option maxRecDepth 100000 in
theorem m_Read_init_c : mCodeOk m_Read_init = true := by decide +kernel
set_option maxRecDepth 100000 in
theorem m_Read_isEnded_c : mCodeOk m_Read_isEnded = true := by decide +kernel
set_option maxRecDepth 100000 in
theorem m_Read_isFigure_c : mCodeOk m_Read_isFigure = true := by decide +kernel
set_option maxRecDepth 100000 in
theorem m_Read_readBody_c : mCodeOk m_Read_readBody = true := by decide +kernel
set_option maxRecDepth 100000 in
theorem m_Read_readInterface_c : mCodeOk m_Read_readInterface = true := by decide +kernel
set_option maxRecDepth 100000 in
theorem m_Read_readInto_c : mCodeOk m_Read_readInto = true := by decide +kernel
set_option maxRecDepth 100000 in
theorem m_Read_readParent_c : mCodeOk m_Read_readParent = true := by decide +kernel
set_option maxRecDepth 100000 in
theorem m_Read_readStep_c : mCodeOk m_Read_readStep = true := by decide +kernel
set_option maxRecDepth 100000 in
theorem m_Read_readType_c : mCodeOk m_Read_readType = true := by decide +kernel
set_option maxRecDepth 100000 in
theorem m_Read_takeLetter_c : mCodeOk m_Read_takeLetter = true := by decide +kernel
set_option maxRecDepth 100000 in
theorem m_Read_takeNumber_c : mCodeOk m_Read_takeNumber = true := by decide +kernel
set_option maxRecDepth 100000 in
theorem m_Read_takeWord_c : mCodeOk m_Read_takeWord = true := by decide +kernel
set_option maxRecDepth 100000 in
theorem m_Read_wantParentOf_c : mCodeOk m_Read_wantParentOf = true := by decide +kernel
set_option maxRecDepth 100000 in
theorem m_Read_wantSort_c : mCodeOk m_Read_wantSort = true := by decide +kernel
set_option maxRecDepth 100000 in
theorem m_Scen_become_c : mCodeOk m_Scen_become = true := by decide +kernel
set_option maxRecDepth 100000 in
theorem m_Scen_bindTo_c : mCodeOk m_Scen_bindTo = true := by decide +kernel
set_option maxRecDepth 100000 in
theorem m_Scen_boundBody_c : mCodeOk m_Scen_boundBody = true := by decide +kernel
set_option maxRecDepth 100000 in
theorem m_Scen_boundCalls_c : mCodeOk m_Scen_boundCalls = true := by decide +kernel
set_option maxRecDepth 100000 in
theorem m_Scen_clear_c : mCodeOk m_Scen_clear = true := by decide +kernel
set_option maxRecDepth 100000 in
theorem m_Scen_init_c : mCodeOk m_Scen_init = true := by decide +kernel
set_option maxRecDepth 100000 in
theorem m_Scen_setFree_c : mCodeOk m_Scen_setFree = true := by decide +kernel
set_option maxRecDepth 100000 in
theorem m_Scen_withdraw_c : mCodeOk m_Scen_withdraw = true := by decide +kernel
