theorem m_Arr_fill_w : mWdOk m_Arr_fill = true := by decide +kernel
set_option maxRecDepth 100000 in
theorem m_Arr_fill_x : mCwOk m_Arr_fill := rfl
theorem m_EB_above_w : mWdOk m_EB_above = true := by decide +kernel
set_option maxRecDepth 100000 in
theorem m_EB_above_x : mCwOk m_EB_above := rfl
theorem m_EB_at_w : mWdOk m_EB_at = true := by decide +kernel
set_option maxRecDepth 100000 in
theorem m_EB_at_x : mCwOk m_EB_at := rfl
theorem m_EB_bind_w : mWdOk m_EB_bind = true := by decide +kernel
set_option maxRecDepth 100000 in
theorem m_EB_bind_x : mCwOk m_EB_bind := rfl
theorem m_EB_bindAll_w : mWdOk m_EB_bindAll = true := by decide +kernel
set_option maxRecDepth 100000 in
theorem m_EB_bindAll_x : mCwOk m_EB_bindAll := rfl
theorem m_EB_bit_w : mWdOk m_EB_bit = true := by decide +kernel
set_option maxRecDepth 100000 in
theorem m_EB_bit_x : mCwOk m_EB_bit := rfl
theorem m_EB_body_w : mWdOk m_EB_body = true := by decide +kernel
set_option maxRecDepth 100000 in
theorem m_EB_body_x : mCwOk m_EB_body := rfl
theorem m_EB_bodyToBind_w : mWdOk m_EB_bodyToBind = true := by decide +kernel
set_option maxRecDepth 100000 in
theorem m_EB_bodyToBind_x : mCwOk m_EB_bodyToBind := rfl
theorem m_EB_call_w : mWdOk m_EB_call = true := by decide +kernel
set_option maxRecDepth 100000 in
theorem m_EB_call_x : mCwOk m_EB_call := rfl
theorem m_EB_callers_w : mWdOk m_EB_callers = true := by decide +kernel
set_option maxRecDepth 100000 in
theorem m_EB_callers_x : mCwOk m_EB_callers := rfl
theorem m_EB_callsHurtBy_w : mWdOk m_EB_callsHurtBy = true := by decide +kernel
set_option maxRecDepth 100000 in
theorem m_EB_callsHurtBy_x : mCwOk m_EB_callsHurtBy := rfl
theorem m_EB_common_w : mWdOk m_EB_common = true := by decide +kernel
set_option maxRecDepth 100000 in
theorem m_EB_common_x : mCwOk m_EB_common := rfl
theorem m_EB_drift_w : mWdOk m_EB_drift = true := by decide +kernel
set_option maxRecDepth 100000 in
theorem m_EB_drift_x : mCwOk m_EB_drift := rfl
theorem m_EB_driftBind_w : mWdOk m_EB_driftBind = true := by decide +kernel
set_option maxRecDepth 100000 in
theorem m_EB_driftBind_x : mCwOk m_EB_driftBind := rfl
theorem m_EB_driftOnce_w : mWdOk m_EB_driftOnce = true := by decide +kernel
set_option maxRecDepth 100000 in
theorem m_EB_driftOnce_x : mCwOk m_EB_driftOnce := rfl
theorem m_EB_fault_w : mWdOk m_EB_fault = true := by decide +kernel
set_option maxRecDepth 100000 in
theorem m_EB_fault_x : mCwOk m_EB_fault := rfl
theorem m_EB_feed_w : mWdOk m_EB_feed = true := by decide +kernel
set_option maxRecDepth 100000 in
theorem m_EB_feed_x : mCwOk m_EB_feed := rfl
theorem m_EB_flowNow_w : mWdOk m_EB_flowNow = true := by decide +kernel
set_option maxRecDepth 100000 in
theorem m_EB_flowNow_x : mCwOk m_EB_flowNow := rfl
theorem m_EB_found_w : mWdOk m_EB_found = true := by decide +kernel
set_option maxRecDepth 100000 in
theorem m_EB_found_x : mCwOk m_EB_found := rfl
theorem m_EB_goBack_w : mWdOk m_EB_goBack = true := by decide +kernel
set_option maxRecDepth 100000 in
theorem m_EB_goBack_x : mCwOk m_EB_goBack := rfl
theorem m_EB_has_w : mWdOk m_EB_has = true := by decide +kernel
set_option maxRecDepth 100000 in
theorem m_EB_has_x : mCwOk m_EB_has := rfl
theorem m_EB_holds_w : mWdOk m_EB_holds = true := by decide +kernel
set_option maxRecDepth 100000 in
theorem m_EB_holds_x : mCwOk m_EB_holds := rfl
theorem m_EB_init_w : mWdOk m_EB_init = true := by decide +kernel
set_option maxRecDepth 100000 in
theorem m_EB_init_x : mCwOk m_EB_init := rfl
theorem m_EB_isBelow_w : mWdOk m_EB_isBelow = true := by decide +kernel
set_option maxRecDepth 100000 in
theorem m_EB_isBelow_x : mCwOk m_EB_isBelow := rfl
theorem m_EB_isBody_w : mWdOk m_EB_isBody = true := by decide +kernel
set_option maxRecDepth 100000 in
theorem m_EB_isBody_x : mCwOk m_EB_isBody := rfl
theorem m_EB_isBroken_w : mWdOk m_EB_isBroken = true := by decide +kernel
set_option maxRecDepth 100000 in
theorem m_EB_isBroken_x : mCwOk m_EB_isBroken := rfl
theorem m_EB_isCall_w : mWdOk m_EB_isCall = true := by decide +kernel
set_option maxRecDepth 100000 in
theorem m_EB_isCall_x : mCwOk m_EB_isCall := rfl
theorem m_EB_isImage_w : mWdOk m_EB_isImage = true := by decide +kernel
set_option maxRecDepth 100000 in
theorem m_EB_isImage_x : mCwOk m_EB_isImage := rfl
theorem m_EB_isType_w : mWdOk m_EB_isType = true := by decide +kernel
set_option maxRecDepth 100000 in
theorem m_EB_isType_x : mCwOk m_EB_isType := rfl
theorem m_EB_journal_w : mWdOk m_EB_journal = true := by decide +kernel
set_option maxRecDepth 100000 in
theorem m_EB_journal_x : mCwOk m_EB_journal := rfl
theorem m_EB_keep_w : mWdOk m_EB_keep = true := by decide +kernel
set_option maxRecDepth 100000 in
theorem m_EB_keep_x : mCwOk m_EB_keep := rfl
theorem m_EB_least_w : mWdOk m_EB_least = true := by decide +kernel
set_option maxRecDepth 100000 in
theorem m_EB_least_x : mCwOk m_EB_least := rfl
theorem m_EB_load_w : mWdOk m_EB_load = true := by decide +kernel
set_option maxRecDepth 100000 in
theorem m_EB_load_x : mCwOk m_EB_load := rfl
theorem m_EB_loadWithAbove_w : mWdOk m_EB_loadWithAbove = true := by decide +kernel
set_option maxRecDepth 100000 in
theorem m_EB_loadWithAbove_x : mCwOk m_EB_loadWithAbove := rfl
theorem m_EB_loose_w : mWdOk m_EB_loose = true := by decide +kernel
set_option maxRecDepth 100000 in
theorem m_EB_loose_x : mCwOk m_EB_loose := rfl
theorem m_EB_makers_w : mWdOk m_EB_makers = true := by decide +kernel
set_option maxRecDepth 100000 in
theorem m_EB_makers_x : mCwOk m_EB_makers := rfl
theorem m_EB_pick_w : mWdOk m_EB_pick = true := by decide +kernel
set_option maxRecDepth 100000 in
theorem m_EB_pick_x : mCwOk m_EB_pick := rfl
theorem m_EB_program_w : mWdOk m_EB_program = true := by decide +kernel
set_option maxRecDepth 100000 in
theorem m_EB_program_x : mCwOk m_EB_program := rfl
theorem m_EB_root_w : mWdOk m_EB_root = true := by decide +kernel
set_option maxRecDepth 100000 in
theorem m_EB_root_x : mCwOk m_EB_root := rfl
theorem m_EB_startAnew_w : mWdOk m_EB_startAnew = true := by decide +kernel
set_option maxRecDepth 100000 in
theorem m_EB_startAnew_x : mCwOk m_EB_startAnew := rfl
theorem m_EB_told_w : mWdOk m_EB_told = true := by decide +kernel
set_option maxRecDepth 100000 in
theorem m_EB_told_x : mCwOk m_EB_told := rfl
theorem m_EB_type_w : mWdOk m_EB_type = true := by decide +kernel
set_option maxRecDepth 100000 in
theorem m_EB_type_x : mCwOk m_EB_type := rfl
theorem m_EB_typesThatBreak_w : mWdOk m_EB_typesThatBreak = true := by decide +kernel
set_option maxRecDepth 100000 in
theorem m_EB_typesThatBreak_x : mCwOk m_EB_typesThatBreak := rfl
theorem m_EB_undo_w : mWdOk m_EB_undo = true := by decide +kernel
set_option maxRecDepth 100000 in
theorem m_EB_undo_x : mCwOk m_EB_undo := rfl
theorem m_EB_users_w : mWdOk m_EB_users = true := by decide +kernel
set_option maxRecDepth 100000 in
theorem m_EB_users_x : mCwOk m_EB_users := rfl
theorem m_EB_way_w : mWdOk m_EB_way = true := by decide +kernel
set_option maxRecDepth 100000 in
theorem m_EB_way_x : mCwOk m_EB_way := rfl
theorem m_EB_whatItDoes_w : mWdOk m_EB_whatItDoes = true := by decide +kernel
set_option maxRecDepth 100000 in
theorem m_EB_whatItDoes_x : mCwOk m_EB_whatItDoes := rfl
theorem m_Flow_comesBack_w : mWdOk m_Flow_comesBack = true := by decide +kernel
set_option maxRecDepth 100000 in
theorem m_Flow_comesBack_x : mCwOk m_Flow_comesBack := rfl
theorem m_Flow_follow_w : mWdOk m_Flow_follow = true := by decide +kernel
set_option maxRecDepth 100000 in
theorem m_Flow_follow_x : mCwOk m_Flow_follow := rfl
theorem m_Flow_forget_w : mWdOk m_Flow_forget = true := by decide +kernel
set_option maxRecDepth 100000 in
theorem m_Flow_forget_x : mCwOk m_Flow_forget := rfl
theorem m_Flow_init_w : mWdOk m_Flow_init = true := by decide +kernel
set_option maxRecDepth 100000 in
theorem m_Flow_init_x : mCwOk m_Flow_init := rfl
theorem m_Flow_layTo_w : mWdOk m_Flow_layTo = true := by decide +kernel
set_option maxRecDepth 100000 in
theorem m_Flow_layTo_x : mCwOk m_Flow_layTo := rfl
theorem m_Flow_link_w : mWdOk m_Flow_link = true := by decide +kernel
set_option maxRecDepth 100000 in
theorem m_Flow_link_x : mCwOk m_Flow_link := rfl
theorem m_Flow_spread_w : mWdOk m_Flow_spread = true := by decide +kernel
set_option maxRecDepth 100000 in
theorem m_Flow_spread_x : mCwOk m_Flow_spread := rfl
theorem m_Flow_wayTo_w : mWdOk m_Flow_wayTo = true := by decide +kernel
set_option maxRecDepth 100000 in
theorem m_Flow_wayTo_x : mCwOk m_Flow_wayTo := rfl
theorem m_Flow_whoCalls_w : mWdOk m_Flow_whoCalls = true := by decide +kernel
set_option maxRecDepth 100000 in
theorem m_Flow_whoCalls_x : mCwOk m_Flow_whoCalls := rfl
theorem m_Int_bitCount_w : mWdOk m_Int_bitCount = true := by decide +kernel
set_option maxRecDepth 100000 in
theorem m_Int_bitCount_x : mCwOk m_Int_bitCount := rfl
theorem m_Int_numberOfTrailingZeros_w : mWdOk m_Int_numberOfTrailingZeros = true := by decide +kernel
set_option maxRecDepth 100000 in
theorem m_Int_numberOfTrailingZeros_x : mCwOk m_Int_numberOfTrailingZeros := rfl
theorem m_Jour_become_w : mWdOk m_Jour_become = true := by decide +kernel
set_option maxRecDepth 100000 in
theorem m_Jour_become_x : mCwOk m_Jour_become := rfl
theorem m_Jour_clear_w : mWdOk m_Jour_clear = true := by decide +kernel
set_option maxRecDepth 100000 in
theorem m_Jour_clear_x : mCwOk m_Jour_clear := rfl
theorem m_Jour_entry_w : mWdOk m_Jour_entry = true := by decide +kernel
set_option maxRecDepth 100000 in
theorem m_Jour_entry_x : mCwOk m_Jour_entry := rfl
theorem m_Jour_init_w : mWdOk m_Jour_init = true := by decide +kernel
set_option maxRecDepth 100000 in
theorem m_Jour_init_x : mCwOk m_Jour_init := rfl
theorem m_Jour_write_w : mWdOk m_Jour_write = true := by decide +kernel
set_option maxRecDepth 100000 in
theorem m_Jour_write_x : mCwOk m_Jour_write := rfl
theorem m_MD_above_w : mWdOk m_MD_above = true := by decide +kernel
set_option maxRecDepth 100000 in
theorem m_MD_above_x : mCwOk m_MD_above := rfl
theorem m_MD_belowOf_w : mWdOk m_MD_belowOf = true := by decide +kernel
set_option maxRecDepth 100000 in
theorem m_MD_belowOf_x : mCwOk m_MD_belowOf := rfl
theorem m_MD_bind_w : mWdOk m_MD_bind = true := by decide +kernel
set_option maxRecDepth 100000 in
theorem m_MD_bind_x : mCwOk m_MD_bind := rfl
theorem m_MD_bindAll_w : mWdOk m_MD_bindAll = true := by decide +kernel
set_option maxRecDepth 100000 in
theorem m_MD_bindAll_x : mCwOk m_MD_bindAll := rfl
theorem m_MD_bindNow_w : mWdOk m_MD_bindNow = true := by decide +kernel
set_option maxRecDepth 100000 in
theorem m_MD_bindNow_x : mCwOk m_MD_bindNow := rfl
theorem m_MD_bits_w : mWdOk m_MD_bits = true := by decide +kernel
set_option maxRecDepth 100000 in
theorem m_MD_bits_x : mCwOk m_MD_bits := rfl
theorem m_MD_bodiesOf_w : mWdOk m_MD_bodiesOf = true := by decide +kernel
set_option maxRecDepth 100000 in
theorem m_MD_bodiesOf_x : mCwOk m_MD_bodiesOf := rfl
theorem m_MD_body_w : mWdOk m_MD_body = true := by decide +kernel
set_option maxRecDepth 100000 in
theorem m_MD_body_x : mCwOk m_MD_body := rfl
theorem m_MD_bodyOf_w : mWdOk m_MD_bodyOf = true := by decide +kernel
set_option maxRecDepth 100000 in
theorem m_MD_bodyOf_x : mCwOk m_MD_bodyOf := rfl
theorem m_MD_boundOnes_w : mWdOk m_MD_boundOnes = true := by decide +kernel
set_option maxRecDepth 100000 in
theorem m_MD_boundOnes_x : mCwOk m_MD_boundOnes := rfl
theorem m_MD_breaks_w : mWdOk m_MD_breaks = true := by decide +kernel
set_option maxRecDepth 100000 in
theorem m_MD_breaks_x : mCwOk m_MD_breaks := rfl
theorem m_MD_byFaces_w : mWdOk m_MD_byFaces = true := by decide +kernel
set_option maxRecDepth 100000 in
theorem m_MD_byFaces_x : mCwOk m_MD_byFaces := rfl
theorem m_MD_call_w : mWdOk m_MD_call = true := by decide +kernel
set_option maxRecDepth 100000 in
theorem m_MD_call_x : mCwOk m_MD_call := rfl
theorem m_MD_calledBy_w : mWdOk m_MD_calledBy = true := by decide +kernel
set_option maxRecDepth 100000 in
theorem m_MD_calledBy_x : mCwOk m_MD_calledBy := rfl
theorem m_MD_callers_w : mWdOk m_MD_callers = true := by decide +kernel
set_option maxRecDepth 100000 in
theorem m_MD_callers_x : mCwOk m_MD_callers := rfl
theorem m_MD_callersOf_w : mWdOk m_MD_callersOf = true := by decide +kernel
set_option maxRecDepth 100000 in
theorem m_MD_callersOf_x : mCwOk m_MD_callersOf := rfl
theorem m_MD_canBind_w : mWdOk m_MD_canBind = true := by decide +kernel
set_option maxRecDepth 100000 in
theorem m_MD_canBind_x : mCwOk m_MD_canBind := rfl
theorem m_MD_classes_w : mWdOk m_MD_classes = true := by decide +kernel
set_option maxRecDepth 100000 in
theorem m_MD_classes_x : mCwOk m_MD_classes := rfl
theorem m_MD_common_w : mWdOk m_MD_common = true := by decide +kernel
set_option maxRecDepth 100000 in
theorem m_MD_common_x : mCwOk m_MD_common := rfl
theorem m_MD_could_w : mWdOk m_MD_could = true := by decide +kernel
set_option maxRecDepth 100000 in
theorem m_MD_could_x : mCwOk m_MD_could := rfl
theorem m_MD_does_w : mWdOk m_MD_does = true := by decide +kernel
set_option maxRecDepth 100000 in
theorem m_MD_does_x : mCwOk m_MD_does := rfl
theorem m_MD_doneBy_w : mWdOk m_MD_doneBy = true := by decide +kernel
set_option maxRecDepth 100000 in
theorem m_MD_doneBy_x : mCwOk m_MD_doneBy := rfl
theorem m_MD_drift_w : mWdOk m_MD_drift = true := by decide +kernel
set_option maxRecDepth 100000 in
theorem m_MD_drift_x : mCwOk m_MD_drift := rfl
theorem m_MD_fails_w : mWdOk m_MD_fails = true := by decide +kernel
set_option maxRecDepth 100000 in
theorem m_MD_fails_x : mCwOk m_MD_fails := rfl
theorem m_MD_fault_w : mWdOk m_MD_fault = true := by decide +kernel
set_option maxRecDepth 100000 in
theorem m_MD_fault_x : mCwOk m_MD_fault := rfl
theorem m_MD_feed_w : mWdOk m_MD_feed = true := by decide +kernel
set_option maxRecDepth 100000 in
theorem m_MD_feed_x : mCwOk m_MD_feed := rfl
theorem m_MD_firstOf_w : mWdOk m_MD_firstOf = true := by decide +kernel
set_option maxRecDepth 100000 in
theorem m_MD_firstOf_x : mCwOk m_MD_firstOf := rfl
theorem m_MD_found_w : mWdOk m_MD_found = true := by decide +kernel
set_option maxRecDepth 100000 in
theorem m_MD_found_x : mCwOk m_MD_found := rfl
theorem m_MD_foundFor_w : mWdOk m_MD_foundFor = true := by decide +kernel
set_option maxRecDepth 100000 in
theorem m_MD_foundFor_x : mCwOk m_MD_foundFor := rfl
theorem m_MD_foundFrom_w : mWdOk m_MD_foundFrom = true := by decide +kernel
set_option maxRecDepth 100000 in
theorem m_MD_foundFrom_x : mCwOk m_MD_foundFrom := rfl
theorem m_MD_goBack_w : mWdOk m_MD_goBack = true := by decide +kernel
set_option maxRecDepth 100000 in
theorem m_MD_goBack_x : mCwOk m_MD_goBack := rfl
theorem m_MD_has_w : mWdOk m_MD_has = true := by decide +kernel
set_option maxRecDepth 100000 in
theorem m_MD_has_x : mCwOk m_MD_has := rfl
theorem m_MD_here_w : mWdOk m_MD_here = true := by decide +kernel
set_option maxRecDepth 100000 in
theorem m_MD_here_x : mCwOk m_MD_here := rfl
theorem m_MD_holds_w : mWdOk m_MD_holds = true := by decide +kernel
set_option maxRecDepth 100000 in
theorem m_MD_holds_x : mCwOk m_MD_holds := rfl
theorem m_MD_hurts_w : mWdOk m_MD_hurts = true := by decide +kernel
set_option maxRecDepth 100000 in
theorem m_MD_hurts_x : mCwOk m_MD_hurts := rfl
theorem m_MD_in_w : mWdOk m_MD_in = true := by decide +kernel
set_option maxRecDepth 100000 in
theorem m_MD_in_x : mCwOk m_MD_in := rfl
theorem m_MD_init_w : mWdOk m_MD_init = true := by decide +kernel
set_option maxRecDepth 100000 in
theorem m_MD_init_x : mCwOk m_MD_init := rfl
theorem m_MD_isBelow_w : mWdOk m_MD_isBelow = true := by decide +kernel
set_option maxRecDepth 100000 in
theorem m_MD_isBelow_x : mCwOk m_MD_isBelow := rfl
theorem m_MD_isBody_w : mWdOk m_MD_isBody = true := by decide +kernel
set_option maxRecDepth 100000 in
theorem m_MD_isBody_x : mCwOk m_MD_isBody := rfl
theorem m_MD_isCall_w : mWdOk m_MD_isCall = true := by decide +kernel
set_option maxRecDepth 100000 in
theorem m_MD_isCall_x : mCwOk m_MD_isCall := rfl
theorem m_MD_isFull_w : mWdOk m_MD_isFull = true := by decide +kernel
set_option maxRecDepth 100000 in
theorem m_MD_isFull_x : mCwOk m_MD_isFull := rfl
theorem m_MD_isOne_w : mWdOk m_MD_isOne = true := by decide +kernel
set_option maxRecDepth 100000 in
theorem m_MD_isOne_x : mCwOk m_MD_isOne := rfl
theorem m_MD_isOver_w : mWdOk m_MD_isOver = true := by decide +kernel
set_option maxRecDepth 100000 in
theorem m_MD_isOver_x : mCwOk m_MD_isOver := rfl
theorem m_MD_isType_w : mWdOk m_MD_isType = true := by decide +kernel
set_option maxRecDepth 100000 in
theorem m_MD_isType_x : mCwOk m_MD_isType := rfl
theorem m_MD_journal_w : mWdOk m_MD_journal = true := by decide +kernel
set_option maxRecDepth 100000 in
theorem m_MD_journal_x : mCwOk m_MD_journal := rfl
theorem m_MD_keep_w : mWdOk m_MD_keep = true := by decide +kernel
set_option maxRecDepth 100000 in
theorem m_MD_keep_x : mCwOk m_MD_keep := rfl
theorem m_MD_layLeft_w : mWdOk m_MD_layLeft = true := by decide +kernel
set_option maxRecDepth 100000 in
theorem m_MD_layLeft_x : mCwOk m_MD_layLeft := rfl
theorem m_MD_load_w : mWdOk m_MD_load = true := by decide +kernel
set_option maxRecDepth 100000 in
theorem m_MD_load_x : mCwOk m_MD_load := rfl
theorem m_MD_loadNow_w : mWdOk m_MD_loadNow = true := by decide +kernel
set_option maxRecDepth 100000 in
theorem m_MD_loadNow_x : mCwOk m_MD_loadNow := rfl
theorem m_MD_loadedBodies_w : mWdOk m_MD_loadedBodies = true := by decide +kernel
set_option maxRecDepth 100000 in
theorem m_MD_loadedBodies_x : mCwOk m_MD_loadedBodies := rfl
theorem m_MD_loose_w : mWdOk m_MD_loose = true := by decide +kernel
set_option maxRecDepth 100000 in
theorem m_MD_loose_x : mCwOk m_MD_loose := rfl
theorem m_MD_lowest_w : mWdOk m_MD_lowest = true := by decide +kernel
set_option maxRecDepth 100000 in
theorem m_MD_lowest_x : mCwOk m_MD_lowest := rfl
theorem m_MD_makers_w : mWdOk m_MD_makers = true := by decide +kernel
set_option maxRecDepth 100000 in
theorem m_MD_makers_x : mCwOk m_MD_makers := rfl
theorem m_MD_mayOf_w : mWdOk m_MD_mayOf = true := by decide +kernel
set_option maxRecDepth 100000 in
theorem m_MD_mayOf_x : mCwOk m_MD_mayOf := rfl
theorem m_MD_over_w : mWdOk m_MD_over = true := by decide +kernel
set_option maxRecDepth 100000 in
theorem m_MD_over_x : mCwOk m_MD_over := rfl
theorem m_MD_program_w : mWdOk m_MD_program = true := by decide +kernel
set_option maxRecDepth 100000 in
theorem m_MD_program_x : mCwOk m_MD_program := rfl
theorem m_MD_reach_w : mWdOk m_MD_reach = true := by decide +kernel
set_option maxRecDepth 100000 in
theorem m_MD_reach_x : mCwOk m_MD_reach := rfl
theorem m_MD_reachFrom_w : mWdOk m_MD_reachFrom = true := by decide +kernel
set_option maxRecDepth 100000 in
theorem m_MD_reachFrom_x : mCwOk m_MD_reachFrom := rfl
theorem m_MD_remember_w : mWdOk m_MD_remember = true := by decide +kernel
set_option maxRecDepth 100000 in
theorem m_MD_remember_x : mCwOk m_MD_remember := rfl
theorem m_MD_ring_w : mWdOk m_MD_ring = true := by decide +kernel
set_option maxRecDepth 100000 in
theorem m_MD_ring_x : mCwOk m_MD_ring := rfl
theorem m_MD_root_w : mWdOk m_MD_root = true := by decide +kernel
set_option maxRecDepth 100000 in
theorem m_MD_root_x : mCwOk m_MD_root := rfl
theorem m_MD_stepBy_w : mWdOk m_MD_stepBy = true := by decide +kernel
set_option maxRecDepth 100000 in
theorem m_MD_stepBy_x : mCwOk m_MD_stepBy := rfl
theorem m_MD_stepsOf_w : mWdOk m_MD_stepsOf = true := by decide +kernel
set_option maxRecDepth 100000 in
theorem m_MD_stepsOf_x : mCwOk m_MD_stepsOf := rfl
theorem m_MD_takeBody_w : mWdOk m_MD_takeBody = true := by decide +kernel
set_option maxRecDepth 100000 in
theorem m_MD_takeBody_x : mCwOk m_MD_takeBody := rfl
theorem m_MD_takeClass_w : mWdOk m_MD_takeClass = true := by decide +kernel
set_option maxRecDepth 100000 in
theorem m_MD_takeClass_x : mCwOk m_MD_takeClass := rfl
theorem m_MD_takeClause_w : mWdOk m_MD_takeClause = true := by decide +kernel
set_option maxRecDepth 100000 in
theorem m_MD_takeClause_x : mCwOk m_MD_takeClause := rfl
theorem m_MD_takeFace_w : mWdOk m_MD_takeFace = true := by decide +kernel
set_option maxRecDepth 100000 in
theorem m_MD_takeFace_x : mCwOk m_MD_takeFace := rfl
theorem m_MD_takeFaces_w : mWdOk m_MD_takeFaces = true := by decide +kernel
set_option maxRecDepth 100000 in
theorem m_MD_takeFaces_x : mCwOk m_MD_takeFaces := rfl
theorem m_MD_takeInterface_w : mWdOk m_MD_takeInterface = true := by decide +kernel
set_option maxRecDepth 100000 in
theorem m_MD_takeInterface_x : mCwOk m_MD_takeInterface := rfl
theorem m_MD_takeNumber_w : mWdOk m_MD_takeNumber = true := by decide +kernel
set_option maxRecDepth 100000 in
theorem m_MD_takeNumber_x : mCwOk m_MD_takeNumber := rfl
theorem m_MD_takeRead_w : mWdOk m_MD_takeRead = true := by decide +kernel
set_option maxRecDepth 100000 in
theorem m_MD_takeRead_x : mCwOk m_MD_takeRead := rfl
theorem m_MD_takeStep_w : mWdOk m_MD_takeStep = true := by decide +kernel
set_option maxRecDepth 100000 in
theorem m_MD_takeStep_x : mCwOk m_MD_takeStep := rfl
theorem m_MD_told_w : mWdOk m_MD_told = true := by decide +kernel
set_option maxRecDepth 100000 in
theorem m_MD_told_x : mCwOk m_MD_told := rfl
theorem m_MD_type_w : mWdOk m_MD_type = true := by decide +kernel
set_option maxRecDepth 100000 in
theorem m_MD_type_x : mCwOk m_MD_type := rfl
theorem m_MD_undo_w : mWdOk m_MD_undo = true := by decide +kernel
set_option maxRecDepth 100000 in
theorem m_MD_undo_x : mCwOk m_MD_undo := rfl
theorem m_MD_users_w : mWdOk m_MD_users = true := by decide +kernel
set_option maxRecDepth 100000 in
theorem m_MD_users_x : mCwOk m_MD_users := rfl
theorem m_MD_way_w : mWdOk m_MD_way = true := by decide +kernel
set_option maxRecDepth 100000 in
theorem m_MD_way_x : mCwOk m_MD_way := rfl
theorem m_MD_wouldGo_w : mWdOk m_MD_wouldGo = true := by decide +kernel
set_option maxRecDepth 100000 in
theorem m_MD_wouldGo_x : mCwOk m_MD_wouldGo := rfl
theorem m_MD_write_w : mWdOk m_MD_write = true := by decide +kernel
set_option maxRecDepth 100000 in
theorem m_MD_write_x : mCwOk m_MD_write := rfl
theorem m_Mat_floorMod_w : mWdOk m_Mat_floorMod = true := by decide +kernel
set_option maxRecDepth 100000 in
theorem m_Mat_floorMod_x : mCwOk m_Mat_floorMod := rfl
theorem m_Mat_max_w : mWdOk m_Mat_max = true := by decide +kernel
set_option maxRecDepth 100000 in
theorem m_Mat_max_x : mCwOk m_Mat_max := rfl
theorem m_Mat_min_w : mWdOk m_Mat_min = true := by decide +kernel
set_option maxRecDepth 100000 in
theorem m_Mat_min_x : mCwOk m_Mat_min := rfl
theorem m_Past_clear_w : mWdOk m_Past_clear = true := by decide +kernel
set_option maxRecDepth 100000 in
theorem m_Past_clear_x : mCwOk m_Past_clear := rfl
theorem m_Past_giveBack_w : mWdOk m_Past_giveBack = true := by decide +kernel
set_option maxRecDepth 100000 in
theorem m_Past_giveBack_x : mCwOk m_Past_giveBack := rfl
theorem m_Past_init_w : mWdOk m_Past_init = true := by decide +kernel
set_option maxRecDepth 100000 in
theorem m_Past_init_x : mCwOk m_Past_init := rfl
theorem m_Past_remember_w : mWdOk m_Past_remember = true := by decide +kernel
set_option maxRecDepth 100000 in
theorem m_Past_remember_x : mCwOk m_Past_remember := rfl
theorem m_Plan_addBody_w : mWdOk m_Plan_addBody = true := by decide +kernel
set_option maxRecDepth 100000 in
theorem m_Plan_addBody_x : mCwOk m_Plan_addBody := rfl
theorem m_Plan_addStep_w : mWdOk m_Plan_addStep = true := by decide +kernel
set_option maxRecDepth 100000 in
theorem m_Plan_addStep_x : mCwOk m_Plan_addStep := rfl
theorem m_Plan_addType_w : mWdOk m_Plan_addType = true := by decide +kernel
set_option maxRecDepth 100000 in
theorem m_Plan_addType_x : mCwOk m_Plan_addType := rfl
theorem m_Plan_bodiesOf_w : mWdOk m_Plan_bodiesOf = true := by decide +kernel
set_option maxRecDepth 100000 in
theorem m_Plan_bodiesOf_x : mCwOk m_Plan_bodiesOf := rfl
theorem m_Plan_bodiesThatMake_w : mWdOk m_Plan_bodiesThatMake = true := by decide +kernel
set_option maxRecDepth 100000 in
theorem m_Plan_bodiesThatMake_x : mCwOk m_Plan_bodiesThatMake := rfl
theorem m_Plan_calledBy_w : mWdOk m_Plan_calledBy = true := by decide +kernel
set_option maxRecDepth 100000 in
theorem m_Plan_calledBy_x : mCwOk m_Plan_calledBy := rfl
theorem m_Plan_clear_w : mWdOk m_Plan_clear = true := by decide +kernel
set_option maxRecDepth 100000 in
theorem m_Plan_clear_x : mCwOk m_Plan_clear := rfl
theorem m_Plan_firstShared_w : mWdOk m_Plan_firstShared = true := by decide +kernel
set_option maxRecDepth 100000 in
theorem m_Plan_firstShared_x : mCwOk m_Plan_firstShared := rfl
theorem m_Plan_foundFor_w : mWdOk m_Plan_foundFor = true := by decide +kernel
set_option maxRecDepth 100000 in
theorem m_Plan_foundFor_x : mCwOk m_Plan_foundFor := rfl
theorem m_Plan_foundOver_w : mWdOk m_Plan_foundOver = true := by decide +kernel
set_option maxRecDepth 100000 in
theorem m_Plan_foundOver_x : mCwOk m_Plan_foundOver := rfl
theorem m_Plan_init_w : mWdOk m_Plan_init = true := by decide +kernel
set_option maxRecDepth 100000 in
theorem m_Plan_init_x : mCwOk m_Plan_init := rfl
theorem m_Plan_isClass_w : mWdOk m_Plan_isClass = true := by decide +kernel
set_option maxRecDepth 100000 in
theorem m_Plan_isClass_x : mCwOk m_Plan_isClass := rfl
theorem m_Plan_key_w : mWdOk m_Plan_key = true := by decide +kernel
set_option maxRecDepth 100000 in
theorem m_Plan_key_x : mCwOk m_Plan_key := rfl
theorem m_Plan_lookUp_w : mWdOk m_Plan_lookUp = true := by decide +kernel
set_option maxRecDepth 100000 in
theorem m_Plan_lookUp_x : mCwOk m_Plan_lookUp := rfl
theorem m_Plan_lookUpAll_w : mWdOk m_Plan_lookUpAll = true := by decide +kernel
set_option maxRecDepth 100000 in
theorem m_Plan_lookUpAll_x : mCwOk m_Plan_lookUpAll := rfl
theorem m_Plan_lookUpInInterfaces_w : mWdOk m_Plan_lookUpInInterfaces = true := by decide +kernel
set_option maxRecDepth 100000 in
theorem m_Plan_lookUpInInterfaces_x : mCwOk m_Plan_lookUpInInterfaces := rfl
theorem m_Plan_madeBy_w : mWdOk m_Plan_madeBy = true := by decide +kernel
set_option maxRecDepth 100000 in
theorem m_Plan_madeBy_x : mCwOk m_Plan_madeBy := rfl
theorem m_Plan_mayOf_w : mWdOk m_Plan_mayOf = true := by decide +kernel
set_option maxRecDepth 100000 in
theorem m_Plan_mayOf_x : mCwOk m_Plan_mayOf := rfl
theorem m_Plan_ownBody_w : mWdOk m_Plan_ownBody = true := by decide +kernel
set_option maxRecDepth 100000 in
theorem m_Plan_ownBody_x : mCwOk m_Plan_ownBody := rfl
theorem m_Plan_stepsOf_w : mWdOk m_Plan_stepsOf = true := by decide +kernel
set_option maxRecDepth 100000 in
theorem m_Plan_stepsOf_x : mCwOk m_Plan_stepsOf := rfl
theorem m_Read_advance_w : mWdOk m_Read_advance = true := by decide +kernel
set_option maxRecDepth 100000 in
theorem m_Read_advance_x : mCwOk m_Read_advance := rfl
theorem m_Read_fail_w : mWdOk m_Read_fail = true := by decide +kernel
set_option maxRecDepth 100000 in
theorem m_Read_fail_x : mCwOk m_Read_fail := rfl
theorem m_Read_init_w : mWdOk m_Read_init = true := by decide +kernel
set_option maxRecDepth 100000 in
theorem m_Read_init_x : mCwOk m_Read_init := rfl
theorem m_Read_isEnded_w : mWdOk m_Read_isEnded = true := by decide +kernel
set_option maxRecDepth 100000 in
theorem m_Read_isEnded_x : mCwOk m_Read_isEnded := rfl
theorem m_Read_isFigure_w : mWdOk m_Read_isFigure = true := by decide +kernel
set_option maxRecDepth 100000 in
theorem m_Read_isFigure_x : mCwOk m_Read_isFigure := rfl
theorem m_Read_readBody_w : mWdOk m_Read_readBody = true := by decide +kernel
set_option maxRecDepth 100000 in
theorem m_Read_readBody_x : mCwOk m_Read_readBody := rfl
theorem m_Read_readInterface_w : mWdOk m_Read_readInterface = true := by decide +kernel
set_option maxRecDepth 100000 in
theorem m_Read_readInterface_x : mCwOk m_Read_readInterface := rfl
theorem m_Read_readInto_w : mWdOk m_Read_readInto = true := by decide +kernel
set_option maxRecDepth 100000 in
theorem m_Read_readInto_x : mCwOk m_Read_readInto := rfl
theorem m_Read_readParent_w : mWdOk m_Read_readParent = true := by decide +kernel
set_option maxRecDepth 100000 in
theorem m_Read_readParent_x : mCwOk m_Read_readParent := rfl
theorem m_Read_readStep_w : mWdOk m_Read_readStep = true := by decide +kernel
set_option maxRecDepth 100000 in
theorem m_Read_readStep_x : mCwOk m_Read_readStep := rfl
theorem m_Read_readType_w : mWdOk m_Read_readType = true := by decide +kernel
set_option maxRecDepth 100000 in
theorem m_Read_readType_x : mCwOk m_Read_readType := rfl
theorem m_Read_takeLetter_w : mWdOk m_Read_takeLetter = true := by decide +kernel
set_option maxRecDepth 100000 in
theorem m_Read_takeLetter_x : mCwOk m_Read_takeLetter := rfl
theorem m_Read_takeNumber_w : mWdOk m_Read_takeNumber = true := by decide +kernel
set_option maxRecDepth 100000 in
theorem m_Read_takeNumber_x : mCwOk m_Read_takeNumber := rfl
theorem m_Read_takeWord_w : mWdOk m_Read_takeWord = true := by decide +kernel
set_option maxRecDepth 100000 in
theorem m_Read_takeWord_x : mCwOk m_Read_takeWord := rfl
theorem m_Read_wantParentOf_w : mWdOk m_Read_wantParentOf = true := by decide +kernel
set_option maxRecDepth 100000 in
theorem m_Read_wantParentOf_x : mCwOk m_Read_wantParentOf := rfl
theorem m_Read_wantSort_w : mWdOk m_Read_wantSort = true := by decide +kernel
set_option maxRecDepth 100000 in
theorem m_Read_wantSort_x : mCwOk m_Read_wantSort := rfl
theorem m_Scen_become_w : mWdOk m_Scen_become = true := by decide +kernel
set_option maxRecDepth 100000 in
theorem m_Scen_become_x : mCwOk m_Scen_become := rfl
theorem m_Scen_bindTo_w : mWdOk m_Scen_bindTo = true := by decide +kernel
set_option maxRecDepth 100000 in
theorem m_Scen_bindTo_x : mCwOk m_Scen_bindTo := rfl
theorem m_Scen_boundBody_w : mWdOk m_Scen_boundBody = true := by decide +kernel
set_option maxRecDepth 100000 in
theorem m_Scen_boundBody_x : mCwOk m_Scen_boundBody := rfl
theorem m_Scen_boundCalls_w : mWdOk m_Scen_boundCalls = true := by decide +kernel
set_option maxRecDepth 100000 in
theorem m_Scen_boundCalls_x : mCwOk m_Scen_boundCalls := rfl
theorem m_Scen_clear_w : mWdOk m_Scen_clear = true := by decide +kernel
set_option maxRecDepth 100000 in
theorem m_Scen_clear_x : mCwOk m_Scen_clear := rfl
theorem m_Scen_init_w : mWdOk m_Scen_init = true := by decide +kernel
set_option maxRecDepth 100000 in
theorem m_Scen_init_x : mCwOk m_Scen_init := rfl
theorem m_Scen_setFree_w : mWdOk m_Scen_setFree = true := by decide +kernel
set_option maxRecDepth 100000 in
theorem m_Scen_setFree_x : mCwOk m_Scen_setFree := rfl
theorem m_Scen_withdraw_w : mWdOk m_Scen_withdraw = true := by decide +kernel
set_option maxRecDepth 100000 in
theorem m_Scen_withdraw_x : mCwOk m_Scen_withdraw := rfl
