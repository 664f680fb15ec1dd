set_option maxRecDepth 100000 in
theorem ok_C_init : g_okb b_C_init 2 c_C_init = true := by decide +kernel
set_option maxRecDepth 100000 in
theorem ok_C_make : g_okb b_C_make 6 c_C_make = true := by decide +kernel
set_option maxRecDepth 100000 in
theorem ok_C_extend : g_okb b_C_extend 4 c_C_extend = true := by decide +kernel
set_option maxRecDepth 100000 in
theorem ok_C_find : g_okb b_C_find 2 c_C_find = true := by decide +kernel
set_option maxRecDepth 100000 in
theorem ok_C_member : g_okb b_C_member 5 c_C_member = true := by decide +kernel
set_option maxRecDepth 100000 in
theorem ok_C_track : g_okb b_C_track 5 c_C_track = true := by decide +kernel
set_option maxRecDepth 100000 in
theorem ok_C_remove : g_okb b_C_remove 6 c_C_remove = true := by decide +kernel
set_option maxRecDepth 100000 in
theorem ok_C_guard : g_okb b_C_guard 5 c_C_guard = true := by decide +kernel
set_option maxRecDepth 100000 in
theorem ok_C_rename : g_okb b_C_rename 4 c_C_rename = true := by decide +kernel
set_option maxRecDepth 100000 in
theorem ok_C_attribute : g_okb b_C_attribute 6 c_C_attribute = true := by decide +kernel
set_option maxRecDepth 100000 in
theorem ok_C_merged : g_okb b_C_merged 4 c_C_merged = true := by decide +kernel
set_option maxRecDepth 100000 in
theorem ok_C_enqueue : g_okb b_C_enqueue 4 c_C_enqueue = true := by decide +kernel
set_option maxRecDepth 100000 in
theorem ok_C_free : g_okb b_C_free 4 c_C_free = true := by decide +kernel
set_option maxRecDepth 100000 in
theorem ok_C_compress : g_okb b_C_compress 3 c_C_compress = true := by decide +kernel
set_option maxRecDepth 100000 in
theorem ok_C_release : g_okb b_C_release 3 c_C_release = true := by decide +kernel
set_option maxRecDepth 100000 in
theorem ok_C_space : g_okb b_C_space 2 c_C_space = true := by decide +kernel
set_option maxRecDepth 100000 in
theorem ok_C_extent : g_okb b_C_extent 5 c_C_extent = true := by decide +kernel
set_option maxRecDepth 100000 in
theorem ok_C_isName : g_okb b_C_isName 1 c_C_isName = true := by decide +kernel
set_option maxRecDepth 100000 in
theorem ok_C_isJob : g_okb b_C_isJob 1 c_C_isJob = true := by decide +kernel
set_option maxRecDepth 100000 in
theorem ok_C_isAttribute : g_okb b_C_isAttribute 1 c_C_isAttribute = true := by decide +kernel
set_option maxRecDepth 100000 in
theorem ok_C_setOf : g_okb b_C_setOf 2 c_C_setOf = true := by decide +kernel
set_option maxRecDepth 100000 in
theorem ok_C_numberOf : g_okb b_C_numberOf 3 c_C_numberOf = true := by decide +kernel
set_option maxRecDepth 100000 in
theorem ok_C_isInUse : g_okb b_C_isInUse 2 c_C_isInUse = true := by decide +kernel
set_option maxRecDepth 100000 in
theorem ok_C_countSets : g_okb b_C_countSets 3 c_C_countSets = true := by decide +kernel
set_option maxRecDepth 100000 in
theorem ok_C_countExtents : g_okb b_C_countExtents 3 c_C_countExtents = true := by decide +kernel
set_option maxRecDepth 100000 in
theorem ok_C_countHoldings : g_okb b_C_countHoldings 3 c_C_countHoldings = true := by decide +kernel
set_option maxRecDepth 100000 in
theorem ok_C_countWaiting : g_okb b_C_countWaiting 3 c_C_countWaiting = true := by decide +kernel
set_option maxRecDepth 100000 in
theorem ok_M_init : g_okb b_M_init 3 c_M_init = true := by decide +kernel
set_option maxRecDepth 100000 in
theorem ok_M_isName : g_okb b_M_isName 1 c_M_isName = true := by decide +kernel
set_option maxRecDepth 100000 in
theorem ok_M_isSet : g_okb b_M_isSet 2 c_M_isSet = true := by decide +kernel
set_option maxRecDepth 100000 in
theorem ok_M_named : g_okb b_M_named 4 c_M_named = true := by decide +kernel
set_option maxRecDepth 100000 in
theorem ok_M_place : g_okb b_M_place 4 c_M_place = true := by decide +kernel
set_option maxRecDepth 100000 in
theorem ok_M_take : g_okb b_M_take 5 c_M_take = true := by decide +kernel
set_option maxRecDepth 100000 in
theorem ok_M_tracksOf : g_okb b_M_tracksOf 4 c_M_tracksOf = true := by decide +kernel
set_option maxRecDepth 100000 in
theorem ok_M_make : g_okb b_M_make 5 c_M_make = true := by decide +kernel
set_option maxRecDepth 100000 in
theorem ok_M_extend : g_okb b_M_extend 3 c_M_extend = true := by decide +kernel
set_option maxRecDepth 100000 in
theorem ok_M_find : g_okb b_M_find 2 c_M_find = true := by decide +kernel
set_option maxRecDepth 100000 in
theorem ok_M_memberOf : g_okb b_M_memberOf 5 c_M_memberOf = true := by decide +kernel
set_option maxRecDepth 100000 in
theorem ok_M_member : g_okb b_M_member 6 c_M_member = true := by decide +kernel
set_option maxRecDepth 100000 in
theorem ok_M_track : g_okb b_M_track 6 c_M_track = true := by decide +kernel
set_option maxRecDepth 100000 in
theorem ok_M_compress : g_okb b_M_compress 6 c_M_compress = true := by decide +kernel
set_option maxRecDepth 100000 in
theorem ok_M_release : g_okb b_M_release 10 c_M_release = true := by decide +kernel
set_option maxRecDepth 100000 in
theorem ok_M_isAsked : g_okb b_M_isAsked 4 c_M_isAsked = true := by decide +kernel
set_option maxRecDepth 100000 in
theorem ok_M_remove : g_okb b_M_remove 6 c_M_remove = true := by decide +kernel
set_option maxRecDepth 100000 in
theorem ok_M_guard : g_okb b_M_guard 4 c_M_guard = true := by decide +kernel
set_option maxRecDepth 100000 in
theorem ok_M_rename : g_okb b_M_rename 4 c_M_rename = true := by decide +kernel
set_option maxRecDepth 100000 in
theorem ok_M_can : g_okb b_M_can 5 c_M_can = true := by decide +kernel
set_option maxRecDepth 100000 in
theorem ok_M_isAwaited : g_okb b_M_isAwaited 4 c_M_isAwaited = true := by decide +kernel
set_option maxRecDepth 100000 in
theorem ok_M_enqueue : g_okb b_M_enqueue 5 c_M_enqueue = true := by decide +kernel
set_option maxRecDepth 100000 in
theorem ok_M_grant : g_okb b_M_grant 3 c_M_grant = true := by decide +kernel
set_option maxRecDepth 100000 in
theorem ok_M_free : g_okb b_M_free 5 c_M_free = true := by decide +kernel
set_option maxRecDepth 100000 in
theorem ok_M_attribute : g_okb b_M_attribute 5 c_M_attribute = true := by decide +kernel
set_option maxRecDepth 100000 in
theorem ok_M_merged : g_okb b_M_merged 4 c_M_merged = true := by decide +kernel
set_option maxRecDepth 100000 in
theorem ok_M_extent : g_okb b_M_extent 4 c_M_extent = true := by decide +kernel
set_option maxRecDepth 100000 in
theorem ok_M_space : g_okb b_M_space 9 c_M_space = true := by decide +kernel
set_option maxRecDepth 100000 in
theorem ok_A_init : g_okb b_A_init 1 c_A_init = true := by decide +kernel
set_option maxRecDepth 100000 in
theorem ok_A_tell : g_okb b_A_tell 5 c_A_tell = true := by decide +kernel
set_option maxRecDepth 100000 in
theorem ok_A_firstTold : g_okb b_A_firstTold 4 c_A_firstTold = true := by decide +kernel
set_option maxRecDepth 100000 in
theorem ok_S_init : g_okb b_S_init 3 c_S_init = true := by decide +kernel
set_option maxRecDepth 100000 in
theorem ok_D_init : g_okb b_D_init 1 c_D_init = true := by decide +kernel
set_option maxRecDepth 100000 in
theorem ok_D_hasRoomFor : g_okb b_D_hasRoomFor 2 c_D_hasRoomFor = true := by decide +kernel
set_option maxRecDepth 100000 in
theorem ok_D_put : g_okb b_D_put 3 c_D_put = true := by decide +kernel
set_option maxRecDepth 100000 in
theorem ok_D_startOf : g_okb b_D_startOf 3 c_D_startOf = true := by decide +kernel
set_option maxRecDepth 100000 in
theorem ok_D_closeGaps : g_okb b_D_closeGaps 3 c_D_closeGaps = true := by decide +kernel
set_option maxRecDepth 100000 in
theorem ok_D_indexOf : g_okb b_D_indexOf 3 c_D_indexOf = true := by decide +kernel
set_option maxRecDepth 100000 in
theorem ok_D_drop : g_okb b_D_drop 4 c_D_drop = true := by decide +kernel
set_option maxRecDepth 100000 in
theorem ok_E_init : g_okb b_E_init 1 c_E_init = true := by decide +kernel
set_option maxRecDepth 100000 in
theorem ok_E_isFull : g_okb b_E_isFull 1 c_E_isFull = true := by decide +kernel
set_option maxRecDepth 100000 in
theorem ok_E_add : g_okb b_E_add 3 c_E_add = true := by decide +kernel
set_option maxRecDepth 100000 in
theorem ok_E_tracks : g_okb b_E_tracks 3 c_E_tracks = true := by decide +kernel
set_option maxRecDepth 100000 in
theorem ok_E_onVolume : g_okb b_E_onVolume 4 c_E_onVolume = true := by decide +kernel
set_option maxRecDepth 100000 in
theorem ok_E_cutTo : g_okb b_E_cutTo 9 c_E_cutTo = true := by decide +kernel
set_option maxRecDepth 100000 in
theorem ok_L_init : g_okb b_L_init 1 c_L_init = true := by decide +kernel
set_option maxRecDepth 100000 in
theorem ok_L_ask : g_okb b_L_ask 3 c_L_ask = true := by decide +kernel
set_option maxRecDepth 100000 in
theorem ok_L_drop : g_okb b_L_drop 5 c_L_drop = true := by decide +kernel
set_option maxRecDepth 100000 in
theorem ok_L_admit : g_okb b_L_admit 1 c_L_admit = true := by decide +kernel
set_option maxRecDepth 100000 in
theorem ok_L_canHold : g_okb b_L_canHold 2 c_L_canHold = true := by decide +kernel
set_option maxRecDepth 100000 in
theorem ok_L_placeOf : g_okb b_L_placeOf 3 c_L_placeOf = true := by decide +kernel
set_option maxRecDepth 100000 in
theorem ok_V_init : g_okb b_V_init 2 c_V_init = true := by decide +kernel
set_option maxRecDepth 100000 in
theorem ok_V_firstRun : g_okb b_V_firstRun 4 c_V_firstRun = true := by decide +kernel
set_option maxRecDepth 100000 in
theorem ok_V_longestRun : g_okb b_V_longestRun 4 c_V_longestRun = true := by decide +kernel
set_option maxRecDepth 100000 in
theorem ok_V_freeTracks : g_okb b_V_freeTracks 3 c_V_freeTracks = true := by decide +kernel
set_option maxRecDepth 100000 in
theorem ok_V_take : g_okb b_V_take 3 c_V_take = true := by decide +kernel
set_option maxRecDepth 100000 in
theorem ok_V_giveBack : g_okb b_V_giveBack 3 c_V_giveBack = true := by decide +kernel
set_option maxRecDepth 100000 in
theorem ok_V_mark : g_okb b_V_mark 6 c_V_mark = true := by decide +kernel
set_option maxRecDepth 100000 in
theorem ok_W_cell : g_okb b_W_cell 2 c_W_cell = true := by decide +kernel
set_option maxRecDepth 100000 in
theorem ok_W_law : g_okb b_W_law 4 c_W_law = true := by decide +kernel
