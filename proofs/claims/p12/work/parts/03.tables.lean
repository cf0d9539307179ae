/-! THE PROGRAM as tables of the small machine: printed by a program (wip/gen/tables.py) out of the decode rows and the words of the Statement. -/
noncomputable def zW_0 : List Cond := [.code yX0_init prog_2_method_1_code 1 none, .initialized RX0, .instanceMethod yX0_init, .code yX0_has prog_2_method_2_code 2 (some .boolean), .instanceMethod yX0_has, .selects RX0 yX0_has yX0_has, .code yX0_add prog_2_method_3_code 2 (some .int), .instanceMethod yX0_add, .selects RX0 yX0_add yX0_add, .code yX0_isUnder prog_2_method_4_code 4 (some .boolean), .static yX0_isUnder, .code yX0_bodyThatRan prog_2_method_5_code 2 (some .int), .instanceMethod yX0_bodyThatRan, .selects RX0 yX0_bodyThatRan yX0_bodyThatRan, .code yX0_perform prog_2_method_6_code 4 (some .int), .instanceMethod yX0_perform]
noncomputable def zW_1 : List Cond := [.selects RX0 yX0_perform yX0_perform, .code yX0_run prog_2_method_7_code 7 (some .int), .instanceMethod yX0_run, .selects RX0 yX0_run yX0_run, .code yX0_work prog_2_method_8_code 5 (some .int), .instanceMethod yX0_work, .selects RX0 yX0_work yX0_work, .code yX1_init prog_3_method_1_code 1 none, .initialized RX1, .instanceMethod yX1_init, .code yX1_note prog_3_method_2_code 5 none, .instanceMethod yX1_note, .selects RX1 yX1_note yX1_note, .code yX1_forgetFirst prog_3_method_3_code 1 none, .instanceMethod yX1_forgetFirst, .selects RX1 yX1_forgetFirst yX1_forgetFirst]
noncomputable def zW_2 : List Cond := [.code yX1_takeBack prog_3_method_4_code 2 none, .instanceMethod yX1_takeBack, .selects RX1 yX1_takeBack yX1_takeBack, .code yX1_doAgain prog_3_method_5_code 2 none, .instanceMethod yX1_doAgain, .selects RX1 yX1_doAgain yX1_doAgain, .code yX2_init prog_4_method_1_code 2 none, .initialized RX2, .instanceMethod yX2_init, .code yX2_hasHead prog_4_method_2_code 2 (some .boolean), .instanceMethod yX2_hasHead, .selects RX2 yX2_hasHead yX2_hasHead, .code yX2_hasIdea prog_4_method_3_code 2 (some .boolean), .instanceMethod yX2_hasIdea, .selects RX2 yX2_hasIdea yX2_hasIdea, .code yX2_hasRoad prog_4_method_4_code 2 (some .boolean)]
noncomputable def zW_3 : List Cond := [.instanceMethod yX2_hasRoad, .selects RX2 yX2_hasRoad yX2_hasRoad, .code yX2_layRoad prog_4_method_5_code 5 (some .int), .instanceMethod yX2_layRoad, .selects RX2 yX2_layRoad yX2_layRoad, .code yX2_isThere prog_4_method_6_code 3 (some .boolean), .instanceMethod yX2_isThere, .selects RX2 yX2_isThere yX2_isThere, .code yX2_canBe prog_4_method_7_code 4 (some .boolean), .instanceMethod yX2_canBe, .selects RX2 yX2_canBe yX2_canBe, .code yX2_numberOf prog_4_method_8_code 3 (some .int), .instanceMethod yX2_numberOf, .selects RX2 yX2_numberOf yX2_numberOf, .code yX2_setNumber prog_4_method_9_code 4 none, .instanceMethod yX2_setNumber]
noncomputable def zW_4 : List Cond := [.selects RX2 yX2_setNumber yX2_setNumber, .code yX2_willBehind prog_4_method_10_code 2 (some .int), .instanceMethod yX2_willBehind, .selects RX2 yX2_willBehind yX2_willBehind, .code yX2_wearOf prog_4_method_11_code 3 (some .int), .instanceMethod yX2_wearOf, .selects RX2 yX2_wearOf yX2_wearOf, .code yX2_travel prog_4_method_12_code 5 (some .int), .instanceMethod yX2_travel, .selects RX2 yX2_travel yX2_travel, .code yX2_letAllAsk prog_4_method_13_code 5 none, .instanceMethod yX2_letAllAsk, .selects RX2 yX2_letAllAsk yX2_letAllAsk, .code yX2_firstOfOthers prog_4_method_14_code 4 (some .int), .instanceMethod yX2_firstOfOthers, .selects RX2 yX2_firstOfOthers yX2_firstOfOthers]
noncomputable def zW_5 : List Cond := [.code yX2_nearestOfOthers prog_4_method_15_code 5 (some .int), .instanceMethod yX2_nearestOfOthers, .selects RX2 yX2_nearestOfOthers yX2_nearestOfOthers, .code yX2_isRatherHead prog_4_method_16_code 3 (some .boolean), .instanceMethod yX2_isRatherHead, .selects RX2 yX2_isRatherHead yX2_isRatherHead, .code yX2_isRatherIdea prog_4_method_17_code 6 (some .boolean), .instanceMethod yX2_isRatherIdea, .selects RX2 yX2_isRatherIdea yX2_isRatherIdea, .code yX2_isSettled prog_4_method_18_code 4 (some .boolean), .instanceMethod yX2_isSettled, .selects RX2 yX2_isSettled yX2_isSettled, .code yX2_fewestYokes prog_4_method_19_code 4 (some .int), .instanceMethod yX2_fewestYokes, .selects RX2 yX2_fewestYokes yX2_fewestYokes, .code yX2_greatestClash prog_4_method_20_code 3 (some .int)]
noncomputable def zW_6 : List Cond := [.instanceMethod yX2_greatestClash, .selects RX2 yX2_greatestClash yX2_greatestClash, .code yX2_allClash prog_4_method_21_code 5 (some .boolean), .instanceMethod yX2_allClash, .selects RX2 yX2_allClash yX2_allClash, .code yX3_init prog_5_method_1_code 1 none, .initialized RX3, .instanceMethod yX3_init, .code yX3_become prog_5_method_2_code 2 none, .instanceMethod yX3_become, .selects RX3 yX3_become yX3_become, .code yX3_becomeByDeeds prog_5_method_3_code 2 none, .instanceMethod yX3_becomeByDeeds, .selects RX3 yX3_becomeByDeeds yX3_becomeByDeeds, .code yX3_grip prog_5_method_4_code 1 (some .int), .instanceMethod yX3_grip]
noncomputable def zW_7 : List Cond := [.selects RX3 yX3_grip yX3_grip, .code yX3_isLame prog_5_method_5_code 1 (some .boolean), .instanceMethod yX3_isLame, .selects RX3 yX3_isLame yX3_isLame, .code yX3_canClimb prog_5_method_6_code 2 (some .boolean), .instanceMethod yX3_canClimb, .selects RX3 yX3_canClimb yX3_canClimb, .code yX3_setsOutOn prog_5_method_7_code 2 (some .boolean), .instanceMethod yX3_setsOutOn, .selects RX3 yX3_setsOutOn yX3_setsOutOn, .code yX3_wearBy prog_5_method_8_code 2 none, .instanceMethod yX3_wearBy, .selects RX3 yX3_wearBy yX3_wearBy, .code yX3_cool prog_5_method_9_code 2 none, .instanceMethod yX3_cool, .selects RX3 yX3_cool yX3_cool]
noncomputable def zW_8 : List Cond := [.code yX3_strike prog_5_method_10_code 2 (some .boolean), .instanceMethod yX3_strike, .selects RX3 yX3_strike yX3_strike, .code yX3_heatUp prog_5_method_11_code 2 (some .boolean), .instanceMethod yX3_heatUp, .selects RX3 yX3_heatUp yX3_heatUp, .code yX3_drawTo prog_5_method_12_code 2 (some .boolean), .instanceMethod yX3_drawTo, .selects RX3 yX3_drawTo yX3_drawTo, .code yX3_nail prog_5_method_13_code 1 (some .boolean), .instanceMethod yX3_nail, .selects RX3 yX3_nail yX3_nail, .code yX4_init prog_6_method_1_code 1 none, .initialized RX4, .instanceMethod yX4_init, .code yX4_read prog_6_method_2_code 6 none]
noncomputable def zW_9 : List Cond := [.instanceMethod yX4_read, .selects RX4 yX4_read yX4_read, .code yX4_allGone prog_6_method_3_code 4 (some .boolean), .instanceMethod yX4_allGone, .selects RX4 yX4_allGone yX4_allGone, .code yX4_goesStage prog_6_method_4_code 6 (some .boolean), .instanceMethod yX4_goesStage, .selects RX4 yX4_goesStage yX4_goesStage, .code yX4_firstWrong prog_6_method_5_code 6 (some .int), .instanceMethod yX4_firstWrong, .selects RX4 yX4_firstWrong yX4_firstWrong, .code yX5_init prog_7_method_1_code 1 none, .initialized RX5, .instanceMethod yX5_init, .code yX5_clear prog_7_method_2_code 1 none, .instanceMethod yX5_clear]
noncomputable def zW_10 : List Cond := [.selects RX5 yX5_clear yX5_clear, .code yX5_add prog_7_method_3_code 2 none, .instanceMethod yX5_add, .selects RX5 yX5_add yX5_add, .code yX5_addName prog_7_method_4_code 2 none, .instanceMethod yX5_addName, .selects RX5 yX5_addName yX5_addName, .code yX5_addSkip prog_7_method_5_code 1 (some .int), .instanceMethod yX5_addSkip, .selects RX5 yX5_addSkip yX5_addSkip, .code yX5_endSkip prog_7_method_6_code 2 none, .instanceMethod yX5_endSkip, .selects RX5 yX5_endSkip yX5_endSkip, .code yX5_worth prog_7_method_7_code 8 (some .int), .instanceMethod yX5_worth, .selects RX5 yX5_worth yX5_worth]
noncomputable def zW_11 : List Cond := [.code yX5_isName prog_7_method_8_code 1 (some .boolean), .static yX5_isName, .code yX5_joined prog_7_method_9_code 3 (some .int), .static yX5_joined, .code yX6_init prog_8_method_1_code 1 none, .initialized RX6, .instanceMethod yX6_init, .code yX6_take prog_8_method_2_code 2 (some .boolean), .instanceMethod yX6_take, .selects RX6 yX6_take yX6_take, .code yX6_readInto prog_8_method_3_code 3 (some .int), .instanceMethod yX6_readInto, .selects RX6 yX6_readInto yX6_readInto, .code yX6_readLine prog_8_method_4_code 3 (some .boolean), .instanceMethod yX6_readLine, .selects RX6 yX6_readLine yX6_readLine]
noncomputable def zW_12 : List Cond := [.code yX6_readLevel prog_8_method_5_code 7 (some .boolean), .instanceMethod yX6_readLevel, .selects RX6 yX6_readLevel yX6_readLevel, .code yX6_readOperand prog_8_method_6_code 5 (some .boolean), .instanceMethod yX6_readOperand, .selects RX6 yX6_readOperand yX6_readOperand, .code yX6_readNumber prog_8_method_7_code 4 (some .boolean), .instanceMethod yX6_readNumber, .selects RX6 yX6_readNumber yX6_readNumber, .code yX6_letter prog_8_method_8_code 1 (some .int), .instanceMethod yX6_letter, .selects RX6 yX6_letter yX6_letter, .code yX6_passes prog_8_method_9_code 2 (some .boolean), .instanceMethod yX6_passes, .selects RX6 yX6_passes yX6_passes, .code yX6_isDigit prog_8_method_10_code 1 (some .boolean)]
noncomputable def zW_13 : List Cond := [.static yX6_isDigit, .code yX6_nameOf prog_8_method_11_code 1 (some .int), .static yX6_nameOf, .code yX6_levelOf prog_8_method_12_code 1 (some .int), .static yX6_levelOf, .code yX7_init prog_9_method_1_code 1 none, .initialized RX7, .instanceMethod yX7_init, .code yX7_farEnd prog_9_method_2_code 2 (some .int), .instanceMethod yX7_farEnd, .selects RX7 yX7_farEnd yX7_farEnd, .code yX8_init prog_10_method_1_code 1 none, .initialized RX8, .instanceMethod yX8_init, .code yX8_holdSmith prog_10_method_2_code 2 none, .instanceMethod yX8_holdSmith]
noncomputable def zW_14 : List Cond := [.selects RX8 yX8_holdSmith yX8_holdSmith, .code yX8_holdRow prog_10_method_3_code 3 none, .instanceMethod yX8_holdRow, .selects RX8 yX8_holdRow yX8_holdRow, .code yX8_isBytes prog_10_method_4_code 1 (some .boolean), .instanceMethod yX8_isBytes, .selects RX8 yX8_isBytes yX8_isBytes, .code yX8_hasRange prog_10_method_5_code 3 (some .boolean), .instanceMethod yX8_hasRange, .selects RX8 yX8_hasRange yX8_hasRange, .code yX8_cut prog_10_method_6_code 3 (some .long), .instanceMethod yX8_cut, .selects RX8 yX8_cut yX8_cut, .code yX9_init prog_11_method_1_code 1 none, .initialized RX9, .instanceMethod yX9_init]
noncomputable def zW_15 : List Cond := [.code yX9_fewestFor prog_11_method_2_code 5 (some .int), .instanceMethod yX9_fewestFor, .selects RX9 yX9_fewestFor yX9_fewestFor, .code yX9_addNext prog_11_method_3_code 5 none, .instanceMethod yX9_addNext, .selects RX9 yX9_addNext yX9_addNext, .code yX9_isFound prog_11_method_4_code 3 (some .boolean), .instanceMethod yX9_isFound, .selects RX9 yX9_isFound yX9_isFound, .code yX9_tellPlan prog_11_method_5_code 5 (some .int), .instanceMethod yX9_tellPlan, .selects RX9 yX9_tellPlan yX9_tellPlan, .code yX9_stateOf prog_11_method_6_code 1 (some .int), .static yX9_stateOf, .code yX9_recall prog_11_method_7_code 3 none, .instanceMethod yX9_recall]
noncomputable def zW_16 : List Cond := [.selects RX9 yX9_recall yX9_recall, .code yX10_init prog_12_method_1_code 2 none, .initialized RX10, .instanceMethod yX10_init, .code yX10_seek prog_12_method_2_code 5 none, .instanceMethod yX10_seek, .selects RX10 yX10_seek yX10_seek, .code yX10_follow prog_12_method_3_code 9 none, .instanceMethod yX10_follow, .selects RX10 yX10_follow yX10_follow, .code yX10_weigh prog_12_method_4_code 4 none, .instanceMethod yX10_weigh, .selects RX10 yX10_weigh yX10_weigh, .code yX11_init prog_1_method_1_code 2 none, .initialized RX11, .instanceMethod yX11_init]
noncomputable def zW_17 : List Cond := [.code yX11_head prog_1_method_2_code 2 (some .int), .instanceMethod yX11_head, .selects RX11 yX11_head yX11_head, .code yX11_idea prog_1_method_3_code 4 (some .int), .instanceMethod yX11_idea, .selects RX11 yX11_idea yX11_idea, .code yX11_road prog_1_method_4_code 3 (some .int), .instanceMethod yX11_road, .selects RX11 yX11_road yX11_road, .code yX11_roads prog_1_method_5_code 7 (some .int), .instanceMethod yX11_roads, .selects RX11 yX11_roads yX11_roads, .code yX11_layRoadFrom prog_1_method_6_code 9 (some .boolean), .instanceMethod yX11_layRoadFrom, .selects RX11 yX11_layRoadFrom yX11_layRoadFrom, .code yX11_mend prog_1_method_7_code 5 (some .int)]
noncomputable def zW_18 : List Cond := [.instanceMethod yX11_mend, .selects RX11 yX11_mend yX11_mend, .code yX11_of prog_1_method_8_code 3 (some .int), .instanceMethod yX11_of, .selects RX11 yX11_of yX11_of, .code yX11_feed prog_1_method_9_code 2 (some .int), .instanceMethod yX11_feed, .selects RX11 yX11_feed yX11_feed, .code yX11_law prog_1_method_10_code 3 (some .int), .instanceMethod yX11_law, .selects RX11 yX11_law yX11_law, .code yX11_wears prog_1_method_11_code 3 (some .int), .instanceMethod yX11_wears, .selects RX11 yX11_wears yX11_wears, .code yX11_journey prog_1_method_12_code 7 (some .int), .instanceMethod yX11_journey]
noncomputable def zW_19 : List Cond := [.selects RX11 yX11_journey yX11_journey, .code yX11_strokes prog_1_method_13_code 6 (some .int), .instanceMethod yX11_strokes, .selects RX11 yX11_strokes yX11_strokes, .code yX11_way prog_1_method_14_code 4 (some .int), .instanceMethod yX11_way, .selects RX11 yX11_way yX11_way, .code yX11_reach prog_1_method_15_code 9 (some .int), .instanceMethod yX11_reach, .selects RX11 yX11_reach yX11_reach, .code yX11_asks prog_1_method_16_code 2 (some .int), .instanceMethod yX11_asks, .selects RX11 yX11_asks yX11_asks, .code yX11_settled prog_1_method_17_code 1 (some .int), .instanceMethod yX11_settled, .selects RX11 yX11_settled yX11_settled]
noncomputable def zW_20 : List Cond := [.code yX11_yokes prog_1_method_18_code 3 (some .int), .instanceMethod yX11_yokes, .selects RX11 yX11_yokes yX11_yokes, .code yX11_judge prog_1_method_19_code 4 (some .int), .instanceMethod yX11_judge, .selects RX11 yX11_judge yX11_judge, .code yX11_edge prog_1_method_20_code 9 (some .int), .instanceMethod yX11_edge, .selects RX11 yX11_edge yX11_edge, .code yX11_byTurns prog_1_method_21_code 5 (some .int), .instanceMethod yX11_byTurns, .selects RX11 yX11_byTurns yX11_byTurns, .code yX11_wornAtBest prog_1_method_22_code 3 (some .int), .instanceMethod yX11_wornAtBest, .selects RX11 yX11_wornAtBest yX11_wornAtBest, .code yX11_leastBySmith prog_1_method_23_code 7 (some .int)]
noncomputable def zW_21 : List Cond := [.instanceMethod yX11_leastBySmith, .selects RX11 yX11_leastBySmith yX11_leastBySmith, .code yX11_mostByKicker prog_1_method_24_code 6 (some .int), .instanceMethod yX11_mostByKicker, .selects RX11 yX11_mostByKicker yX11_mostByKicker, .code yX11_drawn prog_1_method_25_code 14 (some .int), .instanceMethod yX11_drawn, .selects RX11 yX11_drawn yX11_drawn, .code yX11_stroke prog_1_method_26_code 4 (some .int), .instanceMethod yX11_stroke, .selects RX11 yX11_stroke yX11_stroke, .code yX11_goes prog_1_method_27_code 6 (some .int), .instanceMethod yX11_goes, .selects RX11 yX11_goes yX11_goes, .code yX11_deal prog_1_method_28_code 3 (some .int), .instanceMethod yX11_deal]
noncomputable def zW_22 : List Cond := [.selects RX11 yX11_deal yX11_deal, .code yX11_led prog_1_method_29_code 2 (some .int), .instanceMethod yX11_led, .selects RX11 yX11_led yX11_led, .code yX11_image prog_1_method_30_code 2 (some .int), .instanceMethod yX11_image, .selects RX11 yX11_image yX11_image, .code yX11_back prog_1_method_31_code 2 (some .int), .instanceMethod yX11_back, .selects RX11 yX11_back yX11_back, .code yX11_undo prog_1_method_32_code 1 (some .int), .instanceMethod yX11_undo, .selects RX11 yX11_undo yX11_undo, .code yX11_redo prog_1_method_33_code 1 (some .int), .instanceMethod yX11_redo, .selects RX11 yX11_redo yX11_redo]
noncomputable def zW_23 : List Cond := [.code yX11_body prog_1_method_34_code 2 (some .int), .instanceMethod yX11_body, .selects RX11 yX11_body yX11_body, .code yX11_act prog_1_method_35_code 4 (some .int), .instanceMethod yX11_act, .selects RX11 yX11_act yX11_act, .code yX11_trace prog_1_method_36_code 2 (some .int), .instanceMethod yX11_trace, .selects RX11 yX11_trace yX11_trace, .code yX11_keep prog_1_method_37_code 3 (some .int), .instanceMethod yX11_keep, .selects RX11 yX11_keep yX11_keep, .code yX11_row prog_1_method_38_code 4 (some .int), .instanceMethod yX11_row, .selects RX11 yX11_row yX11_row, .code yX11_put prog_1_method_39_code 6 (some .int)]
noncomputable def zW_24 : List Cond := [.instanceMethod yX11_put, .selects RX11 yX11_put yX11_put, .code yX11_element prog_1_method_40_code 3 (some .long), .instanceMethod yX11_element, .selects RX11 yX11_element yX11_element, .code yX11_shift prog_1_method_41_code 8 (some .int), .instanceMethod yX11_shift, .selects RX11 yX11_shift yX11_shift, .code yX11_taken prog_1_method_42_code 5 (some .int), .instanceMethod yX11_taken, .selects RX11 yX11_taken yX11_taken, .code yX11_count prog_1_method_43_code 2 (some .int), .instanceMethod yX11_count, .selects RX11 yX11_count yX11_count, .code yX11_isShelf prog_1_method_44_code 1 (some .boolean), .static yX11_isShelf]
noncomputable def zW_25 : List Cond := [.code yX11_areShelves prog_1_method_45_code 1 (some .boolean), .static yX11_areShelves, .code yX11_isPlace prog_1_method_46_code 2 (some .boolean), .static yX11_isPlace, .code yX11_areUnlikePlaces prog_1_method_47_code 1 (some .boolean), .static yX11_areUnlikePlaces, .code yX11_thoughtOf prog_1_method_48_code 2 (some (.object "ColdShod$Idea")), .instanceMethod yX11_thoughtOf, .selects RX11 yX11_thoughtOf yX11_thoughtOf, .code yX11_refusalOfBytes prog_1_method_49_code 1 (some .int), .static yX11_refusalOfBytes, .code yX11_refusalOfEdge prog_1_method_50_code 3 (some .int), .instanceMethod yX11_refusalOfEdge, .selects RX11 yX11_refusalOfEdge yX11_refusalOfEdge, .code yX11_refusalOfElement prog_1_method_51_code 3 (some .int), .instanceMethod yX11_refusalOfElement]
noncomputable def zW_26 : List Cond := [.selects RX11 yX11_refusalOfElement yX11_refusalOfElement, .code yX12_within prog_14_method_1_code 6 (some .boolean), .initialized RX12, .static yX12_within, .code yX12_isIn prog_14_method_2_code 2 (some .boolean), .static yX12_isIn, .code yX12_bitsOf prog_14_method_3_code 3 (some .int), .static yX12_bitsOf, .code yX12_sizeOf prog_14_method_4_code 1 (some .int), .static yX12_sizeOf, .code yX12_init prog_14_method_5_code 2 none, .instanceMethod yX12_init, .code yX12_becomes prog_14_method_6_code 5 (some .int), .instanceMethod yX12_becomes, .selects RX12 yX12_becomes yX12_becomes, .code yX12_undo prog_14_method_7_code 1 (some .int)]
noncomputable def zW_27 : List Cond := [.instanceMethod yX12_undo, .selects RX12 yX12_undo yX12_undo, .code yX12_redo prog_14_method_8_code 1 (some .int), .instanceMethod yX12_redo, .selects RX12 yX12_redo yX12_redo, .code yX12_isHead prog_14_method_9_code 3 (some .boolean), .instanceMethod yX12_isHead, .selects RX12 yX12_isHead yX12_isHead, .code yX12_isIdea prog_14_method_10_code 3 (some .boolean), .instanceMethod yX12_isIdea, .selects RX12 yX12_isIdea yX12_isIdea, .code yX12_isRoad prog_14_method_11_code 3 (some .boolean), .instanceMethod yX12_isRoad, .selects RX12 yX12_isRoad yX12_isRoad, .code yX12_isPlace prog_14_method_12_code 2 (some .boolean), .static yX12_isPlace]
noncomputable def zW_28 : List Cond := [.code yX12_head prog_14_method_13_code 2 (some .int), .instanceMethod yX12_head, .selects RX12 yX12_head yX12_head, .code yX12_idea prog_14_method_14_code 3 (some .int), .instanceMethod yX12_idea, .selects RX12 yX12_idea yX12_idea, .code yX12_mayCome prog_14_method_15_code 6 (some .boolean), .static yX12_mayCome, .code yX12_adds prog_14_method_16_code 4 none, .instanceMethod yX12_adds, .selects RX12 yX12_adds yX12_adds, .code yX12_road prog_14_method_17_code 3 (some .int), .instanceMethod yX12_road, .selects RX12 yX12_road yX12_road, .code yX12_roads prog_14_method_18_code 7 (some .int), .instanceMethod yX12_roads]
noncomputable def zW_29 : List Cond := [.selects RX12 yX12_roads yX12_roads, .code yX12_placeOf prog_14_method_19_code 3 (some .int), .instanceMethod yX12_placeOf, .selects RX12 yX12_placeOf yX12_placeOf, .code yX12_mayBecome prog_14_method_20_code 3 (some .boolean), .instanceMethod yX12_mayBecome, .selects RX12 yX12_mayBecome yX12_mayBecome, .code yX12_mend prog_14_method_21_code 5 (some .int), .instanceMethod yX12_mend, .selects RX12 yX12_mend yX12_mend, .code yX12_of prog_14_method_22_code 4 (some .int), .instanceMethod yX12_of, .selects RX12 yX12_of yX12_of, .code yX12_feed prog_14_method_23_code 2 (some .int), .instanceMethod yX12_feed, .selects RX12 yX12_feed yX12_feed]
noncomputable def zW_30 : List Cond := [.code yX12_byteAt prog_14_method_24_code 1 (some .int), .instanceMethod yX12_byteAt, .selects RX12 yX12_byteAt yX12_byteAt, .code yX12_wrong prog_14_method_25_code 1 (some .int), .instanceMethod yX12_wrong, .selects RX12 yX12_wrong yX12_wrong, .code yX12_takes prog_14_method_26_code 2 (some .boolean), .instanceMethod yX12_takes, .selects RX12 yX12_takes yX12_takes, .code yX12_either prog_14_method_27_code 3 (some .int), .instanceMethod yX12_either, .selects RX12 yX12_either yX12_either, .code yX12_both prog_14_method_28_code 3 (some .int), .instanceMethod yX12_both, .selects RX12 yX12_both yX12_both, .code yX12_compared prog_14_method_29_code 4 (some .int)]
noncomputable def zW_31 : List Cond := [.instanceMethod yX12_compared, .selects RX12 yX12_compared yX12_compared, .code yX12_sums prog_14_method_30_code 4 (some .int), .instanceMethod yX12_sums, .selects RX12 yX12_sums yX12_sums, .code yX12_product prog_14_method_31_code 4 (some .int), .instanceMethod yX12_product, .selects RX12 yX12_product yX12_product, .code yX12_nameOf prog_14_method_32_code 1 (some .int), .static yX12_nameOf, .code yX12_one prog_14_method_33_code 5 (some .int), .instanceMethod yX12_one, .selects RX12 yX12_one yX12_one, .code yX12_workOut prog_14_method_34_code 8 (some .int), .instanceMethod yX12_workOut, .selects RX12 yX12_workOut yX12_workOut]
noncomputable def zW_32 : List Cond := [.code yX12_law prog_14_method_35_code 4 (some .int), .instanceMethod yX12_law, .selects RX12 yX12_law yX12_law, .code yX12_begins prog_14_method_36_code 3 none, .instanceMethod yX12_begins, .selects RX12 yX12_begins yX12_begins, .code yX12_gripOf prog_14_method_37_code 1 (some .int), .static yX12_gripOf, .code yX12_wearsNow prog_14_method_38_code 4 (some .int), .instanceMethod yX12_wearsNow, .selects RX12 yX12_wearsNow yX12_wearsNow, .code yX12_wears prog_14_method_39_code 3 (some .int), .instanceMethod yX12_wears, .selects RX12 yX12_wears yX12_wears, .code yX12_mayGo prog_14_method_40_code 2 (some .boolean), .instanceMethod yX12_mayGo]
noncomputable def zW_33 : List Cond := [.selects RX12 yX12_mayGo yX12_mayGo, .code yX12_goesRoad prog_14_method_41_code 3 none, .instanceMethod yX12_goesRoad, .selects RX12 yX12_goesRoad yX12_goesRoad, .code yX12_strikes prog_14_method_42_code 2 (some .boolean), .instanceMethod yX12_strikes, .selects RX12 yX12_strikes yX12_strikes, .code yX12_drawsBy prog_14_method_43_code 2 (some .boolean), .instanceMethod yX12_drawsBy, .selects RX12 yX12_drawsBy yX12_drawsBy, .code yX12_bytesIs prog_14_method_44_code 2 (some .int), .instanceMethod yX12_bytesIs, .selects RX12 yX12_bytesIs yX12_bytesIs, .code yX12_roadMany prog_14_method_45_code 3 (some .int), .instanceMethod yX12_roadMany, .selects RX12 yX12_roadMany yX12_roadMany]
noncomputable def zW_34 : List Cond := [.code yX12_goesJourney prog_14_method_46_code 3 none, .instanceMethod yX12_goesJourney, .selects RX12 yX12_goesJourney yX12_goesJourney, .code yX12_journey prog_14_method_47_code 4 (some .int), .instanceMethod yX12_journey, .selects RX12 yX12_journey yX12_journey, .code yX12_goesBy prog_14_method_48_code 6 (some .boolean), .instanceMethod yX12_goesBy, .selects RX12 yX12_goesBy yX12_goesBy, .code yX12_strokes prog_14_method_49_code 5 (some .int), .instanceMethod yX12_strokes, .selects RX12 yX12_strokes yX12_strokes, .code yX12_triesWay prog_14_method_50_code 8 none, .instanceMethod yX12_triesWay, .selects RX12 yX12_triesWay yX12_triesWay, .code yX12_way prog_14_method_51_code 4 (some .int)]
noncomputable def zW_35 : List Cond := [.instanceMethod yX12_way, .selects RX12 yX12_way yX12_way, .code yX12_reach prog_14_method_52_code 6 (some .int), .instanceMethod yX12_reach, .selects RX12 yX12_reach yX12_reach, .code yX12_headRather prog_14_method_53_code 6 (some .boolean), .instanceMethod yX12_headRather, .selects RX12 yX12_headRather yX12_headRather, .code yX12_ideaRather prog_14_method_54_code 3 (some .boolean), .instanceMethod yX12_ideaRather, .selects RX12 yX12_ideaRather yX12_ideaRather, .code yX12_ideaOf prog_14_method_55_code 3 (some .int), .instanceMethod yX12_ideaOf, .selects RX12 yX12_ideaOf yX12_ideaOf, .code yX12_allAsk prog_14_method_56_code 5 none, .instanceMethod yX12_allAsk]
noncomputable def zW_36 : List Cond := [.selects RX12 yX12_allAsk yX12_allAsk, .code yX12_asks prog_14_method_57_code 2 (some .int), .instanceMethod yX12_asks, .selects RX12 yX12_asks yX12_asks, .code yX12_settled prog_14_method_58_code 6 (some .int), .instanceMethod yX12_settled, .selects RX12 yX12_settled yX12_settled, .code yX12_goTogether prog_14_method_59_code 3 (some .boolean), .instanceMethod yX12_goTogether, .selects RX12 yX12_goTogether yX12_goTogether, .code yX12_yokes prog_14_method_60_code 7 (some .int), .instanceMethod yX12_yokes, .selects RX12 yX12_yokes yX12_yokes, .code yX12_rowsAre prog_14_method_61_code 2 (some .int), .instanceMethod yX12_rowsAre, .selects RX12 yX12_rowsAre yX12_rowsAre]
noncomputable def zW_37 : List Cond := [.code yX12_firstFalse prog_14_method_62_code 5 (some .int), .instanceMethod yX12_firstFalse, .selects RX12 yX12_firstFalse yX12_firstFalse, .code yX12_judge prog_14_method_63_code 3 (some .int), .instanceMethod yX12_judge, .selects RX12 yX12_judge yX12_judge, .code yX12_edge prog_14_method_64_code 8 (some .int), .instanceMethod yX12_edge, .selects RX12 yX12_edge yX12_edge, .code yX12_playsFrom prog_14_method_65_code 7 (some .int), .instanceMethod yX12_playsFrom, .selects RX12 yX12_playsFrom yX12_playsFrom, .code yX12_byTurns prog_14_method_66_code 5 (some .int), .instanceMethod yX12_byTurns, .selects RX12 yX12_byTurns yX12_byTurns, .code yX12_drawn prog_14_method_67_code 11 (some .int)]
noncomputable def zW_38 : List Cond := [.instanceMethod yX12_drawn, .selects RX12 yX12_drawn yX12_drawn, .code yX12_keepsOwn prog_14_method_68_code 3 none, .instanceMethod yX12_keepsOwn, .selects RX12 yX12_keepsOwn yX12_keepsOwn, .code yX12_stroke prog_14_method_69_code 4 (some .int), .instanceMethod yX12_stroke, .selects RX12 yX12_stroke yX12_stroke, .code yX12_goes prog_14_method_70_code 3 (some .int), .instanceMethod yX12_goes, .selects RX12 yX12_goes yX12_goes, .code yX12_deal prog_14_method_71_code 3 (some .int), .instanceMethod yX12_deal, .selects RX12 yX12_deal yX12_deal, .code yX12_led prog_14_method_72_code 2 (some .int), .instanceMethod yX12_led]
noncomputable def zW_39 : List Cond := [.selects RX12 yX12_led yX12_led, .code yX12_image prog_14_method_73_code 2 (some .int), .instanceMethod yX12_image, .selects RX12 yX12_image yX12_image, .code yX12_back prog_14_method_74_code 2 (some .int), .instanceMethod yX12_back, .selects RX12 yX12_back yX12_back, .code yX12_isBody prog_14_method_75_code 2 (some .boolean), .instanceMethod yX12_isBody, .selects RX12 yX12_isBody yX12_isBody, .code yX12_kindOf prog_14_method_76_code 2 (some .int), .instanceMethod yX12_kindOf, .selects RX12 yX12_kindOf yX12_kindOf, .code yX12_body prog_14_method_77_code 2 (some .int), .instanceMethod yX12_body, .selects RX12 yX12_body yX12_body]
noncomputable def zW_40 : List Cond := [.code yX12_above prog_14_method_78_code 1 (some .int), .static yX12_above, .code yX12_runs prog_14_method_79_code 2 none, .instanceMethod yX12_runs, .selects RX12 yX12_runs yX12_runs, .code yX12_heatsAs prog_14_method_80_code 3 (some .int), .instanceMethod yX12_heatsAs, .selects RX12 yX12_heatsAs yX12_heatsAs, .code yX12_drawsAs prog_14_method_81_code 4 (some .int), .instanceMethod yX12_drawsAs, .selects RX12 yX12_drawsAs yX12_drawsAs, .code yX12_nailsAs prog_14_method_82_code 4 (some .int), .instanceMethod yX12_nailsAs, .selects RX12 yX12_nailsAs yX12_nailsAs, .code yX12_tellsAs prog_14_method_83_code 4 (some .int), .instanceMethod yX12_tellsAs]
noncomputable def zW_41 : List Cond := [.selects RX12 yX12_tellsAs yX12_tellsAs, .code yX12_act prog_14_method_84_code 4 (some .int), .instanceMethod yX12_act, .selects RX12 yX12_act yX12_act, .code yX12_trace prog_14_method_85_code 2 (some .int), .instanceMethod yX12_trace, .selects RX12 yX12_trace yX12_trace, .code yX12_isShelf prog_14_method_86_code 1 (some .boolean), .static yX12_isShelf, .code yX12_keep prog_14_method_87_code 3 (some .int), .instanceMethod yX12_keep, .selects RX12 yX12_keep yX12_keep, .code yX12_row prog_14_method_88_code 5 (some .int), .instanceMethod yX12_row, .selects RX12 yX12_row yX12_row, .code yX12_refusal prog_14_method_89_code 3 (some .int)]
noncomputable def zW_42 : List Cond := [.instanceMethod yX12_refusal, .selects RX12 yX12_refusal yX12_refusal, .code yX12_asSort prog_14_method_90_code 3 (some .long), .static yX12_asSort, .code yX12_put prog_14_method_91_code 6 (some .int), .instanceMethod yX12_put, .selects RX12 yX12_put yX12_put, .code yX12_element prog_14_method_92_code 3 (some .long), .instanceMethod yX12_element, .selects RX12 yX12_element yX12_element, .code yX12_shift prog_14_method_93_code 7 (some .int), .instanceMethod yX12_shift, .selects RX12 yX12_shift yX12_shift, .code yX12_taken prog_14_method_94_code 4 (some .int), .instanceMethod yX12_taken, .selects RX12 yX12_taken yX12_taken]
noncomputable def zW_43 : List Cond := [.code yX12_count prog_14_method_95_code 2 (some .int), .instanceMethod yX12_count, .selects RX12 yX12_count yX12_count, .code yJ6_bitCount_0f7a4 prog_15_method_49_code 1 (some .int), .initialized RJ6, .static yJ6_bitCount_0f7a4, .code yJ7_fill_d0a16 prog_18_method_101_code 5 none, .initialized RJ7, .static yJ7_fill_d0a16, .code yJ7_fill_53178 prog_18_method_103_code 4 none, .static yJ7_fill_53178, .instanceMethod objectInit, .code objectInit ⟨#[0xb1]⟩ 1 none, .native arraycopyName, .static arraycopyName, .initialized RJ10]
noncomputable def zW_44 : List Cond := [.arrayClass .int, .arrayClass .long, .instantiable RX0 6, .instantiable RX1 6, .instantiable RX2 11, .instantiable RX3 7, .instantiable RX4 4, .instantiable RX5 4, .instantiable RX6 3, .instantiable RX7 5, .instantiable RX8 5, .instantiable RX9 7, .instantiable RX10 5, .instantiable RX11 14, .instantiable RX12 49, .methodLink RX0 3 objectInit]
noncomputable def zW_45 : List Cond := [.fieldLink RX0 11 RX0 "kinds" "[I", .fieldLink RX0 15 RX0 "traced" "[I", .fieldLink RX0 18 RX0 "smiths" "I", .fieldLink RX0 22 RX0 "ABOVE" "[I", .fieldLink RX0 25 RX0 "ran" "I", .methodLink RX0 28 yX0_has, .fieldLink RX0 32 RX0 "number" "I", .fieldLink RX0 35 RX0 "kind" "I", .methodLink RX0 38 yX0_run, .fieldLink RX0 42 RX0 "BODIES" "[I", .methodLink RX0 45 yX0_work, .methodLink RX1 1 objectInit, .fieldLink RX1 9 RX1 "numbers" "[I", .fieldLink RX1 13 RX1 "whats" "[I", .fieldLink RX1 16 RX1 "befores" "[I", .fieldLink RX1 19 RX1 "afters" "[I"]
noncomputable def zW_46 : List Cond := [.fieldLink RX1 22 RX1 "redoable" "I", .fieldLink RX1 26 RX1 "undoable" "I", .methodLink RX1 29 yX1_forgetFirst, .methodLink RX1 32 arraycopyName, .methodLink RX1 38 yX2_setNumber, .methodLink RX2 3 objectInit, .fieldLink RX2 9 RX2 "forms" "[I", .fieldLink RX2 15 RX2 "wills" "[I", .classLink RX2 18 RX3, .fieldLink RX2 20 RX2 "ideas" "[LColdShod$Idea;", .classLink RX2 24 RX7, .fieldLink RX2 26 RX2 "roads" "[LColdShod$Road;", .fieldLink RX2 30 RX2 "had" "[I", .fieldLink RX2 35 RX2 "names" "[I", .classLink RX2 33 RX5, .fieldLink RX2 39 RX2 "law" "LColdShod$LawCode;"]
noncomputable def zW_47 : List Cond := [.fieldLink RX2 43 RX2 "spareLaw" "LColdShod$LawCode;", .fieldLink RX2 48 RX2 "headCount" "I", .fieldLink RX2 52 RX2 "ideaCount" "I", .fieldLink RX2 55 RX2 "roadCount" "I", .fieldLink RX2 58 RX7 "from" "I", .fieldLink RX2 61 RX7 "to" "I", .fieldLink RX2 64 RX7 "miles" "I", .methodLink RX2 67 yX2_hasHead, .methodLink RX2 71 yX2_hasIdea, .methodLink RX2 74 yX2_hasRoad, .methodLink RX2 83 yX2_isThere, .constant RX2 87 (-2000000000), .fieldLink RX2 88 RX3 "metal" "I", .fieldLink RX2 91 RX3 "shape" "I", .fieldLink RX2 94 RX3 "worn" "I", .fieldLink RX2 97 RX3 "heat" "I"]
noncomputable def zW_48 : List Cond := [.fieldLink RX2 100 RX3 "cast" "I", .fieldLink RX2 103 RX3 "heated" "I", .fieldLink RX2 106 RX3 "head" "I", .fieldLink RX2 109 RX7 "steep" "I", .fieldLink RX2 112 RX7 "kind" "I", .methodLink RX2 115 yX3_grip, .methodLink RX2 119 Lib.Math.abs.name, .code Lib.Math.abs.name Lib.Math.abs.code 1 (some .int), .static Lib.Math.abs.name, .initialized RJ9, .methodLink RX2 125 yX5_worth, .methodLink RX2 129 Lib.Math.min.name, .code Lib.Math.min.name Lib.Math.min.code 2 (some .int), .static Lib.Math.min.name, .methodLink RX2 133 Lib.Math.max.name, .code Lib.Math.max.name Lib.Math.max.code 2 (some .int)]
noncomputable def zW_49 : List Cond := [.static Lib.Math.max.name, .methodLink RX2 136 yX3_setsOutOn, .methodLink RX2 140 yX2_wearOf, .methodLink RX2 144 yX3_wearBy, .methodLink RX2 148 yX3_isLame, .fieldLink RX2 152 RX5 "mindsWorn" "Z", .methodLink RX2 156 yX3_cool, .methodLink RX2 159 yJ7_fill_53178, .methodLink RX2 165 yX2_firstOfOthers, .methodLink RX2 168 yX2_nearestOfOthers, .methodLink RX2 171 yX2_isRatherHead, .methodLink RX2 174 yX2_isRatherIdea, .methodLink RX2 178 yJ6_bitCount_0f7a4, .methodLink RX2 183 yX2_allClash, .methodLink RX3 3 objectInit, .fieldLink RX3 9 RX3 "head" "I"]
noncomputable def zW_50 : List Cond := [.fieldLink RX3 15 RX3 "metal" "I", .fieldLink RX3 18 RX3 "cast" "I", .methodLink RX3 21 yX3_becomeByDeeds, .fieldLink RX3 25 RX3 "shape" "I", .fieldLink RX3 28 RX3 "worn" "I", .fieldLink RX3 31 RX3 "heat" "I", .fieldLink RX3 34 RX3 "heated" "I", .fieldLink RX3 37 RX7 "steep" "I", .methodLink RX3 42 yX3_grip, .methodLink RX3 46 yX3_isLame, .methodLink RX3 50 yX3_canClimb, .methodLink RX3 54 Lib.Math.min.name, .methodLink RX3 60 Lib.Math.max.name, .methodLink RX3 63 yX3_heatUp, .methodLink RX3 66 yX3_drawTo, .methodLink RX3 70 yX3_nail]
noncomputable def zW_51 : List Cond := [.methodLink RX3 73 yX3_cool, .methodLink RX4 3 objectInit, .fieldLink RX4 9 RX4 "stages" "[I", .fieldLink RX4 15 RX4 "length" "I", .fieldLink RX4 19 RX8 "length" "I", .fieldLink RX4 22 RX8 "cells" "[J", .fieldLink RX4 26 RX4 "miles" "I", .fieldLink RX4 29 RX4 "ended" "I", .methodLink RX4 32 yX4_goesStage, .fieldLink RX4 36 RX2 "roads" "[LColdShod$Road;", .methodLink RX4 42 yX2_travel, .fieldLink RX4 46 RX7 "miles" "I", .fieldLink RX4 49 RX3 "worn" "I", .methodLink RX5 3 objectInit, .fieldLink RX5 11 RX5 "cells" "[I", .fieldLink RX5 15 RX5 "values" "[I"]
noncomputable def zW_52 : List Cond := [.fieldLink RX5 18 RX5 "length" "I", .fieldLink RX5 22 RX5 "mindsWorn" "Z", .methodLink RX5 26 yX5_add, .methodLink RX5 30 yX5_isName, .methodLink RX5 34 Lib.Math.max.name, .methodLink RX5 40 yX5_joined, .methodLink RX6 1 objectInit, .fieldLink RX6 9 RX6 "letters" "[I", .fieldLink RX6 13 RX6 "fed" "I", .methodLink RX6 17 yX5_clear, .fieldLink RX6 22 RX6 "at" "I", .methodLink RX6 25 yX6_readLine, .methodLink RX6 29 yX6_passes, .methodLink RX6 33 yX6_readLevel, .methodLink RX6 37 yX5_add, .methodLink RX6 41 yX5_addSkip]
noncomputable def zW_53 : List Cond := [.methodLink RX6 45 yX5_endSkip, .methodLink RX6 48 yX6_readOperand, .methodLink RX6 52 yX6_letter, .methodLink RX6 55 yX6_levelOf, .methodLink RX6 59 yX6_isDigit, .methodLink RX6 62 yX6_readNumber, .methodLink RX6 65 yX6_nameOf, .methodLink RX6 68 yX5_addName, .methodLink RX7 1 objectInit, .fieldLink RX7 7 RX7 "from" "I", .fieldLink RX7 13 RX7 "to" "I", .methodLink RX8 3 objectInit, .fieldLink RX8 11 RX8 "holds" "I", .fieldLink RX8 15 RX8 "cells" "[J", .fieldLink RX8 19 RX8 "smith" "I", .fieldLink RX8 22 RX8 "sort" "I"]
noncomputable def zW_54 : List Cond := [.fieldLink RX8 25 RX8 "length" "I", .methodLink RX8 28 yJ7_fill_d0a16, .methodLink RX9 3 objectInit, .fieldLink RX9 11 RX9 "plan" "[I", .fieldLink RX9 15 RX9 "states" "[I", .fieldLink RX9 18 RX9 "earlier" "[I", .fieldLink RX9 21 RX9 "last" "[I", .fieldLink RX9 24 RX9 "lengths" "[I", .classLink RX9 27 RX3, .fieldLink RX9 30 RX9 "thought" "LColdShod$Idea;", .methodLink RX9 34 yX9_stateOf, .fieldLink RX9 38 RX9 "found" "I", .methodLink RX9 42 yX9_recall, .methodLink RX9 46 yX4_allGone, .methodLink RX9 52 yX9_tellPlan, .methodLink RX9 56 yX9_addNext]
noncomputable def zW_55 : List Cond := [.methodLink RX9 59 yX3_strike, .methodLink RX9 63 yX9_isFound, .fieldLink RX9 66 RX3 "shape" "I", .fieldLink RX9 69 RX3 "worn" "I", .fieldLink RX9 72 RX3 "heat" "I", .fieldLink RX9 75 RX3 "heated" "I", .methodLink RX9 78 yX3_become, .methodLink RX10 3 objectInit, .fieldLink RX10 9 RX10 "best" "[I", .fieldLink RX10 15 RX10 "trail" "[I", .classLink RX10 18 RX3, .fieldLink RX10 20 RX10 "behind" "[LColdShod$Idea;", .fieldLink RX10 25 RX10 "bestLength" "I", .methodLink RX10 29 yX3_become, .methodLink RX10 33 yX10_follow, .methodLink RX10 37 yX10_weigh]
noncomputable def zW_56 : List Cond := [.fieldLink RX10 41 RX2 "roadCount" "I", .fieldLink RX10 46 RX2 "roads" "[LColdShod$Road;", .methodLink RX10 50 yX7_farEnd, .methodLink RX10 56 yX2_travel, .fieldLink RX10 60 RX7 "miles" "I", .fieldLink RX10 63 RX3 "worn" "I", .fieldLink RX10 66 RX10 "bestWorn" "I", .methodLink RX10 69 arraycopyName, .methodLink RX11 1 objectInit, .classLink RX11 7 RX2, .methodLink RX11 9 yX2_init, .fieldLink RX11 10 RX11 "land" "LColdShod$Country;", .classLink RX11 16 RX6, .fieldLink RX11 19 RX11 "tape" "LColdShod$LawText;", .classLink RX11 23 RX1, .fieldLink RX11 26 RX11 "changes" "LColdShod$Changes;"]
noncomputable def zW_57 : List Cond := [.classLink RX11 30 RX0, .fieldLink RX11 33 RX11 "acts" "LColdShod$Acts;", .classLink RX11 37 RX4, .fieldLink RX11 40 RX11 "travelled" "LColdShod$Journey;", .classLink RX11 44 RX9, .fieldLink RX11 47 RX11 "strokePlan" "LColdShod$StrokePlan;", .classLink RX11 51 RX10, .methodLink RX11 53 yX10_init, .fieldLink RX11 54 RX11 "wayPlan" "LColdShod$WayPlan;", .classLink RX11 58 RX8, .fieldLink RX11 60 RX11 "shelves" "[LColdShod$Shelf;", .classLink RX11 64 RX3, .fieldLink RX11 66 RX11 "thoughts" "[LColdShod$Idea;", .fieldLink RX11 70 RX11 "ledNumbers" "[I", .fieldLink RX11 74 RX11 "imageIdeas" "[LColdShod$Idea;", .fieldLink RX11 77 RX11 "imageLed" "[I"]
noncomputable def zW_58 : List Cond := [.fieldLink RX11 80 RX11 "imageCount" "I", .fieldLink RX11 84 RX11 "firstDeed" "I", .fieldLink RX11 89 RX2 "headCount" "I", .fieldLink RX11 92 RX2 "forms" "[I", .fieldLink RX11 95 RX2 "wills" "[I", .fieldLink RX11 98 RX2 "ideaCount" "I", .fieldLink RX11 101 RX2 "ideas" "[LColdShod$Idea;", .fieldLink RX11 104 RX3 "metal" "I", .fieldLink RX11 107 RX3 "shape" "I", .methodLink RX11 110 yX11_areUnlikePlaces, .methodLink RX11 114 yX2_layRoad, .methodLink RX11 118 yX11_isShelf, .fieldLink RX11 121 RX8 "holds" "I", .methodLink RX11 124 yX8_isBytes, .fieldLink RX11 128 RX8 "length" "I", .methodLink RX11 131 yX11_layRoadFrom]
noncomputable def zW_59 : List Cond := [.fieldLink RX11 135 RX8 "cells" "[J", .methodLink RX11 139 yX11_isPlace, .constantLong RX11 143 (9), .methodLink RX11 145 yX2_isThere, .methodLink RX11 149 yX2_canBe, .constant RX11 152 (-2000000000), .methodLink RX11 153 yX2_numberOf, .methodLink RX11 157 yX2_setNumber, .methodLink RX11 161 yX1_note, .methodLink RX11 165 yX6_take, .fieldLink RX11 168 RX6 "fed" "I", .fieldLink RX11 171 RX2 "spareLaw" "LColdShod$LawCode;", .methodLink RX11 175 yX6_readInto, .fieldLink RX11 179 RX2 "law" "LColdShod$LawCode;", .methodLink RX11 182 yX2_hasIdea, .methodLink RX11 185 yX2_hasRoad]
noncomputable def zW_60 : List Cond := [.fieldLink RX11 188 RX2 "roads" "[LColdShod$Road;", .methodLink RX11 192 yX2_wearOf, .methodLink RX11 196 yX11_refusalOfBytes, .fieldLink RX11 200 RX2 "roadCount" "I", .methodLink RX11 203 yX4_read, .methodLink RX11 207 yX11_thoughtOf, .methodLink RX11 211 yX4_allGone, .fieldLink RX11 215 RX4 "miles" "I", .fieldLink RX11 218 RX4 "ended" "I", .fieldLink RX11 221 RX3 "worn" "I", .fieldLink RX11 224 RX3 "heat" "I", .methodLink RX11 227 yX9_fewestFor, .fieldLink RX11 231 RX9 "plan" "[I", .methodLink RX11 234 yX10_seek, .fieldLink RX11 238 RX10 "bestLength" "I", .fieldLink RX11 241 RX10 "bestWorn" "I"]
noncomputable def zW_61 : List Cond := [.fieldLink RX11 244 RX10 "best" "[I", .fieldLink RX11 247 RX7 "from" "I", .fieldLink RX11 252 RX7 "to" "I", .methodLink RX11 255 yX3_canClimb, .methodLink RX11 259 yX2_hasHead, .methodLink RX11 262 yX2_letAllAsk, .fieldLink RX11 265 RX2 "had" "[I", .methodLink RX11 268 yX2_isSettled, .methodLink RX11 271 yX2_fewestYokes, .methodLink RX11 275 yX2_greatestClash, .methodLink RX11 278 yJ6_bitCount_0f7a4, .methodLink RX11 284 yX11_areShelves, .methodLink RX11 287 yX11_refusalOfEdge, .methodLink RX11 290 yX4_firstWrong, .methodLink RX11 294 yX11_wornAtBest, .methodLink RX11 297 yX11_leastBySmith]
noncomputable def zW_62 : List Cond := [.methodLink RX11 300 yX11_mostByKicker, .fieldLink RX11 303 RX11 "SMITH_DEEDS" "[I", .methodLink RX11 306 yX3_become, .methodLink RX11 310 yX3_strike, .methodLink RX11 313 yX3_wearBy, .methodLink RX11 317 yX3_cool, .methodLink RX11 320 Lib.Math.max.name, .methodLink RX11 325 yX2_willBehind, .constant RX11 329 (1103515245), .methodLink RX11 330 yX2_travel, .methodLink RX11 333 yX3_isLame, .methodLink RX11 336 yX3_setsOutOn, .fieldLink RX11 339 RX7 "miles" "I", .fieldLink RX11 340 RX3 "head" "I", .methodLink RX11 343 arraycopyName, .methodLink RX11 349 yX3_becomeByDeeds]
noncomputable def zW_63 : List Cond := [.fieldLink RX11 352 RX1 "undoable" "I", .methodLink RX11 355 yX1_takeBack, .fieldLink RX11 359 RX1 "redoable" "I", .methodLink RX11 362 yX1_doAgain, .methodLink RX11 365 yX0_add, .methodLink RX11 368 yX0_perform, .methodLink RX11 371 yX0_bodyThatRan, .methodLink RX11 374 yX0_has, .methodLink RX11 377 yX8_holdSmith, .methodLink RX11 380 yX8_holdRow, .methodLink RX11 384 yX11_refusalOfElement, .methodLink RX11 387 yX8_cut, .constantLong RX11 393 (-9223372036854775808), .fieldLink RX11 395 RX8 "sort" "I", .methodLink RX11 398 yX8_hasRange, .fieldLink RX11 401 RX8 "smith" "I"]
noncomputable def zW_64 : List Cond := [.fieldLink RX11 404 RX0 "kinds" "[I", .methodLink RX11 407 yX0_isUnder, .fieldLink RX11 410 RX0 "smiths" "I", .fieldLink RX11 413 RX0 "ran" "I", .constantLong RX11 416 (8), .methodLink RX12 3 objectInit, .fieldLink RX12 9 RX12 "may" "[I", .fieldLink RX12 13 RX12 "changeAt" "[I", .fieldLink RX12 16 RX12 "changeWas" "[I", .fieldLink RX12 19 RX12 "changeIs" "[I", .fieldLink RX12 22 RX12 "from" "[I", .fieldLink RX12 25 RX12 "to" "[I", .fieldLink RX12 28 RX12 "tape" "[I", .fieldLink RX12 31 RX12 "text" "[I", .fieldLink RX12 34 RX12 "names" "[I", .fieldLink RX12 37 RX12 "own" "[I"]
noncomputable def zW_65 : List Cond := [.fieldLink RX12 40 RX12 "struck" "[I", .fieldLink RX12 43 RX12 "walked" "[I", .fieldLink RX12 46 RX12 "bestWay" "[I", .fieldLink RX12 49 RX12 "hadBy" "[I", .fieldLink RX12 52 RX12 "asked" "[I", .fieldLink RX12 55 RX12 "did" "[I", .fieldLink RX12 58 RX12 "ledNow" "[I", .fieldLink RX12 61 RX12 "imageMay" "[I", .fieldLink RX12 64 RX12 "imageLed" "[I", .fieldLink RX12 67 RX12 "bodyKind" "[I", .fieldLink RX12 70 RX12 "trace" "[I", .fieldLink RX12 73 RX12 "shelf" "[I", .fieldLink RX12 76 RX12 "many" "[I", .fieldLink RX12 79 RX12 "items" "[J", .fieldLink RX12 83 RX12 "carried" "[J", .fieldLink RX12 86 RX12 "textMany" "I"]
noncomputable def zW_66 : List Cond := [.fieldLink RX12 90 RX12 "done" "I", .fieldLink RX12 93 RX12 "keptMany" "I", .fieldLink RX12 96 RX12 "heads" "I", .methodLink RX12 99 yX12_within, .fieldLink RX12 103 RX12 "ideas" "I", .fieldLink RX12 106 RX12 "roads" "I", .constantLong RX12 109 (7), .constantLong RX12 111 (5), .constantLong RX12 113 (3), .methodLink RX12 115 yX12_isPlace, .constantLong RX12 119 (9), .methodLink RX12 121 yX12_mayCome, .methodLink RX12 124 yX12_adds, .methodLink RX12 128 yX12_isShelf, .constantLong RX12 132 (12), .methodLink RX12 134 yX12_isHead]
noncomputable def zW_67 : List Cond := [.constantLong RX12 137 (2), .constantLong RX12 139 (8), .methodLink RX12 141 yX12_isIdea, .constantLong RX12 144 (11), .methodLink RX12 146 yX12_isRoad, .constantLong RX12 149 (99), .methodLink RX12 151 yX12_placeOf, .methodLink RX12 155 yX12_mayBecome, .methodLink RX12 159 yX12_becomes, .constant RX12 162 (-2000000000), .methodLink RX12 163 yX12_gripOf, .constantLong RX12 167 (255), .fieldLink RX12 169 RX12 "tapeMany" "I", .fieldLink RX12 172 RX12 "at" "I", .fieldLink RX12 175 RX12 "ends" "I", .fieldLink RX12 178 RX12 "base" "I"]
noncomputable def zW_68 : List Cond := [.fieldLink RX12 181 RX12 "fault" "I", .methodLink RX12 184 yX12_byteAt, .methodLink RX12 188 yX12_both, .methodLink RX12 191 yX12_takes, .methodLink RX12 194 yX12_compared, .methodLink RX12 197 yX12_sums, .methodLink RX12 200 yX12_product, .methodLink RX12 203 yX12_one, .fieldLink RX12 206 RX12 "opened" "I", .methodLink RX12 209 yX12_wrong, .methodLink RX12 212 yX12_either, .methodLink RX12 215 yX12_nameOf, .methodLink RX12 218 yX12_workOut, .methodLink RX12 221 yX12_sizeOf, .methodLink RX12 224 yX12_begins, .methodLink RX12 228 yX12_wearsNow]
noncomputable def zW_69 : List Cond := [.fieldLink RX12 231 RX12 "wentMiles" "I", .fieldLink RX12 234 RX12 "wentAll" "Z", .methodLink RX12 238 yX12_mayGo, .methodLink RX12 241 yX12_drawsBy, .fieldLink RX12 244 RX12 "allMiles" "I", .fieldLink RX12 247 RX12 "allRoads" "I", .methodLink RX12 250 yX12_roadMany, .methodLink RX12 253 yX12_goesRoad, .methodLink RX12 256 yX12_bytesIs, .constantLong RX12 259 (4), .methodLink RX12 261 yX12_goesJourney, .methodLink RX12 264 yX12_strikes, .methodLink RX12 267 yX12_goesBy, .fieldLink RX12 271 RX12 "bestWorn" "I", .fieldLink RX12 274 RX12 "bestMany" "I", .methodLink RX12 277 yX12_isIn]
noncomputable def zW_70 : List Cond := [.methodLink RX12 280 yX12_triesWay, .constant RX12 284 (1000000), .methodLink RX12 285 yX12_headRather, .methodLink RX12 289 yX12_ideaOf, .methodLink RX12 292 yX12_ideaRather, .methodLink RX12 295 yX12_allAsk, .methodLink RX12 298 yX12_bitsOf, .methodLink RX12 301 yX12_goTogether, .methodLink RX12 304 yX12_rowsAre, .methodLink RX12 307 yX12_firstFalse, .methodLink RX12 310 yX12_playsFrom, .constantLong RX12 314 (30), .constantLong RX12 316 (40), .constant RX12 318 (1103515245), .methodLink RX12 319 yX12_keepsOwn, .fieldLink RX12 322 RX12 "isKept" "Z"]
noncomputable def zW_71 : List Cond := [.fieldLink RX12 325 RX12 "imageIdeas" "I", .fieldLink RX12 328 RX12 "bodies" "I", .fieldLink RX12 331 RX12 "ran" "I", .methodLink RX12 334 yX12_runs, .methodLink RX12 337 yX12_heatsAs, .fieldLink RX12 340 RX12 "ownNumber" "I", .methodLink RX12 343 yX12_drawsAs, .fieldLink RX12 346 RX12 "ownKind" "I", .methodLink RX12 349 yX12_nailsAs, .methodLink RX12 352 yX12_tellsAs, .methodLink RX12 355 yX12_isBody, .methodLink RX12 358 yX12_refusal, .methodLink RX12 361 yX12_asSort, .constantLong RX12 367 (-9223372036854775808), .methodLink RX12 369 yX12_kindOf, .methodLink RX12 372 yX12_above]
noncomputable def zW_72 : List Cond := [.constant RJ6 265 (1431655765), .constant RJ6 266 (858993459), .constant RJ6 267 (252645135), .classLink RL 7 RX11, .methodLink RL 9 yX11_init, .classLink RL 10 RX12, .methodLink RL 12 yX12_init, .methodLink RL 13 yX11_head, .methodLink RL 17 yX12_head, .methodLink RL 18 yX11_idea, .methodLink RL 22 yX12_idea, .methodLink RL 23 yX11_road, .methodLink RL 26 yX12_road, .methodLink RL 27 yX11_roads, .methodLink RL 31 yX12_roads, .methodLink RL 32 yX11_mend]
noncomputable def zW_73 : List Cond := [.methodLink RL 35 yX12_mend, .methodLink RL 36 yX11_of, .methodLink RL 39 yX12_of, .methodLink RL 40 yX11_feed, .methodLink RL 43 yX12_feed, .methodLink RL 44 yX11_law, .methodLink RL 48 yX12_law, .methodLink RL 49 yX11_wears, .methodLink RL 52 yX12_wears, .methodLink RL 53 yX11_journey, .methodLink RL 56 yX12_journey, .methodLink RL 57 yX11_strokes, .methodLink RL 60 yX12_strokes, .methodLink RL 61 yX11_way, .methodLink RL 64 yX12_way, .methodLink RL 65 yX11_reach]
noncomputable def zW_74 : List Cond := [.methodLink RL 68 yX12_reach, .methodLink RL 69 yX11_asks, .methodLink RL 72 yX12_asks, .methodLink RL 73 yX11_settled, .methodLink RL 76 yX12_settled, .methodLink RL 77 yX11_yokes, .methodLink RL 80 yX12_yokes, .methodLink RL 81 yX11_judge, .methodLink RL 84 yX12_judge, .methodLink RL 85 yX11_edge, .methodLink RL 88 yX12_edge, .methodLink RL 89 yX11_byTurns, .methodLink RL 92 yX12_byTurns, .methodLink RL 93 yX11_drawn, .methodLink RL 97 yX12_drawn, .methodLink RL 98 yX11_stroke]
noncomputable def zW_75 : List Cond := [.methodLink RL 101 yX12_stroke, .methodLink RL 102 yX11_goes, .methodLink RL 105 yX12_goes, .methodLink RL 106 yX11_deal, .methodLink RL 109 yX12_deal, .methodLink RL 110 yX11_led, .methodLink RL 113 yX12_led, .methodLink RL 114 yX11_image, .methodLink RL 117 yX12_image, .methodLink RL 118 yX11_back, .methodLink RL 121 yX12_back, .methodLink RL 122 yX11_undo, .methodLink RL 125 yX12_undo, .methodLink RL 126 yX11_redo, .methodLink RL 129 yX12_redo, .methodLink RL 130 yX11_body]
noncomputable def zW_76 : List Cond := [.methodLink RL 133 yX12_body, .methodLink RL 134 yX11_act, .methodLink RL 137 yX12_act, .methodLink RL 138 yX11_trace, .methodLink RL 141 yX12_trace, .methodLink RL 142 yX11_keep, .methodLink RL 145 yX12_keep, .methodLink RL 146 yX11_row, .methodLink RL 149 yX12_row, .constantLong RL 150 (4294967295), .methodLink RL 152 yX11_put, .methodLink RL 156 yX12_put, .methodLink RL 157 yX11_element, .methodLink RL 161 yX12_element, .methodLink RL 162 yX11_shift, .methodLink RL 166 yX12_shift]
noncomputable def zW_77 : List Cond := [.methodLink RL 167 yX11_taken, .methodLink RL 170 yX12_taken, .methodLink RL 171 yX11_count, .methodLink RL 174 yX12_count]
noncomputable def zW : List (List Cond) := [zW_0, zW_1, zW_2, zW_3, zW_4, zW_5, zW_6, zW_7, zW_8, zW_9, zW_10, zW_11, zW_12, zW_13, zW_14, zW_15, zW_16, zW_17, zW_18, zW_19, zW_20, zW_21, zW_22, zW_23, zW_24, zW_25, zW_26, zW_27, zW_28, zW_29, zW_30, zW_31, zW_32, zW_33, zW_34, zW_35, zW_36, zW_37, zW_38, zW_39, zW_40, zW_41, zW_42, zW_43, zW_44, zW_45, zW_46, zW_47, zW_48, zW_49, zW_50, zW_51, zW_52, zW_53, zW_54, zW_55, zW_56, zW_57, zW_58, zW_59, zW_60, zW_61, zW_62, zW_63, zW_64, zW_65, zW_66, zW_67, zW_68, zW_69, zW_70, zW_71, zW_72, zW_73, zW_74, zW_75, zW_76, zW_77]
noncomputable def zN : List Cond := [.methodLinkNest RX2 38 yX5_init RX11, .methodLinkNest RX2 46 yX3_init RX11, .methodLinkNest RX2 47 yX7_init RX11, .fieldLinkNest RX2 77 RX11 "MOST" "[I" RX11, .fieldLinkNest RX2 80 RX11 "LEAST" "[I" RX11, .methodLinkNest RX9 29 yX3_init RX11, .methodLinkNest RX10 24 yX3_init RX11, .methodLinkNest RX11 18 yX6_init RX11, .methodLinkNest RX11 25 yX1_init RX11, .methodLinkNest RX11 32 yX0_init RX11, .methodLinkNest RX11 39 yX4_init RX11, .methodLinkNest RX11 46 yX9_init RX11, .methodLinkNest RX11 87 yX8_init RX11, .methodLinkNest RX11 88 yX3_init RX11]
/-- ColdShod$Acts.<init>()V -/
noncomputable def zE (op len a b c : Nat) : Option zI := some (op, len, a, b, c, .null, [])
noncomputable def zEn (len : Nat) (v : Int32) : Option zI := some (0, len, 0, 0, 0, .int v, [])
noncomputable def zEw (op len a b c w : Nat) : Option zI := some (op, len, a, b, c, .null, [(0, w)])
noncomputable def zi_0 : List (List (Option zI)) := [[zE 3 1 0 0 0, zEw 33 3 0 0 0 719, none, none, zE 3 1 0 0 0, zEn 2 50, none, zEw 30 2 0 0 0 704, none, zEw 21 3 0 0 1 720, none, none, zE 3 1 0 0 0, zEn 2 24, none, zEw 30 2 0 0 0 704],
  [none, zEw 21 3 0 3 1 721, none, none, zE 38 1 0 0 0]]
/-- ColdShod$Acts.has(I)Z -/
noncomputable def zi_1 : List (List (Option zI)) := [[zE 1 1 1 0 0, zE 15 3 16 2 0, none, none, zE 1 1 1 0 0, zE 3 1 0 0 0, zEw 20 3 0 1 0 722, none, none, zE 16 3 16 3 0, none, none, zEn 1 1, zE 17 3 17 0 0, none, none],
  [zEn 1 0, zE 35 1 0 0 1]]
/-- ColdShod$Acts.add(I)I -/
noncomputable def zi_2 : List (List (Option zI)) := [[zE 3 1 0 0 0, zEw 20 3 0 1 0 722, none, none, zEn 2 50, none, zE 16 3 12 2 0, none, none, some (0, 2, 0, 0, 0, .int (-3), []), none, zE 35 1 0 0 0, zE 3 1 0 0 0, zEw 20 3 0 0 1 720, none, none],
  [zE 3 1 0 0 0, zEw 20 3 0 1 0 722, none, none, zE 1 1 1 0 0, zE 25 1 0 0 0, zE 3 1 0 0 0, zE 39 1 0 0 0, zEw 20 3 0 1 0 722, none, none, zE 40 1 0 0 0, zEn 1 1, zE 7 1 0 0 0, zEw 21 3 0 1 0 722, none],
  [none, zE 35 1 0 0 0]]
/-- ColdShod$Acts.isUnder(II)Z -/
noncomputable def zi_3 : List (List (Option zI)) := [[zE 1 1 0 0 0, zE 4 1 2 0 0, zEn 1 0, zE 4 1 3 0 0, zE 1 1 3 0 0, zEn 2 8, none, zE 16 3 39 3 0, none, none, zE 1 1 2 0 0, zE 15 3 39 2 0, none, none, zE 1 1 2 0 0, zEn 2 8],
  [none, zE 16 3 39 3 0, none, none, zE 1 1 2 0 0, zE 1 1 1 0 0, zE 16 3 27 1 0, none, none, zEn 1 1, zE 35 1 0 0 1, zEw 43 3 4 0 0 723, none, none, zE 1 1 2 0 0, zE 22 1 0 0 0],
  [zE 4 1 2 0 0, some (19, 3, 3, 0, 0, .int 1, []), none, none, zE 17 3 4 0 0, none, none, zEn 1 0, zE 35 1 0 0 1]]
/-- ColdShod$Acts.bodyThatRan(I)I -/
noncomputable def zi_4 : List (List (Option zI)) := [[zE 1 1 1 0 0, zE 15 3 18 2 0, none, none, zE 1 1 1 0 0, zE 3 1 0 0 0, zEw 20 3 0 2 0 724, none, none, zE 16 3 18 3 0, none, none, zE 1 1 1 0 0, zEn 2 24, none, zE 16 3 22 2 0],
  [none, none, some (0, 1, 0, 0, 0, .int (-1), []), zE 17 3 28 0 0, none, none, zE 3 1 0 0 0, zEw 20 3 0 3 1 721, none, none, zE 1 1 1 0 0, zE 22 1 0 0 0, zE 35 1 0 0 0]]
/-- ColdShod$Acts.perform(III)I -/
noncomputable def zi_5 : List (List (Option zI)) := [[zE 3 1 0 0 0, zEn 1 0, zEw 21 3 0 2 0 724, none, none, zE 3 1 0 0 0, zE 1 1 1 0 0, zEw 32 3 1 2 0 725, none, none, zE 15 3 22 0 0, none, none, zE 1 1 2 0 0, zE 15 3 22 2 0, none],
  [none, zE 1 1 2 0 0, zEn 1 3, zE 16 3 24 5 0, none, none, zEn 1 0, zE 35 1 0 0 0, zE 3 1 0 0 0, zE 1 1 1 0 0, zEw 21 3 0 4 0 726, none, none, zE 3 1 0 0 0, zE 3 1 0 0 0, zEw 20 3 0 0 1 720],
  [none, none, zE 1 1 1 0 0, zE 22 1 0 0 0, zEw 21 3 0 5 0 727, none, none, zE 3 1 0 0 0, zE 3 1 0 0 0, zEw 20 3 0 5 0 727, none, none, zE 1 1 2 0 0, zE 1 1 3 0 0, zEn 1 0, zEw 32 3 6 5 0 728],
  [none, none, zE 35 1 0 0 0]]
/-- ColdShod$Acts.run(IIII)I -/
noncomputable def zi_6 : List (List (Option zI)) := [[zE 1 1 1 0 0, zE 4 2 5 0 0, none, zEn 1 0, zE 4 2 6 0 0, none, zE 1 2 6 0 0, none, zEn 2 8, none, zE 16 3 45 3 0, none, none, zE 1 2 5 0 0, none, zE 15 3 45 5 0],
  [none, none, zEw 43 3 5 0 0 729, none, none, zE 1 2 5 0 0, none, zEn 1 4, zE 7 1 0 2 0, zE 1 1 2 0 0, zE 7 1 0 0 0, zE 22 1 0 0 0, zE 15 3 45 1 0, none, none, zEw 43 3 4 0 0 723],
  [none, none, zE 1 2 5 0 0, none, zE 22 1 0 0 0, zE 4 2 5 0 0, none, some (19, 3, 6, 0, 0, .int 1, []), none, none, zE 17 3 6 0 0, none, none, zE 1 2 5 0 0, none, zE 15 3 57 2 0],
  [none, none, zE 1 2 4 0 0, none, zEn 2 30, none, zE 16 3 59 5 0, none, none, zEn 1 0, zE 35 1 0 0 0, zEw 43 3 5 0 0 729, none, none, zE 1 2 5 0 0, none],
  [zEn 1 4, zE 7 1 0 2 0, zE 1 1 2 0 0, zE 7 1 0 0 0, zE 22 1 0 0 0, zE 4 2 6 0 0, none, zE 3 1 0 0 0, zEw 20 3 0 2 0 724, none, none, zEn 2 24, none, zE 16 3 91 3 0, none, none],
  [zE 3 1 0 0 0, zEw 20 3 0 3 1 721, none, none, zE 3 1 0 0 0, zEw 20 3 0 2 0 724, none, none, zE 1 2 6 0 0, none, zE 25 1 0 0 0, zE 3 1 0 0 0, zE 39 1 0 0 0, zEw 20 3 0 2 0 724, none, none],
  [zEn 1 1, zE 7 1 0 0 0, zEw 21 3 0 2 0 724, none, none, zE 3 1 0 0 0, zE 1 2 6 0 0, none, zEw 43 3 4 0 0 723, none, none, zE 1 2 5 0 0, none, zE 22 1 0 0 0, zE 1 1 3 0 0, zE 1 2 4 0 0],
  [none, zEn 1 1, zE 7 1 0 0 0, zEw 32 3 7 5 0 730, none, none, zE 35 1 0 0 0]]
/-- ColdShod$Acts.work(IIII)I -/
noncomputable def zi_7 : List (List (Option zI)) := [[zE 1 1 1 0 0, some (18, 115, 300, 0, 1, .null, [(1, 116), (2, 123), (10, 149), (11, 164), (20, 171), (30, 183), (40, 194), (41, 206), (50, 218), (60, 241), (70, 253), (80, 265), (81, 288)]), none, none, none, none, none, none, none, none, none, none, none, none, none, none],
  [none, none, none, none, none, none, none, none, none, none, none, none, none, none, none, none],
  [none, none, none, none, none, none, none, none, none, none, none, none, none, none, none, none],
  [none, none, none, none, none, none, none, none, none, none, none, none, none, none, none, none],
  [none, none, none, none, none, none, none, none, none, none, none, none, none, none, none, none],
  [none, none, none, none, none, none, none, none, none, none, none, none, none, none, none, none],
  [none, none, none, none, none, none, none, none, none, none, none, none, none, none, none, none],
  [none, none, none, none, zE 1 1 3 0 0, zE 3 1 0 0 0, zEw 20 3 0 4 0 726, none, none, zE 7 1 0 0 0, zE 35 1 0 0 0, zE 3 1 0 0 0, zE 3 1 0 0 0, zEw 20 3 0 5 0 727, none, none],
  [zEn 1 1, zE 1 1 3 0 0, zE 1 2 4 0 0, none, zEw 32 3 6 5 0 728, none, none, zE 3 1 0 0 0, zE 3 1 0 0 0, zEw 20 3 0 5 0 727, none, none, zEn 1 2, zEn 1 1, zE 1 2 4 0 0, none],
  [zEw 32 3 6 5 0 728, none, none, zE 7 1 0 1 0, zE 35 1 0 0 0, zE 3 1 0 0 0, zE 3 1 0 0 0, zEw 20 3 0 5 0 727, none, none, zEn 1 0, zE 1 1 3 0 0, zE 1 2 4 0 0, none, zEw 32 3 6 5 0 728, none],
  [none, zEn 1 2, zE 7 1 0 2 0, zE 35 1 0 0 0, zE 1 1 3 0 0, zE 3 1 0 0 0, zEw 20 3 0 4 0 726, none, none, zE 7 1 0 5 0, zE 35 1 0 0 0, zE 3 1 0 0 0, zE 1 1 2 0 0, zEn 1 0, zE 1 1 3 0 0, zE 1 2 4 0 0],
  [none, zEw 32 3 6 5 0 728, none, none, zEn 1 3, zE 7 1 0 0 0, zE 35 1 0 0 0, zE 3 1 0 0 0, zE 1 1 2 0 0, zEn 1 1, zE 1 1 3 0 0, zE 1 2 4 0 0, none, zEw 32 3 6 5 0 728, none, none],
  [zE 9 1 0 0 0, zE 35 1 0 0 0, zE 3 1 0 0 0, zE 1 1 2 0 0, zEn 1 2, zE 1 1 3 0 0, zE 1 2 4 0 0, none, zEw 32 3 6 5 0 728, none, none, zEn 1 3, zE 7 1 0 2 0, zE 35 1 0 0 0, zE 3 1 0 0 0, zE 1 1 2 0 0],
  [zEn 1 1, zE 1 1 3 0 0, zEn 1 1, zE 7 1 0 0 0, zE 1 2 4 0 0, none, zEw 32 3 6 5 0 728, none, none, zE 35 1 0 0 0, zE 3 1 0 0 0, zE 1 1 2 0 0, zEn 1 2, zE 1 1 3 0 0, zE 1 2 4 0 0, none],
  [zEw 32 3 6 5 0 728, none, none, zE 3 1 0 0 0, zE 3 1 0 0 0, zEw 20 3 0 5 0 727, none, none, zEn 1 0, zEn 1 2, zE 1 2 4 0 0, none, zEw 32 3 6 5 0 728, none, none, zE 7 1 0 1 0],
  [zE 35 1 0 0 0, zE 3 1 0 0 0, zE 1 1 2 0 0, zEn 1 3, zE 1 1 3 0 0, zE 1 2 4 0 0, none, zEw 32 3 6 5 0 728, none, none, zEn 1 5, zE 7 1 0 5 0, zE 35 1 0 0 0, zE 3 1 0 0 0, zE 1 1 2 0 0, zEn 1 0],
  [zE 1 1 3 0 0, zE 1 2 4 0 0, none, zEw 32 3 6 5 0 728, none, none, zEn 1 2, zE 7 1 0 2 0, zE 35 1 0 0 0, zE 3 1 0 0 0, zE 1 1 2 0 0, zEn 1 1, zE 1 1 3 0 0, zE 1 2 4 0 0, none, zEw 32 3 6 5 0 728],
  [none, none, zE 3 1 0 0 0, zE 3 1 0 0 0, zEw 20 3 0 5 0 727, none, none, zEn 1 2, zEn 1 2, zE 1 2 4 0 0, none, zEw 32 3 6 5 0 728, none, none, zE 7 1 0 0 0, zE 35 1 0 0 0],
  [zE 3 1 0 0 0, zE 1 1 2 0 0, zEn 1 3, zE 1 1 3 0 0, zE 1 2 4 0 0, none, zEw 32 3 6 5 0 728, none, none, zEn 1 1, zE 7 1 0 1 0, zE 35 1 0 0 0, zEn 1 0, zE 35 1 0 0 0]]
/-- ColdShod$Changes.<init>()V -/
noncomputable def zi_8 : List (List (Option zI)) := [[zE 3 1 0 0 0, zEw 33 3 0 0 0 731, none, none, zE 3 1 0 0 0, zEn 2 40, none, zEw 30 2 0 0 0 704, none, zEw 21 3 1 2 1 732, none, none, zE 3 1 0 0 0, zEn 2 40, none, zEw 30 2 0 0 0 704],
  [none, zEw 21 3 1 3 1 733, none, none, zE 3 1 0 0 0, zEn 2 40, none, zEw 30 2 0 0 0 704, none, zEw 21 3 1 4 1 734, none, none, zE 3 1 0 0 0, zEn 2 40, none, zEw 30 2 0 0 0 704],
  [none, zEw 21 3 1 5 1 735, none, none, zE 38 1 0 0 0]]
/-- ColdShod$Changes.note(IIII)V -/
noncomputable def zi_9 : List (List (Option zI)) := [[zE 3 1 0 0 0, zEn 1 0, zEw 21 3 1 1 0 736, none, none, zE 3 1 0 0 0, zEw 20 3 1 0 0 737, none, none, zEn 2 40, none, zE 16 3 18 2 0, none, none, zE 3 1 0 0 0, zEw 32 3 10 1 4 738],
  [none, none, zE 3 1 0 0 0, zEw 20 3 1 2 1 732, none, none, zE 3 1 0 0 0, zEw 20 3 1 0 0 737, none, none, zE 1 1 1 0 0, zE 25 1 0 0 0, zE 3 1 0 0 0, zEw 20 3 1 3 1 733, none, none],
  [zE 3 1 0 0 0, zEw 20 3 1 0 0 737, none, none, zE 1 1 2 0 0, zE 25 1 0 0 0, zE 3 1 0 0 0, zEw 20 3 1 4 1 734, none, none, zE 3 1 0 0 0, zEw 20 3 1 0 0 737, none, none, zE 1 1 3 0 0, zE 25 1 0 0 0],
  [zE 3 1 0 0 0, zEw 20 3 1 5 1 735, none, none, zE 3 1 0 0 0, zEw 20 3 1 0 0 737, none, none, zE 1 2 4 0 0, none, zE 25 1 0 0 0, zE 3 1 0 0 0, zE 39 1 0 0 0, zEw 20 3 1 0 0 737, none, none],
  [zEn 1 1, zE 7 1 0 0 0, zEw 21 3 1 0 0 737, none, none, zE 38 1 0 0 0]]
/-- ColdShod$Changes.forgetFirst()V -/
noncomputable def zi_10 : List (List (Option zI)) := [[zE 3 1 0 0 0, zEn 2 39, none, zEw 21 3 1 0 0 737, none, none, zE 3 1 0 0 0, zEw 20 3 1 2 1 732, none, none, zEn 1 1, zE 3 1 0 0 0, zEw 20 3 1 2 1 732, none, none, zEn 1 0],
  [zE 3 1 0 0 0, zEw 20 3 1 0 0 737, none, none, zEw 34 3 0 0 0 739, none, none, zE 3 1 0 0 0, zEw 20 3 1 3 1 733, none, none, zEn 1 1, zE 3 1 0 0 0, zEw 20 3 1 3 1 733, none, none],
  [zEn 1 0, zE 3 1 0 0 0, zEw 20 3 1 0 0 737, none, none, zEw 34 3 0 0 0 739, none, none, zE 3 1 0 0 0, zEw 20 3 1 4 1 734, none, none, zEn 1 1, zE 3 1 0 0 0, zEw 20 3 1 4 1 734, none],
  [none, zEn 1 0, zE 3 1 0 0 0, zEw 20 3 1 0 0 737, none, none, zEw 34 3 0 0 0 739, none, none, zE 3 1 0 0 0, zEw 20 3 1 5 1 735, none, none, zEn 1 1, zE 3 1 0 0 0, zEw 20 3 1 5 1 735],
  [none, none, zEn 1 0, zE 3 1 0 0 0, zEw 20 3 1 0 0 737, none, none, zEw 34 3 0 0 0 739, none, none, zE 38 1 0 0 0]]
/-- ColdShod$Changes.takeBack(LColdShod$Country;)V -/
noncomputable def zi_11 : List (List (Option zI)) := [[zE 3 1 0 0 0, zEw 20 3 1 0 0 737, none, none, zE 15 3 8 4 0, none, none, zE 38 1 0 0 0, zE 3 1 0 0 0, zE 39 1 0 0 0, zEw 20 3 1 0 0 737, none, none, zEn 1 1, zE 7 1 0 1 0, zEw 21 3 1 0 0 737],
  [none, none, zE 3 1 0 0 0, zE 39 1 0 0 0, zEw 20 3 1 1 0 736, none, none, zEn 1 1, zE 7 1 0 0 0, zEw 21 3 1 1 0 736, none, none, zE 3 1 1 0 0, zE 3 1 0 0 0, zEw 20 3 1 2 1 732, none],
  [none, zE 3 1 0 0 0, zEw 20 3 1 0 0 737, none, none, zE 22 1 0 0 0, zE 3 1 0 0 0, zEw 20 3 1 3 1 733, none, none, zE 3 1 0 0 0, zEw 20 3 1 0 0 737, none, none, zE 22 1 0 0 0, zE 3 1 0 0 0],
  [zEw 20 3 1 4 1 734, none, none, zE 3 1 0 0 0, zEw 20 3 1 0 0 737, none, none, zE 22 1 0 0 0, zEw 32 3 21 4 8 740, none, none, zE 38 1 0 0 0]]
/-- ColdShod$Changes.doAgain(LColdShod$Country;)V -/
noncomputable def zi_12 : List (List (Option zI)) := [[zE 3 1 0 0 0, zEw 20 3 1 1 0 736, none, none, zE 15 3 16 5 0, none, none, zE 3 1 0 0 0, zEw 20 3 1 0 0 737, none, none, zEn 2 40, none, zE 16 3 17 2 0, none, none],
  [zE 38 1 0 0 0, zE 3 1 1 0 0, zE 3 1 0 0 0, zEw 20 3 1 2 1 732, none, none, zE 3 1 0 0 0, zEw 20 3 1 0 0 737, none, none, zE 22 1 0 0 0, zE 3 1 0 0 0, zEw 20 3 1 3 1 733, none, none, zE 3 1 0 0 0],
  [zEw 20 3 1 0 0 737, none, none, zE 22 1 0 0 0, zE 3 1 0 0 0, zEw 20 3 1 5 1 735, none, none, zE 3 1 0 0 0, zEw 20 3 1 0 0 737, none, none, zE 22 1 0 0 0, zEw 32 3 21 4 8 740, none, none],
  [zE 3 1 0 0 0, zE 39 1 0 0 0, zEw 20 3 1 0 0 737, none, none, zEn 1 1, zE 7 1 0 0 0, zEw 21 3 1 0 0 737, none, none, zE 3 1 0 0 0, zE 39 1 0 0 0, zEw 20 3 1 1 0 736, none, none, zEn 1 1],
  [zE 7 1 0 1 0, zEw 21 3 1 1 0 736, none, none, zE 38 1 0 0 0]]
/-- ColdShod$Country.<init>()V -/
noncomputable def zi_13 : List (List (Option zI)) := [[zE 3 1 0 0 0, zEw 33 3 0 0 0 741, none, none, zE 3 1 0 0 0, zEn 2 6, none, zEw 30 2 0 0 0 704, none, zEw 21 3 2 0 1 742, none, none, zE 3 1 0 0 0, zEn 2 6, none, zEw 30 2 0 0 0 704],
  [none, zEw 21 3 2 1 1 743, none, none, zE 3 1 0 0 0, zEn 2 8, none, zEw 30 3 2 0 0 744, none, none, zEw 21 3 2 2 1 745, none, none, zE 3 1 0 0 0, zEn 2 12, none],
  [zEw 30 3 3 0 0 746, none, none, zEw 21 3 2 3 1 747, none, none, zE 3 1 0 0 0, zEn 2 6, none, zEw 30 2 0 0 0 704, none, zEw 21 3 2 4 1 748, none, none, zE 3 1 0 0 0, zEn 2 6],
  [none, zEw 30 2 0 0 0 704, none, zEw 21 3 2 5 1 749, none, none, zE 3 1 0 0 0, some (29, 3, 5, 4, 0, .null, [(0, 750), (0, 711), (0, 156)]), none, none, zE 39 1 0 0 0, zEw 32 3 52 1 23 0, none, none, zEw 21 3 2 9 1 751, none],
  [none, zE 3 1 0 0 0, some (29, 3, 5, 4, 0, .null, [(0, 750), (0, 711), (0, 156)]), none, none, zE 39 1 0 0 0, zEw 32 3 52 1 23 0, none, none, zEw 21 3 2 10 1 752, none, none, zEn 1 0, zE 4 1 1 0 0, zE 1 1 1 0 0, zE 3 1 0 0 0],
  [zEw 20 3 2 2 1 745, none, none, zE 28 1 0 0 0, zE 16 3 106 3 0, none, none, zE 3 1 0 0 0, zEw 20 3 2 2 1 745, none, none, zE 1 1 1 0 0, some (29, 3, 3, 7, 0, .null, [(0, 744), (0, 709), (0, 102)]), none, none, zE 39 1 0 0 0],
  [zEw 32 3 34 1 15 1, none, none, zE 27 1 0 0 0, some (19, 3, 1, 0, 0, .int 1, []), none, none, zE 17 3 78 0 0, none, none, zEn 1 0, zE 4 1 1 0 0, zE 1 1 1 0 0, zE 3 1 0 0 0, zEw 20 3 2 3 1 747, none],
  [none, zE 28 1 0 0 0, zE 16 3 136 3 0, none, none, zE 3 1 0 0 0, zEw 20 3 2 3 1 747, none, none, zE 1 1 1 0 0, some (29, 3, 7, 5, 0, .null, [(0, 746), (0, 713), (0, 214)]), none, none, zE 39 1 0 0 0, zEw 32 3 73 1 31 2, none],
  [none, zE 27 1 0 0 0, some (19, 3, 1, 0, 0, .int 1, []), none, none, zE 17 3 108 0 0, none, none, zE 38 1 0 0 0]]
/-- ColdShod$Country.hasHead(I)Z -/
noncomputable def zi_14 : List (List (Option zI)) := [[zE 1 1 1 0 0, zE 15 3 16 2 0, none, none, zE 1 1 1 0 0, zE 3 1 0 0 0, zEw 20 3 2 6 0 753, none, none, zE 16 3 16 3 0, none, none, zEn 1 1, zE 17 3 17 0 0, none, none],
  [zEn 1 0, zE 35 1 0 0 1]]
/-- ColdShod$Country.hasIdea(I)Z -/
noncomputable def zi_15 : List (List (Option zI)) := [[zE 1 1 1 0 0, zE 15 3 16 2 0, none, none, zE 1 1 1 0 0, zE 3 1 0 0 0, zEw 20 3 2 7 0 754, none, none, zE 16 3 16 3 0, none, none, zEn 1 1, zE 17 3 17 0 0, none, none],
  [zEn 1 0, zE 35 1 0 0 1]]
/-- ColdShod$Country.hasRoad(I)Z -/
noncomputable def zi_16 : List (List (Option zI)) := [[zE 1 1 1 0 0, zE 15 3 16 2 0, none, none, zE 1 1 1 0 0, zE 3 1 0 0 0, zEw 20 3 2 8 0 755, none, none, zE 16 3 16 3 0, none, none, zEn 1 1, zE 17 3 17 0 0, none, none],
  [zEn 1 0, zE 35 1 0 0 1]]
/-- ColdShod$Country.layRoad(III)I -/
noncomputable def zi_17 : List (List (Option zI)) := [[zE 3 1 0 0 0, zEw 20 3 2 8 0 755, none, none, zEn 2 12, none, zE 16 3 12 2 0, none, none, some (0, 2, 0, 0, 0, .int (-3), []), none, zE 35 1 0 0 0, zE 3 1 0 0 0, zEw 20 3 2 3 1 747, none, none],
  [zE 3 1 0 0 0, zEw 20 3 2 8 0 755, none, none, zE 24 1 0 0 0, zE 6 2 4 0 0, none, zE 3 2 4 0 0, none, zE 1 1 1 0 0, zEw 21 3 7 0 0 756, none, none, zE 3 2 4 0 0, none, zE 1 1 2 0 0],
  [zEw 21 3 7 1 0 757, none, none, zE 3 2 4 0 0, none, zE 1 1 3 0 0, zEw 21 3 7 2 0 758, none, none, zE 3 1 0 0 0, zE 39 1 0 0 0, zEw 20 3 2 8 0 755, none, none, zE 40 1 0 0 0, zEn 1 1],
  [zE 7 1 0 0 0, zEw 21 3 2 8 0 755, none, none, zE 35 1 0 0 0]]
/-- ColdShod$Country.isThere(II)Z -/
noncomputable def zi_18 : List (List (Option zI)) := [[zE 1 1 2 0 0, zE 15 3 10 2 0, none, none, zE 1 1 2 0 0, zEn 2 14, none, zE 16 3 12 5 0, none, none, zEn 1 0, zE 35 1 0 0 1, zE 1 1 2 0 0, zEn 1 1, zE 16 3 23 4 0, none],
  [none, zE 3 1 0 0 0, zE 1 1 1 0 0, zEw 32 3 14 2 8 759, none, none, zE 35 1 0 0 1, zE 1 1 2 0 0, zEn 2 8, none, zE 16 3 35 5 0, none, none, zE 1 1 2 0 0, zEn 2 14, none],
  [zE 16 3 43 1 0, none, none, zE 3 1 0 0 0, zE 1 1 1 0 0, zEw 32 3 15 2 8 760, none, none, zE 17 3 48 0 0, none, none, zE 3 1 0 0 0, zE 1 1 1 0 0, zEw 32 3 16 2 8 761, none, none],
  [zE 35 1 0 0 1]]
/-- ColdShod$Country.canBe(II)Z -/
noncomputable def zi_19 : List (List (Option zI)) := [[zE 1 1 1 0 0, zE 15 3 10 2 0, none, none, zE 1 1 1 0 0, zEn 2 11, none, zE 16 3 12 5 0, none, none, zEn 1 0, zE 35 1 0 0 1, zE 1 1 1 0 0, zEn 2 8, none, zE 16 3 27 1 0],
  [none, none, zE 3 1 0 0 0, zEw 20 3 2 6 0 753, none, none, zEn 1 1, zE 7 1 0 1 0, zE 17 3 32 0 0, none, none, zEw 43 3 1 0 1 3, none, none, zE 1 1 1 0 0, zE 22 1 0 0 0],
  [zE 4 1 3 0 0, zE 1 1 2 0 0, zEw 43 3 2 0 1 4, none, none, zE 1 1 1 0 0, zE 22 1 0 0 0, zE 16 3 51 2 0, none, none, zE 1 1 2 0 0, zE 1 1 3 0 0, zE 16 3 51 4 0, none, none, zEn 1 1],
  [zE 17 3 52 0 0, none, none, zEn 1 0, zE 35 1 0 0 1]]
/-- ColdShod$Country.numberOf(II)I -/
noncomputable def zi_20 : List (List (Option zI)) := [[zE 3 1 0 0 0, zE 1 1 1 0 0, zE 1 1 2 0 0, zEw 32 3 18 3 8 762, none, none, zE 15 3 12 1 0, none, none, some (0, 2, 0, 0, 0, .int (-2000000000), [(0, 763)]), none, zE 35 1 0 0 0, zE 1 1 2 0 0, some (18, 75, 232, 0, 0, .null, [(0, 88), (1, 95), (2, 102), (3, 112), (4, 122), (5, 132), (6, 142), (7, 152), (8, 162), (9, 172), (10, 182), (11, 192), (12, 202), (13, 212), (14, 222)]), none, none],
  [none, none, none, none, none, none, none, none, none, none, none, none, none, none, none, none],
  [none, none, none, none, none, none, none, none, none, none, none, none, none, none, none, none],
  [none, none, none, none, none, none, none, none, none, none, none, none, none, none, none, none],
  [none, none, none, none, none, none, none, none, none, none, none, none, none, none, none, none],
  [none, none, none, none, none, none, none, none, zE 3 1 0 0 0, zEw 20 3 2 0 1 742, none, none, zE 1 1 1 0 0, zE 22 1 0 0 0, zE 35 1 0 0 0, zE 3 1 0 0 0],
  [zEw 20 3 2 1 1 743, none, none, zE 1 1 1 0 0, zE 22 1 0 0 0, zE 35 1 0 0 0, zE 3 1 0 0 0, zEw 20 3 2 2 1 745, none, none, zE 1 1 1 0 0, zE 24 1 0 0 0, zEw 20 3 3 0 0 764, none, none, zE 35 1 0 0 0],
  [zE 3 1 0 0 0, zEw 20 3 2 2 1 745, none, none, zE 1 1 1 0 0, zE 24 1 0 0 0, zEw 20 3 3 1 0 765, none, none, zE 35 1 0 0 0, zE 3 1 0 0 0, zEw 20 3 2 2 1 745, none, none, zE 1 1 1 0 0, zE 24 1 0 0 0],
  [zEw 20 3 3 2 0 766, none, none, zE 35 1 0 0 0, zE 3 1 0 0 0, zEw 20 3 2 2 1 745, none, none, zE 1 1 1 0 0, zE 24 1 0 0 0, zEw 20 3 3 3 0 767, none, none, zE 35 1 0 0 0, zE 3 1 0 0 0, zEw 20 3 2 2 1 745],
  [none, none, zE 1 1 1 0 0, zE 24 1 0 0 0, zEw 20 3 3 4 0 768, none, none, zE 35 1 0 0 0, zE 3 1 0 0 0, zEw 20 3 2 2 1 745, none, none, zE 1 1 1 0 0, zE 24 1 0 0 0, zEw 20 3 3 5 0 769, none],
  [none, zE 35 1 0 0 0, zE 3 1 0 0 0, zEw 20 3 2 2 1 745, none, none, zE 1 1 1 0 0, zE 24 1 0 0 0, zEw 20 3 3 6 0 770, none, none, zE 35 1 0 0 0, zE 3 1 0 0 0, zEw 20 3 2 3 1 747, none, none],
  [zE 1 1 1 0 0, zE 24 1 0 0 0, zEw 20 3 7 2 0 758, none, none, zE 35 1 0 0 0, zE 3 1 0 0 0, zEw 20 3 2 3 1 747, none, none, zE 1 1 1 0 0, zE 24 1 0 0 0, zEw 20 3 7 3 0 771, none, none, zE 35 1 0 0 0],
  [zE 3 1 0 0 0, zEw 20 3 2 3 1 747, none, none, zE 1 1 1 0 0, zE 24 1 0 0 0, zEw 20 3 7 4 0 772, none, none, zE 35 1 0 0 0, zE 3 1 0 0 0, zEw 20 3 2 3 1 747, none, none, zE 1 1 1 0 0, zE 24 1 0 0 0],
  [zEw 20 3 7 0 0 756, none, none, zE 35 1 0 0 0, zE 3 1 0 0 0, zEw 20 3 2 3 1 747, none, none, zE 1 1 1 0 0, zE 24 1 0 0 0, zEw 20 3 7 1 0 757, none, none, zE 35 1 0 0 0, zE 3 1 0 0 0, zEw 20 3 2 2 1 745],
  [none, none, zE 1 1 1 0 0, zE 24 1 0 0 0, zEw 32 3 37 1 12 773, none, none, zE 35 1 0 0 0, some (0, 2, 0, 0, 0, .int (-2000000000), [(0, 763)]), none, zE 35 1 0 0 0]]
/-- ColdShod$Country.setNumber(III)V -/
noncomputable def zi_21 : List (List (Option zI)) := [[zE 3 1 0 0 0, zE 1 1 1 0 0, zE 1 1 2 0 0, zEw 32 3 18 3 8 762, none, none, zE 15 3 10 1 0, none, none, zE 38 1 0 0 0, zE 1 1 2 0 0, some (18, 61, 222, 0, 0, .null, [(0, 72), (1, 82), (2, 92), (3, 105), (4, 118), (5, 131), (6, 144), (7, 157), (8, 170), (9, 183), (10, 196), (11, 209)]), none, none, none, none],
  [none, none, none, none, none, none, none, none, none, none, none, none, none, none, none, none],
  [none, none, none, none, none, none, none, none, none, none, none, none, none, none, none, none],
  [none, none, none, none, none, none, none, none, none, none, none, none, none, none, none, none],
  [none, none, none, none, none, none, none, none, zE 3 1 0 0 0, zEw 20 3 2 0 1 742, none, none, zE 1 1 1 0 0, zE 1 1 3 0 0, zE 25 1 0 0 0, zE 17 3 222 0 0],
  [none, none, zE 3 1 0 0 0, zEw 20 3 2 1 1 743, none, none, zE 1 1 1 0 0, zE 1 1 3 0 0, zE 25 1 0 0 0, zE 17 3 222 0 0, none, none, zE 3 1 0 0 0, zEw 20 3 2 2 1 745, none, none],
  [zE 1 1 1 0 0, zE 24 1 0 0 0, zE 1 1 3 0 0, zEw 21 3 3 0 0 764, none, none, zE 17 3 222 0 0, none, none, zE 3 1 0 0 0, zEw 20 3 2 2 1 745, none, none, zE 1 1 1 0 0, zE 24 1 0 0 0, zE 1 1 3 0 0],
  [zEw 21 3 3 1 0 765, none, none, zE 17 3 222 0 0, none, none, zE 3 1 0 0 0, zEw 20 3 2 2 1 745, none, none, zE 1 1 1 0 0, zE 24 1 0 0 0, zE 1 1 3 0 0, zEw 21 3 3 2 0 766, none, none],
  [zE 17 3 222 0 0, none, none, zE 3 1 0 0 0, zEw 20 3 2 2 1 745, none, none, zE 1 1 1 0 0, zE 24 1 0 0 0, zE 1 1 3 0 0, zEw 21 3 3 3 0 767, none, none, zE 17 3 222 0 0, none, none],
  [zE 3 1 0 0 0, zEw 20 3 2 2 1 745, none, none, zE 1 1 1 0 0, zE 24 1 0 0 0, zE 1 1 3 0 0, zEw 21 3 3 4 0 768, none, none, zE 17 3 222 0 0, none, none, zE 3 1 0 0 0, zEw 20 3 2 2 1 745, none],
  [none, zE 1 1 1 0 0, zE 24 1 0 0 0, zE 1 1 3 0 0, zEw 21 3 3 5 0 769, none, none, zE 17 3 222 0 0, none, none, zE 3 1 0 0 0, zEw 20 3 2 2 1 745, none, none, zE 1 1 1 0 0, zE 24 1 0 0 0],
  [zE 1 1 3 0 0, zEw 21 3 3 6 0 770, none, none, zE 17 3 222 0 0, none, none, zE 3 1 0 0 0, zEw 20 3 2 3 1 747, none, none, zE 1 1 1 0 0, zE 24 1 0 0 0, zE 1 1 3 0 0, zEw 21 3 7 2 0 758, none],
  [none, zE 17 3 222 0 0, none, none, zE 3 1 0 0 0, zEw 20 3 2 3 1 747, none, none, zE 1 1 1 0 0, zE 24 1 0 0 0, zE 1 1 3 0 0, zEw 21 3 7 3 0 771, none, none, zE 17 3 222 0 0, none],
  [none, zE 3 1 0 0 0, zEw 20 3 2 3 1 747, none, none, zE 1 1 1 0 0, zE 24 1 0 0 0, zE 1 1 3 0 0, zEw 21 3 7 4 0 772, none, none, zE 17 3 222 0 0, none, none, zE 38 1 0 0 0]]
/-- ColdShod$Country.willBehind(LColdShod$Idea;)I -/
noncomputable def zi_22 : List (List (Option zI)) := [[zE 3 1 0 0 0, zE 3 1 1 0 0, zEw 20 3 3 6 0 770, none, none, zEw 32 3 14 2 8 759, none, none, zE 15 3 23 0 0, none, none, zE 3 1 0 0 0, zEw 20 3 2 1 1 743, none, none, zE 3 1 1 0 0],
  [zEw 20 3 3 6 0 770, none, none, zE 22 1 0 0 0, zE 17 3 25 0 0, none, none, zEn 2 6, none, zE 35 1 0 0 0]]
/-- ColdShod$Country.wearOf(LColdShod$Idea;LColdShod$Road;)I -/
noncomputable def zi_23 : List (List (Option zI)) := [[zE 3 1 0 0 0, zEw 20 3 2 5 1 749, none, none, zEn 1 0, zE 3 1 1 0 0, zEw 20 3 3 0 0 764, none, none, zE 25 1 0 0 0, zE 3 1 0 0 0, zEw 20 3 2 5 1 749, none, none, zEn 1 1, zE 3 1 1 0 0],
  [zEw 20 3 3 2 0 766, none, none, zE 25 1 0 0 0, zE 3 1 0 0 0, zEw 20 3 2 5 1 749, none, none, zEn 1 2, zE 3 1 1 0 0, zEw 20 3 3 3 0 767, none, none, zE 25 1 0 0 0, zE 3 1 0 0 0, zEw 20 3 2 5 1 749],
  [none, none, zEn 1 3, zE 3 1 0 0 0, zE 3 1 1 0 0, zEw 20 3 3 6 0 770, none, none, zEw 32 3 14 2 8 759, none, none, zE 15 3 66 0 0, none, none, zE 3 1 1 0 0, zEw 20 3 3 1 0 765],
  [none, none, zE 3 1 0 0 0, zEw 20 3 2 0 1 742, none, none, zE 3 1 1 0 0, zEw 20 3 3 6 0 770, none, none, zE 22 1 0 0 0, zE 7 1 0 1 0, some (31, 3, 0, 2, 0, .null, [(0, 774), (0, 775), (0, 776), (0, 777)]), none, none, zE 17 3 68 0 0],
  [none, none, zEn 2 9, none, zE 25 1 0 0 0, zE 3 1 0 0 0, zEw 20 3 2 5 1 749, none, none, zEn 1 4, zE 3 1 2 0 0, zEw 20 3 7 3 0 771, none, none, zE 25 1 0 0 0, zE 3 1 0 0 0],
  [zEw 20 3 2 5 1 749, none, none, zEn 1 5, zE 3 1 2 0 0, zEw 20 3 7 4 0 772, none, none, zE 25 1 0 0 0, zEn 1 0, zEn 2 9, none, zE 3 1 0 0 0, zEw 20 3 2 9 1 751, none, none],
  [zE 3 1 0 0 0, zEw 20 3 2 5 1 749, none, none, zEw 32 3 58 2 20 778, none, none, some (31, 3, 0, 1, 0, .null, [(0, 779), (0, 780), (0, 781), (0, 777)]), none, none, some (31, 3, 0, 0, 0, .null, [(0, 782), (0, 783), (0, 784), (0, 777)]), none, none, zE 35 1 0 0 0]]
/-- ColdShod$Country.travel(LColdShod$Idea;LColdShod$Road;)I -/
noncomputable def zi_24 : List (List (Option zI)) := [[zE 3 1 1 0 0, zE 3 1 2 0 0, zEw 32 3 40 2 12 785, none, none, zE 15 3 10 1 0, none, none, zEn 1 0, zE 35 1 0 0 0, zE 3 1 0 0 0, zE 3 1 1 0 0, zE 3 1 2 0 0, zEw 32 3 23 3 8 786, none, none],
  [zE 4 1 3 0 0, zEn 1 1, zE 4 2 4 0 0, none, zE 1 2 4 0 0, none, zE 3 1 2 0 0, zEw 20 3 7 2 0 758, none, none, zE 16 3 89 4 0, none, none, zE 3 1 1 0 0, zE 1 1 3 0 0, zEw 32 3 41 2 12 787],
  [none, none, zE 3 1 1 0 0, zEw 32 3 38 1 12 788, none, none, zE 15 3 53 0 0, none, none, zE 1 2 4 0 0, none, zE 3 1 2 0 0, zEw 20 3 7 2 0 758, none, none, zE 16 3 53 3 0],
  [none, none, zE 1 2 4 0 0, none, zE 35 1 0 0 0, zE 3 1 0 0 0, zEw 20 3 2 9 1 751, none, none, zEw 20 3 5 0 0 789, none, none, zE 15 3 83 0 0, none, none, zE 1 1 3 0 0],
  [zE 15 3 83 5 0, none, none, zE 1 2 4 0 0, none, zE 3 1 2 0 0, zEw 20 3 7 2 0 758, none, none, zE 16 3 83 3 0, none, none, zE 3 1 0 0 0, zE 3 1 1 0 0, zE 3 1 2 0 0, zEw 32 3 23 3 8 786],
  [none, none, zE 4 1 3 0 0, some (19, 3, 4, 0, 0, .int 1, []), none, none, zE 17 3 20 0 0, none, none, zE 3 1 1 0 0, zEn 1 1, zEw 32 3 42 2 12 790, none, none, zE 3 1 2 0 0, zEw 20 3 7 2 0 758],
  [none, none, zE 35 1 0 0 0]]
/-- ColdShod$Country.letAllAsk()V -/
noncomputable def zi_25 : List (List (Option zI)) := [[zE 3 1 0 0 0, zEw 20 3 2 4 1 748, none, none, some (0, 2, 0, 0, 0, .int (-2), []), none, zEw 32 3 240 2 1 791, none, none, zEn 1 0, zE 4 1 1 0 0, zEn 1 0, zE 4 1 2 0 0, zEn 1 0, zE 4 1 3 0 0, zE 1 1 3 0 0],
  [zE 3 1 0 0 0, zEw 20 3 2 6 0 753, none, none, zE 16 3 91 3 0, none, none, zE 3 1 0 0 0, zE 1 1 1 0 0, zEw 32 3 26 2 8 792, none, none, zE 4 2 4 0 0, none, zE 3 1 0 0 0, zE 1 2 4 0 0],
  [none, zEw 32 3 14 2 8 759, none, none, zE 15 3 40 1 0, none, none, zE 38 1 0 0 0, zE 1 1 1 0 0, zEn 1 1, zE 1 2 4 0 0, none, zE 7 1 0 6 0, zE 7 1 0 4 0, zE 4 1 1 0 0, zE 3 1 0 0 0],
  [zEw 20 3 2 4 1 748, none, none, zE 1 2 4 0 0, none, zE 3 1 0 0 0, zE 1 2 4 0 0, none, zE 1 1 2 0 0, zEw 32 3 27 3 8 793, none, none, zE 25 1 0 0 0, zE 3 1 0 0 0, zEw 20 3 2 4 1 748, none],
  [none, zE 1 2 4 0 0, none, zE 22 1 0 0 0, some (0, 2, 0, 0, 0, .int (-2), []), none, zE 16 3 85 0 0, none, none, zE 1 1 2 0 0, zEn 1 1, zE 3 1 0 0 0, zEw 20 3 2 4 1 748, none, none, zE 1 2 4 0 0],
  [none, zE 22 1 0 0 0, zE 7 1 0 6 0, zE 7 1 0 4 0, zE 4 1 2 0 0, some (19, 3, 3, 0, 0, .int 1, []), none, none, zE 17 3 15 0 0, none, none, zE 38 1 0 0 0]]
/-- ColdShod$Country.firstOfOthers(I)I -/
noncomputable def zi_26 : List (List (Option zI)) := [[some (0, 1, 0, 0, 0, .int (-1), []), zE 4 1 2 0 0, zEn 1 0, zE 4 1 3 0 0, zE 1 1 3 0 0, zE 3 1 0 0 0, zEw 20 3 2 6 0 753, none, none, zE 16 3 37 3 0, none, none, zE 1 1 1 0 0, zE 1 1 3 0 0, zE 7 1 0 7 0, zEn 1 1],
  [zE 7 1 0 3 0, zE 15 3 31 1 0, none, none, zE 3 1 0 0 0, zE 1 1 3 0 0, zE 1 1 2 0 0, zEw 32 3 28 3 8 794, none, none, zE 15 3 31 0 0, none, none, zE 1 1 3 0 0, zE 4 1 2 0 0, some (19, 3, 3, 0, 0, .int 1, [])],
  [none, none, zE 17 3 4 0 0, none, none, zE 1 1 2 0 0, zE 35 1 0 0 0]]
/-- ColdShod$Country.nearestOfOthers(II)I -/
noncomputable def zi_27 : List (List (Option zI)) := [[some (0, 2, 0, 0, 0, .int (-2), []), none, zE 4 1 3 0 0, zEn 1 0, zE 4 2 4 0 0, none, zE 1 2 4 0 0, none, zE 3 1 0 0 0, zEw 20 3 2 7 0 754, none, none, zE 16 3 44 3 0, none, none, zE 1 1 2 0 0],
  [zE 1 2 4 0 0, none, zE 7 1 0 7 0, zEn 1 1, zE 7 1 0 3 0, zE 15 3 38 1 0, none, none, zE 3 1 0 0 0, zE 1 1 1 0 0, zE 1 2 4 0 0, none, zE 1 1 3 0 0, zEw 32 3 29 4 8 795, none, none],
  [zE 15 3 38 0 0, none, none, zE 1 2 4 0 0, none, zE 4 1 3 0 0, some (19, 3, 4, 0, 0, .int 1, []), none, none, zE 17 3 6 0 0, none, none, zE 1 1 3 0 0, zE 35 1 0 0 0]]
/-- ColdShod$Country.isRatherHead(II)Z -/
noncomputable def zi_28 : List (List (Option zI)) := [[zE 3 1 0 0 0, zE 1 1 2 0 0, zEw 32 3 14 2 8 759, none, none, zE 15 3 10 1 0, none, none, zEn 1 1, zE 35 1 0 0 1, zE 3 1 0 0 0, zEw 20 3 2 1 1 743, none, none, zE 1 1 1 0 0, zE 22 1 0 0 0],
  [zE 3 1 0 0 0, zEw 20 3 2 1 1 743, none, none, zE 1 1 2 0 0, zE 22 1 0 0 0, zE 16 3 48 0 0, none, none, zE 3 1 0 0 0, zEw 20 3 2 1 1 743, none, none, zE 1 1 1 0 0, zE 22 1 0 0 0, zE 3 1 0 0 0],
  [zEw 20 3 2 1 1 743, none, none, zE 1 1 2 0 0, zE 22 1 0 0 0, zE 16 3 44 5 0, none, none, zEn 1 1, zE 17 3 58 0 0, none, none, zEn 1 0, zE 17 3 58 0 0, none, none],
  [zE 1 1 1 0 0, zE 1 1 2 0 0, zE 16 3 57 3 0, none, none, zEn 1 1, zE 17 3 58 0 0, none, none, zEn 1 0, zE 35 1 0 0 1]]
/-- ColdShod$Country.isRatherIdea(III)Z -/
noncomputable def zi_29 : List (List (Option zI)) := [[zE 3 1 0 0 0, zE 1 1 3 0 0, zEw 32 3 15 2 8 760, none, none, zE 15 3 10 1 0, none, none, zEn 1 1, zE 35 1 0 0 1, zE 3 1 0 0 0, zEw 20 3 2 2 1 745, none, none, zE 1 1 2 0 0, zE 24 1 0 0 0],
  [zEw 20 3 3 1 0 765, none, none, zE 3 1 0 0 0, zEw 20 3 2 0 1 742, none, none, zE 1 1 1 0 0, zE 22 1 0 0 0, zE 7 1 0 1 0, some (31, 3, 0, 2, 0, .null, [(0, 774), (0, 775), (0, 776), (0, 777)]), none, none, zE 4 2 4 0 0, none, zE 3 1 0 0 0],
  [zEw 20 3 2 2 1 745, none, none, zE 1 1 3 0 0, zE 24 1 0 0 0, zEw 20 3 3 1 0 765, none, none, zE 3 1 0 0 0, zEw 20 3 2 0 1 742, none, none, zE 1 1 1 0 0, zE 22 1 0 0 0, zE 7 1 0 1 0, some (31, 3, 0, 2, 0, .null, [(0, 774), (0, 775), (0, 776), (0, 777)])],
  [none, none, zE 4 2 5 0 0, none, zE 1 2 4 0 0, none, zE 1 2 5 0 0, none, zE 16 3 72 0 0, none, none, zE 1 2 4 0 0, none, zE 1 2 5 0 0, none, zE 16 3 70 3 0],
  [none, none, zEn 1 1, zE 17 3 71 0 0, none, none, zEn 1 0, zE 35 1 0 0 1, zE 3 1 0 0 0, zEw 20 3 2 2 1 745, none, none, zE 1 1 2 0 0, zE 24 1 0 0 0, zEw 20 3 3 2 0 766, none],
  [none, zE 3 1 0 0 0, zEw 20 3 2 2 1 745, none, none, zE 1 1 3 0 0, zE 24 1 0 0 0, zEw 20 3 3 2 0 766, none, none, zE 16 3 120 0 0, none, none, zE 3 1 0 0 0, zEw 20 3 2 2 1 745, none],
  [none, zE 1 1 2 0 0, zE 24 1 0 0 0, zEw 20 3 3 2 0 766, none, none, zE 3 1 0 0 0, zEw 20 3 2 2 1 745, none, none, zE 1 1 3 0 0, zE 24 1 0 0 0, zEw 20 3 3 2 0 766, none, none, zE 16 3 118 3 0],
  [none, none, zEn 1 1, zE 17 3 119 0 0, none, none, zEn 1 0, zE 35 1 0 0 1, zE 1 1 2 0 0, zE 1 1 3 0 0, zE 16 3 129 3 0, none, none, zEn 1 1, zE 17 3 130 0 0, none],
  [none, zEn 1 0, zE 35 1 0 0 1]]
/-- ColdShod$Country.isSettled()Z -/
noncomputable def zi_30 : List (List (Option zI)) := [[zE 3 1 0 0 0, zEw 20 3 2 4 1 748, none, none, some (0, 2, 0, 0, 0, .int (-2), []), none, zEw 32 3 240 2 1 791, none, none, zEn 1 0, zE 4 1 1 0 0, zE 1 1 1 0 0, zE 3 1 0 0 0, zEw 20 3 2 7 0 754, none, none],
  [zE 16 3 66 3 0, none, none, zE 3 1 0 0 0, zEw 20 3 2 2 1 745, none, none, zE 1 1 1 0 0, zE 24 1 0 0 0, zEw 20 3 3 6 0 770, none, none, zE 4 1 2 0 0, zE 3 1 0 0 0, zE 1 1 2 0 0, zEw 32 3 14 2 8 759],
  [none, none, zE 15 3 40 1 0, none, none, zE 17 3 60 0 0, none, none, zE 3 1 0 0 0, zEw 20 3 2 4 1 748, none, none, zE 1 1 2 0 0, zE 22 1 0 0 0, some (0, 2, 0, 0, 0, .int (-2), []), none],
  [zE 16 3 53 0 0, none, none, zEn 1 0, zE 35 1 0 0 1, zE 3 1 0 0 0, zEw 20 3 2 4 1 748, none, none, zE 1 1 2 0 0, zE 1 1 1 0 0, zE 25 1 0 0 0, some (19, 3, 1, 0, 0, .int 1, []), none, none, zE 17 3 11 0 0],
  [none, none, zEn 1 0, zE 4 1 1 0 0, zE 1 1 1 0 0, zE 3 1 0 0 0, zEw 20 3 2 6 0 753, none, none, zE 16 3 155 3 0, none, none, zEn 1 0, zE 4 1 2 0 0, zE 1 1 2 0 0, zE 3 1 0 0 0],
  [zEw 20 3 2 7 0 754, none, none, zE 16 3 149 3 0, none, none, zE 3 1 0 0 0, zEw 20 3 2 2 1 745, none, none, zE 1 1 2 0 0, zE 24 1 0 0 0, zEw 20 3 3 6 0 770, none, none, zE 1 1 1 0 0],
  [zE 16 3 103 0 0, none, none, zEn 1 1, zE 17 3 104 0 0, none, none, zEn 1 0, zE 4 1 3 0 0, zE 1 1 3 0 0, zE 15 3 143 0 0, none, none, zE 3 1 0 0 0, zE 1 1 1 0 0, zE 1 1 2 0 0],
  [zE 3 1 0 0 0, zEw 20 3 2 4 1 748, none, none, zE 1 1 1 0 0, zE 22 1 0 0 0, zEw 32 3 29 4 8 795, none, none, zE 15 3 143 0 0, none, none, zE 3 1 0 0 0, zE 1 1 1 0 0, zE 3 1 0 0 0, zEw 20 3 2 2 1 745],
  [none, none, zE 1 1 2 0 0, zE 24 1 0 0 0, zEw 20 3 3 6 0 770, none, none, zEw 32 3 28 3 8 794, none, none, zE 15 3 143 0 0, none, none, zEn 1 0, zE 35 1 0 0 1, some (19, 3, 2, 0, 0, .int 1, [])],
  [none, none, zE 17 3 78 0 0, none, none, some (19, 3, 1, 0, 0, .int 1, []), none, none, zE 17 3 68 0 0, none, none, zEn 1 1, zE 35 1 0 0 1]]
/-- ColdShod$Country.fewestYokes()I -/
noncomputable def zi_31 : List (List (Option zI)) := [[zEn 1 0, zE 4 1 1 0 0, zEn 1 0, zE 4 1 2 0 0, zE 1 1 2 0 0, zE 3 1 0 0 0, zEw 20 3 2 7 0 754, none, none, zE 16 3 32 3 0, none, none, zE 1 1 1 0 0, zEn 1 1, zE 3 1 0 0 0, zEw 20 3 2 2 1 745],
  [none, none, zE 1 1 2 0 0, zE 24 1 0 0 0, zEw 20 3 3 1 0 765, none, none, zE 7 1 0 6 0, zE 7 1 0 4 0, zE 4 1 1 0 0, some (19, 3, 2, 0, 0, .int 1, []), none, none, zE 17 3 4 0 0, none, none],
  [zEn 1 0, zE 4 1 2 0 0, zEn 1 0, zE 4 1 3 0 0, zE 1 1 3 0 0, zEn 1 5, zE 16 3 69 4 0, none, none, zE 1 1 1 0 0, zE 1 1 3 0 0, zE 7 1 0 7 0, zEn 1 1, zE 7 1 0 3 0, zE 15 3 52 1 0, none],
  [none, zE 17 3 63 0 0, none, none, some (19, 3, 2, 0, 0, .int 1, []), none, none, zE 1 1 1 0 0, zEn 1 3, zE 1 1 3 0 0, zE 7 1 0 6 0, some (0, 1, 0, 0, 0, .int (-1), []), zE 7 1 0 5 0, zE 7 1 0 3 0, zE 4 1 1 0 0, some (19, 3, 3, 0, 0, .int 1, [])],
  [none, none, zE 17 3 36 0 0, none, none, zE 1 1 2 0 0, zE 35 1 0 0 0]]
/-- ColdShod$Country.greatestClash()I -/
noncomputable def zi_32 : List (List (Option zI)) := [[zEn 1 0, zE 4 1 1 0 0, zEn 1 1, zE 4 1 2 0 0, zE 1 1 2 0 0, zEn 1 1, zE 3 1 0 0 0, zEw 20 3 2 7 0 754, none, none, zE 7 1 0 6 0, zE 16 3 41 3 0, none, none, zE 1 1 2 0 0, zEw 32 3 238 1 1 796],
  [none, none, zE 1 1 1 0 0, zEw 32 3 238 1 1 796, none, none, zE 16 3 35 5 0, none, none, zE 3 1 0 0 0, zE 1 1 2 0 0, zEw 32 3 33 2 8 797, none, none, zE 15 3 35 0 0, none],
  [none, zE 1 1 2 0 0, zE 4 1 1 0 0, some (19, 3, 2, 0, 0, .int 1, []), none, none, zE 17 3 4 0 0, none, none, zE 1 1 1 0 0, zE 35 1 0 0 0]]
/-- ColdShod$Country.allClash(I)Z -/
noncomputable def zi_33 : List (List (Option zI)) := [[zEn 1 0, zE 4 1 2 0 0, zEn 1 0, zE 4 1 3 0 0, zE 1 1 3 0 0, zE 3 1 0 0 0, zEw 20 3 2 7 0 754, none, none, zE 16 3 61 3 0, none, none, zE 1 1 1 0 0, zE 1 1 3 0 0, zE 7 1 0 7 0, zEn 1 1],
  [zE 7 1 0 3 0, zE 15 3 23 1 0, none, none, zE 17 3 55 0 0, none, none, zE 3 1 0 0 0, zEw 20 3 2 2 1 745, none, none, zE 1 1 3 0 0, zE 24 1 0 0 0, zEw 20 3 3 1 0 765, none, none],
  [zE 4 2 4 0 0, none, zE 1 1 2 0 0, zE 1 2 4 0 0, none, zE 7 1 0 7 0, zEn 1 1, zE 7 1 0 3 0, zE 15 3 45 0 0, none, none, zEn 1 0, zE 35 1 0 0 1, zE 1 1 2 0 0, zEn 2 7, none],
  [zE 1 2 4 0 0, none, zE 7 1 0 6 0, zEn 1 1, zE 7 1 0 7 0, zE 7 1 0 4 0, zE 4 1 2 0 0, some (19, 3, 3, 0, 0, .int 1, []), none, none, zE 17 3 4 0 0, none, none, zEn 1 1, zE 35 1 0 0 1]]
/-- ColdShod$Idea.<init>()V -/
noncomputable def zi_34 : List (List (Option zI)) := [[zE 3 1 0 0 0, zEw 33 3 0 0 0 798, none, none, zE 3 1 0 0 0, some (0, 1, 0, 0, 0, .int (-1), []), zEw 21 3 3 6 0 799, none, none, zE 38 1 0 0 0]]
/-- ColdShod$Idea.become(LColdShod$Idea;)V -/
noncomputable def zi_35 : List (List (Option zI)) := [[zE 3 1 0 0 0, zE 3 1 1 0 0, zEw 20 3 3 0 0 800, none, none, zEw 21 3 3 0 0 800, none, none, zE 3 1 0 0 0, zE 3 1 1 0 0, zEw 20 3 3 4 0 801, none, none, zEw 21 3 3 4 0 801, none, none],
  [zE 3 1 0 0 0, zE 3 1 1 0 0, zEw 32 3 36 2 12 802, none, none, zE 38 1 0 0 0]]
/-- ColdShod$Idea.becomeByDeeds(LColdShod$Idea;)V -/
noncomputable def zi_36 : List (List (Option zI)) := [[zE 3 1 0 0 0, zE 3 1 1 0 0, zEw 20 3 3 1 0 803, none, none, zEw 21 3 3 1 0 803, none, none, zE 3 1 0 0 0, zE 3 1 1 0 0, zEw 20 3 3 2 0 804, none, none, zEw 21 3 3 2 0 804, none, none],
  [zE 3 1 0 0 0, zE 3 1 1 0 0, zEw 20 3 3 3 0 805, none, none, zEw 21 3 3 3 0 805, none, none, zE 3 1 0 0 0, zE 3 1 1 0 0, zEw 20 3 3 5 0 806, none, none, zEw 21 3 3 5 0 806, none, none],
  [zE 3 1 0 0 0, zE 3 1 1 0 0, zEw 20 3 3 6 0 799, none, none, zEw 21 3 3 6 0 799, none, none, zE 38 1 0 0 0]]
/-- ColdShod$Idea.grip()I -/
noncomputable def zi_37 : List (List (Option zI)) := [[zEn 2 9, none, zE 3 1 0 0 0, zEw 20 3 3 2 0 804, none, none, zEn 2 11, none, zE 8 1 0 0 0, zE 7 1 0 1 0, zE 35 1 0 0 0]]
/-- ColdShod$Idea.isLame()Z -/
noncomputable def zi_38 : List (List (Option zI)) := [[zE 3 1 0 0 0, zEw 20 3 3 2 0 804, none, none, zEn 2 99, none, zE 16 3 13 2 0, none, none, zEn 1 1, zE 17 3 14 0 0, none, none, zEn 1 0, zE 35 1 0 0 1]]
/-- ColdShod$Idea.canClimb(LColdShod$Road;)Z -/
noncomputable def zi_39 : List (List (Option zI)) := [[zE 3 1 1 0 0, zEw 20 3 7 3 0 807, none, none, zE 3 1 0 0 0, zEw 32 3 37 1 12 808, none, none, zE 16 3 15 4 0, none, none, zEn 1 1, zE 17 3 16 0 0, none, none, zEn 1 0],
  [zE 35 1 0 0 1]]
/-- ColdShod$Idea.setsOutOn(LColdShod$Road;)Z -/
noncomputable def zi_40 : List (List (Option zI)) := [[zE 3 1 0 0 0, zEw 32 3 38 1 12 809, none, none, zE 15 3 19 1 0, none, none, zE 3 1 0 0 0, zE 3 1 1 0 0, zEw 32 3 39 2 12 810, none, none, zE 15 3 19 0 0, none, none, zEn 1 1],
  [zE 17 3 20 0 0, none, none, zEn 1 0, zE 35 1 0 0 1]]
/-- ColdShod$Idea.wearBy(I)V -/
noncomputable def zi_41 : List (List (Option zI)) := [[zE 3 1 0 0 0, zEn 2 99, none, zE 3 1 0 0 0, zEw 20 3 3 2 0 804, none, none, zE 1 1 1 0 0, zE 7 1 0 0 0, some (31, 3, 0, 1, 0, .null, [(0, 811), (0, 780), (0, 781), (0, 777)]), none, none, zEw 21 3 3 2 0 804, none, none, zE 38 1 0 0 0]]
/-- ColdShod$Idea.cool(I)V -/
noncomputable def zi_42 : List (List (Option zI)) := [[zE 3 1 0 0 0, zEn 1 0, zE 3 1 0 0 0, zEw 20 3 3 3 0 805, none, none, zE 1 1 1 0 0, zE 7 1 0 1 0, some (31, 3, 0, 0, 0, .null, [(0, 812), (0, 783), (0, 784), (0, 777)]), none, none, zEw 21 3 3 3 0 805, none, none, zE 38 1 0 0 0]]
/-- ColdShod$Idea.strike(I)Z -/
noncomputable def zi_43 : List (List (Option zI)) := [[zE 1 1 1 0 0, some (18, 31, 64, 0, 0, .null, [(0, 32), (1, 37), (2, 48), (3, 59)]), none, none, none, none, none, none, none, none, none, none, none, none, none, none],
  [none, none, none, none, none, none, none, none, none, none, none, none, none, none, none, none],
  [zE 3 1 0 0 0, zEw 32 3 44 1 12 813, none, none, zE 35 1 0 0 1, zE 3 1 0 0 0, zE 3 1 0 0 0, zEw 20 3 3 1 0 803, none, none, zEn 1 1, zE 7 1 0 0 0, zEw 32 3 45 2 12 814, none, none, zE 35 1 0 0 1],
  [zE 3 1 0 0 0, zE 3 1 0 0 0, zEw 20 3 3 1 0 803, none, none, zEn 1 1, zE 7 1 0 1 0, zEw 32 3 45 2 12 814, none, none, zE 35 1 0 0 1, zE 3 1 0 0 0, zEw 32 3 46 1 12 815, none, none, zE 35 1 0 0 1],
  [zEn 1 0, zE 35 1 0 0 1]]
/-- ColdShod$Idea.heatUp()Z -/
noncomputable def zi_44 : List (List (Option zI)) := [[zE 3 1 0 0 0, zEw 20 3 3 4 0 801, none, none, zEn 1 1, zE 16 3 20 1 0, none, none, zE 3 1 0 0 0, zEw 20 3 3 5 0 806, none, none, zEn 1 1, zE 16 3 20 2 0, none, none],
  [zEn 1 1, zE 17 3 21 0 0, none, none, zEn 1 0, zE 4 1 1 0 0, zE 1 1 1 0 0, zE 15 3 44 1 0, none, none, zE 3 1 0 0 0, zEw 20 3 3 3 0 805, none, none, zEn 2 9, none],
  [zE 16 3 46 1 0, none, none, zE 3 1 0 0 0, zEw 20 3 3 5 0 806, none, none, zEn 2 9, none, zE 16 3 46 1 0, none, none, zEn 1 0, zE 35 1 0 0 1, zE 3 1 0 0 0, zEn 2 9],
  [none, zE 3 1 0 0 0, zEw 20 3 3 3 0 805, none, none, zEn 1 3, zE 7 1 0 0 0, some (31, 3, 0, 1, 0, .null, [(0, 811), (0, 780), (0, 781), (0, 777)]), none, none, zEw 21 3 3 3 0 805, none, none, zE 3 1 0 0 0, zEn 2 9, none],
  [zE 3 1 0 0 0, zEw 20 3 3 5 0 806, none, none, zEn 1 1, zE 7 1 0 0 0, some (31, 3, 0, 1, 0, .null, [(0, 811), (0, 780), (0, 781), (0, 777)]), none, none, zEw 21 3 3 5 0 806, none, none, zEn 1 1, zE 35 1 0 0 1]]
/-- ColdShod$Idea.drawTo(I)Z -/
noncomputable def zi_45 : List (List (Option zI)) := [[zE 3 1 0 0 0, zEw 20 3 3 3 0 805, none, none, zEn 1 2, zE 16 3 17 2 0, none, none, zE 1 1 1 0 0, zE 15 3 17 2 0, none, none, zE 1 1 1 0 0, zEn 1 5, zE 16 3 19 5 0, none],
  [none, zEn 1 0, zE 35 1 0 0 1, zE 3 1 0 0 0, zE 1 1 1 0 0, zEw 21 3 3 1 0 803, none, none, zE 3 1 0 0 0, zEn 1 2, zEw 32 3 42 2 12 816, none, none, zEn 1 1, zE 35 1 0 0 1]]
/-- ColdShod$Idea.nail()Z -/
noncomputable def zi_46 : List (List (Option zI)) := [[zE 3 1 0 0 0, zEw 20 3 3 3 0 805, none, none, zEn 1 1, zE 16 3 10 3 0, none, none, zEn 1 0, zE 35 1 0 0 1, zE 3 1 0 0 0, zEn 1 0, zE 3 1 0 0 0, zEw 20 3 3 2 0 804, none, none],
  [zEn 2 10, none, zE 7 1 0 1 0, some (31, 3, 0, 0, 0, .null, [(0, 812), (0, 783), (0, 784), (0, 777)]), none, none, zEw 21 3 3 2 0 804, none, none, zE 3 1 0 0 0, zEn 1 1, zEw 32 3 42 2 12 816, none, none, zEn 1 1, zE 35 1 0 0 1]]
/-- ColdShod$Journey.<init>()V -/
noncomputable def zi_47 : List (List (Option zI)) := [[zE 3 1 0 0 0, zEw 33 3 0 0 0 817, none, none, zE 3 1 0 0 0, zEn 2 20, none, zEw 30 2 0 0 0 704, none, zEw 21 3 4 0 1 818, none, none, zE 38 1 0 0 0]]
/-- ColdShod$Journey.read(LColdShod$Shelf;I)V -/
noncomputable def zi_48 : List (List (Option zI)) := [[zE 3 1 0 0 0, zEn 1 0, zEw 21 3 4 1 0 819, none, none, zEn 1 0, zE 4 1 3 0 0, zE 1 1 3 0 0, zE 3 1 0 0 0, zEw 20 3 4 0 1 818, none, none, zE 28 1 0 0 0, zE 16 3 70 3 0, none, none],
  [zE 1 1 3 0 0, zE 3 1 1 0 0, zEw 20 3 8 3 0 820, none, none, zE 16 3 70 3 0, none, none, zE 3 1 1 0 0, zEw 20 3 8 4 1 821, none, none, zE 1 1 3 0 0, zE 23 1 0 0 0, zE 5 2 4 0 0, none],
  [zE 2 2 4 0 0, none, some (0, 1, 0, 0, 0, .long 0, []), zE 14 1 0 0 0, zE 15 3 47 2 0, none, none, zE 2 2 4 0 0, none, zE 1 1 2 0 0, zE 10 1 0 0 0, zE 14 1 0 0 0, zE 15 3 48 2 0, none, none, zE 38 1 0 0 0],
  [zE 3 1 0 0 0, zEw 20 3 4 0 1 818, none, none, zE 1 1 3 0 0, zE 2 2 4 0 0, none, zE 11 1 0 0 0, zE 25 1 0 0 0, zE 3 1 0 0 0, zE 1 1 3 0 0, zEn 1 1, zE 7 1 0 0 0, zEw 21 3 4 1 0 819, none, none],
  [some (19, 3, 3, 0, 0, .int 1, []), none, none, zE 17 3 7 0 0, none, none, zE 38 1 0 0 0]]
/-- ColdShod$Journey.allGone(LColdShod$Idea;LColdShod$Country;)Z -/
noncomputable def zi_49 : List (List (Option zI)) := [[zE 3 1 0 0 0, zEn 1 0, zEw 21 3 4 2 0 822, none, none, zE 3 1 0 0 0, zEn 1 0, zEw 21 3 4 3 0 823, none, none, zEn 1 0, zE 4 1 3 0 0, zE 1 1 3 0 0, zE 3 1 0 0 0, zEw 20 3 4 1 0 819, none],
  [none, zE 16 3 38 3 0, none, none, zE 3 1 0 0 0, zE 1 1 3 0 0, zE 3 1 1 0 0, zE 3 1 2 0 0, zEw 32 3 50 4 16 824, none, none, zE 15 3 32 1 0, none, none, zEn 1 0, zE 35 1 0 0 1],
  [some (19, 3, 3, 0, 0, .int 1, []), none, none, zE 17 3 12 0 0, none, none, zEn 1 1, zE 35 1 0 0 1]]
/-- ColdShod$Journey.goesStage(ILColdShod$Idea;LColdShod$Country;)Z -/
noncomputable def zi_50 : List (List (Option zI)) := [[zE 3 1 3 0 0, zEw 20 3 2 3 1 825, none, none, zE 3 1 0 0 0, zEw 20 3 4 0 1 818, none, none, zE 1 1 1 0 0, zE 22 1 0 0 0, zE 24 1 0 0 0, zE 6 2 4 0 0, none, zE 3 1 3 0 0, zE 3 1 2 0 0, zE 3 2 4 0 0],
  [none, zEw 32 3 24 3 8 826, none, none, zE 4 2 5 0 0, none, zE 3 1 0 0 0, zE 39 1 0 0 0, zEw 20 3 4 2 0 822, none, none, zE 1 2 5 0 0, none, zE 7 1 0 0 0, zEw 21 3 4 2 0 822, none],
  [none, zE 1 2 5 0 0, none, zE 3 2 4 0 0, none, zEw 20 3 7 2 0 827, none, none, zE 16 3 45 3 0, none, none, zEn 1 0, zE 35 1 0 0 1, zE 3 1 0 0 0, zE 39 1 0 0 0, zEw 20 3 4 3 0 823],
  [none, none, zEn 1 1, zE 7 1 0 0 0, zEw 21 3 4 3 0 823, none, none, zEn 1 1, zE 35 1 0 0 1]]
/-- ColdShod$Journey.firstWrong(LColdShod$Idea;LColdShod$Shelf;LColdShod$Country;)I -/
noncomputable def zi_51 : List (List (Option zI)) := [[zEn 1 0, zE 4 2 4 0 0, none, zE 1 2 4 0 0, none, zE 3 1 2 0 0, zEw 20 3 8 3 0 820, none, none, zE 16 3 76 3 0, none, none, zE 1 2 4 0 0, none, zE 15 3 39 0 0, none],
  [none, zE 1 2 4 0 0, none, zE 3 1 0 0 0, zEw 20 3 4 1 0 819, none, none, zE 16 3 43 4 0, none, none, zE 3 1 0 0 0, zE 1 2 4 0 0, none, zEn 1 1, zE 7 1 0 1 0, zE 3 1 1 0 0],
  [zE 3 1 3 0 0, zEw 32 3 50 4 16 824, none, none, zE 15 3 43 0 0, none, none, zEn 1 1, zE 17 3 44 0 0, none, none, zEn 1 0, zE 4 2 5 0 0, none, zE 1 2 5 0 0, none],
  [zE 15 3 67 0 0, none, none, zE 3 1 2 0 0, zEw 20 3 8 4 1 821, none, none, zE 1 2 4 0 0, none, zE 23 1 0 0 0, zE 3 1 1 0 0, zEw 20 3 3 2 0 828, none, none, zE 10 1 0 0 0, zE 14 1 0 0 0],
  [zE 15 3 70 0 0, none, none, zE 1 2 4 0 0, none, zE 35 1 0 0 0, some (19, 3, 4, 0, 0, .int 1, []), none, none, zE 17 3 3 0 0, none, none, some (0, 2, 0, 0, 0, .int (-2), []), none, zE 35 1 0 0 0]]
/-- ColdShod$LawCode.<init>()V -/
noncomputable def zi_52 : List (List (Option zI)) := [[zE 3 1 0 0 0, zEw 33 3 0 0 0 829, none, none, zE 3 1 0 0 0, zEn 3 242, none, none, zEw 30 2 0 0 0 704, none, zEw 21 3 5 1 1 830, none, none, zE 3 1 0 0 0, zEn 2 64, none],
  [zEw 30 2 0 0 0 704, none, zEw 21 3 5 3 1 831, none, none, zE 38 1 0 0 0]]
/-- ColdShod$LawCode.clear()V -/
noncomputable def zi_53 : List (List (Option zI)) := [[zE 3 1 0 0 0, zEn 1 0, zEw 21 3 5 2 0 832, none, none, zE 3 1 0 0 0, zEn 1 0, zEw 21 3 5 0 2 833, none, none, zE 38 1 0 0 0]]
/-- ColdShod$LawCode.add(I)V -/
noncomputable def zi_54 : List (List (Option zI)) := [[zE 3 1 0 0 0, zEw 20 3 5 2 0 832, none, none, zEn 3 242, none, none, zE 16 3 11 2 0, none, none, zE 38 1 0 0 0, zE 3 1 0 0 0, zEw 20 3 5 1 1 830, none, none, zE 3 1 0 0 0],
  [zEw 20 3 5 2 0 832, none, none, zE 1 1 1 0 0, zE 25 1 0 0 0, zE 3 1 0 0 0, zE 39 1 0 0 0, zEw 20 3 5 2 0 832, none, none, zEn 1 1, zE 7 1 0 0 0, zEw 21 3 5 2 0 832, none, none, zE 38 1 0 0 0]]
/-- ColdShod$LawCode.addName(I)V -/
noncomputable def zi_55 : List (List (Option zI)) := [[zE 3 1 0 0 0, zEn 2 109, none, zEw 32 3 54 2 20 834, none, none, zE 3 1 0 0 0, zE 1 1 1 0 0, zEw 32 3 54 2 20 834, none, none, zE 1 1 1 0 0, zEn 1 1, zE 16 3 21 1 0, none, none],
  [zE 3 1 0 0 0, zEn 1 1, zEw 21 3 5 0 2 833, none, none, zE 38 1 0 0 0]]
/-- ColdShod$LawCode.addSkip()I -/
noncomputable def zi_56 : List (List (Option zI)) := [[zE 3 1 0 0 0, zEn 2 63, none, zEw 32 3 54 2 20 834, none, none, zE 3 1 0 0 0, zEn 1 0, zEw 32 3 54 2 20 834, none, none, zE 3 1 0 0 0, zEw 20 3 5 2 0 832, none, none, zEn 1 1],
  [zE 7 1 0 1 0, zE 35 1 0 0 0]]
/-- ColdShod$LawCode.endSkip(I)V -/
noncomputable def zi_57 : List (List (Option zI)) := [[zE 1 1 1 0 0, zE 15 3 21 2 0, none, none, zE 1 1 1 0 0, zEn 3 242, none, none, zE 16 3 21 3 0, none, none, zE 3 1 0 0 0, zEw 20 3 5 1 1 830, none, none, zE 1 1 1 0 0],
  [zE 3 1 0 0 0, zEw 20 3 5 2 0 832, none, none, zE 25 1 0 0 0, zE 38 1 0 0 0]]
/-- ColdShod$LawCode.worth([I)I -/
noncomputable def zi_58 : List (List (Option zI)) := [[zE 3 1 0 0 0, zEw 20 3 5 2 0 832, none, none, zE 15 3 25 1 0, none, none, zEn 1 1, zE 3 1 1 0 0, zEn 1 5, zE 22 1 0 0 0, zE 7 1 0 0 0, zE 3 1 1 0 0, zEn 1 3, zE 22 1 0 0 0, zEn 1 3],
  [zE 8 1 0 0 0, zE 7 1 0 0 0, zE 3 1 1 0 0, zEn 1 0, zE 22 1 0 0 0, zEn 1 2, zE 8 1 0 0 0, zE 7 1 0 1 0, zE 35 1 0 0 0, zEn 1 0, zE 4 1 2 0 0, zEn 1 0, zE 4 1 3 0 0, zEn 1 0, zE 4 2 4 0 0, none],
  [zE 1 2 4 0 0, none, zEn 3 242, none, none, zE 16 3 313 3 0, none, none, zE 1 1 3 0 0, zE 3 1 0 0 0, zEw 20 3 5 2 0 832, none, none, zE 16 3 313 3 0, none, none],
  [zE 3 1 0 0 0, zEw 20 3 5 1 1 830, none, none, zE 1 1 3 0 0, zE 22 1 0 0 0, zE 4 2 5 0 0, none, zE 1 1 3 0 0, zEn 1 1, zE 7 1 0 0 0, zE 3 1 0 0 0, zEw 20 3 5 2 0 832, none, none, zE 16 3 77 3 0],
  [none, none, zE 3 1 0 0 0, zEw 20 3 5 1 1 830, none, none, zE 1 1 3 0 0, zEn 1 1, zE 7 1 0 0 0, zE 22 1 0 0 0, zE 17 3 78 0 0, none, none, zEn 1 0, zE 4 2 6 0 0, none],
  [some (19, 3, 3, 0, 0, .int 1, []), none, none, zE 1 2 5 0 0, none, zEn 2 48, none, zE 16 3 97 0 0, none, none, zE 1 2 5 0 0, none, zEn 2 109, none, zE 16 3 151 1 0, none],
  [none, zE 1 1 2 0 0, zEn 2 64, none, zE 16 3 118 3 0, none, none, zE 1 2 5 0 0, none, zEn 2 109, none, zE 16 3 120 1 0, none, none, zE 1 2 6 0 0, none],
  [zEw 32 3 59 1 21 835, none, none, zE 15 3 120 1 0, none, none, zEn 1 0, zE 35 1 0 0 0, zE 3 1 0 0 0, zEw 20 3 5 3 1 831, none, none, zE 1 1 2 0 0, zE 1 2 5 0 0, none, zEn 2 48],
  [none, zE 16 3 137 1 0, none, none, zE 1 2 6 0 0, none, zE 17 3 141 0 0, none, none, zE 3 1 1 0 0, zE 1 2 6 0 0, none, zE 22 1 0 0 0, zE 25 1 0 0 0, some (19, 3, 2, 0, 0, .int 1, []), none],
  [none, some (19, 3, 3, 0, 0, .int 1, []), none, none, zE 17 3 307 0 0, none, none, zE 1 1 2 0 0, zEn 1 1, zE 16 3 158 3 0, none, none, zEn 1 0, zE 35 1 0 0 0, zE 3 1 0 0 0, zEw 20 3 5 3 1 831],
  [none, none, zE 1 1 2 0 0, zEn 1 1, zE 7 1 0 1 0, zE 22 1 0 0 0, zE 4 2 7 0 0, none, zE 1 2 5 0 0, none, some (18, 42, 274, 0, 1, .null, [(33, 212), (59, 271), (63, 247), (126, 233)]), none, none, none, none, none],
  [none, none, none, none, none, none, none, none, none, none, none, none, none, none, none, none],
  [none, none, none, none, none, none, none, none, none, none, none, none, none, none, none, none],
  [none, none, none, none, zE 3 1 0 0 0, zEw 20 3 5 3 1 831, none, none, zE 1 1 2 0 0, zEn 1 1, zE 7 1 0 1 0, zE 1 2 7 0 0, none, zE 15 3 228 1 0, none, none],
  [zEn 1 1, zE 17 3 229 0 0, none, none, zEn 1 0, zE 25 1 0 0 0, zE 17 3 307 0 0, none, none, zE 3 1 0 0 0, zEw 20 3 5 3 1 831, none, none, zE 1 1 2 0 0, zEn 1 1, zE 7 1 0 1 0],
  [zE 1 2 7 0 0, none, zE 9 1 0 0 0, zE 25 1 0 0 0, zE 17 3 307 0 0, none, none, some (19, 3, 2, 0, 0, .int (-1), []), none, none, zE 1 2 7 0 0, none, zE 15 3 264 1 0, none, none, zE 1 1 3 0 0],
  [zE 1 2 6 0 0, none, some (31, 3, 0, 0, 0, .null, [(0, 836), (0, 783), (0, 784), (0, 777)]), none, none, zE 17 3 267 0 0, none, none, zE 1 1 3 0 0, zEn 1 1, zE 7 1 0 0 0, zE 4 1 3 0 0, zE 17 3 307 0 0, none, none, zE 1 2 7 0 0],
  [none, zE 35 1 0 0 0, zE 1 1 2 0 0, zEn 1 2, zE 16 3 281 3 0, none, none, zEn 1 0, zE 35 1 0 0 0, some (19, 3, 2, 0, 0, .int (-1), []), none, none, zE 3 1 0 0 0, zEw 20 3 5 3 1 831, none, none],
  [zE 1 1 2 0 0, zEn 1 1, zE 7 1 0 1 0, zE 3 1 0 0 0, zEw 20 3 5 3 1 831, none, none, zE 1 1 2 0 0, zEn 1 1, zE 7 1 0 1 0, zE 22 1 0 0 0, zE 1 2 5 0 0, none, zE 1 2 7 0 0, none, zEw 32 3 60 3 21 837],
  [none, none, zE 25 1 0 0 0, some (19, 3, 4, 0, 0, .int 1, []), none, none, zE 17 3 32 0 0, none, none, zEn 1 0, zE 35 1 0 0 0]]
/-- ColdShod$LawCode.isName(I)Z -/
noncomputable def zi_59 : List (List (Option zI)) := [[zE 1 1 0 0 0, zE 15 3 14 2 0, none, none, zE 1 1 0 0 0, zEn 2 6, none, zE 16 3 14 3 0, none, none, zEn 1 1, zE 17 3 15 0 0, none, none, zEn 1 0, zE 35 1 0 0 1]]
/-- ColdShod$LawCode.joined(III)I -/
noncomputable def zi_60 : List (List (Option zI)) := [[zE 1 1 1 0 0, some (18, 91, 189, 0, 1, .null, [(37, 177), (38, 106), (42, 161), (43, 153), (45, 157), (47, 165), (60, 120), (61, 131), (62, 142), (124, 92)]), none, none, none, none, none, none, none, none, none, none, none, none, none, none],
  [none, none, none, none, none, none, none, none, none, none, none, none, none, none, none, none],
  [none, none, none, none, none, none, none, none, none, none, none, none, none, none, none, none],
  [none, none, none, none, none, none, none, none, none, none, none, none, none, none, none, none],
  [none, none, none, none, none, none, none, none, none, none, none, none, none, none, none, none],
  [none, none, none, none, none, none, none, none, none, none, none, none, zE 1 1 0 0 0, zE 15 3 100 1 0, none, none],
  [zE 1 1 2 0 0, zE 15 3 104 0 0, none, none, zEn 1 1, zE 17 3 105 0 0, none, none, zEn 1 0, zE 35 1 0 0 0, zE 1 1 0 0 0, zE 15 3 118 0 0, none, none, zE 1 1 2 0 0, zE 15 3 118 0 0],
  [none, none, zEn 1 1, zE 17 3 119 0 0, none, none, zEn 1 0, zE 35 1 0 0 0, zE 1 1 0 0 0, zE 1 1 2 0 0, zE 16 3 129 3 0, none, none, zEn 1 1, zE 17 3 130 0 0, none],
  [none, zEn 1 0, zE 35 1 0 0 0, zE 1 1 0 0 0, zE 1 1 2 0 0, zE 16 3 140 1 0, none, none, zEn 1 1, zE 17 3 141 0 0, none, none, zEn 1 0, zE 35 1 0 0 0, zE 1 1 0 0 0, zE 1 1 2 0 0],
  [zE 16 3 151 5 0, none, none, zEn 1 1, zE 17 3 152 0 0, none, none, zEn 1 0, zE 35 1 0 0 0, zE 1 1 0 0 0, zE 1 1 2 0 0, zE 7 1 0 0 0, zE 35 1 0 0 0, zE 1 1 0 0 0, zE 1 1 2 0 0, zE 7 1 0 1 0],
  [zE 35 1 0 0 0, zE 1 1 0 0 0, zE 1 1 2 0 0, zE 7 1 0 2 0, zE 35 1 0 0 0, zE 1 1 2 0 0, zE 15 3 173 1 0, none, none, zEn 1 0, zE 17 3 176 0 0, none, none, zE 1 1 0 0 0, zE 1 1 2 0 0, zE 8 1 0 0 0],
  [zE 35 1 0 0 0, zE 1 1 2 0 0, zE 15 3 185 1 0, none, none, zEn 1 0, zE 17 3 188 0 0, none, none, zE 1 1 0 0 0, zE 1 1 2 0 0, zE 8 1 0 1 0, zE 35 1 0 0 0, zEn 1 0, zE 35 1 0 0 0]]
/-- ColdShod$LawText.<init>()V -/
noncomputable def zi_61 : List (List (Option zI)) := [[zE 3 1 0 0 0, zEw 33 3 0 0 0 838, none, none, zE 3 1 0 0 0, zEn 2 120, none, zEw 30 2 0 0 0 704, none, zEw 21 3 6 0 1 839, none, none, zE 38 1 0 0 0]]
/-- ColdShod$LawText.take(I)Z -/
noncomputable def zi_62 : List (List (Option zI)) := [[zE 3 1 0 0 0, zEw 20 3 6 1 0 840, none, none, zEn 2 120, none, zE 16 3 11 2 0, none, none, zEn 1 0, zE 35 1 0 0 1, zE 3 1 0 0 0, zEw 20 3 6 0 1 839, none, none, zE 3 1 0 0 0],
  [zEw 20 3 6 1 0 840, none, none, zE 1 1 1 0 0, zE 25 1 0 0 0, zE 3 1 0 0 0, zE 39 1 0 0 0, zEw 20 3 6 1 0 840, none, none, zEn 1 1, zE 7 1 0 0 0, zEw 21 3 6 1 0 840, none, none, zEn 1 1],
  [zE 35 1 0 0 1]]
/-- ColdShod$LawText.readInto(LColdShod$LawCode;)I -/
noncomputable def zi_63 : List (List (Option zI)) := [[zE 3 1 1 0 0, zEw 32 3 53 1 20 841, none, none, zE 3 1 0 0 0, zEn 1 0, zEw 21 3 6 2 0 842, none, none, zEn 1 0, zE 4 1 2 0 0, zE 1 1 2 0 0, zEn 2 120, none, zE 16 3 63 4 0, none],
  [none, zE 3 1 0 0 0, zE 3 1 1 0 0, zEw 32 3 64 2 24 843, none, none, zE 15 3 30 1 0, none, none, zE 3 1 0 0 0, zEw 20 3 6 2 0 842, none, none, zE 35 1 0 0 0, zE 3 1 0 0 0, zEw 20 3 6 2 0 842],
  [none, none, zE 3 1 0 0 0, zEw 20 3 6 1 0 840, none, none, zE 16 3 43 2 0, none, none, some (0, 1, 0, 0, 0, .int (-1), []), zE 35 1 0 0 0, zE 3 1 0 0 0, zEn 2 59, none, zEw 32 3 69 2 24 844, none],
  [none, zE 15 3 57 1 0, none, none, zE 3 1 0 0 0, zEw 20 3 6 2 0 842, none, none, zE 35 1 0 0 0, some (19, 3, 2, 0, 0, .int 1, []), none, none, zE 17 3 11 0 0, none, none, zE 3 1 0 0 0],
  [zEw 20 3 6 2 0 842, none, none, zE 35 1 0 0 0]]
/-- ColdShod$LawText.readLine(LColdShod$LawCode;)Z -/
noncomputable def zi_64 : List (List (Option zI)) := [[zE 3 1 0 0 0, zE 3 1 1 0 0, zEn 1 0, zEn 1 0, zEw 32 3 65 4 24 845, none, none, zE 15 3 12 1 0, none, none, zEn 1 0, zE 35 1 0 0 1, zE 3 1 0 0 0, zEn 2 63, none, zEw 32 3 69 2 24 844],
  [none, none, zE 15 3 29 1 0, none, none, zE 3 1 1 0 0, zEn 2 59, none, zEw 32 3 54 2 20 846, none, none, zEn 1 1, zE 35 1 0 0 1, zE 3 1 1 0 0, zEw 32 3 56 1 20 847, none],
  [none, zE 4 1 2 0 0, zE 3 1 0 0 0, zE 3 1 1 0 0, zEn 1 0, zEn 1 0, zEw 32 3 65 4 24 845, none, none, zE 15 3 46 1 0, none, none, zEn 1 0, zE 35 1 0 0 1, zE 3 1 1 0 0, zEn 2 59],
  [none, zEw 32 3 54 2 20 846, none, none, zE 3 1 1 0 0, zE 1 1 2 0 0, zEw 32 3 57 2 20 848, none, none, zEn 1 1, zE 35 1 0 0 1]]
/-- ColdShod$LawText.readLevel(LColdShod$LawCode;II)Z -/
noncomputable def zi_65 : List (List (Option zI)) := [[zE 1 1 2 0 0, zEn 1 5, zE 16 3 12 2 0, none, none, zE 3 1 0 0 0, zE 3 1 1 0 0, zE 1 1 3 0 0, zEw 32 3 66 3 24 849, none, none, zE 35 1 0 0 1, zE 3 1 0 0 0, zE 3 1 1 0 0, zE 1 1 2 0 0, zEn 1 1],
  [zE 7 1 0 0 0, zE 1 1 3 0 0, zEw 32 3 65 4 24 845, none, none, zE 15 3 26 1 0, none, none, zEn 1 0, zE 35 1 0 0 1, zE 1 1 2 0 0, zEn 1 2, zE 16 3 35 1 0, none, none, zEn 1 1],
  [zE 17 3 37 0 0, none, none, zEn 2 120, none, zE 4 2 4 0 0, none, zEn 1 0, zE 4 2 5 0 0, none, zE 1 2 5 0 0, none, zE 1 2 4 0 0, none, zE 16 3 102 3 0, none],
  [none, zE 3 1 0 0 0, zEw 32 3 68 1 24 850, none, none, zE 4 2 6 0 0, none, zE 1 2 6 0 0, none, zEw 32 3 72 1 25 851, none, none, zE 1 1 2 0 0, zE 16 3 66 0 0, none, none],
  [zEn 1 1, zE 35 1 0 0 1, zE 3 1 0 0 0, zE 39 1 0 0 0, zEw 20 3 6 2 0 842, none, none, zEn 1 1, zE 7 1 0 0 0, zEw 21 3 6 2 0 842, none, none, zE 3 1 0 0 0, zE 3 1 1 0 0, zE 1 1 2 0 0, zEn 1 1],
  [zE 7 1 0 0 0, zE 1 1 3 0 0, zEw 32 3 65 4 24 845, none, none, zE 15 3 90 1 0, none, none, zEn 1 0, zE 35 1 0 0 1, zE 3 1 1 0 0, zE 1 2 6 0 0, none, zEw 32 3 54 2 20 846, none, none],
  [some (19, 3, 5, 0, 0, .int 1, []), none, none, zE 17 3 42 0 0, none, none, zEn 1 1, zE 35 1 0 0 1]]
/-- ColdShod$LawText.readOperand(LColdShod$LawCode;I)Z -/
noncomputable def zi_66 : List (List (Option zI)) := [[zE 3 1 0 0 0, zEw 32 3 68 1 24 850, none, none, zE 4 1 3 0 0, zE 1 1 3 0 0, zEw 32 3 70 1 25 852, none, none, zE 15 3 18 0 0, none, none, zE 3 1 0 0 0, zE 3 1 1 0 0, zEw 32 3 67 2 24 853, none],
  [none, zE 35 1 0 0 1, zE 1 1 3 0 0, zEw 32 3 71 1 25 854, none, none, zE 4 2 4 0 0, none, zE 1 2 4 0 0, none, zE 15 3 47 2 0, none, none, zE 3 1 1 0 0, zE 1 2 4 0 0, none],
  [zEw 32 3 55 2 20 855, none, none, zE 3 1 0 0 0, zE 39 1 0 0 0, zEw 20 3 6 2 0 842, none, none, zEn 1 1, zE 7 1 0 0 0, zEw 21 3 6 2 0 842, none, none, zEn 1 1, zE 35 1 0 0 1, zE 1 1 3 0 0],
  [zEn 2 40, none, zE 16 3 65 0 0, none, none, zE 1 1 3 0 0, zEn 2 33, none, zE 16 3 65 0 0, none, none, zE 1 1 3 0 0, zEn 2 45, none, zE 16 3 71 1 0, none],
  [none, zE 1 1 2 0 0, zEn 2 6, none, zE 16 3 73 2 0, none, none, zEn 1 0, zE 35 1 0 0 1, zE 3 1 0 0 0, zE 39 1 0 0 0, zEw 20 3 6 2 0 842, none, none, zEn 1 1, zE 7 1 0 0 0],
  [zEw 21 3 6 2 0 842, none, none, zE 1 1 3 0 0, zEn 2 40, none, zE 16 3 116 1 0, none, none, zE 3 1 0 0 0, zE 3 1 1 0 0, zEn 1 0, zE 1 1 2 0 0, zEn 1 1, zE 7 1 0 0 0, zEw 32 3 65 4 24 845],
  [none, none, zE 15 3 114 0 0, none, none, zE 3 1 0 0 0, zEn 2 41, none, zEw 32 3 69 2 24 844, none, none, zE 15 3 114 0 0, none, none, zEn 1 1, zE 17 3 115 0 0],
  [none, none, zEn 1 0, zE 35 1 0 0 1, zE 3 1 0 0 0, zE 3 1 1 0 0, zE 1 1 2 0 0, zEn 1 1, zE 7 1 0 0 0, zEw 32 3 66 3 24 849, none, none, zE 15 3 129 1 0, none, none, zEn 1 0],
  [zE 35 1 0 0 1, zE 3 1 1 0 0, zE 1 1 3 0 0, zEn 2 33, none, zE 16 3 141 1 0, none, none, zEn 2 33, none, zE 17 3 143 0 0, none, none, zEn 2 126, none, zEw 32 3 54 2 20 846],
  [none, none, zEn 1 1, zE 35 1 0 0 1]]
/-- ColdShod$LawText.readNumber(LColdShod$LawCode;)Z -/
noncomputable def zi_67 : List (List (Option zI)) := [[zEn 1 0, zE 4 1 2 0 0, zEn 1 0, zE 4 1 3 0 0, zE 1 1 3 0 0, zEn 1 4, zE 16 3 48 3 0, none, none, zE 3 1 0 0 0, zEw 32 3 68 1 24 850, none, none, zEw 32 3 70 1 25 852, none, none],
  [zE 15 3 48 0 0, none, none, zE 1 1 2 0 0, zEn 2 10, none, zE 7 1 0 2 0, zE 3 1 0 0 0, zEw 32 3 68 1 24 850, none, none, zE 7 1 0 0 0, zEn 2 48, none, zE 7 1 0 1 0, zE 4 1 2 0 0],
  [zE 3 1 0 0 0, zE 39 1 0 0 0, zEw 20 3 6 2 0 842, none, none, zEn 1 1, zE 7 1 0 0 0, zEw 21 3 6 2 0 842, none, none, some (19, 3, 3, 0, 0, .int 1, []), none, none, zE 17 3 4 0 0, none, none],
  [zE 3 1 1 0 0, zEn 2 48, none, zEw 32 3 54 2 20 846, none, none, zE 3 1 1 0 0, zE 1 1 2 0 0, zEw 32 3 54 2 20 846, none, none, zEn 1 1, zE 35 1 0 0 1]]
/-- ColdShod$LawText.letter()I -/
noncomputable def zi_68 : List (List (Option zI)) := [[zE 3 1 0 0 0, zEw 20 3 6 2 0 842, none, none, zE 3 1 0 0 0, zEw 20 3 6 1 0 840, none, none, zE 16 3 23 3 0, none, none, zE 3 1 0 0 0, zEw 20 3 6 0 1 839, none, none, zE 3 1 0 0 0],
  [zEw 20 3 6 2 0 842, none, none, zE 22 1 0 0 0, zE 17 3 24 0 0, none, none, some (0, 1, 0, 0, 0, .int (-1), []), zE 35 1 0 0 0]]
/-- ColdShod$LawText.passes(I)Z -/
noncomputable def zi_69 : List (List (Option zI)) := [[zE 3 1 0 0 0, zEw 32 3 68 1 24 850, none, none, zE 1 1 1 0 0, zE 16 3 10 0 0, none, none, zEn 1 0, zE 35 1 0 0 1, zE 3 1 0 0 0, zE 39 1 0 0 0, zEw 20 3 6 2 0 842, none, none, zEn 1 1],
  [zE 7 1 0 0 0, zEw 21 3 6 2 0 842, none, none, zEn 1 1, zE 35 1 0 0 1]]
/-- ColdShod$LawText.isDigit(I)Z -/
noncomputable def zi_70 : List (List (Option zI)) := [[zE 1 1 0 0 0, zEn 2 48, none, zE 16 3 16 2 0, none, none, zE 1 1 0 0 0, zEn 2 57, none, zE 16 3 16 4 0, none, none, zEn 1 1, zE 17 3 17 0 0, none, none],
  [zEn 1 0, zE 35 1 0 0 1]]
/-- ColdShod$LawText.nameOf(I)I -/
noncomputable def zi_71 : List (List (Option zI)) := [[zE 1 1 0 0 0, some (18, 87, 100, 0, 0, .null, [(102, 94), (103, 100), (104, 92), (105, 100), (106, 100), (107, 98), (108, 100), (109, 88), (110, 100), (111, 100), (112, 100), (113, 100), (114, 100), (115, 96), (116, 100), (117, 100), (118, 100), (119, 90)]), none, none, none, none, none, none, none, none, none, none, none, none, none, none],
  [none, none, none, none, none, none, none, none, none, none, none, none, none, none, none, none],
  [none, none, none, none, none, none, none, none, none, none, none, none, none, none, none, none],
  [none, none, none, none, none, none, none, none, none, none, none, none, none, none, none, none],
  [none, none, none, none, none, none, none, none, none, none, none, none, none, none, none, none],
  [none, none, none, none, none, none, none, none, zEn 1 0, zE 35 1 0 0 0, zEn 1 1, zE 35 1 0 0 0, zEn 1 2, zE 35 1 0 0 0, zEn 1 3, zE 35 1 0 0 0],
  [zEn 1 4, zE 35 1 0 0 0, zEn 1 5, zE 35 1 0 0 0, some (0, 1, 0, 0, 0, .int (-1), []), zE 35 1 0 0 0]]
/-- ColdShod$LawText.levelOf(I)I -/
noncomputable def zi_72 : List (List (Option zI)) := [[zE 1 1 0 0 0, some (18, 91, 102, 0, 1, .null, [(37, 100), (38, 94), (42, 100), (43, 98), (45, 98), (47, 100), (60, 96), (61, 96), (62, 96), (124, 92)]), none, none, none, none, none, none, none, none, none, none, none, none, none, none],
  [none, none, none, none, none, none, none, none, none, none, none, none, none, none, none, none],
  [none, none, none, none, none, none, none, none, none, none, none, none, none, none, none, none],
  [none, none, none, none, none, none, none, none, none, none, none, none, none, none, none, none],
  [none, none, none, none, none, none, none, none, none, none, none, none, none, none, none, none],
  [none, none, none, none, none, none, none, none, none, none, none, none, zEn 1 0, zE 35 1 0 0 0, zEn 1 1, zE 35 1 0 0 0],
  [zEn 1 2, zE 35 1 0 0 0, zEn 1 3, zE 35 1 0 0 0, zEn 1 4, zE 35 1 0 0 0, some (0, 1, 0, 0, 0, .int (-1), []), zE 35 1 0 0 0]]
/-- ColdShod$Road.<init>()V -/
noncomputable def zi_73 : List (List (Option zI)) := [[zE 3 1 0 0 0, zEw 33 3 0 0 0 856, none, none, zE 38 1 0 0 0]]
/-- ColdShod$Road.farEnd(I)I -/
noncomputable def zi_74 : List (List (Option zI)) := [[zE 1 1 1 0 0, zE 3 1 0 0 0, zEw 20 3 7 0 0 857, none, none, zE 16 3 13 1 0, none, none, zE 3 1 0 0 0, zEw 20 3 7 1 0 858, none, none, zE 35 1 0 0 0, zE 1 1 1 0 0, zE 3 1 0 0 0, zEw 20 3 7 1 0 858],
  [none, none, zE 16 3 28 1 0, none, none, zE 3 1 0 0 0, zEw 20 3 7 0 0 857, none, none, zE 17 3 29 0 0, none, none, some (0, 1, 0, 0, 0, .int (-1), []), zE 35 1 0 0 0]]
/-- ColdShod$Shelf.<init>()V -/
noncomputable def zi_75 : List (List (Option zI)) := [[zE 3 1 0 0 0, zEw 33 3 0 0 0 859, none, none, zE 3 1 0 0 0, zEn 1 0, zEw 21 3 8 0 0 860, none, none, zE 3 1 0 0 0, zEn 2 60, none, zEw 30 2 1 0 0 705, none, zEw 21 3 8 4 1 861, none],
  [none, zE 38 1 0 0 0]]
/-- ColdShod$Shelf.holdSmith(I)V -/
noncomputable def zi_76 : List (List (Option zI)) := [[zE 3 1 0 0 0, zEn 1 1, zEw 21 3 8 0 0 860, none, none, zE 3 1 0 0 0, zE 1 1 1 0 0, zEw 21 3 8 1 0 862, none, none, zE 38 1 0 0 0]]
/-- ColdShod$Shelf.holdRow(II)V -/
noncomputable def zi_77 : List (List (Option zI)) := [[zE 3 1 0 0 0, zEn 1 2, zEw 21 3 8 0 0 860, none, none, zE 3 1 0 0 0, zE 1 1 1 0 0, zEw 21 3 8 2 0 863, none, none, zE 3 1 0 0 0, zE 1 1 2 0 0, zEw 21 3 8 3 0 864, none, none, zE 3 1 0 0 0],
  [zEw 20 3 8 4 1 861, none, none, some (0, 1, 0, 0, 0, .long 0, []), zEw 32 3 239 2 1 865, none, none, zE 38 1 0 0 0]]
/-- ColdShod$Shelf.isBytes()Z -/
noncomputable def zi_78 : List (List (Option zI)) := [[zE 3 1 0 0 0, zEw 20 3 8 0 0 860, none, none, zEn 1 2, zE 16 3 19 1 0, none, none, zE 3 1 0 0 0, zEw 20 3 8 2 0 863, none, none, zE 15 3 19 1 0, none, none, zEn 1 1],
  [zE 17 3 20 0 0, none, none, zEn 1 0, zE 35 1 0 0 1]]
/-- ColdShod$Shelf.hasRange(II)Z -/
noncomputable def zi_79 : List (List (Option zI)) := [[zE 1 1 1 0 0, zE 15 3 26 2 0, none, none, zE 1 1 1 0 0, zE 3 1 0 0 0, zEw 20 3 8 3 0 864, none, none, zE 16 3 26 4 0, none, none, zE 1 1 2 0 0, zE 3 1 0 0 0, zEw 20 3 8 3 0 864, none],
  [none, zE 1 1 1 0 0, zE 7 1 0 1 0, zE 16 3 26 4 0, none, none, zEn 1 1, zE 17 3 27 0 0, none, none, zEn 1 0, zE 35 1 0 0 1]]
/-- ColdShod$Shelf.cut(J)J -/
noncomputable def zi_80 : List (List (Option zI)) := [[zE 3 1 0 0 0, zEw 20 3 8 2 0 863, none, none, some (18, 36, 66, 0, 0, .null, [(0, 40), (1, 45), (2, 50), (3, 66), (4, 54)]), none, none, none, none, none, none, none, none, none, none, none],
  [none, none, none, none, none, none, none, none, none, none, none, none, none, none, none, none],
  [none, none, none, none, none, none, none, none, zE 2 1 1 0 0, zE 11 1 0 0 0, zE 9 1 0 1 0, zE 10 1 0 0 0, zE 36 1 0 0 0, zE 2 1 1 0 0, zE 11 1 0 0 0, zE 9 1 0 2 0],
  [zE 10 1 0 0 0, zE 36 1 0 0 0, zE 2 1 1 0 0, zE 11 1 0 0 0, zE 10 1 0 0 0, zE 36 1 0 0 0, zE 2 1 1 0 0, some (0, 1, 0, 0, 0, .long 0, []), zE 14 1 0 0 0, zE 15 3 64 0 0, none, none, some (0, 1, 0, 0, 0, .long 1, []), zE 17 3 65 0 0, none, none],
  [some (0, 1, 0, 0, 0, .long 0, []), zE 36 1 0 0 0, zE 2 1 1 0 0, zE 36 1 0 0 0]]
/-- ColdShod$StrokePlan.<init>()V -/
noncomputable def zi_81 : List (List (Option zI)) := [[zE 3 1 0 0 0, zEw 33 3 0 0 0 866, none, none, zE 3 1 0 0 0, zEn 1 4, zEw 30 2 0 0 0 704, none, zEw 21 3 9 0 1 867, none, none, zE 3 1 0 0 0, zEn 3 341, none, none, zEw 30 2 0 0 0 704],
  [none, zEw 21 3 9 1 1 868, none, none, zE 3 1 0 0 0, zEn 3 341, none, none, zEw 30 2 0 0 0 704, none, zEw 21 3 9 2 1 869, none, none, zE 3 1 0 0 0, zEn 3 341, none],
  [none, zEw 30 2 0 0 0 704, none, zEw 21 3 9 3 1 870, none, none, zE 3 1 0 0 0, zEn 3 341, none, none, zEw 30 2 0 0 0 704, none, zEw 21 3 9 4 1 871, none, none, zE 3 1 0 0 0],
  [some (29, 3, 3, 7, 0, .null, [(0, 872), (0, 709), (0, 102)]), none, none, zE 39 1 0 0 0, zEw 32 3 34 1 15 5, none, none, zEw 21 3 9 5 1 873, none, none, zE 38 1 0 0 0]]
/-- ColdShod$StrokePlan.fewestFor(LColdShod$Journey;LColdShod$Idea;LColdShod$Country;)I -/
noncomputable def zi_82 : List (List (Option zI)) := [[zE 3 1 0 0 0, zEw 20 3 9 1 1 868, none, none, zEn 1 0, zE 3 1 2 0 0, zEw 32 3 86 1 37 874, none, none, zE 25 1 0 0 0, zE 3 1 0 0 0, zEw 20 3 9 4 1 871, none, none, zEn 1 0, zEn 1 0],
  [zE 25 1 0 0 0, zE 3 1 0 0 0, zEn 1 1, zEw 21 3 9 6 0 875, none, none, zEn 1 0, zE 4 2 4 0 0, none, zE 1 2 4 0 0, none, zE 3 1 0 0 0, zEw 20 3 9 6 0 875, none, none, zE 16 3 97 3 0],
  [none, none, zE 1 2 4 0 0, none, zEn 3 341, none, none, zE 16 3 97 3 0, none, none, zE 3 1 0 0 0, zE 3 1 2 0 0, zE 3 1 0 0 0, zEw 20 3 9 1 1 868, none, none],
  [zE 1 2 4 0 0, none, zE 22 1 0 0 0, zEw 32 3 87 3 36 876, none, none, zE 3 1 1 0 0, zE 3 1 0 0 0, zEw 20 3 9 5 1 873, none, none, zE 3 1 3 0 0, zEw 32 3 49 3 16 877, none, none, zE 15 3 73 0 0],
  [none, none, zE 3 1 0 0 0, zE 1 2 4 0 0, none, zEw 32 3 85 2 36 878, none, none, zE 35 1 0 0 0, zE 3 1 0 0 0, zEw 20 3 9 4 1 871, none, none, zE 1 2 4 0 0, none, zE 22 1 0 0 0],
  [zEn 1 4, zE 16 3 91 3 0, none, none, zE 3 1 0 0 0, zE 3 1 2 0 0, zE 1 2 4 0 0, none, zEw 32 3 83 3 36 879, none, none, some (19, 3, 4, 0, 0, .int 1, []), none, none, zE 17 3 25 0 0, none],
  [none, some (0, 2, 0, 0, 0, .int (-2), []), none, zE 35 1 0 0 0]]
/-- ColdShod$StrokePlan.addNext(LColdShod$Idea;I)V -/
noncomputable def zi_83 : List (List (Option zI)) := [[zEn 1 0, zE 4 1 3 0 0, zE 1 1 3 0 0, zEn 1 4, zE 16 3 127 3 0, none, none, zE 3 1 0 0 0, zE 3 1 1 0 0, zE 3 1 0 0 0, zEw 20 3 9 1 1 868, none, none, zE 1 1 2 0 0, zE 22 1 0 0 0, zEw 32 3 87 3 36 876],
  [none, none, zE 3 1 0 0 0, zEw 20 3 9 5 1 873, none, none, zE 1 1 3 0 0, zEw 32 3 43 2 12 880, none, none, zE 15 3 32 1 0, none, none, zE 17 3 121 0 0, none, none],
  [zE 3 1 0 0 0, zEw 20 3 9 5 1 873, none, none, zEw 32 3 86 1 37 874, none, none, zE 4 2 4 0 0, none, zE 3 1 0 0 0, zE 1 2 4 0 0, none, zEw 32 3 84 2 36 881, none, none, zE 15 3 121 1 0],
  [none, none, zE 3 1 0 0 0, zEw 20 3 9 6 0 875, none, none, zEn 3 341, none, none, zE 16 3 63 2 0, none, none, zE 17 3 121 0 0, none, none, zE 3 1 0 0 0],
  [zEw 20 3 9 1 1 868, none, none, zE 3 1 0 0 0, zEw 20 3 9 6 0 875, none, none, zE 1 2 4 0 0, none, zE 25 1 0 0 0, zE 3 1 0 0 0, zEw 20 3 9 2 1 869, none, none, zE 3 1 0 0 0, zEw 20 3 9 6 0 875],
  [none, none, zE 1 1 2 0 0, zE 25 1 0 0 0, zE 3 1 0 0 0, zEw 20 3 9 3 1 870, none, none, zE 3 1 0 0 0, zEw 20 3 9 6 0 875, none, none, zE 1 1 3 0 0, zE 25 1 0 0 0, zE 3 1 0 0 0, zEw 20 3 9 4 1 871],
  [none, none, zE 3 1 0 0 0, zEw 20 3 9 6 0 875, none, none, zE 3 1 0 0 0, zEw 20 3 9 4 1 871, none, none, zE 1 1 2 0 0, zE 22 1 0 0 0, zEn 1 1, zE 7 1 0 0 0, zE 25 1 0 0 0, zE 3 1 0 0 0],
  [zE 39 1 0 0 0, zEw 20 3 9 6 0 875, none, none, zEn 1 1, zE 7 1 0 0 0, zEw 21 3 9 6 0 875, none, none, some (19, 3, 3, 0, 0, .int 1, []), none, none, zE 17 3 2 0 0, none, none, zE 38 1 0 0 0]]
/-- ColdShod$StrokePlan.isFound(I)Z -/
noncomputable def zi_84 : List (List (Option zI)) := [[zEn 1 0, zE 4 1 2 0 0, zE 1 1 2 0 0, zE 3 1 0 0 0, zEw 20 3 9 6 0 875, none, none, zE 16 3 28 3 0, none, none, zE 3 1 0 0 0, zEw 20 3 9 1 1 868, none, none, zE 1 1 2 0 0, zE 22 1 0 0 0],
  [zE 1 1 1 0 0, zE 16 3 22 1 0, none, none, zEn 1 1, zE 35 1 0 0 1, some (19, 3, 2, 0, 0, .int 1, []), none, none, zE 17 3 2 0 0, none, none, zEn 1 0, zE 35 1 0 0 1]]
/-- ColdShod$StrokePlan.tellPlan(I)I -/
noncomputable def zi_85 : List (List (Option zI)) := [[zE 3 1 0 0 0, zEw 20 3 9 4 1 871, none, none, zE 1 1 1 0 0, zE 22 1 0 0 0, zE 4 1 2 0 0, zE 1 1 1 0 0, zE 4 1 3 0 0, zE 1 1 2 0 0, zEn 1 1, zE 7 1 0 1 0, zE 4 2 4 0 0, none, zE 1 2 4 0 0, none],
  [zE 15 3 45 2 0, none, none, zE 3 1 0 0 0, zEw 20 3 9 0 1 867, none, none, zE 1 2 4 0 0, none, zE 3 1 0 0 0, zEw 20 3 9 3 1 870, none, none, zE 1 1 3 0 0, zE 22 1 0 0 0, zE 25 1 0 0 0],
  [zE 3 1 0 0 0, zEw 20 3 9 2 1 869, none, none, zE 1 1 3 0 0, zE 22 1 0 0 0, zE 4 1 3 0 0, some (19, 3, 4, 0, 0, .int (-1), []), none, none, zE 17 3 14 0 0, none, none, zE 1 1 2 0 0, zE 35 1 0 0 0]]
/-- ColdShod$StrokePlan.stateOf(LColdShod$Idea;)I -/
noncomputable def zi_86 : List (List (Option zI)) := [[zE 3 1 0 0 0, zEw 20 3 3 1 0 882, none, none, zEn 2 100, none, zE 7 1 0 2 0, zE 3 1 0 0 0, zEw 20 3 3 2 0 883, none, none, zE 7 1 0 0 0, zEn 2 10, none, zE 7 1 0 2 0, zE 3 1 0 0 0],
  [zEw 20 3 3 3 0 884, none, none, zE 7 1 0 0 0, zEn 2 10, none, zE 7 1 0 2 0, zE 3 1 0 0 0, zEw 20 3 3 5 0 885, none, none, zE 7 1 0 0 0, zE 35 1 0 0 0]]
/-- ColdShod$StrokePlan.recall(LColdShod$Idea;I)V -/
noncomputable def zi_87 : List (List (Option zI)) := [[zE 3 1 0 0 0, zEw 20 3 9 5 1 873, none, none, zE 3 1 1 0 0, zEw 32 3 35 2 12 886, none, none, zE 3 1 0 0 0, zEw 20 3 9 5 1 873, none, none, zE 1 1 2 0 0, zEn 2 10, none, zE 8 1 0 1 0],
  [zEw 21 3 3 5 0 885, none, none, zE 3 1 0 0 0, zEw 20 3 9 5 1 873, none, none, zE 1 1 2 0 0, zEn 2 10, none, zE 8 1 0 0 0, zEn 2 10, none, zE 8 1 0 1 0, zEw 21 3 3 3 0 884, none],
  [none, zE 3 1 0 0 0, zEw 20 3 9 5 1 873, none, none, zE 1 1 2 0 0, zEn 2 100, none, zE 8 1 0 0 0, zEn 2 100, none, zE 8 1 0 1 0, zEw 21 3 3 2 0 883, none, none, zE 3 1 0 0 0],
  [zEw 20 3 9 5 1 873, none, none, zE 1 1 2 0 0, zEn 3 10000, none, none, zE 8 1 0 0 0, zEw 21 3 3 1 0 882, none, none, zE 38 1 0 0 0]]
/-- ColdShod$WayPlan.<init>()V -/
noncomputable def zi_88 : List (List (Option zI)) := [[zE 3 1 0 0 0, zEw 33 3 0 0 0 887, none, none, zE 3 1 0 0 0, zEn 2 8, none, zEw 30 2 0 0 0 704, none, zEw 21 3 10 0 1 888, none, none, zE 3 1 0 0 0, zEn 2 8, none, zEw 30 2 0 0 0 704],
  [none, zEw 21 3 10 3 1 889, none, none, zE 3 1 0 0 0, zEn 2 8, none, zEw 30 3 2 0 0 890, none, none, zEw 21 3 10 4 1 891, none, none, zEn 1 0, zE 4 1 1 0 0, zE 1 1 1 0 0],
  [zE 3 1 0 0 0, zEw 20 3 10 4 1 891, none, none, zE 28 1 0 0 0, zE 16 3 59 3 0, none, none, zE 3 1 0 0 0, zEw 20 3 10 4 1 891, none, none, zE 1 1 1 0 0, some (29, 3, 3, 7, 0, .null, [(0, 890), (0, 709), (0, 102)]), none, none],
  [zE 39 1 0 0 0, zEw 32 3 34 1 15 6, none, none, zE 27 1 0 0 0, some (19, 3, 1, 0, 0, .int 1, []), none, none, zE 17 3 31 0 0, none, none, zE 38 1 0 0 0]]
/-- ColdShod$WayPlan.seek(LColdShod$Country;LColdShod$Idea;II)V -/
noncomputable def zi_89 : List (List (Option zI)) := [[zE 3 1 0 0 0, some (0, 2, 0, 0, 0, .int (-2), []), none, zEw 21 3 10 1 0 892, none, none, zE 3 1 0 0 0, zEw 20 3 10 4 1 891, none, none, zEn 1 0, zE 24 1 0 0 0, zE 3 1 2 0 0, zEw 32 3 35 2 12 893, none, none],
  [zE 3 1 0 0 0, zE 3 1 1 0 0, zE 1 1 3 0 0, zE 1 2 4 0 0, none, zEn 1 1, zE 1 1 3 0 0, zE 7 1 0 6 0, zEn 1 0, zEw 32 3 90 6 40 894, none, none, zE 38 1 0 0 0]]
/-- ColdShod$WayPlan.follow(LColdShod$Country;IIII)V -/
noncomputable def zi_90 : List (List (Option zI)) := [[zE 1 1 2 0 0, zE 1 1 3 0 0, zE 16 3 11 1 0, none, none, zE 3 1 0 0 0, zE 1 2 5 0 0, none, zEw 32 3 91 2 40 895, none, none, zE 1 1 2 0 0, zE 1 1 3 0 0, zE 16 3 28 0 0, none, none],
  [zE 1 2 5 0 0, none, zEn 1 1, zE 7 1 0 0 0, zE 3 1 0 0 0, zEw 20 3 10 4 1 891, none, none, zE 28 1 0 0 0, zE 16 3 29 2 0, none, none, zE 38 1 0 0 0, zEn 1 0, zE 4 2 6 0 0, none],
  [zE 1 2 6 0 0, none, zE 3 1 1 0 0, zEw 20 3 2 8 0 896, none, none, zE 16 3 155 3 0, none, none, zE 3 1 1 0 0, zEw 20 3 2 3 1 897, none, none, zE 1 2 6 0 0, none, zE 24 1 0 0 0],
  [zE 6 2 7 0 0, none, zE 3 2 7 0 0, none, zE 1 1 2 0 0, zEw 32 3 74 2 28 898, none, none, zE 4 2 8 0 0, none, zE 1 2 8 0 0, none, zE 15 3 149 2 0, none, none, zE 1 2 4 0 0],
  [none, zE 1 2 8 0 0, none, zE 7 1 0 7 0, zEn 1 1, zE 7 1 0 3 0, zE 15 3 76 0 0, none, none, zE 17 3 149 0 0, none, none, zE 3 1 0 0 0, zEw 20 3 10 4 1 891, none, none],
  [zE 1 2 5 0 0, none, zEn 1 1, zE 7 1 0 0 0, zE 24 1 0 0 0, zE 3 1 0 0 0, zEw 20 3 10 4 1 891, none, none, zE 1 2 5 0 0, none, zE 24 1 0 0 0, zEw 32 3 35 2 12 893, none, none, zE 3 1 1 0 0],
  [zE 3 1 0 0 0, zEw 20 3 10 4 1 891, none, none, zE 1 2 5 0 0, none, zEn 1 1, zE 7 1 0 0 0, zE 24 1 0 0 0, zE 3 2 7 0 0, none, zEw 32 3 24 3 8 899, none, none, zE 3 2 7 0 0, none],
  [zEw 20 3 7 2 0 900, none, none, zE 16 3 121 3 0, none, none, zE 17 3 149 0 0, none, none, zE 3 1 0 0 0, zEw 20 3 10 3 1 889, none, none, zE 1 2 5 0 0, none, zE 1 2 6 0 0],
  [none, zE 25 1 0 0 0, zE 3 1 0 0 0, zE 3 1 1 0 0, zE 1 2 8 0 0, none, zE 1 1 3 0 0, zE 1 2 4 0 0, none, zEn 1 1, zE 1 2 8 0 0, none, zE 7 1 0 6 0, zE 7 1 0 4 0, zE 1 2 5 0 0, none],
  [zEn 1 1, zE 7 1 0 0 0, zEw 32 3 90 6 40 894, none, none, some (19, 3, 6, 0, 0, .int 1, []), none, none, zE 17 3 32 0 0, none, none, zE 38 1 0 0 0]]
/-- ColdShod$WayPlan.weigh(I)V -/
noncomputable def zi_91 : List (List (Option zI)) := [[zE 3 1 0 0 0, zEw 20 3 10 4 1 891, none, none, zE 1 1 1 0 0, zE 24 1 0 0 0, zEw 20 3 3 2 0 901, none, none, zE 4 1 2 0 0, zE 3 1 0 0 0, zEw 20 3 10 1 0 892, none, none, some (0, 2, 0, 0, 0, .int (-2), []), none],
  [zE 16 3 43 0 0, none, none, zE 1 1 2 0 0, zE 3 1 0 0 0, zEw 20 3 10 2 0 902, none, none, zE 16 3 43 2 0, none, none, zE 1 1 2 0 0, zE 3 1 0 0 0, zEw 20 3 10 2 0 902, none, none],
  [zE 16 3 47 1 0, none, none, zE 1 1 1 0 0, zE 3 1 0 0 0, zEw 20 3 10 1 0 892, none, none, zE 16 3 47 3 0, none, none, zEn 1 1, zE 17 3 48 0 0, none, none, zEn 1 0],
  [zE 4 1 3 0 0, zE 1 1 3 0 0, zE 15 3 54 1 0, none, none, zE 38 1 0 0 0, zE 3 1 0 0 0, zE 1 1 2 0 0, zEw 21 3 10 2 0 902, none, none, zE 3 1 0 0 0, zE 1 1 1 0 0, zEw 21 3 10 1 0 892, none, none],
  [zE 3 1 0 0 0, zEw 20 3 10 3 1 889, none, none, zEn 1 0, zE 3 1 0 0 0, zEw 20 3 10 0 1 888, none, none, zEn 1 0, zE 1 1 1 0 0, zEw 34 3 0 0 0 903, none, none, zE 38 1 0 0 0]]
/-- ColdShod.<init>()V -/
noncomputable def zi_92 : List (List (Option zI)) := [[zE 3 1 0 0 0, zEw 33 3 0 0 0 904, none, none, zE 3 1 0 0 0, some (29, 3, 2, 11, 0, .null, [(0, 905), (0, 708), (0, 39)]), none, none, zE 39 1 0 0 0, zEw 32 3 13 1 10 906, none, none, zEw 21 3 11 0 1 907, none, none, zE 3 1 0 0 0],
  [some (29, 3, 6, 3, 0, .null, [(0, 908), (0, 712), (0, 181)]), none, none, zE 39 1 0 0 0, zEw 32 3 61 1 27 7, none, none, zEw 21 3 11 1 1 909, none, none, zE 3 1 0 0 0, some (29, 3, 1, 6, 0, .null, [(0, 910), (0, 707), (0, 24)]), none, none, zE 39 1 0 0 0, zEw 32 3 8 1 7 8],
  [none, none, zEw 21 3 11 2 1 911, none, none, zE 3 1 0 0 0, some (29, 3, 0, 6, 0, .null, [(0, 912), (0, 706), (0, 1)]), none, none, zE 39 1 0 0 0, zEw 32 3 0 1 3 9, none, none, zEw 21 3 11 3 1 913, none, none],
  [zE 3 1 0 0 0, some (29, 3, 4, 4, 0, .null, [(0, 914), (0, 710), (0, 141)]), none, none, zE 39 1 0 0 0, zEw 32 3 47 1 19 10, none, none, zEw 21 3 11 4 1 915, none, none, zE 3 1 0 0 0, some (29, 3, 9, 7, 0, .null, [(0, 916), (0, 715), (0, 238)]), none, none, zE 39 1 0 0 0],
  [zEw 32 3 81 1 39 11, none, none, zEw 21 3 11 5 1 917, none, none, zE 3 1 0 0 0, some (29, 3, 10, 5, 0, .null, [(0, 918), (0, 716), (0, 258)]), none, none, zE 39 1 0 0 0, zEw 32 3 88 1 42 919, none, none, zEw 21 3 11 6 1 920, none],
  [none, zE 3 1 0 0 0, zEn 2 6, none, zEw 30 3 4 0 0 921, none, none, zEw 21 3 11 7 1 922, none, none, zE 3 1 0 0 0, zEn 2 6, none, zEw 30 3 2 0 0 923, none, none],
  [zEw 21 3 11 8 1 924, none, none, zE 3 1 0 0 0, zEn 1 5, zEw 30 2 0 0 0 704, none, zEw 21 3 11 9 1 925, none, none, zE 3 1 0 0 0, zEn 2 8, none, zEw 30 3 2 0 0 923, none, none],
  [zEw 21 3 11 10 1 926, none, none, zE 3 1 0 0 0, zEn 1 5, zEw 30 2 0 0 0 704, none, zEw 21 3 11 11 1 927, none, none, zE 3 1 0 0 0, some (0, 1, 0, 0, 0, .int (-1), []), zEw 21 3 11 12 0 928, none, none, zE 3 1 0 0 0],
  [zEn 1 4, zEw 21 3 11 13 0 929, none, none, zEn 1 0, zE 4 1 1 0 0, zE 1 1 1 0 0, zE 3 1 0 0 0, zEw 20 3 11 7 1 922, none, none, zE 28 1 0 0 0, zE 16 3 162 3 0, none, none, zE 3 1 0 0 0],
  [zEw 20 3 11 7 1 922, none, none, zE 1 1 1 0 0, some (29, 3, 8, 5, 0, .null, [(0, 921), (0, 714), (0, 220)]), none, none, zE 39 1 0 0 0, zEw 32 3 75 1 35 12, none, none, zE 27 1 0 0 0, some (19, 3, 1, 0, 0, .int 1, []), none, none, zE 17 3 134 0 0],
  [none, none, zEn 1 0, zE 4 1 1 0 0, zE 1 1 1 0 0, zE 3 1 0 0 0, zEw 20 3 11 8 1 924, none, none, zE 28 1 0 0 0, zE 16 3 192 3 0, none, none, zE 3 1 0 0 0, zEw 20 3 11 8 1 924, none],
  [none, zE 1 1 1 0 0, some (29, 3, 3, 7, 0, .null, [(0, 923), (0, 709), (0, 102)]), none, none, zE 39 1 0 0 0, zEw 32 3 34 1 15 13, none, none, zE 27 1 0 0 0, some (19, 3, 1, 0, 0, .int 1, []), none, none, zE 17 3 164 0 0, none, none],
  [zEn 1 0, zE 4 1 1 0 0, zE 1 1 1 0 0, zE 3 1 0 0 0, zEw 20 3 11 10 1 926, none, none, zE 28 1 0 0 0, zE 16 3 222 3 0, none, none, zE 3 1 0 0 0, zEw 20 3 11 10 1 926, none, none, zE 1 1 1 0 0],
  [some (29, 3, 3, 7, 0, .null, [(0, 923), (0, 709), (0, 102)]), none, none, zE 39 1 0 0 0, zEw 32 3 34 1 15 13, none, none, zE 27 1 0 0 0, some (19, 3, 1, 0, 0, .int 1, []), none, none, zE 17 3 194 0 0, none, none, zE 38 1 0 0 0]]
/-- ColdShod.head(I)I -/
noncomputable def zi_93 : List (List (Option zI)) := [[zE 1 1 1 0 0, zE 15 3 9 2 0, none, none, zE 1 1 1 0 0, zEn 1 5, zE 16 3 11 5 0, none, none, some (0, 1, 0, 0, 0, .int (-1), []), zE 35 1 0 0 0, zE 3 1 0 0 0, zEw 20 3 11 0 1 907, none, none, zEw 20 3 2 6 0 930],
  [none, none, zEn 2 6, none, zE 16 3 26 2 0, none, none, some (0, 2, 0, 0, 0, .int (-3), []), none, zE 35 1 0 0 0, zE 3 1 0 0 0, zEw 20 3 11 0 1 907, none, none, zEw 20 3 2 0 1 931, none],
  [none, zE 3 1 0 0 0, zEw 20 3 11 0 1 907, none, none, zEw 20 3 2 6 0 930, none, none, zE 1 1 1 0 0, zE 25 1 0 0 0, zE 3 1 0 0 0, zEw 20 3 11 0 1 907, none, none, zEw 20 3 2 1 1 932, none],
  [none, zE 3 1 0 0 0, zEw 20 3 11 0 1 907, none, none, zEw 20 3 2 6 0 930, none, none, zEn 2 6, none, zE 25 1 0 0 0, zE 3 1 0 0 0, zEw 20 3 11 0 1 907, none, none, zE 39 1 0 0 0],
  [zEw 20 3 2 6 0 930, none, none, zE 40 1 0 0 0, zEn 1 1, zE 7 1 0 0 0, zEw 21 3 2 6 0 930, none, none, zE 35 1 0 0 0]]
/-- ColdShod.idea(II)I -/
noncomputable def zi_94 : List (List (Option zI)) := [[zE 1 1 1 0 0, zE 15 3 18 2 0, none, none, zE 1 1 1 0 0, zEn 1 3, zE 16 3 18 4 0, none, none, zE 1 1 2 0 0, zE 15 3 18 2 0, none, none, zE 1 1 2 0 0, zEn 1 5, zE 16 3 20 5 0],
  [none, none, some (0, 1, 0, 0, 0, .int (-1), []), zE 35 1 0 0 0, zE 3 1 0 0 0, zEw 20 3 11 0 1 907, none, none, zEw 20 3 2 7 0 933, none, none, zEn 2 8, none, zE 16 3 35 2 0, none, none],
  [some (0, 2, 0, 0, 0, .int (-3), []), none, zE 35 1 0 0 0, zE 3 1 0 0 0, zEw 20 3 11 0 1 907, none, none, zEw 20 3 2 2 1 934, none, none, zE 3 1 0 0 0, zEw 20 3 11 0 1 907, none, none, zEw 20 3 2 7 0 933, none],
  [none, zE 24 1 0 0 0, zE 6 1 3 0 0, zE 3 1 3 0 0, zE 1 1 1 0 0, zEw 21 3 3 0 0 935, none, none, zE 3 1 3 0 0, zE 1 1 2 0 0, zEw 21 3 3 1 0 936, none, none, zE 3 1 0 0 0, zEw 20 3 11 0 1 907, none],
  [none, zE 39 1 0 0 0, zEw 20 3 2 7 0 933, none, none, zE 40 1 0 0 0, zEn 1 1, zE 7 1 0 0 0, zEw 21 3 2 7 0 933, none, none, zE 35 1 0 0 0]]
/-- ColdShod.road(II)I -/
noncomputable def zi_95 : List (List (Option zI)) := [[zE 1 1 1 0 0, zEw 32 3 138 1 45 937, none, none, zE 15 3 18 0 0, none, none, zE 1 1 2 0 0, zEn 1 1, zE 16 3 18 2 0, none, none, zE 1 1 2 0 0, zEn 2 9, none, zE 16 3 20 5 0],
  [none, none, some (0, 1, 0, 0, 0, .int (-1), []), zE 35 1 0 0 0, zE 3 1 0 0 0, zEw 20 3 11 0 1 907, none, none, zE 1 1 1 0 0, zEn 2 10, none, zE 8 1 0 0 0, zE 1 1 1 0 0, zEn 2 10, none, zE 8 1 0 1 0],
  [zE 1 1 2 0 0, zEw 32 3 17 4 8 938, none, none, zE 35 1 0 0 0]]
/-- ColdShod.roads(III)I -/
noncomputable def zi_96 : List (List (Option zI)) := [[zE 1 1 1 0 0, zEw 32 3 135 1 45 939, none, none, zE 15 3 18 0 0, none, none, zE 1 1 3 0 0, zEn 1 1, zE 16 3 18 2 0, none, none, zE 1 1 3 0 0, zEn 2 12, none, zE 16 3 20 5 0],
  [none, none, some (0, 1, 0, 0, 0, .int (-1), []), zE 35 1 0 0 0, zE 3 1 0 0 0, zEw 20 3 11 7 1 922, none, none, zE 1 1 1 0 0, zE 24 1 0 0 0, zE 6 2 4 0 0, none, zE 3 2 4 0 0, none, zEw 20 3 8 0 0 940, none],
  [none, zE 15 3 38 1 0, none, none, zEn 1 0, zE 35 1 0 0 0, zE 3 2 4 0 0, none, zEw 32 3 78 1 32 941, none, none, zE 15 3 49 1 0, none, none, some (0, 2, 0, 0, 0, .int (-12), []), none],
  [zE 35 1 0 0 0, zE 1 1 2 0 0, zE 15 3 55 3 0, none, none, zEn 1 0, zE 35 1 0 0 0, zEn 1 0, zE 4 2 5 0 0, none, zE 1 1 2 0 0, zE 4 2 6 0 0, none, zE 1 2 5 0 0, none, zE 1 1 3 0 0],
  [zE 16 3 102 3 0, none, none, zE 1 2 6 0 0, none, zE 3 2 4 0 0, none, zEw 20 3 8 3 0 942, none, none, zEn 1 2, zE 7 1 0 1 0, zE 16 3 102 3 0, none, none, zE 3 1 0 0 0],
  [zE 3 2 4 0 0, none, zE 1 2 6 0 0, none, zEw 32 3 97 3 44 943, none, none, zE 15 3 93 1 0, none, none, zE 1 2 5 0 0, none, zE 35 1 0 0 0, some (19, 3, 5, 0, 0, .int 1, []), none, none],
  [some (19, 3, 6, 0, 0, .int 3, []), none, none, zE 17 3 61 0 0, none, none, zE 1 2 5 0 0, none, zE 35 1 0 0 0]]
/-- ColdShod.layRoadFrom(LColdShod$Shelf;I)Z -/
noncomputable def zi_97 : List (List (Option zI)) := [[zE 3 1 1 0 0, zEw 20 3 8 4 1 944, none, none, zE 1 1 2 0 0, zE 23 1 0 0 0, zE 5 1 3 0 0, zE 3 1 1 0 0, zEw 20 3 8 4 1 944, none, none, zE 1 1 2 0 0, zEn 1 1, zE 7 1 0 0 0, zE 23 1 0 0 0, zE 5 2 5 0 0],
  [none, zE 3 1 1 0 0, zEw 20 3 8 4 1 944, none, none, zE 1 1 2 0 0, zEn 1 2, zE 7 1 0 0 0, zE 23 1 0 0 0, zE 5 2 7 0 0, none, zE 2 1 3 0 0, zEw 32 3 137 1 45 945, none, none, zE 15 3 65 0 0],
  [none, none, zE 2 2 5 0 0, none, zEw 32 3 137 1 45 945, none, none, zE 15 3 65 0 0, none, none, zE 2 1 3 0 0, zE 2 2 5 0 0, none, zE 14 1 0 0 0, zE 15 3 65 0 0, none],
  [none, zE 2 2 7 0 0, none, some (0, 1, 0, 0, 0, .long 1, []), zE 14 1 0 0 0, zE 15 3 65 2 0, none, none, zE 2 2 7 0 0, none, some (0, 3, 0, 0, 0, .long 9, [(0, 946)]), none, none, zE 14 1 0 0 0, zE 15 3 67 5 0, none],
  [none, zEn 1 0, zE 35 1 0 0 1, zE 3 1 0 0 0, zEw 20 3 11 0 1 907, none, none, zE 2 1 3 0 0, zE 11 1 0 0 0, zE 2 2 5 0 0, none, zE 11 1 0 0 0, zE 2 2 7 0 0, none, zE 11 1 0 0 0, zEw 32 3 17 4 8 938],
  [none, none, zE 15 3 89 2 0, none, none, zEn 1 1, zE 17 3 90 0 0, none, none, zEn 1 0, zE 35 1 0 0 1]]
/-- ColdShod.mend(III)I -/
noncomputable def zi_98 : List (List (Option zI)) := [[zE 3 1 0 0 0, zEw 20 3 11 0 1 907, none, none, zE 1 1 1 0 0, zE 1 1 2 0 0, zEw 32 3 18 3 8 947, none, none, zE 15 3 24 0 0, none, none, zE 3 1 0 0 0, zEw 20 3 11 0 1 907, none, none],
  [zE 1 1 2 0 0, zE 1 1 3 0 0, zEw 32 3 19 3 8 948, none, none, zE 15 3 27 1 0, none, none, some (0, 2, 0, 0, 0, .int (-2000000000), [(0, 949)]), none, zE 35 1 0 0 0, zE 3 1 0 0 0, zEw 20 3 11 0 1 907, none, none, zE 1 1 1 0 0],
  [zE 1 1 2 0 0, zEw 32 3 20 3 8 950, none, none, zE 4 2 4 0 0, none, zE 1 2 4 0 0, none, zE 1 1 3 0 0, zE 16 3 66 0 0, none, none, zE 3 1 0 0 0, zEw 20 3 11 0 1 907, none, none],
  [zE 1 1 1 0 0, zE 1 1 2 0 0, zE 1 1 3 0 0, zEw 32 3 21 4 8 951, none, none, zE 3 1 0 0 0, zEw 20 3 11 2 1 911, none, none, zE 1 1 1 0 0, zE 1 1 2 0 0, zE 1 2 4 0 0, none, zE 1 1 3 0 0, zEw 32 3 9 5 4 952],
  [none, none, zE 1 2 4 0 0, none, zE 35 1 0 0 0]]
/-- ColdShod.of(II)I -/
noncomputable def zi_99 : List (List (Option zI)) := [[zE 3 1 0 0 0, zEw 20 3 11 0 1 907, none, none, zE 1 1 1 0 0, zE 1 1 2 0 0, zEw 32 3 20 3 8 950, none, none, zE 35 1 0 0 0]]
/-- ColdShod.feed(I)I -/
noncomputable def zi_100 : List (List (Option zI)) := [[zE 1 1 1 0 0, zE 15 3 11 2 0, none, none, zE 1 1 1 0 0, zEn 3 255, none, none, zE 16 3 13 5 0, none, none, some (0, 1, 0, 0, 0, .int (-1), []), zE 35 1 0 0 0, zE 3 1 0 0 0, zEw 20 3 11 1 1 909, none],
  [none, zE 1 1 1 0 0, zEw 32 3 62 2 24 953, none, none, zE 15 3 34 0 0, none, none, zE 3 1 0 0 0, zEw 20 3 11 1 1 909, none, none, zEw 20 3 6 1 0 954, none, none, zE 17 3 36 0 0],
  [none, none, some (0, 2, 0, 0, 0, .int (-3), []), none, zE 35 1 0 0 0]]
/-- ColdShod.law()I -/
noncomputable def zi_101 : List (List (Option zI)) := [[zE 3 1 0 0 0, zEw 20 3 11 0 1 907, none, none, zEw 20 3 2 10 1 955, none, none, zE 6 1 1 0 0, zE 3 1 0 0 0, zEw 20 3 11 1 1 909, none, none, zE 3 1 1 0 0, zEw 32 3 63 2 24 956, none, none],
  [zE 4 1 2 0 0, zE 3 1 0 0 0, zEw 20 3 11 1 1 909, none, none, zEn 1 0, zEw 21 3 6 1 0 954, none, none, zE 1 1 2 0 0, some (0, 1, 0, 0, 0, .int (-1), []), zE 16 3 35 0 0, none, none, some (0, 2, 0, 0, 0, .int (-100), []), none],
  [zE 1 1 2 0 0, zE 7 1 0 1 0, zE 35 1 0 0 0, zE 3 1 0 0 0, zEw 20 3 11 0 1 907, none, none, zE 3 1 0 0 0, zEw 20 3 11 0 1 907, none, none, zEw 20 3 2 9 1 957, none, none, zEw 21 3 2 10 1 955, none],
  [none, zE 3 1 0 0 0, zEw 20 3 11 0 1 907, none, none, zE 3 1 1 0 0, zEw 21 3 2 9 1 957, none, none, zEn 1 1, zE 35 1 0 0 0]]
/-- ColdShod.wears(II)I -/
noncomputable def zi_102 : List (List (Option zI)) := [[zE 3 1 0 0 0, zEw 20 3 11 0 1 907, none, none, zE 1 1 1 0 0, zEw 32 3 15 2 8 958, none, none, zE 15 3 22 0 0, none, none, zE 3 1 0 0 0, zEw 20 3 11 0 1 907, none, none, zE 1 1 2 0 0],
  [zEw 32 3 16 2 8 959, none, none, zE 15 3 24 1 0, none, none, some (0, 1, 0, 0, 0, .int (-1), []), zE 35 1 0 0 0, zE 3 1 0 0 0, zEw 20 3 11 0 1 907, none, none, zE 3 1 0 0 0, zEw 20 3 11 0 1 907, none, none],
  [zEw 20 3 2 2 1 934, none, none, zE 1 1 1 0 0, zE 24 1 0 0 0, zE 3 1 0 0 0, zEw 20 3 11 0 1 907, none, none, zEw 20 3 2 3 1 960, none, none, zE 1 1 2 0 0, zE 24 1 0 0 0, zEw 32 3 23 3 8 961, none],
  [none, zE 35 1 0 0 0]]
/-- ColdShod.journey(III)I -/
noncomputable def zi_103 : List (List (Option zI)) := [[zE 1 1 1 0 0, zEw 32 3 135 1 45 939, none, none, zE 15 3 27 0 0, none, none, zE 3 1 0 0 0, zEw 20 3 11 0 1 907, none, none, zE 1 1 2 0 0, zEw 32 3 15 2 8 958, none, none, zE 15 3 27 0 0],
  [none, none, zE 1 1 3 0 0, zE 15 3 27 2 0, none, none, zE 1 1 3 0 0, zEn 1 4, zE 16 3 29 5 0, none, none, some (0, 1, 0, 0, 0, .int (-1), []), zE 35 1 0 0 0, zE 3 1 0 0 0, zEw 20 3 11 7 1 922, none],
  [none, zE 1 1 1 0 0, zE 24 1 0 0 0, zEw 32 3 140 1 45 962, none, none, zE 4 2 4 0 0, none, zE 1 2 4 0 0, none, zE 15 3 48 0 0, none, none, zE 1 2 4 0 0, none, zE 35 1 0 0 0],
  [zE 3 1 0 0 0, zEw 20 3 11 4 1 915, none, none, zE 3 1 0 0 0, zEw 20 3 11 7 1 922, none, none, zE 1 1 1 0 0, zE 24 1 0 0 0, zE 3 1 0 0 0, zEw 20 3 11 0 1 907, none, none, zEw 20 3 2 8 0 963, none],
  [none, zEw 32 3 48 3 16 964, none, none, zE 3 1 0 0 0, zE 1 1 2 0 0, zEw 32 3 139 2 44 965, none, none, zE 6 2 5 0 0, none, zE 3 1 0 0 0, zEw 20 3 11 4 1 915, none, none, zE 3 2 5 0 0],
  [none, zE 3 1 0 0 0, zEw 20 3 11 0 1 907, none, none, zEw 32 3 49 3 16 966, none, none, zE 4 2 6 0 0, none, zE 1 1 3 0 0, some (18, 29, 148, 0, 0, .null, [(0, 120), (1, 128), (2, 136), (3, 142)]), none, none, none, none],
  [none, none, none, none, none, none, none, none, none, none, none, none, none, none, none, none],
  [none, none, none, none, none, none, none, none, zE 3 1 0 0 0, zEw 20 3 11 4 1 915, none, none, zEw 20 3 4 2 0 967, none, none, zE 35 1 0 0 0],
  [zE 3 1 0 0 0, zEw 20 3 11 4 1 915, none, none, zEw 20 3 4 3 0 968, none, none, zE 35 1 0 0 0, zE 3 2 5 0 0, none, zEw 20 3 3 2 0 969, none, none, zE 35 1 0 0 0, zE 3 2 5 0 0, none],
  [zEw 20 3 3 3 0 970, none, none, zE 35 1 0 0 0, zE 1 2 6 0 0, none, zE 15 3 158 0 0, none, none, some (0, 2, 0, 0, 0, .int (-2), []), none, zE 17 3 165 0 0, none, none, zE 3 1 0 0 0, zEw 20 3 11 4 1 915],
  [none, none, zEw 20 3 4 3 0 968, none, none, zE 35 1 0 0 0]]
/-- ColdShod.strokes(III)I -/
noncomputable def zi_104 : List (List (Option zI)) := [[zE 1 1 1 0 0, zEw 32 3 135 1 45 939, none, none, zE 15 3 23 0 0, none, none, zE 3 1 0 0 0, zEw 20 3 11 0 1 907, none, none, zE 1 1 2 0 0, zEw 32 3 15 2 8 958, none, none, zE 15 3 23 0 0],
  [none, none, zE 1 1 3 0 0, some (0, 1, 0, 0, 0, .int (-1), []), zE 16 3 25 3 0, none, none, some (0, 1, 0, 0, 0, .int (-1), []), zE 35 1 0 0 0, zE 3 1 0 0 0, zEw 20 3 11 7 1 922, none, none, zE 1 1 1 0 0, zE 24 1 0 0 0, zEw 32 3 140 1 45 962],
  [none, none, zE 4 2 4 0 0, none, zE 1 2 4 0 0, none, zE 15 3 44 0 0, none, none, zE 1 2 4 0 0, none, zE 35 1 0 0 0, zE 3 1 0 0 0, zEw 20 3 11 4 1 915, none, none],
  [zE 3 1 0 0 0, zEw 20 3 11 7 1 922, none, none, zE 1 1 1 0 0, zE 24 1 0 0 0, zE 3 1 0 0 0, zEw 20 3 11 0 1 907, none, none, zEw 20 3 2 8 0 963, none, none, zEw 32 3 48 3 16 964, none, none],
  [zE 3 1 0 0 0, zEw 20 3 11 5 1 917, none, none, zE 3 1 0 0 0, zEw 20 3 11 4 1 915, none, none, zE 3 1 0 0 0, zEw 20 3 11 0 1 907, none, none, zEw 20 3 2 2 1 934, none, none, zE 1 1 2 0 0],
  [zE 24 1 0 0 0, zE 3 1 0 0 0, zEw 20 3 11 0 1 907, none, none, zEw 32 3 82 4 36 971, none, none, zE 4 2 5 0 0, none, zE 1 1 3 0 0, some (0, 1, 0, 0, 0, .int (-1), []), zE 16 3 102 0 0, none, none, zE 1 2 5 0 0],
  [none, some (0, 2, 0, 0, 0, .int (-2), []), none, zE 16 3 105 1 0, none, none, zE 1 2 5 0 0, none, zE 35 1 0 0 0, zE 1 1 3 0 0, zE 1 2 5 0 0, none, zE 16 3 123 3 0, none, none, zE 3 1 0 0 0],
  [zEw 20 3 11 5 1 917, none, none, zEw 20 3 9 0 1 972, none, none, zE 1 1 3 0 0, zE 22 1 0 0 0, zE 17 3 125 0 0, none, none, some (0, 2, 0, 0, 0, .int (-2), []), none, zE 35 1 0 0 0]]
/-- ColdShod.way(III)I -/
noncomputable def zi_105 : List (List (Option zI)) := [[zE 3 1 0 0 0, zEw 20 3 11 0 1 907, none, none, zE 1 1 1 0 0, zEw 32 3 15 2 8 958, none, none, zE 15 3 24 0 0, none, none, zE 1 1 2 0 0, zEw 32 3 138 1 45 937, none, none, zE 15 3 24 0 0],
  [none, none, zE 1 1 3 0 0, some (0, 2, 0, 0, 0, .int (-2), []), none, zE 16 3 26 3 0, none, none, some (0, 1, 0, 0, 0, .int (-1), []), zE 35 1 0 0 0, zE 3 1 0 0 0, zEw 20 3 11 6 1 920, none, none, zE 3 1 0 0 0, zEw 20 3 11 0 1 907],
  [none, none, zE 3 1 0 0 0, zEw 20 3 11 0 1 907, none, none, zEw 20 3 2 2 1 934, none, none, zE 1 1 1 0 0, zE 24 1 0 0 0, zE 1 1 2 0 0, zEn 2 10, none, zE 8 1 0 0 0, zE 1 1 2 0 0],
  [zEn 2 10, none, zE 8 1 0 1 0, zEw 32 3 89 5 40 973, none, none, zE 3 1 0 0 0, zEw 20 3 11 6 1 920, none, none, zEw 20 3 10 1 0 974, none, none, some (0, 2, 0, 0, 0, .int (-2), []), none, zE 16 3 77 0 0],
  [none, none, zE 1 1 3 0 0, zE 3 1 0 0 0, zEw 20 3 11 6 1 920, none, none, zEw 20 3 10 1 0 974, none, none, zE 16 3 80 2 0, none, none, some (0, 2, 0, 0, 0, .int (-2), []), none, zE 35 1 0 0 0],
  [zE 1 1 3 0 0, some (0, 1, 0, 0, 0, .int (-1), []), zE 16 3 93 1 0, none, none, zE 3 1 0 0 0, zEw 20 3 11 6 1 920, none, none, zEw 20 3 10 2 0 975, none, none, zE 35 1 0 0 0, zE 1 1 3 0 0, some (0, 2, 0, 0, 0, .int (-2), []), none],
  [zE 16 3 109 1 0, none, none, zE 3 1 0 0 0, zEw 20 3 11 6 1 920, none, none, zEw 20 3 10 1 0 974, none, none, zE 17 3 118 0 0, none, none, zE 3 1 0 0 0, zEw 20 3 11 6 1 920, none],
  [none, zEw 20 3 10 0 1 976, none, none, zE 1 1 3 0 0, zE 22 1 0 0 0, zE 35 1 0 0 0]]
/-- ColdShod.reach(II)I -/
noncomputable def zi_106 : List (List (Option zI)) := [[zE 3 1 0 0 0, zEw 20 3 11 0 1 907, none, none, zE 1 1 1 0 0, zEw 32 3 15 2 8 958, none, none, zE 15 3 19 0 0, none, none, zE 1 1 2 0 0, zE 10 1 0 0 0, zEw 32 3 137 1 45 945, none, none],
  [zE 15 3 21 1 0, none, none, some (0, 1, 0, 0, 0, .int (-1), []), zE 35 1 0 0 0, zE 3 1 0 0 0, zEw 20 3 11 0 1 907, none, none, zEw 20 3 2 2 1 934, none, none, zE 1 1 1 0 0, zE 24 1 0 0 0, zE 6 1 3 0 0, zEn 1 1],
  [zE 1 1 2 0 0, zE 7 1 0 6 0, zE 4 2 4 0 0, none, zEn 1 0, zE 4 2 5 0 0, none, zE 1 2 5 0 0, none, zEn 2 8, none, zE 16 3 126 3 0, none, none, zEn 1 0, zE 4 2 6 0 0],
  [none, zE 1 2 6 0 0, none, zE 3 1 0 0 0, zEw 20 3 11 0 1 907, none, none, zEw 20 3 2 8 0 963, none, none, zE 16 3 120 3 0, none, none, zE 3 1 0 0 0, zEw 20 3 11 0 1 907, none],
  [none, zEw 20 3 2 3 1 960, none, none, zE 1 2 6 0 0, none, zE 24 1 0 0 0, zE 6 2 7 0 0, none, zEn 1 1, zE 3 2 7 0 0, none, zEw 20 3 7 0 0 977, none, none, zE 7 1 0 6 0],
  [zEn 1 1, zE 3 2 7 0 0, none, zEw 20 3 7 1 0 978, none, none, zE 7 1 0 6 0, zE 7 1 0 4 0, zE 4 2 8 0 0, none, zE 3 1 3 0 0, zE 3 2 7 0 0, none, zEw 32 3 39 2 12 979, none, none],
  [zE 15 3 114 0 0, none, none, zE 1 2 4 0 0, none, zE 1 2 8 0 0, none, zE 7 1 0 3 0, zE 15 3 114 0 0, none, none, zE 1 2 4 0 0, none, zE 1 2 8 0 0, none, zE 7 1 0 4 0],
  [zE 4 2 4 0 0, none, some (19, 3, 6, 0, 0, .int 1, []), none, none, zE 17 3 49 0 0, none, none, some (19, 3, 5, 0, 0, .int 1, []), none, none, zE 17 3 39 0 0, none, none, zE 1 2 4 0 0, none],
  [zE 35 1 0 0 0]]
/-- ColdShod.asks(I)I -/
noncomputable def zi_107 : List (List (Option zI)) := [[zE 3 1 0 0 0, zEw 20 3 11 0 1 907, none, none, zE 1 1 1 0 0, zEw 32 3 14 2 8 980, none, none, zE 15 3 13 1 0, none, none, some (0, 1, 0, 0, 0, .int (-1), []), zE 35 1 0 0 0, zE 3 1 0 0 0, zEw 20 3 11 0 1 907, none],
  [none, zEw 32 3 25 1 8 981, none, none, zE 3 1 0 0 0, zEw 20 3 11 0 1 907, none, none, zEw 20 3 2 4 1 982, none, none, zE 1 1 1 0 0, zE 22 1 0 0 0, zE 35 1 0 0 0]]
/-- ColdShod.settled()I -/
noncomputable def zi_108 : List (List (Option zI)) := [[zE 3 1 0 0 0, zEw 20 3 11 0 1 907, none, none, zEw 32 3 30 1 8 983, none, none, zE 15 3 14 0 0, none, none, zEn 1 1, zE 17 3 15 0 0, none, none, zEn 1 0, zE 35 1 0 0 0]]
/-- ColdShod.yokes(I)I -/
noncomputable def zi_109 : List (List (Option zI)) := [[zE 1 1 1 0 0, zE 15 3 9 2 0, none, none, zE 1 1 1 0 0, zEn 1 2, zE 16 3 11 5 0, none, none, some (0, 1, 0, 0, 0, .int (-1), []), zE 35 1 0 0 0, zE 1 1 1 0 0, zE 15 3 23 1 0, none, none, zE 3 1 0 0 0],
  [zEw 20 3 11 0 1 907, none, none, zEw 32 3 31 1 8 984, none, none, zE 35 1 0 0 0, zE 3 1 0 0 0, zEw 20 3 11 0 1 907, none, none, zEw 32 3 32 1 8 985, none, none, zE 4 1 2 0 0, zE 1 1 1 0 0],
  [zEn 1 1, zE 16 3 43 1 0, none, none, zE 1 1 2 0 0, zEw 32 3 238 1 1 986, none, none, zE 17 3 44 0 0, none, none, zE 1 1 2 0 0, zE 35 1 0 0 0]]
/-- ColdShod.judge(II)I -/
noncomputable def zi_110 : List (List (Option zI)) := [[zE 1 1 1 0 0, zEw 32 3 136 1 45 987, none, none, zE 15 3 18 0 0, none, none, zE 3 1 0 0 0, zEw 20 3 11 0 1 907, none, none, zE 1 1 2 0 0, zEw 32 3 15 2 8 958, none, none, zE 15 3 20 1 0],
  [none, none, some (0, 1, 0, 0, 0, .int (-1), []), zE 35 1 0 0 0, zE 3 1 0 0 0, zE 1 1 1 0 0, zEw 32 3 141 2 44 988, none, none, zE 4 1 3 0 0, zE 1 1 3 0 0, zE 15 3 32 0 0, none, none, zE 1 1 3 0 0, zE 35 1 0 0 0],
  [zE 3 1 0 0 0, zEw 20 3 11 4 1 915, none, none, zE 3 1 0 0 0, zEw 20 3 11 7 1 922, none, none, zE 1 1 1 0 0, zEn 2 10, none, zE 8 1 0 0 0, zE 24 1 0 0 0, zE 3 1 0 0 0, zEw 20 3 11 0 1 907, none],
  [none, zEw 20 3 2 8 0 963, none, none, zEw 32 3 48 3 16 964, none, none, zE 3 1 0 0 0, zEw 20 3 11 4 1 915, none, none, zE 3 1 0 0 0, zE 1 1 2 0 0, zEw 32 3 139 2 44 965, none, none],
  [zE 3 1 0 0 0, zEw 20 3 11 7 1 922, none, none, zE 1 1 1 0 0, zEn 2 10, none, zE 8 1 0 1 0, zE 24 1 0 0 0, zE 3 1 0 0 0, zEw 20 3 11 0 1 907, none, none, zEw 32 3 51 4 16 989, none, none],
  [zE 35 1 0 0 0]]
/-- ColdShod.edge(III)I -/
noncomputable def zi_111 : List (List (Option zI)) := [[zE 1 1 1 0 0, zEw 32 3 136 1 45 987, none, none, zE 15 3 27 0 0, none, none, zE 3 1 0 0 0, zEw 20 3 11 0 1 907, none, none, zE 1 1 2 0 0, zEw 32 3 15 2 8 958, none, none, zE 15 3 27 0 0],
  [none, none, zE 1 1 3 0 0, zE 15 3 27 2 0, none, none, zE 1 1 3 0 0, zEn 1 1, zE 16 3 29 5 0, none, none, some (0, 1, 0, 0, 0, .int (-1), []), zE 35 1 0 0 0, zE 3 1 0 0 0, zE 1 1 1 0 0, zEw 32 3 141 2 44 988],
  [none, none, zE 4 2 4 0 0, none, zE 1 2 4 0 0, none, zE 15 3 44 0 0, none, none, zE 1 2 4 0 0, none, zE 35 1 0 0 0, zE 3 1 0 0 0, zEw 20 3 11 4 1 915, none, none],
  [zE 3 1 0 0 0, zEw 20 3 11 7 1 922, none, none, zE 1 1 1 0 0, zEn 2 10, none, zE 8 1 0 0 0, zE 24 1 0 0 0, zE 3 1 0 0 0, zEw 20 3 11 0 1 907, none, none, zEw 20 3 2 8 0 963, none, none],
  [zEw 32 3 48 3 16 964, none, none, zE 1 1 3 0 0, zE 15 3 75 1 0, none, none, zEn 1 3, zE 17 3 76 0 0, none, none, zEn 1 5, zE 4 2 5 0 0, none, zEn 1 0, zE 4 2 6 0 0],
  [none, zEn 1 0, zE 4 2 7 0 0, none, zE 1 2 7 0 0, none, zE 1 2 5 0 0, none, zE 16 3 161 4 0, none, none, zE 3 1 0 0 0, zE 1 1 2 0 0, zEw 32 3 139 2 44 965, none, none],
  [zE 6 2 8 0 0, none, zE 1 1 3 0 0, zE 15 3 112 1 0, none, none, zE 3 2 8 0 0, none, zE 1 2 7 0 0, none, zEw 21 3 3 0 0 935, none, none, zE 17 3 119 0 0, none, none],
  [zE 3 2 8 0 0, none, zE 1 2 7 0 0, none, zEw 21 3 3 1 0 936, none, none, zE 3 1 0 0 0, zEw 20 3 11 4 1 915, none, none, zE 3 2 8 0 0, none, zE 3 1 0 0 0, zEw 20 3 11 7 1 922, none],
  [none, zE 1 1 1 0 0, zEn 2 10, none, zE 8 1 0 1 0, zE 24 1 0 0 0, zE 3 1 0 0 0, zEw 20 3 11 0 1 907, none, none, zEw 32 3 51 4 16 989, none, none, some (0, 2, 0, 0, 0, .int (-2), []), none, zE 16 3 155 1 0],
  [none, none, zE 1 2 6 0 0, none, zEn 1 1, zE 1 2 7 0 0, none, zE 7 1 0 6 0, zE 7 1 0 4 0, zE 4 2 6 0 0, none, some (19, 3, 7, 0, 0, .int 1, []), none, none, zE 17 3 84 0 0, none],
  [none, zE 1 2 6 0 0, none, zE 35 1 0 0 0]]
/-- ColdShod.byTurns(III)I -/
noncomputable def zi_112 : List (List (Option zI)) := [[zE 3 1 0 0 0, zEw 20 3 11 0 1 907, none, none, zE 1 1 1 0 0, zEw 32 3 15 2 8 958, none, none, zE 15 3 30 0 0, none, none, zE 1 1 2 0 0, zEn 1 1, zE 16 3 30 2 0, none, none],
  [zE 1 1 2 0 0, zEn 1 5, zE 16 3 30 4 0, none, none, zE 1 1 3 0 0, zE 15 3 30 2 0, none, none, zE 1 1 3 0 0, zEn 1 1, zE 16 3 32 5 0, none, none, some (0, 1, 0, 0, 0, .int (-1), []), zE 35 1 0 0 0],
  [zE 3 1 0 0 0, zE 1 1 1 0 0, zEw 32 3 139 2 44 965, none, none, zE 42 1 0 0 0, zE 3 1 0 0 0, zEn 1 4, zEw 21 3 11 13 0 929, none, none, zE 3 1 0 0 0, zEn 1 0, zE 1 1 2 0 0, zEw 32 3 113 3 44 990, none],
  [none, zE 4 2 4 0 0, none, zE 1 1 3 0 0, zE 15 3 60 1 0, none, none, zE 1 2 4 0 0, none, zE 17 3 64 0 0, none, none, zE 3 1 0 0 0, zEw 20 3 11 13 0 929, none, none],
  [zE 35 1 0 0 0]]
/-- ColdShod.wornAtBest(II)I -/
noncomputable def zi_113 : List (List (Option zI)) := [[zE 1 1 1 0 0, zE 1 1 2 0 0, zE 16 3 16 3 0, none, none, zE 1 1 1 0 0, zEn 1 1, zE 7 1 0 0 0, zE 3 1 0 0 0, zEw 20 3 11 8 1 924, none, none, zE 28 1 0 0 0, zE 16 3 26 2 0, none, none],
  [zE 3 1 0 0 0, zEw 20 3 11 8 1 924, none, none, zE 1 1 1 0 0, zE 24 1 0 0 0, zEw 20 3 3 2 0 969, none, none, zE 35 1 0 0 0, zE 1 1 1 0 0, zEn 1 2, zE 8 1 0 1 0, zE 15 3 41 1 0, none, none],
  [zE 3 1 0 0 0, zE 1 1 1 0 0, zE 1 1 2 0 0, zEw 32 3 114 3 44 991, none, none, zE 17 3 47 0 0, none, none, zE 3 1 0 0 0, zE 1 1 1 0 0, zE 1 1 2 0 0, zEw 32 3 115 3 44 992, none, none, zE 35 1 0 0 0]]
/-- ColdShod.leastBySmith(II)I -/
noncomputable def zi_114 : List (List (Option zI)) := [[zEn 2 100, none, zE 4 1 3 0 0, zEn 1 0, zE 4 2 4 0 0, none, zE 1 2 4 0 0, none, zEw 43 3 3 0 0 993, none, none, zE 28 1 0 0 0, zE 16 3 87 3 0, none, none, zE 3 1 0 0 0],
  [zEw 20 3 11 8 1 924, none, none, zE 1 1 1 0 0, zEn 1 1, zE 7 1 0 0 0, zE 24 1 0 0 0, zE 6 2 5 0 0, none, zE 3 2 5 0 0, none, zE 3 1 0 0 0, zEw 20 3 11 8 1 924, none, none, zE 1 1 1 0 0],
  [zE 24 1 0 0 0, zEw 32 3 35 2 12 994, none, none, zE 3 2 5 0 0, none, zEw 43 3 3 0 0 993, none, none, zE 1 2 4 0 0, none, zE 22 1 0 0 0, zEw 32 3 43 2 12 995, none, none, zE 42 1 0 0 0],
  [zE 3 1 0 0 0, zE 1 1 1 0 0, zEn 1 1, zE 7 1 0 0 0, zE 1 1 2 0 0, zEw 32 3 113 3 44 990, none, none, zE 4 2 6 0 0, none, zE 1 2 6 0 0, none, zE 1 1 3 0 0, zE 16 3 81 3 0, none, none],
  [zE 1 2 6 0 0, none, zE 4 1 3 0 0, zE 1 1 1 0 0, zE 15 3 81 1 0, none, none, zE 3 1 0 0 0, zEw 43 3 3 0 0 993, none, none, zE 1 2 4 0 0, none, zE 22 1 0 0 0, zEw 21 3 11 13 0 929, none],
  [none, some (19, 3, 4, 0, 0, .int 1, []), none, none, zE 17 3 6 0 0, none, none, zE 1 1 3 0 0, zE 35 1 0 0 0]]
/-- ColdShod.mostByKicker(II)I -/
noncomputable def zi_115 : List (List (Option zI)) := [[zEn 1 0, zE 4 1 3 0 0, zEn 1 0, zE 4 2 4 0 0, none, zE 1 2 4 0 0, none, zEn 1 3, zE 16 3 75 3 0, none, none, zE 3 1 0 0 0, zEw 20 3 11 8 1 924, none, none, zE 1 1 1 0 0],
  [zEn 1 1, zE 7 1 0 0 0, zE 24 1 0 0 0, zE 6 2 5 0 0, none, zE 3 2 5 0 0, none, zE 3 1 0 0 0, zEw 20 3 11 8 1 924, none, none, zE 1 1 1 0 0, zE 24 1 0 0 0, zEw 32 3 35 2 12 994, none, none],
  [zE 1 2 4 0 0, none, zE 15 3 44 1 0, none, none, zE 3 2 5 0 0, none, zEn 2 7, none, zEw 32 3 41 2 12 996, none, none, zE 1 2 4 0 0, none, zEn 1 1, zE 16 3 56 1 0],
  [none, none, zE 3 2 5 0 0, none, zEn 1 1, zEw 32 3 42 2 12 997, none, none, zE 1 1 3 0 0, zE 3 1 0 0 0, zE 1 1 1 0 0, zEn 1 1, zE 7 1 0 0 0, zE 1 1 2 0 0, zEw 32 3 113 3 44 990, none],
  [none, some (31, 3, 0, 0, 0, .null, [(0, 998), (0, 783), (0, 784), (0, 777)]), none, none, zE 4 1 3 0 0, some (19, 3, 4, 0, 0, .int 1, []), none, none, zE 17 3 5 0 0, none, none, zE 1 1 3 0 0, zE 35 1 0 0 0]]
/-- ColdShod.drawn(IIII)I -/
noncomputable def zi_116 : List (List (Option zI)) := [[zE 1 1 2 0 0, zEn 2 100, none, zE 8 1 0 0 0, zE 4 2 5 0 0, none, zE 1 1 2 0 0, zEn 2 100, none, zE 8 1 0 1 0, zE 4 2 6 0 0, none, zE 1 2 5 0 0, none, zEn 1 1, zE 16 3 38 2 0],
  [none, none, zE 1 2 5 0 0, none, zEn 2 30, none, zE 16 3 38 4 0, none, none, zE 1 2 6 0 0, none, zEn 1 1, zE 16 3 38 2 0, none, none, zE 1 2 6 0 0],
  [none, zEn 2 40, none, zE 16 3 40 5 0, none, none, some (0, 1, 0, 0, 0, .int (-1), []), zE 35 1 0 0 0, zE 3 1 0 0 0, zEw 20 3 11 0 1 907, none, none, zE 1 1 3 0 0, zEw 32 3 15 2 8 958, none, none],
  [zE 15 3 62 0 0, none, none, zE 1 2 4 0 0, none, zE 15 3 62 2 0, none, none, zE 1 2 4 0 0, none, zEn 1 1, zE 16 3 64 5 0, none, none, some (0, 1, 0, 0, 0, .int (-1), []), zE 35 1 0 0 0],
  [zE 1 1 1 0 0, zE 4 2 7 0 0, none, zEn 1 0, zE 4 2 8 0 0, none, zEn 1 0, zE 4 2 9 0 0, none, zE 3 1 0 0 0, zEw 20 3 11 0 1 907, none, none, zE 3 1 0 0 0, zEw 20 3 11 0 1 907, none],
  [none, zEw 20 3 2 2 1 934, none, none, zE 1 1 3 0 0, zE 24 1 0 0 0, zEw 32 3 22 2 8 999, none, none, zE 4 2 10 0 0, none, zEn 1 0, zE 4 2 11 0 0, none, zE 1 2 11 0 0, none],
  [zE 1 2 5 0 0, none, zE 16 3 218 3 0, none, none, zE 3 1 0 0 0, zE 1 1 3 0 0, zEw 32 3 139 2 44 965, none, none, zE 6 2 12 0 0, none, zEn 1 0, zE 4 2 13 0 0, none, zE 1 2 13 0 0],
  [none, zE 1 2 6 0 0, none, zE 16 3 201 3 0, none, none, zE 3 1 0 0 0, zEw 20 3 11 0 1 907, none, none, zEw 20 3 2 8 0 963, none, none, zE 15 3 201 5 0, none, none],
  [zE 1 2 7 0 0, none, some (0, 3, 0, 0, 0, .int 1103515245, [(0, 1000)]), none, none, zE 7 1 0 2 0, zEn 3 12345, none, none, zE 7 1 0 0 0, zE 4 2 7 0 0, none, zE 1 2 7 0 0, none, zEn 2 16, none],
  [zE 7 1 0 8 0, zEn 2 12, none, zE 8 1 0 1 0, zE 1 2 10 0 0, none, zE 16 3 160 3 0, none, none, zE 3 2 12 0 0, none, zEn 1 3, zEw 32 3 43 2 12 995, none, none, zE 42 1 0 0 0],
  [zE 1 2 8 0 0, none, zE 3 1 0 0 0, zEw 20 3 11 0 1 907, none, none, zE 3 2 12 0 0, none, zE 3 1 0 0 0, zEw 20 3 11 0 1 907, none, none, zEw 20 3 2 3 1 960, none, none, zE 1 2 7 0 0],
  [none, zEn 2 8, none, zE 7 1 0 8 0, zE 3 1 0 0 0, zEw 20 3 11 0 1 907, none, none, zEw 20 3 2 8 0 963, none, none, zE 8 1 0 1 0, zE 24 1 0 0 0, zEw 32 3 24 3 8 1001, none, none],
  [zE 7 1 0 0 0, zE 4 2 8 0 0, none, some (19, 3, 13, 0, 0, .int 1, []), none, none, zE 17 3 111 0 0, none, none, zE 3 2 12 0 0, none, zEw 32 3 38 1 12 1002, none, none, zE 15 3 212 0 0, none],
  [none, some (19, 3, 9, 0, 0, .int 1, []), none, none, some (19, 3, 11, 0, 0, .int 1, []), none, none, zE 17 3 94 0 0, none, none, zE 1 2 4 0 0, none, zE 15 3 228 1 0, none, none, zE 1 2 8 0 0],
  [none, zE 17 3 230 0 0, none, none, zE 1 2 9 0 0, none, zE 35 1 0 0 0]]
/-- ColdShod.stroke(II)I -/
noncomputable def zi_117 : List (List (Option zI)) := [[zE 3 1 0 0 0, zEw 20 3 11 0 1 907, none, none, zE 1 1 1 0 0, zEw 32 3 15 2 8 958, none, none, zE 15 3 20 0 0, none, none, zE 1 1 2 0 0, zE 15 3 20 2 0, none, none, zE 1 1 2 0 0],
  [zEn 1 3, zE 16 3 22 5 0, none, none, some (0, 1, 0, 0, 0, .int (-1), []), zE 35 1 0 0 0, zE 3 1 0 0 0, zEw 20 3 11 0 1 907, none, none, zEw 20 3 2 2 1 934, none, none, zE 1 1 1 0 0, zE 24 1 0 0 0, zE 1 1 2 0 0],
  [zEw 32 3 43 2 12 995, none, none, zE 4 1 3 0 0, zE 3 1 0 0 0, zEw 20 3 11 9 1 925, none, none, zE 1 1 3 0 0, zE 15 3 48 0 0, none, none, zEn 1 0, zE 17 3 49 0 0, none, none],
  [zEn 1 1, zE 41 1 0 0 0, zE 22 1 0 0 0, zEn 1 1, zE 7 1 0 0 0, zE 25 1 0 0 0, zE 1 1 3 0 0, zE 15 3 62 0 0, none, none, zEn 1 1, zE 17 3 63 0 0, none, none, zEn 1 0, zE 35 1 0 0 0]]
/-- ColdShod.goes(II)I -/
noncomputable def zi_118 : List (List (Option zI)) := [[zE 3 1 0 0 0, zEw 20 3 11 0 1 907, none, none, zE 1 1 1 0 0, zEw 32 3 15 2 8 958, none, none, zE 15 3 22 0 0, none, none, zE 3 1 0 0 0, zEw 20 3 11 0 1 907, none, none, zE 1 1 2 0 0],
  [zEw 32 3 16 2 8 959, none, none, zE 15 3 24 1 0, none, none, some (0, 1, 0, 0, 0, .int (-1), []), zE 35 1 0 0 0, zE 3 1 0 0 0, zEw 20 3 11 0 1 907, none, none, zEw 20 3 2 2 1 934, none, none, zE 1 1 1 0 0],
  [zE 24 1 0 0 0, zE 6 1 3 0 0, zE 3 1 0 0 0, zEw 20 3 11 0 1 907, none, none, zEw 20 3 2 3 1 960, none, none, zE 1 1 2 0 0, zE 24 1 0 0 0, zE 6 2 4 0 0, none, zE 3 1 3 0 0, zE 3 2 4 0 0, none],
  [zEw 32 3 40 2 12 1003, none, none, zE 15 3 57 1 0, none, none, some (0, 2, 0, 0, 0, .int (-5), []), none, zE 35 1 0 0 0, zE 3 1 0 0 0, zEw 20 3 11 0 1 907, none, none, zE 3 1 3 0 0, zE 3 2 4 0 0, none],
  [zEw 32 3 24 3 8 1001, none, none, zE 4 2 5 0 0, none, zE 3 1 0 0 0, zEw 20 3 11 9 1 925, none, none, zEn 1 3, zE 41 1 0 0 0, zE 22 1 0 0 0, zE 1 2 5 0 0, none, zE 7 1 0 0 0, zE 25 1 0 0 0],
  [zE 1 2 5 0 0, none, zE 3 2 4 0 0, none, zEw 20 3 7 2 0 1004, none, none, zE 16 3 100 1 0, none, none, zE 3 1 0 0 0, zEw 20 3 11 9 1 925, none, none, zEn 1 2, zE 41 1 0 0 0],
  [zE 22 1 0 0 0, zEn 1 1, zE 7 1 0 0 0, zE 25 1 0 0 0, zE 3 1 3 0 0, zEw 32 3 38 1 12 1002, none, none, zE 15 3 117 0 0, none, none, zE 3 1 0 0 0, zEw 20 3 11 9 1 925, none, none, zEn 1 4],
  [zE 41 1 0 0 0, zE 22 1 0 0 0, zEn 1 1, zE 7 1 0 0 0, zE 25 1 0 0 0, zE 1 2 5 0 0, none, zE 35 1 0 0 0]]
/-- ColdShod.deal()I -/
noncomputable def zi_119 : List (List (Option zI)) := [[zE 3 1 0 0 0, zEw 20 3 11 0 1 907, none, none, zEw 32 3 25 1 8 981, none, none, zEn 1 0, zE 4 1 1 0 0, zE 1 1 1 0 0, zE 3 1 0 0 0, zEw 20 3 11 0 1 907, none, none, zEw 20 3 2 7 0 933, none],
  [none, zE 16 3 39 3 0, none, none, zE 3 1 0 0 0, zEw 20 3 11 0 1 907, none, none, zEw 20 3 2 2 1 934, none, none, zE 1 1 1 0 0, zE 24 1 0 0 0, some (0, 1, 0, 0, 0, .int (-1), []), zEw 21 3 3 6 0 1005, none],
  [none, some (19, 3, 1, 0, 0, .int 1, []), none, none, zE 17 3 9 0 0, none, none, zEn 1 0, zE 4 1 1 0 0, zEn 1 0, zE 4 1 2 0 0, zE 1 1 2 0 0, zE 3 1 0 0 0, zEw 20 3 11 0 1 907, none, none],
  [zEw 20 3 2 6 0 930, none, none, zE 16 3 106 3 0, none, none, zE 3 1 0 0 0, zEw 20 3 11 0 1 907, none, none, zE 3 1 0 0 0, zEw 20 3 11 0 1 907, none, none, zEw 20 3 2 4 1 982, none],
  [none, zE 1 1 2 0 0, zE 22 1 0 0 0, zEw 32 3 15 2 8 958, none, none, zE 15 3 76 1 0, none, none, zE 17 3 100 0 0, none, none, zE 3 1 0 0 0, zEw 20 3 11 0 1 907, none, none],
  [zEw 20 3 2 2 1 934, none, none, zE 3 1 0 0 0, zEw 20 3 11 0 1 907, none, none, zEw 20 3 2 4 1 982, none, none, zE 1 1 2 0 0, zE 22 1 0 0 0, zE 24 1 0 0 0, zE 1 1 2 0 0, zEw 21 3 3 6 0 1005, none],
  [none, some (19, 3, 1, 0, 0, .int 1, []), none, none, some (19, 3, 2, 0, 0, .int 1, []), none, none, zE 17 3 43 0 0, none, none, zE 1 1 1 0 0, zE 35 1 0 0 0]]
/-- ColdShod.led(I)I -/
noncomputable def zi_120 : List (List (Option zI)) := [[zE 1 1 1 0 0, zE 15 3 9 2 0, none, none, zE 1 1 1 0 0, zEn 1 5, zE 16 3 13 2 0, none, none, some (0, 1, 0, 0, 0, .int (-1), []), zE 17 3 19 0 0, none, none, zE 3 1 0 0 0, zEw 20 3 11 9 1 925, none],
  [none, zE 1 1 1 0 0, zE 22 1 0 0 0, zE 35 1 0 0 0]]
/-- ColdShod.image()I -/
noncomputable def zi_121 : List (List (Option zI)) := [[zEn 1 0, zE 4 1 1 0 0, zE 1 1 1 0 0, zE 3 1 0 0 0, zEw 20 3 11 0 1 907, none, none, zEw 20 3 2 7 0 933, none, none, zE 16 3 37 3 0, none, none, zE 3 1 0 0 0, zEw 20 3 11 10 1 926, none],
  [none, zE 1 1 1 0 0, zE 24 1 0 0 0, zE 3 1 0 0 0, zEw 20 3 11 0 1 907, none, none, zEw 20 3 2 2 1 934, none, none, zE 1 1 1 0 0, zE 24 1 0 0 0, zEw 32 3 35 2 12 994, none, none, some (19, 3, 1, 0, 0, .int 1, [])],
  [none, none, zE 17 3 2 0 0, none, none, zE 3 1 0 0 0, zEw 20 3 11 9 1 925, none, none, zEn 1 0, zE 3 1 0 0 0, zEw 20 3 11 11 1 927, none, none, zEn 1 0, zEn 1 5],
  [zEw 34 3 0 0 0 1006, none, none, zE 3 1 0 0 0, zE 3 1 0 0 0, zEw 20 3 11 0 1 907, none, none, zEw 20 3 2 7 0 933, none, none, zEw 21 3 11 12 0 928, none, none, zE 3 1 0 0 0, zEw 20 3 11 9 1 925],
  [none, none, zEn 1 3, zE 22 1 0 0 0, zE 35 1 0 0 0]]
/-- ColdShod.back()I -/
noncomputable def zi_122 : List (List (Option zI)) := [[zE 3 1 0 0 0, zEw 20 3 11 12 0 928, none, none, some (0, 1, 0, 0, 0, .int (-1), []), zE 16 3 11 1 0, none, none, some (0, 2, 0, 0, 0, .int (-5), []), none, zE 35 1 0 0 0, zEn 1 0, zE 4 1 1 0 0, zE 1 1 1 0 0, zE 3 1 0 0 0, zEw 20 3 11 12 0 928],
  [none, none, zE 16 3 45 3 0, none, none, zE 3 1 0 0 0, zEw 20 3 11 0 1 907, none, none, zEw 20 3 2 2 1 934, none, none, zE 1 1 1 0 0, zE 24 1 0 0 0, zE 3 1 0 0 0, zEw 20 3 11 10 1 926],
  [none, none, zE 1 1 1 0 0, zE 24 1 0 0 0, zEw 32 3 36 2 12 1007, none, none, some (19, 3, 1, 0, 0, .int 1, []), none, none, zE 17 3 13 0 0, none, none, zE 3 1 0 0 0, zEw 20 3 11 11 1 927, none],
  [none, zEn 1 0, zE 3 1 0 0 0, zEw 20 3 11 9 1 925, none, none, zEn 1 0, zEn 1 5, zEw 34 3 0 0 0 1006, none, none, zE 3 1 0 0 0, zEw 20 3 11 9 1 925, none, none, zEn 1 3],
  [zE 22 1 0 0 0, zE 35 1 0 0 0]]
/-- ColdShod.undo()I -/
noncomputable def zi_123 : List (List (Option zI)) := [[zE 3 1 0 0 0, zEw 20 3 11 2 1 911, none, none, zEw 20 3 1 0 0 1008, none, none, zE 15 3 13 1 0, none, none, some (0, 2, 0, 0, 0, .int (-5), []), none, zE 35 1 0 0 0, zE 3 1 0 0 0, zEw 20 3 11 2 1 911, none],
  [none, zE 3 1 0 0 0, zEw 20 3 11 0 1 907, none, none, zEw 32 3 11 2 4 1009, none, none, zE 3 1 0 0 0, zEw 20 3 11 2 1 911, none, none, zEw 20 3 1 0 0 1008, none, none, zE 35 1 0 0 0]]
/-- ColdShod.redo()I -/
noncomputable def zi_124 : List (List (Option zI)) := [[zE 3 1 0 0 0, zEw 20 3 11 2 1 911, none, none, zEw 20 3 1 1 0 1010, none, none, zE 15 3 13 1 0, none, none, some (0, 2, 0, 0, 0, .int (-5), []), none, zE 35 1 0 0 0, zE 3 1 0 0 0, zEw 20 3 11 2 1 911, none],
  [none, zE 3 1 0 0 0, zEw 20 3 11 0 1 907, none, none, zEw 32 3 12 2 4 1011, none, none, zE 3 1 0 0 0, zEw 20 3 11 2 1 911, none, none, zEw 20 3 1 1 0 1010, none, none, zE 35 1 0 0 0]]
/-- ColdShod.body(I)I -/
noncomputable def zi_125 : List (List (Option zI)) := [[zE 1 1 1 0 0, zE 15 3 10 2 0, none, none, zE 1 1 1 0 0, zEn 2 8, none, zE 16 3 12 2 0, none, none, some (0, 1, 0, 0, 0, .int (-1), []), zE 35 1 0 0 0, zE 3 1 0 0 0, zEw 20 3 11 3 1 913, none, none],
  [zE 1 1 1 0 0, zEw 32 3 2 2 0 1012, none, none, zE 35 1 0 0 0]]
/-- ColdShod.act(III)I -/
noncomputable def zi_126 : List (List (Option zI)) := [[zE 3 1 0 0 0, zEw 20 3 11 3 1 913, none, none, zE 1 1 1 0 0, zE 1 1 2 0 0, zE 1 1 3 0 0, zEw 32 3 5 4 0 1013, none, none, zE 35 1 0 0 0]]
/-- ColdShod.trace(I)I -/
noncomputable def zi_127 : List (List (Option zI)) := [[zE 3 1 0 0 0, zEw 20 3 11 3 1 913, none, none, zE 1 1 1 0 0, zEw 32 3 4 2 0 1014, none, none, zE 35 1 0 0 0]]
/-- ColdShod.keep(II)I -/
noncomputable def zi_128 : List (List (Option zI)) := [[zE 1 1 1 0 0, zEw 32 3 135 1 45 939, none, none, zE 15 3 23 0 0, none, none, zE 1 1 2 0 0, some (0, 1, 0, 0, 0, .int (-1), []), zE 16 3 25 0 0, none, none, zE 3 1 0 0 0, zEw 20 3 11 3 1 913, none, none],
  [zE 1 1 2 0 0, zEw 32 3 1 2 0 1015, none, none, zE 15 3 25 1 0, none, none, some (0, 1, 0, 0, 0, .int (-1), []), zE 35 1 0 0 0, zE 1 1 2 0 0, some (0, 1, 0, 0, 0, .int (-1), []), zE 16 3 43 1 0, none, none, zE 3 1 0 0 0, zEw 20 3 11 7 1 922],
  [none, none, zE 1 1 1 0 0, zE 24 1 0 0 0, zEn 1 0, zEw 21 3 8 0 0 940, none, none, zE 17 3 53 0 0, none, none, zE 3 1 0 0 0, zEw 20 3 11 7 1 922, none, none, zE 1 1 1 0 0],
  [zE 24 1 0 0 0, zE 1 1 2 0 0, zEw 32 3 76 2 32 1016, none, none, zEn 1 1, zE 35 1 0 0 0]]
/-- ColdShod.row(III)I -/
noncomputable def zi_129 : List (List (Option zI)) := [[zE 1 1 1 0 0, zEw 32 3 135 1 45 939, none, none, zE 15 3 22 0 0, none, none, zE 1 1 2 0 0, zE 15 3 22 2 0, none, none, zE 1 1 2 0 0, zEn 1 4, zE 16 3 22 4 0, none, none],
  [zE 1 1 3 0 0, zEn 2 60, none, zE 16 3 24 5 0, none, none, some (0, 1, 0, 0, 0, .int (-1), []), zE 35 1 0 0 0, zE 1 1 3 0 0, zE 15 3 31 3 0, none, none, some (0, 2, 0, 0, 0, .int (-14), []), none, zE 35 1 0 0 0, zE 3 1 0 0 0],
  [zEw 20 3 11 7 1 922, none, none, zE 1 1 1 0 0, zE 24 1 0 0 0, zE 1 1 2 0 0, zE 1 1 3 0 0, zEw 32 3 77 3 32 1017, none, none, zEn 1 1, zE 35 1 0 0 0]]
/-- ColdShod.put(IIJ)I -/
noncomputable def zi_130 : List (List (Option zI)) := [[zE 3 1 0 0 0, zE 1 1 1 0 0, zE 1 1 2 0 0, zEw 32 3 142 3 44 1018, none, none, zE 4 2 5 0 0, none, zE 1 2 5 0 0, none, zE 15 3 16 0 0, none, none, zE 1 2 5 0 0, none, zE 35 1 0 0 0],
  [zE 3 1 0 0 0, zEw 20 3 11 7 1 922, none, none, zE 1 1 1 0 0, zE 24 1 0 0 0, zEw 20 3 8 4 1 944, none, none, zE 1 1 2 0 0, zE 3 1 0 0 0, zEw 20 3 11 7 1 922, none, none, zE 1 1 1 0 0, zE 24 1 0 0 0],
  [zE 2 1 3 0 0, zEw 32 3 80 2 32 1019, none, none, zE 26 1 0 0 0, zEn 1 1, zE 35 1 0 0 0]]
/-- ColdShod.element(II)J -/
noncomputable def zi_131 : List (List (Option zI)) := [[zE 3 1 0 0 0, zE 1 1 1 0 0, zE 1 1 2 0 0, zEw 32 3 142 3 44 1018, none, none, zE 15 3 15 0 0, none, none, some (0, 3, 0, 0, 0, .long (-9223372036854775808), [(0, 1020)]), none, none, zE 17 3 26 0 0, none, none, zE 3 1 0 0 0],
  [zEw 20 3 11 7 1 922, none, none, zE 1 1 1 0 0, zE 24 1 0 0 0, zEw 20 3 8 4 1 944, none, none, zE 1 1 2 0 0, zE 23 1 0 0 0, zE 36 1 0 0 0]]
/-- ColdShod.shift(IIIII)I -/
noncomputable def zi_132 : List (List (Option zI)) := [[zE 1 1 1 0 0, zEw 32 3 135 1 45 939, none, none, zE 15 3 14 0 0, none, none, zE 1 1 3 0 0, zEw 32 3 135 1 45 939, none, none, zE 15 3 16 1 0, none, none, some (0, 1, 0, 0, 0, .int (-1), []), zE 35 1 0 0 0],
  [zE 3 1 0 0 0, zEw 20 3 11 7 1 922, none, none, zE 1 1 1 0 0, zE 24 1 0 0 0, zE 6 2 6 0 0, none, zE 3 1 0 0 0, zEw 20 3 11 7 1 922, none, none, zE 1 1 3 0 0, zE 24 1 0 0 0, zE 6 2 7 0 0, none],
  [zE 3 2 6 0 0, none, zEw 20 3 8 0 0 940, none, none, zE 15 3 48 0 0, none, none, zE 3 2 7 0 0, none, zEw 20 3 8 0 0 940, none, none, zE 15 3 51 1 0, none, none],
  [some (0, 2, 0, 0, 0, .int (-11), []), none, zE 35 1 0 0 0, zE 3 2 6 0 0, none, zEw 20 3 8 0 0 940, none, none, zEn 1 2, zE 16 3 82 1 0, none, none, zE 3 2 7 0 0, none, zEw 20 3 8 0 0 940, none],
  [none, zEn 1 2, zE 16 3 82 1 0, none, none, zE 3 2 6 0 0, none, zEw 20 3 8 2 0 1021, none, none, zE 3 2 7 0 0, none, zEw 20 3 8 2 0 1021, none, none, zE 16 3 85 0 0],
  [none, none, some (0, 2, 0, 0, 0, .int (-12), []), none, zE 35 1 0 0 0, zE 1 2 5 0 0, none, zE 15 3 113 2 0, none, none, zE 3 2 6 0 0, none, zE 1 1 2 0 0, zE 1 2 5 0 0, none, zEw 32 3 79 3 32 1022],
  [none, none, zE 15 3 113 0 0, none, none, zE 3 2 7 0 0, none, zE 1 2 4 0 0, none, zE 1 2 5 0 0, none, zEw 32 3 79 3 32 1022, none, none, zE 15 3 116 1 0, none],
  [none, some (0, 2, 0, 0, 0, .int (-13), []), none, zE 35 1 0 0 0, zE 3 2 6 0 0, none, zEw 20 3 8 4 1 944, none, none, zE 1 1 2 0 0, zE 3 2 7 0 0, none, zEw 20 3 8 4 1 944, none, none, zE 1 2 4 0 0],
  [none, zE 1 2 5 0 0, none, zEw 34 3 0 0 0 1006, none, none, zE 1 2 5 0 0, none, zE 35 1 0 0 0]]
/-- ColdShod.taken(II)I -/
noncomputable def zi_133 : List (List (Option zI)) := [[zE 1 1 1 0 0, zEw 32 3 135 1 45 939, none, none, zE 15 3 17 0 0, none, none, zE 1 1 2 0 0, zE 15 3 17 2 0, none, none, zE 1 1 2 0 0, zEn 2 8, none, zE 16 3 19 2 0, none],
  [none, some (0, 1, 0, 0, 0, .int (-1), []), zE 35 1 0 0 0, zE 3 1 0 0 0, zEw 20 3 11 7 1 922, none, none, zE 1 1 1 0 0, zE 24 1 0 0 0, zE 6 1 3 0 0, zE 3 1 3 0 0, zEw 20 3 8 0 0 940, none, none, zE 15 3 36 1 0, none],
  [none, some (0, 2, 0, 0, 0, .int (-11), []), none, zE 35 1 0 0 0, zE 3 1 3 0 0, zEw 20 3 8 0 0 940, none, none, zEn 1 1, zE 16 3 58 1 0, none, none, zE 3 1 0 0 0, zEw 20 3 11 3 1 913, none, none],
  [zE 3 1 3 0 0, zEw 20 3 8 1 0 1023, none, none, zEw 32 3 1 2 0 1015, none, none, zE 15 3 61 1 0, none, none, some (0, 2, 0, 0, 0, .int (-12), []), none, zE 35 1 0 0 0, zE 3 1 0 0 0, zEw 20 3 11 3 1 913, none],
  [none, zEw 20 3 0 0 1 1024, none, none, zE 3 1 3 0 0, zEw 20 3 8 1 0 1023, none, none, zE 22 1 0 0 0, zE 4 2 4 0 0, none, zE 1 2 4 0 0, none, zE 1 1 2 0 0, zEw 32 3 3 2 1 1025, none],
  [none, zE 15 3 89 0 0, none, none, zE 1 2 4 0 0, none, zE 17 3 91 0 0, none, none, some (0, 2, 0, 0, 0, .int (-12), []), none, zE 35 1 0 0 0]]
/-- ColdShod.count(I)I -/
noncomputable def zi_134 : List (List (Option zI)) := [[zE 1 1 1 0 0, some (18, 43, 100, 0, 0, .null, [(0, 44), (1, 52), (2, 60), (3, 68), (4, 76), (5, 84), (6, 92)]), none, none, none, none, none, none, none, none, none, none, none, none, none, none],
  [none, none, none, none, none, none, none, none, none, none, none, none, none, none, none, none],
  [none, none, none, none, none, none, none, none, none, none, none, none, zE 3 1 0 0 0, zEw 20 3 11 0 1 907, none, none],
  [zEw 20 3 2 6 0 930, none, none, zE 35 1 0 0 0, zE 3 1 0 0 0, zEw 20 3 11 0 1 907, none, none, zEw 20 3 2 7 0 933, none, none, zE 35 1 0 0 0, zE 3 1 0 0 0, zEw 20 3 11 0 1 907, none, none],
  [zEw 20 3 2 8 0 963, none, none, zE 35 1 0 0 0, zE 3 1 0 0 0, zEw 20 3 11 1 1 909, none, none, zEw 20 3 6 1 0 954, none, none, zE 35 1 0 0 0, zE 3 1 0 0 0, zEw 20 3 11 2 1 911, none, none],
  [zEw 20 3 1 0 0 1008, none, none, zE 35 1 0 0 0, zE 3 1 0 0 0, zEw 20 3 11 3 1 913, none, none, zEw 20 3 0 1 0 1026, none, none, zE 35 1 0 0 0, zE 3 1 0 0 0, zEw 20 3 11 3 1 913, none, none],
  [zEw 20 3 0 2 0 1027, none, none, zE 35 1 0 0 0, some (0, 1, 0, 0, 0, .int (-1), []), zE 35 1 0 0 0]]
/-- ColdShod.isShelf(I)Z -/
noncomputable def zi_135 : List (List (Option zI)) := [[zE 1 1 0 0 0, zE 15 3 14 2 0, none, none, zE 1 1 0 0 0, zEn 2 6, none, zE 16 3 14 3 0, none, none, zEn 1 1, zE 17 3 15 0 0, none, none, zEn 1 0, zE 35 1 0 0 1]]
/-- ColdShod.areShelves(I)Z -/
noncomputable def zi_136 : List (List (Option zI)) := [[zE 1 1 0 0 0, zE 15 3 28 2 0, none, none, zE 1 1 0 0 0, zEn 2 10, none, zE 8 1 0 0 0, zEw 32 3 135 1 45 939, none, none, zE 15 3 28 0 0, none, none, zE 1 1 0 0 0, zEn 2 10],
  [none, zE 8 1 0 1 0, zEw 32 3 135 1 45 939, none, none, zE 15 3 28 0 0, none, none, zEn 1 1, zE 17 3 29 0 0, none, none, zEn 1 0, zE 35 1 0 0 1]]
/-- ColdShod.isPlace(J)Z -/
noncomputable def zi_137 : List (List (Option zI)) := [[zE 2 1 0 0 0, some (0, 1, 0, 0, 0, .long 0, []), zE 14 1 0 0 0, zE 15 3 18 2 0, none, none, zE 2 1 0 0 0, some (0, 3, 0, 0, 0, .long 8, [(0, 1028)]), none, none, zE 14 1 0 0 0, zE 15 3 18 3 0, none, none, zEn 1 1, zE 17 3 19 0 0],
  [none, none, zEn 1 0, zE 35 1 0 0 1]]
/-- ColdShod.areUnlikePlaces(I)Z -/
noncomputable def zi_138 : List (List (Option zI)) := [[zE 1 1 0 0 0, zE 15 3 41 2 0, none, none, zE 1 1 0 0 0, zEn 2 10, none, zE 8 1 0 0 0, zE 10 1 0 0 0, zEw 32 3 137 1 45 945, none, none, zE 15 3 41 0 0, none, none, zE 1 1 0 0 0],
  [zEn 2 10, none, zE 8 1 0 1 0, zE 10 1 0 0 0, zEw 32 3 137 1 45 945, none, none, zE 15 3 41 0 0, none, none, zE 1 1 0 0 0, zEn 2 10, none, zE 8 1 0 0 0, zE 1 1 0 0 0, zEn 2 10],
  [none, zE 8 1 0 1 0, zE 16 3 41 0 0, none, none, zEn 1 1, zE 17 3 42 0 0, none, none, zEn 1 0, zE 35 1 0 0 1]]
/-- ColdShod.thoughtOf(I)LColdShod$Idea; -/
noncomputable def zi_139 : List (List (Option zI)) := [[zE 3 1 0 0 0, zEw 20 3 11 8 1 924, none, none, zEn 1 0, zE 24 1 0 0 0, zE 3 1 0 0 0, zEw 20 3 11 0 1 907, none, none, zEw 20 3 2 2 1 934, none, none, zE 1 1 1 0 0, zE 24 1 0 0 0, zEw 32 3 35 2 12 994],
  [none, none, zE 3 1 0 0 0, zEw 20 3 11 8 1 924, none, none, zEn 1 0, zE 24 1 0 0 0, zE 37 1 0 0 0]]
/-- ColdShod.refusalOfBytes(LColdShod$Shelf;)I -/
noncomputable def zi_140 : List (List (Option zI)) := [[zE 3 1 0 0 0, zEw 20 3 8 0 0 940, none, none, zE 15 3 10 1 0, none, none, some (0, 2, 0, 0, 0, .int (-11), []), none, zE 35 1 0 0 0, zE 3 1 0 0 0, zEw 32 3 78 1 32 941, none, none, zE 15 3 21 0 0, none],
  [none, zEn 1 0, zE 17 3 23 0 0, none, none, some (0, 2, 0, 0, 0, .int (-12), []), none, zE 35 1 0 0 0]]
/-- ColdShod.refusalOfEdge(I)I -/
noncomputable def zi_141 : List (List (Option zI)) := [[zE 3 1 0 0 0, zEw 20 3 11 7 1 922, none, none, zE 1 1 1 0 0, zEn 2 10, none, zE 8 1 0 0 0, zE 24 1 0 0 0, zEw 32 3 140 1 45 962, none, none, zE 4 1 2 0 0, zE 1 1 2 0 0, zE 15 3 21 0 0, none],
  [none, zE 1 1 2 0 0, zE 17 3 33 0 0, none, none, zE 3 1 0 0 0, zEw 20 3 11 7 1 922, none, none, zE 1 1 1 0 0, zEn 2 10, none, zE 8 1 0 1 0, zE 24 1 0 0 0, zEw 32 3 140 1 45 962, none],
  [none, zE 35 1 0 0 0]]
/-- ColdShod.refusalOfElement(II)I -/
noncomputable def zi_142 : List (List (Option zI)) := [[zE 1 1 1 0 0, zEw 32 3 135 1 45 939, none, none, zE 15 3 9 1 0, none, none, some (0, 1, 0, 0, 0, .int (-1), []), zE 35 1 0 0 0, zE 3 1 0 0 0, zEw 20 3 11 7 1 922, none, none, zE 1 1 1 0 0, zE 24 1 0 0 0, zEw 20 3 8 0 0 940],
  [none, none, zE 15 3 24 1 0, none, none, some (0, 2, 0, 0, 0, .int (-11), []), none, zE 35 1 0 0 0, zE 3 1 0 0 0, zEw 20 3 11 7 1 922, none, none, zE 1 1 1 0 0, zE 24 1 0 0 0, zEw 20 3 8 0 0 940, none],
  [none, zEn 1 2, zE 16 3 40 0 0, none, none, some (0, 2, 0, 0, 0, .int (-12), []), none, zE 35 1 0 0 0, zE 1 1 2 0 0, zE 15 3 57 2 0, none, none, zE 1 1 2 0 0, zE 3 1 0 0 0, zEw 20 3 11 7 1 922, none],
  [none, zE 1 1 1 0 0, zE 24 1 0 0 0, zEw 20 3 8 3 0 942, none, none, zE 16 3 62 2 0, none, none, some (0, 2, 0, 0, 0, .int (-13), []), none, zE 17 3 63 0 0, none, none, zEn 1 0, zE 35 1 0 0 0]]
/-- ColdShodModel.within(JJJ)Z -/
noncomputable def zi_143 : List (List (Option zI)) := [[zE 2 1 0 0 0, zE 2 1 2 0 0, zE 14 1 0 0 0, zE 15 3 17 2 0, none, none, zE 2 1 0 0 0, zE 2 2 4 0 0, none, zE 14 1 0 0 0, zE 15 3 17 4 0, none, none, zEn 1 1, zE 17 3 18 0 0, none],
  [none, zEn 1 0, zE 35 1 0 0 1]]
/-- ColdShodModel.isIn(II)Z -/
noncomputable def zi_144 : List (List (Option zI)) := [[zE 1 1 0 0 0, zE 1 1 1 0 0, zE 7 1 0 7 0, zEn 1 1, zE 7 1 0 3 0, zEn 1 1, zE 16 3 13 1 0, none, none, zEn 1 1, zE 17 3 14 0 0, none, none, zEn 1 0, zE 35 1 0 0 1]]
/-- ColdShodModel.bitsOf(I)I -/
noncomputable def zi_145 : List (List (Option zI)) := [[zEn 1 0, zE 4 1 1 0 0, zEn 1 0, zE 4 1 2 0 0, zE 1 1 2 0 0, zEn 2 12, none, zE 16 3 24 3 0, none, none, zE 1 1 1 0 0, zE 1 1 0 0 0, zE 1 1 2 0 0, zE 7 1 0 7 0, zEn 1 1, zE 7 1 0 3 0],
  [zE 7 1 0 0 0, zE 4 1 1 0 0, some (19, 3, 2, 0, 0, .int 1, []), none, none, zE 17 3 4 0 0, none, none, zE 1 1 1 0 0, zE 35 1 0 0 0]]
/-- ColdShodModel.sizeOf(I)I -/
noncomputable def zi_146 : List (List (Option zI)) := [[zE 1 1 0 0 0, zE 15 3 9 3 0, none, none, zE 1 1 0 0 0, zE 9 1 0 0 0, zE 17 3 10 0 0, none, none, zE 1 1 0 0 0, zE 35 1 0 0 0]]
/-- ColdShodModel.<init>()V -/
noncomputable def zi_147 : List (List (Option zI)) := [[zE 3 1 0 0 0, zEw 33 3 0 0 0 1029, none, none, zE 3 1 0 0 0, zEn 2 104, none, zEw 30 2 0 0 0 704, none, zEw 21 3 12 0 1 1030, none, none, zE 3 1 0 0 0, zEn 2 40, none, zEw 30 2 0 0 0 704],
  [none, zEw 21 3 12 1 1 1031, none, none, zE 3 1 0 0 0, zEn 2 40, none, zEw 30 2 0 0 0 704, none, zEw 21 3 12 2 1 1032, none, none, zE 3 1 0 0 0, zEn 2 40, none, zEw 30 2 0 0 0 704],
  [none, zEw 21 3 12 3 1 1033, none, none, zE 3 1 0 0 0, zEn 2 12, none, zEw 30 2 0 0 0 704, none, zEw 21 3 12 9 1 1034, none, none, zE 3 1 0 0 0, zEn 2 12, none, zEw 30 2 0 0 0 704],
  [none, zEw 21 3 12 10 1 1035, none, none, zE 3 1 0 0 0, zEn 2 120, none, zEw 30 2 0 0 0 704, none, zEw 21 3 12 11 1 1036, none, none, zE 3 1 0 0 0, zEn 2 120, none, zEw 30 2 0 0 0 704],
  [none, zEw 21 3 12 13 1 1037, none, none, zE 3 1 0 0 0, zEn 2 6, none, zEw 30 2 0 0 0 704, none, zEw 21 3 12 20 1 1038, none, none, zE 3 1 0 0 0, zEn 2 7, none, zEw 30 2 0 0 0 704],
  [none, zEw 21 3 12 21 1 1039, none, none, zE 3 1 0 0 0, zEn 1 4, zEw 30 2 0 0 0 704, none, zEw 21 3 12 26 1 1040, none, none, zE 3 1 0 0 0, zEn 2 8, none, zEw 30 2 0 0 0 704, none],
  [zEw 21 3 12 27 1 1041, none, none, zE 3 1 0 0 0, zEn 2 8, none, zEw 30 2 0 0 0 704, none, zEw 21 3 12 28 1 1042, none, none, zE 3 1 0 0 0, zEn 2 8, none, zEw 30 2 0 0 0 704, none],
  [zEw 21 3 12 31 1 1043, none, none, zE 3 1 0 0 0, zEn 2 6, none, zEw 30 2 0 0 0 704, none, zEw 21 3 12 32 1 1044, none, none, zE 3 1 0 0 0, zEn 1 5, zEw 30 2 0 0 0 704, none, zEw 21 3 12 33 1 1045],
  [none, none, zE 3 1 0 0 0, zEn 1 5, zEw 30 2 0 0 0 704, none, zEw 21 3 12 34 1 1046, none, none, zE 3 1 0 0 0, zEn 2 104, none, zEw 30 2 0 0 0 704, none, zEw 21 3 12 37 1 1047, none],
  [none, zE 3 1 0 0 0, zEn 1 5, zEw 30 2 0 0 0 704, none, zEw 21 3 12 38 1 1048, none, none, zE 3 1 0 0 0, zEn 2 50, none, zEw 30 2 0 0 0 704, none, zEw 21 3 12 40 1 1049, none, none],
  [zE 3 1 0 0 0, zEn 2 24, none, zEw 30 2 0 0 0 704, none, zEw 21 3 12 41 1 1050, none, none, zE 3 1 0 0 0, zEn 2 6, none, zEw 30 2 0 0 0 704, none, zEw 21 3 12 45 1 1051, none, none],
  [zE 3 1 0 0 0, zEn 2 6, none, zEw 30 2 0 0 0 704, none, zEw 21 3 12 46 1 1052, none, none, zE 3 1 0 0 0, zEn 3 360, none, none, zEw 30 2 1 0 0 705, none, zEw 21 3 12 47 1 1053, none],
  [none, zE 3 1 0 0 0, zEn 2 60, none, zEw 30 2 1 0 0 705, none, zEw 21 3 12 48 1 1054, none, none, zEn 1 0, zE 4 1 1 0 0, zE 1 1 1 0 0, zEn 2 6, none, zE 16 3 222 3 0, none],
  [none, zE 3 1 0 0 0, zEw 20 3 12 45 1 1051, none, none, zE 1 1 1 0 0, some (0, 1, 0, 0, 0, .int (-1), []), zE 25 1 0 0 0, some (19, 3, 1, 0, 0, .int 1, []), none, none, zE 17 3 203 0 0, none, none, zE 3 1 0 0 0, some (0, 1, 0, 0, 0, .int (-1), [])],
  [zEw 21 3 12 14 0 1055, none, none, zE 38 1 0 0 0]]
/-- ColdShodModel.becomes(II)I -/
noncomputable def zi_148 : List (List (Option zI)) := [[zE 3 1 0 0 0, zEw 20 3 12 0 1 1030, none, none, zE 1 1 1 0 0, zE 22 1 0 0 0, zE 4 1 3 0 0, zE 1 1 3 0 0, zE 1 1 2 0 0, zE 16 3 14 1 0, none, none, zE 1 1 3 0 0, zE 35 1 0 0 0, zE 3 1 0 0 0, zEw 20 3 12 5 0 1056],
  [none, none, zEn 2 40, none, zE 16 3 97 1 0, none, none, zEn 1 1, zE 4 2 4 0 0, none, zE 1 2 4 0 0, none, zEn 2 40, none, zE 16 3 87 3 0, none],
  [none, zE 3 1 0 0 0, zEw 20 3 12 1 1 1031, none, none, zE 1 2 4 0 0, none, zEn 1 1, zE 7 1 0 1 0, zE 3 1 0 0 0, zEw 20 3 12 1 1 1031, none, none, zE 1 2 4 0 0, none, zE 22 1 0 0 0],
  [zE 25 1 0 0 0, zE 3 1 0 0 0, zEw 20 3 12 2 1 1032, none, none, zE 1 2 4 0 0, none, zEn 1 1, zE 7 1 0 1 0, zE 3 1 0 0 0, zEw 20 3 12 2 1 1032, none, none, zE 1 2 4 0 0, none, zE 22 1 0 0 0],
  [zE 25 1 0 0 0, zE 3 1 0 0 0, zEw 20 3 12 3 1 1033, none, none, zE 1 2 4 0 0, none, zEn 1 1, zE 7 1 0 1 0, zE 3 1 0 0 0, zEw 20 3 12 3 1 1033, none, none, zE 1 2 4 0 0, none, zE 22 1 0 0 0],
  [zE 25 1 0 0 0, some (19, 3, 4, 0, 0, .int 1, []), none, none, zE 17 3 26 0 0, none, none, zE 3 1 0 0 0, zE 39 1 0 0 0, zEw 20 3 12 5 0 1056, none, none, zEn 1 1, zE 7 1 0 1 0, zEw 21 3 12 5 0 1056, none],
  [none, zE 3 1 0 0 0, zEw 20 3 12 1 1 1031, none, none, zE 3 1 0 0 0, zEw 20 3 12 5 0 1056, none, none, zE 1 1 1 0 0, zE 25 1 0 0 0, zE 3 1 0 0 0, zEw 20 3 12 2 1 1032, none, none, zE 3 1 0 0 0],
  [zEw 20 3 12 5 0 1056, none, none, zE 1 1 3 0 0, zE 25 1 0 0 0, zE 3 1 0 0 0, zEw 20 3 12 3 1 1033, none, none, zE 3 1 0 0 0, zEw 20 3 12 5 0 1056, none, none, zE 1 1 2 0 0, zE 25 1 0 0 0, zE 3 1 0 0 0],
  [zE 39 1 0 0 0, zEw 20 3 12 5 0 1056, none, none, zEn 1 1, zE 7 1 0 0 0, zEw 21 3 12 5 0 1056, none, none, zE 3 1 0 0 0, zE 3 1 0 0 0, zEw 20 3 12 5 0 1056, none, none, zEw 21 3 12 4 0 1057, none],
  [none, zE 3 1 0 0 0, zEw 20 3 12 0 1 1030, none, none, zE 1 1 1 0 0, zE 1 1 2 0 0, zE 25 1 0 0 0, zE 1 1 3 0 0, zE 35 1 0 0 0]]
/-- ColdShodModel.undo()I -/
noncomputable def zi_149 : List (List (Option zI)) := [[zE 3 1 0 0 0, zEw 20 3 12 5 0 1056, none, none, zE 15 3 10 1 0, none, none, some (0, 2, 0, 0, 0, .int (-5), []), none, zE 35 1 0 0 0, zE 3 1 0 0 0, zE 39 1 0 0 0, zEw 20 3 12 5 0 1056, none, none, zEn 1 1],
  [zE 7 1 0 1 0, zEw 21 3 12 5 0 1056, none, none, zE 3 1 0 0 0, zEw 20 3 12 0 1 1030, none, none, zE 3 1 0 0 0, zEw 20 3 12 1 1 1031, none, none, zE 3 1 0 0 0, zEw 20 3 12 5 0 1056, none, none],
  [zE 22 1 0 0 0, zE 3 1 0 0 0, zEw 20 3 12 2 1 1032, none, none, zE 3 1 0 0 0, zEw 20 3 12 5 0 1056, none, none, zE 22 1 0 0 0, zE 25 1 0 0 0, zE 3 1 0 0 0, zEw 20 3 12 5 0 1056, none, none, zE 35 1 0 0 0]]
/-- ColdShodModel.redo()I -/
noncomputable def zi_150 : List (List (Option zI)) := [[zE 3 1 0 0 0, zEw 20 3 12 5 0 1056, none, none, zE 3 1 0 0 0, zEw 20 3 12 4 0 1057, none, none, zE 16 3 14 1 0, none, none, some (0, 2, 0, 0, 0, .int (-5), []), none, zE 35 1 0 0 0, zE 3 1 0 0 0, zEw 20 3 12 0 1 1030],
  [none, none, zE 3 1 0 0 0, zEw 20 3 12 1 1 1031, none, none, zE 3 1 0 0 0, zEw 20 3 12 5 0 1056, none, none, zE 22 1 0 0 0, zE 3 1 0 0 0, zEw 20 3 12 3 1 1033, none, none, zE 3 1 0 0 0],
  [zEw 20 3 12 5 0 1056, none, none, zE 22 1 0 0 0, zE 25 1 0 0 0, zE 3 1 0 0 0, zE 39 1 0 0 0, zEw 20 3 12 5 0 1056, none, none, zEn 1 1, zE 7 1 0 0 0, zEw 21 3 12 5 0 1056, none, none, zE 3 1 0 0 0],
  [zEw 20 3 12 4 0 1057, none, none, zE 3 1 0 0 0, zEw 20 3 12 5 0 1056, none, none, zE 7 1 0 1 0, zE 35 1 0 0 0]]
/-- ColdShodModel.isHead(J)Z -/
noncomputable def zi_151 : List (List (Option zI)) := [[zE 2 1 1 0 0, some (0, 1, 0, 0, 0, .long 0, []), zE 3 1 0 0 0, zEw 20 3 12 6 0 1058, none, none, zEn 1 1, zE 7 1 0 1 0, zE 10 1 0 0 0, zEw 32 3 143 3 49 1059, none, none, zE 35 1 0 0 1]]
/-- ColdShodModel.isIdea(J)Z -/
noncomputable def zi_152 : List (List (Option zI)) := [[zE 2 1 1 0 0, some (0, 1, 0, 0, 0, .long 0, []), zE 3 1 0 0 0, zEw 20 3 12 7 0 1060, none, none, zEn 1 1, zE 7 1 0 1 0, zE 10 1 0 0 0, zEw 32 3 143 3 49 1059, none, none, zE 35 1 0 0 1]]
/-- ColdShodModel.isRoad(J)Z -/
noncomputable def zi_153 : List (List (Option zI)) := [[zE 2 1 1 0 0, some (0, 1, 0, 0, 0, .long 0, []), zE 3 1 0 0 0, zEw 20 3 12 8 0 1061, none, none, zEn 1 1, zE 7 1 0 1 0, zE 10 1 0 0 0, zEw 32 3 143 3 49 1059, none, none, zE 35 1 0 0 1]]
/-- ColdShodModel.isPlace(J)Z -/
noncomputable def zi_154 : List (List (Option zI)) := [[zE 2 1 0 0 0, some (0, 1, 0, 0, 0, .long 0, []), some (0, 3, 0, 0, 0, .long 7, [(0, 1062)]), none, none, zEw 32 3 143 3 49 1059, none, none, zE 35 1 0 0 1]]
/-- ColdShodModel.head(I)I -/
noncomputable def zi_155 : List (List (Option zI)) := [[zE 1 1 1 0 0, zE 10 1 0 0 0, some (0, 1, 0, 0, 0, .long 0, []), some (0, 3, 0, 0, 0, .long 5, [(0, 1063)]), none, none, zEw 32 3 143 3 49 1059, none, none, zE 15 3 14 1 0, none, none, some (0, 1, 0, 0, 0, .int (-1), []), zE 35 1 0 0 0, zE 3 1 0 0 0, zEw 20 3 12 6 0 1058],
  [none, none, zEn 2 6, none, zE 16 3 26 1 0, none, none, some (0, 2, 0, 0, 0, .int (-3), []), none, zE 35 1 0 0 0, zE 3 1 0 0 0, zEw 20 3 12 0 1 1030, none, none, zE 3 1 0 0 0, zEw 20 3 12 6 0 1058],
  [none, none, zE 1 1 1 0 0, zE 25 1 0 0 0, zE 3 1 0 0 0, zEw 20 3 12 0 1 1030, none, none, zEn 2 6, none, zE 3 1 0 0 0, zEw 20 3 12 6 0 1058, none, none, zE 7 1 0 0 0, zEn 2 6],
  [none, zE 25 1 0 0 0, zE 3 1 0 0 0, zE 39 1 0 0 0, zEw 20 3 12 6 0 1058, none, none, zEn 1 1, zE 7 1 0 0 0, zEw 21 3 12 6 0 1058, none, none, zE 3 1 0 0 0, zEw 20 3 12 6 0 1058, none, none],
  [zEn 1 1, zE 7 1 0 1 0, zE 35 1 0 0 0]]
/-- ColdShodModel.idea(II)I -/
noncomputable def zi_156 : List (List (Option zI)) := [[zE 1 1 1 0 0, zE 10 1 0 0 0, some (0, 1, 0, 0, 0, .long 0, []), some (0, 3, 0, 0, 0, .long 3, [(0, 1064)]), none, none, zEw 32 3 143 3 49 1059, none, none, zE 15 3 24 0 0, none, none, zE 1 1 2 0 0, zE 10 1 0 0 0, some (0, 1, 0, 0, 0, .long 0, []), some (0, 3, 0, 0, 0, .long 5, [(0, 1063)])],
  [none, none, zEw 32 3 143 3 49 1059, none, none, zE 15 3 26 1 0, none, none, some (0, 1, 0, 0, 0, .int (-1), []), zE 35 1 0 0 0, zE 3 1 0 0 0, zEw 20 3 12 7 0 1060, none, none, zEn 2 8, none],
  [zE 16 3 38 1 0, none, none, some (0, 2, 0, 0, 0, .int (-3), []), none, zE 35 1 0 0 0, zE 3 1 0 0 0, zEw 20 3 12 0 1 1030, none, none, zEn 2 12, none, zE 3 1 0 0 0, zEw 20 3 12 7 0 1060, none, none],
  [zE 7 1 0 0 0, zE 1 1 1 0 0, zE 25 1 0 0 0, zE 3 1 0 0 0, zEw 20 3 12 0 1 1030, none, none, zEn 2 20, none, zE 3 1 0 0 0, zEw 20 3 12 7 0 1060, none, none, zE 7 1 0 0 0, zE 1 1 2 0 0, zE 25 1 0 0 0],
  [zE 3 1 0 0 0, zEw 20 3 12 0 1 1030, none, none, zEn 2 60, none, zE 3 1 0 0 0, zEw 20 3 12 7 0 1060, none, none, zE 7 1 0 0 0, some (0, 1, 0, 0, 0, .int (-1), []), zE 25 1 0 0 0, zE 3 1 0 0 0, zE 39 1 0 0 0, zEw 20 3 12 7 0 1060],
  [none, none, zEn 1 1, zE 7 1 0 0 0, zEw 21 3 12 7 0 1060, none, none, zE 3 1 0 0 0, zEw 20 3 12 7 0 1060, none, none, zEn 1 1, zE 7 1 0 1 0, zE 35 1 0 0 0]]
/-- ColdShodModel.mayCome(JJJ)Z -/
noncomputable def zi_157 : List (List (Option zI)) := [[zE 2 1 0 0 0, zEw 32 3 154 1 49 1065, none, none, zE 15 3 36 0 0, none, none, zE 2 1 2 0 0, zEw 32 3 154 1 49 1065, none, none, zE 15 3 36 0 0, none, none, zE 2 1 0 0 0, zE 2 1 2 0 0],
  [zE 14 1 0 0 0, zE 15 3 36 0 0, none, none, zE 2 2 4 0 0, none, some (0, 1, 0, 0, 0, .long 1, []), some (0, 3, 0, 0, 0, .long 9, [(0, 1066)]), none, none, zEw 32 3 143 3 49 1059, none, none, zE 15 3 36 0 0, none, none],
  [zEn 1 1, zE 17 3 37 0 0, none, none, zEn 1 0, zE 35 1 0 0 1]]
/-- ColdShodModel.adds(III)V -/
noncomputable def zi_158 : List (List (Option zI)) := [[zE 3 1 0 0 0, zEw 20 3 12 9 1 1034, none, none, zE 3 1 0 0 0, zEw 20 3 12 8 0 1061, none, none, zE 1 1 1 0 0, zE 25 1 0 0 0, zE 3 1 0 0 0, zEw 20 3 12 10 1 1035, none, none, zE 3 1 0 0 0, zEw 20 3 12 8 0 1061],
  [none, none, zE 1 1 2 0 0, zE 25 1 0 0 0, zE 3 1 0 0 0, zEw 20 3 12 0 1 1030, none, none, zEn 2 68, none, zE 3 1 0 0 0, zEw 20 3 12 8 0 1061, none, none, zE 7 1 0 0 0, zE 1 1 3 0 0],
  [zE 25 1 0 0 0, zE 3 1 0 0 0, zE 39 1 0 0 0, zEw 20 3 12 8 0 1061, none, none, zEn 1 1, zE 7 1 0 0 0, zEw 21 3 12 8 0 1061, none, none, zE 38 1 0 0 0]]
/-- ColdShodModel.road(II)I -/
noncomputable def zi_159 : List (List (Option zI)) := [[zE 1 1 1 0 0, zE 15 3 22 2 0, none, none, zE 1 1 1 0 0, zEn 2 10, none, zE 8 1 0 0 0, zE 10 1 0 0 0, zE 1 1 1 0 0, zEn 2 10, none, zE 8 1 0 1 0, zE 10 1 0 0 0, zE 1 1 2 0 0, zE 10 1 0 0 0],
  [zEw 32 3 157 3 49 1067, none, none, zE 15 3 24 1 0, none, none, some (0, 1, 0, 0, 0, .int (-1), []), zE 35 1 0 0 0, zE 3 1 0 0 0, zEw 20 3 12 8 0 1061, none, none, zEn 2 12, none, zE 16 3 36 1 0, none],
  [none, some (0, 2, 0, 0, 0, .int (-3), []), none, zE 35 1 0 0 0, zE 3 1 0 0 0, zE 1 1 1 0 0, zEn 2 10, none, zE 8 1 0 0 0, zE 1 1 1 0 0, zEn 2 10, none, zE 8 1 0 1 0, zE 1 1 2 0 0, zEw 32 3 158 4 48 1068, none],
  [none, zE 3 1 0 0 0, zEw 20 3 12 8 0 1061, none, none, zEn 1 1, zE 7 1 0 1 0, zE 35 1 0 0 0]]
/-- ColdShodModel.roads(III)I -/
noncomputable def zi_160 : List (List (Option zI)) := [[zE 1 1 1 0 0, zEw 32 3 228 1 49 1069, none, none, zE 15 3 19 0 0, none, none, zE 1 1 3 0 0, zE 10 1 0 0 0, some (0, 1, 0, 0, 0, .long 1, []), some (0, 3, 0, 0, 0, .long 12, [(0, 1070)]), none, none, zEw 32 3 143 3 49 1059, none, none],
  [zE 15 3 21 1 0, none, none, some (0, 1, 0, 0, 0, .int (-1), []), zE 35 1 0 0 0, zE 3 1 0 0 0, zEw 20 3 12 45 1 1051, none, none, zE 1 1 1 0 0, zE 22 1 0 0 0, zE 15 3 44 2 0, none, none, zE 3 1 0 0 0, zEw 20 3 12 45 1 1051],
  [none, none, zE 1 1 1 0 0, zE 22 1 0 0 0, zEn 2 50, none, zE 16 3 44 0 0, none, none, some (0, 2, 0, 0, 0, .int (-12), []), none, zE 35 1 0 0 0, zEn 1 0, zE 4 2 4 0 0, none, zE 3 1 0 0 0],
  [zEw 20 3 12 45 1 1051, none, none, zE 1 1 1 0 0, zE 22 1 0 0 0, zEn 2 50, none, zE 16 3 66 1 0, none, none, zE 1 1 2 0 0, zE 15 3 66 2 0, none, none, zEn 1 1, zE 17 3 67 0 0],
  [none, none, zEn 1 0, zE 4 2 5 0 0, none, zE 1 2 5 0 0, none, zE 15 3 212 0 0, none, none, zE 1 2 4 0 0, none, zE 1 1 3 0 0, zE 16 3 212 3 0, none, none],
  [zE 1 1 2 0 0, zE 3 1 0 0 0, zEw 20 3 12 46 1 1052, none, none, zE 1 1 1 0 0, zE 22 1 0 0 0, zEn 1 3, zE 7 1 0 1 0, zEn 1 3, zE 1 2 4 0 0, none, zE 7 1 0 2 0, zE 7 1 0 1 0, zE 16 3 110 4 0, none],
  [none, zE 3 1 0 0 0, zEw 20 3 12 8 0 1061, none, none, zEn 2 12, none, zE 16 3 110 3 0, none, none, zEn 1 1, zE 17 3 111 0 0, none, none, zEn 1 0, zE 4 2 5 0 0],
  [none, zEn 2 60, none, zE 1 1 1 0 0, zE 7 1 0 2 0, zE 1 1 2 0 0, zE 7 1 0 0 0, zEn 1 3, zE 1 2 4 0 0, none, zE 7 1 0 2 0, zE 7 1 0 0 0, zE 4 2 6 0 0, none, zE 1 2 5 0 0, none],
  [zE 15 3 166 0 0, none, none, zE 3 1 0 0 0, zEw 20 3 12 47 1 1053, none, none, zE 1 2 6 0 0, none, zE 23 1 0 0 0, zE 3 1 0 0 0, zEw 20 3 12 47 1 1053, none, none, zE 1 2 6 0 0, none],
  [zEn 1 1, zE 7 1 0 0 0, zE 23 1 0 0 0, zE 3 1 0 0 0, zEw 20 3 12 47 1 1053, none, none, zE 1 2 6 0 0, none, zEn 1 2, zE 7 1 0 0 0, zE 23 1 0 0 0, zEw 32 3 157 3 49 1067, none, none, zE 15 3 166 0 0],
  [none, none, zEn 1 1, zE 17 3 167 0 0, none, none, zEn 1 0, zE 4 2 5 0 0, none, zE 1 2 5 0 0, none, zE 15 3 209 0 0, none, none, zE 3 1 0 0 0, zE 3 1 0 0 0],
  [zEw 20 3 12 47 1 1053, none, none, zE 1 2 6 0 0, none, zE 23 1 0 0 0, zE 11 1 0 0 0, zE 3 1 0 0 0, zEw 20 3 12 47 1 1053, none, none, zE 1 2 6 0 0, none, zEn 1 1, zE 7 1 0 0 0, zE 23 1 0 0 0],
  [zE 11 1 0 0 0, zE 3 1 0 0 0, zEw 20 3 12 47 1 1053, none, none, zE 1 2 6 0 0, none, zEn 1 2, zE 7 1 0 0 0, zE 23 1 0 0 0, zE 11 1 0 0 0, zEw 32 3 158 4 48 1068, none, none, some (19, 3, 4, 0, 0, .int 1, []), none],
  [none, zE 17 3 69 0 0, none, none, zE 1 2 4 0 0, none, zE 35 1 0 0 0]]
/-- ColdShodModel.placeOf(II)I -/
noncomputable def zi_161 : List (List (Option zI)) := [[zE 1 1 2 0 0, zE 10 1 0 0 0, some (0, 1, 0, 0, 0, .long 0, []), some (0, 1, 0, 0, 0, .long 1, []), zEw 32 3 143 3 49 1059, none, none, zE 15 3 30 0 0, none, none, zE 3 1 0 0 0, zE 1 1 1 0 0, zE 10 1 0 0 0, zEw 32 3 151 2 48 1071, none, none],
  [zE 15 3 28 0 0, none, none, zEn 2 6, none, zE 1 1 2 0 0, zE 7 1 0 2 0, zE 1 1 1 0 0, zE 7 1 0 0 0, zE 17 3 29 0 0, none, none, some (0, 1, 0, 0, 0, .int (-1), []), zE 35 1 0 0 0, zE 1 1 2 0 0, zE 10 1 0 0 0],
  [some (0, 3, 0, 0, 0, .long 2, [(0, 1072)]), none, none, some (0, 3, 0, 0, 0, .long 8, [(0, 1073)]), none, none, zEw 32 3 143 3 49 1059, none, none, zE 15 3 69 0 0, none, none, zE 3 1 0 0 0, zE 1 1 1 0 0, zE 10 1 0 0 0, zEw 32 3 152 2 48 1074],
  [none, none, zE 15 3 67 0 0, none, none, zEn 2 12, none, zEn 2 8, none, zE 1 1 2 0 0, zEn 1 2, zE 7 1 0 1 0, zE 7 1 0 2 0, zE 7 1 0 0 0, zE 1 1 1 0 0, zE 7 1 0 0 0],
  [zE 17 3 68 0 0, none, none, some (0, 1, 0, 0, 0, .int (-1), []), zE 35 1 0 0 0, zE 1 1 2 0 0, zE 10 1 0 0 0, some (0, 3, 0, 0, 0, .long 9, [(0, 1066)]), none, none, some (0, 3, 0, 0, 0, .long 11, [(0, 1075)]), none, none, zEw 32 3 143 3 49 1059, none, none],
  [zE 15 3 107 0 0, none, none, zE 3 1 0 0 0, zE 1 1 1 0 0, zE 10 1 0 0 0, zEw 32 3 153 2 48 1076, none, none, zE 15 3 107 0 0, none, none, zEn 2 68, none, zEn 2 12, none],
  [zE 1 1 2 0 0, zEn 2 9, none, zE 7 1 0 1 0, zE 7 1 0 2 0, zE 7 1 0 0 0, zE 1 1 1 0 0, zE 7 1 0 0 0, zE 17 3 108 0 0, none, none, some (0, 1, 0, 0, 0, .int (-1), []), zE 35 1 0 0 0]]
/-- ColdShodModel.mayBecome(II)Z -/
noncomputable def zi_162 : List (List (Option zI)) := [[zE 1 1 1 0 0, some (18, 63, 152, 0, 0, .null, [(0, 64), (1, 74), (2, 84), (3, 64), (4, 94), (5, 152), (6, 104), (7, 152), (8, 112), (9, 132), (10, 152), (11, 142)]), none, none, none, none, none, none, none, none, none, none, none, none, none, none],
  [none, none, none, none, none, none, none, none, none, none, none, none, none, none, none, none],
  [none, none, none, none, none, none, none, none, none, none, none, none, none, none, none, none],
  [none, none, none, none, none, none, none, none, none, none, none, none, none, none, none, none],
  [zE 1 1 2 0 0, zE 10 1 0 0 0, some (0, 1, 0, 0, 0, .long 0, []), some (0, 3, 0, 0, 0, .long 5, [(0, 1063)]), none, none, zEw 32 3 143 3 49 1059, none, none, zE 35 1 0 0 1, zE 1 1 2 0 0, zE 10 1 0 0 0, some (0, 1, 0, 0, 0, .long 0, []), some (0, 3, 0, 0, 0, .long 12, [(0, 1070)]), none, none],
  [zEw 32 3 143 3 49 1059, none, none, zE 35 1 0 0 1, zE 1 1 2 0 0, zE 10 1 0 0 0, some (0, 1, 0, 0, 0, .long 0, []), some (0, 3, 0, 0, 0, .long 3, [(0, 1064)]), none, none, zEw 32 3 143 3 49 1059, none, none, zE 35 1 0 0 1, zE 1 1 2 0 0, zE 10 1 0 0 0],
  [some (0, 1, 0, 0, 0, .long 0, []), some (0, 3, 0, 0, 0, .long 99, [(0, 1077)]), none, none, zEw 32 3 143 3 49 1059, none, none, zE 35 1 0 0 1, zE 1 1 2 0 0, zE 10 1 0 0 0, some (0, 1, 0, 0, 0, .long 0, []), some (0, 1, 0, 0, 0, .long 1, []), zEw 32 3 143 3 49 1059, none, none, zE 35 1 0 0 1],
  [zE 1 1 2 0 0, some (0, 1, 0, 0, 0, .int (-1), []), zE 16 3 126 0 0, none, none, zE 3 1 0 0 0, zE 1 1 2 0 0, zE 10 1 0 0 0, zEw 32 3 151 2 48 1071, none, none, zE 15 3 130 0 0, none, none, zEn 1 1, zE 17 3 131 0 0],
  [none, none, zEn 1 0, zE 35 1 0 0 1, zE 1 1 2 0 0, zE 10 1 0 0 0, some (0, 1, 0, 0, 0, .long 1, []), some (0, 3, 0, 0, 0, .long 9, [(0, 1066)]), none, none, zEw 32 3 143 3 49 1059, none, none, zE 35 1 0 0 1, zE 1 1 2 0 0, zE 10 1 0 0 0],
  [some (0, 1, 0, 0, 0, .long 0, []), some (0, 3, 0, 0, 0, .long 2, [(0, 1072)]), none, none, zEw 32 3 143 3 49 1059, none, none, zE 35 1 0 0 1, zE 1 1 2 0 0, zE 10 1 0 0 0, some (0, 1, 0, 0, 0, .long 0, []), some (0, 3, 0, 0, 0, .long 9, [(0, 1066)]), none, none, zEw 32 3 143 3 49 1059, none],
  [none, zE 35 1 0 0 1]]
/-- ColdShodModel.mend(III)I -/
noncomputable def zi_163 : List (List (Option zI)) := [[zE 3 1 0 0 0, zE 1 1 1 0 0, zE 1 1 2 0 0, zEw 32 3 161 3 48 1078, none, none, zE 4 2 4 0 0, none, zE 1 2 4 0 0, none, zE 15 3 32 2 0, none, none, zE 3 1 0 0 0, zE 1 1 2 0 0, zE 1 1 3 0 0],
  [zEw 32 3 162 3 48 1079, none, none, zE 15 3 32 0 0, none, none, zE 3 1 0 0 0, zE 1 2 4 0 0, none, zE 1 1 3 0 0, zEw 32 3 148 3 48 1080, none, none, zE 17 3 34 0 0, none, none],
  [some (0, 2, 0, 0, 0, .int (-2000000000), [(0, 1081)]), none, zE 35 1 0 0 0]]
/-- ColdShodModel.of(II)I -/
noncomputable def zi_164 : List (List (Option zI)) := [[zE 3 1 0 0 0, zE 1 1 1 0 0, zE 1 1 2 0 0, zEw 32 3 161 3 48 1078, none, none, zE 4 1 3 0 0, zE 1 1 3 0 0, zE 15 3 18 2 0, none, none, zE 3 1 0 0 0, zEw 20 3 12 0 1 1030, none, none, zE 1 1 3 0 0],
  [zE 22 1 0 0 0, zE 35 1 0 0 0, zE 1 1 2 0 0, zEn 2 14, none, zE 16 3 46 1 0, none, none, zE 3 1 0 0 0, zE 1 1 1 0 0, zE 10 1 0 0 0, zEw 32 3 152 2 48 1074, none, none, zE 15 3 46 0 0, none],
  [none, zE 3 1 0 0 0, zEw 20 3 12 0 1 1030, none, none, zEn 2 28, none, zE 1 1 1 0 0, zE 7 1 0 0 0, zE 22 1 0 0 0, zEw 32 3 179 1 49 1082, none, none, zE 35 1 0 0 0, zE 3 1 0 0 0, zE 1 1 1 0 0],
  [zE 10 1 0 0 0, zEw 32 3 153 2 48 1076, none, none, zE 15 3 60 1 0, none, none, some (0, 2, 0, 0, 0, .int (-2000000000), [(0, 1081)]), none, zE 17 3 92 0 0, none, none, zE 1 1 2 0 0, zEn 2 12, none, zE 16 3 75 1 0],
  [none, none, zE 3 1 0 0 0, zEw 20 3 12 9 1 1034, none, none, zE 1 1 1 0 0, zE 22 1 0 0 0, zE 17 3 92 0 0, none, none, zE 1 1 2 0 0, zEn 2 13, none, zE 16 3 90 1 0, none],
  [none, zE 3 1 0 0 0, zEw 20 3 12 10 1 1035, none, none, zE 1 1 1 0 0, zE 22 1 0 0 0, zE 17 3 92 0 0, none, none, some (0, 2, 0, 0, 0, .int (-2000000000), [(0, 1081)]), none, zE 35 1 0 0 0]]
/-- ColdShodModel.feed(I)I -/
noncomputable def zi_165 : List (List (Option zI)) := [[zE 1 1 1 0 0, zE 10 1 0 0 0, some (0, 1, 0, 0, 0, .long 0, []), some (0, 3, 0, 0, 0, .long 255, [(0, 1083)]), none, none, zEw 32 3 143 3 49 1059, none, none, zE 15 3 14 1 0, none, none, some (0, 1, 0, 0, 0, .int (-1), []), zE 35 1 0 0 0, zE 3 1 0 0 0, zEw 20 3 12 12 0 1084],
  [none, none, zEn 2 120, none, zE 16 3 26 1 0, none, none, some (0, 2, 0, 0, 0, .int (-3), []), none, zE 35 1 0 0 0, zE 3 1 0 0 0, zEw 20 3 12 11 1 1036, none, none, zE 3 1 0 0 0, zEw 20 3 12 12 0 1084],
  [none, none, zE 1 1 1 0 0, zE 25 1 0 0 0, zE 3 1 0 0 0, zE 39 1 0 0 0, zEw 20 3 12 12 0 1084, none, none, zEn 1 1, zE 7 1 0 0 0, zEw 21 3 12 12 0 1084, none, none, zE 3 1 0 0 0, zEw 20 3 12 12 0 1084],
  [none, none, zE 35 1 0 0 0]]
/-- ColdShodModel.byteAt()I -/
noncomputable def zi_166 : List (List (Option zI)) := [[zE 3 1 0 0 0, zEw 20 3 12 16 0 1085, none, none, zE 3 1 0 0 0, zEw 20 3 12 17 0 1086, none, none, zE 16 3 47 3 0, none, none, zE 3 1 0 0 0, zEw 20 3 12 15 0 1087, none, none, zE 15 3 30 3 0],
  [none, none, zE 3 1 0 0 0, zEw 20 3 12 11 1 1036, none, none, zE 3 1 0 0 0, zEw 20 3 12 16 0 1085, none, none, zE 22 1 0 0 0, zE 17 3 48 0 0, none, none, zE 3 1 0 0 0, zEw 20 3 12 13 1 1037],
  [none, none, zE 3 1 0 0 0, zEw 20 3 12 15 0 1087, none, none, zE 3 1 0 0 0, zEw 20 3 12 16 0 1085, none, none, zE 7 1 0 0 0, zE 22 1 0 0 0, zE 17 3 48 0 0, none, none, zEn 1 0],
  [zE 35 1 0 0 0]]
/-- ColdShodModel.wrong()I -/
noncomputable def zi_167 : List (List (Option zI)) := [[zE 3 1 0 0 0, zE 3 1 0 0 0, zEw 20 3 12 18 0 1088, none, none, zE 15 3 15 3 0, none, none, zE 3 1 0 0 0, zEw 20 3 12 16 0 1085, none, none, zE 17 3 19 0 0, none, none, zE 3 1 0 0 0],
  [zEw 20 3 12 18 0 1088, none, none, zEw 21 3 12 18 0 1088, none, none, zEn 1 0, zE 35 1 0 0 0]]
/-- ColdShodModel.takes(I)Z -/
noncomputable def zi_168 : List (List (Option zI)) := [[zE 3 1 0 0 0, zEw 20 3 12 18 0 1088, none, none, zE 15 3 15 3 0, none, none, zE 3 1 0 0 0, zEw 32 3 166 1 48 1089, none, none, zE 1 1 1 0 0, zE 16 3 17 0 0, none, none, zEn 1 0],
  [zE 35 1 0 0 1, zE 3 1 0 0 0, zE 39 1 0 0 0, zEw 20 3 12 16 0 1085, none, none, zEn 1 1, zE 7 1 0 0 0, zEw 21 3 12 16 0 1085, none, none, zEn 1 1, zE 35 1 0 0 1]]
/-- ColdShodModel.either()I -/
noncomputable def zi_169 : List (List (Option zI)) := [[zE 3 1 0 0 0, zEw 32 3 170 1 48 1090, none, none, zE 4 1 1 0 0, zE 3 1 0 0 0, zEn 2 124, none, zEw 32 3 168 2 48 1091, none, none, zE 15 3 36 0 0, none, none, zE 3 1 0 0 0, zEw 32 3 170 1 48 1090],
  [none, none, zE 4 1 2 0 0, zE 1 1 1 0 0, zE 15 3 27 1 0, none, none, zE 1 1 2 0 0, zE 15 3 31 0 0, none, none, zEn 1 1, zE 17 3 32 0 0, none, none, zEn 1 0],
  [zE 4 1 1 0 0, zE 17 3 5 0 0, none, none, zE 1 1 1 0 0, zE 35 1 0 0 0]]
/-- ColdShodModel.both()I -/
noncomputable def zi_170 : List (List (Option zI)) := [[zE 3 1 0 0 0, zEw 32 3 171 1 48 1092, none, none, zE 4 1 1 0 0, zE 3 1 0 0 0, zEn 2 38, none, zEw 32 3 168 2 48 1091, none, none, zE 15 3 36 0 0, none, none, zE 3 1 0 0 0, zEw 32 3 171 1 48 1092],
  [none, none, zE 4 1 2 0 0, zE 1 1 1 0 0, zE 15 3 31 0 0, none, none, zE 1 1 2 0 0, zE 15 3 31 0 0, none, none, zEn 1 1, zE 17 3 32 0 0, none, none, zEn 1 0],
  [zE 4 1 1 0 0, zE 17 3 5 0 0, none, none, zE 1 1 1 0 0, zE 35 1 0 0 0]]
/-- ColdShodModel.compared()I -/
noncomputable def zi_171 : List (List (Option zI)) := [[zE 3 1 0 0 0, zEw 32 3 172 1 48 1093, none, none, zE 4 1 1 0 0, zE 3 1 0 0 0, zEw 32 3 166 1 48 1089, none, none, zE 4 1 2 0 0, zE 3 1 0 0 0, zEw 20 3 12 18 0 1088, none, none, zE 15 3 35 3 0, none],
  [none, zE 1 1 2 0 0, zEn 2 60, none, zE 16 3 37 0 0, none, none, zE 1 1 2 0 0, zEn 2 61, none, zE 16 3 37 0 0, none, none, zE 1 1 2 0 0, zEn 2 62, none],
  [zE 16 3 37 0 0, none, none, zE 1 1 1 0 0, zE 35 1 0 0 0, zE 3 1 0 0 0, zE 39 1 0 0 0, zEw 20 3 12 16 0 1085, none, none, zEn 1 1, zE 7 1 0 0 0, zEw 21 3 12 16 0 1085, none, none, zE 3 1 0 0 0],
  [zEw 32 3 172 1 48 1093, none, none, zE 4 1 3 0 0, zE 1 1 2 0 0, zEn 2 60, none, zE 16 3 66 1 0, none, none, zE 1 1 1 0 0, zE 1 1 3 0 0, zE 16 3 89 3 0, none, none, zE 17 3 85 0 0],
  [none, none, zE 1 1 2 0 0, zEn 2 61, none, zE 16 3 80 1 0, none, none, zE 1 1 1 0 0, zE 1 1 3 0 0, zE 16 3 89 1 0, none, none, zE 17 3 85 0 0, none, none],
  [zE 1 1 1 0 0, zE 1 1 3 0 0, zE 16 3 89 5 0, none, none, zEn 1 1, zE 17 3 90 0 0, none, none, zEn 1 0, zE 35 1 0 0 0]]
/-- ColdShodModel.sums()I -/
noncomputable def zi_172 : List (List (Option zI)) := [[zE 3 1 0 0 0, zEw 32 3 173 1 48 1094, none, none, zE 4 1 1 0 0, zE 3 1 0 0 0, zEw 20 3 12 18 0 1088, none, none, zE 15 3 77 3 0, none, none, zE 3 1 0 0 0, zEw 32 3 166 1 48 1089, none, none],
  [zEn 2 43, none, zE 16 3 30 0 0, none, none, zE 3 1 0 0 0, zEw 32 3 166 1 48 1089, none, none, zEn 2 45, none, zE 16 3 77 1 0, none, none, zE 3 1 0 0 0, zEw 32 3 166 1 48 1089],
  [none, none, zEn 2 43, none, zE 16 3 43 1 0, none, none, zEn 1 1, zE 17 3 44 0 0, none, none, zEn 1 0, zE 4 1 2 0 0, zE 3 1 0 0 0, zE 39 1 0 0 0, zEw 20 3 12 16 0 1085],
  [none, none, zEn 1 1, zE 7 1 0 0 0, zEw 21 3 12 16 0 1085, none, none, zE 3 1 0 0 0, zEw 32 3 173 1 48 1094, none, none, zE 4 1 3 0 0, zE 1 1 2 0 0, zE 15 3 70 0 0, none, none],
  [zE 1 1 1 0 0, zE 1 1 3 0 0, zE 7 1 0 0 0, zE 17 3 73 0 0, none, none, zE 1 1 1 0 0, zE 1 1 3 0 0, zE 7 1 0 1 0, zE 4 1 1 0 0, zE 17 3 5 0 0, none, none, zE 1 1 1 0 0, zE 35 1 0 0 0]]
/-- ColdShodModel.product()I -/
noncomputable def zi_173 : List (List (Option zI)) := [[zE 3 1 0 0 0, zEw 32 3 175 1 48 1095, none, none, zE 4 1 1 0 0, zE 3 1 0 0 0, zEw 32 3 166 1 48 1089, none, none, zE 4 1 2 0 0, zE 3 1 0 0 0, zEw 20 3 12 18 0 1088, none, none, zE 15 3 94 3 0, none],
  [none, zE 1 1 2 0 0, zEn 2 42, none, zE 16 3 35 0 0, none, none, zE 1 1 2 0 0, zEn 2 47, none, zE 16 3 35 0 0, none, none, zE 1 1 2 0 0, zEn 2 37, none],
  [zE 16 3 94 1 0, none, none, zE 3 1 0 0 0, zE 39 1 0 0 0, zEw 20 3 12 16 0 1085, none, none, zEn 1 1, zE 7 1 0 0 0, zEw 21 3 12 16 0 1085, none, none, zE 3 1 0 0 0, zEw 32 3 175 1 48 1095, none],
  [none, zE 4 1 3 0 0, zE 1 1 2 0 0, zEn 2 42, none, zE 16 3 62 1 0, none, none, zE 1 1 1 0 0, zE 1 1 3 0 0, zE 7 1 0 2 0, zE 17 3 85 0 0, none, none, zE 1 1 3 0 0, zE 15 3 70 1 0],
  [none, none, zEn 1 0, zE 17 3 85 0 0, none, none, zE 1 1 2 0 0, zEn 2 47, none, zE 16 3 82 1 0, none, none, zE 1 1 1 0 0, zE 1 1 3 0 0, zE 8 1 0 0 0, zE 17 3 85 0 0],
  [none, none, zE 1 1 1 0 0, zE 1 1 3 0 0, zE 8 1 0 1 0, zE 4 1 1 0 0, zE 3 1 0 0 0, zEw 32 3 166 1 48 1089, none, none, zE 4 1 2 0 0, zE 17 3 10 0 0, none, none, zE 1 1 1 0 0, zE 35 1 0 0 0]]
/-- ColdShodModel.nameOf(I)I -/
noncomputable def zi_174 : List (List (Option zI)) := [[zE 1 1 0 0 0, some (18, 87, 100, 0, 0, .null, [(102, 94), (103, 100), (104, 92), (105, 100), (106, 100), (107, 98), (108, 100), (109, 88), (110, 100), (111, 100), (112, 100), (113, 100), (114, 100), (115, 96), (116, 100), (117, 100), (118, 100), (119, 90)]), none, none, none, none, none, none, none, none, none, none, none, none, none, none],
  [none, none, none, none, none, none, none, none, none, none, none, none, none, none, none, none],
  [none, none, none, none, none, none, none, none, none, none, none, none, none, none, none, none],
  [none, none, none, none, none, none, none, none, none, none, none, none, none, none, none, none],
  [none, none, none, none, none, none, none, none, none, none, none, none, none, none, none, none],
  [none, none, none, none, none, none, none, none, zEn 1 0, zE 35 1 0 0 0, zEn 1 1, zE 35 1 0 0 0, zEn 1 2, zE 35 1 0 0 0, zEn 1 3, zE 35 1 0 0 0],
  [zEn 1 4, zE 35 1 0 0 0, zEn 1 5, zE 35 1 0 0 0, some (0, 1, 0, 0, 0, .int (-1), []), zE 35 1 0 0 0]]
/-- ColdShodModel.one()I -/
noncomputable def zi_175 : List (List (Option zI)) := [[zE 3 1 0 0 0, zEw 20 3 12 18 0 1088, none, none, zE 15 3 9 2 0, none, none, zEn 1 0, zE 35 1 0 0 0, zE 3 1 0 0 0, zEw 32 3 166 1 48 1089, none, none, zE 4 1 1 0 0, zE 1 1 1 0 0, zEn 2 33],
  [none, zE 16 3 32 0 0, none, none, zE 1 1 1 0 0, zEn 2 45, none, zE 16 3 32 0 0, none, none, zE 1 1 1 0 0, zEn 2 40, none, zE 16 3 145 1 0, none, none],
  [zE 3 1 0 0 0, zEw 20 3 12 19 0 1096, none, none, zEn 2 6, none, zE 16 3 46 1 0, none, none, zE 3 1 0 0 0, zEw 32 3 167 1 48 1097, none, none, zE 35 1 0 0 0, zE 3 1 0 0 0, zE 39 1 0 0 0],
  [zEw 20 3 12 19 0 1096, none, none, zEn 1 1, zE 7 1 0 0 0, zEw 21 3 12 19 0 1096, none, none, zE 3 1 0 0 0, zE 39 1 0 0 0, zEw 20 3 12 16 0 1085, none, none, zEn 1 1, zE 7 1 0 0 0, zEw 21 3 12 16 0 1085],
  [none, none, zE 1 1 1 0 0, zEn 2 40, none, zE 16 3 79 1 0, none, none, zE 3 1 0 0 0, zEw 32 3 169 1 48 1098, none, none, zE 17 3 83 0 0, none, none, zE 3 1 0 0 0],
  [zEw 32 3 175 1 48 1095, none, none, zE 4 1 2 0 0, zE 1 1 1 0 0, zEn 2 40, none, zE 16 3 104 1 0, none, none, zE 3 1 0 0 0, zEn 2 41, none, zEw 32 3 168 2 48 1091, none, none],
  [zE 15 3 104 1 0, none, none, zE 3 1 0 0 0, zEw 32 3 167 1 48 1097, none, none, zE 35 1 0 0 0, zE 3 1 0 0 0, zE 39 1 0 0 0, zEw 20 3 12 19 0 1096, none, none, zEn 1 1, zE 7 1 0 1 0, zEw 21 3 12 19 0 1096],
  [none, none, zE 1 1 1 0 0, zEn 2 40, none, zE 16 3 124 1 0, none, none, zE 1 1 2 0 0, zE 17 3 144 0 0, none, none, zE 1 1 1 0 0, zEn 2 45, none, zE 16 3 135 1 0],
  [none, none, zE 1 1 2 0 0, zE 9 1 0 0 0, zE 17 3 144 0 0, none, none, zE 1 1 2 0 0, zE 15 3 143 1 0, none, none, zEn 1 1, zE 17 3 144 0 0, none, none, zEn 1 0],
  [zE 35 1 0 0 0, zE 1 1 1 0 0, zEw 32 3 174 1 49 1099, none, none, zE 4 1 2 0 0, zE 1 1 2 0 0, zE 15 3 171 2 0, none, none, zE 3 1 0 0 0, zE 39 1 0 0 0, zEw 20 3 12 16 0 1085, none, none, zEn 1 1],
  [zE 7 1 0 0 0, zEw 21 3 12 16 0 1085, none, none, zE 3 1 0 0 0, zEw 20 3 12 20 1 1038, none, none, zE 1 1 2 0 0, zE 22 1 0 0 0, zE 35 1 0 0 0, zEn 1 0, zE 4 1 3 0 0, zEn 1 0, zE 4 2 4 0 0, none],
  [zE 1 2 4 0 0, none, zEn 1 4, zE 16 3 229 3 0, none, none, zE 3 1 0 0 0, zEw 32 3 166 1 48 1089, none, none, zEn 2 48, none, zE 16 3 229 2 0, none, none, zE 3 1 0 0 0],
  [zEw 32 3 166 1 48 1089, none, none, zEn 2 57, none, zE 16 3 229 4 0, none, none, zEn 2 10, none, zE 1 1 3 0 0, zE 7 1 0 2 0, zE 3 1 0 0 0, zEw 32 3 166 1 48 1089, none, none],
  [zE 7 1 0 0 0, zEn 2 48, none, zE 7 1 0 1 0, zE 4 1 3 0 0, some (19, 3, 4, 0, 0, .int 1, []), none, none, zE 3 1 0 0 0, zE 39 1 0 0 0, zEw 20 3 12 16 0 1085, none, none, zEn 1 1, zE 7 1 0 0 0, zEw 21 3 12 16 0 1085],
  [none, none, zE 17 3 176 0 0, none, none, zE 1 2 4 0 0, none, zE 15 3 241 1 0, none, none, zE 3 1 0 0 0, zEw 32 3 167 1 48 1097, none, none, zE 17 3 242 0 0, none],
  [none, zE 1 1 3 0 0, zE 35 1 0 0 0]]
/-- ColdShodModel.workOut(II)I -/
noncomputable def zi_176 : List (List (Option zI)) := [[zE 3 1 0 0 0, zE 1 1 1 0 0, zEw 21 3 12 15 0 1087, none, none, zE 3 1 0 0 0, zEn 1 0, zEw 21 3 12 16 0 1085, none, none, zE 3 1 0 0 0, zE 1 1 2 0 0, zEw 21 3 12 17 0 1086, none, none, zE 3 1 0 0 0],
  [some (0, 1, 0, 0, 0, .int (-1), []), zEw 21 3 12 18 0 1088, none, none, zE 3 1 0 0 0, zEn 1 0, zEw 21 3 12 19 0 1096, none, none, zEn 1 0, zE 4 1 3 0 0, zEn 1 0, zE 4 2 4 0 0, none, zEn 1 1, zE 4 2 5 0 0],
  [none, zE 1 2 5 0 0, none, zE 15 3 107 0 0, none, none, zE 3 1 0 0 0, zEw 32 3 169 1 48 1098, none, none, zE 4 2 6 0 0, none, zEn 1 1, zE 4 2 7 0 0, none, zE 3 1 0 0 0],
  [zEn 2 63, none, zEw 32 3 168 2 48 1091, none, none, zE 15 3 74 0 0, none, none, zE 1 2 6 0 0, none, zE 15 3 65 0 0, none, none, zEn 1 1, zE 17 3 66 0 0, none],
  [none, zEn 1 0, zE 4 2 7 0 0, none, zE 3 1 0 0 0, zEw 32 3 169 1 48 1098, none, none, zE 4 2 6 0 0, none, zE 3 1 0 0 0, zEw 20 3 12 18 0 1088, none, none, zE 15 3 96 3 0, none],
  [none, zE 1 2 7 0 0, none, zE 15 3 96 0 0, none, none, zE 1 1 3 0 0, zE 15 3 96 1 0, none, none, zEn 1 1, zE 4 1 3 0 0, zE 1 2 6 0 0, none, zE 4 2 4 0 0, none],
  [zE 3 1 0 0 0, zEn 2 59, none, zEw 32 3 168 2 48 1091, none, none, zE 4 2 5 0 0, none, zE 17 3 33 0 0, none, none, zE 3 1 0 0 0, zEw 20 3 12 18 0 1088, none, none, zE 15 3 130 3 0],
  [none, none, zE 3 1 0 0 0, zEw 20 3 12 16 0 1085, none, none, zE 3 1 0 0 0, zEw 20 3 12 17 0 1086, none, none, zE 16 3 130 3 0, none, none, zE 3 1 0 0 0, zEw 32 3 167 1 48 1097, none],
  [none, zE 35 1 0 0 0, zE 1 2 4 0 0, none, zE 35 1 0 0 0]]
/-- ColdShodModel.law()I -/
noncomputable def zi_177 : List (List (Option zI)) := [[zE 3 1 0 0 0, some (0, 1, 0, 0, 0, .int (-1), []), zE 3 1 0 0 0, zEw 20 3 12 12 0 1084, none, none, zEw 32 3 176 3 48 1100, none, none, zE 4 1 1 0 0, zE 3 1 0 0 0, zEw 20 3 12 12 0 1084, none, none, zE 4 1 2 0 0, zE 3 1 0 0 0],
  [zEn 1 0, zEw 21 3 12 12 0 1084, none, none, zE 3 1 0 0 0, zEw 20 3 12 18 0 1088, none, none, zE 15 3 35 2 0, none, none, some (0, 2, 0, 0, 0, .int (-100), []), none, zE 3 1 0 0 0, zEw 20 3 12 18 0 1088, none],
  [none, zE 7 1 0 1 0, zE 35 1 0 0 0, zEn 1 0, zE 4 1 3 0 0, zE 1 1 3 0 0, zE 1 1 2 0 0, zE 16 3 60 3 0, none, none, zE 3 1 0 0 0, zEw 20 3 12 13 1 1037, none, none, zE 1 1 3 0 0, zE 3 1 0 0 0],
  [zEw 20 3 12 11 1 1036, none, none, zE 1 1 3 0 0, zE 22 1 0 0 0, zE 25 1 0 0 0, some (19, 3, 3, 0, 0, .int 1, []), none, none, zE 17 3 37 0 0, none, none, zE 3 1 0 0 0, zE 1 1 2 0 0, zEw 21 3 12 14 0 1055, none],
  [none, zEn 1 1, zE 35 1 0 0 0]]
/-- ColdShodModel.begins(I)V -/
noncomputable def zi_178 : List (List (Option zI)) := [[zEn 1 0, zE 4 1 2 0 0, zE 1 1 2 0 0, zEn 2 6, none, zE 16 3 34 3 0, none, none, zE 3 1 0 0 0, zEw 20 3 12 21 1 1039, none, none, zE 1 1 2 0 0, zE 3 1 0 0 0, zEw 20 3 12 0 1 1030, none],
  [none, zEn 2 12, none, zEn 2 8, none, zE 1 1 2 0 0, zE 7 1 0 2 0, zE 7 1 0 0 0, zE 1 1 1 0 0, zE 7 1 0 0 0, zE 22 1 0 0 0, zE 25 1 0 0 0, some (19, 3, 2, 0, 0, .int 1, []), none, none, zE 17 3 2 0 0],
  [none, none, zE 3 1 0 0 0, zEw 20 3 12 21 1 1039, none, none, zEn 2 6, none, zE 3 1 0 0 0, zEw 20 3 12 0 1 1030, none, none, zEn 2 60, none, zE 1 1 1 0 0, zE 7 1 0 0 0],
  [zE 22 1 0 0 0, zE 15 3 56 3 0, none, none, some (0, 1, 0, 0, 0, .int (-1), []), zE 17 3 70 0 0, none, none, zE 3 1 0 0 0, zEw 20 3 12 0 1 1030, none, none, zE 3 1 0 0 0, zEw 20 3 12 0 1 1030, none, none],
  [zEn 2 60, none, zE 1 1 1 0 0, zE 7 1 0 0 0, zE 22 1 0 0 0, zE 22 1 0 0 0, zE 25 1 0 0 0, zE 38 1 0 0 0]]
/-- ColdShodModel.gripOf(I)I -/
noncomputable def zi_179 : List (List (Option zI)) := [[zEn 2 9, none, zE 1 1 0 0 0, zEn 2 11, none, zE 8 1 0 0 0, zE 7 1 0 1 0, zE 35 1 0 0 0]]
/-- ColdShodModel.wearsNow(I)I -/
noncomputable def zi_180 : List (List (Option zI)) := [[zE 3 1 0 0 0, zEw 20 3 12 21 1 1039, none, none, zEn 2 6, none, zE 22 1 0 0 0, zE 15 3 15 3 0, none, none, zEn 2 9, none, zE 17 3 32 0 0, none, none, zE 3 1 0 0 0],
  [zEw 20 3 12 21 1 1039, none, none, zEn 1 1, zE 22 1 0 0 0, zE 3 1 0 0 0, zEw 20 3 12 21 1 1039, none, none, zEn 2 6, none, zE 22 1 0 0 0, zE 7 1 0 1 0, zEw 32 3 146 1 49 1101, none, none],
  [zE 4 1 2 0 0, zEn 1 1, zE 3 1 0 0 0, zEw 20 3 12 0 1 1030, none, none, zEn 2 92, none, zE 1 1 1 0 0, zE 7 1 0 0 0, zE 22 1 0 0 0, zE 7 1 0 0 0, zE 1 1 2 0 0, zEn 1 3, zE 8 1 0 0 0, zE 7 1 0 0 0],
  [zE 3 1 0 0 0, zEw 20 3 12 21 1 1039, none, none, zEn 1 0, zE 22 1 0 0 0, zEn 1 2, zE 8 1 0 0 0, zE 7 1 0 1 0, zE 4 1 3 0 0, zE 3 1 0 0 0, zEw 20 3 12 14 0 1055, none, none, zE 15 3 148 2 0, none],
  [none, zE 3 1 0 0 0, zEw 20 3 12 20 1 1038, none, none, zEn 1 0, zE 3 1 0 0 0, zEw 20 3 12 21 1 1039, none, none, zEn 1 0, zE 22 1 0 0 0, zE 25 1 0 0 0, zE 3 1 0 0 0, zEw 20 3 12 20 1 1038, none],
  [none, zEn 1 1, zE 3 1 0 0 0, zEw 20 3 12 21 1 1039, none, none, zEn 1 2, zE 22 1 0 0 0, zE 25 1 0 0 0, zE 3 1 0 0 0, zEw 20 3 12 20 1 1038, none, none, zEn 1 2, zE 3 1 0 0 0, zEw 20 3 12 21 1 1039],
  [none, none, zEn 1 3, zE 22 1 0 0 0, zE 25 1 0 0 0, zE 3 1 0 0 0, zEw 20 3 12 20 1 1038, none, none, zEn 1 3, zE 1 1 2 0 0, zE 25 1 0 0 0, zE 3 1 0 0 0, zEw 20 3 12 20 1 1038, none, none],
  [zEn 1 4, zE 3 1 0 0 0, zEw 20 3 12 0 1 1030, none, none, zEn 2 80, none, zE 1 1 1 0 0, zE 7 1 0 0 0, zE 22 1 0 0 0, zE 25 1 0 0 0, zE 3 1 0 0 0, zEw 20 3 12 20 1 1038, none, none, zEn 1 5],
  [zE 3 1 0 0 0, zEw 20 3 12 0 1 1030, none, none, zEn 2 92, none, zE 1 1 1 0 0, zE 7 1 0 0 0, zE 22 1 0 0 0, zE 25 1 0 0 0, zE 3 1 0 0 0, zEn 1 0, zE 3 1 0 0 0, zEw 20 3 12 14 0 1055, none, none],
  [zEw 32 3 176 3 48 1100, none, none, zE 4 1 3 0 0, zE 1 1 3 0 0, zE 15 3 156 3 0, none, none, zEn 1 0, zE 17 3 168 0 0, none, none, zE 1 1 3 0 0, zEn 2 9, none, zE 16 3 167 5 0],
  [none, none, zEn 2 9, none, zE 17 3 168 0 0, none, none, zE 1 1 3 0 0, zE 35 1 0 0 0]]
/-- ColdShodModel.wears(II)I -/
noncomputable def zi_181 : List (List (Option zI)) := [[zE 3 1 0 0 0, zE 1 1 1 0 0, zE 10 1 0 0 0, zEw 32 3 152 2 48 1074, none, none, zE 15 3 18 0 0, none, none, zE 3 1 0 0 0, zE 1 1 2 0 0, zE 10 1 0 0 0, zEw 32 3 153 2 48 1076, none, none, zE 15 3 20 1 0],
  [none, none, some (0, 1, 0, 0, 0, .int (-1), []), zE 35 1 0 0 0, zE 3 1 0 0 0, zE 1 1 1 0 0, zEw 32 3 178 2 48 1102, none, none, zE 3 1 0 0 0, zE 1 1 2 0 0, zEw 32 3 180 2 48 1103, none, none, zE 35 1 0 0 0]]
/-- ColdShodModel.mayGo(I)Z -/
noncomputable def zi_182 : List (List (Option zI)) := [[zE 3 1 0 0 0, zEw 20 3 12 21 1 1039, none, none, zEn 1 2, zE 22 1 0 0 0, zEn 2 99, none, zE 16 3 36 3 0, none, none, zE 3 1 0 0 0, zEw 20 3 12 0 1 1030, none, none, zEn 2 80],
  [none, zE 1 1 1 0 0, zE 7 1 0 0 0, zE 22 1 0 0 0, zE 3 1 0 0 0, zEw 20 3 12 21 1 1039, none, none, zEn 1 2, zE 22 1 0 0 0, zEw 32 3 179 1 49 1082, none, none, zE 16 3 36 4 0, none, none],
  [zEn 1 1, zE 17 3 37 0 0, none, none, zEn 1 0, zE 35 1 0 0 1]]
/-- ColdShodModel.goesRoad(I)V -/
noncomputable def zi_183 : List (List (Option zI)) := [[zE 3 1 0 0 0, zEn 1 0, zEw 21 3 12 22 0 1104, none, none, zE 3 1 0 0 0, zEn 1 0, zEw 21 3 12 23 2 1105, none, none, zE 3 1 0 0 0, zE 1 1 1 0 0, zEw 32 3 182 2 48 1106, none, none, zE 15 3 144 0 0],
  [none, none, zE 3 1 0 0 0, zEw 20 3 12 22 0 1104, none, none, zE 3 1 0 0 0, zEw 20 3 12 0 1 1030, none, none, zEn 2 68, none, zE 1 1 1 0 0, zE 7 1 0 0 0, zE 22 1 0 0 0, zE 16 3 89 3 0],
  [none, none, zE 3 1 0 0 0, zEw 20 3 12 21 1 1039, none, none, zEn 1 2, zE 22 1 0 0 0, zEn 2 99, none, zE 16 3 89 3 0, none, none, zE 3 1 0 0 0, zEw 20 3 12 21 1 1039, none],
  [none, zEn 1 2, zE 22 1 0 0 0, zE 3 1 0 0 0, zE 1 1 1 0 0, zEw 32 3 180 2 48 1103, none, none, zE 7 1 0 0 0, zE 4 1 2 0 0, zE 3 1 0 0 0, zEw 20 3 12 21 1 1039, none, none, zEn 1 2, zE 1 1 2 0 0],
  [zEn 2 99, none, zE 16 3 74 5 0, none, none, zEn 2 99, none, zE 17 3 75 0 0, none, none, zE 1 1 2 0 0, zE 25 1 0 0 0, zE 3 1 0 0 0, zE 39 1 0 0 0, zEw 20 3 12 22 0 1104, none],
  [none, zEn 1 1, zE 7 1 0 0 0, zEw 21 3 12 22 0 1104, none, none, zE 17 3 18 0 0, none, none, zE 3 1 0 0 0, zE 3 1 0 0 0, zEw 20 3 12 22 0 1104, none, none, zE 3 1 0 0 0, zEw 20 3 12 0 1 1030],
  [none, none, zEn 2 68, none, zE 1 1 1 0 0, zE 7 1 0 0 0, zE 22 1 0 0 0, zE 16 3 110 1 0, none, none, zEn 1 1, zE 17 3 111 0 0, none, none, zEn 1 0, zEw 21 3 12 23 2 1105],
  [none, none, zE 3 1 0 0 0, zEw 20 3 12 21 1 1039, none, none, zEn 1 3, zE 41 1 0 0 0, zE 22 1 0 0 0, zE 3 1 0 0 0, zEw 20 3 12 23 0 1105, none, none, zE 15 3 141 0 0, none, none],
  [zE 3 1 0 0 0, zEw 20 3 12 21 1 1039, none, none, zEn 1 3, zE 22 1 0 0 0, zE 15 3 141 5 0, none, none, zEn 1 1, zE 17 3 142 0 0, none, none, zEn 1 0, zE 7 1 0 1 0, zE 25 1 0 0 0],
  [zE 38 1 0 0 0]]
/-- ColdShodModel.strikes(I)Z -/
noncomputable def zi_184 : List (List (Option zI)) := [[zE 1 1 1 0 0, some (18, 27, 165, 0, 1, .null, [(0, 28), (3, 111)]), none, none, none, none, none, none, none, none, none, none, none, none, none, none],
  [none, none, none, none, none, none, none, none, none, none, none, none, zE 3 1 0 0 0, zEw 20 3 12 21 1 1039, none, none],
  [zEn 1 4, zE 22 1 0 0 0, zEn 1 1, zE 16 3 49 1 0, none, none, zE 3 1 0 0 0, zEw 20 3 12 21 1 1039, none, none, zEn 1 5, zE 22 1 0 0 0, zE 15 3 49 5 0, none, none, zEn 1 0],
  [zE 35 1 0 0 1, zE 3 1 0 0 0, zEw 20 3 12 21 1 1039, none, none, zEn 1 3, zE 3 1 0 0 0, zEw 20 3 12 21 1 1039, none, none, zEn 1 3, zE 22 1 0 0 0, zEn 2 6, none, zE 16 3 70 5 0, none],
  [none, zEn 2 9, none, zE 17 3 78 0 0, none, none, zE 3 1 0 0 0, zEw 20 3 12 21 1 1039, none, none, zEn 1 3, zE 22 1 0 0 0, zEn 1 3, zE 7 1 0 0 0, zE 25 1 0 0 0, zE 3 1 0 0 0],
  [zEw 20 3 12 21 1 1039, none, none, zEn 1 5, zE 3 1 0 0 0, zEw 20 3 12 21 1 1039, none, none, zEn 1 5, zE 22 1 0 0 0, zEn 2 8, none, zE 16 3 100 5 0, none, none, zEn 2 9],
  [none, zE 17 3 108 0 0, none, none, zE 3 1 0 0 0, zEw 20 3 12 21 1 1039, none, none, zEn 1 5, zE 22 1 0 0 0, zEn 1 1, zE 7 1 0 0 0, zE 25 1 0 0 0, zEn 1 1, zE 35 1 0 0 1, zE 3 1 0 0 0],
  [zEw 20 3 12 21 1 1039, none, none, zEn 1 3, zE 22 1 0 0 0, zEn 1 1, zE 16 3 123 3 0, none, none, zEn 1 0, zE 35 1 0 0 1, zE 3 1 0 0 0, zEw 20 3 12 21 1 1039, none, none, zEn 1 3],
  [zE 41 1 0 0 0, zE 22 1 0 0 0, zEn 1 1, zE 7 1 0 1 0, zE 25 1 0 0 0, zE 3 1 0 0 0, zEw 20 3 12 21 1 1039, none, none, zEn 1 2, zE 3 1 0 0 0, zEw 20 3 12 21 1 1039, none, none, zEn 1 2, zE 22 1 0 0 0],
  [zEn 2 10, none, zE 16 3 153 3 0, none, none, zEn 1 0, zE 17 3 162 0 0, none, none, zE 3 1 0 0 0, zEw 20 3 12 21 1 1039, none, none, zEn 1 2, zE 22 1 0 0 0, zEn 2 10],
  [none, zE 7 1 0 1 0, zE 25 1 0 0 0, zEn 1 1, zE 35 1 0 0 1, zE 3 1 0 0 0, zE 1 1 1 0 0, zEn 1 1, zE 16 3 175 1 0, none, none, zEn 1 1, zE 17 3 176 0 0, none, none, some (0, 1, 0, 0, 0, .int (-1), [])],
  [zEw 32 3 185 2 48 1107, none, none, zE 35 1 0 0 1]]
/-- ColdShodModel.drawsBy(I)Z -/
noncomputable def zi_185 : List (List (Option zI)) := [[zE 3 1 0 0 0, zEw 20 3 12 21 1 1039, none, none, zEn 1 3, zE 22 1 0 0 0, zEn 1 2, zE 16 3 29 2 0, none, none, zE 3 1 0 0 0, zEw 20 3 12 21 1 1039, none, none, zEn 1 1, zE 22 1 0 0 0],
  [zE 1 1 1 0 0, zE 7 1 0 0 0, zE 10 1 0 0 0, some (0, 1, 0, 0, 0, .long 0, []), some (0, 3, 0, 0, 0, .long 5, [(0, 1063)]), none, none, zEw 32 3 143 3 49 1059, none, none, zE 15 3 31 1 0, none, none, zEn 1 0, zE 35 1 0 0 1, zE 3 1 0 0 0],
  [zEw 20 3 12 21 1 1039, none, none, zEn 1 3, zE 41 1 0 0 0, zE 22 1 0 0 0, zEn 1 2, zE 7 1 0 1 0, zE 25 1 0 0 0, zE 3 1 0 0 0, zEw 20 3 12 21 1 1039, none, none, zEn 1 1, zE 41 1 0 0 0, zE 22 1 0 0 0],
  [zE 1 1 1 0 0, zE 7 1 0 0 0, zE 25 1 0 0 0, zEn 1 1, zE 35 1 0 0 1]]
/-- ColdShodModel.bytesIs(I)I -/
noncomputable def zi_186 : List (List (Option zI)) := [[zE 1 1 1 0 0, zEw 32 3 228 1 49 1069, none, none, zE 15 3 11 1 0, none, none, some (0, 1, 0, 0, 0, .int (-1), []), zE 17 3 42 0 0, none, none, zE 3 1 0 0 0, zEw 20 3 12 45 1 1051, none, none, zE 1 1 1 0 0],
  [zE 22 1 0 0 0, zE 15 3 25 3 0, none, none, some (0, 2, 0, 0, 0, .int (-11), []), none, zE 17 3 42 0 0, none, none, zE 3 1 0 0 0, zEw 20 3 12 45 1 1051, none, none, zE 1 1 1 0 0, zE 22 1 0 0 0, zEn 2 50],
  [none, zE 16 3 40 1 0, none, none, zEn 1 1, zE 17 3 42 0 0, none, none, some (0, 2, 0, 0, 0, .int (-12), []), none, zE 35 1 0 0 0]]
/-- ColdShodModel.roadMany(I)I -/
noncomputable def zi_187 : List (List (Option zI)) := [[zEn 1 0, zE 4 1 2 0 0, zE 1 1 2 0 0, zEn 2 20, none, zE 16 3 42 3 0, none, none, zE 1 1 2 0 0, zE 3 1 0 0 0, zEw 20 3 12 46 1 1052, none, none, zE 1 1 1 0 0, zE 22 1 0 0 0, zE 16 3 42 3 0],
  [none, none, zE 3 1 0 0 0, zE 3 1 0 0 0, zEw 20 3 12 47 1 1053, none, none, zEn 2 60, none, zE 1 1 1 0 0, zE 7 1 0 2 0, zE 1 1 2 0 0, zE 7 1 0 0 0, zE 23 1 0 0 0, zEw 32 3 153 2 48 1076, none],
  [none, zE 15 3 42 0 0, none, none, some (19, 3, 2, 0, 0, .int 1, []), none, none, zE 17 3 2 0 0, none, none, zE 1 1 2 0 0, zE 35 1 0 0 0]]
/-- ColdShodModel.goesJourney(I)V -/
noncomputable def zi_188 : List (List (Option zI)) := [[zE 3 1 0 0 0, zEn 1 0, zEw 21 3 12 24 0 1108, none, none, zE 3 1 0 0 0, zEn 1 0, zEw 21 3 12 25 0 1109, none, none, zEn 1 1, zE 4 1 2 0 0, zE 1 1 2 0 0, zE 15 3 89 0 0, none, none],
  [zE 3 1 0 0 0, zEw 20 3 12 25 0 1109, none, none, zE 3 1 0 0 0, zE 1 1 1 0 0, zEw 32 3 187 2 48 1110, none, none, zE 16 3 89 3 0, none, none, zE 3 1 0 0 0, zE 3 1 0 0 0, zEw 20 3 12 47 1 1053, none],
  [none, zEn 2 60, none, zE 1 1 1 0 0, zE 7 1 0 2 0, zE 3 1 0 0 0, zEw 20 3 12 25 0 1109, none, none, zE 7 1 0 0 0, zE 23 1 0 0 0, zE 11 1 0 0 0, zEw 32 3 183 2 48 1111, none, none, zE 3 1 0 0 0],
  [zE 39 1 0 0 0, zEw 20 3 12 24 0 1108, none, none, zE 3 1 0 0 0, zEw 20 3 12 22 0 1104, none, none, zE 7 1 0 0 0, zEw 21 3 12 24 0 1108, none, none, zE 3 1 0 0 0, zEw 20 3 12 23 0 1105, none, none],
  [zE 4 1 2 0 0, zE 3 1 0 0 0, zE 39 1 0 0 0, zEw 20 3 12 25 0 1109, none, none, zE 3 1 0 0 0, zEw 20 3 12 23 0 1105, none, none, zE 15 3 81 0 0, none, none, zEn 1 1, zE 17 3 82 0 0, none],
  [none, zEn 1 0, zE 7 1 0 0 0, zEw 21 3 12 25 0 1109, none, none, zE 17 3 12 0 0, none, none, zE 38 1 0 0 0]]
/-- ColdShodModel.journey(III)I -/
noncomputable def zi_189 : List (List (Option zI)) := [[zE 3 1 0 0 0, zE 1 1 1 0 0, zEw 32 3 186 2 48 1112, none, none, some (0, 1, 0, 0, 0, .int (-1), []), zE 16 3 30 0 0, none, none, zE 3 1 0 0 0, zE 1 1 2 0 0, zE 10 1 0 0 0, zEw 32 3 152 2 48 1074, none, none, zE 15 3 30 0 0],
  [none, none, zE 1 1 3 0 0, zE 10 1 0 0 0, some (0, 1, 0, 0, 0, .long 0, []), some (0, 3, 0, 0, 0, .long 4, [(0, 1113)]), none, none, zEw 32 3 143 3 49 1059, none, none, zE 15 3 32 1 0, none, none, some (0, 1, 0, 0, 0, .int (-1), []), zE 35 1 0 0 0],
  [zE 3 1 0 0 0, zE 1 1 1 0 0, zEw 32 3 186 2 48 1112, none, none, zE 15 3 46 3 0, none, none, zE 3 1 0 0 0, zE 1 1 1 0 0, zEw 32 3 186 2 48 1112, none, none, zE 35 1 0 0 0, zE 3 1 0 0 0, zE 1 1 2 0 0],
  [zEw 32 3 178 2 48 1102, none, none, zE 3 1 0 0 0, zE 1 1 1 0 0, zEw 32 3 188 2 48 1114, none, none, zE 1 1 3 0 0, some (18, 31, 112, 0, 0, .null, [(0, 88), (1, 93), (2, 98), (3, 105)]), none, none, none, none, none, none],
  [none, none, none, none, none, none, none, none, none, none, none, none, none, none, none, none],
  [none, none, none, none, none, none, none, none, zE 3 1 0 0 0, zEw 20 3 12 24 0 1108, none, none, zE 35 1 0 0 0, zE 3 1 0 0 0, zEw 20 3 12 25 0 1109, none],
  [none, zE 35 1 0 0 0, zE 3 1 0 0 0, zEw 20 3 12 21 1 1039, none, none, zEn 1 2, zE 22 1 0 0 0, zE 35 1 0 0 0, zE 3 1 0 0 0, zEw 20 3 12 21 1 1039, none, none, zEn 1 3, zE 22 1 0 0 0, zE 35 1 0 0 0],
  [zE 3 1 0 0 0, zEw 20 3 12 25 0 1109, none, none, zE 3 1 0 0 0, zE 1 1 1 0 0, zEw 32 3 187 2 48 1110, none, none, zE 16 3 131 3 0, none, none, zE 3 1 0 0 0, zEw 20 3 12 25 0 1109, none, none],
  [zE 17 3 133 0 0, none, none, some (0, 2, 0, 0, 0, .int (-2), []), none, zE 35 1 0 0 0]]
/-- ColdShodModel.goesBy(IIII)Z -/
noncomputable def zi_190 : List (List (Option zI)) := [[zE 1 1 3 0 0, zE 1 2 4 0 0, none, zE 16 3 62 1 0, none, none, zE 3 1 0 0 0, zE 1 1 2 0 0, zEw 32 3 178 2 48 1102, none, none, zEn 1 0, zE 4 2 5 0 0, none, zE 1 2 5 0 0, none],
  [zE 1 2 4 0 0, none, zE 16 3 39 3 0, none, none, zE 3 1 0 0 0, zE 3 1 0 0 0, zEw 20 3 12 26 1 1040, none, none, zE 1 2 5 0 0, none, zE 22 1 0 0 0, zEw 32 3 184 2 48 1115, none, none],
  [zE 42 1 0 0 0, some (19, 3, 5, 0, 0, .int 1, []), none, none, zE 17 3 14 0 0, none, none, zE 3 1 0 0 0, zE 1 1 1 0 0, zEw 32 3 188 2 48 1114, none, none, zE 3 1 0 0 0, zEw 20 3 12 25 0 1109, none, none],
  [zE 3 1 0 0 0, zE 1 1 1 0 0, zEw 32 3 187 2 48 1110, none, none, zE 16 3 60 1 0, none, none, zEn 1 1, zE 17 3 61 0 0, none, none, zEn 1 0, zE 35 1 0 0 1, zEn 1 0, zE 4 2 5 0 0],
  [none, zE 1 2 5 0 0, none, zEn 1 4, zE 16 3 101 3 0, none, none, zE 3 1 0 0 0, zEw 20 3 12 26 1 1040, none, none, zE 1 1 3 0 0, zE 1 2 5 0 0, none, zE 25 1 0 0 0, zE 3 1 0 0 0],
  [zE 1 1 1 0 0, zE 1 1 2 0 0, zE 1 1 3 0 0, zEn 1 1, zE 7 1 0 0 0, zE 1 2 4 0 0, none, zEw 32 3 190 5 48 1116, none, none, zE 15 3 95 0 0, none, none, zEn 1 1, zE 35 1 0 0 1, some (19, 3, 5, 0, 0, .int 1, [])],
  [none, none, zE 17 3 65 0 0, none, none, zEn 1 0, zE 35 1 0 0 1]]
/-- ColdShodModel.strokes(III)I -/
noncomputable def zi_191 : List (List (Option zI)) := [[zE 3 1 0 0 0, zE 1 1 1 0 0, zEw 32 3 186 2 48 1112, none, none, some (0, 1, 0, 0, 0, .int (-1), []), zE 16 3 23 0 0, none, none, zE 3 1 0 0 0, zE 1 1 2 0 0, zE 10 1 0 0 0, zEw 32 3 152 2 48 1074, none, none, zE 15 3 23 0 0],
  [none, none, zE 1 1 3 0 0, some (0, 1, 0, 0, 0, .int (-1), []), zE 16 3 25 3 0, none, none, some (0, 1, 0, 0, 0, .int (-1), []), zE 35 1 0 0 0, zE 3 1 0 0 0, zE 1 1 1 0 0, zEw 32 3 186 2 48 1112, none, none, zE 15 3 39 3 0, none],
  [none, zE 3 1 0 0 0, zE 1 1 1 0 0, zEw 32 3 186 2 48 1112, none, none, zE 35 1 0 0 0, zEn 1 0, zE 4 2 4 0 0, none, zE 1 2 4 0 0, none, zEn 1 4, zE 16 3 93 4 0, none, none],
  [zE 3 1 0 0 0, zE 1 1 1 0 0, zE 1 1 2 0 0, zEn 1 0, zE 1 2 4 0 0, none, zEw 32 3 190 5 48 1116, none, none, zE 15 3 87 0 0, none, none, zE 1 1 3 0 0, zE 15 3 69 3 0, none, none],
  [zE 1 2 4 0 0, none, zE 17 3 86 0 0, none, none, zE 1 1 3 0 0, zE 1 2 4 0 0, none, zE 16 3 84 3 0, none, none, zE 3 1 0 0 0, zEw 20 3 12 26 1 1040, none, none, zE 1 1 3 0 0],
  [zE 22 1 0 0 0, zE 17 3 86 0 0, none, none, some (0, 2, 0, 0, 0, .int (-2), []), none, zE 35 1 0 0 0, some (19, 3, 4, 0, 0, .int 1, []), none, none, zE 17 3 42 0 0, none, none, some (0, 2, 0, 0, 0, .int (-2), []), none, zE 35 1 0 0 0]]
/-- ColdShodModel.triesWay(IIIII)V -/
noncomputable def zi_192 : List (List (Option zI)) := [[zE 1 1 2 0 0, zE 1 1 3 0 0, zE 16 3 138 1 0, none, none, zE 3 1 0 0 0, zE 1 1 1 0 0, zEw 32 3 178 2 48 1102, none, none, zEn 1 1, zE 4 2 6 0 0, none, zEn 1 0, zE 4 2 7 0 0, none],
  [zE 1 2 7 0 0, none, zE 1 2 5 0 0, none, zE 16 3 51 3 0, none, none, zE 1 2 6 0 0, none, zE 15 3 51 0 0, none, none, zE 3 1 0 0 0, zE 3 1 0 0 0, zEw 20 3 12 27 1 1041, none],
  [none, zE 1 2 7 0 0, none, zE 22 1 0 0 0, zEw 32 3 183 2 48 1111, none, none, zE 3 1 0 0 0, zEw 20 3 12 23 0 1105, none, none, zE 4 2 6 0 0, none, some (19, 3, 7, 0, 0, .int 1, []), none, none],
  [zE 17 3 16 0 0, none, none, zE 1 2 6 0 0, none, zE 15 3 137 0 0, none, none, zE 3 1 0 0 0, zEw 20 3 12 21 1 1039, none, none, zEn 1 2, zE 22 1 0 0 0, zE 3 1 0 0 0, zEw 20 3 12 29 0 1117],
  [none, none, zE 16 3 91 2 0, none, none, zE 3 1 0 0 0, zEw 20 3 12 21 1 1039, none, none, zEn 1 2, zE 22 1 0 0 0, zE 3 1 0 0 0, zEw 20 3 12 29 0 1117, none, none, zE 16 3 137 1 0],
  [none, none, zE 1 2 5 0 0, none, zE 3 1 0 0 0, zEw 20 3 12 30 0 1118, none, none, zE 16 3 137 3 0, none, none, zE 3 1 0 0 0, zE 3 1 0 0 0, zEw 20 3 12 21 1 1039, none, none],
  [zEn 1 2, zE 22 1 0 0 0, zEw 21 3 12 29 0 1117, none, none, zE 3 1 0 0 0, zE 1 2 5 0 0, none, zEw 21 3 12 30 0 1118, none, none, zEn 1 0, zE 4 2 7 0 0, none, zE 1 2 7 0 0, none],
  [zE 1 2 5 0 0, none, zE 16 3 137 3 0, none, none, zE 3 1 0 0 0, zEw 20 3 12 28 1 1042, none, none, zE 1 2 7 0 0, none, zE 3 1 0 0 0, zEw 20 3 12 27 1 1041, none, none, zE 1 2 7 0 0],
  [none, zE 22 1 0 0 0, zE 25 1 0 0 0, some (19, 3, 7, 0, 0, .int 1, []), none, none, zE 17 3 110 0 0, none, none, zE 38 1 0 0 0, zEn 1 0, zE 4 2 6 0 0, none, zE 1 2 6 0 0, none, zE 3 1 0 0 0],
  [zEw 20 3 12 8 0 1061, none, none, zE 16 3 244 3 0, none, none, zE 3 1 0 0 0, zEw 20 3 12 9 1 1034, none, none, zE 1 2 6 0 0, none, zE 22 1 0 0 0, zE 1 1 2 0 0, zE 16 3 171 1 0, none],
  [none, zE 3 1 0 0 0, zEw 20 3 12 10 1 1035, none, none, zE 1 2 6 0 0, none, zE 22 1 0 0 0, zE 17 3 193 0 0, none, none, zE 3 1 0 0 0, zEw 20 3 12 10 1 1035, none, none, zE 1 2 6 0 0],
  [none, zE 22 1 0 0 0, zE 1 1 2 0 0, zE 16 3 192 1 0, none, none, zE 3 1 0 0 0, zEw 20 3 12 9 1 1034, none, none, zE 1 2 6 0 0, none, zE 22 1 0 0 0, zE 17 3 193 0 0, none, none],
  [some (0, 1, 0, 0, 0, .int (-1), []), zE 4 2 7 0 0, none, zE 1 2 7 0 0, none, zE 15 3 238 2 0, none, none, zE 1 2 4 0 0, none, zE 1 2 7 0 0, none, zEw 32 3 144 2 49 1119, none, none, zE 15 3 238 1 0],
  [none, none, zE 3 1 0 0 0, zEw 20 3 12 27 1 1041, none, none, zE 1 2 5 0 0, none, zE 1 2 6 0 0, none, zE 25 1 0 0 0, zE 3 1 0 0 0, zE 1 1 1 0 0, zE 1 2 7 0 0, none, zE 1 1 3 0 0],
  [zE 1 2 4 0 0, none, zEn 1 1, zE 1 2 7 0 0, none, zE 7 1 0 6 0, zE 7 1 0 4 0, zE 1 2 5 0 0, none, zEn 1 1, zE 7 1 0 0 0, zEw 32 3 192 6 48 1120, none, none, some (19, 3, 6, 0, 0, .int 1, []), none],
  [none, zE 17 3 141 0 0, none, none, zE 38 1 0 0 0]]
/-- ColdShodModel.way(III)I -/
noncomputable def zi_193 : List (List (Option zI)) := [[zE 3 1 0 0 0, zE 1 1 1 0 0, zE 10 1 0 0 0, zEw 32 3 152 2 48 1074, none, none, zE 15 3 52 0 0, none, none, zE 1 1 2 0 0, zE 15 3 52 2 0, none, none, zE 1 1 2 0 0, zEn 2 10, none],
  [zE 8 1 0 0 0, zE 10 1 0 0 0, zEw 32 3 154 1 49 1065, none, none, zE 15 3 52 0 0, none, none, zE 1 1 2 0 0, zEn 2 10, none, zE 8 1 0 1 0, zE 10 1 0 0 0, zEw 32 3 154 1 49 1065, none, none],
  [zE 15 3 52 0 0, none, none, zE 1 1 2 0 0, zEn 2 10, none, zE 8 1 0 0 0, zE 1 1 2 0 0, zEn 2 10, none, zE 8 1 0 1 0, zE 16 3 52 0 0, none, none, zE 1 1 3 0 0, some (0, 2, 0, 0, 0, .int (-2), [])],
  [none, zE 16 3 54 3 0, none, none, some (0, 1, 0, 0, 0, .int (-1), []), zE 35 1 0 0 0, zE 3 1 0 0 0, some (0, 3, 0, 0, 0, .int 1000000, [(0, 1121)]), none, none, zEw 21 3 12 29 0 1117, none, none, zE 3 1 0 0 0, zEn 1 0, zEw 21 3 12 30 0 1118],
  [none, none, zE 3 1 0 0 0, zE 1 1 1 0 0, zE 1 1 2 0 0, zEn 2 10, none, zE 8 1 0 0 0, zE 1 1 2 0 0, zEn 2 10, none, zE 8 1 0 1 0, zEn 1 1, zE 1 1 2 0 0, zEn 2 10, none],
  [zE 8 1 0 0 0, zE 7 1 0 6 0, zEn 1 0, zEw 32 3 192 6 48 1120, none, none, zE 3 1 0 0 0, zEw 20 3 12 29 0 1117, none, none, some (0, 3, 0, 0, 0, .int 1000000, [(0, 1121)]), none, none, zE 16 3 99 1 0, none, none],
  [some (0, 2, 0, 0, 0, .int (-2), []), none, zE 35 1 0 0 0, zE 1 1 3 0 0, some (0, 1, 0, 0, 0, .int (-1), []), zE 16 3 111 1 0, none, none, zE 3 1 0 0 0, zEw 20 3 12 29 0 1117, none, none, zE 17 3 143 0 0, none, none, zE 1 1 3 0 0],
  [some (0, 2, 0, 0, 0, .int (-2), []), none, zE 16 3 124 1 0, none, none, zE 3 1 0 0 0, zEw 20 3 12 30 0 1118, none, none, zE 17 3 143 0 0, none, none, zE 1 1 3 0 0, zE 3 1 0 0 0, zEw 20 3 12 30 0 1118, none],
  [none, zE 16 3 141 3 0, none, none, zE 3 1 0 0 0, zEw 20 3 12 28 1 1042, none, none, zE 1 1 3 0 0, zE 22 1 0 0 0, zE 17 3 143 0 0, none, none, some (0, 2, 0, 0, 0, .int (-2), []), none, zE 35 1 0 0 0]]
/-- ColdShodModel.reach(II)I -/
noncomputable def zi_194 : List (List (Option zI)) := [[zE 3 1 0 0 0, zE 1 1 1 0 0, zE 10 1 0 0 0, zEw 32 3 152 2 48 1074, none, none, zE 15 3 17 0 0, none, none, zE 1 1 2 0 0, zE 10 1 0 0 0, zEw 32 3 154 1 49 1065, none, none, zE 15 3 19 1 0, none],
  [none, some (0, 1, 0, 0, 0, .int (-1), []), zE 35 1 0 0 0, zEn 1 1, zE 1 1 2 0 0, zE 7 1 0 6 0, zE 4 1 3 0 0, zEn 1 0, zE 4 2 4 0 0, none, zE 1 2 4 0 0, none, zEn 2 8, none, zE 16 3 132 3 0, none],
  [none, zEn 1 0, zE 4 2 5 0 0, none, zE 1 2 5 0 0, none, zE 3 1 0 0 0, zEw 20 3 12 8 0 1061, none, none, zE 16 3 126 3 0, none, none, zE 1 1 3 0 0, zE 3 1 0 0 0, zEw 20 3 12 9 1 1034],
  [none, none, zE 1 2 5 0 0, none, zE 22 1 0 0 0, zEw 32 3 144 2 49 1119, none, none, zE 15 3 73 1 0, none, none, zE 1 1 3 0 0, zE 3 1 0 0 0, zEw 20 3 12 10 1 1035, none, none],
  [zE 1 2 5 0 0, none, zE 22 1 0 0 0, zEw 32 3 144 2 49 1119, none, none, zE 15 3 120 0 0, none, none, zE 3 1 0 0 0, zEw 20 3 12 0 1 1030, none, none, zEn 2 80, none, zE 1 2 5 0 0],
  [none, zE 7 1 0 0 0, zE 22 1 0 0 0, zE 3 1 0 0 0, zEw 20 3 12 0 1 1030, none, none, zEn 2 28, none, zE 1 1 1 0 0, zE 7 1 0 0 0, zE 22 1 0 0 0, zEw 32 3 179 1 49 1082, none, none, zE 16 3 120 4 0],
  [none, none, zE 1 1 3 0 0, zEn 1 1, zE 3 1 0 0 0, zEw 20 3 12 9 1 1034, none, none, zE 1 2 5 0 0, none, zE 22 1 0 0 0, zE 7 1 0 6 0, zEn 1 1, zE 3 1 0 0 0, zEw 20 3 12 10 1 1035, none],
  [none, zE 1 2 5 0 0, none, zE 22 1 0 0 0, zE 7 1 0 6 0, zE 7 1 0 4 0, zE 7 1 0 4 0, zE 4 1 3 0 0, some (19, 3, 5, 0, 0, .int 1, []), none, none, zE 17 3 36 0 0, none, none, some (19, 3, 4, 0, 0, .int 1, []), none],
  [none, zE 17 3 26 0 0, none, none, zE 1 1 3 0 0, zE 35 1 0 0 0]]
/-- ColdShodModel.headRather(III)Z -/
noncomputable def zi_195 : List (List (Option zI)) := [[zE 3 1 0 0 0, zEw 20 3 12 0 1 1030, none, none, zEn 2 20, none, zE 1 1 2 0 0, zE 7 1 0 0 0, zE 22 1 0 0 0, zE 3 1 0 0 0, zEw 20 3 12 0 1 1030, none, none, zE 1 1 1 0 0, zE 22 1 0 0 0, zE 7 1 0 1 0],
  [zEw 32 3 146 1 49 1101, none, none, zE 4 2 4 0 0, none, zE 3 1 0 0 0, zEw 20 3 12 0 1 1030, none, none, zEn 2 20, none, zE 1 1 3 0 0, zE 7 1 0 0 0, zE 22 1 0 0 0, zE 3 1 0 0 0, zEw 20 3 12 0 1 1030],
  [none, none, zE 1 1 1 0 0, zE 22 1 0 0 0, zE 7 1 0 1 0, zEw 32 3 146 1 49 1101, none, none, zE 4 2 5 0 0, none, zE 1 2 4 0 0, none, zE 1 2 5 0 0, none, zE 16 3 62 0 0, none],
  [none, zE 1 2 4 0 0, none, zE 1 2 5 0 0, none, zE 16 3 60 3 0, none, none, zEn 1 1, zE 17 3 61 0 0, none, none, zEn 1 0, zE 35 1 0 0 1, zE 3 1 0 0 0, zEw 20 3 12 0 1 1030],
  [none, none, zEn 2 28, none, zE 1 1 2 0 0, zE 7 1 0 0 0, zE 22 1 0 0 0, zE 3 1 0 0 0, zEw 20 3 12 0 1 1030, none, none, zEn 2 28, none, zE 1 1 3 0 0, zE 7 1 0 0 0, zE 22 1 0 0 0],
  [zE 16 3 112 0 0, none, none, zE 3 1 0 0 0, zEw 20 3 12 0 1 1030, none, none, zEn 2 28, none, zE 1 1 2 0 0, zE 7 1 0 0 0, zE 22 1 0 0 0, zE 3 1 0 0 0, zEw 20 3 12 0 1 1030, none, none],
  [zEn 2 28, none, zE 1 1 3 0 0, zE 7 1 0 0 0, zE 22 1 0 0 0, zE 16 3 108 3 0, none, none, zEn 1 1, zE 17 3 122 0 0, none, none, zEn 1 0, zE 17 3 122 0 0, none, none],
  [zE 1 1 2 0 0, zE 1 1 3 0 0, zE 16 3 121 3 0, none, none, zEn 1 1, zE 17 3 122 0 0, none, none, zEn 1 0, zE 35 1 0 0 1]]
/-- ColdShodModel.ideaRather(II)Z -/
noncomputable def zi_196 : List (List (Option zI)) := [[zE 3 1 0 0 0, zEw 20 3 12 0 1 1030, none, none, zEn 2 6, none, zE 1 1 1 0 0, zE 7 1 0 0 0, zE 22 1 0 0 0, zE 3 1 0 0 0, zEw 20 3 12 0 1 1030, none, none, zEn 2 6, none, zE 1 1 2 0 0],
  [zE 7 1 0 0 0, zE 22 1 0 0 0, zE 16 3 50 0 0, none, none, zE 3 1 0 0 0, zEw 20 3 12 0 1 1030, none, none, zEn 2 6, none, zE 1 1 1 0 0, zE 7 1 0 0 0, zE 22 1 0 0 0, zE 3 1 0 0 0, zEw 20 3 12 0 1 1030],
  [none, none, zEn 2 6, none, zE 1 1 2 0 0, zE 7 1 0 0 0, zE 22 1 0 0 0, zE 16 3 46 5 0, none, none, zEn 1 1, zE 17 3 60 0 0, none, none, zEn 1 0, zE 17 3 60 0 0],
  [none, none, zE 1 1 1 0 0, zE 1 1 2 0 0, zE 16 3 59 3 0, none, none, zEn 1 1, zE 17 3 60 0 0, none, none, zEn 1 0, zE 35 1 0 0 1]]
/-- ColdShodModel.ideaOf(I)I -/
noncomputable def zi_197 : List (List (Option zI)) := [[zEn 1 0, zE 4 1 2 0 0, zE 1 1 2 0 0, zE 3 1 0 0 0, zEw 20 3 12 7 0 1060, none, none, zE 16 3 28 3 0, none, none, zE 3 1 0 0 0, zEw 20 3 12 31 1 1043, none, none, zE 1 1 2 0 0, zE 22 1 0 0 0],
  [zE 1 1 1 0 0, zE 16 3 22 1 0, none, none, zE 1 1 2 0 0, zE 35 1 0 0 0, some (19, 3, 2, 0, 0, .int 1, []), none, none, zE 17 3 2 0 0, none, none, some (0, 1, 0, 0, 0, .int (-1), []), zE 35 1 0 0 0]]
/-- ColdShodModel.allAsk()V -/
noncomputable def zi_198 : List (List (Option zI)) := [[zEn 1 0, zE 4 1 1 0 0, zE 1 1 1 0 0, zE 3 1 0 0 0, zEw 20 3 12 7 0 1060, none, none, zE 16 3 23 3 0, none, none, zE 3 1 0 0 0, zEw 20 3 12 31 1 1043, none, none, zE 1 1 1 0 0, some (0, 1, 0, 0, 0, .int (-1), [])],
  [zE 25 1 0 0 0, some (19, 3, 1, 0, 0, .int 1, []), none, none, zE 17 3 2 0 0, none, none, zEn 1 0, zE 4 1 1 0 0, zE 1 1 1 0 0, zE 3 1 0 0 0, zEw 20 3 12 6 0 1058, none, none, zE 16 3 46 3 0, none],
  [none, zE 3 1 0 0 0, zEw 20 3 12 32 1 1044, none, none, zE 1 1 1 0 0, zEn 1 0, zE 25 1 0 0 0, some (19, 3, 1, 0, 0, .int 1, []), none, none, zE 17 3 25 0 0, none, none, zEn 1 1, zE 4 1 1 0 0],
  [zE 1 1 1 0 0, zE 15 3 194 0 0, none, none, zEn 1 0, zE 4 1 1 0 0, zEn 1 0, zE 4 1 2 0 0, zE 1 1 2 0 0, zE 3 1 0 0 0, zEw 20 3 12 6 0 1058, none, none, zE 16 3 191 3 0, none, none],
  [some (0, 1, 0, 0, 0, .int (-1), []), zE 4 1 3 0 0, zEn 1 0, zE 4 2 4 0 0, none, zE 1 2 4 0 0, none, zE 3 1 0 0 0, zEw 20 3 12 7 0 1060, none, none, zE 16 3 120 3 0, none, none, zE 3 1 0 0 0, zEw 20 3 12 32 1 1044],
  [none, none, zE 1 1 2 0 0, zE 22 1 0 0 0, zE 1 2 4 0 0, none, zEw 32 3 144 2 49 1119, none, none, zE 15 3 112 1 0, none, none, zE 1 1 3 0 0, zE 15 3 107 2 0, none, none],
  [zE 3 1 0 0 0, zE 1 1 2 0 0, zE 1 2 4 0 0, none, zE 1 1 3 0 0, zEw 32 3 195 4 48 1122, none, none, zE 15 3 112 0 0, none, none, zE 1 2 4 0 0, none, zE 17 3 113 0 0, none, none],
  [zE 1 1 3 0 0, zE 4 1 3 0 0, some (19, 3, 4, 0, 0, .int 1, []), none, none, zE 17 3 69 0 0, none, none, zE 3 1 0 0 0, zE 1 1 2 0 0, zEw 32 3 197 2 48 1123, none, none, zE 15 3 185 3 0, none, none],
  [zE 1 1 3 0 0, zE 15 3 185 2 0, none, none, zEn 1 1, zE 4 1 1 0 0, zE 3 1 0 0 0, zEw 20 3 12 32 1 1044, none, none, zE 1 1 2 0 0, zE 41 1 0 0 0, zE 22 1 0 0 0, zEn 1 1, zE 1 1 3 0 0, zE 7 1 0 6 0],
  [zE 7 1 0 4 0, zE 25 1 0 0 0, zE 3 1 0 0 0, zEw 20 3 12 31 1 1043, none, none, zE 1 1 3 0 0, zE 3 1 0 0 0, zEw 20 3 12 31 1 1043, none, none, zE 1 1 3 0 0, zE 22 1 0 0 0, zE 15 3 174 2 0, none, none],
  [zE 3 1 0 0 0, zE 1 1 2 0 0, zE 3 1 0 0 0, zEw 20 3 12 31 1 1043, none, none, zE 1 1 3 0 0, zE 22 1 0 0 0, zEw 32 3 196 3 48 1124, none, none, zE 15 3 178 0 0, none, none, zE 1 1 2 0 0, zE 17 3 184 0 0],
  [none, none, zE 3 1 0 0 0, zEw 20 3 12 31 1 1043, none, none, zE 1 1 3 0 0, zE 22 1 0 0 0, zE 25 1 0 0 0, some (19, 3, 2, 0, 0, .int 1, []), none, none, zE 17 3 56 0 0, none, none, zE 17 3 48 0 0],
  [none, none, zE 38 1 0 0 0]]
/-- ColdShodModel.asks(I)I -/
noncomputable def zi_199 : List (List (Option zI)) := [[zE 3 1 0 0 0, zE 1 1 1 0 0, zE 10 1 0 0 0, zEw 32 3 151 2 48 1071, none, none, zE 15 3 11 1 0, none, none, some (0, 1, 0, 0, 0, .int (-1), []), zE 35 1 0 0 0, zE 3 1 0 0 0, zEw 32 3 198 1 48 1125, none, none, zE 3 1 0 0 0],
  [zE 1 1 1 0 0, zEw 32 3 197 2 48 1123, none, none, zE 15 3 28 3 0, none, none, some (0, 2, 0, 0, 0, .int (-2), []), none, zE 17 3 33 0 0, none, none, zE 3 1 0 0 0, zE 1 1 1 0 0, zEw 32 3 197 2 48 1123, none],
  [none, zE 35 1 0 0 0]]
/-- ColdShodModel.settled()I -/
noncomputable def zi_200 : List (List (Option zI)) := [[zEn 1 0, zE 4 1 1 0 0, zE 1 1 1 0 0, zE 3 1 0 0 0, zEw 20 3 12 7 0 1060, none, none, zE 16 3 31 3 0, none, none, zE 3 1 0 0 0, zEw 20 3 12 31 1 1043, none, none, zE 1 1 1 0 0, zE 3 1 0 0 0],
  [zEw 20 3 12 0 1 1030, none, none, zEn 2 60, none, zE 1 1 1 0 0, zE 7 1 0 0 0, zE 22 1 0 0 0, zE 25 1 0 0 0, some (19, 3, 1, 0, 0, .int 1, []), none, none, zE 17 3 2 0 0, none, none, zEn 1 0],
  [zE 4 1 1 0 0, zE 1 1 1 0 0, zE 3 1 0 0 0, zEw 20 3 12 7 0 1060, none, none, zE 16 3 86 3 0, none, none, zEn 1 0, zE 4 1 2 0 0, zE 1 1 2 0 0, zE 1 1 1 0 0, zE 16 3 80 3 0, none, none],
  [zE 3 1 0 0 0, zEw 20 3 12 31 1 1043, none, none, zE 1 1 1 0 0, zE 22 1 0 0 0, zE 15 3 74 2 0, none, none, zE 3 1 0 0 0, zEw 20 3 12 31 1 1043, none, none, zE 1 1 1 0 0, zE 22 1 0 0 0, zE 3 1 0 0 0],
  [zEw 20 3 12 31 1 1043, none, none, zE 1 1 2 0 0, zE 22 1 0 0 0, zE 16 3 74 1 0, none, none, zEn 1 0, zE 35 1 0 0 0, some (19, 3, 2, 0, 0, .int 1, []), none, none, zE 17 3 43 0 0, none, none],
  [some (19, 3, 1, 0, 0, .int 1, []), none, none, zE 17 3 33 0 0, none, none, zEn 1 0, zE 4 1 1 0 0, zE 1 1 1 0 0, zE 3 1 0 0 0, zEw 20 3 12 6 0 1058, none, none, zE 16 3 202 3 0, none, none],
  [zE 3 1 0 0 0, zE 1 1 1 0 0, zEw 32 3 197 2 48 1123, none, none, zE 4 1 2 0 0, zEn 1 0, zE 4 1 3 0 0, zE 1 1 3 0 0, zE 3 1 0 0 0, zEw 20 3 12 7 0 1060, none, none, zE 16 3 196 3 0, none, none],
  [zE 1 1 2 0 0, zE 15 3 131 2 0, none, none, zE 1 1 2 0 0, zE 1 1 3 0 0, zE 16 3 135 0 0, none, none, zE 3 1 0 0 0, zE 1 1 1 0 0, zE 1 1 3 0 0, zE 1 1 2 0 0, zEw 32 3 195 4 48 1122, none, none],
  [zE 15 3 135 0 0, none, none, zEn 1 1, zE 17 3 136 0 0, none, none, zEn 1 0, zE 4 2 4 0 0, none, zE 3 1 0 0 0, zEw 20 3 12 31 1 1043, none, none, zE 1 1 3 0 0, zE 22 1 0 0 0],
  [zE 15 3 171 2 0, none, none, zE 3 1 0 0 0, zEw 20 3 12 31 1 1043, none, none, zE 1 1 3 0 0, zE 22 1 0 0 0, zE 1 1 1 0 0, zE 16 3 175 0 0, none, none, zE 3 1 0 0 0, zE 1 1 1 0 0, zE 3 1 0 0 0],
  [zEw 20 3 12 31 1 1043, none, none, zE 1 1 3 0 0, zE 22 1 0 0 0, zEw 32 3 196 3 48 1124, none, none, zE 15 3 175 0 0, none, none, zEn 1 1, zE 17 3 176 0 0, none, none, zEn 1 0],
  [zE 4 2 5 0 0, none, zE 1 2 4 0 0, none, zE 15 3 190 0 0, none, none, zE 1 2 5 0 0, none, zE 15 3 190 0 0, none, none, zEn 1 0, zE 35 1 0 0 0, some (19, 3, 3, 0, 0, .int 1, []), none],
  [none, zE 17 3 104 0 0, none, none, some (19, 3, 1, 0, 0, .int 1, []), none, none, zE 17 3 88 0 0, none, none, zEn 1 1, zE 35 1 0 0 0]]
/-- ColdShodModel.goTogether(II)Z -/
noncomputable def zi_201 : List (List (Option zI)) := [[zE 3 1 0 0 0, zEw 20 3 12 0 1 1030, none, none, zEn 2 20, none, zE 1 1 1 0 0, zE 7 1 0 0 0, zE 22 1 0 0 0, zE 3 1 0 0 0, zEw 20 3 12 0 1 1030, none, none, zEn 2 20, none, zE 1 1 2 0 0],
  [zE 7 1 0 0 0, zE 22 1 0 0 0, zE 7 1 0 1 0, zEw 32 3 146 1 49 1101, none, none, zEn 1 1, zE 16 3 30 4 0, none, none, zEn 1 1, zE 17 3 31 0 0, none, none, zEn 1 0, zE 35 1 0 0 1]]
/-- ColdShodModel.yokes(I)I -/
noncomputable def zi_202 : List (List (Option zI)) := [[zE 1 1 1 0 0, zE 10 1 0 0 0, some (0, 1, 0, 0, 0, .long 0, []), some (0, 3, 0, 0, 0, .long 2, [(0, 1072)]), none, none, zEw 32 3 143 3 49 1059, none, none, zE 15 3 14 1 0, none, none, some (0, 1, 0, 0, 0, .int (-1), []), zE 35 1 0 0 0, zE 1 1 1 0 0, zE 15 3 107 1 0],
  [none, none, zEn 1 0, zE 4 1 2 0 0, some (0, 1, 0, 0, 0, .int (-1), []), zE 4 1 3 0 0, zEn 1 0, zE 4 2 4 0 0, none, zE 1 2 4 0 0, none, zEn 2 6, none, zE 16 3 105 3 0, none, none],
  [zEn 1 0, zE 4 2 5 0 0, none, zEn 1 0, zE 4 2 6 0 0, none, zE 1 2 6 0 0, none, zE 3 1 0 0 0, zEw 20 3 12 7 0 1060, none, none, zE 16 3 80 3 0, none, none, zE 1 2 5 0 0],
  [none, zE 15 3 67 1 0, none, none, zE 3 1 0 0 0, zEw 20 3 12 0 1 1030, none, none, zEn 2 20, none, zE 1 2 6 0 0, none, zE 7 1 0 0 0, zE 22 1 0 0 0, zE 1 2 4 0 0, none],
  [zE 16 3 71 1 0, none, none, zEn 1 1, zE 17 3 72 0 0, none, none, zEn 1 0, zE 4 2 5 0 0, none, some (19, 3, 6, 0, 0, .int 1, []), none, none, zE 17 3 38 0 0, none, none],
  [zE 1 2 5 0 0, none, zE 15 3 99 0 0, none, none, zE 1 2 4 0 0, none, zE 1 1 3 0 0, zE 16 3 99 5 0, none, none, zE 1 2 4 0 0, none, zEn 1 1, zE 7 1 0 0 0, zE 4 1 3 0 0],
  [some (19, 3, 2, 0, 0, .int 1, []), none, none, some (19, 3, 4, 0, 0, .int 1, []), none, none, zE 17 3 25 0 0, none, none, zE 1 1 2 0 0, zE 35 1 0 0 0, zEn 1 0, zE 4 1 2 0 0, zEn 1 0, zE 4 1 3 0 0, zE 1 1 3 0 0],
  [zEn 1 1, zE 3 1 0 0 0, zEw 20 3 12 7 0 1060, none, none, zE 7 1 0 6 0, zE 16 3 231 3 0, none, none, zE 1 1 3 0 0, zEw 32 3 145 1 49 1126, none, none, zE 1 1 2 0 0, zEw 32 3 145 1 49 1126, none],
  [none, zE 16 3 136 5 0, none, none, zEn 1 1, zE 17 3 137 0 0, none, none, zEn 1 0, zE 4 2 4 0 0, none, zEn 1 0, zE 4 2 5 0 0, none, zE 1 2 5 0 0, none],
  [zE 3 1 0 0 0, zEw 20 3 12 7 0 1060, none, none, zE 16 3 214 3 0, none, none, zEn 1 0, zE 4 2 6 0 0, none, zE 1 2 6 0 0, none, zE 1 2 5 0 0, none, zE 16 3 208 3 0, none],
  [none, zE 1 2 4 0 0, none, zE 15 3 199 0 0, none, none, zE 1 1 3 0 0, zE 1 2 5 0 0, none, zEw 32 3 144 2 49 1119, none, none, zE 15 3 195 0 0, none, none, zE 1 1 3 0 0],
  [zE 1 2 6 0 0, none, zEw 32 3 144 2 49 1119, none, none, zE 15 3 195 0 0, none, none, zE 3 1 0 0 0, zE 1 2 5 0 0, none, zE 1 2 6 0 0, none, zEw 32 3 201 3 48 1127, none, none],
  [zE 15 3 199 1 0, none, none, zEn 1 1, zE 17 3 200 0 0, none, none, zEn 1 0, zE 4 2 4 0 0, none, some (19, 3, 6, 0, 0, .int 1, []), none, none, zE 17 3 154 0 0, none, none],
  [some (19, 3, 5, 0, 0, .int 1, []), none, none, zE 17 3 142 0 0, none, none, zE 1 2 4 0 0, none, zE 15 3 223 0 0, none, none, zE 1 1 3 0 0, zE 17 3 224 0 0, none, none, zE 1 1 2 0 0],
  [zE 4 1 2 0 0, some (19, 3, 3, 0, 0, .int 1, []), none, none, zE 17 3 111 0 0, none, none, zE 1 1 1 0 0, zEn 1 1, zE 16 3 243 1 0, none, none, zE 1 1 2 0 0, zEw 32 3 145 1 49 1126, none, none],
  [zE 17 3 244 0 0, none, none, zE 1 1 2 0 0, zE 35 1 0 0 0]]
/-- ColdShodModel.rowsAre(I)I -/
noncomputable def zi_203 : List (List (Option zI)) := [[zE 1 1 1 0 0, zE 15 3 24 2 0, none, none, zE 1 1 1 0 0, zEn 2 10, none, zE 8 1 0 0 0, zEw 32 3 228 1 49 1069, none, none, zE 15 3 24 0 0, none, none, zE 1 1 1 0 0, zEn 2 10],
  [none, zE 8 1 0 1 0, zEw 32 3 228 1 49 1069, none, none, zE 15 3 26 1 0, none, none, some (0, 1, 0, 0, 0, .int (-1), []), zE 35 1 0 0 0, zE 3 1 0 0 0, zE 1 1 1 0 0, zEn 2 10, none, zE 8 1 0 0 0, zEw 32 3 186 2 48 1112],
  [none, none, zE 15 3 48 3 0, none, none, zE 3 1 0 0 0, zE 1 1 1 0 0, zEn 2 10, none, zE 8 1 0 0 0, zEw 32 3 186 2 48 1112, none, none, zE 17 3 56 0 0, none, none],
  [zE 3 1 0 0 0, zE 1 1 1 0 0, zEn 2 10, none, zE 8 1 0 1 0, zEw 32 3 186 2 48 1112, none, none, zE 35 1 0 0 0]]
/-- ColdShodModel.firstFalse(II)I -/
noncomputable def zi_204 : List (List (Option zI)) := [[zE 3 1 0 0 0, zE 1 1 2 0 0, zEw 32 3 178 2 48 1102, none, none, zEn 1 1, zE 4 1 3 0 0, zEn 1 0, zE 4 2 4 0 0, none, zE 1 2 4 0 0, none, zE 3 1 0 0 0, zEw 20 3 12 46 1 1052, none, none],
  [zE 1 1 1 0 0, zEn 2 10, none, zE 8 1 0 1 0, zE 22 1 0 0 0, zE 16 3 122 3 0, none, none, zE 1 2 4 0 0, none, zE 15 3 83 5 0, none, none, zE 1 1 3 0 0, zE 15 3 50 0 0, none],
  [none, zE 1 2 4 0 0, none, zE 3 1 0 0 0, zE 1 1 1 0 0, zEn 2 10, none, zE 8 1 0 0 0, zEw 32 3 187 2 48 1110, none, none, zE 16 3 50 4 0, none, none, zEn 1 1, zE 17 3 51 0 0],
  [none, none, zEn 1 0, zE 4 1 3 0 0, zE 1 1 3 0 0, zE 15 3 83 0 0, none, none, zE 3 1 0 0 0, zE 3 1 0 0 0, zEw 20 3 12 47 1 1053, none, none, zEn 2 60, none, zE 1 1 1 0 0],
  [zEn 2 10, none, zE 8 1 0 0 0, zE 7 1 0 2 0, zE 1 2 4 0 0, none, zE 7 1 0 0 0, zEn 1 1, zE 7 1 0 1 0, zE 23 1 0 0 0, zE 11 1 0 0 0, zEw 32 3 183 2 48 1111, none, none, zE 3 1 0 0 0, zEw 20 3 12 23 0 1105],
  [none, none, zE 4 1 3 0 0, zE 1 1 3 0 0, zE 15 3 113 0 0, none, none, zE 3 1 0 0 0, zEw 20 3 12 47 1 1053, none, none, zEn 2 60, none, zE 1 1 1 0 0, zEn 2 10, none],
  [zE 8 1 0 1 0, zE 7 1 0 2 0, zE 1 2 4 0 0, none, zE 7 1 0 0 0, zE 23 1 0 0 0, zE 3 1 0 0 0, zEw 20 3 12 21 1 1039, none, none, zEn 1 2, zE 22 1 0 0 0, zE 10 1 0 0 0, zE 14 1 0 0 0, zE 15 3 116 0 0, none],
  [none, zE 1 2 4 0 0, none, zE 35 1 0 0 0, some (19, 3, 4, 0, 0, .int 1, []), none, none, zE 17 3 10 0 0, none, none, some (0, 2, 0, 0, 0, .int (-2), []), none, zE 35 1 0 0 0]]
/-- ColdShodModel.judge(II)I -/
noncomputable def zi_205 : List (List (Option zI)) := [[zE 3 1 0 0 0, zE 1 1 1 0 0, zEw 32 3 203 2 48 1128, none, none, some (0, 1, 0, 0, 0, .int (-1), []), zE 16 3 18 0 0, none, none, zE 3 1 0 0 0, zE 1 1 2 0 0, zE 10 1 0 0 0, zEw 32 3 152 2 48 1074, none, none, zE 15 3 20 1 0],
  [none, none, some (0, 1, 0, 0, 0, .int (-1), []), zE 35 1 0 0 0, zE 3 1 0 0 0, zE 1 1 1 0 0, zEw 32 3 203 2 48 1128, none, none, zE 15 3 36 3 0, none, none, zE 3 1 0 0 0, zE 1 1 1 0 0, zEw 32 3 203 2 48 1128, none],
  [none, zE 17 3 42 0 0, none, none, zE 3 1 0 0 0, zE 1 1 1 0 0, zE 1 1 2 0 0, zEw 32 3 204 3 48 1129, none, none, zE 35 1 0 0 0]]
/-- ColdShodModel.edge(III)I -/
noncomputable def zi_206 : List (List (Option zI)) := [[zE 3 1 0 0 0, zE 1 1 1 0 0, zEw 32 3 203 2 48 1128, none, none, some (0, 1, 0, 0, 0, .int (-1), []), zE 16 3 28 0 0, none, none, zE 3 1 0 0 0, zE 1 1 2 0 0, zE 10 1 0 0 0, zEw 32 3 152 2 48 1074, none, none, zE 15 3 28 0 0],
  [none, none, zE 1 1 3 0 0, zE 10 1 0 0 0, some (0, 1, 0, 0, 0, .long 0, []), some (0, 1, 0, 0, 0, .long 1, []), zEw 32 3 143 3 49 1059, none, none, zE 15 3 30 1 0, none, none, some (0, 1, 0, 0, 0, .int (-1), []), zE 35 1 0 0 0, zE 3 1 0 0 0, zE 1 1 1 0 0],
  [zEw 32 3 203 2 48 1128, none, none, zE 15 3 44 3 0, none, none, zE 3 1 0 0 0, zE 1 1 1 0 0, zEw 32 3 203 2 48 1128, none, none, zE 35 1 0 0 0, zE 1 1 3 0 0, zE 15 3 53 1 0, none, none],
  [zEn 2 12, none, zE 17 3 55 0 0, none, none, zEn 2 20, none, zE 1 1 2 0 0, zE 7 1 0 0 0, zE 4 2 4 0 0, none, zE 3 1 0 0 0, zEw 20 3 12 0 1 1030, none, none, zE 1 2 4 0 0],
  [none, zE 22 1 0 0 0, zE 4 2 5 0 0, none, zEn 1 0, zE 4 2 6 0 0, none, zEn 1 0, zE 4 2 7 0 0, none, zE 1 2 7 0 0, none, zE 1 1 3 0 0, zE 15 3 84 1 0, none, none],
  [zEn 1 3, zE 17 3 85 0 0, none, none, zEn 1 5, zE 16 3 127 4 0, none, none, zE 3 1 0 0 0, zEw 20 3 12 0 1 1030, none, none, zE 1 2 4 0 0, none, zE 1 2 7 0 0, none],
  [zE 25 1 0 0 0, zE 1 2 6 0 0, none, zE 3 1 0 0 0, zE 1 1 1 0 0, zE 1 1 2 0 0, zEw 32 3 204 3 48 1129, none, none, some (0, 2, 0, 0, 0, .int (-2), []), none, zE 16 3 117 1 0, none, none, zEn 1 1, zE 1 2 7 0 0],
  [none, zE 7 1 0 6 0, zE 17 3 118 0 0, none, none, zEn 1 0, zE 7 1 0 4 0, zE 4 2 6 0 0, none, some (19, 3, 7, 0, 0, .int 1, []), none, none, zE 17 3 74 0 0, none, none, zE 3 1 0 0 0],
  [zEw 20 3 12 0 1 1030, none, none, zE 1 2 4 0 0, none, zE 1 2 5 0 0, none, zE 25 1 0 0 0, zE 1 2 6 0 0, none, zE 35 1 0 0 0]]
/-- ColdShodModel.playsFrom(III)I -/
noncomputable def zi_207 : List (List (Option zI)) := [[zE 1 1 2 0 0, zE 1 1 3 0 0, zE 16 3 155 1 0, none, none, zE 3 1 0 0 0, zE 1 1 1 0 0, zEw 32 3 178 2 48 1102, none, none, zEn 1 0, zE 4 2 4 0 0, none, zE 1 2 4 0 0, none, zE 1 1 3 0 0],
  [zE 16 3 148 3 0, none, none, zE 1 2 4 0 0, none, zEn 1 2, zE 8 1 0 1 0, zE 15 3 51 1 0, none, none, zE 3 1 0 0 0, zEw 20 3 12 33 1 1045, none, none, zE 1 2 4 0 0, none],
  [zE 22 1 0 0 0, zEn 1 2, zE 16 3 51 3 0, none, none, zE 3 1 0 0 0, zEn 1 3, zE 3 1 0 0 0, zEw 20 3 12 33 1 1045, none, none, zE 1 2 4 0 0, none, zE 22 1 0 0 0, zE 7 1 0 2 0, zEw 32 3 184 2 48 1115],
  [none, none, zE 42 1 0 0 0, zE 1 2 4 0 0, none, zEn 1 2, zE 8 1 0 1 0, zEn 1 1, zE 16 3 100 1 0, none, none, zE 3 1 0 0 0, zEw 20 3 12 33 1 1045, none, none, zE 1 2 4 0 0],
  [none, zE 22 1 0 0 0, zE 15 3 100 1 0, none, none, zE 3 1 0 0 0, zEw 20 3 12 21 1 1039, none, none, zEn 1 2, zE 3 1 0 0 0, zEw 20 3 12 21 1 1039, none, none, zEn 1 2, zE 22 1 0 0 0],
  [zEn 2 92, none, zE 16 3 90 5 0, none, none, zEn 2 99, none, zE 17 3 99 0 0, none, none, zE 3 1 0 0 0, zEw 20 3 12 21 1 1039, none, none, zEn 1 2, zE 22 1 0 0 0],
  [zEn 2 7, none, zE 7 1 0 0 0, zE 25 1 0 0 0, zE 1 2 4 0 0, none, zEn 1 2, zE 8 1 0 1 0, zEn 1 1, zE 16 3 142 1 0, none, none, zE 3 1 0 0 0, zEw 20 3 12 33 1 1045, none, none],
  [zE 1 2 4 0 0, none, zE 22 1 0 0 0, zEn 1 1, zE 16 3 142 1 0, none, none, zE 3 1 0 0 0, zEw 20 3 12 21 1 1039, none, none, zEn 1 3, zE 41 1 0 0 0, zE 22 1 0 0 0, zE 3 1 0 0 0, zEw 20 3 12 21 1 1039],
  [none, none, zEn 1 3, zE 22 1 0 0 0, zE 15 3 139 5 0, none, none, zEn 1 1, zE 17 3 140 0 0, none, none, zEn 1 0, zE 7 1 0 1 0, zE 25 1 0 0 0, some (19, 3, 4, 0, 0, .int 1, []), none],
  [none, zE 17 3 13 0 0, none, none, zE 3 1 0 0 0, zEw 20 3 12 21 1 1039, none, none, zEn 1 2, zE 22 1 0 0 0, zE 35 1 0 0 0, some (0, 1, 0, 0, 0, .int (-1), []), zE 4 2 4 0 0, none, zEn 1 0, zE 4 2 5 0 0],
  [none, zE 1 2 5 0 0, none, zEn 1 3, zE 16 3 241 3 0, none, none, zE 3 1 0 0 0, zEw 20 3 12 33 1 1045, none, none, zE 1 1 2 0 0, zE 1 2 5 0 0, none, zE 25 1 0 0 0, zE 3 1 0 0 0],
  [zE 1 1 1 0 0, zE 1 1 2 0 0, zEn 1 1, zE 7 1 0 0 0, zE 1 1 3 0 0, zEw 32 3 207 4 48 1130, none, none, zE 4 2 6 0 0, none, zE 1 2 4 0 0, none, zE 15 3 196 3 0, none, none, zE 1 2 6 0 0],
  [none, zE 17 3 233 0 0, none, none, zE 1 1 2 0 0, zEn 1 2, zE 8 1 0 1 0, zE 15 3 219 1 0, none, none, zE 1 2 6 0 0, none, zE 1 2 4 0 0, none, zE 16 3 214 3 0, none],
  [none, zE 1 2 6 0 0, none, zE 17 3 233 0 0, none, none, zE 1 2 4 0 0, none, zE 17 3 233 0 0, none, none, zE 1 2 6 0 0, none, zE 1 2 4 0 0, none, zE 16 3 231 5 0],
  [none, none, zE 1 2 6 0 0, none, zE 17 3 233 0 0, none, none, zE 1 2 4 0 0, none, zE 4 2 4 0 0, none, some (19, 3, 5, 0, 0, .int 1, []), none, none, zE 17 3 161 0 0, none],
  [none, zE 1 2 4 0 0, none, zE 35 1 0 0 0]]
/-- ColdShodModel.byTurns(III)I -/
noncomputable def zi_208 : List (List (Option zI)) := [[zE 3 1 0 0 0, zE 1 1 1 0 0, zE 10 1 0 0 0, zEw 32 3 152 2 48 1074, none, none, zE 15 3 31 0 0, none, none, zE 1 1 2 0 0, zE 10 1 0 0 0, some (0, 1, 0, 0, 0, .long 1, []), some (0, 3, 0, 0, 0, .long 5, [(0, 1063)]), none, none, zEw 32 3 143 3 49 1059],
  [none, none, zE 15 3 31 0 0, none, none, zE 1 1 3 0 0, zE 10 1 0 0 0, some (0, 1, 0, 0, 0, .long 0, []), some (0, 1, 0, 0, 0, .long 1, []), zEw 32 3 143 3 49 1059, none, none, zE 15 3 33 1 0, none, none, some (0, 1, 0, 0, 0, .int (-1), [])],
  [zE 35 1 0 0 0, zE 3 1 0 0 0, zE 1 1 1 0 0, zEn 1 0, zE 1 1 2 0 0, zEw 32 3 207 4 48 1130, none, none, zE 4 2 4 0 0, none, zE 1 1 3 0 0, zE 15 3 49 1 0, none, none, zE 1 2 4 0 0, none],
  [zE 35 1 0 0 0, zE 3 1 0 0 0, zEw 20 3 12 33 1 1045, none, none, zEn 1 0, zEn 1 2, zE 25 1 0 0 0, zE 3 1 0 0 0, zE 1 1 1 0 0, zEn 1 1, zE 1 1 2 0 0, zEw 32 3 207 4 48 1130, none, none, zE 1 2 4 0 0],
  [none, zE 16 3 70 1 0, none, none, zEn 1 4, zE 35 1 0 0 0, zE 3 1 0 0 0, zEw 20 3 12 33 1 1045, none, none, zEn 1 0, zEn 1 0, zE 25 1 0 0 0, zE 3 1 0 0 0, zE 1 1 1 0 0, zEn 1 1],
  [zE 1 1 2 0 0, zEw 32 3 207 4 48 1130, none, none, zE 1 2 4 0 0, none, zE 16 3 93 1 0, none, none, zEn 1 0, zE 17 3 94 0 0, none, none, zEn 1 3, zE 35 1 0 0 0]]
/-- ColdShodModel.drawn(IIII)I -/
noncomputable def zi_209 : List (List (Option zI)) := [[zE 1 1 2 0 0, zE 15 3 54 2 0, none, none, zE 1 1 2 0 0, zEn 2 100, none, zE 8 1 0 0 0, zE 10 1 0 0 0, some (0, 1, 0, 0, 0, .long 1, []), some (0, 3, 0, 0, 0, .long 30, [(0, 1131)]), none, none, zEw 32 3 143 3 49 1059, none, none],
  [zE 15 3 54 0 0, none, none, zE 1 1 2 0 0, zEn 2 100, none, zE 8 1 0 1 0, zE 10 1 0 0 0, some (0, 1, 0, 0, 0, .long 1, []), some (0, 3, 0, 0, 0, .long 40, [(0, 1132)]), none, none, zEw 32 3 143 3 49 1059, none, none, zE 15 3 54 0 0],
  [none, none, zE 3 1 0 0 0, zE 1 1 3 0 0, zE 10 1 0 0 0, zEw 32 3 152 2 48 1074, none, none, zE 15 3 54 0 0, none, none, zE 1 2 4 0 0, none, zE 10 1 0 0 0, some (0, 1, 0, 0, 0, .long 0, []), some (0, 1, 0, 0, 0, .long 1, [])],
  [zEw 32 3 143 3 49 1059, none, none, zE 15 3 56 1 0, none, none, some (0, 1, 0, 0, 0, .int (-1), []), zE 35 1 0 0 0, zE 1 1 1 0 0, zE 4 2 5 0 0, none, zEn 1 0, zE 4 2 6 0 0, none, zEn 1 0, zE 4 2 7 0 0],
  [none, zE 3 1 0 0 0, zEw 20 3 12 0 1 1030, none, none, zEn 2 60, none, zE 1 1 3 0 0, zE 7 1 0 0 0, zE 22 1 0 0 0, zE 15 3 82 3 0, none, none, zEn 2 6, none, zE 17 3 99 0 0],
  [none, none, zE 3 1 0 0 0, zEw 20 3 12 0 1 1030, none, none, zEn 2 6, none, zE 3 1 0 0 0, zEw 20 3 12 0 1 1030, none, none, zEn 2 60, none, zE 1 1 3 0 0, zE 7 1 0 0 0],
  [zE 22 1 0 0 0, zE 7 1 0 0 0, zE 22 1 0 0 0, zE 4 2 8 0 0, none, zEn 1 0, zE 4 2 9 0 0, none, zE 1 2 9 0 0, none, zE 1 1 2 0 0, zEn 2 100, none, zE 8 1 0 0 0, zE 16 3 224 3 0, none],
  [none, zE 3 1 0 0 0, zE 1 1 3 0 0, zEw 32 3 178 2 48 1102, none, none, zEn 1 0, zE 4 2 10 0 0, none, zE 1 2 10 0 0, none, zE 1 1 2 0 0, zEn 2 100, none, zE 8 1 0 1 0, zE 16 3 197 3 0],
  [none, none, zE 3 1 0 0 0, zEw 20 3 12 8 0 1061, none, none, zE 15 3 197 5 0, none, none, zE 1 2 5 0 0, none, some (0, 3, 0, 0, 0, .int 1103515245, [(0, 1133)]), none, none, zE 7 1 0 2 0, zEn 3 12345],
  [none, none, zE 7 1 0 0 0, zE 4 2 5 0 0, none, zE 1 2 5 0 0, none, zEn 2 16, none, zE 7 1 0 8 0, zEn 2 12, none, zE 8 1 0 1 0, zE 1 2 8 0 0, none, zE 16 3 168 3 0],
  [none, none, zE 3 1 0 0 0, zEn 1 3, zEw 32 3 184 2 48 1115, none, none, zE 42 1 0 0 0, zE 3 1 0 0 0, zE 1 2 5 0 0, none, zEn 2 8, none, zE 7 1 0 8 0, zE 3 1 0 0 0, zEw 20 3 12 8 0 1061],
  [none, none, zE 8 1 0 1 0, zEw 32 3 183 2 48 1111, none, none, zE 1 2 6 0 0, none, zE 3 1 0 0 0, zEw 20 3 12 22 0 1104, none, none, zE 7 1 0 0 0, zE 4 2 6 0 0, none, some (19, 3, 10, 0, 0, .int 1, [])],
  [none, none, zE 17 3 121 0 0, none, none, zE 1 2 7 0 0, none, zE 3 1 0 0 0, zEw 20 3 12 21 1 1039, none, none, zEn 1 2, zE 22 1 0 0 0, zEn 2 99, none, zE 16 3 214 1 0],
  [none, none, zEn 1 1, zE 17 3 215 0 0, none, none, zEn 1 0, zE 7 1 0 0 0, zE 4 2 7 0 0, none, some (19, 3, 9, 0, 0, .int 1, []), none, none, zE 17 3 104 0 0, none, none],
  [zE 1 2 4 0 0, none, zE 15 3 234 1 0, none, none, zE 1 2 6 0 0, none, zE 17 3 236 0 0, none, none, zE 1 2 7 0 0, none, zE 35 1 0 0 0]]
/-- ColdShodModel.keepsOwn(I)V -/
noncomputable def zi_210 : List (List (Option zI)) := [[zEn 1 0, zE 4 1 2 0 0, zE 1 1 2 0 0, zEn 2 6, none, zE 16 3 34 3 0, none, none, zE 3 1 0 0 0, zEw 20 3 12 0 1 1030, none, none, zEn 2 12, none, zEn 2 8, none],
  [zE 1 1 2 0 0, zE 7 1 0 2 0, zE 7 1 0 0 0, zE 1 1 1 0 0, zE 7 1 0 0 0, zE 3 1 0 0 0, zEw 20 3 12 21 1 1039, none, none, zE 1 1 2 0 0, zE 22 1 0 0 0, zE 25 1 0 0 0, some (19, 3, 2, 0, 0, .int 1, []), none, none, zE 17 3 2 0 0],
  [none, none, zE 38 1 0 0 0]]
/-- ColdShodModel.stroke(II)I -/
noncomputable def zi_211 : List (List (Option zI)) := [[zE 3 1 0 0 0, zE 1 1 1 0 0, zE 10 1 0 0 0, zEw 32 3 152 2 48 1074, none, none, zE 15 3 21 0 0, none, none, zE 1 1 2 0 0, zE 10 1 0 0 0, some (0, 1, 0, 0, 0, .long 0, []), some (0, 3, 0, 0, 0, .long 3, [(0, 1064)]), none, none, zEw 32 3 143 3 49 1059],
  [none, none, zE 15 3 23 1 0, none, none, some (0, 1, 0, 0, 0, .int (-1), []), zE 35 1 0 0 0, zE 3 1 0 0 0, zE 1 1 1 0 0, zEw 32 3 178 2 48 1102, none, none, zE 3 1 0 0 0, zE 1 1 2 0 0, zEw 32 3 184 2 48 1115, none],
  [none, zE 4 1 3 0 0, zE 3 1 0 0 0, zE 1 1 1 0 0, zEw 32 3 210 2 48 1134, none, none, zE 3 1 0 0 0, zEw 20 3 12 34 1 1046, none, none, zE 1 1 3 0 0, zE 15 3 51 0 0, none, none, zEn 1 0],
  [zE 17 3 52 0 0, none, none, zEn 1 1, zE 41 1 0 0 0, zE 22 1 0 0 0, zEn 1 1, zE 7 1 0 0 0, zE 25 1 0 0 0, zE 1 1 3 0 0, zE 15 3 65 0 0, none, none, zEn 1 1, zE 17 3 66 0 0, none],
  [none, zEn 1 0, zE 35 1 0 0 0]]
/-- ColdShodModel.goes(II)I -/
noncomputable def zi_212 : List (List (Option zI)) := [[zE 3 1 0 0 0, zE 1 1 1 0 0, zE 10 1 0 0 0, zEw 32 3 152 2 48 1074, none, none, zE 15 3 18 0 0, none, none, zE 3 1 0 0 0, zE 1 1 2 0 0, zE 10 1 0 0 0, zEw 32 3 153 2 48 1076, none, none, zE 15 3 20 1 0],
  [none, none, some (0, 1, 0, 0, 0, .int (-1), []), zE 35 1 0 0 0, zE 3 1 0 0 0, zE 1 1 1 0 0, zEw 32 3 178 2 48 1102, none, none, zE 3 1 0 0 0, zE 1 1 2 0 0, zEw 32 3 182 2 48 1106, none, none, zE 15 3 36 1 0, none],
  [none, some (0, 2, 0, 0, 0, .int (-5), []), none, zE 35 1 0 0 0, zE 3 1 0 0 0, zE 1 1 2 0 0, zEw 32 3 183 2 48 1111, none, none, zE 3 1 0 0 0, zE 1 1 1 0 0, zEw 32 3 210 2 48 1134, none, none, zE 3 1 0 0 0, zEw 20 3 12 34 1 1046],
  [none, none, zEn 1 2, zE 41 1 0 0 0, zE 22 1 0 0 0, zE 3 1 0 0 0, zEw 20 3 12 23 0 1105, none, none, zE 15 3 64 0 0, none, none, zEn 1 1, zE 17 3 65 0 0, none, none],
  [zEn 1 0, zE 7 1 0 0 0, zE 25 1 0 0 0, zE 3 1 0 0 0, zEw 20 3 12 34 1 1046, none, none, zEn 1 3, zE 41 1 0 0 0, zE 22 1 0 0 0, zE 3 1 0 0 0, zEw 20 3 12 22 0 1104, none, none, zE 7 1 0 0 0, zE 25 1 0 0 0],
  [zE 3 1 0 0 0, zEw 20 3 12 34 1 1046, none, none, zEn 1 4, zE 41 1 0 0 0, zE 22 1 0 0 0, zE 3 1 0 0 0, zEw 20 3 12 21 1 1039, none, none, zEn 1 2, zE 22 1 0 0 0, zEn 2 99, none, zE 16 3 102 1 0],
  [none, none, zEn 1 1, zE 17 3 103 0 0, none, none, zEn 1 0, zE 7 1 0 0 0, zE 25 1 0 0 0, zE 3 1 0 0 0, zEw 20 3 12 22 0 1104, none, none, zE 35 1 0 0 0]]
/-- ColdShodModel.deal()I -/
noncomputable def zi_213 : List (List (Option zI)) := [[zE 3 1 0 0 0, zEw 32 3 198 1 48 1125, none, none, zEn 1 0, zE 4 1 1 0 0, zEn 1 0, zE 4 1 2 0 0, zE 1 1 2 0 0, zE 3 1 0 0 0, zEw 20 3 12 7 0 1060, none, none, zE 16 3 54 3 0, none, none],
  [zE 3 1 0 0 0, zEw 20 3 12 0 1 1030, none, none, zEn 2 60, none, zE 1 1 2 0 0, zE 7 1 0 0 0, zE 3 1 0 0 0, zEw 20 3 12 31 1 1043, none, none, zE 1 1 2 0 0, zE 22 1 0 0 0, zE 25 1 0 0 0, zE 1 1 1 0 0],
  [zE 3 1 0 0 0, zEw 20 3 12 31 1 1043, none, none, zE 1 1 2 0 0, zE 22 1 0 0 0, zE 15 3 45 2 0, none, none, zEn 1 1, zE 17 3 46 0 0, none, none, zEn 1 0, zE 7 1 0 0 0, zE 4 1 1 0 0],
  [some (19, 3, 2, 0, 0, .int 1, []), none, none, zE 17 3 8 0 0, none, none, zE 1 1 1 0 0, zE 35 1 0 0 0]]
/-- ColdShodModel.led(I)I -/
noncomputable def zi_214 : List (List (Option zI)) := [[zE 1 1 1 0 0, zE 10 1 0 0 0, some (0, 1, 0, 0, 0, .long 0, []), some (0, 3, 0, 0, 0, .long 4, [(0, 1113)]), none, none, zEw 32 3 143 3 49 1059, none, none, zE 15 3 21 0 0, none, none, zE 3 1 0 0 0, zEw 20 3 12 34 1 1046, none, none],
  [zE 1 1 1 0 0, zE 22 1 0 0 0, zE 17 3 22 0 0, none, none, some (0, 1, 0, 0, 0, .int (-1), []), zE 35 1 0 0 0]]
/-- ColdShodModel.image()I -/
noncomputable def zi_215 : List (List (Option zI)) := [[zE 3 1 0 0 0, zEn 1 1, zEw 21 3 12 35 2 1135, none, none, zE 3 1 0 0 0, zE 3 1 0 0 0, zEw 20 3 12 7 0 1060, none, none, zEw 21 3 12 36 0 1136, none, none, zEn 1 0, zE 4 1 1 0 0, zE 1 1 1 0 0],
  [zEn 2 104, none, zE 16 3 39 3 0, none, none, zE 3 1 0 0 0, zEw 20 3 12 37 1 1047, none, none, zE 1 1 1 0 0, zE 3 1 0 0 0, zEw 20 3 12 0 1 1030, none, none, zE 1 1 1 0 0, zE 22 1 0 0 0],
  [zE 25 1 0 0 0, some (19, 3, 1, 0, 0, .int 1, []), none, none, zE 17 3 15 0 0, none, none, zEn 1 0, zE 4 1 1 0 0, zE 1 1 1 0 0, zEn 1 5, zE 16 3 64 3 0, none, none, zE 3 1 0 0 0, zEw 20 3 12 38 1 1048],
  [none, none, zE 1 1 1 0 0, zE 3 1 0 0 0, zEw 20 3 12 34 1 1046, none, none, zE 1 1 1 0 0, zE 22 1 0 0 0, zE 25 1 0 0 0, some (19, 3, 1, 0, 0, .int 1, []), none, none, zE 17 3 41 0 0, none, none],
  [zE 3 1 0 0 0, zEw 20 3 12 34 1 1046, none, none, zEn 1 3, zE 22 1 0 0 0, zE 35 1 0 0 0]]
/-- ColdShodModel.back()I -/
noncomputable def zi_216 : List (List (Option zI)) := [[zE 3 1 0 0 0, zEw 20 3 12 35 0 1135, none, none, zE 15 3 10 1 0, none, none, some (0, 2, 0, 0, 0, .int (-5), []), none, zE 35 1 0 0 0, zEn 1 0, zE 4 1 1 0 0, zE 1 1 1 0 0, zE 3 1 0 0 0, zEw 20 3 12 36 0 1136, none],
  [none, zE 16 3 116 3 0, none, none, zE 3 1 0 0 0, zEw 20 3 12 0 1 1030, none, none, zEn 2 20, none, zE 1 1 1 0 0, zE 7 1 0 0 0, zE 3 1 0 0 0, zEw 20 3 12 37 1 1047, none, none],
  [zEn 2 20, none, zE 1 1 1 0 0, zE 7 1 0 0 0, zE 22 1 0 0 0, zE 25 1 0 0 0, zE 3 1 0 0 0, zEw 20 3 12 0 1 1030, none, none, zEn 2 28, none, zE 1 1 1 0 0, zE 7 1 0 0 0, zE 3 1 0 0 0, zEw 20 3 12 37 1 1047],
  [none, none, zEn 2 28, none, zE 1 1 1 0 0, zE 7 1 0 0 0, zE 22 1 0 0 0, zE 25 1 0 0 0, zE 3 1 0 0 0, zEw 20 3 12 0 1 1030, none, none, zEn 2 36, none, zE 1 1 1 0 0, zE 7 1 0 0 0],
  [zE 3 1 0 0 0, zEw 20 3 12 37 1 1047, none, none, zEn 2 36, none, zE 1 1 1 0 0, zE 7 1 0 0 0, zE 22 1 0 0 0, zE 25 1 0 0 0, zE 3 1 0 0 0, zEw 20 3 12 0 1 1030, none, none, zEn 2 52, none],
  [zE 1 1 1 0 0, zE 7 1 0 0 0, zE 3 1 0 0 0, zEw 20 3 12 37 1 1047, none, none, zEn 2 52, none, zE 1 1 1 0 0, zE 7 1 0 0 0, zE 22 1 0 0 0, zE 25 1 0 0 0, zE 3 1 0 0 0, zEw 20 3 12 0 1 1030, none, none],
  [zEn 2 60, none, zE 1 1 1 0 0, zE 7 1 0 0 0, zE 3 1 0 0 0, zEw 20 3 12 37 1 1047, none, none, zEn 2 60, none, zE 1 1 1 0 0, zE 7 1 0 0 0, zE 22 1 0 0 0, zE 25 1 0 0 0, some (19, 3, 1, 0, 0, .int 1, []), none],
  [none, zE 17 3 12 0 0, none, none, zEn 1 0, zE 4 1 1 0 0, zE 1 1 1 0 0, zEn 1 5, zE 16 3 141 3 0, none, none, zE 3 1 0 0 0, zEw 20 3 12 34 1 1046, none, none, zE 1 1 1 0 0],
  [zE 3 1 0 0 0, zEw 20 3 12 38 1 1048, none, none, zE 1 1 1 0 0, zE 22 1 0 0 0, zE 25 1 0 0 0, some (19, 3, 1, 0, 0, .int 1, []), none, none, zE 17 3 118 0 0, none, none, zE 3 1 0 0 0, zEw 20 3 12 34 1 1046, none],
  [none, zEn 1 3, zE 22 1 0 0 0, zE 35 1 0 0 0]]
/-- ColdShodModel.isBody(I)Z -/
noncomputable def zi_217 : List (List (Option zI)) := [[zE 1 1 1 0 0, zE 10 1 0 0 0, some (0, 1, 0, 0, 0, .long 0, []), zE 3 1 0 0 0, zEw 20 3 12 39 0 1137, none, none, zEn 1 1, zE 7 1 0 1 0, zE 10 1 0 0 0, zEw 32 3 143 3 49 1059, none, none, zE 35 1 0 0 1]]
/-- ColdShodModel.kindOf(I)I -/
noncomputable def zi_218 : List (List (Option zI)) := [[zE 3 1 0 0 0, zEw 20 3 12 40 1 1049, none, none, zE 1 1 1 0 0, zE 22 1 0 0 0, zE 35 1 0 0 0]]
/-- ColdShodModel.body(I)I -/
noncomputable def zi_219 : List (List (Option zI)) := [[zE 1 1 1 0 0, zE 10 1 0 0 0, some (0, 1, 0, 0, 0, .long 0, []), some (0, 3, 0, 0, 0, .long 7, [(0, 1062)]), none, none, zEw 32 3 143 3 49 1059, none, none, zE 15 3 14 1 0, none, none, some (0, 1, 0, 0, 0, .int (-1), []), zE 35 1 0 0 0, zE 3 1 0 0 0, zEw 20 3 12 39 0 1137],
  [none, none, zEn 2 50, none, zE 16 3 26 1 0, none, none, some (0, 2, 0, 0, 0, .int (-3), []), none, zE 35 1 0 0 0, zE 3 1 0 0 0, zEw 20 3 12 40 1 1049, none, none, zE 3 1 0 0 0, zEw 20 3 12 39 0 1137],
  [none, none, zE 1 1 1 0 0, zE 25 1 0 0 0, zE 3 1 0 0 0, zE 39 1 0 0 0, zEw 20 3 12 39 0 1137, none, none, zEn 1 1, zE 7 1 0 0 0, zEw 21 3 12 39 0 1137, none, none, zE 3 1 0 0 0, zEw 20 3 12 39 0 1137],
  [none, none, zEn 1 1, zE 7 1 0 1 0, zE 35 1 0 0 0]]
/-- ColdShodModel.above(I)I -/
noncomputable def zi_220 : List (List (Option zI)) := [[zE 1 1 0 0 0, zEn 1 3, zE 16 3 9 1 0, none, none, zEn 1 2, zE 17 3 38 0 0, none, none, zE 1 1 0 0 0, zEn 1 4, zE 16 3 18 1 0, none, none, zEn 1 1, zE 17 3 38 0 0],
  [none, none, zE 1 1 0 0 0, zEn 1 5, zE 16 3 27 1 0, none, none, zEn 1 3, zE 17 3 38 0 0, none, none, zE 1 1 0 0 0, zEn 2 7, none, zE 16 3 37 1 0, none],
  [none, zEn 1 4, zE 17 3 38 0 0, none, none, zEn 1 0, zE 35 1 0 0 0]]
/-- ColdShodModel.runs(I)V -/
noncomputable def zi_221 : List (List (Option zI)) := [[zE 3 1 0 0 0, zEw 20 3 12 42 0 1138, none, none, zEn 2 24, none, zE 16 3 19 3 0, none, none, zE 3 1 0 0 0, zEw 20 3 12 41 1 1050, none, none, zE 3 1 0 0 0, zEw 20 3 12 42 0 1138, none],
  [none, zE 1 1 1 0 0, zE 25 1 0 0 0, zE 3 1 0 0 0, zE 39 1 0 0 0, zEw 20 3 12 42 0 1138, none, none, zEn 1 1, zE 7 1 0 0 0, zEw 21 3 12 42 0 1138, none, none, zE 38 1 0 0 0]]
/-- ColdShodModel.heatsAs(II)I -/
noncomputable def zi_222 : List (List (Option zI)) := [[zE 1 1 1 0 0, zEn 1 1, zE 16 3 16 0 0, none, none, zE 1 1 1 0 0, zEn 1 4, zE 16 3 16 0 0, none, none, zE 1 1 1 0 0, zEn 2 7, none, zE 16 3 31 1 0, none, none],
  [zE 3 1 0 0 0, zEn 2 20, none, zEw 32 3 221 2 48 1139, none, none, zE 3 1 0 0 0, zEn 1 0, zE 1 1 2 0 0, zEw 32 3 222 3 48 1140, none, none, zEn 1 3, zE 7 1 0 0 0, zE 35 1 0 0 0, zE 1 1 1 0 0],
  [zEn 2 6, none, zE 16 3 52 1 0, none, none, zE 3 1 0 0 0, zEn 2 70, none, zEw 32 3 221 2 48 1139, none, none, zE 3 1 0 0 0, zEn 1 0, zE 1 1 2 0 0, zEw 32 3 222 3 48 1140, none],
  [none, zEn 1 2, zE 7 1 0 2 0, zE 35 1 0 0 0, zE 3 1 0 0 0, zEn 1 1, zEw 32 3 221 2 48 1139, none, none, zE 1 1 2 0 0, zE 3 1 0 0 0, zEw 20 3 12 44 0 1141, none, none, zE 7 1 0 0 0, zE 35 1 0 0 0]]
/-- ColdShodModel.drawsAs(II)I -/
noncomputable def zi_223 : List (List (Option zI)) := [[zE 1 1 1 0 0, zEn 1 3, zE 16 3 10 0 0, none, none, zE 1 1 1 0 0, zEn 1 5, zE 16 3 25 1 0, none, none, zE 3 1 0 0 0, zEn 2 41, none, zEw 32 3 221 2 48 1139, none, none],
  [zE 3 1 0 0 0, zEn 1 2, zE 1 1 2 0 0, zEn 1 1, zE 7 1 0 0 0, zEw 32 3 223 3 48 1142, none, none, zE 35 1 0 0 0, zE 1 1 1 0 0, zEn 1 2, zE 16 3 44 1 0, none, none, zE 3 1 0 0 0, zEn 2 30],
  [none, zEw 32 3 221 2 48 1139, none, none, zE 3 1 0 0 0, zEn 1 0, zE 1 1 2 0 0, zEw 32 3 223 3 48 1142, none, none, zE 9 1 0 0 0, zE 35 1 0 0 0, zE 1 1 1 0 0, zEn 2 7, none, zE 16 3 75 1 0],
  [none, none, zE 3 1 0 0 0, zEn 2 80, none, zEw 32 3 221 2 48 1139, none, none, zE 3 1 0 0 0, zEn 1 4, zE 1 1 2 0 0, zEw 32 3 223 3 48 1142, none, none, zE 4 1 3 0 0, zE 1 1 3 0 0],
  [zE 3 1 0 0 0, zE 3 1 0 0 0, zEw 20 3 12 43 0 1143, none, none, zEn 1 2, zEw 32 3 224 3 48 1144, none, none, zE 7 1 0 0 0, zE 35 1 0 0 0, zE 3 1 0 0 0, zEn 2 10, none, zEw 32 3 221 2 48 1139, none],
  [none, zE 3 1 0 0 0, zE 3 1 0 0 0, zEw 20 3 12 43 0 1143, none, none, zE 1 1 2 0 0, zEw 32 3 222 3 48 1140, none, none, zEn 1 2, zE 7 1 0 2 0, zE 35 1 0 0 0]]
/-- ColdShodModel.nailsAs(II)I -/
noncomputable def zi_224 : List (List (Option zI)) := [[zE 1 1 1 0 0, zEn 1 3, zE 16 3 10 0 0, none, none, zE 1 1 1 0 0, zEn 1 5, zE 16 3 25 1 0, none, none, zE 3 1 0 0 0, zEn 2 40, none, zEw 32 3 221 2 48 1139, none, none],
  [zE 3 1 0 0 0, zEn 1 2, zE 1 1 2 0 0, zEw 32 3 224 3 48 1144, none, none, zEn 1 3, zE 7 1 0 2 0, zE 35 1 0 0 0, zE 1 1 1 0 0, zEn 1 4, zE 16 3 36 0 0, none, none, zE 1 1 1 0 0, zEn 2 7],
  [none, zE 16 3 61 1 0, none, none, zE 3 1 0 0 0, zEn 2 50, none, zEw 32 3 221 2 48 1139, none, none, zE 3 1 0 0 0, zEn 1 1, zE 1 1 2 0 0, zEw 32 3 224 3 48 1144, none, none],
  [zE 4 1 3 0 0, zE 1 1 3 0 0, zE 3 1 0 0 0, zE 3 1 0 0 0, zEw 20 3 12 43 0 1143, none, none, zEn 1 2, zEw 32 3 222 3 48 1140, none, none, zE 7 1 0 1 0, zE 35 1 0 0 0, zE 3 1 0 0 0, zEn 2 11, none],
  [zEw 32 3 221 2 48 1139, none, none, zE 1 1 2 0 0, zE 3 1 0 0 0, zEw 20 3 12 44 0 1141, none, none, zE 7 1 0 5 0, zE 35 1 0 0 0]]
/-- ColdShodModel.tellsAs(II)I -/
noncomputable def zi_225 : List (List (Option zI)) := [[zE 1 1 1 0 0, zEn 1 5, zE 16 3 20 1 0, none, none, zE 3 1 0 0 0, zEn 2 60, none, zEw 32 3 221 2 48 1139, none, none, zE 3 1 0 0 0, zEn 1 3, zE 1 1 2 0 0, zEw 32 3 225 3 48 1145, none],
  [none, zEn 1 5, zE 7 1 0 5 0, zE 35 1 0 0 0, zE 1 1 1 0 0, zEn 2 7, none, zE 16 3 41 1 0, none, none, zE 3 1 0 0 0, zEn 2 81, none, zEw 32 3 221 2 48 1139, none, none],
  [zE 3 1 0 0 0, zEn 1 4, zE 1 1 2 0 0, zEw 32 3 225 3 48 1145, none, none, zEn 1 1, zE 7 1 0 1 0, zE 35 1 0 0 0, zE 3 1 0 0 0, zEn 1 2, zEw 32 3 221 2 48 1139, none, none, zE 3 1 0 0 0, zE 3 1 0 0 0],
  [zEw 20 3 12 43 0 1143, none, none, zE 1 1 2 0 0, zEw 32 3 223 3 48 1142, none, none, zE 4 1 3 0 0, zE 1 1 3 0 0, zE 3 1 0 0 0, zE 3 1 0 0 0, zEw 20 3 12 43 0 1143, none, none, zEn 1 1, zEw 32 3 224 3 48 1144],
  [none, none, zE 7 1 0 1 0, zE 35 1 0 0 0]]
/-- ColdShodModel.act(III)I -/
noncomputable def zi_226 : List (List (Option zI)) := [[zE 3 1 0 0 0, zEn 1 0, zEw 21 3 12 42 0 1138, none, none, zE 3 1 0 0 0, zE 1 1 1 0 0, zEw 32 3 217 2 48 1146, none, none, zE 15 3 15 1 0, none, none, zEn 1 0, zE 35 1 0 0 0, zE 3 1 0 0 0],
  [zE 3 1 0 0 0, zEw 20 3 12 40 1 1049, none, none, zE 1 1 1 0 0, zE 22 1 0 0 0, zEw 21 3 12 43 0 1143, none, none, zE 3 1 0 0 0, zE 1 1 1 0 0, zEw 21 3 12 44 0 1141, none, none, zE 1 1 2 0 0, some (18, 29, 100, 0, 0, .null, [(0, 60), (1, 70), (2, 80), (3, 90)])],
  [none, none, none, none, none, none, none, none, none, none, none, none, none, none, none, none],
  [none, none, none, none, none, none, none, none, none, none, none, none, zE 3 1 0 0 0, zE 3 1 0 0 0, zEw 20 3 12 43 0 1143, none],
  [none, zE 1 1 3 0 0, zEw 32 3 222 3 48 1140, none, none, zE 35 1 0 0 0, zE 3 1 0 0 0, zE 3 1 0 0 0, zEw 20 3 12 43 0 1143, none, none, zE 1 1 3 0 0, zEw 32 3 223 3 48 1142, none, none, zE 35 1 0 0 0],
  [zE 3 1 0 0 0, zE 3 1 0 0 0, zEw 20 3 12 43 0 1143, none, none, zE 1 1 3 0 0, zEw 32 3 224 3 48 1144, none, none, zE 35 1 0 0 0, zE 3 1 0 0 0, zE 3 1 0 0 0, zEw 20 3 12 43 0 1143, none, none, zE 1 1 3 0 0],
  [zEw 32 3 225 3 48 1145, none, none, zE 35 1 0 0 0, zEn 1 0, zE 35 1 0 0 0]]
/-- ColdShodModel.trace(I)I -/
noncomputable def zi_227 : List (List (Option zI)) := [[zE 1 1 1 0 0, zE 15 3 27 2 0, none, none, zE 1 1 1 0 0, zE 3 1 0 0 0, zEw 20 3 12 42 0 1138, none, none, zE 16 3 27 3 0, none, none, zE 1 1 1 0 0, zEn 2 24, none, zE 16 3 27 3 0],
  [none, none, zE 3 1 0 0 0, zEw 20 3 12 41 1 1050, none, none, zE 1 1 1 0 0, zE 22 1 0 0 0, zE 17 3 28 0 0, none, none, some (0, 1, 0, 0, 0, .int (-1), []), zE 35 1 0 0 0]]
/-- ColdShodModel.isShelf(I)Z -/
noncomputable def zi_228 : List (List (Option zI)) := [[zE 1 1 0 0 0, zE 10 1 0 0 0, some (0, 1, 0, 0, 0, .long 0, []), some (0, 3, 0, 0, 0, .long 5, [(0, 1063)]), none, none, zEw 32 3 143 3 49 1059, none, none, zE 35 1 0 0 1]]
/-- ColdShodModel.keep(II)I -/
noncomputable def zi_229 : List (List (Option zI)) := [[zE 1 1 1 0 0, zEw 32 3 228 1 49 1069, none, none, zE 15 3 20 0 0, none, none, zE 1 1 2 0 0, some (0, 1, 0, 0, 0, .int (-1), []), zE 16 3 22 0 0, none, none, zE 3 1 0 0 0, zE 1 1 2 0 0, zEw 32 3 217 2 48 1146, none],
  [none, zE 15 3 22 1 0, none, none, some (0, 1, 0, 0, 0, .int (-1), []), zE 35 1 0 0 0, zE 3 1 0 0 0, zEw 20 3 12 45 1 1051, none, none, zE 1 1 1 0 0, zE 1 1 2 0 0, zE 25 1 0 0 0, zE 3 1 0 0 0, zEw 20 3 12 46 1 1052, none],
  [none, zE 1 1 1 0 0, zEn 1 0, zE 25 1 0 0 0, zEn 1 1, zE 35 1 0 0 0]]
/-- ColdShodModel.row(III)I -/
noncomputable def zi_230 : List (List (Option zI)) := [[zE 1 1 1 0 0, zEw 32 3 228 1 49 1069, none, none, zE 15 3 25 0 0, none, none, zE 1 1 2 0 0, zE 10 1 0 0 0, some (0, 1, 0, 0, 0, .long 0, []), some (0, 3, 0, 0, 0, .long 4, [(0, 1113)]), none, none, zEw 32 3 143 3 49 1059, none, none],
  [zE 15 3 25 0 0, none, none, zE 1 1 3 0 0, zEn 2 60, none, zE 16 3 27 5 0, none, none, some (0, 1, 0, 0, 0, .int (-1), []), zE 35 1 0 0 0, zE 1 1 3 0 0, zE 15 3 34 3 0, none, none, some (0, 2, 0, 0, 0, .int (-14), [])],
  [none, zE 35 1 0 0 0, zE 3 1 0 0 0, zEw 20 3 12 45 1 1051, none, none, zE 1 1 1 0 0, zEn 2 50, none, zE 1 1 2 0 0, zE 7 1 0 0 0, zE 25 1 0 0 0, zE 3 1 0 0 0, zEw 20 3 12 46 1 1052, none, none],
  [zE 1 1 1 0 0, zE 1 1 3 0 0, zE 25 1 0 0 0, zEn 2 60, none, zE 1 1 1 0 0, zE 7 1 0 2 0, zE 4 2 4 0 0, none, zE 1 2 4 0 0, none, zEn 2 60, none, zE 1 1 1 0 0, zE 7 1 0 2 0, zEn 2 60],
  [none, zE 7 1 0 0 0, zE 16 3 83 3 0, none, none, zE 3 1 0 0 0, zEw 20 3 12 47 1 1053, none, none, zE 1 2 4 0 0, none, some (0, 1, 0, 0, 0, .long 0, []), zE 26 1 0 0 0, some (19, 3, 4, 0, 0, .int 1, []), none, none],
  [zE 17 3 57 0 0, none, none, zEn 1 1, zE 35 1 0 0 0]]
/-- ColdShodModel.refusal(II)I -/
noncomputable def zi_231 : List (List (Option zI)) := [[zE 1 1 1 0 0, zEw 32 3 228 1 49 1069, none, none, zE 15 3 9 1 0, none, none, some (0, 1, 0, 0, 0, .int (-1), []), zE 35 1 0 0 0, zE 3 1 0 0 0, zEw 20 3 12 45 1 1051, none, none, zE 1 1 1 0 0, zE 22 1 0 0 0, zE 15 3 21 3 0],
  [none, none, some (0, 2, 0, 0, 0, .int (-11), []), none, zE 35 1 0 0 0, zE 3 1 0 0 0, zEw 20 3 12 45 1 1051, none, none, zE 1 1 1 0 0, zE 22 1 0 0 0, zEn 2 50, none, zE 16 3 35 3 0, none, none],
  [some (0, 2, 0, 0, 0, .int (-12), []), none, zE 35 1 0 0 0, zE 1 1 2 0 0, zE 15 3 53 2 0, none, none, zE 1 1 2 0 0, zE 3 1 0 0 0, zEw 20 3 12 46 1 1052, none, none, zE 1 1 1 0 0, zE 22 1 0 0 0, zE 16 3 53 3 0, none],
  [none, zEn 1 0, zE 17 3 55 0 0, none, none, some (0, 2, 0, 0, 0, .int (-13), []), none, zE 35 1 0 0 0]]
/-- ColdShodModel.asSort(IJ)J -/
noncomputable def zi_232 : List (List (Option zI)) := [[zE 1 1 0 0 0, zE 15 3 11 1 0, none, none, zE 2 1 1 0 0, zE 11 1 0 0 0, zE 9 1 0 1 0, zE 10 1 0 0 0, zE 17 3 54 0 0, none, none, zE 1 1 0 0 0, zEn 1 1, zE 16 3 23 1 0, none, none],
  [zE 2 1 1 0 0, zE 11 1 0 0 0, zE 9 1 0 2 0, zE 10 1 0 0 0, zE 17 3 54 0 0, none, none, zE 1 1 0 0 0, zEn 1 2, zE 16 3 34 1 0, none, none, zE 2 1 1 0 0, zE 11 1 0 0 0, zE 10 1 0 0 0, zE 17 3 54 0 0],
  [none, none, zE 1 1 0 0 0, zEn 1 4, zE 16 3 53 1 0, none, none, zE 2 1 1 0 0, some (0, 1, 0, 0, 0, .long 0, []), zE 14 1 0 0 0, zE 15 3 49 0 0, none, none, some (0, 1, 0, 0, 0, .long 1, []), zE 17 3 54 0 0, none],
  [none, some (0, 1, 0, 0, 0, .long 0, []), zE 17 3 54 0 0, none, none, zE 2 1 1 0 0, zE 36 1 0 0 0]]
/-- ColdShodModel.put(IIJ)I -/
noncomputable def zi_233 : List (List (Option zI)) := [[zE 3 1 0 0 0, zE 1 1 1 0 0, zE 1 1 2 0 0, zEw 32 3 231 3 48 1147, none, none, zE 4 2 5 0 0, none, zE 1 2 5 0 0, none, zE 15 3 37 1 0, none, none, zE 3 1 0 0 0, zEw 20 3 12 47 1 1053, none],
  [none, zEn 2 60, none, zE 1 1 1 0 0, zE 7 1 0 2 0, zE 1 1 2 0 0, zE 7 1 0 0 0, zE 3 1 0 0 0, zEw 20 3 12 45 1 1051, none, none, zE 1 1 1 0 0, zE 22 1 0 0 0, zEn 2 50, none, zE 7 1 0 1 0],
  [zE 2 1 3 0 0, zEw 32 3 232 2 49 1148, none, none, zE 26 1 0 0 0, zE 1 2 5 0 0, none, zE 15 3 46 1 0, none, none, zEn 1 1, zE 17 3 48 0 0, none, none, zE 1 2 5 0 0, none],
  [zE 35 1 0 0 0]]
/-- ColdShodModel.element(II)J -/
noncomputable def zi_234 : List (List (Option zI)) := [[zE 3 1 0 0 0, zE 1 1 1 0 0, zE 1 1 2 0 0, zEw 32 3 231 3 48 1147, none, none, zE 15 3 15 0 0, none, none, some (0, 3, 0, 0, 0, .long (-9223372036854775808), [(0, 1149)]), none, none, zE 17 3 26 0 0, none, none, zE 3 1 0 0 0],
  [zEw 20 3 12 47 1 1053, none, none, zEn 2 60, none, zE 1 1 1 0 0, zE 7 1 0 2 0, zE 1 1 2 0 0, zE 7 1 0 0 0, zE 23 1 0 0 0, zE 36 1 0 0 0]]
/-- ColdShodModel.shift(IIIII)I -/
noncomputable def zi_235 : List (List (Option zI)) := [[zE 1 1 1 0 0, zEw 32 3 228 1 49 1069, none, none, zE 15 3 14 0 0, none, none, zE 1 1 3 0 0, zEw 32 3 228 1 49 1069, none, none, zE 15 3 16 1 0, none, none, some (0, 1, 0, 0, 0, .int (-1), []), zE 35 1 0 0 0],
  [zE 3 1 0 0 0, zEw 20 3 12 45 1 1051, none, none, zE 1 1 1 0 0, zE 22 1 0 0 0, zE 15 3 34 2 0, none, none, zE 3 1 0 0 0, zEw 20 3 12 45 1 1051, none, none, zE 1 1 3 0 0, zE 22 1 0 0 0, zE 15 3 37 3 0],
  [none, none, some (0, 2, 0, 0, 0, .int (-11), []), none, zE 35 1 0 0 0, zE 3 1 0 0 0, zEw 20 3 12 45 1 1051, none, none, zE 1 1 1 0 0, zE 22 1 0 0 0, zEn 2 50, none, zE 16 3 63 2 0, none, none],
  [zE 3 1 0 0 0, zEw 20 3 12 45 1 1051, none, none, zE 1 1 1 0 0, zE 22 1 0 0 0, zE 3 1 0 0 0, zEw 20 3 12 45 1 1051, none, none, zE 1 1 3 0 0, zE 22 1 0 0 0, zE 16 3 66 0 0, none, none, some (0, 2, 0, 0, 0, .int (-12), [])],
  [none, zE 35 1 0 0 0, zE 1 2 5 0 0, none, zE 15 3 107 2 0, none, none, zE 1 1 2 0 0, zE 15 3 107 2 0, none, none, zE 1 2 4 0 0, none, zE 15 3 107 2 0, none, none],
  [zE 1 1 2 0 0, zE 3 1 0 0 0, zEw 20 3 12 46 1 1052, none, none, zE 1 1 1 0 0, zE 22 1 0 0 0, zE 1 2 5 0 0, none, zE 7 1 0 1 0, zE 16 3 107 4 0, none, none, zE 1 2 4 0 0, none, zE 3 1 0 0 0],
  [zEw 20 3 12 46 1 1052, none, none, zE 1 1 3 0 0, zE 22 1 0 0 0, zE 1 2 5 0 0, none, zE 7 1 0 1 0, zE 16 3 110 5 0, none, none, some (0, 2, 0, 0, 0, .int (-13), []), none, zE 35 1 0 0 0, zEn 1 0, zE 4 2 6 0 0],
  [none, zE 1 2 6 0 0, none, zE 1 2 5 0 0, none, zE 16 3 147 3 0, none, none, zE 3 1 0 0 0, zEw 20 3 12 48 1 1054, none, none, zE 1 2 6 0 0, none, zE 3 1 0 0 0, zEw 20 3 12 47 1 1053],
  [none, none, zEn 2 60, none, zE 1 1 1 0 0, zE 7 1 0 2 0, zE 1 1 2 0 0, zE 7 1 0 0 0, zE 1 2 6 0 0, none, zE 7 1 0 0 0, zE 23 1 0 0 0, zE 26 1 0 0 0, some (19, 3, 6, 0, 0, .int 1, []), none, none],
  [zE 17 3 113 0 0, none, none, zEn 1 0, zE 4 2 6 0 0, none, zE 1 2 6 0 0, none, zE 1 2 5 0 0, none, zE 16 3 185 3 0, none, none, zE 3 1 0 0 0, zEw 20 3 12 47 1 1053, none],
  [none, zEn 2 60, none, zE 1 1 3 0 0, zE 7 1 0 2 0, zE 1 2 4 0 0, none, zE 7 1 0 0 0, zE 1 2 6 0 0, none, zE 7 1 0 0 0, zE 3 1 0 0 0, zEw 20 3 12 48 1 1054, none, none, zE 1 2 6 0 0],
  [none, zE 23 1 0 0 0, zE 26 1 0 0 0, some (19, 3, 6, 0, 0, .int 1, []), none, none, zE 17 3 150 0 0, none, none, zE 1 2 5 0 0, none, zE 35 1 0 0 0]]
/-- ColdShodModel.taken(II)I -/
noncomputable def zi_236 : List (List (Option zI)) := [[zE 1 1 1 0 0, zEw 32 3 228 1 49 1069, none, none, zE 15 3 19 0 0, none, none, zE 1 1 2 0 0, zE 10 1 0 0 0, some (0, 1, 0, 0, 0, .long 0, []), some (0, 3, 0, 0, 0, .long 7, [(0, 1062)]), none, none, zEw 32 3 143 3 49 1059, none, none],
  [zE 15 3 21 1 0, none, none, some (0, 1, 0, 0, 0, .int (-1), []), zE 35 1 0 0 0, zE 3 1 0 0 0, zEw 20 3 12 45 1 1051, none, none, zE 1 1 1 0 0, zE 22 1 0 0 0, zE 15 3 33 3 0, none, none, some (0, 2, 0, 0, 0, .int (-11), []), none],
  [zE 35 1 0 0 0, zE 3 1 0 0 0, zEw 20 3 12 45 1 1051, none, none, zE 1 1 1 0 0, zE 22 1 0 0 0, zEn 2 50, none, zE 16 3 47 2 0, none, none, some (0, 2, 0, 0, 0, .int (-12), []), none, zE 35 1 0 0 0, zE 3 1 0 0 0],
  [zE 3 1 0 0 0, zEw 20 3 12 45 1 1051, none, none, zE 1 1 1 0 0, zE 22 1 0 0 0, zEw 32 3 218 2 48 1150, none, none, zE 4 1 3 0 0, zE 1 1 3 0 0, zE 1 1 2 0 0, zE 16 3 75 0 0, none, none, zE 1 1 3 0 0],
  [zE 15 3 75 5 0, none, none, zE 1 1 3 0 0, zEw 32 3 220 1 49 1151, none, none, zE 4 1 3 0 0, zE 17 3 58 0 0, none, none, zE 1 1 3 0 0, zE 1 1 2 0 0, zE 16 3 93 1 0, none, none],
  [zE 3 1 0 0 0, zE 3 1 0 0 0, zEw 20 3 12 45 1 1051, none, none, zE 1 1 1 0 0, zE 22 1 0 0 0, zEw 32 3 218 2 48 1150, none, none, zE 17 3 95 0 0, none, none, some (0, 2, 0, 0, 0, .int (-12), []), none, zE 35 1 0 0 0]]
/-- ColdShodModel.count(I)I -/
noncomputable def zi_237 : List (List (Option zI)) := [[zE 1 1 1 0 0, some (18, 43, 79, 0, 0, .null, [(0, 44), (1, 49), (2, 54), (3, 59), (4, 64), (5, 69), (6, 74)]), none, none, none, none, none, none, none, none, none, none, none, none, none, none],
  [none, none, none, none, none, none, none, none, none, none, none, none, none, none, none, none],
  [none, none, none, none, none, none, none, none, none, none, none, none, zE 3 1 0 0 0, zEw 20 3 12 6 0 1058, none, none],
  [zE 35 1 0 0 0, zE 3 1 0 0 0, zEw 20 3 12 7 0 1060, none, none, zE 35 1 0 0 0, zE 3 1 0 0 0, zEw 20 3 12 8 0 1061, none, none, zE 35 1 0 0 0, zE 3 1 0 0 0, zEw 20 3 12 12 0 1084, none, none, zE 35 1 0 0 0],
  [zE 3 1 0 0 0, zEw 20 3 12 5 0 1056, none, none, zE 35 1 0 0 0, zE 3 1 0 0 0, zEw 20 3 12 39 0 1137, none, none, zE 35 1 0 0 0, zE 3 1 0 0 0, zEw 20 3 12 42 0 1138, none, none, zE 35 1 0 0 0, some (0, 1, 0, 0, 0, .int (-1), [])],
  [zE 35 1 0 0 0]]
/-- java/lang/Integer.bitCount(I)I -/
noncomputable def zi_238 : List (List (Option zI)) := [[zE 1 1 0 0 0, zE 1 1 0 0 0, zEn 1 1, zE 7 1 0 8 0, some (0, 3, 0, 0, 0, .int 1431655765, [(0, 1152)]), none, none, zE 7 1 0 3 0, zE 7 1 0 1 0, zE 4 1 0 0 0, zE 1 1 0 0 0, some (0, 3, 0, 0, 0, .int 858993459, [(0, 1153)]), none, none, zE 7 1 0 3 0, zE 1 1 0 0 0],
  [zEn 1 2, zE 7 1 0 8 0, some (0, 3, 0, 0, 0, .int 858993459, [(0, 1153)]), none, none, zE 7 1 0 3 0, zE 7 1 0 0 0, zE 4 1 0 0 0, zE 1 1 0 0 0, zE 1 1 0 0 0, zEn 1 4, zE 7 1 0 8 0, zE 7 1 0 0 0, some (0, 3, 0, 0, 0, .int 252645135, [(0, 1154)]), none, none],
  [zE 7 1 0 3 0, zE 4 1 0 0 0, zE 1 1 0 0 0, zE 1 1 0 0 0, zEn 2 8, none, zE 7 1 0 8 0, zE 7 1 0 0 0, zE 4 1 0 0 0, zE 1 1 0 0 0, zE 1 1 0 0 0, zEn 2 16, none, zE 7 1 0 8 0, zE 7 1 0 0 0, zE 4 1 0 0 0],
  [zE 1 1 0 0 0, zEn 2 63, none, zE 7 1 0 3 0, zE 35 1 0 0 0]]
/-- java/util/Arrays.fill([JJ)V -/
noncomputable def zi_239 : List (List (Option zI)) := [[zEn 1 0, zE 4 1 3 0 0, zE 3 1 0 0 0, zE 28 1 0 0 0, zE 4 2 4 0 0, none, zE 1 1 3 0 0, zE 1 2 4 0 0, none, zE 16 3 22 3 0, none, none, zE 3 1 0 0 0, zE 1 1 3 0 0, zE 2 1 1 0 0, zE 26 1 0 0 0],
  [some (19, 3, 3, 0, 0, .int 1, []), none, none, zE 17 3 6 0 0, none, none, zE 38 1 0 0 0]]
/-- java/util/Arrays.fill([II)V -/
noncomputable def zi_240 : List (List (Option zI)) := [[zEn 1 0, zE 4 1 2 0 0, zE 3 1 0 0 0, zE 28 1 0 0 0, zE 4 1 3 0 0, zE 1 1 2 0 0, zE 1 1 3 0 0, zE 16 3 20 3 0, none, none, zE 3 1 0 0 0, zE 1 1 2 0 0, zE 1 1 1 0 0, zE 25 1 0 0 0, some (19, 3, 2, 0, 0, .int 1, []), none],
  [none, zE 17 3 5 0 0, none, none, zE 38 1 0 0 0]]
/-- ColdShodLaw.law([I)Z -/
noncomputable def zi_241_0 : List (Option zI) := [some (29, 3, 11, 14, 0, .null, [(0, 1155), (0, 717), (0, 270)]), none, none, zE 39 1 0 0 0, zEw 32 3 92 1 46 1156, none, none, zE 6 1 1 0 0, some (29, 3, 12, 49, 0, .null, [(0, 1157), (0, 718), (0, 418)]), none, none, zE 39 1 0 0 0, zEw 32 3 147 1 50 1158, none, none, zE 6 1 2 0 0]
noncomputable def zi_241_1 : List (Option zI) := [zEn 1 0, zE 4 1 3 0 0, zE 1 1 3 0 0, zE 3 1 0 0 0, zE 28 1 0 0 0, zEn 2 6, none, zE 7 1 0 1 0, zE 16 3 1420 4 0, none, none, zE 3 1 0 0 0, zE 1 1 3 0 0, zE 22 1 0 0 0, zEn 2 63, none]
noncomputable def zi_241_2 : List (Option zI) := [zE 7 1 0 3 0, some (18, 167, 1414, 0, 0, .null, [(0, 200), (1, 223), (2, 256), (3, 289), (4, 332), (5, 375), (6, 408), (7, 431), (8, 444), (9, 477), (10, 520), (11, 563), (12, 606), (13, 639), (14, 662), (15, 675), (16, 698), (17, 731), (18, 774), (19, 817), (20, 870), (21, 903), (22, 936), (23, 949), (24, 972), (25, 985), (26, 998), (27, 1011), (28, 1024), (29, 1047), (30, 1090), (31, 1113), (32, 1146), (33, 1189), (34, 1262), (35, 1295), (36, 1358), (37, 1391)]), none, none, none, none, none, none, none, none, none, none, none, none, none, none]
noncomputable def zi_241_3 : List (Option zI) := [none, none, none, none, none, none, none, none, none, none, none, none, none, none, none, none]
noncomputable def zi_241_4 : List (Option zI) := [none, none, none, none, none, none, none, none, none, none, none, none, none, none, none, none]
noncomputable def zi_241_5 : List (Option zI) := [none, none, none, none, none, none, none, none, none, none, none, none, none, none, none, none]
noncomputable def zi_241_6 : List (Option zI) := [none, none, none, none, none, none, none, none, none, none, none, none, none, none, none, none]
noncomputable def zi_241_7 : List (Option zI) := [none, none, none, none, none, none, none, none, none, none, none, none, none, none, none, none]
noncomputable def zi_241_8 : List (Option zI) := [none, none, none, none, none, none, none, none, none, none, none, none, none, none, none, none]
noncomputable def zi_241_9 : List (Option zI) := [none, none, none, none, none, none, none, none, none, none, none, none, none, none, none, none]
noncomputable def zi_241_10 : List (Option zI) := [none, none, none, none, none, none, none, none, none, none, none, none, none, none, none, none]
noncomputable def zi_241_11 : List (Option zI) := [none, none, none, none, none, none, none, none, none, none, none, none, none, none, none, none]
noncomputable def zi_241_12 : List (Option zI) := [none, none, none, none, none, none, none, none, zE 3 1 1 0 0, zE 3 1 0 0 0, zE 1 1 3 0 0, zEn 1 1, zE 7 1 0 0 0, zE 22 1 0 0 0, zEw 32 3 93 2 44 1159, none]
noncomputable def zi_241_13 : List (Option zI) := [none, zE 42 1 0 0 0, zE 3 1 2 0 0, zE 3 1 0 0 0, zE 1 1 3 0 0, zEn 1 1, zE 7 1 0 0 0, zE 22 1 0 0 0, zEw 32 3 155 2 48 1160, none, none, zE 42 1 0 0 0, zE 17 3 1414 0 0, none, none, zE 3 1 1 0 0]
noncomputable def zi_241_14 : List (Option zI) := [zE 3 1 0 0 0, zE 1 1 3 0 0, zEn 1 1, zE 7 1 0 0 0, zE 22 1 0 0 0, zE 3 1 0 0 0, zE 1 1 3 0 0, zEn 1 2, zE 7 1 0 0 0, zE 22 1 0 0 0, zEw 32 3 94 3 44 1161, none, none, zE 42 1 0 0 0, zE 3 1 2 0 0, zE 3 1 0 0 0]
noncomputable def zi_241_15 : List (Option zI) := [zE 1 1 3 0 0, zEn 1 1, zE 7 1 0 0 0, zE 22 1 0 0 0, zE 3 1 0 0 0, zE 1 1 3 0 0, zEn 1 2, zE 7 1 0 0 0, zE 22 1 0 0 0, zEw 32 3 156 3 48 1162, none, none, zE 42 1 0 0 0, zE 17 3 1414 0 0, none, none]
noncomputable def zi_241_16 : List (Option zI) := [zE 3 1 1 0 0, zE 3 1 0 0 0, zE 1 1 3 0 0, zEn 1 1, zE 7 1 0 0 0, zE 22 1 0 0 0, zE 3 1 0 0 0, zE 1 1 3 0 0, zEn 1 2, zE 7 1 0 0 0, zE 22 1 0 0 0, zEw 32 3 95 3 44 1163, none, none, zE 42 1 0 0 0, zE 3 1 2 0 0]
noncomputable def zi_241_17 : List (Option zI) := [zE 3 1 0 0 0, zE 1 1 3 0 0, zEn 1 1, zE 7 1 0 0 0, zE 22 1 0 0 0, zE 3 1 0 0 0, zE 1 1 3 0 0, zEn 1 2, zE 7 1 0 0 0, zE 22 1 0 0 0, zEw 32 3 159 3 48 1164, none, none, zE 42 1 0 0 0, zE 17 3 1414 0 0, none]
noncomputable def zi_241_18 : List (Option zI) := [none, zE 3 1 1 0 0, zE 3 1 0 0 0, zE 1 1 3 0 0, zEn 1 1, zE 7 1 0 0 0, zE 22 1 0 0 0, zE 3 1 0 0 0, zE 1 1 3 0 0, zEn 1 2, zE 7 1 0 0 0, zE 22 1 0 0 0, zE 3 1 0 0 0, zE 1 1 3 0 0, zEn 1 3, zE 7 1 0 0 0]
noncomputable def zi_241_19 : List (Option zI) := [zE 22 1 0 0 0, zEw 32 3 96 4 44 1165, none, none, zE 42 1 0 0 0, zE 3 1 2 0 0, zE 3 1 0 0 0, zE 1 1 3 0 0, zEn 1 1, zE 7 1 0 0 0, zE 22 1 0 0 0, zE 3 1 0 0 0, zE 1 1 3 0 0, zEn 1 2, zE 7 1 0 0 0, zE 22 1 0 0 0]
noncomputable def zi_241_20 : List (Option zI) := [zE 3 1 0 0 0, zE 1 1 3 0 0, zEn 1 3, zE 7 1 0 0 0, zE 22 1 0 0 0, zEw 32 3 160 4 48 1166, none, none, zE 42 1 0 0 0, zE 17 3 1414 0 0, none, none, zE 3 1 1 0 0, zE 3 1 0 0 0, zE 1 1 3 0 0, zEn 1 1]
noncomputable def zi_241_21 : List (Option zI) := [zE 7 1 0 0 0, zE 22 1 0 0 0, zE 3 1 0 0 0, zE 1 1 3 0 0, zEn 1 2, zE 7 1 0 0 0, zE 22 1 0 0 0, zE 3 1 0 0 0, zE 1 1 3 0 0, zEn 1 3, zE 7 1 0 0 0, zE 22 1 0 0 0, zEw 32 3 98 4 44 1167, none, none, zE 42 1 0 0 0]
noncomputable def zi_241_22 : List (Option zI) := [zE 3 1 2 0 0, zE 3 1 0 0 0, zE 1 1 3 0 0, zEn 1 1, zE 7 1 0 0 0, zE 22 1 0 0 0, zE 3 1 0 0 0, zE 1 1 3 0 0, zEn 1 2, zE 7 1 0 0 0, zE 22 1 0 0 0, zE 3 1 0 0 0, zE 1 1 3 0 0, zEn 1 3, zE 7 1 0 0 0, zE 22 1 0 0 0]
noncomputable def zi_241_23 : List (Option zI) := [zEw 32 3 163 4 48 1168, none, none, zE 42 1 0 0 0, zE 17 3 1414 0 0, none, none, zE 3 1 1 0 0, zE 3 1 0 0 0, zE 1 1 3 0 0, zEn 1 1, zE 7 1 0 0 0, zE 22 1 0 0 0, zE 3 1 0 0 0, zE 1 1 3 0 0, zEn 1 2]
noncomputable def zi_241_24 : List (Option zI) := [zE 7 1 0 0 0, zE 22 1 0 0 0, zEw 32 3 99 3 44 1169, none, none, zE 42 1 0 0 0, zE 3 1 2 0 0, zE 3 1 0 0 0, zE 1 1 3 0 0, zEn 1 1, zE 7 1 0 0 0, zE 22 1 0 0 0, zE 3 1 0 0 0, zE 1 1 3 0 0, zEn 1 2, zE 7 1 0 0 0]
noncomputable def zi_241_25 : List (Option zI) := [zE 22 1 0 0 0, zEw 32 3 164 3 48 1170, none, none, zE 42 1 0 0 0, zE 17 3 1414 0 0, none, none, zE 3 1 1 0 0, zE 3 1 0 0 0, zE 1 1 3 0 0, zEn 1 1, zE 7 1 0 0 0, zE 22 1 0 0 0, zEw 32 3 100 2 44 1171, none]
noncomputable def zi_241_26 : List (Option zI) := [none, zE 42 1 0 0 0, zE 3 1 2 0 0, zE 3 1 0 0 0, zE 1 1 3 0 0, zEn 1 1, zE 7 1 0 0 0, zE 22 1 0 0 0, zEw 32 3 165 2 48 1172, none, none, zE 42 1 0 0 0, zE 17 3 1414 0 0, none, none, zE 3 1 1 0 0]
noncomputable def zi_241_27 : List (Option zI) := [zEw 32 3 101 1 44 1173, none, none, zE 42 1 0 0 0, zE 3 1 2 0 0, zEw 32 3 177 1 48 1174, none, none, zE 42 1 0 0 0, zE 17 3 1414 0 0, none, none, zE 3 1 1 0 0, zE 3 1 0 0 0, zE 1 1 3 0 0, zEn 1 1]
noncomputable def zi_241_28 : List (Option zI) := [zE 7 1 0 0 0, zE 22 1 0 0 0, zE 3 1 0 0 0, zE 1 1 3 0 0, zEn 1 2, zE 7 1 0 0 0, zE 22 1 0 0 0, zEw 32 3 102 3 44 1175, none, none, zE 42 1 0 0 0, zE 3 1 2 0 0, zE 3 1 0 0 0, zE 1 1 3 0 0, zEn 1 1, zE 7 1 0 0 0]
noncomputable def zi_241_29 : List (Option zI) := [zE 22 1 0 0 0, zE 3 1 0 0 0, zE 1 1 3 0 0, zEn 1 2, zE 7 1 0 0 0, zE 22 1 0 0 0, zEw 32 3 181 3 48 1176, none, none, zE 42 1 0 0 0, zE 17 3 1414 0 0, none, none, zE 3 1 1 0 0, zE 3 1 0 0 0, zE 1 1 3 0 0]
noncomputable def zi_241_30 : List (Option zI) := [zEn 1 1, zE 7 1 0 0 0, zE 22 1 0 0 0, zE 3 1 0 0 0, zE 1 1 3 0 0, zEn 1 2, zE 7 1 0 0 0, zE 22 1 0 0 0, zE 3 1 0 0 0, zE 1 1 3 0 0, zEn 1 3, zE 7 1 0 0 0, zE 22 1 0 0 0, zEw 32 3 103 4 44 1177, none, none]
noncomputable def zi_241_31 : List (Option zI) := [zE 42 1 0 0 0, zE 3 1 2 0 0, zE 3 1 0 0 0, zE 1 1 3 0 0, zEn 1 1, zE 7 1 0 0 0, zE 22 1 0 0 0, zE 3 1 0 0 0, zE 1 1 3 0 0, zEn 1 2, zE 7 1 0 0 0, zE 22 1 0 0 0, zE 3 1 0 0 0, zE 1 1 3 0 0, zEn 1 3, zE 7 1 0 0 0]
noncomputable def zi_241_32 : List (Option zI) := [zE 22 1 0 0 0, zEw 32 3 189 4 48 1178, none, none, zE 42 1 0 0 0, zE 17 3 1414 0 0, none, none, zE 3 1 1 0 0, zE 3 1 0 0 0, zE 1 1 3 0 0, zEn 1 1, zE 7 1 0 0 0, zE 22 1 0 0 0, zE 3 1 0 0 0, zE 1 1 3 0 0]
noncomputable def zi_241_33 : List (Option zI) := [zEn 1 2, zE 7 1 0 0 0, zE 22 1 0 0 0, zE 3 1 0 0 0, zE 1 1 3 0 0, zEn 1 3, zE 7 1 0 0 0, zE 22 1 0 0 0, zEw 32 3 104 4 44 1179, none, none, zE 3 1 2 0 0, zE 3 1 0 0 0, zE 1 1 3 0 0, zEn 1 1, zE 7 1 0 0 0]
noncomputable def zi_241_34 : List (Option zI) := [zE 22 1 0 0 0, zE 3 1 0 0 0, zE 1 1 3 0 0, zEn 1 2, zE 7 1 0 0 0, zE 22 1 0 0 0, zE 3 1 0 0 0, zE 1 1 3 0 0, zEn 1 3, zE 7 1 0 0 0, zE 22 1 0 0 0, zEw 32 3 191 4 48 1180, none, none, zE 16 3 1414 0 0, none]
noncomputable def zi_241_35 : List (Option zI) := [none, zEn 1 0, zE 35 1 0 0 1, zE 3 1 1 0 0, zE 3 1 0 0 0, zE 1 1 3 0 0, zEn 1 1, zE 7 1 0 0 0, zE 22 1 0 0 0, zE 3 1 0 0 0, zE 1 1 3 0 0, zEn 1 2, zE 7 1 0 0 0, zE 22 1 0 0 0, zE 3 1 0 0 0, zE 1 1 3 0 0]
noncomputable def zi_241_36 : List (Option zI) := [zEn 1 3, zE 7 1 0 0 0, zE 22 1 0 0 0, zEw 32 3 105 4 44 1181, none, none, zE 42 1 0 0 0, zE 3 1 2 0 0, zE 3 1 0 0 0, zE 1 1 3 0 0, zEn 1 1, zE 7 1 0 0 0, zE 22 1 0 0 0, zE 3 1 0 0 0, zE 1 1 3 0 0, zEn 1 2]
noncomputable def zi_241_37 : List (Option zI) := [zE 7 1 0 0 0, zE 22 1 0 0 0, zE 3 1 0 0 0, zE 1 1 3 0 0, zEn 1 3, zE 7 1 0 0 0, zE 22 1 0 0 0, zEw 32 3 193 4 48 1182, none, none, zE 42 1 0 0 0, zE 17 3 1414 0 0, none, none, zE 3 1 1 0 0, zE 3 1 0 0 0]
noncomputable def zi_241_38 : List (Option zI) := [zE 1 1 3 0 0, zEn 1 1, zE 7 1 0 0 0, zE 22 1 0 0 0, zE 3 1 0 0 0, zE 1 1 3 0 0, zEn 1 2, zE 7 1 0 0 0, zE 22 1 0 0 0, zEw 32 3 106 3 44 1183, none, none, zE 42 1 0 0 0, zE 3 1 2 0 0, zE 3 1 0 0 0, zE 1 1 3 0 0]
noncomputable def zi_241_39 : List (Option zI) := [zEn 1 1, zE 7 1 0 0 0, zE 22 1 0 0 0, zE 3 1 0 0 0, zE 1 1 3 0 0, zEn 1 2, zE 7 1 0 0 0, zE 22 1 0 0 0, zEw 32 3 194 3 48 1184, none, none, zE 42 1 0 0 0, zE 17 3 1414 0 0, none, none, zE 3 1 1 0 0]
noncomputable def zi_241_40 : List (Option zI) := [zE 3 1 0 0 0, zE 1 1 3 0 0, zEn 1 1, zE 7 1 0 0 0, zE 22 1 0 0 0, zEw 32 3 107 2 44 1185, none, none, zE 42 1 0 0 0, zE 3 1 2 0 0, zE 3 1 0 0 0, zE 1 1 3 0 0, zEn 1 1, zE 7 1 0 0 0, zE 22 1 0 0 0, zEw 32 3 199 2 48 1186]
noncomputable def zi_241_41 : List (Option zI) := [none, none, zE 42 1 0 0 0, zE 17 3 1414 0 0, none, none, zE 3 1 1 0 0, zEw 32 3 108 1 44 1187, none, none, zE 42 1 0 0 0, zE 3 1 2 0 0, zEw 32 3 200 1 48 1188, none, none, zE 42 1 0 0 0]
noncomputable def zi_241_42 : List (Option zI) := [zE 17 3 1414 0 0, none, none, zE 3 1 1 0 0, zE 3 1 0 0 0, zE 1 1 3 0 0, zEn 1 1, zE 7 1 0 0 0, zE 22 1 0 0 0, zEw 32 3 109 2 44 1189, none, none, zE 42 1 0 0 0, zE 3 1 2 0 0, zE 3 1 0 0 0, zE 1 1 3 0 0]
noncomputable def zi_241_43 : List (Option zI) := [zEn 1 1, zE 7 1 0 0 0, zE 22 1 0 0 0, zEw 32 3 202 2 48 1190, none, none, zE 42 1 0 0 0, zE 17 3 1414 0 0, none, none, zE 3 1 1 0 0, zE 3 1 0 0 0, zE 1 1 3 0 0, zEn 1 1, zE 7 1 0 0 0, zE 22 1 0 0 0]
noncomputable def zi_241_44 : List (Option zI) := [zE 3 1 0 0 0, zE 1 1 3 0 0, zEn 1 2, zE 7 1 0 0 0, zE 22 1 0 0 0, zEw 32 3 110 3 44 1191, none, none, zE 42 1 0 0 0, zE 3 1 2 0 0, zE 3 1 0 0 0, zE 1 1 3 0 0, zEn 1 1, zE 7 1 0 0 0, zE 22 1 0 0 0, zE 3 1 0 0 0]
noncomputable def zi_241_45 : List (Option zI) := [zE 1 1 3 0 0, zEn 1 2, zE 7 1 0 0 0, zE 22 1 0 0 0, zEw 32 3 205 3 48 1192, none, none, zE 42 1 0 0 0, zE 17 3 1414 0 0, none, none, zE 3 1 1 0 0, zE 3 1 0 0 0, zE 1 1 3 0 0, zEn 1 1, zE 7 1 0 0 0]
noncomputable def zi_241_46 : List (Option zI) := [zE 22 1 0 0 0, zE 3 1 0 0 0, zE 1 1 3 0 0, zEn 1 2, zE 7 1 0 0 0, zE 22 1 0 0 0, zE 3 1 0 0 0, zE 1 1 3 0 0, zEn 1 3, zE 7 1 0 0 0, zE 22 1 0 0 0, zEw 32 3 111 4 44 1193, none, none, zE 42 1 0 0 0, zE 3 1 2 0 0]
noncomputable def zi_241_47 : List (Option zI) := [zE 3 1 0 0 0, zE 1 1 3 0 0, zEn 1 1, zE 7 1 0 0 0, zE 22 1 0 0 0, zE 3 1 0 0 0, zE 1 1 3 0 0, zEn 1 2, zE 7 1 0 0 0, zE 22 1 0 0 0, zE 3 1 0 0 0, zE 1 1 3 0 0, zEn 1 3, zE 7 1 0 0 0, zE 22 1 0 0 0, zEw 32 3 206 4 48 1194]
noncomputable def zi_241_48 : List (Option zI) := [none, none, zE 42 1 0 0 0, zE 17 3 1414 0 0, none, none, zE 3 1 1 0 0, zE 3 1 0 0 0, zE 1 1 3 0 0, zEn 1 1, zE 7 1 0 0 0, zE 22 1 0 0 0, zE 3 1 0 0 0, zE 1 1 3 0 0, zEn 1 2, zE 7 1 0 0 0]
noncomputable def zi_241_49 : List (Option zI) := [zE 22 1 0 0 0, zE 3 1 0 0 0, zE 1 1 3 0 0, zEn 1 3, zE 7 1 0 0 0, zE 22 1 0 0 0, zEw 32 3 112 4 44 1195, none, none, zE 42 1 0 0 0, zE 3 1 2 0 0, zE 3 1 0 0 0, zE 1 1 3 0 0, zEn 1 1, zE 7 1 0 0 0, zE 22 1 0 0 0]
noncomputable def zi_241_50 : List (Option zI) := [zE 3 1 0 0 0, zE 1 1 3 0 0, zEn 1 2, zE 7 1 0 0 0, zE 22 1 0 0 0, zE 3 1 0 0 0, zE 1 1 3 0 0, zEn 1 3, zE 7 1 0 0 0, zE 22 1 0 0 0, zEw 32 3 208 4 48 1196, none, none, zE 42 1 0 0 0, zE 17 3 1414 0 0, none]
noncomputable def zi_241_51 : List (Option zI) := [none, zE 3 1 1 0 0, zE 3 1 0 0 0, zE 1 1 3 0 0, zEn 1 1, zE 7 1 0 0 0, zE 22 1 0 0 0, zE 3 1 0 0 0, zE 1 1 3 0 0, zEn 1 2, zE 7 1 0 0 0, zE 22 1 0 0 0, zE 3 1 0 0 0, zE 1 1 3 0 0, zEn 1 3, zE 7 1 0 0 0]
noncomputable def zi_241_52 : List (Option zI) := [zE 22 1 0 0 0, zE 3 1 0 0 0, zE 1 1 3 0 0, zEn 1 4, zE 7 1 0 0 0, zE 22 1 0 0 0, zEw 32 3 116 5 44 1197, none, none, zE 42 1 0 0 0, zE 3 1 2 0 0, zE 3 1 0 0 0, zE 1 1 3 0 0, zEn 1 1, zE 7 1 0 0 0, zE 22 1 0 0 0]
noncomputable def zi_241_53 : List (Option zI) := [zE 3 1 0 0 0, zE 1 1 3 0 0, zEn 1 2, zE 7 1 0 0 0, zE 22 1 0 0 0, zE 3 1 0 0 0, zE 1 1 3 0 0, zEn 1 3, zE 7 1 0 0 0, zE 22 1 0 0 0, zE 3 1 0 0 0, zE 1 1 3 0 0, zEn 1 4, zE 7 1 0 0 0, zE 22 1 0 0 0, zEw 32 3 209 5 48 1198]
noncomputable def zi_241_54 : List (Option zI) := [none, none, zE 42 1 0 0 0, zE 17 3 1414 0 0, none, none, zE 3 1 1 0 0, zE 3 1 0 0 0, zE 1 1 3 0 0, zEn 1 1, zE 7 1 0 0 0, zE 22 1 0 0 0, zE 3 1 0 0 0, zE 1 1 3 0 0, zEn 1 2, zE 7 1 0 0 0]
noncomputable def zi_241_55 : List (Option zI) := [zE 22 1 0 0 0, zEw 32 3 117 3 44 1199, none, none, zE 42 1 0 0 0, zE 3 1 2 0 0, zE 3 1 0 0 0, zE 1 1 3 0 0, zEn 1 1, zE 7 1 0 0 0, zE 22 1 0 0 0, zE 3 1 0 0 0, zE 1 1 3 0 0, zEn 1 2, zE 7 1 0 0 0, zE 22 1 0 0 0]
noncomputable def zi_241_56 : List (Option zI) := [zEw 32 3 211 3 48 1200, none, none, zE 42 1 0 0 0, zE 17 3 1414 0 0, none, none, zE 3 1 1 0 0, zE 3 1 0 0 0, zE 1 1 3 0 0, zEn 1 1, zE 7 1 0 0 0, zE 22 1 0 0 0, zE 3 1 0 0 0, zE 1 1 3 0 0, zEn 1 2]
noncomputable def zi_241_57 : List (Option zI) := [zE 7 1 0 0 0, zE 22 1 0 0 0, zEw 32 3 118 3 44 1201, none, none, zE 42 1 0 0 0, zE 3 1 2 0 0, zE 3 1 0 0 0, zE 1 1 3 0 0, zEn 1 1, zE 7 1 0 0 0, zE 22 1 0 0 0, zE 3 1 0 0 0, zE 1 1 3 0 0, zEn 1 2, zE 7 1 0 0 0]
noncomputable def zi_241_58 : List (Option zI) := [zE 22 1 0 0 0, zEw 32 3 212 3 48 1202, none, none, zE 42 1 0 0 0, zE 17 3 1414 0 0, none, none, zE 3 1 1 0 0, zEw 32 3 119 1 44 1203, none, none, zE 42 1 0 0 0, zE 3 1 2 0 0, zEw 32 3 213 1 48 1204, none]
noncomputable def zi_241_59 : List (Option zI) := [none, zE 42 1 0 0 0, zE 17 3 1414 0 0, none, none, zE 3 1 1 0 0, zE 3 1 0 0 0, zE 1 1 3 0 0, zEn 1 1, zE 7 1 0 0 0, zE 22 1 0 0 0, zEw 32 3 120 2 44 1205, none, none, zE 42 1 0 0 0, zE 3 1 2 0 0]
noncomputable def zi_241_60 : List (Option zI) := [zE 3 1 0 0 0, zE 1 1 3 0 0, zEn 1 1, zE 7 1 0 0 0, zE 22 1 0 0 0, zEw 32 3 214 2 48 1206, none, none, zE 42 1 0 0 0, zE 17 3 1414 0 0, none, none, zE 3 1 1 0 0, zEw 32 3 121 1 44 1207, none, none]
noncomputable def zi_241_61 : List (Option zI) := [zE 42 1 0 0 0, zE 3 1 2 0 0, zEw 32 3 215 1 48 1208, none, none, zE 42 1 0 0 0, zE 17 3 1414 0 0, none, none, zE 3 1 1 0 0, zEw 32 3 122 1 44 1209, none, none, zE 42 1 0 0 0, zE 3 1 2 0 0, zEw 32 3 216 1 48 1210]
noncomputable def zi_241_62 : List (Option zI) := [none, none, zE 42 1 0 0 0, zE 17 3 1414 0 0, none, none, zE 3 1 1 0 0, zEw 32 3 123 1 44 1211, none, none, zE 42 1 0 0 0, zE 3 1 2 0 0, zEw 32 3 149 1 48 1212, none, none, zE 42 1 0 0 0]
noncomputable def zi_241_63 : List (Option zI) := [zE 17 3 1414 0 0, none, none, zE 3 1 1 0 0, zEw 32 3 124 1 44 1213, none, none, zE 42 1 0 0 0, zE 3 1 2 0 0, zEw 32 3 150 1 48 1214, none, none, zE 42 1 0 0 0, zE 17 3 1414 0 0, none, none]
noncomputable def zi_241_64 : List (Option zI) := [zE 3 1 1 0 0, zE 3 1 0 0 0, zE 1 1 3 0 0, zEn 1 1, zE 7 1 0 0 0, zE 22 1 0 0 0, zEw 32 3 125 2 44 1215, none, none, zE 42 1 0 0 0, zE 3 1 2 0 0, zE 3 1 0 0 0, zE 1 1 3 0 0, zEn 1 1, zE 7 1 0 0 0, zE 22 1 0 0 0]
noncomputable def zi_241_65 : List (Option zI) := [zEw 32 3 219 2 48 1216, none, none, zE 42 1 0 0 0, zE 17 3 1414 0 0, none, none, zE 3 1 1 0 0, zE 3 1 0 0 0, zE 1 1 3 0 0, zEn 1 1, zE 7 1 0 0 0, zE 22 1 0 0 0, zE 3 1 0 0 0, zE 1 1 3 0 0, zEn 1 2]
noncomputable def zi_241_66 : List (Option zI) := [zE 7 1 0 0 0, zE 22 1 0 0 0, zE 3 1 0 0 0, zE 1 1 3 0 0, zEn 1 3, zE 7 1 0 0 0, zE 22 1 0 0 0, zEw 32 3 126 4 44 1217, none, none, zE 42 1 0 0 0, zE 3 1 2 0 0, zE 3 1 0 0 0, zE 1 1 3 0 0, zEn 1 1, zE 7 1 0 0 0]
noncomputable def zi_241_67 : List (Option zI) := [zE 22 1 0 0 0, zE 3 1 0 0 0, zE 1 1 3 0 0, zEn 1 2, zE 7 1 0 0 0, zE 22 1 0 0 0, zE 3 1 0 0 0, zE 1 1 3 0 0, zEn 1 3, zE 7 1 0 0 0, zE 22 1 0 0 0, zEw 32 3 226 4 48 1218, none, none, zE 42 1 0 0 0, zE 17 3 1414 0 0]
noncomputable def zi_241_68 : List (Option zI) := [none, none, zE 3 1 1 0 0, zE 3 1 0 0 0, zE 1 1 3 0 0, zEn 1 1, zE 7 1 0 0 0, zE 22 1 0 0 0, zEw 32 3 127 2 44 1219, none, none, zE 42 1 0 0 0, zE 3 1 2 0 0, zE 3 1 0 0 0, zE 1 1 3 0 0, zEn 1 1]
noncomputable def zi_241_69 : List (Option zI) := [zE 7 1 0 0 0, zE 22 1 0 0 0, zEw 32 3 227 2 48 1220, none, none, zE 42 1 0 0 0, zE 17 3 1414 0 0, none, none, zE 3 1 1 0 0, zE 3 1 0 0 0, zE 1 1 3 0 0, zEn 1 1, zE 7 1 0 0 0, zE 22 1 0 0 0, zE 3 1 0 0 0]
noncomputable def zi_241_70 : List (Option zI) := [zE 1 1 3 0 0, zEn 1 2, zE 7 1 0 0 0, zE 22 1 0 0 0, zEw 32 3 128 3 44 1221, none, none, zE 42 1 0 0 0, zE 3 1 2 0 0, zE 3 1 0 0 0, zE 1 1 3 0 0, zEn 1 1, zE 7 1 0 0 0, zE 22 1 0 0 0, zE 3 1 0 0 0, zE 1 1 3 0 0]
noncomputable def zi_241_71 : List (Option zI) := [zEn 1 2, zE 7 1 0 0 0, zE 22 1 0 0 0, zEw 32 3 229 3 48 1222, none, none, zE 42 1 0 0 0, zE 17 3 1414 0 0, none, none, zE 3 1 1 0 0, zE 3 1 0 0 0, zE 1 1 3 0 0, zEn 1 1, zE 7 1 0 0 0, zE 22 1 0 0 0]
noncomputable def zi_241_72 : List (Option zI) := [zE 3 1 0 0 0, zE 1 1 3 0 0, zEn 1 2, zE 7 1 0 0 0, zE 22 1 0 0 0, zE 3 1 0 0 0, zE 1 1 3 0 0, zEn 1 3, zE 7 1 0 0 0, zE 22 1 0 0 0, zEw 32 3 129 4 44 1223, none, none, zE 42 1 0 0 0, zE 3 1 2 0 0, zE 3 1 0 0 0]
noncomputable def zi_241_73 : List (Option zI) := [zE 1 1 3 0 0, zEn 1 1, zE 7 1 0 0 0, zE 22 1 0 0 0, zE 3 1 0 0 0, zE 1 1 3 0 0, zEn 1 2, zE 7 1 0 0 0, zE 22 1 0 0 0, zE 3 1 0 0 0, zE 1 1 3 0 0, zEn 1 3, zE 7 1 0 0 0, zE 22 1 0 0 0, zEw 32 3 230 4 48 1224, none]
noncomputable def zi_241_74 : List (Option zI) := [none, zE 42 1 0 0 0, zE 17 3 1414 0 0, none, none, zE 3 1 1 0 0, zE 3 1 0 0 0, zE 1 1 3 0 0, zEn 1 1, zE 7 1 0 0 0, zE 22 1 0 0 0, zE 3 1 0 0 0, zE 1 1 3 0 0, zEn 1 2, zE 7 1 0 0 0, zE 22 1 0 0 0]
noncomputable def zi_241_75 : List (Option zI) := [zE 3 1 0 0 0, zE 1 1 3 0 0, zEn 1 3, zE 7 1 0 0 0, zE 22 1 0 0 0, zE 10 1 0 0 0, zEn 2 32, none, zE 13 1 0 0 0, zE 3 1 0 0 0, zE 1 1 3 0 0, zEn 1 4, zE 7 1 0 0 0, zE 22 1 0 0 0, zE 10 1 0 0 0, some (0, 3, 0, 0, 0, .long 4294967295, [(0, 1225)])]
noncomputable def zi_241_76 : List (Option zI) := [none, none, zE 12 1 0 0 0, zE 12 1 0 1 0, zEw 32 3 130 4 44 1226, none, none, zE 42 1 0 0 0, zE 3 1 2 0 0, zE 3 1 0 0 0, zE 1 1 3 0 0, zEn 1 1, zE 7 1 0 0 0, zE 22 1 0 0 0, zE 3 1 0 0 0, zE 1 1 3 0 0]
noncomputable def zi_241_77 : List (Option zI) := [zEn 1 2, zE 7 1 0 0 0, zE 22 1 0 0 0, zE 3 1 0 0 0, zE 1 1 3 0 0, zEn 1 3, zE 7 1 0 0 0, zE 22 1 0 0 0, zE 10 1 0 0 0, zEn 2 32, none, zE 13 1 0 0 0, zE 3 1 0 0 0, zE 1 1 3 0 0, zEn 1 4, zE 7 1 0 0 0]
noncomputable def zi_241_78 : List (Option zI) := [zE 22 1 0 0 0, zE 10 1 0 0 0, some (0, 3, 0, 0, 0, .long 4294967295, [(0, 1225)]), none, none, zE 12 1 0 0 0, zE 12 1 0 1 0, zEw 32 3 233 4 48 1227, none, none, zE 42 1 0 0 0, zE 17 3 1414 0 0, none, none, zE 3 1 1 0 0, zE 3 1 0 0 0]
noncomputable def zi_241_79 : List (Option zI) := [zE 1 1 3 0 0, zEn 1 1, zE 7 1 0 0 0, zE 22 1 0 0 0, zE 3 1 0 0 0, zE 1 1 3 0 0, zEn 1 2, zE 7 1 0 0 0, zE 22 1 0 0 0, zEw 32 3 131 3 44 1228, none, none, zE 44 1 0 0 0, zE 3 1 2 0 0, zE 3 1 0 0 0, zE 1 1 3 0 0]
noncomputable def zi_241_80 : List (Option zI) := [zEn 1 1, zE 7 1 0 0 0, zE 22 1 0 0 0, zE 3 1 0 0 0, zE 1 1 3 0 0, zEn 1 2, zE 7 1 0 0 0, zE 22 1 0 0 0, zEw 32 3 234 3 48 1229, none, none, zE 44 1 0 0 0, zE 17 3 1414 0 0, none, none, zE 3 1 1 0 0]
noncomputable def zi_241_81 : List (Option zI) := [zE 3 1 0 0 0, zE 1 1 3 0 0, zEn 1 1, zE 7 1 0 0 0, zE 22 1 0 0 0, zE 3 1 0 0 0, zE 1 1 3 0 0, zEn 1 2, zE 7 1 0 0 0, zE 22 1 0 0 0, zE 3 1 0 0 0, zE 1 1 3 0 0, zEn 1 3, zE 7 1 0 0 0, zE 22 1 0 0 0, zE 3 1 0 0 0]
noncomputable def zi_241_82 : List (Option zI) := [zE 1 1 3 0 0, zEn 1 4, zE 7 1 0 0 0, zE 22 1 0 0 0, zE 3 1 0 0 0, zE 1 1 3 0 0, zEn 1 5, zE 7 1 0 0 0, zE 22 1 0 0 0, zEw 32 3 132 6 44 1230, none, none, zE 42 1 0 0 0, zE 3 1 2 0 0, zE 3 1 0 0 0, zE 1 1 3 0 0]
noncomputable def zi_241_83 : List (Option zI) := [zEn 1 1, zE 7 1 0 0 0, zE 22 1 0 0 0, zE 3 1 0 0 0, zE 1 1 3 0 0, zEn 1 2, zE 7 1 0 0 0, zE 22 1 0 0 0, zE 3 1 0 0 0, zE 1 1 3 0 0, zEn 1 3, zE 7 1 0 0 0, zE 22 1 0 0 0, zE 3 1 0 0 0, zE 1 1 3 0 0, zEn 1 4]
noncomputable def zi_241_84 : List (Option zI) := [zE 7 1 0 0 0, zE 22 1 0 0 0, zE 3 1 0 0 0, zE 1 1 3 0 0, zEn 1 5, zE 7 1 0 0 0, zE 22 1 0 0 0, zEw 32 3 235 6 48 1231, none, none, zE 42 1 0 0 0, zE 17 3 1414 0 0, none, none, zE 3 1 1 0 0, zE 3 1 0 0 0]
noncomputable def zi_241_85 : List (Option zI) := [zE 1 1 3 0 0, zEn 1 1, zE 7 1 0 0 0, zE 22 1 0 0 0, zE 3 1 0 0 0, zE 1 1 3 0 0, zEn 1 2, zE 7 1 0 0 0, zE 22 1 0 0 0, zEw 32 3 133 3 44 1232, none, none, zE 42 1 0 0 0, zE 3 1 2 0 0, zE 3 1 0 0 0, zE 1 1 3 0 0]
noncomputable def zi_241_86 : List (Option zI) := [zEn 1 1, zE 7 1 0 0 0, zE 22 1 0 0 0, zE 3 1 0 0 0, zE 1 1 3 0 0, zEn 1 2, zE 7 1 0 0 0, zE 22 1 0 0 0, zEw 32 3 236 3 48 1233, none, none, zE 42 1 0 0 0, zE 17 3 1414 0 0, none, none, zE 3 1 1 0 0]
noncomputable def zi_241_87 : List (Option zI) := [zE 3 1 0 0 0, zE 1 1 3 0 0, zEn 1 1, zE 7 1 0 0 0, zE 22 1 0 0 0, zEw 32 3 134 2 44 1234, none, none, zE 42 1 0 0 0, zE 3 1 2 0 0, zE 3 1 0 0 0, zE 1 1 3 0 0, zEn 1 1, zE 7 1 0 0 0, zE 22 1 0 0 0, zEw 32 3 237 2 48 1235]
noncomputable def zi_241_88 : List (Option zI) := [none, none, zE 42 1 0 0 0, zE 17 3 1414 0 0, none, none, some (19, 3, 3, 0, 0, .int 6, []), none, none, zE 17 3 18 0 0, none, none, zEn 1 1, zE 35 1 0 0 1]
noncomputable def zi_241 : List (List (Option zI)) := [zi_241_0, zi_241_1, zi_241_2, zi_241_3, zi_241_4, zi_241_5, zi_241_6, zi_241_7, zi_241_8, zi_241_9, zi_241_10, zi_241_11, zi_241_12, zi_241_13, zi_241_14, zi_241_15, zi_241_16, zi_241_17, zi_241_18, zi_241_19, zi_241_20, zi_241_21, zi_241_22, zi_241_23, zi_241_24, zi_241_25, zi_241_26, zi_241_27, zi_241_28, zi_241_29, zi_241_30, zi_241_31, zi_241_32, zi_241_33, zi_241_34, zi_241_35, zi_241_36, zi_241_37, zi_241_38, zi_241_39, zi_241_40, zi_241_41, zi_241_42, zi_241_43, zi_241_44, zi_241_45, zi_241_46, zi_241_47, zi_241_48, zi_241_49, zi_241_50, zi_241_51, zi_241_52, zi_241_53, zi_241_54, zi_241_55, zi_241_56, zi_241_57, zi_241_58, zi_241_59, zi_241_60, zi_241_61, zi_241_62, zi_241_63, zi_241_64, zi_241_65, zi_241_66, zi_241_67, zi_241_68, zi_241_69, zi_241_70, zi_241_71, zi_241_72, zi_241_73, zi_241_74, zi_241_75, zi_241_76, zi_241_77, zi_241_78, zi_241_79, zi_241_80, zi_241_81, zi_241_82, zi_241_83, zi_241_84, zi_241_85, zi_241_86, zi_241_87, zi_241_88]
noncomputable def zia : List (List (List (List (Option zI)))) := [[zi_0, zi_1, zi_2, zi_3, zi_4, zi_5, zi_6, zi_7, zi_8, zi_9, zi_10, zi_11, zi_12, zi_13, zi_14, zi_15], [zi_16, zi_17, zi_18, zi_19, zi_20, zi_21, zi_22, zi_23, zi_24, zi_25, zi_26, zi_27, zi_28, zi_29, zi_30, zi_31], [zi_32, zi_33, zi_34, zi_35, zi_36, zi_37, zi_38, zi_39, zi_40, zi_41, zi_42, zi_43, zi_44, zi_45, zi_46, zi_47], [zi_48, zi_49, zi_50, zi_51, zi_52, zi_53, zi_54, zi_55, zi_56, zi_57, zi_58, zi_59, zi_60, zi_61, zi_62, zi_63], [zi_64, zi_65, zi_66, zi_67, zi_68, zi_69, zi_70, zi_71, zi_72, zi_73, zi_74, zi_75, zi_76, zi_77, zi_78, zi_79], [zi_80, zi_81, zi_82, zi_83, zi_84, zi_85, zi_86, zi_87, zi_88, zi_89, zi_90, zi_91, zi_92, zi_93, zi_94, zi_95], [zi_96, zi_97, zi_98, zi_99, zi_100, zi_101, zi_102, zi_103, zi_104, zi_105, zi_106, zi_107, zi_108, zi_109, zi_110, zi_111], [zi_112, zi_113, zi_114, zi_115, zi_116, zi_117, zi_118, zi_119, zi_120, zi_121, zi_122, zi_123, zi_124, zi_125, zi_126, zi_127], [zi_128, zi_129, zi_130, zi_131, zi_132, zi_133, zi_134, zi_135, zi_136, zi_137, zi_138, zi_139, zi_140, zi_141, zi_142, zi_143], [zi_144, zi_145, zi_146, zi_147, zi_148, zi_149, zi_150, zi_151, zi_152, zi_153, zi_154, zi_155, zi_156, zi_157, zi_158, zi_159], [zi_160, zi_161, zi_162, zi_163, zi_164, zi_165, zi_166, zi_167, zi_168, zi_169, zi_170, zi_171, zi_172, zi_173, zi_174, zi_175], [zi_176, zi_177, zi_178, zi_179, zi_180, zi_181, zi_182, zi_183, zi_184, zi_185, zi_186, zi_187, zi_188, zi_189, zi_190, zi_191], [zi_192, zi_193, zi_194, zi_195, zi_196, zi_197, zi_198, zi_199, zi_200, zi_201, zi_202, zi_203, zi_204, zi_205, zi_206, zi_207], [zi_208, zi_209, zi_210, zi_211, zi_212, zi_213, zi_214, zi_215, zi_216, zi_217, zi_218, zi_219, zi_220, zi_221, zi_222, zi_223], [zi_224, zi_225, zi_226, zi_227, zi_228, zi_229, zi_230, zi_231, zi_232, zi_233, zi_234, zi_235, zi_236, zi_237, zi_238, zi_239], [zi_240, zi_241]]
/-- the instruction of a method at a pc -/
noncomputable def zi (mi pc : Nat) : Option zI := match zget zia (mi / 16) with
  | some g => match zget g (mi % 16) with
    | some t => match zget t (pc / 16) with
      | some r => match zget r (pc % 16) with
        | some e => e
        | _ => none
      | _ => none
    | _ => none
  | _ => none
/-- name, code, locals, what it returns, how many parameters, whether it is static, its own words by place: code, initialized, static or instance, selects -/
abbrev zM : Type := MethodName × ByteArray × Nat × Option FieldType × Nat × Bool × Nat × Nat × Nat × Nat
noncomputable def zMlaw : zM := (yL_law, code, 4, ret, 1, true, 0, 0, 0, 0)
noncomputable def zm_0 : List zM := [(yX0_init, prog_2_method_1_code, 1, none, 0, false, 0, 1, 2, 0),
  (yX0_has, prog_2_method_2_code, 2, (some .boolean), 1, false, 3, 1, 4, 5),
  (yX0_add, prog_2_method_3_code, 2, (some .int), 1, false, 6, 1, 7, 8),
  (yX0_isUnder, prog_2_method_4_code, 4, (some .boolean), 2, true, 9, 1, 10, 0),
  (yX0_bodyThatRan, prog_2_method_5_code, 2, (some .int), 1, false, 11, 1, 12, 13),
  (yX0_perform, prog_2_method_6_code, 4, (some .int), 3, false, 14, 1, 15, 16),
  (yX0_run, prog_2_method_7_code, 7, (some .int), 4, false, 17, 1, 18, 19),
  (yX0_work, prog_2_method_8_code, 5, (some .int), 4, false, 20, 1, 21, 22),
  (yX1_init, prog_3_method_1_code, 1, none, 0, false, 23, 24, 25, 0),
  (yX1_note, prog_3_method_2_code, 5, none, 4, false, 26, 24, 27, 28),
  (yX1_forgetFirst, prog_3_method_3_code, 1, none, 0, false, 29, 24, 30, 31),
  (yX1_takeBack, prog_3_method_4_code, 2, none, 1, false, 32, 24, 33, 34),
  (yX1_doAgain, prog_3_method_5_code, 2, none, 1, false, 35, 24, 36, 37),
  (yX2_init, prog_4_method_1_code, 2, none, 0, false, 38, 39, 40, 0),
  (yX2_hasHead, prog_4_method_2_code, 2, (some .boolean), 1, false, 41, 39, 42, 43),
  (yX2_hasIdea, prog_4_method_3_code, 2, (some .boolean), 1, false, 44, 39, 45, 46)]
noncomputable def zm_1 : List zM := [(yX2_hasRoad, prog_4_method_4_code, 2, (some .boolean), 1, false, 47, 39, 48, 49),
  (yX2_layRoad, prog_4_method_5_code, 5, (some .int), 3, false, 50, 39, 51, 52),
  (yX2_isThere, prog_4_method_6_code, 3, (some .boolean), 2, false, 53, 39, 54, 55),
  (yX2_canBe, prog_4_method_7_code, 4, (some .boolean), 2, false, 56, 39, 57, 58),
  (yX2_numberOf, prog_4_method_8_code, 3, (some .int), 2, false, 59, 39, 60, 61),
  (yX2_setNumber, prog_4_method_9_code, 4, none, 3, false, 62, 39, 63, 64),
  (yX2_willBehind, prog_4_method_10_code, 2, (some .int), 1, false, 65, 39, 66, 67),
  (yX2_wearOf, prog_4_method_11_code, 3, (some .int), 2, false, 68, 39, 69, 70),
  (yX2_travel, prog_4_method_12_code, 5, (some .int), 2, false, 71, 39, 72, 73),
  (yX2_letAllAsk, prog_4_method_13_code, 5, none, 0, false, 74, 39, 75, 76),
  (yX2_firstOfOthers, prog_4_method_14_code, 4, (some .int), 1, false, 77, 39, 78, 79),
  (yX2_nearestOfOthers, prog_4_method_15_code, 5, (some .int), 2, false, 80, 39, 81, 82),
  (yX2_isRatherHead, prog_4_method_16_code, 3, (some .boolean), 2, false, 83, 39, 84, 85),
  (yX2_isRatherIdea, prog_4_method_17_code, 6, (some .boolean), 3, false, 86, 39, 87, 88),
  (yX2_isSettled, prog_4_method_18_code, 4, (some .boolean), 0, false, 89, 39, 90, 91),
  (yX2_fewestYokes, prog_4_method_19_code, 4, (some .int), 0, false, 92, 39, 93, 94)]
noncomputable def zm_2 : List zM := [(yX2_greatestClash, prog_4_method_20_code, 3, (some .int), 0, false, 95, 39, 96, 97),
  (yX2_allClash, prog_4_method_21_code, 5, (some .boolean), 1, false, 98, 39, 99, 100),
  (yX3_init, prog_5_method_1_code, 1, none, 0, false, 101, 102, 103, 0),
  (yX3_become, prog_5_method_2_code, 2, none, 1, false, 104, 102, 105, 106),
  (yX3_becomeByDeeds, prog_5_method_3_code, 2, none, 1, false, 107, 102, 108, 109),
  (yX3_grip, prog_5_method_4_code, 1, (some .int), 0, false, 110, 102, 111, 112),
  (yX3_isLame, prog_5_method_5_code, 1, (some .boolean), 0, false, 113, 102, 114, 115),
  (yX3_canClimb, prog_5_method_6_code, 2, (some .boolean), 1, false, 116, 102, 117, 118),
  (yX3_setsOutOn, prog_5_method_7_code, 2, (some .boolean), 1, false, 119, 102, 120, 121),
  (yX3_wearBy, prog_5_method_8_code, 2, none, 1, false, 122, 102, 123, 124),
  (yX3_cool, prog_5_method_9_code, 2, none, 1, false, 125, 102, 126, 127),
  (yX3_strike, prog_5_method_10_code, 2, (some .boolean), 1, false, 128, 102, 129, 130),
  (yX3_heatUp, prog_5_method_11_code, 2, (some .boolean), 0, false, 131, 102, 132, 133),
  (yX3_drawTo, prog_5_method_12_code, 2, (some .boolean), 1, false, 134, 102, 135, 136),
  (yX3_nail, prog_5_method_13_code, 1, (some .boolean), 0, false, 137, 102, 138, 139),
  (yX4_init, prog_6_method_1_code, 1, none, 0, false, 140, 141, 142, 0)]
noncomputable def zm_3 : List zM := [(yX4_read, prog_6_method_2_code, 6, none, 2, false, 143, 141, 144, 145),
  (yX4_allGone, prog_6_method_3_code, 4, (some .boolean), 2, false, 146, 141, 147, 148),
  (yX4_goesStage, prog_6_method_4_code, 6, (some .boolean), 3, false, 149, 141, 150, 151),
  (yX4_firstWrong, prog_6_method_5_code, 6, (some .int), 3, false, 152, 141, 153, 154),
  (yX5_init, prog_7_method_1_code, 1, none, 0, false, 155, 156, 157, 0),
  (yX5_clear, prog_7_method_2_code, 1, none, 0, false, 158, 156, 159, 160),
  (yX5_add, prog_7_method_3_code, 2, none, 1, false, 161, 156, 162, 163),
  (yX5_addName, prog_7_method_4_code, 2, none, 1, false, 164, 156, 165, 166),
  (yX5_addSkip, prog_7_method_5_code, 1, (some .int), 0, false, 167, 156, 168, 169),
  (yX5_endSkip, prog_7_method_6_code, 2, none, 1, false, 170, 156, 171, 172),
  (yX5_worth, prog_7_method_7_code, 8, (some .int), 1, false, 173, 156, 174, 175),
  (yX5_isName, prog_7_method_8_code, 1, (some .boolean), 1, true, 176, 156, 177, 0),
  (yX5_joined, prog_7_method_9_code, 3, (some .int), 3, true, 178, 156, 179, 0),
  (yX6_init, prog_8_method_1_code, 1, none, 0, false, 180, 181, 182, 0),
  (yX6_take, prog_8_method_2_code, 2, (some .boolean), 1, false, 183, 181, 184, 185),
  (yX6_readInto, prog_8_method_3_code, 3, (some .int), 1, false, 186, 181, 187, 188)]
noncomputable def zm_4 : List zM := [(yX6_readLine, prog_8_method_4_code, 3, (some .boolean), 1, false, 189, 181, 190, 191),
  (yX6_readLevel, prog_8_method_5_code, 7, (some .boolean), 3, false, 192, 181, 193, 194),
  (yX6_readOperand, prog_8_method_6_code, 5, (some .boolean), 2, false, 195, 181, 196, 197),
  (yX6_readNumber, prog_8_method_7_code, 4, (some .boolean), 1, false, 198, 181, 199, 200),
  (yX6_letter, prog_8_method_8_code, 1, (some .int), 0, false, 201, 181, 202, 203),
  (yX6_passes, prog_8_method_9_code, 2, (some .boolean), 1, false, 204, 181, 205, 206),
  (yX6_isDigit, prog_8_method_10_code, 1, (some .boolean), 1, true, 207, 181, 208, 0),
  (yX6_nameOf, prog_8_method_11_code, 1, (some .int), 1, true, 209, 181, 210, 0),
  (yX6_levelOf, prog_8_method_12_code, 1, (some .int), 1, true, 211, 181, 212, 0),
  (yX7_init, prog_9_method_1_code, 1, none, 0, false, 213, 214, 215, 0),
  (yX7_farEnd, prog_9_method_2_code, 2, (some .int), 1, false, 216, 214, 217, 218),
  (yX8_init, prog_10_method_1_code, 1, none, 0, false, 219, 220, 221, 0),
  (yX8_holdSmith, prog_10_method_2_code, 2, none, 1, false, 222, 220, 223, 224),
  (yX8_holdRow, prog_10_method_3_code, 3, none, 2, false, 225, 220, 226, 227),
  (yX8_isBytes, prog_10_method_4_code, 1, (some .boolean), 0, false, 228, 220, 229, 230),
  (yX8_hasRange, prog_10_method_5_code, 3, (some .boolean), 2, false, 231, 220, 232, 233)]
noncomputable def zm_5 : List zM := [(yX8_cut, prog_10_method_6_code, 3, (some .long), 1, false, 234, 220, 235, 236),
  (yX9_init, prog_11_method_1_code, 1, none, 0, false, 237, 238, 239, 0),
  (yX9_fewestFor, prog_11_method_2_code, 5, (some .int), 3, false, 240, 238, 241, 242),
  (yX9_addNext, prog_11_method_3_code, 5, none, 2, false, 243, 238, 244, 245),
  (yX9_isFound, prog_11_method_4_code, 3, (some .boolean), 1, false, 246, 238, 247, 248),
  (yX9_tellPlan, prog_11_method_5_code, 5, (some .int), 1, false, 249, 238, 250, 251),
  (yX9_stateOf, prog_11_method_6_code, 1, (some .int), 1, true, 252, 238, 253, 0),
  (yX9_recall, prog_11_method_7_code, 3, none, 2, false, 254, 238, 255, 256),
  (yX10_init, prog_12_method_1_code, 2, none, 0, false, 257, 258, 259, 0),
  (yX10_seek, prog_12_method_2_code, 5, none, 4, false, 260, 258, 261, 262),
  (yX10_follow, prog_12_method_3_code, 9, none, 5, false, 263, 258, 264, 265),
  (yX10_weigh, prog_12_method_4_code, 4, none, 1, false, 266, 258, 267, 268),
  (yX11_init, prog_1_method_1_code, 2, none, 0, false, 269, 270, 271, 0),
  (yX11_head, prog_1_method_2_code, 2, (some .int), 1, false, 272, 270, 273, 274),
  (yX11_idea, prog_1_method_3_code, 4, (some .int), 2, false, 275, 270, 276, 277),
  (yX11_road, prog_1_method_4_code, 3, (some .int), 2, false, 278, 270, 279, 280)]
noncomputable def zm_6 : List zM := [(yX11_roads, prog_1_method_5_code, 7, (some .int), 3, false, 281, 270, 282, 283),
  (yX11_layRoadFrom, prog_1_method_6_code, 9, (some .boolean), 2, false, 284, 270, 285, 286),
  (yX11_mend, prog_1_method_7_code, 5, (some .int), 3, false, 287, 270, 288, 289),
  (yX11_of, prog_1_method_8_code, 3, (some .int), 2, false, 290, 270, 291, 292),
  (yX11_feed, prog_1_method_9_code, 2, (some .int), 1, false, 293, 270, 294, 295),
  (yX11_law, prog_1_method_10_code, 3, (some .int), 0, false, 296, 270, 297, 298),
  (yX11_wears, prog_1_method_11_code, 3, (some .int), 2, false, 299, 270, 300, 301),
  (yX11_journey, prog_1_method_12_code, 7, (some .int), 3, false, 302, 270, 303, 304),
  (yX11_strokes, prog_1_method_13_code, 6, (some .int), 3, false, 305, 270, 306, 307),
  (yX11_way, prog_1_method_14_code, 4, (some .int), 3, false, 308, 270, 309, 310),
  (yX11_reach, prog_1_method_15_code, 9, (some .int), 2, false, 311, 270, 312, 313),
  (yX11_asks, prog_1_method_16_code, 2, (some .int), 1, false, 314, 270, 315, 316),
  (yX11_settled, prog_1_method_17_code, 1, (some .int), 0, false, 317, 270, 318, 319),
  (yX11_yokes, prog_1_method_18_code, 3, (some .int), 1, false, 320, 270, 321, 322),
  (yX11_judge, prog_1_method_19_code, 4, (some .int), 2, false, 323, 270, 324, 325),
  (yX11_edge, prog_1_method_20_code, 9, (some .int), 3, false, 326, 270, 327, 328)]
noncomputable def zm_7 : List zM := [(yX11_byTurns, prog_1_method_21_code, 5, (some .int), 3, false, 329, 270, 330, 331),
  (yX11_wornAtBest, prog_1_method_22_code, 3, (some .int), 2, false, 332, 270, 333, 334),
  (yX11_leastBySmith, prog_1_method_23_code, 7, (some .int), 2, false, 335, 270, 336, 337),
  (yX11_mostByKicker, prog_1_method_24_code, 6, (some .int), 2, false, 338, 270, 339, 340),
  (yX11_drawn, prog_1_method_25_code, 14, (some .int), 4, false, 341, 270, 342, 343),
  (yX11_stroke, prog_1_method_26_code, 4, (some .int), 2, false, 344, 270, 345, 346),
  (yX11_goes, prog_1_method_27_code, 6, (some .int), 2, false, 347, 270, 348, 349),
  (yX11_deal, prog_1_method_28_code, 3, (some .int), 0, false, 350, 270, 351, 352),
  (yX11_led, prog_1_method_29_code, 2, (some .int), 1, false, 353, 270, 354, 355),
  (yX11_image, prog_1_method_30_code, 2, (some .int), 0, false, 356, 270, 357, 358),
  (yX11_back, prog_1_method_31_code, 2, (some .int), 0, false, 359, 270, 360, 361),
  (yX11_undo, prog_1_method_32_code, 1, (some .int), 0, false, 362, 270, 363, 364),
  (yX11_redo, prog_1_method_33_code, 1, (some .int), 0, false, 365, 270, 366, 367),
  (yX11_body, prog_1_method_34_code, 2, (some .int), 1, false, 368, 270, 369, 370),
  (yX11_act, prog_1_method_35_code, 4, (some .int), 3, false, 371, 270, 372, 373),
  (yX11_trace, prog_1_method_36_code, 2, (some .int), 1, false, 374, 270, 375, 376)]
noncomputable def zm_8 : List zM := [(yX11_keep, prog_1_method_37_code, 3, (some .int), 2, false, 377, 270, 378, 379),
  (yX11_row, prog_1_method_38_code, 4, (some .int), 3, false, 380, 270, 381, 382),
  (yX11_put, prog_1_method_39_code, 6, (some .int), 3, false, 383, 270, 384, 385),
  (yX11_element, prog_1_method_40_code, 3, (some .long), 2, false, 386, 270, 387, 388),
  (yX11_shift, prog_1_method_41_code, 8, (some .int), 5, false, 389, 270, 390, 391),
  (yX11_taken, prog_1_method_42_code, 5, (some .int), 2, false, 392, 270, 393, 394),
  (yX11_count, prog_1_method_43_code, 2, (some .int), 1, false, 395, 270, 396, 397),
  (yX11_isShelf, prog_1_method_44_code, 1, (some .boolean), 1, true, 398, 270, 399, 0),
  (yX11_areShelves, prog_1_method_45_code, 1, (some .boolean), 1, true, 400, 270, 401, 0),
  (yX11_isPlace, prog_1_method_46_code, 2, (some .boolean), 1, true, 402, 270, 403, 0),
  (yX11_areUnlikePlaces, prog_1_method_47_code, 1, (some .boolean), 1, true, 404, 270, 405, 0),
  (yX11_thoughtOf, prog_1_method_48_code, 2, (some (.object "ColdShod$Idea")), 1, false, 406, 270, 407, 408),
  (yX11_refusalOfBytes, prog_1_method_49_code, 1, (some .int), 1, true, 409, 270, 410, 0),
  (yX11_refusalOfEdge, prog_1_method_50_code, 3, (some .int), 1, false, 411, 270, 412, 413),
  (yX11_refusalOfElement, prog_1_method_51_code, 3, (some .int), 2, false, 414, 270, 415, 416),
  (yX12_within, prog_14_method_1_code, 6, (some .boolean), 3, true, 417, 418, 419, 0)]
noncomputable def zm_9 : List zM := [(yX12_isIn, prog_14_method_2_code, 2, (some .boolean), 2, true, 420, 418, 421, 0),
  (yX12_bitsOf, prog_14_method_3_code, 3, (some .int), 1, true, 422, 418, 423, 0),
  (yX12_sizeOf, prog_14_method_4_code, 1, (some .int), 1, true, 424, 418, 425, 0),
  (yX12_init, prog_14_method_5_code, 2, none, 0, false, 426, 418, 427, 0),
  (yX12_becomes, prog_14_method_6_code, 5, (some .int), 2, false, 428, 418, 429, 430),
  (yX12_undo, prog_14_method_7_code, 1, (some .int), 0, false, 431, 418, 432, 433),
  (yX12_redo, prog_14_method_8_code, 1, (some .int), 0, false, 434, 418, 435, 436),
  (yX12_isHead, prog_14_method_9_code, 3, (some .boolean), 1, false, 437, 418, 438, 439),
  (yX12_isIdea, prog_14_method_10_code, 3, (some .boolean), 1, false, 440, 418, 441, 442),
  (yX12_isRoad, prog_14_method_11_code, 3, (some .boolean), 1, false, 443, 418, 444, 445),
  (yX12_isPlace, prog_14_method_12_code, 2, (some .boolean), 1, true, 446, 418, 447, 0),
  (yX12_head, prog_14_method_13_code, 2, (some .int), 1, false, 448, 418, 449, 450),
  (yX12_idea, prog_14_method_14_code, 3, (some .int), 2, false, 451, 418, 452, 453),
  (yX12_mayCome, prog_14_method_15_code, 6, (some .boolean), 3, true, 454, 418, 455, 0),
  (yX12_adds, prog_14_method_16_code, 4, none, 3, false, 456, 418, 457, 458),
  (yX12_road, prog_14_method_17_code, 3, (some .int), 2, false, 459, 418, 460, 461)]
noncomputable def zm_10 : List zM := [(yX12_roads, prog_14_method_18_code, 7, (some .int), 3, false, 462, 418, 463, 464),
  (yX12_placeOf, prog_14_method_19_code, 3, (some .int), 2, false, 465, 418, 466, 467),
  (yX12_mayBecome, prog_14_method_20_code, 3, (some .boolean), 2, false, 468, 418, 469, 470),
  (yX12_mend, prog_14_method_21_code, 5, (some .int), 3, false, 471, 418, 472, 473),
  (yX12_of, prog_14_method_22_code, 4, (some .int), 2, false, 474, 418, 475, 476),
  (yX12_feed, prog_14_method_23_code, 2, (some .int), 1, false, 477, 418, 478, 479),
  (yX12_byteAt, prog_14_method_24_code, 1, (some .int), 0, false, 480, 418, 481, 482),
  (yX12_wrong, prog_14_method_25_code, 1, (some .int), 0, false, 483, 418, 484, 485),
  (yX12_takes, prog_14_method_26_code, 2, (some .boolean), 1, false, 486, 418, 487, 488),
  (yX12_either, prog_14_method_27_code, 3, (some .int), 0, false, 489, 418, 490, 491),
  (yX12_both, prog_14_method_28_code, 3, (some .int), 0, false, 492, 418, 493, 494),
  (yX12_compared, prog_14_method_29_code, 4, (some .int), 0, false, 495, 418, 496, 497),
  (yX12_sums, prog_14_method_30_code, 4, (some .int), 0, false, 498, 418, 499, 500),
  (yX12_product, prog_14_method_31_code, 4, (some .int), 0, false, 501, 418, 502, 503),
  (yX12_nameOf, prog_14_method_32_code, 1, (some .int), 1, true, 504, 418, 505, 0),
  (yX12_one, prog_14_method_33_code, 5, (some .int), 0, false, 506, 418, 507, 508)]
noncomputable def zm_11 : List zM := [(yX12_workOut, prog_14_method_34_code, 8, (some .int), 2, false, 509, 418, 510, 511),
  (yX12_law, prog_14_method_35_code, 4, (some .int), 0, false, 512, 418, 513, 514),
  (yX12_begins, prog_14_method_36_code, 3, none, 1, false, 515, 418, 516, 517),
  (yX12_gripOf, prog_14_method_37_code, 1, (some .int), 1, true, 518, 418, 519, 0),
  (yX12_wearsNow, prog_14_method_38_code, 4, (some .int), 1, false, 520, 418, 521, 522),
  (yX12_wears, prog_14_method_39_code, 3, (some .int), 2, false, 523, 418, 524, 525),
  (yX12_mayGo, prog_14_method_40_code, 2, (some .boolean), 1, false, 526, 418, 527, 528),
  (yX12_goesRoad, prog_14_method_41_code, 3, none, 1, false, 529, 418, 530, 531),
  (yX12_strikes, prog_14_method_42_code, 2, (some .boolean), 1, false, 532, 418, 533, 534),
  (yX12_drawsBy, prog_14_method_43_code, 2, (some .boolean), 1, false, 535, 418, 536, 537),
  (yX12_bytesIs, prog_14_method_44_code, 2, (some .int), 1, false, 538, 418, 539, 540),
  (yX12_roadMany, prog_14_method_45_code, 3, (some .int), 1, false, 541, 418, 542, 543),
  (yX12_goesJourney, prog_14_method_46_code, 3, none, 1, false, 544, 418, 545, 546),
  (yX12_journey, prog_14_method_47_code, 4, (some .int), 3, false, 547, 418, 548, 549),
  (yX12_goesBy, prog_14_method_48_code, 6, (some .boolean), 4, false, 550, 418, 551, 552),
  (yX12_strokes, prog_14_method_49_code, 5, (some .int), 3, false, 553, 418, 554, 555)]
noncomputable def zm_12 : List zM := [(yX12_triesWay, prog_14_method_50_code, 8, none, 5, false, 556, 418, 557, 558),
  (yX12_way, prog_14_method_51_code, 4, (some .int), 3, false, 559, 418, 560, 561),
  (yX12_reach, prog_14_method_52_code, 6, (some .int), 2, false, 562, 418, 563, 564),
  (yX12_headRather, prog_14_method_53_code, 6, (some .boolean), 3, false, 565, 418, 566, 567),
  (yX12_ideaRather, prog_14_method_54_code, 3, (some .boolean), 2, false, 568, 418, 569, 570),
  (yX12_ideaOf, prog_14_method_55_code, 3, (some .int), 1, false, 571, 418, 572, 573),
  (yX12_allAsk, prog_14_method_56_code, 5, none, 0, false, 574, 418, 575, 576),
  (yX12_asks, prog_14_method_57_code, 2, (some .int), 1, false, 577, 418, 578, 579),
  (yX12_settled, prog_14_method_58_code, 6, (some .int), 0, false, 580, 418, 581, 582),
  (yX12_goTogether, prog_14_method_59_code, 3, (some .boolean), 2, false, 583, 418, 584, 585),
  (yX12_yokes, prog_14_method_60_code, 7, (some .int), 1, false, 586, 418, 587, 588),
  (yX12_rowsAre, prog_14_method_61_code, 2, (some .int), 1, false, 589, 418, 590, 591),
  (yX12_firstFalse, prog_14_method_62_code, 5, (some .int), 2, false, 592, 418, 593, 594),
  (yX12_judge, prog_14_method_63_code, 3, (some .int), 2, false, 595, 418, 596, 597),
  (yX12_edge, prog_14_method_64_code, 8, (some .int), 3, false, 598, 418, 599, 600),
  (yX12_playsFrom, prog_14_method_65_code, 7, (some .int), 3, false, 601, 418, 602, 603)]
noncomputable def zm_13 : List zM := [(yX12_byTurns, prog_14_method_66_code, 5, (some .int), 3, false, 604, 418, 605, 606),
  (yX12_drawn, prog_14_method_67_code, 11, (some .int), 4, false, 607, 418, 608, 609),
  (yX12_keepsOwn, prog_14_method_68_code, 3, none, 1, false, 610, 418, 611, 612),
  (yX12_stroke, prog_14_method_69_code, 4, (some .int), 2, false, 613, 418, 614, 615),
  (yX12_goes, prog_14_method_70_code, 3, (some .int), 2, false, 616, 418, 617, 618),
  (yX12_deal, prog_14_method_71_code, 3, (some .int), 0, false, 619, 418, 620, 621),
  (yX12_led, prog_14_method_72_code, 2, (some .int), 1, false, 622, 418, 623, 624),
  (yX12_image, prog_14_method_73_code, 2, (some .int), 0, false, 625, 418, 626, 627),
  (yX12_back, prog_14_method_74_code, 2, (some .int), 0, false, 628, 418, 629, 630),
  (yX12_isBody, prog_14_method_75_code, 2, (some .boolean), 1, false, 631, 418, 632, 633),
  (yX12_kindOf, prog_14_method_76_code, 2, (some .int), 1, false, 634, 418, 635, 636),
  (yX12_body, prog_14_method_77_code, 2, (some .int), 1, false, 637, 418, 638, 639),
  (yX12_above, prog_14_method_78_code, 1, (some .int), 1, true, 640, 418, 641, 0),
  (yX12_runs, prog_14_method_79_code, 2, none, 1, false, 642, 418, 643, 644),
  (yX12_heatsAs, prog_14_method_80_code, 3, (some .int), 2, false, 645, 418, 646, 647),
  (yX12_drawsAs, prog_14_method_81_code, 4, (some .int), 2, false, 648, 418, 649, 650)]
noncomputable def zm_14 : List zM := [(yX12_nailsAs, prog_14_method_82_code, 4, (some .int), 2, false, 651, 418, 652, 653),
  (yX12_tellsAs, prog_14_method_83_code, 4, (some .int), 2, false, 654, 418, 655, 656),
  (yX12_act, prog_14_method_84_code, 4, (some .int), 3, false, 657, 418, 658, 659),
  (yX12_trace, prog_14_method_85_code, 2, (some .int), 1, false, 660, 418, 661, 662),
  (yX12_isShelf, prog_14_method_86_code, 1, (some .boolean), 1, true, 663, 418, 664, 0),
  (yX12_keep, prog_14_method_87_code, 3, (some .int), 2, false, 665, 418, 666, 667),
  (yX12_row, prog_14_method_88_code, 5, (some .int), 3, false, 668, 418, 669, 670),
  (yX12_refusal, prog_14_method_89_code, 3, (some .int), 2, false, 671, 418, 672, 673),
  (yX12_asSort, prog_14_method_90_code, 3, (some .long), 2, true, 674, 418, 675, 0),
  (yX12_put, prog_14_method_91_code, 6, (some .int), 3, false, 676, 418, 677, 678),
  (yX12_element, prog_14_method_92_code, 3, (some .long), 2, false, 679, 418, 680, 681),
  (yX12_shift, prog_14_method_93_code, 7, (some .int), 5, false, 682, 418, 683, 684),
  (yX12_taken, prog_14_method_94_code, 4, (some .int), 2, false, 685, 418, 686, 687),
  (yX12_count, prog_14_method_95_code, 2, (some .int), 1, false, 688, 418, 689, 690),
  (yJ6_bitCount_0f7a4, prog_15_method_49_code, 1, (some .int), 1, true, 691, 692, 693, 0),
  (yJ7_fill_d0a16, prog_18_method_101_code, 5, none, 2, true, 694, 695, 696, 0)]
noncomputable def zm_15 : List zM := [(yJ7_fill_53178, prog_18_method_103_code, 4, none, 2, true, 697, 695, 698, 0),
  zMlaw]
noncomputable def zma : List (List zM) := [zm_0, zm_1, zm_2, zm_3, zm_4, zm_5, zm_6, zm_7, zm_8, zm_9, zm_10, zm_11, zm_12, zm_13, zm_14, zm_15]
noncomputable def zm (mi : Nat) : Option zM := match zget zma (mi / 16) with
  | some g => zget g (mi % 16)
  | _ => none
noncomputable def zLa : List (List Nat) := [[1, 2, 2, 4, 2, 4, 7, 5, 1, 5, 1, 2, 2, 2, 2, 2], [2, 5, 3, 4, 3, 4, 2, 3, 5, 5, 4, 5, 3, 6, 4, 4], [3, 5, 1, 2, 2, 1, 1, 2, 2, 2, 2, 2, 2, 2, 1, 1], [6, 4, 6, 6, 1, 1, 2, 2, 1, 2, 8, 1, 3, 1, 2, 3], [3, 7, 5, 4, 1, 2, 1, 1, 1, 1, 2, 1, 2, 3, 1, 3], [3, 1, 5, 5, 3, 5, 1, 3, 2, 5, 9, 4, 2, 2, 4, 3], [7, 9, 5, 3, 2, 3, 3, 7, 6, 4, 9, 2, 1, 3, 4, 9], [5, 3, 7, 6, 14, 4, 6, 3, 2, 2, 2, 1, 1, 2, 4, 2], [3, 4, 6, 3, 8, 5, 2, 1, 1, 2, 1, 2, 1, 3, 3, 6], [2, 3, 1, 2, 5, 1, 1, 3, 3, 3, 2, 2, 3, 6, 4, 3], [7, 3, 3, 5, 4, 2, 1, 1, 2, 3, 3, 4, 4, 4, 1, 5], [8, 4, 3, 1, 4, 3, 2, 3, 2, 2, 2, 3, 3, 4, 6, 5], [8, 4, 6, 6, 3, 3, 5, 2, 6, 3, 7, 2, 5, 3, 8, 7], [5, 11, 3, 4, 3, 3, 2, 2, 2, 2, 2, 2, 1, 2, 3, 4], [4, 4, 4, 2, 1, 3, 5, 3, 3, 6, 3, 7, 4, 2, 1, 5], [4, 4]]
/-- how many locals a method has -/
noncomputable def zL (mi : Nat) : Nat := match zget zLa (mi / 16) with
  | some g => (zget g (mi % 16)).getD 0
  | _ => 0
/-- the number of the law itself: nobody calls it -/
noncomputable abbrev zlaw : Nat := 241
noncomputable def zfa : List (List Bool) := [[true, false, false, true, false, false], [false, false, true, true, true, true], [true, true, true, true, true, true, false, false, false, true, true], [false, false, false, false, false, false, false], [true, false, false, false], [false, true, false, true], [true, false, false], [false, false, false, false, false], [false, false, false, false, true], [true, true, true, true, true, true, false], [true, false, false, true, true], [true, true, true, true, true, true, true, true, true, true, true, true, false, false], [true, true, true, true, false, false, false, false, false, true, true, true, false, true, false, false, false, false, false, false, true, true, false, false, false, false, true, true, true, false, false, true, true, true, true, false, false, true, true, false, true, true, false, false, false, true, true, true, true]]
/-- whether a field holds a reference -/
noncomputable def zft (c k : Nat) : Bool := match zget zfa c with
  | some g => (zget g k).getD false
  | _ => false
noncomputable def zrun : Nat → Nat → Nat → zC → Option (Option Value × zH)
  | 0, _, _, _ => none
  | f + 1, d, mi, x => match zi mi x.1 with
    | none => none
    | some e => match zstep e x with
      | none => none
      | some (.inl y) => zrun f d mi y
      | some (.inr (.inr r)) => some (r, x.2.2.2)
      | some (.inr (.inl (a, as, y))) => match d with
        | 0 => none
        | d1 + 1 => match zrun f d1 a (0, zpad (zL a) (zargs as), [], x.2.2.2) with
          | none => none
          | some (r, h1) => zrun f (d1 + 1) mi (y.1, y.2.1, r.toList ++ y.2.2.1, h1)
