abbrev mJ7_fill_fda19 : JI := (yJ7_fill_fda19, cJ7_fill_fda19, 5, none, [], false)
abbrev mJ7_rangeCheck_23922 : JI := (yJ7_rangeCheck_23922, cJ7_rangeCheck_23922, 3, none, [], false)
abbrev mL_address : JI := (yL_address, cL_address, 3, some .int, [(0, 5, 6, 20), (0, 5, 10, 22)], false)
abbrev mL_addressByAdding : JI := (yL_addressByAdding, cL_addressByAdding, 3, some .int, [(0, 5, 6, 44), (0, 5, 10, 88)], false)
abbrev mL_addressOf : JI := (yL_addressOf, cL_addressOf, 3, some .int, [(0, 5, 6, 44), (0, 5, 10, 88)], false)
abbrev mL_align : JI := (yL_align, cL_align, 3, some .int, [(0, 5, 6, 20), (0, 5, 10, 22)], false)
abbrev mL_block : JI := (yL_block, cL_block, 2, some .int, [(0, 4, 5, 22)], false)
abbrev mL_call : JI := (yL_call, cL_call, 5, some .int, [(0, 7, 8, 44), (0, 7, 13, 20), (0, 7, 18, 22)], false)
abbrev mL_cell : JI := (yL_cell, cL_cell, 2, some .int, [], false)
abbrev mL_depthOf : JI := (yL_depthOf, cL_depthOf, 3, some .int, [(0, 5, 6, 44), (0, 5, 10, 88)], false)
abbrev mL_end : JI := (yL_end, cL_end, 2, some .int, [(0, 4, 5, 59), (0, 4, 9, 22)], false)
abbrev mL_endMacro : JI := (yL_endMacro, cL_endMacro, 2, some .int, [(0, 4, 5, 59), (0, 4, 9, 22)], false)
abbrev mL_fault : JI := (yL_fault, cL_fault, 2, some .int, [(0, 4, 5, 44)], false)
abbrev mL_faultLine : JI := (yL_faultLine, cL_faultLine, 2, some .int, [(0, 4, 5, 44)], false)
abbrev mL_isFault : JI := (yL_isFault, cL_isFault, 3, some .boolean, [], false)
abbrev mL_isWhole : JI := (yL_isWhole, cL_isWhole, 14, some .boolean, [], false)
abbrev mL_items : JI := (yL_items, cL_items, 2, some .int, [(0, 4, 5, 44)], false)
abbrev mL_itemsByCounting : JI := (yL_itemsByCounting, cL_itemsByCounting, 2, some .long, [(0, 4, 5, 22), (0, 4, 10, 59)], false)
abbrev mL_jump : JI := (yL_jump, cL_jump, 3, some .int, [(0, 5, 6, 20), (0, 5, 10, 22)], false)
abbrev mL_kindOf : JI := (yL_kindOf, cL_kindOf, 3, some .int, [(0, 5, 6, 44), (0, 5, 10, 88)], false)
abbrev mL_label : JI := (yL_label, cL_label, 3, some .int, [(0, 5, 6, 20), (0, 5, 10, 22)], false)
abbrev mL_labelAddress : JI := (yL_labelAddress, cL_labelAddress, 3, some .int, [(0, 5, 6, 44)], false)
abbrev mL_lineOf : JI := (yL_lineOf, cL_lineOf, 3, some .int, [(0, 5, 6, 44), (0, 5, 10, 88)], false)
abbrev mL_loadedWord : JI := (yL_loadedWord, cL_loadedWord, 4, some .int, [(0, 6, 7, 44), (0, 6, 11, 88), (0, 6, 15, 20)], false)
abbrev mL_longJumps : JI := (yL_longJumps, cL_longJumps, 2, some .int, [(0, 4, 5, 44)], false)
abbrev mL_loop : JI := (yL_loop, cL_loop, 3, some .int, [(0, 5, 6, 20), (0, 5, 10, 22)], false)
abbrev mL_macro : JI := (yL_macro, cL_macro, 2, some .int, [(0, 4, 5, 59), (0, 4, 9, 22)], false)
abbrev mL_operation : JI := (yL_operation, cL_operation, 4, some .int, [(0, 6, 7, 20), (0, 6, 11, 22)], false)
abbrev mL_passes : JI := (yL_passes, cL_passes, 2, some .int, [(0, 4, 5, 44)], false)
abbrev mL_pick : JI := (yL_pick, cL_pick, 3, some .int, [], false)
abbrev mL_relocations : JI := (yL_relocations, cL_relocations, 2, some .int, [(0, 4, 5, 44)], false)
abbrev mL_shortShare : JI := (yL_shortShare, cL_shortShare, 2, some .float, [(0, 4, 5, 44), (0, 4, 9, 132)], false)
abbrev mL_sum : JI := (yL_sum, cL_sum, 3, some .int, [], false)
abbrev mL_targetOf : JI := (yL_targetOf, cL_targetOf, 3, some .int, [(0, 5, 6, 44), (0, 5, 10, 88), (0, 5, 14, 59)], false)
abbrev mL_when : JI := (yL_when, cL_when, 4, some .int, [(0, 6, 7, 20), (0, 6, 11, 22)], false)
abbrev mL_word : JI := (yL_word, cL_word, 3, some .int, [(0, 5, 6, 20), (0, 5, 10, 22)], false)
abbrev mL_wordAt : JI := (yL_wordAt, cL_wordAt, 3, some .int, [(0, 5, 6, 44), (0, 5, 10, 88)], false)
abbrev mL_words : JI := (yL_words, cL_words, 2, some .int, [(0, 4, 5, 44)], false)
abbrev mX0_countCall : JI := (yX0_countCall, cX0_countCall, 8, some .int, [], false)
abbrev mX0_countLines : JI := (yX0_countLines, cX0_countLines, 11, some .int, [], false)
abbrev mX0_countMacro : JI := (yX0_countMacro, cX0_countMacro, 9, some .int, [], false)
abbrev mX0_countProgram : JI := (yX0_countProgram, cX0_countProgram, 1, some .int, [], false)
abbrev mX0_forgetMacros : JI := (yX0_forgetMacros, cX0_forgetMacros, 1, none, [], false)
abbrev mX0_init : JI := (yX0_init, cX0_init, 2, none, [], false)
abbrev mX0_limited : JI := (yX0_limited, cX0_limited, 2, some .int, [], false)
abbrev mX0_placeOf : JI := (yX0_placeOf, cX0_placeOf, 7, some .int, [], false)
abbrev mX0_recall : JI := (yX0_recall, cX0_recall, 5, some .int, [], false)
abbrev mX0_remember : JI := (yX0_remember, cX0_remember, 5, none, [], false)
abbrev mX1_addItem : JI := (yX1_addItem, cX1_addItem, 6, none, [], false)
abbrev mX1_argument : JI := (yX1_argument, cX1_argument, 2, some .int, [], false)
abbrev mX1_beginGroup : JI := (yX1_beginGroup, cX1_beginGroup, 4, some .int, [], false)
abbrev mX1_endRound : JI := (yX1_endRound, cX1_endRound, 4, some .int, [], false)
abbrev mX1_enterMacro : JI := (yX1_enterMacro, cX1_enterMacro, 4, some .int, [], false)
abbrev mX1_expandLine : JI := (yX1_expandLine, cX1_expandLine, 4, some .int, [], false)
abbrev mX1_expandProgram : JI := (yX1_expandProgram, cX1_expandProgram, 4, none, [], false)
abbrev mX1_fail : JI := (yX1_fail, cX1_fail, 3, none, [], false)
abbrev mX1_faultAt : JI := (yX1_faultAt, cX1_faultAt, 6, some .int, [], false)
abbrev mX1_faultKind : JI := (yX1_faultKind, cX1_faultKind, 1, some .int, [], false)
abbrev mX1_findNames : JI := (yX1_findNames, cX1_findNames, 2, none, [], false)
abbrev mX1_init : JI := (yX1_init, cX1_init, 4, none, [], false)
abbrev mX1_leaveMacro : JI := (yX1_leaveMacro, cX1_leaveMacro, 3, some .int, [], false)
abbrev mX1_lineOfFault : JI := (yX1_lineOfFault, cX1_lineOfFault, 1, some .int, [], false)
abbrev mX1_pass : JI := (yX1_pass, cX1_pass, 5, none, [], false)
abbrev mX1_placeOf : JI := (yX1_placeOf, cX1_placeOf, 2, some .int, [], false)
abbrev mX1_scopeOf : JI := (yX1_scopeOf, cX1_scopeOf, 2, some .int, [], false)
abbrev mX1_valueOf : JI := (yX1_valueOf, cX1_valueOf, 2, some .int, [], false)
abbrev mX1_valueOfItem : JI := (yX1_valueOfItem, cX1_valueOfItem, 3, some .int, [], false)
abbrev mX2_fill : JI := (yX2_fill, cX2_fill, 3, none, [], false)
abbrev mX2_holdsAddress : JI := (yX2_holdsAddress, cX2_holdsAddress, 2, some .boolean, [], false)
abbrev mX2_init : JI := (yX2_init, cX2_init, 1, none, [], false)
abbrev mX2_put : JI := (yX2_put, cX2_put, 2, none, [], false)
abbrev mX2_putAddress : JI := (yX2_putAddress, cX2_putAddress, 2, none, [], false)
abbrev mX2_size : JI := (yX2_size, cX2_size, 1, some .int, [], false)
abbrev mX2_sizeOfRelocations : JI := (yX2_sizeOfRelocations, cX2_sizeOfRelocations, 1, some .int, [], false)
abbrev mX2_wordOf : JI := (yX2_wordOf, cX2_wordOf, 2, some .int, [], false)
abbrev mX2_write : JI := (yX2_write, cX2_write, 3, none, [], false)
abbrev mX2_writeItem : JI := (yX2_writeItem, cX2_writeItem, 3, none, [], false)
abbrev mX3_add : JI := (yX3_add, cX3_add, 6, some .int, [], false)
abbrev mX3_addressAt : JI := (yX3_addressAt, cX3_addressAt, 2, some .int, [], false)
abbrev mX3_aim : JI := (yX3_aim, cX3_aim, 3, none, [], false)
abbrev mX3_countKind : JI := (yX3_countKind, cX3_countKind, 4, some .int, [], false)
abbrev mX3_depth : JI := (yX3_depth, cX3_depth, 2, some .int, [], false)
abbrev mX3_distance : JI := (yX3_distance, cX3_distance, 2, some .int, [], false)
abbrev mX3_findAddresses : JI := (yX3_findAddresses, cX3_findAddresses, 3, none, [], false)
abbrev mX3_firstWithoutTarget : JI := (yX3_firstWithoutTarget, cX3_firstWithoutTarget, 2, some .int, [], false)
abbrev mX3_init : JI := (yX3_init, cX3_init, 1, none, [], false)
abbrev mX3_isFull : JI := (yX3_isFull, cX3_isFull, 1, some .boolean, [], false)
abbrev mX3_isShortDistance : JI := (yX3_isShortDistance, cX3_isShortDistance, 1, some .boolean, [], false)
abbrev mX3_kind : JI := (yX3_kind, cX3_kind, 2, some .int, [], false)
abbrev mX3_lengthenJumps : JI := (yX3_lengthenJumps, cX3_lengthenJumps, 3, some .boolean, [], false)
abbrev mX3_line : JI := (yX3_line, cX3_line, 2, some .int, [], false)
abbrev mX3_place : JI := (yX3_place, cX3_place, 2, none, [], false)
abbrev mX3_removeAll : JI := (yX3_removeAll, cX3_removeAll, 1, none, [], false)
abbrev mX3_size : JI := (yX3_size, cX3_size, 1, some .int, [], false)
abbrev mX3_sizeOfPasses : JI := (yX3_sizeOfPasses, cX3_sizeOfPasses, 1, some .int, [], false)
abbrev mX3_target : JI := (yX3_target, cX3_target, 2, some .int, [], false)
abbrev mX3_targetAddress : JI := (yX3_targetAddress, cX3_targetAddress, 2, some .int, [], false)
abbrev mX3_value : JI := (yX3_value, cX3_value, 2, some .int, [], false)
abbrev mX3_wordsBefore : JI := (yX3_wordsBefore, cX3_wordsBefore, 4, some .int, [], false)
abbrev mX3_wordsTaken : JI := (yX3_wordsTaken, cX3_wordsTaken, 3, some .int, [], false)
abbrev mX3_wordsToMultiple : JI := (yX3_wordsToMultiple, cX3_wordsToMultiple, 3, some .int, [], false)
abbrev mX4_close : JI := (yX4_close, cX4_close, 4, none, [], false)
abbrev mX4_current : JI := (yX4_current, cX4_current, 1, some .int, [], false)
abbrev mX4_define : JI := (yX4_define, cX4_define, 4, none, [], false)
abbrev mX4_init : JI := (yX4_init, cX4_init, 2, none, [], false)
abbrev mX4_labelIn : JI := (yX4_labelIn, cX4_labelIn, 3, some .int, [], false)
abbrev mX4_open : JI := (yX4_open, cX4_open, 2, none, [], false)
abbrev mX4_reset : JI := (yX4_reset, cX4_reset, 1, none, [], false)
abbrev mX4_setHome : JI := (yX4_setHome, cX4_setHome, 3, none, [], false)
abbrev mX5_append : JI := (yX5_append, cX5_append, 6, some .int, [], false)
abbrev mX5_beginMacro : JI := (yX5_beginMacro, cX5_beginMacro, 2, some .int, [], false)
abbrev mX5_endGroup : JI := (yX5_endGroup, cX5_endGroup, 2, some .int, [], false)
abbrev mX5_feed : JI := (yX5_feed, cX5_feed, 7, some .int, [], false)
abbrev mX5_finishMacro : JI := (yX5_finishMacro, cX5_finishMacro, 2, some .int, [], false)
abbrev mX5_first : JI := (yX5_first, cX5_first, 2, some .int, [], false)
abbrev mX5_fixed : JI := (yX5_fixed, cX5_fixed, 2, some .int, [], false)
abbrev mX5_init : JI := (yX5_init, cX5_init, 1, none, [], false)
abbrev mX5_isEndedMacro : JI := (yX5_isEndedMacro, cX5_isEndedMacro, 3, some .boolean, [], false)
abbrev mX5_isOperand : JI := (yX5_isOperand, cX5_isOperand, 3, some .boolean, [], false)
abbrev mX5_kind : JI := (yX5_kind, cX5_kind, 2, some .int, [], false)
abbrev mX5_macroLine : JI := (yX5_macroLine, cX5_macroLine, 2, some .int, [], false)
abbrev mX5_pair : JI := (yX5_pair, cX5_pair, 3, none, [], false)
abbrev mX5_partner : JI := (yX5_partner, cX5_partner, 2, some .int, [], false)
abbrev mX5_removeAll : JI := (yX5_removeAll, cX5_removeAll, 2, some .int, [], false)
abbrev mX5_rounds : JI := (yX5_rounds, cX5_rounds, 6, some .int, [], false)
abbrev mX5_second : JI := (yX5_second, cX5_second, 2, some .int, [], false)
abbrev mX5_size : JI := (yX5_size, cX5_size, 1, some .int, [], false)
abbrev mX5_sizeOfMacros : JI := (yX5_sizeOfMacros, cX5_sizeOfMacros, 1, some .int, [], false)
abbrev mX5_unfinishedLine : JI := (yX5_unfinishedLine, cX5_unfinishedLine, 1, some .int, [], false)
abbrev mX6_address : JI := (yX6_address, cX6_address, 2, some .int, [], false)
abbrev mX6_addressByAdding : JI := (yX6_addressByAdding, cX6_addressByAdding, 2, some .int, [], false)
abbrev mX6_addressOf : JI := (yX6_addressOf, cX6_addressOf, 2, some .int, [], false)
abbrev mX6_align : JI := (yX6_align, cX6_align, 2, some .int, [], false)
abbrev mX6_assemble : JI := (yX6_assemble, cX6_assemble, 1, some .int, [], false)
abbrev mX6_at : JI := (yX6_at, cX6_at, 2, some .int, [], false)
abbrev mX6_beginsGroup : JI := (yX6_beginsGroup, cX6_beginsGroup, 1, some .boolean, [], false)
abbrev mX6_block : JI := (yX6_block, cX6_block, 1, some .int, [], false)
abbrev mX6_call : JI := (yX6_call, cX6_call, 4, some .int, [], false)
abbrev mX6_clear : JI := (yX6_clear, cX6_clear, 1, some .int, [], false)
abbrev mX6_depthOf : JI := (yX6_depthOf, cX6_depthOf, 2, some .int, [], false)
abbrev mX6_end : JI := (yX6_end, cX6_end, 1, some .int, [], false)
abbrev mX6_endMacro : JI := (yX6_endMacro, cX6_endMacro, 1, some .int, [], false)
abbrev mX6_fault : JI := (yX6_fault, cX6_fault, 1, some .char, [], false)
abbrev mX6_faultLine : JI := (yX6_faultLine, cX6_faultLine, 2, some .int, [], false)
abbrev mX6_greatestOperand : JI := (yX6_greatestOperand, cX6_greatestOperand, 1, some .int, [], false)
abbrev mX6_init : JI := (yX6_init, cX6_init, 1, none, [], false)
abbrev mX6_isArgument : JI := (yX6_isArgument, cX6_isArgument, 1, some .boolean, [], false)
abbrev mX6_isReference : JI := (yX6_isReference, cX6_isReference, 1, some .boolean, [], false)
abbrev mX6_items : JI := (yX6_items, cX6_items, 1, some .int, [], false)
abbrev mX6_itemsByCounting : JI := (yX6_itemsByCounting, cX6_itemsByCounting, 2, some .long, [], false)
abbrev mX6_jump : JI := (yX6_jump, cX6_jump, 2, some .int, [], false)
abbrev mX6_kindOf : JI := (yX6_kindOf, cX6_kindOf, 2, some .char, [], false)
abbrev mX6_label : JI := (yX6_label, cX6_label, 2, some .int, [], false)
abbrev mX6_labelAddress : JI := (yX6_labelAddress, cX6_labelAddress, 3, some .int, [], false)
abbrev mX6_lineOf : JI := (yX6_lineOf, cX6_lineOf, 2, some .int, [], false)
abbrev mX6_lines : JI := (yX6_lines, cX6_lines, 1, some .int, [], false)
abbrev mX6_loadedWord : JI := (yX6_loadedWord, cX6_loadedWord, 3, some .int, [], false)
abbrev mX6_longJumps : JI := (yX6_longJumps, cX6_longJumps, 1, some .int, [], false)
abbrev mX6_loop : JI := (yX6_loop, cX6_loop, 2, some .int, [], false)
abbrev mX6_macro : JI := (yX6_macro, cX6_macro, 1, some .int, [], false)
abbrev mX6_macros : JI := (yX6_macros, cX6_macros, 1, some .int, [], false)
abbrev mX6_operation : JI := (yX6_operation, cX6_operation, 3, some .int, [], false)
abbrev mX6_passes : JI := (yX6_passes, cX6_passes, 1, some .int, [], false)
abbrev mX6_relocations : JI := (yX6_relocations, cX6_relocations, 1, some .int, [], false)
abbrev mX6_requireItem : JI := (yX6_requireItem, cX6_requireItem, 2, none, [], false)
abbrev mX6_requireProgram : JI := (yX6_requireProgram, cX6_requireProgram, 1, none, [], false)
abbrev mX6_requireWord : JI := (yX6_requireWord, cX6_requireWord, 2, none, [], false)
abbrev mX6_setAt : JI := (yX6_setAt, cX6_setAt, 3, none, [], false)
abbrev mX6_shortShare : JI := (yX6_shortShare, cX6_shortShare, 3, some .float, [], false)
abbrev mX6_targetOf : JI := (yX6_targetOf, cX6_targetOf, 3, some .int, [], false)
abbrev mX6_valueOfOperand : JI := (yX6_valueOfOperand, cX6_valueOfOperand, 3, some .int, [], false)
abbrev mX6_when : JI := (yX6_when, cX6_when, 3, some .int, [], false)
abbrev mX6_word : JI := (yX6_word, cX6_word, 2, some .int, [], false)
abbrev mX6_wordAt : JI := (yX6_wordAt, cX6_wordAt, 2, some .int, [], false)
abbrev mX6_words : JI := (yX6_words, cX6_words, 1, some .int, [], false)
theorem fa_X0_11 : jFA RX0 11 6 1 1 2 31 := ⟨0, _, RX0, TX0, 5, tyX0, rfl, by decide, rfl, rfl, rfl, by decide, kg202, rfl, jin0, fun h => absurd rfl h⟩
theorem fa_X0_15 : jFA RX0 15 6 2 2 2 32 := ⟨0, _, RX0, TX0, 5, tyX0, rfl, by decide, rfl, rfl, rfl, by decide, kg203, rfl, jin0, fun h => absurd rfl h⟩
theorem fa_X0_19 : jFA RX0 19 6 3 3 2 33 := ⟨0, _, RX0, TX0, 5, tyX0, rfl, by decide, rfl, rfl, rfl, by decide, kg204, rfl, jin0, fun h => absurd rfl h⟩
theorem fa_X0_22 : jFA RX0 22 6 4 4 1 0 := ⟨0, _, RX0, TX0, 5, tyX0, rfl, by decide, rfl, rfl, rfl, by decide, kg205, rfl, jin0, fun _ => ⟨rfl, by decide +kernel, tyX0_ok, nmX0⟩⟩
theorem fa_X0_26 : jFA RX0 26 6 0 0 2 1 := ⟨0, _, RX0, TX0, 5, tyX0, rfl, by decide, rfl, rfl, rfl, by decide, kg201, rfl, jin0, fun h => absurd rfl h⟩
theorem fa_X1_15 : jFA RX1 15 4 4 4 2 26 := ⟨1, _, RX1, TX1, 11, tyX1, rfl, by decide, rfl, rfl, rfl, by decide, kg145, rfl, jin1, fun h => absurd rfl h⟩
theorem fa_X1_18 : jFA RX1 18 4 5 5 2 27 := ⟨1, _, RX1, TX1, 11, tyX1, rfl, by decide, rfl, rfl, rfl, by decide, kg146, rfl, jin1, fun h => absurd rfl h⟩
theorem fa_X1_21 : jFA RX1 21 4 6 6 2 28 := ⟨1, _, RX1, TX1, 11, tyX1, rfl, by decide, rfl, rfl, rfl, by decide, kg147, rfl, jin1, fun h => absurd rfl h⟩
theorem fa_X1_24 : jFA RX1 24 4 9 9 0 0 := ⟨1, _, RX1, TX1, 11, tyX1, rfl, by decide, rfl, rfl, rfl, by decide, kg150, rfl, jin1, fun _ => ⟨rfl, by decide +kernel, tyX1_ok, nmX1⟩⟩
theorem fa_X1_28 : jFA RX1 28 4 0 0 2 1 := ⟨1, _, RX1, TX1, 11, tyX1, rfl, by decide, rfl, rfl, rfl, by decide, kg141, rfl, jin1, fun h => absurd rfl h⟩
theorem fa_X1_32 : jFA RX1 32 4 1 1 2 2 := ⟨1, _, RX1, TX1, 11, tyX1, rfl, by decide, rfl, rfl, rfl, by decide, kg142, rfl, jin1, fun h => absurd rfl h⟩
theorem fa_X1_36 : jFA RX1 36 4 2 2 2 3 := ⟨1, _, RX1, TX1, 11, tyX1, rfl, by decide, rfl, rfl, rfl, by decide, kg143, rfl, jin1, fun h => absurd rfl h⟩
theorem fa_X1_40 : jFA RX1 40 4 10 10 0 0 := ⟨1, _, RX1, TX1, 11, tyX1, rfl, by decide, rfl, rfl, rfl, by decide, kg151, rfl, jin1, fun _ => ⟨rfl, by decide +kernel, tyX1_ok, nmX1⟩⟩
theorem fa_X1_53 : jFA RX1 53 4 7 7 0 0 := ⟨1, _, RX1, TX1, 11, tyX1, rfl, by decide, rfl, rfl, rfl, by decide, kg148, rfl, jin1, fun _ => ⟨rfl, by decide +kernel, tyX1_ok, nmX1⟩⟩
theorem fa_X1_56 : jFA RX1 56 4 8 8 0 0 := ⟨1, _, RX1, TX1, 11, tyX1, rfl, by decide, rfl, rfl, rfl, by decide, kg149, rfl, jin1, fun _ => ⟨rfl, by decide +kernel, tyX1_ok, nmX1⟩⟩
theorem fa_X1_9 : jFA RX1 9 4 3 3 2 25 := ⟨1, _, RX1, TX1, 11, tyX1, rfl, by decide, rfl, rfl, rfl, by decide, kg144, rfl, jin1, fun h => absurd rfl h⟩
theorem fa_X2_15 : jFA RX2 15 5 1 1 2 30 := ⟨2, _, RX2, TX2, 4, tyX2, rfl, by decide, rfl, rfl, rfl, by decide, kg182, rfl, jin2, fun h => absurd rfl h⟩
theorem fa_X2_19 : jFA RX2 19 5 2 2 0 0 := ⟨2, _, RX2, TX2, 4, tyX2, rfl, by decide, rfl, rfl, rfl, by decide, kg183, rfl, jin2, fun _ => ⟨rfl, by decide +kernel, tyX2_ok, nmX2⟩⟩
theorem fa_X2_23 : jFA RX2 23 5 3 3 0 0 := ⟨2, _, RX2, TX2, 4, tyX2, rfl, by decide, rfl, rfl, rfl, by decide, kg184, rfl, jin2, fun _ => ⟨rfl, by decide +kernel, tyX2_ok, nmX2⟩⟩
theorem fa_X2_9 : jFA RX2 9 5 0 0 2 29 := ⟨2, _, RX2, TX2, 4, tyX2, rfl, by decide, rfl, rfl, rfl, by decide, kg181, rfl, jin2, fun h => absurd rfl h⟩
theorem fa_X3_15 : jFA RX3 15 2 1 1 2 16 := ⟨3, _, RX3, TX3, 8, tyX3, rfl, by decide, rfl, rfl, rfl, by decide, kg86, rfl, jin3, fun h => absurd rfl h⟩
theorem fa_X3_18 : jFA RX3 18 2 2 2 2 17 := ⟨3, _, RX3, TX3, 8, tyX3, rfl, by decide, rfl, rfl, rfl, by decide, kg87, rfl, jin3, fun h => absurd rfl h⟩
theorem fa_X3_21 : jFA RX3 21 2 3 3 2 18 := ⟨3, _, RX3, TX3, 8, tyX3, rfl, by decide, rfl, rfl, rfl, by decide, kg88, rfl, jin3, fun h => absurd rfl h⟩
theorem fa_X3_24 : jFA RX3 24 2 4 4 2 19 := ⟨3, _, RX3, TX3, 8, tyX3, rfl, by decide, rfl, rfl, rfl, by decide, kg89, rfl, jin3, fun h => absurd rfl h⟩
theorem fa_X3_27 : jFA RX3 27 2 5 5 2 20 := ⟨3, _, RX3, TX3, 8, tyX3, rfl, by decide, rfl, rfl, rfl, by decide, kg90, rfl, jin3, fun h => absurd rfl h⟩
theorem fa_X3_30 : jFA RX3 30 2 6 6 0 0 := ⟨3, _, RX3, TX3, 8, tyX3, rfl, by decide, rfl, rfl, rfl, by decide, kg91, rfl, jin3, fun _ => ⟨rfl, by decide +kernel, tyX3_ok, nmX3⟩⟩
theorem fa_X3_34 : jFA RX3 34 2 7 7 0 0 := ⟨3, _, RX3, TX3, 8, tyX3, rfl, by decide, rfl, rfl, rfl, by decide, kg92, rfl, jin3, fun _ => ⟨rfl, by decide +kernel, tyX3_ok, nmX3⟩⟩
theorem fa_X3_9 : jFA RX3 9 2 0 0 2 15 := ⟨3, _, RX3, TX3, 8, tyX3, rfl, by decide, rfl, rfl, rfl, by decide, kg85, rfl, jin3, fun h => absurd rfl h⟩
theorem fa_X4_15 : jFA RX4 15 3 2 2 2 22 := ⟨4, _, RX4, TX4, 6, tyX4, rfl, by decide, rfl, rfl, rfl, by decide, kg118, rfl, jin4, fun h => absurd rfl h⟩
theorem fa_X4_18 : jFA RX4 18 3 3 3 2 23 := ⟨4, _, RX4, TX4, 6, tyX4, rfl, by decide, rfl, rfl, rfl, by decide, kg119, rfl, jin4, fun h => absurd rfl h⟩
theorem fa_X4_21 : jFA RX4 21 3 4 4 2 24 := ⟨4, _, RX4, TX4, 6, tyX4, rfl, by decide, rfl, rfl, rfl, by decide, kg120, rfl, jin4, fun h => absurd rfl h⟩
theorem fa_X4_24 : jFA RX4 24 3 0 0 2 2 := ⟨4, _, RX4, TX4, 6, tyX4, rfl, by decide, rfl, rfl, rfl, by decide, kg116, rfl, jin4, fun h => absurd rfl h⟩
theorem fa_X4_28 : jFA RX4 28 3 5 5 0 0 := ⟨4, _, RX4, TX4, 6, tyX4, rfl, by decide, rfl, rfl, rfl, by decide, kg121, rfl, jin4, fun _ => ⟨rfl, by decide +kernel, tyX4_ok, nmX4⟩⟩
theorem fa_X4_9 : jFA RX4 9 3 1 1 2 21 := ⟨4, _, RX4, TX4, 6, tyX4, rfl, by decide, rfl, rfl, rfl, by decide, kg117, rfl, jin4, fun h => absurd rfl h⟩
theorem fa_X5_15 : jFA RX5 15 1 1 1 2 9 := ⟨5, _, RX5, TX5, 11, tyX5, rfl, by decide, rfl, rfl, rfl, by decide, kg45, rfl, jin5, fun h => absurd rfl h⟩
theorem fa_X5_18 : jFA RX5 18 1 2 2 2 10 := ⟨5, _, RX5, TX5, 11, tyX5, rfl, by decide, rfl, rfl, rfl, by decide, kg46, rfl, jin5, fun h => absurd rfl h⟩
theorem fa_X5_21 : jFA RX5 21 1 3 3 2 11 := ⟨5, _, RX5, TX5, 11, tyX5, rfl, by decide, rfl, rfl, rfl, by decide, kg47, rfl, jin5, fun h => absurd rfl h⟩
theorem fa_X5_24 : jFA RX5 24 1 4 4 2 12 := ⟨5, _, RX5, TX5, 11, tyX5, rfl, by decide, rfl, rfl, rfl, by decide, kg48, rfl, jin5, fun h => absurd rfl h⟩
theorem fa_X5_27 : jFA RX5 27 1 5 5 2 13 := ⟨5, _, RX5, TX5, 11, tyX5, rfl, by decide, rfl, rfl, rfl, by decide, kg49, rfl, jin5, fun h => absurd rfl h⟩
theorem fa_X5_30 : jFA RX5 30 1 6 6 2 14 := ⟨5, _, RX5, TX5, 11, tyX5, rfl, by decide, rfl, rfl, rfl, by decide, kg50, rfl, jin5, fun h => absurd rfl h⟩
theorem fa_X5_33 : jFA RX5 33 1 7 7 0 0 := ⟨5, _, RX5, TX5, 11, tyX5, rfl, by decide, rfl, rfl, rfl, by decide, kg51, rfl, jin5, fun _ => ⟨rfl, by decide +kernel, tyX5_ok, nmX5⟩⟩
theorem fa_X5_37 : jFA RX5 37 1 8 8 0 0 := ⟨5, _, RX5, TX5, 11, tyX5, rfl, by decide, rfl, rfl, rfl, by decide, kg52, rfl, jin5, fun _ => ⟨rfl, by decide +kernel, tyX5_ok, nmX5⟩⟩
theorem fa_X5_44 : jFA RX5 44 1 10 10 6 0 := ⟨5, _, RX5, TX5, 11, tyX5, rfl, by decide, rfl, rfl, rfl, by decide, kg54, rfl, jin5, fun _ => ⟨rfl, by decide +kernel, tyX5_ok, nmX5⟩⟩
theorem fa_X5_48 : jFA RX5 48 1 9 9 0 0 := ⟨5, _, RX5, TX5, 11, tyX5, rfl, by decide, rfl, rfl, rfl, by decide, kg53, rfl, jin5, fun _ => ⟨rfl, by decide +kernel, tyX5_ok, nmX5⟩⟩
theorem fa_X5_9 : jFA RX5 9 1 0 0 2 8 := ⟨5, _, RX5, TX5, 11, tyX5, rfl, by decide, rfl, rfl, rfl, by decide, kg44, rfl, jin5, fun h => absurd rfl h⟩
theorem fa_X6_12 : jFA RX6 12 0 0 0 2 1 := ⟨6, _, RX6, TX6, 6, tyX6, rfl, by decide, rfl, rfl, rfl, by decide, kg218, rfl, jin6, fun h => absurd rfl h⟩
theorem fa_X6_19 : jFA RX6 19 0 1 1 2 2 := ⟨6, _, RX6, TX6, 6, tyX6, rfl, by decide, rfl, rfl, rfl, by decide, kg219, rfl, jin6, fun h => absurd rfl h⟩
theorem fa_X6_28 : jFA RX6 28 0 2 2 2 3 := ⟨6, _, RX6, TX6, 6, tyX6, rfl, by decide, rfl, rfl, rfl, by decide, kg220, rfl, jin6, fun h => absurd rfl h⟩
theorem fa_X6_37 : jFA RX6 37 0 3 3 2 4 := ⟨6, _, RX6, TX6, 6, tyX6, rfl, by decide, rfl, rfl, rfl, by decide, kg221, rfl, jin6, fun h => absurd rfl h⟩
theorem fa_X6_44 : jFA RX6 44 0 4 4 2 5 := ⟨6, _, RX6, TX6, 6, tyX6, rfl, by decide, rfl, rfl, rfl, by decide, kg222, rfl, jin6, fun h => absurd rfl h⟩
theorem fa_X6_53 : jFA RX6 53 0 5 5 2 6 := ⟨6, _, RX6, TX6, 6, tyX6, rfl, by decide, rfl, rfl, rfl, by decide, kg223, rfl, jin6, fun h => absurd rfl h⟩
theorem kc_X0_68 : jKN RX0 68 mX6_at 2 := ⟨⟨"MacroBench", by decide +kernel⟩, kg637, kg1, kg638, ⟨by decide +kernel, by decide +kernel, by decide +kernel⟩, by decide⟩
theorem kc_X0_72 : jKN RX0 72 mX6_beginsGroup 1 := ⟨⟨"MacroBench", by decide +kernel⟩, kg734, kg1, kg735, ⟨by decide +kernel, by decide +kernel, by decide +kernel⟩, by decide⟩
theorem kc_X0_80 : jKN RX0 80 mX6_setAt 3 := ⟨⟨"MacroBench", by decide +kernel⟩, kg684, kg1, kg685, ⟨by decide +kernel, by decide +kernel, by decide +kernel⟩, by decide⟩
theorem kc_X0_84 : jKS RX0 84 mX0_limited 1 := ⟨kg1226, kg1227, kg7, kg1228, ⟨by decide +kernel, by decide +kernel, by decide +kernel⟩, by decide⟩
theorem kc_X0_97 : jKN RX0 97 mX6_valueOfOperand 3 := ⟨⟨"MacroBench", by decide +kernel⟩, kg766, kg1, kg767, ⟨by decide +kernel, by decide +kernel, by decide +kernel⟩, by decide⟩
theorem kc_X1_108 : jKN RX1 108 mX6_beginsGroup 1 := ⟨⟨"MacroBench", by decide +kernel⟩, kg734, kg1, kg735, ⟨by decide +kernel, by decide +kernel, by decide +kernel⟩, by decide⟩
theorem kc_X1_121 : jKN RX1 121 mX6_greatestOperand 1 := ⟨⟨"MacroBench", by decide +kernel⟩, kg708, kg1, kg709, ⟨by decide +kernel, by decide +kernel, by decide +kernel⟩, by decide⟩
theorem kc_X1_143 : jKS RX1 143 mX1_valueOfItem 3 := ⟨kg774, kg775, kg5, kg776, ⟨by decide +kernel, by decide +kernel, by decide +kernel⟩, by decide⟩
theorem kc_X1_155 : jKN RX1 155 mX6_isReference 1 := ⟨⟨"MacroBench", by decide +kernel⟩, kg787, kg1, kg788, ⟨by decide +kernel, by decide +kernel, by decide +kernel⟩, by decide⟩
theorem kc_X1_174 : jKN RX1 174 mX6_setAt 3 := ⟨⟨"MacroBench", by decide +kernel⟩, kg684, kg1, kg685, ⟨by decide +kernel, by decide +kernel, by decide +kernel⟩, by decide⟩
theorem kc_X1_178 : jKN RX1 178 mX6_at 2 := ⟨⟨"MacroBench", by decide +kernel⟩, kg637, kg1, kg638, ⟨by decide +kernel, by decide +kernel, by decide +kernel⟩, by decide⟩
theorem kc_X1_188 : jKS RX1 188 mX1_placeOf 2 := ⟨kg721, kg722, kg5, kg723, ⟨by decide +kernel, by decide +kernel, by decide +kernel⟩, by decide⟩
theorem kc_X1_191 : jKN RX1 191 mX6_isArgument 1 := ⟨⟨"MacroBench", by decide +kernel⟩, kg715, kg1, kg716, ⟨by decide +kernel, by decide +kernel, by decide +kernel⟩, by decide⟩
theorem kc_X2_26 : jKN RX2 26 mX6_at 2 := ⟨⟨"MacroBench", by decide +kernel⟩, kg637, kg1, kg638, ⟨by decide +kernel, by decide +kernel, by decide +kernel⟩, by decide⟩
theorem kc_X3_37 : jKN RX3 37 mX6_at 2 := ⟨⟨"MacroBench", by decide +kernel⟩, kg637, kg1, kg638, ⟨by decide +kernel, by decide +kernel, by decide +kernel⟩, by decide⟩
theorem kc_X3_55 : jKN RX3 55 mX6_setAt 3 := ⟨⟨"MacroBench", by decide +kernel⟩, kg684, kg1, kg685, ⟨by decide +kernel, by decide +kernel, by decide +kernel⟩, by decide⟩
theorem kc_X3_59 : jKN RX3 59 mX6_isReference 1 := ⟨⟨"MacroBench", by decide +kernel⟩, kg787, kg1, kg788, ⟨by decide +kernel, by decide +kernel, by decide +kernel⟩, by decide⟩
theorem kc_X3_79 : jKS RX3 79 mX3_wordsToMultiple 2 := ⟨kg824, kg825, kg3, kg826, ⟨by decide +kernel, by decide +kernel, by decide +kernel⟩, by decide⟩
theorem kc_X3_85 : jKS RX3 85 mX3_isShortDistance 1 := ⟨kg847, kg848, kg3, kg849, ⟨by decide +kernel, by decide +kernel, by decide +kernel⟩, by decide⟩
theorem kc_X4_42 : jKS RX4 42 mJ7_fill_fda19 4 := ⟨kg289, kg290, kg18, kg291, ⟨by decide +kernel, by decide +kernel, by decide +kernel⟩, by decide⟩
theorem kc_X4_51 : jKN RX4 51 mX6_at 2 := ⟨⟨"MacroBench", by decide +kernel⟩, kg637, kg1, kg638, ⟨by decide +kernel, by decide +kernel, by decide +kernel⟩, by decide⟩
theorem kc_X4_70 : jKN RX4 70 mX6_setAt 3 := ⟨⟨"MacroBench", by decide +kernel⟩, kg684, kg1, kg685, ⟨by decide +kernel, by decide +kernel, by decide +kernel⟩, by decide⟩
theorem kc_X5_103 : jKN RX5 103 mX6_valueOfOperand 3 := ⟨⟨"MacroBench", by decide +kernel⟩, kg766, kg1, kg767, ⟨by decide +kernel, by decide +kernel, by decide +kernel⟩, by decide⟩
theorem kc_X5_113 : jKN RX5 113 mX6_isArgument 1 := ⟨⟨"MacroBench", by decide +kernel⟩, kg715, kg1, kg716, ⟨by decide +kernel, by decide +kernel, by decide +kernel⟩, by decide⟩
theorem kc_X5_40 : jKN RX5 40 mX6_at 2 := ⟨⟨"MacroBench", by decide +kernel⟩, kg637, kg1, kg638, ⟨by decide +kernel, by decide +kernel, by decide +kernel⟩, by decide⟩
theorem kc_X5_51 : jKN RX5 51 mX6_greatestOperand 1 := ⟨⟨"MacroBench", by decide +kernel⟩, kg708, kg1, kg709, ⟨by decide +kernel, by decide +kernel, by decide +kernel⟩, by decide⟩
theorem kc_X5_70 : jKN RX5 70 mX6_beginsGroup 1 := ⟨⟨"MacroBench", by decide +kernel⟩, kg734, kg1, kg735, ⟨by decide +kernel, by decide +kernel, by decide +kernel⟩, by decide⟩
theorem kc_X5_74 : jKN RX5 74 mX6_setAt 3 := ⟨⟨"MacroBench", by decide +kernel⟩, kg684, kg1, kg685, ⟨by decide +kernel, by decide +kernel, by decide +kernel⟩, by decide⟩
theorem kc_L_136 : jKS RL 136 mL_pick 3 := ⟨kg881, kg882, kg0, kg883, ⟨by decide +kernel, by decide +kernel, by decide +kernel⟩, by decide⟩
theorem kc_L_146 : jKS RL 146 mL_sum 1 := ⟨kg1078, kg1079, kg0, kg1080, ⟨by decide +kernel, by decide +kernel, by decide +kernel⟩, by decide⟩
theorem kc_L_150 : jKH RL 150 mL_label 2 := ⟨kg888, kg889, kg0, kg890, ⟨by decide +kernel, by decide +kernel, by decide +kernel⟩, by decide⟩
theorem kc_L_153 : jKH RL 153 mL_jump 2 := ⟨kg949, kg950, kg0, kg951, ⟨by decide +kernel, by decide +kernel, by decide +kernel⟩, by decide⟩
theorem kc_L_155 : jKH RL 155 mL_address 2 := ⟨kg956, kg957, kg0, kg958, ⟨by decide +kernel, by decide +kernel, by decide +kernel⟩, by decide⟩
theorem kc_L_157 : jKH RL 157 mL_operation 3 := ⟨kg939, kg940, kg0, kg941, ⟨by decide +kernel, by decide +kernel, by decide +kernel⟩, by decide⟩
theorem kc_L_160 : jKH RL 160 mL_align 2 := ⟨kg963, kg964, kg0, kg965, ⟨by decide +kernel, by decide +kernel, by decide +kernel⟩, by decide⟩
theorem kc_L_162 : jKH RL 162 mL_block 1 := ⟨kg999, kg1000, kg0, kg1001, ⟨by decide +kernel, by decide +kernel, by decide +kernel⟩, by decide⟩
theorem kc_L_164 : jKH RL 164 mL_when 3 := ⟨kg1013, kg1014, kg0, kg1015, ⟨by decide +kernel, by decide +kernel, by decide +kernel⟩, by decide⟩
theorem kc_L_166 : jKH RL 166 mL_loop 2 := ⟨kg1006, kg1007, kg0, kg1008, ⟨by decide +kernel, by decide +kernel, by decide +kernel⟩, by decide⟩
theorem kc_L_168 : jKH RL 168 mL_end 1 := ⟨kg1020, kg1021, kg0, kg1022, ⟨by decide +kernel, by decide +kernel, by decide +kernel⟩, by decide⟩
theorem kc_L_170 : jKH RL 170 mL_macro 1 := ⟨kg1053, kg1054, kg0, kg1055, ⟨by decide +kernel, by decide +kernel, by decide +kernel⟩, by decide⟩
theorem kc_L_172 : jKH RL 172 mL_endMacro 1 := ⟨kg1066, kg1067, kg0, kg1068, ⟨by decide +kernel, by decide +kernel, by decide +kernel⟩, by decide⟩
theorem kc_L_174 : jKH RL 174 mL_call 4 := ⟨kg971, kg972, kg0, kg973, ⟨by decide +kernel, by decide +kernel, by decide +kernel⟩, by decide⟩
theorem kc_L_177 : jKH RL 177 mL_word 2 := ⟨kg932, kg933, kg0, kg934, ⟨by decide +kernel, by decide +kernel, by decide +kernel⟩, by decide⟩
theorem kc_L_182 : jKS RL 182 mL_isFault 2 := ⟨kg1153, kg1154, kg0, kg1155, ⟨by decide +kernel, by decide +kernel, by decide +kernel⟩, by decide⟩
theorem kc_L_186 : jKS RL 186 mL_isWhole 2 := ⟨kg1196, kg1197, kg0, kg1198, ⟨by decide +kernel, by decide +kernel, by decide +kernel⟩, by decide⟩
theorem kc_L_193 : jKH RL 193 mL_fault 1 := ⟨kg1081, kg1082, kg0, kg1083, ⟨by decide +kernel, by decide +kernel, by decide +kernel⟩, by decide⟩
theorem kc_L_195 : jKH RL 195 mL_faultLine 1 := ⟨kg1089, kg1090, kg0, kg1091, ⟨by decide +kernel, by decide +kernel, by decide +kernel⟩, by decide⟩
theorem kc_L_197 : jKH RL 197 mL_words 1 := ⟨kg1101, kg1102, kg0, kg1103, ⟨by decide +kernel, by decide +kernel, by decide +kernel⟩, by decide⟩
theorem kc_L_199 : jKH RL 199 mL_items 1 := ⟨kg1113, kg1114, kg0, kg1115, ⟨by decide +kernel, by decide +kernel, by decide +kernel⟩, by decide⟩
theorem kc_L_201 : jKH RL 201 mL_wordAt 2 := ⟨kg1121, kg1122, kg0, kg1123, ⟨by decide +kernel, by decide +kernel, by decide +kernel⟩, by decide⟩
theorem kc_L_203 : jKH RL 203 mL_shortShare 1 := ⟨kg1156, kg1157, kg0, kg1158, ⟨by decide +kernel, by decide +kernel, by decide +kernel⟩, by decide⟩
theorem kc_L_206 : jKH RL 206 mL_labelAddress 2 := ⟨kg1186, kg1187, kg0, kg1188, ⟨by decide +kernel, by decide +kernel, by decide +kernel⟩, by decide⟩
theorem kc_L_208 : jKH RL 208 mL_itemsByCounting 1 := ⟨kg1199, kg1200, kg0, kg1201, ⟨by decide +kernel, by decide +kernel, by decide +kernel⟩, by decide⟩
theorem kc_L_211 : jKH RL 211 mL_passes 1 := ⟨kg1267, kg1268, kg0, kg1269, ⟨by decide +kernel, by decide +kernel, by decide +kernel⟩, by decide⟩
theorem kc_L_213 : jKH RL 213 mL_longJumps 1 := ⟨kg1278, kg1279, kg0, kg1280, ⟨by decide +kernel, by decide +kernel, by decide +kernel⟩, by decide⟩
theorem kc_L_215 : jKH RL 215 mL_kindOf 2 := ⟨kg1285, kg1286, kg0, kg1287, ⟨by decide +kernel, by decide +kernel, by decide +kernel⟩, by decide⟩
theorem kc_L_217 : jKH RL 217 mL_addressOf 2 := ⟨kg1298, kg1299, kg0, kg1300, ⟨by decide +kernel, by decide +kernel, by decide +kernel⟩, by decide⟩
theorem kc_L_219 : jKH RL 219 mL_targetOf 2 := ⟨kg1305, kg1306, kg0, kg1307, ⟨by decide +kernel, by decide +kernel, by decide +kernel⟩, by decide⟩
theorem kc_L_221 : jKH RL 221 mL_addressByAdding 2 := ⟨kg1314, kg1315, kg0, kg1316, ⟨by decide +kernel, by decide +kernel, by decide +kernel⟩, by decide⟩
theorem kc_L_223 : jKH RL 223 mL_lineOf 2 := ⟨kg1325, kg1326, kg0, kg1327, ⟨by decide +kernel, by decide +kernel, by decide +kernel⟩, by decide⟩
theorem kc_L_225 : jKH RL 225 mL_depthOf 2 := ⟨kg1333, kg1334, kg0, kg1335, ⟨by decide +kernel, by decide +kernel, by decide +kernel⟩, by decide⟩
theorem kc_L_227 : jKH RL 227 mL_loadedWord 3 := ⟨kg1344, kg1345, kg0, kg1346, ⟨by decide +kernel, by decide +kernel, by decide +kernel⟩, by decide⟩
theorem kc_L_229 : jKH RL 229 mL_relocations 1 := ⟨kg1356, kg1357, kg0, kg1358, ⟨by decide +kernel, by decide +kernel, by decide +kernel⟩, by decide⟩
theorem kc_L_8 : jKS RL 8 mL_cell 2 := ⟨kg884, kg885, kg0, kg886, ⟨by decide +kernel, by decide +kernel, by decide +kernel⟩, by decide⟩
theorem kc_J7_13 : jKS RJ7 13 mJ7_rangeCheck_23922 3 := ⟨kg292, kg293, kg18, kg294, ⟨by decide +kernel, by decide +kernel, by decide +kernel⟩, by decide⟩
theorem kc_X0_100 : jKV RX0 100 1 mX5_second 1 := ⟨5, _, RX5, TX5, 11, rfl, by decide, rfl, rfl, kg1240, kg725, kg726, kg2, kg727, ⟨by decide +kernel, by decide +kernel, by decide +kernel⟩, by decide⟩
theorem kc_X0_103 : jKV RX0 103 6 mX0_countMacro 3 := ⟨0, _, RX0, TX0, 5, rfl, by decide, rfl, rfl, kg1241, kg1243, kp27, kg7, kg1244, ⟨by decide +kernel, by decide +kernel, by decide +kernel⟩, by decide⟩
theorem kc_X0_112 : jKV RX0 112 6 mX0_placeOf 1 := ⟨0, _, RX0, TX0, 5, rfl, by decide, rfl, rfl, kg1251, kg1253, kp29, kg7, kg1254, ⟨by decide +kernel, by decide +kernel, by decide +kernel⟩, by decide⟩
theorem kc_X0_30 : jKV RX0 30 1 mX5_size 0 := ⟨5, _, RX5, TX5, 11, rfl, by decide, rfl, rfl, kg1214, kg254, kg255, kg2, kg256, ⟨by decide +kernel, by decide +kernel, by decide +kernel⟩, by decide⟩
theorem kc_X0_36 : jKV RX0 36 6 mX0_countLines 5 := ⟨0, _, RX0, TX0, 5, rfl, by decide, rfl, rfl, kg1215, kg1217, kp25, kg7, kg1218, ⟨by decide +kernel, by decide +kernel, by decide +kernel⟩, by decide⟩
theorem kc_X0_44 : jKV RX0 44 6 mX0_recall 1 := ⟨0, _, RX0, TX0, 5, rfl, by decide, rfl, rfl, kg1247, kg1249, kp28, kg7, kg1250, ⟨by decide +kernel, by decide +kernel, by decide +kernel⟩, by decide⟩
theorem kc_X0_48 : jKV RX0 48 1 mX5_macroLine 1 := ⟨5, _, RX5, TX5, 11, rfl, by decide, rfl, rfl, kg1257, kg753, kg754, kg2, kg755, ⟨by decide +kernel, by decide +kernel, by decide +kernel⟩, by decide⟩
theorem kc_X0_52 : jKV RX0 52 1 mX5_partner 1 := ⟨5, _, RX5, TX5, 11, rfl, by decide, rfl, rfl, kg1220, kg654, kg655, kg2, kg656, ⟨by decide +kernel, by decide +kernel, by decide +kernel⟩, by decide⟩
theorem kc_X0_55 : jKV RX0 55 6 mX0_remember 2 := ⟨0, _, RX0, TX0, 5, rfl, by decide, rfl, rfl, kg1258, kg1260, kp30, kg7, kg1261, ⟨by decide +kernel, by decide +kernel, by decide +kernel⟩, by decide⟩
theorem kc_X0_59 : jKV RX0 59 1 mX5_kind 1 := ⟨5, _, RX5, TX5, 11, rfl, by decide, rfl, rfl, kg1219, kg650, kg651, kg2, kg652, ⟨by decide +kernel, by decide +kernel, by decide +kernel⟩, by decide⟩
theorem kc_X0_76 : jKV RX0 76 1 mX5_rounds 3 := ⟨5, _, RX5, TX5, 11, rfl, by decide, rfl, rfl, kg1224, kg761, kg762, kg2, kg763, ⟨by decide +kernel, by decide +kernel, by decide +kernel⟩, by decide⟩
theorem kc_X0_87 : jKV RX0 87 6 mX0_countCall 4 := ⟨0, _, RX0, TX0, 5, rfl, by decide, rfl, rfl, kg1233, kg1235, kp26, kg7, kg1236, ⟨by decide +kernel, by decide +kernel, by decide +kernel⟩, by decide⟩
theorem kc_X0_91 : jKV RX0 91 1 mX5_fixed 1 := ⟨5, _, RX5, TX5, 11, rfl, by decide, rfl, rfl, kg1237, kg749, kg750, kg2, kg751, ⟨by decide +kernel, by decide +kernel, by decide +kernel⟩, by decide⟩
theorem kc_X0_94 : jKV RX0 94 1 mX5_first 1 := ⟨5, _, RX5, TX5, 11, rfl, by decide, rfl, rfl, kg1238, kg704, kg705, kg2, kg706, ⟨by decide +kernel, by decide +kernel, by decide +kernel⟩, by decide⟩
theorem kc_X1_101 : jKV RX1 101 4 mX1_faultAt 2 := ⟨1, _, RX1, TX1, 11, rfl, by decide, rfl, rfl, kg699, kg701, kp5, kg5, kg702, ⟨by decide +kernel, by decide +kernel, by decide +kernel⟩, by decide⟩
theorem kc_X1_105 : jKV RX1 105 4 mX1_enterMacro 1 := ⟨1, _, RX1, TX1, 11, rfl, by decide, rfl, rfl, kg740, kg742, kp9, kg5, kg743, ⟨by decide +kernel, by decide +kernel, by decide +kernel⟩, by decide⟩
theorem kc_X1_112 : jKV RX1 112 4 mX1_beginGroup 2 := ⟨1, _, RX1, TX1, 11, rfl, by decide, rfl, rfl, kg756, kg758, kp11, kg5, kg759, ⟨by decide +kernel, by decide +kernel, by decide +kernel⟩, by decide⟩
theorem kc_X1_115 : jKV RX1 115 4 mX1_addItem 2 := ⟨1, _, RX1, TX1, 11, rfl, by decide, rfl, rfl, kg770, kg772, kp12, kg5, kg773, ⟨by decide +kernel, by decide +kernel, by decide +kernel⟩, by decide⟩
theorem kc_X1_118 : jKV RX1 118 1 mX5_first 1 := ⟨5, _, RX5, TX5, 11, rfl, by decide, rfl, rfl, kg703, kg704, kg705, kg2, kg706, ⟨by decide +kernel, by decide +kernel, by decide +kernel⟩, by decide⟩
theorem kc_X1_124 : jKV RX1 124 4 mX1_valueOf 1 := ⟨1, _, RX1, TX1, 11, rfl, by decide, rfl, rfl, kg710, kg712, kp6, kg5, kg713, ⟨by decide +kernel, by decide +kernel, by decide +kernel⟩, by decide⟩
theorem kc_X1_127 : jKV RX1 127 1 mX5_second 1 := ⟨5, _, RX5, TX5, 11, rfl, by decide, rfl, rfl, kg724, kg725, kg726, kg2, kg727, ⟨by decide +kernel, by decide +kernel, by decide +kernel⟩, by decide⟩
theorem kc_X1_130 : jKV RX1 130 4 mX1_scopeOf 1 := ⟨1, _, RX1, TX1, 11, rfl, by decide, rfl, rfl, kg728, kg730, kp8, kg5, kg731, ⟨by decide +kernel, by decide +kernel, by decide +kernel⟩, by decide⟩
theorem kc_X1_133 : jKV RX1 133 3 mX4_labelIn 2 := ⟨4, _, RX4, TX4, 6, rfl, by decide, rfl, rfl, kg732, kg676, kg677, kg4, kg678, ⟨by decide +kernel, by decide +kernel, by decide +kernel⟩, by decide⟩
theorem kc_X1_136 : jKV RX1 136 2 mX3_isFull 0 := ⟨3, _, RX3, TX3, 8, rfl, by decide, rfl, rfl, kg736, kg737, kg738, kg3, kg739, ⟨by decide +kernel, by decide +kernel, by decide +kernel⟩, by decide⟩
theorem kc_X1_140 : jKV RX1 140 1 mX5_fixed 1 := ⟨5, _, RX5, TX5, 11, rfl, by decide, rfl, rfl, kg748, kg749, kg750, kg2, kg751, ⟨by decide +kernel, by decide +kernel, by decide +kernel⟩, by decide⟩
theorem kc_X1_147 : jKV RX1 147 2 mX3_add 4 := ⟨3, _, RX3, TX3, 8, rfl, by decide, rfl, rfl, kg777, kg778, kg779, kg3, kg780, ⟨by decide +kernel, by decide +kernel, by decide +kernel⟩, by decide⟩
theorem kc_X1_151 : jKV RX1 151 3 mX4_define 3 := ⟨4, _, RX4, TX4, 6, rfl, by decide, rfl, rfl, kg782, kg783, kg784, kg4, kg785, ⟨by decide +kernel, by decide +kernel, by decide +kernel⟩, by decide⟩
theorem kc_X1_158 : jKV RX1 158 3 mX4_setHome 2 := ⟨4, _, RX4, TX4, 6, rfl, by decide, rfl, rfl, kg789, kg687, kg688, kg4, kg689, ⟨by decide +kernel, by decide +kernel, by decide +kernel⟩, by decide⟩
theorem kc_X1_161 : jKV RX1 161 4 mX1_argument 1 := ⟨1, _, RX1, TX1, 11, rfl, by decide, rfl, rfl, kg717, kg719, kp7, kg5, kg720, ⟨by decide +kernel, by decide +kernel, by decide +kernel⟩, by decide⟩
theorem kc_X1_164 : jKV RX1 164 1 mX5_rounds 3 := ⟨5, _, RX5, TX5, 11, rfl, by decide, rfl, rfl, kg760, kg761, kg762, kg2, kg763, ⟨by decide +kernel, by decide +kernel, by decide +kernel⟩, by decide⟩
theorem kc_X1_167 : jKV RX1 167 3 mX4_current 0 := ⟨4, _, RX4, TX4, 6, rfl, by decide, rfl, rfl, kg697, kg666, kg667, kg4, kg668, ⟨by decide +kernel, by decide +kernel, by decide +kernel⟩, by decide⟩
theorem kc_X1_170 : jKV RX1 170 3 mX4_open 1 := ⟨4, _, RX4, TX4, 6, rfl, by decide, rfl, rfl, kg698, kg282, kg283, kg4, kg284, ⟨by decide +kernel, by decide +kernel, by decide +kernel⟩, by decide⟩
theorem kc_X1_182 : jKV RX1 182 4 mX1_pass 3 := ⟨1, _, RX1, TX1, 11, rfl, by decide, rfl, rfl, kg744, kg746, kp10, kg5, kg747, ⟨by decide +kernel, by decide +kernel, by decide +kernel⟩, by decide⟩
theorem kc_X1_185 : jKV RX1 185 1 mX5_macroLine 1 := ⟨5, _, RX5, TX5, 11, rfl, by decide, rfl, rfl, kg752, kg753, kg754, kg2, kg755, ⟨by decide +kernel, by decide +kernel, by decide +kernel⟩, by decide⟩
theorem kc_X1_43 : jKV RX1 43 2 mX3_removeAll 0 := ⟨3, _, RX3, TX3, 8, rfl, by decide, rfl, rfl, kg273, kg274, kg275, kg3, kg276, ⟨by decide +kernel, by decide +kernel, by decide +kernel⟩, by decide⟩
theorem kc_X1_48 : jKV RX1 48 3 mX4_reset 0 := ⟨4, _, RX4, TX4, 6, rfl, by decide, rfl, rfl, kg277, kg278, kg279, kg4, kg280, ⟨by decide +kernel, by decide +kernel, by decide +kernel⟩, by decide⟩
theorem kc_X1_59 : jKV RX1 59 1 mX5_unfinishedLine 0 := ⟨5, _, RX5, TX5, 11, rfl, by decide, rfl, rfl, kg632, kg633, kg634, kg2, kg635, ⟨by decide +kernel, by decide +kernel, by decide +kernel⟩, by decide⟩
theorem kc_X1_65 : jKV RX1 65 4 mX1_fail 2 := ⟨1, _, RX1, TX1, 11, rfl, by decide, rfl, rfl, kg639, kg641, kp1, kg5, kg642, ⟨by decide +kernel, by decide +kernel, by decide +kernel⟩, by decide⟩
theorem kc_X1_70 : jKV RX1 70 1 mX5_size 0 := ⟨5, _, RX5, TX5, 11, rfl, by decide, rfl, rfl, kg644, kg254, kg255, kg2, kg256, ⟨by decide +kernel, by decide +kernel, by decide +kernel⟩, by decide⟩
theorem kc_X1_73 : jKV RX1 73 4 mX1_expandLine 1 := ⟨1, _, RX1, TX1, 11, rfl, by decide, rfl, rfl, kg645, kg647, kp2, kg5, kg648, ⟨by decide +kernel, by decide +kernel, by decide +kernel⟩, by decide⟩
theorem kc_X1_77 : jKV RX1 77 4 mX1_findNames 0 := ⟨1, _, RX1, TX1, 11, rfl, by decide, rfl, rfl, kg790, kg792, kp13, kg5, kg793, ⟨by decide +kernel, by decide +kernel, by decide +kernel⟩, by decide⟩
theorem kc_X1_80 : jKV RX1 80 3 mX4_close 0 := ⟨4, _, RX4, TX4, 6, rfl, by decide, rfl, rfl, kg661, kg662, kg663, kg4, kg664, ⟨by decide +kernel, by decide +kernel, by decide +kernel⟩, by decide⟩
theorem kc_X1_83 : jKV RX1 83 2 mX3_firstWithoutTarget 0 := ⟨3, _, RX3, TX3, 8, rfl, by decide, rfl, rfl, kg794, kg795, kg796, kg3, kg797, ⟨by decide +kernel, by decide +kernel, by decide +kernel⟩, by decide⟩
theorem kc_X1_86 : jKV RX1 86 2 mX3_line 1 := ⟨3, _, RX3, TX3, 8, rfl, by decide, rfl, rfl, kg799, kg800, kg801, kg3, kg802, ⟨by decide +kernel, by decide +kernel, by decide +kernel⟩, by decide⟩
theorem kc_X1_89 : jKV RX1 89 1 mX5_kind 1 := ⟨5, _, RX5, TX5, 11, rfl, by decide, rfl, rfl, kg649, kg650, kg651, kg2, kg652, ⟨by decide +kernel, by decide +kernel, by decide +kernel⟩, by decide⟩
theorem kc_X1_92 : jKV RX1 92 1 mX5_partner 1 := ⟨5, _, RX5, TX5, 11, rfl, by decide, rfl, rfl, kg653, kg654, kg655, kg2, kg656, ⟨by decide +kernel, by decide +kernel, by decide +kernel⟩, by decide⟩
theorem kc_X1_95 : jKV RX1 95 4 mX1_leaveMacro 1 := ⟨1, _, RX1, TX1, 11, rfl, by decide, rfl, rfl, kg657, kg659, kp3, kg5, kg660, ⟨by decide +kernel, by decide +kernel, by decide +kernel⟩, by decide⟩
theorem kc_X1_98 : jKV RX1 98 4 mX1_endRound 1 := ⟨1, _, RX1, TX1, 11, rfl, by decide, rfl, rfl, kg692, kg694, kp4, kg5, kg695, ⟨by decide +kernel, by decide +kernel, by decide +kernel⟩, by decide⟩
theorem kc_X2_30 : jKV RX2 30 2 mX3_size 0 := ⟨3, _, RX3, TX3, 8, rfl, by decide, rfl, rfl, kg854, kg286, kg287, kg3, kg288, ⟨by decide +kernel, by decide +kernel, by decide +kernel⟩, by decide⟩
theorem kc_X2_36 : jKV RX2 36 5 mX2_writeItem 2 := ⟨2, _, RX2, TX2, 4, rfl, by decide, rfl, rfl, kg855, kg857, kp16, kg6, kg858, ⟨by decide +kernel, by decide +kernel, by decide +kernel⟩, by decide⟩
theorem kc_X2_40 : jKV RX2 40 2 mX3_kind 1 := ⟨3, _, RX3, TX3, 8, rfl, by decide, rfl, rfl, kg859, kg820, kg821, kg3, kg822, ⟨by decide +kernel, by decide +kernel, by decide +kernel⟩, by decide⟩
theorem kc_X2_44 : jKV RX2 44 2 mX3_value 1 := ⟨3, _, RX3, TX3, 8, rfl, by decide, rfl, rfl, kg860, kg671, kg672, kg3, kg673, ⟨by decide +kernel, by decide +kernel, by decide +kernel⟩, by decide⟩
theorem kc_X2_47 : jKV RX2 47 5 mX2_put 1 := ⟨2, _, RX2, TX2, 4, rfl, by decide, rfl, rfl, kg861, kg863, kp17, kg6, kg864, ⟨by decide +kernel, by decide +kernel, by decide +kernel⟩, by decide⟩
theorem kc_X2_51 : jKV RX2 51 2 mX3_targetAddress 1 := ⟨3, _, RX3, TX3, 8, rfl, by decide, rfl, rfl, kg865, kg836, kg837, kg3, kg838, ⟨by decide +kernel, by decide +kernel, by decide +kernel⟩, by decide⟩
theorem kc_X2_54 : jKV RX2 54 5 mX2_putAddress 1 := ⟨2, _, RX2, TX2, 4, rfl, by decide, rfl, rfl, kg866, kg868, kp18, kg6, kg869, ⟨by decide +kernel, by decide +kernel, by decide +kernel⟩, by decide⟩
theorem kc_X2_57 : jKV RX2 57 2 mX3_distance 1 := ⟨3, _, RX3, TX3, 8, rfl, by decide, rfl, rfl, kg870, kg832, kg833, kg3, kg834, ⟨by decide +kernel, by decide +kernel, by decide +kernel⟩, by decide⟩
theorem kc_X2_60 : jKV RX2 60 2 mX3_addressAt 1 := ⟨3, _, RX3, TX3, 8, rfl, by decide, rfl, rfl, kg871, kg844, kg845, kg3, kg846, ⟨by decide +kernel, by decide +kernel, by decide +kernel⟩, by decide⟩
theorem kc_X2_63 : jKV RX2 63 2 mX3_wordsTaken 2 := ⟨3, _, RX3, TX3, 8, rfl, by decide, rfl, rfl, kg872, kg816, kg817, kg3, kg818, ⟨by decide +kernel, by decide +kernel, by decide +kernel⟩, by decide⟩
theorem kc_X2_67 : jKV RX2 67 5 mX2_fill 1 := ⟨2, _, RX2, TX2, 4, rfl, by decide, rfl, rfl, kg873, kg875, kp19, kg6, kg876, ⟨by decide +kernel, by decide +kernel, by decide +kernel⟩, by decide⟩
theorem kc_X3_41 : jKV RX3 41 2 mX3_target 1 := ⟨3, _, RX3, TX3, 8, rfl, by decide, rfl, rfl, kg839, kg840, kg841, kg3, kg842, ⟨by decide +kernel, by decide +kernel, by decide +kernel⟩, by decide⟩
theorem kc_X3_45 : jKV RX3 45 2 mX3_addressAt 1 := ⟨3, _, RX3, TX3, 8, rfl, by decide, rfl, rfl, kg843, kg844, kg845, kg3, kg846, ⟨by decide +kernel, by decide +kernel, by decide +kernel⟩, by decide⟩
theorem kc_X3_48 : jKV RX3 48 2 mX3_targetAddress 1 := ⟨3, _, RX3, TX3, 8, rfl, by decide, rfl, rfl, kg835, kg836, kg837, kg3, kg838, ⟨by decide +kernel, by decide +kernel, by decide +kernel⟩, by decide⟩
theorem kc_X3_51 : jKV RX3 51 2 mX3_isFull 0 := ⟨3, _, RX3, TX3, 8, rfl, by decide, rfl, rfl, kg781, kg737, kg738, kg3, kg739, ⟨by decide +kernel, by decide +kernel, by decide +kernel⟩, by decide⟩
theorem kc_X3_63 : jKV RX3 63 2 mX3_wordsTaken 2 := ⟨3, _, RX3, TX3, 8, rfl, by decide, rfl, rfl, kg815, kg816, kg817, kg3, kg818, ⟨by decide +kernel, by decide +kernel, by decide +kernel⟩, by decide⟩
theorem kc_X3_67 : jKV RX3 67 2 mX3_findAddresses 0 := ⟨3, _, RX3, TX3, 8, rfl, by decide, rfl, rfl, kg811, kg813, kp14, kg3, kg814, ⟨by decide +kernel, by decide +kernel, by decide +kernel⟩, by decide⟩
theorem kc_X3_70 : jKV RX3 70 2 mX3_lengthenJumps 0 := ⟨3, _, RX3, TX3, 8, rfl, by decide, rfl, rfl, kg827, kg829, kp15, kg3, kg830, ⟨by decide +kernel, by decide +kernel, by decide +kernel⟩, by decide⟩
theorem kc_X3_73 : jKV RX3 73 2 mX3_kind 1 := ⟨3, _, RX3, TX3, 8, rfl, by decide, rfl, rfl, kg819, kg820, kg821, kg3, kg822, ⟨by decide +kernel, by decide +kernel, by decide +kernel⟩, by decide⟩
theorem kc_X3_76 : jKV RX3 76 2 mX3_value 1 := ⟨3, _, RX3, TX3, 8, rfl, by decide, rfl, rfl, kg823, kg671, kg672, kg3, kg673, ⟨by decide +kernel, by decide +kernel, by decide +kernel⟩, by decide⟩
theorem kc_X3_82 : jKV RX3 82 2 mX3_distance 1 := ⟨3, _, RX3, TX3, 8, rfl, by decide, rfl, rfl, kg831, kg832, kg833, kg3, kg834, ⟨by decide +kernel, by decide +kernel, by decide +kernel⟩, by decide⟩
theorem kc_X4_32 : jKV RX4 32 3 mX4_open 1 := ⟨4, _, RX4, TX4, 6, rfl, by decide, rfl, rfl, kg281, kg282, kg283, kg4, kg284, ⟨by decide +kernel, by decide +kernel, by decide +kernel⟩, by decide⟩
theorem kc_X4_36 : jKV RX4 36 2 mX3_size 0 := ⟨3, _, RX3, TX3, 8, rfl, by decide, rfl, rfl, kg285, kg286, kg287, kg3, kg288, ⟨by decide +kernel, by decide +kernel, by decide +kernel⟩, by decide⟩
theorem kc_X4_48 : jKV RX4 48 3 mX4_current 0 := ⟨4, _, RX4, TX4, 6, rfl, by decide, rfl, rfl, kg665, kg666, kg667, kg4, kg668, ⟨by decide +kernel, by decide +kernel, by decide +kernel⟩, by decide⟩
theorem kc_X4_55 : jKV RX4 55 2 mX3_value 1 := ⟨3, _, RX3, TX3, 8, rfl, by decide, rfl, rfl, kg670, kg671, kg672, kg3, kg673, ⟨by decide +kernel, by decide +kernel, by decide +kernel⟩, by decide⟩
theorem kc_X4_59 : jKV RX4 59 3 mX4_labelIn 2 := ⟨4, _, RX4, TX4, 6, rfl, by decide, rfl, rfl, kg675, kg676, kg677, kg4, kg678, ⟨by decide +kernel, by decide +kernel, by decide +kernel⟩, by decide⟩
theorem kc_X4_63 : jKV RX4 63 2 mX3_aim 2 := ⟨3, _, RX3, TX3, 8, rfl, by decide, rfl, rfl, kg679, kg680, kg681, kg3, kg682, ⟨by decide +kernel, by decide +kernel, by decide +kernel⟩, by decide⟩
theorem kc_X4_67 : jKV RX4 67 3 mX4_setHome 2 := ⟨4, _, RX4, TX4, 6, rfl, by decide, rfl, rfl, kg686, kg687, kg688, kg4, kg689, ⟨by decide +kernel, by decide +kernel, by decide +kernel⟩, by decide⟩
theorem kc_X5_100 : jKV RX5 100 1 mX5_first 1 := ⟨5, _, RX5, TX5, 11, rfl, by decide, rfl, rfl, kg764, kg704, kg705, kg2, kg706, ⟨by decide +kernel, by decide +kernel, by decide +kernel⟩, by decide⟩
theorem kc_X5_107 : jKV RX5 107 1 mX5_second 1 := ⟨5, _, RX5, TX5, 11, rfl, by decide, rfl, rfl, kg768, kg725, kg726, kg2, kg727, ⟨by decide +kernel, by decide +kernel, by decide +kernel⟩, by decide⟩
theorem kc_X5_110 : jKV RX5 110 1 mX5_kind 1 := ⟨5, _, RX5, TX5, 11, rfl, by decide, rfl, rfl, kg769, kg650, kg651, kg2, kg652, ⟨by decide +kernel, by decide +kernel, by decide +kernel⟩, by decide⟩
theorem kc_X5_55 : jKV RX5 55 1 mX5_isOperand 2 := ⟨5, _, RX5, TX5, 11, rfl, by decide, rfl, rfl, kg902, kg904, kp20, kg2, kg905, ⟨by decide +kernel, by decide +kernel, by decide +kernel⟩, by decide⟩
theorem kc_X5_66 : jKV RX5 66 1 mX5_append 4 := ⟨5, _, RX5, TX5, 11, rfl, by decide, rfl, rfl, kg910, kg912, kp21, kg2, kg913, ⟨by decide +kernel, by decide +kernel, by decide +kernel⟩, by decide⟩
theorem kc_X5_83 : jKV RX5 83 1 mX5_unfinishedLine 0 := ⟨5, _, RX5, TX5, 11, rfl, by decide, rfl, rfl, kg1048, kg633, kg634, kg2, kg635, ⟨by decide +kernel, by decide +kernel, by decide +kernel⟩, by decide⟩
theorem kc_X5_87 : jKV RX5 87 1 mX5_pair 2 := ⟨5, _, RX5, TX5, 11, rfl, by decide, rfl, rfl, kg1049, kg1051, kp22, kg2, kg1052, ⟨by decide +kernel, by decide +kernel, by decide +kernel⟩, by decide⟩
theorem kc_X6_101 : jKV RX6 101 4 mX1_expandProgram 0 := ⟨1, _, RX1, TX1, 11, rfl, by decide, rfl, rfl, kg269, kg270, kg271, kg5, kg272, ⟨by decide +kernel, by decide +kernel, by decide +kernel⟩, by decide⟩
theorem kc_X6_104 : jKV RX6 104 4 mX1_faultKind 0 := ⟨1, _, RX1, TX1, 11, rfl, by decide, rfl, rfl, kg803, kg804, kg805, kg5, kg806, ⟨by decide +kernel, by decide +kernel, by decide +kernel⟩, by decide⟩
theorem kc_X6_107 : jKV RX6 107 2 mX3_place 0 := ⟨3, _, RX3, TX3, 8, rfl, by decide, rfl, rfl, kg807, kg808, kg809, kg3, kg810, ⟨by decide +kernel, by decide +kernel, by decide +kernel⟩, by decide⟩
theorem kc_X6_110 : jKV RX6 110 5 mX2_write 1 := ⟨2, _, RX2, TX2, 4, rfl, by decide, rfl, rfl, kg850, kg851, kg852, kg6, kg853, ⟨by decide +kernel, by decide +kernel, by decide +kernel⟩, by decide⟩
theorem kc_X6_113 : jKV RX6 113 5 mX2_size 0 := ⟨2, _, RX2, TX2, 4, rfl, by decide, rfl, rfl, kg877, kg878, kg879, kg6, kg880, ⟨by decide +kernel, by decide +kernel, by decide +kernel⟩, by decide⟩
theorem kc_X6_118 : jKV RX6 118 4 mX1_lineOfFault 0 := ⟨1, _, RX1, TX1, 11, rfl, by decide, rfl, rfl, kg1097, kg1098, kg1099, kg5, kg1100, ⟨by decide +kernel, by decide +kernel, by decide +kernel⟩, by decide⟩
theorem kc_X6_121 : jKV RX6 121 1 mX5_unfinishedLine 0 := ⟨5, _, RX5, TX5, 11, rfl, by decide, rfl, rfl, kg1206, kg633, kg634, kg2, kg635, ⟨by decide +kernel, by decide +kernel, by decide +kernel⟩, by decide⟩
theorem kc_X6_129 : jKV RX6 129 6 mX0_countProgram 0 := ⟨0, _, RX0, TX0, 5, rfl, by decide, rfl, rfl, kg1210, kg1211, kg1212, kg7, kg1213, ⟨by decide +kernel, by decide +kernel, by decide +kernel⟩, by decide⟩
theorem kc_X6_137 : jKV RX6 137 0 mX6_requireProgram 0 := ⟨6, _, RX6, TX6, 6, rfl, by decide, rfl, rfl, kg1108, kg1110, kp23, kg1, kg1111, ⟨by decide +kernel, by decide +kernel, by decide +kernel⟩, by decide⟩
theorem kc_X6_140 : jKV RX6 140 0 mX6_requireWord 1 := ⟨6, _, RX6, TX6, 6, rfl, by decide, rfl, rfl, kg1131, kg1133, kp24, kg1, kg1134, ⟨by decide +kernel, by decide +kernel, by decide +kernel⟩, by decide⟩
theorem kc_X6_144 : jKV RX6 144 5 mX2_wordOf 1 := ⟨2, _, RX2, TX2, 4, rfl, by decide, rfl, rfl, kg1148, kg1149, kg1150, kg6, kg1151, ⟨by decide +kernel, by decide +kernel, by decide +kernel⟩, by decide⟩
theorem kc_X6_148 : jKV RX6 148 5 mX2_sizeOfRelocations 0 := ⟨2, _, RX2, TX2, 4, rfl, by decide, rfl, rfl, kg1363, kg1364, kg1365, kg6, kg1366, ⟨by decide +kernel, by decide +kernel, by decide +kernel⟩, by decide⟩
theorem kc_X6_153 : jKV RX6 153 5 mX2_holdsAddress 1 := ⟨2, _, RX2, TX2, 4, rfl, by decide, rfl, rfl, kg1352, kg1353, kg1354, kg6, kg1355, ⟨by decide +kernel, by decide +kernel, by decide +kernel⟩, by decide⟩
theorem kc_X6_156 : jKV RX6 156 3 mX4_labelIn 2 := ⟨4, _, RX4, TX4, 6, rfl, by decide, rfl, rfl, kg1193, kg676, kg677, kg4, kg678, ⟨by decide +kernel, by decide +kernel, by decide +kernel⟩, by decide⟩
theorem kc_X6_162 : jKV RX6 162 2 mX3_addressAt 1 := ⟨3, _, RX3, TX3, 8, rfl, by decide, rfl, rfl, kg1195, kg844, kg845, kg3, kg846, ⟨by decide +kernel, by decide +kernel, by decide +kernel⟩, by decide⟩
theorem kc_X6_165 : jKV RX6 165 2 mX3_sizeOfPasses 0 := ⟨3, _, RX3, TX3, 8, rfl, by decide, rfl, rfl, kg1274, kg1275, kg1276, kg3, kg1277, ⟨by decide +kernel, by decide +kernel, by decide +kernel⟩, by decide⟩
theorem kc_X6_168 : jKV RX6 168 2 mX3_countKind 1 := ⟨3, _, RX3, TX3, 8, rfl, by decide, rfl, rfl, kg1177, kg1178, kg1179, kg3, kg1180, ⟨by decide +kernel, by decide +kernel, by decide +kernel⟩, by decide⟩
theorem kc_X6_171 : jKV RX6 171 2 mX3_size 0 := ⟨3, _, RX3, TX3, 8, rfl, by decide, rfl, rfl, kg1120, kg286, kg287, kg3, kg288, ⟨by decide +kernel, by decide +kernel, by decide +kernel⟩, by decide⟩
theorem kc_X6_172 : jKV RX6 172 0 mX6_requireItem 1 := ⟨6, _, RX6, TX6, 6, rfl, by decide, rfl, rfl, kg1292, kg1294, kp31, kg1, kg1295, ⟨by decide +kernel, by decide +kernel, by decide +kernel⟩, by decide⟩
theorem kc_X6_175 : jKV RX6 175 2 mX3_line 1 := ⟨3, _, RX3, TX3, 8, rfl, by decide, rfl, rfl, kg1332, kg800, kg801, kg3, kg802, ⟨by decide +kernel, by decide +kernel, by decide +kernel⟩, by decide⟩
theorem kc_X6_178 : jKV RX6 178 2 mX3_kind 1 := ⟨3, _, RX3, TX3, 8, rfl, by decide, rfl, rfl, kg1297, kg820, kg821, kg3, kg822, ⟨by decide +kernel, by decide +kernel, by decide +kernel⟩, by decide⟩
theorem kc_X6_181 : jKV RX6 181 2 mX3_depth 1 := ⟨3, _, RX3, TX3, 8, rfl, by decide, rfl, rfl, kg1340, kg1341, kg1342, kg3, kg1343, ⟨by decide +kernel, by decide +kernel, by decide +kernel⟩, by decide⟩
theorem kc_X6_184 : jKV RX6 184 2 mX3_wordsBefore 1 := ⟨3, _, RX3, TX3, 8, rfl, by decide, rfl, rfl, kg1321, kg1322, kg1323, kg3, kg1324, ⟨by decide +kernel, by decide +kernel, by decide +kernel⟩, by decide⟩
theorem kc_X6_187 : jKV RX6 187 2 mX3_target 1 := ⟨3, _, RX3, TX3, 8, rfl, by decide, rfl, rfl, kg1312, kg840, kg841, kg3, kg842, ⟨by decide +kernel, by decide +kernel, by decide +kernel⟩, by decide⟩
theorem kc_X6_57 : jKV RX6 57 1 mX5_feed 4 := ⟨5, _, RX5, TX5, 11, rfl, by decide, rfl, rfl, kg897, kg898, kg899, kg2, kg900, ⟨by decide +kernel, by decide +kernel, by decide +kernel⟩, by decide⟩
theorem kc_X6_70 : jKV RX6 70 1 mX5_isEndedMacro 1 := ⟨5, _, RX5, TX5, 11, rfl, by decide, rfl, rfl, kg979, kg980, kg981, kg2, kg982, ⟨by decide +kernel, by decide +kernel, by decide +kernel⟩, by decide⟩
theorem kc_X6_79 : jKV RX6 79 1 mX5_endGroup 0 := ⟨5, _, RX5, TX5, 11, rfl, by decide, rfl, rfl, kg1028, kg1029, kg1030, kg2, kg1031, ⟨by decide +kernel, by decide +kernel, by decide +kernel⟩, by decide⟩
theorem kc_X6_83 : jKV RX6 83 1 mX5_beginMacro 0 := ⟨5, _, RX5, TX5, 11, rfl, by decide, rfl, rfl, kg1060, kg1061, kg1062, kg2, kg1063, ⟨by decide +kernel, by decide +kernel, by decide +kernel⟩, by decide⟩
theorem kc_X6_86 : jKV RX6 86 1 mX5_finishMacro 0 := ⟨5, _, RX5, TX5, 11, rfl, by decide, rfl, rfl, kg1073, kg1074, kg1075, kg2, kg1076, ⟨by decide +kernel, by decide +kernel, by decide +kernel⟩, by decide⟩
theorem kc_X6_89 : jKV RX6 89 6 mX0_forgetMacros 0 := ⟨0, _, RX0, TX0, 5, rfl, by decide, rfl, rfl, kg241, kg242, kg243, kg7, kg244, ⟨by decide +kernel, by decide +kernel, by decide +kernel⟩, by decide⟩
theorem kc_X6_92 : jKV RX6 92 1 mX5_removeAll 0 := ⟨5, _, RX5, TX5, 11, rfl, by decide, rfl, rfl, kg245, kg246, kg247, kg2, kg248, ⟨by decide +kernel, by decide +kernel, by decide +kernel⟩, by decide⟩
theorem kc_X6_95 : jKV RX6 95 1 mX5_size 0 := ⟨5, _, RX5, TX5, 11, rfl, by decide, rfl, rfl, kg253, kg254, kg255, kg2, kg256, ⟨by decide +kernel, by decide +kernel, by decide +kernel⟩, by decide⟩
theorem kc_X6_98 : jKV RX6 98 1 mX5_sizeOfMacros 0 := ⟨5, _, RX5, TX5, 11, rfl, by decide, rfl, rfl, kg261, kg262, kg263, kg2, kg264, ⟨by decide +kernel, by decide +kernel, by decide +kernel⟩, by decide⟩
theorem kc_L_102 : jKV RL 102 0 mX6_longJumps 0 := ⟨6, _, RX6, TX6, 6, rfl, by decide, rfl, rfl, kg1281, kg1282, kg1283, kg1, kg1284, ⟨by decide +kernel, by decide +kernel, by decide +kernel⟩, by decide⟩
theorem kc_L_105 : jKV RL 105 0 mX6_items 0 := ⟨6, _, RX6, TX6, 6, rfl, by decide, rfl, rfl, kg1116, kg1117, kg1118, kg1, kg1119, ⟨by decide +kernel, by decide +kernel, by decide +kernel⟩, by decide⟩
theorem kc_L_108 : jKV RL 108 0 mX6_lineOf 1 := ⟨6, _, RX6, TX6, 6, rfl, by decide, rfl, rfl, kg1328, kg1329, kg1330, kg1, kg1331, ⟨by decide +kernel, by decide +kernel, by decide +kernel⟩, by decide⟩
theorem kc_L_111 : jKV RL 111 0 mX6_kindOf 1 := ⟨6, _, RX6, TX6, 6, rfl, by decide, rfl, rfl, kg1288, kg1289, kg1290, kg1, kg1291, ⟨by decide +kernel, by decide +kernel, by decide +kernel⟩, by decide⟩
theorem kc_L_115 : jKV RL 115 0 mX6_depthOf 1 := ⟨6, _, RX6, TX6, 6, rfl, by decide, rfl, rfl, kg1336, kg1337, kg1338, kg1, kg1339, ⟨by decide +kernel, by decide +kernel, by decide +kernel⟩, by decide⟩
theorem kc_L_118 : jKV RL 118 0 mX6_addressOf 1 := ⟨6, _, RX6, TX6, 6, rfl, by decide, rfl, rfl, kg1301, kg1302, kg1303, kg1, kg1304, ⟨by decide +kernel, by decide +kernel, by decide +kernel⟩, by decide⟩
theorem kc_L_121 : jKV RL 121 0 mX6_addressByAdding 1 := ⟨6, _, RX6, TX6, 6, rfl, by decide, rfl, rfl, kg1317, kg1318, kg1319, kg1, kg1320, ⟨by decide +kernel, by decide +kernel, by decide +kernel⟩, by decide⟩
theorem kc_L_124 : jKV RL 124 0 mX6_targetOf 1 := ⟨6, _, RX6, TX6, 6, rfl, by decide, rfl, rfl, kg1308, kg1309, kg1310, kg1, kg1311, ⟨by decide +kernel, by decide +kernel, by decide +kernel⟩, by decide⟩
theorem kc_L_127 : jKV RL 127 0 mX6_shortShare 0 := ⟨6, _, RX6, TX6, 6, rfl, by decide, rfl, rfl, kg1173, kg1174, kg1175, kg1, kg1176, ⟨by decide +kernel, by decide +kernel, by decide +kernel⟩, by decide⟩
theorem kc_L_14 : jKV RL 14 0 mX6_label 1 := ⟨6, _, RX6, TX6, 6, rfl, by decide, rfl, rfl, kg893, kg894, kg895, kg1, kg896, ⟨by decide +kernel, by decide +kernel, by decide +kernel⟩, by decide⟩
theorem kc_L_140 : jKV RL 140 0 mX6_lines 0 := ⟨6, _, RX6, TX6, 6, rfl, by decide, rfl, rfl, kg249, kg250, kg251, kg1, kg252, ⟨by decide +kernel, by decide +kernel, by decide +kernel⟩, by decide⟩
theorem kc_L_143 : jKV RL 143 0 mX6_macros 0 := ⟨6, _, RX6, TX6, 6, rfl, by decide, rfl, rfl, kg257, kg258, kg259, kg1, kg260, ⟨by decide +kernel, by decide +kernel, by decide +kernel⟩, by decide⟩
theorem kc_L_179 : jKV RL 179 0 mX6_assemble 0 := ⟨6, _, RX6, TX6, 6, rfl, by decide, rfl, rfl, kg265, kg266, kg267, kg1, kg268, ⟨by decide +kernel, by decide +kernel, by decide +kernel⟩, by decide⟩
theorem kc_L_190 : jKV RL 190 0 mX6_clear 0 := ⟨6, _, RX6, TX6, 6, rfl, by decide, rfl, rfl, kg237, kg238, kg239, kg1, kg240, ⟨by decide +kernel, by decide +kernel, by decide +kernel⟩, by decide⟩
theorem kc_L_24 : jKV RL 24 0 mX6_word 1 := ⟨6, _, RX6, TX6, 6, rfl, by decide, rfl, rfl, kg935, kg936, kg937, kg1, kg938, ⟨by decide +kernel, by decide +kernel, by decide +kernel⟩, by decide⟩
theorem kc_L_27 : jKV RL 27 0 mX6_operation 2 := ⟨6, _, RX6, TX6, 6, rfl, by decide, rfl, rfl, kg942, kg943, kg944, kg1, kg945, ⟨by decide +kernel, by decide +kernel, by decide +kernel⟩, by decide⟩
theorem kc_L_31 : jKV RL 31 0 mX6_jump 1 := ⟨6, _, RX6, TX6, 6, rfl, by decide, rfl, rfl, kg952, kg953, kg954, kg1, kg955, ⟨by decide +kernel, by decide +kernel, by decide +kernel⟩, by decide⟩
theorem kc_L_34 : jKV RL 34 0 mX6_address 1 := ⟨6, _, RX6, TX6, 6, rfl, by decide, rfl, rfl, kg959, kg960, kg961, kg1, kg962, ⟨by decide +kernel, by decide +kernel, by decide +kernel⟩, by decide⟩
theorem kc_L_37 : jKV RL 37 0 mX6_align 1 := ⟨6, _, RX6, TX6, 6, rfl, by decide, rfl, rfl, kg966, kg967, kg968, kg1, kg969, ⟨by decide +kernel, by decide +kernel, by decide +kernel⟩, by decide⟩
theorem kc_L_40 : jKV RL 40 0 mX6_call 3 := ⟨6, _, RX6, TX6, 6, rfl, by decide, rfl, rfl, kg975, kg976, kg977, kg1, kg978, ⟨by decide +kernel, by decide +kernel, by decide +kernel⟩, by decide⟩
theorem kc_L_46 : jKV RL 46 0 mX6_block 0 := ⟨6, _, RX6, TX6, 6, rfl, by decide, rfl, rfl, kg1002, kg1003, kg1004, kg1, kg1005, ⟨by decide +kernel, by decide +kernel, by decide +kernel⟩, by decide⟩
theorem kc_L_50 : jKV RL 50 0 mX6_loop 1 := ⟨6, _, RX6, TX6, 6, rfl, by decide, rfl, rfl, kg1009, kg1010, kg1011, kg1, kg1012, ⟨by decide +kernel, by decide +kernel, by decide +kernel⟩, by decide⟩
theorem kc_L_53 : jKV RL 53 0 mX6_when 2 := ⟨6, _, RX6, TX6, 6, rfl, by decide, rfl, rfl, kg1016, kg1017, kg1018, kg1, kg1019, ⟨by decide +kernel, by decide +kernel, by decide +kernel⟩, by decide⟩
theorem kc_L_56 : jKV RL 56 0 mX6_end 0 := ⟨6, _, RX6, TX6, 6, rfl, by decide, rfl, rfl, kg1024, kg1025, kg1026, kg1, kg1027, ⟨by decide +kernel, by decide +kernel, by decide +kernel⟩, by decide⟩
theorem kc_L_61 : jKV RL 61 0 mX6_macro 0 := ⟨6, _, RX6, TX6, 6, rfl, by decide, rfl, rfl, kg1056, kg1057, kg1058, kg1, kg1059, ⟨by decide +kernel, by decide +kernel, by decide +kernel⟩, by decide⟩
theorem kc_L_64 : jKV RL 64 0 mX6_endMacro 0 := ⟨6, _, RX6, TX6, 6, rfl, by decide, rfl, rfl, kg1069, kg1070, kg1071, kg1, kg1072, ⟨by decide +kernel, by decide +kernel, by decide +kernel⟩, by decide⟩
theorem kc_L_67 : jKV RL 67 0 mX6_fault 0 := ⟨6, _, RX6, TX6, 6, rfl, by decide, rfl, rfl, kg1084, kg1085, kg1086, kg1, kg1087, ⟨by decide +kernel, by decide +kernel, by decide +kernel⟩, by decide⟩
theorem kc_L_71 : jKV RL 71 0 mX6_faultLine 0 := ⟨6, _, RX6, TX6, 6, rfl, by decide, rfl, rfl, kg1092, kg1093, kg1094, kg1, kg1095, ⟨by decide +kernel, by decide +kernel, by decide +kernel⟩, by decide⟩
theorem kc_L_74 : jKV RL 74 0 mX6_itemsByCounting 0 := ⟨6, _, RX6, TX6, 6, rfl, by decide, rfl, rfl, kg1202, kg1203, kg1204, kg1, kg1205, ⟨by decide +kernel, by decide +kernel, by decide +kernel⟩, by decide⟩
theorem kc_L_82 : jKV RL 82 0 mX6_words 0 := ⟨6, _, RX6, TX6, 6, rfl, by decide, rfl, rfl, kg1104, kg1105, kg1106, kg1, kg1107, ⟨by decide +kernel, by decide +kernel, by decide +kernel⟩, by decide⟩
theorem kc_L_85 : jKV RL 85 0 mX6_wordAt 1 := ⟨6, _, RX6, TX6, 6, rfl, by decide, rfl, rfl, kg1127, kg1128, kg1129, kg1, kg1130, ⟨by decide +kernel, by decide +kernel, by decide +kernel⟩, by decide⟩
theorem kc_L_90 : jKV RL 90 0 mX6_relocations 0 := ⟨6, _, RX6, TX6, 6, rfl, by decide, rfl, rfl, kg1359, kg1360, kg1361, kg1, kg1362, ⟨by decide +kernel, by decide +kernel, by decide +kernel⟩, by decide⟩
theorem kc_L_93 : jKV RL 93 0 mX6_loadedWord 2 := ⟨6, _, RX6, TX6, 6, rfl, by decide, rfl, rfl, kg1347, kg1348, kg1349, kg1, kg1350, ⟨by decide +kernel, by decide +kernel, by decide +kernel⟩, by decide⟩
theorem kc_L_96 : jKV RL 96 0 mX6_labelAddress 1 := ⟨6, _, RX6, TX6, 6, rfl, by decide, rfl, rfl, kg1189, kg1190, kg1191, kg1, kg1192, ⟨by decide +kernel, by decide +kernel, by decide +kernel⟩, by decide⟩
theorem kc_L_99 : jKV RL 99 0 mX6_passes 0 := ⟨6, _, RX6, TX6, 6, rfl, by decide, rfl, rfl, kg1270, kg1271, kg1272, kg1, kg1273, ⟨by decide +kernel, by decide +kernel, by decide +kernel⟩, by decide⟩
set_option maxRecDepth 20000 in
theorem tt_X5_append_9 : jTA RX5 93 116 97 "java/lang/IllegalStateException" "there are 80 lines" ["java/lang/RuntimeException", "java/lang/Exception"] := ⟨by decide +kernel, by decide +kernel, kg914, kg16, by decide +kernel, by decide +kernel, by decide +kernel, by decide +kernel, by decide +kernel, by decide⟩
set_option maxRecDepth 20000 in
theorem tt_X5_beginMacro_8 : jTA RX5 78 91 82 "java/lang/UnsupportedOperationException" "a macro or a group is not ended" ["java/lang/RuntimeException", "java/lang/Exception"] := ⟨by decide +kernel, by decide +kernel, kg1032, kg17, by decide +kernel, by decide +kernel, by decide +kernel, by decide +kernel, by decide +kernel, by decide⟩
set_option maxRecDepth 20000 in
theorem tt_X5_beginMacro_27 : jTA RX5 93 95 97 "java/lang/IllegalStateException" "there are 8 macros" ["java/lang/RuntimeException", "java/lang/Exception"] := ⟨by decide +kernel, by decide +kernel, kg914, kg16, by decide +kernel, by decide +kernel, by decide +kernel, by decide +kernel, by decide +kernel, by decide⟩
set_option maxRecDepth 20000 in
theorem tt_X5_endGroup_7 : jTA RX5 78 80 82 "java/lang/UnsupportedOperationException" "there is no group to end" ["java/lang/RuntimeException", "java/lang/Exception"] := ⟨by decide +kernel, by decide +kernel, kg1032, kg17, by decide +kernel, by decide +kernel, by decide +kernel, by decide +kernel, by decide +kernel, by decide⟩
set_option maxRecDepth 20000 in
theorem tt_X5_feed_26 : jTA RX5 59 61 63 "java/lang/IllegalArgumentException" "an operand is neither in its range nor an argument" ["java/lang/RuntimeException", "java/lang/Exception"] := ⟨by decide +kernel, by decide +kernel, kg907, kg15, by decide +kernel, by decide +kernel, by decide +kernel, by decide +kernel, by decide +kernel, by decide⟩
set_option maxRecDepth 20000 in
theorem tt_X5_finishMacro_14 : jTA RX5 78 98 82 "java/lang/UnsupportedOperationException" "there is no macro that could be ended here" ["java/lang/RuntimeException", "java/lang/Exception"] := ⟨by decide +kernel, by decide +kernel, kg1032, kg17, by decide +kernel, by decide +kernel, by decide +kernel, by decide +kernel, by decide +kernel, by decide⟩
set_option maxRecDepth 20000 in
theorem tt_X6_align_11 : jTA RX6 61 68 65 "java/lang/IllegalArgumentException" "the size is out of range" ["java/lang/RuntimeException", "java/lang/Exception"] := ⟨by decide +kernel, by decide +kernel, kg946, kg15, by decide +kernel, by decide +kernel, by decide +kernel, by decide +kernel, by decide +kernel, by decide⟩
set_option maxRecDepth 20000 in
theorem tt_X6_itemsByCounting_11 : jTA RX6 124 126 128 "java/lang/IllegalStateException" "a macro or a group is not ended" ["java/lang/RuntimeException", "java/lang/Exception"] := ⟨by decide +kernel, by decide +kernel, kg1207, kg16, by decide +kernel, by decide +kernel, by decide +kernel, by decide +kernel, by decide +kernel, by decide⟩
set_option maxRecDepth 20000 in
theorem tt_X6_itemsByCounting_34 : jTA RX6 132 134 136 "java/lang/UnsupportedOperationException" "the count of a loop is an argument greater than 9" ["java/lang/RuntimeException", "java/lang/Exception"] := ⟨by decide +kernel, by decide +kernel, kg1262, kg17, by decide +kernel, by decide +kernel, by decide +kernel, by decide +kernel, by decide +kernel, by decide⟩
set_option maxRecDepth 20000 in
theorem tt_X6_loadedWord_16 : jTA RX6 61 151 65 "java/lang/IllegalArgumentException" "the base is out of range" ["java/lang/RuntimeException", "java/lang/Exception"] := ⟨by decide +kernel, by decide +kernel, kg946, kg15, by decide +kernel, by decide +kernel, by decide +kernel, by decide +kernel, by decide +kernel, by decide⟩
set_option maxRecDepth 20000 in
theorem tt_X6_operation_12 : jTA RX6 61 63 65 "java/lang/IllegalArgumentException" "the code is out of range" ["java/lang/RuntimeException", "java/lang/Exception"] := ⟨by decide +kernel, by decide +kernel, kg946, kg15, by decide +kernel, by decide +kernel, by decide +kernel, by decide +kernel, by decide +kernel, by decide⟩
set_option maxRecDepth 20000 in
theorem tt_X6_requireItem_19 : jTA RX6 205 210 209 "java/lang/IndexOutOfBoundsException" "there is no such item" ["java/lang/RuntimeException", "java/lang/Exception"] := ⟨by decide +kernel, by decide +kernel, kg1135, kg12, by decide +kernel, by decide +kernel, by decide +kernel, by decide +kernel, by decide +kernel, by decide⟩
set_option maxRecDepth 20000 in
theorem tt_X6_requireWord_19 : jTA RX6 205 207 209 "java/lang/IndexOutOfBoundsException" "there is no such word" ["java/lang/RuntimeException", "java/lang/Exception"] := ⟨by decide +kernel, by decide +kernel, kg1135, kg12, by decide +kernel, by decide +kernel, by decide +kernel, by decide +kernel, by decide +kernel, by decide⟩
set_option maxRecDepth 20000 in
theorem tt_X6_shortShare_30 : jTA RX6 192 194 196 "java/lang/ArithmeticException" "there are no jumps" ["java/lang/RuntimeException", "java/lang/Exception"] := ⟨by decide +kernel, by decide +kernel, kg1181, kg29, by decide +kernel, by decide +kernel, by decide +kernel, by decide +kernel, by decide +kernel, by decide⟩
set_option maxRecDepth 20000 in
theorem tt_X6_targetOf_19 : jTA RX6 132 190 136 "java/lang/UnsupportedOperationException" "the item is neither a jump nor an address" ["java/lang/RuntimeException", "java/lang/Exception"] := ⟨by decide +kernel, by decide +kernel, kg1262, kg17, by decide +kernel, by decide +kernel, by decide +kernel, by decide +kernel, by decide +kernel, by decide⟩
