abbrev mJ7_fill_fda19 : JI := (yJ7_fill_fda19, cJ7_fill_fda19, 5, none, [], false)
abbrev mJ7_rangeCheck_23922 : JI := (yJ7_rangeCheck_23922, cJ7_rangeCheck_23922, 3, none, [], false)
abbrev mL_address : JI := (yL_address, cL_address, 4, some .int, [(0, 9, 12, 13), (0, 9, 15, 15)], false)
abbrev mL_addressByAdding : JI := (yL_addressByAdding, cL_addressByAdding, 4, some .int, [(0, 9, 12, 37), (0, 9, 15, 77)], false)
abbrev mL_addressOf : JI := (yL_addressOf, cL_addressOf, 4, some .int, [(0, 9, 12, 37), (0, 9, 15, 77)], false)
abbrev mL_align : JI := (yL_align, cL_align, 4, some .int, [(0, 9, 12, 13), (0, 9, 15, 15)], false)
abbrev mL_block : JI := (yL_block, cL_block, 3, some .int, [(0, 8, 11, 15)], false)
abbrev mL_call : JI := (yL_call, cL_call, 6, some .int, [(0, 12, 15, 37), (0, 12, 19, 13), (0, 12, 23, 15)], false)
abbrev mL_depthOf : JI := (yL_depthOf, cL_depthOf, 4, some .int, [(0, 9, 12, 37), (0, 9, 15, 77)], false)
abbrev mL_end : JI := (yL_end, cL_end, 3, some .int, [(0, 8, 11, 52), (0, 8, 14, 15)], false)
abbrev mL_endMacro : JI := (yL_endMacro, cL_endMacro, 3, some .int, [(0, 8, 11, 52), (0, 8, 14, 15)], false)
abbrev mL_fault : JI := (yL_fault, cL_fault, 3, some .int, [(0, 8, 11, 37)], false)
abbrev mL_faultLine : JI := (yL_faultLine, cL_faultLine, 3, some .int, [(0, 8, 11, 37)], false)
abbrev mL_items : JI := (yL_items, cL_items, 3, some .int, [(0, 8, 11, 37)], false)
abbrev mL_itemsByCounting : JI := (yL_itemsByCounting, cL_itemsByCounting, 3, some .int, [(0, 7, 10, 15), (0, 7, 13, 52)], false)
abbrev mL_jump : JI := (yL_jump, cL_jump, 4, some .int, [(0, 9, 12, 13), (0, 9, 15, 15)], false)
abbrev mL_kindOf : JI := (yL_kindOf, cL_kindOf, 4, some .int, [(0, 9, 12, 37), (0, 9, 15, 77)], false)
abbrev mL_label : JI := (yL_label, cL_label, 4, some .int, [(0, 9, 12, 13), (0, 9, 15, 15)], false)
abbrev mL_labelAddress : JI := (yL_labelAddress, cL_labelAddress, 4, some .int, [(0, 9, 12, 37)], false)
abbrev mL_lineOf : JI := (yL_lineOf, cL_lineOf, 4, some .int, [(0, 9, 12, 37), (0, 9, 15, 77)], false)
abbrev mL_loadedWord : JI := (yL_loadedWord, cL_loadedWord, 5, some .int, [(0, 10, 13, 37), (0, 10, 17, 77), (0, 10, 21, 13)], false)
abbrev mL_longJumps : JI := (yL_longJumps, cL_longJumps, 3, some .int, [(0, 8, 11, 37)], false)
abbrev mL_loop : JI := (yL_loop, cL_loop, 4, some .int, [(0, 9, 12, 13), (0, 9, 15, 15)], false)
abbrev mL_macro : JI := (yL_macro, cL_macro, 3, some .int, [(0, 8, 11, 52), (0, 8, 14, 15)], false)
abbrev mL_meanWord : JI := (yL_meanWord, cL_meanWord, 3, some .int, [(0, 7, 10, 37), (0, 7, 13, 120)], false)
abbrev mL_operation : JI := (yL_operation, cL_operation, 5, some .int, [(0, 10, 13, 13), (0, 10, 17, 15)], false)
abbrev mL_passes : JI := (yL_passes, cL_passes, 3, some .int, [(0, 8, 11, 37)], false)
abbrev mL_relocations : JI := (yL_relocations, cL_relocations, 3, some .int, [(0, 8, 11, 37)], false)
abbrev mL_shortShare : JI := (yL_shortShare, cL_shortShare, 3, some .int, [(0, 8, 11, 37), (0, 8, 14, 120)], false)
abbrev mL_targetOf : JI := (yL_targetOf, cL_targetOf, 4, some .int, [(0, 9, 12, 37), (0, 9, 15, 77), (0, 9, 18, 52)], false)
abbrev mL_when : JI := (yL_when, cL_when, 5, some .int, [(0, 10, 13, 13), (0, 10, 17, 15)], false)
abbrev mL_word : JI := (yL_word, cL_word, 4, some .int, [(0, 9, 12, 13), (0, 9, 15, 15)], false)
abbrev mL_wordAt : JI := (yL_wordAt, cL_wordAt, 4, some .int, [(0, 9, 12, 37), (0, 9, 15, 77)], false)
abbrev mL_words : JI := (yL_words, cL_words, 3, some .int, [(0, 8, 11, 37)], false)
abbrev mX0_countCall : JI := (yX0_countCall, cX0_countCall, 8, some .int, [], false)
abbrev mX0_countLines : JI := (yX0_countLines, cX0_countLines, 11, some .int, [], false)
abbrev mX0_countMacro : JI := (yX0_countMacro, cX0_countMacro, 9, some .int, [], false)
abbrev mX0_countProgram : JI := (yX0_countProgram, cX0_countProgram, 1, some .int, [], false)
abbrev mX0_forgetMacros : JI := (yX0_forgetMacros, cX0_forgetMacros, 1, none, [], false)
abbrev mX0_init : JI := (yX0_init, cX0_init, 2, none, [], false)
abbrev mX0_limited : JI := (yX0_limited, cX0_limited, 2, some .int, [], false)
abbrev mX0_placeOf : JI := (yX0_placeOf, cX0_placeOf, 7, some .int, [], false)
abbrev mX0_recall : JI := (yX0_recall, cX0_recall, 5, some .int, [], false)
abbrev mX0_remember : JI := (yX0_remember, cX0_remember, 5, none, [], false)
abbrev mX1_addItem : JI := (yX1_addItem, cX1_addItem, 6, none, [], false)
abbrev mX1_argument : JI := (yX1_argument, cX1_argument, 2, some .int, [], false)
abbrev mX1_beginGroup : JI := (yX1_beginGroup, cX1_beginGroup, 4, some .int, [], false)
abbrev mX1_endRound : JI := (yX1_endRound, cX1_endRound, 4, some .int, [], false)
abbrev mX1_enterMacro : JI := (yX1_enterMacro, cX1_enterMacro, 4, some .int, [], false)
abbrev mX1_expandLine : JI := (yX1_expandLine, cX1_expandLine, 4, some .int, [], false)
abbrev mX1_expandProgram : JI := (yX1_expandProgram, cX1_expandProgram, 4, none, [], false)
abbrev mX1_fail : JI := (yX1_fail, cX1_fail, 3, none, [], false)
abbrev mX1_faultAt : JI := (yX1_faultAt, cX1_faultAt, 6, some .int, [], false)
abbrev mX1_faultKind : JI := (yX1_faultKind, cX1_faultKind, 1, some .int, [], false)
abbrev mX1_findNames : JI := (yX1_findNames, cX1_findNames, 2, none, [], false)
abbrev mX1_init : JI := (yX1_init, cX1_init, 4, none, [], false)
abbrev mX1_leaveMacro : JI := (yX1_leaveMacro, cX1_leaveMacro, 3, some .int, [], false)
abbrev mX1_lineOfFault : JI := (yX1_lineOfFault, cX1_lineOfFault, 1, some .int, [], false)
abbrev mX1_pass : JI := (yX1_pass, cX1_pass, 5, none, [], false)
abbrev mX1_placeOf : JI := (yX1_placeOf, cX1_placeOf, 2, some .int, [], false)
abbrev mX1_scopeOf : JI := (yX1_scopeOf, cX1_scopeOf, 2, some .int, [], false)
abbrev mX1_valueOf : JI := (yX1_valueOf, cX1_valueOf, 2, some .int, [], false)
abbrev mX1_valueOfItem : JI := (yX1_valueOfItem, cX1_valueOfItem, 3, some .int, [], false)
abbrev mX2_fill : JI := (yX2_fill, cX2_fill, 3, none, [], false)
abbrev mX2_holdsAddress : JI := (yX2_holdsAddress, cX2_holdsAddress, 2, some .boolean, [], false)
abbrev mX2_init : JI := (yX2_init, cX2_init, 1, none, [], false)
abbrev mX2_put : JI := (yX2_put, cX2_put, 2, none, [], false)
abbrev mX2_putAddress : JI := (yX2_putAddress, cX2_putAddress, 2, none, [], false)
abbrev mX2_size : JI := (yX2_size, cX2_size, 1, some .int, [], false)
abbrev mX2_sizeOfRelocations : JI := (yX2_sizeOfRelocations, cX2_sizeOfRelocations, 1, some .int, [], false)
abbrev mX2_sum : JI := (yX2_sum, cX2_sum, 4, some .long, [], false)
abbrev mX2_wordOf : JI := (yX2_wordOf, cX2_wordOf, 2, some .int, [], false)
abbrev mX2_write : JI := (yX2_write, cX2_write, 3, none, [], false)
abbrev mX2_writeItem : JI := (yX2_writeItem, cX2_writeItem, 3, none, [], false)
abbrev mX3_add : JI := (yX3_add, cX3_add, 6, some .int, [], false)
abbrev mX3_addressAt : JI := (yX3_addressAt, cX3_addressAt, 2, some .int, [], false)
abbrev mX3_aim : JI := (yX3_aim, cX3_aim, 3, none, [], false)
abbrev mX3_countKind : JI := (yX3_countKind, cX3_countKind, 4, some .int, [], false)
abbrev mX3_depth : JI := (yX3_depth, cX3_depth, 2, some .int, [], false)
abbrev mX3_distance : JI := (yX3_distance, cX3_distance, 2, some .int, [], false)
abbrev mX3_findAddresses : JI := (yX3_findAddresses, cX3_findAddresses, 3, none, [], false)
abbrev mX3_firstWithoutTarget : JI := (yX3_firstWithoutTarget, cX3_firstWithoutTarget, 2, some .int, [], false)
abbrev mX3_init : JI := (yX3_init, cX3_init, 1, none, [], false)
abbrev mX3_isFull : JI := (yX3_isFull, cX3_isFull, 1, some .boolean, [], false)
abbrev mX3_isShortDistance : JI := (yX3_isShortDistance, cX3_isShortDistance, 1, some .boolean, [], false)
abbrev mX3_kind : JI := (yX3_kind, cX3_kind, 2, some .int, [], false)
abbrev mX3_lengthenJumps : JI := (yX3_lengthenJumps, cX3_lengthenJumps, 3, some .boolean, [], false)
abbrev mX3_line : JI := (yX3_line, cX3_line, 2, some .int, [], false)
abbrev mX3_place : JI := (yX3_place, cX3_place, 2, none, [], false)
abbrev mX3_removeAll : JI := (yX3_removeAll, cX3_removeAll, 1, none, [], false)
abbrev mX3_size : JI := (yX3_size, cX3_size, 1, some .int, [], false)
abbrev mX3_sizeOfPasses : JI := (yX3_sizeOfPasses, cX3_sizeOfPasses, 1, some .int, [], false)
abbrev mX3_target : JI := (yX3_target, cX3_target, 2, some .int, [], false)
abbrev mX3_targetAddress : JI := (yX3_targetAddress, cX3_targetAddress, 2, some .int, [], false)
abbrev mX3_value : JI := (yX3_value, cX3_value, 2, some .int, [], false)
abbrev mX3_wordsBefore : JI := (yX3_wordsBefore, cX3_wordsBefore, 4, some .int, [], false)
abbrev mX3_wordsTaken : JI := (yX3_wordsTaken, cX3_wordsTaken, 3, some .int, [], false)
abbrev mX3_wordsToMultiple : JI := (yX3_wordsToMultiple, cX3_wordsToMultiple, 3, some .int, [], false)
abbrev mX4_close : JI := (yX4_close, cX4_close, 4, none, [], false)
abbrev mX4_current : JI := (yX4_current, cX4_current, 1, some .int, [], false)
abbrev mX4_define : JI := (yX4_define, cX4_define, 4, none, [], false)
abbrev mX4_init : JI := (yX4_init, cX4_init, 2, none, [], false)
abbrev mX4_labelIn : JI := (yX4_labelIn, cX4_labelIn, 3, some .int, [], false)
abbrev mX4_open : JI := (yX4_open, cX4_open, 2, none, [], false)
abbrev mX4_reset : JI := (yX4_reset, cX4_reset, 1, none, [], false)
abbrev mX4_setHome : JI := (yX4_setHome, cX4_setHome, 3, none, [], false)
abbrev mX5_append : JI := (yX5_append, cX5_append, 6, some .int, [], false)
abbrev mX5_beginMacro : JI := (yX5_beginMacro, cX5_beginMacro, 2, some .int, [], false)
abbrev mX5_endGroup : JI := (yX5_endGroup, cX5_endGroup, 2, some .int, [], false)
abbrev mX5_feed : JI := (yX5_feed, cX5_feed, 7, some .int, [], false)
abbrev mX5_finishMacro : JI := (yX5_finishMacro, cX5_finishMacro, 2, some .int, [], false)
abbrev mX5_first : JI := (yX5_first, cX5_first, 2, some .int, [], false)
abbrev mX5_fixed : JI := (yX5_fixed, cX5_fixed, 2, some .int, [], false)
abbrev mX5_init : JI := (yX5_init, cX5_init, 1, none, [], false)
abbrev mX5_isEndedMacro : JI := (yX5_isEndedMacro, cX5_isEndedMacro, 3, some .boolean, [], false)
abbrev mX5_isOperand : JI := (yX5_isOperand, cX5_isOperand, 3, some .boolean, [], false)
abbrev mX5_kind : JI := (yX5_kind, cX5_kind, 2, some .int, [], false)
abbrev mX5_macroLine : JI := (yX5_macroLine, cX5_macroLine, 2, some .int, [], false)
abbrev mX5_pair : JI := (yX5_pair, cX5_pair, 3, none, [], false)
abbrev mX5_partner : JI := (yX5_partner, cX5_partner, 2, some .int, [], false)
abbrev mX5_removeAll : JI := (yX5_removeAll, cX5_removeAll, 2, some .int, [], false)
abbrev mX5_rounds : JI := (yX5_rounds, cX5_rounds, 6, some .int, [], false)
abbrev mX5_second : JI := (yX5_second, cX5_second, 2, some .int, [], false)
abbrev mX5_size : JI := (yX5_size, cX5_size, 1, some .int, [], false)
abbrev mX5_sizeOfMacros : JI := (yX5_sizeOfMacros, cX5_sizeOfMacros, 1, some .int, [], false)
abbrev mX5_unfinishedLine : JI := (yX5_unfinishedLine, cX5_unfinishedLine, 1, some .int, [], false)
abbrev mX6_address : JI := (yX6_address, cX6_address, 2, some .int, [], false)
abbrev mX6_addressByAdding : JI := (yX6_addressByAdding, cX6_addressByAdding, 2, some .int, [], false)
abbrev mX6_addressOf : JI := (yX6_addressOf, cX6_addressOf, 2, some .int, [], false)
abbrev mX6_align : JI := (yX6_align, cX6_align, 2, some .int, [], false)
abbrev mX6_assemble : JI := (yX6_assemble, cX6_assemble, 1, some .int, [], false)
abbrev mX6_at : JI := (yX6_at, cX6_at, 2, some .int, [], false)
abbrev mX6_beginsGroup : JI := (yX6_beginsGroup, cX6_beginsGroup, 1, some .boolean, [], false)
abbrev mX6_block : JI := (yX6_block, cX6_block, 1, some .int, [], false)
abbrev mX6_call : JI := (yX6_call, cX6_call, 4, some .int, [], false)
abbrev mX6_clear : JI := (yX6_clear, cX6_clear, 1, some .int, [], false)
abbrev mX6_depthOf : JI := (yX6_depthOf, cX6_depthOf, 2, some .int, [], false)
abbrev mX6_end : JI := (yX6_end, cX6_end, 1, some .int, [], false)
abbrev mX6_endMacro : JI := (yX6_endMacro, cX6_endMacro, 1, some .int, [], false)
abbrev mX6_fault : JI := (yX6_fault, cX6_fault, 1, some .char, [], false)
abbrev mX6_faultLine : JI := (yX6_faultLine, cX6_faultLine, 2, some .int, [], false)
abbrev mX6_greatestOperand : JI := (yX6_greatestOperand, cX6_greatestOperand, 1, some .int, [], false)
abbrev mX6_init : JI := (yX6_init, cX6_init, 1, none, [], false)
abbrev mX6_isArgument : JI := (yX6_isArgument, cX6_isArgument, 1, some .boolean, [], false)
abbrev mX6_isReference : JI := (yX6_isReference, cX6_isReference, 1, some .boolean, [], false)
abbrev mX6_items : JI := (yX6_items, cX6_items, 1, some .int, [], false)
abbrev mX6_itemsByCounting : JI := (yX6_itemsByCounting, cX6_itemsByCounting, 2, some .long, [], false)
abbrev mX6_jump : JI := (yX6_jump, cX6_jump, 2, some .int, [], false)
abbrev mX6_kindOf : JI := (yX6_kindOf, cX6_kindOf, 2, some .char, [], false)
abbrev mX6_label : JI := (yX6_label, cX6_label, 2, some .int, [], false)
abbrev mX6_labelAddress : JI := (yX6_labelAddress, cX6_labelAddress, 3, some .int, [], false)
abbrev mX6_lineOf : JI := (yX6_lineOf, cX6_lineOf, 2, some .int, [], false)
abbrev mX6_lines : JI := (yX6_lines, cX6_lines, 1, some .int, [], false)
abbrev mX6_loadedWord : JI := (yX6_loadedWord, cX6_loadedWord, 3, some .int, [], false)
abbrev mX6_longJumps : JI := (yX6_longJumps, cX6_longJumps, 1, some .int, [], false)
abbrev mX6_loop : JI := (yX6_loop, cX6_loop, 2, some .int, [], false)
abbrev mX6_macro : JI := (yX6_macro, cX6_macro, 1, some .int, [], false)
abbrev mX6_macros : JI := (yX6_macros, cX6_macros, 1, some .int, [], false)
abbrev mX6_meanWord : JI := (yX6_meanWord, cX6_meanWord, 1, some .double, [], false)
abbrev mX6_operation : JI := (yX6_operation, cX6_operation, 3, some .int, [], false)
abbrev mX6_passes : JI := (yX6_passes, cX6_passes, 1, some .int, [], false)
abbrev mX6_relocations : JI := (yX6_relocations, cX6_relocations, 1, some .int, [], false)
abbrev mX6_requireItem : JI := (yX6_requireItem, cX6_requireItem, 2, none, [], false)
abbrev mX6_requireProgram : JI := (yX6_requireProgram, cX6_requireProgram, 1, none, [], false)
abbrev mX6_requireWord : JI := (yX6_requireWord, cX6_requireWord, 2, none, [], false)
abbrev mX6_setAt : JI := (yX6_setAt, cX6_setAt, 3, none, [], false)
abbrev mX6_shortShare : JI := (yX6_shortShare, cX6_shortShare, 3, some .float, [], false)
abbrev mX6_targetOf : JI := (yX6_targetOf, cX6_targetOf, 3, some .int, [], false)
abbrev mX6_valueOfOperand : JI := (yX6_valueOfOperand, cX6_valueOfOperand, 3, some .int, [], false)
abbrev mX6_when : JI := (yX6_when, cX6_when, 3, some .int, [], false)
abbrev mX6_word : JI := (yX6_word, cX6_word, 2, some .int, [], false)
abbrev mX6_wordAt : JI := (yX6_wordAt, cX6_wordAt, 2, some .int, [], false)
abbrev mX6_words : JI := (yX6_words, cX6_words, 1, some .int, [], false)
abbrev mX7_address : JI := (yX7_address, cX7_address, 2, some .int, [], false)
abbrev mX7_addressByAdding : JI := (yX7_addressByAdding, cX7_addressByAdding, 2, some .int, [], false)
abbrev mX7_addressOf : JI := (yX7_addressOf, cX7_addressOf, 2, some .int, [], false)
abbrev mX7_adds : JI := (yX7_adds, cX7_adds, 5, some .int, [], false)
abbrev mX7_align : JI := (yX7_align, cX7_align, 2, some .int, [], false)
abbrev mX7_areFound : JI := (yX7_areFound, cX7_areFound, 2, some .boolean, [], false)
abbrev mX7_assemble : JI := (yX7_assemble, cX7_assemble, 5, some .int, [], false)
abbrev mX7_begins : JI := (yX7_begins, cX7_begins, 4, some .int, [], false)
abbrev mX7_block : JI := (yX7_block, cX7_block, 1, some .int, [], false)
abbrev mX7_call : JI := (yX7_call, cX7_call, 4, some .int, [], false)
abbrev mX7_clear : JI := (yX7_clear, cX7_clear, 2, some .int, [], false)
abbrev mX7_counts : JI := (yX7_counts, cX7_counts, 12, some .int, [], false)
abbrev mX7_countsMacro : JI := (yX7_countsMacro, cX7_countsMacro, 9, some .int, [], false)
abbrev mX7_depthOf : JI := (yX7_depthOf, cX7_depthOf, 2, some .int, [], false)
abbrev mX7_distance : JI := (yX7_distance, cX7_distance, 2, some .int, [], false)
abbrev mX7_end : JI := (yX7_end, cX7_end, 1, some .int, [], false)
abbrev mX7_endMacro : JI := (yX7_endMacro, cX7_endMacro, 2, some .int, [], false)
abbrev mX7_fails : JI := (yX7_fails, cX7_fails, 2, some .int, [], false)
abbrev mX7_fault : JI := (yX7_fault, cX7_fault, 1, some .char, [], false)
abbrev mX7_faultLine : JI := (yX7_faultLine, cX7_faultLine, 1, some .int, [], false)
abbrev mX7_feeds : JI := (yX7_feeds, cX7_feeds, 6, some .int, [], false)
abbrev mX7_finds : JI := (yX7_finds, cX7_finds, 4, some .int, [], false)
abbrev mX7_in : JI := (yX7_in, cX7_in, 3, some .boolean, [], false)
abbrev mX7_init : JI := (yX7_init, cX7_init, 1, none, [], false)
abbrev mX7_isDefined : JI := (yX7_isDefined, cX7_isDefined, 4, some .boolean, [], false)
abbrev mX7_isItem : JI := (yX7_isItem, cX7_isItem, 2, some .boolean, [], false)
abbrev mX7_isNamed : JI := (yX7_isNamed, cX7_isNamed, 2, some .boolean, [], false)
abbrev mX7_isRight : JI := (yX7_isRight, cX7_isRight, 3, some .boolean, [], false)
abbrev mX7_isThere : JI := (yX7_isThere, cX7_isThere, 1, some .boolean, [], false)
abbrev mX7_isWord : JI := (yX7_isWord, cX7_isWord, 2, some .boolean, [], false)
abbrev mX7_items : JI := (yX7_items, cX7_items, 1, some .int, [], false)
abbrev mX7_itemsByCounting : JI := (yX7_itemsByCounting, cX7_itemsByCounting, 2, some .long, [], false)
abbrev mX7_jump : JI := (yX7_jump, cX7_jump, 2, some .int, [], false)
abbrev mX7_jumps : JI := (yX7_jumps, cX7_jumps, 4, some .int, [], false)
abbrev mX7_kindOf : JI := (yX7_kindOf, cX7_kindOf, 3, some .char, [], false)
abbrev mX7_label : JI := (yX7_label, cX7_label, 2, some .int, [], false)
abbrev mX7_labelAddress : JI := (yX7_labelAddress, cX7_labelAddress, 3, some .int, [], false)
abbrev mX7_lengthens : JI := (yX7_lengthens, cX7_lengthens, 3, some .boolean, [], false)
abbrev mX7_less : JI := (yX7_less, cX7_less, 2, some .int, [], false)
abbrev mX7_lineOf : JI := (yX7_lineOf, cX7_lineOf, 2, some .int, [], false)
abbrev mX7_lines : JI := (yX7_lines, cX7_lines, 1, some .int, [], false)
abbrev mX7_loadedWord : JI := (yX7_loadedWord, cX7_loadedWord, 3, some .int, [], false)
abbrev mX7_longJumps : JI := (yX7_longJumps, cX7_longJumps, 1, some .int, [], false)
abbrev mX7_loop : JI := (yX7_loop, cX7_loop, 2, some .int, [], false)
abbrev mX7_macro : JI := (yX7_macro, cX7_macro, 1, some .int, [], false)
abbrev mX7_macros : JI := (yX7_macros, cX7_macros, 1, some .int, [], false)
abbrev mX7_makes : JI := (yX7_makes, cX7_makes, 5, none, [], false)
abbrev mX7_meanWord : JI := (yX7_meanWord, cX7_meanWord, 4, some .double, [], false)
abbrev mX7_most : JI := (yX7_most, cX7_most, 1, some .int, [], false)
abbrev mX7_newScope : JI := (yX7_newScope, cX7_newScope, 2, some .int, [], false)
abbrev mX7_operation : JI := (yX7_operation, cX7_operation, 3, some .int, [], false)
abbrev mX7_passes : JI := (yX7_passes, cX7_passes, 1, some .int, [], false)
abbrev mX7_places : JI := (yX7_places, cX7_places, 3, none, [], false)
abbrev mX7_puts : JI := (yX7_puts, cX7_puts, 4, none, [], false)
abbrev mX7_relocations : JI := (yX7_relocations, cX7_relocations, 3, some .int, [], false)
abbrev mX7_shortShare : JI := (yX7_shortShare, cX7_shortShare, 2, some .float, [], false)
abbrev mX7_sizeOf : JI := (yX7_sizeOf, cX7_sizeOf, 5, some .int, [], false)
abbrev mX7_stops : JI := (yX7_stops, cX7_stops, 3, some .boolean, [], false)
abbrev mX7_targetOf : JI := (yX7_targetOf, cX7_targetOf, 2, some .int, [], false)
abbrev mX7_thrown : JI := (yX7_thrown, cX7_thrown, 1, some .int, [], false)
abbrev mX7_walks : JI := (yX7_walks, cX7_walks, 18, some .boolean, [], false)
abbrev mX7_when : JI := (yX7_when, cX7_when, 3, some .int, [], false)
abbrev mX7_word : JI := (yX7_word, cX7_word, 2, some .int, [], false)
abbrev mX7_wordAt : JI := (yX7_wordAt, cX7_wordAt, 2, some .int, [], false)
abbrev mX7_words : JI := (yX7_words, cX7_words, 1, some .int, [], false)
abbrev mX7_writes : JI := (yX7_writes, cX7_writes, 5, none, [], false)
theorem fa_X0_11 : jFA RX0 11 6 1 1 2 31 := ⟨0, _, RX0, TX0, 5, tyX0, rfl, by decide, rfl, rfl, rfl, by decide, kg203, rfl, jin0, fun h => absurd rfl h⟩
theorem fa_X0_15 : jFA RX0 15 6 2 2 2 32 := ⟨0, _, RX0, TX0, 5, tyX0, rfl, by decide, rfl, rfl, rfl, by decide, kg204, rfl, jin0, fun h => absurd rfl h⟩
theorem fa_X0_19 : jFA RX0 19 6 3 3 2 33 := ⟨0, _, RX0, TX0, 5, tyX0, rfl, by decide, rfl, rfl, rfl, by decide, kg205, rfl, jin0, fun h => absurd rfl h⟩
theorem fa_X0_22 : jFA RX0 22 6 4 4 1 0 := ⟨0, _, RX0, TX0, 5, tyX0, rfl, by decide, rfl, rfl, rfl, by decide, kg206, rfl, jin0, fun _ => ⟨rfl, by decide +kernel, tyX0_ok, nmX0⟩⟩
theorem fa_X0_26 : jFA RX0 26 6 0 0 2 1 := ⟨0, _, RX0, TX0, 5, tyX0, rfl, by decide, rfl, rfl, rfl, by decide, kg202, rfl, jin0, fun h => absurd rfl h⟩
theorem fa_X1_15 : jFA RX1 15 4 4 4 2 26 := ⟨1, _, RX1, TX1, 11, tyX1, rfl, by decide, rfl, rfl, rfl, by decide, kg146, rfl, jin1, fun h => absurd rfl h⟩
theorem fa_X1_18 : jFA RX1 18 4 5 5 2 27 := ⟨1, _, RX1, TX1, 11, tyX1, rfl, by decide, rfl, rfl, rfl, by decide, kg147, rfl, jin1, fun h => absurd rfl h⟩
theorem fa_X1_21 : jFA RX1 21 4 6 6 2 28 := ⟨1, _, RX1, TX1, 11, tyX1, rfl, by decide, rfl, rfl, rfl, by decide, kg148, rfl, jin1, fun h => absurd rfl h⟩
theorem fa_X1_24 : jFA RX1 24 4 9 9 0 0 := ⟨1, _, RX1, TX1, 11, tyX1, rfl, by decide, rfl, rfl, rfl, by decide, kg151, rfl, jin1, fun _ => ⟨rfl, by decide +kernel, tyX1_ok, nmX1⟩⟩
theorem fa_X1_28 : jFA RX1 28 4 0 0 2 1 := ⟨1, _, RX1, TX1, 11, tyX1, rfl, by decide, rfl, rfl, rfl, by decide, kg142, rfl, jin1, fun h => absurd rfl h⟩
theorem fa_X1_32 : jFA RX1 32 4 1 1 2 2 := ⟨1, _, RX1, TX1, 11, tyX1, rfl, by decide, rfl, rfl, rfl, by decide, kg143, rfl, jin1, fun h => absurd rfl h⟩
theorem fa_X1_36 : jFA RX1 36 4 2 2 2 3 := ⟨1, _, RX1, TX1, 11, tyX1, rfl, by decide, rfl, rfl, rfl, by decide, kg144, rfl, jin1, fun h => absurd rfl h⟩
theorem fa_X1_40 : jFA RX1 40 4 10 10 0 0 := ⟨1, _, RX1, TX1, 11, tyX1, rfl, by decide, rfl, rfl, rfl, by decide, kg152, rfl, jin1, fun _ => ⟨rfl, by decide +kernel, tyX1_ok, nmX1⟩⟩
theorem fa_X1_53 : jFA RX1 53 4 7 7 0 0 := ⟨1, _, RX1, TX1, 11, tyX1, rfl, by decide, rfl, rfl, rfl, by decide, kg149, rfl, jin1, fun _ => ⟨rfl, by decide +kernel, tyX1_ok, nmX1⟩⟩
theorem fa_X1_56 : jFA RX1 56 4 8 8 0 0 := ⟨1, _, RX1, TX1, 11, tyX1, rfl, by decide, rfl, rfl, rfl, by decide, kg150, rfl, jin1, fun _ => ⟨rfl, by decide +kernel, tyX1_ok, nmX1⟩⟩
theorem fa_X1_9 : jFA RX1 9 4 3 3 2 25 := ⟨1, _, RX1, TX1, 11, tyX1, rfl, by decide, rfl, rfl, rfl, by decide, kg145, rfl, jin1, fun h => absurd rfl h⟩
theorem fa_X2_15 : jFA RX2 15 5 1 1 2 30 := ⟨2, _, RX2, TX2, 4, tyX2, rfl, by decide, rfl, rfl, rfl, by decide, kg183, rfl, jin2, fun h => absurd rfl h⟩
theorem fa_X2_19 : jFA RX2 19 5 2 2 0 0 := ⟨2, _, RX2, TX2, 4, tyX2, rfl, by decide, rfl, rfl, rfl, by decide, kg184, rfl, jin2, fun _ => ⟨rfl, by decide +kernel, tyX2_ok, nmX2⟩⟩
theorem fa_X2_23 : jFA RX2 23 5 3 3 0 0 := ⟨2, _, RX2, TX2, 4, tyX2, rfl, by decide, rfl, rfl, rfl, by decide, kg185, rfl, jin2, fun _ => ⟨rfl, by decide +kernel, tyX2_ok, nmX2⟩⟩
theorem fa_X2_9 : jFA RX2 9 5 0 0 2 29 := ⟨2, _, RX2, TX2, 4, tyX2, rfl, by decide, rfl, rfl, rfl, by decide, kg182, rfl, jin2, fun h => absurd rfl h⟩
theorem fa_X3_15 : jFA RX3 15 2 1 1 2 16 := ⟨3, _, RX3, TX3, 8, tyX3, rfl, by decide, rfl, rfl, rfl, by decide, kg87, rfl, jin3, fun h => absurd rfl h⟩
theorem fa_X3_18 : jFA RX3 18 2 2 2 2 17 := ⟨3, _, RX3, TX3, 8, tyX3, rfl, by decide, rfl, rfl, rfl, by decide, kg88, rfl, jin3, fun h => absurd rfl h⟩
theorem fa_X3_21 : jFA RX3 21 2 3 3 2 18 := ⟨3, _, RX3, TX3, 8, tyX3, rfl, by decide, rfl, rfl, rfl, by decide, kg89, rfl, jin3, fun h => absurd rfl h⟩
theorem fa_X3_24 : jFA RX3 24 2 4 4 2 19 := ⟨3, _, RX3, TX3, 8, tyX3, rfl, by decide, rfl, rfl, rfl, by decide, kg90, rfl, jin3, fun h => absurd rfl h⟩
theorem fa_X3_27 : jFA RX3 27 2 5 5 2 20 := ⟨3, _, RX3, TX3, 8, tyX3, rfl, by decide, rfl, rfl, rfl, by decide, kg91, rfl, jin3, fun h => absurd rfl h⟩
theorem fa_X3_30 : jFA RX3 30 2 6 6 0 0 := ⟨3, _, RX3, TX3, 8, tyX3, rfl, by decide, rfl, rfl, rfl, by decide, kg92, rfl, jin3, fun _ => ⟨rfl, by decide +kernel, tyX3_ok, nmX3⟩⟩
theorem fa_X3_34 : jFA RX3 34 2 7 7 0 0 := ⟨3, _, RX3, TX3, 8, tyX3, rfl, by decide, rfl, rfl, rfl, by decide, kg93, rfl, jin3, fun _ => ⟨rfl, by decide +kernel, tyX3_ok, nmX3⟩⟩
theorem fa_X3_9 : jFA RX3 9 2 0 0 2 15 := ⟨3, _, RX3, TX3, 8, tyX3, rfl, by decide, rfl, rfl, rfl, by decide, kg86, rfl, jin3, fun h => absurd rfl h⟩
theorem fa_X4_15 : jFA RX4 15 3 2 2 2 22 := ⟨4, _, RX4, TX4, 6, tyX4, rfl, by decide, rfl, rfl, rfl, by decide, kg119, rfl, jin4, fun h => absurd rfl h⟩
theorem fa_X4_18 : jFA RX4 18 3 3 3 2 23 := ⟨4, _, RX4, TX4, 6, tyX4, rfl, by decide, rfl, rfl, rfl, by decide, kg120, rfl, jin4, fun h => absurd rfl h⟩
theorem fa_X4_21 : jFA RX4 21 3 4 4 2 24 := ⟨4, _, RX4, TX4, 6, tyX4, rfl, by decide, rfl, rfl, rfl, by decide, kg121, rfl, jin4, fun h => absurd rfl h⟩
theorem fa_X4_24 : jFA RX4 24 3 0 0 2 2 := ⟨4, _, RX4, TX4, 6, tyX4, rfl, by decide, rfl, rfl, rfl, by decide, kg117, rfl, jin4, fun h => absurd rfl h⟩
theorem fa_X4_28 : jFA RX4 28 3 5 5 0 0 := ⟨4, _, RX4, TX4, 6, tyX4, rfl, by decide, rfl, rfl, rfl, by decide, kg122, rfl, jin4, fun _ => ⟨rfl, by decide +kernel, tyX4_ok, nmX4⟩⟩
theorem fa_X4_9 : jFA RX4 9 3 1 1 2 21 := ⟨4, _, RX4, TX4, 6, tyX4, rfl, by decide, rfl, rfl, rfl, by decide, kg118, rfl, jin4, fun h => absurd rfl h⟩
theorem fa_X5_15 : jFA RX5 15 1 1 1 2 9 := ⟨5, _, RX5, TX5, 11, tyX5, rfl, by decide, rfl, rfl, rfl, by decide, kg46, rfl, jin5, fun h => absurd rfl h⟩
theorem fa_X5_18 : jFA RX5 18 1 2 2 2 10 := ⟨5, _, RX5, TX5, 11, tyX5, rfl, by decide, rfl, rfl, rfl, by decide, kg47, rfl, jin5, fun h => absurd rfl h⟩
theorem fa_X5_21 : jFA RX5 21 1 3 3 2 11 := ⟨5, _, RX5, TX5, 11, tyX5, rfl, by decide, rfl, rfl, rfl, by decide, kg48, rfl, jin5, fun h => absurd rfl h⟩
theorem fa_X5_24 : jFA RX5 24 1 4 4 2 12 := ⟨5, _, RX5, TX5, 11, tyX5, rfl, by decide, rfl, rfl, rfl, by decide, kg49, rfl, jin5, fun h => absurd rfl h⟩
theorem fa_X5_27 : jFA RX5 27 1 5 5 2 13 := ⟨5, _, RX5, TX5, 11, tyX5, rfl, by decide, rfl, rfl, rfl, by decide, kg50, rfl, jin5, fun h => absurd rfl h⟩
theorem fa_X5_30 : jFA RX5 30 1 6 6 2 14 := ⟨5, _, RX5, TX5, 11, tyX5, rfl, by decide, rfl, rfl, rfl, by decide, kg51, rfl, jin5, fun h => absurd rfl h⟩
theorem fa_X5_33 : jFA RX5 33 1 7 7 0 0 := ⟨5, _, RX5, TX5, 11, tyX5, rfl, by decide, rfl, rfl, rfl, by decide, kg52, rfl, jin5, fun _ => ⟨rfl, by decide +kernel, tyX5_ok, nmX5⟩⟩
theorem fa_X5_37 : jFA RX5 37 1 8 8 0 0 := ⟨5, _, RX5, TX5, 11, tyX5, rfl, by decide, rfl, rfl, rfl, by decide, kg53, rfl, jin5, fun _ => ⟨rfl, by decide +kernel, tyX5_ok, nmX5⟩⟩
theorem fa_X5_44 : jFA RX5 44 1 10 10 6 0 := ⟨5, _, RX5, TX5, 11, tyX5, rfl, by decide, rfl, rfl, rfl, by decide, kg55, rfl, jin5, fun _ => ⟨rfl, by decide +kernel, tyX5_ok, nmX5⟩⟩
theorem fa_X5_48 : jFA RX5 48 1 9 9 0 0 := ⟨5, _, RX5, TX5, 11, tyX5, rfl, by decide, rfl, rfl, rfl, by decide, kg54, rfl, jin5, fun _ => ⟨rfl, by decide +kernel, tyX5_ok, nmX5⟩⟩
theorem fa_X5_9 : jFA RX5 9 1 0 0 2 8 := ⟨5, _, RX5, TX5, 11, tyX5, rfl, by decide, rfl, rfl, rfl, by decide, kg45, rfl, jin5, fun h => absurd rfl h⟩
theorem fa_X6_12 : jFA RX6 12 0 0 0 2 1 := ⟨6, _, RX6, TX6, 6, tyX6, rfl, by decide, rfl, rfl, rfl, by decide, kg219, rfl, jin6, fun h => absurd rfl h⟩
theorem fa_X6_19 : jFA RX6 19 0 1 1 2 2 := ⟨6, _, RX6, TX6, 6, tyX6, rfl, by decide, rfl, rfl, rfl, by decide, kg220, rfl, jin6, fun h => absurd rfl h⟩
theorem fa_X6_28 : jFA RX6 28 0 2 2 2 3 := ⟨6, _, RX6, TX6, 6, tyX6, rfl, by decide, rfl, rfl, rfl, by decide, kg221, rfl, jin6, fun h => absurd rfl h⟩
theorem fa_X6_37 : jFA RX6 37 0 3 3 2 4 := ⟨6, _, RX6, TX6, 6, tyX6, rfl, by decide, rfl, rfl, rfl, by decide, kg222, rfl, jin6, fun h => absurd rfl h⟩
theorem fa_X6_44 : jFA RX6 44 0 4 4 2 5 := ⟨6, _, RX6, TX6, 6, tyX6, rfl, by decide, rfl, rfl, rfl, by decide, kg223, rfl, jin6, fun h => absurd rfl h⟩
theorem fa_X6_53 : jFA RX6 53 0 5 5 2 6 := ⟨6, _, RX6, TX6, 6, tyX6, rfl, by decide, rfl, rfl, rfl, by decide, kg224, rfl, jin6, fun h => absurd rfl h⟩
theorem fa_X7_108 : jFA RX7 108 7 2 2 0 0 := ⟨7, _, RX7, TX7, 35, tyX7, rfl, by decide, rfl, rfl, rfl, by decide, kg1368, rfl, jin7, fun _ => ⟨rfl, by decide +kernel, tyX7_ok, nmX7⟩⟩
theorem fa_X7_111 : jFA RX7 111 7 4 4 0 0 := ⟨7, _, RX7, TX7, 35, tyX7, rfl, by decide, rfl, rfl, rfl, by decide, kg1370, rfl, jin7, fun _ => ⟨rfl, by decide +kernel, tyX7_ok, nmX7⟩⟩
theorem fa_X7_118 : jFA RX7 118 7 15 15 0 0 := ⟨7, _, RX7, TX7, 35, tyX7, rfl, by decide, rfl, rfl, rfl, by decide, kg1381, rfl, jin7, fun _ => ⟨rfl, by decide +kernel, tyX7_ok, nmX7⟩⟩
theorem fa_X7_121 : jFA RX7 121 7 17 17 0 0 := ⟨7, _, RX7, TX7, 35, tyX7, rfl, by decide, rfl, rfl, rfl, by decide, kg1383, rfl, jin7, fun _ => ⟨rfl, by decide +kernel, tyX7_ok, nmX7⟩⟩
theorem fa_X7_124 : jFA RX7 124 7 16 16 0 0 := ⟨7, _, RX7, TX7, 35, tyX7, rfl, by decide, rfl, rfl, rfl, by decide, kg1382, rfl, jin7, fun _ => ⟨rfl, by decide +kernel, tyX7_ok, nmX7⟩⟩
theorem fa_X7_13 : jFA RX7 13 7 5 5 2 34 := ⟨7, _, RX7, TX7, 35, tyX7, rfl, by decide, rfl, rfl, rfl, by decide, kg1371, rfl, jin7, fun h => absurd rfl h⟩
theorem fa_X7_137 : jFA RX7 137 7 18 18 0 0 := ⟨7, _, RX7, TX7, 35, tyX7, rfl, by decide, rfl, rfl, rfl, by decide, kg1384, rfl, jin7, fun _ => ⟨rfl, by decide +kernel, tyX7_ok, nmX7⟩⟩
theorem fa_X7_162 : jFA RX7 162 7 19 19 0 0 := ⟨7, _, RX7, TX7, 35, tyX7, rfl, by decide, rfl, rfl, rfl, by decide, kg1385, rfl, jin7, fun _ => ⟨rfl, by decide +kernel, tyX7_ok, nmX7⟩⟩
theorem fa_X7_17 : jFA RX7 17 7 6 6 2 35 := ⟨7, _, RX7, TX7, 35, tyX7, rfl, by decide, rfl, rfl, rfl, by decide, kg1372, rfl, jin7, fun h => absurd rfl h⟩
theorem fa_X7_175 : jFA RX7 175 7 13 13 6 0 := ⟨7, _, RX7, TX7, 35, tyX7, rfl, by decide, rfl, rfl, rfl, by decide, kg1379, rfl, jin7, fun _ => ⟨rfl, by decide +kernel, tyX7_ok, nmX7⟩⟩
theorem fa_X7_179 : jFA RX7 179 7 20 20 0 0 := ⟨7, _, RX7, TX7, 35, tyX7, rfl, by decide, rfl, rfl, rfl, by decide, kg1386, rfl, jin7, fun _ => ⟨rfl, by decide +kernel, tyX7_ok, nmX7⟩⟩
theorem fa_X7_199 : jFA RX7 199 7 34 34 6 0 := ⟨7, _, RX7, TX7, 35, tyX7, rfl, by decide, rfl, rfl, rfl, by decide, kg1400, rfl, jin7, fun _ => ⟨rfl, by decide +kernel, tyX7_ok, nmX7⟩⟩
theorem fa_X7_20 : jFA RX7 20 7 7 7 2 36 := ⟨7, _, RX7, TX7, 35, tyX7, rfl, by decide, rfl, rfl, rfl, by decide, kg1373, rfl, jin7, fun h => absurd rfl h⟩
theorem fa_X7_23 : jFA RX7 23 7 8 8 2 37 := ⟨7, _, RX7, TX7, 35, tyX7, rfl, by decide, rfl, rfl, rfl, by decide, kg1374, rfl, jin7, fun h => absurd rfl h⟩
theorem fa_X7_26 : jFA RX7 26 7 9 9 2 38 := ⟨7, _, RX7, TX7, 35, tyX7, rfl, by decide, rfl, rfl, rfl, by decide, kg1375, rfl, jin7, fun h => absurd rfl h⟩
theorem fa_X7_29 : jFA RX7 29 7 10 10 2 39 := ⟨7, _, RX7, TX7, 35, tyX7, rfl, by decide, rfl, rfl, rfl, by decide, kg1376, rfl, jin7, fun h => absurd rfl h⟩
theorem fa_X7_32 : jFA RX7 32 7 11 11 2 40 := ⟨7, _, RX7, TX7, 35, tyX7, rfl, by decide, rfl, rfl, rfl, by decide, kg1377, rfl, jin7, fun h => absurd rfl h⟩
theorem fa_X7_35 : jFA RX7 35 7 12 12 2 41 := ⟨7, _, RX7, TX7, 35, tyX7, rfl, by decide, rfl, rfl, rfl, by decide, kg1378, rfl, jin7, fun h => absurd rfl h⟩
theorem fa_X7_38 : jFA RX7 38 7 14 14 7 0 := ⟨7, _, RX7, TX7, 35, tyX7, rfl, by decide, rfl, rfl, rfl, by decide, kg1380, rfl, jin7, fun _ => ⟨rfl, by decide +kernel, tyX7_ok, nmX7⟩⟩
theorem fa_X7_42 : jFA RX7 42 7 21 21 2 42 := ⟨7, _, RX7, TX7, 35, tyX7, rfl, by decide, rfl, rfl, rfl, by decide, kg1387, rfl, jin7, fun h => absurd rfl h⟩
theorem fa_X7_45 : jFA RX7 45 7 22 22 2 43 := ⟨7, _, RX7, TX7, 35, tyX7, rfl, by decide, rfl, rfl, rfl, by decide, kg1388, rfl, jin7, fun h => absurd rfl h⟩
theorem fa_X7_48 : jFA RX7 48 7 23 23 2 44 := ⟨7, _, RX7, TX7, 35, tyX7, rfl, by decide, rfl, rfl, rfl, by decide, kg1389, rfl, jin7, fun h => absurd rfl h⟩
theorem fa_X7_51 : jFA RX7 51 7 24 24 2 45 := ⟨7, _, RX7, TX7, 35, tyX7, rfl, by decide, rfl, rfl, rfl, by decide, kg1390, rfl, jin7, fun h => absurd rfl h⟩
theorem fa_X7_54 : jFA RX7 54 7 25 25 2 46 := ⟨7, _, RX7, TX7, 35, tyX7, rfl, by decide, rfl, rfl, rfl, by decide, kg1391, rfl, jin7, fun h => absurd rfl h⟩
theorem fa_X7_57 : jFA RX7 57 7 26 26 2 47 := ⟨7, _, RX7, TX7, 35, tyX7, rfl, by decide, rfl, rfl, rfl, by decide, kg1392, rfl, jin7, fun h => absurd rfl h⟩
theorem fa_X7_60 : jFA RX7 60 7 27 27 2 48 := ⟨7, _, RX7, TX7, 35, tyX7, rfl, by decide, rfl, rfl, rfl, by decide, kg1393, rfl, jin7, fun h => absurd rfl h⟩
theorem fa_X7_63 : jFA RX7 63 7 28 28 2 49 := ⟨7, _, RX7, TX7, 35, tyX7, rfl, by decide, rfl, rfl, rfl, by decide, kg1394, rfl, jin7, fun h => absurd rfl h⟩
theorem fa_X7_66 : jFA RX7 66 7 29 29 2 50 := ⟨7, _, RX7, TX7, 35, tyX7, rfl, by decide, rfl, rfl, rfl, by decide, kg1395, rfl, jin7, fun h => absurd rfl h⟩
theorem fa_X7_7 : jFA RX7 7 7 3 3 0 0 := ⟨7, _, RX7, TX7, 35, tyX7, rfl, by decide, rfl, rfl, rfl, by decide, kg1369, rfl, jin7, fun _ => ⟨rfl, by decide +kernel, tyX7_ok, nmX7⟩⟩
theorem fa_X7_70 : jFA RX7 70 7 30 30 2 51 := ⟨7, _, RX7, TX7, 35, tyX7, rfl, by decide, rfl, rfl, rfl, by decide, kg1396, rfl, jin7, fun h => absurd rfl h⟩
theorem fa_X7_73 : jFA RX7 73 7 31 31 2 52 := ⟨7, _, RX7, TX7, 35, tyX7, rfl, by decide, rfl, rfl, rfl, by decide, kg1397, rfl, jin7, fun h => absurd rfl h⟩
theorem fa_X7_76 : jFA RX7 76 7 32 32 2 53 := ⟨7, _, RX7, TX7, 35, tyX7, rfl, by decide, rfl, rfl, rfl, by decide, kg1398, rfl, jin7, fun h => absurd rfl h⟩
theorem fa_X7_79 : jFA RX7 79 7 33 33 2 54 := ⟨7, _, RX7, TX7, 35, tyX7, rfl, by decide, rfl, rfl, rfl, by decide, kg1399, rfl, jin7, fun h => absurd rfl h⟩
theorem fa_X7_82 : jFA RX7 82 7 0 0 0 0 := ⟨7, _, RX7, TX7, 35, tyX7, rfl, by decide, rfl, rfl, rfl, by decide, kg1366, rfl, jin7, fun _ => ⟨rfl, by decide +kernel, tyX7_ok, nmX7⟩⟩
theorem fa_X7_89 : jFA RX7 89 7 1 1 0 0 := ⟨7, _, RX7, TX7, 35, tyX7, rfl, by decide, rfl, rfl, rfl, by decide, kg1367, rfl, jin7, fun _ => ⟨rfl, by decide +kernel, tyX7_ok, nmX7⟩⟩
theorem kc_X0_68 : jKN RX0 68 mX6_at 2 := ⟨⟨"MacroBench", by decide +kernel⟩, kg638, kg1, kg639, ⟨by decide +kernel, by decide +kernel, by decide +kernel⟩, by decide⟩
theorem kc_X0_72 : jKN RX0 72 mX6_beginsGroup 1 := ⟨⟨"MacroBench", by decide +kernel⟩, kg735, kg1, kg736, ⟨by decide +kernel, by decide +kernel, by decide +kernel⟩, by decide⟩
theorem kc_X0_80 : jKN RX0 80 mX6_setAt 3 := ⟨⟨"MacroBench", by decide +kernel⟩, kg685, kg1, kg686, ⟨by decide +kernel, by decide +kernel, by decide +kernel⟩, by decide⟩
theorem kc_X0_84 : jKS RX0 84 mX0_limited 1 := ⟨kg1119, kg1120, kg7, kg1121, ⟨by decide +kernel, by decide +kernel, by decide +kernel⟩, by decide⟩
theorem kc_X0_97 : jKN RX0 97 mX6_valueOfOperand 3 := ⟨⟨"MacroBench", by decide +kernel⟩, kg767, kg1, kg768, ⟨by decide +kernel, by decide +kernel, by decide +kernel⟩, by decide⟩
theorem kc_X1_108 : jKN RX1 108 mX6_beginsGroup 1 := ⟨⟨"MacroBench", by decide +kernel⟩, kg735, kg1, kg736, ⟨by decide +kernel, by decide +kernel, by decide +kernel⟩, by decide⟩
theorem kc_X1_121 : jKN RX1 121 mX6_greatestOperand 1 := ⟨⟨"MacroBench", by decide +kernel⟩, kg709, kg1, kg710, ⟨by decide +kernel, by decide +kernel, by decide +kernel⟩, by decide⟩
theorem kc_X1_143 : jKS RX1 143 mX1_valueOfItem 3 := ⟨kg775, kg776, kg5, kg777, ⟨by decide +kernel, by decide +kernel, by decide +kernel⟩, by decide⟩
theorem kc_X1_155 : jKN RX1 155 mX6_isReference 1 := ⟨⟨"MacroBench", by decide +kernel⟩, kg788, kg1, kg789, ⟨by decide +kernel, by decide +kernel, by decide +kernel⟩, by decide⟩
theorem kc_X1_174 : jKN RX1 174 mX6_setAt 3 := ⟨⟨"MacroBench", by decide +kernel⟩, kg685, kg1, kg686, ⟨by decide +kernel, by decide +kernel, by decide +kernel⟩, by decide⟩
theorem kc_X1_178 : jKN RX1 178 mX6_at 2 := ⟨⟨"MacroBench", by decide +kernel⟩, kg638, kg1, kg639, ⟨by decide +kernel, by decide +kernel, by decide +kernel⟩, by decide⟩
theorem kc_X1_188 : jKS RX1 188 mX1_placeOf 2 := ⟨kg722, kg723, kg5, kg724, ⟨by decide +kernel, by decide +kernel, by decide +kernel⟩, by decide⟩
theorem kc_X1_191 : jKN RX1 191 mX6_isArgument 1 := ⟨⟨"MacroBench", by decide +kernel⟩, kg716, kg1, kg717, ⟨by decide +kernel, by decide +kernel, by decide +kernel⟩, by decide⟩
theorem kc_X2_26 : jKN RX2 26 mX6_at 2 := ⟨⟨"MacroBench", by decide +kernel⟩, kg638, kg1, kg639, ⟨by decide +kernel, by decide +kernel, by decide +kernel⟩, by decide⟩
theorem kc_X3_37 : jKN RX3 37 mX6_at 2 := ⟨⟨"MacroBench", by decide +kernel⟩, kg638, kg1, kg639, ⟨by decide +kernel, by decide +kernel, by decide +kernel⟩, by decide⟩
theorem kc_X3_55 : jKN RX3 55 mX6_setAt 3 := ⟨⟨"MacroBench", by decide +kernel⟩, kg685, kg1, kg686, ⟨by decide +kernel, by decide +kernel, by decide +kernel⟩, by decide⟩
theorem kc_X3_59 : jKN RX3 59 mX6_isReference 1 := ⟨⟨"MacroBench", by decide +kernel⟩, kg788, kg1, kg789, ⟨by decide +kernel, by decide +kernel, by decide +kernel⟩, by decide⟩
theorem kc_X3_79 : jKS RX3 79 mX3_wordsToMultiple 2 := ⟨kg825, kg826, kg3, kg827, ⟨by decide +kernel, by decide +kernel, by decide +kernel⟩, by decide⟩
theorem kc_X3_85 : jKS RX3 85 mX3_isShortDistance 1 := ⟨kg848, kg849, kg3, kg850, ⟨by decide +kernel, by decide +kernel, by decide +kernel⟩, by decide⟩
theorem kc_X4_42 : jKS RX4 42 mJ7_fill_fda19 4 := ⟨kg290, kg291, kg16, kg292, ⟨by decide +kernel, by decide +kernel, by decide +kernel⟩, by decide⟩
theorem kc_X4_51 : jKN RX4 51 mX6_at 2 := ⟨⟨"MacroBench", by decide +kernel⟩, kg638, kg1, kg639, ⟨by decide +kernel, by decide +kernel, by decide +kernel⟩, by decide⟩
theorem kc_X4_70 : jKN RX4 70 mX6_setAt 3 := ⟨⟨"MacroBench", by decide +kernel⟩, kg685, kg1, kg686, ⟨by decide +kernel, by decide +kernel, by decide +kernel⟩, by decide⟩
theorem kc_X5_103 : jKN RX5 103 mX6_valueOfOperand 3 := ⟨⟨"MacroBench", by decide +kernel⟩, kg767, kg1, kg768, ⟨by decide +kernel, by decide +kernel, by decide +kernel⟩, by decide⟩
theorem kc_X5_113 : jKN RX5 113 mX6_isArgument 1 := ⟨⟨"MacroBench", by decide +kernel⟩, kg716, kg1, kg717, ⟨by decide +kernel, by decide +kernel, by decide +kernel⟩, by decide⟩
theorem kc_X5_40 : jKN RX5 40 mX6_at 2 := ⟨⟨"MacroBench", by decide +kernel⟩, kg638, kg1, kg639, ⟨by decide +kernel, by decide +kernel, by decide +kernel⟩, by decide⟩
theorem kc_X5_51 : jKN RX5 51 mX6_greatestOperand 1 := ⟨⟨"MacroBench", by decide +kernel⟩, kg709, kg1, kg710, ⟨by decide +kernel, by decide +kernel, by decide +kernel⟩, by decide⟩
theorem kc_X5_70 : jKN RX5 70 mX6_beginsGroup 1 := ⟨⟨"MacroBench", by decide +kernel⟩, kg735, kg1, kg736, ⟨by decide +kernel, by decide +kernel, by decide +kernel⟩, by decide⟩
theorem kc_X5_74 : jKN RX5 74 mX6_setAt 3 := ⟨⟨"MacroBench", by decide +kernel⟩, kg685, kg1, kg686, ⟨by decide +kernel, by decide +kernel, by decide +kernel⟩, by decide⟩
theorem kc_L_130 : jKH RL 130 mL_label 3 := ⟨kg882, kg883, kg0, kg884, ⟨by decide +kernel, by decide +kernel, by decide +kernel⟩, by decide⟩
theorem kc_L_139 : jKH RL 139 mL_word 3 := ⟨kg926, kg927, kg0, kg928, ⟨by decide +kernel, by decide +kernel, by decide +kernel⟩, by decide⟩
theorem kc_L_142 : jKH RL 142 mL_operation 4 := ⟨kg933, kg934, kg0, kg935, ⟨by decide +kernel, by decide +kernel, by decide +kernel⟩, by decide⟩
theorem kc_L_146 : jKH RL 146 mL_jump 3 := ⟨kg943, kg944, kg0, kg945, ⟨by decide +kernel, by decide +kernel, by decide +kernel⟩, by decide⟩
theorem kc_L_149 : jKH RL 149 mL_address 3 := ⟨kg950, kg951, kg0, kg952, ⟨by decide +kernel, by decide +kernel, by decide +kernel⟩, by decide⟩
theorem kc_L_152 : jKH RL 152 mL_align 3 := ⟨kg957, kg958, kg0, kg959, ⟨by decide +kernel, by decide +kernel, by decide +kernel⟩, by decide⟩
theorem kc_L_155 : jKH RL 155 mL_call 5 := ⟨kg965, kg966, kg0, kg967, ⟨by decide +kernel, by decide +kernel, by decide +kernel⟩, by decide⟩
theorem kc_L_159 : jKH RL 159 mL_block 2 := ⟨kg993, kg994, kg0, kg995, ⟨by decide +kernel, by decide +kernel, by decide +kernel⟩, by decide⟩
theorem kc_L_163 : jKH RL 163 mL_loop 3 := ⟨kg1000, kg1001, kg0, kg1002, ⟨by decide +kernel, by decide +kernel, by decide +kernel⟩, by decide⟩
theorem kc_L_166 : jKH RL 166 mL_when 4 := ⟨kg1007, kg1008, kg0, kg1009, ⟨by decide +kernel, by decide +kernel, by decide +kernel⟩, by decide⟩
theorem kc_L_169 : jKH RL 169 mL_end 2 := ⟨kg1014, kg1015, kg0, kg1016, ⟨by decide +kernel, by decide +kernel, by decide +kernel⟩, by decide⟩
theorem kc_L_172 : jKH RL 172 mL_macro 2 := ⟨kg1047, kg1048, kg0, kg1049, ⟨by decide +kernel, by decide +kernel, by decide +kernel⟩, by decide⟩
theorem kc_L_175 : jKH RL 175 mL_endMacro 2 := ⟨kg1060, kg1061, kg0, kg1062, ⟨by decide +kernel, by decide +kernel, by decide +kernel⟩, by decide⟩
theorem kc_L_194 : jKH RL 194 mL_fault 2 := ⟨kg1072, kg1073, kg0, kg1074, ⟨by decide +kernel, by decide +kernel, by decide +kernel⟩, by decide⟩
theorem kc_L_197 : jKH RL 197 mL_faultLine 2 := ⟨kg1080, kg1081, kg0, kg1082, ⟨by decide +kernel, by decide +kernel, by decide +kernel⟩, by decide⟩
theorem kc_L_200 : jKH RL 200 mL_itemsByCounting 2 := ⟨kg1092, kg1093, kg0, kg1094, ⟨by decide +kernel, by decide +kernel, by decide +kernel⟩, by decide⟩
theorem kc_L_203 : jKH RL 203 mL_words 2 := ⟨kg1158, kg1159, kg0, kg1160, ⟨by decide +kernel, by decide +kernel, by decide +kernel⟩, by decide⟩
theorem kc_L_206 : jKH RL 206 mL_wordAt 3 := ⟨kg1170, kg1171, kg0, kg1172, ⟨by decide +kernel, by decide +kernel, by decide +kernel⟩, by decide⟩
theorem kc_L_209 : jKH RL 209 mL_relocations 2 := ⟨kg1202, kg1203, kg0, kg1204, ⟨by decide +kernel, by decide +kernel, by decide +kernel⟩, by decide⟩
theorem kc_L_212 : jKH RL 212 mL_loadedWord 4 := ⟨kg1213, kg1214, kg0, kg1215, ⟨by decide +kernel, by decide +kernel, by decide +kernel⟩, by decide⟩
theorem kc_L_215 : jKH RL 215 mL_labelAddress 3 := ⟨kg1225, kg1226, kg0, kg1227, ⟨by decide +kernel, by decide +kernel, by decide +kernel⟩, by decide⟩
theorem kc_L_218 : jKH RL 218 mL_passes 2 := ⟨kg1235, kg1236, kg0, kg1237, ⟨by decide +kernel, by decide +kernel, by decide +kernel⟩, by decide⟩
theorem kc_L_221 : jKH RL 221 mL_longJumps 2 := ⟨kg1246, kg1247, kg0, kg1248, ⟨by decide +kernel, by decide +kernel, by decide +kernel⟩, by decide⟩
theorem kc_L_224 : jKH RL 224 mL_items 2 := ⟨kg1257, kg1258, kg0, kg1259, ⟨by decide +kernel, by decide +kernel, by decide +kernel⟩, by decide⟩
theorem kc_L_227 : jKH RL 227 mL_lineOf 3 := ⟨kg1265, kg1266, kg0, kg1267, ⟨by decide +kernel, by decide +kernel, by decide +kernel⟩, by decide⟩
theorem kc_L_230 : jKH RL 230 mL_kindOf 3 := ⟨kg1278, kg1279, kg0, kg1280, ⟨by decide +kernel, by decide +kernel, by decide +kernel⟩, by decide⟩
theorem kc_L_233 : jKH RL 233 mL_depthOf 3 := ⟨kg1286, kg1287, kg0, kg1288, ⟨by decide +kernel, by decide +kernel, by decide +kernel⟩, by decide⟩
theorem kc_L_236 : jKH RL 236 mL_addressOf 3 := ⟨kg1297, kg1298, kg0, kg1299, ⟨by decide +kernel, by decide +kernel, by decide +kernel⟩, by decide⟩
theorem kc_L_239 : jKH RL 239 mL_addressByAdding 3 := ⟨kg1304, kg1305, kg0, kg1306, ⟨by decide +kernel, by decide +kernel, by decide +kernel⟩, by decide⟩
theorem kc_L_242 : jKH RL 242 mL_targetOf 3 := ⟨kg1315, kg1316, kg0, kg1317, ⟨by decide +kernel, by decide +kernel, by decide +kernel⟩, by decide⟩
theorem kc_L_245 : jKH RL 245 mL_shortShare 2 := ⟨kg1324, kg1325, kg0, kg1326, ⟨by decide +kernel, by decide +kernel, by decide +kernel⟩, by decide⟩
theorem kc_L_249 : jKH RL 249 mL_meanWord 2 := ⟨kg1348, kg1349, kg0, kg1350, ⟨by decide +kernel, by decide +kernel, by decide +kernel⟩, by decide⟩
theorem kc_X7_127 : jKS RX7 127 mX7_most 1 := ⟨kg1579, kg1580, kg8, kg1581, ⟨by decide +kernel, by decide +kernel, by decide +kernel⟩, by decide⟩
theorem kc_X7_205 : jKS RX7 205 mX7_less 1 := ⟨kg1646, kg1647, kg8, kg1648, ⟨by decide +kernel, by decide +kernel, by decide +kernel⟩, by decide⟩
theorem kc_X7_85 : jKS RX7 85 mX7_in 3 := ⟨kg1484, kg1485, kg8, kg1486, ⟨by decide +kernel, by decide +kernel, by decide +kernel⟩, by decide⟩
theorem kc_J7_13 : jKS RJ7 13 mJ7_rangeCheck_23922 3 := ⟨kg293, kg294, kg16, kg295, ⟨by decide +kernel, by decide +kernel, by decide +kernel⟩, by decide⟩
theorem kc_X0_100 : jKV RX0 100 1 mX5_second 1 := ⟨5, _, RX5, TX5, 11, rfl, by decide, rfl, rfl, kg1133, kg726, kg727, kg2, kg728, ⟨by decide +kernel, by decide +kernel, by decide +kernel⟩, by decide⟩
theorem kc_X0_103 : jKV RX0 103 6 mX0_countMacro 3 := ⟨0, _, RX0, TX0, 5, rfl, by decide, rfl, rfl, kg1134, kg1136, kp25, kg7, kg1137, ⟨by decide +kernel, by decide +kernel, by decide +kernel⟩, by decide⟩
theorem kc_X0_112 : jKV RX0 112 6 mX0_placeOf 1 := ⟨0, _, RX0, TX0, 5, rfl, by decide, rfl, rfl, kg1144, kg1146, kp27, kg7, kg1147, ⟨by decide +kernel, by decide +kernel, by decide +kernel⟩, by decide⟩
theorem kc_X0_30 : jKV RX0 30 1 mX5_size 0 := ⟨5, _, RX5, TX5, 11, rfl, by decide, rfl, rfl, kg1107, kg255, kg256, kg2, kg257, ⟨by decide +kernel, by decide +kernel, by decide +kernel⟩, by decide⟩
theorem kc_X0_36 : jKV RX0 36 6 mX0_countLines 5 := ⟨0, _, RX0, TX0, 5, rfl, by decide, rfl, rfl, kg1108, kg1110, kp23, kg7, kg1111, ⟨by decide +kernel, by decide +kernel, by decide +kernel⟩, by decide⟩
theorem kc_X0_44 : jKV RX0 44 6 mX0_recall 1 := ⟨0, _, RX0, TX0, 5, rfl, by decide, rfl, rfl, kg1140, kg1142, kp26, kg7, kg1143, ⟨by decide +kernel, by decide +kernel, by decide +kernel⟩, by decide⟩
theorem kc_X0_48 : jKV RX0 48 1 mX5_macroLine 1 := ⟨5, _, RX5, TX5, 11, rfl, by decide, rfl, rfl, kg1150, kg754, kg755, kg2, kg756, ⟨by decide +kernel, by decide +kernel, by decide +kernel⟩, by decide⟩
theorem kc_X0_52 : jKV RX0 52 1 mX5_partner 1 := ⟨5, _, RX5, TX5, 11, rfl, by decide, rfl, rfl, kg1113, kg655, kg656, kg2, kg657, ⟨by decide +kernel, by decide +kernel, by decide +kernel⟩, by decide⟩
theorem kc_X0_55 : jKV RX0 55 6 mX0_remember 2 := ⟨0, _, RX0, TX0, 5, rfl, by decide, rfl, rfl, kg1151, kg1153, kp28, kg7, kg1154, ⟨by decide +kernel, by decide +kernel, by decide +kernel⟩, by decide⟩
theorem kc_X0_59 : jKV RX0 59 1 mX5_kind 1 := ⟨5, _, RX5, TX5, 11, rfl, by decide, rfl, rfl, kg1112, kg651, kg652, kg2, kg653, ⟨by decide +kernel, by decide +kernel, by decide +kernel⟩, by decide⟩
theorem kc_X0_76 : jKV RX0 76 1 mX5_rounds 3 := ⟨5, _, RX5, TX5, 11, rfl, by decide, rfl, rfl, kg1117, kg762, kg763, kg2, kg764, ⟨by decide +kernel, by decide +kernel, by decide +kernel⟩, by decide⟩
theorem kc_X0_87 : jKV RX0 87 6 mX0_countCall 4 := ⟨0, _, RX0, TX0, 5, rfl, by decide, rfl, rfl, kg1126, kg1128, kp24, kg7, kg1129, ⟨by decide +kernel, by decide +kernel, by decide +kernel⟩, by decide⟩
theorem kc_X0_91 : jKV RX0 91 1 mX5_fixed 1 := ⟨5, _, RX5, TX5, 11, rfl, by decide, rfl, rfl, kg1130, kg750, kg751, kg2, kg752, ⟨by decide +kernel, by decide +kernel, by decide +kernel⟩, by decide⟩
theorem kc_X0_94 : jKV RX0 94 1 mX5_first 1 := ⟨5, _, RX5, TX5, 11, rfl, by decide, rfl, rfl, kg1131, kg705, kg706, kg2, kg707, ⟨by decide +kernel, by decide +kernel, by decide +kernel⟩, by decide⟩
theorem kc_X1_101 : jKV RX1 101 4 mX1_faultAt 2 := ⟨1, _, RX1, TX1, 11, rfl, by decide, rfl, rfl, kg700, kg702, kp5, kg5, kg703, ⟨by decide +kernel, by decide +kernel, by decide +kernel⟩, by decide⟩
theorem kc_X1_105 : jKV RX1 105 4 mX1_enterMacro 1 := ⟨1, _, RX1, TX1, 11, rfl, by decide, rfl, rfl, kg741, kg743, kp9, kg5, kg744, ⟨by decide +kernel, by decide +kernel, by decide +kernel⟩, by decide⟩
theorem kc_X1_112 : jKV RX1 112 4 mX1_beginGroup 2 := ⟨1, _, RX1, TX1, 11, rfl, by decide, rfl, rfl, kg757, kg759, kp11, kg5, kg760, ⟨by decide +kernel, by decide +kernel, by decide +kernel⟩, by decide⟩
theorem kc_X1_115 : jKV RX1 115 4 mX1_addItem 2 := ⟨1, _, RX1, TX1, 11, rfl, by decide, rfl, rfl, kg771, kg773, kp12, kg5, kg774, ⟨by decide +kernel, by decide +kernel, by decide +kernel⟩, by decide⟩
theorem kc_X1_118 : jKV RX1 118 1 mX5_first 1 := ⟨5, _, RX5, TX5, 11, rfl, by decide, rfl, rfl, kg704, kg705, kg706, kg2, kg707, ⟨by decide +kernel, by decide +kernel, by decide +kernel⟩, by decide⟩
theorem kc_X1_124 : jKV RX1 124 4 mX1_valueOf 1 := ⟨1, _, RX1, TX1, 11, rfl, by decide, rfl, rfl, kg711, kg713, kp6, kg5, kg714, ⟨by decide +kernel, by decide +kernel, by decide +kernel⟩, by decide⟩
theorem kc_X1_127 : jKV RX1 127 1 mX5_second 1 := ⟨5, _, RX5, TX5, 11, rfl, by decide, rfl, rfl, kg725, kg726, kg727, kg2, kg728, ⟨by decide +kernel, by decide +kernel, by decide +kernel⟩, by decide⟩
theorem kc_X1_130 : jKV RX1 130 4 mX1_scopeOf 1 := ⟨1, _, RX1, TX1, 11, rfl, by decide, rfl, rfl, kg729, kg731, kp8, kg5, kg732, ⟨by decide +kernel, by decide +kernel, by decide +kernel⟩, by decide⟩
theorem kc_X1_133 : jKV RX1 133 3 mX4_labelIn 2 := ⟨4, _, RX4, TX4, 6, rfl, by decide, rfl, rfl, kg733, kg677, kg678, kg4, kg679, ⟨by decide +kernel, by decide +kernel, by decide +kernel⟩, by decide⟩
theorem kc_X1_136 : jKV RX1 136 2 mX3_isFull 0 := ⟨3, _, RX3, TX3, 8, rfl, by decide, rfl, rfl, kg737, kg738, kg739, kg3, kg740, ⟨by decide +kernel, by decide +kernel, by decide +kernel⟩, by decide⟩
theorem kc_X1_140 : jKV RX1 140 1 mX5_fixed 1 := ⟨5, _, RX5, TX5, 11, rfl, by decide, rfl, rfl, kg749, kg750, kg751, kg2, kg752, ⟨by decide +kernel, by decide +kernel, by decide +kernel⟩, by decide⟩
theorem kc_X1_147 : jKV RX1 147 2 mX3_add 4 := ⟨3, _, RX3, TX3, 8, rfl, by decide, rfl, rfl, kg778, kg779, kg780, kg3, kg781, ⟨by decide +kernel, by decide +kernel, by decide +kernel⟩, by decide⟩
theorem kc_X1_151 : jKV RX1 151 3 mX4_define 3 := ⟨4, _, RX4, TX4, 6, rfl, by decide, rfl, rfl, kg783, kg784, kg785, kg4, kg786, ⟨by decide +kernel, by decide +kernel, by decide +kernel⟩, by decide⟩
theorem kc_X1_158 : jKV RX1 158 3 mX4_setHome 2 := ⟨4, _, RX4, TX4, 6, rfl, by decide, rfl, rfl, kg790, kg688, kg689, kg4, kg690, ⟨by decide +kernel, by decide +kernel, by decide +kernel⟩, by decide⟩
theorem kc_X1_161 : jKV RX1 161 4 mX1_argument 1 := ⟨1, _, RX1, TX1, 11, rfl, by decide, rfl, rfl, kg718, kg720, kp7, kg5, kg721, ⟨by decide +kernel, by decide +kernel, by decide +kernel⟩, by decide⟩
theorem kc_X1_164 : jKV RX1 164 1 mX5_rounds 3 := ⟨5, _, RX5, TX5, 11, rfl, by decide, rfl, rfl, kg761, kg762, kg763, kg2, kg764, ⟨by decide +kernel, by decide +kernel, by decide +kernel⟩, by decide⟩
theorem kc_X1_167 : jKV RX1 167 3 mX4_current 0 := ⟨4, _, RX4, TX4, 6, rfl, by decide, rfl, rfl, kg698, kg667, kg668, kg4, kg669, ⟨by decide +kernel, by decide +kernel, by decide +kernel⟩, by decide⟩
theorem kc_X1_170 : jKV RX1 170 3 mX4_open 1 := ⟨4, _, RX4, TX4, 6, rfl, by decide, rfl, rfl, kg699, kg283, kg284, kg4, kg285, ⟨by decide +kernel, by decide +kernel, by decide +kernel⟩, by decide⟩
theorem kc_X1_182 : jKV RX1 182 4 mX1_pass 3 := ⟨1, _, RX1, TX1, 11, rfl, by decide, rfl, rfl, kg745, kg747, kp10, kg5, kg748, ⟨by decide +kernel, by decide +kernel, by decide +kernel⟩, by decide⟩
theorem kc_X1_185 : jKV RX1 185 1 mX5_macroLine 1 := ⟨5, _, RX5, TX5, 11, rfl, by decide, rfl, rfl, kg753, kg754, kg755, kg2, kg756, ⟨by decide +kernel, by decide +kernel, by decide +kernel⟩, by decide⟩
theorem kc_X1_43 : jKV RX1 43 2 mX3_removeAll 0 := ⟨3, _, RX3, TX3, 8, rfl, by decide, rfl, rfl, kg274, kg275, kg276, kg3, kg277, ⟨by decide +kernel, by decide +kernel, by decide +kernel⟩, by decide⟩
theorem kc_X1_48 : jKV RX1 48 3 mX4_reset 0 := ⟨4, _, RX4, TX4, 6, rfl, by decide, rfl, rfl, kg278, kg279, kg280, kg4, kg281, ⟨by decide +kernel, by decide +kernel, by decide +kernel⟩, by decide⟩
theorem kc_X1_59 : jKV RX1 59 1 mX5_unfinishedLine 0 := ⟨5, _, RX5, TX5, 11, rfl, by decide, rfl, rfl, kg633, kg634, kg635, kg2, kg636, ⟨by decide +kernel, by decide +kernel, by decide +kernel⟩, by decide⟩
theorem kc_X1_65 : jKV RX1 65 4 mX1_fail 2 := ⟨1, _, RX1, TX1, 11, rfl, by decide, rfl, rfl, kg640, kg642, kp1, kg5, kg643, ⟨by decide +kernel, by decide +kernel, by decide +kernel⟩, by decide⟩
theorem kc_X1_70 : jKV RX1 70 1 mX5_size 0 := ⟨5, _, RX5, TX5, 11, rfl, by decide, rfl, rfl, kg645, kg255, kg256, kg2, kg257, ⟨by decide +kernel, by decide +kernel, by decide +kernel⟩, by decide⟩
theorem kc_X1_73 : jKV RX1 73 4 mX1_expandLine 1 := ⟨1, _, RX1, TX1, 11, rfl, by decide, rfl, rfl, kg646, kg648, kp2, kg5, kg649, ⟨by decide +kernel, by decide +kernel, by decide +kernel⟩, by decide⟩
theorem kc_X1_77 : jKV RX1 77 4 mX1_findNames 0 := ⟨1, _, RX1, TX1, 11, rfl, by decide, rfl, rfl, kg791, kg793, kp13, kg5, kg794, ⟨by decide +kernel, by decide +kernel, by decide +kernel⟩, by decide⟩
theorem kc_X1_80 : jKV RX1 80 3 mX4_close 0 := ⟨4, _, RX4, TX4, 6, rfl, by decide, rfl, rfl, kg662, kg663, kg664, kg4, kg665, ⟨by decide +kernel, by decide +kernel, by decide +kernel⟩, by decide⟩
theorem kc_X1_83 : jKV RX1 83 2 mX3_firstWithoutTarget 0 := ⟨3, _, RX3, TX3, 8, rfl, by decide, rfl, rfl, kg795, kg796, kg797, kg3, kg798, ⟨by decide +kernel, by decide +kernel, by decide +kernel⟩, by decide⟩
theorem kc_X1_86 : jKV RX1 86 2 mX3_line 1 := ⟨3, _, RX3, TX3, 8, rfl, by decide, rfl, rfl, kg800, kg801, kg802, kg3, kg803, ⟨by decide +kernel, by decide +kernel, by decide +kernel⟩, by decide⟩
theorem kc_X1_89 : jKV RX1 89 1 mX5_kind 1 := ⟨5, _, RX5, TX5, 11, rfl, by decide, rfl, rfl, kg650, kg651, kg652, kg2, kg653, ⟨by decide +kernel, by decide +kernel, by decide +kernel⟩, by decide⟩
theorem kc_X1_92 : jKV RX1 92 1 mX5_partner 1 := ⟨5, _, RX5, TX5, 11, rfl, by decide, rfl, rfl, kg654, kg655, kg656, kg2, kg657, ⟨by decide +kernel, by decide +kernel, by decide +kernel⟩, by decide⟩
theorem kc_X1_95 : jKV RX1 95 4 mX1_leaveMacro 1 := ⟨1, _, RX1, TX1, 11, rfl, by decide, rfl, rfl, kg658, kg660, kp3, kg5, kg661, ⟨by decide +kernel, by decide +kernel, by decide +kernel⟩, by decide⟩
theorem kc_X1_98 : jKV RX1 98 4 mX1_endRound 1 := ⟨1, _, RX1, TX1, 11, rfl, by decide, rfl, rfl, kg693, kg695, kp4, kg5, kg696, ⟨by decide +kernel, by decide +kernel, by decide +kernel⟩, by decide⟩
theorem kc_X2_30 : jKV RX2 30 2 mX3_size 0 := ⟨3, _, RX3, TX3, 8, rfl, by decide, rfl, rfl, kg855, kg287, kg288, kg3, kg289, ⟨by decide +kernel, by decide +kernel, by decide +kernel⟩, by decide⟩
theorem kc_X2_36 : jKV RX2 36 5 mX2_writeItem 2 := ⟨2, _, RX2, TX2, 4, rfl, by decide, rfl, rfl, kg856, kg858, kp16, kg6, kg859, ⟨by decide +kernel, by decide +kernel, by decide +kernel⟩, by decide⟩
theorem kc_X2_40 : jKV RX2 40 2 mX3_kind 1 := ⟨3, _, RX3, TX3, 8, rfl, by decide, rfl, rfl, kg860, kg821, kg822, kg3, kg823, ⟨by decide +kernel, by decide +kernel, by decide +kernel⟩, by decide⟩
theorem kc_X2_44 : jKV RX2 44 2 mX3_value 1 := ⟨3, _, RX3, TX3, 8, rfl, by decide, rfl, rfl, kg861, kg672, kg673, kg3, kg674, ⟨by decide +kernel, by decide +kernel, by decide +kernel⟩, by decide⟩
theorem kc_X2_47 : jKV RX2 47 5 mX2_put 1 := ⟨2, _, RX2, TX2, 4, rfl, by decide, rfl, rfl, kg862, kg864, kp17, kg6, kg865, ⟨by decide +kernel, by decide +kernel, by decide +kernel⟩, by decide⟩
theorem kc_X2_51 : jKV RX2 51 2 mX3_targetAddress 1 := ⟨3, _, RX3, TX3, 8, rfl, by decide, rfl, rfl, kg866, kg837, kg838, kg3, kg839, ⟨by decide +kernel, by decide +kernel, by decide +kernel⟩, by decide⟩
theorem kc_X2_54 : jKV RX2 54 5 mX2_putAddress 1 := ⟨2, _, RX2, TX2, 4, rfl, by decide, rfl, rfl, kg867, kg869, kp18, kg6, kg870, ⟨by decide +kernel, by decide +kernel, by decide +kernel⟩, by decide⟩
theorem kc_X2_57 : jKV RX2 57 2 mX3_distance 1 := ⟨3, _, RX3, TX3, 8, rfl, by decide, rfl, rfl, kg871, kg833, kg834, kg3, kg835, ⟨by decide +kernel, by decide +kernel, by decide +kernel⟩, by decide⟩
theorem kc_X2_60 : jKV RX2 60 2 mX3_addressAt 1 := ⟨3, _, RX3, TX3, 8, rfl, by decide, rfl, rfl, kg872, kg845, kg846, kg3, kg847, ⟨by decide +kernel, by decide +kernel, by decide +kernel⟩, by decide⟩
theorem kc_X2_63 : jKV RX2 63 2 mX3_wordsTaken 2 := ⟨3, _, RX3, TX3, 8, rfl, by decide, rfl, rfl, kg873, kg817, kg818, kg3, kg819, ⟨by decide +kernel, by decide +kernel, by decide +kernel⟩, by decide⟩
theorem kc_X2_67 : jKV RX2 67 5 mX2_fill 1 := ⟨2, _, RX2, TX2, 4, rfl, by decide, rfl, rfl, kg874, kg876, kp19, kg6, kg877, ⟨by decide +kernel, by decide +kernel, by decide +kernel⟩, by decide⟩
theorem kc_X3_41 : jKV RX3 41 2 mX3_target 1 := ⟨3, _, RX3, TX3, 8, rfl, by decide, rfl, rfl, kg840, kg841, kg842, kg3, kg843, ⟨by decide +kernel, by decide +kernel, by decide +kernel⟩, by decide⟩
theorem kc_X3_45 : jKV RX3 45 2 mX3_addressAt 1 := ⟨3, _, RX3, TX3, 8, rfl, by decide, rfl, rfl, kg844, kg845, kg846, kg3, kg847, ⟨by decide +kernel, by decide +kernel, by decide +kernel⟩, by decide⟩
theorem kc_X3_48 : jKV RX3 48 2 mX3_targetAddress 1 := ⟨3, _, RX3, TX3, 8, rfl, by decide, rfl, rfl, kg836, kg837, kg838, kg3, kg839, ⟨by decide +kernel, by decide +kernel, by decide +kernel⟩, by decide⟩
theorem kc_X3_51 : jKV RX3 51 2 mX3_isFull 0 := ⟨3, _, RX3, TX3, 8, rfl, by decide, rfl, rfl, kg782, kg738, kg739, kg3, kg740, ⟨by decide +kernel, by decide +kernel, by decide +kernel⟩, by decide⟩
theorem kc_X3_63 : jKV RX3 63 2 mX3_wordsTaken 2 := ⟨3, _, RX3, TX3, 8, rfl, by decide, rfl, rfl, kg816, kg817, kg818, kg3, kg819, ⟨by decide +kernel, by decide +kernel, by decide +kernel⟩, by decide⟩
theorem kc_X3_67 : jKV RX3 67 2 mX3_findAddresses 0 := ⟨3, _, RX3, TX3, 8, rfl, by decide, rfl, rfl, kg812, kg814, kp14, kg3, kg815, ⟨by decide +kernel, by decide +kernel, by decide +kernel⟩, by decide⟩
theorem kc_X3_70 : jKV RX3 70 2 mX3_lengthenJumps 0 := ⟨3, _, RX3, TX3, 8, rfl, by decide, rfl, rfl, kg828, kg830, kp15, kg3, kg831, ⟨by decide +kernel, by decide +kernel, by decide +kernel⟩, by decide⟩
theorem kc_X3_73 : jKV RX3 73 2 mX3_kind 1 := ⟨3, _, RX3, TX3, 8, rfl, by decide, rfl, rfl, kg820, kg821, kg822, kg3, kg823, ⟨by decide +kernel, by decide +kernel, by decide +kernel⟩, by decide⟩
theorem kc_X3_76 : jKV RX3 76 2 mX3_value 1 := ⟨3, _, RX3, TX3, 8, rfl, by decide, rfl, rfl, kg824, kg672, kg673, kg3, kg674, ⟨by decide +kernel, by decide +kernel, by decide +kernel⟩, by decide⟩
theorem kc_X3_82 : jKV RX3 82 2 mX3_distance 1 := ⟨3, _, RX3, TX3, 8, rfl, by decide, rfl, rfl, kg832, kg833, kg834, kg3, kg835, ⟨by decide +kernel, by decide +kernel, by decide +kernel⟩, by decide⟩
theorem kc_X4_32 : jKV RX4 32 3 mX4_open 1 := ⟨4, _, RX4, TX4, 6, rfl, by decide, rfl, rfl, kg282, kg283, kg284, kg4, kg285, ⟨by decide +kernel, by decide +kernel, by decide +kernel⟩, by decide⟩
theorem kc_X4_36 : jKV RX4 36 2 mX3_size 0 := ⟨3, _, RX3, TX3, 8, rfl, by decide, rfl, rfl, kg286, kg287, kg288, kg3, kg289, ⟨by decide +kernel, by decide +kernel, by decide +kernel⟩, by decide⟩
theorem kc_X4_48 : jKV RX4 48 3 mX4_current 0 := ⟨4, _, RX4, TX4, 6, rfl, by decide, rfl, rfl, kg666, kg667, kg668, kg4, kg669, ⟨by decide +kernel, by decide +kernel, by decide +kernel⟩, by decide⟩
theorem kc_X4_55 : jKV RX4 55 2 mX3_value 1 := ⟨3, _, RX3, TX3, 8, rfl, by decide, rfl, rfl, kg671, kg672, kg673, kg3, kg674, ⟨by decide +kernel, by decide +kernel, by decide +kernel⟩, by decide⟩
theorem kc_X4_59 : jKV RX4 59 3 mX4_labelIn 2 := ⟨4, _, RX4, TX4, 6, rfl, by decide, rfl, rfl, kg676, kg677, kg678, kg4, kg679, ⟨by decide +kernel, by decide +kernel, by decide +kernel⟩, by decide⟩
theorem kc_X4_63 : jKV RX4 63 2 mX3_aim 2 := ⟨3, _, RX3, TX3, 8, rfl, by decide, rfl, rfl, kg680, kg681, kg682, kg3, kg683, ⟨by decide +kernel, by decide +kernel, by decide +kernel⟩, by decide⟩
theorem kc_X4_67 : jKV RX4 67 3 mX4_setHome 2 := ⟨4, _, RX4, TX4, 6, rfl, by decide, rfl, rfl, kg687, kg688, kg689, kg4, kg690, ⟨by decide +kernel, by decide +kernel, by decide +kernel⟩, by decide⟩
theorem kc_X5_100 : jKV RX5 100 1 mX5_first 1 := ⟨5, _, RX5, TX5, 11, rfl, by decide, rfl, rfl, kg765, kg705, kg706, kg2, kg707, ⟨by decide +kernel, by decide +kernel, by decide +kernel⟩, by decide⟩
theorem kc_X5_107 : jKV RX5 107 1 mX5_second 1 := ⟨5, _, RX5, TX5, 11, rfl, by decide, rfl, rfl, kg769, kg726, kg727, kg2, kg728, ⟨by decide +kernel, by decide +kernel, by decide +kernel⟩, by decide⟩
theorem kc_X5_110 : jKV RX5 110 1 mX5_kind 1 := ⟨5, _, RX5, TX5, 11, rfl, by decide, rfl, rfl, kg770, kg651, kg652, kg2, kg653, ⟨by decide +kernel, by decide +kernel, by decide +kernel⟩, by decide⟩
theorem kc_X5_55 : jKV RX5 55 1 mX5_isOperand 2 := ⟨5, _, RX5, TX5, 11, rfl, by decide, rfl, rfl, kg896, kg898, kp20, kg2, kg899, ⟨by decide +kernel, by decide +kernel, by decide +kernel⟩, by decide⟩
theorem kc_X5_66 : jKV RX5 66 1 mX5_append 4 := ⟨5, _, RX5, TX5, 11, rfl, by decide, rfl, rfl, kg904, kg906, kp21, kg2, kg907, ⟨by decide +kernel, by decide +kernel, by decide +kernel⟩, by decide⟩
theorem kc_X5_83 : jKV RX5 83 1 mX5_unfinishedLine 0 := ⟨5, _, RX5, TX5, 11, rfl, by decide, rfl, rfl, kg1042, kg634, kg635, kg2, kg636, ⟨by decide +kernel, by decide +kernel, by decide +kernel⟩, by decide⟩
theorem kc_X5_87 : jKV RX5 87 1 mX5_pair 2 := ⟨5, _, RX5, TX5, 11, rfl, by decide, rfl, rfl, kg1043, kg1045, kp22, kg2, kg1046, ⟨by decide +kernel, by decide +kernel, by decide +kernel⟩, by decide⟩
theorem kc_X6_101 : jKV RX6 101 4 mX1_expandProgram 0 := ⟨1, _, RX1, TX1, 11, rfl, by decide, rfl, rfl, kg270, kg271, kg272, kg5, kg273, ⟨by decide +kernel, by decide +kernel, by decide +kernel⟩, by decide⟩
theorem kc_X6_104 : jKV RX6 104 4 mX1_faultKind 0 := ⟨1, _, RX1, TX1, 11, rfl, by decide, rfl, rfl, kg804, kg805, kg806, kg5, kg807, ⟨by decide +kernel, by decide +kernel, by decide +kernel⟩, by decide⟩
theorem kc_X6_107 : jKV RX6 107 2 mX3_place 0 := ⟨3, _, RX3, TX3, 8, rfl, by decide, rfl, rfl, kg808, kg809, kg810, kg3, kg811, ⟨by decide +kernel, by decide +kernel, by decide +kernel⟩, by decide⟩
theorem kc_X6_110 : jKV RX6 110 5 mX2_write 1 := ⟨2, _, RX2, TX2, 4, rfl, by decide, rfl, rfl, kg851, kg852, kg853, kg6, kg854, ⟨by decide +kernel, by decide +kernel, by decide +kernel⟩, by decide⟩
theorem kc_X6_113 : jKV RX6 113 5 mX2_size 0 := ⟨2, _, RX2, TX2, 4, rfl, by decide, rfl, rfl, kg878, kg879, kg880, kg6, kg881, ⟨by decide +kernel, by decide +kernel, by decide +kernel⟩, by decide⟩
theorem kc_X6_118 : jKV RX6 118 4 mX1_lineOfFault 0 := ⟨1, _, RX1, TX1, 11, rfl, by decide, rfl, rfl, kg1088, kg1089, kg1090, kg5, kg1091, ⟨by decide +kernel, by decide +kernel, by decide +kernel⟩, by decide⟩
theorem kc_X6_121 : jKV RX6 121 1 mX5_unfinishedLine 0 := ⟨5, _, RX5, TX5, 11, rfl, by decide, rfl, rfl, kg1099, kg634, kg635, kg2, kg636, ⟨by decide +kernel, by decide +kernel, by decide +kernel⟩, by decide⟩
theorem kc_X6_129 : jKV RX6 129 6 mX0_countProgram 0 := ⟨0, _, RX0, TX0, 5, rfl, by decide, rfl, rfl, kg1103, kg1104, kg1105, kg7, kg1106, ⟨by decide +kernel, by decide +kernel, by decide +kernel⟩, by decide⟩
theorem kc_X6_137 : jKV RX6 137 0 mX6_requireProgram 0 := ⟨6, _, RX6, TX6, 6, rfl, by decide, rfl, rfl, kg1165, kg1167, kp29, kg1, kg1168, ⟨by decide +kernel, by decide +kernel, by decide +kernel⟩, by decide⟩
theorem kc_X6_140 : jKV RX6 140 0 mX6_requireWord 1 := ⟨6, _, RX6, TX6, 6, rfl, by decide, rfl, rfl, kg1180, kg1182, kp30, kg1, kg1183, ⟨by decide +kernel, by decide +kernel, by decide +kernel⟩, by decide⟩
theorem kc_X6_144 : jKV RX6 144 5 mX2_wordOf 1 := ⟨2, _, RX2, TX2, 4, rfl, by decide, rfl, rfl, kg1197, kg1198, kg1199, kg6, kg1200, ⟨by decide +kernel, by decide +kernel, by decide +kernel⟩, by decide⟩
theorem kc_X6_148 : jKV RX6 148 5 mX2_sizeOfRelocations 0 := ⟨2, _, RX2, TX2, 4, rfl, by decide, rfl, rfl, kg1209, kg1210, kg1211, kg6, kg1212, ⟨by decide +kernel, by decide +kernel, by decide +kernel⟩, by decide⟩
theorem kc_X6_153 : jKV RX6 153 5 mX2_holdsAddress 1 := ⟨2, _, RX2, TX2, 4, rfl, by decide, rfl, rfl, kg1221, kg1222, kg1223, kg6, kg1224, ⟨by decide +kernel, by decide +kernel, by decide +kernel⟩, by decide⟩
theorem kc_X6_156 : jKV RX6 156 3 mX4_labelIn 2 := ⟨4, _, RX4, TX4, 6, rfl, by decide, rfl, rfl, kg1232, kg677, kg678, kg4, kg679, ⟨by decide +kernel, by decide +kernel, by decide +kernel⟩, by decide⟩
theorem kc_X6_162 : jKV RX6 162 2 mX3_addressAt 1 := ⟨3, _, RX3, TX3, 8, rfl, by decide, rfl, rfl, kg1234, kg845, kg846, kg3, kg847, ⟨by decide +kernel, by decide +kernel, by decide +kernel⟩, by decide⟩
theorem kc_X6_165 : jKV RX6 165 2 mX3_sizeOfPasses 0 := ⟨3, _, RX3, TX3, 8, rfl, by decide, rfl, rfl, kg1242, kg1243, kg1244, kg3, kg1245, ⟨by decide +kernel, by decide +kernel, by decide +kernel⟩, by decide⟩
theorem kc_X6_168 : jKV RX6 168 2 mX3_countKind 1 := ⟨3, _, RX3, TX3, 8, rfl, by decide, rfl, rfl, kg1253, kg1254, kg1255, kg3, kg1256, ⟨by decide +kernel, by decide +kernel, by decide +kernel⟩, by decide⟩
theorem kc_X6_171 : jKV RX6 171 2 mX3_size 0 := ⟨3, _, RX3, TX3, 8, rfl, by decide, rfl, rfl, kg1264, kg287, kg288, kg3, kg289, ⟨by decide +kernel, by decide +kernel, by decide +kernel⟩, by decide⟩
theorem kc_X6_172 : jKV RX6 172 0 mX6_requireItem 1 := ⟨6, _, RX6, TX6, 6, rfl, by decide, rfl, rfl, kg1272, kg1274, kp31, kg1, kg1275, ⟨by decide +kernel, by decide +kernel, by decide +kernel⟩, by decide⟩
theorem kc_X6_175 : jKV RX6 175 2 mX3_line 1 := ⟨3, _, RX3, TX3, 8, rfl, by decide, rfl, rfl, kg1277, kg801, kg802, kg3, kg803, ⟨by decide +kernel, by decide +kernel, by decide +kernel⟩, by decide⟩
theorem kc_X6_178 : jKV RX6 178 2 mX3_kind 1 := ⟨3, _, RX3, TX3, 8, rfl, by decide, rfl, rfl, kg1285, kg821, kg822, kg3, kg823, ⟨by decide +kernel, by decide +kernel, by decide +kernel⟩, by decide⟩
theorem kc_X6_181 : jKV RX6 181 2 mX3_depth 1 := ⟨3, _, RX3, TX3, 8, rfl, by decide, rfl, rfl, kg1293, kg1294, kg1295, kg3, kg1296, ⟨by decide +kernel, by decide +kernel, by decide +kernel⟩, by decide⟩
theorem kc_X6_184 : jKV RX6 184 2 mX3_wordsBefore 1 := ⟨3, _, RX3, TX3, 8, rfl, by decide, rfl, rfl, kg1311, kg1312, kg1313, kg3, kg1314, ⟨by decide +kernel, by decide +kernel, by decide +kernel⟩, by decide⟩
theorem kc_X6_187 : jKV RX6 187 2 mX3_target 1 := ⟨3, _, RX3, TX3, 8, rfl, by decide, rfl, rfl, kg1322, kg841, kg842, kg3, kg843, ⟨by decide +kernel, by decide +kernel, by decide +kernel⟩, by decide⟩
theorem kc_X6_199 : jKV RX6 199 5 mX2_sum 0 := ⟨2, _, RX2, TX2, 4, rfl, by decide, rfl, rfl, kg1356, kg1357, kg1358, kg6, kg1359, ⟨by decide +kernel, by decide +kernel, by decide +kernel⟩, by decide⟩
theorem kc_X6_57 : jKV RX6 57 1 mX5_feed 4 := ⟨5, _, RX5, TX5, 11, rfl, by decide, rfl, rfl, kg891, kg892, kg893, kg2, kg894, ⟨by decide +kernel, by decide +kernel, by decide +kernel⟩, by decide⟩
theorem kc_X6_70 : jKV RX6 70 1 mX5_isEndedMacro 1 := ⟨5, _, RX5, TX5, 11, rfl, by decide, rfl, rfl, kg973, kg974, kg975, kg2, kg976, ⟨by decide +kernel, by decide +kernel, by decide +kernel⟩, by decide⟩
theorem kc_X6_79 : jKV RX6 79 1 mX5_endGroup 0 := ⟨5, _, RX5, TX5, 11, rfl, by decide, rfl, rfl, kg1022, kg1023, kg1024, kg2, kg1025, ⟨by decide +kernel, by decide +kernel, by decide +kernel⟩, by decide⟩
theorem kc_X6_83 : jKV RX6 83 1 mX5_beginMacro 0 := ⟨5, _, RX5, TX5, 11, rfl, by decide, rfl, rfl, kg1054, kg1055, kg1056, kg2, kg1057, ⟨by decide +kernel, by decide +kernel, by decide +kernel⟩, by decide⟩
theorem kc_X6_86 : jKV RX6 86 1 mX5_finishMacro 0 := ⟨5, _, RX5, TX5, 11, rfl, by decide, rfl, rfl, kg1067, kg1068, kg1069, kg2, kg1070, ⟨by decide +kernel, by decide +kernel, by decide +kernel⟩, by decide⟩
theorem kc_X6_89 : jKV RX6 89 6 mX0_forgetMacros 0 := ⟨0, _, RX0, TX0, 5, rfl, by decide, rfl, rfl, kg242, kg243, kg244, kg7, kg245, ⟨by decide +kernel, by decide +kernel, by decide +kernel⟩, by decide⟩
theorem kc_X6_92 : jKV RX6 92 1 mX5_removeAll 0 := ⟨5, _, RX5, TX5, 11, rfl, by decide, rfl, rfl, kg246, kg247, kg248, kg2, kg249, ⟨by decide +kernel, by decide +kernel, by decide +kernel⟩, by decide⟩
theorem kc_X6_95 : jKV RX6 95 1 mX5_size 0 := ⟨5, _, RX5, TX5, 11, rfl, by decide, rfl, rfl, kg254, kg255, kg256, kg2, kg257, ⟨by decide +kernel, by decide +kernel, by decide +kernel⟩, by decide⟩
theorem kc_X6_98 : jKV RX6 98 1 mX5_sizeOfMacros 0 := ⟨5, _, RX5, TX5, 11, rfl, by decide, rfl, rfl, kg262, kg263, kg264, kg2, kg265, ⟨by decide +kernel, by decide +kernel, by decide +kernel⟩, by decide⟩
theorem kc_L_100 : jKV RL 100 0 mX6_kindOf 1 := ⟨6, _, RX6, TX6, 6, rfl, by decide, rfl, rfl, kg1281, kg1282, kg1283, kg1, kg1284, ⟨by decide +kernel, by decide +kernel, by decide +kernel⟩, by decide⟩
theorem kc_L_104 : jKV RL 104 0 mX6_depthOf 1 := ⟨6, _, RX6, TX6, 6, rfl, by decide, rfl, rfl, kg1289, kg1290, kg1291, kg1, kg1292, ⟨by decide +kernel, by decide +kernel, by decide +kernel⟩, by decide⟩
theorem kc_L_107 : jKV RL 107 0 mX6_addressOf 1 := ⟨6, _, RX6, TX6, 6, rfl, by decide, rfl, rfl, kg1300, kg1301, kg1302, kg1, kg1303, ⟨by decide +kernel, by decide +kernel, by decide +kernel⟩, by decide⟩
theorem kc_L_110 : jKV RL 110 0 mX6_addressByAdding 1 := ⟨6, _, RX6, TX6, 6, rfl, by decide, rfl, rfl, kg1307, kg1308, kg1309, kg1, kg1310, ⟨by decide +kernel, by decide +kernel, by decide +kernel⟩, by decide⟩
theorem kc_L_113 : jKV RL 113 0 mX6_targetOf 1 := ⟨6, _, RX6, TX6, 6, rfl, by decide, rfl, rfl, kg1318, kg1319, kg1320, kg1, kg1321, ⟨by decide +kernel, by decide +kernel, by decide +kernel⟩, by decide⟩
theorem kc_L_116 : jKV RL 116 0 mX6_shortShare 0 := ⟨6, _, RX6, TX6, 6, rfl, by decide, rfl, rfl, kg1341, kg1342, kg1343, kg1, kg1344, ⟨by decide +kernel, by decide +kernel, by decide +kernel⟩, by decide⟩
theorem kc_L_122 : jKV RL 122 0 mX6_meanWord 0 := ⟨6, _, RX6, TX6, 6, rfl, by decide, rfl, rfl, kg1351, kg1352, kg1353, kg1, kg1354, ⟨by decide +kernel, by decide +kernel, by decide +kernel⟩, by decide⟩
theorem kc_L_135 : jKV RL 135 7 mX7_label 1 := ⟨7, _, RX7, TX7, 35, rfl, by decide, rfl, rfl, kg1476, kg1477, kg1478, kg8, kg1479, ⟨by decide +kernel, by decide +kernel, by decide +kernel⟩, by decide⟩
theorem kc_L_136 : jKV RL 136 7 mX7_thrown 0 := ⟨7, _, RX7, TX7, 35, rfl, by decide, rfl, rfl, kg1472, kg1473, kg1474, kg8, kg1475, ⟨by decide +kernel, by decide +kernel, by decide +kernel⟩, by decide⟩
theorem kc_L_141 : jKV RL 141 7 mX7_word 1 := ⟨7, _, RX7, TX7, 35, rfl, by decide, rfl, rfl, kg1499, kg1500, kg1501, kg8, kg1502, ⟨by decide +kernel, by decide +kernel, by decide +kernel⟩, by decide⟩
theorem kc_L_145 : jKV RL 145 7 mX7_operation 2 := ⟨7, _, RX7, TX7, 35, rfl, by decide, rfl, rfl, kg1503, kg1504, kg1505, kg8, kg1506, ⟨by decide +kernel, by decide +kernel, by decide +kernel⟩, by decide⟩
theorem kc_L_148 : jKV RL 148 7 mX7_jump 1 := ⟨7, _, RX7, TX7, 35, rfl, by decide, rfl, rfl, kg1507, kg1508, kg1509, kg8, kg1510, ⟨by decide +kernel, by decide +kernel, by decide +kernel⟩, by decide⟩
theorem kc_L_151 : jKV RL 151 7 mX7_address 1 := ⟨7, _, RX7, TX7, 35, rfl, by decide, rfl, rfl, kg1511, kg1512, kg1513, kg8, kg1514, ⟨by decide +kernel, by decide +kernel, by decide +kernel⟩, by decide⟩
theorem kc_L_154 : jKV RL 154 7 mX7_align 1 := ⟨7, _, RX7, TX7, 35, rfl, by decide, rfl, rfl, kg1515, kg1516, kg1517, kg8, kg1518, ⟨by decide +kernel, by decide +kernel, by decide +kernel⟩, by decide⟩
theorem kc_L_158 : jKV RL 158 7 mX7_call 3 := ⟨7, _, RX7, TX7, 35, rfl, by decide, rfl, rfl, kg1519, kg1520, kg1521, kg8, kg1522, ⟨by decide +kernel, by decide +kernel, by decide +kernel⟩, by decide⟩
theorem kc_L_162 : jKV RL 162 7 mX7_block 0 := ⟨7, _, RX7, TX7, 35, rfl, by decide, rfl, rfl, kg1523, kg1524, kg1525, kg8, kg1526, ⟨by decide +kernel, by decide +kernel, by decide +kernel⟩, by decide⟩
theorem kc_L_165 : jKV RL 165 7 mX7_loop 1 := ⟨7, _, RX7, TX7, 35, rfl, by decide, rfl, rfl, kg1531, kg1532, kg1533, kg8, kg1534, ⟨by decide +kernel, by decide +kernel, by decide +kernel⟩, by decide⟩
theorem kc_L_168 : jKV RL 168 7 mX7_when 2 := ⟨7, _, RX7, TX7, 35, rfl, by decide, rfl, rfl, kg1535, kg1536, kg1537, kg8, kg1538, ⟨by decide +kernel, by decide +kernel, by decide +kernel⟩, by decide⟩
theorem kc_L_17 : jKV RL 17 0 mX6_word 1 := ⟨6, _, RX6, TX6, 6, rfl, by decide, rfl, rfl, kg929, kg930, kg931, kg1, kg932, ⟨by decide +kernel, by decide +kernel, by decide +kernel⟩, by decide⟩
theorem kc_L_171 : jKV RL 171 7 mX7_end 0 := ⟨7, _, RX7, TX7, 35, rfl, by decide, rfl, rfl, kg1539, kg1540, kg1541, kg8, kg1542, ⟨by decide +kernel, by decide +kernel, by decide +kernel⟩, by decide⟩
theorem kc_L_174 : jKV RL 174 7 mX7_macro 0 := ⟨7, _, RX7, TX7, 35, rfl, by decide, rfl, rfl, kg1543, kg1544, kg1545, kg8, kg1546, ⟨by decide +kernel, by decide +kernel, by decide +kernel⟩, by decide⟩
theorem kc_L_177 : jKV RL 177 7 mX7_endMacro 0 := ⟨7, _, RX7, TX7, 35, rfl, by decide, rfl, rfl, kg1547, kg1548, kg1549, kg8, kg1550, ⟨by decide +kernel, by decide +kernel, by decide +kernel⟩, by decide⟩
theorem kc_L_178 : jKV RL 178 0 mX6_clear 0 := ⟨6, _, RX6, TX6, 6, rfl, by decide, rfl, rfl, kg238, kg239, kg240, kg1, kg241, ⟨by decide +kernel, by decide +kernel, by decide +kernel⟩, by decide⟩
theorem kc_L_181 : jKV RL 181 7 mX7_clear 0 := ⟨7, _, RX7, TX7, 35, rfl, by decide, rfl, rfl, kg1551, kg1552, kg1553, kg8, kg1554, ⟨by decide +kernel, by decide +kernel, by decide +kernel⟩, by decide⟩
theorem kc_L_182 : jKV RL 182 0 mX6_lines 0 := ⟨6, _, RX6, TX6, 6, rfl, by decide, rfl, rfl, kg250, kg251, kg252, kg1, kg253, ⟨by decide +kernel, by decide +kernel, by decide +kernel⟩, by decide⟩
theorem kc_L_185 : jKV RL 185 7 mX7_lines 0 := ⟨7, _, RX7, TX7, 35, rfl, by decide, rfl, rfl, kg1555, kg1556, kg1557, kg8, kg1558, ⟨by decide +kernel, by decide +kernel, by decide +kernel⟩, by decide⟩
theorem kc_L_186 : jKV RL 186 0 mX6_macros 0 := ⟨6, _, RX6, TX6, 6, rfl, by decide, rfl, rfl, kg258, kg259, kg260, kg1, kg261, ⟨by decide +kernel, by decide +kernel, by decide +kernel⟩, by decide⟩
theorem kc_L_189 : jKV RL 189 7 mX7_macros 0 := ⟨7, _, RX7, TX7, 35, rfl, by decide, rfl, rfl, kg1559, kg1560, kg1561, kg8, kg1562, ⟨by decide +kernel, by decide +kernel, by decide +kernel⟩, by decide⟩
theorem kc_L_190 : jKV RL 190 0 mX6_assemble 0 := ⟨6, _, RX6, TX6, 6, rfl, by decide, rfl, rfl, kg266, kg267, kg268, kg1, kg269, ⟨by decide +kernel, by decide +kernel, by decide +kernel⟩, by decide⟩
theorem kc_L_193 : jKV RL 193 7 mX7_assemble 0 := ⟨7, _, RX7, TX7, 35, rfl, by decide, rfl, rfl, kg1563, kg1564, kg1565, kg8, kg1566, ⟨by decide +kernel, by decide +kernel, by decide +kernel⟩, by decide⟩
theorem kc_L_196 : jKV RL 196 7 mX7_fault 0 := ⟨7, _, RX7, TX7, 35, rfl, by decide, rfl, rfl, kg1626, kg1627, kg1628, kg8, kg1629, ⟨by decide +kernel, by decide +kernel, by decide +kernel⟩, by decide⟩
theorem kc_L_199 : jKV RL 199 7 mX7_faultLine 0 := ⟨7, _, RX7, TX7, 35, rfl, by decide, rfl, rfl, kg1630, kg1631, kg1632, kg8, kg1633, ⟨by decide +kernel, by decide +kernel, by decide +kernel⟩, by decide⟩
theorem kc_L_20 : jKV RL 20 0 mX6_operation 2 := ⟨6, _, RX6, TX6, 6, rfl, by decide, rfl, rfl, kg936, kg937, kg938, kg1, kg939, ⟨by decide +kernel, by decide +kernel, by decide +kernel⟩, by decide⟩
theorem kc_L_202 : jKV RL 202 7 mX7_itemsByCounting 0 := ⟨7, _, RX7, TX7, 35, rfl, by decide, rfl, rfl, kg1634, kg1635, kg1636, kg8, kg1637, ⟨by decide +kernel, by decide +kernel, by decide +kernel⟩, by decide⟩
theorem kc_L_205 : jKV RL 205 7 mX7_words 0 := ⟨7, _, RX7, TX7, 35, rfl, by decide, rfl, rfl, kg1651, kg1652, kg1653, kg8, kg1654, ⟨by decide +kernel, by decide +kernel, by decide +kernel⟩, by decide⟩
theorem kc_L_208 : jKV RL 208 7 mX7_wordAt 1 := ⟨7, _, RX7, TX7, 35, rfl, by decide, rfl, rfl, kg1659, kg1660, kg1661, kg8, kg1662, ⟨by decide +kernel, by decide +kernel, by decide +kernel⟩, by decide⟩
theorem kc_L_211 : jKV RL 211 7 mX7_relocations 0 := ⟨7, _, RX7, TX7, 35, rfl, by decide, rfl, rfl, kg1667, kg1668, kg1669, kg8, kg1670, ⟨by decide +kernel, by decide +kernel, by decide +kernel⟩, by decide⟩
theorem kc_L_214 : jKV RL 214 7 mX7_loadedWord 2 := ⟨7, _, RX7, TX7, 35, rfl, by decide, rfl, rfl, kg1671, kg1672, kg1673, kg8, kg1674, ⟨by decide +kernel, by decide +kernel, by decide +kernel⟩, by decide⟩
theorem kc_L_217 : jKV RL 217 7 mX7_labelAddress 1 := ⟨7, _, RX7, TX7, 35, rfl, by decide, rfl, rfl, kg1675, kg1676, kg1677, kg8, kg1678, ⟨by decide +kernel, by decide +kernel, by decide +kernel⟩, by decide⟩
theorem kc_L_220 : jKV RL 220 7 mX7_passes 0 := ⟨7, _, RX7, TX7, 35, rfl, by decide, rfl, rfl, kg1679, kg1680, kg1681, kg8, kg1682, ⟨by decide +kernel, by decide +kernel, by decide +kernel⟩, by decide⟩
theorem kc_L_223 : jKV RL 223 7 mX7_longJumps 0 := ⟨7, _, RX7, TX7, 35, rfl, by decide, rfl, rfl, kg1683, kg1684, kg1685, kg8, kg1686, ⟨by decide +kernel, by decide +kernel, by decide +kernel⟩, by decide⟩
theorem kc_L_226 : jKV RL 226 7 mX7_items 0 := ⟨7, _, RX7, TX7, 35, rfl, by decide, rfl, rfl, kg1691, kg1692, kg1693, kg8, kg1694, ⟨by decide +kernel, by decide +kernel, by decide +kernel⟩, by decide⟩
theorem kc_L_229 : jKV RL 229 7 mX7_lineOf 1 := ⟨7, _, RX7, TX7, 35, rfl, by decide, rfl, rfl, kg1695, kg1696, kg1697, kg8, kg1698, ⟨by decide +kernel, by decide +kernel, by decide +kernel⟩, by decide⟩
theorem kc_L_232 : jKV RL 232 7 mX7_kindOf 1 := ⟨7, _, RX7, TX7, 35, rfl, by decide, rfl, rfl, kg1703, kg1704, kg1705, kg8, kg1706, ⟨by decide +kernel, by decide +kernel, by decide +kernel⟩, by decide⟩
theorem kc_L_235 : jKV RL 235 7 mX7_depthOf 1 := ⟨7, _, RX7, TX7, 35, rfl, by decide, rfl, rfl, kg1707, kg1708, kg1709, kg8, kg1710, ⟨by decide +kernel, by decide +kernel, by decide +kernel⟩, by decide⟩
theorem kc_L_238 : jKV RL 238 7 mX7_addressOf 1 := ⟨7, _, RX7, TX7, 35, rfl, by decide, rfl, rfl, kg1711, kg1712, kg1713, kg8, kg1714, ⟨by decide +kernel, by decide +kernel, by decide +kernel⟩, by decide⟩
theorem kc_L_24 : jKV RL 24 0 mX6_jump 1 := ⟨6, _, RX6, TX6, 6, rfl, by decide, rfl, rfl, kg946, kg947, kg948, kg1, kg949, ⟨by decide +kernel, by decide +kernel, by decide +kernel⟩, by decide⟩
theorem kc_L_241 : jKV RL 241 7 mX7_addressByAdding 1 := ⟨7, _, RX7, TX7, 35, rfl, by decide, rfl, rfl, kg1715, kg1716, kg1717, kg8, kg1718, ⟨by decide +kernel, by decide +kernel, by decide +kernel⟩, by decide⟩
theorem kc_L_244 : jKV RL 244 7 mX7_targetOf 1 := ⟨7, _, RX7, TX7, 35, rfl, by decide, rfl, rfl, kg1720, kg1721, kg1722, kg8, kg1723, ⟨by decide +kernel, by decide +kernel, by decide +kernel⟩, by decide⟩
theorem kc_L_248 : jKV RL 248 7 mX7_shortShare 0 := ⟨7, _, RX7, TX7, 35, rfl, by decide, rfl, rfl, kg1724, kg1725, kg1726, kg8, kg1727, ⟨by decide +kernel, by decide +kernel, by decide +kernel⟩, by decide⟩
theorem kc_L_251 : jKV RL 251 7 mX7_meanWord 0 := ⟨7, _, RX7, TX7, 35, rfl, by decide, rfl, rfl, kg1728, kg1729, kg1730, kg8, kg1731, ⟨by decide +kernel, by decide +kernel, by decide +kernel⟩, by decide⟩
theorem kc_L_27 : jKV RL 27 0 mX6_address 1 := ⟨6, _, RX6, TX6, 6, rfl, by decide, rfl, rfl, kg953, kg954, kg955, kg1, kg956, ⟨by decide +kernel, by decide +kernel, by decide +kernel⟩, by decide⟩
theorem kc_L_30 : jKV RL 30 0 mX6_align 1 := ⟨6, _, RX6, TX6, 6, rfl, by decide, rfl, rfl, kg960, kg961, kg962, kg1, kg963, ⟨by decide +kernel, by decide +kernel, by decide +kernel⟩, by decide⟩
theorem kc_L_33 : jKV RL 33 0 mX6_call 3 := ⟨6, _, RX6, TX6, 6, rfl, by decide, rfl, rfl, kg969, kg970, kg971, kg1, kg972, ⟨by decide +kernel, by decide +kernel, by decide +kernel⟩, by decide⟩
theorem kc_L_39 : jKV RL 39 0 mX6_block 0 := ⟨6, _, RX6, TX6, 6, rfl, by decide, rfl, rfl, kg996, kg997, kg998, kg1, kg999, ⟨by decide +kernel, by decide +kernel, by decide +kernel⟩, by decide⟩
theorem kc_L_43 : jKV RL 43 0 mX6_loop 1 := ⟨6, _, RX6, TX6, 6, rfl, by decide, rfl, rfl, kg1003, kg1004, kg1005, kg1, kg1006, ⟨by decide +kernel, by decide +kernel, by decide +kernel⟩, by decide⟩
theorem kc_L_46 : jKV RL 46 0 mX6_when 2 := ⟨6, _, RX6, TX6, 6, rfl, by decide, rfl, rfl, kg1010, kg1011, kg1012, kg1, kg1013, ⟨by decide +kernel, by decide +kernel, by decide +kernel⟩, by decide⟩
theorem kc_L_49 : jKV RL 49 0 mX6_end 0 := ⟨6, _, RX6, TX6, 6, rfl, by decide, rfl, rfl, kg1018, kg1019, kg1020, kg1, kg1021, ⟨by decide +kernel, by decide +kernel, by decide +kernel⟩, by decide⟩
theorem kc_L_54 : jKV RL 54 0 mX6_macro 0 := ⟨6, _, RX6, TX6, 6, rfl, by decide, rfl, rfl, kg1050, kg1051, kg1052, kg1, kg1053, ⟨by decide +kernel, by decide +kernel, by decide +kernel⟩, by decide⟩
theorem kc_L_57 : jKV RL 57 0 mX6_endMacro 0 := ⟨6, _, RX6, TX6, 6, rfl, by decide, rfl, rfl, kg1063, kg1064, kg1065, kg1, kg1066, ⟨by decide +kernel, by decide +kernel, by decide +kernel⟩, by decide⟩
theorem kc_L_60 : jKV RL 60 0 mX6_fault 0 := ⟨6, _, RX6, TX6, 6, rfl, by decide, rfl, rfl, kg1075, kg1076, kg1077, kg1, kg1078, ⟨by decide +kernel, by decide +kernel, by decide +kernel⟩, by decide⟩
theorem kc_L_64 : jKV RL 64 0 mX6_faultLine 0 := ⟨6, _, RX6, TX6, 6, rfl, by decide, rfl, rfl, kg1083, kg1084, kg1085, kg1, kg1086, ⟨by decide +kernel, by decide +kernel, by decide +kernel⟩, by decide⟩
theorem kc_L_67 : jKV RL 67 0 mX6_itemsByCounting 0 := ⟨6, _, RX6, TX6, 6, rfl, by decide, rfl, rfl, kg1095, kg1096, kg1097, kg1, kg1098, ⟨by decide +kernel, by decide +kernel, by decide +kernel⟩, by decide⟩
theorem kc_L_7 : jKV RL 7 0 mX6_label 1 := ⟨6, _, RX6, TX6, 6, rfl, by decide, rfl, rfl, kg887, kg888, kg889, kg1, kg890, ⟨by decide +kernel, by decide +kernel, by decide +kernel⟩, by decide⟩
theorem kc_L_71 : jKV RL 71 0 mX6_words 0 := ⟨6, _, RX6, TX6, 6, rfl, by decide, rfl, rfl, kg1161, kg1162, kg1163, kg1, kg1164, ⟨by decide +kernel, by decide +kernel, by decide +kernel⟩, by decide⟩
theorem kc_L_74 : jKV RL 74 0 mX6_wordAt 1 := ⟨6, _, RX6, TX6, 6, rfl, by decide, rfl, rfl, kg1176, kg1177, kg1178, kg1, kg1179, ⟨by decide +kernel, by decide +kernel, by decide +kernel⟩, by decide⟩
theorem kc_L_79 : jKV RL 79 0 mX6_relocations 0 := ⟨6, _, RX6, TX6, 6, rfl, by decide, rfl, rfl, kg1205, kg1206, kg1207, kg1, kg1208, ⟨by decide +kernel, by decide +kernel, by decide +kernel⟩, by decide⟩
theorem kc_L_82 : jKV RL 82 0 mX6_loadedWord 2 := ⟨6, _, RX6, TX6, 6, rfl, by decide, rfl, rfl, kg1216, kg1217, kg1218, kg1, kg1219, ⟨by decide +kernel, by decide +kernel, by decide +kernel⟩, by decide⟩
theorem kc_L_85 : jKV RL 85 0 mX6_labelAddress 1 := ⟨6, _, RX6, TX6, 6, rfl, by decide, rfl, rfl, kg1228, kg1229, kg1230, kg1, kg1231, ⟨by decide +kernel, by decide +kernel, by decide +kernel⟩, by decide⟩
theorem kc_L_88 : jKV RL 88 0 mX6_passes 0 := ⟨6, _, RX6, TX6, 6, rfl, by decide, rfl, rfl, kg1238, kg1239, kg1240, kg1, kg1241, ⟨by decide +kernel, by decide +kernel, by decide +kernel⟩, by decide⟩
theorem kc_L_91 : jKV RL 91 0 mX6_longJumps 0 := ⟨6, _, RX6, TX6, 6, rfl, by decide, rfl, rfl, kg1249, kg1250, kg1251, kg1, kg1252, ⟨by decide +kernel, by decide +kernel, by decide +kernel⟩, by decide⟩
theorem kc_L_94 : jKV RL 94 0 mX6_items 0 := ⟨6, _, RX6, TX6, 6, rfl, by decide, rfl, rfl, kg1260, kg1261, kg1262, kg1, kg1263, ⟨by decide +kernel, by decide +kernel, by decide +kernel⟩, by decide⟩
theorem kc_L_97 : jKV RL 97 0 mX6_lineOf 1 := ⟨6, _, RX6, TX6, 6, rfl, by decide, rfl, rfl, kg1268, kg1269, kg1270, kg1, kg1271, ⟨by decide +kernel, by decide +kernel, by decide +kernel⟩, by decide⟩
theorem kc_X7_100 : jKV RX7 100 7 mX7_isRight 2 := ⟨7, _, RX7, TX7, 35, rfl, by decide, rfl, rfl, kg1480, kg1482, kp32, kg8, kg1483, ⟨by decide +kernel, by decide +kernel, by decide +kernel⟩, by decide⟩
theorem kc_X7_104 : jKV RX7 104 7 mX7_feeds 5 := ⟨7, _, RX7, TX7, 35, rfl, by decide, rfl, rfl, kg1487, kg1489, kp33, kg8, kg1490, ⟨by decide +kernel, by decide +kernel, by decide +kernel⟩, by decide⟩
theorem kc_X7_114 : jKV RX7 114 7 mX7_begins 3 := ⟨7, _, RX7, TX7, 35, rfl, by decide, rfl, rfl, kg1527, kg1529, kp36, kg8, kg1530, ⟨by decide +kernel, by decide +kernel, by decide +kernel⟩, by decide⟩
theorem kc_X7_130 : jKV RX7 130 7 mX7_stops 2 := ⟨7, _, RX7, TX7, 35, rfl, by decide, rfl, rfl, kg1567, kg1569, kp37, kg8, kg1570, ⟨by decide +kernel, by decide +kernel, by decide +kernel⟩, by decide⟩
theorem kc_X7_134 : jKV RX7 134 7 mX7_isDefined 2 := ⟨7, _, RX7, TX7, 35, rfl, by decide, rfl, rfl, kg1582, kg1584, kp40, kg8, kg1585, ⟨by decide +kernel, by decide +kernel, by decide +kernel⟩, by decide⟩
theorem kc_X7_140 : jKV RX7 140 7 mX7_makes 4 := ⟨7, _, RX7, TX7, 35, rfl, by decide, rfl, rfl, kg1586, kg1588, kp41, kg8, kg1589, ⟨by decide +kernel, by decide +kernel, by decide +kernel⟩, by decide⟩
theorem kc_X7_144 : jKV RX7 144 7 mX7_newScope 1 := ⟨7, _, RX7, TX7, 35, rfl, by decide, rfl, rfl, kg1571, kg1573, kp38, kg8, kg1574, ⟨by decide +kernel, by decide +kernel, by decide +kernel⟩, by decide⟩
theorem kc_X7_147 : jKV RX7 147 7 mX7_walks 8 := ⟨7, _, RX7, TX7, 35, rfl, by decide, rfl, rfl, kg1575, kg1577, kp39, kg8, kg1578, ⟨by decide +kernel, by decide +kernel, by decide +kernel⟩, by decide⟩
theorem kc_X7_151 : jKV RX7 151 7 mX7_isNamed 1 := ⟨7, _, RX7, TX7, 35, rfl, by decide, rfl, rfl, kg1594, kg1596, kp43, kg8, kg1597, ⟨by decide +kernel, by decide +kernel, by decide +kernel⟩, by decide⟩
theorem kc_X7_155 : jKV RX7 155 7 mX7_finds 1 := ⟨7, _, RX7, TX7, 35, rfl, by decide, rfl, rfl, kg1598, kg1600, kp44, kg8, kg1601, ⟨by decide +kernel, by decide +kernel, by decide +kernel⟩, by decide⟩
theorem kc_X7_158 : jKV RX7 158 7 mX7_sizeOf 2 := ⟨7, _, RX7, TX7, 35, rfl, by decide, rfl, rfl, kg1610, kg1612, kp47, kg8, kg1613, ⟨by decide +kernel, by decide +kernel, by decide +kernel⟩, by decide⟩
theorem kc_X7_165 : jKV RX7 165 7 mX7_places 0 := ⟨7, _, RX7, TX7, 35, rfl, by decide, rfl, rfl, kg1606, kg1608, kp46, kg8, kg1609, ⟨by decide +kernel, by decide +kernel, by decide +kernel⟩, by decide⟩
theorem kc_X7_168 : jKV RX7 168 7 mX7_distance 1 := ⟨7, _, RX7, TX7, 35, rfl, by decide, rfl, rfl, kg1614, kg1616, kp48, kg8, kg1617, ⟨by decide +kernel, by decide +kernel, by decide +kernel⟩, by decide⟩
theorem kc_X7_171 : jKV RX7 171 7 mX7_puts 3 := ⟨7, _, RX7, TX7, 35, rfl, by decide, rfl, rfl, kg1622, kg1624, kp50, kg8, kg1625, ⟨by decide +kernel, by decide +kernel, by decide +kernel⟩, by decide⟩
theorem kc_X7_182 : jKV RX7 182 7 mX7_areFound 0 := ⟨7, _, RX7, TX7, 35, rfl, by decide, rfl, rfl, kg1590, kg1592, kp42, kg8, kg1593, ⟨by decide +kernel, by decide +kernel, by decide +kernel⟩, by decide⟩
theorem kc_X7_186 : jKV RX7 186 7 mX7_lengthens 0 := ⟨7, _, RX7, TX7, 35, rfl, by decide, rfl, rfl, kg1602, kg1604, kp45, kg8, kg1605, ⟨by decide +kernel, by decide +kernel, by decide +kernel⟩, by decide⟩
theorem kc_X7_189 : jKV RX7 189 7 mX7_writes 1 := ⟨7, _, RX7, TX7, 35, rfl, by decide, rfl, rfl, kg1618, kg1620, kp49, kg8, kg1621, ⟨by decide +kernel, by decide +kernel, by decide +kernel⟩, by decide⟩
theorem kc_X7_196 : jKV RX7 196 7 mX7_countsMacro 3 := ⟨7, _, RX7, TX7, 35, rfl, by decide, rfl, rfl, kg1642, kg1644, kp52, kg8, kg1645, ⟨by decide +kernel, by decide +kernel, by decide +kernel⟩, by decide⟩
theorem kc_X7_202 : jKV RX7 202 7 mX7_counts 4 := ⟨7, _, RX7, TX7, 35, rfl, by decide, rfl, rfl, kg1638, kg1640, kp51, kg8, kg1641, ⟨by decide +kernel, by decide +kernel, by decide +kernel⟩, by decide⟩
theorem kc_X7_209 : jKV RX7 209 7 mX7_isThere 0 := ⟨7, _, RX7, TX7, 35, rfl, by decide, rfl, rfl, kg1655, kg1657, kp53, kg8, kg1658, ⟨by decide +kernel, by decide +kernel, by decide +kernel⟩, by decide⟩
theorem kc_X7_212 : jKV RX7 212 7 mX7_isWord 1 := ⟨7, _, RX7, TX7, 35, rfl, by decide, rfl, rfl, kg1663, kg1665, kp54, kg8, kg1666, ⟨by decide +kernel, by decide +kernel, by decide +kernel⟩, by decide⟩
theorem kc_X7_215 : jKV RX7 215 7 mX7_jumps 1 := ⟨7, _, RX7, TX7, 35, rfl, by decide, rfl, rfl, kg1687, kg1689, kp55, kg8, kg1690, ⟨by decide +kernel, by decide +kernel, by decide +kernel⟩, by decide⟩
theorem kc_X7_219 : jKV RX7 219 7 mX7_isItem 1 := ⟨7, _, RX7, TX7, 35, rfl, by decide, rfl, rfl, kg1699, kg1701, kp56, kg8, kg1702, ⟨by decide +kernel, by decide +kernel, by decide +kernel⟩, by decide⟩
theorem kc_X7_222 : jKV RX7 222 7 mX7_addressOf 1 := ⟨7, _, RX7, TX7, 35, rfl, by decide, rfl, rfl, kg1719, kg1712, kg1713, kg8, kg1714, ⟨by decide +kernel, by decide +kernel, by decide +kernel⟩, by decide⟩
theorem kc_X7_92 : jKV RX7 92 7 mX7_fails 1 := ⟨7, _, RX7, TX7, 35, rfl, by decide, rfl, rfl, kg1491, kg1493, kp34, kg8, kg1494, ⟨by decide +kernel, by decide +kernel, by decide +kernel⟩, by decide⟩
theorem kc_X7_96 : jKV RX7 96 7 mX7_adds 4 := ⟨7, _, RX7, TX7, 35, rfl, by decide, rfl, rfl, kg1495, kg1497, kp35, kg8, kg1498, ⟨by decide +kernel, by decide +kernel, by decide +kernel⟩, by decide⟩
set_option maxRecDepth 20000 in
theorem tt_X5_append_9 : jTA RX5 93 116 97 "java/lang/IllegalStateException" "there are 80 lines" ["java/lang/RuntimeException", "java/lang/Exception"] := ⟨by decide +kernel, by decide +kernel, kg908, kg13, by decide +kernel, by decide +kernel, by decide +kernel, by decide +kernel, by decide +kernel, by decide⟩
set_option maxRecDepth 20000 in
theorem tt_X5_beginMacro_8 : jTA RX5 78 91 82 "java/lang/UnsupportedOperationException" "a macro or a group is not ended" ["java/lang/RuntimeException", "java/lang/Exception"] := ⟨by decide +kernel, by decide +kernel, kg1026, kg15, by decide +kernel, by decide +kernel, by decide +kernel, by decide +kernel, by decide +kernel, by decide⟩
set_option maxRecDepth 20000 in
theorem tt_X5_beginMacro_27 : jTA RX5 93 95 97 "java/lang/IllegalStateException" "there are 8 macros" ["java/lang/RuntimeException", "java/lang/Exception"] := ⟨by decide +kernel, by decide +kernel, kg908, kg13, by decide +kernel, by decide +kernel, by decide +kernel, by decide +kernel, by decide +kernel, by decide⟩
set_option maxRecDepth 20000 in
theorem tt_X5_endGroup_7 : jTA RX5 78 80 82 "java/lang/UnsupportedOperationException" "there is no group to end" ["java/lang/RuntimeException", "java/lang/Exception"] := ⟨by decide +kernel, by decide +kernel, kg1026, kg15, by decide +kernel, by decide +kernel, by decide +kernel, by decide +kernel, by decide +kernel, by decide⟩
set_option maxRecDepth 20000 in
theorem tt_X5_feed_26 : jTA RX5 59 61 63 "java/lang/IllegalArgumentException" "an operand is neither in its range nor an argument" ["java/lang/RuntimeException", "java/lang/Exception"] := ⟨by decide +kernel, by decide +kernel, kg901, kg12, by decide +kernel, by decide +kernel, by decide +kernel, by decide +kernel, by decide +kernel, by decide⟩
set_option maxRecDepth 20000 in
theorem tt_X5_finishMacro_14 : jTA RX5 78 98 82 "java/lang/UnsupportedOperationException" "there is no macro that could be ended here" ["java/lang/RuntimeException", "java/lang/Exception"] := ⟨by decide +kernel, by decide +kernel, kg1026, kg15, by decide +kernel, by decide +kernel, by decide +kernel, by decide +kernel, by decide +kernel, by decide⟩
set_option maxRecDepth 20000 in
theorem tt_X6_align_11 : jTA RX6 61 68 65 "java/lang/IllegalArgumentException" "the size is out of range" ["java/lang/RuntimeException", "java/lang/Exception"] := ⟨by decide +kernel, by decide +kernel, kg940, kg12, by decide +kernel, by decide +kernel, by decide +kernel, by decide +kernel, by decide +kernel, by decide⟩
set_option maxRecDepth 20000 in
theorem tt_X6_itemsByCounting_11 : jTA RX6 124 126 128 "java/lang/IllegalStateException" "a macro or a group is not ended" ["java/lang/RuntimeException", "java/lang/Exception"] := ⟨by decide +kernel, by decide +kernel, kg1100, kg13, by decide +kernel, by decide +kernel, by decide +kernel, by decide +kernel, by decide +kernel, by decide⟩
set_option maxRecDepth 20000 in
theorem tt_X6_itemsByCounting_34 : jTA RX6 132 134 136 "java/lang/UnsupportedOperationException" "the count of a loop is an argument greater than 9" ["java/lang/RuntimeException", "java/lang/Exception"] := ⟨by decide +kernel, by decide +kernel, kg1155, kg15, by decide +kernel, by decide +kernel, by decide +kernel, by decide +kernel, by decide +kernel, by decide⟩
set_option maxRecDepth 20000 in
theorem tt_X6_loadedWord_16 : jTA RX6 61 151 65 "java/lang/IllegalArgumentException" "the base is out of range" ["java/lang/RuntimeException", "java/lang/Exception"] := ⟨by decide +kernel, by decide +kernel, kg940, kg12, by decide +kernel, by decide +kernel, by decide +kernel, by decide +kernel, by decide +kernel, by decide⟩
set_option maxRecDepth 20000 in
theorem tt_X6_meanWord_14 : jTA RX6 192 197 196 "java/lang/ArithmeticException" "there are no words" ["java/lang/RuntimeException", "java/lang/Exception"] := ⟨by decide +kernel, by decide +kernel, kg1345, kg30, by decide +kernel, by decide +kernel, by decide +kernel, by decide +kernel, by decide +kernel, by decide⟩
set_option maxRecDepth 20000 in
theorem tt_X6_operation_12 : jTA RX6 61 63 65 "java/lang/IllegalArgumentException" "the code is out of range" ["java/lang/RuntimeException", "java/lang/Exception"] := ⟨by decide +kernel, by decide +kernel, kg940, kg12, by decide +kernel, by decide +kernel, by decide +kernel, by decide +kernel, by decide +kernel, by decide⟩
set_option maxRecDepth 20000 in
theorem tt_X6_requireItem_19 : jTA RX6 205 210 209 "java/lang/IndexOutOfBoundsException" "there is no such item" ["java/lang/RuntimeException", "java/lang/Exception"] := ⟨by decide +kernel, by decide +kernel, kg1184, kg28, by decide +kernel, by decide +kernel, by decide +kernel, by decide +kernel, by decide +kernel, by decide⟩
set_option maxRecDepth 20000 in
theorem tt_X6_requireWord_19 : jTA RX6 205 207 209 "java/lang/IndexOutOfBoundsException" "there is no such word" ["java/lang/RuntimeException", "java/lang/Exception"] := ⟨by decide +kernel, by decide +kernel, kg1184, kg28, by decide +kernel, by decide +kernel, by decide +kernel, by decide +kernel, by decide +kernel, by decide⟩
set_option maxRecDepth 20000 in
theorem tt_X6_shortShare_30 : jTA RX6 192 194 196 "java/lang/ArithmeticException" "there are no jumps" ["java/lang/RuntimeException", "java/lang/Exception"] := ⟨by decide +kernel, by decide +kernel, kg1345, kg30, by decide +kernel, by decide +kernel, by decide +kernel, by decide +kernel, by decide +kernel, by decide⟩
set_option maxRecDepth 20000 in
theorem tt_X6_targetOf_19 : jTA RX6 132 190 136 "java/lang/UnsupportedOperationException" "the item is neither a jump nor an address" ["java/lang/RuntimeException", "java/lang/Exception"] := ⟨by decide +kernel, by decide +kernel, kg1155, kg15, by decide +kernel, by decide +kernel, by decide +kernel, by decide +kernel, by decide +kernel, by decide⟩
