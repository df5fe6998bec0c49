/-! made by wip/whole/tools/gen_links.py: the methods, their words, the links of each class -/
abbrev mX9_init : MD := (yX9_init, cX9_init, 1, none, RX9, 4, 103, 830, 8866, true, [])
abbrev mX1_init : MD := (yX1_init, cX1_init, 2, none, RX1, 2, 61, 74, 721, true, [])
abbrev mX2_init : MD := (yX2_init, cX2_init, 2, none, RX2, 1, 40, 0, 0, true, [])
abbrev mX6_init : MD := (yX6_init, cX6_init, 2, none, RX6, 1, 40, 1, 3, true, [])
abbrev mX5_init : MD := (yX5_init, cX5_init, 2, none, RX5, 1, 40, 0, 0, true, [])
abbrev mX4_init : MD := (yX4_init, cX4_init, 2, none, RX4, 1, 40, 0, 0, true, [])
abbrev mX0_init : MD := (yX0_init, cX0_init, 2, none, RX0, 1, 40, 0, 0, true, [])
abbrev mX1_clear : MD := (yX1_clear, cX1_clear, 5, none, RX1, 1, 22, 0, 0, false, [])
abbrev mX5_serve : MD := (yX5_serve, cX5_serve, 2, none, RX5, 0, 0, 0, 0, false, [])
abbrev mX4_serve : MD := (yX4_serve, cX4_serve, 3, none, RX4, 0, 0, 0, 0, false, [])
abbrev mX3_init : MD := (yX3_init, cX3_init, 2, none, RX3, 3, 82, 601, 5928, true, [])
abbrev mX8_init : MD := (yX8_init, cX8_init, 1, none, RX8, 3, 82, 76, 740, true, [])
abbrev mX9_append : MD := (yX9_append, cX9_append, 6, some .int, RX9, 1, 22, 0, 0, false, [])
abbrev mX9_putWord : MD := (yX9_putWord, cX9_putWord, 3, none, RX9, 0, 0, 0, 0, false, [])
abbrev mX9_errorOffset : MD := (yX9_errorOffset, cX9_errorOffset, 1, some .int, RX9, 0, 0, 0, 0, false, [])
abbrev mX9_foremost : MD := (yX9_foremost, cX9_foremost, 3, some .int, RX9, 1, 26, 0, 0, false, [])
abbrev mX1_firstWaiting : MD := (yX1_firstWaiting, cX1_firstWaiting, 7, some (.object "ExchangeControl$Call"), RX1, 0, 0, 0, 0, false, [])
abbrev mX9_bestGuard : MD := (yX9_bestGuard, cX9_bestGuard, 6, some .int, RX9, 6, 140, 0, 0, false, [])
abbrev mX1_copyFrom : MD := (yX1_copyFrom, cX1_copyFrom, 3, none, RX1, 2, 44, 0, 0, false, [])
abbrev mX2_copyFrom : MD := (yX2_copyFrom, cX2_copyFrom, 2, none, RX2, 0, 0, 0, 0, false, [])
abbrev mX6_copyFrom : MD := (yX6_copyFrom, cX6_copyFrom, 3, none, RX6, 1, 22, 0, 0, false, [])
abbrev mX6_tell : MD := (yX6_tell, cX6_tell, 3, none, RX6, 0, 0, 0, 0, false, [])
abbrev mX6_choiceAt : MD := (yX6_choiceAt, cX6_choiceAt, 2, some .int, RX6, 0, 0, 0, 0, false, [])
abbrev mX6_addChoice : MD := (yX6_addChoice, cX6_addChoice, 2, none, RX6, 0, 0, 0, 0, false, [])
abbrev mX5_copyFrom : MD := (yX5_copyFrom, cX5_copyFrom, 2, none, RX5, 0, 0, 0, 0, false, [])
abbrev mX4_copyFrom : MD := (yX4_copyFrom, cX4_copyFrom, 2, none, RX4, 0, 0, 0, 0, false, [])
abbrev mX0_copyFrom : MD := (yX0_copyFrom, cX0_copyFrom, 2, none, RX0, 0, 0, 0, 0, false, [])
abbrev mX1_settle : MD := (yX1_settle, cX1_settle, 3, none, RX1, 5, 118, 0, 0, false, [])
abbrev mX1_hasOpenCall : MD := (yX1_hasOpenCall, cX1_hasOpenCall, 5, some .boolean, RX1, 0, 0, 0, 0, false, [])
abbrev mX1_tick : MD := (yX1_tick, cX1_tick, 1, none, RX1, 4, 98, 0, 0, false, [])
abbrev mX1_letCallsCome : MD := (yX1_letCallsCome, cX1_letCallsCome, 7, none, RX1, 2, 46, 0, 0, false, [])
abbrev mX1_countIn : MD := (yX1_countIn, cX1_countIn, 7, some .int, RX1, 0, 0, 0, 0, false, [])
abbrev mX1_isBusy : MD := (yX1_isBusy, cX1_isBusy, 2, some .boolean, RX1, 1, 25, 0, 0, false, [])
abbrev mX1_callFrom : MD := (yX1_callFrom, cX1_callFrom, 6, some .int, RX1, 0, 0, 0, 0, false, [])
abbrev mX1_callTo : MD := (yX1_callTo, cX1_callTo, 6, some .int, RX1, 0, 0, 0, 0, false, [])
abbrev mX0_end : MD := (yX0_end, cX0_end, 3, none, RX0, 0, 0, 0, 0, false, [])
abbrev mX1_queueUp : MD := (yX1_queueUp, cX1_queueUp, 3, none, RX1, 0, 0, 0, 0, false, [])
abbrev mX1_letCallsTalk : MD := (yX1_letCallsTalk, cX1_letCallsTalk, 5, none, RX1, 1, 22, 0, 0, false, [])
abbrev mX1_letMarkersWork : MD := (yX1_letMarkersWork, cX1_letMarkersWork, 6, none, RX1, 3, 73, 0, 0, false, [])
abbrev mX1_callAt : MD := (yX1_callAt, cX1_callAt, 2, some (.object "ExchangeControl$Call"), RX1, 0, 0, 0, 0, false, [])
abbrev mX1_findWay : MD := (yX1_findWay, cX1_findWay, 5, none, RX1, 2, 49, 0, 0, false, [])
abbrev mX1_dialledBy : MD := (yX1_dialledBy, cX1_dialledBy, 3, some .int, RX1, 1, 25, 0, 0, false, [])
abbrev mX1_registerOf : MD := (yX1_registerOf, cX1_registerOf, 6, some .int, RX1, 0, 0, 0, 0, false, [])
abbrev mX1_registerAt : MD := (yX1_registerAt, cX1_registerAt, 2, some (.object "ExchangeControl$Register"), RX1, 0, 0, 0, 0, false, [])
abbrev mX1_freeRegisterOf : MD := (yX1_freeRegisterOf, cX1_freeRegisterOf, 3, none, RX1, 1, 25, 0, 0, false, [])
abbrev mX1_lineWith : MD := (yX1_lineWith, cX1_lineWith, 3, some .int, RX1, 0, 0, 0, 0, false, [])
abbrev mX1_routeFor : MD := (yX1_routeFor, cX1_routeFor, 7, some (.object "ExchangeControl$Route"), RX1, 0, 0, 0, 0, false, [])
abbrev mX0_beginToTalk : MD := (yX0_beginToTalk, cX0_beginToTalk, 2, none, RX0, 0, 0, 0, 0, false, [])
abbrev mX1_freeChoice : MD := (yX1_freeChoice, cX1_freeChoice, 4, some .int, RX1, 1, 26, 0, 0, false, [])
abbrev mX1_groupAt : MD := (yX1_groupAt, cX1_groupAt, 2, some (.object "ExchangeControl$Group"), RX1, 0, 0, 0, 0, false, [])
abbrev mX1_busyTrunks : MD := (yX1_busyTrunks, cX1_busyTrunks, 7, some .int, RX1, 0, 0, 0, 0, false, [])
abbrev mX1_takeTrunk : MD := (yX1_takeTrunk, cX1_takeTrunk, 7, none, RX1, 1, 22, 0, 0, false, [])
abbrev mX1_letRegistersDial : MD := (yX1_letRegistersDial, cX1_letRegistersDial, 6, none, RX1, 3, 72, 0, 0, false, [])
abbrev mX1_dialOn : MD := (yX1_dialOn, cX1_dialOn, 5, none, RX1, 2, 48, 0, 0, false, [])
abbrev mX7_lengthOf : MD := (yX7_lengthOf, cX7_lengthOf, 3, some .int, RX7, 0, 0, 0, 0, false, [])
abbrev mX1_isComplete : MD := (yX1_isComplete, cX1_isComplete, 3, some .boolean, RX1, 1, 26, 0, 0, false, [])
abbrev mX7_digitAt : MD := (yX7_digitAt, cX7_digitAt, 4, some .int, RX7, 1, 22, 0, 0, false, [])
abbrev mX7_with : MD := (yX7_with, cX7_with, 2, some .int, RX7, 0, 0, 0, 0, false, [])
abbrev mX1_giveMarkers : MD := (yX1_giveMarkers, cX1_giveMarkers, 6, none, RX1, 1, 26, 0, 0, false, [])
abbrev mX1_giveRegisters : MD := (yX1_giveRegisters, cX1_giveRegisters, 6, none, RX1, 1, 26, 0, 0, false, [])
abbrev mX1_countTick : MD := (yX1_countTick, cX1_countTick, 5, none, RX1, 1, 26, 0, 0, false, [])
abbrev mJ9_max_7cf53 : MD := (yJ9_max_7cf53, cJ9_max_7cf53, 2, some .int, RJ9, 0, 0, 0, 0, false, [])
abbrev mX9_service : MD := (yX9_service, cX9_service, 3, some .float, RX9, 1, 26, 0, 0, false, [])
abbrev mX9_undo : MD := (yX9_undo, cX9_undo, 1, some .int, RX9, 4, 87, 0, 0, false, [])
abbrev mX3_takeBack : MD := (yX3_takeBack, cX3_takeBack, 2, some .int, RX3, 3, 66, 0, 0, false, [])
abbrev mX9_checksum : MD := (yX9_checksum, cX9_checksum, 4, some .long, RX9, 8, 130, 578, 3468, false, [])
abbrev mX9_state : MD := (yX9_state, cX9_state, 2, some .int, RX9, 6, 81, 1, 6, false, [])
abbrev mX1_busyLines : MD := (yX1_busyLines, cX1_busyLines, 3, some .int, RX1, 2, 46, 0, 0, false, [])
abbrev mX1_allOverflows : MD := (yX1_allOverflows, cX1_allOverflows, 6, some .int, RX1, 0, 0, 0, 0, false, [])
abbrev mX9_sumOfLines : MD := (yX9_sumOfLines, cX9_sumOfLines, 7, some .long, RX9, 7, 103, 60, 360, false, [])
abbrev mX9_line : MD := (yX9_line, cX9_line, 3, some .int, RX9, 6, 81, 1, 6, false, [])
abbrev mX1_hasLine : MD := (yX1_hasLine, cX1_hasLine, 2, some .boolean, RX1, 0, 0, 0, 0, false, [])
abbrev mX1_cameFrom : MD := (yX1_cameFrom, cX1_cameFrom, 7, some .int, RX1, 0, 0, 0, 0, false, [])
abbrev mX1_endedWellFrom : MD := (yX1_endedWellFrom, cX1_endedWellFrom, 7, some .int, RX1, 0, 0, 0, 0, false, [])
abbrev mX9_sumOfGroups : MD := (yX9_sumOfGroups, cX9_sumOfGroups, 7, some .long, RX9, 7, 104, 35, 210, false, [])
abbrev mX9_group : MD := (yX9_group, cX9_group, 4, some .int, RX9, 6, 81, 1, 6, false, [])
abbrev mX9_sumOfRegisters : MD := (yX9_sumOfRegisters, cX9_sumOfRegisters, 7, some .long, RX9, 7, 104, 12, 72, false, [])
abbrev mX9_register : MD := (yX9_register, cX9_register, 4, some .int, RX9, 6, 81, 1, 6, false, [])
abbrev mX9_sumOfMarkers : MD := (yX9_sumOfMarkers, cX9_sumOfMarkers, 7, some .long, RX9, 7, 104, 6, 36, false, [])
abbrev mX9_marker : MD := (yX9_marker, cX9_marker, 4, some .int, RX9, 6, 81, 1, 6, false, [])
abbrev mX1_markerAt : MD := (yX1_markerAt, cX1_markerAt, 2, some (.object "ExchangeControl$Marker"), RX1, 0, 0, 0, 0, false, [])
abbrev mX9_sumOfCalls : MD := (yX9_sumOfCalls, cX9_sumOfCalls, 7, some .long, RX9, 7, 104, 440, 2640, false, [])
abbrev mX9_call : MD := (yX9_call, cX9_call, 4, some .int, RX9, 6, 81, 1, 6, false, [])
abbrev mL_load : MD := (yL_load, cL_load, 4, some .int, RL, 9, 194, 1, 6, false, [((0), (9), (12), (13))])
abbrev mX9_load : MD := (yX9_load, cX9_load, 3, some .int, RX9, 8, 172, 1, 6, false, [])
abbrev mX8_readSetup : MD := (yX8_readSetup, cX8_readSetup, 5, some .int, RX8, 7, 148, 0, 0, false, [])
abbrev mX8_advance : MD := (yX8_advance, cX8_advance, 2, none, RX8, 1, 21, 0, 0, false, [])
abbrev mX8_signAt : MD := (yX8_signAt, cX8_signAt, 2, some .int, RX8, 0, 0, 0, 0, false, [])
abbrev mX8_kindOf : MD := (yX8_kindOf, cX8_kindOf, 1, some .int, RX8, 0, 0, 0, 0, false, [])
abbrev mX8_addToToken : MD := (yX8_addToToken, cX8_addToToken, 2, none, RX8, 0, 0, 0, 0, false, [])
abbrev mX8_readSize : MD := (yX8_readSize, cX8_readSize, 2, some .boolean, RX8, 5, 107, 0, 0, false, [])
abbrev mX8_isWord : MD := (yX8_isWord, cX8_isWord, 3, some .boolean, RX8, 4, 85, 0, 0, false, [])
abbrev mJ0_length_8abf5 : MD := (yJ0_length_8abf5, cJ0_length_8abf5, 1, some .int, RJ0, 1, 20, 0, 0, false, [])
abbrev mJ0_coder_7d493 : MD := (yJ0_coder_7d493, cJ0_coder_7d493, 1, some .byte, RJ0, 0, 0, 0, 0, false, [])
abbrev mJ0_charAt_5068e : MD := (yJ0_charAt_5068e, cJ0_charAt_5068e, 2, some .char, RJ0, 3, 64, 0, 0, false, [])
abbrev mJ0_isLatin1_aae02 : MD := (yJ0_isLatin1_aae02, cJ0_isLatin1_aae02, 1, some .boolean, RJ0, 0, 0, 0, 0, false, [])
abbrev mJ1_charAt_3b067 : MD := (yJ1_charAt_3b067, cJ1_charAt_3b067, 2, some .char, RJ1, 2, 43, 0, 0, false, [])
abbrev mJ0_checkIndex_df160 : MD := (yJ0_checkIndex_df160, cJ0_checkIndex_df160, 2, none, RJ0, 1, 22, 0, 0, false, [])
abbrev mJ3_checkIndex_8e157 : MD := (yJ3_checkIndex_8e157, cJ3_checkIndex_8e157, 3, some .int, RJ3, 0, 0, 0, 0, false, [])
abbrev mJ2_charAt_3b067 : MD := (yJ2_charAt_3b067, cJ2_charAt_3b067, 2, some .char, RJ2, 0, 0, 0, 0, false, [])
abbrev mJ2_checkIndex_2214a : MD := (yJ2_checkIndex_2214a, cJ2_checkIndex_2214a, 2, none, RJ2, 2, 43, 0, 0, false, [])
abbrev mJ2_length_9d52b : MD := (yJ2_length_9d52b, cJ2_length_9d52b, 1, some .int, RJ2, 0, 0, 0, 0, false, [])
abbrev mJ2_getChar_3b067 : MD := (yJ2_getChar_3b067, cJ2_getChar_3b067, 2, some .char, RJ2, 0, 0, 0, 0, false, [])
abbrev mX8_fail : MD := (yX8_fail, cX8_fail, 2, some .boolean, RX8, 0, 0, 0, 0, false, [])
abbrev mX8_checkNumber : MD := (yX8_checkNumber, cX8_checkNumber, 3, some .boolean, RX8, 1, 21, 0, 0, false, [])
abbrev mX1_tellSize : MD := (yX1_tellSize, cX1_tellSize, 3, none, RX1, 2, 46, 0, 0, false, [])
abbrev mX8_passSemicolon : MD := (yX8_passSemicolon, cX8_passSemicolon, 1, some .boolean, RX8, 2, 42, 0, 0, false, [])
abbrev mX8_readStatement : MD := (yX8_readStatement, cX8_readStatement, 1, some .boolean, RX8, 6, 128, 0, 0, false, [])
abbrev mX8_readLine : MD := (yX8_readLine, cX8_readLine, 1, some .boolean, RX8, 2, 42, 0, 0, false, [])
abbrev mX8_checkDigits : MD := (yX8_checkDigits, cX8_checkDigits, 2, some .boolean, RX8, 1, 21, 0, 0, false, [])
abbrev mX1_tellLine : MD := (yX1_tellLine, cX1_tellLine, 2, none, RX1, 0, 0, 0, 0, false, [])
abbrev mX8_readGroup : MD := (yX8_readGroup, cX8_readGroup, 4, some .boolean, RX8, 2, 48, 0, 0, false, [])
abbrev mX8_checkName : MD := (yX8_checkName, cX8_checkName, 1, some .boolean, RX8, 1, 21, 0, 0, false, [])
abbrev mX1_groupNamed : MD := (yX1_groupNamed, cX1_groupNamed, 7, some .int, RX1, 0, 0, 0, 0, false, [])
abbrev mX1_tellGroup : MD := (yX1_tellGroup, cX1_tellGroup, 5, none, RX1, 1, 24, 0, 0, false, [])
abbrev mX2_tell : MD := (yX2_tell, cX2_tell, 5, none, RX2, 0, 0, 0, 0, false, [])
abbrev mX8_readRoute : MD := (yX8_readRoute, cX8_readRoute, 5, some .boolean, RX8, 3, 65, 0, 0, false, [])
abbrev mX1_hasPrefix : MD := (yX1_hasPrefix, cX1_hasPrefix, 6, some .boolean, RX1, 0, 0, 0, 0, false, [])
abbrev mX1_tellRoute : MD := (yX1_tellRoute, cX1_tellRoute, 4, some (.object "ExchangeControl$Route"), RX1, 1, 22, 0, 0, false, [])
abbrev mX8_readChoice : MD := (yX8_readChoice, cX8_readChoice, 3, some .boolean, RX8, 2, 43, 0, 0, false, [])
abbrev mX6_hasChoice : MD := (yX6_hasChoice, cX6_hasChoice, 3, some .boolean, RX6, 1, 21, 0, 0, false, [])
abbrev mX8_readCall : MD := (yX8_readCall, cX8_readCall, 4, some .boolean, RX8, 2, 49, 0, 0, false, [])
abbrev mX1_tellCall : MD := (yX1_tellCall, cX1_tellCall, 6, some .int, RX1, 1, 24, 0, 0, false, [])
abbrev mX0_tell : MD := (yX0_tell, cX0_tell, 5, none, RX0, 0, 0, 0, 0, false, [])
abbrev mX8_readRule : MD := (yX8_readRule, cX8_readRule, 2, some .boolean, RX8, 5, 107, 0, 0, false, [])
abbrev mX9_mostOf : MD := (yX9_mostOf, cX9_mostOf, 1, some .int, RX9, 0, 0, 0, 0, false, [])
abbrev mX1_setRule : MD := (yX1_setRule, cX1_setRule, 4, some .int, RX1, 0, 0, 0, 0, false, [])
abbrev mX3_keep : MD := (yX3_keep, cX3_keep, 2, none, RX3, 3, 66, 0, 0, false, [])
abbrev mJ9_min_7cf53 : MD := (yJ9_min_7cf53, cJ9_min_7cf53, 2, some .int, RJ9, 0, 0, 0, 0, false, [])
abbrev mL_state : MD := (yL_state, cL_state, 4, some .int, RL, 7, 102, 1, 6, false, [((0), (9), (12), (13))])
abbrev mL_line : MD := (yL_line, cL_line, 5, some .int, RL, 7, 103, 1, 6, false, [((0), (10), (13), (22)), ((0), (10), (17), (13))])
abbrev mL_group : MD := (yL_group, cL_group, 5, some .int, RL, 7, 104, 1, 6, false, [((0), (10), (13), (22)), ((0), (10), (17), (13))])
abbrev mL_register : MD := (yL_register, cL_register, 5, some .int, RL, 7, 104, 1, 6, false, [((0), (10), (13), (22)), ((0), (10), (17), (13))])
abbrev mL_marker : MD := (yL_marker, cL_marker, 5, some .int, RL, 7, 104, 1, 6, false, [((0), (10), (13), (22)), ((0), (10), (17), (13))])
abbrev mL_call : MD := (yL_call, cL_call, 5, some .int, RL, 7, 104, 1, 6, false, [((0), (10), (13), (22)), ((0), (10), (17), (13))])
abbrev mL_digit : MD := (yL_digit, cL_digit, 5, some .int, RL, 7, 104, 1, 6, false, [((0), (10), (13), (22)), ((0), (10), (17), (39))])
abbrev mX9_digit : MD := (yX9_digit, cX9_digit, 4, some .int, RX9, 6, 81, 1, 6, false, [])
abbrev mL_look : MD := (yL_look, cL_look, 5, some .int, RL, 7, 104, 1, 6, false, [((0), (10), (13), (13))])
abbrev mX9_look : MD := (yX9_look, cX9_look, 4, some .int, RX9, 6, 81, 1, 6, false, [])
abbrev mX9_isDialLength : MD := (yX9_isDialLength, cX9_isDialLength, 2, some .boolean, RX9, 0, 0, 0, 0, false, [])
abbrev mX9_bufferRow : MD := (yX9_bufferRow, cX9_bufferRow, 4, some .int, RX9, 1, 21, 0, 0, false, [])
abbrev mX1_routeIndexFor : MD := (yX1_routeIndexFor, cX1_routeIndexFor, 3, some .int, RX1, 1, 26, 0, 0, false, [])
abbrev mX1_groupFor : MD := (yX1_groupFor, cX1_groupFor, 3, some .int, RX1, 2, 49, 0, 0, false, [])
abbrev mL_overIn : MD := (yL_overIn, cL_overIn, 4, some .int, RL, 7, 141, 1, 6, false, [((0), (9), (12), (22))])
abbrev mX9_overIn : MD := (yX9_overIn, cX9_overIn, 4, some .int, RX9, 6, 118, 1, 6, false, [])
abbrev mX0_isOver : MD := (yX0_isOver, cX0_isOver, 1, some .boolean, RX0, 0, 0, 0, 0, false, [])
abbrev mL_foretold : MD := (yL_foretold, cL_foretold, 5, some .int, RL, 7, 162, 1, 6, false, [((0), (10), (13), (13))])
abbrev mX9_foretold : MD := (yX9_foretold, cX9_foretold, 3, some .int, RX9, 6, 140, 1, 6, false, [])
abbrev mL_traffic : MD := (yL_traffic, cL_traffic, 4, some .int, RL, 7, 104, 1, 6, false, [((0), (9), (12), (22))])
abbrev mX9_traffic : MD := (yX9_traffic, cX9_traffic, 4, some .float, RX9, 6, 81, 1, 6, false, [])
abbrev mL_dial : MD := (yL_dial, cL_dial, 6, some .int, RL, 7, 111, 1, 6, false, [((0), (12), (15), (22)), ((0), (12), (19), (13)), ((0), (12), (23), (58))])
abbrev mX9_dial : MD := (yX9_dial, cX9_dial, 5, some .int, RX9, 6, 87, 1, 6, false, [])
abbrev mL_hang : MD := (yL_hang, cL_hang, 4, some .int, RL, 7, 110, 1, 6, false, [((0), (9), (12), (22)), ((0), (9), (15), (58))])
abbrev mX9_hang : MD := (yX9_hang, cX9_hang, 4, some .int, RX9, 6, 87, 1, 6, false, [])
abbrev mX1_hangUp : MD := (yX1_hangUp, cX1_hangUp, 6, none, RX1, 2, 47, 0, 0, false, [])
abbrev mL_rule : MD := (yL_rule, cL_rule, 5, some .int, RL, 7, 109, 1, 6, false, [((0), (10), (13), (13))])
abbrev mX9_rule : MD := (yX9_rule, cX9_rule, 3, some .int, RX9, 6, 87, 1, 6, false, [])
abbrev mL_pass : MD := (yL_pass, cL_pass, 4, some .int, RL, 7, 141, 1, 6, false, [((0), (9), (12), (13))])
abbrev mX9_pass : MD := (yX9_pass, cX9_pass, 4, some .int, RX9, 6, 118, 1, 6, false, [])
abbrev mX10_init : MD := (yX10_init, cX10_init, 1, none, RX10, 1, 40, 13, 8727, true, [])
abbrev mX10_layExchange : MD := (yX10_layExchange, cX10_layExchange, 4, none, RX10, 0, 0, 0, 0, false, [])
abbrev mX10_thrown : MD := (yX10_thrown, cX10_thrown, 1, some .int, RX10, 0, 0, 0, 0, false, [])
abbrev mX10_append : MD := (yX10_append, cX10_append, 8, some .int, RX10, 0, 0, 0, 0, false, [])
abbrev mX10_load : MD := (yX10_load, cX10_load, 4, some .int, RX10, 6, 128, 0, 0, false, [])
abbrev mX10_in : MD := (yX10_in, cX10_in, 3, some .boolean, RX10, 0, 0, 0, 0, false, [])
abbrev mX10_fails : MD := (yX10_fails, cX10_fails, 3, some .boolean, RX10, 0, 0, 0, 0, false, [])
abbrev mX10_takeWord : MD := (yX10_takeWord, cX10_takeWord, 3, some .boolean, RX10, 4, 85, 0, 0, false, [])
abbrev mX10_isGood : MD := (yX10_isGood, cX10_isGood, 1, some .boolean, RX10, 0, 0, 0, 0, false, [])
abbrev mX10_ahead : MD := (yX10_ahead, cX10_ahead, 1, some .int, RX10, 1, 21, 0, 0, false, [])
abbrev mX10_byteAt : MD := (yX10_byteAt, cX10_byteAt, 2, some .int, RX10, 0, 0, 0, 0, false, [])
abbrev mX10_report : MD := (yX10_report, cX10_report, 3, none, RX10, 0, 0, 0, 0, false, [])
abbrev mX10_number : MD := (yX10_number, cX10_number, 4, some .int, RX10, 2, 42, 0, 0, false, [])
abbrev mX10_isDigit : MD := (yX10_isDigit, cX10_isDigit, 1, some .boolean, RX10, 1, 22, 0, 0, false, [])
abbrev mX10_min : MD := (yX10_min, cX10_min, 2, some .int, RX10, 0, 0, 0, 0, false, [])
abbrev mX10_expect : MD := (yX10_expect, cX10_expect, 2, none, RX10, 2, 41, 0, 0, false, [])
abbrev mX10_statement : MD := (yX10_statement, cX10_statement, 2, none, RX10, 5, 107, 0, 0, false, [])
abbrev mX10_readLine : MD := (yX10_readLine, cX10_readLine, 2, none, RX10, 3, 63, 0, 0, false, [])
abbrev mX10_readDigits : MD := (yX10_readDigits, cX10_readDigits, 3, none, RX10, 2, 41, 0, 0, false, [])
abbrev mX10_lineOf : MD := (yX10_lineOf, cX10_lineOf, 4, some .int, RX10, 0, 0, 0, 0, false, [])
abbrev mX10_readGroup : MD := (yX10_readGroup, cX10_readGroup, 7, none, RX10, 3, 65, 0, 0, false, [])
abbrev mX10_readName : MD := (yX10_readName, cX10_readName, 4, none, RX10, 2, 41, 0, 0, false, [])
abbrev mX10_groupOf : MD := (yX10_groupOf, cX10_groupOf, 4, some .int, RX10, 0, 0, 0, 0, false, [])
abbrev mX10_readRoute : MD := (yX10_readRoute, cX10_readRoute, 11, none, RX10, 3, 65, 0, 0, false, [])
abbrev mX10_max : MD := (yX10_max, cX10_max, 2, some .int, RX10, 0, 0, 0, 0, false, [])
abbrev mX10_readCall : MD := (yX10_readCall, cX10_readCall, 7, none, RX10, 3, 65, 0, 0, false, [])
abbrev mX10_layCall : MD := (yX10_layCall, cX10_layCall, 8, none, RX10, 0, 0, 0, 0, false, [])
abbrev mX10_readOne : MD := (yX10_readOne, cX10_readOne, 5, none, RX10, 3, 65, 0, 0, false, [])
abbrev mX10_remember : MD := (yX10_remember, cX10_remember, 2, none, RX10, 1, 22, 0, 0, false, [])
abbrev mX10_copy : MD := (yX10_copy, cX10_copy, 3, none, RX10, 0, 0, 0, 0, false, [])
abbrev mX10_errorOffset : MD := (yX10_errorOffset, cX10_errorOffset, 1, some .int, RX10, 0, 0, 0, 0, false, [])
abbrev mX10_state : MD := (yX10_state, cX10_state, 2, some .int, RX10, 5, 111, 0, 0, false, [])
abbrev mX10_told : MD := (yX10_told, cX10_told, 4, some .int, RX10, 4, 88, 0, 0, false, [])
abbrev mX10_callsThat : MD := (yX10_callsThat, cX10_callsThat, 4, some .int, RX10, 1, 22, 0, 0, false, [])
abbrev mX10_of : MD := (yX10_of, cX10_of, 3, some .int, RX10, 0, 0, 0, 0, false, [])
abbrev mX10_isBusy : MD := (yX10_isBusy, cX10_isBusy, 2, some .boolean, RX10, 3, 67, 0, 0, false, [])
abbrev mX10_callBy : MD := (yX10_callBy, cX10_callBy, 3, some .int, RX10, 2, 45, 0, 0, false, [])
abbrev mX10_isState : MD := (yX10_isState, cX10_isState, 4, some .boolean, RX10, 1, 22, 0, 0, false, [])
abbrev mX10_callTo : MD := (yX10_callTo, cX10_callTo, 3, some .int, RX10, 1, 22, 0, 0, false, [])
abbrev mX10_line : MD := (yX10_line, cX10_line, 3, some .int, RX10, 5, 112, 0, 0, false, [])
abbrev mX10_toldLine : MD := (yX10_toldLine, cX10_toldLine, 5, some .int, RX10, 4, 88, 0, 0, false, [])
abbrev mX10_group : MD := (yX10_group, cX10_group, 3, some .int, RX10, 3, 67, 0, 0, false, [])
abbrev mX10_noGroup : MD := (yX10_noGroup, cX10_noGroup, 2, some .boolean, RX10, 1, 22, 0, 0, false, [])
abbrev mX10_toldGroup : MD := (yX10_toldGroup, cX10_toldGroup, 3, some .int, RX10, 2, 45, 0, 0, false, [])
abbrev mX10_busyTrunks : MD := (yX10_busyTrunks, cX10_busyTrunks, 4, some .int, RX10, 1, 22, 0, 0, false, [])
abbrev mX10_ofGroup : MD := (yX10_ofGroup, cX10_ofGroup, 3, some .int, RX10, 0, 0, 0, 0, false, [])
abbrev mX10_register : MD := (yX10_register, cX10_register, 3, some .int, RX10, 1, 22, 0, 0, false, [])
abbrev mX10_marker : MD := (yX10_marker, cX10_marker, 3, some .int, RX10, 1, 22, 0, 0, false, [])
abbrev mX10_call : MD := (yX10_call, cX10_call, 3, some .int, RX10, 2, 43, 0, 0, false, [])
abbrev mX10_noCall : MD := (yX10_noCall, cX10_noCall, 2, some .boolean, RX10, 1, 22, 0, 0, false, [])
abbrev mX10_digit : MD := (yX10_digit, cX10_digit, 3, some .int, RX10, 2, 44, 0, 0, false, [])
abbrev mX10_dialledValue : MD := (yX10_dialledValue, cX10_dialledValue, 3, some .int, RX10, 1, 22, 0, 0, false, [])
abbrev mX10_power : MD := (yX10_power, cX10_power, 3, some .int, RX10, 0, 0, 0, 0, false, [])
abbrev mX10_look : MD := (yX10_look, cX10_look, 7, some .int, RX10, 4, 92, 0, 0, false, [])
abbrev mX10_valueOf : MD := (yX10_valueOf, cX10_valueOf, 4, some .int, RX10, 1, 22, 0, 0, false, [])
abbrev mX10_routeFor : MD := (yX10_routeFor, cX10_routeFor, 7, some .int, RX10, 1, 22, 0, 0, false, [])
abbrev mX10_isComplete : MD := (yX10_isComplete, cX10_isComplete, 4, some .boolean, RX10, 2, 48, 0, 0, false, [])
abbrev mX10_choiceOf : MD := (yX10_choiceOf, cX10_choiceOf, 5, some .int, RX10, 3, 68, 0, 0, false, [])
abbrev mX10_isFree : MD := (yX10_isFree, cX10_isFree, 4, some .boolean, RX10, 2, 45, 0, 0, false, [])
abbrev mX10_foremost : MD := (yX10_foremost, cX10_foremost, 2, some .int, RX10, 2, 45, 0, 0, false, [])
abbrev mX10_foremostOf : MD := (yX10_foremostOf, cX10_foremostOf, 4, some .int, RX10, 1, 22, 0, 0, false, [])
abbrev mX10_overIn : MD := (yX10_overIn, cX10_overIn, 4, some .int, RX10, 7, 165, 0, 0, false, [])
abbrev mX10_passTick : MD := (yX10_passTick, cX10_passTick, 2, none, RX10, 6, 144, 0, 0, false, [])
abbrev mX10_comes : MD := (yX10_comes, cX10_comes, 3, none, RX10, 4, 88, 0, 0, false, [])
abbrev mX10_set : MD := (yX10_set, cX10_set, 4, none, RX10, 0, 0, 0, 0, false, [])
abbrev mX10_isOver : MD := (yX10_isOver, cX10_isOver, 3, none, RX10, 1, 23, 0, 0, false, [])
abbrev mX10_waits : MD := (yX10_waits, cX10_waits, 3, none, RX10, 1, 23, 0, 0, false, [])
abbrev mX10_marks : MD := (yX10_marks, cX10_marks, 5, none, RX10, 5, 120, 0, 0, false, [])
abbrev mX10_freeRegister : MD := (yX10_freeRegister, cX10_freeRegister, 3, none, RX10, 1, 23, 0, 0, false, [])
abbrev mX10_looks : MD := (yX10_looks, cX10_looks, 9, none, RX10, 4, 92, 0, 0, false, [])
abbrev mX10_talks : MD := (yX10_talks, cX10_talks, 4, none, RX10, 1, 23, 0, 0, false, [])
abbrev mX10_addGroup : MD := (yX10_addGroup, cX10_addGroup, 4, none, RX10, 0, 0, 0, 0, false, [])
abbrev mX10_dials : MD := (yX10_dials, cX10_dials, 4, none, RX10, 3, 71, 0, 0, false, [])
abbrev mX10_takesMarker : MD := (yX10_takesMarker, cX10_takesMarker, 4, none, RX10, 2, 45, 0, 0, false, [])
abbrev mX10_takesRegister : MD := (yX10_takesRegister, cX10_takesRegister, 4, none, RX10, 2, 45, 0, 0, false, [])
abbrev mX10_foretold : MD := (yX10_foretold, cX10_foretold, 4, some .int, RX10, 7, 165, 0, 0, false, [])
abbrev mX10_bestGuard : MD := (yX10_bestGuard, cX10_bestGuard, 5, some .int, RX10, 7, 165, 0, 0, false, [])
abbrev mX10_service : MD := (yX10_service, cX10_service, 3, some .float, RX10, 2, 45, 0, 0, false, [])
abbrev mX10_traffic : MD := (yX10_traffic, cX10_traffic, 2, some .float, RX10, 2, 43, 0, 0, false, [])
abbrev mX10_dial : MD := (yX10_dial, cX10_dial, 5, some .int, RX10, 2, 45, 0, 0, false, [])
abbrev mX10_hang : MD := (yX10_hang, cX10_hang, 4, some .int, RX10, 2, 45, 0, 0, false, [])
abbrev mX10_rule : MD := (yX10_rule, cX10_rule, 4, some .int, RX10, 2, 43, 0, 0, false, [])
abbrev mX10_pass : MD := (yX10_pass, cX10_pass, 4, some .int, RX10, 7, 165, 0, 0, false, [])
abbrev mX10_undo : MD := (yX10_undo, cX10_undo, 1, some .int, RX10, 1, 22, 0, 0, false, [])
abbrev mX10_checksum : MD := (yX10_checksum, cX10_checksum, 5, some .long, RX10, 5, 112, 0, 0, false, [])
set_option maxRecDepth 20000 in
theorem tm_0 {w : Cond} {i : Nat} (h : (k2_sels lw_privs)[i]? = some w) (hg : goodWord w = true) : w ∈ lw_good := lg_of (List.mem_append_left _ (List.mem_of_getElem? h)) hg
set_option maxRecDepth 20000 in
theorem tm_1 {w : Cond} {i : Nat} (h : tables_1_1[i]? = some w) (hg : goodWord w = true) : w ∈ lw_good := lg_of (List.mem_append_right _ (List.mem_append_left _ (List.mem_of_getElem? h))) hg
set_option maxRecDepth 20000 in
theorem tm_2 {w : Cond} {i : Nat} (h : tables_1_2[i]? = some w) (hg : goodWord w = true) : w ∈ lw_good := lg_of (List.mem_append_right _ (List.mem_append_right _ (List.mem_append_left _ (List.mem_of_getElem? h)))) hg
set_option maxRecDepth 20000 in
theorem tm_3 {w : Cond} {i : Nat} (h : tables_1_3[i]? = some w) (hg : goodWord w = true) : w ∈ lw_good := lg_of (List.mem_append_right _ (List.mem_append_right _ (List.mem_append_right _ (List.mem_append_left _ (List.mem_of_getElem? h))))) hg
set_option maxRecDepth 20000 in
theorem tm_4 {w : Cond} {i : Nat} (h : tables_1_4[i]? = some w) (hg : goodWord w = true) : w ∈ lw_good := lg_of (List.mem_append_right _ (List.mem_append_right _ (List.mem_append_right _ (List.mem_append_right _ (List.mem_append_left _ (List.mem_of_getElem? h)))))) hg
set_option maxRecDepth 20000 in
theorem tm_5 {w : Cond} {i : Nat} (h : tables_1_5[i]? = some w) (hg : goodWord w = true) : w ∈ lw_good := lg_of (List.mem_append_right _ (List.mem_append_right _ (List.mem_append_right _ (List.mem_append_right _ (List.mem_append_right _ (List.mem_append_left _ (List.mem_of_getElem? h))))))) hg
set_option maxRecDepth 20000 in
theorem tm_6 {w : Cond} {i : Nat} (h : tables_1_6[i]? = some w) (hg : goodWord w = true) : w ∈ lw_good := lg_of (List.mem_append_right _ (List.mem_append_right _ (List.mem_append_right _ (List.mem_append_right _ (List.mem_append_right _ (List.mem_append_right _ (List.mem_append_left _ (List.mem_of_getElem? h)))))))) hg
set_option maxRecDepth 20000 in
theorem tm_7 {w : Cond} {i : Nat} (h : tables_1_7[i]? = some w) (hg : goodWord w = true) : w ∈ lw_good := lg_of (List.mem_append_right _ (List.mem_append_right _ (List.mem_append_right _ (List.mem_append_right _ (List.mem_append_right _ (List.mem_append_right _ (List.mem_append_right _ (List.mem_of_getElem? h)))))))) hg
set_option maxRecDepth 20000 in
theorem miX9_init : MI mX9_init 0 := ⟨⟨tm_1 (i := 28) rfl rfl, ⟨by decide, by decide, by decide +kernel⟩, rfl, tm_1 (i := 1) rfl rfl⟩, rfl, tm_1 (i := 27) rfl rfl, rfl⟩
set_option maxRecDepth 20000 in
theorem miX1_init : MI mX1_init 0 := ⟨⟨tm_1 (i := 36) rfl rfl, ⟨by decide, by decide, by decide +kernel⟩, rfl, tm_1 (i := 2) rfl rfl⟩, rfl, tm_1 (i := 35) rfl rfl, rfl⟩
set_option maxRecDepth 20000 in
theorem miX2_init : MI mX2_init 1 := ⟨⟨tm_1 (i := 43) rfl rfl, ⟨by decide, by decide, by decide +kernel⟩, rfl, tm_1 (i := 3) rfl rfl⟩, rfl, tm_1 (i := 42) rfl rfl, rfl⟩
set_option maxRecDepth 20000 in
theorem miX6_init : MI mX6_init 1 := ⟨⟨tm_1 (i := 91) rfl rfl, ⟨by decide, by decide, by decide +kernel⟩, rfl, tm_1 (i := 4) rfl rfl⟩, rfl, tm_1 (i := 90) rfl rfl, rfl⟩
set_option maxRecDepth 20000 in
theorem miX5_init : MI mX5_init 1 := ⟨⟨tm_1 (i := 118) rfl rfl, ⟨by decide, by decide, by decide +kernel⟩, rfl, tm_1 (i := 5) rfl rfl⟩, rfl, tm_1 (i := 117) rfl rfl, rfl⟩
set_option maxRecDepth 20000 in
theorem miX4_init : MI mX4_init 1 := ⟨⟨tm_1 (i := 145) rfl rfl, ⟨by decide, by decide, by decide +kernel⟩, rfl, tm_1 (i := 6) rfl rfl⟩, rfl, tm_1 (i := 144) rfl rfl, rfl⟩
set_option maxRecDepth 20000 in
theorem miX0_init : MI mX0_init 1 := ⟨⟨tm_1 (i := 167) rfl rfl, ⟨by decide, by decide, by decide +kernel⟩, rfl, tm_1 (i := 7) rfl rfl⟩, rfl, tm_1 (i := 166) rfl rfl, rfl⟩
set_option maxRecDepth 20000 in
theorem mvX1_clear : MV mX1_clear 0 := ⟨⟨tm_1 (i := 233) rfl rfl, ⟨by decide, by decide, by decide +kernel⟩, rfl, tm_1 (i := 2) rfl rfl⟩, rfl, tm_1 (i := 232) rfl rfl, tm_0 (i := 0) rfl rfl⟩
set_option maxRecDepth 20000 in
theorem mvX5_serve : MV mX5_serve 1 := ⟨⟨tm_1 (i := 237) rfl rfl, ⟨by decide, by decide, by decide +kernel⟩, rfl, tm_1 (i := 5) rfl rfl⟩, rfl, tm_1 (i := 235) rfl rfl, tm_1 (i := 236) rfl rfl⟩
set_option maxRecDepth 20000 in
theorem mvX4_serve : MV mX4_serve 2 := ⟨⟨tm_2 (i := 1) rfl rfl, ⟨by decide, by decide, by decide +kernel⟩, rfl, tm_1 (i := 6) rfl rfl⟩, rfl, tm_1 (i := 239) rfl rfl, tm_2 (i := 0) rfl rfl⟩
set_option maxRecDepth 20000 in
theorem miX3_init : MI mX3_init 0 := ⟨⟨tm_2 (i := 80) rfl rfl, ⟨by decide, by decide, by decide +kernel⟩, rfl, tm_1 (i := 8) rfl rfl⟩, rfl, tm_2 (i := 79) rfl rfl, rfl⟩
set_option maxRecDepth 20000 in
theorem miX8_init : MI mX8_init 0 := ⟨⟨tm_2 (i := 99) rfl rfl, ⟨by decide, by decide, by decide +kernel⟩, rfl, tm_1 (i := 9) rfl rfl⟩, rfl, tm_2 (i := 98) rfl rfl, rfl⟩
set_option maxRecDepth 20000 in
theorem mvX9_append : MV mX9_append 5 := ⟨⟨tm_2 (i := 176) rfl rfl, ⟨by decide, by decide, by decide +kernel⟩, rfl, tm_1 (i := 1) rfl rfl⟩, rfl, tm_2 (i := 174) rfl rfl, tm_2 (i := 175) rfl rfl⟩
set_option maxRecDepth 20000 in
theorem mvX9_putWord : MV mX9_putWord 1 := ⟨⟨tm_2 (i := 180) rfl rfl, ⟨by decide, by decide, by decide +kernel⟩, rfl, tm_1 (i := 1) rfl rfl⟩, rfl, tm_2 (i := 179) rfl rfl, tm_0 (i := 1) rfl rfl⟩
set_option maxRecDepth 20000 in
theorem mvX9_errorOffset : MV mX9_errorOffset 0 := ⟨⟨tm_2 (i := 184) rfl rfl, ⟨by decide, by decide, by decide +kernel⟩, rfl, tm_1 (i := 1) rfl rfl⟩, rfl, tm_2 (i := 182) rfl rfl, tm_2 (i := 183) rfl rfl⟩
set_option maxRecDepth 20000 in
theorem mvX9_foremost : MV mX9_foremost 1 := ⟨⟨tm_2 (i := 188) rfl rfl, ⟨by decide, by decide, by decide +kernel⟩, rfl, tm_1 (i := 1) rfl rfl⟩, rfl, tm_2 (i := 186) rfl rfl, tm_2 (i := 187) rfl rfl⟩
set_option maxRecDepth 20000 in
theorem mvX1_firstWaiting : MV mX1_firstWaiting 1 := ⟨⟨tm_2 (i := 192) rfl rfl, ⟨by decide, by decide, by decide +kernel⟩, rfl, tm_1 (i := 2) rfl rfl⟩, rfl, tm_2 (i := 190) rfl rfl, tm_2 (i := 191) rfl rfl⟩
set_option maxRecDepth 20000 in
theorem mvX9_bestGuard : MV mX9_bestGuard 0 := ⟨⟨tm_2 (i := 196) rfl rfl, ⟨by decide, by decide, by decide +kernel⟩, rfl, tm_1 (i := 1) rfl rfl⟩, rfl, tm_2 (i := 194) rfl rfl, tm_2 (i := 195) rfl rfl⟩
set_option maxRecDepth 20000 in
theorem mvX1_copyFrom : MV mX1_copyFrom 1 := ⟨⟨tm_2 (i := 200) rfl rfl, ⟨by decide, by decide, by decide +kernel⟩, rfl, tm_1 (i := 2) rfl rfl⟩, rfl, tm_2 (i := 198) rfl rfl, tm_2 (i := 199) rfl rfl⟩
set_option maxRecDepth 20000 in
theorem mvX2_copyFrom : MV mX2_copyFrom 1 := ⟨⟨tm_2 (i := 204) rfl rfl, ⟨by decide, by decide, by decide +kernel⟩, rfl, tm_1 (i := 3) rfl rfl⟩, rfl, tm_2 (i := 202) rfl rfl, tm_2 (i := 203) rfl rfl⟩
set_option maxRecDepth 20000 in
theorem mvX6_copyFrom : MV mX6_copyFrom 1 := ⟨⟨tm_2 (i := 208) rfl rfl, ⟨by decide, by decide, by decide +kernel⟩, rfl, tm_1 (i := 4) rfl rfl⟩, rfl, tm_2 (i := 206) rfl rfl, tm_2 (i := 207) rfl rfl⟩
set_option maxRecDepth 20000 in
theorem mvX6_tell : MV mX6_tell 2 := ⟨⟨tm_2 (i := 212) rfl rfl, ⟨by decide, by decide, by decide +kernel⟩, rfl, tm_1 (i := 4) rfl rfl⟩, rfl, tm_2 (i := 210) rfl rfl, tm_2 (i := 211) rfl rfl⟩
set_option maxRecDepth 20000 in
theorem mvX6_choiceAt : MV mX6_choiceAt 1 := ⟨⟨tm_2 (i := 216) rfl rfl, ⟨by decide, by decide, by decide +kernel⟩, rfl, tm_1 (i := 4) rfl rfl⟩, rfl, tm_2 (i := 214) rfl rfl, tm_2 (i := 215) rfl rfl⟩
set_option maxRecDepth 20000 in
theorem mvX6_addChoice : MV mX6_addChoice 1 := ⟨⟨tm_2 (i := 220) rfl rfl, ⟨by decide, by decide, by decide +kernel⟩, rfl, tm_1 (i := 4) rfl rfl⟩, rfl, tm_2 (i := 218) rfl rfl, tm_2 (i := 219) rfl rfl⟩
set_option maxRecDepth 20000 in
theorem mvX5_copyFrom : MV mX5_copyFrom 1 := ⟨⟨tm_2 (i := 224) rfl rfl, ⟨by decide, by decide, by decide +kernel⟩, rfl, tm_1 (i := 5) rfl rfl⟩, rfl, tm_2 (i := 222) rfl rfl, tm_2 (i := 223) rfl rfl⟩
set_option maxRecDepth 20000 in
theorem mvX4_copyFrom : MV mX4_copyFrom 1 := ⟨⟨tm_2 (i := 228) rfl rfl, ⟨by decide, by decide, by decide +kernel⟩, rfl, tm_1 (i := 6) rfl rfl⟩, rfl, tm_2 (i := 226) rfl rfl, tm_2 (i := 227) rfl rfl⟩
set_option maxRecDepth 20000 in
theorem mvX0_copyFrom : MV mX0_copyFrom 1 := ⟨⟨tm_2 (i := 232) rfl rfl, ⟨by decide, by decide, by decide +kernel⟩, rfl, tm_1 (i := 7) rfl rfl⟩, rfl, tm_2 (i := 230) rfl rfl, tm_2 (i := 231) rfl rfl⟩
set_option maxRecDepth 20000 in
theorem mvX1_settle : MV mX1_settle 1 := ⟨⟨tm_2 (i := 236) rfl rfl, ⟨by decide, by decide, by decide +kernel⟩, rfl, tm_1 (i := 2) rfl rfl⟩, rfl, tm_2 (i := 234) rfl rfl, tm_2 (i := 235) rfl rfl⟩
set_option maxRecDepth 20000 in
theorem mvX1_hasOpenCall : MV mX1_hasOpenCall 0 := ⟨⟨tm_3 (i := 0) rfl rfl, ⟨by decide, by decide, by decide +kernel⟩, rfl, tm_1 (i := 2) rfl rfl⟩, rfl, tm_2 (i := 239) rfl rfl, tm_0 (i := 2) rfl rfl⟩
set_option maxRecDepth 20000 in
theorem mvX1_tick : MV mX1_tick 0 := ⟨⟨tm_3 (i := 4) rfl rfl, ⟨by decide, by decide, by decide +kernel⟩, rfl, tm_1 (i := 2) rfl rfl⟩, rfl, tm_3 (i := 2) rfl rfl, tm_3 (i := 3) rfl rfl⟩
set_option maxRecDepth 20000 in
theorem mvX1_letCallsCome : MV mX1_letCallsCome 0 := ⟨⟨tm_3 (i := 8) rfl rfl, ⟨by decide, by decide, by decide +kernel⟩, rfl, tm_1 (i := 2) rfl rfl⟩, rfl, tm_3 (i := 7) rfl rfl, tm_0 (i := 3) rfl rfl⟩
set_option maxRecDepth 20000 in
theorem mvX1_countIn : MV mX1_countIn 1 := ⟨⟨tm_3 (i := 12) rfl rfl, ⟨by decide, by decide, by decide +kernel⟩, rfl, tm_1 (i := 2) rfl rfl⟩, rfl, tm_3 (i := 10) rfl rfl, tm_3 (i := 11) rfl rfl⟩
set_option maxRecDepth 20000 in
theorem mvX1_isBusy : MV mX1_isBusy 1 := ⟨⟨tm_3 (i := 16) rfl rfl, ⟨by decide, by decide, by decide +kernel⟩, rfl, tm_1 (i := 2) rfl rfl⟩, rfl, tm_3 (i := 14) rfl rfl, tm_3 (i := 15) rfl rfl⟩
set_option maxRecDepth 20000 in
theorem mvX1_callFrom : MV mX1_callFrom 1 := ⟨⟨tm_3 (i := 20) rfl rfl, ⟨by decide, by decide, by decide +kernel⟩, rfl, tm_1 (i := 2) rfl rfl⟩, rfl, tm_3 (i := 18) rfl rfl, tm_3 (i := 19) rfl rfl⟩
set_option maxRecDepth 20000 in
theorem mvX1_callTo : MV mX1_callTo 1 := ⟨⟨tm_3 (i := 24) rfl rfl, ⟨by decide, by decide, by decide +kernel⟩, rfl, tm_1 (i := 2) rfl rfl⟩, rfl, tm_3 (i := 22) rfl rfl, tm_3 (i := 23) rfl rfl⟩
set_option maxRecDepth 20000 in
theorem mvX0_end : MV mX0_end 2 := ⟨⟨tm_3 (i := 28) rfl rfl, ⟨by decide, by decide, by decide +kernel⟩, rfl, tm_1 (i := 7) rfl rfl⟩, rfl, tm_3 (i := 26) rfl rfl, tm_3 (i := 27) rfl rfl⟩
set_option maxRecDepth 20000 in
theorem mvX1_queueUp : MV mX1_queueUp 2 := ⟨⟨tm_3 (i := 32) rfl rfl, ⟨by decide, by decide, by decide +kernel⟩, rfl, tm_1 (i := 2) rfl rfl⟩, rfl, tm_3 (i := 31) rfl rfl, tm_0 (i := 4) rfl rfl⟩
set_option maxRecDepth 20000 in
theorem mvX1_letCallsTalk : MV mX1_letCallsTalk 0 := ⟨⟨tm_3 (i := 36) rfl rfl, ⟨by decide, by decide, by decide +kernel⟩, rfl, tm_1 (i := 2) rfl rfl⟩, rfl, tm_3 (i := 35) rfl rfl, tm_0 (i := 5) rfl rfl⟩
set_option maxRecDepth 20000 in
theorem mvX1_letMarkersWork : MV mX1_letMarkersWork 0 := ⟨⟨tm_3 (i := 40) rfl rfl, ⟨by decide, by decide, by decide +kernel⟩, rfl, tm_1 (i := 2) rfl rfl⟩, rfl, tm_3 (i := 39) rfl rfl, tm_0 (i := 6) rfl rfl⟩
set_option maxRecDepth 20000 in
theorem mvX1_callAt : MV mX1_callAt 1 := ⟨⟨tm_3 (i := 44) rfl rfl, ⟨by decide, by decide, by decide +kernel⟩, rfl, tm_1 (i := 2) rfl rfl⟩, rfl, tm_3 (i := 42) rfl rfl, tm_3 (i := 43) rfl rfl⟩
set_option maxRecDepth 20000 in
theorem mvX1_findWay : MV mX1_findWay 1 := ⟨⟨tm_3 (i := 48) rfl rfl, ⟨by decide, by decide, by decide +kernel⟩, rfl, tm_1 (i := 2) rfl rfl⟩, rfl, tm_3 (i := 47) rfl rfl, tm_0 (i := 7) rfl rfl⟩
set_option maxRecDepth 20000 in
theorem mvX1_dialledBy : MV mX1_dialledBy 1 := ⟨⟨tm_3 (i := 52) rfl rfl, ⟨by decide, by decide, by decide +kernel⟩, rfl, tm_1 (i := 2) rfl rfl⟩, rfl, tm_3 (i := 51) rfl rfl, tm_0 (i := 8) rfl rfl⟩
set_option maxRecDepth 20000 in
theorem mvX1_registerOf : MV mX1_registerOf 1 := ⟨⟨tm_3 (i := 56) rfl rfl, ⟨by decide, by decide, by decide +kernel⟩, rfl, tm_1 (i := 2) rfl rfl⟩, rfl, tm_3 (i := 54) rfl rfl, tm_3 (i := 55) rfl rfl⟩
set_option maxRecDepth 20000 in
theorem mvX1_registerAt : MV mX1_registerAt 1 := ⟨⟨tm_3 (i := 60) rfl rfl, ⟨by decide, by decide, by decide +kernel⟩, rfl, tm_1 (i := 2) rfl rfl⟩, rfl, tm_3 (i := 58) rfl rfl, tm_3 (i := 59) rfl rfl⟩
set_option maxRecDepth 20000 in
theorem mvX1_freeRegisterOf : MV mX1_freeRegisterOf 1 := ⟨⟨tm_3 (i := 64) rfl rfl, ⟨by decide, by decide, by decide +kernel⟩, rfl, tm_1 (i := 2) rfl rfl⟩, rfl, tm_3 (i := 63) rfl rfl, tm_0 (i := 9) rfl rfl⟩
set_option maxRecDepth 20000 in
theorem mvX1_lineWith : MV mX1_lineWith 1 := ⟨⟨tm_3 (i := 68) rfl rfl, ⟨by decide, by decide, by decide +kernel⟩, rfl, tm_1 (i := 2) rfl rfl⟩, rfl, tm_3 (i := 66) rfl rfl, tm_3 (i := 67) rfl rfl⟩
set_option maxRecDepth 20000 in
theorem mvX1_routeFor : MV mX1_routeFor 1 := ⟨⟨tm_3 (i := 72) rfl rfl, ⟨by decide, by decide, by decide +kernel⟩, rfl, tm_1 (i := 2) rfl rfl⟩, rfl, tm_3 (i := 70) rfl rfl, tm_3 (i := 71) rfl rfl⟩
set_option maxRecDepth 20000 in
theorem mvX0_beginToTalk : MV mX0_beginToTalk 1 := ⟨⟨tm_3 (i := 76) rfl rfl, ⟨by decide, by decide, by decide +kernel⟩, rfl, tm_1 (i := 7) rfl rfl⟩, rfl, tm_3 (i := 74) rfl rfl, tm_3 (i := 75) rfl rfl⟩
set_option maxRecDepth 20000 in
theorem mvX1_freeChoice : MV mX1_freeChoice 1 := ⟨⟨tm_3 (i := 80) rfl rfl, ⟨by decide, by decide, by decide +kernel⟩, rfl, tm_1 (i := 2) rfl rfl⟩, rfl, tm_3 (i := 79) rfl rfl, tm_0 (i := 10) rfl rfl⟩
set_option maxRecDepth 20000 in
theorem mvX1_groupAt : MV mX1_groupAt 1 := ⟨⟨tm_3 (i := 85) rfl rfl, ⟨by decide, by decide, by decide +kernel⟩, rfl, tm_1 (i := 2) rfl rfl⟩, rfl, tm_3 (i := 83) rfl rfl, tm_3 (i := 84) rfl rfl⟩
set_option maxRecDepth 20000 in
theorem mvX1_busyTrunks : MV mX1_busyTrunks 1 := ⟨⟨tm_3 (i := 89) rfl rfl, ⟨by decide, by decide, by decide +kernel⟩, rfl, tm_1 (i := 2) rfl rfl⟩, rfl, tm_3 (i := 87) rfl rfl, tm_3 (i := 88) rfl rfl⟩
set_option maxRecDepth 20000 in
theorem mvX1_takeTrunk : MV mX1_takeTrunk 3 := ⟨⟨tm_3 (i := 93) rfl rfl, ⟨by decide, by decide, by decide +kernel⟩, rfl, tm_1 (i := 2) rfl rfl⟩, rfl, tm_3 (i := 92) rfl rfl, tm_0 (i := 11) rfl rfl⟩
set_option maxRecDepth 20000 in
theorem mvX1_letRegistersDial : MV mX1_letRegistersDial 0 := ⟨⟨tm_3 (i := 97) rfl rfl, ⟨by decide, by decide, by decide +kernel⟩, rfl, tm_1 (i := 2) rfl rfl⟩, rfl, tm_3 (i := 96) rfl rfl, tm_0 (i := 12) rfl rfl⟩
set_option maxRecDepth 20000 in
theorem mvX1_dialOn : MV mX1_dialOn 2 := ⟨⟨tm_3 (i := 101) rfl rfl, ⟨by decide, by decide, by decide +kernel⟩, rfl, tm_1 (i := 2) rfl rfl⟩, rfl, tm_3 (i := 100) rfl rfl, tm_0 (i := 13) rfl rfl⟩
set_option maxRecDepth 20000 in
theorem msX7_lengthOf : MS mX7_lengthOf 1 := ⟨⟨tm_3 (i := 104) rfl rfl, ⟨by decide, by decide, by decide +kernel⟩, rfl, tm_1 (i := 19) rfl rfl⟩, rfl, tm_3 (i := 103) rfl rfl⟩
set_option maxRecDepth 20000 in
theorem mvX1_isComplete : MV mX1_isComplete 1 := ⟨⟨tm_3 (i := 108) rfl rfl, ⟨by decide, by decide, by decide +kernel⟩, rfl, tm_1 (i := 2) rfl rfl⟩, rfl, tm_3 (i := 106) rfl rfl, tm_3 (i := 107) rfl rfl⟩
set_option maxRecDepth 20000 in
theorem msX7_digitAt : MS mX7_digitAt 2 := ⟨⟨tm_3 (i := 111) rfl rfl, ⟨by decide, by decide, by decide +kernel⟩, rfl, tm_1 (i := 19) rfl rfl⟩, rfl, tm_3 (i := 110) rfl rfl⟩
set_option maxRecDepth 20000 in
theorem msX7_with : MS mX7_with 2 := ⟨⟨tm_3 (i := 115) rfl rfl, ⟨by decide, by decide, by decide +kernel⟩, rfl, tm_1 (i := 19) rfl rfl⟩, rfl, tm_3 (i := 114) rfl rfl⟩
set_option maxRecDepth 20000 in
theorem mvX1_giveMarkers : MV mX1_giveMarkers 0 := ⟨⟨tm_3 (i := 119) rfl rfl, ⟨by decide, by decide, by decide +kernel⟩, rfl, tm_1 (i := 2) rfl rfl⟩, rfl, tm_3 (i := 118) rfl rfl, tm_0 (i := 14) rfl rfl⟩
set_option maxRecDepth 20000 in
theorem mvX1_giveRegisters : MV mX1_giveRegisters 0 := ⟨⟨tm_3 (i := 124) rfl rfl, ⟨by decide, by decide, by decide +kernel⟩, rfl, tm_1 (i := 2) rfl rfl⟩, rfl, tm_3 (i := 123) rfl rfl, tm_0 (i := 15) rfl rfl⟩
set_option maxRecDepth 20000 in
theorem mvX1_countTick : MV mX1_countTick 0 := ⟨⟨tm_3 (i := 128) rfl rfl, ⟨by decide, by decide, by decide +kernel⟩, rfl, tm_1 (i := 2) rfl rfl⟩, rfl, tm_3 (i := 127) rfl rfl, tm_0 (i := 16) rfl rfl⟩
set_option maxRecDepth 20000 in
theorem msJ9_max_7cf53 : MS mJ9_max_7cf53 2 := ⟨⟨tm_3 (i := 131) rfl rfl, ⟨by decide, by decide, by decide +kernel⟩, rfl, tm_1 (i := 20) rfl rfl⟩, rfl, tm_3 (i := 130) rfl rfl⟩
set_option maxRecDepth 20000 in
theorem mvX9_service : MV mX9_service 0 := ⟨⟨tm_3 (i := 136) rfl rfl, ⟨by decide, by decide, by decide +kernel⟩, rfl, tm_1 (i := 1) rfl rfl⟩, rfl, tm_3 (i := 134) rfl rfl, tm_3 (i := 135) rfl rfl⟩
set_option maxRecDepth 20000 in
theorem mvX9_undo : MV mX9_undo 0 := ⟨⟨tm_3 (i := 140) rfl rfl, ⟨by decide, by decide, by decide +kernel⟩, rfl, tm_1 (i := 1) rfl rfl⟩, rfl, tm_3 (i := 138) rfl rfl, tm_3 (i := 139) rfl rfl⟩
set_option maxRecDepth 20000 in
theorem mvX3_takeBack : MV mX3_takeBack 1 := ⟨⟨tm_3 (i := 144) rfl rfl, ⟨by decide, by decide, by decide +kernel⟩, rfl, tm_1 (i := 8) rfl rfl⟩, rfl, tm_3 (i := 142) rfl rfl, tm_3 (i := 143) rfl rfl⟩
set_option maxRecDepth 20000 in
theorem mvX9_checksum : MV mX9_checksum 0 := ⟨⟨tm_3 (i := 149) rfl rfl, ⟨by decide, by decide, by decide +kernel⟩, rfl, tm_1 (i := 1) rfl rfl⟩, rfl, tm_3 (i := 147) rfl rfl, tm_3 (i := 148) rfl rfl⟩
set_option maxRecDepth 20000 in
theorem mvX9_state : MV mX9_state 1 := ⟨⟨tm_3 (i := 154) rfl rfl, ⟨by decide, by decide, by decide +kernel⟩, rfl, tm_1 (i := 1) rfl rfl⟩, rfl, tm_3 (i := 152) rfl rfl, tm_3 (i := 153) rfl rfl⟩
set_option maxRecDepth 20000 in
theorem mvX1_busyLines : MV mX1_busyLines 0 := ⟨⟨tm_3 (i := 222) rfl rfl, ⟨by decide, by decide, by decide +kernel⟩, rfl, tm_1 (i := 2) rfl rfl⟩, rfl, tm_3 (i := 220) rfl rfl, tm_3 (i := 221) rfl rfl⟩
set_option maxRecDepth 20000 in
theorem mvX1_allOverflows : MV mX1_allOverflows 0 := ⟨⟨tm_3 (i := 226) rfl rfl, ⟨by decide, by decide, by decide +kernel⟩, rfl, tm_1 (i := 2) rfl rfl⟩, rfl, tm_3 (i := 224) rfl rfl, tm_3 (i := 225) rfl rfl⟩
set_option maxRecDepth 20000 in
theorem mvX9_sumOfLines : MV mX9_sumOfLines 1 := ⟨⟨tm_3 (i := 230) rfl rfl, ⟨by decide, by decide, by decide +kernel⟩, rfl, tm_1 (i := 1) rfl rfl⟩, rfl, tm_3 (i := 229) rfl rfl, tm_0 (i := 18) rfl rfl⟩
set_option maxRecDepth 20000 in
theorem mvX9_line : MV mX9_line 2 := ⟨⟨tm_3 (i := 234) rfl rfl, ⟨by decide, by decide, by decide +kernel⟩, rfl, tm_1 (i := 1) rfl rfl⟩, rfl, tm_3 (i := 232) rfl rfl, tm_3 (i := 233) rfl rfl⟩
set_option maxRecDepth 20000 in
theorem mvX1_hasLine : MV mX1_hasLine 1 := ⟨⟨tm_3 (i := 238) rfl rfl, ⟨by decide, by decide, by decide +kernel⟩, rfl, tm_1 (i := 2) rfl rfl⟩, rfl, tm_3 (i := 236) rfl rfl, tm_3 (i := 237) rfl rfl⟩
set_option maxRecDepth 20000 in
theorem mvX1_cameFrom : MV mX1_cameFrom 1 := ⟨⟨tm_4 (i := 20) rfl rfl, ⟨by decide, by decide, by decide +kernel⟩, rfl, tm_1 (i := 2) rfl rfl⟩, rfl, tm_4 (i := 18) rfl rfl, tm_4 (i := 19) rfl rfl⟩
set_option maxRecDepth 20000 in
theorem mvX1_endedWellFrom : MV mX1_endedWellFrom 1 := ⟨⟨tm_4 (i := 24) rfl rfl, ⟨by decide, by decide, by decide +kernel⟩, rfl, tm_1 (i := 2) rfl rfl⟩, rfl, tm_4 (i := 22) rfl rfl, tm_4 (i := 23) rfl rfl⟩
set_option maxRecDepth 20000 in
theorem mvX9_sumOfGroups : MV mX9_sumOfGroups 1 := ⟨⟨tm_4 (i := 28) rfl rfl, ⟨by decide, by decide, by decide +kernel⟩, rfl, tm_1 (i := 1) rfl rfl⟩, rfl, tm_4 (i := 27) rfl rfl, tm_0 (i := 19) rfl rfl⟩
set_option maxRecDepth 20000 in
theorem mvX9_group : MV mX9_group 2 := ⟨⟨tm_4 (i := 32) rfl rfl, ⟨by decide, by decide, by decide +kernel⟩, rfl, tm_1 (i := 1) rfl rfl⟩, rfl, tm_4 (i := 30) rfl rfl, tm_4 (i := 31) rfl rfl⟩
set_option maxRecDepth 20000 in
theorem mvX9_sumOfRegisters : MV mX9_sumOfRegisters 1 := ⟨⟨tm_4 (i := 38) rfl rfl, ⟨by decide, by decide, by decide +kernel⟩, rfl, tm_1 (i := 1) rfl rfl⟩, rfl, tm_4 (i := 37) rfl rfl, tm_0 (i := 20) rfl rfl⟩
set_option maxRecDepth 20000 in
theorem mvX9_register : MV mX9_register 2 := ⟨⟨tm_4 (i := 42) rfl rfl, ⟨by decide, by decide, by decide +kernel⟩, rfl, tm_1 (i := 1) rfl rfl⟩, rfl, tm_4 (i := 40) rfl rfl, tm_4 (i := 41) rfl rfl⟩
set_option maxRecDepth 20000 in
theorem mvX9_sumOfMarkers : MV mX9_sumOfMarkers 1 := ⟨⟨tm_4 (i := 48) rfl rfl, ⟨by decide, by decide, by decide +kernel⟩, rfl, tm_1 (i := 1) rfl rfl⟩, rfl, tm_4 (i := 47) rfl rfl, tm_0 (i := 21) rfl rfl⟩
set_option maxRecDepth 20000 in
theorem mvX9_marker : MV mX9_marker 2 := ⟨⟨tm_4 (i := 52) rfl rfl, ⟨by decide, by decide, by decide +kernel⟩, rfl, tm_1 (i := 1) rfl rfl⟩, rfl, tm_4 (i := 50) rfl rfl, tm_4 (i := 51) rfl rfl⟩
set_option maxRecDepth 20000 in
theorem mvX1_markerAt : MV mX1_markerAt 1 := ⟨⟨tm_4 (i := 56) rfl rfl, ⟨by decide, by decide, by decide +kernel⟩, rfl, tm_1 (i := 2) rfl rfl⟩, rfl, tm_4 (i := 54) rfl rfl, tm_4 (i := 55) rfl rfl⟩
set_option maxRecDepth 20000 in
theorem mvX9_sumOfCalls : MV mX9_sumOfCalls 1 := ⟨⟨tm_4 (i := 60) rfl rfl, ⟨by decide, by decide, by decide +kernel⟩, rfl, tm_1 (i := 1) rfl rfl⟩, rfl, tm_4 (i := 59) rfl rfl, tm_0 (i := 22) rfl rfl⟩
set_option maxRecDepth 20000 in
theorem mvX9_call : MV mX9_call 2 := ⟨⟨tm_4 (i := 64) rfl rfl, ⟨by decide, by decide, by decide +kernel⟩, rfl, tm_1 (i := 1) rfl rfl⟩, rfl, tm_4 (i := 62) rfl rfl, tm_4 (i := 63) rfl rfl⟩
set_option maxRecDepth 20000 in
theorem mkL_load : MK mL_load 3 := ⟨tm_4 (i := 69) rfl rfl, ⟨by decide, by decide, by decide +kernel⟩, rfl, tm_1 (i := 0) rfl rfl⟩
set_option maxRecDepth 20000 in
theorem mvX9_load : MV mX9_load 1 := ⟨⟨tm_4 (i := 74) rfl rfl, ⟨by decide, by decide, by decide +kernel⟩, rfl, tm_1 (i := 1) rfl rfl⟩, rfl, tm_4 (i := 72) rfl rfl, tm_4 (i := 73) rfl rfl⟩
set_option maxRecDepth 20000 in
theorem mvX8_readSetup : MV mX8_readSetup 2 := ⟨⟨tm_4 (i := 78) rfl rfl, ⟨by decide, by decide, by decide +kernel⟩, rfl, tm_1 (i := 9) rfl rfl⟩, rfl, tm_4 (i := 76) rfl rfl, tm_4 (i := 77) rfl rfl⟩
set_option maxRecDepth 20000 in
theorem mvX8_advance : MV mX8_advance 0 := ⟨⟨tm_4 (i := 82) rfl rfl, ⟨by decide, by decide, by decide +kernel⟩, rfl, tm_1 (i := 9) rfl rfl⟩, rfl, tm_4 (i := 81) rfl rfl, tm_0 (i := 23) rfl rfl⟩
set_option maxRecDepth 20000 in
theorem mvX8_signAt : MV mX8_signAt 1 := ⟨⟨tm_4 (i := 86) rfl rfl, ⟨by decide, by decide, by decide +kernel⟩, rfl, tm_1 (i := 9) rfl rfl⟩, rfl, tm_4 (i := 85) rfl rfl, tm_0 (i := 24) rfl rfl⟩
set_option maxRecDepth 20000 in
theorem msX8_kindOf : MS mX8_kindOf 1 := ⟨⟨tm_4 (i := 89) rfl rfl, ⟨by decide, by decide, by decide +kernel⟩, rfl, tm_1 (i := 9) rfl rfl⟩, rfl, tm_4 (i := 88) rfl rfl⟩
set_option maxRecDepth 20000 in
theorem mvX8_addToToken : MV mX8_addToToken 1 := ⟨⟨tm_4 (i := 93) rfl rfl, ⟨by decide, by decide, by decide +kernel⟩, rfl, tm_1 (i := 9) rfl rfl⟩, rfl, tm_4 (i := 92) rfl rfl, tm_0 (i := 25) rfl rfl⟩
set_option maxRecDepth 20000 in
theorem mvX8_readSize : MV mX8_readSize 0 := ⟨⟨tm_4 (i := 98) rfl rfl, ⟨by decide, by decide, by decide +kernel⟩, rfl, tm_1 (i := 9) rfl rfl⟩, rfl, tm_4 (i := 97) rfl rfl, tm_0 (i := 26) rfl rfl⟩
set_option maxRecDepth 20000 in
theorem mvX8_isWord : MV mX8_isWord 1 := ⟨⟨tm_4 (i := 103) rfl rfl, ⟨by decide, by decide, by decide +kernel⟩, rfl, tm_1 (i := 9) rfl rfl⟩, rfl, tm_4 (i := 102) rfl rfl, tm_0 (i := 27) rfl rfl⟩
set_option maxRecDepth 20000 in
theorem mvJ0_length_8abf5 : MV mJ0_length_8abf5 0 := ⟨⟨tm_4 (i := 107) rfl rfl, ⟨by decide, by decide, by decide +kernel⟩, rfl, tm_1 (i := 15) rfl rfl⟩, rfl, tm_4 (i := 105) rfl rfl, tm_4 (i := 106) rfl rfl⟩
set_option maxRecDepth 20000 in
theorem mvJ0_coder_7d493 : MV mJ0_coder_7d493 0 := ⟨⟨tm_4 (i := 111) rfl rfl, ⟨by decide, by decide, by decide +kernel⟩, rfl, tm_1 (i := 15) rfl rfl⟩, rfl, tm_4 (i := 109) rfl rfl, tm_4 (i := 110) rfl rfl⟩
set_option maxRecDepth 20000 in
theorem mvJ0_charAt_5068e : MV mJ0_charAt_5068e 1 := ⟨⟨tm_4 (i := 117) rfl rfl, ⟨by decide, by decide, by decide +kernel⟩, rfl, tm_1 (i := 15) rfl rfl⟩, rfl, tm_4 (i := 115) rfl rfl, tm_4 (i := 116) rfl rfl⟩
set_option maxRecDepth 20000 in
theorem mvJ0_isLatin1_aae02 : MV mJ0_isLatin1_aae02 0 := ⟨⟨tm_4 (i := 121) rfl rfl, ⟨by decide, by decide, by decide +kernel⟩, rfl, tm_1 (i := 15) rfl rfl⟩, rfl, tm_4 (i := 119) rfl rfl, tm_4 (i := 120) rfl rfl⟩
set_option maxRecDepth 20000 in
theorem msJ1_charAt_3b067 : MS mJ1_charAt_3b067 2 := ⟨⟨tm_4 (i := 124) rfl rfl, ⟨by decide, by decide, by decide +kernel⟩, rfl, tm_1 (i := 16) rfl rfl⟩, rfl, tm_4 (i := 123) rfl rfl⟩
set_option maxRecDepth 20000 in
theorem msJ0_checkIndex_df160 : MS mJ0_checkIndex_df160 2 := ⟨⟨tm_4 (i := 127) rfl rfl, ⟨by decide, by decide, by decide +kernel⟩, rfl, tm_1 (i := 15) rfl rfl⟩, rfl, tm_4 (i := 126) rfl rfl⟩
set_option maxRecDepth 20000 in
theorem msJ3_checkIndex_8e157 : MS mJ3_checkIndex_8e157 3 := ⟨⟨tm_4 (i := 132) rfl rfl, ⟨by decide, by decide, by decide +kernel⟩, rfl, tm_1 (i := 17) rfl rfl⟩, rfl, tm_4 (i := 131) rfl rfl⟩
set_option maxRecDepth 20000 in
theorem msJ2_charAt_3b067 : MS mJ2_charAt_3b067 2 := ⟨⟨tm_4 (i := 135) rfl rfl, ⟨by decide, by decide, by decide +kernel⟩, rfl, tm_1 (i := 18) rfl rfl⟩, rfl, tm_4 (i := 134) rfl rfl⟩
set_option maxRecDepth 20000 in
theorem msJ2_checkIndex_2214a : MS mJ2_checkIndex_2214a 2 := ⟨⟨tm_4 (i := 138) rfl rfl, ⟨by decide, by decide, by decide +kernel⟩, rfl, tm_1 (i := 18) rfl rfl⟩, rfl, tm_4 (i := 137) rfl rfl⟩
set_option maxRecDepth 20000 in
theorem msJ2_length_9d52b : MS mJ2_length_9d52b 1 := ⟨⟨tm_4 (i := 141) rfl rfl, ⟨by decide, by decide, by decide +kernel⟩, rfl, tm_1 (i := 18) rfl rfl⟩, rfl, tm_4 (i := 140) rfl rfl⟩
set_option maxRecDepth 20000 in
theorem msJ2_getChar_3b067 : MS mJ2_getChar_3b067 2 := ⟨⟨tm_4 (i := 145) rfl rfl, ⟨by decide, by decide, by decide +kernel⟩, rfl, tm_1 (i := 18) rfl rfl⟩, rfl, tm_4 (i := 144) rfl rfl⟩
set_option maxRecDepth 20000 in
theorem mvX8_fail : MV mX8_fail 1 := ⟨⟨tm_4 (i := 155) rfl rfl, ⟨by decide, by decide, by decide +kernel⟩, rfl, tm_1 (i := 9) rfl rfl⟩, rfl, tm_4 (i := 154) rfl rfl, tm_0 (i := 28) rfl rfl⟩
set_option maxRecDepth 20000 in
theorem mvX8_checkNumber : MV mX8_checkNumber 2 := ⟨⟨tm_4 (i := 159) rfl rfl, ⟨by decide, by decide, by decide +kernel⟩, rfl, tm_1 (i := 9) rfl rfl⟩, rfl, tm_4 (i := 158) rfl rfl, tm_0 (i := 29) rfl rfl⟩
set_option maxRecDepth 20000 in
theorem mvX1_tellSize : MV mX1_tellSize 2 := ⟨⟨tm_4 (i := 163) rfl rfl, ⟨by decide, by decide, by decide +kernel⟩, rfl, tm_1 (i := 2) rfl rfl⟩, rfl, tm_4 (i := 161) rfl rfl, tm_4 (i := 162) rfl rfl⟩
set_option maxRecDepth 20000 in
theorem mvX8_passSemicolon : MV mX8_passSemicolon 0 := ⟨⟨tm_4 (i := 167) rfl rfl, ⟨by decide, by decide, by decide +kernel⟩, rfl, tm_1 (i := 9) rfl rfl⟩, rfl, tm_4 (i := 166) rfl rfl, tm_0 (i := 30) rfl rfl⟩
set_option maxRecDepth 20000 in
theorem mvX8_readStatement : MV mX8_readStatement 0 := ⟨⟨tm_4 (i := 171) rfl rfl, ⟨by decide, by decide, by decide +kernel⟩, rfl, tm_1 (i := 9) rfl rfl⟩, rfl, tm_4 (i := 170) rfl rfl, tm_0 (i := 31) rfl rfl⟩
set_option maxRecDepth 20000 in
theorem mvX8_readLine : MV mX8_readLine 0 := ⟨⟨tm_4 (i := 176) rfl rfl, ⟨by decide, by decide, by decide +kernel⟩, rfl, tm_1 (i := 9) rfl rfl⟩, rfl, tm_4 (i := 175) rfl rfl, tm_0 (i := 32) rfl rfl⟩
set_option maxRecDepth 20000 in
theorem mvX8_checkDigits : MV mX8_checkDigits 1 := ⟨⟨tm_4 (i := 180) rfl rfl, ⟨by decide, by decide, by decide +kernel⟩, rfl, tm_1 (i := 9) rfl rfl⟩, rfl, tm_4 (i := 179) rfl rfl, tm_0 (i := 33) rfl rfl⟩
set_option maxRecDepth 20000 in
theorem mvX1_tellLine : MV mX1_tellLine 1 := ⟨⟨tm_4 (i := 185) rfl rfl, ⟨by decide, by decide, by decide +kernel⟩, rfl, tm_1 (i := 2) rfl rfl⟩, rfl, tm_4 (i := 183) rfl rfl, tm_4 (i := 184) rfl rfl⟩
set_option maxRecDepth 20000 in
theorem mvX8_readGroup : MV mX8_readGroup 0 := ⟨⟨tm_4 (i := 190) rfl rfl, ⟨by decide, by decide, by decide +kernel⟩, rfl, tm_1 (i := 9) rfl rfl⟩, rfl, tm_4 (i := 189) rfl rfl, tm_0 (i := 34) rfl rfl⟩
set_option maxRecDepth 20000 in
theorem mvX8_checkName : MV mX8_checkName 0 := ⟨⟨tm_4 (i := 194) rfl rfl, ⟨by decide, by decide, by decide +kernel⟩, rfl, tm_1 (i := 9) rfl rfl⟩, rfl, tm_4 (i := 193) rfl rfl, tm_0 (i := 35) rfl rfl⟩
set_option maxRecDepth 20000 in
theorem mvX1_groupNamed : MV mX1_groupNamed 1 := ⟨⟨tm_4 (i := 198) rfl rfl, ⟨by decide, by decide, by decide +kernel⟩, rfl, tm_1 (i := 2) rfl rfl⟩, rfl, tm_4 (i := 196) rfl rfl, tm_4 (i := 197) rfl rfl⟩
set_option maxRecDepth 20000 in
theorem mvX1_tellGroup : MV mX1_tellGroup 3 := ⟨⟨tm_4 (i := 202) rfl rfl, ⟨by decide, by decide, by decide +kernel⟩, rfl, tm_1 (i := 2) rfl rfl⟩, rfl, tm_4 (i := 200) rfl rfl, tm_4 (i := 201) rfl rfl⟩
set_option maxRecDepth 20000 in
theorem mvX2_tell : MV mX2_tell 3 := ⟨⟨tm_4 (i := 206) rfl rfl, ⟨by decide, by decide, by decide +kernel⟩, rfl, tm_1 (i := 3) rfl rfl⟩, rfl, tm_4 (i := 204) rfl rfl, tm_4 (i := 205) rfl rfl⟩
set_option maxRecDepth 20000 in
theorem mvX8_readRoute : MV mX8_readRoute 0 := ⟨⟨tm_4 (i := 211) rfl rfl, ⟨by decide, by decide, by decide +kernel⟩, rfl, tm_1 (i := 9) rfl rfl⟩, rfl, tm_4 (i := 210) rfl rfl, tm_0 (i := 36) rfl rfl⟩
set_option maxRecDepth 20000 in
theorem mvX1_hasPrefix : MV mX1_hasPrefix 1 := ⟨⟨tm_4 (i := 215) rfl rfl, ⟨by decide, by decide, by decide +kernel⟩, rfl, tm_1 (i := 2) rfl rfl⟩, rfl, tm_4 (i := 213) rfl rfl, tm_4 (i := 214) rfl rfl⟩
set_option maxRecDepth 20000 in
theorem mvX1_tellRoute : MV mX1_tellRoute 2 := ⟨⟨tm_4 (i := 220) rfl rfl, ⟨by decide, by decide, by decide +kernel⟩, rfl, tm_1 (i := 2) rfl rfl⟩, rfl, tm_4 (i := 218) rfl rfl, tm_4 (i := 219) rfl rfl⟩
set_option maxRecDepth 20000 in
theorem mvX8_readChoice : MV mX8_readChoice 1 := ⟨⟨tm_4 (i := 225) rfl rfl, ⟨by decide, by decide, by decide +kernel⟩, rfl, tm_1 (i := 9) rfl rfl⟩, rfl, tm_4 (i := 224) rfl rfl, tm_0 (i := 37) rfl rfl⟩
set_option maxRecDepth 20000 in
theorem mvX6_hasChoice : MV mX6_hasChoice 1 := ⟨⟨tm_4 (i := 229) rfl rfl, ⟨by decide, by decide, by decide +kernel⟩, rfl, tm_1 (i := 4) rfl rfl⟩, rfl, tm_4 (i := 227) rfl rfl, tm_4 (i := 228) rfl rfl⟩
set_option maxRecDepth 20000 in
theorem mvX8_readCall : MV mX8_readCall 0 := ⟨⟨tm_4 (i := 235) rfl rfl, ⟨by decide, by decide, by decide +kernel⟩, rfl, tm_1 (i := 9) rfl rfl⟩, rfl, tm_4 (i := 234) rfl rfl, tm_0 (i := 38) rfl rfl⟩
set_option maxRecDepth 20000 in
theorem mvX1_tellCall : MV mX1_tellCall 4 := ⟨⟨tm_4 (i := 239) rfl rfl, ⟨by decide, by decide, by decide +kernel⟩, rfl, tm_1 (i := 2) rfl rfl⟩, rfl, tm_4 (i := 237) rfl rfl, tm_4 (i := 238) rfl rfl⟩
set_option maxRecDepth 20000 in
theorem mvX0_tell : MV mX0_tell 4 := ⟨⟨tm_5 (i := 3) rfl rfl, ⟨by decide, by decide, by decide +kernel⟩, rfl, tm_1 (i := 7) rfl rfl⟩, rfl, tm_5 (i := 1) rfl rfl, tm_5 (i := 2) rfl rfl⟩
set_option maxRecDepth 20000 in
theorem mvX8_readRule : MV mX8_readRule 0 := ⟨⟨tm_5 (i := 7) rfl rfl, ⟨by decide, by decide, by decide +kernel⟩, rfl, tm_1 (i := 9) rfl rfl⟩, rfl, tm_5 (i := 6) rfl rfl, tm_0 (i := 39) rfl rfl⟩
set_option maxRecDepth 20000 in
theorem msX9_mostOf : MS mX9_mostOf 1 := ⟨⟨tm_5 (i := 13) rfl rfl, ⟨by decide, by decide, by decide +kernel⟩, rfl, tm_1 (i := 1) rfl rfl⟩, rfl, tm_5 (i := 12) rfl rfl⟩
set_option maxRecDepth 20000 in
theorem mvX1_setRule : MV mX1_setRule 2 := ⟨⟨tm_5 (i := 17) rfl rfl, ⟨by decide, by decide, by decide +kernel⟩, rfl, tm_1 (i := 2) rfl rfl⟩, rfl, tm_5 (i := 15) rfl rfl, tm_5 (i := 16) rfl rfl⟩
set_option maxRecDepth 20000 in
theorem mvX3_keep : MV mX3_keep 1 := ⟨⟨tm_5 (i := 21) rfl rfl, ⟨by decide, by decide, by decide +kernel⟩, rfl, tm_1 (i := 8) rfl rfl⟩, rfl, tm_5 (i := 19) rfl rfl, tm_5 (i := 20) rfl rfl⟩
set_option maxRecDepth 20000 in
theorem msJ9_min_7cf53 : MS mJ9_min_7cf53 2 := ⟨⟨tm_5 (i := 24) rfl rfl, ⟨by decide, by decide, by decide +kernel⟩, rfl, tm_1 (i := 20) rfl rfl⟩, rfl, tm_5 (i := 23) rfl rfl⟩
set_option maxRecDepth 20000 in
theorem mkL_state : MK mL_state 3 := ⟨tm_5 (i := 27) rfl rfl, ⟨by decide, by decide, by decide +kernel⟩, rfl, tm_1 (i := 0) rfl rfl⟩
set_option maxRecDepth 20000 in
theorem mkL_line : MK mL_line 4 := ⟨tm_5 (i := 31) rfl rfl, ⟨by decide, by decide, by decide +kernel⟩, rfl, tm_1 (i := 0) rfl rfl⟩
set_option maxRecDepth 20000 in
theorem mkL_group : MK mL_group 4 := ⟨tm_5 (i := 36) rfl rfl, ⟨by decide, by decide, by decide +kernel⟩, rfl, tm_1 (i := 0) rfl rfl⟩
set_option maxRecDepth 20000 in
theorem mkL_register : MK mL_register 4 := ⟨tm_5 (i := 40) rfl rfl, ⟨by decide, by decide, by decide +kernel⟩, rfl, tm_1 (i := 0) rfl rfl⟩
set_option maxRecDepth 20000 in
theorem mkL_marker : MK mL_marker 4 := ⟨tm_5 (i := 44) rfl rfl, ⟨by decide, by decide, by decide +kernel⟩, rfl, tm_1 (i := 0) rfl rfl⟩
set_option maxRecDepth 20000 in
theorem mkL_call : MK mL_call 4 := ⟨tm_5 (i := 48) rfl rfl, ⟨by decide, by decide, by decide +kernel⟩, rfl, tm_1 (i := 0) rfl rfl⟩
set_option maxRecDepth 20000 in
theorem mkL_digit : MK mL_digit 4 := ⟨tm_5 (i := 52) rfl rfl, ⟨by decide, by decide, by decide +kernel⟩, rfl, tm_1 (i := 0) rfl rfl⟩
set_option maxRecDepth 20000 in
theorem mvX9_digit : MV mX9_digit 2 := ⟨⟨tm_5 (i := 57) rfl rfl, ⟨by decide, by decide, by decide +kernel⟩, rfl, tm_1 (i := 1) rfl rfl⟩, rfl, tm_5 (i := 55) rfl rfl, tm_5 (i := 56) rfl rfl⟩
set_option maxRecDepth 20000 in
theorem mkL_look : MK mL_look 4 := ⟨tm_5 (i := 76) rfl rfl, ⟨by decide, by decide, by decide +kernel⟩, rfl, tm_1 (i := 0) rfl rfl⟩
set_option maxRecDepth 20000 in
theorem mvX9_look : MV mX9_look 2 := ⟨⟨tm_5 (i := 80) rfl rfl, ⟨by decide, by decide, by decide +kernel⟩, rfl, tm_1 (i := 1) rfl rfl⟩, rfl, tm_5 (i := 78) rfl rfl, tm_5 (i := 79) rfl rfl⟩
set_option maxRecDepth 20000 in
theorem mvX9_isDialLength : MV mX9_isDialLength 1 := ⟨⟨tm_5 (i := 84) rfl rfl, ⟨by decide, by decide, by decide +kernel⟩, rfl, tm_1 (i := 1) rfl rfl⟩, rfl, tm_5 (i := 83) rfl rfl, tm_0 (i := 40) rfl rfl⟩
set_option maxRecDepth 20000 in
theorem mvX9_bufferRow : MV mX9_bufferRow 1 := ⟨⟨tm_5 (i := 88) rfl rfl, ⟨by decide, by decide, by decide +kernel⟩, rfl, tm_1 (i := 1) rfl rfl⟩, rfl, tm_5 (i := 87) rfl rfl, tm_0 (i := 41) rfl rfl⟩
set_option maxRecDepth 20000 in
theorem mvX1_routeIndexFor : MV mX1_routeIndexFor 1 := ⟨⟨tm_5 (i := 94) rfl rfl, ⟨by decide, by decide, by decide +kernel⟩, rfl, tm_1 (i := 2) rfl rfl⟩, rfl, tm_5 (i := 92) rfl rfl, tm_5 (i := 93) rfl rfl⟩
set_option maxRecDepth 20000 in
theorem mvX1_groupFor : MV mX1_groupFor 1 := ⟨⟨tm_5 (i := 99) rfl rfl, ⟨by decide, by decide, by decide +kernel⟩, rfl, tm_1 (i := 2) rfl rfl⟩, rfl, tm_5 (i := 97) rfl rfl, tm_5 (i := 98) rfl rfl⟩
set_option maxRecDepth 20000 in
theorem mkL_overIn : MK mL_overIn 3 := ⟨tm_5 (i := 102) rfl rfl, ⟨by decide, by decide, by decide +kernel⟩, rfl, tm_1 (i := 0) rfl rfl⟩
set_option maxRecDepth 20000 in
theorem mvX9_overIn : MV mX9_overIn 1 := ⟨⟨tm_5 (i := 106) rfl rfl, ⟨by decide, by decide, by decide +kernel⟩, rfl, tm_1 (i := 1) rfl rfl⟩, rfl, tm_5 (i := 104) rfl rfl, tm_5 (i := 105) rfl rfl⟩
set_option maxRecDepth 20000 in
theorem mvX0_isOver : MV mX0_isOver 0 := ⟨⟨tm_5 (i := 110) rfl rfl, ⟨by decide, by decide, by decide +kernel⟩, rfl, tm_1 (i := 7) rfl rfl⟩, rfl, tm_5 (i := 108) rfl rfl, tm_5 (i := 109) rfl rfl⟩
set_option maxRecDepth 20000 in
theorem mkL_foretold : MK mL_foretold 4 := ⟨tm_5 (i := 114) rfl rfl, ⟨by decide, by decide, by decide +kernel⟩, rfl, tm_1 (i := 0) rfl rfl⟩
set_option maxRecDepth 20000 in
theorem mvX9_foretold : MV mX9_foretold 2 := ⟨⟨tm_5 (i := 118) rfl rfl, ⟨by decide, by decide, by decide +kernel⟩, rfl, tm_1 (i := 1) rfl rfl⟩, rfl, tm_5 (i := 116) rfl rfl, tm_5 (i := 117) rfl rfl⟩
set_option maxRecDepth 20000 in
theorem mkL_traffic : MK mL_traffic 3 := ⟨tm_5 (i := 121) rfl rfl, ⟨by decide, by decide, by decide +kernel⟩, rfl, tm_1 (i := 0) rfl rfl⟩
set_option maxRecDepth 20000 in
theorem mvX9_traffic : MV mX9_traffic 1 := ⟨⟨tm_5 (i := 125) rfl rfl, ⟨by decide, by decide, by decide +kernel⟩, rfl, tm_1 (i := 1) rfl rfl⟩, rfl, tm_5 (i := 123) rfl rfl, tm_5 (i := 124) rfl rfl⟩
set_option maxRecDepth 20000 in
theorem mkL_dial : MK mL_dial 5 := ⟨tm_5 (i := 128) rfl rfl, ⟨by decide, by decide, by decide +kernel⟩, rfl, tm_1 (i := 0) rfl rfl⟩
set_option maxRecDepth 20000 in
theorem mvX9_dial : MV mX9_dial 3 := ⟨⟨tm_5 (i := 133) rfl rfl, ⟨by decide, by decide, by decide +kernel⟩, rfl, tm_1 (i := 1) rfl rfl⟩, rfl, tm_5 (i := 131) rfl rfl, tm_5 (i := 132) rfl rfl⟩
set_option maxRecDepth 20000 in
theorem mkL_hang : MK mL_hang 3 := ⟨tm_5 (i := 152) rfl rfl, ⟨by decide, by decide, by decide +kernel⟩, rfl, tm_1 (i := 0) rfl rfl⟩
set_option maxRecDepth 20000 in
theorem mvX9_hang : MV mX9_hang 1 := ⟨⟨tm_5 (i := 156) rfl rfl, ⟨by decide, by decide, by decide +kernel⟩, rfl, tm_1 (i := 1) rfl rfl⟩, rfl, tm_5 (i := 154) rfl rfl, tm_5 (i := 155) rfl rfl⟩
set_option maxRecDepth 20000 in
theorem mvX1_hangUp : MV mX1_hangUp 1 := ⟨⟨tm_5 (i := 160) rfl rfl, ⟨by decide, by decide, by decide +kernel⟩, rfl, tm_1 (i := 2) rfl rfl⟩, rfl, tm_5 (i := 158) rfl rfl, tm_5 (i := 159) rfl rfl⟩
set_option maxRecDepth 20000 in
theorem mkL_rule : MK mL_rule 4 := ⟨tm_5 (i := 163) rfl rfl, ⟨by decide, by decide, by decide +kernel⟩, rfl, tm_1 (i := 0) rfl rfl⟩
set_option maxRecDepth 20000 in
theorem mvX9_rule : MV mX9_rule 2 := ⟨⟨tm_5 (i := 167) rfl rfl, ⟨by decide, by decide, by decide +kernel⟩, rfl, tm_1 (i := 1) rfl rfl⟩, rfl, tm_5 (i := 165) rfl rfl, tm_5 (i := 166) rfl rfl⟩
set_option maxRecDepth 20000 in
theorem mkL_pass : MK mL_pass 3 := ⟨tm_5 (i := 172) rfl rfl, ⟨by decide, by decide, by decide +kernel⟩, rfl, tm_1 (i := 0) rfl rfl⟩
set_option maxRecDepth 20000 in
theorem mvX9_pass : MV mX9_pass 1 := ⟨⟨tm_5 (i := 176) rfl rfl, ⟨by decide, by decide, by decide +kernel⟩, rfl, tm_1 (i := 1) rfl rfl⟩, rfl, tm_5 (i := 174) rfl rfl, tm_5 (i := 175) rfl rfl⟩
set_option maxRecDepth 20000 in
theorem miX10_init : MI mX10_init 0 := ⟨⟨tm_5 (i := 181) rfl rfl, ⟨by decide, by decide, by decide +kernel⟩, rfl, tm_1 (i := 10) rfl rfl⟩, rfl, tm_5 (i := 180) rfl rfl, rfl⟩
set_option maxRecDepth 20000 in
theorem msX10_layExchange : MS mX10_layExchange 3 := ⟨⟨tm_5 (i := 187) rfl rfl, ⟨by decide, by decide, by decide +kernel⟩, rfl, tm_1 (i := 10) rfl rfl⟩, rfl, tm_5 (i := 186) rfl rfl⟩
set_option maxRecDepth 20000 in
theorem mvX10_thrown : MV mX10_thrown 0 := ⟨⟨tm_6 (i := 15) rfl rfl, ⟨by decide, by decide, by decide +kernel⟩, rfl, tm_1 (i := 10) rfl rfl⟩, rfl, tm_6 (i := 13) rfl rfl, tm_6 (i := 14) rfl rfl⟩
set_option maxRecDepth 20000 in
theorem mvX10_append : MV mX10_append 5 := ⟨⟨tm_6 (i := 19) rfl rfl, ⟨by decide, by decide, by decide +kernel⟩, rfl, tm_1 (i := 10) rfl rfl⟩, rfl, tm_6 (i := 17) rfl rfl, tm_6 (i := 18) rfl rfl⟩
set_option maxRecDepth 20000 in
theorem mvX10_load : MV mX10_load 1 := ⟨⟨tm_6 (i := 23) rfl rfl, ⟨by decide, by decide, by decide +kernel⟩, rfl, tm_1 (i := 10) rfl rfl⟩, rfl, tm_6 (i := 21) rfl rfl, tm_6 (i := 22) rfl rfl⟩
set_option maxRecDepth 20000 in
theorem msX10_in : MS mX10_in 3 := ⟨⟨tm_6 (i := 26) rfl rfl, ⟨by decide, by decide, by decide +kernel⟩, rfl, tm_1 (i := 10) rfl rfl⟩, rfl, tm_6 (i := 25) rfl rfl⟩
set_option maxRecDepth 20000 in
theorem mvX10_fails : MV mX10_fails 2 := ⟨⟨tm_6 (i := 30) rfl rfl, ⟨by decide, by decide, by decide +kernel⟩, rfl, tm_1 (i := 10) rfl rfl⟩, rfl, tm_6 (i := 29) rfl rfl, tm_0 (i := 42) rfl rfl⟩
set_option maxRecDepth 20000 in
theorem mvX10_takeWord : MV mX10_takeWord 1 := ⟨⟨tm_6 (i := 35) rfl rfl, ⟨by decide, by decide, by decide +kernel⟩, rfl, tm_1 (i := 10) rfl rfl⟩, rfl, tm_6 (i := 34) rfl rfl, tm_0 (i := 43) rfl rfl⟩
set_option maxRecDepth 20000 in
theorem mvX10_isGood : MV mX10_isGood 0 := ⟨⟨tm_6 (i := 39) rfl rfl, ⟨by decide, by decide, by decide +kernel⟩, rfl, tm_1 (i := 10) rfl rfl⟩, rfl, tm_6 (i := 38) rfl rfl, tm_0 (i := 44) rfl rfl⟩
set_option maxRecDepth 20000 in
theorem mvX10_ahead : MV mX10_ahead 0 := ⟨⟨tm_6 (i := 43) rfl rfl, ⟨by decide, by decide, by decide +kernel⟩, rfl, tm_1 (i := 10) rfl rfl⟩, rfl, tm_6 (i := 42) rfl rfl, tm_0 (i := 45) rfl rfl⟩
set_option maxRecDepth 20000 in
theorem mvX10_byteAt : MV mX10_byteAt 1 := ⟨⟨tm_6 (i := 47) rfl rfl, ⟨by decide, by decide, by decide +kernel⟩, rfl, tm_1 (i := 10) rfl rfl⟩, rfl, tm_6 (i := 46) rfl rfl, tm_0 (i := 46) rfl rfl⟩
set_option maxRecDepth 20000 in
theorem mvX10_report : MV mX10_report 2 := ⟨⟨tm_6 (i := 53) rfl rfl, ⟨by decide, by decide, by decide +kernel⟩, rfl, tm_1 (i := 10) rfl rfl⟩, rfl, tm_6 (i := 52) rfl rfl, tm_0 (i := 47) rfl rfl⟩
set_option maxRecDepth 20000 in
theorem mvX10_number : MV mX10_number 2 := ⟨⟨tm_6 (i := 57) rfl rfl, ⟨by decide, by decide, by decide +kernel⟩, rfl, tm_1 (i := 10) rfl rfl⟩, rfl, tm_6 (i := 56) rfl rfl, tm_0 (i := 48) rfl rfl⟩
set_option maxRecDepth 20000 in
theorem msX10_isDigit : MS mX10_isDigit 1 := ⟨⟨tm_6 (i := 60) rfl rfl, ⟨by decide, by decide, by decide +kernel⟩, rfl, tm_1 (i := 10) rfl rfl⟩, rfl, tm_6 (i := 59) rfl rfl⟩
set_option maxRecDepth 20000 in
theorem msX10_min : MS mX10_min 2 := ⟨⟨tm_6 (i := 64) rfl rfl, ⟨by decide, by decide, by decide +kernel⟩, rfl, tm_1 (i := 10) rfl rfl⟩, rfl, tm_6 (i := 63) rfl rfl⟩
set_option maxRecDepth 20000 in
theorem mvX10_expect : MV mX10_expect 1 := ⟨⟨tm_6 (i := 68) rfl rfl, ⟨by decide, by decide, by decide +kernel⟩, rfl, tm_1 (i := 10) rfl rfl⟩, rfl, tm_6 (i := 67) rfl rfl, tm_0 (i := 49) rfl rfl⟩
set_option maxRecDepth 20000 in
theorem mvX10_statement : MV mX10_statement 0 := ⟨⟨tm_6 (i := 72) rfl rfl, ⟨by decide, by decide, by decide +kernel⟩, rfl, tm_1 (i := 10) rfl rfl⟩, rfl, tm_6 (i := 71) rfl rfl, tm_0 (i := 50) rfl rfl⟩
set_option maxRecDepth 20000 in
theorem mvX10_readLine : MV mX10_readLine 1 := ⟨⟨tm_6 (i := 77) rfl rfl, ⟨by decide, by decide, by decide +kernel⟩, rfl, tm_1 (i := 10) rfl rfl⟩, rfl, tm_6 (i := 76) rfl rfl, tm_0 (i := 51) rfl rfl⟩
set_option maxRecDepth 20000 in
theorem mvX10_readDigits : MV mX10_readDigits 1 := ⟨⟨tm_6 (i := 81) rfl rfl, ⟨by decide, by decide, by decide +kernel⟩, rfl, tm_1 (i := 10) rfl rfl⟩, rfl, tm_6 (i := 80) rfl rfl, tm_0 (i := 52) rfl rfl⟩
set_option maxRecDepth 20000 in
theorem msX10_lineOf : MS mX10_lineOf 3 := ⟨⟨tm_6 (i := 84) rfl rfl, ⟨by decide, by decide, by decide +kernel⟩, rfl, tm_1 (i := 10) rfl rfl⟩, rfl, tm_6 (i := 83) rfl rfl⟩
set_option maxRecDepth 20000 in
theorem mvX10_readGroup : MV mX10_readGroup 1 := ⟨⟨tm_6 (i := 89) rfl rfl, ⟨by decide, by decide, by decide +kernel⟩, rfl, tm_1 (i := 10) rfl rfl⟩, rfl, tm_6 (i := 88) rfl rfl, tm_0 (i := 53) rfl rfl⟩
set_option maxRecDepth 20000 in
theorem mvX10_readName : MV mX10_readName 0 := ⟨⟨tm_6 (i := 93) rfl rfl, ⟨by decide, by decide, by decide +kernel⟩, rfl, tm_1 (i := 10) rfl rfl⟩, rfl, tm_6 (i := 92) rfl rfl, tm_0 (i := 54) rfl rfl⟩
set_option maxRecDepth 20000 in
theorem msX10_groupOf : MS mX10_groupOf 3 := ⟨⟨tm_6 (i := 96) rfl rfl, ⟨by decide, by decide, by decide +kernel⟩, rfl, tm_1 (i := 10) rfl rfl⟩, rfl, tm_6 (i := 95) rfl rfl⟩
set_option maxRecDepth 20000 in
theorem mvX10_readRoute : MV mX10_readRoute 1 := ⟨⟨tm_6 (i := 101) rfl rfl, ⟨by decide, by decide, by decide +kernel⟩, rfl, tm_1 (i := 10) rfl rfl⟩, rfl, tm_6 (i := 100) rfl rfl, tm_0 (i := 55) rfl rfl⟩
set_option maxRecDepth 20000 in
theorem msX10_max : MS mX10_max 2 := ⟨⟨tm_6 (i := 104) rfl rfl, ⟨by decide, by decide, by decide +kernel⟩, rfl, tm_1 (i := 10) rfl rfl⟩, rfl, tm_6 (i := 103) rfl rfl⟩
set_option maxRecDepth 20000 in
theorem mvX10_readCall : MV mX10_readCall 1 := ⟨⟨tm_6 (i := 109) rfl rfl, ⟨by decide, by decide, by decide +kernel⟩, rfl, tm_1 (i := 10) rfl rfl⟩, rfl, tm_6 (i := 108) rfl rfl, tm_0 (i := 56) rfl rfl⟩
set_option maxRecDepth 20000 in
theorem msX10_layCall : MS mX10_layCall 6 := ⟨⟨tm_6 (i := 112) rfl rfl, ⟨by decide, by decide, by decide +kernel⟩, rfl, tm_1 (i := 10) rfl rfl⟩, rfl, tm_6 (i := 111) rfl rfl⟩
set_option maxRecDepth 20000 in
theorem mvX10_readOne : MV mX10_readOne 4 := ⟨⟨tm_6 (i := 117) rfl rfl, ⟨by decide, by decide, by decide +kernel⟩, rfl, tm_1 (i := 10) rfl rfl⟩, rfl, tm_6 (i := 116) rfl rfl, tm_0 (i := 57) rfl rfl⟩
set_option maxRecDepth 20000 in
theorem mvX10_remember : MV mX10_remember 0 := ⟨⟨tm_6 (i := 123) rfl rfl, ⟨by decide, by decide, by decide +kernel⟩, rfl, tm_1 (i := 10) rfl rfl⟩, rfl, tm_6 (i := 122) rfl rfl, tm_0 (i := 58) rfl rfl⟩
set_option maxRecDepth 20000 in
theorem msX10_copy : MS mX10_copy 2 := ⟨⟨tm_6 (i := 126) rfl rfl, ⟨by decide, by decide, by decide +kernel⟩, rfl, tm_1 (i := 10) rfl rfl⟩, rfl, tm_6 (i := 125) rfl rfl⟩
set_option maxRecDepth 20000 in
theorem mvX10_errorOffset : MV mX10_errorOffset 0 := ⟨⟨tm_6 (i := 130) rfl rfl, ⟨by decide, by decide, by decide +kernel⟩, rfl, tm_1 (i := 10) rfl rfl⟩, rfl, tm_6 (i := 128) rfl rfl, tm_6 (i := 129) rfl rfl⟩
set_option maxRecDepth 20000 in
theorem mvX10_state : MV mX10_state 1 := ⟨⟨tm_6 (i := 134) rfl rfl, ⟨by decide, by decide, by decide +kernel⟩, rfl, tm_1 (i := 10) rfl rfl⟩, rfl, tm_6 (i := 132) rfl rfl, tm_6 (i := 133) rfl rfl⟩
set_option maxRecDepth 20000 in
theorem mvX10_told : MV mX10_told 1 := ⟨⟨tm_6 (i := 138) rfl rfl, ⟨by decide, by decide, by decide +kernel⟩, rfl, tm_1 (i := 10) rfl rfl⟩, rfl, tm_6 (i := 137) rfl rfl, tm_0 (i := 59) rfl rfl⟩
set_option maxRecDepth 20000 in
theorem mvX10_callsThat : MV mX10_callsThat 1 := ⟨⟨tm_6 (i := 142) rfl rfl, ⟨by decide, by decide, by decide +kernel⟩, rfl, tm_1 (i := 10) rfl rfl⟩, rfl, tm_6 (i := 141) rfl rfl, tm_0 (i := 60) rfl rfl⟩
set_option maxRecDepth 20000 in
theorem mvX10_of : MV mX10_of 2 := ⟨⟨tm_6 (i := 146) rfl rfl, ⟨by decide, by decide, by decide +kernel⟩, rfl, tm_1 (i := 10) rfl rfl⟩, rfl, tm_6 (i := 145) rfl rfl, tm_0 (i := 61) rfl rfl⟩
set_option maxRecDepth 20000 in
theorem mvX10_isBusy : MV mX10_isBusy 1 := ⟨⟨tm_6 (i := 150) rfl rfl, ⟨by decide, by decide, by decide +kernel⟩, rfl, tm_1 (i := 10) rfl rfl⟩, rfl, tm_6 (i := 149) rfl rfl, tm_0 (i := 62) rfl rfl⟩
set_option maxRecDepth 20000 in
theorem mvX10_callBy : MV mX10_callBy 1 := ⟨⟨tm_6 (i := 154) rfl rfl, ⟨by decide, by decide, by decide +kernel⟩, rfl, tm_1 (i := 10) rfl rfl⟩, rfl, tm_6 (i := 153) rfl rfl, tm_0 (i := 63) rfl rfl⟩
set_option maxRecDepth 20000 in
theorem mvX10_isState : MV mX10_isState 3 := ⟨⟨tm_6 (i := 158) rfl rfl, ⟨by decide, by decide, by decide +kernel⟩, rfl, tm_1 (i := 10) rfl rfl⟩, rfl, tm_6 (i := 157) rfl rfl, tm_0 (i := 64) rfl rfl⟩
set_option maxRecDepth 20000 in
theorem mvX10_callTo : MV mX10_callTo 1 := ⟨⟨tm_6 (i := 162) rfl rfl, ⟨by decide, by decide, by decide +kernel⟩, rfl, tm_1 (i := 10) rfl rfl⟩, rfl, tm_6 (i := 161) rfl rfl, tm_0 (i := 65) rfl rfl⟩
set_option maxRecDepth 20000 in
theorem mvX10_line : MV mX10_line 2 := ⟨⟨tm_6 (i := 166) rfl rfl, ⟨by decide, by decide, by decide +kernel⟩, rfl, tm_1 (i := 10) rfl rfl⟩, rfl, tm_6 (i := 164) rfl rfl, tm_6 (i := 165) rfl rfl⟩
set_option maxRecDepth 20000 in
theorem mvX10_toldLine : MV mX10_toldLine 2 := ⟨⟨tm_6 (i := 170) rfl rfl, ⟨by decide, by decide, by decide +kernel⟩, rfl, tm_1 (i := 10) rfl rfl⟩, rfl, tm_6 (i := 169) rfl rfl, tm_0 (i := 66) rfl rfl⟩
set_option maxRecDepth 20000 in
theorem mvX10_group : MV mX10_group 2 := ⟨⟨tm_6 (i := 174) rfl rfl, ⟨by decide, by decide, by decide +kernel⟩, rfl, tm_1 (i := 10) rfl rfl⟩, rfl, tm_6 (i := 172) rfl rfl, tm_6 (i := 173) rfl rfl⟩
set_option maxRecDepth 20000 in
theorem mvX10_noGroup : MV mX10_noGroup 1 := ⟨⟨tm_6 (i := 178) rfl rfl, ⟨by decide, by decide, by decide +kernel⟩, rfl, tm_1 (i := 10) rfl rfl⟩, rfl, tm_6 (i := 177) rfl rfl, tm_0 (i := 67) rfl rfl⟩
set_option maxRecDepth 20000 in
theorem mvX10_toldGroup : MV mX10_toldGroup 2 := ⟨⟨tm_6 (i := 182) rfl rfl, ⟨by decide, by decide, by decide +kernel⟩, rfl, tm_1 (i := 10) rfl rfl⟩, rfl, tm_6 (i := 181) rfl rfl, tm_0 (i := 68) rfl rfl⟩
set_option maxRecDepth 20000 in
theorem mvX10_busyTrunks : MV mX10_busyTrunks 1 := ⟨⟨tm_6 (i := 186) rfl rfl, ⟨by decide, by decide, by decide +kernel⟩, rfl, tm_1 (i := 10) rfl rfl⟩, rfl, tm_6 (i := 185) rfl rfl, tm_0 (i := 69) rfl rfl⟩
set_option maxRecDepth 20000 in
theorem mvX10_ofGroup : MV mX10_ofGroup 2 := ⟨⟨tm_6 (i := 190) rfl rfl, ⟨by decide, by decide, by decide +kernel⟩, rfl, tm_1 (i := 10) rfl rfl⟩, rfl, tm_6 (i := 189) rfl rfl, tm_0 (i := 70) rfl rfl⟩
set_option maxRecDepth 20000 in
theorem mvX10_register : MV mX10_register 2 := ⟨⟨tm_6 (i := 194) rfl rfl, ⟨by decide, by decide, by decide +kernel⟩, rfl, tm_1 (i := 10) rfl rfl⟩, rfl, tm_6 (i := 192) rfl rfl, tm_6 (i := 193) rfl rfl⟩
set_option maxRecDepth 20000 in
theorem mvX10_marker : MV mX10_marker 2 := ⟨⟨tm_6 (i := 198) rfl rfl, ⟨by decide, by decide, by decide +kernel⟩, rfl, tm_1 (i := 10) rfl rfl⟩, rfl, tm_6 (i := 196) rfl rfl, tm_6 (i := 197) rfl rfl⟩
set_option maxRecDepth 20000 in
theorem mvX10_call : MV mX10_call 2 := ⟨⟨tm_6 (i := 202) rfl rfl, ⟨by decide, by decide, by decide +kernel⟩, rfl, tm_1 (i := 10) rfl rfl⟩, rfl, tm_6 (i := 200) rfl rfl, tm_6 (i := 201) rfl rfl⟩
set_option maxRecDepth 20000 in
theorem mvX10_noCall : MV mX10_noCall 1 := ⟨⟨tm_6 (i := 206) rfl rfl, ⟨by decide, by decide, by decide +kernel⟩, rfl, tm_1 (i := 10) rfl rfl⟩, rfl, tm_6 (i := 205) rfl rfl, tm_0 (i := 71) rfl rfl⟩
set_option maxRecDepth 20000 in
theorem mvX10_digit : MV mX10_digit 2 := ⟨⟨tm_6 (i := 210) rfl rfl, ⟨by decide, by decide, by decide +kernel⟩, rfl, tm_1 (i := 10) rfl rfl⟩, rfl, tm_6 (i := 208) rfl rfl, tm_6 (i := 209) rfl rfl⟩
set_option maxRecDepth 20000 in
theorem mvX10_dialledValue : MV mX10_dialledValue 2 := ⟨⟨tm_6 (i := 214) rfl rfl, ⟨by decide, by decide, by decide +kernel⟩, rfl, tm_1 (i := 10) rfl rfl⟩, rfl, tm_6 (i := 213) rfl rfl, tm_0 (i := 72) rfl rfl⟩
set_option maxRecDepth 20000 in
theorem msX10_power : MS mX10_power 1 := ⟨⟨tm_6 (i := 217) rfl rfl, ⟨by decide, by decide, by decide +kernel⟩, rfl, tm_1 (i := 10) rfl rfl⟩, rfl, tm_6 (i := 216) rfl rfl⟩
set_option maxRecDepth 20000 in
theorem mvX10_look : MV mX10_look 2 := ⟨⟨tm_6 (i := 221) rfl rfl, ⟨by decide, by decide, by decide +kernel⟩, rfl, tm_1 (i := 10) rfl rfl⟩, rfl, tm_6 (i := 219) rfl rfl, tm_6 (i := 220) rfl rfl⟩
set_option maxRecDepth 20000 in
theorem mvX10_valueOf : MV mX10_valueOf 1 := ⟨⟨tm_6 (i := 225) rfl rfl, ⟨by decide, by decide, by decide +kernel⟩, rfl, tm_1 (i := 10) rfl rfl⟩, rfl, tm_6 (i := 224) rfl rfl, tm_0 (i := 73) rfl rfl⟩
set_option maxRecDepth 20000 in
theorem mvX10_routeFor : MV mX10_routeFor 2 := ⟨⟨tm_6 (i := 229) rfl rfl, ⟨by decide, by decide, by decide +kernel⟩, rfl, tm_1 (i := 10) rfl rfl⟩, rfl, tm_6 (i := 228) rfl rfl, tm_0 (i := 74) rfl rfl⟩
set_option maxRecDepth 20000 in
theorem mvX10_isComplete : MV mX10_isComplete 2 := ⟨⟨tm_6 (i := 233) rfl rfl, ⟨by decide, by decide, by decide +kernel⟩, rfl, tm_1 (i := 10) rfl rfl⟩, rfl, tm_6 (i := 232) rfl rfl, tm_0 (i := 75) rfl rfl⟩
set_option maxRecDepth 20000 in
theorem mvX10_choiceOf : MV mX10_choiceOf 1 := ⟨⟨tm_6 (i := 237) rfl rfl, ⟨by decide, by decide, by decide +kernel⟩, rfl, tm_1 (i := 10) rfl rfl⟩, rfl, tm_6 (i := 236) rfl rfl, tm_0 (i := 76) rfl rfl⟩
set_option maxRecDepth 20000 in
theorem mvX10_isFree : MV mX10_isFree 2 := ⟨⟨tm_7 (i := 1) rfl rfl, ⟨by decide, by decide, by decide +kernel⟩, rfl, tm_1 (i := 10) rfl rfl⟩, rfl, tm_7 (i := 0) rfl rfl, tm_0 (i := 77) rfl rfl⟩
set_option maxRecDepth 20000 in
theorem mvX10_foremost : MV mX10_foremost 1 := ⟨⟨tm_7 (i := 5) rfl rfl, ⟨by decide, by decide, by decide +kernel⟩, rfl, tm_1 (i := 10) rfl rfl⟩, rfl, tm_7 (i := 3) rfl rfl, tm_7 (i := 4) rfl rfl⟩
set_option maxRecDepth 20000 in
theorem mvX10_foremostOf : MV mX10_foremostOf 1 := ⟨⟨tm_7 (i := 9) rfl rfl, ⟨by decide, by decide, by decide +kernel⟩, rfl, tm_1 (i := 10) rfl rfl⟩, rfl, tm_7 (i := 8) rfl rfl, tm_0 (i := 78) rfl rfl⟩
set_option maxRecDepth 20000 in
theorem mvX10_overIn : MV mX10_overIn 1 := ⟨⟨tm_7 (i := 13) rfl rfl, ⟨by decide, by decide, by decide +kernel⟩, rfl, tm_1 (i := 10) rfl rfl⟩, rfl, tm_7 (i := 11) rfl rfl, tm_7 (i := 12) rfl rfl⟩
set_option maxRecDepth 20000 in
theorem mvX10_passTick : MV mX10_passTick 0 := ⟨⟨tm_7 (i := 17) rfl rfl, ⟨by decide, by decide, by decide +kernel⟩, rfl, tm_1 (i := 10) rfl rfl⟩, rfl, tm_7 (i := 16) rfl rfl, tm_0 (i := 79) rfl rfl⟩
set_option maxRecDepth 20000 in
theorem mvX10_comes : MV mX10_comes 1 := ⟨⟨tm_7 (i := 21) rfl rfl, ⟨by decide, by decide, by decide +kernel⟩, rfl, tm_1 (i := 10) rfl rfl⟩, rfl, tm_7 (i := 20) rfl rfl, tm_0 (i := 80) rfl rfl⟩
set_option maxRecDepth 20000 in
theorem mvX10_set : MV mX10_set 3 := ⟨⟨tm_7 (i := 25) rfl rfl, ⟨by decide, by decide, by decide +kernel⟩, rfl, tm_1 (i := 10) rfl rfl⟩, rfl, tm_7 (i := 24) rfl rfl, tm_0 (i := 81) rfl rfl⟩
set_option maxRecDepth 20000 in
theorem mvX10_isOver : MV mX10_isOver 2 := ⟨⟨tm_7 (i := 29) rfl rfl, ⟨by decide, by decide, by decide +kernel⟩, rfl, tm_1 (i := 10) rfl rfl⟩, rfl, tm_7 (i := 28) rfl rfl, tm_0 (i := 82) rfl rfl⟩
set_option maxRecDepth 20000 in
theorem mvX10_waits : MV mX10_waits 2 := ⟨⟨tm_7 (i := 33) rfl rfl, ⟨by decide, by decide, by decide +kernel⟩, rfl, tm_1 (i := 10) rfl rfl⟩, rfl, tm_7 (i := 32) rfl rfl, tm_0 (i := 83) rfl rfl⟩
set_option maxRecDepth 20000 in
theorem mvX10_marks : MV mX10_marks 1 := ⟨⟨tm_7 (i := 37) rfl rfl, ⟨by decide, by decide, by decide +kernel⟩, rfl, tm_1 (i := 10) rfl rfl⟩, rfl, tm_7 (i := 36) rfl rfl, tm_0 (i := 84) rfl rfl⟩
set_option maxRecDepth 20000 in
theorem mvX10_freeRegister : MV mX10_freeRegister 1 := ⟨⟨tm_7 (i := 41) rfl rfl, ⟨by decide, by decide, by decide +kernel⟩, rfl, tm_1 (i := 10) rfl rfl⟩, rfl, tm_7 (i := 40) rfl rfl, tm_0 (i := 85) rfl rfl⟩
set_option maxRecDepth 20000 in
theorem mvX10_looks : MV mX10_looks 3 := ⟨⟨tm_7 (i := 45) rfl rfl, ⟨by decide, by decide, by decide +kernel⟩, rfl, tm_1 (i := 10) rfl rfl⟩, rfl, tm_7 (i := 44) rfl rfl, tm_0 (i := 86) rfl rfl⟩
set_option maxRecDepth 20000 in
theorem mvX10_talks : MV mX10_talks 3 := ⟨⟨tm_7 (i := 49) rfl rfl, ⟨by decide, by decide, by decide +kernel⟩, rfl, tm_1 (i := 10) rfl rfl⟩, rfl, tm_7 (i := 48) rfl rfl, tm_0 (i := 87) rfl rfl⟩
set_option maxRecDepth 20000 in
theorem mvX10_addGroup : MV mX10_addGroup 3 := ⟨⟨tm_7 (i := 53) rfl rfl, ⟨by decide, by decide, by decide +kernel⟩, rfl, tm_1 (i := 10) rfl rfl⟩, rfl, tm_7 (i := 52) rfl rfl, tm_0 (i := 88) rfl rfl⟩
set_option maxRecDepth 20000 in
theorem mvX10_dials : MV mX10_dials 1 := ⟨⟨tm_7 (i := 57) rfl rfl, ⟨by decide, by decide, by decide +kernel⟩, rfl, tm_1 (i := 10) rfl rfl⟩, rfl, tm_7 (i := 56) rfl rfl, tm_0 (i := 89) rfl rfl⟩
set_option maxRecDepth 20000 in
theorem mvX10_takesMarker : MV mX10_takesMarker 1 := ⟨⟨tm_7 (i := 61) rfl rfl, ⟨by decide, by decide, by decide +kernel⟩, rfl, tm_1 (i := 10) rfl rfl⟩, rfl, tm_7 (i := 60) rfl rfl, tm_0 (i := 90) rfl rfl⟩
set_option maxRecDepth 20000 in
theorem mvX10_takesRegister : MV mX10_takesRegister 1 := ⟨⟨tm_7 (i := 65) rfl rfl, ⟨by decide, by decide, by decide +kernel⟩, rfl, tm_1 (i := 10) rfl rfl⟩, rfl, tm_7 (i := 64) rfl rfl, tm_0 (i := 91) rfl rfl⟩
set_option maxRecDepth 20000 in
theorem mvX10_foretold : MV mX10_foretold 2 := ⟨⟨tm_7 (i := 69) rfl rfl, ⟨by decide, by decide, by decide +kernel⟩, rfl, tm_1 (i := 10) rfl rfl⟩, rfl, tm_7 (i := 67) rfl rfl, tm_7 (i := 68) rfl rfl⟩
set_option maxRecDepth 20000 in
theorem mvX10_bestGuard : MV mX10_bestGuard 0 := ⟨⟨tm_7 (i := 73) rfl rfl, ⟨by decide, by decide, by decide +kernel⟩, rfl, tm_1 (i := 10) rfl rfl⟩, rfl, tm_7 (i := 71) rfl rfl, tm_7 (i := 72) rfl rfl⟩
set_option maxRecDepth 20000 in
theorem mvX10_service : MV mX10_service 0 := ⟨⟨tm_7 (i := 77) rfl rfl, ⟨by decide, by decide, by decide +kernel⟩, rfl, tm_1 (i := 10) rfl rfl⟩, rfl, tm_7 (i := 75) rfl rfl, tm_7 (i := 76) rfl rfl⟩
set_option maxRecDepth 20000 in
theorem mvX10_traffic : MV mX10_traffic 1 := ⟨⟨tm_7 (i := 81) rfl rfl, ⟨by decide, by decide, by decide +kernel⟩, rfl, tm_1 (i := 10) rfl rfl⟩, rfl, tm_7 (i := 79) rfl rfl, tm_7 (i := 80) rfl rfl⟩
set_option maxRecDepth 20000 in
theorem mvX10_dial : MV mX10_dial 3 := ⟨⟨tm_7 (i := 85) rfl rfl, ⟨by decide, by decide, by decide +kernel⟩, rfl, tm_1 (i := 10) rfl rfl⟩, rfl, tm_7 (i := 83) rfl rfl, tm_7 (i := 84) rfl rfl⟩
set_option maxRecDepth 20000 in
theorem mvX10_hang : MV mX10_hang 1 := ⟨⟨tm_7 (i := 89) rfl rfl, ⟨by decide, by decide, by decide +kernel⟩, rfl, tm_1 (i := 10) rfl rfl⟩, rfl, tm_7 (i := 87) rfl rfl, tm_7 (i := 88) rfl rfl⟩
set_option maxRecDepth 20000 in
theorem mvX10_rule : MV mX10_rule 2 := ⟨⟨tm_7 (i := 93) rfl rfl, ⟨by decide, by decide, by decide +kernel⟩, rfl, tm_1 (i := 10) rfl rfl⟩, rfl, tm_7 (i := 91) rfl rfl, tm_7 (i := 92) rfl rfl⟩
set_option maxRecDepth 20000 in
theorem mvX10_pass : MV mX10_pass 1 := ⟨⟨tm_7 (i := 97) rfl rfl, ⟨by decide, by decide, by decide +kernel⟩, rfl, tm_1 (i := 10) rfl rfl⟩, rfl, tm_7 (i := 95) rfl rfl, tm_7 (i := 96) rfl rfl⟩
set_option maxRecDepth 20000 in
theorem mvX10_undo : MV mX10_undo 0 := ⟨⟨tm_7 (i := 101) rfl rfl, ⟨by decide, by decide, by decide +kernel⟩, rfl, tm_1 (i := 10) rfl rfl⟩, rfl, tm_7 (i := 99) rfl rfl, tm_7 (i := 100) rfl rfl⟩
set_option maxRecDepth 20000 in
theorem mvX10_checksum : MV mX10_checksum 0 := ⟨⟨tm_7 (i := 105) rfl rfl, ⟨by decide, by decide, by decide +kernel⟩, rfl, tm_1 (i := 10) rfl rfl⟩, rfl, tm_7 (i := 103) rfl rfl, tm_7 (i := 104) rfl rfl⟩
set_option maxRecDepth 20000 in
theorem lk_L_69 : LK RL 69 mX9_init := tm_1 (i := 26) rfl rfl
set_option maxRecDepth 20000 in
theorem lk_X9_22 : LK RX9 22 mX1_init := tm_1 (i := 34) rfl rfl
set_option maxRecDepth 20000 in
theorem lk_X1_21 : LK RX1 21 mX2_init := tm_1 (i := 41) rfl rfl
set_option maxRecDepth 20000 in
theorem fl_X2_7 : FL RX2 7 2 0 := ⟨by decide, by decide, tm_1 (i := 45) rfl rfl⟩
set_option maxRecDepth 20000 in
theorem fl_X1_133 : FL RX1 133 2 0 := ⟨by decide, by decide, tm_1 (i := 46) rfl rfl⟩
set_option maxRecDepth 20000 in
theorem fl_X2_13 : FL RX2 13 2 1 := ⟨by decide, by decide, tm_1 (i := 47) rfl rfl⟩
set_option maxRecDepth 20000 in
theorem fl_X1_134 : FL RX1 134 2 1 := ⟨by decide, by decide, tm_1 (i := 48) rfl rfl⟩
set_option maxRecDepth 20000 in
theorem fl_X2_17 : FL RX2 17 2 2 := ⟨by decide, by decide, tm_1 (i := 49) rfl rfl⟩
set_option maxRecDepth 20000 in
theorem fl_X9_136 : FL RX9 136 2 2 := ⟨by decide, by decide, tm_1 (i := 50) rfl rfl⟩
set_option maxRecDepth 20000 in
theorem fl_X1_290 : FL RX1 290 2 2 := ⟨by decide, by decide, tm_1 (i := 51) rfl rfl⟩
set_option maxRecDepth 20000 in
theorem fl_X2_20 : FL RX2 20 2 3 := ⟨by decide, by decide, tm_1 (i := 52) rfl rfl⟩
set_option maxRecDepth 20000 in
theorem fl_X9_141 : FL RX9 141 2 3 := ⟨by decide, by decide, tm_1 (i := 53) rfl rfl⟩
set_option maxRecDepth 20000 in
theorem fl_X1_296 : FL RX1 296 2 3 := ⟨by decide, by decide, tm_1 (i := 54) rfl rfl⟩
set_option maxRecDepth 20000 in
theorem fl_X2_23 : FL RX2 23 2 4 := ⟨by decide, by decide, tm_1 (i := 55) rfl rfl⟩
set_option maxRecDepth 20000 in
theorem fl_X9_147 : FL RX9 147 2 4 := ⟨by decide, by decide, tm_1 (i := 56) rfl rfl⟩
set_option maxRecDepth 20000 in
theorem fl_X1_190 : FL RX1 190 2 4 := ⟨by decide, by decide, tm_1 (i := 57) rfl rfl⟩
set_option maxRecDepth 20000 in
theorem fl_X2_26 : FL RX2 26 2 5 := ⟨by decide, by decide, tm_1 (i := 58) rfl rfl⟩
set_option maxRecDepth 20000 in
theorem fl_X9_150 : FL RX9 150 2 5 := ⟨by decide, by decide, tm_1 (i := 59) rfl rfl⟩
set_option maxRecDepth 20000 in
theorem fl_X1_284 : FL RX1 284 2 5 := ⟨by decide, by decide, tm_1 (i := 60) rfl rfl⟩
set_option maxRecDepth 20000 in
theorem fl_X2_29 : FL RX2 29 2 6 := ⟨by decide, by decide, tm_1 (i := 61) rfl rfl⟩
set_option maxRecDepth 20000 in
theorem fl_X9_153 : FL RX9 153 2 6 := ⟨by decide, by decide, tm_1 (i := 62) rfl rfl⟩
set_option maxRecDepth 20000 in
theorem fl_X1_287 : FL RX1 287 2 6 := ⟨by decide, by decide, tm_1 (i := 63) rfl rfl⟩
set_option maxRecDepth 20000 in
theorem fl_X2_32 : FL RX2 32 2 7 := ⟨by decide, by decide, tm_1 (i := 64) rfl rfl⟩
set_option maxRecDepth 20000 in
theorem fl_X9_156 : FL RX9 156 2 7 := ⟨by decide, by decide, tm_1 (i := 65) rfl rfl⟩
set_option maxRecDepth 20000 in
theorem fl_X1_323 : FL RX1 323 2 7 := ⟨by decide, by decide, tm_1 (i := 66) rfl rfl⟩
set_option maxRecDepth 20000 in
theorem lk_X1_30 : LK RX1 30 mX6_init := tm_1 (i := 89) rfl rfl
set_option maxRecDepth 20000 in
theorem fl_X6_9 : FL RX6 9 6 0 := ⟨by decide, by decide, tm_1 (i := 93) rfl rfl⟩
set_option maxRecDepth 20000 in
theorem fl_X1_138 : FL RX1 138 6 0 := ⟨by decide, by decide, tm_1 (i := 94) rfl rfl⟩
set_option maxRecDepth 20000 in
theorem fl_X6_19 : FL RX6 19 6 1 := ⟨by decide, by decide, tm_1 (i := 95) rfl rfl⟩
set_option maxRecDepth 20000 in
theorem fl_X1_139 : FL RX1 139 6 1 := ⟨by decide, by decide, tm_1 (i := 96) rfl rfl⟩
set_option maxRecDepth 20000 in
theorem fl_X6_22 : FL RX6 22 6 2 := ⟨by decide, by decide, tm_1 (i := 97) rfl rfl⟩
set_option maxRecDepth 20000 in
theorem fl_X1_150 : FL RX1 150 6 2 := ⟨by decide, by decide, tm_1 (i := 98) rfl rfl⟩
set_option maxRecDepth 20000 in
theorem fl_X6_25 : FL RX6 25 6 3 := ⟨by decide, by decide, tm_1 (i := 99) rfl rfl⟩
set_option maxRecDepth 20000 in
theorem fl_X1_277 : FL RX1 277 6 3 := ⟨by decide, by decide, tm_1 (i := 100) rfl rfl⟩
set_option maxRecDepth 20000 in
theorem fl_X6_15 : FL RX6 15 6 4 := ⟨by decide, by decide, tm_1 (i := 101) rfl rfl⟩
set_option maxRecDepth 20000 in
theorem lk_X1_37 : LK RX1 37 mX5_init := tm_1 (i := 116) rfl rfl
set_option maxRecDepth 20000 in
theorem fl_X5_7 : FL RX5 7 5 0 := ⟨by decide, by decide, tm_1 (i := 120) rfl rfl⟩
set_option maxRecDepth 20000 in
theorem fl_X1_196 : FL RX1 196 5 0 := ⟨by decide, by decide, tm_1 (i := 121) rfl rfl⟩
set_option maxRecDepth 20000 in
theorem fl_X5_13 : FL RX5 13 5 1 := ⟨by decide, by decide, tm_1 (i := 122) rfl rfl⟩
set_option maxRecDepth 20000 in
theorem fl_X9_163 : FL RX9 163 5 1 := ⟨by decide, by decide, tm_1 (i := 123) rfl rfl⟩
set_option maxRecDepth 20000 in
theorem fl_X1_193 : FL RX1 193 5 1 := ⟨by decide, by decide, tm_1 (i := 124) rfl rfl⟩
set_option maxRecDepth 20000 in
theorem fl_X5_18 : FL RX5 18 5 2 := ⟨by decide, by decide, tm_1 (i := 125) rfl rfl⟩
set_option maxRecDepth 20000 in
theorem fl_X9_168 : FL RX9 168 5 2 := ⟨by decide, by decide, tm_1 (i := 126) rfl rfl⟩
set_option maxRecDepth 20000 in
theorem fl_X1_274 : FL RX1 274 5 2 := ⟨by decide, by decide, tm_1 (i := 127) rfl rfl⟩
set_option maxRecDepth 20000 in
theorem fl_X5_21 : FL RX5 21 5 3 := ⟨by decide, by decide, tm_1 (i := 128) rfl rfl⟩
set_option maxRecDepth 20000 in
theorem fl_X9_176 : FL RX9 176 5 3 := ⟨by decide, by decide, tm_1 (i := 129) rfl rfl⟩
set_option maxRecDepth 20000 in
theorem fl_X1_311 : FL RX1 311 5 3 := ⟨by decide, by decide, tm_1 (i := 130) rfl rfl⟩
set_option maxRecDepth 20000 in
theorem lk_X1_44 : LK RX1 44 mX4_init := tm_1 (i := 143) rfl rfl
set_option maxRecDepth 20000 in
theorem fl_X4_7 : FL RX4 7 4 0 := ⟨by decide, by decide, tm_1 (i := 147) rfl rfl⟩
set_option maxRecDepth 20000 in
theorem fl_X1_317 : FL RX1 317 4 0 := ⟨by decide, by decide, tm_1 (i := 148) rfl rfl⟩
set_option maxRecDepth 20000 in
theorem fl_X4_13 : FL RX4 13 4 1 := ⟨by decide, by decide, tm_1 (i := 149) rfl rfl⟩
set_option maxRecDepth 20000 in
theorem fl_X9_183 : FL RX9 183 4 1 := ⟨by decide, by decide, tm_1 (i := 150) rfl rfl⟩
set_option maxRecDepth 20000 in
theorem fl_X1_203 : FL RX1 203 4 1 := ⟨by decide, by decide, tm_1 (i := 151) rfl rfl⟩
set_option maxRecDepth 20000 in
theorem fl_X4_16 : FL RX4 16 4 2 := ⟨by decide, by decide, tm_1 (i := 152) rfl rfl⟩
set_option maxRecDepth 20000 in
theorem fl_X9_186 : FL RX9 186 4 2 := ⟨by decide, by decide, tm_1 (i := 153) rfl rfl⟩
set_option maxRecDepth 20000 in
theorem fl_X1_252 : FL RX1 252 4 2 := ⟨by decide, by decide, tm_1 (i := 154) rfl rfl⟩
set_option maxRecDepth 20000 in
theorem lk_X1_51 : LK RX1 51 mX0_init := tm_1 (i := 165) rfl rfl
set_option maxRecDepth 20000 in
theorem fl_X0_9 : FL RX0 9 0 0 := ⟨by decide, by decide, tm_1 (i := 169) rfl rfl⟩
set_option maxRecDepth 20000 in
theorem fl_X1_130 : FL RX1 130 0 0 := ⟨by decide, by decide, tm_1 (i := 170) rfl rfl⟩
set_option maxRecDepth 20000 in
theorem fl_X9_252 : FL RX9 252 0 0 := ⟨by decide, by decide, tm_1 (i := 171) rfl rfl⟩
set_option maxRecDepth 20000 in
theorem fl_X0_15 : FL RX0 15 0 1 := ⟨by decide, by decide, tm_1 (i := 172) rfl rfl⟩
set_option maxRecDepth 20000 in
theorem fl_X1_102 : FL RX1 102 0 1 := ⟨by decide, by decide, tm_1 (i := 173) rfl rfl⟩
set_option maxRecDepth 20000 in
theorem fl_X9_205 : FL RX9 205 0 1 := ⟨by decide, by decide, tm_1 (i := 174) rfl rfl⟩
set_option maxRecDepth 20000 in
theorem fl_X0_18 : FL RX0 18 0 2 := ⟨by decide, by decide, tm_1 (i := 175) rfl rfl⟩
set_option maxRecDepth 20000 in
theorem fl_X9_193 : FL RX9 193 0 2 := ⟨by decide, by decide, tm_1 (i := 176) rfl rfl⟩
set_option maxRecDepth 20000 in
theorem fl_X1_169 : FL RX1 169 0 2 := ⟨by decide, by decide, tm_1 (i := 177) rfl rfl⟩
set_option maxRecDepth 20000 in
theorem fl_X0_21 : FL RX0 21 0 3 := ⟨by decide, by decide, tm_1 (i := 178) rfl rfl⟩
set_option maxRecDepth 20000 in
theorem fl_X9_198 : FL RX9 198 0 3 := ⟨by decide, by decide, tm_1 (i := 179) rfl rfl⟩
set_option maxRecDepth 20000 in
theorem fl_X1_303 : FL RX1 303 0 3 := ⟨by decide, by decide, tm_1 (i := 180) rfl rfl⟩
set_option maxRecDepth 20000 in
theorem fl_X0_24 : FL RX0 24 0 4 := ⟨by decide, by decide, tm_1 (i := 181) rfl rfl⟩
set_option maxRecDepth 20000 in
theorem fl_X9_199 : FL RX9 199 0 4 := ⟨by decide, by decide, tm_1 (i := 182) rfl rfl⟩
set_option maxRecDepth 20000 in
theorem fl_X0_27 : FL RX0 27 0 5 := ⟨by decide, by decide, tm_1 (i := 183) rfl rfl⟩
set_option maxRecDepth 20000 in
theorem fl_X9_202 : FL RX9 202 0 5 := ⟨by decide, by decide, tm_1 (i := 184) rfl rfl⟩
set_option maxRecDepth 20000 in
theorem fl_X1_238 : FL RX1 238 0 5 := ⟨by decide, by decide, tm_1 (i := 185) rfl rfl⟩
set_option maxRecDepth 20000 in
theorem fl_X0_30 : FL RX0 30 0 6 := ⟨by decide, by decide, tm_1 (i := 186) rfl rfl⟩
set_option maxRecDepth 20000 in
theorem fl_X1_184 : FL RX1 184 0 6 := ⟨by decide, by decide, tm_1 (i := 187) rfl rfl⟩
set_option maxRecDepth 20000 in
theorem fl_X0_34 : FL RX0 34 0 7 := ⟨by decide, by decide, tm_1 (i := 188) rfl rfl⟩
set_option maxRecDepth 20000 in
theorem fl_X1_197 : FL RX1 197 0 7 := ⟨by decide, by decide, tm_1 (i := 189) rfl rfl⟩
set_option maxRecDepth 20000 in
theorem fl_X0_37 : FL RX0 37 0 8 := ⟨by decide, by decide, tm_1 (i := 190) rfl rfl⟩
set_option maxRecDepth 20000 in
theorem fl_X9_208 : FL RX9 208 0 8 := ⟨by decide, by decide, tm_1 (i := 191) rfl rfl⟩
set_option maxRecDepth 20000 in
theorem fl_X1_172 : FL RX1 172 0 8 := ⟨by decide, by decide, tm_1 (i := 192) rfl rfl⟩
set_option maxRecDepth 20000 in
theorem fl_X0_40 : FL RX0 40 0 9 := ⟨by decide, by decide, tm_1 (i := 193) rfl rfl⟩
set_option maxRecDepth 20000 in
theorem fl_X9_211 : FL RX9 211 0 9 := ⟨by decide, by decide, tm_1 (i := 194) rfl rfl⟩
set_option maxRecDepth 20000 in
theorem fl_X1_187 : FL RX1 187 0 9 := ⟨by decide, by decide, tm_1 (i := 195) rfl rfl⟩
set_option maxRecDepth 20000 in
theorem fl_X0_43 : FL RX0 43 0 10 := ⟨by decide, by decide, tm_1 (i := 196) rfl rfl⟩
set_option maxRecDepth 20000 in
theorem fl_X9_214 : FL RX9 214 0 10 := ⟨by decide, by decide, tm_1 (i := 197) rfl rfl⟩
set_option maxRecDepth 20000 in
theorem fl_X0_46 : FL RX0 46 0 11 := ⟨by decide, by decide, tm_1 (i := 198) rfl rfl⟩
set_option maxRecDepth 20000 in
theorem fl_X9_217 : FL RX9 217 0 11 := ⟨by decide, by decide, tm_1 (i := 199) rfl rfl⟩
set_option maxRecDepth 20000 in
theorem fl_X0_49 : FL RX0 49 0 12 := ⟨by decide, by decide, tm_1 (i := 200) rfl rfl⟩
set_option maxRecDepth 20000 in
theorem fl_X9_220 : FL RX9 220 0 12 := ⟨by decide, by decide, tm_1 (i := 201) rfl rfl⟩
set_option maxRecDepth 20000 in
theorem fl_X1_245 : FL RX1 245 0 12 := ⟨by decide, by decide, tm_1 (i := 202) rfl rfl⟩
set_option maxRecDepth 20000 in
theorem lk_X1_52 : LK RX1 52 mX1_clear := tm_1 (i := 230) rfl rfl
set_option maxRecDepth 20000 in
theorem lk_X1_96 : LK RX1 96 mX5_serve := tm_1 (i := 234) rfl rfl
set_option maxRecDepth 20000 in
theorem lk_X1_99 : LK RX1 99 mX4_serve := tm_1 (i := 238) rfl rfl
set_option maxRecDepth 20000 in
theorem fl_X1_55 : FL RX1 55 1 0 := ⟨by decide, by decide, tm_2 (i := 2) rfl rfl⟩
set_option maxRecDepth 20000 in
theorem fl_X9_73 : FL RX9 73 1 0 := ⟨by decide, by decide, tm_2 (i := 3) rfl rfl⟩
set_option maxRecDepth 20000 in
theorem fl_X1_59 : FL RX1 59 1 1 := ⟨by decide, by decide, tm_2 (i := 4) rfl rfl⟩
set_option maxRecDepth 20000 in
theorem fl_X9_76 : FL RX9 76 1 1 := ⟨by decide, by decide, tm_2 (i := 5) rfl rfl⟩
set_option maxRecDepth 20000 in
theorem fl_X1_62 : FL RX1 62 1 2 := ⟨by decide, by decide, tm_2 (i := 6) rfl rfl⟩
set_option maxRecDepth 20000 in
theorem fl_X8_105 : FL RX8 105 1 2 := ⟨by decide, by decide, tm_2 (i := 7) rfl rfl⟩
set_option maxRecDepth 20000 in
theorem fl_X9_79 : FL RX9 79 1 2 := ⟨by decide, by decide, tm_2 (i := 8) rfl rfl⟩
set_option maxRecDepth 20000 in
theorem fl_X1_65 : FL RX1 65 1 3 := ⟨by decide, by decide, tm_2 (i := 9) rfl rfl⟩
set_option maxRecDepth 20000 in
theorem fl_X9_82 : FL RX9 82 1 3 := ⟨by decide, by decide, tm_2 (i := 10) rfl rfl⟩
set_option maxRecDepth 20000 in
theorem fl_X8_122 : FL RX8 122 1 3 := ⟨by decide, by decide, tm_2 (i := 11) rfl rfl⟩
set_option maxRecDepth 20000 in
theorem fl_X1_68 : FL RX1 68 1 4 := ⟨by decide, by decide, tm_2 (i := 12) rfl rfl⟩
set_option maxRecDepth 20000 in
theorem fl_X9_85 : FL RX9 85 1 4 := ⟨by decide, by decide, tm_2 (i := 13) rfl rfl⟩
set_option maxRecDepth 20000 in
theorem fl_X8_140 : FL RX8 140 1 4 := ⟨by decide, by decide, tm_2 (i := 14) rfl rfl⟩
set_option maxRecDepth 20000 in
theorem fl_X1_71 : FL RX1 71 1 5 := ⟨by decide, by decide, tm_2 (i := 15) rfl rfl⟩
set_option maxRecDepth 20000 in
theorem fl_X9_66 : FL RX9 66 1 5 := ⟨by decide, by decide, tm_2 (i := 16) rfl rfl⟩
set_option maxRecDepth 20000 in
theorem fl_X8_167 : FL RX8 167 1 5 := ⟨by decide, by decide, tm_2 (i := 17) rfl rfl⟩
set_option maxRecDepth 20000 in
theorem fl_X1_74 : FL RX1 74 1 6 := ⟨by decide, by decide, tm_2 (i := 18) rfl rfl⟩
set_option maxRecDepth 20000 in
theorem fl_X9_88 : FL RX9 88 1 6 := ⟨by decide, by decide, tm_2 (i := 19) rfl rfl⟩
set_option maxRecDepth 20000 in
theorem fl_X1_77 : FL RX1 77 1 7 := ⟨by decide, by decide, tm_2 (i := 20) rfl rfl⟩
set_option maxRecDepth 20000 in
theorem fl_X9_91 : FL RX9 91 1 7 := ⟨by decide, by decide, tm_2 (i := 21) rfl rfl⟩
set_option maxRecDepth 20000 in
theorem fl_X1_80 : FL RX1 80 1 8 := ⟨by decide, by decide, tm_2 (i := 22) rfl rfl⟩
set_option maxRecDepth 20000 in
theorem fl_X9_94 : FL RX9 94 1 8 := ⟨by decide, by decide, tm_2 (i := 23) rfl rfl⟩
set_option maxRecDepth 20000 in
theorem fl_X1_83 : FL RX1 83 1 9 := ⟨by decide, by decide, tm_2 (i := 24) rfl rfl⟩
set_option maxRecDepth 20000 in
theorem fl_X9_97 : FL RX9 97 1 9 := ⟨by decide, by decide, tm_2 (i := 25) rfl rfl⟩
set_option maxRecDepth 20000 in
theorem fl_X1_86 : FL RX1 86 1 10 := ⟨by decide, by decide, tm_2 (i := 26) rfl rfl⟩
set_option maxRecDepth 20000 in
theorem fl_X9_107 : FL RX9 107 1 10 := ⟨by decide, by decide, tm_2 (i := 27) rfl rfl⟩
set_option maxRecDepth 20000 in
theorem fl_X1_89 : FL RX1 89 1 11 := ⟨by decide, by decide, tm_2 (i := 28) rfl rfl⟩
set_option maxRecDepth 20000 in
theorem fl_X1_92 : FL RX1 92 1 12 := ⟨by decide, by decide, tm_2 (i := 29) rfl rfl⟩
set_option maxRecDepth 20000 in
theorem fl_X9_265 : FL RX9 265 1 12 := ⟨by decide, by decide, tm_2 (i := 30) rfl rfl⟩
set_option maxRecDepth 20000 in
theorem fl_X1_9 : FL RX1 9 1 13 := ⟨by decide, by decide, tm_2 (i := 31) rfl rfl⟩
set_option maxRecDepth 20000 in
theorem fl_X1_17 : FL RX1 17 1 14 := ⟨by decide, by decide, tm_2 (i := 32) rfl rfl⟩
set_option maxRecDepth 20000 in
theorem fl_X1_26 : FL RX1 26 1 15 := ⟨by decide, by decide, tm_2 (i := 33) rfl rfl⟩
set_option maxRecDepth 20000 in
theorem fl_X1_33 : FL RX1 33 1 16 := ⟨by decide, by decide, tm_2 (i := 34) rfl rfl⟩
set_option maxRecDepth 20000 in
theorem fl_X1_40 : FL RX1 40 1 17 := ⟨by decide, by decide, tm_2 (i := 35) rfl rfl⟩
set_option maxRecDepth 20000 in
theorem fl_X1_47 : FL RX1 47 1 18 := ⟨by decide, by decide, tm_2 (i := 36) rfl rfl⟩
set_option maxRecDepth 20000 in
theorem lk_X9_32 : LK RX9 32 mX3_init := tm_2 (i := 78) rfl rfl
set_option maxRecDepth 20000 in
theorem lk_X3_17 : LK RX3 17 mX1_init := tm_2 (i := 84) rfl rfl
set_option maxRecDepth 20000 in
theorem fl_X3_11 : FL RX3 11 3 0 := ⟨by decide, by decide, tm_2 (i := 85) rfl rfl⟩
set_option maxRecDepth 20000 in
theorem fl_X3_18 : FL RX3 18 3 1 := ⟨by decide, by decide, tm_2 (i := 86) rfl rfl⟩
set_option maxRecDepth 20000 in
theorem fl_X3_22 : FL RX3 22 3 2 := ⟨by decide, by decide, tm_2 (i := 87) rfl rfl⟩
set_option maxRecDepth 20000 in
theorem lk_X9_39 : LK RX9 39 mX8_init := tm_2 (i := 97) rfl rfl
set_option maxRecDepth 20000 in
theorem lk_X8_11 : LK RX8 11 mX1_init := tm_2 (i := 102) rfl rfl
set_option maxRecDepth 20000 in
theorem fl_X8_12 : FL RX8 12 7 0 := ⟨by decide, by decide, tm_2 (i := 103) rfl rfl⟩
set_option maxRecDepth 20000 in
theorem fl_X9_60 : FL RX9 60 7 0 := ⟨by decide, by decide, tm_2 (i := 104) rfl rfl⟩
set_option maxRecDepth 20000 in
theorem fl_X8_32 : FL RX8 32 7 1 := ⟨by decide, by decide, tm_2 (i := 105) rfl rfl⟩
set_option maxRecDepth 20000 in
theorem fl_X9_55 : FL RX9 55 7 1 := ⟨by decide, by decide, tm_2 (i := 106) rfl rfl⟩
set_option maxRecDepth 20000 in
theorem fl_X8_29 : FL RX8 29 7 2 := ⟨by decide, by decide, tm_2 (i := 107) rfl rfl⟩
set_option maxRecDepth 20000 in
theorem fl_X8_18 : FL RX8 18 7 3 := ⟨by decide, by decide, tm_2 (i := 108) rfl rfl⟩
set_option maxRecDepth 20000 in
theorem fl_X8_22 : FL RX8 22 7 4 := ⟨by decide, by decide, tm_2 (i := 109) rfl rfl⟩
set_option maxRecDepth 20000 in
theorem fl_X8_26 : FL RX8 26 7 5 := ⟨by decide, by decide, tm_2 (i := 110) rfl rfl⟩
set_option maxRecDepth 20000 in
theorem fl_X8_35 : FL RX8 35 7 6 := ⟨by decide, by decide, tm_2 (i := 111) rfl rfl⟩
set_option maxRecDepth 20000 in
theorem fl_X8_39 : FL RX8 39 7 7 := ⟨by decide, by decide, tm_2 (i := 112) rfl rfl⟩
set_option maxRecDepth 20000 in
theorem fl_X8_42 : FL RX8 42 7 8 := ⟨by decide, by decide, tm_2 (i := 113) rfl rfl⟩
set_option maxRecDepth 20000 in
theorem fl_X8_52 : FL RX8 52 7 9 := ⟨by decide, by decide, tm_2 (i := 114) rfl rfl⟩
set_option maxRecDepth 20000 in
theorem fl_X8_190 : FL RX8 190 7 10 := ⟨by decide, by decide, tm_2 (i := 115) rfl rfl⟩
set_option maxRecDepth 20000 in
theorem fl_X8_187 : FL RX8 187 7 11 := ⟨by decide, by decide, tm_2 (i := 116) rfl rfl⟩
set_option maxRecDepth 20000 in
theorem fl_X8_75 : FL RX8 75 7 12 := ⟨by decide, by decide, tm_2 (i := 117) rfl rfl⟩
set_option maxRecDepth 20000 in
theorem fl_X8_111 : FL RX8 111 7 13 := ⟨by decide, by decide, tm_2 (i := 118) rfl rfl⟩
set_option maxRecDepth 20000 in
theorem fl_X8_128 : FL RX8 128 7 14 := ⟨by decide, by decide, tm_2 (i := 119) rfl rfl⟩
set_option maxRecDepth 20000 in
theorem fl_X9_9 : FL RX9 9 8 0 := ⟨by decide, by decide, tm_2 (i := 151) rfl rfl⟩
set_option maxRecDepth 20000 in
theorem fl_X9_13 : FL RX9 13 8 1 := ⟨by decide, by decide, tm_2 (i := 152) rfl rfl⟩
set_option maxRecDepth 20000 in
theorem fl_X9_17 : FL RX9 17 8 2 := ⟨by decide, by decide, tm_2 (i := 153) rfl rfl⟩
set_option maxRecDepth 20000 in
theorem fl_X9_23 : FL RX9 23 8 3 := ⟨by decide, by decide, tm_2 (i := 154) rfl rfl⟩
set_option maxRecDepth 20000 in
theorem fl_X9_27 : FL RX9 27 8 4 := ⟨by decide, by decide, tm_2 (i := 155) rfl rfl⟩
set_option maxRecDepth 20000 in
theorem fl_X9_33 : FL RX9 33 8 5 := ⟨by decide, by decide, tm_2 (i := 156) rfl rfl⟩
set_option maxRecDepth 20000 in
theorem fl_X9_40 : FL RX9 40 8 6 := ⟨by decide, by decide, tm_2 (i := 157) rfl rfl⟩
set_option maxRecDepth 20000 in
theorem lk_L_73 : LK RL 73 mX9_append := tm_2 (i := 173) rfl rfl
set_option maxRecDepth 20000 in
theorem lk_X9_44 : LK RX9 44 mX9_putWord := tm_2 (i := 177) rfl rfl
set_option maxRecDepth 20000 in
theorem lk_L_88 : LK RL 88 mX9_errorOffset := tm_2 (i := 181) rfl rfl
set_option maxRecDepth 20000 in
theorem lk_L_117 : LK RL 117 mX9_foremost := tm_2 (i := 185) rfl rfl
set_option maxRecDepth 20000 in
theorem lk_X9_249 : LK RX9 249 mX1_firstWaiting := tm_2 (i := 189) rfl rfl
set_option maxRecDepth 20000 in
theorem lk_L_128 : LK RL 128 mX9_bestGuard := tm_2 (i := 193) rfl rfl
set_option maxRecDepth 20000 in
theorem lk_X9_63 : LK RX9 63 mX1_copyFrom := tm_2 (i := 197) rfl rfl
set_option maxRecDepth 20000 in
theorem lk_X1_105 : LK RX1 105 mX2_copyFrom := tm_2 (i := 201) rfl rfl
set_option maxRecDepth 20000 in
theorem lk_X1_109 : LK RX1 109 mX6_copyFrom := tm_2 (i := 205) rfl rfl
set_option maxRecDepth 20000 in
theorem lk_X6_32 : LK RX6 32 mX6_tell := tm_2 (i := 209) rfl rfl
set_option maxRecDepth 20000 in
theorem lk_X6_28 : LK RX6 28 mX6_choiceAt := tm_2 (i := 213) rfl rfl
set_option maxRecDepth 20000 in
theorem lk_X6_36 : LK RX6 36 mX6_addChoice := tm_2 (i := 217) rfl rfl
set_option maxRecDepth 20000 in
theorem lk_X1_112 : LK RX1 112 mX5_copyFrom := tm_2 (i := 221) rfl rfl
set_option maxRecDepth 20000 in
theorem lk_X1_115 : LK RX1 115 mX4_copyFrom := tm_2 (i := 225) rfl rfl
set_option maxRecDepth 20000 in
theorem lk_X1_118 : LK RX1 118 mX0_copyFrom := tm_2 (i := 229) rfl rfl
set_option maxRecDepth 20000 in
theorem lk_X9_262 : LK RX9 262 mX1_settle := tm_2 (i := 233) rfl rfl
set_option maxRecDepth 20000 in
theorem lk_X1_228 : LK RX1 228 mX1_hasOpenCall := tm_2 (i := 237) rfl rfl
set_option maxRecDepth 20000 in
theorem lk_X1_232 : LK RX1 232 mX1_tick := tm_3 (i := 1) rfl rfl
set_option maxRecDepth 20000 in
theorem lk_X1_207 : LK RX1 207 mX1_letCallsCome := tm_3 (i := 5) rfl rfl
set_option maxRecDepth 20000 in
theorem lk_X1_235 : LK RX1 235 mX1_countIn := tm_3 (i := 9) rfl rfl
set_option maxRecDepth 20000 in
theorem lk_X1_181 : LK RX1 181 mX1_isBusy := tm_3 (i := 13) rfl rfl
set_option maxRecDepth 20000 in
theorem lk_X1_175 : LK RX1 175 mX1_callFrom := tm_3 (i := 17) rfl rfl
set_option maxRecDepth 20000 in
theorem lk_X1_178 : LK RX1 178 mX1_callTo := tm_3 (i := 21) rfl rfl
set_option maxRecDepth 20000 in
theorem lk_X1_204 : LK RX1 204 mX0_end := tm_3 (i := 25) rfl rfl
set_option maxRecDepth 20000 in
theorem lk_X1_241 : LK RX1 241 mX1_queueUp := tm_3 (i := 29) rfl rfl
set_option maxRecDepth 20000 in
theorem lk_X1_210 : LK RX1 210 mX1_letCallsTalk := tm_3 (i := 33) rfl rfl
set_option maxRecDepth 20000 in
theorem lk_X1_213 : LK RX1 213 mX1_letMarkersWork := tm_3 (i := 37) rfl rfl
set_option maxRecDepth 20000 in
theorem lk_X1_248 : LK RX1 248 mX1_callAt := tm_3 (i := 41) rfl rfl
set_option maxRecDepth 20000 in
theorem lk_X1_253 : LK RX1 253 mX1_findWay := tm_3 (i := 45) rfl rfl
set_option maxRecDepth 20000 in
theorem lk_X1_256 : LK RX1 256 mX1_dialledBy := tm_3 (i := 49) rfl rfl
set_option maxRecDepth 20000 in
theorem lk_X1_267 : LK RX1 267 mX1_registerOf := tm_3 (i := 53) rfl rfl
set_option maxRecDepth 20000 in
theorem lk_X1_270 : LK RX1 270 mX1_registerAt := tm_3 (i := 57) rfl rfl
set_option maxRecDepth 20000 in
theorem lk_X1_200 : LK RX1 200 mX1_freeRegisterOf := tm_3 (i := 61) rfl rfl
set_option maxRecDepth 20000 in
theorem lk_X1_146 : LK RX1 146 mX1_lineWith := tm_3 (i := 65) rfl rfl
set_option maxRecDepth 20000 in
theorem lk_X1_142 : LK RX1 142 mX1_routeFor := tm_3 (i := 69) rfl rfl
set_option maxRecDepth 20000 in
theorem lk_X1_260 : LK RX1 260 mX0_beginToTalk := tm_3 (i := 73) rfl rfl
set_option maxRecDepth 20000 in
theorem lk_X1_162 : LK RX1 162 mX1_freeChoice := tm_3 (i := 77) rfl rfl
set_option maxRecDepth 20000 in
theorem lk_X1_166 : LK RX1 166 mX6_choiceAt := tm_3 (i := 81) rfl rfl
set_option maxRecDepth 20000 in
theorem lk_X1_280 : LK RX1 280 mX1_groupAt := tm_3 (i := 82) rfl rfl
set_option maxRecDepth 20000 in
theorem lk_X1_293 : LK RX1 293 mX1_busyTrunks := tm_3 (i := 86) rfl rfl
set_option maxRecDepth 20000 in
theorem lk_X1_263 : LK RX1 263 mX1_takeTrunk := tm_3 (i := 90) rfl rfl
set_option maxRecDepth 20000 in
theorem lk_X1_216 : LK RX1 216 mX1_letRegistersDial := tm_3 (i := 94) rfl rfl
set_option maxRecDepth 20000 in
theorem lk_X1_299 : LK RX1 299 mX1_dialOn := tm_3 (i := 98) rfl rfl
set_option maxRecDepth 20000 in
theorem lk_X1_153 : LK RX1 153 mX7_lengthOf := tm_3 (i := 102) rfl rfl
set_option maxRecDepth 20000 in
theorem lk_X1_158 : LK RX1 158 mX1_isComplete := tm_3 (i := 105) rfl rfl
set_option maxRecDepth 20000 in
theorem lk_X1_304 : LK RX1 304 mX7_digitAt := tm_3 (i := 109) rfl rfl
set_option maxRecDepth 20000 in
theorem lk_X7_7 : LK RX7 7 mX7_lengthOf := tm_3 (i := 112) rfl rfl
set_option maxRecDepth 20000 in
theorem lk_X1_308 : LK RX1 308 mX7_with := tm_3 (i := 113) rfl rfl
set_option maxRecDepth 20000 in
theorem lk_X1_219 : LK RX1 219 mX1_giveMarkers := tm_3 (i := 116) rfl rfl
set_option maxRecDepth 20000 in
theorem lk_X1_314 : LK RX1 314 mX1_firstWaiting := tm_3 (i := 120) rfl rfl
set_option maxRecDepth 20000 in
theorem lk_X1_222 : LK RX1 222 mX1_giveRegisters := tm_3 (i := 121) rfl rfl
set_option maxRecDepth 20000 in
theorem lk_X1_225 : LK RX1 225 mX1_countTick := tm_3 (i := 125) rfl rfl
set_option maxRecDepth 20000 in
theorem lk_X1_318 : LK RX1 318 mJ9_max_7cf53 := tm_3 (i := 129) rfl rfl
set_option maxRecDepth 20000 in
theorem lk_X9_69 : LK RX9 69 mX1_countIn := tm_3 (i := 132) rfl rfl
set_option maxRecDepth 20000 in
theorem lk_L_132 : LK RL 132 mX9_service := tm_3 (i := 133) rfl rfl
set_option maxRecDepth 20000 in
theorem lk_L_154 : LK RL 154 mX9_undo := tm_3 (i := 137) rfl rfl
set_option maxRecDepth 20000 in
theorem lk_X9_286 : LK RX9 286 mX3_takeBack := tm_3 (i := 141) rfl rfl
set_option maxRecDepth 20000 in
theorem lk_X3_25 : LK RX3 25 mX1_copyFrom := tm_3 (i := 145) rfl rfl
set_option maxRecDepth 20000 in
theorem lk_L_158 : LK RL 158 mX9_checksum := tm_3 (i := 146) rfl rfl
set_option maxRecDepth 20000 in
theorem lk_X9_292 : LK RX9 292 mX9_state := tm_3 (i := 151) rfl rfl
set_option maxRecDepth 20000 in
theorem lk_X9_100 : LK RX9 100 mX1_busyLines := tm_3 (i := 219) rfl rfl
set_option maxRecDepth 20000 in
theorem lk_X9_104 : LK RX9 104 mX1_allOverflows := tm_3 (i := 223) rfl rfl
set_option maxRecDepth 20000 in
theorem lk_X9_294 : LK RX9 294 mX9_sumOfLines := tm_3 (i := 227) rfl rfl
set_option maxRecDepth 20000 in
theorem lk_X9_313 : LK RX9 313 mX9_line := tm_3 (i := 231) rfl rfl
set_option maxRecDepth 20000 in
theorem lk_X9_110 : LK RX9 110 mX1_hasLine := tm_3 (i := 235) rfl rfl
set_option maxRecDepth 20000 in
theorem lk_X9_117 : LK RX9 117 mX1_isBusy := tm_4 (i := 14) rfl rfl
set_option maxRecDepth 20000 in
theorem lk_X9_120 : LK RX9 120 mX1_callFrom := tm_4 (i := 15) rfl rfl
set_option maxRecDepth 20000 in
theorem lk_X9_123 : LK RX9 123 mX1_callTo := tm_4 (i := 16) rfl rfl
set_option maxRecDepth 20000 in
theorem lk_X9_126 : LK RX9 126 mX1_cameFrom := tm_4 (i := 17) rfl rfl
set_option maxRecDepth 20000 in
theorem lk_X9_129 : LK RX9 129 mX1_endedWellFrom := tm_4 (i := 21) rfl rfl
set_option maxRecDepth 20000 in
theorem lk_X9_298 : LK RX9 298 mX9_sumOfGroups := tm_4 (i := 25) rfl rfl
set_option maxRecDepth 20000 in
theorem lk_X9_315 : LK RX9 315 mX9_group := tm_4 (i := 29) rfl rfl
set_option maxRecDepth 20000 in
theorem lk_X9_132 : LK RX9 132 mX1_groupAt := tm_4 (i := 33) rfl rfl
set_option maxRecDepth 20000 in
theorem lk_X9_144 : LK RX9 144 mX1_busyTrunks := tm_4 (i := 34) rfl rfl
set_option maxRecDepth 20000 in
theorem lk_X9_301 : LK RX9 301 mX9_sumOfRegisters := tm_4 (i := 35) rfl rfl
set_option maxRecDepth 20000 in
theorem lk_X9_317 : LK RX9 317 mX9_register := tm_4 (i := 39) rfl rfl
set_option maxRecDepth 20000 in
theorem lk_X9_159 : LK RX9 159 mX1_registerAt := tm_4 (i := 43) rfl rfl
set_option maxRecDepth 20000 in
theorem lk_X9_171 : LK RX9 171 mX7_lengthOf := tm_4 (i := 44) rfl rfl
set_option maxRecDepth 20000 in
theorem lk_X9_304 : LK RX9 304 mX9_sumOfMarkers := tm_4 (i := 45) rfl rfl
set_option maxRecDepth 20000 in
theorem lk_X9_320 : LK RX9 320 mX9_marker := tm_4 (i := 49) rfl rfl
set_option maxRecDepth 20000 in
theorem lk_X9_179 : LK RX9 179 mX1_markerAt := tm_4 (i := 53) rfl rfl
set_option maxRecDepth 20000 in
theorem lk_X9_307 : LK RX9 307 mX9_sumOfCalls := tm_4 (i := 57) rfl rfl
set_option maxRecDepth 20000 in
theorem lk_X9_323 : LK RX9 323 mX9_call := tm_4 (i := 61) rfl rfl
set_option maxRecDepth 20000 in
theorem lk_X9_189 : LK RX9 189 mX1_callAt := tm_4 (i := 65) rfl rfl
set_option maxRecDepth 20000 in
theorem lk_X9_221 : LK RX9 221 mX1_registerOf := tm_4 (i := 66) rfl rfl
set_option maxRecDepth 20000 in
theorem lk_L_78 : LK RL 78 mL_load := tm_4 (i := 67) rfl rfl
set_option maxRecDepth 20000 in
theorem lk_L_7 : LK RL 7 mX9_load := tm_4 (i := 71) rfl rfl
set_option maxRecDepth 20000 in
theorem lk_X9_51 : LK RX9 51 mX8_readSetup := tm_4 (i := 75) rfl rfl
set_option maxRecDepth 20000 in
theorem lk_X8_45 : LK RX8 45 mX8_advance := tm_4 (i := 79) rfl rfl
set_option maxRecDepth 20000 in
theorem lk_X8_199 : LK RX8 199 mX8_signAt := tm_4 (i := 83) rfl rfl
set_option maxRecDepth 20000 in
theorem lk_X8_206 : LK RX8 206 mX8_kindOf := tm_4 (i := 87) rfl rfl
set_option maxRecDepth 20000 in
theorem lk_X8_209 : LK RX8 209 mX8_addToToken := tm_4 (i := 90) rfl rfl
set_option maxRecDepth 20000 in
theorem lk_X8_48 : LK RX8 48 mX8_readSize := tm_4 (i := 95) rfl rfl
set_option maxRecDepth 20000 in
theorem lk_X8_63 : LK RX8 63 mX8_isWord := tm_4 (i := 100) rfl rfl
set_option maxRecDepth 20000 in
theorem lk_X8_193 : LK RX8 193 mJ0_length_8abf5 := tm_4 (i := 104) rfl rfl
set_option maxRecDepth 20000 in
theorem lk_J0_335 : LK RJ0 335 mJ0_coder_7d493 := tm_4 (i := 108) rfl rfl
set_option maxRecDepth 20000 in
theorem lk_X8_202 : LK RX8 202 mJ0_charAt_5068e := tm_4 (i := 114) rfl rfl
set_option maxRecDepth 20000 in
theorem lk_J0_492 : LK RJ0 492 mJ0_isLatin1_aae02 := tm_4 (i := 118) rfl rfl
set_option maxRecDepth 20000 in
theorem lk_J0_495 : LK RJ0 495 mJ1_charAt_3b067 := tm_4 (i := 122) rfl rfl
set_option maxRecDepth 20000 in
theorem lk_J1_9 : LK RJ1 9 mJ0_checkIndex_df160 := tm_4 (i := 125) rfl rfl
set_option maxRecDepth 20000 in
theorem lk_J0_1059 : LK RJ0 1059 mJ3_checkIndex_8e157 := tm_4 (i := 130) rfl rfl
set_option maxRecDepth 20000 in
theorem lk_J0_498 : LK RJ0 498 mJ2_charAt_3b067 := tm_4 (i := 133) rfl rfl
set_option maxRecDepth 20000 in
theorem lk_J2_67 : LK RJ2 67 mJ2_checkIndex_2214a := tm_4 (i := 136) rfl rfl
set_option maxRecDepth 20000 in
theorem lk_J2_48 : LK RJ2 48 mJ2_length_9d52b := tm_4 (i := 139) rfl rfl
set_option maxRecDepth 20000 in
theorem lk_J2_414 : LK RJ2 414 mJ0_checkIndex_df160 := tm_4 (i := 142) rfl rfl
set_option maxRecDepth 20000 in
theorem lk_J2_71 : LK RJ2 71 mJ2_getChar_3b067 := tm_4 (i := 143) rfl rfl
set_option maxRecDepth 20000 in
theorem lk_X8_67 : LK RX8 67 mX8_fail := tm_4 (i := 152) rfl rfl
set_option maxRecDepth 20000 in
theorem lk_X8_71 : LK RX8 71 mX8_checkNumber := tm_4 (i := 156) rfl rfl
set_option maxRecDepth 20000 in
theorem lk_X8_78 : LK RX8 78 mX1_tellSize := tm_4 (i := 160) rfl rfl
set_option maxRecDepth 20000 in
theorem lk_X8_58 : LK RX8 58 mX8_passSemicolon := tm_4 (i := 164) rfl rfl
set_option maxRecDepth 20000 in
theorem lk_X8_55 : LK RX8 55 mX8_readStatement := tm_4 (i := 168) rfl rfl
set_option maxRecDepth 20000 in
theorem lk_X8_84 : LK RX8 84 mX8_readLine := tm_4 (i := 173) rfl rfl
set_option maxRecDepth 20000 in
theorem lk_X8_108 : LK RX8 108 mX8_checkDigits := tm_4 (i := 177) rfl rfl
set_option maxRecDepth 20000 in
theorem lk_X8_114 : LK RX8 114 mX1_lineWith := tm_4 (i := 181) rfl rfl
set_option maxRecDepth 20000 in
theorem lk_X8_118 : LK RX8 118 mX1_tellLine := tm_4 (i := 182) rfl rfl
set_option maxRecDepth 20000 in
theorem lk_X8_89 : LK RX8 89 mX8_readGroup := tm_4 (i := 187) rfl rfl
set_option maxRecDepth 20000 in
theorem lk_X8_125 : LK RX8 125 mX8_checkName := tm_4 (i := 191) rfl rfl
set_option maxRecDepth 20000 in
theorem lk_X8_132 : LK RX8 132 mX1_groupNamed := tm_4 (i := 195) rfl rfl
set_option maxRecDepth 20000 in
theorem lk_X8_136 : LK RX8 136 mX1_tellGroup := tm_4 (i := 199) rfl rfl
set_option maxRecDepth 20000 in
theorem lk_X1_121 : LK RX1 121 mX2_tell := tm_4 (i := 203) rfl rfl
set_option maxRecDepth 20000 in
theorem lk_X8_94 : LK RX8 94 mX8_readRoute := tm_4 (i := 208) rfl rfl
set_option maxRecDepth 20000 in
theorem lk_X8_143 : LK RX8 143 mX1_hasPrefix := tm_4 (i := 212) rfl rfl
set_option maxRecDepth 20000 in
theorem lk_X8_146 : LK RX8 146 mX7_lengthOf := tm_4 (i := 216) rfl rfl
set_option maxRecDepth 20000 in
theorem lk_X8_151 : LK RX8 151 mX1_tellRoute := tm_4 (i := 217) rfl rfl
set_option maxRecDepth 20000 in
theorem lk_X1_125 : LK RX1 125 mX6_tell := tm_4 (i := 221) rfl rfl
set_option maxRecDepth 20000 in
theorem lk_X8_155 : LK RX8 155 mX8_readChoice := tm_4 (i := 222) rfl rfl
set_option maxRecDepth 20000 in
theorem lk_X8_159 : LK RX8 159 mX6_hasChoice := tm_4 (i := 226) rfl rfl
set_option maxRecDepth 20000 in
theorem lk_X8_164 : LK RX8 164 mX6_addChoice := tm_4 (i := 230) rfl rfl
set_option maxRecDepth 20000 in
theorem lk_X8_99 : LK RX8 99 mX8_readCall := tm_4 (i := 232) rfl rfl
set_option maxRecDepth 20000 in
theorem lk_X8_170 : LK RX8 170 mX1_tellCall := tm_4 (i := 236) rfl rfl
set_option maxRecDepth 20000 in
theorem lk_X1_127 : LK RX1 127 mX0_tell := tm_5 (i := 0) rfl rfl
set_option maxRecDepth 20000 in
theorem lk_X8_102 : LK RX8 102 mX8_readRule := tm_5 (i := 4) rfl rfl
set_option maxRecDepth 20000 in
theorem lk_X8_183 : LK RX8 183 mX1_setRule := tm_5 (i := 14) rfl rfl
set_option maxRecDepth 20000 in
theorem lk_X9_56 : LK RX9 56 mX3_keep := tm_5 (i := 18) rfl rfl
set_option maxRecDepth 20000 in
theorem lk_X3_29 : LK RX3 29 mJ9_min_7cf53 := tm_5 (i := 22) rfl rfl
set_option maxRecDepth 20000 in
theorem lk_L_92 : LK RL 92 mL_state := tm_5 (i := 25) rfl rfl
set_option maxRecDepth 20000 in
theorem lk_L_15 : LK RL 15 mX9_state := tm_5 (i := 28) rfl rfl
set_option maxRecDepth 20000 in
theorem lk_L_95 : LK RL 95 mL_line := tm_5 (i := 29) rfl rfl
set_option maxRecDepth 20000 in
theorem lk_L_18 : LK RL 18 mX9_line := tm_5 (i := 33) rfl rfl
set_option maxRecDepth 20000 in
theorem lk_L_99 : LK RL 99 mL_group := tm_5 (i := 34) rfl rfl
set_option maxRecDepth 20000 in
theorem lk_L_24 : LK RL 24 mX9_group := tm_5 (i := 37) rfl rfl
set_option maxRecDepth 20000 in
theorem lk_L_102 : LK RL 102 mL_register := tm_5 (i := 38) rfl rfl
set_option maxRecDepth 20000 in
theorem lk_L_27 : LK RL 27 mX9_register := tm_5 (i := 41) rfl rfl
set_option maxRecDepth 20000 in
theorem lk_L_105 : LK RL 105 mL_marker := tm_5 (i := 42) rfl rfl
set_option maxRecDepth 20000 in
theorem lk_L_30 : LK RL 30 mX9_marker := tm_5 (i := 45) rfl rfl
set_option maxRecDepth 20000 in
theorem lk_L_108 : LK RL 108 mL_call := tm_5 (i := 46) rfl rfl
set_option maxRecDepth 20000 in
theorem lk_L_33 : LK RL 33 mX9_call := tm_5 (i := 49) rfl rfl
set_option maxRecDepth 20000 in
theorem lk_L_111 : LK RL 111 mL_digit := tm_5 (i := 50) rfl rfl
set_option maxRecDepth 20000 in
theorem lk_L_36 : LK RL 36 mX9_digit := tm_5 (i := 54) rfl rfl
set_option maxRecDepth 20000 in
theorem lk_X9_227 : LK RX9 227 mX7_digitAt := tm_5 (i := 73) rfl rfl
set_option maxRecDepth 20000 in
theorem lk_L_114 : LK RL 114 mL_look := tm_5 (i := 74) rfl rfl
set_option maxRecDepth 20000 in
theorem lk_L_41 : LK RL 41 mX9_look := tm_5 (i := 77) rfl rfl
set_option maxRecDepth 20000 in
theorem lk_X9_231 : LK RX9 231 mX9_isDialLength := tm_5 (i := 81) rfl rfl
set_option maxRecDepth 20000 in
theorem lk_X9_234 : LK RX9 234 mX9_bufferRow := tm_5 (i := 85) rfl rfl
set_option maxRecDepth 20000 in
theorem lk_X9_310 : LK RX9 310 mX7_with := tm_5 (i := 89) rfl rfl
set_option maxRecDepth 20000 in
theorem lk_X9_237 : LK RX9 237 mX1_lineWith := tm_5 (i := 90) rfl rfl
set_option maxRecDepth 20000 in
theorem lk_X9_240 : LK RX9 240 mX1_routeIndexFor := tm_5 (i := 91) rfl rfl
set_option maxRecDepth 20000 in
theorem lk_X9_243 : LK RX9 243 mX1_isComplete := tm_5 (i := 95) rfl rfl
set_option maxRecDepth 20000 in
theorem lk_X9_246 : LK RX9 246 mX1_groupFor := tm_5 (i := 96) rfl rfl
set_option maxRecDepth 20000 in
theorem lk_L_122 : LK RL 122 mL_overIn := tm_5 (i := 100) rfl rfl
set_option maxRecDepth 20000 in
theorem lk_L_44 : LK RL 44 mX9_overIn := tm_5 (i := 103) rfl rfl
set_option maxRecDepth 20000 in
theorem lk_X9_255 : LK RX9 255 mX0_isOver := tm_5 (i := 107) rfl rfl
set_option maxRecDepth 20000 in
theorem lk_X9_259 : LK RX9 259 mX1_tick := tm_5 (i := 111) rfl rfl
set_option maxRecDepth 20000 in
theorem lk_L_125 : LK RL 125 mL_foretold := tm_5 (i := 112) rfl rfl
set_option maxRecDepth 20000 in
theorem lk_L_47 : LK RL 47 mX9_foretold := tm_5 (i := 115) rfl rfl
set_option maxRecDepth 20000 in
theorem lk_L_137 : LK RL 137 mL_traffic := tm_5 (i := 119) rfl rfl
set_option maxRecDepth 20000 in
theorem lk_L_50 : LK RL 50 mX9_traffic := tm_5 (i := 122) rfl rfl
set_option maxRecDepth 20000 in
theorem lk_L_141 : LK RL 141 mL_dial := tm_5 (i := 126) rfl rfl
set_option maxRecDepth 20000 in
theorem lk_L_54 : LK RL 54 mX9_dial := tm_5 (i := 130) rfl rfl
set_option maxRecDepth 20000 in
theorem lk_X9_272 : LK RX9 272 mX1_tellCall := tm_5 (i := 149) rfl rfl
set_option maxRecDepth 20000 in
theorem lk_L_145 : LK RL 145 mL_hang := tm_5 (i := 150) rfl rfl
set_option maxRecDepth 20000 in
theorem lk_L_60 : LK RL 60 mX9_hang := tm_5 (i := 153) rfl rfl
set_option maxRecDepth 20000 in
theorem lk_X9_276 : LK RX9 276 mX1_hangUp := tm_5 (i := 157) rfl rfl
set_option maxRecDepth 20000 in
theorem lk_L_148 : LK RL 148 mL_rule := tm_5 (i := 161) rfl rfl
set_option maxRecDepth 20000 in
theorem lk_L_63 : LK RL 63 mX9_rule := tm_5 (i := 164) rfl rfl
set_option maxRecDepth 20000 in
theorem lk_X9_280 : LK RX9 280 mX9_mostOf := tm_5 (i := 168) rfl rfl
set_option maxRecDepth 20000 in
theorem lk_X9_283 : LK RX9 283 mX1_setRule := tm_5 (i := 169) rfl rfl
set_option maxRecDepth 20000 in
theorem lk_L_151 : LK RL 151 mL_pass := tm_5 (i := 170) rfl rfl
set_option maxRecDepth 20000 in
theorem lk_L_66 : LK RL 66 mX9_pass := tm_5 (i := 173) rfl rfl
set_option maxRecDepth 20000 in
theorem lk_L_72 : LK RL 72 mX10_init := tm_5 (i := 179) rfl rfl
set_option maxRecDepth 20000 in
theorem lk_X10_31 : LK RX10 31 mX10_layExchange := tm_5 (i := 185) rfl rfl
set_option maxRecDepth 20000 in
theorem fl_X10_35 : FL RX10 35 9 0 := ⟨by decide, by decide, tm_5 (i := 188) rfl rfl⟩
set_option maxRecDepth 20000 in
theorem fl_X10_9 : FL RX10 9 9 1 := ⟨by decide, by decide, tm_5 (i := 189) rfl rfl⟩
set_option maxRecDepth 20000 in
theorem fl_X10_38 : FL RX10 38 9 2 := ⟨by decide, by decide, tm_5 (i := 190) rfl rfl⟩
set_option maxRecDepth 20000 in
theorem fl_X10_41 : FL RX10 41 9 3 := ⟨by decide, by decide, tm_5 (i := 191) rfl rfl⟩
set_option maxRecDepth 20000 in
theorem fl_X10_44 : FL RX10 44 9 4 := ⟨by decide, by decide, tm_5 (i := 192) rfl rfl⟩
set_option maxRecDepth 20000 in
theorem fl_X10_51 : FL RX10 51 9 5 := ⟨by decide, by decide, tm_5 (i := 193) rfl rfl⟩
set_option maxRecDepth 20000 in
theorem fl_X10_54 : FL RX10 54 9 6 := ⟨by decide, by decide, tm_5 (i := 194) rfl rfl⟩
set_option maxRecDepth 20000 in
theorem fl_X10_13 : FL RX10 13 9 7 := ⟨by decide, by decide, tm_5 (i := 195) rfl rfl⟩
set_option maxRecDepth 20000 in
theorem fl_X10_17 : FL RX10 17 9 8 := ⟨by decide, by decide, tm_5 (i := 196) rfl rfl⟩
set_option maxRecDepth 20000 in
theorem fl_X10_20 : FL RX10 20 9 9 := ⟨by decide, by decide, tm_5 (i := 197) rfl rfl⟩
set_option maxRecDepth 20000 in
theorem fl_X10_23 : FL RX10 23 9 10 := ⟨by decide, by decide, tm_5 (i := 198) rfl rfl⟩
set_option maxRecDepth 20000 in
theorem fl_X10_28 : FL RX10 28 9 11 := ⟨by decide, by decide, tm_5 (i := 199) rfl rfl⟩
set_option maxRecDepth 20000 in
theorem fl_X10_297 : FL RX10 297 9 12 := ⟨by decide, by decide, tm_5 (i := 200) rfl rfl⟩
set_option maxRecDepth 20000 in
theorem fl_X10_86 : FL RX10 86 9 13 := ⟨by decide, by decide, tm_5 (i := 201) rfl rfl⟩
set_option maxRecDepth 20000 in
theorem fl_X10_136 : FL RX10 136 9 14 := ⟨by decide, by decide, tm_5 (i := 202) rfl rfl⟩
set_option maxRecDepth 20000 in
theorem fl_X10_94 : FL RX10 94 9 15 := ⟨by decide, by decide, tm_5 (i := 203) rfl rfl⟩
set_option maxRecDepth 20000 in
theorem fl_X10_97 : FL RX10 97 9 16 := ⟨by decide, by decide, tm_5 (i := 204) rfl rfl⟩
set_option maxRecDepth 20000 in
theorem fl_X10_100 : FL RX10 100 9 17 := ⟨by decide, by decide, tm_5 (i := 205) rfl rfl⟩
set_option maxRecDepth 20000 in
theorem fl_X10_103 : FL RX10 103 9 18 := ⟨by decide, by decide, tm_5 (i := 206) rfl rfl⟩
set_option maxRecDepth 20000 in
theorem fl_X10_106 : FL RX10 106 9 19 := ⟨by decide, by decide, tm_5 (i := 207) rfl rfl⟩
set_option maxRecDepth 20000 in
theorem fl_X10_109 : FL RX10 109 9 20 := ⟨by decide, by decide, tm_5 (i := 208) rfl rfl⟩
set_option maxRecDepth 20000 in
theorem lk_L_84 : LK RL 84 mX10_thrown := tm_6 (i := 12) rfl rfl
set_option maxRecDepth 20000 in
theorem lk_L_77 : LK RL 77 mX10_append := tm_6 (i := 16) rfl rfl
set_option maxRecDepth 20000 in
theorem lk_L_83 : LK RL 83 mX10_load := tm_6 (i := 20) rfl rfl
set_option maxRecDepth 20000 in
theorem lk_X10_57 : LK RX10 57 mX10_in := tm_6 (i := 24) rfl rfl
set_option maxRecDepth 20000 in
theorem lk_X10_176 : LK RX10 176 mX10_fails := tm_6 (i := 27) rfl rfl
set_option maxRecDepth 20000 in
theorem lk_X10_141 : LK RX10 141 mX10_takeWord := tm_6 (i := 32) rfl rfl
set_option maxRecDepth 20000 in
theorem lk_X10_61 : LK RX10 61 mX10_isGood := tm_6 (i := 36) rfl rfl
set_option maxRecDepth 20000 in
theorem lk_X10_65 : LK RX10 65 mX10_ahead := tm_6 (i := 40) rfl rfl
set_option maxRecDepth 20000 in
theorem lk_X10_47 : LK RX10 47 mX10_byteAt := tm_6 (i := 44) rfl rfl
set_option maxRecDepth 20000 in
theorem lk_X10_69 : LK RX10 69 mJ0_length_8abf5 := tm_6 (i := 48) rfl rfl
set_option maxRecDepth 20000 in
theorem lk_X10_74 : LK RX10 74 mJ0_charAt_5068e := tm_6 (i := 49) rfl rfl
set_option maxRecDepth 20000 in
theorem lk_X10_78 : LK RX10 78 mX10_report := tm_6 (i := 50) rfl rfl
set_option maxRecDepth 20000 in
theorem lk_X10_126 : LK RX10 126 mX10_number := tm_6 (i := 54) rfl rfl
set_option maxRecDepth 20000 in
theorem lk_X10_82 : LK RX10 82 mX10_isDigit := tm_6 (i := 58) rfl rfl
set_option maxRecDepth 20000 in
theorem lk_X10_90 : LK RX10 90 mX10_min := tm_6 (i := 62) rfl rfl
set_option maxRecDepth 20000 in
theorem lk_X10_173 : LK RX10 173 mX10_expect := tm_6 (i := 65) rfl rfl
set_option maxRecDepth 20000 in
theorem lk_X10_182 : LK RX10 182 mX10_statement := tm_6 (i := 69) rfl rfl
set_option maxRecDepth 20000 in
theorem lk_X10_145 : LK RX10 145 mX10_readLine := tm_6 (i := 74) rfl rfl
set_option maxRecDepth 20000 in
theorem lk_X10_112 : LK RX10 112 mX10_readDigits := tm_6 (i := 78) rfl rfl
set_option maxRecDepth 20000 in
theorem lk_X10_116 : LK RX10 116 mX10_lineOf := tm_6 (i := 82) rfl rfl
set_option maxRecDepth 20000 in
theorem lk_X10_150 : LK RX10 150 mX10_readGroup := tm_6 (i := 86) rfl rfl
set_option maxRecDepth 20000 in
theorem lk_X10_120 : LK RX10 120 mX10_readName := tm_6 (i := 90) rfl rfl
set_option maxRecDepth 20000 in
theorem lk_X10_123 : LK RX10 123 mX10_groupOf := tm_6 (i := 94) rfl rfl
set_option maxRecDepth 20000 in
theorem lk_X10_155 : LK RX10 155 mX10_readRoute := tm_6 (i := 98) rfl rfl
set_option maxRecDepth 20000 in
theorem lk_X10_129 : LK RX10 129 mX10_max := tm_6 (i := 102) rfl rfl
set_option maxRecDepth 20000 in
theorem lk_X10_160 : LK RX10 160 mX10_readCall := tm_6 (i := 106) rfl rfl
set_option maxRecDepth 20000 in
theorem lk_X10_132 : LK RX10 132 mX10_layCall := tm_6 (i := 110) rfl rfl
set_option maxRecDepth 20000 in
theorem lk_X10_165 : LK RX10 165 mX10_readOne := tm_6 (i := 114) rfl rfl
set_option maxRecDepth 20000 in
theorem lk_X10_185 : LK RX10 185 mX10_remember := tm_6 (i := 120) rfl rfl
set_option maxRecDepth 20000 in
theorem lk_X10_188 : LK RX10 188 mX10_copy := tm_6 (i := 124) rfl rfl
set_option maxRecDepth 20000 in
theorem lk_L_91 : LK RL 91 mX10_errorOffset := tm_6 (i := 127) rfl rfl
set_option maxRecDepth 20000 in
theorem lk_L_94 : LK RL 94 mX10_state := tm_6 (i := 131) rfl rfl
set_option maxRecDepth 20000 in
theorem lk_X10_276 : LK RX10 276 mX10_told := tm_6 (i := 135) rfl rfl
set_option maxRecDepth 20000 in
theorem lk_X10_227 : LK RX10 227 mX10_callsThat := tm_6 (i := 139) rfl rfl
set_option maxRecDepth 20000 in
theorem lk_X10_192 : LK RX10 192 mX10_of := tm_6 (i := 143) rfl rfl
set_option maxRecDepth 20000 in
theorem lk_X10_224 : LK RX10 224 mX10_isBusy := tm_6 (i := 147) rfl rfl
set_option maxRecDepth 20000 in
theorem lk_X10_204 : LK RX10 204 mX10_callBy := tm_6 (i := 151) rfl rfl
set_option maxRecDepth 20000 in
theorem lk_X10_201 : LK RX10 201 mX10_isState := tm_6 (i := 155) rfl rfl
set_option maxRecDepth 20000 in
theorem lk_X10_207 : LK RX10 207 mX10_callTo := tm_6 (i := 159) rfl rfl
set_option maxRecDepth 20000 in
theorem lk_L_98 : LK RL 98 mX10_line := tm_6 (i := 163) rfl rfl
set_option maxRecDepth 20000 in
theorem lk_X10_279 : LK RX10 279 mX10_toldLine := tm_6 (i := 167) rfl rfl
set_option maxRecDepth 20000 in
theorem lk_L_101 : LK RL 101 mX10_group := tm_6 (i := 171) rfl rfl
set_option maxRecDepth 20000 in
theorem lk_X10_282 : LK RX10 282 mX10_noGroup := tm_6 (i := 175) rfl rfl
set_option maxRecDepth 20000 in
theorem lk_X10_285 : LK RX10 285 mX10_toldGroup := tm_6 (i := 179) rfl rfl
set_option maxRecDepth 20000 in
theorem lk_X10_213 : LK RX10 213 mX10_busyTrunks := tm_6 (i := 183) rfl rfl
set_option maxRecDepth 20000 in
theorem lk_X10_210 : LK RX10 210 mX10_ofGroup := tm_6 (i := 187) rfl rfl
set_option maxRecDepth 20000 in
theorem lk_L_104 : LK RL 104 mX10_register := tm_6 (i := 191) rfl rfl
set_option maxRecDepth 20000 in
theorem lk_L_107 : LK RL 107 mX10_marker := tm_6 (i := 195) rfl rfl
set_option maxRecDepth 20000 in
theorem lk_L_110 : LK RL 110 mX10_call := tm_6 (i := 199) rfl rfl
set_option maxRecDepth 20000 in
theorem lk_X10_288 : LK RX10 288 mX10_noCall := tm_6 (i := 203) rfl rfl
set_option maxRecDepth 20000 in
theorem lk_L_113 : LK RL 113 mX10_digit := tm_6 (i := 207) rfl rfl
set_option maxRecDepth 20000 in
theorem lk_X10_248 : LK RX10 248 mX10_dialledValue := tm_6 (i := 211) rfl rfl
set_option maxRecDepth 20000 in
theorem lk_X10_195 : LK RX10 195 mX10_power := tm_6 (i := 215) rfl rfl
set_option maxRecDepth 20000 in
theorem lk_L_116 : LK RL 116 mX10_look := tm_6 (i := 218) rfl rfl
set_option maxRecDepth 20000 in
theorem lk_X10_291 : LK RX10 291 mX10_valueOf := tm_6 (i := 222) rfl rfl
set_option maxRecDepth 20000 in
theorem lk_X10_198 : LK RX10 198 mX10_routeFor := tm_6 (i := 226) rfl rfl
set_option maxRecDepth 20000 in
theorem lk_X10_254 : LK RX10 254 mX10_isComplete := tm_6 (i := 230) rfl rfl
set_option maxRecDepth 20000 in
theorem lk_X10_239 : LK RX10 239 mX10_choiceOf := tm_6 (i := 234) rfl rfl
set_option maxRecDepth 20000 in
theorem lk_X10_216 : LK RX10 216 mX10_isFree := tm_6 (i := 238) rfl rfl
set_option maxRecDepth 20000 in
theorem lk_L_121 : LK RL 121 mX10_foremost := tm_7 (i := 2) rfl rfl
set_option maxRecDepth 20000 in
theorem lk_X10_258 : LK RX10 258 mX10_foremostOf := tm_7 (i := 6) rfl rfl
set_option maxRecDepth 20000 in
theorem lk_L_124 : LK RL 124 mX10_overIn := tm_7 (i := 10) rfl rfl
set_option maxRecDepth 20000 in
theorem lk_X10_294 : LK RX10 294 mX10_passTick := tm_7 (i := 14) rfl rfl
set_option maxRecDepth 20000 in
theorem lk_X10_261 : LK RX10 261 mX10_comes := tm_7 (i := 18) rfl rfl
set_option maxRecDepth 20000 in
theorem lk_X10_220 : LK RX10 220 mX10_set := tm_7 (i := 22) rfl rfl
set_option maxRecDepth 20000 in
theorem lk_X10_230 : LK RX10 230 mX10_isOver := tm_7 (i := 26) rfl rfl
set_option maxRecDepth 20000 in
theorem lk_X10_233 : LK RX10 233 mX10_waits := tm_7 (i := 30) rfl rfl
set_option maxRecDepth 20000 in
theorem lk_X10_264 : LK RX10 264 mX10_marks := tm_7 (i := 34) rfl rfl
set_option maxRecDepth 20000 in
theorem lk_X10_245 : LK RX10 245 mX10_freeRegister := tm_7 (i := 38) rfl rfl
set_option maxRecDepth 20000 in
theorem lk_X10_251 : LK RX10 251 mX10_looks := tm_7 (i := 42) rfl rfl
set_option maxRecDepth 20000 in
theorem lk_X10_236 : LK RX10 236 mX10_talks := tm_7 (i := 46) rfl rfl
set_option maxRecDepth 20000 in
theorem lk_X10_242 : LK RX10 242 mX10_addGroup := tm_7 (i := 50) rfl rfl
set_option maxRecDepth 20000 in
theorem lk_X10_267 : LK RX10 267 mX10_dials := tm_7 (i := 54) rfl rfl
set_option maxRecDepth 20000 in
theorem lk_X10_270 : LK RX10 270 mX10_takesMarker := tm_7 (i := 58) rfl rfl
set_option maxRecDepth 20000 in
theorem lk_X10_273 : LK RX10 273 mX10_takesRegister := tm_7 (i := 62) rfl rfl
set_option maxRecDepth 20000 in
theorem lk_L_127 : LK RL 127 mX10_foretold := tm_7 (i := 66) rfl rfl
set_option maxRecDepth 20000 in
theorem lk_L_131 : LK RL 131 mX10_bestGuard := tm_7 (i := 70) rfl rfl
set_option maxRecDepth 20000 in
theorem lk_L_136 : LK RL 136 mX10_service := tm_7 (i := 74) rfl rfl
set_option maxRecDepth 20000 in
theorem lk_L_140 : LK RL 140 mX10_traffic := tm_7 (i := 78) rfl rfl
set_option maxRecDepth 20000 in
theorem lk_L_144 : LK RL 144 mX10_dial := tm_7 (i := 82) rfl rfl
set_option maxRecDepth 20000 in
theorem lk_L_147 : LK RL 147 mX10_hang := tm_7 (i := 86) rfl rfl
set_option maxRecDepth 20000 in
theorem lk_L_150 : LK RL 150 mX10_rule := tm_7 (i := 90) rfl rfl
set_option maxRecDepth 20000 in
theorem lk_L_153 : LK RL 153 mX10_pass := tm_7 (i := 94) rfl rfl
set_option maxRecDepth 20000 in
theorem lk_L_157 : LK RL 157 mX10_undo := tm_7 (i := 98) rfl rfl
set_option maxRecDepth 20000 in
theorem lk_L_162 : LK RL 162 mX10_checksum := tm_7 (i := 102) rfl rfl
