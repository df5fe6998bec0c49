/-! made by wip/whole/tools/gen_links.py: the methods, their words, the links of each class -/
abbrev mX9_init : MD := (yX9_init, cX9_init, 1, none, RX9, 4, 103, 830, 8866, true, [])
abbrev mX1_init : MD := (yX1_init, cX1_init, 2, none, RX1, 2, 61, 74, 721, true, [])
abbrev mX2_init : MD := (yX2_init, cX2_init, 2, none, RX2, 1, 40, 0, 0, true, [])
abbrev mX6_init : MD := (yX6_init, cX6_init, 2, none, RX6, 1, 40, 1, 3, true, [])
abbrev mX5_init : MD := (yX5_init, cX5_init, 2, none, RX5, 1, 40, 0, 0, true, [])
abbrev mX4_init : MD := (yX4_init, cX4_init, 2, none, RX4, 1, 40, 0, 0, true, [])
abbrev mX0_init : MD := (yX0_init, cX0_init, 2, none, RX0, 1, 40, 0, 0, true, [])
abbrev mX1_clear : MD := (yX1_clear, cX1_clear, 5, none, RX1, 1, 22, 0, 0, false, [])
abbrev mX5_serve : MD := (yX5_serve, cX5_serve, 2, none, RX5, 0, 0, 0, 0, false, [])
abbrev mX4_serve : MD := (yX4_serve, cX4_serve, 3, none, RX4, 0, 0, 0, 0, false, [])
abbrev mX3_init : MD := (yX3_init, cX3_init, 2, none, RX3, 3, 82, 601, 5928, true, [])
abbrev mX8_init : MD := (yX8_init, cX8_init, 1, none, RX8, 3, 82, 76, 740, true, [])
abbrev mX9_append : MD := (yX9_append, cX9_append, 6, some .int, RX9, 1, 22, 0, 0, false, [])
abbrev mX9_putWord : MD := (yX9_putWord, cX9_putWord, 3, none, RX9, 0, 0, 0, 0, false, [])
abbrev mX9_errorOffset : MD := (yX9_errorOffset, cX9_errorOffset, 1, some .int, RX9, 0, 0, 0, 0, false, [])
abbrev mX9_foremost : MD := (yX9_foremost, cX9_foremost, 3, some .int, RX9, 1, 26, 0, 0, false, [])
abbrev mX1_firstWaiting : MD := (yX1_firstWaiting, cX1_firstWaiting, 7, some (.object "ExchangeControl$Call"), RX1, 0, 0, 0, 0, false, [])
abbrev mX9_bestGuard : MD := (yX9_bestGuard, cX9_bestGuard, 6, some .int, RX9, 6, 140, 0, 0, false, [])
abbrev mX1_copyFrom : MD := (yX1_copyFrom, cX1_copyFrom, 3, none, RX1, 2, 44, 0, 0, false, [])
abbrev mX2_copyFrom : MD := (yX2_copyFrom, cX2_copyFrom, 2, none, RX2, 0, 0, 0, 0, false, [])
abbrev mX6_copyFrom : MD := (yX6_copyFrom, cX6_copyFrom, 3, none, RX6, 1, 22, 0, 0, false, [])
abbrev mX6_tell : MD := (yX6_tell, cX6_tell, 3, none, RX6, 0, 0, 0, 0, false, [])
abbrev mX6_choiceAt : MD := (yX6_choiceAt, cX6_choiceAt, 2, some .int, RX6, 0, 0, 0, 0, false, [])
abbrev mX6_addChoice : MD := (yX6_addChoice, cX6_addChoice, 2, none, RX6, 0, 0, 0, 0, false, [])
abbrev mX5_copyFrom : MD := (yX5_copyFrom, cX5_copyFrom, 2, none, RX5, 0, 0, 0, 0, false, [])
abbrev mX4_copyFrom : MD := (yX4_copyFrom, cX4_copyFrom, 2, none, RX4, 0, 0, 0, 0, false, [])
abbrev mX0_copyFrom : MD := (yX0_copyFrom, cX0_copyFrom, 2, none, RX0, 0, 0, 0, 0, false, [])
abbrev mX1_settle : MD := (yX1_settle, cX1_settle, 3, none, RX1, 5, 118, 0, 0, false, [])
abbrev mX1_hasOpenCall : MD := (yX1_hasOpenCall, cX1_hasOpenCall, 5, some .boolean, RX1, 0, 0, 0, 0, false, [])
abbrev mX1_tick : MD := (yX1_tick, cX1_tick, 1, none, RX1, 4, 98, 0, 0, false, [])
abbrev mX1_letCallsCome : MD := (yX1_letCallsCome, cX1_letCallsCome, 7, none, RX1, 2, 46, 0, 0, false, [])
abbrev mX1_countIn : MD := (yX1_countIn, cX1_countIn, 7, some .int, RX1, 0, 0, 0, 0, false, [])
abbrev mX1_isBusy : MD := (yX1_isBusy, cX1_isBusy, 2, some .boolean, RX1, 1, 25, 0, 0, false, [])
abbrev mX1_callFrom : MD := (yX1_callFrom, cX1_callFrom, 6, some .int, RX1, 0, 0, 0, 0, false, [])
abbrev mX1_callTo : MD := (yX1_callTo, cX1_callTo, 6, some .int, RX1, 0, 0, 0, 0, false, [])
abbrev mX0_end : MD := (yX0_end, cX0_end, 3, none, RX0, 0, 0, 0, 0, false, [])
abbrev mX1_queueUp : MD := (yX1_queueUp, cX1_queueUp, 3, none, RX1, 0, 0, 0, 0, false, [])
abbrev mX1_letCallsTalk : MD := (yX1_letCallsTalk, cX1_letCallsTalk, 5, none, RX1, 1, 22, 0, 0, false, [])
abbrev mX1_letMarkersWork : MD := (yX1_letMarkersWork, cX1_letMarkersWork, 6, none, RX1, 3, 73, 0, 0, false, [])
abbrev mX1_callAt : MD := (yX1_callAt, cX1_callAt, 2, some (.object "ExchangeControl$Call"), RX1, 0, 0, 0, 0, false, [])
abbrev mX1_findWay : MD := (yX1_findWay, cX1_findWay, 5, none, RX1, 2, 49, 0, 0, false, [])
abbrev mX1_dialledBy : MD := (yX1_dialledBy, cX1_dialledBy, 3, some .int, RX1, 1, 25, 0, 0, false, [])
abbrev mX1_registerOf : MD := (yX1_registerOf, cX1_registerOf, 6, some .int, RX1, 0, 0, 0, 0, false, [])
abbrev mX1_registerAt : MD := (yX1_registerAt, cX1_registerAt, 2, some (.object "ExchangeControl$Register"), RX1, 0, 0, 0, 0, false, [])
abbrev mX1_freeRegisterOf : MD := (yX1_freeRegisterOf, cX1_freeRegisterOf, 3, none, RX1, 1, 25, 0, 0, false, [])
abbrev mX1_lineWith : MD := (yX1_lineWith, cX1_lineWith, 3, some .int, RX1, 0, 0, 0, 0, false, [])
abbrev mX1_routeFor : MD := (yX1_routeFor, cX1_routeFor, 7, some (.object "ExchangeControl$Route"), RX1, 0, 0, 0, 0, false, [])
abbrev mX0_beginToTalk : MD := (yX0_beginToTalk, cX0_beginToTalk, 2, none, RX0, 0, 0, 0, 0, false, [])
abbrev mX1_freeChoice : MD := (yX1_freeChoice, cX1_freeChoice, 4, some .int, RX1, 1, 26, 0, 0, false, [])
abbrev mX1_groupAt : MD := (yX1_groupAt, cX1_groupAt, 2, some (.object "ExchangeControl$Group"), RX1, 0, 0, 0, 0, false, [])
abbrev mX1_busyTrunks : MD := (yX1_busyTrunks, cX1_busyTrunks, 7, some .int, RX1, 0, 0, 0, 0, false, [])
abbrev mX1_takeTrunk : MD := (yX1_takeTrunk, cX1_takeTrunk, 7, none, RX1, 1, 22, 0, 0, false, [])
abbrev mX1_letRegistersDial : MD := (yX1_letRegistersDial, cX1_letRegistersDial, 6, none, RX1, 3, 72, 0, 0, false, [])
abbrev mX1_dialOn : MD := (yX1_dialOn, cX1_dialOn, 5, none, RX1, 2, 48, 0, 0, false, [])
abbrev mX7_lengthOf : MD := (yX7_lengthOf, cX7_lengthOf, 3, some .int, RX7, 0, 0, 0, 0, false, [])
abbrev mX1_isComplete : MD := (yX1_isComplete, cX1_isComplete, 3, some .boolean, RX1, 1, 26, 0, 0, false, [])
abbrev mX7_digitAt : MD := (yX7_digitAt, cX7_digitAt, 4, some .int, RX7, 1, 22, 0, 0, false, [])
abbrev mX7_with : MD := (yX7_with, cX7_with, 2, some .int, RX7, 0, 0, 0, 0, false, [])
abbrev mX1_giveMarkers : MD := (yX1_giveMarkers, cX1_giveMarkers, 6, none, RX1, 1, 26, 0, 0, false, [])
abbrev mX1_giveRegisters : MD := (yX1_giveRegisters, cX1_giveRegisters, 6, none, RX1, 1, 26, 0, 0, false, [])
abbrev mX1_countTick : MD := (yX1_countTick, cX1_countTick, 5, none, RX1, 1, 26, 0, 0, false, [])
abbrev mJ9_max_7cf53 : MD := (yJ9_max_7cf53, cJ9_max_7cf53, 2, some .int, RJ9, 0, 0, 0, 0, false, [])
abbrev mX9_service : MD := (yX9_service, cX9_service, 3, some .float, RX9, 1, 26, 0, 0, false, [])
abbrev mX9_undo : MD := (yX9_undo, cX9_undo, 1, some .int, RX9, 4, 87, 0, 0, false, [])
abbrev mX3_takeBack : MD := (yX3_takeBack, cX3_takeBack, 2, some .int, RX3, 3, 66, 0, 0, false, [])
abbrev mX9_checksum : MD := (yX9_checksum, cX9_checksum, 4, some .long, RX9, 8, 130, 578, 3468, false, [])
abbrev mX9_state : MD := (yX9_state, cX9_state, 2, some .int, RX9, 6, 81, 1, 6, false, [])
abbrev mX1_busyLines : MD := (yX1_busyLines, cX1_busyLines, 3, some .int, RX1, 2, 46, 0, 0, false, [])
abbrev mX1_allOverflows : MD := (yX1_allOverflows, cX1_allOverflows, 6, some .int, RX1, 0, 0, 0, 0, false, [])
abbrev mX9_sumOfLines : MD := (yX9_sumOfLines, cX9_sumOfLines, 7, some .long, RX9, 7, 103, 60, 360, false, [])
abbrev mX9_line : MD := (yX9_line, cX9_line, 3, some .int, RX9, 6, 81, 1, 6, false, [])
abbrev mX1_hasLine : MD := (yX1_hasLine, cX1_hasLine, 2, some .boolean, RX1, 0, 0, 0, 0, false, [])
abbrev mX1_cameFrom : MD := (yX1_cameFrom, cX1_cameFrom, 7, some .int, RX1, 0, 0, 0, 0, false, [])
abbrev mX1_endedWellFrom : MD := (yX1_endedWellFrom, cX1_endedWellFrom, 7, some .int, RX1, 0, 0, 0, 0, false, [])
abbrev mX9_sumOfGroups : MD := (yX9_sumOfGroups, cX9_sumOfGroups, 7, some .long, RX9, 7, 104, 35, 210, false, [])
abbrev mX9_group : MD := (yX9_group, cX9_group, 4, some .int, RX9, 6, 81, 1, 6, false, [])
abbrev mX9_sumOfRegisters : MD := (yX9_sumOfRegisters, cX9_sumOfRegisters, 7, some .long, RX9, 7, 104, 12, 72, false, [])
abbrev mX9_register : MD := (yX9_register, cX9_register, 4, some .int, RX9, 6, 81, 1, 6, false, [])
abbrev mX9_sumOfMarkers : MD := (yX9_sumOfMarkers, cX9_sumOfMarkers, 7, some .long, RX9, 7, 104, 6, 36, false, [])
abbrev mX9_marker : MD := (yX9_marker, cX9_marker, 4, some .int, RX9, 6, 81, 1, 6, false, [])
abbrev mX1_markerAt : MD := (yX1_markerAt, cX1_markerAt, 2, some (.object "ExchangeControl$Marker"), RX1, 0, 0, 0, 0, false, [])
abbrev mX9_sumOfCalls : MD := (yX9_sumOfCalls, cX9_sumOfCalls, 7, some .long, RX9, 7, 104, 440, 2640, false, [])
abbrev mX9_call : MD := (yX9_call, cX9_call, 4, some .int, RX9, 6, 81, 1, 6, false, [])
abbrev mL_load : MD := (yL_load, cL_load, 4, some .int, RL, 9, 194, 1, 6, false, [((0), (9), (12), (13))])
abbrev mX9_load : MD := (yX9_load, cX9_load, 3, some .int, RX9, 8, 172, 1, 6, false, [])
abbrev mX8_readSetup : MD := (yX8_readSetup, cX8_readSetup, 5, some .int, RX8, 7, 148, 0, 0, false, [])
abbrev mX8_advance : MD := (yX8_advance, cX8_advance, 2, none, RX8, 1, 21, 0, 0, false, [])
abbrev mX8_signAt : MD := (yX8_signAt, cX8_signAt, 2, some .int, RX8, 0, 0, 0, 0, false, [])
abbrev mX8_kindOf : MD := (yX8_kindOf, cX8_kindOf, 1, some .int, RX8, 0, 0, 0, 0, false, [])
abbrev mX8_addToToken : MD := (yX8_addToToken, cX8_addToToken, 2, none, RX8, 0, 0, 0, 0, false, [])
abbrev mX8_readSize : MD := (yX8_readSize, cX8_readSize, 2, some .boolean, RX8, 5, 107, 0, 0, false, [])
abbrev mX8_isWord : MD := (yX8_isWord, cX8_isWord, 3, some .boolean, RX8, 4, 85, 0, 0, false, [])
abbrev mJ0_length_8abf5 : MD := (yJ0_length_8abf5, cJ0_length_8abf5, 1, some .int, RJ0, 1, 20, 0, 0, false, [])
abbrev mJ0_coder_7d493 : MD := (yJ0_coder_7d493, cJ0_coder_7d493, 1, some .byte, RJ0, 0, 0, 0, 0, false, [])
abbrev mJ0_charAt_5068e : MD := (yJ0_charAt_5068e, cJ0_charAt_5068e, 2, some .char, RJ0, 3, 64, 0, 0, false, [])
abbrev mJ0_isLatin1_aae02 : MD := (yJ0_isLatin1_aae02, cJ0_isLatin1_aae02, 1, some .boolean, RJ0, 0, 0, 0, 0, false, [])
abbrev mJ1_charAt_3b067 : MD := (yJ1_charAt_3b067, cJ1_charAt_3b067, 2, some .char, RJ1, 2, 43, 0, 0, false, [])
abbrev mJ0_checkIndex_df160 : MD := (yJ0_checkIndex_df160, cJ0_checkIndex_df160, 2, none, RJ0, 1, 22, 0, 0, false, [])
abbrev mJ3_checkIndex_8e157 : MD := (yJ3_checkIndex_8e157, cJ3_checkIndex_8e157, 3, some .int, RJ3, 0, 0, 0, 0, false, [])
abbrev mJ2_charAt_3b067 : MD := (yJ2_charAt_3b067, cJ2_charAt_3b067, 2, some .char, RJ2, 0, 0, 0, 0, false, [])
abbrev mJ2_checkIndex_2214a : MD := (yJ2_checkIndex_2214a, cJ2_checkIndex_2214a, 2, none, RJ2, 2, 43, 0, 0, false, [])
abbrev mJ2_length_9d52b : MD := (yJ2_length_9d52b, cJ2_length_9d52b, 1, some .int, RJ2, 0, 0, 0, 0, false, [])
abbrev mJ2_getChar_3b067 : MD := (yJ2_getChar_3b067, cJ2_getChar_3b067, 2, some .char, RJ2, 0, 0, 0, 0, false, [])
abbrev mX8_fail : MD := (yX8_fail, cX8_fail, 2, some .boolean, RX8, 0, 0, 0, 0, false, [])
abbrev mX8_checkNumber : MD := (yX8_checkNumber, cX8_checkNumber, 3, some .boolean, RX8, 1, 21, 0, 0, false, [])
abbrev mX1_tellSize : MD := (yX1_tellSize, cX1_tellSize, 3, none, RX1, 2, 46, 0, 0, false, [])
abbrev mX8_passSemicolon : MD := (yX8_passSemicolon, cX8_passSemicolon, 1, some .boolean, RX8, 2, 42, 0, 0, false, [])
abbrev mX8_readStatement : MD := (yX8_readStatement, cX8_readStatement, 1, some .boolean, RX8, 6, 128, 0, 0, false, [])
abbrev mX8_readLine : MD := (yX8_readLine, cX8_readLine, 1, some .boolean, RX8, 2, 42, 0, 0, false, [])
abbrev mX8_checkDigits : MD := (yX8_checkDigits, cX8_checkDigits, 2, some .boolean, RX8, 1, 21, 0, 0, false, [])
abbrev mX1_tellLine : MD := (yX1_tellLine, cX1_tellLine, 2, none, RX1, 0, 0, 0, 0, false, [])
abbrev mX8_readGroup : MD := (yX8_readGroup, cX8_readGroup, 4, some .boolean, RX8, 2, 48, 0, 0, false, [])
abbrev mX8_checkName : MD := (yX8_checkName, cX8_checkName, 1, some .boolean, RX8, 1, 21, 0, 0, false, [])
abbrev mX1_groupNamed : MD := (yX1_groupNamed, cX1_groupNamed, 7, some .int, RX1, 0, 0, 0, 0, false, [])
abbrev mX1_tellGroup : MD := (yX1_tellGroup, cX1_tellGroup, 5, none, RX1, 1, 24, 0, 0, false, [])
abbrev mX2_tell : MD := (yX2_tell, cX2_tell, 5, none, RX2, 0, 0, 0, 0, false, [])
abbrev mX8_readRoute : MD := (yX8_readRoute, cX8_readRoute, 5, some .boolean, RX8, 3, 65, 0, 0, false, [])
abbrev mX1_hasPrefix : MD := (yX1_hasPrefix, cX1_hasPrefix, 6, some .boolean, RX1, 0, 0, 0, 0, false, [])
abbrev mX1_tellRoute : MD := (yX1_tellRoute, cX1_tellRoute, 4, some (.object "ExchangeControl$Route"), RX1, 1, 22, 0, 0, false, [])
abbrev mX8_readChoice : MD := (yX8_readChoice, cX8_readChoice, 3, some .boolean, RX8, 2, 43, 0, 0, false, [])
abbrev mX6_hasChoice : MD := (yX6_hasChoice, cX6_hasChoice, 3, some .boolean, RX6, 1, 21, 0, 0, false, [])
abbrev mX8_readCall : MD := (yX8_readCall, cX8_readCall, 4, some .boolean, RX8, 2, 49, 0, 0, false, [])
abbrev mX1_tellCall : MD := (yX1_tellCall, cX1_tellCall, 6, some .int, RX1, 1, 24, 0, 0, false, [])
abbrev mX0_tell : MD := (yX0_tell, cX0_tell, 5, none, RX0, 0, 0, 0, 0, false, [])
abbrev mX8_readRule : MD := (yX8_readRule, cX8_readRule, 2, some .boolean, RX8, 5, 107, 0, 0, false, [])
abbrev mX9_mostOf : MD := (yX9_mostOf, cX9_mostOf, 1, some .int, RX9, 0, 0, 0, 0, false, [])
abbrev mX1_setRule : MD := (yX1_setRule, cX1_setRule, 4, some .int, RX1, 0, 0, 0, 0, false, [])
abbrev mX3_keep : MD := (yX3_keep, cX3_keep, 2, none, RX3, 3, 66, 0, 0, false, [])
abbrev mJ9_min_7cf53 : MD := (yJ9_min_7cf53, cJ9_min_7cf53, 2, some .int, RJ9, 0, 0, 0, 0, false, [])
abbrev mL_state : MD := (yL_state, cL_state, 4, some .int, RL, 7, 102, 1, 6, false, [((0), (9), (12), (13))])
abbrev mL_line : MD := (yL_line, cL_line, 5, some .int, RL, 7, 103, 1, 6, false, [((0), (10), (13), (22)), ((0), (10), (17), (13))])
abbrev mL_group : MD := (yL_group, cL_group, 5, some .int, RL, 7, 104, 1, 6, false, [((0), (10), (13), (22)), ((0), (10), (17), (13))])
abbrev mL_register : MD := (yL_register, cL_register, 5, some .int, RL, 7, 104, 1, 6, false, [((0), (10), (13), (22)), ((0), (10), (17), (13))])
abbrev mL_marker : MD := (yL_marker, cL_marker, 5, some .int, RL, 7, 104, 1, 6, false, [((0), (10), (13), (22)), ((0), (10), (17), (13))])
abbrev mL_call : MD := (yL_call, cL_call, 5, some .int, RL, 7, 104, 1, 6, false, [((0), (10), (13), (22)), ((0), (10), (17), (13))])
abbrev mL_digit : MD := (yL_digit, cL_digit, 5, some .int, RL, 7, 104, 1, 6, false, [((0), (10), (13), (22)), ((0), (10), (17), (39))])
abbrev mX9_digit : MD := (yX9_digit, cX9_digit, 4, some .int, RX9, 6, 81, 1, 6, false, [])
abbrev mL_look : MD := (yL_look, cL_look, 5, some .int, RL, 7, 104, 1, 6, false, [((0), (10), (13), (13))])
abbrev mX9_look : MD := (yX9_look, cX9_look, 4, some .int, RX9, 6, 81, 1, 6, false, [])
abbrev mX9_isDialLength : MD := (yX9_isDialLength, cX9_isDialLength, 2, some .boolean, RX9, 0, 0, 0, 0, false, [])
abbrev mX9_bufferRow : MD := (yX9_bufferRow, cX9_bufferRow, 4, some .int, RX9, 1, 21, 0, 0, false, [])
abbrev mX1_routeIndexFor : MD := (yX1_routeIndexFor, cX1_routeIndexFor, 3, some .int, RX1, 1, 26, 0, 0, false, [])
abbrev mX1_groupFor : MD := (yX1_groupFor, cX1_groupFor, 3, some .int, RX1, 2, 49, 0, 0, false, [])
abbrev mL_overIn : MD := (yL_overIn, cL_overIn, 4, some .int, RL, 7, 141, 1, 6, false, [((0), (9), (12), (22))])
abbrev mX9_overIn : MD := (yX9_overIn, cX9_overIn, 4, some .int, RX9, 6, 118, 1, 6, false, [])
abbrev mX0_isOver : MD := (yX0_isOver, cX0_isOver, 1, some .boolean, RX0, 0, 0, 0, 0, false, [])
abbrev mL_foretold : MD := (yL_foretold, cL_foretold, 5, some .int, RL, 7, 162, 1, 6, false, [((0), (10), (13), (13))])
abbrev mX9_foretold : MD := (yX9_foretold, cX9_foretold, 3, some .int, RX9, 6, 140, 1, 6, false, [])
abbrev mL_traffic : MD := (yL_traffic, cL_traffic, 4, some .int, RL, 7, 104, 1, 6, false, [((0), (9), (12), (22))])
abbrev mX9_traffic : MD := (yX9_traffic, cX9_traffic, 4, some .float, RX9, 6, 81, 1, 6, false, [])
abbrev mL_dial : MD := (yL_dial, cL_dial, 6, some .int, RL, 7, 111, 1, 6, false, [((0), (12), (15), (22)), ((0), (12), (19), (13)), ((0), (12), (23), (58))])
abbrev mX9_dial : MD := (yX9_dial, cX9_dial, 5, some .int, RX9, 6, 87, 1, 6, false, [])
abbrev mL_hang : MD := (yL_hang, cL_hang, 4, some .int, RL, 7, 110, 1, 6, false, [((0), (9), (12), (22)), ((0), (9), (15), (58))])
abbrev mX9_hang : MD := (yX9_hang, cX9_hang, 4, some .int, RX9, 6, 87, 1, 6, false, [])
abbrev mX1_hangUp : MD := (yX1_hangUp, cX1_hangUp, 6, none, RX1, 2, 47, 0, 0, false, [])
abbrev mL_rule : MD := (yL_rule, cL_rule, 5, some .int, RL, 7, 109, 1, 6, false, [((0), (10), (13), (13))])
abbrev mX9_rule : MD := (yX9_rule, cX9_rule, 3, some .int, RX9, 6, 87, 1, 6, false, [])
abbrev mL_pass : MD := (yL_pass, cL_pass, 4, some .int, RL, 7, 141, 1, 6, false, [((0), (9), (12), (13))])
abbrev mX9_pass : MD := (yX9_pass, cX9_pass, 4, some .int, RX9, 6, 118, 1, 6, false, [])
abbrev mX10_init : MD := (yX10_init, cX10_init, 1, none, RX10, 1, 40, 13, 8727, true, [])
abbrev mX10_layExchange : MD := (yX10_layExchange, cX10_layExchange, 4, none, RX10, 0, 0, 0, 0, false, [])
abbrev mX10_thrown : MD := (yX10_thrown, cX10_thrown, 1, some .int, RX10, 0, 0, 0, 0, false, [])
abbrev mX10_append : MD := (yX10_append, cX10_append, 8, some .int, RX10, 0, 0, 0, 0, false, [])
abbrev mX10_load : MD := (yX10_load, cX10_load, 4, some .int, RX10, 6, 128, 0, 0, false, [])
abbrev mX10_in : MD := (yX10_in, cX10_in, 3, some .boolean, RX10, 0, 0, 0, 0, false, [])
abbrev mX10_fails : MD := (yX10_fails, cX10_fails, 3, some .boolean, RX10, 0, 0, 0, 0, false, [])
abbrev mX10_takeWord : MD := (yX10_takeWord, cX10_takeWord, 3, some .boolean, RX10, 4, 85, 0, 0, false, [])
abbrev mX10_isGood : MD := (yX10_isGood, cX10_isGood, 1, some .boolean, RX10, 0, 0, 0, 0, false, [])
abbrev mX10_ahead : MD := (yX10_ahead, cX10_ahead, 1, some .int, RX10, 1, 21, 0, 0, false, [])
abbrev mX10_byteAt : MD := (yX10_byteAt, cX10_byteAt, 2, some .int, RX10, 0, 0, 0, 0, false, [])
abbrev mX10_report : MD := (yX10_report, cX10_report, 3, none, RX10, 0, 0, 0, 0, false, [])
abbrev mX10_number : MD := (yX10_number, cX10_number, 4, some .int, RX10, 2, 42, 0, 0, false, [])
abbrev mX10_isDigit : MD := (yX10_isDigit, cX10_isDigit, 1, some .boolean, RX10, 1, 22, 0, 0, false, [])
abbrev mX10_min : MD := (yX10_min, cX10_min, 2, some .int, RX10, 0, 0, 0, 0, false, [])
abbrev mX10_expect : MD := (yX10_expect, cX10_expect, 2, none, RX10, 2, 41, 0, 0, false, [])
abbrev mX10_statement : MD := (yX10_statement, cX10_statement, 2, none, RX10, 5, 107, 0, 0, false, [])
abbrev mX10_readLine : MD := (yX10_readLine, cX10_readLine, 2, none, RX10, 3, 63, 0, 0, false, [])
abbrev mX10_readDigits : MD := (yX10_readDigits, cX10_readDigits, 3, none, RX10, 2, 41, 0, 0, false, [])
abbrev mX10_lineOf : MD := (yX10_lineOf, cX10_lineOf, 4, some .int, RX10, 0, 0, 0, 0, false, [])
abbrev mX10_readGroup : MD := (yX10_readGroup, cX10_readGroup, 7, none, RX10, 3, 65, 0, 0, false, [])
abbrev mX10_readName : MD := (yX10_readName, cX10_readName, 4, none, RX10, 2, 41, 0, 0, false, [])
abbrev mX10_groupOf : MD := (yX10_groupOf, cX10_groupOf, 4, some .int, RX10, 0, 0, 0, 0, false, [])
abbrev mX10_readRoute : MD := (yX10_readRoute, cX10_readRoute, 11, none, RX10, 3, 65, 0, 0, false, [])
abbrev mX10_max : MD := (yX10_max, cX10_max, 2, some .int, RX10, 0, 0, 0, 0, false, [])
abbrev mX10_readCall : MD := (yX10_readCall, cX10_readCall, 7, none, RX10, 3, 65, 0, 0, false, [])
abbrev mX10_layCall : MD := (yX10_layCall, cX10_layCall, 8, none, RX10, 0, 0, 0, 0, false, [])
abbrev mX10_readOne : MD := (yX10_readOne, cX10_readOne, 5, none, RX10, 3, 65, 0, 0, false, [])
abbrev mX10_remember : MD := (yX10_remember, cX10_remember, 2, none, RX10, 1, 22, 0, 0, false, [])
abbrev mX10_copy : MD := (yX10_copy, cX10_copy, 3, none, RX10, 0, 0, 0, 0, false, [])
abbrev mX10_errorOffset : MD := (yX10_errorOffset, cX10_errorOffset, 1, some .int, RX10, 0, 0, 0, 0, false, [])
abbrev mX10_state : MD := (yX10_state, cX10_state, 2, some .int, RX10, 5, 111, 0, 0, false, [])
abbrev mX10_told : MD := (yX10_told, cX10_told, 4, some .int, RX10, 4, 88, 0, 0, false, [])
abbrev mX10_callsThat : MD := (yX10_callsThat, cX10_callsThat, 4, some .int, RX10, 1, 22, 0, 0, false, [])
abbrev mX10_of : MD := (yX10_of, cX10_of, 3, some .int, RX10, 0, 0, 0, 0, false, [])
abbrev mX10_isBusy : MD := (yX10_isBusy, cX10_isBusy, 2, some .boolean, RX10, 3, 67, 0, 0, false, [])
abbrev mX10_callBy : MD := (yX10_callBy, cX10_callBy, 3, some .int, RX10, 2, 45, 0, 0, false, [])
abbrev mX10_isState : MD := (yX10_isState, cX10_isState, 4, some .boolean, RX10, 1, 22, 0, 0, false, [])
abbrev mX10_callTo : MD := (yX10_callTo, cX10_callTo, 3, some .int, RX10, 1, 22, 0, 0, false, [])
abbrev mX10_line : MD := (yX10_line, cX10_line, 3, some .int, RX10, 5, 112, 0, 0, false, [])
abbrev mX10_toldLine : MD := (yX10_toldLine, cX10_toldLine, 5, some .int, RX10, 4, 88, 0, 0, false, [])
abbrev mX10_group : MD := (yX10_group, cX10_group, 3, some .int, RX10, 3, 67, 0, 0, false, [])
abbrev mX10_noGroup : MD := (yX10_noGroup, cX10_noGroup, 2, some .boolean, RX10, 1, 22, 0, 0, false, [])
abbrev mX10_toldGroup : MD := (yX10_toldGroup, cX10_toldGroup, 3, some .int, RX10, 2, 45, 0, 0, false, [])
abbrev mX10_busyTrunks : MD := (yX10_busyTrunks, cX10_busyTrunks, 4, some .int, RX10, 1, 22, 0, 0, false, [])
abbrev mX10_ofGroup : MD := (yX10_ofGroup, cX10_ofGroup, 3, some .int, RX10, 0, 0, 0, 0, false, [])
abbrev mX10_register : MD := (yX10_register, cX10_register, 3, some .int, RX10, 1, 22, 0, 0, false, [])
abbrev mX10_marker : MD := (yX10_marker, cX10_marker, 3, some .int, RX10, 1, 22, 0, 0, false, [])
abbrev mX10_call : MD := (yX10_call, cX10_call, 3, some .int, RX10, 2, 43, 0, 0, false, [])
abbrev mX10_noCall : MD := (yX10_noCall, cX10_noCall, 2, some .boolean, RX10, 1, 22, 0, 0, false, [])
abbrev mX10_digit : MD := (yX10_digit, cX10_digit, 3, some .int, RX10, 2, 44, 0, 0, false, [])
abbrev mX10_dialledValue : MD := (yX10_dialledValue, cX10_dialledValue, 3, some .int, RX10, 1, 22, 0, 0, false, [])
abbrev mX10_power : MD := (yX10_power, cX10_power, 3, some .int, RX10, 0, 0, 0, 0, false, [])
abbrev mX10_look : MD := (yX10_look, cX10_look, 7, some .int, RX10, 4, 92, 0, 0, false, [])
abbrev mX10_valueOf : MD := (yX10_valueOf, cX10_valueOf, 4, some .int, RX10, 1, 22, 0, 0, false, [])
abbrev mX10_routeFor : MD := (yX10_routeFor, cX10_routeFor, 7, some .int, RX10, 1, 22, 0, 0, false, [])
abbrev mX10_isComplete : MD := (yX10_isComplete, cX10_isComplete, 4, some .boolean, RX10, 2, 48, 0, 0, false, [])
abbrev mX10_choiceOf : MD := (yX10_choiceOf, cX10_choiceOf, 5, some .int, RX10, 3, 68, 0, 0, false, [])
abbrev mX10_isFree : MD := (yX10_isFree, cX10_isFree, 4, some .boolean, RX10, 2, 45, 0, 0, false, [])
abbrev mX10_foremost : MD := (yX10_foremost, cX10_foremost, 2, some .int, RX10, 2, 45, 0, 0, false, [])
abbrev mX10_foremostOf : MD := (yX10_foremostOf, cX10_foremostOf, 4, some .int, RX10, 1, 22, 0, 0, false, [])
abbrev mX10_overIn : MD := (yX10_overIn, cX10_overIn, 4, some .int, RX10, 7, 165, 0, 0, false, [])
abbrev mX10_passTick : MD := (yX10_passTick, cX10_passTick, 2, none, RX10, 6, 144, 0, 0, false, [])
abbrev mX10_comes : MD := (yX10_comes, cX10_comes, 3, none, RX10, 4, 88, 0, 0, false, [])
abbrev mX10_set : MD := (yX10_set, cX10_set, 4, none, RX10, 0, 0, 0, 0, false, [])
abbrev mX10_isOver : MD := (yX10_isOver, cX10_isOver, 3, none, RX10, 1, 23, 0, 0, false, [])
abbrev mX10_waits : MD := (yX10_waits, cX10_waits, 3, none, RX10, 1, 23, 0, 0, false, [])
abbrev mX10_marks : MD := (yX10_marks, cX10_marks, 5, none, RX10, 5, 120, 0, 0, false, [])
abbrev mX10_freeRegister : MD := (yX10_freeRegister, cX10_freeRegister, 3, none, RX10, 1, 23, 0, 0, false, [])
abbrev mX10_looks : MD := (yX10_looks, cX10_looks, 9, none, RX10, 4, 92, 0, 0, false, [])
abbrev mX10_talks : MD := (yX10_talks, cX10_talks, 4, none, RX10, 1, 23, 0, 0, false, [])
abbrev mX10_addGroup : MD := (yX10_addGroup, cX10_addGroup, 4, none, RX10, 0, 0, 0, 0, false, [])
abbrev mX10_dials : MD := (yX10_dials, cX10_dials, 4, none, RX10, 3, 71, 0, 0, false, [])
abbrev mX10_takesMarker : MD := (yX10_takesMarker, cX10_takesMarker, 4, none, RX10, 2, 45, 0, 0, false, [])
abbrev mX10_takesRegister : MD := (yX10_takesRegister, cX10_takesRegister, 4, none, RX10, 2, 45, 0, 0, false, [])
abbrev mX10_foretold : MD := (yX10_foretold, cX10_foretold, 4, some .int, RX10, 7, 165, 0, 0, false, [])
abbrev mX10_bestGuard : MD := (yX10_bestGuard, cX10_bestGuard, 5, some .int, RX10, 7, 165, 0, 0, false, [])
abbrev mX10_service : MD := (yX10_service, cX10_service, 3, some .float, RX10, 2, 45, 0, 0, false, [])
abbrev mX10_traffic : MD := (yX10_traffic, cX10_traffic, 2, some .float, RX10, 2, 43, 0, 0, false, [])
abbrev mX10_dial : MD := (yX10_dial, cX10_dial, 5, some .int, RX10, 2, 45, 0, 0, false, [])
abbrev mX10_hang : MD := (yX10_hang, cX10_hang, 4, some .int, RX10, 2, 45, 0, 0, false, [])
abbrev mX10_rule : MD := (yX10_rule, cX10_rule, 4, some .int, RX10, 2, 43, 0, 0, false, [])
abbrev mX10_pass : MD := (yX10_pass, cX10_pass, 4, some .int, RX10, 7, 165, 0, 0, false, [])
abbrev mX10_undo : MD := (yX10_undo, cX10_undo, 1, some .int, RX10, 1, 22, 0, 0, false, [])
abbrev mX10_checksum : MD := (yX10_checksum, cX10_checksum, 5, some .long, RX10, 5, 112, 0, 0, false, [])
theorem miX9_init : MI mX9_init 0 := ⟨⟨lg_of (List.mem_of_getElem? (i := 120) (by decide +kernel)) (by decide +kernel), ⟨by decide, by decide, by decide +kernel⟩, rfl, lg_of (List.mem_of_getElem? (i := 93) (by decide +kernel)) (by decide +kernel)⟩, rfl, lg_of (List.mem_of_getElem? (i := 119) (by decide +kernel)) (by decide +kernel), rfl⟩
theorem miX1_init : MI mX1_init 0 := ⟨⟨lg_of (List.mem_of_getElem? (i := 128) (by decide +kernel)) (by decide +kernel), ⟨by decide, by decide, by decide +kernel⟩, rfl, lg_of (List.mem_of_getElem? (i := 94) (by decide +kernel)) (by decide +kernel)⟩, rfl, lg_of (List.mem_of_getElem? (i := 127) (by decide +kernel)) (by decide +kernel), rfl⟩
theorem miX2_init : MI mX2_init 1 := ⟨⟨lg_of (List.mem_of_getElem? (i := 135) (by decide +kernel)) (by decide +kernel), ⟨by decide, by decide, by decide +kernel⟩, rfl, lg_of (List.mem_of_getElem? (i := 95) (by decide +kernel)) (by decide +kernel)⟩, rfl, lg_of (List.mem_of_getElem? (i := 134) (by decide +kernel)) (by decide +kernel), rfl⟩
theorem miX6_init : MI mX6_init 1 := ⟨⟨lg_of (List.mem_of_getElem? (i := 183) (by decide +kernel)) (by decide +kernel), ⟨by decide, by decide, by decide +kernel⟩, rfl, lg_of (List.mem_of_getElem? (i := 96) (by decide +kernel)) (by decide +kernel)⟩, rfl, lg_of (List.mem_of_getElem? (i := 182) (by decide +kernel)) (by decide +kernel), rfl⟩
theorem miX5_init : MI mX5_init 1 := ⟨⟨lg_of (List.mem_of_getElem? (i := 210) (by decide +kernel)) (by decide +kernel), ⟨by decide, by decide, by decide +kernel⟩, rfl, lg_of (List.mem_of_getElem? (i := 97) (by decide +kernel)) (by decide +kernel)⟩, rfl, lg_of (List.mem_of_getElem? (i := 209) (by decide +kernel)) (by decide +kernel), rfl⟩
theorem miX4_init : MI mX4_init 1 := ⟨⟨lg_of (List.mem_of_getElem? (i := 237) (by decide +kernel)) (by decide +kernel), ⟨by decide, by decide, by decide +kernel⟩, rfl, lg_of (List.mem_of_getElem? (i := 98) (by decide +kernel)) (by decide +kernel)⟩, rfl, lg_of (List.mem_of_getElem? (i := 236) (by decide +kernel)) (by decide +kernel), rfl⟩
theorem miX0_init : MI mX0_init 1 := ⟨⟨lg_of (List.mem_of_getElem? (i := 259) (by decide +kernel)) (by decide +kernel), ⟨by decide, by decide, by decide +kernel⟩, rfl, lg_of (List.mem_of_getElem? (i := 99) (by decide +kernel)) (by decide +kernel)⟩, rfl, lg_of (List.mem_of_getElem? (i := 258) (by decide +kernel)) (by decide +kernel), rfl⟩
theorem mvX1_clear : MV mX1_clear 0 := ⟨⟨lg_of (List.mem_of_getElem? (i := 325) (by decide +kernel)) (by decide +kernel), ⟨by decide, by decide, by decide +kernel⟩, rfl, lg_of (List.mem_of_getElem? (i := 94) (by decide +kernel)) (by decide +kernel)⟩, rfl, lg_of (List.mem_of_getElem? (i := 324) (by decide +kernel)) (by decide +kernel), lg_of (List.mem_of_getElem? (i := 0) (by decide +kernel)) (by decide +kernel)⟩
theorem mvX5_serve : MV mX5_serve 1 := ⟨⟨lg_of (List.mem_of_getElem? (i := 329) (by decide +kernel)) (by decide +kernel), ⟨by decide, by decide, by decide +kernel⟩, rfl, lg_of (List.mem_of_getElem? (i := 97) (by decide +kernel)) (by decide +kernel)⟩, rfl, lg_of (List.mem_of_getElem? (i := 327) (by decide +kernel)) (by decide +kernel), lg_of (List.mem_of_getElem? (i := 328) (by decide +kernel)) (by decide +kernel)⟩
theorem mvX4_serve : MV mX4_serve 2 := ⟨⟨lg_of (List.mem_of_getElem? (i := 333) (by decide +kernel)) (by decide +kernel), ⟨by decide, by decide, by decide +kernel⟩, rfl, lg_of (List.mem_of_getElem? (i := 98) (by decide +kernel)) (by decide +kernel)⟩, rfl, lg_of (List.mem_of_getElem? (i := 331) (by decide +kernel)) (by decide +kernel), lg_of (List.mem_of_getElem? (i := 332) (by decide +kernel)) (by decide +kernel)⟩
theorem miX3_init : MI mX3_init 0 := ⟨⟨lg_of (List.mem_of_getElem? (i := 412) (by decide +kernel)) (by decide +kernel), ⟨by decide, by decide, by decide +kernel⟩, rfl, lg_of (List.mem_of_getElem? (i := 100) (by decide +kernel)) (by decide +kernel)⟩, rfl, lg_of (List.mem_of_getElem? (i := 411) (by decide +kernel)) (by decide +kernel), rfl⟩
theorem miX8_init : MI mX8_init 0 := ⟨⟨lg_of (List.mem_of_getElem? (i := 431) (by decide +kernel)) (by decide +kernel), ⟨by decide, by decide, by decide +kernel⟩, rfl, lg_of (List.mem_of_getElem? (i := 101) (by decide +kernel)) (by decide +kernel)⟩, rfl, lg_of (List.mem_of_getElem? (i := 430) (by decide +kernel)) (by decide +kernel), rfl⟩
theorem mvX9_append : MV mX9_append 5 := ⟨⟨lg_of (List.mem_of_getElem? (i := 508) (by decide +kernel)) (by decide +kernel), ⟨by decide, by decide, by decide +kernel⟩, rfl, lg_of (List.mem_of_getElem? (i := 93) (by decide +kernel)) (by decide +kernel)⟩, rfl, lg_of (List.mem_of_getElem? (i := 506) (by decide +kernel)) (by decide +kernel), lg_of (List.mem_of_getElem? (i := 507) (by decide +kernel)) (by decide +kernel)⟩
theorem mvX9_putWord : MV mX9_putWord 1 := ⟨⟨lg_of (List.mem_of_getElem? (i := 512) (by decide +kernel)) (by decide +kernel), ⟨by decide, by decide, by decide +kernel⟩, rfl, lg_of (List.mem_of_getElem? (i := 93) (by decide +kernel)) (by decide +kernel)⟩, rfl, lg_of (List.mem_of_getElem? (i := 511) (by decide +kernel)) (by decide +kernel), lg_of (List.mem_of_getElem? (i := 1) (by decide +kernel)) (by decide +kernel)⟩
theorem mvX9_errorOffset : MV mX9_errorOffset 0 := ⟨⟨lg_of (List.mem_of_getElem? (i := 516) (by decide +kernel)) (by decide +kernel), ⟨by decide, by decide, by decide +kernel⟩, rfl, lg_of (List.mem_of_getElem? (i := 93) (by decide +kernel)) (by decide +kernel)⟩, rfl, lg_of (List.mem_of_getElem? (i := 514) (by decide +kernel)) (by decide +kernel), lg_of (List.mem_of_getElem? (i := 515) (by decide +kernel)) (by decide +kernel)⟩
theorem mvX9_foremost : MV mX9_foremost 1 := ⟨⟨lg_of (List.mem_of_getElem? (i := 520) (by decide +kernel)) (by decide +kernel), ⟨by decide, by decide, by decide +kernel⟩, rfl, lg_of (List.mem_of_getElem? (i := 93) (by decide +kernel)) (by decide +kernel)⟩, rfl, lg_of (List.mem_of_getElem? (i := 518) (by decide +kernel)) (by decide +kernel), lg_of (List.mem_of_getElem? (i := 519) (by decide +kernel)) (by decide +kernel)⟩
theorem mvX1_firstWaiting : MV mX1_firstWaiting 1 := ⟨⟨lg_of (List.mem_of_getElem? (i := 524) (by decide +kernel)) (by decide +kernel), ⟨by decide, by decide, by decide +kernel⟩, rfl, lg_of (List.mem_of_getElem? (i := 94) (by decide +kernel)) (by decide +kernel)⟩, rfl, lg_of (List.mem_of_getElem? (i := 522) (by decide +kernel)) (by decide +kernel), lg_of (List.mem_of_getElem? (i := 523) (by decide +kernel)) (by decide +kernel)⟩
theorem mvX9_bestGuard : MV mX9_bestGuard 0 := ⟨⟨lg_of (List.mem_of_getElem? (i := 528) (by decide +kernel)) (by decide +kernel), ⟨by decide, by decide, by decide +kernel⟩, rfl, lg_of (List.mem_of_getElem? (i := 93) (by decide +kernel)) (by decide +kernel)⟩, rfl, lg_of (List.mem_of_getElem? (i := 526) (by decide +kernel)) (by decide +kernel), lg_of (List.mem_of_getElem? (i := 527) (by decide +kernel)) (by decide +kernel)⟩
theorem mvX1_copyFrom : MV mX1_copyFrom 1 := ⟨⟨lg_of (List.mem_of_getElem? (i := 532) (by decide +kernel)) (by decide +kernel), ⟨by decide, by decide, by decide +kernel⟩, rfl, lg_of (List.mem_of_getElem? (i := 94) (by decide +kernel)) (by decide +kernel)⟩, rfl, lg_of (List.mem_of_getElem? (i := 530) (by decide +kernel)) (by decide +kernel), lg_of (List.mem_of_getElem? (i := 531) (by decide +kernel)) (by decide +kernel)⟩
theorem mvX2_copyFrom : MV mX2_copyFrom 1 := ⟨⟨lg_of (List.mem_of_getElem? (i := 536) (by decide +kernel)) (by decide +kernel), ⟨by decide, by decide, by decide +kernel⟩, rfl, lg_of (List.mem_of_getElem? (i := 95) (by decide +kernel)) (by decide +kernel)⟩, rfl, lg_of (List.mem_of_getElem? (i := 534) (by decide +kernel)) (by decide +kernel), lg_of (List.mem_of_getElem? (i := 535) (by decide +kernel)) (by decide +kernel)⟩
theorem mvX6_copyFrom : MV mX6_copyFrom 1 := ⟨⟨lg_of (List.mem_of_getElem? (i := 540) (by decide +kernel)) (by decide +kernel), ⟨by decide, by decide, by decide +kernel⟩, rfl, lg_of (List.mem_of_getElem? (i := 96) (by decide +kernel)) (by decide +kernel)⟩, rfl, lg_of (List.mem_of_getElem? (i := 538) (by decide +kernel)) (by decide +kernel), lg_of (List.mem_of_getElem? (i := 539) (by decide +kernel)) (by decide +kernel)⟩
theorem mvX6_tell : MV mX6_tell 2 := ⟨⟨lg_of (List.mem_of_getElem? (i := 544) (by decide +kernel)) (by decide +kernel), ⟨by decide, by decide, by decide +kernel⟩, rfl, lg_of (List.mem_of_getElem? (i := 96) (by decide +kernel)) (by decide +kernel)⟩, rfl, lg_of (List.mem_of_getElem? (i := 542) (by decide +kernel)) (by decide +kernel), lg_of (List.mem_of_getElem? (i := 543) (by decide +kernel)) (by decide +kernel)⟩
theorem mvX6_choiceAt : MV mX6_choiceAt 1 := ⟨⟨lg_of (List.mem_of_getElem? (i := 548) (by decide +kernel)) (by decide +kernel), ⟨by decide, by decide, by decide +kernel⟩, rfl, lg_of (List.mem_of_getElem? (i := 96) (by decide +kernel)) (by decide +kernel)⟩, rfl, lg_of (List.mem_of_getElem? (i := 546) (by decide +kernel)) (by decide +kernel), lg_of (List.mem_of_getElem? (i := 547) (by decide +kernel)) (by decide +kernel)⟩
theorem mvX6_addChoice : MV mX6_addChoice 1 := ⟨⟨lg_of (List.mem_of_getElem? (i := 552) (by decide +kernel)) (by decide +kernel), ⟨by decide, by decide, by decide +kernel⟩, rfl, lg_of (List.mem_of_getElem? (i := 96) (by decide +kernel)) (by decide +kernel)⟩, rfl, lg_of (List.mem_of_getElem? (i := 550) (by decide +kernel)) (by decide +kernel), lg_of (List.mem_of_getElem? (i := 551) (by decide +kernel)) (by decide +kernel)⟩
theorem mvX5_copyFrom : MV mX5_copyFrom 1 := ⟨⟨lg_of (List.mem_of_getElem? (i := 556) (by decide +kernel)) (by decide +kernel), ⟨by decide, by decide, by decide +kernel⟩, rfl, lg_of (List.mem_of_getElem? (i := 97) (by decide +kernel)) (by decide +kernel)⟩, rfl, lg_of (List.mem_of_getElem? (i := 554) (by decide +kernel)) (by decide +kernel), lg_of (List.mem_of_getElem? (i := 555) (by decide +kernel)) (by decide +kernel)⟩
theorem mvX4_copyFrom : MV mX4_copyFrom 1 := ⟨⟨lg_of (List.mem_of_getElem? (i := 560) (by decide +kernel)) (by decide +kernel), ⟨by decide, by decide, by decide +kernel⟩, rfl, lg_of (List.mem_of_getElem? (i := 98) (by decide +kernel)) (by decide +kernel)⟩, rfl, lg_of (List.mem_of_getElem? (i := 558) (by decide +kernel)) (by decide +kernel), lg_of (List.mem_of_getElem? (i := 559) (by decide +kernel)) (by decide +kernel)⟩
theorem mvX0_copyFrom : MV mX0_copyFrom 1 := ⟨⟨lg_of (List.mem_of_getElem? (i := 564) (by decide +kernel)) (by decide +kernel), ⟨by decide, by decide, by decide +kernel⟩, rfl, lg_of (List.mem_of_getElem? (i := 99) (by decide +kernel)) (by decide +kernel)⟩, rfl, lg_of (List.mem_of_getElem? (i := 562) (by decide +kernel)) (by decide +kernel), lg_of (List.mem_of_getElem? (i := 563) (by decide +kernel)) (by decide +kernel)⟩
theorem mvX1_settle : MV mX1_settle 1 := ⟨⟨lg_of (List.mem_of_getElem? (i := 568) (by decide +kernel)) (by decide +kernel), ⟨by decide, by decide, by decide +kernel⟩, rfl, lg_of (List.mem_of_getElem? (i := 94) (by decide +kernel)) (by decide +kernel)⟩, rfl, lg_of (List.mem_of_getElem? (i := 566) (by decide +kernel)) (by decide +kernel), lg_of (List.mem_of_getElem? (i := 567) (by decide +kernel)) (by decide +kernel)⟩
theorem mvX1_hasOpenCall : MV mX1_hasOpenCall 0 := ⟨⟨lg_of (List.mem_of_getElem? (i := 572) (by decide +kernel)) (by decide +kernel), ⟨by decide, by decide, by decide +kernel⟩, rfl, lg_of (List.mem_of_getElem? (i := 94) (by decide +kernel)) (by decide +kernel)⟩, rfl, lg_of (List.mem_of_getElem? (i := 571) (by decide +kernel)) (by decide +kernel), lg_of (List.mem_of_getElem? (i := 2) (by decide +kernel)) (by decide +kernel)⟩
theorem mvX1_tick : MV mX1_tick 0 := ⟨⟨lg_of (List.mem_of_getElem? (i := 576) (by decide +kernel)) (by decide +kernel), ⟨by decide, by decide, by decide +kernel⟩, rfl, lg_of (List.mem_of_getElem? (i := 94) (by decide +kernel)) (by decide +kernel)⟩, rfl, lg_of (List.mem_of_getElem? (i := 574) (by decide +kernel)) (by decide +kernel), lg_of (List.mem_of_getElem? (i := 575) (by decide +kernel)) (by decide +kernel)⟩
theorem mvX1_letCallsCome : MV mX1_letCallsCome 0 := ⟨⟨lg_of (List.mem_of_getElem? (i := 580) (by decide +kernel)) (by decide +kernel), ⟨by decide, by decide, by decide +kernel⟩, rfl, lg_of (List.mem_of_getElem? (i := 94) (by decide +kernel)) (by decide +kernel)⟩, rfl, lg_of (List.mem_of_getElem? (i := 579) (by decide +kernel)) (by decide +kernel), lg_of (List.mem_of_getElem? (i := 3) (by decide +kernel)) (by decide +kernel)⟩
theorem mvX1_countIn : MV mX1_countIn 1 := ⟨⟨lg_of (List.mem_of_getElem? (i := 584) (by decide +kernel)) (by decide +kernel), ⟨by decide, by decide, by decide +kernel⟩, rfl, lg_of (List.mem_of_getElem? (i := 94) (by decide +kernel)) (by decide +kernel)⟩, rfl, lg_of (List.mem_of_getElem? (i := 582) (by decide +kernel)) (by decide +kernel), lg_of (List.mem_of_getElem? (i := 583) (by decide +kernel)) (by decide +kernel)⟩
theorem mvX1_isBusy : MV mX1_isBusy 1 := ⟨⟨lg_of (List.mem_of_getElem? (i := 588) (by decide +kernel)) (by decide +kernel), ⟨by decide, by decide, by decide +kernel⟩, rfl, lg_of (List.mem_of_getElem? (i := 94) (by decide +kernel)) (by decide +kernel)⟩, rfl, lg_of (List.mem_of_getElem? (i := 586) (by decide +kernel)) (by decide +kernel), lg_of (List.mem_of_getElem? (i := 587) (by decide +kernel)) (by decide +kernel)⟩
theorem mvX1_callFrom : MV mX1_callFrom 1 := ⟨⟨lg_of (List.mem_of_getElem? (i := 592) (by decide +kernel)) (by decide +kernel), ⟨by decide, by decide, by decide +kernel⟩, rfl, lg_of (List.mem_of_getElem? (i := 94) (by decide +kernel)) (by decide +kernel)⟩, rfl, lg_of (List.mem_of_getElem? (i := 590) (by decide +kernel)) (by decide +kernel), lg_of (List.mem_of_getElem? (i := 591) (by decide +kernel)) (by decide +kernel)⟩
theorem mvX1_callTo : MV mX1_callTo 1 := ⟨⟨lg_of (List.mem_of_getElem? (i := 596) (by decide +kernel)) (by decide +kernel), ⟨by decide, by decide, by decide +kernel⟩, rfl, lg_of (List.mem_of_getElem? (i := 94) (by decide +kernel)) (by decide +kernel)⟩, rfl, lg_of (List.mem_of_getElem? (i := 594) (by decide +kernel)) (by decide +kernel), lg_of (List.mem_of_getElem? (i := 595) (by decide +kernel)) (by decide +kernel)⟩
theorem mvX0_end : MV mX0_end 2 := ⟨⟨lg_of (List.mem_of_getElem? (i := 600) (by decide +kernel)) (by decide +kernel), ⟨by decide, by decide, by decide +kernel⟩, rfl, lg_of (List.mem_of_getElem? (i := 99) (by decide +kernel)) (by decide +kernel)⟩, rfl, lg_of (List.mem_of_getElem? (i := 598) (by decide +kernel)) (by decide +kernel), lg_of (List.mem_of_getElem? (i := 599) (by decide +kernel)) (by decide +kernel)⟩
theorem mvX1_queueUp : MV mX1_queueUp 2 := ⟨⟨lg_of (List.mem_of_getElem? (i := 604) (by decide +kernel)) (by decide +kernel), ⟨by decide, by decide, by decide +kernel⟩, rfl, lg_of (List.mem_of_getElem? (i := 94) (by decide +kernel)) (by decide +kernel)⟩, rfl, lg_of (List.mem_of_getElem? (i := 603) (by decide +kernel)) (by decide +kernel), lg_of (List.mem_of_getElem? (i := 4) (by decide +kernel)) (by decide +kernel)⟩
theorem mvX1_letCallsTalk : MV mX1_letCallsTalk 0 := ⟨⟨lg_of (List.mem_of_getElem? (i := 608) (by decide +kernel)) (by decide +kernel), ⟨by decide, by decide, by decide +kernel⟩, rfl, lg_of (List.mem_of_getElem? (i := 94) (by decide +kernel)) (by decide +kernel)⟩, rfl, lg_of (List.mem_of_getElem? (i := 607) (by decide +kernel)) (by decide +kernel), lg_of (List.mem_of_getElem? (i := 5) (by decide +kernel)) (by decide +kernel)⟩
theorem mvX1_letMarkersWork : MV mX1_letMarkersWork 0 := ⟨⟨lg_of (List.mem_of_getElem? (i := 612) (by decide +kernel)) (by decide +kernel), ⟨by decide, by decide, by decide +kernel⟩, rfl, lg_of (List.mem_of_getElem? (i := 94) (by decide +kernel)) (by decide +kernel)⟩, rfl, lg_of (List.mem_of_getElem? (i := 611) (by decide +kernel)) (by decide +kernel), lg_of (List.mem_of_getElem? (i := 6) (by decide +kernel)) (by decide +kernel)⟩
theorem mvX1_callAt : MV mX1_callAt 1 := ⟨⟨lg_of (List.mem_of_getElem? (i := 616) (by decide +kernel)) (by decide +kernel), ⟨by decide, by decide, by decide +kernel⟩, rfl, lg_of (List.mem_of_getElem? (i := 94) (by decide +kernel)) (by decide +kernel)⟩, rfl, lg_of (List.mem_of_getElem? (i := 614) (by decide +kernel)) (by decide +kernel), lg_of (List.mem_of_getElem? (i := 615) (by decide +kernel)) (by decide +kernel)⟩
theorem mvX1_findWay : MV mX1_findWay 1 := ⟨⟨lg_of (List.mem_of_getElem? (i := 620) (by decide +kernel)) (by decide +kernel), ⟨by decide, by decide, by decide +kernel⟩, rfl, lg_of (List.mem_of_getElem? (i := 94) (by decide +kernel)) (by decide +kernel)⟩, rfl, lg_of (List.mem_of_getElem? (i := 619) (by decide +kernel)) (by decide +kernel), lg_of (List.mem_of_getElem? (i := 7) (by decide +kernel)) (by decide +kernel)⟩
theorem mvX1_dialledBy : MV mX1_dialledBy 1 := ⟨⟨lg_of (List.mem_of_getElem? (i := 624) (by decide +kernel)) (by decide +kernel), ⟨by decide, by decide, by decide +kernel⟩, rfl, lg_of (List.mem_of_getElem? (i := 94) (by decide +kernel)) (by decide +kernel)⟩, rfl, lg_of (List.mem_of_getElem? (i := 623) (by decide +kernel)) (by decide +kernel), lg_of (List.mem_of_getElem? (i := 8) (by decide +kernel)) (by decide +kernel)⟩
theorem mvX1_registerOf : MV mX1_registerOf 1 := ⟨⟨lg_of (List.mem_of_getElem? (i := 628) (by decide +kernel)) (by decide +kernel), ⟨by decide, by decide, by decide +kernel⟩, rfl, lg_of (List.mem_of_getElem? (i := 94) (by decide +kernel)) (by decide +kernel)⟩, rfl, lg_of (List.mem_of_getElem? (i := 626) (by decide +kernel)) (by decide +kernel), lg_of (List.mem_of_getElem? (i := 627) (by decide +kernel)) (by decide +kernel)⟩
theorem mvX1_registerAt : MV mX1_registerAt 1 := ⟨⟨lg_of (List.mem_of_getElem? (i := 632) (by decide +kernel)) (by decide +kernel), ⟨by decide, by decide, by decide +kernel⟩, rfl, lg_of (List.mem_of_getElem? (i := 94) (by decide +kernel)) (by decide +kernel)⟩, rfl, lg_of (List.mem_of_getElem? (i := 630) (by decide +kernel)) (by decide +kernel), lg_of (List.mem_of_getElem? (i := 631) (by decide +kernel)) (by decide +kernel)⟩
theorem mvX1_freeRegisterOf : MV mX1_freeRegisterOf 1 := ⟨⟨lg_of (List.mem_of_getElem? (i := 636) (by decide +kernel)) (by decide +kernel), ⟨by decide, by decide, by decide +kernel⟩, rfl, lg_of (List.mem_of_getElem? (i := 94) (by decide +kernel)) (by decide +kernel)⟩, rfl, lg_of (List.mem_of_getElem? (i := 635) (by decide +kernel)) (by decide +kernel), lg_of (List.mem_of_getElem? (i := 9) (by decide +kernel)) (by decide +kernel)⟩
theorem mvX1_lineWith : MV mX1_lineWith 1 := ⟨⟨lg_of (List.mem_of_getElem? (i := 640) (by decide +kernel)) (by decide +kernel), ⟨by decide, by decide, by decide +kernel⟩, rfl, lg_of (List.mem_of_getElem? (i := 94) (by decide +kernel)) (by decide +kernel)⟩, rfl, lg_of (List.mem_of_getElem? (i := 638) (by decide +kernel)) (by decide +kernel), lg_of (List.mem_of_getElem? (i := 639) (by decide +kernel)) (by decide +kernel)⟩
theorem mvX1_routeFor : MV mX1_routeFor 1 := ⟨⟨lg_of (List.mem_of_getElem? (i := 644) (by decide +kernel)) (by decide +kernel), ⟨by decide, by decide, by decide +kernel⟩, rfl, lg_of (List.mem_of_getElem? (i := 94) (by decide +kernel)) (by decide +kernel)⟩, rfl, lg_of (List.mem_of_getElem? (i := 642) (by decide +kernel)) (by decide +kernel), lg_of (List.mem_of_getElem? (i := 643) (by decide +kernel)) (by decide +kernel)⟩
theorem mvX0_beginToTalk : MV mX0_beginToTalk 1 := ⟨⟨lg_of (List.mem_of_getElem? (i := 648) (by decide +kernel)) (by decide +kernel), ⟨by decide, by decide, by decide +kernel⟩, rfl, lg_of (List.mem_of_getElem? (i := 99) (by decide +kernel)) (by decide +kernel)⟩, rfl, lg_of (List.mem_of_getElem? (i := 646) (by decide +kernel)) (by decide +kernel), lg_of (List.mem_of_getElem? (i := 647) (by decide +kernel)) (by decide +kernel)⟩
theorem mvX1_freeChoice : MV mX1_freeChoice 1 := ⟨⟨lg_of (List.mem_of_getElem? (i := 652) (by decide +kernel)) (by decide +kernel), ⟨by decide, by decide, by decide +kernel⟩, rfl, lg_of (List.mem_of_getElem? (i := 94) (by decide +kernel)) (by decide +kernel)⟩, rfl, lg_of (List.mem_of_getElem? (i := 651) (by decide +kernel)) (by decide +kernel), lg_of (List.mem_of_getElem? (i := 10) (by decide +kernel)) (by decide +kernel)⟩
theorem mvX1_groupAt : MV mX1_groupAt 1 := ⟨⟨lg_of (List.mem_of_getElem? (i := 657) (by decide +kernel)) (by decide +kernel), ⟨by decide, by decide, by decide +kernel⟩, rfl, lg_of (List.mem_of_getElem? (i := 94) (by decide +kernel)) (by decide +kernel)⟩, rfl, lg_of (List.mem_of_getElem? (i := 655) (by decide +kernel)) (by decide +kernel), lg_of (List.mem_of_getElem? (i := 656) (by decide +kernel)) (by decide +kernel)⟩
theorem mvX1_busyTrunks : MV mX1_busyTrunks 1 := ⟨⟨lg_of (List.mem_of_getElem? (i := 661) (by decide +kernel)) (by decide +kernel), ⟨by decide, by decide, by decide +kernel⟩, rfl, lg_of (List.mem_of_getElem? (i := 94) (by decide +kernel)) (by decide +kernel)⟩, rfl, lg_of (List.mem_of_getElem? (i := 659) (by decide +kernel)) (by decide +kernel), lg_of (List.mem_of_getElem? (i := 660) (by decide +kernel)) (by decide +kernel)⟩
theorem mvX1_takeTrunk : MV mX1_takeTrunk 3 := ⟨⟨lg_of (List.mem_of_getElem? (i := 665) (by decide +kernel)) (by decide +kernel), ⟨by decide, by decide, by decide +kernel⟩, rfl, lg_of (List.mem_of_getElem? (i := 94) (by decide +kernel)) (by decide +kernel)⟩, rfl, lg_of (List.mem_of_getElem? (i := 664) (by decide +kernel)) (by decide +kernel), lg_of (List.mem_of_getElem? (i := 11) (by decide +kernel)) (by decide +kernel)⟩
theorem mvX1_letRegistersDial : MV mX1_letRegistersDial 0 := ⟨⟨lg_of (List.mem_of_getElem? (i := 669) (by decide +kernel)) (by decide +kernel), ⟨by decide, by decide, by decide +kernel⟩, rfl, lg_of (List.mem_of_getElem? (i := 94) (by decide +kernel)) (by decide +kernel)⟩, rfl, lg_of (List.mem_of_getElem? (i := 668) (by decide +kernel)) (by decide +kernel), lg_of (List.mem_of_getElem? (i := 12) (by decide +kernel)) (by decide +kernel)⟩
theorem mvX1_dialOn : MV mX1_dialOn 2 := ⟨⟨lg_of (List.mem_of_getElem? (i := 673) (by decide +kernel)) (by decide +kernel), ⟨by decide, by decide, by decide +kernel⟩, rfl, lg_of (List.mem_of_getElem? (i := 94) (by decide +kernel)) (by decide +kernel)⟩, rfl, lg_of (List.mem_of_getElem? (i := 672) (by decide +kernel)) (by decide +kernel), lg_of (List.mem_of_getElem? (i := 13) (by decide +kernel)) (by decide +kernel)⟩
theorem msX7_lengthOf : MS mX7_lengthOf 1 := ⟨⟨lg_of (List.mem_of_getElem? (i := 676) (by decide +kernel)) (by decide +kernel), ⟨by decide, by decide, by decide +kernel⟩, rfl, lg_of (List.mem_of_getElem? (i := 111) (by decide +kernel)) (by decide +kernel)⟩, rfl, lg_of (List.mem_of_getElem? (i := 675) (by decide +kernel)) (by decide +kernel)⟩
theorem mvX1_isComplete : MV mX1_isComplete 1 := ⟨⟨lg_of (List.mem_of_getElem? (i := 680) (by decide +kernel)) (by decide +kernel), ⟨by decide, by decide, by decide +kernel⟩, rfl, lg_of (List.mem_of_getElem? (i := 94) (by decide +kernel)) (by decide +kernel)⟩, rfl, lg_of (List.mem_of_getElem? (i := 678) (by decide +kernel)) (by decide +kernel), lg_of (List.mem_of_getElem? (i := 679) (by decide +kernel)) (by decide +kernel)⟩
theorem msX7_digitAt : MS mX7_digitAt 2 := ⟨⟨lg_of (List.mem_of_getElem? (i := 683) (by decide +kernel)) (by decide +kernel), ⟨by decide, by decide, by decide +kernel⟩, rfl, lg_of (List.mem_of_getElem? (i := 111) (by decide +kernel)) (by decide +kernel)⟩, rfl, lg_of (List.mem_of_getElem? (i := 682) (by decide +kernel)) (by decide +kernel)⟩
theorem msX7_with : MS mX7_with 2 := ⟨⟨lg_of (List.mem_of_getElem? (i := 687) (by decide +kernel)) (by decide +kernel), ⟨by decide, by decide, by decide +kernel⟩, rfl, lg_of (List.mem_of_getElem? (i := 111) (by decide +kernel)) (by decide +kernel)⟩, rfl, lg_of (List.mem_of_getElem? (i := 686) (by decide +kernel)) (by decide +kernel)⟩
theorem mvX1_giveMarkers : MV mX1_giveMarkers 0 := ⟨⟨lg_of (List.mem_of_getElem? (i := 691) (by decide +kernel)) (by decide +kernel), ⟨by decide, by decide, by decide +kernel⟩, rfl, lg_of (List.mem_of_getElem? (i := 94) (by decide +kernel)) (by decide +kernel)⟩, rfl, lg_of (List.mem_of_getElem? (i := 690) (by decide +kernel)) (by decide +kernel), lg_of (List.mem_of_getElem? (i := 14) (by decide +kernel)) (by decide +kernel)⟩
theorem mvX1_giveRegisters : MV mX1_giveRegisters 0 := ⟨⟨lg_of (List.mem_of_getElem? (i := 696) (by decide +kernel)) (by decide +kernel), ⟨by decide, by decide, by decide +kernel⟩, rfl, lg_of (List.mem_of_getElem? (i := 94) (by decide +kernel)) (by decide +kernel)⟩, rfl, lg_of (List.mem_of_getElem? (i := 695) (by decide +kernel)) (by decide +kernel), lg_of (List.mem_of_getElem? (i := 15) (by decide +kernel)) (by decide +kernel)⟩
theorem mvX1_countTick : MV mX1_countTick 0 := ⟨⟨lg_of (List.mem_of_getElem? (i := 700) (by decide +kernel)) (by decide +kernel), ⟨by decide, by decide, by decide +kernel⟩, rfl, lg_of (List.mem_of_getElem? (i := 94) (by decide +kernel)) (by decide +kernel)⟩, rfl, lg_of (List.mem_of_getElem? (i := 699) (by decide +kernel)) (by decide +kernel), lg_of (List.mem_of_getElem? (i := 16) (by decide +kernel)) (by decide +kernel)⟩
theorem msJ9_max_7cf53 : MS mJ9_max_7cf53 2 := ⟨⟨lg_of (List.mem_of_getElem? (i := 703) (by decide +kernel)) (by decide +kernel), ⟨by decide, by decide, by decide +kernel⟩, rfl, lg_of (List.mem_of_getElem? (i := 112) (by decide +kernel)) (by decide +kernel)⟩, rfl, lg_of (List.mem_of_getElem? (i := 702) (by decide +kernel)) (by decide +kernel)⟩
theorem mvX9_service : MV mX9_service 0 := ⟨⟨lg_of (List.mem_of_getElem? (i := 708) (by decide +kernel)) (by decide +kernel), ⟨by decide, by decide, by decide +kernel⟩, rfl, lg_of (List.mem_of_getElem? (i := 93) (by decide +kernel)) (by decide +kernel)⟩, rfl, lg_of (List.mem_of_getElem? (i := 706) (by decide +kernel)) (by decide +kernel), lg_of (List.mem_of_getElem? (i := 707) (by decide +kernel)) (by decide +kernel)⟩
theorem mvX9_undo : MV mX9_undo 0 := ⟨⟨lg_of (List.mem_of_getElem? (i := 712) (by decide +kernel)) (by decide +kernel), ⟨by decide, by decide, by decide +kernel⟩, rfl, lg_of (List.mem_of_getElem? (i := 93) (by decide +kernel)) (by decide +kernel)⟩, rfl, lg_of (List.mem_of_getElem? (i := 710) (by decide +kernel)) (by decide +kernel), lg_of (List.mem_of_getElem? (i := 711) (by decide +kernel)) (by decide +kernel)⟩
theorem mvX3_takeBack : MV mX3_takeBack 1 := ⟨⟨lg_of (List.mem_of_getElem? (i := 716) (by decide +kernel)) (by decide +kernel), ⟨by decide, by decide, by decide +kernel⟩, rfl, lg_of (List.mem_of_getElem? (i := 100) (by decide +kernel)) (by decide +kernel)⟩, rfl, lg_of (List.mem_of_getElem? (i := 714) (by decide +kernel)) (by decide +kernel), lg_of (List.mem_of_getElem? (i := 715) (by decide +kernel)) (by decide +kernel)⟩
theorem mvX9_checksum : MV mX9_checksum 0 := ⟨⟨lg_of (List.mem_of_getElem? (i := 721) (by decide +kernel)) (by decide +kernel), ⟨by decide, by decide, by decide +kernel⟩, rfl, lg_of (List.mem_of_getElem? (i := 93) (by decide +kernel)) (by decide +kernel)⟩, rfl, lg_of (List.mem_of_getElem? (i := 719) (by decide +kernel)) (by decide +kernel), lg_of (List.mem_of_getElem? (i := 720) (by decide +kernel)) (by decide +kernel)⟩
theorem mvX9_state : MV mX9_state 1 := ⟨⟨lg_of (List.mem_of_getElem? (i := 726) (by decide +kernel)) (by decide +kernel), ⟨by decide, by decide, by decide +kernel⟩, rfl, lg_of (List.mem_of_getElem? (i := 93) (by decide +kernel)) (by decide +kernel)⟩, rfl, lg_of (List.mem_of_getElem? (i := 724) (by decide +kernel)) (by decide +kernel), lg_of (List.mem_of_getElem? (i := 725) (by decide +kernel)) (by decide +kernel)⟩
theorem mvX1_busyLines : MV mX1_busyLines 0 := ⟨⟨lg_of (List.mem_of_getElem? (i := 794) (by decide +kernel)) (by decide +kernel), ⟨by decide, by decide, by decide +kernel⟩, rfl, lg_of (List.mem_of_getElem? (i := 94) (by decide +kernel)) (by decide +kernel)⟩, rfl, lg_of (List.mem_of_getElem? (i := 792) (by decide +kernel)) (by decide +kernel), lg_of (List.mem_of_getElem? (i := 793) (by decide +kernel)) (by decide +kernel)⟩
theorem mvX1_allOverflows : MV mX1_allOverflows 0 := ⟨⟨lg_of (List.mem_of_getElem? (i := 798) (by decide +kernel)) (by decide +kernel), ⟨by decide, by decide, by decide +kernel⟩, rfl, lg_of (List.mem_of_getElem? (i := 94) (by decide +kernel)) (by decide +kernel)⟩, rfl, lg_of (List.mem_of_getElem? (i := 796) (by decide +kernel)) (by decide +kernel), lg_of (List.mem_of_getElem? (i := 797) (by decide +kernel)) (by decide +kernel)⟩
theorem mvX9_sumOfLines : MV mX9_sumOfLines 1 := ⟨⟨lg_of (List.mem_of_getElem? (i := 802) (by decide +kernel)) (by decide +kernel), ⟨by decide, by decide, by decide +kernel⟩, rfl, lg_of (List.mem_of_getElem? (i := 93) (by decide +kernel)) (by decide +kernel)⟩, rfl, lg_of (List.mem_of_getElem? (i := 801) (by decide +kernel)) (by decide +kernel), lg_of (List.mem_of_getElem? (i := 18) (by decide +kernel)) (by decide +kernel)⟩
theorem mvX9_line : MV mX9_line 2 := ⟨⟨lg_of (List.mem_of_getElem? (i := 806) (by decide +kernel)) (by decide +kernel), ⟨by decide, by decide, by decide +kernel⟩, rfl, lg_of (List.mem_of_getElem? (i := 93) (by decide +kernel)) (by decide +kernel)⟩, rfl, lg_of (List.mem_of_getElem? (i := 804) (by decide +kernel)) (by decide +kernel), lg_of (List.mem_of_getElem? (i := 805) (by decide +kernel)) (by decide +kernel)⟩
theorem mvX1_hasLine : MV mX1_hasLine 1 := ⟨⟨lg_of (List.mem_of_getElem? (i := 810) (by decide +kernel)) (by decide +kernel), ⟨by decide, by decide, by decide +kernel⟩, rfl, lg_of (List.mem_of_getElem? (i := 94) (by decide +kernel)) (by decide +kernel)⟩, rfl, lg_of (List.mem_of_getElem? (i := 808) (by decide +kernel)) (by decide +kernel), lg_of (List.mem_of_getElem? (i := 809) (by decide +kernel)) (by decide +kernel)⟩
theorem mvX1_cameFrom : MV mX1_cameFrom 1 := ⟨⟨lg_of (List.mem_of_getElem? (i := 832) (by decide +kernel)) (by decide +kernel), ⟨by decide, by decide, by decide +kernel⟩, rfl, lg_of (List.mem_of_getElem? (i := 94) (by decide +kernel)) (by decide +kernel)⟩, rfl, lg_of (List.mem_of_getElem? (i := 830) (by decide +kernel)) (by decide +kernel), lg_of (List.mem_of_getElem? (i := 831) (by decide +kernel)) (by decide +kernel)⟩
theorem mvX1_endedWellFrom : MV mX1_endedWellFrom 1 := ⟨⟨lg_of (List.mem_of_getElem? (i := 836) (by decide +kernel)) (by decide +kernel), ⟨by decide, by decide, by decide +kernel⟩, rfl, lg_of (List.mem_of_getElem? (i := 94) (by decide +kernel)) (by decide +kernel)⟩, rfl, lg_of (List.mem_of_getElem? (i := 834) (by decide +kernel)) (by decide +kernel), lg_of (List.mem_of_getElem? (i := 835) (by decide +kernel)) (by decide +kernel)⟩
theorem mvX9_sumOfGroups : MV mX9_sumOfGroups 1 := ⟨⟨lg_of (List.mem_of_getElem? (i := 840) (by decide +kernel)) (by decide +kernel), ⟨by decide, by decide, by decide +kernel⟩, rfl, lg_of (List.mem_of_getElem? (i := 93) (by decide +kernel)) (by decide +kernel)⟩, rfl, lg_of (List.mem_of_getElem? (i := 839) (by decide +kernel)) (by decide +kernel), lg_of (List.mem_of_getElem? (i := 19) (by decide +kernel)) (by decide +kernel)⟩
theorem mvX9_group : MV mX9_group 2 := ⟨⟨lg_of (List.mem_of_getElem? (i := 844) (by decide +kernel)) (by decide +kernel), ⟨by decide, by decide, by decide +kernel⟩, rfl, lg_of (List.mem_of_getElem? (i := 93) (by decide +kernel)) (by decide +kernel)⟩, rfl, lg_of (List.mem_of_getElem? (i := 842) (by decide +kernel)) (by decide +kernel), lg_of (List.mem_of_getElem? (i := 843) (by decide +kernel)) (by decide +kernel)⟩
theorem mvX9_sumOfRegisters : MV mX9_sumOfRegisters 1 := ⟨⟨lg_of (List.mem_of_getElem? (i := 850) (by decide +kernel)) (by decide +kernel), ⟨by decide, by decide, by decide +kernel⟩, rfl, lg_of (List.mem_of_getElem? (i := 93) (by decide +kernel)) (by decide +kernel)⟩, rfl, lg_of (List.mem_of_getElem? (i := 849) (by decide +kernel)) (by decide +kernel), lg_of (List.mem_of_getElem? (i := 20) (by decide +kernel)) (by decide +kernel)⟩
theorem mvX9_register : MV mX9_register 2 := ⟨⟨lg_of (List.mem_of_getElem? (i := 854) (by decide +kernel)) (by decide +kernel), ⟨by decide, by decide, by decide +kernel⟩, rfl, lg_of (List.mem_of_getElem? (i := 93) (by decide +kernel)) (by decide +kernel)⟩, rfl, lg_of (List.mem_of_getElem? (i := 852) (by decide +kernel)) (by decide +kernel), lg_of (List.mem_of_getElem? (i := 853) (by decide +kernel)) (by decide +kernel)⟩
theorem mvX9_sumOfMarkers : MV mX9_sumOfMarkers 1 := ⟨⟨lg_of (List.mem_of_getElem? (i := 860) (by decide +kernel)) (by decide +kernel), ⟨by decide, by decide, by decide +kernel⟩, rfl, lg_of (List.mem_of_getElem? (i := 93) (by decide +kernel)) (by decide +kernel)⟩, rfl, lg_of (List.mem_of_getElem? (i := 859) (by decide +kernel)) (by decide +kernel), lg_of (List.mem_of_getElem? (i := 21) (by decide +kernel)) (by decide +kernel)⟩
theorem mvX9_marker : MV mX9_marker 2 := ⟨⟨lg_of (List.mem_of_getElem? (i := 864) (by decide +kernel)) (by decide +kernel), ⟨by decide, by decide, by decide +kernel⟩, rfl, lg_of (List.mem_of_getElem? (i := 93) (by decide +kernel)) (by decide +kernel)⟩, rfl, lg_of (List.mem_of_getElem? (i := 862) (by decide +kernel)) (by decide +kernel), lg_of (List.mem_of_getElem? (i := 863) (by decide +kernel)) (by decide +kernel)⟩
theorem mvX1_markerAt : MV mX1_markerAt 1 := ⟨⟨lg_of (List.mem_of_getElem? (i := 868) (by decide +kernel)) (by decide +kernel), ⟨by decide, by decide, by decide +kernel⟩, rfl, lg_of (List.mem_of_getElem? (i := 94) (by decide +kernel)) (by decide +kernel)⟩, rfl, lg_of (List.mem_of_getElem? (i := 866) (by decide +kernel)) (by decide +kernel), lg_of (List.mem_of_getElem? (i := 867) (by decide +kernel)) (by decide +kernel)⟩
theorem mvX9_sumOfCalls : MV mX9_sumOfCalls 1 := ⟨⟨lg_of (List.mem_of_getElem? (i := 872) (by decide +kernel)) (by decide +kernel), ⟨by decide, by decide, by decide +kernel⟩, rfl, lg_of (List.mem_of_getElem? (i := 93) (by decide +kernel)) (by decide +kernel)⟩, rfl, lg_of (List.mem_of_getElem? (i := 871) (by decide +kernel)) (by decide +kernel), lg_of (List.mem_of_getElem? (i := 22) (by decide +kernel)) (by decide +kernel)⟩
theorem mvX9_call : MV mX9_call 2 := ⟨⟨lg_of (List.mem_of_getElem? (i := 876) (by decide +kernel)) (by decide +kernel), ⟨by decide, by decide, by decide +kernel⟩, rfl, lg_of (List.mem_of_getElem? (i := 93) (by decide +kernel)) (by decide +kernel)⟩, rfl, lg_of (List.mem_of_getElem? (i := 874) (by decide +kernel)) (by decide +kernel), lg_of (List.mem_of_getElem? (i := 875) (by decide +kernel)) (by decide +kernel)⟩
theorem mkL_load : MK mL_load 3 := ⟨lg_of (List.mem_of_getElem? (i := 881) (by decide +kernel)) (by decide +kernel), ⟨by decide, by decide, by decide +kernel⟩, rfl, lg_of (List.mem_of_getElem? (i := 92) (by decide +kernel)) (by decide +kernel)⟩
theorem mvX9_load : MV mX9_load 1 := ⟨⟨lg_of (List.mem_of_getElem? (i := 886) (by decide +kernel)) (by decide +kernel), ⟨by decide, by decide, by decide +kernel⟩, rfl, lg_of (List.mem_of_getElem? (i := 93) (by decide +kernel)) (by decide +kernel)⟩, rfl, lg_of (List.mem_of_getElem? (i := 884) (by decide +kernel)) (by decide +kernel), lg_of (List.mem_of_getElem? (i := 885) (by decide +kernel)) (by decide +kernel)⟩
theorem mvX8_readSetup : MV mX8_readSetup 2 := ⟨⟨lg_of (List.mem_of_getElem? (i := 890) (by decide +kernel)) (by decide +kernel), ⟨by decide, by decide, by decide +kernel⟩, rfl, lg_of (List.mem_of_getElem? (i := 101) (by decide +kernel)) (by decide +kernel)⟩, rfl, lg_of (List.mem_of_getElem? (i := 888) (by decide +kernel)) (by decide +kernel), lg_of (List.mem_of_getElem? (i := 889) (by decide +kernel)) (by decide +kernel)⟩
theorem mvX8_advance : MV mX8_advance 0 := ⟨⟨lg_of (List.mem_of_getElem? (i := 894) (by decide +kernel)) (by decide +kernel), ⟨by decide, by decide, by decide +kernel⟩, rfl, lg_of (List.mem_of_getElem? (i := 101) (by decide +kernel)) (by decide +kernel)⟩, rfl, lg_of (List.mem_of_getElem? (i := 893) (by decide +kernel)) (by decide +kernel), lg_of (List.mem_of_getElem? (i := 23) (by decide +kernel)) (by decide +kernel)⟩
theorem mvX8_signAt : MV mX8_signAt 1 := ⟨⟨lg_of (List.mem_of_getElem? (i := 898) (by decide +kernel)) (by decide +kernel), ⟨by decide, by decide, by decide +kernel⟩, rfl, lg_of (List.mem_of_getElem? (i := 101) (by decide +kernel)) (by decide +kernel)⟩, rfl, lg_of (List.mem_of_getElem? (i := 897) (by decide +kernel)) (by decide +kernel), lg_of (List.mem_of_getElem? (i := 24) (by decide +kernel)) (by decide +kernel)⟩
theorem msX8_kindOf : MS mX8_kindOf 1 := ⟨⟨lg_of (List.mem_of_getElem? (i := 901) (by decide +kernel)) (by decide +kernel), ⟨by decide, by decide, by decide +kernel⟩, rfl, lg_of (List.mem_of_getElem? (i := 101) (by decide +kernel)) (by decide +kernel)⟩, rfl, lg_of (List.mem_of_getElem? (i := 900) (by decide +kernel)) (by decide +kernel)⟩
theorem mvX8_addToToken : MV mX8_addToToken 1 := ⟨⟨lg_of (List.mem_of_getElem? (i := 905) (by decide +kernel)) (by decide +kernel), ⟨by decide, by decide, by decide +kernel⟩, rfl, lg_of (List.mem_of_getElem? (i := 101) (by decide +kernel)) (by decide +kernel)⟩, rfl, lg_of (List.mem_of_getElem? (i := 904) (by decide +kernel)) (by decide +kernel), lg_of (List.mem_of_getElem? (i := 25) (by decide +kernel)) (by decide +kernel)⟩
theorem mvX8_readSize : MV mX8_readSize 0 := ⟨⟨lg_of (List.mem_of_getElem? (i := 910) (by decide +kernel)) (by decide +kernel), ⟨by decide, by decide, by decide +kernel⟩, rfl, lg_of (List.mem_of_getElem? (i := 101) (by decide +kernel)) (by decide +kernel)⟩, rfl, lg_of (List.mem_of_getElem? (i := 909) (by decide +kernel)) (by decide +kernel), lg_of (List.mem_of_getElem? (i := 26) (by decide +kernel)) (by decide +kernel)⟩
theorem mvX8_isWord : MV mX8_isWord 1 := ⟨⟨lg_of (List.mem_of_getElem? (i := 915) (by decide +kernel)) (by decide +kernel), ⟨by decide, by decide, by decide +kernel⟩, rfl, lg_of (List.mem_of_getElem? (i := 101) (by decide +kernel)) (by decide +kernel)⟩, rfl, lg_of (List.mem_of_getElem? (i := 914) (by decide +kernel)) (by decide +kernel), lg_of (List.mem_of_getElem? (i := 27) (by decide +kernel)) (by decide +kernel)⟩
theorem mvJ0_length_8abf5 : MV mJ0_length_8abf5 0 := ⟨⟨lg_of (List.mem_of_getElem? (i := 919) (by decide +kernel)) (by decide +kernel), ⟨by decide, by decide, by decide +kernel⟩, rfl, lg_of (List.mem_of_getElem? (i := 107) (by decide +kernel)) (by decide +kernel)⟩, rfl, lg_of (List.mem_of_getElem? (i := 917) (by decide +kernel)) (by decide +kernel), lg_of (List.mem_of_getElem? (i := 918) (by decide +kernel)) (by decide +kernel)⟩
theorem mvJ0_coder_7d493 : MV mJ0_coder_7d493 0 := ⟨⟨lg_of (List.mem_of_getElem? (i := 923) (by decide +kernel)) (by decide +kernel), ⟨by decide, by decide, by decide +kernel⟩, rfl, lg_of (List.mem_of_getElem? (i := 107) (by decide +kernel)) (by decide +kernel)⟩, rfl, lg_of (List.mem_of_getElem? (i := 921) (by decide +kernel)) (by decide +kernel), lg_of (List.mem_of_getElem? (i := 922) (by decide +kernel)) (by decide +kernel)⟩
theorem mvJ0_charAt_5068e : MV mJ0_charAt_5068e 1 := ⟨⟨lg_of (List.mem_of_getElem? (i := 929) (by decide +kernel)) (by decide +kernel), ⟨by decide, by decide, by decide +kernel⟩, rfl, lg_of (List.mem_of_getElem? (i := 107) (by decide +kernel)) (by decide +kernel)⟩, rfl, lg_of (List.mem_of_getElem? (i := 927) (by decide +kernel)) (by decide +kernel), lg_of (List.mem_of_getElem? (i := 928) (by decide +kernel)) (by decide +kernel)⟩
theorem mvJ0_isLatin1_aae02 : MV mJ0_isLatin1_aae02 0 := ⟨⟨lg_of (List.mem_of_getElem? (i := 933) (by decide +kernel)) (by decide +kernel), ⟨by decide, by decide, by decide +kernel⟩, rfl, lg_of (List.mem_of_getElem? (i := 107) (by decide +kernel)) (by decide +kernel)⟩, rfl, lg_of (List.mem_of_getElem? (i := 931) (by decide +kernel)) (by decide +kernel), lg_of (List.mem_of_getElem? (i := 932) (by decide +kernel)) (by decide +kernel)⟩
theorem msJ1_charAt_3b067 : MS mJ1_charAt_3b067 2 := ⟨⟨lg_of (List.mem_of_getElem? (i := 936) (by decide +kernel)) (by decide +kernel), ⟨by decide, by decide, by decide +kernel⟩, rfl, lg_of (List.mem_of_getElem? (i := 108) (by decide +kernel)) (by decide +kernel)⟩, rfl, lg_of (List.mem_of_getElem? (i := 935) (by decide +kernel)) (by decide +kernel)⟩
theorem msJ0_checkIndex_df160 : MS mJ0_checkIndex_df160 2 := ⟨⟨lg_of (List.mem_of_getElem? (i := 939) (by decide +kernel)) (by decide +kernel), ⟨by decide, by decide, by decide +kernel⟩, rfl, lg_of (List.mem_of_getElem? (i := 107) (by decide +kernel)) (by decide +kernel)⟩, rfl, lg_of (List.mem_of_getElem? (i := 938) (by decide +kernel)) (by decide +kernel)⟩
theorem msJ3_checkIndex_8e157 : MS mJ3_checkIndex_8e157 3 := ⟨⟨lg_of (List.mem_of_getElem? (i := 944) (by decide +kernel)) (by decide +kernel), ⟨by decide, by decide, by decide +kernel⟩, rfl, lg_of (List.mem_of_getElem? (i := 109) (by decide +kernel)) (by decide +kernel)⟩, rfl, lg_of (List.mem_of_getElem? (i := 943) (by decide +kernel)) (by decide +kernel)⟩
theorem msJ2_charAt_3b067 : MS mJ2_charAt_3b067 2 := ⟨⟨lg_of (List.mem_of_getElem? (i := 947) (by decide +kernel)) (by decide +kernel), ⟨by decide, by decide, by decide +kernel⟩, rfl, lg_of (List.mem_of_getElem? (i := 110) (by decide +kernel)) (by decide +kernel)⟩, rfl, lg_of (List.mem_of_getElem? (i := 946) (by decide +kernel)) (by decide +kernel)⟩
theorem msJ2_checkIndex_2214a : MS mJ2_checkIndex_2214a 2 := ⟨⟨lg_of (List.mem_of_getElem? (i := 950) (by decide +kernel)) (by decide +kernel), ⟨by decide, by decide, by decide +kernel⟩, rfl, lg_of (List.mem_of_getElem? (i := 110) (by decide +kernel)) (by decide +kernel)⟩, rfl, lg_of (List.mem_of_getElem? (i := 949) (by decide +kernel)) (by decide +kernel)⟩
theorem msJ2_length_9d52b : MS mJ2_length_9d52b 1 := ⟨⟨lg_of (List.mem_of_getElem? (i := 953) (by decide +kernel)) (by decide +kernel), ⟨by decide, by decide, by decide +kernel⟩, rfl, lg_of (List.mem_of_getElem? (i := 110) (by decide +kernel)) (by decide +kernel)⟩, rfl, lg_of (List.mem_of_getElem? (i := 952) (by decide +kernel)) (by decide +kernel)⟩
theorem msJ2_getChar_3b067 : MS mJ2_getChar_3b067 2 := ⟨⟨lg_of (List.mem_of_getElem? (i := 957) (by decide +kernel)) (by decide +kernel), ⟨by decide, by decide, by decide +kernel⟩, rfl, lg_of (List.mem_of_getElem? (i := 110) (by decide +kernel)) (by decide +kernel)⟩, rfl, lg_of (List.mem_of_getElem? (i := 956) (by decide +kernel)) (by decide +kernel)⟩
theorem mvX8_fail : MV mX8_fail 1 := ⟨⟨lg_of (List.mem_of_getElem? (i := 967) (by decide +kernel)) (by decide +kernel), ⟨by decide, by decide, by decide +kernel⟩, rfl, lg_of (List.mem_of_getElem? (i := 101) (by decide +kernel)) (by decide +kernel)⟩, rfl, lg_of (List.mem_of_getElem? (i := 966) (by decide +kernel)) (by decide +kernel), lg_of (List.mem_of_getElem? (i := 28) (by decide +kernel)) (by decide +kernel)⟩
theorem mvX8_checkNumber : MV mX8_checkNumber 2 := ⟨⟨lg_of (List.mem_of_getElem? (i := 971) (by decide +kernel)) (by decide +kernel), ⟨by decide, by decide, by decide +kernel⟩, rfl, lg_of (List.mem_of_getElem? (i := 101) (by decide +kernel)) (by decide +kernel)⟩, rfl, lg_of (List.mem_of_getElem? (i := 970) (by decide +kernel)) (by decide +kernel), lg_of (List.mem_of_getElem? (i := 29) (by decide +kernel)) (by decide +kernel)⟩
theorem mvX1_tellSize : MV mX1_tellSize 2 := ⟨⟨lg_of (List.mem_of_getElem? (i := 975) (by decide +kernel)) (by decide +kernel), ⟨by decide, by decide, by decide +kernel⟩, rfl, lg_of (List.mem_of_getElem? (i := 94) (by decide +kernel)) (by decide +kernel)⟩, rfl, lg_of (List.mem_of_getElem? (i := 973) (by decide +kernel)) (by decide +kernel), lg_of (List.mem_of_getElem? (i := 974) (by decide +kernel)) (by decide +kernel)⟩
theorem mvX8_passSemicolon : MV mX8_passSemicolon 0 := ⟨⟨lg_of (List.mem_of_getElem? (i := 979) (by decide +kernel)) (by decide +kernel), ⟨by decide, by decide, by decide +kernel⟩, rfl, lg_of (List.mem_of_getElem? (i := 101) (by decide +kernel)) (by decide +kernel)⟩, rfl, lg_of (List.mem_of_getElem? (i := 978) (by decide +kernel)) (by decide +kernel), lg_of (List.mem_of_getElem? (i := 30) (by decide +kernel)) (by decide +kernel)⟩
theorem mvX8_readStatement : MV mX8_readStatement 0 := ⟨⟨lg_of (List.mem_of_getElem? (i := 983) (by decide +kernel)) (by decide +kernel), ⟨by decide, by decide, by decide +kernel⟩, rfl, lg_of (List.mem_of_getElem? (i := 101) (by decide +kernel)) (by decide +kernel)⟩, rfl, lg_of (List.mem_of_getElem? (i := 982) (by decide +kernel)) (by decide +kernel), lg_of (List.mem_of_getElem? (i := 31) (by decide +kernel)) (by decide +kernel)⟩
theorem mvX8_readLine : MV mX8_readLine 0 := ⟨⟨lg_of (List.mem_of_getElem? (i := 988) (by decide +kernel)) (by decide +kernel), ⟨by decide, by decide, by decide +kernel⟩, rfl, lg_of (List.mem_of_getElem? (i := 101) (by decide +kernel)) (by decide +kernel)⟩, rfl, lg_of (List.mem_of_getElem? (i := 987) (by decide +kernel)) (by decide +kernel), lg_of (List.mem_of_getElem? (i := 32) (by decide +kernel)) (by decide +kernel)⟩
theorem mvX8_checkDigits : MV mX8_checkDigits 1 := ⟨⟨lg_of (List.mem_of_getElem? (i := 992) (by decide +kernel)) (by decide +kernel), ⟨by decide, by decide, by decide +kernel⟩, rfl, lg_of (List.mem_of_getElem? (i := 101) (by decide +kernel)) (by decide +kernel)⟩, rfl, lg_of (List.mem_of_getElem? (i := 991) (by decide +kernel)) (by decide +kernel), lg_of (List.mem_of_getElem? (i := 33) (by decide +kernel)) (by decide +kernel)⟩
theorem mvX1_tellLine : MV mX1_tellLine 1 := ⟨⟨lg_of (List.mem_of_getElem? (i := 997) (by decide +kernel)) (by decide +kernel), ⟨by decide, by decide, by decide +kernel⟩, rfl, lg_of (List.mem_of_getElem? (i := 94) (by decide +kernel)) (by decide +kernel)⟩, rfl, lg_of (List.mem_of_getElem? (i := 995) (by decide +kernel)) (by decide +kernel), lg_of (List.mem_of_getElem? (i := 996) (by decide +kernel)) (by decide +kernel)⟩
theorem mvX8_readGroup : MV mX8_readGroup 0 := ⟨⟨lg_of (List.mem_of_getElem? (i := 1002) (by decide +kernel)) (by decide +kernel), ⟨by decide, by decide, by decide +kernel⟩, rfl, lg_of (List.mem_of_getElem? (i := 101) (by decide +kernel)) (by decide +kernel)⟩, rfl, lg_of (List.mem_of_getElem? (i := 1001) (by decide +kernel)) (by decide +kernel), lg_of (List.mem_of_getElem? (i := 34) (by decide +kernel)) (by decide +kernel)⟩
theorem mvX8_checkName : MV mX8_checkName 0 := ⟨⟨lg_of (List.mem_of_getElem? (i := 1006) (by decide +kernel)) (by decide +kernel), ⟨by decide, by decide, by decide +kernel⟩, rfl, lg_of (List.mem_of_getElem? (i := 101) (by decide +kernel)) (by decide +kernel)⟩, rfl, lg_of (List.mem_of_getElem? (i := 1005) (by decide +kernel)) (by decide +kernel), lg_of (List.mem_of_getElem? (i := 35) (by decide +kernel)) (by decide +kernel)⟩
theorem mvX1_groupNamed : MV mX1_groupNamed 1 := ⟨⟨lg_of (List.mem_of_getElem? (i := 1010) (by decide +kernel)) (by decide +kernel), ⟨by decide, by decide, by decide +kernel⟩, rfl, lg_of (List.mem_of_getElem? (i := 94) (by decide +kernel)) (by decide +kernel)⟩, rfl, lg_of (List.mem_of_getElem? (i := 1008) (by decide +kernel)) (by decide +kernel), lg_of (List.mem_of_getElem? (i := 1009) (by decide +kernel)) (by decide +kernel)⟩
theorem mvX1_tellGroup : MV mX1_tellGroup 3 := ⟨⟨lg_of (List.mem_of_getElem? (i := 1014) (by decide +kernel)) (by decide +kernel), ⟨by decide, by decide, by decide +kernel⟩, rfl, lg_of (List.mem_of_getElem? (i := 94) (by decide +kernel)) (by decide +kernel)⟩, rfl, lg_of (List.mem_of_getElem? (i := 1012) (by decide +kernel)) (by decide +kernel), lg_of (List.mem_of_getElem? (i := 1013) (by decide +kernel)) (by decide +kernel)⟩
theorem mvX2_tell : MV mX2_tell 3 := ⟨⟨lg_of (List.mem_of_getElem? (i := 1018) (by decide +kernel)) (by decide +kernel), ⟨by decide, by decide, by decide +kernel⟩, rfl, lg_of (List.mem_of_getElem? (i := 95) (by decide +kernel)) (by decide +kernel)⟩, rfl, lg_of (List.mem_of_getElem? (i := 1016) (by decide +kernel)) (by decide +kernel), lg_of (List.mem_of_getElem? (i := 1017) (by decide +kernel)) (by decide +kernel)⟩
theorem mvX8_readRoute : MV mX8_readRoute 0 := ⟨⟨lg_of (List.mem_of_getElem? (i := 1023) (by decide +kernel)) (by decide +kernel), ⟨by decide, by decide, by decide +kernel⟩, rfl, lg_of (List.mem_of_getElem? (i := 101) (by decide +kernel)) (by decide +kernel)⟩, rfl, lg_of (List.mem_of_getElem? (i := 1022) (by decide +kernel)) (by decide +kernel), lg_of (List.mem_of_getElem? (i := 36) (by decide +kernel)) (by decide +kernel)⟩
theorem mvX1_hasPrefix : MV mX1_hasPrefix 1 := ⟨⟨lg_of (List.mem_of_getElem? (i := 1027) (by decide +kernel)) (by decide +kernel), ⟨by decide, by decide, by decide +kernel⟩, rfl, lg_of (List.mem_of_getElem? (i := 94) (by decide +kernel)) (by decide +kernel)⟩, rfl, lg_of (List.mem_of_getElem? (i := 1025) (by decide +kernel)) (by decide +kernel), lg_of (List.mem_of_getElem? (i := 1026) (by decide +kernel)) (by decide +kernel)⟩
theorem mvX1_tellRoute : MV mX1_tellRoute 2 := ⟨⟨lg_of (List.mem_of_getElem? (i := 1032) (by decide +kernel)) (by decide +kernel), ⟨by decide, by decide, by decide +kernel⟩, rfl, lg_of (List.mem_of_getElem? (i := 94) (by decide +kernel)) (by decide +kernel)⟩, rfl, lg_of (List.mem_of_getElem? (i := 1030) (by decide +kernel)) (by decide +kernel), lg_of (List.mem_of_getElem? (i := 1031) (by decide +kernel)) (by decide +kernel)⟩
theorem mvX8_readChoice : MV mX8_readChoice 1 := ⟨⟨lg_of (List.mem_of_getElem? (i := 1037) (by decide +kernel)) (by decide +kernel), ⟨by decide, by decide, by decide +kernel⟩, rfl, lg_of (List.mem_of_getElem? (i := 101) (by decide +kernel)) (by decide +kernel)⟩, rfl, lg_of (List.mem_of_getElem? (i := 1036) (by decide +kernel)) (by decide +kernel), lg_of (List.mem_of_getElem? (i := 37) (by decide +kernel)) (by decide +kernel)⟩
theorem mvX6_hasChoice : MV mX6_hasChoice 1 := ⟨⟨lg_of (List.mem_of_getElem? (i := 1041) (by decide +kernel)) (by decide +kernel), ⟨by decide, by decide, by decide +kernel⟩, rfl, lg_of (List.mem_of_getElem? (i := 96) (by decide +kernel)) (by decide +kernel)⟩, rfl, lg_of (List.mem_of_getElem? (i := 1039) (by decide +kernel)) (by decide +kernel), lg_of (List.mem_of_getElem? (i := 1040) (by decide +kernel)) (by decide +kernel)⟩
theorem mvX8_readCall : MV mX8_readCall 0 := ⟨⟨lg_of (List.mem_of_getElem? (i := 1047) (by decide +kernel)) (by decide +kernel), ⟨by decide, by decide, by decide +kernel⟩, rfl, lg_of (List.mem_of_getElem? (i := 101) (by decide +kernel)) (by decide +kernel)⟩, rfl, lg_of (List.mem_of_getElem? (i := 1046) (by decide +kernel)) (by decide +kernel), lg_of (List.mem_of_getElem? (i := 38) (by decide +kernel)) (by decide +kernel)⟩
theorem mvX1_tellCall : MV mX1_tellCall 4 := ⟨⟨lg_of (List.mem_of_getElem? (i := 1051) (by decide +kernel)) (by decide +kernel), ⟨by decide, by decide, by decide +kernel⟩, rfl, lg_of (List.mem_of_getElem? (i := 94) (by decide +kernel)) (by decide +kernel)⟩, rfl, lg_of (List.mem_of_getElem? (i := 1049) (by decide +kernel)) (by decide +kernel), lg_of (List.mem_of_getElem? (i := 1050) (by decide +kernel)) (by decide +kernel)⟩
theorem mvX0_tell : MV mX0_tell 4 := ⟨⟨lg_of (List.mem_of_getElem? (i := 1055) (by decide +kernel)) (by decide +kernel), ⟨by decide, by decide, by decide +kernel⟩, rfl, lg_of (List.mem_of_getElem? (i := 99) (by decide +kernel)) (by decide +kernel)⟩, rfl, lg_of (List.mem_of_getElem? (i := 1053) (by decide +kernel)) (by decide +kernel), lg_of (List.mem_of_getElem? (i := 1054) (by decide +kernel)) (by decide +kernel)⟩
theorem mvX8_readRule : MV mX8_readRule 0 := ⟨⟨lg_of (List.mem_of_getElem? (i := 1059) (by decide +kernel)) (by decide +kernel), ⟨by decide, by decide, by decide +kernel⟩, rfl, lg_of (List.mem_of_getElem? (i := 101) (by decide +kernel)) (by decide +kernel)⟩, rfl, lg_of (List.mem_of_getElem? (i := 1058) (by decide +kernel)) (by decide +kernel), lg_of (List.mem_of_getElem? (i := 39) (by decide +kernel)) (by decide +kernel)⟩
theorem msX9_mostOf : MS mX9_mostOf 1 := ⟨⟨lg_of (List.mem_of_getElem? (i := 1065) (by decide +kernel)) (by decide +kernel), ⟨by decide, by decide, by decide +kernel⟩, rfl, lg_of (List.mem_of_getElem? (i := 93) (by decide +kernel)) (by decide +kernel)⟩, rfl, lg_of (List.mem_of_getElem? (i := 1064) (by decide +kernel)) (by decide +kernel)⟩
theorem mvX1_setRule : MV mX1_setRule 2 := ⟨⟨lg_of (List.mem_of_getElem? (i := 1069) (by decide +kernel)) (by decide +kernel), ⟨by decide, by decide, by decide +kernel⟩, rfl, lg_of (List.mem_of_getElem? (i := 94) (by decide +kernel)) (by decide +kernel)⟩, rfl, lg_of (List.mem_of_getElem? (i := 1067) (by decide +kernel)) (by decide +kernel), lg_of (List.mem_of_getElem? (i := 1068) (by decide +kernel)) (by decide +kernel)⟩
theorem mvX3_keep : MV mX3_keep 1 := ⟨⟨lg_of (List.mem_of_getElem? (i := 1073) (by decide +kernel)) (by decide +kernel), ⟨by decide, by decide, by decide +kernel⟩, rfl, lg_of (List.mem_of_getElem? (i := 100) (by decide +kernel)) (by decide +kernel)⟩, rfl, lg_of (List.mem_of_getElem? (i := 1071) (by decide +kernel)) (by decide +kernel), lg_of (List.mem_of_getElem? (i := 1072) (by decide +kernel)) (by decide +kernel)⟩
theorem msJ9_min_7cf53 : MS mJ9_min_7cf53 2 := ⟨⟨lg_of (List.mem_of_getElem? (i := 1076) (by decide +kernel)) (by decide +kernel), ⟨by decide, by decide, by decide +kernel⟩, rfl, lg_of (List.mem_of_getElem? (i := 112) (by decide +kernel)) (by decide +kernel)⟩, rfl, lg_of (List.mem_of_getElem? (i := 1075) (by decide +kernel)) (by decide +kernel)⟩
theorem mkL_state : MK mL_state 3 := ⟨lg_of (List.mem_of_getElem? (i := 1079) (by decide +kernel)) (by decide +kernel), ⟨by decide, by decide, by decide +kernel⟩, rfl, lg_of (List.mem_of_getElem? (i := 92) (by decide +kernel)) (by decide +kernel)⟩
theorem mkL_line : MK mL_line 4 := ⟨lg_of (List.mem_of_getElem? (i := 1083) (by decide +kernel)) (by decide +kernel), ⟨by decide, by decide, by decide +kernel⟩, rfl, lg_of (List.mem_of_getElem? (i := 92) (by decide +kernel)) (by decide +kernel)⟩
theorem mkL_group : MK mL_group 4 := ⟨lg_of (List.mem_of_getElem? (i := 1088) (by decide +kernel)) (by decide +kernel), ⟨by decide, by decide, by decide +kernel⟩, rfl, lg_of (List.mem_of_getElem? (i := 92) (by decide +kernel)) (by decide +kernel)⟩
theorem mkL_register : MK mL_register 4 := ⟨lg_of (List.mem_of_getElem? (i := 1092) (by decide +kernel)) (by decide +kernel), ⟨by decide, by decide, by decide +kernel⟩, rfl, lg_of (List.mem_of_getElem? (i := 92) (by decide +kernel)) (by decide +kernel)⟩
theorem mkL_marker : MK mL_marker 4 := ⟨lg_of (List.mem_of_getElem? (i := 1096) (by decide +kernel)) (by decide +kernel), ⟨by decide, by decide, by decide +kernel⟩, rfl, lg_of (List.mem_of_getElem? (i := 92) (by decide +kernel)) (by decide +kernel)⟩
theorem mkL_call : MK mL_call 4 := ⟨lg_of (List.mem_of_getElem? (i := 1100) (by decide +kernel)) (by decide +kernel), ⟨by decide, by decide, by decide +kernel⟩, rfl, lg_of (List.mem_of_getElem? (i := 92) (by decide +kernel)) (by decide +kernel)⟩
theorem mkL_digit : MK mL_digit 4 := ⟨lg_of (List.mem_of_getElem? (i := 1104) (by decide +kernel)) (by decide +kernel), ⟨by decide, by decide, by decide +kernel⟩, rfl, lg_of (List.mem_of_getElem? (i := 92) (by decide +kernel)) (by decide +kernel)⟩
theorem mvX9_digit : MV mX9_digit 2 := ⟨⟨lg_of (List.mem_of_getElem? (i := 1109) (by decide +kernel)) (by decide +kernel), ⟨by decide, by decide, by decide +kernel⟩, rfl, lg_of (List.mem_of_getElem? (i := 93) (by decide +kernel)) (by decide +kernel)⟩, rfl, lg_of (List.mem_of_getElem? (i := 1107) (by decide +kernel)) (by decide +kernel), lg_of (List.mem_of_getElem? (i := 1108) (by decide +kernel)) (by decide +kernel)⟩
theorem mkL_look : MK mL_look 4 := ⟨lg_of (List.mem_of_getElem? (i := 1128) (by decide +kernel)) (by decide +kernel), ⟨by decide, by decide, by decide +kernel⟩, rfl, lg_of (List.mem_of_getElem? (i := 92) (by decide +kernel)) (by decide +kernel)⟩
theorem mvX9_look : MV mX9_look 2 := ⟨⟨lg_of (List.mem_of_getElem? (i := 1132) (by decide +kernel)) (by decide +kernel), ⟨by decide, by decide, by decide +kernel⟩, rfl, lg_of (List.mem_of_getElem? (i := 93) (by decide +kernel)) (by decide +kernel)⟩, rfl, lg_of (List.mem_of_getElem? (i := 1130) (by decide +kernel)) (by decide +kernel), lg_of (List.mem_of_getElem? (i := 1131) (by decide +kernel)) (by decide +kernel)⟩
theorem mvX9_isDialLength : MV mX9_isDialLength 1 := ⟨⟨lg_of (List.mem_of_getElem? (i := 1136) (by decide +kernel)) (by decide +kernel), ⟨by decide, by decide, by decide +kernel⟩, rfl, lg_of (List.mem_of_getElem? (i := 93) (by decide +kernel)) (by decide +kernel)⟩, rfl, lg_of (List.mem_of_getElem? (i := 1135) (by decide +kernel)) (by decide +kernel), lg_of (List.mem_of_getElem? (i := 40) (by decide +kernel)) (by decide +kernel)⟩
theorem mvX9_bufferRow : MV mX9_bufferRow 1 := ⟨⟨lg_of (List.mem_of_getElem? (i := 1140) (by decide +kernel)) (by decide +kernel), ⟨by decide, by decide, by decide +kernel⟩, rfl, lg_of (List.mem_of_getElem? (i := 93) (by decide +kernel)) (by decide +kernel)⟩, rfl, lg_of (List.mem_of_getElem? (i := 1139) (by decide +kernel)) (by decide +kernel), lg_of (List.mem_of_getElem? (i := 41) (by decide +kernel)) (by decide +kernel)⟩
theorem mvX1_routeIndexFor : MV mX1_routeIndexFor 1 := ⟨⟨lg_of (List.mem_of_getElem? (i := 1146) (by decide +kernel)) (by decide +kernel), ⟨by decide, by decide, by decide +kernel⟩, rfl, lg_of (List.mem_of_getElem? (i := 94) (by decide +kernel)) (by decide +kernel)⟩, rfl, lg_of (List.mem_of_getElem? (i := 1144) (by decide +kernel)) (by decide +kernel), lg_of (List.mem_of_getElem? (i := 1145) (by decide +kernel)) (by decide +kernel)⟩
theorem mvX1_groupFor : MV mX1_groupFor 1 := ⟨⟨lg_of (List.mem_of_getElem? (i := 1151) (by decide +kernel)) (by decide +kernel), ⟨by decide, by decide, by decide +kernel⟩, rfl, lg_of (List.mem_of_getElem? (i := 94) (by decide +kernel)) (by decide +kernel)⟩, rfl, lg_of (List.mem_of_getElem? (i := 1149) (by decide +kernel)) (by decide +kernel), lg_of (List.mem_of_getElem? (i := 1150) (by decide +kernel)) (by decide +kernel)⟩
theorem mkL_overIn : MK mL_overIn 3 := ⟨lg_of (List.mem_of_getElem? (i := 1154) (by decide +kernel)) (by decide +kernel), ⟨by decide, by decide, by decide +kernel⟩, rfl, lg_of (List.mem_of_getElem? (i := 92) (by decide +kernel)) (by decide +kernel)⟩
theorem mvX9_overIn : MV mX9_overIn 1 := ⟨⟨lg_of (List.mem_of_getElem? (i := 1158) (by decide +kernel)) (by decide +kernel), ⟨by decide, by decide, by decide +kernel⟩, rfl, lg_of (List.mem_of_getElem? (i := 93) (by decide +kernel)) (by decide +kernel)⟩, rfl, lg_of (List.mem_of_getElem? (i := 1156) (by decide +kernel)) (by decide +kernel), lg_of (List.mem_of_getElem? (i := 1157) (by decide +kernel)) (by decide +kernel)⟩
theorem mvX0_isOver : MV mX0_isOver 0 := ⟨⟨lg_of (List.mem_of_getElem? (i := 1162) (by decide +kernel)) (by decide +kernel), ⟨by decide, by decide, by decide +kernel⟩, rfl, lg_of (List.mem_of_getElem? (i := 99) (by decide +kernel)) (by decide +kernel)⟩, rfl, lg_of (List.mem_of_getElem? (i := 1160) (by decide +kernel)) (by decide +kernel), lg_of (List.mem_of_getElem? (i := 1161) (by decide +kernel)) (by decide +kernel)⟩
theorem mkL_foretold : MK mL_foretold 4 := ⟨lg_of (List.mem_of_getElem? (i := 1166) (by decide +kernel)) (by decide +kernel), ⟨by decide, by decide, by decide +kernel⟩, rfl, lg_of (List.mem_of_getElem? (i := 92) (by decide +kernel)) (by decide +kernel)⟩
theorem mvX9_foretold : MV mX9_foretold 2 := ⟨⟨lg_of (List.mem_of_getElem? (i := 1170) (by decide +kernel)) (by decide +kernel), ⟨by decide, by decide, by decide +kernel⟩, rfl, lg_of (List.mem_of_getElem? (i := 93) (by decide +kernel)) (by decide +kernel)⟩, rfl, lg_of (List.mem_of_getElem? (i := 1168) (by decide +kernel)) (by decide +kernel), lg_of (List.mem_of_getElem? (i := 1169) (by decide +kernel)) (by decide +kernel)⟩
theorem mkL_traffic : MK mL_traffic 3 := ⟨lg_of (List.mem_of_getElem? (i := 1173) (by decide +kernel)) (by decide +kernel), ⟨by decide, by decide, by decide +kernel⟩, rfl, lg_of (List.mem_of_getElem? (i := 92) (by decide +kernel)) (by decide +kernel)⟩
theorem mvX9_traffic : MV mX9_traffic 1 := ⟨⟨lg_of (List.mem_of_getElem? (i := 1177) (by decide +kernel)) (by decide +kernel), ⟨by decide, by decide, by decide +kernel⟩, rfl, lg_of (List.mem_of_getElem? (i := 93) (by decide +kernel)) (by decide +kernel)⟩, rfl, lg_of (List.mem_of_getElem? (i := 1175) (by decide +kernel)) (by decide +kernel), lg_of (List.mem_of_getElem? (i := 1176) (by decide +kernel)) (by decide +kernel)⟩
theorem mkL_dial : MK mL_dial 5 := ⟨lg_of (List.mem_of_getElem? (i := 1180) (by decide +kernel)) (by decide +kernel), ⟨by decide, by decide, by decide +kernel⟩, rfl, lg_of (List.mem_of_getElem? (i := 92) (by decide +kernel)) (by decide +kernel)⟩
theorem mvX9_dial : MV mX9_dial 3 := ⟨⟨lg_of (List.mem_of_getElem? (i := 1185) (by decide +kernel)) (by decide +kernel), ⟨by decide, by decide, by decide +kernel⟩, rfl, lg_of (List.mem_of_getElem? (i := 93) (by decide +kernel)) (by decide +kernel)⟩, rfl, lg_of (List.mem_of_getElem? (i := 1183) (by decide +kernel)) (by decide +kernel), lg_of (List.mem_of_getElem? (i := 1184) (by decide +kernel)) (by decide +kernel)⟩
theorem mkL_hang : MK mL_hang 3 := ⟨lg_of (List.mem_of_getElem? (i := 1204) (by decide +kernel)) (by decide +kernel), ⟨by decide, by decide, by decide +kernel⟩, rfl, lg_of (List.mem_of_getElem? (i := 92) (by decide +kernel)) (by decide +kernel)⟩
theorem mvX9_hang : MV mX9_hang 1 := ⟨⟨lg_of (List.mem_of_getElem? (i := 1208) (by decide +kernel)) (by decide +kernel), ⟨by decide, by decide, by decide +kernel⟩, rfl, lg_of (List.mem_of_getElem? (i := 93) (by decide +kernel)) (by decide +kernel)⟩, rfl, lg_of (List.mem_of_getElem? (i := 1206) (by decide +kernel)) (by decide +kernel), lg_of (List.mem_of_getElem? (i := 1207) (by decide +kernel)) (by decide +kernel)⟩
theorem mvX1_hangUp : MV mX1_hangUp 1 := ⟨⟨lg_of (List.mem_of_getElem? (i := 1212) (by decide +kernel)) (by decide +kernel), ⟨by decide, by decide, by decide +kernel⟩, rfl, lg_of (List.mem_of_getElem? (i := 94) (by decide +kernel)) (by decide +kernel)⟩, rfl, lg_of (List.mem_of_getElem? (i := 1210) (by decide +kernel)) (by decide +kernel), lg_of (List.mem_of_getElem? (i := 1211) (by decide +kernel)) (by decide +kernel)⟩
theorem mkL_rule : MK mL_rule 4 := ⟨lg_of (List.mem_of_getElem? (i := 1215) (by decide +kernel)) (by decide +kernel), ⟨by decide, by decide, by decide +kernel⟩, rfl, lg_of (List.mem_of_getElem? (i := 92) (by decide +kernel)) (by decide +kernel)⟩
theorem mvX9_rule : MV mX9_rule 2 := ⟨⟨lg_of (List.mem_of_getElem? (i := 1219) (by decide +kernel)) (by decide +kernel), ⟨by decide, by decide, by decide +kernel⟩, rfl, lg_of (List.mem_of_getElem? (i := 93) (by decide +kernel)) (by decide +kernel)⟩, rfl, lg_of (List.mem_of_getElem? (i := 1217) (by decide +kernel)) (by decide +kernel), lg_of (List.mem_of_getElem? (i := 1218) (by decide +kernel)) (by decide +kernel)⟩
theorem mkL_pass : MK mL_pass 3 := ⟨lg_of (List.mem_of_getElem? (i := 1224) (by decide +kernel)) (by decide +kernel), ⟨by decide, by decide, by decide +kernel⟩, rfl, lg_of (List.mem_of_getElem? (i := 92) (by decide +kernel)) (by decide +kernel)⟩
theorem mvX9_pass : MV mX9_pass 1 := ⟨⟨lg_of (List.mem_of_getElem? (i := 1228) (by decide +kernel)) (by decide +kernel), ⟨by decide, by decide, by decide +kernel⟩, rfl, lg_of (List.mem_of_getElem? (i := 93) (by decide +kernel)) (by decide +kernel)⟩, rfl, lg_of (List.mem_of_getElem? (i := 1226) (by decide +kernel)) (by decide +kernel), lg_of (List.mem_of_getElem? (i := 1227) (by decide +kernel)) (by decide +kernel)⟩
theorem miX10_init : MI mX10_init 0 := ⟨⟨lg_of (List.mem_of_getElem? (i := 1233) (by decide +kernel)) (by decide +kernel), ⟨by decide, by decide, by decide +kernel⟩, rfl, lg_of (List.mem_of_getElem? (i := 102) (by decide +kernel)) (by decide +kernel)⟩, rfl, lg_of (List.mem_of_getElem? (i := 1232) (by decide +kernel)) (by decide +kernel), rfl⟩
theorem msX10_layExchange : MS mX10_layExchange 3 := ⟨⟨lg_of (List.mem_of_getElem? (i := 1239) (by decide +kernel)) (by decide +kernel), ⟨by decide, by decide, by decide +kernel⟩, rfl, lg_of (List.mem_of_getElem? (i := 102) (by decide +kernel)) (by decide +kernel)⟩, rfl, lg_of (List.mem_of_getElem? (i := 1238) (by decide +kernel)) (by decide +kernel)⟩
theorem mvX10_thrown : MV mX10_thrown 0 := ⟨⟨lg_of (List.mem_of_getElem? (i := 1307) (by decide +kernel)) (by decide +kernel), ⟨by decide, by decide, by decide +kernel⟩, rfl, lg_of (List.mem_of_getElem? (i := 102) (by decide +kernel)) (by decide +kernel)⟩, rfl, lg_of (List.mem_of_getElem? (i := 1305) (by decide +kernel)) (by decide +kernel), lg_of (List.mem_of_getElem? (i := 1306) (by decide +kernel)) (by decide +kernel)⟩
theorem mvX10_append : MV mX10_append 5 := ⟨⟨lg_of (List.mem_of_getElem? (i := 1311) (by decide +kernel)) (by decide +kernel), ⟨by decide, by decide, by decide +kernel⟩, rfl, lg_of (List.mem_of_getElem? (i := 102) (by decide +kernel)) (by decide +kernel)⟩, rfl, lg_of (List.mem_of_getElem? (i := 1309) (by decide +kernel)) (by decide +kernel), lg_of (List.mem_of_getElem? (i := 1310) (by decide +kernel)) (by decide +kernel)⟩
theorem mvX10_load : MV mX10_load 1 := ⟨⟨lg_of (List.mem_of_getElem? (i := 1315) (by decide +kernel)) (by decide +kernel), ⟨by decide, by decide, by decide +kernel⟩, rfl, lg_of (List.mem_of_getElem? (i := 102) (by decide +kernel)) (by decide +kernel)⟩, rfl, lg_of (List.mem_of_getElem? (i := 1313) (by decide +kernel)) (by decide +kernel), lg_of (List.mem_of_getElem? (i := 1314) (by decide +kernel)) (by decide +kernel)⟩
theorem msX10_in : MS mX10_in 3 := ⟨⟨lg_of (List.mem_of_getElem? (i := 1318) (by decide +kernel)) (by decide +kernel), ⟨by decide, by decide, by decide +kernel⟩, rfl, lg_of (List.mem_of_getElem? (i := 102) (by decide +kernel)) (by decide +kernel)⟩, rfl, lg_of (List.mem_of_getElem? (i := 1317) (by decide +kernel)) (by decide +kernel)⟩
theorem mvX10_fails : MV mX10_fails 2 := ⟨⟨lg_of (List.mem_of_getElem? (i := 1322) (by decide +kernel)) (by decide +kernel), ⟨by decide, by decide, by decide +kernel⟩, rfl, lg_of (List.mem_of_getElem? (i := 102) (by decide +kernel)) (by decide +kernel)⟩, rfl, lg_of (List.mem_of_getElem? (i := 1321) (by decide +kernel)) (by decide +kernel), lg_of (List.mem_of_getElem? (i := 42) (by decide +kernel)) (by decide +kernel)⟩
theorem mvX10_takeWord : MV mX10_takeWord 1 := ⟨⟨lg_of (List.mem_of_getElem? (i := 1327) (by decide +kernel)) (by decide +kernel), ⟨by decide, by decide, by decide +kernel⟩, rfl, lg_of (List.mem_of_getElem? (i := 102) (by decide +kernel)) (by decide +kernel)⟩, rfl, lg_of (List.mem_of_getElem? (i := 1326) (by decide +kernel)) (by decide +kernel), lg_of (List.mem_of_getElem? (i := 43) (by decide +kernel)) (by decide +kernel)⟩
theorem mvX10_isGood : MV mX10_isGood 0 := ⟨⟨lg_of (List.mem_of_getElem? (i := 1331) (by decide +kernel)) (by decide +kernel), ⟨by decide, by decide, by decide +kernel⟩, rfl, lg_of (List.mem_of_getElem? (i := 102) (by decide +kernel)) (by decide +kernel)⟩, rfl, lg_of (List.mem_of_getElem? (i := 1330) (by decide +kernel)) (by decide +kernel), lg_of (List.mem_of_getElem? (i := 44) (by decide +kernel)) (by decide +kernel)⟩
theorem mvX10_ahead : MV mX10_ahead 0 := ⟨⟨lg_of (List.mem_of_getElem? (i := 1335) (by decide +kernel)) (by decide +kernel), ⟨by decide, by decide, by decide +kernel⟩, rfl, lg_of (List.mem_of_getElem? (i := 102) (by decide +kernel)) (by decide +kernel)⟩, rfl, lg_of (List.mem_of_getElem? (i := 1334) (by decide +kernel)) (by decide +kernel), lg_of (List.mem_of_getElem? (i := 45) (by decide +kernel)) (by decide +kernel)⟩
theorem mvX10_byteAt : MV mX10_byteAt 1 := ⟨⟨lg_of (List.mem_of_getElem? (i := 1339) (by decide +kernel)) (by decide +kernel), ⟨by decide, by decide, by decide +kernel⟩, rfl, lg_of (List.mem_of_getElem? (i := 102) (by decide +kernel)) (by decide +kernel)⟩, rfl, lg_of (List.mem_of_getElem? (i := 1338) (by decide +kernel)) (by decide +kernel), lg_of (List.mem_of_getElem? (i := 46) (by decide +kernel)) (by decide +kernel)⟩
theorem mvX10_report : MV mX10_report 2 := ⟨⟨lg_of (List.mem_of_getElem? (i := 1345) (by decide +kernel)) (by decide +kernel), ⟨by decide, by decide, by decide +kernel⟩, rfl, lg_of (List.mem_of_getElem? (i := 102) (by decide +kernel)) (by decide +kernel)⟩, rfl, lg_of (List.mem_of_getElem? (i := 1344) (by decide +kernel)) (by decide +kernel), lg_of (List.mem_of_getElem? (i := 47) (by decide +kernel)) (by decide +kernel)⟩
theorem mvX10_number : MV mX10_number 2 := ⟨⟨lg_of (List.mem_of_getElem? (i := 1349) (by decide +kernel)) (by decide +kernel), ⟨by decide, by decide, by decide +kernel⟩, rfl, lg_of (List.mem_of_getElem? (i := 102) (by decide +kernel)) (by decide +kernel)⟩, rfl, lg_of (List.mem_of_getElem? (i := 1348) (by decide +kernel)) (by decide +kernel), lg_of (List.mem_of_getElem? (i := 48) (by decide +kernel)) (by decide +kernel)⟩
theorem msX10_isDigit : MS mX10_isDigit 1 := ⟨⟨lg_of (List.mem_of_getElem? (i := 1352) (by decide +kernel)) (by decide +kernel), ⟨by decide, by decide, by decide +kernel⟩, rfl, lg_of (List.mem_of_getElem? (i := 102) (by decide +kernel)) (by decide +kernel)⟩, rfl, lg_of (List.mem_of_getElem? (i := 1351) (by decide +kernel)) (by decide +kernel)⟩
theorem msX10_min : MS mX10_min 2 := ⟨⟨lg_of (List.mem_of_getElem? (i := 1356) (by decide +kernel)) (by decide +kernel), ⟨by decide, by decide, by decide +kernel⟩, rfl, lg_of (List.mem_of_getElem? (i := 102) (by decide +kernel)) (by decide +kernel)⟩, rfl, lg_of (List.mem_of_getElem? (i := 1355) (by decide +kernel)) (by decide +kernel)⟩
theorem mvX10_expect : MV mX10_expect 1 := ⟨⟨lg_of (List.mem_of_getElem? (i := 1360) (by decide +kernel)) (by decide +kernel), ⟨by decide, by decide, by decide +kernel⟩, rfl, lg_of (List.mem_of_getElem? (i := 102) (by decide +kernel)) (by decide +kernel)⟩, rfl, lg_of (List.mem_of_getElem? (i := 1359) (by decide +kernel)) (by decide +kernel), lg_of (List.mem_of_getElem? (i := 49) (by decide +kernel)) (by decide +kernel)⟩
theorem mvX10_statement : MV mX10_statement 0 := ⟨⟨lg_of (List.mem_of_getElem? (i := 1364) (by decide +kernel)) (by decide +kernel), ⟨by decide, by decide, by decide +kernel⟩, rfl, lg_of (List.mem_of_getElem? (i := 102) (by decide +kernel)) (by decide +kernel)⟩, rfl, lg_of (List.mem_of_getElem? (i := 1363) (by decide +kernel)) (by decide +kernel), lg_of (List.mem_of_getElem? (i := 50) (by decide +kernel)) (by decide +kernel)⟩
theorem mvX10_readLine : MV mX10_readLine 1 := ⟨⟨lg_of (List.mem_of_getElem? (i := 1369) (by decide +kernel)) (by decide +kernel), ⟨by decide, by decide, by decide +kernel⟩, rfl, lg_of (List.mem_of_getElem? (i := 102) (by decide +kernel)) (by decide +kernel)⟩, rfl, lg_of (List.mem_of_getElem? (i := 1368) (by decide +kernel)) (by decide +kernel), lg_of (List.mem_of_getElem? (i := 51) (by decide +kernel)) (by decide +kernel)⟩
theorem mvX10_readDigits : MV mX10_readDigits 1 := ⟨⟨lg_of (List.mem_of_getElem? (i := 1373) (by decide +kernel)) (by decide +kernel), ⟨by decide, by decide, by decide +kernel⟩, rfl, lg_of (List.mem_of_getElem? (i := 102) (by decide +kernel)) (by decide +kernel)⟩, rfl, lg_of (List.mem_of_getElem? (i := 1372) (by decide +kernel)) (by decide +kernel), lg_of (List.mem_of_getElem? (i := 52) (by decide +kernel)) (by decide +kernel)⟩
theorem msX10_lineOf : MS mX10_lineOf 3 := ⟨⟨lg_of (List.mem_of_getElem? (i := 1376) (by decide +kernel)) (by decide +kernel), ⟨by decide, by decide, by decide +kernel⟩, rfl, lg_of (List.mem_of_getElem? (i := 102) (by decide +kernel)) (by decide +kernel)⟩, rfl, lg_of (List.mem_of_getElem? (i := 1375) (by decide +kernel)) (by decide +kernel)⟩
theorem mvX10_readGroup : MV mX10_readGroup 1 := ⟨⟨lg_of (List.mem_of_getElem? (i := 1381) (by decide +kernel)) (by decide +kernel), ⟨by decide, by decide, by decide +kernel⟩, rfl, lg_of (List.mem_of_getElem? (i := 102) (by decide +kernel)) (by decide +kernel)⟩, rfl, lg_of (List.mem_of_getElem? (i := 1380) (by decide +kernel)) (by decide +kernel), lg_of (List.mem_of_getElem? (i := 53) (by decide +kernel)) (by decide +kernel)⟩
theorem mvX10_readName : MV mX10_readName 0 := ⟨⟨lg_of (List.mem_of_getElem? (i := 1385) (by decide +kernel)) (by decide +kernel), ⟨by decide, by decide, by decide +kernel⟩, rfl, lg_of (List.mem_of_getElem? (i := 102) (by decide +kernel)) (by decide +kernel)⟩, rfl, lg_of (List.mem_of_getElem? (i := 1384) (by decide +kernel)) (by decide +kernel), lg_of (List.mem_of_getElem? (i := 54) (by decide +kernel)) (by decide +kernel)⟩
theorem msX10_groupOf : MS mX10_groupOf 3 := ⟨⟨lg_of (List.mem_of_getElem? (i := 1388) (by decide +kernel)) (by decide +kernel), ⟨by decide, by decide, by decide +kernel⟩, rfl, lg_of (List.mem_of_getElem? (i := 102) (by decide +kernel)) (by decide +kernel)⟩, rfl, lg_of (List.mem_of_getElem? (i := 1387) (by decide +kernel)) (by decide +kernel)⟩
theorem mvX10_readRoute : MV mX10_readRoute 1 := ⟨⟨lg_of (List.mem_of_getElem? (i := 1393) (by decide +kernel)) (by decide +kernel), ⟨by decide, by decide, by decide +kernel⟩, rfl, lg_of (List.mem_of_getElem? (i := 102) (by decide +kernel)) (by decide +kernel)⟩, rfl, lg_of (List.mem_of_getElem? (i := 1392) (by decide +kernel)) (by decide +kernel), lg_of (List.mem_of_getElem? (i := 55) (by decide +kernel)) (by decide +kernel)⟩
theorem msX10_max : MS mX10_max 2 := ⟨⟨lg_of (List.mem_of_getElem? (i := 1396) (by decide +kernel)) (by decide +kernel), ⟨by decide, by decide, by decide +kernel⟩, rfl, lg_of (List.mem_of_getElem? (i := 102) (by decide +kernel)) (by decide +kernel)⟩, rfl, lg_of (List.mem_of_getElem? (i := 1395) (by decide +kernel)) (by decide +kernel)⟩
theorem mvX10_readCall : MV mX10_readCall 1 := ⟨⟨lg_of (List.mem_of_getElem? (i := 1401) (by decide +kernel)) (by decide +kernel), ⟨by decide, by decide, by decide +kernel⟩, rfl, lg_of (List.mem_of_getElem? (i := 102) (by decide +kernel)) (by decide +kernel)⟩, rfl, lg_of (List.mem_of_getElem? (i := 1400) (by decide +kernel)) (by decide +kernel), lg_of (List.mem_of_getElem? (i := 56) (by decide +kernel)) (by decide +kernel)⟩
theorem msX10_layCall : MS mX10_layCall 6 := ⟨⟨lg_of (List.mem_of_getElem? (i := 1404) (by decide +kernel)) (by decide +kernel), ⟨by decide, by decide, by decide +kernel⟩, rfl, lg_of (List.mem_of_getElem? (i := 102) (by decide +kernel)) (by decide +kernel)⟩, rfl, lg_of (List.mem_of_getElem? (i := 1403) (by decide +kernel)) (by decide +kernel)⟩
theorem mvX10_readOne : MV mX10_readOne 4 := ⟨⟨lg_of (List.mem_of_getElem? (i := 1409) (by decide +kernel)) (by decide +kernel), ⟨by decide, by decide, by decide +kernel⟩, rfl, lg_of (List.mem_of_getElem? (i := 102) (by decide +kernel)) (by decide +kernel)⟩, rfl, lg_of (List.mem_of_getElem? (i := 1408) (by decide +kernel)) (by decide +kernel), lg_of (List.mem_of_getElem? (i := 57) (by decide +kernel)) (by decide +kernel)⟩
theorem mvX10_remember : MV mX10_remember 0 := ⟨⟨lg_of (List.mem_of_getElem? (i := 1415) (by decide +kernel)) (by decide +kernel), ⟨by decide, by decide, by decide +kernel⟩, rfl, lg_of (List.mem_of_getElem? (i := 102) (by decide +kernel)) (by decide +kernel)⟩, rfl, lg_of (List.mem_of_getElem? (i := 1414) (by decide +kernel)) (by decide +kernel), lg_of (List.mem_of_getElem? (i := 58) (by decide +kernel)) (by decide +kernel)⟩
theorem msX10_copy : MS mX10_copy 2 := ⟨⟨lg_of (List.mem_of_getElem? (i := 1418) (by decide +kernel)) (by decide +kernel), ⟨by decide, by decide, by decide +kernel⟩, rfl, lg_of (List.mem_of_getElem? (i := 102) (by decide +kernel)) (by decide +kernel)⟩, rfl, lg_of (List.mem_of_getElem? (i := 1417) (by decide +kernel)) (by decide +kernel)⟩
theorem mvX10_errorOffset : MV mX10_errorOffset 0 := ⟨⟨lg_of (List.mem_of_getElem? (i := 1422) (by decide +kernel)) (by decide +kernel), ⟨by decide, by decide, by decide +kernel⟩, rfl, lg_of (List.mem_of_getElem? (i := 102) (by decide +kernel)) (by decide +kernel)⟩, rfl, lg_of (List.mem_of_getElem? (i := 1420) (by decide +kernel)) (by decide +kernel), lg_of (List.mem_of_getElem? (i := 1421) (by decide +kernel)) (by decide +kernel)⟩
theorem mvX10_state : MV mX10_state 1 := ⟨⟨lg_of (List.mem_of_getElem? (i := 1426) (by decide +kernel)) (by decide +kernel), ⟨by decide, by decide, by decide +kernel⟩, rfl, lg_of (List.mem_of_getElem? (i := 102) (by decide +kernel)) (by decide +kernel)⟩, rfl, lg_of (List.mem_of_getElem? (i := 1424) (by decide +kernel)) (by decide +kernel), lg_of (List.mem_of_getElem? (i := 1425) (by decide +kernel)) (by decide +kernel)⟩
theorem mvX10_told : MV mX10_told 1 := ⟨⟨lg_of (List.mem_of_getElem? (i := 1430) (by decide +kernel)) (by decide +kernel), ⟨by decide, by decide, by decide +kernel⟩, rfl, lg_of (List.mem_of_getElem? (i := 102) (by decide +kernel)) (by decide +kernel)⟩, rfl, lg_of (List.mem_of_getElem? (i := 1429) (by decide +kernel)) (by decide +kernel), lg_of (List.mem_of_getElem? (i := 59) (by decide +kernel)) (by decide +kernel)⟩
theorem mvX10_callsThat : MV mX10_callsThat 1 := ⟨⟨lg_of (List.mem_of_getElem? (i := 1434) (by decide +kernel)) (by decide +kernel), ⟨by decide, by decide, by decide +kernel⟩, rfl, lg_of (List.mem_of_getElem? (i := 102) (by decide +kernel)) (by decide +kernel)⟩, rfl, lg_of (List.mem_of_getElem? (i := 1433) (by decide +kernel)) (by decide +kernel), lg_of (List.mem_of_getElem? (i := 60) (by decide +kernel)) (by decide +kernel)⟩
theorem mvX10_of : MV mX10_of 2 := ⟨⟨lg_of (List.mem_of_getElem? (i := 1438) (by decide +kernel)) (by decide +kernel), ⟨by decide, by decide, by decide +kernel⟩, rfl, lg_of (List.mem_of_getElem? (i := 102) (by decide +kernel)) (by decide +kernel)⟩, rfl, lg_of (List.mem_of_getElem? (i := 1437) (by decide +kernel)) (by decide +kernel), lg_of (List.mem_of_getElem? (i := 61) (by decide +kernel)) (by decide +kernel)⟩
theorem mvX10_isBusy : MV mX10_isBusy 1 := ⟨⟨lg_of (List.mem_of_getElem? (i := 1442) (by decide +kernel)) (by decide +kernel), ⟨by decide, by decide, by decide +kernel⟩, rfl, lg_of (List.mem_of_getElem? (i := 102) (by decide +kernel)) (by decide +kernel)⟩, rfl, lg_of (List.mem_of_getElem? (i := 1441) (by decide +kernel)) (by decide +kernel), lg_of (List.mem_of_getElem? (i := 62) (by decide +kernel)) (by decide +kernel)⟩
theorem mvX10_callBy : MV mX10_callBy 1 := ⟨⟨lg_of (List.mem_of_getElem? (i := 1446) (by decide +kernel)) (by decide +kernel), ⟨by decide, by decide, by decide +kernel⟩, rfl, lg_of (List.mem_of_getElem? (i := 102) (by decide +kernel)) (by decide +kernel)⟩, rfl, lg_of (List.mem_of_getElem? (i := 1445) (by decide +kernel)) (by decide +kernel), lg_of (List.mem_of_getElem? (i := 63) (by decide +kernel)) (by decide +kernel)⟩
theorem mvX10_isState : MV mX10_isState 3 := ⟨⟨lg_of (List.mem_of_getElem? (i := 1450) (by decide +kernel)) (by decide +kernel), ⟨by decide, by decide, by decide +kernel⟩, rfl, lg_of (List.mem_of_getElem? (i := 102) (by decide +kernel)) (by decide +kernel)⟩, rfl, lg_of (List.mem_of_getElem? (i := 1449) (by decide +kernel)) (by decide +kernel), lg_of (List.mem_of_getElem? (i := 64) (by decide +kernel)) (by decide +kernel)⟩
theorem mvX10_callTo : MV mX10_callTo 1 := ⟨⟨lg_of (List.mem_of_getElem? (i := 1454) (by decide +kernel)) (by decide +kernel), ⟨by decide, by decide, by decide +kernel⟩, rfl, lg_of (List.mem_of_getElem? (i := 102) (by decide +kernel)) (by decide +kernel)⟩, rfl, lg_of (List.mem_of_getElem? (i := 1453) (by decide +kernel)) (by decide +kernel), lg_of (List.mem_of_getElem? (i := 65) (by decide +kernel)) (by decide +kernel)⟩
theorem mvX10_line : MV mX10_line 2 := ⟨⟨lg_of (List.mem_of_getElem? (i := 1458) (by decide +kernel)) (by decide +kernel), ⟨by decide, by decide, by decide +kernel⟩, rfl, lg_of (List.mem_of_getElem? (i := 102) (by decide +kernel)) (by decide +kernel)⟩, rfl, lg_of (List.mem_of_getElem? (i := 1456) (by decide +kernel)) (by decide +kernel), lg_of (List.mem_of_getElem? (i := 1457) (by decide +kernel)) (by decide +kernel)⟩
theorem mvX10_toldLine : MV mX10_toldLine 2 := ⟨⟨lg_of (List.mem_of_getElem? (i := 1462) (by decide +kernel)) (by decide +kernel), ⟨by decide, by decide, by decide +kernel⟩, rfl, lg_of (List.mem_of_getElem? (i := 102) (by decide +kernel)) (by decide +kernel)⟩, rfl, lg_of (List.mem_of_getElem? (i := 1461) (by decide +kernel)) (by decide +kernel), lg_of (List.mem_of_getElem? (i := 66) (by decide +kernel)) (by decide +kernel)⟩
theorem mvX10_group : MV mX10_group 2 := ⟨⟨lg_of (List.mem_of_getElem? (i := 1466) (by decide +kernel)) (by decide +kernel), ⟨by decide, by decide, by decide +kernel⟩, rfl, lg_of (List.mem_of_getElem? (i := 102) (by decide +kernel)) (by decide +kernel)⟩, rfl, lg_of (List.mem_of_getElem? (i := 1464) (by decide +kernel)) (by decide +kernel), lg_of (List.mem_of_getElem? (i := 1465) (by decide +kernel)) (by decide +kernel)⟩
theorem mvX10_noGroup : MV mX10_noGroup 1 := ⟨⟨lg_of (List.mem_of_getElem? (i := 1470) (by decide +kernel)) (by decide +kernel), ⟨by decide, by decide, by decide +kernel⟩, rfl, lg_of (List.mem_of_getElem? (i := 102) (by decide +kernel)) (by decide +kernel)⟩, rfl, lg_of (List.mem_of_getElem? (i := 1469) (by decide +kernel)) (by decide +kernel), lg_of (List.mem_of_getElem? (i := 67) (by decide +kernel)) (by decide +kernel)⟩
theorem mvX10_toldGroup : MV mX10_toldGroup 2 := ⟨⟨lg_of (List.mem_of_getElem? (i := 1474) (by decide +kernel)) (by decide +kernel), ⟨by decide, by decide, by decide +kernel⟩, rfl, lg_of (List.mem_of_getElem? (i := 102) (by decide +kernel)) (by decide +kernel)⟩, rfl, lg_of (List.mem_of_getElem? (i := 1473) (by decide +kernel)) (by decide +kernel), lg_of (List.mem_of_getElem? (i := 68) (by decide +kernel)) (by decide +kernel)⟩
theorem mvX10_busyTrunks : MV mX10_busyTrunks 1 := ⟨⟨lg_of (List.mem_of_getElem? (i := 1478) (by decide +kernel)) (by decide +kernel), ⟨by decide, by decide, by decide +kernel⟩, rfl, lg_of (List.mem_of_getElem? (i := 102) (by decide +kernel)) (by decide +kernel)⟩, rfl, lg_of (List.mem_of_getElem? (i := 1477) (by decide +kernel)) (by decide +kernel), lg_of (List.mem_of_getElem? (i := 69) (by decide +kernel)) (by decide +kernel)⟩
theorem mvX10_ofGroup : MV mX10_ofGroup 2 := ⟨⟨lg_of (List.mem_of_getElem? (i := 1482) (by decide +kernel)) (by decide +kernel), ⟨by decide, by decide, by decide +kernel⟩, rfl, lg_of (List.mem_of_getElem? (i := 102) (by decide +kernel)) (by decide +kernel)⟩, rfl, lg_of (List.mem_of_getElem? (i := 1481) (by decide +kernel)) (by decide +kernel), lg_of (List.mem_of_getElem? (i := 70) (by decide +kernel)) (by decide +kernel)⟩
theorem mvX10_register : MV mX10_register 2 := ⟨⟨lg_of (List.mem_of_getElem? (i := 1486) (by decide +kernel)) (by decide +kernel), ⟨by decide, by decide, by decide +kernel⟩, rfl, lg_of (List.mem_of_getElem? (i := 102) (by decide +kernel)) (by decide +kernel)⟩, rfl, lg_of (List.mem_of_getElem? (i := 1484) (by decide +kernel)) (by decide +kernel), lg_of (List.mem_of_getElem? (i := 1485) (by decide +kernel)) (by decide +kernel)⟩
theorem mvX10_marker : MV mX10_marker 2 := ⟨⟨lg_of (List.mem_of_getElem? (i := 1490) (by decide +kernel)) (by decide +kernel), ⟨by decide, by decide, by decide +kernel⟩, rfl, lg_of (List.mem_of_getElem? (i := 102) (by decide +kernel)) (by decide +kernel)⟩, rfl, lg_of (List.mem_of_getElem? (i := 1488) (by decide +kernel)) (by decide +kernel), lg_of (List.mem_of_getElem? (i := 1489) (by decide +kernel)) (by decide +kernel)⟩
theorem mvX10_call : MV mX10_call 2 := ⟨⟨lg_of (List.mem_of_getElem? (i := 1494) (by decide +kernel)) (by decide +kernel), ⟨by decide, by decide, by decide +kernel⟩, rfl, lg_of (List.mem_of_getElem? (i := 102) (by decide +kernel)) (by decide +kernel)⟩, rfl, lg_of (List.mem_of_getElem? (i := 1492) (by decide +kernel)) (by decide +kernel), lg_of (List.mem_of_getElem? (i := 1493) (by decide +kernel)) (by decide +kernel)⟩
theorem mvX10_noCall : MV mX10_noCall 1 := ⟨⟨lg_of (List.mem_of_getElem? (i := 1498) (by decide +kernel)) (by decide +kernel), ⟨by decide, by decide, by decide +kernel⟩, rfl, lg_of (List.mem_of_getElem? (i := 102) (by decide +kernel)) (by decide +kernel)⟩, rfl, lg_of (List.mem_of_getElem? (i := 1497) (by decide +kernel)) (by decide +kernel), lg_of (List.mem_of_getElem? (i := 71) (by decide +kernel)) (by decide +kernel)⟩
theorem mvX10_digit : MV mX10_digit 2 := ⟨⟨lg_of (List.mem_of_getElem? (i := 1502) (by decide +kernel)) (by decide +kernel), ⟨by decide, by decide, by decide +kernel⟩, rfl, lg_of (List.mem_of_getElem? (i := 102) (by decide +kernel)) (by decide +kernel)⟩, rfl, lg_of (List.mem_of_getElem? (i := 1500) (by decide +kernel)) (by decide +kernel), lg_of (List.mem_of_getElem? (i := 1501) (by decide +kernel)) (by decide +kernel)⟩
theorem mvX10_dialledValue : MV mX10_dialledValue 2 := ⟨⟨lg_of (List.mem_of_getElem? (i := 1506) (by decide +kernel)) (by decide +kernel), ⟨by decide, by decide, by decide +kernel⟩, rfl, lg_of (List.mem_of_getElem? (i := 102) (by decide +kernel)) (by decide +kernel)⟩, rfl, lg_of (List.mem_of_getElem? (i := 1505) (by decide +kernel)) (by decide +kernel), lg_of (List.mem_of_getElem? (i := 72) (by decide +kernel)) (by decide +kernel)⟩
theorem msX10_power : MS mX10_power 1 := ⟨⟨lg_of (List.mem_of_getElem? (i := 1509) (by decide +kernel)) (by decide +kernel), ⟨by decide, by decide, by decide +kernel⟩, rfl, lg_of (List.mem_of_getElem? (i := 102) (by decide +kernel)) (by decide +kernel)⟩, rfl, lg_of (List.mem_of_getElem? (i := 1508) (by decide +kernel)) (by decide +kernel)⟩
theorem mvX10_look : MV mX10_look 2 := ⟨⟨lg_of (List.mem_of_getElem? (i := 1513) (by decide +kernel)) (by decide +kernel), ⟨by decide, by decide, by decide +kernel⟩, rfl, lg_of (List.mem_of_getElem? (i := 102) (by decide +kernel)) (by decide +kernel)⟩, rfl, lg_of (List.mem_of_getElem? (i := 1511) (by decide +kernel)) (by decide +kernel), lg_of (List.mem_of_getElem? (i := 1512) (by decide +kernel)) (by decide +kernel)⟩
theorem mvX10_valueOf : MV mX10_valueOf 1 := ⟨⟨lg_of (List.mem_of_getElem? (i := 1517) (by decide +kernel)) (by decide +kernel), ⟨by decide, by decide, by decide +kernel⟩, rfl, lg_of (List.mem_of_getElem? (i := 102) (by decide +kernel)) (by decide +kernel)⟩, rfl, lg_of (List.mem_of_getElem? (i := 1516) (by decide +kernel)) (by decide +kernel), lg_of (List.mem_of_getElem? (i := 73) (by decide +kernel)) (by decide +kernel)⟩
theorem mvX10_routeFor : MV mX10_routeFor 2 := ⟨⟨lg_of (List.mem_of_getElem? (i := 1521) (by decide +kernel)) (by decide +kernel), ⟨by decide, by decide, by decide +kernel⟩, rfl, lg_of (List.mem_of_getElem? (i := 102) (by decide +kernel)) (by decide +kernel)⟩, rfl, lg_of (List.mem_of_getElem? (i := 1520) (by decide +kernel)) (by decide +kernel), lg_of (List.mem_of_getElem? (i := 74) (by decide +kernel)) (by decide +kernel)⟩
theorem mvX10_isComplete : MV mX10_isComplete 2 := ⟨⟨lg_of (List.mem_of_getElem? (i := 1525) (by decide +kernel)) (by decide +kernel), ⟨by decide, by decide, by decide +kernel⟩, rfl, lg_of (List.mem_of_getElem? (i := 102) (by decide +kernel)) (by decide +kernel)⟩, rfl, lg_of (List.mem_of_getElem? (i := 1524) (by decide +kernel)) (by decide +kernel), lg_of (List.mem_of_getElem? (i := 75) (by decide +kernel)) (by decide +kernel)⟩
theorem mvX10_choiceOf : MV mX10_choiceOf 1 := ⟨⟨lg_of (List.mem_of_getElem? (i := 1529) (by decide +kernel)) (by decide +kernel), ⟨by decide, by decide, by decide +kernel⟩, rfl, lg_of (List.mem_of_getElem? (i := 102) (by decide +kernel)) (by decide +kernel)⟩, rfl, lg_of (List.mem_of_getElem? (i := 1528) (by decide +kernel)) (by decide +kernel), lg_of (List.mem_of_getElem? (i := 76) (by decide +kernel)) (by decide +kernel)⟩
theorem mvX10_isFree : MV mX10_isFree 2 := ⟨⟨lg_of (List.mem_of_getElem? (i := 1533) (by decide +kernel)) (by decide +kernel), ⟨by decide, by decide, by decide +kernel⟩, rfl, lg_of (List.mem_of_getElem? (i := 102) (by decide +kernel)) (by decide +kernel)⟩, rfl, lg_of (List.mem_of_getElem? (i := 1532) (by decide +kernel)) (by decide +kernel), lg_of (List.mem_of_getElem? (i := 77) (by decide +kernel)) (by decide +kernel)⟩
theorem mvX10_foremost : MV mX10_foremost 1 := ⟨⟨lg_of (List.mem_of_getElem? (i := 1537) (by decide +kernel)) (by decide +kernel), ⟨by decide, by decide, by decide +kernel⟩, rfl, lg_of (List.mem_of_getElem? (i := 102) (by decide +kernel)) (by decide +kernel)⟩, rfl, lg_of (List.mem_of_getElem? (i := 1535) (by decide +kernel)) (by decide +kernel), lg_of (List.mem_of_getElem? (i := 1536) (by decide +kernel)) (by decide +kernel)⟩
theorem mvX10_foremostOf : MV mX10_foremostOf 1 := ⟨⟨lg_of (List.mem_of_getElem? (i := 1541) (by decide +kernel)) (by decide +kernel), ⟨by decide, by decide, by decide +kernel⟩, rfl, lg_of (List.mem_of_getElem? (i := 102) (by decide +kernel)) (by decide +kernel)⟩, rfl, lg_of (List.mem_of_getElem? (i := 1540) (by decide +kernel)) (by decide +kernel), lg_of (List.mem_of_getElem? (i := 78) (by decide +kernel)) (by decide +kernel)⟩
theorem mvX10_overIn : MV mX10_overIn 1 := ⟨⟨lg_of (List.mem_of_getElem? (i := 1545) (by decide +kernel)) (by decide +kernel), ⟨by decide, by decide, by decide +kernel⟩, rfl, lg_of (List.mem_of_getElem? (i := 102) (by decide +kernel)) (by decide +kernel)⟩, rfl, lg_of (List.mem_of_getElem? (i := 1543) (by decide +kernel)) (by decide +kernel), lg_of (List.mem_of_getElem? (i := 1544) (by decide +kernel)) (by decide +kernel)⟩
theorem mvX10_passTick : MV mX10_passTick 0 := ⟨⟨lg_of (List.mem_of_getElem? (i := 1549) (by decide +kernel)) (by decide +kernel), ⟨by decide, by decide, by decide +kernel⟩, rfl, lg_of (List.mem_of_getElem? (i := 102) (by decide +kernel)) (by decide +kernel)⟩, rfl, lg_of (List.mem_of_getElem? (i := 1548) (by decide +kernel)) (by decide +kernel), lg_of (List.mem_of_getElem? (i := 79) (by decide +kernel)) (by decide +kernel)⟩
theorem mvX10_comes : MV mX10_comes 1 := ⟨⟨lg_of (List.mem_of_getElem? (i := 1553) (by decide +kernel)) (by decide +kernel), ⟨by decide, by decide, by decide +kernel⟩, rfl, lg_of (List.mem_of_getElem? (i := 102) (by decide +kernel)) (by decide +kernel)⟩, rfl, lg_of (List.mem_of_getElem? (i := 1552) (by decide +kernel)) (by decide +kernel), lg_of (List.mem_of_getElem? (i := 80) (by decide +kernel)) (by decide +kernel)⟩
theorem mvX10_set : MV mX10_set 3 := ⟨⟨lg_of (List.mem_of_getElem? (i := 1557) (by decide +kernel)) (by decide +kernel), ⟨by decide, by decide, by decide +kernel⟩, rfl, lg_of (List.mem_of_getElem? (i := 102) (by decide +kernel)) (by decide +kernel)⟩, rfl, lg_of (List.mem_of_getElem? (i := 1556) (by decide +kernel)) (by decide +kernel), lg_of (List.mem_of_getElem? (i := 81) (by decide +kernel)) (by decide +kernel)⟩
theorem mvX10_isOver : MV mX10_isOver 2 := ⟨⟨lg_of (List.mem_of_getElem? (i := 1561) (by decide +kernel)) (by decide +kernel), ⟨by decide, by decide, by decide +kernel⟩, rfl, lg_of (List.mem_of_getElem? (i := 102) (by decide +kernel)) (by decide +kernel)⟩, rfl, lg_of (List.mem_of_getElem? (i := 1560) (by decide +kernel)) (by decide +kernel), lg_of (List.mem_of_getElem? (i := 82) (by decide +kernel)) (by decide +kernel)⟩
theorem mvX10_waits : MV mX10_waits 2 := ⟨⟨lg_of (List.mem_of_getElem? (i := 1565) (by decide +kernel)) (by decide +kernel), ⟨by decide, by decide, by decide +kernel⟩, rfl, lg_of (List.mem_of_getElem? (i := 102) (by decide +kernel)) (by decide +kernel)⟩, rfl, lg_of (List.mem_of_getElem? (i := 1564) (by decide +kernel)) (by decide +kernel), lg_of (List.mem_of_getElem? (i := 83) (by decide +kernel)) (by decide +kernel)⟩
theorem mvX10_marks : MV mX10_marks 1 := ⟨⟨lg_of (List.mem_of_getElem? (i := 1569) (by decide +kernel)) (by decide +kernel), ⟨by decide, by decide, by decide +kernel⟩, rfl, lg_of (List.mem_of_getElem? (i := 102) (by decide +kernel)) (by decide +kernel)⟩, rfl, lg_of (List.mem_of_getElem? (i := 1568) (by decide +kernel)) (by decide +kernel), lg_of (List.mem_of_getElem? (i := 84) (by decide +kernel)) (by decide +kernel)⟩
theorem mvX10_freeRegister : MV mX10_freeRegister 1 := ⟨⟨lg_of (List.mem_of_getElem? (i := 1573) (by decide +kernel)) (by decide +kernel), ⟨by decide, by decide, by decide +kernel⟩, rfl, lg_of (List.mem_of_getElem? (i := 102) (by decide +kernel)) (by decide +kernel)⟩, rfl, lg_of (List.mem_of_getElem? (i := 1572) (by decide +kernel)) (by decide +kernel), lg_of (List.mem_of_getElem? (i := 85) (by decide +kernel)) (by decide +kernel)⟩
theorem mvX10_looks : MV mX10_looks 3 := ⟨⟨lg_of (List.mem_of_getElem? (i := 1577) (by decide +kernel)) (by decide +kernel), ⟨by decide, by decide, by decide +kernel⟩, rfl, lg_of (List.mem_of_getElem? (i := 102) (by decide +kernel)) (by decide +kernel)⟩, rfl, lg_of (List.mem_of_getElem? (i := 1576) (by decide +kernel)) (by decide +kernel), lg_of (List.mem_of_getElem? (i := 86) (by decide +kernel)) (by decide +kernel)⟩
theorem mvX10_talks : MV mX10_talks 3 := ⟨⟨lg_of (List.mem_of_getElem? (i := 1581) (by decide +kernel)) (by decide +kernel), ⟨by decide, by decide, by decide +kernel⟩, rfl, lg_of (List.mem_of_getElem? (i := 102) (by decide +kernel)) (by decide +kernel)⟩, rfl, lg_of (List.mem_of_getElem? (i := 1580) (by decide +kernel)) (by decide +kernel), lg_of (List.mem_of_getElem? (i := 87) (by decide +kernel)) (by decide +kernel)⟩
theorem mvX10_addGroup : MV mX10_addGroup 3 := ⟨⟨lg_of (List.mem_of_getElem? (i := 1585) (by decide +kernel)) (by decide +kernel), ⟨by decide, by decide, by decide +kernel⟩, rfl, lg_of (List.mem_of_getElem? (i := 102) (by decide +kernel)) (by decide +kernel)⟩, rfl, lg_of (List.mem_of_getElem? (i := 1584) (by decide +kernel)) (by decide +kernel), lg_of (List.mem_of_getElem? (i := 88) (by decide +kernel)) (by decide +kernel)⟩
theorem mvX10_dials : MV mX10_dials 1 := ⟨⟨lg_of (List.mem_of_getElem? (i := 1589) (by decide +kernel)) (by decide +kernel), ⟨by decide, by decide, by decide +kernel⟩, rfl, lg_of (List.mem_of_getElem? (i := 102) (by decide +kernel)) (by decide +kernel)⟩, rfl, lg_of (List.mem_of_getElem? (i := 1588) (by decide +kernel)) (by decide +kernel), lg_of (List.mem_of_getElem? (i := 89) (by decide +kernel)) (by decide +kernel)⟩
theorem mvX10_takesMarker : MV mX10_takesMarker 1 := ⟨⟨lg_of (List.mem_of_getElem? (i := 1593) (by decide +kernel)) (by decide +kernel), ⟨by decide, by decide, by decide +kernel⟩, rfl, lg_of (List.mem_of_getElem? (i := 102) (by decide +kernel)) (by decide +kernel)⟩, rfl, lg_of (List.mem_of_getElem? (i := 1592) (by decide +kernel)) (by decide +kernel), lg_of (List.mem_of_getElem? (i := 90) (by decide +kernel)) (by decide +kernel)⟩
theorem mvX10_takesRegister : MV mX10_takesRegister 1 := ⟨⟨lg_of (List.mem_of_getElem? (i := 1597) (by decide +kernel)) (by decide +kernel), ⟨by decide, by decide, by decide +kernel⟩, rfl, lg_of (List.mem_of_getElem? (i := 102) (by decide +kernel)) (by decide +kernel)⟩, rfl, lg_of (List.mem_of_getElem? (i := 1596) (by decide +kernel)) (by decide +kernel), lg_of (List.mem_of_getElem? (i := 91) (by decide +kernel)) (by decide +kernel)⟩
theorem mvX10_foretold : MV mX10_foretold 2 := ⟨⟨lg_of (List.mem_of_getElem? (i := 1601) (by decide +kernel)) (by decide +kernel), ⟨by decide, by decide, by decide +kernel⟩, rfl, lg_of (List.mem_of_getElem? (i := 102) (by decide +kernel)) (by decide +kernel)⟩, rfl, lg_of (List.mem_of_getElem? (i := 1599) (by decide +kernel)) (by decide +kernel), lg_of (List.mem_of_getElem? (i := 1600) (by decide +kernel)) (by decide +kernel)⟩
theorem mvX10_bestGuard : MV mX10_bestGuard 0 := ⟨⟨lg_of (List.mem_of_getElem? (i := 1605) (by decide +kernel)) (by decide +kernel), ⟨by decide, by decide, by decide +kernel⟩, rfl, lg_of (List.mem_of_getElem? (i := 102) (by decide +kernel)) (by decide +kernel)⟩, rfl, lg_of (List.mem_of_getElem? (i := 1603) (by decide +kernel)) (by decide +kernel), lg_of (List.mem_of_getElem? (i := 1604) (by decide +kernel)) (by decide +kernel)⟩
theorem mvX10_service : MV mX10_service 0 := ⟨⟨lg_of (List.mem_of_getElem? (i := 1609) (by decide +kernel)) (by decide +kernel), ⟨by decide, by decide, by decide +kernel⟩, rfl, lg_of (List.mem_of_getElem? (i := 102) (by decide +kernel)) (by decide +kernel)⟩, rfl, lg_of (List.mem_of_getElem? (i := 1607) (by decide +kernel)) (by decide +kernel), lg_of (List.mem_of_getElem? (i := 1608) (by decide +kernel)) (by decide +kernel)⟩
theorem mvX10_traffic : MV mX10_traffic 1 := ⟨⟨lg_of (List.mem_of_getElem? (i := 1613) (by decide +kernel)) (by decide +kernel), ⟨by decide, by decide, by decide +kernel⟩, rfl, lg_of (List.mem_of_getElem? (i := 102) (by decide +kernel)) (by decide +kernel)⟩, rfl, lg_of (List.mem_of_getElem? (i := 1611) (by decide +kernel)) (by decide +kernel), lg_of (List.mem_of_getElem? (i := 1612) (by decide +kernel)) (by decide +kernel)⟩
theorem mvX10_dial : MV mX10_dial 3 := ⟨⟨lg_of (List.mem_of_getElem? (i := 1617) (by decide +kernel)) (by decide +kernel), ⟨by decide, by decide, by decide +kernel⟩, rfl, lg_of (List.mem_of_getElem? (i := 102) (by decide +kernel)) (by decide +kernel)⟩, rfl, lg_of (List.mem_of_getElem? (i := 1615) (by decide +kernel)) (by decide +kernel), lg_of (List.mem_of_getElem? (i := 1616) (by decide +kernel)) (by decide +kernel)⟩
theorem mvX10_hang : MV mX10_hang 1 := ⟨⟨lg_of (List.mem_of_getElem? (i := 1621) (by decide +kernel)) (by decide +kernel), ⟨by decide, by decide, by decide +kernel⟩, rfl, lg_of (List.mem_of_getElem? (i := 102) (by decide +kernel)) (by decide +kernel)⟩, rfl, lg_of (List.mem_of_getElem? (i := 1619) (by decide +kernel)) (by decide +kernel), lg_of (List.mem_of_getElem? (i := 1620) (by decide +kernel)) (by decide +kernel)⟩
theorem mvX10_rule : MV mX10_rule 2 := ⟨⟨lg_of (List.mem_of_getElem? (i := 1625) (by decide +kernel)) (by decide +kernel), ⟨by decide, by decide, by decide +kernel⟩, rfl, lg_of (List.mem_of_getElem? (i := 102) (by decide +kernel)) (by decide +kernel)⟩, rfl, lg_of (List.mem_of_getElem? (i := 1623) (by decide +kernel)) (by decide +kernel), lg_of (List.mem_of_getElem? (i := 1624) (by decide +kernel)) (by decide +kernel)⟩
theorem mvX10_pass : MV mX10_pass 1 := ⟨⟨lg_of (List.mem_of_getElem? (i := 1629) (by decide +kernel)) (by decide +kernel), ⟨by decide, by decide, by decide +kernel⟩, rfl, lg_of (List.mem_of_getElem? (i := 102) (by decide +kernel)) (by decide +kernel)⟩, rfl, lg_of (List.mem_of_getElem? (i := 1627) (by decide +kernel)) (by decide +kernel), lg_of (List.mem_of_getElem? (i := 1628) (by decide +kernel)) (by decide +kernel)⟩
theorem mvX10_undo : MV mX10_undo 0 := ⟨⟨lg_of (List.mem_of_getElem? (i := 1633) (by decide +kernel)) (by decide +kernel), ⟨by decide, by decide, by decide +kernel⟩, rfl, lg_of (List.mem_of_getElem? (i := 102) (by decide +kernel)) (by decide +kernel)⟩, rfl, lg_of (List.mem_of_getElem? (i := 1631) (by decide +kernel)) (by decide +kernel), lg_of (List.mem_of_getElem? (i := 1632) (by decide +kernel)) (by decide +kernel)⟩
theorem mvX10_checksum : MV mX10_checksum 0 := ⟨⟨lg_of (List.mem_of_getElem? (i := 1637) (by decide +kernel)) (by decide +kernel), ⟨by decide, by decide, by decide +kernel⟩, rfl, lg_of (List.mem_of_getElem? (i := 102) (by decide +kernel)) (by decide +kernel)⟩, rfl, lg_of (List.mem_of_getElem? (i := 1635) (by decide +kernel)) (by decide +kernel), lg_of (List.mem_of_getElem? (i := 1636) (by decide +kernel)) (by decide +kernel)⟩
theorem lk_L_69 : LK RL 69 mX9_init := lg_of (List.mem_of_getElem? (i := 118) (by decide +kernel)) (by decide +kernel)
theorem lk_X9_22 : LK RX9 22 mX1_init := lg_of (List.mem_of_getElem? (i := 126) (by decide +kernel)) (by decide +kernel)
theorem lk_X1_21 : LK RX1 21 mX2_init := lg_of (List.mem_of_getElem? (i := 133) (by decide +kernel)) (by decide +kernel)
theorem fl_X2_7 : FL RX2 7 2 0 := ⟨by decide, by decide, lg_of (List.mem_of_getElem? (i := 137) (by decide +kernel)) (by decide +kernel)⟩
theorem fl_X1_133 : FL RX1 133 2 0 := ⟨by decide, by decide, lg_of (List.mem_of_getElem? (i := 138) (by decide +kernel)) (by decide +kernel)⟩
theorem fl_X2_13 : FL RX2 13 2 1 := ⟨by decide, by decide, lg_of (List.mem_of_getElem? (i := 139) (by decide +kernel)) (by decide +kernel)⟩
theorem fl_X1_134 : FL RX1 134 2 1 := ⟨by decide, by decide, lg_of (List.mem_of_getElem? (i := 140) (by decide +kernel)) (by decide +kernel)⟩
theorem fl_X2_17 : FL RX2 17 2 2 := ⟨by decide, by decide, lg_of (List.mem_of_getElem? (i := 141) (by decide +kernel)) (by decide +kernel)⟩
theorem fl_X9_136 : FL RX9 136 2 2 := ⟨by decide, by decide, lg_of (List.mem_of_getElem? (i := 142) (by decide +kernel)) (by decide +kernel)⟩
theorem fl_X1_290 : FL RX1 290 2 2 := ⟨by decide, by decide, lg_of (List.mem_of_getElem? (i := 143) (by decide +kernel)) (by decide +kernel)⟩
theorem fl_X2_20 : FL RX2 20 2 3 := ⟨by decide, by decide, lg_of (List.mem_of_getElem? (i := 144) (by decide +kernel)) (by decide +kernel)⟩
theorem fl_X9_141 : FL RX9 141 2 3 := ⟨by decide, by decide, lg_of (List.mem_of_getElem? (i := 145) (by decide +kernel)) (by decide +kernel)⟩
theorem fl_X1_296 : FL RX1 296 2 3 := ⟨by decide, by decide, lg_of (List.mem_of_getElem? (i := 146) (by decide +kernel)) (by decide +kernel)⟩
theorem fl_X2_23 : FL RX2 23 2 4 := ⟨by decide, by decide, lg_of (List.mem_of_getElem? (i := 147) (by decide +kernel)) (by decide +kernel)⟩
theorem fl_X9_147 : FL RX9 147 2 4 := ⟨by decide, by decide, lg_of (List.mem_of_getElem? (i := 148) (by decide +kernel)) (by decide +kernel)⟩
theorem fl_X1_190 : FL RX1 190 2 4 := ⟨by decide, by decide, lg_of (List.mem_of_getElem? (i := 149) (by decide +kernel)) (by decide +kernel)⟩
theorem fl_X2_26 : FL RX2 26 2 5 := ⟨by decide, by decide, lg_of (List.mem_of_getElem? (i := 150) (by decide +kernel)) (by decide +kernel)⟩
theorem fl_X9_150 : FL RX9 150 2 5 := ⟨by decide, by decide, lg_of (List.mem_of_getElem? (i := 151) (by decide +kernel)) (by decide +kernel)⟩
theorem fl_X1_284 : FL RX1 284 2 5 := ⟨by decide, by decide, lg_of (List.mem_of_getElem? (i := 152) (by decide +kernel)) (by decide +kernel)⟩
theorem fl_X2_29 : FL RX2 29 2 6 := ⟨by decide, by decide, lg_of (List.mem_of_getElem? (i := 153) (by decide +kernel)) (by decide +kernel)⟩
theorem fl_X9_153 : FL RX9 153 2 6 := ⟨by decide, by decide, lg_of (List.mem_of_getElem? (i := 154) (by decide +kernel)) (by decide +kernel)⟩
theorem fl_X1_287 : FL RX1 287 2 6 := ⟨by decide, by decide, lg_of (List.mem_of_getElem? (i := 155) (by decide +kernel)) (by decide +kernel)⟩
theorem fl_X2_32 : FL RX2 32 2 7 := ⟨by decide, by decide, lg_of (List.mem_of_getElem? (i := 156) (by decide +kernel)) (by decide +kernel)⟩
theorem fl_X9_156 : FL RX9 156 2 7 := ⟨by decide, by decide, lg_of (List.mem_of_getElem? (i := 157) (by decide +kernel)) (by decide +kernel)⟩
theorem fl_X1_323 : FL RX1 323 2 7 := ⟨by decide, by decide, lg_of (List.mem_of_getElem? (i := 158) (by decide +kernel)) (by decide +kernel)⟩
theorem lk_X1_30 : LK RX1 30 mX6_init := lg_of (List.mem_of_getElem? (i := 181) (by decide +kernel)) (by decide +kernel)
theorem fl_X6_9 : FL RX6 9 6 0 := ⟨by decide, by decide, lg_of (List.mem_of_getElem? (i := 185) (by decide +kernel)) (by decide +kernel)⟩
theorem fl_X1_138 : FL RX1 138 6 0 := ⟨by decide, by decide, lg_of (List.mem_of_getElem? (i := 186) (by decide +kernel)) (by decide +kernel)⟩
theorem fl_X6_19 : FL RX6 19 6 1 := ⟨by decide, by decide, lg_of (List.mem_of_getElem? (i := 187) (by decide +kernel)) (by decide +kernel)⟩
theorem fl_X1_139 : FL RX1 139 6 1 := ⟨by decide, by decide, lg_of (List.mem_of_getElem? (i := 188) (by decide +kernel)) (by decide +kernel)⟩
theorem fl_X6_22 : FL RX6 22 6 2 := ⟨by decide, by decide, lg_of (List.mem_of_getElem? (i := 189) (by decide +kernel)) (by decide +kernel)⟩
theorem fl_X1_150 : FL RX1 150 6 2 := ⟨by decide, by decide, lg_of (List.mem_of_getElem? (i := 190) (by decide +kernel)) (by decide +kernel)⟩
theorem fl_X6_25 : FL RX6 25 6 3 := ⟨by decide, by decide, lg_of (List.mem_of_getElem? (i := 191) (by decide +kernel)) (by decide +kernel)⟩
theorem fl_X1_277 : FL RX1 277 6 3 := ⟨by decide, by decide, lg_of (List.mem_of_getElem? (i := 192) (by decide +kernel)) (by decide +kernel)⟩
theorem fl_X6_15 : FL RX6 15 6 4 := ⟨by decide, by decide, lg_of (List.mem_of_getElem? (i := 193) (by decide +kernel)) (by decide +kernel)⟩
theorem lk_X1_37 : LK RX1 37 mX5_init := lg_of (List.mem_of_getElem? (i := 208) (by decide +kernel)) (by decide +kernel)
theorem fl_X5_7 : FL RX5 7 5 0 := ⟨by decide, by decide, lg_of (List.mem_of_getElem? (i := 212) (by decide +kernel)) (by decide +kernel)⟩
theorem fl_X1_196 : FL RX1 196 5 0 := ⟨by decide, by decide, lg_of (List.mem_of_getElem? (i := 213) (by decide +kernel)) (by decide +kernel)⟩
theorem fl_X5_13 : FL RX5 13 5 1 := ⟨by decide, by decide, lg_of (List.mem_of_getElem? (i := 214) (by decide +kernel)) (by decide +kernel)⟩
theorem fl_X9_163 : FL RX9 163 5 1 := ⟨by decide, by decide, lg_of (List.mem_of_getElem? (i := 215) (by decide +kernel)) (by decide +kernel)⟩
theorem fl_X1_193 : FL RX1 193 5 1 := ⟨by decide, by decide, lg_of (List.mem_of_getElem? (i := 216) (by decide +kernel)) (by decide +kernel)⟩
theorem fl_X5_18 : FL RX5 18 5 2 := ⟨by decide, by decide, lg_of (List.mem_of_getElem? (i := 217) (by decide +kernel)) (by decide +kernel)⟩
theorem fl_X9_168 : FL RX9 168 5 2 := ⟨by decide, by decide, lg_of (List.mem_of_getElem? (i := 218) (by decide +kernel)) (by decide +kernel)⟩
theorem fl_X1_274 : FL RX1 274 5 2 := ⟨by decide, by decide, lg_of (List.mem_of_getElem? (i := 219) (by decide +kernel)) (by decide +kernel)⟩
theorem fl_X5_21 : FL RX5 21 5 3 := ⟨by decide, by decide, lg_of (List.mem_of_getElem? (i := 220) (by decide +kernel)) (by decide +kernel)⟩
theorem fl_X9_176 : FL RX9 176 5 3 := ⟨by decide, by decide, lg_of (List.mem_of_getElem? (i := 221) (by decide +kernel)) (by decide +kernel)⟩
theorem fl_X1_311 : FL RX1 311 5 3 := ⟨by decide, by decide, lg_of (List.mem_of_getElem? (i := 222) (by decide +kernel)) (by decide +kernel)⟩
theorem lk_X1_44 : LK RX1 44 mX4_init := lg_of (List.mem_of_getElem? (i := 235) (by decide +kernel)) (by decide +kernel)
theorem fl_X4_7 : FL RX4 7 4 0 := ⟨by decide, by decide, lg_of (List.mem_of_getElem? (i := 239) (by decide +kernel)) (by decide +kernel)⟩
theorem fl_X1_317 : FL RX1 317 4 0 := ⟨by decide, by decide, lg_of (List.mem_of_getElem? (i := 240) (by decide +kernel)) (by decide +kernel)⟩
theorem fl_X4_13 : FL RX4 13 4 1 := ⟨by decide, by decide, lg_of (List.mem_of_getElem? (i := 241) (by decide +kernel)) (by decide +kernel)⟩
theorem fl_X9_183 : FL RX9 183 4 1 := ⟨by decide, by decide, lg_of (List.mem_of_getElem? (i := 242) (by decide +kernel)) (by decide +kernel)⟩
theorem fl_X1_203 : FL RX1 203 4 1 := ⟨by decide, by decide, lg_of (List.mem_of_getElem? (i := 243) (by decide +kernel)) (by decide +kernel)⟩
theorem fl_X4_16 : FL RX4 16 4 2 := ⟨by decide, by decide, lg_of (List.mem_of_getElem? (i := 244) (by decide +kernel)) (by decide +kernel)⟩
theorem fl_X9_186 : FL RX9 186 4 2 := ⟨by decide, by decide, lg_of (List.mem_of_getElem? (i := 245) (by decide +kernel)) (by decide +kernel)⟩
theorem fl_X1_252 : FL RX1 252 4 2 := ⟨by decide, by decide, lg_of (List.mem_of_getElem? (i := 246) (by decide +kernel)) (by decide +kernel)⟩
theorem lk_X1_51 : LK RX1 51 mX0_init := lg_of (List.mem_of_getElem? (i := 257) (by decide +kernel)) (by decide +kernel)
theorem fl_X0_9 : FL RX0 9 0 0 := ⟨by decide, by decide, lg_of (List.mem_of_getElem? (i := 261) (by decide +kernel)) (by decide +kernel)⟩
theorem fl_X1_130 : FL RX1 130 0 0 := ⟨by decide, by decide, lg_of (List.mem_of_getElem? (i := 262) (by decide +kernel)) (by decide +kernel)⟩
theorem fl_X9_252 : FL RX9 252 0 0 := ⟨by decide, by decide, lg_of (List.mem_of_getElem? (i := 263) (by decide +kernel)) (by decide +kernel)⟩
theorem fl_X0_15 : FL RX0 15 0 1 := ⟨by decide, by decide, lg_of (List.mem_of_getElem? (i := 264) (by decide +kernel)) (by decide +kernel)⟩
theorem fl_X1_102 : FL RX1 102 0 1 := ⟨by decide, by decide, lg_of (List.mem_of_getElem? (i := 265) (by decide +kernel)) (by decide +kernel)⟩
theorem fl_X9_205 : FL RX9 205 0 1 := ⟨by decide, by decide, lg_of (List.mem_of_getElem? (i := 266) (by decide +kernel)) (by decide +kernel)⟩
theorem fl_X0_18 : FL RX0 18 0 2 := ⟨by decide, by decide, lg_of (List.mem_of_getElem? (i := 267) (by decide +kernel)) (by decide +kernel)⟩
theorem fl_X9_193 : FL RX9 193 0 2 := ⟨by decide, by decide, lg_of (List.mem_of_getElem? (i := 268) (by decide +kernel)) (by decide +kernel)⟩
theorem fl_X1_169 : FL RX1 169 0 2 := ⟨by decide, by decide, lg_of (List.mem_of_getElem? (i := 269) (by decide +kernel)) (by decide +kernel)⟩
theorem fl_X0_21 : FL RX0 21 0 3 := ⟨by decide, by decide, lg_of (List.mem_of_getElem? (i := 270) (by decide +kernel)) (by decide +kernel)⟩
theorem fl_X9_198 : FL RX9 198 0 3 := ⟨by decide, by decide, lg_of (List.mem_of_getElem? (i := 271) (by decide +kernel)) (by decide +kernel)⟩
theorem fl_X1_303 : FL RX1 303 0 3 := ⟨by decide, by decide, lg_of (List.mem_of_getElem? (i := 272) (by decide +kernel)) (by decide +kernel)⟩
theorem fl_X0_24 : FL RX0 24 0 4 := ⟨by decide, by decide, lg_of (List.mem_of_getElem? (i := 273) (by decide +kernel)) (by decide +kernel)⟩
theorem fl_X9_199 : FL RX9 199 0 4 := ⟨by decide, by decide, lg_of (List.mem_of_getElem? (i := 274) (by decide +kernel)) (by decide +kernel)⟩
theorem fl_X0_27 : FL RX0 27 0 5 := ⟨by decide, by decide, lg_of (List.mem_of_getElem? (i := 275) (by decide +kernel)) (by decide +kernel)⟩
theorem fl_X9_202 : FL RX9 202 0 5 := ⟨by decide, by decide, lg_of (List.mem_of_getElem? (i := 276) (by decide +kernel)) (by decide +kernel)⟩
theorem fl_X1_238 : FL RX1 238 0 5 := ⟨by decide, by decide, lg_of (List.mem_of_getElem? (i := 277) (by decide +kernel)) (by decide +kernel)⟩
theorem fl_X0_30 : FL RX0 30 0 6 := ⟨by decide, by decide, lg_of (List.mem_of_getElem? (i := 278) (by decide +kernel)) (by decide +kernel)⟩
theorem fl_X1_184 : FL RX1 184 0 6 := ⟨by decide, by decide, lg_of (List.mem_of_getElem? (i := 279) (by decide +kernel)) (by decide +kernel)⟩
theorem fl_X0_34 : FL RX0 34 0 7 := ⟨by decide, by decide, lg_of (List.mem_of_getElem? (i := 280) (by decide +kernel)) (by decide +kernel)⟩
theorem fl_X1_197 : FL RX1 197 0 7 := ⟨by decide, by decide, lg_of (List.mem_of_getElem? (i := 281) (by decide +kernel)) (by decide +kernel)⟩
theorem fl_X0_37 : FL RX0 37 0 8 := ⟨by decide, by decide, lg_of (List.mem_of_getElem? (i := 282) (by decide +kernel)) (by decide +kernel)⟩
theorem fl_X9_208 : FL RX9 208 0 8 := ⟨by decide, by decide, lg_of (List.mem_of_getElem? (i := 283) (by decide +kernel)) (by decide +kernel)⟩
theorem fl_X1_172 : FL RX1 172 0 8 := ⟨by decide, by decide, lg_of (List.mem_of_getElem? (i := 284) (by decide +kernel)) (by decide +kernel)⟩
theorem fl_X0_40 : FL RX0 40 0 9 := ⟨by decide, by decide, lg_of (List.mem_of_getElem? (i := 285) (by decide +kernel)) (by decide +kernel)⟩
theorem fl_X9_211 : FL RX9 211 0 9 := ⟨by decide, by decide, lg_of (List.mem_of_getElem? (i := 286) (by decide +kernel)) (by decide +kernel)⟩
theorem fl_X1_187 : FL RX1 187 0 9 := ⟨by decide, by decide, lg_of (List.mem_of_getElem? (i := 287) (by decide +kernel)) (by decide +kernel)⟩
theorem fl_X0_43 : FL RX0 43 0 10 := ⟨by decide, by decide, lg_of (List.mem_of_getElem? (i := 288) (by decide +kernel)) (by decide +kernel)⟩
theorem fl_X9_214 : FL RX9 214 0 10 := ⟨by decide, by decide, lg_of (List.mem_of_getElem? (i := 289) (by decide +kernel)) (by decide +kernel)⟩
theorem fl_X0_46 : FL RX0 46 0 11 := ⟨by decide, by decide, lg_of (List.mem_of_getElem? (i := 290) (by decide +kernel)) (by decide +kernel)⟩
theorem fl_X9_217 : FL RX9 217 0 11 := ⟨by decide, by decide, lg_of (List.mem_of_getElem? (i := 291) (by decide +kernel)) (by decide +kernel)⟩
theorem fl_X0_49 : FL RX0 49 0 12 := ⟨by decide, by decide, lg_of (List.mem_of_getElem? (i := 292) (by decide +kernel)) (by decide +kernel)⟩
theorem fl_X9_220 : FL RX9 220 0 12 := ⟨by decide, by decide, lg_of (List.mem_of_getElem? (i := 293) (by decide +kernel)) (by decide +kernel)⟩
theorem fl_X1_245 : FL RX1 245 0 12 := ⟨by decide, by decide, lg_of (List.mem_of_getElem? (i := 294) (by decide +kernel)) (by decide +kernel)⟩
theorem lk_X1_52 : LK RX1 52 mX1_clear := lg_of (List.mem_of_getElem? (i := 322) (by decide +kernel)) (by decide +kernel)
theorem lk_X1_96 : LK RX1 96 mX5_serve := lg_of (List.mem_of_getElem? (i := 326) (by decide +kernel)) (by decide +kernel)
theorem lk_X1_99 : LK RX1 99 mX4_serve := lg_of (List.mem_of_getElem? (i := 330) (by decide +kernel)) (by decide +kernel)
theorem fl_X1_55 : FL RX1 55 1 0 := ⟨by decide, by decide, lg_of (List.mem_of_getElem? (i := 334) (by decide +kernel)) (by decide +kernel)⟩
theorem fl_X9_73 : FL RX9 73 1 0 := ⟨by decide, by decide, lg_of (List.mem_of_getElem? (i := 335) (by decide +kernel)) (by decide +kernel)⟩
theorem fl_X1_59 : FL RX1 59 1 1 := ⟨by decide, by decide, lg_of (List.mem_of_getElem? (i := 336) (by decide +kernel)) (by decide +kernel)⟩
theorem fl_X9_76 : FL RX9 76 1 1 := ⟨by decide, by decide, lg_of (List.mem_of_getElem? (i := 337) (by decide +kernel)) (by decide +kernel)⟩
theorem fl_X1_62 : FL RX1 62 1 2 := ⟨by decide, by decide, lg_of (List.mem_of_getElem? (i := 338) (by decide +kernel)) (by decide +kernel)⟩
theorem fl_X8_105 : FL RX8 105 1 2 := ⟨by decide, by decide, lg_of (List.mem_of_getElem? (i := 339) (by decide +kernel)) (by decide +kernel)⟩
theorem fl_X9_79 : FL RX9 79 1 2 := ⟨by decide, by decide, lg_of (List.mem_of_getElem? (i := 340) (by decide +kernel)) (by decide +kernel)⟩
theorem fl_X1_65 : FL RX1 65 1 3 := ⟨by decide, by decide, lg_of (List.mem_of_getElem? (i := 341) (by decide +kernel)) (by decide +kernel)⟩
theorem fl_X9_82 : FL RX9 82 1 3 := ⟨by decide, by decide, lg_of (List.mem_of_getElem? (i := 342) (by decide +kernel)) (by decide +kernel)⟩
theorem fl_X8_122 : FL RX8 122 1 3 := ⟨by decide, by decide, lg_of (List.mem_of_getElem? (i := 343) (by decide +kernel)) (by decide +kernel)⟩
theorem fl_X1_68 : FL RX1 68 1 4 := ⟨by decide, by decide, lg_of (List.mem_of_getElem? (i := 344) (by decide +kernel)) (by decide +kernel)⟩
theorem fl_X9_85 : FL RX9 85 1 4 := ⟨by decide, by decide, lg_of (List.mem_of_getElem? (i := 345) (by decide +kernel)) (by decide +kernel)⟩
theorem fl_X8_140 : FL RX8 140 1 4 := ⟨by decide, by decide, lg_of (List.mem_of_getElem? (i := 346) (by decide +kernel)) (by decide +kernel)⟩
theorem fl_X1_71 : FL RX1 71 1 5 := ⟨by decide, by decide, lg_of (List.mem_of_getElem? (i := 347) (by decide +kernel)) (by decide +kernel)⟩
theorem fl_X9_66 : FL RX9 66 1 5 := ⟨by decide, by decide, lg_of (List.mem_of_getElem? (i := 348) (by decide +kernel)) (by decide +kernel)⟩
theorem fl_X8_167 : FL RX8 167 1 5 := ⟨by decide, by decide, lg_of (List.mem_of_getElem? (i := 349) (by decide +kernel)) (by decide +kernel)⟩
theorem fl_X1_74 : FL RX1 74 1 6 := ⟨by decide, by decide, lg_of (List.mem_of_getElem? (i := 350) (by decide +kernel)) (by decide +kernel)⟩
theorem fl_X9_88 : FL RX9 88 1 6 := ⟨by decide, by decide, lg_of (List.mem_of_getElem? (i := 351) (by decide +kernel)) (by decide +kernel)⟩
theorem fl_X1_77 : FL RX1 77 1 7 := ⟨by decide, by decide, lg_of (List.mem_of_getElem? (i := 352) (by decide +kernel)) (by decide +kernel)⟩
theorem fl_X9_91 : FL RX9 91 1 7 := ⟨by decide, by decide, lg_of (List.mem_of_getElem? (i := 353) (by decide +kernel)) (by decide +kernel)⟩
theorem fl_X1_80 : FL RX1 80 1 8 := ⟨by decide, by decide, lg_of (List.mem_of_getElem? (i := 354) (by decide +kernel)) (by decide +kernel)⟩
theorem fl_X9_94 : FL RX9 94 1 8 := ⟨by decide, by decide, lg_of (List.mem_of_getElem? (i := 355) (by decide +kernel)) (by decide +kernel)⟩
theorem fl_X1_83 : FL RX1 83 1 9 := ⟨by decide, by decide, lg_of (List.mem_of_getElem? (i := 356) (by decide +kernel)) (by decide +kernel)⟩
theorem fl_X9_97 : FL RX9 97 1 9 := ⟨by decide, by decide, lg_of (List.mem_of_getElem? (i := 357) (by decide +kernel)) (by decide +kernel)⟩
theorem fl_X1_86 : FL RX1 86 1 10 := ⟨by decide, by decide, lg_of (List.mem_of_getElem? (i := 358) (by decide +kernel)) (by decide +kernel)⟩
theorem fl_X9_107 : FL RX9 107 1 10 := ⟨by decide, by decide, lg_of (List.mem_of_getElem? (i := 359) (by decide +kernel)) (by decide +kernel)⟩
theorem fl_X1_89 : FL RX1 89 1 11 := ⟨by decide, by decide, lg_of (List.mem_of_getElem? (i := 360) (by decide +kernel)) (by decide +kernel)⟩
theorem fl_X1_92 : FL RX1 92 1 12 := ⟨by decide, by decide, lg_of (List.mem_of_getElem? (i := 361) (by decide +kernel)) (by decide +kernel)⟩
theorem fl_X9_265 : FL RX9 265 1 12 := ⟨by decide, by decide, lg_of (List.mem_of_getElem? (i := 362) (by decide +kernel)) (by decide +kernel)⟩
theorem fl_X1_9 : FL RX1 9 1 13 := ⟨by decide, by decide, lg_of (List.mem_of_getElem? (i := 363) (by decide +kernel)) (by decide +kernel)⟩
theorem fl_X1_17 : FL RX1 17 1 14 := ⟨by decide, by decide, lg_of (List.mem_of_getElem? (i := 364) (by decide +kernel)) (by decide +kernel)⟩
theorem fl_X1_26 : FL RX1 26 1 15 := ⟨by decide, by decide, lg_of (List.mem_of_getElem? (i := 365) (by decide +kernel)) (by decide +kernel)⟩
theorem fl_X1_33 : FL RX1 33 1 16 := ⟨by decide, by decide, lg_of (List.mem_of_getElem? (i := 366) (by decide +kernel)) (by decide +kernel)⟩
theorem fl_X1_40 : FL RX1 40 1 17 := ⟨by decide, by decide, lg_of (List.mem_of_getElem? (i := 367) (by decide +kernel)) (by decide +kernel)⟩
theorem fl_X1_47 : FL RX1 47 1 18 := ⟨by decide, by decide, lg_of (List.mem_of_getElem? (i := 368) (by decide +kernel)) (by decide +kernel)⟩
theorem lk_X9_32 : LK RX9 32 mX3_init := lg_of (List.mem_of_getElem? (i := 410) (by decide +kernel)) (by decide +kernel)
theorem lk_X3_17 : LK RX3 17 mX1_init := lg_of (List.mem_of_getElem? (i := 416) (by decide +kernel)) (by decide +kernel)
theorem fl_X3_11 : FL RX3 11 3 0 := ⟨by decide, by decide, lg_of (List.mem_of_getElem? (i := 417) (by decide +kernel)) (by decide +kernel)⟩
theorem fl_X3_18 : FL RX3 18 3 1 := ⟨by decide, by decide, lg_of (List.mem_of_getElem? (i := 418) (by decide +kernel)) (by decide +kernel)⟩
theorem fl_X3_22 : FL RX3 22 3 2 := ⟨by decide, by decide, lg_of (List.mem_of_getElem? (i := 419) (by decide +kernel)) (by decide +kernel)⟩
theorem lk_X9_39 : LK RX9 39 mX8_init := lg_of (List.mem_of_getElem? (i := 429) (by decide +kernel)) (by decide +kernel)
theorem lk_X8_11 : LK RX8 11 mX1_init := lg_of (List.mem_of_getElem? (i := 434) (by decide +kernel)) (by decide +kernel)
theorem fl_X8_12 : FL RX8 12 7 0 := ⟨by decide, by decide, lg_of (List.mem_of_getElem? (i := 435) (by decide +kernel)) (by decide +kernel)⟩
theorem fl_X9_60 : FL RX9 60 7 0 := ⟨by decide, by decide, lg_of (List.mem_of_getElem? (i := 436) (by decide +kernel)) (by decide +kernel)⟩
theorem fl_X8_32 : FL RX8 32 7 1 := ⟨by decide, by decide, lg_of (List.mem_of_getElem? (i := 437) (by decide +kernel)) (by decide +kernel)⟩
theorem fl_X9_55 : FL RX9 55 7 1 := ⟨by decide, by decide, lg_of (List.mem_of_getElem? (i := 438) (by decide +kernel)) (by decide +kernel)⟩
theorem fl_X8_29 : FL RX8 29 7 2 := ⟨by decide, by decide, lg_of (List.mem_of_getElem? (i := 439) (by decide +kernel)) (by decide +kernel)⟩
theorem fl_X8_18 : FL RX8 18 7 3 := ⟨by decide, by decide, lg_of (List.mem_of_getElem? (i := 440) (by decide +kernel)) (by decide +kernel)⟩
theorem fl_X8_22 : FL RX8 22 7 4 := ⟨by decide, by decide, lg_of (List.mem_of_getElem? (i := 441) (by decide +kernel)) (by decide +kernel)⟩
theorem fl_X8_26 : FL RX8 26 7 5 := ⟨by decide, by decide, lg_of (List.mem_of_getElem? (i := 442) (by decide +kernel)) (by decide +kernel)⟩
theorem fl_X8_35 : FL RX8 35 7 6 := ⟨by decide, by decide, lg_of (List.mem_of_getElem? (i := 443) (by decide +kernel)) (by decide +kernel)⟩
theorem fl_X8_39 : FL RX8 39 7 7 := ⟨by decide, by decide, lg_of (List.mem_of_getElem? (i := 444) (by decide +kernel)) (by decide +kernel)⟩
theorem fl_X8_42 : FL RX8 42 7 8 := ⟨by decide, by decide, lg_of (List.mem_of_getElem? (i := 445) (by decide +kernel)) (by decide +kernel)⟩
theorem fl_X8_52 : FL RX8 52 7 9 := ⟨by decide, by decide, lg_of (List.mem_of_getElem? (i := 446) (by decide +kernel)) (by decide +kernel)⟩
theorem fl_X8_190 : FL RX8 190 7 10 := ⟨by decide, by decide, lg_of (List.mem_of_getElem? (i := 447) (by decide +kernel)) (by decide +kernel)⟩
theorem fl_X8_187 : FL RX8 187 7 11 := ⟨by decide, by decide, lg_of (List.mem_of_getElem? (i := 448) (by decide +kernel)) (by decide +kernel)⟩
theorem fl_X8_75 : FL RX8 75 7 12 := ⟨by decide, by decide, lg_of (List.mem_of_getElem? (i := 449) (by decide +kernel)) (by decide +kernel)⟩
theorem fl_X8_111 : FL RX8 111 7 13 := ⟨by decide, by decide, lg_of (List.mem_of_getElem? (i := 450) (by decide +kernel)) (by decide +kernel)⟩
theorem fl_X8_128 : FL RX8 128 7 14 := ⟨by decide, by decide, lg_of (List.mem_of_getElem? (i := 451) (by decide +kernel)) (by decide +kernel)⟩
theorem fl_X9_9 : FL RX9 9 8 0 := ⟨by decide, by decide, lg_of (List.mem_of_getElem? (i := 483) (by decide +kernel)) (by decide +kernel)⟩
theorem fl_X9_13 : FL RX9 13 8 1 := ⟨by decide, by decide, lg_of (List.mem_of_getElem? (i := 484) (by decide +kernel)) (by decide +kernel)⟩
theorem fl_X9_17 : FL RX9 17 8 2 := ⟨by decide, by decide, lg_of (List.mem_of_getElem? (i := 485) (by decide +kernel)) (by decide +kernel)⟩
theorem fl_X9_23 : FL RX9 23 8 3 := ⟨by decide, by decide, lg_of (List.mem_of_getElem? (i := 486) (by decide +kernel)) (by decide +kernel)⟩
theorem fl_X9_27 : FL RX9 27 8 4 := ⟨by decide, by decide, lg_of (List.mem_of_getElem? (i := 487) (by decide +kernel)) (by decide +kernel)⟩
theorem fl_X9_33 : FL RX9 33 8 5 := ⟨by decide, by decide, lg_of (List.mem_of_getElem? (i := 488) (by decide +kernel)) (by decide +kernel)⟩
theorem fl_X9_40 : FL RX9 40 8 6 := ⟨by decide, by decide, lg_of (List.mem_of_getElem? (i := 489) (by decide +kernel)) (by decide +kernel)⟩
theorem lk_L_73 : LK RL 73 mX9_append := lg_of (List.mem_of_getElem? (i := 505) (by decide +kernel)) (by decide +kernel)
theorem lk_X9_44 : LK RX9 44 mX9_putWord := lg_of (List.mem_of_getElem? (i := 509) (by decide +kernel)) (by decide +kernel)
theorem lk_L_88 : LK RL 88 mX9_errorOffset := lg_of (List.mem_of_getElem? (i := 513) (by decide +kernel)) (by decide +kernel)
theorem lk_L_117 : LK RL 117 mX9_foremost := lg_of (List.mem_of_getElem? (i := 517) (by decide +kernel)) (by decide +kernel)
theorem lk_X9_249 : LK RX9 249 mX1_firstWaiting := lg_of (List.mem_of_getElem? (i := 521) (by decide +kernel)) (by decide +kernel)
theorem lk_L_128 : LK RL 128 mX9_bestGuard := lg_of (List.mem_of_getElem? (i := 525) (by decide +kernel)) (by decide +kernel)
theorem lk_X9_63 : LK RX9 63 mX1_copyFrom := lg_of (List.mem_of_getElem? (i := 529) (by decide +kernel)) (by decide +kernel)
theorem lk_X1_105 : LK RX1 105 mX2_copyFrom := lg_of (List.mem_of_getElem? (i := 533) (by decide +kernel)) (by decide +kernel)
theorem lk_X1_109 : LK RX1 109 mX6_copyFrom := lg_of (List.mem_of_getElem? (i := 537) (by decide +kernel)) (by decide +kernel)
theorem lk_X6_32 : LK RX6 32 mX6_tell := lg_of (List.mem_of_getElem? (i := 541) (by decide +kernel)) (by decide +kernel)
theorem lk_X6_28 : LK RX6 28 mX6_choiceAt := lg_of (List.mem_of_getElem? (i := 545) (by decide +kernel)) (by decide +kernel)
theorem lk_X6_36 : LK RX6 36 mX6_addChoice := lg_of (List.mem_of_getElem? (i := 549) (by decide +kernel)) (by decide +kernel)
theorem lk_X1_112 : LK RX1 112 mX5_copyFrom := lg_of (List.mem_of_getElem? (i := 553) (by decide +kernel)) (by decide +kernel)
theorem lk_X1_115 : LK RX1 115 mX4_copyFrom := lg_of (List.mem_of_getElem? (i := 557) (by decide +kernel)) (by decide +kernel)
theorem lk_X1_118 : LK RX1 118 mX0_copyFrom := lg_of (List.mem_of_getElem? (i := 561) (by decide +kernel)) (by decide +kernel)
theorem lk_X9_262 : LK RX9 262 mX1_settle := lg_of (List.mem_of_getElem? (i := 565) (by decide +kernel)) (by decide +kernel)
theorem lk_X1_228 : LK RX1 228 mX1_hasOpenCall := lg_of (List.mem_of_getElem? (i := 569) (by decide +kernel)) (by decide +kernel)
theorem lk_X1_232 : LK RX1 232 mX1_tick := lg_of (List.mem_of_getElem? (i := 573) (by decide +kernel)) (by decide +kernel)
theorem lk_X1_207 : LK RX1 207 mX1_letCallsCome := lg_of (List.mem_of_getElem? (i := 577) (by decide +kernel)) (by decide +kernel)
theorem lk_X1_235 : LK RX1 235 mX1_countIn := lg_of (List.mem_of_getElem? (i := 581) (by decide +kernel)) (by decide +kernel)
theorem lk_X1_181 : LK RX1 181 mX1_isBusy := lg_of (List.mem_of_getElem? (i := 585) (by decide +kernel)) (by decide +kernel)
theorem lk_X1_175 : LK RX1 175 mX1_callFrom := lg_of (List.mem_of_getElem? (i := 589) (by decide +kernel)) (by decide +kernel)
theorem lk_X1_178 : LK RX1 178 mX1_callTo := lg_of (List.mem_of_getElem? (i := 593) (by decide +kernel)) (by decide +kernel)
theorem lk_X1_204 : LK RX1 204 mX0_end := lg_of (List.mem_of_getElem? (i := 597) (by decide +kernel)) (by decide +kernel)
theorem lk_X1_241 : LK RX1 241 mX1_queueUp := lg_of (List.mem_of_getElem? (i := 601) (by decide +kernel)) (by decide +kernel)
theorem lk_X1_210 : LK RX1 210 mX1_letCallsTalk := lg_of (List.mem_of_getElem? (i := 605) (by decide +kernel)) (by decide +kernel)
theorem lk_X1_213 : LK RX1 213 mX1_letMarkersWork := lg_of (List.mem_of_getElem? (i := 609) (by decide +kernel)) (by decide +kernel)
theorem lk_X1_248 : LK RX1 248 mX1_callAt := lg_of (List.mem_of_getElem? (i := 613) (by decide +kernel)) (by decide +kernel)
theorem lk_X1_253 : LK RX1 253 mX1_findWay := lg_of (List.mem_of_getElem? (i := 617) (by decide +kernel)) (by decide +kernel)
theorem lk_X1_256 : LK RX1 256 mX1_dialledBy := lg_of (List.mem_of_getElem? (i := 621) (by decide +kernel)) (by decide +kernel)
theorem lk_X1_267 : LK RX1 267 mX1_registerOf := lg_of (List.mem_of_getElem? (i := 625) (by decide +kernel)) (by decide +kernel)
theorem lk_X1_270 : LK RX1 270 mX1_registerAt := lg_of (List.mem_of_getElem? (i := 629) (by decide +kernel)) (by decide +kernel)
theorem lk_X1_200 : LK RX1 200 mX1_freeRegisterOf := lg_of (List.mem_of_getElem? (i := 633) (by decide +kernel)) (by decide +kernel)
theorem lk_X1_146 : LK RX1 146 mX1_lineWith := lg_of (List.mem_of_getElem? (i := 637) (by decide +kernel)) (by decide +kernel)
theorem lk_X1_142 : LK RX1 142 mX1_routeFor := lg_of (List.mem_of_getElem? (i := 641) (by decide +kernel)) (by decide +kernel)
theorem lk_X1_260 : LK RX1 260 mX0_beginToTalk := lg_of (List.mem_of_getElem? (i := 645) (by decide +kernel)) (by decide +kernel)
theorem lk_X1_162 : LK RX1 162 mX1_freeChoice := lg_of (List.mem_of_getElem? (i := 649) (by decide +kernel)) (by decide +kernel)
theorem lk_X1_166 : LK RX1 166 mX6_choiceAt := lg_of (List.mem_of_getElem? (i := 653) (by decide +kernel)) (by decide +kernel)
theorem lk_X1_280 : LK RX1 280 mX1_groupAt := lg_of (List.mem_of_getElem? (i := 654) (by decide +kernel)) (by decide +kernel)
theorem lk_X1_293 : LK RX1 293 mX1_busyTrunks := lg_of (List.mem_of_getElem? (i := 658) (by decide +kernel)) (by decide +kernel)
theorem lk_X1_263 : LK RX1 263 mX1_takeTrunk := lg_of (List.mem_of_getElem? (i := 662) (by decide +kernel)) (by decide +kernel)
theorem lk_X1_216 : LK RX1 216 mX1_letRegistersDial := lg_of (List.mem_of_getElem? (i := 666) (by decide +kernel)) (by decide +kernel)
theorem lk_X1_299 : LK RX1 299 mX1_dialOn := lg_of (List.mem_of_getElem? (i := 670) (by decide +kernel)) (by decide +kernel)
theorem lk_X1_153 : LK RX1 153 mX7_lengthOf := lg_of (List.mem_of_getElem? (i := 674) (by decide +kernel)) (by decide +kernel)
theorem lk_X1_158 : LK RX1 158 mX1_isComplete := lg_of (List.mem_of_getElem? (i := 677) (by decide +kernel)) (by decide +kernel)
theorem lk_X1_304 : LK RX1 304 mX7_digitAt := lg_of (List.mem_of_getElem? (i := 681) (by decide +kernel)) (by decide +kernel)
theorem lk_X7_7 : LK RX7 7 mX7_lengthOf := lg_of (List.mem_of_getElem? (i := 684) (by decide +kernel)) (by decide +kernel)
theorem lk_X1_308 : LK RX1 308 mX7_with := lg_of (List.mem_of_getElem? (i := 685) (by decide +kernel)) (by decide +kernel)
theorem lk_X1_219 : LK RX1 219 mX1_giveMarkers := lg_of (List.mem_of_getElem? (i := 688) (by decide +kernel)) (by decide +kernel)
theorem lk_X1_314 : LK RX1 314 mX1_firstWaiting := lg_of (List.mem_of_getElem? (i := 692) (by decide +kernel)) (by decide +kernel)
theorem lk_X1_222 : LK RX1 222 mX1_giveRegisters := lg_of (List.mem_of_getElem? (i := 693) (by decide +kernel)) (by decide +kernel)
theorem lk_X1_225 : LK RX1 225 mX1_countTick := lg_of (List.mem_of_getElem? (i := 697) (by decide +kernel)) (by decide +kernel)
theorem lk_X1_318 : LK RX1 318 mJ9_max_7cf53 := lg_of (List.mem_of_getElem? (i := 701) (by decide +kernel)) (by decide +kernel)
theorem lk_X9_69 : LK RX9 69 mX1_countIn := lg_of (List.mem_of_getElem? (i := 704) (by decide +kernel)) (by decide +kernel)
theorem lk_L_132 : LK RL 132 mX9_service := lg_of (List.mem_of_getElem? (i := 705) (by decide +kernel)) (by decide +kernel)
theorem lk_L_154 : LK RL 154 mX9_undo := lg_of (List.mem_of_getElem? (i := 709) (by decide +kernel)) (by decide +kernel)
theorem lk_X9_286 : LK RX9 286 mX3_takeBack := lg_of (List.mem_of_getElem? (i := 713) (by decide +kernel)) (by decide +kernel)
theorem lk_X3_25 : LK RX3 25 mX1_copyFrom := lg_of (List.mem_of_getElem? (i := 717) (by decide +kernel)) (by decide +kernel)
theorem lk_L_158 : LK RL 158 mX9_checksum := lg_of (List.mem_of_getElem? (i := 718) (by decide +kernel)) (by decide +kernel)
theorem lk_X9_292 : LK RX9 292 mX9_state := lg_of (List.mem_of_getElem? (i := 723) (by decide +kernel)) (by decide +kernel)
theorem lk_X9_100 : LK RX9 100 mX1_busyLines := lg_of (List.mem_of_getElem? (i := 791) (by decide +kernel)) (by decide +kernel)
theorem lk_X9_104 : LK RX9 104 mX1_allOverflows := lg_of (List.mem_of_getElem? (i := 795) (by decide +kernel)) (by decide +kernel)
theorem lk_X9_294 : LK RX9 294 mX9_sumOfLines := lg_of (List.mem_of_getElem? (i := 799) (by decide +kernel)) (by decide +kernel)
theorem lk_X9_313 : LK RX9 313 mX9_line := lg_of (List.mem_of_getElem? (i := 803) (by decide +kernel)) (by decide +kernel)
theorem lk_X9_110 : LK RX9 110 mX1_hasLine := lg_of (List.mem_of_getElem? (i := 807) (by decide +kernel)) (by decide +kernel)
theorem lk_X9_117 : LK RX9 117 mX1_isBusy := lg_of (List.mem_of_getElem? (i := 826) (by decide +kernel)) (by decide +kernel)
theorem lk_X9_120 : LK RX9 120 mX1_callFrom := lg_of (List.mem_of_getElem? (i := 827) (by decide +kernel)) (by decide +kernel)
theorem lk_X9_123 : LK RX9 123 mX1_callTo := lg_of (List.mem_of_getElem? (i := 828) (by decide +kernel)) (by decide +kernel)
theorem lk_X9_126 : LK RX9 126 mX1_cameFrom := lg_of (List.mem_of_getElem? (i := 829) (by decide +kernel)) (by decide +kernel)
theorem lk_X9_129 : LK RX9 129 mX1_endedWellFrom := lg_of (List.mem_of_getElem? (i := 833) (by decide +kernel)) (by decide +kernel)
theorem lk_X9_298 : LK RX9 298 mX9_sumOfGroups := lg_of (List.mem_of_getElem? (i := 837) (by decide +kernel)) (by decide +kernel)
theorem lk_X9_315 : LK RX9 315 mX9_group := lg_of (List.mem_of_getElem? (i := 841) (by decide +kernel)) (by decide +kernel)
theorem lk_X9_132 : LK RX9 132 mX1_groupAt := lg_of (List.mem_of_getElem? (i := 845) (by decide +kernel)) (by decide +kernel)
theorem lk_X9_144 : LK RX9 144 mX1_busyTrunks := lg_of (List.mem_of_getElem? (i := 846) (by decide +kernel)) (by decide +kernel)
theorem lk_X9_301 : LK RX9 301 mX9_sumOfRegisters := lg_of (List.mem_of_getElem? (i := 847) (by decide +kernel)) (by decide +kernel)
theorem lk_X9_317 : LK RX9 317 mX9_register := lg_of (List.mem_of_getElem? (i := 851) (by decide +kernel)) (by decide +kernel)
theorem lk_X9_159 : LK RX9 159 mX1_registerAt := lg_of (List.mem_of_getElem? (i := 855) (by decide +kernel)) (by decide +kernel)
theorem lk_X9_171 : LK RX9 171 mX7_lengthOf := lg_of (List.mem_of_getElem? (i := 856) (by decide +kernel)) (by decide +kernel)
theorem lk_X9_304 : LK RX9 304 mX9_sumOfMarkers := lg_of (List.mem_of_getElem? (i := 857) (by decide +kernel)) (by decide +kernel)
theorem lk_X9_320 : LK RX9 320 mX9_marker := lg_of (List.mem_of_getElem? (i := 861) (by decide +kernel)) (by decide +kernel)
theorem lk_X9_179 : LK RX9 179 mX1_markerAt := lg_of (List.mem_of_getElem? (i := 865) (by decide +kernel)) (by decide +kernel)
theorem lk_X9_307 : LK RX9 307 mX9_sumOfCalls := lg_of (List.mem_of_getElem? (i := 869) (by decide +kernel)) (by decide +kernel)
theorem lk_X9_323 : LK RX9 323 mX9_call := lg_of (List.mem_of_getElem? (i := 873) (by decide +kernel)) (by decide +kernel)
theorem lk_X9_189 : LK RX9 189 mX1_callAt := lg_of (List.mem_of_getElem? (i := 877) (by decide +kernel)) (by decide +kernel)
theorem lk_X9_221 : LK RX9 221 mX1_registerOf := lg_of (List.mem_of_getElem? (i := 878) (by decide +kernel)) (by decide +kernel)
theorem lk_L_78 : LK RL 78 mL_load := lg_of (List.mem_of_getElem? (i := 879) (by decide +kernel)) (by decide +kernel)
theorem lk_L_7 : LK RL 7 mX9_load := lg_of (List.mem_of_getElem? (i := 883) (by decide +kernel)) (by decide +kernel)
theorem lk_X9_51 : LK RX9 51 mX8_readSetup := lg_of (List.mem_of_getElem? (i := 887) (by decide +kernel)) (by decide +kernel)
theorem lk_X8_45 : LK RX8 45 mX8_advance := lg_of (List.mem_of_getElem? (i := 891) (by decide +kernel)) (by decide +kernel)
theorem lk_X8_199 : LK RX8 199 mX8_signAt := lg_of (List.mem_of_getElem? (i := 895) (by decide +kernel)) (by decide +kernel)
theorem lk_X8_206 : LK RX8 206 mX8_kindOf := lg_of (List.mem_of_getElem? (i := 899) (by decide +kernel)) (by decide +kernel)
theorem lk_X8_209 : LK RX8 209 mX8_addToToken := lg_of (List.mem_of_getElem? (i := 902) (by decide +kernel)) (by decide +kernel)
theorem lk_X8_48 : LK RX8 48 mX8_readSize := lg_of (List.mem_of_getElem? (i := 907) (by decide +kernel)) (by decide +kernel)
theorem lk_X8_63 : LK RX8 63 mX8_isWord := lg_of (List.mem_of_getElem? (i := 912) (by decide +kernel)) (by decide +kernel)
theorem lk_X8_193 : LK RX8 193 mJ0_length_8abf5 := lg_of (List.mem_of_getElem? (i := 916) (by decide +kernel)) (by decide +kernel)
theorem lk_J0_335 : LK RJ0 335 mJ0_coder_7d493 := lg_of (List.mem_of_getElem? (i := 920) (by decide +kernel)) (by decide +kernel)
theorem lk_X8_202 : LK RX8 202 mJ0_charAt_5068e := lg_of (List.mem_of_getElem? (i := 926) (by decide +kernel)) (by decide +kernel)
theorem lk_J0_492 : LK RJ0 492 mJ0_isLatin1_aae02 := lg_of (List.mem_of_getElem? (i := 930) (by decide +kernel)) (by decide +kernel)
theorem lk_J0_495 : LK RJ0 495 mJ1_charAt_3b067 := lg_of (List.mem_of_getElem? (i := 934) (by decide +kernel)) (by decide +kernel)
theorem lk_J1_9 : LK RJ1 9 mJ0_checkIndex_df160 := lg_of (List.mem_of_getElem? (i := 937) (by decide +kernel)) (by decide +kernel)
theorem lk_J0_1059 : LK RJ0 1059 mJ3_checkIndex_8e157 := lg_of (List.mem_of_getElem? (i := 942) (by decide +kernel)) (by decide +kernel)
theorem lk_J0_498 : LK RJ0 498 mJ2_charAt_3b067 := lg_of (List.mem_of_getElem? (i := 945) (by decide +kernel)) (by decide +kernel)
theorem lk_J2_67 : LK RJ2 67 mJ2_checkIndex_2214a := lg_of (List.mem_of_getElem? (i := 948) (by decide +kernel)) (by decide +kernel)
theorem lk_J2_48 : LK RJ2 48 mJ2_length_9d52b := lg_of (List.mem_of_getElem? (i := 951) (by decide +kernel)) (by decide +kernel)
theorem lk_J2_414 : LK RJ2 414 mJ0_checkIndex_df160 := lg_of (List.mem_of_getElem? (i := 954) (by decide +kernel)) (by decide +kernel)
theorem lk_J2_71 : LK RJ2 71 mJ2_getChar_3b067 := lg_of (List.mem_of_getElem? (i := 955) (by decide +kernel)) (by decide +kernel)
theorem lk_X8_67 : LK RX8 67 mX8_fail := lg_of (List.mem_of_getElem? (i := 964) (by decide +kernel)) (by decide +kernel)
theorem lk_X8_71 : LK RX8 71 mX8_checkNumber := lg_of (List.mem_of_getElem? (i := 968) (by decide +kernel)) (by decide +kernel)
theorem lk_X8_78 : LK RX8 78 mX1_tellSize := lg_of (List.mem_of_getElem? (i := 972) (by decide +kernel)) (by decide +kernel)
theorem lk_X8_58 : LK RX8 58 mX8_passSemicolon := lg_of (List.mem_of_getElem? (i := 976) (by decide +kernel)) (by decide +kernel)
theorem lk_X8_55 : LK RX8 55 mX8_readStatement := lg_of (List.mem_of_getElem? (i := 980) (by decide +kernel)) (by decide +kernel)
theorem lk_X8_84 : LK RX8 84 mX8_readLine := lg_of (List.mem_of_getElem? (i := 985) (by decide +kernel)) (by decide +kernel)
theorem lk_X8_108 : LK RX8 108 mX8_checkDigits := lg_of (List.mem_of_getElem? (i := 989) (by decide +kernel)) (by decide +kernel)
theorem lk_X8_114 : LK RX8 114 mX1_lineWith := lg_of (List.mem_of_getElem? (i := 993) (by decide +kernel)) (by decide +kernel)
theorem lk_X8_118 : LK RX8 118 mX1_tellLine := lg_of (List.mem_of_getElem? (i := 994) (by decide +kernel)) (by decide +kernel)
theorem lk_X8_89 : LK RX8 89 mX8_readGroup := lg_of (List.mem_of_getElem? (i := 999) (by decide +kernel)) (by decide +kernel)
theorem lk_X8_125 : LK RX8 125 mX8_checkName := lg_of (List.mem_of_getElem? (i := 1003) (by decide +kernel)) (by decide +kernel)
theorem lk_X8_132 : LK RX8 132 mX1_groupNamed := lg_of (List.mem_of_getElem? (i := 1007) (by decide +kernel)) (by decide +kernel)
theorem lk_X8_136 : LK RX8 136 mX1_tellGroup := lg_of (List.mem_of_getElem? (i := 1011) (by decide +kernel)) (by decide +kernel)
theorem lk_X1_121 : LK RX1 121 mX2_tell := lg_of (List.mem_of_getElem? (i := 1015) (by decide +kernel)) (by decide +kernel)
theorem lk_X8_94 : LK RX8 94 mX8_readRoute := lg_of (List.mem_of_getElem? (i := 1020) (by decide +kernel)) (by decide +kernel)
theorem lk_X8_143 : LK RX8 143 mX1_hasPrefix := lg_of (List.mem_of_getElem? (i := 1024) (by decide +kernel)) (by decide +kernel)
theorem lk_X8_146 : LK RX8 146 mX7_lengthOf := lg_of (List.mem_of_getElem? (i := 1028) (by decide +kernel)) (by decide +kernel)
theorem lk_X8_151 : LK RX8 151 mX1_tellRoute := lg_of (List.mem_of_getElem? (i := 1029) (by decide +kernel)) (by decide +kernel)
theorem lk_X1_125 : LK RX1 125 mX6_tell := lg_of (List.mem_of_getElem? (i := 1033) (by decide +kernel)) (by decide +kernel)
theorem lk_X8_155 : LK RX8 155 mX8_readChoice := lg_of (List.mem_of_getElem? (i := 1034) (by decide +kernel)) (by decide +kernel)
theorem lk_X8_159 : LK RX8 159 mX6_hasChoice := lg_of (List.mem_of_getElem? (i := 1038) (by decide +kernel)) (by decide +kernel)
theorem lk_X8_164 : LK RX8 164 mX6_addChoice := lg_of (List.mem_of_getElem? (i := 1042) (by decide +kernel)) (by decide +kernel)
theorem lk_X8_99 : LK RX8 99 mX8_readCall := lg_of (List.mem_of_getElem? (i := 1044) (by decide +kernel)) (by decide +kernel)
theorem lk_X8_170 : LK RX8 170 mX1_tellCall := lg_of (List.mem_of_getElem? (i := 1048) (by decide +kernel)) (by decide +kernel)
theorem lk_X1_127 : LK RX1 127 mX0_tell := lg_of (List.mem_of_getElem? (i := 1052) (by decide +kernel)) (by decide +kernel)
theorem lk_X8_102 : LK RX8 102 mX8_readRule := lg_of (List.mem_of_getElem? (i := 1056) (by decide +kernel)) (by decide +kernel)
theorem lk_X8_183 : LK RX8 183 mX1_setRule := lg_of (List.mem_of_getElem? (i := 1066) (by decide +kernel)) (by decide +kernel)
theorem lk_X9_56 : LK RX9 56 mX3_keep := lg_of (List.mem_of_getElem? (i := 1070) (by decide +kernel)) (by decide +kernel)
theorem lk_X3_29 : LK RX3 29 mJ9_min_7cf53 := lg_of (List.mem_of_getElem? (i := 1074) (by decide +kernel)) (by decide +kernel)
theorem lk_L_92 : LK RL 92 mL_state := lg_of (List.mem_of_getElem? (i := 1077) (by decide +kernel)) (by decide +kernel)
theorem lk_L_15 : LK RL 15 mX9_state := lg_of (List.mem_of_getElem? (i := 1080) (by decide +kernel)) (by decide +kernel)
theorem lk_L_95 : LK RL 95 mL_line := lg_of (List.mem_of_getElem? (i := 1081) (by decide +kernel)) (by decide +kernel)
theorem lk_L_18 : LK RL 18 mX9_line := lg_of (List.mem_of_getElem? (i := 1085) (by decide +kernel)) (by decide +kernel)
theorem lk_L_99 : LK RL 99 mL_group := lg_of (List.mem_of_getElem? (i := 1086) (by decide +kernel)) (by decide +kernel)
theorem lk_L_24 : LK RL 24 mX9_group := lg_of (List.mem_of_getElem? (i := 1089) (by decide +kernel)) (by decide +kernel)
theorem lk_L_102 : LK RL 102 mL_register := lg_of (List.mem_of_getElem? (i := 1090) (by decide +kernel)) (by decide +kernel)
theorem lk_L_27 : LK RL 27 mX9_register := lg_of (List.mem_of_getElem? (i := 1093) (by decide +kernel)) (by decide +kernel)
theorem lk_L_105 : LK RL 105 mL_marker := lg_of (List.mem_of_getElem? (i := 1094) (by decide +kernel)) (by decide +kernel)
theorem lk_L_30 : LK RL 30 mX9_marker := lg_of (List.mem_of_getElem? (i := 1097) (by decide +kernel)) (by decide +kernel)
theorem lk_L_108 : LK RL 108 mL_call := lg_of (List.mem_of_getElem? (i := 1098) (by decide +kernel)) (by decide +kernel)
theorem lk_L_33 : LK RL 33 mX9_call := lg_of (List.mem_of_getElem? (i := 1101) (by decide +kernel)) (by decide +kernel)
theorem lk_L_111 : LK RL 111 mL_digit := lg_of (List.mem_of_getElem? (i := 1102) (by decide +kernel)) (by decide +kernel)
theorem lk_L_36 : LK RL 36 mX9_digit := lg_of (List.mem_of_getElem? (i := 1106) (by decide +kernel)) (by decide +kernel)
theorem lk_X9_227 : LK RX9 227 mX7_digitAt := lg_of (List.mem_of_getElem? (i := 1125) (by decide +kernel)) (by decide +kernel)
theorem lk_L_114 : LK RL 114 mL_look := lg_of (List.mem_of_getElem? (i := 1126) (by decide +kernel)) (by decide +kernel)
theorem lk_L_41 : LK RL 41 mX9_look := lg_of (List.mem_of_getElem? (i := 1129) (by decide +kernel)) (by decide +kernel)
theorem lk_X9_231 : LK RX9 231 mX9_isDialLength := lg_of (List.mem_of_getElem? (i := 1133) (by decide +kernel)) (by decide +kernel)
theorem lk_X9_234 : LK RX9 234 mX9_bufferRow := lg_of (List.mem_of_getElem? (i := 1137) (by decide +kernel)) (by decide +kernel)
theorem lk_X9_310 : LK RX9 310 mX7_with := lg_of (List.mem_of_getElem? (i := 1141) (by decide +kernel)) (by decide +kernel)
theorem lk_X9_237 : LK RX9 237 mX1_lineWith := lg_of (List.mem_of_getElem? (i := 1142) (by decide +kernel)) (by decide +kernel)
theorem lk_X9_240 : LK RX9 240 mX1_routeIndexFor := lg_of (List.mem_of_getElem? (i := 1143) (by decide +kernel)) (by decide +kernel)
theorem lk_X9_243 : LK RX9 243 mX1_isComplete := lg_of (List.mem_of_getElem? (i := 1147) (by decide +kernel)) (by decide +kernel)
theorem lk_X9_246 : LK RX9 246 mX1_groupFor := lg_of (List.mem_of_getElem? (i := 1148) (by decide +kernel)) (by decide +kernel)
theorem lk_L_122 : LK RL 122 mL_overIn := lg_of (List.mem_of_getElem? (i := 1152) (by decide +kernel)) (by decide +kernel)
theorem lk_L_44 : LK RL 44 mX9_overIn := lg_of (List.mem_of_getElem? (i := 1155) (by decide +kernel)) (by decide +kernel)
theorem lk_X9_255 : LK RX9 255 mX0_isOver := lg_of (List.mem_of_getElem? (i := 1159) (by decide +kernel)) (by decide +kernel)
theorem lk_X9_259 : LK RX9 259 mX1_tick := lg_of (List.mem_of_getElem? (i := 1163) (by decide +kernel)) (by decide +kernel)
theorem lk_L_125 : LK RL 125 mL_foretold := lg_of (List.mem_of_getElem? (i := 1164) (by decide +kernel)) (by decide +kernel)
theorem lk_L_47 : LK RL 47 mX9_foretold := lg_of (List.mem_of_getElem? (i := 1167) (by decide +kernel)) (by decide +kernel)
theorem lk_L_137 : LK RL 137 mL_traffic := lg_of (List.mem_of_getElem? (i := 1171) (by decide +kernel)) (by decide +kernel)
theorem lk_L_50 : LK RL 50 mX9_traffic := lg_of (List.mem_of_getElem? (i := 1174) (by decide +kernel)) (by decide +kernel)
theorem lk_L_141 : LK RL 141 mL_dial := lg_of (List.mem_of_getElem? (i := 1178) (by decide +kernel)) (by decide +kernel)
theorem lk_L_54 : LK RL 54 mX9_dial := lg_of (List.mem_of_getElem? (i := 1182) (by decide +kernel)) (by decide +kernel)
theorem lk_X9_272 : LK RX9 272 mX1_tellCall := lg_of (List.mem_of_getElem? (i := 1201) (by decide +kernel)) (by decide +kernel)
theorem lk_L_145 : LK RL 145 mL_hang := lg_of (List.mem_of_getElem? (i := 1202) (by decide +kernel)) (by decide +kernel)
theorem lk_L_60 : LK RL 60 mX9_hang := lg_of (List.mem_of_getElem? (i := 1205) (by decide +kernel)) (by decide +kernel)
theorem lk_X9_276 : LK RX9 276 mX1_hangUp := lg_of (List.mem_of_getElem? (i := 1209) (by decide +kernel)) (by decide +kernel)
theorem lk_L_148 : LK RL 148 mL_rule := lg_of (List.mem_of_getElem? (i := 1213) (by decide +kernel)) (by decide +kernel)
theorem lk_L_63 : LK RL 63 mX9_rule := lg_of (List.mem_of_getElem? (i := 1216) (by decide +kernel)) (by decide +kernel)
theorem lk_X9_280 : LK RX9 280 mX9_mostOf := lg_of (List.mem_of_getElem? (i := 1220) (by decide +kernel)) (by decide +kernel)
theorem lk_X9_283 : LK RX9 283 mX1_setRule := lg_of (List.mem_of_getElem? (i := 1221) (by decide +kernel)) (by decide +kernel)
theorem lk_L_151 : LK RL 151 mL_pass := lg_of (List.mem_of_getElem? (i := 1222) (by decide +kernel)) (by decide +kernel)
theorem lk_L_66 : LK RL 66 mX9_pass := lg_of (List.mem_of_getElem? (i := 1225) (by decide +kernel)) (by decide +kernel)
theorem lk_L_72 : LK RL 72 mX10_init := lg_of (List.mem_of_getElem? (i := 1231) (by decide +kernel)) (by decide +kernel)
theorem lk_X10_31 : LK RX10 31 mX10_layExchange := lg_of (List.mem_of_getElem? (i := 1237) (by decide +kernel)) (by decide +kernel)
theorem fl_X10_35 : FL RX10 35 9 0 := ⟨by decide, by decide, lg_of (List.mem_of_getElem? (i := 1240) (by decide +kernel)) (by decide +kernel)⟩
theorem fl_X10_9 : FL RX10 9 9 1 := ⟨by decide, by decide, lg_of (List.mem_of_getElem? (i := 1241) (by decide +kernel)) (by decide +kernel)⟩
theorem fl_X10_38 : FL RX10 38 9 2 := ⟨by decide, by decide, lg_of (List.mem_of_getElem? (i := 1242) (by decide +kernel)) (by decide +kernel)⟩
theorem fl_X10_41 : FL RX10 41 9 3 := ⟨by decide, by decide, lg_of (List.mem_of_getElem? (i := 1243) (by decide +kernel)) (by decide +kernel)⟩
theorem fl_X10_44 : FL RX10 44 9 4 := ⟨by decide, by decide, lg_of (List.mem_of_getElem? (i := 1244) (by decide +kernel)) (by decide +kernel)⟩
theorem fl_X10_51 : FL RX10 51 9 5 := ⟨by decide, by decide, lg_of (List.mem_of_getElem? (i := 1245) (by decide +kernel)) (by decide +kernel)⟩
theorem fl_X10_54 : FL RX10 54 9 6 := ⟨by decide, by decide, lg_of (List.mem_of_getElem? (i := 1246) (by decide +kernel)) (by decide +kernel)⟩
theorem fl_X10_13 : FL RX10 13 9 7 := ⟨by decide, by decide, lg_of (List.mem_of_getElem? (i := 1247) (by decide +kernel)) (by decide +kernel)⟩
theorem fl_X10_17 : FL RX10 17 9 8 := ⟨by decide, by decide, lg_of (List.mem_of_getElem? (i := 1248) (by decide +kernel)) (by decide +kernel)⟩
theorem fl_X10_20 : FL RX10 20 9 9 := ⟨by decide, by decide, lg_of (List.mem_of_getElem? (i := 1249) (by decide +kernel)) (by decide +kernel)⟩
theorem fl_X10_23 : FL RX10 23 9 10 := ⟨by decide, by decide, lg_of (List.mem_of_getElem? (i := 1250) (by decide +kernel)) (by decide +kernel)⟩
theorem fl_X10_28 : FL RX10 28 9 11 := ⟨by decide, by decide, lg_of (List.mem_of_getElem? (i := 1251) (by decide +kernel)) (by decide +kernel)⟩
theorem fl_X10_297 : FL RX10 297 9 12 := ⟨by decide, by decide, lg_of (List.mem_of_getElem? (i := 1252) (by decide +kernel)) (by decide +kernel)⟩
theorem fl_X10_86 : FL RX10 86 9 13 := ⟨by decide, by decide, lg_of (List.mem_of_getElem? (i := 1253) (by decide +kernel)) (by decide +kernel)⟩
theorem fl_X10_136 : FL RX10 136 9 14 := ⟨by decide, by decide, lg_of (List.mem_of_getElem? (i := 1254) (by decide +kernel)) (by decide +kernel)⟩
theorem fl_X10_94 : FL RX10 94 9 15 := ⟨by decide, by decide, lg_of (List.mem_of_getElem? (i := 1255) (by decide +kernel)) (by decide +kernel)⟩
theorem fl_X10_97 : FL RX10 97 9 16 := ⟨by decide, by decide, lg_of (List.mem_of_getElem? (i := 1256) (by decide +kernel)) (by decide +kernel)⟩
theorem fl_X10_100 : FL RX10 100 9 17 := ⟨by decide, by decide, lg_of (List.mem_of_getElem? (i := 1257) (by decide +kernel)) (by decide +kernel)⟩
theorem fl_X10_103 : FL RX10 103 9 18 := ⟨by decide, by decide, lg_of (List.mem_of_getElem? (i := 1258) (by decide +kernel)) (by decide +kernel)⟩
theorem fl_X10_106 : FL RX10 106 9 19 := ⟨by decide, by decide, lg_of (List.mem_of_getElem? (i := 1259) (by decide +kernel)) (by decide +kernel)⟩
theorem fl_X10_109 : FL RX10 109 9 20 := ⟨by decide, by decide, lg_of (List.mem_of_getElem? (i := 1260) (by decide +kernel)) (by decide +kernel)⟩
theorem lk_L_84 : LK RL 84 mX10_thrown := lg_of (List.mem_of_getElem? (i := 1304) (by decide +kernel)) (by decide +kernel)
theorem lk_L_77 : LK RL 77 mX10_append := lg_of (List.mem_of_getElem? (i := 1308) (by decide +kernel)) (by decide +kernel)
theorem lk_L_83 : LK RL 83 mX10_load := lg_of (List.mem_of_getElem? (i := 1312) (by decide +kernel)) (by decide +kernel)
theorem lk_X10_57 : LK RX10 57 mX10_in := lg_of (List.mem_of_getElem? (i := 1316) (by decide +kernel)) (by decide +kernel)
theorem lk_X10_176 : LK RX10 176 mX10_fails := lg_of (List.mem_of_getElem? (i := 1319) (by decide +kernel)) (by decide +kernel)
theorem lk_X10_141 : LK RX10 141 mX10_takeWord := lg_of (List.mem_of_getElem? (i := 1324) (by decide +kernel)) (by decide +kernel)
theorem lk_X10_61 : LK RX10 61 mX10_isGood := lg_of (List.mem_of_getElem? (i := 1328) (by decide +kernel)) (by decide +kernel)
theorem lk_X10_65 : LK RX10 65 mX10_ahead := lg_of (List.mem_of_getElem? (i := 1332) (by decide +kernel)) (by decide +kernel)
theorem lk_X10_47 : LK RX10 47 mX10_byteAt := lg_of (List.mem_of_getElem? (i := 1336) (by decide +kernel)) (by decide +kernel)
theorem lk_X10_69 : LK RX10 69 mJ0_length_8abf5 := lg_of (List.mem_of_getElem? (i := 1340) (by decide +kernel)) (by decide +kernel)
theorem lk_X10_74 : LK RX10 74 mJ0_charAt_5068e := lg_of (List.mem_of_getElem? (i := 1341) (by decide +kernel)) (by decide +kernel)
theorem lk_X10_78 : LK RX10 78 mX10_report := lg_of (List.mem_of_getElem? (i := 1342) (by decide +kernel)) (by decide +kernel)
theorem lk_X10_126 : LK RX10 126 mX10_number := lg_of (List.mem_of_getElem? (i := 1346) (by decide +kernel)) (by decide +kernel)
theorem lk_X10_82 : LK RX10 82 mX10_isDigit := lg_of (List.mem_of_getElem? (i := 1350) (by decide +kernel)) (by decide +kernel)
theorem lk_X10_90 : LK RX10 90 mX10_min := lg_of (List.mem_of_getElem? (i := 1354) (by decide +kernel)) (by decide +kernel)
theorem lk_X10_173 : LK RX10 173 mX10_expect := lg_of (List.mem_of_getElem? (i := 1357) (by decide +kernel)) (by decide +kernel)
theorem lk_X10_182 : LK RX10 182 mX10_statement := lg_of (List.mem_of_getElem? (i := 1361) (by decide +kernel)) (by decide +kernel)
theorem lk_X10_145 : LK RX10 145 mX10_readLine := lg_of (List.mem_of_getElem? (i := 1366) (by decide +kernel)) (by decide +kernel)
theorem lk_X10_112 : LK RX10 112 mX10_readDigits := lg_of (List.mem_of_getElem? (i := 1370) (by decide +kernel)) (by decide +kernel)
theorem lk_X10_116 : LK RX10 116 mX10_lineOf := lg_of (List.mem_of_getElem? (i := 1374) (by decide +kernel)) (by decide +kernel)
theorem lk_X10_150 : LK RX10 150 mX10_readGroup := lg_of (List.mem_of_getElem? (i := 1378) (by decide +kernel)) (by decide +kernel)
theorem lk_X10_120 : LK RX10 120 mX10_readName := lg_of (List.mem_of_getElem? (i := 1382) (by decide +kernel)) (by decide +kernel)
theorem lk_X10_123 : LK RX10 123 mX10_groupOf := lg_of (List.mem_of_getElem? (i := 1386) (by decide +kernel)) (by decide +kernel)
theorem lk_X10_155 : LK RX10 155 mX10_readRoute := lg_of (List.mem_of_getElem? (i := 1390) (by decide +kernel)) (by decide +kernel)
theorem lk_X10_129 : LK RX10 129 mX10_max := lg_of (List.mem_of_getElem? (i := 1394) (by decide +kernel)) (by decide +kernel)
theorem lk_X10_160 : LK RX10 160 mX10_readCall := lg_of (List.mem_of_getElem? (i := 1398) (by decide +kernel)) (by decide +kernel)
theorem lk_X10_132 : LK RX10 132 mX10_layCall := lg_of (List.mem_of_getElem? (i := 1402) (by decide +kernel)) (by decide +kernel)
theorem lk_X10_165 : LK RX10 165 mX10_readOne := lg_of (List.mem_of_getElem? (i := 1406) (by decide +kernel)) (by decide +kernel)
theorem lk_X10_185 : LK RX10 185 mX10_remember := lg_of (List.mem_of_getElem? (i := 1412) (by decide +kernel)) (by decide +kernel)
theorem lk_X10_188 : LK RX10 188 mX10_copy := lg_of (List.mem_of_getElem? (i := 1416) (by decide +kernel)) (by decide +kernel)
theorem lk_L_91 : LK RL 91 mX10_errorOffset := lg_of (List.mem_of_getElem? (i := 1419) (by decide +kernel)) (by decide +kernel)
theorem lk_L_94 : LK RL 94 mX10_state := lg_of (List.mem_of_getElem? (i := 1423) (by decide +kernel)) (by decide +kernel)
theorem lk_X10_276 : LK RX10 276 mX10_told := lg_of (List.mem_of_getElem? (i := 1427) (by decide +kernel)) (by decide +kernel)
theorem lk_X10_227 : LK RX10 227 mX10_callsThat := lg_of (List.mem_of_getElem? (i := 1431) (by decide +kernel)) (by decide +kernel)
theorem lk_X10_192 : LK RX10 192 mX10_of := lg_of (List.mem_of_getElem? (i := 1435) (by decide +kernel)) (by decide +kernel)
theorem lk_X10_224 : LK RX10 224 mX10_isBusy := lg_of (List.mem_of_getElem? (i := 1439) (by decide +kernel)) (by decide +kernel)
theorem lk_X10_204 : LK RX10 204 mX10_callBy := lg_of (List.mem_of_getElem? (i := 1443) (by decide +kernel)) (by decide +kernel)
theorem lk_X10_201 : LK RX10 201 mX10_isState := lg_of (List.mem_of_getElem? (i := 1447) (by decide +kernel)) (by decide +kernel)
theorem lk_X10_207 : LK RX10 207 mX10_callTo := lg_of (List.mem_of_getElem? (i := 1451) (by decide +kernel)) (by decide +kernel)
theorem lk_L_98 : LK RL 98 mX10_line := lg_of (List.mem_of_getElem? (i := 1455) (by decide +kernel)) (by decide +kernel)
theorem lk_X10_279 : LK RX10 279 mX10_toldLine := lg_of (List.mem_of_getElem? (i := 1459) (by decide +kernel)) (by decide +kernel)
theorem lk_L_101 : LK RL 101 mX10_group := lg_of (List.mem_of_getElem? (i := 1463) (by decide +kernel)) (by decide +kernel)
theorem lk_X10_282 : LK RX10 282 mX10_noGroup := lg_of (List.mem_of_getElem? (i := 1467) (by decide +kernel)) (by decide +kernel)
theorem lk_X10_285 : LK RX10 285 mX10_toldGroup := lg_of (List.mem_of_getElem? (i := 1471) (by decide +kernel)) (by decide +kernel)
theorem lk_X10_213 : LK RX10 213 mX10_busyTrunks := lg_of (List.mem_of_getElem? (i := 1475) (by decide +kernel)) (by decide +kernel)
theorem lk_X10_210 : LK RX10 210 mX10_ofGroup := lg_of (List.mem_of_getElem? (i := 1479) (by decide +kernel)) (by decide +kernel)
theorem lk_L_104 : LK RL 104 mX10_register := lg_of (List.mem_of_getElem? (i := 1483) (by decide +kernel)) (by decide +kernel)
theorem lk_L_107 : LK RL 107 mX10_marker := lg_of (List.mem_of_getElem? (i := 1487) (by decide +kernel)) (by decide +kernel)
theorem lk_L_110 : LK RL 110 mX10_call := lg_of (List.mem_of_getElem? (i := 1491) (by decide +kernel)) (by decide +kernel)
theorem lk_X10_288 : LK RX10 288 mX10_noCall := lg_of (List.mem_of_getElem? (i := 1495) (by decide +kernel)) (by decide +kernel)
theorem lk_L_113 : LK RL 113 mX10_digit := lg_of (List.mem_of_getElem? (i := 1499) (by decide +kernel)) (by decide +kernel)
theorem lk_X10_248 : LK RX10 248 mX10_dialledValue := lg_of (List.mem_of_getElem? (i := 1503) (by decide +kernel)) (by decide +kernel)
theorem lk_X10_195 : LK RX10 195 mX10_power := lg_of (List.mem_of_getElem? (i := 1507) (by decide +kernel)) (by decide +kernel)
theorem lk_L_116 : LK RL 116 mX10_look := lg_of (List.mem_of_getElem? (i := 1510) (by decide +kernel)) (by decide +kernel)
theorem lk_X10_291 : LK RX10 291 mX10_valueOf := lg_of (List.mem_of_getElem? (i := 1514) (by decide +kernel)) (by decide +kernel)
theorem lk_X10_198 : LK RX10 198 mX10_routeFor := lg_of (List.mem_of_getElem? (i := 1518) (by decide +kernel)) (by decide +kernel)
theorem lk_X10_254 : LK RX10 254 mX10_isComplete := lg_of (List.mem_of_getElem? (i := 1522) (by decide +kernel)) (by decide +kernel)
theorem lk_X10_239 : LK RX10 239 mX10_choiceOf := lg_of (List.mem_of_getElem? (i := 1526) (by decide +kernel)) (by decide +kernel)
theorem lk_X10_216 : LK RX10 216 mX10_isFree := lg_of (List.mem_of_getElem? (i := 1530) (by decide +kernel)) (by decide +kernel)
theorem lk_L_121 : LK RL 121 mX10_foremost := lg_of (List.mem_of_getElem? (i := 1534) (by decide +kernel)) (by decide +kernel)
theorem lk_X10_258 : LK RX10 258 mX10_foremostOf := lg_of (List.mem_of_getElem? (i := 1538) (by decide +kernel)) (by decide +kernel)
theorem lk_L_124 : LK RL 124 mX10_overIn := lg_of (List.mem_of_getElem? (i := 1542) (by decide +kernel)) (by decide +kernel)
theorem lk_X10_294 : LK RX10 294 mX10_passTick := lg_of (List.mem_of_getElem? (i := 1546) (by decide +kernel)) (by decide +kernel)
theorem lk_X10_261 : LK RX10 261 mX10_comes := lg_of (List.mem_of_getElem? (i := 1550) (by decide +kernel)) (by decide +kernel)
theorem lk_X10_220 : LK RX10 220 mX10_set := lg_of (List.mem_of_getElem? (i := 1554) (by decide +kernel)) (by decide +kernel)
theorem lk_X10_230 : LK RX10 230 mX10_isOver := lg_of (List.mem_of_getElem? (i := 1558) (by decide +kernel)) (by decide +kernel)
theorem lk_X10_233 : LK RX10 233 mX10_waits := lg_of (List.mem_of_getElem? (i := 1562) (by decide +kernel)) (by decide +kernel)
theorem lk_X10_264 : LK RX10 264 mX10_marks := lg_of (List.mem_of_getElem? (i := 1566) (by decide +kernel)) (by decide +kernel)
theorem lk_X10_245 : LK RX10 245 mX10_freeRegister := lg_of (List.mem_of_getElem? (i := 1570) (by decide +kernel)) (by decide +kernel)
theorem lk_X10_251 : LK RX10 251 mX10_looks := lg_of (List.mem_of_getElem? (i := 1574) (by decide +kernel)) (by decide +kernel)
theorem lk_X10_236 : LK RX10 236 mX10_talks := lg_of (List.mem_of_getElem? (i := 1578) (by decide +kernel)) (by decide +kernel)
theorem lk_X10_242 : LK RX10 242 mX10_addGroup := lg_of (List.mem_of_getElem? (i := 1582) (by decide +kernel)) (by decide +kernel)
theorem lk_X10_267 : LK RX10 267 mX10_dials := lg_of (List.mem_of_getElem? (i := 1586) (by decide +kernel)) (by decide +kernel)
theorem lk_X10_270 : LK RX10 270 mX10_takesMarker := lg_of (List.mem_of_getElem? (i := 1590) (by decide +kernel)) (by decide +kernel)
theorem lk_X10_273 : LK RX10 273 mX10_takesRegister := lg_of (List.mem_of_getElem? (i := 1594) (by decide +kernel)) (by decide +kernel)
theorem lk_L_127 : LK RL 127 mX10_foretold := lg_of (List.mem_of_getElem? (i := 1598) (by decide +kernel)) (by decide +kernel)
theorem lk_L_131 : LK RL 131 mX10_bestGuard := lg_of (List.mem_of_getElem? (i := 1602) (by decide +kernel)) (by decide +kernel)
theorem lk_L_136 : LK RL 136 mX10_service := lg_of (List.mem_of_getElem? (i := 1606) (by decide +kernel)) (by decide +kernel)
theorem lk_L_140 : LK RL 140 mX10_traffic := lg_of (List.mem_of_getElem? (i := 1610) (by decide +kernel)) (by decide +kernel)
theorem lk_L_144 : LK RL 144 mX10_dial := lg_of (List.mem_of_getElem? (i := 1614) (by decide +kernel)) (by decide +kernel)
theorem lk_L_147 : LK RL 147 mX10_hang := lg_of (List.mem_of_getElem? (i := 1618) (by decide +kernel)) (by decide +kernel)
theorem lk_L_150 : LK RL 150 mX10_rule := lg_of (List.mem_of_getElem? (i := 1622) (by decide +kernel)) (by decide +kernel)
theorem lk_L_153 : LK RL 153 mX10_pass := lg_of (List.mem_of_getElem? (i := 1626) (by decide +kernel)) (by decide +kernel)
theorem lk_L_157 : LK RL 157 mX10_undo := lg_of (List.mem_of_getElem? (i := 1630) (by decide +kernel)) (by decide +kernel)
theorem lk_L_162 : LK RL 162 mX10_checksum := lg_of (List.mem_of_getElem? (i := 1634) (by decide +kernel)) (by decide +kernel)
