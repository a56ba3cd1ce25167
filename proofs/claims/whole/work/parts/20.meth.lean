abbrev M_X0_init : Mth := (yX0_init, cX0_init, 1, none, RX0)
abbrev M_X0_hasHole : Mth := (yX0_hasHole, cX0_hasHole, 2, (some .boolean), RX0)
abbrev M_X0_addHole : Mth := (yX0_addHole, cX0_addHole, 7, (some .int), RX0)
abbrev M_X0_strikeHole : Mth := (yX0_strikeHole, cX0_strikeHole, 3, none, RX0)
abbrev M_X0_mark : Mth := (yX0_mark, cX0_mark, 2, none, RX0)
abbrev M_X0_weekOfNews : Mth := (yX0_weekOfNews, cX0_weekOfNews, 3, (some .int), RX0)
abbrev M_X0_isSeen : Mth := (yX0_isSeen, cX0_isSeen, 3, (some .boolean), RX0)
abbrev M_X0_isDug : Mth := (yX0_isDug, cX0_isDug, 6, (some .boolean), RX0)
abbrev M_X0_ploughedAt : Mth := (yX0_ploughedAt, cX0_ploughedAt, 6, (some .int), RX0)
abbrev M_X1_init : Mth := (yX1_init, cX1_init, 3, none, RX1)
abbrev M_X1_setKind : Mth := (yX1_setKind, cX1_setKind, 3, none, RX1)
abbrev M_X1_seek : Mth := (yX1_seek, cX1_seek, 9, (some .int), RX1)
abbrev M_X1_note : Mth := (yX1_note, cX1_note, 2, none, RX1)
abbrev M_X1_nameCorners : Mth := (yX1_nameCorners, cX1_nameCorners, 2, none, RX1)
abbrev M_X1_isFit : Mth := (yX1_isFit, cX1_isFit, 2, (some .boolean), RX1)
abbrev M_X1_setStep : Mth := (yX1_setStep, cX1_setStep, 3, (some .boolean), RX1)
abbrev M_X1_nameThirds : Mth := (yX1_nameThirds, cX1_nameThirds, 4, none, RX1)
abbrev M_X1_setApart : Mth := (yX1_setApart, cX1_setApart, 6, (some .boolean), RX1)
abbrev M_X1_isLong : Mth := (yX1_isLong, cX1_isLong, 7, (some .boolean), RX1)
abbrev M_X1_grow : Mth := (yX1_grow, cX1_grow, 5, (some .boolean), RX1)
abbrev M_X1_keep : Mth := (yX1_keep, cX1_keep, 2, none, RX1)
abbrev M_X1_fillAcross : Mth := (yX1_fillAcross, cX1_fillAcross, 5, (some .boolean), RX1)
abbrev M_X1_countUnfilled : Mth := (yX1_countUnfilled, cX1_countUnfilled, 2, none, RX1)
abbrev M_X1_fill : Mth := (yX1_fill, cX1_fill, 5, (some .boolean), RX1)
abbrev M_X1_stateAt : Mth := (yX1_stateAt, cX1_stateAt, 5, (some .int), RX1)
abbrev M_X1_placeOf : Mth := (yX1_placeOf, cX1_placeOf, 5, (some .int), RX1)
abbrev M_X2_init : Mth := (yX2_init, cX2_init, 1, none, RX2)
abbrev M_X2_copy : Mth := (yX2_copy, cX2_copy, 2, none, RX2)
abbrev M_X2_meets : Mth := (yX2_meets, cX2_meets, 2, (some .boolean), RX2)
abbrev M_X2_isParted : Mth := (yX2_isParted, cX2_isParted, 4, (some .boolean), RX2)
abbrev M_X2_lowest : Mth := (yX2_lowest, cX2_lowest, 5, (some .int), RX2)
abbrev M_X2_highest : Mth := (yX2_highest, cX2_highest, 3, (some .int), RX2)
abbrev M_X3_init : Mth := (yX3_init, cX3_init, 2, none, RX3)
abbrev M_X3_get : Mth := (yX3_get, cX3_get, 2, (some (.object "PostHouses$House")), RX3)
abbrev M_X3_clear : Mth := (yX3_clear, cX3_clear, 1, none, RX3)
abbrev M_X3_offer : Mth := (yX3_offer, cX3_offer, 3, none, RX3)
abbrev M_X3_findAlike : Mth := (yX3_findAlike, cX3_findAlike, 3, (some .int), RX3)
abbrev M_X3_drop : Mth := (yX3_drop, cX3_drop, 4, none, RX3)
abbrev M_X3_insert : Mth := (yX3_insert, cX3_insert, 4, none, RX3)
abbrev M_X3_choose : Mth := (yX3_choose, cX3_choose, 2, none, RX3)
abbrev M_X3_chooseFrom : Mth := (yX3_chooseFrom, cX3_chooseFrom, 7, none, RX3)
abbrev M_X3_canBeat : Mth := (yX3_canBeat, cX3_canBeat, 3, (some .boolean), RX3)
abbrev M_X3_nameChosen : Mth := (yX3_nameChosen, cX3_nameChosen, 3, none, RX3)
abbrev M_X4_init : Mth := (yX4_init, cX4_init, 1, none, RX4)
abbrev M_X4_push : Mth := (yX4_push, cX4_push, 3, none, RX4)
abbrev M_X4_read : Mth := (yX4_read, cX4_read, 3, (some .boolean), RX4)
abbrev M_X4_readKinds : Mth := (yX4_readKinds, cX4_readKinds, 2, (some .int), RX4)
abbrev M_X4_readKind : Mth := (yX4_readKind, cX4_readKind, 3, (some .boolean), RX4)
abbrev M_X4_readClause : Mth := (yX4_readClause, cX4_readClause, 5, (some .boolean), RX4)
abbrev M_X4_wordOf : Mth := (yX4_wordOf, cX4_wordOf, 1, (some (.object "java/lang/String")), RX4)
abbrev M_X4_next : Mth := (yX4_next, cX4_next, 4, none, RX4)
abbrev M_X4_sortOf : Mth := (yX4_sortOf, cX4_sortOf, 1, (some .int), RX4)
abbrev M_X4_take : Mth := (yX4_take, cX4_take, 4, (some .boolean), RX4)
abbrev M_X4_numberHere : Mth := (yX4_numberHere, cX4_numberHere, 3, (some .int), RX4)
abbrev M_X5_init : Mth := (yX5_init, cX5_init, 2, none, RX5)
abbrev M_X5_isFull : Mth := (yX5_isFull, cX5_isFull, 1, (some .boolean), RX5)
abbrev M_X5_add : Mth := (yX5_add, cX5_add, 7, none, RX5)
abbrev M_X5_get : Mth := (yX5_get, cX5_get, 4, (some .int), RX5)
abbrev M_X6_init : Mth := (yX6_init, cX6_init, 1, none, RX6)
abbrev M_X6_setPhases : Mth := (yX6_setPhases, cX6_setPhases, 7, none, RX6)
abbrev M_X6_nameMembers : Mth := (yX6_nameMembers, cX6_nameMembers, 4, none, RX6)
abbrev M_X6_meetMembers : Mth := (yX6_meetMembers, cX6_meetMembers, 3, none, RX6)
abbrev M_X6_cutMembers : Mth := (yX6_cutMembers, cX6_cutMembers, 9, none, RX6)
abbrev M_X6_memberWith : Mth := (yX6_memberWith, cX6_memberWith, 6, (some .int), RX6)
abbrev M_X6_memberFor : Mth := (yX6_memberFor, cX6_memberFor, 2, (some .int), RX6)
abbrev M_X6_relateMembers : Mth := (yX6_relateMembers, cX6_relateMembers, 3, none, RX6)
abbrev M_X6_listSets : Mth := (yX6_listSets, cX6_listSets, 4, none, RX6)
abbrev M_X6_digitShift : Mth := (yX6_digitShift, cX6_digitShift, 1, (some .int), RX6)
abbrev M_X6_goOnFrom : Mth := (yX6_goOnFrom, cX6_goOnFrom, 9, none, RX6)
abbrev M_X6_openAfter : Mth := (yX6_openAfter, cX6_openAfter, 4, (some .int), RX6)
abbrev M_X6_takeBestRow : Mth := (yX6_takeBestRow, cX6_takeBestRow, 3, none, RX6)
abbrev M_X6_setStarts : Mth := (yX6_setStarts, cX6_setStarts, 7, none, RX6)
abbrev M_X6_pushLater : Mth := (yX6_pushLater, cX6_pushLater, 4, none, RX6)
abbrev M_X6_pushEarlier : Mth := (yX6_pushEarlier, cX6_pushEarlier, 4, none, RX6)
abbrev M_X6_sureIn : Mth := (yX6_sureIn, cX6_sureIn, 4, (some .int), RX6)
abbrev M_X6_mostIn : Mth := (yX6_mostIn, cX6_mostIn, 5, (some .int), RX6)
abbrev M_X7_init : Mth := (yX7_init, cX7_init, 2, none, RX7)
abbrev M_X7_look : Mth := (yX7_look, cX7_look, 4, none, RX7)
abbrev M_X7_isOfSecond : Mth := (yX7_isOfSecond, cX7_isOfSecond, 2, (some .boolean), RX7)
abbrev M_X7_joinFrames : Mth := (yX7_joinFrames, cX7_joinFrames, 2, none, RX7)
abbrev M_X7_turnHole : Mth := (yX7_turnHole, cX7_turnHole, 7, none, RX7)
abbrev M_X7_countHits : Mth := (yX7_countHits, cX7_countHits, 4, none, RX7)
abbrev M_X7_countShifts : Mth := (yX7_countShifts, cX7_countShifts, 9, none, RX7)
abbrev M_X7_takeBestShift : Mth := (yX7_takeBestShift, cX7_takeBestShift, 7, none, RX7)
abbrev M_X7_nameSpots : Mth := (yX7_nameSpots, cX7_nameSpots, 2, none, RX7)
abbrev M_X7_spotFor : Mth := (yX7_spotFor, cX7_spotFor, 5, (some .int), RX7)
abbrev M_X7_isNear : Mth := (yX7_isNear, cX7_isNear, 3, (some .boolean), RX7)
abbrev M_X7_deepenSpots : Mth := (yX7_deepenSpots, cX7_deepenSpots, 3, none, RX7)
abbrev M_X8_init : Mth := (yX8_init, cX8_init, 1, none, RX8)
abbrev M_X8_load : Mth := (yX8_load, cX8_load, 4, none, RX8)
abbrev M_X8_rotate : Mth := (yX8_rotate, cX8_rotate, 3, none, RX8)
abbrev M_X8_sortByX : Mth := (yX8_sortByX, cX8_sortByX, 3, none, RX8)
abbrev M_X8_nearest : Mth := (yX8_nearest, cX8_nearest, 12, (some .int), RX8)
abbrev M_X9_init : Mth := (yX9_init, cX9_init, 3, none, RX9)
abbrev M_X9_forget : Mth := (yX9_forget, cX9_forget, 2, none, RX9)
abbrev M_X9_reach : Mth := (yX9_reach, cX9_reach, 4, (some .boolean), RX9)
abbrev M_X9_findHouses : Mth := (yX9_findHouses, cX9_findHouses, 2, none, RX9)
abbrev M_X9_placeOf : Mth := (yX9_placeOf, cX9_placeOf, 4, (some .int), RX9)
abbrev M_X9_strengthOf : Mth := (yX9_strengthOf, cX9_strengthOf, 2, (some .int), RX9)
abbrev M_X9_tryChance : Mth := (yX9_tryChance, cX9_tryChance, 4, (some .int), RX9)
abbrev M_X9_setFences : Mth := (yX9_setFences, cX9_setFences, 2, none, RX9)
abbrev M_X9_setFence : Mth := (yX9_setFence, cX9_setFence, 7, (some .boolean), RX9)
abbrev M_X9_isLoose : Mth := (yX9_isLoose, cX9_isLoose, 3, (some .boolean), RX9)
abbrev M_X9_countNear : Mth := (yX9_countNear, cX9_countNear, 5, (some .int), RX9)
abbrev M_X9_isNearLine : Mth := (yX9_isNearLine, cX9_isNearLine, 10, (some .boolean), RX9)
abbrev M_X10_init : Mth := (yX10_init, cX10_init, 1, none, RX10)
abbrev M_X10_hole : Mth := (yX10_hole, cX10_hole, 7, (some .int), RX10)
abbrev M_X10_retell : Mth := (yX10_retell, cX10_retell, 4, (some .int), RX10)
abbrev M_X10_strike : Mth := (yX10_strike, cX10_strike, 3, (some .int), RX10)
abbrev M_X10_trench : Mth := (yX10_trench, cX10_trench, 6, (some .int), RX10)
abbrev M_X10_plough : Mth := (yX10_plough, cX10_plough, 6, (some .int), RX10)
abbrev M_X10_error : Mth := (yX10_error, cX10_error, 3, (some .int), RX10)
abbrev M_X10_frame : Mth := (yX10_frame, cX10_frame, 4, (some .int), RX10)
abbrev M_X10_spot : Mth := (yX10_spot, cX10_spot, 6, (some .int), RX10)
abbrev M_X10_feed : Mth := (yX10_feed, cX10_feed, 6, (some .int), RX10)
abbrev M_X10_end : Mth := (yX10_end, cX10_end, 2, (some .int), RX10)
abbrev M_X10_kinds : Mth := (yX10_kinds, cX10_kinds, 1, (some .int), RX10)
abbrev M_X10_fault : Mth := (yX10_fault, cX10_fault, 1, (some .int), RX10)
abbrev M_X10_houses : Mth := (yX10_houses, cX10_houses, 2, (some .int), RX10)
abbrev M_X10_house : Mth := (yX10_house, cX10_house, 5, (some .int), RX10)
abbrev M_X10_place : Mth := (yX10_place, cX10_place, 6, (some .int), RX10)
abbrev M_X10_explained : Mth := (yX10_explained, cX10_explained, 3, (some .int), RX10)
abbrev M_X10_strength : Mth := (yX10_strength, cX10_strength, 3, (some .int), RX10)
abbrev M_X10_cut : Mth := (yX10_cut, cX10_cut, 4, (some .int), RX10)
abbrev M_X10_pair : Mth := (yX10_pair, cX10_pair, 8, (some .int), RX10)
abbrev M_X10_phases : Mth := (yX10_phases, cX10_phases, 4, (some .int), RX10)
abbrev M_X10_phase : Mth := (yX10_phase, cX10_phase, 4, (some .int), RX10)
abbrev M_X10_date : Mth := (yX10_date, cX10_date, 5, (some .int), RX10)
abbrev M_X10_start : Mth := (yX10_start, cX10_start, 5, (some .int), RX10)
abbrev M_X10_stands : Mth := (yX10_stands, cX10_stands, 5, (some .int), RX10)
abbrev M_X10_fences : Mth := (yX10_fences, cX10_fences, 2, (some .int), RX10)
abbrev M_X10_led : Mth := (yX10_led, cX10_led, 7, (some .int), RX10)
abbrev M_X10_count : Mth := (yX10_count, cX10_count, 2, (some .int), RX10)
abbrev M_X10_status : Mth := (yX10_status, cX10_status, 1, (some .int), RX10)
abbrev M_X10_refuse : Mth := (yX10_refuse, cX10_refuse, 2, (some .int), RX10)
abbrev M_X10_accept : Mth := (yX10_accept, cX10_accept, 2, (some .int), RX10)
abbrev M_X10_isIn : Mth := (yX10_isIn, cX10_isIn, 3, (some .boolean), RX10)
abbrev M_X10_isWeek : Mth := (yX10_isWeek, cX10_isWeek, 1, (some .boolean), RX10)
abbrev M_X10_isInField : Mth := (yX10_isInField, cX10_isInField, 2, (some .boolean), RX10)
abbrev M_X10_isPlot : Mth := (yX10_isPlot, cX10_isPlot, 4, (some .boolean), RX10)
abbrev M_X11_init : Mth := (yX11_init, cX11_init, 1, none, RX11)
abbrev M_X11_in : Mth := (yX11_in, cX11_in, 3, (some .boolean), RX11)
abbrev M_X11_isWeek : Mth := (yX11_isWeek, cX11_isWeek, 1, (some .boolean), RX11)
abbrev M_X11_ends : Mth := (yX11_ends, cX11_ends, 2, (some .int), RX11)
abbrev M_X11_isHole : Mth := (yX11_isHole, cX11_isHole, 2, (some .boolean), RX11)
abbrev M_X11_hole : Mth := (yX11_hole, cX11_hole, 6, (some .int), RX11)
abbrev M_X11_retell : Mth := (yX11_retell, cX11_retell, 4, (some .int), RX11)
abbrev M_X11_strike : Mth := (yX11_strike, cX11_strike, 3, (some .int), RX11)
abbrev M_X11_isBox : Mth := (yX11_isBox, cX11_isBox, 4, (some .boolean), RX11)
abbrev M_X11_trench : Mth := (yX11_trench, cX11_trench, 6, (some .int), RX11)
abbrev M_X11_plough : Mth := (yX11_plough, cX11_plough, 6, (some .int), RX11)
abbrev M_X11_error : Mth := (yX11_error, cX11_error, 3, (some .int), RX11)
abbrev M_X11_cut : Mth := (yX11_cut, cX11_cut, 4, (some .int), RX11)
abbrev M_X11_date : Mth := (yX11_date, cX11_date, 5, (some .int), RX11)
abbrev M_X11_feed : Mth := (yX11_feed, cX11_feed, 7, (some .int), RX11)
abbrev M_X11_end : Mth := (yX11_end, cX11_end, 2, (some .int), RX11)
abbrev M_X11_isIn : Mth := (yX11_isIn, cX11_isIn, 4, (some .boolean), RX11)
abbrev M_X11_next : Mth := (yX11_next, cX11_next, 1, none, RX11)
abbrev M_X11_isWord : Mth := (yX11_isWord, cX11_isWord, 6, (some .boolean), RX11)
abbrev M_X11_isSign : Mth := (yX11_isSign, cX11_isSign, 2, (some .boolean), RX11)
abbrev M_X11_good : Mth := (yX11_good, cX11_good, 1, (some .boolean), RX11)
abbrev M_X11_faults : Mth := (yX11_faults, cX11_faults, 1, none, RX11)
abbrev M_X11_needSign : Mth := (yX11_needSign, cX11_needSign, 2, none, RX11)
abbrev M_X11_number : Mth := (yX11_number, cX11_number, 5, (some .int), RX11)
abbrev M_X11_wordOf : Mth := (yX11_wordOf, cX11_wordOf, 1, (some .long), RX11)
abbrev M_X11_leastOf : Mth := (yX11_leastOf, cX11_leastOf, 1, (some .int), RX11)
abbrev M_X11_mostOf : Mth := (yX11_mostOf, cX11_mostOf, 1, (some .int), RX11)
abbrev M_X11_isSpan : Mth := (yX11_isSpan, cX11_isSpan, 1, (some .boolean), RX11)
abbrev M_X11_clause : Mth := (yX11_clause, cX11_clause, 4, none, RX11)
abbrev M_X11_kind : Mth := (yX11_kind, cX11_kind, 2, none, RX11)
abbrev M_X11_kinds : Mth := (yX11_kinds, cX11_kinds, 2, (some .int), RX11)
abbrev M_X11_fault : Mth := (yX11_fault, cX11_fault, 1, (some .int), RX11)
abbrev M_X11_isThere : Mth := (yX11_isThere, cX11_isThere, 3, (some .boolean), RX11)
abbrev M_X11_turnedX : Mth := (yX11_turnedX, cX11_turnedX, 3, (some .int), RX11)
abbrev M_X11_turnedY : Mth := (yX11_turnedY, cX11_turnedY, 3, (some .int), RX11)
abbrev M_X11_size : Mth := (yX11_size, cX11_size, 1, (some .int), RX11)
abbrev M_X11_isNear : Mth := (yX11_isNear, cX11_isNear, 4, (some .boolean), RX11)
abbrev M_X11_strikesOne : Mth := (yX11_strikesOne, cX11_strikesOne, 5, (some .boolean), RX11)
abbrev M_X11_frames : Mth := (yX11_frames, cX11_frames, 7, none, RX11)
abbrev M_X11_isField : Mth := (yX11_isField, cX11_isField, 2, (some .boolean), RX11)
abbrev M_X11_depthOf : Mth := (yX11_depthOf, cX11_depthOf, 5, (some .int), RX11)
abbrev M_X11_ploughed : Mth := (yX11_ploughed, cX11_ploughed, 5, (some .int), RX11)
abbrev M_X11_isDug : Mth := (yX11_isDug, cX11_isDug, 5, (some .boolean), RX11)
abbrev M_X11_finds : Mth := (yX11_finds, cX11_finds, 4, none, RX11)
abbrev M_X11_far : Mth := (yX11_far, cX11_far, 4, (some .int), RX11)
abbrev M_X11_placed : Mth := (yX11_placed, cX11_placed, 8, (some .int), RX11)
abbrev M_X11_isHouseWith : Mth := (yX11_isHouseWith, cX11_isHouseWith, 15, (some .boolean), RX11)
abbrev M_X11_framed : Mth := (yX11_framed, cX11_framed, 16, (some .int), RX11)
abbrev M_X11_keeps : Mth := (yX11_keeps, cX11_keeps, 9, none, RX11)
abbrev M_X11_copies : Mth := (yX11_copies, cX11_copies, 4, none, RX11)
abbrev M_X11_goes : Mth := (yX11_goes, cX11_goes, 10, (some .int), RX11)
abbrev M_X11_chooses : Mth := (yX11_chooses, cX11_chooses, 9, none, RX11)
abbrev M_X11_isOf : Mth := (yX11_isOf, cX11_isOf, 3, (some .boolean), RX11)
abbrev M_X11_corners : Mth := (yX11_corners, cX11_corners, 15, none, RX11)
abbrev M_X11_parts : Mth := (yX11_parts, cX11_parts, 37, (some .boolean), RX11)
abbrev M_X11_isLaterThan : Mth := (yX11_isLaterThan, cX11_isLaterThan, 5, (some .boolean), RX11)
abbrev M_X11_fits : Mth := (yX11_fits, cX11_fits, 4, (some .boolean), RX11)
abbrev M_X11_numbers : Mth := (yX11_numbers, cX11_numbers, 4, none, RX11)
abbrev M_X11_isRound : Mth := (yX11_isRound, cX11_isRound, 5, (some .boolean), RX11)
abbrev M_X11_orders : Mth := (yX11_orders, cX11_orders, 4, none, RX11)
abbrev M_X11_lifeOf : Mth := (yX11_lifeOf, cX11_lifeOf, 2, (some .int), RX11)
abbrev M_X11_areBound : Mth := (yX11_areBound, cX11_areBound, 3, (some .boolean), RX11)
abbrev M_X11_starts : Mth := (yX11_starts, cX11_starts, 5, none, RX11)
abbrev M_X11_isBeside : Mth := (yX11_isBeside, cX11_isBeside, 10, (some .boolean), RX11)
abbrev M_X11_lines : Mth := (yX11_lines, cX11_lines, 11, none, RX11)
abbrev M_X11_lays : Mth := (yX11_lays, cX11_lays, 3, none, RX11)
abbrev M_X11_frame : Mth := (yX11_frame, cX11_frame, 3, (some .int), RX11)
abbrev M_X11_spot : Mth := (yX11_spot, cX11_spot, 5, (some .int), RX11)
abbrev M_X11_houses : Mth := (yX11_houses, cX11_houses, 2, (some .int), RX11)
abbrev M_X11_isHouse : Mth := (yX11_isHouse, cX11_isHouse, 3, (some .boolean), RX11)
abbrev M_X11_house : Mth := (yX11_house, cX11_house, 4, (some .int), RX11)
abbrev M_X11_place : Mth := (yX11_place, cX11_place, 6, (some .int), RX11)
abbrev M_X11_explained : Mth := (yX11_explained, cX11_explained, 3, (some .int), RX11)
abbrev M_X11_strength : Mth := (yX11_strength, cX11_strength, 7, (some .int), RX11)
abbrev M_X11_placeOf : Mth := (yX11_placeOf, cX11_placeOf, 5, (some .int), RX11)
abbrev M_X11_pair : Mth := (yX11_pair, cX11_pair, 7, (some .int), RX11)
abbrev M_X11_phases : Mth := (yX11_phases, cX11_phases, 3, (some .int), RX11)
abbrev M_X11_phase : Mth := (yX11_phase, cX11_phase, 4, (some .int), RX11)
abbrev M_X11_start : Mth := (yX11_start, cX11_start, 5, (some .int), RX11)
abbrev M_X11_stands : Mth := (yX11_stands, cX11_stands, 12, (some .int), RX11)
abbrev M_X11_fences : Mth := (yX11_fences, cX11_fences, 2, (some .int), RX11)
abbrev M_X11_led : Mth := (yX11_led, cX11_led, 6, (some .int), RX11)
abbrev M_X11_count : Mth := (yX11_count, cX11_count, 2, (some .int), RX11)
abbrev M_X11_status : Mth := (yX11_status, cX11_status, 1, (some .int), RX11)
abbrev M_J6_numberOfTrailingZeros_0f7a4 : Mth := (yJ6_numberOfTrailingZeros_0f7a4, cJ6_numberOfTrailingZeros_0f7a4, 2, (some .int), RJ6)
abbrev M_J6_bitCount_0f7a4 : Mth := (yJ6_bitCount_0f7a4, cJ6_bitCount_0f7a4, 1, (some .int), RJ6)
abbrev M_J9_abs_0f7a4 : Mth := (yJ9_abs_0f7a4, cJ9_abs_0f7a4, 1, (some .int), RJ9)
abbrev M_J9_max_7cf53 : Mth := (yJ9_max_7cf53, cJ9_max_7cf53, 2, (some .int), RJ9)
abbrev M_J9_max_f86c9 : Mth := (yJ9_max_f86c9, cJ9_max_f86c9, 4, (some .long), RJ9)
abbrev M_J9_min_7cf53 : Mth := (yJ9_min_7cf53, cJ9_min_7cf53, 2, (some .int), RJ9)
abbrev M_J0_length_8abf5 : Mth := (yJ0_length_8abf5, cJ0_length_8abf5, 1, (some .int), RJ0)
abbrev M_J0_charAt_5068e : Mth := (yJ0_charAt_5068e, cJ0_charAt_5068e, 2, (some .char), RJ0)
abbrev M_J0_coder_7d493 : Mth := (yJ0_coder_7d493, cJ0_coder_7d493, 1, (some .byte), RJ0)
abbrev M_J0_isLatin1_aae02 : Mth := (yJ0_isLatin1_aae02, cJ0_isLatin1_aae02, 1, (some .boolean), RJ0)
abbrev M_J0_checkIndex_df160 : Mth := (yJ0_checkIndex_df160, cJ0_checkIndex_df160, 2, none, RJ0)
abbrev M_J1_charAt_3b067 : Mth := (yJ1_charAt_3b067, cJ1_charAt_3b067, 2, (some .char), RJ1)
abbrev M_J2_getChar_3b067 : Mth := (yJ2_getChar_3b067, cJ2_getChar_3b067, 2, (some .char), RJ2)
abbrev M_J2_length_9d52b : Mth := (yJ2_length_9d52b, cJ2_length_9d52b, 1, (some .int), RJ2)
abbrev M_J2_charAt_3b067 : Mth := (yJ2_charAt_3b067, cJ2_charAt_3b067, 2, (some .char), RJ2)
abbrev M_J2_checkIndex_2214a : Mth := (yJ2_checkIndex_2214a, cJ2_checkIndex_2214a, 2, none, RJ2)
abbrev M_J7_fill_53178 : Mth := (yJ7_fill_53178, cJ7_fill_53178, 4, none, RJ7)
abbrev M_J3_checkIndex_8e157 : Mth := (yJ3_checkIndex_8e157, cJ3_checkIndex_8e157, 3, (some .int), RJ3)
abbrev M_L_law : Mth := (yL_law, code, 4, some .boolean, RL)
theorem mo_X0_init : mOK M_X0_init 0 := ⟨w1_33, ⟨by decide +kernel, by decide +kernel, by decide +kernel⟩, by decide, w1_2⟩
theorem mo_X0_hasHole : mOK M_X0_hasHole 1 := ⟨w3_150, ⟨by decide +kernel, by decide +kernel, by decide +kernel⟩, by decide, w1_2⟩
theorem mo_X0_addHole : mOK M_X0_addHole 5 := ⟨w3_121, ⟨by decide +kernel, by decide +kernel, by decide +kernel⟩, by decide, w1_2⟩
theorem mo_X0_strikeHole : mOK M_X0_strikeHole 2 := ⟨w3_161, ⟨by decide +kernel, by decide +kernel, by decide +kernel⟩, by decide, w1_2⟩
theorem mo_X0_mark : mOK M_X0_mark 1 := ⟨w3_130, ⟨by decide +kernel, by decide +kernel, by decide +kernel⟩, by decide, w1_2⟩
theorem mo_X0_weekOfNews : mOK M_X0_weekOfNews 1 := ⟨w3_194, ⟨by decide +kernel, by decide +kernel, by decide +kernel⟩, by decide, w1_2⟩
theorem mo_X0_isSeen : mOK M_X0_isSeen 2 := ⟨w3_202, ⟨by decide +kernel, by decide +kernel, by decide +kernel⟩, by decide, w1_2⟩
theorem mo_X0_isDug : mOK M_X0_isDug 3 := ⟨w4_99, ⟨by decide +kernel, by decide +kernel, by decide +kernel⟩, by decide, w1_2⟩
theorem mo_X0_ploughedAt : mOK M_X0_ploughedAt 2 := ⟨w4_24, ⟨by decide +kernel, by decide +kernel, by decide +kernel⟩, by decide, w1_2⟩
theorem mo_X1_init : mOK M_X1_init 2 := ⟨w2_13, ⟨by decide +kernel, by decide +kernel, by decide +kernel⟩, by decide, w1_8⟩
theorem mo_X1_setKind : mOK M_X1_setKind 2 := ⟨w4_50, ⟨by decide +kernel, by decide +kernel, by decide +kernel⟩, by decide, w1_8⟩
theorem mo_X1_seek : mOK M_X1_seek 2 := ⟨w4_54, ⟨by decide +kernel, by decide +kernel, by decide +kernel⟩, by decide, w1_8⟩
theorem mo_X1_note : mOK M_X1_note 1 := ⟨w4_117, ⟨by decide +kernel, by decide +kernel, by decide +kernel⟩, by decide, w1_8⟩
theorem mo_X1_nameCorners : mOK M_X1_nameCorners 0 := ⟨w4_58, ⟨by decide +kernel, by decide +kernel, by decide +kernel⟩, by decide, w1_8⟩
theorem mo_X1_isFit : mOK M_X1_isFit 1 := ⟨w4_62, ⟨by decide +kernel, by decide +kernel, by decide +kernel⟩, by decide, w1_8⟩
theorem mo_X1_setStep : mOK M_X1_setStep 2 := ⟨w4_79, ⟨by decide +kernel, by decide +kernel, by decide +kernel⟩, by decide, w1_8⟩
theorem mo_X1_nameThirds : mOK M_X1_nameThirds 1 := ⟨w4_71, ⟨by decide +kernel, by decide +kernel, by decide +kernel⟩, by decide, w1_8⟩
theorem mo_X1_setApart : mOK M_X1_setApart 2 := ⟨w4_83, ⟨by decide +kernel, by decide +kernel, by decide +kernel⟩, by decide, w1_8⟩
theorem mo_X1_isLong : mOK M_X1_isLong 3 := ⟨w4_75, ⟨by decide +kernel, by decide +kernel, by decide +kernel⟩, by decide, w1_8⟩
theorem mo_X1_grow : mOK M_X1_grow 0 := ⟨w4_87, ⟨by decide +kernel, by decide +kernel, by decide +kernel⟩, by decide, w1_8⟩
theorem mo_X1_keep : mOK M_X1_keep 1 := ⟨w4_113, ⟨by decide +kernel, by decide +kernel, by decide +kernel⟩, by decide, w1_8⟩
theorem mo_X1_fillAcross : mOK M_X1_fillAcross 1 := ⟨w4_91, ⟨by decide +kernel, by decide +kernel, by decide +kernel⟩, by decide, w1_8⟩
theorem mo_X1_countUnfilled : mOK M_X1_countUnfilled 1 := ⟨w4_104, ⟨by decide +kernel, by decide +kernel, by decide +kernel⟩, by decide, w1_8⟩
theorem mo_X1_fill : mOK M_X1_fill 2 := ⟨w4_108, ⟨by decide +kernel, by decide +kernel, by decide +kernel⟩, by decide, w1_8⟩
theorem mo_X1_stateAt : mOK M_X1_stateAt 2 := ⟨w4_95, ⟨by decide +kernel, by decide +kernel, by decide +kernel⟩, by decide, w1_8⟩
theorem mo_X1_placeOf : mOK M_X1_placeOf 3 := ⟨w5_175, ⟨by decide +kernel, by decide +kernel, by decide +kernel⟩, by decide, w1_8⟩
theorem mo_X2_init : mOK M_X2_init 0 := ⟨w2_19, ⟨by decide +kernel, by decide +kernel, by decide +kernel⟩, by decide, w1_9⟩
theorem mo_X2_copy : mOK M_X2_copy 1 := ⟨w4_138, ⟨by decide +kernel, by decide +kernel, by decide +kernel⟩, by decide, w1_9⟩
theorem mo_X2_meets : mOK M_X2_meets 1 := ⟨w4_185, ⟨by decide +kernel, by decide +kernel, by decide +kernel⟩, by decide, w1_9⟩
theorem mo_X2_isParted : mOK M_X2_isParted 3 := ⟨w4_189, ⟨by decide +kernel, by decide +kernel, by decide +kernel⟩, by decide, w1_9⟩
theorem mo_X2_lowest : mOK M_X2_lowest 2 := ⟨w4_197, ⟨by decide +kernel, by decide +kernel, by decide +kernel⟩, by decide, w1_9⟩
theorem mo_X2_highest : mOK M_X2_highest 2 := ⟨w4_193, ⟨by decide +kernel, by decide +kernel, by decide +kernel⟩, by decide, w1_9⟩
theorem mo_X3_init : mOK M_X3_init 0 := ⟨w2_173, ⟨by decide +kernel, by decide +kernel, by decide +kernel⟩, by decide, w1_10⟩
theorem mo_X3_get : mOK M_X3_get 1 := ⟨w4_176, ⟨by decide +kernel, by decide +kernel, by decide +kernel⟩, by decide, w1_10⟩
theorem mo_X3_clear : mOK M_X3_clear 0 := ⟨w4_46, ⟨by decide +kernel, by decide +kernel, by decide +kernel⟩, by decide, w1_10⟩
theorem mo_X3_offer : mOK M_X3_offer 1 := ⟨w4_122, ⟨by decide +kernel, by decide +kernel, by decide +kernel⟩, by decide, w1_10⟩
theorem mo_X3_findAlike : mOK M_X3_findAlike 1 := ⟨w4_126, ⟨by decide +kernel, by decide +kernel, by decide +kernel⟩, by decide, w1_10⟩
theorem mo_X3_drop : mOK M_X3_drop 1 := ⟨w4_130, ⟨by decide +kernel, by decide +kernel, by decide +kernel⟩, by decide, w1_10⟩
theorem mo_X3_insert : mOK M_X3_insert 1 := ⟨w4_134, ⟨by decide +kernel, by decide +kernel, by decide +kernel⟩, by decide, w1_10⟩
theorem mo_X3_choose : mOK M_X3_choose 0 := ⟨w4_143, ⟨by decide +kernel, by decide +kernel, by decide +kernel⟩, by decide, w1_10⟩
theorem mo_X3_chooseFrom : mOK M_X3_chooseFrom 4 := ⟨w4_148, ⟨by decide +kernel, by decide +kernel, by decide +kernel⟩, by decide, w1_10⟩
theorem mo_X3_canBeat : mOK M_X3_canBeat 2 := ⟨w4_158, ⟨by decide +kernel, by decide +kernel, by decide +kernel⟩, by decide, w1_10⟩
theorem mo_X3_nameChosen : mOK M_X3_nameChosen 0 := ⟨w4_162, ⟨by decide +kernel, by decide +kernel, by decide +kernel⟩, by decide, w1_10⟩
theorem mo_X4_init : mOK M_X4_init 0 := ⟨w1_102, ⟨by decide +kernel, by decide +kernel, by decide +kernel⟩, by decide, w1_4⟩
theorem mo_X4_push : mOK M_X4_push 1 := ⟨w5_31, ⟨by decide +kernel, by decide +kernel, by decide +kernel⟩, by decide, w1_4⟩
theorem mo_X4_read : mOK M_X4_read 0 := ⟨w5_43, ⟨by decide +kernel, by decide +kernel, by decide +kernel⟩, by decide, w1_4⟩
theorem mo_X4_readKinds : mOK M_X4_readKinds 0 := ⟨w5_54, ⟨by decide +kernel, by decide +kernel, by decide +kernel⟩, by decide, w1_4⟩
theorem mo_X4_readKind : mOK M_X4_readKind 1 := ⟨w5_58, ⟨by decide +kernel, by decide +kernel, by decide +kernel⟩, by decide, w1_4⟩
theorem mo_X4_readClause : mOK M_X4_readClause 1 := ⟨w5_122, ⟨by decide +kernel, by decide +kernel, by decide +kernel⟩, by decide, w1_4⟩
theorem mo_X4_wordOf : mOK M_X4_wordOf 1 := ⟨w5_125, ⟨by decide +kernel, by decide +kernel, by decide +kernel⟩, by decide, w1_4⟩
theorem mo_X4_next : mOK M_X4_next 0 := ⟨w5_47, ⟨by decide +kernel, by decide +kernel, by decide +kernel⟩, by decide, w1_4⟩
theorem mo_X4_sortOf : mOK M_X4_sortOf 1 := ⟨w5_50, ⟨by decide +kernel, by decide +kernel, by decide +kernel⟩, by decide, w1_4⟩
theorem mo_X4_take : mOK M_X4_take 1 := ⟨w5_68, ⟨by decide +kernel, by decide +kernel, by decide +kernel⟩, by decide, w1_4⟩
theorem mo_X4_numberHere : mOK M_X4_numberHere 0 := ⟨w5_139, ⟨by decide +kernel, by decide +kernel, by decide +kernel⟩, by decide, w1_4⟩
theorem mo_X5_init : mOK M_X5_init 1 := ⟨w1_39, ⟨by decide +kernel, by decide +kernel, by decide +kernel⟩, by decide, w1_3⟩
theorem mo_X5_isFull : mOK M_X5_isFull 0 := ⟨w3_117, ⟨by decide +kernel, by decide +kernel, by decide +kernel⟩, by decide, w1_3⟩
theorem mo_X5_add : mOK M_X5_add 5 := ⟨w3_125, ⟨by decide +kernel, by decide +kernel, by decide +kernel⟩, by decide, w1_3⟩
theorem mo_X5_get : mOK M_X5_get 2 := ⟨w3_206, ⟨by decide +kernel, by decide +kernel, by decide +kernel⟩, by decide, w1_3⟩
theorem mo_X6_init : mOK M_X6_init 0 := ⟨w2_211, ⟨by decide +kernel, by decide +kernel, by decide +kernel⟩, by decide, w1_11⟩
theorem mo_X6_setPhases : mOK M_X6_setPhases 4 := ⟨w4_167, ⟨by decide +kernel, by decide +kernel, by decide +kernel⟩, by decide, w1_11⟩
theorem mo_X6_nameMembers : mOK M_X6_nameMembers 1 := ⟨w4_171, ⟨by decide +kernel, by decide +kernel, by decide +kernel⟩, by decide, w1_11⟩
theorem mo_X6_meetMembers : mOK M_X6_meetMembers 0 := ⟨w4_181, ⟨by decide +kernel, by decide +kernel, by decide +kernel⟩, by decide, w1_11⟩
theorem mo_X6_cutMembers : mOK M_X6_cutMembers 4 := ⟨w4_202, ⟨by decide +kernel, by decide +kernel, by decide +kernel⟩, by decide, w1_11⟩
theorem mo_X6_memberWith : mOK M_X6_memberWith 3 := ⟨w4_207, ⟨by decide +kernel, by decide +kernel, by decide +kernel⟩, by decide, w1_11⟩
theorem mo_X6_memberFor : mOK M_X6_memberFor 1 := ⟨w4_212, ⟨by decide +kernel, by decide +kernel, by decide +kernel⟩, by decide, w1_11⟩
theorem mo_X6_relateMembers : mOK M_X6_relateMembers 0 := ⟨w4_216, ⟨by decide +kernel, by decide +kernel, by decide +kernel⟩, by decide, w1_11⟩
theorem mo_X6_listSets : mOK M_X6_listSets 0 := ⟨w4_223, ⟨by decide +kernel, by decide +kernel, by decide +kernel⟩, by decide, w1_11⟩
theorem mo_X6_digitShift : mOK M_X6_digitShift 1 := ⟨w4_230, ⟨by decide +kernel, by decide +kernel, by decide +kernel⟩, by decide, w1_11⟩
theorem mo_X6_goOnFrom : mOK M_X6_goOnFrom 1 := ⟨w4_234, ⟨by decide +kernel, by decide +kernel, by decide +kernel⟩, by decide, w1_11⟩
theorem mo_X6_openAfter : mOK M_X6_openAfter 1 := ⟨w4_238, ⟨by decide +kernel, by decide +kernel, by decide +kernel⟩, by decide, w1_11⟩
theorem mo_X6_takeBestRow : mOK M_X6_takeBestRow 0 := ⟨w5_6, ⟨by decide +kernel, by decide +kernel, by decide +kernel⟩, by decide, w1_11⟩
theorem mo_X6_setStarts : mOK M_X6_setStarts 4 := ⟨w5_10, ⟨by decide +kernel, by decide +kernel, by decide +kernel⟩, by decide, w1_11⟩
theorem mo_X6_pushLater : mOK M_X6_pushLater 1 := ⟨w5_15, ⟨by decide +kernel, by decide +kernel, by decide +kernel⟩, by decide, w1_11⟩
theorem mo_X6_pushEarlier : mOK M_X6_pushEarlier 1 := ⟨w5_19, ⟨by decide +kernel, by decide +kernel, by decide +kernel⟩, by decide, w1_11⟩
theorem mo_X6_sureIn : mOK M_X6_sureIn 1 := ⟨w5_225, ⟨by decide +kernel, by decide +kernel, by decide +kernel⟩, by decide, w1_11⟩
theorem mo_X6_mostIn : mOK M_X6_mostIn 1 := ⟨w5_229, ⟨by decide +kernel, by decide +kernel, by decide +kernel⟩, by decide, w1_11⟩
theorem mo_X7_init : mOK M_X7_init 1 := ⟨w1_146, ⟨by decide +kernel, by decide +kernel, by decide +kernel⟩, by decide, w1_6⟩
theorem mo_X7_look : mOK M_X7_look 1 := ⟨w3_198, ⟨by decide +kernel, by decide +kernel, by decide +kernel⟩, by decide, w1_6⟩
theorem mo_X7_isOfSecond : mOK M_X7_isOfSecond 1 := ⟨w3_223, ⟨by decide +kernel, by decide +kernel, by decide +kernel⟩, by decide, w1_6⟩
theorem mo_X7_joinFrames : mOK M_X7_joinFrames 0 := ⟨w3_212, ⟨by decide +kernel, by decide +kernel, by decide +kernel⟩, by decide, w1_6⟩
theorem mo_X7_turnHole : mOK M_X7_turnHole 2 := ⟨w3_227, ⟨by decide +kernel, by decide +kernel, by decide +kernel⟩, by decide, w1_6⟩
theorem mo_X7_countHits : mOK M_X7_countHits 1 := ⟨w3_216, ⟨by decide +kernel, by decide +kernel, by decide +kernel⟩, by decide, w1_6⟩
theorem mo_X7_countShifts : mOK M_X7_countShifts 3 := ⟨w3_231, ⟨by decide +kernel, by decide +kernel, by decide +kernel⟩, by decide, w1_6⟩
theorem mo_X7_takeBestShift : mOK M_X7_takeBestShift 1 := ⟨w3_239, ⟨by decide +kernel, by decide +kernel, by decide +kernel⟩, by decide, w1_6⟩
theorem mo_X7_nameSpots : mOK M_X7_nameSpots 0 := ⟨w4_6, ⟨by decide +kernel, by decide +kernel, by decide +kernel⟩, by decide, w1_6⟩
theorem mo_X7_spotFor : mOK M_X7_spotFor 1 := ⟨w4_10, ⟨by decide +kernel, by decide +kernel, by decide +kernel⟩, by decide, w1_6⟩
theorem mo_X7_isNear : mOK M_X7_isNear 2 := ⟨w4_15, ⟨by decide +kernel, by decide +kernel, by decide +kernel⟩, by decide, w1_6⟩
theorem mo_X7_deepenSpots : mOK M_X7_deepenSpots 0 := ⟨w4_19, ⟨by decide +kernel, by decide +kernel, by decide +kernel⟩, by decide, w1_6⟩
theorem mo_X8_init : mOK M_X8_init 0 := ⟨w1_213, ⟨by decide +kernel, by decide +kernel, by decide +kernel⟩, by decide, w1_7⟩
theorem mo_X8_load : mOK M_X8_load 1 := ⟨w4_29, ⟨by decide +kernel, by decide +kernel, by decide +kernel⟩, by decide, w1_7⟩
theorem mo_X8_rotate : mOK M_X8_rotate 1 := ⟨w4_34, ⟨by decide +kernel, by decide +kernel, by decide +kernel⟩, by decide, w1_7⟩
theorem mo_X8_sortByX : mOK M_X8_sortByX 0 := ⟨w4_38, ⟨by decide +kernel, by decide +kernel, by decide +kernel⟩, by decide, w1_7⟩
theorem mo_X8_nearest : mOK M_X8_nearest 3 := ⟨w4_66, ⟨by decide +kernel, by decide +kernel, by decide +kernel⟩, by decide, w1_7⟩
theorem mo_X9_init : mOK M_X9_init 2 := ⟨w1_140, ⟨by decide +kernel, by decide +kernel, by decide +kernel⟩, by decide, w1_5⟩
theorem mo_X9_forget : mOK M_X9_forget 1 := ⟨w3_135, ⟨by decide +kernel, by decide +kernel, by decide +kernel⟩, by decide, w1_5⟩
theorem mo_X9_reach : mOK M_X9_reach 2 := ⟨w3_189, ⟨by decide +kernel, by decide +kernel, by decide +kernel⟩, by decide, w1_5⟩
theorem mo_X9_findHouses : mOK M_X9_findHouses 0 := ⟨w4_42, ⟨by decide +kernel, by decide +kernel, by decide +kernel⟩, by decide, w1_5⟩
theorem mo_X9_placeOf : mOK M_X9_placeOf 3 := ⟨w5_170, ⟨by decide +kernel, by decide +kernel, by decide +kernel⟩, by decide, w1_5⟩
theorem mo_X9_strengthOf : mOK M_X9_strengthOf 1 := ⟨w5_187, ⟨by decide +kernel, by decide +kernel, by decide +kernel⟩, by decide, w1_5⟩
theorem mo_X9_tryChance : mOK M_X9_tryChance 1 := ⟨w5_191, ⟨by decide +kernel, by decide +kernel, by decide +kernel⟩, by decide, w1_5⟩
theorem mo_X9_setFences : mOK M_X9_setFences 0 := ⟨w5_238, ⟨by decide +kernel, by decide +kernel, by decide +kernel⟩, by decide, w1_5⟩
theorem mo_X9_setFence : mOK M_X9_setFence 0 := ⟨w6_3, ⟨by decide +kernel, by decide +kernel, by decide +kernel⟩, by decide, w1_5⟩
theorem mo_X9_isLoose : mOK M_X9_isLoose 1 := ⟨w6_7, ⟨by decide +kernel, by decide +kernel, by decide +kernel⟩, by decide, w1_5⟩
theorem mo_X9_countNear : mOK M_X9_countNear 2 := ⟨w6_11, ⟨by decide +kernel, by decide +kernel, by decide +kernel⟩, by decide, w1_5⟩
theorem mo_X9_isNearLine : mOK M_X9_isNearLine 3 := ⟨w6_15, ⟨by decide +kernel, by decide +kernel, by decide +kernel⟩, by decide, w1_5⟩
theorem mo_X10_init : mOK M_X10_init 0 := ⟨w1_25, ⟨by decide +kernel, by decide +kernel, by decide +kernel⟩, by decide, w1_1⟩
theorem mo_X10_hole : mOK M_X10_hole 5 := ⟨w3_103, ⟨by decide +kernel, by decide +kernel, by decide +kernel⟩, by decide, w1_1⟩
theorem mo_X10_retell : mOK M_X10_retell 3 := ⟨w3_146, ⟨by decide +kernel, by decide +kernel, by decide +kernel⟩, by decide, w1_1⟩
theorem mo_X10_strike : mOK M_X10_strike 2 := ⟨w3_157, ⟨by decide +kernel, by decide +kernel, by decide +kernel⟩, by decide, w1_1⟩
theorem mo_X10_trench : mOK M_X10_trench 5 := ⟨w3_167, ⟨by decide +kernel, by decide +kernel, by decide +kernel⟩, by decide, w1_1⟩
theorem mo_X10_plough : mOK M_X10_plough 5 := ⟨w3_177, ⟨by decide +kernel, by decide +kernel, by decide +kernel⟩, by decide, w1_1⟩
theorem mo_X10_error : mOK M_X10_error 1 := ⟨w3_181, ⟨by decide +kernel, by decide +kernel, by decide +kernel⟩, by decide, w1_1⟩
theorem mo_X10_frame : mOK M_X10_frame 2 := ⟨w3_185, ⟨by decide +kernel, by decide +kernel, by decide +kernel⟩, by decide, w1_1⟩
theorem mo_X10_spot : mOK M_X10_spot 3 := ⟨w5_23, ⟨by decide +kernel, by decide +kernel, by decide +kernel⟩, by decide, w1_1⟩
theorem mo_X10_feed : mOK M_X10_feed 5 := ⟨w5_27, ⟨by decide +kernel, by decide +kernel, by decide +kernel⟩, by decide, w1_1⟩
theorem mo_X10_end : mOK M_X10_end 1 := ⟨w5_35, ⟨by decide +kernel, by decide +kernel, by decide +kernel⟩, by decide, w1_1⟩
theorem mo_X10_kinds : mOK M_X10_kinds 0 := ⟨w5_39, ⟨by decide +kernel, by decide +kernel, by decide +kernel⟩, by decide, w1_1⟩
theorem mo_X10_fault : mOK M_X10_fault 0 := ⟨w5_153, ⟨by decide +kernel, by decide +kernel, by decide +kernel⟩, by decide, w1_1⟩
theorem mo_X10_houses : mOK M_X10_houses 1 := ⟨w5_157, ⟨by decide +kernel, by decide +kernel, by decide +kernel⟩, by decide, w1_1⟩
theorem mo_X10_house : mOK M_X10_house 3 := ⟨w5_161, ⟨by decide +kernel, by decide +kernel, by decide +kernel⟩, by decide, w1_1⟩
theorem mo_X10_place : mOK M_X10_place 4 := ⟨w5_166, ⟨by decide +kernel, by decide +kernel, by decide +kernel⟩, by decide, w1_1⟩
theorem mo_X10_explained : mOK M_X10_explained 2 := ⟨w5_179, ⟨by decide +kernel, by decide +kernel, by decide +kernel⟩, by decide, w1_1⟩
theorem mo_X10_strength : mOK M_X10_strength 2 := ⟨w5_183, ⟨by decide +kernel, by decide +kernel, by decide +kernel⟩, by decide, w1_1⟩
theorem mo_X10_cut : mOK M_X10_cut 3 := ⟨w5_196, ⟨by decide +kernel, by decide +kernel, by decide +kernel⟩, by decide, w1_1⟩
theorem mo_X10_pair : mOK M_X10_pair 4 := ⟨w5_200, ⟨by decide +kernel, by decide +kernel, by decide +kernel⟩, by decide, w1_1⟩
theorem mo_X10_phases : mOK M_X10_phases 2 := ⟨w5_205, ⟨by decide +kernel, by decide +kernel, by decide +kernel⟩, by decide, w1_1⟩
theorem mo_X10_phase : mOK M_X10_phase 2 := ⟨w5_209, ⟨by decide +kernel, by decide +kernel, by decide +kernel⟩, by decide, w1_1⟩
theorem mo_X10_date : mOK M_X10_date 4 := ⟨w5_213, ⟨by decide +kernel, by decide +kernel, by decide +kernel⟩, by decide, w1_1⟩
theorem mo_X10_start : mOK M_X10_start 3 := ⟨w5_217, ⟨by decide +kernel, by decide +kernel, by decide +kernel⟩, by decide, w1_1⟩
theorem mo_X10_stands : mOK M_X10_stands 3 := ⟨w5_221, ⟨by decide +kernel, by decide +kernel, by decide +kernel⟩, by decide, w1_1⟩
theorem mo_X10_fences : mOK M_X10_fences 1 := ⟨w5_234, ⟨by decide +kernel, by decide +kernel, by decide +kernel⟩, by decide, w1_1⟩
theorem mo_X10_led : mOK M_X10_led 3 := ⟨w6_20, ⟨by decide +kernel, by decide +kernel, by decide +kernel⟩, by decide, w1_1⟩
theorem mo_X10_count : mOK M_X10_count 1 := ⟨w6_24, ⟨by decide +kernel, by decide +kernel, by decide +kernel⟩, by decide, w1_1⟩
theorem mo_X10_status : mOK M_X10_status 0 := ⟨w6_28, ⟨by decide +kernel, by decide +kernel, by decide +kernel⟩, by decide, w1_1⟩
theorem mo_X10_refuse : mOK M_X10_refuse 1 := ⟨w3_113, ⟨by decide +kernel, by decide +kernel, by decide +kernel⟩, by decide, w1_1⟩
theorem mo_X10_accept : mOK M_X10_accept 1 := ⟨w3_142, ⟨by decide +kernel, by decide +kernel, by decide +kernel⟩, by decide, w1_1⟩
theorem mo_X10_isIn : mOK M_X10_isIn 3 := ⟨w3_106, ⟨by decide +kernel, by decide +kernel, by decide +kernel⟩, by decide, w1_1⟩
theorem mo_X10_isWeek : mOK M_X10_isWeek 1 := ⟨w3_109, ⟨by decide +kernel, by decide +kernel, by decide +kernel⟩, by decide, w1_1⟩
theorem mo_X10_isInField : mOK M_X10_isInField 2 := ⟨w3_173, ⟨by decide +kernel, by decide +kernel, by decide +kernel⟩, by decide, w1_1⟩
theorem mo_X10_isPlot : mOK M_X10_isPlot 4 := ⟨w3_170, ⟨by decide +kernel, by decide +kernel, by decide +kernel⟩, by decide, w1_1⟩
theorem mo_X11_init : mOK M_X11_init 0 := ⟨w6_33, ⟨by decide +kernel, by decide +kernel, by decide +kernel⟩, by decide, w1_12⟩
theorem mo_X11_in : mOK M_X11_in 3 := ⟨w7_101, ⟨by decide +kernel, by decide +kernel, by decide +kernel⟩, by decide, w1_12⟩
theorem mo_X11_isWeek : mOK M_X11_isWeek 1 := ⟨w7_104, ⟨by decide +kernel, by decide +kernel, by decide +kernel⟩, by decide, w1_12⟩
theorem mo_X11_ends : mOK M_X11_ends 1 := ⟨w7_108, ⟨by decide +kernel, by decide +kernel, by decide +kernel⟩, by decide, w1_12⟩
theorem mo_X11_isHole : mOK M_X11_isHole 1 := ⟨w7_116, ⟨by decide +kernel, by decide +kernel, by decide +kernel⟩, by decide, w1_12⟩
theorem mo_X11_hole : mOK M_X11_hole 5 := ⟨w7_98, ⟨by decide +kernel, by decide +kernel, by decide +kernel⟩, by decide, w1_12⟩
theorem mo_X11_retell : mOK M_X11_retell 3 := ⟨w7_112, ⟨by decide +kernel, by decide +kernel, by decide +kernel⟩, by decide, w1_12⟩
theorem mo_X11_strike : mOK M_X11_strike 2 := ⟨w7_120, ⟨by decide +kernel, by decide +kernel, by decide +kernel⟩, by decide, w1_12⟩
theorem mo_X11_isBox : mOK M_X11_isBox 4 := ⟨w7_127, ⟨by decide +kernel, by decide +kernel, by decide +kernel⟩, by decide, w1_12⟩
theorem mo_X11_trench : mOK M_X11_trench 5 := ⟨w7_124, ⟨by decide +kernel, by decide +kernel, by decide +kernel⟩, by decide, w1_12⟩
theorem mo_X11_plough : mOK M_X11_plough 5 := ⟨w7_131, ⟨by decide +kernel, by decide +kernel, by decide +kernel⟩, by decide, w1_12⟩
theorem mo_X11_error : mOK M_X11_error 1 := ⟨w7_135, ⟨by decide +kernel, by decide +kernel, by decide +kernel⟩, by decide, w1_12⟩
theorem mo_X11_cut : mOK M_X11_cut 3 := ⟨w7_139, ⟨by decide +kernel, by decide +kernel, by decide +kernel⟩, by decide, w1_12⟩
theorem mo_X11_date : mOK M_X11_date 4 := ⟨w7_143, ⟨by decide +kernel, by decide +kernel, by decide +kernel⟩, by decide, w1_12⟩
theorem mo_X11_feed : mOK M_X11_feed 5 := ⟨w7_147, ⟨by decide +kernel, by decide +kernel, by decide +kernel⟩, by decide, w1_12⟩
theorem mo_X11_end : mOK M_X11_end 1 := ⟨w7_151, ⟨by decide +kernel, by decide +kernel, by decide +kernel⟩, by decide, w1_12⟩
theorem mo_X11_isIn : mOK M_X11_isIn 3 := ⟨w7_163, ⟨by decide +kernel, by decide +kernel, by decide +kernel⟩, by decide, w1_12⟩
theorem mo_X11_next : mOK M_X11_next 0 := ⟨w7_159, ⟨by decide +kernel, by decide +kernel, by decide +kernel⟩, by decide, w1_12⟩
theorem mo_X11_isWord : mOK M_X11_isWord 1 := ⟨w7_172, ⟨by decide +kernel, by decide +kernel, by decide +kernel⟩, by decide, w1_12⟩
theorem mo_X11_isSign : mOK M_X11_isSign 1 := ⟨w7_190, ⟨by decide +kernel, by decide +kernel, by decide +kernel⟩, by decide, w1_12⟩
theorem mo_X11_good : mOK M_X11_good 0 := ⟨w7_182, ⟨by decide +kernel, by decide +kernel, by decide +kernel⟩, by decide, w1_12⟩
theorem mo_X11_faults : mOK M_X11_faults 0 := ⟨w7_178, ⟨by decide +kernel, by decide +kernel, by decide +kernel⟩, by decide, w1_12⟩
theorem mo_X11_needSign : mOK M_X11_needSign 1 := ⟨w7_186, ⟨by decide +kernel, by decide +kernel, by decide +kernel⟩, by decide, w1_12⟩
theorem mo_X11_number : mOK M_X11_number 2 := ⟨w7_217, ⟨by decide +kernel, by decide +kernel, by decide +kernel⟩, by decide, w1_12⟩
theorem mo_X11_wordOf : mOK M_X11_wordOf 1 := ⟨w7_197, ⟨by decide +kernel, by decide +kernel, by decide +kernel⟩, by decide, w1_12⟩
theorem mo_X11_leastOf : mOK M_X11_leastOf 1 := ⟨w7_210, ⟨by decide +kernel, by decide +kernel, by decide +kernel⟩, by decide, w1_12⟩
theorem mo_X11_mostOf : mOK M_X11_mostOf 1 := ⟨w7_213, ⟨by decide +kernel, by decide +kernel, by decide +kernel⟩, by decide, w1_12⟩
theorem mo_X11_isSpan : mOK M_X11_isSpan 1 := ⟨w7_220, ⟨by decide +kernel, by decide +kernel, by decide +kernel⟩, by decide, w1_12⟩
theorem mo_X11_clause : mOK M_X11_clause 0 := ⟨w7_194, ⟨by decide +kernel, by decide +kernel, by decide +kernel⟩, by decide, w1_12⟩
theorem mo_X11_kind : mOK M_X11_kind 0 := ⟨w7_167, ⟨by decide +kernel, by decide +kernel, by decide +kernel⟩, by decide, w1_12⟩
theorem mo_X11_kinds : mOK M_X11_kinds 0 := ⟨w7_155, ⟨by decide +kernel, by decide +kernel, by decide +kernel⟩, by decide, w1_12⟩
theorem mo_X11_fault : mOK M_X11_fault 0 := ⟨w7_225, ⟨by decide +kernel, by decide +kernel, by decide +kernel⟩, by decide, w1_12⟩
theorem mo_X11_isThere : mOK M_X11_isThere 2 := ⟨w8_5, ⟨by decide +kernel, by decide +kernel, by decide +kernel⟩, by decide, w1_12⟩
theorem mo_X11_turnedX : mOK M_X11_turnedX 2 := ⟨w8_9, ⟨by decide +kernel, by decide +kernel, by decide +kernel⟩, by decide, w1_12⟩
theorem mo_X11_turnedY : mOK M_X11_turnedY 2 := ⟨w8_13, ⟨by decide +kernel, by decide +kernel, by decide +kernel⟩, by decide, w1_12⟩
theorem mo_X11_size : mOK M_X11_size 1 := ⟨w8_24, ⟨by decide +kernel, by decide +kernel, by decide +kernel⟩, by decide, w1_12⟩
theorem mo_X11_isNear : mOK M_X11_isNear 3 := ⟨w8_21, ⟨by decide +kernel, by decide +kernel, by decide +kernel⟩, by decide, w1_12⟩
theorem mo_X11_strikesOne : mOK M_X11_strikesOne 3 := ⟨w8_17, ⟨by decide +kernel, by decide +kernel, by decide +kernel⟩, by decide, w1_12⟩
theorem mo_X11_frames : mOK M_X11_frames 1 := ⟨w8_1, ⟨by decide +kernel, by decide +kernel, by decide +kernel⟩, by decide, w1_12⟩
theorem mo_X11_isField : mOK M_X11_isField 2 := ⟨w8_27, ⟨by decide +kernel, by decide +kernel, by decide +kernel⟩, by decide, w1_12⟩
theorem mo_X11_depthOf : mOK M_X11_depthOf 2 := ⟨w8_31, ⟨by decide +kernel, by decide +kernel, by decide +kernel⟩, by decide, w1_12⟩
theorem mo_X11_ploughed : mOK M_X11_ploughed 2 := ⟨w8_35, ⟨by decide +kernel, by decide +kernel, by decide +kernel⟩, by decide, w1_12⟩
theorem mo_X11_isDug : mOK M_X11_isDug 3 := ⟨w8_59, ⟨by decide +kernel, by decide +kernel, by decide +kernel⟩, by decide, w1_12⟩
theorem mo_X11_finds : mOK M_X11_finds 1 := ⟨w7_237, ⟨by decide +kernel, by decide +kernel, by decide +kernel⟩, by decide, w1_12⟩
theorem mo_X11_far : mOK M_X11_far 3 := ⟨w8_55, ⟨by decide +kernel, by decide +kernel, by decide +kernel⟩, by decide, w1_12⟩
theorem mo_X11_placed : mOK M_X11_placed 4 := ⟨w8_51, ⟨by decide +kernel, by decide +kernel, by decide +kernel⟩, by decide, w1_12⟩
theorem mo_X11_isHouseWith : mOK M_X11_isHouseWith 6 := ⟨w8_47, ⟨by decide +kernel, by decide +kernel, by decide +kernel⟩, by decide, w1_12⟩
theorem mo_X11_framed : mOK M_X11_framed 5 := ⟨w8_43, ⟨by decide +kernel, by decide +kernel, by decide +kernel⟩, by decide, w1_12⟩
theorem mo_X11_keeps : mOK M_X11_keeps 5 := ⟨w8_63, ⟨by decide +kernel, by decide +kernel, by decide +kernel⟩, by decide, w1_12⟩
theorem mo_X11_copies : mOK M_X11_copies 2 := ⟨w8_67, ⟨by decide +kernel, by decide +kernel, by decide +kernel⟩, by decide, w1_12⟩
theorem mo_X11_goes : mOK M_X11_goes 3 := ⟨w8_39, ⟨by decide +kernel, by decide +kernel, by decide +kernel⟩, by decide, w1_12⟩
theorem mo_X11_chooses : mOK M_X11_chooses 4 := ⟨w8_71, ⟨by decide +kernel, by decide +kernel, by decide +kernel⟩, by decide, w1_12⟩
theorem mo_X11_isOf : mOK M_X11_isOf 2 := ⟨w8_93, ⟨by decide +kernel, by decide +kernel, by decide +kernel⟩, by decide, w1_12⟩
theorem mo_X11_corners : mOK M_X11_corners 2 := ⟨w8_79, ⟨by decide +kernel, by decide +kernel, by decide +kernel⟩, by decide, w1_12⟩
theorem mo_X11_parts : mOK M_X11_parts 2 := ⟨w8_83, ⟨by decide +kernel, by decide +kernel, by decide +kernel⟩, by decide, w1_12⟩
theorem mo_X11_isLaterThan : mOK M_X11_isLaterThan 3 := ⟨w8_89, ⟨by decide +kernel, by decide +kernel, by decide +kernel⟩, by decide, w1_12⟩
theorem mo_X11_fits : mOK M_X11_fits 2 := ⟨w8_105, ⟨by decide +kernel, by decide +kernel, by decide +kernel⟩, by decide, w1_12⟩
theorem mo_X11_numbers : mOK M_X11_numbers 2 := ⟨w8_101, ⟨by decide +kernel, by decide +kernel, by decide +kernel⟩, by decide, w1_12⟩
theorem mo_X11_isRound : mOK M_X11_isRound 0 := ⟨w8_97, ⟨by decide +kernel, by decide +kernel, by decide +kernel⟩, by decide, w1_12⟩
theorem mo_X11_orders : mOK M_X11_orders 1 := ⟨w8_75, ⟨by decide +kernel, by decide +kernel, by decide +kernel⟩, by decide, w1_12⟩
theorem mo_X11_lifeOf : mOK M_X11_lifeOf 1 := ⟨w8_117, ⟨by decide +kernel, by decide +kernel, by decide +kernel⟩, by decide, w1_12⟩
theorem mo_X11_areBound : mOK M_X11_areBound 2 := ⟨w8_113, ⟨by decide +kernel, by decide +kernel, by decide +kernel⟩, by decide, w1_12⟩
theorem mo_X11_starts : mOK M_X11_starts 1 := ⟨w8_109, ⟨by decide +kernel, by decide +kernel, by decide +kernel⟩, by decide, w1_12⟩
theorem mo_X11_isBeside : mOK M_X11_isBeside 3 := ⟨w8_126, ⟨by decide +kernel, by decide +kernel, by decide +kernel⟩, by decide, w1_12⟩
theorem mo_X11_lines : mOK M_X11_lines 0 := ⟨w8_121, ⟨by decide +kernel, by decide +kernel, by decide +kernel⟩, by decide, w1_12⟩
theorem mo_X11_lays : mOK M_X11_lays 1 := ⟨w7_233, ⟨by decide +kernel, by decide +kernel, by decide +kernel⟩, by decide, w1_12⟩
theorem mo_X11_frame : mOK M_X11_frame 2 := ⟨w7_229, ⟨by decide +kernel, by decide +kernel, by decide +kernel⟩, by decide, w1_12⟩
theorem mo_X11_spot : mOK M_X11_spot 3 := ⟨w8_131, ⟨by decide +kernel, by decide +kernel, by decide +kernel⟩, by decide, w1_12⟩
theorem mo_X11_houses : mOK M_X11_houses 1 := ⟨w8_135, ⟨by decide +kernel, by decide +kernel, by decide +kernel⟩, by decide, w1_12⟩
theorem mo_X11_isHouse : mOK M_X11_isHouse 2 := ⟨w8_143, ⟨by decide +kernel, by decide +kernel, by decide +kernel⟩, by decide, w1_12⟩
theorem mo_X11_house : mOK M_X11_house 3 := ⟨w8_139, ⟨by decide +kernel, by decide +kernel, by decide +kernel⟩, by decide, w1_12⟩
theorem mo_X11_place : mOK M_X11_place 4 := ⟨w8_147, ⟨by decide +kernel, by decide +kernel, by decide +kernel⟩, by decide, w1_12⟩
theorem mo_X11_explained : mOK M_X11_explained 2 := ⟨w8_151, ⟨by decide +kernel, by decide +kernel, by decide +kernel⟩, by decide, w1_12⟩
theorem mo_X11_strength : mOK M_X11_strength 2 := ⟨w8_155, ⟨by decide +kernel, by decide +kernel, by decide +kernel⟩, by decide, w1_12⟩
theorem mo_X11_placeOf : mOK M_X11_placeOf 2 := ⟨w8_163, ⟨by decide +kernel, by decide +kernel, by decide +kernel⟩, by decide, w1_12⟩
theorem mo_X11_pair : mOK M_X11_pair 4 := ⟨w8_159, ⟨by decide +kernel, by decide +kernel, by decide +kernel⟩, by decide, w1_12⟩
theorem mo_X11_phases : mOK M_X11_phases 2 := ⟨w8_167, ⟨by decide +kernel, by decide +kernel, by decide +kernel⟩, by decide, w1_12⟩
theorem mo_X11_phase : mOK M_X11_phase 2 := ⟨w8_171, ⟨by decide +kernel, by decide +kernel, by decide +kernel⟩, by decide, w1_12⟩
theorem mo_X11_start : mOK M_X11_start 3 := ⟨w8_175, ⟨by decide +kernel, by decide +kernel, by decide +kernel⟩, by decide, w1_12⟩
theorem mo_X11_stands : mOK M_X11_stands 3 := ⟨w8_179, ⟨by decide +kernel, by decide +kernel, by decide +kernel⟩, by decide, w1_12⟩
theorem mo_X11_fences : mOK M_X11_fences 1 := ⟨w8_183, ⟨by decide +kernel, by decide +kernel, by decide +kernel⟩, by decide, w1_12⟩
theorem mo_X11_led : mOK M_X11_led 3 := ⟨w8_187, ⟨by decide +kernel, by decide +kernel, by decide +kernel⟩, by decide, w1_12⟩
theorem mo_X11_count : mOK M_X11_count 1 := ⟨w8_191, ⟨by decide +kernel, by decide +kernel, by decide +kernel⟩, by decide, w1_12⟩
theorem mo_X11_status : mOK M_X11_status 0 := ⟨w8_195, ⟨by decide +kernel, by decide +kernel, by decide +kernel⟩, by decide, w1_12⟩
theorem mo_J6_numberOfTrailingZeros_0f7a4 : mOK M_J6_numberOfTrailingZeros_0f7a4 1 := ⟨w4_226, ⟨by decide +kernel, by decide +kernel, by decide +kernel⟩, by decide, w1_15⟩
theorem mo_J6_bitCount_0f7a4 : mOK M_J6_bitCount_0f7a4 1 := ⟨w4_151, ⟨by decide +kernel, by decide +kernel, by decide +kernel⟩, by decide, w1_15⟩
theorem mo_J9_abs_0f7a4 : mOK M_J9_abs_0f7a4 1 := ⟨w4_2, ⟨by decide +kernel, by decide +kernel, by decide +kernel⟩, by decide, w1_13⟩
theorem mo_J9_max_7cf53 : mOK M_J9_max_7cf53 2 := ⟨w3_235, ⟨by decide +kernel, by decide +kernel, by decide +kernel⟩, by decide, w1_13⟩
theorem mo_J9_max_f86c9 : mOK M_J9_max_f86c9 2 := ⟨w5_2, ⟨by decide +kernel, by decide +kernel, by decide +kernel⟩, by decide, w1_13⟩
theorem mo_J9_min_7cf53 : mOK M_J9_min_7cf53 2 := ⟨w3_138, ⟨by decide +kernel, by decide +kernel, by decide +kernel⟩, by decide, w1_13⟩
theorem mo_J0_length_8abf5 : mOK M_J0_length_8abf5 0 := ⟨w5_72, ⟨by decide +kernel, by decide +kernel, by decide +kernel⟩, by decide, w1_17⟩
theorem mo_J0_charAt_5068e : mOK M_J0_charAt_5068e 1 := ⟨w5_82, ⟨by decide +kernel, by decide +kernel, by decide +kernel⟩, by decide, w1_17⟩
theorem mo_J0_coder_7d493 : mOK M_J0_coder_7d493 0 := ⟨w5_76, ⟨by decide +kernel, by decide +kernel, by decide +kernel⟩, by decide, w1_17⟩
theorem mo_J0_isLatin1_aae02 : mOK M_J0_isLatin1_aae02 0 := ⟨w5_86, ⟨by decide +kernel, by decide +kernel, by decide +kernel⟩, by decide, w1_17⟩
theorem mo_J0_checkIndex_df160 : mOK M_J0_checkIndex_df160 2 := ⟨w5_92, ⟨by decide +kernel, by decide +kernel, by decide +kernel⟩, by decide, w1_17⟩
theorem mo_J1_charAt_3b067 : mOK M_J1_charAt_3b067 2 := ⟨w5_89, ⟨by decide +kernel, by decide +kernel, by decide +kernel⟩, by decide, w1_18⟩
theorem mo_J2_getChar_3b067 : mOK M_J2_getChar_3b067 2 := ⟨w5_110, ⟨by decide +kernel, by decide +kernel, by decide +kernel⟩, by decide, w1_20⟩
theorem mo_J2_length_9d52b : mOK M_J2_length_9d52b 1 := ⟨w5_106, ⟨by decide +kernel, by decide +kernel, by decide +kernel⟩, by decide, w1_20⟩
theorem mo_J2_charAt_3b067 : mOK M_J2_charAt_3b067 2 := ⟨w5_100, ⟨by decide +kernel, by decide +kernel, by decide +kernel⟩, by decide, w1_20⟩
theorem mo_J2_checkIndex_2214a : mOK M_J2_checkIndex_2214a 2 := ⟨w5_103, ⟨by decide +kernel, by decide +kernel, by decide +kernel⟩, by decide, w1_20⟩
theorem mo_J7_fill_53178 : mOK M_J7_fill_53178 2 := ⟨w3_219, ⟨by decide +kernel, by decide +kernel, by decide +kernel⟩, by decide, w1_14⟩
theorem mo_J3_checkIndex_8e157 : mOK M_J3_checkIndex_8e157 3 := ⟨w5_97, ⟨by decide +kernel, by decide +kernel, by decide +kernel⟩, by decide, w1_19⟩
theorem ws_X10_refuse : Cond.selects (M_X10_refuse).1.cls (M_X10_refuse).1 (M_X10_refuse).1 ∈ WL := wl_t (List.mem_append_left _ (List.mem_map_of_mem (f := fun q : MethodName × Nat => Cond.selects q.1.cls q.1 q.1) (show ((M_X10_refuse).1, 4) ∈ lw_privs from (List.mem_append_left _ (show (⟨"PostHouses", "refuse", "(I)I"⟩, 4) ∈ lw_privs_1 from List.mem_of_getElem? (i := 0) rfl))))) rfl
theorem ws_X10_accept : Cond.selects (M_X10_accept).1.cls (M_X10_accept).1 (M_X10_accept).1 ∈ WL := wl_t (List.mem_append_left _ (List.mem_map_of_mem (f := fun q : MethodName × Nat => Cond.selects q.1.cls q.1 q.1) (show ((M_X10_accept).1, 4) ∈ lw_privs from (List.mem_append_left _ (show (⟨"PostHouses", "accept", "(I)I"⟩, 4) ∈ lw_privs_1 from List.mem_of_getElem? (i := 1) rfl))))) rfl
theorem ws_X7_joinFrames : Cond.selects (M_X7_joinFrames).1.cls (M_X7_joinFrames).1 (M_X7_joinFrames).1 ∈ WL := wl_t (List.mem_append_left _ (List.mem_map_of_mem (f := fun q : MethodName × Nat => Cond.selects q.1.cls q.1 q.1) (show ((M_X7_joinFrames).1, 15) ∈ lw_privs from (List.mem_append_left _ (show (⟨"PostHouses$Sight", "joinFrames", "()V"⟩, 15) ∈ lw_privs_1 from List.mem_of_getElem? (i := 2) rfl))))) rfl
theorem ws_X7_countHits : Cond.selects (M_X7_countHits).1.cls (M_X7_countHits).1 (M_X7_countHits).1 ∈ WL := wl_t (List.mem_append_left _ (List.mem_map_of_mem (f := fun q : MethodName × Nat => Cond.selects q.1.cls q.1 q.1) (show ((M_X7_countHits).1, 15) ∈ lw_privs from (List.mem_append_left _ (show (⟨"PostHouses$Sight", "countHits", "(I)V"⟩, 15) ∈ lw_privs_1 from List.mem_of_getElem? (i := 3) rfl))))) rfl
theorem ws_X7_isOfSecond : Cond.selects (M_X7_isOfSecond).1.cls (M_X7_isOfSecond).1 (M_X7_isOfSecond).1 ∈ WL := wl_t (List.mem_append_left _ (List.mem_map_of_mem (f := fun q : MethodName × Nat => Cond.selects q.1.cls q.1 q.1) (show ((M_X7_isOfSecond).1, 15) ∈ lw_privs from (List.mem_append_left _ (show (⟨"PostHouses$Sight", "isOfSecond", "(I)Z"⟩, 15) ∈ lw_privs_1 from List.mem_of_getElem? (i := 4) rfl))))) rfl
theorem ws_X7_turnHole : Cond.selects (M_X7_turnHole).1.cls (M_X7_turnHole).1 (M_X7_turnHole).1 ∈ WL := wl_t (List.mem_append_left _ (List.mem_map_of_mem (f := fun q : MethodName × Nat => Cond.selects q.1.cls q.1 q.1) (show ((M_X7_turnHole).1, 15) ∈ lw_privs from (List.mem_append_left _ (show (⟨"PostHouses$Sight", "turnHole", "(II)V"⟩, 15) ∈ lw_privs_1 from List.mem_of_getElem? (i := 5) rfl))))) rfl
theorem ws_X7_countShifts : Cond.selects (M_X7_countShifts).1.cls (M_X7_countShifts).1 (M_X7_countShifts).1 ∈ WL := wl_t (List.mem_append_left _ (List.mem_map_of_mem (f := fun q : MethodName × Nat => Cond.selects q.1.cls q.1 q.1) (show ((M_X7_countShifts).1, 15) ∈ lw_privs from (List.mem_append_left _ (show (⟨"PostHouses$Sight", "countShifts", "(III)V"⟩, 15) ∈ lw_privs_1 from List.mem_of_getElem? (i := 6) rfl))))) rfl
theorem ws_X7_takeBestShift : Cond.selects (M_X7_takeBestShift).1.cls (M_X7_takeBestShift).1 (M_X7_takeBestShift).1 ∈ WL := wl_t (List.mem_append_left _ (List.mem_map_of_mem (f := fun q : MethodName × Nat => Cond.selects q.1.cls q.1 q.1) (show ((M_X7_takeBestShift).1, 15) ∈ lw_privs from (List.mem_append_left _ (show (⟨"PostHouses$Sight", "takeBestShift", "(I)V"⟩, 15) ∈ lw_privs_1 from List.mem_of_getElem? (i := 7) rfl))))) rfl
theorem ws_X7_nameSpots : Cond.selects (M_X7_nameSpots).1.cls (M_X7_nameSpots).1 (M_X7_nameSpots).1 ∈ WL := wl_t (List.mem_append_left _ (List.mem_map_of_mem (f := fun q : MethodName × Nat => Cond.selects q.1.cls q.1 q.1) (show ((M_X7_nameSpots).1, 15) ∈ lw_privs from (List.mem_append_left _ (show (⟨"PostHouses$Sight", "nameSpots", "()V"⟩, 15) ∈ lw_privs_1 from List.mem_of_getElem? (i := 8) rfl))))) rfl
theorem ws_X7_spotFor : Cond.selects (M_X7_spotFor).1.cls (M_X7_spotFor).1 (M_X7_spotFor).1 ∈ WL := wl_t (List.mem_append_left _ (List.mem_map_of_mem (f := fun q : MethodName × Nat => Cond.selects q.1.cls q.1 q.1) (show ((M_X7_spotFor).1, 15) ∈ lw_privs from (List.mem_append_left _ (show (⟨"PostHouses$Sight", "spotFor", "(I)I"⟩, 15) ∈ lw_privs_1 from List.mem_of_getElem? (i := 9) rfl))))) rfl
theorem ws_X7_isNear : Cond.selects (M_X7_isNear).1.cls (M_X7_isNear).1 (M_X7_isNear).1 ∈ WL := wl_t (List.mem_append_left _ (List.mem_map_of_mem (f := fun q : MethodName × Nat => Cond.selects q.1.cls q.1 q.1) (show ((M_X7_isNear).1, 15) ∈ lw_privs from (List.mem_append_left _ (show (⟨"PostHouses$Sight", "isNear", "(II)Z"⟩, 15) ∈ lw_privs_1 from List.mem_of_getElem? (i := 10) rfl))))) rfl
theorem ws_X7_deepenSpots : Cond.selects (M_X7_deepenSpots).1.cls (M_X7_deepenSpots).1 (M_X7_deepenSpots).1 ∈ WL := wl_t (List.mem_append_left _ (List.mem_map_of_mem (f := fun q : MethodName × Nat => Cond.selects q.1.cls q.1 q.1) (show ((M_X7_deepenSpots).1, 15) ∈ lw_privs from (List.mem_append_left _ (show (⟨"PostHouses$Sight", "deepenSpots", "()V"⟩, 15) ∈ lw_privs_1 from List.mem_of_getElem? (i := 11) rfl))))) rfl
theorem ws_X8_sortByX : Cond.selects (M_X8_sortByX).1.cls (M_X8_sortByX).1 (M_X8_sortByX).1 ∈ WL := wl_t (List.mem_append_left _ (List.mem_map_of_mem (f := fun q : MethodName × Nat => Cond.selects q.1.cls q.1 q.1) (show ((M_X8_sortByX).1, 8) ∈ lw_privs from (List.mem_append_left _ (show (⟨"PostHouses$SpotMap", "sortByX", "()V"⟩, 8) ∈ lw_privs_1 from List.mem_of_getElem? (i := 12) rfl))))) rfl
theorem ws_X9_findHouses : Cond.selects (M_X9_findHouses).1.cls (M_X9_findHouses).1 (M_X9_findHouses).1 ∈ WL := wl_t (List.mem_append_left _ (List.mem_map_of_mem (f := fun q : MethodName × Nat => Cond.selects q.1.cls q.1 q.1) (show ((M_X9_findHouses).1, 14) ∈ lw_privs from (List.mem_append_left _ (show (⟨"PostHouses$Survey", "findHouses", "()V"⟩, 14) ∈ lw_privs_1 from List.mem_of_getElem? (i := 13) rfl))))) rfl
theorem ws_X1_nameCorners : Cond.selects (M_X1_nameCorners).1.cls (M_X1_nameCorners).1 (M_X1_nameCorners).1 ∈ WL := wl_t (List.mem_append_left _ (List.mem_map_of_mem (f := fun q : MethodName × Nat => Cond.selects q.1.cls q.1 q.1) (show ((M_X1_nameCorners).1, 16) ∈ lw_privs from (List.mem_append_left _ (show (⟨"PostHouses$Finder", "nameCorners", "()V"⟩, 16) ∈ lw_privs_1 from List.mem_of_getElem? (i := 14) rfl))))) rfl
theorem ws_X1_isFit : Cond.selects (M_X1_isFit).1.cls (M_X1_isFit).1 (M_X1_isFit).1 ∈ WL := wl_t (List.mem_append_left _ (List.mem_map_of_mem (f := fun q : MethodName × Nat => Cond.selects q.1.cls q.1 q.1) (show ((M_X1_isFit).1, 16) ∈ lw_privs from (List.mem_append_left _ (show (⟨"PostHouses$Finder", "isFit", "(I)Z"⟩, 16) ∈ lw_privs_1 from List.mem_of_getElem? (i := 15) rfl))))) rfl
theorem ws_X1_nameThirds : Cond.selects (M_X1_nameThirds).1.cls (M_X1_nameThirds).1 (M_X1_nameThirds).1 ∈ WL := wl_t (List.mem_append_left _ (List.mem_map_of_mem (f := fun q : MethodName × Nat => Cond.selects q.1.cls q.1 q.1) (show ((M_X1_nameThirds).1, 16) ∈ lw_privs from (List.mem_append_right _ (List.mem_append_left _ (show (⟨"PostHouses$Finder", "nameThirds", "(I)V"⟩, 16) ∈ lw_privs_2 from List.mem_of_getElem? (i := 0) rfl)))))) rfl
theorem ws_X1_isLong : Cond.selects (M_X1_isLong).1.cls (M_X1_isLong).1 (M_X1_isLong).1 ∈ WL := wl_t (List.mem_append_left _ (List.mem_map_of_mem (f := fun q : MethodName × Nat => Cond.selects q.1.cls q.1 q.1) (show ((M_X1_isLong).1, 16) ∈ lw_privs from (List.mem_append_right _ (List.mem_append_left _ (show (⟨"PostHouses$Finder", "isLong", "(III)Z"⟩, 16) ∈ lw_privs_2 from List.mem_of_getElem? (i := 1) rfl)))))) rfl
theorem ws_X1_setStep : Cond.selects (M_X1_setStep).1.cls (M_X1_setStep).1 (M_X1_setStep).1 ∈ WL := wl_t (List.mem_append_left _ (List.mem_map_of_mem (f := fun q : MethodName × Nat => Cond.selects q.1.cls q.1 q.1) (show ((M_X1_setStep).1, 16) ∈ lw_privs from (List.mem_append_right _ (List.mem_append_left _ (show (⟨"PostHouses$Finder", "setStep", "(II)Z"⟩, 16) ∈ lw_privs_2 from List.mem_of_getElem? (i := 2) rfl)))))) rfl
theorem ws_X1_setApart : Cond.selects (M_X1_setApart).1.cls (M_X1_setApart).1 (M_X1_setApart).1 ∈ WL := wl_t (List.mem_append_left _ (List.mem_map_of_mem (f := fun q : MethodName × Nat => Cond.selects q.1.cls q.1 q.1) (show ((M_X1_setApart).1, 16) ∈ lw_privs from (List.mem_append_right _ (List.mem_append_left _ (show (⟨"PostHouses$Finder", "setApart", "(II)Z"⟩, 16) ∈ lw_privs_2 from List.mem_of_getElem? (i := 3) rfl)))))) rfl
theorem ws_X1_grow : Cond.selects (M_X1_grow).1.cls (M_X1_grow).1 (M_X1_grow).1 ∈ WL := wl_t (List.mem_append_left _ (List.mem_map_of_mem (f := fun q : MethodName × Nat => Cond.selects q.1.cls q.1 q.1) (show ((M_X1_grow).1, 16) ∈ lw_privs from (List.mem_append_right _ (List.mem_append_left _ (show (⟨"PostHouses$Finder", "grow", "()Z"⟩, 16) ∈ lw_privs_2 from List.mem_of_getElem? (i := 4) rfl)))))) rfl
theorem ws_X1_fillAcross : Cond.selects (M_X1_fillAcross).1.cls (M_X1_fillAcross).1 (M_X1_fillAcross).1 ∈ WL := wl_t (List.mem_append_left _ (List.mem_map_of_mem (f := fun q : MethodName × Nat => Cond.selects q.1.cls q.1 q.1) (show ((M_X1_fillAcross).1, 16) ∈ lw_privs from (List.mem_append_right _ (List.mem_append_left _ (show (⟨"PostHouses$Finder", "fillAcross", "(I)Z"⟩, 16) ∈ lw_privs_2 from List.mem_of_getElem? (i := 5) rfl)))))) rfl
theorem ws_X1_stateAt : Cond.selects (M_X1_stateAt).1.cls (M_X1_stateAt).1 (M_X1_stateAt).1 ∈ WL := wl_t (List.mem_append_left _ (List.mem_map_of_mem (f := fun q : MethodName × Nat => Cond.selects q.1.cls q.1 q.1) (show ((M_X1_stateAt).1, 16) ∈ lw_privs from (List.mem_append_right _ (List.mem_append_left _ (show (⟨"PostHouses$Finder", "stateAt", "(II)I"⟩, 16) ∈ lw_privs_2 from List.mem_of_getElem? (i := 6) rfl)))))) rfl
theorem ws_X1_countUnfilled : Cond.selects (M_X1_countUnfilled).1.cls (M_X1_countUnfilled).1 (M_X1_countUnfilled).1 ∈ WL := wl_t (List.mem_append_left _ (List.mem_map_of_mem (f := fun q : MethodName × Nat => Cond.selects q.1.cls q.1 q.1) (show ((M_X1_countUnfilled).1, 16) ∈ lw_privs from (List.mem_append_right _ (List.mem_append_left _ (show (⟨"PostHouses$Finder", "countUnfilled", "(I)V"⟩, 16) ∈ lw_privs_2 from List.mem_of_getElem? (i := 7) rfl)))))) rfl
theorem ws_X1_fill : Cond.selects (M_X1_fill).1.cls (M_X1_fill).1 (M_X1_fill).1 ∈ WL := wl_t (List.mem_append_left _ (List.mem_map_of_mem (f := fun q : MethodName × Nat => Cond.selects q.1.cls q.1 q.1) (show ((M_X1_fill).1, 16) ∈ lw_privs from (List.mem_append_right _ (List.mem_append_left _ (show (⟨"PostHouses$Finder", "fill", "(II)Z"⟩, 16) ∈ lw_privs_2 from List.mem_of_getElem? (i := 8) rfl)))))) rfl
theorem ws_X1_keep : Cond.selects (M_X1_keep).1.cls (M_X1_keep).1 (M_X1_keep).1 ∈ WL := wl_t (List.mem_append_left _ (List.mem_map_of_mem (f := fun q : MethodName × Nat => Cond.selects q.1.cls q.1 q.1) (show ((M_X1_keep).1, 16) ∈ lw_privs from (List.mem_append_right _ (List.mem_append_left _ (show (⟨"PostHouses$Finder", "keep", "(I)V"⟩, 16) ∈ lw_privs_2 from List.mem_of_getElem? (i := 9) rfl)))))) rfl
theorem ws_X1_note : Cond.selects (M_X1_note).1.cls (M_X1_note).1 (M_X1_note).1 ∈ WL := wl_t (List.mem_append_left _ (List.mem_map_of_mem (f := fun q : MethodName × Nat => Cond.selects q.1.cls q.1 q.1) (show ((M_X1_note).1, 16) ∈ lw_privs from (List.mem_append_right _ (List.mem_append_left _ (show (⟨"PostHouses$Finder", "note", "(LPostHouses$HouseList;)V"⟩, 16) ∈ lw_privs_2 from List.mem_of_getElem? (i := 10) rfl)))))) rfl
theorem ws_X3_findAlike : Cond.selects (M_X3_findAlike).1.cls (M_X3_findAlike).1 (M_X3_findAlike).1 ∈ WL := wl_t (List.mem_append_left _ (List.mem_map_of_mem (f := fun q : MethodName × Nat => Cond.selects q.1.cls q.1 q.1) (show ((M_X3_findAlike).1, 7) ∈ lw_privs from (List.mem_append_right _ (List.mem_append_left _ (show (⟨"PostHouses$HouseList", "findAlike", "(LPostHouses$House;)I"⟩, 7) ∈ lw_privs_2 from List.mem_of_getElem? (i := 11) rfl)))))) rfl
theorem ws_X3_drop : Cond.selects (M_X3_drop).1.cls (M_X3_drop).1 (M_X3_drop).1 ∈ WL := wl_t (List.mem_append_left _ (List.mem_map_of_mem (f := fun q : MethodName × Nat => Cond.selects q.1.cls q.1 q.1) (show ((M_X3_drop).1, 7) ∈ lw_privs from (List.mem_append_right _ (List.mem_append_left _ (show (⟨"PostHouses$HouseList", "drop", "(I)V"⟩, 7) ∈ lw_privs_2 from List.mem_of_getElem? (i := 12) rfl)))))) rfl
theorem ws_X3_insert : Cond.selects (M_X3_insert).1.cls (M_X3_insert).1 (M_X3_insert).1 ∈ WL := wl_t (List.mem_append_left _ (List.mem_map_of_mem (f := fun q : MethodName × Nat => Cond.selects q.1.cls q.1 q.1) (show ((M_X3_insert).1, 7) ∈ lw_privs from (List.mem_append_right _ (List.mem_append_left _ (show (⟨"PostHouses$HouseList", "insert", "(LPostHouses$House;)V"⟩, 7) ∈ lw_privs_2 from List.mem_of_getElem? (i := 13) rfl)))))) rfl
theorem ws_X3_chooseFrom : Cond.selects (M_X3_chooseFrom).1.cls (M_X3_chooseFrom).1 (M_X3_chooseFrom).1 ∈ WL := wl_t (List.mem_append_left _ (List.mem_map_of_mem (f := fun q : MethodName × Nat => Cond.selects q.1.cls q.1 q.1) (show ((M_X3_chooseFrom).1, 7) ∈ lw_privs from (List.mem_append_right _ (List.mem_append_left _ (show (⟨"PostHouses$HouseList", "chooseFrom", "(IIJI)V"⟩, 7) ∈ lw_privs_2 from List.mem_of_getElem? (i := 14) rfl)))))) rfl
theorem ws_X3_canBeat : Cond.selects (M_X3_canBeat).1.cls (M_X3_canBeat).1 (M_X3_canBeat).1 ∈ WL := wl_t (List.mem_append_left _ (List.mem_map_of_mem (f := fun q : MethodName × Nat => Cond.selects q.1.cls q.1 q.1) (show ((M_X3_canBeat).1, 7) ∈ lw_privs from (List.mem_append_right _ (List.mem_append_left _ (show (⟨"PostHouses$HouseList", "canBeat", "(II)Z"⟩, 7) ∈ lw_privs_2 from List.mem_of_getElem? (i := 15) rfl)))))) rfl
theorem ws_X3_nameChosen : Cond.selects (M_X3_nameChosen).1.cls (M_X3_nameChosen).1 (M_X3_nameChosen).1 ∈ WL := wl_t (List.mem_append_left _ (List.mem_map_of_mem (f := fun q : MethodName × Nat => Cond.selects q.1.cls q.1 q.1) (show ((M_X3_nameChosen).1, 7) ∈ lw_privs from (List.mem_append_right _ (List.mem_append_right _ (List.mem_append_left _ (show (⟨"PostHouses$HouseList", "nameChosen", "()V"⟩, 7) ∈ lw_privs_3 from List.mem_of_getElem? (i := 0) rfl))))))) rfl
theorem ws_X6_nameMembers : Cond.selects (M_X6_nameMembers).1.cls (M_X6_nameMembers).1 (M_X6_nameMembers).1 ∈ WL := wl_t (List.mem_append_left _ (List.mem_map_of_mem (f := fun q : MethodName × Nat => Cond.selects q.1.cls q.1 q.1) (show ((M_X6_nameMembers).1, 18) ∈ lw_privs from (List.mem_append_right _ (List.mem_append_right _ (List.mem_append_left _ (show (⟨"PostHouses$Order", "nameMembers", "(LPostHouses$HouseList;)V"⟩, 18) ∈ lw_privs_3 from List.mem_of_getElem? (i := 1) rfl))))))) rfl
theorem ws_X6_meetMembers : Cond.selects (M_X6_meetMembers).1.cls (M_X6_meetMembers).1 (M_X6_meetMembers).1 ∈ WL := wl_t (List.mem_append_left _ (List.mem_map_of_mem (f := fun q : MethodName × Nat => Cond.selects q.1.cls q.1 q.1) (show ((M_X6_meetMembers).1, 18) ∈ lw_privs from (List.mem_append_right _ (List.mem_append_right _ (List.mem_append_left _ (show (⟨"PostHouses$Order", "meetMembers", "()V"⟩, 18) ∈ lw_privs_3 from List.mem_of_getElem? (i := 2) rfl))))))) rfl
theorem ws_X2_isParted : Cond.selects (M_X2_isParted).1.cls (M_X2_isParted).1 (M_X2_isParted).1 ∈ WL := wl_t (List.mem_append_left _ (List.mem_map_of_mem (f := fun q : MethodName × Nat => Cond.selects q.1.cls q.1 q.1) (show ((M_X2_isParted).1, 20) ∈ lw_privs from (List.mem_append_right _ (List.mem_append_right _ (List.mem_append_left _ (show (⟨"PostHouses$House", "isParted", "(LPostHouses$House;II)Z"⟩, 20) ∈ lw_privs_3 from List.mem_of_getElem? (i := 3) rfl))))))) rfl
theorem ws_X2_highest : Cond.selects (M_X2_highest).1.cls (M_X2_highest).1 (M_X2_highest).1 ∈ WL := wl_t (List.mem_append_left _ (List.mem_map_of_mem (f := fun q : MethodName × Nat => Cond.selects q.1.cls q.1 q.1) (show ((M_X2_highest).1, 20) ∈ lw_privs from (List.mem_append_right _ (List.mem_append_right _ (List.mem_append_left _ (show (⟨"PostHouses$House", "highest", "(II)I"⟩, 20) ∈ lw_privs_3 from List.mem_of_getElem? (i := 4) rfl))))))) rfl
theorem ws_X2_lowest : Cond.selects (M_X2_lowest).1.cls (M_X2_lowest).1 (M_X2_lowest).1 ∈ WL := wl_t (List.mem_append_left _ (List.mem_map_of_mem (f := fun q : MethodName × Nat => Cond.selects q.1.cls q.1 q.1) (show ((M_X2_lowest).1, 20) ∈ lw_privs from (List.mem_append_right _ (List.mem_append_right _ (List.mem_append_left _ (show (⟨"PostHouses$House", "lowest", "(II)I"⟩, 20) ∈ lw_privs_3 from List.mem_of_getElem? (i := 5) rfl))))))) rfl
theorem ws_X6_cutMembers : Cond.selects (M_X6_cutMembers).1.cls (M_X6_cutMembers).1 (M_X6_cutMembers).1 ∈ WL := wl_t (List.mem_append_left _ (List.mem_map_of_mem (f := fun q : MethodName × Nat => Cond.selects q.1.cls q.1 q.1) (show ((M_X6_cutMembers).1, 18) ∈ lw_privs from (List.mem_append_right _ (List.mem_append_right _ (List.mem_append_left _ (show (⟨"PostHouses$Order", "cutMembers", "(LPostHouses$Book;LPostHouses$Sight;LPostHouses$HouseList;I)V"⟩, 18) ∈ lw_privs_3 from List.mem_of_getElem? (i := 6) rfl))))))) rfl
theorem ws_X6_memberWith : Cond.selects (M_X6_memberWith).1.cls (M_X6_memberWith).1 (M_X6_memberWith).1 ∈ WL := wl_t (List.mem_append_left _ (List.mem_map_of_mem (f := fun q : MethodName × Nat => Cond.selects q.1.cls q.1 q.1) (show ((M_X6_memberWith).1, 18) ∈ lw_privs from (List.mem_append_right _ (List.mem_append_right _ (List.mem_append_left _ (show (⟨"PostHouses$Order", "memberWith", "(LPostHouses$Sight;LPostHouses$HouseList;I)I"⟩, 18) ∈ lw_privs_3 from List.mem_of_getElem? (i := 7) rfl))))))) rfl
theorem ws_X6_relateMembers : Cond.selects (M_X6_relateMembers).1.cls (M_X6_relateMembers).1 (M_X6_relateMembers).1 ∈ WL := wl_t (List.mem_append_left _ (List.mem_map_of_mem (f := fun q : MethodName × Nat => Cond.selects q.1.cls q.1 q.1) (show ((M_X6_relateMembers).1, 18) ∈ lw_privs from (List.mem_append_right _ (List.mem_append_right _ (List.mem_append_left _ (show (⟨"PostHouses$Order", "relateMembers", "()V"⟩, 18) ∈ lw_privs_3 from List.mem_of_getElem? (i := 8) rfl))))))) rfl
theorem ws_X6_listSets : Cond.selects (M_X6_listSets).1.cls (M_X6_listSets).1 (M_X6_listSets).1 ∈ WL := wl_t (List.mem_append_left _ (List.mem_map_of_mem (f := fun q : MethodName × Nat => Cond.selects q.1.cls q.1 q.1) (show ((M_X6_listSets).1, 18) ∈ lw_privs from (List.mem_append_right _ (List.mem_append_right _ (List.mem_append_left _ (show (⟨"PostHouses$Order", "listSets", "()V"⟩, 18) ∈ lw_privs_3 from List.mem_of_getElem? (i := 9) rfl))))))) rfl
theorem ws_X6_goOnFrom : Cond.selects (M_X6_goOnFrom).1.cls (M_X6_goOnFrom).1 (M_X6_goOnFrom).1 ∈ WL := wl_t (List.mem_append_left _ (List.mem_map_of_mem (f := fun q : MethodName × Nat => Cond.selects q.1.cls q.1 q.1) (show ((M_X6_goOnFrom).1, 18) ∈ lw_privs from (List.mem_append_right _ (List.mem_append_right _ (List.mem_append_left _ (show (⟨"PostHouses$Order", "goOnFrom", "(I)V"⟩, 18) ∈ lw_privs_3 from List.mem_of_getElem? (i := 10) rfl))))))) rfl
theorem ws_X6_openAfter : Cond.selects (M_X6_openAfter).1.cls (M_X6_openAfter).1 (M_X6_openAfter).1 ∈ WL := wl_t (List.mem_append_left _ (List.mem_map_of_mem (f := fun q : MethodName × Nat => Cond.selects q.1.cls q.1 q.1) (show ((M_X6_openAfter).1, 18) ∈ lw_privs from (List.mem_append_right _ (List.mem_append_right _ (List.mem_append_left _ (show (⟨"PostHouses$Order", "openAfter", "(I)I"⟩, 18) ∈ lw_privs_3 from List.mem_of_getElem? (i := 11) rfl))))))) rfl
theorem ws_X6_takeBestRow : Cond.selects (M_X6_takeBestRow).1.cls (M_X6_takeBestRow).1 (M_X6_takeBestRow).1 ∈ WL := wl_t (List.mem_append_left _ (List.mem_map_of_mem (f := fun q : MethodName × Nat => Cond.selects q.1.cls q.1 q.1) (show ((M_X6_takeBestRow).1, 18) ∈ lw_privs from (List.mem_append_right _ (List.mem_append_right _ (List.mem_append_left _ (show (⟨"PostHouses$Order", "takeBestRow", "()V"⟩, 18) ∈ lw_privs_3 from List.mem_of_getElem? (i := 12) rfl))))))) rfl
theorem ws_X6_pushLater : Cond.selects (M_X6_pushLater).1.cls (M_X6_pushLater).1 (M_X6_pushLater).1 ∈ WL := wl_t (List.mem_append_left _ (List.mem_map_of_mem (f := fun q : MethodName × Nat => Cond.selects q.1.cls q.1 q.1) (show ((M_X6_pushLater).1, 18) ∈ lw_privs from (List.mem_append_right _ (List.mem_append_right _ (List.mem_append_left _ (show (⟨"PostHouses$Order", "pushLater", "(I)V"⟩, 18) ∈ lw_privs_3 from List.mem_of_getElem? (i := 13) rfl))))))) rfl
theorem ws_X6_pushEarlier : Cond.selects (M_X6_pushEarlier).1.cls (M_X6_pushEarlier).1 (M_X6_pushEarlier).1 ∈ WL := wl_t (List.mem_append_left _ (List.mem_map_of_mem (f := fun q : MethodName × Nat => Cond.selects q.1.cls q.1 q.1) (show ((M_X6_pushEarlier).1, 18) ∈ lw_privs from (List.mem_append_right _ (List.mem_append_right _ (List.mem_append_left _ (show (⟨"PostHouses$Order", "pushEarlier", "(I)V"⟩, 18) ∈ lw_privs_3 from List.mem_of_getElem? (i := 14) rfl))))))) rfl
theorem ws_X4_next : Cond.selects (M_X4_next).1.cls (M_X4_next).1 (M_X4_next).1 ∈ WL := wl_t (List.mem_append_left _ (List.mem_map_of_mem (f := fun q : MethodName × Nat => Cond.selects q.1.cls q.1 q.1) (show ((M_X4_next).1, 8) ∈ lw_privs from (List.mem_append_right _ (List.mem_append_right _ (List.mem_append_left _ (show (⟨"PostHouses$KindText", "next", "()V"⟩, 8) ∈ lw_privs_3 from List.mem_of_getElem? (i := 15) rfl))))))) rfl
theorem ws_X4_readKinds : Cond.selects (M_X4_readKinds).1.cls (M_X4_readKinds).1 (M_X4_readKinds).1 ∈ WL := wl_t (List.mem_append_left _ (List.mem_map_of_mem (f := fun q : MethodName × Nat => Cond.selects q.1.cls q.1 q.1) (show ((M_X4_readKinds).1, 8) ∈ lw_privs from (List.mem_append_right _ (List.mem_append_right _ (List.mem_append_right _ (List.mem_append_left _ (show (⟨"PostHouses$KindText", "readKinds", "()I"⟩, 8) ∈ lw_privs_4 from List.mem_of_getElem? (i := 0) rfl)))))))) rfl
theorem ws_X4_readKind : Cond.selects (M_X4_readKind).1.cls (M_X4_readKind).1 (M_X4_readKind).1 ∈ WL := wl_t (List.mem_append_left _ (List.mem_map_of_mem (f := fun q : MethodName × Nat => Cond.selects q.1.cls q.1 q.1) (show ((M_X4_readKind).1, 8) ∈ lw_privs from (List.mem_append_right _ (List.mem_append_right _ (List.mem_append_right _ (List.mem_append_left _ (show (⟨"PostHouses$KindText", "readKind", "([I)Z"⟩, 8) ∈ lw_privs_4 from List.mem_of_getElem? (i := 1) rfl)))))))) rfl
theorem ws_X4_take : Cond.selects (M_X4_take).1.cls (M_X4_take).1 (M_X4_take).1 ∈ WL := wl_t (List.mem_append_left _ (List.mem_map_of_mem (f := fun q : MethodName × Nat => Cond.selects q.1.cls q.1 q.1) (show ((M_X4_take).1, 8) ∈ lw_privs from (List.mem_append_right _ (List.mem_append_right _ (List.mem_append_right _ (List.mem_append_left _ (show (⟨"PostHouses$KindText", "take", "(Ljava/lang/String;)Z"⟩, 8) ∈ lw_privs_4 from List.mem_of_getElem? (i := 2) rfl)))))))) rfl
theorem ws_X4_readClause : Cond.selects (M_X4_readClause).1.cls (M_X4_readClause).1 (M_X4_readClause).1 ∈ WL := wl_t (List.mem_append_left _ (List.mem_map_of_mem (f := fun q : MethodName × Nat => Cond.selects q.1.cls q.1 q.1) (show ((M_X4_readClause).1, 8) ∈ lw_privs from (List.mem_append_right _ (List.mem_append_right _ (List.mem_append_right _ (List.mem_append_left _ (show (⟨"PostHouses$KindText", "readClause", "([I)Z"⟩, 8) ∈ lw_privs_4 from List.mem_of_getElem? (i := 3) rfl)))))))) rfl
theorem ws_X4_numberHere : Cond.selects (M_X4_numberHere).1.cls (M_X4_numberHere).1 (M_X4_numberHere).1 ∈ WL := wl_t (List.mem_append_left _ (List.mem_map_of_mem (f := fun q : MethodName × Nat => Cond.selects q.1.cls q.1 q.1) (show ((M_X4_numberHere).1, 8) ∈ lw_privs from (List.mem_append_right _ (List.mem_append_right _ (List.mem_append_right _ (List.mem_append_left _ (show (⟨"PostHouses$KindText", "numberHere", "()I"⟩, 8) ∈ lw_privs_4 from List.mem_of_getElem? (i := 4) rfl)))))))) rfl
theorem ws_X9_tryChance : Cond.selects (M_X9_tryChance).1.cls (M_X9_tryChance).1 (M_X9_tryChance).1 ∈ WL := wl_t (List.mem_append_left _ (List.mem_map_of_mem (f := fun q : MethodName × Nat => Cond.selects q.1.cls q.1 q.1) (show ((M_X9_tryChance).1, 14) ∈ lw_privs from (List.mem_append_right _ (List.mem_append_right _ (List.mem_append_right _ (List.mem_append_left _ (show (⟨"PostHouses$Survey", "tryChance", "(I)I"⟩, 14) ∈ lw_privs_4 from List.mem_of_getElem? (i := 5) rfl)))))))) rfl
theorem ws_X9_setFence : Cond.selects (M_X9_setFence).1.cls (M_X9_setFence).1 (M_X9_setFence).1 ∈ WL := wl_t (List.mem_append_left _ (List.mem_map_of_mem (f := fun q : MethodName × Nat => Cond.selects q.1.cls q.1 q.1) (show ((M_X9_setFence).1, 14) ∈ lw_privs from (List.mem_append_right _ (List.mem_append_right _ (List.mem_append_right _ (List.mem_append_left _ (show (⟨"PostHouses$Survey", "setFence", "()Z"⟩, 14) ∈ lw_privs_4 from List.mem_of_getElem? (i := 6) rfl)))))))) rfl
theorem ws_X9_isLoose : Cond.selects (M_X9_isLoose).1.cls (M_X9_isLoose).1 (M_X9_isLoose).1 ∈ WL := wl_t (List.mem_append_left _ (List.mem_map_of_mem (f := fun q : MethodName × Nat => Cond.selects q.1.cls q.1 q.1) (show ((M_X9_isLoose).1, 14) ∈ lw_privs from (List.mem_append_right _ (List.mem_append_right _ (List.mem_append_right _ (List.mem_append_left _ (show (⟨"PostHouses$Survey", "isLoose", "(I)Z"⟩, 14) ∈ lw_privs_4 from List.mem_of_getElem? (i := 7) rfl)))))))) rfl
theorem ws_X9_countNear : Cond.selects (M_X9_countNear).1.cls (M_X9_countNear).1 (M_X9_countNear).1 ∈ WL := wl_t (List.mem_append_left _ (List.mem_map_of_mem (f := fun q : MethodName × Nat => Cond.selects q.1.cls q.1 q.1) (show ((M_X9_countNear).1, 14) ∈ lw_privs from (List.mem_append_right _ (List.mem_append_right _ (List.mem_append_right _ (List.mem_append_left _ (show (⟨"PostHouses$Survey", "countNear", "(II)I"⟩, 14) ∈ lw_privs_4 from List.mem_of_getElem? (i := 8) rfl)))))))) rfl
theorem ws_X9_isNearLine : Cond.selects (M_X9_isNearLine).1.cls (M_X9_isNearLine).1 (M_X9_isNearLine).1 ∈ WL := wl_t (List.mem_append_left _ (List.mem_map_of_mem (f := fun q : MethodName × Nat => Cond.selects q.1.cls q.1 q.1) (show ((M_X9_isNearLine).1, 14) ∈ lw_privs from (List.mem_append_right _ (List.mem_append_right _ (List.mem_append_right _ (List.mem_append_left _ (show (⟨"PostHouses$Survey", "isNearLine", "(III)Z"⟩, 14) ∈ lw_privs_4 from List.mem_of_getElem? (i := 9) rfl)))))))) rfl
theorem ws_X11_ends : Cond.selects (M_X11_ends).1.cls (M_X11_ends).1 (M_X11_ends).1 ∈ WL := wl_t (List.mem_append_left _ (List.mem_map_of_mem (f := fun q : MethodName × Nat => Cond.selects q.1.cls q.1 q.1) (show ((M_X11_ends).1, 100) ∈ lw_privs from (List.mem_append_right _ (List.mem_append_right _ (List.mem_append_right _ (List.mem_append_left _ (show (⟨"PostHousesModel", "ends", "(I)I"⟩, 100) ∈ lw_privs_4 from List.mem_of_getElem? (i := 10) rfl)))))))) rfl
theorem ws_X11_isHole : Cond.selects (M_X11_isHole).1.cls (M_X11_isHole).1 (M_X11_isHole).1 ∈ WL := wl_t (List.mem_append_left _ (List.mem_map_of_mem (f := fun q : MethodName × Nat => Cond.selects q.1.cls q.1 q.1) (show ((M_X11_isHole).1, 100) ∈ lw_privs from (List.mem_append_right _ (List.mem_append_right _ (List.mem_append_right _ (List.mem_append_left _ (show (⟨"PostHousesModel", "isHole", "(I)Z"⟩, 100) ∈ lw_privs_4 from List.mem_of_getElem? (i := 11) rfl)))))))) rfl
theorem ws_X11_next : Cond.selects (M_X11_next).1.cls (M_X11_next).1 (M_X11_next).1 ∈ WL := wl_t (List.mem_append_left _ (List.mem_map_of_mem (f := fun q : MethodName × Nat => Cond.selects q.1.cls q.1 q.1) (show ((M_X11_next).1, 100) ∈ lw_privs from (List.mem_append_right _ (List.mem_append_right _ (List.mem_append_right _ (List.mem_append_left _ (show (⟨"PostHousesModel", "next", "()V"⟩, 100) ∈ lw_privs_4 from List.mem_of_getElem? (i := 12) rfl)))))))) rfl
theorem ws_X11_isIn : Cond.selects (M_X11_isIn).1.cls (M_X11_isIn).1 (M_X11_isIn).1 ∈ WL := wl_t (List.mem_append_left _ (List.mem_map_of_mem (f := fun q : MethodName × Nat => Cond.selects q.1.cls q.1 q.1) (show ((M_X11_isIn).1, 100) ∈ lw_privs from (List.mem_append_right _ (List.mem_append_right _ (List.mem_append_right _ (List.mem_append_left _ (show (⟨"PostHousesModel", "isIn", "(III)Z"⟩, 100) ∈ lw_privs_4 from List.mem_of_getElem? (i := 13) rfl)))))))) rfl
theorem ws_X11_kind : Cond.selects (M_X11_kind).1.cls (M_X11_kind).1 (M_X11_kind).1 ∈ WL := wl_t (List.mem_append_left _ (List.mem_map_of_mem (f := fun q : MethodName × Nat => Cond.selects q.1.cls q.1 q.1) (show ((M_X11_kind).1, 100) ∈ lw_privs from (List.mem_append_right _ (List.mem_append_right _ (List.mem_append_right _ (List.mem_append_left _ (show (⟨"PostHousesModel", "kind", "()V"⟩, 100) ∈ lw_privs_4 from List.mem_of_getElem? (i := 14) rfl)))))))) rfl
theorem ws_X11_isWord : Cond.selects (M_X11_isWord).1.cls (M_X11_isWord).1 (M_X11_isWord).1 ∈ WL := wl_t (List.mem_append_left _ (List.mem_map_of_mem (f := fun q : MethodName × Nat => Cond.selects q.1.cls q.1 q.1) (show ((M_X11_isWord).1, 100) ∈ lw_privs from (List.mem_append_right _ (List.mem_append_right _ (List.mem_append_right _ (List.mem_append_left _ (show (⟨"PostHousesModel", "isWord", "(J)Z"⟩, 100) ∈ lw_privs_4 from List.mem_of_getElem? (i := 15) rfl)))))))) rfl
theorem ws_X11_faults : Cond.selects (M_X11_faults).1.cls (M_X11_faults).1 (M_X11_faults).1 ∈ WL := wl_t (List.mem_append_left _ (List.mem_map_of_mem (f := fun q : MethodName × Nat => Cond.selects q.1.cls q.1 q.1) (show ((M_X11_faults).1, 100) ∈ lw_privs from (List.mem_append_right _ (List.mem_append_right _ (List.mem_append_right _ (List.mem_append_right _ (List.mem_append_left _ (show (⟨"PostHousesModel", "faults", "()V"⟩, 100) ∈ lw_privs_5 from List.mem_of_getElem? (i := 0) rfl))))))))) rfl
theorem ws_X11_good : Cond.selects (M_X11_good).1.cls (M_X11_good).1 (M_X11_good).1 ∈ WL := wl_t (List.mem_append_left _ (List.mem_map_of_mem (f := fun q : MethodName × Nat => Cond.selects q.1.cls q.1 q.1) (show ((M_X11_good).1, 100) ∈ lw_privs from (List.mem_append_right _ (List.mem_append_right _ (List.mem_append_right _ (List.mem_append_right _ (List.mem_append_left _ (show (⟨"PostHousesModel", "good", "()Z"⟩, 100) ∈ lw_privs_5 from List.mem_of_getElem? (i := 1) rfl))))))))) rfl
theorem ws_X11_needSign : Cond.selects (M_X11_needSign).1.cls (M_X11_needSign).1 (M_X11_needSign).1 ∈ WL := wl_t (List.mem_append_left _ (List.mem_map_of_mem (f := fun q : MethodName × Nat => Cond.selects q.1.cls q.1 q.1) (show ((M_X11_needSign).1, 100) ∈ lw_privs from (List.mem_append_right _ (List.mem_append_right _ (List.mem_append_right _ (List.mem_append_right _ (List.mem_append_left _ (show (⟨"PostHousesModel", "needSign", "(I)V"⟩, 100) ∈ lw_privs_5 from List.mem_of_getElem? (i := 2) rfl))))))))) rfl
theorem ws_X11_isSign : Cond.selects (M_X11_isSign).1.cls (M_X11_isSign).1 (M_X11_isSign).1 ∈ WL := wl_t (List.mem_append_left _ (List.mem_map_of_mem (f := fun q : MethodName × Nat => Cond.selects q.1.cls q.1 q.1) (show ((M_X11_isSign).1, 100) ∈ lw_privs from (List.mem_append_right _ (List.mem_append_right _ (List.mem_append_right _ (List.mem_append_right _ (List.mem_append_left _ (show (⟨"PostHousesModel", "isSign", "(I)Z"⟩, 100) ∈ lw_privs_5 from List.mem_of_getElem? (i := 3) rfl))))))))) rfl
theorem ws_X11_clause : Cond.selects (M_X11_clause).1.cls (M_X11_clause).1 (M_X11_clause).1 ∈ WL := wl_t (List.mem_append_left _ (List.mem_map_of_mem (f := fun q : MethodName × Nat => Cond.selects q.1.cls q.1 q.1) (show ((M_X11_clause).1, 100) ∈ lw_privs from (List.mem_append_right _ (List.mem_append_right _ (List.mem_append_right _ (List.mem_append_right _ (List.mem_append_left _ (show (⟨"PostHousesModel", "clause", "()V"⟩, 100) ∈ lw_privs_5 from List.mem_of_getElem? (i := 4) rfl))))))))) rfl
theorem ws_X11_number : Cond.selects (M_X11_number).1.cls (M_X11_number).1 (M_X11_number).1 ∈ WL := wl_t (List.mem_append_left _ (List.mem_map_of_mem (f := fun q : MethodName × Nat => Cond.selects q.1.cls q.1 q.1) (show ((M_X11_number).1, 100) ∈ lw_privs from (List.mem_append_right _ (List.mem_append_right _ (List.mem_append_right _ (List.mem_append_right _ (List.mem_append_left _ (show (⟨"PostHousesModel", "number", "(II)I"⟩, 100) ∈ lw_privs_5 from List.mem_of_getElem? (i := 5) rfl))))))))) rfl
theorem ws_X11_lays : Cond.selects (M_X11_lays).1.cls (M_X11_lays).1 (M_X11_lays).1 ∈ WL := wl_t (List.mem_append_left _ (List.mem_map_of_mem (f := fun q : MethodName × Nat => Cond.selects q.1.cls q.1 q.1) (show ((M_X11_lays).1, 100) ∈ lw_privs from (List.mem_append_right _ (List.mem_append_right _ (List.mem_append_right _ (List.mem_append_right _ (List.mem_append_left _ (show (⟨"PostHousesModel", "lays", "(I)V"⟩, 100) ∈ lw_privs_5 from List.mem_of_getElem? (i := 6) rfl))))))))) rfl
theorem ws_X11_finds : Cond.selects (M_X11_finds).1.cls (M_X11_finds).1 (M_X11_finds).1 ∈ WL := wl_t (List.mem_append_left _ (List.mem_map_of_mem (f := fun q : MethodName × Nat => Cond.selects q.1.cls q.1 q.1) (show ((M_X11_finds).1, 100) ∈ lw_privs from (List.mem_append_right _ (List.mem_append_right _ (List.mem_append_right _ (List.mem_append_right _ (List.mem_append_left _ (show (⟨"PostHousesModel", "finds", "(I)V"⟩, 100) ∈ lw_privs_5 from List.mem_of_getElem? (i := 7) rfl))))))))) rfl
theorem ws_X11_frames : Cond.selects (M_X11_frames).1.cls (M_X11_frames).1 (M_X11_frames).1 ∈ WL := wl_t (List.mem_append_left _ (List.mem_map_of_mem (f := fun q : MethodName × Nat => Cond.selects q.1.cls q.1 q.1) (show ((M_X11_frames).1, 100) ∈ lw_privs from (List.mem_append_right _ (List.mem_append_right _ (List.mem_append_right _ (List.mem_append_right _ (List.mem_append_left _ (show (⟨"PostHousesModel", "frames", "(I)V"⟩, 100) ∈ lw_privs_5 from List.mem_of_getElem? (i := 8) rfl))))))))) rfl
theorem ws_X11_isThere : Cond.selects (M_X11_isThere).1.cls (M_X11_isThere).1 (M_X11_isThere).1 ∈ WL := wl_t (List.mem_append_left _ (List.mem_map_of_mem (f := fun q : MethodName × Nat => Cond.selects q.1.cls q.1 q.1) (show ((M_X11_isThere).1, 100) ∈ lw_privs from (List.mem_append_right _ (List.mem_append_right _ (List.mem_append_right _ (List.mem_append_right _ (List.mem_append_left _ (show (⟨"PostHousesModel", "isThere", "(II)Z"⟩, 100) ∈ lw_privs_5 from List.mem_of_getElem? (i := 9) rfl))))))))) rfl
theorem ws_X11_turnedX : Cond.selects (M_X11_turnedX).1.cls (M_X11_turnedX).1 (M_X11_turnedX).1 ∈ WL := wl_t (List.mem_append_left _ (List.mem_map_of_mem (f := fun q : MethodName × Nat => Cond.selects q.1.cls q.1 q.1) (show ((M_X11_turnedX).1, 100) ∈ lw_privs from (List.mem_append_right _ (List.mem_append_right _ (List.mem_append_right _ (List.mem_append_right _ (List.mem_append_left _ (show (⟨"PostHousesModel", "turnedX", "(II)I"⟩, 100) ∈ lw_privs_5 from List.mem_of_getElem? (i := 10) rfl))))))))) rfl
theorem ws_X11_turnedY : Cond.selects (M_X11_turnedY).1.cls (M_X11_turnedY).1 (M_X11_turnedY).1 ∈ WL := wl_t (List.mem_append_left _ (List.mem_map_of_mem (f := fun q : MethodName × Nat => Cond.selects q.1.cls q.1 q.1) (show ((M_X11_turnedY).1, 100) ∈ lw_privs from (List.mem_append_right _ (List.mem_append_right _ (List.mem_append_right _ (List.mem_append_right _ (List.mem_append_left _ (show (⟨"PostHousesModel", "turnedY", "(II)I"⟩, 100) ∈ lw_privs_5 from List.mem_of_getElem? (i := 11) rfl))))))))) rfl
theorem ws_X11_strikesOne : Cond.selects (M_X11_strikesOne).1.cls (M_X11_strikesOne).1 (M_X11_strikesOne).1 ∈ WL := wl_t (List.mem_append_left _ (List.mem_map_of_mem (f := fun q : MethodName × Nat => Cond.selects q.1.cls q.1 q.1) (show ((M_X11_strikesOne).1, 100) ∈ lw_privs from (List.mem_append_right _ (List.mem_append_right _ (List.mem_append_right _ (List.mem_append_right _ (List.mem_append_left _ (show (⟨"PostHousesModel", "strikesOne", "(III)Z"⟩, 100) ∈ lw_privs_5 from List.mem_of_getElem? (i := 12) rfl))))))))) rfl
theorem ws_X11_isNear : Cond.selects (M_X11_isNear).1.cls (M_X11_isNear).1 (M_X11_isNear).1 ∈ WL := wl_t (List.mem_append_left _ (List.mem_map_of_mem (f := fun q : MethodName × Nat => Cond.selects q.1.cls q.1 q.1) (show ((M_X11_isNear).1, 100) ∈ lw_privs from (List.mem_append_right _ (List.mem_append_right _ (List.mem_append_right _ (List.mem_append_right _ (List.mem_append_left _ (show (⟨"PostHousesModel", "isNear", "(III)Z"⟩, 100) ∈ lw_privs_5 from List.mem_of_getElem? (i := 13) rfl))))))))) rfl
theorem ws_X11_depthOf : Cond.selects (M_X11_depthOf).1.cls (M_X11_depthOf).1 (M_X11_depthOf).1 ∈ WL := wl_t (List.mem_append_left _ (List.mem_map_of_mem (f := fun q : MethodName × Nat => Cond.selects q.1.cls q.1 q.1) (show ((M_X11_depthOf).1, 100) ∈ lw_privs from (List.mem_append_right _ (List.mem_append_right _ (List.mem_append_right _ (List.mem_append_right _ (List.mem_append_left _ (show (⟨"PostHousesModel", "depthOf", "(II)I"⟩, 100) ∈ lw_privs_5 from List.mem_of_getElem? (i := 14) rfl))))))))) rfl
theorem ws_X11_ploughed : Cond.selects (M_X11_ploughed).1.cls (M_X11_ploughed).1 (M_X11_ploughed).1 ∈ WL := wl_t (List.mem_append_left _ (List.mem_map_of_mem (f := fun q : MethodName × Nat => Cond.selects q.1.cls q.1 q.1) (show ((M_X11_ploughed).1, 100) ∈ lw_privs from (List.mem_append_right _ (List.mem_append_right _ (List.mem_append_right _ (List.mem_append_right _ (List.mem_append_left _ (show (⟨"PostHousesModel", "ploughed", "(II)I"⟩, 100) ∈ lw_privs_5 from List.mem_of_getElem? (i := 15) rfl))))))))) rfl
theorem ws_X11_goes : Cond.selects (M_X11_goes).1.cls (M_X11_goes).1 (M_X11_goes).1 ∈ WL := wl_t (List.mem_append_left _ (List.mem_map_of_mem (f := fun q : MethodName × Nat => Cond.selects q.1.cls q.1 q.1) (show ((M_X11_goes).1, 100) ∈ lw_privs from (List.mem_append_right _ (List.mem_append_right _ (List.mem_append_right _ (List.mem_append_right _ (List.mem_append_right _ (List.mem_append_left _ (show (⟨"PostHousesModel", "goes", "(IIZ)I"⟩, 100) ∈ lw_privs_6 from List.mem_of_getElem? (i := 0) rfl)))))))))) rfl
theorem ws_X11_framed : Cond.selects (M_X11_framed).1.cls (M_X11_framed).1 (M_X11_framed).1 ∈ WL := wl_t (List.mem_append_left _ (List.mem_map_of_mem (f := fun q : MethodName × Nat => Cond.selects q.1.cls q.1 q.1) (show ((M_X11_framed).1, 100) ∈ lw_privs from (List.mem_append_right _ (List.mem_append_right _ (List.mem_append_right _ (List.mem_append_right _ (List.mem_append_right _ (List.mem_append_left _ (show (⟨"PostHousesModel", "framed", "(IIIII)I"⟩, 100) ∈ lw_privs_6 from List.mem_of_getElem? (i := 1) rfl)))))))))) rfl
theorem ws_X11_isHouseWith : Cond.selects (M_X11_isHouseWith).1.cls (M_X11_isHouseWith).1 (M_X11_isHouseWith).1 ∈ WL := wl_t (List.mem_append_left _ (List.mem_map_of_mem (f := fun q : MethodName × Nat => Cond.selects q.1.cls q.1 q.1) (show ((M_X11_isHouseWith).1, 100) ∈ lw_privs from (List.mem_append_right _ (List.mem_append_right _ (List.mem_append_right _ (List.mem_append_right _ (List.mem_append_right _ (List.mem_append_left _ (show (⟨"PostHousesModel", "isHouseWith", "(IIIIII)Z"⟩, 100) ∈ lw_privs_6 from List.mem_of_getElem? (i := 2) rfl)))))))))) rfl
theorem ws_X11_placed : Cond.selects (M_X11_placed).1.cls (M_X11_placed).1 (M_X11_placed).1 ∈ WL := wl_t (List.mem_append_left _ (List.mem_map_of_mem (f := fun q : MethodName × Nat => Cond.selects q.1.cls q.1 q.1) (show ((M_X11_placed).1, 100) ∈ lw_privs from (List.mem_append_right _ (List.mem_append_right _ (List.mem_append_right _ (List.mem_append_right _ (List.mem_append_right _ (List.mem_append_left _ (show (⟨"PostHousesModel", "placed", "(IIII)I"⟩, 100) ∈ lw_privs_6 from List.mem_of_getElem? (i := 3) rfl)))))))))) rfl
theorem ws_X11_far : Cond.selects (M_X11_far).1.cls (M_X11_far).1 (M_X11_far).1 ∈ WL := wl_t (List.mem_append_left _ (List.mem_map_of_mem (f := fun q : MethodName × Nat => Cond.selects q.1.cls q.1 q.1) (show ((M_X11_far).1, 100) ∈ lw_privs from (List.mem_append_right _ (List.mem_append_right _ (List.mem_append_right _ (List.mem_append_right _ (List.mem_append_right _ (List.mem_append_left _ (show (⟨"PostHousesModel", "far", "(III)I"⟩, 100) ∈ lw_privs_6 from List.mem_of_getElem? (i := 4) rfl)))))))))) rfl
theorem ws_X11_isDug : Cond.selects (M_X11_isDug).1.cls (M_X11_isDug).1 (M_X11_isDug).1 ∈ WL := wl_t (List.mem_append_left _ (List.mem_map_of_mem (f := fun q : MethodName × Nat => Cond.selects q.1.cls q.1 q.1) (show ((M_X11_isDug).1, 100) ∈ lw_privs from (List.mem_append_right _ (List.mem_append_right _ (List.mem_append_right _ (List.mem_append_right _ (List.mem_append_right _ (List.mem_append_left _ (show (⟨"PostHousesModel", "isDug", "(III)Z"⟩, 100) ∈ lw_privs_6 from List.mem_of_getElem? (i := 5) rfl)))))))))) rfl
theorem ws_X11_keeps : Cond.selects (M_X11_keeps).1.cls (M_X11_keeps).1 (M_X11_keeps).1 ∈ WL := wl_t (List.mem_append_left _ (List.mem_map_of_mem (f := fun q : MethodName × Nat => Cond.selects q.1.cls q.1 q.1) (show ((M_X11_keeps).1, 100) ∈ lw_privs from (List.mem_append_right _ (List.mem_append_right _ (List.mem_append_right _ (List.mem_append_right _ (List.mem_append_right _ (List.mem_append_left _ (show (⟨"PostHousesModel", "keeps", "(IIIII)V"⟩, 100) ∈ lw_privs_6 from List.mem_of_getElem? (i := 6) rfl)))))))))) rfl
theorem ws_X11_copies : Cond.selects (M_X11_copies).1.cls (M_X11_copies).1 (M_X11_copies).1 ∈ WL := wl_t (List.mem_append_left _ (List.mem_map_of_mem (f := fun q : MethodName × Nat => Cond.selects q.1.cls q.1 q.1) (show ((M_X11_copies).1, 100) ∈ lw_privs from (List.mem_append_right _ (List.mem_append_right _ (List.mem_append_right _ (List.mem_append_right _ (List.mem_append_right _ (List.mem_append_left _ (show (⟨"PostHousesModel", "copies", "(II)V"⟩, 100) ∈ lw_privs_6 from List.mem_of_getElem? (i := 7) rfl)))))))))) rfl
theorem ws_X11_chooses : Cond.selects (M_X11_chooses).1.cls (M_X11_chooses).1 (M_X11_chooses).1 ∈ WL := wl_t (List.mem_append_left _ (List.mem_map_of_mem (f := fun q : MethodName × Nat => Cond.selects q.1.cls q.1 q.1) (show ((M_X11_chooses).1, 100) ∈ lw_privs from (List.mem_append_right _ (List.mem_append_right _ (List.mem_append_right _ (List.mem_append_right _ (List.mem_append_right _ (List.mem_append_left _ (show (⟨"PostHousesModel", "chooses", "(IIIJ)V"⟩, 100) ∈ lw_privs_6 from List.mem_of_getElem? (i := 8) rfl)))))))))) rfl
theorem ws_X11_orders : Cond.selects (M_X11_orders).1.cls (M_X11_orders).1 (M_X11_orders).1 ∈ WL := wl_t (List.mem_append_left _ (List.mem_map_of_mem (f := fun q : MethodName × Nat => Cond.selects q.1.cls q.1 q.1) (show ((M_X11_orders).1, 100) ∈ lw_privs from (List.mem_append_right _ (List.mem_append_right _ (List.mem_append_right _ (List.mem_append_right _ (List.mem_append_right _ (List.mem_append_left _ (show (⟨"PostHousesModel", "orders", "(I)V"⟩, 100) ∈ lw_privs_6 from List.mem_of_getElem? (i := 9) rfl)))))))))) rfl
theorem ws_X11_corners : Cond.selects (M_X11_corners).1.cls (M_X11_corners).1 (M_X11_corners).1 ∈ WL := wl_t (List.mem_append_left _ (List.mem_map_of_mem (f := fun q : MethodName × Nat => Cond.selects q.1.cls q.1 q.1) (show ((M_X11_corners).1, 100) ∈ lw_privs from (List.mem_append_right _ (List.mem_append_right _ (List.mem_append_right _ (List.mem_append_right _ (List.mem_append_right _ (List.mem_append_left _ (show (⟨"PostHousesModel", "corners", "(II)V"⟩, 100) ∈ lw_privs_6 from List.mem_of_getElem? (i := 10) rfl)))))))))) rfl
theorem ws_X11_parts : Cond.selects (M_X11_parts).1.cls (M_X11_parts).1 (M_X11_parts).1 ∈ WL := wl_t (List.mem_append_left _ (List.mem_map_of_mem (f := fun q : MethodName × Nat => Cond.selects q.1.cls q.1 q.1) (show ((M_X11_parts).1, 100) ∈ lw_privs from (List.mem_append_right _ (List.mem_append_right _ (List.mem_append_right _ (List.mem_append_right _ (List.mem_append_right _ (List.mem_append_left _ (show (⟨"PostHousesModel", "parts", "(II)Z"⟩, 100) ∈ lw_privs_6 from List.mem_of_getElem? (i := 11) rfl)))))))))) rfl
theorem ws_X11_isLaterThan : Cond.selects (M_X11_isLaterThan).1.cls (M_X11_isLaterThan).1 (M_X11_isLaterThan).1 ∈ WL := wl_t (List.mem_append_left _ (List.mem_map_of_mem (f := fun q : MethodName × Nat => Cond.selects q.1.cls q.1 q.1) (show ((M_X11_isLaterThan).1, 100) ∈ lw_privs from (List.mem_append_right _ (List.mem_append_right _ (List.mem_append_right _ (List.mem_append_right _ (List.mem_append_right _ (List.mem_append_left _ (show (⟨"PostHousesModel", "isLaterThan", "(III)Z"⟩, 100) ∈ lw_privs_6 from List.mem_of_getElem? (i := 12) rfl)))))))))) rfl
theorem ws_X11_isOf : Cond.selects (M_X11_isOf).1.cls (M_X11_isOf).1 (M_X11_isOf).1 ∈ WL := wl_t (List.mem_append_left _ (List.mem_map_of_mem (f := fun q : MethodName × Nat => Cond.selects q.1.cls q.1 q.1) (show ((M_X11_isOf).1, 100) ∈ lw_privs from (List.mem_append_right _ (List.mem_append_right _ (List.mem_append_right _ (List.mem_append_right _ (List.mem_append_right _ (List.mem_append_left _ (show (⟨"PostHousesModel", "isOf", "(II)Z"⟩, 100) ∈ lw_privs_6 from List.mem_of_getElem? (i := 13) rfl)))))))))) rfl
theorem ws_X11_isRound : Cond.selects (M_X11_isRound).1.cls (M_X11_isRound).1 (M_X11_isRound).1 ∈ WL := wl_t (List.mem_append_left _ (List.mem_map_of_mem (f := fun q : MethodName × Nat => Cond.selects q.1.cls q.1 q.1) (show ((M_X11_isRound).1, 100) ∈ lw_privs from (List.mem_append_right _ (List.mem_append_right _ (List.mem_append_right _ (List.mem_append_right _ (List.mem_append_right _ (List.mem_append_left _ (show (⟨"PostHousesModel", "isRound", "()Z"⟩, 100) ∈ lw_privs_6 from List.mem_of_getElem? (i := 14) rfl)))))))))) rfl
theorem ws_X11_numbers : Cond.selects (M_X11_numbers).1.cls (M_X11_numbers).1 (M_X11_numbers).1 ∈ WL := wl_t (List.mem_append_left _ (List.mem_map_of_mem (f := fun q : MethodName × Nat => Cond.selects q.1.cls q.1 q.1) (show ((M_X11_numbers).1, 100) ∈ lw_privs from (List.mem_append_right _ (List.mem_append_right _ (List.mem_append_right _ (List.mem_append_right _ (List.mem_append_right _ (List.mem_append_left _ (show (⟨"PostHousesModel", "numbers", "(II)V"⟩, 100) ∈ lw_privs_6 from List.mem_of_getElem? (i := 15) rfl)))))))))) rfl
theorem ws_X11_fits : Cond.selects (M_X11_fits).1.cls (M_X11_fits).1 (M_X11_fits).1 ∈ WL := wl_t (List.mem_append_left _ (List.mem_map_of_mem (f := fun q : MethodName × Nat => Cond.selects q.1.cls q.1 q.1) (show ((M_X11_fits).1, 100) ∈ lw_privs from (List.mem_append_right _ (List.mem_append_right _ (List.mem_append_right _ (List.mem_append_right _ (List.mem_append_right _ (List.mem_append_right _ (show (⟨"PostHousesModel", "fits", "(II)Z"⟩, 100) ∈ lw_privs_7 from List.mem_of_getElem? (i := 0) rfl)))))))))) rfl
theorem ws_X11_starts : Cond.selects (M_X11_starts).1.cls (M_X11_starts).1 (M_X11_starts).1 ∈ WL := wl_t (List.mem_append_left _ (List.mem_map_of_mem (f := fun q : MethodName × Nat => Cond.selects q.1.cls q.1 q.1) (show ((M_X11_starts).1, 100) ∈ lw_privs from (List.mem_append_right _ (List.mem_append_right _ (List.mem_append_right _ (List.mem_append_right _ (List.mem_append_right _ (List.mem_append_right _ (show (⟨"PostHousesModel", "starts", "(I)V"⟩, 100) ∈ lw_privs_7 from List.mem_of_getElem? (i := 1) rfl)))))))))) rfl
theorem ws_X11_areBound : Cond.selects (M_X11_areBound).1.cls (M_X11_areBound).1 (M_X11_areBound).1 ∈ WL := wl_t (List.mem_append_left _ (List.mem_map_of_mem (f := fun q : MethodName × Nat => Cond.selects q.1.cls q.1 q.1) (show ((M_X11_areBound).1, 100) ∈ lw_privs from (List.mem_append_right _ (List.mem_append_right _ (List.mem_append_right _ (List.mem_append_right _ (List.mem_append_right _ (List.mem_append_right _ (show (⟨"PostHousesModel", "areBound", "(II)Z"⟩, 100) ∈ lw_privs_7 from List.mem_of_getElem? (i := 2) rfl)))))))))) rfl
theorem ws_X11_lifeOf : Cond.selects (M_X11_lifeOf).1.cls (M_X11_lifeOf).1 (M_X11_lifeOf).1 ∈ WL := wl_t (List.mem_append_left _ (List.mem_map_of_mem (f := fun q : MethodName × Nat => Cond.selects q.1.cls q.1 q.1) (show ((M_X11_lifeOf).1, 100) ∈ lw_privs from (List.mem_append_right _ (List.mem_append_right _ (List.mem_append_right _ (List.mem_append_right _ (List.mem_append_right _ (List.mem_append_right _ (show (⟨"PostHousesModel", "lifeOf", "(I)I"⟩, 100) ∈ lw_privs_7 from List.mem_of_getElem? (i := 3) rfl)))))))))) rfl
theorem ws_X11_lines : Cond.selects (M_X11_lines).1.cls (M_X11_lines).1 (M_X11_lines).1 ∈ WL := wl_t (List.mem_append_left _ (List.mem_map_of_mem (f := fun q : MethodName × Nat => Cond.selects q.1.cls q.1 q.1) (show ((M_X11_lines).1, 100) ∈ lw_privs from (List.mem_append_right _ (List.mem_append_right _ (List.mem_append_right _ (List.mem_append_right _ (List.mem_append_right _ (List.mem_append_right _ (show (⟨"PostHousesModel", "lines", "()V"⟩, 100) ∈ lw_privs_7 from List.mem_of_getElem? (i := 4) rfl)))))))))) rfl
theorem ws_X11_isBeside : Cond.selects (M_X11_isBeside).1.cls (M_X11_isBeside).1 (M_X11_isBeside).1 ∈ WL := wl_t (List.mem_append_left _ (List.mem_map_of_mem (f := fun q : MethodName × Nat => Cond.selects q.1.cls q.1 q.1) (show ((M_X11_isBeside).1, 100) ∈ lw_privs from (List.mem_append_right _ (List.mem_append_right _ (List.mem_append_right _ (List.mem_append_right _ (List.mem_append_right _ (List.mem_append_right _ (show (⟨"PostHousesModel", "isBeside", "(III)Z"⟩, 100) ∈ lw_privs_7 from List.mem_of_getElem? (i := 5) rfl)))))))))) rfl
theorem ws_X11_isHouse : Cond.selects (M_X11_isHouse).1.cls (M_X11_isHouse).1 (M_X11_isHouse).1 ∈ WL := wl_t (List.mem_append_left _ (List.mem_map_of_mem (f := fun q : MethodName × Nat => Cond.selects q.1.cls q.1 q.1) (show ((M_X11_isHouse).1, 100) ∈ lw_privs from (List.mem_append_right _ (List.mem_append_right _ (List.mem_append_right _ (List.mem_append_right _ (List.mem_append_right _ (List.mem_append_right _ (show (⟨"PostHousesModel", "isHouse", "(II)Z"⟩, 100) ∈ lw_privs_7 from List.mem_of_getElem? (i := 6) rfl)))))))))) rfl
theorem ws_X11_placeOf : Cond.selects (M_X11_placeOf).1.cls (M_X11_placeOf).1 (M_X11_placeOf).1 ∈ WL := wl_t (List.mem_append_left _ (List.mem_map_of_mem (f := fun q : MethodName × Nat => Cond.selects q.1.cls q.1 q.1) (show ((M_X11_placeOf).1, 100) ∈ lw_privs from (List.mem_append_right _ (List.mem_append_right _ (List.mem_append_right _ (List.mem_append_right _ (List.mem_append_right _ (List.mem_append_right _ (show (⟨"PostHousesModel", "placeOf", "(II)I"⟩, 100) ∈ lw_privs_7 from List.mem_of_getElem? (i := 7) rfl)))))))))) rfl
