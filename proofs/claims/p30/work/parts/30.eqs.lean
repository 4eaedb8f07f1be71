/-! the rows of the methods -/
abbrev q0 : zM := (yX1_init, cX1_init, 1, none, [], 0, 1, 21, false, 0)
set_option maxRecDepth 100000 in
theorem Q0 : zq 0 = some q0 := rfl
abbrev q16 : zM := (yX2_ofCode, cX2_ofCode, 5, (some .int), [], 1, 0, 0, false, 99)
set_option maxRecDepth 100000 in
theorem Q16 : zq 16 = some q16 := rfl
abbrev q17 : zM := (yX2_inChamber, cX2_inChamber, 2, (some .int), [], 1, 0, 0, false, 99)
set_option maxRecDepth 100000 in
theorem Q17 : zq 17 = some q17 := rfl
abbrev q18 : zM := (yX2_cutIn, cX2_cutIn, 2, (some .int), [], 1, 1, 21, false, 99)
set_option maxRecDepth 100000 in
theorem Q18 : zq 18 = some q18 := rfl
abbrev q19 : zM := (yX2_open, cX2_open, 2, (some .boolean), [], 1, 0, 0, false, 99)
set_option maxRecDepth 100000 in
theorem Q19 : zq 19 = some q19 := rfl
abbrev q20 : zM := (yX2_differing, cX2_differing, 3, (some .int), [], 1, 1, 20, false, 99)
set_option maxRecDepth 100000 in
theorem Q20 : zq 20 = some q20 := rfl
abbrev q22 : zM := (yX2_greatestStep, cX2_greatestStep, 5, (some .int), [], 1, 2, 42, false, 99)
set_option maxRecDepth 100000 in
theorem Q22 : zq 22 = some q22 := rfl
abbrev q23 : zM := (yX2_variety, cX2_variety, 4, (some .int), [], 1, 1, 21, false, 99)
set_option maxRecDepth 100000 in
theorem Q23 : zq 23 = some q23 := rfl
abbrev q24 : zM := (yX2_combinations, cX2_combinations, 4, (some .int), [], 1, 1, 21, false, 99)
set_option maxRecDepth 100000 in
theorem Q24 : zq 24 = some q24 := rfl
abbrev q25 : zM := (yX3_init, cX3_init, 1, none, [], 2, 1, 21, false, 1)
set_option maxRecDepth 100000 in
theorem Q25 : zq 25 = some q25 := rfl
abbrev q27 : zM := (yX3_cutsAt, cX3_cutsAt, 2, (some .int), [], 2, 0, 0, false, 1)
set_option maxRecDepth 100000 in
theorem Q27 : zq 27 = some q27 := rfl
abbrev q28 : zM := (yX3_areOf, cX3_areOf, 2, (some .boolean), [], 2, 1, 21, false, 1)
set_option maxRecDepth 100000 in
theorem Q28 : zq 28 = some q28 := rfl
abbrev q29 : zM := (yX3_collect, cX3_collect, 4, none, [], 2, 4, 88, false, 1)
set_option maxRecDepth 100000 in
theorem Q29 : zq 29 = some q29 := rfl
abbrev q30 : zM := (yX4_init, cX4_init, 1, none, [], 3, 1, 21, false, 2)
set_option maxRecDepth 100000 in
theorem Q30 : zq 30 = some q30 := rfl
abbrev q31 : zM := (yX4_copyFrom, cX4_copyFrom, 2, none, [], 3, 1, 26, false, 2)
set_option maxRecDepth 100000 in
theorem Q31 : zq 31 = some q31 := rfl
abbrev q32 : zM := (yX4_isKey, cX4_isKey, 2, (some .boolean), [], 3, 0, 0, false, 2)
set_option maxRecDepth 100000 in
theorem Q32 : zq 32 = some q32 := rfl
abbrev q33 : zM := (yX4_isDoor, cX4_isDoor, 2, (some .boolean), [], 3, 0, 0, false, 2)
set_option maxRecDepth 100000 in
theorem Q33 : zq 33 = some q33 := rfl
abbrev q34 : zM := (yX4_isLost, cX4_isLost, 2, (some .boolean), [], 3, 0, 0, false, 2)
set_option maxRecDepth 100000 in
theorem Q34 : zq 34 = some q34 := rfl
abbrev q35 : zM := (yX4_rule, cX4_rule, 2, (some .int), [], 3, 0, 0, false, 2)
set_option maxRecDepth 100000 in
theorem Q35 : zq 35 = some q35 := rfl
abbrev q36 : zM := (yX4_refusalOfKey, cX4_refusalOfKey, 2, (some .int), [], 3, 1, 21, false, 2)
set_option maxRecDepth 100000 in
theorem Q36 : zq 36 = some q36 := rfl
abbrev q37 : zM := (yX4_refusalOfKeyOrNone, cX4_refusalOfKeyOrNone, 2, (some .int), [], 3, 1, 21, false, 2)
set_option maxRecDepth 100000 in
theorem Q37 : zq 37 = some q37 := rfl
abbrev q38 : zM := (yX4_refusalOfDoor, cX4_refusalOfDoor, 2, (some .int), [], 3, 1, 21, false, 2)
set_option maxRecDepth 100000 in
theorem Q38 : zq 38 = some q38 := rfl
abbrev q39 : zM := (yX4_refusalOfPair, cX4_refusalOfPair, 3, (some .int), [], 3, 1, 21, false, 2)
set_option maxRecDepth 100000 in
theorem Q39 : zq 39 = some q39 := rfl
abbrev q40 : zM := (yX4_refusalOfChamber, cX4_refusalOfChamber, 3, (some .int), [], 3, 1, 21, false, 2)
set_option maxRecDepth 100000 in
theorem Q40 : zq 40 = some q40 := rfl
abbrev q41 : zM := (yX4_refusalOfRule, cX4_refusalOfRule, 5, (some .int), [], 3, 0, 0, false, 2)
set_option maxRecDepth 100000 in
theorem Q41 : zq 41 = some q41 := rfl
abbrev q42 : zM := (yX4_refusalOfNewKey, cX4_refusalOfNewKey, 3, (some .int), [], 3, 5, 111, false, 2)
set_option maxRecDepth 100000 in
theorem Q42 : zq 42 = some q42 := rfl
abbrev q43 : zM := (yX4_refusalOfCut, cX4_refusalOfCut, 3, (some .int), [], 3, 5, 111, false, 2)
set_option maxRecDepth 100000 in
theorem Q43 : zq 43 = some q43 := rfl
abbrev q44 : zM := (yX4_refusalOfLoss, cX4_refusalOfLoss, 2, (some .int), [], 3, 1, 21, false, 2)
set_option maxRecDepth 100000 in
theorem Q44 : zq 44 = some q44 := rfl
abbrev q45 : zM := (yX4_refusalOfFinding, cX4_refusalOfFinding, 2, (some .int), [], 3, 1, 21, false, 2)
set_option maxRecDepth 100000 in
theorem Q45 : zq 45 = some q45 := rfl
abbrev q46 : zM := (yX4_refusalOfNewDoor, cX4_refusalOfNewDoor, 2, (some .int), [], 3, 1, 21, false, 2)
set_option maxRecDepth 100000 in
theorem Q46 : zq 46 = some q46 := rfl
abbrev q47 : zM := (yX4_startAnew, cX4_startAnew, 4, (some .int), [], 3, 0, 0, false, 2)
set_option maxRecDepth 100000 in
theorem Q47 : zq 47 = some q47 := rfl
abbrev q48 : zM := (yX4_changeRule, cX4_changeRule, 4, (some .int), [], 3, 0, 0, false, 2)
set_option maxRecDepth 100000 in
theorem Q48 : zq 48 = some q48 := rfl
abbrev q49 : zM := (yX4_makeKey, cX4_makeKey, 4, (some .int), [], 3, 1, 24, false, 2)
set_option maxRecDepth 100000 in
theorem Q49 : zq 49 = some q49 := rfl
abbrev q50 : zM := (yX4_cutAnew, cX4_cutAnew, 4, (some .int), [], 3, 2, 42, false, 2)
set_option maxRecDepth 100000 in
theorem Q50 : zq 50 = some q50 := rfl
abbrev q51 : zM := (yX4_markLost, cX4_markLost, 2, (some .int), [], 3, 2, 44, false, 2)
set_option maxRecDepth 100000 in
theorem Q51 : zq 51 = some q51 := rfl
abbrev q52 : zM := (yX4_markFound, cX4_markFound, 2, (some .int), [], 3, 1, 20, false, 2)
set_option maxRecDepth 100000 in
theorem Q52 : zq 52 = some q52 := rfl
abbrev q53 : zM := (yX4_hangDoor, cX4_hangDoor, 3, (some .int), [], 3, 2, 48, false, 2)
set_option maxRecDepth 100000 in
theorem Q53 : zq 53 = some q53 := rfl
abbrev q54 : zM := (yX4_addPinsOf, cX4_addPinsOf, 4, (some .int), [], 3, 1, 20, false, 2)
set_option maxRecDepth 100000 in
theorem Q54 : zq 54 = some q54 := rfl
abbrev q55 : zM := (yX4_fitOne, cX4_fitOne, 3, (some .int), [], 3, 3, 69, false, 2)
set_option maxRecDepth 100000 in
theorem Q55 : zq 55 = some q55 := rfl
abbrev q56 : zM := (yX4_fitEvery, cX4_fitEvery, 3, (some .int), [], 3, 4, 91, false, 2)
set_option maxRecDepth 100000 in
theorem Q56 : zq 56 = some q56 := rfl
abbrev q57 : zM := (yX4_handOver, cX4_handOver, 4, (some .int), [], 3, 0, 0, false, 2)
set_option maxRecDepth 100000 in
theorem Q57 : zq 57 = some q57 := rfl
abbrev q58 : zM := (yX4_isCode, cX4_isCode, 4, (some .boolean), [], 3, 0, 0, false, 2)
set_option maxRecDepth 100000 in
theorem Q58 : zq 58 = some q58 := rfl
abbrev q59 : zM := (yX4_reasonAgainstForm, cX4_reasonAgainstForm, 3, (some .int), [], 3, 3, 66, false, 2)
set_option maxRecDepth 100000 in
theorem Q59 : zq 59 = some q59 := rfl
abbrev q60 : zM := (yX4_isApart, cX4_isApart, 4, (some .boolean), [], 3, 2, 42, false, 2)
set_option maxRecDepth 100000 in
theorem Q60 : zq 60 = some q60 := rfl
abbrev q61 : zM := (yX4_reasonAgainst, cX4_reasonAgainst, 4, (some .int), [], 3, 4, 88, false, 2)
set_option maxRecDepth 100000 in
theorem Q61 : zq 61 = some q61 := rfl
abbrev q62 : zM := (yX4_isCutOfSomeKey, cX4_isCutOfSomeKey, 3, (some .boolean), [], 3, 0, 0, false, 2)
set_option maxRecDepth 100000 in
theorem Q62 : zq 62 = some q62 := rfl
abbrev q64 : zM := (yX4_ownerOf, cX4_ownerOf, 2, (some .int), [], 3, 0, 0, false, 2)
set_option maxRecDepth 100000 in
theorem Q64 : zq 64 = some q64 := rfl
abbrev q65 : zM := (yX4_pinsOf, cX4_pinsOf, 2, (some .int), [], 3, 0, 0, false, 2)
set_option maxRecDepth 100000 in
theorem Q65 : zq 65 = some q65 := rfl
abbrev q66 : zM := (yX4_pinsInChamber, cX4_pinsInChamber, 3, (some .int), [], 3, 1, 21, false, 2)
set_option maxRecDepth 100000 in
theorem Q66 : zq 66 = some q66 := rfl
abbrev q67 : zM := (yX4_lostCount, cX4_lostCount, 1, (some .int), [], 3, 1, 20, false, 2)
set_option maxRecDepth 100000 in
theorem Q67 : zq 67 = some q67 := rfl
abbrev q68 : zM := (yX4_lineOf, cX4_lineOf, 2, (some .int), [], 3, 0, 0, false, 2)
set_option maxRecDepth 100000 in
theorem Q68 : zq 68 = some q68 := rfl
abbrev q69 : zM := (yX4_rightKeys, cX4_rightKeys, 2, (some .int), [], 3, 1, 21, false, 2)
set_option maxRecDepth 100000 in
theorem Q69 : zq 69 = some q69 := rfl
abbrev q70 : zM := (yX4_openers, cX4_openers, 4, (some .int), [], 3, 1, 21, false, 2)
set_option maxRecDepth 100000 in
theorem Q70 : zq 70 = some q70 := rfl
abbrev q71 : zM := (yX4_wrongKeys, cX4_wrongKeys, 2, (some .int), [], 3, 2, 44, false, 2)
set_option maxRecDepth 100000 in
theorem Q71 : zq 71 = some q71 := rfl
abbrev q72 : zM := (yX4_isExposed, cX4_isExposed, 2, (some .boolean), [], 3, 2, 44, false, 2)
set_option maxRecDepth 100000 in
theorem Q72 : zq 72 = some q72 := rfl
abbrev q73 : zM := (yX4_doorsOpenedBy, cX4_doorsOpenedBy, 4, (some .int), [], 3, 1, 21, false, 2)
set_option maxRecDepth 100000 in
theorem Q73 : zq 73 = some q73 := rfl
abbrev q74 : zM := (yX4_doorsOfRightKey, cX4_doorsOfRightKey, 4, (some .int), [], 3, 2, 42, false, 2)
set_option maxRecDepth 100000 in
theorem Q74 : zq 74 = some q74 := rfl
abbrev q75 : zM := (yX4_keysBelow, cX4_keysBelow, 4, (some .int), [], 3, 0, 0, false, 2)
set_option maxRecDepth 100000 in
theorem Q75 : zq 75 = some q75 := rfl
abbrev q76 : zM := (yX4_valueOfKey, cX4_valueOfKey, 3, (some .int), [], 3, 3, 65, false, 2)
set_option maxRecDepth 100000 in
theorem Q76 : zq 76 = some q76 := rfl
abbrev q77 : zM := (yX4_keyAtRank, cX4_keyAtRank, 5, (some .int), [], 3, 0, 0, false, 2)
set_option maxRecDepth 100000 in
theorem Q77 : zq 77 = some q77 := rfl
abbrev q78 : zM := (yX4_pinsWhenFitted, cX4_pinsWhenFitted, 8, (some .int), [], 3, 1, 21, false, 2)
set_option maxRecDepth 100000 in
theorem Q78 : zq 78 = some q78 := rfl
abbrev q79 : zM := (yX4_changesOf, cX4_changesOf, 2, (some .int), [], 3, 2, 48, false, 2)
set_option maxRecDepth 100000 in
theorem Q79 : zq 79 = some q79 := rfl
abbrev q83 : zM := (yX5_init, cX5_init, 2, none, [], 4, 2, 41, false, 3)
set_option maxRecDepth 100000 in
theorem Q83 : zq 83 = some q83 := rfl
abbrev q84 : zM := (yX5_refresh, cX5_refresh, 1, none, [], 4, 5, 112, false, 3)
set_option maxRecDepth 100000 in
theorem Q84 : zq 84 = some q84 := rfl
abbrev q85 : zM := (yX5_valueOfDoor, cX5_valueOfDoor, 3, (some .int), [], 4, 3, 69, false, 3)
set_option maxRecDepth 100000 in
theorem Q85 : zq 85 = some q85 := rfl
abbrev q86 : zM := (yX5_countGhosts, cX5_countGhosts, 6, (some .int), [], 4, 1, 22, false, 3)
set_option maxRecDepth 100000 in
theorem Q86 : zq 86 = some q86 := rfl
abbrev q87 : zM := (yX5_sumOverDoors, cX5_sumOverDoors, 4, (some .int), [], 4, 4, 91, false, 3)
set_option maxRecDepth 100000 in
theorem Q87 : zq 87 = some q87 := rfl
abbrev q88 : zM := (yX5_listWorks, cX5_listWorks, 2, none, [], 4, 4, 91, false, 3)
set_option maxRecDepth 100000 in
theorem Q88 : zq 88 = some q88 := rfl
abbrev q89 : zM := (yX5_orderOf, cX5_orderOf, 3, (some .int), [], 4, 3, 69, false, 3)
set_option maxRecDepth 100000 in
theorem Q89 : zq 89 = some q89 := rfl
abbrev q90 : zM := (yX5_insertWork, cX5_insertWork, 3, none, [], 4, 0, 0, false, 3)
set_option maxRecDepth 100000 in
theorem Q90 : zq 90 = some q90 := rfl
abbrev q91 : zM := (yX5_valueOfWork, cX5_valueOfWork, 4, (some .int), [], 4, 3, 69, false, 3)
set_option maxRecDepth 100000 in
theorem Q91 : zq 91 = some q91 := rfl
abbrev q92 : zM := (yX5_countFree, cX5_countFree, 3, (some .int), [], 4, 3, 65, false, 3)
set_option maxRecDepth 100000 in
theorem Q92 : zq 92 = some q92 := rfl
abbrev q96 : zM := (yX6_init, cX6_init, 2, none, [], 5, 2, 41, false, 4)
set_option maxRecDepth 100000 in
theorem Q96 : zq 96 = some q96 := rfl
abbrev q97 : zM := (yX6_isEmpty, cX6_isEmpty, 1, (some .boolean), [], 5, 0, 0, false, 4)
set_option maxRecDepth 100000 in
theorem Q97 : zq 97 = some q97 := rfl
abbrev q98 : zM := (yX6_save, cX6_save, 2, none, [], 5, 2, 47, false, 4)
set_option maxRecDepth 100000 in
theorem Q98 : zq 98 = some q98 := rfl
abbrev q99 : zM := (yX6_dropOldest, cX6_dropOldest, 3, none, [], 5, 0, 0, false, 4)
set_option maxRecDepth 100000 in
theorem Q99 : zq 99 = some q99 := rfl
abbrev q100 : zM := (yX6_restoreInto, cX6_restoreInto, 2, (some .int), [], 5, 2, 47, false, 4)
set_option maxRecDepth 100000 in
theorem Q100 : zq 100 = some q100 := rfl
abbrev q101 : zM := (yX8_init, cX8_init, 1, none, [], 6, 3, 62, false, 5)
set_option maxRecDepth 100000 in
theorem Q101 : zq 101 = some q101 := rfl
abbrev q102 : zM := (yX8_begin, cX8_begin, 3, (some .int), [], 6, 6, 90, false, 5)
set_option maxRecDepth 100000 in
theorem Q102 : zq 102 = some q102 := rfl
abbrev q103 : zM := (yX8_setRule, cX8_setRule, 3, (some .int), [], 6, 7, 110, false, 5)
set_option maxRecDepth 100000 in
theorem Q103 : zq 103 = some q103 := rfl
abbrev q104 : zM := (yX8_addKey, cX8_addKey, 3, (some .int), [], 6, 7, 133, false, 5)
set_option maxRecDepth 100000 in
theorem Q104 : zq 104 = some q104 := rfl
abbrev q105 : zM := (yX8_recut, cX8_recut, 3, (some .int), [], 6, 7, 133, false, 5)
set_option maxRecDepth 100000 in
theorem Q105 : zq 105 = some q105 := rfl
abbrev q106 : zM := (yX8_lose, cX8_lose, 2, (some .int), [], 6, 7, 110, false, 5)
set_option maxRecDepth 100000 in
theorem Q106 : zq 106 = some q106 := rfl
abbrev q107 : zM := (yX8_find, cX8_find, 2, (some .int), [], 6, 7, 110, false, 5)
set_option maxRecDepth 100000 in
theorem Q107 : zq 107 = some q107 := rfl
abbrev q108 : zM := (yX8_addDoor, cX8_addDoor, 2, (some .int), [], 6, 7, 110, false, 5)
set_option maxRecDepth 100000 in
theorem Q108 : zq 108 = some q108 := rfl
abbrev q109 : zM := (yX8_pin, cX8_pin, 3, (some .int), [], 6, 7, 110, false, 5)
set_option maxRecDepth 100000 in
theorem Q109 : zq 109 = some q109 := rfl
abbrev q110 : zM := (yX8_fit, cX8_fit, 2, (some .int), [], 6, 7, 110, false, 5)
set_option maxRecDepth 100000 in
theorem Q110 : zq 110 = some q110 := rfl
abbrev q111 : zM := (yX8_fitAll, cX8_fitAll, 1, (some .int), [], 6, 5, 113, false, 5)
set_option maxRecDepth 100000 in
theorem Q111 : zq 111 = some q111 := rfl
abbrev q112 : zM := (yX8_setOwner, cX8_setOwner, 3, (some .int), [], 6, 7, 110, false, 5)
set_option maxRecDepth 100000 in
theorem Q112 : zq 112 = some q112 := rfl
abbrev q113 : zM := (yX8_key, cX8_key, 3, (some .int), [], 6, 7, 110, false, 5)
set_option maxRecDepth 100000 in
theorem Q113 : zq 113 = some q113 := rfl
abbrev q114 : zM := (yX8_door, cX8_door, 3, (some .int), [], 6, 7, 132, false, 5)
set_option maxRecDepth 100000 in
theorem Q114 : zq 114 = some q114 := rfl
abbrev q115 : zM := (yX8_pins, cX8_pins, 3, (some .int), [], 6, 7, 110, false, 5)
set_option maxRecDepth 100000 in
theorem Q115 : zq 115 = some q115 := rfl
abbrev q116 : zM := (yX8_whole, cX8_whole, 2, (some .int), [], 6, 7, 135, false, 5)
set_option maxRecDepth 100000 in
theorem Q116 : zq 116 = some q116 := rfl
abbrev q117 : zM := (yX8_work, cX8_work, 3, (some .int), [], 6, 7, 132, false, 5)
set_option maxRecDepth 100000 in
theorem Q117 : zq 117 = some q117 := rfl
abbrev q118 : zM := (yX8_byCode, cX8_byCode, 2, (some .int), [], 6, 7, 110, false, 5)
set_option maxRecDepth 100000 in
theorem Q118 : zq 118 = some q118 := rfl
abbrev q119 : zM := (yX8_reason, cX8_reason, 3, (some .int), [], 6, 7, 111, false, 5)
set_option maxRecDepth 100000 in
theorem Q119 : zq 119 = some q119 := rfl
abbrev q127 : zM := (yX8_undo, cX8_undo, 1, (some .int), [], 6, 6, 90, false, 5)
set_option maxRecDepth 100000 in
theorem Q127 : zq 127 = some q127 := rfl
abbrev q128 : zM := (yX8_digest, cX8_digest, 4, (some .long), [], 6, 6, 135, true, 5)
set_option maxRecDepth 100000 in
theorem Q128 : zq 128 = some q128 := rfl
abbrev q129 : zM := (yX8_refuse, cX8_refuse, 1, none, [], 6, 6, 90, false, 99)
set_option maxRecDepth 100000 in
theorem Q129 : zq 129 = some q129 := rfl
abbrev q130 : zM := (yX8_refusalOfWhat, cX8_refusalOfWhat, 2, (some .int), [], 6, 0, 0, false, 99)
set_option maxRecDepth 100000 in
theorem Q130 : zq 130 = some q130 := rfl
abbrev q131 : zM := (yX8_refusalOfIndex, cX8_refusalOfIndex, 1, (some .int), [], 6, 0, 0, false, 99)
set_option maxRecDepth 100000 in
theorem Q131 : zq 131 = some q131 := rfl
abbrev q132 : zM := (yX8_valueOfWhole, cX8_valueOfWhole, 2, (some .int), [], 6, 5, 114, false, 5)
set_option maxRecDepth 100000 in
theorem Q132 : zq 132 = some q132 := rfl
abbrev q135 : zM := (yX8_mixed, cX8_mixed, 3, (some .long), [], 6, 0, 0, true, 99)
set_option maxRecDepth 100000 in
theorem Q135 : zq 135 = some q135 := rfl
abbrev q136 : zM := (yX8_mixedWithKeys, cX8_mixedWithKeys, 7, (some .long), [], 6, 4, 87, true, 5)
set_option maxRecDepth 100000 in
theorem Q136 : zq 136 = some q136 := rfl
abbrev q137 : zM := (yX8_mixedWithDoors, cX8_mixedWithDoors, 7, (some .long), [], 6, 4, 91, true, 5)
set_option maxRecDepth 100000 in
theorem Q137 : zq 137 = some q137 := rfl
abbrev q138 : zM := (yX8_mixedWithWorks, cX8_mixedWithWorks, 7, (some .long), [], 6, 4, 92, true, 5)
set_option maxRecDepth 100000 in
theorem Q138 : zq 138 = some q138 := rfl
abbrev q231 : zM := (yJ6_numberOfTrailingZeros_0f7a4, cJ6_numberOfTrailingZeros_0f7a4, 2, (some .int), [], 7, 0, 0, false, 99)
set_option maxRecDepth 100000 in
theorem Q231 : zq 231 = some q231 := rfl
abbrev q232 : zM := (yJ6_bitCount_0f7a4, cJ6_bitCount_0f7a4, 1, (some .int), [], 7, 0, 0, false, 99)
set_option maxRecDepth 100000 in
theorem Q232 : zq 232 = some q232 := rfl
abbrev q238 : zM := (yL_cell, cL_cell, 2, (some .int), [], 8, 0, 0, false, 99)
set_option maxRecDepth 100000 in
theorem Q238 : zq 238 = some q238 := rfl
abbrev q239 : zM := (yL_low, cL_low, 2, (some .int), [], 8, 0, 0, false, 99)
set_option maxRecDepth 100000 in
theorem Q239 : zq 239 = some q239 := rfl
abbrev q240 : zM := (yL_bits, cL_bits, 3, (some .int), [], 8, 0, 0, false, 99)
set_option maxRecDepth 100000 in
theorem Q240 : zq 240 = some q240 := rfl
abbrev q241 : zM := (yL_power, cL_power, 4, (some .int), [], 8, 0, 0, false, 99)
set_option maxRecDepth 100000 in
theorem Q241 : zq 241 = some q241 := rfl
abbrev q242 : zM := (yL_does, cL_does, 8, none, [], 8, 9, 156, false, 99)
set_option maxRecDepth 100000 in
theorem Q242 : zq 242 = some q242 := rfl
abbrev q243 : zM := (yL_turn, cL_turn, 2, none, [], 8, 8, 132, false, 99)
set_option maxRecDepth 100000 in
theorem Q243 : zq 243 = some q243 := rfl
abbrev q244 : zM := (yL_isDoorSo, cL_isDoorSo, 8, (some .boolean), [], 8, 8, 156, false, 99)
set_option maxRecDepth 100000 in
theorem Q244 : zq 244 = some q244 := rfl
abbrev q245 : zM := (yL_areWorksSo, cL_areWorksSo, 6, (some .boolean), [], 8, 8, 156, false, 99)
set_option maxRecDepth 100000 in
theorem Q245 : zq 245 = some q245 := rfl
abbrev q260 : zM := (x, code, 6, ret, [], 8, 10, 183, true, 99)
set_option maxRecDepth 100000 in
theorem Q260 : zq 260 = some q260 := rfl
