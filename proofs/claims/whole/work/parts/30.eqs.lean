/-! the rows of the methods -/
abbrev q0 : zM := (yX1_init, cX1_init, 1, none, [], 0, 1, 21, false, 0)
set_option maxRecDepth 100000 in
theorem Q0 : zq 0 = some q0 := rfl
abbrev q1 : zM := (yX1_refusalOfByte, cX1_refusalOfByte, 2, (some .int), [], 0, 0, 0, false, 0)
set_option maxRecDepth 100000 in
theorem Q1 : zq 1 = some q1 := rfl
abbrev q2 : zM := (yX1_append, cX1_append, 2, (some .int), [], 0, 0, 0, false, 0)
set_option maxRecDepth 100000 in
theorem Q2 : zq 2 = some q2 := rfl
abbrev q3 : zM := (yX1_empty, cX1_empty, 2, (some .int), [], 0, 0, 0, false, 0)
set_option maxRecDepth 100000 in
theorem Q3 : zq 3 = some q3 := rfl
abbrev q4 : zM := (yX1_goToStart, cX1_goToStart, 1, none, [], 0, 0, 0, false, 0)
set_option maxRecDepth 100000 in
theorem Q4 : zq 4 = some q4 := rfl
abbrev q5 : zM := (yX1_fault, cX1_fault, 3, (some .int), [], 0, 8, 213, false, 0)
set_option maxRecDepth 100000 in
theorem Q5 : zq 5 = some q5 := rfl
abbrev q6 : zM := (yX1_nextWord, cX1_nextWord, 1, (some (.object "MasterPins$Word")), [], 0, 8, 213, false, 0)
set_option maxRecDepth 100000 in
theorem Q6 : zq 6 = some q6 := rfl
abbrev q7 : zM := (yX1_readCommand, cX1_readCommand, 2, (some .int), [], 0, 7, 192, false, 0)
set_option maxRecDepth 100000 in
theorem Q7 : zq 7 = some q7 := rfl
abbrev q8 : zM := (yX1_readNumbers, cX1_readNumbers, 2, (some .boolean), [], 0, 2, 43, false, 0)
set_option maxRecDepth 100000 in
theorem Q8 : zq 8 = some q8 := rfl
abbrev q9 : zM := (yX1_readNumber, cX1_readNumber, 4, (some .int), [], 0, 1, 20, false, 0)
set_option maxRecDepth 100000 in
theorem Q9 : zq 9 = some q9 := rfl
abbrev q10 : zM := (yX1_byteHere, cX1_byteHere, 1, (some .int), [], 0, 0, 0, false, 0)
set_option maxRecDepth 100000 in
theorem Q10 : zq 10 = some q10 := rfl
abbrev q11 : zM := (yX1_isDigit, cX1_isDigit, 1, (some .boolean), [], 0, 0, 0, false, 99)
set_option maxRecDepth 100000 in
theorem Q11 : zq 11 = some q11 := rfl
abbrev q12 : zM := (yX1_skipSpaces, cX1_skipSpaces, 1, none, [], 0, 0, 0, false, 0)
set_option maxRecDepth 100000 in
theorem Q12 : zq 12 = some q12 := rfl
abbrev q13 : zM := (yX1_skipLetters, cX1_skipLetters, 1, none, [], 0, 0, 0, false, 0)
set_option maxRecDepth 100000 in
theorem Q13 : zq 13 = some q13 := rfl
abbrev q14 : zM := (yX1_wordBetween, cX1_wordBetween, 7, (some (.object "MasterPins$Word")), [], 0, 6, 166, false, 0)
set_option maxRecDepth 100000 in
theorem Q14 : zq 14 = some q14 := rfl
abbrev q15 : zM := (yX1_isWordAt, cX1_isWordAt, 5, (some .boolean), [], 0, 5, 142, false, 0)
set_option maxRecDepth 100000 in
theorem Q15 : zq 15 = some q15 := rfl
abbrev q16 : zM := (yX2_ofCode, cX2_ofCode, 5, (some .int), [], 1, 0, 0, false, 99)
set_option maxRecDepth 100000 in
theorem Q16 : zq 16 = some q16 := rfl
abbrev q17 : zM := (yX2_inChamber, cX2_inChamber, 2, (some .int), [], 1, 0, 0, false, 99)
set_option maxRecDepth 100000 in
theorem Q17 : zq 17 = some q17 := rfl
abbrev q18 : zM := (yX2_cutIn, cX2_cutIn, 2, (some .int), [], 1, 1, 21, false, 99)
set_option maxRecDepth 100000 in
theorem Q18 : zq 18 = some q18 := rfl
abbrev q19 : zM := (yX2_open, cX2_open, 2, (some .boolean), [], 1, 0, 0, false, 99)
set_option maxRecDepth 100000 in
theorem Q19 : zq 19 = some q19 := rfl
abbrev q20 : zM := (yX2_differing, cX2_differing, 3, (some .int), [], 1, 1, 20, false, 99)
set_option maxRecDepth 100000 in
theorem Q20 : zq 20 = some q20 := rfl
abbrev q21 : zM := (yX2_distance, cX2_distance, 5, (some .int), [], 1, 2, 42, false, 99)
set_option maxRecDepth 100000 in
theorem Q21 : zq 21 = some q21 := rfl
abbrev q22 : zM := (yX2_greatestStep, cX2_greatestStep, 5, (some .int), [], 1, 2, 42, false, 99)
set_option maxRecDepth 100000 in
theorem Q22 : zq 22 = some q22 := rfl
abbrev q23 : zM := (yX2_variety, cX2_variety, 4, (some .int), [], 1, 1, 21, false, 99)
set_option maxRecDepth 100000 in
theorem Q23 : zq 23 = some q23 := rfl
abbrev q24 : zM := (yX2_combinations, cX2_combinations, 4, (some .int), [], 1, 1, 21, false, 99)
set_option maxRecDepth 100000 in
theorem Q24 : zq 24 = some q24 := rfl
abbrev q25 : zM := (yX3_init, cX3_init, 1, none, [], 2, 1, 21, false, 1)
set_option maxRecDepth 100000 in
theorem Q25 : zq 25 = some q25 := rfl
abbrev q26 : zM := (yX3_code, cX3_code, 2, (some .int), [], 2, 0, 0, false, 1)
set_option maxRecDepth 100000 in
theorem Q26 : zq 26 = some q26 := rfl
abbrev q27 : zM := (yX3_cutsAt, cX3_cutsAt, 2, (some .int), [], 2, 0, 0, false, 1)
set_option maxRecDepth 100000 in
theorem Q27 : zq 27 = some q27 := rfl
abbrev q28 : zM := (yX3_areOf, cX3_areOf, 2, (some .boolean), [], 2, 1, 21, false, 1)
set_option maxRecDepth 100000 in
theorem Q28 : zq 28 = some q28 := rfl
abbrev q29 : zM := (yX3_collect, cX3_collect, 4, none, [], 2, 4, 88, false, 1)
set_option maxRecDepth 100000 in
theorem Q29 : zq 29 = some q29 := rfl
abbrev q30 : zM := (yX4_init, cX4_init, 1, none, [], 3, 1, 21, false, 2)
set_option maxRecDepth 100000 in
theorem Q30 : zq 30 = some q30 := rfl
abbrev q31 : zM := (yX4_copyFrom, cX4_copyFrom, 2, none, [], 3, 1, 26, false, 2)
set_option maxRecDepth 100000 in
theorem Q31 : zq 31 = some q31 := rfl
abbrev q32 : zM := (yX4_isKey, cX4_isKey, 2, (some .boolean), [], 3, 0, 0, false, 2)
set_option maxRecDepth 100000 in
theorem Q32 : zq 32 = some q32 := rfl
abbrev q33 : zM := (yX4_isDoor, cX4_isDoor, 2, (some .boolean), [], 3, 0, 0, false, 2)
set_option maxRecDepth 100000 in
theorem Q33 : zq 33 = some q33 := rfl
abbrev q34 : zM := (yX4_isLost, cX4_isLost, 2, (some .boolean), [], 3, 0, 0, false, 2)
set_option maxRecDepth 100000 in
theorem Q34 : zq 34 = some q34 := rfl
abbrev q35 : zM := (yX4_rule, cX4_rule, 2, (some .int), [], 3, 0, 0, false, 2)
set_option maxRecDepth 100000 in
theorem Q35 : zq 35 = some q35 := rfl
abbrev q36 : zM := (yX4_refusalOfKey, cX4_refusalOfKey, 2, (some .int), [], 3, 1, 21, false, 2)
set_option maxRecDepth 100000 in
theorem Q36 : zq 36 = some q36 := rfl
abbrev q37 : zM := (yX4_refusalOfKeyOrNone, cX4_refusalOfKeyOrNone, 2, (some .int), [], 3, 1, 21, false, 2)
set_option maxRecDepth 100000 in
theorem Q37 : zq 37 = some q37 := rfl
abbrev q38 : zM := (yX4_refusalOfDoor, cX4_refusalOfDoor, 2, (some .int), [], 3, 1, 21, false, 2)
set_option maxRecDepth 100000 in
theorem Q38 : zq 38 = some q38 := rfl
abbrev q39 : zM := (yX4_refusalOfPair, cX4_refusalOfPair, 3, (some .int), [], 3, 1, 21, false, 2)
set_option maxRecDepth 100000 in
theorem Q39 : zq 39 = some q39 := rfl
abbrev q40 : zM := (yX4_refusalOfChamber, cX4_refusalOfChamber, 3, (some .int), [], 3, 1, 21, false, 2)
set_option maxRecDepth 100000 in
theorem Q40 : zq 40 = some q40 := rfl
abbrev q41 : zM := (yX4_refusalOfRule, cX4_refusalOfRule, 5, (some .int), [], 3, 0, 0, false, 2)
set_option maxRecDepth 100000 in
theorem Q41 : zq 41 = some q41 := rfl
abbrev q42 : zM := (yX4_refusalOfNewKey, cX4_refusalOfNewKey, 3, (some .int), [], 3, 5, 111, false, 2)
set_option maxRecDepth 100000 in
theorem Q42 : zq 42 = some q42 := rfl
abbrev q43 : zM := (yX4_refusalOfCut, cX4_refusalOfCut, 3, (some .int), [], 3, 5, 111, false, 2)
set_option maxRecDepth 100000 in
theorem Q43 : zq 43 = some q43 := rfl
abbrev q44 : zM := (yX4_refusalOfLoss, cX4_refusalOfLoss, 2, (some .int), [], 3, 1, 21, false, 2)
set_option maxRecDepth 100000 in
theorem Q44 : zq 44 = some q44 := rfl
abbrev q45 : zM := (yX4_refusalOfFinding, cX4_refusalOfFinding, 2, (some .int), [], 3, 1, 21, false, 2)
set_option maxRecDepth 100000 in
theorem Q45 : zq 45 = some q45 := rfl
abbrev q46 : zM := (yX4_refusalOfNewDoor, cX4_refusalOfNewDoor, 2, (some .int), [], 3, 1, 21, false, 2)
set_option maxRecDepth 100000 in
theorem Q46 : zq 46 = some q46 := rfl
abbrev q47 : zM := (yX4_startAnew, cX4_startAnew, 4, (some .int), [], 3, 0, 0, false, 2)
set_option maxRecDepth 100000 in
theorem Q47 : zq 47 = some q47 := rfl
abbrev q48 : zM := (yX4_changeRule, cX4_changeRule, 4, (some .int), [], 3, 0, 0, false, 2)
set_option maxRecDepth 100000 in
theorem Q48 : zq 48 = some q48 := rfl
abbrev q49 : zM := (yX4_makeKey, cX4_makeKey, 4, (some .int), [], 3, 1, 24, false, 2)
set_option maxRecDepth 100000 in
theorem Q49 : zq 49 = some q49 := rfl
abbrev q50 : zM := (yX4_cutAnew, cX4_cutAnew, 4, (some .int), [], 3, 2, 42, false, 2)
set_option maxRecDepth 100000 in
theorem Q50 : zq 50 = some q50 := rfl
abbrev q51 : zM := (yX4_markLost, cX4_markLost, 2, (some .int), [], 3, 2, 44, false, 2)
set_option maxRecDepth 100000 in
theorem Q51 : zq 51 = some q51 := rfl
abbrev q52 : zM := (yX4_markFound, cX4_markFound, 2, (some .int), [], 3, 1, 20, false, 2)
set_option maxRecDepth 100000 in
theorem Q52 : zq 52 = some q52 := rfl
abbrev q53 : zM := (yX4_hangDoor, cX4_hangDoor, 3, (some .int), [], 3, 2, 48, false, 2)
set_option maxRecDepth 100000 in
theorem Q53 : zq 53 = some q53 := rfl
abbrev q54 : zM := (yX4_addPinsOf, cX4_addPinsOf, 4, (some .int), [], 3, 1, 20, false, 2)
set_option maxRecDepth 100000 in
theorem Q54 : zq 54 = some q54 := rfl
abbrev q55 : zM := (yX4_fitOne, cX4_fitOne, 3, (some .int), [], 3, 3, 69, false, 2)
set_option maxRecDepth 100000 in
theorem Q55 : zq 55 = some q55 := rfl
abbrev q56 : zM := (yX4_fitEvery, cX4_fitEvery, 3, (some .int), [], 3, 4, 91, false, 2)
set_option maxRecDepth 100000 in
theorem Q56 : zq 56 = some q56 := rfl
abbrev q57 : zM := (yX4_handOver, cX4_handOver, 4, (some .int), [], 3, 0, 0, false, 2)
set_option maxRecDepth 100000 in
theorem Q57 : zq 57 = some q57 := rfl
abbrev q58 : zM := (yX4_isCode, cX4_isCode, 4, (some .boolean), [], 3, 0, 0, false, 2)
set_option maxRecDepth 100000 in
theorem Q58 : zq 58 = some q58 := rfl
abbrev q59 : zM := (yX4_reasonAgainstForm, cX4_reasonAgainstForm, 3, (some .int), [], 3, 3, 66, false, 2)
set_option maxRecDepth 100000 in
theorem Q59 : zq 59 = some q59 := rfl
abbrev q60 : zM := (yX4_isApart, cX4_isApart, 4, (some .boolean), [], 3, 2, 42, false, 2)
set_option maxRecDepth 100000 in
theorem Q60 : zq 60 = some q60 := rfl
abbrev q61 : zM := (yX4_reasonAgainst, cX4_reasonAgainst, 4, (some .int), [], 3, 4, 88, false, 2)
set_option maxRecDepth 100000 in
theorem Q61 : zq 61 = some q61 := rfl
abbrev q62 : zM := (yX4_isCutOfSomeKey, cX4_isCutOfSomeKey, 3, (some .boolean), [], 3, 0, 0, false, 2)
set_option maxRecDepth 100000 in
theorem Q62 : zq 62 = some q62 := rfl
abbrev q63 : zM := (yX4_cutsOf, cX4_cutsOf, 2, (some .int), [], 3, 0, 0, false, 2)
set_option maxRecDepth 100000 in
theorem Q63 : zq 63 = some q63 := rfl
abbrev q64 : zM := (yX4_ownerOf, cX4_ownerOf, 2, (some .int), [], 3, 0, 0, false, 2)
set_option maxRecDepth 100000 in
theorem Q64 : zq 64 = some q64 := rfl
abbrev q65 : zM := (yX4_pinsOf, cX4_pinsOf, 2, (some .int), [], 3, 0, 0, false, 2)
set_option maxRecDepth 100000 in
theorem Q65 : zq 65 = some q65 := rfl
abbrev q66 : zM := (yX4_pinsInChamber, cX4_pinsInChamber, 3, (some .int), [], 3, 1, 21, false, 2)
set_option maxRecDepth 100000 in
theorem Q66 : zq 66 = some q66 := rfl
abbrev q67 : zM := (yX4_lostCount, cX4_lostCount, 1, (some .int), [], 3, 1, 20, false, 2)
set_option maxRecDepth 100000 in
theorem Q67 : zq 67 = some q67 := rfl
abbrev q68 : zM := (yX4_lineOf, cX4_lineOf, 2, (some .int), [], 3, 0, 0, false, 2)
set_option maxRecDepth 100000 in
theorem Q68 : zq 68 = some q68 := rfl
abbrev q69 : zM := (yX4_rightKeys, cX4_rightKeys, 2, (some .int), [], 3, 1, 21, false, 2)
set_option maxRecDepth 100000 in
theorem Q69 : zq 69 = some q69 := rfl
abbrev q70 : zM := (yX4_openers, cX4_openers, 4, (some .int), [], 3, 1, 21, false, 2)
set_option maxRecDepth 100000 in
theorem Q70 : zq 70 = some q70 := rfl
abbrev q71 : zM := (yX4_wrongKeys, cX4_wrongKeys, 2, (some .int), [], 3, 2, 44, false, 2)
set_option maxRecDepth 100000 in
theorem Q71 : zq 71 = some q71 := rfl
abbrev q72 : zM := (yX4_isExposed, cX4_isExposed, 2, (some .boolean), [], 3, 2, 44, false, 2)
set_option maxRecDepth 100000 in
theorem Q72 : zq 72 = some q72 := rfl
abbrev q73 : zM := (yX4_doorsOpenedBy, cX4_doorsOpenedBy, 4, (some .int), [], 3, 1, 21, false, 2)
set_option maxRecDepth 100000 in
theorem Q73 : zq 73 = some q73 := rfl
abbrev q74 : zM := (yX4_doorsOfRightKey, cX4_doorsOfRightKey, 4, (some .int), [], 3, 2, 42, false, 2)
set_option maxRecDepth 100000 in
theorem Q74 : zq 74 = some q74 := rfl
abbrev q75 : zM := (yX4_keysBelow, cX4_keysBelow, 4, (some .int), [], 3, 0, 0, false, 2)
set_option maxRecDepth 100000 in
theorem Q75 : zq 75 = some q75 := rfl
abbrev q76 : zM := (yX4_valueOfKey, cX4_valueOfKey, 3, (some .int), [], 3, 3, 65, false, 2)
set_option maxRecDepth 100000 in
theorem Q76 : zq 76 = some q76 := rfl
abbrev q77 : zM := (yX4_keyAtRank, cX4_keyAtRank, 5, (some .int), [], 3, 0, 0, false, 2)
set_option maxRecDepth 100000 in
theorem Q77 : zq 77 = some q77 := rfl
abbrev q78 : zM := (yX4_pinsWhenFitted, cX4_pinsWhenFitted, 8, (some .int), [], 3, 1, 21, false, 2)
set_option maxRecDepth 100000 in
theorem Q78 : zq 78 = some q78 := rfl
abbrev q79 : zM := (yX4_changesOf, cX4_changesOf, 2, (some .int), [], 3, 2, 48, false, 2)
set_option maxRecDepth 100000 in
theorem Q79 : zq 79 = some q79 := rfl
abbrev q80 : zM := (yX4_changesIf, cX4_changesIf, 7, (some .int), [], 3, 2, 48, false, 2)
set_option maxRecDepth 100000 in
theorem Q80 : zq 80 = some q80 := rfl
abbrev q81 : zM := (yX4_changesIfTurned, cX4_changesIfTurned, 2, (some .int), [], 3, 3, 74, false, 2)
set_option maxRecDepth 100000 in
theorem Q81 : zq 81 = some q81 := rfl
abbrev q82 : zM := (yX4_changesIfCut, cX4_changesIfCut, 3, (some .int), [], 3, 5, 111, false, 2)
set_option maxRecDepth 100000 in
theorem Q82 : zq 82 = some q82 := rfl
abbrev q83 : zM := (yX5_init, cX5_init, 2, none, [], 4, 2, 41, false, 3)
set_option maxRecDepth 100000 in
theorem Q83 : zq 83 = some q83 := rfl
abbrev q84 : zM := (yX5_refresh, cX5_refresh, 1, none, [], 4, 5, 112, false, 3)
set_option maxRecDepth 100000 in
theorem Q84 : zq 84 = some q84 := rfl
abbrev q85 : zM := (yX5_valueOfDoor, cX5_valueOfDoor, 3, (some .int), [], 4, 3, 69, false, 3)
set_option maxRecDepth 100000 in
theorem Q85 : zq 85 = some q85 := rfl
abbrev q86 : zM := (yX5_countGhosts, cX5_countGhosts, 6, (some .int), [], 4, 1, 22, false, 3)
set_option maxRecDepth 100000 in
theorem Q86 : zq 86 = some q86 := rfl
abbrev q87 : zM := (yX5_sumOverDoors, cX5_sumOverDoors, 4, (some .int), [], 4, 4, 91, false, 3)
set_option maxRecDepth 100000 in
theorem Q87 : zq 87 = some q87 := rfl
abbrev q88 : zM := (yX5_listWorks, cX5_listWorks, 2, none, [], 4, 4, 91, false, 3)
set_option maxRecDepth 100000 in
theorem Q88 : zq 88 = some q88 := rfl
abbrev q89 : zM := (yX5_orderOf, cX5_orderOf, 3, (some .int), [], 4, 3, 69, false, 3)
set_option maxRecDepth 100000 in
theorem Q89 : zq 89 = some q89 := rfl
abbrev q90 : zM := (yX5_insertWork, cX5_insertWork, 3, none, [], 4, 0, 0, false, 3)
set_option maxRecDepth 100000 in
theorem Q90 : zq 90 = some q90 := rfl
abbrev q91 : zM := (yX5_valueOfWork, cX5_valueOfWork, 4, (some .int), [], 4, 3, 69, false, 3)
set_option maxRecDepth 100000 in
theorem Q91 : zq 91 = some q91 := rfl
abbrev q92 : zM := (yX5_countFree, cX5_countFree, 3, (some .int), [], 4, 3, 65, false, 3)
set_option maxRecDepth 100000 in
theorem Q92 : zq 92 = some q92 := rfl
abbrev q93 : zM := (yX5_bestOtherCode, cX5_bestOtherCode, 6, (some .int), [], 4, 4, 89, false, 3)
set_option maxRecDepth 100000 in
theorem Q93 : zq 93 = some q93 := rfl
abbrev q94 : zM := (yX5_costOfChange, cX5_costOfChange, 4, (some .int), [], 4, 3, 66, false, 3)
set_option maxRecDepth 100000 in
theorem Q94 : zq 94 = some q94 := rfl
abbrev q95 : zM := (yX5_isBetter, cX5_isBetter, 3, (some .boolean), [], 4, 3, 65, false, 3)
set_option maxRecDepth 100000 in
theorem Q95 : zq 95 = some q95 := rfl
abbrev q96 : zM := (yX6_init, cX6_init, 2, none, [], 5, 2, 41, false, 4)
set_option maxRecDepth 100000 in
theorem Q96 : zq 96 = some q96 := rfl
abbrev q97 : zM := (yX6_isEmpty, cX6_isEmpty, 1, (some .boolean), [], 5, 0, 0, false, 4)
set_option maxRecDepth 100000 in
theorem Q97 : zq 97 = some q97 := rfl
abbrev q98 : zM := (yX6_save, cX6_save, 2, none, [], 5, 2, 47, false, 4)
set_option maxRecDepth 100000 in
theorem Q98 : zq 98 = some q98 := rfl
abbrev q99 : zM := (yX6_dropOldest, cX6_dropOldest, 3, none, [], 5, 0, 0, false, 4)
set_option maxRecDepth 100000 in
theorem Q99 : zq 99 = some q99 := rfl
abbrev q100 : zM := (yX6_restoreInto, cX6_restoreInto, 2, (some .int), [], 5, 2, 47, false, 4)
set_option maxRecDepth 100000 in
theorem Q100 : zq 100 = some q100 := rfl
abbrev q101 : zM := (yX8_init, cX8_init, 1, none, [], 6, 3, 62, false, 5)
set_option maxRecDepth 100000 in
theorem Q101 : zq 101 = some q101 := rfl
abbrev q102 : zM := (yX8_begin, cX8_begin, 3, (some .int), [], 6, 6, 90, false, 5)
set_option maxRecDepth 100000 in
theorem Q102 : zq 102 = some q102 := rfl
abbrev q103 : zM := (yX8_setRule, cX8_setRule, 3, (some .int), [], 6, 7, 110, false, 5)
set_option maxRecDepth 100000 in
theorem Q103 : zq 103 = some q103 := rfl
abbrev q104 : zM := (yX8_addKey, cX8_addKey, 3, (some .int), [], 6, 7, 133, false, 5)
set_option maxRecDepth 100000 in
theorem Q104 : zq 104 = some q104 := rfl
abbrev q105 : zM := (yX8_recut, cX8_recut, 3, (some .int), [], 6, 7, 133, false, 5)
set_option maxRecDepth 100000 in
theorem Q105 : zq 105 = some q105 := rfl
abbrev q106 : zM := (yX8_lose, cX8_lose, 2, (some .int), [], 6, 7, 110, false, 5)
set_option maxRecDepth 100000 in
theorem Q106 : zq 106 = some q106 := rfl
abbrev q107 : zM := (yX8_find, cX8_find, 2, (some .int), [], 6, 7, 110, false, 5)
set_option maxRecDepth 100000 in
theorem Q107 : zq 107 = some q107 := rfl
abbrev q108 : zM := (yX8_addDoor, cX8_addDoor, 2, (some .int), [], 6, 7, 110, false, 5)
set_option maxRecDepth 100000 in
theorem Q108 : zq 108 = some q108 := rfl
abbrev q109 : zM := (yX8_pin, cX8_pin, 3, (some .int), [], 6, 7, 110, false, 5)
set_option maxRecDepth 100000 in
theorem Q109 : zq 109 = some q109 := rfl
abbrev q110 : zM := (yX8_fit, cX8_fit, 2, (some .int), [], 6, 7, 110, false, 5)
set_option maxRecDepth 100000 in
theorem Q110 : zq 110 = some q110 := rfl
abbrev q111 : zM := (yX8_fitAll, cX8_fitAll, 1, (some .int), [], 6, 5, 113, false, 5)
set_option maxRecDepth 100000 in
theorem Q111 : zq 111 = some q111 := rfl
abbrev q112 : zM := (yX8_setOwner, cX8_setOwner, 3, (some .int), [], 6, 7, 110, false, 5)
set_option maxRecDepth 100000 in
theorem Q112 : zq 112 = some q112 := rfl
abbrev q113 : zM := (yX8_key, cX8_key, 3, (some .int), [], 6, 7, 110, false, 5)
set_option maxRecDepth 100000 in
theorem Q113 : zq 113 = some q113 := rfl
abbrev q114 : zM := (yX8_door, cX8_door, 3, (some .int), [], 6, 7, 132, false, 5)
set_option maxRecDepth 100000 in
theorem Q114 : zq 114 = some q114 := rfl
abbrev q115 : zM := (yX8_pins, cX8_pins, 3, (some .int), [], 6, 7, 110, false, 5)
set_option maxRecDepth 100000 in
theorem Q115 : zq 115 = some q115 := rfl
abbrev q116 : zM := (yX8_whole, cX8_whole, 2, (some .int), [], 6, 7, 135, false, 5)
set_option maxRecDepth 100000 in
theorem Q116 : zq 116 = some q116 := rfl
abbrev q117 : zM := (yX8_work, cX8_work, 3, (some .int), [], 6, 7, 132, false, 5)
set_option maxRecDepth 100000 in
theorem Q117 : zq 117 = some q117 := rfl
abbrev q118 : zM := (yX8_byCode, cX8_byCode, 2, (some .int), [], 6, 7, 110, false, 5)
set_option maxRecDepth 100000 in
theorem Q118 : zq 118 = some q118 := rfl
abbrev q119 : zM := (yX8_reason, cX8_reason, 3, (some .int), [], 6, 7, 111, false, 5)
set_option maxRecDepth 100000 in
theorem Q119 : zq 119 = some q119 := rfl
abbrev q120 : zM := (yX8_freeCodes, cX8_freeCodes, 1, (some .int), [], 6, 6, 132, false, 5)
set_option maxRecDepth 100000 in
theorem Q120 : zq 120 = some q120 := rfl
abbrev q121 : zM := (yX8_betterCode, cX8_betterCode, 2, (some .int), [], 6, 7, 132, false, 5)
set_option maxRecDepth 100000 in
theorem Q121 : zq 121 = some q121 := rfl
abbrev q122 : zM := (yX8_pinsIfTurned, cX8_pinsIfTurned, 2, (some .int), [], 6, 7, 110, false, 5)
set_option maxRecDepth 100000 in
theorem Q122 : zq 122 = some q122 := rfl
abbrev q123 : zM := (yX8_pinsIfCut, cX8_pinsIfCut, 3, (some .int), [], 6, 7, 133, false, 5)
set_option maxRecDepth 100000 in
theorem Q123 : zq 123 = some q123 := rfl
abbrev q124 : zM := (yX8_type, cX8_type, 2, (some .int), [], 6, 7, 110, false, 5)
set_option maxRecDepth 100000 in
theorem Q124 : zq 124 = some q124 := rfl
abbrev q125 : zM := (yX8_clearCommands, cX8_clearCommands, 1, (some .int), [], 6, 1, 21, false, 5)
set_option maxRecDepth 100000 in
theorem Q125 : zq 125 = some q125 := rfl
abbrev q126 : zM := (yX8_runCommands, cX8_runCommands, 4, (some .int), [], 6, 9, 235, false, 5)
set_option maxRecDepth 100000 in
theorem Q126 : zq 126 = some q126 := rfl
abbrev q127 : zM := (yX8_undo, cX8_undo, 1, (some .int), [], 6, 6, 90, false, 5)
set_option maxRecDepth 100000 in
theorem Q127 : zq 127 = some q127 := rfl
abbrev q128 : zM := (yX8_digest, cX8_digest, 4, (some .long), [], 6, 6, 135, true, 5)
set_option maxRecDepth 100000 in
theorem Q128 : zq 128 = some q128 := rfl
abbrev q129 : zM := (yX8_refuse, cX8_refuse, 1, none, [], 6, 6, 90, false, 99)
set_option maxRecDepth 100000 in
theorem Q129 : zq 129 = some q129 := rfl
abbrev q130 : zM := (yX8_refusalOfWhat, cX8_refusalOfWhat, 2, (some .int), [], 6, 0, 0, false, 99)
set_option maxRecDepth 100000 in
theorem Q130 : zq 130 = some q130 := rfl
abbrev q131 : zM := (yX8_refusalOfIndex, cX8_refusalOfIndex, 1, (some .int), [], 6, 0, 0, false, 99)
set_option maxRecDepth 100000 in
theorem Q131 : zq 131 = some q131 := rfl
abbrev q132 : zM := (yX8_valueOfWhole, cX8_valueOfWhole, 2, (some .int), [], 6, 5, 114, false, 5)
set_option maxRecDepth 100000 in
theorem Q132 : zq 132 = some q132 := rfl
abbrev q133 : zM := (yX8_refusalOfCommand, cX8_refusalOfCommand, 4, (some .int), [], 6, 6, 133, false, 5)
set_option maxRecDepth 100000 in
theorem Q133 : zq 133 = some q133 := rfl
abbrev q134 : zM := (yX8_carryOut, cX8_carryOut, 4, (some .int), [], 6, 5, 113, false, 5)
set_option maxRecDepth 100000 in
theorem Q134 : zq 134 = some q134 := rfl
abbrev q135 : zM := (yX8_mixed, cX8_mixed, 3, (some .long), [], 6, 0, 0, true, 99)
set_option maxRecDepth 100000 in
theorem Q135 : zq 135 = some q135 := rfl
abbrev q136 : zM := (yX8_mixedWithKeys, cX8_mixedWithKeys, 7, (some .long), [], 6, 4, 87, true, 5)
set_option maxRecDepth 100000 in
theorem Q136 : zq 136 = some q136 := rfl
abbrev q137 : zM := (yX8_mixedWithDoors, cX8_mixedWithDoors, 7, (some .long), [], 6, 4, 91, true, 5)
set_option maxRecDepth 100000 in
theorem Q137 : zq 137 = some q137 := rfl
abbrev q138 : zM := (yX8_mixedWithWorks, cX8_mixedWithWorks, 7, (some .long), [], 6, 4, 92, true, 5)
set_option maxRecDepth 100000 in
theorem Q138 : zq 138 = some q138 := rfl
abbrev q139 : zM := (yX9_init, cX9_init, 1, none, [], 7, 1, 21, false, 6)
set_option maxRecDepth 100000 in
theorem Q139 : zq 139 = some q139 := rfl
abbrev q140 : zM := (yX9_thrown, cX9_thrown, 1, (some .int), [], 7, 0, 0, false, 6)
set_option maxRecDepth 100000 in
theorem Q140 : zq 140 = some q140 := rfl
abbrev q141 : zM := (yX9_in, cX9_in, 3, (some .boolean), [], 7, 0, 0, false, 99)
set_option maxRecDepth 100000 in
theorem Q141 : zq 141 = some q141 := rfl
abbrev q142 : zM := (yX9_fails, cX9_fails, 4, (some .boolean), [], 7, 0, 0, false, 6)
set_option maxRecDepth 100000 in
theorem Q142 : zq 142 = some q142 := rfl
abbrev q143 : zM := (yX9_save, cX9_save, 2, none, [], 7, 0, 0, false, 6)
set_option maxRecDepth 100000 in
theorem Q143 : zq 143 = some q143 := rfl
abbrev q144 : zM := (yX9_isKey, cX9_isKey, 2, (some .boolean), [], 7, 1, 22, false, 6)
set_option maxRecDepth 100000 in
theorem Q144 : zq 144 = some q144 := rfl
abbrev q145 : zM := (yX9_isDoor, cX9_isDoor, 2, (some .boolean), [], 7, 1, 22, false, 6)
set_option maxRecDepth 100000 in
theorem Q145 : zq 145 = some q145 := rfl
abbrev q146 : zM := (yX9_bitsIn, cX9_bitsIn, 3, (some .int), [], 7, 0, 0, false, 99)
set_option maxRecDepth 100000 in
theorem Q146 : zq 146 = some q146 := rfl
abbrev q147 : zM := (yX9_tens, cX9_tens, 3, (some .int), [], 7, 0, 0, false, 99)
set_option maxRecDepth 100000 in
theorem Q147 : zq 147 = some q147 := rfl
abbrev q148 : zM := (yX9_cut, cX9_cut, 3, (some .int), [], 7, 1, 22, false, 6)
set_option maxRecDepth 100000 in
theorem Q148 : zq 148 = some q148 := rfl
abbrev q149 : zM := (yX9_apart, cX9_apart, 2, (some .int), [], 7, 0, 0, false, 99)
set_option maxRecDepth 100000 in
theorem Q149 : zq 149 = some q149 := rfl
abbrev q150 : zM := (yX9_isCode, cX9_isCode, 4, (some .boolean), [], 7, 2, 44, false, 6)
set_option maxRecDepth 100000 in
theorem Q150 : zq 150 = some q150 := rfl
abbrev q151 : zM := (yX9_wrongOf, cX9_wrongOf, 4, (some .int), [], 7, 3, 67, false, 6)
set_option maxRecDepth 100000 in
theorem Q151 : zq 151 = some q151 := rfl
abbrev q152 : zM := (yX9_differ, cX9_differ, 5, (some .int), [], 7, 2, 44, false, 6)
set_option maxRecDepth 100000 in
theorem Q152 : zq 152 = some q152 := rfl
abbrev q153 : zM := (yX9_reasonOf, cX9_reasonOf, 5, (some .int), [], 7, 4, 90, false, 6)
set_option maxRecDepth 100000 in
theorem Q153 : zq 153 = some q153 := rfl
abbrev q154 : zM := (yX9_codeOf, cX9_codeOf, 6, (some .int), [], 7, 0, 0, false, 6)
set_option maxRecDepth 100000 in
theorem Q154 : zq 154 = some q154 := rfl
abbrev q155 : zM := (yX9_allCodes, cX9_allCodes, 3, (some .int), [], 7, 0, 0, false, 6)
set_option maxRecDepth 100000 in
theorem Q155 : zq 155 = some q155 := rfl
abbrev q156 : zM := (yX9_above, cX9_above, 4, (some .int), [], 7, 0, 0, false, 6)
set_option maxRecDepth 100000 in
theorem Q156 : zq 156 = some q156 := rfl
abbrev q157 : zM := (yX9_lostKeys, cX9_lostKeys, 3, (some .int), [], 7, 0, 0, false, 6)
set_option maxRecDepth 100000 in
theorem Q157 : zq 157 = some q157 := rfl
abbrev q158 : zM := (yX9_rightOf, cX9_rightOf, 3, (some .int), [], 7, 1, 23, false, 6)
set_option maxRecDepth 100000 in
theorem Q158 : zq 158 = some q158 := rfl
abbrev q159 : zM := (yX9_pinsOf, cX9_pinsOf, 3, (some .int), [], 7, 0, 0, false, 6)
set_option maxRecDepth 100000 in
theorem Q159 : zq 159 = some q159 := rfl
abbrev q160 : zM := (yX9_fitted, cX9_fitted, 6, (some .int), [], 7, 2, 45, false, 6)
set_option maxRecDepth 100000 in
theorem Q160 : zq 160 = some q160 := rfl
abbrev q161 : zM := (yX9_changes, cX9_changes, 4, (some .int), [], 7, 3, 70, false, 6)
set_option maxRecDepth 100000 in
theorem Q161 : zq 161 = some q161 := rfl
abbrev q162 : zM := (yX9_allChanges, cX9_allChanges, 3, (some .int), [], 7, 4, 93, false, 6)
set_option maxRecDepth 100000 in
theorem Q162 : zq 162 = some q162 := rfl
abbrev q163 : zM := (yX9_fitDoor, cX9_fitDoor, 4, (some .int), [], 7, 4, 93, false, 6)
set_option maxRecDepth 100000 in
theorem Q163 : zq 163 = some q163 := rfl
abbrev q164 : zM := (yX9_opens, cX9_opens, 5, (some .boolean), [], 7, 2, 44, false, 6)
set_option maxRecDepth 100000 in
theorem Q164 : zq 164 = some q164 := rfl
abbrev q165 : zM := (yX9_openersOf, cX9_openersOf, 4, (some .int), [], 7, 3, 68, false, 6)
set_option maxRecDepth 100000 in
theorem Q165 : zq 165 = some q165 := rfl
abbrev q166 : zM := (yX9_wrongKeys, cX9_wrongKeys, 2, (some .int), [], 7, 4, 91, false, 6)
set_option maxRecDepth 100000 in
theorem Q166 : zq 166 = some q166 := rfl
abbrev q167 : zM := (yX9_isExposed, cX9_isExposed, 2, (some .int), [], 7, 4, 91, false, 6)
set_option maxRecDepth 100000 in
theorem Q167 : zq 167 = some q167 := rfl
abbrev q168 : zM := (yX9_pinsIn, cX9_pinsIn, 4, (some .int), [], 7, 1, 22, false, 6)
set_option maxRecDepth 100000 in
theorem Q168 : zq 168 = some q168 := rfl
abbrev q169 : zM := (yX9_codesFor, cX9_codesFor, 4, (some .int), [], 7, 1, 22, false, 6)
set_option maxRecDepth 100000 in
theorem Q169 : zq 169 = some q169 := rfl
abbrev q170 : zM := (yX9_isOfKey, cX9_isOfKey, 4, (some .boolean), [], 7, 0, 0, false, 6)
set_option maxRecDepth 100000 in
theorem Q170 : zq 170 = some q170 := rfl
abbrev q171 : zM := (yX9_ghosts, cX9_ghosts, 5, (some .int), [], 7, 4, 90, false, 6)
set_option maxRecDepth 100000 in
theorem Q171 : zq 171 = some q171 := rfl
abbrev q172 : zM := (yX9_doorsOpenedBy, cX9_doorsOpenedBy, 4, (some .int), [], 7, 3, 68, false, 6)
set_option maxRecDepth 100000 in
theorem Q172 : zq 172 = some q172 := rfl
abbrev q173 : zM := (yX9_doorsRightFor, cX9_doorsRightFor, 4, (some .int), [], 7, 2, 45, false, 6)
set_option maxRecDepth 100000 in
theorem Q173 : zq 173 = some q173 := rfl
abbrev q174 : zM := (yX9_begins, cX9_begins, 6, (some .int), [], 7, 1, 23, false, 6)
set_option maxRecDepth 100000 in
theorem Q174 : zq 174 = some q174 := rfl
abbrev q175 : zM := (yX9_begin, cX9_begin, 3, (some .int), [], 7, 2, 48, false, 6)
set_option maxRecDepth 100000 in
theorem Q175 : zq 175 = some q175 := rfl
abbrev q176 : zM := (yX9_setsRule, cX9_setsRule, 5, (some .int), [], 7, 1, 23, false, 6)
set_option maxRecDepth 100000 in
theorem Q176 : zq 176 = some q176 := rfl
abbrev q177 : zM := (yX9_setRule, cX9_setRule, 3, (some .int), [], 7, 2, 47, false, 6)
set_option maxRecDepth 100000 in
theorem Q177 : zq 177 = some q177 := rfl
abbrev q178 : zM := (yX9_addsKey, cX9_addsKey, 5, (some .int), [], 7, 5, 114, false, 6)
set_option maxRecDepth 100000 in
theorem Q178 : zq 178 = some q178 := rfl
abbrev q179 : zM := (yX9_addKey, cX9_addKey, 3, (some .int), [], 7, 6, 138, false, 6)
set_option maxRecDepth 100000 in
theorem Q179 : zq 179 = some q179 := rfl
abbrev q180 : zM := (yX9_cutsAnew, cX9_cutsAnew, 5, (some .int), [], 7, 5, 114, false, 6)
set_option maxRecDepth 100000 in
theorem Q180 : zq 180 = some q180 := rfl
abbrev q181 : zM := (yX9_recut, cX9_recut, 3, (some .int), [], 7, 6, 138, false, 6)
set_option maxRecDepth 100000 in
theorem Q181 : zq 181 = some q181 := rfl
abbrev q182 : zM := (yX9_loses, cX9_loses, 3, (some .int), [], 7, 4, 91, false, 6)
set_option maxRecDepth 100000 in
theorem Q182 : zq 182 = some q182 := rfl
abbrev q183 : zM := (yX9_lose, cX9_lose, 2, (some .int), [], 7, 5, 113, false, 6)
set_option maxRecDepth 100000 in
theorem Q183 : zq 183 = some q183 := rfl
abbrev q184 : zM := (yX9_finds, cX9_finds, 3, (some .int), [], 7, 2, 43, false, 6)
set_option maxRecDepth 100000 in
theorem Q184 : zq 184 = some q184 := rfl
abbrev q185 : zM := (yX9_find, cX9_find, 2, (some .int), [], 7, 3, 65, false, 6)
set_option maxRecDepth 100000 in
theorem Q185 : zq 185 = some q185 := rfl
abbrev q186 : zM := (yX9_addsDoor, cX9_addsDoor, 5, (some .int), [], 7, 5, 116, false, 6)
set_option maxRecDepth 100000 in
theorem Q186 : zq 186 = some q186 := rfl
abbrev q187 : zM := (yX9_addDoor, cX9_addDoor, 2, (some .int), [], 7, 6, 140, false, 6)
set_option maxRecDepth 100000 in
theorem Q187 : zq 187 = some q187 := rfl
abbrev q188 : zM := (yX9_addsPins, cX9_addsPins, 6, (some .int), [], 7, 2, 45, false, 6)
set_option maxRecDepth 100000 in
theorem Q188 : zq 188 = some q188 := rfl
abbrev q189 : zM := (yX9_pin, cX9_pin, 3, (some .int), [], 7, 3, 70, false, 6)
set_option maxRecDepth 100000 in
theorem Q189 : zq 189 = some q189 := rfl
abbrev q190 : zM := (yX9_fits, cX9_fits, 3, (some .int), [], 7, 5, 116, false, 6)
set_option maxRecDepth 100000 in
theorem Q190 : zq 190 = some q190 := rfl
abbrev q191 : zM := (yX9_fit, cX9_fit, 2, (some .int), [], 7, 6, 138, false, 6)
set_option maxRecDepth 100000 in
theorem Q191 : zq 191 = some q191 := rfl
abbrev q192 : zM := (yX9_fitsAll, cX9_fitsAll, 4, (some .int), [], 7, 5, 116, false, 6)
set_option maxRecDepth 100000 in
theorem Q192 : zq 192 = some q192 := rfl
abbrev q193 : zM := (yX9_fitAll, cX9_fitAll, 1, (some .int), [], 7, 6, 139, false, 6)
set_option maxRecDepth 100000 in
theorem Q193 : zq 193 = some q193 := rfl
abbrev q194 : zM := (yX9_setOwner, cX9_setOwner, 4, (some .int), [], 7, 2, 43, false, 6)
set_option maxRecDepth 100000 in
theorem Q194 : zq 194 = some q194 := rfl
abbrev q195 : zM := (yX9_keyValue, cX9_keyValue, 5, (some .int), [], 7, 4, 91, false, 6)
set_option maxRecDepth 100000 in
theorem Q195 : zq 195 = some q195 := rfl
abbrev q196 : zM := (yX9_key, cX9_key, 3, (some .int), [], 7, 5, 115, false, 6)
set_option maxRecDepth 100000 in
theorem Q196 : zq 196 = some q196 := rfl
abbrev q197 : zM := (yX9_doorValue, cX9_doorValue, 3, (some .int), [], 7, 5, 114, false, 6)
set_option maxRecDepth 100000 in
theorem Q197 : zq 197 = some q197 := rfl
abbrev q198 : zM := (yX9_door, cX9_door, 3, (some .int), [], 7, 6, 136, false, 6)
set_option maxRecDepth 100000 in
theorem Q198 : zq 198 = some q198 := rfl
abbrev q199 : zM := (yX9_pins, cX9_pins, 3, (some .int), [], 7, 2, 43, false, 6)
set_option maxRecDepth 100000 in
theorem Q199 : zq 199 = some q199 := rfl
abbrev q200 : zM := (yX9_allDoors, cX9_allDoors, 4, (some .int), [], 7, 6, 136, false, 6)
set_option maxRecDepth 100000 in
theorem Q200 : zq 200 = some q200 := rfl
abbrev q201 : zM := (yX9_wholeValue, cX9_wholeValue, 2, (some .int), [], 7, 7, 159, false, 6)
set_option maxRecDepth 100000 in
theorem Q201 : zq 201 = some q201 := rfl
abbrev q202 : zM := (yX9_whole, cX9_whole, 2, (some .int), [], 7, 8, 180, false, 6)
set_option maxRecDepth 100000 in
theorem Q202 : zq 202 = some q202 := rfl
abbrev q203 : zM := (yX9_works, cX9_works, 3, (some .int), [], 7, 4, 93, false, 6)
set_option maxRecDepth 100000 in
theorem Q203 : zq 203 = some q203 := rfl
abbrev q204 : zM := (yX9_workAt, cX9_workAt, 5, (some .int), [], 7, 5, 112, false, 6)
set_option maxRecDepth 100000 in
theorem Q204 : zq 204 = some q204 := rfl
abbrev q205 : zM := (yX9_workValue, cX9_workValue, 4, (some .int), [], 7, 6, 136, false, 6)
set_option maxRecDepth 100000 in
theorem Q205 : zq 205 = some q205 := rfl
abbrev q206 : zM := (yX9_work, cX9_work, 3, (some .int), [], 7, 7, 159, false, 6)
set_option maxRecDepth 100000 in
theorem Q206 : zq 206 = some q206 := rfl
abbrev q207 : zM := (yX9_keyAt, cX9_keyAt, 5, (some .int), [], 7, 0, 0, false, 6)
set_option maxRecDepth 100000 in
theorem Q207 : zq 207 = some q207 := rfl
abbrev q208 : zM := (yX9_byCode, cX9_byCode, 2, (some .int), [], 7, 1, 24, false, 6)
set_option maxRecDepth 100000 in
theorem Q208 : zq 208 = some q208 := rfl
abbrev q209 : zM := (yX9_reason, cX9_reason, 3, (some .int), [], 7, 5, 114, false, 6)
set_option maxRecDepth 100000 in
theorem Q209 : zq 209 = some q209 := rfl
abbrev q210 : zM := (yX9_free, cX9_free, 3, (some .int), [], 7, 5, 114, false, 6)
set_option maxRecDepth 100000 in
theorem Q210 : zq 210 = some q210 := rfl
abbrev q211 : zM := (yX9_freeCodes, cX9_freeCodes, 1, (some .int), [], 7, 6, 136, false, 6)
set_option maxRecDepth 100000 in
theorem Q211 : zq 211 = some q211 := rfl
abbrev q212 : zM := (yX9_sizes, cX9_sizes, 5, (some .int), [], 7, 2, 44, false, 6)
set_option maxRecDepth 100000 in
theorem Q212 : zq 212 = some q212 := rfl
abbrev q213 : zM := (yX9_betterCode, cX9_betterCode, 10, (some .int), [], 7, 5, 114, false, 6)
set_option maxRecDepth 100000 in
theorem Q213 : zq 213 = some q213 := rfl
abbrev q214 : zM := (yX9_pinsIfTurned, cX9_pinsIfTurned, 3, (some .int), [], 7, 5, 115, false, 6)
set_option maxRecDepth 100000 in
theorem Q214 : zq 214 = some q214 := rfl
abbrev q215 : zM := (yX9_pinsIfCut, cX9_pinsIfCut, 5, (some .int), [], 7, 5, 115, false, 6)
set_option maxRecDepth 100000 in
theorem Q215 : zq 215 = some q215 := rfl
abbrev q216 : zM := (yX9_type, cX9_type, 2, (some .int), [], 7, 1, 23, false, 6)
set_option maxRecDepth 100000 in
theorem Q216 : zq 216 = some q216 := rfl
abbrev q217 : zM := (yX9_clearCommands, cX9_clearCommands, 2, (some .int), [], 7, 0, 0, false, 6)
set_option maxRecDepth 100000 in
theorem Q217 : zq 217 = some q217 := rfl
abbrev q218 : zM := (yX9_isAt, cX9_isAt, 3, (some .boolean), [], 7, 1, 22, false, 6)
set_option maxRecDepth 100000 in
theorem Q218 : zq 218 = some q218 := rfl
abbrev q219 : zM := (yX9_passSpaces, cX9_passSpaces, 1, none, [], 7, 2, 44, false, 6)
set_option maxRecDepth 100000 in
theorem Q219 : zq 219 = some q219 := rfl
abbrev q220 : zM := (yX9_wordOf, cX9_wordOf, 1, (some .int), [], 7, 0, 0, false, 99)
set_option maxRecDepth 100000 in
theorem Q220 : zq 220 = some q220 := rfl
abbrev q221 : zM := (yX9_numbersOf, cX9_numbersOf, 1, (some .int), [], 7, 0, 0, false, 99)
set_option maxRecDepth 100000 in
theorem Q221 : zq 221 = some q221 := rfl
abbrev q222 : zM := (yX9_due, cX9_due, 2, (some .boolean), [], 7, 0, 0, false, 6)
set_option maxRecDepth 100000 in
theorem Q222 : zq 222 = some q222 := rfl
abbrev q223 : zM := (yX9_readWord, cX9_readWord, 3, none, [], 7, 2, 44, false, 6)
set_option maxRecDepth 100000 in
theorem Q223 : zq 223 = some q223 := rfl
abbrev q224 : zM := (yX9_readNumber, cX9_readNumber, 3, (some .int), [], 7, 3, 64, false, 6)
set_option maxRecDepth 100000 in
theorem Q224 : zq 224 = some q224 := rfl
abbrev q225 : zM := (yX9_command, cX9_command, 3, (some .boolean), [], 7, 7, 163, false, 6)
set_option maxRecDepth 100000 in
theorem Q225 : zq 225 = some q225 := rfl
abbrev q226 : zM := (yX9_carriesOut, cX9_carriesOut, 4, (some .boolean), [], 7, 6, 140, false, 6)
set_option maxRecDepth 100000 in
theorem Q226 : zq 226 = some q226 := rfl
abbrev q227 : zM := (yX9_goThrough, cX9_goThrough, 4, none, [], 7, 8, 185, false, 6)
set_option maxRecDepth 100000 in
theorem Q227 : zq 227 = some q227 := rfl
abbrev q228 : zM := (yX9_runCommands, cX9_runCommands, 1, (some .int), [], 7, 9, 208, false, 6)
set_option maxRecDepth 100000 in
theorem Q228 : zq 228 = some q228 := rfl
abbrev q229 : zM := (yX9_undo, cX9_undo, 2, (some .int), [], 7, 1, 23, false, 6)
set_option maxRecDepth 100000 in
theorem Q229 : zq 229 = some q229 := rfl
abbrev q230 : zM := (yX9_digest, cX9_digest, 5, (some .long), [], 7, 8, 180, true, 6)
set_option maxRecDepth 100000 in
theorem Q230 : zq 230 = some q230 := rfl
abbrev q231 : zM := (yJ6_numberOfTrailingZeros_0f7a4, cJ6_numberOfTrailingZeros_0f7a4, 2, (some .int), [], 8, 0, 0, false, 99)
set_option maxRecDepth 100000 in
theorem Q231 : zq 231 = some q231 := rfl
abbrev q232 : zM := (yJ6_bitCount_0f7a4, cJ6_bitCount_0f7a4, 1, (some .int), [], 8, 0, 0, false, 99)
set_option maxRecDepth 100000 in
theorem Q232 : zq 232 = some q232 := rfl
abbrev q233 : zM := (yJ0_length_8abf5, cJ0_length_8abf5, 1, (some .int), [], 9, 1, 20, false, 101)
set_option maxRecDepth 100000 in
theorem Q233 : zq 233 = some q233 := rfl
abbrev q234 : zM := (yJ0_charAt_5068e, cJ0_charAt_5068e, 2, (some .char), [], 9, 4, 121, false, 101)
set_option maxRecDepth 100000 in
theorem Q234 : zq 234 = some q234 := rfl
abbrev q235 : zM := (yJ0_coder_7d493, cJ0_coder_7d493, 1, (some .byte), [], 9, 0, 0, false, 101)
set_option maxRecDepth 100000 in
theorem Q235 : zq 235 = some q235 := rfl
abbrev q236 : zM := (yJ0_isLatin1_aae02, cJ0_isLatin1_aae02, 1, (some .boolean), [], 9, 0, 0, false, 101)
set_option maxRecDepth 100000 in
theorem Q236 : zq 236 = some q236 := rfl
abbrev q237 : zM := (yJ1_charAt_3b067, cJ1_charAt_3b067, 2, (some .char), [], 10, 3, 100, false, 99)
set_option maxRecDepth 100000 in
theorem Q237 : zq 237 = some q237 := rfl
abbrev q238 : zM := (yL_begin, cL_begin, 5, (some .int), [(0, 10, 13, 13)], 11, 7, 112, false, 99)
set_option maxRecDepth 100000 in
theorem Q238 : zq 238 = some q238 := rfl
abbrev q239 : zM := (yL_setRule, cL_setRule, 5, (some .int), [(0, 10, 13, 13)], 11, 8, 132, false, 99)
set_option maxRecDepth 100000 in
theorem Q239 : zq 239 = some q239 := rfl
abbrev q240 : zM := (yL_addKey, cL_addKey, 5, (some .int), [(0, 10, 13, 21), (0, 10, 17, 13), (0, 10, 21, 23)], 11, 8, 155, false, 99)
set_option maxRecDepth 100000 in
theorem Q240 : zq 240 = some q240 := rfl
abbrev q241 : zM := (yL_recut, cL_recut, 5, (some .int), [(0, 10, 13, 21), (0, 10, 17, 13)], 11, 8, 155, false, 99)
set_option maxRecDepth 100000 in
theorem Q241 : zq 241 = some q241 := rfl
abbrev q242 : zM := (yL_lose, cL_lose, 4, (some .int), [(0, 9, 12, 21), (0, 9, 15, 23)], 11, 8, 131, false, 99)
set_option maxRecDepth 100000 in
theorem Q242 : zq 242 = some q242 := rfl
abbrev q243 : zM := (yL_find, cL_find, 4, (some .int), [(0, 9, 12, 21), (0, 9, 15, 23)], 11, 8, 131, false, 99)
set_option maxRecDepth 100000 in
theorem Q243 : zq 243 = some q243 := rfl
abbrev q244 : zM := (yL_addDoor, cL_addDoor, 4, (some .int), [(0, 9, 12, 21), (0, 9, 15, 23)], 11, 8, 131, false, 99)
set_option maxRecDepth 100000 in
theorem Q244 : zq 244 = some q244 := rfl
abbrev q245 : zM := (yL_pin, cL_pin, 5, (some .int), [(0, 10, 13, 21)], 11, 8, 132, false, 99)
set_option maxRecDepth 100000 in
theorem Q245 : zq 245 = some q245 := rfl
abbrev q246 : zM := (yL_fit, cL_fit, 4, (some .int), [(0, 9, 12, 21)], 11, 8, 131, false, 99)
set_option maxRecDepth 100000 in
theorem Q246 : zq 246 = some q246 := rfl
abbrev q247 : zM := (yL_setOwner, cL_setOwner, 5, (some .int), [(0, 10, 13, 21)], 11, 8, 132, false, 99)
set_option maxRecDepth 100000 in
theorem Q247 : zq 247 = some q247 := rfl
abbrev q248 : zM := (yL_key, cL_key, 5, (some .int), [(0, 10, 13, 21), (0, 10, 17, 13)], 11, 8, 132, false, 99)
set_option maxRecDepth 100000 in
theorem Q248 : zq 248 = some q248 := rfl
abbrev q249 : zM := (yL_door, cL_door, 5, (some .int), [(0, 10, 13, 21), (0, 10, 17, 13)], 11, 8, 154, false, 99)
set_option maxRecDepth 100000 in
theorem Q249 : zq 249 = some q249 := rfl
abbrev q250 : zM := (yL_pins, cL_pins, 5, (some .int), [(0, 10, 13, 21)], 11, 8, 132, false, 99)
set_option maxRecDepth 100000 in
theorem Q250 : zq 250 = some q250 := rfl
abbrev q251 : zM := (yL_whole, cL_whole, 4, (some .int), [(0, 9, 12, 13)], 11, 8, 156, false, 99)
set_option maxRecDepth 100000 in
theorem Q251 : zq 251 = some q251 := rfl
abbrev q252 : zM := (yL_work, cL_work, 5, (some .int), [(0, 10, 13, 13)], 11, 8, 154, false, 99)
set_option maxRecDepth 100000 in
theorem Q252 : zq 252 = some q252 := rfl
abbrev q253 : zM := (yL_byCode, cL_byCode, 4, (some .int), [(0, 9, 12, 13)], 11, 8, 131, false, 99)
set_option maxRecDepth 100000 in
theorem Q253 : zq 253 = some q253 := rfl
abbrev q254 : zM := (yL_reason, cL_reason, 5, (some .int), [(0, 10, 13, 21)], 11, 8, 133, false, 99)
set_option maxRecDepth 100000 in
theorem Q254 : zq 254 = some q254 := rfl
abbrev q255 : zM := (yL_betterCode, cL_betterCode, 4, (some .int), [(0, 9, 12, 21)], 11, 8, 153, false, 99)
set_option maxRecDepth 100000 in
theorem Q255 : zq 255 = some q255 := rfl
abbrev q256 : zM := (yL_pinsIfTurned, cL_pinsIfTurned, 4, (some .int), [(0, 9, 12, 21)], 11, 8, 131, false, 99)
set_option maxRecDepth 100000 in
theorem Q256 : zq 256 = some q256 := rfl
abbrev q257 : zM := (yL_pinsIfCut, cL_pinsIfCut, 5, (some .int), [(0, 10, 13, 21)], 11, 8, 155, false, 99)
set_option maxRecDepth 100000 in
theorem Q257 : zq 257 = some q257 := rfl
abbrev q258 : zM := (yL_type, cL_type, 4, (some .int), [(0, 9, 12, 13), (0, 9, 15, 23)], 11, 8, 131, false, 99)
set_option maxRecDepth 100000 in
theorem Q258 : zq 258 = some q258 := rfl
abbrev q259 : zM := (yL_undo, cL_undo, 3, (some .int), [(0, 8, 11, 23)], 11, 7, 110, false, 99)
set_option maxRecDepth 100000 in
theorem Q259 : zq 259 = some q259 := rfl
abbrev q260 : zM := (x, code, 7, ret, [], 11, 10, 258, false, 99)
set_option maxRecDepth 100000 in
theorem Q260 : zq 260 = some q260 := rfl
