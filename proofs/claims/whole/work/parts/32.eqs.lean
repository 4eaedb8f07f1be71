/-! MasterPins$Plan.isLost -/
theorem e34_0 {ls : zL} {st : List Value} {w : zW} : Rv 34 0 ls st w = ldA ls 0 fun x => Rv 34 1 ls (x :: st) w := R_ldA Q34 (by decide +kernel) rfl
theorem e34_1 {ls : zL} {st : List Value} {w : zW} {a : Nat} : Rv 34 1 ls (.ref a :: st) w = gF w a 2 8 fun v => Rv 34 4 ls (v :: st) w := R_gF (z := 138) Q34 (by decide +kernel) rfl
theorem e34_4 {ls : zL} {st : List Value} {w : zW} : Rv 34 4 ls st w = ldI ls 1 fun x => Rv 34 5 ls (.int x :: st) w := R_ldI Q34 (by decide +kernel) rfl
theorem e34_5 {ls : zL} {st : List Value} {w : zW} {x y : Int32} : Rv 34 5 ls (.int y :: .int x :: st) w = Rv 34 6 ls (.int (x >>> (y &&& 31)) :: st) w := R_next Q34 (by decide +kernel) rfl
theorem e34_6 {ls : zL} {st : List Value} {w : zW} : Rv 34 6 ls st w = Rv 34 7 ls (.int 1 :: st) w := R_con Q34 (by decide +kernel) rfl (by decide)
theorem e34_7 {ls : zL} {st : List Value} {w : zW} {x y : Int32} : Rv 34 7 ls (.int y :: .int x :: st) w = Rv 34 8 ls (.int (x &&& y) :: st) w := R_next Q34 (by decide +kernel) rfl
theorem e34_8 {ls : zL} {st : List Value} {w : zW} {x : Int32} : Rv 34 8 ls (.int x :: st) w = if x = 0 then Rv 34 15 ls st w else Rv 34 11 ls st w := R_f0eq Q34 (by decide +kernel) rfl rfl
theorem e34_11 {ls : zL} {st : List Value} {w : zW} : Rv 34 11 ls st w = Rv 34 12 ls (.int 1 :: st) w := R_con Q34 (by decide +kernel) rfl (by decide)
theorem e34_12 {ls : zL} {st : List Value} {w : zW} : Rv 34 12 ls st w = Rv 34 16 ls st w := R_go Q34 (by decide +kernel) rfl rfl
theorem e34_15 {ls : zL} {st : List Value} {w : zW} : Rv 34 15 ls st w = Rv 34 16 ls (.int 0 :: st) w := R_con Q34 (by decide +kernel) rfl (by decide)
theorem e34_16 {ls : zL} {w : zW} {x : Int32} : Rv 34 16 ls [.int x] w = if x = 0 ∨ x = 1 then some (.inl (some (.int x)), w) else none := R_retZ Q34 (by decide +kernel) rfl
/-! MasterPins$Plan.rule -/
theorem e35_0 {ls : zL} {st : List Value} {w : zW} : Rv 35 0 ls st w = ldA ls 0 fun x => Rv 35 1 ls (x :: st) w := R_ldA Q35 (by decide +kernel) rfl
theorem e35_1 {ls : zL} {st : List Value} {w : zW} {a : Nat} : Rv 35 1 ls (.ref a :: st) w = gF w a 2 2 fun v => Rv 35 4 ls (v :: st) w := R_gF (z := 131) Q35 (by decide +kernel) rfl
theorem e35_4 {ls : zL} {st : List Value} {w : zW} : Rv 35 4 ls st w = ldI ls 1 fun x => Rv 35 5 ls (.int x :: st) w := R_ldI Q35 (by decide +kernel) rfl
theorem e35_5 {ls : zL} {st : List Value} {w : zW} {a : Nat} {x : Int32} : Rv 35 5 ls (.int x :: .ref a :: st) w = gI w a 0 8 x fun v => Rv 35 6 ls (.int v :: st) w := R_iald Q35 (by decide +kernel)
theorem e35_6 {ls : zL} {w : zW} {x : Int32} : Rv 35 6 ls [.int x] w = some (.inl (some (.int x)), w) := R_retI Q35 (by decide +kernel) rfl
/-! MasterPins$Plan.refusalOfKey -/
theorem e36_0 {ls : zL} {st : List Value} {w : zW} : Rv 36 0 ls st w = ldA ls 0 fun x => Rv 36 1 ls (x :: st) w := R_ldA Q36 (by decide +kernel) rfl
theorem e36_1 {ls : zL} {st : List Value} {w : zW} : Rv 36 1 ls st w = ldI ls 1 fun x => Rv 36 2 ls (.int x :: st) w := R_ldI Q36 (by decide +kernel) rfl
theorem e36_2 {ls : zL} {w : zW} {n1 : Int32} {a0 : Nat} : Rv 36 2 ls [.int n1, .ref a0] w = hO w a0 2 (cal (Rv 32 0 [some (.ref a0), some (.int n1)] [] w) (fun v w' => Rv 36 5 ls (vts v []) w') (xnone)) := R_calV (z := 551) (r := []) Q36 (by decide +kernel) rfl rfl Q32 rfl rfl rfl
theorem e36_5 {ls : zL} {st : List Value} {w : zW} {x : Int32} : Rv 36 5 ls (.int x :: st) w = if x = 0 then Rv 36 12 ls st w else Rv 36 8 ls st w := R_f0eq Q36 (by decide +kernel) rfl rfl
theorem e36_8 {ls : zL} {st : List Value} {w : zW} : Rv 36 8 ls st w = Rv 36 9 ls (.int 0 :: st) w := R_con Q36 (by decide +kernel) rfl (by decide)
theorem e36_9 {ls : zL} {st : List Value} {w : zW} : Rv 36 9 ls st w = Rv 36 13 ls st w := R_go Q36 (by decide +kernel) rfl rfl
theorem e36_12 {ls : zL} {st : List Value} {w : zW} : Rv 36 12 ls st w = Rv 36 13 ls (.int 1 :: st) w := R_con Q36 (by decide +kernel) rfl (by decide)
theorem e36_13 {ls : zL} {w : zW} {x : Int32} : Rv 36 13 ls [.int x] w = some (.inl (some (.int x)), w) := R_retI Q36 (by decide +kernel) rfl
/-! MasterPins$Plan.refusalOfKeyOrNone -/
theorem e37_0 {ls : zL} {st : List Value} {w : zW} : Rv 37 0 ls st w = ldI ls 1 fun x => Rv 37 1 ls (.int x :: st) w := R_ldI Q37 (by decide +kernel) rfl
theorem e37_1 {ls : zL} {st : List Value} {w : zW} : Rv 37 1 ls st w = Rv 37 2 ls (.int (-1) :: st) w := R_con Q37 (by decide +kernel) rfl (by decide)
theorem e37_2 {ls : zL} {st : List Value} {w : zW} {x y : Int32} : Rv 37 2 ls (.int y :: .int x :: st) w = if x = y then Rv 37 13 ls st w else Rv 37 5 ls st w := R_fieq Q37 (by decide +kernel) rfl rfl
theorem e37_5 {ls : zL} {st : List Value} {w : zW} : Rv 37 5 ls st w = ldA ls 0 fun x => Rv 37 6 ls (x :: st) w := R_ldA Q37 (by decide +kernel) rfl
theorem e37_6 {ls : zL} {st : List Value} {w : zW} : Rv 37 6 ls st w = ldI ls 1 fun x => Rv 37 7 ls (.int x :: st) w := R_ldI Q37 (by decide +kernel) rfl
theorem e37_7 {ls : zL} {w : zW} {n1 : Int32} {a0 : Nat} : Rv 37 7 ls [.int n1, .ref a0] w = hO w a0 2 (cal (Rv 32 0 [some (.ref a0), some (.int n1)] [] w) (fun v w' => Rv 37 10 ls (vts v []) w') (xnone)) := R_calV (z := 551) (r := []) Q37 (by decide +kernel) rfl rfl Q32 rfl rfl rfl
theorem e37_10 {ls : zL} {st : List Value} {w : zW} {x : Int32} : Rv 37 10 ls (.int x :: st) w = if x = 0 then Rv 37 17 ls st w else Rv 37 13 ls st w := R_f0eq Q37 (by decide +kernel) rfl rfl
theorem e37_13 {ls : zL} {st : List Value} {w : zW} : Rv 37 13 ls st w = Rv 37 14 ls (.int 0 :: st) w := R_con Q37 (by decide +kernel) rfl (by decide)
theorem e37_14 {ls : zL} {st : List Value} {w : zW} : Rv 37 14 ls st w = Rv 37 18 ls st w := R_go Q37 (by decide +kernel) rfl rfl
theorem e37_17 {ls : zL} {st : List Value} {w : zW} : Rv 37 17 ls st w = Rv 37 18 ls (.int 1 :: st) w := R_con Q37 (by decide +kernel) rfl (by decide)
theorem e37_18 {ls : zL} {w : zW} {x : Int32} : Rv 37 18 ls [.int x] w = some (.inl (some (.int x)), w) := R_retI Q37 (by decide +kernel) rfl
/-! MasterPins$Plan.refusalOfDoor -/
theorem e38_0 {ls : zL} {st : List Value} {w : zW} : Rv 38 0 ls st w = ldA ls 0 fun x => Rv 38 1 ls (x :: st) w := R_ldA Q38 (by decide +kernel) rfl
theorem e38_1 {ls : zL} {st : List Value} {w : zW} : Rv 38 1 ls st w = ldI ls 1 fun x => Rv 38 2 ls (.int x :: st) w := R_ldI Q38 (by decide +kernel) rfl
theorem e38_2 {ls : zL} {w : zW} {n1 : Int32} {a0 : Nat} : Rv 38 2 ls [.int n1, .ref a0] w = hO w a0 2 (cal (Rv 33 0 [some (.ref a0), some (.int n1)] [] w) (fun v w' => Rv 38 5 ls (vts v []) w') (xnone)) := R_calV (z := 569) (r := []) Q38 (by decide +kernel) rfl rfl Q33 rfl rfl rfl
theorem e38_5 {ls : zL} {st : List Value} {w : zW} {x : Int32} : Rv 38 5 ls (.int x :: st) w = if x = 0 then Rv 38 12 ls st w else Rv 38 8 ls st w := R_f0eq Q38 (by decide +kernel) rfl rfl
theorem e38_8 {ls : zL} {st : List Value} {w : zW} : Rv 38 8 ls st w = Rv 38 9 ls (.int 0 :: st) w := R_con Q38 (by decide +kernel) rfl (by decide)
theorem e38_9 {ls : zL} {st : List Value} {w : zW} : Rv 38 9 ls st w = Rv 38 13 ls st w := R_go Q38 (by decide +kernel) rfl rfl
theorem e38_12 {ls : zL} {st : List Value} {w : zW} : Rv 38 12 ls st w = Rv 38 13 ls (.int 1 :: st) w := R_con Q38 (by decide +kernel) rfl (by decide)
theorem e38_13 {ls : zL} {w : zW} {x : Int32} : Rv 38 13 ls [.int x] w = some (.inl (some (.int x)), w) := R_retI Q38 (by decide +kernel) rfl
/-! MasterPins$Plan.refusalOfPair -/
theorem e39_0 {ls : zL} {st : List Value} {w : zW} : Rv 39 0 ls st w = ldA ls 0 fun x => Rv 39 1 ls (x :: st) w := R_ldA Q39 (by decide +kernel) rfl
theorem e39_1 {ls : zL} {st : List Value} {w : zW} : Rv 39 1 ls st w = ldI ls 1 fun x => Rv 39 2 ls (.int x :: st) w := R_ldI Q39 (by decide +kernel) rfl
theorem e39_2 {ls : zL} {w : zW} {n1 : Int32} {a0 : Nat} : Rv 39 2 ls [.int n1, .ref a0] w = hO w a0 2 (cal (Rv 33 0 [some (.ref a0), some (.int n1)] [] w) (fun v w' => Rv 39 5 ls (vts v []) w') (xnone)) := R_calV (z := 569) (r := []) Q39 (by decide +kernel) rfl rfl Q33 rfl rfl rfl
theorem e39_5 {ls : zL} {st : List Value} {w : zW} {x : Int32} : Rv 39 5 ls (.int x :: st) w = if x = 0 then Rv 39 20 ls st w else Rv 39 8 ls st w := R_f0eq Q39 (by decide +kernel) rfl rfl
theorem e39_8 {ls : zL} {st : List Value} {w : zW} : Rv 39 8 ls st w = ldA ls 0 fun x => Rv 39 9 ls (x :: st) w := R_ldA Q39 (by decide +kernel) rfl
theorem e39_9 {ls : zL} {st : List Value} {w : zW} : Rv 39 9 ls st w = ldI ls 2 fun x => Rv 39 10 ls (.int x :: st) w := R_ldI Q39 (by decide +kernel) rfl
theorem e39_10 {ls : zL} {w : zW} {n1 : Int32} {a0 : Nat} : Rv 39 10 ls [.int n1, .ref a0] w = hO w a0 2 (cal (Rv 32 0 [some (.ref a0), some (.int n1)] [] w) (fun v w' => Rv 39 13 ls (vts v []) w') (xnone)) := R_calV (z := 551) (r := []) Q39 (by decide +kernel) rfl rfl Q32 rfl rfl rfl
theorem e39_13 {ls : zL} {st : List Value} {w : zW} {x : Int32} : Rv 39 13 ls (.int x :: st) w = if x = 0 then Rv 39 20 ls st w else Rv 39 16 ls st w := R_f0eq Q39 (by decide +kernel) rfl rfl
theorem e39_16 {ls : zL} {st : List Value} {w : zW} : Rv 39 16 ls st w = Rv 39 17 ls (.int 0 :: st) w := R_con Q39 (by decide +kernel) rfl (by decide)
theorem e39_17 {ls : zL} {st : List Value} {w : zW} : Rv 39 17 ls st w = Rv 39 21 ls st w := R_go Q39 (by decide +kernel) rfl rfl
theorem e39_20 {ls : zL} {st : List Value} {w : zW} : Rv 39 20 ls st w = Rv 39 21 ls (.int 1 :: st) w := R_con Q39 (by decide +kernel) rfl (by decide)
theorem e39_21 {ls : zL} {w : zW} {x : Int32} : Rv 39 21 ls [.int x] w = some (.inl (some (.int x)), w) := R_retI Q39 (by decide +kernel) rfl
/-! MasterPins$Plan.refusalOfChamber -/
theorem e40_0 {ls : zL} {st : List Value} {w : zW} : Rv 40 0 ls st w = ldA ls 0 fun x => Rv 40 1 ls (x :: st) w := R_ldA Q40 (by decide +kernel) rfl
theorem e40_1 {ls : zL} {st : List Value} {w : zW} : Rv 40 1 ls st w = ldI ls 1 fun x => Rv 40 2 ls (.int x :: st) w := R_ldI Q40 (by decide +kernel) rfl
theorem e40_2 {ls : zL} {w : zW} {n1 : Int32} {a0 : Nat} : Rv 40 2 ls [.int n1, .ref a0] w = hO w a0 2 (cal (Rv 33 0 [some (.ref a0), some (.int n1)] [] w) (fun v w' => Rv 40 5 ls (vts v []) w') (xnone)) := R_calV (z := 569) (r := []) Q40 (by decide +kernel) rfl rfl Q33 rfl rfl rfl
theorem e40_5 {ls : zL} {st : List Value} {w : zW} {x : Int32} : Rv 40 5 ls (.int x :: st) w = if x = 0 then Rv 40 24 ls st w else Rv 40 8 ls st w := R_f0eq Q40 (by decide +kernel) rfl rfl
theorem e40_8 {ls : zL} {st : List Value} {w : zW} : Rv 40 8 ls st w = ldI ls 2 fun x => Rv 40 9 ls (.int x :: st) w := R_ldI Q40 (by decide +kernel) rfl
theorem e40_9 {ls : zL} {st : List Value} {w : zW} {x : Int32} : Rv 40 9 ls (.int x :: st) w = if x < 0 then Rv 40 24 ls st w else Rv 40 12 ls st w := R_f0lt Q40 (by decide +kernel) rfl rfl
theorem e40_12 {ls : zL} {st : List Value} {w : zW} : Rv 40 12 ls st w = ldI ls 2 fun x => Rv 40 13 ls (.int x :: st) w := R_ldI Q40 (by decide +kernel) rfl
theorem e40_13 {ls : zL} {st : List Value} {w : zW} : Rv 40 13 ls st w = ldA ls 0 fun x => Rv 40 14 ls (x :: st) w := R_ldA Q40 (by decide +kernel) rfl
theorem e40_14 {ls : zL} {st : List Value} {w : zW} {a : Nat} : Rv 40 14 ls (.ref a :: st) w = gF w a 2 0 fun v => Rv 40 17 ls (v :: st) w := R_gF (z := 124) Q40 (by decide +kernel) rfl
theorem e40_17 {ls : zL} {st : List Value} {w : zW} {x y : Int32} : Rv 40 17 ls (.int y :: .int x :: st) w = if x < y then Rv 40 20 ls st w else Rv 40 24 ls st w := R_fige Q40 (by decide +kernel) rfl rfl
theorem e40_20 {ls : zL} {st : List Value} {w : zW} : Rv 40 20 ls st w = Rv 40 21 ls (.int 0 :: st) w := R_con Q40 (by decide +kernel) rfl (by decide)
theorem e40_21 {ls : zL} {st : List Value} {w : zW} : Rv 40 21 ls st w = Rv 40 25 ls st w := R_go Q40 (by decide +kernel) rfl rfl
theorem e40_24 {ls : zL} {st : List Value} {w : zW} : Rv 40 24 ls st w = Rv 40 25 ls (.int 1 :: st) w := R_con Q40 (by decide +kernel) rfl (by decide)
theorem e40_25 {ls : zL} {w : zW} {x : Int32} : Rv 40 25 ls [.int x] w = some (.inl (some (.int x)), w) := R_retI Q40 (by decide +kernel) rfl
/-! MasterPins$Plan.refusalOfRule -/
theorem e41_0 {ls : zL} {st : List Value} {w : zW} : Rv 41 0 ls st w = ldI ls 1 fun x => Rv 41 1 ls (.int x :: st) w := R_ldI Q41 (by decide +kernel) rfl
theorem e41_1 {ls : zL} {st : List Value} {w : zW} {x : Int32} : Rv 41 1 ls (.int x :: st) w = if x < 0 then Rv 41 9 ls st w else Rv 41 4 ls st w := R_f0lt Q41 (by decide +kernel) rfl rfl
theorem e41_4 {ls : zL} {st : List Value} {w : zW} : Rv 41 4 ls st w = ldI ls 1 fun x => Rv 41 5 ls (.int x :: st) w := R_ldI Q41 (by decide +kernel) rfl
theorem e41_5 {ls : zL} {st : List Value} {w : zW} : Rv 41 5 ls st w = Rv 41 6 ls (.int 3 :: st) w := R_con Q41 (by decide +kernel) rfl (by decide)
theorem e41_6 {ls : zL} {st : List Value} {w : zW} {x y : Int32} : Rv 41 6 ls (.int y :: .int x :: st) w = if x < y then Rv 41 11 ls st w else Rv 41 9 ls st w := R_filt Q41 (by decide +kernel) rfl rfl
theorem e41_9 {ls : zL} {st : List Value} {w : zW} : Rv 41 9 ls st w = Rv 41 10 ls (.int 2 :: st) w := R_con Q41 (by decide +kernel) rfl (by decide)
theorem e41_10 {ls : zL} {w : zW} {x : Int32} : Rv 41 10 ls [.int x] w = some (.inl (some (.int x)), w) := R_retI Q41 (by decide +kernel) rfl
theorem e41_11 {ls : zL} {st : List Value} {w : zW} : Rv 41 11 ls st w = ldI ls 1 fun x => Rv 41 12 ls (.int x :: st) w := R_ldI Q41 (by decide +kernel) rfl
theorem e41_12 {ls : zL} {st : List Value} {w : zW} {x : Int32} : Rv 41 12 ls (.int x :: st) w = if x = 0 then Rv 41 15 ls st w else Rv 41 19 ls st w := R_f0ne Q41 (by decide +kernel) rfl rfl
theorem e41_15 {ls : zL} {st : List Value} {w : zW} : Rv 41 15 ls st w = Rv 41 16 ls (.int 0 :: st) w := R_con Q41 (by decide +kernel) rfl (by decide)
theorem e41_16 {ls : zL} {st : List Value} {w : zW} : Rv 41 16 ls st w = Rv 41 20 ls st w := R_go Q41 (by decide +kernel) rfl rfl
theorem e41_19 {ls : zL} {st : List Value} {w : zW} : Rv 41 19 ls st w = Rv 41 20 ls (.int 1 :: st) w := R_con Q41 (by decide +kernel) rfl (by decide)
theorem e41_20 {ls : zL} {st : List Value} {w : zW} {x : Int32} : Rv 41 20 ls (.int x :: st) w = lst ls 3 (some (.int x)) fun l => Rv 41 21 l st w := R_st Q41 (by decide +kernel) rfl
theorem e41_21 {ls : zL} {st : List Value} {w : zW} : Rv 41 21 ls st w = ldI ls 1 fun x => Rv 41 22 ls (.int x :: st) w := R_ldI Q41 (by decide +kernel) rfl
theorem e41_22 {ls : zL} {st : List Value} {w : zW} {x : Int32} : Rv 41 22 ls (.int x :: st) w = if x = 0 then Rv 41 25 ls st w else Rv 41 29 ls st w := R_f0ne Q41 (by decide +kernel) rfl rfl
theorem e41_25 {ls : zL} {st : List Value} {w : zW} : Rv 41 25 ls st w = Rv 41 26 ls (.int 5 :: st) w := R_con Q41 (by decide +kernel) rfl (by decide)
theorem e41_26 {ls : zL} {st : List Value} {w : zW} : Rv 41 26 ls st w = Rv 41 30 ls st w := R_go Q41 (by decide +kernel) rfl rfl
theorem e41_29 {ls : zL} {st : List Value} {w : zW} : Rv 41 29 ls st w = Rv 41 30 ls (.int 4 :: st) w := R_con Q41 (by decide +kernel) rfl (by decide)
theorem e41_30 {ls : zL} {st : List Value} {w : zW} {x : Int32} : Rv 41 30 ls (.int x :: st) w = lst ls 4 (some (.int x)) fun l => Rv 41 32 l st w := R_st Q41 (by decide +kernel) rfl
theorem e41_32 {ls : zL} {st : List Value} {w : zW} : Rv 41 32 ls st w = ldI ls 2 fun x => Rv 41 33 ls (.int x :: st) w := R_ldI Q41 (by decide +kernel) rfl
theorem e41_33 {ls : zL} {st : List Value} {w : zW} : Rv 41 33 ls st w = ldI ls 3 fun x => Rv 41 34 ls (.int x :: st) w := R_ldI Q41 (by decide +kernel) rfl
theorem e41_34 {ls : zL} {st : List Value} {w : zW} {x y : Int32} : Rv 41 34 ls (.int y :: .int x :: st) w = if x < y then Rv 41 43 ls st w else Rv 41 37 ls st w := R_filt Q41 (by decide +kernel) rfl rfl
theorem e41_37 {ls : zL} {st : List Value} {w : zW} : Rv 41 37 ls st w = ldI ls 2 fun x => Rv 41 38 ls (.int x :: st) w := R_ldI Q41 (by decide +kernel) rfl
theorem e41_38 {ls : zL} {st : List Value} {w : zW} : Rv 41 38 ls st w = ldI ls 4 fun x => Rv 41 40 ls (.int x :: st) w := R_ldI Q41 (by decide +kernel) rfl
theorem e41_40 {ls : zL} {st : List Value} {w : zW} {x y : Int32} : Rv 41 40 ls (.int y :: .int x :: st) w = if y < x then Rv 41 43 ls st w else Rv 41 47 ls st w := R_file Q41 (by decide +kernel) rfl rfl
theorem e41_43 {ls : zL} {st : List Value} {w : zW} : Rv 41 43 ls st w = Rv 41 44 ls (.int 2 :: st) w := R_con Q41 (by decide +kernel) rfl (by decide)
theorem e41_44 {ls : zL} {st : List Value} {w : zW} : Rv 41 44 ls st w = Rv 41 48 ls st w := R_go Q41 (by decide +kernel) rfl rfl
theorem e41_47 {ls : zL} {st : List Value} {w : zW} : Rv 41 47 ls st w = Rv 41 48 ls (.int 0 :: st) w := R_con Q41 (by decide +kernel) rfl (by decide)
theorem e41_48 {ls : zL} {w : zW} {x : Int32} : Rv 41 48 ls [.int x] w = some (.inl (some (.int x)), w) := R_retI Q41 (by decide +kernel) rfl
/-! MasterPins$Plan.refusalOfNewKey -/
theorem e42_0 {ls : zL} {st : List Value} {w : zW} : Rv 42 0 ls st w = ldI ls 2 fun x => Rv 42 1 ls (.int x :: st) w := R_ldI Q42 (by decide +kernel) rfl
theorem e42_1 {ls : zL} {st : List Value} {w : zW} : Rv 42 1 ls st w = Rv 42 2 ls (.int (-1) :: st) w := R_con Q42 (by decide +kernel) rfl (by decide)
theorem e42_2 {ls : zL} {st : List Value} {w : zW} {x y : Int32} : Rv 42 2 ls (.int y :: .int x :: st) w = if x = y then Rv 42 15 ls st w else Rv 42 5 ls st w := R_fieq Q42 (by decide +kernel) rfl rfl
theorem e42_5 {ls : zL} {st : List Value} {w : zW} : Rv 42 5 ls st w = ldA ls 0 fun x => Rv 42 6 ls (x :: st) w := R_ldA Q42 (by decide +kernel) rfl
theorem e42_6 {ls : zL} {st : List Value} {w : zW} : Rv 42 6 ls st w = ldI ls 2 fun x => Rv 42 7 ls (.int x :: st) w := R_ldI Q42 (by decide +kernel) rfl
theorem e42_7 {ls : zL} {w : zW} {n1 : Int32} {a0 : Nat} : Rv 42 7 ls [.int n1, .ref a0] w = hO w a0 2 (cal (Rv 32 0 [some (.ref a0), some (.int n1)] [] w) (fun v w' => Rv 42 10 ls (vts v []) w') (xnone)) := R_calV (z := 551) (r := []) Q42 (by decide +kernel) rfl rfl Q32 rfl rfl rfl
theorem e42_10 {ls : zL} {st : List Value} {w : zW} {x : Int32} : Rv 42 10 ls (.int x :: st) w = if x = 0 then Rv 42 13 ls st w else Rv 42 15 ls st w := R_f0ne Q42 (by decide +kernel) rfl rfl
theorem e42_13 {ls : zL} {st : List Value} {w : zW} : Rv 42 13 ls st w = Rv 42 14 ls (.int 1 :: st) w := R_con Q42 (by decide +kernel) rfl (by decide)
theorem e42_14 {ls : zL} {w : zW} {x : Int32} : Rv 42 14 ls [.int x] w = some (.inl (some (.int x)), w) := R_retI Q42 (by decide +kernel) rfl
theorem e42_15 {ls : zL} {st : List Value} {w : zW} : Rv 42 15 ls st w = ldA ls 0 fun x => Rv 42 16 ls (x :: st) w := R_ldA Q42 (by decide +kernel) rfl
theorem e42_16 {ls : zL} {st : List Value} {w : zW} : Rv 42 16 ls st w = Rv 42 17 ls (.int (-1) :: st) w := R_con Q42 (by decide +kernel) rfl (by decide)
theorem e42_17 {ls : zL} {st : List Value} {w : zW} : Rv 42 17 ls st w = ldI ls 1 fun x => Rv 42 18 ls (.int x :: st) w := R_ldI Q42 (by decide +kernel) rfl
theorem e42_18 {ls : zL} {w : zW} {n1 : Int32} {n2 : Int32} {a0 : Nat} : Rv 42 18 ls [.int n1, .int n2, .ref a0] w = hO w a0 2 (cal (Rv 61 0 [some (.ref a0), some (.int n2), some (.int n1), none] [] w) (fun v w' => Rv 42 21 ls (vts v []) w') (xnone)) := R_calV (z := 555) (r := []) Q42 (by decide +kernel) rfl rfl Q61 rfl rfl rfl
theorem e42_21 {ls : zL} {st : List Value} {w : zW} {x : Int32} : Rv 42 21 ls (.int x :: st) w = if x = 0 then Rv 42 26 ls st w else Rv 42 24 ls st w := R_f0eq Q42 (by decide +kernel) rfl rfl
theorem e42_24 {ls : zL} {st : List Value} {w : zW} : Rv 42 24 ls st w = Rv 42 25 ls (.int 2 :: st) w := R_con Q42 (by decide +kernel) rfl (by decide)
theorem e42_25 {ls : zL} {w : zW} {x : Int32} : Rv 42 25 ls [.int x] w = some (.inl (some (.int x)), w) := R_retI Q42 (by decide +kernel) rfl
theorem e42_26 {ls : zL} {st : List Value} {w : zW} : Rv 42 26 ls st w = ldA ls 0 fun x => Rv 42 27 ls (x :: st) w := R_ldA Q42 (by decide +kernel) rfl
theorem e42_27 {ls : zL} {st : List Value} {w : zW} {a : Nat} : Rv 42 27 ls (.ref a :: st) w = gF w a 2 3 fun v => Rv 42 30 ls (v :: st) w := R_gF (z := 132) Q42 (by decide +kernel) rfl
theorem e42_30 {ls : zL} {st : List Value} {w : zW} : Rv 42 30 ls st w = Rv 42 32 ls (.int 16 :: st) w := R_con Q42 (by decide +kernel) rfl (by decide)
theorem e42_32 {ls : zL} {st : List Value} {w : zW} {x y : Int32} : Rv 42 32 ls (.int y :: .int x :: st) w = if x < y then Rv 42 39 ls st w else Rv 42 35 ls st w := R_filt Q42 (by decide +kernel) rfl rfl
theorem e42_35 {ls : zL} {st : List Value} {w : zW} : Rv 42 35 ls st w = Rv 42 36 ls (.int 3 :: st) w := R_con Q42 (by decide +kernel) rfl (by decide)
theorem e42_36 {ls : zL} {st : List Value} {w : zW} : Rv 42 36 ls st w = Rv 42 40 ls st w := R_go Q42 (by decide +kernel) rfl rfl
theorem e42_39 {ls : zL} {st : List Value} {w : zW} : Rv 42 39 ls st w = Rv 42 40 ls (.int 0 :: st) w := R_con Q42 (by decide +kernel) rfl (by decide)
theorem e42_40 {ls : zL} {w : zW} {x : Int32} : Rv 42 40 ls [.int x] w = some (.inl (some (.int x)), w) := R_retI Q42 (by decide +kernel) rfl
/-! MasterPins$Plan.refusalOfCut -/
theorem e43_0 {ls : zL} {st : List Value} {w : zW} : Rv 43 0 ls st w = ldA ls 0 fun x => Rv 43 1 ls (x :: st) w := R_ldA Q43 (by decide +kernel) rfl
theorem e43_1 {ls : zL} {st : List Value} {w : zW} : Rv 43 1 ls st w = ldI ls 1 fun x => Rv 43 2 ls (.int x :: st) w := R_ldI Q43 (by decide +kernel) rfl
theorem e43_2 {ls : zL} {w : zW} {n1 : Int32} {a0 : Nat} : Rv 43 2 ls [.int n1, .ref a0] w = hO w a0 2 (cal (Rv 32 0 [some (.ref a0), some (.int n1)] [] w) (fun v w' => Rv 43 5 ls (vts v []) w') (xnone)) := R_calV (z := 551) (r := []) Q43 (by decide +kernel) rfl rfl Q32 rfl rfl rfl
theorem e43_5 {ls : zL} {st : List Value} {w : zW} {x : Int32} : Rv 43 5 ls (.int x :: st) w = if x = 0 then Rv 43 8 ls st w else Rv 43 10 ls st w := R_f0ne Q43 (by decide +kernel) rfl rfl
theorem e43_8 {ls : zL} {st : List Value} {w : zW} : Rv 43 8 ls st w = Rv 43 9 ls (.int 1 :: st) w := R_con Q43 (by decide +kernel) rfl (by decide)
theorem e43_9 {ls : zL} {w : zW} {x : Int32} : Rv 43 9 ls [.int x] w = some (.inl (some (.int x)), w) := R_retI Q43 (by decide +kernel) rfl
theorem e43_10 {ls : zL} {st : List Value} {w : zW} : Rv 43 10 ls st w = ldA ls 0 fun x => Rv 43 11 ls (x :: st) w := R_ldA Q43 (by decide +kernel) rfl
theorem e43_11 {ls : zL} {st : List Value} {w : zW} : Rv 43 11 ls st w = ldI ls 1 fun x => Rv 43 12 ls (.int x :: st) w := R_ldI Q43 (by decide +kernel) rfl
theorem e43_12 {ls : zL} {st : List Value} {w : zW} : Rv 43 12 ls st w = ldI ls 2 fun x => Rv 43 13 ls (.int x :: st) w := R_ldI Q43 (by decide +kernel) rfl
theorem e43_13 {ls : zL} {w : zW} {n1 : Int32} {n2 : Int32} {a0 : Nat} : Rv 43 13 ls [.int n1, .int n2, .ref a0] w = hO w a0 2 (cal (Rv 61 0 [some (.ref a0), some (.int n2), some (.int n1), none] [] w) (fun v w' => Rv 43 16 ls (vts v []) w') (xnone)) := R_calV (z := 555) (r := []) Q43 (by decide +kernel) rfl rfl Q61 rfl rfl rfl
theorem e43_16 {ls : zL} {st : List Value} {w : zW} {x : Int32} : Rv 43 16 ls (.int x :: st) w = if x = 0 then Rv 43 23 ls st w else Rv 43 19 ls st w := R_f0eq Q43 (by decide +kernel) rfl rfl
theorem e43_19 {ls : zL} {st : List Value} {w : zW} : Rv 43 19 ls st w = Rv 43 20 ls (.int 2 :: st) w := R_con Q43 (by decide +kernel) rfl (by decide)
theorem e43_20 {ls : zL} {st : List Value} {w : zW} : Rv 43 20 ls st w = Rv 43 24 ls st w := R_go Q43 (by decide +kernel) rfl rfl
theorem e43_23 {ls : zL} {st : List Value} {w : zW} : Rv 43 23 ls st w = Rv 43 24 ls (.int 0 :: st) w := R_con Q43 (by decide +kernel) rfl (by decide)
theorem e43_24 {ls : zL} {w : zW} {x : Int32} : Rv 43 24 ls [.int x] w = some (.inl (some (.int x)), w) := R_retI Q43 (by decide +kernel) rfl
/-! MasterPins$Plan.refusalOfLoss -/
theorem e44_0 {ls : zL} {st : List Value} {w : zW} : Rv 44 0 ls st w = ldA ls 0 fun x => Rv 44 1 ls (x :: st) w := R_ldA Q44 (by decide +kernel) rfl
theorem e44_1 {ls : zL} {st : List Value} {w : zW} : Rv 44 1 ls st w = ldI ls 1 fun x => Rv 44 2 ls (.int x :: st) w := R_ldI Q44 (by decide +kernel) rfl
theorem e44_2 {ls : zL} {w : zW} {n1 : Int32} {a0 : Nat} : Rv 44 2 ls [.int n1, .ref a0] w = hO w a0 2 (cal (Rv 32 0 [some (.ref a0), some (.int n1)] [] w) (fun v w' => Rv 44 5 ls (vts v []) w') (xnone)) := R_calV (z := 551) (r := []) Q44 (by decide +kernel) rfl rfl Q32 rfl rfl rfl
theorem e44_5 {ls : zL} {st : List Value} {w : zW} {x : Int32} : Rv 44 5 ls (.int x :: st) w = if x = 0 then Rv 44 8 ls st w else Rv 44 10 ls st w := R_f0ne Q44 (by decide +kernel) rfl rfl
theorem e44_8 {ls : zL} {st : List Value} {w : zW} : Rv 44 8 ls st w = Rv 44 9 ls (.int 1 :: st) w := R_con Q44 (by decide +kernel) rfl (by decide)
theorem e44_9 {ls : zL} {w : zW} {x : Int32} : Rv 44 9 ls [.int x] w = some (.inl (some (.int x)), w) := R_retI Q44 (by decide +kernel) rfl
theorem e44_10 {ls : zL} {st : List Value} {w : zW} : Rv 44 10 ls st w = ldA ls 0 fun x => Rv 44 11 ls (x :: st) w := R_ldA Q44 (by decide +kernel) rfl
theorem e44_11 {ls : zL} {st : List Value} {w : zW} : Rv 44 11 ls st w = ldI ls 1 fun x => Rv 44 12 ls (.int x :: st) w := R_ldI Q44 (by decide +kernel) rfl
theorem e44_12 {ls : zL} {w : zW} {n1 : Int32} {a0 : Nat} : Rv 44 12 ls [.int n1, .ref a0] w = hO w a0 2 (cal (Rv 34 0 [some (.ref a0), some (.int n1)] [] w) (fun v w' => Rv 44 15 ls (vts v []) w') (xnone)) := R_calV (z := 581) (r := []) Q44 (by decide +kernel) rfl rfl Q34 rfl rfl rfl
theorem e44_15 {ls : zL} {st : List Value} {w : zW} {x : Int32} : Rv 44 15 ls (.int x :: st) w = if x = 0 then Rv 44 22 ls st w else Rv 44 18 ls st w := R_f0eq Q44 (by decide +kernel) rfl rfl
theorem e44_18 {ls : zL} {st : List Value} {w : zW} : Rv 44 18 ls st w = Rv 44 19 ls (.int 3 :: st) w := R_con Q44 (by decide +kernel) rfl (by decide)
theorem e44_19 {ls : zL} {st : List Value} {w : zW} : Rv 44 19 ls st w = Rv 44 23 ls st w := R_go Q44 (by decide +kernel) rfl rfl
theorem e44_22 {ls : zL} {st : List Value} {w : zW} : Rv 44 22 ls st w = Rv 44 23 ls (.int 0 :: st) w := R_con Q44 (by decide +kernel) rfl (by decide)
theorem e44_23 {ls : zL} {w : zW} {x : Int32} : Rv 44 23 ls [.int x] w = some (.inl (some (.int x)), w) := R_retI Q44 (by decide +kernel) rfl
/-! MasterPins$Plan.refusalOfFinding -/
theorem e45_0 {ls : zL} {st : List Value} {w : zW} : Rv 45 0 ls st w = ldA ls 0 fun x => Rv 45 1 ls (x :: st) w := R_ldA Q45 (by decide +kernel) rfl
theorem e45_1 {ls : zL} {st : List Value} {w : zW} : Rv 45 1 ls st w = ldI ls 1 fun x => Rv 45 2 ls (.int x :: st) w := R_ldI Q45 (by decide +kernel) rfl
theorem e45_2 {ls : zL} {w : zW} {n1 : Int32} {a0 : Nat} : Rv 45 2 ls [.int n1, .ref a0] w = hO w a0 2 (cal (Rv 32 0 [some (.ref a0), some (.int n1)] [] w) (fun v w' => Rv 45 5 ls (vts v []) w') (xnone)) := R_calV (z := 551) (r := []) Q45 (by decide +kernel) rfl rfl Q32 rfl rfl rfl
theorem e45_5 {ls : zL} {st : List Value} {w : zW} {x : Int32} : Rv 45 5 ls (.int x :: st) w = if x = 0 then Rv 45 8 ls st w else Rv 45 10 ls st w := R_f0ne Q45 (by decide +kernel) rfl rfl
theorem e45_8 {ls : zL} {st : List Value} {w : zW} : Rv 45 8 ls st w = Rv 45 9 ls (.int 1 :: st) w := R_con Q45 (by decide +kernel) rfl (by decide)
theorem e45_9 {ls : zL} {w : zW} {x : Int32} : Rv 45 9 ls [.int x] w = some (.inl (some (.int x)), w) := R_retI Q45 (by decide +kernel) rfl
theorem e45_10 {ls : zL} {st : List Value} {w : zW} : Rv 45 10 ls st w = ldA ls 0 fun x => Rv 45 11 ls (x :: st) w := R_ldA Q45 (by decide +kernel) rfl
theorem e45_11 {ls : zL} {st : List Value} {w : zW} : Rv 45 11 ls st w = ldI ls 1 fun x => Rv 45 12 ls (.int x :: st) w := R_ldI Q45 (by decide +kernel) rfl
theorem e45_12 {ls : zL} {w : zW} {n1 : Int32} {a0 : Nat} : Rv 45 12 ls [.int n1, .ref a0] w = hO w a0 2 (cal (Rv 34 0 [some (.ref a0), some (.int n1)] [] w) (fun v w' => Rv 45 15 ls (vts v []) w') (xnone)) := R_calV (z := 581) (r := []) Q45 (by decide +kernel) rfl rfl Q34 rfl rfl rfl
theorem e45_15 {ls : zL} {st : List Value} {w : zW} {x : Int32} : Rv 45 15 ls (.int x :: st) w = if x = 0 then Rv 45 22 ls st w else Rv 45 18 ls st w := R_f0eq Q45 (by decide +kernel) rfl rfl
theorem e45_18 {ls : zL} {st : List Value} {w : zW} : Rv 45 18 ls st w = Rv 45 19 ls (.int 0 :: st) w := R_con Q45 (by decide +kernel) rfl (by decide)
theorem e45_19 {ls : zL} {st : List Value} {w : zW} : Rv 45 19 ls st w = Rv 45 23 ls st w := R_go Q45 (by decide +kernel) rfl rfl
theorem e45_22 {ls : zL} {st : List Value} {w : zW} : Rv 45 22 ls st w = Rv 45 23 ls (.int 3 :: st) w := R_con Q45 (by decide +kernel) rfl (by decide)
theorem e45_23 {ls : zL} {w : zW} {x : Int32} : Rv 45 23 ls [.int x] w = some (.inl (some (.int x)), w) := R_retI Q45 (by decide +kernel) rfl
/-! MasterPins$Plan.refusalOfNewDoor -/
theorem e46_0 {ls : zL} {st : List Value} {w : zW} : Rv 46 0 ls st w = ldA ls 0 fun x => Rv 46 1 ls (x :: st) w := R_ldA Q46 (by decide +kernel) rfl
theorem e46_1 {ls : zL} {st : List Value} {w : zW} : Rv 46 1 ls st w = ldI ls 1 fun x => Rv 46 2 ls (.int x :: st) w := R_ldI Q46 (by decide +kernel) rfl
theorem e46_2 {ls : zL} {w : zW} {n1 : Int32} {a0 : Nat} : Rv 46 2 ls [.int n1, .ref a0] w = hO w a0 2 (cal (Rv 32 0 [some (.ref a0), some (.int n1)] [] w) (fun v w' => Rv 46 5 ls (vts v []) w') (xnone)) := R_calV (z := 551) (r := []) Q46 (by decide +kernel) rfl rfl Q32 rfl rfl rfl
theorem e46_5 {ls : zL} {st : List Value} {w : zW} {x : Int32} : Rv 46 5 ls (.int x :: st) w = if x = 0 then Rv 46 8 ls st w else Rv 46 10 ls st w := R_f0ne Q46 (by decide +kernel) rfl rfl
theorem e46_8 {ls : zL} {st : List Value} {w : zW} : Rv 46 8 ls st w = Rv 46 9 ls (.int 1 :: st) w := R_con Q46 (by decide +kernel) rfl (by decide)
theorem e46_9 {ls : zL} {w : zW} {x : Int32} : Rv 46 9 ls [.int x] w = some (.inl (some (.int x)), w) := R_retI Q46 (by decide +kernel) rfl
theorem e46_10 {ls : zL} {st : List Value} {w : zW} : Rv 46 10 ls st w = ldA ls 0 fun x => Rv 46 11 ls (x :: st) w := R_ldA Q46 (by decide +kernel) rfl
theorem e46_11 {ls : zL} {st : List Value} {w : zW} {a : Nat} : Rv 46 11 ls (.ref a :: st) w = gF w a 2 9 fun v => Rv 46 14 ls (v :: st) w := R_gF (z := 139) Q46 (by decide +kernel) rfl
theorem e46_14 {ls : zL} {st : List Value} {w : zW} : Rv 46 14 ls st w = Rv 46 16 ls (.int 12 :: st) w := R_con Q46 (by decide +kernel) rfl (by decide)
theorem e46_16 {ls : zL} {st : List Value} {w : zW} {x y : Int32} : Rv 46 16 ls (.int y :: .int x :: st) w = if x < y then Rv 46 23 ls st w else Rv 46 19 ls st w := R_filt Q46 (by decide +kernel) rfl rfl
theorem e46_19 {ls : zL} {st : List Value} {w : zW} : Rv 46 19 ls st w = Rv 46 20 ls (.int 3 :: st) w := R_con Q46 (by decide +kernel) rfl (by decide)
theorem e46_20 {ls : zL} {st : List Value} {w : zW} : Rv 46 20 ls st w = Rv 46 24 ls st w := R_go Q46 (by decide +kernel) rfl rfl
theorem e46_23 {ls : zL} {st : List Value} {w : zW} : Rv 46 23 ls st w = Rv 46 24 ls (.int 0 :: st) w := R_con Q46 (by decide +kernel) rfl (by decide)
theorem e46_24 {ls : zL} {w : zW} {x : Int32} : Rv 46 24 ls [.int x] w = some (.inl (some (.int x)), w) := R_retI Q46 (by decide +kernel) rfl
/-! MasterPins$Plan.startAnew -/
theorem e47_0 {ls : zL} {st : List Value} {w : zW} : Rv 47 0 ls st w = ldA ls 0 fun x => Rv 47 1 ls (x :: st) w := R_ldA Q47 (by decide +kernel) rfl
theorem e47_1 {ls : zL} {st : List Value} {w : zW} {a : Nat} : Rv 47 1 ls (.ref a :: st) w = gF w a 2 9 fun v => Rv 47 4 ls (v :: st) w := R_gF (z := 139) Q47 (by decide +kernel) rfl
theorem e47_4 {ls : zL} {st : List Value} {w : zW} {x : Int32} : Rv 47 4 ls (.int x :: st) w = lst ls 3 (some (.int x)) fun l => Rv 47 5 l st w := R_st Q47 (by decide +kernel) rfl
theorem e47_5 {ls : zL} {st : List Value} {w : zW} : Rv 47 5 ls st w = ldA ls 0 fun x => Rv 47 6 ls (x :: st) w := R_ldA Q47 (by decide +kernel) rfl
theorem e47_6 {ls : zL} {st : List Value} {w : zW} : Rv 47 6 ls st w = ldI ls 1 fun x => Rv 47 7 ls (.int x :: st) w := R_ldI Q47 (by decide +kernel) rfl
theorem e47_7 {ls : zL} {st : List Value} {w : zW} {x : Int32} {a : Nat} : Rv 47 7 ls (.int x :: .ref a :: st) w = pF w a 2 0 (.int x) fun w' => Rv 47 10 ls st w' := R_pF (z := 124) Q47 (by decide +kernel) rfl ⟨by decide, rfl, Or.inl rfl⟩
theorem e47_10 {ls : zL} {st : List Value} {w : zW} : Rv 47 10 ls st w = ldA ls 0 fun x => Rv 47 11 ls (x :: st) w := R_ldA Q47 (by decide +kernel) rfl
theorem e47_11 {ls : zL} {st : List Value} {w : zW} : Rv 47 11 ls st w = ldI ls 2 fun x => Rv 47 12 ls (.int x :: st) w := R_ldI Q47 (by decide +kernel) rfl
theorem e47_12 {ls : zL} {st : List Value} {w : zW} {x : Int32} {a : Nat} : Rv 47 12 ls (.int x :: .ref a :: st) w = pF w a 2 1 (.int x) fun w' => Rv 47 15 ls st w' := R_pF (z := 128) Q47 (by decide +kernel) rfl ⟨by decide, rfl, Or.inl rfl⟩
theorem e47_15 {ls : zL} {st : List Value} {w : zW} : Rv 47 15 ls st w = ldA ls 0 fun x => Rv 47 16 ls (x :: st) w := R_ldA Q47 (by decide +kernel) rfl
theorem e47_16 {ls : zL} {st : List Value} {w : zW} : Rv 47 16 ls st w = Rv 47 17 ls (.int 0 :: st) w := R_con Q47 (by decide +kernel) rfl (by decide)
theorem e47_17 {ls : zL} {st : List Value} {w : zW} {x : Int32} {a : Nat} : Rv 47 17 ls (.int x :: .ref a :: st) w = pF w a 2 3 (.int x) fun w' => Rv 47 20 ls st w' := R_pF (z := 132) Q47 (by decide +kernel) rfl ⟨by decide, rfl, Or.inl rfl⟩
theorem e47_20 {ls : zL} {st : List Value} {w : zW} : Rv 47 20 ls st w = ldA ls 0 fun x => Rv 47 21 ls (x :: st) w := R_ldA Q47 (by decide +kernel) rfl
theorem e47_21 {ls : zL} {st : List Value} {w : zW} : Rv 47 21 ls st w = Rv 47 22 ls (.int 0 :: st) w := R_con Q47 (by decide +kernel) rfl (by decide)
theorem e47_22 {ls : zL} {st : List Value} {w : zW} {x : Int32} {a : Nat} : Rv 47 22 ls (.int x :: .ref a :: st) w = pF w a 2 9 (.int x) fun w' => Rv 47 25 ls st w' := R_pF (z := 139) Q47 (by decide +kernel) rfl ⟨by decide, rfl, Or.inl rfl⟩
theorem e47_25 {ls : zL} {st : List Value} {w : zW} : Rv 47 25 ls st w = ldA ls 0 fun x => Rv 47 26 ls (x :: st) w := R_ldA Q47 (by decide +kernel) rfl
theorem e47_26 {ls : zL} {st : List Value} {w : zW} : Rv 47 26 ls st w = Rv 47 27 ls (.int 0 :: st) w := R_con Q47 (by decide +kernel) rfl (by decide)
theorem e47_27 {ls : zL} {st : List Value} {w : zW} {x : Int32} {a : Nat} : Rv 47 27 ls (.int x :: .ref a :: st) w = pF w a 2 8 (.int x) fun w' => Rv 47 30 ls st w' := R_pF (z := 138) Q47 (by decide +kernel) rfl ⟨by decide, rfl, Or.inl rfl⟩
theorem e47_30 {ls : zL} {st : List Value} {w : zW} : Rv 47 30 ls st w = ldI ls 3 fun x => Rv 47 31 ls (.int x :: st) w := R_ldI Q47 (by decide +kernel) rfl
theorem e47_31 {ls : zL} {w : zW} {x : Int32} : Rv 47 31 ls [.int x] w = some (.inl (some (.int x)), w) := R_retI Q47 (by decide +kernel) rfl
/-! MasterPins$Plan.changeRule -/
theorem e48_0 {ls : zL} {st : List Value} {w : zW} : Rv 48 0 ls st w = ldA ls 0 fun x => Rv 48 1 ls (x :: st) w := R_ldA Q48 (by decide +kernel) rfl
theorem e48_1 {ls : zL} {st : List Value} {w : zW} {a : Nat} : Rv 48 1 ls (.ref a :: st) w = gF w a 2 2 fun v => Rv 48 4 ls (v :: st) w := R_gF (z := 131) Q48 (by decide +kernel) rfl
theorem e48_4 {ls : zL} {st : List Value} {w : zW} : Rv 48 4 ls st w = ldI ls 1 fun x => Rv 48 5 ls (.int x :: st) w := R_ldI Q48 (by decide +kernel) rfl
theorem e48_5 {ls : zL} {st : List Value} {w : zW} {a : Nat} {x : Int32} : Rv 48 5 ls (.int x :: .ref a :: st) w = gI w a 0 8 x fun v => Rv 48 6 ls (.int v :: st) w := R_iald Q48 (by decide +kernel)
theorem e48_6 {ls : zL} {st : List Value} {w : zW} {x : Int32} : Rv 48 6 ls (.int x :: st) w = lst ls 3 (some (.int x)) fun l => Rv 48 7 l st w := R_st Q48 (by decide +kernel) rfl
theorem e48_7 {ls : zL} {st : List Value} {w : zW} : Rv 48 7 ls st w = ldA ls 0 fun x => Rv 48 8 ls (x :: st) w := R_ldA Q48 (by decide +kernel) rfl
theorem e48_8 {ls : zL} {st : List Value} {w : zW} {a : Nat} : Rv 48 8 ls (.ref a :: st) w = gF w a 2 2 fun v => Rv 48 11 ls (v :: st) w := R_gF (z := 131) Q48 (by decide +kernel) rfl
theorem e48_11 {ls : zL} {st : List Value} {w : zW} : Rv 48 11 ls st w = ldI ls 1 fun x => Rv 48 12 ls (.int x :: st) w := R_ldI Q48 (by decide +kernel) rfl
theorem e48_12 {ls : zL} {st : List Value} {w : zW} : Rv 48 12 ls st w = ldI ls 2 fun x => Rv 48 13 ls (.int x :: st) w := R_ldI Q48 (by decide +kernel) rfl
theorem e48_13 {ls : zL} {st : List Value} {w : zW} {a : Nat} {x y : Int32} : Rv 48 13 ls (.int y :: .int x :: .ref a :: st) w = pI w a 0 x y fun w' => Rv 48 14 ls st w' := R_iast Q48 (by decide +kernel)
theorem e48_14 {ls : zL} {st : List Value} {w : zW} : Rv 48 14 ls st w = ldI ls 3 fun x => Rv 48 15 ls (.int x :: st) w := R_ldI Q48 (by decide +kernel) rfl
theorem e48_15 {ls : zL} {w : zW} {x : Int32} : Rv 48 15 ls [.int x] w = some (.inl (some (.int x)), w) := R_retI Q48 (by decide +kernel) rfl
/-! MasterPins$Plan.makeKey -/
theorem e49_0 {ls : zL} {st : List Value} {w : zW} : Rv 49 0 ls st w = ldA ls 0 fun x => Rv 49 1 ls (x :: st) w := R_ldA Q49 (by decide +kernel) rfl
theorem e49_1 {ls : zL} {st : List Value} {w : zW} {a : Nat} : Rv 49 1 ls (.ref a :: st) w = gF w a 2 3 fun v => Rv 49 4 ls (v :: st) w := R_gF (z := 132) Q49 (by decide +kernel) rfl
theorem e49_4 {ls : zL} {st : List Value} {w : zW} {x : Int32} : Rv 49 4 ls (.int x :: st) w = lst ls 3 (some (.int x)) fun l => Rv 49 5 l st w := R_st Q49 (by decide +kernel) rfl
theorem e49_5 {ls : zL} {st : List Value} {w : zW} : Rv 49 5 ls st w = ldA ls 0 fun x => Rv 49 6 ls (x :: st) w := R_ldA Q49 (by decide +kernel) rfl
theorem e49_6 {ls : zL} {st : List Value} {w : zW} {a : Nat} : Rv 49 6 ls (.ref a :: st) w = gF w a 2 4 fun v => Rv 49 9 ls (v :: st) w := R_gF (z := 134) Q49 (by decide +kernel) rfl
theorem e49_9 {ls : zL} {st : List Value} {w : zW} : Rv 49 9 ls st w = ldI ls 3 fun x => Rv 49 10 ls (.int x :: st) w := R_ldI Q49 (by decide +kernel) rfl
theorem e49_10 {ls : zL} {st : List Value} {w : zW} : Rv 49 10 ls st w = ldI ls 1 fun x => Rv 49 11 ls (.int x :: st) w := R_ldI Q49 (by decide +kernel) rfl
theorem e49_11 {ls : zL} {st : List Value} {w : zW} {a : Nat} {x y : Int32} : Rv 49 11 ls (.int y :: .int x :: .ref a :: st) w = pI w a 0 x y fun w' => Rv 49 12 ls st w' := R_iast Q49 (by decide +kernel)
theorem e49_12 {ls : zL} {st : List Value} {w : zW} : Rv 49 12 ls st w = ldA ls 0 fun x => Rv 49 13 ls (x :: st) w := R_ldA Q49 (by decide +kernel) rfl
theorem e49_13 {ls : zL} {st : List Value} {w : zW} {a : Nat} : Rv 49 13 ls (.ref a :: st) w = gF w a 2 5 fun v => Rv 49 16 ls (v :: st) w := R_gF (z := 135) Q49 (by decide +kernel) rfl
theorem e49_16 {ls : zL} {st : List Value} {w : zW} : Rv 49 16 ls st w = ldI ls 3 fun x => Rv 49 17 ls (.int x :: st) w := R_ldI Q49 (by decide +kernel) rfl
theorem e49_17 {ls : zL} {st : List Value} {w : zW} : Rv 49 17 ls st w = ldI ls 1 fun x => Rv 49 18 ls (.int x :: st) w := R_ldI Q49 (by decide +kernel) rfl
theorem e49_18 {ls : zL} {st : List Value} {w : zW} : Rv 49 18 ls st w = ldA ls 0 fun x => Rv 49 19 ls (x :: st) w := R_ldA Q49 (by decide +kernel) rfl
theorem e49_19 {ls : zL} {st : List Value} {w : zW} {a : Nat} : Rv 49 19 ls (.ref a :: st) w = gF w a 2 0 fun v => Rv 49 22 ls (v :: st) w := R_gF (z := 124) Q49 (by decide +kernel) rfl
theorem e49_22 {ls : zL} {w : zW} {n1 : Int32} {n2 : Int32} {n3 : Int32} {a4 : Nat} : Rv 49 22 ls [.int n1, .int n2, .int n3, .ref a4] w = cal (Rv 16 0 [some (.int n2), some (.int n1), none, none, none] [] w) (fun v w' => Rv 49 25 ls (vts v [.int n3, .ref a4]) w') (xnone) := R_calS (z := 351) (kd := 1) (n := 2) Q49 (by decide +kernel) rfl (Or.inl rfl) (Nat.le_of_ble_eq_true rfl) rfl Q16 rfl rfl rfl
theorem e49_25 {ls : zL} {st : List Value} {w : zW} {a : Nat} {x y : Int32} : Rv 49 25 ls (.int y :: .int x :: .ref a :: st) w = pI w a 0 x y fun w' => Rv 49 26 ls st w' := R_iast Q49 (by decide +kernel)
theorem e49_26 {ls : zL} {st : List Value} {w : zW} : Rv 49 26 ls st w = ldA ls 0 fun x => Rv 49 27 ls (x :: st) w := R_ldA Q49 (by decide +kernel) rfl
theorem e49_27 {ls : zL} {st : List Value} {w : zW} {a : Nat} : Rv 49 27 ls (.ref a :: st) w = gF w a 2 6 fun v => Rv 49 30 ls (v :: st) w := R_gF (z := 136) Q49 (by decide +kernel) rfl
theorem e49_30 {ls : zL} {st : List Value} {w : zW} : Rv 49 30 ls st w = ldI ls 3 fun x => Rv 49 31 ls (.int x :: st) w := R_ldI Q49 (by decide +kernel) rfl
theorem e49_31 {ls : zL} {st : List Value} {w : zW} : Rv 49 31 ls st w = ldI ls 2 fun x => Rv 49 32 ls (.int x :: st) w := R_ldI Q49 (by decide +kernel) rfl
theorem e49_32 {ls : zL} {st : List Value} {w : zW} {a : Nat} {x y : Int32} : Rv 49 32 ls (.int y :: .int x :: .ref a :: st) w = pI w a 0 x y fun w' => Rv 49 33 ls st w' := R_iast Q49 (by decide +kernel)
theorem e49_33 {ls : zL} {st : List Value} {w : zW} : Rv 49 33 ls st w = ldA ls 0 fun x => Rv 49 34 ls (x :: st) w := R_ldA Q49 (by decide +kernel) rfl
theorem e49_34 {ls : zL} {st : List Value} {w : zW} {a : Nat} : Rv 49 34 ls (.ref a :: st) w = gF w a 2 7 fun v => Rv 49 37 ls (v :: st) w := R_gF (z := 137) Q49 (by decide +kernel) rfl
theorem e49_37 {ls : zL} {st : List Value} {w : zW} : Rv 49 37 ls st w = ldI ls 3 fun x => Rv 49 38 ls (.int x :: st) w := R_ldI Q49 (by decide +kernel) rfl
theorem e49_38 {ls : zL} {st : List Value} {w : zW} : Rv 49 38 ls st w = ldI ls 2 fun x => Rv 49 39 ls (.int x :: st) w := R_ldI Q49 (by decide +kernel) rfl
theorem e49_39 {ls : zL} {st : List Value} {w : zW} : Rv 49 39 ls st w = Rv 49 40 ls (.int (-1) :: st) w := R_con Q49 (by decide +kernel) rfl (by decide)
theorem e49_40 {ls : zL} {st : List Value} {w : zW} {x y : Int32} : Rv 49 40 ls (.int y :: .int x :: st) w = if x = y then Rv 49 43 ls st w else Rv 49 47 ls st w := R_fine Q49 (by decide +kernel) rfl rfl
theorem e49_43 {ls : zL} {st : List Value} {w : zW} : Rv 49 43 ls st w = Rv 49 44 ls (.int 0 :: st) w := R_con Q49 (by decide +kernel) rfl (by decide)
theorem e49_44 {ls : zL} {st : List Value} {w : zW} : Rv 49 44 ls st w = Rv 49 57 ls st w := R_go Q49 (by decide +kernel) rfl rfl
theorem e49_47 {ls : zL} {st : List Value} {w : zW} : Rv 49 47 ls st w = ldA ls 0 fun x => Rv 49 48 ls (x :: st) w := R_ldA Q49 (by decide +kernel) rfl
theorem e49_48 {ls : zL} {st : List Value} {w : zW} {a : Nat} : Rv 49 48 ls (.ref a :: st) w = gF w a 2 7 fun v => Rv 49 51 ls (v :: st) w := R_gF (z := 137) Q49 (by decide +kernel) rfl
theorem e49_51 {ls : zL} {st : List Value} {w : zW} : Rv 49 51 ls st w = ldI ls 2 fun x => Rv 49 52 ls (.int x :: st) w := R_ldI Q49 (by decide +kernel) rfl
theorem e49_52 {ls : zL} {st : List Value} {w : zW} {a : Nat} {x : Int32} : Rv 49 52 ls (.int x :: .ref a :: st) w = gI w a 0 8 x fun v => Rv 49 53 ls (.int v :: st) w := R_iald Q49 (by decide +kernel)
theorem e49_53 {ls : zL} {st : List Value} {w : zW} : Rv 49 53 ls st w = Rv 49 54 ls (.int 1 :: st) w := R_con Q49 (by decide +kernel) rfl (by decide)
theorem e49_54 {ls : zL} {st : List Value} {w : zW} : Rv 49 54 ls st w = ldI ls 2 fun x => Rv 49 55 ls (.int x :: st) w := R_ldI Q49 (by decide +kernel) rfl
theorem e49_55 {ls : zL} {st : List Value} {w : zW} {x y : Int32} : Rv 49 55 ls (.int y :: .int x :: st) w = Rv 49 56 ls (.int (x <<< (y &&& 31)) :: st) w := R_next Q49 (by decide +kernel) rfl
theorem e49_56 {ls : zL} {st : List Value} {w : zW} {x y : Int32} : Rv 49 56 ls (.int y :: .int x :: st) w = Rv 49 57 ls (.int (x ||| y) :: st) w := R_next Q49 (by decide +kernel) rfl
theorem e49_57 {ls : zL} {st : List Value} {w : zW} {a : Nat} {x y : Int32} : Rv 49 57 ls (.int y :: .int x :: .ref a :: st) w = pI w a 0 x y fun w' => Rv 49 58 ls st w' := R_iast Q49 (by decide +kernel)
theorem e49_58 {ls : zL} {st : List Value} {w : zW} : Rv 49 58 ls st w = ldA ls 0 fun x => Rv 49 59 ls (x :: st) w := R_ldA Q49 (by decide +kernel) rfl
theorem e49_59 {ls : zL} {st : List Value} {w : zW} {x : Nat} : Rv 49 59 ls (.ref x :: st) w = Rv 49 60 ls (.ref x :: .ref x :: st) w := R_next Q49 (by decide +kernel) rfl
theorem e49_60 {ls : zL} {st : List Value} {w : zW} {a : Nat} : Rv 49 60 ls (.ref a :: st) w = gF w a 2 3 fun v => Rv 49 63 ls (v :: st) w := R_gF (z := 132) Q49 (by decide +kernel) rfl
theorem e49_63 {ls : zL} {st : List Value} {w : zW} : Rv 49 63 ls st w = Rv 49 64 ls (.int 1 :: st) w := R_con Q49 (by decide +kernel) rfl (by decide)
theorem e49_64 {ls : zL} {st : List Value} {w : zW} {x y : Int32} : Rv 49 64 ls (.int y :: .int x :: st) w = Rv 49 65 ls (.int (x + y) :: st) w := R_next Q49 (by decide +kernel) rfl
theorem e49_65 {ls : zL} {st : List Value} {w : zW} {x : Int32} {a : Nat} : Rv 49 65 ls (.int x :: .ref a :: st) w = pF w a 2 3 (.int x) fun w' => Rv 49 68 ls st w' := R_pF (z := 132) Q49 (by decide +kernel) rfl ⟨by decide, rfl, Or.inl rfl⟩
theorem e49_68 {ls : zL} {st : List Value} {w : zW} : Rv 49 68 ls st w = ldI ls 3 fun x => Rv 49 69 ls (.int x :: st) w := R_ldI Q49 (by decide +kernel) rfl
theorem e49_69 {ls : zL} {w : zW} {x : Int32} : Rv 49 69 ls [.int x] w = some (.inl (some (.int x)), w) := R_retI Q49 (by decide +kernel) rfl
/-! MasterPins$Plan.cutAnew -/
theorem e50_0 {ls : zL} {st : List Value} {w : zW} : Rv 50 0 ls st w = ldA ls 0 fun x => Rv 50 1 ls (x :: st) w := R_ldA Q50 (by decide +kernel) rfl
theorem e50_1 {ls : zL} {st : List Value} {w : zW} {a : Nat} : Rv 50 1 ls (.ref a :: st) w = gF w a 2 5 fun v => Rv 50 4 ls (v :: st) w := R_gF (z := 135) Q50 (by decide +kernel) rfl
theorem e50_4 {ls : zL} {st : List Value} {w : zW} : Rv 50 4 ls st w = ldI ls 1 fun x => Rv 50 5 ls (.int x :: st) w := R_ldI Q50 (by decide +kernel) rfl
theorem e50_5 {ls : zL} {st : List Value} {w : zW} {a : Nat} {x : Int32} : Rv 50 5 ls (.int x :: .ref a :: st) w = gI w a 0 8 x fun v => Rv 50 6 ls (.int v :: st) w := R_iald Q50 (by decide +kernel)
theorem e50_6 {ls : zL} {st : List Value} {w : zW} {x : Int32} : Rv 50 6 ls (.int x :: st) w = lst ls 3 (some (.int x)) fun l => Rv 50 7 l st w := R_st Q50 (by decide +kernel) rfl
theorem e50_7 {ls : zL} {st : List Value} {w : zW} : Rv 50 7 ls st w = ldA ls 0 fun x => Rv 50 8 ls (x :: st) w := R_ldA Q50 (by decide +kernel) rfl
theorem e50_8 {ls : zL} {st : List Value} {w : zW} {a : Nat} : Rv 50 8 ls (.ref a :: st) w = gF w a 2 4 fun v => Rv 50 11 ls (v :: st) w := R_gF (z := 134) Q50 (by decide +kernel) rfl
theorem e50_11 {ls : zL} {st : List Value} {w : zW} : Rv 50 11 ls st w = ldI ls 1 fun x => Rv 50 12 ls (.int x :: st) w := R_ldI Q50 (by decide +kernel) rfl
theorem e50_12 {ls : zL} {st : List Value} {w : zW} : Rv 50 12 ls st w = ldI ls 2 fun x => Rv 50 13 ls (.int x :: st) w := R_ldI Q50 (by decide +kernel) rfl
theorem e50_13 {ls : zL} {st : List Value} {w : zW} {a : Nat} {x y : Int32} : Rv 50 13 ls (.int y :: .int x :: .ref a :: st) w = pI w a 0 x y fun w' => Rv 50 14 ls st w' := R_iast Q50 (by decide +kernel)
theorem e50_14 {ls : zL} {st : List Value} {w : zW} : Rv 50 14 ls st w = ldA ls 0 fun x => Rv 50 15 ls (x :: st) w := R_ldA Q50 (by decide +kernel) rfl
theorem e50_15 {ls : zL} {st : List Value} {w : zW} {a : Nat} : Rv 50 15 ls (.ref a :: st) w = gF w a 2 5 fun v => Rv 50 18 ls (v :: st) w := R_gF (z := 135) Q50 (by decide +kernel) rfl
theorem e50_18 {ls : zL} {st : List Value} {w : zW} : Rv 50 18 ls st w = ldI ls 1 fun x => Rv 50 19 ls (.int x :: st) w := R_ldI Q50 (by decide +kernel) rfl
theorem e50_19 {ls : zL} {st : List Value} {w : zW} : Rv 50 19 ls st w = ldI ls 2 fun x => Rv 50 20 ls (.int x :: st) w := R_ldI Q50 (by decide +kernel) rfl
theorem e50_20 {ls : zL} {st : List Value} {w : zW} : Rv 50 20 ls st w = ldA ls 0 fun x => Rv 50 21 ls (x :: st) w := R_ldA Q50 (by decide +kernel) rfl
theorem e50_21 {ls : zL} {st : List Value} {w : zW} {a : Nat} : Rv 50 21 ls (.ref a :: st) w = gF w a 2 0 fun v => Rv 50 24 ls (v :: st) w := R_gF (z := 124) Q50 (by decide +kernel) rfl
theorem e50_24 {ls : zL} {w : zW} {n1 : Int32} {n2 : Int32} {n3 : Int32} {a4 : Nat} : Rv 50 24 ls [.int n1, .int n2, .int n3, .ref a4] w = cal (Rv 16 0 [some (.int n2), some (.int n1), none, none, none] [] w) (fun v w' => Rv 50 27 ls (vts v [.int n3, .ref a4]) w') (xnone) := R_calS (z := 351) (kd := 1) (n := 2) Q50 (by decide +kernel) rfl (Or.inl rfl) (Nat.le_of_ble_eq_true rfl) rfl Q16 rfl rfl rfl
theorem e50_27 {ls : zL} {st : List Value} {w : zW} {a : Nat} {x y : Int32} : Rv 50 27 ls (.int y :: .int x :: .ref a :: st) w = pI w a 0 x y fun w' => Rv 50 28 ls st w' := R_iast Q50 (by decide +kernel)
theorem e50_28 {ls : zL} {st : List Value} {w : zW} : Rv 50 28 ls st w = ldA ls 0 fun x => Rv 50 29 ls (x :: st) w := R_ldA Q50 (by decide +kernel) rfl
theorem e50_29 {ls : zL} {st : List Value} {w : zW} {a : Nat} : Rv 50 29 ls (.ref a :: st) w = gF w a 2 5 fun v => Rv 50 32 ls (v :: st) w := R_gF (z := 135) Q50 (by decide +kernel) rfl
theorem e50_32 {ls : zL} {st : List Value} {w : zW} : Rv 50 32 ls st w = ldI ls 1 fun x => Rv 50 33 ls (.int x :: st) w := R_ldI Q50 (by decide +kernel) rfl
theorem e50_33 {ls : zL} {st : List Value} {w : zW} {a : Nat} {x : Int32} : Rv 50 33 ls (.int x :: .ref a :: st) w = gI w a 0 8 x fun v => Rv 50 34 ls (.int v :: st) w := R_iald Q50 (by decide +kernel)
theorem e50_34 {ls : zL} {st : List Value} {w : zW} : Rv 50 34 ls st w = ldI ls 3 fun x => Rv 50 35 ls (.int x :: st) w := R_ldI Q50 (by decide +kernel) rfl
theorem e50_35 {ls : zL} {st : List Value} {w : zW} : Rv 50 35 ls st w = ldA ls 0 fun x => Rv 50 36 ls (x :: st) w := R_ldA Q50 (by decide +kernel) rfl
theorem e50_36 {ls : zL} {st : List Value} {w : zW} {a : Nat} : Rv 50 36 ls (.ref a :: st) w = gF w a 2 0 fun v => Rv 50 39 ls (v :: st) w := R_gF (z := 124) Q50 (by decide +kernel) rfl
theorem e50_39 {ls : zL} {w : zW} {n1 : Int32} {n2 : Int32} {n3 : Int32} : Rv 50 39 ls [.int n1, .int n2, .int n3] w = cal (Rv 20 0 [some (.int n3), some (.int n2), some (.int n1)] [] w) (fun v w' => Rv 50 42 ls (vts v []) w') (xnone) := R_calS (z := 422) (kd := 1) (n := 3) Q50 (by decide +kernel) rfl (Or.inl rfl) (Nat.le_of_ble_eq_true rfl) rfl Q20 rfl rfl rfl
theorem e50_42 {ls : zL} {w : zW} {x : Int32} : Rv 50 42 ls [.int x] w = some (.inl (some (.int x)), w) := R_retI Q50 (by decide +kernel) rfl
/-! MasterPins$Plan.markLost -/
theorem e51_0 {ls : zL} {st : List Value} {w : zW} : Rv 51 0 ls st w = ldA ls 0 fun x => Rv 51 1 ls (x :: st) w := R_ldA Q51 (by decide +kernel) rfl
theorem e51_1 {ls : zL} {st : List Value} {w : zW} {x : Nat} : Rv 51 1 ls (.ref x :: st) w = Rv 51 2 ls (.ref x :: .ref x :: st) w := R_next Q51 (by decide +kernel) rfl
theorem e51_2 {ls : zL} {st : List Value} {w : zW} {a : Nat} : Rv 51 2 ls (.ref a :: st) w = gF w a 2 8 fun v => Rv 51 5 ls (v :: st) w := R_gF (z := 138) Q51 (by decide +kernel) rfl
theorem e51_5 {ls : zL} {st : List Value} {w : zW} : Rv 51 5 ls st w = Rv 51 6 ls (.int 1 :: st) w := R_con Q51 (by decide +kernel) rfl (by decide)
theorem e51_6 {ls : zL} {st : List Value} {w : zW} : Rv 51 6 ls st w = ldI ls 1 fun x => Rv 51 7 ls (.int x :: st) w := R_ldI Q51 (by decide +kernel) rfl
theorem e51_7 {ls : zL} {st : List Value} {w : zW} {x y : Int32} : Rv 51 7 ls (.int y :: .int x :: st) w = Rv 51 8 ls (.int (x <<< (y &&& 31)) :: st) w := R_next Q51 (by decide +kernel) rfl
theorem e51_8 {ls : zL} {st : List Value} {w : zW} {x y : Int32} : Rv 51 8 ls (.int y :: .int x :: st) w = Rv 51 9 ls (.int (x ||| y) :: st) w := R_next Q51 (by decide +kernel) rfl
theorem e51_9 {ls : zL} {st : List Value} {w : zW} {x : Int32} {a : Nat} : Rv 51 9 ls (.int x :: .ref a :: st) w = pF w a 2 8 (.int x) fun w' => Rv 51 12 ls st w' := R_pF (z := 138) Q51 (by decide +kernel) rfl ⟨by decide, rfl, Or.inl rfl⟩
theorem e51_12 {ls : zL} {st : List Value} {w : zW} : Rv 51 12 ls st w = ldA ls 0 fun x => Rv 51 13 ls (x :: st) w := R_ldA Q51 (by decide +kernel) rfl
theorem e51_13 {ls : zL} {st : List Value} {w : zW} : Rv 51 13 ls st w = ldA ls 0 fun x => Rv 51 14 ls (x :: st) w := R_ldA Q51 (by decide +kernel) rfl
theorem e51_14 {ls : zL} {st : List Value} {w : zW} {a : Nat} : Rv 51 14 ls (.ref a :: st) w = gF w a 2 5 fun v => Rv 51 17 ls (v :: st) w := R_gF (z := 135) Q51 (by decide +kernel) rfl
theorem e51_17 {ls : zL} {st : List Value} {w : zW} : Rv 51 17 ls st w = ldI ls 1 fun x => Rv 51 18 ls (.int x :: st) w := R_ldI Q51 (by decide +kernel) rfl
theorem e51_18 {ls : zL} {st : List Value} {w : zW} {a : Nat} {x : Int32} : Rv 51 18 ls (.int x :: .ref a :: st) w = gI w a 0 8 x fun v => Rv 51 19 ls (.int v :: st) w := R_iald Q51 (by decide +kernel)
theorem e51_19 {ls : zL} {w : zW} {n1 : Int32} {a0 : Nat} : Rv 51 19 ls [.int n1, .ref a0] w = hO w a0 2 (cal (Rv 73 0 [some (.ref a0), some (.int n1), none, none] [] w) (fun v w' => Rv 51 22 ls (vts v []) w') (xnone)) := R_calV (z := 618) (r := []) Q51 (by decide +kernel) rfl rfl Q73 rfl rfl rfl
theorem e51_22 {ls : zL} {w : zW} {n1 : Int32} : Rv 51 22 ls [.int n1] w = cal (Rv 232 0 [some (.int n1)] [] w) (fun v w' => Rv 51 25 ls (vts v []) w') (xnone) := R_calS (z := 317) (kd := 1) (n := 1) Q51 (by decide +kernel) rfl (Or.inl rfl) (Nat.le_of_ble_eq_true rfl) rfl Q232 rfl rfl rfl
theorem e51_25 {ls : zL} {w : zW} {x : Int32} : Rv 51 25 ls [.int x] w = some (.inl (some (.int x)), w) := R_retI Q51 (by decide +kernel) rfl
/-! MasterPins$Plan.markFound -/
theorem e52_0 {ls : zL} {st : List Value} {w : zW} : Rv 52 0 ls st w = ldA ls 0 fun x => Rv 52 1 ls (x :: st) w := R_ldA Q52 (by decide +kernel) rfl
theorem e52_1 {ls : zL} {st : List Value} {w : zW} {x : Nat} : Rv 52 1 ls (.ref x :: st) w = Rv 52 2 ls (.ref x :: .ref x :: st) w := R_next Q52 (by decide +kernel) rfl
theorem e52_2 {ls : zL} {st : List Value} {w : zW} {a : Nat} : Rv 52 2 ls (.ref a :: st) w = gF w a 2 8 fun v => Rv 52 5 ls (v :: st) w := R_gF (z := 138) Q52 (by decide +kernel) rfl
theorem e52_5 {ls : zL} {st : List Value} {w : zW} : Rv 52 5 ls st w = Rv 52 6 ls (.int 1 :: st) w := R_con Q52 (by decide +kernel) rfl (by decide)
theorem e52_6 {ls : zL} {st : List Value} {w : zW} : Rv 52 6 ls st w = ldI ls 1 fun x => Rv 52 7 ls (.int x :: st) w := R_ldI Q52 (by decide +kernel) rfl
theorem e52_7 {ls : zL} {st : List Value} {w : zW} {x y : Int32} : Rv 52 7 ls (.int y :: .int x :: st) w = Rv 52 8 ls (.int (x <<< (y &&& 31)) :: st) w := R_next Q52 (by decide +kernel) rfl
theorem e52_8 {ls : zL} {st : List Value} {w : zW} : Rv 52 8 ls st w = Rv 52 9 ls (.int (-1) :: st) w := R_con Q52 (by decide +kernel) rfl (by decide)
theorem e52_9 {ls : zL} {st : List Value} {w : zW} {x y : Int32} : Rv 52 9 ls (.int y :: .int x :: st) w = Rv 52 10 ls (.int (x ^^^ y) :: st) w := R_next Q52 (by decide +kernel) rfl
theorem e52_10 {ls : zL} {st : List Value} {w : zW} {x y : Int32} : Rv 52 10 ls (.int y :: .int x :: st) w = Rv 52 11 ls (.int (x &&& y) :: st) w := R_next Q52 (by decide +kernel) rfl
theorem e52_11 {ls : zL} {st : List Value} {w : zW} {x : Int32} {a : Nat} : Rv 52 11 ls (.int x :: .ref a :: st) w = pF w a 2 8 (.int x) fun w' => Rv 52 14 ls st w' := R_pF (z := 138) Q52 (by decide +kernel) rfl ⟨by decide, rfl, Or.inl rfl⟩
theorem e52_14 {ls : zL} {st : List Value} {w : zW} : Rv 52 14 ls st w = ldA ls 0 fun x => Rv 52 15 ls (x :: st) w := R_ldA Q52 (by decide +kernel) rfl
theorem e52_15 {ls : zL} {st : List Value} {w : zW} {a : Nat} : Rv 52 15 ls (.ref a :: st) w = gF w a 2 8 fun v => Rv 52 18 ls (v :: st) w := R_gF (z := 138) Q52 (by decide +kernel) rfl
theorem e52_18 {ls : zL} {w : zW} {n1 : Int32} : Rv 52 18 ls [.int n1] w = cal (Rv 232 0 [some (.int n1)] [] w) (fun v w' => Rv 52 21 ls (vts v []) w') (xnone) := R_calS (z := 317) (kd := 1) (n := 1) Q52 (by decide +kernel) rfl (Or.inl rfl) (Nat.le_of_ble_eq_true rfl) rfl Q232 rfl rfl rfl
theorem e52_21 {ls : zL} {w : zW} {x : Int32} : Rv 52 21 ls [.int x] w = some (.inl (some (.int x)), w) := R_retI Q52 (by decide +kernel) rfl
/-! MasterPins$Plan.hangDoor -/
theorem e53_0 {ls : zL} {st : List Value} {w : zW} : Rv 53 0 ls st w = ldA ls 0 fun x => Rv 53 1 ls (x :: st) w := R_ldA Q53 (by decide +kernel) rfl
theorem e53_1 {ls : zL} {st : List Value} {w : zW} {a : Nat} : Rv 53 1 ls (.ref a :: st) w = gF w a 2 9 fun v => Rv 53 4 ls (v :: st) w := R_gF (z := 139) Q53 (by decide +kernel) rfl
theorem e53_4 {ls : zL} {st : List Value} {w : zW} {x : Int32} : Rv 53 4 ls (.int x :: st) w = lst ls 2 (some (.int x)) fun l => Rv 53 5 l st w := R_st Q53 (by decide +kernel) rfl
theorem e53_5 {ls : zL} {st : List Value} {w : zW} : Rv 53 5 ls st w = ldA ls 0 fun x => Rv 53 6 ls (x :: st) w := R_ldA Q53 (by decide +kernel) rfl
theorem e53_6 {ls : zL} {st : List Value} {w : zW} {a : Nat} : Rv 53 6 ls (.ref a :: st) w = gF w a 2 10 fun v => Rv 53 9 ls (v :: st) w := R_gF (z := 142) Q53 (by decide +kernel) rfl
theorem e53_9 {ls : zL} {st : List Value} {w : zW} : Rv 53 9 ls st w = ldI ls 2 fun x => Rv 53 10 ls (.int x :: st) w := R_ldI Q53 (by decide +kernel) rfl
theorem e53_10 {ls : zL} {st : List Value} {w : zW} : Rv 53 10 ls st w = ldI ls 1 fun x => Rv 53 11 ls (.int x :: st) w := R_ldI Q53 (by decide +kernel) rfl
theorem e53_11 {ls : zL} {st : List Value} {w : zW} {a : Nat} {x y : Int32} : Rv 53 11 ls (.int y :: .int x :: .ref a :: st) w = pI w a 0 x y fun w' => Rv 53 12 ls st w' := R_iast Q53 (by decide +kernel)
theorem e53_12 {ls : zL} {st : List Value} {w : zW} : Rv 53 12 ls st w = ldA ls 0 fun x => Rv 53 13 ls (x :: st) w := R_ldA Q53 (by decide +kernel) rfl
theorem e53_13 {ls : zL} {st : List Value} {w : zW} {a : Nat} : Rv 53 13 ls (.ref a :: st) w = gF w a 2 11 fun v => Rv 53 16 ls (v :: st) w := R_gF (z := 143) Q53 (by decide +kernel) rfl
theorem e53_16 {ls : zL} {st : List Value} {w : zW} : Rv 53 16 ls st w = ldI ls 2 fun x => Rv 53 17 ls (.int x :: st) w := R_ldI Q53 (by decide +kernel) rfl
theorem e53_17 {ls : zL} {st : List Value} {w : zW} : Rv 53 17 ls st w = ldA ls 0 fun x => Rv 53 18 ls (x :: st) w := R_ldA Q53 (by decide +kernel) rfl
theorem e53_18 {ls : zL} {st : List Value} {w : zW} : Rv 53 18 ls st w = ldI ls 2 fun x => Rv 53 19 ls (.int x :: st) w := R_ldI Q53 (by decide +kernel) rfl
theorem e53_19 {ls : zL} {st : List Value} {w : zW} : Rv 53 19 ls st w = ldA ls 0 fun x => Rv 53 20 ls (x :: st) w := R_ldA Q53 (by decide +kernel) rfl
theorem e53_20 {ls : zL} {st : List Value} {w : zW} {a : Nat} : Rv 53 20 ls (.ref a :: st) w = gF w a 2 8 fun v => Rv 53 23 ls (v :: st) w := R_gF (z := 138) Q53 (by decide +kernel) rfl
theorem e53_23 {ls : zL} {st : List Value} {w : zW} : Rv 53 23 ls st w = Rv 53 24 ls (.int (-1) :: st) w := R_con Q53 (by decide +kernel) rfl (by decide)
theorem e53_24 {ls : zL} {st : List Value} {w : zW} : Rv 53 24 ls st w = Rv 53 25 ls (.int 0 :: st) w := R_con Q53 (by decide +kernel) rfl (by decide)
theorem e53_25 {ls : zL} {w : zW} {n1 : Int32} {n2 : Int32} {n3 : Int32} {n4 : Int32} {a0 : Nat} {n5 : Int32} {a6 : Nat} : Rv 53 25 ls [.int n1, .int n2, .int n3, .int n4, .ref a0, .int n5, .ref a6] w = hO w a0 2 (cal (Rv 78 0 [some (.ref a0), some (.int n4), some (.int n3), some (.int n2), some (.int n1), none, none, none] [] w) (fun v w' => Rv 53 28 ls (vts v [.int n5, .ref a6]) w') (xnone)) := R_calV (z := 309) (r := [.int n5, .ref a6]) Q53 (by decide +kernel) rfl rfl Q78 rfl rfl rfl
theorem e53_28 {ls : zL} {st : List Value} {w : zW} {a : Nat} {x y : Int32} : Rv 53 28 ls (.int y :: .int x :: .ref a :: st) w = pI w a 0 x y fun w' => Rv 53 29 ls st w' := R_iast Q53 (by decide +kernel)
theorem e53_29 {ls : zL} {st : List Value} {w : zW} : Rv 53 29 ls st w = ldA ls 0 fun x => Rv 53 30 ls (x :: st) w := R_ldA Q53 (by decide +kernel) rfl
theorem e53_30 {ls : zL} {st : List Value} {w : zW} {x : Nat} : Rv 53 30 ls (.ref x :: st) w = Rv 53 31 ls (.ref x :: .ref x :: st) w := R_next Q53 (by decide +kernel) rfl
theorem e53_31 {ls : zL} {st : List Value} {w : zW} {a : Nat} : Rv 53 31 ls (.ref a :: st) w = gF w a 2 9 fun v => Rv 53 34 ls (v :: st) w := R_gF (z := 139) Q53 (by decide +kernel) rfl
theorem e53_34 {ls : zL} {st : List Value} {w : zW} : Rv 53 34 ls st w = Rv 53 35 ls (.int 1 :: st) w := R_con Q53 (by decide +kernel) rfl (by decide)
theorem e53_35 {ls : zL} {st : List Value} {w : zW} {x y : Int32} : Rv 53 35 ls (.int y :: .int x :: st) w = Rv 53 36 ls (.int (x + y) :: st) w := R_next Q53 (by decide +kernel) rfl
theorem e53_36 {ls : zL} {st : List Value} {w : zW} {x : Int32} {a : Nat} : Rv 53 36 ls (.int x :: .ref a :: st) w = pF w a 2 9 (.int x) fun w' => Rv 53 39 ls st w' := R_pF (z := 139) Q53 (by decide +kernel) rfl ⟨by decide, rfl, Or.inl rfl⟩
theorem e53_39 {ls : zL} {st : List Value} {w : zW} : Rv 53 39 ls st w = ldI ls 2 fun x => Rv 53 40 ls (.int x :: st) w := R_ldI Q53 (by decide +kernel) rfl
theorem e53_40 {ls : zL} {w : zW} {x : Int32} : Rv 53 40 ls [.int x] w = some (.inl (some (.int x)), w) := R_retI Q53 (by decide +kernel) rfl
/-! MasterPins$Plan.addPinsOf -/
theorem e54_0 {ls : zL} {st : List Value} {w : zW} : Rv 54 0 ls st w = ldA ls 0 fun x => Rv 54 1 ls (x :: st) w := R_ldA Q54 (by decide +kernel) rfl
theorem e54_1 {ls : zL} {st : List Value} {w : zW} {a : Nat} : Rv 54 1 ls (.ref a :: st) w = gF w a 2 11 fun v => Rv 54 4 ls (v :: st) w := R_gF (z := 143) Q54 (by decide +kernel) rfl
theorem e54_4 {ls : zL} {st : List Value} {w : zW} : Rv 54 4 ls st w = ldI ls 1 fun x => Rv 54 5 ls (.int x :: st) w := R_ldI Q54 (by decide +kernel) rfl
theorem e54_5 {ls : zL} {st : List Value} {w : zW} {a : Nat} {x : Int32} : Rv 54 5 ls (.int x :: .ref a :: st) w = gI w a 0 8 x fun v => Rv 54 6 ls (.int v :: st) w := R_iald Q54 (by decide +kernel)
theorem e54_6 {ls : zL} {st : List Value} {w : zW} {x : Int32} : Rv 54 6 ls (.int x :: st) w = lst ls 3 (some (.int x)) fun l => Rv 54 7 l st w := R_st Q54 (by decide +kernel) rfl
theorem e54_7 {ls : zL} {st : List Value} {w : zW} : Rv 54 7 ls st w = ldA ls 0 fun x => Rv 54 8 ls (x :: st) w := R_ldA Q54 (by decide +kernel) rfl
theorem e54_8 {ls : zL} {st : List Value} {w : zW} {a : Nat} : Rv 54 8 ls (.ref a :: st) w = gF w a 2 11 fun v => Rv 54 11 ls (v :: st) w := R_gF (z := 143) Q54 (by decide +kernel) rfl
theorem e54_11 {ls : zL} {st : List Value} {w : zW} : Rv 54 11 ls st w = ldI ls 1 fun x => Rv 54 12 ls (.int x :: st) w := R_ldI Q54 (by decide +kernel) rfl
theorem e54_12 {ls : zL} {st : List Value} {w : zW} : Rv 54 12 ls st w = ldI ls 3 fun x => Rv 54 13 ls (.int x :: st) w := R_ldI Q54 (by decide +kernel) rfl
theorem e54_13 {ls : zL} {st : List Value} {w : zW} : Rv 54 13 ls st w = ldA ls 0 fun x => Rv 54 14 ls (x :: st) w := R_ldA Q54 (by decide +kernel) rfl
theorem e54_14 {ls : zL} {st : List Value} {w : zW} {a : Nat} : Rv 54 14 ls (.ref a :: st) w = gF w a 2 5 fun v => Rv 54 17 ls (v :: st) w := R_gF (z := 135) Q54 (by decide +kernel) rfl
theorem e54_17 {ls : zL} {st : List Value} {w : zW} : Rv 54 17 ls st w = ldI ls 2 fun x => Rv 54 18 ls (.int x :: st) w := R_ldI Q54 (by decide +kernel) rfl
theorem e54_18 {ls : zL} {st : List Value} {w : zW} {a : Nat} {x : Int32} : Rv 54 18 ls (.int x :: .ref a :: st) w = gI w a 0 8 x fun v => Rv 54 19 ls (.int v :: st) w := R_iald Q54 (by decide +kernel)
theorem e54_19 {ls : zL} {st : List Value} {w : zW} {x y : Int32} : Rv 54 19 ls (.int y :: .int x :: st) w = Rv 54 20 ls (.int (x ||| y) :: st) w := R_next Q54 (by decide +kernel) rfl
theorem e54_20 {ls : zL} {st : List Value} {w : zW} {a : Nat} {x y : Int32} : Rv 54 20 ls (.int y :: .int x :: .ref a :: st) w = pI w a 0 x y fun w' => Rv 54 21 ls st w' := R_iast Q54 (by decide +kernel)
theorem e54_21 {ls : zL} {st : List Value} {w : zW} : Rv 54 21 ls st w = ldA ls 0 fun x => Rv 54 22 ls (x :: st) w := R_ldA Q54 (by decide +kernel) rfl
theorem e54_22 {ls : zL} {st : List Value} {w : zW} {a : Nat} : Rv 54 22 ls (.ref a :: st) w = gF w a 2 11 fun v => Rv 54 25 ls (v :: st) w := R_gF (z := 143) Q54 (by decide +kernel) rfl
theorem e54_25 {ls : zL} {st : List Value} {w : zW} : Rv 54 25 ls st w = ldI ls 1 fun x => Rv 54 26 ls (.int x :: st) w := R_ldI Q54 (by decide +kernel) rfl
theorem e54_26 {ls : zL} {st : List Value} {w : zW} {a : Nat} {x : Int32} : Rv 54 26 ls (.int x :: .ref a :: st) w = gI w a 0 8 x fun v => Rv 54 27 ls (.int v :: st) w := R_iald Q54 (by decide +kernel)
theorem e54_27 {ls : zL} {st : List Value} {w : zW} : Rv 54 27 ls st w = ldI ls 3 fun x => Rv 54 28 ls (.int x :: st) w := R_ldI Q54 (by decide +kernel) rfl
theorem e54_28 {ls : zL} {st : List Value} {w : zW} {x y : Int32} : Rv 54 28 ls (.int y :: .int x :: st) w = Rv 54 29 ls (.int (x ^^^ y) :: st) w := R_next Q54 (by decide +kernel) rfl
theorem e54_29 {ls : zL} {w : zW} {n1 : Int32} : Rv 54 29 ls [.int n1] w = cal (Rv 232 0 [some (.int n1)] [] w) (fun v w' => Rv 54 32 ls (vts v []) w') (xnone) := R_calS (z := 317) (kd := 1) (n := 1) Q54 (by decide +kernel) rfl (Or.inl rfl) (Nat.le_of_ble_eq_true rfl) rfl Q232 rfl rfl rfl
theorem e54_32 {ls : zL} {w : zW} {x : Int32} : Rv 54 32 ls [.int x] w = some (.inl (some (.int x)), w) := R_retI Q54 (by decide +kernel) rfl
/-! MasterPins$Plan.fitOne -/
theorem e55_0 {ls : zL} {st : List Value} {w : zW} : Rv 55 0 ls st w = ldA ls 0 fun x => Rv 55 1 ls (x :: st) w := R_ldA Q55 (by decide +kernel) rfl
theorem e55_1 {ls : zL} {st : List Value} {w : zW} : Rv 55 1 ls st w = ldI ls 1 fun x => Rv 55 2 ls (.int x :: st) w := R_ldI Q55 (by decide +kernel) rfl
theorem e55_2 {ls : zL} {w : zW} {n1 : Int32} {a0 : Nat} : Rv 55 2 ls [.int n1, .ref a0] w = hO w a0 2 (cal (Rv 79 0 [some (.ref a0), some (.int n1)] [] w) (fun v w' => Rv 55 5 ls (vts v []) w') (xnone)) := R_calV (z := 305) (r := []) Q55 (by decide +kernel) rfl rfl Q79 rfl rfl rfl
theorem e55_5 {ls : zL} {st : List Value} {w : zW} {x : Int32} : Rv 55 5 ls (.int x :: st) w = lst ls 2 (some (.int x)) fun l => Rv 55 6 l st w := R_st Q55 (by decide +kernel) rfl
theorem e55_6 {ls : zL} {st : List Value} {w : zW} : Rv 55 6 ls st w = ldA ls 0 fun x => Rv 55 7 ls (x :: st) w := R_ldA Q55 (by decide +kernel) rfl
theorem e55_7 {ls : zL} {st : List Value} {w : zW} {a : Nat} : Rv 55 7 ls (.ref a :: st) w = gF w a 2 11 fun v => Rv 55 10 ls (v :: st) w := R_gF (z := 143) Q55 (by decide +kernel) rfl
theorem e55_10 {ls : zL} {st : List Value} {w : zW} : Rv 55 10 ls st w = ldI ls 1 fun x => Rv 55 11 ls (.int x :: st) w := R_ldI Q55 (by decide +kernel) rfl
theorem e55_11 {ls : zL} {st : List Value} {w : zW} : Rv 55 11 ls st w = ldA ls 0 fun x => Rv 55 12 ls (x :: st) w := R_ldA Q55 (by decide +kernel) rfl
theorem e55_12 {ls : zL} {st : List Value} {w : zW} : Rv 55 12 ls st w = ldI ls 1 fun x => Rv 55 13 ls (.int x :: st) w := R_ldI Q55 (by decide +kernel) rfl
theorem e55_13 {ls : zL} {st : List Value} {w : zW} : Rv 55 13 ls st w = ldA ls 0 fun x => Rv 55 14 ls (x :: st) w := R_ldA Q55 (by decide +kernel) rfl
theorem e55_14 {ls : zL} {st : List Value} {w : zW} {a : Nat} : Rv 55 14 ls (.ref a :: st) w = gF w a 2 8 fun v => Rv 55 17 ls (v :: st) w := R_gF (z := 138) Q55 (by decide +kernel) rfl
theorem e55_17 {ls : zL} {st : List Value} {w : zW} : Rv 55 17 ls st w = Rv 55 18 ls (.int (-1) :: st) w := R_con Q55 (by decide +kernel) rfl (by decide)
theorem e55_18 {ls : zL} {st : List Value} {w : zW} : Rv 55 18 ls st w = Rv 55 19 ls (.int 0 :: st) w := R_con Q55 (by decide +kernel) rfl (by decide)
theorem e55_19 {ls : zL} {w : zW} {n1 : Int32} {n2 : Int32} {n3 : Int32} {n4 : Int32} {a0 : Nat} {n5 : Int32} {a6 : Nat} : Rv 55 19 ls [.int n1, .int n2, .int n3, .int n4, .ref a0, .int n5, .ref a6] w = hO w a0 2 (cal (Rv 78 0 [some (.ref a0), some (.int n4), some (.int n3), some (.int n2), some (.int n1), none, none, none] [] w) (fun v w' => Rv 55 22 ls (vts v [.int n5, .ref a6]) w') (xnone)) := R_calV (z := 309) (r := [.int n5, .ref a6]) Q55 (by decide +kernel) rfl rfl Q78 rfl rfl rfl
theorem e55_22 {ls : zL} {st : List Value} {w : zW} {a : Nat} {x y : Int32} : Rv 55 22 ls (.int y :: .int x :: .ref a :: st) w = pI w a 0 x y fun w' => Rv 55 23 ls st w' := R_iast Q55 (by decide +kernel)
theorem e55_23 {ls : zL} {st : List Value} {w : zW} : Rv 55 23 ls st w = ldI ls 2 fun x => Rv 55 24 ls (.int x :: st) w := R_ldI Q55 (by decide +kernel) rfl
theorem e55_24 {ls : zL} {w : zW} {x : Int32} : Rv 55 24 ls [.int x] w = some (.inl (some (.int x)), w) := R_retI Q55 (by decide +kernel) rfl
/-! MasterPins$Plan.fitEvery -/
theorem e56_0 {ls : zL} {st : List Value} {w : zW} : Rv 56 0 ls st w = Rv 56 1 ls (.int 0 :: st) w := R_con Q56 (by decide +kernel) rfl (by decide)
theorem e56_1 {ls : zL} {st : List Value} {w : zW} {x : Int32} : Rv 56 1 ls (.int x :: st) w = lst ls 1 (some (.int x)) fun l => Rv 56 2 l st w := R_st Q56 (by decide +kernel) rfl
theorem e56_2 {ls : zL} {st : List Value} {w : zW} : Rv 56 2 ls st w = Rv 56 3 ls (.int 0 :: st) w := R_con Q56 (by decide +kernel) rfl (by decide)
theorem e56_3 {ls : zL} {st : List Value} {w : zW} {x : Int32} : Rv 56 3 ls (.int x :: st) w = lst ls 2 (some (.int x)) fun l => Rv 56 4 l st w := R_st Q56 (by decide +kernel) rfl
theorem h56_4 {ls : zL} {st : List Value} {w : zW} : Rv 56 4 ls st w = ldI ls 2 fun x => Rv 56 5 ls (.int x :: st) w := R_ldI Q56 (by decide +kernel) rfl
theorem e56_5 {ls : zL} {st : List Value} {w : zW} : Rv 56 5 ls st w = ldA ls 0 fun x => Rv 56 6 ls (x :: st) w := R_ldA Q56 (by decide +kernel) rfl
theorem e56_6 {ls : zL} {st : List Value} {w : zW} {a : Nat} : Rv 56 6 ls (.ref a :: st) w = gF w a 2 9 fun v => Rv 56 9 ls (v :: st) w := R_gF (z := 139) Q56 (by decide +kernel) rfl
theorem e56_9 {ls : zL} {st : List Value} {w : zW} {x y : Int32} : Rv 56 9 ls (.int y :: .int x :: st) w = if x < y then Rv 56 12 ls st w else Rv 56 26 ls st w := R_fige Q56 (by decide +kernel) rfl rfl
theorem e56_12 {ls : zL} {st : List Value} {w : zW} : Rv 56 12 ls st w = ldI ls 1 fun x => Rv 56 13 ls (.int x :: st) w := R_ldI Q56 (by decide +kernel) rfl
theorem e56_13 {ls : zL} {st : List Value} {w : zW} : Rv 56 13 ls st w = ldA ls 0 fun x => Rv 56 14 ls (x :: st) w := R_ldA Q56 (by decide +kernel) rfl
theorem e56_14 {ls : zL} {st : List Value} {w : zW} : Rv 56 14 ls st w = ldI ls 2 fun x => Rv 56 15 ls (.int x :: st) w := R_ldI Q56 (by decide +kernel) rfl
theorem e56_15 {ls : zL} {w : zW} {n1 : Int32} {a0 : Nat} {n2 : Int32} : Rv 56 15 ls [.int n1, .ref a0, .int n2] w = hO w a0 2 (cal (Rv 55 0 [some (.ref a0), some (.int n1), none] [] w) (fun v w' => Rv 56 18 ls (vts v [.int n2]) w') (xnone)) := R_calV (z := 301) (r := [.int n2]) Q56 (by decide +kernel) rfl rfl Q55 rfl rfl rfl
theorem e56_18 {ls : zL} {st : List Value} {w : zW} {x y : Int32} : Rv 56 18 ls (.int y :: .int x :: st) w = Rv 56 19 ls (.int (x + y) :: st) w := R_next Q56 (by decide +kernel) rfl
theorem e56_19 {ls : zL} {st : List Value} {w : zW} {x : Int32} : Rv 56 19 ls (.int x :: st) w = lst ls 1 (some (.int x)) fun l => Rv 56 20 l st w := R_st Q56 (by decide +kernel) rfl
theorem e56_20 {ls : zL} {st : List Value} {w : zW} : Rv 56 20 ls st w = ldI ls 2 fun x => lst ls 2 (some (.int (x + 1))) fun l => Rv 56 23 l st w := R_iinc Q56 (by decide +kernel) (by decide)
theorem e56_23 {ls : zL} {st : List Value} {w : zW} : Rv 56 23 ls st w = Rv 56 4 ls st w := R_go Q56 (by decide +kernel) rfl rfl
theorem e56_26 {ls : zL} {st : List Value} {w : zW} : Rv 56 26 ls st w = ldI ls 1 fun x => Rv 56 27 ls (.int x :: st) w := R_ldI Q56 (by decide +kernel) rfl
theorem e56_27 {ls : zL} {w : zW} {x : Int32} : Rv 56 27 ls [.int x] w = some (.inl (some (.int x)), w) := R_retI Q56 (by decide +kernel) rfl
/-! MasterPins$Plan.handOver -/
theorem e57_0 {ls : zL} {st : List Value} {w : zW} : Rv 57 0 ls st w = ldA ls 0 fun x => Rv 57 1 ls (x :: st) w := R_ldA Q57 (by decide +kernel) rfl
theorem e57_1 {ls : zL} {st : List Value} {w : zW} {a : Nat} : Rv 57 1 ls (.ref a :: st) w = gF w a 2 10 fun v => Rv 57 4 ls (v :: st) w := R_gF (z := 142) Q57 (by decide +kernel) rfl
theorem e57_4 {ls : zL} {st : List Value} {w : zW} : Rv 57 4 ls st w = ldI ls 1 fun x => Rv 57 5 ls (.int x :: st) w := R_ldI Q57 (by decide +kernel) rfl
theorem e57_5 {ls : zL} {st : List Value} {w : zW} {a : Nat} {x : Int32} : Rv 57 5 ls (.int x :: .ref a :: st) w = gI w a 0 8 x fun v => Rv 57 6 ls (.int v :: st) w := R_iald Q57 (by decide +kernel)
theorem e57_6 {ls : zL} {st : List Value} {w : zW} {x : Int32} : Rv 57 6 ls (.int x :: st) w = lst ls 3 (some (.int x)) fun l => Rv 57 7 l st w := R_st Q57 (by decide +kernel) rfl
theorem e57_7 {ls : zL} {st : List Value} {w : zW} : Rv 57 7 ls st w = ldA ls 0 fun x => Rv 57 8 ls (x :: st) w := R_ldA Q57 (by decide +kernel) rfl
theorem e57_8 {ls : zL} {st : List Value} {w : zW} {a : Nat} : Rv 57 8 ls (.ref a :: st) w = gF w a 2 10 fun v => Rv 57 11 ls (v :: st) w := R_gF (z := 142) Q57 (by decide +kernel) rfl
theorem e57_11 {ls : zL} {st : List Value} {w : zW} : Rv 57 11 ls st w = ldI ls 1 fun x => Rv 57 12 ls (.int x :: st) w := R_ldI Q57 (by decide +kernel) rfl
theorem e57_12 {ls : zL} {st : List Value} {w : zW} : Rv 57 12 ls st w = ldI ls 2 fun x => Rv 57 13 ls (.int x :: st) w := R_ldI Q57 (by decide +kernel) rfl
theorem e57_13 {ls : zL} {st : List Value} {w : zW} {a : Nat} {x y : Int32} : Rv 57 13 ls (.int y :: .int x :: .ref a :: st) w = pI w a 0 x y fun w' => Rv 57 14 ls st w' := R_iast Q57 (by decide +kernel)
theorem e57_14 {ls : zL} {st : List Value} {w : zW} : Rv 57 14 ls st w = ldI ls 3 fun x => Rv 57 15 ls (.int x :: st) w := R_ldI Q57 (by decide +kernel) rfl
theorem e57_15 {ls : zL} {w : zW} {x : Int32} : Rv 57 15 ls [.int x] w = some (.inl (some (.int x)), w) := R_retI Q57 (by decide +kernel) rfl
/-! MasterPins$Plan.isCode -/
theorem e58_0 {ls : zL} {st : List Value} {w : zW} : Rv 58 0 ls st w = ldI ls 1 fun x => Rv 58 1 ls (.int x :: st) w := R_ldI Q58 (by decide +kernel) rfl
theorem e58_1 {ls : zL} {st : List Value} {w : zW} {x : Int32} : Rv 58 1 ls (.int x :: st) w = if x < 0 then Rv 58 4 ls st w else Rv 58 6 ls st w := R_f0ge Q58 (by decide +kernel) rfl rfl
theorem e58_4 {ls : zL} {st : List Value} {w : zW} : Rv 58 4 ls st w = Rv 58 5 ls (.int 0 :: st) w := R_con Q58 (by decide +kernel) rfl (by decide)
theorem e58_5 {ls : zL} {w : zW} {x : Int32} : Rv 58 5 ls [.int x] w = if x = 0 ∨ x = 1 then some (.inl (some (.int x)), w) else none := R_retZ Q58 (by decide +kernel) rfl
theorem e58_6 {ls : zL} {st : List Value} {w : zW} : Rv 58 6 ls st w = ldI ls 1 fun x => Rv 58 7 ls (.int x :: st) w := R_ldI Q58 (by decide +kernel) rfl
theorem e58_7 {ls : zL} {st : List Value} {w : zW} {x : Int32} : Rv 58 7 ls (.int x :: st) w = lst ls 2 (some (.int x)) fun l => Rv 58 8 l st w := R_st Q58 (by decide +kernel) rfl
theorem e58_8 {ls : zL} {st : List Value} {w : zW} : Rv 58 8 ls st w = Rv 58 9 ls (.int 0 :: st) w := R_con Q58 (by decide +kernel) rfl (by decide)
theorem e58_9 {ls : zL} {st : List Value} {w : zW} {x : Int32} : Rv 58 9 ls (.int x :: st) w = lst ls 3 (some (.int x)) fun l => Rv 58 10 l st w := R_st Q58 (by decide +kernel) rfl
theorem h58_10 {ls : zL} {st : List Value} {w : zW} : Rv 58 10 ls st w = ldI ls 3 fun x => Rv 58 11 ls (.int x :: st) w := R_ldI Q58 (by decide +kernel) rfl
theorem e58_11 {ls : zL} {st : List Value} {w : zW} : Rv 58 11 ls st w = ldA ls 0 fun x => Rv 58 12 ls (x :: st) w := R_ldA Q58 (by decide +kernel) rfl
theorem e58_12 {ls : zL} {st : List Value} {w : zW} {a : Nat} : Rv 58 12 ls (.ref a :: st) w = gF w a 2 0 fun v => Rv 58 15 ls (v :: st) w := R_gF (z := 124) Q58 (by decide +kernel) rfl
theorem e58_15 {ls : zL} {st : List Value} {w : zW} {x y : Int32} : Rv 58 15 ls (.int y :: .int x :: st) w = if x < y then Rv 58 18 ls st w else Rv 58 42 ls st w := R_fige Q58 (by decide +kernel) rfl rfl
theorem e58_18 {ls : zL} {st : List Value} {w : zW} : Rv 58 18 ls st w = ldI ls 2 fun x => Rv 58 19 ls (.int x :: st) w := R_ldI Q58 (by decide +kernel) rfl
theorem e58_19 {ls : zL} {st : List Value} {w : zW} : Rv 58 19 ls st w = Rv 58 21 ls (.int 10 :: st) w := R_con Q58 (by decide +kernel) rfl (by decide)
theorem e58_21 {ls : zL} {st : List Value} {w : zW} {x y : Int32} : Rv 58 21 ls (.int y :: .int x :: st) w = if y = 0 then none else Rv 58 22 ls (.int (rmi x y) :: st) w := R_rem Q58 (by decide +kernel)
theorem e58_22 {ls : zL} {st : List Value} {w : zW} : Rv 58 22 ls st w = ldA ls 0 fun x => Rv 58 23 ls (x :: st) w := R_ldA Q58 (by decide +kernel) rfl
theorem e58_23 {ls : zL} {st : List Value} {w : zW} {a : Nat} : Rv 58 23 ls (.ref a :: st) w = gF w a 2 1 fun v => Rv 58 26 ls (v :: st) w := R_gF (z := 128) Q58 (by decide +kernel) rfl
theorem e58_26 {ls : zL} {st : List Value} {w : zW} {x y : Int32} : Rv 58 26 ls (.int y :: .int x :: st) w = if x < y then Rv 58 31 ls st w else Rv 58 29 ls st w := R_filt Q58 (by decide +kernel) rfl rfl
theorem e58_29 {ls : zL} {st : List Value} {w : zW} : Rv 58 29 ls st w = Rv 58 30 ls (.int 0 :: st) w := R_con Q58 (by decide +kernel) rfl (by decide)
theorem e58_30 {ls : zL} {w : zW} {x : Int32} : Rv 58 30 ls [.int x] w = if x = 0 ∨ x = 1 then some (.inl (some (.int x)), w) else none := R_retZ Q58 (by decide +kernel) rfl
theorem e58_31 {ls : zL} {st : List Value} {w : zW} : Rv 58 31 ls st w = ldI ls 2 fun x => Rv 58 32 ls (.int x :: st) w := R_ldI Q58 (by decide +kernel) rfl
theorem e58_32 {ls : zL} {st : List Value} {w : zW} : Rv 58 32 ls st w = Rv 58 34 ls (.int 10 :: st) w := R_con Q58 (by decide +kernel) rfl (by decide)
theorem e58_34 {ls : zL} {st : List Value} {w : zW} {x y : Int32} : Rv 58 34 ls (.int y :: .int x :: st) w = if y = 0 then none else Rv 58 35 ls (.int (x / y) :: st) w := R_div Q58 (by decide +kernel)
theorem e58_35 {ls : zL} {st : List Value} {w : zW} {x : Int32} : Rv 58 35 ls (.int x :: st) w = lst ls 2 (some (.int x)) fun l => Rv 58 36 l st w := R_st Q58 (by decide +kernel) rfl
theorem e58_36 {ls : zL} {st : List Value} {w : zW} : Rv 58 36 ls st w = ldI ls 3 fun x => lst ls 3 (some (.int (x + 1))) fun l => Rv 58 39 l st w := R_iinc Q58 (by decide +kernel) (by decide)
theorem e58_39 {ls : zL} {st : List Value} {w : zW} : Rv 58 39 ls st w = Rv 58 10 ls st w := R_go Q58 (by decide +kernel) rfl rfl
theorem e58_42 {ls : zL} {st : List Value} {w : zW} : Rv 58 42 ls st w = ldI ls 2 fun x => Rv 58 43 ls (.int x :: st) w := R_ldI Q58 (by decide +kernel) rfl
theorem e58_43 {ls : zL} {st : List Value} {w : zW} {x : Int32} : Rv 58 43 ls (.int x :: st) w = if x = 0 then Rv 58 46 ls st w else Rv 58 50 ls st w := R_f0ne Q58 (by decide +kernel) rfl rfl
theorem e58_46 {ls : zL} {st : List Value} {w : zW} : Rv 58 46 ls st w = Rv 58 47 ls (.int 1 :: st) w := R_con Q58 (by decide +kernel) rfl (by decide)
theorem e58_47 {ls : zL} {st : List Value} {w : zW} : Rv 58 47 ls st w = Rv 58 51 ls st w := R_go Q58 (by decide +kernel) rfl rfl
theorem e58_50 {ls : zL} {st : List Value} {w : zW} : Rv 58 50 ls st w = Rv 58 51 ls (.int 0 :: st) w := R_con Q58 (by decide +kernel) rfl (by decide)
theorem e58_51 {ls : zL} {w : zW} {x : Int32} : Rv 58 51 ls [.int x] w = if x = 0 ∨ x = 1 then some (.inl (some (.int x)), w) else none := R_retZ Q58 (by decide +kernel) rfl
/-! MasterPins$Plan.reasonAgainstForm -/
theorem e59_0 {ls : zL} {st : List Value} {w : zW} : Rv 59 0 ls st w = ldA ls 0 fun x => Rv 59 1 ls (x :: st) w := R_ldA Q59 (by decide +kernel) rfl
theorem e59_1 {ls : zL} {st : List Value} {w : zW} : Rv 59 1 ls st w = ldI ls 1 fun x => Rv 59 2 ls (.int x :: st) w := R_ldI Q59 (by decide +kernel) rfl
theorem e59_2 {ls : zL} {w : zW} {n1 : Int32} {a0 : Nat} : Rv 59 2 ls [.int n1, .ref a0] w = hO w a0 2 (cal (Rv 58 0 [some (.ref a0), some (.int n1), none, none] [] w) (fun v w' => Rv 59 5 ls (vts v []) w') (xnone)) := R_calV (z := 347) (r := []) Q59 (by decide +kernel) rfl rfl Q58 rfl rfl rfl
theorem e59_5 {ls : zL} {st : List Value} {w : zW} {x : Int32} : Rv 59 5 ls (.int x :: st) w = if x = 0 then Rv 59 8 ls st w else Rv 59 10 ls st w := R_f0ne Q59 (by decide +kernel) rfl rfl
theorem e59_8 {ls : zL} {st : List Value} {w : zW} : Rv 59 8 ls st w = Rv 59 9 ls (.int 1 :: st) w := R_con Q59 (by decide +kernel) rfl (by decide)
theorem e59_9 {ls : zL} {w : zW} {x : Int32} : Rv 59 9 ls [.int x] w = some (.inl (some (.int x)), w) := R_retI Q59 (by decide +kernel) rfl
theorem e59_10 {ls : zL} {st : List Value} {w : zW} : Rv 59 10 ls st w = ldI ls 1 fun x => Rv 59 11 ls (.int x :: st) w := R_ldI Q59 (by decide +kernel) rfl
theorem e59_11 {ls : zL} {st : List Value} {w : zW} : Rv 59 11 ls st w = ldA ls 0 fun x => Rv 59 12 ls (x :: st) w := R_ldA Q59 (by decide +kernel) rfl
theorem e59_12 {ls : zL} {st : List Value} {w : zW} {a : Nat} : Rv 59 12 ls (.ref a :: st) w = gF w a 2 0 fun v => Rv 59 15 ls (v :: st) w := R_gF (z := 124) Q59 (by decide +kernel) rfl
theorem e59_15 {ls : zL} {w : zW} {n1 : Int32} {n2 : Int32} : Rv 59 15 ls [.int n1, .int n2] w = cal (Rv 16 0 [some (.int n2), some (.int n1), none, none, none] [] w) (fun v w' => Rv 59 18 ls (vts v []) w') (xnone) := R_calS (z := 351) (kd := 1) (n := 2) Q59 (by decide +kernel) rfl (Or.inl rfl) (Nat.le_of_ble_eq_true rfl) rfl Q16 rfl rfl rfl
theorem e59_18 {ls : zL} {st : List Value} {w : zW} {x : Int32} : Rv 59 18 ls (.int x :: st) w = lst ls 2 (some (.int x)) fun l => Rv 59 19 l st w := R_st Q59 (by decide +kernel) rfl
theorem e59_19 {ls : zL} {st : List Value} {w : zW} : Rv 59 19 ls st w = ldI ls 2 fun x => Rv 59 20 ls (.int x :: st) w := R_ldI Q59 (by decide +kernel) rfl
theorem e59_20 {ls : zL} {st : List Value} {w : zW} : Rv 59 20 ls st w = ldA ls 0 fun x => Rv 59 21 ls (x :: st) w := R_ldA Q59 (by decide +kernel) rfl
theorem e59_21 {ls : zL} {st : List Value} {w : zW} {a : Nat} : Rv 59 21 ls (.ref a :: st) w = gF w a 2 0 fun v => Rv 59 24 ls (v :: st) w := R_gF (z := 124) Q59 (by decide +kernel) rfl
theorem e59_24 {ls : zL} {w : zW} {n1 : Int32} {n2 : Int32} : Rv 59 24 ls [.int n1, .int n2] w = cal (Rv 22 0 [some (.int n2), some (.int n1), none, none, none] [] w) (fun v w' => Rv 59 27 ls (vts v []) w') (xnone) := R_calS (z := 354) (kd := 1) (n := 2) Q59 (by decide +kernel) rfl (Or.inl rfl) (Nat.le_of_ble_eq_true rfl) rfl Q22 rfl rfl rfl
theorem e59_27 {ls : zL} {st : List Value} {w : zW} : Rv 59 27 ls st w = ldA ls 0 fun x => Rv 59 28 ls (x :: st) w := R_ldA Q59 (by decide +kernel) rfl
theorem e59_28 {ls : zL} {st : List Value} {w : zW} {a : Nat} : Rv 59 28 ls (.ref a :: st) w = gF w a 2 2 fun v => Rv 59 31 ls (v :: st) w := R_gF (z := 131) Q59 (by decide +kernel) rfl
theorem e59_31 {ls : zL} {st : List Value} {w : zW} : Rv 59 31 ls st w = Rv 59 32 ls (.int 0 :: st) w := R_con Q59 (by decide +kernel) rfl (by decide)
theorem e59_32 {ls : zL} {st : List Value} {w : zW} {a : Nat} {x : Int32} : Rv 59 32 ls (.int x :: .ref a :: st) w = gI w a 0 8 x fun v => Rv 59 33 ls (.int v :: st) w := R_iald Q59 (by decide +kernel)
theorem e59_33 {ls : zL} {st : List Value} {w : zW} {x y : Int32} : Rv 59 33 ls (.int y :: .int x :: st) w = if y < x then Rv 59 36 ls st w else Rv 59 38 ls st w := R_file Q59 (by decide +kernel) rfl rfl
theorem e59_36 {ls : zL} {st : List Value} {w : zW} : Rv 59 36 ls st w = Rv 59 37 ls (.int 2 :: st) w := R_con Q59 (by decide +kernel) rfl (by decide)
theorem e59_37 {ls : zL} {w : zW} {x : Int32} : Rv 59 37 ls [.int x] w = some (.inl (some (.int x)), w) := R_retI Q59 (by decide +kernel) rfl
theorem e59_38 {ls : zL} {st : List Value} {w : zW} : Rv 59 38 ls st w = ldI ls 2 fun x => Rv 59 39 ls (.int x :: st) w := R_ldI Q59 (by decide +kernel) rfl
theorem e59_39 {ls : zL} {st : List Value} {w : zW} : Rv 59 39 ls st w = ldA ls 0 fun x => Rv 59 40 ls (x :: st) w := R_ldA Q59 (by decide +kernel) rfl
theorem e59_40 {ls : zL} {st : List Value} {w : zW} {a : Nat} : Rv 59 40 ls (.ref a :: st) w = gF w a 2 0 fun v => Rv 59 43 ls (v :: st) w := R_gF (z := 124) Q59 (by decide +kernel) rfl
theorem e59_43 {ls : zL} {w : zW} {n1 : Int32} {n2 : Int32} : Rv 59 43 ls [.int n1, .int n2] w = cal (Rv 23 0 [some (.int n2), some (.int n1), none, none] [] w) (fun v w' => Rv 59 46 ls (vts v []) w') (xnone) := R_calS (z := 370) (kd := 1) (n := 2) Q59 (by decide +kernel) rfl (Or.inl rfl) (Nat.le_of_ble_eq_true rfl) rfl Q23 rfl rfl rfl
theorem e59_46 {ls : zL} {st : List Value} {w : zW} : Rv 59 46 ls st w = ldA ls 0 fun x => Rv 59 47 ls (x :: st) w := R_ldA Q59 (by decide +kernel) rfl
theorem e59_47 {ls : zL} {st : List Value} {w : zW} {a : Nat} : Rv 59 47 ls (.ref a :: st) w = gF w a 2 2 fun v => Rv 59 50 ls (v :: st) w := R_gF (z := 131) Q59 (by decide +kernel) rfl
theorem e59_50 {ls : zL} {st : List Value} {w : zW} : Rv 59 50 ls st w = Rv 59 51 ls (.int 1 :: st) w := R_con Q59 (by decide +kernel) rfl (by decide)
theorem e59_51 {ls : zL} {st : List Value} {w : zW} {a : Nat} {x : Int32} : Rv 59 51 ls (.int x :: .ref a :: st) w = gI w a 0 8 x fun v => Rv 59 52 ls (.int v :: st) w := R_iald Q59 (by decide +kernel)
theorem e59_52 {ls : zL} {st : List Value} {w : zW} {x y : Int32} : Rv 59 52 ls (.int y :: .int x :: st) w = if x < y then Rv 59 55 ls st w else Rv 59 59 ls st w := R_fige Q59 (by decide +kernel) rfl rfl
theorem e59_55 {ls : zL} {st : List Value} {w : zW} : Rv 59 55 ls st w = Rv 59 56 ls (.int 3 :: st) w := R_con Q59 (by decide +kernel) rfl (by decide)
theorem e59_56 {ls : zL} {st : List Value} {w : zW} : Rv 59 56 ls st w = Rv 59 60 ls st w := R_go Q59 (by decide +kernel) rfl rfl
theorem e59_59 {ls : zL} {st : List Value} {w : zW} : Rv 59 59 ls st w = Rv 59 60 ls (.int 0 :: st) w := R_con Q59 (by decide +kernel) rfl (by decide)
theorem e59_60 {ls : zL} {w : zW} {x : Int32} : Rv 59 60 ls [.int x] w = some (.inl (some (.int x)), w) := R_retI Q59 (by decide +kernel) rfl
/-! MasterPins$Plan.isApart -/
theorem e60_0 {ls : zL} {st : List Value} {w : zW} : Rv 60 0 ls st w = Rv 60 1 ls (.int 0 :: st) w := R_con Q60 (by decide +kernel) rfl (by decide)
theorem e60_1 {ls : zL} {st : List Value} {w : zW} {x : Int32} : Rv 60 1 ls (.int x :: st) w = lst ls 3 (some (.int x)) fun l => Rv 60 2 l st w := R_st Q60 (by decide +kernel) rfl
theorem h60_2 {ls : zL} {st : List Value} {w : zW} : Rv 60 2 ls st w = ldI ls 3 fun x => Rv 60 3 ls (.int x :: st) w := R_ldI Q60 (by decide +kernel) rfl
theorem e60_3 {ls : zL} {st : List Value} {w : zW} : Rv 60 3 ls st w = ldA ls 0 fun x => Rv 60 4 ls (x :: st) w := R_ldA Q60 (by decide +kernel) rfl
theorem e60_4 {ls : zL} {st : List Value} {w : zW} {a : Nat} : Rv 60 4 ls (.ref a :: st) w = gF w a 2 3 fun v => Rv 60 7 ls (v :: st) w := R_gF (z := 132) Q60 (by decide +kernel) rfl
theorem e60_7 {ls : zL} {st : List Value} {w : zW} {x y : Int32} : Rv 60 7 ls (.int y :: .int x :: st) w = if x < y then Rv 60 10 ls st w else Rv 60 46 ls st w := R_fige Q60 (by decide +kernel) rfl rfl
theorem e60_10 {ls : zL} {st : List Value} {w : zW} : Rv 60 10 ls st w = ldI ls 3 fun x => Rv 60 11 ls (.int x :: st) w := R_ldI Q60 (by decide +kernel) rfl
theorem e60_11 {ls : zL} {st : List Value} {w : zW} : Rv 60 11 ls st w = ldI ls 2 fun x => Rv 60 12 ls (.int x :: st) w := R_ldI Q60 (by decide +kernel) rfl
theorem e60_12 {ls : zL} {st : List Value} {w : zW} {x y : Int32} : Rv 60 12 ls (.int y :: .int x :: st) w = if x = y then Rv 60 40 ls st w else Rv 60 15 ls st w := R_fieq Q60 (by decide +kernel) rfl rfl
theorem e60_15 {ls : zL} {st : List Value} {w : zW} : Rv 60 15 ls st w = ldI ls 1 fun x => Rv 60 16 ls (.int x :: st) w := R_ldI Q60 (by decide +kernel) rfl
theorem e60_16 {ls : zL} {st : List Value} {w : zW} : Rv 60 16 ls st w = ldA ls 0 fun x => Rv 60 17 ls (x :: st) w := R_ldA Q60 (by decide +kernel) rfl
theorem e60_17 {ls : zL} {st : List Value} {w : zW} {a : Nat} : Rv 60 17 ls (.ref a :: st) w = gF w a 2 5 fun v => Rv 60 20 ls (v :: st) w := R_gF (z := 135) Q60 (by decide +kernel) rfl
theorem e60_20 {ls : zL} {st : List Value} {w : zW} : Rv 60 20 ls st w = ldI ls 3 fun x => Rv 60 21 ls (.int x :: st) w := R_ldI Q60 (by decide +kernel) rfl
theorem e60_21 {ls : zL} {st : List Value} {w : zW} {a : Nat} {x : Int32} : Rv 60 21 ls (.int x :: .ref a :: st) w = gI w a 0 8 x fun v => Rv 60 22 ls (.int v :: st) w := R_iald Q60 (by decide +kernel)
theorem e60_22 {ls : zL} {st : List Value} {w : zW} : Rv 60 22 ls st w = ldA ls 0 fun x => Rv 60 23 ls (x :: st) w := R_ldA Q60 (by decide +kernel) rfl
theorem e60_23 {ls : zL} {st : List Value} {w : zW} {a : Nat} : Rv 60 23 ls (.ref a :: st) w = gF w a 2 0 fun v => Rv 60 26 ls (v :: st) w := R_gF (z := 124) Q60 (by decide +kernel) rfl
theorem e60_26 {ls : zL} {w : zW} {n1 : Int32} {n2 : Int32} {n3 : Int32} : Rv 60 26 ls [.int n1, .int n2, .int n3] w = cal (Rv 20 0 [some (.int n3), some (.int n2), some (.int n1)] [] w) (fun v w' => Rv 60 29 ls (vts v []) w') (xnone) := R_calS (z := 422) (kd := 1) (n := 3) Q60 (by decide +kernel) rfl (Or.inl rfl) (Nat.le_of_ble_eq_true rfl) rfl Q20 rfl rfl rfl
theorem e60_29 {ls : zL} {st : List Value} {w : zW} : Rv 60 29 ls st w = ldA ls 0 fun x => Rv 60 30 ls (x :: st) w := R_ldA Q60 (by decide +kernel) rfl
theorem e60_30 {ls : zL} {st : List Value} {w : zW} {a : Nat} : Rv 60 30 ls (.ref a :: st) w = gF w a 2 2 fun v => Rv 60 33 ls (v :: st) w := R_gF (z := 131) Q60 (by decide +kernel) rfl
theorem e60_33 {ls : zL} {st : List Value} {w : zW} : Rv 60 33 ls st w = Rv 60 34 ls (.int 2 :: st) w := R_con Q60 (by decide +kernel) rfl (by decide)
theorem e60_34 {ls : zL} {st : List Value} {w : zW} {a : Nat} {x : Int32} : Rv 60 34 ls (.int x :: .ref a :: st) w = gI w a 0 8 x fun v => Rv 60 35 ls (.int v :: st) w := R_iald Q60 (by decide +kernel)
theorem e60_35 {ls : zL} {st : List Value} {w : zW} {x y : Int32} : Rv 60 35 ls (.int y :: .int x :: st) w = if x < y then Rv 60 38 ls st w else Rv 60 40 ls st w := R_fige Q60 (by decide +kernel) rfl rfl
theorem e60_38 {ls : zL} {st : List Value} {w : zW} : Rv 60 38 ls st w = Rv 60 39 ls (.int 0 :: st) w := R_con Q60 (by decide +kernel) rfl (by decide)
theorem e60_39 {ls : zL} {w : zW} {x : Int32} : Rv 60 39 ls [.int x] w = if x = 0 ∨ x = 1 then some (.inl (some (.int x)), w) else none := R_retZ Q60 (by decide +kernel) rfl
theorem e60_40 {ls : zL} {st : List Value} {w : zW} : Rv 60 40 ls st w = ldI ls 3 fun x => lst ls 3 (some (.int (x + 1))) fun l => Rv 60 43 l st w := R_iinc Q60 (by decide +kernel) (by decide)
theorem e60_43 {ls : zL} {st : List Value} {w : zW} : Rv 60 43 ls st w = Rv 60 2 ls st w := R_go Q60 (by decide +kernel) rfl rfl
theorem e60_46 {ls : zL} {st : List Value} {w : zW} : Rv 60 46 ls st w = Rv 60 47 ls (.int 1 :: st) w := R_con Q60 (by decide +kernel) rfl (by decide)
theorem e60_47 {ls : zL} {w : zW} {x : Int32} : Rv 60 47 ls [.int x] w = if x = 0 ∨ x = 1 then some (.inl (some (.int x)), w) else none := R_retZ Q60 (by decide +kernel) rfl
/-! MasterPins$Plan.reasonAgainst -/
theorem e61_0 {ls : zL} {st : List Value} {w : zW} : Rv 61 0 ls st w = ldA ls 0 fun x => Rv 61 1 ls (x :: st) w := R_ldA Q61 (by decide +kernel) rfl
theorem e61_1 {ls : zL} {st : List Value} {w : zW} : Rv 61 1 ls st w = ldI ls 2 fun x => Rv 61 2 ls (.int x :: st) w := R_ldI Q61 (by decide +kernel) rfl
theorem e61_2 {ls : zL} {w : zW} {n1 : Int32} {a0 : Nat} : Rv 61 2 ls [.int n1, .ref a0] w = hO w a0 2 (cal (Rv 59 0 [some (.ref a0), some (.int n1), none] [] w) (fun v w' => Rv 61 5 ls (vts v []) w') (xnone)) := R_calV (z := 559) (r := []) Q61 (by decide +kernel) rfl rfl Q59 rfl rfl rfl
theorem e61_5 {ls : zL} {st : List Value} {w : zW} {x : Int32} : Rv 61 5 ls (.int x :: st) w = lst ls 3 (some (.int x)) fun l => Rv 61 6 l st w := R_st Q61 (by decide +kernel) rfl
theorem e61_6 {ls : zL} {st : List Value} {w : zW} : Rv 61 6 ls st w = ldI ls 3 fun x => Rv 61 7 ls (.int x :: st) w := R_ldI Q61 (by decide +kernel) rfl
theorem e61_7 {ls : zL} {st : List Value} {w : zW} {x : Int32} : Rv 61 7 ls (.int x :: st) w = if x = 0 then Rv 61 12 ls st w else Rv 61 10 ls st w := R_f0eq Q61 (by decide +kernel) rfl rfl
theorem e61_10 {ls : zL} {st : List Value} {w : zW} : Rv 61 10 ls st w = ldI ls 3 fun x => Rv 61 11 ls (.int x :: st) w := R_ldI Q61 (by decide +kernel) rfl
theorem e61_11 {ls : zL} {w : zW} {x : Int32} : Rv 61 11 ls [.int x] w = some (.inl (some (.int x)), w) := R_retI Q61 (by decide +kernel) rfl
theorem e61_12 {ls : zL} {st : List Value} {w : zW} : Rv 61 12 ls st w = ldA ls 0 fun x => Rv 61 13 ls (x :: st) w := R_ldA Q61 (by decide +kernel) rfl
theorem e61_13 {ls : zL} {st : List Value} {w : zW} : Rv 61 13 ls st w = ldI ls 2 fun x => Rv 61 14 ls (.int x :: st) w := R_ldI Q61 (by decide +kernel) rfl
theorem e61_14 {ls : zL} {st : List Value} {w : zW} : Rv 61 14 ls st w = ldA ls 0 fun x => Rv 61 15 ls (x :: st) w := R_ldA Q61 (by decide +kernel) rfl
theorem e61_15 {ls : zL} {st : List Value} {w : zW} {a : Nat} : Rv 61 15 ls (.ref a :: st) w = gF w a 2 0 fun v => Rv 61 18 ls (v :: st) w := R_gF (z := 124) Q61 (by decide +kernel) rfl
theorem e61_18 {ls : zL} {w : zW} {n1 : Int32} {n2 : Int32} {a3 : Nat} : Rv 61 18 ls [.int n1, .int n2, .ref a3] w = cal (Rv 16 0 [some (.int n2), some (.int n1), none, none, none] [] w) (fun v w' => Rv 61 21 ls (vts v [.ref a3]) w') (xnone) := R_calS (z := 351) (kd := 1) (n := 2) Q61 (by decide +kernel) rfl (Or.inl rfl) (Nat.le_of_ble_eq_true rfl) rfl Q16 rfl rfl rfl
theorem e61_21 {ls : zL} {st : List Value} {w : zW} : Rv 61 21 ls st w = ldI ls 1 fun x => Rv 61 22 ls (.int x :: st) w := R_ldI Q61 (by decide +kernel) rfl
theorem e61_22 {ls : zL} {w : zW} {n1 : Int32} {n2 : Int32} {a0 : Nat} : Rv 61 22 ls [.int n1, .int n2, .ref a0] w = hO w a0 2 (cal (Rv 60 0 [some (.ref a0), some (.int n2), some (.int n1), none] [] w) (fun v w' => Rv 61 25 ls (vts v []) w') (xnone)) := R_calV (z := 560) (r := []) Q61 (by decide +kernel) rfl rfl Q60 rfl rfl rfl
theorem e61_25 {ls : zL} {st : List Value} {w : zW} {x : Int32} : Rv 61 25 ls (.int x :: st) w = if x = 0 then Rv 61 32 ls st w else Rv 61 28 ls st w := R_f0eq Q61 (by decide +kernel) rfl rfl
theorem e61_28 {ls : zL} {st : List Value} {w : zW} : Rv 61 28 ls st w = Rv 61 29 ls (.int 0 :: st) w := R_con Q61 (by decide +kernel) rfl (by decide)
theorem e61_29 {ls : zL} {st : List Value} {w : zW} : Rv 61 29 ls st w = Rv 61 33 ls st w := R_go Q61 (by decide +kernel) rfl rfl
theorem e61_32 {ls : zL} {st : List Value} {w : zW} : Rv 61 32 ls st w = Rv 61 33 ls (.int 4 :: st) w := R_con Q61 (by decide +kernel) rfl (by decide)
theorem e61_33 {ls : zL} {w : zW} {x : Int32} : Rv 61 33 ls [.int x] w = some (.inl (some (.int x)), w) := R_retI Q61 (by decide +kernel) rfl
/-! MasterPins$Plan.isCutOfSomeKey -/
theorem e62_0 {ls : zL} {st : List Value} {w : zW} : Rv 62 0 ls st w = Rv 62 1 ls (.int 0 :: st) w := R_con Q62 (by decide +kernel) rfl (by decide)
theorem e62_1 {ls : zL} {st : List Value} {w : zW} {x : Int32} : Rv 62 1 ls (.int x :: st) w = lst ls 2 (some (.int x)) fun l => Rv 62 2 l st w := R_st Q62 (by decide +kernel) rfl
theorem h62_2 {ls : zL} {st : List Value} {w : zW} : Rv 62 2 ls st w = ldI ls 2 fun x => Rv 62 3 ls (.int x :: st) w := R_ldI Q62 (by decide +kernel) rfl
theorem e62_3 {ls : zL} {st : List Value} {w : zW} : Rv 62 3 ls st w = ldA ls 0 fun x => Rv 62 4 ls (x :: st) w := R_ldA Q62 (by decide +kernel) rfl
theorem e62_4 {ls : zL} {st : List Value} {w : zW} {a : Nat} : Rv 62 4 ls (.ref a :: st) w = gF w a 2 3 fun v => Rv 62 7 ls (v :: st) w := R_gF (z := 132) Q62 (by decide +kernel) rfl
theorem e62_7 {ls : zL} {st : List Value} {w : zW} {x y : Int32} : Rv 62 7 ls (.int y :: .int x :: st) w = if x < y then Rv 62 10 ls st w else Rv 62 28 ls st w := R_fige Q62 (by decide +kernel) rfl rfl
theorem e62_10 {ls : zL} {st : List Value} {w : zW} : Rv 62 10 ls st w = ldA ls 0 fun x => Rv 62 11 ls (x :: st) w := R_ldA Q62 (by decide +kernel) rfl
theorem e62_11 {ls : zL} {st : List Value} {w : zW} {a : Nat} : Rv 62 11 ls (.ref a :: st) w = gF w a 2 5 fun v => Rv 62 14 ls (v :: st) w := R_gF (z := 135) Q62 (by decide +kernel) rfl
theorem e62_14 {ls : zL} {st : List Value} {w : zW} : Rv 62 14 ls st w = ldI ls 2 fun x => Rv 62 15 ls (.int x :: st) w := R_ldI Q62 (by decide +kernel) rfl
theorem e62_15 {ls : zL} {st : List Value} {w : zW} {a : Nat} {x : Int32} : Rv 62 15 ls (.int x :: .ref a :: st) w = gI w a 0 8 x fun v => Rv 62 16 ls (.int v :: st) w := R_iald Q62 (by decide +kernel)
theorem e62_16 {ls : zL} {st : List Value} {w : zW} : Rv 62 16 ls st w = ldI ls 1 fun x => Rv 62 17 ls (.int x :: st) w := R_ldI Q62 (by decide +kernel) rfl
theorem e62_17 {ls : zL} {st : List Value} {w : zW} {x y : Int32} : Rv 62 17 ls (.int y :: .int x :: st) w = if x = y then Rv 62 20 ls st w else Rv 62 22 ls st w := R_fine Q62 (by decide +kernel) rfl rfl
theorem e62_20 {ls : zL} {st : List Value} {w : zW} : Rv 62 20 ls st w = Rv 62 21 ls (.int 1 :: st) w := R_con Q62 (by decide +kernel) rfl (by decide)
theorem e62_21 {ls : zL} {w : zW} {x : Int32} : Rv 62 21 ls [.int x] w = if x = 0 ∨ x = 1 then some (.inl (some (.int x)), w) else none := R_retZ Q62 (by decide +kernel) rfl
theorem e62_22 {ls : zL} {st : List Value} {w : zW} : Rv 62 22 ls st w = ldI ls 2 fun x => lst ls 2 (some (.int (x + 1))) fun l => Rv 62 25 l st w := R_iinc Q62 (by decide +kernel) (by decide)
theorem e62_25 {ls : zL} {st : List Value} {w : zW} : Rv 62 25 ls st w = Rv 62 2 ls st w := R_go Q62 (by decide +kernel) rfl rfl
theorem e62_28 {ls : zL} {st : List Value} {w : zW} : Rv 62 28 ls st w = Rv 62 29 ls (.int 0 :: st) w := R_con Q62 (by decide +kernel) rfl (by decide)
theorem e62_29 {ls : zL} {w : zW} {x : Int32} : Rv 62 29 ls [.int x] w = if x = 0 ∨ x = 1 then some (.inl (some (.int x)), w) else none := R_retZ Q62 (by decide +kernel) rfl
/-! MasterPins$Plan.cutsOf -/
theorem e63_0 {ls : zL} {st : List Value} {w : zW} : Rv 63 0 ls st w = ldA ls 0 fun x => Rv 63 1 ls (x :: st) w := R_ldA Q63 (by decide +kernel) rfl
theorem e63_1 {ls : zL} {st : List Value} {w : zW} {a : Nat} : Rv 63 1 ls (.ref a :: st) w = gF w a 2 5 fun v => Rv 63 4 ls (v :: st) w := R_gF (z := 135) Q63 (by decide +kernel) rfl
theorem e63_4 {ls : zL} {st : List Value} {w : zW} : Rv 63 4 ls st w = ldI ls 1 fun x => Rv 63 5 ls (.int x :: st) w := R_ldI Q63 (by decide +kernel) rfl
theorem e63_5 {ls : zL} {st : List Value} {w : zW} {a : Nat} {x : Int32} : Rv 63 5 ls (.int x :: .ref a :: st) w = gI w a 0 8 x fun v => Rv 63 6 ls (.int v :: st) w := R_iald Q63 (by decide +kernel)
theorem e63_6 {ls : zL} {w : zW} {x : Int32} : Rv 63 6 ls [.int x] w = some (.inl (some (.int x)), w) := R_retI Q63 (by decide +kernel) rfl
/-! MasterPins$Plan.ownerOf -/
theorem e64_0 {ls : zL} {st : List Value} {w : zW} : Rv 64 0 ls st w = ldA ls 0 fun x => Rv 64 1 ls (x :: st) w := R_ldA Q64 (by decide +kernel) rfl
theorem e64_1 {ls : zL} {st : List Value} {w : zW} {a : Nat} : Rv 64 1 ls (.ref a :: st) w = gF w a 2 10 fun v => Rv 64 4 ls (v :: st) w := R_gF (z := 142) Q64 (by decide +kernel) rfl
theorem e64_4 {ls : zL} {st : List Value} {w : zW} : Rv 64 4 ls st w = ldI ls 1 fun x => Rv 64 5 ls (.int x :: st) w := R_ldI Q64 (by decide +kernel) rfl
theorem e64_5 {ls : zL} {st : List Value} {w : zW} {a : Nat} {x : Int32} : Rv 64 5 ls (.int x :: .ref a :: st) w = gI w a 0 8 x fun v => Rv 64 6 ls (.int v :: st) w := R_iald Q64 (by decide +kernel)
theorem e64_6 {ls : zL} {w : zW} {x : Int32} : Rv 64 6 ls [.int x] w = some (.inl (some (.int x)), w) := R_retI Q64 (by decide +kernel) rfl
/-! MasterPins$Plan.pinsOf -/
theorem e65_0 {ls : zL} {st : List Value} {w : zW} : Rv 65 0 ls st w = ldA ls 0 fun x => Rv 65 1 ls (x :: st) w := R_ldA Q65 (by decide +kernel) rfl
theorem e65_1 {ls : zL} {st : List Value} {w : zW} {a : Nat} : Rv 65 1 ls (.ref a :: st) w = gF w a 2 11 fun v => Rv 65 4 ls (v :: st) w := R_gF (z := 143) Q65 (by decide +kernel) rfl
theorem e65_4 {ls : zL} {st : List Value} {w : zW} : Rv 65 4 ls st w = ldI ls 1 fun x => Rv 65 5 ls (.int x :: st) w := R_ldI Q65 (by decide +kernel) rfl
theorem e65_5 {ls : zL} {st : List Value} {w : zW} {a : Nat} {x : Int32} : Rv 65 5 ls (.int x :: .ref a :: st) w = gI w a 0 8 x fun v => Rv 65 6 ls (.int v :: st) w := R_iald Q65 (by decide +kernel)
theorem e65_6 {ls : zL} {w : zW} {x : Int32} : Rv 65 6 ls [.int x] w = some (.inl (some (.int x)), w) := R_retI Q65 (by decide +kernel) rfl
/-! MasterPins$Plan.pinsInChamber -/
theorem e66_0 {ls : zL} {st : List Value} {w : zW} : Rv 66 0 ls st w = ldA ls 0 fun x => Rv 66 1 ls (x :: st) w := R_ldA Q66 (by decide +kernel) rfl
theorem e66_1 {ls : zL} {st : List Value} {w : zW} {a : Nat} : Rv 66 1 ls (.ref a :: st) w = gF w a 2 11 fun v => Rv 66 4 ls (v :: st) w := R_gF (z := 143) Q66 (by decide +kernel) rfl
theorem e66_4 {ls : zL} {st : List Value} {w : zW} : Rv 66 4 ls st w = ldI ls 1 fun x => Rv 66 5 ls (.int x :: st) w := R_ldI Q66 (by decide +kernel) rfl
theorem e66_5 {ls : zL} {st : List Value} {w : zW} {a : Nat} {x : Int32} : Rv 66 5 ls (.int x :: .ref a :: st) w = gI w a 0 8 x fun v => Rv 66 6 ls (.int v :: st) w := R_iald Q66 (by decide +kernel)
theorem e66_6 {ls : zL} {st : List Value} {w : zW} : Rv 66 6 ls st w = ldI ls 2 fun x => Rv 66 7 ls (.int x :: st) w := R_ldI Q66 (by decide +kernel) rfl
theorem e66_7 {ls : zL} {w : zW} {n1 : Int32} {n2 : Int32} : Rv 66 7 ls [.int n1, .int n2] w = cal (Rv 17 0 [some (.int n2), some (.int n1)] [] w) (fun v w' => Rv 66 10 ls (vts v []) w') (xnone) := R_calS (z := 708) (kd := 1) (n := 2) Q66 (by decide +kernel) rfl (Or.inl rfl) (Nat.le_of_ble_eq_true rfl) rfl Q17 rfl rfl rfl
theorem e66_10 {ls : zL} {w : zW} {x : Int32} : Rv 66 10 ls [.int x] w = some (.inl (some (.int x)), w) := R_retI Q66 (by decide +kernel) rfl
/-! MasterPins$Plan.lostCount -/
theorem e67_0 {ls : zL} {st : List Value} {w : zW} : Rv 67 0 ls st w = ldA ls 0 fun x => Rv 67 1 ls (x :: st) w := R_ldA Q67 (by decide +kernel) rfl
theorem e67_1 {ls : zL} {st : List Value} {w : zW} {a : Nat} : Rv 67 1 ls (.ref a :: st) w = gF w a 2 8 fun v => Rv 67 4 ls (v :: st) w := R_gF (z := 138) Q67 (by decide +kernel) rfl
theorem e67_4 {ls : zL} {w : zW} {n1 : Int32} : Rv 67 4 ls [.int n1] w = cal (Rv 232 0 [some (.int n1)] [] w) (fun v w' => Rv 67 7 ls (vts v []) w') (xnone) := R_calS (z := 317) (kd := 1) (n := 1) Q67 (by decide +kernel) rfl (Or.inl rfl) (Nat.le_of_ble_eq_true rfl) rfl Q232 rfl rfl rfl
theorem e67_7 {ls : zL} {w : zW} {x : Int32} : Rv 67 7 ls [.int x] w = some (.inl (some (.int x)), w) := R_retI Q67 (by decide +kernel) rfl
/-! MasterPins$Plan.lineOf -/
theorem e68_0 {ls : zL} {st : List Value} {w : zW} : Rv 68 0 ls st w = ldA ls 0 fun x => Rv 68 1 ls (x :: st) w := R_ldA Q68 (by decide +kernel) rfl
theorem e68_1 {ls : zL} {st : List Value} {w : zW} {a : Nat} : Rv 68 1 ls (.ref a :: st) w = gF w a 2 7 fun v => Rv 68 4 ls (v :: st) w := R_gF (z := 137) Q68 (by decide +kernel) rfl
theorem e68_4 {ls : zL} {st : List Value} {w : zW} : Rv 68 4 ls st w = ldA ls 0 fun x => Rv 68 5 ls (x :: st) w := R_ldA Q68 (by decide +kernel) rfl
theorem e68_5 {ls : zL} {st : List Value} {w : zW} {a : Nat} : Rv 68 5 ls (.ref a :: st) w = gF w a 2 10 fun v => Rv 68 8 ls (v :: st) w := R_gF (z := 142) Q68 (by decide +kernel) rfl
theorem e68_8 {ls : zL} {st : List Value} {w : zW} : Rv 68 8 ls st w = ldI ls 1 fun x => Rv 68 9 ls (.int x :: st) w := R_ldI Q68 (by decide +kernel) rfl
theorem e68_9 {ls : zL} {st : List Value} {w : zW} {a : Nat} {x : Int32} : Rv 68 9 ls (.int x :: .ref a :: st) w = gI w a 0 8 x fun v => Rv 68 10 ls (.int v :: st) w := R_iald Q68 (by decide +kernel)
theorem e68_10 {ls : zL} {st : List Value} {w : zW} {a : Nat} {x : Int32} : Rv 68 10 ls (.int x :: .ref a :: st) w = gI w a 0 8 x fun v => Rv 68 11 ls (.int v :: st) w := R_iald Q68 (by decide +kernel)
theorem e68_11 {ls : zL} {st : List Value} {w : zW} : Rv 68 11 ls st w = Rv 68 12 ls (.int 1 :: st) w := R_con Q68 (by decide +kernel) rfl (by decide)
theorem e68_12 {ls : zL} {st : List Value} {w : zW} : Rv 68 12 ls st w = ldA ls 0 fun x => Rv 68 13 ls (x :: st) w := R_ldA Q68 (by decide +kernel) rfl
theorem e68_13 {ls : zL} {st : List Value} {w : zW} {a : Nat} : Rv 68 13 ls (.ref a :: st) w = gF w a 2 10 fun v => Rv 68 16 ls (v :: st) w := R_gF (z := 142) Q68 (by decide +kernel) rfl
theorem e68_16 {ls : zL} {st : List Value} {w : zW} : Rv 68 16 ls st w = ldI ls 1 fun x => Rv 68 17 ls (.int x :: st) w := R_ldI Q68 (by decide +kernel) rfl
theorem e68_17 {ls : zL} {st : List Value} {w : zW} {a : Nat} {x : Int32} : Rv 68 17 ls (.int x :: .ref a :: st) w = gI w a 0 8 x fun v => Rv 68 18 ls (.int v :: st) w := R_iald Q68 (by decide +kernel)
theorem e68_18 {ls : zL} {st : List Value} {w : zW} {x y : Int32} : Rv 68 18 ls (.int y :: .int x :: st) w = Rv 68 19 ls (.int (x <<< (y &&& 31)) :: st) w := R_next Q68 (by decide +kernel) rfl
theorem e68_19 {ls : zL} {st : List Value} {w : zW} {x y : Int32} : Rv 68 19 ls (.int y :: .int x :: st) w = Rv 68 20 ls (.int (x ||| y) :: st) w := R_next Q68 (by decide +kernel) rfl
theorem e68_20 {ls : zL} {w : zW} {x : Int32} : Rv 68 20 ls [.int x] w = some (.inl (some (.int x)), w) := R_retI Q68 (by decide +kernel) rfl
/-! MasterPins$Plan.rightKeys -/
theorem e69_0 {ls : zL} {st : List Value} {w : zW} : Rv 69 0 ls st w = ldA ls 0 fun x => Rv 69 1 ls (x :: st) w := R_ldA Q69 (by decide +kernel) rfl
theorem e69_1 {ls : zL} {st : List Value} {w : zW} : Rv 69 1 ls st w = ldI ls 1 fun x => Rv 69 2 ls (.int x :: st) w := R_ldI Q69 (by decide +kernel) rfl
theorem e69_2 {ls : zL} {w : zW} {n1 : Int32} {a0 : Nat} : Rv 69 2 ls [.int n1, .ref a0] w = hO w a0 2 (cal (Rv 68 0 [some (.ref a0), some (.int n1)] [] w) (fun v w' => Rv 69 5 ls (vts v []) w') (xnone)) := R_calV (z := 313) (r := []) Q69 (by decide +kernel) rfl rfl Q68 rfl rfl rfl
theorem e69_5 {ls : zL} {st : List Value} {w : zW} : Rv 69 5 ls st w = ldA ls 0 fun x => Rv 69 6 ls (x :: st) w := R_ldA Q69 (by decide +kernel) rfl
theorem e69_6 {ls : zL} {st : List Value} {w : zW} {a : Nat} : Rv 69 6 ls (.ref a :: st) w = gF w a 2 8 fun v => Rv 69 9 ls (v :: st) w := R_gF (z := 138) Q69 (by decide +kernel) rfl
theorem e69_9 {ls : zL} {st : List Value} {w : zW} : Rv 69 9 ls st w = Rv 69 10 ls (.int (-1) :: st) w := R_con Q69 (by decide +kernel) rfl (by decide)
theorem e69_10 {ls : zL} {st : List Value} {w : zW} {x y : Int32} : Rv 69 10 ls (.int y :: .int x :: st) w = Rv 69 11 ls (.int (x ^^^ y) :: st) w := R_next Q69 (by decide +kernel) rfl
theorem e69_11 {ls : zL} {st : List Value} {w : zW} {x y : Int32} : Rv 69 11 ls (.int y :: .int x :: st) w = Rv 69 12 ls (.int (x &&& y) :: st) w := R_next Q69 (by decide +kernel) rfl
theorem e69_12 {ls : zL} {w : zW} {x : Int32} : Rv 69 12 ls [.int x] w = some (.inl (some (.int x)), w) := R_retI Q69 (by decide +kernel) rfl
/-! MasterPins$Plan.openers -/
theorem e70_0 {ls : zL} {st : List Value} {w : zW} : Rv 70 0 ls st w = Rv 70 1 ls (.int 0 :: st) w := R_con Q70 (by decide +kernel) rfl (by decide)
theorem e70_1 {ls : zL} {st : List Value} {w : zW} {x : Int32} : Rv 70 1 ls (.int x :: st) w = lst ls 2 (some (.int x)) fun l => Rv 70 2 l st w := R_st Q70 (by decide +kernel) rfl
theorem e70_2 {ls : zL} {st : List Value} {w : zW} : Rv 70 2 ls st w = Rv 70 3 ls (.int 0 :: st) w := R_con Q70 (by decide +kernel) rfl (by decide)
theorem e70_3 {ls : zL} {st : List Value} {w : zW} {x : Int32} : Rv 70 3 ls (.int x :: st) w = lst ls 3 (some (.int x)) fun l => Rv 70 4 l st w := R_st Q70 (by decide +kernel) rfl
theorem h70_4 {ls : zL} {st : List Value} {w : zW} : Rv 70 4 ls st w = ldI ls 3 fun x => Rv 70 5 ls (.int x :: st) w := R_ldI Q70 (by decide +kernel) rfl
theorem e70_5 {ls : zL} {st : List Value} {w : zW} : Rv 70 5 ls st w = ldA ls 0 fun x => Rv 70 6 ls (x :: st) w := R_ldA Q70 (by decide +kernel) rfl
theorem e70_6 {ls : zL} {st : List Value} {w : zW} {a : Nat} : Rv 70 6 ls (.ref a :: st) w = gF w a 2 3 fun v => Rv 70 9 ls (v :: st) w := R_gF (z := 132) Q70 (by decide +kernel) rfl
theorem e70_9 {ls : zL} {st : List Value} {w : zW} {x y : Int32} : Rv 70 9 ls (.int y :: .int x :: st) w = if x < y then Rv 70 12 ls st w else Rv 70 42 ls st w := R_fige Q70 (by decide +kernel) rfl rfl
theorem e70_12 {ls : zL} {st : List Value} {w : zW} : Rv 70 12 ls st w = ldA ls 0 fun x => Rv 70 13 ls (x :: st) w := R_ldA Q70 (by decide +kernel) rfl
theorem e70_13 {ls : zL} {st : List Value} {w : zW} {a : Nat} : Rv 70 13 ls (.ref a :: st) w = gF w a 2 5 fun v => Rv 70 16 ls (v :: st) w := R_gF (z := 135) Q70 (by decide +kernel) rfl
theorem e70_16 {ls : zL} {st : List Value} {w : zW} : Rv 70 16 ls st w = ldI ls 3 fun x => Rv 70 17 ls (.int x :: st) w := R_ldI Q70 (by decide +kernel) rfl
theorem e70_17 {ls : zL} {st : List Value} {w : zW} {a : Nat} {x : Int32} : Rv 70 17 ls (.int x :: .ref a :: st) w = gI w a 0 8 x fun v => Rv 70 18 ls (.int v :: st) w := R_iald Q70 (by decide +kernel)
theorem e70_18 {ls : zL} {st : List Value} {w : zW} : Rv 70 18 ls st w = ldA ls 0 fun x => Rv 70 19 ls (x :: st) w := R_ldA Q70 (by decide +kernel) rfl
theorem e70_19 {ls : zL} {st : List Value} {w : zW} {a : Nat} : Rv 70 19 ls (.ref a :: st) w = gF w a 2 11 fun v => Rv 70 22 ls (v :: st) w := R_gF (z := 143) Q70 (by decide +kernel) rfl
theorem e70_22 {ls : zL} {st : List Value} {w : zW} : Rv 70 22 ls st w = ldI ls 1 fun x => Rv 70 23 ls (.int x :: st) w := R_ldI Q70 (by decide +kernel) rfl
theorem e70_23 {ls : zL} {st : List Value} {w : zW} {a : Nat} {x : Int32} : Rv 70 23 ls (.int x :: .ref a :: st) w = gI w a 0 8 x fun v => Rv 70 24 ls (.int v :: st) w := R_iald Q70 (by decide +kernel)
theorem e70_24 {ls : zL} {w : zW} {n1 : Int32} {n2 : Int32} : Rv 70 24 ls [.int n1, .int n2] w = cal (Rv 19 0 [some (.int n2), some (.int n1)] [] w) (fun v w' => Rv 70 27 ls (vts v []) w') (xnone) := R_calS (z := 395) (kd := 1) (n := 2) Q70 (by decide +kernel) rfl (Or.inl rfl) (Nat.le_of_ble_eq_true rfl) rfl Q19 rfl rfl rfl
theorem e70_27 {ls : zL} {st : List Value} {w : zW} {x : Int32} : Rv 70 27 ls (.int x :: st) w = if x = 0 then Rv 70 36 ls st w else Rv 70 30 ls st w := R_f0eq Q70 (by decide +kernel) rfl rfl
theorem e70_30 {ls : zL} {st : List Value} {w : zW} : Rv 70 30 ls st w = ldI ls 2 fun x => Rv 70 31 ls (.int x :: st) w := R_ldI Q70 (by decide +kernel) rfl
theorem e70_31 {ls : zL} {st : List Value} {w : zW} : Rv 70 31 ls st w = Rv 70 32 ls (.int 1 :: st) w := R_con Q70 (by decide +kernel) rfl (by decide)
theorem e70_32 {ls : zL} {st : List Value} {w : zW} : Rv 70 32 ls st w = ldI ls 3 fun x => Rv 70 33 ls (.int x :: st) w := R_ldI Q70 (by decide +kernel) rfl
theorem e70_33 {ls : zL} {st : List Value} {w : zW} {x y : Int32} : Rv 70 33 ls (.int y :: .int x :: st) w = Rv 70 34 ls (.int (x <<< (y &&& 31)) :: st) w := R_next Q70 (by decide +kernel) rfl
theorem e70_34 {ls : zL} {st : List Value} {w : zW} {x y : Int32} : Rv 70 34 ls (.int y :: .int x :: st) w = Rv 70 35 ls (.int (x ||| y) :: st) w := R_next Q70 (by decide +kernel) rfl
theorem e70_35 {ls : zL} {st : List Value} {w : zW} {x : Int32} : Rv 70 35 ls (.int x :: st) w = lst ls 2 (some (.int x)) fun l => Rv 70 36 l st w := R_st Q70 (by decide +kernel) rfl
theorem e70_36 {ls : zL} {st : List Value} {w : zW} : Rv 70 36 ls st w = ldI ls 3 fun x => lst ls 3 (some (.int (x + 1))) fun l => Rv 70 39 l st w := R_iinc Q70 (by decide +kernel) (by decide)
theorem e70_39 {ls : zL} {st : List Value} {w : zW} : Rv 70 39 ls st w = Rv 70 4 ls st w := R_go Q70 (by decide +kernel) rfl rfl
theorem e70_42 {ls : zL} {st : List Value} {w : zW} : Rv 70 42 ls st w = ldI ls 2 fun x => Rv 70 43 ls (.int x :: st) w := R_ldI Q70 (by decide +kernel) rfl
theorem e70_43 {ls : zL} {w : zW} {x : Int32} : Rv 70 43 ls [.int x] w = some (.inl (some (.int x)), w) := R_retI Q70 (by decide +kernel) rfl
/-! MasterPins$Plan.wrongKeys -/
theorem e71_0 {ls : zL} {st : List Value} {w : zW} : Rv 71 0 ls st w = ldA ls 0 fun x => Rv 71 1 ls (x :: st) w := R_ldA Q71 (by decide +kernel) rfl
theorem e71_1 {ls : zL} {st : List Value} {w : zW} : Rv 71 1 ls st w = ldI ls 1 fun x => Rv 71 2 ls (.int x :: st) w := R_ldI Q71 (by decide +kernel) rfl
theorem e71_2 {ls : zL} {w : zW} {n1 : Int32} {a0 : Nat} : Rv 71 2 ls [.int n1, .ref a0] w = hO w a0 2 (cal (Rv 70 0 [some (.ref a0), some (.int n1), none, none] [] w) (fun v w' => Rv 71 5 ls (vts v []) w') (xnone)) := R_calV (z := 391) (r := []) Q71 (by decide +kernel) rfl rfl Q70 rfl rfl rfl
theorem e71_5 {ls : zL} {st : List Value} {w : zW} : Rv 71 5 ls st w = ldA ls 0 fun x => Rv 71 6 ls (x :: st) w := R_ldA Q71 (by decide +kernel) rfl
theorem e71_6 {ls : zL} {st : List Value} {w : zW} : Rv 71 6 ls st w = ldI ls 1 fun x => Rv 71 7 ls (.int x :: st) w := R_ldI Q71 (by decide +kernel) rfl
theorem e71_7 {ls : zL} {w : zW} {n1 : Int32} {a0 : Nat} {n2 : Int32} : Rv 71 7 ls [.int n1, .ref a0, .int n2] w = hO w a0 2 (cal (Rv 69 0 [some (.ref a0), some (.int n1)] [] w) (fun v w' => Rv 71 10 ls (vts v [.int n2]) w') (xnone)) := R_calV (z := 402) (r := [.int n2]) Q71 (by decide +kernel) rfl rfl Q69 rfl rfl rfl
theorem e71_10 {ls : zL} {st : List Value} {w : zW} {x y : Int32} : Rv 71 10 ls (.int y :: .int x :: st) w = Rv 71 11 ls (.int (x ^^^ y) :: st) w := R_next Q71 (by decide +kernel) rfl
theorem e71_11 {ls : zL} {w : zW} {n1 : Int32} : Rv 71 11 ls [.int n1] w = cal (Rv 232 0 [some (.int n1)] [] w) (fun v w' => Rv 71 14 ls (vts v []) w') (xnone) := R_calS (z := 317) (kd := 1) (n := 1) Q71 (by decide +kernel) rfl (Or.inl rfl) (Nat.le_of_ble_eq_true rfl) rfl Q232 rfl rfl rfl
theorem e71_14 {ls : zL} {w : zW} {x : Int32} : Rv 71 14 ls [.int x] w = some (.inl (some (.int x)), w) := R_retI Q71 (by decide +kernel) rfl
/-! MasterPins$Plan.isExposed -/
theorem e72_0 {ls : zL} {st : List Value} {w : zW} : Rv 72 0 ls st w = ldA ls 0 fun x => Rv 72 1 ls (x :: st) w := R_ldA Q72 (by decide +kernel) rfl
theorem e72_1 {ls : zL} {st : List Value} {w : zW} : Rv 72 1 ls st w = ldI ls 1 fun x => Rv 72 2 ls (.int x :: st) w := R_ldI Q72 (by decide +kernel) rfl
theorem e72_2 {ls : zL} {w : zW} {n1 : Int32} {a0 : Nat} : Rv 72 2 ls [.int n1, .ref a0] w = hO w a0 2 (cal (Rv 70 0 [some (.ref a0), some (.int n1), none, none] [] w) (fun v w' => Rv 72 5 ls (vts v []) w') (xnone)) := R_calV (z := 391) (r := []) Q72 (by decide +kernel) rfl rfl Q70 rfl rfl rfl
theorem e72_5 {ls : zL} {st : List Value} {w : zW} : Rv 72 5 ls st w = ldA ls 0 fun x => Rv 72 6 ls (x :: st) w := R_ldA Q72 (by decide +kernel) rfl
theorem e72_6 {ls : zL} {st : List Value} {w : zW} {a : Nat} : Rv 72 6 ls (.ref a :: st) w = gF w a 2 8 fun v => Rv 72 9 ls (v :: st) w := R_gF (z := 138) Q72 (by decide +kernel) rfl
theorem e72_9 {ls : zL} {st : List Value} {w : zW} {x y : Int32} : Rv 72 9 ls (.int y :: .int x :: st) w = Rv 72 10 ls (.int (x &&& y) :: st) w := R_next Q72 (by decide +kernel) rfl
theorem e72_10 {ls : zL} {st : List Value} {w : zW} {x : Int32} : Rv 72 10 ls (.int x :: st) w = if x = 0 then Rv 72 17 ls st w else Rv 72 13 ls st w := R_f0eq Q72 (by decide +kernel) rfl rfl
theorem e72_13 {ls : zL} {st : List Value} {w : zW} : Rv 72 13 ls st w = Rv 72 14 ls (.int 1 :: st) w := R_con Q72 (by decide +kernel) rfl (by decide)
theorem e72_14 {ls : zL} {st : List Value} {w : zW} : Rv 72 14 ls st w = Rv 72 18 ls st w := R_go Q72 (by decide +kernel) rfl rfl
theorem e72_17 {ls : zL} {st : List Value} {w : zW} : Rv 72 17 ls st w = Rv 72 18 ls (.int 0 :: st) w := R_con Q72 (by decide +kernel) rfl (by decide)
theorem e72_18 {ls : zL} {w : zW} {x : Int32} : Rv 72 18 ls [.int x] w = if x = 0 ∨ x = 1 then some (.inl (some (.int x)), w) else none := R_retZ Q72 (by decide +kernel) rfl
/-! MasterPins$Plan.doorsOpenedBy -/
theorem e73_0 {ls : zL} {st : List Value} {w : zW} : Rv 73 0 ls st w = Rv 73 1 ls (.int 0 :: st) w := R_con Q73 (by decide +kernel) rfl (by decide)
theorem e73_1 {ls : zL} {st : List Value} {w : zW} {x : Int32} : Rv 73 1 ls (.int x :: st) w = lst ls 2 (some (.int x)) fun l => Rv 73 2 l st w := R_st Q73 (by decide +kernel) rfl
theorem e73_2 {ls : zL} {st : List Value} {w : zW} : Rv 73 2 ls st w = Rv 73 3 ls (.int 0 :: st) w := R_con Q73 (by decide +kernel) rfl (by decide)
theorem e73_3 {ls : zL} {st : List Value} {w : zW} {x : Int32} : Rv 73 3 ls (.int x :: st) w = lst ls 3 (some (.int x)) fun l => Rv 73 4 l st w := R_st Q73 (by decide +kernel) rfl
theorem h73_4 {ls : zL} {st : List Value} {w : zW} : Rv 73 4 ls st w = ldI ls 3 fun x => Rv 73 5 ls (.int x :: st) w := R_ldI Q73 (by decide +kernel) rfl
theorem e73_5 {ls : zL} {st : List Value} {w : zW} : Rv 73 5 ls st w = ldA ls 0 fun x => Rv 73 6 ls (x :: st) w := R_ldA Q73 (by decide +kernel) rfl
theorem e73_6 {ls : zL} {st : List Value} {w : zW} {a : Nat} : Rv 73 6 ls (.ref a :: st) w = gF w a 2 9 fun v => Rv 73 9 ls (v :: st) w := R_gF (z := 139) Q73 (by decide +kernel) rfl
theorem e73_9 {ls : zL} {st : List Value} {w : zW} {x y : Int32} : Rv 73 9 ls (.int y :: .int x :: st) w = if x < y then Rv 73 12 ls st w else Rv 73 37 ls st w := R_fige Q73 (by decide +kernel) rfl rfl
theorem e73_12 {ls : zL} {st : List Value} {w : zW} : Rv 73 12 ls st w = ldI ls 1 fun x => Rv 73 13 ls (.int x :: st) w := R_ldI Q73 (by decide +kernel) rfl
theorem e73_13 {ls : zL} {st : List Value} {w : zW} : Rv 73 13 ls st w = ldA ls 0 fun x => Rv 73 14 ls (x :: st) w := R_ldA Q73 (by decide +kernel) rfl
theorem e73_14 {ls : zL} {st : List Value} {w : zW} {a : Nat} : Rv 73 14 ls (.ref a :: st) w = gF w a 2 11 fun v => Rv 73 17 ls (v :: st) w := R_gF (z := 143) Q73 (by decide +kernel) rfl
theorem e73_17 {ls : zL} {st : List Value} {w : zW} : Rv 73 17 ls st w = ldI ls 3 fun x => Rv 73 18 ls (.int x :: st) w := R_ldI Q73 (by decide +kernel) rfl
theorem e73_18 {ls : zL} {st : List Value} {w : zW} {a : Nat} {x : Int32} : Rv 73 18 ls (.int x :: .ref a :: st) w = gI w a 0 8 x fun v => Rv 73 19 ls (.int v :: st) w := R_iald Q73 (by decide +kernel)
theorem e73_19 {ls : zL} {w : zW} {n1 : Int32} {n2 : Int32} : Rv 73 19 ls [.int n1, .int n2] w = cal (Rv 19 0 [some (.int n2), some (.int n1)] [] w) (fun v w' => Rv 73 22 ls (vts v []) w') (xnone) := R_calS (z := 395) (kd := 1) (n := 2) Q73 (by decide +kernel) rfl (Or.inl rfl) (Nat.le_of_ble_eq_true rfl) rfl Q19 rfl rfl rfl
theorem e73_22 {ls : zL} {st : List Value} {w : zW} {x : Int32} : Rv 73 22 ls (.int x :: st) w = if x = 0 then Rv 73 31 ls st w else Rv 73 25 ls st w := R_f0eq Q73 (by decide +kernel) rfl rfl
theorem e73_25 {ls : zL} {st : List Value} {w : zW} : Rv 73 25 ls st w = ldI ls 2 fun x => Rv 73 26 ls (.int x :: st) w := R_ldI Q73 (by decide +kernel) rfl
theorem e73_26 {ls : zL} {st : List Value} {w : zW} : Rv 73 26 ls st w = Rv 73 27 ls (.int 1 :: st) w := R_con Q73 (by decide +kernel) rfl (by decide)
theorem e73_27 {ls : zL} {st : List Value} {w : zW} : Rv 73 27 ls st w = ldI ls 3 fun x => Rv 73 28 ls (.int x :: st) w := R_ldI Q73 (by decide +kernel) rfl
theorem e73_28 {ls : zL} {st : List Value} {w : zW} {x y : Int32} : Rv 73 28 ls (.int y :: .int x :: st) w = Rv 73 29 ls (.int (x <<< (y &&& 31)) :: st) w := R_next Q73 (by decide +kernel) rfl
theorem e73_29 {ls : zL} {st : List Value} {w : zW} {x y : Int32} : Rv 73 29 ls (.int y :: .int x :: st) w = Rv 73 30 ls (.int (x ||| y) :: st) w := R_next Q73 (by decide +kernel) rfl
theorem e73_30 {ls : zL} {st : List Value} {w : zW} {x : Int32} : Rv 73 30 ls (.int x :: st) w = lst ls 2 (some (.int x)) fun l => Rv 73 31 l st w := R_st Q73 (by decide +kernel) rfl
theorem e73_31 {ls : zL} {st : List Value} {w : zW} : Rv 73 31 ls st w = ldI ls 3 fun x => lst ls 3 (some (.int (x + 1))) fun l => Rv 73 34 l st w := R_iinc Q73 (by decide +kernel) (by decide)
theorem e73_34 {ls : zL} {st : List Value} {w : zW} : Rv 73 34 ls st w = Rv 73 4 ls st w := R_go Q73 (by decide +kernel) rfl rfl
theorem e73_37 {ls : zL} {st : List Value} {w : zW} : Rv 73 37 ls st w = ldI ls 2 fun x => Rv 73 38 ls (.int x :: st) w := R_ldI Q73 (by decide +kernel) rfl
theorem e73_38 {ls : zL} {w : zW} {x : Int32} : Rv 73 38 ls [.int x] w = some (.inl (some (.int x)), w) := R_retI Q73 (by decide +kernel) rfl
/-! MasterPins$Plan.doorsOfRightKey -/
theorem e74_0 {ls : zL} {st : List Value} {w : zW} : Rv 74 0 ls st w = Rv 74 1 ls (.int 0 :: st) w := R_con Q74 (by decide +kernel) rfl (by decide)
theorem e74_1 {ls : zL} {st : List Value} {w : zW} {x : Int32} : Rv 74 1 ls (.int x :: st) w = lst ls 2 (some (.int x)) fun l => Rv 74 2 l st w := R_st Q74 (by decide +kernel) rfl
theorem e74_2 {ls : zL} {st : List Value} {w : zW} : Rv 74 2 ls st w = Rv 74 3 ls (.int 0 :: st) w := R_con Q74 (by decide +kernel) rfl (by decide)
theorem e74_3 {ls : zL} {st : List Value} {w : zW} {x : Int32} : Rv 74 3 ls (.int x :: st) w = lst ls 3 (some (.int x)) fun l => Rv 74 4 l st w := R_st Q74 (by decide +kernel) rfl
theorem h74_4 {ls : zL} {st : List Value} {w : zW} : Rv 74 4 ls st w = ldI ls 3 fun x => Rv 74 5 ls (.int x :: st) w := R_ldI Q74 (by decide +kernel) rfl
theorem e74_5 {ls : zL} {st : List Value} {w : zW} : Rv 74 5 ls st w = ldA ls 0 fun x => Rv 74 6 ls (x :: st) w := R_ldA Q74 (by decide +kernel) rfl
theorem e74_6 {ls : zL} {st : List Value} {w : zW} {a : Nat} : Rv 74 6 ls (.ref a :: st) w = gF w a 2 9 fun v => Rv 74 9 ls (v :: st) w := R_gF (z := 139) Q74 (by decide +kernel) rfl
theorem e74_9 {ls : zL} {st : List Value} {w : zW} {x y : Int32} : Rv 74 9 ls (.int y :: .int x :: st) w = if x < y then Rv 74 12 ls st w else Rv 74 36 ls st w := R_fige Q74 (by decide +kernel) rfl rfl
theorem e74_12 {ls : zL} {st : List Value} {w : zW} : Rv 74 12 ls st w = ldA ls 0 fun x => Rv 74 13 ls (x :: st) w := R_ldA Q74 (by decide +kernel) rfl
theorem e74_13 {ls : zL} {st : List Value} {w : zW} : Rv 74 13 ls st w = ldI ls 3 fun x => Rv 74 14 ls (.int x :: st) w := R_ldI Q74 (by decide +kernel) rfl
theorem e74_14 {ls : zL} {w : zW} {n1 : Int32} {a0 : Nat} : Rv 74 14 ls [.int n1, .ref a0] w = hO w a0 2 (cal (Rv 69 0 [some (.ref a0), some (.int n1)] [] w) (fun v w' => Rv 74 17 ls (vts v []) w') (xnone)) := R_calV (z := 402) (r := []) Q74 (by decide +kernel) rfl rfl Q69 rfl rfl rfl
theorem e74_17 {ls : zL} {st : List Value} {w : zW} : Rv 74 17 ls st w = ldI ls 1 fun x => Rv 74 18 ls (.int x :: st) w := R_ldI Q74 (by decide +kernel) rfl
theorem e74_18 {ls : zL} {st : List Value} {w : zW} {x y : Int32} : Rv 74 18 ls (.int y :: .int x :: st) w = Rv 74 19 ls (.int (x >>> (y &&& 31)) :: st) w := R_next Q74 (by decide +kernel) rfl
theorem e74_19 {ls : zL} {st : List Value} {w : zW} : Rv 74 19 ls st w = Rv 74 20 ls (.int 1 :: st) w := R_con Q74 (by decide +kernel) rfl (by decide)
theorem e74_20 {ls : zL} {st : List Value} {w : zW} {x y : Int32} : Rv 74 20 ls (.int y :: .int x :: st) w = Rv 74 21 ls (.int (x &&& y) :: st) w := R_next Q74 (by decide +kernel) rfl
theorem e74_21 {ls : zL} {st : List Value} {w : zW} {x : Int32} : Rv 74 21 ls (.int x :: st) w = if x = 0 then Rv 74 30 ls st w else Rv 74 24 ls st w := R_f0eq Q74 (by decide +kernel) rfl rfl
theorem e74_24 {ls : zL} {st : List Value} {w : zW} : Rv 74 24 ls st w = ldI ls 2 fun x => Rv 74 25 ls (.int x :: st) w := R_ldI Q74 (by decide +kernel) rfl
theorem e74_25 {ls : zL} {st : List Value} {w : zW} : Rv 74 25 ls st w = Rv 74 26 ls (.int 1 :: st) w := R_con Q74 (by decide +kernel) rfl (by decide)
theorem e74_26 {ls : zL} {st : List Value} {w : zW} : Rv 74 26 ls st w = ldI ls 3 fun x => Rv 74 27 ls (.int x :: st) w := R_ldI Q74 (by decide +kernel) rfl
theorem e74_27 {ls : zL} {st : List Value} {w : zW} {x y : Int32} : Rv 74 27 ls (.int y :: .int x :: st) w = Rv 74 28 ls (.int (x <<< (y &&& 31)) :: st) w := R_next Q74 (by decide +kernel) rfl
theorem e74_28 {ls : zL} {st : List Value} {w : zW} {x y : Int32} : Rv 74 28 ls (.int y :: .int x :: st) w = Rv 74 29 ls (.int (x ||| y) :: st) w := R_next Q74 (by decide +kernel) rfl
theorem e74_29 {ls : zL} {st : List Value} {w : zW} {x : Int32} : Rv 74 29 ls (.int x :: st) w = lst ls 2 (some (.int x)) fun l => Rv 74 30 l st w := R_st Q74 (by decide +kernel) rfl
theorem e74_30 {ls : zL} {st : List Value} {w : zW} : Rv 74 30 ls st w = ldI ls 3 fun x => lst ls 3 (some (.int (x + 1))) fun l => Rv 74 33 l st w := R_iinc Q74 (by decide +kernel) (by decide)
theorem e74_33 {ls : zL} {st : List Value} {w : zW} : Rv 74 33 ls st w = Rv 74 4 ls st w := R_go Q74 (by decide +kernel) rfl rfl
theorem e74_36 {ls : zL} {st : List Value} {w : zW} : Rv 74 36 ls st w = ldI ls 2 fun x => Rv 74 37 ls (.int x :: st) w := R_ldI Q74 (by decide +kernel) rfl
theorem e74_37 {ls : zL} {w : zW} {x : Int32} : Rv 74 37 ls [.int x] w = some (.inl (some (.int x)), w) := R_retI Q74 (by decide +kernel) rfl
/-! MasterPins$Plan.keysBelow -/
theorem e75_0 {ls : zL} {st : List Value} {w : zW} : Rv 75 0 ls st w = Rv 75 1 ls (.int 0 :: st) w := R_con Q75 (by decide +kernel) rfl (by decide)
theorem e75_1 {ls : zL} {st : List Value} {w : zW} {x : Int32} : Rv 75 1 ls (.int x :: st) w = lst ls 2 (some (.int x)) fun l => Rv 75 2 l st w := R_st Q75 (by decide +kernel) rfl
theorem e75_2 {ls : zL} {st : List Value} {w : zW} : Rv 75 2 ls st w = Rv 75 3 ls (.int 0 :: st) w := R_con Q75 (by decide +kernel) rfl (by decide)
theorem e75_3 {ls : zL} {st : List Value} {w : zW} {x : Int32} : Rv 75 3 ls (.int x :: st) w = lst ls 3 (some (.int x)) fun l => Rv 75 4 l st w := R_st Q75 (by decide +kernel) rfl
theorem h75_4 {ls : zL} {st : List Value} {w : zW} : Rv 75 4 ls st w = ldI ls 3 fun x => Rv 75 5 ls (.int x :: st) w := R_ldI Q75 (by decide +kernel) rfl
theorem e75_5 {ls : zL} {st : List Value} {w : zW} : Rv 75 5 ls st w = ldA ls 0 fun x => Rv 75 6 ls (x :: st) w := R_ldA Q75 (by decide +kernel) rfl
theorem e75_6 {ls : zL} {st : List Value} {w : zW} {a : Nat} : Rv 75 6 ls (.ref a :: st) w = gF w a 2 3 fun v => Rv 75 9 ls (v :: st) w := R_gF (z := 132) Q75 (by decide +kernel) rfl
theorem e75_9 {ls : zL} {st : List Value} {w : zW} {x y : Int32} : Rv 75 9 ls (.int y :: .int x :: st) w = if x < y then Rv 75 12 ls st w else Rv 75 31 ls st w := R_fige Q75 (by decide +kernel) rfl rfl
theorem e75_12 {ls : zL} {st : List Value} {w : zW} : Rv 75 12 ls st w = ldI ls 2 fun x => Rv 75 13 ls (.int x :: st) w := R_ldI Q75 (by decide +kernel) rfl
theorem e75_13 {ls : zL} {st : List Value} {w : zW} : Rv 75 13 ls st w = ldA ls 0 fun x => Rv 75 14 ls (x :: st) w := R_ldA Q75 (by decide +kernel) rfl
theorem e75_14 {ls : zL} {st : List Value} {w : zW} {a : Nat} : Rv 75 14 ls (.ref a :: st) w = gF w a 2 7 fun v => Rv 75 17 ls (v :: st) w := R_gF (z := 137) Q75 (by decide +kernel) rfl
theorem e75_17 {ls : zL} {st : List Value} {w : zW} : Rv 75 17 ls st w = ldI ls 3 fun x => Rv 75 18 ls (.int x :: st) w := R_ldI Q75 (by decide +kernel) rfl
theorem e75_18 {ls : zL} {st : List Value} {w : zW} {a : Nat} {x : Int32} : Rv 75 18 ls (.int x :: .ref a :: st) w = gI w a 0 8 x fun v => Rv 75 19 ls (.int v :: st) w := R_iald Q75 (by decide +kernel)
theorem e75_19 {ls : zL} {st : List Value} {w : zW} : Rv 75 19 ls st w = ldI ls 1 fun x => Rv 75 20 ls (.int x :: st) w := R_ldI Q75 (by decide +kernel) rfl
theorem e75_20 {ls : zL} {st : List Value} {w : zW} {x y : Int32} : Rv 75 20 ls (.int y :: .int x :: st) w = Rv 75 21 ls (.int (x >>> (y &&& 31)) :: st) w := R_next Q75 (by decide +kernel) rfl
theorem e75_21 {ls : zL} {st : List Value} {w : zW} : Rv 75 21 ls st w = Rv 75 22 ls (.int 1 :: st) w := R_con Q75 (by decide +kernel) rfl (by decide)
theorem e75_22 {ls : zL} {st : List Value} {w : zW} {x y : Int32} : Rv 75 22 ls (.int y :: .int x :: st) w = Rv 75 23 ls (.int (x &&& y) :: st) w := R_next Q75 (by decide +kernel) rfl
theorem e75_23 {ls : zL} {st : List Value} {w : zW} {x y : Int32} : Rv 75 23 ls (.int y :: .int x :: st) w = Rv 75 24 ls (.int (x + y) :: st) w := R_next Q75 (by decide +kernel) rfl
theorem e75_24 {ls : zL} {st : List Value} {w : zW} {x : Int32} : Rv 75 24 ls (.int x :: st) w = lst ls 2 (some (.int x)) fun l => Rv 75 25 l st w := R_st Q75 (by decide +kernel) rfl
theorem e75_25 {ls : zL} {st : List Value} {w : zW} : Rv 75 25 ls st w = ldI ls 3 fun x => lst ls 3 (some (.int (x + 1))) fun l => Rv 75 28 l st w := R_iinc Q75 (by decide +kernel) (by decide)
theorem e75_28 {ls : zL} {st : List Value} {w : zW} : Rv 75 28 ls st w = Rv 75 4 ls st w := R_go Q75 (by decide +kernel) rfl rfl
theorem e75_31 {ls : zL} {st : List Value} {w : zW} : Rv 75 31 ls st w = ldI ls 2 fun x => Rv 75 32 ls (.int x :: st) w := R_ldI Q75 (by decide +kernel) rfl
theorem e75_32 {ls : zL} {w : zW} {x : Int32} : Rv 75 32 ls [.int x] w = some (.inl (some (.int x)), w) := R_retI Q75 (by decide +kernel) rfl
/-! MasterPins$Plan.valueOfKey -/
theorem e76_0 {ls : zL} {st : List Value} {w : zW} : Rv 76 0 ls st w = ldI ls 2 fun x => Rv 76 1 ls (.int x :: st) w := R_ldI Q76 (by decide +kernel) rfl
theorem e76_1 {ls : zL} {st : List Value} {w : zW} {x : Int32} : Rv 76 1 ls (.int x :: st) w = tsw x 0 95 (fun t => Rv 76 t ls st w) [40, 47, 54, 68, 78, 84] := R_tsw Q76 (by decide +kernel) (by decide +kernel) rfl rfl (by decide +kernel) (by decide +kernel)
theorem e76_40 {ls : zL} {st : List Value} {w : zW} : Rv 76 40 ls st w = ldA ls 0 fun x => Rv 76 41 ls (x :: st) w := R_ldA Q76 (by decide +kernel) rfl
theorem e76_41 {ls : zL} {st : List Value} {w : zW} {a : Nat} : Rv 76 41 ls (.ref a :: st) w = gF w a 2 4 fun v => Rv 76 44 ls (v :: st) w := R_gF (z := 134) Q76 (by decide +kernel) rfl
theorem e76_44 {ls : zL} {st : List Value} {w : zW} : Rv 76 44 ls st w = ldI ls 1 fun x => Rv 76 45 ls (.int x :: st) w := R_ldI Q76 (by decide +kernel) rfl
theorem e76_45 {ls : zL} {st : List Value} {w : zW} {a : Nat} {x : Int32} : Rv 76 45 ls (.int x :: .ref a :: st) w = gI w a 0 8 x fun v => Rv 76 46 ls (.int v :: st) w := R_iald Q76 (by decide +kernel)
theorem e76_46 {ls : zL} {w : zW} {x : Int32} : Rv 76 46 ls [.int x] w = some (.inl (some (.int x)), w) := R_retI Q76 (by decide +kernel) rfl
theorem e76_47 {ls : zL} {st : List Value} {w : zW} : Rv 76 47 ls st w = ldA ls 0 fun x => Rv 76 48 ls (x :: st) w := R_ldA Q76 (by decide +kernel) rfl
theorem e76_48 {ls : zL} {st : List Value} {w : zW} {a : Nat} : Rv 76 48 ls (.ref a :: st) w = gF w a 2 6 fun v => Rv 76 51 ls (v :: st) w := R_gF (z := 136) Q76 (by decide +kernel) rfl
theorem e76_51 {ls : zL} {st : List Value} {w : zW} : Rv 76 51 ls st w = ldI ls 1 fun x => Rv 76 52 ls (.int x :: st) w := R_ldI Q76 (by decide +kernel) rfl
theorem e76_52 {ls : zL} {st : List Value} {w : zW} {a : Nat} {x : Int32} : Rv 76 52 ls (.int x :: .ref a :: st) w = gI w a 0 8 x fun v => Rv 76 53 ls (.int v :: st) w := R_iald Q76 (by decide +kernel)
theorem e76_53 {ls : zL} {w : zW} {x : Int32} : Rv 76 53 ls [.int x] w = some (.inl (some (.int x)), w) := R_retI Q76 (by decide +kernel) rfl
theorem e76_54 {ls : zL} {st : List Value} {w : zW} : Rv 76 54 ls st w = ldA ls 0 fun x => Rv 76 55 ls (x :: st) w := R_ldA Q76 (by decide +kernel) rfl
theorem e76_55 {ls : zL} {st : List Value} {w : zW} : Rv 76 55 ls st w = ldI ls 1 fun x => Rv 76 56 ls (.int x :: st) w := R_ldI Q76 (by decide +kernel) rfl
theorem e76_56 {ls : zL} {w : zW} {n1 : Int32} {a0 : Nat} : Rv 76 56 ls [.int n1, .ref a0] w = hO w a0 2 (cal (Rv 34 0 [some (.ref a0), some (.int n1)] [] w) (fun v w' => Rv 76 59 ls (vts v []) w') (xnone)) := R_calV (z := 581) (r := []) Q76 (by decide +kernel) rfl rfl Q34 rfl rfl rfl
theorem e76_59 {ls : zL} {st : List Value} {w : zW} {x : Int32} : Rv 76 59 ls (.int x :: st) w = if x = 0 then Rv 76 66 ls st w else Rv 76 62 ls st w := R_f0eq Q76 (by decide +kernel) rfl rfl
theorem e76_62 {ls : zL} {st : List Value} {w : zW} : Rv 76 62 ls st w = Rv 76 63 ls (.int 1 :: st) w := R_con Q76 (by decide +kernel) rfl (by decide)
theorem e76_63 {ls : zL} {st : List Value} {w : zW} : Rv 76 63 ls st w = Rv 76 67 ls st w := R_go Q76 (by decide +kernel) rfl rfl
theorem e76_66 {ls : zL} {st : List Value} {w : zW} : Rv 76 66 ls st w = Rv 76 67 ls (.int 0 :: st) w := R_con Q76 (by decide +kernel) rfl (by decide)
theorem e76_67 {ls : zL} {w : zW} {x : Int32} : Rv 76 67 ls [.int x] w = some (.inl (some (.int x)), w) := R_retI Q76 (by decide +kernel) rfl
theorem e76_68 {ls : zL} {st : List Value} {w : zW} : Rv 76 68 ls st w = ldA ls 0 fun x => Rv 76 69 ls (x :: st) w := R_ldA Q76 (by decide +kernel) rfl
theorem e76_69 {ls : zL} {st : List Value} {w : zW} {a : Nat} : Rv 76 69 ls (.ref a :: st) w = gF w a 2 7 fun v => Rv 76 72 ls (v :: st) w := R_gF (z := 137) Q76 (by decide +kernel) rfl
theorem e76_72 {ls : zL} {st : List Value} {w : zW} : Rv 76 72 ls st w = ldI ls 1 fun x => Rv 76 73 ls (.int x :: st) w := R_ldI Q76 (by decide +kernel) rfl
theorem e76_73 {ls : zL} {st : List Value} {w : zW} {a : Nat} {x : Int32} : Rv 76 73 ls (.int x :: .ref a :: st) w = gI w a 0 8 x fun v => Rv 76 74 ls (.int v :: st) w := R_iald Q76 (by decide +kernel)
theorem e76_74 {ls : zL} {w : zW} {n1 : Int32} : Rv 76 74 ls [.int n1] w = cal (Rv 232 0 [some (.int n1)] [] w) (fun v w' => Rv 76 77 ls (vts v []) w') (xnone) := R_calS (z := 317) (kd := 1) (n := 1) Q76 (by decide +kernel) rfl (Or.inl rfl) (Nat.le_of_ble_eq_true rfl) rfl Q232 rfl rfl rfl
theorem e76_77 {ls : zL} {w : zW} {x : Int32} : Rv 76 77 ls [.int x] w = some (.inl (some (.int x)), w) := R_retI Q76 (by decide +kernel) rfl
theorem e76_78 {ls : zL} {st : List Value} {w : zW} : Rv 76 78 ls st w = ldA ls 0 fun x => Rv 76 79 ls (x :: st) w := R_ldA Q76 (by decide +kernel) rfl
theorem e76_79 {ls : zL} {st : List Value} {w : zW} : Rv 76 79 ls st w = ldI ls 1 fun x => Rv 76 80 ls (.int x :: st) w := R_ldI Q76 (by decide +kernel) rfl
theorem e76_80 {ls : zL} {w : zW} {n1 : Int32} {a0 : Nat} : Rv 76 80 ls [.int n1, .ref a0] w = hO w a0 2 (cal (Rv 75 0 [some (.ref a0), some (.int n1), none, none] [] w) (fun v w' => Rv 76 83 ls (vts v []) w') (xnone)) := R_calV (z := 691) (r := []) Q76 (by decide +kernel) rfl rfl Q75 rfl rfl rfl
theorem e76_83 {ls : zL} {w : zW} {x : Int32} : Rv 76 83 ls [.int x] w = some (.inl (some (.int x)), w) := R_retI Q76 (by decide +kernel) rfl
theorem e76_84 {ls : zL} {st : List Value} {w : zW} : Rv 76 84 ls st w = ldA ls 0 fun x => Rv 76 85 ls (x :: st) w := R_ldA Q76 (by decide +kernel) rfl
theorem e76_85 {ls : zL} {st : List Value} {w : zW} : Rv 76 85 ls st w = ldA ls 0 fun x => Rv 76 86 ls (x :: st) w := R_ldA Q76 (by decide +kernel) rfl
theorem e76_86 {ls : zL} {st : List Value} {w : zW} {a : Nat} : Rv 76 86 ls (.ref a :: st) w = gF w a 2 5 fun v => Rv 76 89 ls (v :: st) w := R_gF (z := 135) Q76 (by decide +kernel) rfl
theorem e76_89 {ls : zL} {st : List Value} {w : zW} : Rv 76 89 ls st w = ldI ls 1 fun x => Rv 76 90 ls (.int x :: st) w := R_ldI Q76 (by decide +kernel) rfl
theorem e76_90 {ls : zL} {st : List Value} {w : zW} {a : Nat} {x : Int32} : Rv 76 90 ls (.int x :: .ref a :: st) w = gI w a 0 8 x fun v => Rv 76 91 ls (.int v :: st) w := R_iald Q76 (by decide +kernel)
theorem e76_91 {ls : zL} {w : zW} {n1 : Int32} {a0 : Nat} : Rv 76 91 ls [.int n1, .ref a0] w = hO w a0 2 (cal (Rv 73 0 [some (.ref a0), some (.int n1), none, none] [] w) (fun v w' => Rv 76 94 ls (vts v []) w') (xnone)) := R_calV (z := 618) (r := []) Q76 (by decide +kernel) rfl rfl Q73 rfl rfl rfl
theorem e76_94 {ls : zL} {w : zW} {x : Int32} : Rv 76 94 ls [.int x] w = some (.inl (some (.int x)), w) := R_retI Q76 (by decide +kernel) rfl
theorem e76_95 {ls : zL} {st : List Value} {w : zW} : Rv 76 95 ls st w = ldA ls 0 fun x => Rv 76 96 ls (x :: st) w := R_ldA Q76 (by decide +kernel) rfl
theorem e76_96 {ls : zL} {st : List Value} {w : zW} : Rv 76 96 ls st w = ldI ls 1 fun x => Rv 76 97 ls (.int x :: st) w := R_ldI Q76 (by decide +kernel) rfl
theorem e76_97 {ls : zL} {w : zW} {n1 : Int32} {a0 : Nat} : Rv 76 97 ls [.int n1, .ref a0] w = hO w a0 2 (cal (Rv 74 0 [some (.ref a0), some (.int n1), none, none] [] w) (fun v w' => Rv 76 100 ls (vts v []) w') (xnone)) := R_calV (z := 695) (r := []) Q76 (by decide +kernel) rfl rfl Q74 rfl rfl rfl
theorem e76_100 {ls : zL} {w : zW} {x : Int32} : Rv 76 100 ls [.int x] w = some (.inl (some (.int x)), w) := R_retI Q76 (by decide +kernel) rfl
