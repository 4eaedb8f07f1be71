/-! MasterPins$Plan.keyAtRank -/
theorem e77_0 {ls : zL} {st : List Value} {w : zW} : Rv 77 0 ls st w = Rv 77 1 ls (.int 0 :: st) w := R_con Q77 (by decide +kernel) rfl (by decide)
theorem e77_1 {ls : zL} {st : List Value} {w : zW} {x : Int32} : Rv 77 1 ls (.int x :: st) w = lst ls 2 (some (.int x)) fun l => Rv 77 2 l st w := R_st Q77 (by decide +kernel) rfl
theorem h77_2 {ls : zL} {st : List Value} {w : zW} : Rv 77 2 ls st w = ldI ls 2 fun x => Rv 77 3 ls (.int x :: st) w := R_ldI Q77 (by decide +kernel) rfl
theorem e77_3 {ls : zL} {st : List Value} {w : zW} : Rv 77 3 ls st w = ldA ls 0 fun x => Rv 77 4 ls (x :: st) w := R_ldA Q77 (by decide +kernel) rfl
theorem e77_4 {ls : zL} {st : List Value} {w : zW} {a : Nat} : Rv 77 4 ls (.ref a :: st) w = gF w a 2 3 fun v => Rv 77 7 ls (v :: st) w := R_gF (z := 132) Q77 (by decide +kernel) rfl
theorem e77_7 {ls : zL} {st : List Value} {w : zW} {x y : Int32} : Rv 77 7 ls (.int y :: .int x :: st) w = if x < y then Rv 77 10 ls st w else Rv 77 67 ls st w := R_fige Q77 (by decide +kernel) rfl rfl
theorem e77_10 {ls : zL} {st : List Value} {w : zW} : Rv 77 10 ls st w = Rv 77 11 ls (.int 0 :: st) w := R_con Q77 (by decide +kernel) rfl (by decide)
theorem e77_11 {ls : zL} {st : List Value} {w : zW} {x : Int32} : Rv 77 11 ls (.int x :: st) w = lst ls 3 (some (.int x)) fun l => Rv 77 12 l st w := R_st Q77 (by decide +kernel) rfl
theorem e77_12 {ls : zL} {st : List Value} {w : zW} : Rv 77 12 ls st w = Rv 77 13 ls (.int 0 :: st) w := R_con Q77 (by decide +kernel) rfl (by decide)
theorem e77_13 {ls : zL} {st : List Value} {w : zW} {x : Int32} : Rv 77 13 ls (.int x :: st) w = lst ls 4 (some (.int x)) fun l => Rv 77 15 l st w := R_st Q77 (by decide +kernel) rfl
theorem h77_15 {ls : zL} {st : List Value} {w : zW} : Rv 77 15 ls st w = ldI ls 4 fun x => Rv 77 17 ls (.int x :: st) w := R_ldI Q77 (by decide +kernel) rfl
theorem e77_17 {ls : zL} {st : List Value} {w : zW} : Rv 77 17 ls st w = ldA ls 0 fun x => Rv 77 18 ls (x :: st) w := R_ldA Q77 (by decide +kernel) rfl
theorem e77_18 {ls : zL} {st : List Value} {w : zW} {a : Nat} : Rv 77 18 ls (.ref a :: st) w = gF w a 2 3 fun v => Rv 77 21 ls (v :: st) w := R_gF (z := 132) Q77 (by decide +kernel) rfl
theorem e77_21 {ls : zL} {st : List Value} {w : zW} {x y : Int32} : Rv 77 21 ls (.int y :: .int x :: st) w = if x < y then Rv 77 24 ls st w else Rv 77 54 ls st w := R_fige Q77 (by decide +kernel) rfl rfl
theorem e77_24 {ls : zL} {st : List Value} {w : zW} : Rv 77 24 ls st w = ldI ls 3 fun x => Rv 77 25 ls (.int x :: st) w := R_ldI Q77 (by decide +kernel) rfl
theorem e77_25 {ls : zL} {st : List Value} {w : zW} : Rv 77 25 ls st w = ldA ls 0 fun x => Rv 77 26 ls (x :: st) w := R_ldA Q77 (by decide +kernel) rfl
theorem e77_26 {ls : zL} {st : List Value} {w : zW} {a : Nat} : Rv 77 26 ls (.ref a :: st) w = gF w a 2 4 fun v => Rv 77 29 ls (v :: st) w := R_gF (z := 134) Q77 (by decide +kernel) rfl
theorem e77_29 {ls : zL} {st : List Value} {w : zW} : Rv 77 29 ls st w = ldI ls 4 fun x => Rv 77 31 ls (.int x :: st) w := R_ldI Q77 (by decide +kernel) rfl
theorem e77_31 {ls : zL} {st : List Value} {w : zW} {a : Nat} {x : Int32} : Rv 77 31 ls (.int x :: .ref a :: st) w = gI w a 0 8 x fun v => Rv 77 32 ls (.int v :: st) w := R_iald Q77 (by decide +kernel)
theorem e77_32 {ls : zL} {st : List Value} {w : zW} : Rv 77 32 ls st w = ldA ls 0 fun x => Rv 77 33 ls (x :: st) w := R_ldA Q77 (by decide +kernel) rfl
theorem e77_33 {ls : zL} {st : List Value} {w : zW} {a : Nat} : Rv 77 33 ls (.ref a :: st) w = gF w a 2 4 fun v => Rv 77 36 ls (v :: st) w := R_gF (z := 134) Q77 (by decide +kernel) rfl
theorem e77_36 {ls : zL} {st : List Value} {w : zW} : Rv 77 36 ls st w = ldI ls 2 fun x => Rv 77 37 ls (.int x :: st) w := R_ldI Q77 (by decide +kernel) rfl
theorem e77_37 {ls : zL} {st : List Value} {w : zW} {a : Nat} {x : Int32} : Rv 77 37 ls (.int x :: .ref a :: st) w = gI w a 0 8 x fun v => Rv 77 38 ls (.int v :: st) w := R_iald Q77 (by decide +kernel)
theorem e77_38 {ls : zL} {st : List Value} {w : zW} {x y : Int32} : Rv 77 38 ls (.int y :: .int x :: st) w = if x < y then Rv 77 41 ls st w else Rv 77 45 ls st w := R_fige Q77 (by decide +kernel) rfl rfl
theorem e77_41 {ls : zL} {st : List Value} {w : zW} : Rv 77 41 ls st w = Rv 77 42 ls (.int 1 :: st) w := R_con Q77 (by decide +kernel) rfl (by decide)
theorem e77_42 {ls : zL} {st : List Value} {w : zW} : Rv 77 42 ls st w = Rv 77 46 ls st w := R_go Q77 (by decide +kernel) rfl rfl
theorem e77_45 {ls : zL} {st : List Value} {w : zW} : Rv 77 45 ls st w = Rv 77 46 ls (.int 0 :: st) w := R_con Q77 (by decide +kernel) rfl (by decide)
theorem e77_46 {ls : zL} {st : List Value} {w : zW} {x y : Int32} : Rv 77 46 ls (.int y :: .int x :: st) w = Rv 77 47 ls (.int (x + y) :: st) w := R_next Q77 (by decide +kernel) rfl
theorem e77_47 {ls : zL} {st : List Value} {w : zW} {x : Int32} : Rv 77 47 ls (.int x :: st) w = lst ls 3 (some (.int x)) fun l => Rv 77 48 l st w := R_st Q77 (by decide +kernel) rfl
theorem e77_48 {ls : zL} {st : List Value} {w : zW} : Rv 77 48 ls st w = ldI ls 4 fun x => lst ls 4 (some (.int (x + 1))) fun l => Rv 77 51 l st w := R_iinc Q77 (by decide +kernel) (by decide)
theorem e77_51 {ls : zL} {st : List Value} {w : zW} : Rv 77 51 ls st w = Rv 77 15 ls st w := R_go Q77 (by decide +kernel) rfl rfl
theorem e77_54 {ls : zL} {st : List Value} {w : zW} : Rv 77 54 ls st w = ldI ls 3 fun x => Rv 77 55 ls (.int x :: st) w := R_ldI Q77 (by decide +kernel) rfl
theorem e77_55 {ls : zL} {st : List Value} {w : zW} : Rv 77 55 ls st w = ldI ls 1 fun x => Rv 77 56 ls (.int x :: st) w := R_ldI Q77 (by decide +kernel) rfl
theorem e77_56 {ls : zL} {st : List Value} {w : zW} {x y : Int32} : Rv 77 56 ls (.int y :: .int x :: st) w = if x = y then Rv 77 59 ls st w else Rv 77 61 ls st w := R_fine Q77 (by decide +kernel) rfl rfl
theorem e77_59 {ls : zL} {st : List Value} {w : zW} : Rv 77 59 ls st w = ldI ls 2 fun x => Rv 77 60 ls (.int x :: st) w := R_ldI Q77 (by decide +kernel) rfl
theorem e77_60 {ls : zL} {w : zW} {x : Int32} : Rv 77 60 ls [.int x] w = some (.inl (some (.int x)), w) := R_retI Q77 (by decide +kernel) rfl
theorem e77_61 {ls : zL} {st : List Value} {w : zW} : Rv 77 61 ls st w = ldI ls 2 fun x => lst ls 2 (some (.int (x + 1))) fun l => Rv 77 64 l st w := R_iinc Q77 (by decide +kernel) (by decide)
theorem e77_64 {ls : zL} {st : List Value} {w : zW} : Rv 77 64 ls st w = Rv 77 2 ls st w := R_go Q77 (by decide +kernel) rfl rfl
theorem e77_67 {ls : zL} {st : List Value} {w : zW} : Rv 77 67 ls st w = Rv 77 68 ls (.int (-1) :: st) w := R_con Q77 (by decide +kernel) rfl (by decide)
theorem e77_68 {ls : zL} {w : zW} {x : Int32} : Rv 77 68 ls [.int x] w = some (.inl (some (.int x)), w) := R_retI Q77 (by decide +kernel) rfl
/-! MasterPins$Plan.pinsWhenFitted -/
theorem e78_0 {ls : zL} {st : List Value} {w : zW} : Rv 78 0 ls st w = ldA ls 0 fun x => Rv 78 1 ls (x :: st) w := R_ldA Q78 (by decide +kernel) rfl
theorem e78_1 {ls : zL} {st : List Value} {w : zW} : Rv 78 1 ls st w = ldI ls 1 fun x => Rv 78 2 ls (.int x :: st) w := R_ldI Q78 (by decide +kernel) rfl
theorem e78_2 {ls : zL} {w : zW} {n1 : Int32} {a0 : Nat} : Rv 78 2 ls [.int n1, .ref a0] w = hO w a0 2 (cal (Rv 68 0 [some (.ref a0), some (.int n1)] [] w) (fun v w' => Rv 78 5 ls (vts v []) w') (xnone)) := R_calV (z := 313) (r := []) Q78 (by decide +kernel) rfl rfl Q68 rfl rfl rfl
theorem e78_5 {ls : zL} {st : List Value} {w : zW} : Rv 78 5 ls st w = ldI ls 2 fun x => Rv 78 6 ls (.int x :: st) w := R_ldI Q78 (by decide +kernel) rfl
theorem e78_6 {ls : zL} {st : List Value} {w : zW} : Rv 78 6 ls st w = Rv 78 7 ls (.int (-1) :: st) w := R_con Q78 (by decide +kernel) rfl (by decide)
theorem e78_7 {ls : zL} {st : List Value} {w : zW} {x y : Int32} : Rv 78 7 ls (.int y :: .int x :: st) w = Rv 78 8 ls (.int (x ^^^ y) :: st) w := R_next Q78 (by decide +kernel) rfl
theorem e78_8 {ls : zL} {st : List Value} {w : zW} {x y : Int32} : Rv 78 8 ls (.int y :: .int x :: st) w = Rv 78 9 ls (.int (x &&& y) :: st) w := R_next Q78 (by decide +kernel) rfl
theorem e78_9 {ls : zL} {st : List Value} {w : zW} {x : Int32} : Rv 78 9 ls (.int x :: st) w = lst ls 5 (some (.int x)) fun l => Rv 78 11 l st w := R_st Q78 (by decide +kernel) rfl
theorem e78_11 {ls : zL} {st : List Value} {w : zW} : Rv 78 11 ls st w = Rv 78 12 ls (.int 0 :: st) w := R_con Q78 (by decide +kernel) rfl (by decide)
theorem e78_12 {ls : zL} {st : List Value} {w : zW} {x : Int32} : Rv 78 12 ls (.int x :: st) w = lst ls 6 (some (.int x)) fun l => Rv 78 14 l st w := R_st Q78 (by decide +kernel) rfl
theorem e78_14 {ls : zL} {st : List Value} {w : zW} : Rv 78 14 ls st w = Rv 78 15 ls (.int 0 :: st) w := R_con Q78 (by decide +kernel) rfl (by decide)
theorem e78_15 {ls : zL} {st : List Value} {w : zW} {x : Int32} : Rv 78 15 ls (.int x :: st) w = lst ls 7 (some (.int x)) fun l => Rv 78 17 l st w := R_st Q78 (by decide +kernel) rfl
theorem h78_17 {ls : zL} {st : List Value} {w : zW} : Rv 78 17 ls st w = ldI ls 7 fun x => Rv 78 19 ls (.int x :: st) w := R_ldI Q78 (by decide +kernel) rfl
theorem e78_19 {ls : zL} {st : List Value} {w : zW} : Rv 78 19 ls st w = ldA ls 0 fun x => Rv 78 20 ls (x :: st) w := R_ldA Q78 (by decide +kernel) rfl
theorem e78_20 {ls : zL} {st : List Value} {w : zW} {a : Nat} : Rv 78 20 ls (.ref a :: st) w = gF w a 2 3 fun v => Rv 78 23 ls (v :: st) w := R_gF (z := 132) Q78 (by decide +kernel) rfl
theorem e78_23 {ls : zL} {st : List Value} {w : zW} {x y : Int32} : Rv 78 23 ls (.int y :: .int x :: st) w = if x < y then Rv 78 26 ls st w else Rv 78 65 ls st w := R_fige Q78 (by decide +kernel) rfl rfl
theorem e78_26 {ls : zL} {st : List Value} {w : zW} : Rv 78 26 ls st w = ldI ls 5 fun x => Rv 78 28 ls (.int x :: st) w := R_ldI Q78 (by decide +kernel) rfl
theorem e78_28 {ls : zL} {st : List Value} {w : zW} : Rv 78 28 ls st w = ldI ls 7 fun x => Rv 78 30 ls (.int x :: st) w := R_ldI Q78 (by decide +kernel) rfl
theorem e78_30 {ls : zL} {st : List Value} {w : zW} {x y : Int32} : Rv 78 30 ls (.int y :: .int x :: st) w = Rv 78 31 ls (.int (x >>> (y &&& 31)) :: st) w := R_next Q78 (by decide +kernel) rfl
theorem e78_31 {ls : zL} {st : List Value} {w : zW} : Rv 78 31 ls st w = Rv 78 32 ls (.int 1 :: st) w := R_con Q78 (by decide +kernel) rfl (by decide)
theorem e78_32 {ls : zL} {st : List Value} {w : zW} {x y : Int32} : Rv 78 32 ls (.int y :: .int x :: st) w = Rv 78 33 ls (.int (x &&& y) :: st) w := R_next Q78 (by decide +kernel) rfl
theorem e78_33 {ls : zL} {st : List Value} {w : zW} {x : Int32} : Rv 78 33 ls (.int x :: st) w = if x = 0 then Rv 78 59 ls st w else Rv 78 36 ls st w := R_f0eq Q78 (by decide +kernel) rfl rfl
theorem e78_36 {ls : zL} {st : List Value} {w : zW} : Rv 78 36 ls st w = ldI ls 6 fun x => Rv 78 38 ls (.int x :: st) w := R_ldI Q78 (by decide +kernel) rfl
theorem e78_38 {ls : zL} {st : List Value} {w : zW} : Rv 78 38 ls st w = ldI ls 7 fun x => Rv 78 40 ls (.int x :: st) w := R_ldI Q78 (by decide +kernel) rfl
theorem e78_40 {ls : zL} {st : List Value} {w : zW} : Rv 78 40 ls st w = ldI ls 3 fun x => Rv 78 41 ls (.int x :: st) w := R_ldI Q78 (by decide +kernel) rfl
theorem e78_41 {ls : zL} {st : List Value} {w : zW} {x y : Int32} : Rv 78 41 ls (.int y :: .int x :: st) w = if x = y then Rv 78 44 ls st w else Rv 78 49 ls st w := R_fine Q78 (by decide +kernel) rfl rfl
theorem e78_44 {ls : zL} {st : List Value} {w : zW} : Rv 78 44 ls st w = ldI ls 4 fun x => Rv 78 46 ls (.int x :: st) w := R_ldI Q78 (by decide +kernel) rfl
theorem e78_46 {ls : zL} {st : List Value} {w : zW} : Rv 78 46 ls st w = Rv 78 56 ls st w := R_go Q78 (by decide +kernel) rfl rfl
theorem e78_49 {ls : zL} {st : List Value} {w : zW} : Rv 78 49 ls st w = ldA ls 0 fun x => Rv 78 50 ls (x :: st) w := R_ldA Q78 (by decide +kernel) rfl
theorem e78_50 {ls : zL} {st : List Value} {w : zW} {a : Nat} : Rv 78 50 ls (.ref a :: st) w = gF w a 2 5 fun v => Rv 78 53 ls (v :: st) w := R_gF (z := 135) Q78 (by decide +kernel) rfl
theorem e78_53 {ls : zL} {st : List Value} {w : zW} : Rv 78 53 ls st w = ldI ls 7 fun x => Rv 78 55 ls (.int x :: st) w := R_ldI Q78 (by decide +kernel) rfl
theorem e78_55 {ls : zL} {st : List Value} {w : zW} {a : Nat} {x : Int32} : Rv 78 55 ls (.int x :: .ref a :: st) w = gI w a 0 8 x fun v => Rv 78 56 ls (.int v :: st) w := R_iald Q78 (by decide +kernel)
theorem e78_56 {ls : zL} {st : List Value} {w : zW} {x y : Int32} : Rv 78 56 ls (.int y :: .int x :: st) w = Rv 78 57 ls (.int (x ||| y) :: st) w := R_next Q78 (by decide +kernel) rfl
theorem e78_57 {ls : zL} {st : List Value} {w : zW} {x : Int32} : Rv 78 57 ls (.int x :: st) w = lst ls 6 (some (.int x)) fun l => Rv 78 59 l st w := R_st Q78 (by decide +kernel) rfl
theorem e78_59 {ls : zL} {st : List Value} {w : zW} : Rv 78 59 ls st w = ldI ls 7 fun x => lst ls 7 (some (.int (x + 1))) fun l => Rv 78 62 l st w := R_iinc Q78 (by decide +kernel) (by decide)
theorem e78_62 {ls : zL} {st : List Value} {w : zW} : Rv 78 62 ls st w = Rv 78 17 ls st w := R_go Q78 (by decide +kernel) rfl rfl
theorem e78_65 {ls : zL} {st : List Value} {w : zW} : Rv 78 65 ls st w = ldI ls 6 fun x => Rv 78 67 ls (.int x :: st) w := R_ldI Q78 (by decide +kernel) rfl
theorem e78_67 {ls : zL} {w : zW} {x : Int32} : Rv 78 67 ls [.int x] w = some (.inl (some (.int x)), w) := R_retI Q78 (by decide +kernel) rfl
/-! MasterPins$Plan.changesOf -/
theorem e79_0 {ls : zL} {st : List Value} {w : zW} : Rv 79 0 ls st w = ldA ls 0 fun x => Rv 79 1 ls (x :: st) w := R_ldA Q79 (by decide +kernel) rfl
theorem e79_1 {ls : zL} {st : List Value} {w : zW} {a : Nat} : Rv 79 1 ls (.ref a :: st) w = gF w a 2 11 fun v => Rv 79 4 ls (v :: st) w := R_gF (z := 143) Q79 (by decide +kernel) rfl
theorem e79_4 {ls : zL} {st : List Value} {w : zW} : Rv 79 4 ls st w = ldI ls 1 fun x => Rv 79 5 ls (.int x :: st) w := R_ldI Q79 (by decide +kernel) rfl
theorem e79_5 {ls : zL} {st : List Value} {w : zW} {a : Nat} {x : Int32} : Rv 79 5 ls (.int x :: .ref a :: st) w = gI w a 0 8 x fun v => Rv 79 6 ls (.int v :: st) w := R_iald Q79 (by decide +kernel)
theorem e79_6 {ls : zL} {st : List Value} {w : zW} : Rv 79 6 ls st w = ldA ls 0 fun x => Rv 79 7 ls (x :: st) w := R_ldA Q79 (by decide +kernel) rfl
theorem e79_7 {ls : zL} {st : List Value} {w : zW} : Rv 79 7 ls st w = ldI ls 1 fun x => Rv 79 8 ls (.int x :: st) w := R_ldI Q79 (by decide +kernel) rfl
theorem e79_8 {ls : zL} {st : List Value} {w : zW} : Rv 79 8 ls st w = ldA ls 0 fun x => Rv 79 9 ls (x :: st) w := R_ldA Q79 (by decide +kernel) rfl
theorem e79_9 {ls : zL} {st : List Value} {w : zW} {a : Nat} : Rv 79 9 ls (.ref a :: st) w = gF w a 2 8 fun v => Rv 79 12 ls (v :: st) w := R_gF (z := 138) Q79 (by decide +kernel) rfl
theorem e79_12 {ls : zL} {st : List Value} {w : zW} : Rv 79 12 ls st w = Rv 79 13 ls (.int (-1) :: st) w := R_con Q79 (by decide +kernel) rfl (by decide)
theorem e79_13 {ls : zL} {st : List Value} {w : zW} : Rv 79 13 ls st w = Rv 79 14 ls (.int 0 :: st) w := R_con Q79 (by decide +kernel) rfl (by decide)
theorem e79_14 {ls : zL} {w : zW} {n1 : Int32} {n2 : Int32} {n3 : Int32} {n4 : Int32} {a0 : Nat} {n5 : Int32} : Rv 79 14 ls [.int n1, .int n2, .int n3, .int n4, .ref a0, .int n5] w = hO w a0 2 (cal (Rv 78 0 [some (.ref a0), some (.int n4), some (.int n3), some (.int n2), some (.int n1), none, none, none] [] w) (fun v w' => Rv 79 17 ls (vts v [.int n5]) w') (xnone)) := R_calV (z := 309) (r := [.int n5]) Q79 (by decide +kernel) rfl rfl Q78 rfl rfl rfl
theorem e79_17 {ls : zL} {st : List Value} {w : zW} {x y : Int32} : Rv 79 17 ls (.int y :: .int x :: st) w = Rv 79 18 ls (.int (x ^^^ y) :: st) w := R_next Q79 (by decide +kernel) rfl
theorem e79_18 {ls : zL} {w : zW} {n1 : Int32} : Rv 79 18 ls [.int n1] w = cal (Rv 232 0 [some (.int n1)] [] w) (fun v w' => Rv 79 21 ls (vts v []) w') (xnone) := R_calS (z := 317) (kd := 1) (n := 1) Q79 (by decide +kernel) rfl (Or.inl rfl) (Nat.le_of_ble_eq_true rfl) rfl Q232 rfl rfl rfl
theorem e79_21 {ls : zL} {w : zW} {x : Int32} : Rv 79 21 ls [.int x] w = some (.inl (some (.int x)), w) := R_retI Q79 (by decide +kernel) rfl
/-! MasterPins$Plan.changesIf -/
theorem e80_0 {ls : zL} {st : List Value} {w : zW} : Rv 80 0 ls st w = Rv 80 1 ls (.int 0 :: st) w := R_con Q80 (by decide +kernel) rfl (by decide)
theorem e80_1 {ls : zL} {st : List Value} {w : zW} {x : Int32} : Rv 80 1 ls (.int x :: st) w = lst ls 4 (some (.int x)) fun l => Rv 80 3 l st w := R_st Q80 (by decide +kernel) rfl
theorem e80_3 {ls : zL} {st : List Value} {w : zW} : Rv 80 3 ls st w = Rv 80 4 ls (.int 0 :: st) w := R_con Q80 (by decide +kernel) rfl (by decide)
theorem e80_4 {ls : zL} {st : List Value} {w : zW} {x : Int32} : Rv 80 4 ls (.int x :: st) w = lst ls 5 (some (.int x)) fun l => Rv 80 6 l st w := R_st Q80 (by decide +kernel) rfl
theorem h80_6 {ls : zL} {st : List Value} {w : zW} : Rv 80 6 ls st w = ldI ls 5 fun x => Rv 80 8 ls (.int x :: st) w := R_ldI Q80 (by decide +kernel) rfl
theorem e80_8 {ls : zL} {st : List Value} {w : zW} : Rv 80 8 ls st w = ldA ls 0 fun x => Rv 80 9 ls (x :: st) w := R_ldA Q80 (by decide +kernel) rfl
theorem e80_9 {ls : zL} {st : List Value} {w : zW} {a : Nat} : Rv 80 9 ls (.ref a :: st) w = gF w a 2 9 fun v => Rv 80 12 ls (v :: st) w := R_gF (z := 139) Q80 (by decide +kernel) rfl
theorem e80_12 {ls : zL} {st : List Value} {w : zW} {x y : Int32} : Rv 80 12 ls (.int y :: .int x :: st) w = if x < y then Rv 80 15 ls st w else Rv 80 50 ls st w := R_fige Q80 (by decide +kernel) rfl rfl
theorem e80_15 {ls : zL} {st : List Value} {w : zW} : Rv 80 15 ls st w = ldA ls 0 fun x => Rv 80 16 ls (x :: st) w := R_ldA Q80 (by decide +kernel) rfl
theorem e80_16 {ls : zL} {st : List Value} {w : zW} : Rv 80 16 ls st w = ldI ls 5 fun x => Rv 80 18 ls (.int x :: st) w := R_ldI Q80 (by decide +kernel) rfl
theorem e80_18 {ls : zL} {st : List Value} {w : zW} : Rv 80 18 ls st w = ldI ls 1 fun x => Rv 80 19 ls (.int x :: st) w := R_ldI Q80 (by decide +kernel) rfl
theorem e80_19 {ls : zL} {st : List Value} {w : zW} : Rv 80 19 ls st w = ldI ls 2 fun x => Rv 80 20 ls (.int x :: st) w := R_ldI Q80 (by decide +kernel) rfl
theorem e80_20 {ls : zL} {st : List Value} {w : zW} : Rv 80 20 ls st w = ldI ls 3 fun x => Rv 80 21 ls (.int x :: st) w := R_ldI Q80 (by decide +kernel) rfl
theorem e80_21 {ls : zL} {w : zW} {n1 : Int32} {n2 : Int32} {n3 : Int32} {n4 : Int32} {a0 : Nat} : Rv 80 21 ls [.int n1, .int n2, .int n3, .int n4, .ref a0] w = hO w a0 2 (cal (Rv 78 0 [some (.ref a0), some (.int n4), some (.int n3), some (.int n2), some (.int n1), none, none, none] [] w) (fun v w' => Rv 80 24 ls (vts v []) w') (xnone)) := R_calV (z := 309) (r := []) Q80 (by decide +kernel) rfl rfl Q78 rfl rfl rfl
theorem e80_24 {ls : zL} {st : List Value} {w : zW} {x : Int32} : Rv 80 24 ls (.int x :: st) w = lst ls 6 (some (.int x)) fun l => Rv 80 26 l st w := R_st Q80 (by decide +kernel) rfl
theorem e80_26 {ls : zL} {st : List Value} {w : zW} : Rv 80 26 ls st w = ldI ls 4 fun x => Rv 80 28 ls (.int x :: st) w := R_ldI Q80 (by decide +kernel) rfl
theorem e80_28 {ls : zL} {st : List Value} {w : zW} : Rv 80 28 ls st w = ldA ls 0 fun x => Rv 80 29 ls (x :: st) w := R_ldA Q80 (by decide +kernel) rfl
theorem e80_29 {ls : zL} {st : List Value} {w : zW} {a : Nat} : Rv 80 29 ls (.ref a :: st) w = gF w a 2 11 fun v => Rv 80 32 ls (v :: st) w := R_gF (z := 143) Q80 (by decide +kernel) rfl
theorem e80_32 {ls : zL} {st : List Value} {w : zW} : Rv 80 32 ls st w = ldI ls 5 fun x => Rv 80 34 ls (.int x :: st) w := R_ldI Q80 (by decide +kernel) rfl
theorem e80_34 {ls : zL} {st : List Value} {w : zW} {a : Nat} {x : Int32} : Rv 80 34 ls (.int x :: .ref a :: st) w = gI w a 0 8 x fun v => Rv 80 35 ls (.int v :: st) w := R_iald Q80 (by decide +kernel)
theorem e80_35 {ls : zL} {st : List Value} {w : zW} : Rv 80 35 ls st w = ldI ls 6 fun x => Rv 80 37 ls (.int x :: st) w := R_ldI Q80 (by decide +kernel) rfl
theorem e80_37 {ls : zL} {st : List Value} {w : zW} {x y : Int32} : Rv 80 37 ls (.int y :: .int x :: st) w = Rv 80 38 ls (.int (x ^^^ y) :: st) w := R_next Q80 (by decide +kernel) rfl
theorem e80_38 {ls : zL} {w : zW} {n1 : Int32} {n2 : Int32} : Rv 80 38 ls [.int n1, .int n2] w = cal (Rv 232 0 [some (.int n1)] [] w) (fun v w' => Rv 80 41 ls (vts v [.int n2]) w') (xnone) := R_calS (z := 317) (kd := 1) (n := 1) Q80 (by decide +kernel) rfl (Or.inl rfl) (Nat.le_of_ble_eq_true rfl) rfl Q232 rfl rfl rfl
theorem e80_41 {ls : zL} {st : List Value} {w : zW} {x y : Int32} : Rv 80 41 ls (.int y :: .int x :: st) w = Rv 80 42 ls (.int (x + y) :: st) w := R_next Q80 (by decide +kernel) rfl
theorem e80_42 {ls : zL} {st : List Value} {w : zW} {x : Int32} : Rv 80 42 ls (.int x :: st) w = lst ls 4 (some (.int x)) fun l => Rv 80 44 l st w := R_st Q80 (by decide +kernel) rfl
theorem e80_44 {ls : zL} {st : List Value} {w : zW} : Rv 80 44 ls st w = ldI ls 5 fun x => lst ls 5 (some (.int (x + 1))) fun l => Rv 80 47 l st w := R_iinc Q80 (by decide +kernel) (by decide)
theorem e80_47 {ls : zL} {st : List Value} {w : zW} : Rv 80 47 ls st w = Rv 80 6 ls st w := R_go Q80 (by decide +kernel) rfl rfl
theorem e80_50 {ls : zL} {st : List Value} {w : zW} : Rv 80 50 ls st w = ldI ls 4 fun x => Rv 80 52 ls (.int x :: st) w := R_ldI Q80 (by decide +kernel) rfl
theorem e80_52 {ls : zL} {w : zW} {x : Int32} : Rv 80 52 ls [.int x] w = some (.inl (some (.int x)), w) := R_retI Q80 (by decide +kernel) rfl
/-! MasterPins$Plan.changesIfTurned -/
theorem e81_0 {ls : zL} {st : List Value} {w : zW} : Rv 81 0 ls st w = ldA ls 0 fun x => Rv 81 1 ls (x :: st) w := R_ldA Q81 (by decide +kernel) rfl
theorem e81_1 {ls : zL} {st : List Value} {w : zW} : Rv 81 1 ls st w = ldA ls 0 fun x => Rv 81 2 ls (x :: st) w := R_ldA Q81 (by decide +kernel) rfl
theorem e81_2 {ls : zL} {st : List Value} {w : zW} {a : Nat} : Rv 81 2 ls (.ref a :: st) w = gF w a 2 8 fun v => Rv 81 5 ls (v :: st) w := R_gF (z := 138) Q81 (by decide +kernel) rfl
theorem e81_5 {ls : zL} {st : List Value} {w : zW} : Rv 81 5 ls st w = Rv 81 6 ls (.int 1 :: st) w := R_con Q81 (by decide +kernel) rfl (by decide)
theorem e81_6 {ls : zL} {st : List Value} {w : zW} : Rv 81 6 ls st w = ldI ls 1 fun x => Rv 81 7 ls (.int x :: st) w := R_ldI Q81 (by decide +kernel) rfl
theorem e81_7 {ls : zL} {st : List Value} {w : zW} {x y : Int32} : Rv 81 7 ls (.int y :: .int x :: st) w = Rv 81 8 ls (.int (x <<< (y &&& 31)) :: st) w := R_next Q81 (by decide +kernel) rfl
theorem e81_8 {ls : zL} {st : List Value} {w : zW} {x y : Int32} : Rv 81 8 ls (.int y :: .int x :: st) w = Rv 81 9 ls (.int (x ^^^ y) :: st) w := R_next Q81 (by decide +kernel) rfl
theorem e81_9 {ls : zL} {st : List Value} {w : zW} : Rv 81 9 ls st w = Rv 81 10 ls (.int (-1) :: st) w := R_con Q81 (by decide +kernel) rfl (by decide)
theorem e81_10 {ls : zL} {st : List Value} {w : zW} : Rv 81 10 ls st w = Rv 81 11 ls (.int 0 :: st) w := R_con Q81 (by decide +kernel) rfl (by decide)
theorem e81_11 {ls : zL} {w : zW} {n1 : Int32} {n2 : Int32} {n3 : Int32} {a0 : Nat} : Rv 81 11 ls [.int n1, .int n2, .int n3, .ref a0] w = hO w a0 2 (cal (Rv 80 0 [some (.ref a0), some (.int n3), some (.int n2), some (.int n1), none, none, none] [] w) (fun v w' => Rv 81 14 ls (vts v []) w') (xnone)) := R_calV (z := 1018) (r := []) Q81 (by decide +kernel) rfl rfl Q80 rfl rfl rfl
theorem e81_14 {ls : zL} {w : zW} {x : Int32} : Rv 81 14 ls [.int x] w = some (.inl (some (.int x)), w) := R_retI Q81 (by decide +kernel) rfl
/-! MasterPins$Plan.changesIfCut -/
theorem e82_0 {ls : zL} {st : List Value} {w : zW} : Rv 82 0 ls st w = ldA ls 0 fun x => Rv 82 1 ls (x :: st) w := R_ldA Q82 (by decide +kernel) rfl
theorem e82_1 {ls : zL} {st : List Value} {w : zW} : Rv 82 1 ls st w = ldI ls 1 fun x => Rv 82 2 ls (.int x :: st) w := R_ldI Q82 (by decide +kernel) rfl
theorem e82_2 {ls : zL} {st : List Value} {w : zW} : Rv 82 2 ls st w = ldI ls 2 fun x => Rv 82 3 ls (.int x :: st) w := R_ldI Q82 (by decide +kernel) rfl
theorem e82_3 {ls : zL} {w : zW} {n1 : Int32} {n2 : Int32} {a0 : Nat} : Rv 82 3 ls [.int n1, .int n2, .ref a0] w = hO w a0 2 (cal (Rv 61 0 [some (.ref a0), some (.int n2), some (.int n1), none] [] w) (fun v w' => Rv 82 6 ls (vts v []) w') (xnone)) := R_calV (z := 555) (r := []) Q82 (by decide +kernel) rfl rfl Q61 rfl rfl rfl
theorem e82_6 {ls : zL} {st : List Value} {w : zW} {x : Int32} : Rv 82 6 ls (.int x :: st) w = if x = 0 then Rv 82 11 ls st w else Rv 82 9 ls st w := R_f0eq Q82 (by decide +kernel) rfl rfl
theorem e82_9 {ls : zL} {st : List Value} {w : zW} : Rv 82 9 ls st w = Rv 82 10 ls (.int (-1) :: st) w := R_con Q82 (by decide +kernel) rfl (by decide)
theorem e82_10 {ls : zL} {w : zW} {x : Int32} : Rv 82 10 ls [.int x] w = some (.inl (some (.int x)), w) := R_retI Q82 (by decide +kernel) rfl
theorem e82_11 {ls : zL} {st : List Value} {w : zW} : Rv 82 11 ls st w = ldA ls 0 fun x => Rv 82 12 ls (x :: st) w := R_ldA Q82 (by decide +kernel) rfl
theorem e82_12 {ls : zL} {st : List Value} {w : zW} : Rv 82 12 ls st w = ldA ls 0 fun x => Rv 82 13 ls (x :: st) w := R_ldA Q82 (by decide +kernel) rfl
theorem e82_13 {ls : zL} {st : List Value} {w : zW} {a : Nat} : Rv 82 13 ls (.ref a :: st) w = gF w a 2 8 fun v => Rv 82 16 ls (v :: st) w := R_gF (z := 138) Q82 (by decide +kernel) rfl
theorem e82_16 {ls : zL} {st : List Value} {w : zW} : Rv 82 16 ls st w = ldI ls 1 fun x => Rv 82 17 ls (.int x :: st) w := R_ldI Q82 (by decide +kernel) rfl
theorem e82_17 {ls : zL} {st : List Value} {w : zW} : Rv 82 17 ls st w = ldI ls 2 fun x => Rv 82 18 ls (.int x :: st) w := R_ldI Q82 (by decide +kernel) rfl
theorem e82_18 {ls : zL} {st : List Value} {w : zW} : Rv 82 18 ls st w = ldA ls 0 fun x => Rv 82 19 ls (x :: st) w := R_ldA Q82 (by decide +kernel) rfl
theorem e82_19 {ls : zL} {st : List Value} {w : zW} {a : Nat} : Rv 82 19 ls (.ref a :: st) w = gF w a 2 0 fun v => Rv 82 22 ls (v :: st) w := R_gF (z := 124) Q82 (by decide +kernel) rfl
theorem e82_22 {ls : zL} {w : zW} {n1 : Int32} {n2 : Int32} {n3 : Int32} {n4 : Int32} {a5 : Nat} : Rv 82 22 ls [.int n1, .int n2, .int n3, .int n4, .ref a5] w = cal (Rv 16 0 [some (.int n2), some (.int n1), none, none, none] [] w) (fun v w' => Rv 82 25 ls (vts v [.int n3, .int n4, .ref a5]) w') (xnone) := R_calS (z := 351) (kd := 1) (n := 2) Q82 (by decide +kernel) rfl (Or.inl rfl) (Nat.le_of_ble_eq_true rfl) rfl Q16 rfl rfl rfl
theorem e82_25 {ls : zL} {w : zW} {n1 : Int32} {n2 : Int32} {n3 : Int32} {a0 : Nat} : Rv 82 25 ls [.int n1, .int n2, .int n3, .ref a0] w = hO w a0 2 (cal (Rv 80 0 [some (.ref a0), some (.int n3), some (.int n2), some (.int n1), none, none, none] [] w) (fun v w' => Rv 82 28 ls (vts v []) w') (xnone)) := R_calV (z := 1018) (r := []) Q82 (by decide +kernel) rfl rfl Q80 rfl rfl rfl
theorem e82_28 {ls : zL} {w : zW} {x : Int32} : Rv 82 28 ls [.int x] w = some (.inl (some (.int x)), w) := R_retI Q82 (by decide +kernel) rfl
/-! MasterPins$Survey.<init> -/
theorem e83_0 {ls : zL} {st : List Value} {w : zW} : Rv 83 0 ls st w = ldA ls 0 fun x => Rv 83 1 ls (x :: st) w := R_ldA Q83 (by decide +kernel) rfl
theorem e83_1 {ls : zL} {w : zW}  {a : Nat} : Rv 83 1 ls [.ref a] w = Rv 83 4 ls [] w := R_obj (z := (0, 0, 175)) Q83 (by decide +kernel) rfl ⟨Nat.le_of_ble_eq_true rfl, Nat.le_of_ble_eq_true rfl, Nat.le_of_ble_eq_true rfl⟩
theorem e83_4 {ls : zL} {st : List Value} {w : zW} : Rv 83 4 ls st w = ldA ls 0 fun x => Rv 83 5 ls (x :: st) w := R_ldA Q83 (by decide +kernel) rfl
theorem e83_5 {ls : zL} {st : List Value} {w : zW} : Rv 83 5 ls st w = ldA ls 1 fun x => Rv 83 6 ls (x :: st) w := R_ldA Q83 (by decide +kernel) rfl
theorem e83_6 {ls : zL} {st : List Value} {w : zW} {x : Nat} {a : Nat} : Rv 83 6 ls (.ref x :: .ref a :: st) w = pF w a 3 0 (.ref x) fun w' => Rv 83 9 ls st w' := R_pF (z := 205) Q83 (by decide +kernel) rfl ⟨by decide, rfl, Or.inr ⟨rfl, rfl⟩⟩
theorem e83_6n {ls : zL} {st : List Value} {w : zW}  {a : Nat} : Rv 83 6 ls (.null :: .ref a :: st) w = pF w a 3 0 (.null) fun w' => Rv 83 9 ls st w' := R_pF (z := 205) Q83 (by decide +kernel) rfl ⟨by decide, rfl, Or.inr ⟨rfl, rfl⟩⟩
theorem e83_9 {ls : zL} {st : List Value} {w : zW} : Rv 83 9 ls st w = ldA ls 0 fun x => Rv 83 10 ls (x :: st) w := R_ldA Q83 (by decide +kernel) rfl
theorem e83_10 {ls : zL} {st : List Value} {w : zW} : Rv 83 10 ls st w = nw w 7 (.inr (1, [.null, .null, .int 0, .int 0, .int 0, .int 0, .int 0])) fun a w' => Rv 83 13 ls (.ref a :: st) w' := R_new (z := 176) Q83 (by decide +kernel) rfl rfl
theorem e83_13 {ls : zL} {st : List Value} {w : zW} {x : Nat} : Rv 83 13 ls (.ref x :: st) w = Rv 83 14 ls (.ref x :: .ref x :: st) w := R_next Q83 (by decide +kernel) rfl
theorem e83_14 {ls : zL} {w : zW} {a0 : Nat} {a1 : Nat} {a2 : Nat} : Rv 83 14 ls [.ref a0, .ref a1, .ref a2] w = cal (Rv 25 0 [some (.ref a0)] [] w) (fun v w' => Rv 83 17 ls (vts v [.ref a1, .ref a2]) w') (xnone) := R_calI (z := 178) (r := [.ref a1, .ref a2]) (kd := 0) Q83 (by decide +kernel) rfl rfl rfl Q25 rfl rfl rfl
theorem e83_17 {ls : zL} {st : List Value} {w : zW} {x : Nat} {a : Nat} : Rv 83 17 ls (.ref x :: .ref a :: st) w = pF w a 3 1 (.ref x) fun w' => Rv 83 20 ls st w' := R_pF (z := 206) Q83 (by decide +kernel) rfl ⟨by decide, rfl, Or.inr ⟨rfl, rfl⟩⟩
theorem e83_17n {ls : zL} {st : List Value} {w : zW}  {a : Nat} : Rv 83 17 ls (.null :: .ref a :: st) w = pF w a 3 1 (.null) fun w' => Rv 83 20 ls st w' := R_pF (z := 206) Q83 (by decide +kernel) rfl ⟨by decide, rfl, Or.inr ⟨rfl, rfl⟩⟩
theorem e83_20 {ls : zL} {st : List Value} {w : zW} : Rv 83 20 ls st w = ldA ls 0 fun x => Rv 83 21 ls (x :: st) w := R_ldA Q83 (by decide +kernel) rfl
theorem e83_21 {ls : zL} {st : List Value} {w : zW} : Rv 83 21 ls st w = Rv 83 23 ls (.int 12 :: st) w := R_con Q83 (by decide +kernel) rfl (by decide)
theorem e83_23 {ls : zL} {st : List Value} {w : zW} : Rv 83 23 ls (.int 12 :: st) w = nw w 12 (.inl (0, 12, .inl fun _ => 0)) fun a w' => Rv 83 25 ls (.ref a :: st) w' := R_newa (z := 0) Q83 (by decide +kernel) rfl rfl (by decide) (by decide)
theorem e83_25 {ls : zL} {st : List Value} {w : zW} {x : Nat} {a : Nat} : Rv 83 25 ls (.ref x :: .ref a :: st) w = pF w a 3 2 (.ref x) fun w' => Rv 83 28 ls st w' := R_pF (z := 207) Q83 (by decide +kernel) rfl ⟨by decide, rfl, Or.inr ⟨rfl, rfl⟩⟩
theorem e83_25n {ls : zL} {st : List Value} {w : zW}  {a : Nat} : Rv 83 25 ls (.null :: .ref a :: st) w = pF w a 3 2 (.null) fun w' => Rv 83 28 ls st w' := R_pF (z := 207) Q83 (by decide +kernel) rfl ⟨by decide, rfl, Or.inr ⟨rfl, rfl⟩⟩
theorem e83_28 {ls : zL} {w : zW} : Rv 83 28 ls [] w = some (.inl none, w) := R_retV Q83 (by decide +kernel) rfl
/-! MasterPins$Survey.refresh -/
theorem e84_0 {ls : zL} {st : List Value} {w : zW} : Rv 84 0 ls st w = ldA ls 0 fun x => Rv 84 1 ls (x :: st) w := R_ldA Q84 (by decide +kernel) rfl
theorem e84_1 {ls : zL} {st : List Value} {w : zW} {a : Nat} : Rv 84 1 ls (.ref a :: st) w = gF w a 3 1 fun v => Rv 84 4 ls (v :: st) w := R_gF (z := 206) Q84 (by decide +kernel) rfl
theorem e84_4 {ls : zL} {st : List Value} {w : zW} : Rv 84 4 ls st w = ldA ls 0 fun x => Rv 84 5 ls (x :: st) w := R_ldA Q84 (by decide +kernel) rfl
theorem e84_5 {ls : zL} {st : List Value} {w : zW} {a : Nat} : Rv 84 5 ls (.ref a :: st) w = gF w a 3 0 fun v => Rv 84 8 ls (v :: st) w := R_gF (z := 205) Q84 (by decide +kernel) rfl
theorem e84_8 {ls : zL} {w : zW} {a1 : Nat} {a0 : Nat} : Rv 84 8 ls [.ref a1, .ref a0] w = hO w a0 1 (cal (Rv 28 0 [some (.ref a0), some (.ref a1)] [] w) (fun v w' => Rv 84 11 ls (vts v []) w') (xnone)) := R_calV (z := 331) (r := []) Q84 (by decide +kernel) rfl rfl Q28 rfl rfl rfl
theorem e84_11 {ls : zL} {st : List Value} {w : zW} {x : Int32} : Rv 84 11 ls (.int x :: st) w = if x = 0 then Rv 84 14 ls st w else Rv 84 25 ls st w := R_f0ne Q84 (by decide +kernel) rfl rfl
theorem e84_14 {ls : zL} {st : List Value} {w : zW} : Rv 84 14 ls st w = ldA ls 0 fun x => Rv 84 15 ls (x :: st) w := R_ldA Q84 (by decide +kernel) rfl
theorem e84_15 {ls : zL} {st : List Value} {w : zW} {a : Nat} : Rv 84 15 ls (.ref a :: st) w = gF w a 3 1 fun v => Rv 84 18 ls (v :: st) w := R_gF (z := 206) Q84 (by decide +kernel) rfl
theorem e84_18 {ls : zL} {st : List Value} {w : zW} : Rv 84 18 ls st w = ldA ls 0 fun x => Rv 84 19 ls (x :: st) w := R_ldA Q84 (by decide +kernel) rfl
theorem e84_19 {ls : zL} {st : List Value} {w : zW} {a : Nat} : Rv 84 19 ls (.ref a :: st) w = gF w a 3 0 fun v => Rv 84 22 ls (v :: st) w := R_gF (z := 205) Q84 (by decide +kernel) rfl
theorem e84_22 {ls : zL} {w : zW} {a1 : Nat} {a0 : Nat} : Rv 84 22 ls [.ref a1, .ref a0] w = hO w a0 1 (cal (Rv 29 0 [some (.ref a0), some (.ref a1), none, none] [] w) (fun v w' => Rv 84 25 ls (vts v []) w') (xnone)) := R_calV (z := 339) (r := []) Q84 (by decide +kernel) rfl rfl Q29 rfl rfl rfl
theorem e84_25 {ls : zL} {st : List Value} {w : zW} : Rv 84 25 ls st w = ldA ls 0 fun x => Rv 84 26 ls (x :: st) w := R_ldA Q84 (by decide +kernel) rfl
theorem e84_26 {ls : zL} {w : zW} {a0 : Nat} : Rv 84 26 ls [.ref a0] w = hO w a0 3 (cal (Rv 88 0 [some (.ref a0), none] [] w) (fun v w' => Rv 84 29 ls (vts v []) w') (xnone)) := R_calV (z := 378) (r := []) Q84 (by decide +kernel) rfl rfl Q88 rfl rfl rfl
theorem e84_29 {ls : zL} {w : zW} : Rv 84 29 ls [] w = some (.inl none, w) := R_retV Q84 (by decide +kernel) rfl
/-! MasterPins$Survey.valueOfDoor -/
theorem e85_0 {ls : zL} {st : List Value} {w : zW} : Rv 85 0 ls st w = ldI ls 2 fun x => Rv 85 1 ls (.int x :: st) w := R_ldI Q85 (by decide +kernel) rfl
theorem e85_1 {ls : zL} {st : List Value} {w : zW} {x : Int32} : Rv 85 1 ls (.int x :: st) w = tsw x 0 128 (fun t => Rv 85 t ls st w) [48, 57, 69, 78, 87, 96, 102, 119] := R_tsw Q85 (by decide +kernel) (by decide +kernel) rfl rfl (by decide +kernel) (by decide +kernel)
theorem e85_48 {ls : zL} {st : List Value} {w : zW} : Rv 85 48 ls st w = ldA ls 0 fun x => Rv 85 49 ls (x :: st) w := R_ldA Q85 (by decide +kernel) rfl
theorem e85_49 {ls : zL} {st : List Value} {w : zW} {a : Nat} : Rv 85 49 ls (.ref a :: st) w = gF w a 3 0 fun v => Rv 85 52 ls (v :: st) w := R_gF (z := 205) Q85 (by decide +kernel) rfl
theorem e85_52 {ls : zL} {st : List Value} {w : zW} : Rv 85 52 ls st w = ldI ls 1 fun x => Rv 85 53 ls (.int x :: st) w := R_ldI Q85 (by decide +kernel) rfl
theorem e85_53 {ls : zL} {w : zW} {n1 : Int32} {a0 : Nat} : Rv 85 53 ls [.int n1, .ref a0] w = hO w a0 2 (cal (Rv 64 0 [some (.ref a0), some (.int n1)] [] w) (fun v w' => Rv 85 56 ls (vts v []) w') (xnone)) := R_calV (z := 660) (r := []) Q85 (by decide +kernel) rfl rfl Q64 rfl rfl rfl
theorem e85_56 {ls : zL} {w : zW} {x : Int32} : Rv 85 56 ls [.int x] w = some (.inl (some (.int x)), w) := R_retI Q85 (by decide +kernel) rfl
theorem e85_57 {ls : zL} {st : List Value} {w : zW} : Rv 85 57 ls st w = ldA ls 0 fun x => Rv 85 58 ls (x :: st) w := R_ldA Q85 (by decide +kernel) rfl
theorem e85_58 {ls : zL} {st : List Value} {w : zW} {a : Nat} : Rv 85 58 ls (.ref a :: st) w = gF w a 3 0 fun v => Rv 85 61 ls (v :: st) w := R_gF (z := 205) Q85 (by decide +kernel) rfl
theorem e85_61 {ls : zL} {st : List Value} {w : zW} : Rv 85 61 ls st w = ldI ls 1 fun x => Rv 85 62 ls (.int x :: st) w := R_ldI Q85 (by decide +kernel) rfl
theorem e85_62 {ls : zL} {w : zW} {n1 : Int32} {a0 : Nat} : Rv 85 62 ls [.int n1, .ref a0] w = hO w a0 2 (cal (Rv 65 0 [some (.ref a0), some (.int n1)] [] w) (fun v w' => Rv 85 65 ls (vts v []) w') (xnone)) := R_calV (z := 664) (r := []) Q85 (by decide +kernel) rfl rfl Q65 rfl rfl rfl
theorem e85_65 {ls : zL} {w : zW} {n1 : Int32} : Rv 85 65 ls [.int n1] w = cal (Rv 232 0 [some (.int n1)] [] w) (fun v w' => Rv 85 68 ls (vts v []) w') (xnone) := R_calS (z := 668) (kd := 1) (n := 1) Q85 (by decide +kernel) rfl (Or.inl rfl) (Nat.le_of_ble_eq_true rfl) rfl Q232 rfl rfl rfl
theorem e85_68 {ls : zL} {w : zW} {x : Int32} : Rv 85 68 ls [.int x] w = some (.inl (some (.int x)), w) := R_retI Q85 (by decide +kernel) rfl
theorem e85_69 {ls : zL} {st : List Value} {w : zW} : Rv 85 69 ls st w = ldA ls 0 fun x => Rv 85 70 ls (x :: st) w := R_ldA Q85 (by decide +kernel) rfl
theorem e85_70 {ls : zL} {st : List Value} {w : zW} {a : Nat} : Rv 85 70 ls (.ref a :: st) w = gF w a 3 0 fun v => Rv 85 73 ls (v :: st) w := R_gF (z := 205) Q85 (by decide +kernel) rfl
theorem e85_73 {ls : zL} {st : List Value} {w : zW} : Rv 85 73 ls st w = ldI ls 1 fun x => Rv 85 74 ls (.int x :: st) w := R_ldI Q85 (by decide +kernel) rfl
theorem e85_74 {ls : zL} {w : zW} {n1 : Int32} {a0 : Nat} : Rv 85 74 ls [.int n1, .ref a0] w = hO w a0 2 (cal (Rv 70 0 [some (.ref a0), some (.int n1), none, none] [] w) (fun v w' => Rv 85 77 ls (vts v []) w') (xnone)) := R_calV (z := 669) (r := []) Q85 (by decide +kernel) rfl rfl Q70 rfl rfl rfl
theorem e85_77 {ls : zL} {w : zW} {x : Int32} : Rv 85 77 ls [.int x] w = some (.inl (some (.int x)), w) := R_retI Q85 (by decide +kernel) rfl
theorem e85_78 {ls : zL} {st : List Value} {w : zW} : Rv 85 78 ls st w = ldA ls 0 fun x => Rv 85 79 ls (x :: st) w := R_ldA Q85 (by decide +kernel) rfl
theorem e85_79 {ls : zL} {st : List Value} {w : zW} {a : Nat} : Rv 85 79 ls (.ref a :: st) w = gF w a 3 0 fun v => Rv 85 82 ls (v :: st) w := R_gF (z := 205) Q85 (by decide +kernel) rfl
theorem e85_82 {ls : zL} {st : List Value} {w : zW} : Rv 85 82 ls st w = ldI ls 1 fun x => Rv 85 83 ls (.int x :: st) w := R_ldI Q85 (by decide +kernel) rfl
theorem e85_83 {ls : zL} {w : zW} {n1 : Int32} {a0 : Nat} : Rv 85 83 ls [.int n1, .ref a0] w = hO w a0 2 (cal (Rv 69 0 [some (.ref a0), some (.int n1)] [] w) (fun v w' => Rv 85 86 ls (vts v []) w') (xnone)) := R_calV (z := 670) (r := []) Q85 (by decide +kernel) rfl rfl Q69 rfl rfl rfl
theorem e85_86 {ls : zL} {w : zW} {x : Int32} : Rv 85 86 ls [.int x] w = some (.inl (some (.int x)), w) := R_retI Q85 (by decide +kernel) rfl
theorem e85_87 {ls : zL} {st : List Value} {w : zW} : Rv 85 87 ls st w = ldA ls 0 fun x => Rv 85 88 ls (x :: st) w := R_ldA Q85 (by decide +kernel) rfl
theorem e85_88 {ls : zL} {st : List Value} {w : zW} {a : Nat} : Rv 85 88 ls (.ref a :: st) w = gF w a 3 0 fun v => Rv 85 91 ls (v :: st) w := R_gF (z := 205) Q85 (by decide +kernel) rfl
theorem e85_91 {ls : zL} {st : List Value} {w : zW} : Rv 85 91 ls st w = ldI ls 1 fun x => Rv 85 92 ls (.int x :: st) w := R_ldI Q85 (by decide +kernel) rfl
theorem e85_92 {ls : zL} {w : zW} {n1 : Int32} {a0 : Nat} : Rv 85 92 ls [.int n1, .ref a0] w = hO w a0 2 (cal (Rv 71 0 [some (.ref a0), some (.int n1)] [] w) (fun v w' => Rv 85 95 ls (vts v []) w') (xnone)) := R_calV (z := 398) (r := []) Q85 (by decide +kernel) rfl rfl Q71 rfl rfl rfl
theorem e85_95 {ls : zL} {w : zW} {x : Int32} : Rv 85 95 ls [.int x] w = some (.inl (some (.int x)), w) := R_retI Q85 (by decide +kernel) rfl
theorem e85_96 {ls : zL} {st : List Value} {w : zW} : Rv 85 96 ls st w = ldA ls 0 fun x => Rv 85 97 ls (x :: st) w := R_ldA Q85 (by decide +kernel) rfl
theorem e85_97 {ls : zL} {st : List Value} {w : zW} : Rv 85 97 ls st w = ldI ls 1 fun x => Rv 85 98 ls (.int x :: st) w := R_ldI Q85 (by decide +kernel) rfl
theorem e85_98 {ls : zL} {w : zW} {n1 : Int32} {a0 : Nat} : Rv 85 98 ls [.int n1, .ref a0] w = hO w a0 3 (cal (Rv 86 0 [some (.ref a0), some (.int n1), none, none, none, none] [] w) (fun v w' => Rv 85 101 ls (vts v []) w') (xnone)) := R_calV (z := 671) (r := []) Q85 (by decide +kernel) rfl rfl Q86 rfl rfl rfl
theorem e85_101 {ls : zL} {w : zW} {x : Int32} : Rv 85 101 ls [.int x] w = some (.inl (some (.int x)), w) := R_retI Q85 (by decide +kernel) rfl
theorem e85_102 {ls : zL} {st : List Value} {w : zW} : Rv 85 102 ls st w = ldA ls 0 fun x => Rv 85 103 ls (x :: st) w := R_ldA Q85 (by decide +kernel) rfl
theorem e85_103 {ls : zL} {st : List Value} {w : zW} {a : Nat} : Rv 85 103 ls (.ref a :: st) w = gF w a 3 0 fun v => Rv 85 106 ls (v :: st) w := R_gF (z := 205) Q85 (by decide +kernel) rfl
theorem e85_106 {ls : zL} {st : List Value} {w : zW} : Rv 85 106 ls st w = ldI ls 1 fun x => Rv 85 107 ls (.int x :: st) w := R_ldI Q85 (by decide +kernel) rfl
theorem e85_107 {ls : zL} {w : zW} {n1 : Int32} {a0 : Nat} : Rv 85 107 ls [.int n1, .ref a0] w = hO w a0 2 (cal (Rv 72 0 [some (.ref a0), some (.int n1)] [] w) (fun v w' => Rv 85 110 ls (vts v []) w') (xnone)) := R_calV (z := 387) (r := []) Q85 (by decide +kernel) rfl rfl Q72 rfl rfl rfl
theorem e85_110 {ls : zL} {st : List Value} {w : zW} {x : Int32} : Rv 85 110 ls (.int x :: st) w = if x = 0 then Rv 85 117 ls st w else Rv 85 113 ls st w := R_f0eq Q85 (by decide +kernel) rfl rfl
theorem e85_113 {ls : zL} {st : List Value} {w : zW} : Rv 85 113 ls st w = Rv 85 114 ls (.int 1 :: st) w := R_con Q85 (by decide +kernel) rfl (by decide)
theorem e85_114 {ls : zL} {st : List Value} {w : zW} : Rv 85 114 ls st w = Rv 85 118 ls st w := R_go Q85 (by decide +kernel) rfl rfl
theorem e85_117 {ls : zL} {st : List Value} {w : zW} : Rv 85 117 ls st w = Rv 85 118 ls (.int 0 :: st) w := R_con Q85 (by decide +kernel) rfl (by decide)
theorem e85_118 {ls : zL} {w : zW} {x : Int32} : Rv 85 118 ls [.int x] w = some (.inl (some (.int x)), w) := R_retI Q85 (by decide +kernel) rfl
theorem e85_119 {ls : zL} {st : List Value} {w : zW} : Rv 85 119 ls st w = ldA ls 0 fun x => Rv 85 120 ls (x :: st) w := R_ldA Q85 (by decide +kernel) rfl
theorem e85_120 {ls : zL} {st : List Value} {w : zW} {a : Nat} : Rv 85 120 ls (.ref a :: st) w = gF w a 3 0 fun v => Rv 85 123 ls (v :: st) w := R_gF (z := 205) Q85 (by decide +kernel) rfl
theorem e85_123 {ls : zL} {st : List Value} {w : zW} : Rv 85 123 ls st w = ldI ls 1 fun x => Rv 85 124 ls (.int x :: st) w := R_ldI Q85 (by decide +kernel) rfl
theorem e85_124 {ls : zL} {w : zW} {n1 : Int32} {a0 : Nat} : Rv 85 124 ls [.int n1, .ref a0] w = hO w a0 2 (cal (Rv 79 0 [some (.ref a0), some (.int n1)] [] w) (fun v w' => Rv 85 127 ls (vts v []) w') (xnone)) := R_calV (z := 382) (r := []) Q85 (by decide +kernel) rfl rfl Q79 rfl rfl rfl
theorem e85_127 {ls : zL} {w : zW} {x : Int32} : Rv 85 127 ls [.int x] w = some (.inl (some (.int x)), w) := R_retI Q85 (by decide +kernel) rfl
theorem e85_128 {ls : zL} {st : List Value} {w : zW} : Rv 85 128 ls st w = ldA ls 0 fun x => Rv 85 129 ls (x :: st) w := R_ldA Q85 (by decide +kernel) rfl
theorem e85_129 {ls : zL} {st : List Value} {w : zW} {a : Nat} : Rv 85 129 ls (.ref a :: st) w = gF w a 3 0 fun v => Rv 85 132 ls (v :: st) w := R_gF (z := 205) Q85 (by decide +kernel) rfl
theorem e85_132 {ls : zL} {st : List Value} {w : zW} : Rv 85 132 ls st w = ldI ls 1 fun x => Rv 85 133 ls (.int x :: st) w := R_ldI Q85 (by decide +kernel) rfl
theorem e85_133 {ls : zL} {w : zW} {n1 : Int32} {a0 : Nat} : Rv 85 133 ls [.int n1, .ref a0] w = hO w a0 2 (cal (Rv 65 0 [some (.ref a0), some (.int n1)] [] w) (fun v w' => Rv 85 136 ls (vts v []) w') (xnone)) := R_calV (z := 664) (r := []) Q85 (by decide +kernel) rfl rfl Q65 rfl rfl rfl
theorem e85_136 {ls : zL} {st : List Value} {w : zW} : Rv 85 136 ls st w = ldA ls 0 fun x => Rv 85 137 ls (x :: st) w := R_ldA Q85 (by decide +kernel) rfl
theorem e85_137 {ls : zL} {st : List Value} {w : zW} {a : Nat} : Rv 85 137 ls (.ref a :: st) w = gF w a 3 0 fun v => Rv 85 140 ls (v :: st) w := R_gF (z := 205) Q85 (by decide +kernel) rfl
theorem e85_140 {ls : zL} {st : List Value} {w : zW} {a : Nat} : Rv 85 140 ls (.ref a :: st) w = gF w a 2 0 fun v => Rv 85 143 ls (v :: st) w := R_gF (z := 125) Q85 (by decide +kernel) rfl
theorem e85_143 {ls : zL} {w : zW} {n1 : Int32} {n2 : Int32} : Rv 85 143 ls [.int n1, .int n2] w = cal (Rv 24 0 [some (.int n2), some (.int n1), none, none] [] w) (fun v w' => Rv 85 146 ls (vts v []) w') (xnone) := R_calS (z := 680) (kd := 1) (n := 2) Q85 (by decide +kernel) rfl (Or.inl rfl) (Nat.le_of_ble_eq_true rfl) rfl Q24 rfl rfl rfl
theorem e85_146 {ls : zL} {w : zW} {x : Int32} : Rv 85 146 ls [.int x] w = some (.inl (some (.int x)), w) := R_retI Q85 (by decide +kernel) rfl
/-! MasterPins$Survey.countGhosts -/
theorem e86_0 {ls : zL} {st : List Value} {w : zW} : Rv 86 0 ls st w = ldA ls 0 fun x => Rv 86 1 ls (x :: st) w := R_ldA Q86 (by decide +kernel) rfl
theorem e86_1 {ls : zL} {st : List Value} {w : zW} {a : Nat} : Rv 86 1 ls (.ref a :: st) w = gF w a 3 0 fun v => Rv 86 4 ls (v :: st) w := R_gF (z := 205) Q86 (by decide +kernel) rfl
theorem e86_4 {ls : zL} {st : List Value} {w : zW} : Rv 86 4 ls st w = ldI ls 1 fun x => Rv 86 5 ls (.int x :: st) w := R_ldI Q86 (by decide +kernel) rfl
theorem e86_5 {ls : zL} {w : zW} {n1 : Int32} {a0 : Nat} : Rv 86 5 ls [.int n1, .ref a0] w = hO w a0 2 (cal (Rv 65 0 [some (.ref a0), some (.int n1)] [] w) (fun v w' => Rv 86 8 ls (vts v []) w') (xnone)) := R_calV (z := 664) (r := []) Q86 (by decide +kernel) rfl rfl Q65 rfl rfl rfl
theorem e86_8 {ls : zL} {st : List Value} {w : zW} {x : Int32} : Rv 86 8 ls (.int x :: st) w = lst ls 2 (some (.int x)) fun l => Rv 86 9 l st w := R_st Q86 (by decide +kernel) rfl
theorem e86_9 {ls : zL} {st : List Value} {w : zW} : Rv 86 9 ls st w = Rv 86 10 ls (.int 0 :: st) w := R_con Q86 (by decide +kernel) rfl (by decide)
theorem e86_10 {ls : zL} {st : List Value} {w : zW} {x : Int32} : Rv 86 10 ls (.int x :: st) w = lst ls 3 (some (.int x)) fun l => Rv 86 11 l st w := R_st Q86 (by decide +kernel) rfl
theorem e86_11 {ls : zL} {st : List Value} {w : zW} : Rv 86 11 ls st w = Rv 86 12 ls (.int 0 :: st) w := R_con Q86 (by decide +kernel) rfl (by decide)
theorem e86_12 {ls : zL} {st : List Value} {w : zW} {x : Int32} : Rv 86 12 ls (.int x :: st) w = lst ls 4 (some (.int x)) fun l => Rv 86 14 l st w := R_st Q86 (by decide +kernel) rfl
theorem h86_14 {ls : zL} {st : List Value} {w : zW} : Rv 86 14 ls st w = ldI ls 4 fun x => Rv 86 16 ls (.int x :: st) w := R_ldI Q86 (by decide +kernel) rfl
theorem e86_16 {ls : zL} {st : List Value} {w : zW} : Rv 86 16 ls st w = ldA ls 0 fun x => Rv 86 17 ls (x :: st) w := R_ldA Q86 (by decide +kernel) rfl
theorem e86_17 {ls : zL} {st : List Value} {w : zW} {a : Nat} : Rv 86 17 ls (.ref a :: st) w = gF w a 3 1 fun v => Rv 86 20 ls (v :: st) w := R_gF (z := 206) Q86 (by decide +kernel) rfl
theorem e86_20 {ls : zL} {st : List Value} {w : zW} {a : Nat} : Rv 86 20 ls (.ref a :: st) w = gF w a 1 2 fun v => Rv 86 23 ls (v :: st) w := R_gF (z := 184) Q86 (by decide +kernel) rfl
theorem e86_23 {ls : zL} {st : List Value} {w : zW} {x y : Int32} : Rv 86 23 ls (.int y :: .int x :: st) w = if x < y then Rv 86 26 ls st w else Rv 86 67 ls st w := R_fige Q86 (by decide +kernel) rfl rfl
theorem e86_26 {ls : zL} {st : List Value} {w : zW} : Rv 86 26 ls st w = ldA ls 0 fun x => Rv 86 27 ls (x :: st) w := R_ldA Q86 (by decide +kernel) rfl
theorem e86_27 {ls : zL} {st : List Value} {w : zW} {a : Nat} : Rv 86 27 ls (.ref a :: st) w = gF w a 3 1 fun v => Rv 86 30 ls (v :: st) w := R_gF (z := 206) Q86 (by decide +kernel) rfl
theorem e86_30 {ls : zL} {st : List Value} {w : zW} : Rv 86 30 ls st w = ldI ls 4 fun x => Rv 86 32 ls (.int x :: st) w := R_ldI Q86 (by decide +kernel) rfl
theorem e86_32 {ls : zL} {w : zW} {n1 : Int32} {a0 : Nat} : Rv 86 32 ls [.int n1, .ref a0] w = hO w a0 1 (cal (Rv 27 0 [some (.ref a0), some (.int n1)] [] w) (fun v w' => Rv 86 35 ls (vts v []) w') (xnone)) := R_calV (z := 414) (r := []) Q86 (by decide +kernel) rfl rfl Q27 rfl rfl rfl
theorem e86_35 {ls : zL} {st : List Value} {w : zW} {x : Int32} : Rv 86 35 ls (.int x :: st) w = lst ls 5 (some (.int x)) fun l => Rv 86 37 l st w := R_st Q86 (by decide +kernel) rfl
theorem e86_37 {ls : zL} {st : List Value} {w : zW} : Rv 86 37 ls st w = ldI ls 5 fun x => Rv 86 39 ls (.int x :: st) w := R_ldI Q86 (by decide +kernel) rfl
theorem e86_39 {ls : zL} {st : List Value} {w : zW} : Rv 86 39 ls st w = ldI ls 2 fun x => Rv 86 40 ls (.int x :: st) w := R_ldI Q86 (by decide +kernel) rfl
theorem e86_40 {ls : zL} {w : zW} {n1 : Int32} {n2 : Int32} : Rv 86 40 ls [.int n1, .int n2] w = cal (Rv 19 0 [some (.int n2), some (.int n1)] [] w) (fun v w' => Rv 86 43 ls (vts v []) w') (xnone) := R_calS (z := 675) (kd := 1) (n := 2) Q86 (by decide +kernel) rfl (Or.inl rfl) (Nat.le_of_ble_eq_true rfl) rfl Q19 rfl rfl rfl
theorem e86_43 {ls : zL} {st : List Value} {w : zW} {x : Int32} : Rv 86 43 ls (.int x :: st) w = if x = 0 then Rv 86 61 ls st w else Rv 86 46 ls st w := R_f0eq Q86 (by decide +kernel) rfl rfl
theorem e86_46 {ls : zL} {st : List Value} {w : zW} : Rv 86 46 ls st w = ldA ls 0 fun x => Rv 86 47 ls (x :: st) w := R_ldA Q86 (by decide +kernel) rfl
theorem e86_47 {ls : zL} {st : List Value} {w : zW} {a : Nat} : Rv 86 47 ls (.ref a :: st) w = gF w a 3 0 fun v => Rv 86 50 ls (v :: st) w := R_gF (z := 205) Q86 (by decide +kernel) rfl
theorem e86_50 {ls : zL} {st : List Value} {w : zW} : Rv 86 50 ls st w = ldI ls 5 fun x => Rv 86 52 ls (.int x :: st) w := R_ldI Q86 (by decide +kernel) rfl
theorem e86_52 {ls : zL} {w : zW} {n1 : Int32} {a0 : Nat} : Rv 86 52 ls [.int n1, .ref a0] w = hO w a0 2 (cal (Rv 62 0 [some (.ref a0), some (.int n1), none] [] w) (fun v w' => Rv 86 55 ls (vts v []) w') (xnone)) := R_calV (z := 676) (r := []) Q86 (by decide +kernel) rfl rfl Q62 rfl rfl rfl
theorem e86_55 {ls : zL} {st : List Value} {w : zW} {x : Int32} : Rv 86 55 ls (.int x :: st) w = if x = 0 then Rv 86 58 ls st w else Rv 86 61 ls st w := R_f0ne Q86 (by decide +kernel) rfl rfl
theorem e86_58 {ls : zL} {st : List Value} {w : zW} : Rv 86 58 ls st w = ldI ls 3 fun x => lst ls 3 (some (.int (x + 1))) fun l => Rv 86 61 l st w := R_iinc Q86 (by decide +kernel) (by decide)
theorem e86_61 {ls : zL} {st : List Value} {w : zW} : Rv 86 61 ls st w = ldI ls 4 fun x => lst ls 4 (some (.int (x + 1))) fun l => Rv 86 64 l st w := R_iinc Q86 (by decide +kernel) (by decide)
theorem e86_64 {ls : zL} {st : List Value} {w : zW} : Rv 86 64 ls st w = Rv 86 14 ls st w := R_go Q86 (by decide +kernel) rfl rfl
theorem e86_67 {ls : zL} {st : List Value} {w : zW} : Rv 86 67 ls st w = ldI ls 3 fun x => Rv 86 68 ls (.int x :: st) w := R_ldI Q86 (by decide +kernel) rfl
theorem e86_68 {ls : zL} {w : zW} {x : Int32} : Rv 86 68 ls [.int x] w = some (.inl (some (.int x)), w) := R_retI Q86 (by decide +kernel) rfl
/-! MasterPins$Survey.sumOverDoors -/
theorem e87_0 {ls : zL} {st : List Value} {w : zW} : Rv 87 0 ls st w = Rv 87 1 ls (.int 0 :: st) w := R_con Q87 (by decide +kernel) rfl (by decide)
theorem e87_1 {ls : zL} {st : List Value} {w : zW} {x : Int32} : Rv 87 1 ls (.int x :: st) w = lst ls 2 (some (.int x)) fun l => Rv 87 2 l st w := R_st Q87 (by decide +kernel) rfl
theorem e87_2 {ls : zL} {st : List Value} {w : zW} : Rv 87 2 ls st w = Rv 87 3 ls (.int 0 :: st) w := R_con Q87 (by decide +kernel) rfl (by decide)
theorem e87_3 {ls : zL} {st : List Value} {w : zW} {x : Int32} : Rv 87 3 ls (.int x :: st) w = lst ls 3 (some (.int x)) fun l => Rv 87 4 l st w := R_st Q87 (by decide +kernel) rfl
theorem h87_4 {ls : zL} {st : List Value} {w : zW} : Rv 87 4 ls st w = ldI ls 3 fun x => Rv 87 5 ls (.int x :: st) w := R_ldI Q87 (by decide +kernel) rfl
theorem e87_5 {ls : zL} {st : List Value} {w : zW} : Rv 87 5 ls st w = ldA ls 0 fun x => Rv 87 6 ls (x :: st) w := R_ldA Q87 (by decide +kernel) rfl
theorem e87_6 {ls : zL} {st : List Value} {w : zW} {a : Nat} : Rv 87 6 ls (.ref a :: st) w = gF w a 3 0 fun v => Rv 87 9 ls (v :: st) w := R_gF (z := 205) Q87 (by decide +kernel) rfl
theorem e87_9 {ls : zL} {st : List Value} {w : zW} {a : Nat} : Rv 87 9 ls (.ref a :: st) w = gF w a 2 9 fun v => Rv 87 12 ls (v :: st) w := R_gF (z := 140) Q87 (by decide +kernel) rfl
theorem e87_12 {ls : zL} {st : List Value} {w : zW} {x y : Int32} : Rv 87 12 ls (.int y :: .int x :: st) w = if x < y then Rv 87 15 ls st w else Rv 87 30 ls st w := R_fige Q87 (by decide +kernel) rfl rfl
theorem e87_15 {ls : zL} {st : List Value} {w : zW} : Rv 87 15 ls st w = ldI ls 2 fun x => Rv 87 16 ls (.int x :: st) w := R_ldI Q87 (by decide +kernel) rfl
theorem e87_16 {ls : zL} {st : List Value} {w : zW} : Rv 87 16 ls st w = ldA ls 0 fun x => Rv 87 17 ls (x :: st) w := R_ldA Q87 (by decide +kernel) rfl
theorem e87_17 {ls : zL} {st : List Value} {w : zW} : Rv 87 17 ls st w = ldI ls 3 fun x => Rv 87 18 ls (.int x :: st) w := R_ldI Q87 (by decide +kernel) rfl
theorem e87_18 {ls : zL} {st : List Value} {w : zW} : Rv 87 18 ls st w = ldI ls 1 fun x => Rv 87 19 ls (.int x :: st) w := R_ldI Q87 (by decide +kernel) rfl
theorem e87_19 {ls : zL} {w : zW} {n1 : Int32} {n2 : Int32} {a0 : Nat} {n3 : Int32} : Rv 87 19 ls [.int n1, .int n2, .ref a0, .int n3] w = hO w a0 3 (cal (Rv 85 0 [some (.ref a0), some (.int n2), some (.int n1)] [] w) (fun v w' => Rv 87 22 ls (vts v [.int n3]) w') (xnone)) := R_calV (z := 656) (r := [.int n3]) Q87 (by decide +kernel) rfl rfl Q85 rfl rfl rfl
theorem e87_22 {ls : zL} {st : List Value} {w : zW} {x y : Int32} : Rv 87 22 ls (.int y :: .int x :: st) w = Rv 87 23 ls (.int (x + y) :: st) w := R_next Q87 (by decide +kernel) rfl
theorem e87_23 {ls : zL} {st : List Value} {w : zW} {x : Int32} : Rv 87 23 ls (.int x :: st) w = lst ls 2 (some (.int x)) fun l => Rv 87 24 l st w := R_st Q87 (by decide +kernel) rfl
theorem e87_24 {ls : zL} {st : List Value} {w : zW} : Rv 87 24 ls st w = ldI ls 3 fun x => lst ls 3 (some (.int (x + 1))) fun l => Rv 87 27 l st w := R_iinc Q87 (by decide +kernel) (by decide)
theorem e87_27 {ls : zL} {st : List Value} {w : zW} : Rv 87 27 ls st w = Rv 87 4 ls st w := R_go Q87 (by decide +kernel) rfl rfl
theorem e87_30 {ls : zL} {st : List Value} {w : zW} : Rv 87 30 ls st w = ldI ls 2 fun x => Rv 87 31 ls (.int x :: st) w := R_ldI Q87 (by decide +kernel) rfl
theorem e87_31 {ls : zL} {w : zW} {x : Int32} : Rv 87 31 ls [.int x] w = some (.inl (some (.int x)), w) := R_retI Q87 (by decide +kernel) rfl
/-! MasterPins$Survey.listWorks -/
theorem e88_0 {ls : zL} {st : List Value} {w : zW} : Rv 88 0 ls st w = ldA ls 0 fun x => Rv 88 1 ls (x :: st) w := R_ldA Q88 (by decide +kernel) rfl
theorem e88_1 {ls : zL} {st : List Value} {w : zW} : Rv 88 1 ls st w = Rv 88 2 ls (.int 0 :: st) w := R_con Q88 (by decide +kernel) rfl (by decide)
theorem e88_2 {ls : zL} {st : List Value} {w : zW} {x : Int32} {a : Nat} : Rv 88 2 ls (.int x :: .ref a :: st) w = pF w a 3 3 (.int x) fun w' => Rv 88 5 ls st w' := R_pF (z := 208) Q88 (by decide +kernel) rfl ⟨by decide, rfl, Or.inl rfl⟩
theorem e88_5 {ls : zL} {st : List Value} {w : zW} : Rv 88 5 ls st w = Rv 88 6 ls (.int 0 :: st) w := R_con Q88 (by decide +kernel) rfl (by decide)
theorem e88_6 {ls : zL} {st : List Value} {w : zW} {x : Int32} : Rv 88 6 ls (.int x :: st) w = lst ls 1 (some (.int x)) fun l => Rv 88 7 l st w := R_st Q88 (by decide +kernel) rfl
theorem h88_7 {ls : zL} {st : List Value} {w : zW} : Rv 88 7 ls st w = ldI ls 1 fun x => Rv 88 8 ls (.int x :: st) w := R_ldI Q88 (by decide +kernel) rfl
theorem e88_8 {ls : zL} {st : List Value} {w : zW} : Rv 88 8 ls st w = ldA ls 0 fun x => Rv 88 9 ls (x :: st) w := R_ldA Q88 (by decide +kernel) rfl
theorem e88_9 {ls : zL} {st : List Value} {w : zW} {a : Nat} : Rv 88 9 ls (.ref a :: st) w = gF w a 3 0 fun v => Rv 88 12 ls (v :: st) w := R_gF (z := 205) Q88 (by decide +kernel) rfl
theorem e88_12 {ls : zL} {st : List Value} {w : zW} {a : Nat} : Rv 88 12 ls (.ref a :: st) w = gF w a 2 9 fun v => Rv 88 15 ls (v :: st) w := R_gF (z := 140) Q88 (by decide +kernel) rfl
theorem e88_15 {ls : zL} {st : List Value} {w : zW} {x y : Int32} : Rv 88 15 ls (.int y :: .int x :: st) w = if x < y then Rv 88 18 ls st w else Rv 88 44 ls st w := R_fige Q88 (by decide +kernel) rfl rfl
theorem e88_18 {ls : zL} {st : List Value} {w : zW} : Rv 88 18 ls st w = ldA ls 0 fun x => Rv 88 19 ls (x :: st) w := R_ldA Q88 (by decide +kernel) rfl
theorem e88_19 {ls : zL} {st : List Value} {w : zW} {a : Nat} : Rv 88 19 ls (.ref a :: st) w = gF w a 3 0 fun v => Rv 88 22 ls (v :: st) w := R_gF (z := 205) Q88 (by decide +kernel) rfl
theorem e88_22 {ls : zL} {st : List Value} {w : zW} : Rv 88 22 ls st w = ldI ls 1 fun x => Rv 88 23 ls (.int x :: st) w := R_ldI Q88 (by decide +kernel) rfl
theorem e88_23 {ls : zL} {w : zW} {n1 : Int32} {a0 : Nat} : Rv 88 23 ls [.int n1, .ref a0] w = hO w a0 2 (cal (Rv 79 0 [some (.ref a0), some (.int n1)] [] w) (fun v w' => Rv 88 26 ls (vts v []) w') (xnone)) := R_calV (z := 382) (r := []) Q88 (by decide +kernel) rfl rfl Q79 rfl rfl rfl
theorem e88_26 {ls : zL} {st : List Value} {w : zW} {x : Int32} : Rv 88 26 ls (.int x :: st) w = if 0 < x then Rv 88 29 ls st w else Rv 88 38 ls st w := R_f0le Q88 (by decide +kernel) rfl rfl
theorem e88_29 {ls : zL} {st : List Value} {w : zW} : Rv 88 29 ls st w = ldA ls 0 fun x => Rv 88 30 ls (x :: st) w := R_ldA Q88 (by decide +kernel) rfl
theorem e88_30 {ls : zL} {st : List Value} {w : zW} : Rv 88 30 ls st w = ldA ls 0 fun x => Rv 88 31 ls (x :: st) w := R_ldA Q88 (by decide +kernel) rfl
theorem e88_31 {ls : zL} {st : List Value} {w : zW} : Rv 88 31 ls st w = ldI ls 1 fun x => Rv 88 32 ls (.int x :: st) w := R_ldI Q88 (by decide +kernel) rfl
theorem e88_32 {ls : zL} {w : zW} {n1 : Int32} {a0 : Nat} {a2 : Nat} : Rv 88 32 ls [.int n1, .ref a0, .ref a2] w = hO w a0 3 (cal (Rv 89 0 [some (.ref a0), some (.int n1), none] [] w) (fun v w' => Rv 88 35 ls (vts v [.ref a2]) w') (xnone)) := R_calV (z := 383) (r := [.ref a2]) Q88 (by decide +kernel) rfl rfl Q89 rfl rfl rfl
theorem e88_35 {ls : zL} {w : zW} {n1 : Int32} {a0 : Nat} : Rv 88 35 ls [.int n1, .ref a0] w = hO w a0 3 (cal (Rv 90 0 [some (.ref a0), some (.int n1), none] [] w) (fun v w' => Rv 88 38 ls (vts v []) w') (xnone)) := R_calV (z := 406) (r := []) Q88 (by decide +kernel) rfl rfl Q90 rfl rfl rfl
theorem e88_38 {ls : zL} {st : List Value} {w : zW} : Rv 88 38 ls st w = ldI ls 1 fun x => lst ls 1 (some (.int (x + 1))) fun l => Rv 88 41 l st w := R_iinc Q88 (by decide +kernel) (by decide)
theorem e88_41 {ls : zL} {st : List Value} {w : zW} : Rv 88 41 ls st w = Rv 88 7 ls st w := R_go Q88 (by decide +kernel) rfl rfl
theorem e88_44 {ls : zL} {w : zW} : Rv 88 44 ls [] w = some (.inl none, w) := R_retV Q88 (by decide +kernel) rfl
/-! MasterPins$Survey.orderOf -/
theorem e89_0 {ls : zL} {st : List Value} {w : zW} : Rv 89 0 ls st w = ldA ls 0 fun x => Rv 89 1 ls (x :: st) w := R_ldA Q89 (by decide +kernel) rfl
theorem e89_1 {ls : zL} {st : List Value} {w : zW} {a : Nat} : Rv 89 1 ls (.ref a :: st) w = gF w a 3 0 fun v => Rv 89 4 ls (v :: st) w := R_gF (z := 205) Q89 (by decide +kernel) rfl
theorem e89_4 {ls : zL} {st : List Value} {w : zW} : Rv 89 4 ls st w = ldI ls 1 fun x => Rv 89 5 ls (.int x :: st) w := R_ldI Q89 (by decide +kernel) rfl
theorem e89_5 {ls : zL} {w : zW} {n1 : Int32} {a0 : Nat} : Rv 89 5 ls [.int n1, .ref a0] w = hO w a0 2 (cal (Rv 72 0 [some (.ref a0), some (.int n1)] [] w) (fun v w' => Rv 89 8 ls (vts v []) w') (xnone)) := R_calV (z := 387) (r := []) Q89 (by decide +kernel) rfl rfl Q72 rfl rfl rfl
theorem e89_8 {ls : zL} {st : List Value} {w : zW} {x : Int32} : Rv 89 8 ls (.int x :: st) w = if x = 0 then Rv 89 15 ls st w else Rv 89 11 ls st w := R_f0eq Q89 (by decide +kernel) rfl rfl
theorem e89_11 {ls : zL} {st : List Value} {w : zW} : Rv 89 11 ls st w = Rv 89 12 ls (.int 0 :: st) w := R_con Q89 (by decide +kernel) rfl (by decide)
theorem e89_12 {ls : zL} {st : List Value} {w : zW} : Rv 89 12 ls st w = Rv 89 16 ls st w := R_go Q89 (by decide +kernel) rfl rfl
theorem e89_15 {ls : zL} {st : List Value} {w : zW} : Rv 89 15 ls st w = Rv 89 16 ls (.int 1 :: st) w := R_con Q89 (by decide +kernel) rfl (by decide)
theorem e89_16 {ls : zL} {st : List Value} {w : zW} {x : Int32} : Rv 89 16 ls (.int x :: st) w = lst ls 2 (some (.int x)) fun l => Rv 89 17 l st w := R_st Q89 (by decide +kernel) rfl
theorem e89_17 {ls : zL} {st : List Value} {w : zW} : Rv 89 17 ls st w = ldI ls 2 fun x => Rv 89 18 ls (.int x :: st) w := R_ldI Q89 (by decide +kernel) rfl
theorem e89_18 {ls : zL} {st : List Value} {w : zW} : Rv 89 18 ls st w = Rv 89 20 ls (.int 32 :: st) w := R_con Q89 (by decide +kernel) rfl (by decide)
theorem e89_20 {ls : zL} {st : List Value} {w : zW} {x y : Int32} : Rv 89 20 ls (.int y :: .int x :: st) w = Rv 89 21 ls (.int (x * y) :: st) w := R_next Q89 (by decide +kernel) rfl
theorem e89_21 {ls : zL} {st : List Value} {w : zW} : Rv 89 21 ls st w = Rv 89 23 ls (.int 16 :: st) w := R_con Q89 (by decide +kernel) rfl (by decide)
theorem e89_23 {ls : zL} {st : List Value} {w : zW} {x y : Int32} : Rv 89 23 ls (.int y :: .int x :: st) w = Rv 89 24 ls (.int (x + y) :: st) w := R_next Q89 (by decide +kernel) rfl
theorem e89_24 {ls : zL} {st : List Value} {w : zW} : Rv 89 24 ls st w = ldA ls 0 fun x => Rv 89 25 ls (x :: st) w := R_ldA Q89 (by decide +kernel) rfl
theorem e89_25 {ls : zL} {st : List Value} {w : zW} {a : Nat} : Rv 89 25 ls (.ref a :: st) w = gF w a 3 0 fun v => Rv 89 28 ls (v :: st) w := R_gF (z := 205) Q89 (by decide +kernel) rfl
theorem e89_28 {ls : zL} {st : List Value} {w : zW} : Rv 89 28 ls st w = ldI ls 1 fun x => Rv 89 29 ls (.int x :: st) w := R_ldI Q89 (by decide +kernel) rfl
theorem e89_29 {ls : zL} {w : zW} {n1 : Int32} {a0 : Nat} {n2 : Int32} : Rv 89 29 ls [.int n1, .ref a0, .int n2] w = hO w a0 2 (cal (Rv 71 0 [some (.ref a0), some (.int n1)] [] w) (fun v w' => Rv 89 32 ls (vts v [.int n2]) w') (xnone)) := R_calV (z := 398) (r := [.int n2]) Q89 (by decide +kernel) rfl rfl Q71 rfl rfl rfl
theorem e89_32 {ls : zL} {st : List Value} {w : zW} {x y : Int32} : Rv 89 32 ls (.int y :: .int x :: st) w = Rv 89 33 ls (.int (x - y) :: st) w := R_next Q89 (by decide +kernel) rfl
theorem e89_33 {ls : zL} {st : List Value} {w : zW} {x : Int32} : Rv 89 33 ls (.int x :: st) w = lst ls 2 (some (.int x)) fun l => Rv 89 34 l st w := R_st Q89 (by decide +kernel) rfl
theorem e89_34 {ls : zL} {st : List Value} {w : zW} : Rv 89 34 ls st w = ldI ls 2 fun x => Rv 89 35 ls (.int x :: st) w := R_ldI Q89 (by decide +kernel) rfl
theorem e89_35 {ls : zL} {st : List Value} {w : zW} : Rv 89 35 ls st w = Rv 89 37 ls (.int 32 :: st) w := R_con Q89 (by decide +kernel) rfl (by decide)
theorem e89_37 {ls : zL} {st : List Value} {w : zW} {x y : Int32} : Rv 89 37 ls (.int y :: .int x :: st) w = Rv 89 38 ls (.int (x * y) :: st) w := R_next Q89 (by decide +kernel) rfl
theorem e89_38 {ls : zL} {st : List Value} {w : zW} : Rv 89 38 ls st w = ldA ls 0 fun x => Rv 89 39 ls (x :: st) w := R_ldA Q89 (by decide +kernel) rfl
theorem e89_39 {ls : zL} {st : List Value} {w : zW} {a : Nat} : Rv 89 39 ls (.ref a :: st) w = gF w a 3 0 fun v => Rv 89 42 ls (v :: st) w := R_gF (z := 205) Q89 (by decide +kernel) rfl
theorem e89_42 {ls : zL} {st : List Value} {w : zW} : Rv 89 42 ls st w = ldI ls 1 fun x => Rv 89 43 ls (.int x :: st) w := R_ldI Q89 (by decide +kernel) rfl
theorem e89_43 {ls : zL} {w : zW} {n1 : Int32} {a0 : Nat} {n2 : Int32} : Rv 89 43 ls [.int n1, .ref a0, .int n2] w = hO w a0 2 (cal (Rv 79 0 [some (.ref a0), some (.int n1)] [] w) (fun v w' => Rv 89 46 ls (vts v [.int n2]) w') (xnone)) := R_calV (z := 382) (r := [.int n2]) Q89 (by decide +kernel) rfl rfl Q79 rfl rfl rfl
theorem e89_46 {ls : zL} {st : List Value} {w : zW} {x y : Int32} : Rv 89 46 ls (.int y :: .int x :: st) w = Rv 89 47 ls (.int (x + y) :: st) w := R_next Q89 (by decide +kernel) rfl
theorem e89_47 {ls : zL} {st : List Value} {w : zW} {x : Int32} : Rv 89 47 ls (.int x :: st) w = lst ls 2 (some (.int x)) fun l => Rv 89 48 l st w := R_st Q89 (by decide +kernel) rfl
theorem e89_48 {ls : zL} {st : List Value} {w : zW} : Rv 89 48 ls st w = ldI ls 2 fun x => Rv 89 49 ls (.int x :: st) w := R_ldI Q89 (by decide +kernel) rfl
theorem e89_49 {ls : zL} {st : List Value} {w : zW} : Rv 89 49 ls st w = Rv 89 51 ls (.int 16 :: st) w := R_con Q89 (by decide +kernel) rfl (by decide)
theorem e89_51 {ls : zL} {st : List Value} {w : zW} {x y : Int32} : Rv 89 51 ls (.int y :: .int x :: st) w = Rv 89 52 ls (.int (x * y) :: st) w := R_next Q89 (by decide +kernel) rfl
theorem e89_52 {ls : zL} {st : List Value} {w : zW} : Rv 89 52 ls st w = ldI ls 1 fun x => Rv 89 53 ls (.int x :: st) w := R_ldI Q89 (by decide +kernel) rfl
theorem e89_53 {ls : zL} {st : List Value} {w : zW} {x y : Int32} : Rv 89 53 ls (.int y :: .int x :: st) w = Rv 89 54 ls (.int (x + y) :: st) w := R_next Q89 (by decide +kernel) rfl
theorem e89_54 {ls : zL} {w : zW} {x : Int32} : Rv 89 54 ls [.int x] w = some (.inl (some (.int x)), w) := R_retI Q89 (by decide +kernel) rfl
/-! MasterPins$Survey.insertWork -/
theorem e90_0 {ls : zL} {st : List Value} {w : zW} : Rv 90 0 ls st w = ldA ls 0 fun x => Rv 90 1 ls (x :: st) w := R_ldA Q90 (by decide +kernel) rfl
theorem e90_1 {ls : zL} {st : List Value} {w : zW} {a : Nat} : Rv 90 1 ls (.ref a :: st) w = gF w a 3 3 fun v => Rv 90 4 ls (v :: st) w := R_gF (z := 208) Q90 (by decide +kernel) rfl
theorem e90_4 {ls : zL} {st : List Value} {w : zW} {x : Int32} : Rv 90 4 ls (.int x :: st) w = lst ls 2 (some (.int x)) fun l => Rv 90 5 l st w := R_st Q90 (by decide +kernel) rfl
theorem h90_5 {ls : zL} {st : List Value} {w : zW} : Rv 90 5 ls st w = ldI ls 2 fun x => Rv 90 6 ls (.int x :: st) w := R_ldI Q90 (by decide +kernel) rfl
theorem e90_6 {ls : zL} {st : List Value} {w : zW} {x : Int32} : Rv 90 6 ls (.int x :: st) w = if 0 < x then Rv 90 9 ls st w else Rv 90 41 ls st w := R_f0le Q90 (by decide +kernel) rfl rfl
theorem e90_9 {ls : zL} {st : List Value} {w : zW} : Rv 90 9 ls st w = ldA ls 0 fun x => Rv 90 10 ls (x :: st) w := R_ldA Q90 (by decide +kernel) rfl
theorem e90_10 {ls : zL} {st : List Value} {w : zW} {a : Nat} : Rv 90 10 ls (.ref a :: st) w = gF w a 3 2 fun v => Rv 90 13 ls (v :: st) w := R_gF (z := 207) Q90 (by decide +kernel) rfl
theorem e90_13 {ls : zL} {st : List Value} {w : zW} : Rv 90 13 ls st w = ldI ls 2 fun x => Rv 90 14 ls (.int x :: st) w := R_ldI Q90 (by decide +kernel) rfl
theorem e90_14 {ls : zL} {st : List Value} {w : zW} : Rv 90 14 ls st w = Rv 90 15 ls (.int 1 :: st) w := R_con Q90 (by decide +kernel) rfl (by decide)
theorem e90_15 {ls : zL} {st : List Value} {w : zW} {x y : Int32} : Rv 90 15 ls (.int y :: .int x :: st) w = Rv 90 16 ls (.int (x - y) :: st) w := R_next Q90 (by decide +kernel) rfl
theorem e90_16 {ls : zL} {st : List Value} {w : zW} {a : Nat} {x : Int32} : Rv 90 16 ls (.int x :: .ref a :: st) w = gI w a 0 8 x fun v => Rv 90 17 ls (.int v :: st) w := R_iald Q90 (by decide +kernel)
theorem e90_17 {ls : zL} {st : List Value} {w : zW} : Rv 90 17 ls st w = ldI ls 1 fun x => Rv 90 18 ls (.int x :: st) w := R_ldI Q90 (by decide +kernel) rfl
theorem e90_18 {ls : zL} {st : List Value} {w : zW} {x y : Int32} : Rv 90 18 ls (.int y :: .int x :: st) w = if y < x then Rv 90 21 ls st w else Rv 90 41 ls st w := R_file Q90 (by decide +kernel) rfl rfl
theorem e90_21 {ls : zL} {st : List Value} {w : zW} : Rv 90 21 ls st w = ldA ls 0 fun x => Rv 90 22 ls (x :: st) w := R_ldA Q90 (by decide +kernel) rfl
theorem e90_22 {ls : zL} {st : List Value} {w : zW} {a : Nat} : Rv 90 22 ls (.ref a :: st) w = gF w a 3 2 fun v => Rv 90 25 ls (v :: st) w := R_gF (z := 207) Q90 (by decide +kernel) rfl
theorem e90_25 {ls : zL} {st : List Value} {w : zW} : Rv 90 25 ls st w = ldI ls 2 fun x => Rv 90 26 ls (.int x :: st) w := R_ldI Q90 (by decide +kernel) rfl
theorem e90_26 {ls : zL} {st : List Value} {w : zW} : Rv 90 26 ls st w = ldA ls 0 fun x => Rv 90 27 ls (x :: st) w := R_ldA Q90 (by decide +kernel) rfl
theorem e90_27 {ls : zL} {st : List Value} {w : zW} {a : Nat} : Rv 90 27 ls (.ref a :: st) w = gF w a 3 2 fun v => Rv 90 30 ls (v :: st) w := R_gF (z := 207) Q90 (by decide +kernel) rfl
theorem e90_30 {ls : zL} {st : List Value} {w : zW} : Rv 90 30 ls st w = ldI ls 2 fun x => Rv 90 31 ls (.int x :: st) w := R_ldI Q90 (by decide +kernel) rfl
theorem e90_31 {ls : zL} {st : List Value} {w : zW} : Rv 90 31 ls st w = Rv 90 32 ls (.int 1 :: st) w := R_con Q90 (by decide +kernel) rfl (by decide)
theorem e90_32 {ls : zL} {st : List Value} {w : zW} {x y : Int32} : Rv 90 32 ls (.int y :: .int x :: st) w = Rv 90 33 ls (.int (x - y) :: st) w := R_next Q90 (by decide +kernel) rfl
theorem e90_33 {ls : zL} {st : List Value} {w : zW} {a : Nat} {x : Int32} : Rv 90 33 ls (.int x :: .ref a :: st) w = gI w a 0 8 x fun v => Rv 90 34 ls (.int v :: st) w := R_iald Q90 (by decide +kernel)
theorem e90_34 {ls : zL} {st : List Value} {w : zW} {a : Nat} {x y : Int32} : Rv 90 34 ls (.int y :: .int x :: .ref a :: st) w = pI w a 0 x y fun w' => Rv 90 35 ls st w' := R_iast Q90 (by decide +kernel)
theorem e90_35 {ls : zL} {st : List Value} {w : zW} : Rv 90 35 ls st w = ldI ls 2 fun x => lst ls 2 (some (.int (x + (-1)))) fun l => Rv 90 38 l st w := R_iinc Q90 (by decide +kernel) (by decide)
theorem e90_38 {ls : zL} {st : List Value} {w : zW} : Rv 90 38 ls st w = Rv 90 5 ls st w := R_go Q90 (by decide +kernel) rfl rfl
theorem e90_41 {ls : zL} {st : List Value} {w : zW} : Rv 90 41 ls st w = ldA ls 0 fun x => Rv 90 42 ls (x :: st) w := R_ldA Q90 (by decide +kernel) rfl
theorem e90_42 {ls : zL} {st : List Value} {w : zW} {a : Nat} : Rv 90 42 ls (.ref a :: st) w = gF w a 3 2 fun v => Rv 90 45 ls (v :: st) w := R_gF (z := 207) Q90 (by decide +kernel) rfl
theorem e90_45 {ls : zL} {st : List Value} {w : zW} : Rv 90 45 ls st w = ldI ls 2 fun x => Rv 90 46 ls (.int x :: st) w := R_ldI Q90 (by decide +kernel) rfl
theorem e90_46 {ls : zL} {st : List Value} {w : zW} : Rv 90 46 ls st w = ldI ls 1 fun x => Rv 90 47 ls (.int x :: st) w := R_ldI Q90 (by decide +kernel) rfl
theorem e90_47 {ls : zL} {st : List Value} {w : zW} {a : Nat} {x y : Int32} : Rv 90 47 ls (.int y :: .int x :: .ref a :: st) w = pI w a 0 x y fun w' => Rv 90 48 ls st w' := R_iast Q90 (by decide +kernel)
theorem e90_48 {ls : zL} {st : List Value} {w : zW} : Rv 90 48 ls st w = ldA ls 0 fun x => Rv 90 49 ls (x :: st) w := R_ldA Q90 (by decide +kernel) rfl
theorem e90_49 {ls : zL} {st : List Value} {w : zW} {x : Nat} : Rv 90 49 ls (.ref x :: st) w = Rv 90 50 ls (.ref x :: .ref x :: st) w := R_next Q90 (by decide +kernel) rfl
theorem e90_50 {ls : zL} {st : List Value} {w : zW} {a : Nat} : Rv 90 50 ls (.ref a :: st) w = gF w a 3 3 fun v => Rv 90 53 ls (v :: st) w := R_gF (z := 208) Q90 (by decide +kernel) rfl
theorem e90_53 {ls : zL} {st : List Value} {w : zW} : Rv 90 53 ls st w = Rv 90 54 ls (.int 1 :: st) w := R_con Q90 (by decide +kernel) rfl (by decide)
theorem e90_54 {ls : zL} {st : List Value} {w : zW} {x y : Int32} : Rv 90 54 ls (.int y :: .int x :: st) w = Rv 90 55 ls (.int (x + y) :: st) w := R_next Q90 (by decide +kernel) rfl
theorem e90_55 {ls : zL} {st : List Value} {w : zW} {x : Int32} {a : Nat} : Rv 90 55 ls (.int x :: .ref a :: st) w = pF w a 3 3 (.int x) fun w' => Rv 90 58 ls st w' := R_pF (z := 208) Q90 (by decide +kernel) rfl ⟨by decide, rfl, Or.inl rfl⟩
theorem e90_58 {ls : zL} {w : zW} : Rv 90 58 ls [] w = some (.inl none, w) := R_retV Q90 (by decide +kernel) rfl
/-! MasterPins$Survey.valueOfWork -/
theorem e91_0 {ls : zL} {st : List Value} {w : zW} : Rv 91 0 ls st w = ldI ls 1 fun x => Rv 91 1 ls (.int x :: st) w := R_ldI Q91 (by decide +kernel) rfl
theorem e91_1 {ls : zL} {st : List Value} {w : zW} : Rv 91 1 ls st w = ldA ls 0 fun x => Rv 91 2 ls (x :: st) w := R_ldA Q91 (by decide +kernel) rfl
theorem e91_2 {ls : zL} {st : List Value} {w : zW} {a : Nat} : Rv 91 2 ls (.ref a :: st) w = gF w a 3 3 fun v => Rv 91 5 ls (v :: st) w := R_gF (z := 208) Q91 (by decide +kernel) rfl
theorem e91_5 {ls : zL} {st : List Value} {w : zW} {x y : Int32} : Rv 91 5 ls (.int y :: .int x :: st) w = if x < y then Rv 91 10 ls st w else Rv 91 8 ls st w := R_filt Q91 (by decide +kernel) rfl rfl
theorem e91_8 {ls : zL} {st : List Value} {w : zW} : Rv 91 8 ls st w = Rv 91 9 ls (.int (-1) :: st) w := R_con Q91 (by decide +kernel) rfl (by decide)
theorem e91_9 {ls : zL} {w : zW} {x : Int32} : Rv 91 9 ls [.int x] w = some (.inl (some (.int x)), w) := R_retI Q91 (by decide +kernel) rfl
theorem e91_10 {ls : zL} {st : List Value} {w : zW} : Rv 91 10 ls st w = ldA ls 0 fun x => Rv 91 11 ls (x :: st) w := R_ldA Q91 (by decide +kernel) rfl
theorem e91_11 {ls : zL} {st : List Value} {w : zW} {a : Nat} : Rv 91 11 ls (.ref a :: st) w = gF w a 3 2 fun v => Rv 91 14 ls (v :: st) w := R_gF (z := 207) Q91 (by decide +kernel) rfl
theorem e91_14 {ls : zL} {st : List Value} {w : zW} : Rv 91 14 ls st w = ldI ls 1 fun x => Rv 91 15 ls (.int x :: st) w := R_ldI Q91 (by decide +kernel) rfl
theorem e91_15 {ls : zL} {st : List Value} {w : zW} {a : Nat} {x : Int32} : Rv 91 15 ls (.int x :: .ref a :: st) w = gI w a 0 8 x fun v => Rv 91 16 ls (.int v :: st) w := R_iald Q91 (by decide +kernel)
theorem e91_16 {ls : zL} {st : List Value} {w : zW} : Rv 91 16 ls st w = Rv 91 18 ls (.int 16 :: st) w := R_con Q91 (by decide +kernel) rfl (by decide)
theorem e91_18 {ls : zL} {st : List Value} {w : zW} {x y : Int32} : Rv 91 18 ls (.int y :: .int x :: st) w = if y = 0 then none else Rv 91 19 ls (.int (rmi x y) :: st) w := R_rem Q91 (by decide +kernel)
theorem e91_19 {ls : zL} {st : List Value} {w : zW} {x : Int32} : Rv 91 19 ls (.int x :: st) w = lst ls 3 (some (.int x)) fun l => Rv 91 20 l st w := R_st Q91 (by decide +kernel) rfl
theorem e91_20 {ls : zL} {st : List Value} {w : zW} : Rv 91 20 ls st w = ldI ls 2 fun x => Rv 91 21 ls (.int x :: st) w := R_ldI Q91 (by decide +kernel) rfl
theorem e91_21 {ls : zL} {st : List Value} {w : zW} {x : Int32} : Rv 91 21 ls (.int x :: st) w = lsw x 59 (fun t => Rv 91 t ls st w) [(0, 48), (1, 50)] := R_lsw Q91 (by decide +kernel) (by decide +kernel) rfl rfl (by decide +kernel)
theorem e91_48 {ls : zL} {st : List Value} {w : zW} : Rv 91 48 ls st w = ldI ls 3 fun x => Rv 91 49 ls (.int x :: st) w := R_ldI Q91 (by decide +kernel) rfl
theorem e91_49 {ls : zL} {w : zW} {x : Int32} : Rv 91 49 ls [.int x] w = some (.inl (some (.int x)), w) := R_retI Q91 (by decide +kernel) rfl
theorem e91_50 {ls : zL} {st : List Value} {w : zW} : Rv 91 50 ls st w = ldA ls 0 fun x => Rv 91 51 ls (x :: st) w := R_ldA Q91 (by decide +kernel) rfl
theorem e91_51 {ls : zL} {st : List Value} {w : zW} {a : Nat} : Rv 91 51 ls (.ref a :: st) w = gF w a 3 0 fun v => Rv 91 54 ls (v :: st) w := R_gF (z := 205) Q91 (by decide +kernel) rfl
theorem e91_54 {ls : zL} {st : List Value} {w : zW} : Rv 91 54 ls st w = ldI ls 3 fun x => Rv 91 55 ls (.int x :: st) w := R_ldI Q91 (by decide +kernel) rfl
theorem e91_55 {ls : zL} {w : zW} {n1 : Int32} {a0 : Nat} : Rv 91 55 ls [.int n1, .ref a0] w = hO w a0 2 (cal (Rv 79 0 [some (.ref a0), some (.int n1)] [] w) (fun v w' => Rv 91 58 ls (vts v []) w') (xnone)) := R_calV (z := 382) (r := []) Q91 (by decide +kernel) rfl rfl Q79 rfl rfl rfl
theorem e91_58 {ls : zL} {w : zW} {x : Int32} : Rv 91 58 ls [.int x] w = some (.inl (some (.int x)), w) := R_retI Q91 (by decide +kernel) rfl
theorem e91_59 {ls : zL} {st : List Value} {w : zW} : Rv 91 59 ls st w = ldA ls 0 fun x => Rv 91 60 ls (x :: st) w := R_ldA Q91 (by decide +kernel) rfl
theorem e91_60 {ls : zL} {st : List Value} {w : zW} {a : Nat} : Rv 91 60 ls (.ref a :: st) w = gF w a 3 0 fun v => Rv 91 63 ls (v :: st) w := R_gF (z := 205) Q91 (by decide +kernel) rfl
theorem e91_63 {ls : zL} {st : List Value} {w : zW} : Rv 91 63 ls st w = ldI ls 3 fun x => Rv 91 64 ls (.int x :: st) w := R_ldI Q91 (by decide +kernel) rfl
theorem e91_64 {ls : zL} {w : zW} {n1 : Int32} {a0 : Nat} : Rv 91 64 ls [.int n1, .ref a0] w = hO w a0 2 (cal (Rv 71 0 [some (.ref a0), some (.int n1)] [] w) (fun v w' => Rv 91 67 ls (vts v []) w') (xnone)) := R_calV (z := 398) (r := []) Q91 (by decide +kernel) rfl rfl Q71 rfl rfl rfl
theorem e91_67 {ls : zL} {w : zW} {x : Int32} : Rv 91 67 ls [.int x] w = some (.inl (some (.int x)), w) := R_retI Q91 (by decide +kernel) rfl
/-! MasterPins$Survey.countFree -/
theorem e92_0 {ls : zL} {st : List Value} {w : zW} : Rv 92 0 ls st w = Rv 92 1 ls (.int 0 :: st) w := R_con Q92 (by decide +kernel) rfl (by decide)
theorem e92_1 {ls : zL} {st : List Value} {w : zW} {x : Int32} : Rv 92 1 ls (.int x :: st) w = lst ls 1 (some (.int x)) fun l => Rv 92 2 l st w := R_st Q92 (by decide +kernel) rfl
theorem e92_2 {ls : zL} {st : List Value} {w : zW} : Rv 92 2 ls st w = Rv 92 3 ls (.int 0 :: st) w := R_con Q92 (by decide +kernel) rfl (by decide)
theorem e92_3 {ls : zL} {st : List Value} {w : zW} {x : Int32} : Rv 92 3 ls (.int x :: st) w = lst ls 2 (some (.int x)) fun l => Rv 92 4 l st w := R_st Q92 (by decide +kernel) rfl
theorem h92_4 {ls : zL} {st : List Value} {w : zW} : Rv 92 4 ls st w = ldI ls 2 fun x => Rv 92 5 ls (.int x :: st) w := R_ldI Q92 (by decide +kernel) rfl
theorem e92_5 {ls : zL} {st : List Value} {w : zW} : Rv 92 5 ls st w = ldA ls 0 fun x => Rv 92 6 ls (x :: st) w := R_ldA Q92 (by decide +kernel) rfl
theorem e92_6 {ls : zL} {st : List Value} {w : zW} {a : Nat} : Rv 92 6 ls (.ref a :: st) w = gF w a 3 1 fun v => Rv 92 9 ls (v :: st) w := R_gF (z := 206) Q92 (by decide +kernel) rfl
theorem e92_9 {ls : zL} {st : List Value} {w : zW} {a : Nat} : Rv 92 9 ls (.ref a :: st) w = gF w a 1 2 fun v => Rv 92 12 ls (v :: st) w := R_gF (z := 184) Q92 (by decide +kernel) rfl
theorem e92_12 {ls : zL} {st : List Value} {w : zW} {x y : Int32} : Rv 92 12 ls (.int y :: .int x :: st) w = if x < y then Rv 92 15 ls st w else Rv 92 43 ls st w := R_fige Q92 (by decide +kernel) rfl rfl
theorem e92_15 {ls : zL} {st : List Value} {w : zW} : Rv 92 15 ls st w = ldA ls 0 fun x => Rv 92 16 ls (x :: st) w := R_ldA Q92 (by decide +kernel) rfl
theorem e92_16 {ls : zL} {st : List Value} {w : zW} {a : Nat} : Rv 92 16 ls (.ref a :: st) w = gF w a 3 0 fun v => Rv 92 19 ls (v :: st) w := R_gF (z := 205) Q92 (by decide +kernel) rfl
theorem e92_19 {ls : zL} {st : List Value} {w : zW} : Rv 92 19 ls st w = ldA ls 0 fun x => Rv 92 20 ls (x :: st) w := R_ldA Q92 (by decide +kernel) rfl
theorem e92_20 {ls : zL} {st : List Value} {w : zW} {a : Nat} : Rv 92 20 ls (.ref a :: st) w = gF w a 3 1 fun v => Rv 92 23 ls (v :: st) w := R_gF (z := 206) Q92 (by decide +kernel) rfl
theorem e92_23 {ls : zL} {st : List Value} {w : zW} : Rv 92 23 ls st w = ldI ls 2 fun x => Rv 92 24 ls (.int x :: st) w := R_ldI Q92 (by decide +kernel) rfl
theorem e92_24 {ls : zL} {w : zW} {n1 : Int32} {a0 : Nat} {a2 : Nat} : Rv 92 24 ls [.int n1, .ref a0, .ref a2] w = hO w a0 1 (cal (Rv 27 0 [some (.ref a0), some (.int n1)] [] w) (fun v w' => Rv 92 27 ls (vts v [.ref a2]) w') (xnone)) := R_calV (z := 414) (r := [.ref a2]) Q92 (by decide +kernel) rfl rfl Q27 rfl rfl rfl
theorem e92_27 {ls : zL} {st : List Value} {w : zW} : Rv 92 27 ls st w = Rv 92 28 ls (.int (-1) :: st) w := R_con Q92 (by decide +kernel) rfl (by decide)
theorem e92_28 {ls : zL} {w : zW} {n1 : Int32} {n2 : Int32} {a0 : Nat} : Rv 92 28 ls [.int n1, .int n2, .ref a0] w = hO w a0 2 (cal (Rv 60 0 [some (.ref a0), some (.int n2), some (.int n1), none] [] w) (fun v w' => Rv 92 31 ls (vts v []) w') (xnone)) := R_calV (z := 418) (r := []) Q92 (by decide +kernel) rfl rfl Q60 rfl rfl rfl
theorem e92_31 {ls : zL} {st : List Value} {w : zW} {x : Int32} : Rv 92 31 ls (.int x :: st) w = if x = 0 then Rv 92 37 ls st w else Rv 92 34 ls st w := R_f0eq Q92 (by decide +kernel) rfl rfl
theorem e92_34 {ls : zL} {st : List Value} {w : zW} : Rv 92 34 ls st w = ldI ls 1 fun x => lst ls 1 (some (.int (x + 1))) fun l => Rv 92 37 l st w := R_iinc Q92 (by decide +kernel) (by decide)
theorem e92_37 {ls : zL} {st : List Value} {w : zW} : Rv 92 37 ls st w = ldI ls 2 fun x => lst ls 2 (some (.int (x + 1))) fun l => Rv 92 40 l st w := R_iinc Q92 (by decide +kernel) (by decide)
theorem e92_40 {ls : zL} {st : List Value} {w : zW} : Rv 92 40 ls st w = Rv 92 4 ls st w := R_go Q92 (by decide +kernel) rfl rfl
theorem e92_43 {ls : zL} {st : List Value} {w : zW} : Rv 92 43 ls st w = ldI ls 1 fun x => Rv 92 44 ls (.int x :: st) w := R_ldI Q92 (by decide +kernel) rfl
theorem e92_44 {ls : zL} {w : zW} {x : Int32} : Rv 92 44 ls [.int x] w = some (.inl (some (.int x)), w) := R_retI Q92 (by decide +kernel) rfl
/-! MasterPins$Survey.bestOtherCode -/
theorem e93_0 {ls : zL} {st : List Value} {w : zW} : Rv 93 0 ls st w = Rv 93 1 ls (.int (-1) :: st) w := R_con Q93 (by decide +kernel) rfl (by decide)
theorem e93_1 {ls : zL} {st : List Value} {w : zW} {x : Int32} : Rv 93 1 ls (.int x :: st) w = lst ls 2 (some (.int x)) fun l => Rv 93 2 l st w := R_st Q93 (by decide +kernel) rfl
theorem e93_2 {ls : zL} {st : List Value} {w : zW} : Rv 93 2 ls st w = Rv 93 4 ls (.int 2147483647 :: st) w := R_ldc Q93 (by decide +kernel) (by decide +kernel) (z := 984)
theorem e93_4 {ls : zL} {st : List Value} {w : zW} {x : Int32} : Rv 93 4 ls (.int x :: st) w = lst ls 3 (some (.int x)) fun l => Rv 93 5 l st w := R_st Q93 (by decide +kernel) rfl
theorem e93_5 {ls : zL} {st : List Value} {w : zW} : Rv 93 5 ls st w = Rv 93 6 ls (.int 0 :: st) w := R_con Q93 (by decide +kernel) rfl (by decide)
theorem e93_6 {ls : zL} {st : List Value} {w : zW} {x : Int32} : Rv 93 6 ls (.int x :: st) w = lst ls 4 (some (.int x)) fun l => Rv 93 8 l st w := R_st Q93 (by decide +kernel) rfl
theorem h93_8 {ls : zL} {st : List Value} {w : zW} : Rv 93 8 ls st w = ldI ls 4 fun x => Rv 93 10 ls (.int x :: st) w := R_ldI Q93 (by decide +kernel) rfl
theorem e93_10 {ls : zL} {st : List Value} {w : zW} : Rv 93 10 ls st w = ldA ls 0 fun x => Rv 93 11 ls (x :: st) w := R_ldA Q93 (by decide +kernel) rfl
theorem e93_11 {ls : zL} {st : List Value} {w : zW} {a : Nat} : Rv 93 11 ls (.ref a :: st) w = gF w a 3 1 fun v => Rv 93 14 ls (v :: st) w := R_gF (z := 206) Q93 (by decide +kernel) rfl
theorem e93_14 {ls : zL} {st : List Value} {w : zW} {a : Nat} : Rv 93 14 ls (.ref a :: st) w = gF w a 1 2 fun v => Rv 93 17 ls (v :: st) w := R_gF (z := 184) Q93 (by decide +kernel) rfl
theorem e93_17 {ls : zL} {st : List Value} {w : zW} {x y : Int32} : Rv 93 17 ls (.int y :: .int x :: st) w = if x < y then Rv 93 20 ls st w else Rv 93 78 ls st w := R_fige Q93 (by decide +kernel) rfl rfl
theorem e93_20 {ls : zL} {st : List Value} {w : zW} : Rv 93 20 ls st w = ldA ls 0 fun x => Rv 93 21 ls (x :: st) w := R_ldA Q93 (by decide +kernel) rfl
theorem e93_21 {ls : zL} {st : List Value} {w : zW} : Rv 93 21 ls st w = ldI ls 1 fun x => Rv 93 22 ls (.int x :: st) w := R_ldI Q93 (by decide +kernel) rfl
theorem e93_22 {ls : zL} {st : List Value} {w : zW} : Rv 93 22 ls st w = ldA ls 0 fun x => Rv 93 23 ls (x :: st) w := R_ldA Q93 (by decide +kernel) rfl
theorem e93_23 {ls : zL} {st : List Value} {w : zW} {a : Nat} : Rv 93 23 ls (.ref a :: st) w = gF w a 3 1 fun v => Rv 93 26 ls (v :: st) w := R_gF (z := 206) Q93 (by decide +kernel) rfl
theorem e93_26 {ls : zL} {st : List Value} {w : zW} : Rv 93 26 ls st w = ldI ls 4 fun x => Rv 93 28 ls (.int x :: st) w := R_ldI Q93 (by decide +kernel) rfl
theorem e93_28 {ls : zL} {w : zW} {n1 : Int32} {a0 : Nat} {n2 : Int32} {a3 : Nat} : Rv 93 28 ls [.int n1, .ref a0, .int n2, .ref a3] w = hO w a0 1 (cal (Rv 27 0 [some (.ref a0), some (.int n1)] [] w) (fun v w' => Rv 93 31 ls (vts v [.int n2, .ref a3]) w') (xnone)) := R_calV (z := 414) (r := [.int n2, .ref a3]) Q93 (by decide +kernel) rfl rfl Q27 rfl rfl rfl
theorem e93_31 {ls : zL} {w : zW} {n1 : Int32} {n2 : Int32} {a0 : Nat} : Rv 93 31 ls [.int n1, .int n2, .ref a0] w = hO w a0 3 (cal (Rv 94 0 [some (.ref a0), some (.int n2), some (.int n1), none] [] w) (fun v w' => Rv 93 34 ls (vts v []) w') (xnone)) := R_calV (z := 985) (r := []) Q93 (by decide +kernel) rfl rfl Q94 rfl rfl rfl
theorem e93_34 {ls : zL} {st : List Value} {w : zW} {x : Int32} : Rv 93 34 ls (.int x :: st) w = lst ls 5 (some (.int x)) fun l => Rv 93 36 l st w := R_st Q93 (by decide +kernel) rfl
theorem e93_36 {ls : zL} {st : List Value} {w : zW} : Rv 93 36 ls st w = ldI ls 5 fun x => Rv 93 38 ls (.int x :: st) w := R_ldI Q93 (by decide +kernel) rfl
theorem e93_38 {ls : zL} {st : List Value} {w : zW} : Rv 93 38 ls st w = ldI ls 3 fun x => Rv 93 39 ls (.int x :: st) w := R_ldI Q93 (by decide +kernel) rfl
theorem e93_39 {ls : zL} {st : List Value} {w : zW} {x y : Int32} : Rv 93 39 ls (.int y :: .int x :: st) w = if x < y then Rv 93 42 ls st w else Rv 93 72 ls st w := R_fige Q93 (by decide +kernel) rfl rfl
theorem e93_42 {ls : zL} {st : List Value} {w : zW} : Rv 93 42 ls st w = ldA ls 0 fun x => Rv 93 43 ls (x :: st) w := R_ldA Q93 (by decide +kernel) rfl
theorem e93_43 {ls : zL} {st : List Value} {w : zW} : Rv 93 43 ls st w = ldI ls 1 fun x => Rv 93 44 ls (.int x :: st) w := R_ldI Q93 (by decide +kernel) rfl
theorem e93_44 {ls : zL} {st : List Value} {w : zW} : Rv 93 44 ls st w = ldA ls 0 fun x => Rv 93 45 ls (x :: st) w := R_ldA Q93 (by decide +kernel) rfl
theorem e93_45 {ls : zL} {st : List Value} {w : zW} {a : Nat} : Rv 93 45 ls (.ref a :: st) w = gF w a 3 1 fun v => Rv 93 48 ls (v :: st) w := R_gF (z := 206) Q93 (by decide +kernel) rfl
theorem e93_48 {ls : zL} {st : List Value} {w : zW} : Rv 93 48 ls st w = ldI ls 4 fun x => Rv 93 50 ls (.int x :: st) w := R_ldI Q93 (by decide +kernel) rfl
theorem e93_50 {ls : zL} {w : zW} {n1 : Int32} {a0 : Nat} {n2 : Int32} {a3 : Nat} : Rv 93 50 ls [.int n1, .ref a0, .int n2, .ref a3] w = hO w a0 1 (cal (Rv 27 0 [some (.ref a0), some (.int n1)] [] w) (fun v w' => Rv 93 53 ls (vts v [.int n2, .ref a3]) w') (xnone)) := R_calV (z := 414) (r := [.int n2, .ref a3]) Q93 (by decide +kernel) rfl rfl Q27 rfl rfl rfl
theorem e93_53 {ls : zL} {w : zW} {n1 : Int32} {n2 : Int32} {a0 : Nat} : Rv 93 53 ls [.int n1, .int n2, .ref a0] w = hO w a0 3 (cal (Rv 95 0 [some (.ref a0), some (.int n2), some (.int n1)] [] w) (fun v w' => Rv 93 56 ls (vts v []) w') (xnone)) := R_calV (z := 997) (r := []) Q93 (by decide +kernel) rfl rfl Q95 rfl rfl rfl
theorem e93_56 {ls : zL} {st : List Value} {w : zW} {x : Int32} : Rv 93 56 ls (.int x :: st) w = if x = 0 then Rv 93 72 ls st w else Rv 93 59 ls st w := R_f0eq Q93 (by decide +kernel) rfl rfl
theorem e93_59 {ls : zL} {st : List Value} {w : zW} : Rv 93 59 ls st w = ldA ls 0 fun x => Rv 93 60 ls (x :: st) w := R_ldA Q93 (by decide +kernel) rfl
theorem e93_60 {ls : zL} {st : List Value} {w : zW} {a : Nat} : Rv 93 60 ls (.ref a :: st) w = gF w a 3 1 fun v => Rv 93 63 ls (v :: st) w := R_gF (z := 206) Q93 (by decide +kernel) rfl
theorem e93_63 {ls : zL} {st : List Value} {w : zW} : Rv 93 63 ls st w = ldI ls 4 fun x => Rv 93 65 ls (.int x :: st) w := R_ldI Q93 (by decide +kernel) rfl
theorem e93_65 {ls : zL} {w : zW} {n1 : Int32} {a0 : Nat} : Rv 93 65 ls [.int n1, .ref a0] w = hO w a0 1 (cal (Rv 26 0 [some (.ref a0), some (.int n1)] [] w) (fun v w' => Rv 93 68 ls (vts v []) w') (xnone)) := R_calV (z := 1003) (r := []) Q93 (by decide +kernel) rfl rfl Q26 rfl rfl rfl
theorem e93_68 {ls : zL} {st : List Value} {w : zW} {x : Int32} : Rv 93 68 ls (.int x :: st) w = lst ls 2 (some (.int x)) fun l => Rv 93 69 l st w := R_st Q93 (by decide +kernel) rfl
theorem e93_69 {ls : zL} {st : List Value} {w : zW} : Rv 93 69 ls st w = ldI ls 5 fun x => Rv 93 71 ls (.int x :: st) w := R_ldI Q93 (by decide +kernel) rfl
theorem e93_71 {ls : zL} {st : List Value} {w : zW} {x : Int32} : Rv 93 71 ls (.int x :: st) w = lst ls 3 (some (.int x)) fun l => Rv 93 72 l st w := R_st Q93 (by decide +kernel) rfl
theorem e93_72 {ls : zL} {st : List Value} {w : zW} : Rv 93 72 ls st w = ldI ls 4 fun x => lst ls 4 (some (.int (x + 1))) fun l => Rv 93 75 l st w := R_iinc Q93 (by decide +kernel) (by decide)
theorem e93_75 {ls : zL} {st : List Value} {w : zW} : Rv 93 75 ls st w = Rv 93 8 ls st w := R_go Q93 (by decide +kernel) rfl rfl
theorem e93_78 {ls : zL} {st : List Value} {w : zW} : Rv 93 78 ls st w = ldI ls 2 fun x => Rv 93 79 ls (.int x :: st) w := R_ldI Q93 (by decide +kernel) rfl
theorem e93_79 {ls : zL} {w : zW} {x : Int32} : Rv 93 79 ls [.int x] w = some (.inl (some (.int x)), w) := R_retI Q93 (by decide +kernel) rfl
/-! MasterPins$Survey.costOfChange -/
theorem e94_0 {ls : zL} {st : List Value} {w : zW} : Rv 94 0 ls st w = ldA ls 0 fun x => Rv 94 1 ls (x :: st) w := R_ldA Q94 (by decide +kernel) rfl
theorem e94_1 {ls : zL} {st : List Value} {w : zW} {a : Nat} : Rv 94 1 ls (.ref a :: st) w = gF w a 3 0 fun v => Rv 94 4 ls (v :: st) w := R_gF (z := 205) Q94 (by decide +kernel) rfl
theorem e94_4 {ls : zL} {st : List Value} {w : zW} : Rv 94 4 ls st w = ldI ls 1 fun x => Rv 94 5 ls (.int x :: st) w := R_ldI Q94 (by decide +kernel) rfl
theorem e94_5 {ls : zL} {w : zW} {n1 : Int32} {a0 : Nat} : Rv 94 5 ls [.int n1, .ref a0] w = hO w a0 2 (cal (Rv 63 0 [some (.ref a0), some (.int n1)] [] w) (fun v w' => Rv 94 8 ls (vts v []) w') (xnone)) := R_calV (z := 989) (r := []) Q94 (by decide +kernel) rfl rfl Q63 rfl rfl rfl
theorem e94_8 {ls : zL} {st : List Value} {w : zW} {x : Int32} : Rv 94 8 ls (.int x :: st) w = lst ls 3 (some (.int x)) fun l => Rv 94 9 l st w := R_st Q94 (by decide +kernel) rfl
theorem e94_9 {ls : zL} {st : List Value} {w : zW} : Rv 94 9 ls st w = ldI ls 2 fun x => Rv 94 10 ls (.int x :: st) w := R_ldI Q94 (by decide +kernel) rfl
theorem e94_10 {ls : zL} {st : List Value} {w : zW} : Rv 94 10 ls st w = ldI ls 3 fun x => Rv 94 11 ls (.int x :: st) w := R_ldI Q94 (by decide +kernel) rfl
theorem e94_11 {ls : zL} {st : List Value} {w : zW} : Rv 94 11 ls st w = ldA ls 0 fun x => Rv 94 12 ls (x :: st) w := R_ldA Q94 (by decide +kernel) rfl
theorem e94_12 {ls : zL} {st : List Value} {w : zW} {a : Nat} : Rv 94 12 ls (.ref a :: st) w = gF w a 3 0 fun v => Rv 94 15 ls (v :: st) w := R_gF (z := 205) Q94 (by decide +kernel) rfl
theorem e94_15 {ls : zL} {st : List Value} {w : zW} {a : Nat} : Rv 94 15 ls (.ref a :: st) w = gF w a 2 0 fun v => Rv 94 18 ls (v :: st) w := R_gF (z := 125) Q94 (by decide +kernel) rfl
theorem e94_18 {ls : zL} {w : zW} {n1 : Int32} {n2 : Int32} {n3 : Int32} : Rv 94 18 ls [.int n1, .int n2, .int n3] w = cal (Rv 20 0 [some (.int n3), some (.int n2), some (.int n1)] [] w) (fun v w' => Rv 94 21 ls (vts v []) w') (xnone) := R_calS (z := 993) (kd := 1) (n := 3) Q94 (by decide +kernel) rfl (Or.inl rfl) (Nat.le_of_ble_eq_true rfl) rfl Q20 rfl rfl rfl
theorem e94_21 {ls : zL} {st : List Value} {w : zW} : Rv 94 21 ls st w = Rv 94 23 ls (.int 100 :: st) w := R_con Q94 (by decide +kernel) rfl (by decide)
theorem e94_23 {ls : zL} {st : List Value} {w : zW} {x y : Int32} : Rv 94 23 ls (.int y :: .int x :: st) w = Rv 94 24 ls (.int (x * y) :: st) w := R_next Q94 (by decide +kernel) rfl
theorem e94_24 {ls : zL} {st : List Value} {w : zW} : Rv 94 24 ls st w = ldI ls 2 fun x => Rv 94 25 ls (.int x :: st) w := R_ldI Q94 (by decide +kernel) rfl
theorem e94_25 {ls : zL} {st : List Value} {w : zW} : Rv 94 25 ls st w = ldI ls 3 fun x => Rv 94 26 ls (.int x :: st) w := R_ldI Q94 (by decide +kernel) rfl
theorem e94_26 {ls : zL} {st : List Value} {w : zW} : Rv 94 26 ls st w = ldA ls 0 fun x => Rv 94 27 ls (x :: st) w := R_ldA Q94 (by decide +kernel) rfl
theorem e94_27 {ls : zL} {st : List Value} {w : zW} {a : Nat} : Rv 94 27 ls (.ref a :: st) w = gF w a 3 0 fun v => Rv 94 30 ls (v :: st) w := R_gF (z := 205) Q94 (by decide +kernel) rfl
theorem e94_30 {ls : zL} {st : List Value} {w : zW} {a : Nat} : Rv 94 30 ls (.ref a :: st) w = gF w a 2 0 fun v => Rv 94 33 ls (v :: st) w := R_gF (z := 125) Q94 (by decide +kernel) rfl
theorem e94_33 {ls : zL} {w : zW} {n1 : Int32} {n2 : Int32} {n3 : Int32} {n4 : Int32} : Rv 94 33 ls [.int n1, .int n2, .int n3, .int n4] w = cal (Rv 21 0 [some (.int n3), some (.int n2), some (.int n1), none, none] [] w) (fun v w' => Rv 94 36 ls (vts v [.int n4]) w') (xnone) := R_calS (z := 994) (kd := 1) (n := 3) Q94 (by decide +kernel) rfl (Or.inl rfl) (Nat.le_of_ble_eq_true rfl) rfl Q21 rfl rfl rfl
theorem e94_36 {ls : zL} {st : List Value} {w : zW} {x y : Int32} : Rv 94 36 ls (.int y :: .int x :: st) w = Rv 94 37 ls (.int (x + y) :: st) w := R_next Q94 (by decide +kernel) rfl
theorem e94_37 {ls : zL} {w : zW} {x : Int32} : Rv 94 37 ls [.int x] w = some (.inl (some (.int x)), w) := R_retI Q94 (by decide +kernel) rfl
/-! MasterPins$Survey.isBetter -/
theorem e95_0 {ls : zL} {st : List Value} {w : zW} : Rv 95 0 ls st w = ldI ls 2 fun x => Rv 95 1 ls (.int x :: st) w := R_ldI Q95 (by decide +kernel) rfl
theorem e95_1 {ls : zL} {st : List Value} {w : zW} : Rv 95 1 ls st w = ldA ls 0 fun x => Rv 95 2 ls (x :: st) w := R_ldA Q95 (by decide +kernel) rfl
theorem e95_2 {ls : zL} {st : List Value} {w : zW} {a : Nat} : Rv 95 2 ls (.ref a :: st) w = gF w a 3 0 fun v => Rv 95 5 ls (v :: st) w := R_gF (z := 205) Q95 (by decide +kernel) rfl
theorem e95_5 {ls : zL} {st : List Value} {w : zW} : Rv 95 5 ls st w = ldI ls 1 fun x => Rv 95 6 ls (.int x :: st) w := R_ldI Q95 (by decide +kernel) rfl
theorem e95_6 {ls : zL} {w : zW} {n1 : Int32} {a0 : Nat} {n2 : Int32} : Rv 95 6 ls [.int n1, .ref a0, .int n2] w = hO w a0 2 (cal (Rv 63 0 [some (.ref a0), some (.int n1)] [] w) (fun v w' => Rv 95 9 ls (vts v [.int n2]) w') (xnone)) := R_calV (z := 989) (r := [.int n2]) Q95 (by decide +kernel) rfl rfl Q63 rfl rfl rfl
theorem e95_9 {ls : zL} {st : List Value} {w : zW} {x y : Int32} : Rv 95 9 ls (.int y :: .int x :: st) w = if x = y then Rv 95 50 ls st w else Rv 95 12 ls st w := R_fieq Q95 (by decide +kernel) rfl rfl
theorem e95_12 {ls : zL} {st : List Value} {w : zW} : Rv 95 12 ls st w = ldA ls 0 fun x => Rv 95 13 ls (x :: st) w := R_ldA Q95 (by decide +kernel) rfl
theorem e95_13 {ls : zL} {st : List Value} {w : zW} {a : Nat} : Rv 95 13 ls (.ref a :: st) w = gF w a 3 0 fun v => Rv 95 16 ls (v :: st) w := R_gF (z := 205) Q95 (by decide +kernel) rfl
theorem e95_16 {ls : zL} {st : List Value} {w : zW} : Rv 95 16 ls st w = ldI ls 2 fun x => Rv 95 17 ls (.int x :: st) w := R_ldI Q95 (by decide +kernel) rfl
theorem e95_17 {ls : zL} {st : List Value} {w : zW} : Rv 95 17 ls st w = ldI ls 1 fun x => Rv 95 18 ls (.int x :: st) w := R_ldI Q95 (by decide +kernel) rfl
theorem e95_18 {ls : zL} {w : zW} {n1 : Int32} {n2 : Int32} {a0 : Nat} : Rv 95 18 ls [.int n1, .int n2, .ref a0] w = hO w a0 2 (cal (Rv 60 0 [some (.ref a0), some (.int n2), some (.int n1), none] [] w) (fun v w' => Rv 95 21 ls (vts v []) w') (xnone)) := R_calV (z := 418) (r := []) Q95 (by decide +kernel) rfl rfl Q60 rfl rfl rfl
theorem e95_21 {ls : zL} {st : List Value} {w : zW} {x : Int32} : Rv 95 21 ls (.int x :: st) w = if x = 0 then Rv 95 50 ls st w else Rv 95 24 ls st w := R_f0eq Q95 (by decide +kernel) rfl rfl
theorem e95_24 {ls : zL} {st : List Value} {w : zW} : Rv 95 24 ls st w = ldA ls 0 fun x => Rv 95 25 ls (x :: st) w := R_ldA Q95 (by decide +kernel) rfl
theorem e95_25 {ls : zL} {st : List Value} {w : zW} {a : Nat} : Rv 95 25 ls (.ref a :: st) w = gF w a 3 0 fun v => Rv 95 28 ls (v :: st) w := R_gF (z := 205) Q95 (by decide +kernel) rfl
theorem e95_28 {ls : zL} {st : List Value} {w : zW} : Rv 95 28 ls st w = ldI ls 2 fun x => Rv 95 29 ls (.int x :: st) w := R_ldI Q95 (by decide +kernel) rfl
theorem e95_29 {ls : zL} {w : zW} {n1 : Int32} {a0 : Nat} : Rv 95 29 ls [.int n1, .ref a0] w = hO w a0 2 (cal (Rv 73 0 [some (.ref a0), some (.int n1), none, none] [] w) (fun v w' => Rv 95 32 ls (vts v []) w') (xnone)) := R_calV (z := 1001) (r := []) Q95 (by decide +kernel) rfl rfl Q73 rfl rfl rfl
theorem e95_32 {ls : zL} {st : List Value} {w : zW} : Rv 95 32 ls st w = ldA ls 0 fun x => Rv 95 33 ls (x :: st) w := R_ldA Q95 (by decide +kernel) rfl
theorem e95_33 {ls : zL} {st : List Value} {w : zW} {a : Nat} : Rv 95 33 ls (.ref a :: st) w = gF w a 3 0 fun v => Rv 95 36 ls (v :: st) w := R_gF (z := 205) Q95 (by decide +kernel) rfl
theorem e95_36 {ls : zL} {st : List Value} {w : zW} : Rv 95 36 ls st w = ldI ls 1 fun x => Rv 95 37 ls (.int x :: st) w := R_ldI Q95 (by decide +kernel) rfl
theorem e95_37 {ls : zL} {w : zW} {n1 : Int32} {a0 : Nat} {n2 : Int32} : Rv 95 37 ls [.int n1, .ref a0, .int n2] w = hO w a0 2 (cal (Rv 74 0 [some (.ref a0), some (.int n1), none, none] [] w) (fun v w' => Rv 95 40 ls (vts v [.int n2]) w') (xnone)) := R_calV (z := 1002) (r := [.int n2]) Q95 (by decide +kernel) rfl rfl Q74 rfl rfl rfl
theorem e95_40 {ls : zL} {st : List Value} {w : zW} : Rv 95 40 ls st w = Rv 95 41 ls (.int (-1) :: st) w := R_con Q95 (by decide +kernel) rfl (by decide)
theorem e95_41 {ls : zL} {st : List Value} {w : zW} {x y : Int32} : Rv 95 41 ls (.int y :: .int x :: st) w = Rv 95 42 ls (.int (x ^^^ y) :: st) w := R_next Q95 (by decide +kernel) rfl
theorem e95_42 {ls : zL} {st : List Value} {w : zW} {x y : Int32} : Rv 95 42 ls (.int y :: .int x :: st) w = Rv 95 43 ls (.int (x &&& y) :: st) w := R_next Q95 (by decide +kernel) rfl
theorem e95_43 {ls : zL} {st : List Value} {w : zW} {x : Int32} : Rv 95 43 ls (.int x :: st) w = if x = 0 then Rv 95 46 ls st w else Rv 95 50 ls st w := R_f0ne Q95 (by decide +kernel) rfl rfl
theorem e95_46 {ls : zL} {st : List Value} {w : zW} : Rv 95 46 ls st w = Rv 95 47 ls (.int 1 :: st) w := R_con Q95 (by decide +kernel) rfl (by decide)
theorem e95_47 {ls : zL} {st : List Value} {w : zW} : Rv 95 47 ls st w = Rv 95 51 ls st w := R_go Q95 (by decide +kernel) rfl rfl
theorem e95_50 {ls : zL} {st : List Value} {w : zW} : Rv 95 50 ls st w = Rv 95 51 ls (.int 0 :: st) w := R_con Q95 (by decide +kernel) rfl (by decide)
theorem e95_51 {ls : zL} {w : zW} {x : Int32} : Rv 95 51 ls [.int x] w = if x = 0 ∨ x = 1 then some (.inl (some (.int x)), w) else none := R_retZ Q95 (by decide +kernel) rfl
/-! MasterPins$UndoStack.<init> -/
theorem e96_0 {ls : zL} {st : List Value} {w : zW} : Rv 96 0 ls st w = ldA ls 0 fun x => Rv 96 1 ls (x :: st) w := R_ldA Q96 (by decide +kernel) rfl
theorem e96_1 {ls : zL} {w : zW}  {a : Nat} : Rv 96 1 ls [.ref a] w = Rv 96 4 ls [] w := R_obj (z := (0, 0, 224)) Q96 (by decide +kernel) rfl ⟨Nat.le_of_ble_eq_true rfl, Nat.le_of_ble_eq_true rfl, Nat.le_of_ble_eq_true rfl⟩
theorem e96_4 {ls : zL} {st : List Value} {w : zW} : Rv 96 4 ls st w = ldA ls 0 fun x => Rv 96 5 ls (x :: st) w := R_ldA Q96 (by decide +kernel) rfl
theorem e96_5 {ls : zL} {st : List Value} {w : zW} : Rv 96 5 ls st w = Rv 96 6 ls (.int 4 :: st) w := R_con Q96 (by decide +kernel) rfl (by decide)
theorem e96_6 {ls : zL} {st : List Value} {w : zW} : Rv 96 6 ls (.int 4 :: st) w = nw w 4 (.inl (3, 4, .inr (.inr (.inr (.inr fun _ => none))))) fun a w' => Rv 96 9 ls (.ref a :: st) w' := R_anew (z := (3, 225)) Q96 (by decide +kernel) rfl rfl (by decide) (by decide)
theorem e96_9 {ls : zL} {st : List Value} {w : zW} {x : Nat} {a : Nat} : Rv 96 9 ls (.ref x :: .ref a :: st) w = pF w a 4 0 (.ref x) fun w' => Rv 96 12 ls st w' := R_pF (z := 228) Q96 (by decide +kernel) rfl ⟨by decide, rfl, Or.inr ⟨rfl, rfl⟩⟩
theorem e96_9n {ls : zL} {st : List Value} {w : zW}  {a : Nat} : Rv 96 9 ls (.null :: .ref a :: st) w = pF w a 4 0 (.null) fun w' => Rv 96 12 ls st w' := R_pF (z := 228) Q96 (by decide +kernel) rfl ⟨by decide, rfl, Or.inr ⟨rfl, rfl⟩⟩
theorem e96_12 {ls : zL} {st : List Value} {w : zW} : Rv 96 12 ls st w = Rv 96 13 ls (.int 0 :: st) w := R_con Q96 (by decide +kernel) rfl (by decide)
theorem e96_13 {ls : zL} {st : List Value} {w : zW} {x : Int32} : Rv 96 13 ls (.int x :: st) w = lst ls 1 (some (.int x)) fun l => Rv 96 14 l st w := R_st Q96 (by decide +kernel) rfl
theorem h96_14 {ls : zL} {st : List Value} {w : zW} : Rv 96 14 ls st w = ldI ls 1 fun x => Rv 96 15 ls (.int x :: st) w := R_ldI Q96 (by decide +kernel) rfl
theorem e96_15 {ls : zL} {st : List Value} {w : zW} : Rv 96 15 ls st w = Rv 96 16 ls (.int 4 :: st) w := R_con Q96 (by decide +kernel) rfl (by decide)
theorem e96_16 {ls : zL} {st : List Value} {w : zW} {x y : Int32} : Rv 96 16 ls (.int y :: .int x :: st) w = if x < y then Rv 96 19 ls st w else Rv 96 38 ls st w := R_fige Q96 (by decide +kernel) rfl rfl
theorem e96_19 {ls : zL} {st : List Value} {w : zW} : Rv 96 19 ls st w = ldA ls 0 fun x => Rv 96 20 ls (x :: st) w := R_ldA Q96 (by decide +kernel) rfl
theorem e96_20 {ls : zL} {st : List Value} {w : zW} {a : Nat} : Rv 96 20 ls (.ref a :: st) w = gF w a 4 0 fun v => Rv 96 23 ls (v :: st) w := R_gF (z := 228) Q96 (by decide +kernel) rfl
theorem e96_23 {ls : zL} {st : List Value} {w : zW} : Rv 96 23 ls st w = ldI ls 1 fun x => Rv 96 24 ls (.int x :: st) w := R_ldI Q96 (by decide +kernel) rfl
theorem e96_24 {ls : zL} {st : List Value} {w : zW} : Rv 96 24 ls st w = nw w 12 (.inr (2, [.int 0, .int 0, .null, .int 0, .null, .null, .null, .null, .int 0, .int 0, .null, .null])) fun a w' => Rv 96 27 ls (.ref a :: st) w' := R_new (z := 225) Q96 (by decide +kernel) rfl rfl
theorem e96_27 {ls : zL} {st : List Value} {w : zW} {x : Nat} : Rv 96 27 ls (.ref x :: st) w = Rv 96 28 ls (.ref x :: .ref x :: st) w := R_next Q96 (by decide +kernel) rfl
theorem e96_28 {ls : zL} {w : zW} {a0 : Nat} {a1 : Nat} {n2 : Int32} {a3 : Nat} : Rv 96 28 ls [.ref a0, .ref a1, .int n2, .ref a3] w = cal (Rv 30 0 [some (.ref a0)] [] w) (fun v w' => Rv 96 31 ls (vts v [.ref a1, .int n2, .ref a3]) w') (xnone) := R_calI (z := 227) (r := [.ref a1, .int n2, .ref a3]) (kd := 0) Q96 (by decide +kernel) rfl rfl rfl Q30 rfl rfl rfl
theorem e96_31 {ls : zL} {st : List Value} {w : zW} {a b : Nat} {x : Int32} : Rv 96 31 ls (.ref b :: .int x :: .ref a :: st) w = pR w a x b fun w' => Rv 96 32 ls st w' := R_aast Q96 (by decide +kernel)
theorem e96_32 {ls : zL} {st : List Value} {w : zW} : Rv 96 32 ls st w = ldI ls 1 fun x => lst ls 1 (some (.int (x + 1))) fun l => Rv 96 35 l st w := R_iinc Q96 (by decide +kernel) (by decide)
theorem e96_35 {ls : zL} {st : List Value} {w : zW} : Rv 96 35 ls st w = Rv 96 14 ls st w := R_go Q96 (by decide +kernel) rfl rfl
theorem e96_38 {ls : zL} {w : zW} : Rv 96 38 ls [] w = some (.inl none, w) := R_retV Q96 (by decide +kernel) rfl
/-! MasterPins$UndoStack.isEmpty -/
theorem e97_0 {ls : zL} {st : List Value} {w : zW} : Rv 97 0 ls st w = ldA ls 0 fun x => Rv 97 1 ls (x :: st) w := R_ldA Q97 (by decide +kernel) rfl
theorem e97_1 {ls : zL} {st : List Value} {w : zW} {a : Nat} : Rv 97 1 ls (.ref a :: st) w = gF w a 4 1 fun v => Rv 97 4 ls (v :: st) w := R_gF (z := 229) Q97 (by decide +kernel) rfl
theorem e97_4 {ls : zL} {st : List Value} {w : zW} {x : Int32} : Rv 97 4 ls (.int x :: st) w = if x = 0 then Rv 97 7 ls st w else Rv 97 11 ls st w := R_f0ne Q97 (by decide +kernel) rfl rfl
theorem e97_7 {ls : zL} {st : List Value} {w : zW} : Rv 97 7 ls st w = Rv 97 8 ls (.int 1 :: st) w := R_con Q97 (by decide +kernel) rfl (by decide)
theorem e97_8 {ls : zL} {st : List Value} {w : zW} : Rv 97 8 ls st w = Rv 97 12 ls st w := R_go Q97 (by decide +kernel) rfl rfl
theorem e97_11 {ls : zL} {st : List Value} {w : zW} : Rv 97 11 ls st w = Rv 97 12 ls (.int 0 :: st) w := R_con Q97 (by decide +kernel) rfl (by decide)
theorem e97_12 {ls : zL} {w : zW} {x : Int32} : Rv 97 12 ls [.int x] w = if x = 0 ∨ x = 1 then some (.inl (some (.int x)), w) else none := R_retZ Q97 (by decide +kernel) rfl
/-! MasterPins$UndoStack.save -/
theorem e98_0 {ls : zL} {st : List Value} {w : zW} : Rv 98 0 ls st w = ldA ls 0 fun x => Rv 98 1 ls (x :: st) w := R_ldA Q98 (by decide +kernel) rfl
theorem e98_1 {ls : zL} {st : List Value} {w : zW} {a : Nat} : Rv 98 1 ls (.ref a :: st) w = gF w a 4 1 fun v => Rv 98 4 ls (v :: st) w := R_gF (z := 229) Q98 (by decide +kernel) rfl
theorem e98_4 {ls : zL} {st : List Value} {w : zW} : Rv 98 4 ls st w = Rv 98 5 ls (.int 4 :: st) w := R_con Q98 (by decide +kernel) rfl (by decide)
theorem e98_5 {ls : zL} {st : List Value} {w : zW} {x y : Int32} : Rv 98 5 ls (.int y :: .int x :: st) w = if x < y then Rv 98 12 ls st w else Rv 98 8 ls st w := R_filt Q98 (by decide +kernel) rfl rfl
theorem e98_8 {ls : zL} {st : List Value} {w : zW} : Rv 98 8 ls st w = ldA ls 0 fun x => Rv 98 9 ls (x :: st) w := R_ldA Q98 (by decide +kernel) rfl
theorem e98_9 {ls : zL} {w : zW} {a0 : Nat} : Rv 98 9 ls [.ref a0] w = hO w a0 4 (cal (Rv 99 0 [some (.ref a0), none, none] [] w) (fun v w' => Rv 98 12 ls (vts v []) w') (xnone)) := R_calV (z := 286) (r := []) Q98 (by decide +kernel) rfl rfl Q99 rfl rfl rfl
theorem e98_12 {ls : zL} {st : List Value} {w : zW} : Rv 98 12 ls st w = ldA ls 0 fun x => Rv 98 13 ls (x :: st) w := R_ldA Q98 (by decide +kernel) rfl
theorem e98_13 {ls : zL} {st : List Value} {w : zW} {a : Nat} : Rv 98 13 ls (.ref a :: st) w = gF w a 4 0 fun v => Rv 98 16 ls (v :: st) w := R_gF (z := 228) Q98 (by decide +kernel) rfl
theorem e98_16 {ls : zL} {st : List Value} {w : zW} : Rv 98 16 ls st w = ldA ls 0 fun x => Rv 98 17 ls (x :: st) w := R_ldA Q98 (by decide +kernel) rfl
theorem e98_17 {ls : zL} {st : List Value} {w : zW} {a : Nat} : Rv 98 17 ls (.ref a :: st) w = gF w a 4 1 fun v => Rv 98 20 ls (v :: st) w := R_gF (z := 229) Q98 (by decide +kernel) rfl
theorem e98_20 {ls : zL} {st : List Value} {w : zW} {a : Nat} {x : Int32} : Rv 98 20 ls (.int x :: .ref a :: st) w = gR w a x fun v => Rv 98 21 ls (v :: st) w := R_aald Q98 (by decide +kernel)
theorem e98_21 {ls : zL} {st : List Value} {w : zW} : Rv 98 21 ls st w = ldA ls 1 fun x => Rv 98 22 ls (x :: st) w := R_ldA Q98 (by decide +kernel) rfl
theorem e98_22 {ls : zL} {w : zW} {a1 : Nat} {a0 : Nat} : Rv 98 22 ls [.ref a1, .ref a0] w = hO w a0 2 (cal (Rv 31 0 [some (.ref a0), some (.ref a1)] [] w) (fun v w' => Rv 98 25 ls (vts v []) w') (xnone)) := R_calV (z := 290) (r := []) Q98 (by decide +kernel) rfl rfl Q31 rfl rfl rfl
theorem e98_25 {ls : zL} {st : List Value} {w : zW} : Rv 98 25 ls st w = ldA ls 0 fun x => Rv 98 26 ls (x :: st) w := R_ldA Q98 (by decide +kernel) rfl
theorem e98_26 {ls : zL} {st : List Value} {w : zW} {x : Nat} : Rv 98 26 ls (.ref x :: st) w = Rv 98 27 ls (.ref x :: .ref x :: st) w := R_next Q98 (by decide +kernel) rfl
theorem e98_27 {ls : zL} {st : List Value} {w : zW} {a : Nat} : Rv 98 27 ls (.ref a :: st) w = gF w a 4 1 fun v => Rv 98 30 ls (v :: st) w := R_gF (z := 229) Q98 (by decide +kernel) rfl
theorem e98_30 {ls : zL} {st : List Value} {w : zW} : Rv 98 30 ls st w = Rv 98 31 ls (.int 1 :: st) w := R_con Q98 (by decide +kernel) rfl (by decide)
theorem e98_31 {ls : zL} {st : List Value} {w : zW} {x y : Int32} : Rv 98 31 ls (.int y :: .int x :: st) w = Rv 98 32 ls (.int (x + y) :: st) w := R_next Q98 (by decide +kernel) rfl
theorem e98_32 {ls : zL} {st : List Value} {w : zW} {x : Int32} {a : Nat} : Rv 98 32 ls (.int x :: .ref a :: st) w = pF w a 4 1 (.int x) fun w' => Rv 98 35 ls st w' := R_pF (z := 229) Q98 (by decide +kernel) rfl ⟨by decide, rfl, Or.inl rfl⟩
theorem e98_35 {ls : zL} {w : zW} : Rv 98 35 ls [] w = some (.inl none, w) := R_retV Q98 (by decide +kernel) rfl
/-! MasterPins$UndoStack.dropOldest -/
theorem e99_0 {ls : zL} {st : List Value} {w : zW} : Rv 99 0 ls st w = ldA ls 0 fun x => Rv 99 1 ls (x :: st) w := R_ldA Q99 (by decide +kernel) rfl
theorem e99_1 {ls : zL} {st : List Value} {w : zW} {a : Nat} : Rv 99 1 ls (.ref a :: st) w = gF w a 4 0 fun v => Rv 99 4 ls (v :: st) w := R_gF (z := 228) Q99 (by decide +kernel) rfl
theorem e99_4 {ls : zL} {st : List Value} {w : zW} : Rv 99 4 ls st w = Rv 99 5 ls (.int 0 :: st) w := R_con Q99 (by decide +kernel) rfl (by decide)
theorem e99_5 {ls : zL} {st : List Value} {w : zW} {a : Nat} {x : Int32} : Rv 99 5 ls (.int x :: .ref a :: st) w = gR w a x fun v => Rv 99 6 ls (v :: st) w := R_aald Q99 (by decide +kernel)
theorem e99_6 {ls : zL} {st : List Value} {w : zW} {x : Nat} : Rv 99 6 ls (.ref x :: st) w = lst ls 1 (some (.ref x)) fun l => Rv 99 7 l st w := R_st Q99 (by decide +kernel) rfl
theorem e99_6n {ls : zL} {st : List Value} {w : zW} : Rv 99 6 ls (.null :: st) w = lst ls 1 (some (.null)) fun l => Rv 99 7 l st w := R_st Q99 (by decide +kernel) rfl
theorem e99_7 {ls : zL} {st : List Value} {w : zW} : Rv 99 7 ls st w = Rv 99 8 ls (.int 1 :: st) w := R_con Q99 (by decide +kernel) rfl (by decide)
theorem e99_8 {ls : zL} {st : List Value} {w : zW} {x : Int32} : Rv 99 8 ls (.int x :: st) w = lst ls 2 (some (.int x)) fun l => Rv 99 9 l st w := R_st Q99 (by decide +kernel) rfl
theorem h99_9 {ls : zL} {st : List Value} {w : zW} : Rv 99 9 ls st w = ldI ls 2 fun x => Rv 99 10 ls (.int x :: st) w := R_ldI Q99 (by decide +kernel) rfl
theorem e99_10 {ls : zL} {st : List Value} {w : zW} : Rv 99 10 ls st w = Rv 99 11 ls (.int 4 :: st) w := R_con Q99 (by decide +kernel) rfl (by decide)
theorem e99_11 {ls : zL} {st : List Value} {w : zW} {x y : Int32} : Rv 99 11 ls (.int y :: .int x :: st) w = if x < y then Rv 99 14 ls st w else Rv 99 34 ls st w := R_fige Q99 (by decide +kernel) rfl rfl
theorem e99_14 {ls : zL} {st : List Value} {w : zW} : Rv 99 14 ls st w = ldA ls 0 fun x => Rv 99 15 ls (x :: st) w := R_ldA Q99 (by decide +kernel) rfl
theorem e99_15 {ls : zL} {st : List Value} {w : zW} {a : Nat} : Rv 99 15 ls (.ref a :: st) w = gF w a 4 0 fun v => Rv 99 18 ls (v :: st) w := R_gF (z := 228) Q99 (by decide +kernel) rfl
theorem e99_18 {ls : zL} {st : List Value} {w : zW} : Rv 99 18 ls st w = ldI ls 2 fun x => Rv 99 19 ls (.int x :: st) w := R_ldI Q99 (by decide +kernel) rfl
theorem e99_19 {ls : zL} {st : List Value} {w : zW} : Rv 99 19 ls st w = Rv 99 20 ls (.int 1 :: st) w := R_con Q99 (by decide +kernel) rfl (by decide)
theorem e99_20 {ls : zL} {st : List Value} {w : zW} {x y : Int32} : Rv 99 20 ls (.int y :: .int x :: st) w = Rv 99 21 ls (.int (x - y) :: st) w := R_next Q99 (by decide +kernel) rfl
theorem e99_21 {ls : zL} {st : List Value} {w : zW} : Rv 99 21 ls st w = ldA ls 0 fun x => Rv 99 22 ls (x :: st) w := R_ldA Q99 (by decide +kernel) rfl
theorem e99_22 {ls : zL} {st : List Value} {w : zW} {a : Nat} : Rv 99 22 ls (.ref a :: st) w = gF w a 4 0 fun v => Rv 99 25 ls (v :: st) w := R_gF (z := 228) Q99 (by decide +kernel) rfl
theorem e99_25 {ls : zL} {st : List Value} {w : zW} : Rv 99 25 ls st w = ldI ls 2 fun x => Rv 99 26 ls (.int x :: st) w := R_ldI Q99 (by decide +kernel) rfl
theorem e99_26 {ls : zL} {st : List Value} {w : zW} {a : Nat} {x : Int32} : Rv 99 26 ls (.int x :: .ref a :: st) w = gR w a x fun v => Rv 99 27 ls (v :: st) w := R_aald Q99 (by decide +kernel)
theorem e99_27 {ls : zL} {st : List Value} {w : zW} {a b : Nat} {x : Int32} : Rv 99 27 ls (.ref b :: .int x :: .ref a :: st) w = pR w a x b fun w' => Rv 99 28 ls st w' := R_aast Q99 (by decide +kernel)
theorem e99_28 {ls : zL} {st : List Value} {w : zW} : Rv 99 28 ls st w = ldI ls 2 fun x => lst ls 2 (some (.int (x + 1))) fun l => Rv 99 31 l st w := R_iinc Q99 (by decide +kernel) (by decide)
theorem e99_31 {ls : zL} {st : List Value} {w : zW} : Rv 99 31 ls st w = Rv 99 9 ls st w := R_go Q99 (by decide +kernel) rfl rfl
theorem e99_34 {ls : zL} {st : List Value} {w : zW} : Rv 99 34 ls st w = ldA ls 0 fun x => Rv 99 35 ls (x :: st) w := R_ldA Q99 (by decide +kernel) rfl
theorem e99_35 {ls : zL} {st : List Value} {w : zW} {a : Nat} : Rv 99 35 ls (.ref a :: st) w = gF w a 4 0 fun v => Rv 99 38 ls (v :: st) w := R_gF (z := 228) Q99 (by decide +kernel) rfl
theorem e99_38 {ls : zL} {st : List Value} {w : zW} : Rv 99 38 ls st w = Rv 99 39 ls (.int 3 :: st) w := R_con Q99 (by decide +kernel) rfl (by decide)
theorem e99_39 {ls : zL} {st : List Value} {w : zW} : Rv 99 39 ls st w = ldA ls 1 fun x => Rv 99 40 ls (x :: st) w := R_ldA Q99 (by decide +kernel) rfl
theorem e99_40 {ls : zL} {st : List Value} {w : zW} {a b : Nat} {x : Int32} : Rv 99 40 ls (.ref b :: .int x :: .ref a :: st) w = pR w a x b fun w' => Rv 99 41 ls st w' := R_aast Q99 (by decide +kernel)
theorem e99_41 {ls : zL} {st : List Value} {w : zW} : Rv 99 41 ls st w = ldA ls 0 fun x => Rv 99 42 ls (x :: st) w := R_ldA Q99 (by decide +kernel) rfl
theorem e99_42 {ls : zL} {st : List Value} {w : zW} {x : Nat} : Rv 99 42 ls (.ref x :: st) w = Rv 99 43 ls (.ref x :: .ref x :: st) w := R_next Q99 (by decide +kernel) rfl
theorem e99_43 {ls : zL} {st : List Value} {w : zW} {a : Nat} : Rv 99 43 ls (.ref a :: st) w = gF w a 4 1 fun v => Rv 99 46 ls (v :: st) w := R_gF (z := 229) Q99 (by decide +kernel) rfl
theorem e99_46 {ls : zL} {st : List Value} {w : zW} : Rv 99 46 ls st w = Rv 99 47 ls (.int 1 :: st) w := R_con Q99 (by decide +kernel) rfl (by decide)
theorem e99_47 {ls : zL} {st : List Value} {w : zW} {x y : Int32} : Rv 99 47 ls (.int y :: .int x :: st) w = Rv 99 48 ls (.int (x - y) :: st) w := R_next Q99 (by decide +kernel) rfl
theorem e99_48 {ls : zL} {st : List Value} {w : zW} {x : Int32} {a : Nat} : Rv 99 48 ls (.int x :: .ref a :: st) w = pF w a 4 1 (.int x) fun w' => Rv 99 51 ls st w' := R_pF (z := 229) Q99 (by decide +kernel) rfl ⟨by decide, rfl, Or.inl rfl⟩
theorem e99_51 {ls : zL} {w : zW} : Rv 99 51 ls [] w = some (.inl none, w) := R_retV Q99 (by decide +kernel) rfl
/-! MasterPins$UndoStack.restoreInto -/
theorem e100_0 {ls : zL} {st : List Value} {w : zW} : Rv 100 0 ls st w = ldA ls 0 fun x => Rv 100 1 ls (x :: st) w := R_ldA Q100 (by decide +kernel) rfl
theorem e100_1 {ls : zL} {st : List Value} {w : zW} {x : Nat} : Rv 100 1 ls (.ref x :: st) w = Rv 100 2 ls (.ref x :: .ref x :: st) w := R_next Q100 (by decide +kernel) rfl
theorem e100_2 {ls : zL} {st : List Value} {w : zW} {a : Nat} : Rv 100 2 ls (.ref a :: st) w = gF w a 4 1 fun v => Rv 100 5 ls (v :: st) w := R_gF (z := 229) Q100 (by decide +kernel) rfl
theorem e100_5 {ls : zL} {st : List Value} {w : zW} : Rv 100 5 ls st w = Rv 100 6 ls (.int 1 :: st) w := R_con Q100 (by decide +kernel) rfl (by decide)
theorem e100_6 {ls : zL} {st : List Value} {w : zW} {x y : Int32} : Rv 100 6 ls (.int y :: .int x :: st) w = Rv 100 7 ls (.int (x - y) :: st) w := R_next Q100 (by decide +kernel) rfl
theorem e100_7 {ls : zL} {st : List Value} {w : zW} {x : Int32} {a : Nat} : Rv 100 7 ls (.int x :: .ref a :: st) w = pF w a 4 1 (.int x) fun w' => Rv 100 10 ls st w' := R_pF (z := 229) Q100 (by decide +kernel) rfl ⟨by decide, rfl, Or.inl rfl⟩
theorem e100_10 {ls : zL} {st : List Value} {w : zW} : Rv 100 10 ls st w = ldA ls 1 fun x => Rv 100 11 ls (x :: st) w := R_ldA Q100 (by decide +kernel) rfl
theorem e100_11 {ls : zL} {st : List Value} {w : zW} : Rv 100 11 ls st w = ldA ls 0 fun x => Rv 100 12 ls (x :: st) w := R_ldA Q100 (by decide +kernel) rfl
theorem e100_12 {ls : zL} {st : List Value} {w : zW} {a : Nat} : Rv 100 12 ls (.ref a :: st) w = gF w a 4 0 fun v => Rv 100 15 ls (v :: st) w := R_gF (z := 228) Q100 (by decide +kernel) rfl
theorem e100_15 {ls : zL} {st : List Value} {w : zW} : Rv 100 15 ls st w = ldA ls 0 fun x => Rv 100 16 ls (x :: st) w := R_ldA Q100 (by decide +kernel) rfl
theorem e100_16 {ls : zL} {st : List Value} {w : zW} {a : Nat} : Rv 100 16 ls (.ref a :: st) w = gF w a 4 1 fun v => Rv 100 19 ls (v :: st) w := R_gF (z := 229) Q100 (by decide +kernel) rfl
theorem e100_19 {ls : zL} {st : List Value} {w : zW} {a : Nat} {x : Int32} : Rv 100 19 ls (.int x :: .ref a :: st) w = gR w a x fun v => Rv 100 20 ls (v :: st) w := R_aald Q100 (by decide +kernel)
theorem e100_20 {ls : zL} {w : zW} {a1 : Nat} {a0 : Nat} : Rv 100 20 ls [.ref a1, .ref a0] w = hO w a0 2 (cal (Rv 31 0 [some (.ref a0), some (.ref a1)] [] w) (fun v w' => Rv 100 23 ls (vts v []) w') (xnone)) := R_calV (z := 290) (r := []) Q100 (by decide +kernel) rfl rfl Q31 rfl rfl rfl
theorem e100_23 {ls : zL} {st : List Value} {w : zW} : Rv 100 23 ls st w = ldA ls 0 fun x => Rv 100 24 ls (x :: st) w := R_ldA Q100 (by decide +kernel) rfl
theorem e100_24 {ls : zL} {st : List Value} {w : zW} {a : Nat} : Rv 100 24 ls (.ref a :: st) w = gF w a 4 1 fun v => Rv 100 27 ls (v :: st) w := R_gF (z := 229) Q100 (by decide +kernel) rfl
theorem e100_27 {ls : zL} {w : zW} {x : Int32} : Rv 100 27 ls [.int x] w = some (.inl (some (.int x)), w) := R_retI Q100 (by decide +kernel) rfl
/-! MasterPins.<init> -/
theorem e101_0 {ls : zL} {st : List Value} {w : zW} : Rv 101 0 ls st w = ldA ls 0 fun x => Rv 101 1 ls (x :: st) w := R_ldA Q101 (by decide +kernel) rfl
theorem e101_1 {ls : zL} {w : zW}  {a : Nat} : Rv 101 1 ls [.ref a] w = Rv 101 4 ls [] w := R_obj (z := (0, 0, 115)) Q101 (by decide +kernel) rfl ⟨Nat.le_of_ble_eq_true rfl, Nat.le_of_ble_eq_true rfl, Nat.le_of_ble_eq_true rfl⟩
theorem e101_4 {ls : zL} {st : List Value} {w : zW} : Rv 101 4 ls st w = ldA ls 0 fun x => Rv 101 5 ls (x :: st) w := R_ldA Q101 (by decide +kernel) rfl
theorem e101_5 {ls : zL} {st : List Value} {w : zW} : Rv 101 5 ls st w = nw w 12 (.inr (2, [.int 0, .int 0, .null, .int 0, .null, .null, .null, .null, .int 0, .int 0, .null, .null])) fun a w' => Rv 101 8 ls (.ref a :: st) w' := R_new (z := 118) Q101 (by decide +kernel) rfl rfl
theorem e101_8 {ls : zL} {st : List Value} {w : zW} {x : Nat} : Rv 101 8 ls (.ref x :: st) w = Rv 101 9 ls (.ref x :: .ref x :: st) w := R_next Q101 (by decide +kernel) rfl
theorem e101_9 {ls : zL} {w : zW} {a0 : Nat} {a1 : Nat} {a2 : Nat} : Rv 101 9 ls [.ref a0, .ref a1, .ref a2] w = cal (Rv 30 0 [some (.ref a0)] [] w) (fun v w' => Rv 101 12 ls (vts v [.ref a1, .ref a2]) w') (xnone) := R_calI (z := 120) (r := [.ref a1, .ref a2]) (kd := 0) Q101 (by decide +kernel) rfl rfl rfl Q30 rfl rfl rfl
theorem e101_12 {ls : zL} {st : List Value} {w : zW} {x : Nat} {a : Nat} : Rv 101 12 ls (.ref x :: .ref a :: st) w = pF w a 5 0 (.ref x) fun w' => Rv 101 15 ls st w' := R_pF (z := 265) Q101 (by decide +kernel) rfl ⟨by decide, rfl, Or.inr ⟨rfl, rfl⟩⟩
theorem e101_12n {ls : zL} {st : List Value} {w : zW}  {a : Nat} : Rv 101 12 ls (.null :: .ref a :: st) w = pF w a 5 0 (.null) fun w' => Rv 101 15 ls st w' := R_pF (z := 265) Q101 (by decide +kernel) rfl ⟨by decide, rfl, Or.inr ⟨rfl, rfl⟩⟩
theorem e101_15 {ls : zL} {st : List Value} {w : zW} : Rv 101 15 ls st w = ldA ls 0 fun x => Rv 101 16 ls (x :: st) w := R_ldA Q101 (by decide +kernel) rfl
theorem e101_16 {ls : zL} {st : List Value} {w : zW} : Rv 101 16 ls st w = nw w 4 (.inr (3, [.null, .null, .null, .int 0])) fun a w' => Rv 101 19 ls (.ref a :: st) w' := R_new (z := 170) Q101 (by decide +kernel) rfl rfl
theorem e101_19 {ls : zL} {st : List Value} {w : zW} {x : Nat} : Rv 101 19 ls (.ref x :: st) w = Rv 101 20 ls (.ref x :: .ref x :: st) w := R_next Q101 (by decide +kernel) rfl
theorem e101_20 {ls : zL} {st : List Value} {w : zW} : Rv 101 20 ls st w = ldA ls 0 fun x => Rv 101 21 ls (x :: st) w := R_ldA Q101 (by decide +kernel) rfl
theorem e101_21 {ls : zL} {st : List Value} {w : zW} {a : Nat} : Rv 101 21 ls (.ref a :: st) w = gF w a 5 0 fun v => Rv 101 24 ls (v :: st) w := R_gF (z := 265) Q101 (by decide +kernel) rfl
theorem e101_24 {ls : zL} {w : zW} {a1 : Nat} {a0 : Nat} {a2 : Nat} {a3 : Nat} : Rv 101 24 ls [.ref a1, .ref a0, .ref a2, .ref a3] w = cal (Rv 83 0 [some (.ref a0), some (.ref a1)] [] w) (fun v w' => Rv 101 27 ls (vts v [.ref a2, .ref a3]) w') (xnone) := R_calI (z := 172) (r := [.ref a2, .ref a3]) (kd := 0) Q101 (by decide +kernel) rfl rfl rfl Q83 rfl rfl rfl
theorem e101_27 {ls : zL} {st : List Value} {w : zW} {x : Nat} {a : Nat} : Rv 101 27 ls (.ref x :: .ref a :: st) w = pF w a 5 1 (.ref x) fun w' => Rv 101 30 ls st w' := R_pF (z := 266) Q101 (by decide +kernel) rfl ⟨by decide, rfl, Or.inr ⟨rfl, rfl⟩⟩
theorem e101_27n {ls : zL} {st : List Value} {w : zW}  {a : Nat} : Rv 101 27 ls (.null :: .ref a :: st) w = pF w a 5 1 (.null) fun w' => Rv 101 30 ls st w' := R_pF (z := 266) Q101 (by decide +kernel) rfl ⟨by decide, rfl, Or.inr ⟨rfl, rfl⟩⟩
theorem e101_30 {ls : zL} {st : List Value} {w : zW} : Rv 101 30 ls st w = ldA ls 0 fun x => Rv 101 31 ls (x :: st) w := R_ldA Q101 (by decide +kernel) rfl
theorem e101_31 {ls : zL} {st : List Value} {w : zW} : Rv 101 31 ls st w = nw w 2 (.inr (4, [.null, .int 0])) fun a w' => Rv 101 34 ls (.ref a :: st) w' := R_new (z := 219) Q101 (by decide +kernel) rfl rfl
theorem e101_34 {ls : zL} {st : List Value} {w : zW} {x : Nat} : Rv 101 34 ls (.ref x :: st) w = Rv 101 35 ls (.ref x :: .ref x :: st) w := R_next Q101 (by decide +kernel) rfl
theorem e101_35 {ls : zL} {w : zW} {a0 : Nat} {a1 : Nat} {a2 : Nat} : Rv 101 35 ls [.ref a0, .ref a1, .ref a2] w = cal (Rv 96 0 [some (.ref a0), none] [] w) (fun v w' => Rv 101 38 ls (vts v [.ref a1, .ref a2]) w') (xnone) := R_calI (z := 221) (r := [.ref a1, .ref a2]) (kd := 0) Q101 (by decide +kernel) rfl rfl rfl Q96 rfl rfl rfl
theorem e101_38 {ls : zL} {st : List Value} {w : zW} {x : Nat} {a : Nat} : Rv 101 38 ls (.ref x :: .ref a :: st) w = pF w a 5 2 (.ref x) fun w' => Rv 101 41 ls st w' := R_pF (z := 267) Q101 (by decide +kernel) rfl ⟨by decide, rfl, Or.inr ⟨rfl, rfl⟩⟩
theorem e101_38n {ls : zL} {st : List Value} {w : zW}  {a : Nat} : Rv 101 38 ls (.null :: .ref a :: st) w = pF w a 5 2 (.null) fun w' => Rv 101 41 ls st w' := R_pF (z := 267) Q101 (by decide +kernel) rfl ⟨by decide, rfl, Or.inr ⟨rfl, rfl⟩⟩
theorem e101_41 {ls : zL} {st : List Value} {w : zW} : Rv 101 41 ls st w = ldA ls 0 fun x => Rv 101 42 ls (x :: st) w := R_ldA Q101 (by decide +kernel) rfl
theorem e101_42 {ls : zL} {st : List Value} {w : zW} : Rv 101 42 ls st w = nw w 6 (.inr (0, [.null, .int 0, .int 0, .null, .int 0, .int 0])) fun a w' => Rv 101 45 ls (.ref a :: st) w' := R_new (z := 236) Q101 (by decide +kernel) rfl rfl
theorem e101_45 {ls : zL} {st : List Value} {w : zW} {x : Nat} : Rv 101 45 ls (.ref x :: st) w = Rv 101 46 ls (.ref x :: .ref x :: st) w := R_next Q101 (by decide +kernel) rfl
theorem e101_46 {ls : zL} {w : zW} {a0 : Nat} {a1 : Nat} {a2 : Nat} : Rv 101 46 ls [.ref a0, .ref a1, .ref a2] w = cal (Rv 0 0 [some (.ref a0)] [] w) (fun v w' => Rv 101 49 ls (vts v [.ref a1, .ref a2]) w') (xnone) := R_calI (z := 238) (r := [.ref a1, .ref a2]) (kd := 0) Q101 (by decide +kernel) rfl rfl rfl Q0 rfl rfl rfl
theorem e101_49 {ls : zL} {st : List Value} {w : zW} {x : Nat} {a : Nat} : Rv 101 49 ls (.ref x :: .ref a :: st) w = pF w a 5 3 (.ref x) fun w' => Rv 101 52 ls st w' := R_pF (z := 268) Q101 (by decide +kernel) rfl ⟨by decide, rfl, Or.inr ⟨rfl, rfl⟩⟩
theorem e101_49n {ls : zL} {st : List Value} {w : zW}  {a : Nat} : Rv 101 49 ls (.null :: .ref a :: st) w = pF w a 5 3 (.null) fun w' => Rv 101 52 ls st w' := R_pF (z := 268) Q101 (by decide +kernel) rfl ⟨by decide, rfl, Or.inr ⟨rfl, rfl⟩⟩
theorem e101_52 {ls : zL} {w : zW} : Rv 101 52 ls [] w = some (.inl none, w) := R_retV Q101 (by decide +kernel) rfl
/-! MasterPins.begin -/
theorem e102_0 {ls : zL} {st : List Value} {w : zW} : Rv 102 0 ls st w = ldI ls 1 fun x => Rv 102 1 ls (.int x :: st) w := R_ldI Q102 (by decide +kernel) rfl
theorem e102_1 {ls : zL} {st : List Value} {w : zW} : Rv 102 1 ls st w = Rv 102 2 ls (.int 2 :: st) w := R_con Q102 (by decide +kernel) rfl (by decide)
theorem e102_2 {ls : zL} {st : List Value} {w : zW} {x y : Int32} : Rv 102 2 ls (.int y :: .int x :: st) w = if x < y then Rv 102 21 ls st w else Rv 102 5 ls st w := R_filt Q102 (by decide +kernel) rfl rfl
theorem e102_5 {ls : zL} {st : List Value} {w : zW} : Rv 102 5 ls st w = ldI ls 1 fun x => Rv 102 6 ls (.int x :: st) w := R_ldI Q102 (by decide +kernel) rfl
theorem e102_6 {ls : zL} {st : List Value} {w : zW} : Rv 102 6 ls st w = Rv 102 7 ls (.int 4 :: st) w := R_con Q102 (by decide +kernel) rfl (by decide)
theorem e102_7 {ls : zL} {st : List Value} {w : zW} {x y : Int32} : Rv 102 7 ls (.int y :: .int x :: st) w = if y < x then Rv 102 21 ls st w else Rv 102 10 ls st w := R_figt Q102 (by decide +kernel) rfl rfl
theorem e102_10 {ls : zL} {st : List Value} {w : zW} : Rv 102 10 ls st w = ldI ls 2 fun x => Rv 102 11 ls (.int x :: st) w := R_ldI Q102 (by decide +kernel) rfl
theorem e102_11 {ls : zL} {st : List Value} {w : zW} : Rv 102 11 ls st w = Rv 102 12 ls (.int 2 :: st) w := R_con Q102 (by decide +kernel) rfl (by decide)
theorem e102_12 {ls : zL} {st : List Value} {w : zW} {x y : Int32} : Rv 102 12 ls (.int y :: .int x :: st) w = if x < y then Rv 102 21 ls st w else Rv 102 15 ls st w := R_filt Q102 (by decide +kernel) rfl rfl
theorem e102_15 {ls : zL} {st : List Value} {w : zW} : Rv 102 15 ls st w = ldI ls 2 fun x => Rv 102 16 ls (.int x :: st) w := R_ldI Q102 (by decide +kernel) rfl
theorem e102_16 {ls : zL} {st : List Value} {w : zW} : Rv 102 16 ls st w = Rv 102 18 ls (.int 6 :: st) w := R_con Q102 (by decide +kernel) rfl (by decide)
theorem e102_18 {ls : zL} {st : List Value} {w : zW} {x y : Int32} : Rv 102 18 ls (.int y :: .int x :: st) w = if y < x then Rv 102 21 ls st w else Rv 102 31 ls st w := R_file Q102 (by decide +kernel) rfl rfl
theorem e102_21 {ls : zL} {w : zW} : Rv 102 21 ls [] w = some (.inr "java/lang/IllegalArgumentException", zthw w) := R_thr Q102 (by decide +kernel) rfl ⟨Nat.le_of_ble_eq_true rfl, Nat.le_of_ble_eq_true rfl, Nat.le_of_ble_eq_true rfl, rfl⟩
theorem e102_31 {ls : zL} {st : List Value} {w : zW} : Rv 102 31 ls st w = ldA ls 0 fun x => Rv 102 32 ls (x :: st) w := R_ldA Q102 (by decide +kernel) rfl
theorem e102_32 {ls : zL} {st : List Value} {w : zW} {a : Nat} : Rv 102 32 ls (.ref a :: st) w = gF w a 5 2 fun v => Rv 102 35 ls (v :: st) w := R_gF (z := 267) Q102 (by decide +kernel) rfl
theorem e102_35 {ls : zL} {st : List Value} {w : zW} : Rv 102 35 ls st w = ldA ls 0 fun x => Rv 102 36 ls (x :: st) w := R_ldA Q102 (by decide +kernel) rfl
theorem e102_36 {ls : zL} {st : List Value} {w : zW} {a : Nat} : Rv 102 36 ls (.ref a :: st) w = gF w a 5 0 fun v => Rv 102 39 ls (v :: st) w := R_gF (z := 265) Q102 (by decide +kernel) rfl
theorem e102_39 {ls : zL} {w : zW} {a1 : Nat} {a0 : Nat} : Rv 102 39 ls [.ref a1, .ref a0] w = hO w a0 4 (cal (Rv 98 0 [some (.ref a0), some (.ref a1)] [] w) (fun v w' => Rv 102 42 ls (vts v []) w') (xnone)) := R_calV (z := 282) (r := []) Q102 (by decide +kernel) rfl rfl Q98 rfl rfl rfl
theorem e102_42 {ls : zL} {st : List Value} {w : zW} : Rv 102 42 ls st w = ldA ls 0 fun x => Rv 102 43 ls (x :: st) w := R_ldA Q102 (by decide +kernel) rfl
theorem e102_43 {ls : zL} {st : List Value} {w : zW} {a : Nat} : Rv 102 43 ls (.ref a :: st) w = gF w a 5 0 fun v => Rv 102 46 ls (v :: st) w := R_gF (z := 265) Q102 (by decide +kernel) rfl
theorem e102_46 {ls : zL} {st : List Value} {w : zW} : Rv 102 46 ls st w = ldI ls 1 fun x => Rv 102 47 ls (.int x :: st) w := R_ldI Q102 (by decide +kernel) rfl
theorem e102_47 {ls : zL} {st : List Value} {w : zW} : Rv 102 47 ls st w = ldI ls 2 fun x => Rv 102 48 ls (.int x :: st) w := R_ldI Q102 (by decide +kernel) rfl
theorem e102_48 {ls : zL} {w : zW} {n1 : Int32} {n2 : Int32} {a0 : Nat} : Rv 102 48 ls [.int n1, .int n2, .ref a0] w = hO w a0 2 (cal (Rv 47 0 [some (.ref a0), some (.int n2), some (.int n1), none] [] w) (fun v w' => Rv 102 51 ls (vts v []) w') (xnone)) := R_calV (z := 796) (r := []) Q102 (by decide +kernel) rfl rfl Q47 rfl rfl rfl
theorem e102_51 {ls : zL} {w : zW} {x : Int32} : Rv 102 51 ls [.int x] w = some (.inl (some (.int x)), w) := R_retI Q102 (by decide +kernel) rfl
/-! MasterPins.setRule -/
theorem e103_0 {ls : zL} {st : List Value} {w : zW} : Rv 103 0 ls st w = ldA ls 0 fun x => Rv 103 1 ls (x :: st) w := R_ldA Q103 (by decide +kernel) rfl
theorem e103_1 {ls : zL} {st : List Value} {w : zW} {a : Nat} : Rv 103 1 ls (.ref a :: st) w = gF w a 5 0 fun v => Rv 103 4 ls (v :: st) w := R_gF (z := 265) Q103 (by decide +kernel) rfl
theorem e103_4 {ls : zL} {st : List Value} {w : zW} : Rv 103 4 ls st w = ldI ls 1 fun x => Rv 103 5 ls (.int x :: st) w := R_ldI Q103 (by decide +kernel) rfl
theorem e103_5 {ls : zL} {st : List Value} {w : zW} : Rv 103 5 ls st w = ldI ls 2 fun x => Rv 103 6 ls (.int x :: st) w := R_ldI Q103 (by decide +kernel) rfl
theorem e103_6 {ls : zL} {w : zW} {n1 : Int32} {n2 : Int32} {a0 : Nat} : Rv 103 6 ls [.int n1, .int n2, .ref a0] w = hO w a0 2 (cal (Rv 41 0 [some (.ref a0), some (.int n2), some (.int n1), none, none] [] w) (fun v w' => Rv 103 9 ls (vts v []) w') (xnone)) := R_calV (z := 593) (r := []) Q103 (by decide +kernel) rfl rfl Q41 rfl rfl rfl
theorem e103_9 {ls : zL} {w : zW} {n1 : Int32} : Rv 103 9 ls [.int n1] w = cal (Rv 129 0 [some (.int n1)] [] w) (fun v w' => Rv 103 12 ls (vts v []) w') (xnone) := R_calS (z := 807) (kd := 1) (n := 1) Q103 (by decide +kernel) rfl (Or.inl rfl) (Nat.le_of_ble_eq_true rfl) rfl Q129 rfl rfl rfl
theorem e103_12 {ls : zL} {st : List Value} {w : zW} : Rv 103 12 ls st w = ldA ls 0 fun x => Rv 103 13 ls (x :: st) w := R_ldA Q103 (by decide +kernel) rfl
theorem e103_13 {ls : zL} {st : List Value} {w : zW} {a : Nat} : Rv 103 13 ls (.ref a :: st) w = gF w a 5 2 fun v => Rv 103 16 ls (v :: st) w := R_gF (z := 267) Q103 (by decide +kernel) rfl
theorem e103_16 {ls : zL} {st : List Value} {w : zW} : Rv 103 16 ls st w = ldA ls 0 fun x => Rv 103 17 ls (x :: st) w := R_ldA Q103 (by decide +kernel) rfl
theorem e103_17 {ls : zL} {st : List Value} {w : zW} {a : Nat} : Rv 103 17 ls (.ref a :: st) w = gF w a 5 0 fun v => Rv 103 20 ls (v :: st) w := R_gF (z := 265) Q103 (by decide +kernel) rfl
theorem e103_20 {ls : zL} {w : zW} {a1 : Nat} {a0 : Nat} : Rv 103 20 ls [.ref a1, .ref a0] w = hO w a0 4 (cal (Rv 98 0 [some (.ref a0), some (.ref a1)] [] w) (fun v w' => Rv 103 23 ls (vts v []) w') (xnone)) := R_calV (z := 282) (r := []) Q103 (by decide +kernel) rfl rfl Q98 rfl rfl rfl
theorem e103_23 {ls : zL} {st : List Value} {w : zW} : Rv 103 23 ls st w = ldA ls 0 fun x => Rv 103 24 ls (x :: st) w := R_ldA Q103 (by decide +kernel) rfl
theorem e103_24 {ls : zL} {st : List Value} {w : zW} {a : Nat} : Rv 103 24 ls (.ref a :: st) w = gF w a 5 0 fun v => Rv 103 27 ls (v :: st) w := R_gF (z := 265) Q103 (by decide +kernel) rfl
theorem e103_27 {ls : zL} {st : List Value} {w : zW} : Rv 103 27 ls st w = ldI ls 1 fun x => Rv 103 28 ls (.int x :: st) w := R_ldI Q103 (by decide +kernel) rfl
theorem e103_28 {ls : zL} {st : List Value} {w : zW} : Rv 103 28 ls st w = ldI ls 2 fun x => Rv 103 29 ls (.int x :: st) w := R_ldI Q103 (by decide +kernel) rfl
theorem e103_29 {ls : zL} {w : zW} {n1 : Int32} {n2 : Int32} {a0 : Nat} : Rv 103 29 ls [.int n1, .int n2, .ref a0] w = hO w a0 2 (cal (Rv 48 0 [some (.ref a0), some (.int n2), some (.int n1), none] [] w) (fun v w' => Rv 103 32 ls (vts v []) w') (xnone)) := R_calV (z := 630) (r := []) Q103 (by decide +kernel) rfl rfl Q48 rfl rfl rfl
theorem e103_32 {ls : zL} {w : zW} {x : Int32} : Rv 103 32 ls [.int x] w = some (.inl (some (.int x)), w) := R_retI Q103 (by decide +kernel) rfl
/-! MasterPins.addKey -/
theorem e104_0 {ls : zL} {st : List Value} {w : zW} : Rv 104 0 ls st w = ldA ls 0 fun x => Rv 104 1 ls (x :: st) w := R_ldA Q104 (by decide +kernel) rfl
theorem e104_1 {ls : zL} {st : List Value} {w : zW} {a : Nat} : Rv 104 1 ls (.ref a :: st) w = gF w a 5 0 fun v => Rv 104 4 ls (v :: st) w := R_gF (z := 265) Q104 (by decide +kernel) rfl
theorem e104_4 {ls : zL} {st : List Value} {w : zW} : Rv 104 4 ls st w = ldI ls 1 fun x => Rv 104 5 ls (.int x :: st) w := R_ldI Q104 (by decide +kernel) rfl
theorem e104_5 {ls : zL} {st : List Value} {w : zW} : Rv 104 5 ls st w = ldI ls 2 fun x => Rv 104 6 ls (.int x :: st) w := R_ldI Q104 (by decide +kernel) rfl
theorem e104_6 {ls : zL} {w : zW} {n1 : Int32} {n2 : Int32} {a0 : Nat} : Rv 104 6 ls [.int n1, .int n2, .ref a0] w = hO w a0 2 (cal (Rv 42 0 [some (.ref a0), some (.int n2), some (.int n1)] [] w) (fun v w' => Rv 104 9 ls (vts v []) w') (xnone)) := R_calV (z := 547) (r := []) Q104 (by decide +kernel) rfl rfl Q42 rfl rfl rfl
theorem e104_9 {ls : zL} {w : zW} {n1 : Int32} : Rv 104 9 ls [.int n1] w = cal (Rv 129 0 [some (.int n1)] [] w) (fun v w' => Rv 104 12 ls (vts v []) w') (xnone) := R_calS (z := 807) (kd := 1) (n := 1) Q104 (by decide +kernel) rfl (Or.inl rfl) (Nat.le_of_ble_eq_true rfl) rfl Q129 rfl rfl rfl
theorem e104_12 {ls : zL} {st : List Value} {w : zW} : Rv 104 12 ls st w = ldA ls 0 fun x => Rv 104 13 ls (x :: st) w := R_ldA Q104 (by decide +kernel) rfl
theorem e104_13 {ls : zL} {st : List Value} {w : zW} {a : Nat} : Rv 104 13 ls (.ref a :: st) w = gF w a 5 2 fun v => Rv 104 16 ls (v :: st) w := R_gF (z := 267) Q104 (by decide +kernel) rfl
theorem e104_16 {ls : zL} {st : List Value} {w : zW} : Rv 104 16 ls st w = ldA ls 0 fun x => Rv 104 17 ls (x :: st) w := R_ldA Q104 (by decide +kernel) rfl
theorem e104_17 {ls : zL} {st : List Value} {w : zW} {a : Nat} : Rv 104 17 ls (.ref a :: st) w = gF w a 5 0 fun v => Rv 104 20 ls (v :: st) w := R_gF (z := 265) Q104 (by decide +kernel) rfl
theorem e104_20 {ls : zL} {w : zW} {a1 : Nat} {a0 : Nat} : Rv 104 20 ls [.ref a1, .ref a0] w = hO w a0 4 (cal (Rv 98 0 [some (.ref a0), some (.ref a1)] [] w) (fun v w' => Rv 104 23 ls (vts v []) w') (xnone)) := R_calV (z := 282) (r := []) Q104 (by decide +kernel) rfl rfl Q98 rfl rfl rfl
theorem e104_23 {ls : zL} {st : List Value} {w : zW} : Rv 104 23 ls st w = ldA ls 0 fun x => Rv 104 24 ls (x :: st) w := R_ldA Q104 (by decide +kernel) rfl
theorem e104_24 {ls : zL} {st : List Value} {w : zW} {a : Nat} : Rv 104 24 ls (.ref a :: st) w = gF w a 5 0 fun v => Rv 104 27 ls (v :: st) w := R_gF (z := 265) Q104 (by decide +kernel) rfl
theorem e104_27 {ls : zL} {st : List Value} {w : zW} : Rv 104 27 ls st w = ldI ls 1 fun x => Rv 104 28 ls (.int x :: st) w := R_ldI Q104 (by decide +kernel) rfl
theorem e104_28 {ls : zL} {st : List Value} {w : zW} : Rv 104 28 ls st w = ldI ls 2 fun x => Rv 104 29 ls (.int x :: st) w := R_ldI Q104 (by decide +kernel) rfl
theorem e104_29 {ls : zL} {w : zW} {n1 : Int32} {n2 : Int32} {a0 : Nat} : Rv 104 29 ls [.int n1, .int n2, .ref a0] w = hO w a0 2 (cal (Rv 49 0 [some (.ref a0), some (.int n2), some (.int n1), none] [] w) (fun v w' => Rv 104 32 ls (vts v []) w') (xnone)) := R_calV (z := 601) (r := []) Q104 (by decide +kernel) rfl rfl Q49 rfl rfl rfl
theorem e104_32 {ls : zL} {w : zW} {x : Int32} : Rv 104 32 ls [.int x] w = some (.inl (some (.int x)), w) := R_retI Q104 (by decide +kernel) rfl
/-! MasterPins.recut -/
theorem e105_0 {ls : zL} {st : List Value} {w : zW} : Rv 105 0 ls st w = ldA ls 0 fun x => Rv 105 1 ls (x :: st) w := R_ldA Q105 (by decide +kernel) rfl
theorem e105_1 {ls : zL} {st : List Value} {w : zW} {a : Nat} : Rv 105 1 ls (.ref a :: st) w = gF w a 5 0 fun v => Rv 105 4 ls (v :: st) w := R_gF (z := 265) Q105 (by decide +kernel) rfl
theorem e105_4 {ls : zL} {st : List Value} {w : zW} : Rv 105 4 ls st w = ldI ls 1 fun x => Rv 105 5 ls (.int x :: st) w := R_ldI Q105 (by decide +kernel) rfl
theorem e105_5 {ls : zL} {st : List Value} {w : zW} : Rv 105 5 ls st w = ldI ls 2 fun x => Rv 105 6 ls (.int x :: st) w := R_ldI Q105 (by decide +kernel) rfl
theorem e105_6 {ls : zL} {w : zW} {n1 : Int32} {n2 : Int32} {a0 : Nat} : Rv 105 6 ls [.int n1, .int n2, .ref a0] w = hO w a0 2 (cal (Rv 43 0 [some (.ref a0), some (.int n2), some (.int n1)] [] w) (fun v w' => Rv 105 9 ls (vts v []) w') (xnone)) := R_calV (z := 589) (r := []) Q105 (by decide +kernel) rfl rfl Q43 rfl rfl rfl
theorem e105_9 {ls : zL} {w : zW} {n1 : Int32} : Rv 105 9 ls [.int n1] w = cal (Rv 129 0 [some (.int n1)] [] w) (fun v w' => Rv 105 12 ls (vts v []) w') (xnone) := R_calS (z := 807) (kd := 1) (n := 1) Q105 (by decide +kernel) rfl (Or.inl rfl) (Nat.le_of_ble_eq_true rfl) rfl Q129 rfl rfl rfl
theorem e105_12 {ls : zL} {st : List Value} {w : zW} : Rv 105 12 ls st w = ldA ls 0 fun x => Rv 105 13 ls (x :: st) w := R_ldA Q105 (by decide +kernel) rfl
theorem e105_13 {ls : zL} {st : List Value} {w : zW} {a : Nat} : Rv 105 13 ls (.ref a :: st) w = gF w a 5 2 fun v => Rv 105 16 ls (v :: st) w := R_gF (z := 267) Q105 (by decide +kernel) rfl
theorem e105_16 {ls : zL} {st : List Value} {w : zW} : Rv 105 16 ls st w = ldA ls 0 fun x => Rv 105 17 ls (x :: st) w := R_ldA Q105 (by decide +kernel) rfl
theorem e105_17 {ls : zL} {st : List Value} {w : zW} {a : Nat} : Rv 105 17 ls (.ref a :: st) w = gF w a 5 0 fun v => Rv 105 20 ls (v :: st) w := R_gF (z := 265) Q105 (by decide +kernel) rfl
theorem e105_20 {ls : zL} {w : zW} {a1 : Nat} {a0 : Nat} : Rv 105 20 ls [.ref a1, .ref a0] w = hO w a0 4 (cal (Rv 98 0 [some (.ref a0), some (.ref a1)] [] w) (fun v w' => Rv 105 23 ls (vts v []) w') (xnone)) := R_calV (z := 282) (r := []) Q105 (by decide +kernel) rfl rfl Q98 rfl rfl rfl
theorem e105_23 {ls : zL} {st : List Value} {w : zW} : Rv 105 23 ls st w = ldA ls 0 fun x => Rv 105 24 ls (x :: st) w := R_ldA Q105 (by decide +kernel) rfl
theorem e105_24 {ls : zL} {st : List Value} {w : zW} {a : Nat} : Rv 105 24 ls (.ref a :: st) w = gF w a 5 0 fun v => Rv 105 27 ls (v :: st) w := R_gF (z := 265) Q105 (by decide +kernel) rfl
theorem e105_27 {ls : zL} {st : List Value} {w : zW} : Rv 105 27 ls st w = ldI ls 1 fun x => Rv 105 28 ls (.int x :: st) w := R_ldI Q105 (by decide +kernel) rfl
theorem e105_28 {ls : zL} {st : List Value} {w : zW} : Rv 105 28 ls st w = ldI ls 2 fun x => Rv 105 29 ls (.int x :: st) w := R_ldI Q105 (by decide +kernel) rfl
theorem e105_29 {ls : zL} {w : zW} {n1 : Int32} {n2 : Int32} {a0 : Nat} : Rv 105 29 ls [.int n1, .int n2, .ref a0] w = hO w a0 2 (cal (Rv 50 0 [some (.ref a0), some (.int n2), some (.int n1), none] [] w) (fun v w' => Rv 105 32 ls (vts v []) w') (xnone)) := R_calV (z := 626) (r := []) Q105 (by decide +kernel) rfl rfl Q50 rfl rfl rfl
theorem e105_32 {ls : zL} {w : zW} {x : Int32} : Rv 105 32 ls [.int x] w = some (.inl (some (.int x)), w) := R_retI Q105 (by decide +kernel) rfl
/-! MasterPins.lose -/
theorem e106_0 {ls : zL} {st : List Value} {w : zW} : Rv 106 0 ls st w = ldA ls 0 fun x => Rv 106 1 ls (x :: st) w := R_ldA Q106 (by decide +kernel) rfl
theorem e106_1 {ls : zL} {st : List Value} {w : zW} {a : Nat} : Rv 106 1 ls (.ref a :: st) w = gF w a 5 0 fun v => Rv 106 4 ls (v :: st) w := R_gF (z := 265) Q106 (by decide +kernel) rfl
theorem e106_4 {ls : zL} {st : List Value} {w : zW} : Rv 106 4 ls st w = ldI ls 1 fun x => Rv 106 5 ls (.int x :: st) w := R_ldI Q106 (by decide +kernel) rfl
theorem e106_5 {ls : zL} {w : zW} {n1 : Int32} {a0 : Nat} : Rv 106 5 ls [.int n1, .ref a0] w = hO w a0 2 (cal (Rv 44 0 [some (.ref a0), some (.int n1)] [] w) (fun v w' => Rv 106 8 ls (vts v []) w') (xnone)) := R_calV (z := 577) (r := []) Q106 (by decide +kernel) rfl rfl Q44 rfl rfl rfl
theorem e106_8 {ls : zL} {w : zW} {n1 : Int32} : Rv 106 8 ls [.int n1] w = cal (Rv 129 0 [some (.int n1)] [] w) (fun v w' => Rv 106 11 ls (vts v []) w') (xnone) := R_calS (z := 807) (kd := 1) (n := 1) Q106 (by decide +kernel) rfl (Or.inl rfl) (Nat.le_of_ble_eq_true rfl) rfl Q129 rfl rfl rfl
theorem e106_11 {ls : zL} {st : List Value} {w : zW} : Rv 106 11 ls st w = ldA ls 0 fun x => Rv 106 12 ls (x :: st) w := R_ldA Q106 (by decide +kernel) rfl
theorem e106_12 {ls : zL} {st : List Value} {w : zW} {a : Nat} : Rv 106 12 ls (.ref a :: st) w = gF w a 5 2 fun v => Rv 106 15 ls (v :: st) w := R_gF (z := 267) Q106 (by decide +kernel) rfl
theorem e106_15 {ls : zL} {st : List Value} {w : zW} : Rv 106 15 ls st w = ldA ls 0 fun x => Rv 106 16 ls (x :: st) w := R_ldA Q106 (by decide +kernel) rfl
theorem e106_16 {ls : zL} {st : List Value} {w : zW} {a : Nat} : Rv 106 16 ls (.ref a :: st) w = gF w a 5 0 fun v => Rv 106 19 ls (v :: st) w := R_gF (z := 265) Q106 (by decide +kernel) rfl
theorem e106_19 {ls : zL} {w : zW} {a1 : Nat} {a0 : Nat} : Rv 106 19 ls [.ref a1, .ref a0] w = hO w a0 4 (cal (Rv 98 0 [some (.ref a0), some (.ref a1)] [] w) (fun v w' => Rv 106 22 ls (vts v []) w') (xnone)) := R_calV (z := 282) (r := []) Q106 (by decide +kernel) rfl rfl Q98 rfl rfl rfl
theorem e106_22 {ls : zL} {st : List Value} {w : zW} : Rv 106 22 ls st w = ldA ls 0 fun x => Rv 106 23 ls (x :: st) w := R_ldA Q106 (by decide +kernel) rfl
theorem e106_23 {ls : zL} {st : List Value} {w : zW} {a : Nat} : Rv 106 23 ls (.ref a :: st) w = gF w a 5 0 fun v => Rv 106 26 ls (v :: st) w := R_gF (z := 265) Q106 (by decide +kernel) rfl
theorem e106_26 {ls : zL} {st : List Value} {w : zW} : Rv 106 26 ls st w = ldI ls 1 fun x => Rv 106 27 ls (.int x :: st) w := R_ldI Q106 (by decide +kernel) rfl
theorem e106_27 {ls : zL} {w : zW} {n1 : Int32} {a0 : Nat} : Rv 106 27 ls [.int n1, .ref a0] w = hO w a0 2 (cal (Rv 51 0 [some (.ref a0), some (.int n1)] [] w) (fun v w' => Rv 106 30 ls (vts v []) w') (xnone)) := R_calV (z := 614) (r := []) Q106 (by decide +kernel) rfl rfl Q51 rfl rfl rfl
theorem e106_30 {ls : zL} {w : zW} {x : Int32} : Rv 106 30 ls [.int x] w = some (.inl (some (.int x)), w) := R_retI Q106 (by decide +kernel) rfl
/-! MasterPins.find -/
theorem e107_0 {ls : zL} {st : List Value} {w : zW} : Rv 107 0 ls st w = ldA ls 0 fun x => Rv 107 1 ls (x :: st) w := R_ldA Q107 (by decide +kernel) rfl
theorem e107_1 {ls : zL} {st : List Value} {w : zW} {a : Nat} : Rv 107 1 ls (.ref a :: st) w = gF w a 5 0 fun v => Rv 107 4 ls (v :: st) w := R_gF (z := 265) Q107 (by decide +kernel) rfl
theorem e107_4 {ls : zL} {st : List Value} {w : zW} : Rv 107 4 ls st w = ldI ls 1 fun x => Rv 107 5 ls (.int x :: st) w := R_ldI Q107 (by decide +kernel) rfl
theorem e107_5 {ls : zL} {w : zW} {n1 : Int32} {a0 : Nat} : Rv 107 5 ls [.int n1, .ref a0] w = hO w a0 2 (cal (Rv 45 0 [some (.ref a0), some (.int n1)] [] w) (fun v w' => Rv 107 8 ls (vts v []) w') (xnone)) := R_calV (z := 585) (r := []) Q107 (by decide +kernel) rfl rfl Q45 rfl rfl rfl
theorem e107_8 {ls : zL} {w : zW} {n1 : Int32} : Rv 107 8 ls [.int n1] w = cal (Rv 129 0 [some (.int n1)] [] w) (fun v w' => Rv 107 11 ls (vts v []) w') (xnone) := R_calS (z := 807) (kd := 1) (n := 1) Q107 (by decide +kernel) rfl (Or.inl rfl) (Nat.le_of_ble_eq_true rfl) rfl Q129 rfl rfl rfl
theorem e107_11 {ls : zL} {st : List Value} {w : zW} : Rv 107 11 ls st w = ldA ls 0 fun x => Rv 107 12 ls (x :: st) w := R_ldA Q107 (by decide +kernel) rfl
theorem e107_12 {ls : zL} {st : List Value} {w : zW} {a : Nat} : Rv 107 12 ls (.ref a :: st) w = gF w a 5 2 fun v => Rv 107 15 ls (v :: st) w := R_gF (z := 267) Q107 (by decide +kernel) rfl
theorem e107_15 {ls : zL} {st : List Value} {w : zW} : Rv 107 15 ls st w = ldA ls 0 fun x => Rv 107 16 ls (x :: st) w := R_ldA Q107 (by decide +kernel) rfl
theorem e107_16 {ls : zL} {st : List Value} {w : zW} {a : Nat} : Rv 107 16 ls (.ref a :: st) w = gF w a 5 0 fun v => Rv 107 19 ls (v :: st) w := R_gF (z := 265) Q107 (by decide +kernel) rfl
theorem e107_19 {ls : zL} {w : zW} {a1 : Nat} {a0 : Nat} : Rv 107 19 ls [.ref a1, .ref a0] w = hO w a0 4 (cal (Rv 98 0 [some (.ref a0), some (.ref a1)] [] w) (fun v w' => Rv 107 22 ls (vts v []) w') (xnone)) := R_calV (z := 282) (r := []) Q107 (by decide +kernel) rfl rfl Q98 rfl rfl rfl
theorem e107_22 {ls : zL} {st : List Value} {w : zW} : Rv 107 22 ls st w = ldA ls 0 fun x => Rv 107 23 ls (x :: st) w := R_ldA Q107 (by decide +kernel) rfl
theorem e107_23 {ls : zL} {st : List Value} {w : zW} {a : Nat} : Rv 107 23 ls (.ref a :: st) w = gF w a 5 0 fun v => Rv 107 26 ls (v :: st) w := R_gF (z := 265) Q107 (by decide +kernel) rfl
theorem e107_26 {ls : zL} {st : List Value} {w : zW} : Rv 107 26 ls st w = ldI ls 1 fun x => Rv 107 27 ls (.int x :: st) w := R_ldI Q107 (by decide +kernel) rfl
theorem e107_27 {ls : zL} {w : zW} {n1 : Int32} {a0 : Nat} : Rv 107 27 ls [.int n1, .ref a0] w = hO w a0 2 (cal (Rv 52 0 [some (.ref a0), some (.int n1)] [] w) (fun v w' => Rv 107 30 ls (vts v []) w') (xnone)) := R_calV (z := 622) (r := []) Q107 (by decide +kernel) rfl rfl Q52 rfl rfl rfl
theorem e107_30 {ls : zL} {w : zW} {x : Int32} : Rv 107 30 ls [.int x] w = some (.inl (some (.int x)), w) := R_retI Q107 (by decide +kernel) rfl
/-! MasterPins.addDoor -/
theorem e108_0 {ls : zL} {st : List Value} {w : zW} : Rv 108 0 ls st w = ldA ls 0 fun x => Rv 108 1 ls (x :: st) w := R_ldA Q108 (by decide +kernel) rfl
theorem e108_1 {ls : zL} {st : List Value} {w : zW} {a : Nat} : Rv 108 1 ls (.ref a :: st) w = gF w a 5 0 fun v => Rv 108 4 ls (v :: st) w := R_gF (z := 265) Q108 (by decide +kernel) rfl
theorem e108_4 {ls : zL} {st : List Value} {w : zW} : Rv 108 4 ls st w = ldI ls 1 fun x => Rv 108 5 ls (.int x :: st) w := R_ldI Q108 (by decide +kernel) rfl
theorem e108_5 {ls : zL} {w : zW} {n1 : Int32} {a0 : Nat} : Rv 108 5 ls [.int n1, .ref a0] w = hO w a0 2 (cal (Rv 46 0 [some (.ref a0), some (.int n1)] [] w) (fun v w' => Rv 108 8 ls (vts v []) w') (xnone)) := R_calV (z := 561) (r := []) Q108 (by decide +kernel) rfl rfl Q46 rfl rfl rfl
theorem e108_8 {ls : zL} {w : zW} {n1 : Int32} : Rv 108 8 ls [.int n1] w = cal (Rv 129 0 [some (.int n1)] [] w) (fun v w' => Rv 108 11 ls (vts v []) w') (xnone) := R_calS (z := 807) (kd := 1) (n := 1) Q108 (by decide +kernel) rfl (Or.inl rfl) (Nat.le_of_ble_eq_true rfl) rfl Q129 rfl rfl rfl
theorem e108_11 {ls : zL} {st : List Value} {w : zW} : Rv 108 11 ls st w = ldA ls 0 fun x => Rv 108 12 ls (x :: st) w := R_ldA Q108 (by decide +kernel) rfl
theorem e108_12 {ls : zL} {st : List Value} {w : zW} {a : Nat} : Rv 108 12 ls (.ref a :: st) w = gF w a 5 2 fun v => Rv 108 15 ls (v :: st) w := R_gF (z := 267) Q108 (by decide +kernel) rfl
theorem e108_15 {ls : zL} {st : List Value} {w : zW} : Rv 108 15 ls st w = ldA ls 0 fun x => Rv 108 16 ls (x :: st) w := R_ldA Q108 (by decide +kernel) rfl
theorem e108_16 {ls : zL} {st : List Value} {w : zW} {a : Nat} : Rv 108 16 ls (.ref a :: st) w = gF w a 5 0 fun v => Rv 108 19 ls (v :: st) w := R_gF (z := 265) Q108 (by decide +kernel) rfl
theorem e108_19 {ls : zL} {w : zW} {a1 : Nat} {a0 : Nat} : Rv 108 19 ls [.ref a1, .ref a0] w = hO w a0 4 (cal (Rv 98 0 [some (.ref a0), some (.ref a1)] [] w) (fun v w' => Rv 108 22 ls (vts v []) w') (xnone)) := R_calV (z := 282) (r := []) Q108 (by decide +kernel) rfl rfl Q98 rfl rfl rfl
theorem e108_22 {ls : zL} {st : List Value} {w : zW} : Rv 108 22 ls st w = ldA ls 0 fun x => Rv 108 23 ls (x :: st) w := R_ldA Q108 (by decide +kernel) rfl
theorem e108_23 {ls : zL} {st : List Value} {w : zW} {a : Nat} : Rv 108 23 ls (.ref a :: st) w = gF w a 5 0 fun v => Rv 108 26 ls (v :: st) w := R_gF (z := 265) Q108 (by decide +kernel) rfl
theorem e108_26 {ls : zL} {st : List Value} {w : zW} : Rv 108 26 ls st w = ldI ls 1 fun x => Rv 108 27 ls (.int x :: st) w := R_ldI Q108 (by decide +kernel) rfl
theorem e108_27 {ls : zL} {w : zW} {n1 : Int32} {a0 : Nat} : Rv 108 27 ls [.int n1, .ref a0] w = hO w a0 2 (cal (Rv 53 0 [some (.ref a0), some (.int n1), none] [] w) (fun v w' => Rv 108 30 ls (vts v []) w') (xnone)) := R_calV (z := 605) (r := []) Q108 (by decide +kernel) rfl rfl Q53 rfl rfl rfl
theorem e108_30 {ls : zL} {w : zW} {x : Int32} : Rv 108 30 ls [.int x] w = some (.inl (some (.int x)), w) := R_retI Q108 (by decide +kernel) rfl
