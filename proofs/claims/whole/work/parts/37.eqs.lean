/-! MasterPinsModel.workValue -/
theorem e205_0 {ls : zL} {st : List Value} {w : zW} : Rv 205 0 ls st w = ldA ls 0 fun x => Rv 205 1 ls (x :: st) w := R_ldA Q205 (by decide +kernel) rfl
theorem e205_1 {ls : zL} {st : List Value} {w : zW} : Rv 205 1 ls st w = ldI ls 1 fun x => Rv 205 2 ls (.int x :: st) w := R_ldI Q205 (by decide +kernel) rfl
theorem e205_2 {ls : zL} {w : zW} {n1 : Int32} {a0 : Nat} : Rv 205 2 ls [.int n1, .ref a0] w = hO w a0 6 (cal (Rv 204 0 [some (.ref a0), some (.int n1), none, none, none] [] w) (fun v w' => Rv 205 5 ls (vts v []) w') (xnone)) := R_calV (z := 1363) (r := []) Q205 (by decide +kernel) rfl rfl Q204 rfl rfl rfl
theorem e205_5 {ls : zL} {st : List Value} {w : zW} {x : Int32} : Rv 205 5 ls (.int x :: st) w = lst ls 3 (some (.int x)) fun l => Rv 205 6 l st w := R_st Q205 (by decide +kernel) rfl
theorem e205_6 {ls : zL} {st : List Value} {w : zW} : Rv 205 6 ls st w = ldI ls 3 fun x => Rv 205 7 ls (.int x :: st) w := R_ldI Q205 (by decide +kernel) rfl
theorem e205_7 {ls : zL} {st : List Value} {w : zW} : Rv 205 7 ls st w = Rv 205 8 ls (.int (-1) :: st) w := R_con Q205 (by decide +kernel) rfl (by decide)
theorem e205_8 {ls : zL} {st : List Value} {w : zW} {x y : Int32} : Rv 205 8 ls (.int y :: .int x :: st) w = if x = y then Rv 205 15 ls st w else Rv 205 11 ls st w := R_fieq Q205 (by decide +kernel) rfl rfl
theorem e205_11 {ls : zL} {st : List Value} {w : zW} : Rv 205 11 ls st w = ldI ls 2 fun x => Rv 205 12 ls (.int x :: st) w := R_ldI Q205 (by decide +kernel) rfl
theorem e205_12 {ls : zL} {st : List Value} {w : zW} {x : Int32} : Rv 205 12 ls (.int x :: st) w = if x = 0 then Rv 205 15 ls st w else Rv 205 19 ls st w := R_f0ne Q205 (by decide +kernel) rfl rfl
theorem e205_15 {ls : zL} {st : List Value} {w : zW} : Rv 205 15 ls st w = ldI ls 3 fun x => Rv 205 16 ls (.int x :: st) w := R_ldI Q205 (by decide +kernel) rfl
theorem e205_16 {ls : zL} {st : List Value} {w : zW} : Rv 205 16 ls st w = Rv 205 37 ls st w := R_go Q205 (by decide +kernel) rfl rfl
theorem e205_19 {ls : zL} {st : List Value} {w : zW} : Rv 205 19 ls st w = ldI ls 2 fun x => Rv 205 20 ls (.int x :: st) w := R_ldI Q205 (by decide +kernel) rfl
theorem e205_20 {ls : zL} {st : List Value} {w : zW} : Rv 205 20 ls st w = Rv 205 21 ls (.int 1 :: st) w := R_con Q205 (by decide +kernel) rfl (by decide)
theorem e205_21 {ls : zL} {st : List Value} {w : zW} {x y : Int32} : Rv 205 21 ls (.int y :: .int x :: st) w = if x = y then Rv 205 24 ls st w else Rv 205 32 ls st w := R_fine Q205 (by decide +kernel) rfl rfl
theorem e205_24 {ls : zL} {st : List Value} {w : zW} : Rv 205 24 ls st w = ldA ls 0 fun x => Rv 205 25 ls (x :: st) w := R_ldA Q205 (by decide +kernel) rfl
theorem e205_25 {ls : zL} {st : List Value} {w : zW} : Rv 205 25 ls st w = ldI ls 3 fun x => Rv 205 26 ls (.int x :: st) w := R_ldI Q205 (by decide +kernel) rfl
theorem e205_26 {ls : zL} {w : zW} {n1 : Int32} {a0 : Nat} : Rv 205 26 ls [.int n1, .ref a0] w = hO w a0 6 (cal (Rv 161 0 [some (.ref a0), some (.int n1), none, none] [] w) (fun v w' => Rv 205 29 ls (vts v []) w') (xnone)) := R_calV (z := 1231) (r := []) Q205 (by decide +kernel) rfl rfl Q161 rfl rfl rfl
theorem e205_29 {ls : zL} {st : List Value} {w : zW} : Rv 205 29 ls st w = Rv 205 37 ls st w := R_go Q205 (by decide +kernel) rfl rfl
theorem e205_32 {ls : zL} {st : List Value} {w : zW} : Rv 205 32 ls st w = ldA ls 0 fun x => Rv 205 33 ls (x :: st) w := R_ldA Q205 (by decide +kernel) rfl
theorem e205_33 {ls : zL} {st : List Value} {w : zW} : Rv 205 33 ls st w = ldI ls 3 fun x => Rv 205 34 ls (.int x :: st) w := R_ldI Q205 (by decide +kernel) rfl
theorem e205_34 {ls : zL} {w : zW} {n1 : Int32} {a0 : Nat} : Rv 205 34 ls [.int n1, .ref a0] w = hO w a0 6 (cal (Rv 166 0 [some (.ref a0), some (.int n1)] [] w) (fun v w' => Rv 205 37 ls (vts v []) w') (xnone)) := R_calV (z := 1307) (r := []) Q205 (by decide +kernel) rfl rfl Q166 rfl rfl rfl
theorem e205_37 {ls : zL} {w : zW} {x : Int32} : Rv 205 37 ls [.int x] w = some (.inl (some (.int x)), w) := R_retI Q205 (by decide +kernel) rfl
/-! MasterPinsModel.work -/
theorem e206_0 {ls : zL} {st : List Value} {w : zW} : Rv 206 0 ls st w = ldA ls 0 fun x => Rv 206 1 ls (x :: st) w := R_ldA Q206 (by decide +kernel) rfl
theorem e206_1 {ls : zL} {st : List Value} {w : zW} : Rv 206 1 ls st w = ldI ls 1 fun x => Rv 206 2 ls (.int x :: st) w := R_ldI Q206 (by decide +kernel) rfl
theorem e206_2 {ls : zL} {st : List Value} {w : zW} {x : Int32} : Rv 206 2 ls (.int x :: st) w = if x < 0 then Rv 206 18 ls st w else Rv 206 5 ls st w := R_f0lt Q206 (by decide +kernel) rfl rfl
theorem e206_5 {ls : zL} {st : List Value} {w : zW} : Rv 206 5 ls st w = ldI ls 2 fun x => Rv 206 6 ls (.int x :: st) w := R_ldI Q206 (by decide +kernel) rfl
theorem e206_6 {ls : zL} {st : List Value} {w : zW} : Rv 206 6 ls st w = Rv 206 7 ls (.int 0 :: st) w := R_con Q206 (by decide +kernel) rfl (by decide)
theorem e206_7 {ls : zL} {st : List Value} {w : zW} : Rv 206 7 ls st w = Rv 206 8 ls (.int 2 :: st) w := R_con Q206 (by decide +kernel) rfl (by decide)
theorem e206_8 {ls : zL} {w : zW} {n1 : Int32} {n2 : Int32} {n3 : Int32} {a4 : Nat} : Rv 206 8 ls [.int n1, .int n2, .int n3, .ref a4] w = cal (Rv 141 0 [some (.int n3), some (.int n2), some (.int n1)] [] w) (fun v w' => Rv 206 11 ls (vts v [.ref a4]) w') (xnone) := R_calS (z := 1119) (kd := 1) (n := 3) Q206 (by decide +kernel) rfl (Or.inl rfl) (Nat.le_of_ble_eq_true rfl) rfl Q141 rfl rfl rfl
theorem e206_11 {ls : zL} {st : List Value} {w : zW} {x : Int32} : Rv 206 11 ls (.int x :: st) w = if x = 0 then Rv 206 18 ls st w else Rv 206 14 ls st w := R_f0eq Q206 (by decide +kernel) rfl rfl
theorem e206_14 {ls : zL} {st : List Value} {w : zW} : Rv 206 14 ls st w = Rv 206 15 ls (.int 1 :: st) w := R_con Q206 (by decide +kernel) rfl (by decide)
theorem e206_15 {ls : zL} {st : List Value} {w : zW} : Rv 206 15 ls st w = Rv 206 19 ls st w := R_go Q206 (by decide +kernel) rfl rfl
theorem e206_18 {ls : zL} {st : List Value} {w : zW} : Rv 206 18 ls st w = Rv 206 19 ls (.int 0 :: st) w := R_con Q206 (by decide +kernel) rfl (by decide)
theorem e206_19 {ls : zL} {st : List Value} {w : zW} : Rv 206 19 ls st w = Rv 206 20 ls (.int 1 :: st) w := R_con Q206 (by decide +kernel) rfl (by decide)
theorem e206_20 {ls : zL} {st : List Value} {w : zW} : Rv 206 20 ls st w = Rv 206 21 ls (.int 1 :: st) w := R_con Q206 (by decide +kernel) rfl (by decide)
theorem e206_21 {ls : zL} {w : zW} {n1 : Int32} {n2 : Int32} {n3 : Int32} {a0 : Nat} : Rv 206 21 ls [.int n1, .int n2, .int n3, .ref a0] w = hO w a0 6 (cal (Rv 142 0 [some (.ref a0), some (.int n3), some (.int n2), some (.int n1)] [] w) (fun v w' => Rv 206 24 ls (vts v []) w') (xnone)) := R_calV (z := 1122) (r := []) Q206 (by decide +kernel) rfl rfl Q142 rfl rfl rfl
theorem e206_24 {ls : zL} {st : List Value} {w : zW} {x : Int32} : Rv 206 24 ls (.int x :: st) w = if x = 0 then Rv 206 31 ls st w else Rv 206 27 ls st w := R_f0eq Q206 (by decide +kernel) rfl rfl
theorem e206_27 {ls : zL} {st : List Value} {w : zW} : Rv 206 27 ls st w = Rv 206 28 ls (.int 0 :: st) w := R_con Q206 (by decide +kernel) rfl (by decide)
theorem e206_28 {ls : zL} {st : List Value} {w : zW} : Rv 206 28 ls st w = Rv 206 37 ls st w := R_go Q206 (by decide +kernel) rfl rfl
theorem e206_31 {ls : zL} {st : List Value} {w : zW} : Rv 206 31 ls st w = ldA ls 0 fun x => Rv 206 32 ls (x :: st) w := R_ldA Q206 (by decide +kernel) rfl
theorem e206_32 {ls : zL} {st : List Value} {w : zW} : Rv 206 32 ls st w = ldI ls 1 fun x => Rv 206 33 ls (.int x :: st) w := R_ldI Q206 (by decide +kernel) rfl
theorem e206_33 {ls : zL} {st : List Value} {w : zW} : Rv 206 33 ls st w = ldI ls 2 fun x => Rv 206 34 ls (.int x :: st) w := R_ldI Q206 (by decide +kernel) rfl
theorem e206_34 {ls : zL} {w : zW} {n1 : Int32} {n2 : Int32} {a0 : Nat} : Rv 206 34 ls [.int n1, .int n2, .ref a0] w = hO w a0 6 (cal (Rv 205 0 [some (.ref a0), some (.int n2), some (.int n1), none] [] w) (fun v w' => Rv 206 37 ls (vts v []) w') (xnone)) := R_calV (z := 1359) (r := []) Q206 (by decide +kernel) rfl rfl Q205 rfl rfl rfl
theorem e206_37 {ls : zL} {w : zW} {x : Int32} : Rv 206 37 ls [.int x] w = some (.inl (some (.int x)), w) := R_retI Q206 (by decide +kernel) rfl
/-! MasterPinsModel.keyAt -/
theorem e207_0 {ls : zL} {st : List Value} {w : zW} : Rv 207 0 ls st w = Rv 207 1 ls (.int 0 :: st) w := R_con Q207 (by decide +kernel) rfl (by decide)
theorem e207_1 {ls : zL} {st : List Value} {w : zW} {x : Int32} : Rv 207 1 ls (.int x :: st) w = lst ls 2 (some (.int x)) fun l => Rv 207 2 l st w := R_st Q207 (by decide +kernel) rfl
theorem h207_2 {ls : zL} {st : List Value} {w : zW} : Rv 207 2 ls st w = ldI ls 2 fun x => Rv 207 3 ls (.int x :: st) w := R_ldI Q207 (by decide +kernel) rfl
theorem e207_3 {ls : zL} {st : List Value} {w : zW} : Rv 207 3 ls st w = ldA ls 0 fun x => Rv 207 4 ls (x :: st) w := R_ldA Q207 (by decide +kernel) rfl
theorem e207_4 {ls : zL} {st : List Value} {w : zW} {a : Nat} : Rv 207 4 ls (.ref a :: st) w = gF w a 6 0 fun v => Rv 207 7 ls (v :: st) w := R_gF (z := 1070) Q207 (by decide +kernel) rfl
theorem e207_7 {ls : zL} {st : List Value} {w : zW} : Rv 207 7 ls st w = Rv 207 8 ls (.int 5 :: st) w := R_con Q207 (by decide +kernel) rfl (by decide)
theorem e207_8 {ls : zL} {st : List Value} {w : zW} {a : Nat} {x : Int32} : Rv 207 8 ls (.int x :: .ref a :: st) w = gI w a 0 8 x fun v => Rv 207 9 ls (.int v :: st) w := R_iald Q207 (by decide +kernel)
theorem e207_9 {ls : zL} {st : List Value} {w : zW} {x y : Int32} : Rv 207 9 ls (.int y :: .int x :: st) w = if x < y then Rv 207 12 ls st w else Rv 207 77 ls st w := R_fige Q207 (by decide +kernel) rfl rfl
theorem e207_12 {ls : zL} {st : List Value} {w : zW} : Rv 207 12 ls st w = Rv 207 13 ls (.int 0 :: st) w := R_con Q207 (by decide +kernel) rfl (by decide)
theorem e207_13 {ls : zL} {st : List Value} {w : zW} {x : Int32} : Rv 207 13 ls (.int x :: st) w = lst ls 3 (some (.int x)) fun l => Rv 207 14 l st w := R_st Q207 (by decide +kernel) rfl
theorem e207_14 {ls : zL} {st : List Value} {w : zW} : Rv 207 14 ls st w = Rv 207 15 ls (.int 0 :: st) w := R_con Q207 (by decide +kernel) rfl (by decide)
theorem e207_15 {ls : zL} {st : List Value} {w : zW} {x : Int32} : Rv 207 15 ls (.int x :: st) w = lst ls 4 (some (.int x)) fun l => Rv 207 17 l st w := R_st Q207 (by decide +kernel) rfl
theorem h207_17 {ls : zL} {st : List Value} {w : zW} : Rv 207 17 ls st w = ldI ls 4 fun x => Rv 207 19 ls (.int x :: st) w := R_ldI Q207 (by decide +kernel) rfl
theorem e207_19 {ls : zL} {st : List Value} {w : zW} : Rv 207 19 ls st w = ldA ls 0 fun x => Rv 207 20 ls (x :: st) w := R_ldA Q207 (by decide +kernel) rfl
theorem e207_20 {ls : zL} {st : List Value} {w : zW} {a : Nat} : Rv 207 20 ls (.ref a :: st) w = gF w a 6 0 fun v => Rv 207 23 ls (v :: st) w := R_gF (z := 1070) Q207 (by decide +kernel) rfl
theorem e207_23 {ls : zL} {st : List Value} {w : zW} : Rv 207 23 ls st w = Rv 207 24 ls (.int 5 :: st) w := R_con Q207 (by decide +kernel) rfl (by decide)
theorem e207_24 {ls : zL} {st : List Value} {w : zW} {a : Nat} {x : Int32} : Rv 207 24 ls (.int x :: .ref a :: st) w = gI w a 0 8 x fun v => Rv 207 25 ls (.int v :: st) w := R_iald Q207 (by decide +kernel)
theorem e207_25 {ls : zL} {st : List Value} {w : zW} {x y : Int32} : Rv 207 25 ls (.int y :: .int x :: st) w = if x < y then Rv 207 28 ls st w else Rv 207 64 ls st w := R_fige Q207 (by decide +kernel) rfl rfl
theorem e207_28 {ls : zL} {st : List Value} {w : zW} : Rv 207 28 ls st w = ldI ls 3 fun x => Rv 207 29 ls (.int x :: st) w := R_ldI Q207 (by decide +kernel) rfl
theorem e207_29 {ls : zL} {st : List Value} {w : zW} : Rv 207 29 ls st w = ldA ls 0 fun x => Rv 207 30 ls (x :: st) w := R_ldA Q207 (by decide +kernel) rfl
theorem e207_30 {ls : zL} {st : List Value} {w : zW} {a : Nat} : Rv 207 30 ls (.ref a :: st) w = gF w a 6 0 fun v => Rv 207 33 ls (v :: st) w := R_gF (z := 1070) Q207 (by decide +kernel) rfl
theorem e207_33 {ls : zL} {st : List Value} {w : zW} : Rv 207 33 ls st w = Rv 207 35 ls (.int 7 :: st) w := R_con Q207 (by decide +kernel) rfl (by decide)
theorem e207_35 {ls : zL} {st : List Value} {w : zW} : Rv 207 35 ls st w = ldI ls 4 fun x => Rv 207 37 ls (.int x :: st) w := R_ldI Q207 (by decide +kernel) rfl
theorem e207_37 {ls : zL} {st : List Value} {w : zW} {x y : Int32} : Rv 207 37 ls (.int y :: .int x :: st) w = Rv 207 38 ls (.int (x + y) :: st) w := R_next Q207 (by decide +kernel) rfl
theorem e207_38 {ls : zL} {st : List Value} {w : zW} {a : Nat} {x : Int32} : Rv 207 38 ls (.int x :: .ref a :: st) w = gI w a 0 8 x fun v => Rv 207 39 ls (.int v :: st) w := R_iald Q207 (by decide +kernel)
theorem e207_39 {ls : zL} {st : List Value} {w : zW} : Rv 207 39 ls st w = ldA ls 0 fun x => Rv 207 40 ls (x :: st) w := R_ldA Q207 (by decide +kernel) rfl
theorem e207_40 {ls : zL} {st : List Value} {w : zW} {a : Nat} : Rv 207 40 ls (.ref a :: st) w = gF w a 6 0 fun v => Rv 207 43 ls (v :: st) w := R_gF (z := 1070) Q207 (by decide +kernel) rfl
theorem e207_43 {ls : zL} {st : List Value} {w : zW} : Rv 207 43 ls st w = Rv 207 45 ls (.int 7 :: st) w := R_con Q207 (by decide +kernel) rfl (by decide)
theorem e207_45 {ls : zL} {st : List Value} {w : zW} : Rv 207 45 ls st w = ldI ls 2 fun x => Rv 207 46 ls (.int x :: st) w := R_ldI Q207 (by decide +kernel) rfl
theorem e207_46 {ls : zL} {st : List Value} {w : zW} {x y : Int32} : Rv 207 46 ls (.int y :: .int x :: st) w = Rv 207 47 ls (.int (x + y) :: st) w := R_next Q207 (by decide +kernel) rfl
theorem e207_47 {ls : zL} {st : List Value} {w : zW} {a : Nat} {x : Int32} : Rv 207 47 ls (.int x :: .ref a :: st) w = gI w a 0 8 x fun v => Rv 207 48 ls (.int v :: st) w := R_iald Q207 (by decide +kernel)
theorem e207_48 {ls : zL} {st : List Value} {w : zW} {x y : Int32} : Rv 207 48 ls (.int y :: .int x :: st) w = if x < y then Rv 207 51 ls st w else Rv 207 55 ls st w := R_fige Q207 (by decide +kernel) rfl rfl
theorem e207_51 {ls : zL} {st : List Value} {w : zW} : Rv 207 51 ls st w = Rv 207 52 ls (.int 1 :: st) w := R_con Q207 (by decide +kernel) rfl (by decide)
theorem e207_52 {ls : zL} {st : List Value} {w : zW} : Rv 207 52 ls st w = Rv 207 56 ls st w := R_go Q207 (by decide +kernel) rfl rfl
theorem e207_55 {ls : zL} {st : List Value} {w : zW} : Rv 207 55 ls st w = Rv 207 56 ls (.int 0 :: st) w := R_con Q207 (by decide +kernel) rfl (by decide)
theorem e207_56 {ls : zL} {st : List Value} {w : zW} {x y : Int32} : Rv 207 56 ls (.int y :: .int x :: st) w = Rv 207 57 ls (.int (x + y) :: st) w := R_next Q207 (by decide +kernel) rfl
theorem e207_57 {ls : zL} {st : List Value} {w : zW} {x : Int32} : Rv 207 57 ls (.int x :: st) w = lst ls 3 (some (.int x)) fun l => Rv 207 58 l st w := R_st Q207 (by decide +kernel) rfl
theorem e207_58 {ls : zL} {st : List Value} {w : zW} : Rv 207 58 ls st w = ldI ls 4 fun x => lst ls 4 (some (.int (x + 1))) fun l => Rv 207 61 l st w := R_iinc Q207 (by decide +kernel) (by decide)
theorem e207_61 {ls : zL} {st : List Value} {w : zW} : Rv 207 61 ls st w = Rv 207 17 ls st w := R_go Q207 (by decide +kernel) rfl rfl
theorem e207_64 {ls : zL} {st : List Value} {w : zW} : Rv 207 64 ls st w = ldI ls 3 fun x => Rv 207 65 ls (.int x :: st) w := R_ldI Q207 (by decide +kernel) rfl
theorem e207_65 {ls : zL} {st : List Value} {w : zW} : Rv 207 65 ls st w = ldI ls 1 fun x => Rv 207 66 ls (.int x :: st) w := R_ldI Q207 (by decide +kernel) rfl
theorem e207_66 {ls : zL} {st : List Value} {w : zW} {x y : Int32} : Rv 207 66 ls (.int y :: .int x :: st) w = if x = y then Rv 207 69 ls st w else Rv 207 71 ls st w := R_fine Q207 (by decide +kernel) rfl rfl
theorem e207_69 {ls : zL} {st : List Value} {w : zW} : Rv 207 69 ls st w = ldI ls 2 fun x => Rv 207 70 ls (.int x :: st) w := R_ldI Q207 (by decide +kernel) rfl
theorem e207_70 {ls : zL} {w : zW} {x : Int32} : Rv 207 70 ls [.int x] w = some (.inl (some (.int x)), w) := R_retI Q207 (by decide +kernel) rfl
theorem e207_71 {ls : zL} {st : List Value} {w : zW} : Rv 207 71 ls st w = ldI ls 2 fun x => lst ls 2 (some (.int (x + 1))) fun l => Rv 207 74 l st w := R_iinc Q207 (by decide +kernel) (by decide)
theorem e207_74 {ls : zL} {st : List Value} {w : zW} : Rv 207 74 ls st w = Rv 207 2 ls st w := R_go Q207 (by decide +kernel) rfl rfl
theorem e207_77 {ls : zL} {st : List Value} {w : zW} : Rv 207 77 ls st w = Rv 207 78 ls (.int (-1) :: st) w := R_con Q207 (by decide +kernel) rfl (by decide)
theorem e207_78 {ls : zL} {w : zW} {x : Int32} : Rv 207 78 ls [.int x] w = some (.inl (some (.int x)), w) := R_retI Q207 (by decide +kernel) rfl
/-! MasterPinsModel.byCode -/
theorem e208_0 {ls : zL} {st : List Value} {w : zW} : Rv 208 0 ls st w = ldA ls 0 fun x => Rv 208 1 ls (x :: st) w := R_ldA Q208 (by decide +kernel) rfl
theorem e208_1 {ls : zL} {st : List Value} {w : zW} : Rv 208 1 ls st w = ldI ls 1 fun x => Rv 208 2 ls (.int x :: st) w := R_ldI Q208 (by decide +kernel) rfl
theorem e208_2 {ls : zL} {st : List Value} {w : zW} {x : Int32} : Rv 208 2 ls (.int x :: st) w = if x < 0 then Rv 208 9 ls st w else Rv 208 5 ls st w := R_f0lt Q208 (by decide +kernel) rfl rfl
theorem e208_5 {ls : zL} {st : List Value} {w : zW} : Rv 208 5 ls st w = Rv 208 6 ls (.int 1 :: st) w := R_con Q208 (by decide +kernel) rfl (by decide)
theorem e208_6 {ls : zL} {st : List Value} {w : zW} : Rv 208 6 ls st w = Rv 208 10 ls st w := R_go Q208 (by decide +kernel) rfl rfl
theorem e208_9 {ls : zL} {st : List Value} {w : zW} : Rv 208 9 ls st w = Rv 208 10 ls (.int 0 :: st) w := R_con Q208 (by decide +kernel) rfl (by decide)
theorem e208_10 {ls : zL} {st : List Value} {w : zW} : Rv 208 10 ls st w = Rv 208 11 ls (.int 1 :: st) w := R_con Q208 (by decide +kernel) rfl (by decide)
theorem e208_11 {ls : zL} {st : List Value} {w : zW} : Rv 208 11 ls st w = Rv 208 12 ls (.int 1 :: st) w := R_con Q208 (by decide +kernel) rfl (by decide)
theorem e208_12 {ls : zL} {w : zW} {n1 : Int32} {n2 : Int32} {n3 : Int32} {a0 : Nat} : Rv 208 12 ls [.int n1, .int n2, .int n3, .ref a0] w = hO w a0 6 (cal (Rv 142 0 [some (.ref a0), some (.int n3), some (.int n2), some (.int n1)] [] w) (fun v w' => Rv 208 15 ls (vts v []) w') (xnone)) := R_calV (z := 1122) (r := []) Q208 (by decide +kernel) rfl rfl Q142 rfl rfl rfl
theorem e208_15 {ls : zL} {st : List Value} {w : zW} {x : Int32} : Rv 208 15 ls (.int x :: st) w = if x = 0 then Rv 208 22 ls st w else Rv 208 18 ls st w := R_f0eq Q208 (by decide +kernel) rfl rfl
theorem e208_18 {ls : zL} {st : List Value} {w : zW} : Rv 208 18 ls st w = Rv 208 19 ls (.int 0 :: st) w := R_con Q208 (by decide +kernel) rfl (by decide)
theorem e208_19 {ls : zL} {st : List Value} {w : zW} : Rv 208 19 ls st w = Rv 208 27 ls st w := R_go Q208 (by decide +kernel) rfl rfl
theorem e208_22 {ls : zL} {st : List Value} {w : zW} : Rv 208 22 ls st w = ldA ls 0 fun x => Rv 208 23 ls (x :: st) w := R_ldA Q208 (by decide +kernel) rfl
theorem e208_23 {ls : zL} {st : List Value} {w : zW} : Rv 208 23 ls st w = ldI ls 1 fun x => Rv 208 24 ls (.int x :: st) w := R_ldI Q208 (by decide +kernel) rfl
theorem e208_24 {ls : zL} {w : zW} {n1 : Int32} {a0 : Nat} : Rv 208 24 ls [.int n1, .ref a0] w = hO w a0 6 (cal (Rv 207 0 [some (.ref a0), some (.int n1), none, none, none] [] w) (fun v w' => Rv 208 27 ls (vts v []) w') (xnone)) := R_calV (z := 1371) (r := []) Q208 (by decide +kernel) rfl rfl Q207 rfl rfl rfl
theorem e208_27 {ls : zL} {w : zW} {x : Int32} : Rv 208 27 ls [.int x] w = some (.inl (some (.int x)), w) := R_retI Q208 (by decide +kernel) rfl
/-! MasterPinsModel.reason -/
theorem e209_0 {ls : zL} {st : List Value} {w : zW} : Rv 209 0 ls st w = ldA ls 0 fun x => Rv 209 1 ls (x :: st) w := R_ldA Q209 (by decide +kernel) rfl
theorem e209_1 {ls : zL} {st : List Value} {w : zW} : Rv 209 1 ls st w = ldI ls 1 fun x => Rv 209 2 ls (.int x :: st) w := R_ldI Q209 (by decide +kernel) rfl
theorem e209_2 {ls : zL} {st : List Value} {w : zW} : Rv 209 2 ls st w = Rv 209 3 ls (.int (-1) :: st) w := R_con Q209 (by decide +kernel) rfl (by decide)
theorem e209_3 {ls : zL} {st : List Value} {w : zW} {x y : Int32} : Rv 209 3 ls (.int y :: .int x :: st) w = if x = y then Rv 209 14 ls st w else Rv 209 6 ls st w := R_fieq Q209 (by decide +kernel) rfl rfl
theorem e209_6 {ls : zL} {st : List Value} {w : zW} : Rv 209 6 ls st w = ldA ls 0 fun x => Rv 209 7 ls (x :: st) w := R_ldA Q209 (by decide +kernel) rfl
theorem e209_7 {ls : zL} {st : List Value} {w : zW} : Rv 209 7 ls st w = ldI ls 1 fun x => Rv 209 8 ls (.int x :: st) w := R_ldI Q209 (by decide +kernel) rfl
theorem e209_8 {ls : zL} {w : zW} {n1 : Int32} {a0 : Nat} {a2 : Nat} : Rv 209 8 ls [.int n1, .ref a0, .ref a2] w = hO w a0 6 (cal (Rv 144 0 [some (.ref a0), some (.int n1)] [] w) (fun v w' => Rv 209 11 ls (vts v [.ref a2]) w') (xnone)) := R_calV (z := 1146) (r := [.ref a2]) Q209 (by decide +kernel) rfl rfl Q144 rfl rfl rfl
theorem e209_11 {ls : zL} {st : List Value} {w : zW} {x : Int32} : Rv 209 11 ls (.int x :: st) w = if x = 0 then Rv 209 18 ls st w else Rv 209 14 ls st w := R_f0eq Q209 (by decide +kernel) rfl rfl
theorem e209_14 {ls : zL} {st : List Value} {w : zW} : Rv 209 14 ls st w = Rv 209 15 ls (.int 1 :: st) w := R_con Q209 (by decide +kernel) rfl (by decide)
theorem e209_15 {ls : zL} {st : List Value} {w : zW} : Rv 209 15 ls st w = Rv 209 19 ls st w := R_go Q209 (by decide +kernel) rfl rfl
theorem e209_18 {ls : zL} {st : List Value} {w : zW} : Rv 209 18 ls st w = Rv 209 19 ls (.int 0 :: st) w := R_con Q209 (by decide +kernel) rfl (by decide)
theorem e209_19 {ls : zL} {st : List Value} {w : zW} : Rv 209 19 ls st w = Rv 209 20 ls (.int 1 :: st) w := R_con Q209 (by decide +kernel) rfl (by decide)
theorem e209_20 {ls : zL} {st : List Value} {w : zW} : Rv 209 20 ls st w = Rv 209 21 ls (.int 1 :: st) w := R_con Q209 (by decide +kernel) rfl (by decide)
theorem e209_21 {ls : zL} {w : zW} {n1 : Int32} {n2 : Int32} {n3 : Int32} {a0 : Nat} : Rv 209 21 ls [.int n1, .int n2, .int n3, .ref a0] w = hO w a0 6 (cal (Rv 142 0 [some (.ref a0), some (.int n3), some (.int n2), some (.int n1)] [] w) (fun v w' => Rv 209 24 ls (vts v []) w') (xnone)) := R_calV (z := 1122) (r := []) Q209 (by decide +kernel) rfl rfl Q142 rfl rfl rfl
theorem e209_24 {ls : zL} {st : List Value} {w : zW} {x : Int32} : Rv 209 24 ls (.int x :: st) w = if x = 0 then Rv 209 31 ls st w else Rv 209 27 ls st w := R_f0eq Q209 (by decide +kernel) rfl rfl
theorem e209_27 {ls : zL} {st : List Value} {w : zW} : Rv 209 27 ls st w = Rv 209 28 ls (.int 0 :: st) w := R_con Q209 (by decide +kernel) rfl (by decide)
theorem e209_28 {ls : zL} {st : List Value} {w : zW} : Rv 209 28 ls st w = Rv 209 37 ls st w := R_go Q209 (by decide +kernel) rfl rfl
theorem e209_31 {ls : zL} {st : List Value} {w : zW} : Rv 209 31 ls st w = ldA ls 0 fun x => Rv 209 32 ls (x :: st) w := R_ldA Q209 (by decide +kernel) rfl
theorem e209_32 {ls : zL} {st : List Value} {w : zW} : Rv 209 32 ls st w = ldI ls 1 fun x => Rv 209 33 ls (.int x :: st) w := R_ldI Q209 (by decide +kernel) rfl
theorem e209_33 {ls : zL} {st : List Value} {w : zW} : Rv 209 33 ls st w = ldI ls 2 fun x => Rv 209 34 ls (.int x :: st) w := R_ldI Q209 (by decide +kernel) rfl
theorem e209_34 {ls : zL} {w : zW} {n1 : Int32} {n2 : Int32} {a0 : Nat} : Rv 209 34 ls [.int n1, .int n2, .ref a0] w = hO w a0 6 (cal (Rv 153 0 [some (.ref a0), some (.int n2), some (.int n1), none, none] [] w) (fun v w' => Rv 209 37 ls (vts v []) w') (xnone)) := R_calV (z := 1150) (r := []) Q209 (by decide +kernel) rfl rfl Q153 rfl rfl rfl
theorem e209_37 {ls : zL} {w : zW} {x : Int32} : Rv 209 37 ls [.int x] w = some (.inl (some (.int x)), w) := R_retI Q209 (by decide +kernel) rfl
/-! MasterPinsModel.free -/
theorem e210_0 {ls : zL} {st : List Value} {w : zW} : Rv 210 0 ls st w = Rv 210 1 ls (.int 0 :: st) w := R_con Q210 (by decide +kernel) rfl (by decide)
theorem e210_1 {ls : zL} {st : List Value} {w : zW} {x : Int32} : Rv 210 1 ls (.int x :: st) w = lst ls 1 (some (.int x)) fun l => Rv 210 2 l st w := R_st Q210 (by decide +kernel) rfl
theorem e210_2 {ls : zL} {st : List Value} {w : zW} : Rv 210 2 ls st w = Rv 210 3 ls (.int 0 :: st) w := R_con Q210 (by decide +kernel) rfl (by decide)
theorem e210_3 {ls : zL} {st : List Value} {w : zW} {x : Int32} : Rv 210 3 ls (.int x :: st) w = lst ls 2 (some (.int x)) fun l => Rv 210 4 l st w := R_st Q210 (by decide +kernel) rfl
theorem h210_4 {ls : zL} {st : List Value} {w : zW} : Rv 210 4 ls st w = ldI ls 2 fun x => Rv 210 5 ls (.int x :: st) w := R_ldI Q210 (by decide +kernel) rfl
theorem e210_5 {ls : zL} {st : List Value} {w : zW} : Rv 210 5 ls st w = ldA ls 0 fun x => Rv 210 6 ls (x :: st) w := R_ldA Q210 (by decide +kernel) rfl
theorem e210_6 {ls : zL} {w : zW} {a0 : Nat} {n1 : Int32} : Rv 210 6 ls [.ref a0, .int n1] w = hO w a0 6 (cal (Rv 155 0 [some (.ref a0), none, none] [] w) (fun v w' => Rv 210 9 ls (vts v [.int n1]) w') (xnone)) := R_calV (z := 1315) (r := [.int n1]) Q210 (by decide +kernel) rfl rfl Q155 rfl rfl rfl
theorem e210_9 {ls : zL} {st : List Value} {w : zW} {x y : Int32} : Rv 210 9 ls (.int y :: .int x :: st) w = if x < y then Rv 210 12 ls st w else Rv 210 39 ls st w := R_fige Q210 (by decide +kernel) rfl rfl
theorem e210_12 {ls : zL} {st : List Value} {w : zW} : Rv 210 12 ls st w = ldI ls 1 fun x => Rv 210 13 ls (.int x :: st) w := R_ldI Q210 (by decide +kernel) rfl
theorem e210_13 {ls : zL} {st : List Value} {w : zW} : Rv 210 13 ls st w = ldA ls 0 fun x => Rv 210 14 ls (x :: st) w := R_ldA Q210 (by decide +kernel) rfl
theorem e210_14 {ls : zL} {st : List Value} {w : zW} : Rv 210 14 ls st w = Rv 210 15 ls (.int (-1) :: st) w := R_con Q210 (by decide +kernel) rfl (by decide)
theorem e210_15 {ls : zL} {st : List Value} {w : zW} : Rv 210 15 ls st w = ldA ls 0 fun x => Rv 210 16 ls (x :: st) w := R_ldA Q210 (by decide +kernel) rfl
theorem e210_16 {ls : zL} {st : List Value} {w : zW} : Rv 210 16 ls st w = ldI ls 2 fun x => Rv 210 17 ls (.int x :: st) w := R_ldI Q210 (by decide +kernel) rfl
theorem e210_17 {ls : zL} {w : zW} {n1 : Int32} {a0 : Nat} {n2 : Int32} {a3 : Nat} {n4 : Int32} : Rv 210 17 ls [.int n1, .ref a0, .int n2, .ref a3, .int n4] w = hO w a0 6 (cal (Rv 154 0 [some (.ref a0), some (.int n1), none, none, none, none] [] w) (fun v w' => Rv 210 20 ls (vts v [.int n2, .ref a3, .int n4]) w') (xnone)) := R_calV (z := 1319) (r := [.int n2, .ref a3, .int n4]) Q210 (by decide +kernel) rfl rfl Q154 rfl rfl rfl
theorem e210_20 {ls : zL} {w : zW} {n1 : Int32} {n2 : Int32} {a0 : Nat} {n3 : Int32} : Rv 210 20 ls [.int n1, .int n2, .ref a0, .int n3] w = hO w a0 6 (cal (Rv 153 0 [some (.ref a0), some (.int n2), some (.int n1), none, none] [] w) (fun v w' => Rv 210 23 ls (vts v [.int n3]) w') (xnone)) := R_calV (z := 1150) (r := [.int n3]) Q210 (by decide +kernel) rfl rfl Q153 rfl rfl rfl
theorem e210_23 {ls : zL} {st : List Value} {w : zW} {x : Int32} : Rv 210 23 ls (.int x :: st) w = if x = 0 then Rv 210 26 ls st w else Rv 210 30 ls st w := R_f0ne Q210 (by decide +kernel) rfl rfl
theorem e210_26 {ls : zL} {st : List Value} {w : zW} : Rv 210 26 ls st w = Rv 210 27 ls (.int 1 :: st) w := R_con Q210 (by decide +kernel) rfl (by decide)
theorem e210_27 {ls : zL} {st : List Value} {w : zW} : Rv 210 27 ls st w = Rv 210 31 ls st w := R_go Q210 (by decide +kernel) rfl rfl
theorem e210_30 {ls : zL} {st : List Value} {w : zW} : Rv 210 30 ls st w = Rv 210 31 ls (.int 0 :: st) w := R_con Q210 (by decide +kernel) rfl (by decide)
theorem e210_31 {ls : zL} {st : List Value} {w : zW} {x y : Int32} : Rv 210 31 ls (.int y :: .int x :: st) w = Rv 210 32 ls (.int (x + y) :: st) w := R_next Q210 (by decide +kernel) rfl
theorem e210_32 {ls : zL} {st : List Value} {w : zW} {x : Int32} : Rv 210 32 ls (.int x :: st) w = lst ls 1 (some (.int x)) fun l => Rv 210 33 l st w := R_st Q210 (by decide +kernel) rfl
theorem e210_33 {ls : zL} {st : List Value} {w : zW} : Rv 210 33 ls st w = ldI ls 2 fun x => lst ls 2 (some (.int (x + 1))) fun l => Rv 210 36 l st w := R_iinc Q210 (by decide +kernel) (by decide)
theorem e210_36 {ls : zL} {st : List Value} {w : zW} : Rv 210 36 ls st w = Rv 210 4 ls st w := R_go Q210 (by decide +kernel) rfl rfl
theorem e210_39 {ls : zL} {st : List Value} {w : zW} : Rv 210 39 ls st w = ldI ls 1 fun x => Rv 210 40 ls (.int x :: st) w := R_ldI Q210 (by decide +kernel) rfl
theorem e210_40 {ls : zL} {w : zW} {x : Int32} : Rv 210 40 ls [.int x] w = some (.inl (some (.int x)), w) := R_retI Q210 (by decide +kernel) rfl
/-! MasterPinsModel.freeCodes -/
theorem e211_0 {ls : zL} {st : List Value} {w : zW} : Rv 211 0 ls st w = ldA ls 0 fun x => Rv 211 1 ls (x :: st) w := R_ldA Q211 (by decide +kernel) rfl
theorem e211_1 {ls : zL} {st : List Value} {w : zW} : Rv 211 1 ls st w = Rv 211 2 ls (.int 0 :: st) w := R_con Q211 (by decide +kernel) rfl (by decide)
theorem e211_2 {ls : zL} {st : List Value} {w : zW} {x : Int32} {a : Nat} : Rv 211 2 ls (.int x :: .ref a :: st) w = pF w a 6 3 (.int x) fun w' => Rv 211 5 ls st w' := R_pF (z := 1073) Q211 (by decide +kernel) rfl ⟨by decide, rfl, Or.inl rfl⟩
theorem e211_5 {ls : zL} {st : List Value} {w : zW} : Rv 211 5 ls st w = ldA ls 0 fun x => Rv 211 6 ls (x :: st) w := R_ldA Q211 (by decide +kernel) rfl
theorem e211_6 {ls : zL} {w : zW} {a0 : Nat} : Rv 211 6 ls [.ref a0] w = hO w a0 6 (cal (Rv 210 0 [some (.ref a0), none, none] [] w) (fun v w' => Rv 211 9 ls (vts v []) w') (xnone)) := R_calV (z := 1383) (r := []) Q211 (by decide +kernel) rfl rfl Q210 rfl rfl rfl
theorem e211_9 {ls : zL} {w : zW} {x : Int32} : Rv 211 9 ls [.int x] w = some (.inl (some (.int x)), w) := R_retI Q211 (by decide +kernel) rfl
/-! MasterPinsModel.sizes -/
theorem e212_0 {ls : zL} {st : List Value} {w : zW} : Rv 212 0 ls st w = Rv 212 1 ls (.int 0 :: st) w := R_con Q212 (by decide +kernel) rfl (by decide)
theorem e212_1 {ls : zL} {st : List Value} {w : zW} {x : Int32} : Rv 212 1 ls (.int x :: st) w = lst ls 3 (some (.int x)) fun l => Rv 212 2 l st w := R_st Q212 (by decide +kernel) rfl
theorem e212_2 {ls : zL} {st : List Value} {w : zW} : Rv 212 2 ls st w = Rv 212 3 ls (.int 0 :: st) w := R_con Q212 (by decide +kernel) rfl (by decide)
theorem e212_3 {ls : zL} {st : List Value} {w : zW} {x : Int32} : Rv 212 3 ls (.int x :: st) w = lst ls 4 (some (.int x)) fun l => Rv 212 5 l st w := R_st Q212 (by decide +kernel) rfl
theorem h212_5 {ls : zL} {st : List Value} {w : zW} : Rv 212 5 ls st w = ldI ls 4 fun x => Rv 212 7 ls (.int x :: st) w := R_ldI Q212 (by decide +kernel) rfl
theorem e212_7 {ls : zL} {st : List Value} {w : zW} : Rv 212 7 ls st w = ldA ls 0 fun x => Rv 212 8 ls (x :: st) w := R_ldA Q212 (by decide +kernel) rfl
theorem e212_8 {ls : zL} {st : List Value} {w : zW} {a : Nat} : Rv 212 8 ls (.ref a :: st) w = gF w a 6 0 fun v => Rv 212 11 ls (v :: st) w := R_gF (z := 1070) Q212 (by decide +kernel) rfl
theorem e212_11 {ls : zL} {st : List Value} {w : zW} : Rv 212 11 ls st w = Rv 212 12 ls (.int 0 :: st) w := R_con Q212 (by decide +kernel) rfl (by decide)
theorem e212_12 {ls : zL} {st : List Value} {w : zW} {a : Nat} {x : Int32} : Rv 212 12 ls (.int x :: .ref a :: st) w = gI w a 0 8 x fun v => Rv 212 13 ls (.int v :: st) w := R_iald Q212 (by decide +kernel)
theorem e212_13 {ls : zL} {st : List Value} {w : zW} {x y : Int32} : Rv 212 13 ls (.int y :: .int x :: st) w = if x < y then Rv 212 16 ls st w else Rv 212 42 ls st w := R_fige Q212 (by decide +kernel) rfl rfl
theorem e212_16 {ls : zL} {st : List Value} {w : zW} : Rv 212 16 ls st w = ldI ls 3 fun x => Rv 212 17 ls (.int x :: st) w := R_ldI Q212 (by decide +kernel) rfl
theorem e212_17 {ls : zL} {st : List Value} {w : zW} : Rv 212 17 ls st w = ldA ls 0 fun x => Rv 212 18 ls (x :: st) w := R_ldA Q212 (by decide +kernel) rfl
theorem e212_18 {ls : zL} {st : List Value} {w : zW} : Rv 212 18 ls st w = ldI ls 1 fun x => Rv 212 19 ls (.int x :: st) w := R_ldI Q212 (by decide +kernel) rfl
theorem e212_19 {ls : zL} {st : List Value} {w : zW} : Rv 212 19 ls st w = ldI ls 4 fun x => Rv 212 21 ls (.int x :: st) w := R_ldI Q212 (by decide +kernel) rfl
theorem e212_21 {ls : zL} {w : zW} {n1 : Int32} {n2 : Int32} {a0 : Nat} {n3 : Int32} : Rv 212 21 ls [.int n1, .int n2, .ref a0, .int n3] w = hO w a0 6 (cal (Rv 148 0 [some (.ref a0), some (.int n2), some (.int n1)] [] w) (fun v w' => Rv 212 24 ls (vts v [.int n3]) w') (xnone)) := R_calV (z := 1165) (r := [.int n3]) Q212 (by decide +kernel) rfl rfl Q148 rfl rfl rfl
theorem e212_24 {ls : zL} {st : List Value} {w : zW} : Rv 212 24 ls st w = ldA ls 0 fun x => Rv 212 25 ls (x :: st) w := R_ldA Q212 (by decide +kernel) rfl
theorem e212_25 {ls : zL} {st : List Value} {w : zW} : Rv 212 25 ls st w = ldI ls 2 fun x => Rv 212 26 ls (.int x :: st) w := R_ldI Q212 (by decide +kernel) rfl
theorem e212_26 {ls : zL} {st : List Value} {w : zW} : Rv 212 26 ls st w = ldI ls 4 fun x => Rv 212 28 ls (.int x :: st) w := R_ldI Q212 (by decide +kernel) rfl
theorem e212_28 {ls : zL} {w : zW} {n1 : Int32} {n2 : Int32} {a0 : Nat} {n3 : Int32} {n4 : Int32} : Rv 212 28 ls [.int n1, .int n2, .ref a0, .int n3, .int n4] w = hO w a0 6 (cal (Rv 148 0 [some (.ref a0), some (.int n2), some (.int n1)] [] w) (fun v w' => Rv 212 31 ls (vts v [.int n3, .int n4]) w') (xnone)) := R_calV (z := 1165) (r := [.int n3, .int n4]) Q212 (by decide +kernel) rfl rfl Q148 rfl rfl rfl
theorem e212_31 {ls : zL} {w : zW} {n1 : Int32} {n2 : Int32} {n3 : Int32} : Rv 212 31 ls [.int n1, .int n2, .int n3] w = cal (Rv 149 0 [some (.int n2), some (.int n1)] [] w) (fun v w' => Rv 212 34 ls (vts v [.int n3]) w') (xnone) := R_calS (z := 1169) (kd := 1) (n := 2) Q212 (by decide +kernel) rfl (Or.inl rfl) (Nat.le_of_ble_eq_true rfl) rfl Q149 rfl rfl rfl
theorem e212_34 {ls : zL} {st : List Value} {w : zW} {x y : Int32} : Rv 212 34 ls (.int y :: .int x :: st) w = Rv 212 35 ls (.int (x + y) :: st) w := R_next Q212 (by decide +kernel) rfl
theorem e212_35 {ls : zL} {st : List Value} {w : zW} {x : Int32} : Rv 212 35 ls (.int x :: st) w = lst ls 3 (some (.int x)) fun l => Rv 212 36 l st w := R_st Q212 (by decide +kernel) rfl
theorem e212_36 {ls : zL} {st : List Value} {w : zW} : Rv 212 36 ls st w = ldI ls 4 fun x => lst ls 4 (some (.int (x + 1))) fun l => Rv 212 39 l st w := R_iinc Q212 (by decide +kernel) (by decide)
theorem e212_39 {ls : zL} {st : List Value} {w : zW} : Rv 212 39 ls st w = Rv 212 5 ls st w := R_go Q212 (by decide +kernel) rfl rfl
theorem e212_42 {ls : zL} {st : List Value} {w : zW} : Rv 212 42 ls st w = ldI ls 3 fun x => Rv 212 43 ls (.int x :: st) w := R_ldI Q212 (by decide +kernel) rfl
theorem e212_43 {ls : zL} {w : zW} {x : Int32} : Rv 212 43 ls [.int x] w = some (.inl (some (.int x)), w) := R_retI Q212 (by decide +kernel) rfl
/-! MasterPinsModel.betterCode -/
theorem e213_0 {ls : zL} {st : List Value} {w : zW} : Rv 213 0 ls st w = ldA ls 0 fun x => Rv 213 1 ls (x :: st) w := R_ldA Q213 (by decide +kernel) rfl
theorem e213_1 {ls : zL} {st : List Value} {w : zW} : Rv 213 1 ls st w = ldA ls 0 fun x => Rv 213 2 ls (x :: st) w := R_ldA Q213 (by decide +kernel) rfl
theorem e213_2 {ls : zL} {st : List Value} {w : zW} : Rv 213 2 ls st w = ldI ls 1 fun x => Rv 213 3 ls (.int x :: st) w := R_ldI Q213 (by decide +kernel) rfl
theorem e213_3 {ls : zL} {w : zW} {n1 : Int32} {a0 : Nat} {a2 : Nat} : Rv 213 3 ls [.int n1, .ref a0, .ref a2] w = hO w a0 6 (cal (Rv 144 0 [some (.ref a0), some (.int n1)] [] w) (fun v w' => Rv 213 6 ls (vts v [.ref a2]) w') (xnone)) := R_calV (z := 1146) (r := [.ref a2]) Q213 (by decide +kernel) rfl rfl Q144 rfl rfl rfl
theorem e213_6 {ls : zL} {st : List Value} {w : zW} : Rv 213 6 ls st w = Rv 213 7 ls (.int 1 :: st) w := R_con Q213 (by decide +kernel) rfl (by decide)
theorem e213_7 {ls : zL} {st : List Value} {w : zW} : Rv 213 7 ls st w = Rv 213 8 ls (.int 1 :: st) w := R_con Q213 (by decide +kernel) rfl (by decide)
theorem e213_8 {ls : zL} {w : zW} {n1 : Int32} {n2 : Int32} {n3 : Int32} {a0 : Nat} : Rv 213 8 ls [.int n1, .int n2, .int n3, .ref a0] w = hO w a0 6 (cal (Rv 142 0 [some (.ref a0), some (.int n3), some (.int n2), some (.int n1)] [] w) (fun v w' => Rv 213 11 ls (vts v []) w') (xnone)) := R_calV (z := 1122) (r := []) Q213 (by decide +kernel) rfl rfl Q142 rfl rfl rfl
theorem e213_11 {ls : zL} {st : List Value} {w : zW} {x : Int32} : Rv 213 11 ls (.int x :: st) w = if x = 0 then Rv 213 16 ls st w else Rv 213 14 ls st w := R_f0eq Q213 (by decide +kernel) rfl rfl
theorem e213_14 {ls : zL} {st : List Value} {w : zW} : Rv 213 14 ls st w = Rv 213 15 ls (.int 0 :: st) w := R_con Q213 (by decide +kernel) rfl (by decide)
theorem e213_15 {ls : zL} {w : zW} {x : Int32} : Rv 213 15 ls [.int x] w = some (.inl (some (.int x)), w) := R_retI Q213 (by decide +kernel) rfl
theorem e213_16 {ls : zL} {st : List Value} {w : zW} : Rv 213 16 ls st w = ldA ls 0 fun x => Rv 213 17 ls (x :: st) w := R_ldA Q213 (by decide +kernel) rfl
theorem e213_17 {ls : zL} {st : List Value} {w : zW} {a : Nat} : Rv 213 17 ls (.ref a :: st) w = gF w a 6 0 fun v => Rv 213 20 ls (v :: st) w := R_gF (z := 1070) Q213 (by decide +kernel) rfl
theorem e213_20 {ls : zL} {st : List Value} {w : zW} : Rv 213 20 ls st w = Rv 213 22 ls (.int 7 :: st) w := R_con Q213 (by decide +kernel) rfl (by decide)
theorem e213_22 {ls : zL} {st : List Value} {w : zW} : Rv 213 22 ls st w = ldI ls 1 fun x => Rv 213 23 ls (.int x :: st) w := R_ldI Q213 (by decide +kernel) rfl
theorem e213_23 {ls : zL} {st : List Value} {w : zW} {x y : Int32} : Rv 213 23 ls (.int y :: .int x :: st) w = Rv 213 24 ls (.int (x + y) :: st) w := R_next Q213 (by decide +kernel) rfl
theorem e213_24 {ls : zL} {st : List Value} {w : zW} {a : Nat} {x : Int32} : Rv 213 24 ls (.int x :: .ref a :: st) w = gI w a 0 8 x fun v => Rv 213 25 ls (.int v :: st) w := R_iald Q213 (by decide +kernel)
theorem e213_25 {ls : zL} {st : List Value} {w : zW} {x : Int32} : Rv 213 25 ls (.int x :: st) w = lst ls 2 (some (.int x)) fun l => Rv 213 26 l st w := R_st Q213 (by decide +kernel) rfl
theorem e213_26 {ls : zL} {st : List Value} {w : zW} : Rv 213 26 ls st w = ldA ls 0 fun x => Rv 213 27 ls (x :: st) w := R_ldA Q213 (by decide +kernel) rfl
theorem e213_27 {ls : zL} {st : List Value} {w : zW} : Rv 213 27 ls st w = ldI ls 1 fun x => Rv 213 28 ls (.int x :: st) w := R_ldI Q213 (by decide +kernel) rfl
theorem e213_28 {ls : zL} {w : zW} {n1 : Int32} {a0 : Nat} : Rv 213 28 ls [.int n1, .ref a0] w = hO w a0 6 (cal (Rv 173 0 [some (.ref a0), some (.int n1), none, none] [] w) (fun v w' => Rv 213 31 ls (vts v []) w') (xnone)) := R_calV (z := 1291) (r := []) Q213 (by decide +kernel) rfl rfl Q173 rfl rfl rfl
theorem e213_31 {ls : zL} {st : List Value} {w : zW} {x : Int32} : Rv 213 31 ls (.int x :: st) w = lst ls 3 (some (.int x)) fun l => Rv 213 32 l st w := R_st Q213 (by decide +kernel) rfl
theorem e213_32 {ls : zL} {st : List Value} {w : zW} : Rv 213 32 ls st w = Rv 213 33 ls (.int (-1) :: st) w := R_con Q213 (by decide +kernel) rfl (by decide)
theorem e213_33 {ls : zL} {st : List Value} {w : zW} {x : Int32} : Rv 213 33 ls (.int x :: st) w = lst ls 4 (some (.int x)) fun l => Rv 213 35 l st w := R_st Q213 (by decide +kernel) rfl
theorem e213_35 {ls : zL} {st : List Value} {w : zW} : Rv 213 35 ls st w = Rv 213 36 ls (.int 0 :: st) w := R_con Q213 (by decide +kernel) rfl (by decide)
theorem e213_36 {ls : zL} {st : List Value} {w : zW} {x : Int32} : Rv 213 36 ls (.int x :: st) w = lst ls 5 (some (.int x)) fun l => Rv 213 38 l st w := R_st Q213 (by decide +kernel) rfl
theorem e213_38 {ls : zL} {st : List Value} {w : zW} : Rv 213 38 ls st w = Rv 213 39 ls (.int 0 :: st) w := R_con Q213 (by decide +kernel) rfl (by decide)
theorem e213_39 {ls : zL} {st : List Value} {w : zW} {x : Int32} : Rv 213 39 ls (.int x :: st) w = lst ls 6 (some (.int x)) fun l => Rv 213 41 l st w := R_st Q213 (by decide +kernel) rfl
theorem h213_41 {ls : zL} {st : List Value} {w : zW} : Rv 213 41 ls st w = ldI ls 6 fun x => Rv 213 43 ls (.int x :: st) w := R_ldI Q213 (by decide +kernel) rfl
theorem e213_43 {ls : zL} {st : List Value} {w : zW} : Rv 213 43 ls st w = ldA ls 0 fun x => Rv 213 44 ls (x :: st) w := R_ldA Q213 (by decide +kernel) rfl
theorem e213_44 {ls : zL} {w : zW} {a0 : Nat} {n1 : Int32} : Rv 213 44 ls [.ref a0, .int n1] w = hO w a0 6 (cal (Rv 155 0 [some (.ref a0), none, none] [] w) (fun v w' => Rv 213 47 ls (vts v [.int n1]) w') (xnone)) := R_calV (z := 1315) (r := [.int n1]) Q213 (by decide +kernel) rfl rfl Q155 rfl rfl rfl
theorem e213_47 {ls : zL} {st : List Value} {w : zW} {x y : Int32} : Rv 213 47 ls (.int y :: .int x :: st) w = if x < y then Rv 213 50 ls st w else Rv 213 146 ls st w := R_fige Q213 (by decide +kernel) rfl rfl
theorem e213_50 {ls : zL} {st : List Value} {w : zW} : Rv 213 50 ls st w = ldA ls 0 fun x => Rv 213 51 ls (x :: st) w := R_ldA Q213 (by decide +kernel) rfl
theorem e213_51 {ls : zL} {st : List Value} {w : zW} : Rv 213 51 ls st w = ldI ls 6 fun x => Rv 213 53 ls (.int x :: st) w := R_ldI Q213 (by decide +kernel) rfl
theorem e213_53 {ls : zL} {w : zW} {n1 : Int32} {a0 : Nat} : Rv 213 53 ls [.int n1, .ref a0] w = hO w a0 6 (cal (Rv 154 0 [some (.ref a0), some (.int n1), none, none, none, none] [] w) (fun v w' => Rv 213 56 ls (vts v []) w') (xnone)) := R_calV (z := 1319) (r := []) Q213 (by decide +kernel) rfl rfl Q154 rfl rfl rfl
theorem e213_56 {ls : zL} {st : List Value} {w : zW} {x : Int32} : Rv 213 56 ls (.int x :: st) w = lst ls 7 (some (.int x)) fun l => Rv 213 58 l st w := R_st Q213 (by decide +kernel) rfl
theorem e213_58 {ls : zL} {st : List Value} {w : zW} : Rv 213 58 ls st w = Rv 213 60 ls (.int 100 :: st) w := R_con Q213 (by decide +kernel) rfl (by decide)
theorem e213_60 {ls : zL} {st : List Value} {w : zW} : Rv 213 60 ls st w = ldA ls 0 fun x => Rv 213 61 ls (x :: st) w := R_ldA Q213 (by decide +kernel) rfl
theorem e213_61 {ls : zL} {st : List Value} {w : zW} : Rv 213 61 ls st w = ldI ls 7 fun x => Rv 213 63 ls (.int x :: st) w := R_ldI Q213 (by decide +kernel) rfl
theorem e213_63 {ls : zL} {st : List Value} {w : zW} : Rv 213 63 ls st w = ldI ls 2 fun x => Rv 213 64 ls (.int x :: st) w := R_ldI Q213 (by decide +kernel) rfl
theorem e213_64 {ls : zL} {w : zW} {n1 : Int32} {n2 : Int32} {a0 : Nat} {n3 : Int32} : Rv 213 64 ls [.int n1, .int n2, .ref a0, .int n3] w = hO w a0 6 (cal (Rv 152 0 [some (.ref a0), some (.int n2), some (.int n1), none, none] [] w) (fun v w' => Rv 213 67 ls (vts v [.int n3]) w') (xnone)) := R_calV (z := 1175) (r := [.int n3]) Q213 (by decide +kernel) rfl rfl Q152 rfl rfl rfl
theorem e213_67 {ls : zL} {st : List Value} {w : zW} {x y : Int32} : Rv 213 67 ls (.int y :: .int x :: st) w = Rv 213 68 ls (.int (x * y) :: st) w := R_next Q213 (by decide +kernel) rfl
theorem e213_68 {ls : zL} {st : List Value} {w : zW} : Rv 213 68 ls st w = ldA ls 0 fun x => Rv 213 69 ls (x :: st) w := R_ldA Q213 (by decide +kernel) rfl
theorem e213_69 {ls : zL} {st : List Value} {w : zW} : Rv 213 69 ls st w = ldI ls 7 fun x => Rv 213 71 ls (.int x :: st) w := R_ldI Q213 (by decide +kernel) rfl
theorem e213_71 {ls : zL} {st : List Value} {w : zW} : Rv 213 71 ls st w = ldI ls 2 fun x => Rv 213 72 ls (.int x :: st) w := R_ldI Q213 (by decide +kernel) rfl
theorem e213_72 {ls : zL} {w : zW} {n1 : Int32} {n2 : Int32} {a0 : Nat} {n3 : Int32} : Rv 213 72 ls [.int n1, .int n2, .ref a0, .int n3] w = hO w a0 6 (cal (Rv 212 0 [some (.ref a0), some (.int n2), some (.int n1), none, none] [] w) (fun v w' => Rv 213 75 ls (vts v [.int n3]) w') (xnone)) := R_calV (z := 1391) (r := [.int n3]) Q213 (by decide +kernel) rfl rfl Q212 rfl rfl rfl
theorem e213_75 {ls : zL} {st : List Value} {w : zW} {x y : Int32} : Rv 213 75 ls (.int y :: .int x :: st) w = Rv 213 76 ls (.int (x + y) :: st) w := R_next Q213 (by decide +kernel) rfl
theorem e213_76 {ls : zL} {st : List Value} {w : zW} {x : Int32} : Rv 213 76 ls (.int x :: st) w = lst ls 8 (some (.int x)) fun l => Rv 213 78 l st w := R_st Q213 (by decide +kernel) rfl
theorem e213_78 {ls : zL} {st : List Value} {w : zW} : Rv 213 78 ls st w = ldI ls 7 fun x => Rv 213 80 ls (.int x :: st) w := R_ldI Q213 (by decide +kernel) rfl
theorem e213_80 {ls : zL} {st : List Value} {w : zW} : Rv 213 80 ls st w = ldI ls 2 fun x => Rv 213 81 ls (.int x :: st) w := R_ldI Q213 (by decide +kernel) rfl
theorem e213_81 {ls : zL} {st : List Value} {w : zW} {x y : Int32} : Rv 213 81 ls (.int y :: .int x :: st) w = if x = y then Rv 213 101 ls st w else Rv 213 84 ls st w := R_fieq Q213 (by decide +kernel) rfl rfl
theorem e213_84 {ls : zL} {st : List Value} {w : zW} : Rv 213 84 ls st w = ldI ls 4 fun x => Rv 213 86 ls (.int x :: st) w := R_ldI Q213 (by decide +kernel) rfl
theorem e213_86 {ls : zL} {st : List Value} {w : zW} : Rv 213 86 ls st w = Rv 213 87 ls (.int (-1) :: st) w := R_con Q213 (by decide +kernel) rfl (by decide)
theorem e213_87 {ls : zL} {st : List Value} {w : zW} {x y : Int32} : Rv 213 87 ls (.int y :: .int x :: st) w = if x = y then Rv 213 97 ls st w else Rv 213 90 ls st w := R_fieq Q213 (by decide +kernel) rfl rfl
theorem e213_90 {ls : zL} {st : List Value} {w : zW} : Rv 213 90 ls st w = ldI ls 8 fun x => Rv 213 92 ls (.int x :: st) w := R_ldI Q213 (by decide +kernel) rfl
theorem e213_92 {ls : zL} {st : List Value} {w : zW} : Rv 213 92 ls st w = ldI ls 5 fun x => Rv 213 94 ls (.int x :: st) w := R_ldI Q213 (by decide +kernel) rfl
theorem e213_94 {ls : zL} {st : List Value} {w : zW} {x y : Int32} : Rv 213 94 ls (.int y :: .int x :: st) w = if x < y then Rv 213 97 ls st w else Rv 213 101 ls st w := R_fige Q213 (by decide +kernel) rfl rfl
theorem e213_97 {ls : zL} {st : List Value} {w : zW} : Rv 213 97 ls st w = Rv 213 98 ls (.int 1 :: st) w := R_con Q213 (by decide +kernel) rfl (by decide)
theorem e213_98 {ls : zL} {st : List Value} {w : zW} : Rv 213 98 ls st w = Rv 213 102 ls st w := R_go Q213 (by decide +kernel) rfl rfl
theorem e213_101 {ls : zL} {st : List Value} {w : zW} : Rv 213 101 ls st w = Rv 213 102 ls (.int 0 :: st) w := R_con Q213 (by decide +kernel) rfl (by decide)
theorem e213_102 {ls : zL} {st : List Value} {w : zW} {x : Int32} : Rv 213 102 ls (.int x :: st) w = lst ls 9 (some (.int x)) fun l => Rv 213 104 l st w := R_st Q213 (by decide +kernel) rfl
theorem e213_104 {ls : zL} {st : List Value} {w : zW} : Rv 213 104 ls st w = ldI ls 9 fun x => Rv 213 106 ls (.int x :: st) w := R_ldI Q213 (by decide +kernel) rfl
theorem e213_106 {ls : zL} {st : List Value} {w : zW} {x : Int32} : Rv 213 106 ls (.int x :: st) w = if x = 0 then Rv 213 140 ls st w else Rv 213 109 ls st w := R_f0eq Q213 (by decide +kernel) rfl rfl
theorem e213_109 {ls : zL} {st : List Value} {w : zW} : Rv 213 109 ls st w = ldA ls 0 fun x => Rv 213 110 ls (x :: st) w := R_ldA Q213 (by decide +kernel) rfl
theorem e213_110 {ls : zL} {st : List Value} {w : zW} : Rv 213 110 ls st w = ldI ls 1 fun x => Rv 213 111 ls (.int x :: st) w := R_ldI Q213 (by decide +kernel) rfl
theorem e213_111 {ls : zL} {st : List Value} {w : zW} : Rv 213 111 ls st w = ldI ls 7 fun x => Rv 213 113 ls (.int x :: st) w := R_ldI Q213 (by decide +kernel) rfl
theorem e213_113 {ls : zL} {w : zW} {n1 : Int32} {n2 : Int32} {a0 : Nat} : Rv 213 113 ls [.int n1, .int n2, .ref a0] w = hO w a0 6 (cal (Rv 153 0 [some (.ref a0), some (.int n2), some (.int n1), none, none] [] w) (fun v w' => Rv 213 116 ls (vts v []) w') (xnone)) := R_calV (z := 1150) (r := []) Q213 (by decide +kernel) rfl rfl Q153 rfl rfl rfl
theorem e213_116 {ls : zL} {st : List Value} {w : zW} {x : Int32} : Rv 213 116 ls (.int x :: st) w = if x = 0 then Rv 213 119 ls st w else Rv 213 140 ls st w := R_f0ne Q213 (by decide +kernel) rfl rfl
theorem e213_119 {ls : zL} {st : List Value} {w : zW} : Rv 213 119 ls st w = ldA ls 0 fun x => Rv 213 120 ls (x :: st) w := R_ldA Q213 (by decide +kernel) rfl
theorem e213_120 {ls : zL} {st : List Value} {w : zW} : Rv 213 120 ls st w = ldI ls 7 fun x => Rv 213 122 ls (.int x :: st) w := R_ldI Q213 (by decide +kernel) rfl
theorem e213_122 {ls : zL} {w : zW} {n1 : Int32} {a0 : Nat} : Rv 213 122 ls [.int n1, .ref a0] w = hO w a0 6 (cal (Rv 172 0 [some (.ref a0), some (.int n1), none, none] [] w) (fun v w' => Rv 213 125 ls (vts v []) w') (xnone)) := R_calV (z := 1195) (r := []) Q213 (by decide +kernel) rfl rfl Q172 rfl rfl rfl
theorem e213_125 {ls : zL} {st : List Value} {w : zW} : Rv 213 125 ls st w = ldI ls 3 fun x => Rv 213 126 ls (.int x :: st) w := R_ldI Q213 (by decide +kernel) rfl
theorem e213_126 {ls : zL} {st : List Value} {w : zW} : Rv 213 126 ls st w = Rv 213 127 ls (.int (-1) :: st) w := R_con Q213 (by decide +kernel) rfl (by decide)
theorem e213_127 {ls : zL} {st : List Value} {w : zW} {x y : Int32} : Rv 213 127 ls (.int y :: .int x :: st) w = Rv 213 128 ls (.int (x ^^^ y) :: st) w := R_next Q213 (by decide +kernel) rfl
theorem e213_128 {ls : zL} {st : List Value} {w : zW} {x y : Int32} : Rv 213 128 ls (.int y :: .int x :: st) w = Rv 213 129 ls (.int (x &&& y) :: st) w := R_next Q213 (by decide +kernel) rfl
theorem e213_129 {ls : zL} {st : List Value} {w : zW} {x : Int32} : Rv 213 129 ls (.int x :: st) w = if x = 0 then Rv 213 132 ls st w else Rv 213 140 ls st w := R_f0ne Q213 (by decide +kernel) rfl rfl
theorem e213_132 {ls : zL} {st : List Value} {w : zW} : Rv 213 132 ls st w = ldI ls 7 fun x => Rv 213 134 ls (.int x :: st) w := R_ldI Q213 (by decide +kernel) rfl
theorem e213_134 {ls : zL} {st : List Value} {w : zW} {x : Int32} : Rv 213 134 ls (.int x :: st) w = lst ls 4 (some (.int x)) fun l => Rv 213 136 l st w := R_st Q213 (by decide +kernel) rfl
theorem e213_136 {ls : zL} {st : List Value} {w : zW} : Rv 213 136 ls st w = ldI ls 8 fun x => Rv 213 138 ls (.int x :: st) w := R_ldI Q213 (by decide +kernel) rfl
theorem e213_138 {ls : zL} {st : List Value} {w : zW} {x : Int32} : Rv 213 138 ls (.int x :: st) w = lst ls 5 (some (.int x)) fun l => Rv 213 140 l st w := R_st Q213 (by decide +kernel) rfl
theorem e213_140 {ls : zL} {st : List Value} {w : zW} : Rv 213 140 ls st w = ldI ls 6 fun x => lst ls 6 (some (.int (x + 1))) fun l => Rv 213 143 l st w := R_iinc Q213 (by decide +kernel) (by decide)
theorem e213_143 {ls : zL} {st : List Value} {w : zW} : Rv 213 143 ls st w = Rv 213 41 ls st w := R_go Q213 (by decide +kernel) rfl rfl
theorem e213_146 {ls : zL} {st : List Value} {w : zW} : Rv 213 146 ls st w = ldI ls 4 fun x => Rv 213 148 ls (.int x :: st) w := R_ldI Q213 (by decide +kernel) rfl
theorem e213_148 {ls : zL} {w : zW} {x : Int32} : Rv 213 148 ls [.int x] w = some (.inl (some (.int x)), w) := R_retI Q213 (by decide +kernel) rfl
/-! MasterPinsModel.pinsIfTurned -/
theorem e214_0 {ls : zL} {st : List Value} {w : zW} : Rv 214 0 ls st w = ldA ls 0 fun x => Rv 214 1 ls (x :: st) w := R_ldA Q214 (by decide +kernel) rfl
theorem e214_1 {ls : zL} {st : List Value} {w : zW} : Rv 214 1 ls st w = ldA ls 0 fun x => Rv 214 2 ls (x :: st) w := R_ldA Q214 (by decide +kernel) rfl
theorem e214_2 {ls : zL} {st : List Value} {w : zW} : Rv 214 2 ls st w = ldI ls 1 fun x => Rv 214 3 ls (.int x :: st) w := R_ldI Q214 (by decide +kernel) rfl
theorem e214_3 {ls : zL} {w : zW} {n1 : Int32} {a0 : Nat} {a2 : Nat} : Rv 214 3 ls [.int n1, .ref a0, .ref a2] w = hO w a0 6 (cal (Rv 144 0 [some (.ref a0), some (.int n1)] [] w) (fun v w' => Rv 214 6 ls (vts v [.ref a2]) w') (xnone)) := R_calV (z := 1146) (r := [.ref a2]) Q214 (by decide +kernel) rfl rfl Q144 rfl rfl rfl
theorem e214_6 {ls : zL} {st : List Value} {w : zW} : Rv 214 6 ls st w = Rv 214 7 ls (.int 1 :: st) w := R_con Q214 (by decide +kernel) rfl (by decide)
theorem e214_7 {ls : zL} {st : List Value} {w : zW} : Rv 214 7 ls st w = Rv 214 8 ls (.int 1 :: st) w := R_con Q214 (by decide +kernel) rfl (by decide)
theorem e214_8 {ls : zL} {w : zW} {n1 : Int32} {n2 : Int32} {n3 : Int32} {a0 : Nat} : Rv 214 8 ls [.int n1, .int n2, .int n3, .ref a0] w = hO w a0 6 (cal (Rv 142 0 [some (.ref a0), some (.int n3), some (.int n2), some (.int n1)] [] w) (fun v w' => Rv 214 11 ls (vts v []) w') (xnone)) := R_calV (z := 1122) (r := []) Q214 (by decide +kernel) rfl rfl Q142 rfl rfl rfl
theorem e214_11 {ls : zL} {st : List Value} {w : zW} {x : Int32} : Rv 214 11 ls (.int x :: st) w = if x = 0 then Rv 214 16 ls st w else Rv 214 14 ls st w := R_f0eq Q214 (by decide +kernel) rfl rfl
theorem e214_14 {ls : zL} {st : List Value} {w : zW} : Rv 214 14 ls st w = Rv 214 15 ls (.int 0 :: st) w := R_con Q214 (by decide +kernel) rfl (by decide)
theorem e214_15 {ls : zL} {w : zW} {x : Int32} : Rv 214 15 ls [.int x] w = some (.inl (some (.int x)), w) := R_retI Q214 (by decide +kernel) rfl
theorem e214_16 {ls : zL} {st : List Value} {w : zW} : Rv 214 16 ls st w = ldA ls 0 fun x => Rv 214 17 ls (x :: st) w := R_ldA Q214 (by decide +kernel) rfl
theorem e214_17 {ls : zL} {st : List Value} {w : zW} {a : Nat} : Rv 214 17 ls (.ref a :: st) w = gF w a 6 0 fun v => Rv 214 20 ls (v :: st) w := R_gF (z := 1070) Q214 (by decide +kernel) rfl
theorem e214_20 {ls : zL} {st : List Value} {w : zW} : Rv 214 20 ls st w = Rv 214 22 ls (.int 39 :: st) w := R_con Q214 (by decide +kernel) rfl (by decide)
theorem e214_22 {ls : zL} {st : List Value} {w : zW} : Rv 214 22 ls st w = ldI ls 1 fun x => Rv 214 23 ls (.int x :: st) w := R_ldI Q214 (by decide +kernel) rfl
theorem e214_23 {ls : zL} {st : List Value} {w : zW} {x y : Int32} : Rv 214 23 ls (.int y :: .int x :: st) w = Rv 214 24 ls (.int (x + y) :: st) w := R_next Q214 (by decide +kernel) rfl
theorem e214_24 {ls : zL} {st : List Value} {w : zW} : Rv 214 24 ls st w = Rv 214 25 ls (.int 1 :: st) w := R_con Q214 (by decide +kernel) rfl (by decide)
theorem e214_25 {ls : zL} {st : List Value} {w : zW} : Rv 214 25 ls st w = ldA ls 0 fun x => Rv 214 26 ls (x :: st) w := R_ldA Q214 (by decide +kernel) rfl
theorem e214_26 {ls : zL} {st : List Value} {w : zW} {a : Nat} : Rv 214 26 ls (.ref a :: st) w = gF w a 6 0 fun v => Rv 214 29 ls (v :: st) w := R_gF (z := 1070) Q214 (by decide +kernel) rfl
theorem e214_29 {ls : zL} {st : List Value} {w : zW} : Rv 214 29 ls st w = Rv 214 31 ls (.int 39 :: st) w := R_con Q214 (by decide +kernel) rfl (by decide)
theorem e214_31 {ls : zL} {st : List Value} {w : zW} : Rv 214 31 ls st w = ldI ls 1 fun x => Rv 214 32 ls (.int x :: st) w := R_ldI Q214 (by decide +kernel) rfl
theorem e214_32 {ls : zL} {st : List Value} {w : zW} {x y : Int32} : Rv 214 32 ls (.int y :: .int x :: st) w = Rv 214 33 ls (.int (x + y) :: st) w := R_next Q214 (by decide +kernel) rfl
theorem e214_33 {ls : zL} {st : List Value} {w : zW} {a : Nat} {x : Int32} : Rv 214 33 ls (.int x :: .ref a :: st) w = gI w a 0 8 x fun v => Rv 214 34 ls (.int v :: st) w := R_iald Q214 (by decide +kernel)
theorem e214_34 {ls : zL} {st : List Value} {w : zW} {x y : Int32} : Rv 214 34 ls (.int y :: .int x :: st) w = Rv 214 35 ls (.int (x - y) :: st) w := R_next Q214 (by decide +kernel) rfl
theorem e214_35 {ls : zL} {st : List Value} {w : zW} {a : Nat} {x y : Int32} : Rv 214 35 ls (.int y :: .int x :: .ref a :: st) w = pI w a 0 x y fun w' => Rv 214 36 ls st w' := R_iast Q214 (by decide +kernel)
theorem e214_36 {ls : zL} {st : List Value} {w : zW} : Rv 214 36 ls st w = ldA ls 0 fun x => Rv 214 37 ls (x :: st) w := R_ldA Q214 (by decide +kernel) rfl
theorem e214_37 {ls : zL} {w : zW} {a0 : Nat} : Rv 214 37 ls [.ref a0] w = hO w a0 6 (cal (Rv 162 0 [some (.ref a0), none, none] [] w) (fun v w' => Rv 214 40 ls (vts v []) w') (xnone)) := R_calV (z := 1399) (r := []) Q214 (by decide +kernel) rfl rfl Q162 rfl rfl rfl
theorem e214_40 {ls : zL} {st : List Value} {w : zW} {x : Int32} : Rv 214 40 ls (.int x :: st) w = lst ls 2 (some (.int x)) fun l => Rv 214 41 l st w := R_st Q214 (by decide +kernel) rfl
theorem e214_41 {ls : zL} {st : List Value} {w : zW} : Rv 214 41 ls st w = ldA ls 0 fun x => Rv 214 42 ls (x :: st) w := R_ldA Q214 (by decide +kernel) rfl
theorem e214_42 {ls : zL} {st : List Value} {w : zW} {a : Nat} : Rv 214 42 ls (.ref a :: st) w = gF w a 6 0 fun v => Rv 214 45 ls (v :: st) w := R_gF (z := 1070) Q214 (by decide +kernel) rfl
theorem e214_45 {ls : zL} {st : List Value} {w : zW} : Rv 214 45 ls st w = Rv 214 47 ls (.int 39 :: st) w := R_con Q214 (by decide +kernel) rfl (by decide)
theorem e214_47 {ls : zL} {st : List Value} {w : zW} : Rv 214 47 ls st w = ldI ls 1 fun x => Rv 214 48 ls (.int x :: st) w := R_ldI Q214 (by decide +kernel) rfl
theorem e214_48 {ls : zL} {st : List Value} {w : zW} {x y : Int32} : Rv 214 48 ls (.int y :: .int x :: st) w = Rv 214 49 ls (.int (x + y) :: st) w := R_next Q214 (by decide +kernel) rfl
theorem e214_49 {ls : zL} {st : List Value} {w : zW} : Rv 214 49 ls st w = Rv 214 50 ls (.int 1 :: st) w := R_con Q214 (by decide +kernel) rfl (by decide)
theorem e214_50 {ls : zL} {st : List Value} {w : zW} : Rv 214 50 ls st w = ldA ls 0 fun x => Rv 214 51 ls (x :: st) w := R_ldA Q214 (by decide +kernel) rfl
theorem e214_51 {ls : zL} {st : List Value} {w : zW} {a : Nat} : Rv 214 51 ls (.ref a :: st) w = gF w a 6 0 fun v => Rv 214 54 ls (v :: st) w := R_gF (z := 1070) Q214 (by decide +kernel) rfl
theorem e214_54 {ls : zL} {st : List Value} {w : zW} : Rv 214 54 ls st w = Rv 214 56 ls (.int 39 :: st) w := R_con Q214 (by decide +kernel) rfl (by decide)
theorem e214_56 {ls : zL} {st : List Value} {w : zW} : Rv 214 56 ls st w = ldI ls 1 fun x => Rv 214 57 ls (.int x :: st) w := R_ldI Q214 (by decide +kernel) rfl
theorem e214_57 {ls : zL} {st : List Value} {w : zW} {x y : Int32} : Rv 214 57 ls (.int y :: .int x :: st) w = Rv 214 58 ls (.int (x + y) :: st) w := R_next Q214 (by decide +kernel) rfl
theorem e214_58 {ls : zL} {st : List Value} {w : zW} {a : Nat} {x : Int32} : Rv 214 58 ls (.int x :: .ref a :: st) w = gI w a 0 8 x fun v => Rv 214 59 ls (.int v :: st) w := R_iald Q214 (by decide +kernel)
theorem e214_59 {ls : zL} {st : List Value} {w : zW} {x y : Int32} : Rv 214 59 ls (.int y :: .int x :: st) w = Rv 214 60 ls (.int (x - y) :: st) w := R_next Q214 (by decide +kernel) rfl
theorem e214_60 {ls : zL} {st : List Value} {w : zW} {a : Nat} {x y : Int32} : Rv 214 60 ls (.int y :: .int x :: .ref a :: st) w = pI w a 0 x y fun w' => Rv 214 61 ls st w' := R_iast Q214 (by decide +kernel)
theorem e214_61 {ls : zL} {st : List Value} {w : zW} : Rv 214 61 ls st w = ldI ls 2 fun x => Rv 214 62 ls (.int x :: st) w := R_ldI Q214 (by decide +kernel) rfl
theorem e214_62 {ls : zL} {w : zW} {x : Int32} : Rv 214 62 ls [.int x] w = some (.inl (some (.int x)), w) := R_retI Q214 (by decide +kernel) rfl
/-! MasterPinsModel.pinsIfCut -/
theorem e215_0 {ls : zL} {st : List Value} {w : zW} : Rv 215 0 ls st w = ldA ls 0 fun x => Rv 215 1 ls (x :: st) w := R_ldA Q215 (by decide +kernel) rfl
theorem e215_1 {ls : zL} {st : List Value} {w : zW} : Rv 215 1 ls st w = ldA ls 0 fun x => Rv 215 2 ls (x :: st) w := R_ldA Q215 (by decide +kernel) rfl
theorem e215_2 {ls : zL} {st : List Value} {w : zW} : Rv 215 2 ls st w = ldI ls 1 fun x => Rv 215 3 ls (.int x :: st) w := R_ldI Q215 (by decide +kernel) rfl
theorem e215_3 {ls : zL} {w : zW} {n1 : Int32} {a0 : Nat} {a2 : Nat} : Rv 215 3 ls [.int n1, .ref a0, .ref a2] w = hO w a0 6 (cal (Rv 144 0 [some (.ref a0), some (.int n1)] [] w) (fun v w' => Rv 215 6 ls (vts v [.ref a2]) w') (xnone)) := R_calV (z := 1146) (r := [.ref a2]) Q215 (by decide +kernel) rfl rfl Q144 rfl rfl rfl
theorem e215_6 {ls : zL} {st : List Value} {w : zW} : Rv 215 6 ls st w = Rv 215 7 ls (.int 1 :: st) w := R_con Q215 (by decide +kernel) rfl (by decide)
theorem e215_7 {ls : zL} {st : List Value} {w : zW} : Rv 215 7 ls st w = Rv 215 8 ls (.int 1 :: st) w := R_con Q215 (by decide +kernel) rfl (by decide)
theorem e215_8 {ls : zL} {w : zW} {n1 : Int32} {n2 : Int32} {n3 : Int32} {a0 : Nat} : Rv 215 8 ls [.int n1, .int n2, .int n3, .ref a0] w = hO w a0 6 (cal (Rv 142 0 [some (.ref a0), some (.int n3), some (.int n2), some (.int n1)] [] w) (fun v w' => Rv 215 11 ls (vts v []) w') (xnone)) := R_calV (z := 1122) (r := []) Q215 (by decide +kernel) rfl rfl Q142 rfl rfl rfl
theorem e215_11 {ls : zL} {st : List Value} {w : zW} {x : Int32} : Rv 215 11 ls (.int x :: st) w = if x = 0 then Rv 215 16 ls st w else Rv 215 14 ls st w := R_f0eq Q215 (by decide +kernel) rfl rfl
theorem e215_14 {ls : zL} {st : List Value} {w : zW} : Rv 215 14 ls st w = Rv 215 15 ls (.int 0 :: st) w := R_con Q215 (by decide +kernel) rfl (by decide)
theorem e215_15 {ls : zL} {w : zW} {x : Int32} : Rv 215 15 ls [.int x] w = some (.inl (some (.int x)), w) := R_retI Q215 (by decide +kernel) rfl
theorem e215_16 {ls : zL} {st : List Value} {w : zW} : Rv 215 16 ls st w = ldA ls 0 fun x => Rv 215 17 ls (x :: st) w := R_ldA Q215 (by decide +kernel) rfl
theorem e215_17 {ls : zL} {st : List Value} {w : zW} : Rv 215 17 ls st w = ldI ls 1 fun x => Rv 215 18 ls (.int x :: st) w := R_ldI Q215 (by decide +kernel) rfl
theorem e215_18 {ls : zL} {st : List Value} {w : zW} : Rv 215 18 ls st w = ldI ls 2 fun x => Rv 215 19 ls (.int x :: st) w := R_ldI Q215 (by decide +kernel) rfl
theorem e215_19 {ls : zL} {w : zW} {n1 : Int32} {n2 : Int32} {a0 : Nat} : Rv 215 19 ls [.int n1, .int n2, .ref a0] w = hO w a0 6 (cal (Rv 153 0 [some (.ref a0), some (.int n2), some (.int n1), none, none] [] w) (fun v w' => Rv 215 22 ls (vts v []) w') (xnone)) := R_calV (z := 1150) (r := []) Q215 (by decide +kernel) rfl rfl Q153 rfl rfl rfl
theorem e215_22 {ls : zL} {st : List Value} {w : zW} {x : Int32} : Rv 215 22 ls (.int x :: st) w = if x = 0 then Rv 215 27 ls st w else Rv 215 25 ls st w := R_f0eq Q215 (by decide +kernel) rfl rfl
theorem e215_25 {ls : zL} {st : List Value} {w : zW} : Rv 215 25 ls st w = Rv 215 26 ls (.int (-1) :: st) w := R_con Q215 (by decide +kernel) rfl (by decide)
theorem e215_26 {ls : zL} {w : zW} {x : Int32} : Rv 215 26 ls [.int x] w = some (.inl (some (.int x)), w) := R_retI Q215 (by decide +kernel) rfl
theorem e215_27 {ls : zL} {st : List Value} {w : zW} : Rv 215 27 ls st w = ldA ls 0 fun x => Rv 215 28 ls (x :: st) w := R_ldA Q215 (by decide +kernel) rfl
theorem e215_28 {ls : zL} {st : List Value} {w : zW} {a : Nat} : Rv 215 28 ls (.ref a :: st) w = gF w a 6 0 fun v => Rv 215 31 ls (v :: st) w := R_gF (z := 1070) Q215 (by decide +kernel) rfl
theorem e215_31 {ls : zL} {st : List Value} {w : zW} : Rv 215 31 ls st w = Rv 215 33 ls (.int 7 :: st) w := R_con Q215 (by decide +kernel) rfl (by decide)
theorem e215_33 {ls : zL} {st : List Value} {w : zW} : Rv 215 33 ls st w = ldI ls 1 fun x => Rv 215 34 ls (.int x :: st) w := R_ldI Q215 (by decide +kernel) rfl
theorem e215_34 {ls : zL} {st : List Value} {w : zW} {x y : Int32} : Rv 215 34 ls (.int y :: .int x :: st) w = Rv 215 35 ls (.int (x + y) :: st) w := R_next Q215 (by decide +kernel) rfl
theorem e215_35 {ls : zL} {st : List Value} {w : zW} {a : Nat} {x : Int32} : Rv 215 35 ls (.int x :: .ref a :: st) w = gI w a 0 8 x fun v => Rv 215 36 ls (.int v :: st) w := R_iald Q215 (by decide +kernel)
theorem e215_36 {ls : zL} {st : List Value} {w : zW} {x : Int32} : Rv 215 36 ls (.int x :: st) w = lst ls 3 (some (.int x)) fun l => Rv 215 37 l st w := R_st Q215 (by decide +kernel) rfl
theorem e215_37 {ls : zL} {st : List Value} {w : zW} : Rv 215 37 ls st w = ldA ls 0 fun x => Rv 215 38 ls (x :: st) w := R_ldA Q215 (by decide +kernel) rfl
theorem e215_38 {ls : zL} {st : List Value} {w : zW} {a : Nat} : Rv 215 38 ls (.ref a :: st) w = gF w a 6 0 fun v => Rv 215 41 ls (v :: st) w := R_gF (z := 1070) Q215 (by decide +kernel) rfl
theorem e215_41 {ls : zL} {st : List Value} {w : zW} : Rv 215 41 ls st w = Rv 215 43 ls (.int 7 :: st) w := R_con Q215 (by decide +kernel) rfl (by decide)
theorem e215_43 {ls : zL} {st : List Value} {w : zW} : Rv 215 43 ls st w = ldI ls 1 fun x => Rv 215 44 ls (.int x :: st) w := R_ldI Q215 (by decide +kernel) rfl
theorem e215_44 {ls : zL} {st : List Value} {w : zW} {x y : Int32} : Rv 215 44 ls (.int y :: .int x :: st) w = Rv 215 45 ls (.int (x + y) :: st) w := R_next Q215 (by decide +kernel) rfl
theorem e215_45 {ls : zL} {st : List Value} {w : zW} : Rv 215 45 ls st w = ldI ls 2 fun x => Rv 215 46 ls (.int x :: st) w := R_ldI Q215 (by decide +kernel) rfl
theorem e215_46 {ls : zL} {st : List Value} {w : zW} {a : Nat} {x y : Int32} : Rv 215 46 ls (.int y :: .int x :: .ref a :: st) w = pI w a 0 x y fun w' => Rv 215 47 ls st w' := R_iast Q215 (by decide +kernel)
theorem e215_47 {ls : zL} {st : List Value} {w : zW} : Rv 215 47 ls st w = ldA ls 0 fun x => Rv 215 48 ls (x :: st) w := R_ldA Q215 (by decide +kernel) rfl
theorem e215_48 {ls : zL} {w : zW} {a0 : Nat} : Rv 215 48 ls [.ref a0] w = hO w a0 6 (cal (Rv 162 0 [some (.ref a0), none, none] [] w) (fun v w' => Rv 215 51 ls (vts v []) w') (xnone)) := R_calV (z := 1399) (r := []) Q215 (by decide +kernel) rfl rfl Q162 rfl rfl rfl
theorem e215_51 {ls : zL} {st : List Value} {w : zW} {x : Int32} : Rv 215 51 ls (.int x :: st) w = lst ls 4 (some (.int x)) fun l => Rv 215 53 l st w := R_st Q215 (by decide +kernel) rfl
theorem e215_53 {ls : zL} {st : List Value} {w : zW} : Rv 215 53 ls st w = ldA ls 0 fun x => Rv 215 54 ls (x :: st) w := R_ldA Q215 (by decide +kernel) rfl
theorem e215_54 {ls : zL} {st : List Value} {w : zW} {a : Nat} : Rv 215 54 ls (.ref a :: st) w = gF w a 6 0 fun v => Rv 215 57 ls (v :: st) w := R_gF (z := 1070) Q215 (by decide +kernel) rfl
theorem e215_57 {ls : zL} {st : List Value} {w : zW} : Rv 215 57 ls st w = Rv 215 59 ls (.int 7 :: st) w := R_con Q215 (by decide +kernel) rfl (by decide)
theorem e215_59 {ls : zL} {st : List Value} {w : zW} : Rv 215 59 ls st w = ldI ls 1 fun x => Rv 215 60 ls (.int x :: st) w := R_ldI Q215 (by decide +kernel) rfl
theorem e215_60 {ls : zL} {st : List Value} {w : zW} {x y : Int32} : Rv 215 60 ls (.int y :: .int x :: st) w = Rv 215 61 ls (.int (x + y) :: st) w := R_next Q215 (by decide +kernel) rfl
theorem e215_61 {ls : zL} {st : List Value} {w : zW} : Rv 215 61 ls st w = ldI ls 3 fun x => Rv 215 62 ls (.int x :: st) w := R_ldI Q215 (by decide +kernel) rfl
theorem e215_62 {ls : zL} {st : List Value} {w : zW} {a : Nat} {x y : Int32} : Rv 215 62 ls (.int y :: .int x :: .ref a :: st) w = pI w a 0 x y fun w' => Rv 215 63 ls st w' := R_iast Q215 (by decide +kernel)
theorem e215_63 {ls : zL} {st : List Value} {w : zW} : Rv 215 63 ls st w = ldI ls 4 fun x => Rv 215 65 ls (.int x :: st) w := R_ldI Q215 (by decide +kernel) rfl
theorem e215_65 {ls : zL} {w : zW} {x : Int32} : Rv 215 65 ls [.int x] w = some (.inl (some (.int x)), w) := R_retI Q215 (by decide +kernel) rfl
/-! MasterPinsModel.type -/
theorem e216_0 {ls : zL} {st : List Value} {w : zW} : Rv 216 0 ls st w = ldA ls 0 fun x => Rv 216 1 ls (x :: st) w := R_ldA Q216 (by decide +kernel) rfl
theorem e216_1 {ls : zL} {st : List Value} {w : zW} : Rv 216 1 ls st w = ldI ls 1 fun x => Rv 216 2 ls (.int x :: st) w := R_ldI Q216 (by decide +kernel) rfl
theorem e216_2 {ls : zL} {st : List Value} {w : zW} : Rv 216 2 ls st w = Rv 216 3 ls (.int 0 :: st) w := R_con Q216 (by decide +kernel) rfl (by decide)
theorem e216_3 {ls : zL} {st : List Value} {w : zW} : Rv 216 3 ls st w = Rv 216 5 ls (.int 127 :: st) w := R_con Q216 (by decide +kernel) rfl (by decide)
theorem e216_5 {ls : zL} {w : zW} {n1 : Int32} {n2 : Int32} {n3 : Int32} {a4 : Nat} : Rv 216 5 ls [.int n1, .int n2, .int n3, .ref a4] w = cal (Rv 141 0 [some (.int n3), some (.int n2), some (.int n1)] [] w) (fun v w' => Rv 216 8 ls (vts v [.ref a4]) w') (xnone) := R_calS (z := 1119) (kd := 1) (n := 3) Q216 (by decide +kernel) rfl (Or.inl rfl) (Nat.le_of_ble_eq_true rfl) rfl Q141 rfl rfl rfl
theorem e216_8 {ls : zL} {st : List Value} {w : zW} : Rv 216 8 ls st w = ldA ls 0 fun x => Rv 216 9 ls (x :: st) w := R_ldA Q216 (by decide +kernel) rfl
theorem e216_9 {ls : zL} {st : List Value} {w : zW} {a : Nat} : Rv 216 9 ls (.ref a :: st) w = gF w a 6 6 fun v => Rv 216 12 ls (v :: st) w := R_gF (z := 1076) Q216 (by decide +kernel) rfl
theorem e216_12 {ls : zL} {st : List Value} {w : zW} : Rv 216 12 ls st w = Rv 216 15 ls (.int 150 :: st) w := R_con Q216 (by decide +kernel) rfl (by decide)
theorem e216_15 {ls : zL} {st : List Value} {w : zW} {x y : Int32} : Rv 216 15 ls (.int y :: .int x :: st) w = if x < y then Rv 216 18 ls st w else Rv 216 22 ls st w := R_fige Q216 (by decide +kernel) rfl rfl
theorem e216_18 {ls : zL} {st : List Value} {w : zW} : Rv 216 18 ls st w = Rv 216 19 ls (.int 1 :: st) w := R_con Q216 (by decide +kernel) rfl (by decide)
theorem e216_19 {ls : zL} {st : List Value} {w : zW} : Rv 216 19 ls st w = Rv 216 23 ls st w := R_go Q216 (by decide +kernel) rfl rfl
theorem e216_22 {ls : zL} {st : List Value} {w : zW} : Rv 216 22 ls st w = Rv 216 23 ls (.int 0 :: st) w := R_con Q216 (by decide +kernel) rfl (by decide)
theorem e216_23 {ls : zL} {st : List Value} {w : zW} : Rv 216 23 ls st w = Rv 216 24 ls (.int 1 :: st) w := R_con Q216 (by decide +kernel) rfl (by decide)
theorem e216_24 {ls : zL} {w : zW} {n1 : Int32} {n2 : Int32} {n3 : Int32} {a0 : Nat} : Rv 216 24 ls [.int n1, .int n2, .int n3, .ref a0] w = hO w a0 6 (cal (Rv 142 0 [some (.ref a0), some (.int n3), some (.int n2), some (.int n1)] [] w) (fun v w' => Rv 216 27 ls (vts v []) w') (xnone)) := R_calV (z := 1122) (r := []) Q216 (by decide +kernel) rfl rfl Q142 rfl rfl rfl
theorem e216_27 {ls : zL} {st : List Value} {w : zW} {x : Int32} : Rv 216 27 ls (.int x :: st) w = if x = 0 then Rv 216 32 ls st w else Rv 216 30 ls st w := R_f0eq Q216 (by decide +kernel) rfl rfl
theorem e216_30 {ls : zL} {st : List Value} {w : zW} : Rv 216 30 ls st w = Rv 216 31 ls (.int 0 :: st) w := R_con Q216 (by decide +kernel) rfl (by decide)
theorem e216_31 {ls : zL} {w : zW} {x : Int32} : Rv 216 31 ls [.int x] w = some (.inl (some (.int x)), w) := R_retI Q216 (by decide +kernel) rfl
theorem e216_32 {ls : zL} {st : List Value} {w : zW} : Rv 216 32 ls st w = ldA ls 0 fun x => Rv 216 33 ls (x :: st) w := R_ldA Q216 (by decide +kernel) rfl
theorem e216_33 {ls : zL} {st : List Value} {w : zW} {a : Nat} : Rv 216 33 ls (.ref a :: st) w = gF w a 6 5 fun v => Rv 216 36 ls (v :: st) w := R_gF (z := 1075) Q216 (by decide +kernel) rfl
theorem e216_36 {ls : zL} {st : List Value} {w : zW} : Rv 216 36 ls st w = ldA ls 0 fun x => Rv 216 37 ls (x :: st) w := R_ldA Q216 (by decide +kernel) rfl
theorem e216_37 {ls : zL} {st : List Value} {w : zW} {a : Nat} : Rv 216 37 ls (.ref a :: st) w = gF w a 6 6 fun v => Rv 216 40 ls (v :: st) w := R_gF (z := 1076) Q216 (by decide +kernel) rfl
theorem e216_40 {ls : zL} {st : List Value} {w : zW} : Rv 216 40 ls st w = ldI ls 1 fun x => Rv 216 41 ls (.int x :: st) w := R_ldI Q216 (by decide +kernel) rfl
theorem e216_41 {ls : zL} {st : List Value} {w : zW} {x : Int32} : Rv 216 41 ls (.int x :: st) w = Rv 216 42 ls (.int x.toInt8.toInt32 :: st) w := R_next Q216 (by decide +kernel) rfl
theorem e216_42 {ls : zL} {st : List Value} {w : zW} {a : Nat} {x y : Int32} : Rv 216 42 ls (.int y :: .int x :: .ref a :: st) w = pI w a 2 x (vp_nar .byte y) fun w' => Rv 216 43 ls st w' := R_bast Q216 (by decide +kernel)
theorem e216_43 {ls : zL} {st : List Value} {w : zW} : Rv 216 43 ls st w = ldA ls 0 fun x => Rv 216 44 ls (x :: st) w := R_ldA Q216 (by decide +kernel) rfl
theorem e216_44 {ls : zL} {st : List Value} {w : zW} {x : Nat} : Rv 216 44 ls (.ref x :: st) w = Rv 216 45 ls (.ref x :: .ref x :: st) w := R_next Q216 (by decide +kernel) rfl
theorem e216_45 {ls : zL} {st : List Value} {w : zW} {a : Nat} : Rv 216 45 ls (.ref a :: st) w = gF w a 6 6 fun v => Rv 216 48 ls (v :: st) w := R_gF (z := 1076) Q216 (by decide +kernel) rfl
theorem e216_48 {ls : zL} {st : List Value} {w : zW} : Rv 216 48 ls st w = Rv 216 49 ls (.int 1 :: st) w := R_con Q216 (by decide +kernel) rfl (by decide)
theorem e216_49 {ls : zL} {st : List Value} {w : zW} {x y : Int32} : Rv 216 49 ls (.int y :: .int x :: st) w = Rv 216 50 ls (.int (x + y) :: st) w := R_next Q216 (by decide +kernel) rfl
theorem e216_50 {ls : zL} {st : List Value} {w : zW} {x : Int32} {a : Nat} : Rv 216 50 ls (.int x :: .ref a :: st) w = pF w a 6 6 (.int x) fun w' => Rv 216 53 ls st w' := R_pF (z := 1076) Q216 (by decide +kernel) rfl ⟨by decide, rfl, Or.inl rfl⟩
theorem e216_53 {ls : zL} {st : List Value} {w : zW} : Rv 216 53 ls st w = ldA ls 0 fun x => Rv 216 54 ls (x :: st) w := R_ldA Q216 (by decide +kernel) rfl
theorem e216_54 {ls : zL} {st : List Value} {w : zW} {a : Nat} : Rv 216 54 ls (.ref a :: st) w = gF w a 6 6 fun v => Rv 216 57 ls (v :: st) w := R_gF (z := 1076) Q216 (by decide +kernel) rfl
theorem e216_57 {ls : zL} {w : zW} {x : Int32} : Rv 216 57 ls [.int x] w = some (.inl (some (.int x)), w) := R_retI Q216 (by decide +kernel) rfl
/-! MasterPinsModel.clearCommands -/
theorem e217_0 {ls : zL} {st : List Value} {w : zW} : Rv 217 0 ls st w = ldA ls 0 fun x => Rv 217 1 ls (x :: st) w := R_ldA Q217 (by decide +kernel) rfl
theorem e217_1 {ls : zL} {st : List Value} {w : zW} : Rv 217 1 ls st w = Rv 217 2 ls (.int 0 :: st) w := R_con Q217 (by decide +kernel) rfl (by decide)
theorem e217_2 {ls : zL} {st : List Value} {w : zW} {x : Int32} {a : Nat} : Rv 217 2 ls (.int x :: .ref a :: st) w = pF w a 6 3 (.int x) fun w' => Rv 217 5 ls st w' := R_pF (z := 1073) Q217 (by decide +kernel) rfl ⟨by decide, rfl, Or.inl rfl⟩
theorem e217_5 {ls : zL} {st : List Value} {w : zW} : Rv 217 5 ls st w = ldA ls 0 fun x => Rv 217 6 ls (x :: st) w := R_ldA Q217 (by decide +kernel) rfl
theorem e217_6 {ls : zL} {st : List Value} {w : zW} {a : Nat} : Rv 217 6 ls (.ref a :: st) w = gF w a 6 6 fun v => Rv 217 9 ls (v :: st) w := R_gF (z := 1076) Q217 (by decide +kernel) rfl
theorem e217_9 {ls : zL} {st : List Value} {w : zW} {x : Int32} : Rv 217 9 ls (.int x :: st) w = lst ls 1 (some (.int x)) fun l => Rv 217 10 l st w := R_st Q217 (by decide +kernel) rfl
theorem e217_10 {ls : zL} {st : List Value} {w : zW} : Rv 217 10 ls st w = ldA ls 0 fun x => Rv 217 11 ls (x :: st) w := R_ldA Q217 (by decide +kernel) rfl
theorem e217_11 {ls : zL} {st : List Value} {w : zW} : Rv 217 11 ls st w = Rv 217 12 ls (.int 0 :: st) w := R_con Q217 (by decide +kernel) rfl (by decide)
theorem e217_12 {ls : zL} {st : List Value} {w : zW} {x : Int32} {a : Nat} : Rv 217 12 ls (.int x :: .ref a :: st) w = pF w a 6 6 (.int x) fun w' => Rv 217 15 ls st w' := R_pF (z := 1076) Q217 (by decide +kernel) rfl ⟨by decide, rfl, Or.inl rfl⟩
theorem e217_15 {ls : zL} {st : List Value} {w : zW} : Rv 217 15 ls st w = ldI ls 1 fun x => Rv 217 16 ls (.int x :: st) w := R_ldI Q217 (by decide +kernel) rfl
theorem e217_16 {ls : zL} {w : zW} {x : Int32} : Rv 217 16 ls [.int x] w = some (.inl (some (.int x)), w) := R_retI Q217 (by decide +kernel) rfl
/-! MasterPinsModel.isAt -/
theorem e218_0 {ls : zL} {st : List Value} {w : zW} : Rv 218 0 ls st w = ldA ls 0 fun x => Rv 218 1 ls (x :: st) w := R_ldA Q218 (by decide +kernel) rfl
theorem e218_1 {ls : zL} {st : List Value} {w : zW} {a : Nat} : Rv 218 1 ls (.ref a :: st) w = gF w a 6 7 fun v => Rv 218 4 ls (v :: st) w := R_gF (z := 1077) Q218 (by decide +kernel) rfl
theorem e218_4 {ls : zL} {st : List Value} {w : zW} : Rv 218 4 ls st w = ldA ls 0 fun x => Rv 218 5 ls (x :: st) w := R_ldA Q218 (by decide +kernel) rfl
theorem e218_5 {ls : zL} {st : List Value} {w : zW} {a : Nat} : Rv 218 5 ls (.ref a :: st) w = gF w a 6 6 fun v => Rv 218 8 ls (v :: st) w := R_gF (z := 1076) Q218 (by decide +kernel) rfl
theorem e218_8 {ls : zL} {st : List Value} {w : zW} {x y : Int32} : Rv 218 8 ls (.int y :: .int x :: st) w = if x < y then Rv 218 11 ls st w else Rv 218 32 ls st w := R_fige Q218 (by decide +kernel) rfl rfl
theorem e218_11 {ls : zL} {st : List Value} {w : zW} : Rv 218 11 ls st w = ldA ls 0 fun x => Rv 218 12 ls (x :: st) w := R_ldA Q218 (by decide +kernel) rfl
theorem e218_12 {ls : zL} {st : List Value} {w : zW} {a : Nat} : Rv 218 12 ls (.ref a :: st) w = gF w a 6 5 fun v => Rv 218 15 ls (v :: st) w := R_gF (z := 1075) Q218 (by decide +kernel) rfl
theorem e218_15 {ls : zL} {st : List Value} {w : zW} : Rv 218 15 ls st w = ldA ls 0 fun x => Rv 218 16 ls (x :: st) w := R_ldA Q218 (by decide +kernel) rfl
theorem e218_16 {ls : zL} {st : List Value} {w : zW} {a : Nat} : Rv 218 16 ls (.ref a :: st) w = gF w a 6 7 fun v => Rv 218 19 ls (v :: st) w := R_gF (z := 1077) Q218 (by decide +kernel) rfl
theorem e218_19 {ls : zL} {st : List Value} {w : zW} {a : Nat} {x : Int32} : Rv 218 19 ls (.int x :: .ref a :: st) w = gI w a 2 9 x fun v => Rv 218 20 ls (.int v :: st) w := R_bald Q218 (by decide +kernel)
theorem e218_20 {ls : zL} {st : List Value} {w : zW} : Rv 218 20 ls st w = ldI ls 1 fun x => Rv 218 21 ls (.int x :: st) w := R_ldI Q218 (by decide +kernel) rfl
theorem e218_21 {ls : zL} {st : List Value} {w : zW} : Rv 218 21 ls st w = ldI ls 2 fun x => Rv 218 22 ls (.int x :: st) w := R_ldI Q218 (by decide +kernel) rfl
theorem e218_22 {ls : zL} {w : zW} {n1 : Int32} {n2 : Int32} {n3 : Int32} : Rv 218 22 ls [.int n1, .int n2, .int n3] w = cal (Rv 141 0 [some (.int n3), some (.int n2), some (.int n1)] [] w) (fun v w' => Rv 218 25 ls (vts v []) w') (xnone) := R_calS (z := 1119) (kd := 1) (n := 3) Q218 (by decide +kernel) rfl (Or.inl rfl) (Nat.le_of_ble_eq_true rfl) rfl Q141 rfl rfl rfl
theorem e218_25 {ls : zL} {st : List Value} {w : zW} {x : Int32} : Rv 218 25 ls (.int x :: st) w = if x = 0 then Rv 218 32 ls st w else Rv 218 28 ls st w := R_f0eq Q218 (by decide +kernel) rfl rfl
theorem e218_28 {ls : zL} {st : List Value} {w : zW} : Rv 218 28 ls st w = Rv 218 29 ls (.int 1 :: st) w := R_con Q218 (by decide +kernel) rfl (by decide)
theorem e218_29 {ls : zL} {st : List Value} {w : zW} : Rv 218 29 ls st w = Rv 218 33 ls st w := R_go Q218 (by decide +kernel) rfl rfl
theorem e218_32 {ls : zL} {st : List Value} {w : zW} : Rv 218 32 ls st w = Rv 218 33 ls (.int 0 :: st) w := R_con Q218 (by decide +kernel) rfl (by decide)
theorem e218_33 {ls : zL} {w : zW} {x : Int32} : Rv 218 33 ls [.int x] w = if x = 0 ∨ x = 1 then some (.inl (some (.int x)), w) else none := R_retZ Q218 (by decide +kernel) rfl
/-! MasterPinsModel.passSpaces -/
theorem h219_0 {ls : zL} {st : List Value} {w : zW} : Rv 219 0 ls st w = ldA ls 0 fun x => Rv 219 1 ls (x :: st) w := R_ldA Q219 (by decide +kernel) rfl
theorem e219_1 {ls : zL} {st : List Value} {w : zW} : Rv 219 1 ls st w = Rv 219 3 ls (.int 32 :: st) w := R_con Q219 (by decide +kernel) rfl (by decide)
theorem e219_3 {ls : zL} {st : List Value} {w : zW} : Rv 219 3 ls st w = Rv 219 5 ls (.int 32 :: st) w := R_con Q219 (by decide +kernel) rfl (by decide)
theorem e219_5 {ls : zL} {w : zW} {n1 : Int32} {n2 : Int32} {a0 : Nat} : Rv 219 5 ls [.int n1, .int n2, .ref a0] w = hO w a0 6 (cal (Rv 218 0 [some (.ref a0), some (.int n2), some (.int n1)] [] w) (fun v w' => Rv 219 8 ls (vts v []) w') (xnone)) := R_calV (z := 1427) (r := []) Q219 (by decide +kernel) rfl rfl Q218 rfl rfl rfl
theorem e219_8 {ls : zL} {st : List Value} {w : zW} {x : Int32} : Rv 219 8 ls (.int x :: st) w = if x = 0 then Rv 219 24 ls st w else Rv 219 11 ls st w := R_f0eq Q219 (by decide +kernel) rfl rfl
theorem e219_11 {ls : zL} {st : List Value} {w : zW} : Rv 219 11 ls st w = ldA ls 0 fun x => Rv 219 12 ls (x :: st) w := R_ldA Q219 (by decide +kernel) rfl
theorem e219_12 {ls : zL} {st : List Value} {w : zW} {x : Nat} : Rv 219 12 ls (.ref x :: st) w = Rv 219 13 ls (.ref x :: .ref x :: st) w := R_next Q219 (by decide +kernel) rfl
theorem e219_13 {ls : zL} {st : List Value} {w : zW} {a : Nat} : Rv 219 13 ls (.ref a :: st) w = gF w a 6 7 fun v => Rv 219 16 ls (v :: st) w := R_gF (z := 1077) Q219 (by decide +kernel) rfl
theorem e219_16 {ls : zL} {st : List Value} {w : zW} : Rv 219 16 ls st w = Rv 219 17 ls (.int 1 :: st) w := R_con Q219 (by decide +kernel) rfl (by decide)
theorem e219_17 {ls : zL} {st : List Value} {w : zW} {x y : Int32} : Rv 219 17 ls (.int y :: .int x :: st) w = Rv 219 18 ls (.int (x + y) :: st) w := R_next Q219 (by decide +kernel) rfl
theorem e219_18 {ls : zL} {st : List Value} {w : zW} {x : Int32} {a : Nat} : Rv 219 18 ls (.int x :: .ref a :: st) w = pF w a 6 7 (.int x) fun w' => Rv 219 21 ls st w' := R_pF (z := 1077) Q219 (by decide +kernel) rfl ⟨by decide, rfl, Or.inl rfl⟩
theorem e219_21 {ls : zL} {st : List Value} {w : zW} : Rv 219 21 ls st w = Rv 219 0 ls st w := R_go Q219 (by decide +kernel) rfl rfl
theorem e219_24 {ls : zL} {w : zW} : Rv 219 24 ls [] w = some (.inl none, w) := R_retV Q219 (by decide +kernel) rfl
/-! MasterPinsModel.wordOf -/
theorem e220_0 {ls : zL} {st : List Value} {w : zW} : Rv 220 0 ls st w = ldI ls 0 fun x => Rv 220 1 ls (.int x :: st) w := R_ldI Q220 (by decide +kernel) rfl
theorem e220_1 {ls : zL} {st : List Value} {w : zW} {x : Int32} : Rv 220 1 ls (.int x :: st) w = lsw x 116 (fun t => Rv 220 t ls st w) [(1065, 113), (2774, 107), (4637, 100), (8179, 94), (11921, 98), (90090, 96), (125041, 104), (247649, 102), (369932, 110), (187455942, 92)] := R_lsw Q220 (by decide +kernel) (by decide +kernel) rfl rfl (by decide +kernel)
theorem e220_92 {ls : zL} {st : List Value} {w : zW} : Rv 220 92 ls st w = Rv 220 93 ls (.int 0 :: st) w := R_con Q220 (by decide +kernel) rfl (by decide)
theorem e220_93 {ls : zL} {w : zW} {x : Int32} : Rv 220 93 ls [.int x] w = some (.inl (some (.int x)), w) := R_retI Q220 (by decide +kernel) rfl
theorem e220_94 {ls : zL} {st : List Value} {w : zW} : Rv 220 94 ls st w = Rv 220 95 ls (.int 1 :: st) w := R_con Q220 (by decide +kernel) rfl (by decide)
theorem e220_95 {ls : zL} {w : zW} {x : Int32} : Rv 220 95 ls [.int x] w = some (.inl (some (.int x)), w) := R_retI Q220 (by decide +kernel) rfl
theorem e220_96 {ls : zL} {st : List Value} {w : zW} : Rv 220 96 ls st w = Rv 220 97 ls (.int 2 :: st) w := R_con Q220 (by decide +kernel) rfl (by decide)
theorem e220_97 {ls : zL} {w : zW} {x : Int32} : Rv 220 97 ls [.int x] w = some (.inl (some (.int x)), w) := R_retI Q220 (by decide +kernel) rfl
theorem e220_98 {ls : zL} {st : List Value} {w : zW} : Rv 220 98 ls st w = Rv 220 99 ls (.int 3 :: st) w := R_con Q220 (by decide +kernel) rfl (by decide)
theorem e220_99 {ls : zL} {w : zW} {x : Int32} : Rv 220 99 ls [.int x] w = some (.inl (some (.int x)), w) := R_retI Q220 (by decide +kernel) rfl
theorem e220_100 {ls : zL} {st : List Value} {w : zW} : Rv 220 100 ls st w = Rv 220 101 ls (.int 4 :: st) w := R_con Q220 (by decide +kernel) rfl (by decide)
theorem e220_101 {ls : zL} {w : zW} {x : Int32} : Rv 220 101 ls [.int x] w = some (.inl (some (.int x)), w) := R_retI Q220 (by decide +kernel) rfl
theorem e220_102 {ls : zL} {st : List Value} {w : zW} : Rv 220 102 ls st w = Rv 220 103 ls (.int 5 :: st) w := R_con Q220 (by decide +kernel) rfl (by decide)
theorem e220_103 {ls : zL} {w : zW} {x : Int32} : Rv 220 103 ls [.int x] w = some (.inl (some (.int x)), w) := R_retI Q220 (by decide +kernel) rfl
theorem e220_104 {ls : zL} {st : List Value} {w : zW} : Rv 220 104 ls st w = Rv 220 106 ls (.int 6 :: st) w := R_con Q220 (by decide +kernel) rfl (by decide)
theorem e220_106 {ls : zL} {w : zW} {x : Int32} : Rv 220 106 ls [.int x] w = some (.inl (some (.int x)), w) := R_retI Q220 (by decide +kernel) rfl
theorem e220_107 {ls : zL} {st : List Value} {w : zW} : Rv 220 107 ls st w = Rv 220 109 ls (.int 7 :: st) w := R_con Q220 (by decide +kernel) rfl (by decide)
theorem e220_109 {ls : zL} {w : zW} {x : Int32} : Rv 220 109 ls [.int x] w = some (.inl (some (.int x)), w) := R_retI Q220 (by decide +kernel) rfl
theorem e220_110 {ls : zL} {st : List Value} {w : zW} : Rv 220 110 ls st w = Rv 220 112 ls (.int 8 :: st) w := R_con Q220 (by decide +kernel) rfl (by decide)
theorem e220_112 {ls : zL} {w : zW} {x : Int32} : Rv 220 112 ls [.int x] w = some (.inl (some (.int x)), w) := R_retI Q220 (by decide +kernel) rfl
theorem e220_113 {ls : zL} {st : List Value} {w : zW} : Rv 220 113 ls st w = Rv 220 115 ls (.int 9 :: st) w := R_con Q220 (by decide +kernel) rfl (by decide)
theorem e220_115 {ls : zL} {w : zW} {x : Int32} : Rv 220 115 ls [.int x] w = some (.inl (some (.int x)), w) := R_retI Q220 (by decide +kernel) rfl
theorem e220_116 {ls : zL} {st : List Value} {w : zW} : Rv 220 116 ls st w = Rv 220 117 ls (.int (-1) :: st) w := R_con Q220 (by decide +kernel) rfl (by decide)
theorem e220_117 {ls : zL} {w : zW} {x : Int32} : Rv 220 117 ls [.int x] w = some (.inl (some (.int x)), w) := R_retI Q220 (by decide +kernel) rfl
/-! MasterPinsModel.numbersOf -/
theorem e221_0 {ls : zL} {st : List Value} {w : zW} : Rv 221 0 ls st w = ldI ls 0 fun x => Rv 221 1 ls (.int x :: st) w := R_ldI Q221 (by decide +kernel) rfl
theorem e221_1 {ls : zL} {st : List Value} {w : zW} : Rv 221 1 ls st w = Rv 221 3 ls (.int 9 :: st) w := R_con Q221 (by decide +kernel) rfl (by decide)
theorem e221_3 {ls : zL} {st : List Value} {w : zW} {x y : Int32} : Rv 221 3 ls (.int y :: .int x :: st) w = if x = y then Rv 221 6 ls st w else Rv 221 10 ls st w := R_fine Q221 (by decide +kernel) rfl rfl
theorem e221_6 {ls : zL} {st : List Value} {w : zW} : Rv 221 6 ls st w = Rv 221 7 ls (.int 0 :: st) w := R_con Q221 (by decide +kernel) rfl (by decide)
theorem e221_7 {ls : zL} {st : List Value} {w : zW} : Rv 221 7 ls st w = Rv 221 37 ls st w := R_go Q221 (by decide +kernel) rfl rfl
theorem e221_10 {ls : zL} {st : List Value} {w : zW} : Rv 221 10 ls st w = ldI ls 0 fun x => Rv 221 11 ls (.int x :: st) w := R_ldI Q221 (by decide +kernel) rfl
theorem e221_11 {ls : zL} {st : List Value} {w : zW} : Rv 221 11 ls st w = Rv 221 12 ls (.int 1 :: st) w := R_con Q221 (by decide +kernel) rfl (by decide)
theorem e221_12 {ls : zL} {st : List Value} {w : zW} {x y : Int32} : Rv 221 12 ls (.int y :: .int x :: st) w = if x = y then Rv 221 32 ls st w else Rv 221 15 ls st w := R_fieq Q221 (by decide +kernel) rfl rfl
theorem e221_15 {ls : zL} {st : List Value} {w : zW} : Rv 221 15 ls st w = ldI ls 0 fun x => Rv 221 16 ls (.int x :: st) w := R_ldI Q221 (by decide +kernel) rfl
theorem e221_16 {ls : zL} {st : List Value} {w : zW} : Rv 221 16 ls st w = Rv 221 17 ls (.int 3 :: st) w := R_con Q221 (by decide +kernel) rfl (by decide)
theorem e221_17 {ls : zL} {st : List Value} {w : zW} {x y : Int32} : Rv 221 17 ls (.int y :: .int x :: st) w = if x = y then Rv 221 32 ls st w else Rv 221 20 ls st w := R_fieq Q221 (by decide +kernel) rfl rfl
theorem e221_20 {ls : zL} {st : List Value} {w : zW} : Rv 221 20 ls st w = ldI ls 0 fun x => Rv 221 21 ls (.int x :: st) w := R_ldI Q221 (by decide +kernel) rfl
theorem e221_21 {ls : zL} {st : List Value} {w : zW} : Rv 221 21 ls st w = Rv 221 23 ls (.int 7 :: st) w := R_con Q221 (by decide +kernel) rfl (by decide)
theorem e221_23 {ls : zL} {st : List Value} {w : zW} {x y : Int32} : Rv 221 23 ls (.int y :: .int x :: st) w = if x = y then Rv 221 32 ls st w else Rv 221 26 ls st w := R_fieq Q221 (by decide +kernel) rfl rfl
theorem e221_26 {ls : zL} {st : List Value} {w : zW} : Rv 221 26 ls st w = ldI ls 0 fun x => Rv 221 27 ls (.int x :: st) w := R_ldI Q221 (by decide +kernel) rfl
theorem e221_27 {ls : zL} {st : List Value} {w : zW} : Rv 221 27 ls st w = Rv 221 29 ls (.int 8 :: st) w := R_con Q221 (by decide +kernel) rfl (by decide)
theorem e221_29 {ls : zL} {st : List Value} {w : zW} {x y : Int32} : Rv 221 29 ls (.int y :: .int x :: st) w = if x = y then Rv 221 32 ls st w else Rv 221 36 ls st w := R_fine Q221 (by decide +kernel) rfl rfl
theorem e221_32 {ls : zL} {st : List Value} {w : zW} : Rv 221 32 ls st w = Rv 221 33 ls (.int 2 :: st) w := R_con Q221 (by decide +kernel) rfl (by decide)
theorem e221_33 {ls : zL} {st : List Value} {w : zW} : Rv 221 33 ls st w = Rv 221 37 ls st w := R_go Q221 (by decide +kernel) rfl rfl
theorem e221_36 {ls : zL} {st : List Value} {w : zW} : Rv 221 36 ls st w = Rv 221 37 ls (.int 1 :: st) w := R_con Q221 (by decide +kernel) rfl (by decide)
theorem e221_37 {ls : zL} {w : zW} {x : Int32} : Rv 221 37 ls [.int x] w = some (.inl (some (.int x)), w) := R_retI Q221 (by decide +kernel) rfl
/-! MasterPinsModel.due -/
theorem e222_0 {ls : zL} {st : List Value} {w : zW} : Rv 222 0 ls st w = ldA ls 0 fun x => Rv 222 1 ls (x :: st) w := R_ldA Q222 (by decide +kernel) rfl
theorem e222_1 {ls : zL} {st : List Value} {w : zW} : Rv 222 1 ls st w = ldA ls 0 fun x => Rv 222 2 ls (x :: st) w := R_ldA Q222 (by decide +kernel) rfl
theorem e222_2 {ls : zL} {st : List Value} {w : zW} {a : Nat} : Rv 222 2 ls (.ref a :: st) w = gF w a 6 8 fun v => Rv 222 5 ls (v :: st) w := R_gF (z := 1078) Q222 (by decide +kernel) rfl
theorem e222_5 {ls : zL} {st : List Value} {w : zW} : Rv 222 5 ls st w = Rv 222 6 ls (.int (-1) :: st) w := R_con Q222 (by decide +kernel) rfl (by decide)
theorem e222_6 {ls : zL} {st : List Value} {w : zW} {x y : Int32} : Rv 222 6 ls (.int y :: .int x :: st) w = if x = y then Rv 222 9 ls st w else Rv 222 20 ls st w := R_fine Q222 (by decide +kernel) rfl rfl
theorem e222_9 {ls : zL} {st : List Value} {w : zW} : Rv 222 9 ls st w = ldI ls 1 fun x => Rv 222 10 ls (.int x :: st) w := R_ldI Q222 (by decide +kernel) rfl
theorem e222_10 {ls : zL} {st : List Value} {w : zW} {x : Int32} : Rv 222 10 ls (.int x :: st) w = if x = 0 then Rv 222 13 ls st w else Rv 222 20 ls st w := R_f0ne Q222 (by decide +kernel) rfl rfl
theorem e222_13 {ls : zL} {st : List Value} {w : zW} : Rv 222 13 ls st w = ldA ls 0 fun x => Rv 222 14 ls (x :: st) w := R_ldA Q222 (by decide +kernel) rfl
theorem e222_14 {ls : zL} {st : List Value} {w : zW} {a : Nat} : Rv 222 14 ls (.ref a :: st) w = gF w a 6 7 fun v => Rv 222 17 ls (v :: st) w := R_gF (z := 1077) Q222 (by decide +kernel) rfl
theorem e222_17 {ls : zL} {st : List Value} {w : zW} : Rv 222 17 ls st w = Rv 222 24 ls st w := R_go Q222 (by decide +kernel) rfl rfl
theorem e222_20 {ls : zL} {st : List Value} {w : zW} : Rv 222 20 ls st w = ldA ls 0 fun x => Rv 222 21 ls (x :: st) w := R_ldA Q222 (by decide +kernel) rfl
theorem e222_21 {ls : zL} {st : List Value} {w : zW} {a : Nat} : Rv 222 21 ls (.ref a :: st) w = gF w a 6 8 fun v => Rv 222 24 ls (v :: st) w := R_gF (z := 1078) Q222 (by decide +kernel) rfl
theorem e222_24 {ls : zL} {st : List Value} {w : zW} {x : Int32} {a : Nat} : Rv 222 24 ls (.int x :: .ref a :: st) w = pF w a 6 8 (.int x) fun w' => Rv 222 27 ls st w' := R_pF (z := 1078) Q222 (by decide +kernel) rfl ⟨by decide, rfl, Or.inl rfl⟩
theorem e222_27 {ls : zL} {st : List Value} {w : zW} : Rv 222 27 ls st w = ldA ls 0 fun x => Rv 222 28 ls (x :: st) w := R_ldA Q222 (by decide +kernel) rfl
theorem e222_28 {ls : zL} {st : List Value} {w : zW} {a : Nat} : Rv 222 28 ls (.ref a :: st) w = gF w a 6 8 fun v => Rv 222 31 ls (v :: st) w := R_gF (z := 1078) Q222 (by decide +kernel) rfl
theorem e222_31 {ls : zL} {st : List Value} {w : zW} : Rv 222 31 ls st w = Rv 222 32 ls (.int (-1) :: st) w := R_con Q222 (by decide +kernel) rfl (by decide)
theorem e222_32 {ls : zL} {st : List Value} {w : zW} {x y : Int32} : Rv 222 32 ls (.int y :: .int x :: st) w = if x = y then Rv 222 35 ls st w else Rv 222 39 ls st w := R_fine Q222 (by decide +kernel) rfl rfl
theorem e222_35 {ls : zL} {st : List Value} {w : zW} : Rv 222 35 ls st w = Rv 222 36 ls (.int 1 :: st) w := R_con Q222 (by decide +kernel) rfl (by decide)
theorem e222_36 {ls : zL} {st : List Value} {w : zW} : Rv 222 36 ls st w = Rv 222 40 ls st w := R_go Q222 (by decide +kernel) rfl rfl
theorem e222_39 {ls : zL} {st : List Value} {w : zW} : Rv 222 39 ls st w = Rv 222 40 ls (.int 0 :: st) w := R_con Q222 (by decide +kernel) rfl (by decide)
theorem e222_40 {ls : zL} {w : zW} {x : Int32} : Rv 222 40 ls [.int x] w = if x = 0 ∨ x = 1 then some (.inl (some (.int x)), w) else none := R_retZ Q222 (by decide +kernel) rfl
/-! MasterPinsModel.readWord -/
theorem e223_0 {ls : zL} {st : List Value} {w : zW} : Rv 223 0 ls st w = ldA ls 0 fun x => Rv 223 1 ls (x :: st) w := R_ldA Q223 (by decide +kernel) rfl
theorem e223_1 {ls : zL} {st : List Value} {w : zW} {a : Nat} : Rv 223 1 ls (.ref a :: st) w = gF w a 6 7 fun v => Rv 223 4 ls (v :: st) w := R_gF (z := 1077) Q223 (by decide +kernel) rfl
theorem e223_4 {ls : zL} {st : List Value} {w : zW} {x : Int32} : Rv 223 4 ls (.int x :: st) w = lst ls 1 (some (.int x)) fun l => Rv 223 5 l st w := R_st Q223 (by decide +kernel) rfl
theorem e223_5 {ls : zL} {st : List Value} {w : zW} : Rv 223 5 ls st w = Rv 223 6 ls (.int 0 :: st) w := R_con Q223 (by decide +kernel) rfl (by decide)
theorem e223_6 {ls : zL} {st : List Value} {w : zW} {x : Int32} : Rv 223 6 ls (.int x :: st) w = lst ls 2 (some (.int x)) fun l => Rv 223 7 l st w := R_st Q223 (by decide +kernel) rfl
theorem h223_7 {ls : zL} {st : List Value} {w : zW} : Rv 223 7 ls st w = ldA ls 0 fun x => Rv 223 8 ls (x :: st) w := R_ldA Q223 (by decide +kernel) rfl
theorem e223_8 {ls : zL} {st : List Value} {w : zW} : Rv 223 8 ls st w = Rv 223 10 ls (.int 97 :: st) w := R_con Q223 (by decide +kernel) rfl (by decide)
theorem e223_10 {ls : zL} {st : List Value} {w : zW} : Rv 223 10 ls st w = Rv 223 12 ls (.int 122 :: st) w := R_con Q223 (by decide +kernel) rfl (by decide)
theorem e223_12 {ls : zL} {w : zW} {n1 : Int32} {n2 : Int32} {a0 : Nat} : Rv 223 12 ls [.int n1, .int n2, .ref a0] w = hO w a0 6 (cal (Rv 218 0 [some (.ref a0), some (.int n2), some (.int n1)] [] w) (fun v w' => Rv 223 15 ls (vts v []) w') (xnone)) := R_calV (z := 1427) (r := []) Q223 (by decide +kernel) rfl rfl Q218 rfl rfl rfl
theorem e223_15 {ls : zL} {st : List Value} {w : zW} {x : Int32} : Rv 223 15 ls (.int x :: st) w = if x = 0 then Rv 223 64 ls st w else Rv 223 18 ls st w := R_f0eq Q223 (by decide +kernel) rfl rfl
theorem e223_18 {ls : zL} {st : List Value} {w : zW} : Rv 223 18 ls st w = ldA ls 0 fun x => Rv 223 19 ls (x :: st) w := R_ldA Q223 (by decide +kernel) rfl
theorem e223_19 {ls : zL} {st : List Value} {w : zW} {a : Nat} : Rv 223 19 ls (.ref a :: st) w = gF w a 6 7 fun v => Rv 223 22 ls (v :: st) w := R_gF (z := 1077) Q223 (by decide +kernel) rfl
theorem e223_22 {ls : zL} {st : List Value} {w : zW} : Rv 223 22 ls st w = ldI ls 1 fun x => Rv 223 23 ls (.int x :: st) w := R_ldI Q223 (by decide +kernel) rfl
theorem e223_23 {ls : zL} {st : List Value} {w : zW} {x y : Int32} : Rv 223 23 ls (.int y :: .int x :: st) w = Rv 223 24 ls (.int (x - y) :: st) w := R_next Q223 (by decide +kernel) rfl
theorem e223_24 {ls : zL} {st : List Value} {w : zW} : Rv 223 24 ls st w = Rv 223 26 ls (.int 6 :: st) w := R_con Q223 (by decide +kernel) rfl (by decide)
theorem e223_26 {ls : zL} {st : List Value} {w : zW} {x y : Int32} : Rv 223 26 ls (.int y :: .int x :: st) w = if x < y then Rv 223 29 ls st w else Rv 223 49 ls st w := R_fige Q223 (by decide +kernel) rfl rfl
theorem e223_29 {ls : zL} {st : List Value} {w : zW} : Rv 223 29 ls st w = Rv 223 31 ls (.int 27 :: st) w := R_con Q223 (by decide +kernel) rfl (by decide)
theorem e223_31 {ls : zL} {st : List Value} {w : zW} : Rv 223 31 ls st w = ldI ls 2 fun x => Rv 223 32 ls (.int x :: st) w := R_ldI Q223 (by decide +kernel) rfl
theorem e223_32 {ls : zL} {st : List Value} {w : zW} {x y : Int32} : Rv 223 32 ls (.int y :: .int x :: st) w = Rv 223 33 ls (.int (x * y) :: st) w := R_next Q223 (by decide +kernel) rfl
theorem e223_33 {ls : zL} {st : List Value} {w : zW} : Rv 223 33 ls st w = ldA ls 0 fun x => Rv 223 34 ls (x :: st) w := R_ldA Q223 (by decide +kernel) rfl
theorem e223_34 {ls : zL} {st : List Value} {w : zW} {a : Nat} : Rv 223 34 ls (.ref a :: st) w = gF w a 6 5 fun v => Rv 223 37 ls (v :: st) w := R_gF (z := 1075) Q223 (by decide +kernel) rfl
theorem e223_37 {ls : zL} {st : List Value} {w : zW} : Rv 223 37 ls st w = ldA ls 0 fun x => Rv 223 38 ls (x :: st) w := R_ldA Q223 (by decide +kernel) rfl
theorem e223_38 {ls : zL} {st : List Value} {w : zW} {a : Nat} : Rv 223 38 ls (.ref a :: st) w = gF w a 6 7 fun v => Rv 223 41 ls (v :: st) w := R_gF (z := 1077) Q223 (by decide +kernel) rfl
theorem e223_41 {ls : zL} {st : List Value} {w : zW} {a : Nat} {x : Int32} : Rv 223 41 ls (.int x :: .ref a :: st) w = gI w a 2 9 x fun v => Rv 223 42 ls (.int v :: st) w := R_bald Q223 (by decide +kernel)
theorem e223_42 {ls : zL} {st : List Value} {w : zW} {x y : Int32} : Rv 223 42 ls (.int y :: .int x :: st) w = Rv 223 43 ls (.int (x + y) :: st) w := R_next Q223 (by decide +kernel) rfl
theorem e223_43 {ls : zL} {st : List Value} {w : zW} : Rv 223 43 ls st w = Rv 223 45 ls (.int 96 :: st) w := R_con Q223 (by decide +kernel) rfl (by decide)
theorem e223_45 {ls : zL} {st : List Value} {w : zW} {x y : Int32} : Rv 223 45 ls (.int y :: .int x :: st) w = Rv 223 46 ls (.int (x - y) :: st) w := R_next Q223 (by decide +kernel) rfl
theorem e223_46 {ls : zL} {st : List Value} {w : zW} : Rv 223 46 ls st w = Rv 223 50 ls st w := R_go Q223 (by decide +kernel) rfl rfl
theorem e223_49 {ls : zL} {st : List Value} {w : zW} : Rv 223 49 ls st w = Rv 223 50 ls (.int 0 :: st) w := R_con Q223 (by decide +kernel) rfl (by decide)
theorem e223_50 {ls : zL} {st : List Value} {w : zW} {x : Int32} : Rv 223 50 ls (.int x :: st) w = lst ls 2 (some (.int x)) fun l => Rv 223 51 l st w := R_st Q223 (by decide +kernel) rfl
theorem e223_51 {ls : zL} {st : List Value} {w : zW} : Rv 223 51 ls st w = ldA ls 0 fun x => Rv 223 52 ls (x :: st) w := R_ldA Q223 (by decide +kernel) rfl
theorem e223_52 {ls : zL} {st : List Value} {w : zW} {x : Nat} : Rv 223 52 ls (.ref x :: st) w = Rv 223 53 ls (.ref x :: .ref x :: st) w := R_next Q223 (by decide +kernel) rfl
theorem e223_53 {ls : zL} {st : List Value} {w : zW} {a : Nat} : Rv 223 53 ls (.ref a :: st) w = gF w a 6 7 fun v => Rv 223 56 ls (v :: st) w := R_gF (z := 1077) Q223 (by decide +kernel) rfl
theorem e223_56 {ls : zL} {st : List Value} {w : zW} : Rv 223 56 ls st w = Rv 223 57 ls (.int 1 :: st) w := R_con Q223 (by decide +kernel) rfl (by decide)
theorem e223_57 {ls : zL} {st : List Value} {w : zW} {x y : Int32} : Rv 223 57 ls (.int y :: .int x :: st) w = Rv 223 58 ls (.int (x + y) :: st) w := R_next Q223 (by decide +kernel) rfl
theorem e223_58 {ls : zL} {st : List Value} {w : zW} {x : Int32} {a : Nat} : Rv 223 58 ls (.int x :: .ref a :: st) w = pF w a 6 7 (.int x) fun w' => Rv 223 61 ls st w' := R_pF (z := 1077) Q223 (by decide +kernel) rfl ⟨by decide, rfl, Or.inl rfl⟩
theorem e223_61 {ls : zL} {st : List Value} {w : zW} : Rv 223 61 ls st w = Rv 223 7 ls st w := R_go Q223 (by decide +kernel) rfl rfl
theorem e223_64 {ls : zL} {st : List Value} {w : zW} : Rv 223 64 ls st w = ldA ls 0 fun x => Rv 223 65 ls (x :: st) w := R_ldA Q223 (by decide +kernel) rfl
theorem e223_65 {ls : zL} {st : List Value} {w : zW} : Rv 223 65 ls st w = ldA ls 0 fun x => Rv 223 66 ls (x :: st) w := R_ldA Q223 (by decide +kernel) rfl
theorem e223_66 {ls : zL} {st : List Value} {w : zW} {a : Nat} : Rv 223 66 ls (.ref a :: st) w = gF w a 6 7 fun v => Rv 223 69 ls (v :: st) w := R_gF (z := 1077) Q223 (by decide +kernel) rfl
theorem e223_69 {ls : zL} {st : List Value} {w : zW} : Rv 223 69 ls st w = ldI ls 1 fun x => Rv 223 70 ls (.int x :: st) w := R_ldI Q223 (by decide +kernel) rfl
theorem e223_70 {ls : zL} {st : List Value} {w : zW} {x y : Int32} : Rv 223 70 ls (.int y :: .int x :: st) w = Rv 223 71 ls (.int (x - y) :: st) w := R_next Q223 (by decide +kernel) rfl
theorem e223_71 {ls : zL} {st : List Value} {w : zW} : Rv 223 71 ls st w = Rv 223 73 ls (.int 6 :: st) w := R_con Q223 (by decide +kernel) rfl (by decide)
theorem e223_73 {ls : zL} {st : List Value} {w : zW} {x y : Int32} : Rv 223 73 ls (.int y :: .int x :: st) w = if y < x then Rv 223 76 ls st w else Rv 223 80 ls st w := R_file Q223 (by decide +kernel) rfl rfl
theorem e223_76 {ls : zL} {st : List Value} {w : zW} : Rv 223 76 ls st w = Rv 223 77 ls (.int 0 :: st) w := R_con Q223 (by decide +kernel) rfl (by decide)
theorem e223_77 {ls : zL} {st : List Value} {w : zW} : Rv 223 77 ls st w = Rv 223 81 ls st w := R_go Q223 (by decide +kernel) rfl rfl
theorem e223_80 {ls : zL} {st : List Value} {w : zW} : Rv 223 80 ls st w = ldI ls 2 fun x => Rv 223 81 ls (.int x :: st) w := R_ldI Q223 (by decide +kernel) rfl
theorem e223_81 {ls : zL} {w : zW} {n1 : Int32} {a2 : Nat} : Rv 223 81 ls [.int n1, .ref a2] w = cal (Rv 220 0 [some (.int n1)] [] w) (fun v w' => Rv 223 84 ls (vts v [.ref a2]) w') (xnone) := R_calS (z := 1443) (kd := 1) (n := 1) Q223 (by decide +kernel) rfl (Or.inl rfl) (Nat.le_of_ble_eq_true rfl) rfl Q220 rfl rfl rfl
theorem e223_84 {ls : zL} {st : List Value} {w : zW} {x : Int32} {a : Nat} : Rv 223 84 ls (.int x :: .ref a :: st) w = pF w a 6 10 (.int x) fun w' => Rv 223 87 ls st w' := R_pF (z := 1080) Q223 (by decide +kernel) rfl ⟨by decide, rfl, Or.inl rfl⟩
theorem e223_87 {ls : zL} {st : List Value} {w : zW} : Rv 223 87 ls st w = ldA ls 0 fun x => Rv 223 88 ls (x :: st) w := R_ldA Q223 (by decide +kernel) rfl
theorem e223_88 {ls : zL} {st : List Value} {w : zW} : Rv 223 88 ls st w = ldA ls 0 fun x => Rv 223 89 ls (x :: st) w := R_ldA Q223 (by decide +kernel) rfl
theorem e223_89 {ls : zL} {st : List Value} {w : zW} {a : Nat} : Rv 223 89 ls (.ref a :: st) w = gF w a 6 10 fun v => Rv 223 92 ls (v :: st) w := R_gF (z := 1080) Q223 (by decide +kernel) rfl
theorem e223_92 {ls : zL} {st : List Value} {w : zW} : Rv 223 92 ls st w = Rv 223 93 ls (.int (-1) :: st) w := R_con Q223 (by decide +kernel) rfl (by decide)
theorem e223_93 {ls : zL} {st : List Value} {w : zW} {x y : Int32} : Rv 223 93 ls (.int y :: .int x :: st) w = if x = y then Rv 223 96 ls st w else Rv 223 100 ls st w := R_fine Q223 (by decide +kernel) rfl rfl
theorem e223_96 {ls : zL} {st : List Value} {w : zW} : Rv 223 96 ls st w = ldI ls 1 fun x => Rv 223 97 ls (.int x :: st) w := R_ldI Q223 (by decide +kernel) rfl
theorem e223_97 {ls : zL} {st : List Value} {w : zW} : Rv 223 97 ls st w = Rv 223 104 ls st w := R_go Q223 (by decide +kernel) rfl rfl
theorem e223_100 {ls : zL} {st : List Value} {w : zW} : Rv 223 100 ls st w = ldA ls 0 fun x => Rv 223 101 ls (x :: st) w := R_ldA Q223 (by decide +kernel) rfl
theorem e223_101 {ls : zL} {st : List Value} {w : zW} {a : Nat} : Rv 223 101 ls (.ref a :: st) w = gF w a 6 8 fun v => Rv 223 104 ls (v :: st) w := R_gF (z := 1078) Q223 (by decide +kernel) rfl
theorem e223_104 {ls : zL} {st : List Value} {w : zW} {x : Int32} {a : Nat} : Rv 223 104 ls (.int x :: .ref a :: st) w = pF w a 6 8 (.int x) fun w' => Rv 223 107 ls st w' := R_pF (z := 1078) Q223 (by decide +kernel) rfl ⟨by decide, rfl, Or.inl rfl⟩
theorem e223_107 {ls : zL} {w : zW} : Rv 223 107 ls [] w = some (.inl none, w) := R_retV Q223 (by decide +kernel) rfl
/-! MasterPinsModel.readNumber -/
theorem e224_0 {ls : zL} {st : List Value} {w : zW} : Rv 224 0 ls st w = ldA ls 0 fun x => Rv 224 1 ls (x :: st) w := R_ldA Q224 (by decide +kernel) rfl
theorem e224_1 {ls : zL} {st : List Value} {w : zW} : Rv 224 1 ls st w = ldA ls 0 fun x => Rv 224 2 ls (x :: st) w := R_ldA Q224 (by decide +kernel) rfl
theorem e224_2 {ls : zL} {st : List Value} {w : zW} : Rv 224 2 ls st w = Rv 224 4 ls (.int 32 :: st) w := R_con Q224 (by decide +kernel) rfl (by decide)
theorem e224_4 {ls : zL} {st : List Value} {w : zW} : Rv 224 4 ls st w = Rv 224 6 ls (.int 32 :: st) w := R_con Q224 (by decide +kernel) rfl (by decide)
theorem e224_6 {ls : zL} {w : zW} {n1 : Int32} {n2 : Int32} {a0 : Nat} {a3 : Nat} : Rv 224 6 ls [.int n1, .int n2, .ref a0, .ref a3] w = hO w a0 6 (cal (Rv 218 0 [some (.ref a0), some (.int n2), some (.int n1)] [] w) (fun v w' => Rv 224 9 ls (vts v [.ref a3]) w') (xnone)) := R_calV (z := 1427) (r := [.ref a3]) Q224 (by decide +kernel) rfl rfl Q218 rfl rfl rfl
theorem e224_9 {ls : zL} {w : zW} {n1 : Int32} {a0 : Nat} : Rv 224 9 ls [.int n1, .ref a0] w = hO w a0 6 (cal (Rv 222 0 [some (.ref a0), some (.int n1)] [] w) (fun v w' => Rv 224 12 ls (vts v []) w') (xnone)) := R_calV (z := 1435) (r := []) Q224 (by decide +kernel) rfl rfl Q222 rfl rfl rfl
theorem e224_12 {ls : zL} {st : List Value} {w : zW} {x : Int32} : Rv 224 12 ls (.int x :: st) w = if x = 0 then Rv 224 15 ls st w else Rv 224 17 ls st w := R_f0ne Q224 (by decide +kernel) rfl rfl
theorem e224_15 {ls : zL} {st : List Value} {w : zW} : Rv 224 15 ls st w = Rv 224 16 ls (.int 0 :: st) w := R_con Q224 (by decide +kernel) rfl (by decide)
theorem e224_16 {ls : zL} {w : zW} {x : Int32} : Rv 224 16 ls [.int x] w = some (.inl (some (.int x)), w) := R_retI Q224 (by decide +kernel) rfl
theorem e224_17 {ls : zL} {st : List Value} {w : zW} : Rv 224 17 ls st w = ldA ls 0 fun x => Rv 224 18 ls (x :: st) w := R_ldA Q224 (by decide +kernel) rfl
theorem e224_18 {ls : zL} {w : zW} {a0 : Nat} : Rv 224 18 ls [.ref a0] w = hO w a0 6 (cal (Rv 219 0 [some (.ref a0)] [] w) (fun v w' => Rv 224 21 ls (vts v []) w') (xnone)) := R_calV (z := 1423) (r := []) Q224 (by decide +kernel) rfl rfl Q219 rfl rfl rfl
theorem e224_21 {ls : zL} {st : List Value} {w : zW} : Rv 224 21 ls st w = ldA ls 0 fun x => Rv 224 22 ls (x :: st) w := R_ldA Q224 (by decide +kernel) rfl
theorem e224_22 {ls : zL} {st : List Value} {w : zW} : Rv 224 22 ls st w = ldA ls 0 fun x => Rv 224 23 ls (x :: st) w := R_ldA Q224 (by decide +kernel) rfl
theorem e224_23 {ls : zL} {st : List Value} {w : zW} : Rv 224 23 ls st w = Rv 224 25 ls (.int 48 :: st) w := R_con Q224 (by decide +kernel) rfl (by decide)
theorem e224_25 {ls : zL} {st : List Value} {w : zW} : Rv 224 25 ls st w = Rv 224 27 ls (.int 57 :: st) w := R_con Q224 (by decide +kernel) rfl (by decide)
theorem e224_27 {ls : zL} {w : zW} {n1 : Int32} {n2 : Int32} {a0 : Nat} {a3 : Nat} : Rv 224 27 ls [.int n1, .int n2, .ref a0, .ref a3] w = hO w a0 6 (cal (Rv 218 0 [some (.ref a0), some (.int n2), some (.int n1)] [] w) (fun v w' => Rv 224 30 ls (vts v [.ref a3]) w') (xnone)) := R_calV (z := 1427) (r := [.ref a3]) Q224 (by decide +kernel) rfl rfl Q218 rfl rfl rfl
theorem e224_30 {ls : zL} {w : zW} {n1 : Int32} {a0 : Nat} : Rv 224 30 ls [.int n1, .ref a0] w = hO w a0 6 (cal (Rv 222 0 [some (.ref a0), some (.int n1)] [] w) (fun v w' => Rv 224 33 ls (vts v []) w') (xnone)) := R_calV (z := 1435) (r := []) Q224 (by decide +kernel) rfl rfl Q222 rfl rfl rfl
theorem e224_33 {ls : zL} {st : List Value} {w : zW} {x : Int32} : Rv 224 33 ls (.int x :: st) w = if x = 0 then Rv 224 36 ls st w else Rv 224 38 ls st w := R_f0ne Q224 (by decide +kernel) rfl rfl
theorem e224_36 {ls : zL} {st : List Value} {w : zW} : Rv 224 36 ls st w = Rv 224 37 ls (.int 0 :: st) w := R_con Q224 (by decide +kernel) rfl (by decide)
theorem e224_37 {ls : zL} {w : zW} {x : Int32} : Rv 224 37 ls [.int x] w = some (.inl (some (.int x)), w) := R_retI Q224 (by decide +kernel) rfl
theorem e224_38 {ls : zL} {st : List Value} {w : zW} : Rv 224 38 ls st w = Rv 224 39 ls (.int 0 :: st) w := R_con Q224 (by decide +kernel) rfl (by decide)
theorem e224_39 {ls : zL} {st : List Value} {w : zW} {x : Int32} : Rv 224 39 ls (.int x :: st) w = lst ls 1 (some (.int x)) fun l => Rv 224 40 l st w := R_st Q224 (by decide +kernel) rfl
theorem e224_40 {ls : zL} {st : List Value} {w : zW} : Rv 224 40 ls st w = Rv 224 41 ls (.int 0 :: st) w := R_con Q224 (by decide +kernel) rfl (by decide)
theorem e224_41 {ls : zL} {st : List Value} {w : zW} {x : Int32} : Rv 224 41 ls (.int x :: st) w = lst ls 2 (some (.int x)) fun l => Rv 224 42 l st w := R_st Q224 (by decide +kernel) rfl
theorem h224_42 {ls : zL} {st : List Value} {w : zW} : Rv 224 42 ls st w = ldI ls 2 fun x => Rv 224 43 ls (.int x :: st) w := R_ldI Q224 (by decide +kernel) rfl
theorem e224_43 {ls : zL} {st : List Value} {w : zW} : Rv 224 43 ls st w = Rv 224 44 ls (.int 4 :: st) w := R_con Q224 (by decide +kernel) rfl (by decide)
theorem e224_44 {ls : zL} {st : List Value} {w : zW} {x y : Int32} : Rv 224 44 ls (.int y :: .int x :: st) w = if x < y then Rv 224 47 ls st w else Rv 224 92 ls st w := R_fige Q224 (by decide +kernel) rfl rfl
theorem e224_47 {ls : zL} {st : List Value} {w : zW} : Rv 224 47 ls st w = ldA ls 0 fun x => Rv 224 48 ls (x :: st) w := R_ldA Q224 (by decide +kernel) rfl
theorem e224_48 {ls : zL} {st : List Value} {w : zW} : Rv 224 48 ls st w = Rv 224 50 ls (.int 48 :: st) w := R_con Q224 (by decide +kernel) rfl (by decide)
theorem e224_50 {ls : zL} {st : List Value} {w : zW} : Rv 224 50 ls st w = Rv 224 52 ls (.int 57 :: st) w := R_con Q224 (by decide +kernel) rfl (by decide)
theorem e224_52 {ls : zL} {w : zW} {n1 : Int32} {n2 : Int32} {a0 : Nat} : Rv 224 52 ls [.int n1, .int n2, .ref a0] w = hO w a0 6 (cal (Rv 218 0 [some (.ref a0), some (.int n2), some (.int n1)] [] w) (fun v w' => Rv 224 55 ls (vts v []) w') (xnone)) := R_calV (z := 1427) (r := []) Q224 (by decide +kernel) rfl rfl Q218 rfl rfl rfl
theorem e224_55 {ls : zL} {st : List Value} {w : zW} {x : Int32} : Rv 224 55 ls (.int x :: st) w = if x = 0 then Rv 224 92 ls st w else Rv 224 58 ls st w := R_f0eq Q224 (by decide +kernel) rfl rfl
theorem e224_58 {ls : zL} {st : List Value} {w : zW} : Rv 224 58 ls st w = Rv 224 60 ls (.int 10 :: st) w := R_con Q224 (by decide +kernel) rfl (by decide)
theorem e224_60 {ls : zL} {st : List Value} {w : zW} : Rv 224 60 ls st w = ldI ls 1 fun x => Rv 224 61 ls (.int x :: st) w := R_ldI Q224 (by decide +kernel) rfl
theorem e224_61 {ls : zL} {st : List Value} {w : zW} {x y : Int32} : Rv 224 61 ls (.int y :: .int x :: st) w = Rv 224 62 ls (.int (x * y) :: st) w := R_next Q224 (by decide +kernel) rfl
theorem e224_62 {ls : zL} {st : List Value} {w : zW} : Rv 224 62 ls st w = ldA ls 0 fun x => Rv 224 63 ls (x :: st) w := R_ldA Q224 (by decide +kernel) rfl
theorem e224_63 {ls : zL} {st : List Value} {w : zW} {a : Nat} : Rv 224 63 ls (.ref a :: st) w = gF w a 6 5 fun v => Rv 224 66 ls (v :: st) w := R_gF (z := 1075) Q224 (by decide +kernel) rfl
theorem e224_66 {ls : zL} {st : List Value} {w : zW} : Rv 224 66 ls st w = ldA ls 0 fun x => Rv 224 67 ls (x :: st) w := R_ldA Q224 (by decide +kernel) rfl
theorem e224_67 {ls : zL} {st : List Value} {w : zW} {a : Nat} : Rv 224 67 ls (.ref a :: st) w = gF w a 6 7 fun v => Rv 224 70 ls (v :: st) w := R_gF (z := 1077) Q224 (by decide +kernel) rfl
theorem e224_70 {ls : zL} {st : List Value} {w : zW} {a : Nat} {x : Int32} : Rv 224 70 ls (.int x :: .ref a :: st) w = gI w a 2 9 x fun v => Rv 224 71 ls (.int v :: st) w := R_bald Q224 (by decide +kernel)
theorem e224_71 {ls : zL} {st : List Value} {w : zW} {x y : Int32} : Rv 224 71 ls (.int y :: .int x :: st) w = Rv 224 72 ls (.int (x + y) :: st) w := R_next Q224 (by decide +kernel) rfl
theorem e224_72 {ls : zL} {st : List Value} {w : zW} : Rv 224 72 ls st w = Rv 224 74 ls (.int 48 :: st) w := R_con Q224 (by decide +kernel) rfl (by decide)
theorem e224_74 {ls : zL} {st : List Value} {w : zW} {x y : Int32} : Rv 224 74 ls (.int y :: .int x :: st) w = Rv 224 75 ls (.int (x - y) :: st) w := R_next Q224 (by decide +kernel) rfl
theorem e224_75 {ls : zL} {st : List Value} {w : zW} {x : Int32} : Rv 224 75 ls (.int x :: st) w = lst ls 1 (some (.int x)) fun l => Rv 224 76 l st w := R_st Q224 (by decide +kernel) rfl
theorem e224_76 {ls : zL} {st : List Value} {w : zW} : Rv 224 76 ls st w = ldA ls 0 fun x => Rv 224 77 ls (x :: st) w := R_ldA Q224 (by decide +kernel) rfl
theorem e224_77 {ls : zL} {st : List Value} {w : zW} {x : Nat} : Rv 224 77 ls (.ref x :: st) w = Rv 224 78 ls (.ref x :: .ref x :: st) w := R_next Q224 (by decide +kernel) rfl
theorem e224_78 {ls : zL} {st : List Value} {w : zW} {a : Nat} : Rv 224 78 ls (.ref a :: st) w = gF w a 6 7 fun v => Rv 224 81 ls (v :: st) w := R_gF (z := 1077) Q224 (by decide +kernel) rfl
theorem e224_81 {ls : zL} {st : List Value} {w : zW} : Rv 224 81 ls st w = Rv 224 82 ls (.int 1 :: st) w := R_con Q224 (by decide +kernel) rfl (by decide)
theorem e224_82 {ls : zL} {st : List Value} {w : zW} {x y : Int32} : Rv 224 82 ls (.int y :: .int x :: st) w = Rv 224 83 ls (.int (x + y) :: st) w := R_next Q224 (by decide +kernel) rfl
theorem e224_83 {ls : zL} {st : List Value} {w : zW} {x : Int32} {a : Nat} : Rv 224 83 ls (.int x :: .ref a :: st) w = pF w a 6 7 (.int x) fun w' => Rv 224 86 ls st w' := R_pF (z := 1077) Q224 (by decide +kernel) rfl ⟨by decide, rfl, Or.inl rfl⟩
theorem e224_86 {ls : zL} {st : List Value} {w : zW} : Rv 224 86 ls st w = ldI ls 2 fun x => lst ls 2 (some (.int (x + 1))) fun l => Rv 224 89 l st w := R_iinc Q224 (by decide +kernel) (by decide)
theorem e224_89 {ls : zL} {st : List Value} {w : zW} : Rv 224 89 ls st w = Rv 224 42 ls st w := R_go Q224 (by decide +kernel) rfl rfl
theorem e224_92 {ls : zL} {st : List Value} {w : zW} : Rv 224 92 ls st w = ldA ls 0 fun x => Rv 224 93 ls (x :: st) w := R_ldA Q224 (by decide +kernel) rfl
theorem e224_93 {ls : zL} {st : List Value} {w : zW} : Rv 224 93 ls st w = ldA ls 0 fun x => Rv 224 94 ls (x :: st) w := R_ldA Q224 (by decide +kernel) rfl
theorem e224_94 {ls : zL} {st : List Value} {w : zW} : Rv 224 94 ls st w = Rv 224 96 ls (.int 48 :: st) w := R_con Q224 (by decide +kernel) rfl (by decide)
theorem e224_96 {ls : zL} {st : List Value} {w : zW} : Rv 224 96 ls st w = Rv 224 98 ls (.int 57 :: st) w := R_con Q224 (by decide +kernel) rfl (by decide)
theorem e224_98 {ls : zL} {w : zW} {n1 : Int32} {n2 : Int32} {a0 : Nat} {a3 : Nat} : Rv 224 98 ls [.int n1, .int n2, .ref a0, .ref a3] w = hO w a0 6 (cal (Rv 218 0 [some (.ref a0), some (.int n2), some (.int n1)] [] w) (fun v w' => Rv 224 101 ls (vts v [.ref a3]) w') (xnone)) := R_calV (z := 1427) (r := [.ref a3]) Q224 (by decide +kernel) rfl rfl Q218 rfl rfl rfl
theorem e224_101 {ls : zL} {st : List Value} {w : zW} {x : Int32} : Rv 224 101 ls (.int x :: st) w = if x = 0 then Rv 224 104 ls st w else Rv 224 108 ls st w := R_f0ne Q224 (by decide +kernel) rfl rfl
theorem e224_104 {ls : zL} {st : List Value} {w : zW} : Rv 224 104 ls st w = Rv 224 105 ls (.int 1 :: st) w := R_con Q224 (by decide +kernel) rfl (by decide)
theorem e224_105 {ls : zL} {st : List Value} {w : zW} : Rv 224 105 ls st w = Rv 224 109 ls st w := R_go Q224 (by decide +kernel) rfl rfl
theorem e224_108 {ls : zL} {st : List Value} {w : zW} : Rv 224 108 ls st w = Rv 224 109 ls (.int 0 :: st) w := R_con Q224 (by decide +kernel) rfl (by decide)
theorem e224_109 {ls : zL} {w : zW} {n1 : Int32} {a0 : Nat} : Rv 224 109 ls [.int n1, .ref a0] w = hO w a0 6 (cal (Rv 222 0 [some (.ref a0), some (.int n1)] [] w) (fun v w' => Rv 224 112 ls (vts v []) w') (xnone)) := R_calV (z := 1435) (r := []) Q224 (by decide +kernel) rfl rfl Q222 rfl rfl rfl
theorem e224_112 {ls : zL} {st : List Value} {w : zW} {x : Int32} : Rv 224 112 ls (.int x :: st) w = lst ls 2 (some (.int x)) fun l => Rv 224 113 l st w := R_st Q224 (by decide +kernel) rfl
theorem e224_113 {ls : zL} {st : List Value} {w : zW} : Rv 224 113 ls st w = ldI ls 1 fun x => Rv 224 114 ls (.int x :: st) w := R_ldI Q224 (by decide +kernel) rfl
theorem e224_114 {ls : zL} {w : zW} {x : Int32} : Rv 224 114 ls [.int x] w = some (.inl (some (.int x)), w) := R_retI Q224 (by decide +kernel) rfl
/-! MasterPinsModel.command -/
theorem e225_0 {ls : zL} {st : List Value} {w : zW} : Rv 225 0 ls st w = ldA ls 0 fun x => Rv 225 1 ls (x :: st) w := R_ldA Q225 (by decide +kernel) rfl
theorem e225_1 {ls : zL} {st : List Value} {w : zW} : Rv 225 1 ls st w = ldA ls 0 fun x => Rv 225 2 ls (x :: st) w := R_ldA Q225 (by decide +kernel) rfl
theorem e225_2 {ls : zL} {st : List Value} {w : zW} : Rv 225 2 ls st w = Rv 225 4 ls (.int 97 :: st) w := R_con Q225 (by decide +kernel) rfl (by decide)
theorem e225_4 {ls : zL} {st : List Value} {w : zW} : Rv 225 4 ls st w = Rv 225 6 ls (.int 122 :: st) w := R_con Q225 (by decide +kernel) rfl (by decide)
theorem e225_6 {ls : zL} {w : zW} {n1 : Int32} {n2 : Int32} {a0 : Nat} {a3 : Nat} : Rv 225 6 ls [.int n1, .int n2, .ref a0, .ref a3] w = hO w a0 6 (cal (Rv 218 0 [some (.ref a0), some (.int n2), some (.int n1)] [] w) (fun v w' => Rv 225 9 ls (vts v [.ref a3]) w') (xnone)) := R_calV (z := 1427) (r := [.ref a3]) Q225 (by decide +kernel) rfl rfl Q218 rfl rfl rfl
theorem e225_9 {ls : zL} {w : zW} {n1 : Int32} {a0 : Nat} : Rv 225 9 ls [.int n1, .ref a0] w = hO w a0 6 (cal (Rv 222 0 [some (.ref a0), some (.int n1)] [] w) (fun v w' => Rv 225 12 ls (vts v []) w') (xnone)) := R_calV (z := 1435) (r := []) Q225 (by decide +kernel) rfl rfl Q222 rfl rfl rfl
theorem e225_12 {ls : zL} {st : List Value} {w : zW} {x : Int32} : Rv 225 12 ls (.int x :: st) w = if x = 0 then Rv 225 15 ls st w else Rv 225 17 ls st w := R_f0ne Q225 (by decide +kernel) rfl rfl
theorem e225_15 {ls : zL} {st : List Value} {w : zW} : Rv 225 15 ls st w = Rv 225 16 ls (.int 0 :: st) w := R_con Q225 (by decide +kernel) rfl (by decide)
theorem e225_16 {ls : zL} {w : zW} {x : Int32} : Rv 225 16 ls [.int x] w = if x = 0 ∨ x = 1 then some (.inl (some (.int x)), w) else none := R_retZ Q225 (by decide +kernel) rfl
theorem e225_17 {ls : zL} {st : List Value} {w : zW} : Rv 225 17 ls st w = ldA ls 0 fun x => Rv 225 18 ls (x :: st) w := R_ldA Q225 (by decide +kernel) rfl
theorem e225_18 {ls : zL} {w : zW} {a0 : Nat} : Rv 225 18 ls [.ref a0] w = hO w a0 6 (cal (Rv 223 0 [some (.ref a0), none, none] [] w) (fun v w' => Rv 225 21 ls (vts v []) w') (xnone)) := R_calV (z := 1439) (r := []) Q225 (by decide +kernel) rfl rfl Q223 rfl rfl rfl
theorem e225_21 {ls : zL} {st : List Value} {w : zW} : Rv 225 21 ls st w = Rv 225 22 ls (.int 0 :: st) w := R_con Q225 (by decide +kernel) rfl (by decide)
theorem e225_22 {ls : zL} {st : List Value} {w : zW} {x : Int32} : Rv 225 22 ls (.int x :: st) w = lst ls 2 (some (.int x)) fun l => Rv 225 23 l st w := R_st Q225 (by decide +kernel) rfl
theorem h225_23 {ls : zL} {st : List Value} {w : zW} : Rv 225 23 ls st w = ldA ls 0 fun x => Rv 225 24 ls (x :: st) w := R_ldA Q225 (by decide +kernel) rfl
theorem e225_24 {ls : zL} {st : List Value} {w : zW} {a : Nat} : Rv 225 24 ls (.ref a :: st) w = gF w a 6 8 fun v => Rv 225 27 ls (v :: st) w := R_gF (z := 1078) Q225 (by decide +kernel) rfl
theorem e225_27 {ls : zL} {st : List Value} {w : zW} : Rv 225 27 ls st w = Rv 225 28 ls (.int (-1) :: st) w := R_con Q225 (by decide +kernel) rfl (by decide)
theorem e225_28 {ls : zL} {st : List Value} {w : zW} {x y : Int32} : Rv 225 28 ls (.int y :: .int x :: st) w = if x = y then Rv 225 31 ls st w else Rv 225 58 ls st w := R_fine Q225 (by decide +kernel) rfl rfl
theorem e225_31 {ls : zL} {st : List Value} {w : zW} : Rv 225 31 ls st w = ldI ls 2 fun x => Rv 225 32 ls (.int x :: st) w := R_ldI Q225 (by decide +kernel) rfl
theorem e225_32 {ls : zL} {st : List Value} {w : zW} : Rv 225 32 ls st w = ldA ls 0 fun x => Rv 225 33 ls (x :: st) w := R_ldA Q225 (by decide +kernel) rfl
theorem e225_33 {ls : zL} {st : List Value} {w : zW} {a : Nat} : Rv 225 33 ls (.ref a :: st) w = gF w a 6 10 fun v => Rv 225 36 ls (v :: st) w := R_gF (z := 1080) Q225 (by decide +kernel) rfl
theorem e225_36 {ls : zL} {w : zW} {n1 : Int32} {n2 : Int32} : Rv 225 36 ls [.int n1, .int n2] w = cal (Rv 221 0 [some (.int n1)] [] w) (fun v w' => Rv 225 39 ls (vts v [.int n2]) w') (xnone) := R_calS (z := 1446) (kd := 1) (n := 1) Q225 (by decide +kernel) rfl (Or.inl rfl) (Nat.le_of_ble_eq_true rfl) rfl Q221 rfl rfl rfl
theorem e225_39 {ls : zL} {st : List Value} {w : zW} {x y : Int32} : Rv 225 39 ls (.int y :: .int x :: st) w = if x < y then Rv 225 42 ls st w else Rv 225 58 ls st w := R_fige Q225 (by decide +kernel) rfl rfl
theorem e225_42 {ls : zL} {st : List Value} {w : zW} : Rv 225 42 ls st w = ldA ls 0 fun x => Rv 225 43 ls (x :: st) w := R_ldA Q225 (by decide +kernel) rfl
theorem e225_43 {ls : zL} {st : List Value} {w : zW} {a : Nat} : Rv 225 43 ls (.ref a :: st) w = gF w a 6 11 fun v => Rv 225 46 ls (v :: st) w := R_gF (z := 1081) Q225 (by decide +kernel) rfl
theorem e225_46 {ls : zL} {st : List Value} {w : zW} : Rv 225 46 ls st w = ldI ls 2 fun x => Rv 225 47 ls (.int x :: st) w := R_ldI Q225 (by decide +kernel) rfl
theorem e225_47 {ls : zL} {st : List Value} {w : zW} : Rv 225 47 ls st w = ldA ls 0 fun x => Rv 225 48 ls (x :: st) w := R_ldA Q225 (by decide +kernel) rfl
theorem e225_48 {ls : zL} {w : zW} {a0 : Nat} {n1 : Int32} {a2 : Nat} : Rv 225 48 ls [.ref a0, .int n1, .ref a2] w = hO w a0 6 (cal (Rv 224 0 [some (.ref a0), none, none] [] w) (fun v w' => Rv 225 51 ls (vts v [.int n1, .ref a2]) w') (xnone)) := R_calV (z := 1449) (r := [.int n1, .ref a2]) Q225 (by decide +kernel) rfl rfl Q224 rfl rfl rfl
theorem e225_51 {ls : zL} {st : List Value} {w : zW} {a : Nat} {x y : Int32} : Rv 225 51 ls (.int y :: .int x :: .ref a :: st) w = pI w a 0 x y fun w' => Rv 225 52 ls st w' := R_iast Q225 (by decide +kernel)
theorem e225_52 {ls : zL} {st : List Value} {w : zW} : Rv 225 52 ls st w = ldI ls 2 fun x => lst ls 2 (some (.int (x + 1))) fun l => Rv 225 55 l st w := R_iinc Q225 (by decide +kernel) (by decide)
theorem e225_55 {ls : zL} {st : List Value} {w : zW} : Rv 225 55 ls st w = Rv 225 23 ls st w := R_go Q225 (by decide +kernel) rfl rfl
theorem e225_58 {ls : zL} {st : List Value} {w : zW} : Rv 225 58 ls st w = ldA ls 0 fun x => Rv 225 59 ls (x :: st) w := R_ldA Q225 (by decide +kernel) rfl
theorem e225_59 {ls : zL} {st : List Value} {w : zW} {a : Nat} : Rv 225 59 ls (.ref a :: st) w = gF w a 6 8 fun v => Rv 225 62 ls (v :: st) w := R_gF (z := 1078) Q225 (by decide +kernel) rfl
theorem e225_62 {ls : zL} {st : List Value} {w : zW} : Rv 225 62 ls st w = Rv 225 63 ls (.int (-1) :: st) w := R_con Q225 (by decide +kernel) rfl (by decide)
theorem e225_63 {ls : zL} {st : List Value} {w : zW} {x y : Int32} : Rv 225 63 ls (.int y :: .int x :: st) w = if x = y then Rv 225 66 ls st w else Rv 225 83 ls st w := R_fine Q225 (by decide +kernel) rfl rfl
theorem e225_66 {ls : zL} {st : List Value} {w : zW} : Rv 225 66 ls st w = ldA ls 0 fun x => Rv 225 67 ls (x :: st) w := R_ldA Q225 (by decide +kernel) rfl
theorem e225_67 {ls : zL} {w : zW} {a0 : Nat} : Rv 225 67 ls [.ref a0] w = hO w a0 6 (cal (Rv 219 0 [some (.ref a0)] [] w) (fun v w' => Rv 225 70 ls (vts v []) w') (xnone)) := R_calV (z := 1423) (r := []) Q225 (by decide +kernel) rfl rfl Q219 rfl rfl rfl
theorem e225_70 {ls : zL} {st : List Value} {w : zW} : Rv 225 70 ls st w = ldA ls 0 fun x => Rv 225 71 ls (x :: st) w := R_ldA Q225 (by decide +kernel) rfl
theorem e225_71 {ls : zL} {st : List Value} {w : zW} : Rv 225 71 ls st w = ldA ls 0 fun x => Rv 225 72 ls (x :: st) w := R_ldA Q225 (by decide +kernel) rfl
theorem e225_72 {ls : zL} {st : List Value} {w : zW} : Rv 225 72 ls st w = Rv 225 74 ls (.int 59 :: st) w := R_con Q225 (by decide +kernel) rfl (by decide)
theorem e225_74 {ls : zL} {st : List Value} {w : zW} : Rv 225 74 ls st w = Rv 225 76 ls (.int 59 :: st) w := R_con Q225 (by decide +kernel) rfl (by decide)
theorem e225_76 {ls : zL} {w : zW} {n1 : Int32} {n2 : Int32} {a0 : Nat} {a3 : Nat} : Rv 225 76 ls [.int n1, .int n2, .ref a0, .ref a3] w = hO w a0 6 (cal (Rv 218 0 [some (.ref a0), some (.int n2), some (.int n1)] [] w) (fun v w' => Rv 225 79 ls (vts v [.ref a3]) w') (xnone)) := R_calV (z := 1427) (r := [.ref a3]) Q225 (by decide +kernel) rfl rfl Q218 rfl rfl rfl
theorem e225_79 {ls : zL} {w : zW} {n1 : Int32} {a0 : Nat} : Rv 225 79 ls [.int n1, .ref a0] w = hO w a0 6 (cal (Rv 222 0 [some (.ref a0), some (.int n1)] [] w) (fun v w' => Rv 225 82 ls (vts v []) w') (xnone)) := R_calV (z := 1435) (r := []) Q225 (by decide +kernel) rfl rfl Q222 rfl rfl rfl
theorem e225_82 {ls : zL} {st : List Value} {w : zW} {x : Int32} : Rv 225 82 ls (.int x :: st) w = lst ls 2 (some (.int x)) fun l => Rv 225 83 l st w := R_st Q225 (by decide +kernel) rfl
theorem e225_83 {ls : zL} {st : List Value} {w : zW} : Rv 225 83 ls st w = ldA ls 0 fun x => Rv 225 84 ls (x :: st) w := R_ldA Q225 (by decide +kernel) rfl
theorem e225_84 {ls : zL} {st : List Value} {w : zW} {x : Nat} : Rv 225 84 ls (.ref x :: st) w = Rv 225 85 ls (.ref x :: .ref x :: st) w := R_next Q225 (by decide +kernel) rfl
theorem e225_85 {ls : zL} {st : List Value} {w : zW} {a : Nat} : Rv 225 85 ls (.ref a :: st) w = gF w a 6 7 fun v => Rv 225 88 ls (v :: st) w := R_gF (z := 1077) Q225 (by decide +kernel) rfl
theorem e225_88 {ls : zL} {st : List Value} {w : zW} : Rv 225 88 ls st w = Rv 225 89 ls (.int 1 :: st) w := R_con Q225 (by decide +kernel) rfl (by decide)
theorem e225_89 {ls : zL} {st : List Value} {w : zW} {x y : Int32} : Rv 225 89 ls (.int y :: .int x :: st) w = Rv 225 90 ls (.int (x + y) :: st) w := R_next Q225 (by decide +kernel) rfl
theorem e225_90 {ls : zL} {st : List Value} {w : zW} {x : Int32} {a : Nat} : Rv 225 90 ls (.int x :: .ref a :: st) w = pF w a 6 7 (.int x) fun w' => Rv 225 93 ls st w' := R_pF (z := 1077) Q225 (by decide +kernel) rfl ⟨by decide, rfl, Or.inl rfl⟩
theorem e225_93 {ls : zL} {st : List Value} {w : zW} : Rv 225 93 ls st w = ldA ls 0 fun x => Rv 225 94 ls (x :: st) w := R_ldA Q225 (by decide +kernel) rfl
theorem e225_94 {ls : zL} {st : List Value} {w : zW} {a : Nat} : Rv 225 94 ls (.ref a :: st) w = gF w a 6 8 fun v => Rv 225 97 ls (v :: st) w := R_gF (z := 1078) Q225 (by decide +kernel) rfl
theorem e225_97 {ls : zL} {st : List Value} {w : zW} : Rv 225 97 ls st w = Rv 225 98 ls (.int (-1) :: st) w := R_con Q225 (by decide +kernel) rfl (by decide)
theorem e225_98 {ls : zL} {st : List Value} {w : zW} {x y : Int32} : Rv 225 98 ls (.int y :: .int x :: st) w = if x = y then Rv 225 101 ls st w else Rv 225 116 ls st w := R_fine Q225 (by decide +kernel) rfl rfl
theorem e225_101 {ls : zL} {st : List Value} {w : zW} : Rv 225 101 ls st w = ldI ls 1 fun x => Rv 225 102 ls (.int x :: st) w := R_ldI Q225 (by decide +kernel) rfl
theorem e225_102 {ls : zL} {st : List Value} {w : zW} {x : Int32} : Rv 225 102 ls (.int x :: st) w = if x = 0 then Rv 225 112 ls st w else Rv 225 105 ls st w := R_f0eq Q225 (by decide +kernel) rfl rfl
theorem e225_105 {ls : zL} {st : List Value} {w : zW} : Rv 225 105 ls st w = ldA ls 0 fun x => Rv 225 106 ls (x :: st) w := R_ldA Q225 (by decide +kernel) rfl
theorem e225_106 {ls : zL} {w : zW} {a0 : Nat} : Rv 225 106 ls [.ref a0] w = hO w a0 6 (cal (Rv 226 0 [some (.ref a0), none, none, none] [] w) (fun v w' => Rv 225 109 ls (vts v []) w') (xnone)) := R_calV (z := 1453) (r := []) Q225 (by decide +kernel) rfl rfl Q226 rfl rfl rfl
theorem e225_109 {ls : zL} {st : List Value} {w : zW} {x : Int32} : Rv 225 109 ls (.int x :: st) w = if x = 0 then Rv 225 116 ls st w else Rv 225 112 ls st w := R_f0eq Q225 (by decide +kernel) rfl rfl
theorem e225_112 {ls : zL} {st : List Value} {w : zW} : Rv 225 112 ls st w = Rv 225 113 ls (.int 1 :: st) w := R_con Q225 (by decide +kernel) rfl (by decide)
theorem e225_113 {ls : zL} {st : List Value} {w : zW} : Rv 225 113 ls st w = Rv 225 117 ls st w := R_go Q225 (by decide +kernel) rfl rfl
theorem e225_116 {ls : zL} {st : List Value} {w : zW} : Rv 225 116 ls st w = Rv 225 117 ls (.int 0 :: st) w := R_con Q225 (by decide +kernel) rfl (by decide)
theorem e225_117 {ls : zL} {w : zW} {x : Int32} : Rv 225 117 ls [.int x] w = if x = 0 ∨ x = 1 then some (.inl (some (.int x)), w) else none := R_retZ Q225 (by decide +kernel) rfl
/-! MasterPinsModel.carriesOut -/
theorem e226_0 {ls : zL} {st : List Value} {w : zW} : Rv 226 0 ls st w = ldA ls 0 fun x => Rv 226 1 ls (x :: st) w := R_ldA Q226 (by decide +kernel) rfl
theorem e226_1 {ls : zL} {st : List Value} {w : zW} {a : Nat} : Rv 226 1 ls (.ref a :: st) w = gF w a 6 11 fun v => Rv 226 4 ls (v :: st) w := R_gF (z := 1081) Q226 (by decide +kernel) rfl
theorem e226_4 {ls : zL} {st : List Value} {w : zW} : Rv 226 4 ls st w = Rv 226 5 ls (.int 0 :: st) w := R_con Q226 (by decide +kernel) rfl (by decide)
theorem e226_5 {ls : zL} {st : List Value} {w : zW} {a : Nat} {x : Int32} : Rv 226 5 ls (.int x :: .ref a :: st) w = gI w a 0 8 x fun v => Rv 226 6 ls (.int v :: st) w := R_iald Q226 (by decide +kernel)
theorem e226_6 {ls : zL} {st : List Value} {w : zW} {x : Int32} : Rv 226 6 ls (.int x :: st) w = lst ls 1 (some (.int x)) fun l => Rv 226 7 l st w := R_st Q226 (by decide +kernel) rfl
theorem e226_7 {ls : zL} {st : List Value} {w : zW} : Rv 226 7 ls st w = ldA ls 0 fun x => Rv 226 8 ls (x :: st) w := R_ldA Q226 (by decide +kernel) rfl
theorem e226_8 {ls : zL} {st : List Value} {w : zW} {a : Nat} : Rv 226 8 ls (.ref a :: st) w = gF w a 6 11 fun v => Rv 226 11 ls (v :: st) w := R_gF (z := 1081) Q226 (by decide +kernel) rfl
theorem e226_11 {ls : zL} {st : List Value} {w : zW} : Rv 226 11 ls st w = Rv 226 12 ls (.int 1 :: st) w := R_con Q226 (by decide +kernel) rfl (by decide)
theorem e226_12 {ls : zL} {st : List Value} {w : zW} {a : Nat} {x : Int32} : Rv 226 12 ls (.int x :: .ref a :: st) w = gI w a 0 8 x fun v => Rv 226 13 ls (.int v :: st) w := R_iald Q226 (by decide +kernel)
theorem e226_13 {ls : zL} {st : List Value} {w : zW} {x : Int32} : Rv 226 13 ls (.int x :: st) w = lst ls 2 (some (.int x)) fun l => Rv 226 14 l st w := R_st Q226 (by decide +kernel) rfl
theorem e226_14 {ls : zL} {st : List Value} {w : zW} : Rv 226 14 ls st w = Rv 226 15 ls (.int 0 :: st) w := R_con Q226 (by decide +kernel) rfl (by decide)
theorem e226_15 {ls : zL} {st : List Value} {w : zW} {x : Int32} : Rv 226 15 ls (.int x :: st) w = lst ls 3 (some (.int x)) fun l => Rv 226 16 l st w := R_st Q226 (by decide +kernel) rfl
theorem e226_16 {ls : zL} {st : List Value} {w : zW} : Rv 226 16 ls st w = ldA ls 0 fun x => Rv 226 17 ls (x :: st) w := R_ldA Q226 (by decide +kernel) rfl
theorem e226_17 {ls : zL} {st : List Value} {w : zW} {a : Nat} : Rv 226 17 ls (.ref a :: st) w = gF w a 6 10 fun v => Rv 226 20 ls (v :: st) w := R_gF (z := 1080) Q226 (by decide +kernel) rfl
theorem e226_20 {ls : zL} {st : List Value} {w : zW} {x : Int32} : Rv 226 20 ls (.int x :: st) w = tsw x 0 167 (fun t => Rv 226 t ls st w) [72, 83, 94, 104, 115, 125, 135, 145, 156] := R_tsw Q226 (by decide +kernel) (by decide +kernel) rfl rfl (by decide +kernel) (by decide +kernel)
theorem e226_72 {ls : zL} {st : List Value} {w : zW} : Rv 226 72 ls st w = ldA ls 0 fun x => Rv 226 73 ls (x :: st) w := R_ldA Q226 (by decide +kernel) rfl
theorem e226_73 {ls : zL} {st : List Value} {w : zW} : Rv 226 73 ls st w = ldI ls 1 fun x => Rv 226 74 ls (.int x :: st) w := R_ldI Q226 (by decide +kernel) rfl
theorem e226_74 {ls : zL} {st : List Value} {w : zW} : Rv 226 74 ls st w = Rv 226 75 ls (.int (-1) :: st) w := R_con Q226 (by decide +kernel) rfl (by decide)
theorem e226_75 {ls : zL} {st : List Value} {w : zW} : Rv 226 75 ls st w = Rv 226 76 ls (.int 0 :: st) w := R_con Q226 (by decide +kernel) rfl (by decide)
theorem e226_76 {ls : zL} {w : zW} {n1 : Int32} {n2 : Int32} {n3 : Int32} {a0 : Nat} : Rv 226 76 ls [.int n1, .int n2, .int n3, .ref a0] w = hO w a0 6 (cal (Rv 178 0 [some (.ref a0), some (.int n3), some (.int n2), some (.int n1), none] [] w) (fun v w' => Rv 226 79 ls (vts v []) w') (xnone)) := R_calV (z := 1142) (r := []) Q226 (by decide +kernel) rfl rfl Q178 rfl rfl rfl
theorem e226_79 {ls : zL} {st : List Value} {w : zW} {x : Int32} : Rv 226 79 ls (.int x :: st) w = lst ls 3 (some (.int x)) fun l => Rv 226 80 l st w := R_st Q226 (by decide +kernel) rfl
theorem e226_80 {ls : zL} {st : List Value} {w : zW} : Rv 226 80 ls st w = Rv 226 173 ls st w := R_go Q226 (by decide +kernel) rfl rfl
theorem e226_83 {ls : zL} {st : List Value} {w : zW} : Rv 226 83 ls st w = ldA ls 0 fun x => Rv 226 84 ls (x :: st) w := R_ldA Q226 (by decide +kernel) rfl
theorem e226_84 {ls : zL} {st : List Value} {w : zW} : Rv 226 84 ls st w = ldI ls 1 fun x => Rv 226 85 ls (.int x :: st) w := R_ldI Q226 (by decide +kernel) rfl
theorem e226_85 {ls : zL} {st : List Value} {w : zW} : Rv 226 85 ls st w = ldI ls 2 fun x => Rv 226 86 ls (.int x :: st) w := R_ldI Q226 (by decide +kernel) rfl
theorem e226_86 {ls : zL} {st : List Value} {w : zW} : Rv 226 86 ls st w = Rv 226 87 ls (.int 0 :: st) w := R_con Q226 (by decide +kernel) rfl (by decide)
theorem e226_87 {ls : zL} {w : zW} {n1 : Int32} {n2 : Int32} {n3 : Int32} {a0 : Nat} : Rv 226 87 ls [.int n1, .int n2, .int n3, .ref a0] w = hO w a0 6 (cal (Rv 178 0 [some (.ref a0), some (.int n3), some (.int n2), some (.int n1), none] [] w) (fun v w' => Rv 226 90 ls (vts v []) w') (xnone)) := R_calV (z := 1142) (r := []) Q226 (by decide +kernel) rfl rfl Q178 rfl rfl rfl
theorem e226_90 {ls : zL} {st : List Value} {w : zW} {x : Int32} : Rv 226 90 ls (.int x :: st) w = lst ls 3 (some (.int x)) fun l => Rv 226 91 l st w := R_st Q226 (by decide +kernel) rfl
theorem e226_91 {ls : zL} {st : List Value} {w : zW} : Rv 226 91 ls st w = Rv 226 173 ls st w := R_go Q226 (by decide +kernel) rfl rfl
theorem e226_94 {ls : zL} {st : List Value} {w : zW} : Rv 226 94 ls st w = ldA ls 0 fun x => Rv 226 95 ls (x :: st) w := R_ldA Q226 (by decide +kernel) rfl
theorem e226_95 {ls : zL} {st : List Value} {w : zW} : Rv 226 95 ls st w = ldI ls 1 fun x => Rv 226 96 ls (.int x :: st) w := R_ldI Q226 (by decide +kernel) rfl
theorem e226_96 {ls : zL} {st : List Value} {w : zW} : Rv 226 96 ls st w = Rv 226 97 ls (.int 0 :: st) w := R_con Q226 (by decide +kernel) rfl (by decide)
theorem e226_97 {ls : zL} {w : zW} {n1 : Int32} {n2 : Int32} {a0 : Nat} : Rv 226 97 ls [.int n1, .int n2, .ref a0] w = hO w a0 6 (cal (Rv 186 0 [some (.ref a0), some (.int n2), some (.int n1), none, none] [] w) (fun v w' => Rv 226 100 ls (vts v []) w') (xnone)) := R_calV (z := 1223) (r := []) Q226 (by decide +kernel) rfl rfl Q186 rfl rfl rfl
theorem e226_100 {ls : zL} {st : List Value} {w : zW} {x : Int32} : Rv 226 100 ls (.int x :: st) w = lst ls 3 (some (.int x)) fun l => Rv 226 101 l st w := R_st Q226 (by decide +kernel) rfl
theorem e226_101 {ls : zL} {st : List Value} {w : zW} : Rv 226 101 ls st w = Rv 226 173 ls st w := R_go Q226 (by decide +kernel) rfl rfl
theorem e226_104 {ls : zL} {st : List Value} {w : zW} : Rv 226 104 ls st w = ldA ls 0 fun x => Rv 226 105 ls (x :: st) w := R_ldA Q226 (by decide +kernel) rfl
theorem e226_105 {ls : zL} {st : List Value} {w : zW} : Rv 226 105 ls st w = ldI ls 1 fun x => Rv 226 106 ls (.int x :: st) w := R_ldI Q226 (by decide +kernel) rfl
theorem e226_106 {ls : zL} {st : List Value} {w : zW} : Rv 226 106 ls st w = ldI ls 2 fun x => Rv 226 107 ls (.int x :: st) w := R_ldI Q226 (by decide +kernel) rfl
theorem e226_107 {ls : zL} {st : List Value} {w : zW} : Rv 226 107 ls st w = Rv 226 108 ls (.int 0 :: st) w := R_con Q226 (by decide +kernel) rfl (by decide)
theorem e226_108 {ls : zL} {w : zW} {n1 : Int32} {n2 : Int32} {n3 : Int32} {a0 : Nat} : Rv 226 108 ls [.int n1, .int n2, .int n3, .ref a0] w = hO w a0 6 (cal (Rv 188 0 [some (.ref a0), some (.int n3), some (.int n2), some (.int n1), none, none] [] w) (fun v w' => Rv 226 111 ls (vts v []) w') (xnone)) := R_calV (z := 1251) (r := []) Q226 (by decide +kernel) rfl rfl Q188 rfl rfl rfl
theorem e226_111 {ls : zL} {st : List Value} {w : zW} {x : Int32} : Rv 226 111 ls (.int x :: st) w = lst ls 3 (some (.int x)) fun l => Rv 226 112 l st w := R_st Q226 (by decide +kernel) rfl
theorem e226_112 {ls : zL} {st : List Value} {w : zW} : Rv 226 112 ls st w = Rv 226 173 ls st w := R_go Q226 (by decide +kernel) rfl rfl
theorem e226_115 {ls : zL} {st : List Value} {w : zW} : Rv 226 115 ls st w = ldA ls 0 fun x => Rv 226 116 ls (x :: st) w := R_ldA Q226 (by decide +kernel) rfl
theorem e226_116 {ls : zL} {st : List Value} {w : zW} : Rv 226 116 ls st w = ldI ls 1 fun x => Rv 226 117 ls (.int x :: st) w := R_ldI Q226 (by decide +kernel) rfl
theorem e226_117 {ls : zL} {st : List Value} {w : zW} : Rv 226 117 ls st w = Rv 226 118 ls (.int 0 :: st) w := R_con Q226 (by decide +kernel) rfl (by decide)
theorem e226_118 {ls : zL} {w : zW} {n1 : Int32} {n2 : Int32} {a0 : Nat} : Rv 226 118 ls [.int n1, .int n2, .ref a0] w = hO w a0 6 (cal (Rv 190 0 [some (.ref a0), some (.int n2), some (.int n1)] [] w) (fun v w' => Rv 226 121 ls (vts v []) w') (xnone)) := R_calV (z := 1267) (r := []) Q226 (by decide +kernel) rfl rfl Q190 rfl rfl rfl
theorem e226_121 {ls : zL} {st : List Value} {w : zW} {x : Int32} : Rv 226 121 ls (.int x :: st) w = lst ls 3 (some (.int x)) fun l => Rv 226 122 l st w := R_st Q226 (by decide +kernel) rfl
theorem e226_122 {ls : zL} {st : List Value} {w : zW} : Rv 226 122 ls st w = Rv 226 173 ls st w := R_go Q226 (by decide +kernel) rfl rfl
theorem e226_125 {ls : zL} {st : List Value} {w : zW} : Rv 226 125 ls st w = ldA ls 0 fun x => Rv 226 126 ls (x :: st) w := R_ldA Q226 (by decide +kernel) rfl
theorem e226_126 {ls : zL} {st : List Value} {w : zW} : Rv 226 126 ls st w = ldI ls 1 fun x => Rv 226 127 ls (.int x :: st) w := R_ldI Q226 (by decide +kernel) rfl
theorem e226_127 {ls : zL} {st : List Value} {w : zW} : Rv 226 127 ls st w = Rv 226 128 ls (.int 0 :: st) w := R_con Q226 (by decide +kernel) rfl (by decide)
theorem e226_128 {ls : zL} {w : zW} {n1 : Int32} {n2 : Int32} {a0 : Nat} : Rv 226 128 ls [.int n1, .int n2, .ref a0] w = hO w a0 6 (cal (Rv 182 0 [some (.ref a0), some (.int n2), some (.int n1)] [] w) (fun v w' => Rv 226 131 ls (vts v []) w') (xnone)) := R_calV (z := 1191) (r := []) Q226 (by decide +kernel) rfl rfl Q182 rfl rfl rfl
theorem e226_131 {ls : zL} {st : List Value} {w : zW} {x : Int32} : Rv 226 131 ls (.int x :: st) w = lst ls 3 (some (.int x)) fun l => Rv 226 132 l st w := R_st Q226 (by decide +kernel) rfl
theorem e226_132 {ls : zL} {st : List Value} {w : zW} : Rv 226 132 ls st w = Rv 226 173 ls st w := R_go Q226 (by decide +kernel) rfl rfl
theorem e226_135 {ls : zL} {st : List Value} {w : zW} : Rv 226 135 ls st w = ldA ls 0 fun x => Rv 226 136 ls (x :: st) w := R_ldA Q226 (by decide +kernel) rfl
theorem e226_136 {ls : zL} {st : List Value} {w : zW} : Rv 226 136 ls st w = ldI ls 1 fun x => Rv 226 137 ls (.int x :: st) w := R_ldI Q226 (by decide +kernel) rfl
theorem e226_137 {ls : zL} {st : List Value} {w : zW} : Rv 226 137 ls st w = Rv 226 138 ls (.int 0 :: st) w := R_con Q226 (by decide +kernel) rfl (by decide)
theorem e226_138 {ls : zL} {w : zW} {n1 : Int32} {n2 : Int32} {a0 : Nat} : Rv 226 138 ls [.int n1, .int n2, .ref a0] w = hO w a0 6 (cal (Rv 184 0 [some (.ref a0), some (.int n2), some (.int n1)] [] w) (fun v w' => Rv 226 141 ls (vts v []) w') (xnone)) := R_calV (z := 1211) (r := []) Q226 (by decide +kernel) rfl rfl Q184 rfl rfl rfl
theorem e226_141 {ls : zL} {st : List Value} {w : zW} {x : Int32} : Rv 226 141 ls (.int x :: st) w = lst ls 3 (some (.int x)) fun l => Rv 226 142 l st w := R_st Q226 (by decide +kernel) rfl
theorem e226_142 {ls : zL} {st : List Value} {w : zW} : Rv 226 142 ls st w = Rv 226 173 ls st w := R_go Q226 (by decide +kernel) rfl rfl
theorem e226_145 {ls : zL} {st : List Value} {w : zW} : Rv 226 145 ls st w = ldA ls 0 fun x => Rv 226 146 ls (x :: st) w := R_ldA Q226 (by decide +kernel) rfl
theorem e226_146 {ls : zL} {st : List Value} {w : zW} : Rv 226 146 ls st w = ldI ls 1 fun x => Rv 226 147 ls (.int x :: st) w := R_ldI Q226 (by decide +kernel) rfl
theorem e226_147 {ls : zL} {st : List Value} {w : zW} : Rv 226 147 ls st w = ldI ls 2 fun x => Rv 226 148 ls (.int x :: st) w := R_ldI Q226 (by decide +kernel) rfl
theorem e226_148 {ls : zL} {st : List Value} {w : zW} : Rv 226 148 ls st w = Rv 226 149 ls (.int 0 :: st) w := R_con Q226 (by decide +kernel) rfl (by decide)
theorem e226_149 {ls : zL} {w : zW} {n1 : Int32} {n2 : Int32} {n3 : Int32} {a0 : Nat} : Rv 226 149 ls [.int n1, .int n2, .int n3, .ref a0] w = hO w a0 6 (cal (Rv 180 0 [some (.ref a0), some (.int n3), some (.int n2), some (.int n1), none] [] w) (fun v w' => Rv 226 152 ls (vts v []) w') (xnone)) := R_calV (z := 1183) (r := []) Q226 (by decide +kernel) rfl rfl Q180 rfl rfl rfl
theorem e226_152 {ls : zL} {st : List Value} {w : zW} {x : Int32} : Rv 226 152 ls (.int x :: st) w = lst ls 3 (some (.int x)) fun l => Rv 226 153 l st w := R_st Q226 (by decide +kernel) rfl
theorem e226_153 {ls : zL} {st : List Value} {w : zW} : Rv 226 153 ls st w = Rv 226 173 ls st w := R_go Q226 (by decide +kernel) rfl rfl
theorem e226_156 {ls : zL} {st : List Value} {w : zW} : Rv 226 156 ls st w = ldA ls 0 fun x => Rv 226 157 ls (x :: st) w := R_ldA Q226 (by decide +kernel) rfl
theorem e226_157 {ls : zL} {st : List Value} {w : zW} : Rv 226 157 ls st w = ldI ls 1 fun x => Rv 226 158 ls (.int x :: st) w := R_ldI Q226 (by decide +kernel) rfl
theorem e226_158 {ls : zL} {st : List Value} {w : zW} : Rv 226 158 ls st w = ldI ls 2 fun x => Rv 226 159 ls (.int x :: st) w := R_ldI Q226 (by decide +kernel) rfl
theorem e226_159 {ls : zL} {st : List Value} {w : zW} : Rv 226 159 ls st w = Rv 226 160 ls (.int 0 :: st) w := R_con Q226 (by decide +kernel) rfl (by decide)
theorem e226_160 {ls : zL} {w : zW} {n1 : Int32} {n2 : Int32} {n3 : Int32} {a0 : Nat} : Rv 226 160 ls [.int n1, .int n2, .int n3, .ref a0] w = hO w a0 6 (cal (Rv 176 0 [some (.ref a0), some (.int n3), some (.int n2), some (.int n1), none] [] w) (fun v w' => Rv 226 163 ls (vts v []) w') (xnone)) := R_calV (z := 1134) (r := []) Q226 (by decide +kernel) rfl rfl Q176 rfl rfl rfl
theorem e226_163 {ls : zL} {st : List Value} {w : zW} {x : Int32} : Rv 226 163 ls (.int x :: st) w = lst ls 3 (some (.int x)) fun l => Rv 226 164 l st w := R_st Q226 (by decide +kernel) rfl
theorem e226_164 {ls : zL} {st : List Value} {w : zW} : Rv 226 164 ls st w = Rv 226 173 ls st w := R_go Q226 (by decide +kernel) rfl rfl
theorem e226_167 {ls : zL} {st : List Value} {w : zW} : Rv 226 167 ls st w = ldA ls 0 fun x => Rv 226 168 ls (x :: st) w := R_ldA Q226 (by decide +kernel) rfl
theorem e226_168 {ls : zL} {st : List Value} {w : zW} : Rv 226 168 ls st w = Rv 226 169 ls (.int 0 :: st) w := R_con Q226 (by decide +kernel) rfl (by decide)
theorem e226_169 {ls : zL} {w : zW} {n1 : Int32} {a0 : Nat} : Rv 226 169 ls [.int n1, .ref a0] w = hO w a0 6 (cal (Rv 192 0 [some (.ref a0), some (.int n1), none, none] [] w) (fun v w' => Rv 226 172 ls (vts v []) w') (xnone)) := R_calV (z := 1275) (r := []) Q226 (by decide +kernel) rfl rfl Q192 rfl rfl rfl
theorem e226_172 {ls : zL} {st : List Value} {w : zW} {x : Int32} : Rv 226 172 ls (.int x :: st) w = lst ls 3 (some (.int x)) fun l => Rv 226 173 l st w := R_st Q226 (by decide +kernel) rfl
theorem e226_173 {ls : zL} {st : List Value} {w : zW} : Rv 226 173 ls st w = ldA ls 0 fun x => Rv 226 174 ls (x :: st) w := R_ldA Q226 (by decide +kernel) rfl
theorem e226_174 {ls : zL} {st : List Value} {w : zW} {x : Nat} : Rv 226 174 ls (.ref x :: st) w = Rv 226 175 ls (.ref x :: .ref x :: st) w := R_next Q226 (by decide +kernel) rfl
theorem e226_175 {ls : zL} {st : List Value} {w : zW} {a : Nat} : Rv 226 175 ls (.ref a :: st) w = gF w a 6 9 fun v => Rv 226 178 ls (v :: st) w := R_gF (z := 1079) Q226 (by decide +kernel) rfl
theorem e226_178 {ls : zL} {st : List Value} {w : zW} : Rv 226 178 ls st w = ldA ls 0 fun x => Rv 226 179 ls (x :: st) w := R_ldA Q226 (by decide +kernel) rfl
theorem e226_179 {ls : zL} {st : List Value} {w : zW} {a : Nat} : Rv 226 179 ls (.ref a :: st) w = gF w a 6 3 fun v => Rv 226 182 ls (v :: st) w := R_gF (z := 1073) Q226 (by decide +kernel) rfl
theorem e226_182 {ls : zL} {st : List Value} {w : zW} {x : Int32} : Rv 226 182 ls (.int x :: st) w = if x = 0 then Rv 226 185 ls st w else Rv 226 189 ls st w := R_f0ne Q226 (by decide +kernel) rfl rfl
theorem e226_185 {ls : zL} {st : List Value} {w : zW} : Rv 226 185 ls st w = Rv 226 186 ls (.int 1 :: st) w := R_con Q226 (by decide +kernel) rfl (by decide)
theorem e226_186 {ls : zL} {st : List Value} {w : zW} : Rv 226 186 ls st w = Rv 226 190 ls st w := R_go Q226 (by decide +kernel) rfl rfl
theorem e226_189 {ls : zL} {st : List Value} {w : zW} : Rv 226 189 ls st w = Rv 226 190 ls (.int 0 :: st) w := R_con Q226 (by decide +kernel) rfl (by decide)
theorem e226_190 {ls : zL} {st : List Value} {w : zW} {x y : Int32} : Rv 226 190 ls (.int y :: .int x :: st) w = Rv 226 191 ls (.int (x + y) :: st) w := R_next Q226 (by decide +kernel) rfl
theorem e226_191 {ls : zL} {st : List Value} {w : zW} {x : Int32} {a : Nat} : Rv 226 191 ls (.int x :: .ref a :: st) w = pF w a 6 9 (.int x) fun w' => Rv 226 194 ls st w' := R_pF (z := 1079) Q226 (by decide +kernel) rfl ⟨by decide, rfl, Or.inl rfl⟩
theorem e226_194 {ls : zL} {st : List Value} {w : zW} : Rv 226 194 ls st w = ldA ls 0 fun x => Rv 226 195 ls (x :: st) w := R_ldA Q226 (by decide +kernel) rfl
theorem e226_195 {ls : zL} {st : List Value} {w : zW} {a : Nat} : Rv 226 195 ls (.ref a :: st) w = gF w a 6 3 fun v => Rv 226 198 ls (v :: st) w := R_gF (z := 1073) Q226 (by decide +kernel) rfl
theorem e226_198 {ls : zL} {st : List Value} {w : zW} {x : Int32} : Rv 226 198 ls (.int x :: st) w = if x = 0 then Rv 226 201 ls st w else Rv 226 205 ls st w := R_f0ne Q226 (by decide +kernel) rfl rfl
theorem e226_201 {ls : zL} {st : List Value} {w : zW} : Rv 226 201 ls st w = Rv 226 202 ls (.int 1 :: st) w := R_con Q226 (by decide +kernel) rfl (by decide)
theorem e226_202 {ls : zL} {st : List Value} {w : zW} : Rv 226 202 ls st w = Rv 226 206 ls st w := R_go Q226 (by decide +kernel) rfl rfl
theorem e226_205 {ls : zL} {st : List Value} {w : zW} : Rv 226 205 ls st w = Rv 226 206 ls (.int 0 :: st) w := R_con Q226 (by decide +kernel) rfl (by decide)
theorem e226_206 {ls : zL} {w : zW} {x : Int32} : Rv 226 206 ls [.int x] w = if x = 0 ∨ x = 1 then some (.inl (some (.int x)), w) else none := R_retZ Q226 (by decide +kernel) rfl
