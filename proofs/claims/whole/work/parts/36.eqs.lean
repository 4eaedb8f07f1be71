/-! MasterPinsModel.begin -/
theorem e175_0 {ls : zL} {st : List Value} {w : zW} : Rv 175 0 ls st w = ldA ls 0 fun x => Rv 175 1 ls (x :: st) w := R_ldA Q175 (by decide +kernel) rfl
theorem e175_1 {ls : zL} {st : List Value} {w : zW} : Rv 175 1 ls st w = ldI ls 1 fun x => Rv 175 2 ls (.int x :: st) w := R_ldI Q175 (by decide +kernel) rfl
theorem e175_2 {ls : zL} {st : List Value} {w : zW} : Rv 175 2 ls st w = ldI ls 2 fun x => Rv 175 3 ls (.int x :: st) w := R_ldI Q175 (by decide +kernel) rfl
theorem e175_3 {ls : zL} {st : List Value} {w : zW} : Rv 175 3 ls st w = Rv 175 4 ls (.int 1 :: st) w := R_con Q175 (by decide +kernel) rfl (by decide)
theorem e175_4 {ls : zL} {w : zW} {n1 : Int32} {n2 : Int32} {n3 : Int32} {a0 : Nat} : Rv 175 4 ls [.int n1, .int n2, .int n3, .ref a0] w = hO w a0 6 (cal (Rv 174 0 [some (.ref a0), some (.int n3), some (.int n2), some (.int n1), none, none] [] w) (fun v w' => Rv 175 7 ls (vts v []) w') (xnone)) := R_calV (z := 1115) (r := []) Q175 (by decide +kernel) rfl rfl Q174 rfl rfl rfl
theorem e175_7 {ls : zL} {w : zW} {x : Int32} : Rv 175 7 ls [.int x] w = some (.inl (some (.int x)), w) := R_retI Q175 (by decide +kernel) rfl
/-! MasterPinsModel.setsRule -/
theorem e176_0 {ls : zL} {st : List Value} {w : zW} : Rv 176 0 ls st w = ldA ls 0 fun x => Rv 176 1 ls (x :: st) w := R_ldA Q176 (by decide +kernel) rfl
theorem e176_1 {ls : zL} {st : List Value} {w : zW} : Rv 176 1 ls st w = ldI ls 1 fun x => Rv 176 2 ls (.int x :: st) w := R_ldI Q176 (by decide +kernel) rfl
theorem e176_2 {ls : zL} {st : List Value} {w : zW} {x : Int32} : Rv 176 2 ls (.int x :: st) w = if x = 0 then Rv 176 5 ls st w else Rv 176 14 ls st w := R_f0ne Q176 (by decide +kernel) rfl rfl
theorem e176_5 {ls : zL} {st : List Value} {w : zW} : Rv 176 5 ls st w = ldI ls 2 fun x => Rv 176 6 ls (.int x :: st) w := R_ldI Q176 (by decide +kernel) rfl
theorem e176_6 {ls : zL} {st : List Value} {w : zW} : Rv 176 6 ls st w = Rv 176 7 ls (.int 0 :: st) w := R_con Q176 (by decide +kernel) rfl (by decide)
theorem e176_7 {ls : zL} {st : List Value} {w : zW} : Rv 176 7 ls st w = Rv 176 8 ls (.int 5 :: st) w := R_con Q176 (by decide +kernel) rfl (by decide)
theorem e176_8 {ls : zL} {w : zW} {n1 : Int32} {n2 : Int32} {n3 : Int32} {a4 : Nat} : Rv 176 8 ls [.int n1, .int n2, .int n3, .ref a4] w = cal (Rv 141 0 [some (.int n3), some (.int n2), some (.int n1)] [] w) (fun v w' => Rv 176 11 ls (vts v [.ref a4]) w') (xnone) := R_calS (z := 1119) (kd := 1) (n := 3) Q176 (by decide +kernel) rfl (Or.inl rfl) (Nat.le_of_ble_eq_true rfl) rfl Q141 rfl rfl rfl
theorem e176_11 {ls : zL} {st : List Value} {w : zW} : Rv 176 11 ls st w = Rv 176 37 ls st w := R_go Q176 (by decide +kernel) rfl rfl
theorem e176_14 {ls : zL} {st : List Value} {w : zW} : Rv 176 14 ls st w = ldI ls 1 fun x => Rv 176 15 ls (.int x :: st) w := R_ldI Q176 (by decide +kernel) rfl
theorem e176_15 {ls : zL} {st : List Value} {w : zW} : Rv 176 15 ls st w = Rv 176 16 ls (.int 1 :: st) w := R_con Q176 (by decide +kernel) rfl (by decide)
theorem e176_16 {ls : zL} {st : List Value} {w : zW} : Rv 176 16 ls st w = Rv 176 17 ls (.int 2 :: st) w := R_con Q176 (by decide +kernel) rfl (by decide)
theorem e176_17 {ls : zL} {w : zW} {n1 : Int32} {n2 : Int32} {n3 : Int32} {a4 : Nat} : Rv 176 17 ls [.int n1, .int n2, .int n3, .ref a4] w = cal (Rv 141 0 [some (.int n3), some (.int n2), some (.int n1)] [] w) (fun v w' => Rv 176 20 ls (vts v [.ref a4]) w') (xnone) := R_calS (z := 1119) (kd := 1) (n := 3) Q176 (by decide +kernel) rfl (Or.inl rfl) (Nat.le_of_ble_eq_true rfl) rfl Q141 rfl rfl rfl
theorem e176_20 {ls : zL} {st : List Value} {w : zW} {x : Int32} : Rv 176 20 ls (.int x :: st) w = if x = 0 then Rv 176 36 ls st w else Rv 176 23 ls st w := R_f0eq Q176 (by decide +kernel) rfl rfl
theorem e176_23 {ls : zL} {st : List Value} {w : zW} : Rv 176 23 ls st w = ldI ls 2 fun x => Rv 176 24 ls (.int x :: st) w := R_ldI Q176 (by decide +kernel) rfl
theorem e176_24 {ls : zL} {st : List Value} {w : zW} : Rv 176 24 ls st w = Rv 176 25 ls (.int 1 :: st) w := R_con Q176 (by decide +kernel) rfl (by decide)
theorem e176_25 {ls : zL} {st : List Value} {w : zW} : Rv 176 25 ls st w = Rv 176 26 ls (.int 4 :: st) w := R_con Q176 (by decide +kernel) rfl (by decide)
theorem e176_26 {ls : zL} {w : zW} {n1 : Int32} {n2 : Int32} {n3 : Int32} {a4 : Nat} : Rv 176 26 ls [.int n1, .int n2, .int n3, .ref a4] w = cal (Rv 141 0 [some (.int n3), some (.int n2), some (.int n1)] [] w) (fun v w' => Rv 176 29 ls (vts v [.ref a4]) w') (xnone) := R_calS (z := 1119) (kd := 1) (n := 3) Q176 (by decide +kernel) rfl (Or.inl rfl) (Nat.le_of_ble_eq_true rfl) rfl Q141 rfl rfl rfl
theorem e176_29 {ls : zL} {st : List Value} {w : zW} {x : Int32} : Rv 176 29 ls (.int x :: st) w = if x = 0 then Rv 176 36 ls st w else Rv 176 32 ls st w := R_f0eq Q176 (by decide +kernel) rfl rfl
theorem e176_32 {ls : zL} {st : List Value} {w : zW} : Rv 176 32 ls st w = Rv 176 33 ls (.int 1 :: st) w := R_con Q176 (by decide +kernel) rfl (by decide)
theorem e176_33 {ls : zL} {st : List Value} {w : zW} : Rv 176 33 ls st w = Rv 176 37 ls st w := R_go Q176 (by decide +kernel) rfl rfl
theorem e176_36 {ls : zL} {st : List Value} {w : zW} : Rv 176 36 ls st w = Rv 176 37 ls (.int 0 :: st) w := R_con Q176 (by decide +kernel) rfl (by decide)
theorem e176_37 {ls : zL} {st : List Value} {w : zW} : Rv 176 37 ls st w = Rv 176 38 ls (.int 1 :: st) w := R_con Q176 (by decide +kernel) rfl (by decide)
theorem e176_38 {ls : zL} {st : List Value} {w : zW} : Rv 176 38 ls st w = Rv 176 39 ls (.int 1 :: st) w := R_con Q176 (by decide +kernel) rfl (by decide)
theorem e176_39 {ls : zL} {w : zW} {n1 : Int32} {n2 : Int32} {n3 : Int32} {a0 : Nat} : Rv 176 39 ls [.int n1, .int n2, .int n3, .ref a0] w = hO w a0 6 (cal (Rv 142 0 [some (.ref a0), some (.int n3), some (.int n2), some (.int n1)] [] w) (fun v w' => Rv 176 42 ls (vts v []) w') (xnone)) := R_calV (z := 1122) (r := []) Q176 (by decide +kernel) rfl rfl Q142 rfl rfl rfl
theorem e176_42 {ls : zL} {st : List Value} {w : zW} {x : Int32} : Rv 176 42 ls (.int x :: st) w = if x = 0 then Rv 176 47 ls st w else Rv 176 45 ls st w := R_f0eq Q176 (by decide +kernel) rfl rfl
theorem e176_45 {ls : zL} {st : List Value} {w : zW} : Rv 176 45 ls st w = Rv 176 46 ls (.int 0 :: st) w := R_con Q176 (by decide +kernel) rfl (by decide)
theorem e176_46 {ls : zL} {w : zW} {x : Int32} : Rv 176 46 ls [.int x] w = some (.inl (some (.int x)), w) := R_retI Q176 (by decide +kernel) rfl
theorem e176_47 {ls : zL} {st : List Value} {w : zW} : Rv 176 47 ls st w = ldI ls 3 fun x => Rv 176 48 ls (.int x :: st) w := R_ldI Q176 (by decide +kernel) rfl
theorem e176_48 {ls : zL} {st : List Value} {w : zW} {x : Int32} : Rv 176 48 ls (.int x :: st) w = if x = 0 then Rv 176 55 ls st w else Rv 176 51 ls st w := R_f0eq Q176 (by decide +kernel) rfl rfl
theorem e176_51 {ls : zL} {st : List Value} {w : zW} : Rv 176 51 ls st w = ldA ls 0 fun x => Rv 176 52 ls (x :: st) w := R_ldA Q176 (by decide +kernel) rfl
theorem e176_52 {ls : zL} {w : zW} {a0 : Nat} : Rv 176 52 ls [.ref a0] w = hO w a0 6 (cal (Rv 143 0 [some (.ref a0), none] [] w) (fun v w' => Rv 176 55 ls (vts v []) w') (xnone)) := R_calV (z := 1126) (r := []) Q176 (by decide +kernel) rfl rfl Q143 rfl rfl rfl
theorem e176_55 {ls : zL} {st : List Value} {w : zW} : Rv 176 55 ls st w = ldA ls 0 fun x => Rv 176 56 ls (x :: st) w := R_ldA Q176 (by decide +kernel) rfl
theorem e176_56 {ls : zL} {st : List Value} {w : zW} {a : Nat} : Rv 176 56 ls (.ref a :: st) w = gF w a 6 0 fun v => Rv 176 59 ls (v :: st) w := R_gF (z := 1070) Q176 (by decide +kernel) rfl
theorem e176_59 {ls : zL} {st : List Value} {w : zW} : Rv 176 59 ls st w = Rv 176 60 ls (.int 2 :: st) w := R_con Q176 (by decide +kernel) rfl (by decide)
theorem e176_60 {ls : zL} {st : List Value} {w : zW} : Rv 176 60 ls st w = ldI ls 1 fun x => Rv 176 61 ls (.int x :: st) w := R_ldI Q176 (by decide +kernel) rfl
theorem e176_61 {ls : zL} {st : List Value} {w : zW} {x y : Int32} : Rv 176 61 ls (.int y :: .int x :: st) w = Rv 176 62 ls (.int (x + y) :: st) w := R_next Q176 (by decide +kernel) rfl
theorem e176_62 {ls : zL} {st : List Value} {w : zW} {a : Nat} {x : Int32} : Rv 176 62 ls (.int x :: .ref a :: st) w = gI w a 0 8 x fun v => Rv 176 63 ls (.int v :: st) w := R_iald Q176 (by decide +kernel)
theorem e176_63 {ls : zL} {st : List Value} {w : zW} {x : Int32} : Rv 176 63 ls (.int x :: st) w = lst ls 4 (some (.int x)) fun l => Rv 176 65 l st w := R_st Q176 (by decide +kernel) rfl
theorem e176_65 {ls : zL} {st : List Value} {w : zW} : Rv 176 65 ls st w = ldA ls 0 fun x => Rv 176 66 ls (x :: st) w := R_ldA Q176 (by decide +kernel) rfl
theorem e176_66 {ls : zL} {st : List Value} {w : zW} {a : Nat} : Rv 176 66 ls (.ref a :: st) w = gF w a 6 0 fun v => Rv 176 69 ls (v :: st) w := R_gF (z := 1070) Q176 (by decide +kernel) rfl
theorem e176_69 {ls : zL} {st : List Value} {w : zW} : Rv 176 69 ls st w = Rv 176 70 ls (.int 2 :: st) w := R_con Q176 (by decide +kernel) rfl (by decide)
theorem e176_70 {ls : zL} {st : List Value} {w : zW} : Rv 176 70 ls st w = ldI ls 1 fun x => Rv 176 71 ls (.int x :: st) w := R_ldI Q176 (by decide +kernel) rfl
theorem e176_71 {ls : zL} {st : List Value} {w : zW} {x y : Int32} : Rv 176 71 ls (.int y :: .int x :: st) w = Rv 176 72 ls (.int (x + y) :: st) w := R_next Q176 (by decide +kernel) rfl
theorem e176_72 {ls : zL} {st : List Value} {w : zW} : Rv 176 72 ls st w = ldI ls 2 fun x => Rv 176 73 ls (.int x :: st) w := R_ldI Q176 (by decide +kernel) rfl
theorem e176_73 {ls : zL} {st : List Value} {w : zW} {a : Nat} {x y : Int32} : Rv 176 73 ls (.int y :: .int x :: .ref a :: st) w = pI w a 0 x y fun w' => Rv 176 74 ls st w' := R_iast Q176 (by decide +kernel)
theorem e176_74 {ls : zL} {st : List Value} {w : zW} : Rv 176 74 ls st w = ldI ls 4 fun x => Rv 176 76 ls (.int x :: st) w := R_ldI Q176 (by decide +kernel) rfl
theorem e176_76 {ls : zL} {w : zW} {x : Int32} : Rv 176 76 ls [.int x] w = some (.inl (some (.int x)), w) := R_retI Q176 (by decide +kernel) rfl
/-! MasterPinsModel.setRule -/
theorem e177_0 {ls : zL} {st : List Value} {w : zW} : Rv 177 0 ls st w = ldA ls 0 fun x => Rv 177 1 ls (x :: st) w := R_ldA Q177 (by decide +kernel) rfl
theorem e177_1 {ls : zL} {st : List Value} {w : zW} : Rv 177 1 ls st w = ldI ls 1 fun x => Rv 177 2 ls (.int x :: st) w := R_ldI Q177 (by decide +kernel) rfl
theorem e177_2 {ls : zL} {st : List Value} {w : zW} : Rv 177 2 ls st w = ldI ls 2 fun x => Rv 177 3 ls (.int x :: st) w := R_ldI Q177 (by decide +kernel) rfl
theorem e177_3 {ls : zL} {st : List Value} {w : zW} : Rv 177 3 ls st w = Rv 177 4 ls (.int 1 :: st) w := R_con Q177 (by decide +kernel) rfl (by decide)
theorem e177_4 {ls : zL} {w : zW} {n1 : Int32} {n2 : Int32} {n3 : Int32} {a0 : Nat} : Rv 177 4 ls [.int n1, .int n2, .int n3, .ref a0] w = hO w a0 6 (cal (Rv 176 0 [some (.ref a0), some (.int n3), some (.int n2), some (.int n1), none] [] w) (fun v w' => Rv 177 7 ls (vts v []) w') (xnone)) := R_calV (z := 1134) (r := []) Q177 (by decide +kernel) rfl rfl Q176 rfl rfl rfl
theorem e177_7 {ls : zL} {w : zW} {x : Int32} : Rv 177 7 ls [.int x] w = some (.inl (some (.int x)), w) := R_retI Q177 (by decide +kernel) rfl
/-! MasterPinsModel.addsKey -/
theorem e178_0 {ls : zL} {st : List Value} {w : zW} : Rv 178 0 ls st w = ldA ls 0 fun x => Rv 178 1 ls (x :: st) w := R_ldA Q178 (by decide +kernel) rfl
theorem e178_1 {ls : zL} {st : List Value} {w : zW} : Rv 178 1 ls st w = ldI ls 2 fun x => Rv 178 2 ls (.int x :: st) w := R_ldI Q178 (by decide +kernel) rfl
theorem e178_2 {ls : zL} {st : List Value} {w : zW} : Rv 178 2 ls st w = Rv 178 3 ls (.int (-1) :: st) w := R_con Q178 (by decide +kernel) rfl (by decide)
theorem e178_3 {ls : zL} {st : List Value} {w : zW} {x y : Int32} : Rv 178 3 ls (.int y :: .int x :: st) w = if x = y then Rv 178 14 ls st w else Rv 178 6 ls st w := R_fieq Q178 (by decide +kernel) rfl rfl
theorem e178_6 {ls : zL} {st : List Value} {w : zW} : Rv 178 6 ls st w = ldA ls 0 fun x => Rv 178 7 ls (x :: st) w := R_ldA Q178 (by decide +kernel) rfl
theorem e178_7 {ls : zL} {st : List Value} {w : zW} : Rv 178 7 ls st w = ldI ls 2 fun x => Rv 178 8 ls (.int x :: st) w := R_ldI Q178 (by decide +kernel) rfl
theorem e178_8 {ls : zL} {w : zW} {n1 : Int32} {a0 : Nat} {a2 : Nat} : Rv 178 8 ls [.int n1, .ref a0, .ref a2] w = hO w a0 6 (cal (Rv 144 0 [some (.ref a0), some (.int n1)] [] w) (fun v w' => Rv 178 11 ls (vts v [.ref a2]) w') (xnone)) := R_calV (z := 1146) (r := [.ref a2]) Q178 (by decide +kernel) rfl rfl Q144 rfl rfl rfl
theorem e178_11 {ls : zL} {st : List Value} {w : zW} {x : Int32} : Rv 178 11 ls (.int x :: st) w = if x = 0 then Rv 178 18 ls st w else Rv 178 14 ls st w := R_f0eq Q178 (by decide +kernel) rfl rfl
theorem e178_14 {ls : zL} {st : List Value} {w : zW} : Rv 178 14 ls st w = Rv 178 15 ls (.int 1 :: st) w := R_con Q178 (by decide +kernel) rfl (by decide)
theorem e178_15 {ls : zL} {st : List Value} {w : zW} : Rv 178 15 ls st w = Rv 178 19 ls st w := R_go Q178 (by decide +kernel) rfl rfl
theorem e178_18 {ls : zL} {st : List Value} {w : zW} : Rv 178 18 ls st w = Rv 178 19 ls (.int 0 :: st) w := R_con Q178 (by decide +kernel) rfl (by decide)
theorem e178_19 {ls : zL} {st : List Value} {w : zW} : Rv 178 19 ls st w = ldA ls 0 fun x => Rv 178 20 ls (x :: st) w := R_ldA Q178 (by decide +kernel) rfl
theorem e178_20 {ls : zL} {st : List Value} {w : zW} : Rv 178 20 ls st w = Rv 178 21 ls (.int (-1) :: st) w := R_con Q178 (by decide +kernel) rfl (by decide)
theorem e178_21 {ls : zL} {st : List Value} {w : zW} : Rv 178 21 ls st w = ldI ls 1 fun x => Rv 178 22 ls (.int x :: st) w := R_ldI Q178 (by decide +kernel) rfl
theorem e178_22 {ls : zL} {w : zW} {n1 : Int32} {n2 : Int32} {a0 : Nat} {n3 : Int32} {a4 : Nat} : Rv 178 22 ls [.int n1, .int n2, .ref a0, .int n3, .ref a4] w = hO w a0 6 (cal (Rv 153 0 [some (.ref a0), some (.int n2), some (.int n1), none, none] [] w) (fun v w' => Rv 178 25 ls (vts v [.int n3, .ref a4]) w') (xnone)) := R_calV (z := 1150) (r := [.int n3, .ref a4]) Q178 (by decide +kernel) rfl rfl Q153 rfl rfl rfl
theorem e178_25 {ls : zL} {st : List Value} {w : zW} {x : Int32} : Rv 178 25 ls (.int x :: st) w = if x = 0 then Rv 178 28 ls st w else Rv 178 32 ls st w := R_f0ne Q178 (by decide +kernel) rfl rfl
theorem e178_28 {ls : zL} {st : List Value} {w : zW} : Rv 178 28 ls st w = Rv 178 29 ls (.int 1 :: st) w := R_con Q178 (by decide +kernel) rfl (by decide)
theorem e178_29 {ls : zL} {st : List Value} {w : zW} : Rv 178 29 ls st w = Rv 178 33 ls st w := R_go Q178 (by decide +kernel) rfl rfl
theorem e178_32 {ls : zL} {st : List Value} {w : zW} : Rv 178 32 ls st w = Rv 178 33 ls (.int 0 :: st) w := R_con Q178 (by decide +kernel) rfl (by decide)
theorem e178_33 {ls : zL} {st : List Value} {w : zW} : Rv 178 33 ls st w = ldA ls 0 fun x => Rv 178 34 ls (x :: st) w := R_ldA Q178 (by decide +kernel) rfl
theorem e178_34 {ls : zL} {st : List Value} {w : zW} {a : Nat} : Rv 178 34 ls (.ref a :: st) w = gF w a 6 0 fun v => Rv 178 37 ls (v :: st) w := R_gF (z := 1070) Q178 (by decide +kernel) rfl
theorem e178_37 {ls : zL} {st : List Value} {w : zW} : Rv 178 37 ls st w = Rv 178 38 ls (.int 5 :: st) w := R_con Q178 (by decide +kernel) rfl (by decide)
theorem e178_38 {ls : zL} {st : List Value} {w : zW} {a : Nat} {x : Int32} : Rv 178 38 ls (.int x :: .ref a :: st) w = gI w a 0 8 x fun v => Rv 178 39 ls (.int v :: st) w := R_iald Q178 (by decide +kernel)
theorem e178_39 {ls : zL} {st : List Value} {w : zW} : Rv 178 39 ls st w = Rv 178 41 ls (.int 16 :: st) w := R_con Q178 (by decide +kernel) rfl (by decide)
theorem e178_41 {ls : zL} {st : List Value} {w : zW} {x y : Int32} : Rv 178 41 ls (.int y :: .int x :: st) w = if x < y then Rv 178 44 ls st w else Rv 178 48 ls st w := R_fige Q178 (by decide +kernel) rfl rfl
theorem e178_44 {ls : zL} {st : List Value} {w : zW} : Rv 178 44 ls st w = Rv 178 45 ls (.int 1 :: st) w := R_con Q178 (by decide +kernel) rfl (by decide)
theorem e178_45 {ls : zL} {st : List Value} {w : zW} : Rv 178 45 ls st w = Rv 178 49 ls st w := R_go Q178 (by decide +kernel) rfl rfl
theorem e178_48 {ls : zL} {st : List Value} {w : zW} : Rv 178 48 ls st w = Rv 178 49 ls (.int 0 :: st) w := R_con Q178 (by decide +kernel) rfl (by decide)
theorem e178_49 {ls : zL} {w : zW} {n1 : Int32} {n2 : Int32} {n3 : Int32} {a0 : Nat} : Rv 178 49 ls [.int n1, .int n2, .int n3, .ref a0] w = hO w a0 6 (cal (Rv 142 0 [some (.ref a0), some (.int n3), some (.int n2), some (.int n1)] [] w) (fun v w' => Rv 178 52 ls (vts v []) w') (xnone)) := R_calV (z := 1122) (r := []) Q178 (by decide +kernel) rfl rfl Q142 rfl rfl rfl
theorem e178_52 {ls : zL} {st : List Value} {w : zW} {x : Int32} : Rv 178 52 ls (.int x :: st) w = if x = 0 then Rv 178 57 ls st w else Rv 178 55 ls st w := R_f0eq Q178 (by decide +kernel) rfl rfl
theorem e178_55 {ls : zL} {st : List Value} {w : zW} : Rv 178 55 ls st w = Rv 178 56 ls (.int 0 :: st) w := R_con Q178 (by decide +kernel) rfl (by decide)
theorem e178_56 {ls : zL} {w : zW} {x : Int32} : Rv 178 56 ls [.int x] w = some (.inl (some (.int x)), w) := R_retI Q178 (by decide +kernel) rfl
theorem e178_57 {ls : zL} {st : List Value} {w : zW} : Rv 178 57 ls st w = ldI ls 3 fun x => Rv 178 58 ls (.int x :: st) w := R_ldI Q178 (by decide +kernel) rfl
theorem e178_58 {ls : zL} {st : List Value} {w : zW} {x : Int32} : Rv 178 58 ls (.int x :: st) w = if x = 0 then Rv 178 65 ls st w else Rv 178 61 ls st w := R_f0eq Q178 (by decide +kernel) rfl rfl
theorem e178_61 {ls : zL} {st : List Value} {w : zW} : Rv 178 61 ls st w = ldA ls 0 fun x => Rv 178 62 ls (x :: st) w := R_ldA Q178 (by decide +kernel) rfl
theorem e178_62 {ls : zL} {w : zW} {a0 : Nat} : Rv 178 62 ls [.ref a0] w = hO w a0 6 (cal (Rv 143 0 [some (.ref a0), none] [] w) (fun v w' => Rv 178 65 ls (vts v []) w') (xnone)) := R_calV (z := 1126) (r := []) Q178 (by decide +kernel) rfl rfl Q143 rfl rfl rfl
theorem e178_65 {ls : zL} {st : List Value} {w : zW} : Rv 178 65 ls st w = ldA ls 0 fun x => Rv 178 66 ls (x :: st) w := R_ldA Q178 (by decide +kernel) rfl
theorem e178_66 {ls : zL} {st : List Value} {w : zW} {a : Nat} : Rv 178 66 ls (.ref a :: st) w = gF w a 6 0 fun v => Rv 178 69 ls (v :: st) w := R_gF (z := 1070) Q178 (by decide +kernel) rfl
theorem e178_69 {ls : zL} {st : List Value} {w : zW} : Rv 178 69 ls st w = Rv 178 70 ls (.int 5 :: st) w := R_con Q178 (by decide +kernel) rfl (by decide)
theorem e178_70 {ls : zL} {st : List Value} {w : zW} {a : Nat} {x : Int32} : Rv 178 70 ls (.int x :: .ref a :: st) w = gI w a 0 8 x fun v => Rv 178 71 ls (.int v :: st) w := R_iald Q178 (by decide +kernel)
theorem e178_71 {ls : zL} {st : List Value} {w : zW} {x : Int32} : Rv 178 71 ls (.int x :: st) w = lst ls 4 (some (.int x)) fun l => Rv 178 73 l st w := R_st Q178 (by decide +kernel) rfl
theorem e178_73 {ls : zL} {st : List Value} {w : zW} : Rv 178 73 ls st w = ldA ls 0 fun x => Rv 178 74 ls (x :: st) w := R_ldA Q178 (by decide +kernel) rfl
theorem e178_74 {ls : zL} {st : List Value} {w : zW} {a : Nat} : Rv 178 74 ls (.ref a :: st) w = gF w a 6 0 fun v => Rv 178 77 ls (v :: st) w := R_gF (z := 1070) Q178 (by decide +kernel) rfl
theorem e178_77 {ls : zL} {st : List Value} {w : zW} : Rv 178 77 ls st w = Rv 178 79 ls (.int 7 :: st) w := R_con Q178 (by decide +kernel) rfl (by decide)
theorem e178_79 {ls : zL} {st : List Value} {w : zW} : Rv 178 79 ls st w = ldI ls 4 fun x => Rv 178 81 ls (.int x :: st) w := R_ldI Q178 (by decide +kernel) rfl
theorem e178_81 {ls : zL} {st : List Value} {w : zW} {x y : Int32} : Rv 178 81 ls (.int y :: .int x :: st) w = Rv 178 82 ls (.int (x + y) :: st) w := R_next Q178 (by decide +kernel) rfl
theorem e178_82 {ls : zL} {st : List Value} {w : zW} : Rv 178 82 ls st w = ldI ls 1 fun x => Rv 178 83 ls (.int x :: st) w := R_ldI Q178 (by decide +kernel) rfl
theorem e178_83 {ls : zL} {st : List Value} {w : zW} {a : Nat} {x y : Int32} : Rv 178 83 ls (.int y :: .int x :: .ref a :: st) w = pI w a 0 x y fun w' => Rv 178 84 ls st w' := R_iast Q178 (by decide +kernel)
theorem e178_84 {ls : zL} {st : List Value} {w : zW} : Rv 178 84 ls st w = ldA ls 0 fun x => Rv 178 85 ls (x :: st) w := R_ldA Q178 (by decide +kernel) rfl
theorem e178_85 {ls : zL} {st : List Value} {w : zW} {a : Nat} : Rv 178 85 ls (.ref a :: st) w = gF w a 6 0 fun v => Rv 178 88 ls (v :: st) w := R_gF (z := 1070) Q178 (by decide +kernel) rfl
theorem e178_88 {ls : zL} {st : List Value} {w : zW} : Rv 178 88 ls st w = Rv 178 90 ls (.int 23 :: st) w := R_con Q178 (by decide +kernel) rfl (by decide)
theorem e178_90 {ls : zL} {st : List Value} {w : zW} : Rv 178 90 ls st w = ldI ls 4 fun x => Rv 178 92 ls (.int x :: st) w := R_ldI Q178 (by decide +kernel) rfl
theorem e178_92 {ls : zL} {st : List Value} {w : zW} {x y : Int32} : Rv 178 92 ls (.int y :: .int x :: st) w = Rv 178 93 ls (.int (x + y) :: st) w := R_next Q178 (by decide +kernel) rfl
theorem e178_93 {ls : zL} {st : List Value} {w : zW} : Rv 178 93 ls st w = ldI ls 2 fun x => Rv 178 94 ls (.int x :: st) w := R_ldI Q178 (by decide +kernel) rfl
theorem e178_94 {ls : zL} {st : List Value} {w : zW} {a : Nat} {x y : Int32} : Rv 178 94 ls (.int y :: .int x :: .ref a :: st) w = pI w a 0 x y fun w' => Rv 178 95 ls st w' := R_iast Q178 (by decide +kernel)
theorem e178_95 {ls : zL} {st : List Value} {w : zW} : Rv 178 95 ls st w = ldA ls 0 fun x => Rv 178 96 ls (x :: st) w := R_ldA Q178 (by decide +kernel) rfl
theorem e178_96 {ls : zL} {st : List Value} {w : zW} {a : Nat} : Rv 178 96 ls (.ref a :: st) w = gF w a 6 0 fun v => Rv 178 99 ls (v :: st) w := R_gF (z := 1070) Q178 (by decide +kernel) rfl
theorem e178_99 {ls : zL} {st : List Value} {w : zW} : Rv 178 99 ls st w = Rv 178 101 ls (.int 39 :: st) w := R_con Q178 (by decide +kernel) rfl (by decide)
theorem e178_101 {ls : zL} {st : List Value} {w : zW} : Rv 178 101 ls st w = ldI ls 4 fun x => Rv 178 103 ls (.int x :: st) w := R_ldI Q178 (by decide +kernel) rfl
theorem e178_103 {ls : zL} {st : List Value} {w : zW} {x y : Int32} : Rv 178 103 ls (.int y :: .int x :: st) w = Rv 178 104 ls (.int (x + y) :: st) w := R_next Q178 (by decide +kernel) rfl
theorem e178_104 {ls : zL} {st : List Value} {w : zW} : Rv 178 104 ls st w = Rv 178 105 ls (.int 0 :: st) w := R_con Q178 (by decide +kernel) rfl (by decide)
theorem e178_105 {ls : zL} {st : List Value} {w : zW} {a : Nat} {x y : Int32} : Rv 178 105 ls (.int y :: .int x :: .ref a :: st) w = pI w a 0 x y fun w' => Rv 178 106 ls st w' := R_iast Q178 (by decide +kernel)
theorem e178_106 {ls : zL} {st : List Value} {w : zW} : Rv 178 106 ls st w = ldA ls 0 fun x => Rv 178 107 ls (x :: st) w := R_ldA Q178 (by decide +kernel) rfl
theorem e178_107 {ls : zL} {st : List Value} {w : zW} {a : Nat} : Rv 178 107 ls (.ref a :: st) w = gF w a 6 0 fun v => Rv 178 110 ls (v :: st) w := R_gF (z := 1070) Q178 (by decide +kernel) rfl
theorem e178_110 {ls : zL} {st : List Value} {w : zW} : Rv 178 110 ls st w = Rv 178 111 ls (.int 5 :: st) w := R_con Q178 (by decide +kernel) rfl (by decide)
theorem e178_111 {ls : zL} {st : List Value} {w : zW} {x : Int32} {y : Nat} : Rv 178 111 ls (.int x :: .ref y :: st) w = Rv 178 112 ls (.int x :: .ref y :: .int x :: .ref y :: st) w := R_next Q178 (by decide +kernel) rfl
theorem e178_112 {ls : zL} {st : List Value} {w : zW} {a : Nat} {x : Int32} : Rv 178 112 ls (.int x :: .ref a :: st) w = gI w a 0 8 x fun v => Rv 178 113 ls (.int v :: st) w := R_iald Q178 (by decide +kernel)
theorem e178_113 {ls : zL} {st : List Value} {w : zW} : Rv 178 113 ls st w = Rv 178 114 ls (.int 1 :: st) w := R_con Q178 (by decide +kernel) rfl (by decide)
theorem e178_114 {ls : zL} {st : List Value} {w : zW} {x y : Int32} : Rv 178 114 ls (.int y :: .int x :: st) w = Rv 178 115 ls (.int (x + y) :: st) w := R_next Q178 (by decide +kernel) rfl
theorem e178_115 {ls : zL} {st : List Value} {w : zW} {a : Nat} {x y : Int32} : Rv 178 115 ls (.int y :: .int x :: .ref a :: st) w = pI w a 0 x y fun w' => Rv 178 116 ls st w' := R_iast Q178 (by decide +kernel)
theorem e178_116 {ls : zL} {st : List Value} {w : zW} : Rv 178 116 ls st w = ldI ls 4 fun x => Rv 178 118 ls (.int x :: st) w := R_ldI Q178 (by decide +kernel) rfl
theorem e178_118 {ls : zL} {w : zW} {x : Int32} : Rv 178 118 ls [.int x] w = some (.inl (some (.int x)), w) := R_retI Q178 (by decide +kernel) rfl
/-! MasterPinsModel.addKey -/
theorem e179_0 {ls : zL} {st : List Value} {w : zW} : Rv 179 0 ls st w = ldA ls 0 fun x => Rv 179 1 ls (x :: st) w := R_ldA Q179 (by decide +kernel) rfl
theorem e179_1 {ls : zL} {st : List Value} {w : zW} : Rv 179 1 ls st w = ldI ls 1 fun x => Rv 179 2 ls (.int x :: st) w := R_ldI Q179 (by decide +kernel) rfl
theorem e179_2 {ls : zL} {st : List Value} {w : zW} : Rv 179 2 ls st w = ldI ls 2 fun x => Rv 179 3 ls (.int x :: st) w := R_ldI Q179 (by decide +kernel) rfl
theorem e179_3 {ls : zL} {st : List Value} {w : zW} : Rv 179 3 ls st w = Rv 179 4 ls (.int 1 :: st) w := R_con Q179 (by decide +kernel) rfl (by decide)
theorem e179_4 {ls : zL} {w : zW} {n1 : Int32} {n2 : Int32} {n3 : Int32} {a0 : Nat} : Rv 179 4 ls [.int n1, .int n2, .int n3, .ref a0] w = hO w a0 6 (cal (Rv 178 0 [some (.ref a0), some (.int n3), some (.int n2), some (.int n1), none] [] w) (fun v w' => Rv 179 7 ls (vts v []) w') (xnone)) := R_calV (z := 1142) (r := []) Q179 (by decide +kernel) rfl rfl Q178 rfl rfl rfl
theorem e179_7 {ls : zL} {w : zW} {x : Int32} : Rv 179 7 ls [.int x] w = some (.inl (some (.int x)), w) := R_retI Q179 (by decide +kernel) rfl
/-! MasterPinsModel.cutsAnew -/
theorem e180_0 {ls : zL} {st : List Value} {w : zW} : Rv 180 0 ls st w = ldA ls 0 fun x => Rv 180 1 ls (x :: st) w := R_ldA Q180 (by decide +kernel) rfl
theorem e180_1 {ls : zL} {st : List Value} {w : zW} : Rv 180 1 ls st w = ldA ls 0 fun x => Rv 180 2 ls (x :: st) w := R_ldA Q180 (by decide +kernel) rfl
theorem e180_2 {ls : zL} {st : List Value} {w : zW} : Rv 180 2 ls st w = ldI ls 1 fun x => Rv 180 3 ls (.int x :: st) w := R_ldI Q180 (by decide +kernel) rfl
theorem e180_3 {ls : zL} {w : zW} {n1 : Int32} {a0 : Nat} {a2 : Nat} : Rv 180 3 ls [.int n1, .ref a0, .ref a2] w = hO w a0 6 (cal (Rv 144 0 [some (.ref a0), some (.int n1)] [] w) (fun v w' => Rv 180 6 ls (vts v [.ref a2]) w') (xnone)) := R_calV (z := 1146) (r := [.ref a2]) Q180 (by decide +kernel) rfl rfl Q144 rfl rfl rfl
theorem e180_6 {ls : zL} {st : List Value} {w : zW} : Rv 180 6 ls st w = ldA ls 0 fun x => Rv 180 7 ls (x :: st) w := R_ldA Q180 (by decide +kernel) rfl
theorem e180_7 {ls : zL} {st : List Value} {w : zW} : Rv 180 7 ls st w = ldI ls 1 fun x => Rv 180 8 ls (.int x :: st) w := R_ldI Q180 (by decide +kernel) rfl
theorem e180_8 {ls : zL} {w : zW} {n1 : Int32} {a0 : Nat} {n2 : Int32} {a3 : Nat} : Rv 180 8 ls [.int n1, .ref a0, .int n2, .ref a3] w = hO w a0 6 (cal (Rv 144 0 [some (.ref a0), some (.int n1)] [] w) (fun v w' => Rv 180 11 ls (vts v [.int n2, .ref a3]) w') (xnone)) := R_calV (z := 1146) (r := [.int n2, .ref a3]) Q180 (by decide +kernel) rfl rfl Q144 rfl rfl rfl
theorem e180_11 {ls : zL} {st : List Value} {w : zW} {x : Int32} : Rv 180 11 ls (.int x :: st) w = if x = 0 then Rv 180 23 ls st w else Rv 180 14 ls st w := R_f0eq Q180 (by decide +kernel) rfl rfl
theorem e180_14 {ls : zL} {st : List Value} {w : zW} : Rv 180 14 ls st w = ldA ls 0 fun x => Rv 180 15 ls (x :: st) w := R_ldA Q180 (by decide +kernel) rfl
theorem e180_15 {ls : zL} {st : List Value} {w : zW} : Rv 180 15 ls st w = ldI ls 1 fun x => Rv 180 16 ls (.int x :: st) w := R_ldI Q180 (by decide +kernel) rfl
theorem e180_16 {ls : zL} {st : List Value} {w : zW} : Rv 180 16 ls st w = ldI ls 2 fun x => Rv 180 17 ls (.int x :: st) w := R_ldI Q180 (by decide +kernel) rfl
theorem e180_17 {ls : zL} {w : zW} {n1 : Int32} {n2 : Int32} {a0 : Nat} {n3 : Int32} {a4 : Nat} : Rv 180 17 ls [.int n1, .int n2, .ref a0, .int n3, .ref a4] w = hO w a0 6 (cal (Rv 153 0 [some (.ref a0), some (.int n2), some (.int n1), none, none] [] w) (fun v w' => Rv 180 20 ls (vts v [.int n3, .ref a4]) w') (xnone)) := R_calV (z := 1150) (r := [.int n3, .ref a4]) Q180 (by decide +kernel) rfl rfl Q153 rfl rfl rfl
theorem e180_20 {ls : zL} {st : List Value} {w : zW} {x : Int32} : Rv 180 20 ls (.int x :: st) w = if x = 0 then Rv 180 23 ls st w else Rv 180 27 ls st w := R_f0ne Q180 (by decide +kernel) rfl rfl
theorem e180_23 {ls : zL} {st : List Value} {w : zW} : Rv 180 23 ls st w = Rv 180 24 ls (.int 1 :: st) w := R_con Q180 (by decide +kernel) rfl (by decide)
theorem e180_24 {ls : zL} {st : List Value} {w : zW} : Rv 180 24 ls st w = Rv 180 28 ls st w := R_go Q180 (by decide +kernel) rfl rfl
theorem e180_27 {ls : zL} {st : List Value} {w : zW} : Rv 180 27 ls st w = Rv 180 28 ls (.int 0 :: st) w := R_con Q180 (by decide +kernel) rfl (by decide)
theorem e180_28 {ls : zL} {st : List Value} {w : zW} : Rv 180 28 ls st w = Rv 180 29 ls (.int 1 :: st) w := R_con Q180 (by decide +kernel) rfl (by decide)
theorem e180_29 {ls : zL} {w : zW} {n1 : Int32} {n2 : Int32} {n3 : Int32} {a0 : Nat} : Rv 180 29 ls [.int n1, .int n2, .int n3, .ref a0] w = hO w a0 6 (cal (Rv 142 0 [some (.ref a0), some (.int n3), some (.int n2), some (.int n1)] [] w) (fun v w' => Rv 180 32 ls (vts v []) w') (xnone)) := R_calV (z := 1122) (r := []) Q180 (by decide +kernel) rfl rfl Q142 rfl rfl rfl
theorem e180_32 {ls : zL} {st : List Value} {w : zW} {x : Int32} : Rv 180 32 ls (.int x :: st) w = if x = 0 then Rv 180 37 ls st w else Rv 180 35 ls st w := R_f0eq Q180 (by decide +kernel) rfl rfl
theorem e180_35 {ls : zL} {st : List Value} {w : zW} : Rv 180 35 ls st w = Rv 180 36 ls (.int 0 :: st) w := R_con Q180 (by decide +kernel) rfl (by decide)
theorem e180_36 {ls : zL} {w : zW} {x : Int32} : Rv 180 36 ls [.int x] w = some (.inl (some (.int x)), w) := R_retI Q180 (by decide +kernel) rfl
theorem e180_37 {ls : zL} {st : List Value} {w : zW} : Rv 180 37 ls st w = ldI ls 3 fun x => Rv 180 38 ls (.int x :: st) w := R_ldI Q180 (by decide +kernel) rfl
theorem e180_38 {ls : zL} {st : List Value} {w : zW} {x : Int32} : Rv 180 38 ls (.int x :: st) w = if x = 0 then Rv 180 45 ls st w else Rv 180 41 ls st w := R_f0eq Q180 (by decide +kernel) rfl rfl
theorem e180_41 {ls : zL} {st : List Value} {w : zW} : Rv 180 41 ls st w = ldA ls 0 fun x => Rv 180 42 ls (x :: st) w := R_ldA Q180 (by decide +kernel) rfl
theorem e180_42 {ls : zL} {w : zW} {a0 : Nat} : Rv 180 42 ls [.ref a0] w = hO w a0 6 (cal (Rv 143 0 [some (.ref a0), none] [] w) (fun v w' => Rv 180 45 ls (vts v []) w') (xnone)) := R_calV (z := 1126) (r := []) Q180 (by decide +kernel) rfl rfl Q143 rfl rfl rfl
theorem e180_45 {ls : zL} {st : List Value} {w : zW} : Rv 180 45 ls st w = ldA ls 0 fun x => Rv 180 46 ls (x :: st) w := R_ldA Q180 (by decide +kernel) rfl
theorem e180_46 {ls : zL} {st : List Value} {w : zW} : Rv 180 46 ls st w = ldA ls 0 fun x => Rv 180 47 ls (x :: st) w := R_ldA Q180 (by decide +kernel) rfl
theorem e180_47 {ls : zL} {st : List Value} {w : zW} {a : Nat} : Rv 180 47 ls (.ref a :: st) w = gF w a 6 0 fun v => Rv 180 50 ls (v :: st) w := R_gF (z := 1070) Q180 (by decide +kernel) rfl
theorem e180_50 {ls : zL} {st : List Value} {w : zW} : Rv 180 50 ls st w = Rv 180 52 ls (.int 7 :: st) w := R_con Q180 (by decide +kernel) rfl (by decide)
theorem e180_52 {ls : zL} {st : List Value} {w : zW} : Rv 180 52 ls st w = ldI ls 1 fun x => Rv 180 53 ls (.int x :: st) w := R_ldI Q180 (by decide +kernel) rfl
theorem e180_53 {ls : zL} {st : List Value} {w : zW} {x y : Int32} : Rv 180 53 ls (.int y :: .int x :: st) w = Rv 180 54 ls (.int (x + y) :: st) w := R_next Q180 (by decide +kernel) rfl
theorem e180_54 {ls : zL} {st : List Value} {w : zW} {a : Nat} {x : Int32} : Rv 180 54 ls (.int x :: .ref a :: st) w = gI w a 0 8 x fun v => Rv 180 55 ls (.int v :: st) w := R_iald Q180 (by decide +kernel)
theorem e180_55 {ls : zL} {st : List Value} {w : zW} : Rv 180 55 ls st w = ldI ls 2 fun x => Rv 180 56 ls (.int x :: st) w := R_ldI Q180 (by decide +kernel) rfl
theorem e180_56 {ls : zL} {w : zW} {n1 : Int32} {n2 : Int32} {a0 : Nat} : Rv 180 56 ls [.int n1, .int n2, .ref a0] w = hO w a0 6 (cal (Rv 152 0 [some (.ref a0), some (.int n2), some (.int n1), none, none] [] w) (fun v w' => Rv 180 59 ls (vts v []) w') (xnone)) := R_calV (z := 1175) (r := []) Q180 (by decide +kernel) rfl rfl Q152 rfl rfl rfl
theorem e180_59 {ls : zL} {st : List Value} {w : zW} {x : Int32} : Rv 180 59 ls (.int x :: st) w = lst ls 4 (some (.int x)) fun l => Rv 180 61 l st w := R_st Q180 (by decide +kernel) rfl
theorem e180_61 {ls : zL} {st : List Value} {w : zW} : Rv 180 61 ls st w = ldA ls 0 fun x => Rv 180 62 ls (x :: st) w := R_ldA Q180 (by decide +kernel) rfl
theorem e180_62 {ls : zL} {st : List Value} {w : zW} {a : Nat} : Rv 180 62 ls (.ref a :: st) w = gF w a 6 0 fun v => Rv 180 65 ls (v :: st) w := R_gF (z := 1070) Q180 (by decide +kernel) rfl
theorem e180_65 {ls : zL} {st : List Value} {w : zW} : Rv 180 65 ls st w = Rv 180 67 ls (.int 7 :: st) w := R_con Q180 (by decide +kernel) rfl (by decide)
theorem e180_67 {ls : zL} {st : List Value} {w : zW} : Rv 180 67 ls st w = ldI ls 1 fun x => Rv 180 68 ls (.int x :: st) w := R_ldI Q180 (by decide +kernel) rfl
theorem e180_68 {ls : zL} {st : List Value} {w : zW} {x y : Int32} : Rv 180 68 ls (.int y :: .int x :: st) w = Rv 180 69 ls (.int (x + y) :: st) w := R_next Q180 (by decide +kernel) rfl
theorem e180_69 {ls : zL} {st : List Value} {w : zW} : Rv 180 69 ls st w = ldI ls 2 fun x => Rv 180 70 ls (.int x :: st) w := R_ldI Q180 (by decide +kernel) rfl
theorem e180_70 {ls : zL} {st : List Value} {w : zW} {a : Nat} {x y : Int32} : Rv 180 70 ls (.int y :: .int x :: .ref a :: st) w = pI w a 0 x y fun w' => Rv 180 71 ls st w' := R_iast Q180 (by decide +kernel)
theorem e180_71 {ls : zL} {st : List Value} {w : zW} : Rv 180 71 ls st w = ldI ls 4 fun x => Rv 180 73 ls (.int x :: st) w := R_ldI Q180 (by decide +kernel) rfl
theorem e180_73 {ls : zL} {w : zW} {x : Int32} : Rv 180 73 ls [.int x] w = some (.inl (some (.int x)), w) := R_retI Q180 (by decide +kernel) rfl
/-! MasterPinsModel.recut -/
theorem e181_0 {ls : zL} {st : List Value} {w : zW} : Rv 181 0 ls st w = ldA ls 0 fun x => Rv 181 1 ls (x :: st) w := R_ldA Q181 (by decide +kernel) rfl
theorem e181_1 {ls : zL} {st : List Value} {w : zW} : Rv 181 1 ls st w = ldI ls 1 fun x => Rv 181 2 ls (.int x :: st) w := R_ldI Q181 (by decide +kernel) rfl
theorem e181_2 {ls : zL} {st : List Value} {w : zW} : Rv 181 2 ls st w = ldI ls 2 fun x => Rv 181 3 ls (.int x :: st) w := R_ldI Q181 (by decide +kernel) rfl
theorem e181_3 {ls : zL} {st : List Value} {w : zW} : Rv 181 3 ls st w = Rv 181 4 ls (.int 1 :: st) w := R_con Q181 (by decide +kernel) rfl (by decide)
theorem e181_4 {ls : zL} {w : zW} {n1 : Int32} {n2 : Int32} {n3 : Int32} {a0 : Nat} : Rv 181 4 ls [.int n1, .int n2, .int n3, .ref a0] w = hO w a0 6 (cal (Rv 180 0 [some (.ref a0), some (.int n3), some (.int n2), some (.int n1), none] [] w) (fun v w' => Rv 181 7 ls (vts v []) w') (xnone)) := R_calV (z := 1183) (r := []) Q181 (by decide +kernel) rfl rfl Q180 rfl rfl rfl
theorem e181_7 {ls : zL} {w : zW} {x : Int32} : Rv 181 7 ls [.int x] w = some (.inl (some (.int x)), w) := R_retI Q181 (by decide +kernel) rfl
/-! MasterPinsModel.loses -/
theorem e182_0 {ls : zL} {st : List Value} {w : zW} : Rv 182 0 ls st w = ldA ls 0 fun x => Rv 182 1 ls (x :: st) w := R_ldA Q182 (by decide +kernel) rfl
theorem e182_1 {ls : zL} {st : List Value} {w : zW} : Rv 182 1 ls st w = ldA ls 0 fun x => Rv 182 2 ls (x :: st) w := R_ldA Q182 (by decide +kernel) rfl
theorem e182_2 {ls : zL} {st : List Value} {w : zW} : Rv 182 2 ls st w = ldI ls 1 fun x => Rv 182 3 ls (.int x :: st) w := R_ldI Q182 (by decide +kernel) rfl
theorem e182_3 {ls : zL} {w : zW} {n1 : Int32} {a0 : Nat} {a2 : Nat} : Rv 182 3 ls [.int n1, .ref a0, .ref a2] w = hO w a0 6 (cal (Rv 144 0 [some (.ref a0), some (.int n1)] [] w) (fun v w' => Rv 182 6 ls (vts v [.ref a2]) w') (xnone)) := R_calV (z := 1146) (r := [.ref a2]) Q182 (by decide +kernel) rfl rfl Q144 rfl rfl rfl
theorem e182_6 {ls : zL} {st : List Value} {w : zW} : Rv 182 6 ls st w = ldA ls 0 fun x => Rv 182 7 ls (x :: st) w := R_ldA Q182 (by decide +kernel) rfl
theorem e182_7 {ls : zL} {st : List Value} {w : zW} : Rv 182 7 ls st w = ldI ls 1 fun x => Rv 182 8 ls (.int x :: st) w := R_ldI Q182 (by decide +kernel) rfl
theorem e182_8 {ls : zL} {w : zW} {n1 : Int32} {a0 : Nat} {n2 : Int32} {a3 : Nat} : Rv 182 8 ls [.int n1, .ref a0, .int n2, .ref a3] w = hO w a0 6 (cal (Rv 144 0 [some (.ref a0), some (.int n1)] [] w) (fun v w' => Rv 182 11 ls (vts v [.int n2, .ref a3]) w') (xnone)) := R_calV (z := 1146) (r := [.int n2, .ref a3]) Q182 (by decide +kernel) rfl rfl Q144 rfl rfl rfl
theorem e182_11 {ls : zL} {st : List Value} {w : zW} {x : Int32} : Rv 182 11 ls (.int x :: st) w = if x = 0 then Rv 182 26 ls st w else Rv 182 14 ls st w := R_f0eq Q182 (by decide +kernel) rfl rfl
theorem e182_14 {ls : zL} {st : List Value} {w : zW} : Rv 182 14 ls st w = ldA ls 0 fun x => Rv 182 15 ls (x :: st) w := R_ldA Q182 (by decide +kernel) rfl
theorem e182_15 {ls : zL} {st : List Value} {w : zW} {a : Nat} : Rv 182 15 ls (.ref a :: st) w = gF w a 6 0 fun v => Rv 182 18 ls (v :: st) w := R_gF (z := 1070) Q182 (by decide +kernel) rfl
theorem e182_18 {ls : zL} {st : List Value} {w : zW} : Rv 182 18 ls st w = Rv 182 20 ls (.int 39 :: st) w := R_con Q182 (by decide +kernel) rfl (by decide)
theorem e182_20 {ls : zL} {st : List Value} {w : zW} : Rv 182 20 ls st w = ldI ls 1 fun x => Rv 182 21 ls (.int x :: st) w := R_ldI Q182 (by decide +kernel) rfl
theorem e182_21 {ls : zL} {st : List Value} {w : zW} {x y : Int32} : Rv 182 21 ls (.int y :: .int x :: st) w = Rv 182 22 ls (.int (x + y) :: st) w := R_next Q182 (by decide +kernel) rfl
theorem e182_22 {ls : zL} {st : List Value} {w : zW} {a : Nat} {x : Int32} : Rv 182 22 ls (.int x :: .ref a :: st) w = gI w a 0 8 x fun v => Rv 182 23 ls (.int v :: st) w := R_iald Q182 (by decide +kernel)
theorem e182_23 {ls : zL} {st : List Value} {w : zW} {x : Int32} : Rv 182 23 ls (.int x :: st) w = if x = 0 then Rv 182 26 ls st w else Rv 182 30 ls st w := R_f0ne Q182 (by decide +kernel) rfl rfl
theorem e182_26 {ls : zL} {st : List Value} {w : zW} : Rv 182 26 ls st w = Rv 182 27 ls (.int 1 :: st) w := R_con Q182 (by decide +kernel) rfl (by decide)
theorem e182_27 {ls : zL} {st : List Value} {w : zW} : Rv 182 27 ls st w = Rv 182 31 ls st w := R_go Q182 (by decide +kernel) rfl rfl
theorem e182_30 {ls : zL} {st : List Value} {w : zW} : Rv 182 30 ls st w = Rv 182 31 ls (.int 0 :: st) w := R_con Q182 (by decide +kernel) rfl (by decide)
theorem e182_31 {ls : zL} {st : List Value} {w : zW} : Rv 182 31 ls st w = Rv 182 32 ls (.int 1 :: st) w := R_con Q182 (by decide +kernel) rfl (by decide)
theorem e182_32 {ls : zL} {w : zW} {n1 : Int32} {n2 : Int32} {n3 : Int32} {a0 : Nat} : Rv 182 32 ls [.int n1, .int n2, .int n3, .ref a0] w = hO w a0 6 (cal (Rv 142 0 [some (.ref a0), some (.int n3), some (.int n2), some (.int n1)] [] w) (fun v w' => Rv 182 35 ls (vts v []) w') (xnone)) := R_calV (z := 1122) (r := []) Q182 (by decide +kernel) rfl rfl Q142 rfl rfl rfl
theorem e182_35 {ls : zL} {st : List Value} {w : zW} {x : Int32} : Rv 182 35 ls (.int x :: st) w = if x = 0 then Rv 182 40 ls st w else Rv 182 38 ls st w := R_f0eq Q182 (by decide +kernel) rfl rfl
theorem e182_38 {ls : zL} {st : List Value} {w : zW} : Rv 182 38 ls st w = Rv 182 39 ls (.int 0 :: st) w := R_con Q182 (by decide +kernel) rfl (by decide)
theorem e182_39 {ls : zL} {w : zW} {x : Int32} : Rv 182 39 ls [.int x] w = some (.inl (some (.int x)), w) := R_retI Q182 (by decide +kernel) rfl
theorem e182_40 {ls : zL} {st : List Value} {w : zW} : Rv 182 40 ls st w = ldI ls 2 fun x => Rv 182 41 ls (.int x :: st) w := R_ldI Q182 (by decide +kernel) rfl
theorem e182_41 {ls : zL} {st : List Value} {w : zW} {x : Int32} : Rv 182 41 ls (.int x :: st) w = if x = 0 then Rv 182 48 ls st w else Rv 182 44 ls st w := R_f0eq Q182 (by decide +kernel) rfl rfl
theorem e182_44 {ls : zL} {st : List Value} {w : zW} : Rv 182 44 ls st w = ldA ls 0 fun x => Rv 182 45 ls (x :: st) w := R_ldA Q182 (by decide +kernel) rfl
theorem e182_45 {ls : zL} {w : zW} {a0 : Nat} : Rv 182 45 ls [.ref a0] w = hO w a0 6 (cal (Rv 143 0 [some (.ref a0), none] [] w) (fun v w' => Rv 182 48 ls (vts v []) w') (xnone)) := R_calV (z := 1126) (r := []) Q182 (by decide +kernel) rfl rfl Q143 rfl rfl rfl
theorem e182_48 {ls : zL} {st : List Value} {w : zW} : Rv 182 48 ls st w = ldA ls 0 fun x => Rv 182 49 ls (x :: st) w := R_ldA Q182 (by decide +kernel) rfl
theorem e182_49 {ls : zL} {st : List Value} {w : zW} {a : Nat} : Rv 182 49 ls (.ref a :: st) w = gF w a 6 0 fun v => Rv 182 52 ls (v :: st) w := R_gF (z := 1070) Q182 (by decide +kernel) rfl
theorem e182_52 {ls : zL} {st : List Value} {w : zW} : Rv 182 52 ls st w = Rv 182 54 ls (.int 39 :: st) w := R_con Q182 (by decide +kernel) rfl (by decide)
theorem e182_54 {ls : zL} {st : List Value} {w : zW} : Rv 182 54 ls st w = ldI ls 1 fun x => Rv 182 55 ls (.int x :: st) w := R_ldI Q182 (by decide +kernel) rfl
theorem e182_55 {ls : zL} {st : List Value} {w : zW} {x y : Int32} : Rv 182 55 ls (.int y :: .int x :: st) w = Rv 182 56 ls (.int (x + y) :: st) w := R_next Q182 (by decide +kernel) rfl
theorem e182_56 {ls : zL} {st : List Value} {w : zW} : Rv 182 56 ls st w = Rv 182 57 ls (.int 1 :: st) w := R_con Q182 (by decide +kernel) rfl (by decide)
theorem e182_57 {ls : zL} {st : List Value} {w : zW} {a : Nat} {x y : Int32} : Rv 182 57 ls (.int y :: .int x :: .ref a :: st) w = pI w a 0 x y fun w' => Rv 182 58 ls st w' := R_iast Q182 (by decide +kernel)
theorem e182_58 {ls : zL} {st : List Value} {w : zW} : Rv 182 58 ls st w = ldA ls 0 fun x => Rv 182 59 ls (x :: st) w := R_ldA Q182 (by decide +kernel) rfl
theorem e182_59 {ls : zL} {st : List Value} {w : zW} : Rv 182 59 ls st w = ldA ls 0 fun x => Rv 182 60 ls (x :: st) w := R_ldA Q182 (by decide +kernel) rfl
theorem e182_60 {ls : zL} {st : List Value} {w : zW} {a : Nat} : Rv 182 60 ls (.ref a :: st) w = gF w a 6 0 fun v => Rv 182 63 ls (v :: st) w := R_gF (z := 1070) Q182 (by decide +kernel) rfl
theorem e182_63 {ls : zL} {st : List Value} {w : zW} : Rv 182 63 ls st w = Rv 182 65 ls (.int 7 :: st) w := R_con Q182 (by decide +kernel) rfl (by decide)
theorem e182_65 {ls : zL} {st : List Value} {w : zW} : Rv 182 65 ls st w = ldI ls 1 fun x => Rv 182 66 ls (.int x :: st) w := R_ldI Q182 (by decide +kernel) rfl
theorem e182_66 {ls : zL} {st : List Value} {w : zW} {x y : Int32} : Rv 182 66 ls (.int y :: .int x :: st) w = Rv 182 67 ls (.int (x + y) :: st) w := R_next Q182 (by decide +kernel) rfl
theorem e182_67 {ls : zL} {st : List Value} {w : zW} {a : Nat} {x : Int32} : Rv 182 67 ls (.int x :: .ref a :: st) w = gI w a 0 8 x fun v => Rv 182 68 ls (.int v :: st) w := R_iald Q182 (by decide +kernel)
theorem e182_68 {ls : zL} {w : zW} {n1 : Int32} {a0 : Nat} : Rv 182 68 ls [.int n1, .ref a0] w = hO w a0 6 (cal (Rv 172 0 [some (.ref a0), some (.int n1), none, none] [] w) (fun v w' => Rv 182 71 ls (vts v []) w') (xnone)) := R_calV (z := 1195) (r := []) Q182 (by decide +kernel) rfl rfl Q172 rfl rfl rfl
theorem e182_71 {ls : zL} {w : zW} {n1 : Int32} : Rv 182 71 ls [.int n1] w = cal (Rv 146 0 [some (.int n1), none, none] [] w) (fun v w' => Rv 182 74 ls (vts v []) w') (xnone) := R_calS (z := 1172) (kd := 1) (n := 1) Q182 (by decide +kernel) rfl (Or.inl rfl) (Nat.le_of_ble_eq_true rfl) rfl Q146 rfl rfl rfl
theorem e182_74 {ls : zL} {w : zW} {x : Int32} : Rv 182 74 ls [.int x] w = some (.inl (some (.int x)), w) := R_retI Q182 (by decide +kernel) rfl
/-! MasterPinsModel.lose -/
theorem e183_0 {ls : zL} {st : List Value} {w : zW} : Rv 183 0 ls st w = ldA ls 0 fun x => Rv 183 1 ls (x :: st) w := R_ldA Q183 (by decide +kernel) rfl
theorem e183_1 {ls : zL} {st : List Value} {w : zW} : Rv 183 1 ls st w = ldI ls 1 fun x => Rv 183 2 ls (.int x :: st) w := R_ldI Q183 (by decide +kernel) rfl
theorem e183_2 {ls : zL} {st : List Value} {w : zW} : Rv 183 2 ls st w = Rv 183 3 ls (.int 1 :: st) w := R_con Q183 (by decide +kernel) rfl (by decide)
theorem e183_3 {ls : zL} {w : zW} {n1 : Int32} {n2 : Int32} {a0 : Nat} : Rv 183 3 ls [.int n1, .int n2, .ref a0] w = hO w a0 6 (cal (Rv 182 0 [some (.ref a0), some (.int n2), some (.int n1)] [] w) (fun v w' => Rv 183 6 ls (vts v []) w') (xnone)) := R_calV (z := 1191) (r := []) Q183 (by decide +kernel) rfl rfl Q182 rfl rfl rfl
theorem e183_6 {ls : zL} {w : zW} {x : Int32} : Rv 183 6 ls [.int x] w = some (.inl (some (.int x)), w) := R_retI Q183 (by decide +kernel) rfl
/-! MasterPinsModel.finds -/
theorem e184_0 {ls : zL} {st : List Value} {w : zW} : Rv 184 0 ls st w = ldA ls 0 fun x => Rv 184 1 ls (x :: st) w := R_ldA Q184 (by decide +kernel) rfl
theorem e184_1 {ls : zL} {st : List Value} {w : zW} : Rv 184 1 ls st w = ldA ls 0 fun x => Rv 184 2 ls (x :: st) w := R_ldA Q184 (by decide +kernel) rfl
theorem e184_2 {ls : zL} {st : List Value} {w : zW} : Rv 184 2 ls st w = ldI ls 1 fun x => Rv 184 3 ls (.int x :: st) w := R_ldI Q184 (by decide +kernel) rfl
theorem e184_3 {ls : zL} {w : zW} {n1 : Int32} {a0 : Nat} {a2 : Nat} : Rv 184 3 ls [.int n1, .ref a0, .ref a2] w = hO w a0 6 (cal (Rv 144 0 [some (.ref a0), some (.int n1)] [] w) (fun v w' => Rv 184 6 ls (vts v [.ref a2]) w') (xnone)) := R_calV (z := 1146) (r := [.ref a2]) Q184 (by decide +kernel) rfl rfl Q144 rfl rfl rfl
theorem e184_6 {ls : zL} {st : List Value} {w : zW} : Rv 184 6 ls st w = ldA ls 0 fun x => Rv 184 7 ls (x :: st) w := R_ldA Q184 (by decide +kernel) rfl
theorem e184_7 {ls : zL} {st : List Value} {w : zW} : Rv 184 7 ls st w = ldI ls 1 fun x => Rv 184 8 ls (.int x :: st) w := R_ldI Q184 (by decide +kernel) rfl
theorem e184_8 {ls : zL} {w : zW} {n1 : Int32} {a0 : Nat} {n2 : Int32} {a3 : Nat} : Rv 184 8 ls [.int n1, .ref a0, .int n2, .ref a3] w = hO w a0 6 (cal (Rv 144 0 [some (.ref a0), some (.int n1)] [] w) (fun v w' => Rv 184 11 ls (vts v [.int n2, .ref a3]) w') (xnone)) := R_calV (z := 1146) (r := [.int n2, .ref a3]) Q184 (by decide +kernel) rfl rfl Q144 rfl rfl rfl
theorem e184_11 {ls : zL} {st : List Value} {w : zW} {x : Int32} : Rv 184 11 ls (.int x :: st) w = if x = 0 then Rv 184 27 ls st w else Rv 184 14 ls st w := R_f0eq Q184 (by decide +kernel) rfl rfl
theorem e184_14 {ls : zL} {st : List Value} {w : zW} : Rv 184 14 ls st w = ldA ls 0 fun x => Rv 184 15 ls (x :: st) w := R_ldA Q184 (by decide +kernel) rfl
theorem e184_15 {ls : zL} {st : List Value} {w : zW} {a : Nat} : Rv 184 15 ls (.ref a :: st) w = gF w a 6 0 fun v => Rv 184 18 ls (v :: st) w := R_gF (z := 1070) Q184 (by decide +kernel) rfl
theorem e184_18 {ls : zL} {st : List Value} {w : zW} : Rv 184 18 ls st w = Rv 184 20 ls (.int 39 :: st) w := R_con Q184 (by decide +kernel) rfl (by decide)
theorem e184_20 {ls : zL} {st : List Value} {w : zW} : Rv 184 20 ls st w = ldI ls 1 fun x => Rv 184 21 ls (.int x :: st) w := R_ldI Q184 (by decide +kernel) rfl
theorem e184_21 {ls : zL} {st : List Value} {w : zW} {x y : Int32} : Rv 184 21 ls (.int y :: .int x :: st) w = Rv 184 22 ls (.int (x + y) :: st) w := R_next Q184 (by decide +kernel) rfl
theorem e184_22 {ls : zL} {st : List Value} {w : zW} {a : Nat} {x : Int32} : Rv 184 22 ls (.int x :: .ref a :: st) w = gI w a 0 8 x fun v => Rv 184 23 ls (.int v :: st) w := R_iald Q184 (by decide +kernel)
theorem e184_23 {ls : zL} {st : List Value} {w : zW} : Rv 184 23 ls st w = Rv 184 24 ls (.int 1 :: st) w := R_con Q184 (by decide +kernel) rfl (by decide)
theorem e184_24 {ls : zL} {st : List Value} {w : zW} {x y : Int32} : Rv 184 24 ls (.int y :: .int x :: st) w = if x = y then Rv 184 27 ls st w else Rv 184 31 ls st w := R_fine Q184 (by decide +kernel) rfl rfl
theorem e184_27 {ls : zL} {st : List Value} {w : zW} : Rv 184 27 ls st w = Rv 184 28 ls (.int 1 :: st) w := R_con Q184 (by decide +kernel) rfl (by decide)
theorem e184_28 {ls : zL} {st : List Value} {w : zW} : Rv 184 28 ls st w = Rv 184 32 ls st w := R_go Q184 (by decide +kernel) rfl rfl
theorem e184_31 {ls : zL} {st : List Value} {w : zW} : Rv 184 31 ls st w = Rv 184 32 ls (.int 0 :: st) w := R_con Q184 (by decide +kernel) rfl (by decide)
theorem e184_32 {ls : zL} {st : List Value} {w : zW} : Rv 184 32 ls st w = Rv 184 33 ls (.int 1 :: st) w := R_con Q184 (by decide +kernel) rfl (by decide)
theorem e184_33 {ls : zL} {w : zW} {n1 : Int32} {n2 : Int32} {n3 : Int32} {a0 : Nat} : Rv 184 33 ls [.int n1, .int n2, .int n3, .ref a0] w = hO w a0 6 (cal (Rv 142 0 [some (.ref a0), some (.int n3), some (.int n2), some (.int n1)] [] w) (fun v w' => Rv 184 36 ls (vts v []) w') (xnone)) := R_calV (z := 1122) (r := []) Q184 (by decide +kernel) rfl rfl Q142 rfl rfl rfl
theorem e184_36 {ls : zL} {st : List Value} {w : zW} {x : Int32} : Rv 184 36 ls (.int x :: st) w = if x = 0 then Rv 184 41 ls st w else Rv 184 39 ls st w := R_f0eq Q184 (by decide +kernel) rfl rfl
theorem e184_39 {ls : zL} {st : List Value} {w : zW} : Rv 184 39 ls st w = Rv 184 40 ls (.int 0 :: st) w := R_con Q184 (by decide +kernel) rfl (by decide)
theorem e184_40 {ls : zL} {w : zW} {x : Int32} : Rv 184 40 ls [.int x] w = some (.inl (some (.int x)), w) := R_retI Q184 (by decide +kernel) rfl
theorem e184_41 {ls : zL} {st : List Value} {w : zW} : Rv 184 41 ls st w = ldI ls 2 fun x => Rv 184 42 ls (.int x :: st) w := R_ldI Q184 (by decide +kernel) rfl
theorem e184_42 {ls : zL} {st : List Value} {w : zW} {x : Int32} : Rv 184 42 ls (.int x :: st) w = if x = 0 then Rv 184 49 ls st w else Rv 184 45 ls st w := R_f0eq Q184 (by decide +kernel) rfl rfl
theorem e184_45 {ls : zL} {st : List Value} {w : zW} : Rv 184 45 ls st w = ldA ls 0 fun x => Rv 184 46 ls (x :: st) w := R_ldA Q184 (by decide +kernel) rfl
theorem e184_46 {ls : zL} {w : zW} {a0 : Nat} : Rv 184 46 ls [.ref a0] w = hO w a0 6 (cal (Rv 143 0 [some (.ref a0), none] [] w) (fun v w' => Rv 184 49 ls (vts v []) w') (xnone)) := R_calV (z := 1126) (r := []) Q184 (by decide +kernel) rfl rfl Q143 rfl rfl rfl
theorem e184_49 {ls : zL} {st : List Value} {w : zW} : Rv 184 49 ls st w = ldA ls 0 fun x => Rv 184 50 ls (x :: st) w := R_ldA Q184 (by decide +kernel) rfl
theorem e184_50 {ls : zL} {st : List Value} {w : zW} {a : Nat} : Rv 184 50 ls (.ref a :: st) w = gF w a 6 0 fun v => Rv 184 53 ls (v :: st) w := R_gF (z := 1070) Q184 (by decide +kernel) rfl
theorem e184_53 {ls : zL} {st : List Value} {w : zW} : Rv 184 53 ls st w = Rv 184 55 ls (.int 39 :: st) w := R_con Q184 (by decide +kernel) rfl (by decide)
theorem e184_55 {ls : zL} {st : List Value} {w : zW} : Rv 184 55 ls st w = ldI ls 1 fun x => Rv 184 56 ls (.int x :: st) w := R_ldI Q184 (by decide +kernel) rfl
theorem e184_56 {ls : zL} {st : List Value} {w : zW} {x y : Int32} : Rv 184 56 ls (.int y :: .int x :: st) w = Rv 184 57 ls (.int (x + y) :: st) w := R_next Q184 (by decide +kernel) rfl
theorem e184_57 {ls : zL} {st : List Value} {w : zW} : Rv 184 57 ls st w = Rv 184 58 ls (.int 0 :: st) w := R_con Q184 (by decide +kernel) rfl (by decide)
theorem e184_58 {ls : zL} {st : List Value} {w : zW} {a : Nat} {x y : Int32} : Rv 184 58 ls (.int y :: .int x :: .ref a :: st) w = pI w a 0 x y fun w' => Rv 184 59 ls st w' := R_iast Q184 (by decide +kernel)
theorem e184_59 {ls : zL} {st : List Value} {w : zW} : Rv 184 59 ls st w = ldA ls 0 fun x => Rv 184 60 ls (x :: st) w := R_ldA Q184 (by decide +kernel) rfl
theorem e184_60 {ls : zL} {w : zW} {a0 : Nat} : Rv 184 60 ls [.ref a0] w = hO w a0 6 (cal (Rv 157 0 [some (.ref a0), none, none] [] w) (fun v w' => Rv 184 63 ls (vts v []) w') (xnone)) := R_calV (z := 1215) (r := []) Q184 (by decide +kernel) rfl rfl Q157 rfl rfl rfl
theorem e184_63 {ls : zL} {w : zW} {n1 : Int32} : Rv 184 63 ls [.int n1] w = cal (Rv 146 0 [some (.int n1), none, none] [] w) (fun v w' => Rv 184 66 ls (vts v []) w') (xnone) := R_calS (z := 1172) (kd := 1) (n := 1) Q184 (by decide +kernel) rfl (Or.inl rfl) (Nat.le_of_ble_eq_true rfl) rfl Q146 rfl rfl rfl
theorem e184_66 {ls : zL} {w : zW} {x : Int32} : Rv 184 66 ls [.int x] w = some (.inl (some (.int x)), w) := R_retI Q184 (by decide +kernel) rfl
/-! MasterPinsModel.find -/
theorem e185_0 {ls : zL} {st : List Value} {w : zW} : Rv 185 0 ls st w = ldA ls 0 fun x => Rv 185 1 ls (x :: st) w := R_ldA Q185 (by decide +kernel) rfl
theorem e185_1 {ls : zL} {st : List Value} {w : zW} : Rv 185 1 ls st w = ldI ls 1 fun x => Rv 185 2 ls (.int x :: st) w := R_ldI Q185 (by decide +kernel) rfl
theorem e185_2 {ls : zL} {st : List Value} {w : zW} : Rv 185 2 ls st w = Rv 185 3 ls (.int 1 :: st) w := R_con Q185 (by decide +kernel) rfl (by decide)
theorem e185_3 {ls : zL} {w : zW} {n1 : Int32} {n2 : Int32} {a0 : Nat} : Rv 185 3 ls [.int n1, .int n2, .ref a0] w = hO w a0 6 (cal (Rv 184 0 [some (.ref a0), some (.int n2), some (.int n1)] [] w) (fun v w' => Rv 185 6 ls (vts v []) w') (xnone)) := R_calV (z := 1211) (r := []) Q185 (by decide +kernel) rfl rfl Q184 rfl rfl rfl
theorem e185_6 {ls : zL} {w : zW} {x : Int32} : Rv 185 6 ls [.int x] w = some (.inl (some (.int x)), w) := R_retI Q185 (by decide +kernel) rfl
/-! MasterPinsModel.addsDoor -/
theorem e186_0 {ls : zL} {st : List Value} {w : zW} : Rv 186 0 ls st w = ldA ls 0 fun x => Rv 186 1 ls (x :: st) w := R_ldA Q186 (by decide +kernel) rfl
theorem e186_1 {ls : zL} {st : List Value} {w : zW} : Rv 186 1 ls st w = ldA ls 0 fun x => Rv 186 2 ls (x :: st) w := R_ldA Q186 (by decide +kernel) rfl
theorem e186_2 {ls : zL} {st : List Value} {w : zW} : Rv 186 2 ls st w = ldI ls 1 fun x => Rv 186 3 ls (.int x :: st) w := R_ldI Q186 (by decide +kernel) rfl
theorem e186_3 {ls : zL} {w : zW} {n1 : Int32} {a0 : Nat} {a2 : Nat} : Rv 186 3 ls [.int n1, .ref a0, .ref a2] w = hO w a0 6 (cal (Rv 144 0 [some (.ref a0), some (.int n1)] [] w) (fun v w' => Rv 186 6 ls (vts v [.ref a2]) w') (xnone)) := R_calV (z := 1146) (r := [.ref a2]) Q186 (by decide +kernel) rfl rfl Q144 rfl rfl rfl
theorem e186_6 {ls : zL} {st : List Value} {w : zW} : Rv 186 6 ls st w = ldA ls 0 fun x => Rv 186 7 ls (x :: st) w := R_ldA Q186 (by decide +kernel) rfl
theorem e186_7 {ls : zL} {st : List Value} {w : zW} {a : Nat} : Rv 186 7 ls (.ref a :: st) w = gF w a 6 0 fun v => Rv 186 10 ls (v :: st) w := R_gF (z := 1070) Q186 (by decide +kernel) rfl
theorem e186_10 {ls : zL} {st : List Value} {w : zW} : Rv 186 10 ls st w = Rv 186 12 ls (.int 6 :: st) w := R_con Q186 (by decide +kernel) rfl (by decide)
theorem e186_12 {ls : zL} {st : List Value} {w : zW} {a : Nat} {x : Int32} : Rv 186 12 ls (.int x :: .ref a :: st) w = gI w a 0 8 x fun v => Rv 186 13 ls (.int v :: st) w := R_iald Q186 (by decide +kernel)
theorem e186_13 {ls : zL} {st : List Value} {w : zW} : Rv 186 13 ls st w = Rv 186 15 ls (.int 12 :: st) w := R_con Q186 (by decide +kernel) rfl (by decide)
theorem e186_15 {ls : zL} {st : List Value} {w : zW} {x y : Int32} : Rv 186 15 ls (.int y :: .int x :: st) w = if x < y then Rv 186 18 ls st w else Rv 186 22 ls st w := R_fige Q186 (by decide +kernel) rfl rfl
theorem e186_18 {ls : zL} {st : List Value} {w : zW} : Rv 186 18 ls st w = Rv 186 19 ls (.int 1 :: st) w := R_con Q186 (by decide +kernel) rfl (by decide)
theorem e186_19 {ls : zL} {st : List Value} {w : zW} : Rv 186 19 ls st w = Rv 186 23 ls st w := R_go Q186 (by decide +kernel) rfl rfl
theorem e186_22 {ls : zL} {st : List Value} {w : zW} : Rv 186 22 ls st w = Rv 186 23 ls (.int 0 :: st) w := R_con Q186 (by decide +kernel) rfl (by decide)
theorem e186_23 {ls : zL} {st : List Value} {w : zW} : Rv 186 23 ls st w = Rv 186 24 ls (.int 1 :: st) w := R_con Q186 (by decide +kernel) rfl (by decide)
theorem e186_24 {ls : zL} {w : zW} {n1 : Int32} {n2 : Int32} {n3 : Int32} {a0 : Nat} : Rv 186 24 ls [.int n1, .int n2, .int n3, .ref a0] w = hO w a0 6 (cal (Rv 142 0 [some (.ref a0), some (.int n3), some (.int n2), some (.int n1)] [] w) (fun v w' => Rv 186 27 ls (vts v []) w') (xnone)) := R_calV (z := 1122) (r := []) Q186 (by decide +kernel) rfl rfl Q142 rfl rfl rfl
theorem e186_27 {ls : zL} {st : List Value} {w : zW} {x : Int32} : Rv 186 27 ls (.int x :: st) w = if x = 0 then Rv 186 32 ls st w else Rv 186 30 ls st w := R_f0eq Q186 (by decide +kernel) rfl rfl
theorem e186_30 {ls : zL} {st : List Value} {w : zW} : Rv 186 30 ls st w = Rv 186 31 ls (.int 0 :: st) w := R_con Q186 (by decide +kernel) rfl (by decide)
theorem e186_31 {ls : zL} {w : zW} {x : Int32} : Rv 186 31 ls [.int x] w = some (.inl (some (.int x)), w) := R_retI Q186 (by decide +kernel) rfl
theorem e186_32 {ls : zL} {st : List Value} {w : zW} : Rv 186 32 ls st w = ldI ls 2 fun x => Rv 186 33 ls (.int x :: st) w := R_ldI Q186 (by decide +kernel) rfl
theorem e186_33 {ls : zL} {st : List Value} {w : zW} {x : Int32} : Rv 186 33 ls (.int x :: st) w = if x = 0 then Rv 186 40 ls st w else Rv 186 36 ls st w := R_f0eq Q186 (by decide +kernel) rfl rfl
theorem e186_36 {ls : zL} {st : List Value} {w : zW} : Rv 186 36 ls st w = ldA ls 0 fun x => Rv 186 37 ls (x :: st) w := R_ldA Q186 (by decide +kernel) rfl
theorem e186_37 {ls : zL} {w : zW} {a0 : Nat} : Rv 186 37 ls [.ref a0] w = hO w a0 6 (cal (Rv 143 0 [some (.ref a0), none] [] w) (fun v w' => Rv 186 40 ls (vts v []) w') (xnone)) := R_calV (z := 1126) (r := []) Q186 (by decide +kernel) rfl rfl Q143 rfl rfl rfl
theorem e186_40 {ls : zL} {st : List Value} {w : zW} : Rv 186 40 ls st w = ldA ls 0 fun x => Rv 186 41 ls (x :: st) w := R_ldA Q186 (by decide +kernel) rfl
theorem e186_41 {ls : zL} {st : List Value} {w : zW} {a : Nat} : Rv 186 41 ls (.ref a :: st) w = gF w a 6 0 fun v => Rv 186 44 ls (v :: st) w := R_gF (z := 1070) Q186 (by decide +kernel) rfl
theorem e186_44 {ls : zL} {st : List Value} {w : zW} : Rv 186 44 ls st w = Rv 186 46 ls (.int 6 :: st) w := R_con Q186 (by decide +kernel) rfl (by decide)
theorem e186_46 {ls : zL} {st : List Value} {w : zW} {a : Nat} {x : Int32} : Rv 186 46 ls (.int x :: .ref a :: st) w = gI w a 0 8 x fun v => Rv 186 47 ls (.int v :: st) w := R_iald Q186 (by decide +kernel)
theorem e186_47 {ls : zL} {st : List Value} {w : zW} {x : Int32} : Rv 186 47 ls (.int x :: st) w = lst ls 3 (some (.int x)) fun l => Rv 186 48 l st w := R_st Q186 (by decide +kernel) rfl
theorem e186_48 {ls : zL} {st : List Value} {w : zW} : Rv 186 48 ls st w = ldA ls 0 fun x => Rv 186 49 ls (x :: st) w := R_ldA Q186 (by decide +kernel) rfl
theorem e186_49 {ls : zL} {st : List Value} {w : zW} {a : Nat} : Rv 186 49 ls (.ref a :: st) w = gF w a 6 0 fun v => Rv 186 52 ls (v :: st) w := R_gF (z := 1070) Q186 (by decide +kernel) rfl
theorem e186_52 {ls : zL} {st : List Value} {w : zW} : Rv 186 52 ls st w = Rv 186 54 ls (.int 55 :: st) w := R_con Q186 (by decide +kernel) rfl (by decide)
theorem e186_54 {ls : zL} {st : List Value} {w : zW} : Rv 186 54 ls st w = ldI ls 3 fun x => Rv 186 55 ls (.int x :: st) w := R_ldI Q186 (by decide +kernel) rfl
theorem e186_55 {ls : zL} {st : List Value} {w : zW} {x y : Int32} : Rv 186 55 ls (.int y :: .int x :: st) w = Rv 186 56 ls (.int (x + y) :: st) w := R_next Q186 (by decide +kernel) rfl
theorem e186_56 {ls : zL} {st : List Value} {w : zW} : Rv 186 56 ls st w = ldI ls 1 fun x => Rv 186 57 ls (.int x :: st) w := R_ldI Q186 (by decide +kernel) rfl
theorem e186_57 {ls : zL} {st : List Value} {w : zW} {a : Nat} {x y : Int32} : Rv 186 57 ls (.int y :: .int x :: .ref a :: st) w = pI w a 0 x y fun w' => Rv 186 58 ls st w' := R_iast Q186 (by decide +kernel)
theorem e186_58 {ls : zL} {st : List Value} {w : zW} : Rv 186 58 ls st w = ldA ls 0 fun x => Rv 186 59 ls (x :: st) w := R_ldA Q186 (by decide +kernel) rfl
theorem e186_59 {ls : zL} {st : List Value} {w : zW} {a : Nat} : Rv 186 59 ls (.ref a :: st) w = gF w a 6 0 fun v => Rv 186 62 ls (v :: st) w := R_gF (z := 1070) Q186 (by decide +kernel) rfl
theorem e186_62 {ls : zL} {st : List Value} {w : zW} : Rv 186 62 ls st w = Rv 186 64 ls (.int 6 :: st) w := R_con Q186 (by decide +kernel) rfl (by decide)
theorem e186_64 {ls : zL} {st : List Value} {w : zW} {x : Int32} {y : Nat} : Rv 186 64 ls (.int x :: .ref y :: st) w = Rv 186 65 ls (.int x :: .ref y :: .int x :: .ref y :: st) w := R_next Q186 (by decide +kernel) rfl
theorem e186_65 {ls : zL} {st : List Value} {w : zW} {a : Nat} {x : Int32} : Rv 186 65 ls (.int x :: .ref a :: st) w = gI w a 0 8 x fun v => Rv 186 66 ls (.int v :: st) w := R_iald Q186 (by decide +kernel)
theorem e186_66 {ls : zL} {st : List Value} {w : zW} : Rv 186 66 ls st w = Rv 186 67 ls (.int 1 :: st) w := R_con Q186 (by decide +kernel) rfl (by decide)
theorem e186_67 {ls : zL} {st : List Value} {w : zW} {x y : Int32} : Rv 186 67 ls (.int y :: .int x :: st) w = Rv 186 68 ls (.int (x + y) :: st) w := R_next Q186 (by decide +kernel) rfl
theorem e186_68 {ls : zL} {st : List Value} {w : zW} {a : Nat} {x y : Int32} : Rv 186 68 ls (.int y :: .int x :: .ref a :: st) w = pI w a 0 x y fun w' => Rv 186 69 ls st w' := R_iast Q186 (by decide +kernel)
theorem e186_69 {ls : zL} {st : List Value} {w : zW} : Rv 186 69 ls st w = ldA ls 0 fun x => Rv 186 70 ls (x :: st) w := R_ldA Q186 (by decide +kernel) rfl
theorem e186_70 {ls : zL} {st : List Value} {w : zW} : Rv 186 70 ls st w = ldI ls 3 fun x => Rv 186 71 ls (.int x :: st) w := R_ldI Q186 (by decide +kernel) rfl
theorem e186_71 {ls : zL} {w : zW} {n1 : Int32} {a0 : Nat} : Rv 186 71 ls [.int n1, .ref a0] w = hO w a0 6 (cal (Rv 163 0 [some (.ref a0), some (.int n1), none, none] [] w) (fun v w' => Rv 186 74 ls (vts v []) w') (xnone)) := R_calV (z := 1227) (r := []) Q186 (by decide +kernel) rfl rfl Q163 rfl rfl rfl
theorem e186_74 {ls : zL} {st : List Value} {w : zW} {x : Int32} : Rv 186 74 ls (.int x :: st) w = lst ls 4 (some (.int x)) fun l => Rv 186 76 l st w := R_st Q186 (by decide +kernel) rfl
theorem e186_76 {ls : zL} {st : List Value} {w : zW} : Rv 186 76 ls st w = ldI ls 3 fun x => Rv 186 77 ls (.int x :: st) w := R_ldI Q186 (by decide +kernel) rfl
theorem e186_77 {ls : zL} {w : zW} {x : Int32} : Rv 186 77 ls [.int x] w = some (.inl (some (.int x)), w) := R_retI Q186 (by decide +kernel) rfl
/-! MasterPinsModel.addDoor -/
theorem e187_0 {ls : zL} {st : List Value} {w : zW} : Rv 187 0 ls st w = ldA ls 0 fun x => Rv 187 1 ls (x :: st) w := R_ldA Q187 (by decide +kernel) rfl
theorem e187_1 {ls : zL} {st : List Value} {w : zW} : Rv 187 1 ls st w = ldI ls 1 fun x => Rv 187 2 ls (.int x :: st) w := R_ldI Q187 (by decide +kernel) rfl
theorem e187_2 {ls : zL} {st : List Value} {w : zW} : Rv 187 2 ls st w = Rv 187 3 ls (.int 1 :: st) w := R_con Q187 (by decide +kernel) rfl (by decide)
theorem e187_3 {ls : zL} {w : zW} {n1 : Int32} {n2 : Int32} {a0 : Nat} : Rv 187 3 ls [.int n1, .int n2, .ref a0] w = hO w a0 6 (cal (Rv 186 0 [some (.ref a0), some (.int n2), some (.int n1), none, none] [] w) (fun v w' => Rv 187 6 ls (vts v []) w') (xnone)) := R_calV (z := 1223) (r := []) Q187 (by decide +kernel) rfl rfl Q186 rfl rfl rfl
theorem e187_6 {ls : zL} {w : zW} {x : Int32} : Rv 187 6 ls [.int x] w = some (.inl (some (.int x)), w) := R_retI Q187 (by decide +kernel) rfl
/-! MasterPinsModel.addsPins -/
theorem e188_0 {ls : zL} {st : List Value} {w : zW} : Rv 188 0 ls st w = ldA ls 0 fun x => Rv 188 1 ls (x :: st) w := R_ldA Q188 (by decide +kernel) rfl
theorem e188_1 {ls : zL} {st : List Value} {w : zW} : Rv 188 1 ls st w = ldA ls 0 fun x => Rv 188 2 ls (x :: st) w := R_ldA Q188 (by decide +kernel) rfl
theorem e188_2 {ls : zL} {st : List Value} {w : zW} : Rv 188 2 ls st w = ldI ls 1 fun x => Rv 188 3 ls (.int x :: st) w := R_ldI Q188 (by decide +kernel) rfl
theorem e188_3 {ls : zL} {w : zW} {n1 : Int32} {a0 : Nat} {a2 : Nat} : Rv 188 3 ls [.int n1, .ref a0, .ref a2] w = hO w a0 6 (cal (Rv 145 0 [some (.ref a0), some (.int n1)] [] w) (fun v w' => Rv 188 6 ls (vts v [.ref a2]) w') (xnone)) := R_calV (z := 1255) (r := [.ref a2]) Q188 (by decide +kernel) rfl rfl Q145 rfl rfl rfl
theorem e188_6 {ls : zL} {st : List Value} {w : zW} {x : Int32} : Rv 188 6 ls (.int x :: st) w = if x = 0 then Rv 188 21 ls st w else Rv 188 9 ls st w := R_f0eq Q188 (by decide +kernel) rfl rfl
theorem e188_9 {ls : zL} {st : List Value} {w : zW} : Rv 188 9 ls st w = ldA ls 0 fun x => Rv 188 10 ls (x :: st) w := R_ldA Q188 (by decide +kernel) rfl
theorem e188_10 {ls : zL} {st : List Value} {w : zW} : Rv 188 10 ls st w = ldI ls 2 fun x => Rv 188 11 ls (.int x :: st) w := R_ldI Q188 (by decide +kernel) rfl
theorem e188_11 {ls : zL} {w : zW} {n1 : Int32} {a0 : Nat} {a2 : Nat} : Rv 188 11 ls [.int n1, .ref a0, .ref a2] w = hO w a0 6 (cal (Rv 144 0 [some (.ref a0), some (.int n1)] [] w) (fun v w' => Rv 188 14 ls (vts v [.ref a2]) w') (xnone)) := R_calV (z := 1146) (r := [.ref a2]) Q188 (by decide +kernel) rfl rfl Q144 rfl rfl rfl
theorem e188_14 {ls : zL} {st : List Value} {w : zW} {x : Int32} : Rv 188 14 ls (.int x :: st) w = if x = 0 then Rv 188 21 ls st w else Rv 188 17 ls st w := R_f0eq Q188 (by decide +kernel) rfl rfl
theorem e188_17 {ls : zL} {st : List Value} {w : zW} : Rv 188 17 ls st w = Rv 188 18 ls (.int 1 :: st) w := R_con Q188 (by decide +kernel) rfl (by decide)
theorem e188_18 {ls : zL} {st : List Value} {w : zW} : Rv 188 18 ls st w = Rv 188 22 ls st w := R_go Q188 (by decide +kernel) rfl rfl
theorem e188_21 {ls : zL} {st : List Value} {w : zW} : Rv 188 21 ls st w = Rv 188 22 ls (.int 0 :: st) w := R_con Q188 (by decide +kernel) rfl (by decide)
theorem e188_22 {ls : zL} {st : List Value} {w : zW} : Rv 188 22 ls st w = Rv 188 23 ls (.int 1 :: st) w := R_con Q188 (by decide +kernel) rfl (by decide)
theorem e188_23 {ls : zL} {st : List Value} {w : zW} : Rv 188 23 ls st w = Rv 188 24 ls (.int 1 :: st) w := R_con Q188 (by decide +kernel) rfl (by decide)
theorem e188_24 {ls : zL} {w : zW} {n1 : Int32} {n2 : Int32} {n3 : Int32} {a0 : Nat} : Rv 188 24 ls [.int n1, .int n2, .int n3, .ref a0] w = hO w a0 6 (cal (Rv 142 0 [some (.ref a0), some (.int n3), some (.int n2), some (.int n1)] [] w) (fun v w' => Rv 188 27 ls (vts v []) w') (xnone)) := R_calV (z := 1122) (r := []) Q188 (by decide +kernel) rfl rfl Q142 rfl rfl rfl
theorem e188_27 {ls : zL} {st : List Value} {w : zW} {x : Int32} : Rv 188 27 ls (.int x :: st) w = if x = 0 then Rv 188 32 ls st w else Rv 188 30 ls st w := R_f0eq Q188 (by decide +kernel) rfl rfl
theorem e188_30 {ls : zL} {st : List Value} {w : zW} : Rv 188 30 ls st w = Rv 188 31 ls (.int 0 :: st) w := R_con Q188 (by decide +kernel) rfl (by decide)
theorem e188_31 {ls : zL} {w : zW} {x : Int32} : Rv 188 31 ls [.int x] w = some (.inl (some (.int x)), w) := R_retI Q188 (by decide +kernel) rfl
theorem e188_32 {ls : zL} {st : List Value} {w : zW} : Rv 188 32 ls st w = ldI ls 3 fun x => Rv 188 33 ls (.int x :: st) w := R_ldI Q188 (by decide +kernel) rfl
theorem e188_33 {ls : zL} {st : List Value} {w : zW} {x : Int32} : Rv 188 33 ls (.int x :: st) w = if x = 0 then Rv 188 40 ls st w else Rv 188 36 ls st w := R_f0eq Q188 (by decide +kernel) rfl rfl
theorem e188_36 {ls : zL} {st : List Value} {w : zW} : Rv 188 36 ls st w = ldA ls 0 fun x => Rv 188 37 ls (x :: st) w := R_ldA Q188 (by decide +kernel) rfl
theorem e188_37 {ls : zL} {w : zW} {a0 : Nat} : Rv 188 37 ls [.ref a0] w = hO w a0 6 (cal (Rv 143 0 [some (.ref a0), none] [] w) (fun v w' => Rv 188 40 ls (vts v []) w') (xnone)) := R_calV (z := 1126) (r := []) Q188 (by decide +kernel) rfl rfl Q143 rfl rfl rfl
theorem e188_40 {ls : zL} {st : List Value} {w : zW} : Rv 188 40 ls st w = ldA ls 0 fun x => Rv 188 41 ls (x :: st) w := R_ldA Q188 (by decide +kernel) rfl
theorem e188_41 {ls : zL} {st : List Value} {w : zW} : Rv 188 41 ls st w = ldI ls 1 fun x => Rv 188 42 ls (.int x :: st) w := R_ldI Q188 (by decide +kernel) rfl
theorem e188_42 {ls : zL} {w : zW} {n1 : Int32} {a0 : Nat} : Rv 188 42 ls [.int n1, .ref a0] w = hO w a0 6 (cal (Rv 168 0 [some (.ref a0), some (.int n1), none, none] [] w) (fun v w' => Rv 188 45 ls (vts v []) w') (xnone)) := R_calV (z := 1259) (r := []) Q188 (by decide +kernel) rfl rfl Q168 rfl rfl rfl
theorem e188_45 {ls : zL} {st : List Value} {w : zW} {x : Int32} : Rv 188 45 ls (.int x :: st) w = lst ls 4 (some (.int x)) fun l => Rv 188 47 l st w := R_st Q188 (by decide +kernel) rfl
theorem e188_47 {ls : zL} {st : List Value} {w : zW} : Rv 188 47 ls st w = Rv 188 48 ls (.int 0 :: st) w := R_con Q188 (by decide +kernel) rfl (by decide)
theorem e188_48 {ls : zL} {st : List Value} {w : zW} {x : Int32} : Rv 188 48 ls (.int x :: st) w = lst ls 5 (some (.int x)) fun l => Rv 188 50 l st w := R_st Q188 (by decide +kernel) rfl
theorem h188_50 {ls : zL} {st : List Value} {w : zW} : Rv 188 50 ls st w = ldI ls 5 fun x => Rv 188 52 ls (.int x :: st) w := R_ldI Q188 (by decide +kernel) rfl
theorem e188_52 {ls : zL} {st : List Value} {w : zW} : Rv 188 52 ls st w = ldA ls 0 fun x => Rv 188 53 ls (x :: st) w := R_ldA Q188 (by decide +kernel) rfl
theorem e188_53 {ls : zL} {st : List Value} {w : zW} {a : Nat} : Rv 188 53 ls (.ref a :: st) w = gF w a 6 0 fun v => Rv 188 56 ls (v :: st) w := R_gF (z := 1070) Q188 (by decide +kernel) rfl
theorem e188_56 {ls : zL} {st : List Value} {w : zW} : Rv 188 56 ls st w = Rv 188 57 ls (.int 0 :: st) w := R_con Q188 (by decide +kernel) rfl (by decide)
theorem e188_57 {ls : zL} {st : List Value} {w : zW} {a : Nat} {x : Int32} : Rv 188 57 ls (.int x :: .ref a :: st) w = gI w a 0 8 x fun v => Rv 188 58 ls (.int v :: st) w := R_iald Q188 (by decide +kernel)
theorem e188_58 {ls : zL} {st : List Value} {w : zW} {x y : Int32} : Rv 188 58 ls (.int y :: .int x :: st) w = if x < y then Rv 188 61 ls st w else Rv 188 101 ls st w := R_fige Q188 (by decide +kernel) rfl rfl
theorem e188_61 {ls : zL} {st : List Value} {w : zW} : Rv 188 61 ls st w = ldA ls 0 fun x => Rv 188 62 ls (x :: st) w := R_ldA Q188 (by decide +kernel) rfl
theorem e188_62 {ls : zL} {st : List Value} {w : zW} {a : Nat} : Rv 188 62 ls (.ref a :: st) w = gF w a 6 0 fun v => Rv 188 65 ls (v :: st) w := R_gF (z := 1070) Q188 (by decide +kernel) rfl
theorem e188_65 {ls : zL} {st : List Value} {w : zW} : Rv 188 65 ls st w = Rv 188 67 ls (.int 67 :: st) w := R_con Q188 (by decide +kernel) rfl (by decide)
theorem e188_67 {ls : zL} {st : List Value} {w : zW} : Rv 188 67 ls st w = Rv 188 68 ls (.int 4 :: st) w := R_con Q188 (by decide +kernel) rfl (by decide)
theorem e188_68 {ls : zL} {st : List Value} {w : zW} : Rv 188 68 ls st w = ldI ls 1 fun x => Rv 188 69 ls (.int x :: st) w := R_ldI Q188 (by decide +kernel) rfl
theorem e188_69 {ls : zL} {st : List Value} {w : zW} {x y : Int32} : Rv 188 69 ls (.int y :: .int x :: st) w = Rv 188 70 ls (.int (x * y) :: st) w := R_next Q188 (by decide +kernel) rfl
theorem e188_70 {ls : zL} {st : List Value} {w : zW} {x y : Int32} : Rv 188 70 ls (.int y :: .int x :: st) w = Rv 188 71 ls (.int (x + y) :: st) w := R_next Q188 (by decide +kernel) rfl
theorem e188_71 {ls : zL} {st : List Value} {w : zW} : Rv 188 71 ls st w = ldI ls 5 fun x => Rv 188 73 ls (.int x :: st) w := R_ldI Q188 (by decide +kernel) rfl
theorem e188_73 {ls : zL} {st : List Value} {w : zW} {x y : Int32} : Rv 188 73 ls (.int y :: .int x :: st) w = Rv 188 74 ls (.int (x + y) :: st) w := R_next Q188 (by decide +kernel) rfl
theorem e188_74 {ls : zL} {st : List Value} {w : zW} {x : Int32} {y : Nat} : Rv 188 74 ls (.int x :: .ref y :: st) w = Rv 188 75 ls (.int x :: .ref y :: .int x :: .ref y :: st) w := R_next Q188 (by decide +kernel) rfl
theorem e188_75 {ls : zL} {st : List Value} {w : zW} {a : Nat} {x : Int32} : Rv 188 75 ls (.int x :: .ref a :: st) w = gI w a 0 8 x fun v => Rv 188 76 ls (.int v :: st) w := R_iald Q188 (by decide +kernel)
theorem e188_76 {ls : zL} {st : List Value} {w : zW} : Rv 188 76 ls st w = Rv 188 77 ls (.int 1 :: st) w := R_con Q188 (by decide +kernel) rfl (by decide)
theorem e188_77 {ls : zL} {st : List Value} {w : zW} : Rv 188 77 ls st w = ldA ls 0 fun x => Rv 188 78 ls (x :: st) w := R_ldA Q188 (by decide +kernel) rfl
theorem e188_78 {ls : zL} {st : List Value} {w : zW} : Rv 188 78 ls st w = ldA ls 0 fun x => Rv 188 79 ls (x :: st) w := R_ldA Q188 (by decide +kernel) rfl
theorem e188_79 {ls : zL} {st : List Value} {w : zW} {a : Nat} : Rv 188 79 ls (.ref a :: st) w = gF w a 6 0 fun v => Rv 188 82 ls (v :: st) w := R_gF (z := 1070) Q188 (by decide +kernel) rfl
theorem e188_82 {ls : zL} {st : List Value} {w : zW} : Rv 188 82 ls st w = Rv 188 84 ls (.int 7 :: st) w := R_con Q188 (by decide +kernel) rfl (by decide)
theorem e188_84 {ls : zL} {st : List Value} {w : zW} : Rv 188 84 ls st w = ldI ls 2 fun x => Rv 188 85 ls (.int x :: st) w := R_ldI Q188 (by decide +kernel) rfl
theorem e188_85 {ls : zL} {st : List Value} {w : zW} {x y : Int32} : Rv 188 85 ls (.int y :: .int x :: st) w = Rv 188 86 ls (.int (x + y) :: st) w := R_next Q188 (by decide +kernel) rfl
theorem e188_86 {ls : zL} {st : List Value} {w : zW} {a : Nat} {x : Int32} : Rv 188 86 ls (.int x :: .ref a :: st) w = gI w a 0 8 x fun v => Rv 188 87 ls (.int v :: st) w := R_iald Q188 (by decide +kernel)
theorem e188_87 {ls : zL} {st : List Value} {w : zW} : Rv 188 87 ls st w = ldI ls 5 fun x => Rv 188 89 ls (.int x :: st) w := R_ldI Q188 (by decide +kernel) rfl
theorem e188_89 {ls : zL} {w : zW} {n1 : Int32} {n2 : Int32} {a0 : Nat} {n3 : Int32} {n4 : Int32} {n5 : Int32} {a6 : Nat} : Rv 188 89 ls [.int n1, .int n2, .ref a0, .int n3, .int n4, .int n5, .ref a6] w = hO w a0 6 (cal (Rv 148 0 [some (.ref a0), some (.int n2), some (.int n1)] [] w) (fun v w' => Rv 188 92 ls (vts v [.int n3, .int n4, .int n5, .ref a6]) w') (xnone)) := R_calV (z := 1165) (r := [.int n3, .int n4, .int n5, .ref a6]) Q188 (by decide +kernel) rfl rfl Q148 rfl rfl rfl
theorem e188_92 {ls : zL} {st : List Value} {w : zW} {x y : Int32} : Rv 188 92 ls (.int y :: .int x :: st) w = Rv 188 93 ls (.int (x <<< (y &&& 31)) :: st) w := R_next Q188 (by decide +kernel) rfl
theorem e188_93 {ls : zL} {st : List Value} {w : zW} {x y : Int32} : Rv 188 93 ls (.int y :: .int x :: st) w = Rv 188 94 ls (.int (x ||| y) :: st) w := R_next Q188 (by decide +kernel) rfl
theorem e188_94 {ls : zL} {st : List Value} {w : zW} {a : Nat} {x y : Int32} : Rv 188 94 ls (.int y :: .int x :: .ref a :: st) w = pI w a 0 x y fun w' => Rv 188 95 ls st w' := R_iast Q188 (by decide +kernel)
theorem e188_95 {ls : zL} {st : List Value} {w : zW} : Rv 188 95 ls st w = ldI ls 5 fun x => lst ls 5 (some (.int (x + 1))) fun l => Rv 188 98 l st w := R_iinc Q188 (by decide +kernel) (by decide)
theorem e188_98 {ls : zL} {st : List Value} {w : zW} : Rv 188 98 ls st w = Rv 188 50 ls st w := R_go Q188 (by decide +kernel) rfl rfl
theorem e188_101 {ls : zL} {st : List Value} {w : zW} : Rv 188 101 ls st w = ldA ls 0 fun x => Rv 188 102 ls (x :: st) w := R_ldA Q188 (by decide +kernel) rfl
theorem e188_102 {ls : zL} {st : List Value} {w : zW} : Rv 188 102 ls st w = ldI ls 1 fun x => Rv 188 103 ls (.int x :: st) w := R_ldI Q188 (by decide +kernel) rfl
theorem e188_103 {ls : zL} {w : zW} {n1 : Int32} {a0 : Nat} : Rv 188 103 ls [.int n1, .ref a0] w = hO w a0 6 (cal (Rv 168 0 [some (.ref a0), some (.int n1), none, none] [] w) (fun v w' => Rv 188 106 ls (vts v []) w') (xnone)) := R_calV (z := 1259) (r := []) Q188 (by decide +kernel) rfl rfl Q168 rfl rfl rfl
theorem e188_106 {ls : zL} {st : List Value} {w : zW} : Rv 188 106 ls st w = ldI ls 4 fun x => Rv 188 108 ls (.int x :: st) w := R_ldI Q188 (by decide +kernel) rfl
theorem e188_108 {ls : zL} {st : List Value} {w : zW} {x y : Int32} : Rv 188 108 ls (.int y :: .int x :: st) w = Rv 188 109 ls (.int (x - y) :: st) w := R_next Q188 (by decide +kernel) rfl
theorem e188_109 {ls : zL} {w : zW} {x : Int32} : Rv 188 109 ls [.int x] w = some (.inl (some (.int x)), w) := R_retI Q188 (by decide +kernel) rfl
/-! MasterPinsModel.pin -/
theorem e189_0 {ls : zL} {st : List Value} {w : zW} : Rv 189 0 ls st w = ldA ls 0 fun x => Rv 189 1 ls (x :: st) w := R_ldA Q189 (by decide +kernel) rfl
theorem e189_1 {ls : zL} {st : List Value} {w : zW} : Rv 189 1 ls st w = ldI ls 1 fun x => Rv 189 2 ls (.int x :: st) w := R_ldI Q189 (by decide +kernel) rfl
theorem e189_2 {ls : zL} {st : List Value} {w : zW} : Rv 189 2 ls st w = ldI ls 2 fun x => Rv 189 3 ls (.int x :: st) w := R_ldI Q189 (by decide +kernel) rfl
theorem e189_3 {ls : zL} {st : List Value} {w : zW} : Rv 189 3 ls st w = Rv 189 4 ls (.int 1 :: st) w := R_con Q189 (by decide +kernel) rfl (by decide)
theorem e189_4 {ls : zL} {w : zW} {n1 : Int32} {n2 : Int32} {n3 : Int32} {a0 : Nat} : Rv 189 4 ls [.int n1, .int n2, .int n3, .ref a0] w = hO w a0 6 (cal (Rv 188 0 [some (.ref a0), some (.int n3), some (.int n2), some (.int n1), none, none] [] w) (fun v w' => Rv 189 7 ls (vts v []) w') (xnone)) := R_calV (z := 1251) (r := []) Q189 (by decide +kernel) rfl rfl Q188 rfl rfl rfl
theorem e189_7 {ls : zL} {w : zW} {x : Int32} : Rv 189 7 ls [.int x] w = some (.inl (some (.int x)), w) := R_retI Q189 (by decide +kernel) rfl
/-! MasterPinsModel.fits -/
theorem e190_0 {ls : zL} {st : List Value} {w : zW} : Rv 190 0 ls st w = ldA ls 0 fun x => Rv 190 1 ls (x :: st) w := R_ldA Q190 (by decide +kernel) rfl
theorem e190_1 {ls : zL} {st : List Value} {w : zW} : Rv 190 1 ls st w = ldA ls 0 fun x => Rv 190 2 ls (x :: st) w := R_ldA Q190 (by decide +kernel) rfl
theorem e190_2 {ls : zL} {st : List Value} {w : zW} : Rv 190 2 ls st w = ldI ls 1 fun x => Rv 190 3 ls (.int x :: st) w := R_ldI Q190 (by decide +kernel) rfl
theorem e190_3 {ls : zL} {w : zW} {n1 : Int32} {a0 : Nat} {a2 : Nat} : Rv 190 3 ls [.int n1, .ref a0, .ref a2] w = hO w a0 6 (cal (Rv 145 0 [some (.ref a0), some (.int n1)] [] w) (fun v w' => Rv 190 6 ls (vts v [.ref a2]) w') (xnone)) := R_calV (z := 1255) (r := [.ref a2]) Q190 (by decide +kernel) rfl rfl Q145 rfl rfl rfl
theorem e190_6 {ls : zL} {st : List Value} {w : zW} : Rv 190 6 ls st w = Rv 190 7 ls (.int 1 :: st) w := R_con Q190 (by decide +kernel) rfl (by decide)
theorem e190_7 {ls : zL} {st : List Value} {w : zW} : Rv 190 7 ls st w = Rv 190 8 ls (.int 1 :: st) w := R_con Q190 (by decide +kernel) rfl (by decide)
theorem e190_8 {ls : zL} {w : zW} {n1 : Int32} {n2 : Int32} {n3 : Int32} {a0 : Nat} : Rv 190 8 ls [.int n1, .int n2, .int n3, .ref a0] w = hO w a0 6 (cal (Rv 142 0 [some (.ref a0), some (.int n3), some (.int n2), some (.int n1)] [] w) (fun v w' => Rv 190 11 ls (vts v []) w') (xnone)) := R_calV (z := 1122) (r := []) Q190 (by decide +kernel) rfl rfl Q142 rfl rfl rfl
theorem e190_11 {ls : zL} {st : List Value} {w : zW} {x : Int32} : Rv 190 11 ls (.int x :: st) w = if x = 0 then Rv 190 16 ls st w else Rv 190 14 ls st w := R_f0eq Q190 (by decide +kernel) rfl rfl
theorem e190_14 {ls : zL} {st : List Value} {w : zW} : Rv 190 14 ls st w = Rv 190 15 ls (.int 0 :: st) w := R_con Q190 (by decide +kernel) rfl (by decide)
theorem e190_15 {ls : zL} {w : zW} {x : Int32} : Rv 190 15 ls [.int x] w = some (.inl (some (.int x)), w) := R_retI Q190 (by decide +kernel) rfl
theorem e190_16 {ls : zL} {st : List Value} {w : zW} : Rv 190 16 ls st w = ldI ls 2 fun x => Rv 190 17 ls (.int x :: st) w := R_ldI Q190 (by decide +kernel) rfl
theorem e190_17 {ls : zL} {st : List Value} {w : zW} {x : Int32} : Rv 190 17 ls (.int x :: st) w = if x = 0 then Rv 190 24 ls st w else Rv 190 20 ls st w := R_f0eq Q190 (by decide +kernel) rfl rfl
theorem e190_20 {ls : zL} {st : List Value} {w : zW} : Rv 190 20 ls st w = ldA ls 0 fun x => Rv 190 21 ls (x :: st) w := R_ldA Q190 (by decide +kernel) rfl
theorem e190_21 {ls : zL} {w : zW} {a0 : Nat} : Rv 190 21 ls [.ref a0] w = hO w a0 6 (cal (Rv 143 0 [some (.ref a0), none] [] w) (fun v w' => Rv 190 24 ls (vts v []) w') (xnone)) := R_calV (z := 1126) (r := []) Q190 (by decide +kernel) rfl rfl Q143 rfl rfl rfl
theorem e190_24 {ls : zL} {st : List Value} {w : zW} : Rv 190 24 ls st w = ldA ls 0 fun x => Rv 190 25 ls (x :: st) w := R_ldA Q190 (by decide +kernel) rfl
theorem e190_25 {ls : zL} {st : List Value} {w : zW} : Rv 190 25 ls st w = ldI ls 1 fun x => Rv 190 26 ls (.int x :: st) w := R_ldI Q190 (by decide +kernel) rfl
theorem e190_26 {ls : zL} {w : zW} {n1 : Int32} {a0 : Nat} : Rv 190 26 ls [.int n1, .ref a0] w = hO w a0 6 (cal (Rv 163 0 [some (.ref a0), some (.int n1), none, none] [] w) (fun v w' => Rv 190 29 ls (vts v []) w') (xnone)) := R_calV (z := 1227) (r := []) Q190 (by decide +kernel) rfl rfl Q163 rfl rfl rfl
theorem e190_29 {ls : zL} {w : zW} {x : Int32} : Rv 190 29 ls [.int x] w = some (.inl (some (.int x)), w) := R_retI Q190 (by decide +kernel) rfl
/-! MasterPinsModel.fit -/
theorem e191_0 {ls : zL} {st : List Value} {w : zW} : Rv 191 0 ls st w = ldA ls 0 fun x => Rv 191 1 ls (x :: st) w := R_ldA Q191 (by decide +kernel) rfl
theorem e191_1 {ls : zL} {st : List Value} {w : zW} : Rv 191 1 ls st w = ldI ls 1 fun x => Rv 191 2 ls (.int x :: st) w := R_ldI Q191 (by decide +kernel) rfl
theorem e191_2 {ls : zL} {st : List Value} {w : zW} : Rv 191 2 ls st w = Rv 191 3 ls (.int 1 :: st) w := R_con Q191 (by decide +kernel) rfl (by decide)
theorem e191_3 {ls : zL} {w : zW} {n1 : Int32} {n2 : Int32} {a0 : Nat} : Rv 191 3 ls [.int n1, .int n2, .ref a0] w = hO w a0 6 (cal (Rv 190 0 [some (.ref a0), some (.int n2), some (.int n1)] [] w) (fun v w' => Rv 191 6 ls (vts v []) w') (xnone)) := R_calV (z := 1267) (r := []) Q191 (by decide +kernel) rfl rfl Q190 rfl rfl rfl
theorem e191_6 {ls : zL} {w : zW} {x : Int32} : Rv 191 6 ls [.int x] w = some (.inl (some (.int x)), w) := R_retI Q191 (by decide +kernel) rfl
/-! MasterPinsModel.fitsAll -/
theorem e192_0 {ls : zL} {st : List Value} {w : zW} : Rv 192 0 ls st w = ldA ls 0 fun x => Rv 192 1 ls (x :: st) w := R_ldA Q192 (by decide +kernel) rfl
theorem e192_1 {ls : zL} {st : List Value} {w : zW} : Rv 192 1 ls st w = Rv 192 2 ls (.int 0 :: st) w := R_con Q192 (by decide +kernel) rfl (by decide)
theorem e192_2 {ls : zL} {st : List Value} {w : zW} {x : Int32} {a : Nat} : Rv 192 2 ls (.int x :: .ref a :: st) w = pF w a 6 3 (.int x) fun w' => Rv 192 5 ls st w' := R_pF (z := 1073) Q192 (by decide +kernel) rfl ⟨by decide, rfl, Or.inl rfl⟩
theorem e192_5 {ls : zL} {st : List Value} {w : zW} : Rv 192 5 ls st w = ldI ls 1 fun x => Rv 192 6 ls (.int x :: st) w := R_ldI Q192 (by decide +kernel) rfl
theorem e192_6 {ls : zL} {st : List Value} {w : zW} {x : Int32} : Rv 192 6 ls (.int x :: st) w = if x = 0 then Rv 192 13 ls st w else Rv 192 9 ls st w := R_f0eq Q192 (by decide +kernel) rfl rfl
theorem e192_9 {ls : zL} {st : List Value} {w : zW} : Rv 192 9 ls st w = ldA ls 0 fun x => Rv 192 10 ls (x :: st) w := R_ldA Q192 (by decide +kernel) rfl
theorem e192_10 {ls : zL} {w : zW} {a0 : Nat} : Rv 192 10 ls [.ref a0] w = hO w a0 6 (cal (Rv 143 0 [some (.ref a0), none] [] w) (fun v w' => Rv 192 13 ls (vts v []) w') (xnone)) := R_calV (z := 1126) (r := []) Q192 (by decide +kernel) rfl rfl Q143 rfl rfl rfl
theorem e192_13 {ls : zL} {st : List Value} {w : zW} : Rv 192 13 ls st w = Rv 192 14 ls (.int 0 :: st) w := R_con Q192 (by decide +kernel) rfl (by decide)
theorem e192_14 {ls : zL} {st : List Value} {w : zW} {x : Int32} : Rv 192 14 ls (.int x :: st) w = lst ls 2 (some (.int x)) fun l => Rv 192 15 l st w := R_st Q192 (by decide +kernel) rfl
theorem e192_15 {ls : zL} {st : List Value} {w : zW} : Rv 192 15 ls st w = Rv 192 16 ls (.int 0 :: st) w := R_con Q192 (by decide +kernel) rfl (by decide)
theorem e192_16 {ls : zL} {st : List Value} {w : zW} {x : Int32} : Rv 192 16 ls (.int x :: st) w = lst ls 3 (some (.int x)) fun l => Rv 192 17 l st w := R_st Q192 (by decide +kernel) rfl
theorem h192_17 {ls : zL} {st : List Value} {w : zW} : Rv 192 17 ls st w = ldI ls 3 fun x => Rv 192 18 ls (.int x :: st) w := R_ldI Q192 (by decide +kernel) rfl
theorem e192_18 {ls : zL} {st : List Value} {w : zW} : Rv 192 18 ls st w = ldA ls 0 fun x => Rv 192 19 ls (x :: st) w := R_ldA Q192 (by decide +kernel) rfl
theorem e192_19 {ls : zL} {st : List Value} {w : zW} {a : Nat} : Rv 192 19 ls (.ref a :: st) w = gF w a 6 0 fun v => Rv 192 22 ls (v :: st) w := R_gF (z := 1070) Q192 (by decide +kernel) rfl
theorem e192_22 {ls : zL} {st : List Value} {w : zW} : Rv 192 22 ls st w = Rv 192 24 ls (.int 6 :: st) w := R_con Q192 (by decide +kernel) rfl (by decide)
theorem e192_24 {ls : zL} {st : List Value} {w : zW} {a : Nat} {x : Int32} : Rv 192 24 ls (.int x :: .ref a :: st) w = gI w a 0 8 x fun v => Rv 192 25 ls (.int v :: st) w := R_iald Q192 (by decide +kernel)
theorem e192_25 {ls : zL} {st : List Value} {w : zW} {x y : Int32} : Rv 192 25 ls (.int y :: .int x :: st) w = if x < y then Rv 192 28 ls st w else Rv 192 42 ls st w := R_fige Q192 (by decide +kernel) rfl rfl
theorem e192_28 {ls : zL} {st : List Value} {w : zW} : Rv 192 28 ls st w = ldI ls 2 fun x => Rv 192 29 ls (.int x :: st) w := R_ldI Q192 (by decide +kernel) rfl
theorem e192_29 {ls : zL} {st : List Value} {w : zW} : Rv 192 29 ls st w = ldA ls 0 fun x => Rv 192 30 ls (x :: st) w := R_ldA Q192 (by decide +kernel) rfl
theorem e192_30 {ls : zL} {st : List Value} {w : zW} : Rv 192 30 ls st w = ldI ls 3 fun x => Rv 192 31 ls (.int x :: st) w := R_ldI Q192 (by decide +kernel) rfl
theorem e192_31 {ls : zL} {w : zW} {n1 : Int32} {a0 : Nat} {n2 : Int32} : Rv 192 31 ls [.int n1, .ref a0, .int n2] w = hO w a0 6 (cal (Rv 163 0 [some (.ref a0), some (.int n1), none, none] [] w) (fun v w' => Rv 192 34 ls (vts v [.int n2]) w') (xnone)) := R_calV (z := 1227) (r := [.int n2]) Q192 (by decide +kernel) rfl rfl Q163 rfl rfl rfl
theorem e192_34 {ls : zL} {st : List Value} {w : zW} {x y : Int32} : Rv 192 34 ls (.int y :: .int x :: st) w = Rv 192 35 ls (.int (x + y) :: st) w := R_next Q192 (by decide +kernel) rfl
theorem e192_35 {ls : zL} {st : List Value} {w : zW} {x : Int32} : Rv 192 35 ls (.int x :: st) w = lst ls 2 (some (.int x)) fun l => Rv 192 36 l st w := R_st Q192 (by decide +kernel) rfl
theorem e192_36 {ls : zL} {st : List Value} {w : zW} : Rv 192 36 ls st w = ldI ls 3 fun x => lst ls 3 (some (.int (x + 1))) fun l => Rv 192 39 l st w := R_iinc Q192 (by decide +kernel) (by decide)
theorem e192_39 {ls : zL} {st : List Value} {w : zW} : Rv 192 39 ls st w = Rv 192 17 ls st w := R_go Q192 (by decide +kernel) rfl rfl
theorem e192_42 {ls : zL} {st : List Value} {w : zW} : Rv 192 42 ls st w = ldI ls 2 fun x => Rv 192 43 ls (.int x :: st) w := R_ldI Q192 (by decide +kernel) rfl
theorem e192_43 {ls : zL} {w : zW} {x : Int32} : Rv 192 43 ls [.int x] w = some (.inl (some (.int x)), w) := R_retI Q192 (by decide +kernel) rfl
/-! MasterPinsModel.fitAll -/
theorem e193_0 {ls : zL} {st : List Value} {w : zW} : Rv 193 0 ls st w = ldA ls 0 fun x => Rv 193 1 ls (x :: st) w := R_ldA Q193 (by decide +kernel) rfl
theorem e193_1 {ls : zL} {st : List Value} {w : zW} : Rv 193 1 ls st w = Rv 193 2 ls (.int 1 :: st) w := R_con Q193 (by decide +kernel) rfl (by decide)
theorem e193_2 {ls : zL} {w : zW} {n1 : Int32} {a0 : Nat} : Rv 193 2 ls [.int n1, .ref a0] w = hO w a0 6 (cal (Rv 192 0 [some (.ref a0), some (.int n1), none, none] [] w) (fun v w' => Rv 193 5 ls (vts v []) w') (xnone)) := R_calV (z := 1275) (r := []) Q193 (by decide +kernel) rfl rfl Q192 rfl rfl rfl
theorem e193_5 {ls : zL} {w : zW} {x : Int32} : Rv 193 5 ls [.int x] w = some (.inl (some (.int x)), w) := R_retI Q193 (by decide +kernel) rfl
/-! MasterPinsModel.setOwner -/
theorem e194_0 {ls : zL} {st : List Value} {w : zW} : Rv 194 0 ls st w = ldA ls 0 fun x => Rv 194 1 ls (x :: st) w := R_ldA Q194 (by decide +kernel) rfl
theorem e194_1 {ls : zL} {st : List Value} {w : zW} : Rv 194 1 ls st w = ldA ls 0 fun x => Rv 194 2 ls (x :: st) w := R_ldA Q194 (by decide +kernel) rfl
theorem e194_2 {ls : zL} {st : List Value} {w : zW} : Rv 194 2 ls st w = ldI ls 1 fun x => Rv 194 3 ls (.int x :: st) w := R_ldI Q194 (by decide +kernel) rfl
theorem e194_3 {ls : zL} {w : zW} {n1 : Int32} {a0 : Nat} {a2 : Nat} : Rv 194 3 ls [.int n1, .ref a0, .ref a2] w = hO w a0 6 (cal (Rv 145 0 [some (.ref a0), some (.int n1)] [] w) (fun v w' => Rv 194 6 ls (vts v [.ref a2]) w') (xnone)) := R_calV (z := 1255) (r := [.ref a2]) Q194 (by decide +kernel) rfl rfl Q145 rfl rfl rfl
theorem e194_6 {ls : zL} {st : List Value} {w : zW} {x : Int32} : Rv 194 6 ls (.int x :: st) w = if x = 0 then Rv 194 21 ls st w else Rv 194 9 ls st w := R_f0eq Q194 (by decide +kernel) rfl rfl
theorem e194_9 {ls : zL} {st : List Value} {w : zW} : Rv 194 9 ls st w = ldA ls 0 fun x => Rv 194 10 ls (x :: st) w := R_ldA Q194 (by decide +kernel) rfl
theorem e194_10 {ls : zL} {st : List Value} {w : zW} : Rv 194 10 ls st w = ldI ls 2 fun x => Rv 194 11 ls (.int x :: st) w := R_ldI Q194 (by decide +kernel) rfl
theorem e194_11 {ls : zL} {w : zW} {n1 : Int32} {a0 : Nat} {a2 : Nat} : Rv 194 11 ls [.int n1, .ref a0, .ref a2] w = hO w a0 6 (cal (Rv 144 0 [some (.ref a0), some (.int n1)] [] w) (fun v w' => Rv 194 14 ls (vts v [.ref a2]) w') (xnone)) := R_calV (z := 1146) (r := [.ref a2]) Q194 (by decide +kernel) rfl rfl Q144 rfl rfl rfl
theorem e194_14 {ls : zL} {st : List Value} {w : zW} {x : Int32} : Rv 194 14 ls (.int x :: st) w = if x = 0 then Rv 194 21 ls st w else Rv 194 17 ls st w := R_f0eq Q194 (by decide +kernel) rfl rfl
theorem e194_17 {ls : zL} {st : List Value} {w : zW} : Rv 194 17 ls st w = Rv 194 18 ls (.int 1 :: st) w := R_con Q194 (by decide +kernel) rfl (by decide)
theorem e194_18 {ls : zL} {st : List Value} {w : zW} : Rv 194 18 ls st w = Rv 194 22 ls st w := R_go Q194 (by decide +kernel) rfl rfl
theorem e194_21 {ls : zL} {st : List Value} {w : zW} : Rv 194 21 ls st w = Rv 194 22 ls (.int 0 :: st) w := R_con Q194 (by decide +kernel) rfl (by decide)
theorem e194_22 {ls : zL} {st : List Value} {w : zW} : Rv 194 22 ls st w = Rv 194 23 ls (.int 1 :: st) w := R_con Q194 (by decide +kernel) rfl (by decide)
theorem e194_23 {ls : zL} {st : List Value} {w : zW} : Rv 194 23 ls st w = Rv 194 24 ls (.int 1 :: st) w := R_con Q194 (by decide +kernel) rfl (by decide)
theorem e194_24 {ls : zL} {w : zW} {n1 : Int32} {n2 : Int32} {n3 : Int32} {a0 : Nat} : Rv 194 24 ls [.int n1, .int n2, .int n3, .ref a0] w = hO w a0 6 (cal (Rv 142 0 [some (.ref a0), some (.int n3), some (.int n2), some (.int n1)] [] w) (fun v w' => Rv 194 27 ls (vts v []) w') (xnone)) := R_calV (z := 1122) (r := []) Q194 (by decide +kernel) rfl rfl Q142 rfl rfl rfl
theorem e194_27 {ls : zL} {st : List Value} {w : zW} {x : Int32} : Rv 194 27 ls (.int x :: st) w = if x = 0 then Rv 194 32 ls st w else Rv 194 30 ls st w := R_f0eq Q194 (by decide +kernel) rfl rfl
theorem e194_30 {ls : zL} {st : List Value} {w : zW} : Rv 194 30 ls st w = Rv 194 31 ls (.int 0 :: st) w := R_con Q194 (by decide +kernel) rfl (by decide)
theorem e194_31 {ls : zL} {w : zW} {x : Int32} : Rv 194 31 ls [.int x] w = some (.inl (some (.int x)), w) := R_retI Q194 (by decide +kernel) rfl
theorem e194_32 {ls : zL} {st : List Value} {w : zW} : Rv 194 32 ls st w = ldA ls 0 fun x => Rv 194 33 ls (x :: st) w := R_ldA Q194 (by decide +kernel) rfl
theorem e194_33 {ls : zL} {w : zW} {a0 : Nat} : Rv 194 33 ls [.ref a0] w = hO w a0 6 (cal (Rv 143 0 [some (.ref a0), none] [] w) (fun v w' => Rv 194 36 ls (vts v []) w') (xnone)) := R_calV (z := 1126) (r := []) Q194 (by decide +kernel) rfl rfl Q143 rfl rfl rfl
theorem e194_36 {ls : zL} {st : List Value} {w : zW} : Rv 194 36 ls st w = ldA ls 0 fun x => Rv 194 37 ls (x :: st) w := R_ldA Q194 (by decide +kernel) rfl
theorem e194_37 {ls : zL} {st : List Value} {w : zW} {a : Nat} : Rv 194 37 ls (.ref a :: st) w = gF w a 6 0 fun v => Rv 194 40 ls (v :: st) w := R_gF (z := 1070) Q194 (by decide +kernel) rfl
theorem e194_40 {ls : zL} {st : List Value} {w : zW} : Rv 194 40 ls st w = Rv 194 42 ls (.int 55 :: st) w := R_con Q194 (by decide +kernel) rfl (by decide)
theorem e194_42 {ls : zL} {st : List Value} {w : zW} : Rv 194 42 ls st w = ldI ls 1 fun x => Rv 194 43 ls (.int x :: st) w := R_ldI Q194 (by decide +kernel) rfl
theorem e194_43 {ls : zL} {st : List Value} {w : zW} {x y : Int32} : Rv 194 43 ls (.int y :: .int x :: st) w = Rv 194 44 ls (.int (x + y) :: st) w := R_next Q194 (by decide +kernel) rfl
theorem e194_44 {ls : zL} {st : List Value} {w : zW} {a : Nat} {x : Int32} : Rv 194 44 ls (.int x :: .ref a :: st) w = gI w a 0 8 x fun v => Rv 194 45 ls (.int v :: st) w := R_iald Q194 (by decide +kernel)
theorem e194_45 {ls : zL} {st : List Value} {w : zW} {x : Int32} : Rv 194 45 ls (.int x :: st) w = lst ls 3 (some (.int x)) fun l => Rv 194 46 l st w := R_st Q194 (by decide +kernel) rfl
theorem e194_46 {ls : zL} {st : List Value} {w : zW} : Rv 194 46 ls st w = ldA ls 0 fun x => Rv 194 47 ls (x :: st) w := R_ldA Q194 (by decide +kernel) rfl
theorem e194_47 {ls : zL} {st : List Value} {w : zW} {a : Nat} : Rv 194 47 ls (.ref a :: st) w = gF w a 6 0 fun v => Rv 194 50 ls (v :: st) w := R_gF (z := 1070) Q194 (by decide +kernel) rfl
theorem e194_50 {ls : zL} {st : List Value} {w : zW} : Rv 194 50 ls st w = Rv 194 52 ls (.int 55 :: st) w := R_con Q194 (by decide +kernel) rfl (by decide)
theorem e194_52 {ls : zL} {st : List Value} {w : zW} : Rv 194 52 ls st w = ldI ls 1 fun x => Rv 194 53 ls (.int x :: st) w := R_ldI Q194 (by decide +kernel) rfl
theorem e194_53 {ls : zL} {st : List Value} {w : zW} {x y : Int32} : Rv 194 53 ls (.int y :: .int x :: st) w = Rv 194 54 ls (.int (x + y) :: st) w := R_next Q194 (by decide +kernel) rfl
theorem e194_54 {ls : zL} {st : List Value} {w : zW} : Rv 194 54 ls st w = ldI ls 2 fun x => Rv 194 55 ls (.int x :: st) w := R_ldI Q194 (by decide +kernel) rfl
theorem e194_55 {ls : zL} {st : List Value} {w : zW} {a : Nat} {x y : Int32} : Rv 194 55 ls (.int y :: .int x :: .ref a :: st) w = pI w a 0 x y fun w' => Rv 194 56 ls st w' := R_iast Q194 (by decide +kernel)
theorem e194_56 {ls : zL} {st : List Value} {w : zW} : Rv 194 56 ls st w = ldI ls 3 fun x => Rv 194 57 ls (.int x :: st) w := R_ldI Q194 (by decide +kernel) rfl
theorem e194_57 {ls : zL} {w : zW} {x : Int32} : Rv 194 57 ls [.int x] w = some (.inl (some (.int x)), w) := R_retI Q194 (by decide +kernel) rfl
/-! MasterPinsModel.keyValue -/
theorem e195_0 {ls : zL} {st : List Value} {w : zW} : Rv 195 0 ls st w = Rv 195 1 ls (.int 0 :: st) w := R_con Q195 (by decide +kernel) rfl (by decide)
theorem e195_1 {ls : zL} {st : List Value} {w : zW} {x : Int32} : Rv 195 1 ls (.int x :: st) w = lst ls 3 (some (.int x)) fun l => Rv 195 2 l st w := R_st Q195 (by decide +kernel) rfl
theorem e195_2 {ls : zL} {st : List Value} {w : zW} : Rv 195 2 ls st w = Rv 195 3 ls (.int 0 :: st) w := R_con Q195 (by decide +kernel) rfl (by decide)
theorem e195_3 {ls : zL} {st : List Value} {w : zW} {x : Int32} : Rv 195 3 ls (.int x :: st) w = lst ls 4 (some (.int x)) fun l => Rv 195 5 l st w := R_st Q195 (by decide +kernel) rfl
theorem h195_5 {ls : zL} {st : List Value} {w : zW} : Rv 195 5 ls st w = ldI ls 4 fun x => Rv 195 7 ls (.int x :: st) w := R_ldI Q195 (by decide +kernel) rfl
theorem e195_7 {ls : zL} {st : List Value} {w : zW} : Rv 195 7 ls st w = ldA ls 0 fun x => Rv 195 8 ls (x :: st) w := R_ldA Q195 (by decide +kernel) rfl
theorem e195_8 {ls : zL} {st : List Value} {w : zW} {a : Nat} : Rv 195 8 ls (.ref a :: st) w = gF w a 6 0 fun v => Rv 195 11 ls (v :: st) w := R_gF (z := 1070) Q195 (by decide +kernel) rfl
theorem e195_11 {ls : zL} {st : List Value} {w : zW} : Rv 195 11 ls st w = Rv 195 12 ls (.int 5 :: st) w := R_con Q195 (by decide +kernel) rfl (by decide)
theorem e195_12 {ls : zL} {st : List Value} {w : zW} {a : Nat} {x : Int32} : Rv 195 12 ls (.int x :: .ref a :: st) w = gI w a 0 8 x fun v => Rv 195 13 ls (.int v :: st) w := R_iald Q195 (by decide +kernel)
theorem e195_13 {ls : zL} {st : List Value} {w : zW} {x y : Int32} : Rv 195 13 ls (.int y :: .int x :: st) w = if x < y then Rv 195 16 ls st w else Rv 195 35 ls st w := R_fige Q195 (by decide +kernel) rfl rfl
theorem e195_16 {ls : zL} {st : List Value} {w : zW} : Rv 195 16 ls st w = ldI ls 3 fun x => Rv 195 17 ls (.int x :: st) w := R_ldI Q195 (by decide +kernel) rfl
theorem e195_17 {ls : zL} {st : List Value} {w : zW} : Rv 195 17 ls st w = ldA ls 0 fun x => Rv 195 18 ls (x :: st) w := R_ldA Q195 (by decide +kernel) rfl
theorem e195_18 {ls : zL} {st : List Value} {w : zW} : Rv 195 18 ls st w = ldI ls 4 fun x => Rv 195 20 ls (.int x :: st) w := R_ldI Q195 (by decide +kernel) rfl
theorem e195_20 {ls : zL} {w : zW} {n1 : Int32} {a0 : Nat} {n2 : Int32} : Rv 195 20 ls [.int n1, .ref a0, .int n2] w = hO w a0 6 (cal (Rv 156 0 [some (.ref a0), some (.int n1), none, none] [] w) (fun v w' => Rv 195 23 ls (vts v [.int n2]) w') (xnone)) := R_calV (z := 1243) (r := [.int n2]) Q195 (by decide +kernel) rfl rfl Q156 rfl rfl rfl
theorem e195_23 {ls : zL} {st : List Value} {w : zW} : Rv 195 23 ls st w = ldI ls 1 fun x => Rv 195 24 ls (.int x :: st) w := R_ldI Q195 (by decide +kernel) rfl
theorem e195_24 {ls : zL} {st : List Value} {w : zW} {x y : Int32} : Rv 195 24 ls (.int y :: .int x :: st) w = Rv 195 25 ls (.int (x >>> (y &&& 31)) :: st) w := R_next Q195 (by decide +kernel) rfl
theorem e195_25 {ls : zL} {st : List Value} {w : zW} : Rv 195 25 ls st w = Rv 195 26 ls (.int 1 :: st) w := R_con Q195 (by decide +kernel) rfl (by decide)
theorem e195_26 {ls : zL} {st : List Value} {w : zW} {x y : Int32} : Rv 195 26 ls (.int y :: .int x :: st) w = Rv 195 27 ls (.int (x &&& y) :: st) w := R_next Q195 (by decide +kernel) rfl
theorem e195_27 {ls : zL} {st : List Value} {w : zW} {x y : Int32} : Rv 195 27 ls (.int y :: .int x :: st) w = Rv 195 28 ls (.int (x + y) :: st) w := R_next Q195 (by decide +kernel) rfl
theorem e195_28 {ls : zL} {st : List Value} {w : zW} {x : Int32} : Rv 195 28 ls (.int x :: st) w = lst ls 3 (some (.int x)) fun l => Rv 195 29 l st w := R_st Q195 (by decide +kernel) rfl
theorem e195_29 {ls : zL} {st : List Value} {w : zW} : Rv 195 29 ls st w = ldI ls 4 fun x => lst ls 4 (some (.int (x + 1))) fun l => Rv 195 32 l st w := R_iinc Q195 (by decide +kernel) (by decide)
theorem e195_32 {ls : zL} {st : List Value} {w : zW} : Rv 195 32 ls st w = Rv 195 5 ls st w := R_go Q195 (by decide +kernel) rfl rfl
theorem e195_35 {ls : zL} {st : List Value} {w : zW} : Rv 195 35 ls st w = ldI ls 2 fun x => Rv 195 36 ls (.int x :: st) w := R_ldI Q195 (by decide +kernel) rfl
theorem e195_36 {ls : zL} {st : List Value} {w : zW} {x : Int32} : Rv 195 36 ls (.int x :: st) w = tsw x 0 131 (fun t => Rv 195 t ls st w) [76, 86, 96, 106, 115, 117] := R_tsw Q195 (by decide +kernel) (by decide +kernel) rfl rfl (by decide +kernel) (by decide +kernel)
theorem e195_76 {ls : zL} {st : List Value} {w : zW} : Rv 195 76 ls st w = ldA ls 0 fun x => Rv 195 77 ls (x :: st) w := R_ldA Q195 (by decide +kernel) rfl
theorem e195_77 {ls : zL} {st : List Value} {w : zW} {a : Nat} : Rv 195 77 ls (.ref a :: st) w = gF w a 6 0 fun v => Rv 195 80 ls (v :: st) w := R_gF (z := 1070) Q195 (by decide +kernel) rfl
theorem e195_80 {ls : zL} {st : List Value} {w : zW} : Rv 195 80 ls st w = Rv 195 82 ls (.int 7 :: st) w := R_con Q195 (by decide +kernel) rfl (by decide)
theorem e195_82 {ls : zL} {st : List Value} {w : zW} : Rv 195 82 ls st w = ldI ls 1 fun x => Rv 195 83 ls (.int x :: st) w := R_ldI Q195 (by decide +kernel) rfl
theorem e195_83 {ls : zL} {st : List Value} {w : zW} {x y : Int32} : Rv 195 83 ls (.int y :: .int x :: st) w = Rv 195 84 ls (.int (x + y) :: st) w := R_next Q195 (by decide +kernel) rfl
theorem e195_84 {ls : zL} {st : List Value} {w : zW} {a : Nat} {x : Int32} : Rv 195 84 ls (.int x :: .ref a :: st) w = gI w a 0 8 x fun v => Rv 195 85 ls (.int v :: st) w := R_iald Q195 (by decide +kernel)
theorem e195_85 {ls : zL} {w : zW} {x : Int32} : Rv 195 85 ls [.int x] w = some (.inl (some (.int x)), w) := R_retI Q195 (by decide +kernel) rfl
theorem e195_86 {ls : zL} {st : List Value} {w : zW} : Rv 195 86 ls st w = ldA ls 0 fun x => Rv 195 87 ls (x :: st) w := R_ldA Q195 (by decide +kernel) rfl
theorem e195_87 {ls : zL} {st : List Value} {w : zW} {a : Nat} : Rv 195 87 ls (.ref a :: st) w = gF w a 6 0 fun v => Rv 195 90 ls (v :: st) w := R_gF (z := 1070) Q195 (by decide +kernel) rfl
theorem e195_90 {ls : zL} {st : List Value} {w : zW} : Rv 195 90 ls st w = Rv 195 92 ls (.int 23 :: st) w := R_con Q195 (by decide +kernel) rfl (by decide)
theorem e195_92 {ls : zL} {st : List Value} {w : zW} : Rv 195 92 ls st w = ldI ls 1 fun x => Rv 195 93 ls (.int x :: st) w := R_ldI Q195 (by decide +kernel) rfl
theorem e195_93 {ls : zL} {st : List Value} {w : zW} {x y : Int32} : Rv 195 93 ls (.int y :: .int x :: st) w = Rv 195 94 ls (.int (x + y) :: st) w := R_next Q195 (by decide +kernel) rfl
theorem e195_94 {ls : zL} {st : List Value} {w : zW} {a : Nat} {x : Int32} : Rv 195 94 ls (.int x :: .ref a :: st) w = gI w a 0 8 x fun v => Rv 195 95 ls (.int v :: st) w := R_iald Q195 (by decide +kernel)
theorem e195_95 {ls : zL} {w : zW} {x : Int32} : Rv 195 95 ls [.int x] w = some (.inl (some (.int x)), w) := R_retI Q195 (by decide +kernel) rfl
theorem e195_96 {ls : zL} {st : List Value} {w : zW} : Rv 195 96 ls st w = ldA ls 0 fun x => Rv 195 97 ls (x :: st) w := R_ldA Q195 (by decide +kernel) rfl
theorem e195_97 {ls : zL} {st : List Value} {w : zW} {a : Nat} : Rv 195 97 ls (.ref a :: st) w = gF w a 6 0 fun v => Rv 195 100 ls (v :: st) w := R_gF (z := 1070) Q195 (by decide +kernel) rfl
theorem e195_100 {ls : zL} {st : List Value} {w : zW} : Rv 195 100 ls st w = Rv 195 102 ls (.int 39 :: st) w := R_con Q195 (by decide +kernel) rfl (by decide)
theorem e195_102 {ls : zL} {st : List Value} {w : zW} : Rv 195 102 ls st w = ldI ls 1 fun x => Rv 195 103 ls (.int x :: st) w := R_ldI Q195 (by decide +kernel) rfl
theorem e195_103 {ls : zL} {st : List Value} {w : zW} {x y : Int32} : Rv 195 103 ls (.int y :: .int x :: st) w = Rv 195 104 ls (.int (x + y) :: st) w := R_next Q195 (by decide +kernel) rfl
theorem e195_104 {ls : zL} {st : List Value} {w : zW} {a : Nat} {x : Int32} : Rv 195 104 ls (.int x :: .ref a :: st) w = gI w a 0 8 x fun v => Rv 195 105 ls (.int v :: st) w := R_iald Q195 (by decide +kernel)
theorem e195_105 {ls : zL} {w : zW} {x : Int32} : Rv 195 105 ls [.int x] w = some (.inl (some (.int x)), w) := R_retI Q195 (by decide +kernel) rfl
theorem e195_106 {ls : zL} {st : List Value} {w : zW} : Rv 195 106 ls st w = ldA ls 0 fun x => Rv 195 107 ls (x :: st) w := R_ldA Q195 (by decide +kernel) rfl
theorem e195_107 {ls : zL} {st : List Value} {w : zW} : Rv 195 107 ls st w = ldI ls 1 fun x => Rv 195 108 ls (.int x :: st) w := R_ldI Q195 (by decide +kernel) rfl
theorem e195_108 {ls : zL} {w : zW} {n1 : Int32} {a0 : Nat} : Rv 195 108 ls [.int n1, .ref a0] w = hO w a0 6 (cal (Rv 156 0 [some (.ref a0), some (.int n1), none, none] [] w) (fun v w' => Rv 195 111 ls (vts v []) w') (xnone)) := R_calV (z := 1243) (r := []) Q195 (by decide +kernel) rfl rfl Q156 rfl rfl rfl
theorem e195_111 {ls : zL} {w : zW} {n1 : Int32} : Rv 195 111 ls [.int n1] w = cal (Rv 146 0 [some (.int n1), none, none] [] w) (fun v w' => Rv 195 114 ls (vts v []) w') (xnone) := R_calS (z := 1172) (kd := 1) (n := 1) Q195 (by decide +kernel) rfl (Or.inl rfl) (Nat.le_of_ble_eq_true rfl) rfl Q146 rfl rfl rfl
theorem e195_114 {ls : zL} {w : zW} {x : Int32} : Rv 195 114 ls [.int x] w = some (.inl (some (.int x)), w) := R_retI Q195 (by decide +kernel) rfl
theorem e195_115 {ls : zL} {st : List Value} {w : zW} : Rv 195 115 ls st w = ldI ls 3 fun x => Rv 195 116 ls (.int x :: st) w := R_ldI Q195 (by decide +kernel) rfl
theorem e195_116 {ls : zL} {w : zW} {x : Int32} : Rv 195 116 ls [.int x] w = some (.inl (some (.int x)), w) := R_retI Q195 (by decide +kernel) rfl
theorem e195_117 {ls : zL} {st : List Value} {w : zW} : Rv 195 117 ls st w = ldA ls 0 fun x => Rv 195 118 ls (x :: st) w := R_ldA Q195 (by decide +kernel) rfl
theorem e195_118 {ls : zL} {st : List Value} {w : zW} : Rv 195 118 ls st w = ldA ls 0 fun x => Rv 195 119 ls (x :: st) w := R_ldA Q195 (by decide +kernel) rfl
theorem e195_119 {ls : zL} {st : List Value} {w : zW} {a : Nat} : Rv 195 119 ls (.ref a :: st) w = gF w a 6 0 fun v => Rv 195 122 ls (v :: st) w := R_gF (z := 1070) Q195 (by decide +kernel) rfl
theorem e195_122 {ls : zL} {st : List Value} {w : zW} : Rv 195 122 ls st w = Rv 195 124 ls (.int 7 :: st) w := R_con Q195 (by decide +kernel) rfl (by decide)
theorem e195_124 {ls : zL} {st : List Value} {w : zW} : Rv 195 124 ls st w = ldI ls 1 fun x => Rv 195 125 ls (.int x :: st) w := R_ldI Q195 (by decide +kernel) rfl
theorem e195_125 {ls : zL} {st : List Value} {w : zW} {x y : Int32} : Rv 195 125 ls (.int y :: .int x :: st) w = Rv 195 126 ls (.int (x + y) :: st) w := R_next Q195 (by decide +kernel) rfl
theorem e195_126 {ls : zL} {st : List Value} {w : zW} {a : Nat} {x : Int32} : Rv 195 126 ls (.int x :: .ref a :: st) w = gI w a 0 8 x fun v => Rv 195 127 ls (.int v :: st) w := R_iald Q195 (by decide +kernel)
theorem e195_127 {ls : zL} {w : zW} {n1 : Int32} {a0 : Nat} : Rv 195 127 ls [.int n1, .ref a0] w = hO w a0 6 (cal (Rv 172 0 [some (.ref a0), some (.int n1), none, none] [] w) (fun v w' => Rv 195 130 ls (vts v []) w') (xnone)) := R_calV (z := 1195) (r := []) Q195 (by decide +kernel) rfl rfl Q172 rfl rfl rfl
theorem e195_130 {ls : zL} {w : zW} {x : Int32} : Rv 195 130 ls [.int x] w = some (.inl (some (.int x)), w) := R_retI Q195 (by decide +kernel) rfl
theorem e195_131 {ls : zL} {st : List Value} {w : zW} : Rv 195 131 ls st w = ldA ls 0 fun x => Rv 195 132 ls (x :: st) w := R_ldA Q195 (by decide +kernel) rfl
theorem e195_132 {ls : zL} {st : List Value} {w : zW} : Rv 195 132 ls st w = ldI ls 1 fun x => Rv 195 133 ls (.int x :: st) w := R_ldI Q195 (by decide +kernel) rfl
theorem e195_133 {ls : zL} {w : zW} {n1 : Int32} {a0 : Nat} : Rv 195 133 ls [.int n1, .ref a0] w = hO w a0 6 (cal (Rv 173 0 [some (.ref a0), some (.int n1), none, none] [] w) (fun v w' => Rv 195 136 ls (vts v []) w') (xnone)) := R_calV (z := 1291) (r := []) Q195 (by decide +kernel) rfl rfl Q173 rfl rfl rfl
theorem e195_136 {ls : zL} {w : zW} {x : Int32} : Rv 195 136 ls [.int x] w = some (.inl (some (.int x)), w) := R_retI Q195 (by decide +kernel) rfl
/-! MasterPinsModel.key -/
theorem e196_0 {ls : zL} {st : List Value} {w : zW} : Rv 196 0 ls st w = ldA ls 0 fun x => Rv 196 1 ls (x :: st) w := R_ldA Q196 (by decide +kernel) rfl
theorem e196_1 {ls : zL} {st : List Value} {w : zW} : Rv 196 1 ls st w = ldA ls 0 fun x => Rv 196 2 ls (x :: st) w := R_ldA Q196 (by decide +kernel) rfl
theorem e196_2 {ls : zL} {st : List Value} {w : zW} : Rv 196 2 ls st w = ldI ls 1 fun x => Rv 196 3 ls (.int x :: st) w := R_ldI Q196 (by decide +kernel) rfl
theorem e196_3 {ls : zL} {w : zW} {n1 : Int32} {a0 : Nat} {a2 : Nat} : Rv 196 3 ls [.int n1, .ref a0, .ref a2] w = hO w a0 6 (cal (Rv 144 0 [some (.ref a0), some (.int n1)] [] w) (fun v w' => Rv 196 6 ls (vts v [.ref a2]) w') (xnone)) := R_calV (z := 1146) (r := [.ref a2]) Q196 (by decide +kernel) rfl rfl Q144 rfl rfl rfl
theorem e196_6 {ls : zL} {st : List Value} {w : zW} : Rv 196 6 ls st w = ldI ls 2 fun x => Rv 196 7 ls (.int x :: st) w := R_ldI Q196 (by decide +kernel) rfl
theorem e196_7 {ls : zL} {st : List Value} {w : zW} : Rv 196 7 ls st w = Rv 196 8 ls (.int 0 :: st) w := R_con Q196 (by decide +kernel) rfl (by decide)
theorem e196_8 {ls : zL} {st : List Value} {w : zW} : Rv 196 8 ls st w = Rv 196 10 ls (.int 6 :: st) w := R_con Q196 (by decide +kernel) rfl (by decide)
theorem e196_10 {ls : zL} {w : zW} {n1 : Int32} {n2 : Int32} {n3 : Int32} {n4 : Int32} {a5 : Nat} : Rv 196 10 ls [.int n1, .int n2, .int n3, .int n4, .ref a5] w = cal (Rv 141 0 [some (.int n3), some (.int n2), some (.int n1)] [] w) (fun v w' => Rv 196 13 ls (vts v [.int n4, .ref a5]) w') (xnone) := R_calS (z := 1119) (kd := 1) (n := 3) Q196 (by decide +kernel) rfl (Or.inl rfl) (Nat.le_of_ble_eq_true rfl) rfl Q141 rfl rfl rfl
theorem e196_13 {ls : zL} {st : List Value} {w : zW} : Rv 196 13 ls st w = Rv 196 14 ls (.int 1 :: st) w := R_con Q196 (by decide +kernel) rfl (by decide)
theorem e196_14 {ls : zL} {w : zW} {n1 : Int32} {n2 : Int32} {n3 : Int32} {a0 : Nat} : Rv 196 14 ls [.int n1, .int n2, .int n3, .ref a0] w = hO w a0 6 (cal (Rv 142 0 [some (.ref a0), some (.int n3), some (.int n2), some (.int n1)] [] w) (fun v w' => Rv 196 17 ls (vts v []) w') (xnone)) := R_calV (z := 1122) (r := []) Q196 (by decide +kernel) rfl rfl Q142 rfl rfl rfl
theorem e196_17 {ls : zL} {st : List Value} {w : zW} {x : Int32} : Rv 196 17 ls (.int x :: st) w = if x = 0 then Rv 196 24 ls st w else Rv 196 20 ls st w := R_f0eq Q196 (by decide +kernel) rfl rfl
theorem e196_20 {ls : zL} {st : List Value} {w : zW} : Rv 196 20 ls st w = Rv 196 21 ls (.int 0 :: st) w := R_con Q196 (by decide +kernel) rfl (by decide)
theorem e196_21 {ls : zL} {st : List Value} {w : zW} : Rv 196 21 ls st w = Rv 196 30 ls st w := R_go Q196 (by decide +kernel) rfl rfl
theorem e196_24 {ls : zL} {st : List Value} {w : zW} : Rv 196 24 ls st w = ldA ls 0 fun x => Rv 196 25 ls (x :: st) w := R_ldA Q196 (by decide +kernel) rfl
theorem e196_25 {ls : zL} {st : List Value} {w : zW} : Rv 196 25 ls st w = ldI ls 1 fun x => Rv 196 26 ls (.int x :: st) w := R_ldI Q196 (by decide +kernel) rfl
theorem e196_26 {ls : zL} {st : List Value} {w : zW} : Rv 196 26 ls st w = ldI ls 2 fun x => Rv 196 27 ls (.int x :: st) w := R_ldI Q196 (by decide +kernel) rfl
theorem e196_27 {ls : zL} {w : zW} {n1 : Int32} {n2 : Int32} {a0 : Nat} : Rv 196 27 ls [.int n1, .int n2, .ref a0] w = hO w a0 6 (cal (Rv 195 0 [some (.ref a0), some (.int n2), some (.int n1), none, none] [] w) (fun v w' => Rv 196 30 ls (vts v []) w') (xnone)) := R_calV (z := 1287) (r := []) Q196 (by decide +kernel) rfl rfl Q195 rfl rfl rfl
theorem e196_30 {ls : zL} {w : zW} {x : Int32} : Rv 196 30 ls [.int x] w = some (.inl (some (.int x)), w) := R_retI Q196 (by decide +kernel) rfl
/-! MasterPinsModel.doorValue -/
theorem e197_0 {ls : zL} {st : List Value} {w : zW} : Rv 197 0 ls st w = ldI ls 2 fun x => Rv 197 1 ls (.int x :: st) w := R_ldI Q197 (by decide +kernel) rfl
theorem e197_1 {ls : zL} {st : List Value} {w : zW} {x : Int32} : Rv 197 1 ls (.int x :: st) w = tsw x 0 100 (fun t => Rv 197 t ls st w) [48, 58, 64, 70, 76, 82, 88, 94] := R_tsw Q197 (by decide +kernel) (by decide +kernel) rfl rfl (by decide +kernel) (by decide +kernel)
theorem e197_48 {ls : zL} {st : List Value} {w : zW} : Rv 197 48 ls st w = ldA ls 0 fun x => Rv 197 49 ls (x :: st) w := R_ldA Q197 (by decide +kernel) rfl
theorem e197_49 {ls : zL} {st : List Value} {w : zW} {a : Nat} : Rv 197 49 ls (.ref a :: st) w = gF w a 6 0 fun v => Rv 197 52 ls (v :: st) w := R_gF (z := 1070) Q197 (by decide +kernel) rfl
theorem e197_52 {ls : zL} {st : List Value} {w : zW} : Rv 197 52 ls st w = Rv 197 54 ls (.int 55 :: st) w := R_con Q197 (by decide +kernel) rfl (by decide)
theorem e197_54 {ls : zL} {st : List Value} {w : zW} : Rv 197 54 ls st w = ldI ls 1 fun x => Rv 197 55 ls (.int x :: st) w := R_ldI Q197 (by decide +kernel) rfl
theorem e197_55 {ls : zL} {st : List Value} {w : zW} {x y : Int32} : Rv 197 55 ls (.int y :: .int x :: st) w = Rv 197 56 ls (.int (x + y) :: st) w := R_next Q197 (by decide +kernel) rfl
theorem e197_56 {ls : zL} {st : List Value} {w : zW} {a : Nat} {x : Int32} : Rv 197 56 ls (.int x :: .ref a :: st) w = gI w a 0 8 x fun v => Rv 197 57 ls (.int v :: st) w := R_iald Q197 (by decide +kernel)
theorem e197_57 {ls : zL} {w : zW} {x : Int32} : Rv 197 57 ls [.int x] w = some (.inl (some (.int x)), w) := R_retI Q197 (by decide +kernel) rfl
theorem e197_58 {ls : zL} {st : List Value} {w : zW} : Rv 197 58 ls st w = ldA ls 0 fun x => Rv 197 59 ls (x :: st) w := R_ldA Q197 (by decide +kernel) rfl
theorem e197_59 {ls : zL} {st : List Value} {w : zW} : Rv 197 59 ls st w = ldI ls 1 fun x => Rv 197 60 ls (.int x :: st) w := R_ldI Q197 (by decide +kernel) rfl
theorem e197_60 {ls : zL} {w : zW} {n1 : Int32} {a0 : Nat} : Rv 197 60 ls [.int n1, .ref a0] w = hO w a0 6 (cal (Rv 168 0 [some (.ref a0), some (.int n1), none, none] [] w) (fun v w' => Rv 197 63 ls (vts v []) w') (xnone)) := R_calV (z := 1259) (r := []) Q197 (by decide +kernel) rfl rfl Q168 rfl rfl rfl
theorem e197_63 {ls : zL} {w : zW} {x : Int32} : Rv 197 63 ls [.int x] w = some (.inl (some (.int x)), w) := R_retI Q197 (by decide +kernel) rfl
theorem e197_64 {ls : zL} {st : List Value} {w : zW} : Rv 197 64 ls st w = ldA ls 0 fun x => Rv 197 65 ls (x :: st) w := R_ldA Q197 (by decide +kernel) rfl
theorem e197_65 {ls : zL} {st : List Value} {w : zW} : Rv 197 65 ls st w = ldI ls 1 fun x => Rv 197 66 ls (.int x :: st) w := R_ldI Q197 (by decide +kernel) rfl
theorem e197_66 {ls : zL} {w : zW} {n1 : Int32} {a0 : Nat} : Rv 197 66 ls [.int n1, .ref a0] w = hO w a0 6 (cal (Rv 165 0 [some (.ref a0), some (.int n1), none, none] [] w) (fun v w' => Rv 197 69 ls (vts v []) w') (xnone)) := R_calV (z := 1303) (r := []) Q197 (by decide +kernel) rfl rfl Q165 rfl rfl rfl
theorem e197_69 {ls : zL} {w : zW} {x : Int32} : Rv 197 69 ls [.int x] w = some (.inl (some (.int x)), w) := R_retI Q197 (by decide +kernel) rfl
theorem e197_70 {ls : zL} {st : List Value} {w : zW} : Rv 197 70 ls st w = ldA ls 0 fun x => Rv 197 71 ls (x :: st) w := R_ldA Q197 (by decide +kernel) rfl
theorem e197_71 {ls : zL} {st : List Value} {w : zW} : Rv 197 71 ls st w = ldI ls 1 fun x => Rv 197 72 ls (.int x :: st) w := R_ldI Q197 (by decide +kernel) rfl
theorem e197_72 {ls : zL} {w : zW} {n1 : Int32} {a0 : Nat} : Rv 197 72 ls [.int n1, .ref a0] w = hO w a0 6 (cal (Rv 158 0 [some (.ref a0), some (.int n1), none] [] w) (fun v w' => Rv 197 75 ls (vts v []) w') (xnone)) := R_calV (z := 1239) (r := []) Q197 (by decide +kernel) rfl rfl Q158 rfl rfl rfl
theorem e197_75 {ls : zL} {w : zW} {x : Int32} : Rv 197 75 ls [.int x] w = some (.inl (some (.int x)), w) := R_retI Q197 (by decide +kernel) rfl
theorem e197_76 {ls : zL} {st : List Value} {w : zW} : Rv 197 76 ls st w = ldA ls 0 fun x => Rv 197 77 ls (x :: st) w := R_ldA Q197 (by decide +kernel) rfl
theorem e197_77 {ls : zL} {st : List Value} {w : zW} : Rv 197 77 ls st w = ldI ls 1 fun x => Rv 197 78 ls (.int x :: st) w := R_ldI Q197 (by decide +kernel) rfl
theorem e197_78 {ls : zL} {w : zW} {n1 : Int32} {a0 : Nat} : Rv 197 78 ls [.int n1, .ref a0] w = hO w a0 6 (cal (Rv 166 0 [some (.ref a0), some (.int n1)] [] w) (fun v w' => Rv 197 81 ls (vts v []) w') (xnone)) := R_calV (z := 1307) (r := []) Q197 (by decide +kernel) rfl rfl Q166 rfl rfl rfl
theorem e197_81 {ls : zL} {w : zW} {x : Int32} : Rv 197 81 ls [.int x] w = some (.inl (some (.int x)), w) := R_retI Q197 (by decide +kernel) rfl
theorem e197_82 {ls : zL} {st : List Value} {w : zW} : Rv 197 82 ls st w = ldA ls 0 fun x => Rv 197 83 ls (x :: st) w := R_ldA Q197 (by decide +kernel) rfl
theorem e197_83 {ls : zL} {st : List Value} {w : zW} : Rv 197 83 ls st w = ldI ls 1 fun x => Rv 197 84 ls (.int x :: st) w := R_ldI Q197 (by decide +kernel) rfl
theorem e197_84 {ls : zL} {w : zW} {n1 : Int32} {a0 : Nat} : Rv 197 84 ls [.int n1, .ref a0] w = hO w a0 6 (cal (Rv 171 0 [some (.ref a0), some (.int n1), none, none, none] [] w) (fun v w' => Rv 197 87 ls (vts v []) w') (xnone)) := R_calV (z := 1311) (r := []) Q197 (by decide +kernel) rfl rfl Q171 rfl rfl rfl
theorem e197_87 {ls : zL} {w : zW} {x : Int32} : Rv 197 87 ls [.int x] w = some (.inl (some (.int x)), w) := R_retI Q197 (by decide +kernel) rfl
theorem e197_88 {ls : zL} {st : List Value} {w : zW} : Rv 197 88 ls st w = ldA ls 0 fun x => Rv 197 89 ls (x :: st) w := R_ldA Q197 (by decide +kernel) rfl
theorem e197_89 {ls : zL} {st : List Value} {w : zW} : Rv 197 89 ls st w = ldI ls 1 fun x => Rv 197 90 ls (.int x :: st) w := R_ldI Q197 (by decide +kernel) rfl
theorem e197_90 {ls : zL} {w : zW} {n1 : Int32} {a0 : Nat} : Rv 197 90 ls [.int n1, .ref a0] w = hO w a0 6 (cal (Rv 167 0 [some (.ref a0), some (.int n1)] [] w) (fun v w' => Rv 197 93 ls (vts v []) w') (xnone)) := R_calV (z := 1327) (r := []) Q197 (by decide +kernel) rfl rfl Q167 rfl rfl rfl
theorem e197_93 {ls : zL} {w : zW} {x : Int32} : Rv 197 93 ls [.int x] w = some (.inl (some (.int x)), w) := R_retI Q197 (by decide +kernel) rfl
theorem e197_94 {ls : zL} {st : List Value} {w : zW} : Rv 197 94 ls st w = ldA ls 0 fun x => Rv 197 95 ls (x :: st) w := R_ldA Q197 (by decide +kernel) rfl
theorem e197_95 {ls : zL} {st : List Value} {w : zW} : Rv 197 95 ls st w = ldI ls 1 fun x => Rv 197 96 ls (.int x :: st) w := R_ldI Q197 (by decide +kernel) rfl
theorem e197_96 {ls : zL} {w : zW} {n1 : Int32} {a0 : Nat} : Rv 197 96 ls [.int n1, .ref a0] w = hO w a0 6 (cal (Rv 161 0 [some (.ref a0), some (.int n1), none, none] [] w) (fun v w' => Rv 197 99 ls (vts v []) w') (xnone)) := R_calV (z := 1231) (r := []) Q197 (by decide +kernel) rfl rfl Q161 rfl rfl rfl
theorem e197_99 {ls : zL} {w : zW} {x : Int32} : Rv 197 99 ls [.int x] w = some (.inl (some (.int x)), w) := R_retI Q197 (by decide +kernel) rfl
theorem e197_100 {ls : zL} {st : List Value} {w : zW} : Rv 197 100 ls st w = ldA ls 0 fun x => Rv 197 101 ls (x :: st) w := R_ldA Q197 (by decide +kernel) rfl
theorem e197_101 {ls : zL} {st : List Value} {w : zW} : Rv 197 101 ls st w = ldI ls 1 fun x => Rv 197 102 ls (.int x :: st) w := R_ldI Q197 (by decide +kernel) rfl
theorem e197_102 {ls : zL} {w : zW} {n1 : Int32} {a0 : Nat} : Rv 197 102 ls [.int n1, .ref a0] w = hO w a0 6 (cal (Rv 169 0 [some (.ref a0), some (.int n1), none, none] [] w) (fun v w' => Rv 197 105 ls (vts v []) w') (xnone)) := R_calV (z := 1331) (r := []) Q197 (by decide +kernel) rfl rfl Q169 rfl rfl rfl
theorem e197_105 {ls : zL} {w : zW} {x : Int32} : Rv 197 105 ls [.int x] w = some (.inl (some (.int x)), w) := R_retI Q197 (by decide +kernel) rfl
/-! MasterPinsModel.door -/
theorem e198_0 {ls : zL} {st : List Value} {w : zW} : Rv 198 0 ls st w = ldA ls 0 fun x => Rv 198 1 ls (x :: st) w := R_ldA Q198 (by decide +kernel) rfl
theorem e198_1 {ls : zL} {st : List Value} {w : zW} : Rv 198 1 ls st w = ldA ls 0 fun x => Rv 198 2 ls (x :: st) w := R_ldA Q198 (by decide +kernel) rfl
theorem e198_2 {ls : zL} {st : List Value} {w : zW} : Rv 198 2 ls st w = ldI ls 1 fun x => Rv 198 3 ls (.int x :: st) w := R_ldI Q198 (by decide +kernel) rfl
theorem e198_3 {ls : zL} {w : zW} {n1 : Int32} {a0 : Nat} {a2 : Nat} : Rv 198 3 ls [.int n1, .ref a0, .ref a2] w = hO w a0 6 (cal (Rv 145 0 [some (.ref a0), some (.int n1)] [] w) (fun v w' => Rv 198 6 ls (vts v [.ref a2]) w') (xnone)) := R_calV (z := 1255) (r := [.ref a2]) Q198 (by decide +kernel) rfl rfl Q145 rfl rfl rfl
theorem e198_6 {ls : zL} {st : List Value} {w : zW} : Rv 198 6 ls st w = ldI ls 2 fun x => Rv 198 7 ls (.int x :: st) w := R_ldI Q198 (by decide +kernel) rfl
theorem e198_7 {ls : zL} {st : List Value} {w : zW} : Rv 198 7 ls st w = Rv 198 8 ls (.int 0 :: st) w := R_con Q198 (by decide +kernel) rfl (by decide)
theorem e198_8 {ls : zL} {st : List Value} {w : zW} : Rv 198 8 ls st w = Rv 198 10 ls (.int 8 :: st) w := R_con Q198 (by decide +kernel) rfl (by decide)
theorem e198_10 {ls : zL} {w : zW} {n1 : Int32} {n2 : Int32} {n3 : Int32} {n4 : Int32} {a5 : Nat} : Rv 198 10 ls [.int n1, .int n2, .int n3, .int n4, .ref a5] w = cal (Rv 141 0 [some (.int n3), some (.int n2), some (.int n1)] [] w) (fun v w' => Rv 198 13 ls (vts v [.int n4, .ref a5]) w') (xnone) := R_calS (z := 1119) (kd := 1) (n := 3) Q198 (by decide +kernel) rfl (Or.inl rfl) (Nat.le_of_ble_eq_true rfl) rfl Q141 rfl rfl rfl
theorem e198_13 {ls : zL} {st : List Value} {w : zW} : Rv 198 13 ls st w = Rv 198 14 ls (.int 1 :: st) w := R_con Q198 (by decide +kernel) rfl (by decide)
theorem e198_14 {ls : zL} {w : zW} {n1 : Int32} {n2 : Int32} {n3 : Int32} {a0 : Nat} : Rv 198 14 ls [.int n1, .int n2, .int n3, .ref a0] w = hO w a0 6 (cal (Rv 142 0 [some (.ref a0), some (.int n3), some (.int n2), some (.int n1)] [] w) (fun v w' => Rv 198 17 ls (vts v []) w') (xnone)) := R_calV (z := 1122) (r := []) Q198 (by decide +kernel) rfl rfl Q142 rfl rfl rfl
theorem e198_17 {ls : zL} {st : List Value} {w : zW} {x : Int32} : Rv 198 17 ls (.int x :: st) w = if x = 0 then Rv 198 24 ls st w else Rv 198 20 ls st w := R_f0eq Q198 (by decide +kernel) rfl rfl
theorem e198_20 {ls : zL} {st : List Value} {w : zW} : Rv 198 20 ls st w = Rv 198 21 ls (.int 0 :: st) w := R_con Q198 (by decide +kernel) rfl (by decide)
theorem e198_21 {ls : zL} {st : List Value} {w : zW} : Rv 198 21 ls st w = Rv 198 30 ls st w := R_go Q198 (by decide +kernel) rfl rfl
theorem e198_24 {ls : zL} {st : List Value} {w : zW} : Rv 198 24 ls st w = ldA ls 0 fun x => Rv 198 25 ls (x :: st) w := R_ldA Q198 (by decide +kernel) rfl
theorem e198_25 {ls : zL} {st : List Value} {w : zW} : Rv 198 25 ls st w = ldI ls 1 fun x => Rv 198 26 ls (.int x :: st) w := R_ldI Q198 (by decide +kernel) rfl
theorem e198_26 {ls : zL} {st : List Value} {w : zW} : Rv 198 26 ls st w = ldI ls 2 fun x => Rv 198 27 ls (.int x :: st) w := R_ldI Q198 (by decide +kernel) rfl
theorem e198_27 {ls : zL} {w : zW} {n1 : Int32} {n2 : Int32} {a0 : Nat} : Rv 198 27 ls [.int n1, .int n2, .ref a0] w = hO w a0 6 (cal (Rv 197 0 [some (.ref a0), some (.int n2), some (.int n1)] [] w) (fun v w' => Rv 198 30 ls (vts v []) w') (xnone)) := R_calV (z := 1299) (r := []) Q198 (by decide +kernel) rfl rfl Q197 rfl rfl rfl
theorem e198_30 {ls : zL} {w : zW} {x : Int32} : Rv 198 30 ls [.int x] w = some (.inl (some (.int x)), w) := R_retI Q198 (by decide +kernel) rfl
/-! MasterPinsModel.pins -/
theorem e199_0 {ls : zL} {st : List Value} {w : zW} : Rv 199 0 ls st w = ldA ls 0 fun x => Rv 199 1 ls (x :: st) w := R_ldA Q199 (by decide +kernel) rfl
theorem e199_1 {ls : zL} {st : List Value} {w : zW} : Rv 199 1 ls st w = ldA ls 0 fun x => Rv 199 2 ls (x :: st) w := R_ldA Q199 (by decide +kernel) rfl
theorem e199_2 {ls : zL} {st : List Value} {w : zW} : Rv 199 2 ls st w = ldI ls 1 fun x => Rv 199 3 ls (.int x :: st) w := R_ldI Q199 (by decide +kernel) rfl
theorem e199_3 {ls : zL} {w : zW} {n1 : Int32} {a0 : Nat} {a2 : Nat} : Rv 199 3 ls [.int n1, .ref a0, .ref a2] w = hO w a0 6 (cal (Rv 145 0 [some (.ref a0), some (.int n1)] [] w) (fun v w' => Rv 199 6 ls (vts v [.ref a2]) w') (xnone)) := R_calV (z := 1255) (r := [.ref a2]) Q199 (by decide +kernel) rfl rfl Q145 rfl rfl rfl
theorem e199_6 {ls : zL} {st : List Value} {w : zW} {x : Int32} : Rv 199 6 ls (.int x :: st) w = if x = 0 then Rv 199 29 ls st w else Rv 199 9 ls st w := R_f0eq Q199 (by decide +kernel) rfl rfl
theorem e199_9 {ls : zL} {st : List Value} {w : zW} : Rv 199 9 ls st w = ldI ls 2 fun x => Rv 199 10 ls (.int x :: st) w := R_ldI Q199 (by decide +kernel) rfl
theorem e199_10 {ls : zL} {st : List Value} {w : zW} : Rv 199 10 ls st w = Rv 199 11 ls (.int 0 :: st) w := R_con Q199 (by decide +kernel) rfl (by decide)
theorem e199_11 {ls : zL} {st : List Value} {w : zW} : Rv 199 11 ls st w = ldA ls 0 fun x => Rv 199 12 ls (x :: st) w := R_ldA Q199 (by decide +kernel) rfl
theorem e199_12 {ls : zL} {st : List Value} {w : zW} {a : Nat} : Rv 199 12 ls (.ref a :: st) w = gF w a 6 0 fun v => Rv 199 15 ls (v :: st) w := R_gF (z := 1070) Q199 (by decide +kernel) rfl
theorem e199_15 {ls : zL} {st : List Value} {w : zW} : Rv 199 15 ls st w = Rv 199 16 ls (.int 0 :: st) w := R_con Q199 (by decide +kernel) rfl (by decide)
theorem e199_16 {ls : zL} {st : List Value} {w : zW} {a : Nat} {x : Int32} : Rv 199 16 ls (.int x :: .ref a :: st) w = gI w a 0 8 x fun v => Rv 199 17 ls (.int v :: st) w := R_iald Q199 (by decide +kernel)
theorem e199_17 {ls : zL} {st : List Value} {w : zW} : Rv 199 17 ls st w = Rv 199 18 ls (.int 1 :: st) w := R_con Q199 (by decide +kernel) rfl (by decide)
theorem e199_18 {ls : zL} {st : List Value} {w : zW} {x y : Int32} : Rv 199 18 ls (.int y :: .int x :: st) w = Rv 199 19 ls (.int (x - y) :: st) w := R_next Q199 (by decide +kernel) rfl
theorem e199_19 {ls : zL} {w : zW} {n1 : Int32} {n2 : Int32} {n3 : Int32} {a4 : Nat} : Rv 199 19 ls [.int n1, .int n2, .int n3, .ref a4] w = cal (Rv 141 0 [some (.int n3), some (.int n2), some (.int n1)] [] w) (fun v w' => Rv 199 22 ls (vts v [.ref a4]) w') (xnone) := R_calS (z := 1119) (kd := 1) (n := 3) Q199 (by decide +kernel) rfl (Or.inl rfl) (Nat.le_of_ble_eq_true rfl) rfl Q141 rfl rfl rfl
theorem e199_22 {ls : zL} {st : List Value} {w : zW} {x : Int32} : Rv 199 22 ls (.int x :: st) w = if x = 0 then Rv 199 29 ls st w else Rv 199 25 ls st w := R_f0eq Q199 (by decide +kernel) rfl rfl
theorem e199_25 {ls : zL} {st : List Value} {w : zW} : Rv 199 25 ls st w = Rv 199 26 ls (.int 1 :: st) w := R_con Q199 (by decide +kernel) rfl (by decide)
theorem e199_26 {ls : zL} {st : List Value} {w : zW} : Rv 199 26 ls st w = Rv 199 30 ls st w := R_go Q199 (by decide +kernel) rfl rfl
theorem e199_29 {ls : zL} {st : List Value} {w : zW} : Rv 199 29 ls st w = Rv 199 30 ls (.int 0 :: st) w := R_con Q199 (by decide +kernel) rfl (by decide)
theorem e199_30 {ls : zL} {st : List Value} {w : zW} : Rv 199 30 ls st w = Rv 199 31 ls (.int 1 :: st) w := R_con Q199 (by decide +kernel) rfl (by decide)
theorem e199_31 {ls : zL} {st : List Value} {w : zW} : Rv 199 31 ls st w = Rv 199 32 ls (.int 1 :: st) w := R_con Q199 (by decide +kernel) rfl (by decide)
theorem e199_32 {ls : zL} {w : zW} {n1 : Int32} {n2 : Int32} {n3 : Int32} {a0 : Nat} : Rv 199 32 ls [.int n1, .int n2, .int n3, .ref a0] w = hO w a0 6 (cal (Rv 142 0 [some (.ref a0), some (.int n3), some (.int n2), some (.int n1)] [] w) (fun v w' => Rv 199 35 ls (vts v []) w') (xnone)) := R_calV (z := 1122) (r := []) Q199 (by decide +kernel) rfl rfl Q142 rfl rfl rfl
theorem e199_35 {ls : zL} {st : List Value} {w : zW} {x : Int32} : Rv 199 35 ls (.int x :: st) w = if x = 0 then Rv 199 42 ls st w else Rv 199 38 ls st w := R_f0eq Q199 (by decide +kernel) rfl rfl
theorem e199_38 {ls : zL} {st : List Value} {w : zW} : Rv 199 38 ls st w = Rv 199 39 ls (.int 0 :: st) w := R_con Q199 (by decide +kernel) rfl (by decide)
theorem e199_39 {ls : zL} {st : List Value} {w : zW} : Rv 199 39 ls st w = Rv 199 48 ls st w := R_go Q199 (by decide +kernel) rfl rfl
theorem e199_42 {ls : zL} {st : List Value} {w : zW} : Rv 199 42 ls st w = ldA ls 0 fun x => Rv 199 43 ls (x :: st) w := R_ldA Q199 (by decide +kernel) rfl
theorem e199_43 {ls : zL} {st : List Value} {w : zW} : Rv 199 43 ls st w = ldI ls 1 fun x => Rv 199 44 ls (.int x :: st) w := R_ldI Q199 (by decide +kernel) rfl
theorem e199_44 {ls : zL} {st : List Value} {w : zW} : Rv 199 44 ls st w = ldI ls 2 fun x => Rv 199 45 ls (.int x :: st) w := R_ldI Q199 (by decide +kernel) rfl
theorem e199_45 {ls : zL} {w : zW} {n1 : Int32} {n2 : Int32} {a0 : Nat} : Rv 199 45 ls [.int n1, .int n2, .ref a0] w = hO w a0 6 (cal (Rv 159 0 [some (.ref a0), some (.int n2), some (.int n1)] [] w) (fun v w' => Rv 199 48 ls (vts v []) w') (xnone)) := R_calV (z := 1203) (r := []) Q199 (by decide +kernel) rfl rfl Q159 rfl rfl rfl
theorem e199_48 {ls : zL} {w : zW} {x : Int32} : Rv 199 48 ls [.int x] w = some (.inl (some (.int x)), w) := R_retI Q199 (by decide +kernel) rfl
/-! MasterPinsModel.allDoors -/
theorem e200_0 {ls : zL} {st : List Value} {w : zW} : Rv 200 0 ls st w = Rv 200 1 ls (.int 0 :: st) w := R_con Q200 (by decide +kernel) rfl (by decide)
theorem e200_1 {ls : zL} {st : List Value} {w : zW} {x : Int32} : Rv 200 1 ls (.int x :: st) w = lst ls 2 (some (.int x)) fun l => Rv 200 2 l st w := R_st Q200 (by decide +kernel) rfl
theorem e200_2 {ls : zL} {st : List Value} {w : zW} : Rv 200 2 ls st w = Rv 200 3 ls (.int 0 :: st) w := R_con Q200 (by decide +kernel) rfl (by decide)
theorem e200_3 {ls : zL} {st : List Value} {w : zW} {x : Int32} : Rv 200 3 ls (.int x :: st) w = lst ls 3 (some (.int x)) fun l => Rv 200 4 l st w := R_st Q200 (by decide +kernel) rfl
theorem h200_4 {ls : zL} {st : List Value} {w : zW} : Rv 200 4 ls st w = ldI ls 3 fun x => Rv 200 5 ls (.int x :: st) w := R_ldI Q200 (by decide +kernel) rfl
theorem e200_5 {ls : zL} {st : List Value} {w : zW} : Rv 200 5 ls st w = ldA ls 0 fun x => Rv 200 6 ls (x :: st) w := R_ldA Q200 (by decide +kernel) rfl
theorem e200_6 {ls : zL} {st : List Value} {w : zW} {a : Nat} : Rv 200 6 ls (.ref a :: st) w = gF w a 6 0 fun v => Rv 200 9 ls (v :: st) w := R_gF (z := 1070) Q200 (by decide +kernel) rfl
theorem e200_9 {ls : zL} {st : List Value} {w : zW} : Rv 200 9 ls st w = Rv 200 11 ls (.int 6 :: st) w := R_con Q200 (by decide +kernel) rfl (by decide)
theorem e200_11 {ls : zL} {st : List Value} {w : zW} {a : Nat} {x : Int32} : Rv 200 11 ls (.int x :: .ref a :: st) w = gI w a 0 8 x fun v => Rv 200 12 ls (.int v :: st) w := R_iald Q200 (by decide +kernel)
theorem e200_12 {ls : zL} {st : List Value} {w : zW} {x y : Int32} : Rv 200 12 ls (.int y :: .int x :: st) w = if x < y then Rv 200 15 ls st w else Rv 200 30 ls st w := R_fige Q200 (by decide +kernel) rfl rfl
theorem e200_15 {ls : zL} {st : List Value} {w : zW} : Rv 200 15 ls st w = ldI ls 2 fun x => Rv 200 16 ls (.int x :: st) w := R_ldI Q200 (by decide +kernel) rfl
theorem e200_16 {ls : zL} {st : List Value} {w : zW} : Rv 200 16 ls st w = ldA ls 0 fun x => Rv 200 17 ls (x :: st) w := R_ldA Q200 (by decide +kernel) rfl
theorem e200_17 {ls : zL} {st : List Value} {w : zW} : Rv 200 17 ls st w = ldI ls 3 fun x => Rv 200 18 ls (.int x :: st) w := R_ldI Q200 (by decide +kernel) rfl
theorem e200_18 {ls : zL} {st : List Value} {w : zW} : Rv 200 18 ls st w = ldI ls 1 fun x => Rv 200 19 ls (.int x :: st) w := R_ldI Q200 (by decide +kernel) rfl
theorem e200_19 {ls : zL} {w : zW} {n1 : Int32} {n2 : Int32} {a0 : Nat} {n3 : Int32} : Rv 200 19 ls [.int n1, .int n2, .ref a0, .int n3] w = hO w a0 6 (cal (Rv 197 0 [some (.ref a0), some (.int n2), some (.int n1)] [] w) (fun v w' => Rv 200 22 ls (vts v [.int n3]) w') (xnone)) := R_calV (z := 1299) (r := [.int n3]) Q200 (by decide +kernel) rfl rfl Q197 rfl rfl rfl
theorem e200_22 {ls : zL} {st : List Value} {w : zW} {x y : Int32} : Rv 200 22 ls (.int y :: .int x :: st) w = Rv 200 23 ls (.int (x + y) :: st) w := R_next Q200 (by decide +kernel) rfl
theorem e200_23 {ls : zL} {st : List Value} {w : zW} {x : Int32} : Rv 200 23 ls (.int x :: st) w = lst ls 2 (some (.int x)) fun l => Rv 200 24 l st w := R_st Q200 (by decide +kernel) rfl
theorem e200_24 {ls : zL} {st : List Value} {w : zW} : Rv 200 24 ls st w = ldI ls 3 fun x => lst ls 3 (some (.int (x + 1))) fun l => Rv 200 27 l st w := R_iinc Q200 (by decide +kernel) (by decide)
theorem e200_27 {ls : zL} {st : List Value} {w : zW} : Rv 200 27 ls st w = Rv 200 4 ls st w := R_go Q200 (by decide +kernel) rfl rfl
theorem e200_30 {ls : zL} {st : List Value} {w : zW} : Rv 200 30 ls st w = ldI ls 2 fun x => Rv 200 31 ls (.int x :: st) w := R_ldI Q200 (by decide +kernel) rfl
theorem e200_31 {ls : zL} {w : zW} {x : Int32} : Rv 200 31 ls [.int x] w = some (.inl (some (.int x)), w) := R_retI Q200 (by decide +kernel) rfl
/-! MasterPinsModel.wholeValue -/
theorem e201_0 {ls : zL} {st : List Value} {w : zW} : Rv 201 0 ls st w = ldI ls 1 fun x => Rv 201 1 ls (.int x :: st) w := R_ldI Q201 (by decide +kernel) rfl
theorem e201_1 {ls : zL} {st : List Value} {w : zW} {x : Int32} : Rv 201 1 ls (.int x :: st) w = tsw x 0 113 (fun t => Rv 201 t ls st w) [68, 68, 68, 68, 68, 68, 68, 75, 83, 89, 95, 102, 107] := R_tsw Q201 (by decide +kernel) (by decide +kernel) rfl rfl (by decide +kernel) (by decide +kernel)
theorem e201_68 {ls : zL} {st : List Value} {w : zW} : Rv 201 68 ls st w = ldA ls 0 fun x => Rv 201 69 ls (x :: st) w := R_ldA Q201 (by decide +kernel) rfl
theorem e201_69 {ls : zL} {st : List Value} {w : zW} {a : Nat} : Rv 201 69 ls (.ref a :: st) w = gF w a 6 0 fun v => Rv 201 72 ls (v :: st) w := R_gF (z := 1070) Q201 (by decide +kernel) rfl
theorem e201_72 {ls : zL} {st : List Value} {w : zW} : Rv 201 72 ls st w = ldI ls 1 fun x => Rv 201 73 ls (.int x :: st) w := R_ldI Q201 (by decide +kernel) rfl
theorem e201_73 {ls : zL} {st : List Value} {w : zW} {a : Nat} {x : Int32} : Rv 201 73 ls (.int x :: .ref a :: st) w = gI w a 0 8 x fun v => Rv 201 74 ls (.int v :: st) w := R_iald Q201 (by decide +kernel)
theorem e201_74 {ls : zL} {w : zW} {x : Int32} : Rv 201 74 ls [.int x] w = some (.inl (some (.int x)), w) := R_retI Q201 (by decide +kernel) rfl
theorem e201_75 {ls : zL} {st : List Value} {w : zW} : Rv 201 75 ls st w = ldA ls 0 fun x => Rv 201 76 ls (x :: st) w := R_ldA Q201 (by decide +kernel) rfl
theorem e201_76 {ls : zL} {w : zW} {a0 : Nat} : Rv 201 76 ls [.ref a0] w = hO w a0 6 (cal (Rv 157 0 [some (.ref a0), none, none] [] w) (fun v w' => Rv 201 79 ls (vts v []) w') (xnone)) := R_calV (z := 1215) (r := []) Q201 (by decide +kernel) rfl rfl Q157 rfl rfl rfl
theorem e201_79 {ls : zL} {w : zW} {n1 : Int32} : Rv 201 79 ls [.int n1] w = cal (Rv 146 0 [some (.int n1), none, none] [] w) (fun v w' => Rv 201 82 ls (vts v []) w') (xnone) := R_calS (z := 1172) (kd := 1) (n := 1) Q201 (by decide +kernel) rfl (Or.inl rfl) (Nat.le_of_ble_eq_true rfl) rfl Q146 rfl rfl rfl
theorem e201_82 {ls : zL} {w : zW} {x : Int32} : Rv 201 82 ls [.int x] w = some (.inl (some (.int x)), w) := R_retI Q201 (by decide +kernel) rfl
theorem e201_83 {ls : zL} {st : List Value} {w : zW} : Rv 201 83 ls st w = ldA ls 0 fun x => Rv 201 84 ls (x :: st) w := R_ldA Q201 (by decide +kernel) rfl
theorem e201_84 {ls : zL} {st : List Value} {w : zW} : Rv 201 84 ls st w = Rv 201 85 ls (.int 4 :: st) w := R_con Q201 (by decide +kernel) rfl (by decide)
theorem e201_85 {ls : zL} {w : zW} {n1 : Int32} {a0 : Nat} : Rv 201 85 ls [.int n1, .ref a0] w = hO w a0 6 (cal (Rv 200 0 [some (.ref a0), some (.int n1), none, none] [] w) (fun v w' => Rv 201 88 ls (vts v []) w') (xnone)) := R_calV (z := 1347) (r := []) Q201 (by decide +kernel) rfl rfl Q200 rfl rfl rfl
theorem e201_88 {ls : zL} {w : zW} {x : Int32} : Rv 201 88 ls [.int x] w = some (.inl (some (.int x)), w) := R_retI Q201 (by decide +kernel) rfl
theorem e201_89 {ls : zL} {st : List Value} {w : zW} : Rv 201 89 ls st w = ldA ls 0 fun x => Rv 201 90 ls (x :: st) w := R_ldA Q201 (by decide +kernel) rfl
theorem e201_90 {ls : zL} {st : List Value} {w : zW} : Rv 201 90 ls st w = Rv 201 91 ls (.int 5 :: st) w := R_con Q201 (by decide +kernel) rfl (by decide)
theorem e201_91 {ls : zL} {w : zW} {n1 : Int32} {a0 : Nat} : Rv 201 91 ls [.int n1, .ref a0] w = hO w a0 6 (cal (Rv 200 0 [some (.ref a0), some (.int n1), none, none] [] w) (fun v w' => Rv 201 94 ls (vts v []) w') (xnone)) := R_calV (z := 1347) (r := []) Q201 (by decide +kernel) rfl rfl Q200 rfl rfl rfl
theorem e201_94 {ls : zL} {w : zW} {x : Int32} : Rv 201 94 ls [.int x] w = some (.inl (some (.int x)), w) := R_retI Q201 (by decide +kernel) rfl
theorem e201_95 {ls : zL} {st : List Value} {w : zW} : Rv 201 95 ls st w = ldA ls 0 fun x => Rv 201 96 ls (x :: st) w := R_ldA Q201 (by decide +kernel) rfl
theorem e201_96 {ls : zL} {st : List Value} {w : zW} : Rv 201 96 ls st w = Rv 201 98 ls (.int 6 :: st) w := R_con Q201 (by decide +kernel) rfl (by decide)
theorem e201_98 {ls : zL} {w : zW} {n1 : Int32} {a0 : Nat} : Rv 201 98 ls [.int n1, .ref a0] w = hO w a0 6 (cal (Rv 200 0 [some (.ref a0), some (.int n1), none, none] [] w) (fun v w' => Rv 201 101 ls (vts v []) w') (xnone)) := R_calV (z := 1347) (r := []) Q201 (by decide +kernel) rfl rfl Q200 rfl rfl rfl
theorem e201_101 {ls : zL} {w : zW} {x : Int32} : Rv 201 101 ls [.int x] w = some (.inl (some (.int x)), w) := R_retI Q201 (by decide +kernel) rfl
theorem e201_102 {ls : zL} {st : List Value} {w : zW} : Rv 201 102 ls st w = ldA ls 0 fun x => Rv 201 103 ls (x :: st) w := R_ldA Q201 (by decide +kernel) rfl
theorem e201_103 {ls : zL} {w : zW} {a0 : Nat} : Rv 201 103 ls [.ref a0] w = hO w a0 6 (cal (Rv 203 0 [some (.ref a0), none, none] [] w) (fun v w' => Rv 201 106 ls (vts v []) w') (xnone)) := R_calV (z := 1351) (r := []) Q201 (by decide +kernel) rfl rfl Q203 rfl rfl rfl
theorem e201_106 {ls : zL} {w : zW} {x : Int32} : Rv 201 106 ls [.int x] w = some (.inl (some (.int x)), w) := R_retI Q201 (by decide +kernel) rfl
theorem e201_107 {ls : zL} {st : List Value} {w : zW} : Rv 201 107 ls st w = ldA ls 0 fun x => Rv 201 108 ls (x :: st) w := R_ldA Q201 (by decide +kernel) rfl
theorem e201_108 {ls : zL} {st : List Value} {w : zW} : Rv 201 108 ls st w = Rv 201 109 ls (.int 1 :: st) w := R_con Q201 (by decide +kernel) rfl (by decide)
theorem e201_109 {ls : zL} {w : zW} {n1 : Int32} {a0 : Nat} : Rv 201 109 ls [.int n1, .ref a0] w = hO w a0 6 (cal (Rv 200 0 [some (.ref a0), some (.int n1), none, none] [] w) (fun v w' => Rv 201 112 ls (vts v []) w') (xnone)) := R_calV (z := 1347) (r := []) Q201 (by decide +kernel) rfl rfl Q200 rfl rfl rfl
theorem e201_112 {ls : zL} {w : zW} {x : Int32} : Rv 201 112 ls [.int x] w = some (.inl (some (.int x)), w) := R_retI Q201 (by decide +kernel) rfl
theorem e201_113 {ls : zL} {st : List Value} {w : zW} : Rv 201 113 ls st w = ldA ls 0 fun x => Rv 201 114 ls (x :: st) w := R_ldA Q201 (by decide +kernel) rfl
theorem e201_114 {ls : zL} {st : List Value} {w : zW} {a : Nat} : Rv 201 114 ls (.ref a :: st) w = gF w a 6 6 fun v => Rv 201 117 ls (v :: st) w := R_gF (z := 1076) Q201 (by decide +kernel) rfl
theorem e201_117 {ls : zL} {w : zW} {x : Int32} : Rv 201 117 ls [.int x] w = some (.inl (some (.int x)), w) := R_retI Q201 (by decide +kernel) rfl
/-! MasterPinsModel.whole -/
theorem e202_0 {ls : zL} {st : List Value} {w : zW} : Rv 202 0 ls st w = ldA ls 0 fun x => Rv 202 1 ls (x :: st) w := R_ldA Q202 (by decide +kernel) rfl
theorem e202_1 {ls : zL} {st : List Value} {w : zW} : Rv 202 1 ls st w = ldI ls 1 fun x => Rv 202 2 ls (.int x :: st) w := R_ldI Q202 (by decide +kernel) rfl
theorem e202_2 {ls : zL} {st : List Value} {w : zW} : Rv 202 2 ls st w = Rv 202 3 ls (.int 0 :: st) w := R_con Q202 (by decide +kernel) rfl (by decide)
theorem e202_3 {ls : zL} {st : List Value} {w : zW} : Rv 202 3 ls st w = Rv 202 5 ls (.int 13 :: st) w := R_con Q202 (by decide +kernel) rfl (by decide)
theorem e202_5 {ls : zL} {w : zW} {n1 : Int32} {n2 : Int32} {n3 : Int32} {a4 : Nat} : Rv 202 5 ls [.int n1, .int n2, .int n3, .ref a4] w = cal (Rv 141 0 [some (.int n3), some (.int n2), some (.int n1)] [] w) (fun v w' => Rv 202 8 ls (vts v [.ref a4]) w') (xnone) := R_calS (z := 1119) (kd := 1) (n := 3) Q202 (by decide +kernel) rfl (Or.inl rfl) (Nat.le_of_ble_eq_true rfl) rfl Q141 rfl rfl rfl
theorem e202_8 {ls : zL} {st : List Value} {w : zW} : Rv 202 8 ls st w = Rv 202 9 ls (.int 1 :: st) w := R_con Q202 (by decide +kernel) rfl (by decide)
theorem e202_9 {ls : zL} {st : List Value} {w : zW} : Rv 202 9 ls st w = Rv 202 10 ls (.int 1 :: st) w := R_con Q202 (by decide +kernel) rfl (by decide)
theorem e202_10 {ls : zL} {w : zW} {n1 : Int32} {n2 : Int32} {n3 : Int32} {a0 : Nat} : Rv 202 10 ls [.int n1, .int n2, .int n3, .ref a0] w = hO w a0 6 (cal (Rv 142 0 [some (.ref a0), some (.int n3), some (.int n2), some (.int n1)] [] w) (fun v w' => Rv 202 13 ls (vts v []) w') (xnone)) := R_calV (z := 1122) (r := []) Q202 (by decide +kernel) rfl rfl Q142 rfl rfl rfl
theorem e202_13 {ls : zL} {st : List Value} {w : zW} {x : Int32} : Rv 202 13 ls (.int x :: st) w = if x = 0 then Rv 202 20 ls st w else Rv 202 16 ls st w := R_f0eq Q202 (by decide +kernel) rfl rfl
theorem e202_16 {ls : zL} {st : List Value} {w : zW} : Rv 202 16 ls st w = Rv 202 17 ls (.int 0 :: st) w := R_con Q202 (by decide +kernel) rfl (by decide)
theorem e202_17 {ls : zL} {st : List Value} {w : zW} : Rv 202 17 ls st w = Rv 202 25 ls st w := R_go Q202 (by decide +kernel) rfl rfl
theorem e202_20 {ls : zL} {st : List Value} {w : zW} : Rv 202 20 ls st w = ldA ls 0 fun x => Rv 202 21 ls (x :: st) w := R_ldA Q202 (by decide +kernel) rfl
theorem e202_21 {ls : zL} {st : List Value} {w : zW} : Rv 202 21 ls st w = ldI ls 1 fun x => Rv 202 22 ls (.int x :: st) w := R_ldI Q202 (by decide +kernel) rfl
theorem e202_22 {ls : zL} {w : zW} {n1 : Int32} {a0 : Nat} : Rv 202 22 ls [.int n1, .ref a0] w = hO w a0 6 (cal (Rv 201 0 [some (.ref a0), some (.int n1)] [] w) (fun v w' => Rv 202 25 ls (vts v []) w') (xnone)) := R_calV (z := 1343) (r := []) Q202 (by decide +kernel) rfl rfl Q201 rfl rfl rfl
theorem e202_25 {ls : zL} {w : zW} {x : Int32} : Rv 202 25 ls [.int x] w = some (.inl (some (.int x)), w) := R_retI Q202 (by decide +kernel) rfl
/-! MasterPinsModel.works -/
theorem e203_0 {ls : zL} {st : List Value} {w : zW} : Rv 203 0 ls st w = Rv 203 1 ls (.int 0 :: st) w := R_con Q203 (by decide +kernel) rfl (by decide)
theorem e203_1 {ls : zL} {st : List Value} {w : zW} {x : Int32} : Rv 203 1 ls (.int x :: st) w = lst ls 1 (some (.int x)) fun l => Rv 203 2 l st w := R_st Q203 (by decide +kernel) rfl
theorem e203_2 {ls : zL} {st : List Value} {w : zW} : Rv 203 2 ls st w = Rv 203 3 ls (.int 0 :: st) w := R_con Q203 (by decide +kernel) rfl (by decide)
theorem e203_3 {ls : zL} {st : List Value} {w : zW} {x : Int32} : Rv 203 3 ls (.int x :: st) w = lst ls 2 (some (.int x)) fun l => Rv 203 4 l st w := R_st Q203 (by decide +kernel) rfl
theorem h203_4 {ls : zL} {st : List Value} {w : zW} : Rv 203 4 ls st w = ldI ls 2 fun x => Rv 203 5 ls (.int x :: st) w := R_ldI Q203 (by decide +kernel) rfl
theorem e203_5 {ls : zL} {st : List Value} {w : zW} : Rv 203 5 ls st w = ldA ls 0 fun x => Rv 203 6 ls (x :: st) w := R_ldA Q203 (by decide +kernel) rfl
theorem e203_6 {ls : zL} {st : List Value} {w : zW} {a : Nat} : Rv 203 6 ls (.ref a :: st) w = gF w a 6 0 fun v => Rv 203 9 ls (v :: st) w := R_gF (z := 1070) Q203 (by decide +kernel) rfl
theorem e203_9 {ls : zL} {st : List Value} {w : zW} : Rv 203 9 ls st w = Rv 203 11 ls (.int 6 :: st) w := R_con Q203 (by decide +kernel) rfl (by decide)
theorem e203_11 {ls : zL} {st : List Value} {w : zW} {a : Nat} {x : Int32} : Rv 203 11 ls (.int x :: .ref a :: st) w = gI w a 0 8 x fun v => Rv 203 12 ls (.int v :: st) w := R_iald Q203 (by decide +kernel)
theorem e203_12 {ls : zL} {st : List Value} {w : zW} {x y : Int32} : Rv 203 12 ls (.int y :: .int x :: st) w = if x < y then Rv 203 15 ls st w else Rv 203 37 ls st w := R_fige Q203 (by decide +kernel) rfl rfl
theorem e203_15 {ls : zL} {st : List Value} {w : zW} : Rv 203 15 ls st w = ldI ls 1 fun x => Rv 203 16 ls (.int x :: st) w := R_ldI Q203 (by decide +kernel) rfl
theorem e203_16 {ls : zL} {st : List Value} {w : zW} : Rv 203 16 ls st w = ldA ls 0 fun x => Rv 203 17 ls (x :: st) w := R_ldA Q203 (by decide +kernel) rfl
theorem e203_17 {ls : zL} {st : List Value} {w : zW} : Rv 203 17 ls st w = ldI ls 2 fun x => Rv 203 18 ls (.int x :: st) w := R_ldI Q203 (by decide +kernel) rfl
theorem e203_18 {ls : zL} {w : zW} {n1 : Int32} {a0 : Nat} {n2 : Int32} : Rv 203 18 ls [.int n1, .ref a0, .int n2] w = hO w a0 6 (cal (Rv 161 0 [some (.ref a0), some (.int n1), none, none] [] w) (fun v w' => Rv 203 21 ls (vts v [.int n2]) w') (xnone)) := R_calV (z := 1231) (r := [.int n2]) Q203 (by decide +kernel) rfl rfl Q161 rfl rfl rfl
theorem e203_21 {ls : zL} {st : List Value} {w : zW} {x : Int32} : Rv 203 21 ls (.int x :: st) w = if 0 < x then Rv 203 24 ls st w else Rv 203 28 ls st w := R_f0le Q203 (by decide +kernel) rfl rfl
theorem e203_24 {ls : zL} {st : List Value} {w : zW} : Rv 203 24 ls st w = Rv 203 25 ls (.int 1 :: st) w := R_con Q203 (by decide +kernel) rfl (by decide)
theorem e203_25 {ls : zL} {st : List Value} {w : zW} : Rv 203 25 ls st w = Rv 203 29 ls st w := R_go Q203 (by decide +kernel) rfl rfl
theorem e203_28 {ls : zL} {st : List Value} {w : zW} : Rv 203 28 ls st w = Rv 203 29 ls (.int 0 :: st) w := R_con Q203 (by decide +kernel) rfl (by decide)
theorem e203_29 {ls : zL} {st : List Value} {w : zW} {x y : Int32} : Rv 203 29 ls (.int y :: .int x :: st) w = Rv 203 30 ls (.int (x + y) :: st) w := R_next Q203 (by decide +kernel) rfl
theorem e203_30 {ls : zL} {st : List Value} {w : zW} {x : Int32} : Rv 203 30 ls (.int x :: st) w = lst ls 1 (some (.int x)) fun l => Rv 203 31 l st w := R_st Q203 (by decide +kernel) rfl
theorem e203_31 {ls : zL} {st : List Value} {w : zW} : Rv 203 31 ls st w = ldI ls 2 fun x => lst ls 2 (some (.int (x + 1))) fun l => Rv 203 34 l st w := R_iinc Q203 (by decide +kernel) (by decide)
theorem e203_34 {ls : zL} {st : List Value} {w : zW} : Rv 203 34 ls st w = Rv 203 4 ls st w := R_go Q203 (by decide +kernel) rfl rfl
theorem e203_37 {ls : zL} {st : List Value} {w : zW} : Rv 203 37 ls st w = ldI ls 1 fun x => Rv 203 38 ls (.int x :: st) w := R_ldI Q203 (by decide +kernel) rfl
theorem e203_38 {ls : zL} {w : zW} {x : Int32} : Rv 203 38 ls [.int x] w = some (.inl (some (.int x)), w) := R_retI Q203 (by decide +kernel) rfl
/-! MasterPinsModel.workAt -/
theorem e204_0 {ls : zL} {st : List Value} {w : zW} : Rv 204 0 ls st w = Rv 204 1 ls (.int 0 :: st) w := R_con Q204 (by decide +kernel) rfl (by decide)
theorem e204_1 {ls : zL} {st : List Value} {w : zW} {x : Int32} : Rv 204 1 ls (.int x :: st) w = lst ls 2 (some (.int x)) fun l => Rv 204 2 l st w := R_st Q204 (by decide +kernel) rfl
theorem h204_2 {ls : zL} {st : List Value} {w : zW} : Rv 204 2 ls st w = ldI ls 2 fun x => Rv 204 3 ls (.int x :: st) w := R_ldI Q204 (by decide +kernel) rfl
theorem e204_3 {ls : zL} {st : List Value} {w : zW} : Rv 204 3 ls st w = ldA ls 0 fun x => Rv 204 4 ls (x :: st) w := R_ldA Q204 (by decide +kernel) rfl
theorem e204_4 {ls : zL} {st : List Value} {w : zW} {a : Nat} : Rv 204 4 ls (.ref a :: st) w = gF w a 6 0 fun v => Rv 204 7 ls (v :: st) w := R_gF (z := 1070) Q204 (by decide +kernel) rfl
theorem e204_7 {ls : zL} {st : List Value} {w : zW} : Rv 204 7 ls st w = Rv 204 9 ls (.int 6 :: st) w := R_con Q204 (by decide +kernel) rfl (by decide)
theorem e204_9 {ls : zL} {st : List Value} {w : zW} {a : Nat} {x : Int32} : Rv 204 9 ls (.int x :: .ref a :: st) w = gI w a 0 8 x fun v => Rv 204 10 ls (.int v :: st) w := R_iald Q204 (by decide +kernel)
theorem e204_10 {ls : zL} {st : List Value} {w : zW} {x y : Int32} : Rv 204 10 ls (.int y :: .int x :: st) w = if x < y then Rv 204 13 ls st w else Rv 204 69 ls st w := R_fige Q204 (by decide +kernel) rfl rfl
theorem e204_13 {ls : zL} {st : List Value} {w : zW} : Rv 204 13 ls st w = ldA ls 0 fun x => Rv 204 14 ls (x :: st) w := R_ldA Q204 (by decide +kernel) rfl
theorem e204_14 {ls : zL} {st : List Value} {w : zW} : Rv 204 14 ls st w = ldI ls 2 fun x => Rv 204 15 ls (.int x :: st) w := R_ldI Q204 (by decide +kernel) rfl
theorem e204_15 {ls : zL} {w : zW} {n1 : Int32} {a0 : Nat} : Rv 204 15 ls [.int n1, .ref a0] w = hO w a0 6 (cal (Rv 161 0 [some (.ref a0), some (.int n1), none, none] [] w) (fun v w' => Rv 204 18 ls (vts v []) w') (xnone)) := R_calV (z := 1231) (r := []) Q204 (by decide +kernel) rfl rfl Q161 rfl rfl rfl
theorem e204_18 {ls : zL} {st : List Value} {w : zW} {x : Int32} : Rv 204 18 ls (.int x :: st) w = lst ls 3 (some (.int x)) fun l => Rv 204 19 l st w := R_st Q204 (by decide +kernel) rfl
theorem e204_19 {ls : zL} {st : List Value} {w : zW} : Rv 204 19 ls st w = ldA ls 0 fun x => Rv 204 20 ls (x :: st) w := R_ldA Q204 (by decide +kernel) rfl
theorem e204_20 {ls : zL} {st : List Value} {w : zW} {a : Nat} : Rv 204 20 ls (.ref a :: st) w = gF w a 6 4 fun v => Rv 204 23 ls (v :: st) w := R_gF (z := 1074) Q204 (by decide +kernel) rfl
theorem e204_23 {ls : zL} {st : List Value} {w : zW} : Rv 204 23 ls st w = ldI ls 2 fun x => Rv 204 24 ls (.int x :: st) w := R_ldI Q204 (by decide +kernel) rfl
theorem e204_24 {ls : zL} {st : List Value} {w : zW} : Rv 204 24 ls st w = ldI ls 3 fun x => Rv 204 25 ls (.int x :: st) w := R_ldI Q204 (by decide +kernel) rfl
theorem e204_25 {ls : zL} {st : List Value} {w : zW} {x : Int32} : Rv 204 25 ls (.int x :: st) w = if x = 0 then Rv 204 28 ls st w else Rv 204 32 ls st w := R_f0ne Q204 (by decide +kernel) rfl rfl
theorem e204_28 {ls : zL} {st : List Value} {w : zW} : Rv 204 28 ls st w = Rv 204 29 ls (.int (-1) :: st) w := R_con Q204 (by decide +kernel) rfl (by decide)
theorem e204_29 {ls : zL} {st : List Value} {w : zW} : Rv 204 29 ls st w = Rv 204 62 ls st w := R_go Q204 (by decide +kernel) rfl rfl
theorem e204_32 {ls : zL} {st : List Value} {w : zW} : Rv 204 32 ls st w = Rv 204 35 ls (.int 10000 :: st) w := R_con Q204 (by decide +kernel) rfl (by decide)
theorem e204_35 {ls : zL} {st : List Value} {w : zW} : Rv 204 35 ls st w = Rv 204 37 ls (.int 20 :: st) w := R_con Q204 (by decide +kernel) rfl (by decide)
theorem e204_37 {ls : zL} {st : List Value} {w : zW} : Rv 204 37 ls st w = Rv 204 38 ls (.int 1 :: st) w := R_con Q204 (by decide +kernel) rfl (by decide)
theorem e204_38 {ls : zL} {st : List Value} {w : zW} : Rv 204 38 ls st w = ldA ls 0 fun x => Rv 204 39 ls (x :: st) w := R_ldA Q204 (by decide +kernel) rfl
theorem e204_39 {ls : zL} {st : List Value} {w : zW} : Rv 204 39 ls st w = ldI ls 2 fun x => Rv 204 40 ls (.int x :: st) w := R_ldI Q204 (by decide +kernel) rfl
theorem e204_40 {ls : zL} {w : zW} {n1 : Int32} {a0 : Nat} {n2 : Int32} {n3 : Int32} {n4 : Int32} {n5 : Int32} {a6 : Nat} : Rv 204 40 ls [.int n1, .ref a0, .int n2, .int n3, .int n4, .int n5, .ref a6] w = hO w a0 6 (cal (Rv 167 0 [some (.ref a0), some (.int n1)] [] w) (fun v w' => Rv 204 43 ls (vts v [.int n2, .int n3, .int n4, .int n5, .ref a6]) w') (xnone)) := R_calV (z := 1327) (r := [.int n2, .int n3, .int n4, .int n5, .ref a6]) Q204 (by decide +kernel) rfl rfl Q167 rfl rfl rfl
theorem e204_43 {ls : zL} {st : List Value} {w : zW} {x y : Int32} : Rv 204 43 ls (.int y :: .int x :: st) w = Rv 204 44 ls (.int (x - y) :: st) w := R_next Q204 (by decide +kernel) rfl
theorem e204_44 {ls : zL} {st : List Value} {w : zW} {x y : Int32} : Rv 204 44 ls (.int y :: .int x :: st) w = Rv 204 45 ls (.int (x * y) :: st) w := R_next Q204 (by decide +kernel) rfl
theorem e204_45 {ls : zL} {st : List Value} {w : zW} : Rv 204 45 ls st w = Rv 204 47 ls (.int 16 :: st) w := R_con Q204 (by decide +kernel) rfl (by decide)
theorem e204_47 {ls : zL} {st : List Value} {w : zW} {x y : Int32} : Rv 204 47 ls (.int y :: .int x :: st) w = Rv 204 48 ls (.int (x + y) :: st) w := R_next Q204 (by decide +kernel) rfl
theorem e204_48 {ls : zL} {st : List Value} {w : zW} : Rv 204 48 ls st w = ldA ls 0 fun x => Rv 204 49 ls (x :: st) w := R_ldA Q204 (by decide +kernel) rfl
theorem e204_49 {ls : zL} {st : List Value} {w : zW} : Rv 204 49 ls st w = ldI ls 2 fun x => Rv 204 50 ls (.int x :: st) w := R_ldI Q204 (by decide +kernel) rfl
theorem e204_50 {ls : zL} {w : zW} {n1 : Int32} {a0 : Nat} {n2 : Int32} {n3 : Int32} {n4 : Int32} {a5 : Nat} : Rv 204 50 ls [.int n1, .ref a0, .int n2, .int n3, .int n4, .ref a5] w = hO w a0 6 (cal (Rv 166 0 [some (.ref a0), some (.int n1)] [] w) (fun v w' => Rv 204 53 ls (vts v [.int n2, .int n3, .int n4, .ref a5]) w') (xnone)) := R_calV (z := 1307) (r := [.int n2, .int n3, .int n4, .ref a5]) Q204 (by decide +kernel) rfl rfl Q166 rfl rfl rfl
theorem e204_53 {ls : zL} {st : List Value} {w : zW} {x y : Int32} : Rv 204 53 ls (.int y :: .int x :: st) w = Rv 204 54 ls (.int (x - y) :: st) w := R_next Q204 (by decide +kernel) rfl
theorem e204_54 {ls : zL} {st : List Value} {w : zW} {x y : Int32} : Rv 204 54 ls (.int y :: .int x :: st) w = Rv 204 55 ls (.int (x * y) :: st) w := R_next Q204 (by decide +kernel) rfl
theorem e204_55 {ls : zL} {st : List Value} {w : zW} : Rv 204 55 ls st w = Rv 204 57 ls (.int 100 :: st) w := R_con Q204 (by decide +kernel) rfl (by decide)
theorem e204_57 {ls : zL} {st : List Value} {w : zW} : Rv 204 57 ls st w = ldI ls 3 fun x => Rv 204 58 ls (.int x :: st) w := R_ldI Q204 (by decide +kernel) rfl
theorem e204_58 {ls : zL} {st : List Value} {w : zW} {x y : Int32} : Rv 204 58 ls (.int y :: .int x :: st) w = Rv 204 59 ls (.int (x * y) :: st) w := R_next Q204 (by decide +kernel) rfl
theorem e204_59 {ls : zL} {st : List Value} {w : zW} {x y : Int32} : Rv 204 59 ls (.int y :: .int x :: st) w = Rv 204 60 ls (.int (x + y) :: st) w := R_next Q204 (by decide +kernel) rfl
theorem e204_60 {ls : zL} {st : List Value} {w : zW} : Rv 204 60 ls st w = ldI ls 2 fun x => Rv 204 61 ls (.int x :: st) w := R_ldI Q204 (by decide +kernel) rfl
theorem e204_61 {ls : zL} {st : List Value} {w : zW} {x y : Int32} : Rv 204 61 ls (.int y :: .int x :: st) w = Rv 204 62 ls (.int (x + y) :: st) w := R_next Q204 (by decide +kernel) rfl
theorem e204_62 {ls : zL} {st : List Value} {w : zW} {a : Nat} {x y : Int32} : Rv 204 62 ls (.int y :: .int x :: .ref a :: st) w = pI w a 0 x y fun w' => Rv 204 63 ls st w' := R_iast Q204 (by decide +kernel)
theorem e204_63 {ls : zL} {st : List Value} {w : zW} : Rv 204 63 ls st w = ldI ls 2 fun x => lst ls 2 (some (.int (x + 1))) fun l => Rv 204 66 l st w := R_iinc Q204 (by decide +kernel) (by decide)
theorem e204_66 {ls : zL} {st : List Value} {w : zW} : Rv 204 66 ls st w = Rv 204 2 ls st w := R_go Q204 (by decide +kernel) rfl rfl
theorem e204_69 {ls : zL} {st : List Value} {w : zW} : Rv 204 69 ls st w = Rv 204 70 ls (.int 0 :: st) w := R_con Q204 (by decide +kernel) rfl (by decide)
theorem e204_70 {ls : zL} {st : List Value} {w : zW} {x : Int32} : Rv 204 70 ls (.int x :: st) w = lst ls 2 (some (.int x)) fun l => Rv 204 71 l st w := R_st Q204 (by decide +kernel) rfl
theorem h204_71 {ls : zL} {st : List Value} {w : zW} : Rv 204 71 ls st w = ldI ls 2 fun x => Rv 204 72 ls (.int x :: st) w := R_ldI Q204 (by decide +kernel) rfl
theorem e204_72 {ls : zL} {st : List Value} {w : zW} : Rv 204 72 ls st w = ldA ls 0 fun x => Rv 204 73 ls (x :: st) w := R_ldA Q204 (by decide +kernel) rfl
theorem e204_73 {ls : zL} {st : List Value} {w : zW} {a : Nat} : Rv 204 73 ls (.ref a :: st) w = gF w a 6 0 fun v => Rv 204 76 ls (v :: st) w := R_gF (z := 1070) Q204 (by decide +kernel) rfl
theorem e204_76 {ls : zL} {st : List Value} {w : zW} : Rv 204 76 ls st w = Rv 204 78 ls (.int 6 :: st) w := R_con Q204 (by decide +kernel) rfl (by decide)
theorem e204_78 {ls : zL} {st : List Value} {w : zW} {a : Nat} {x : Int32} : Rv 204 78 ls (.int x :: .ref a :: st) w = gI w a 0 8 x fun v => Rv 204 79 ls (.int v :: st) w := R_iald Q204 (by decide +kernel)
theorem e204_79 {ls : zL} {st : List Value} {w : zW} {x y : Int32} : Rv 204 79 ls (.int y :: .int x :: st) w = if x < y then Rv 204 82 ls st w else Rv 204 163 ls st w := R_fige Q204 (by decide +kernel) rfl rfl
theorem e204_82 {ls : zL} {st : List Value} {w : zW} : Rv 204 82 ls st w = Rv 204 83 ls (.int 0 :: st) w := R_con Q204 (by decide +kernel) rfl (by decide)
theorem e204_83 {ls : zL} {st : List Value} {w : zW} {x : Int32} : Rv 204 83 ls (.int x :: st) w = lst ls 3 (some (.int x)) fun l => Rv 204 84 l st w := R_st Q204 (by decide +kernel) rfl
theorem e204_84 {ls : zL} {st : List Value} {w : zW} : Rv 204 84 ls st w = Rv 204 85 ls (.int 0 :: st) w := R_con Q204 (by decide +kernel) rfl (by decide)
theorem e204_85 {ls : zL} {st : List Value} {w : zW} {x : Int32} : Rv 204 85 ls (.int x :: st) w = lst ls 4 (some (.int x)) fun l => Rv 204 87 l st w := R_st Q204 (by decide +kernel) rfl
theorem h204_87 {ls : zL} {st : List Value} {w : zW} : Rv 204 87 ls st w = ldI ls 4 fun x => Rv 204 89 ls (.int x :: st) w := R_ldI Q204 (by decide +kernel) rfl
theorem e204_89 {ls : zL} {st : List Value} {w : zW} : Rv 204 89 ls st w = ldA ls 0 fun x => Rv 204 90 ls (x :: st) w := R_ldA Q204 (by decide +kernel) rfl
theorem e204_90 {ls : zL} {st : List Value} {w : zW} {a : Nat} : Rv 204 90 ls (.ref a :: st) w = gF w a 6 0 fun v => Rv 204 93 ls (v :: st) w := R_gF (z := 1070) Q204 (by decide +kernel) rfl
theorem e204_93 {ls : zL} {st : List Value} {w : zW} : Rv 204 93 ls st w = Rv 204 95 ls (.int 6 :: st) w := R_con Q204 (by decide +kernel) rfl (by decide)
theorem e204_95 {ls : zL} {st : List Value} {w : zW} {a : Nat} {x : Int32} : Rv 204 95 ls (.int x :: .ref a :: st) w = gI w a 0 8 x fun v => Rv 204 96 ls (.int v :: st) w := R_iald Q204 (by decide +kernel)
theorem e204_96 {ls : zL} {st : List Value} {w : zW} {x y : Int32} : Rv 204 96 ls (.int y :: .int x :: st) w = if x < y then Rv 204 99 ls st w else Rv 204 140 ls st w := R_fige Q204 (by decide +kernel) rfl rfl
theorem e204_99 {ls : zL} {st : List Value} {w : zW} : Rv 204 99 ls st w = ldI ls 3 fun x => Rv 204 100 ls (.int x :: st) w := R_ldI Q204 (by decide +kernel) rfl
theorem e204_100 {ls : zL} {st : List Value} {w : zW} : Rv 204 100 ls st w = ldA ls 0 fun x => Rv 204 101 ls (x :: st) w := R_ldA Q204 (by decide +kernel) rfl
theorem e204_101 {ls : zL} {st : List Value} {w : zW} {a : Nat} : Rv 204 101 ls (.ref a :: st) w = gF w a 6 4 fun v => Rv 204 104 ls (v :: st) w := R_gF (z := 1074) Q204 (by decide +kernel) rfl
theorem e204_104 {ls : zL} {st : List Value} {w : zW} : Rv 204 104 ls st w = ldI ls 4 fun x => Rv 204 106 ls (.int x :: st) w := R_ldI Q204 (by decide +kernel) rfl
theorem e204_106 {ls : zL} {st : List Value} {w : zW} {a : Nat} {x : Int32} : Rv 204 106 ls (.int x :: .ref a :: st) w = gI w a 0 8 x fun v => Rv 204 107 ls (.int v :: st) w := R_iald Q204 (by decide +kernel)
theorem e204_107 {ls : zL} {st : List Value} {w : zW} : Rv 204 107 ls st w = Rv 204 108 ls (.int (-1) :: st) w := R_con Q204 (by decide +kernel) rfl (by decide)
theorem e204_108 {ls : zL} {st : List Value} {w : zW} {x y : Int32} : Rv 204 108 ls (.int y :: .int x :: st) w = if x = y then Rv 204 131 ls st w else Rv 204 111 ls st w := R_fieq Q204 (by decide +kernel) rfl rfl
theorem e204_111 {ls : zL} {st : List Value} {w : zW} : Rv 204 111 ls st w = ldA ls 0 fun x => Rv 204 112 ls (x :: st) w := R_ldA Q204 (by decide +kernel) rfl
theorem e204_112 {ls : zL} {st : List Value} {w : zW} {a : Nat} : Rv 204 112 ls (.ref a :: st) w = gF w a 6 4 fun v => Rv 204 115 ls (v :: st) w := R_gF (z := 1074) Q204 (by decide +kernel) rfl
theorem e204_115 {ls : zL} {st : List Value} {w : zW} : Rv 204 115 ls st w = ldI ls 4 fun x => Rv 204 117 ls (.int x :: st) w := R_ldI Q204 (by decide +kernel) rfl
theorem e204_117 {ls : zL} {st : List Value} {w : zW} {a : Nat} {x : Int32} : Rv 204 117 ls (.int x :: .ref a :: st) w = gI w a 0 8 x fun v => Rv 204 118 ls (.int v :: st) w := R_iald Q204 (by decide +kernel)
theorem e204_118 {ls : zL} {st : List Value} {w : zW} : Rv 204 118 ls st w = ldA ls 0 fun x => Rv 204 119 ls (x :: st) w := R_ldA Q204 (by decide +kernel) rfl
theorem e204_119 {ls : zL} {st : List Value} {w : zW} {a : Nat} : Rv 204 119 ls (.ref a :: st) w = gF w a 6 4 fun v => Rv 204 122 ls (v :: st) w := R_gF (z := 1074) Q204 (by decide +kernel) rfl
theorem e204_122 {ls : zL} {st : List Value} {w : zW} : Rv 204 122 ls st w = ldI ls 2 fun x => Rv 204 123 ls (.int x :: st) w := R_ldI Q204 (by decide +kernel) rfl
theorem e204_123 {ls : zL} {st : List Value} {w : zW} {a : Nat} {x : Int32} : Rv 204 123 ls (.int x :: .ref a :: st) w = gI w a 0 8 x fun v => Rv 204 124 ls (.int v :: st) w := R_iald Q204 (by decide +kernel)
theorem e204_124 {ls : zL} {st : List Value} {w : zW} {x y : Int32} : Rv 204 124 ls (.int y :: .int x :: st) w = if x < y then Rv 204 127 ls st w else Rv 204 131 ls st w := R_fige Q204 (by decide +kernel) rfl rfl
theorem e204_127 {ls : zL} {st : List Value} {w : zW} : Rv 204 127 ls st w = Rv 204 128 ls (.int 1 :: st) w := R_con Q204 (by decide +kernel) rfl (by decide)
theorem e204_128 {ls : zL} {st : List Value} {w : zW} : Rv 204 128 ls st w = Rv 204 132 ls st w := R_go Q204 (by decide +kernel) rfl rfl
theorem e204_131 {ls : zL} {st : List Value} {w : zW} : Rv 204 131 ls st w = Rv 204 132 ls (.int 0 :: st) w := R_con Q204 (by decide +kernel) rfl (by decide)
theorem e204_132 {ls : zL} {st : List Value} {w : zW} {x y : Int32} : Rv 204 132 ls (.int y :: .int x :: st) w = Rv 204 133 ls (.int (x + y) :: st) w := R_next Q204 (by decide +kernel) rfl
theorem e204_133 {ls : zL} {st : List Value} {w : zW} {x : Int32} : Rv 204 133 ls (.int x :: st) w = lst ls 3 (some (.int x)) fun l => Rv 204 134 l st w := R_st Q204 (by decide +kernel) rfl
theorem e204_134 {ls : zL} {st : List Value} {w : zW} : Rv 204 134 ls st w = ldI ls 4 fun x => lst ls 4 (some (.int (x + 1))) fun l => Rv 204 137 l st w := R_iinc Q204 (by decide +kernel) (by decide)
theorem e204_137 {ls : zL} {st : List Value} {w : zW} : Rv 204 137 ls st w = Rv 204 87 ls st w := R_go Q204 (by decide +kernel) rfl rfl
theorem e204_140 {ls : zL} {st : List Value} {w : zW} : Rv 204 140 ls st w = ldA ls 0 fun x => Rv 204 141 ls (x :: st) w := R_ldA Q204 (by decide +kernel) rfl
theorem e204_141 {ls : zL} {st : List Value} {w : zW} {a : Nat} : Rv 204 141 ls (.ref a :: st) w = gF w a 6 4 fun v => Rv 204 144 ls (v :: st) w := R_gF (z := 1074) Q204 (by decide +kernel) rfl
theorem e204_144 {ls : zL} {st : List Value} {w : zW} : Rv 204 144 ls st w = ldI ls 2 fun x => Rv 204 145 ls (.int x :: st) w := R_ldI Q204 (by decide +kernel) rfl
theorem e204_145 {ls : zL} {st : List Value} {w : zW} {a : Nat} {x : Int32} : Rv 204 145 ls (.int x :: .ref a :: st) w = gI w a 0 8 x fun v => Rv 204 146 ls (.int v :: st) w := R_iald Q204 (by decide +kernel)
theorem e204_146 {ls : zL} {st : List Value} {w : zW} : Rv 204 146 ls st w = Rv 204 147 ls (.int (-1) :: st) w := R_con Q204 (by decide +kernel) rfl (by decide)
theorem e204_147 {ls : zL} {st : List Value} {w : zW} {x y : Int32} : Rv 204 147 ls (.int y :: .int x :: st) w = if x = y then Rv 204 157 ls st w else Rv 204 150 ls st w := R_fieq Q204 (by decide +kernel) rfl rfl
theorem e204_150 {ls : zL} {st : List Value} {w : zW} : Rv 204 150 ls st w = ldI ls 3 fun x => Rv 204 151 ls (.int x :: st) w := R_ldI Q204 (by decide +kernel) rfl
theorem e204_151 {ls : zL} {st : List Value} {w : zW} : Rv 204 151 ls st w = ldI ls 1 fun x => Rv 204 152 ls (.int x :: st) w := R_ldI Q204 (by decide +kernel) rfl
theorem e204_152 {ls : zL} {st : List Value} {w : zW} {x y : Int32} : Rv 204 152 ls (.int y :: .int x :: st) w = if x = y then Rv 204 155 ls st w else Rv 204 157 ls st w := R_fine Q204 (by decide +kernel) rfl rfl
theorem e204_155 {ls : zL} {st : List Value} {w : zW} : Rv 204 155 ls st w = ldI ls 2 fun x => Rv 204 156 ls (.int x :: st) w := R_ldI Q204 (by decide +kernel) rfl
theorem e204_156 {ls : zL} {w : zW} {x : Int32} : Rv 204 156 ls [.int x] w = some (.inl (some (.int x)), w) := R_retI Q204 (by decide +kernel) rfl
theorem e204_157 {ls : zL} {st : List Value} {w : zW} : Rv 204 157 ls st w = ldI ls 2 fun x => lst ls 2 (some (.int (x + 1))) fun l => Rv 204 160 l st w := R_iinc Q204 (by decide +kernel) (by decide)
theorem e204_160 {ls : zL} {st : List Value} {w : zW} : Rv 204 160 ls st w = Rv 204 71 ls st w := R_go Q204 (by decide +kernel) rfl rfl
theorem e204_163 {ls : zL} {st : List Value} {w : zW} : Rv 204 163 ls st w = Rv 204 164 ls (.int (-1) :: st) w := R_con Q204 (by decide +kernel) rfl (by decide)
theorem e204_164 {ls : zL} {w : zW} {x : Int32} : Rv 204 164 ls [.int x] w = some (.inl (some (.int x)), w) := R_retI Q204 (by decide +kernel) rfl
