/-! MasterPinsModel.goThrough -/
theorem e227_0 {ls : zL} {st : List Value} {w : zW} : Rv 227 0 ls st w = ldA ls 0 fun x => Rv 227 1 ls (x :: st) w := R_ldA Q227 (by decide +kernel) rfl
theorem e227_1 {ls : zL} {st : List Value} {w : zW} : Rv 227 1 ls st w = Rv 227 2 ls (.int 0 :: st) w := R_con Q227 (by decide +kernel) rfl (by decide)
theorem e227_2 {ls : zL} {st : List Value} {w : zW} {x : Int32} {a : Nat} : Rv 227 2 ls (.int x :: .ref a :: st) w = pF w a 6 7 (.int x) fun w' => Rv 227 5 ls st w' := R_pF (z := 1077) Q227 (by decide +kernel) rfl ⟨by decide, rfl, Or.inl rfl⟩
theorem e227_5 {ls : zL} {st : List Value} {w : zW} : Rv 227 5 ls st w = ldA ls 0 fun x => Rv 227 6 ls (x :: st) w := R_ldA Q227 (by decide +kernel) rfl
theorem e227_6 {ls : zL} {st : List Value} {w : zW} : Rv 227 6 ls st w = Rv 227 7 ls (.int (-1) :: st) w := R_con Q227 (by decide +kernel) rfl (by decide)
theorem e227_7 {ls : zL} {st : List Value} {w : zW} {x : Int32} {a : Nat} : Rv 227 7 ls (.int x :: .ref a :: st) w = pF w a 6 8 (.int x) fun w' => Rv 227 10 ls st w' := R_pF (z := 1078) Q227 (by decide +kernel) rfl ⟨by decide, rfl, Or.inl rfl⟩
theorem e227_10 {ls : zL} {st : List Value} {w : zW} : Rv 227 10 ls st w = ldA ls 0 fun x => Rv 227 11 ls (x :: st) w := R_ldA Q227 (by decide +kernel) rfl
theorem e227_11 {ls : zL} {st : List Value} {w : zW} : Rv 227 11 ls st w = Rv 227 12 ls (.int 0 :: st) w := R_con Q227 (by decide +kernel) rfl (by decide)
theorem e227_12 {ls : zL} {st : List Value} {w : zW} {x : Int32} {a : Nat} : Rv 227 12 ls (.int x :: .ref a :: st) w = pF w a 6 9 (.int x) fun w' => Rv 227 15 ls st w' := R_pF (z := 1079) Q227 (by decide +kernel) rfl ⟨by decide, rfl, Or.inl rfl⟩
theorem e227_15 {ls : zL} {st : List Value} {w : zW} : Rv 227 15 ls st w = ldA ls 0 fun x => Rv 227 16 ls (x :: st) w := R_ldA Q227 (by decide +kernel) rfl
theorem e227_16 {ls : zL} {w : zW} {a0 : Nat} : Rv 227 16 ls [.ref a0] w = hO w a0 6 (cal (Rv 219 0 [some (.ref a0)] [] w) (fun v w' => Rv 227 19 ls (vts v []) w') (xnone)) := R_calV (z := 1423) (r := []) Q227 (by decide +kernel) rfl rfl Q219 rfl rfl rfl
theorem e227_19 {ls : zL} {st : List Value} {w : zW} : Rv 227 19 ls st w = ldA ls 0 fun x => Rv 227 20 ls (x :: st) w := R_ldA Q227 (by decide +kernel) rfl
theorem e227_20 {ls : zL} {st : List Value} {w : zW} {a : Nat} : Rv 227 20 ls (.ref a :: st) w = gF w a 6 7 fun v => Rv 227 23 ls (v :: st) w := R_gF (z := 1077) Q227 (by decide +kernel) rfl
theorem e227_23 {ls : zL} {st : List Value} {w : zW} : Rv 227 23 ls st w = ldA ls 0 fun x => Rv 227 24 ls (x :: st) w := R_ldA Q227 (by decide +kernel) rfl
theorem e227_24 {ls : zL} {st : List Value} {w : zW} {a : Nat} : Rv 227 24 ls (.ref a :: st) w = gF w a 6 6 fun v => Rv 227 27 ls (v :: st) w := R_gF (z := 1076) Q227 (by decide +kernel) rfl
theorem e227_27 {ls : zL} {st : List Value} {w : zW} {x y : Int32} : Rv 227 27 ls (.int y :: .int x :: st) w = if x < y then Rv 227 30 ls st w else Rv 227 34 ls st w := R_fige Q227 (by decide +kernel) rfl rfl
theorem e227_30 {ls : zL} {st : List Value} {w : zW} : Rv 227 30 ls st w = Rv 227 31 ls (.int 1 :: st) w := R_con Q227 (by decide +kernel) rfl (by decide)
theorem e227_31 {ls : zL} {st : List Value} {w : zW} : Rv 227 31 ls st w = Rv 227 35 ls st w := R_go Q227 (by decide +kernel) rfl rfl
theorem e227_34 {ls : zL} {st : List Value} {w : zW} : Rv 227 34 ls st w = Rv 227 35 ls (.int 0 :: st) w := R_con Q227 (by decide +kernel) rfl (by decide)
theorem e227_35 {ls : zL} {st : List Value} {w : zW} {x : Int32} : Rv 227 35 ls (.int x :: st) w = lst ls 2 (some (.int x)) fun l => Rv 227 36 l st w := R_st Q227 (by decide +kernel) rfl
theorem h227_36 {ls : zL} {st : List Value} {w : zW} : Rv 227 36 ls st w = ldI ls 2 fun x => Rv 227 37 ls (.int x :: st) w := R_ldI Q227 (by decide +kernel) rfl
theorem e227_37 {ls : zL} {st : List Value} {w : zW} {x : Int32} : Rv 227 37 ls (.int x :: st) w = if x = 0 then Rv 227 78 ls st w else Rv 227 40 ls st w := R_f0eq Q227 (by decide +kernel) rfl rfl
theorem e227_40 {ls : zL} {st : List Value} {w : zW} : Rv 227 40 ls st w = ldA ls 0 fun x => Rv 227 41 ls (x :: st) w := R_ldA Q227 (by decide +kernel) rfl
theorem e227_41 {ls : zL} {st : List Value} {w : zW} : Rv 227 41 ls st w = ldI ls 1 fun x => Rv 227 42 ls (.int x :: st) w := R_ldI Q227 (by decide +kernel) rfl
theorem e227_42 {ls : zL} {w : zW} {n1 : Int32} {a0 : Nat} : Rv 227 42 ls [.int n1, .ref a0] w = hO w a0 6 (cal (Rv 225 0 [some (.ref a0), some (.int n1), none] [] w) (fun v w' => Rv 227 45 ls (vts v []) w') (xnone)) := R_calV (z := 1431) (r := []) Q227 (by decide +kernel) rfl rfl Q225 rfl rfl rfl
theorem e227_45 {ls : zL} {st : List Value} {w : zW} {x : Int32} : Rv 227 45 ls (.int x :: st) w = lst ls 3 (some (.int x)) fun l => Rv 227 46 l st w := R_st Q227 (by decide +kernel) rfl
theorem e227_46 {ls : zL} {st : List Value} {w : zW} : Rv 227 46 ls st w = ldI ls 3 fun x => Rv 227 47 ls (.int x :: st) w := R_ldI Q227 (by decide +kernel) rfl
theorem e227_47 {ls : zL} {st : List Value} {w : zW} {x : Int32} : Rv 227 47 ls (.int x :: st) w = if x = 0 then Rv 227 54 ls st w else Rv 227 50 ls st w := R_f0eq Q227 (by decide +kernel) rfl rfl
theorem e227_50 {ls : zL} {st : List Value} {w : zW} : Rv 227 50 ls st w = ldA ls 0 fun x => Rv 227 51 ls (x :: st) w := R_ldA Q227 (by decide +kernel) rfl
theorem e227_51 {ls : zL} {w : zW} {a0 : Nat} : Rv 227 51 ls [.ref a0] w = hO w a0 6 (cal (Rv 219 0 [some (.ref a0)] [] w) (fun v w' => Rv 227 54 ls (vts v []) w') (xnone)) := R_calV (z := 1423) (r := []) Q227 (by decide +kernel) rfl rfl Q219 rfl rfl rfl
theorem e227_54 {ls : zL} {st : List Value} {w : zW} : Rv 227 54 ls st w = ldI ls 3 fun x => Rv 227 55 ls (.int x :: st) w := R_ldI Q227 (by decide +kernel) rfl
theorem e227_55 {ls : zL} {st : List Value} {w : zW} {x : Int32} : Rv 227 55 ls (.int x :: st) w = if x = 0 then Rv 227 73 ls st w else Rv 227 58 ls st w := R_f0eq Q227 (by decide +kernel) rfl rfl
theorem e227_58 {ls : zL} {st : List Value} {w : zW} : Rv 227 58 ls st w = ldA ls 0 fun x => Rv 227 59 ls (x :: st) w := R_ldA Q227 (by decide +kernel) rfl
theorem e227_59 {ls : zL} {st : List Value} {w : zW} {a : Nat} : Rv 227 59 ls (.ref a :: st) w = gF w a 6 7 fun v => Rv 227 62 ls (v :: st) w := R_gF (z := 1077) Q227 (by decide +kernel) rfl
theorem e227_62 {ls : zL} {st : List Value} {w : zW} : Rv 227 62 ls st w = ldA ls 0 fun x => Rv 227 63 ls (x :: st) w := R_ldA Q227 (by decide +kernel) rfl
theorem e227_63 {ls : zL} {st : List Value} {w : zW} {a : Nat} : Rv 227 63 ls (.ref a :: st) w = gF w a 6 6 fun v => Rv 227 66 ls (v :: st) w := R_gF (z := 1076) Q227 (by decide +kernel) rfl
theorem e227_66 {ls : zL} {st : List Value} {w : zW} {x y : Int32} : Rv 227 66 ls (.int y :: .int x :: st) w = if x < y then Rv 227 69 ls st w else Rv 227 73 ls st w := R_fige Q227 (by decide +kernel) rfl rfl
theorem e227_69 {ls : zL} {st : List Value} {w : zW} : Rv 227 69 ls st w = Rv 227 70 ls (.int 1 :: st) w := R_con Q227 (by decide +kernel) rfl (by decide)
theorem e227_70 {ls : zL} {st : List Value} {w : zW} : Rv 227 70 ls st w = Rv 227 74 ls st w := R_go Q227 (by decide +kernel) rfl rfl
theorem e227_73 {ls : zL} {st : List Value} {w : zW} : Rv 227 73 ls st w = Rv 227 74 ls (.int 0 :: st) w := R_con Q227 (by decide +kernel) rfl (by decide)
theorem e227_74 {ls : zL} {st : List Value} {w : zW} {x : Int32} : Rv 227 74 ls (.int x :: st) w = lst ls 2 (some (.int x)) fun l => Rv 227 75 l st w := R_st Q227 (by decide +kernel) rfl
theorem e227_75 {ls : zL} {st : List Value} {w : zW} : Rv 227 75 ls st w = Rv 227 36 ls st w := R_go Q227 (by decide +kernel) rfl rfl
theorem e227_78 {ls : zL} {w : zW} : Rv 227 78 ls [] w = some (.inl none, w) := R_retV Q227 (by decide +kernel) rfl
/-! MasterPinsModel.runCommands -/
theorem e228_0 {ls : zL} {st : List Value} {w : zW} : Rv 228 0 ls st w = ldA ls 0 fun x => Rv 228 1 ls (x :: st) w := R_ldA Q228 (by decide +kernel) rfl
theorem e228_1 {ls : zL} {st : List Value} {w : zW} : Rv 228 1 ls st w = Rv 228 2 ls (.int 0 :: st) w := R_con Q228 (by decide +kernel) rfl (by decide)
theorem e228_2 {ls : zL} {st : List Value} {w : zW} {x : Int32} {a : Nat} : Rv 228 2 ls (.int x :: .ref a :: st) w = pF w a 6 3 (.int x) fun w' => Rv 228 5 ls st w' := R_pF (z := 1073) Q228 (by decide +kernel) rfl ⟨by decide, rfl, Or.inl rfl⟩
theorem e228_5 {ls : zL} {st : List Value} {w : zW} : Rv 228 5 ls st w = ldA ls 0 fun x => Rv 228 6 ls (x :: st) w := R_ldA Q228 (by decide +kernel) rfl
theorem e228_6 {ls : zL} {st : List Value} {w : zW} : Rv 228 6 ls st w = Rv 228 7 ls (.int 0 :: st) w := R_con Q228 (by decide +kernel) rfl (by decide)
theorem e228_7 {ls : zL} {w : zW} {n1 : Int32} {a0 : Nat} : Rv 228 7 ls [.int n1, .ref a0] w = hO w a0 6 (cal (Rv 227 0 [some (.ref a0), some (.int n1), none, none] [] w) (fun v w' => Rv 228 10 ls (vts v []) w') (xnone)) := R_calV (z := 1419) (r := []) Q228 (by decide +kernel) rfl rfl Q227 rfl rfl rfl
theorem e228_10 {ls : zL} {st : List Value} {w : zW} : Rv 228 10 ls st w = ldA ls 0 fun x => Rv 228 11 ls (x :: st) w := R_ldA Q228 (by decide +kernel) rfl
theorem e228_11 {ls : zL} {st : List Value} {w : zW} {a : Nat} : Rv 228 11 ls (.ref a :: st) w = gF w a 6 8 fun v => Rv 228 14 ls (v :: st) w := R_gF (z := 1078) Q228 (by decide +kernel) rfl
theorem e228_14 {ls : zL} {st : List Value} {w : zW} : Rv 228 14 ls st w = Rv 228 15 ls (.int (-1) :: st) w := R_con Q228 (by decide +kernel) rfl (by decide)
theorem e228_15 {ls : zL} {st : List Value} {w : zW} {x y : Int32} : Rv 228 15 ls (.int y :: .int x :: st) w = if x = y then Rv 228 26 ls st w else Rv 228 18 ls st w := R_fieq Q228 (by decide +kernel) rfl rfl
theorem e228_18 {ls : zL} {st : List Value} {w : zW} : Rv 228 18 ls st w = Rv 228 20 ls (.int (-10) :: st) w := R_con Q228 (by decide +kernel) rfl (by decide)
theorem e228_20 {ls : zL} {st : List Value} {w : zW} : Rv 228 20 ls st w = ldA ls 0 fun x => Rv 228 21 ls (x :: st) w := R_ldA Q228 (by decide +kernel) rfl
theorem e228_21 {ls : zL} {st : List Value} {w : zW} {a : Nat} : Rv 228 21 ls (.ref a :: st) w = gF w a 6 8 fun v => Rv 228 24 ls (v :: st) w := R_gF (z := 1078) Q228 (by decide +kernel) rfl
theorem e228_24 {ls : zL} {st : List Value} {w : zW} {x y : Int32} : Rv 228 24 ls (.int y :: .int x :: st) w = Rv 228 25 ls (.int (x - y) :: st) w := R_next Q228 (by decide +kernel) rfl
theorem e228_25 {ls : zL} {w : zW} {x : Int32} : Rv 228 25 ls [.int x] w = some (.inl (some (.int x)), w) := R_retI Q228 (by decide +kernel) rfl
theorem e228_26 {ls : zL} {st : List Value} {w : zW} : Rv 228 26 ls st w = ldA ls 0 fun x => Rv 228 27 ls (x :: st) w := R_ldA Q228 (by decide +kernel) rfl
theorem e228_27 {ls : zL} {w : zW} {a0 : Nat} : Rv 228 27 ls [.ref a0] w = hO w a0 6 (cal (Rv 143 0 [some (.ref a0), none] [] w) (fun v w' => Rv 228 30 ls (vts v []) w') (xnone)) := R_calV (z := 1126) (r := []) Q228 (by decide +kernel) rfl rfl Q143 rfl rfl rfl
theorem e228_30 {ls : zL} {st : List Value} {w : zW} : Rv 228 30 ls st w = ldA ls 0 fun x => Rv 228 31 ls (x :: st) w := R_ldA Q228 (by decide +kernel) rfl
theorem e228_31 {ls : zL} {st : List Value} {w : zW} : Rv 228 31 ls st w = Rv 228 32 ls (.int 1 :: st) w := R_con Q228 (by decide +kernel) rfl (by decide)
theorem e228_32 {ls : zL} {w : zW} {n1 : Int32} {a0 : Nat} : Rv 228 32 ls [.int n1, .ref a0] w = hO w a0 6 (cal (Rv 227 0 [some (.ref a0), some (.int n1), none, none] [] w) (fun v w' => Rv 228 35 ls (vts v []) w') (xnone)) := R_calV (z := 1419) (r := []) Q228 (by decide +kernel) rfl rfl Q227 rfl rfl rfl
theorem e228_35 {ls : zL} {st : List Value} {w : zW} : Rv 228 35 ls st w = ldA ls 0 fun x => Rv 228 36 ls (x :: st) w := R_ldA Q228 (by decide +kernel) rfl
theorem e228_36 {ls : zL} {st : List Value} {w : zW} : Rv 228 36 ls st w = Rv 228 37 ls (.int 0 :: st) w := R_con Q228 (by decide +kernel) rfl (by decide)
theorem e228_37 {ls : zL} {st : List Value} {w : zW} {x : Int32} {a : Nat} : Rv 228 37 ls (.int x :: .ref a :: st) w = pF w a 6 3 (.int x) fun w' => Rv 228 40 ls st w' := R_pF (z := 1073) Q228 (by decide +kernel) rfl ⟨by decide, rfl, Or.inl rfl⟩
theorem e228_40 {ls : zL} {st : List Value} {w : zW} : Rv 228 40 ls st w = ldA ls 0 fun x => Rv 228 41 ls (x :: st) w := R_ldA Q228 (by decide +kernel) rfl
theorem e228_41 {ls : zL} {st : List Value} {w : zW} {a : Nat} : Rv 228 41 ls (.ref a :: st) w = gF w a 6 9 fun v => Rv 228 44 ls (v :: st) w := R_gF (z := 1079) Q228 (by decide +kernel) rfl
theorem e228_44 {ls : zL} {w : zW} {x : Int32} : Rv 228 44 ls [.int x] w = some (.inl (some (.int x)), w) := R_retI Q228 (by decide +kernel) rfl
/-! MasterPinsModel.undo -/
theorem e229_0 {ls : zL} {st : List Value} {w : zW} : Rv 229 0 ls st w = ldA ls 0 fun x => Rv 229 1 ls (x :: st) w := R_ldA Q229 (by decide +kernel) rfl
theorem e229_1 {ls : zL} {st : List Value} {w : zW} : Rv 229 1 ls st w = ldA ls 0 fun x => Rv 229 2 ls (x :: st) w := R_ldA Q229 (by decide +kernel) rfl
theorem e229_2 {ls : zL} {st : List Value} {w : zW} {a : Nat} : Rv 229 2 ls (.ref a :: st) w = gF w a 6 2 fun v => Rv 229 5 ls (v :: st) w := R_gF (z := 1072) Q229 (by decide +kernel) rfl
theorem e229_5 {ls : zL} {st : List Value} {w : zW} {x : Int32} : Rv 229 5 ls (.int x :: st) w = if 0 < x then Rv 229 8 ls st w else Rv 229 12 ls st w := R_f0le Q229 (by decide +kernel) rfl rfl
theorem e229_8 {ls : zL} {st : List Value} {w : zW} : Rv 229 8 ls st w = Rv 229 9 ls (.int 1 :: st) w := R_con Q229 (by decide +kernel) rfl (by decide)
theorem e229_9 {ls : zL} {st : List Value} {w : zW} : Rv 229 9 ls st w = Rv 229 13 ls st w := R_go Q229 (by decide +kernel) rfl rfl
theorem e229_12 {ls : zL} {st : List Value} {w : zW} : Rv 229 12 ls st w = Rv 229 13 ls (.int 0 :: st) w := R_con Q229 (by decide +kernel) rfl (by decide)
theorem e229_13 {ls : zL} {st : List Value} {w : zW} : Rv 229 13 ls st w = Rv 229 14 ls (.int 1 :: st) w := R_con Q229 (by decide +kernel) rfl (by decide)
theorem e229_14 {ls : zL} {st : List Value} {w : zW} : Rv 229 14 ls st w = Rv 229 15 ls (.int 1 :: st) w := R_con Q229 (by decide +kernel) rfl (by decide)
theorem e229_15 {ls : zL} {w : zW} {n1 : Int32} {n2 : Int32} {n3 : Int32} {a0 : Nat} : Rv 229 15 ls [.int n1, .int n2, .int n3, .ref a0] w = hO w a0 6 (cal (Rv 142 0 [some (.ref a0), some (.int n3), some (.int n2), some (.int n1)] [] w) (fun v w' => Rv 229 18 ls (vts v []) w') (xnone)) := R_calV (z := 1122) (r := []) Q229 (by decide +kernel) rfl rfl Q142 rfl rfl rfl
theorem e229_18 {ls : zL} {st : List Value} {w : zW} {x : Int32} : Rv 229 18 ls (.int x :: st) w = if x = 0 then Rv 229 23 ls st w else Rv 229 21 ls st w := R_f0eq Q229 (by decide +kernel) rfl rfl
theorem e229_21 {ls : zL} {st : List Value} {w : zW} : Rv 229 21 ls st w = Rv 229 22 ls (.int 0 :: st) w := R_con Q229 (by decide +kernel) rfl (by decide)
theorem e229_22 {ls : zL} {w : zW} {x : Int32} : Rv 229 22 ls [.int x] w = some (.inl (some (.int x)), w) := R_retI Q229 (by decide +kernel) rfl
theorem e229_23 {ls : zL} {st : List Value} {w : zW} : Rv 229 23 ls st w = ldA ls 0 fun x => Rv 229 24 ls (x :: st) w := R_ldA Q229 (by decide +kernel) rfl
theorem e229_24 {ls : zL} {st : List Value} {w : zW} {x : Nat} : Rv 229 24 ls (.ref x :: st) w = Rv 229 25 ls (.ref x :: .ref x :: st) w := R_next Q229 (by decide +kernel) rfl
theorem e229_25 {ls : zL} {st : List Value} {w : zW} {a : Nat} : Rv 229 25 ls (.ref a :: st) w = gF w a 6 2 fun v => Rv 229 28 ls (v :: st) w := R_gF (z := 1072) Q229 (by decide +kernel) rfl
theorem e229_28 {ls : zL} {st : List Value} {w : zW} : Rv 229 28 ls st w = Rv 229 29 ls (.int 1 :: st) w := R_con Q229 (by decide +kernel) rfl (by decide)
theorem e229_29 {ls : zL} {st : List Value} {w : zW} {x y : Int32} : Rv 229 29 ls (.int y :: .int x :: st) w = Rv 229 30 ls (.int (x - y) :: st) w := R_next Q229 (by decide +kernel) rfl
theorem e229_30 {ls : zL} {st : List Value} {w : zW} {x : Int32} {a : Nat} : Rv 229 30 ls (.int x :: .ref a :: st) w = pF w a 6 2 (.int x) fun w' => Rv 229 33 ls st w' := R_pF (z := 1072) Q229 (by decide +kernel) rfl ⟨by decide, rfl, Or.inl rfl⟩
theorem e229_33 {ls : zL} {st : List Value} {w : zW} : Rv 229 33 ls st w = Rv 229 34 ls (.int 0 :: st) w := R_con Q229 (by decide +kernel) rfl (by decide)
theorem e229_34 {ls : zL} {st : List Value} {w : zW} {x : Int32} : Rv 229 34 ls (.int x :: st) w = lst ls 1 (some (.int x)) fun l => Rv 229 35 l st w := R_st Q229 (by decide +kernel) rfl
theorem h229_35 {ls : zL} {st : List Value} {w : zW} : Rv 229 35 ls st w = ldI ls 1 fun x => Rv 229 36 ls (.int x :: st) w := R_ldI Q229 (by decide +kernel) rfl
theorem e229_36 {ls : zL} {st : List Value} {w : zW} : Rv 229 36 ls st w = Rv 229 38 ls (.int 115 :: st) w := R_con Q229 (by decide +kernel) rfl (by decide)
theorem e229_38 {ls : zL} {st : List Value} {w : zW} {x y : Int32} : Rv 229 38 ls (.int y :: .int x :: st) w = if x < y then Rv 229 41 ls st w else Rv 229 67 ls st w := R_fige Q229 (by decide +kernel) rfl rfl
theorem e229_41 {ls : zL} {st : List Value} {w : zW} : Rv 229 41 ls st w = ldA ls 0 fun x => Rv 229 42 ls (x :: st) w := R_ldA Q229 (by decide +kernel) rfl
theorem e229_42 {ls : zL} {st : List Value} {w : zW} {a : Nat} : Rv 229 42 ls (.ref a :: st) w = gF w a 6 0 fun v => Rv 229 45 ls (v :: st) w := R_gF (z := 1070) Q229 (by decide +kernel) rfl
theorem e229_45 {ls : zL} {st : List Value} {w : zW} : Rv 229 45 ls st w = ldI ls 1 fun x => Rv 229 46 ls (.int x :: st) w := R_ldI Q229 (by decide +kernel) rfl
theorem e229_46 {ls : zL} {st : List Value} {w : zW} : Rv 229 46 ls st w = ldA ls 0 fun x => Rv 229 47 ls (x :: st) w := R_ldA Q229 (by decide +kernel) rfl
theorem e229_47 {ls : zL} {st : List Value} {w : zW} {a : Nat} : Rv 229 47 ls (.ref a :: st) w = gF w a 6 1 fun v => Rv 229 50 ls (v :: st) w := R_gF (z := 1071) Q229 (by decide +kernel) rfl
theorem e229_50 {ls : zL} {st : List Value} {w : zW} : Rv 229 50 ls st w = Rv 229 52 ls (.int 115 :: st) w := R_con Q229 (by decide +kernel) rfl (by decide)
theorem e229_52 {ls : zL} {st : List Value} {w : zW} : Rv 229 52 ls st w = ldA ls 0 fun x => Rv 229 53 ls (x :: st) w := R_ldA Q229 (by decide +kernel) rfl
theorem e229_53 {ls : zL} {st : List Value} {w : zW} {a : Nat} : Rv 229 53 ls (.ref a :: st) w = gF w a 6 2 fun v => Rv 229 56 ls (v :: st) w := R_gF (z := 1072) Q229 (by decide +kernel) rfl
theorem e229_56 {ls : zL} {st : List Value} {w : zW} {x y : Int32} : Rv 229 56 ls (.int y :: .int x :: st) w = Rv 229 57 ls (.int (x * y) :: st) w := R_next Q229 (by decide +kernel) rfl
theorem e229_57 {ls : zL} {st : List Value} {w : zW} : Rv 229 57 ls st w = ldI ls 1 fun x => Rv 229 58 ls (.int x :: st) w := R_ldI Q229 (by decide +kernel) rfl
theorem e229_58 {ls : zL} {st : List Value} {w : zW} {x y : Int32} : Rv 229 58 ls (.int y :: .int x :: st) w = Rv 229 59 ls (.int (x + y) :: st) w := R_next Q229 (by decide +kernel) rfl
theorem e229_59 {ls : zL} {st : List Value} {w : zW} {a : Nat} {x : Int32} : Rv 229 59 ls (.int x :: .ref a :: st) w = gI w a 0 8 x fun v => Rv 229 60 ls (.int v :: st) w := R_iald Q229 (by decide +kernel)
theorem e229_60 {ls : zL} {st : List Value} {w : zW} {a : Nat} {x y : Int32} : Rv 229 60 ls (.int y :: .int x :: .ref a :: st) w = pI w a 0 x y fun w' => Rv 229 61 ls st w' := R_iast Q229 (by decide +kernel)
theorem e229_61 {ls : zL} {st : List Value} {w : zW} : Rv 229 61 ls st w = ldI ls 1 fun x => lst ls 1 (some (.int (x + 1))) fun l => Rv 229 64 l st w := R_iinc Q229 (by decide +kernel) (by decide)
theorem e229_64 {ls : zL} {st : List Value} {w : zW} : Rv 229 64 ls st w = Rv 229 35 ls st w := R_go Q229 (by decide +kernel) rfl rfl
theorem e229_67 {ls : zL} {st : List Value} {w : zW} : Rv 229 67 ls st w = ldA ls 0 fun x => Rv 229 68 ls (x :: st) w := R_ldA Q229 (by decide +kernel) rfl
theorem e229_68 {ls : zL} {st : List Value} {w : zW} {a : Nat} : Rv 229 68 ls (.ref a :: st) w = gF w a 6 2 fun v => Rv 229 71 ls (v :: st) w := R_gF (z := 1072) Q229 (by decide +kernel) rfl
theorem e229_71 {ls : zL} {w : zW} {x : Int32} : Rv 229 71 ls [.int x] w = some (.inl (some (.int x)), w) := R_retI Q229 (by decide +kernel) rfl
/-! MasterPinsModel.digest -/
theorem e230_0 {ls : zL} {st : List Value} {w : zW} : Rv 230 0 ls st w = ldA ls 0 fun x => Rv 230 1 ls (x :: st) w := R_ldA Q230 (by decide +kernel) rfl
theorem e230_1 {ls : zL} {st : List Value} {w : zW} : Rv 230 1 ls st w = Rv 230 2 ls (.int 0 :: st) w := R_con Q230 (by decide +kernel) rfl (by decide)
theorem e230_2 {ls : zL} {st : List Value} {w : zW} {x : Int32} {a : Nat} : Rv 230 2 ls (.int x :: .ref a :: st) w = pF w a 6 3 (.int x) fun w' => Rv 230 5 ls st w' := R_pF (z := 1073) Q230 (by decide +kernel) rfl ⟨by decide, rfl, Or.inl rfl⟩
theorem e230_5 {ls : zL} {st : List Value} {w : zW} : Rv 230 5 ls st w = Rv 230 8 ls (.long 1344718 :: st) w := R_ldc2 (z := 1465) Q230 (by decide +kernel) (by decide +kernel)
theorem e230_8 {ls : zL} {st : List Value} {w : zW} : Rv 230 8 ls st w = ldA ls 0 fun x => Rv 230 9 ls (x :: st) w := R_ldA Q230 (by decide +kernel) rfl
theorem e230_9 {ls : zL} {st : List Value} {w : zW} {a : Nat} : Rv 230 9 ls (.ref a :: st) w = gF w a 6 2 fun v => Rv 230 12 ls (v :: st) w := R_gF (z := 1072) Q230 (by decide +kernel) rfl
theorem e230_12 {ls : zL} {st : List Value} {w : zW} {x : Int32} : Rv 230 12 ls (.int x :: st) w = Rv 230 13 ls (.long x.toInt64 :: st) w := R_next Q230 (by decide +kernel) rfl
theorem e230_13 {ls : zL} {st : List Value} {w : zW} {x y : Int64} : Rv 230 13 ls (.long y :: .long x :: st) w = Rv 230 14 ls (.long (x + y) :: st) w := R_next Q230 (by decide +kernel) rfl
theorem e230_14 {ls : zL} {st : List Value} {w : zW} {x : Int64} : Rv 230 14 ls (.long x :: st) w = if lpr ls 1 = true then lst ls 1 (some (.long x)) fun l => lst l 2 none fun l' => Rv 230 15 l' st w else none := R_sL Q230 (by decide +kernel) rfl rfl
theorem e230_15 {ls : zL} {st : List Value} {w : zW} : Rv 230 15 ls st w = Rv 230 16 ls (.int 0 :: st) w := R_con Q230 (by decide +kernel) rfl (by decide)
theorem e230_16 {ls : zL} {st : List Value} {w : zW} {x : Int32} : Rv 230 16 ls (.int x :: st) w = if lpr ls 3 = true then lst ls 3 (some (.int x)) fun l => Rv 230 17 l st w else none := R_sB Q230 (by decide +kernel) rfl
theorem h230_17 {ls : zL} {st : List Value} {w : zW} : Rv 230 17 ls st w = ldI ls 3 fun x => Rv 230 18 ls (.int x :: st) w := R_ldI Q230 (by decide +kernel) rfl
theorem e230_18 {ls : zL} {st : List Value} {w : zW} : Rv 230 18 ls st w = Rv 230 20 ls (.int 13 :: st) w := R_con Q230 (by decide +kernel) rfl (by decide)
theorem e230_20 {ls : zL} {st : List Value} {w : zW} {x y : Int32} : Rv 230 20 ls (.int y :: .int x :: st) w = if y < x then Rv 230 42 ls st w else Rv 230 23 ls st w := R_figt Q230 (by decide +kernel) rfl rfl
theorem e230_23 {ls : zL} {st : List Value} {w : zW} : Rv 230 23 ls st w = Rv 230 26 ls (.long 31 :: st) w := R_ldc2 (z := 1466) Q230 (by decide +kernel) (by decide +kernel)
theorem e230_26 {ls : zL} {st : List Value} {w : zW} : Rv 230 26 ls st w = ldL ls 1 fun x => Rv 230 27 ls (.long x :: st) w := R_ldL Q230 (by decide +kernel) rfl
theorem e230_27 {ls : zL} {st : List Value} {w : zW} {x y : Int64} : Rv 230 27 ls (.long y :: .long x :: st) w = Rv 230 28 ls (.long (x * y) :: st) w := R_next Q230 (by decide +kernel) rfl
theorem e230_28 {ls : zL} {st : List Value} {w : zW} : Rv 230 28 ls st w = ldA ls 0 fun x => Rv 230 29 ls (x :: st) w := R_ldA Q230 (by decide +kernel) rfl
theorem e230_29 {ls : zL} {st : List Value} {w : zW} : Rv 230 29 ls st w = ldI ls 3 fun x => Rv 230 30 ls (.int x :: st) w := R_ldI Q230 (by decide +kernel) rfl
theorem e230_30 {ls : zL} {w : zW} {n1 : Int32} {a0 : Nat} {l2 : Int64} : Rv 230 30 ls [.int n1, .ref a0, .long l2] w = hO w a0 6 (cal (Rv 201 0 [some (.ref a0), some (.int n1)] [] w) (fun v w' => Rv 230 33 ls (vts v [.long l2]) w') (xnone)) := R_calV (z := 1343) (r := [.long l2]) Q230 (by decide +kernel) rfl rfl Q201 rfl rfl rfl
theorem e230_33 {ls : zL} {st : List Value} {w : zW} {x : Int32} : Rv 230 33 ls (.int x :: st) w = Rv 230 34 ls (.long x.toInt64 :: st) w := R_next Q230 (by decide +kernel) rfl
theorem e230_34 {ls : zL} {st : List Value} {w : zW} {x y : Int64} : Rv 230 34 ls (.long y :: .long x :: st) w = Rv 230 35 ls (.long (x + y) :: st) w := R_next Q230 (by decide +kernel) rfl
theorem e230_35 {ls : zL} {st : List Value} {w : zW} {x : Int64} : Rv 230 35 ls (.long x :: st) w = if lpr ls 1 = true then lst ls 1 (some (.long x)) fun l => lst l 2 none fun l' => Rv 230 36 l' st w else none := R_sL Q230 (by decide +kernel) rfl rfl
theorem e230_36 {ls : zL} {st : List Value} {w : zW} : Rv 230 36 ls st w = ldI ls 3 fun x => lst ls 3 (some (.int (x + 1))) fun l => Rv 230 39 l st w := R_iinc Q230 (by decide +kernel) (by decide)
theorem e230_39 {ls : zL} {st : List Value} {w : zW} : Rv 230 39 ls st w = Rv 230 17 ls st w := R_go Q230 (by decide +kernel) rfl rfl
theorem e230_42 {ls : zL} {st : List Value} {w : zW} : Rv 230 42 ls st w = Rv 230 43 ls (.int 0 :: st) w := R_con Q230 (by decide +kernel) rfl (by decide)
theorem e230_43 {ls : zL} {st : List Value} {w : zW} {x : Int32} : Rv 230 43 ls (.int x :: st) w = if lpr ls 3 = true then lst ls 3 (some (.int x)) fun l => Rv 230 44 l st w else none := R_sB Q230 (by decide +kernel) rfl
theorem h230_44 {ls : zL} {st : List Value} {w : zW} : Rv 230 44 ls st w = ldI ls 3 fun x => Rv 230 45 ls (.int x :: st) w := R_ldI Q230 (by decide +kernel) rfl
theorem e230_45 {ls : zL} {st : List Value} {w : zW} : Rv 230 45 ls st w = ldA ls 0 fun x => Rv 230 46 ls (x :: st) w := R_ldA Q230 (by decide +kernel) rfl
theorem e230_46 {ls : zL} {st : List Value} {w : zW} {a : Nat} : Rv 230 46 ls (.ref a :: st) w = gF w a 6 0 fun v => Rv 230 49 ls (v :: st) w := R_gF (z := 1070) Q230 (by decide +kernel) rfl
theorem e230_49 {ls : zL} {st : List Value} {w : zW} : Rv 230 49 ls st w = Rv 230 50 ls (.int 5 :: st) w := R_con Q230 (by decide +kernel) rfl (by decide)
theorem e230_50 {ls : zL} {st : List Value} {w : zW} {a : Nat} {x : Int32} : Rv 230 50 ls (.int x :: .ref a :: st) w = gI w a 0 8 x fun v => Rv 230 51 ls (.int v :: st) w := R_iald Q230 (by decide +kernel)
theorem e230_51 {ls : zL} {st : List Value} {w : zW} {x y : Int32} : Rv 230 51 ls (.int y :: .int x :: st) w = if x < y then Rv 230 54 ls st w else Rv 230 91 ls st w := R_fige Q230 (by decide +kernel) rfl rfl
theorem e230_54 {ls : zL} {st : List Value} {w : zW} : Rv 230 54 ls st w = Rv 230 55 ls (.int 0 :: st) w := R_con Q230 (by decide +kernel) rfl (by decide)
theorem e230_55 {ls : zL} {st : List Value} {w : zW} {x : Int32} : Rv 230 55 ls (.int x :: st) w = if lpr ls 4 = true then lst ls 4 (some (.int x)) fun l => Rv 230 57 l st w else none := R_sB Q230 (by decide +kernel) rfl
theorem h230_57 {ls : zL} {st : List Value} {w : zW} : Rv 230 57 ls st w = ldI ls 4 fun x => Rv 230 59 ls (.int x :: st) w := R_ldI Q230 (by decide +kernel) rfl
theorem e230_59 {ls : zL} {st : List Value} {w : zW} : Rv 230 59 ls st w = Rv 230 61 ls (.int 6 :: st) w := R_con Q230 (by decide +kernel) rfl (by decide)
theorem e230_61 {ls : zL} {st : List Value} {w : zW} {x y : Int32} : Rv 230 61 ls (.int y :: .int x :: st) w = if y < x then Rv 230 85 ls st w else Rv 230 64 ls st w := R_figt Q230 (by decide +kernel) rfl rfl
theorem e230_64 {ls : zL} {st : List Value} {w : zW} : Rv 230 64 ls st w = Rv 230 67 ls (.long 31 :: st) w := R_ldc2 (z := 1466) Q230 (by decide +kernel) (by decide +kernel)
theorem e230_67 {ls : zL} {st : List Value} {w : zW} : Rv 230 67 ls st w = ldL ls 1 fun x => Rv 230 68 ls (.long x :: st) w := R_ldL Q230 (by decide +kernel) rfl
theorem e230_68 {ls : zL} {st : List Value} {w : zW} {x y : Int64} : Rv 230 68 ls (.long y :: .long x :: st) w = Rv 230 69 ls (.long (x * y) :: st) w := R_next Q230 (by decide +kernel) rfl
theorem e230_69 {ls : zL} {st : List Value} {w : zW} : Rv 230 69 ls st w = ldA ls 0 fun x => Rv 230 70 ls (x :: st) w := R_ldA Q230 (by decide +kernel) rfl
theorem e230_70 {ls : zL} {st : List Value} {w : zW} : Rv 230 70 ls st w = ldI ls 3 fun x => Rv 230 71 ls (.int x :: st) w := R_ldI Q230 (by decide +kernel) rfl
theorem e230_71 {ls : zL} {st : List Value} {w : zW} : Rv 230 71 ls st w = ldI ls 4 fun x => Rv 230 73 ls (.int x :: st) w := R_ldI Q230 (by decide +kernel) rfl
theorem e230_73 {ls : zL} {w : zW} {n1 : Int32} {n2 : Int32} {a0 : Nat} {l3 : Int64} : Rv 230 73 ls [.int n1, .int n2, .ref a0, .long l3] w = hO w a0 6 (cal (Rv 195 0 [some (.ref a0), some (.int n2), some (.int n1), none, none] [] w) (fun v w' => Rv 230 76 ls (vts v [.long l3]) w') (xnone)) := R_calV (z := 1287) (r := [.long l3]) Q230 (by decide +kernel) rfl rfl Q195 rfl rfl rfl
theorem e230_76 {ls : zL} {st : List Value} {w : zW} {x : Int32} : Rv 230 76 ls (.int x :: st) w = Rv 230 77 ls (.long x.toInt64 :: st) w := R_next Q230 (by decide +kernel) rfl
theorem e230_77 {ls : zL} {st : List Value} {w : zW} {x y : Int64} : Rv 230 77 ls (.long y :: .long x :: st) w = Rv 230 78 ls (.long (x + y) :: st) w := R_next Q230 (by decide +kernel) rfl
theorem e230_78 {ls : zL} {st : List Value} {w : zW} {x : Int64} : Rv 230 78 ls (.long x :: st) w = if lpr ls 1 = true then lst ls 1 (some (.long x)) fun l => lst l 2 none fun l' => Rv 230 79 l' st w else none := R_sL Q230 (by decide +kernel) rfl rfl
theorem e230_79 {ls : zL} {st : List Value} {w : zW} : Rv 230 79 ls st w = ldI ls 4 fun x => lst ls 4 (some (.int (x + 1))) fun l => Rv 230 82 l st w := R_iinc Q230 (by decide +kernel) (by decide)
theorem e230_82 {ls : zL} {st : List Value} {w : zW} : Rv 230 82 ls st w = Rv 230 57 ls st w := R_go Q230 (by decide +kernel) rfl rfl
theorem e230_85 {ls : zL} {st : List Value} {w : zW} : Rv 230 85 ls st w = ldI ls 3 fun x => lst ls 3 (some (.int (x + 1))) fun l => Rv 230 88 l st w := R_iinc Q230 (by decide +kernel) (by decide)
theorem e230_88 {ls : zL} {st : List Value} {w : zW} : Rv 230 88 ls st w = Rv 230 44 ls st w := R_go Q230 (by decide +kernel) rfl rfl
theorem e230_91 {ls : zL} {st : List Value} {w : zW} : Rv 230 91 ls st w = Rv 230 92 ls (.int 0 :: st) w := R_con Q230 (by decide +kernel) rfl (by decide)
theorem e230_92 {ls : zL} {st : List Value} {w : zW} {x : Int32} : Rv 230 92 ls (.int x :: st) w = if lpr ls 3 = true then lst ls 3 (some (.int x)) fun l => Rv 230 93 l st w else none := R_sB Q230 (by decide +kernel) rfl
theorem h230_93 {ls : zL} {st : List Value} {w : zW} : Rv 230 93 ls st w = ldI ls 3 fun x => Rv 230 94 ls (.int x :: st) w := R_ldI Q230 (by decide +kernel) rfl
theorem e230_94 {ls : zL} {st : List Value} {w : zW} : Rv 230 94 ls st w = ldA ls 0 fun x => Rv 230 95 ls (x :: st) w := R_ldA Q230 (by decide +kernel) rfl
theorem e230_95 {ls : zL} {st : List Value} {w : zW} {a : Nat} : Rv 230 95 ls (.ref a :: st) w = gF w a 6 0 fun v => Rv 230 98 ls (v :: st) w := R_gF (z := 1070) Q230 (by decide +kernel) rfl
theorem e230_98 {ls : zL} {st : List Value} {w : zW} : Rv 230 98 ls st w = Rv 230 100 ls (.int 6 :: st) w := R_con Q230 (by decide +kernel) rfl (by decide)
theorem e230_100 {ls : zL} {st : List Value} {w : zW} {a : Nat} {x : Int32} : Rv 230 100 ls (.int x :: .ref a :: st) w = gI w a 0 8 x fun v => Rv 230 101 ls (.int v :: st) w := R_iald Q230 (by decide +kernel)
theorem e230_101 {ls : zL} {st : List Value} {w : zW} {x y : Int32} : Rv 230 101 ls (.int y :: .int x :: st) w = if x < y then Rv 230 104 ls st w else Rv 230 176 ls st w := R_fige Q230 (by decide +kernel) rfl rfl
theorem e230_104 {ls : zL} {st : List Value} {w : zW} : Rv 230 104 ls st w = Rv 230 105 ls (.int 0 :: st) w := R_con Q230 (by decide +kernel) rfl (by decide)
theorem e230_105 {ls : zL} {st : List Value} {w : zW} {x : Int32} : Rv 230 105 ls (.int x :: st) w = if lpr ls 4 = true then lst ls 4 (some (.int x)) fun l => Rv 230 107 l st w else none := R_sB Q230 (by decide +kernel) rfl
theorem h230_107 {ls : zL} {st : List Value} {w : zW} : Rv 230 107 ls st w = ldI ls 4 fun x => Rv 230 109 ls (.int x :: st) w := R_ldI Q230 (by decide +kernel) rfl
theorem e230_109 {ls : zL} {st : List Value} {w : zW} : Rv 230 109 ls st w = Rv 230 111 ls (.int 8 :: st) w := R_con Q230 (by decide +kernel) rfl (by decide)
theorem e230_111 {ls : zL} {st : List Value} {w : zW} {x y : Int32} : Rv 230 111 ls (.int y :: .int x :: st) w = if y < x then Rv 230 135 ls st w else Rv 230 114 ls st w := R_figt Q230 (by decide +kernel) rfl rfl
theorem e230_114 {ls : zL} {st : List Value} {w : zW} : Rv 230 114 ls st w = Rv 230 117 ls (.long 31 :: st) w := R_ldc2 (z := 1466) Q230 (by decide +kernel) (by decide +kernel)
theorem e230_117 {ls : zL} {st : List Value} {w : zW} : Rv 230 117 ls st w = ldL ls 1 fun x => Rv 230 118 ls (.long x :: st) w := R_ldL Q230 (by decide +kernel) rfl
theorem e230_118 {ls : zL} {st : List Value} {w : zW} {x y : Int64} : Rv 230 118 ls (.long y :: .long x :: st) w = Rv 230 119 ls (.long (x * y) :: st) w := R_next Q230 (by decide +kernel) rfl
theorem e230_119 {ls : zL} {st : List Value} {w : zW} : Rv 230 119 ls st w = ldA ls 0 fun x => Rv 230 120 ls (x :: st) w := R_ldA Q230 (by decide +kernel) rfl
theorem e230_120 {ls : zL} {st : List Value} {w : zW} : Rv 230 120 ls st w = ldI ls 3 fun x => Rv 230 121 ls (.int x :: st) w := R_ldI Q230 (by decide +kernel) rfl
theorem e230_121 {ls : zL} {st : List Value} {w : zW} : Rv 230 121 ls st w = ldI ls 4 fun x => Rv 230 123 ls (.int x :: st) w := R_ldI Q230 (by decide +kernel) rfl
theorem e230_123 {ls : zL} {w : zW} {n1 : Int32} {n2 : Int32} {a0 : Nat} {l3 : Int64} : Rv 230 123 ls [.int n1, .int n2, .ref a0, .long l3] w = hO w a0 6 (cal (Rv 197 0 [some (.ref a0), some (.int n2), some (.int n1)] [] w) (fun v w' => Rv 230 126 ls (vts v [.long l3]) w') (xnone)) := R_calV (z := 1299) (r := [.long l3]) Q230 (by decide +kernel) rfl rfl Q197 rfl rfl rfl
theorem e230_126 {ls : zL} {st : List Value} {w : zW} {x : Int32} : Rv 230 126 ls (.int x :: st) w = Rv 230 127 ls (.long x.toInt64 :: st) w := R_next Q230 (by decide +kernel) rfl
theorem e230_127 {ls : zL} {st : List Value} {w : zW} {x y : Int64} : Rv 230 127 ls (.long y :: .long x :: st) w = Rv 230 128 ls (.long (x + y) :: st) w := R_next Q230 (by decide +kernel) rfl
theorem e230_128 {ls : zL} {st : List Value} {w : zW} {x : Int64} : Rv 230 128 ls (.long x :: st) w = if lpr ls 1 = true then lst ls 1 (some (.long x)) fun l => lst l 2 none fun l' => Rv 230 129 l' st w else none := R_sL Q230 (by decide +kernel) rfl rfl
theorem e230_129 {ls : zL} {st : List Value} {w : zW} : Rv 230 129 ls st w = ldI ls 4 fun x => lst ls 4 (some (.int (x + 1))) fun l => Rv 230 132 l st w := R_iinc Q230 (by decide +kernel) (by decide)
theorem e230_132 {ls : zL} {st : List Value} {w : zW} : Rv 230 132 ls st w = Rv 230 107 ls st w := R_go Q230 (by decide +kernel) rfl rfl
theorem e230_135 {ls : zL} {st : List Value} {w : zW} : Rv 230 135 ls st w = Rv 230 136 ls (.int 0 :: st) w := R_con Q230 (by decide +kernel) rfl (by decide)
theorem e230_136 {ls : zL} {st : List Value} {w : zW} {x : Int32} : Rv 230 136 ls (.int x :: st) w = if lpr ls 4 = true then lst ls 4 (some (.int x)) fun l => Rv 230 138 l st w else none := R_sB Q230 (by decide +kernel) rfl
theorem h230_138 {ls : zL} {st : List Value} {w : zW} : Rv 230 138 ls st w = ldI ls 4 fun x => Rv 230 140 ls (.int x :: st) w := R_ldI Q230 (by decide +kernel) rfl
theorem e230_140 {ls : zL} {st : List Value} {w : zW} : Rv 230 140 ls st w = ldA ls 0 fun x => Rv 230 141 ls (x :: st) w := R_ldA Q230 (by decide +kernel) rfl
theorem e230_141 {ls : zL} {st : List Value} {w : zW} {a : Nat} : Rv 230 141 ls (.ref a :: st) w = gF w a 6 0 fun v => Rv 230 144 ls (v :: st) w := R_gF (z := 1070) Q230 (by decide +kernel) rfl
theorem e230_144 {ls : zL} {st : List Value} {w : zW} : Rv 230 144 ls st w = Rv 230 145 ls (.int 0 :: st) w := R_con Q230 (by decide +kernel) rfl (by decide)
theorem e230_145 {ls : zL} {st : List Value} {w : zW} {a : Nat} {x : Int32} : Rv 230 145 ls (.int x :: .ref a :: st) w = gI w a 0 8 x fun v => Rv 230 146 ls (.int v :: st) w := R_iald Q230 (by decide +kernel)
theorem e230_146 {ls : zL} {st : List Value} {w : zW} {x y : Int32} : Rv 230 146 ls (.int y :: .int x :: st) w = if x < y then Rv 230 149 ls st w else Rv 230 170 ls st w := R_fige Q230 (by decide +kernel) rfl rfl
theorem e230_149 {ls : zL} {st : List Value} {w : zW} : Rv 230 149 ls st w = Rv 230 152 ls (.long 31 :: st) w := R_ldc2 (z := 1466) Q230 (by decide +kernel) (by decide +kernel)
theorem e230_152 {ls : zL} {st : List Value} {w : zW} : Rv 230 152 ls st w = ldL ls 1 fun x => Rv 230 153 ls (.long x :: st) w := R_ldL Q230 (by decide +kernel) rfl
theorem e230_153 {ls : zL} {st : List Value} {w : zW} {x y : Int64} : Rv 230 153 ls (.long y :: .long x :: st) w = Rv 230 154 ls (.long (x * y) :: st) w := R_next Q230 (by decide +kernel) rfl
theorem e230_154 {ls : zL} {st : List Value} {w : zW} : Rv 230 154 ls st w = ldA ls 0 fun x => Rv 230 155 ls (x :: st) w := R_ldA Q230 (by decide +kernel) rfl
theorem e230_155 {ls : zL} {st : List Value} {w : zW} : Rv 230 155 ls st w = ldI ls 3 fun x => Rv 230 156 ls (.int x :: st) w := R_ldI Q230 (by decide +kernel) rfl
theorem e230_156 {ls : zL} {st : List Value} {w : zW} : Rv 230 156 ls st w = ldI ls 4 fun x => Rv 230 158 ls (.int x :: st) w := R_ldI Q230 (by decide +kernel) rfl
theorem e230_158 {ls : zL} {w : zW} {n1 : Int32} {n2 : Int32} {a0 : Nat} {l3 : Int64} : Rv 230 158 ls [.int n1, .int n2, .ref a0, .long l3] w = hO w a0 6 (cal (Rv 159 0 [some (.ref a0), some (.int n2), some (.int n1)] [] w) (fun v w' => Rv 230 161 ls (vts v [.long l3]) w') (xnone)) := R_calV (z := 1203) (r := [.long l3]) Q230 (by decide +kernel) rfl rfl Q159 rfl rfl rfl
theorem e230_161 {ls : zL} {st : List Value} {w : zW} {x : Int32} : Rv 230 161 ls (.int x :: st) w = Rv 230 162 ls (.long x.toInt64 :: st) w := R_next Q230 (by decide +kernel) rfl
theorem e230_162 {ls : zL} {st : List Value} {w : zW} {x y : Int64} : Rv 230 162 ls (.long y :: .long x :: st) w = Rv 230 163 ls (.long (x + y) :: st) w := R_next Q230 (by decide +kernel) rfl
theorem e230_163 {ls : zL} {st : List Value} {w : zW} {x : Int64} : Rv 230 163 ls (.long x :: st) w = if lpr ls 1 = true then lst ls 1 (some (.long x)) fun l => lst l 2 none fun l' => Rv 230 164 l' st w else none := R_sL Q230 (by decide +kernel) rfl rfl
theorem e230_164 {ls : zL} {st : List Value} {w : zW} : Rv 230 164 ls st w = ldI ls 4 fun x => lst ls 4 (some (.int (x + 1))) fun l => Rv 230 167 l st w := R_iinc Q230 (by decide +kernel) (by decide)
theorem e230_167 {ls : zL} {st : List Value} {w : zW} : Rv 230 167 ls st w = Rv 230 138 ls st w := R_go Q230 (by decide +kernel) rfl rfl
theorem e230_170 {ls : zL} {st : List Value} {w : zW} : Rv 230 170 ls st w = ldI ls 3 fun x => lst ls 3 (some (.int (x + 1))) fun l => Rv 230 173 l st w := R_iinc Q230 (by decide +kernel) (by decide)
theorem e230_173 {ls : zL} {st : List Value} {w : zW} : Rv 230 173 ls st w = Rv 230 93 ls st w := R_go Q230 (by decide +kernel) rfl rfl
theorem e230_176 {ls : zL} {st : List Value} {w : zW} : Rv 230 176 ls st w = Rv 230 177 ls (.int 0 :: st) w := R_con Q230 (by decide +kernel) rfl (by decide)
theorem e230_177 {ls : zL} {st : List Value} {w : zW} {x : Int32} : Rv 230 177 ls (.int x :: st) w = if lpr ls 3 = true then lst ls 3 (some (.int x)) fun l => Rv 230 178 l st w else none := R_sB Q230 (by decide +kernel) rfl
theorem h230_178 {ls : zL} {st : List Value} {w : zW} : Rv 230 178 ls st w = ldI ls 3 fun x => Rv 230 179 ls (.int x :: st) w := R_ldI Q230 (by decide +kernel) rfl
theorem e230_179 {ls : zL} {st : List Value} {w : zW} : Rv 230 179 ls st w = ldA ls 0 fun x => Rv 230 180 ls (x :: st) w := R_ldA Q230 (by decide +kernel) rfl
theorem e230_180 {ls : zL} {w : zW} {a0 : Nat} {n1 : Int32} : Rv 230 180 ls [.ref a0, .int n1] w = hO w a0 6 (cal (Rv 203 0 [some (.ref a0), none, none] [] w) (fun v w' => Rv 230 183 ls (vts v [.int n1]) w') (xnone)) := R_calV (z := 1351) (r := [.int n1]) Q230 (by decide +kernel) rfl rfl Q203 rfl rfl rfl
theorem e230_183 {ls : zL} {st : List Value} {w : zW} {x y : Int32} : Rv 230 183 ls (.int y :: .int x :: st) w = if x < y then Rv 230 186 ls st w else Rv 230 222 ls st w := R_fige Q230 (by decide +kernel) rfl rfl
theorem e230_186 {ls : zL} {st : List Value} {w : zW} : Rv 230 186 ls st w = Rv 230 187 ls (.int 0 :: st) w := R_con Q230 (by decide +kernel) rfl (by decide)
theorem e230_187 {ls : zL} {st : List Value} {w : zW} {x : Int32} : Rv 230 187 ls (.int x :: st) w = if lpr ls 4 = true then lst ls 4 (some (.int x)) fun l => Rv 230 189 l st w else none := R_sB Q230 (by decide +kernel) rfl
theorem h230_189 {ls : zL} {st : List Value} {w : zW} : Rv 230 189 ls st w = ldI ls 4 fun x => Rv 230 191 ls (.int x :: st) w := R_ldI Q230 (by decide +kernel) rfl
theorem e230_191 {ls : zL} {st : List Value} {w : zW} : Rv 230 191 ls st w = Rv 230 192 ls (.int 2 :: st) w := R_con Q230 (by decide +kernel) rfl (by decide)
theorem e230_192 {ls : zL} {st : List Value} {w : zW} {x y : Int32} : Rv 230 192 ls (.int y :: .int x :: st) w = if y < x then Rv 230 216 ls st w else Rv 230 195 ls st w := R_figt Q230 (by decide +kernel) rfl rfl
theorem e230_195 {ls : zL} {st : List Value} {w : zW} : Rv 230 195 ls st w = Rv 230 198 ls (.long 31 :: st) w := R_ldc2 (z := 1466) Q230 (by decide +kernel) (by decide +kernel)
theorem e230_198 {ls : zL} {st : List Value} {w : zW} : Rv 230 198 ls st w = ldL ls 1 fun x => Rv 230 199 ls (.long x :: st) w := R_ldL Q230 (by decide +kernel) rfl
theorem e230_199 {ls : zL} {st : List Value} {w : zW} {x y : Int64} : Rv 230 199 ls (.long y :: .long x :: st) w = Rv 230 200 ls (.long (x * y) :: st) w := R_next Q230 (by decide +kernel) rfl
theorem e230_200 {ls : zL} {st : List Value} {w : zW} : Rv 230 200 ls st w = ldA ls 0 fun x => Rv 230 201 ls (x :: st) w := R_ldA Q230 (by decide +kernel) rfl
theorem e230_201 {ls : zL} {st : List Value} {w : zW} : Rv 230 201 ls st w = ldI ls 3 fun x => Rv 230 202 ls (.int x :: st) w := R_ldI Q230 (by decide +kernel) rfl
theorem e230_202 {ls : zL} {st : List Value} {w : zW} : Rv 230 202 ls st w = ldI ls 4 fun x => Rv 230 204 ls (.int x :: st) w := R_ldI Q230 (by decide +kernel) rfl
theorem e230_204 {ls : zL} {w : zW} {n1 : Int32} {n2 : Int32} {a0 : Nat} {l3 : Int64} : Rv 230 204 ls [.int n1, .int n2, .ref a0, .long l3] w = hO w a0 6 (cal (Rv 205 0 [some (.ref a0), some (.int n2), some (.int n1), none] [] w) (fun v w' => Rv 230 207 ls (vts v [.long l3]) w') (xnone)) := R_calV (z := 1359) (r := [.long l3]) Q230 (by decide +kernel) rfl rfl Q205 rfl rfl rfl
theorem e230_207 {ls : zL} {st : List Value} {w : zW} {x : Int32} : Rv 230 207 ls (.int x :: st) w = Rv 230 208 ls (.long x.toInt64 :: st) w := R_next Q230 (by decide +kernel) rfl
theorem e230_208 {ls : zL} {st : List Value} {w : zW} {x y : Int64} : Rv 230 208 ls (.long y :: .long x :: st) w = Rv 230 209 ls (.long (x + y) :: st) w := R_next Q230 (by decide +kernel) rfl
theorem e230_209 {ls : zL} {st : List Value} {w : zW} {x : Int64} : Rv 230 209 ls (.long x :: st) w = if lpr ls 1 = true then lst ls 1 (some (.long x)) fun l => lst l 2 none fun l' => Rv 230 210 l' st w else none := R_sL Q230 (by decide +kernel) rfl rfl
theorem e230_210 {ls : zL} {st : List Value} {w : zW} : Rv 230 210 ls st w = ldI ls 4 fun x => lst ls 4 (some (.int (x + 1))) fun l => Rv 230 213 l st w := R_iinc Q230 (by decide +kernel) (by decide)
theorem e230_213 {ls : zL} {st : List Value} {w : zW} : Rv 230 213 ls st w = Rv 230 189 ls st w := R_go Q230 (by decide +kernel) rfl rfl
theorem e230_216 {ls : zL} {st : List Value} {w : zW} : Rv 230 216 ls st w = ldI ls 3 fun x => lst ls 3 (some (.int (x + 1))) fun l => Rv 230 219 l st w := R_iinc Q230 (by decide +kernel) (by decide)
theorem e230_219 {ls : zL} {st : List Value} {w : zW} : Rv 230 219 ls st w = Rv 230 178 ls st w := R_go Q230 (by decide +kernel) rfl rfl
theorem e230_222 {ls : zL} {st : List Value} {w : zW} : Rv 230 222 ls st w = Rv 230 223 ls (.int 0 :: st) w := R_con Q230 (by decide +kernel) rfl (by decide)
theorem e230_223 {ls : zL} {st : List Value} {w : zW} {x : Int32} : Rv 230 223 ls (.int x :: st) w = if lpr ls 3 = true then lst ls 3 (some (.int x)) fun l => Rv 230 224 l st w else none := R_sB Q230 (by decide +kernel) rfl
theorem h230_224 {ls : zL} {st : List Value} {w : zW} : Rv 230 224 ls st w = ldI ls 3 fun x => Rv 230 225 ls (.int x :: st) w := R_ldI Q230 (by decide +kernel) rfl
theorem e230_225 {ls : zL} {st : List Value} {w : zW} : Rv 230 225 ls st w = ldA ls 0 fun x => Rv 230 226 ls (x :: st) w := R_ldA Q230 (by decide +kernel) rfl
theorem e230_226 {ls : zL} {st : List Value} {w : zW} {a : Nat} : Rv 230 226 ls (.ref a :: st) w = gF w a 6 0 fun v => Rv 230 229 ls (v :: st) w := R_gF (z := 1070) Q230 (by decide +kernel) rfl
theorem e230_229 {ls : zL} {st : List Value} {w : zW} : Rv 230 229 ls st w = Rv 230 230 ls (.int 5 :: st) w := R_con Q230 (by decide +kernel) rfl (by decide)
theorem e230_230 {ls : zL} {st : List Value} {w : zW} {a : Nat} {x : Int32} : Rv 230 230 ls (.int x :: .ref a :: st) w = gI w a 0 8 x fun v => Rv 230 231 ls (.int v :: st) w := R_iald Q230 (by decide +kernel)
theorem e230_231 {ls : zL} {st : List Value} {w : zW} {x y : Int32} : Rv 230 231 ls (.int y :: .int x :: st) w = if x < y then Rv 230 234 ls st w else Rv 230 253 ls st w := R_fige Q230 (by decide +kernel) rfl rfl
theorem e230_234 {ls : zL} {st : List Value} {w : zW} : Rv 230 234 ls st w = Rv 230 237 ls (.long 31 :: st) w := R_ldc2 (z := 1466) Q230 (by decide +kernel) (by decide +kernel)
theorem e230_237 {ls : zL} {st : List Value} {w : zW} : Rv 230 237 ls st w = ldL ls 1 fun x => Rv 230 238 ls (.long x :: st) w := R_ldL Q230 (by decide +kernel) rfl
theorem e230_238 {ls : zL} {st : List Value} {w : zW} {x y : Int64} : Rv 230 238 ls (.long y :: .long x :: st) w = Rv 230 239 ls (.long (x * y) :: st) w := R_next Q230 (by decide +kernel) rfl
theorem e230_239 {ls : zL} {st : List Value} {w : zW} : Rv 230 239 ls st w = ldA ls 0 fun x => Rv 230 240 ls (x :: st) w := R_ldA Q230 (by decide +kernel) rfl
theorem e230_240 {ls : zL} {st : List Value} {w : zW} : Rv 230 240 ls st w = ldI ls 3 fun x => Rv 230 241 ls (.int x :: st) w := R_ldI Q230 (by decide +kernel) rfl
theorem e230_241 {ls : zL} {w : zW} {n1 : Int32} {a0 : Nat} {l2 : Int64} : Rv 230 241 ls [.int n1, .ref a0, .long l2] w = hO w a0 6 (cal (Rv 207 0 [some (.ref a0), some (.int n1), none, none, none] [] w) (fun v w' => Rv 230 244 ls (vts v [.long l2]) w') (xnone)) := R_calV (z := 1371) (r := [.long l2]) Q230 (by decide +kernel) rfl rfl Q207 rfl rfl rfl
theorem e230_244 {ls : zL} {st : List Value} {w : zW} {x : Int32} : Rv 230 244 ls (.int x :: st) w = Rv 230 245 ls (.long x.toInt64 :: st) w := R_next Q230 (by decide +kernel) rfl
theorem e230_245 {ls : zL} {st : List Value} {w : zW} {x y : Int64} : Rv 230 245 ls (.long y :: .long x :: st) w = Rv 230 246 ls (.long (x + y) :: st) w := R_next Q230 (by decide +kernel) rfl
theorem e230_246 {ls : zL} {st : List Value} {w : zW} {x : Int64} : Rv 230 246 ls (.long x :: st) w = if lpr ls 1 = true then lst ls 1 (some (.long x)) fun l => lst l 2 none fun l' => Rv 230 247 l' st w else none := R_sL Q230 (by decide +kernel) rfl rfl
theorem e230_247 {ls : zL} {st : List Value} {w : zW} : Rv 230 247 ls st w = ldI ls 3 fun x => lst ls 3 (some (.int (x + 1))) fun l => Rv 230 250 l st w := R_iinc Q230 (by decide +kernel) (by decide)
theorem e230_250 {ls : zL} {st : List Value} {w : zW} : Rv 230 250 ls st w = Rv 230 224 ls st w := R_go Q230 (by decide +kernel) rfl rfl
theorem e230_253 {ls : zL} {st : List Value} {w : zW} : Rv 230 253 ls st w = Rv 230 256 ls (.long 31 :: st) w := R_ldc2 (z := 1466) Q230 (by decide +kernel) (by decide +kernel)
theorem e230_256 {ls : zL} {st : List Value} {w : zW} : Rv 230 256 ls st w = ldL ls 1 fun x => Rv 230 257 ls (.long x :: st) w := R_ldL Q230 (by decide +kernel) rfl
theorem e230_257 {ls : zL} {st : List Value} {w : zW} {x y : Int64} : Rv 230 257 ls (.long y :: .long x :: st) w = Rv 230 258 ls (.long (x * y) :: st) w := R_next Q230 (by decide +kernel) rfl
theorem e230_258 {ls : zL} {st : List Value} {w : zW} : Rv 230 258 ls st w = ldA ls 0 fun x => Rv 230 259 ls (x :: st) w := R_ldA Q230 (by decide +kernel) rfl
theorem e230_259 {ls : zL} {w : zW} {a0 : Nat} {l1 : Int64} : Rv 230 259 ls [.ref a0, .long l1] w = hO w a0 6 (cal (Rv 210 0 [some (.ref a0), none, none] [] w) (fun v w' => Rv 230 262 ls (vts v [.long l1]) w') (xnone)) := R_calV (z := 1383) (r := [.long l1]) Q230 (by decide +kernel) rfl rfl Q210 rfl rfl rfl
theorem e230_262 {ls : zL} {st : List Value} {w : zW} {x : Int32} : Rv 230 262 ls (.int x :: st) w = Rv 230 263 ls (.long x.toInt64 :: st) w := R_next Q230 (by decide +kernel) rfl
theorem e230_263 {ls : zL} {st : List Value} {w : zW} {x y : Int64} : Rv 230 263 ls (.long y :: .long x :: st) w = Rv 230 264 ls (.long (x + y) :: st) w := R_next Q230 (by decide +kernel) rfl
theorem e230_264 {ls : zL} {w : zW} {x : Int64} : Rv 230 264 ls [.long x] w = some (.inl (some (.long x)), w) := R_retL Q230 (by decide +kernel) rfl
/-! java/lang/Integer.numberOfTrailingZeros -/
theorem e231_0 {ls : zL} {st : List Value} {w : zW} : Rv 231 0 ls st w = ldI ls 0 fun x => Rv 231 1 ls (.int x :: st) w := R_ldI Q231 (by decide +kernel) rfl
theorem e231_1 {ls : zL} {st : List Value} {w : zW} : Rv 231 1 ls st w = Rv 231 2 ls (.int (-1) :: st) w := R_con Q231 (by decide +kernel) rfl (by decide)
theorem e231_2 {ls : zL} {st : List Value} {w : zW} {x y : Int32} : Rv 231 2 ls (.int y :: .int x :: st) w = Rv 231 3 ls (.int (x ^^^ y) :: st) w := R_next Q231 (by decide +kernel) rfl
theorem e231_3 {ls : zL} {st : List Value} {w : zW} : Rv 231 3 ls st w = ldI ls 0 fun x => Rv 231 4 ls (.int x :: st) w := R_ldI Q231 (by decide +kernel) rfl
theorem e231_4 {ls : zL} {st : List Value} {w : zW} : Rv 231 4 ls st w = Rv 231 5 ls (.int 1 :: st) w := R_con Q231 (by decide +kernel) rfl (by decide)
theorem e231_5 {ls : zL} {st : List Value} {w : zW} {x y : Int32} : Rv 231 5 ls (.int y :: .int x :: st) w = Rv 231 6 ls (.int (x - y) :: st) w := R_next Q231 (by decide +kernel) rfl
theorem e231_6 {ls : zL} {st : List Value} {w : zW} {x y : Int32} : Rv 231 6 ls (.int y :: .int x :: st) w = Rv 231 7 ls (.int (x &&& y) :: st) w := R_next Q231 (by decide +kernel) rfl
theorem e231_7 {ls : zL} {st : List Value} {w : zW} {x : Int32} : Rv 231 7 ls (.int x :: st) w = lst ls 0 (some (.int x)) fun l => Rv 231 8 l st w := R_st Q231 (by decide +kernel) rfl
theorem e231_8 {ls : zL} {st : List Value} {w : zW} : Rv 231 8 ls st w = ldI ls 0 fun x => Rv 231 9 ls (.int x :: st) w := R_ldI Q231 (by decide +kernel) rfl
theorem e231_9 {ls : zL} {st : List Value} {w : zW} {x : Int32} : Rv 231 9 ls (.int x :: st) w = if 0 < x then Rv 231 17 ls st w else Rv 231 12 ls st w := R_f0gt Q231 (by decide +kernel) rfl rfl
theorem e231_12 {ls : zL} {st : List Value} {w : zW} : Rv 231 12 ls st w = ldI ls 0 fun x => Rv 231 13 ls (.int x :: st) w := R_ldI Q231 (by decide +kernel) rfl
theorem e231_13 {ls : zL} {st : List Value} {w : zW} : Rv 231 13 ls st w = Rv 231 15 ls (.int 32 :: st) w := R_con Q231 (by decide +kernel) rfl (by decide)
theorem e231_15 {ls : zL} {st : List Value} {w : zW} {x y : Int32} : Rv 231 15 ls (.int y :: .int x :: st) w = Rv 231 16 ls (.int (x &&& y) :: st) w := R_next Q231 (by decide +kernel) rfl
theorem e231_16 {ls : zL} {w : zW} {x : Int32} : Rv 231 16 ls [.int x] w = some (.inl (some (.int x)), w) := R_retI Q231 (by decide +kernel) rfl
theorem e231_17 {ls : zL} {st : List Value} {w : zW} : Rv 231 17 ls st w = Rv 231 18 ls (.int 1 :: st) w := R_con Q231 (by decide +kernel) rfl (by decide)
theorem e231_18 {ls : zL} {st : List Value} {w : zW} {x : Int32} : Rv 231 18 ls (.int x :: st) w = lst ls 1 (some (.int x)) fun l => Rv 231 19 l st w := R_st Q231 (by decide +kernel) rfl
theorem e231_19 {ls : zL} {st : List Value} {w : zW} : Rv 231 19 ls st w = ldI ls 0 fun x => Rv 231 20 ls (.int x :: st) w := R_ldI Q231 (by decide +kernel) rfl
theorem e231_20 {ls : zL} {st : List Value} {w : zW} : Rv 231 20 ls st w = Rv 231 23 ls (.int 65536 :: st) w := R_ldcw Q231 (by decide +kernel) (by decide +kernel) (z := 363)
theorem e231_23 {ls : zL} {st : List Value} {w : zW} {x y : Int32} : Rv 231 23 ls (.int y :: .int x :: st) w = if y < x then Rv 231 26 ls st w else Rv 231 34 ls st w := R_file Q231 (by decide +kernel) rfl rfl
theorem e231_26 {ls : zL} {st : List Value} {w : zW} : Rv 231 26 ls st w = ldI ls 1 fun x => lst ls 1 (some (.int (x + 16))) fun l => Rv 231 29 l st w := R_iinc Q231 (by decide +kernel) (by decide)
theorem e231_29 {ls : zL} {st : List Value} {w : zW} : Rv 231 29 ls st w = ldI ls 0 fun x => Rv 231 30 ls (.int x :: st) w := R_ldI Q231 (by decide +kernel) rfl
theorem e231_30 {ls : zL} {st : List Value} {w : zW} : Rv 231 30 ls st w = Rv 231 32 ls (.int 16 :: st) w := R_con Q231 (by decide +kernel) rfl (by decide)
theorem e231_32 {ls : zL} {st : List Value} {w : zW} {x y : Int32} : Rv 231 32 ls (.int y :: .int x :: st) w = Rv 231 33 ls (.int ((x.toUInt32 >>> (y.toUInt32 &&& Int32.toUInt32 31)).toInt32) :: st) w := R_next Q231 (by decide +kernel) rfl
theorem e231_33 {ls : zL} {st : List Value} {w : zW} {x : Int32} : Rv 231 33 ls (.int x :: st) w = lst ls 0 (some (.int x)) fun l => Rv 231 34 l st w := R_st Q231 (by decide +kernel) rfl
theorem e231_34 {ls : zL} {st : List Value} {w : zW} : Rv 231 34 ls st w = ldI ls 0 fun x => Rv 231 35 ls (.int x :: st) w := R_ldI Q231 (by decide +kernel) rfl
theorem e231_35 {ls : zL} {st : List Value} {w : zW} : Rv 231 35 ls st w = Rv 231 38 ls (.int 256 :: st) w := R_con Q231 (by decide +kernel) rfl (by decide)
theorem e231_38 {ls : zL} {st : List Value} {w : zW} {x y : Int32} : Rv 231 38 ls (.int y :: .int x :: st) w = if y < x then Rv 231 41 ls st w else Rv 231 49 ls st w := R_file Q231 (by decide +kernel) rfl rfl
theorem e231_41 {ls : zL} {st : List Value} {w : zW} : Rv 231 41 ls st w = ldI ls 1 fun x => lst ls 1 (some (.int (x + 8))) fun l => Rv 231 44 l st w := R_iinc Q231 (by decide +kernel) (by decide)
theorem e231_44 {ls : zL} {st : List Value} {w : zW} : Rv 231 44 ls st w = ldI ls 0 fun x => Rv 231 45 ls (.int x :: st) w := R_ldI Q231 (by decide +kernel) rfl
theorem e231_45 {ls : zL} {st : List Value} {w : zW} : Rv 231 45 ls st w = Rv 231 47 ls (.int 8 :: st) w := R_con Q231 (by decide +kernel) rfl (by decide)
theorem e231_47 {ls : zL} {st : List Value} {w : zW} {x y : Int32} : Rv 231 47 ls (.int y :: .int x :: st) w = Rv 231 48 ls (.int ((x.toUInt32 >>> (y.toUInt32 &&& Int32.toUInt32 31)).toInt32) :: st) w := R_next Q231 (by decide +kernel) rfl
theorem e231_48 {ls : zL} {st : List Value} {w : zW} {x : Int32} : Rv 231 48 ls (.int x :: st) w = lst ls 0 (some (.int x)) fun l => Rv 231 49 l st w := R_st Q231 (by decide +kernel) rfl
theorem e231_49 {ls : zL} {st : List Value} {w : zW} : Rv 231 49 ls st w = ldI ls 0 fun x => Rv 231 50 ls (.int x :: st) w := R_ldI Q231 (by decide +kernel) rfl
theorem e231_50 {ls : zL} {st : List Value} {w : zW} : Rv 231 50 ls st w = Rv 231 52 ls (.int 16 :: st) w := R_con Q231 (by decide +kernel) rfl (by decide)
theorem e231_52 {ls : zL} {st : List Value} {w : zW} {x y : Int32} : Rv 231 52 ls (.int y :: .int x :: st) w = if y < x then Rv 231 55 ls st w else Rv 231 62 ls st w := R_file Q231 (by decide +kernel) rfl rfl
theorem e231_55 {ls : zL} {st : List Value} {w : zW} : Rv 231 55 ls st w = ldI ls 1 fun x => lst ls 1 (some (.int (x + 4))) fun l => Rv 231 58 l st w := R_iinc Q231 (by decide +kernel) (by decide)
theorem e231_58 {ls : zL} {st : List Value} {w : zW} : Rv 231 58 ls st w = ldI ls 0 fun x => Rv 231 59 ls (.int x :: st) w := R_ldI Q231 (by decide +kernel) rfl
theorem e231_59 {ls : zL} {st : List Value} {w : zW} : Rv 231 59 ls st w = Rv 231 60 ls (.int 4 :: st) w := R_con Q231 (by decide +kernel) rfl (by decide)
theorem e231_60 {ls : zL} {st : List Value} {w : zW} {x y : Int32} : Rv 231 60 ls (.int y :: .int x :: st) w = Rv 231 61 ls (.int ((x.toUInt32 >>> (y.toUInt32 &&& Int32.toUInt32 31)).toInt32) :: st) w := R_next Q231 (by decide +kernel) rfl
theorem e231_61 {ls : zL} {st : List Value} {w : zW} {x : Int32} : Rv 231 61 ls (.int x :: st) w = lst ls 0 (some (.int x)) fun l => Rv 231 62 l st w := R_st Q231 (by decide +kernel) rfl
theorem e231_62 {ls : zL} {st : List Value} {w : zW} : Rv 231 62 ls st w = ldI ls 0 fun x => Rv 231 63 ls (.int x :: st) w := R_ldI Q231 (by decide +kernel) rfl
theorem e231_63 {ls : zL} {st : List Value} {w : zW} : Rv 231 63 ls st w = Rv 231 64 ls (.int 4 :: st) w := R_con Q231 (by decide +kernel) rfl (by decide)
theorem e231_64 {ls : zL} {st : List Value} {w : zW} {x y : Int32} : Rv 231 64 ls (.int y :: .int x :: st) w = if y < x then Rv 231 67 ls st w else Rv 231 74 ls st w := R_file Q231 (by decide +kernel) rfl rfl
theorem e231_67 {ls : zL} {st : List Value} {w : zW} : Rv 231 67 ls st w = ldI ls 1 fun x => lst ls 1 (some (.int (x + 2))) fun l => Rv 231 70 l st w := R_iinc Q231 (by decide +kernel) (by decide)
theorem e231_70 {ls : zL} {st : List Value} {w : zW} : Rv 231 70 ls st w = ldI ls 0 fun x => Rv 231 71 ls (.int x :: st) w := R_ldI Q231 (by decide +kernel) rfl
theorem e231_71 {ls : zL} {st : List Value} {w : zW} : Rv 231 71 ls st w = Rv 231 72 ls (.int 2 :: st) w := R_con Q231 (by decide +kernel) rfl (by decide)
theorem e231_72 {ls : zL} {st : List Value} {w : zW} {x y : Int32} : Rv 231 72 ls (.int y :: .int x :: st) w = Rv 231 73 ls (.int ((x.toUInt32 >>> (y.toUInt32 &&& Int32.toUInt32 31)).toInt32) :: st) w := R_next Q231 (by decide +kernel) rfl
theorem e231_73 {ls : zL} {st : List Value} {w : zW} {x : Int32} : Rv 231 73 ls (.int x :: st) w = lst ls 0 (some (.int x)) fun l => Rv 231 74 l st w := R_st Q231 (by decide +kernel) rfl
theorem e231_74 {ls : zL} {st : List Value} {w : zW} : Rv 231 74 ls st w = ldI ls 1 fun x => Rv 231 75 ls (.int x :: st) w := R_ldI Q231 (by decide +kernel) rfl
theorem e231_75 {ls : zL} {st : List Value} {w : zW} : Rv 231 75 ls st w = ldI ls 0 fun x => Rv 231 76 ls (.int x :: st) w := R_ldI Q231 (by decide +kernel) rfl
theorem e231_76 {ls : zL} {st : List Value} {w : zW} : Rv 231 76 ls st w = Rv 231 77 ls (.int 1 :: st) w := R_con Q231 (by decide +kernel) rfl (by decide)
theorem e231_77 {ls : zL} {st : List Value} {w : zW} {x y : Int32} : Rv 231 77 ls (.int y :: .int x :: st) w = Rv 231 78 ls (.int ((x.toUInt32 >>> (y.toUInt32 &&& Int32.toUInt32 31)).toInt32) :: st) w := R_next Q231 (by decide +kernel) rfl
theorem e231_78 {ls : zL} {st : List Value} {w : zW} {x y : Int32} : Rv 231 78 ls (.int y :: .int x :: st) w = Rv 231 79 ls (.int (x + y) :: st) w := R_next Q231 (by decide +kernel) rfl
theorem e231_79 {ls : zL} {w : zW} {x : Int32} : Rv 231 79 ls [.int x] w = some (.inl (some (.int x)), w) := R_retI Q231 (by decide +kernel) rfl
/-! java/lang/Integer.bitCount -/
theorem e232_0 {ls : zL} {st : List Value} {w : zW} : Rv 232 0 ls st w = ldI ls 0 fun x => Rv 232 1 ls (.int x :: st) w := R_ldI Q232 (by decide +kernel) rfl
theorem e232_1 {ls : zL} {st : List Value} {w : zW} : Rv 232 1 ls st w = ldI ls 0 fun x => Rv 232 2 ls (.int x :: st) w := R_ldI Q232 (by decide +kernel) rfl
theorem e232_2 {ls : zL} {st : List Value} {w : zW} : Rv 232 2 ls st w = Rv 232 3 ls (.int 1 :: st) w := R_con Q232 (by decide +kernel) rfl (by decide)
theorem e232_3 {ls : zL} {st : List Value} {w : zW} {x y : Int32} : Rv 232 3 ls (.int y :: .int x :: st) w = Rv 232 4 ls (.int ((x.toUInt32 >>> (y.toUInt32 &&& Int32.toUInt32 31)).toInt32) :: st) w := R_next Q232 (by decide +kernel) rfl
theorem e232_4 {ls : zL} {st : List Value} {w : zW} : Rv 232 4 ls st w = Rv 232 7 ls (.int 1431655765 :: st) w := R_ldcw Q232 (by decide +kernel) (by decide +kernel) (z := 320)
theorem e232_7 {ls : zL} {st : List Value} {w : zW} {x y : Int32} : Rv 232 7 ls (.int y :: .int x :: st) w = Rv 232 8 ls (.int (x &&& y) :: st) w := R_next Q232 (by decide +kernel) rfl
theorem e232_8 {ls : zL} {st : List Value} {w : zW} {x y : Int32} : Rv 232 8 ls (.int y :: .int x :: st) w = Rv 232 9 ls (.int (x - y) :: st) w := R_next Q232 (by decide +kernel) rfl
theorem e232_9 {ls : zL} {st : List Value} {w : zW} {x : Int32} : Rv 232 9 ls (.int x :: st) w = lst ls 0 (some (.int x)) fun l => Rv 232 10 l st w := R_st Q232 (by decide +kernel) rfl
theorem e232_10 {ls : zL} {st : List Value} {w : zW} : Rv 232 10 ls st w = ldI ls 0 fun x => Rv 232 11 ls (.int x :: st) w := R_ldI Q232 (by decide +kernel) rfl
theorem e232_11 {ls : zL} {st : List Value} {w : zW} : Rv 232 11 ls st w = Rv 232 14 ls (.int 858993459 :: st) w := R_ldcw Q232 (by decide +kernel) (by decide +kernel) (z := 321)
theorem e232_14 {ls : zL} {st : List Value} {w : zW} {x y : Int32} : Rv 232 14 ls (.int y :: .int x :: st) w = Rv 232 15 ls (.int (x &&& y) :: st) w := R_next Q232 (by decide +kernel) rfl
theorem e232_15 {ls : zL} {st : List Value} {w : zW} : Rv 232 15 ls st w = ldI ls 0 fun x => Rv 232 16 ls (.int x :: st) w := R_ldI Q232 (by decide +kernel) rfl
theorem e232_16 {ls : zL} {st : List Value} {w : zW} : Rv 232 16 ls st w = Rv 232 17 ls (.int 2 :: st) w := R_con Q232 (by decide +kernel) rfl (by decide)
theorem e232_17 {ls : zL} {st : List Value} {w : zW} {x y : Int32} : Rv 232 17 ls (.int y :: .int x :: st) w = Rv 232 18 ls (.int ((x.toUInt32 >>> (y.toUInt32 &&& Int32.toUInt32 31)).toInt32) :: st) w := R_next Q232 (by decide +kernel) rfl
theorem e232_18 {ls : zL} {st : List Value} {w : zW} : Rv 232 18 ls st w = Rv 232 21 ls (.int 858993459 :: st) w := R_ldcw Q232 (by decide +kernel) (by decide +kernel) (z := 321)
theorem e232_21 {ls : zL} {st : List Value} {w : zW} {x y : Int32} : Rv 232 21 ls (.int y :: .int x :: st) w = Rv 232 22 ls (.int (x &&& y) :: st) w := R_next Q232 (by decide +kernel) rfl
theorem e232_22 {ls : zL} {st : List Value} {w : zW} {x y : Int32} : Rv 232 22 ls (.int y :: .int x :: st) w = Rv 232 23 ls (.int (x + y) :: st) w := R_next Q232 (by decide +kernel) rfl
theorem e232_23 {ls : zL} {st : List Value} {w : zW} {x : Int32} : Rv 232 23 ls (.int x :: st) w = lst ls 0 (some (.int x)) fun l => Rv 232 24 l st w := R_st Q232 (by decide +kernel) rfl
theorem e232_24 {ls : zL} {st : List Value} {w : zW} : Rv 232 24 ls st w = ldI ls 0 fun x => Rv 232 25 ls (.int x :: st) w := R_ldI Q232 (by decide +kernel) rfl
theorem e232_25 {ls : zL} {st : List Value} {w : zW} : Rv 232 25 ls st w = ldI ls 0 fun x => Rv 232 26 ls (.int x :: st) w := R_ldI Q232 (by decide +kernel) rfl
theorem e232_26 {ls : zL} {st : List Value} {w : zW} : Rv 232 26 ls st w = Rv 232 27 ls (.int 4 :: st) w := R_con Q232 (by decide +kernel) rfl (by decide)
theorem e232_27 {ls : zL} {st : List Value} {w : zW} {x y : Int32} : Rv 232 27 ls (.int y :: .int x :: st) w = Rv 232 28 ls (.int ((x.toUInt32 >>> (y.toUInt32 &&& Int32.toUInt32 31)).toInt32) :: st) w := R_next Q232 (by decide +kernel) rfl
theorem e232_28 {ls : zL} {st : List Value} {w : zW} {x y : Int32} : Rv 232 28 ls (.int y :: .int x :: st) w = Rv 232 29 ls (.int (x + y) :: st) w := R_next Q232 (by decide +kernel) rfl
theorem e232_29 {ls : zL} {st : List Value} {w : zW} : Rv 232 29 ls st w = Rv 232 32 ls (.int 252645135 :: st) w := R_ldcw Q232 (by decide +kernel) (by decide +kernel) (z := 322)
theorem e232_32 {ls : zL} {st : List Value} {w : zW} {x y : Int32} : Rv 232 32 ls (.int y :: .int x :: st) w = Rv 232 33 ls (.int (x &&& y) :: st) w := R_next Q232 (by decide +kernel) rfl
theorem e232_33 {ls : zL} {st : List Value} {w : zW} {x : Int32} : Rv 232 33 ls (.int x :: st) w = lst ls 0 (some (.int x)) fun l => Rv 232 34 l st w := R_st Q232 (by decide +kernel) rfl
theorem e232_34 {ls : zL} {st : List Value} {w : zW} : Rv 232 34 ls st w = ldI ls 0 fun x => Rv 232 35 ls (.int x :: st) w := R_ldI Q232 (by decide +kernel) rfl
theorem e232_35 {ls : zL} {st : List Value} {w : zW} : Rv 232 35 ls st w = ldI ls 0 fun x => Rv 232 36 ls (.int x :: st) w := R_ldI Q232 (by decide +kernel) rfl
theorem e232_36 {ls : zL} {st : List Value} {w : zW} : Rv 232 36 ls st w = Rv 232 38 ls (.int 8 :: st) w := R_con Q232 (by decide +kernel) rfl (by decide)
theorem e232_38 {ls : zL} {st : List Value} {w : zW} {x y : Int32} : Rv 232 38 ls (.int y :: .int x :: st) w = Rv 232 39 ls (.int ((x.toUInt32 >>> (y.toUInt32 &&& Int32.toUInt32 31)).toInt32) :: st) w := R_next Q232 (by decide +kernel) rfl
theorem e232_39 {ls : zL} {st : List Value} {w : zW} {x y : Int32} : Rv 232 39 ls (.int y :: .int x :: st) w = Rv 232 40 ls (.int (x + y) :: st) w := R_next Q232 (by decide +kernel) rfl
theorem e232_40 {ls : zL} {st : List Value} {w : zW} {x : Int32} : Rv 232 40 ls (.int x :: st) w = lst ls 0 (some (.int x)) fun l => Rv 232 41 l st w := R_st Q232 (by decide +kernel) rfl
theorem e232_41 {ls : zL} {st : List Value} {w : zW} : Rv 232 41 ls st w = ldI ls 0 fun x => Rv 232 42 ls (.int x :: st) w := R_ldI Q232 (by decide +kernel) rfl
theorem e232_42 {ls : zL} {st : List Value} {w : zW} : Rv 232 42 ls st w = ldI ls 0 fun x => Rv 232 43 ls (.int x :: st) w := R_ldI Q232 (by decide +kernel) rfl
theorem e232_43 {ls : zL} {st : List Value} {w : zW} : Rv 232 43 ls st w = Rv 232 45 ls (.int 16 :: st) w := R_con Q232 (by decide +kernel) rfl (by decide)
theorem e232_45 {ls : zL} {st : List Value} {w : zW} {x y : Int32} : Rv 232 45 ls (.int y :: .int x :: st) w = Rv 232 46 ls (.int ((x.toUInt32 >>> (y.toUInt32 &&& Int32.toUInt32 31)).toInt32) :: st) w := R_next Q232 (by decide +kernel) rfl
theorem e232_46 {ls : zL} {st : List Value} {w : zW} {x y : Int32} : Rv 232 46 ls (.int y :: .int x :: st) w = Rv 232 47 ls (.int (x + y) :: st) w := R_next Q232 (by decide +kernel) rfl
theorem e232_47 {ls : zL} {st : List Value} {w : zW} {x : Int32} : Rv 232 47 ls (.int x :: st) w = lst ls 0 (some (.int x)) fun l => Rv 232 48 l st w := R_st Q232 (by decide +kernel) rfl
theorem e232_48 {ls : zL} {st : List Value} {w : zW} : Rv 232 48 ls st w = ldI ls 0 fun x => Rv 232 49 ls (.int x :: st) w := R_ldI Q232 (by decide +kernel) rfl
theorem e232_49 {ls : zL} {st : List Value} {w : zW} : Rv 232 49 ls st w = Rv 232 51 ls (.int 63 :: st) w := R_con Q232 (by decide +kernel) rfl (by decide)
theorem e232_51 {ls : zL} {st : List Value} {w : zW} {x y : Int32} : Rv 232 51 ls (.int y :: .int x :: st) w = Rv 232 52 ls (.int (x &&& y) :: st) w := R_next Q232 (by decide +kernel) rfl
theorem e232_52 {ls : zL} {w : zW} {x : Int32} : Rv 232 52 ls [.int x] w = some (.inl (some (.int x)), w) := R_retI Q232 (by decide +kernel) rfl
/-! java/lang/String.length -/
theorem e233_0 {ls : zL} {st : List Value} {w : zW} : Rv 233 0 ls st w = ldA ls 0 fun x => Rv 233 1 ls (x :: st) w := R_ldA Q233 (by decide +kernel) rfl
theorem e233_1 {ls : zL} {st : List Value} {w : zW} {a : Nat} : Rv 233 1 ls (.ref a :: st) w = gF w a 101 0 fun v => Rv 233 4 ls (v :: st) w := R_gF (z := 1470) Q233 (by decide +kernel) rfl
theorem e233_4 {ls : zL} {st : List Value} {w : zW} {a : Nat} : Rv 233 4 ls (.ref a :: st) w = gN w a fun v => Rv 233 5 ls (.int v :: st) w := R_alen Q233 (by decide +kernel)
theorem e233_5 {ls : zL} {st : List Value} {w : zW} : Rv 233 5 ls st w = ldA ls 0 fun x => Rv 233 6 ls (x :: st) w := R_ldA Q233 (by decide +kernel) rfl
theorem e233_6 {ls : zL} {w : zW} {a0 : Nat} {n1 : Int32} : Rv 233 6 ls [.ref a0, .int n1] w = hO w a0 101 (cal (Rv 235 0 [some (.ref a0)] [] w) (fun v w' => Rv 233 9 ls (vts v [.int n1]) w') (xnone)) := R_calV (z := 471) (r := [.int n1]) Q233 (by decide +kernel) rfl rfl Q235 rfl rfl rfl
theorem e233_9 {ls : zL} {st : List Value} {w : zW} {x y : Int32} : Rv 233 9 ls (.int y :: .int x :: st) w = Rv 233 10 ls (.int (x >>> (y &&& 31)) :: st) w := R_next Q233 (by decide +kernel) rfl
theorem e233_10 {ls : zL} {w : zW} {x : Int32} : Rv 233 10 ls [.int x] w = some (.inl (some (.int x)), w) := R_retI Q233 (by decide +kernel) rfl
/-! java/lang/String.charAt -/
theorem e234_0 {ls : zL} {st : List Value} {w : zW} : Rv 234 0 ls st w = ldA ls 0 fun x => Rv 234 1 ls (x :: st) w := R_ldA Q234 (by decide +kernel) rfl
theorem e234_1 {ls : zL} {w : zW} {a0 : Nat} : Rv 234 1 ls [.ref a0] w = hO w a0 101 (cal (Rv 236 0 [some (.ref a0)] [] w) (fun v w' => Rv 234 4 ls (vts v []) w') (xnone)) := R_calV (z := 481) (r := []) Q234 (by decide +kernel) rfl rfl Q236 rfl rfl rfl
theorem e234_4 {ls : zL} {st : List Value} {w : zW} {x : Int32} : Rv 234 4 ls (.int x :: st) w = if x = 0 then Rv 234 16 ls st w else Rv 234 7 ls st w := R_f0eq Q234 (by decide +kernel) rfl rfl
theorem e234_7 {ls : zL} {st : List Value} {w : zW} : Rv 234 7 ls st w = ldA ls 0 fun x => Rv 234 8 ls (x :: st) w := R_ldA Q234 (by decide +kernel) rfl
theorem e234_8 {ls : zL} {st : List Value} {w : zW} {a : Nat} : Rv 234 8 ls (.ref a :: st) w = gF w a 101 0 fun v => Rv 234 11 ls (v :: st) w := R_gF (z := 1470) Q234 (by decide +kernel) rfl
theorem e234_11 {ls : zL} {st : List Value} {w : zW} : Rv 234 11 ls st w = ldI ls 1 fun x => Rv 234 12 ls (.int x :: st) w := R_ldI Q234 (by decide +kernel) rfl
theorem e234_12 {ls : zL} {w : zW} {n1 : Int32} {a2 : Nat} : Rv 234 12 ls [.int n1, .ref a2] w = cal (Rv 237 0 [some (.ref a2), some (.int n1)] [] w) (fun v w' => Rv 234 15 ls (vts v []) w') (xnone) := R_calS (z := 485) (kd := 1) (n := 2) Q234 (by decide +kernel) rfl (Or.inl rfl) (Nat.le_of_ble_eq_true rfl) rfl Q237 rfl rfl rfl
theorem e234_15 {ls : zL} {w : zW} {x : Int32} : Rv 234 15 ls [.int x] w = if x.toUInt32.toUInt16.toUInt32.toInt32 = x then some (.inl (some (.int x)), w) else none := R_retC Q234 (by decide +kernel) rfl
theorem e234_16 {ls : zL} {st : List Value} {w : zW} : Rv 234 16 ls st w = ldA ls 0 fun x => Rv 234 17 ls (x :: st) w := R_ldA Q234 (by decide +kernel) rfl
theorem e234_17 {ls : zL} {st : List Value} {w : zW} {a : Nat} : Rv 234 17 ls (.ref a :: st) w = gF w a 101 0 fun v => Rv 234 20 ls (v :: st) w := R_gF (z := 1470) Q234 (by decide +kernel) rfl
theorem e234_20 {ls : zL} {st : List Value} {w : zW} : Rv 234 20 ls st w = ldI ls 1 fun x => Rv 234 21 ls (.int x :: st) w := R_ldI Q234 (by decide +kernel) rfl
/-! java/lang/String.coder -/
theorem e235_0 {ls : zL} {st : List Value} {w : zW} : Rv 235 0 ls st w = Rv 235 3 ls (.int 1 :: st) w := R_gst (z := 475) Q235 (by decide +kernel) rfl
theorem e235_3 {ls : zL} {st : List Value} {w : zW} {x : Int32} : Rv 235 3 ls (.int x :: st) w = if x = 0 then Rv 235 13 ls st w else Rv 235 6 ls st w := R_f0eq Q235 (by decide +kernel) rfl rfl
theorem e235_6 {ls : zL} {st : List Value} {w : zW} : Rv 235 6 ls st w = ldA ls 0 fun x => Rv 235 7 ls (x :: st) w := R_ldA Q235 (by decide +kernel) rfl
theorem e235_7 {ls : zL} {st : List Value} {w : zW} {a : Nat} : Rv 235 7 ls (.ref a :: st) w = gF w a 101 1 fun v => Rv 235 10 ls (v :: st) w := R_gF (z := 1471) Q235 (by decide +kernel) rfl
theorem e235_10 {ls : zL} {st : List Value} {w : zW} : Rv 235 10 ls st w = Rv 235 14 ls st w := R_go Q235 (by decide +kernel) rfl rfl
theorem e235_13 {ls : zL} {st : List Value} {w : zW} : Rv 235 13 ls st w = Rv 235 14 ls (.int 1 :: st) w := R_con Q235 (by decide +kernel) rfl (by decide)
theorem e235_14 {ls : zL} {w : zW} {x : Int32} : Rv 235 14 ls [.int x] w = if x.toInt8.toInt32 = x then some (.inl (some (.int x)), w) else none := R_retB Q235 (by decide +kernel) rfl
/-! java/lang/String.isLatin1 -/
theorem e236_0 {ls : zL} {st : List Value} {w : zW} : Rv 236 0 ls st w = Rv 236 3 ls (.int 1 :: st) w := R_gst (z := 475) Q236 (by decide +kernel) rfl
theorem e236_3 {ls : zL} {st : List Value} {w : zW} {x : Int32} : Rv 236 3 ls (.int x :: st) w = if x = 0 then Rv 236 17 ls st w else Rv 236 6 ls st w := R_f0eq Q236 (by decide +kernel) rfl rfl
theorem e236_6 {ls : zL} {st : List Value} {w : zW} : Rv 236 6 ls st w = ldA ls 0 fun x => Rv 236 7 ls (x :: st) w := R_ldA Q236 (by decide +kernel) rfl
theorem e236_7 {ls : zL} {st : List Value} {w : zW} {a : Nat} : Rv 236 7 ls (.ref a :: st) w = gF w a 101 1 fun v => Rv 236 10 ls (v :: st) w := R_gF (z := 1471) Q236 (by decide +kernel) rfl
theorem e236_10 {ls : zL} {st : List Value} {w : zW} {x : Int32} : Rv 236 10 ls (.int x :: st) w = if x = 0 then Rv 236 13 ls st w else Rv 236 17 ls st w := R_f0ne Q236 (by decide +kernel) rfl rfl
theorem e236_13 {ls : zL} {st : List Value} {w : zW} : Rv 236 13 ls st w = Rv 236 14 ls (.int 1 :: st) w := R_con Q236 (by decide +kernel) rfl (by decide)
theorem e236_14 {ls : zL} {st : List Value} {w : zW} : Rv 236 14 ls st w = Rv 236 18 ls st w := R_go Q236 (by decide +kernel) rfl rfl
theorem e236_17 {ls : zL} {st : List Value} {w : zW} : Rv 236 17 ls st w = Rv 236 18 ls (.int 0 :: st) w := R_con Q236 (by decide +kernel) rfl (by decide)
theorem e236_18 {ls : zL} {w : zW} {x : Int32} : Rv 236 18 ls [.int x] w = if x = 0 ∨ x = 1 then some (.inl (some (.int x)), w) else none := R_retZ Q236 (by decide +kernel) rfl
/-! java/lang/StringLatin1.charAt -/
theorem e237_0 {ls : zL} {st : List Value} {w : zW} : Rv 237 0 ls st w = ldI ls 1 fun x => Rv 237 1 ls (.int x :: st) w := R_ldI Q237 (by decide +kernel) rfl
theorem e237_1 {ls : zL} {st : List Value} {w : zW} : Rv 237 1 ls st w = ldA ls 0 fun x => Rv 237 2 ls (x :: st) w := R_ldA Q237 (by decide +kernel) rfl
theorem e237_2 {ls : zL} {st : List Value} {w : zW} {a : Nat} : Rv 237 2 ls (.ref a :: st) w = gN w a fun v => Rv 237 3 ls (.int v :: st) w := R_alen Q237 (by decide +kernel)
theorem e237_3 {ls : zL} {w : zW}  {x y : Int32} : Rv 237 3 ls [.int y, .int x] w = if 0 ≤ x ∧ x < y then Rv 237 6 ls [] w else none := R_chk (z := (0, 2, 488)) Q237 (by decide +kernel) rfl ⟨Nat.le_of_ble_eq_true rfl, Nat.le_of_ble_eq_true rfl, Nat.le_of_ble_eq_true rfl⟩
theorem e237_6 {ls : zL} {st : List Value} {w : zW} : Rv 237 6 ls st w = ldA ls 0 fun x => Rv 237 7 ls (x :: st) w := R_ldA Q237 (by decide +kernel) rfl
theorem e237_7 {ls : zL} {st : List Value} {w : zW} : Rv 237 7 ls st w = ldI ls 1 fun x => Rv 237 8 ls (.int x :: st) w := R_ldI Q237 (by decide +kernel) rfl
theorem e237_8 {ls : zL} {st : List Value} {w : zW} {a : Nat} {x : Int32} : Rv 237 8 ls (.int x :: .ref a :: st) w = gI w a 2 9 x fun v => Rv 237 9 ls (.int v :: st) w := R_bald Q237 (by decide +kernel)
theorem e237_9 {ls : zL} {st : List Value} {w : zW} : Rv 237 9 ls st w = Rv 237 12 ls (.int 255 :: st) w := R_con Q237 (by decide +kernel) rfl (by decide)
theorem e237_12 {ls : zL} {st : List Value} {w : zW} {x y : Int32} : Rv 237 12 ls (.int y :: .int x :: st) w = Rv 237 13 ls (.int (x &&& y) :: st) w := R_next Q237 (by decide +kernel) rfl
theorem e237_13 {ls : zL} {st : List Value} {w : zW} {x : Int32} : Rv 237 13 ls (.int x :: st) w = Rv 237 14 ls (.int (x.toUInt32 % 65536).toInt32 :: st) w := R_next Q237 (by decide +kernel) rfl
theorem e237_14 {ls : zL} {w : zW} {x : Int32} : Rv 237 14 ls [.int x] w = if x.toUInt32.toUInt16.toUInt32.toInt32 = x then some (.inl (some (.int x)), w) else none := R_retC Q237 (by decide +kernel) rfl
/-! MasterPinsLaw.begin -/
theorem e238_0 {ls : zL} {st : List Value} {w : zW} : Rv 238 0 ls st w = ldA ls 3 fun x => Rv 238 1 ls (x :: st) w := R_ldA Q238 (by decide +kernel) rfl
theorem e238_1 {ls : zL} {st : List Value} {w : zW} : Rv 238 1 ls st w = Rv 238 2 ls (.int 0 :: st) w := R_con Q238 (by decide +kernel) rfl (by decide)
theorem e238_2 {ls : zL} {st : List Value} {w : zW} : Rv 238 2 ls st w = ldA ls 0 fun x => Rv 238 3 ls (x :: st) w := R_ldA Q238 (by decide +kernel) rfl
theorem e238_3 {ls : zL} {st : List Value} {w : zW} : Rv 238 3 ls st w = ldI ls 1 fun x => Rv 238 4 ls (.int x :: st) w := R_ldI Q238 (by decide +kernel) rfl
theorem e238_4 {ls : zL} {st : List Value} {w : zW} : Rv 238 4 ls st w = ldI ls 2 fun x => Rv 238 5 ls (.int x :: st) w := R_ldI Q238 (by decide +kernel) rfl
theorem x238_5_IllArg {ls : zL} {w : zW} : xh q238 238 5 ls "java/lang/IllegalArgumentException" w = lst ls 4 none fun l => Rv 238 15 l [] w := R_xh (by decide +kernel) rfl
theorem e238_5 {ls : zL} {w : zW} {n1 : Int32} {n2 : Int32} {a0 : Nat} {n3 : Int32} {a4 : Nat} : Rv 238 5 ls [.int n1, .int n2, .ref a0, .int n3, .ref a4] w = hO w a0 5 (cal (Rv 102 0 [some (.ref a0), some (.int n2), some (.int n1)] [] w) (fun v w' => Rv 238 8 ls (vts v [.int n3, .ref a4]) w') (xh q238 238 5 ls)) := R_calXV (z := 725) (r := [.int n3, .ref a4]) Q238 (by decide +kernel) rfl rfl Q102 rfl rfl (by decide)
theorem e238_8 {ls : zL} {st : List Value} {w : zW} {x : Int32} : Rv 238 8 ls (.int x :: st) w = Rv 238 9 ls (.long x.toInt64 :: st) w := R_next Q238 (by decide +kernel) rfl
theorem e238_9 {ls : zL} {st : List Value} {w : zW} {a : Nat} {x : Int32} {y : Int64} : Rv 238 9 ls (.long y :: .int x :: .ref a :: st) w = pL w a x y fun w' => Rv 238 10 ls st w' := R_last Q238 (by decide +kernel)
theorem e238_10 {ls : zL} {st : List Value} {w : zW} : Rv 238 10 ls st w = Rv 238 17 ls st w := R_go Q238 (by decide +kernel) rfl rfl
theorem e238_15 {ls : zL} {st : List Value} {w : zW} : Rv 238 15 ls st w = Rv 238 16 ls (.int 1 :: st) w := R_con Q238 (by decide +kernel) rfl (by decide)
theorem e238_16 {ls : zL} {w : zW} {x : Int32} : Rv 238 16 ls [.int x] w = some (.inl (some (.int x)), w) := R_retI Q238 (by decide +kernel) rfl
theorem e238_17 {ls : zL} {st : List Value} {w : zW} : Rv 238 17 ls st w = Rv 238 18 ls (.int 0 :: st) w := R_con Q238 (by decide +kernel) rfl (by decide)
theorem e238_18 {ls : zL} {w : zW} {x : Int32} : Rv 238 18 ls [.int x] w = some (.inl (some (.int x)), w) := R_retI Q238 (by decide +kernel) rfl
/-! MasterPinsLaw.setRule -/
theorem e239_0 {ls : zL} {st : List Value} {w : zW} : Rv 239 0 ls st w = ldA ls 3 fun x => Rv 239 1 ls (x :: st) w := R_ldA Q239 (by decide +kernel) rfl
theorem e239_1 {ls : zL} {st : List Value} {w : zW} : Rv 239 1 ls st w = Rv 239 2 ls (.int 0 :: st) w := R_con Q239 (by decide +kernel) rfl (by decide)
theorem e239_2 {ls : zL} {st : List Value} {w : zW} : Rv 239 2 ls st w = ldA ls 0 fun x => Rv 239 3 ls (x :: st) w := R_ldA Q239 (by decide +kernel) rfl
theorem e239_3 {ls : zL} {st : List Value} {w : zW} : Rv 239 3 ls st w = ldI ls 1 fun x => Rv 239 4 ls (.int x :: st) w := R_ldI Q239 (by decide +kernel) rfl
theorem e239_4 {ls : zL} {st : List Value} {w : zW} : Rv 239 4 ls st w = ldI ls 2 fun x => Rv 239 5 ls (.int x :: st) w := R_ldI Q239 (by decide +kernel) rfl
theorem x239_5_IllArg {ls : zL} {w : zW} : xh q239 239 5 ls "java/lang/IllegalArgumentException" w = lst ls 4 none fun l => Rv 239 15 l [] w := R_xh (by decide +kernel) rfl
theorem e239_5 {ls : zL} {w : zW} {n1 : Int32} {n2 : Int32} {a0 : Nat} {n3 : Int32} {a4 : Nat} : Rv 239 5 ls [.int n1, .int n2, .ref a0, .int n3, .ref a4] w = hO w a0 5 (cal (Rv 103 0 [some (.ref a0), some (.int n2), some (.int n1)] [] w) (fun v w' => Rv 239 8 ls (vts v [.int n3, .ref a4]) w') (xh q239 239 5 ls)) := R_calXV (z := 803) (r := [.int n3, .ref a4]) Q239 (by decide +kernel) rfl rfl Q103 rfl rfl (by decide)
theorem e239_8 {ls : zL} {st : List Value} {w : zW} {x : Int32} : Rv 239 8 ls (.int x :: st) w = Rv 239 9 ls (.long x.toInt64 :: st) w := R_next Q239 (by decide +kernel) rfl
theorem e239_9 {ls : zL} {st : List Value} {w : zW} {a : Nat} {x : Int32} {y : Int64} : Rv 239 9 ls (.long y :: .int x :: .ref a :: st) w = pL w a x y fun w' => Rv 239 10 ls st w' := R_last Q239 (by decide +kernel)
theorem e239_10 {ls : zL} {st : List Value} {w : zW} : Rv 239 10 ls st w = Rv 239 17 ls st w := R_go Q239 (by decide +kernel) rfl rfl
theorem e239_15 {ls : zL} {st : List Value} {w : zW} : Rv 239 15 ls st w = Rv 239 16 ls (.int 1 :: st) w := R_con Q239 (by decide +kernel) rfl (by decide)
theorem e239_16 {ls : zL} {w : zW} {x : Int32} : Rv 239 16 ls [.int x] w = some (.inl (some (.int x)), w) := R_retI Q239 (by decide +kernel) rfl
theorem e239_17 {ls : zL} {st : List Value} {w : zW} : Rv 239 17 ls st w = Rv 239 18 ls (.int 0 :: st) w := R_con Q239 (by decide +kernel) rfl (by decide)
theorem e239_18 {ls : zL} {w : zW} {x : Int32} : Rv 239 18 ls [.int x] w = some (.inl (some (.int x)), w) := R_retI Q239 (by decide +kernel) rfl
/-! MasterPinsLaw.addKey -/
theorem e240_0 {ls : zL} {st : List Value} {w : zW} : Rv 240 0 ls st w = ldA ls 3 fun x => Rv 240 1 ls (x :: st) w := R_ldA Q240 (by decide +kernel) rfl
theorem e240_1 {ls : zL} {st : List Value} {w : zW} : Rv 240 1 ls st w = Rv 240 2 ls (.int 0 :: st) w := R_con Q240 (by decide +kernel) rfl (by decide)
theorem e240_2 {ls : zL} {st : List Value} {w : zW} : Rv 240 2 ls st w = ldA ls 0 fun x => Rv 240 3 ls (x :: st) w := R_ldA Q240 (by decide +kernel) rfl
theorem e240_3 {ls : zL} {st : List Value} {w : zW} : Rv 240 3 ls st w = ldI ls 1 fun x => Rv 240 4 ls (.int x :: st) w := R_ldI Q240 (by decide +kernel) rfl
theorem e240_4 {ls : zL} {st : List Value} {w : zW} : Rv 240 4 ls st w = ldI ls 2 fun x => Rv 240 5 ls (.int x :: st) w := R_ldI Q240 (by decide +kernel) rfl
theorem x240_5_IllSta {ls : zL} {w : zW} : xh q240 240 5 ls "java/lang/IllegalStateException" w = lst ls 4 none fun l => Rv 240 23 l [] w := R_xh (by decide +kernel) rfl
theorem x240_5_IllArg {ls : zL} {w : zW} : xh q240 240 5 ls "java/lang/IllegalArgumentException" w = lst ls 4 none fun l => Rv 240 19 l [] w := R_xh (by decide +kernel) rfl
theorem x240_5_IndtOf {ls : zL} {w : zW} : xh q240 240 5 ls "java/lang/IndexOutOfBoundsException" w = lst ls 4 none fun l => Rv 240 15 l [] w := R_xh (by decide +kernel) rfl
theorem e240_5 {ls : zL} {w : zW} {n1 : Int32} {n2 : Int32} {a0 : Nat} {n3 : Int32} {a4 : Nat} : Rv 240 5 ls [.int n1, .int n2, .ref a0, .int n3, .ref a4] w = hO w a0 5 (cal (Rv 104 0 [some (.ref a0), some (.int n2), some (.int n1)] [] w) (fun v w' => Rv 240 8 ls (vts v [.int n3, .ref a4]) w') (xh q240 240 5 ls)) := R_calXV (z := 848) (r := [.int n3, .ref a4]) Q240 (by decide +kernel) rfl rfl Q104 rfl rfl (by decide)
theorem e240_8 {ls : zL} {st : List Value} {w : zW} {x : Int32} : Rv 240 8 ls (.int x :: st) w = Rv 240 9 ls (.long x.toInt64 :: st) w := R_next Q240 (by decide +kernel) rfl
theorem e240_9 {ls : zL} {st : List Value} {w : zW} {a : Nat} {x : Int32} {y : Int64} : Rv 240 9 ls (.long y :: .int x :: .ref a :: st) w = pL w a x y fun w' => Rv 240 10 ls st w' := R_last Q240 (by decide +kernel)
theorem e240_10 {ls : zL} {st : List Value} {w : zW} : Rv 240 10 ls st w = Rv 240 25 ls st w := R_go Q240 (by decide +kernel) rfl rfl
theorem e240_15 {ls : zL} {st : List Value} {w : zW} : Rv 240 15 ls st w = Rv 240 16 ls (.int 1 :: st) w := R_con Q240 (by decide +kernel) rfl (by decide)
theorem e240_16 {ls : zL} {w : zW} {x : Int32} : Rv 240 16 ls [.int x] w = some (.inl (some (.int x)), w) := R_retI Q240 (by decide +kernel) rfl
theorem e240_19 {ls : zL} {st : List Value} {w : zW} : Rv 240 19 ls st w = Rv 240 20 ls (.int 2 :: st) w := R_con Q240 (by decide +kernel) rfl (by decide)
theorem e240_20 {ls : zL} {w : zW} {x : Int32} : Rv 240 20 ls [.int x] w = some (.inl (some (.int x)), w) := R_retI Q240 (by decide +kernel) rfl
theorem e240_23 {ls : zL} {st : List Value} {w : zW} : Rv 240 23 ls st w = Rv 240 24 ls (.int 3 :: st) w := R_con Q240 (by decide +kernel) rfl (by decide)
theorem e240_24 {ls : zL} {w : zW} {x : Int32} : Rv 240 24 ls [.int x] w = some (.inl (some (.int x)), w) := R_retI Q240 (by decide +kernel) rfl
theorem e240_25 {ls : zL} {st : List Value} {w : zW} : Rv 240 25 ls st w = Rv 240 26 ls (.int 0 :: st) w := R_con Q240 (by decide +kernel) rfl (by decide)
theorem e240_26 {ls : zL} {w : zW} {x : Int32} : Rv 240 26 ls [.int x] w = some (.inl (some (.int x)), w) := R_retI Q240 (by decide +kernel) rfl
/-! MasterPinsLaw.recut -/
theorem e241_0 {ls : zL} {st : List Value} {w : zW} : Rv 241 0 ls st w = ldA ls 3 fun x => Rv 241 1 ls (x :: st) w := R_ldA Q241 (by decide +kernel) rfl
theorem e241_1 {ls : zL} {st : List Value} {w : zW} : Rv 241 1 ls st w = Rv 241 2 ls (.int 0 :: st) w := R_con Q241 (by decide +kernel) rfl (by decide)
theorem e241_2 {ls : zL} {st : List Value} {w : zW} : Rv 241 2 ls st w = ldA ls 0 fun x => Rv 241 3 ls (x :: st) w := R_ldA Q241 (by decide +kernel) rfl
theorem e241_3 {ls : zL} {st : List Value} {w : zW} : Rv 241 3 ls st w = ldI ls 1 fun x => Rv 241 4 ls (.int x :: st) w := R_ldI Q241 (by decide +kernel) rfl
theorem e241_4 {ls : zL} {st : List Value} {w : zW} : Rv 241 4 ls st w = ldI ls 2 fun x => Rv 241 5 ls (.int x :: st) w := R_ldI Q241 (by decide +kernel) rfl
theorem x241_5_IllArg {ls : zL} {w : zW} : xh q241 241 5 ls "java/lang/IllegalArgumentException" w = lst ls 4 none fun l => Rv 241 19 l [] w := R_xh (by decide +kernel) rfl
theorem x241_5_IndtOf {ls : zL} {w : zW} : xh q241 241 5 ls "java/lang/IndexOutOfBoundsException" w = lst ls 4 none fun l => Rv 241 15 l [] w := R_xh (by decide +kernel) rfl
theorem e241_5 {ls : zL} {w : zW} {n1 : Int32} {n2 : Int32} {a0 : Nat} {n3 : Int32} {a4 : Nat} : Rv 241 5 ls [.int n1, .int n2, .ref a0, .int n3, .ref a4] w = hO w a0 5 (cal (Rv 105 0 [some (.ref a0), some (.int n2), some (.int n1)] [] w) (fun v w' => Rv 241 8 ls (vts v [.int n3, .ref a4]) w') (xh q241 241 5 ls)) := R_calXV (z := 855) (r := [.int n3, .ref a4]) Q241 (by decide +kernel) rfl rfl Q105 rfl rfl (by decide)
theorem e241_8 {ls : zL} {st : List Value} {w : zW} {x : Int32} : Rv 241 8 ls (.int x :: st) w = Rv 241 9 ls (.long x.toInt64 :: st) w := R_next Q241 (by decide +kernel) rfl
theorem e241_9 {ls : zL} {st : List Value} {w : zW} {a : Nat} {x : Int32} {y : Int64} : Rv 241 9 ls (.long y :: .int x :: .ref a :: st) w = pL w a x y fun w' => Rv 241 10 ls st w' := R_last Q241 (by decide +kernel)
theorem e241_10 {ls : zL} {st : List Value} {w : zW} : Rv 241 10 ls st w = Rv 241 21 ls st w := R_go Q241 (by decide +kernel) rfl rfl
theorem e241_15 {ls : zL} {st : List Value} {w : zW} : Rv 241 15 ls st w = Rv 241 16 ls (.int 1 :: st) w := R_con Q241 (by decide +kernel) rfl (by decide)
theorem e241_16 {ls : zL} {w : zW} {x : Int32} : Rv 241 16 ls [.int x] w = some (.inl (some (.int x)), w) := R_retI Q241 (by decide +kernel) rfl
theorem e241_19 {ls : zL} {st : List Value} {w : zW} : Rv 241 19 ls st w = Rv 241 20 ls (.int 2 :: st) w := R_con Q241 (by decide +kernel) rfl (by decide)
theorem e241_20 {ls : zL} {w : zW} {x : Int32} : Rv 241 20 ls [.int x] w = some (.inl (some (.int x)), w) := R_retI Q241 (by decide +kernel) rfl
theorem e241_21 {ls : zL} {st : List Value} {w : zW} : Rv 241 21 ls st w = Rv 241 22 ls (.int 0 :: st) w := R_con Q241 (by decide +kernel) rfl (by decide)
theorem e241_22 {ls : zL} {w : zW} {x : Int32} : Rv 241 22 ls [.int x] w = some (.inl (some (.int x)), w) := R_retI Q241 (by decide +kernel) rfl
/-! MasterPinsLaw.lose -/
theorem e242_0 {ls : zL} {st : List Value} {w : zW} : Rv 242 0 ls st w = ldA ls 2 fun x => Rv 242 1 ls (x :: st) w := R_ldA Q242 (by decide +kernel) rfl
theorem e242_1 {ls : zL} {st : List Value} {w : zW} : Rv 242 1 ls st w = Rv 242 2 ls (.int 0 :: st) w := R_con Q242 (by decide +kernel) rfl (by decide)
theorem e242_2 {ls : zL} {st : List Value} {w : zW} : Rv 242 2 ls st w = ldA ls 0 fun x => Rv 242 3 ls (x :: st) w := R_ldA Q242 (by decide +kernel) rfl
theorem e242_3 {ls : zL} {st : List Value} {w : zW} : Rv 242 3 ls st w = ldI ls 1 fun x => Rv 242 4 ls (.int x :: st) w := R_ldI Q242 (by decide +kernel) rfl
theorem x242_4_IllSta {ls : zL} {w : zW} : xh q242 242 4 ls "java/lang/IllegalStateException" w = lst ls 3 none fun l => Rv 242 16 l [] w := R_xh (by decide +kernel) rfl
theorem x242_4_IndtOf {ls : zL} {w : zW} : xh q242 242 4 ls "java/lang/IndexOutOfBoundsException" w = lst ls 3 none fun l => Rv 242 13 l [] w := R_xh (by decide +kernel) rfl
theorem e242_4 {ls : zL} {w : zW} {n1 : Int32} {a0 : Nat} {n2 : Int32} {a3 : Nat} : Rv 242 4 ls [.int n1, .ref a0, .int n2, .ref a3] w = hO w a0 5 (cal (Rv 106 0 [some (.ref a0), some (.int n1)] [] w) (fun v w' => Rv 242 7 ls (vts v [.int n2, .ref a3]) w') (xh q242 242 4 ls)) := R_calXV (z := 862) (r := [.int n2, .ref a3]) Q242 (by decide +kernel) rfl rfl Q106 rfl rfl (by decide)
theorem e242_7 {ls : zL} {st : List Value} {w : zW} {x : Int32} : Rv 242 7 ls (.int x :: st) w = Rv 242 8 ls (.long x.toInt64 :: st) w := R_next Q242 (by decide +kernel) rfl
theorem e242_8 {ls : zL} {st : List Value} {w : zW} {a : Nat} {x : Int32} {y : Int64} : Rv 242 8 ls (.long y :: .int x :: .ref a :: st) w = pL w a x y fun w' => Rv 242 9 ls st w' := R_last Q242 (by decide +kernel)
theorem e242_9 {ls : zL} {st : List Value} {w : zW} : Rv 242 9 ls st w = Rv 242 18 ls st w := R_go Q242 (by decide +kernel) rfl rfl
theorem e242_13 {ls : zL} {st : List Value} {w : zW} : Rv 242 13 ls st w = Rv 242 14 ls (.int 1 :: st) w := R_con Q242 (by decide +kernel) rfl (by decide)
theorem e242_14 {ls : zL} {w : zW} {x : Int32} : Rv 242 14 ls [.int x] w = some (.inl (some (.int x)), w) := R_retI Q242 (by decide +kernel) rfl
theorem e242_16 {ls : zL} {st : List Value} {w : zW} : Rv 242 16 ls st w = Rv 242 17 ls (.int 2 :: st) w := R_con Q242 (by decide +kernel) rfl (by decide)
theorem e242_17 {ls : zL} {w : zW} {x : Int32} : Rv 242 17 ls [.int x] w = some (.inl (some (.int x)), w) := R_retI Q242 (by decide +kernel) rfl
theorem e242_18 {ls : zL} {st : List Value} {w : zW} : Rv 242 18 ls st w = Rv 242 19 ls (.int 0 :: st) w := R_con Q242 (by decide +kernel) rfl (by decide)
theorem e242_19 {ls : zL} {w : zW} {x : Int32} : Rv 242 19 ls [.int x] w = some (.inl (some (.int x)), w) := R_retI Q242 (by decide +kernel) rfl
/-! MasterPinsLaw.find -/
theorem e243_0 {ls : zL} {st : List Value} {w : zW} : Rv 243 0 ls st w = ldA ls 2 fun x => Rv 243 1 ls (x :: st) w := R_ldA Q243 (by decide +kernel) rfl
theorem e243_1 {ls : zL} {st : List Value} {w : zW} : Rv 243 1 ls st w = Rv 243 2 ls (.int 0 :: st) w := R_con Q243 (by decide +kernel) rfl (by decide)
theorem e243_2 {ls : zL} {st : List Value} {w : zW} : Rv 243 2 ls st w = ldA ls 0 fun x => Rv 243 3 ls (x :: st) w := R_ldA Q243 (by decide +kernel) rfl
theorem e243_3 {ls : zL} {st : List Value} {w : zW} : Rv 243 3 ls st w = ldI ls 1 fun x => Rv 243 4 ls (.int x :: st) w := R_ldI Q243 (by decide +kernel) rfl
theorem x243_4_IllSta {ls : zL} {w : zW} : xh q243 243 4 ls "java/lang/IllegalStateException" w = lst ls 3 none fun l => Rv 243 16 l [] w := R_xh (by decide +kernel) rfl
theorem x243_4_IndtOf {ls : zL} {w : zW} : xh q243 243 4 ls "java/lang/IndexOutOfBoundsException" w = lst ls 3 none fun l => Rv 243 13 l [] w := R_xh (by decide +kernel) rfl
theorem e243_4 {ls : zL} {w : zW} {n1 : Int32} {a0 : Nat} {n2 : Int32} {a3 : Nat} : Rv 243 4 ls [.int n1, .ref a0, .int n2, .ref a3] w = hO w a0 5 (cal (Rv 107 0 [some (.ref a0), some (.int n1)] [] w) (fun v w' => Rv 243 7 ls (vts v [.int n2, .ref a3]) w') (xh q243 243 4 ls)) := R_calXV (z := 869) (r := [.int n2, .ref a3]) Q243 (by decide +kernel) rfl rfl Q107 rfl rfl (by decide)
theorem e243_7 {ls : zL} {st : List Value} {w : zW} {x : Int32} : Rv 243 7 ls (.int x :: st) w = Rv 243 8 ls (.long x.toInt64 :: st) w := R_next Q243 (by decide +kernel) rfl
theorem e243_8 {ls : zL} {st : List Value} {w : zW} {a : Nat} {x : Int32} {y : Int64} : Rv 243 8 ls (.long y :: .int x :: .ref a :: st) w = pL w a x y fun w' => Rv 243 9 ls st w' := R_last Q243 (by decide +kernel)
theorem e243_9 {ls : zL} {st : List Value} {w : zW} : Rv 243 9 ls st w = Rv 243 18 ls st w := R_go Q243 (by decide +kernel) rfl rfl
theorem e243_13 {ls : zL} {st : List Value} {w : zW} : Rv 243 13 ls st w = Rv 243 14 ls (.int 1 :: st) w := R_con Q243 (by decide +kernel) rfl (by decide)
theorem e243_14 {ls : zL} {w : zW} {x : Int32} : Rv 243 14 ls [.int x] w = some (.inl (some (.int x)), w) := R_retI Q243 (by decide +kernel) rfl
theorem e243_16 {ls : zL} {st : List Value} {w : zW} : Rv 243 16 ls st w = Rv 243 17 ls (.int 2 :: st) w := R_con Q243 (by decide +kernel) rfl (by decide)
theorem e243_17 {ls : zL} {w : zW} {x : Int32} : Rv 243 17 ls [.int x] w = some (.inl (some (.int x)), w) := R_retI Q243 (by decide +kernel) rfl
theorem e243_18 {ls : zL} {st : List Value} {w : zW} : Rv 243 18 ls st w = Rv 243 19 ls (.int 0 :: st) w := R_con Q243 (by decide +kernel) rfl (by decide)
theorem e243_19 {ls : zL} {w : zW} {x : Int32} : Rv 243 19 ls [.int x] w = some (.inl (some (.int x)), w) := R_retI Q243 (by decide +kernel) rfl
/-! MasterPinsLaw.addDoor -/
theorem e244_0 {ls : zL} {st : List Value} {w : zW} : Rv 244 0 ls st w = ldA ls 2 fun x => Rv 244 1 ls (x :: st) w := R_ldA Q244 (by decide +kernel) rfl
theorem e244_1 {ls : zL} {st : List Value} {w : zW} : Rv 244 1 ls st w = Rv 244 2 ls (.int 0 :: st) w := R_con Q244 (by decide +kernel) rfl (by decide)
theorem e244_2 {ls : zL} {st : List Value} {w : zW} : Rv 244 2 ls st w = ldA ls 0 fun x => Rv 244 3 ls (x :: st) w := R_ldA Q244 (by decide +kernel) rfl
theorem e244_3 {ls : zL} {st : List Value} {w : zW} : Rv 244 3 ls st w = ldI ls 1 fun x => Rv 244 4 ls (.int x :: st) w := R_ldI Q244 (by decide +kernel) rfl
theorem x244_4_IllSta {ls : zL} {w : zW} : xh q244 244 4 ls "java/lang/IllegalStateException" w = lst ls 3 none fun l => Rv 244 16 l [] w := R_xh (by decide +kernel) rfl
theorem x244_4_IndtOf {ls : zL} {w : zW} : xh q244 244 4 ls "java/lang/IndexOutOfBoundsException" w = lst ls 3 none fun l => Rv 244 13 l [] w := R_xh (by decide +kernel) rfl
theorem e244_4 {ls : zL} {w : zW} {n1 : Int32} {a0 : Nat} {n2 : Int32} {a3 : Nat} : Rv 244 4 ls [.int n1, .ref a0, .int n2, .ref a3] w = hO w a0 5 (cal (Rv 108 0 [some (.ref a0), some (.int n1)] [] w) (fun v w' => Rv 244 7 ls (vts v [.int n2, .ref a3]) w') (xh q244 244 4 ls)) := R_calXV (z := 876) (r := [.int n2, .ref a3]) Q244 (by decide +kernel) rfl rfl Q108 rfl rfl (by decide)
theorem e244_7 {ls : zL} {st : List Value} {w : zW} {x : Int32} : Rv 244 7 ls (.int x :: st) w = Rv 244 8 ls (.long x.toInt64 :: st) w := R_next Q244 (by decide +kernel) rfl
theorem e244_8 {ls : zL} {st : List Value} {w : zW} {a : Nat} {x : Int32} {y : Int64} : Rv 244 8 ls (.long y :: .int x :: .ref a :: st) w = pL w a x y fun w' => Rv 244 9 ls st w' := R_last Q244 (by decide +kernel)
theorem e244_9 {ls : zL} {st : List Value} {w : zW} : Rv 244 9 ls st w = Rv 244 18 ls st w := R_go Q244 (by decide +kernel) rfl rfl
theorem e244_13 {ls : zL} {st : List Value} {w : zW} : Rv 244 13 ls st w = Rv 244 14 ls (.int 1 :: st) w := R_con Q244 (by decide +kernel) rfl (by decide)
theorem e244_14 {ls : zL} {w : zW} {x : Int32} : Rv 244 14 ls [.int x] w = some (.inl (some (.int x)), w) := R_retI Q244 (by decide +kernel) rfl
theorem e244_16 {ls : zL} {st : List Value} {w : zW} : Rv 244 16 ls st w = Rv 244 17 ls (.int 2 :: st) w := R_con Q244 (by decide +kernel) rfl (by decide)
theorem e244_17 {ls : zL} {w : zW} {x : Int32} : Rv 244 17 ls [.int x] w = some (.inl (some (.int x)), w) := R_retI Q244 (by decide +kernel) rfl
theorem e244_18 {ls : zL} {st : List Value} {w : zW} : Rv 244 18 ls st w = Rv 244 19 ls (.int 0 :: st) w := R_con Q244 (by decide +kernel) rfl (by decide)
theorem e244_19 {ls : zL} {w : zW} {x : Int32} : Rv 244 19 ls [.int x] w = some (.inl (some (.int x)), w) := R_retI Q244 (by decide +kernel) rfl
/-! MasterPinsLaw.pin -/
theorem e245_0 {ls : zL} {st : List Value} {w : zW} : Rv 245 0 ls st w = ldA ls 3 fun x => Rv 245 1 ls (x :: st) w := R_ldA Q245 (by decide +kernel) rfl
theorem e245_1 {ls : zL} {st : List Value} {w : zW} : Rv 245 1 ls st w = Rv 245 2 ls (.int 0 :: st) w := R_con Q245 (by decide +kernel) rfl (by decide)
theorem e245_2 {ls : zL} {st : List Value} {w : zW} : Rv 245 2 ls st w = ldA ls 0 fun x => Rv 245 3 ls (x :: st) w := R_ldA Q245 (by decide +kernel) rfl
theorem e245_3 {ls : zL} {st : List Value} {w : zW} : Rv 245 3 ls st w = ldI ls 1 fun x => Rv 245 4 ls (.int x :: st) w := R_ldI Q245 (by decide +kernel) rfl
theorem e245_4 {ls : zL} {st : List Value} {w : zW} : Rv 245 4 ls st w = ldI ls 2 fun x => Rv 245 5 ls (.int x :: st) w := R_ldI Q245 (by decide +kernel) rfl
theorem x245_5_IndtOf {ls : zL} {w : zW} : xh q245 245 5 ls "java/lang/IndexOutOfBoundsException" w = lst ls 4 none fun l => Rv 245 15 l [] w := R_xh (by decide +kernel) rfl
theorem e245_5 {ls : zL} {w : zW} {n1 : Int32} {n2 : Int32} {a0 : Nat} {n3 : Int32} {a4 : Nat} : Rv 245 5 ls [.int n1, .int n2, .ref a0, .int n3, .ref a4] w = hO w a0 5 (cal (Rv 109 0 [some (.ref a0), some (.int n2), some (.int n1)] [] w) (fun v w' => Rv 245 8 ls (vts v [.int n3, .ref a4]) w') (xh q245 245 5 ls)) := R_calXV (z := 883) (r := [.int n3, .ref a4]) Q245 (by decide +kernel) rfl rfl Q109 rfl rfl (by decide)
theorem e245_8 {ls : zL} {st : List Value} {w : zW} {x : Int32} : Rv 245 8 ls (.int x :: st) w = Rv 245 9 ls (.long x.toInt64 :: st) w := R_next Q245 (by decide +kernel) rfl
theorem e245_9 {ls : zL} {st : List Value} {w : zW} {a : Nat} {x : Int32} {y : Int64} : Rv 245 9 ls (.long y :: .int x :: .ref a :: st) w = pL w a x y fun w' => Rv 245 10 ls st w' := R_last Q245 (by decide +kernel)
theorem e245_10 {ls : zL} {st : List Value} {w : zW} : Rv 245 10 ls st w = Rv 245 17 ls st w := R_go Q245 (by decide +kernel) rfl rfl
theorem e245_15 {ls : zL} {st : List Value} {w : zW} : Rv 245 15 ls st w = Rv 245 16 ls (.int 1 :: st) w := R_con Q245 (by decide +kernel) rfl (by decide)
theorem e245_16 {ls : zL} {w : zW} {x : Int32} : Rv 245 16 ls [.int x] w = some (.inl (some (.int x)), w) := R_retI Q245 (by decide +kernel) rfl
theorem e245_17 {ls : zL} {st : List Value} {w : zW} : Rv 245 17 ls st w = Rv 245 18 ls (.int 0 :: st) w := R_con Q245 (by decide +kernel) rfl (by decide)
theorem e245_18 {ls : zL} {w : zW} {x : Int32} : Rv 245 18 ls [.int x] w = some (.inl (some (.int x)), w) := R_retI Q245 (by decide +kernel) rfl
/-! MasterPinsLaw.fit -/
theorem e246_0 {ls : zL} {st : List Value} {w : zW} : Rv 246 0 ls st w = ldA ls 2 fun x => Rv 246 1 ls (x :: st) w := R_ldA Q246 (by decide +kernel) rfl
theorem e246_1 {ls : zL} {st : List Value} {w : zW} : Rv 246 1 ls st w = Rv 246 2 ls (.int 0 :: st) w := R_con Q246 (by decide +kernel) rfl (by decide)
theorem e246_2 {ls : zL} {st : List Value} {w : zW} : Rv 246 2 ls st w = ldA ls 0 fun x => Rv 246 3 ls (x :: st) w := R_ldA Q246 (by decide +kernel) rfl
theorem e246_3 {ls : zL} {st : List Value} {w : zW} : Rv 246 3 ls st w = ldI ls 1 fun x => Rv 246 4 ls (.int x :: st) w := R_ldI Q246 (by decide +kernel) rfl
theorem x246_4_IndtOf {ls : zL} {w : zW} : xh q246 246 4 ls "java/lang/IndexOutOfBoundsException" w = lst ls 3 none fun l => Rv 246 13 l [] w := R_xh (by decide +kernel) rfl
theorem e246_4 {ls : zL} {w : zW} {n1 : Int32} {a0 : Nat} {n2 : Int32} {a3 : Nat} : Rv 246 4 ls [.int n1, .ref a0, .int n2, .ref a3] w = hO w a0 5 (cal (Rv 110 0 [some (.ref a0), some (.int n1)] [] w) (fun v w' => Rv 246 7 ls (vts v [.int n2, .ref a3]) w') (xh q246 246 4 ls)) := R_calXV (z := 890) (r := [.int n2, .ref a3]) Q246 (by decide +kernel) rfl rfl Q110 rfl rfl (by decide)
theorem e246_7 {ls : zL} {st : List Value} {w : zW} {x : Int32} : Rv 246 7 ls (.int x :: st) w = Rv 246 8 ls (.long x.toInt64 :: st) w := R_next Q246 (by decide +kernel) rfl
theorem e246_8 {ls : zL} {st : List Value} {w : zW} {a : Nat} {x : Int32} {y : Int64} : Rv 246 8 ls (.long y :: .int x :: .ref a :: st) w = pL w a x y fun w' => Rv 246 9 ls st w' := R_last Q246 (by decide +kernel)
theorem e246_9 {ls : zL} {st : List Value} {w : zW} : Rv 246 9 ls st w = Rv 246 15 ls st w := R_go Q246 (by decide +kernel) rfl rfl
theorem e246_13 {ls : zL} {st : List Value} {w : zW} : Rv 246 13 ls st w = Rv 246 14 ls (.int 1 :: st) w := R_con Q246 (by decide +kernel) rfl (by decide)
theorem e246_14 {ls : zL} {w : zW} {x : Int32} : Rv 246 14 ls [.int x] w = some (.inl (some (.int x)), w) := R_retI Q246 (by decide +kernel) rfl
theorem e246_15 {ls : zL} {st : List Value} {w : zW} : Rv 246 15 ls st w = Rv 246 16 ls (.int 0 :: st) w := R_con Q246 (by decide +kernel) rfl (by decide)
theorem e246_16 {ls : zL} {w : zW} {x : Int32} : Rv 246 16 ls [.int x] w = some (.inl (some (.int x)), w) := R_retI Q246 (by decide +kernel) rfl
/-! MasterPinsLaw.setOwner -/
theorem e247_0 {ls : zL} {st : List Value} {w : zW} : Rv 247 0 ls st w = ldA ls 3 fun x => Rv 247 1 ls (x :: st) w := R_ldA Q247 (by decide +kernel) rfl
theorem e247_1 {ls : zL} {st : List Value} {w : zW} : Rv 247 1 ls st w = Rv 247 2 ls (.int 0 :: st) w := R_con Q247 (by decide +kernel) rfl (by decide)
theorem e247_2 {ls : zL} {st : List Value} {w : zW} : Rv 247 2 ls st w = ldA ls 0 fun x => Rv 247 3 ls (x :: st) w := R_ldA Q247 (by decide +kernel) rfl
theorem e247_3 {ls : zL} {st : List Value} {w : zW} : Rv 247 3 ls st w = ldI ls 1 fun x => Rv 247 4 ls (.int x :: st) w := R_ldI Q247 (by decide +kernel) rfl
theorem e247_4 {ls : zL} {st : List Value} {w : zW} : Rv 247 4 ls st w = ldI ls 2 fun x => Rv 247 5 ls (.int x :: st) w := R_ldI Q247 (by decide +kernel) rfl
theorem x247_5_IndtOf {ls : zL} {w : zW} : xh q247 247 5 ls "java/lang/IndexOutOfBoundsException" w = lst ls 4 none fun l => Rv 247 15 l [] w := R_xh (by decide +kernel) rfl
theorem e247_5 {ls : zL} {w : zW} {n1 : Int32} {n2 : Int32} {a0 : Nat} {n3 : Int32} {a4 : Nat} : Rv 247 5 ls [.int n1, .int n2, .ref a0, .int n3, .ref a4] w = hO w a0 5 (cal (Rv 112 0 [some (.ref a0), some (.int n2), some (.int n1)] [] w) (fun v w' => Rv 247 8 ls (vts v [.int n3, .ref a4]) w') (xh q247 247 5 ls)) := R_calXV (z := 897) (r := [.int n3, .ref a4]) Q247 (by decide +kernel) rfl rfl Q112 rfl rfl (by decide)
theorem e247_8 {ls : zL} {st : List Value} {w : zW} {x : Int32} : Rv 247 8 ls (.int x :: st) w = Rv 247 9 ls (.long x.toInt64 :: st) w := R_next Q247 (by decide +kernel) rfl
theorem e247_9 {ls : zL} {st : List Value} {w : zW} {a : Nat} {x : Int32} {y : Int64} : Rv 247 9 ls (.long y :: .int x :: .ref a :: st) w = pL w a x y fun w' => Rv 247 10 ls st w' := R_last Q247 (by decide +kernel)
theorem e247_10 {ls : zL} {st : List Value} {w : zW} : Rv 247 10 ls st w = Rv 247 17 ls st w := R_go Q247 (by decide +kernel) rfl rfl
theorem e247_15 {ls : zL} {st : List Value} {w : zW} : Rv 247 15 ls st w = Rv 247 16 ls (.int 1 :: st) w := R_con Q247 (by decide +kernel) rfl (by decide)
theorem e247_16 {ls : zL} {w : zW} {x : Int32} : Rv 247 16 ls [.int x] w = some (.inl (some (.int x)), w) := R_retI Q247 (by decide +kernel) rfl
theorem e247_17 {ls : zL} {st : List Value} {w : zW} : Rv 247 17 ls st w = Rv 247 18 ls (.int 0 :: st) w := R_con Q247 (by decide +kernel) rfl (by decide)
theorem e247_18 {ls : zL} {w : zW} {x : Int32} : Rv 247 18 ls [.int x] w = some (.inl (some (.int x)), w) := R_retI Q247 (by decide +kernel) rfl
/-! MasterPinsLaw.key -/
theorem e248_0 {ls : zL} {st : List Value} {w : zW} : Rv 248 0 ls st w = ldA ls 3 fun x => Rv 248 1 ls (x :: st) w := R_ldA Q248 (by decide +kernel) rfl
theorem e248_1 {ls : zL} {st : List Value} {w : zW} : Rv 248 1 ls st w = Rv 248 2 ls (.int 0 :: st) w := R_con Q248 (by decide +kernel) rfl (by decide)
theorem e248_2 {ls : zL} {st : List Value} {w : zW} : Rv 248 2 ls st w = ldA ls 0 fun x => Rv 248 3 ls (x :: st) w := R_ldA Q248 (by decide +kernel) rfl
theorem e248_3 {ls : zL} {st : List Value} {w : zW} : Rv 248 3 ls st w = ldI ls 1 fun x => Rv 248 4 ls (.int x :: st) w := R_ldI Q248 (by decide +kernel) rfl
theorem e248_4 {ls : zL} {st : List Value} {w : zW} : Rv 248 4 ls st w = ldI ls 2 fun x => Rv 248 5 ls (.int x :: st) w := R_ldI Q248 (by decide +kernel) rfl
theorem x248_5_IllArg {ls : zL} {w : zW} : xh q248 248 5 ls "java/lang/IllegalArgumentException" w = lst ls 4 none fun l => Rv 248 19 l [] w := R_xh (by decide +kernel) rfl
theorem x248_5_IndtOf {ls : zL} {w : zW} : xh q248 248 5 ls "java/lang/IndexOutOfBoundsException" w = lst ls 4 none fun l => Rv 248 15 l [] w := R_xh (by decide +kernel) rfl
theorem e248_5 {ls : zL} {w : zW} {n1 : Int32} {n2 : Int32} {a0 : Nat} {n3 : Int32} {a4 : Nat} : Rv 248 5 ls [.int n1, .int n2, .ref a0, .int n3, .ref a4] w = hO w a0 5 (cal (Rv 113 0 [some (.ref a0), some (.int n2), some (.int n1)] [] w) (fun v w' => Rv 248 8 ls (vts v [.int n3, .ref a4]) w') (xh q248 248 5 ls)) := R_calXV (z := 908) (r := [.int n3, .ref a4]) Q248 (by decide +kernel) rfl rfl Q113 rfl rfl (by decide)
theorem e248_8 {ls : zL} {st : List Value} {w : zW} {x : Int32} : Rv 248 8 ls (.int x :: st) w = Rv 248 9 ls (.long x.toInt64 :: st) w := R_next Q248 (by decide +kernel) rfl
theorem e248_9 {ls : zL} {st : List Value} {w : zW} {a : Nat} {x : Int32} {y : Int64} : Rv 248 9 ls (.long y :: .int x :: .ref a :: st) w = pL w a x y fun w' => Rv 248 10 ls st w' := R_last Q248 (by decide +kernel)
theorem e248_10 {ls : zL} {st : List Value} {w : zW} : Rv 248 10 ls st w = Rv 248 21 ls st w := R_go Q248 (by decide +kernel) rfl rfl
theorem e248_15 {ls : zL} {st : List Value} {w : zW} : Rv 248 15 ls st w = Rv 248 16 ls (.int 1 :: st) w := R_con Q248 (by decide +kernel) rfl (by decide)
theorem e248_16 {ls : zL} {w : zW} {x : Int32} : Rv 248 16 ls [.int x] w = some (.inl (some (.int x)), w) := R_retI Q248 (by decide +kernel) rfl
theorem e248_19 {ls : zL} {st : List Value} {w : zW} : Rv 248 19 ls st w = Rv 248 20 ls (.int 2 :: st) w := R_con Q248 (by decide +kernel) rfl (by decide)
theorem e248_20 {ls : zL} {w : zW} {x : Int32} : Rv 248 20 ls [.int x] w = some (.inl (some (.int x)), w) := R_retI Q248 (by decide +kernel) rfl
theorem e248_21 {ls : zL} {st : List Value} {w : zW} : Rv 248 21 ls st w = Rv 248 22 ls (.int 0 :: st) w := R_con Q248 (by decide +kernel) rfl (by decide)
theorem e248_22 {ls : zL} {w : zW} {x : Int32} : Rv 248 22 ls [.int x] w = some (.inl (some (.int x)), w) := R_retI Q248 (by decide +kernel) rfl
/-! MasterPinsLaw.door -/
theorem e249_0 {ls : zL} {st : List Value} {w : zW} : Rv 249 0 ls st w = ldA ls 3 fun x => Rv 249 1 ls (x :: st) w := R_ldA Q249 (by decide +kernel) rfl
theorem e249_1 {ls : zL} {st : List Value} {w : zW} : Rv 249 1 ls st w = Rv 249 2 ls (.int 0 :: st) w := R_con Q249 (by decide +kernel) rfl (by decide)
theorem e249_2 {ls : zL} {st : List Value} {w : zW} : Rv 249 2 ls st w = ldA ls 0 fun x => Rv 249 3 ls (x :: st) w := R_ldA Q249 (by decide +kernel) rfl
theorem e249_3 {ls : zL} {st : List Value} {w : zW} : Rv 249 3 ls st w = ldI ls 1 fun x => Rv 249 4 ls (.int x :: st) w := R_ldI Q249 (by decide +kernel) rfl
theorem e249_4 {ls : zL} {st : List Value} {w : zW} : Rv 249 4 ls st w = ldI ls 2 fun x => Rv 249 5 ls (.int x :: st) w := R_ldI Q249 (by decide +kernel) rfl
theorem x249_5_IllArg {ls : zL} {w : zW} : xh q249 249 5 ls "java/lang/IllegalArgumentException" w = lst ls 4 none fun l => Rv 249 19 l [] w := R_xh (by decide +kernel) rfl
theorem x249_5_IndtOf {ls : zL} {w : zW} : xh q249 249 5 ls "java/lang/IndexOutOfBoundsException" w = lst ls 4 none fun l => Rv 249 15 l [] w := R_xh (by decide +kernel) rfl
theorem e249_5 {ls : zL} {w : zW} {n1 : Int32} {n2 : Int32} {a0 : Nat} {n3 : Int32} {a4 : Nat} : Rv 249 5 ls [.int n1, .int n2, .ref a0, .int n3, .ref a4] w = hO w a0 5 (cal (Rv 114 0 [some (.ref a0), some (.int n2), some (.int n1)] [] w) (fun v w' => Rv 249 8 ls (vts v [.int n3, .ref a4]) w') (xh q249 249 5 ls)) := R_calXV (z := 922) (r := [.int n3, .ref a4]) Q249 (by decide +kernel) rfl rfl Q114 rfl rfl (by decide)
theorem e249_8 {ls : zL} {st : List Value} {w : zW} {x : Int32} : Rv 249 8 ls (.int x :: st) w = Rv 249 9 ls (.long x.toInt64 :: st) w := R_next Q249 (by decide +kernel) rfl
theorem e249_9 {ls : zL} {st : List Value} {w : zW} {a : Nat} {x : Int32} {y : Int64} : Rv 249 9 ls (.long y :: .int x :: .ref a :: st) w = pL w a x y fun w' => Rv 249 10 ls st w' := R_last Q249 (by decide +kernel)
theorem e249_10 {ls : zL} {st : List Value} {w : zW} : Rv 249 10 ls st w = Rv 249 21 ls st w := R_go Q249 (by decide +kernel) rfl rfl
theorem e249_15 {ls : zL} {st : List Value} {w : zW} : Rv 249 15 ls st w = Rv 249 16 ls (.int 1 :: st) w := R_con Q249 (by decide +kernel) rfl (by decide)
theorem e249_16 {ls : zL} {w : zW} {x : Int32} : Rv 249 16 ls [.int x] w = some (.inl (some (.int x)), w) := R_retI Q249 (by decide +kernel) rfl
theorem e249_19 {ls : zL} {st : List Value} {w : zW} : Rv 249 19 ls st w = Rv 249 20 ls (.int 2 :: st) w := R_con Q249 (by decide +kernel) rfl (by decide)
theorem e249_20 {ls : zL} {w : zW} {x : Int32} : Rv 249 20 ls [.int x] w = some (.inl (some (.int x)), w) := R_retI Q249 (by decide +kernel) rfl
theorem e249_21 {ls : zL} {st : List Value} {w : zW} : Rv 249 21 ls st w = Rv 249 22 ls (.int 0 :: st) w := R_con Q249 (by decide +kernel) rfl (by decide)
theorem e249_22 {ls : zL} {w : zW} {x : Int32} : Rv 249 22 ls [.int x] w = some (.inl (some (.int x)), w) := R_retI Q249 (by decide +kernel) rfl
/-! MasterPinsLaw.pins -/
theorem e250_0 {ls : zL} {st : List Value} {w : zW} : Rv 250 0 ls st w = ldA ls 3 fun x => Rv 250 1 ls (x :: st) w := R_ldA Q250 (by decide +kernel) rfl
theorem e250_1 {ls : zL} {st : List Value} {w : zW} : Rv 250 1 ls st w = Rv 250 2 ls (.int 0 :: st) w := R_con Q250 (by decide +kernel) rfl (by decide)
theorem e250_2 {ls : zL} {st : List Value} {w : zW} : Rv 250 2 ls st w = ldA ls 0 fun x => Rv 250 3 ls (x :: st) w := R_ldA Q250 (by decide +kernel) rfl
theorem e250_3 {ls : zL} {st : List Value} {w : zW} : Rv 250 3 ls st w = ldI ls 1 fun x => Rv 250 4 ls (.int x :: st) w := R_ldI Q250 (by decide +kernel) rfl
theorem e250_4 {ls : zL} {st : List Value} {w : zW} : Rv 250 4 ls st w = ldI ls 2 fun x => Rv 250 5 ls (.int x :: st) w := R_ldI Q250 (by decide +kernel) rfl
theorem x250_5_IndtOf {ls : zL} {w : zW} : xh q250 250 5 ls "java/lang/IndexOutOfBoundsException" w = lst ls 4 none fun l => Rv 250 15 l [] w := R_xh (by decide +kernel) rfl
theorem e250_5 {ls : zL} {w : zW} {n1 : Int32} {n2 : Int32} {a0 : Nat} {n3 : Int32} {a4 : Nat} : Rv 250 5 ls [.int n1, .int n2, .ref a0, .int n3, .ref a4] w = hO w a0 5 (cal (Rv 115 0 [some (.ref a0), some (.int n2), some (.int n1)] [] w) (fun v w' => Rv 250 8 ls (vts v [.int n3, .ref a4]) w') (xh q250 250 5 ls)) := R_calXV (z := 929) (r := [.int n3, .ref a4]) Q250 (by decide +kernel) rfl rfl Q115 rfl rfl (by decide)
theorem e250_8 {ls : zL} {st : List Value} {w : zW} {x : Int32} : Rv 250 8 ls (.int x :: st) w = Rv 250 9 ls (.long x.toInt64 :: st) w := R_next Q250 (by decide +kernel) rfl
theorem e250_9 {ls : zL} {st : List Value} {w : zW} {a : Nat} {x : Int32} {y : Int64} : Rv 250 9 ls (.long y :: .int x :: .ref a :: st) w = pL w a x y fun w' => Rv 250 10 ls st w' := R_last Q250 (by decide +kernel)
theorem e250_10 {ls : zL} {st : List Value} {w : zW} : Rv 250 10 ls st w = Rv 250 17 ls st w := R_go Q250 (by decide +kernel) rfl rfl
theorem e250_15 {ls : zL} {st : List Value} {w : zW} : Rv 250 15 ls st w = Rv 250 16 ls (.int 1 :: st) w := R_con Q250 (by decide +kernel) rfl (by decide)
theorem e250_16 {ls : zL} {w : zW} {x : Int32} : Rv 250 16 ls [.int x] w = some (.inl (some (.int x)), w) := R_retI Q250 (by decide +kernel) rfl
theorem e250_17 {ls : zL} {st : List Value} {w : zW} : Rv 250 17 ls st w = Rv 250 18 ls (.int 0 :: st) w := R_con Q250 (by decide +kernel) rfl (by decide)
theorem e250_18 {ls : zL} {w : zW} {x : Int32} : Rv 250 18 ls [.int x] w = some (.inl (some (.int x)), w) := R_retI Q250 (by decide +kernel) rfl
/-! MasterPinsLaw.whole -/
theorem e251_0 {ls : zL} {st : List Value} {w : zW} : Rv 251 0 ls st w = ldA ls 2 fun x => Rv 251 1 ls (x :: st) w := R_ldA Q251 (by decide +kernel) rfl
theorem e251_1 {ls : zL} {st : List Value} {w : zW} : Rv 251 1 ls st w = Rv 251 2 ls (.int 0 :: st) w := R_con Q251 (by decide +kernel) rfl (by decide)
theorem e251_2 {ls : zL} {st : List Value} {w : zW} : Rv 251 2 ls st w = ldA ls 0 fun x => Rv 251 3 ls (x :: st) w := R_ldA Q251 (by decide +kernel) rfl
theorem e251_3 {ls : zL} {st : List Value} {w : zW} : Rv 251 3 ls st w = ldI ls 1 fun x => Rv 251 4 ls (.int x :: st) w := R_ldI Q251 (by decide +kernel) rfl
theorem x251_4_IllArg {ls : zL} {w : zW} : xh q251 251 4 ls "java/lang/IllegalArgumentException" w = lst ls 3 none fun l => Rv 251 13 l [] w := R_xh (by decide +kernel) rfl
theorem e251_4 {ls : zL} {w : zW} {n1 : Int32} {a0 : Nat} {n2 : Int32} {a3 : Nat} : Rv 251 4 ls [.int n1, .ref a0, .int n2, .ref a3] w = hO w a0 5 (cal (Rv 116 0 [some (.ref a0), some (.int n1)] [] w) (fun v w' => Rv 251 7 ls (vts v [.int n2, .ref a3]) w') (xh q251 251 4 ls)) := R_calXV (z := 940) (r := [.int n2, .ref a3]) Q251 (by decide +kernel) rfl rfl Q116 rfl rfl (by decide)
theorem e251_7 {ls : zL} {st : List Value} {w : zW} {x : Int32} : Rv 251 7 ls (.int x :: st) w = Rv 251 8 ls (.long x.toInt64 :: st) w := R_next Q251 (by decide +kernel) rfl
theorem e251_8 {ls : zL} {st : List Value} {w : zW} {a : Nat} {x : Int32} {y : Int64} : Rv 251 8 ls (.long y :: .int x :: .ref a :: st) w = pL w a x y fun w' => Rv 251 9 ls st w' := R_last Q251 (by decide +kernel)
theorem e251_9 {ls : zL} {st : List Value} {w : zW} : Rv 251 9 ls st w = Rv 251 15 ls st w := R_go Q251 (by decide +kernel) rfl rfl
theorem e251_13 {ls : zL} {st : List Value} {w : zW} : Rv 251 13 ls st w = Rv 251 14 ls (.int 1 :: st) w := R_con Q251 (by decide +kernel) rfl (by decide)
theorem e251_14 {ls : zL} {w : zW} {x : Int32} : Rv 251 14 ls [.int x] w = some (.inl (some (.int x)), w) := R_retI Q251 (by decide +kernel) rfl
theorem e251_15 {ls : zL} {st : List Value} {w : zW} : Rv 251 15 ls st w = Rv 251 16 ls (.int 0 :: st) w := R_con Q251 (by decide +kernel) rfl (by decide)
theorem e251_16 {ls : zL} {w : zW} {x : Int32} : Rv 251 16 ls [.int x] w = some (.inl (some (.int x)), w) := R_retI Q251 (by decide +kernel) rfl
/-! MasterPinsLaw.work -/
theorem e252_0 {ls : zL} {st : List Value} {w : zW} : Rv 252 0 ls st w = ldA ls 3 fun x => Rv 252 1 ls (x :: st) w := R_ldA Q252 (by decide +kernel) rfl
theorem e252_1 {ls : zL} {st : List Value} {w : zW} : Rv 252 1 ls st w = Rv 252 2 ls (.int 0 :: st) w := R_con Q252 (by decide +kernel) rfl (by decide)
theorem e252_2 {ls : zL} {st : List Value} {w : zW} : Rv 252 2 ls st w = ldA ls 0 fun x => Rv 252 3 ls (x :: st) w := R_ldA Q252 (by decide +kernel) rfl
theorem e252_3 {ls : zL} {st : List Value} {w : zW} : Rv 252 3 ls st w = ldI ls 1 fun x => Rv 252 4 ls (.int x :: st) w := R_ldI Q252 (by decide +kernel) rfl
theorem e252_4 {ls : zL} {st : List Value} {w : zW} : Rv 252 4 ls st w = ldI ls 2 fun x => Rv 252 5 ls (.int x :: st) w := R_ldI Q252 (by decide +kernel) rfl
theorem x252_5_IllArg {ls : zL} {w : zW} : xh q252 252 5 ls "java/lang/IllegalArgumentException" w = lst ls 4 none fun l => Rv 252 15 l [] w := R_xh (by decide +kernel) rfl
theorem e252_5 {ls : zL} {w : zW} {n1 : Int32} {n2 : Int32} {a0 : Nat} {n3 : Int32} {a4 : Nat} : Rv 252 5 ls [.int n1, .int n2, .ref a0, .int n3, .ref a4] w = hO w a0 5 (cal (Rv 117 0 [some (.ref a0), some (.int n2), some (.int n1)] [] w) (fun v w' => Rv 252 8 ls (vts v [.int n3, .ref a4]) w') (xh q252 252 5 ls)) := R_calXV (z := 947) (r := [.int n3, .ref a4]) Q252 (by decide +kernel) rfl rfl Q117 rfl rfl (by decide)
theorem e252_8 {ls : zL} {st : List Value} {w : zW} {x : Int32} : Rv 252 8 ls (.int x :: st) w = Rv 252 9 ls (.long x.toInt64 :: st) w := R_next Q252 (by decide +kernel) rfl
theorem e252_9 {ls : zL} {st : List Value} {w : zW} {a : Nat} {x : Int32} {y : Int64} : Rv 252 9 ls (.long y :: .int x :: .ref a :: st) w = pL w a x y fun w' => Rv 252 10 ls st w' := R_last Q252 (by decide +kernel)
theorem e252_10 {ls : zL} {st : List Value} {w : zW} : Rv 252 10 ls st w = Rv 252 17 ls st w := R_go Q252 (by decide +kernel) rfl rfl
theorem e252_15 {ls : zL} {st : List Value} {w : zW} : Rv 252 15 ls st w = Rv 252 16 ls (.int 1 :: st) w := R_con Q252 (by decide +kernel) rfl (by decide)
theorem e252_16 {ls : zL} {w : zW} {x : Int32} : Rv 252 16 ls [.int x] w = some (.inl (some (.int x)), w) := R_retI Q252 (by decide +kernel) rfl
theorem e252_17 {ls : zL} {st : List Value} {w : zW} : Rv 252 17 ls st w = Rv 252 18 ls (.int 0 :: st) w := R_con Q252 (by decide +kernel) rfl (by decide)
theorem e252_18 {ls : zL} {w : zW} {x : Int32} : Rv 252 18 ls [.int x] w = some (.inl (some (.int x)), w) := R_retI Q252 (by decide +kernel) rfl
/-! MasterPinsLaw.byCode -/
theorem e253_0 {ls : zL} {st : List Value} {w : zW} : Rv 253 0 ls st w = ldA ls 2 fun x => Rv 253 1 ls (x :: st) w := R_ldA Q253 (by decide +kernel) rfl
theorem e253_1 {ls : zL} {st : List Value} {w : zW} : Rv 253 1 ls st w = Rv 253 2 ls (.int 0 :: st) w := R_con Q253 (by decide +kernel) rfl (by decide)
theorem e253_2 {ls : zL} {st : List Value} {w : zW} : Rv 253 2 ls st w = ldA ls 0 fun x => Rv 253 3 ls (x :: st) w := R_ldA Q253 (by decide +kernel) rfl
theorem e253_3 {ls : zL} {st : List Value} {w : zW} : Rv 253 3 ls st w = ldI ls 1 fun x => Rv 253 4 ls (.int x :: st) w := R_ldI Q253 (by decide +kernel) rfl
theorem x253_4_IllArg {ls : zL} {w : zW} : xh q253 253 4 ls "java/lang/IllegalArgumentException" w = lst ls 3 none fun l => Rv 253 13 l [] w := R_xh (by decide +kernel) rfl
theorem e253_4 {ls : zL} {w : zW} {n1 : Int32} {a0 : Nat} {n2 : Int32} {a3 : Nat} : Rv 253 4 ls [.int n1, .ref a0, .int n2, .ref a3] w = hO w a0 5 (cal (Rv 118 0 [some (.ref a0), some (.int n1)] [] w) (fun v w' => Rv 253 7 ls (vts v [.int n2, .ref a3]) w') (xh q253 253 4 ls)) := R_calXV (z := 957) (r := [.int n2, .ref a3]) Q253 (by decide +kernel) rfl rfl Q118 rfl rfl (by decide)
theorem e253_7 {ls : zL} {st : List Value} {w : zW} {x : Int32} : Rv 253 7 ls (.int x :: st) w = Rv 253 8 ls (.long x.toInt64 :: st) w := R_next Q253 (by decide +kernel) rfl
theorem e253_8 {ls : zL} {st : List Value} {w : zW} {a : Nat} {x : Int32} {y : Int64} : Rv 253 8 ls (.long y :: .int x :: .ref a :: st) w = pL w a x y fun w' => Rv 253 9 ls st w' := R_last Q253 (by decide +kernel)
theorem e253_9 {ls : zL} {st : List Value} {w : zW} : Rv 253 9 ls st w = Rv 253 15 ls st w := R_go Q253 (by decide +kernel) rfl rfl
theorem e253_13 {ls : zL} {st : List Value} {w : zW} : Rv 253 13 ls st w = Rv 253 14 ls (.int 1 :: st) w := R_con Q253 (by decide +kernel) rfl (by decide)
theorem e253_14 {ls : zL} {w : zW} {x : Int32} : Rv 253 14 ls [.int x] w = some (.inl (some (.int x)), w) := R_retI Q253 (by decide +kernel) rfl
theorem e253_15 {ls : zL} {st : List Value} {w : zW} : Rv 253 15 ls st w = Rv 253 16 ls (.int 0 :: st) w := R_con Q253 (by decide +kernel) rfl (by decide)
theorem e253_16 {ls : zL} {w : zW} {x : Int32} : Rv 253 16 ls [.int x] w = some (.inl (some (.int x)), w) := R_retI Q253 (by decide +kernel) rfl
/-! MasterPinsLaw.reason -/
theorem e254_0 {ls : zL} {st : List Value} {w : zW} : Rv 254 0 ls st w = ldA ls 3 fun x => Rv 254 1 ls (x :: st) w := R_ldA Q254 (by decide +kernel) rfl
theorem e254_1 {ls : zL} {st : List Value} {w : zW} : Rv 254 1 ls st w = Rv 254 2 ls (.int 0 :: st) w := R_con Q254 (by decide +kernel) rfl (by decide)
theorem e254_2 {ls : zL} {st : List Value} {w : zW} : Rv 254 2 ls st w = ldA ls 0 fun x => Rv 254 3 ls (x :: st) w := R_ldA Q254 (by decide +kernel) rfl
theorem e254_3 {ls : zL} {st : List Value} {w : zW} : Rv 254 3 ls st w = ldI ls 1 fun x => Rv 254 4 ls (.int x :: st) w := R_ldI Q254 (by decide +kernel) rfl
theorem e254_4 {ls : zL} {st : List Value} {w : zW} : Rv 254 4 ls st w = ldI ls 2 fun x => Rv 254 5 ls (.int x :: st) w := R_ldI Q254 (by decide +kernel) rfl
theorem x254_5_IndtOf {ls : zL} {w : zW} : xh q254 254 5 ls "java/lang/IndexOutOfBoundsException" w = lst ls 4 none fun l => Rv 254 15 l [] w := R_xh (by decide +kernel) rfl
theorem e254_5 {ls : zL} {w : zW} {n1 : Int32} {n2 : Int32} {a0 : Nat} {n3 : Int32} {a4 : Nat} : Rv 254 5 ls [.int n1, .int n2, .ref a0, .int n3, .ref a4] w = hO w a0 5 (cal (Rv 119 0 [some (.ref a0), some (.int n2), some (.int n1)] [] w) (fun v w' => Rv 254 8 ls (vts v [.int n3, .ref a4]) w') (xh q254 254 5 ls)) := R_calXV (z := 964) (r := [.int n3, .ref a4]) Q254 (by decide +kernel) rfl rfl Q119 rfl rfl (by decide)
theorem e254_8 {ls : zL} {st : List Value} {w : zW} {x : Int32} : Rv 254 8 ls (.int x :: st) w = Rv 254 9 ls (.long x.toInt64 :: st) w := R_next Q254 (by decide +kernel) rfl
theorem e254_9 {ls : zL} {st : List Value} {w : zW} {a : Nat} {x : Int32} {y : Int64} : Rv 254 9 ls (.long y :: .int x :: .ref a :: st) w = pL w a x y fun w' => Rv 254 10 ls st w' := R_last Q254 (by decide +kernel)
theorem e254_10 {ls : zL} {st : List Value} {w : zW} : Rv 254 10 ls st w = Rv 254 17 ls st w := R_go Q254 (by decide +kernel) rfl rfl
theorem e254_15 {ls : zL} {st : List Value} {w : zW} : Rv 254 15 ls st w = Rv 254 16 ls (.int 1 :: st) w := R_con Q254 (by decide +kernel) rfl (by decide)
theorem e254_16 {ls : zL} {w : zW} {x : Int32} : Rv 254 16 ls [.int x] w = some (.inl (some (.int x)), w) := R_retI Q254 (by decide +kernel) rfl
theorem e254_17 {ls : zL} {st : List Value} {w : zW} : Rv 254 17 ls st w = Rv 254 18 ls (.int 0 :: st) w := R_con Q254 (by decide +kernel) rfl (by decide)
theorem e254_18 {ls : zL} {w : zW} {x : Int32} : Rv 254 18 ls [.int x] w = some (.inl (some (.int x)), w) := R_retI Q254 (by decide +kernel) rfl
/-! MasterPinsLaw.betterCode -/
theorem e255_0 {ls : zL} {st : List Value} {w : zW} : Rv 255 0 ls st w = ldA ls 2 fun x => Rv 255 1 ls (x :: st) w := R_ldA Q255 (by decide +kernel) rfl
theorem e255_1 {ls : zL} {st : List Value} {w : zW} : Rv 255 1 ls st w = Rv 255 2 ls (.int 0 :: st) w := R_con Q255 (by decide +kernel) rfl (by decide)
theorem e255_2 {ls : zL} {st : List Value} {w : zW} : Rv 255 2 ls st w = ldA ls 0 fun x => Rv 255 3 ls (x :: st) w := R_ldA Q255 (by decide +kernel) rfl
theorem e255_3 {ls : zL} {st : List Value} {w : zW} : Rv 255 3 ls st w = ldI ls 1 fun x => Rv 255 4 ls (.int x :: st) w := R_ldI Q255 (by decide +kernel) rfl
theorem x255_4_IndtOf {ls : zL} {w : zW} : xh q255 255 4 ls "java/lang/IndexOutOfBoundsException" w = lst ls 3 none fun l => Rv 255 13 l [] w := R_xh (by decide +kernel) rfl
theorem e255_4 {ls : zL} {w : zW} {n1 : Int32} {a0 : Nat} {n2 : Int32} {a3 : Nat} : Rv 255 4 ls [.int n1, .ref a0, .int n2, .ref a3] w = hO w a0 5 (cal (Rv 121 0 [some (.ref a0), some (.int n1)] [] w) (fun v w' => Rv 255 7 ls (vts v [.int n2, .ref a3]) w') (xh q255 255 4 ls)) := R_calXV (z := 976) (r := [.int n2, .ref a3]) Q255 (by decide +kernel) rfl rfl Q121 rfl rfl (by decide)
theorem e255_7 {ls : zL} {st : List Value} {w : zW} {x : Int32} : Rv 255 7 ls (.int x :: st) w = Rv 255 8 ls (.long x.toInt64 :: st) w := R_next Q255 (by decide +kernel) rfl
theorem e255_8 {ls : zL} {st : List Value} {w : zW} {a : Nat} {x : Int32} {y : Int64} : Rv 255 8 ls (.long y :: .int x :: .ref a :: st) w = pL w a x y fun w' => Rv 255 9 ls st w' := R_last Q255 (by decide +kernel)
theorem e255_9 {ls : zL} {st : List Value} {w : zW} : Rv 255 9 ls st w = Rv 255 15 ls st w := R_go Q255 (by decide +kernel) rfl rfl
theorem e255_13 {ls : zL} {st : List Value} {w : zW} : Rv 255 13 ls st w = Rv 255 14 ls (.int 1 :: st) w := R_con Q255 (by decide +kernel) rfl (by decide)
theorem e255_14 {ls : zL} {w : zW} {x : Int32} : Rv 255 14 ls [.int x] w = some (.inl (some (.int x)), w) := R_retI Q255 (by decide +kernel) rfl
theorem e255_15 {ls : zL} {st : List Value} {w : zW} : Rv 255 15 ls st w = Rv 255 16 ls (.int 0 :: st) w := R_con Q255 (by decide +kernel) rfl (by decide)
theorem e255_16 {ls : zL} {w : zW} {x : Int32} : Rv 255 16 ls [.int x] w = some (.inl (some (.int x)), w) := R_retI Q255 (by decide +kernel) rfl
/-! MasterPinsLaw.pinsIfTurned -/
theorem e256_0 {ls : zL} {st : List Value} {w : zW} : Rv 256 0 ls st w = ldA ls 2 fun x => Rv 256 1 ls (x :: st) w := R_ldA Q256 (by decide +kernel) rfl
theorem e256_1 {ls : zL} {st : List Value} {w : zW} : Rv 256 1 ls st w = Rv 256 2 ls (.int 0 :: st) w := R_con Q256 (by decide +kernel) rfl (by decide)
theorem e256_2 {ls : zL} {st : List Value} {w : zW} : Rv 256 2 ls st w = ldA ls 0 fun x => Rv 256 3 ls (x :: st) w := R_ldA Q256 (by decide +kernel) rfl
theorem e256_3 {ls : zL} {st : List Value} {w : zW} : Rv 256 3 ls st w = ldI ls 1 fun x => Rv 256 4 ls (.int x :: st) w := R_ldI Q256 (by decide +kernel) rfl
theorem x256_4_IndtOf {ls : zL} {w : zW} : xh q256 256 4 ls "java/lang/IndexOutOfBoundsException" w = lst ls 3 none fun l => Rv 256 13 l [] w := R_xh (by decide +kernel) rfl
theorem e256_4 {ls : zL} {w : zW} {n1 : Int32} {a0 : Nat} {n2 : Int32} {a3 : Nat} : Rv 256 4 ls [.int n1, .ref a0, .int n2, .ref a3] w = hO w a0 5 (cal (Rv 122 0 [some (.ref a0), some (.int n1)] [] w) (fun v w' => Rv 256 7 ls (vts v [.int n2, .ref a3]) w') (xh q256 256 4 ls)) := R_calXV (z := 1010) (r := [.int n2, .ref a3]) Q256 (by decide +kernel) rfl rfl Q122 rfl rfl (by decide)
theorem e256_7 {ls : zL} {st : List Value} {w : zW} {x : Int32} : Rv 256 7 ls (.int x :: st) w = Rv 256 8 ls (.long x.toInt64 :: st) w := R_next Q256 (by decide +kernel) rfl
theorem e256_8 {ls : zL} {st : List Value} {w : zW} {a : Nat} {x : Int32} {y : Int64} : Rv 256 8 ls (.long y :: .int x :: .ref a :: st) w = pL w a x y fun w' => Rv 256 9 ls st w' := R_last Q256 (by decide +kernel)
theorem e256_9 {ls : zL} {st : List Value} {w : zW} : Rv 256 9 ls st w = Rv 256 15 ls st w := R_go Q256 (by decide +kernel) rfl rfl
theorem e256_13 {ls : zL} {st : List Value} {w : zW} : Rv 256 13 ls st w = Rv 256 14 ls (.int 1 :: st) w := R_con Q256 (by decide +kernel) rfl (by decide)
theorem e256_14 {ls : zL} {w : zW} {x : Int32} : Rv 256 14 ls [.int x] w = some (.inl (some (.int x)), w) := R_retI Q256 (by decide +kernel) rfl
theorem e256_15 {ls : zL} {st : List Value} {w : zW} : Rv 256 15 ls st w = Rv 256 16 ls (.int 0 :: st) w := R_con Q256 (by decide +kernel) rfl (by decide)
theorem e256_16 {ls : zL} {w : zW} {x : Int32} : Rv 256 16 ls [.int x] w = some (.inl (some (.int x)), w) := R_retI Q256 (by decide +kernel) rfl
/-! MasterPinsLaw.pinsIfCut -/
theorem e257_0 {ls : zL} {st : List Value} {w : zW} : Rv 257 0 ls st w = ldA ls 3 fun x => Rv 257 1 ls (x :: st) w := R_ldA Q257 (by decide +kernel) rfl
theorem e257_1 {ls : zL} {st : List Value} {w : zW} : Rv 257 1 ls st w = Rv 257 2 ls (.int 0 :: st) w := R_con Q257 (by decide +kernel) rfl (by decide)
theorem e257_2 {ls : zL} {st : List Value} {w : zW} : Rv 257 2 ls st w = ldA ls 0 fun x => Rv 257 3 ls (x :: st) w := R_ldA Q257 (by decide +kernel) rfl
theorem e257_3 {ls : zL} {st : List Value} {w : zW} : Rv 257 3 ls st w = ldI ls 1 fun x => Rv 257 4 ls (.int x :: st) w := R_ldI Q257 (by decide +kernel) rfl
theorem e257_4 {ls : zL} {st : List Value} {w : zW} : Rv 257 4 ls st w = ldI ls 2 fun x => Rv 257 5 ls (.int x :: st) w := R_ldI Q257 (by decide +kernel) rfl
theorem x257_5_IndtOf {ls : zL} {w : zW} : xh q257 257 5 ls "java/lang/IndexOutOfBoundsException" w = lst ls 4 none fun l => Rv 257 15 l [] w := R_xh (by decide +kernel) rfl
theorem e257_5 {ls : zL} {w : zW} {n1 : Int32} {n2 : Int32} {a0 : Nat} {n3 : Int32} {a4 : Nat} : Rv 257 5 ls [.int n1, .int n2, .ref a0, .int n3, .ref a4] w = hO w a0 5 (cal (Rv 123 0 [some (.ref a0), some (.int n2), some (.int n1)] [] w) (fun v w' => Rv 257 8 ls (vts v [.int n3, .ref a4]) w') (xh q257 257 5 ls)) := R_calXV (z := 1025) (r := [.int n3, .ref a4]) Q257 (by decide +kernel) rfl rfl Q123 rfl rfl (by decide)
theorem e257_8 {ls : zL} {st : List Value} {w : zW} {x : Int32} : Rv 257 8 ls (.int x :: st) w = Rv 257 9 ls (.long x.toInt64 :: st) w := R_next Q257 (by decide +kernel) rfl
theorem e257_9 {ls : zL} {st : List Value} {w : zW} {a : Nat} {x : Int32} {y : Int64} : Rv 257 9 ls (.long y :: .int x :: .ref a :: st) w = pL w a x y fun w' => Rv 257 10 ls st w' := R_last Q257 (by decide +kernel)
theorem e257_10 {ls : zL} {st : List Value} {w : zW} : Rv 257 10 ls st w = Rv 257 17 ls st w := R_go Q257 (by decide +kernel) rfl rfl
theorem e257_15 {ls : zL} {st : List Value} {w : zW} : Rv 257 15 ls st w = Rv 257 16 ls (.int 1 :: st) w := R_con Q257 (by decide +kernel) rfl (by decide)
theorem e257_16 {ls : zL} {w : zW} {x : Int32} : Rv 257 16 ls [.int x] w = some (.inl (some (.int x)), w) := R_retI Q257 (by decide +kernel) rfl
theorem e257_17 {ls : zL} {st : List Value} {w : zW} : Rv 257 17 ls st w = Rv 257 18 ls (.int 0 :: st) w := R_con Q257 (by decide +kernel) rfl (by decide)
theorem e257_18 {ls : zL} {w : zW} {x : Int32} : Rv 257 18 ls [.int x] w = some (.inl (some (.int x)), w) := R_retI Q257 (by decide +kernel) rfl
/-! MasterPinsLaw.type -/
theorem e258_0 {ls : zL} {st : List Value} {w : zW} : Rv 258 0 ls st w = ldA ls 2 fun x => Rv 258 1 ls (x :: st) w := R_ldA Q258 (by decide +kernel) rfl
theorem e258_1 {ls : zL} {st : List Value} {w : zW} : Rv 258 1 ls st w = Rv 258 2 ls (.int 0 :: st) w := R_con Q258 (by decide +kernel) rfl (by decide)
theorem e258_2 {ls : zL} {st : List Value} {w : zW} : Rv 258 2 ls st w = ldA ls 0 fun x => Rv 258 3 ls (x :: st) w := R_ldA Q258 (by decide +kernel) rfl
theorem e258_3 {ls : zL} {st : List Value} {w : zW} : Rv 258 3 ls st w = ldI ls 1 fun x => Rv 258 4 ls (.int x :: st) w := R_ldI Q258 (by decide +kernel) rfl
theorem x258_4_IllSta {ls : zL} {w : zW} : xh q258 258 4 ls "java/lang/IllegalStateException" w = lst ls 3 none fun l => Rv 258 16 l [] w := R_xh (by decide +kernel) rfl
theorem x258_4_IllArg {ls : zL} {w : zW} : xh q258 258 4 ls "java/lang/IllegalArgumentException" w = lst ls 3 none fun l => Rv 258 13 l [] w := R_xh (by decide +kernel) rfl
theorem e258_4 {ls : zL} {w : zW} {n1 : Int32} {a0 : Nat} {n2 : Int32} {a3 : Nat} : Rv 258 4 ls [.int n1, .ref a0, .int n2, .ref a3] w = hO w a0 5 (cal (Rv 124 0 [some (.ref a0), some (.int n1)] [] w) (fun v w' => Rv 258 7 ls (vts v [.int n2, .ref a3]) w') (xh q258 258 4 ls)) := R_calXV (z := 1036) (r := [.int n2, .ref a3]) Q258 (by decide +kernel) rfl rfl Q124 rfl rfl (by decide)
theorem e258_7 {ls : zL} {st : List Value} {w : zW} {x : Int32} : Rv 258 7 ls (.int x :: st) w = Rv 258 8 ls (.long x.toInt64 :: st) w := R_next Q258 (by decide +kernel) rfl
theorem e258_8 {ls : zL} {st : List Value} {w : zW} {a : Nat} {x : Int32} {y : Int64} : Rv 258 8 ls (.long y :: .int x :: .ref a :: st) w = pL w a x y fun w' => Rv 258 9 ls st w' := R_last Q258 (by decide +kernel)
theorem e258_9 {ls : zL} {st : List Value} {w : zW} : Rv 258 9 ls st w = Rv 258 18 ls st w := R_go Q258 (by decide +kernel) rfl rfl
theorem e258_13 {ls : zL} {st : List Value} {w : zW} : Rv 258 13 ls st w = Rv 258 14 ls (.int 1 :: st) w := R_con Q258 (by decide +kernel) rfl (by decide)
theorem e258_14 {ls : zL} {w : zW} {x : Int32} : Rv 258 14 ls [.int x] w = some (.inl (some (.int x)), w) := R_retI Q258 (by decide +kernel) rfl
theorem e258_16 {ls : zL} {st : List Value} {w : zW} : Rv 258 16 ls st w = Rv 258 17 ls (.int 2 :: st) w := R_con Q258 (by decide +kernel) rfl (by decide)
theorem e258_17 {ls : zL} {w : zW} {x : Int32} : Rv 258 17 ls [.int x] w = some (.inl (some (.int x)), w) := R_retI Q258 (by decide +kernel) rfl
theorem e258_18 {ls : zL} {st : List Value} {w : zW} : Rv 258 18 ls st w = Rv 258 19 ls (.int 0 :: st) w := R_con Q258 (by decide +kernel) rfl (by decide)
theorem e258_19 {ls : zL} {w : zW} {x : Int32} : Rv 258 19 ls [.int x] w = some (.inl (some (.int x)), w) := R_retI Q258 (by decide +kernel) rfl
/-! MasterPinsLaw.undo -/
theorem e259_0 {ls : zL} {st : List Value} {w : zW} : Rv 259 0 ls st w = ldA ls 1 fun x => Rv 259 1 ls (x :: st) w := R_ldA Q259 (by decide +kernel) rfl
theorem e259_1 {ls : zL} {st : List Value} {w : zW} : Rv 259 1 ls st w = Rv 259 2 ls (.int 0 :: st) w := R_con Q259 (by decide +kernel) rfl (by decide)
theorem e259_2 {ls : zL} {st : List Value} {w : zW} : Rv 259 2 ls st w = ldA ls 0 fun x => Rv 259 3 ls (x :: st) w := R_ldA Q259 (by decide +kernel) rfl
theorem x259_3_IllSta {ls : zL} {w : zW} : xh q259 259 3 ls "java/lang/IllegalStateException" w = lst ls 2 none fun l => Rv 259 12 l [] w := R_xh (by decide +kernel) rfl
theorem e259_3 {ls : zL} {w : zW} {a0 : Nat} {n1 : Int32} {a2 : Nat} : Rv 259 3 ls [.ref a0, .int n1, .ref a2] w = hO w a0 5 (cal (Rv 127 0 [some (.ref a0)] [] w) (fun v w' => Rv 259 6 ls (vts v [.int n1, .ref a2]) w') (xh q259 259 3 ls)) := R_calXV (z := 1051) (r := [.int n1, .ref a2]) Q259 (by decide +kernel) rfl rfl Q127 rfl rfl (by decide)
theorem e259_6 {ls : zL} {st : List Value} {w : zW} {x : Int32} : Rv 259 6 ls (.int x :: st) w = Rv 259 7 ls (.long x.toInt64 :: st) w := R_next Q259 (by decide +kernel) rfl
theorem e259_7 {ls : zL} {st : List Value} {w : zW} {a : Nat} {x : Int32} {y : Int64} : Rv 259 7 ls (.long y :: .int x :: .ref a :: st) w = pL w a x y fun w' => Rv 259 8 ls st w' := R_last Q259 (by decide +kernel)
theorem e259_8 {ls : zL} {st : List Value} {w : zW} : Rv 259 8 ls st w = Rv 259 14 ls st w := R_go Q259 (by decide +kernel) rfl rfl
theorem e259_12 {ls : zL} {st : List Value} {w : zW} : Rv 259 12 ls st w = Rv 259 13 ls (.int 1 :: st) w := R_con Q259 (by decide +kernel) rfl (by decide)
theorem e259_13 {ls : zL} {w : zW} {x : Int32} : Rv 259 13 ls [.int x] w = some (.inl (some (.int x)), w) := R_retI Q259 (by decide +kernel) rfl
theorem e259_14 {ls : zL} {st : List Value} {w : zW} : Rv 259 14 ls st w = Rv 259 15 ls (.int 0 :: st) w := R_con Q259 (by decide +kernel) rfl (by decide)
theorem e259_15 {ls : zL} {w : zW} {x : Int32} : Rv 259 15 ls [.int x] w = some (.inl (some (.int x)), w) := R_retI Q259 (by decide +kernel) rfl
/-! MasterPinsLaw.law -/
theorem e260_0 {ls : zL} {st : List Value} {w : zW} : Rv 260 0 ls st w = nw w 4 (.inr (5, [.null, .null, .null, .null])) fun a w' => Rv 260 3 ls (.ref a :: st) w' := R_new (z := 110) Q260 (by decide +kernel) rfl rfl
theorem e260_3 {ls : zL} {st : List Value} {w : zW} {x : Nat} : Rv 260 3 ls (.ref x :: st) w = Rv 260 4 ls (.ref x :: .ref x :: st) w := R_next Q260 (by decide +kernel) rfl
theorem e260_4 {ls : zL} {w : zW} {a0 : Nat} {a1 : Nat} : Rv 260 4 ls [.ref a0, .ref a1] w = cal (Rv 101 0 [some (.ref a0)] [] w) (fun v w' => Rv 260 7 ls (vts v [.ref a1]) w') (xnone) := R_calI (z := 112) (r := [.ref a1]) (kd := 0) Q260 (by decide +kernel) rfl rfl rfl Q101 rfl rfl rfl
theorem e260_7 {ls : zL} {st : List Value} {w : zW} {x : Nat} : Rv 260 7 ls (.ref x :: st) w = lst ls 1 (some (.ref x)) fun l => Rv 260 8 l st w := R_st Q260 (by decide +kernel) rfl
theorem e260_7n {ls : zL} {st : List Value} {w : zW} : Rv 260 7 ls (.null :: st) w = lst ls 1 (some (.null)) fun l => Rv 260 8 l st w := R_st Q260 (by decide +kernel) rfl
theorem e260_8 {ls : zL} {st : List Value} {w : zW} : Rv 260 8 ls st w = nw w 12 (.inr (6, [.null, .null, .int 0, .int 0, .null, .null, .int 0, .int 0, .int 0, .int 0, .int 0, .null])) fun a w' => Rv 260 11 ls (.ref a :: st) w' := R_new (z := 1064) Q260 (by decide +kernel) rfl rfl
theorem e260_11 {ls : zL} {st : List Value} {w : zW} {x : Nat} : Rv 260 11 ls (.ref x :: st) w = Rv 260 12 ls (.ref x :: .ref x :: st) w := R_next Q260 (by decide +kernel) rfl
theorem e260_12 {ls : zL} {w : zW} {a0 : Nat} {a1 : Nat} : Rv 260 12 ls [.ref a0, .ref a1] w = cal (Rv 139 0 [some (.ref a0)] [] w) (fun v w' => Rv 260 15 ls (vts v [.ref a1]) w') (xnone) := R_calI (z := 1066) (r := [.ref a1]) (kd := 0) Q260 (by decide +kernel) rfl rfl rfl Q139 rfl rfl rfl
theorem e260_15 {ls : zL} {st : List Value} {w : zW} {x : Nat} : Rv 260 15 ls (.ref x :: st) w = lst ls 2 (some (.ref x)) fun l => Rv 260 16 l st w := R_st Q260 (by decide +kernel) rfl
theorem e260_15n {ls : zL} {st : List Value} {w : zW} : Rv 260 15 ls (.null :: st) w = lst ls 2 (some (.null)) fun l => Rv 260 16 l st w := R_st Q260 (by decide +kernel) rfl
theorem e260_16 {ls : zL} {st : List Value} {w : zW} : Rv 260 16 ls st w = Rv 260 17 ls (.int 1 :: st) w := R_con Q260 (by decide +kernel) rfl (by decide)
theorem e260_17 {ls : zL} {st : List Value} {w : zW} : Rv 260 17 ls (.int 1 :: st) w = nw w 1 (.inl (1, 1, .inr (.inl fun _ => 0))) fun a w' => Rv 260 19 ls (.ref a :: st) w' := R_newa (z := 0) Q260 (by decide +kernel) rfl rfl (by decide) (by decide)
theorem e260_19 {ls : zL} {st : List Value} {w : zW} {x : Nat} : Rv 260 19 ls (.ref x :: st) w = lst ls 3 (some (.ref x)) fun l => Rv 260 20 l st w := R_st Q260 (by decide +kernel) rfl
theorem e260_19n {ls : zL} {st : List Value} {w : zW} : Rv 260 19 ls (.null :: st) w = lst ls 3 (some (.null)) fun l => Rv 260 20 l st w := R_st Q260 (by decide +kernel) rfl
theorem e260_20 {ls : zL} {st : List Value} {w : zW} : Rv 260 20 ls st w = Rv 260 21 ls (.int 0 :: st) w := R_con Q260 (by decide +kernel) rfl (by decide)
theorem e260_21 {ls : zL} {st : List Value} {w : zW} {x : Int32} : Rv 260 21 ls (.int x :: st) w = lst ls 4 (some (.int x)) fun l => Rv 260 23 l st w := R_st Q260 (by decide +kernel) rfl
theorem h260_23 {ls : zL} {st : List Value} {w : zW} : Rv 260 23 ls st w = ldI ls 4 fun x => Rv 260 25 ls (.int x :: st) w := R_ldI Q260 (by decide +kernel) rfl
theorem e260_25 {ls : zL} {st : List Value} {w : zW} : Rv 260 25 ls st w = ldA ls 0 fun x => Rv 260 26 ls (x :: st) w := R_ldA Q260 (by decide +kernel) rfl
theorem e260_26 {ls : zL} {st : List Value} {w : zW} {a : Nat} : Rv 260 26 ls (.ref a :: st) w = gN w a fun v => Rv 260 27 ls (.int v :: st) w := R_alen Q260 (by decide +kernel)
theorem e260_27 {ls : zL} {st : List Value} {w : zW} : Rv 260 27 ls st w = Rv 260 28 ls (.int 3 :: st) w := R_con Q260 (by decide +kernel) rfl (by decide)
theorem e260_28 {ls : zL} {st : List Value} {w : zW} {x y : Int32} : Rv 260 28 ls (.int y :: .int x :: st) w = Rv 260 29 ls (.int (x - y) :: st) w := R_next Q260 (by decide +kernel) rfl
theorem e260_29 {ls : zL} {st : List Value} {w : zW} {x y : Int32} : Rv 260 29 ls (.int y :: .int x :: st) w = if y < x then Rv 260 1596 ls st w else Rv 260 32 ls st w := R_figt Q260 (by decide +kernel) rfl rfl
theorem e260_32 {ls : zL} {st : List Value} {w : zW} : Rv 260 32 ls st w = ldA ls 0 fun x => Rv 260 33 ls (x :: st) w := R_ldA Q260 (by decide +kernel) rfl
theorem e260_33 {ls : zL} {st : List Value} {w : zW} : Rv 260 33 ls st w = ldI ls 4 fun x => Rv 260 35 ls (.int x :: st) w := R_ldI Q260 (by decide +kernel) rfl
theorem e260_35 {ls : zL} {st : List Value} {w : zW} {a : Nat} {x : Int32} : Rv 260 35 ls (.int x :: .ref a :: st) w = gI w a 0 8 x fun v => Rv 260 36 ls (.int v :: st) w := R_iald Q260 (by decide +kernel)
theorem e260_36 {ls : zL} {st : List Value} {w : zW} : Rv 260 36 ls st w = Rv 260 38 ls (.int 31 :: st) w := R_con Q260 (by decide +kernel) rfl (by decide)
theorem e260_38 {ls : zL} {st : List Value} {w : zW} {x y : Int32} : Rv 260 38 ls (.int y :: .int x :: st) w = Rv 260 39 ls (.int (x &&& y) :: st) w := R_next Q260 (by decide +kernel) rfl
theorem e260_39 {ls : zL} {st : List Value} {w : zW} {x : Int32} : Rv 260 39 ls (.int x :: st) w = tsw x 0 1590 (fun t => Rv 260 t ls st w) [160, 228, 296, 364, 432, 488, 544, 600, 668, 724, 737, 805, 873, 941, 1009, 1065, 1133, 1189, 1257, 1270, 1326, 1382, 1450, 1506, 1519, 1532, 1576] := R_tsw Q260 (by decide +kernel) (by decide +kernel) rfl rfl (by decide +kernel) (by decide +kernel)
theorem e260_160 {ls : zL} {st : List Value} {w : zW} : Rv 260 160 ls st w = ldA ls 1 fun x => Rv 260 161 ls (x :: st) w := R_ldA Q260 (by decide +kernel) rfl
theorem e260_161 {ls : zL} {st : List Value} {w : zW} : Rv 260 161 ls st w = ldA ls 0 fun x => Rv 260 162 ls (x :: st) w := R_ldA Q260 (by decide +kernel) rfl
theorem e260_162 {ls : zL} {st : List Value} {w : zW} : Rv 260 162 ls st w = ldI ls 4 fun x => Rv 260 164 ls (.int x :: st) w := R_ldI Q260 (by decide +kernel) rfl
theorem e260_164 {ls : zL} {st : List Value} {w : zW} : Rv 260 164 ls st w = Rv 260 165 ls (.int 1 :: st) w := R_con Q260 (by decide +kernel) rfl (by decide)
theorem e260_165 {ls : zL} {st : List Value} {w : zW} {x y : Int32} : Rv 260 165 ls (.int y :: .int x :: st) w = Rv 260 166 ls (.int (x + y) :: st) w := R_next Q260 (by decide +kernel) rfl
theorem e260_166 {ls : zL} {st : List Value} {w : zW} {a : Nat} {x : Int32} : Rv 260 166 ls (.int x :: .ref a :: st) w = gI w a 0 8 x fun v => Rv 260 167 ls (.int v :: st) w := R_iald Q260 (by decide +kernel)
theorem e260_167 {ls : zL} {st : List Value} {w : zW} : Rv 260 167 ls st w = ldA ls 0 fun x => Rv 260 168 ls (x :: st) w := R_ldA Q260 (by decide +kernel) rfl
theorem e260_168 {ls : zL} {st : List Value} {w : zW} : Rv 260 168 ls st w = ldI ls 4 fun x => Rv 260 170 ls (.int x :: st) w := R_ldI Q260 (by decide +kernel) rfl
theorem e260_170 {ls : zL} {st : List Value} {w : zW} : Rv 260 170 ls st w = Rv 260 171 ls (.int 2 :: st) w := R_con Q260 (by decide +kernel) rfl (by decide)
theorem e260_171 {ls : zL} {st : List Value} {w : zW} {x y : Int32} : Rv 260 171 ls (.int y :: .int x :: st) w = Rv 260 172 ls (.int (x + y) :: st) w := R_next Q260 (by decide +kernel) rfl
theorem e260_172 {ls : zL} {st : List Value} {w : zW} {a : Nat} {x : Int32} : Rv 260 172 ls (.int x :: .ref a :: st) w = gI w a 0 8 x fun v => Rv 260 173 ls (.int v :: st) w := R_iald Q260 (by decide +kernel)
theorem e260_173 {ls : zL} {st : List Value} {w : zW} : Rv 260 173 ls st w = ldA ls 3 fun x => Rv 260 174 ls (x :: st) w := R_ldA Q260 (by decide +kernel) rfl
theorem e260_174 {ls : zL} {w : zW} {a1 : Nat} {n2 : Int32} {n3 : Int32} {a4 : Nat} : Rv 260 174 ls [.ref a1, .int n2, .int n3, .ref a4] w = cal (Rv 238 0 [some (.ref a4), some (.int n3), some (.int n2), some (.ref a1), none] [] w) (fun v w' => Rv 260 177 ls (vts v []) w') (xnone) := R_calS (z := 721) (kd := 4) (n := 4) Q260 (by decide +kernel) rfl (Or.inr rfl) (Nat.le_of_ble_eq_true rfl) rfl Q238 rfl rfl rfl
theorem e260_177 {ls : zL} {st : List Value} {w : zW} {x : Int32} : Rv 260 177 ls (.int x :: st) w = lst ls 5 (some (.int x)) fun l => Rv 260 179 l st w := R_st Q260 (by decide +kernel) rfl
theorem e260_179 {ls : zL} {st : List Value} {w : zW} : Rv 260 179 ls st w = ldA ls 2 fun x => Rv 260 180 ls (x :: st) w := R_ldA Q260 (by decide +kernel) rfl
theorem e260_180 {ls : zL} {st : List Value} {w : zW} : Rv 260 180 ls st w = ldA ls 0 fun x => Rv 260 181 ls (x :: st) w := R_ldA Q260 (by decide +kernel) rfl
theorem e260_181 {ls : zL} {st : List Value} {w : zW} : Rv 260 181 ls st w = ldI ls 4 fun x => Rv 260 183 ls (.int x :: st) w := R_ldI Q260 (by decide +kernel) rfl
theorem e260_183 {ls : zL} {st : List Value} {w : zW} : Rv 260 183 ls st w = Rv 260 184 ls (.int 1 :: st) w := R_con Q260 (by decide +kernel) rfl (by decide)
theorem e260_184 {ls : zL} {st : List Value} {w : zW} {x y : Int32} : Rv 260 184 ls (.int y :: .int x :: st) w = Rv 260 185 ls (.int (x + y) :: st) w := R_next Q260 (by decide +kernel) rfl
theorem e260_185 {ls : zL} {st : List Value} {w : zW} {a : Nat} {x : Int32} : Rv 260 185 ls (.int x :: .ref a :: st) w = gI w a 0 8 x fun v => Rv 260 186 ls (.int v :: st) w := R_iald Q260 (by decide +kernel)
theorem e260_186 {ls : zL} {st : List Value} {w : zW} : Rv 260 186 ls st w = ldA ls 0 fun x => Rv 260 187 ls (x :: st) w := R_ldA Q260 (by decide +kernel) rfl
theorem e260_187 {ls : zL} {st : List Value} {w : zW} : Rv 260 187 ls st w = ldI ls 4 fun x => Rv 260 189 ls (.int x :: st) w := R_ldI Q260 (by decide +kernel) rfl
theorem e260_189 {ls : zL} {st : List Value} {w : zW} : Rv 260 189 ls st w = Rv 260 190 ls (.int 2 :: st) w := R_con Q260 (by decide +kernel) rfl (by decide)
theorem e260_190 {ls : zL} {st : List Value} {w : zW} {x y : Int32} : Rv 260 190 ls (.int y :: .int x :: st) w = Rv 260 191 ls (.int (x + y) :: st) w := R_next Q260 (by decide +kernel) rfl
theorem e260_191 {ls : zL} {st : List Value} {w : zW} {a : Nat} {x : Int32} : Rv 260 191 ls (.int x :: .ref a :: st) w = gI w a 0 8 x fun v => Rv 260 192 ls (.int v :: st) w := R_iald Q260 (by decide +kernel)
theorem e260_192 {ls : zL} {w : zW} {n1 : Int32} {n2 : Int32} {a0 : Nat} : Rv 260 192 ls [.int n1, .int n2, .ref a0] w = hO w a0 6 (cal (Rv 175 0 [some (.ref a0), some (.int n2), some (.int n1)] [] w) (fun v w' => Rv 260 195 ls (vts v []) w') (xnone)) := R_calV (z := 1111) (r := []) Q260 (by decide +kernel) rfl rfl Q175 rfl rfl rfl
theorem e260_195 {ls : zL} {st : List Value} {w : zW} {x : Int32} : Rv 260 195 ls (.int x :: st) w = lst ls 6 (some (.int x)) fun l => Rv 260 197 l st w := R_st Q260 (by decide +kernel) rfl
theorem e260_197 {ls : zL} {st : List Value} {w : zW} : Rv 260 197 ls st w = ldA ls 2 fun x => Rv 260 198 ls (x :: st) w := R_ldA Q260 (by decide +kernel) rfl
theorem e260_198 {ls : zL} {w : zW} {a0 : Nat} : Rv 260 198 ls [.ref a0] w = hO w a0 6 (cal (Rv 140 0 [some (.ref a0)] [] w) (fun v w' => Rv 260 201 ls (vts v []) w') (xnone)) := R_calV (z := 1107) (r := []) Q260 (by decide +kernel) rfl rfl Q140 rfl rfl rfl
theorem e260_201 {ls : zL} {st : List Value} {w : zW} : Rv 260 201 ls st w = ldI ls 5 fun x => Rv 260 203 ls (.int x :: st) w := R_ldI Q260 (by decide +kernel) rfl
theorem e260_203 {ls : zL} {st : List Value} {w : zW} {x y : Int32} : Rv 260 203 ls (.int y :: .int x :: st) w = if x = y then Rv 260 208 ls st w else Rv 260 206 ls st w := R_fieq Q260 (by decide +kernel) rfl rfl
theorem e260_206 {ls : zL} {st : List Value} {w : zW} : Rv 260 206 ls st w = Rv 260 207 ls (.int 0 :: st) w := R_con Q260 (by decide +kernel) rfl (by decide)
theorem e260_207 {ls : zL} {w : zW} {x : Int32} : Rv 260 207 ls [.int x] w = if x = 0 ∨ x = 1 then some (.inl (some (.int x)), w) else none := R_retZ Q260 (by decide +kernel) rfl
theorem e260_208 {ls : zL} {st : List Value} {w : zW} : Rv 260 208 ls st w = ldI ls 5 fun x => Rv 260 210 ls (.int x :: st) w := R_ldI Q260 (by decide +kernel) rfl
theorem e260_210 {ls : zL} {st : List Value} {w : zW} {x : Int32} : Rv 260 210 ls (.int x :: st) w = if x = 0 then Rv 260 213 ls st w else Rv 260 225 ls st w := R_f0ne Q260 (by decide +kernel) rfl rfl
theorem e260_213 {ls : zL} {st : List Value} {w : zW} : Rv 260 213 ls st w = ldA ls 3 fun x => Rv 260 214 ls (x :: st) w := R_ldA Q260 (by decide +kernel) rfl
theorem e260_214 {ls : zL} {st : List Value} {w : zW} : Rv 260 214 ls st w = Rv 260 215 ls (.int 0 :: st) w := R_con Q260 (by decide +kernel) rfl (by decide)
theorem e260_215 {ls : zL} {st : List Value} {w : zW} {a : Nat} {x : Int32} : Rv 260 215 ls (.int x :: .ref a :: st) w = gL w a x fun v => Rv 260 216 ls (.long v :: st) w := R_lald Q260 (by decide +kernel)
theorem e260_216 {ls : zL} {st : List Value} {w : zW} : Rv 260 216 ls st w = ldI ls 6 fun x => Rv 260 218 ls (.int x :: st) w := R_ldI Q260 (by decide +kernel) rfl
theorem e260_218 {ls : zL} {st : List Value} {w : zW} {x : Int32} : Rv 260 218 ls (.int x :: st) w = Rv 260 219 ls (.long x.toInt64 :: st) w := R_next Q260 (by decide +kernel) rfl
theorem e260_219 {ls : zL} {st : List Value} {w : zW} {x y : Int64} : Rv 260 219 ls (.long y :: .long x :: st) w = Rv 260 220 ls (.int (lg_cmp x y) :: st) w := R_next Q260 (by decide +kernel) rfl
theorem e260_220 {ls : zL} {st : List Value} {w : zW} {x : Int32} : Rv 260 220 ls (.int x :: st) w = if x = 0 then Rv 260 225 ls st w else Rv 260 223 ls st w := R_f0eq Q260 (by decide +kernel) rfl rfl
theorem e260_223 {ls : zL} {st : List Value} {w : zW} : Rv 260 223 ls st w = Rv 260 224 ls (.int 0 :: st) w := R_con Q260 (by decide +kernel) rfl (by decide)
theorem e260_224 {ls : zL} {w : zW} {x : Int32} : Rv 260 224 ls [.int x] w = if x = 0 ∨ x = 1 then some (.inl (some (.int x)), w) else none := R_retZ Q260 (by decide +kernel) rfl
theorem e260_225 {ls : zL} {st : List Value} {w : zW} : Rv 260 225 ls st w = Rv 260 1590 ls st w := R_go Q260 (by decide +kernel) rfl rfl
theorem e260_228 {ls : zL} {st : List Value} {w : zW} : Rv 260 228 ls st w = ldA ls 1 fun x => Rv 260 229 ls (x :: st) w := R_ldA Q260 (by decide +kernel) rfl
theorem e260_229 {ls : zL} {st : List Value} {w : zW} : Rv 260 229 ls st w = ldA ls 0 fun x => Rv 260 230 ls (x :: st) w := R_ldA Q260 (by decide +kernel) rfl
theorem e260_230 {ls : zL} {st : List Value} {w : zW} : Rv 260 230 ls st w = ldI ls 4 fun x => Rv 260 232 ls (.int x :: st) w := R_ldI Q260 (by decide +kernel) rfl
theorem e260_232 {ls : zL} {st : List Value} {w : zW} : Rv 260 232 ls st w = Rv 260 233 ls (.int 1 :: st) w := R_con Q260 (by decide +kernel) rfl (by decide)
theorem e260_233 {ls : zL} {st : List Value} {w : zW} {x y : Int32} : Rv 260 233 ls (.int y :: .int x :: st) w = Rv 260 234 ls (.int (x + y) :: st) w := R_next Q260 (by decide +kernel) rfl
theorem e260_234 {ls : zL} {st : List Value} {w : zW} {a : Nat} {x : Int32} : Rv 260 234 ls (.int x :: .ref a :: st) w = gI w a 0 8 x fun v => Rv 260 235 ls (.int v :: st) w := R_iald Q260 (by decide +kernel)
theorem e260_235 {ls : zL} {st : List Value} {w : zW} : Rv 260 235 ls st w = ldA ls 0 fun x => Rv 260 236 ls (x :: st) w := R_ldA Q260 (by decide +kernel) rfl
theorem e260_236 {ls : zL} {st : List Value} {w : zW} : Rv 260 236 ls st w = ldI ls 4 fun x => Rv 260 238 ls (.int x :: st) w := R_ldI Q260 (by decide +kernel) rfl
theorem e260_238 {ls : zL} {st : List Value} {w : zW} : Rv 260 238 ls st w = Rv 260 239 ls (.int 2 :: st) w := R_con Q260 (by decide +kernel) rfl (by decide)
theorem e260_239 {ls : zL} {st : List Value} {w : zW} {x y : Int32} : Rv 260 239 ls (.int y :: .int x :: st) w = Rv 260 240 ls (.int (x + y) :: st) w := R_next Q260 (by decide +kernel) rfl
theorem e260_240 {ls : zL} {st : List Value} {w : zW} {a : Nat} {x : Int32} : Rv 260 240 ls (.int x :: .ref a :: st) w = gI w a 0 8 x fun v => Rv 260 241 ls (.int v :: st) w := R_iald Q260 (by decide +kernel)
theorem e260_241 {ls : zL} {st : List Value} {w : zW} : Rv 260 241 ls st w = ldA ls 3 fun x => Rv 260 242 ls (x :: st) w := R_ldA Q260 (by decide +kernel) rfl
theorem e260_242 {ls : zL} {w : zW} {a1 : Nat} {n2 : Int32} {n3 : Int32} {a4 : Nat} : Rv 260 242 ls [.ref a1, .int n2, .int n3, .ref a4] w = cal (Rv 239 0 [some (.ref a4), some (.int n3), some (.int n2), some (.ref a1), none] [] w) (fun v w' => Rv 260 245 ls (vts v []) w') (xnone) := R_calS (z := 800) (kd := 4) (n := 4) Q260 (by decide +kernel) rfl (Or.inr rfl) (Nat.le_of_ble_eq_true rfl) rfl Q239 rfl rfl rfl
theorem e260_245 {ls : zL} {st : List Value} {w : zW} {x : Int32} : Rv 260 245 ls (.int x :: st) w = lst ls 5 (some (.int x)) fun l => Rv 260 247 l st w := R_st Q260 (by decide +kernel) rfl
theorem e260_247 {ls : zL} {st : List Value} {w : zW} : Rv 260 247 ls st w = ldA ls 2 fun x => Rv 260 248 ls (x :: st) w := R_ldA Q260 (by decide +kernel) rfl
theorem e260_248 {ls : zL} {st : List Value} {w : zW} : Rv 260 248 ls st w = ldA ls 0 fun x => Rv 260 249 ls (x :: st) w := R_ldA Q260 (by decide +kernel) rfl
theorem e260_249 {ls : zL} {st : List Value} {w : zW} : Rv 260 249 ls st w = ldI ls 4 fun x => Rv 260 251 ls (.int x :: st) w := R_ldI Q260 (by decide +kernel) rfl
theorem e260_251 {ls : zL} {st : List Value} {w : zW} : Rv 260 251 ls st w = Rv 260 252 ls (.int 1 :: st) w := R_con Q260 (by decide +kernel) rfl (by decide)
theorem e260_252 {ls : zL} {st : List Value} {w : zW} {x y : Int32} : Rv 260 252 ls (.int y :: .int x :: st) w = Rv 260 253 ls (.int (x + y) :: st) w := R_next Q260 (by decide +kernel) rfl
theorem e260_253 {ls : zL} {st : List Value} {w : zW} {a : Nat} {x : Int32} : Rv 260 253 ls (.int x :: .ref a :: st) w = gI w a 0 8 x fun v => Rv 260 254 ls (.int v :: st) w := R_iald Q260 (by decide +kernel)
theorem e260_254 {ls : zL} {st : List Value} {w : zW} : Rv 260 254 ls st w = ldA ls 0 fun x => Rv 260 255 ls (x :: st) w := R_ldA Q260 (by decide +kernel) rfl
theorem e260_255 {ls : zL} {st : List Value} {w : zW} : Rv 260 255 ls st w = ldI ls 4 fun x => Rv 260 257 ls (.int x :: st) w := R_ldI Q260 (by decide +kernel) rfl
theorem e260_257 {ls : zL} {st : List Value} {w : zW} : Rv 260 257 ls st w = Rv 260 258 ls (.int 2 :: st) w := R_con Q260 (by decide +kernel) rfl (by decide)
theorem e260_258 {ls : zL} {st : List Value} {w : zW} {x y : Int32} : Rv 260 258 ls (.int y :: .int x :: st) w = Rv 260 259 ls (.int (x + y) :: st) w := R_next Q260 (by decide +kernel) rfl
theorem e260_259 {ls : zL} {st : List Value} {w : zW} {a : Nat} {x : Int32} : Rv 260 259 ls (.int x :: .ref a :: st) w = gI w a 0 8 x fun v => Rv 260 260 ls (.int v :: st) w := R_iald Q260 (by decide +kernel)
theorem e260_260 {ls : zL} {w : zW} {n1 : Int32} {n2 : Int32} {a0 : Nat} : Rv 260 260 ls [.int n1, .int n2, .ref a0] w = hO w a0 6 (cal (Rv 177 0 [some (.ref a0), some (.int n2), some (.int n1)] [] w) (fun v w' => Rv 260 263 ls (vts v []) w') (xnone)) := R_calV (z := 1130) (r := []) Q260 (by decide +kernel) rfl rfl Q177 rfl rfl rfl
theorem e260_263 {ls : zL} {st : List Value} {w : zW} {x : Int32} : Rv 260 263 ls (.int x :: st) w = lst ls 6 (some (.int x)) fun l => Rv 260 265 l st w := R_st Q260 (by decide +kernel) rfl
theorem e260_265 {ls : zL} {st : List Value} {w : zW} : Rv 260 265 ls st w = ldA ls 2 fun x => Rv 260 266 ls (x :: st) w := R_ldA Q260 (by decide +kernel) rfl
theorem e260_266 {ls : zL} {w : zW} {a0 : Nat} : Rv 260 266 ls [.ref a0] w = hO w a0 6 (cal (Rv 140 0 [some (.ref a0)] [] w) (fun v w' => Rv 260 269 ls (vts v []) w') (xnone)) := R_calV (z := 1107) (r := []) Q260 (by decide +kernel) rfl rfl Q140 rfl rfl rfl
theorem e260_269 {ls : zL} {st : List Value} {w : zW} : Rv 260 269 ls st w = ldI ls 5 fun x => Rv 260 271 ls (.int x :: st) w := R_ldI Q260 (by decide +kernel) rfl
theorem e260_271 {ls : zL} {st : List Value} {w : zW} {x y : Int32} : Rv 260 271 ls (.int y :: .int x :: st) w = if x = y then Rv 260 276 ls st w else Rv 260 274 ls st w := R_fieq Q260 (by decide +kernel) rfl rfl
theorem e260_274 {ls : zL} {st : List Value} {w : zW} : Rv 260 274 ls st w = Rv 260 275 ls (.int 0 :: st) w := R_con Q260 (by decide +kernel) rfl (by decide)
theorem e260_275 {ls : zL} {w : zW} {x : Int32} : Rv 260 275 ls [.int x] w = if x = 0 ∨ x = 1 then some (.inl (some (.int x)), w) else none := R_retZ Q260 (by decide +kernel) rfl
theorem e260_276 {ls : zL} {st : List Value} {w : zW} : Rv 260 276 ls st w = ldI ls 5 fun x => Rv 260 278 ls (.int x :: st) w := R_ldI Q260 (by decide +kernel) rfl
theorem e260_278 {ls : zL} {st : List Value} {w : zW} {x : Int32} : Rv 260 278 ls (.int x :: st) w = if x = 0 then Rv 260 281 ls st w else Rv 260 293 ls st w := R_f0ne Q260 (by decide +kernel) rfl rfl
theorem e260_281 {ls : zL} {st : List Value} {w : zW} : Rv 260 281 ls st w = ldA ls 3 fun x => Rv 260 282 ls (x :: st) w := R_ldA Q260 (by decide +kernel) rfl
theorem e260_282 {ls : zL} {st : List Value} {w : zW} : Rv 260 282 ls st w = Rv 260 283 ls (.int 0 :: st) w := R_con Q260 (by decide +kernel) rfl (by decide)
theorem e260_283 {ls : zL} {st : List Value} {w : zW} {a : Nat} {x : Int32} : Rv 260 283 ls (.int x :: .ref a :: st) w = gL w a x fun v => Rv 260 284 ls (.long v :: st) w := R_lald Q260 (by decide +kernel)
theorem e260_284 {ls : zL} {st : List Value} {w : zW} : Rv 260 284 ls st w = ldI ls 6 fun x => Rv 260 286 ls (.int x :: st) w := R_ldI Q260 (by decide +kernel) rfl
theorem e260_286 {ls : zL} {st : List Value} {w : zW} {x : Int32} : Rv 260 286 ls (.int x :: st) w = Rv 260 287 ls (.long x.toInt64 :: st) w := R_next Q260 (by decide +kernel) rfl
theorem e260_287 {ls : zL} {st : List Value} {w : zW} {x y : Int64} : Rv 260 287 ls (.long y :: .long x :: st) w = Rv 260 288 ls (.int (lg_cmp x y) :: st) w := R_next Q260 (by decide +kernel) rfl
theorem e260_288 {ls : zL} {st : List Value} {w : zW} {x : Int32} : Rv 260 288 ls (.int x :: st) w = if x = 0 then Rv 260 293 ls st w else Rv 260 291 ls st w := R_f0eq Q260 (by decide +kernel) rfl rfl
theorem e260_291 {ls : zL} {st : List Value} {w : zW} : Rv 260 291 ls st w = Rv 260 292 ls (.int 0 :: st) w := R_con Q260 (by decide +kernel) rfl (by decide)
theorem e260_292 {ls : zL} {w : zW} {x : Int32} : Rv 260 292 ls [.int x] w = if x = 0 ∨ x = 1 then some (.inl (some (.int x)), w) else none := R_retZ Q260 (by decide +kernel) rfl
theorem e260_293 {ls : zL} {st : List Value} {w : zW} : Rv 260 293 ls st w = Rv 260 1590 ls st w := R_go Q260 (by decide +kernel) rfl rfl
theorem e260_296 {ls : zL} {st : List Value} {w : zW} : Rv 260 296 ls st w = ldA ls 1 fun x => Rv 260 297 ls (x :: st) w := R_ldA Q260 (by decide +kernel) rfl
theorem e260_297 {ls : zL} {st : List Value} {w : zW} : Rv 260 297 ls st w = ldA ls 0 fun x => Rv 260 298 ls (x :: st) w := R_ldA Q260 (by decide +kernel) rfl
theorem e260_298 {ls : zL} {st : List Value} {w : zW} : Rv 260 298 ls st w = ldI ls 4 fun x => Rv 260 300 ls (.int x :: st) w := R_ldI Q260 (by decide +kernel) rfl
theorem e260_300 {ls : zL} {st : List Value} {w : zW} : Rv 260 300 ls st w = Rv 260 301 ls (.int 1 :: st) w := R_con Q260 (by decide +kernel) rfl (by decide)
theorem e260_301 {ls : zL} {st : List Value} {w : zW} {x y : Int32} : Rv 260 301 ls (.int y :: .int x :: st) w = Rv 260 302 ls (.int (x + y) :: st) w := R_next Q260 (by decide +kernel) rfl
theorem e260_302 {ls : zL} {st : List Value} {w : zW} {a : Nat} {x : Int32} : Rv 260 302 ls (.int x :: .ref a :: st) w = gI w a 0 8 x fun v => Rv 260 303 ls (.int v :: st) w := R_iald Q260 (by decide +kernel)
theorem e260_303 {ls : zL} {st : List Value} {w : zW} : Rv 260 303 ls st w = ldA ls 0 fun x => Rv 260 304 ls (x :: st) w := R_ldA Q260 (by decide +kernel) rfl
theorem e260_304 {ls : zL} {st : List Value} {w : zW} : Rv 260 304 ls st w = ldI ls 4 fun x => Rv 260 306 ls (.int x :: st) w := R_ldI Q260 (by decide +kernel) rfl
theorem e260_306 {ls : zL} {st : List Value} {w : zW} : Rv 260 306 ls st w = Rv 260 307 ls (.int 2 :: st) w := R_con Q260 (by decide +kernel) rfl (by decide)
theorem e260_307 {ls : zL} {st : List Value} {w : zW} {x y : Int32} : Rv 260 307 ls (.int y :: .int x :: st) w = Rv 260 308 ls (.int (x + y) :: st) w := R_next Q260 (by decide +kernel) rfl
theorem e260_308 {ls : zL} {st : List Value} {w : zW} {a : Nat} {x : Int32} : Rv 260 308 ls (.int x :: .ref a :: st) w = gI w a 0 8 x fun v => Rv 260 309 ls (.int v :: st) w := R_iald Q260 (by decide +kernel)
theorem e260_309 {ls : zL} {st : List Value} {w : zW} : Rv 260 309 ls st w = ldA ls 3 fun x => Rv 260 310 ls (x :: st) w := R_ldA Q260 (by decide +kernel) rfl
theorem e260_310 {ls : zL} {w : zW} {a1 : Nat} {n2 : Int32} {n3 : Int32} {a4 : Nat} : Rv 260 310 ls [.ref a1, .int n2, .int n3, .ref a4] w = cal (Rv 240 0 [some (.ref a4), some (.int n3), some (.int n2), some (.ref a1), none] [] w) (fun v w' => Rv 260 313 ls (vts v []) w') (xnone) := R_calS (z := 843) (kd := 4) (n := 4) Q260 (by decide +kernel) rfl (Or.inr rfl) (Nat.le_of_ble_eq_true rfl) rfl Q240 rfl rfl rfl
theorem e260_313 {ls : zL} {st : List Value} {w : zW} {x : Int32} : Rv 260 313 ls (.int x :: st) w = lst ls 5 (some (.int x)) fun l => Rv 260 315 l st w := R_st Q260 (by decide +kernel) rfl
theorem e260_315 {ls : zL} {st : List Value} {w : zW} : Rv 260 315 ls st w = ldA ls 2 fun x => Rv 260 316 ls (x :: st) w := R_ldA Q260 (by decide +kernel) rfl
theorem e260_316 {ls : zL} {st : List Value} {w : zW} : Rv 260 316 ls st w = ldA ls 0 fun x => Rv 260 317 ls (x :: st) w := R_ldA Q260 (by decide +kernel) rfl
theorem e260_317 {ls : zL} {st : List Value} {w : zW} : Rv 260 317 ls st w = ldI ls 4 fun x => Rv 260 319 ls (.int x :: st) w := R_ldI Q260 (by decide +kernel) rfl
theorem e260_319 {ls : zL} {st : List Value} {w : zW} : Rv 260 319 ls st w = Rv 260 320 ls (.int 1 :: st) w := R_con Q260 (by decide +kernel) rfl (by decide)
theorem e260_320 {ls : zL} {st : List Value} {w : zW} {x y : Int32} : Rv 260 320 ls (.int y :: .int x :: st) w = Rv 260 321 ls (.int (x + y) :: st) w := R_next Q260 (by decide +kernel) rfl
theorem e260_321 {ls : zL} {st : List Value} {w : zW} {a : Nat} {x : Int32} : Rv 260 321 ls (.int x :: .ref a :: st) w = gI w a 0 8 x fun v => Rv 260 322 ls (.int v :: st) w := R_iald Q260 (by decide +kernel)
theorem e260_322 {ls : zL} {st : List Value} {w : zW} : Rv 260 322 ls st w = ldA ls 0 fun x => Rv 260 323 ls (x :: st) w := R_ldA Q260 (by decide +kernel) rfl
theorem e260_323 {ls : zL} {st : List Value} {w : zW} : Rv 260 323 ls st w = ldI ls 4 fun x => Rv 260 325 ls (.int x :: st) w := R_ldI Q260 (by decide +kernel) rfl
theorem e260_325 {ls : zL} {st : List Value} {w : zW} : Rv 260 325 ls st w = Rv 260 326 ls (.int 2 :: st) w := R_con Q260 (by decide +kernel) rfl (by decide)
theorem e260_326 {ls : zL} {st : List Value} {w : zW} {x y : Int32} : Rv 260 326 ls (.int y :: .int x :: st) w = Rv 260 327 ls (.int (x + y) :: st) w := R_next Q260 (by decide +kernel) rfl
theorem e260_327 {ls : zL} {st : List Value} {w : zW} {a : Nat} {x : Int32} : Rv 260 327 ls (.int x :: .ref a :: st) w = gI w a 0 8 x fun v => Rv 260 328 ls (.int v :: st) w := R_iald Q260 (by decide +kernel)
theorem e260_328 {ls : zL} {w : zW} {n1 : Int32} {n2 : Int32} {a0 : Nat} : Rv 260 328 ls [.int n1, .int n2, .ref a0] w = hO w a0 6 (cal (Rv 179 0 [some (.ref a0), some (.int n2), some (.int n1)] [] w) (fun v w' => Rv 260 331 ls (vts v []) w') (xnone)) := R_calV (z := 1138) (r := []) Q260 (by decide +kernel) rfl rfl Q179 rfl rfl rfl
theorem e260_331 {ls : zL} {st : List Value} {w : zW} {x : Int32} : Rv 260 331 ls (.int x :: st) w = lst ls 6 (some (.int x)) fun l => Rv 260 333 l st w := R_st Q260 (by decide +kernel) rfl
theorem e260_333 {ls : zL} {st : List Value} {w : zW} : Rv 260 333 ls st w = ldA ls 2 fun x => Rv 260 334 ls (x :: st) w := R_ldA Q260 (by decide +kernel) rfl
theorem e260_334 {ls : zL} {w : zW} {a0 : Nat} : Rv 260 334 ls [.ref a0] w = hO w a0 6 (cal (Rv 140 0 [some (.ref a0)] [] w) (fun v w' => Rv 260 337 ls (vts v []) w') (xnone)) := R_calV (z := 1107) (r := []) Q260 (by decide +kernel) rfl rfl Q140 rfl rfl rfl
theorem e260_337 {ls : zL} {st : List Value} {w : zW} : Rv 260 337 ls st w = ldI ls 5 fun x => Rv 260 339 ls (.int x :: st) w := R_ldI Q260 (by decide +kernel) rfl
theorem e260_339 {ls : zL} {st : List Value} {w : zW} {x y : Int32} : Rv 260 339 ls (.int y :: .int x :: st) w = if x = y then Rv 260 344 ls st w else Rv 260 342 ls st w := R_fieq Q260 (by decide +kernel) rfl rfl
theorem e260_342 {ls : zL} {st : List Value} {w : zW} : Rv 260 342 ls st w = Rv 260 343 ls (.int 0 :: st) w := R_con Q260 (by decide +kernel) rfl (by decide)
theorem e260_343 {ls : zL} {w : zW} {x : Int32} : Rv 260 343 ls [.int x] w = if x = 0 ∨ x = 1 then some (.inl (some (.int x)), w) else none := R_retZ Q260 (by decide +kernel) rfl
theorem e260_344 {ls : zL} {st : List Value} {w : zW} : Rv 260 344 ls st w = ldI ls 5 fun x => Rv 260 346 ls (.int x :: st) w := R_ldI Q260 (by decide +kernel) rfl
theorem e260_346 {ls : zL} {st : List Value} {w : zW} {x : Int32} : Rv 260 346 ls (.int x :: st) w = if x = 0 then Rv 260 349 ls st w else Rv 260 361 ls st w := R_f0ne Q260 (by decide +kernel) rfl rfl
theorem e260_349 {ls : zL} {st : List Value} {w : zW} : Rv 260 349 ls st w = ldA ls 3 fun x => Rv 260 350 ls (x :: st) w := R_ldA Q260 (by decide +kernel) rfl
theorem e260_350 {ls : zL} {st : List Value} {w : zW} : Rv 260 350 ls st w = Rv 260 351 ls (.int 0 :: st) w := R_con Q260 (by decide +kernel) rfl (by decide)
theorem e260_351 {ls : zL} {st : List Value} {w : zW} {a : Nat} {x : Int32} : Rv 260 351 ls (.int x :: .ref a :: st) w = gL w a x fun v => Rv 260 352 ls (.long v :: st) w := R_lald Q260 (by decide +kernel)
theorem e260_352 {ls : zL} {st : List Value} {w : zW} : Rv 260 352 ls st w = ldI ls 6 fun x => Rv 260 354 ls (.int x :: st) w := R_ldI Q260 (by decide +kernel) rfl
theorem e260_354 {ls : zL} {st : List Value} {w : zW} {x : Int32} : Rv 260 354 ls (.int x :: st) w = Rv 260 355 ls (.long x.toInt64 :: st) w := R_next Q260 (by decide +kernel) rfl
theorem e260_355 {ls : zL} {st : List Value} {w : zW} {x y : Int64} : Rv 260 355 ls (.long y :: .long x :: st) w = Rv 260 356 ls (.int (lg_cmp x y) :: st) w := R_next Q260 (by decide +kernel) rfl
theorem e260_356 {ls : zL} {st : List Value} {w : zW} {x : Int32} : Rv 260 356 ls (.int x :: st) w = if x = 0 then Rv 260 361 ls st w else Rv 260 359 ls st w := R_f0eq Q260 (by decide +kernel) rfl rfl
theorem e260_359 {ls : zL} {st : List Value} {w : zW} : Rv 260 359 ls st w = Rv 260 360 ls (.int 0 :: st) w := R_con Q260 (by decide +kernel) rfl (by decide)
theorem e260_360 {ls : zL} {w : zW} {x : Int32} : Rv 260 360 ls [.int x] w = if x = 0 ∨ x = 1 then some (.inl (some (.int x)), w) else none := R_retZ Q260 (by decide +kernel) rfl
theorem e260_361 {ls : zL} {st : List Value} {w : zW} : Rv 260 361 ls st w = Rv 260 1590 ls st w := R_go Q260 (by decide +kernel) rfl rfl
theorem e260_364 {ls : zL} {st : List Value} {w : zW} : Rv 260 364 ls st w = ldA ls 1 fun x => Rv 260 365 ls (x :: st) w := R_ldA Q260 (by decide +kernel) rfl
theorem e260_365 {ls : zL} {st : List Value} {w : zW} : Rv 260 365 ls st w = ldA ls 0 fun x => Rv 260 366 ls (x :: st) w := R_ldA Q260 (by decide +kernel) rfl
theorem e260_366 {ls : zL} {st : List Value} {w : zW} : Rv 260 366 ls st w = ldI ls 4 fun x => Rv 260 368 ls (.int x :: st) w := R_ldI Q260 (by decide +kernel) rfl
theorem e260_368 {ls : zL} {st : List Value} {w : zW} : Rv 260 368 ls st w = Rv 260 369 ls (.int 1 :: st) w := R_con Q260 (by decide +kernel) rfl (by decide)
theorem e260_369 {ls : zL} {st : List Value} {w : zW} {x y : Int32} : Rv 260 369 ls (.int y :: .int x :: st) w = Rv 260 370 ls (.int (x + y) :: st) w := R_next Q260 (by decide +kernel) rfl
theorem e260_370 {ls : zL} {st : List Value} {w : zW} {a : Nat} {x : Int32} : Rv 260 370 ls (.int x :: .ref a :: st) w = gI w a 0 8 x fun v => Rv 260 371 ls (.int v :: st) w := R_iald Q260 (by decide +kernel)
theorem e260_371 {ls : zL} {st : List Value} {w : zW} : Rv 260 371 ls st w = ldA ls 0 fun x => Rv 260 372 ls (x :: st) w := R_ldA Q260 (by decide +kernel) rfl
theorem e260_372 {ls : zL} {st : List Value} {w : zW} : Rv 260 372 ls st w = ldI ls 4 fun x => Rv 260 374 ls (.int x :: st) w := R_ldI Q260 (by decide +kernel) rfl
theorem e260_374 {ls : zL} {st : List Value} {w : zW} : Rv 260 374 ls st w = Rv 260 375 ls (.int 2 :: st) w := R_con Q260 (by decide +kernel) rfl (by decide)
theorem e260_375 {ls : zL} {st : List Value} {w : zW} {x y : Int32} : Rv 260 375 ls (.int y :: .int x :: st) w = Rv 260 376 ls (.int (x + y) :: st) w := R_next Q260 (by decide +kernel) rfl
theorem e260_376 {ls : zL} {st : List Value} {w : zW} {a : Nat} {x : Int32} : Rv 260 376 ls (.int x :: .ref a :: st) w = gI w a 0 8 x fun v => Rv 260 377 ls (.int v :: st) w := R_iald Q260 (by decide +kernel)
theorem e260_377 {ls : zL} {st : List Value} {w : zW} : Rv 260 377 ls st w = ldA ls 3 fun x => Rv 260 378 ls (x :: st) w := R_ldA Q260 (by decide +kernel) rfl
theorem e260_378 {ls : zL} {w : zW} {a1 : Nat} {n2 : Int32} {n3 : Int32} {a4 : Nat} : Rv 260 378 ls [.ref a1, .int n2, .int n3, .ref a4] w = cal (Rv 241 0 [some (.ref a4), some (.int n3), some (.int n2), some (.ref a1), none] [] w) (fun v w' => Rv 260 381 ls (vts v []) w') (xnone) := R_calS (z := 852) (kd := 4) (n := 4) Q260 (by decide +kernel) rfl (Or.inr rfl) (Nat.le_of_ble_eq_true rfl) rfl Q241 rfl rfl rfl
theorem e260_381 {ls : zL} {st : List Value} {w : zW} {x : Int32} : Rv 260 381 ls (.int x :: st) w = lst ls 5 (some (.int x)) fun l => Rv 260 383 l st w := R_st Q260 (by decide +kernel) rfl
theorem e260_383 {ls : zL} {st : List Value} {w : zW} : Rv 260 383 ls st w = ldA ls 2 fun x => Rv 260 384 ls (x :: st) w := R_ldA Q260 (by decide +kernel) rfl
theorem e260_384 {ls : zL} {st : List Value} {w : zW} : Rv 260 384 ls st w = ldA ls 0 fun x => Rv 260 385 ls (x :: st) w := R_ldA Q260 (by decide +kernel) rfl
theorem e260_385 {ls : zL} {st : List Value} {w : zW} : Rv 260 385 ls st w = ldI ls 4 fun x => Rv 260 387 ls (.int x :: st) w := R_ldI Q260 (by decide +kernel) rfl
theorem e260_387 {ls : zL} {st : List Value} {w : zW} : Rv 260 387 ls st w = Rv 260 388 ls (.int 1 :: st) w := R_con Q260 (by decide +kernel) rfl (by decide)
theorem e260_388 {ls : zL} {st : List Value} {w : zW} {x y : Int32} : Rv 260 388 ls (.int y :: .int x :: st) w = Rv 260 389 ls (.int (x + y) :: st) w := R_next Q260 (by decide +kernel) rfl
theorem e260_389 {ls : zL} {st : List Value} {w : zW} {a : Nat} {x : Int32} : Rv 260 389 ls (.int x :: .ref a :: st) w = gI w a 0 8 x fun v => Rv 260 390 ls (.int v :: st) w := R_iald Q260 (by decide +kernel)
theorem e260_390 {ls : zL} {st : List Value} {w : zW} : Rv 260 390 ls st w = ldA ls 0 fun x => Rv 260 391 ls (x :: st) w := R_ldA Q260 (by decide +kernel) rfl
theorem e260_391 {ls : zL} {st : List Value} {w : zW} : Rv 260 391 ls st w = ldI ls 4 fun x => Rv 260 393 ls (.int x :: st) w := R_ldI Q260 (by decide +kernel) rfl
theorem e260_393 {ls : zL} {st : List Value} {w : zW} : Rv 260 393 ls st w = Rv 260 394 ls (.int 2 :: st) w := R_con Q260 (by decide +kernel) rfl (by decide)
theorem e260_394 {ls : zL} {st : List Value} {w : zW} {x y : Int32} : Rv 260 394 ls (.int y :: .int x :: st) w = Rv 260 395 ls (.int (x + y) :: st) w := R_next Q260 (by decide +kernel) rfl
theorem e260_395 {ls : zL} {st : List Value} {w : zW} {a : Nat} {x : Int32} : Rv 260 395 ls (.int x :: .ref a :: st) w = gI w a 0 8 x fun v => Rv 260 396 ls (.int v :: st) w := R_iald Q260 (by decide +kernel)
theorem e260_396 {ls : zL} {w : zW} {n1 : Int32} {n2 : Int32} {a0 : Nat} : Rv 260 396 ls [.int n1, .int n2, .ref a0] w = hO w a0 6 (cal (Rv 181 0 [some (.ref a0), some (.int n2), some (.int n1)] [] w) (fun v w' => Rv 260 399 ls (vts v []) w') (xnone)) := R_calV (z := 1179) (r := []) Q260 (by decide +kernel) rfl rfl Q181 rfl rfl rfl
theorem e260_399 {ls : zL} {st : List Value} {w : zW} {x : Int32} : Rv 260 399 ls (.int x :: st) w = lst ls 6 (some (.int x)) fun l => Rv 260 401 l st w := R_st Q260 (by decide +kernel) rfl
theorem e260_401 {ls : zL} {st : List Value} {w : zW} : Rv 260 401 ls st w = ldA ls 2 fun x => Rv 260 402 ls (x :: st) w := R_ldA Q260 (by decide +kernel) rfl
theorem e260_402 {ls : zL} {w : zW} {a0 : Nat} : Rv 260 402 ls [.ref a0] w = hO w a0 6 (cal (Rv 140 0 [some (.ref a0)] [] w) (fun v w' => Rv 260 405 ls (vts v []) w') (xnone)) := R_calV (z := 1107) (r := []) Q260 (by decide +kernel) rfl rfl Q140 rfl rfl rfl
theorem e260_405 {ls : zL} {st : List Value} {w : zW} : Rv 260 405 ls st w = ldI ls 5 fun x => Rv 260 407 ls (.int x :: st) w := R_ldI Q260 (by decide +kernel) rfl
theorem e260_407 {ls : zL} {st : List Value} {w : zW} {x y : Int32} : Rv 260 407 ls (.int y :: .int x :: st) w = if x = y then Rv 260 412 ls st w else Rv 260 410 ls st w := R_fieq Q260 (by decide +kernel) rfl rfl
theorem e260_410 {ls : zL} {st : List Value} {w : zW} : Rv 260 410 ls st w = Rv 260 411 ls (.int 0 :: st) w := R_con Q260 (by decide +kernel) rfl (by decide)
theorem e260_411 {ls : zL} {w : zW} {x : Int32} : Rv 260 411 ls [.int x] w = if x = 0 ∨ x = 1 then some (.inl (some (.int x)), w) else none := R_retZ Q260 (by decide +kernel) rfl
theorem e260_412 {ls : zL} {st : List Value} {w : zW} : Rv 260 412 ls st w = ldI ls 5 fun x => Rv 260 414 ls (.int x :: st) w := R_ldI Q260 (by decide +kernel) rfl
theorem e260_414 {ls : zL} {st : List Value} {w : zW} {x : Int32} : Rv 260 414 ls (.int x :: st) w = if x = 0 then Rv 260 417 ls st w else Rv 260 429 ls st w := R_f0ne Q260 (by decide +kernel) rfl rfl
theorem e260_417 {ls : zL} {st : List Value} {w : zW} : Rv 260 417 ls st w = ldA ls 3 fun x => Rv 260 418 ls (x :: st) w := R_ldA Q260 (by decide +kernel) rfl
theorem e260_418 {ls : zL} {st : List Value} {w : zW} : Rv 260 418 ls st w = Rv 260 419 ls (.int 0 :: st) w := R_con Q260 (by decide +kernel) rfl (by decide)
theorem e260_419 {ls : zL} {st : List Value} {w : zW} {a : Nat} {x : Int32} : Rv 260 419 ls (.int x :: .ref a :: st) w = gL w a x fun v => Rv 260 420 ls (.long v :: st) w := R_lald Q260 (by decide +kernel)
theorem e260_420 {ls : zL} {st : List Value} {w : zW} : Rv 260 420 ls st w = ldI ls 6 fun x => Rv 260 422 ls (.int x :: st) w := R_ldI Q260 (by decide +kernel) rfl
theorem e260_422 {ls : zL} {st : List Value} {w : zW} {x : Int32} : Rv 260 422 ls (.int x :: st) w = Rv 260 423 ls (.long x.toInt64 :: st) w := R_next Q260 (by decide +kernel) rfl
theorem e260_423 {ls : zL} {st : List Value} {w : zW} {x y : Int64} : Rv 260 423 ls (.long y :: .long x :: st) w = Rv 260 424 ls (.int (lg_cmp x y) :: st) w := R_next Q260 (by decide +kernel) rfl
theorem e260_424 {ls : zL} {st : List Value} {w : zW} {x : Int32} : Rv 260 424 ls (.int x :: st) w = if x = 0 then Rv 260 429 ls st w else Rv 260 427 ls st w := R_f0eq Q260 (by decide +kernel) rfl rfl
theorem e260_427 {ls : zL} {st : List Value} {w : zW} : Rv 260 427 ls st w = Rv 260 428 ls (.int 0 :: st) w := R_con Q260 (by decide +kernel) rfl (by decide)
theorem e260_428 {ls : zL} {w : zW} {x : Int32} : Rv 260 428 ls [.int x] w = if x = 0 ∨ x = 1 then some (.inl (some (.int x)), w) else none := R_retZ Q260 (by decide +kernel) rfl
theorem e260_429 {ls : zL} {st : List Value} {w : zW} : Rv 260 429 ls st w = Rv 260 1590 ls st w := R_go Q260 (by decide +kernel) rfl rfl
theorem e260_432 {ls : zL} {st : List Value} {w : zW} : Rv 260 432 ls st w = ldA ls 1 fun x => Rv 260 433 ls (x :: st) w := R_ldA Q260 (by decide +kernel) rfl
theorem e260_433 {ls : zL} {st : List Value} {w : zW} : Rv 260 433 ls st w = ldA ls 0 fun x => Rv 260 434 ls (x :: st) w := R_ldA Q260 (by decide +kernel) rfl
theorem e260_434 {ls : zL} {st : List Value} {w : zW} : Rv 260 434 ls st w = ldI ls 4 fun x => Rv 260 436 ls (.int x :: st) w := R_ldI Q260 (by decide +kernel) rfl
theorem e260_436 {ls : zL} {st : List Value} {w : zW} : Rv 260 436 ls st w = Rv 260 437 ls (.int 1 :: st) w := R_con Q260 (by decide +kernel) rfl (by decide)
theorem e260_437 {ls : zL} {st : List Value} {w : zW} {x y : Int32} : Rv 260 437 ls (.int y :: .int x :: st) w = Rv 260 438 ls (.int (x + y) :: st) w := R_next Q260 (by decide +kernel) rfl
theorem e260_438 {ls : zL} {st : List Value} {w : zW} {a : Nat} {x : Int32} : Rv 260 438 ls (.int x :: .ref a :: st) w = gI w a 0 8 x fun v => Rv 260 439 ls (.int v :: st) w := R_iald Q260 (by decide +kernel)
theorem e260_439 {ls : zL} {st : List Value} {w : zW} : Rv 260 439 ls st w = ldA ls 3 fun x => Rv 260 440 ls (x :: st) w := R_ldA Q260 (by decide +kernel) rfl
theorem e260_440 {ls : zL} {w : zW} {a1 : Nat} {n2 : Int32} {a3 : Nat} : Rv 260 440 ls [.ref a1, .int n2, .ref a3] w = cal (Rv 242 0 [some (.ref a3), some (.int n2), some (.ref a1), none] [] w) (fun v w' => Rv 260 443 ls (vts v []) w') (xnone) := R_calS (z := 859) (kd := 4) (n := 3) Q260 (by decide +kernel) rfl (Or.inr rfl) (Nat.le_of_ble_eq_true rfl) rfl Q242 rfl rfl rfl
theorem e260_443 {ls : zL} {st : List Value} {w : zW} {x : Int32} : Rv 260 443 ls (.int x :: st) w = lst ls 5 (some (.int x)) fun l => Rv 260 445 l st w := R_st Q260 (by decide +kernel) rfl
theorem e260_445 {ls : zL} {st : List Value} {w : zW} : Rv 260 445 ls st w = ldA ls 2 fun x => Rv 260 446 ls (x :: st) w := R_ldA Q260 (by decide +kernel) rfl
theorem e260_446 {ls : zL} {st : List Value} {w : zW} : Rv 260 446 ls st w = ldA ls 0 fun x => Rv 260 447 ls (x :: st) w := R_ldA Q260 (by decide +kernel) rfl
theorem e260_447 {ls : zL} {st : List Value} {w : zW} : Rv 260 447 ls st w = ldI ls 4 fun x => Rv 260 449 ls (.int x :: st) w := R_ldI Q260 (by decide +kernel) rfl
theorem e260_449 {ls : zL} {st : List Value} {w : zW} : Rv 260 449 ls st w = Rv 260 450 ls (.int 1 :: st) w := R_con Q260 (by decide +kernel) rfl (by decide)
theorem e260_450 {ls : zL} {st : List Value} {w : zW} {x y : Int32} : Rv 260 450 ls (.int y :: .int x :: st) w = Rv 260 451 ls (.int (x + y) :: st) w := R_next Q260 (by decide +kernel) rfl
theorem e260_451 {ls : zL} {st : List Value} {w : zW} {a : Nat} {x : Int32} : Rv 260 451 ls (.int x :: .ref a :: st) w = gI w a 0 8 x fun v => Rv 260 452 ls (.int v :: st) w := R_iald Q260 (by decide +kernel)
theorem e260_452 {ls : zL} {w : zW} {n1 : Int32} {a0 : Nat} : Rv 260 452 ls [.int n1, .ref a0] w = hO w a0 6 (cal (Rv 183 0 [some (.ref a0), some (.int n1)] [] w) (fun v w' => Rv 260 455 ls (vts v []) w') (xnone)) := R_calV (z := 1187) (r := []) Q260 (by decide +kernel) rfl rfl Q183 rfl rfl rfl
theorem e260_455 {ls : zL} {st : List Value} {w : zW} {x : Int32} : Rv 260 455 ls (.int x :: st) w = lst ls 6 (some (.int x)) fun l => Rv 260 457 l st w := R_st Q260 (by decide +kernel) rfl
theorem e260_457 {ls : zL} {st : List Value} {w : zW} : Rv 260 457 ls st w = ldA ls 2 fun x => Rv 260 458 ls (x :: st) w := R_ldA Q260 (by decide +kernel) rfl
theorem e260_458 {ls : zL} {w : zW} {a0 : Nat} : Rv 260 458 ls [.ref a0] w = hO w a0 6 (cal (Rv 140 0 [some (.ref a0)] [] w) (fun v w' => Rv 260 461 ls (vts v []) w') (xnone)) := R_calV (z := 1107) (r := []) Q260 (by decide +kernel) rfl rfl Q140 rfl rfl rfl
theorem e260_461 {ls : zL} {st : List Value} {w : zW} : Rv 260 461 ls st w = ldI ls 5 fun x => Rv 260 463 ls (.int x :: st) w := R_ldI Q260 (by decide +kernel) rfl
theorem e260_463 {ls : zL} {st : List Value} {w : zW} {x y : Int32} : Rv 260 463 ls (.int y :: .int x :: st) w = if x = y then Rv 260 468 ls st w else Rv 260 466 ls st w := R_fieq Q260 (by decide +kernel) rfl rfl
theorem e260_466 {ls : zL} {st : List Value} {w : zW} : Rv 260 466 ls st w = Rv 260 467 ls (.int 0 :: st) w := R_con Q260 (by decide +kernel) rfl (by decide)
theorem e260_467 {ls : zL} {w : zW} {x : Int32} : Rv 260 467 ls [.int x] w = if x = 0 ∨ x = 1 then some (.inl (some (.int x)), w) else none := R_retZ Q260 (by decide +kernel) rfl
theorem e260_468 {ls : zL} {st : List Value} {w : zW} : Rv 260 468 ls st w = ldI ls 5 fun x => Rv 260 470 ls (.int x :: st) w := R_ldI Q260 (by decide +kernel) rfl
theorem e260_470 {ls : zL} {st : List Value} {w : zW} {x : Int32} : Rv 260 470 ls (.int x :: st) w = if x = 0 then Rv 260 473 ls st w else Rv 260 485 ls st w := R_f0ne Q260 (by decide +kernel) rfl rfl
theorem e260_473 {ls : zL} {st : List Value} {w : zW} : Rv 260 473 ls st w = ldA ls 3 fun x => Rv 260 474 ls (x :: st) w := R_ldA Q260 (by decide +kernel) rfl
theorem e260_474 {ls : zL} {st : List Value} {w : zW} : Rv 260 474 ls st w = Rv 260 475 ls (.int 0 :: st) w := R_con Q260 (by decide +kernel) rfl (by decide)
theorem e260_475 {ls : zL} {st : List Value} {w : zW} {a : Nat} {x : Int32} : Rv 260 475 ls (.int x :: .ref a :: st) w = gL w a x fun v => Rv 260 476 ls (.long v :: st) w := R_lald Q260 (by decide +kernel)
theorem e260_476 {ls : zL} {st : List Value} {w : zW} : Rv 260 476 ls st w = ldI ls 6 fun x => Rv 260 478 ls (.int x :: st) w := R_ldI Q260 (by decide +kernel) rfl
theorem e260_478 {ls : zL} {st : List Value} {w : zW} {x : Int32} : Rv 260 478 ls (.int x :: st) w = Rv 260 479 ls (.long x.toInt64 :: st) w := R_next Q260 (by decide +kernel) rfl
theorem e260_479 {ls : zL} {st : List Value} {w : zW} {x y : Int64} : Rv 260 479 ls (.long y :: .long x :: st) w = Rv 260 480 ls (.int (lg_cmp x y) :: st) w := R_next Q260 (by decide +kernel) rfl
theorem e260_480 {ls : zL} {st : List Value} {w : zW} {x : Int32} : Rv 260 480 ls (.int x :: st) w = if x = 0 then Rv 260 485 ls st w else Rv 260 483 ls st w := R_f0eq Q260 (by decide +kernel) rfl rfl
theorem e260_483 {ls : zL} {st : List Value} {w : zW} : Rv 260 483 ls st w = Rv 260 484 ls (.int 0 :: st) w := R_con Q260 (by decide +kernel) rfl (by decide)
theorem e260_484 {ls : zL} {w : zW} {x : Int32} : Rv 260 484 ls [.int x] w = if x = 0 ∨ x = 1 then some (.inl (some (.int x)), w) else none := R_retZ Q260 (by decide +kernel) rfl
theorem e260_485 {ls : zL} {st : List Value} {w : zW} : Rv 260 485 ls st w = Rv 260 1590 ls st w := R_go Q260 (by decide +kernel) rfl rfl
theorem e260_488 {ls : zL} {st : List Value} {w : zW} : Rv 260 488 ls st w = ldA ls 1 fun x => Rv 260 489 ls (x :: st) w := R_ldA Q260 (by decide +kernel) rfl
theorem e260_489 {ls : zL} {st : List Value} {w : zW} : Rv 260 489 ls st w = ldA ls 0 fun x => Rv 260 490 ls (x :: st) w := R_ldA Q260 (by decide +kernel) rfl
theorem e260_490 {ls : zL} {st : List Value} {w : zW} : Rv 260 490 ls st w = ldI ls 4 fun x => Rv 260 492 ls (.int x :: st) w := R_ldI Q260 (by decide +kernel) rfl
theorem e260_492 {ls : zL} {st : List Value} {w : zW} : Rv 260 492 ls st w = Rv 260 493 ls (.int 1 :: st) w := R_con Q260 (by decide +kernel) rfl (by decide)
theorem e260_493 {ls : zL} {st : List Value} {w : zW} {x y : Int32} : Rv 260 493 ls (.int y :: .int x :: st) w = Rv 260 494 ls (.int (x + y) :: st) w := R_next Q260 (by decide +kernel) rfl
theorem e260_494 {ls : zL} {st : List Value} {w : zW} {a : Nat} {x : Int32} : Rv 260 494 ls (.int x :: .ref a :: st) w = gI w a 0 8 x fun v => Rv 260 495 ls (.int v :: st) w := R_iald Q260 (by decide +kernel)
theorem e260_495 {ls : zL} {st : List Value} {w : zW} : Rv 260 495 ls st w = ldA ls 3 fun x => Rv 260 496 ls (x :: st) w := R_ldA Q260 (by decide +kernel) rfl
theorem e260_496 {ls : zL} {w : zW} {a1 : Nat} {n2 : Int32} {a3 : Nat} : Rv 260 496 ls [.ref a1, .int n2, .ref a3] w = cal (Rv 243 0 [some (.ref a3), some (.int n2), some (.ref a1), none] [] w) (fun v w' => Rv 260 499 ls (vts v []) w') (xnone) := R_calS (z := 866) (kd := 4) (n := 3) Q260 (by decide +kernel) rfl (Or.inr rfl) (Nat.le_of_ble_eq_true rfl) rfl Q243 rfl rfl rfl
theorem e260_499 {ls : zL} {st : List Value} {w : zW} {x : Int32} : Rv 260 499 ls (.int x :: st) w = lst ls 5 (some (.int x)) fun l => Rv 260 501 l st w := R_st Q260 (by decide +kernel) rfl
theorem e260_501 {ls : zL} {st : List Value} {w : zW} : Rv 260 501 ls st w = ldA ls 2 fun x => Rv 260 502 ls (x :: st) w := R_ldA Q260 (by decide +kernel) rfl
theorem e260_502 {ls : zL} {st : List Value} {w : zW} : Rv 260 502 ls st w = ldA ls 0 fun x => Rv 260 503 ls (x :: st) w := R_ldA Q260 (by decide +kernel) rfl
theorem e260_503 {ls : zL} {st : List Value} {w : zW} : Rv 260 503 ls st w = ldI ls 4 fun x => Rv 260 505 ls (.int x :: st) w := R_ldI Q260 (by decide +kernel) rfl
theorem e260_505 {ls : zL} {st : List Value} {w : zW} : Rv 260 505 ls st w = Rv 260 506 ls (.int 1 :: st) w := R_con Q260 (by decide +kernel) rfl (by decide)
theorem e260_506 {ls : zL} {st : List Value} {w : zW} {x y : Int32} : Rv 260 506 ls (.int y :: .int x :: st) w = Rv 260 507 ls (.int (x + y) :: st) w := R_next Q260 (by decide +kernel) rfl
theorem e260_507 {ls : zL} {st : List Value} {w : zW} {a : Nat} {x : Int32} : Rv 260 507 ls (.int x :: .ref a :: st) w = gI w a 0 8 x fun v => Rv 260 508 ls (.int v :: st) w := R_iald Q260 (by decide +kernel)
theorem e260_508 {ls : zL} {w : zW} {n1 : Int32} {a0 : Nat} : Rv 260 508 ls [.int n1, .ref a0] w = hO w a0 6 (cal (Rv 185 0 [some (.ref a0), some (.int n1)] [] w) (fun v w' => Rv 260 511 ls (vts v []) w') (xnone)) := R_calV (z := 1207) (r := []) Q260 (by decide +kernel) rfl rfl Q185 rfl rfl rfl
theorem e260_511 {ls : zL} {st : List Value} {w : zW} {x : Int32} : Rv 260 511 ls (.int x :: st) w = lst ls 6 (some (.int x)) fun l => Rv 260 513 l st w := R_st Q260 (by decide +kernel) rfl
theorem e260_513 {ls : zL} {st : List Value} {w : zW} : Rv 260 513 ls st w = ldA ls 2 fun x => Rv 260 514 ls (x :: st) w := R_ldA Q260 (by decide +kernel) rfl
theorem e260_514 {ls : zL} {w : zW} {a0 : Nat} : Rv 260 514 ls [.ref a0] w = hO w a0 6 (cal (Rv 140 0 [some (.ref a0)] [] w) (fun v w' => Rv 260 517 ls (vts v []) w') (xnone)) := R_calV (z := 1107) (r := []) Q260 (by decide +kernel) rfl rfl Q140 rfl rfl rfl
theorem e260_517 {ls : zL} {st : List Value} {w : zW} : Rv 260 517 ls st w = ldI ls 5 fun x => Rv 260 519 ls (.int x :: st) w := R_ldI Q260 (by decide +kernel) rfl
theorem e260_519 {ls : zL} {st : List Value} {w : zW} {x y : Int32} : Rv 260 519 ls (.int y :: .int x :: st) w = if x = y then Rv 260 524 ls st w else Rv 260 522 ls st w := R_fieq Q260 (by decide +kernel) rfl rfl
theorem e260_522 {ls : zL} {st : List Value} {w : zW} : Rv 260 522 ls st w = Rv 260 523 ls (.int 0 :: st) w := R_con Q260 (by decide +kernel) rfl (by decide)
theorem e260_523 {ls : zL} {w : zW} {x : Int32} : Rv 260 523 ls [.int x] w = if x = 0 ∨ x = 1 then some (.inl (some (.int x)), w) else none := R_retZ Q260 (by decide +kernel) rfl
theorem e260_524 {ls : zL} {st : List Value} {w : zW} : Rv 260 524 ls st w = ldI ls 5 fun x => Rv 260 526 ls (.int x :: st) w := R_ldI Q260 (by decide +kernel) rfl
theorem e260_526 {ls : zL} {st : List Value} {w : zW} {x : Int32} : Rv 260 526 ls (.int x :: st) w = if x = 0 then Rv 260 529 ls st w else Rv 260 541 ls st w := R_f0ne Q260 (by decide +kernel) rfl rfl
theorem e260_529 {ls : zL} {st : List Value} {w : zW} : Rv 260 529 ls st w = ldA ls 3 fun x => Rv 260 530 ls (x :: st) w := R_ldA Q260 (by decide +kernel) rfl
theorem e260_530 {ls : zL} {st : List Value} {w : zW} : Rv 260 530 ls st w = Rv 260 531 ls (.int 0 :: st) w := R_con Q260 (by decide +kernel) rfl (by decide)
theorem e260_531 {ls : zL} {st : List Value} {w : zW} {a : Nat} {x : Int32} : Rv 260 531 ls (.int x :: .ref a :: st) w = gL w a x fun v => Rv 260 532 ls (.long v :: st) w := R_lald Q260 (by decide +kernel)
theorem e260_532 {ls : zL} {st : List Value} {w : zW} : Rv 260 532 ls st w = ldI ls 6 fun x => Rv 260 534 ls (.int x :: st) w := R_ldI Q260 (by decide +kernel) rfl
theorem e260_534 {ls : zL} {st : List Value} {w : zW} {x : Int32} : Rv 260 534 ls (.int x :: st) w = Rv 260 535 ls (.long x.toInt64 :: st) w := R_next Q260 (by decide +kernel) rfl
theorem e260_535 {ls : zL} {st : List Value} {w : zW} {x y : Int64} : Rv 260 535 ls (.long y :: .long x :: st) w = Rv 260 536 ls (.int (lg_cmp x y) :: st) w := R_next Q260 (by decide +kernel) rfl
theorem e260_536 {ls : zL} {st : List Value} {w : zW} {x : Int32} : Rv 260 536 ls (.int x :: st) w = if x = 0 then Rv 260 541 ls st w else Rv 260 539 ls st w := R_f0eq Q260 (by decide +kernel) rfl rfl
theorem e260_539 {ls : zL} {st : List Value} {w : zW} : Rv 260 539 ls st w = Rv 260 540 ls (.int 0 :: st) w := R_con Q260 (by decide +kernel) rfl (by decide)
theorem e260_540 {ls : zL} {w : zW} {x : Int32} : Rv 260 540 ls [.int x] w = if x = 0 ∨ x = 1 then some (.inl (some (.int x)), w) else none := R_retZ Q260 (by decide +kernel) rfl
theorem e260_541 {ls : zL} {st : List Value} {w : zW} : Rv 260 541 ls st w = Rv 260 1590 ls st w := R_go Q260 (by decide +kernel) rfl rfl
theorem e260_544 {ls : zL} {st : List Value} {w : zW} : Rv 260 544 ls st w = ldA ls 1 fun x => Rv 260 545 ls (x :: st) w := R_ldA Q260 (by decide +kernel) rfl
theorem e260_545 {ls : zL} {st : List Value} {w : zW} : Rv 260 545 ls st w = ldA ls 0 fun x => Rv 260 546 ls (x :: st) w := R_ldA Q260 (by decide +kernel) rfl
theorem e260_546 {ls : zL} {st : List Value} {w : zW} : Rv 260 546 ls st w = ldI ls 4 fun x => Rv 260 548 ls (.int x :: st) w := R_ldI Q260 (by decide +kernel) rfl
theorem e260_548 {ls : zL} {st : List Value} {w : zW} : Rv 260 548 ls st w = Rv 260 549 ls (.int 1 :: st) w := R_con Q260 (by decide +kernel) rfl (by decide)
theorem e260_549 {ls : zL} {st : List Value} {w : zW} {x y : Int32} : Rv 260 549 ls (.int y :: .int x :: st) w = Rv 260 550 ls (.int (x + y) :: st) w := R_next Q260 (by decide +kernel) rfl
theorem e260_550 {ls : zL} {st : List Value} {w : zW} {a : Nat} {x : Int32} : Rv 260 550 ls (.int x :: .ref a :: st) w = gI w a 0 8 x fun v => Rv 260 551 ls (.int v :: st) w := R_iald Q260 (by decide +kernel)
theorem e260_551 {ls : zL} {st : List Value} {w : zW} : Rv 260 551 ls st w = ldA ls 3 fun x => Rv 260 552 ls (x :: st) w := R_ldA Q260 (by decide +kernel) rfl
theorem e260_552 {ls : zL} {w : zW} {a1 : Nat} {n2 : Int32} {a3 : Nat} : Rv 260 552 ls [.ref a1, .int n2, .ref a3] w = cal (Rv 244 0 [some (.ref a3), some (.int n2), some (.ref a1), none] [] w) (fun v w' => Rv 260 555 ls (vts v []) w') (xnone) := R_calS (z := 873) (kd := 4) (n := 3) Q260 (by decide +kernel) rfl (Or.inr rfl) (Nat.le_of_ble_eq_true rfl) rfl Q244 rfl rfl rfl
theorem e260_555 {ls : zL} {st : List Value} {w : zW} {x : Int32} : Rv 260 555 ls (.int x :: st) w = lst ls 5 (some (.int x)) fun l => Rv 260 557 l st w := R_st Q260 (by decide +kernel) rfl
theorem e260_557 {ls : zL} {st : List Value} {w : zW} : Rv 260 557 ls st w = ldA ls 2 fun x => Rv 260 558 ls (x :: st) w := R_ldA Q260 (by decide +kernel) rfl
theorem e260_558 {ls : zL} {st : List Value} {w : zW} : Rv 260 558 ls st w = ldA ls 0 fun x => Rv 260 559 ls (x :: st) w := R_ldA Q260 (by decide +kernel) rfl
theorem e260_559 {ls : zL} {st : List Value} {w : zW} : Rv 260 559 ls st w = ldI ls 4 fun x => Rv 260 561 ls (.int x :: st) w := R_ldI Q260 (by decide +kernel) rfl
theorem e260_561 {ls : zL} {st : List Value} {w : zW} : Rv 260 561 ls st w = Rv 260 562 ls (.int 1 :: st) w := R_con Q260 (by decide +kernel) rfl (by decide)
theorem e260_562 {ls : zL} {st : List Value} {w : zW} {x y : Int32} : Rv 260 562 ls (.int y :: .int x :: st) w = Rv 260 563 ls (.int (x + y) :: st) w := R_next Q260 (by decide +kernel) rfl
theorem e260_563 {ls : zL} {st : List Value} {w : zW} {a : Nat} {x : Int32} : Rv 260 563 ls (.int x :: .ref a :: st) w = gI w a 0 8 x fun v => Rv 260 564 ls (.int v :: st) w := R_iald Q260 (by decide +kernel)
theorem e260_564 {ls : zL} {w : zW} {n1 : Int32} {a0 : Nat} : Rv 260 564 ls [.int n1, .ref a0] w = hO w a0 6 (cal (Rv 187 0 [some (.ref a0), some (.int n1)] [] w) (fun v w' => Rv 260 567 ls (vts v []) w') (xnone)) := R_calV (z := 1219) (r := []) Q260 (by decide +kernel) rfl rfl Q187 rfl rfl rfl
theorem e260_567 {ls : zL} {st : List Value} {w : zW} {x : Int32} : Rv 260 567 ls (.int x :: st) w = lst ls 6 (some (.int x)) fun l => Rv 260 569 l st w := R_st Q260 (by decide +kernel) rfl
theorem e260_569 {ls : zL} {st : List Value} {w : zW} : Rv 260 569 ls st w = ldA ls 2 fun x => Rv 260 570 ls (x :: st) w := R_ldA Q260 (by decide +kernel) rfl
theorem e260_570 {ls : zL} {w : zW} {a0 : Nat} : Rv 260 570 ls [.ref a0] w = hO w a0 6 (cal (Rv 140 0 [some (.ref a0)] [] w) (fun v w' => Rv 260 573 ls (vts v []) w') (xnone)) := R_calV (z := 1107) (r := []) Q260 (by decide +kernel) rfl rfl Q140 rfl rfl rfl
theorem e260_573 {ls : zL} {st : List Value} {w : zW} : Rv 260 573 ls st w = ldI ls 5 fun x => Rv 260 575 ls (.int x :: st) w := R_ldI Q260 (by decide +kernel) rfl
theorem e260_575 {ls : zL} {st : List Value} {w : zW} {x y : Int32} : Rv 260 575 ls (.int y :: .int x :: st) w = if x = y then Rv 260 580 ls st w else Rv 260 578 ls st w := R_fieq Q260 (by decide +kernel) rfl rfl
theorem e260_578 {ls : zL} {st : List Value} {w : zW} : Rv 260 578 ls st w = Rv 260 579 ls (.int 0 :: st) w := R_con Q260 (by decide +kernel) rfl (by decide)
theorem e260_579 {ls : zL} {w : zW} {x : Int32} : Rv 260 579 ls [.int x] w = if x = 0 ∨ x = 1 then some (.inl (some (.int x)), w) else none := R_retZ Q260 (by decide +kernel) rfl
theorem e260_580 {ls : zL} {st : List Value} {w : zW} : Rv 260 580 ls st w = ldI ls 5 fun x => Rv 260 582 ls (.int x :: st) w := R_ldI Q260 (by decide +kernel) rfl
theorem e260_582 {ls : zL} {st : List Value} {w : zW} {x : Int32} : Rv 260 582 ls (.int x :: st) w = if x = 0 then Rv 260 585 ls st w else Rv 260 597 ls st w := R_f0ne Q260 (by decide +kernel) rfl rfl
theorem e260_585 {ls : zL} {st : List Value} {w : zW} : Rv 260 585 ls st w = ldA ls 3 fun x => Rv 260 586 ls (x :: st) w := R_ldA Q260 (by decide +kernel) rfl
theorem e260_586 {ls : zL} {st : List Value} {w : zW} : Rv 260 586 ls st w = Rv 260 587 ls (.int 0 :: st) w := R_con Q260 (by decide +kernel) rfl (by decide)
theorem e260_587 {ls : zL} {st : List Value} {w : zW} {a : Nat} {x : Int32} : Rv 260 587 ls (.int x :: .ref a :: st) w = gL w a x fun v => Rv 260 588 ls (.long v :: st) w := R_lald Q260 (by decide +kernel)
theorem e260_588 {ls : zL} {st : List Value} {w : zW} : Rv 260 588 ls st w = ldI ls 6 fun x => Rv 260 590 ls (.int x :: st) w := R_ldI Q260 (by decide +kernel) rfl
theorem e260_590 {ls : zL} {st : List Value} {w : zW} {x : Int32} : Rv 260 590 ls (.int x :: st) w = Rv 260 591 ls (.long x.toInt64 :: st) w := R_next Q260 (by decide +kernel) rfl
theorem e260_591 {ls : zL} {st : List Value} {w : zW} {x y : Int64} : Rv 260 591 ls (.long y :: .long x :: st) w = Rv 260 592 ls (.int (lg_cmp x y) :: st) w := R_next Q260 (by decide +kernel) rfl
theorem e260_592 {ls : zL} {st : List Value} {w : zW} {x : Int32} : Rv 260 592 ls (.int x :: st) w = if x = 0 then Rv 260 597 ls st w else Rv 260 595 ls st w := R_f0eq Q260 (by decide +kernel) rfl rfl
theorem e260_595 {ls : zL} {st : List Value} {w : zW} : Rv 260 595 ls st w = Rv 260 596 ls (.int 0 :: st) w := R_con Q260 (by decide +kernel) rfl (by decide)
theorem e260_596 {ls : zL} {w : zW} {x : Int32} : Rv 260 596 ls [.int x] w = if x = 0 ∨ x = 1 then some (.inl (some (.int x)), w) else none := R_retZ Q260 (by decide +kernel) rfl
theorem e260_597 {ls : zL} {st : List Value} {w : zW} : Rv 260 597 ls st w = Rv 260 1590 ls st w := R_go Q260 (by decide +kernel) rfl rfl
theorem e260_600 {ls : zL} {st : List Value} {w : zW} : Rv 260 600 ls st w = ldA ls 1 fun x => Rv 260 601 ls (x :: st) w := R_ldA Q260 (by decide +kernel) rfl
theorem e260_601 {ls : zL} {st : List Value} {w : zW} : Rv 260 601 ls st w = ldA ls 0 fun x => Rv 260 602 ls (x :: st) w := R_ldA Q260 (by decide +kernel) rfl
theorem e260_602 {ls : zL} {st : List Value} {w : zW} : Rv 260 602 ls st w = ldI ls 4 fun x => Rv 260 604 ls (.int x :: st) w := R_ldI Q260 (by decide +kernel) rfl
theorem e260_604 {ls : zL} {st : List Value} {w : zW} : Rv 260 604 ls st w = Rv 260 605 ls (.int 1 :: st) w := R_con Q260 (by decide +kernel) rfl (by decide)
theorem e260_605 {ls : zL} {st : List Value} {w : zW} {x y : Int32} : Rv 260 605 ls (.int y :: .int x :: st) w = Rv 260 606 ls (.int (x + y) :: st) w := R_next Q260 (by decide +kernel) rfl
theorem e260_606 {ls : zL} {st : List Value} {w : zW} {a : Nat} {x : Int32} : Rv 260 606 ls (.int x :: .ref a :: st) w = gI w a 0 8 x fun v => Rv 260 607 ls (.int v :: st) w := R_iald Q260 (by decide +kernel)
theorem e260_607 {ls : zL} {st : List Value} {w : zW} : Rv 260 607 ls st w = ldA ls 0 fun x => Rv 260 608 ls (x :: st) w := R_ldA Q260 (by decide +kernel) rfl
theorem e260_608 {ls : zL} {st : List Value} {w : zW} : Rv 260 608 ls st w = ldI ls 4 fun x => Rv 260 610 ls (.int x :: st) w := R_ldI Q260 (by decide +kernel) rfl
theorem e260_610 {ls : zL} {st : List Value} {w : zW} : Rv 260 610 ls st w = Rv 260 611 ls (.int 2 :: st) w := R_con Q260 (by decide +kernel) rfl (by decide)
theorem e260_611 {ls : zL} {st : List Value} {w : zW} {x y : Int32} : Rv 260 611 ls (.int y :: .int x :: st) w = Rv 260 612 ls (.int (x + y) :: st) w := R_next Q260 (by decide +kernel) rfl
theorem e260_612 {ls : zL} {st : List Value} {w : zW} {a : Nat} {x : Int32} : Rv 260 612 ls (.int x :: .ref a :: st) w = gI w a 0 8 x fun v => Rv 260 613 ls (.int v :: st) w := R_iald Q260 (by decide +kernel)
theorem e260_613 {ls : zL} {st : List Value} {w : zW} : Rv 260 613 ls st w = ldA ls 3 fun x => Rv 260 614 ls (x :: st) w := R_ldA Q260 (by decide +kernel) rfl
theorem e260_614 {ls : zL} {w : zW} {a1 : Nat} {n2 : Int32} {n3 : Int32} {a4 : Nat} : Rv 260 614 ls [.ref a1, .int n2, .int n3, .ref a4] w = cal (Rv 245 0 [some (.ref a4), some (.int n3), some (.int n2), some (.ref a1), none] [] w) (fun v w' => Rv 260 617 ls (vts v []) w') (xnone) := R_calS (z := 880) (kd := 4) (n := 4) Q260 (by decide +kernel) rfl (Or.inr rfl) (Nat.le_of_ble_eq_true rfl) rfl Q245 rfl rfl rfl
theorem e260_617 {ls : zL} {st : List Value} {w : zW} {x : Int32} : Rv 260 617 ls (.int x :: st) w = lst ls 5 (some (.int x)) fun l => Rv 260 619 l st w := R_st Q260 (by decide +kernel) rfl
theorem e260_619 {ls : zL} {st : List Value} {w : zW} : Rv 260 619 ls st w = ldA ls 2 fun x => Rv 260 620 ls (x :: st) w := R_ldA Q260 (by decide +kernel) rfl
theorem e260_620 {ls : zL} {st : List Value} {w : zW} : Rv 260 620 ls st w = ldA ls 0 fun x => Rv 260 621 ls (x :: st) w := R_ldA Q260 (by decide +kernel) rfl
theorem e260_621 {ls : zL} {st : List Value} {w : zW} : Rv 260 621 ls st w = ldI ls 4 fun x => Rv 260 623 ls (.int x :: st) w := R_ldI Q260 (by decide +kernel) rfl
theorem e260_623 {ls : zL} {st : List Value} {w : zW} : Rv 260 623 ls st w = Rv 260 624 ls (.int 1 :: st) w := R_con Q260 (by decide +kernel) rfl (by decide)
theorem e260_624 {ls : zL} {st : List Value} {w : zW} {x y : Int32} : Rv 260 624 ls (.int y :: .int x :: st) w = Rv 260 625 ls (.int (x + y) :: st) w := R_next Q260 (by decide +kernel) rfl
theorem e260_625 {ls : zL} {st : List Value} {w : zW} {a : Nat} {x : Int32} : Rv 260 625 ls (.int x :: .ref a :: st) w = gI w a 0 8 x fun v => Rv 260 626 ls (.int v :: st) w := R_iald Q260 (by decide +kernel)
theorem e260_626 {ls : zL} {st : List Value} {w : zW} : Rv 260 626 ls st w = ldA ls 0 fun x => Rv 260 627 ls (x :: st) w := R_ldA Q260 (by decide +kernel) rfl
theorem e260_627 {ls : zL} {st : List Value} {w : zW} : Rv 260 627 ls st w = ldI ls 4 fun x => Rv 260 629 ls (.int x :: st) w := R_ldI Q260 (by decide +kernel) rfl
theorem e260_629 {ls : zL} {st : List Value} {w : zW} : Rv 260 629 ls st w = Rv 260 630 ls (.int 2 :: st) w := R_con Q260 (by decide +kernel) rfl (by decide)
theorem e260_630 {ls : zL} {st : List Value} {w : zW} {x y : Int32} : Rv 260 630 ls (.int y :: .int x :: st) w = Rv 260 631 ls (.int (x + y) :: st) w := R_next Q260 (by decide +kernel) rfl
theorem e260_631 {ls : zL} {st : List Value} {w : zW} {a : Nat} {x : Int32} : Rv 260 631 ls (.int x :: .ref a :: st) w = gI w a 0 8 x fun v => Rv 260 632 ls (.int v :: st) w := R_iald Q260 (by decide +kernel)
theorem e260_632 {ls : zL} {w : zW} {n1 : Int32} {n2 : Int32} {a0 : Nat} : Rv 260 632 ls [.int n1, .int n2, .ref a0] w = hO w a0 6 (cal (Rv 189 0 [some (.ref a0), some (.int n2), some (.int n1)] [] w) (fun v w' => Rv 260 635 ls (vts v []) w') (xnone)) := R_calV (z := 1247) (r := []) Q260 (by decide +kernel) rfl rfl Q189 rfl rfl rfl
theorem e260_635 {ls : zL} {st : List Value} {w : zW} {x : Int32} : Rv 260 635 ls (.int x :: st) w = lst ls 6 (some (.int x)) fun l => Rv 260 637 l st w := R_st Q260 (by decide +kernel) rfl
theorem e260_637 {ls : zL} {st : List Value} {w : zW} : Rv 260 637 ls st w = ldA ls 2 fun x => Rv 260 638 ls (x :: st) w := R_ldA Q260 (by decide +kernel) rfl
theorem e260_638 {ls : zL} {w : zW} {a0 : Nat} : Rv 260 638 ls [.ref a0] w = hO w a0 6 (cal (Rv 140 0 [some (.ref a0)] [] w) (fun v w' => Rv 260 641 ls (vts v []) w') (xnone)) := R_calV (z := 1107) (r := []) Q260 (by decide +kernel) rfl rfl Q140 rfl rfl rfl
theorem e260_641 {ls : zL} {st : List Value} {w : zW} : Rv 260 641 ls st w = ldI ls 5 fun x => Rv 260 643 ls (.int x :: st) w := R_ldI Q260 (by decide +kernel) rfl
theorem e260_643 {ls : zL} {st : List Value} {w : zW} {x y : Int32} : Rv 260 643 ls (.int y :: .int x :: st) w = if x = y then Rv 260 648 ls st w else Rv 260 646 ls st w := R_fieq Q260 (by decide +kernel) rfl rfl
theorem e260_646 {ls : zL} {st : List Value} {w : zW} : Rv 260 646 ls st w = Rv 260 647 ls (.int 0 :: st) w := R_con Q260 (by decide +kernel) rfl (by decide)
theorem e260_647 {ls : zL} {w : zW} {x : Int32} : Rv 260 647 ls [.int x] w = if x = 0 ∨ x = 1 then some (.inl (some (.int x)), w) else none := R_retZ Q260 (by decide +kernel) rfl
theorem e260_648 {ls : zL} {st : List Value} {w : zW} : Rv 260 648 ls st w = ldI ls 5 fun x => Rv 260 650 ls (.int x :: st) w := R_ldI Q260 (by decide +kernel) rfl
theorem e260_650 {ls : zL} {st : List Value} {w : zW} {x : Int32} : Rv 260 650 ls (.int x :: st) w = if x = 0 then Rv 260 653 ls st w else Rv 260 665 ls st w := R_f0ne Q260 (by decide +kernel) rfl rfl
theorem e260_653 {ls : zL} {st : List Value} {w : zW} : Rv 260 653 ls st w = ldA ls 3 fun x => Rv 260 654 ls (x :: st) w := R_ldA Q260 (by decide +kernel) rfl
theorem e260_654 {ls : zL} {st : List Value} {w : zW} : Rv 260 654 ls st w = Rv 260 655 ls (.int 0 :: st) w := R_con Q260 (by decide +kernel) rfl (by decide)
theorem e260_655 {ls : zL} {st : List Value} {w : zW} {a : Nat} {x : Int32} : Rv 260 655 ls (.int x :: .ref a :: st) w = gL w a x fun v => Rv 260 656 ls (.long v :: st) w := R_lald Q260 (by decide +kernel)
theorem e260_656 {ls : zL} {st : List Value} {w : zW} : Rv 260 656 ls st w = ldI ls 6 fun x => Rv 260 658 ls (.int x :: st) w := R_ldI Q260 (by decide +kernel) rfl
theorem e260_658 {ls : zL} {st : List Value} {w : zW} {x : Int32} : Rv 260 658 ls (.int x :: st) w = Rv 260 659 ls (.long x.toInt64 :: st) w := R_next Q260 (by decide +kernel) rfl
theorem e260_659 {ls : zL} {st : List Value} {w : zW} {x y : Int64} : Rv 260 659 ls (.long y :: .long x :: st) w = Rv 260 660 ls (.int (lg_cmp x y) :: st) w := R_next Q260 (by decide +kernel) rfl
theorem e260_660 {ls : zL} {st : List Value} {w : zW} {x : Int32} : Rv 260 660 ls (.int x :: st) w = if x = 0 then Rv 260 665 ls st w else Rv 260 663 ls st w := R_f0eq Q260 (by decide +kernel) rfl rfl
theorem e260_663 {ls : zL} {st : List Value} {w : zW} : Rv 260 663 ls st w = Rv 260 664 ls (.int 0 :: st) w := R_con Q260 (by decide +kernel) rfl (by decide)
theorem e260_664 {ls : zL} {w : zW} {x : Int32} : Rv 260 664 ls [.int x] w = if x = 0 ∨ x = 1 then some (.inl (some (.int x)), w) else none := R_retZ Q260 (by decide +kernel) rfl
theorem e260_665 {ls : zL} {st : List Value} {w : zW} : Rv 260 665 ls st w = Rv 260 1590 ls st w := R_go Q260 (by decide +kernel) rfl rfl
theorem e260_668 {ls : zL} {st : List Value} {w : zW} : Rv 260 668 ls st w = ldA ls 1 fun x => Rv 260 669 ls (x :: st) w := R_ldA Q260 (by decide +kernel) rfl
theorem e260_669 {ls : zL} {st : List Value} {w : zW} : Rv 260 669 ls st w = ldA ls 0 fun x => Rv 260 670 ls (x :: st) w := R_ldA Q260 (by decide +kernel) rfl
theorem e260_670 {ls : zL} {st : List Value} {w : zW} : Rv 260 670 ls st w = ldI ls 4 fun x => Rv 260 672 ls (.int x :: st) w := R_ldI Q260 (by decide +kernel) rfl
theorem e260_672 {ls : zL} {st : List Value} {w : zW} : Rv 260 672 ls st w = Rv 260 673 ls (.int 1 :: st) w := R_con Q260 (by decide +kernel) rfl (by decide)
theorem e260_673 {ls : zL} {st : List Value} {w : zW} {x y : Int32} : Rv 260 673 ls (.int y :: .int x :: st) w = Rv 260 674 ls (.int (x + y) :: st) w := R_next Q260 (by decide +kernel) rfl
theorem e260_674 {ls : zL} {st : List Value} {w : zW} {a : Nat} {x : Int32} : Rv 260 674 ls (.int x :: .ref a :: st) w = gI w a 0 8 x fun v => Rv 260 675 ls (.int v :: st) w := R_iald Q260 (by decide +kernel)
theorem e260_675 {ls : zL} {st : List Value} {w : zW} : Rv 260 675 ls st w = ldA ls 3 fun x => Rv 260 676 ls (x :: st) w := R_ldA Q260 (by decide +kernel) rfl
theorem e260_676 {ls : zL} {w : zW} {a1 : Nat} {n2 : Int32} {a3 : Nat} : Rv 260 676 ls [.ref a1, .int n2, .ref a3] w = cal (Rv 246 0 [some (.ref a3), some (.int n2), some (.ref a1), none] [] w) (fun v w' => Rv 260 679 ls (vts v []) w') (xnone) := R_calS (z := 887) (kd := 4) (n := 3) Q260 (by decide +kernel) rfl (Or.inr rfl) (Nat.le_of_ble_eq_true rfl) rfl Q246 rfl rfl rfl
theorem e260_679 {ls : zL} {st : List Value} {w : zW} {x : Int32} : Rv 260 679 ls (.int x :: st) w = lst ls 5 (some (.int x)) fun l => Rv 260 681 l st w := R_st Q260 (by decide +kernel) rfl
theorem e260_681 {ls : zL} {st : List Value} {w : zW} : Rv 260 681 ls st w = ldA ls 2 fun x => Rv 260 682 ls (x :: st) w := R_ldA Q260 (by decide +kernel) rfl
theorem e260_682 {ls : zL} {st : List Value} {w : zW} : Rv 260 682 ls st w = ldA ls 0 fun x => Rv 260 683 ls (x :: st) w := R_ldA Q260 (by decide +kernel) rfl
theorem e260_683 {ls : zL} {st : List Value} {w : zW} : Rv 260 683 ls st w = ldI ls 4 fun x => Rv 260 685 ls (.int x :: st) w := R_ldI Q260 (by decide +kernel) rfl
theorem e260_685 {ls : zL} {st : List Value} {w : zW} : Rv 260 685 ls st w = Rv 260 686 ls (.int 1 :: st) w := R_con Q260 (by decide +kernel) rfl (by decide)
theorem e260_686 {ls : zL} {st : List Value} {w : zW} {x y : Int32} : Rv 260 686 ls (.int y :: .int x :: st) w = Rv 260 687 ls (.int (x + y) :: st) w := R_next Q260 (by decide +kernel) rfl
theorem e260_687 {ls : zL} {st : List Value} {w : zW} {a : Nat} {x : Int32} : Rv 260 687 ls (.int x :: .ref a :: st) w = gI w a 0 8 x fun v => Rv 260 688 ls (.int v :: st) w := R_iald Q260 (by decide +kernel)
theorem e260_688 {ls : zL} {w : zW} {n1 : Int32} {a0 : Nat} : Rv 260 688 ls [.int n1, .ref a0] w = hO w a0 6 (cal (Rv 191 0 [some (.ref a0), some (.int n1)] [] w) (fun v w' => Rv 260 691 ls (vts v []) w') (xnone)) := R_calV (z := 1263) (r := []) Q260 (by decide +kernel) rfl rfl Q191 rfl rfl rfl
theorem e260_691 {ls : zL} {st : List Value} {w : zW} {x : Int32} : Rv 260 691 ls (.int x :: st) w = lst ls 6 (some (.int x)) fun l => Rv 260 693 l st w := R_st Q260 (by decide +kernel) rfl
theorem e260_693 {ls : zL} {st : List Value} {w : zW} : Rv 260 693 ls st w = ldA ls 2 fun x => Rv 260 694 ls (x :: st) w := R_ldA Q260 (by decide +kernel) rfl
theorem e260_694 {ls : zL} {w : zW} {a0 : Nat} : Rv 260 694 ls [.ref a0] w = hO w a0 6 (cal (Rv 140 0 [some (.ref a0)] [] w) (fun v w' => Rv 260 697 ls (vts v []) w') (xnone)) := R_calV (z := 1107) (r := []) Q260 (by decide +kernel) rfl rfl Q140 rfl rfl rfl
theorem e260_697 {ls : zL} {st : List Value} {w : zW} : Rv 260 697 ls st w = ldI ls 5 fun x => Rv 260 699 ls (.int x :: st) w := R_ldI Q260 (by decide +kernel) rfl
theorem e260_699 {ls : zL} {st : List Value} {w : zW} {x y : Int32} : Rv 260 699 ls (.int y :: .int x :: st) w = if x = y then Rv 260 704 ls st w else Rv 260 702 ls st w := R_fieq Q260 (by decide +kernel) rfl rfl
theorem e260_702 {ls : zL} {st : List Value} {w : zW} : Rv 260 702 ls st w = Rv 260 703 ls (.int 0 :: st) w := R_con Q260 (by decide +kernel) rfl (by decide)
theorem e260_703 {ls : zL} {w : zW} {x : Int32} : Rv 260 703 ls [.int x] w = if x = 0 ∨ x = 1 then some (.inl (some (.int x)), w) else none := R_retZ Q260 (by decide +kernel) rfl
theorem e260_704 {ls : zL} {st : List Value} {w : zW} : Rv 260 704 ls st w = ldI ls 5 fun x => Rv 260 706 ls (.int x :: st) w := R_ldI Q260 (by decide +kernel) rfl
theorem e260_706 {ls : zL} {st : List Value} {w : zW} {x : Int32} : Rv 260 706 ls (.int x :: st) w = if x = 0 then Rv 260 709 ls st w else Rv 260 721 ls st w := R_f0ne Q260 (by decide +kernel) rfl rfl
theorem e260_709 {ls : zL} {st : List Value} {w : zW} : Rv 260 709 ls st w = ldA ls 3 fun x => Rv 260 710 ls (x :: st) w := R_ldA Q260 (by decide +kernel) rfl
theorem e260_710 {ls : zL} {st : List Value} {w : zW} : Rv 260 710 ls st w = Rv 260 711 ls (.int 0 :: st) w := R_con Q260 (by decide +kernel) rfl (by decide)
theorem e260_711 {ls : zL} {st : List Value} {w : zW} {a : Nat} {x : Int32} : Rv 260 711 ls (.int x :: .ref a :: st) w = gL w a x fun v => Rv 260 712 ls (.long v :: st) w := R_lald Q260 (by decide +kernel)
theorem e260_712 {ls : zL} {st : List Value} {w : zW} : Rv 260 712 ls st w = ldI ls 6 fun x => Rv 260 714 ls (.int x :: st) w := R_ldI Q260 (by decide +kernel) rfl
theorem e260_714 {ls : zL} {st : List Value} {w : zW} {x : Int32} : Rv 260 714 ls (.int x :: st) w = Rv 260 715 ls (.long x.toInt64 :: st) w := R_next Q260 (by decide +kernel) rfl
theorem e260_715 {ls : zL} {st : List Value} {w : zW} {x y : Int64} : Rv 260 715 ls (.long y :: .long x :: st) w = Rv 260 716 ls (.int (lg_cmp x y) :: st) w := R_next Q260 (by decide +kernel) rfl
theorem e260_716 {ls : zL} {st : List Value} {w : zW} {x : Int32} : Rv 260 716 ls (.int x :: st) w = if x = 0 then Rv 260 721 ls st w else Rv 260 719 ls st w := R_f0eq Q260 (by decide +kernel) rfl rfl
theorem e260_719 {ls : zL} {st : List Value} {w : zW} : Rv 260 719 ls st w = Rv 260 720 ls (.int 0 :: st) w := R_con Q260 (by decide +kernel) rfl (by decide)
theorem e260_720 {ls : zL} {w : zW} {x : Int32} : Rv 260 720 ls [.int x] w = if x = 0 ∨ x = 1 then some (.inl (some (.int x)), w) else none := R_retZ Q260 (by decide +kernel) rfl
theorem e260_721 {ls : zL} {st : List Value} {w : zW} : Rv 260 721 ls st w = Rv 260 1590 ls st w := R_go Q260 (by decide +kernel) rfl rfl
theorem e260_724 {ls : zL} {st : List Value} {w : zW} : Rv 260 724 ls st w = ldA ls 1 fun x => Rv 260 725 ls (x :: st) w := R_ldA Q260 (by decide +kernel) rfl
theorem e260_725 {ls : zL} {w : zW} {a0 : Nat} : Rv 260 725 ls [.ref a0] w = hO w a0 5 (cal (Rv 111 0 [some (.ref a0)] [] w) (fun v w' => Rv 260 728 ls (vts v []) w') (xnone)) := R_calV (z := 278) (r := []) Q260 (by decide +kernel) rfl rfl Q111 rfl rfl rfl
theorem e260_728 {ls : zL} {st : List Value} {w : zW} : Rv 260 728 ls st w = ldA ls 2 fun x => Rv 260 729 ls (x :: st) w := R_ldA Q260 (by decide +kernel) rfl
theorem e260_729 {ls : zL} {w : zW} {a0 : Nat} {n1 : Int32} : Rv 260 729 ls [.ref a0, .int n1] w = hO w a0 6 (cal (Rv 193 0 [some (.ref a0)] [] w) (fun v w' => Rv 260 732 ls (vts v [.int n1]) w') (xnone)) := R_calV (z := 1271) (r := [.int n1]) Q260 (by decide +kernel) rfl rfl Q193 rfl rfl rfl
theorem e260_732 {ls : zL} {st : List Value} {w : zW} {x y : Int32} : Rv 260 732 ls (.int y :: .int x :: st) w = if x = y then Rv 260 1590 ls st w else Rv 260 735 ls st w := R_fieq Q260 (by decide +kernel) rfl rfl
theorem e260_735 {ls : zL} {st : List Value} {w : zW} : Rv 260 735 ls st w = Rv 260 736 ls (.int 0 :: st) w := R_con Q260 (by decide +kernel) rfl (by decide)
theorem e260_736 {ls : zL} {w : zW} {x : Int32} : Rv 260 736 ls [.int x] w = if x = 0 ∨ x = 1 then some (.inl (some (.int x)), w) else none := R_retZ Q260 (by decide +kernel) rfl
theorem e260_737 {ls : zL} {st : List Value} {w : zW} : Rv 260 737 ls st w = ldA ls 1 fun x => Rv 260 738 ls (x :: st) w := R_ldA Q260 (by decide +kernel) rfl
theorem e260_738 {ls : zL} {st : List Value} {w : zW} : Rv 260 738 ls st w = ldA ls 0 fun x => Rv 260 739 ls (x :: st) w := R_ldA Q260 (by decide +kernel) rfl
theorem e260_739 {ls : zL} {st : List Value} {w : zW} : Rv 260 739 ls st w = ldI ls 4 fun x => Rv 260 741 ls (.int x :: st) w := R_ldI Q260 (by decide +kernel) rfl
theorem e260_741 {ls : zL} {st : List Value} {w : zW} : Rv 260 741 ls st w = Rv 260 742 ls (.int 1 :: st) w := R_con Q260 (by decide +kernel) rfl (by decide)
theorem e260_742 {ls : zL} {st : List Value} {w : zW} {x y : Int32} : Rv 260 742 ls (.int y :: .int x :: st) w = Rv 260 743 ls (.int (x + y) :: st) w := R_next Q260 (by decide +kernel) rfl
theorem e260_743 {ls : zL} {st : List Value} {w : zW} {a : Nat} {x : Int32} : Rv 260 743 ls (.int x :: .ref a :: st) w = gI w a 0 8 x fun v => Rv 260 744 ls (.int v :: st) w := R_iald Q260 (by decide +kernel)
theorem e260_744 {ls : zL} {st : List Value} {w : zW} : Rv 260 744 ls st w = ldA ls 0 fun x => Rv 260 745 ls (x :: st) w := R_ldA Q260 (by decide +kernel) rfl
theorem e260_745 {ls : zL} {st : List Value} {w : zW} : Rv 260 745 ls st w = ldI ls 4 fun x => Rv 260 747 ls (.int x :: st) w := R_ldI Q260 (by decide +kernel) rfl
theorem e260_747 {ls : zL} {st : List Value} {w : zW} : Rv 260 747 ls st w = Rv 260 748 ls (.int 2 :: st) w := R_con Q260 (by decide +kernel) rfl (by decide)
theorem e260_748 {ls : zL} {st : List Value} {w : zW} {x y : Int32} : Rv 260 748 ls (.int y :: .int x :: st) w = Rv 260 749 ls (.int (x + y) :: st) w := R_next Q260 (by decide +kernel) rfl
theorem e260_749 {ls : zL} {st : List Value} {w : zW} {a : Nat} {x : Int32} : Rv 260 749 ls (.int x :: .ref a :: st) w = gI w a 0 8 x fun v => Rv 260 750 ls (.int v :: st) w := R_iald Q260 (by decide +kernel)
theorem e260_750 {ls : zL} {st : List Value} {w : zW} : Rv 260 750 ls st w = ldA ls 3 fun x => Rv 260 751 ls (x :: st) w := R_ldA Q260 (by decide +kernel) rfl
theorem e260_751 {ls : zL} {w : zW} {a1 : Nat} {n2 : Int32} {n3 : Int32} {a4 : Nat} : Rv 260 751 ls [.ref a1, .int n2, .int n3, .ref a4] w = cal (Rv 247 0 [some (.ref a4), some (.int n3), some (.int n2), some (.ref a1), none] [] w) (fun v w' => Rv 260 754 ls (vts v []) w') (xnone) := R_calS (z := 894) (kd := 4) (n := 4) Q260 (by decide +kernel) rfl (Or.inr rfl) (Nat.le_of_ble_eq_true rfl) rfl Q247 rfl rfl rfl
theorem e260_754 {ls : zL} {st : List Value} {w : zW} {x : Int32} : Rv 260 754 ls (.int x :: st) w = lst ls 5 (some (.int x)) fun l => Rv 260 756 l st w := R_st Q260 (by decide +kernel) rfl
theorem e260_756 {ls : zL} {st : List Value} {w : zW} : Rv 260 756 ls st w = ldA ls 2 fun x => Rv 260 757 ls (x :: st) w := R_ldA Q260 (by decide +kernel) rfl
theorem e260_757 {ls : zL} {st : List Value} {w : zW} : Rv 260 757 ls st w = ldA ls 0 fun x => Rv 260 758 ls (x :: st) w := R_ldA Q260 (by decide +kernel) rfl
theorem e260_758 {ls : zL} {st : List Value} {w : zW} : Rv 260 758 ls st w = ldI ls 4 fun x => Rv 260 760 ls (.int x :: st) w := R_ldI Q260 (by decide +kernel) rfl
theorem e260_760 {ls : zL} {st : List Value} {w : zW} : Rv 260 760 ls st w = Rv 260 761 ls (.int 1 :: st) w := R_con Q260 (by decide +kernel) rfl (by decide)
theorem e260_761 {ls : zL} {st : List Value} {w : zW} {x y : Int32} : Rv 260 761 ls (.int y :: .int x :: st) w = Rv 260 762 ls (.int (x + y) :: st) w := R_next Q260 (by decide +kernel) rfl
theorem e260_762 {ls : zL} {st : List Value} {w : zW} {a : Nat} {x : Int32} : Rv 260 762 ls (.int x :: .ref a :: st) w = gI w a 0 8 x fun v => Rv 260 763 ls (.int v :: st) w := R_iald Q260 (by decide +kernel)
theorem e260_763 {ls : zL} {st : List Value} {w : zW} : Rv 260 763 ls st w = ldA ls 0 fun x => Rv 260 764 ls (x :: st) w := R_ldA Q260 (by decide +kernel) rfl
theorem e260_764 {ls : zL} {st : List Value} {w : zW} : Rv 260 764 ls st w = ldI ls 4 fun x => Rv 260 766 ls (.int x :: st) w := R_ldI Q260 (by decide +kernel) rfl
theorem e260_766 {ls : zL} {st : List Value} {w : zW} : Rv 260 766 ls st w = Rv 260 767 ls (.int 2 :: st) w := R_con Q260 (by decide +kernel) rfl (by decide)
theorem e260_767 {ls : zL} {st : List Value} {w : zW} {x y : Int32} : Rv 260 767 ls (.int y :: .int x :: st) w = Rv 260 768 ls (.int (x + y) :: st) w := R_next Q260 (by decide +kernel) rfl
theorem e260_768 {ls : zL} {st : List Value} {w : zW} {a : Nat} {x : Int32} : Rv 260 768 ls (.int x :: .ref a :: st) w = gI w a 0 8 x fun v => Rv 260 769 ls (.int v :: st) w := R_iald Q260 (by decide +kernel)
theorem e260_769 {ls : zL} {w : zW} {n1 : Int32} {n2 : Int32} {a0 : Nat} : Rv 260 769 ls [.int n1, .int n2, .ref a0] w = hO w a0 6 (cal (Rv 194 0 [some (.ref a0), some (.int n2), some (.int n1), none] [] w) (fun v w' => Rv 260 772 ls (vts v []) w') (xnone)) := R_calV (z := 1279) (r := []) Q260 (by decide +kernel) rfl rfl Q194 rfl rfl rfl
theorem e260_772 {ls : zL} {st : List Value} {w : zW} {x : Int32} : Rv 260 772 ls (.int x :: st) w = lst ls 6 (some (.int x)) fun l => Rv 260 774 l st w := R_st Q260 (by decide +kernel) rfl
theorem e260_774 {ls : zL} {st : List Value} {w : zW} : Rv 260 774 ls st w = ldA ls 2 fun x => Rv 260 775 ls (x :: st) w := R_ldA Q260 (by decide +kernel) rfl
theorem e260_775 {ls : zL} {w : zW} {a0 : Nat} : Rv 260 775 ls [.ref a0] w = hO w a0 6 (cal (Rv 140 0 [some (.ref a0)] [] w) (fun v w' => Rv 260 778 ls (vts v []) w') (xnone)) := R_calV (z := 1107) (r := []) Q260 (by decide +kernel) rfl rfl Q140 rfl rfl rfl
theorem e260_778 {ls : zL} {st : List Value} {w : zW} : Rv 260 778 ls st w = ldI ls 5 fun x => Rv 260 780 ls (.int x :: st) w := R_ldI Q260 (by decide +kernel) rfl
theorem e260_780 {ls : zL} {st : List Value} {w : zW} {x y : Int32} : Rv 260 780 ls (.int y :: .int x :: st) w = if x = y then Rv 260 785 ls st w else Rv 260 783 ls st w := R_fieq Q260 (by decide +kernel) rfl rfl
theorem e260_783 {ls : zL} {st : List Value} {w : zW} : Rv 260 783 ls st w = Rv 260 784 ls (.int 0 :: st) w := R_con Q260 (by decide +kernel) rfl (by decide)
theorem e260_784 {ls : zL} {w : zW} {x : Int32} : Rv 260 784 ls [.int x] w = if x = 0 ∨ x = 1 then some (.inl (some (.int x)), w) else none := R_retZ Q260 (by decide +kernel) rfl
theorem e260_785 {ls : zL} {st : List Value} {w : zW} : Rv 260 785 ls st w = ldI ls 5 fun x => Rv 260 787 ls (.int x :: st) w := R_ldI Q260 (by decide +kernel) rfl
theorem e260_787 {ls : zL} {st : List Value} {w : zW} {x : Int32} : Rv 260 787 ls (.int x :: st) w = if x = 0 then Rv 260 790 ls st w else Rv 260 802 ls st w := R_f0ne Q260 (by decide +kernel) rfl rfl
theorem e260_790 {ls : zL} {st : List Value} {w : zW} : Rv 260 790 ls st w = ldA ls 3 fun x => Rv 260 791 ls (x :: st) w := R_ldA Q260 (by decide +kernel) rfl
theorem e260_791 {ls : zL} {st : List Value} {w : zW} : Rv 260 791 ls st w = Rv 260 792 ls (.int 0 :: st) w := R_con Q260 (by decide +kernel) rfl (by decide)
theorem e260_792 {ls : zL} {st : List Value} {w : zW} {a : Nat} {x : Int32} : Rv 260 792 ls (.int x :: .ref a :: st) w = gL w a x fun v => Rv 260 793 ls (.long v :: st) w := R_lald Q260 (by decide +kernel)
theorem e260_793 {ls : zL} {st : List Value} {w : zW} : Rv 260 793 ls st w = ldI ls 6 fun x => Rv 260 795 ls (.int x :: st) w := R_ldI Q260 (by decide +kernel) rfl
theorem e260_795 {ls : zL} {st : List Value} {w : zW} {x : Int32} : Rv 260 795 ls (.int x :: st) w = Rv 260 796 ls (.long x.toInt64 :: st) w := R_next Q260 (by decide +kernel) rfl
theorem e260_796 {ls : zL} {st : List Value} {w : zW} {x y : Int64} : Rv 260 796 ls (.long y :: .long x :: st) w = Rv 260 797 ls (.int (lg_cmp x y) :: st) w := R_next Q260 (by decide +kernel) rfl
theorem e260_797 {ls : zL} {st : List Value} {w : zW} {x : Int32} : Rv 260 797 ls (.int x :: st) w = if x = 0 then Rv 260 802 ls st w else Rv 260 800 ls st w := R_f0eq Q260 (by decide +kernel) rfl rfl
theorem e260_800 {ls : zL} {st : List Value} {w : zW} : Rv 260 800 ls st w = Rv 260 801 ls (.int 0 :: st) w := R_con Q260 (by decide +kernel) rfl (by decide)
theorem e260_801 {ls : zL} {w : zW} {x : Int32} : Rv 260 801 ls [.int x] w = if x = 0 ∨ x = 1 then some (.inl (some (.int x)), w) else none := R_retZ Q260 (by decide +kernel) rfl
theorem e260_802 {ls : zL} {st : List Value} {w : zW} : Rv 260 802 ls st w = Rv 260 1590 ls st w := R_go Q260 (by decide +kernel) rfl rfl
theorem e260_805 {ls : zL} {st : List Value} {w : zW} : Rv 260 805 ls st w = ldA ls 1 fun x => Rv 260 806 ls (x :: st) w := R_ldA Q260 (by decide +kernel) rfl
theorem e260_806 {ls : zL} {st : List Value} {w : zW} : Rv 260 806 ls st w = ldA ls 0 fun x => Rv 260 807 ls (x :: st) w := R_ldA Q260 (by decide +kernel) rfl
theorem e260_807 {ls : zL} {st : List Value} {w : zW} : Rv 260 807 ls st w = ldI ls 4 fun x => Rv 260 809 ls (.int x :: st) w := R_ldI Q260 (by decide +kernel) rfl
theorem e260_809 {ls : zL} {st : List Value} {w : zW} : Rv 260 809 ls st w = Rv 260 810 ls (.int 1 :: st) w := R_con Q260 (by decide +kernel) rfl (by decide)
theorem e260_810 {ls : zL} {st : List Value} {w : zW} {x y : Int32} : Rv 260 810 ls (.int y :: .int x :: st) w = Rv 260 811 ls (.int (x + y) :: st) w := R_next Q260 (by decide +kernel) rfl
theorem e260_811 {ls : zL} {st : List Value} {w : zW} {a : Nat} {x : Int32} : Rv 260 811 ls (.int x :: .ref a :: st) w = gI w a 0 8 x fun v => Rv 260 812 ls (.int v :: st) w := R_iald Q260 (by decide +kernel)
theorem e260_812 {ls : zL} {st : List Value} {w : zW} : Rv 260 812 ls st w = ldA ls 0 fun x => Rv 260 813 ls (x :: st) w := R_ldA Q260 (by decide +kernel) rfl
theorem e260_813 {ls : zL} {st : List Value} {w : zW} : Rv 260 813 ls st w = ldI ls 4 fun x => Rv 260 815 ls (.int x :: st) w := R_ldI Q260 (by decide +kernel) rfl
theorem e260_815 {ls : zL} {st : List Value} {w : zW} : Rv 260 815 ls st w = Rv 260 816 ls (.int 2 :: st) w := R_con Q260 (by decide +kernel) rfl (by decide)
theorem e260_816 {ls : zL} {st : List Value} {w : zW} {x y : Int32} : Rv 260 816 ls (.int y :: .int x :: st) w = Rv 260 817 ls (.int (x + y) :: st) w := R_next Q260 (by decide +kernel) rfl
theorem e260_817 {ls : zL} {st : List Value} {w : zW} {a : Nat} {x : Int32} : Rv 260 817 ls (.int x :: .ref a :: st) w = gI w a 0 8 x fun v => Rv 260 818 ls (.int v :: st) w := R_iald Q260 (by decide +kernel)
theorem e260_818 {ls : zL} {st : List Value} {w : zW} : Rv 260 818 ls st w = ldA ls 3 fun x => Rv 260 819 ls (x :: st) w := R_ldA Q260 (by decide +kernel) rfl
theorem e260_819 {ls : zL} {w : zW} {a1 : Nat} {n2 : Int32} {n3 : Int32} {a4 : Nat} : Rv 260 819 ls [.ref a1, .int n2, .int n3, .ref a4] w = cal (Rv 248 0 [some (.ref a4), some (.int n3), some (.int n2), some (.ref a1), none] [] w) (fun v w' => Rv 260 822 ls (vts v []) w') (xnone) := R_calS (z := 905) (kd := 4) (n := 4) Q260 (by decide +kernel) rfl (Or.inr rfl) (Nat.le_of_ble_eq_true rfl) rfl Q248 rfl rfl rfl
theorem e260_822 {ls : zL} {st : List Value} {w : zW} {x : Int32} : Rv 260 822 ls (.int x :: st) w = lst ls 5 (some (.int x)) fun l => Rv 260 824 l st w := R_st Q260 (by decide +kernel) rfl
theorem e260_824 {ls : zL} {st : List Value} {w : zW} : Rv 260 824 ls st w = ldA ls 2 fun x => Rv 260 825 ls (x :: st) w := R_ldA Q260 (by decide +kernel) rfl
theorem e260_825 {ls : zL} {st : List Value} {w : zW} : Rv 260 825 ls st w = ldA ls 0 fun x => Rv 260 826 ls (x :: st) w := R_ldA Q260 (by decide +kernel) rfl
theorem e260_826 {ls : zL} {st : List Value} {w : zW} : Rv 260 826 ls st w = ldI ls 4 fun x => Rv 260 828 ls (.int x :: st) w := R_ldI Q260 (by decide +kernel) rfl
theorem e260_828 {ls : zL} {st : List Value} {w : zW} : Rv 260 828 ls st w = Rv 260 829 ls (.int 1 :: st) w := R_con Q260 (by decide +kernel) rfl (by decide)
theorem e260_829 {ls : zL} {st : List Value} {w : zW} {x y : Int32} : Rv 260 829 ls (.int y :: .int x :: st) w = Rv 260 830 ls (.int (x + y) :: st) w := R_next Q260 (by decide +kernel) rfl
theorem e260_830 {ls : zL} {st : List Value} {w : zW} {a : Nat} {x : Int32} : Rv 260 830 ls (.int x :: .ref a :: st) w = gI w a 0 8 x fun v => Rv 260 831 ls (.int v :: st) w := R_iald Q260 (by decide +kernel)
theorem e260_831 {ls : zL} {st : List Value} {w : zW} : Rv 260 831 ls st w = ldA ls 0 fun x => Rv 260 832 ls (x :: st) w := R_ldA Q260 (by decide +kernel) rfl
theorem e260_832 {ls : zL} {st : List Value} {w : zW} : Rv 260 832 ls st w = ldI ls 4 fun x => Rv 260 834 ls (.int x :: st) w := R_ldI Q260 (by decide +kernel) rfl
theorem e260_834 {ls : zL} {st : List Value} {w : zW} : Rv 260 834 ls st w = Rv 260 835 ls (.int 2 :: st) w := R_con Q260 (by decide +kernel) rfl (by decide)
theorem e260_835 {ls : zL} {st : List Value} {w : zW} {x y : Int32} : Rv 260 835 ls (.int y :: .int x :: st) w = Rv 260 836 ls (.int (x + y) :: st) w := R_next Q260 (by decide +kernel) rfl
theorem e260_836 {ls : zL} {st : List Value} {w : zW} {a : Nat} {x : Int32} : Rv 260 836 ls (.int x :: .ref a :: st) w = gI w a 0 8 x fun v => Rv 260 837 ls (.int v :: st) w := R_iald Q260 (by decide +kernel)
theorem e260_837 {ls : zL} {w : zW} {n1 : Int32} {n2 : Int32} {a0 : Nat} : Rv 260 837 ls [.int n1, .int n2, .ref a0] w = hO w a0 6 (cal (Rv 196 0 [some (.ref a0), some (.int n2), some (.int n1)] [] w) (fun v w' => Rv 260 840 ls (vts v []) w') (xnone)) := R_calV (z := 1283) (r := []) Q260 (by decide +kernel) rfl rfl Q196 rfl rfl rfl
theorem e260_840 {ls : zL} {st : List Value} {w : zW} {x : Int32} : Rv 260 840 ls (.int x :: st) w = lst ls 6 (some (.int x)) fun l => Rv 260 842 l st w := R_st Q260 (by decide +kernel) rfl
theorem e260_842 {ls : zL} {st : List Value} {w : zW} : Rv 260 842 ls st w = ldA ls 2 fun x => Rv 260 843 ls (x :: st) w := R_ldA Q260 (by decide +kernel) rfl
theorem e260_843 {ls : zL} {w : zW} {a0 : Nat} : Rv 260 843 ls [.ref a0] w = hO w a0 6 (cal (Rv 140 0 [some (.ref a0)] [] w) (fun v w' => Rv 260 846 ls (vts v []) w') (xnone)) := R_calV (z := 1107) (r := []) Q260 (by decide +kernel) rfl rfl Q140 rfl rfl rfl
theorem e260_846 {ls : zL} {st : List Value} {w : zW} : Rv 260 846 ls st w = ldI ls 5 fun x => Rv 260 848 ls (.int x :: st) w := R_ldI Q260 (by decide +kernel) rfl
theorem e260_848 {ls : zL} {st : List Value} {w : zW} {x y : Int32} : Rv 260 848 ls (.int y :: .int x :: st) w = if x = y then Rv 260 853 ls st w else Rv 260 851 ls st w := R_fieq Q260 (by decide +kernel) rfl rfl
theorem e260_851 {ls : zL} {st : List Value} {w : zW} : Rv 260 851 ls st w = Rv 260 852 ls (.int 0 :: st) w := R_con Q260 (by decide +kernel) rfl (by decide)
theorem e260_852 {ls : zL} {w : zW} {x : Int32} : Rv 260 852 ls [.int x] w = if x = 0 ∨ x = 1 then some (.inl (some (.int x)), w) else none := R_retZ Q260 (by decide +kernel) rfl
theorem e260_853 {ls : zL} {st : List Value} {w : zW} : Rv 260 853 ls st w = ldI ls 5 fun x => Rv 260 855 ls (.int x :: st) w := R_ldI Q260 (by decide +kernel) rfl
theorem e260_855 {ls : zL} {st : List Value} {w : zW} {x : Int32} : Rv 260 855 ls (.int x :: st) w = if x = 0 then Rv 260 858 ls st w else Rv 260 870 ls st w := R_f0ne Q260 (by decide +kernel) rfl rfl
theorem e260_858 {ls : zL} {st : List Value} {w : zW} : Rv 260 858 ls st w = ldA ls 3 fun x => Rv 260 859 ls (x :: st) w := R_ldA Q260 (by decide +kernel) rfl
theorem e260_859 {ls : zL} {st : List Value} {w : zW} : Rv 260 859 ls st w = Rv 260 860 ls (.int 0 :: st) w := R_con Q260 (by decide +kernel) rfl (by decide)
theorem e260_860 {ls : zL} {st : List Value} {w : zW} {a : Nat} {x : Int32} : Rv 260 860 ls (.int x :: .ref a :: st) w = gL w a x fun v => Rv 260 861 ls (.long v :: st) w := R_lald Q260 (by decide +kernel)
theorem e260_861 {ls : zL} {st : List Value} {w : zW} : Rv 260 861 ls st w = ldI ls 6 fun x => Rv 260 863 ls (.int x :: st) w := R_ldI Q260 (by decide +kernel) rfl
theorem e260_863 {ls : zL} {st : List Value} {w : zW} {x : Int32} : Rv 260 863 ls (.int x :: st) w = Rv 260 864 ls (.long x.toInt64 :: st) w := R_next Q260 (by decide +kernel) rfl
theorem e260_864 {ls : zL} {st : List Value} {w : zW} {x y : Int64} : Rv 260 864 ls (.long y :: .long x :: st) w = Rv 260 865 ls (.int (lg_cmp x y) :: st) w := R_next Q260 (by decide +kernel) rfl
theorem e260_865 {ls : zL} {st : List Value} {w : zW} {x : Int32} : Rv 260 865 ls (.int x :: st) w = if x = 0 then Rv 260 870 ls st w else Rv 260 868 ls st w := R_f0eq Q260 (by decide +kernel) rfl rfl
theorem e260_868 {ls : zL} {st : List Value} {w : zW} : Rv 260 868 ls st w = Rv 260 869 ls (.int 0 :: st) w := R_con Q260 (by decide +kernel) rfl (by decide)
theorem e260_869 {ls : zL} {w : zW} {x : Int32} : Rv 260 869 ls [.int x] w = if x = 0 ∨ x = 1 then some (.inl (some (.int x)), w) else none := R_retZ Q260 (by decide +kernel) rfl
theorem e260_870 {ls : zL} {st : List Value} {w : zW} : Rv 260 870 ls st w = Rv 260 1590 ls st w := R_go Q260 (by decide +kernel) rfl rfl
theorem e260_873 {ls : zL} {st : List Value} {w : zW} : Rv 260 873 ls st w = ldA ls 1 fun x => Rv 260 874 ls (x :: st) w := R_ldA Q260 (by decide +kernel) rfl
theorem e260_874 {ls : zL} {st : List Value} {w : zW} : Rv 260 874 ls st w = ldA ls 0 fun x => Rv 260 875 ls (x :: st) w := R_ldA Q260 (by decide +kernel) rfl
theorem e260_875 {ls : zL} {st : List Value} {w : zW} : Rv 260 875 ls st w = ldI ls 4 fun x => Rv 260 877 ls (.int x :: st) w := R_ldI Q260 (by decide +kernel) rfl
theorem e260_877 {ls : zL} {st : List Value} {w : zW} : Rv 260 877 ls st w = Rv 260 878 ls (.int 1 :: st) w := R_con Q260 (by decide +kernel) rfl (by decide)
theorem e260_878 {ls : zL} {st : List Value} {w : zW} {x y : Int32} : Rv 260 878 ls (.int y :: .int x :: st) w = Rv 260 879 ls (.int (x + y) :: st) w := R_next Q260 (by decide +kernel) rfl
theorem e260_879 {ls : zL} {st : List Value} {w : zW} {a : Nat} {x : Int32} : Rv 260 879 ls (.int x :: .ref a :: st) w = gI w a 0 8 x fun v => Rv 260 880 ls (.int v :: st) w := R_iald Q260 (by decide +kernel)
theorem e260_880 {ls : zL} {st : List Value} {w : zW} : Rv 260 880 ls st w = ldA ls 0 fun x => Rv 260 881 ls (x :: st) w := R_ldA Q260 (by decide +kernel) rfl
theorem e260_881 {ls : zL} {st : List Value} {w : zW} : Rv 260 881 ls st w = ldI ls 4 fun x => Rv 260 883 ls (.int x :: st) w := R_ldI Q260 (by decide +kernel) rfl
theorem e260_883 {ls : zL} {st : List Value} {w : zW} : Rv 260 883 ls st w = Rv 260 884 ls (.int 2 :: st) w := R_con Q260 (by decide +kernel) rfl (by decide)
theorem e260_884 {ls : zL} {st : List Value} {w : zW} {x y : Int32} : Rv 260 884 ls (.int y :: .int x :: st) w = Rv 260 885 ls (.int (x + y) :: st) w := R_next Q260 (by decide +kernel) rfl
theorem e260_885 {ls : zL} {st : List Value} {w : zW} {a : Nat} {x : Int32} : Rv 260 885 ls (.int x :: .ref a :: st) w = gI w a 0 8 x fun v => Rv 260 886 ls (.int v :: st) w := R_iald Q260 (by decide +kernel)
theorem e260_886 {ls : zL} {st : List Value} {w : zW} : Rv 260 886 ls st w = ldA ls 3 fun x => Rv 260 887 ls (x :: st) w := R_ldA Q260 (by decide +kernel) rfl
theorem e260_887 {ls : zL} {w : zW} {a1 : Nat} {n2 : Int32} {n3 : Int32} {a4 : Nat} : Rv 260 887 ls [.ref a1, .int n2, .int n3, .ref a4] w = cal (Rv 249 0 [some (.ref a4), some (.int n3), some (.int n2), some (.ref a1), none] [] w) (fun v w' => Rv 260 890 ls (vts v []) w') (xnone) := R_calS (z := 919) (kd := 4) (n := 4) Q260 (by decide +kernel) rfl (Or.inr rfl) (Nat.le_of_ble_eq_true rfl) rfl Q249 rfl rfl rfl
theorem e260_890 {ls : zL} {st : List Value} {w : zW} {x : Int32} : Rv 260 890 ls (.int x :: st) w = lst ls 5 (some (.int x)) fun l => Rv 260 892 l st w := R_st Q260 (by decide +kernel) rfl
theorem e260_892 {ls : zL} {st : List Value} {w : zW} : Rv 260 892 ls st w = ldA ls 2 fun x => Rv 260 893 ls (x :: st) w := R_ldA Q260 (by decide +kernel) rfl
theorem e260_893 {ls : zL} {st : List Value} {w : zW} : Rv 260 893 ls st w = ldA ls 0 fun x => Rv 260 894 ls (x :: st) w := R_ldA Q260 (by decide +kernel) rfl
theorem e260_894 {ls : zL} {st : List Value} {w : zW} : Rv 260 894 ls st w = ldI ls 4 fun x => Rv 260 896 ls (.int x :: st) w := R_ldI Q260 (by decide +kernel) rfl
theorem e260_896 {ls : zL} {st : List Value} {w : zW} : Rv 260 896 ls st w = Rv 260 897 ls (.int 1 :: st) w := R_con Q260 (by decide +kernel) rfl (by decide)
theorem e260_897 {ls : zL} {st : List Value} {w : zW} {x y : Int32} : Rv 260 897 ls (.int y :: .int x :: st) w = Rv 260 898 ls (.int (x + y) :: st) w := R_next Q260 (by decide +kernel) rfl
theorem e260_898 {ls : zL} {st : List Value} {w : zW} {a : Nat} {x : Int32} : Rv 260 898 ls (.int x :: .ref a :: st) w = gI w a 0 8 x fun v => Rv 260 899 ls (.int v :: st) w := R_iald Q260 (by decide +kernel)
theorem e260_899 {ls : zL} {st : List Value} {w : zW} : Rv 260 899 ls st w = ldA ls 0 fun x => Rv 260 900 ls (x :: st) w := R_ldA Q260 (by decide +kernel) rfl
theorem e260_900 {ls : zL} {st : List Value} {w : zW} : Rv 260 900 ls st w = ldI ls 4 fun x => Rv 260 902 ls (.int x :: st) w := R_ldI Q260 (by decide +kernel) rfl
theorem e260_902 {ls : zL} {st : List Value} {w : zW} : Rv 260 902 ls st w = Rv 260 903 ls (.int 2 :: st) w := R_con Q260 (by decide +kernel) rfl (by decide)
theorem e260_903 {ls : zL} {st : List Value} {w : zW} {x y : Int32} : Rv 260 903 ls (.int y :: .int x :: st) w = Rv 260 904 ls (.int (x + y) :: st) w := R_next Q260 (by decide +kernel) rfl
theorem e260_904 {ls : zL} {st : List Value} {w : zW} {a : Nat} {x : Int32} : Rv 260 904 ls (.int x :: .ref a :: st) w = gI w a 0 8 x fun v => Rv 260 905 ls (.int v :: st) w := R_iald Q260 (by decide +kernel)
theorem e260_905 {ls : zL} {w : zW} {n1 : Int32} {n2 : Int32} {a0 : Nat} : Rv 260 905 ls [.int n1, .int n2, .ref a0] w = hO w a0 6 (cal (Rv 198 0 [some (.ref a0), some (.int n2), some (.int n1)] [] w) (fun v w' => Rv 260 908 ls (vts v []) w') (xnone)) := R_calV (z := 1295) (r := []) Q260 (by decide +kernel) rfl rfl Q198 rfl rfl rfl
theorem e260_908 {ls : zL} {st : List Value} {w : zW} {x : Int32} : Rv 260 908 ls (.int x :: st) w = lst ls 6 (some (.int x)) fun l => Rv 260 910 l st w := R_st Q260 (by decide +kernel) rfl
theorem e260_910 {ls : zL} {st : List Value} {w : zW} : Rv 260 910 ls st w = ldA ls 2 fun x => Rv 260 911 ls (x :: st) w := R_ldA Q260 (by decide +kernel) rfl
theorem e260_911 {ls : zL} {w : zW} {a0 : Nat} : Rv 260 911 ls [.ref a0] w = hO w a0 6 (cal (Rv 140 0 [some (.ref a0)] [] w) (fun v w' => Rv 260 914 ls (vts v []) w') (xnone)) := R_calV (z := 1107) (r := []) Q260 (by decide +kernel) rfl rfl Q140 rfl rfl rfl
theorem e260_914 {ls : zL} {st : List Value} {w : zW} : Rv 260 914 ls st w = ldI ls 5 fun x => Rv 260 916 ls (.int x :: st) w := R_ldI Q260 (by decide +kernel) rfl
theorem e260_916 {ls : zL} {st : List Value} {w : zW} {x y : Int32} : Rv 260 916 ls (.int y :: .int x :: st) w = if x = y then Rv 260 921 ls st w else Rv 260 919 ls st w := R_fieq Q260 (by decide +kernel) rfl rfl
theorem e260_919 {ls : zL} {st : List Value} {w : zW} : Rv 260 919 ls st w = Rv 260 920 ls (.int 0 :: st) w := R_con Q260 (by decide +kernel) rfl (by decide)
theorem e260_920 {ls : zL} {w : zW} {x : Int32} : Rv 260 920 ls [.int x] w = if x = 0 ∨ x = 1 then some (.inl (some (.int x)), w) else none := R_retZ Q260 (by decide +kernel) rfl
theorem e260_921 {ls : zL} {st : List Value} {w : zW} : Rv 260 921 ls st w = ldI ls 5 fun x => Rv 260 923 ls (.int x :: st) w := R_ldI Q260 (by decide +kernel) rfl
theorem e260_923 {ls : zL} {st : List Value} {w : zW} {x : Int32} : Rv 260 923 ls (.int x :: st) w = if x = 0 then Rv 260 926 ls st w else Rv 260 938 ls st w := R_f0ne Q260 (by decide +kernel) rfl rfl
theorem e260_926 {ls : zL} {st : List Value} {w : zW} : Rv 260 926 ls st w = ldA ls 3 fun x => Rv 260 927 ls (x :: st) w := R_ldA Q260 (by decide +kernel) rfl
theorem e260_927 {ls : zL} {st : List Value} {w : zW} : Rv 260 927 ls st w = Rv 260 928 ls (.int 0 :: st) w := R_con Q260 (by decide +kernel) rfl (by decide)
theorem e260_928 {ls : zL} {st : List Value} {w : zW} {a : Nat} {x : Int32} : Rv 260 928 ls (.int x :: .ref a :: st) w = gL w a x fun v => Rv 260 929 ls (.long v :: st) w := R_lald Q260 (by decide +kernel)
theorem e260_929 {ls : zL} {st : List Value} {w : zW} : Rv 260 929 ls st w = ldI ls 6 fun x => Rv 260 931 ls (.int x :: st) w := R_ldI Q260 (by decide +kernel) rfl
theorem e260_931 {ls : zL} {st : List Value} {w : zW} {x : Int32} : Rv 260 931 ls (.int x :: st) w = Rv 260 932 ls (.long x.toInt64 :: st) w := R_next Q260 (by decide +kernel) rfl
theorem e260_932 {ls : zL} {st : List Value} {w : zW} {x y : Int64} : Rv 260 932 ls (.long y :: .long x :: st) w = Rv 260 933 ls (.int (lg_cmp x y) :: st) w := R_next Q260 (by decide +kernel) rfl
theorem e260_933 {ls : zL} {st : List Value} {w : zW} {x : Int32} : Rv 260 933 ls (.int x :: st) w = if x = 0 then Rv 260 938 ls st w else Rv 260 936 ls st w := R_f0eq Q260 (by decide +kernel) rfl rfl
theorem e260_936 {ls : zL} {st : List Value} {w : zW} : Rv 260 936 ls st w = Rv 260 937 ls (.int 0 :: st) w := R_con Q260 (by decide +kernel) rfl (by decide)
theorem e260_937 {ls : zL} {w : zW} {x : Int32} : Rv 260 937 ls [.int x] w = if x = 0 ∨ x = 1 then some (.inl (some (.int x)), w) else none := R_retZ Q260 (by decide +kernel) rfl
theorem e260_938 {ls : zL} {st : List Value} {w : zW} : Rv 260 938 ls st w = Rv 260 1590 ls st w := R_go Q260 (by decide +kernel) rfl rfl
theorem e260_941 {ls : zL} {st : List Value} {w : zW} : Rv 260 941 ls st w = ldA ls 1 fun x => Rv 260 942 ls (x :: st) w := R_ldA Q260 (by decide +kernel) rfl
theorem e260_942 {ls : zL} {st : List Value} {w : zW} : Rv 260 942 ls st w = ldA ls 0 fun x => Rv 260 943 ls (x :: st) w := R_ldA Q260 (by decide +kernel) rfl
theorem e260_943 {ls : zL} {st : List Value} {w : zW} : Rv 260 943 ls st w = ldI ls 4 fun x => Rv 260 945 ls (.int x :: st) w := R_ldI Q260 (by decide +kernel) rfl
theorem e260_945 {ls : zL} {st : List Value} {w : zW} : Rv 260 945 ls st w = Rv 260 946 ls (.int 1 :: st) w := R_con Q260 (by decide +kernel) rfl (by decide)
theorem e260_946 {ls : zL} {st : List Value} {w : zW} {x y : Int32} : Rv 260 946 ls (.int y :: .int x :: st) w = Rv 260 947 ls (.int (x + y) :: st) w := R_next Q260 (by decide +kernel) rfl
theorem e260_947 {ls : zL} {st : List Value} {w : zW} {a : Nat} {x : Int32} : Rv 260 947 ls (.int x :: .ref a :: st) w = gI w a 0 8 x fun v => Rv 260 948 ls (.int v :: st) w := R_iald Q260 (by decide +kernel)
theorem e260_948 {ls : zL} {st : List Value} {w : zW} : Rv 260 948 ls st w = ldA ls 0 fun x => Rv 260 949 ls (x :: st) w := R_ldA Q260 (by decide +kernel) rfl
theorem e260_949 {ls : zL} {st : List Value} {w : zW} : Rv 260 949 ls st w = ldI ls 4 fun x => Rv 260 951 ls (.int x :: st) w := R_ldI Q260 (by decide +kernel) rfl
theorem e260_951 {ls : zL} {st : List Value} {w : zW} : Rv 260 951 ls st w = Rv 260 952 ls (.int 2 :: st) w := R_con Q260 (by decide +kernel) rfl (by decide)
theorem e260_952 {ls : zL} {st : List Value} {w : zW} {x y : Int32} : Rv 260 952 ls (.int y :: .int x :: st) w = Rv 260 953 ls (.int (x + y) :: st) w := R_next Q260 (by decide +kernel) rfl
theorem e260_953 {ls : zL} {st : List Value} {w : zW} {a : Nat} {x : Int32} : Rv 260 953 ls (.int x :: .ref a :: st) w = gI w a 0 8 x fun v => Rv 260 954 ls (.int v :: st) w := R_iald Q260 (by decide +kernel)
theorem e260_954 {ls : zL} {st : List Value} {w : zW} : Rv 260 954 ls st w = ldA ls 3 fun x => Rv 260 955 ls (x :: st) w := R_ldA Q260 (by decide +kernel) rfl
theorem e260_955 {ls : zL} {w : zW} {a1 : Nat} {n2 : Int32} {n3 : Int32} {a4 : Nat} : Rv 260 955 ls [.ref a1, .int n2, .int n3, .ref a4] w = cal (Rv 250 0 [some (.ref a4), some (.int n3), some (.int n2), some (.ref a1), none] [] w) (fun v w' => Rv 260 958 ls (vts v []) w') (xnone) := R_calS (z := 926) (kd := 4) (n := 4) Q260 (by decide +kernel) rfl (Or.inr rfl) (Nat.le_of_ble_eq_true rfl) rfl Q250 rfl rfl rfl
theorem e260_958 {ls : zL} {st : List Value} {w : zW} {x : Int32} : Rv 260 958 ls (.int x :: st) w = lst ls 5 (some (.int x)) fun l => Rv 260 960 l st w := R_st Q260 (by decide +kernel) rfl
theorem e260_960 {ls : zL} {st : List Value} {w : zW} : Rv 260 960 ls st w = ldA ls 2 fun x => Rv 260 961 ls (x :: st) w := R_ldA Q260 (by decide +kernel) rfl
theorem e260_961 {ls : zL} {st : List Value} {w : zW} : Rv 260 961 ls st w = ldA ls 0 fun x => Rv 260 962 ls (x :: st) w := R_ldA Q260 (by decide +kernel) rfl
theorem e260_962 {ls : zL} {st : List Value} {w : zW} : Rv 260 962 ls st w = ldI ls 4 fun x => Rv 260 964 ls (.int x :: st) w := R_ldI Q260 (by decide +kernel) rfl
theorem e260_964 {ls : zL} {st : List Value} {w : zW} : Rv 260 964 ls st w = Rv 260 965 ls (.int 1 :: st) w := R_con Q260 (by decide +kernel) rfl (by decide)
theorem e260_965 {ls : zL} {st : List Value} {w : zW} {x y : Int32} : Rv 260 965 ls (.int y :: .int x :: st) w = Rv 260 966 ls (.int (x + y) :: st) w := R_next Q260 (by decide +kernel) rfl
theorem e260_966 {ls : zL} {st : List Value} {w : zW} {a : Nat} {x : Int32} : Rv 260 966 ls (.int x :: .ref a :: st) w = gI w a 0 8 x fun v => Rv 260 967 ls (.int v :: st) w := R_iald Q260 (by decide +kernel)
theorem e260_967 {ls : zL} {st : List Value} {w : zW} : Rv 260 967 ls st w = ldA ls 0 fun x => Rv 260 968 ls (x :: st) w := R_ldA Q260 (by decide +kernel) rfl
theorem e260_968 {ls : zL} {st : List Value} {w : zW} : Rv 260 968 ls st w = ldI ls 4 fun x => Rv 260 970 ls (.int x :: st) w := R_ldI Q260 (by decide +kernel) rfl
theorem e260_970 {ls : zL} {st : List Value} {w : zW} : Rv 260 970 ls st w = Rv 260 971 ls (.int 2 :: st) w := R_con Q260 (by decide +kernel) rfl (by decide)
theorem e260_971 {ls : zL} {st : List Value} {w : zW} {x y : Int32} : Rv 260 971 ls (.int y :: .int x :: st) w = Rv 260 972 ls (.int (x + y) :: st) w := R_next Q260 (by decide +kernel) rfl
theorem e260_972 {ls : zL} {st : List Value} {w : zW} {a : Nat} {x : Int32} : Rv 260 972 ls (.int x :: .ref a :: st) w = gI w a 0 8 x fun v => Rv 260 973 ls (.int v :: st) w := R_iald Q260 (by decide +kernel)
theorem e260_973 {ls : zL} {w : zW} {n1 : Int32} {n2 : Int32} {a0 : Nat} : Rv 260 973 ls [.int n1, .int n2, .ref a0] w = hO w a0 6 (cal (Rv 199 0 [some (.ref a0), some (.int n2), some (.int n1)] [] w) (fun v w' => Rv 260 976 ls (vts v []) w') (xnone)) := R_calV (z := 1335) (r := []) Q260 (by decide +kernel) rfl rfl Q199 rfl rfl rfl
theorem e260_976 {ls : zL} {st : List Value} {w : zW} {x : Int32} : Rv 260 976 ls (.int x :: st) w = lst ls 6 (some (.int x)) fun l => Rv 260 978 l st w := R_st Q260 (by decide +kernel) rfl
theorem e260_978 {ls : zL} {st : List Value} {w : zW} : Rv 260 978 ls st w = ldA ls 2 fun x => Rv 260 979 ls (x :: st) w := R_ldA Q260 (by decide +kernel) rfl
theorem e260_979 {ls : zL} {w : zW} {a0 : Nat} : Rv 260 979 ls [.ref a0] w = hO w a0 6 (cal (Rv 140 0 [some (.ref a0)] [] w) (fun v w' => Rv 260 982 ls (vts v []) w') (xnone)) := R_calV (z := 1107) (r := []) Q260 (by decide +kernel) rfl rfl Q140 rfl rfl rfl
theorem e260_982 {ls : zL} {st : List Value} {w : zW} : Rv 260 982 ls st w = ldI ls 5 fun x => Rv 260 984 ls (.int x :: st) w := R_ldI Q260 (by decide +kernel) rfl
theorem e260_984 {ls : zL} {st : List Value} {w : zW} {x y : Int32} : Rv 260 984 ls (.int y :: .int x :: st) w = if x = y then Rv 260 989 ls st w else Rv 260 987 ls st w := R_fieq Q260 (by decide +kernel) rfl rfl
theorem e260_987 {ls : zL} {st : List Value} {w : zW} : Rv 260 987 ls st w = Rv 260 988 ls (.int 0 :: st) w := R_con Q260 (by decide +kernel) rfl (by decide)
theorem e260_988 {ls : zL} {w : zW} {x : Int32} : Rv 260 988 ls [.int x] w = if x = 0 ∨ x = 1 then some (.inl (some (.int x)), w) else none := R_retZ Q260 (by decide +kernel) rfl
theorem e260_989 {ls : zL} {st : List Value} {w : zW} : Rv 260 989 ls st w = ldI ls 5 fun x => Rv 260 991 ls (.int x :: st) w := R_ldI Q260 (by decide +kernel) rfl
theorem e260_991 {ls : zL} {st : List Value} {w : zW} {x : Int32} : Rv 260 991 ls (.int x :: st) w = if x = 0 then Rv 260 994 ls st w else Rv 260 1006 ls st w := R_f0ne Q260 (by decide +kernel) rfl rfl
theorem e260_994 {ls : zL} {st : List Value} {w : zW} : Rv 260 994 ls st w = ldA ls 3 fun x => Rv 260 995 ls (x :: st) w := R_ldA Q260 (by decide +kernel) rfl
theorem e260_995 {ls : zL} {st : List Value} {w : zW} : Rv 260 995 ls st w = Rv 260 996 ls (.int 0 :: st) w := R_con Q260 (by decide +kernel) rfl (by decide)
theorem e260_996 {ls : zL} {st : List Value} {w : zW} {a : Nat} {x : Int32} : Rv 260 996 ls (.int x :: .ref a :: st) w = gL w a x fun v => Rv 260 997 ls (.long v :: st) w := R_lald Q260 (by decide +kernel)
theorem e260_997 {ls : zL} {st : List Value} {w : zW} : Rv 260 997 ls st w = ldI ls 6 fun x => Rv 260 999 ls (.int x :: st) w := R_ldI Q260 (by decide +kernel) rfl
theorem e260_999 {ls : zL} {st : List Value} {w : zW} {x : Int32} : Rv 260 999 ls (.int x :: st) w = Rv 260 1000 ls (.long x.toInt64 :: st) w := R_next Q260 (by decide +kernel) rfl
theorem e260_1000 {ls : zL} {st : List Value} {w : zW} {x y : Int64} : Rv 260 1000 ls (.long y :: .long x :: st) w = Rv 260 1001 ls (.int (lg_cmp x y) :: st) w := R_next Q260 (by decide +kernel) rfl
theorem e260_1001 {ls : zL} {st : List Value} {w : zW} {x : Int32} : Rv 260 1001 ls (.int x :: st) w = if x = 0 then Rv 260 1006 ls st w else Rv 260 1004 ls st w := R_f0eq Q260 (by decide +kernel) rfl rfl
theorem e260_1004 {ls : zL} {st : List Value} {w : zW} : Rv 260 1004 ls st w = Rv 260 1005 ls (.int 0 :: st) w := R_con Q260 (by decide +kernel) rfl (by decide)
theorem e260_1005 {ls : zL} {w : zW} {x : Int32} : Rv 260 1005 ls [.int x] w = if x = 0 ∨ x = 1 then some (.inl (some (.int x)), w) else none := R_retZ Q260 (by decide +kernel) rfl
theorem e260_1006 {ls : zL} {st : List Value} {w : zW} : Rv 260 1006 ls st w = Rv 260 1590 ls st w := R_go Q260 (by decide +kernel) rfl rfl
theorem e260_1009 {ls : zL} {st : List Value} {w : zW} : Rv 260 1009 ls st w = ldA ls 1 fun x => Rv 260 1010 ls (x :: st) w := R_ldA Q260 (by decide +kernel) rfl
theorem e260_1010 {ls : zL} {st : List Value} {w : zW} : Rv 260 1010 ls st w = ldA ls 0 fun x => Rv 260 1011 ls (x :: st) w := R_ldA Q260 (by decide +kernel) rfl
theorem e260_1011 {ls : zL} {st : List Value} {w : zW} : Rv 260 1011 ls st w = ldI ls 4 fun x => Rv 260 1013 ls (.int x :: st) w := R_ldI Q260 (by decide +kernel) rfl
theorem e260_1013 {ls : zL} {st : List Value} {w : zW} : Rv 260 1013 ls st w = Rv 260 1014 ls (.int 1 :: st) w := R_con Q260 (by decide +kernel) rfl (by decide)
theorem e260_1014 {ls : zL} {st : List Value} {w : zW} {x y : Int32} : Rv 260 1014 ls (.int y :: .int x :: st) w = Rv 260 1015 ls (.int (x + y) :: st) w := R_next Q260 (by decide +kernel) rfl
theorem e260_1015 {ls : zL} {st : List Value} {w : zW} {a : Nat} {x : Int32} : Rv 260 1015 ls (.int x :: .ref a :: st) w = gI w a 0 8 x fun v => Rv 260 1016 ls (.int v :: st) w := R_iald Q260 (by decide +kernel)
theorem e260_1016 {ls : zL} {st : List Value} {w : zW} : Rv 260 1016 ls st w = ldA ls 3 fun x => Rv 260 1017 ls (x :: st) w := R_ldA Q260 (by decide +kernel) rfl
theorem e260_1017 {ls : zL} {w : zW} {a1 : Nat} {n2 : Int32} {a3 : Nat} : Rv 260 1017 ls [.ref a1, .int n2, .ref a3] w = cal (Rv 251 0 [some (.ref a3), some (.int n2), some (.ref a1), none] [] w) (fun v w' => Rv 260 1020 ls (vts v []) w') (xnone) := R_calS (z := 937) (kd := 4) (n := 3) Q260 (by decide +kernel) rfl (Or.inr rfl) (Nat.le_of_ble_eq_true rfl) rfl Q251 rfl rfl rfl
theorem e260_1020 {ls : zL} {st : List Value} {w : zW} {x : Int32} : Rv 260 1020 ls (.int x :: st) w = lst ls 5 (some (.int x)) fun l => Rv 260 1022 l st w := R_st Q260 (by decide +kernel) rfl
theorem e260_1022 {ls : zL} {st : List Value} {w : zW} : Rv 260 1022 ls st w = ldA ls 2 fun x => Rv 260 1023 ls (x :: st) w := R_ldA Q260 (by decide +kernel) rfl
theorem e260_1023 {ls : zL} {st : List Value} {w : zW} : Rv 260 1023 ls st w = ldA ls 0 fun x => Rv 260 1024 ls (x :: st) w := R_ldA Q260 (by decide +kernel) rfl
theorem e260_1024 {ls : zL} {st : List Value} {w : zW} : Rv 260 1024 ls st w = ldI ls 4 fun x => Rv 260 1026 ls (.int x :: st) w := R_ldI Q260 (by decide +kernel) rfl
theorem e260_1026 {ls : zL} {st : List Value} {w : zW} : Rv 260 1026 ls st w = Rv 260 1027 ls (.int 1 :: st) w := R_con Q260 (by decide +kernel) rfl (by decide)
theorem e260_1027 {ls : zL} {st : List Value} {w : zW} {x y : Int32} : Rv 260 1027 ls (.int y :: .int x :: st) w = Rv 260 1028 ls (.int (x + y) :: st) w := R_next Q260 (by decide +kernel) rfl
theorem e260_1028 {ls : zL} {st : List Value} {w : zW} {a : Nat} {x : Int32} : Rv 260 1028 ls (.int x :: .ref a :: st) w = gI w a 0 8 x fun v => Rv 260 1029 ls (.int v :: st) w := R_iald Q260 (by decide +kernel)
theorem e260_1029 {ls : zL} {w : zW} {n1 : Int32} {a0 : Nat} : Rv 260 1029 ls [.int n1, .ref a0] w = hO w a0 6 (cal (Rv 202 0 [some (.ref a0), some (.int n1)] [] w) (fun v w' => Rv 260 1032 ls (vts v []) w') (xnone)) := R_calV (z := 1339) (r := []) Q260 (by decide +kernel) rfl rfl Q202 rfl rfl rfl
theorem e260_1032 {ls : zL} {st : List Value} {w : zW} {x : Int32} : Rv 260 1032 ls (.int x :: st) w = lst ls 6 (some (.int x)) fun l => Rv 260 1034 l st w := R_st Q260 (by decide +kernel) rfl
theorem e260_1034 {ls : zL} {st : List Value} {w : zW} : Rv 260 1034 ls st w = ldA ls 2 fun x => Rv 260 1035 ls (x :: st) w := R_ldA Q260 (by decide +kernel) rfl
theorem e260_1035 {ls : zL} {w : zW} {a0 : Nat} : Rv 260 1035 ls [.ref a0] w = hO w a0 6 (cal (Rv 140 0 [some (.ref a0)] [] w) (fun v w' => Rv 260 1038 ls (vts v []) w') (xnone)) := R_calV (z := 1107) (r := []) Q260 (by decide +kernel) rfl rfl Q140 rfl rfl rfl
theorem e260_1038 {ls : zL} {st : List Value} {w : zW} : Rv 260 1038 ls st w = ldI ls 5 fun x => Rv 260 1040 ls (.int x :: st) w := R_ldI Q260 (by decide +kernel) rfl
theorem e260_1040 {ls : zL} {st : List Value} {w : zW} {x y : Int32} : Rv 260 1040 ls (.int y :: .int x :: st) w = if x = y then Rv 260 1045 ls st w else Rv 260 1043 ls st w := R_fieq Q260 (by decide +kernel) rfl rfl
theorem e260_1043 {ls : zL} {st : List Value} {w : zW} : Rv 260 1043 ls st w = Rv 260 1044 ls (.int 0 :: st) w := R_con Q260 (by decide +kernel) rfl (by decide)
theorem e260_1044 {ls : zL} {w : zW} {x : Int32} : Rv 260 1044 ls [.int x] w = if x = 0 ∨ x = 1 then some (.inl (some (.int x)), w) else none := R_retZ Q260 (by decide +kernel) rfl
theorem e260_1045 {ls : zL} {st : List Value} {w : zW} : Rv 260 1045 ls st w = ldI ls 5 fun x => Rv 260 1047 ls (.int x :: st) w := R_ldI Q260 (by decide +kernel) rfl
theorem e260_1047 {ls : zL} {st : List Value} {w : zW} {x : Int32} : Rv 260 1047 ls (.int x :: st) w = if x = 0 then Rv 260 1050 ls st w else Rv 260 1062 ls st w := R_f0ne Q260 (by decide +kernel) rfl rfl
theorem e260_1050 {ls : zL} {st : List Value} {w : zW} : Rv 260 1050 ls st w = ldA ls 3 fun x => Rv 260 1051 ls (x :: st) w := R_ldA Q260 (by decide +kernel) rfl
theorem e260_1051 {ls : zL} {st : List Value} {w : zW} : Rv 260 1051 ls st w = Rv 260 1052 ls (.int 0 :: st) w := R_con Q260 (by decide +kernel) rfl (by decide)
theorem e260_1052 {ls : zL} {st : List Value} {w : zW} {a : Nat} {x : Int32} : Rv 260 1052 ls (.int x :: .ref a :: st) w = gL w a x fun v => Rv 260 1053 ls (.long v :: st) w := R_lald Q260 (by decide +kernel)
theorem e260_1053 {ls : zL} {st : List Value} {w : zW} : Rv 260 1053 ls st w = ldI ls 6 fun x => Rv 260 1055 ls (.int x :: st) w := R_ldI Q260 (by decide +kernel) rfl
theorem e260_1055 {ls : zL} {st : List Value} {w : zW} {x : Int32} : Rv 260 1055 ls (.int x :: st) w = Rv 260 1056 ls (.long x.toInt64 :: st) w := R_next Q260 (by decide +kernel) rfl
theorem e260_1056 {ls : zL} {st : List Value} {w : zW} {x y : Int64} : Rv 260 1056 ls (.long y :: .long x :: st) w = Rv 260 1057 ls (.int (lg_cmp x y) :: st) w := R_next Q260 (by decide +kernel) rfl
theorem e260_1057 {ls : zL} {st : List Value} {w : zW} {x : Int32} : Rv 260 1057 ls (.int x :: st) w = if x = 0 then Rv 260 1062 ls st w else Rv 260 1060 ls st w := R_f0eq Q260 (by decide +kernel) rfl rfl
theorem e260_1060 {ls : zL} {st : List Value} {w : zW} : Rv 260 1060 ls st w = Rv 260 1061 ls (.int 0 :: st) w := R_con Q260 (by decide +kernel) rfl (by decide)
theorem e260_1061 {ls : zL} {w : zW} {x : Int32} : Rv 260 1061 ls [.int x] w = if x = 0 ∨ x = 1 then some (.inl (some (.int x)), w) else none := R_retZ Q260 (by decide +kernel) rfl
theorem e260_1062 {ls : zL} {st : List Value} {w : zW} : Rv 260 1062 ls st w = Rv 260 1590 ls st w := R_go Q260 (by decide +kernel) rfl rfl
theorem e260_1065 {ls : zL} {st : List Value} {w : zW} : Rv 260 1065 ls st w = ldA ls 1 fun x => Rv 260 1066 ls (x :: st) w := R_ldA Q260 (by decide +kernel) rfl
theorem e260_1066 {ls : zL} {st : List Value} {w : zW} : Rv 260 1066 ls st w = ldA ls 0 fun x => Rv 260 1067 ls (x :: st) w := R_ldA Q260 (by decide +kernel) rfl
theorem e260_1067 {ls : zL} {st : List Value} {w : zW} : Rv 260 1067 ls st w = ldI ls 4 fun x => Rv 260 1069 ls (.int x :: st) w := R_ldI Q260 (by decide +kernel) rfl
theorem e260_1069 {ls : zL} {st : List Value} {w : zW} : Rv 260 1069 ls st w = Rv 260 1070 ls (.int 1 :: st) w := R_con Q260 (by decide +kernel) rfl (by decide)
theorem e260_1070 {ls : zL} {st : List Value} {w : zW} {x y : Int32} : Rv 260 1070 ls (.int y :: .int x :: st) w = Rv 260 1071 ls (.int (x + y) :: st) w := R_next Q260 (by decide +kernel) rfl
theorem e260_1071 {ls : zL} {st : List Value} {w : zW} {a : Nat} {x : Int32} : Rv 260 1071 ls (.int x :: .ref a :: st) w = gI w a 0 8 x fun v => Rv 260 1072 ls (.int v :: st) w := R_iald Q260 (by decide +kernel)
theorem e260_1072 {ls : zL} {st : List Value} {w : zW} : Rv 260 1072 ls st w = ldA ls 0 fun x => Rv 260 1073 ls (x :: st) w := R_ldA Q260 (by decide +kernel) rfl
theorem e260_1073 {ls : zL} {st : List Value} {w : zW} : Rv 260 1073 ls st w = ldI ls 4 fun x => Rv 260 1075 ls (.int x :: st) w := R_ldI Q260 (by decide +kernel) rfl
theorem e260_1075 {ls : zL} {st : List Value} {w : zW} : Rv 260 1075 ls st w = Rv 260 1076 ls (.int 2 :: st) w := R_con Q260 (by decide +kernel) rfl (by decide)
theorem e260_1076 {ls : zL} {st : List Value} {w : zW} {x y : Int32} : Rv 260 1076 ls (.int y :: .int x :: st) w = Rv 260 1077 ls (.int (x + y) :: st) w := R_next Q260 (by decide +kernel) rfl
theorem e260_1077 {ls : zL} {st : List Value} {w : zW} {a : Nat} {x : Int32} : Rv 260 1077 ls (.int x :: .ref a :: st) w = gI w a 0 8 x fun v => Rv 260 1078 ls (.int v :: st) w := R_iald Q260 (by decide +kernel)
theorem e260_1078 {ls : zL} {st : List Value} {w : zW} : Rv 260 1078 ls st w = ldA ls 3 fun x => Rv 260 1079 ls (x :: st) w := R_ldA Q260 (by decide +kernel) rfl
theorem e260_1079 {ls : zL} {w : zW} {a1 : Nat} {n2 : Int32} {n3 : Int32} {a4 : Nat} : Rv 260 1079 ls [.ref a1, .int n2, .int n3, .ref a4] w = cal (Rv 252 0 [some (.ref a4), some (.int n3), some (.int n2), some (.ref a1), none] [] w) (fun v w' => Rv 260 1082 ls (vts v []) w') (xnone) := R_calS (z := 944) (kd := 4) (n := 4) Q260 (by decide +kernel) rfl (Or.inr rfl) (Nat.le_of_ble_eq_true rfl) rfl Q252 rfl rfl rfl
theorem e260_1082 {ls : zL} {st : List Value} {w : zW} {x : Int32} : Rv 260 1082 ls (.int x :: st) w = lst ls 5 (some (.int x)) fun l => Rv 260 1084 l st w := R_st Q260 (by decide +kernel) rfl
theorem e260_1084 {ls : zL} {st : List Value} {w : zW} : Rv 260 1084 ls st w = ldA ls 2 fun x => Rv 260 1085 ls (x :: st) w := R_ldA Q260 (by decide +kernel) rfl
theorem e260_1085 {ls : zL} {st : List Value} {w : zW} : Rv 260 1085 ls st w = ldA ls 0 fun x => Rv 260 1086 ls (x :: st) w := R_ldA Q260 (by decide +kernel) rfl
theorem e260_1086 {ls : zL} {st : List Value} {w : zW} : Rv 260 1086 ls st w = ldI ls 4 fun x => Rv 260 1088 ls (.int x :: st) w := R_ldI Q260 (by decide +kernel) rfl
theorem e260_1088 {ls : zL} {st : List Value} {w : zW} : Rv 260 1088 ls st w = Rv 260 1089 ls (.int 1 :: st) w := R_con Q260 (by decide +kernel) rfl (by decide)
theorem e260_1089 {ls : zL} {st : List Value} {w : zW} {x y : Int32} : Rv 260 1089 ls (.int y :: .int x :: st) w = Rv 260 1090 ls (.int (x + y) :: st) w := R_next Q260 (by decide +kernel) rfl
theorem e260_1090 {ls : zL} {st : List Value} {w : zW} {a : Nat} {x : Int32} : Rv 260 1090 ls (.int x :: .ref a :: st) w = gI w a 0 8 x fun v => Rv 260 1091 ls (.int v :: st) w := R_iald Q260 (by decide +kernel)
theorem e260_1091 {ls : zL} {st : List Value} {w : zW} : Rv 260 1091 ls st w = ldA ls 0 fun x => Rv 260 1092 ls (x :: st) w := R_ldA Q260 (by decide +kernel) rfl
theorem e260_1092 {ls : zL} {st : List Value} {w : zW} : Rv 260 1092 ls st w = ldI ls 4 fun x => Rv 260 1094 ls (.int x :: st) w := R_ldI Q260 (by decide +kernel) rfl
theorem e260_1094 {ls : zL} {st : List Value} {w : zW} : Rv 260 1094 ls st w = Rv 260 1095 ls (.int 2 :: st) w := R_con Q260 (by decide +kernel) rfl (by decide)
theorem e260_1095 {ls : zL} {st : List Value} {w : zW} {x y : Int32} : Rv 260 1095 ls (.int y :: .int x :: st) w = Rv 260 1096 ls (.int (x + y) :: st) w := R_next Q260 (by decide +kernel) rfl
theorem e260_1096 {ls : zL} {st : List Value} {w : zW} {a : Nat} {x : Int32} : Rv 260 1096 ls (.int x :: .ref a :: st) w = gI w a 0 8 x fun v => Rv 260 1097 ls (.int v :: st) w := R_iald Q260 (by decide +kernel)
theorem e260_1097 {ls : zL} {w : zW} {n1 : Int32} {n2 : Int32} {a0 : Nat} : Rv 260 1097 ls [.int n1, .int n2, .ref a0] w = hO w a0 6 (cal (Rv 206 0 [some (.ref a0), some (.int n2), some (.int n1)] [] w) (fun v w' => Rv 260 1100 ls (vts v []) w') (xnone)) := R_calV (z := 1355) (r := []) Q260 (by decide +kernel) rfl rfl Q206 rfl rfl rfl
theorem e260_1100 {ls : zL} {st : List Value} {w : zW} {x : Int32} : Rv 260 1100 ls (.int x :: st) w = lst ls 6 (some (.int x)) fun l => Rv 260 1102 l st w := R_st Q260 (by decide +kernel) rfl
theorem e260_1102 {ls : zL} {st : List Value} {w : zW} : Rv 260 1102 ls st w = ldA ls 2 fun x => Rv 260 1103 ls (x :: st) w := R_ldA Q260 (by decide +kernel) rfl
theorem e260_1103 {ls : zL} {w : zW} {a0 : Nat} : Rv 260 1103 ls [.ref a0] w = hO w a0 6 (cal (Rv 140 0 [some (.ref a0)] [] w) (fun v w' => Rv 260 1106 ls (vts v []) w') (xnone)) := R_calV (z := 1107) (r := []) Q260 (by decide +kernel) rfl rfl Q140 rfl rfl rfl
theorem e260_1106 {ls : zL} {st : List Value} {w : zW} : Rv 260 1106 ls st w = ldI ls 5 fun x => Rv 260 1108 ls (.int x :: st) w := R_ldI Q260 (by decide +kernel) rfl
theorem e260_1108 {ls : zL} {st : List Value} {w : zW} {x y : Int32} : Rv 260 1108 ls (.int y :: .int x :: st) w = if x = y then Rv 260 1113 ls st w else Rv 260 1111 ls st w := R_fieq Q260 (by decide +kernel) rfl rfl
theorem e260_1111 {ls : zL} {st : List Value} {w : zW} : Rv 260 1111 ls st w = Rv 260 1112 ls (.int 0 :: st) w := R_con Q260 (by decide +kernel) rfl (by decide)
theorem e260_1112 {ls : zL} {w : zW} {x : Int32} : Rv 260 1112 ls [.int x] w = if x = 0 ∨ x = 1 then some (.inl (some (.int x)), w) else none := R_retZ Q260 (by decide +kernel) rfl
theorem e260_1113 {ls : zL} {st : List Value} {w : zW} : Rv 260 1113 ls st w = ldI ls 5 fun x => Rv 260 1115 ls (.int x :: st) w := R_ldI Q260 (by decide +kernel) rfl
theorem e260_1115 {ls : zL} {st : List Value} {w : zW} {x : Int32} : Rv 260 1115 ls (.int x :: st) w = if x = 0 then Rv 260 1118 ls st w else Rv 260 1130 ls st w := R_f0ne Q260 (by decide +kernel) rfl rfl
theorem e260_1118 {ls : zL} {st : List Value} {w : zW} : Rv 260 1118 ls st w = ldA ls 3 fun x => Rv 260 1119 ls (x :: st) w := R_ldA Q260 (by decide +kernel) rfl
theorem e260_1119 {ls : zL} {st : List Value} {w : zW} : Rv 260 1119 ls st w = Rv 260 1120 ls (.int 0 :: st) w := R_con Q260 (by decide +kernel) rfl (by decide)
theorem e260_1120 {ls : zL} {st : List Value} {w : zW} {a : Nat} {x : Int32} : Rv 260 1120 ls (.int x :: .ref a :: st) w = gL w a x fun v => Rv 260 1121 ls (.long v :: st) w := R_lald Q260 (by decide +kernel)
theorem e260_1121 {ls : zL} {st : List Value} {w : zW} : Rv 260 1121 ls st w = ldI ls 6 fun x => Rv 260 1123 ls (.int x :: st) w := R_ldI Q260 (by decide +kernel) rfl
theorem e260_1123 {ls : zL} {st : List Value} {w : zW} {x : Int32} : Rv 260 1123 ls (.int x :: st) w = Rv 260 1124 ls (.long x.toInt64 :: st) w := R_next Q260 (by decide +kernel) rfl
theorem e260_1124 {ls : zL} {st : List Value} {w : zW} {x y : Int64} : Rv 260 1124 ls (.long y :: .long x :: st) w = Rv 260 1125 ls (.int (lg_cmp x y) :: st) w := R_next Q260 (by decide +kernel) rfl
theorem e260_1125 {ls : zL} {st : List Value} {w : zW} {x : Int32} : Rv 260 1125 ls (.int x :: st) w = if x = 0 then Rv 260 1130 ls st w else Rv 260 1128 ls st w := R_f0eq Q260 (by decide +kernel) rfl rfl
theorem e260_1128 {ls : zL} {st : List Value} {w : zW} : Rv 260 1128 ls st w = Rv 260 1129 ls (.int 0 :: st) w := R_con Q260 (by decide +kernel) rfl (by decide)
theorem e260_1129 {ls : zL} {w : zW} {x : Int32} : Rv 260 1129 ls [.int x] w = if x = 0 ∨ x = 1 then some (.inl (some (.int x)), w) else none := R_retZ Q260 (by decide +kernel) rfl
theorem e260_1130 {ls : zL} {st : List Value} {w : zW} : Rv 260 1130 ls st w = Rv 260 1590 ls st w := R_go Q260 (by decide +kernel) rfl rfl
theorem e260_1133 {ls : zL} {st : List Value} {w : zW} : Rv 260 1133 ls st w = ldA ls 1 fun x => Rv 260 1134 ls (x :: st) w := R_ldA Q260 (by decide +kernel) rfl
theorem e260_1134 {ls : zL} {st : List Value} {w : zW} : Rv 260 1134 ls st w = ldA ls 0 fun x => Rv 260 1135 ls (x :: st) w := R_ldA Q260 (by decide +kernel) rfl
theorem e260_1135 {ls : zL} {st : List Value} {w : zW} : Rv 260 1135 ls st w = ldI ls 4 fun x => Rv 260 1137 ls (.int x :: st) w := R_ldI Q260 (by decide +kernel) rfl
theorem e260_1137 {ls : zL} {st : List Value} {w : zW} : Rv 260 1137 ls st w = Rv 260 1138 ls (.int 1 :: st) w := R_con Q260 (by decide +kernel) rfl (by decide)
theorem e260_1138 {ls : zL} {st : List Value} {w : zW} {x y : Int32} : Rv 260 1138 ls (.int y :: .int x :: st) w = Rv 260 1139 ls (.int (x + y) :: st) w := R_next Q260 (by decide +kernel) rfl
theorem e260_1139 {ls : zL} {st : List Value} {w : zW} {a : Nat} {x : Int32} : Rv 260 1139 ls (.int x :: .ref a :: st) w = gI w a 0 8 x fun v => Rv 260 1140 ls (.int v :: st) w := R_iald Q260 (by decide +kernel)
theorem e260_1140 {ls : zL} {st : List Value} {w : zW} : Rv 260 1140 ls st w = ldA ls 3 fun x => Rv 260 1141 ls (x :: st) w := R_ldA Q260 (by decide +kernel) rfl
theorem e260_1141 {ls : zL} {w : zW} {a1 : Nat} {n2 : Int32} {a3 : Nat} : Rv 260 1141 ls [.ref a1, .int n2, .ref a3] w = cal (Rv 253 0 [some (.ref a3), some (.int n2), some (.ref a1), none] [] w) (fun v w' => Rv 260 1144 ls (vts v []) w') (xnone) := R_calS (z := 954) (kd := 4) (n := 3) Q260 (by decide +kernel) rfl (Or.inr rfl) (Nat.le_of_ble_eq_true rfl) rfl Q253 rfl rfl rfl
theorem e260_1144 {ls : zL} {st : List Value} {w : zW} {x : Int32} : Rv 260 1144 ls (.int x :: st) w = lst ls 5 (some (.int x)) fun l => Rv 260 1146 l st w := R_st Q260 (by decide +kernel) rfl
theorem e260_1146 {ls : zL} {st : List Value} {w : zW} : Rv 260 1146 ls st w = ldA ls 2 fun x => Rv 260 1147 ls (x :: st) w := R_ldA Q260 (by decide +kernel) rfl
theorem e260_1147 {ls : zL} {st : List Value} {w : zW} : Rv 260 1147 ls st w = ldA ls 0 fun x => Rv 260 1148 ls (x :: st) w := R_ldA Q260 (by decide +kernel) rfl
theorem e260_1148 {ls : zL} {st : List Value} {w : zW} : Rv 260 1148 ls st w = ldI ls 4 fun x => Rv 260 1150 ls (.int x :: st) w := R_ldI Q260 (by decide +kernel) rfl
theorem e260_1150 {ls : zL} {st : List Value} {w : zW} : Rv 260 1150 ls st w = Rv 260 1151 ls (.int 1 :: st) w := R_con Q260 (by decide +kernel) rfl (by decide)
theorem e260_1151 {ls : zL} {st : List Value} {w : zW} {x y : Int32} : Rv 260 1151 ls (.int y :: .int x :: st) w = Rv 260 1152 ls (.int (x + y) :: st) w := R_next Q260 (by decide +kernel) rfl
theorem e260_1152 {ls : zL} {st : List Value} {w : zW} {a : Nat} {x : Int32} : Rv 260 1152 ls (.int x :: .ref a :: st) w = gI w a 0 8 x fun v => Rv 260 1153 ls (.int v :: st) w := R_iald Q260 (by decide +kernel)
theorem e260_1153 {ls : zL} {w : zW} {n1 : Int32} {a0 : Nat} : Rv 260 1153 ls [.int n1, .ref a0] w = hO w a0 6 (cal (Rv 208 0 [some (.ref a0), some (.int n1)] [] w) (fun v w' => Rv 260 1156 ls (vts v []) w') (xnone)) := R_calV (z := 1367) (r := []) Q260 (by decide +kernel) rfl rfl Q208 rfl rfl rfl
theorem e260_1156 {ls : zL} {st : List Value} {w : zW} {x : Int32} : Rv 260 1156 ls (.int x :: st) w = lst ls 6 (some (.int x)) fun l => Rv 260 1158 l st w := R_st Q260 (by decide +kernel) rfl
theorem e260_1158 {ls : zL} {st : List Value} {w : zW} : Rv 260 1158 ls st w = ldA ls 2 fun x => Rv 260 1159 ls (x :: st) w := R_ldA Q260 (by decide +kernel) rfl
theorem e260_1159 {ls : zL} {w : zW} {a0 : Nat} : Rv 260 1159 ls [.ref a0] w = hO w a0 6 (cal (Rv 140 0 [some (.ref a0)] [] w) (fun v w' => Rv 260 1162 ls (vts v []) w') (xnone)) := R_calV (z := 1107) (r := []) Q260 (by decide +kernel) rfl rfl Q140 rfl rfl rfl
theorem e260_1162 {ls : zL} {st : List Value} {w : zW} : Rv 260 1162 ls st w = ldI ls 5 fun x => Rv 260 1164 ls (.int x :: st) w := R_ldI Q260 (by decide +kernel) rfl
theorem e260_1164 {ls : zL} {st : List Value} {w : zW} {x y : Int32} : Rv 260 1164 ls (.int y :: .int x :: st) w = if x = y then Rv 260 1169 ls st w else Rv 260 1167 ls st w := R_fieq Q260 (by decide +kernel) rfl rfl
theorem e260_1167 {ls : zL} {st : List Value} {w : zW} : Rv 260 1167 ls st w = Rv 260 1168 ls (.int 0 :: st) w := R_con Q260 (by decide +kernel) rfl (by decide)
theorem e260_1168 {ls : zL} {w : zW} {x : Int32} : Rv 260 1168 ls [.int x] w = if x = 0 ∨ x = 1 then some (.inl (some (.int x)), w) else none := R_retZ Q260 (by decide +kernel) rfl
theorem e260_1169 {ls : zL} {st : List Value} {w : zW} : Rv 260 1169 ls st w = ldI ls 5 fun x => Rv 260 1171 ls (.int x :: st) w := R_ldI Q260 (by decide +kernel) rfl
theorem e260_1171 {ls : zL} {st : List Value} {w : zW} {x : Int32} : Rv 260 1171 ls (.int x :: st) w = if x = 0 then Rv 260 1174 ls st w else Rv 260 1186 ls st w := R_f0ne Q260 (by decide +kernel) rfl rfl
theorem e260_1174 {ls : zL} {st : List Value} {w : zW} : Rv 260 1174 ls st w = ldA ls 3 fun x => Rv 260 1175 ls (x :: st) w := R_ldA Q260 (by decide +kernel) rfl
theorem e260_1175 {ls : zL} {st : List Value} {w : zW} : Rv 260 1175 ls st w = Rv 260 1176 ls (.int 0 :: st) w := R_con Q260 (by decide +kernel) rfl (by decide)
theorem e260_1176 {ls : zL} {st : List Value} {w : zW} {a : Nat} {x : Int32} : Rv 260 1176 ls (.int x :: .ref a :: st) w = gL w a x fun v => Rv 260 1177 ls (.long v :: st) w := R_lald Q260 (by decide +kernel)
theorem e260_1177 {ls : zL} {st : List Value} {w : zW} : Rv 260 1177 ls st w = ldI ls 6 fun x => Rv 260 1179 ls (.int x :: st) w := R_ldI Q260 (by decide +kernel) rfl
theorem e260_1179 {ls : zL} {st : List Value} {w : zW} {x : Int32} : Rv 260 1179 ls (.int x :: st) w = Rv 260 1180 ls (.long x.toInt64 :: st) w := R_next Q260 (by decide +kernel) rfl
theorem e260_1180 {ls : zL} {st : List Value} {w : zW} {x y : Int64} : Rv 260 1180 ls (.long y :: .long x :: st) w = Rv 260 1181 ls (.int (lg_cmp x y) :: st) w := R_next Q260 (by decide +kernel) rfl
theorem e260_1181 {ls : zL} {st : List Value} {w : zW} {x : Int32} : Rv 260 1181 ls (.int x :: st) w = if x = 0 then Rv 260 1186 ls st w else Rv 260 1184 ls st w := R_f0eq Q260 (by decide +kernel) rfl rfl
theorem e260_1184 {ls : zL} {st : List Value} {w : zW} : Rv 260 1184 ls st w = Rv 260 1185 ls (.int 0 :: st) w := R_con Q260 (by decide +kernel) rfl (by decide)
theorem e260_1185 {ls : zL} {w : zW} {x : Int32} : Rv 260 1185 ls [.int x] w = if x = 0 ∨ x = 1 then some (.inl (some (.int x)), w) else none := R_retZ Q260 (by decide +kernel) rfl
theorem e260_1186 {ls : zL} {st : List Value} {w : zW} : Rv 260 1186 ls st w = Rv 260 1590 ls st w := R_go Q260 (by decide +kernel) rfl rfl
theorem e260_1189 {ls : zL} {st : List Value} {w : zW} : Rv 260 1189 ls st w = ldA ls 1 fun x => Rv 260 1190 ls (x :: st) w := R_ldA Q260 (by decide +kernel) rfl
theorem e260_1190 {ls : zL} {st : List Value} {w : zW} : Rv 260 1190 ls st w = ldA ls 0 fun x => Rv 260 1191 ls (x :: st) w := R_ldA Q260 (by decide +kernel) rfl
theorem e260_1191 {ls : zL} {st : List Value} {w : zW} : Rv 260 1191 ls st w = ldI ls 4 fun x => Rv 260 1193 ls (.int x :: st) w := R_ldI Q260 (by decide +kernel) rfl
theorem e260_1193 {ls : zL} {st : List Value} {w : zW} : Rv 260 1193 ls st w = Rv 260 1194 ls (.int 1 :: st) w := R_con Q260 (by decide +kernel) rfl (by decide)
theorem e260_1194 {ls : zL} {st : List Value} {w : zW} {x y : Int32} : Rv 260 1194 ls (.int y :: .int x :: st) w = Rv 260 1195 ls (.int (x + y) :: st) w := R_next Q260 (by decide +kernel) rfl
theorem e260_1195 {ls : zL} {st : List Value} {w : zW} {a : Nat} {x : Int32} : Rv 260 1195 ls (.int x :: .ref a :: st) w = gI w a 0 8 x fun v => Rv 260 1196 ls (.int v :: st) w := R_iald Q260 (by decide +kernel)
theorem e260_1196 {ls : zL} {st : List Value} {w : zW} : Rv 260 1196 ls st w = ldA ls 0 fun x => Rv 260 1197 ls (x :: st) w := R_ldA Q260 (by decide +kernel) rfl
theorem e260_1197 {ls : zL} {st : List Value} {w : zW} : Rv 260 1197 ls st w = ldI ls 4 fun x => Rv 260 1199 ls (.int x :: st) w := R_ldI Q260 (by decide +kernel) rfl
theorem e260_1199 {ls : zL} {st : List Value} {w : zW} : Rv 260 1199 ls st w = Rv 260 1200 ls (.int 2 :: st) w := R_con Q260 (by decide +kernel) rfl (by decide)
theorem e260_1200 {ls : zL} {st : List Value} {w : zW} {x y : Int32} : Rv 260 1200 ls (.int y :: .int x :: st) w = Rv 260 1201 ls (.int (x + y) :: st) w := R_next Q260 (by decide +kernel) rfl
theorem e260_1201 {ls : zL} {st : List Value} {w : zW} {a : Nat} {x : Int32} : Rv 260 1201 ls (.int x :: .ref a :: st) w = gI w a 0 8 x fun v => Rv 260 1202 ls (.int v :: st) w := R_iald Q260 (by decide +kernel)
theorem e260_1202 {ls : zL} {st : List Value} {w : zW} : Rv 260 1202 ls st w = ldA ls 3 fun x => Rv 260 1203 ls (x :: st) w := R_ldA Q260 (by decide +kernel) rfl
theorem e260_1203 {ls : zL} {w : zW} {a1 : Nat} {n2 : Int32} {n3 : Int32} {a4 : Nat} : Rv 260 1203 ls [.ref a1, .int n2, .int n3, .ref a4] w = cal (Rv 254 0 [some (.ref a4), some (.int n3), some (.int n2), some (.ref a1), none] [] w) (fun v w' => Rv 260 1206 ls (vts v []) w') (xnone) := R_calS (z := 961) (kd := 4) (n := 4) Q260 (by decide +kernel) rfl (Or.inr rfl) (Nat.le_of_ble_eq_true rfl) rfl Q254 rfl rfl rfl
theorem e260_1206 {ls : zL} {st : List Value} {w : zW} {x : Int32} : Rv 260 1206 ls (.int x :: st) w = lst ls 5 (some (.int x)) fun l => Rv 260 1208 l st w := R_st Q260 (by decide +kernel) rfl
theorem e260_1208 {ls : zL} {st : List Value} {w : zW} : Rv 260 1208 ls st w = ldA ls 2 fun x => Rv 260 1209 ls (x :: st) w := R_ldA Q260 (by decide +kernel) rfl
theorem e260_1209 {ls : zL} {st : List Value} {w : zW} : Rv 260 1209 ls st w = ldA ls 0 fun x => Rv 260 1210 ls (x :: st) w := R_ldA Q260 (by decide +kernel) rfl
theorem e260_1210 {ls : zL} {st : List Value} {w : zW} : Rv 260 1210 ls st w = ldI ls 4 fun x => Rv 260 1212 ls (.int x :: st) w := R_ldI Q260 (by decide +kernel) rfl
theorem e260_1212 {ls : zL} {st : List Value} {w : zW} : Rv 260 1212 ls st w = Rv 260 1213 ls (.int 1 :: st) w := R_con Q260 (by decide +kernel) rfl (by decide)
theorem e260_1213 {ls : zL} {st : List Value} {w : zW} {x y : Int32} : Rv 260 1213 ls (.int y :: .int x :: st) w = Rv 260 1214 ls (.int (x + y) :: st) w := R_next Q260 (by decide +kernel) rfl
theorem e260_1214 {ls : zL} {st : List Value} {w : zW} {a : Nat} {x : Int32} : Rv 260 1214 ls (.int x :: .ref a :: st) w = gI w a 0 8 x fun v => Rv 260 1215 ls (.int v :: st) w := R_iald Q260 (by decide +kernel)
theorem e260_1215 {ls : zL} {st : List Value} {w : zW} : Rv 260 1215 ls st w = ldA ls 0 fun x => Rv 260 1216 ls (x :: st) w := R_ldA Q260 (by decide +kernel) rfl
theorem e260_1216 {ls : zL} {st : List Value} {w : zW} : Rv 260 1216 ls st w = ldI ls 4 fun x => Rv 260 1218 ls (.int x :: st) w := R_ldI Q260 (by decide +kernel) rfl
theorem e260_1218 {ls : zL} {st : List Value} {w : zW} : Rv 260 1218 ls st w = Rv 260 1219 ls (.int 2 :: st) w := R_con Q260 (by decide +kernel) rfl (by decide)
theorem e260_1219 {ls : zL} {st : List Value} {w : zW} {x y : Int32} : Rv 260 1219 ls (.int y :: .int x :: st) w = Rv 260 1220 ls (.int (x + y) :: st) w := R_next Q260 (by decide +kernel) rfl
theorem e260_1220 {ls : zL} {st : List Value} {w : zW} {a : Nat} {x : Int32} : Rv 260 1220 ls (.int x :: .ref a :: st) w = gI w a 0 8 x fun v => Rv 260 1221 ls (.int v :: st) w := R_iald Q260 (by decide +kernel)
theorem e260_1221 {ls : zL} {w : zW} {n1 : Int32} {n2 : Int32} {a0 : Nat} : Rv 260 1221 ls [.int n1, .int n2, .ref a0] w = hO w a0 6 (cal (Rv 209 0 [some (.ref a0), some (.int n2), some (.int n1)] [] w) (fun v w' => Rv 260 1224 ls (vts v []) w') (xnone)) := R_calV (z := 1375) (r := []) Q260 (by decide +kernel) rfl rfl Q209 rfl rfl rfl
theorem e260_1224 {ls : zL} {st : List Value} {w : zW} {x : Int32} : Rv 260 1224 ls (.int x :: st) w = lst ls 6 (some (.int x)) fun l => Rv 260 1226 l st w := R_st Q260 (by decide +kernel) rfl
theorem e260_1226 {ls : zL} {st : List Value} {w : zW} : Rv 260 1226 ls st w = ldA ls 2 fun x => Rv 260 1227 ls (x :: st) w := R_ldA Q260 (by decide +kernel) rfl
theorem e260_1227 {ls : zL} {w : zW} {a0 : Nat} : Rv 260 1227 ls [.ref a0] w = hO w a0 6 (cal (Rv 140 0 [some (.ref a0)] [] w) (fun v w' => Rv 260 1230 ls (vts v []) w') (xnone)) := R_calV (z := 1107) (r := []) Q260 (by decide +kernel) rfl rfl Q140 rfl rfl rfl
theorem e260_1230 {ls : zL} {st : List Value} {w : zW} : Rv 260 1230 ls st w = ldI ls 5 fun x => Rv 260 1232 ls (.int x :: st) w := R_ldI Q260 (by decide +kernel) rfl
theorem e260_1232 {ls : zL} {st : List Value} {w : zW} {x y : Int32} : Rv 260 1232 ls (.int y :: .int x :: st) w = if x = y then Rv 260 1237 ls st w else Rv 260 1235 ls st w := R_fieq Q260 (by decide +kernel) rfl rfl
theorem e260_1235 {ls : zL} {st : List Value} {w : zW} : Rv 260 1235 ls st w = Rv 260 1236 ls (.int 0 :: st) w := R_con Q260 (by decide +kernel) rfl (by decide)
theorem e260_1236 {ls : zL} {w : zW} {x : Int32} : Rv 260 1236 ls [.int x] w = if x = 0 ∨ x = 1 then some (.inl (some (.int x)), w) else none := R_retZ Q260 (by decide +kernel) rfl
theorem e260_1237 {ls : zL} {st : List Value} {w : zW} : Rv 260 1237 ls st w = ldI ls 5 fun x => Rv 260 1239 ls (.int x :: st) w := R_ldI Q260 (by decide +kernel) rfl
theorem e260_1239 {ls : zL} {st : List Value} {w : zW} {x : Int32} : Rv 260 1239 ls (.int x :: st) w = if x = 0 then Rv 260 1242 ls st w else Rv 260 1254 ls st w := R_f0ne Q260 (by decide +kernel) rfl rfl
theorem e260_1242 {ls : zL} {st : List Value} {w : zW} : Rv 260 1242 ls st w = ldA ls 3 fun x => Rv 260 1243 ls (x :: st) w := R_ldA Q260 (by decide +kernel) rfl
theorem e260_1243 {ls : zL} {st : List Value} {w : zW} : Rv 260 1243 ls st w = Rv 260 1244 ls (.int 0 :: st) w := R_con Q260 (by decide +kernel) rfl (by decide)
theorem e260_1244 {ls : zL} {st : List Value} {w : zW} {a : Nat} {x : Int32} : Rv 260 1244 ls (.int x :: .ref a :: st) w = gL w a x fun v => Rv 260 1245 ls (.long v :: st) w := R_lald Q260 (by decide +kernel)
theorem e260_1245 {ls : zL} {st : List Value} {w : zW} : Rv 260 1245 ls st w = ldI ls 6 fun x => Rv 260 1247 ls (.int x :: st) w := R_ldI Q260 (by decide +kernel) rfl
theorem e260_1247 {ls : zL} {st : List Value} {w : zW} {x : Int32} : Rv 260 1247 ls (.int x :: st) w = Rv 260 1248 ls (.long x.toInt64 :: st) w := R_next Q260 (by decide +kernel) rfl
theorem e260_1248 {ls : zL} {st : List Value} {w : zW} {x y : Int64} : Rv 260 1248 ls (.long y :: .long x :: st) w = Rv 260 1249 ls (.int (lg_cmp x y) :: st) w := R_next Q260 (by decide +kernel) rfl
theorem e260_1249 {ls : zL} {st : List Value} {w : zW} {x : Int32} : Rv 260 1249 ls (.int x :: st) w = if x = 0 then Rv 260 1254 ls st w else Rv 260 1252 ls st w := R_f0eq Q260 (by decide +kernel) rfl rfl
theorem e260_1252 {ls : zL} {st : List Value} {w : zW} : Rv 260 1252 ls st w = Rv 260 1253 ls (.int 0 :: st) w := R_con Q260 (by decide +kernel) rfl (by decide)
theorem e260_1253 {ls : zL} {w : zW} {x : Int32} : Rv 260 1253 ls [.int x] w = if x = 0 ∨ x = 1 then some (.inl (some (.int x)), w) else none := R_retZ Q260 (by decide +kernel) rfl
theorem e260_1254 {ls : zL} {st : List Value} {w : zW} : Rv 260 1254 ls st w = Rv 260 1590 ls st w := R_go Q260 (by decide +kernel) rfl rfl
theorem e260_1257 {ls : zL} {st : List Value} {w : zW} : Rv 260 1257 ls st w = ldA ls 1 fun x => Rv 260 1258 ls (x :: st) w := R_ldA Q260 (by decide +kernel) rfl
theorem e260_1258 {ls : zL} {w : zW} {a0 : Nat} : Rv 260 1258 ls [.ref a0] w = hO w a0 5 (cal (Rv 120 0 [some (.ref a0)] [] w) (fun v w' => Rv 260 1261 ls (vts v []) w') (xnone)) := R_calV (z := 323) (r := []) Q260 (by decide +kernel) rfl rfl Q120 rfl rfl rfl
theorem e260_1261 {ls : zL} {st : List Value} {w : zW} : Rv 260 1261 ls st w = ldA ls 2 fun x => Rv 260 1262 ls (x :: st) w := R_ldA Q260 (by decide +kernel) rfl
theorem e260_1262 {ls : zL} {w : zW} {a0 : Nat} {n1 : Int32} : Rv 260 1262 ls [.ref a0, .int n1] w = hO w a0 6 (cal (Rv 211 0 [some (.ref a0)] [] w) (fun v w' => Rv 260 1265 ls (vts v [.int n1]) w') (xnone)) := R_calV (z := 1379) (r := [.int n1]) Q260 (by decide +kernel) rfl rfl Q211 rfl rfl rfl
theorem e260_1265 {ls : zL} {st : List Value} {w : zW} {x y : Int32} : Rv 260 1265 ls (.int y :: .int x :: st) w = if x = y then Rv 260 1590 ls st w else Rv 260 1268 ls st w := R_fieq Q260 (by decide +kernel) rfl rfl
theorem e260_1268 {ls : zL} {st : List Value} {w : zW} : Rv 260 1268 ls st w = Rv 260 1269 ls (.int 0 :: st) w := R_con Q260 (by decide +kernel) rfl (by decide)
theorem e260_1269 {ls : zL} {w : zW} {x : Int32} : Rv 260 1269 ls [.int x] w = if x = 0 ∨ x = 1 then some (.inl (some (.int x)), w) else none := R_retZ Q260 (by decide +kernel) rfl
theorem e260_1270 {ls : zL} {st : List Value} {w : zW} : Rv 260 1270 ls st w = ldA ls 1 fun x => Rv 260 1271 ls (x :: st) w := R_ldA Q260 (by decide +kernel) rfl
theorem e260_1271 {ls : zL} {st : List Value} {w : zW} : Rv 260 1271 ls st w = ldA ls 0 fun x => Rv 260 1272 ls (x :: st) w := R_ldA Q260 (by decide +kernel) rfl
theorem e260_1272 {ls : zL} {st : List Value} {w : zW} : Rv 260 1272 ls st w = ldI ls 4 fun x => Rv 260 1274 ls (.int x :: st) w := R_ldI Q260 (by decide +kernel) rfl
theorem e260_1274 {ls : zL} {st : List Value} {w : zW} : Rv 260 1274 ls st w = Rv 260 1275 ls (.int 1 :: st) w := R_con Q260 (by decide +kernel) rfl (by decide)
theorem e260_1275 {ls : zL} {st : List Value} {w : zW} {x y : Int32} : Rv 260 1275 ls (.int y :: .int x :: st) w = Rv 260 1276 ls (.int (x + y) :: st) w := R_next Q260 (by decide +kernel) rfl
theorem e260_1276 {ls : zL} {st : List Value} {w : zW} {a : Nat} {x : Int32} : Rv 260 1276 ls (.int x :: .ref a :: st) w = gI w a 0 8 x fun v => Rv 260 1277 ls (.int v :: st) w := R_iald Q260 (by decide +kernel)
theorem e260_1277 {ls : zL} {st : List Value} {w : zW} : Rv 260 1277 ls st w = ldA ls 3 fun x => Rv 260 1278 ls (x :: st) w := R_ldA Q260 (by decide +kernel) rfl
theorem e260_1278 {ls : zL} {w : zW} {a1 : Nat} {n2 : Int32} {a3 : Nat} : Rv 260 1278 ls [.ref a1, .int n2, .ref a3] w = cal (Rv 255 0 [some (.ref a3), some (.int n2), some (.ref a1), none] [] w) (fun v w' => Rv 260 1281 ls (vts v []) w') (xnone) := R_calS (z := 973) (kd := 4) (n := 3) Q260 (by decide +kernel) rfl (Or.inr rfl) (Nat.le_of_ble_eq_true rfl) rfl Q255 rfl rfl rfl
theorem e260_1281 {ls : zL} {st : List Value} {w : zW} {x : Int32} : Rv 260 1281 ls (.int x :: st) w = lst ls 5 (some (.int x)) fun l => Rv 260 1283 l st w := R_st Q260 (by decide +kernel) rfl
theorem e260_1283 {ls : zL} {st : List Value} {w : zW} : Rv 260 1283 ls st w = ldA ls 2 fun x => Rv 260 1284 ls (x :: st) w := R_ldA Q260 (by decide +kernel) rfl
theorem e260_1284 {ls : zL} {st : List Value} {w : zW} : Rv 260 1284 ls st w = ldA ls 0 fun x => Rv 260 1285 ls (x :: st) w := R_ldA Q260 (by decide +kernel) rfl
theorem e260_1285 {ls : zL} {st : List Value} {w : zW} : Rv 260 1285 ls st w = ldI ls 4 fun x => Rv 260 1287 ls (.int x :: st) w := R_ldI Q260 (by decide +kernel) rfl
theorem e260_1287 {ls : zL} {st : List Value} {w : zW} : Rv 260 1287 ls st w = Rv 260 1288 ls (.int 1 :: st) w := R_con Q260 (by decide +kernel) rfl (by decide)
theorem e260_1288 {ls : zL} {st : List Value} {w : zW} {x y : Int32} : Rv 260 1288 ls (.int y :: .int x :: st) w = Rv 260 1289 ls (.int (x + y) :: st) w := R_next Q260 (by decide +kernel) rfl
theorem e260_1289 {ls : zL} {st : List Value} {w : zW} {a : Nat} {x : Int32} : Rv 260 1289 ls (.int x :: .ref a :: st) w = gI w a 0 8 x fun v => Rv 260 1290 ls (.int v :: st) w := R_iald Q260 (by decide +kernel)
theorem e260_1290 {ls : zL} {w : zW} {n1 : Int32} {a0 : Nat} : Rv 260 1290 ls [.int n1, .ref a0] w = hO w a0 6 (cal (Rv 213 0 [some (.ref a0), some (.int n1), none, none, none, none, none, none, none, none] [] w) (fun v w' => Rv 260 1293 ls (vts v []) w') (xnone)) := R_calV (z := 1387) (r := []) Q260 (by decide +kernel) rfl rfl Q213 rfl rfl rfl
theorem e260_1293 {ls : zL} {st : List Value} {w : zW} {x : Int32} : Rv 260 1293 ls (.int x :: st) w = lst ls 6 (some (.int x)) fun l => Rv 260 1295 l st w := R_st Q260 (by decide +kernel) rfl
theorem e260_1295 {ls : zL} {st : List Value} {w : zW} : Rv 260 1295 ls st w = ldA ls 2 fun x => Rv 260 1296 ls (x :: st) w := R_ldA Q260 (by decide +kernel) rfl
theorem e260_1296 {ls : zL} {w : zW} {a0 : Nat} : Rv 260 1296 ls [.ref a0] w = hO w a0 6 (cal (Rv 140 0 [some (.ref a0)] [] w) (fun v w' => Rv 260 1299 ls (vts v []) w') (xnone)) := R_calV (z := 1107) (r := []) Q260 (by decide +kernel) rfl rfl Q140 rfl rfl rfl
theorem e260_1299 {ls : zL} {st : List Value} {w : zW} : Rv 260 1299 ls st w = ldI ls 5 fun x => Rv 260 1301 ls (.int x :: st) w := R_ldI Q260 (by decide +kernel) rfl
theorem e260_1301 {ls : zL} {st : List Value} {w : zW} {x y : Int32} : Rv 260 1301 ls (.int y :: .int x :: st) w = if x = y then Rv 260 1306 ls st w else Rv 260 1304 ls st w := R_fieq Q260 (by decide +kernel) rfl rfl
theorem e260_1304 {ls : zL} {st : List Value} {w : zW} : Rv 260 1304 ls st w = Rv 260 1305 ls (.int 0 :: st) w := R_con Q260 (by decide +kernel) rfl (by decide)
theorem e260_1305 {ls : zL} {w : zW} {x : Int32} : Rv 260 1305 ls [.int x] w = if x = 0 ∨ x = 1 then some (.inl (some (.int x)), w) else none := R_retZ Q260 (by decide +kernel) rfl
theorem e260_1306 {ls : zL} {st : List Value} {w : zW} : Rv 260 1306 ls st w = ldI ls 5 fun x => Rv 260 1308 ls (.int x :: st) w := R_ldI Q260 (by decide +kernel) rfl
theorem e260_1308 {ls : zL} {st : List Value} {w : zW} {x : Int32} : Rv 260 1308 ls (.int x :: st) w = if x = 0 then Rv 260 1311 ls st w else Rv 260 1323 ls st w := R_f0ne Q260 (by decide +kernel) rfl rfl
theorem e260_1311 {ls : zL} {st : List Value} {w : zW} : Rv 260 1311 ls st w = ldA ls 3 fun x => Rv 260 1312 ls (x :: st) w := R_ldA Q260 (by decide +kernel) rfl
theorem e260_1312 {ls : zL} {st : List Value} {w : zW} : Rv 260 1312 ls st w = Rv 260 1313 ls (.int 0 :: st) w := R_con Q260 (by decide +kernel) rfl (by decide)
theorem e260_1313 {ls : zL} {st : List Value} {w : zW} {a : Nat} {x : Int32} : Rv 260 1313 ls (.int x :: .ref a :: st) w = gL w a x fun v => Rv 260 1314 ls (.long v :: st) w := R_lald Q260 (by decide +kernel)
theorem e260_1314 {ls : zL} {st : List Value} {w : zW} : Rv 260 1314 ls st w = ldI ls 6 fun x => Rv 260 1316 ls (.int x :: st) w := R_ldI Q260 (by decide +kernel) rfl
theorem e260_1316 {ls : zL} {st : List Value} {w : zW} {x : Int32} : Rv 260 1316 ls (.int x :: st) w = Rv 260 1317 ls (.long x.toInt64 :: st) w := R_next Q260 (by decide +kernel) rfl
theorem e260_1317 {ls : zL} {st : List Value} {w : zW} {x y : Int64} : Rv 260 1317 ls (.long y :: .long x :: st) w = Rv 260 1318 ls (.int (lg_cmp x y) :: st) w := R_next Q260 (by decide +kernel) rfl
theorem e260_1318 {ls : zL} {st : List Value} {w : zW} {x : Int32} : Rv 260 1318 ls (.int x :: st) w = if x = 0 then Rv 260 1323 ls st w else Rv 260 1321 ls st w := R_f0eq Q260 (by decide +kernel) rfl rfl
theorem e260_1321 {ls : zL} {st : List Value} {w : zW} : Rv 260 1321 ls st w = Rv 260 1322 ls (.int 0 :: st) w := R_con Q260 (by decide +kernel) rfl (by decide)
theorem e260_1322 {ls : zL} {w : zW} {x : Int32} : Rv 260 1322 ls [.int x] w = if x = 0 ∨ x = 1 then some (.inl (some (.int x)), w) else none := R_retZ Q260 (by decide +kernel) rfl
theorem e260_1323 {ls : zL} {st : List Value} {w : zW} : Rv 260 1323 ls st w = Rv 260 1590 ls st w := R_go Q260 (by decide +kernel) rfl rfl
theorem e260_1326 {ls : zL} {st : List Value} {w : zW} : Rv 260 1326 ls st w = ldA ls 1 fun x => Rv 260 1327 ls (x :: st) w := R_ldA Q260 (by decide +kernel) rfl
theorem e260_1327 {ls : zL} {st : List Value} {w : zW} : Rv 260 1327 ls st w = ldA ls 0 fun x => Rv 260 1328 ls (x :: st) w := R_ldA Q260 (by decide +kernel) rfl
theorem e260_1328 {ls : zL} {st : List Value} {w : zW} : Rv 260 1328 ls st w = ldI ls 4 fun x => Rv 260 1330 ls (.int x :: st) w := R_ldI Q260 (by decide +kernel) rfl
theorem e260_1330 {ls : zL} {st : List Value} {w : zW} : Rv 260 1330 ls st w = Rv 260 1331 ls (.int 1 :: st) w := R_con Q260 (by decide +kernel) rfl (by decide)
theorem e260_1331 {ls : zL} {st : List Value} {w : zW} {x y : Int32} : Rv 260 1331 ls (.int y :: .int x :: st) w = Rv 260 1332 ls (.int (x + y) :: st) w := R_next Q260 (by decide +kernel) rfl
theorem e260_1332 {ls : zL} {st : List Value} {w : zW} {a : Nat} {x : Int32} : Rv 260 1332 ls (.int x :: .ref a :: st) w = gI w a 0 8 x fun v => Rv 260 1333 ls (.int v :: st) w := R_iald Q260 (by decide +kernel)
theorem e260_1333 {ls : zL} {st : List Value} {w : zW} : Rv 260 1333 ls st w = ldA ls 3 fun x => Rv 260 1334 ls (x :: st) w := R_ldA Q260 (by decide +kernel) rfl
theorem e260_1334 {ls : zL} {w : zW} {a1 : Nat} {n2 : Int32} {a3 : Nat} : Rv 260 1334 ls [.ref a1, .int n2, .ref a3] w = cal (Rv 256 0 [some (.ref a3), some (.int n2), some (.ref a1), none] [] w) (fun v w' => Rv 260 1337 ls (vts v []) w') (xnone) := R_calS (z := 1007) (kd := 4) (n := 3) Q260 (by decide +kernel) rfl (Or.inr rfl) (Nat.le_of_ble_eq_true rfl) rfl Q256 rfl rfl rfl
theorem e260_1337 {ls : zL} {st : List Value} {w : zW} {x : Int32} : Rv 260 1337 ls (.int x :: st) w = lst ls 5 (some (.int x)) fun l => Rv 260 1339 l st w := R_st Q260 (by decide +kernel) rfl
theorem e260_1339 {ls : zL} {st : List Value} {w : zW} : Rv 260 1339 ls st w = ldA ls 2 fun x => Rv 260 1340 ls (x :: st) w := R_ldA Q260 (by decide +kernel) rfl
theorem e260_1340 {ls : zL} {st : List Value} {w : zW} : Rv 260 1340 ls st w = ldA ls 0 fun x => Rv 260 1341 ls (x :: st) w := R_ldA Q260 (by decide +kernel) rfl
theorem e260_1341 {ls : zL} {st : List Value} {w : zW} : Rv 260 1341 ls st w = ldI ls 4 fun x => Rv 260 1343 ls (.int x :: st) w := R_ldI Q260 (by decide +kernel) rfl
theorem e260_1343 {ls : zL} {st : List Value} {w : zW} : Rv 260 1343 ls st w = Rv 260 1344 ls (.int 1 :: st) w := R_con Q260 (by decide +kernel) rfl (by decide)
theorem e260_1344 {ls : zL} {st : List Value} {w : zW} {x y : Int32} : Rv 260 1344 ls (.int y :: .int x :: st) w = Rv 260 1345 ls (.int (x + y) :: st) w := R_next Q260 (by decide +kernel) rfl
theorem e260_1345 {ls : zL} {st : List Value} {w : zW} {a : Nat} {x : Int32} : Rv 260 1345 ls (.int x :: .ref a :: st) w = gI w a 0 8 x fun v => Rv 260 1346 ls (.int v :: st) w := R_iald Q260 (by decide +kernel)
theorem e260_1346 {ls : zL} {w : zW} {n1 : Int32} {a0 : Nat} : Rv 260 1346 ls [.int n1, .ref a0] w = hO w a0 6 (cal (Rv 214 0 [some (.ref a0), some (.int n1), none] [] w) (fun v w' => Rv 260 1349 ls (vts v []) w') (xnone)) := R_calV (z := 1395) (r := []) Q260 (by decide +kernel) rfl rfl Q214 rfl rfl rfl
theorem e260_1349 {ls : zL} {st : List Value} {w : zW} {x : Int32} : Rv 260 1349 ls (.int x :: st) w = lst ls 6 (some (.int x)) fun l => Rv 260 1351 l st w := R_st Q260 (by decide +kernel) rfl
theorem e260_1351 {ls : zL} {st : List Value} {w : zW} : Rv 260 1351 ls st w = ldA ls 2 fun x => Rv 260 1352 ls (x :: st) w := R_ldA Q260 (by decide +kernel) rfl
theorem e260_1352 {ls : zL} {w : zW} {a0 : Nat} : Rv 260 1352 ls [.ref a0] w = hO w a0 6 (cal (Rv 140 0 [some (.ref a0)] [] w) (fun v w' => Rv 260 1355 ls (vts v []) w') (xnone)) := R_calV (z := 1107) (r := []) Q260 (by decide +kernel) rfl rfl Q140 rfl rfl rfl
theorem e260_1355 {ls : zL} {st : List Value} {w : zW} : Rv 260 1355 ls st w = ldI ls 5 fun x => Rv 260 1357 ls (.int x :: st) w := R_ldI Q260 (by decide +kernel) rfl
theorem e260_1357 {ls : zL} {st : List Value} {w : zW} {x y : Int32} : Rv 260 1357 ls (.int y :: .int x :: st) w = if x = y then Rv 260 1362 ls st w else Rv 260 1360 ls st w := R_fieq Q260 (by decide +kernel) rfl rfl
theorem e260_1360 {ls : zL} {st : List Value} {w : zW} : Rv 260 1360 ls st w = Rv 260 1361 ls (.int 0 :: st) w := R_con Q260 (by decide +kernel) rfl (by decide)
theorem e260_1361 {ls : zL} {w : zW} {x : Int32} : Rv 260 1361 ls [.int x] w = if x = 0 ∨ x = 1 then some (.inl (some (.int x)), w) else none := R_retZ Q260 (by decide +kernel) rfl
theorem e260_1362 {ls : zL} {st : List Value} {w : zW} : Rv 260 1362 ls st w = ldI ls 5 fun x => Rv 260 1364 ls (.int x :: st) w := R_ldI Q260 (by decide +kernel) rfl
theorem e260_1364 {ls : zL} {st : List Value} {w : zW} {x : Int32} : Rv 260 1364 ls (.int x :: st) w = if x = 0 then Rv 260 1367 ls st w else Rv 260 1379 ls st w := R_f0ne Q260 (by decide +kernel) rfl rfl
theorem e260_1367 {ls : zL} {st : List Value} {w : zW} : Rv 260 1367 ls st w = ldA ls 3 fun x => Rv 260 1368 ls (x :: st) w := R_ldA Q260 (by decide +kernel) rfl
theorem e260_1368 {ls : zL} {st : List Value} {w : zW} : Rv 260 1368 ls st w = Rv 260 1369 ls (.int 0 :: st) w := R_con Q260 (by decide +kernel) rfl (by decide)
theorem e260_1369 {ls : zL} {st : List Value} {w : zW} {a : Nat} {x : Int32} : Rv 260 1369 ls (.int x :: .ref a :: st) w = gL w a x fun v => Rv 260 1370 ls (.long v :: st) w := R_lald Q260 (by decide +kernel)
theorem e260_1370 {ls : zL} {st : List Value} {w : zW} : Rv 260 1370 ls st w = ldI ls 6 fun x => Rv 260 1372 ls (.int x :: st) w := R_ldI Q260 (by decide +kernel) rfl
theorem e260_1372 {ls : zL} {st : List Value} {w : zW} {x : Int32} : Rv 260 1372 ls (.int x :: st) w = Rv 260 1373 ls (.long x.toInt64 :: st) w := R_next Q260 (by decide +kernel) rfl
theorem e260_1373 {ls : zL} {st : List Value} {w : zW} {x y : Int64} : Rv 260 1373 ls (.long y :: .long x :: st) w = Rv 260 1374 ls (.int (lg_cmp x y) :: st) w := R_next Q260 (by decide +kernel) rfl
theorem e260_1374 {ls : zL} {st : List Value} {w : zW} {x : Int32} : Rv 260 1374 ls (.int x :: st) w = if x = 0 then Rv 260 1379 ls st w else Rv 260 1377 ls st w := R_f0eq Q260 (by decide +kernel) rfl rfl
theorem e260_1377 {ls : zL} {st : List Value} {w : zW} : Rv 260 1377 ls st w = Rv 260 1378 ls (.int 0 :: st) w := R_con Q260 (by decide +kernel) rfl (by decide)
theorem e260_1378 {ls : zL} {w : zW} {x : Int32} : Rv 260 1378 ls [.int x] w = if x = 0 ∨ x = 1 then some (.inl (some (.int x)), w) else none := R_retZ Q260 (by decide +kernel) rfl
theorem e260_1379 {ls : zL} {st : List Value} {w : zW} : Rv 260 1379 ls st w = Rv 260 1590 ls st w := R_go Q260 (by decide +kernel) rfl rfl
theorem e260_1382 {ls : zL} {st : List Value} {w : zW} : Rv 260 1382 ls st w = ldA ls 1 fun x => Rv 260 1383 ls (x :: st) w := R_ldA Q260 (by decide +kernel) rfl
theorem e260_1383 {ls : zL} {st : List Value} {w : zW} : Rv 260 1383 ls st w = ldA ls 0 fun x => Rv 260 1384 ls (x :: st) w := R_ldA Q260 (by decide +kernel) rfl
theorem e260_1384 {ls : zL} {st : List Value} {w : zW} : Rv 260 1384 ls st w = ldI ls 4 fun x => Rv 260 1386 ls (.int x :: st) w := R_ldI Q260 (by decide +kernel) rfl
theorem e260_1386 {ls : zL} {st : List Value} {w : zW} : Rv 260 1386 ls st w = Rv 260 1387 ls (.int 1 :: st) w := R_con Q260 (by decide +kernel) rfl (by decide)
theorem e260_1387 {ls : zL} {st : List Value} {w : zW} {x y : Int32} : Rv 260 1387 ls (.int y :: .int x :: st) w = Rv 260 1388 ls (.int (x + y) :: st) w := R_next Q260 (by decide +kernel) rfl
theorem e260_1388 {ls : zL} {st : List Value} {w : zW} {a : Nat} {x : Int32} : Rv 260 1388 ls (.int x :: .ref a :: st) w = gI w a 0 8 x fun v => Rv 260 1389 ls (.int v :: st) w := R_iald Q260 (by decide +kernel)
theorem e260_1389 {ls : zL} {st : List Value} {w : zW} : Rv 260 1389 ls st w = ldA ls 0 fun x => Rv 260 1390 ls (x :: st) w := R_ldA Q260 (by decide +kernel) rfl
theorem e260_1390 {ls : zL} {st : List Value} {w : zW} : Rv 260 1390 ls st w = ldI ls 4 fun x => Rv 260 1392 ls (.int x :: st) w := R_ldI Q260 (by decide +kernel) rfl
theorem e260_1392 {ls : zL} {st : List Value} {w : zW} : Rv 260 1392 ls st w = Rv 260 1393 ls (.int 2 :: st) w := R_con Q260 (by decide +kernel) rfl (by decide)
theorem e260_1393 {ls : zL} {st : List Value} {w : zW} {x y : Int32} : Rv 260 1393 ls (.int y :: .int x :: st) w = Rv 260 1394 ls (.int (x + y) :: st) w := R_next Q260 (by decide +kernel) rfl
theorem e260_1394 {ls : zL} {st : List Value} {w : zW} {a : Nat} {x : Int32} : Rv 260 1394 ls (.int x :: .ref a :: st) w = gI w a 0 8 x fun v => Rv 260 1395 ls (.int v :: st) w := R_iald Q260 (by decide +kernel)
theorem e260_1395 {ls : zL} {st : List Value} {w : zW} : Rv 260 1395 ls st w = ldA ls 3 fun x => Rv 260 1396 ls (x :: st) w := R_ldA Q260 (by decide +kernel) rfl
theorem e260_1396 {ls : zL} {w : zW} {a1 : Nat} {n2 : Int32} {n3 : Int32} {a4 : Nat} : Rv 260 1396 ls [.ref a1, .int n2, .int n3, .ref a4] w = cal (Rv 257 0 [some (.ref a4), some (.int n3), some (.int n2), some (.ref a1), none] [] w) (fun v w' => Rv 260 1399 ls (vts v []) w') (xnone) := R_calS (z := 1022) (kd := 4) (n := 4) Q260 (by decide +kernel) rfl (Or.inr rfl) (Nat.le_of_ble_eq_true rfl) rfl Q257 rfl rfl rfl
theorem e260_1399 {ls : zL} {st : List Value} {w : zW} {x : Int32} : Rv 260 1399 ls (.int x :: st) w = lst ls 5 (some (.int x)) fun l => Rv 260 1401 l st w := R_st Q260 (by decide +kernel) rfl
theorem e260_1401 {ls : zL} {st : List Value} {w : zW} : Rv 260 1401 ls st w = ldA ls 2 fun x => Rv 260 1402 ls (x :: st) w := R_ldA Q260 (by decide +kernel) rfl
theorem e260_1402 {ls : zL} {st : List Value} {w : zW} : Rv 260 1402 ls st w = ldA ls 0 fun x => Rv 260 1403 ls (x :: st) w := R_ldA Q260 (by decide +kernel) rfl
theorem e260_1403 {ls : zL} {st : List Value} {w : zW} : Rv 260 1403 ls st w = ldI ls 4 fun x => Rv 260 1405 ls (.int x :: st) w := R_ldI Q260 (by decide +kernel) rfl
theorem e260_1405 {ls : zL} {st : List Value} {w : zW} : Rv 260 1405 ls st w = Rv 260 1406 ls (.int 1 :: st) w := R_con Q260 (by decide +kernel) rfl (by decide)
theorem e260_1406 {ls : zL} {st : List Value} {w : zW} {x y : Int32} : Rv 260 1406 ls (.int y :: .int x :: st) w = Rv 260 1407 ls (.int (x + y) :: st) w := R_next Q260 (by decide +kernel) rfl
theorem e260_1407 {ls : zL} {st : List Value} {w : zW} {a : Nat} {x : Int32} : Rv 260 1407 ls (.int x :: .ref a :: st) w = gI w a 0 8 x fun v => Rv 260 1408 ls (.int v :: st) w := R_iald Q260 (by decide +kernel)
theorem e260_1408 {ls : zL} {st : List Value} {w : zW} : Rv 260 1408 ls st w = ldA ls 0 fun x => Rv 260 1409 ls (x :: st) w := R_ldA Q260 (by decide +kernel) rfl
theorem e260_1409 {ls : zL} {st : List Value} {w : zW} : Rv 260 1409 ls st w = ldI ls 4 fun x => Rv 260 1411 ls (.int x :: st) w := R_ldI Q260 (by decide +kernel) rfl
theorem e260_1411 {ls : zL} {st : List Value} {w : zW} : Rv 260 1411 ls st w = Rv 260 1412 ls (.int 2 :: st) w := R_con Q260 (by decide +kernel) rfl (by decide)
theorem e260_1412 {ls : zL} {st : List Value} {w : zW} {x y : Int32} : Rv 260 1412 ls (.int y :: .int x :: st) w = Rv 260 1413 ls (.int (x + y) :: st) w := R_next Q260 (by decide +kernel) rfl
theorem e260_1413 {ls : zL} {st : List Value} {w : zW} {a : Nat} {x : Int32} : Rv 260 1413 ls (.int x :: .ref a :: st) w = gI w a 0 8 x fun v => Rv 260 1414 ls (.int v :: st) w := R_iald Q260 (by decide +kernel)
theorem e260_1414 {ls : zL} {w : zW} {n1 : Int32} {n2 : Int32} {a0 : Nat} : Rv 260 1414 ls [.int n1, .int n2, .ref a0] w = hO w a0 6 (cal (Rv 215 0 [some (.ref a0), some (.int n2), some (.int n1), none, none] [] w) (fun v w' => Rv 260 1417 ls (vts v []) w') (xnone)) := R_calV (z := 1403) (r := []) Q260 (by decide +kernel) rfl rfl Q215 rfl rfl rfl
theorem e260_1417 {ls : zL} {st : List Value} {w : zW} {x : Int32} : Rv 260 1417 ls (.int x :: st) w = lst ls 6 (some (.int x)) fun l => Rv 260 1419 l st w := R_st Q260 (by decide +kernel) rfl
theorem e260_1419 {ls : zL} {st : List Value} {w : zW} : Rv 260 1419 ls st w = ldA ls 2 fun x => Rv 260 1420 ls (x :: st) w := R_ldA Q260 (by decide +kernel) rfl
theorem e260_1420 {ls : zL} {w : zW} {a0 : Nat} : Rv 260 1420 ls [.ref a0] w = hO w a0 6 (cal (Rv 140 0 [some (.ref a0)] [] w) (fun v w' => Rv 260 1423 ls (vts v []) w') (xnone)) := R_calV (z := 1107) (r := []) Q260 (by decide +kernel) rfl rfl Q140 rfl rfl rfl
theorem e260_1423 {ls : zL} {st : List Value} {w : zW} : Rv 260 1423 ls st w = ldI ls 5 fun x => Rv 260 1425 ls (.int x :: st) w := R_ldI Q260 (by decide +kernel) rfl
theorem e260_1425 {ls : zL} {st : List Value} {w : zW} {x y : Int32} : Rv 260 1425 ls (.int y :: .int x :: st) w = if x = y then Rv 260 1430 ls st w else Rv 260 1428 ls st w := R_fieq Q260 (by decide +kernel) rfl rfl
theorem e260_1428 {ls : zL} {st : List Value} {w : zW} : Rv 260 1428 ls st w = Rv 260 1429 ls (.int 0 :: st) w := R_con Q260 (by decide +kernel) rfl (by decide)
theorem e260_1429 {ls : zL} {w : zW} {x : Int32} : Rv 260 1429 ls [.int x] w = if x = 0 ∨ x = 1 then some (.inl (some (.int x)), w) else none := R_retZ Q260 (by decide +kernel) rfl
theorem e260_1430 {ls : zL} {st : List Value} {w : zW} : Rv 260 1430 ls st w = ldI ls 5 fun x => Rv 260 1432 ls (.int x :: st) w := R_ldI Q260 (by decide +kernel) rfl
theorem e260_1432 {ls : zL} {st : List Value} {w : zW} {x : Int32} : Rv 260 1432 ls (.int x :: st) w = if x = 0 then Rv 260 1435 ls st w else Rv 260 1447 ls st w := R_f0ne Q260 (by decide +kernel) rfl rfl
theorem e260_1435 {ls : zL} {st : List Value} {w : zW} : Rv 260 1435 ls st w = ldA ls 3 fun x => Rv 260 1436 ls (x :: st) w := R_ldA Q260 (by decide +kernel) rfl
theorem e260_1436 {ls : zL} {st : List Value} {w : zW} : Rv 260 1436 ls st w = Rv 260 1437 ls (.int 0 :: st) w := R_con Q260 (by decide +kernel) rfl (by decide)
theorem e260_1437 {ls : zL} {st : List Value} {w : zW} {a : Nat} {x : Int32} : Rv 260 1437 ls (.int x :: .ref a :: st) w = gL w a x fun v => Rv 260 1438 ls (.long v :: st) w := R_lald Q260 (by decide +kernel)
theorem e260_1438 {ls : zL} {st : List Value} {w : zW} : Rv 260 1438 ls st w = ldI ls 6 fun x => Rv 260 1440 ls (.int x :: st) w := R_ldI Q260 (by decide +kernel) rfl
theorem e260_1440 {ls : zL} {st : List Value} {w : zW} {x : Int32} : Rv 260 1440 ls (.int x :: st) w = Rv 260 1441 ls (.long x.toInt64 :: st) w := R_next Q260 (by decide +kernel) rfl
theorem e260_1441 {ls : zL} {st : List Value} {w : zW} {x y : Int64} : Rv 260 1441 ls (.long y :: .long x :: st) w = Rv 260 1442 ls (.int (lg_cmp x y) :: st) w := R_next Q260 (by decide +kernel) rfl
theorem e260_1442 {ls : zL} {st : List Value} {w : zW} {x : Int32} : Rv 260 1442 ls (.int x :: st) w = if x = 0 then Rv 260 1447 ls st w else Rv 260 1445 ls st w := R_f0eq Q260 (by decide +kernel) rfl rfl
theorem e260_1445 {ls : zL} {st : List Value} {w : zW} : Rv 260 1445 ls st w = Rv 260 1446 ls (.int 0 :: st) w := R_con Q260 (by decide +kernel) rfl (by decide)
theorem e260_1446 {ls : zL} {w : zW} {x : Int32} : Rv 260 1446 ls [.int x] w = if x = 0 ∨ x = 1 then some (.inl (some (.int x)), w) else none := R_retZ Q260 (by decide +kernel) rfl
theorem e260_1447 {ls : zL} {st : List Value} {w : zW} : Rv 260 1447 ls st w = Rv 260 1590 ls st w := R_go Q260 (by decide +kernel) rfl rfl
theorem e260_1450 {ls : zL} {st : List Value} {w : zW} : Rv 260 1450 ls st w = ldA ls 1 fun x => Rv 260 1451 ls (x :: st) w := R_ldA Q260 (by decide +kernel) rfl
theorem e260_1451 {ls : zL} {st : List Value} {w : zW} : Rv 260 1451 ls st w = ldA ls 0 fun x => Rv 260 1452 ls (x :: st) w := R_ldA Q260 (by decide +kernel) rfl
theorem e260_1452 {ls : zL} {st : List Value} {w : zW} : Rv 260 1452 ls st w = ldI ls 4 fun x => Rv 260 1454 ls (.int x :: st) w := R_ldI Q260 (by decide +kernel) rfl
theorem e260_1454 {ls : zL} {st : List Value} {w : zW} : Rv 260 1454 ls st w = Rv 260 1455 ls (.int 1 :: st) w := R_con Q260 (by decide +kernel) rfl (by decide)
theorem e260_1455 {ls : zL} {st : List Value} {w : zW} {x y : Int32} : Rv 260 1455 ls (.int y :: .int x :: st) w = Rv 260 1456 ls (.int (x + y) :: st) w := R_next Q260 (by decide +kernel) rfl
theorem e260_1456 {ls : zL} {st : List Value} {w : zW} {a : Nat} {x : Int32} : Rv 260 1456 ls (.int x :: .ref a :: st) w = gI w a 0 8 x fun v => Rv 260 1457 ls (.int v :: st) w := R_iald Q260 (by decide +kernel)
theorem e260_1457 {ls : zL} {st : List Value} {w : zW} : Rv 260 1457 ls st w = ldA ls 3 fun x => Rv 260 1458 ls (x :: st) w := R_ldA Q260 (by decide +kernel) rfl
theorem e260_1458 {ls : zL} {w : zW} {a1 : Nat} {n2 : Int32} {a3 : Nat} : Rv 260 1458 ls [.ref a1, .int n2, .ref a3] w = cal (Rv 258 0 [some (.ref a3), some (.int n2), some (.ref a1), none] [] w) (fun v w' => Rv 260 1461 ls (vts v []) w') (xnone) := R_calS (z := 1033) (kd := 4) (n := 3) Q260 (by decide +kernel) rfl (Or.inr rfl) (Nat.le_of_ble_eq_true rfl) rfl Q258 rfl rfl rfl
theorem e260_1461 {ls : zL} {st : List Value} {w : zW} {x : Int32} : Rv 260 1461 ls (.int x :: st) w = lst ls 5 (some (.int x)) fun l => Rv 260 1463 l st w := R_st Q260 (by decide +kernel) rfl
theorem e260_1463 {ls : zL} {st : List Value} {w : zW} : Rv 260 1463 ls st w = ldA ls 2 fun x => Rv 260 1464 ls (x :: st) w := R_ldA Q260 (by decide +kernel) rfl
theorem e260_1464 {ls : zL} {st : List Value} {w : zW} : Rv 260 1464 ls st w = ldA ls 0 fun x => Rv 260 1465 ls (x :: st) w := R_ldA Q260 (by decide +kernel) rfl
theorem e260_1465 {ls : zL} {st : List Value} {w : zW} : Rv 260 1465 ls st w = ldI ls 4 fun x => Rv 260 1467 ls (.int x :: st) w := R_ldI Q260 (by decide +kernel) rfl
theorem e260_1467 {ls : zL} {st : List Value} {w : zW} : Rv 260 1467 ls st w = Rv 260 1468 ls (.int 1 :: st) w := R_con Q260 (by decide +kernel) rfl (by decide)
theorem e260_1468 {ls : zL} {st : List Value} {w : zW} {x y : Int32} : Rv 260 1468 ls (.int y :: .int x :: st) w = Rv 260 1469 ls (.int (x + y) :: st) w := R_next Q260 (by decide +kernel) rfl
theorem e260_1469 {ls : zL} {st : List Value} {w : zW} {a : Nat} {x : Int32} : Rv 260 1469 ls (.int x :: .ref a :: st) w = gI w a 0 8 x fun v => Rv 260 1470 ls (.int v :: st) w := R_iald Q260 (by decide +kernel)
theorem e260_1470 {ls : zL} {w : zW} {n1 : Int32} {a0 : Nat} : Rv 260 1470 ls [.int n1, .ref a0] w = hO w a0 6 (cal (Rv 216 0 [some (.ref a0), some (.int n1)] [] w) (fun v w' => Rv 260 1473 ls (vts v []) w') (xnone)) := R_calV (z := 1407) (r := []) Q260 (by decide +kernel) rfl rfl Q216 rfl rfl rfl
theorem e260_1473 {ls : zL} {st : List Value} {w : zW} {x : Int32} : Rv 260 1473 ls (.int x :: st) w = lst ls 6 (some (.int x)) fun l => Rv 260 1475 l st w := R_st Q260 (by decide +kernel) rfl
theorem e260_1475 {ls : zL} {st : List Value} {w : zW} : Rv 260 1475 ls st w = ldA ls 2 fun x => Rv 260 1476 ls (x :: st) w := R_ldA Q260 (by decide +kernel) rfl
theorem e260_1476 {ls : zL} {w : zW} {a0 : Nat} : Rv 260 1476 ls [.ref a0] w = hO w a0 6 (cal (Rv 140 0 [some (.ref a0)] [] w) (fun v w' => Rv 260 1479 ls (vts v []) w') (xnone)) := R_calV (z := 1107) (r := []) Q260 (by decide +kernel) rfl rfl Q140 rfl rfl rfl
theorem e260_1479 {ls : zL} {st : List Value} {w : zW} : Rv 260 1479 ls st w = ldI ls 5 fun x => Rv 260 1481 ls (.int x :: st) w := R_ldI Q260 (by decide +kernel) rfl
theorem e260_1481 {ls : zL} {st : List Value} {w : zW} {x y : Int32} : Rv 260 1481 ls (.int y :: .int x :: st) w = if x = y then Rv 260 1486 ls st w else Rv 260 1484 ls st w := R_fieq Q260 (by decide +kernel) rfl rfl
theorem e260_1484 {ls : zL} {st : List Value} {w : zW} : Rv 260 1484 ls st w = Rv 260 1485 ls (.int 0 :: st) w := R_con Q260 (by decide +kernel) rfl (by decide)
theorem e260_1485 {ls : zL} {w : zW} {x : Int32} : Rv 260 1485 ls [.int x] w = if x = 0 ∨ x = 1 then some (.inl (some (.int x)), w) else none := R_retZ Q260 (by decide +kernel) rfl
theorem e260_1486 {ls : zL} {st : List Value} {w : zW} : Rv 260 1486 ls st w = ldI ls 5 fun x => Rv 260 1488 ls (.int x :: st) w := R_ldI Q260 (by decide +kernel) rfl
theorem e260_1488 {ls : zL} {st : List Value} {w : zW} {x : Int32} : Rv 260 1488 ls (.int x :: st) w = if x = 0 then Rv 260 1491 ls st w else Rv 260 1503 ls st w := R_f0ne Q260 (by decide +kernel) rfl rfl
theorem e260_1491 {ls : zL} {st : List Value} {w : zW} : Rv 260 1491 ls st w = ldA ls 3 fun x => Rv 260 1492 ls (x :: st) w := R_ldA Q260 (by decide +kernel) rfl
theorem e260_1492 {ls : zL} {st : List Value} {w : zW} : Rv 260 1492 ls st w = Rv 260 1493 ls (.int 0 :: st) w := R_con Q260 (by decide +kernel) rfl (by decide)
theorem e260_1493 {ls : zL} {st : List Value} {w : zW} {a : Nat} {x : Int32} : Rv 260 1493 ls (.int x :: .ref a :: st) w = gL w a x fun v => Rv 260 1494 ls (.long v :: st) w := R_lald Q260 (by decide +kernel)
theorem e260_1494 {ls : zL} {st : List Value} {w : zW} : Rv 260 1494 ls st w = ldI ls 6 fun x => Rv 260 1496 ls (.int x :: st) w := R_ldI Q260 (by decide +kernel) rfl
theorem e260_1496 {ls : zL} {st : List Value} {w : zW} {x : Int32} : Rv 260 1496 ls (.int x :: st) w = Rv 260 1497 ls (.long x.toInt64 :: st) w := R_next Q260 (by decide +kernel) rfl
theorem e260_1497 {ls : zL} {st : List Value} {w : zW} {x y : Int64} : Rv 260 1497 ls (.long y :: .long x :: st) w = Rv 260 1498 ls (.int (lg_cmp x y) :: st) w := R_next Q260 (by decide +kernel) rfl
theorem e260_1498 {ls : zL} {st : List Value} {w : zW} {x : Int32} : Rv 260 1498 ls (.int x :: st) w = if x = 0 then Rv 260 1503 ls st w else Rv 260 1501 ls st w := R_f0eq Q260 (by decide +kernel) rfl rfl
theorem e260_1501 {ls : zL} {st : List Value} {w : zW} : Rv 260 1501 ls st w = Rv 260 1502 ls (.int 0 :: st) w := R_con Q260 (by decide +kernel) rfl (by decide)
theorem e260_1502 {ls : zL} {w : zW} {x : Int32} : Rv 260 1502 ls [.int x] w = if x = 0 ∨ x = 1 then some (.inl (some (.int x)), w) else none := R_retZ Q260 (by decide +kernel) rfl
theorem e260_1503 {ls : zL} {st : List Value} {w : zW} : Rv 260 1503 ls st w = Rv 260 1590 ls st w := R_go Q260 (by decide +kernel) rfl rfl
theorem e260_1506 {ls : zL} {st : List Value} {w : zW} : Rv 260 1506 ls st w = ldA ls 1 fun x => Rv 260 1507 ls (x :: st) w := R_ldA Q260 (by decide +kernel) rfl
theorem e260_1507 {ls : zL} {w : zW} {a0 : Nat} : Rv 260 1507 ls [.ref a0] w = hO w a0 5 (cal (Rv 125 0 [some (.ref a0)] [] w) (fun v w' => Rv 260 1510 ls (vts v []) w') (xnone)) := R_calV (z := 425) (r := []) Q260 (by decide +kernel) rfl rfl Q125 rfl rfl rfl
theorem e260_1510 {ls : zL} {st : List Value} {w : zW} : Rv 260 1510 ls st w = ldA ls 2 fun x => Rv 260 1511 ls (x :: st) w := R_ldA Q260 (by decide +kernel) rfl
theorem e260_1511 {ls : zL} {w : zW} {a0 : Nat} {n1 : Int32} : Rv 260 1511 ls [.ref a0, .int n1] w = hO w a0 6 (cal (Rv 217 0 [some (.ref a0), none] [] w) (fun v w' => Rv 260 1514 ls (vts v [.int n1]) w') (xnone)) := R_calV (z := 1411) (r := [.int n1]) Q260 (by decide +kernel) rfl rfl Q217 rfl rfl rfl
theorem e260_1514 {ls : zL} {st : List Value} {w : zW} {x y : Int32} : Rv 260 1514 ls (.int y :: .int x :: st) w = if x = y then Rv 260 1590 ls st w else Rv 260 1517 ls st w := R_fieq Q260 (by decide +kernel) rfl rfl
theorem e260_1517 {ls : zL} {st : List Value} {w : zW} : Rv 260 1517 ls st w = Rv 260 1518 ls (.int 0 :: st) w := R_con Q260 (by decide +kernel) rfl (by decide)
theorem e260_1518 {ls : zL} {w : zW} {x : Int32} : Rv 260 1518 ls [.int x] w = if x = 0 ∨ x = 1 then some (.inl (some (.int x)), w) else none := R_retZ Q260 (by decide +kernel) rfl
theorem e260_1519 {ls : zL} {st : List Value} {w : zW} : Rv 260 1519 ls st w = ldA ls 1 fun x => Rv 260 1520 ls (x :: st) w := R_ldA Q260 (by decide +kernel) rfl
theorem e260_1520 {ls : zL} {w : zW} {a0 : Nat} : Rv 260 1520 ls [.ref a0] w = hO w a0 5 (cal (Rv 126 0 [some (.ref a0), none, none, none] [] w) (fun v w' => Rv 260 1523 ls (vts v []) w') (xnone)) := R_calV (z := 433) (r := []) Q260 (by decide +kernel) rfl rfl Q126 rfl rfl rfl
theorem e260_1523 {ls : zL} {st : List Value} {w : zW} : Rv 260 1523 ls st w = ldA ls 2 fun x => Rv 260 1524 ls (x :: st) w := R_ldA Q260 (by decide +kernel) rfl
theorem e260_1524 {ls : zL} {w : zW} {a0 : Nat} {n1 : Int32} : Rv 260 1524 ls [.ref a0, .int n1] w = hO w a0 6 (cal (Rv 228 0 [some (.ref a0)] [] w) (fun v w' => Rv 260 1527 ls (vts v [.int n1]) w') (xnone)) := R_calV (z := 1415) (r := [.int n1]) Q260 (by decide +kernel) rfl rfl Q228 rfl rfl rfl
theorem e260_1527 {ls : zL} {st : List Value} {w : zW} {x y : Int32} : Rv 260 1527 ls (.int y :: .int x :: st) w = if x = y then Rv 260 1590 ls st w else Rv 260 1530 ls st w := R_fieq Q260 (by decide +kernel) rfl rfl
theorem e260_1530 {ls : zL} {st : List Value} {w : zW} : Rv 260 1530 ls st w = Rv 260 1531 ls (.int 0 :: st) w := R_con Q260 (by decide +kernel) rfl (by decide)
theorem e260_1531 {ls : zL} {w : zW} {x : Int32} : Rv 260 1531 ls [.int x] w = if x = 0 ∨ x = 1 then some (.inl (some (.int x)), w) else none := R_retZ Q260 (by decide +kernel) rfl
theorem e260_1532 {ls : zL} {st : List Value} {w : zW} : Rv 260 1532 ls st w = ldA ls 1 fun x => Rv 260 1533 ls (x :: st) w := R_ldA Q260 (by decide +kernel) rfl
theorem e260_1533 {ls : zL} {st : List Value} {w : zW} : Rv 260 1533 ls st w = ldA ls 3 fun x => Rv 260 1534 ls (x :: st) w := R_ldA Q260 (by decide +kernel) rfl
theorem e260_1534 {ls : zL} {w : zW} {a1 : Nat} {a2 : Nat} : Rv 260 1534 ls [.ref a1, .ref a2] w = cal (Rv 259 0 [some (.ref a2), some (.ref a1), none] [] w) (fun v w' => Rv 260 1537 ls (vts v []) w') (xnone) := R_calS (z := 1048) (kd := 4) (n := 2) Q260 (by decide +kernel) rfl (Or.inr rfl) (Nat.le_of_ble_eq_true rfl) rfl Q259 rfl rfl rfl
theorem e260_1537 {ls : zL} {st : List Value} {w : zW} {x : Int32} : Rv 260 1537 ls (.int x :: st) w = lst ls 5 (some (.int x)) fun l => Rv 260 1539 l st w := R_st Q260 (by decide +kernel) rfl
theorem e260_1539 {ls : zL} {st : List Value} {w : zW} : Rv 260 1539 ls st w = ldA ls 2 fun x => Rv 260 1540 ls (x :: st) w := R_ldA Q260 (by decide +kernel) rfl
theorem e260_1540 {ls : zL} {w : zW} {a0 : Nat} : Rv 260 1540 ls [.ref a0] w = hO w a0 6 (cal (Rv 229 0 [some (.ref a0), none] [] w) (fun v w' => Rv 260 1543 ls (vts v []) w') (xnone)) := R_calV (z := 1457) (r := []) Q260 (by decide +kernel) rfl rfl Q229 rfl rfl rfl
theorem e260_1543 {ls : zL} {st : List Value} {w : zW} {x : Int32} : Rv 260 1543 ls (.int x :: st) w = lst ls 6 (some (.int x)) fun l => Rv 260 1545 l st w := R_st Q260 (by decide +kernel) rfl
theorem e260_1545 {ls : zL} {st : List Value} {w : zW} : Rv 260 1545 ls st w = ldA ls 2 fun x => Rv 260 1546 ls (x :: st) w := R_ldA Q260 (by decide +kernel) rfl
theorem e260_1546 {ls : zL} {w : zW} {a0 : Nat} : Rv 260 1546 ls [.ref a0] w = hO w a0 6 (cal (Rv 140 0 [some (.ref a0)] [] w) (fun v w' => Rv 260 1549 ls (vts v []) w') (xnone)) := R_calV (z := 1107) (r := []) Q260 (by decide +kernel) rfl rfl Q140 rfl rfl rfl
theorem e260_1549 {ls : zL} {st : List Value} {w : zW} : Rv 260 1549 ls st w = ldI ls 5 fun x => Rv 260 1551 ls (.int x :: st) w := R_ldI Q260 (by decide +kernel) rfl
theorem e260_1551 {ls : zL} {st : List Value} {w : zW} {x y : Int32} : Rv 260 1551 ls (.int y :: .int x :: st) w = if x = y then Rv 260 1556 ls st w else Rv 260 1554 ls st w := R_fieq Q260 (by decide +kernel) rfl rfl
theorem e260_1554 {ls : zL} {st : List Value} {w : zW} : Rv 260 1554 ls st w = Rv 260 1555 ls (.int 0 :: st) w := R_con Q260 (by decide +kernel) rfl (by decide)
theorem e260_1555 {ls : zL} {w : zW} {x : Int32} : Rv 260 1555 ls [.int x] w = if x = 0 ∨ x = 1 then some (.inl (some (.int x)), w) else none := R_retZ Q260 (by decide +kernel) rfl
theorem e260_1556 {ls : zL} {st : List Value} {w : zW} : Rv 260 1556 ls st w = ldI ls 5 fun x => Rv 260 1558 ls (.int x :: st) w := R_ldI Q260 (by decide +kernel) rfl
theorem e260_1558 {ls : zL} {st : List Value} {w : zW} {x : Int32} : Rv 260 1558 ls (.int x :: st) w = if x = 0 then Rv 260 1561 ls st w else Rv 260 1573 ls st w := R_f0ne Q260 (by decide +kernel) rfl rfl
theorem e260_1561 {ls : zL} {st : List Value} {w : zW} : Rv 260 1561 ls st w = ldA ls 3 fun x => Rv 260 1562 ls (x :: st) w := R_ldA Q260 (by decide +kernel) rfl
theorem e260_1562 {ls : zL} {st : List Value} {w : zW} : Rv 260 1562 ls st w = Rv 260 1563 ls (.int 0 :: st) w := R_con Q260 (by decide +kernel) rfl (by decide)
theorem e260_1563 {ls : zL} {st : List Value} {w : zW} {a : Nat} {x : Int32} : Rv 260 1563 ls (.int x :: .ref a :: st) w = gL w a x fun v => Rv 260 1564 ls (.long v :: st) w := R_lald Q260 (by decide +kernel)
theorem e260_1564 {ls : zL} {st : List Value} {w : zW} : Rv 260 1564 ls st w = ldI ls 6 fun x => Rv 260 1566 ls (.int x :: st) w := R_ldI Q260 (by decide +kernel) rfl
theorem e260_1566 {ls : zL} {st : List Value} {w : zW} {x : Int32} : Rv 260 1566 ls (.int x :: st) w = Rv 260 1567 ls (.long x.toInt64 :: st) w := R_next Q260 (by decide +kernel) rfl
theorem e260_1567 {ls : zL} {st : List Value} {w : zW} {x y : Int64} : Rv 260 1567 ls (.long y :: .long x :: st) w = Rv 260 1568 ls (.int (lg_cmp x y) :: st) w := R_next Q260 (by decide +kernel) rfl
theorem e260_1568 {ls : zL} {st : List Value} {w : zW} {x : Int32} : Rv 260 1568 ls (.int x :: st) w = if x = 0 then Rv 260 1573 ls st w else Rv 260 1571 ls st w := R_f0eq Q260 (by decide +kernel) rfl rfl
theorem e260_1571 {ls : zL} {st : List Value} {w : zW} : Rv 260 1571 ls st w = Rv 260 1572 ls (.int 0 :: st) w := R_con Q260 (by decide +kernel) rfl (by decide)
theorem e260_1572 {ls : zL} {w : zW} {x : Int32} : Rv 260 1572 ls [.int x] w = if x = 0 ∨ x = 1 then some (.inl (some (.int x)), w) else none := R_retZ Q260 (by decide +kernel) rfl
theorem e260_1573 {ls : zL} {st : List Value} {w : zW} : Rv 260 1573 ls st w = Rv 260 1590 ls st w := R_go Q260 (by decide +kernel) rfl rfl
theorem e260_1576 {ls : zL} {st : List Value} {w : zW} : Rv 260 1576 ls st w = ldA ls 1 fun x => Rv 260 1577 ls (x :: st) w := R_ldA Q260 (by decide +kernel) rfl
theorem e260_1577 {ls : zL} {w : zW} {a0 : Nat} : Rv 260 1577 ls [.ref a0] w = hO w a0 5 (cal (Rv 128 0 [some (.ref a0), none, none, none] [] w) (fun v w' => Rv 260 1580 ls (vts v []) w') (xnone)) := R_calV (z := 634) (r := []) Q260 (by decide +kernel) rfl rfl Q128 rfl rfl rfl
theorem e260_1580 {ls : zL} {st : List Value} {w : zW} : Rv 260 1580 ls st w = ldA ls 2 fun x => Rv 260 1581 ls (x :: st) w := R_ldA Q260 (by decide +kernel) rfl
theorem e260_1581 {ls : zL} {w : zW} {a0 : Nat} {l1 : Int64} : Rv 260 1581 ls [.ref a0, .long l1] w = hO w a0 6 (cal (Rv 230 0 [some (.ref a0), none, none, none, none] [] w) (fun v w' => Rv 260 1584 ls (vts v [.long l1]) w') (xnone)) := R_calV (z := 1461) (r := [.long l1]) Q260 (by decide +kernel) rfl rfl Q230 rfl rfl rfl
theorem e260_1584 {ls : zL} {st : List Value} {w : zW} {x y : Int64} : Rv 260 1584 ls (.long y :: .long x :: st) w = Rv 260 1585 ls (.int (lg_cmp x y) :: st) w := R_next Q260 (by decide +kernel) rfl
theorem e260_1585 {ls : zL} {st : List Value} {w : zW} {x : Int32} : Rv 260 1585 ls (.int x :: st) w = if x = 0 then Rv 260 1590 ls st w else Rv 260 1588 ls st w := R_f0eq Q260 (by decide +kernel) rfl rfl
theorem e260_1588 {ls : zL} {st : List Value} {w : zW} : Rv 260 1588 ls st w = Rv 260 1589 ls (.int 0 :: st) w := R_con Q260 (by decide +kernel) rfl (by decide)
theorem e260_1589 {ls : zL} {w : zW} {x : Int32} : Rv 260 1589 ls [.int x] w = if x = 0 ∨ x = 1 then some (.inl (some (.int x)), w) else none := R_retZ Q260 (by decide +kernel) rfl
theorem e260_1590 {ls : zL} {st : List Value} {w : zW} : Rv 260 1590 ls st w = ldI ls 4 fun x => lst ls 4 (some (.int (x + 3))) fun l => Rv 260 1593 l st w := R_iinc Q260 (by decide +kernel) (by decide)
theorem e260_1593 {ls : zL} {st : List Value} {w : zW} : Rv 260 1593 ls st w = Rv 260 23 ls st w := R_go Q260 (by decide +kernel) rfl rfl
theorem e260_1596 {ls : zL} {st : List Value} {w : zW} : Rv 260 1596 ls st w = Rv 260 1597 ls (.int 1 :: st) w := R_con Q260 (by decide +kernel) rfl (by decide)
theorem e260_1597 {ls : zL} {w : zW} {x : Int32} : Rv 260 1597 ls [.int x] w = if x = 0 ∨ x = 1 then some (.inl (some (.int x)), w) else none := R_retZ Q260 (by decide +kernel) rfl
