/-! MasterPins.pin -/
theorem e109_0 {ls : zL} {st : List Value} {w : zW} : Rv 109 0 ls st w = ldA ls 0 fun x => Rv 109 1 ls (x :: st) w := R_ldA Q109 (by decide +kernel) rfl
theorem e109_1 {ls : zL} {st : List Value} {w : zW} {a : Nat} : Rv 109 1 ls (.ref a :: st) w = gF w a 5 0 fun v => Rv 109 4 ls (v :: st) w := R_gF (z := 265) Q109 (by decide +kernel) rfl
theorem e109_4 {ls : zL} {st : List Value} {w : zW} : Rv 109 4 ls st w = ldI ls 1 fun x => Rv 109 5 ls (.int x :: st) w := R_ldI Q109 (by decide +kernel) rfl
theorem e109_5 {ls : zL} {st : List Value} {w : zW} : Rv 109 5 ls st w = ldI ls 2 fun x => Rv 109 6 ls (.int x :: st) w := R_ldI Q109 (by decide +kernel) rfl
theorem e109_6 {ls : zL} {w : zW} {n1 : Int32} {n2 : Int32} {a0 : Nat} : Rv 109 6 ls [.int n1, .int n2, .ref a0] w = hO w a0 2 (cal (Rv 39 0 [some (.ref a0), some (.int n2), some (.int n1)] [] w) (fun v w' => Rv 109 9 ls (vts v []) w') (xnone)) := R_calV (z := 565) (r := []) Q109 (by decide +kernel) rfl rfl Q39 rfl rfl rfl
theorem e109_9 {ls : zL} {w : zW} {n1 : Int32} : Rv 109 9 ls [.int n1] w = cal (Rv 129 0 [some (.int n1)] [] w) (fun v w' => Rv 109 12 ls (vts v []) w') (xnone) := R_calS (z := 807) (kd := 1) (n := 1) Q109 (by decide +kernel) rfl (Or.inl rfl) (Nat.le_of_ble_eq_true rfl) rfl Q129 rfl rfl rfl
theorem e109_12 {ls : zL} {st : List Value} {w : zW} : Rv 109 12 ls st w = ldA ls 0 fun x => Rv 109 13 ls (x :: st) w := R_ldA Q109 (by decide +kernel) rfl
theorem e109_13 {ls : zL} {st : List Value} {w : zW} {a : Nat} : Rv 109 13 ls (.ref a :: st) w = gF w a 5 2 fun v => Rv 109 16 ls (v :: st) w := R_gF (z := 267) Q109 (by decide +kernel) rfl
theorem e109_16 {ls : zL} {st : List Value} {w : zW} : Rv 109 16 ls st w = ldA ls 0 fun x => Rv 109 17 ls (x :: st) w := R_ldA Q109 (by decide +kernel) rfl
theorem e109_17 {ls : zL} {st : List Value} {w : zW} {a : Nat} : Rv 109 17 ls (.ref a :: st) w = gF w a 5 0 fun v => Rv 109 20 ls (v :: st) w := R_gF (z := 265) Q109 (by decide +kernel) rfl
theorem e109_20 {ls : zL} {w : zW} {a1 : Nat} {a0 : Nat} : Rv 109 20 ls [.ref a1, .ref a0] w = hO w a0 4 (cal (Rv 98 0 [some (.ref a0), some (.ref a1)] [] w) (fun v w' => Rv 109 23 ls (vts v []) w') (xnone)) := R_calV (z := 282) (r := []) Q109 (by decide +kernel) rfl rfl Q98 rfl rfl rfl
theorem e109_23 {ls : zL} {st : List Value} {w : zW} : Rv 109 23 ls st w = ldA ls 0 fun x => Rv 109 24 ls (x :: st) w := R_ldA Q109 (by decide +kernel) rfl
theorem e109_24 {ls : zL} {st : List Value} {w : zW} {a : Nat} : Rv 109 24 ls (.ref a :: st) w = gF w a 5 0 fun v => Rv 109 27 ls (v :: st) w := R_gF (z := 265) Q109 (by decide +kernel) rfl
theorem e109_27 {ls : zL} {st : List Value} {w : zW} : Rv 109 27 ls st w = ldI ls 1 fun x => Rv 109 28 ls (.int x :: st) w := R_ldI Q109 (by decide +kernel) rfl
theorem e109_28 {ls : zL} {st : List Value} {w : zW} : Rv 109 28 ls st w = ldI ls 2 fun x => Rv 109 29 ls (.int x :: st) w := R_ldI Q109 (by decide +kernel) rfl
theorem e109_29 {ls : zL} {w : zW} {n1 : Int32} {n2 : Int32} {a0 : Nat} : Rv 109 29 ls [.int n1, .int n2, .ref a0] w = hO w a0 2 (cal (Rv 54 0 [some (.ref a0), some (.int n2), some (.int n1), none] [] w) (fun v w' => Rv 109 32 ls (vts v []) w') (xnone)) := R_calV (z := 609) (r := []) Q109 (by decide +kernel) rfl rfl Q54 rfl rfl rfl
theorem e109_32 {ls : zL} {w : zW} {x : Int32} : Rv 109 32 ls [.int x] w = some (.inl (some (.int x)), w) := R_retI Q109 (by decide +kernel) rfl
/-! MasterPins.fit -/
theorem e110_0 {ls : zL} {st : List Value} {w : zW} : Rv 110 0 ls st w = ldA ls 0 fun x => Rv 110 1 ls (x :: st) w := R_ldA Q110 (by decide +kernel) rfl
theorem e110_1 {ls : zL} {st : List Value} {w : zW} {a : Nat} : Rv 110 1 ls (.ref a :: st) w = gF w a 5 0 fun v => Rv 110 4 ls (v :: st) w := R_gF (z := 265) Q110 (by decide +kernel) rfl
theorem e110_4 {ls : zL} {st : List Value} {w : zW} : Rv 110 4 ls st w = ldI ls 1 fun x => Rv 110 5 ls (.int x :: st) w := R_ldI Q110 (by decide +kernel) rfl
theorem e110_5 {ls : zL} {w : zW} {n1 : Int32} {a0 : Nat} : Rv 110 5 ls [.int n1, .ref a0] w = hO w a0 2 (cal (Rv 38 0 [some (.ref a0), some (.int n1)] [] w) (fun v w' => Rv 110 8 ls (vts v []) w') (xnone)) := R_calV (z := 573) (r := []) Q110 (by decide +kernel) rfl rfl Q38 rfl rfl rfl
theorem e110_8 {ls : zL} {w : zW} {n1 : Int32} : Rv 110 8 ls [.int n1] w = cal (Rv 129 0 [some (.int n1)] [] w) (fun v w' => Rv 110 11 ls (vts v []) w') (xnone) := R_calS (z := 807) (kd := 1) (n := 1) Q110 (by decide +kernel) rfl (Or.inl rfl) (Nat.le_of_ble_eq_true rfl) rfl Q129 rfl rfl rfl
theorem e110_11 {ls : zL} {st : List Value} {w : zW} : Rv 110 11 ls st w = ldA ls 0 fun x => Rv 110 12 ls (x :: st) w := R_ldA Q110 (by decide +kernel) rfl
theorem e110_12 {ls : zL} {st : List Value} {w : zW} {a : Nat} : Rv 110 12 ls (.ref a :: st) w = gF w a 5 2 fun v => Rv 110 15 ls (v :: st) w := R_gF (z := 267) Q110 (by decide +kernel) rfl
theorem e110_15 {ls : zL} {st : List Value} {w : zW} : Rv 110 15 ls st w = ldA ls 0 fun x => Rv 110 16 ls (x :: st) w := R_ldA Q110 (by decide +kernel) rfl
theorem e110_16 {ls : zL} {st : List Value} {w : zW} {a : Nat} : Rv 110 16 ls (.ref a :: st) w = gF w a 5 0 fun v => Rv 110 19 ls (v :: st) w := R_gF (z := 265) Q110 (by decide +kernel) rfl
theorem e110_19 {ls : zL} {w : zW} {a1 : Nat} {a0 : Nat} : Rv 110 19 ls [.ref a1, .ref a0] w = hO w a0 4 (cal (Rv 98 0 [some (.ref a0), some (.ref a1)] [] w) (fun v w' => Rv 110 22 ls (vts v []) w') (xnone)) := R_calV (z := 282) (r := []) Q110 (by decide +kernel) rfl rfl Q98 rfl rfl rfl
theorem e110_22 {ls : zL} {st : List Value} {w : zW} : Rv 110 22 ls st w = ldA ls 0 fun x => Rv 110 23 ls (x :: st) w := R_ldA Q110 (by decide +kernel) rfl
theorem e110_23 {ls : zL} {st : List Value} {w : zW} {a : Nat} : Rv 110 23 ls (.ref a :: st) w = gF w a 5 0 fun v => Rv 110 26 ls (v :: st) w := R_gF (z := 265) Q110 (by decide +kernel) rfl
theorem e110_26 {ls : zL} {st : List Value} {w : zW} : Rv 110 26 ls st w = ldI ls 1 fun x => Rv 110 27 ls (.int x :: st) w := R_ldI Q110 (by decide +kernel) rfl
theorem e110_27 {ls : zL} {w : zW} {n1 : Int32} {a0 : Nat} : Rv 110 27 ls [.int n1, .ref a0] w = hO w a0 2 (cal (Rv 55 0 [some (.ref a0), some (.int n1), none] [] w) (fun v w' => Rv 110 30 ls (vts v []) w') (xnone)) := R_calV (z := 613) (r := []) Q110 (by decide +kernel) rfl rfl Q55 rfl rfl rfl
theorem e110_30 {ls : zL} {w : zW} {x : Int32} : Rv 110 30 ls [.int x] w = some (.inl (some (.int x)), w) := R_retI Q110 (by decide +kernel) rfl
/-! MasterPins.fitAll -/
theorem e111_0 {ls : zL} {st : List Value} {w : zW} : Rv 111 0 ls st w = ldA ls 0 fun x => Rv 111 1 ls (x :: st) w := R_ldA Q111 (by decide +kernel) rfl
theorem e111_1 {ls : zL} {st : List Value} {w : zW} {a : Nat} : Rv 111 1 ls (.ref a :: st) w = gF w a 5 2 fun v => Rv 111 4 ls (v :: st) w := R_gF (z := 267) Q111 (by decide +kernel) rfl
theorem e111_4 {ls : zL} {st : List Value} {w : zW} : Rv 111 4 ls st w = ldA ls 0 fun x => Rv 111 5 ls (x :: st) w := R_ldA Q111 (by decide +kernel) rfl
theorem e111_5 {ls : zL} {st : List Value} {w : zW} {a : Nat} : Rv 111 5 ls (.ref a :: st) w = gF w a 5 0 fun v => Rv 111 8 ls (v :: st) w := R_gF (z := 265) Q111 (by decide +kernel) rfl
theorem e111_8 {ls : zL} {w : zW} {a1 : Nat} {a0 : Nat} : Rv 111 8 ls [.ref a1, .ref a0] w = hO w a0 4 (cal (Rv 98 0 [some (.ref a0), some (.ref a1)] [] w) (fun v w' => Rv 111 11 ls (vts v []) w') (xnone)) := R_calV (z := 282) (r := []) Q111 (by decide +kernel) rfl rfl Q98 rfl rfl rfl
theorem e111_11 {ls : zL} {st : List Value} {w : zW} : Rv 111 11 ls st w = ldA ls 0 fun x => Rv 111 12 ls (x :: st) w := R_ldA Q111 (by decide +kernel) rfl
theorem e111_12 {ls : zL} {st : List Value} {w : zW} {a : Nat} : Rv 111 12 ls (.ref a :: st) w = gF w a 5 0 fun v => Rv 111 15 ls (v :: st) w := R_gF (z := 265) Q111 (by decide +kernel) rfl
theorem e111_15 {ls : zL} {w : zW} {a0 : Nat} : Rv 111 15 ls [.ref a0] w = hO w a0 2 (cal (Rv 56 0 [some (.ref a0), none, none] [] w) (fun v w' => Rv 111 18 ls (vts v []) w') (xnone)) := R_calV (z := 297) (r := []) Q111 (by decide +kernel) rfl rfl Q56 rfl rfl rfl
theorem e111_18 {ls : zL} {w : zW} {x : Int32} : Rv 111 18 ls [.int x] w = some (.inl (some (.int x)), w) := R_retI Q111 (by decide +kernel) rfl
/-! MasterPins.setOwner -/
theorem e112_0 {ls : zL} {st : List Value} {w : zW} : Rv 112 0 ls st w = ldA ls 0 fun x => Rv 112 1 ls (x :: st) w := R_ldA Q112 (by decide +kernel) rfl
theorem e112_1 {ls : zL} {st : List Value} {w : zW} {a : Nat} : Rv 112 1 ls (.ref a :: st) w = gF w a 5 0 fun v => Rv 112 4 ls (v :: st) w := R_gF (z := 265) Q112 (by decide +kernel) rfl
theorem e112_4 {ls : zL} {st : List Value} {w : zW} : Rv 112 4 ls st w = ldI ls 1 fun x => Rv 112 5 ls (.int x :: st) w := R_ldI Q112 (by decide +kernel) rfl
theorem e112_5 {ls : zL} {st : List Value} {w : zW} : Rv 112 5 ls st w = ldI ls 2 fun x => Rv 112 6 ls (.int x :: st) w := R_ldI Q112 (by decide +kernel) rfl
theorem e112_6 {ls : zL} {w : zW} {n1 : Int32} {n2 : Int32} {a0 : Nat} : Rv 112 6 ls [.int n1, .int n2, .ref a0] w = hO w a0 2 (cal (Rv 39 0 [some (.ref a0), some (.int n2), some (.int n1)] [] w) (fun v w' => Rv 112 9 ls (vts v []) w') (xnone)) := R_calV (z := 565) (r := []) Q112 (by decide +kernel) rfl rfl Q39 rfl rfl rfl
theorem e112_9 {ls : zL} {w : zW} {n1 : Int32} : Rv 112 9 ls [.int n1] w = cal (Rv 129 0 [some (.int n1)] [] w) (fun v w' => Rv 112 12 ls (vts v []) w') (xnone) := R_calS (z := 807) (kd := 1) (n := 1) Q112 (by decide +kernel) rfl (Or.inl rfl) (Nat.le_of_ble_eq_true rfl) rfl Q129 rfl rfl rfl
theorem e112_12 {ls : zL} {st : List Value} {w : zW} : Rv 112 12 ls st w = ldA ls 0 fun x => Rv 112 13 ls (x :: st) w := R_ldA Q112 (by decide +kernel) rfl
theorem e112_13 {ls : zL} {st : List Value} {w : zW} {a : Nat} : Rv 112 13 ls (.ref a :: st) w = gF w a 5 2 fun v => Rv 112 16 ls (v :: st) w := R_gF (z := 267) Q112 (by decide +kernel) rfl
theorem e112_16 {ls : zL} {st : List Value} {w : zW} : Rv 112 16 ls st w = ldA ls 0 fun x => Rv 112 17 ls (x :: st) w := R_ldA Q112 (by decide +kernel) rfl
theorem e112_17 {ls : zL} {st : List Value} {w : zW} {a : Nat} : Rv 112 17 ls (.ref a :: st) w = gF w a 5 0 fun v => Rv 112 20 ls (v :: st) w := R_gF (z := 265) Q112 (by decide +kernel) rfl
theorem e112_20 {ls : zL} {w : zW} {a1 : Nat} {a0 : Nat} : Rv 112 20 ls [.ref a1, .ref a0] w = hO w a0 4 (cal (Rv 98 0 [some (.ref a0), some (.ref a1)] [] w) (fun v w' => Rv 112 23 ls (vts v []) w') (xnone)) := R_calV (z := 282) (r := []) Q112 (by decide +kernel) rfl rfl Q98 rfl rfl rfl
theorem e112_23 {ls : zL} {st : List Value} {w : zW} : Rv 112 23 ls st w = ldA ls 0 fun x => Rv 112 24 ls (x :: st) w := R_ldA Q112 (by decide +kernel) rfl
theorem e112_24 {ls : zL} {st : List Value} {w : zW} {a : Nat} : Rv 112 24 ls (.ref a :: st) w = gF w a 5 0 fun v => Rv 112 27 ls (v :: st) w := R_gF (z := 265) Q112 (by decide +kernel) rfl
theorem e112_27 {ls : zL} {st : List Value} {w : zW} : Rv 112 27 ls st w = ldI ls 1 fun x => Rv 112 28 ls (.int x :: st) w := R_ldI Q112 (by decide +kernel) rfl
theorem e112_28 {ls : zL} {st : List Value} {w : zW} : Rv 112 28 ls st w = ldI ls 2 fun x => Rv 112 29 ls (.int x :: st) w := R_ldI Q112 (by decide +kernel) rfl
theorem e112_29 {ls : zL} {w : zW} {n1 : Int32} {n2 : Int32} {a0 : Nat} : Rv 112 29 ls [.int n1, .int n2, .ref a0] w = hO w a0 2 (cal (Rv 57 0 [some (.ref a0), some (.int n2), some (.int n1), none] [] w) (fun v w' => Rv 112 32 ls (vts v []) w') (xnone)) := R_calV (z := 901) (r := []) Q112 (by decide +kernel) rfl rfl Q57 rfl rfl rfl
theorem e112_32 {ls : zL} {w : zW} {x : Int32} : Rv 112 32 ls [.int x] w = some (.inl (some (.int x)), w) := R_retI Q112 (by decide +kernel) rfl
/-! MasterPins.key -/
theorem e113_0 {ls : zL} {st : List Value} {w : zW} : Rv 113 0 ls st w = ldA ls 0 fun x => Rv 113 1 ls (x :: st) w := R_ldA Q113 (by decide +kernel) rfl
theorem e113_1 {ls : zL} {st : List Value} {w : zW} {a : Nat} : Rv 113 1 ls (.ref a :: st) w = gF w a 5 0 fun v => Rv 113 4 ls (v :: st) w := R_gF (z := 265) Q113 (by decide +kernel) rfl
theorem e113_4 {ls : zL} {st : List Value} {w : zW} : Rv 113 4 ls st w = ldI ls 1 fun x => Rv 113 5 ls (.int x :: st) w := R_ldI Q113 (by decide +kernel) rfl
theorem e113_5 {ls : zL} {w : zW} {n1 : Int32} {a0 : Nat} : Rv 113 5 ls [.int n1, .ref a0] w = hO w a0 2 (cal (Rv 36 0 [some (.ref a0), some (.int n1)] [] w) (fun v w' => Rv 113 8 ls (vts v []) w') (xnone)) := R_calV (z := 912) (r := []) Q113 (by decide +kernel) rfl rfl Q36 rfl rfl rfl
theorem e113_8 {ls : zL} {w : zW} {n1 : Int32} : Rv 113 8 ls [.int n1] w = cal (Rv 129 0 [some (.int n1)] [] w) (fun v w' => Rv 113 11 ls (vts v []) w') (xnone) := R_calS (z := 807) (kd := 1) (n := 1) Q113 (by decide +kernel) rfl (Or.inl rfl) (Nat.le_of_ble_eq_true rfl) rfl Q129 rfl rfl rfl
theorem e113_11 {ls : zL} {st : List Value} {w : zW} : Rv 113 11 ls st w = ldI ls 2 fun x => Rv 113 12 ls (.int x :: st) w := R_ldI Q113 (by decide +kernel) rfl
theorem e113_12 {ls : zL} {st : List Value} {w : zW} : Rv 113 12 ls st w = Rv 113 14 ls (.int 6 :: st) w := R_con Q113 (by decide +kernel) rfl (by decide)
theorem e113_14 {ls : zL} {w : zW} {n1 : Int32} {n2 : Int32} : Rv 113 14 ls [.int n1, .int n2] w = cal (Rv 130 0 [some (.int n2), some (.int n1)] [] w) (fun v w' => Rv 113 17 ls (vts v []) w') (xnone) := R_calS (z := 916) (kd := 1) (n := 2) Q113 (by decide +kernel) rfl (Or.inl rfl) (Nat.le_of_ble_eq_true rfl) rfl Q130 rfl rfl rfl
theorem e113_17 {ls : zL} {w : zW} {n1 : Int32} : Rv 113 17 ls [.int n1] w = cal (Rv 129 0 [some (.int n1)] [] w) (fun v w' => Rv 113 20 ls (vts v []) w') (xnone) := R_calS (z := 807) (kd := 1) (n := 1) Q113 (by decide +kernel) rfl (Or.inl rfl) (Nat.le_of_ble_eq_true rfl) rfl Q129 rfl rfl rfl
theorem e113_20 {ls : zL} {st : List Value} {w : zW} : Rv 113 20 ls st w = ldA ls 0 fun x => Rv 113 21 ls (x :: st) w := R_ldA Q113 (by decide +kernel) rfl
theorem e113_21 {ls : zL} {st : List Value} {w : zW} {a : Nat} : Rv 113 21 ls (.ref a :: st) w = gF w a 5 0 fun v => Rv 113 24 ls (v :: st) w := R_gF (z := 265) Q113 (by decide +kernel) rfl
theorem e113_24 {ls : zL} {st : List Value} {w : zW} : Rv 113 24 ls st w = ldI ls 1 fun x => Rv 113 25 ls (.int x :: st) w := R_ldI Q113 (by decide +kernel) rfl
theorem e113_25 {ls : zL} {st : List Value} {w : zW} : Rv 113 25 ls st w = ldI ls 2 fun x => Rv 113 26 ls (.int x :: st) w := R_ldI Q113 (by decide +kernel) rfl
theorem e113_26 {ls : zL} {w : zW} {n1 : Int32} {n2 : Int32} {a0 : Nat} : Rv 113 26 ls [.int n1, .int n2, .ref a0] w = hO w a0 2 (cal (Rv 76 0 [some (.ref a0), some (.int n2), some (.int n1)] [] w) (fun v w' => Rv 113 29 ls (vts v []) w') (xnone)) := R_calV (z := 687) (r := []) Q113 (by decide +kernel) rfl rfl Q76 rfl rfl rfl
theorem e113_29 {ls : zL} {w : zW} {x : Int32} : Rv 113 29 ls [.int x] w = some (.inl (some (.int x)), w) := R_retI Q113 (by decide +kernel) rfl
/-! MasterPins.door -/
theorem e114_0 {ls : zL} {st : List Value} {w : zW} : Rv 114 0 ls st w = ldA ls 0 fun x => Rv 114 1 ls (x :: st) w := R_ldA Q114 (by decide +kernel) rfl
theorem e114_1 {ls : zL} {st : List Value} {w : zW} {a : Nat} : Rv 114 1 ls (.ref a :: st) w = gF w a 5 0 fun v => Rv 114 4 ls (v :: st) w := R_gF (z := 265) Q114 (by decide +kernel) rfl
theorem e114_4 {ls : zL} {st : List Value} {w : zW} : Rv 114 4 ls st w = ldI ls 1 fun x => Rv 114 5 ls (.int x :: st) w := R_ldI Q114 (by decide +kernel) rfl
theorem e114_5 {ls : zL} {w : zW} {n1 : Int32} {a0 : Nat} : Rv 114 5 ls [.int n1, .ref a0] w = hO w a0 2 (cal (Rv 38 0 [some (.ref a0), some (.int n1)] [] w) (fun v w' => Rv 114 8 ls (vts v []) w') (xnone)) := R_calV (z := 573) (r := []) Q114 (by decide +kernel) rfl rfl Q38 rfl rfl rfl
theorem e114_8 {ls : zL} {w : zW} {n1 : Int32} : Rv 114 8 ls [.int n1] w = cal (Rv 129 0 [some (.int n1)] [] w) (fun v w' => Rv 114 11 ls (vts v []) w') (xnone) := R_calS (z := 807) (kd := 1) (n := 1) Q114 (by decide +kernel) rfl (Or.inl rfl) (Nat.le_of_ble_eq_true rfl) rfl Q129 rfl rfl rfl
theorem e114_11 {ls : zL} {st : List Value} {w : zW} : Rv 114 11 ls st w = ldI ls 2 fun x => Rv 114 12 ls (.int x :: st) w := R_ldI Q114 (by decide +kernel) rfl
theorem e114_12 {ls : zL} {st : List Value} {w : zW} : Rv 114 12 ls st w = Rv 114 14 ls (.int 8 :: st) w := R_con Q114 (by decide +kernel) rfl (by decide)
theorem e114_14 {ls : zL} {w : zW} {n1 : Int32} {n2 : Int32} : Rv 114 14 ls [.int n1, .int n2] w = cal (Rv 130 0 [some (.int n2), some (.int n1)] [] w) (fun v w' => Rv 114 17 ls (vts v []) w') (xnone) := R_calS (z := 916) (kd := 1) (n := 2) Q114 (by decide +kernel) rfl (Or.inl rfl) (Nat.le_of_ble_eq_true rfl) rfl Q130 rfl rfl rfl
theorem e114_17 {ls : zL} {w : zW} {n1 : Int32} : Rv 114 17 ls [.int n1] w = cal (Rv 129 0 [some (.int n1)] [] w) (fun v w' => Rv 114 20 ls (vts v []) w') (xnone) := R_calS (z := 807) (kd := 1) (n := 1) Q114 (by decide +kernel) rfl (Or.inl rfl) (Nat.le_of_ble_eq_true rfl) rfl Q129 rfl rfl rfl
theorem e114_20 {ls : zL} {st : List Value} {w : zW} : Rv 114 20 ls st w = ldA ls 0 fun x => Rv 114 21 ls (x :: st) w := R_ldA Q114 (by decide +kernel) rfl
theorem e114_21 {ls : zL} {st : List Value} {w : zW} {a : Nat} : Rv 114 21 ls (.ref a :: st) w = gF w a 5 1 fun v => Rv 114 24 ls (v :: st) w := R_gF (z := 266) Q114 (by decide +kernel) rfl
theorem e114_24 {ls : zL} {w : zW} {a0 : Nat} : Rv 114 24 ls [.ref a0] w = hO w a0 3 (cal (Rv 84 0 [some (.ref a0)] [] w) (fun v w' => Rv 114 27 ls (vts v []) w') (xnone)) := R_calV (z := 327) (r := []) Q114 (by decide +kernel) rfl rfl Q84 rfl rfl rfl
theorem e114_27 {ls : zL} {st : List Value} {w : zW} : Rv 114 27 ls st w = ldA ls 0 fun x => Rv 114 28 ls (x :: st) w := R_ldA Q114 (by decide +kernel) rfl
theorem e114_28 {ls : zL} {st : List Value} {w : zW} {a : Nat} : Rv 114 28 ls (.ref a :: st) w = gF w a 5 1 fun v => Rv 114 31 ls (v :: st) w := R_gF (z := 266) Q114 (by decide +kernel) rfl
theorem e114_31 {ls : zL} {st : List Value} {w : zW} : Rv 114 31 ls st w = ldI ls 1 fun x => Rv 114 32 ls (.int x :: st) w := R_ldI Q114 (by decide +kernel) rfl
theorem e114_32 {ls : zL} {st : List Value} {w : zW} : Rv 114 32 ls st w = ldI ls 2 fun x => Rv 114 33 ls (.int x :: st) w := R_ldI Q114 (by decide +kernel) rfl
theorem e114_33 {ls : zL} {w : zW} {n1 : Int32} {n2 : Int32} {a0 : Nat} : Rv 114 33 ls [.int n1, .int n2, .ref a0] w = hO w a0 3 (cal (Rv 85 0 [some (.ref a0), some (.int n2), some (.int n1)] [] w) (fun v w' => Rv 114 36 ls (vts v []) w') (xnone)) := R_calV (z := 703) (r := []) Q114 (by decide +kernel) rfl rfl Q85 rfl rfl rfl
theorem e114_36 {ls : zL} {w : zW} {x : Int32} : Rv 114 36 ls [.int x] w = some (.inl (some (.int x)), w) := R_retI Q114 (by decide +kernel) rfl
/-! MasterPins.pins -/
theorem e115_0 {ls : zL} {st : List Value} {w : zW} : Rv 115 0 ls st w = ldA ls 0 fun x => Rv 115 1 ls (x :: st) w := R_ldA Q115 (by decide +kernel) rfl
theorem e115_1 {ls : zL} {st : List Value} {w : zW} {a : Nat} : Rv 115 1 ls (.ref a :: st) w = gF w a 5 0 fun v => Rv 115 4 ls (v :: st) w := R_gF (z := 265) Q115 (by decide +kernel) rfl
theorem e115_4 {ls : zL} {st : List Value} {w : zW} : Rv 115 4 ls st w = ldI ls 1 fun x => Rv 115 5 ls (.int x :: st) w := R_ldI Q115 (by decide +kernel) rfl
theorem e115_5 {ls : zL} {st : List Value} {w : zW} : Rv 115 5 ls st w = ldI ls 2 fun x => Rv 115 6 ls (.int x :: st) w := R_ldI Q115 (by decide +kernel) rfl
theorem e115_6 {ls : zL} {w : zW} {n1 : Int32} {n2 : Int32} {a0 : Nat} : Rv 115 6 ls [.int n1, .int n2, .ref a0] w = hO w a0 2 (cal (Rv 40 0 [some (.ref a0), some (.int n2), some (.int n1)] [] w) (fun v w' => Rv 115 9 ls (vts v []) w') (xnone)) := R_calV (z := 933) (r := []) Q115 (by decide +kernel) rfl rfl Q40 rfl rfl rfl
theorem e115_9 {ls : zL} {w : zW} {n1 : Int32} : Rv 115 9 ls [.int n1] w = cal (Rv 129 0 [some (.int n1)] [] w) (fun v w' => Rv 115 12 ls (vts v []) w') (xnone) := R_calS (z := 807) (kd := 1) (n := 1) Q115 (by decide +kernel) rfl (Or.inl rfl) (Nat.le_of_ble_eq_true rfl) rfl Q129 rfl rfl rfl
theorem e115_12 {ls : zL} {st : List Value} {w : zW} : Rv 115 12 ls st w = ldA ls 0 fun x => Rv 115 13 ls (x :: st) w := R_ldA Q115 (by decide +kernel) rfl
theorem e115_13 {ls : zL} {st : List Value} {w : zW} {a : Nat} : Rv 115 13 ls (.ref a :: st) w = gF w a 5 0 fun v => Rv 115 16 ls (v :: st) w := R_gF (z := 265) Q115 (by decide +kernel) rfl
theorem e115_16 {ls : zL} {st : List Value} {w : zW} : Rv 115 16 ls st w = ldI ls 1 fun x => Rv 115 17 ls (.int x :: st) w := R_ldI Q115 (by decide +kernel) rfl
theorem e115_17 {ls : zL} {st : List Value} {w : zW} : Rv 115 17 ls st w = ldI ls 2 fun x => Rv 115 18 ls (.int x :: st) w := R_ldI Q115 (by decide +kernel) rfl
theorem e115_18 {ls : zL} {w : zW} {n1 : Int32} {n2 : Int32} {a0 : Nat} : Rv 115 18 ls [.int n1, .int n2, .ref a0] w = hO w a0 2 (cal (Rv 66 0 [some (.ref a0), some (.int n2), some (.int n1)] [] w) (fun v w' => Rv 115 21 ls (vts v []) w') (xnone)) := R_calV (z := 704) (r := []) Q115 (by decide +kernel) rfl rfl Q66 rfl rfl rfl
theorem e115_21 {ls : zL} {w : zW} {x : Int32} : Rv 115 21 ls [.int x] w = some (.inl (some (.int x)), w) := R_retI Q115 (by decide +kernel) rfl
/-! MasterPins.whole -/
theorem e116_0 {ls : zL} {st : List Value} {w : zW} : Rv 116 0 ls st w = ldI ls 1 fun x => Rv 116 1 ls (.int x :: st) w := R_ldI Q116 (by decide +kernel) rfl
theorem e116_1 {ls : zL} {st : List Value} {w : zW} : Rv 116 1 ls st w = Rv 116 3 ls (.int 13 :: st) w := R_con Q116 (by decide +kernel) rfl (by decide)
theorem e116_3 {ls : zL} {w : zW} {n1 : Int32} {n2 : Int32} : Rv 116 3 ls [.int n1, .int n2] w = cal (Rv 130 0 [some (.int n2), some (.int n1)] [] w) (fun v w' => Rv 116 6 ls (vts v []) w') (xnone) := R_calS (z := 916) (kd := 1) (n := 2) Q116 (by decide +kernel) rfl (Or.inl rfl) (Nat.le_of_ble_eq_true rfl) rfl Q130 rfl rfl rfl
theorem e116_6 {ls : zL} {w : zW} {n1 : Int32} : Rv 116 6 ls [.int n1] w = cal (Rv 129 0 [some (.int n1)] [] w) (fun v w' => Rv 116 9 ls (vts v []) w') (xnone) := R_calS (z := 807) (kd := 1) (n := 1) Q116 (by decide +kernel) rfl (Or.inl rfl) (Nat.le_of_ble_eq_true rfl) rfl Q129 rfl rfl rfl
theorem e116_9 {ls : zL} {st : List Value} {w : zW} : Rv 116 9 ls st w = ldA ls 0 fun x => Rv 116 10 ls (x :: st) w := R_ldA Q116 (by decide +kernel) rfl
theorem e116_10 {ls : zL} {st : List Value} {w : zW} {a : Nat} : Rv 116 10 ls (.ref a :: st) w = gF w a 5 1 fun v => Rv 116 13 ls (v :: st) w := R_gF (z := 266) Q116 (by decide +kernel) rfl
theorem e116_13 {ls : zL} {w : zW} {a0 : Nat} : Rv 116 13 ls [.ref a0] w = hO w a0 3 (cal (Rv 84 0 [some (.ref a0)] [] w) (fun v w' => Rv 116 16 ls (vts v []) w') (xnone)) := R_calV (z := 327) (r := []) Q116 (by decide +kernel) rfl rfl Q84 rfl rfl rfl
theorem e116_16 {ls : zL} {st : List Value} {w : zW} : Rv 116 16 ls st w = ldA ls 0 fun x => Rv 116 17 ls (x :: st) w := R_ldA Q116 (by decide +kernel) rfl
theorem e116_17 {ls : zL} {st : List Value} {w : zW} : Rv 116 17 ls st w = ldI ls 1 fun x => Rv 116 18 ls (.int x :: st) w := R_ldI Q116 (by decide +kernel) rfl
theorem e116_18 {ls : zL} {w : zW} {n1 : Int32} {a0 : Nat} : Rv 116 18 ls [.int n1, .ref a0] w = hO w a0 5 (cal (Rv 132 0 [some (.ref a0), some (.int n1)] [] w) (fun v w' => Rv 116 21 ls (vts v []) w') (xnone)) := R_calV (z := 643) (r := []) Q116 (by decide +kernel) rfl rfl Q132 rfl rfl rfl
theorem e116_21 {ls : zL} {w : zW} {x : Int32} : Rv 116 21 ls [.int x] w = some (.inl (some (.int x)), w) := R_retI Q116 (by decide +kernel) rfl
/-! MasterPins.work -/
theorem e117_0 {ls : zL} {st : List Value} {w : zW} : Rv 117 0 ls st w = ldI ls 1 fun x => Rv 117 1 ls (.int x :: st) w := R_ldI Q117 (by decide +kernel) rfl
theorem e117_1 {ls : zL} {w : zW} {n1 : Int32} : Rv 117 1 ls [.int n1] w = cal (Rv 131 0 [some (.int n1)] [] w) (fun v w' => Rv 117 4 ls (vts v []) w') (xnone) := R_calS (z := 951) (kd := 1) (n := 1) Q117 (by decide +kernel) rfl (Or.inl rfl) (Nat.le_of_ble_eq_true rfl) rfl Q131 rfl rfl rfl
theorem e117_4 {ls : zL} {w : zW} {n1 : Int32} : Rv 117 4 ls [.int n1] w = cal (Rv 129 0 [some (.int n1)] [] w) (fun v w' => Rv 117 7 ls (vts v []) w') (xnone) := R_calS (z := 807) (kd := 1) (n := 1) Q117 (by decide +kernel) rfl (Or.inl rfl) (Nat.le_of_ble_eq_true rfl) rfl Q129 rfl rfl rfl
theorem e117_7 {ls : zL} {st : List Value} {w : zW} : Rv 117 7 ls st w = ldI ls 2 fun x => Rv 117 8 ls (.int x :: st) w := R_ldI Q117 (by decide +kernel) rfl
theorem e117_8 {ls : zL} {st : List Value} {w : zW} : Rv 117 8 ls st w = Rv 117 9 ls (.int 2 :: st) w := R_con Q117 (by decide +kernel) rfl (by decide)
theorem e117_9 {ls : zL} {w : zW} {n1 : Int32} {n2 : Int32} : Rv 117 9 ls [.int n1, .int n2] w = cal (Rv 130 0 [some (.int n2), some (.int n1)] [] w) (fun v w' => Rv 117 12 ls (vts v []) w') (xnone) := R_calS (z := 916) (kd := 1) (n := 2) Q117 (by decide +kernel) rfl (Or.inl rfl) (Nat.le_of_ble_eq_true rfl) rfl Q130 rfl rfl rfl
theorem e117_12 {ls : zL} {w : zW} {n1 : Int32} : Rv 117 12 ls [.int n1] w = cal (Rv 129 0 [some (.int n1)] [] w) (fun v w' => Rv 117 15 ls (vts v []) w') (xnone) := R_calS (z := 807) (kd := 1) (n := 1) Q117 (by decide +kernel) rfl (Or.inl rfl) (Nat.le_of_ble_eq_true rfl) rfl Q129 rfl rfl rfl
theorem e117_15 {ls : zL} {st : List Value} {w : zW} : Rv 117 15 ls st w = ldA ls 0 fun x => Rv 117 16 ls (x :: st) w := R_ldA Q117 (by decide +kernel) rfl
theorem e117_16 {ls : zL} {st : List Value} {w : zW} {a : Nat} : Rv 117 16 ls (.ref a :: st) w = gF w a 5 1 fun v => Rv 117 19 ls (v :: st) w := R_gF (z := 266) Q117 (by decide +kernel) rfl
theorem e117_19 {ls : zL} {w : zW} {a0 : Nat} : Rv 117 19 ls [.ref a0] w = hO w a0 3 (cal (Rv 84 0 [some (.ref a0)] [] w) (fun v w' => Rv 117 22 ls (vts v []) w') (xnone)) := R_calV (z := 327) (r := []) Q117 (by decide +kernel) rfl rfl Q84 rfl rfl rfl
theorem e117_22 {ls : zL} {st : List Value} {w : zW} : Rv 117 22 ls st w = ldA ls 0 fun x => Rv 117 23 ls (x :: st) w := R_ldA Q117 (by decide +kernel) rfl
theorem e117_23 {ls : zL} {st : List Value} {w : zW} {a : Nat} : Rv 117 23 ls (.ref a :: st) w = gF w a 5 1 fun v => Rv 117 26 ls (v :: st) w := R_gF (z := 266) Q117 (by decide +kernel) rfl
theorem e117_26 {ls : zL} {st : List Value} {w : zW} : Rv 117 26 ls st w = ldI ls 1 fun x => Rv 117 27 ls (.int x :: st) w := R_ldI Q117 (by decide +kernel) rfl
theorem e117_27 {ls : zL} {st : List Value} {w : zW} : Rv 117 27 ls st w = ldI ls 2 fun x => Rv 117 28 ls (.int x :: st) w := R_ldI Q117 (by decide +kernel) rfl
theorem e117_28 {ls : zL} {w : zW} {n1 : Int32} {n2 : Int32} {a0 : Nat} : Rv 117 28 ls [.int n1, .int n2, .ref a0] w = hO w a0 3 (cal (Rv 91 0 [some (.ref a0), some (.int n2), some (.int n1), none] [] w) (fun v w' => Rv 117 31 ls (vts v []) w') (xnone)) := R_calV (z := 713) (r := []) Q117 (by decide +kernel) rfl rfl Q91 rfl rfl rfl
theorem e117_31 {ls : zL} {w : zW} {x : Int32} : Rv 117 31 ls [.int x] w = some (.inl (some (.int x)), w) := R_retI Q117 (by decide +kernel) rfl
/-! MasterPins.byCode -/
theorem e118_0 {ls : zL} {st : List Value} {w : zW} : Rv 118 0 ls st w = ldI ls 1 fun x => Rv 118 1 ls (.int x :: st) w := R_ldI Q118 (by decide +kernel) rfl
theorem e118_1 {ls : zL} {w : zW} {n1 : Int32} : Rv 118 1 ls [.int n1] w = cal (Rv 131 0 [some (.int n1)] [] w) (fun v w' => Rv 118 4 ls (vts v []) w') (xnone) := R_calS (z := 951) (kd := 1) (n := 1) Q118 (by decide +kernel) rfl (Or.inl rfl) (Nat.le_of_ble_eq_true rfl) rfl Q131 rfl rfl rfl
theorem e118_4 {ls : zL} {w : zW} {n1 : Int32} : Rv 118 4 ls [.int n1] w = cal (Rv 129 0 [some (.int n1)] [] w) (fun v w' => Rv 118 7 ls (vts v []) w') (xnone) := R_calS (z := 807) (kd := 1) (n := 1) Q118 (by decide +kernel) rfl (Or.inl rfl) (Nat.le_of_ble_eq_true rfl) rfl Q129 rfl rfl rfl
theorem e118_7 {ls : zL} {st : List Value} {w : zW} : Rv 118 7 ls st w = ldA ls 0 fun x => Rv 118 8 ls (x :: st) w := R_ldA Q118 (by decide +kernel) rfl
theorem e118_8 {ls : zL} {st : List Value} {w : zW} {a : Nat} : Rv 118 8 ls (.ref a :: st) w = gF w a 5 0 fun v => Rv 118 11 ls (v :: st) w := R_gF (z := 265) Q118 (by decide +kernel) rfl
theorem e118_11 {ls : zL} {st : List Value} {w : zW} : Rv 118 11 ls st w = ldI ls 1 fun x => Rv 118 12 ls (.int x :: st) w := R_ldI Q118 (by decide +kernel) rfl
theorem e118_12 {ls : zL} {w : zW} {n1 : Int32} {a0 : Nat} : Rv 118 12 ls [.int n1, .ref a0] w = hO w a0 2 (cal (Rv 77 0 [some (.ref a0), some (.int n1), none, none, none] [] w) (fun v w' => Rv 118 15 ls (vts v []) w') (xnone)) := R_calV (z := 717) (r := []) Q118 (by decide +kernel) rfl rfl Q77 rfl rfl rfl
theorem e118_15 {ls : zL} {w : zW} {x : Int32} : Rv 118 15 ls [.int x] w = some (.inl (some (.int x)), w) := R_retI Q118 (by decide +kernel) rfl
/-! MasterPins.reason -/
theorem e119_0 {ls : zL} {st : List Value} {w : zW} : Rv 119 0 ls st w = ldA ls 0 fun x => Rv 119 1 ls (x :: st) w := R_ldA Q119 (by decide +kernel) rfl
theorem e119_1 {ls : zL} {st : List Value} {w : zW} {a : Nat} : Rv 119 1 ls (.ref a :: st) w = gF w a 5 0 fun v => Rv 119 4 ls (v :: st) w := R_gF (z := 265) Q119 (by decide +kernel) rfl
theorem e119_4 {ls : zL} {st : List Value} {w : zW} : Rv 119 4 ls st w = ldI ls 1 fun x => Rv 119 5 ls (.int x :: st) w := R_ldI Q119 (by decide +kernel) rfl
theorem e119_5 {ls : zL} {w : zW} {n1 : Int32} {a0 : Nat} : Rv 119 5 ls [.int n1, .ref a0] w = hO w a0 2 (cal (Rv 37 0 [some (.ref a0), some (.int n1)] [] w) (fun v w' => Rv 119 8 ls (vts v []) w') (xnone)) := R_calV (z := 968) (r := []) Q119 (by decide +kernel) rfl rfl Q37 rfl rfl rfl
theorem e119_8 {ls : zL} {w : zW} {n1 : Int32} : Rv 119 8 ls [.int n1] w = cal (Rv 129 0 [some (.int n1)] [] w) (fun v w' => Rv 119 11 ls (vts v []) w') (xnone) := R_calS (z := 807) (kd := 1) (n := 1) Q119 (by decide +kernel) rfl (Or.inl rfl) (Nat.le_of_ble_eq_true rfl) rfl Q129 rfl rfl rfl
theorem e119_11 {ls : zL} {st : List Value} {w : zW} : Rv 119 11 ls st w = ldA ls 0 fun x => Rv 119 12 ls (x :: st) w := R_ldA Q119 (by decide +kernel) rfl
theorem e119_12 {ls : zL} {st : List Value} {w : zW} {a : Nat} : Rv 119 12 ls (.ref a :: st) w = gF w a 5 0 fun v => Rv 119 15 ls (v :: st) w := R_gF (z := 265) Q119 (by decide +kernel) rfl
theorem e119_15 {ls : zL} {st : List Value} {w : zW} : Rv 119 15 ls st w = ldI ls 1 fun x => Rv 119 16 ls (.int x :: st) w := R_ldI Q119 (by decide +kernel) rfl
theorem e119_16 {ls : zL} {st : List Value} {w : zW} : Rv 119 16 ls st w = ldI ls 2 fun x => Rv 119 17 ls (.int x :: st) w := R_ldI Q119 (by decide +kernel) rfl
theorem e119_17 {ls : zL} {w : zW} {n1 : Int32} {n2 : Int32} {a0 : Nat} : Rv 119 17 ls [.int n1, .int n2, .ref a0] w = hO w a0 2 (cal (Rv 61 0 [some (.ref a0), some (.int n2), some (.int n1), none] [] w) (fun v w' => Rv 119 20 ls (vts v []) w') (xnone)) := R_calV (z := 972) (r := []) Q119 (by decide +kernel) rfl rfl Q61 rfl rfl rfl
theorem e119_20 {ls : zL} {w : zW} {x : Int32} : Rv 119 20 ls [.int x] w = some (.inl (some (.int x)), w) := R_retI Q119 (by decide +kernel) rfl
/-! MasterPins.freeCodes -/
theorem e120_0 {ls : zL} {st : List Value} {w : zW} : Rv 120 0 ls st w = ldA ls 0 fun x => Rv 120 1 ls (x :: st) w := R_ldA Q120 (by decide +kernel) rfl
theorem e120_1 {ls : zL} {st : List Value} {w : zW} {a : Nat} : Rv 120 1 ls (.ref a :: st) w = gF w a 5 1 fun v => Rv 120 4 ls (v :: st) w := R_gF (z := 266) Q120 (by decide +kernel) rfl
theorem e120_4 {ls : zL} {w : zW} {a0 : Nat} : Rv 120 4 ls [.ref a0] w = hO w a0 3 (cal (Rv 84 0 [some (.ref a0)] [] w) (fun v w' => Rv 120 7 ls (vts v []) w') (xnone)) := R_calV (z := 327) (r := []) Q120 (by decide +kernel) rfl rfl Q84 rfl rfl rfl
theorem e120_7 {ls : zL} {st : List Value} {w : zW} : Rv 120 7 ls st w = ldA ls 0 fun x => Rv 120 8 ls (x :: st) w := R_ldA Q120 (by decide +kernel) rfl
theorem e120_8 {ls : zL} {st : List Value} {w : zW} {a : Nat} : Rv 120 8 ls (.ref a :: st) w = gF w a 5 1 fun v => Rv 120 11 ls (v :: st) w := R_gF (z := 266) Q120 (by decide +kernel) rfl
theorem e120_11 {ls : zL} {w : zW} {a0 : Nat} : Rv 120 11 ls [.ref a0] w = hO w a0 3 (cal (Rv 92 0 [some (.ref a0), none, none] [] w) (fun v w' => Rv 120 14 ls (vts v []) w') (xnone)) := R_calV (z := 410) (r := []) Q120 (by decide +kernel) rfl rfl Q92 rfl rfl rfl
theorem e120_14 {ls : zL} {w : zW} {x : Int32} : Rv 120 14 ls [.int x] w = some (.inl (some (.int x)), w) := R_retI Q120 (by decide +kernel) rfl
/-! MasterPins.betterCode -/
theorem e121_0 {ls : zL} {st : List Value} {w : zW} : Rv 121 0 ls st w = ldA ls 0 fun x => Rv 121 1 ls (x :: st) w := R_ldA Q121 (by decide +kernel) rfl
theorem e121_1 {ls : zL} {st : List Value} {w : zW} {a : Nat} : Rv 121 1 ls (.ref a :: st) w = gF w a 5 0 fun v => Rv 121 4 ls (v :: st) w := R_gF (z := 265) Q121 (by decide +kernel) rfl
theorem e121_4 {ls : zL} {st : List Value} {w : zW} : Rv 121 4 ls st w = ldI ls 1 fun x => Rv 121 5 ls (.int x :: st) w := R_ldI Q121 (by decide +kernel) rfl
theorem e121_5 {ls : zL} {w : zW} {n1 : Int32} {a0 : Nat} : Rv 121 5 ls [.int n1, .ref a0] w = hO w a0 2 (cal (Rv 36 0 [some (.ref a0), some (.int n1)] [] w) (fun v w' => Rv 121 8 ls (vts v []) w') (xnone)) := R_calV (z := 912) (r := []) Q121 (by decide +kernel) rfl rfl Q36 rfl rfl rfl
theorem e121_8 {ls : zL} {w : zW} {n1 : Int32} : Rv 121 8 ls [.int n1] w = cal (Rv 129 0 [some (.int n1)] [] w) (fun v w' => Rv 121 11 ls (vts v []) w') (xnone) := R_calS (z := 807) (kd := 1) (n := 1) Q121 (by decide +kernel) rfl (Or.inl rfl) (Nat.le_of_ble_eq_true rfl) rfl Q129 rfl rfl rfl
theorem e121_11 {ls : zL} {st : List Value} {w : zW} : Rv 121 11 ls st w = ldA ls 0 fun x => Rv 121 12 ls (x :: st) w := R_ldA Q121 (by decide +kernel) rfl
theorem e121_12 {ls : zL} {st : List Value} {w : zW} {a : Nat} : Rv 121 12 ls (.ref a :: st) w = gF w a 5 1 fun v => Rv 121 15 ls (v :: st) w := R_gF (z := 266) Q121 (by decide +kernel) rfl
theorem e121_15 {ls : zL} {w : zW} {a0 : Nat} : Rv 121 15 ls [.ref a0] w = hO w a0 3 (cal (Rv 84 0 [some (.ref a0)] [] w) (fun v w' => Rv 121 18 ls (vts v []) w') (xnone)) := R_calV (z := 327) (r := []) Q121 (by decide +kernel) rfl rfl Q84 rfl rfl rfl
theorem e121_18 {ls : zL} {st : List Value} {w : zW} : Rv 121 18 ls st w = ldA ls 0 fun x => Rv 121 19 ls (x :: st) w := R_ldA Q121 (by decide +kernel) rfl
theorem e121_19 {ls : zL} {st : List Value} {w : zW} {a : Nat} : Rv 121 19 ls (.ref a :: st) w = gF w a 5 1 fun v => Rv 121 22 ls (v :: st) w := R_gF (z := 266) Q121 (by decide +kernel) rfl
theorem e121_22 {ls : zL} {st : List Value} {w : zW} : Rv 121 22 ls st w = ldI ls 1 fun x => Rv 121 23 ls (.int x :: st) w := R_ldI Q121 (by decide +kernel) rfl
theorem e121_23 {ls : zL} {w : zW} {n1 : Int32} {a0 : Nat} : Rv 121 23 ls [.int n1, .ref a0] w = hO w a0 3 (cal (Rv 93 0 [some (.ref a0), some (.int n1), none, none, none, none] [] w) (fun v w' => Rv 121 26 ls (vts v []) w') (xnone)) := R_calV (z := 980) (r := []) Q121 (by decide +kernel) rfl rfl Q93 rfl rfl rfl
theorem e121_26 {ls : zL} {w : zW} {x : Int32} : Rv 121 26 ls [.int x] w = some (.inl (some (.int x)), w) := R_retI Q121 (by decide +kernel) rfl
/-! MasterPins.pinsIfTurned -/
theorem e122_0 {ls : zL} {st : List Value} {w : zW} : Rv 122 0 ls st w = ldA ls 0 fun x => Rv 122 1 ls (x :: st) w := R_ldA Q122 (by decide +kernel) rfl
theorem e122_1 {ls : zL} {st : List Value} {w : zW} {a : Nat} : Rv 122 1 ls (.ref a :: st) w = gF w a 5 0 fun v => Rv 122 4 ls (v :: st) w := R_gF (z := 265) Q122 (by decide +kernel) rfl
theorem e122_4 {ls : zL} {st : List Value} {w : zW} : Rv 122 4 ls st w = ldI ls 1 fun x => Rv 122 5 ls (.int x :: st) w := R_ldI Q122 (by decide +kernel) rfl
theorem e122_5 {ls : zL} {w : zW} {n1 : Int32} {a0 : Nat} : Rv 122 5 ls [.int n1, .ref a0] w = hO w a0 2 (cal (Rv 36 0 [some (.ref a0), some (.int n1)] [] w) (fun v w' => Rv 122 8 ls (vts v []) w') (xnone)) := R_calV (z := 912) (r := []) Q122 (by decide +kernel) rfl rfl Q36 rfl rfl rfl
theorem e122_8 {ls : zL} {w : zW} {n1 : Int32} : Rv 122 8 ls [.int n1] w = cal (Rv 129 0 [some (.int n1)] [] w) (fun v w' => Rv 122 11 ls (vts v []) w') (xnone) := R_calS (z := 807) (kd := 1) (n := 1) Q122 (by decide +kernel) rfl (Or.inl rfl) (Nat.le_of_ble_eq_true rfl) rfl Q129 rfl rfl rfl
theorem e122_11 {ls : zL} {st : List Value} {w : zW} : Rv 122 11 ls st w = ldA ls 0 fun x => Rv 122 12 ls (x :: st) w := R_ldA Q122 (by decide +kernel) rfl
theorem e122_12 {ls : zL} {st : List Value} {w : zW} {a : Nat} : Rv 122 12 ls (.ref a :: st) w = gF w a 5 0 fun v => Rv 122 15 ls (v :: st) w := R_gF (z := 265) Q122 (by decide +kernel) rfl
theorem e122_15 {ls : zL} {st : List Value} {w : zW} : Rv 122 15 ls st w = ldI ls 1 fun x => Rv 122 16 ls (.int x :: st) w := R_ldI Q122 (by decide +kernel) rfl
theorem e122_16 {ls : zL} {w : zW} {n1 : Int32} {a0 : Nat} : Rv 122 16 ls [.int n1, .ref a0] w = hO w a0 2 (cal (Rv 81 0 [some (.ref a0), some (.int n1)] [] w) (fun v w' => Rv 122 19 ls (vts v []) w') (xnone)) := R_calV (z := 1014) (r := []) Q122 (by decide +kernel) rfl rfl Q81 rfl rfl rfl
theorem e122_19 {ls : zL} {w : zW} {x : Int32} : Rv 122 19 ls [.int x] w = some (.inl (some (.int x)), w) := R_retI Q122 (by decide +kernel) rfl
/-! MasterPins.pinsIfCut -/
theorem e123_0 {ls : zL} {st : List Value} {w : zW} : Rv 123 0 ls st w = ldA ls 0 fun x => Rv 123 1 ls (x :: st) w := R_ldA Q123 (by decide +kernel) rfl
theorem e123_1 {ls : zL} {st : List Value} {w : zW} {a : Nat} : Rv 123 1 ls (.ref a :: st) w = gF w a 5 0 fun v => Rv 123 4 ls (v :: st) w := R_gF (z := 265) Q123 (by decide +kernel) rfl
theorem e123_4 {ls : zL} {st : List Value} {w : zW} : Rv 123 4 ls st w = ldI ls 1 fun x => Rv 123 5 ls (.int x :: st) w := R_ldI Q123 (by decide +kernel) rfl
theorem e123_5 {ls : zL} {w : zW} {n1 : Int32} {a0 : Nat} : Rv 123 5 ls [.int n1, .ref a0] w = hO w a0 2 (cal (Rv 36 0 [some (.ref a0), some (.int n1)] [] w) (fun v w' => Rv 123 8 ls (vts v []) w') (xnone)) := R_calV (z := 912) (r := []) Q123 (by decide +kernel) rfl rfl Q36 rfl rfl rfl
theorem e123_8 {ls : zL} {w : zW} {n1 : Int32} : Rv 123 8 ls [.int n1] w = cal (Rv 129 0 [some (.int n1)] [] w) (fun v w' => Rv 123 11 ls (vts v []) w') (xnone) := R_calS (z := 807) (kd := 1) (n := 1) Q123 (by decide +kernel) rfl (Or.inl rfl) (Nat.le_of_ble_eq_true rfl) rfl Q129 rfl rfl rfl
theorem e123_11 {ls : zL} {st : List Value} {w : zW} : Rv 123 11 ls st w = ldA ls 0 fun x => Rv 123 12 ls (x :: st) w := R_ldA Q123 (by decide +kernel) rfl
theorem e123_12 {ls : zL} {st : List Value} {w : zW} {a : Nat} : Rv 123 12 ls (.ref a :: st) w = gF w a 5 0 fun v => Rv 123 15 ls (v :: st) w := R_gF (z := 265) Q123 (by decide +kernel) rfl
theorem e123_15 {ls : zL} {st : List Value} {w : zW} : Rv 123 15 ls st w = ldI ls 1 fun x => Rv 123 16 ls (.int x :: st) w := R_ldI Q123 (by decide +kernel) rfl
theorem e123_16 {ls : zL} {st : List Value} {w : zW} : Rv 123 16 ls st w = ldI ls 2 fun x => Rv 123 17 ls (.int x :: st) w := R_ldI Q123 (by decide +kernel) rfl
theorem e123_17 {ls : zL} {w : zW} {n1 : Int32} {n2 : Int32} {a0 : Nat} : Rv 123 17 ls [.int n1, .int n2, .ref a0] w = hO w a0 2 (cal (Rv 82 0 [some (.ref a0), some (.int n2), some (.int n1)] [] w) (fun v w' => Rv 123 20 ls (vts v []) w') (xnone)) := R_calV (z := 1029) (r := []) Q123 (by decide +kernel) rfl rfl Q82 rfl rfl rfl
theorem e123_20 {ls : zL} {w : zW} {x : Int32} : Rv 123 20 ls [.int x] w = some (.inl (some (.int x)), w) := R_retI Q123 (by decide +kernel) rfl
/-! MasterPins.type -/
theorem e124_0 {ls : zL} {st : List Value} {w : zW} : Rv 124 0 ls st w = ldA ls 0 fun x => Rv 124 1 ls (x :: st) w := R_ldA Q124 (by decide +kernel) rfl
theorem e124_1 {ls : zL} {st : List Value} {w : zW} {a : Nat} : Rv 124 1 ls (.ref a :: st) w = gF w a 5 3 fun v => Rv 124 4 ls (v :: st) w := R_gF (z := 268) Q124 (by decide +kernel) rfl
theorem e124_4 {ls : zL} {st : List Value} {w : zW} : Rv 124 4 ls st w = ldI ls 1 fun x => Rv 124 5 ls (.int x :: st) w := R_ldI Q124 (by decide +kernel) rfl
theorem e124_5 {ls : zL} {w : zW} {n1 : Int32} {a0 : Nat} : Rv 124 5 ls [.int n1, .ref a0] w = hO w a0 0 (cal (Rv 1 0 [some (.ref a0), some (.int n1)] [] w) (fun v w' => Rv 124 8 ls (vts v []) w') (xnone)) := R_calV (z := 1040) (r := []) Q124 (by decide +kernel) rfl rfl Q1 rfl rfl rfl
theorem e124_8 {ls : zL} {w : zW} {n1 : Int32} : Rv 124 8 ls [.int n1] w = cal (Rv 129 0 [some (.int n1)] [] w) (fun v w' => Rv 124 11 ls (vts v []) w') (xnone) := R_calS (z := 807) (kd := 1) (n := 1) Q124 (by decide +kernel) rfl (Or.inl rfl) (Nat.le_of_ble_eq_true rfl) rfl Q129 rfl rfl rfl
theorem e124_11 {ls : zL} {st : List Value} {w : zW} : Rv 124 11 ls st w = ldA ls 0 fun x => Rv 124 12 ls (x :: st) w := R_ldA Q124 (by decide +kernel) rfl
theorem e124_12 {ls : zL} {st : List Value} {w : zW} {a : Nat} : Rv 124 12 ls (.ref a :: st) w = gF w a 5 3 fun v => Rv 124 15 ls (v :: st) w := R_gF (z := 268) Q124 (by decide +kernel) rfl
theorem e124_15 {ls : zL} {st : List Value} {w : zW} : Rv 124 15 ls st w = ldI ls 1 fun x => Rv 124 16 ls (.int x :: st) w := R_ldI Q124 (by decide +kernel) rfl
theorem e124_16 {ls : zL} {w : zW} {n1 : Int32} {a0 : Nat} : Rv 124 16 ls [.int n1, .ref a0] w = hO w a0 0 (cal (Rv 2 0 [some (.ref a0), some (.int n1)] [] w) (fun v w' => Rv 124 19 ls (vts v []) w') (xnone)) := R_calV (z := 1044) (r := []) Q124 (by decide +kernel) rfl rfl Q2 rfl rfl rfl
theorem e124_19 {ls : zL} {w : zW} {x : Int32} : Rv 124 19 ls [.int x] w = some (.inl (some (.int x)), w) := R_retI Q124 (by decide +kernel) rfl
/-! MasterPins.clearCommands -/
theorem e125_0 {ls : zL} {st : List Value} {w : zW} : Rv 125 0 ls st w = ldA ls 0 fun x => Rv 125 1 ls (x :: st) w := R_ldA Q125 (by decide +kernel) rfl
theorem e125_1 {ls : zL} {st : List Value} {w : zW} {a : Nat} : Rv 125 1 ls (.ref a :: st) w = gF w a 5 3 fun v => Rv 125 4 ls (v :: st) w := R_gF (z := 268) Q125 (by decide +kernel) rfl
theorem e125_4 {ls : zL} {w : zW} {a0 : Nat} : Rv 125 4 ls [.ref a0] w = hO w a0 0 (cal (Rv 3 0 [some (.ref a0), none] [] w) (fun v w' => Rv 125 7 ls (vts v []) w') (xnone)) := R_calV (z := 429) (r := []) Q125 (by decide +kernel) rfl rfl Q3 rfl rfl rfl
theorem e125_7 {ls : zL} {w : zW} {x : Int32} : Rv 125 7 ls [.int x] w = some (.inl (some (.int x)), w) := R_retI Q125 (by decide +kernel) rfl
/-! MasterPins.runCommands -/
theorem e126_0 {ls : zL} {st : List Value} {w : zW} : Rv 126 0 ls st w = ldA ls 0 fun x => Rv 126 1 ls (x :: st) w := R_ldA Q126 (by decide +kernel) rfl
theorem e126_1 {ls : zL} {st : List Value} {w : zW} {a : Nat} : Rv 126 1 ls (.ref a :: st) w = gF w a 5 3 fun v => Rv 126 4 ls (v :: st) w := R_gF (z := 268) Q126 (by decide +kernel) rfl
theorem e126_4 {ls : zL} {w : zW} {a0 : Nat} : Rv 126 4 ls [.ref a0] w = hO w a0 0 (cal (Rv 5 0 [some (.ref a0), none, none] [] w) (fun v w' => Rv 126 7 ls (vts v []) w') (xnone)) := R_calV (z := 437) (r := []) Q126 (by decide +kernel) rfl rfl Q5 rfl rfl rfl
theorem e126_7 {ls : zL} {st : List Value} {w : zW} {x : Int32} : Rv 126 7 ls (.int x :: st) w = lst ls 1 (some (.int x)) fun l => Rv 126 8 l st w := R_st Q126 (by decide +kernel) rfl
theorem e126_8 {ls : zL} {st : List Value} {w : zW} : Rv 126 8 ls st w = ldI ls 1 fun x => Rv 126 9 ls (.int x :: st) w := R_ldI Q126 (by decide +kernel) rfl
theorem e126_9 {ls : zL} {st : List Value} {w : zW} : Rv 126 9 ls st w = Rv 126 10 ls (.int (-1) :: st) w := R_con Q126 (by decide +kernel) rfl (by decide)
theorem e126_10 {ls : zL} {st : List Value} {w : zW} {x y : Int32} : Rv 126 10 ls (.int y :: .int x :: st) w = if x = y then Rv 126 18 ls st w else Rv 126 13 ls st w := R_fieq Q126 (by decide +kernel) rfl rfl
theorem e126_13 {ls : zL} {st : List Value} {w : zW} : Rv 126 13 ls st w = Rv 126 15 ls (.int (-10) :: st) w := R_con Q126 (by decide +kernel) rfl (by decide)
theorem e126_15 {ls : zL} {st : List Value} {w : zW} : Rv 126 15 ls st w = ldI ls 1 fun x => Rv 126 16 ls (.int x :: st) w := R_ldI Q126 (by decide +kernel) rfl
theorem e126_16 {ls : zL} {st : List Value} {w : zW} {x y : Int32} : Rv 126 16 ls (.int y :: .int x :: st) w = Rv 126 17 ls (.int (x - y) :: st) w := R_next Q126 (by decide +kernel) rfl
theorem e126_17 {ls : zL} {w : zW} {x : Int32} : Rv 126 17 ls [.int x] w = some (.inl (some (.int x)), w) := R_retI Q126 (by decide +kernel) rfl
theorem e126_18 {ls : zL} {st : List Value} {w : zW} : Rv 126 18 ls st w = ldA ls 0 fun x => Rv 126 19 ls (x :: st) w := R_ldA Q126 (by decide +kernel) rfl
theorem e126_19 {ls : zL} {st : List Value} {w : zW} {a : Nat} : Rv 126 19 ls (.ref a :: st) w = gF w a 5 2 fun v => Rv 126 22 ls (v :: st) w := R_gF (z := 267) Q126 (by decide +kernel) rfl
theorem e126_22 {ls : zL} {st : List Value} {w : zW} : Rv 126 22 ls st w = ldA ls 0 fun x => Rv 126 23 ls (x :: st) w := R_ldA Q126 (by decide +kernel) rfl
theorem e126_23 {ls : zL} {st : List Value} {w : zW} {a : Nat} : Rv 126 23 ls (.ref a :: st) w = gF w a 5 0 fun v => Rv 126 26 ls (v :: st) w := R_gF (z := 265) Q126 (by decide +kernel) rfl
theorem e126_26 {ls : zL} {w : zW} {a1 : Nat} {a0 : Nat} : Rv 126 26 ls [.ref a1, .ref a0] w = hO w a0 4 (cal (Rv 98 0 [some (.ref a0), some (.ref a1)] [] w) (fun v w' => Rv 126 29 ls (vts v []) w') (xnone)) := R_calV (z := 282) (r := []) Q126 (by decide +kernel) rfl rfl Q98 rfl rfl rfl
theorem e126_29 {ls : zL} {st : List Value} {w : zW} : Rv 126 29 ls st w = ldA ls 0 fun x => Rv 126 30 ls (x :: st) w := R_ldA Q126 (by decide +kernel) rfl
theorem e126_30 {ls : zL} {st : List Value} {w : zW} {a : Nat} : Rv 126 30 ls (.ref a :: st) w = gF w a 5 3 fun v => Rv 126 33 ls (v :: st) w := R_gF (z := 268) Q126 (by decide +kernel) rfl
theorem e126_33 {ls : zL} {w : zW} {a0 : Nat} : Rv 126 33 ls [.ref a0] w = hO w a0 0 (cal (Rv 4 0 [some (.ref a0)] [] w) (fun v w' => Rv 126 36 ls (vts v []) w') (xnone)) := R_calV (z := 530) (r := []) Q126 (by decide +kernel) rfl rfl Q4 rfl rfl rfl
theorem e126_36 {ls : zL} {st : List Value} {w : zW} : Rv 126 36 ls st w = Rv 126 37 ls (.int 0 :: st) w := R_con Q126 (by decide +kernel) rfl (by decide)
theorem e126_37 {ls : zL} {st : List Value} {w : zW} {x : Int32} : Rv 126 37 ls (.int x :: st) w = lst ls 2 (some (.int x)) fun l => Rv 126 38 l st w := R_st Q126 (by decide +kernel) rfl
theorem h126_38 {ls : zL} {st : List Value} {w : zW} : Rv 126 38 ls st w = ldI ls 2 fun x => Rv 126 39 ls (.int x :: st) w := R_ldI Q126 (by decide +kernel) rfl
theorem e126_39 {ls : zL} {st : List Value} {w : zW} : Rv 126 39 ls st w = Rv 126 42 ls (.int 150 :: st) w := R_con Q126 (by decide +kernel) rfl (by decide)
theorem e126_42 {ls : zL} {st : List Value} {w : zW} {x y : Int32} : Rv 126 42 ls (.int y :: .int x :: st) w = if x < y then Rv 126 45 ls st w else Rv 126 107 ls st w := R_fige Q126 (by decide +kernel) rfl rfl
theorem e126_45 {ls : zL} {st : List Value} {w : zW} : Rv 126 45 ls st w = ldA ls 0 fun x => Rv 126 46 ls (x :: st) w := R_ldA Q126 (by decide +kernel) rfl
theorem e126_46 {ls : zL} {st : List Value} {w : zW} {a : Nat} : Rv 126 46 ls (.ref a :: st) w = gF w a 5 3 fun v => Rv 126 49 ls (v :: st) w := R_gF (z := 268) Q126 (by decide +kernel) rfl
theorem e126_49 {ls : zL} {w : zW} {a0 : Nat} : Rv 126 49 ls [.ref a0] w = hO w a0 0 (cal (Rv 6 0 [some (.ref a0)] [] w) (fun v w' => Rv 126 52 ls (vts v []) w') (xnone)) := R_calV (z := 531) (r := []) Q126 (by decide +kernel) rfl rfl Q6 rfl rfl rfl
theorem e126_52 {ls : zL} {st : List Value} {w : zW} {x : Nat} : Rv 126 52 ls (.ref x :: st) w = lst ls 3 (some (.ref x)) fun l => Rv 126 53 l st w := R_st Q126 (by decide +kernel) rfl
theorem e126_52n {ls : zL} {st : List Value} {w : zW} : Rv 126 52 ls (.null :: st) w = lst ls 3 (some (.null)) fun l => Rv 126 53 l st w := R_st Q126 (by decide +kernel) rfl
theorem e126_53 {ls : zL} {st : List Value} {w : zW} : Rv 126 53 ls st w = ldA ls 3 fun x => Rv 126 54 ls (x :: st) w := R_ldA Q126 (by decide +kernel) rfl
theorem e126_54n {ls : zL} {st : List Value} {w : zW} : Rv 126 54 ls (.null :: st) w = Rv 126 79 ls st w := R_nuT Q126 (by decide +kernel) rfl rfl
theorem e126_54 {ls : zL} {st : List Value} {w : zW} {a : Nat} : Rv 126 54 ls (.ref a :: st) w = Rv 126 57 ls st w := R_nuF (off := 25) Q126 (by decide +kernel) rfl rfl
theorem e126_57 {ls : zL} {st : List Value} {w : zW} : Rv 126 57 ls st w = ldA ls 0 fun x => Rv 126 58 ls (x :: st) w := R_ldA Q126 (by decide +kernel) rfl
theorem e126_58 {ls : zL} {st : List Value} {w : zW} : Rv 126 58 ls st w = ldA ls 3 fun x => Rv 126 59 ls (x :: st) w := R_ldA Q126 (by decide +kernel) rfl
theorem e126_59 {ls : zL} {st : List Value} {w : zW} : Rv 126 59 ls st w = ldA ls 0 fun x => Rv 126 60 ls (x :: st) w := R_ldA Q126 (by decide +kernel) rfl
theorem e126_60 {ls : zL} {st : List Value} {w : zW} {a : Nat} : Rv 126 60 ls (.ref a :: st) w = gF w a 5 3 fun v => Rv 126 63 ls (v :: st) w := R_gF (z := 268) Q126 (by decide +kernel) rfl
theorem e126_63 {ls : zL} {st : List Value} {w : zW} {a : Nat} : Rv 126 63 ls (.ref a :: st) w = gF w a 0 4 fun v => Rv 126 66 ls (v :: st) w := R_gF (z := 248) Q126 (by decide +kernel) rfl
theorem e126_66 {ls : zL} {st : List Value} {w : zW} : Rv 126 66 ls st w = ldA ls 0 fun x => Rv 126 67 ls (x :: st) w := R_ldA Q126 (by decide +kernel) rfl
theorem e126_67 {ls : zL} {st : List Value} {w : zW} {a : Nat} : Rv 126 67 ls (.ref a :: st) w = gF w a 5 3 fun v => Rv 126 70 ls (v :: st) w := R_gF (z := 268) Q126 (by decide +kernel) rfl
theorem e126_70 {ls : zL} {st : List Value} {w : zW} {a : Nat} : Rv 126 70 ls (.ref a :: st) w = gF w a 0 5 fun v => Rv 126 73 ls (v :: st) w := R_gF (z := 250) Q126 (by decide +kernel) rfl
theorem e126_73 {ls : zL} {w : zW} {n1 : Int32} {n2 : Int32} {a3 : Nat} {a0 : Nat} : Rv 126 73 ls [.int n1, .int n2, .ref a3, .ref a0] w = hO w a0 5 (cal (Rv 133 0 [some (.ref a0), some (.ref a3), some (.int n2), some (.int n1)] [] w) (fun v w' => Rv 126 76 ls (vts v []) w') (xnone)) := R_calV (z := 535) (r := []) Q126 (by decide +kernel) rfl rfl Q133 rfl rfl rfl
theorem e126_76 {ls : zL} {st : List Value} {w : zW} {x : Int32} : Rv 126 76 ls (.int x :: st) w = if x = 0 then Rv 126 81 ls st w else Rv 126 79 ls st w := R_f0eq Q126 (by decide +kernel) rfl rfl
theorem e126_79 {ls : zL} {st : List Value} {w : zW} : Rv 126 79 ls st w = ldI ls 2 fun x => Rv 126 80 ls (.int x :: st) w := R_ldI Q126 (by decide +kernel) rfl
theorem e126_80 {ls : zL} {w : zW} {x : Int32} : Rv 126 80 ls [.int x] w = some (.inl (some (.int x)), w) := R_retI Q126 (by decide +kernel) rfl
theorem e126_81 {ls : zL} {st : List Value} {w : zW} : Rv 126 81 ls st w = ldA ls 0 fun x => Rv 126 82 ls (x :: st) w := R_ldA Q126 (by decide +kernel) rfl
theorem e126_82 {ls : zL} {st : List Value} {w : zW} : Rv 126 82 ls st w = ldA ls 3 fun x => Rv 126 83 ls (x :: st) w := R_ldA Q126 (by decide +kernel) rfl
theorem e126_83 {ls : zL} {st : List Value} {w : zW} : Rv 126 83 ls st w = ldA ls 0 fun x => Rv 126 84 ls (x :: st) w := R_ldA Q126 (by decide +kernel) rfl
theorem e126_84 {ls : zL} {st : List Value} {w : zW} {a : Nat} : Rv 126 84 ls (.ref a :: st) w = gF w a 5 3 fun v => Rv 126 87 ls (v :: st) w := R_gF (z := 268) Q126 (by decide +kernel) rfl
theorem e126_87 {ls : zL} {st : List Value} {w : zW} {a : Nat} : Rv 126 87 ls (.ref a :: st) w = gF w a 0 4 fun v => Rv 126 90 ls (v :: st) w := R_gF (z := 248) Q126 (by decide +kernel) rfl
theorem e126_90 {ls : zL} {st : List Value} {w : zW} : Rv 126 90 ls st w = ldA ls 0 fun x => Rv 126 91 ls (x :: st) w := R_ldA Q126 (by decide +kernel) rfl
theorem e126_91 {ls : zL} {st : List Value} {w : zW} {a : Nat} : Rv 126 91 ls (.ref a :: st) w = gF w a 5 3 fun v => Rv 126 94 ls (v :: st) w := R_gF (z := 268) Q126 (by decide +kernel) rfl
theorem e126_94 {ls : zL} {st : List Value} {w : zW} {a : Nat} : Rv 126 94 ls (.ref a :: st) w = gF w a 0 5 fun v => Rv 126 97 ls (v :: st) w := R_gF (z := 250) Q126 (by decide +kernel) rfl
theorem e126_97 {ls : zL} {w : zW} {n1 : Int32} {n2 : Int32} {a3 : Nat} {a0 : Nat} : Rv 126 97 ls [.int n1, .int n2, .ref a3, .ref a0] w = hO w a0 5 (cal (Rv 134 0 [some (.ref a0), some (.ref a3), some (.int n2), some (.int n1)] [] w) (fun v w' => Rv 126 100 ls (vts v []) w') (xnone)) := R_calV (z := 597) (r := []) Q126 (by decide +kernel) rfl rfl Q134 rfl rfl rfl
theorem e126_100 {ls : zL} {st : List Value} {w : zW} {x : Int32} : Rv 126 100 ls (.int x :: st) w = Rv 126 101 ls st w := R_next Q126 (by decide +kernel) rfl
theorem e126_101 {ls : zL} {st : List Value} {w : zW} : Rv 126 101 ls st w = ldI ls 2 fun x => lst ls 2 (some (.int (x + 1))) fun l => Rv 126 104 l st w := R_iinc Q126 (by decide +kernel) (by decide)
theorem e126_104 {ls : zL} {st : List Value} {w : zW} : Rv 126 104 ls st w = Rv 126 38 ls st w := R_go Q126 (by decide +kernel) rfl rfl
theorem e126_107 {ls : zL} {st : List Value} {w : zW} : Rv 126 107 ls st w = Rv 126 110 ls (.int 150 :: st) w := R_con Q126 (by decide +kernel) rfl (by decide)
theorem e126_110 {ls : zL} {w : zW} {x : Int32} : Rv 126 110 ls [.int x] w = some (.inl (some (.int x)), w) := R_retI Q126 (by decide +kernel) rfl
/-! MasterPins.undo -/
theorem e127_0 {ls : zL} {st : List Value} {w : zW} : Rv 127 0 ls st w = ldA ls 0 fun x => Rv 127 1 ls (x :: st) w := R_ldA Q127 (by decide +kernel) rfl
theorem e127_1 {ls : zL} {st : List Value} {w : zW} {a : Nat} : Rv 127 1 ls (.ref a :: st) w = gF w a 5 2 fun v => Rv 127 4 ls (v :: st) w := R_gF (z := 267) Q127 (by decide +kernel) rfl
theorem e127_4 {ls : zL} {w : zW} {a0 : Nat} : Rv 127 4 ls [.ref a0] w = hO w a0 4 (cal (Rv 97 0 [some (.ref a0)] [] w) (fun v w' => Rv 127 7 ls (vts v []) w') (xnone)) := R_calV (z := 1055) (r := []) Q127 (by decide +kernel) rfl rfl Q97 rfl rfl rfl
theorem e127_7 {ls : zL} {st : List Value} {w : zW} {x : Int32} : Rv 127 7 ls (.int x :: st) w = if x = 0 then Rv 127 20 ls st w else Rv 127 10 ls st w := R_f0eq Q127 (by decide +kernel) rfl rfl
theorem e127_10 {ls : zL} {w : zW} : Rv 127 10 ls [] w = some (.inr "java/lang/IllegalStateException", zthw w) := R_thr Q127 (by decide +kernel) rfl ⟨Nat.le_of_ble_eq_true rfl, Nat.le_of_ble_eq_true rfl, Nat.le_of_ble_eq_true rfl, rfl⟩
theorem e127_20 {ls : zL} {st : List Value} {w : zW} : Rv 127 20 ls st w = ldA ls 0 fun x => Rv 127 21 ls (x :: st) w := R_ldA Q127 (by decide +kernel) rfl
theorem e127_21 {ls : zL} {st : List Value} {w : zW} {a : Nat} : Rv 127 21 ls (.ref a :: st) w = gF w a 5 2 fun v => Rv 127 24 ls (v :: st) w := R_gF (z := 267) Q127 (by decide +kernel) rfl
theorem e127_24 {ls : zL} {st : List Value} {w : zW} : Rv 127 24 ls st w = ldA ls 0 fun x => Rv 127 25 ls (x :: st) w := R_ldA Q127 (by decide +kernel) rfl
theorem e127_25 {ls : zL} {st : List Value} {w : zW} {a : Nat} : Rv 127 25 ls (.ref a :: st) w = gF w a 5 0 fun v => Rv 127 28 ls (v :: st) w := R_gF (z := 265) Q127 (by decide +kernel) rfl
theorem e127_28 {ls : zL} {w : zW} {a1 : Nat} {a0 : Nat} : Rv 127 28 ls [.ref a1, .ref a0] w = hO w a0 4 (cal (Rv 100 0 [some (.ref a0), some (.ref a1)] [] w) (fun v w' => Rv 127 31 ls (vts v []) w') (xnone)) := R_calV (z := 1060) (r := []) Q127 (by decide +kernel) rfl rfl Q100 rfl rfl rfl
theorem e127_31 {ls : zL} {w : zW} {x : Int32} : Rv 127 31 ls [.int x] w = some (.inl (some (.int x)), w) := R_retI Q127 (by decide +kernel) rfl
/-! MasterPins.digest -/
theorem e128_0 {ls : zL} {st : List Value} {w : zW} : Rv 128 0 ls st w = ldA ls 0 fun x => Rv 128 1 ls (x :: st) w := R_ldA Q128 (by decide +kernel) rfl
theorem e128_1 {ls : zL} {st : List Value} {w : zW} {a : Nat} : Rv 128 1 ls (.ref a :: st) w = gF w a 5 1 fun v => Rv 128 4 ls (v :: st) w := R_gF (z := 266) Q128 (by decide +kernel) rfl
theorem e128_4 {ls : zL} {w : zW} {a0 : Nat} : Rv 128 4 ls [.ref a0] w = hO w a0 3 (cal (Rv 84 0 [some (.ref a0)] [] w) (fun v w' => Rv 128 7 ls (vts v []) w') (xnone)) := R_calV (z := 327) (r := []) Q128 (by decide +kernel) rfl rfl Q84 rfl rfl rfl
theorem e128_7 {ls : zL} {st : List Value} {w : zW} : Rv 128 7 ls st w = Rv 128 10 ls (.long 43378 :: st) w := R_ldc2 (z := 638) Q128 (by decide +kernel) (by decide +kernel)
theorem e128_10 {ls : zL} {st : List Value} {w : zW} : Rv 128 10 ls st w = ldA ls 0 fun x => Rv 128 11 ls (x :: st) w := R_ldA Q128 (by decide +kernel) rfl
theorem e128_11 {ls : zL} {st : List Value} {w : zW} {a : Nat} : Rv 128 11 ls (.ref a :: st) w = gF w a 5 2 fun v => Rv 128 14 ls (v :: st) w := R_gF (z := 267) Q128 (by decide +kernel) rfl
theorem e128_14 {ls : zL} {st : List Value} {w : zW} {a : Nat} : Rv 128 14 ls (.ref a :: st) w = gF w a 4 1 fun v => Rv 128 17 ls (v :: st) w := R_gF (z := 230) Q128 (by decide +kernel) rfl
theorem e128_17 {ls : zL} {w : zW} {n1 : Int32} {l2 : Int64} : Rv 128 17 ls [.int n1, .long l2] w = cal (Rv 135 0 [some (.long l2), none, some (.int n1)] [] w) (fun v w' => Rv 128 20 ls (vts v []) w') (xnone) := R_calS (z := 639) (kd := 1) (n := 2) Q128 (by decide +kernel) rfl (Or.inl rfl) (Nat.le_of_ble_eq_true rfl) rfl Q135 rfl rfl rfl
theorem e128_20 {ls : zL} {st : List Value} {w : zW} {x : Int64} : Rv 128 20 ls (.long x :: st) w = if lpr ls 1 = true then lst ls 1 (some (.long x)) fun l => lst l 2 none fun l' => Rv 128 21 l' st w else none := R_sL Q128 (by decide +kernel) rfl rfl
theorem e128_21 {ls : zL} {st : List Value} {w : zW} : Rv 128 21 ls st w = Rv 128 22 ls (.int 0 :: st) w := R_con Q128 (by decide +kernel) rfl (by decide)
theorem e128_22 {ls : zL} {st : List Value} {w : zW} {x : Int32} : Rv 128 22 ls (.int x :: st) w = if lpr ls 3 = true then lst ls 3 (some (.int x)) fun l => Rv 128 23 l st w else none := R_sB Q128 (by decide +kernel) rfl
theorem h128_23 {ls : zL} {st : List Value} {w : zW} : Rv 128 23 ls st w = ldI ls 3 fun x => Rv 128 24 ls (.int x :: st) w := R_ldI Q128 (by decide +kernel) rfl
theorem e128_24 {ls : zL} {st : List Value} {w : zW} : Rv 128 24 ls st w = Rv 128 26 ls (.int 13 :: st) w := R_con Q128 (by decide +kernel) rfl (by decide)
theorem e128_26 {ls : zL} {st : List Value} {w : zW} {x y : Int32} : Rv 128 26 ls (.int y :: .int x :: st) w = if y < x then Rv 128 45 ls st w else Rv 128 29 ls st w := R_figt Q128 (by decide +kernel) rfl rfl
theorem e128_29 {ls : zL} {st : List Value} {w : zW} : Rv 128 29 ls st w = ldL ls 1 fun x => Rv 128 30 ls (.long x :: st) w := R_ldL Q128 (by decide +kernel) rfl
theorem e128_30 {ls : zL} {st : List Value} {w : zW} : Rv 128 30 ls st w = ldA ls 0 fun x => Rv 128 31 ls (x :: st) w := R_ldA Q128 (by decide +kernel) rfl
theorem e128_31 {ls : zL} {st : List Value} {w : zW} : Rv 128 31 ls st w = ldI ls 3 fun x => Rv 128 32 ls (.int x :: st) w := R_ldI Q128 (by decide +kernel) rfl
theorem e128_32 {ls : zL} {w : zW} {n1 : Int32} {a0 : Nat} {l2 : Int64} : Rv 128 32 ls [.int n1, .ref a0, .long l2] w = hO w a0 5 (cal (Rv 132 0 [some (.ref a0), some (.int n1)] [] w) (fun v w' => Rv 128 35 ls (vts v [.long l2]) w') (xnone)) := R_calV (z := 643) (r := [.long l2]) Q128 (by decide +kernel) rfl rfl Q132 rfl rfl rfl
theorem e128_35 {ls : zL} {w : zW} {n1 : Int32} {l2 : Int64} : Rv 128 35 ls [.int n1, .long l2] w = cal (Rv 135 0 [some (.long l2), none, some (.int n1)] [] w) (fun v w' => Rv 128 38 ls (vts v []) w') (xnone) := R_calS (z := 639) (kd := 1) (n := 2) Q128 (by decide +kernel) rfl (Or.inl rfl) (Nat.le_of_ble_eq_true rfl) rfl Q135 rfl rfl rfl
theorem e128_38 {ls : zL} {st : List Value} {w : zW} {x : Int64} : Rv 128 38 ls (.long x :: st) w = if lpr ls 1 = true then lst ls 1 (some (.long x)) fun l => lst l 2 none fun l' => Rv 128 39 l' st w else none := R_sL Q128 (by decide +kernel) rfl rfl
theorem e128_39 {ls : zL} {st : List Value} {w : zW} : Rv 128 39 ls st w = ldI ls 3 fun x => lst ls 3 (some (.int (x + 1))) fun l => Rv 128 42 l st w := R_iinc Q128 (by decide +kernel) (by decide)
theorem e128_42 {ls : zL} {st : List Value} {w : zW} : Rv 128 42 ls st w = Rv 128 23 ls st w := R_go Q128 (by decide +kernel) rfl rfl
theorem e128_45 {ls : zL} {st : List Value} {w : zW} : Rv 128 45 ls st w = ldA ls 0 fun x => Rv 128 46 ls (x :: st) w := R_ldA Q128 (by decide +kernel) rfl
theorem e128_46 {ls : zL} {st : List Value} {w : zW} : Rv 128 46 ls st w = ldL ls 1 fun x => Rv 128 47 ls (.long x :: st) w := R_ldL Q128 (by decide +kernel) rfl
theorem e128_47 {ls : zL} {w : zW} {l1 : Int64} {a0 : Nat} : Rv 128 47 ls [.long l1, .ref a0] w = hO w a0 5 (cal (Rv 136 0 [some (.ref a0), some (.long l1), none, none, none, none, none] [] w) (fun v w' => Rv 128 50 ls (vts v []) w') (xnone)) := R_calV (z := 683) (r := []) Q128 (by decide +kernel) rfl rfl Q136 rfl rfl rfl
theorem e128_50 {ls : zL} {st : List Value} {w : zW} {x : Int64} : Rv 128 50 ls (.long x :: st) w = if lpr ls 1 = true then lst ls 1 (some (.long x)) fun l => lst l 2 none fun l' => Rv 128 51 l' st w else none := R_sL Q128 (by decide +kernel) rfl rfl
theorem e128_51 {ls : zL} {st : List Value} {w : zW} : Rv 128 51 ls st w = ldA ls 0 fun x => Rv 128 52 ls (x :: st) w := R_ldA Q128 (by decide +kernel) rfl
theorem e128_52 {ls : zL} {st : List Value} {w : zW} : Rv 128 52 ls st w = ldL ls 1 fun x => Rv 128 53 ls (.long x :: st) w := R_ldL Q128 (by decide +kernel) rfl
theorem e128_53 {ls : zL} {w : zW} {l1 : Int64} {a0 : Nat} : Rv 128 53 ls [.long l1, .ref a0] w = hO w a0 5 (cal (Rv 137 0 [some (.ref a0), some (.long l1), none, none, none, none, none] [] w) (fun v w' => Rv 128 56 ls (vts v []) w') (xnone)) := R_calV (z := 699) (r := []) Q128 (by decide +kernel) rfl rfl Q137 rfl rfl rfl
theorem e128_56 {ls : zL} {st : List Value} {w : zW} {x : Int64} : Rv 128 56 ls (.long x :: st) w = if lpr ls 1 = true then lst ls 1 (some (.long x)) fun l => lst l 2 none fun l' => Rv 128 57 l' st w else none := R_sL Q128 (by decide +kernel) rfl rfl
theorem e128_57 {ls : zL} {st : List Value} {w : zW} : Rv 128 57 ls st w = ldA ls 0 fun x => Rv 128 58 ls (x :: st) w := R_ldA Q128 (by decide +kernel) rfl
theorem e128_58 {ls : zL} {st : List Value} {w : zW} : Rv 128 58 ls st w = ldL ls 1 fun x => Rv 128 59 ls (.long x :: st) w := R_ldL Q128 (by decide +kernel) rfl
theorem e128_59 {ls : zL} {w : zW} {l1 : Int64} {a0 : Nat} : Rv 128 59 ls [.long l1, .ref a0] w = hO w a0 5 (cal (Rv 138 0 [some (.ref a0), some (.long l1), none, none, none, none, none] [] w) (fun v w' => Rv 128 62 ls (vts v []) w') (xnone)) := R_calV (z := 709) (r := []) Q128 (by decide +kernel) rfl rfl Q138 rfl rfl rfl
theorem e128_62 {ls : zL} {st : List Value} {w : zW} {x : Int64} : Rv 128 62 ls (.long x :: st) w = if lpr ls 1 = true then lst ls 1 (some (.long x)) fun l => lst l 2 none fun l' => Rv 128 63 l' st w else none := R_sL Q128 (by decide +kernel) rfl rfl
theorem e128_63 {ls : zL} {st : List Value} {w : zW} : Rv 128 63 ls st w = Rv 128 64 ls (.int 0 :: st) w := R_con Q128 (by decide +kernel) rfl (by decide)
theorem e128_64 {ls : zL} {st : List Value} {w : zW} {x : Int32} : Rv 128 64 ls (.int x :: st) w = if lpr ls 3 = true then lst ls 3 (some (.int x)) fun l => Rv 128 65 l st w else none := R_sB Q128 (by decide +kernel) rfl
theorem h128_65 {ls : zL} {st : List Value} {w : zW} : Rv 128 65 ls st w = ldI ls 3 fun x => Rv 128 66 ls (.int x :: st) w := R_ldI Q128 (by decide +kernel) rfl
theorem e128_66 {ls : zL} {st : List Value} {w : zW} : Rv 128 66 ls st w = ldA ls 0 fun x => Rv 128 67 ls (x :: st) w := R_ldA Q128 (by decide +kernel) rfl
theorem e128_67 {ls : zL} {st : List Value} {w : zW} {a : Nat} : Rv 128 67 ls (.ref a :: st) w = gF w a 5 0 fun v => Rv 128 70 ls (v :: st) w := R_gF (z := 265) Q128 (by decide +kernel) rfl
theorem e128_70 {ls : zL} {st : List Value} {w : zW} {a : Nat} : Rv 128 70 ls (.ref a :: st) w = gF w a 2 3 fun v => Rv 128 73 ls (v :: st) w := R_gF (z := 133) Q128 (by decide +kernel) rfl
theorem e128_73 {ls : zL} {st : List Value} {w : zW} {x y : Int32} : Rv 128 73 ls (.int y :: .int x :: st) w = if x < y then Rv 128 76 ls st w else Rv 128 95 ls st w := R_fige Q128 (by decide +kernel) rfl rfl
theorem e128_76 {ls : zL} {st : List Value} {w : zW} : Rv 128 76 ls st w = ldL ls 1 fun x => Rv 128 77 ls (.long x :: st) w := R_ldL Q128 (by decide +kernel) rfl
theorem e128_77 {ls : zL} {st : List Value} {w : zW} : Rv 128 77 ls st w = ldA ls 0 fun x => Rv 128 78 ls (x :: st) w := R_ldA Q128 (by decide +kernel) rfl
theorem e128_78 {ls : zL} {st : List Value} {w : zW} {a : Nat} : Rv 128 78 ls (.ref a :: st) w = gF w a 5 0 fun v => Rv 128 81 ls (v :: st) w := R_gF (z := 265) Q128 (by decide +kernel) rfl
theorem e128_81 {ls : zL} {st : List Value} {w : zW} : Rv 128 81 ls st w = ldI ls 3 fun x => Rv 128 82 ls (.int x :: st) w := R_ldI Q128 (by decide +kernel) rfl
theorem e128_82 {ls : zL} {w : zW} {n1 : Int32} {a0 : Nat} {l2 : Int64} : Rv 128 82 ls [.int n1, .ref a0, .long l2] w = hO w a0 2 (cal (Rv 77 0 [some (.ref a0), some (.int n1), none, none, none] [] w) (fun v w' => Rv 128 85 ls (vts v [.long l2]) w') (xnone)) := R_calV (z := 717) (r := [.long l2]) Q128 (by decide +kernel) rfl rfl Q77 rfl rfl rfl
theorem e128_85 {ls : zL} {w : zW} {n1 : Int32} {l2 : Int64} : Rv 128 85 ls [.int n1, .long l2] w = cal (Rv 135 0 [some (.long l2), none, some (.int n1)] [] w) (fun v w' => Rv 128 88 ls (vts v []) w') (xnone) := R_calS (z := 639) (kd := 1) (n := 2) Q128 (by decide +kernel) rfl (Or.inl rfl) (Nat.le_of_ble_eq_true rfl) rfl Q135 rfl rfl rfl
theorem e128_88 {ls : zL} {st : List Value} {w : zW} {x : Int64} : Rv 128 88 ls (.long x :: st) w = if lpr ls 1 = true then lst ls 1 (some (.long x)) fun l => lst l 2 none fun l' => Rv 128 89 l' st w else none := R_sL Q128 (by decide +kernel) rfl rfl
theorem e128_89 {ls : zL} {st : List Value} {w : zW} : Rv 128 89 ls st w = ldI ls 3 fun x => lst ls 3 (some (.int (x + 1))) fun l => Rv 128 92 l st w := R_iinc Q128 (by decide +kernel) (by decide)
theorem e128_92 {ls : zL} {st : List Value} {w : zW} : Rv 128 92 ls st w = Rv 128 65 ls st w := R_go Q128 (by decide +kernel) rfl rfl
theorem e128_95 {ls : zL} {st : List Value} {w : zW} : Rv 128 95 ls st w = ldL ls 1 fun x => Rv 128 96 ls (.long x :: st) w := R_ldL Q128 (by decide +kernel) rfl
theorem e128_96 {ls : zL} {st : List Value} {w : zW} : Rv 128 96 ls st w = ldA ls 0 fun x => Rv 128 97 ls (x :: st) w := R_ldA Q128 (by decide +kernel) rfl
theorem e128_97 {ls : zL} {st : List Value} {w : zW} {a : Nat} : Rv 128 97 ls (.ref a :: st) w = gF w a 5 1 fun v => Rv 128 100 ls (v :: st) w := R_gF (z := 266) Q128 (by decide +kernel) rfl
theorem e128_100 {ls : zL} {w : zW} {a0 : Nat} {l1 : Int64} : Rv 128 100 ls [.ref a0, .long l1] w = hO w a0 3 (cal (Rv 92 0 [some (.ref a0), none, none] [] w) (fun v w' => Rv 128 103 ls (vts v [.long l1]) w') (xnone)) := R_calV (z := 410) (r := [.long l1]) Q128 (by decide +kernel) rfl rfl Q92 rfl rfl rfl
theorem e128_103 {ls : zL} {w : zW} {n1 : Int32} {l2 : Int64} : Rv 128 103 ls [.int n1, .long l2] w = cal (Rv 135 0 [some (.long l2), none, some (.int n1)] [] w) (fun v w' => Rv 128 106 ls (vts v []) w') (xnone) := R_calS (z := 639) (kd := 1) (n := 2) Q128 (by decide +kernel) rfl (Or.inl rfl) (Nat.le_of_ble_eq_true rfl) rfl Q135 rfl rfl rfl
theorem e128_106 {ls : zL} {w : zW} {x : Int64} : Rv 128 106 ls [.long x] w = some (.inl (some (.long x)), w) := R_retL Q128 (by decide +kernel) rfl
/-! MasterPins.refuse -/
theorem e129_0 {ls : zL} {st : List Value} {w : zW} : Rv 129 0 ls st w = ldI ls 0 fun x => Rv 129 1 ls (.int x :: st) w := R_ldI Q129 (by decide +kernel) rfl
theorem e129_1 {ls : zL} {st : List Value} {w : zW} {x : Int32} : Rv 129 1 ls (.int x :: st) w = tsw x 1 58 (fun t => Rv 129 t ls st w) [28, 38, 48] := R_tsw Q129 (by decide +kernel) (by decide +kernel) rfl rfl (by decide +kernel) (by decide +kernel)
theorem e129_28 {ls : zL} {w : zW} : Rv 129 28 ls [] w = some (.inr "java/lang/IndexOutOfBoundsException", zthw w) := R_thr Q129 (by decide +kernel) rfl ⟨Nat.le_of_ble_eq_true rfl, Nat.le_of_ble_eq_true rfl, Nat.le_of_ble_eq_true rfl, rfl⟩
theorem e129_38 {ls : zL} {w : zW} : Rv 129 38 ls [] w = some (.inr "java/lang/IllegalArgumentException", zthw w) := R_thr Q129 (by decide +kernel) rfl ⟨Nat.le_of_ble_eq_true rfl, Nat.le_of_ble_eq_true rfl, Nat.le_of_ble_eq_true rfl, rfl⟩
theorem e129_48 {ls : zL} {w : zW} : Rv 129 48 ls [] w = some (.inr "java/lang/IllegalStateException", zthw w) := R_thr Q129 (by decide +kernel) rfl ⟨Nat.le_of_ble_eq_true rfl, Nat.le_of_ble_eq_true rfl, Nat.le_of_ble_eq_true rfl, rfl⟩
theorem e129_58 {ls : zL} {w : zW} : Rv 129 58 ls [] w = some (.inl none, w) := R_retV Q129 (by decide +kernel) rfl
/-! MasterPins.refusalOfWhat -/
theorem e130_0 {ls : zL} {st : List Value} {w : zW} : Rv 130 0 ls st w = ldI ls 0 fun x => Rv 130 1 ls (.int x :: st) w := R_ldI Q130 (by decide +kernel) rfl
theorem e130_1 {ls : zL} {st : List Value} {w : zW} {x : Int32} : Rv 130 1 ls (.int x :: st) w = if x < 0 then Rv 130 9 ls st w else Rv 130 4 ls st w := R_f0lt Q130 (by decide +kernel) rfl rfl
theorem e130_4 {ls : zL} {st : List Value} {w : zW} : Rv 130 4 ls st w = ldI ls 0 fun x => Rv 130 5 ls (.int x :: st) w := R_ldI Q130 (by decide +kernel) rfl
theorem e130_5 {ls : zL} {st : List Value} {w : zW} : Rv 130 5 ls st w = ldI ls 1 fun x => Rv 130 6 ls (.int x :: st) w := R_ldI Q130 (by decide +kernel) rfl
theorem e130_6 {ls : zL} {st : List Value} {w : zW} {x y : Int32} : Rv 130 6 ls (.int y :: .int x :: st) w = if y < x then Rv 130 9 ls st w else Rv 130 13 ls st w := R_file Q130 (by decide +kernel) rfl rfl
theorem e130_9 {ls : zL} {st : List Value} {w : zW} : Rv 130 9 ls st w = Rv 130 10 ls (.int 2 :: st) w := R_con Q130 (by decide +kernel) rfl (by decide)
theorem e130_10 {ls : zL} {st : List Value} {w : zW} : Rv 130 10 ls st w = Rv 130 14 ls st w := R_go Q130 (by decide +kernel) rfl rfl
theorem e130_13 {ls : zL} {st : List Value} {w : zW} : Rv 130 13 ls st w = Rv 130 14 ls (.int 0 :: st) w := R_con Q130 (by decide +kernel) rfl (by decide)
theorem e130_14 {ls : zL} {w : zW} {x : Int32} : Rv 130 14 ls [.int x] w = some (.inl (some (.int x)), w) := R_retI Q130 (by decide +kernel) rfl
/-! MasterPins.refusalOfIndex -/
theorem e131_0 {ls : zL} {st : List Value} {w : zW} : Rv 131 0 ls st w = ldI ls 0 fun x => Rv 131 1 ls (.int x :: st) w := R_ldI Q131 (by decide +kernel) rfl
theorem e131_1 {ls : zL} {st : List Value} {w : zW} {x : Int32} : Rv 131 1 ls (.int x :: st) w = if x < 0 then Rv 131 4 ls st w else Rv 131 8 ls st w := R_f0ge Q131 (by decide +kernel) rfl rfl
theorem e131_4 {ls : zL} {st : List Value} {w : zW} : Rv 131 4 ls st w = Rv 131 5 ls (.int 2 :: st) w := R_con Q131 (by decide +kernel) rfl (by decide)
theorem e131_5 {ls : zL} {st : List Value} {w : zW} : Rv 131 5 ls st w = Rv 131 9 ls st w := R_go Q131 (by decide +kernel) rfl rfl
theorem e131_8 {ls : zL} {st : List Value} {w : zW} : Rv 131 8 ls st w = Rv 131 9 ls (.int 0 :: st) w := R_con Q131 (by decide +kernel) rfl (by decide)
theorem e131_9 {ls : zL} {w : zW} {x : Int32} : Rv 131 9 ls [.int x] w = some (.inl (some (.int x)), w) := R_retI Q131 (by decide +kernel) rfl
/-! MasterPins.valueOfWhole -/
theorem e132_0 {ls : zL} {st : List Value} {w : zW} : Rv 132 0 ls st w = ldI ls 1 fun x => Rv 132 1 ls (.int x :: st) w := R_ldI Q132 (by decide +kernel) rfl
theorem e132_1 {ls : zL} {st : List Value} {w : zW} {x : Int32} : Rv 132 1 ls (.int x :: st) w = tsw x 0 164 (fun t => Rv 132 t ls st w) [68, 76, 84, 84, 84, 95, 103, 111, 119, 128, 137, 147, 155] := R_tsw Q132 (by decide +kernel) (by decide +kernel) rfl rfl (by decide +kernel) (by decide +kernel)
theorem e132_68 {ls : zL} {st : List Value} {w : zW} : Rv 132 68 ls st w = ldA ls 0 fun x => Rv 132 69 ls (x :: st) w := R_ldA Q132 (by decide +kernel) rfl
theorem e132_69 {ls : zL} {st : List Value} {w : zW} {a : Nat} : Rv 132 69 ls (.ref a :: st) w = gF w a 5 0 fun v => Rv 132 72 ls (v :: st) w := R_gF (z := 265) Q132 (by decide +kernel) rfl
theorem e132_72 {ls : zL} {st : List Value} {w : zW} {a : Nat} : Rv 132 72 ls (.ref a :: st) w = gF w a 2 0 fun v => Rv 132 75 ls (v :: st) w := R_gF (z := 127) Q132 (by decide +kernel) rfl
theorem e132_75 {ls : zL} {w : zW} {x : Int32} : Rv 132 75 ls [.int x] w = some (.inl (some (.int x)), w) := R_retI Q132 (by decide +kernel) rfl
theorem e132_76 {ls : zL} {st : List Value} {w : zW} : Rv 132 76 ls st w = ldA ls 0 fun x => Rv 132 77 ls (x :: st) w := R_ldA Q132 (by decide +kernel) rfl
theorem e132_77 {ls : zL} {st : List Value} {w : zW} {a : Nat} : Rv 132 77 ls (.ref a :: st) w = gF w a 5 0 fun v => Rv 132 80 ls (v :: st) w := R_gF (z := 265) Q132 (by decide +kernel) rfl
theorem e132_80 {ls : zL} {st : List Value} {w : zW} {a : Nat} : Rv 132 80 ls (.ref a :: st) w = gF w a 2 1 fun v => Rv 132 83 ls (v :: st) w := R_gF (z := 130) Q132 (by decide +kernel) rfl
theorem e132_83 {ls : zL} {w : zW} {x : Int32} : Rv 132 83 ls [.int x] w = some (.inl (some (.int x)), w) := R_retI Q132 (by decide +kernel) rfl
theorem e132_84 {ls : zL} {st : List Value} {w : zW} : Rv 132 84 ls st w = ldA ls 0 fun x => Rv 132 85 ls (x :: st) w := R_ldA Q132 (by decide +kernel) rfl
theorem e132_85 {ls : zL} {st : List Value} {w : zW} {a : Nat} : Rv 132 85 ls (.ref a :: st) w = gF w a 5 0 fun v => Rv 132 88 ls (v :: st) w := R_gF (z := 265) Q132 (by decide +kernel) rfl
theorem e132_88 {ls : zL} {st : List Value} {w : zW} : Rv 132 88 ls st w = ldI ls 1 fun x => Rv 132 89 ls (.int x :: st) w := R_ldI Q132 (by decide +kernel) rfl
theorem e132_89 {ls : zL} {st : List Value} {w : zW} : Rv 132 89 ls st w = Rv 132 90 ls (.int 2 :: st) w := R_con Q132 (by decide +kernel) rfl (by decide)
theorem e132_90 {ls : zL} {st : List Value} {w : zW} {x y : Int32} : Rv 132 90 ls (.int y :: .int x :: st) w = Rv 132 91 ls (.int (x - y) :: st) w := R_next Q132 (by decide +kernel) rfl
theorem e132_91 {ls : zL} {w : zW} {n1 : Int32} {a0 : Nat} : Rv 132 91 ls [.int n1, .ref a0] w = hO w a0 2 (cal (Rv 35 0 [some (.ref a0), some (.int n1)] [] w) (fun v w' => Rv 132 94 ls (vts v []) w') (xnone)) := R_calV (z := 647) (r := []) Q132 (by decide +kernel) rfl rfl Q35 rfl rfl rfl
theorem e132_94 {ls : zL} {w : zW} {x : Int32} : Rv 132 94 ls [.int x] w = some (.inl (some (.int x)), w) := R_retI Q132 (by decide +kernel) rfl
theorem e132_95 {ls : zL} {st : List Value} {w : zW} : Rv 132 95 ls st w = ldA ls 0 fun x => Rv 132 96 ls (x :: st) w := R_ldA Q132 (by decide +kernel) rfl
theorem e132_96 {ls : zL} {st : List Value} {w : zW} {a : Nat} : Rv 132 96 ls (.ref a :: st) w = gF w a 5 0 fun v => Rv 132 99 ls (v :: st) w := R_gF (z := 265) Q132 (by decide +kernel) rfl
theorem e132_99 {ls : zL} {st : List Value} {w : zW} {a : Nat} : Rv 132 99 ls (.ref a :: st) w = gF w a 2 3 fun v => Rv 132 102 ls (v :: st) w := R_gF (z := 133) Q132 (by decide +kernel) rfl
theorem e132_102 {ls : zL} {w : zW} {x : Int32} : Rv 132 102 ls [.int x] w = some (.inl (some (.int x)), w) := R_retI Q132 (by decide +kernel) rfl
theorem e132_103 {ls : zL} {st : List Value} {w : zW} : Rv 132 103 ls st w = ldA ls 0 fun x => Rv 132 104 ls (x :: st) w := R_ldA Q132 (by decide +kernel) rfl
theorem e132_104 {ls : zL} {st : List Value} {w : zW} {a : Nat} : Rv 132 104 ls (.ref a :: st) w = gF w a 5 0 fun v => Rv 132 107 ls (v :: st) w := R_gF (z := 265) Q132 (by decide +kernel) rfl
theorem e132_107 {ls : zL} {st : List Value} {w : zW} {a : Nat} : Rv 132 107 ls (.ref a :: st) w = gF w a 2 9 fun v => Rv 132 110 ls (v :: st) w := R_gF (z := 141) Q132 (by decide +kernel) rfl
theorem e132_110 {ls : zL} {w : zW} {x : Int32} : Rv 132 110 ls [.int x] w = some (.inl (some (.int x)), w) := R_retI Q132 (by decide +kernel) rfl
theorem e132_111 {ls : zL} {st : List Value} {w : zW} : Rv 132 111 ls st w = ldA ls 0 fun x => Rv 132 112 ls (x :: st) w := R_ldA Q132 (by decide +kernel) rfl
theorem e132_112 {ls : zL} {st : List Value} {w : zW} {a : Nat} : Rv 132 112 ls (.ref a :: st) w = gF w a 5 0 fun v => Rv 132 115 ls (v :: st) w := R_gF (z := 265) Q132 (by decide +kernel) rfl
theorem e132_115 {ls : zL} {w : zW} {a0 : Nat} : Rv 132 115 ls [.ref a0] w = hO w a0 2 (cal (Rv 67 0 [some (.ref a0)] [] w) (fun v w' => Rv 132 118 ls (vts v []) w') (xnone)) := R_calV (z := 648) (r := []) Q132 (by decide +kernel) rfl rfl Q67 rfl rfl rfl
theorem e132_118 {ls : zL} {w : zW} {x : Int32} : Rv 132 118 ls [.int x] w = some (.inl (some (.int x)), w) := R_retI Q132 (by decide +kernel) rfl
theorem e132_119 {ls : zL} {st : List Value} {w : zW} : Rv 132 119 ls st w = ldA ls 0 fun x => Rv 132 120 ls (x :: st) w := R_ldA Q132 (by decide +kernel) rfl
theorem e132_120 {ls : zL} {st : List Value} {w : zW} {a : Nat} : Rv 132 120 ls (.ref a :: st) w = gF w a 5 1 fun v => Rv 132 123 ls (v :: st) w := R_gF (z := 266) Q132 (by decide +kernel) rfl
theorem e132_123 {ls : zL} {st : List Value} {w : zW} : Rv 132 123 ls st w = Rv 132 124 ls (.int 4 :: st) w := R_con Q132 (by decide +kernel) rfl (by decide)
theorem e132_124 {ls : zL} {w : zW} {n1 : Int32} {a0 : Nat} : Rv 132 124 ls [.int n1, .ref a0] w = hO w a0 3 (cal (Rv 87 0 [some (.ref a0), some (.int n1), none, none] [] w) (fun v w' => Rv 132 127 ls (vts v []) w') (xnone)) := R_calV (z := 652) (r := []) Q132 (by decide +kernel) rfl rfl Q87 rfl rfl rfl
theorem e132_127 {ls : zL} {w : zW} {x : Int32} : Rv 132 127 ls [.int x] w = some (.inl (some (.int x)), w) := R_retI Q132 (by decide +kernel) rfl
theorem e132_128 {ls : zL} {st : List Value} {w : zW} : Rv 132 128 ls st w = ldA ls 0 fun x => Rv 132 129 ls (x :: st) w := R_ldA Q132 (by decide +kernel) rfl
theorem e132_129 {ls : zL} {st : List Value} {w : zW} {a : Nat} : Rv 132 129 ls (.ref a :: st) w = gF w a 5 1 fun v => Rv 132 132 ls (v :: st) w := R_gF (z := 266) Q132 (by decide +kernel) rfl
theorem e132_132 {ls : zL} {st : List Value} {w : zW} : Rv 132 132 ls st w = Rv 132 133 ls (.int 5 :: st) w := R_con Q132 (by decide +kernel) rfl (by decide)
theorem e132_133 {ls : zL} {w : zW} {n1 : Int32} {a0 : Nat} : Rv 132 133 ls [.int n1, .ref a0] w = hO w a0 3 (cal (Rv 87 0 [some (.ref a0), some (.int n1), none, none] [] w) (fun v w' => Rv 132 136 ls (vts v []) w') (xnone)) := R_calV (z := 652) (r := []) Q132 (by decide +kernel) rfl rfl Q87 rfl rfl rfl
theorem e132_136 {ls : zL} {w : zW} {x : Int32} : Rv 132 136 ls [.int x] w = some (.inl (some (.int x)), w) := R_retI Q132 (by decide +kernel) rfl
theorem e132_137 {ls : zL} {st : List Value} {w : zW} : Rv 132 137 ls st w = ldA ls 0 fun x => Rv 132 138 ls (x :: st) w := R_ldA Q132 (by decide +kernel) rfl
theorem e132_138 {ls : zL} {st : List Value} {w : zW} {a : Nat} : Rv 132 138 ls (.ref a :: st) w = gF w a 5 1 fun v => Rv 132 141 ls (v :: st) w := R_gF (z := 266) Q132 (by decide +kernel) rfl
theorem e132_141 {ls : zL} {st : List Value} {w : zW} : Rv 132 141 ls st w = Rv 132 143 ls (.int 6 :: st) w := R_con Q132 (by decide +kernel) rfl (by decide)
theorem e132_143 {ls : zL} {w : zW} {n1 : Int32} {a0 : Nat} : Rv 132 143 ls [.int n1, .ref a0] w = hO w a0 3 (cal (Rv 87 0 [some (.ref a0), some (.int n1), none, none] [] w) (fun v w' => Rv 132 146 ls (vts v []) w') (xnone)) := R_calV (z := 652) (r := []) Q132 (by decide +kernel) rfl rfl Q87 rfl rfl rfl
theorem e132_146 {ls : zL} {w : zW} {x : Int32} : Rv 132 146 ls [.int x] w = some (.inl (some (.int x)), w) := R_retI Q132 (by decide +kernel) rfl
theorem e132_147 {ls : zL} {st : List Value} {w : zW} : Rv 132 147 ls st w = ldA ls 0 fun x => Rv 132 148 ls (x :: st) w := R_ldA Q132 (by decide +kernel) rfl
theorem e132_148 {ls : zL} {st : List Value} {w : zW} {a : Nat} : Rv 132 148 ls (.ref a :: st) w = gF w a 5 1 fun v => Rv 132 151 ls (v :: st) w := R_gF (z := 266) Q132 (by decide +kernel) rfl
theorem e132_151 {ls : zL} {st : List Value} {w : zW} {a : Nat} : Rv 132 151 ls (.ref a :: st) w = gF w a 3 3 fun v => Rv 132 154 ls (v :: st) w := R_gF (z := 209) Q132 (by decide +kernel) rfl
theorem e132_154 {ls : zL} {w : zW} {x : Int32} : Rv 132 154 ls [.int x] w = some (.inl (some (.int x)), w) := R_retI Q132 (by decide +kernel) rfl
theorem e132_155 {ls : zL} {st : List Value} {w : zW} : Rv 132 155 ls st w = ldA ls 0 fun x => Rv 132 156 ls (x :: st) w := R_ldA Q132 (by decide +kernel) rfl
theorem e132_156 {ls : zL} {st : List Value} {w : zW} {a : Nat} : Rv 132 156 ls (.ref a :: st) w = gF w a 5 1 fun v => Rv 132 159 ls (v :: st) w := R_gF (z := 266) Q132 (by decide +kernel) rfl
theorem e132_159 {ls : zL} {st : List Value} {w : zW} : Rv 132 159 ls st w = Rv 132 160 ls (.int 1 :: st) w := R_con Q132 (by decide +kernel) rfl (by decide)
theorem e132_160 {ls : zL} {w : zW} {n1 : Int32} {a0 : Nat} : Rv 132 160 ls [.int n1, .ref a0] w = hO w a0 3 (cal (Rv 87 0 [some (.ref a0), some (.int n1), none, none] [] w) (fun v w' => Rv 132 163 ls (vts v []) w') (xnone)) := R_calV (z := 652) (r := []) Q132 (by decide +kernel) rfl rfl Q87 rfl rfl rfl
theorem e132_163 {ls : zL} {w : zW} {x : Int32} : Rv 132 163 ls [.int x] w = some (.inl (some (.int x)), w) := R_retI Q132 (by decide +kernel) rfl
theorem e132_164 {ls : zL} {st : List Value} {w : zW} : Rv 132 164 ls st w = ldA ls 0 fun x => Rv 132 165 ls (x :: st) w := R_ldA Q132 (by decide +kernel) rfl
theorem e132_165 {ls : zL} {st : List Value} {w : zW} {a : Nat} : Rv 132 165 ls (.ref a :: st) w = gF w a 5 3 fun v => Rv 132 168 ls (v :: st) w := R_gF (z := 268) Q132 (by decide +kernel) rfl
theorem e132_168 {ls : zL} {st : List Value} {w : zW} {a : Nat} : Rv 132 168 ls (.ref a :: st) w = gF w a 0 1 fun v => Rv 132 171 ls (v :: st) w := R_gF (z := 244) Q132 (by decide +kernel) rfl
theorem e132_171 {ls : zL} {w : zW} {x : Int32} : Rv 132 171 ls [.int x] w = some (.inl (some (.int x)), w) := R_retI Q132 (by decide +kernel) rfl
/-! MasterPins.refusalOfCommand -/
theorem e133_0 {ls : zL} {st : List Value} {w : zW} : Rv 133 0 ls st w = Rv 133 3 ls (.ref 3 :: st) w := R_gst (z := 539) Q133 (by decide +kernel) rfl
theorem e133_3 {ls : zL} {st : List Value} {w : zW} : Rv 133 3 ls st w = ldA ls 1 fun x => Rv 133 4 ls (x :: st) w := R_ldA Q133 (by decide +kernel) rfl
theorem e133_4 {ls : zL} {w : zW} {a1 : Nat} {a : Nat} : Rv 133 4 ls [.ref a, .ref a1] w = gW w a fun x => Rv 133 7 ls [.int x, .ref a1] w := R_ord (z := (0, 0, 541)) Q133 (by decide +kernel) rfl ⟨Nat.le_of_ble_eq_true rfl, Nat.le_of_ble_eq_true rfl, Nat.le_of_ble_eq_true rfl⟩
theorem e133_7 {ls : zL} {st : List Value} {w : zW} {a : Nat} {x : Int32} : Rv 133 7 ls (.int x :: .ref a :: st) w = gI w a 0 8 x fun v => Rv 133 8 ls (.int v :: st) w := R_iald Q133 (by decide +kernel)
theorem e133_8 {ls : zL} {st : List Value} {w : zW} {x : Int32} : Rv 133 8 ls (.int x :: st) w = tsw x 1 146 (fun t => Rv 133 t ls st w) [60, 70, 80, 89, 99, 108, 117, 126, 136] := R_tsw Q133 (by decide +kernel) (by decide +kernel) rfl rfl (by decide +kernel) (by decide +kernel)
theorem e133_60 {ls : zL} {st : List Value} {w : zW} : Rv 133 60 ls st w = ldA ls 0 fun x => Rv 133 61 ls (x :: st) w := R_ldA Q133 (by decide +kernel) rfl
theorem e133_61 {ls : zL} {st : List Value} {w : zW} {a : Nat} : Rv 133 61 ls (.ref a :: st) w = gF w a 5 0 fun v => Rv 133 64 ls (v :: st) w := R_gF (z := 265) Q133 (by decide +kernel) rfl
theorem e133_64 {ls : zL} {st : List Value} {w : zW} : Rv 133 64 ls st w = ldI ls 2 fun x => Rv 133 65 ls (.int x :: st) w := R_ldI Q133 (by decide +kernel) rfl
theorem e133_65 {ls : zL} {st : List Value} {w : zW} : Rv 133 65 ls st w = Rv 133 66 ls (.int (-1) :: st) w := R_con Q133 (by decide +kernel) rfl (by decide)
theorem e133_66 {ls : zL} {w : zW} {n1 : Int32} {n2 : Int32} {a0 : Nat} : Rv 133 66 ls [.int n1, .int n2, .ref a0] w = hO w a0 2 (cal (Rv 42 0 [some (.ref a0), some (.int n2), some (.int n1)] [] w) (fun v w' => Rv 133 69 ls (vts v []) w') (xnone)) := R_calV (z := 547) (r := []) Q133 (by decide +kernel) rfl rfl Q42 rfl rfl rfl
theorem e133_69 {ls : zL} {w : zW} {x : Int32} : Rv 133 69 ls [.int x] w = some (.inl (some (.int x)), w) := R_retI Q133 (by decide +kernel) rfl
theorem e133_70 {ls : zL} {st : List Value} {w : zW} : Rv 133 70 ls st w = ldA ls 0 fun x => Rv 133 71 ls (x :: st) w := R_ldA Q133 (by decide +kernel) rfl
theorem e133_71 {ls : zL} {st : List Value} {w : zW} {a : Nat} : Rv 133 71 ls (.ref a :: st) w = gF w a 5 0 fun v => Rv 133 74 ls (v :: st) w := R_gF (z := 265) Q133 (by decide +kernel) rfl
theorem e133_74 {ls : zL} {st : List Value} {w : zW} : Rv 133 74 ls st w = ldI ls 2 fun x => Rv 133 75 ls (.int x :: st) w := R_ldI Q133 (by decide +kernel) rfl
theorem e133_75 {ls : zL} {st : List Value} {w : zW} : Rv 133 75 ls st w = ldI ls 3 fun x => Rv 133 76 ls (.int x :: st) w := R_ldI Q133 (by decide +kernel) rfl
theorem e133_76 {ls : zL} {w : zW} {n1 : Int32} {n2 : Int32} {a0 : Nat} : Rv 133 76 ls [.int n1, .int n2, .ref a0] w = hO w a0 2 (cal (Rv 42 0 [some (.ref a0), some (.int n2), some (.int n1)] [] w) (fun v w' => Rv 133 79 ls (vts v []) w') (xnone)) := R_calV (z := 547) (r := []) Q133 (by decide +kernel) rfl rfl Q42 rfl rfl rfl
theorem e133_79 {ls : zL} {w : zW} {x : Int32} : Rv 133 79 ls [.int x] w = some (.inl (some (.int x)), w) := R_retI Q133 (by decide +kernel) rfl
theorem e133_80 {ls : zL} {st : List Value} {w : zW} : Rv 133 80 ls st w = ldA ls 0 fun x => Rv 133 81 ls (x :: st) w := R_ldA Q133 (by decide +kernel) rfl
theorem e133_81 {ls : zL} {st : List Value} {w : zW} {a : Nat} : Rv 133 81 ls (.ref a :: st) w = gF w a 5 0 fun v => Rv 133 84 ls (v :: st) w := R_gF (z := 265) Q133 (by decide +kernel) rfl
theorem e133_84 {ls : zL} {st : List Value} {w : zW} : Rv 133 84 ls st w = ldI ls 2 fun x => Rv 133 85 ls (.int x :: st) w := R_ldI Q133 (by decide +kernel) rfl
theorem e133_85 {ls : zL} {w : zW} {n1 : Int32} {a0 : Nat} : Rv 133 85 ls [.int n1, .ref a0] w = hO w a0 2 (cal (Rv 46 0 [some (.ref a0), some (.int n1)] [] w) (fun v w' => Rv 133 88 ls (vts v []) w') (xnone)) := R_calV (z := 561) (r := []) Q133 (by decide +kernel) rfl rfl Q46 rfl rfl rfl
theorem e133_88 {ls : zL} {w : zW} {x : Int32} : Rv 133 88 ls [.int x] w = some (.inl (some (.int x)), w) := R_retI Q133 (by decide +kernel) rfl
theorem e133_89 {ls : zL} {st : List Value} {w : zW} : Rv 133 89 ls st w = ldA ls 0 fun x => Rv 133 90 ls (x :: st) w := R_ldA Q133 (by decide +kernel) rfl
theorem e133_90 {ls : zL} {st : List Value} {w : zW} {a : Nat} : Rv 133 90 ls (.ref a :: st) w = gF w a 5 0 fun v => Rv 133 93 ls (v :: st) w := R_gF (z := 265) Q133 (by decide +kernel) rfl
theorem e133_93 {ls : zL} {st : List Value} {w : zW} : Rv 133 93 ls st w = ldI ls 2 fun x => Rv 133 94 ls (.int x :: st) w := R_ldI Q133 (by decide +kernel) rfl
theorem e133_94 {ls : zL} {st : List Value} {w : zW} : Rv 133 94 ls st w = ldI ls 3 fun x => Rv 133 95 ls (.int x :: st) w := R_ldI Q133 (by decide +kernel) rfl
theorem e133_95 {ls : zL} {w : zW} {n1 : Int32} {n2 : Int32} {a0 : Nat} : Rv 133 95 ls [.int n1, .int n2, .ref a0] w = hO w a0 2 (cal (Rv 39 0 [some (.ref a0), some (.int n2), some (.int n1)] [] w) (fun v w' => Rv 133 98 ls (vts v []) w') (xnone)) := R_calV (z := 565) (r := []) Q133 (by decide +kernel) rfl rfl Q39 rfl rfl rfl
theorem e133_98 {ls : zL} {w : zW} {x : Int32} : Rv 133 98 ls [.int x] w = some (.inl (some (.int x)), w) := R_retI Q133 (by decide +kernel) rfl
theorem e133_99 {ls : zL} {st : List Value} {w : zW} : Rv 133 99 ls st w = ldA ls 0 fun x => Rv 133 100 ls (x :: st) w := R_ldA Q133 (by decide +kernel) rfl
theorem e133_100 {ls : zL} {st : List Value} {w : zW} {a : Nat} : Rv 133 100 ls (.ref a :: st) w = gF w a 5 0 fun v => Rv 133 103 ls (v :: st) w := R_gF (z := 265) Q133 (by decide +kernel) rfl
theorem e133_103 {ls : zL} {st : List Value} {w : zW} : Rv 133 103 ls st w = ldI ls 2 fun x => Rv 133 104 ls (.int x :: st) w := R_ldI Q133 (by decide +kernel) rfl
theorem e133_104 {ls : zL} {w : zW} {n1 : Int32} {a0 : Nat} : Rv 133 104 ls [.int n1, .ref a0] w = hO w a0 2 (cal (Rv 38 0 [some (.ref a0), some (.int n1)] [] w) (fun v w' => Rv 133 107 ls (vts v []) w') (xnone)) := R_calV (z := 573) (r := []) Q133 (by decide +kernel) rfl rfl Q38 rfl rfl rfl
theorem e133_107 {ls : zL} {w : zW} {x : Int32} : Rv 133 107 ls [.int x] w = some (.inl (some (.int x)), w) := R_retI Q133 (by decide +kernel) rfl
theorem e133_108 {ls : zL} {st : List Value} {w : zW} : Rv 133 108 ls st w = ldA ls 0 fun x => Rv 133 109 ls (x :: st) w := R_ldA Q133 (by decide +kernel) rfl
theorem e133_109 {ls : zL} {st : List Value} {w : zW} {a : Nat} : Rv 133 109 ls (.ref a :: st) w = gF w a 5 0 fun v => Rv 133 112 ls (v :: st) w := R_gF (z := 265) Q133 (by decide +kernel) rfl
theorem e133_112 {ls : zL} {st : List Value} {w : zW} : Rv 133 112 ls st w = ldI ls 2 fun x => Rv 133 113 ls (.int x :: st) w := R_ldI Q133 (by decide +kernel) rfl
theorem e133_113 {ls : zL} {w : zW} {n1 : Int32} {a0 : Nat} : Rv 133 113 ls [.int n1, .ref a0] w = hO w a0 2 (cal (Rv 44 0 [some (.ref a0), some (.int n1)] [] w) (fun v w' => Rv 133 116 ls (vts v []) w') (xnone)) := R_calV (z := 577) (r := []) Q133 (by decide +kernel) rfl rfl Q44 rfl rfl rfl
theorem e133_116 {ls : zL} {w : zW} {x : Int32} : Rv 133 116 ls [.int x] w = some (.inl (some (.int x)), w) := R_retI Q133 (by decide +kernel) rfl
theorem e133_117 {ls : zL} {st : List Value} {w : zW} : Rv 133 117 ls st w = ldA ls 0 fun x => Rv 133 118 ls (x :: st) w := R_ldA Q133 (by decide +kernel) rfl
theorem e133_118 {ls : zL} {st : List Value} {w : zW} {a : Nat} : Rv 133 118 ls (.ref a :: st) w = gF w a 5 0 fun v => Rv 133 121 ls (v :: st) w := R_gF (z := 265) Q133 (by decide +kernel) rfl
theorem e133_121 {ls : zL} {st : List Value} {w : zW} : Rv 133 121 ls st w = ldI ls 2 fun x => Rv 133 122 ls (.int x :: st) w := R_ldI Q133 (by decide +kernel) rfl
theorem e133_122 {ls : zL} {w : zW} {n1 : Int32} {a0 : Nat} : Rv 133 122 ls [.int n1, .ref a0] w = hO w a0 2 (cal (Rv 45 0 [some (.ref a0), some (.int n1)] [] w) (fun v w' => Rv 133 125 ls (vts v []) w') (xnone)) := R_calV (z := 585) (r := []) Q133 (by decide +kernel) rfl rfl Q45 rfl rfl rfl
theorem e133_125 {ls : zL} {w : zW} {x : Int32} : Rv 133 125 ls [.int x] w = some (.inl (some (.int x)), w) := R_retI Q133 (by decide +kernel) rfl
theorem e133_126 {ls : zL} {st : List Value} {w : zW} : Rv 133 126 ls st w = ldA ls 0 fun x => Rv 133 127 ls (x :: st) w := R_ldA Q133 (by decide +kernel) rfl
theorem e133_127 {ls : zL} {st : List Value} {w : zW} {a : Nat} : Rv 133 127 ls (.ref a :: st) w = gF w a 5 0 fun v => Rv 133 130 ls (v :: st) w := R_gF (z := 265) Q133 (by decide +kernel) rfl
theorem e133_130 {ls : zL} {st : List Value} {w : zW} : Rv 133 130 ls st w = ldI ls 2 fun x => Rv 133 131 ls (.int x :: st) w := R_ldI Q133 (by decide +kernel) rfl
theorem e133_131 {ls : zL} {st : List Value} {w : zW} : Rv 133 131 ls st w = ldI ls 3 fun x => Rv 133 132 ls (.int x :: st) w := R_ldI Q133 (by decide +kernel) rfl
theorem e133_132 {ls : zL} {w : zW} {n1 : Int32} {n2 : Int32} {a0 : Nat} : Rv 133 132 ls [.int n1, .int n2, .ref a0] w = hO w a0 2 (cal (Rv 43 0 [some (.ref a0), some (.int n2), some (.int n1)] [] w) (fun v w' => Rv 133 135 ls (vts v []) w') (xnone)) := R_calV (z := 589) (r := []) Q133 (by decide +kernel) rfl rfl Q43 rfl rfl rfl
theorem e133_135 {ls : zL} {w : zW} {x : Int32} : Rv 133 135 ls [.int x] w = some (.inl (some (.int x)), w) := R_retI Q133 (by decide +kernel) rfl
theorem e133_136 {ls : zL} {st : List Value} {w : zW} : Rv 133 136 ls st w = ldA ls 0 fun x => Rv 133 137 ls (x :: st) w := R_ldA Q133 (by decide +kernel) rfl
theorem e133_137 {ls : zL} {st : List Value} {w : zW} {a : Nat} : Rv 133 137 ls (.ref a :: st) w = gF w a 5 0 fun v => Rv 133 140 ls (v :: st) w := R_gF (z := 265) Q133 (by decide +kernel) rfl
theorem e133_140 {ls : zL} {st : List Value} {w : zW} : Rv 133 140 ls st w = ldI ls 2 fun x => Rv 133 141 ls (.int x :: st) w := R_ldI Q133 (by decide +kernel) rfl
theorem e133_141 {ls : zL} {st : List Value} {w : zW} : Rv 133 141 ls st w = ldI ls 3 fun x => Rv 133 142 ls (.int x :: st) w := R_ldI Q133 (by decide +kernel) rfl
theorem e133_142 {ls : zL} {w : zW} {n1 : Int32} {n2 : Int32} {a0 : Nat} : Rv 133 142 ls [.int n1, .int n2, .ref a0] w = hO w a0 2 (cal (Rv 41 0 [some (.ref a0), some (.int n2), some (.int n1), none, none] [] w) (fun v w' => Rv 133 145 ls (vts v []) w') (xnone)) := R_calV (z := 593) (r := []) Q133 (by decide +kernel) rfl rfl Q41 rfl rfl rfl
theorem e133_145 {ls : zL} {w : zW} {x : Int32} : Rv 133 145 ls [.int x] w = some (.inl (some (.int x)), w) := R_retI Q133 (by decide +kernel) rfl
theorem e133_146 {ls : zL} {st : List Value} {w : zW} : Rv 133 146 ls st w = Rv 133 147 ls (.int 0 :: st) w := R_con Q133 (by decide +kernel) rfl (by decide)
theorem e133_147 {ls : zL} {w : zW} {x : Int32} : Rv 133 147 ls [.int x] w = some (.inl (some (.int x)), w) := R_retI Q133 (by decide +kernel) rfl
/-! MasterPins.carryOut -/
theorem e134_0 {ls : zL} {st : List Value} {w : zW} : Rv 134 0 ls st w = Rv 134 3 ls (.ref 3 :: st) w := R_gst (z := 539) Q134 (by decide +kernel) rfl
theorem e134_3 {ls : zL} {st : List Value} {w : zW} : Rv 134 3 ls st w = ldA ls 1 fun x => Rv 134 4 ls (x :: st) w := R_ldA Q134 (by decide +kernel) rfl
theorem e134_4 {ls : zL} {w : zW} {a1 : Nat} {a : Nat} : Rv 134 4 ls [.ref a, .ref a1] w = gW w a fun x => Rv 134 7 ls [.int x, .ref a1] w := R_ord (z := (0, 0, 541)) Q134 (by decide +kernel) rfl ⟨Nat.le_of_ble_eq_true rfl, Nat.le_of_ble_eq_true rfl, Nat.le_of_ble_eq_true rfl⟩
theorem e134_7 {ls : zL} {st : List Value} {w : zW} {a : Nat} {x : Int32} : Rv 134 7 ls (.int x :: .ref a :: st) w = gI w a 0 8 x fun v => Rv 134 8 ls (.int v :: st) w := R_iald Q134 (by decide +kernel)
theorem e134_8 {ls : zL} {st : List Value} {w : zW} {x : Int32} : Rv 134 8 ls (.int x :: st) w = tsw x 1 146 (fun t => Rv 134 t ls st w) [60, 70, 80, 89, 99, 108, 117, 126, 136] := R_tsw Q134 (by decide +kernel) (by decide +kernel) rfl rfl (by decide +kernel) (by decide +kernel)
theorem e134_60 {ls : zL} {st : List Value} {w : zW} : Rv 134 60 ls st w = ldA ls 0 fun x => Rv 134 61 ls (x :: st) w := R_ldA Q134 (by decide +kernel) rfl
theorem e134_61 {ls : zL} {st : List Value} {w : zW} {a : Nat} : Rv 134 61 ls (.ref a :: st) w = gF w a 5 0 fun v => Rv 134 64 ls (v :: st) w := R_gF (z := 265) Q134 (by decide +kernel) rfl
theorem e134_64 {ls : zL} {st : List Value} {w : zW} : Rv 134 64 ls st w = ldI ls 2 fun x => Rv 134 65 ls (.int x :: st) w := R_ldI Q134 (by decide +kernel) rfl
theorem e134_65 {ls : zL} {st : List Value} {w : zW} : Rv 134 65 ls st w = Rv 134 66 ls (.int (-1) :: st) w := R_con Q134 (by decide +kernel) rfl (by decide)
theorem e134_66 {ls : zL} {w : zW} {n1 : Int32} {n2 : Int32} {a0 : Nat} : Rv 134 66 ls [.int n1, .int n2, .ref a0] w = hO w a0 2 (cal (Rv 49 0 [some (.ref a0), some (.int n2), some (.int n1), none] [] w) (fun v w' => Rv 134 69 ls (vts v []) w') (xnone)) := R_calV (z := 601) (r := []) Q134 (by decide +kernel) rfl rfl Q49 rfl rfl rfl
theorem e134_69 {ls : zL} {w : zW} {x : Int32} : Rv 134 69 ls [.int x] w = some (.inl (some (.int x)), w) := R_retI Q134 (by decide +kernel) rfl
theorem e134_70 {ls : zL} {st : List Value} {w : zW} : Rv 134 70 ls st w = ldA ls 0 fun x => Rv 134 71 ls (x :: st) w := R_ldA Q134 (by decide +kernel) rfl
theorem e134_71 {ls : zL} {st : List Value} {w : zW} {a : Nat} : Rv 134 71 ls (.ref a :: st) w = gF w a 5 0 fun v => Rv 134 74 ls (v :: st) w := R_gF (z := 265) Q134 (by decide +kernel) rfl
theorem e134_74 {ls : zL} {st : List Value} {w : zW} : Rv 134 74 ls st w = ldI ls 2 fun x => Rv 134 75 ls (.int x :: st) w := R_ldI Q134 (by decide +kernel) rfl
theorem e134_75 {ls : zL} {st : List Value} {w : zW} : Rv 134 75 ls st w = ldI ls 3 fun x => Rv 134 76 ls (.int x :: st) w := R_ldI Q134 (by decide +kernel) rfl
theorem e134_76 {ls : zL} {w : zW} {n1 : Int32} {n2 : Int32} {a0 : Nat} : Rv 134 76 ls [.int n1, .int n2, .ref a0] w = hO w a0 2 (cal (Rv 49 0 [some (.ref a0), some (.int n2), some (.int n1), none] [] w) (fun v w' => Rv 134 79 ls (vts v []) w') (xnone)) := R_calV (z := 601) (r := []) Q134 (by decide +kernel) rfl rfl Q49 rfl rfl rfl
theorem e134_79 {ls : zL} {w : zW} {x : Int32} : Rv 134 79 ls [.int x] w = some (.inl (some (.int x)), w) := R_retI Q134 (by decide +kernel) rfl
theorem e134_80 {ls : zL} {st : List Value} {w : zW} : Rv 134 80 ls st w = ldA ls 0 fun x => Rv 134 81 ls (x :: st) w := R_ldA Q134 (by decide +kernel) rfl
theorem e134_81 {ls : zL} {st : List Value} {w : zW} {a : Nat} : Rv 134 81 ls (.ref a :: st) w = gF w a 5 0 fun v => Rv 134 84 ls (v :: st) w := R_gF (z := 265) Q134 (by decide +kernel) rfl
theorem e134_84 {ls : zL} {st : List Value} {w : zW} : Rv 134 84 ls st w = ldI ls 2 fun x => Rv 134 85 ls (.int x :: st) w := R_ldI Q134 (by decide +kernel) rfl
theorem e134_85 {ls : zL} {w : zW} {n1 : Int32} {a0 : Nat} : Rv 134 85 ls [.int n1, .ref a0] w = hO w a0 2 (cal (Rv 53 0 [some (.ref a0), some (.int n1), none] [] w) (fun v w' => Rv 134 88 ls (vts v []) w') (xnone)) := R_calV (z := 605) (r := []) Q134 (by decide +kernel) rfl rfl Q53 rfl rfl rfl
theorem e134_88 {ls : zL} {w : zW} {x : Int32} : Rv 134 88 ls [.int x] w = some (.inl (some (.int x)), w) := R_retI Q134 (by decide +kernel) rfl
theorem e134_89 {ls : zL} {st : List Value} {w : zW} : Rv 134 89 ls st w = ldA ls 0 fun x => Rv 134 90 ls (x :: st) w := R_ldA Q134 (by decide +kernel) rfl
theorem e134_90 {ls : zL} {st : List Value} {w : zW} {a : Nat} : Rv 134 90 ls (.ref a :: st) w = gF w a 5 0 fun v => Rv 134 93 ls (v :: st) w := R_gF (z := 265) Q134 (by decide +kernel) rfl
theorem e134_93 {ls : zL} {st : List Value} {w : zW} : Rv 134 93 ls st w = ldI ls 2 fun x => Rv 134 94 ls (.int x :: st) w := R_ldI Q134 (by decide +kernel) rfl
theorem e134_94 {ls : zL} {st : List Value} {w : zW} : Rv 134 94 ls st w = ldI ls 3 fun x => Rv 134 95 ls (.int x :: st) w := R_ldI Q134 (by decide +kernel) rfl
theorem e134_95 {ls : zL} {w : zW} {n1 : Int32} {n2 : Int32} {a0 : Nat} : Rv 134 95 ls [.int n1, .int n2, .ref a0] w = hO w a0 2 (cal (Rv 54 0 [some (.ref a0), some (.int n2), some (.int n1), none] [] w) (fun v w' => Rv 134 98 ls (vts v []) w') (xnone)) := R_calV (z := 609) (r := []) Q134 (by decide +kernel) rfl rfl Q54 rfl rfl rfl
theorem e134_98 {ls : zL} {w : zW} {x : Int32} : Rv 134 98 ls [.int x] w = some (.inl (some (.int x)), w) := R_retI Q134 (by decide +kernel) rfl
theorem e134_99 {ls : zL} {st : List Value} {w : zW} : Rv 134 99 ls st w = ldA ls 0 fun x => Rv 134 100 ls (x :: st) w := R_ldA Q134 (by decide +kernel) rfl
theorem e134_100 {ls : zL} {st : List Value} {w : zW} {a : Nat} : Rv 134 100 ls (.ref a :: st) w = gF w a 5 0 fun v => Rv 134 103 ls (v :: st) w := R_gF (z := 265) Q134 (by decide +kernel) rfl
theorem e134_103 {ls : zL} {st : List Value} {w : zW} : Rv 134 103 ls st w = ldI ls 2 fun x => Rv 134 104 ls (.int x :: st) w := R_ldI Q134 (by decide +kernel) rfl
theorem e134_104 {ls : zL} {w : zW} {n1 : Int32} {a0 : Nat} : Rv 134 104 ls [.int n1, .ref a0] w = hO w a0 2 (cal (Rv 55 0 [some (.ref a0), some (.int n1), none] [] w) (fun v w' => Rv 134 107 ls (vts v []) w') (xnone)) := R_calV (z := 613) (r := []) Q134 (by decide +kernel) rfl rfl Q55 rfl rfl rfl
theorem e134_107 {ls : zL} {w : zW} {x : Int32} : Rv 134 107 ls [.int x] w = some (.inl (some (.int x)), w) := R_retI Q134 (by decide +kernel) rfl
theorem e134_108 {ls : zL} {st : List Value} {w : zW} : Rv 134 108 ls st w = ldA ls 0 fun x => Rv 134 109 ls (x :: st) w := R_ldA Q134 (by decide +kernel) rfl
theorem e134_109 {ls : zL} {st : List Value} {w : zW} {a : Nat} : Rv 134 109 ls (.ref a :: st) w = gF w a 5 0 fun v => Rv 134 112 ls (v :: st) w := R_gF (z := 265) Q134 (by decide +kernel) rfl
theorem e134_112 {ls : zL} {st : List Value} {w : zW} : Rv 134 112 ls st w = ldI ls 2 fun x => Rv 134 113 ls (.int x :: st) w := R_ldI Q134 (by decide +kernel) rfl
theorem e134_113 {ls : zL} {w : zW} {n1 : Int32} {a0 : Nat} : Rv 134 113 ls [.int n1, .ref a0] w = hO w a0 2 (cal (Rv 51 0 [some (.ref a0), some (.int n1)] [] w) (fun v w' => Rv 134 116 ls (vts v []) w') (xnone)) := R_calV (z := 614) (r := []) Q134 (by decide +kernel) rfl rfl Q51 rfl rfl rfl
theorem e134_116 {ls : zL} {w : zW} {x : Int32} : Rv 134 116 ls [.int x] w = some (.inl (some (.int x)), w) := R_retI Q134 (by decide +kernel) rfl
theorem e134_117 {ls : zL} {st : List Value} {w : zW} : Rv 134 117 ls st w = ldA ls 0 fun x => Rv 134 118 ls (x :: st) w := R_ldA Q134 (by decide +kernel) rfl
theorem e134_118 {ls : zL} {st : List Value} {w : zW} {a : Nat} : Rv 134 118 ls (.ref a :: st) w = gF w a 5 0 fun v => Rv 134 121 ls (v :: st) w := R_gF (z := 265) Q134 (by decide +kernel) rfl
theorem e134_121 {ls : zL} {st : List Value} {w : zW} : Rv 134 121 ls st w = ldI ls 2 fun x => Rv 134 122 ls (.int x :: st) w := R_ldI Q134 (by decide +kernel) rfl
theorem e134_122 {ls : zL} {w : zW} {n1 : Int32} {a0 : Nat} : Rv 134 122 ls [.int n1, .ref a0] w = hO w a0 2 (cal (Rv 52 0 [some (.ref a0), some (.int n1)] [] w) (fun v w' => Rv 134 125 ls (vts v []) w') (xnone)) := R_calV (z := 622) (r := []) Q134 (by decide +kernel) rfl rfl Q52 rfl rfl rfl
theorem e134_125 {ls : zL} {w : zW} {x : Int32} : Rv 134 125 ls [.int x] w = some (.inl (some (.int x)), w) := R_retI Q134 (by decide +kernel) rfl
theorem e134_126 {ls : zL} {st : List Value} {w : zW} : Rv 134 126 ls st w = ldA ls 0 fun x => Rv 134 127 ls (x :: st) w := R_ldA Q134 (by decide +kernel) rfl
theorem e134_127 {ls : zL} {st : List Value} {w : zW} {a : Nat} : Rv 134 127 ls (.ref a :: st) w = gF w a 5 0 fun v => Rv 134 130 ls (v :: st) w := R_gF (z := 265) Q134 (by decide +kernel) rfl
theorem e134_130 {ls : zL} {st : List Value} {w : zW} : Rv 134 130 ls st w = ldI ls 2 fun x => Rv 134 131 ls (.int x :: st) w := R_ldI Q134 (by decide +kernel) rfl
theorem e134_131 {ls : zL} {st : List Value} {w : zW} : Rv 134 131 ls st w = ldI ls 3 fun x => Rv 134 132 ls (.int x :: st) w := R_ldI Q134 (by decide +kernel) rfl
theorem e134_132 {ls : zL} {w : zW} {n1 : Int32} {n2 : Int32} {a0 : Nat} : Rv 134 132 ls [.int n1, .int n2, .ref a0] w = hO w a0 2 (cal (Rv 50 0 [some (.ref a0), some (.int n2), some (.int n1), none] [] w) (fun v w' => Rv 134 135 ls (vts v []) w') (xnone)) := R_calV (z := 626) (r := []) Q134 (by decide +kernel) rfl rfl Q50 rfl rfl rfl
theorem e134_135 {ls : zL} {w : zW} {x : Int32} : Rv 134 135 ls [.int x] w = some (.inl (some (.int x)), w) := R_retI Q134 (by decide +kernel) rfl
theorem e134_136 {ls : zL} {st : List Value} {w : zW} : Rv 134 136 ls st w = ldA ls 0 fun x => Rv 134 137 ls (x :: st) w := R_ldA Q134 (by decide +kernel) rfl
theorem e134_137 {ls : zL} {st : List Value} {w : zW} {a : Nat} : Rv 134 137 ls (.ref a :: st) w = gF w a 5 0 fun v => Rv 134 140 ls (v :: st) w := R_gF (z := 265) Q134 (by decide +kernel) rfl
theorem e134_140 {ls : zL} {st : List Value} {w : zW} : Rv 134 140 ls st w = ldI ls 2 fun x => Rv 134 141 ls (.int x :: st) w := R_ldI Q134 (by decide +kernel) rfl
theorem e134_141 {ls : zL} {st : List Value} {w : zW} : Rv 134 141 ls st w = ldI ls 3 fun x => Rv 134 142 ls (.int x :: st) w := R_ldI Q134 (by decide +kernel) rfl
theorem e134_142 {ls : zL} {w : zW} {n1 : Int32} {n2 : Int32} {a0 : Nat} : Rv 134 142 ls [.int n1, .int n2, .ref a0] w = hO w a0 2 (cal (Rv 48 0 [some (.ref a0), some (.int n2), some (.int n1), none] [] w) (fun v w' => Rv 134 145 ls (vts v []) w') (xnone)) := R_calV (z := 630) (r := []) Q134 (by decide +kernel) rfl rfl Q48 rfl rfl rfl
theorem e134_145 {ls : zL} {w : zW} {x : Int32} : Rv 134 145 ls [.int x] w = some (.inl (some (.int x)), w) := R_retI Q134 (by decide +kernel) rfl
theorem e134_146 {ls : zL} {st : List Value} {w : zW} : Rv 134 146 ls st w = ldA ls 0 fun x => Rv 134 147 ls (x :: st) w := R_ldA Q134 (by decide +kernel) rfl
theorem e134_147 {ls : zL} {st : List Value} {w : zW} {a : Nat} : Rv 134 147 ls (.ref a :: st) w = gF w a 5 0 fun v => Rv 134 150 ls (v :: st) w := R_gF (z := 265) Q134 (by decide +kernel) rfl
theorem e134_150 {ls : zL} {w : zW} {a0 : Nat} : Rv 134 150 ls [.ref a0] w = hO w a0 2 (cal (Rv 56 0 [some (.ref a0), none, none] [] w) (fun v w' => Rv 134 153 ls (vts v []) w') (xnone)) := R_calV (z := 297) (r := []) Q134 (by decide +kernel) rfl rfl Q56 rfl rfl rfl
theorem e134_153 {ls : zL} {w : zW} {x : Int32} : Rv 134 153 ls [.int x] w = some (.inl (some (.int x)), w) := R_retI Q134 (by decide +kernel) rfl
/-! MasterPins.mixed -/
theorem e135_0 {ls : zL} {st : List Value} {w : zW} : Rv 135 0 ls st w = Rv 135 3 ls (.long 31 :: st) w := R_ldc2 (z := 642) Q135 (by decide +kernel) (by decide +kernel)
theorem e135_3 {ls : zL} {st : List Value} {w : zW} : Rv 135 3 ls st w = ldL ls 0 fun x => Rv 135 4 ls (.long x :: st) w := R_ldL Q135 (by decide +kernel) rfl
theorem e135_4 {ls : zL} {st : List Value} {w : zW} {x y : Int64} : Rv 135 4 ls (.long y :: .long x :: st) w = Rv 135 5 ls (.long (x * y) :: st) w := R_next Q135 (by decide +kernel) rfl
theorem e135_5 {ls : zL} {st : List Value} {w : zW} : Rv 135 5 ls st w = ldI ls 2 fun x => Rv 135 6 ls (.int x :: st) w := R_ldI Q135 (by decide +kernel) rfl
theorem e135_6 {ls : zL} {st : List Value} {w : zW} {x : Int32} : Rv 135 6 ls (.int x :: st) w = Rv 135 7 ls (.long x.toInt64 :: st) w := R_next Q135 (by decide +kernel) rfl
theorem e135_7 {ls : zL} {st : List Value} {w : zW} {x y : Int64} : Rv 135 7 ls (.long y :: .long x :: st) w = Rv 135 8 ls (.long (x + y) :: st) w := R_next Q135 (by decide +kernel) rfl
theorem e135_8 {ls : zL} {w : zW} {x : Int64} : Rv 135 8 ls [.long x] w = some (.inl (some (.long x)), w) := R_retL Q135 (by decide +kernel) rfl
/-! MasterPins.mixedWithKeys -/
theorem e136_0 {ls : zL} {st : List Value} {w : zW} : Rv 136 0 ls st w = ldL ls 1 fun x => Rv 136 1 ls (.long x :: st) w := R_ldL Q136 (by decide +kernel) rfl
theorem e136_1 {ls : zL} {st : List Value} {w : zW} {x : Int64} : Rv 136 1 ls (.long x :: st) w = if lpr ls 3 = true then lst ls 3 (some (.long x)) fun l => lst l 4 none fun l' => Rv 136 2 l' st w else none := R_sL Q136 (by decide +kernel) rfl rfl
theorem e136_2 {ls : zL} {st : List Value} {w : zW} : Rv 136 2 ls st w = Rv 136 3 ls (.int 0 :: st) w := R_con Q136 (by decide +kernel) rfl (by decide)
theorem e136_3 {ls : zL} {st : List Value} {w : zW} {x : Int32} : Rv 136 3 ls (.int x :: st) w = if lpr ls 5 = true then lst ls 5 (some (.int x)) fun l => Rv 136 5 l st w else none := R_sB Q136 (by decide +kernel) rfl
theorem h136_5 {ls : zL} {st : List Value} {w : zW} : Rv 136 5 ls st w = ldI ls 5 fun x => Rv 136 7 ls (.int x :: st) w := R_ldI Q136 (by decide +kernel) rfl
theorem e136_7 {ls : zL} {st : List Value} {w : zW} : Rv 136 7 ls st w = ldA ls 0 fun x => Rv 136 8 ls (x :: st) w := R_ldA Q136 (by decide +kernel) rfl
theorem e136_8 {ls : zL} {st : List Value} {w : zW} {a : Nat} : Rv 136 8 ls (.ref a :: st) w = gF w a 5 0 fun v => Rv 136 11 ls (v :: st) w := R_gF (z := 265) Q136 (by decide +kernel) rfl
theorem e136_11 {ls : zL} {st : List Value} {w : zW} {a : Nat} : Rv 136 11 ls (.ref a :: st) w = gF w a 2 3 fun v => Rv 136 14 ls (v :: st) w := R_gF (z := 133) Q136 (by decide +kernel) rfl
theorem e136_14 {ls : zL} {st : List Value} {w : zW} {x y : Int32} : Rv 136 14 ls (.int y :: .int x :: st) w = if x < y then Rv 136 17 ls st w else Rv 136 55 ls st w := R_fige Q136 (by decide +kernel) rfl rfl
theorem e136_17 {ls : zL} {st : List Value} {w : zW} : Rv 136 17 ls st w = Rv 136 18 ls (.int 0 :: st) w := R_con Q136 (by decide +kernel) rfl (by decide)
theorem e136_18 {ls : zL} {st : List Value} {w : zW} {x : Int32} : Rv 136 18 ls (.int x :: st) w = if lpr ls 6 = true then lst ls 6 (some (.int x)) fun l => Rv 136 20 l st w else none := R_sB Q136 (by decide +kernel) rfl
theorem h136_20 {ls : zL} {st : List Value} {w : zW} : Rv 136 20 ls st w = ldI ls 6 fun x => Rv 136 22 ls (.int x :: st) w := R_ldI Q136 (by decide +kernel) rfl
theorem e136_22 {ls : zL} {st : List Value} {w : zW} : Rv 136 22 ls st w = Rv 136 24 ls (.int 6 :: st) w := R_con Q136 (by decide +kernel) rfl (by decide)
theorem e136_24 {ls : zL} {st : List Value} {w : zW} {x y : Int32} : Rv 136 24 ls (.int y :: .int x :: st) w = if y < x then Rv 136 49 ls st w else Rv 136 27 ls st w := R_figt Q136 (by decide +kernel) rfl rfl
theorem e136_27 {ls : zL} {st : List Value} {w : zW} : Rv 136 27 ls st w = ldL ls 3 fun x => Rv 136 28 ls (.long x :: st) w := R_ldL Q136 (by decide +kernel) rfl
theorem e136_28 {ls : zL} {st : List Value} {w : zW} : Rv 136 28 ls st w = ldA ls 0 fun x => Rv 136 29 ls (x :: st) w := R_ldA Q136 (by decide +kernel) rfl
theorem e136_29 {ls : zL} {st : List Value} {w : zW} {a : Nat} : Rv 136 29 ls (.ref a :: st) w = gF w a 5 0 fun v => Rv 136 32 ls (v :: st) w := R_gF (z := 265) Q136 (by decide +kernel) rfl
theorem e136_32 {ls : zL} {st : List Value} {w : zW} : Rv 136 32 ls st w = ldI ls 5 fun x => Rv 136 34 ls (.int x :: st) w := R_ldI Q136 (by decide +kernel) rfl
theorem e136_34 {ls : zL} {st : List Value} {w : zW} : Rv 136 34 ls st w = ldI ls 6 fun x => Rv 136 36 ls (.int x :: st) w := R_ldI Q136 (by decide +kernel) rfl
theorem e136_36 {ls : zL} {w : zW} {n1 : Int32} {n2 : Int32} {a0 : Nat} {l3 : Int64} : Rv 136 36 ls [.int n1, .int n2, .ref a0, .long l3] w = hO w a0 2 (cal (Rv 76 0 [some (.ref a0), some (.int n2), some (.int n1)] [] w) (fun v w' => Rv 136 39 ls (vts v [.long l3]) w') (xnone)) := R_calV (z := 687) (r := [.long l3]) Q136 (by decide +kernel) rfl rfl Q76 rfl rfl rfl
theorem e136_39 {ls : zL} {w : zW} {n1 : Int32} {l2 : Int64} : Rv 136 39 ls [.int n1, .long l2] w = cal (Rv 135 0 [some (.long l2), none, some (.int n1)] [] w) (fun v w' => Rv 136 42 ls (vts v []) w') (xnone) := R_calS (z := 639) (kd := 1) (n := 2) Q136 (by decide +kernel) rfl (Or.inl rfl) (Nat.le_of_ble_eq_true rfl) rfl Q135 rfl rfl rfl
theorem e136_42 {ls : zL} {st : List Value} {w : zW} {x : Int64} : Rv 136 42 ls (.long x :: st) w = if lpr ls 3 = true then lst ls 3 (some (.long x)) fun l => lst l 4 none fun l' => Rv 136 43 l' st w else none := R_sL Q136 (by decide +kernel) rfl rfl
theorem e136_43 {ls : zL} {st : List Value} {w : zW} : Rv 136 43 ls st w = ldI ls 6 fun x => lst ls 6 (some (.int (x + 1))) fun l => Rv 136 46 l st w := R_iinc Q136 (by decide +kernel) (by decide)
theorem e136_46 {ls : zL} {st : List Value} {w : zW} : Rv 136 46 ls st w = Rv 136 20 ls st w := R_go Q136 (by decide +kernel) rfl rfl
theorem e136_49 {ls : zL} {st : List Value} {w : zW} : Rv 136 49 ls st w = ldI ls 5 fun x => lst ls 5 (some (.int (x + 1))) fun l => Rv 136 52 l st w := R_iinc Q136 (by decide +kernel) (by decide)
theorem e136_52 {ls : zL} {st : List Value} {w : zW} : Rv 136 52 ls st w = Rv 136 5 ls st w := R_go Q136 (by decide +kernel) rfl rfl
theorem e136_55 {ls : zL} {st : List Value} {w : zW} : Rv 136 55 ls st w = ldL ls 3 fun x => Rv 136 56 ls (.long x :: st) w := R_ldL Q136 (by decide +kernel) rfl
theorem e136_56 {ls : zL} {w : zW} {x : Int64} : Rv 136 56 ls [.long x] w = some (.inl (some (.long x)), w) := R_retL Q136 (by decide +kernel) rfl
/-! MasterPins.mixedWithDoors -/
theorem e137_0 {ls : zL} {st : List Value} {w : zW} : Rv 137 0 ls st w = ldL ls 1 fun x => Rv 137 1 ls (.long x :: st) w := R_ldL Q137 (by decide +kernel) rfl
theorem e137_1 {ls : zL} {st : List Value} {w : zW} {x : Int64} : Rv 137 1 ls (.long x :: st) w = if lpr ls 3 = true then lst ls 3 (some (.long x)) fun l => lst l 4 none fun l' => Rv 137 2 l' st w else none := R_sL Q137 (by decide +kernel) rfl rfl
theorem e137_2 {ls : zL} {st : List Value} {w : zW} : Rv 137 2 ls st w = Rv 137 3 ls (.int 0 :: st) w := R_con Q137 (by decide +kernel) rfl (by decide)
theorem e137_3 {ls : zL} {st : List Value} {w : zW} {x : Int32} : Rv 137 3 ls (.int x :: st) w = if lpr ls 5 = true then lst ls 5 (some (.int x)) fun l => Rv 137 5 l st w else none := R_sB Q137 (by decide +kernel) rfl
theorem h137_5 {ls : zL} {st : List Value} {w : zW} : Rv 137 5 ls st w = ldI ls 5 fun x => Rv 137 7 ls (.int x :: st) w := R_ldI Q137 (by decide +kernel) rfl
theorem e137_7 {ls : zL} {st : List Value} {w : zW} : Rv 137 7 ls st w = ldA ls 0 fun x => Rv 137 8 ls (x :: st) w := R_ldA Q137 (by decide +kernel) rfl
theorem e137_8 {ls : zL} {st : List Value} {w : zW} {a : Nat} : Rv 137 8 ls (.ref a :: st) w = gF w a 5 0 fun v => Rv 137 11 ls (v :: st) w := R_gF (z := 265) Q137 (by decide +kernel) rfl
theorem e137_11 {ls : zL} {st : List Value} {w : zW} {a : Nat} : Rv 137 11 ls (.ref a :: st) w = gF w a 2 9 fun v => Rv 137 14 ls (v :: st) w := R_gF (z := 141) Q137 (by decide +kernel) rfl
theorem e137_14 {ls : zL} {st : List Value} {w : zW} {x y : Int32} : Rv 137 14 ls (.int y :: .int x :: st) w = if x < y then Rv 137 17 ls st w else Rv 137 92 ls st w := R_fige Q137 (by decide +kernel) rfl rfl
theorem e137_17 {ls : zL} {st : List Value} {w : zW} : Rv 137 17 ls st w = Rv 137 18 ls (.int 0 :: st) w := R_con Q137 (by decide +kernel) rfl (by decide)
theorem e137_18 {ls : zL} {st : List Value} {w : zW} {x : Int32} : Rv 137 18 ls (.int x :: st) w = if lpr ls 6 = true then lst ls 6 (some (.int x)) fun l => Rv 137 20 l st w else none := R_sB Q137 (by decide +kernel) rfl
theorem h137_20 {ls : zL} {st : List Value} {w : zW} : Rv 137 20 ls st w = ldI ls 6 fun x => Rv 137 22 ls (.int x :: st) w := R_ldI Q137 (by decide +kernel) rfl
theorem e137_22 {ls : zL} {st : List Value} {w : zW} : Rv 137 22 ls st w = Rv 137 24 ls (.int 8 :: st) w := R_con Q137 (by decide +kernel) rfl (by decide)
theorem e137_24 {ls : zL} {st : List Value} {w : zW} {x y : Int32} : Rv 137 24 ls (.int y :: .int x :: st) w = if y < x then Rv 137 49 ls st w else Rv 137 27 ls st w := R_figt Q137 (by decide +kernel) rfl rfl
theorem e137_27 {ls : zL} {st : List Value} {w : zW} : Rv 137 27 ls st w = ldL ls 3 fun x => Rv 137 28 ls (.long x :: st) w := R_ldL Q137 (by decide +kernel) rfl
theorem e137_28 {ls : zL} {st : List Value} {w : zW} : Rv 137 28 ls st w = ldA ls 0 fun x => Rv 137 29 ls (x :: st) w := R_ldA Q137 (by decide +kernel) rfl
theorem e137_29 {ls : zL} {st : List Value} {w : zW} {a : Nat} : Rv 137 29 ls (.ref a :: st) w = gF w a 5 1 fun v => Rv 137 32 ls (v :: st) w := R_gF (z := 266) Q137 (by decide +kernel) rfl
theorem e137_32 {ls : zL} {st : List Value} {w : zW} : Rv 137 32 ls st w = ldI ls 5 fun x => Rv 137 34 ls (.int x :: st) w := R_ldI Q137 (by decide +kernel) rfl
theorem e137_34 {ls : zL} {st : List Value} {w : zW} : Rv 137 34 ls st w = ldI ls 6 fun x => Rv 137 36 ls (.int x :: st) w := R_ldI Q137 (by decide +kernel) rfl
theorem e137_36 {ls : zL} {w : zW} {n1 : Int32} {n2 : Int32} {a0 : Nat} {l3 : Int64} : Rv 137 36 ls [.int n1, .int n2, .ref a0, .long l3] w = hO w a0 3 (cal (Rv 85 0 [some (.ref a0), some (.int n2), some (.int n1)] [] w) (fun v w' => Rv 137 39 ls (vts v [.long l3]) w') (xnone)) := R_calV (z := 703) (r := [.long l3]) Q137 (by decide +kernel) rfl rfl Q85 rfl rfl rfl
theorem e137_39 {ls : zL} {w : zW} {n1 : Int32} {l2 : Int64} : Rv 137 39 ls [.int n1, .long l2] w = cal (Rv 135 0 [some (.long l2), none, some (.int n1)] [] w) (fun v w' => Rv 137 42 ls (vts v []) w') (xnone) := R_calS (z := 639) (kd := 1) (n := 2) Q137 (by decide +kernel) rfl (Or.inl rfl) (Nat.le_of_ble_eq_true rfl) rfl Q135 rfl rfl rfl
theorem e137_42 {ls : zL} {st : List Value} {w : zW} {x : Int64} : Rv 137 42 ls (.long x :: st) w = if lpr ls 3 = true then lst ls 3 (some (.long x)) fun l => lst l 4 none fun l' => Rv 137 43 l' st w else none := R_sL Q137 (by decide +kernel) rfl rfl
theorem e137_43 {ls : zL} {st : List Value} {w : zW} : Rv 137 43 ls st w = ldI ls 6 fun x => lst ls 6 (some (.int (x + 1))) fun l => Rv 137 46 l st w := R_iinc Q137 (by decide +kernel) (by decide)
theorem e137_46 {ls : zL} {st : List Value} {w : zW} : Rv 137 46 ls st w = Rv 137 20 ls st w := R_go Q137 (by decide +kernel) rfl rfl
theorem e137_49 {ls : zL} {st : List Value} {w : zW} : Rv 137 49 ls st w = Rv 137 50 ls (.int 0 :: st) w := R_con Q137 (by decide +kernel) rfl (by decide)
theorem e137_50 {ls : zL} {st : List Value} {w : zW} {x : Int32} : Rv 137 50 ls (.int x :: st) w = if lpr ls 6 = true then lst ls 6 (some (.int x)) fun l => Rv 137 52 l st w else none := R_sB Q137 (by decide +kernel) rfl
theorem h137_52 {ls : zL} {st : List Value} {w : zW} : Rv 137 52 ls st w = ldI ls 6 fun x => Rv 137 54 ls (.int x :: st) w := R_ldI Q137 (by decide +kernel) rfl
theorem e137_54 {ls : zL} {st : List Value} {w : zW} : Rv 137 54 ls st w = ldA ls 0 fun x => Rv 137 55 ls (x :: st) w := R_ldA Q137 (by decide +kernel) rfl
theorem e137_55 {ls : zL} {st : List Value} {w : zW} {a : Nat} : Rv 137 55 ls (.ref a :: st) w = gF w a 5 0 fun v => Rv 137 58 ls (v :: st) w := R_gF (z := 265) Q137 (by decide +kernel) rfl
theorem e137_58 {ls : zL} {st : List Value} {w : zW} {a : Nat} : Rv 137 58 ls (.ref a :: st) w = gF w a 2 0 fun v => Rv 137 61 ls (v :: st) w := R_gF (z := 127) Q137 (by decide +kernel) rfl
theorem e137_61 {ls : zL} {st : List Value} {w : zW} {x y : Int32} : Rv 137 61 ls (.int y :: .int x :: st) w = if x < y then Rv 137 64 ls st w else Rv 137 86 ls st w := R_fige Q137 (by decide +kernel) rfl rfl
theorem e137_64 {ls : zL} {st : List Value} {w : zW} : Rv 137 64 ls st w = ldL ls 3 fun x => Rv 137 65 ls (.long x :: st) w := R_ldL Q137 (by decide +kernel) rfl
theorem e137_65 {ls : zL} {st : List Value} {w : zW} : Rv 137 65 ls st w = ldA ls 0 fun x => Rv 137 66 ls (x :: st) w := R_ldA Q137 (by decide +kernel) rfl
theorem e137_66 {ls : zL} {st : List Value} {w : zW} {a : Nat} : Rv 137 66 ls (.ref a :: st) w = gF w a 5 0 fun v => Rv 137 69 ls (v :: st) w := R_gF (z := 265) Q137 (by decide +kernel) rfl
theorem e137_69 {ls : zL} {st : List Value} {w : zW} : Rv 137 69 ls st w = ldI ls 5 fun x => Rv 137 71 ls (.int x :: st) w := R_ldI Q137 (by decide +kernel) rfl
theorem e137_71 {ls : zL} {st : List Value} {w : zW} : Rv 137 71 ls st w = ldI ls 6 fun x => Rv 137 73 ls (.int x :: st) w := R_ldI Q137 (by decide +kernel) rfl
theorem e137_73 {ls : zL} {w : zW} {n1 : Int32} {n2 : Int32} {a0 : Nat} {l3 : Int64} : Rv 137 73 ls [.int n1, .int n2, .ref a0, .long l3] w = hO w a0 2 (cal (Rv 66 0 [some (.ref a0), some (.int n2), some (.int n1)] [] w) (fun v w' => Rv 137 76 ls (vts v [.long l3]) w') (xnone)) := R_calV (z := 704) (r := [.long l3]) Q137 (by decide +kernel) rfl rfl Q66 rfl rfl rfl
theorem e137_76 {ls : zL} {w : zW} {n1 : Int32} {l2 : Int64} : Rv 137 76 ls [.int n1, .long l2] w = cal (Rv 135 0 [some (.long l2), none, some (.int n1)] [] w) (fun v w' => Rv 137 79 ls (vts v []) w') (xnone) := R_calS (z := 639) (kd := 1) (n := 2) Q137 (by decide +kernel) rfl (Or.inl rfl) (Nat.le_of_ble_eq_true rfl) rfl Q135 rfl rfl rfl
theorem e137_79 {ls : zL} {st : List Value} {w : zW} {x : Int64} : Rv 137 79 ls (.long x :: st) w = if lpr ls 3 = true then lst ls 3 (some (.long x)) fun l => lst l 4 none fun l' => Rv 137 80 l' st w else none := R_sL Q137 (by decide +kernel) rfl rfl
theorem e137_80 {ls : zL} {st : List Value} {w : zW} : Rv 137 80 ls st w = ldI ls 6 fun x => lst ls 6 (some (.int (x + 1))) fun l => Rv 137 83 l st w := R_iinc Q137 (by decide +kernel) (by decide)
theorem e137_83 {ls : zL} {st : List Value} {w : zW} : Rv 137 83 ls st w = Rv 137 52 ls st w := R_go Q137 (by decide +kernel) rfl rfl
theorem e137_86 {ls : zL} {st : List Value} {w : zW} : Rv 137 86 ls st w = ldI ls 5 fun x => lst ls 5 (some (.int (x + 1))) fun l => Rv 137 89 l st w := R_iinc Q137 (by decide +kernel) (by decide)
theorem e137_89 {ls : zL} {st : List Value} {w : zW} : Rv 137 89 ls st w = Rv 137 5 ls st w := R_go Q137 (by decide +kernel) rfl rfl
theorem e137_92 {ls : zL} {st : List Value} {w : zW} : Rv 137 92 ls st w = ldL ls 3 fun x => Rv 137 93 ls (.long x :: st) w := R_ldL Q137 (by decide +kernel) rfl
theorem e137_93 {ls : zL} {w : zW} {x : Int64} : Rv 137 93 ls [.long x] w = some (.inl (some (.long x)), w) := R_retL Q137 (by decide +kernel) rfl
/-! MasterPins.mixedWithWorks -/
theorem e138_0 {ls : zL} {st : List Value} {w : zW} : Rv 138 0 ls st w = ldL ls 1 fun x => Rv 138 1 ls (.long x :: st) w := R_ldL Q138 (by decide +kernel) rfl
theorem e138_1 {ls : zL} {st : List Value} {w : zW} {x : Int64} : Rv 138 1 ls (.long x :: st) w = if lpr ls 3 = true then lst ls 3 (some (.long x)) fun l => lst l 4 none fun l' => Rv 138 2 l' st w else none := R_sL Q138 (by decide +kernel) rfl rfl
theorem e138_2 {ls : zL} {st : List Value} {w : zW} : Rv 138 2 ls st w = Rv 138 3 ls (.int 0 :: st) w := R_con Q138 (by decide +kernel) rfl (by decide)
theorem e138_3 {ls : zL} {st : List Value} {w : zW} {x : Int32} : Rv 138 3 ls (.int x :: st) w = if lpr ls 5 = true then lst ls 5 (some (.int x)) fun l => Rv 138 5 l st w else none := R_sB Q138 (by decide +kernel) rfl
theorem h138_5 {ls : zL} {st : List Value} {w : zW} : Rv 138 5 ls st w = ldI ls 5 fun x => Rv 138 7 ls (.int x :: st) w := R_ldI Q138 (by decide +kernel) rfl
theorem e138_7 {ls : zL} {st : List Value} {w : zW} : Rv 138 7 ls st w = ldA ls 0 fun x => Rv 138 8 ls (x :: st) w := R_ldA Q138 (by decide +kernel) rfl
theorem e138_8 {ls : zL} {st : List Value} {w : zW} {a : Nat} : Rv 138 8 ls (.ref a :: st) w = gF w a 5 1 fun v => Rv 138 11 ls (v :: st) w := R_gF (z := 266) Q138 (by decide +kernel) rfl
theorem e138_11 {ls : zL} {st : List Value} {w : zW} {a : Nat} : Rv 138 11 ls (.ref a :: st) w = gF w a 3 3 fun v => Rv 138 14 ls (v :: st) w := R_gF (z := 209) Q138 (by decide +kernel) rfl
theorem e138_14 {ls : zL} {st : List Value} {w : zW} {x y : Int32} : Rv 138 14 ls (.int y :: .int x :: st) w = if x < y then Rv 138 17 ls st w else Rv 138 54 ls st w := R_fige Q138 (by decide +kernel) rfl rfl
theorem e138_17 {ls : zL} {st : List Value} {w : zW} : Rv 138 17 ls st w = Rv 138 18 ls (.int 0 :: st) w := R_con Q138 (by decide +kernel) rfl (by decide)
theorem e138_18 {ls : zL} {st : List Value} {w : zW} {x : Int32} : Rv 138 18 ls (.int x :: st) w = if lpr ls 6 = true then lst ls 6 (some (.int x)) fun l => Rv 138 20 l st w else none := R_sB Q138 (by decide +kernel) rfl
theorem h138_20 {ls : zL} {st : List Value} {w : zW} : Rv 138 20 ls st w = ldI ls 6 fun x => Rv 138 22 ls (.int x :: st) w := R_ldI Q138 (by decide +kernel) rfl
theorem e138_22 {ls : zL} {st : List Value} {w : zW} : Rv 138 22 ls st w = Rv 138 23 ls (.int 2 :: st) w := R_con Q138 (by decide +kernel) rfl (by decide)
theorem e138_23 {ls : zL} {st : List Value} {w : zW} {x y : Int32} : Rv 138 23 ls (.int y :: .int x :: st) w = if y < x then Rv 138 48 ls st w else Rv 138 26 ls st w := R_figt Q138 (by decide +kernel) rfl rfl
theorem e138_26 {ls : zL} {st : List Value} {w : zW} : Rv 138 26 ls st w = ldL ls 3 fun x => Rv 138 27 ls (.long x :: st) w := R_ldL Q138 (by decide +kernel) rfl
theorem e138_27 {ls : zL} {st : List Value} {w : zW} : Rv 138 27 ls st w = ldA ls 0 fun x => Rv 138 28 ls (x :: st) w := R_ldA Q138 (by decide +kernel) rfl
theorem e138_28 {ls : zL} {st : List Value} {w : zW} {a : Nat} : Rv 138 28 ls (.ref a :: st) w = gF w a 5 1 fun v => Rv 138 31 ls (v :: st) w := R_gF (z := 266) Q138 (by decide +kernel) rfl
theorem e138_31 {ls : zL} {st : List Value} {w : zW} : Rv 138 31 ls st w = ldI ls 5 fun x => Rv 138 33 ls (.int x :: st) w := R_ldI Q138 (by decide +kernel) rfl
theorem e138_33 {ls : zL} {st : List Value} {w : zW} : Rv 138 33 ls st w = ldI ls 6 fun x => Rv 138 35 ls (.int x :: st) w := R_ldI Q138 (by decide +kernel) rfl
theorem e138_35 {ls : zL} {w : zW} {n1 : Int32} {n2 : Int32} {a0 : Nat} {l3 : Int64} : Rv 138 35 ls [.int n1, .int n2, .ref a0, .long l3] w = hO w a0 3 (cal (Rv 91 0 [some (.ref a0), some (.int n2), some (.int n1), none] [] w) (fun v w' => Rv 138 38 ls (vts v [.long l3]) w') (xnone)) := R_calV (z := 713) (r := [.long l3]) Q138 (by decide +kernel) rfl rfl Q91 rfl rfl rfl
theorem e138_38 {ls : zL} {w : zW} {n1 : Int32} {l2 : Int64} : Rv 138 38 ls [.int n1, .long l2] w = cal (Rv 135 0 [some (.long l2), none, some (.int n1)] [] w) (fun v w' => Rv 138 41 ls (vts v []) w') (xnone) := R_calS (z := 639) (kd := 1) (n := 2) Q138 (by decide +kernel) rfl (Or.inl rfl) (Nat.le_of_ble_eq_true rfl) rfl Q135 rfl rfl rfl
theorem e138_41 {ls : zL} {st : List Value} {w : zW} {x : Int64} : Rv 138 41 ls (.long x :: st) w = if lpr ls 3 = true then lst ls 3 (some (.long x)) fun l => lst l 4 none fun l' => Rv 138 42 l' st w else none := R_sL Q138 (by decide +kernel) rfl rfl
theorem e138_42 {ls : zL} {st : List Value} {w : zW} : Rv 138 42 ls st w = ldI ls 6 fun x => lst ls 6 (some (.int (x + 1))) fun l => Rv 138 45 l st w := R_iinc Q138 (by decide +kernel) (by decide)
theorem e138_45 {ls : zL} {st : List Value} {w : zW} : Rv 138 45 ls st w = Rv 138 20 ls st w := R_go Q138 (by decide +kernel) rfl rfl
theorem e138_48 {ls : zL} {st : List Value} {w : zW} : Rv 138 48 ls st w = ldI ls 5 fun x => lst ls 5 (some (.int (x + 1))) fun l => Rv 138 51 l st w := R_iinc Q138 (by decide +kernel) (by decide)
theorem e138_51 {ls : zL} {st : List Value} {w : zW} : Rv 138 51 ls st w = Rv 138 5 ls st w := R_go Q138 (by decide +kernel) rfl rfl
theorem e138_54 {ls : zL} {st : List Value} {w : zW} : Rv 138 54 ls st w = ldL ls 3 fun x => Rv 138 55 ls (.long x :: st) w := R_ldL Q138 (by decide +kernel) rfl
theorem e138_55 {ls : zL} {w : zW} {x : Int64} : Rv 138 55 ls [.long x] w = some (.inl (some (.long x)), w) := R_retL Q138 (by decide +kernel) rfl
/-! MasterPinsModel.<init> -/
theorem e139_0 {ls : zL} {st : List Value} {w : zW} : Rv 139 0 ls st w = ldA ls 0 fun x => Rv 139 1 ls (x :: st) w := R_ldA Q139 (by decide +kernel) rfl
theorem e139_1 {ls : zL} {w : zW}  {a : Nat} : Rv 139 1 ls [.ref a] w = Rv 139 4 ls [] w := R_obj (z := (0, 0, 1069)) Q139 (by decide +kernel) rfl ⟨Nat.le_of_ble_eq_true rfl, Nat.le_of_ble_eq_true rfl, Nat.le_of_ble_eq_true rfl⟩
theorem e139_4 {ls : zL} {st : List Value} {w : zW} : Rv 139 4 ls st w = ldA ls 0 fun x => Rv 139 5 ls (x :: st) w := R_ldA Q139 (by decide +kernel) rfl
theorem e139_5 {ls : zL} {st : List Value} {w : zW} : Rv 139 5 ls st w = Rv 139 7 ls (.int 115 :: st) w := R_con Q139 (by decide +kernel) rfl (by decide)
theorem e139_7 {ls : zL} {st : List Value} {w : zW} : Rv 139 7 ls (.int 115 :: st) w = nw w 115 (.inl (0, 115, .inl fun _ => 0)) fun a w' => Rv 139 9 ls (.ref a :: st) w' := R_newa (z := 0) Q139 (by decide +kernel) rfl rfl (by decide) (by decide)
theorem e139_9 {ls : zL} {st : List Value} {w : zW} {x : Nat} {a : Nat} : Rv 139 9 ls (.ref x :: .ref a :: st) w = pF w a 6 0 (.ref x) fun w' => Rv 139 12 ls st w' := R_pF (z := 1070) Q139 (by decide +kernel) rfl ⟨by decide, rfl, Or.inr ⟨rfl, rfl⟩⟩
theorem e139_9n {ls : zL} {st : List Value} {w : zW}  {a : Nat} : Rv 139 9 ls (.null :: .ref a :: st) w = pF w a 6 0 (.null) fun w' => Rv 139 12 ls st w' := R_pF (z := 1070) Q139 (by decide +kernel) rfl ⟨by decide, rfl, Or.inr ⟨rfl, rfl⟩⟩
theorem e139_12 {ls : zL} {st : List Value} {w : zW} : Rv 139 12 ls st w = ldA ls 0 fun x => Rv 139 13 ls (x :: st) w := R_ldA Q139 (by decide +kernel) rfl
theorem e139_13 {ls : zL} {st : List Value} {w : zW} : Rv 139 13 ls st w = Rv 139 16 ls (.int 460 :: st) w := R_con Q139 (by decide +kernel) rfl (by decide)
theorem e139_16 {ls : zL} {st : List Value} {w : zW} : Rv 139 16 ls (.int 460 :: st) w = nw w 460 (.inl (0, 460, .inl fun _ => 0)) fun a w' => Rv 139 18 ls (.ref a :: st) w' := R_newa (z := 0) Q139 (by decide +kernel) rfl rfl (by decide) (by decide)
theorem e139_18 {ls : zL} {st : List Value} {w : zW} {x : Nat} {a : Nat} : Rv 139 18 ls (.ref x :: .ref a :: st) w = pF w a 6 1 (.ref x) fun w' => Rv 139 21 ls st w' := R_pF (z := 1071) Q139 (by decide +kernel) rfl ⟨by decide, rfl, Or.inr ⟨rfl, rfl⟩⟩
theorem e139_18n {ls : zL} {st : List Value} {w : zW}  {a : Nat} : Rv 139 18 ls (.null :: .ref a :: st) w = pF w a 6 1 (.null) fun w' => Rv 139 21 ls st w' := R_pF (z := 1071) Q139 (by decide +kernel) rfl ⟨by decide, rfl, Or.inr ⟨rfl, rfl⟩⟩
theorem e139_21 {ls : zL} {st : List Value} {w : zW} : Rv 139 21 ls st w = ldA ls 0 fun x => Rv 139 22 ls (x :: st) w := R_ldA Q139 (by decide +kernel) rfl
theorem e139_22 {ls : zL} {st : List Value} {w : zW} : Rv 139 22 ls st w = Rv 139 24 ls (.int 12 :: st) w := R_con Q139 (by decide +kernel) rfl (by decide)
theorem e139_24 {ls : zL} {st : List Value} {w : zW} : Rv 139 24 ls (.int 12 :: st) w = nw w 12 (.inl (0, 12, .inl fun _ => 0)) fun a w' => Rv 139 26 ls (.ref a :: st) w' := R_newa (z := 0) Q139 (by decide +kernel) rfl rfl (by decide) (by decide)
theorem e139_26 {ls : zL} {st : List Value} {w : zW} {x : Nat} {a : Nat} : Rv 139 26 ls (.ref x :: .ref a :: st) w = pF w a 6 4 (.ref x) fun w' => Rv 139 29 ls st w' := R_pF (z := 1074) Q139 (by decide +kernel) rfl ⟨by decide, rfl, Or.inr ⟨rfl, rfl⟩⟩
theorem e139_26n {ls : zL} {st : List Value} {w : zW}  {a : Nat} : Rv 139 26 ls (.null :: .ref a :: st) w = pF w a 6 4 (.null) fun w' => Rv 139 29 ls st w' := R_pF (z := 1074) Q139 (by decide +kernel) rfl ⟨by decide, rfl, Or.inr ⟨rfl, rfl⟩⟩
theorem e139_29 {ls : zL} {st : List Value} {w : zW} : Rv 139 29 ls st w = ldA ls 0 fun x => Rv 139 30 ls (x :: st) w := R_ldA Q139 (by decide +kernel) rfl
theorem e139_30 {ls : zL} {st : List Value} {w : zW} : Rv 139 30 ls st w = Rv 139 33 ls (.int 150 :: st) w := R_con Q139 (by decide +kernel) rfl (by decide)
theorem e139_33 {ls : zL} {st : List Value} {w : zW} : Rv 139 33 ls (.int 150 :: st) w = nw w 150 (.inl (2, 150, .inl fun _ => 0)) fun a w' => Rv 139 35 ls (.ref a :: st) w' := R_newa (z := 0) Q139 (by decide +kernel) rfl rfl (by decide) (by decide)
theorem e139_35 {ls : zL} {st : List Value} {w : zW} {x : Nat} {a : Nat} : Rv 139 35 ls (.ref x :: .ref a :: st) w = pF w a 6 5 (.ref x) fun w' => Rv 139 38 ls st w' := R_pF (z := 1075) Q139 (by decide +kernel) rfl ⟨by decide, rfl, Or.inr ⟨rfl, rfl⟩⟩
theorem e139_35n {ls : zL} {st : List Value} {w : zW}  {a : Nat} : Rv 139 35 ls (.null :: .ref a :: st) w = pF w a 6 5 (.null) fun w' => Rv 139 38 ls st w' := R_pF (z := 1075) Q139 (by decide +kernel) rfl ⟨by decide, rfl, Or.inr ⟨rfl, rfl⟩⟩
theorem e139_38 {ls : zL} {st : List Value} {w : zW} : Rv 139 38 ls st w = ldA ls 0 fun x => Rv 139 39 ls (x :: st) w := R_ldA Q139 (by decide +kernel) rfl
theorem e139_39 {ls : zL} {st : List Value} {w : zW} : Rv 139 39 ls st w = Rv 139 40 ls (.int 2 :: st) w := R_con Q139 (by decide +kernel) rfl (by decide)
theorem e139_40 {ls : zL} {st : List Value} {w : zW} : Rv 139 40 ls (.int 2 :: st) w = nw w 2 (.inl (0, 2, .inl fun _ => 0)) fun a w' => Rv 139 42 ls (.ref a :: st) w' := R_newa (z := 0) Q139 (by decide +kernel) rfl rfl (by decide) (by decide)
theorem e139_42 {ls : zL} {st : List Value} {w : zW} {x : Nat} {a : Nat} : Rv 139 42 ls (.ref x :: .ref a :: st) w = pF w a 6 11 (.ref x) fun w' => Rv 139 45 ls st w' := R_pF (z := 1081) Q139 (by decide +kernel) rfl ⟨by decide, rfl, Or.inr ⟨rfl, rfl⟩⟩
theorem e139_42n {ls : zL} {st : List Value} {w : zW}  {a : Nat} : Rv 139 42 ls (.null :: .ref a :: st) w = pF w a 6 11 (.null) fun w' => Rv 139 45 ls st w' := R_pF (z := 1081) Q139 (by decide +kernel) rfl ⟨by decide, rfl, Or.inr ⟨rfl, rfl⟩⟩
theorem e139_45 {ls : zL} {st : List Value} {w : zW} : Rv 139 45 ls st w = ldA ls 0 fun x => Rv 139 46 ls (x :: st) w := R_ldA Q139 (by decide +kernel) rfl
theorem e139_46 {ls : zL} {st : List Value} {w : zW} {a : Nat} : Rv 139 46 ls (.ref a :: st) w = gF w a 6 0 fun v => Rv 139 49 ls (v :: st) w := R_gF (z := 1070) Q139 (by decide +kernel) rfl
theorem e139_49 {ls : zL} {st : List Value} {w : zW} : Rv 139 49 ls st w = Rv 139 50 ls (.int 0 :: st) w := R_con Q139 (by decide +kernel) rfl (by decide)
theorem e139_50 {ls : zL} {st : List Value} {w : zW} : Rv 139 50 ls st w = Rv 139 51 ls (.int 3 :: st) w := R_con Q139 (by decide +kernel) rfl (by decide)
theorem e139_51 {ls : zL} {st : List Value} {w : zW} {a : Nat} {x y : Int32} : Rv 139 51 ls (.int y :: .int x :: .ref a :: st) w = pI w a 0 x y fun w' => Rv 139 52 ls st w' := R_iast Q139 (by decide +kernel)
theorem e139_52 {ls : zL} {st : List Value} {w : zW} : Rv 139 52 ls st w = ldA ls 0 fun x => Rv 139 53 ls (x :: st) w := R_ldA Q139 (by decide +kernel) rfl
theorem e139_53 {ls : zL} {st : List Value} {w : zW} {a : Nat} : Rv 139 53 ls (.ref a :: st) w = gF w a 6 0 fun v => Rv 139 56 ls (v :: st) w := R_gF (z := 1070) Q139 (by decide +kernel) rfl
theorem e139_56 {ls : zL} {st : List Value} {w : zW} : Rv 139 56 ls st w = Rv 139 57 ls (.int 1 :: st) w := R_con Q139 (by decide +kernel) rfl (by decide)
theorem e139_57 {ls : zL} {st : List Value} {w : zW} : Rv 139 57 ls st w = Rv 139 58 ls (.int 5 :: st) w := R_con Q139 (by decide +kernel) rfl (by decide)
theorem e139_58 {ls : zL} {st : List Value} {w : zW} {a : Nat} {x y : Int32} : Rv 139 58 ls (.int y :: .int x :: .ref a :: st) w = pI w a 0 x y fun w' => Rv 139 59 ls st w' := R_iast Q139 (by decide +kernel)
theorem e139_59 {ls : zL} {st : List Value} {w : zW} : Rv 139 59 ls st w = ldA ls 0 fun x => Rv 139 60 ls (x :: st) w := R_ldA Q139 (by decide +kernel) rfl
theorem e139_60 {ls : zL} {st : List Value} {w : zW} {a : Nat} : Rv 139 60 ls (.ref a :: st) w = gF w a 6 0 fun v => Rv 139 63 ls (v :: st) w := R_gF (z := 1070) Q139 (by decide +kernel) rfl
theorem e139_63 {ls : zL} {st : List Value} {w : zW} : Rv 139 63 ls st w = Rv 139 64 ls (.int 2 :: st) w := R_con Q139 (by decide +kernel) rfl (by decide)
theorem e139_64 {ls : zL} {st : List Value} {w : zW} : Rv 139 64 ls st w = Rv 139 65 ls (.int 5 :: st) w := R_con Q139 (by decide +kernel) rfl (by decide)
theorem e139_65 {ls : zL} {st : List Value} {w : zW} {a : Nat} {x y : Int32} : Rv 139 65 ls (.int y :: .int x :: .ref a :: st) w = pI w a 0 x y fun w' => Rv 139 66 ls st w' := R_iast Q139 (by decide +kernel)
theorem e139_66 {ls : zL} {st : List Value} {w : zW} : Rv 139 66 ls st w = ldA ls 0 fun x => Rv 139 67 ls (x :: st) w := R_ldA Q139 (by decide +kernel) rfl
theorem e139_67 {ls : zL} {st : List Value} {w : zW} {a : Nat} : Rv 139 67 ls (.ref a :: st) w = gF w a 6 0 fun v => Rv 139 70 ls (v :: st) w := R_gF (z := 1070) Q139 (by decide +kernel) rfl
theorem e139_70 {ls : zL} {st : List Value} {w : zW} : Rv 139 70 ls st w = Rv 139 71 ls (.int 3 :: st) w := R_con Q139 (by decide +kernel) rfl (by decide)
theorem e139_71 {ls : zL} {st : List Value} {w : zW} : Rv 139 71 ls st w = Rv 139 72 ls (.int 1 :: st) w := R_con Q139 (by decide +kernel) rfl (by decide)
theorem e139_72 {ls : zL} {st : List Value} {w : zW} {a : Nat} {x y : Int32} : Rv 139 72 ls (.int y :: .int x :: .ref a :: st) w = pI w a 0 x y fun w' => Rv 139 73 ls st w' := R_iast Q139 (by decide +kernel)
theorem e139_73 {ls : zL} {st : List Value} {w : zW} : Rv 139 73 ls st w = ldA ls 0 fun x => Rv 139 74 ls (x :: st) w := R_ldA Q139 (by decide +kernel) rfl
theorem e139_74 {ls : zL} {st : List Value} {w : zW} {a : Nat} : Rv 139 74 ls (.ref a :: st) w = gF w a 6 0 fun v => Rv 139 77 ls (v :: st) w := R_gF (z := 1070) Q139 (by decide +kernel) rfl
theorem e139_77 {ls : zL} {st : List Value} {w : zW} : Rv 139 77 ls st w = Rv 139 78 ls (.int 4 :: st) w := R_con Q139 (by decide +kernel) rfl (by decide)
theorem e139_78 {ls : zL} {st : List Value} {w : zW} : Rv 139 78 ls st w = Rv 139 79 ls (.int 1 :: st) w := R_con Q139 (by decide +kernel) rfl (by decide)
theorem e139_79 {ls : zL} {st : List Value} {w : zW} {a : Nat} {x y : Int32} : Rv 139 79 ls (.int y :: .int x :: .ref a :: st) w = pI w a 0 x y fun w' => Rv 139 80 ls st w' := R_iast Q139 (by decide +kernel)
theorem e139_80 {ls : zL} {w : zW} : Rv 139 80 ls [] w = some (.inl none, w) := R_retV Q139 (by decide +kernel) rfl
/-! MasterPinsModel.thrown -/
theorem e140_0 {ls : zL} {st : List Value} {w : zW} : Rv 140 0 ls st w = ldA ls 0 fun x => Rv 140 1 ls (x :: st) w := R_ldA Q140 (by decide +kernel) rfl
theorem e140_1 {ls : zL} {st : List Value} {w : zW} {a : Nat} : Rv 140 1 ls (.ref a :: st) w = gF w a 6 3 fun v => Rv 140 4 ls (v :: st) w := R_gF (z := 1073) Q140 (by decide +kernel) rfl
theorem e140_4 {ls : zL} {w : zW} {x : Int32} : Rv 140 4 ls [.int x] w = some (.inl (some (.int x)), w) := R_retI Q140 (by decide +kernel) rfl
/-! MasterPinsModel.in -/
theorem e141_0 {ls : zL} {st : List Value} {w : zW} : Rv 141 0 ls st w = ldI ls 0 fun x => Rv 141 1 ls (.int x :: st) w := R_ldI Q141 (by decide +kernel) rfl
theorem e141_1 {ls : zL} {st : List Value} {w : zW} : Rv 141 1 ls st w = ldI ls 1 fun x => Rv 141 2 ls (.int x :: st) w := R_ldI Q141 (by decide +kernel) rfl
theorem e141_2 {ls : zL} {st : List Value} {w : zW} {x y : Int32} : Rv 141 2 ls (.int y :: .int x :: st) w = if x < y then Rv 141 14 ls st w else Rv 141 5 ls st w := R_filt Q141 (by decide +kernel) rfl rfl
theorem e141_5 {ls : zL} {st : List Value} {w : zW} : Rv 141 5 ls st w = ldI ls 0 fun x => Rv 141 6 ls (.int x :: st) w := R_ldI Q141 (by decide +kernel) rfl
theorem e141_6 {ls : zL} {st : List Value} {w : zW} : Rv 141 6 ls st w = ldI ls 2 fun x => Rv 141 7 ls (.int x :: st) w := R_ldI Q141 (by decide +kernel) rfl
theorem e141_7 {ls : zL} {st : List Value} {w : zW} {x y : Int32} : Rv 141 7 ls (.int y :: .int x :: st) w = if y < x then Rv 141 14 ls st w else Rv 141 10 ls st w := R_figt Q141 (by decide +kernel) rfl rfl
theorem e141_10 {ls : zL} {st : List Value} {w : zW} : Rv 141 10 ls st w = Rv 141 11 ls (.int 1 :: st) w := R_con Q141 (by decide +kernel) rfl (by decide)
theorem e141_11 {ls : zL} {st : List Value} {w : zW} : Rv 141 11 ls st w = Rv 141 15 ls st w := R_go Q141 (by decide +kernel) rfl rfl
theorem e141_14 {ls : zL} {st : List Value} {w : zW} : Rv 141 14 ls st w = Rv 141 15 ls (.int 0 :: st) w := R_con Q141 (by decide +kernel) rfl (by decide)
theorem e141_15 {ls : zL} {w : zW} {x : Int32} : Rv 141 15 ls [.int x] w = if x = 0 ∨ x = 1 then some (.inl (some (.int x)), w) else none := R_retZ Q141 (by decide +kernel) rfl
/-! MasterPinsModel.fails -/
theorem e142_0 {ls : zL} {st : List Value} {w : zW} : Rv 142 0 ls st w = ldA ls 0 fun x => Rv 142 1 ls (x :: st) w := R_ldA Q142 (by decide +kernel) rfl
theorem e142_1 {ls : zL} {st : List Value} {w : zW} : Rv 142 1 ls st w = ldI ls 1 fun x => Rv 142 2 ls (.int x :: st) w := R_ldI Q142 (by decide +kernel) rfl
theorem e142_2 {ls : zL} {st : List Value} {w : zW} {x : Int32} : Rv 142 2 ls (.int x :: st) w = if x = 0 then Rv 142 5 ls st w else Rv 142 9 ls st w := R_f0ne Q142 (by decide +kernel) rfl rfl
theorem e142_5 {ls : zL} {st : List Value} {w : zW} : Rv 142 5 ls st w = Rv 142 6 ls (.int 1 :: st) w := R_con Q142 (by decide +kernel) rfl (by decide)
theorem e142_6 {ls : zL} {st : List Value} {w : zW} : Rv 142 6 ls st w = Rv 142 26 ls st w := R_go Q142 (by decide +kernel) rfl rfl
theorem e142_9 {ls : zL} {st : List Value} {w : zW} : Rv 142 9 ls st w = ldI ls 2 fun x => Rv 142 10 ls (.int x :: st) w := R_ldI Q142 (by decide +kernel) rfl
theorem e142_10 {ls : zL} {st : List Value} {w : zW} {x : Int32} : Rv 142 10 ls (.int x :: st) w = if x = 0 then Rv 142 13 ls st w else Rv 142 17 ls st w := R_f0ne Q142 (by decide +kernel) rfl rfl
theorem e142_13 {ls : zL} {st : List Value} {w : zW} : Rv 142 13 ls st w = Rv 142 14 ls (.int 2 :: st) w := R_con Q142 (by decide +kernel) rfl (by decide)
theorem e142_14 {ls : zL} {st : List Value} {w : zW} : Rv 142 14 ls st w = Rv 142 26 ls st w := R_go Q142 (by decide +kernel) rfl rfl
theorem e142_17 {ls : zL} {st : List Value} {w : zW} : Rv 142 17 ls st w = ldI ls 3 fun x => Rv 142 18 ls (.int x :: st) w := R_ldI Q142 (by decide +kernel) rfl
theorem e142_18 {ls : zL} {st : List Value} {w : zW} {x : Int32} : Rv 142 18 ls (.int x :: st) w = if x = 0 then Rv 142 21 ls st w else Rv 142 25 ls st w := R_f0ne Q142 (by decide +kernel) rfl rfl
theorem e142_21 {ls : zL} {st : List Value} {w : zW} : Rv 142 21 ls st w = Rv 142 22 ls (.int 3 :: st) w := R_con Q142 (by decide +kernel) rfl (by decide)
theorem e142_22 {ls : zL} {st : List Value} {w : zW} : Rv 142 22 ls st w = Rv 142 26 ls st w := R_go Q142 (by decide +kernel) rfl rfl
theorem e142_25 {ls : zL} {st : List Value} {w : zW} : Rv 142 25 ls st w = Rv 142 26 ls (.int 0 :: st) w := R_con Q142 (by decide +kernel) rfl (by decide)
theorem e142_26 {ls : zL} {st : List Value} {w : zW} {x : Int32} {a : Nat} : Rv 142 26 ls (.int x :: .ref a :: st) w = pF w a 6 3 (.int x) fun w' => Rv 142 29 ls st w' := R_pF (z := 1073) Q142 (by decide +kernel) rfl ⟨by decide, rfl, Or.inl rfl⟩
theorem e142_29 {ls : zL} {st : List Value} {w : zW} : Rv 142 29 ls st w = ldA ls 0 fun x => Rv 142 30 ls (x :: st) w := R_ldA Q142 (by decide +kernel) rfl
theorem e142_30 {ls : zL} {st : List Value} {w : zW} {a : Nat} : Rv 142 30 ls (.ref a :: st) w = gF w a 6 3 fun v => Rv 142 33 ls (v :: st) w := R_gF (z := 1073) Q142 (by decide +kernel) rfl
theorem e142_33 {ls : zL} {st : List Value} {w : zW} {x : Int32} : Rv 142 33 ls (.int x :: st) w = if x = 0 then Rv 142 40 ls st w else Rv 142 36 ls st w := R_f0eq Q142 (by decide +kernel) rfl rfl
theorem e142_36 {ls : zL} {st : List Value} {w : zW} : Rv 142 36 ls st w = Rv 142 37 ls (.int 1 :: st) w := R_con Q142 (by decide +kernel) rfl (by decide)
theorem e142_37 {ls : zL} {st : List Value} {w : zW} : Rv 142 37 ls st w = Rv 142 41 ls st w := R_go Q142 (by decide +kernel) rfl rfl
theorem e142_40 {ls : zL} {st : List Value} {w : zW} : Rv 142 40 ls st w = Rv 142 41 ls (.int 0 :: st) w := R_con Q142 (by decide +kernel) rfl (by decide)
theorem e142_41 {ls : zL} {w : zW} {x : Int32} : Rv 142 41 ls [.int x] w = if x = 0 ∨ x = 1 then some (.inl (some (.int x)), w) else none := R_retZ Q142 (by decide +kernel) rfl
/-! MasterPinsModel.save -/
theorem e143_0 {ls : zL} {st : List Value} {w : zW} : Rv 143 0 ls st w = ldA ls 0 fun x => Rv 143 1 ls (x :: st) w := R_ldA Q143 (by decide +kernel) rfl
theorem e143_1 {ls : zL} {st : List Value} {w : zW} {a : Nat} : Rv 143 1 ls (.ref a :: st) w = gF w a 6 2 fun v => Rv 143 4 ls (v :: st) w := R_gF (z := 1072) Q143 (by decide +kernel) rfl
theorem e143_4 {ls : zL} {st : List Value} {w : zW} : Rv 143 4 ls st w = Rv 143 5 ls (.int 4 :: st) w := R_con Q143 (by decide +kernel) rfl (by decide)
theorem e143_5 {ls : zL} {st : List Value} {w : zW} {x y : Int32} : Rv 143 5 ls (.int y :: .int x :: st) w = if x = y then Rv 143 8 ls st w else Rv 143 48 ls st w := R_fine Q143 (by decide +kernel) rfl rfl
theorem e143_8 {ls : zL} {st : List Value} {w : zW} : Rv 143 8 ls st w = Rv 143 9 ls (.int 0 :: st) w := R_con Q143 (by decide +kernel) rfl (by decide)
theorem e143_9 {ls : zL} {st : List Value} {w : zW} {x : Int32} : Rv 143 9 ls (.int x :: st) w = lst ls 1 (some (.int x)) fun l => Rv 143 10 l st w := R_st Q143 (by decide +kernel) rfl
theorem h143_10 {ls : zL} {st : List Value} {w : zW} : Rv 143 10 ls st w = ldI ls 1 fun x => Rv 143 11 ls (.int x :: st) w := R_ldI Q143 (by decide +kernel) rfl
theorem e143_11 {ls : zL} {st : List Value} {w : zW} : Rv 143 11 ls st w = Rv 143 14 ls (.int 345 :: st) w := R_con Q143 (by decide +kernel) rfl (by decide)
theorem e143_14 {ls : zL} {st : List Value} {w : zW} {x y : Int32} : Rv 143 14 ls (.int y :: .int x :: st) w = if x < y then Rv 143 17 ls st w else Rv 143 38 ls st w := R_fige Q143 (by decide +kernel) rfl rfl
theorem e143_17 {ls : zL} {st : List Value} {w : zW} : Rv 143 17 ls st w = ldA ls 0 fun x => Rv 143 18 ls (x :: st) w := R_ldA Q143 (by decide +kernel) rfl
theorem e143_18 {ls : zL} {st : List Value} {w : zW} {a : Nat} : Rv 143 18 ls (.ref a :: st) w = gF w a 6 1 fun v => Rv 143 21 ls (v :: st) w := R_gF (z := 1071) Q143 (by decide +kernel) rfl
theorem e143_21 {ls : zL} {st : List Value} {w : zW} : Rv 143 21 ls st w = ldI ls 1 fun x => Rv 143 22 ls (.int x :: st) w := R_ldI Q143 (by decide +kernel) rfl
theorem e143_22 {ls : zL} {st : List Value} {w : zW} : Rv 143 22 ls st w = ldA ls 0 fun x => Rv 143 23 ls (x :: st) w := R_ldA Q143 (by decide +kernel) rfl
theorem e143_23 {ls : zL} {st : List Value} {w : zW} {a : Nat} : Rv 143 23 ls (.ref a :: st) w = gF w a 6 1 fun v => Rv 143 26 ls (v :: st) w := R_gF (z := 1071) Q143 (by decide +kernel) rfl
theorem e143_26 {ls : zL} {st : List Value} {w : zW} : Rv 143 26 ls st w = Rv 143 28 ls (.int 115 :: st) w := R_con Q143 (by decide +kernel) rfl (by decide)
theorem e143_28 {ls : zL} {st : List Value} {w : zW} : Rv 143 28 ls st w = ldI ls 1 fun x => Rv 143 29 ls (.int x :: st) w := R_ldI Q143 (by decide +kernel) rfl
theorem e143_29 {ls : zL} {st : List Value} {w : zW} {x y : Int32} : Rv 143 29 ls (.int y :: .int x :: st) w = Rv 143 30 ls (.int (x + y) :: st) w := R_next Q143 (by decide +kernel) rfl
theorem e143_30 {ls : zL} {st : List Value} {w : zW} {a : Nat} {x : Int32} : Rv 143 30 ls (.int x :: .ref a :: st) w = gI w a 0 8 x fun v => Rv 143 31 ls (.int v :: st) w := R_iald Q143 (by decide +kernel)
theorem e143_31 {ls : zL} {st : List Value} {w : zW} {a : Nat} {x y : Int32} : Rv 143 31 ls (.int y :: .int x :: .ref a :: st) w = pI w a 0 x y fun w' => Rv 143 32 ls st w' := R_iast Q143 (by decide +kernel)
theorem e143_32 {ls : zL} {st : List Value} {w : zW} : Rv 143 32 ls st w = ldI ls 1 fun x => lst ls 1 (some (.int (x + 1))) fun l => Rv 143 35 l st w := R_iinc Q143 (by decide +kernel) (by decide)
theorem e143_35 {ls : zL} {st : List Value} {w : zW} : Rv 143 35 ls st w = Rv 143 10 ls st w := R_go Q143 (by decide +kernel) rfl rfl
theorem e143_38 {ls : zL} {st : List Value} {w : zW} : Rv 143 38 ls st w = ldA ls 0 fun x => Rv 143 39 ls (x :: st) w := R_ldA Q143 (by decide +kernel) rfl
theorem e143_39 {ls : zL} {st : List Value} {w : zW} {x : Nat} : Rv 143 39 ls (.ref x :: st) w = Rv 143 40 ls (.ref x :: .ref x :: st) w := R_next Q143 (by decide +kernel) rfl
theorem e143_40 {ls : zL} {st : List Value} {w : zW} {a : Nat} : Rv 143 40 ls (.ref a :: st) w = gF w a 6 2 fun v => Rv 143 43 ls (v :: st) w := R_gF (z := 1072) Q143 (by decide +kernel) rfl
theorem e143_43 {ls : zL} {st : List Value} {w : zW} : Rv 143 43 ls st w = Rv 143 44 ls (.int 1 :: st) w := R_con Q143 (by decide +kernel) rfl (by decide)
theorem e143_44 {ls : zL} {st : List Value} {w : zW} {x y : Int32} : Rv 143 44 ls (.int y :: .int x :: st) w = Rv 143 45 ls (.int (x - y) :: st) w := R_next Q143 (by decide +kernel) rfl
theorem e143_45 {ls : zL} {st : List Value} {w : zW} {x : Int32} {a : Nat} : Rv 143 45 ls (.int x :: .ref a :: st) w = pF w a 6 2 (.int x) fun w' => Rv 143 48 ls st w' := R_pF (z := 1072) Q143 (by decide +kernel) rfl ⟨by decide, rfl, Or.inl rfl⟩
theorem e143_48 {ls : zL} {st : List Value} {w : zW} : Rv 143 48 ls st w = Rv 143 49 ls (.int 0 :: st) w := R_con Q143 (by decide +kernel) rfl (by decide)
theorem e143_49 {ls : zL} {st : List Value} {w : zW} {x : Int32} : Rv 143 49 ls (.int x :: st) w = lst ls 1 (some (.int x)) fun l => Rv 143 50 l st w := R_st Q143 (by decide +kernel) rfl
theorem h143_50 {ls : zL} {st : List Value} {w : zW} : Rv 143 50 ls st w = ldI ls 1 fun x => Rv 143 51 ls (.int x :: st) w := R_ldI Q143 (by decide +kernel) rfl
theorem e143_51 {ls : zL} {st : List Value} {w : zW} : Rv 143 51 ls st w = Rv 143 53 ls (.int 115 :: st) w := R_con Q143 (by decide +kernel) rfl (by decide)
theorem e143_53 {ls : zL} {st : List Value} {w : zW} {x y : Int32} : Rv 143 53 ls (.int y :: .int x :: st) w = if x < y then Rv 143 56 ls st w else Rv 143 82 ls st w := R_fige Q143 (by decide +kernel) rfl rfl
theorem e143_56 {ls : zL} {st : List Value} {w : zW} : Rv 143 56 ls st w = ldA ls 0 fun x => Rv 143 57 ls (x :: st) w := R_ldA Q143 (by decide +kernel) rfl
theorem e143_57 {ls : zL} {st : List Value} {w : zW} {a : Nat} : Rv 143 57 ls (.ref a :: st) w = gF w a 6 1 fun v => Rv 143 60 ls (v :: st) w := R_gF (z := 1071) Q143 (by decide +kernel) rfl
theorem e143_60 {ls : zL} {st : List Value} {w : zW} : Rv 143 60 ls st w = Rv 143 62 ls (.int 115 :: st) w := R_con Q143 (by decide +kernel) rfl (by decide)
theorem e143_62 {ls : zL} {st : List Value} {w : zW} : Rv 143 62 ls st w = ldA ls 0 fun x => Rv 143 63 ls (x :: st) w := R_ldA Q143 (by decide +kernel) rfl
theorem e143_63 {ls : zL} {st : List Value} {w : zW} {a : Nat} : Rv 143 63 ls (.ref a :: st) w = gF w a 6 2 fun v => Rv 143 66 ls (v :: st) w := R_gF (z := 1072) Q143 (by decide +kernel) rfl
theorem e143_66 {ls : zL} {st : List Value} {w : zW} {x y : Int32} : Rv 143 66 ls (.int y :: .int x :: st) w = Rv 143 67 ls (.int (x * y) :: st) w := R_next Q143 (by decide +kernel) rfl
theorem e143_67 {ls : zL} {st : List Value} {w : zW} : Rv 143 67 ls st w = ldI ls 1 fun x => Rv 143 68 ls (.int x :: st) w := R_ldI Q143 (by decide +kernel) rfl
theorem e143_68 {ls : zL} {st : List Value} {w : zW} {x y : Int32} : Rv 143 68 ls (.int y :: .int x :: st) w = Rv 143 69 ls (.int (x + y) :: st) w := R_next Q143 (by decide +kernel) rfl
theorem e143_69 {ls : zL} {st : List Value} {w : zW} : Rv 143 69 ls st w = ldA ls 0 fun x => Rv 143 70 ls (x :: st) w := R_ldA Q143 (by decide +kernel) rfl
theorem e143_70 {ls : zL} {st : List Value} {w : zW} {a : Nat} : Rv 143 70 ls (.ref a :: st) w = gF w a 6 0 fun v => Rv 143 73 ls (v :: st) w := R_gF (z := 1070) Q143 (by decide +kernel) rfl
theorem e143_73 {ls : zL} {st : List Value} {w : zW} : Rv 143 73 ls st w = ldI ls 1 fun x => Rv 143 74 ls (.int x :: st) w := R_ldI Q143 (by decide +kernel) rfl
theorem e143_74 {ls : zL} {st : List Value} {w : zW} {a : Nat} {x : Int32} : Rv 143 74 ls (.int x :: .ref a :: st) w = gI w a 0 8 x fun v => Rv 143 75 ls (.int v :: st) w := R_iald Q143 (by decide +kernel)
theorem e143_75 {ls : zL} {st : List Value} {w : zW} {a : Nat} {x y : Int32} : Rv 143 75 ls (.int y :: .int x :: .ref a :: st) w = pI w a 0 x y fun w' => Rv 143 76 ls st w' := R_iast Q143 (by decide +kernel)
theorem e143_76 {ls : zL} {st : List Value} {w : zW} : Rv 143 76 ls st w = ldI ls 1 fun x => lst ls 1 (some (.int (x + 1))) fun l => Rv 143 79 l st w := R_iinc Q143 (by decide +kernel) (by decide)
theorem e143_79 {ls : zL} {st : List Value} {w : zW} : Rv 143 79 ls st w = Rv 143 50 ls st w := R_go Q143 (by decide +kernel) rfl rfl
theorem e143_82 {ls : zL} {st : List Value} {w : zW} : Rv 143 82 ls st w = ldA ls 0 fun x => Rv 143 83 ls (x :: st) w := R_ldA Q143 (by decide +kernel) rfl
theorem e143_83 {ls : zL} {st : List Value} {w : zW} {x : Nat} : Rv 143 83 ls (.ref x :: st) w = Rv 143 84 ls (.ref x :: .ref x :: st) w := R_next Q143 (by decide +kernel) rfl
theorem e143_84 {ls : zL} {st : List Value} {w : zW} {a : Nat} : Rv 143 84 ls (.ref a :: st) w = gF w a 6 2 fun v => Rv 143 87 ls (v :: st) w := R_gF (z := 1072) Q143 (by decide +kernel) rfl
theorem e143_87 {ls : zL} {st : List Value} {w : zW} : Rv 143 87 ls st w = Rv 143 88 ls (.int 1 :: st) w := R_con Q143 (by decide +kernel) rfl (by decide)
theorem e143_88 {ls : zL} {st : List Value} {w : zW} {x y : Int32} : Rv 143 88 ls (.int y :: .int x :: st) w = Rv 143 89 ls (.int (x + y) :: st) w := R_next Q143 (by decide +kernel) rfl
theorem e143_89 {ls : zL} {st : List Value} {w : zW} {x : Int32} {a : Nat} : Rv 143 89 ls (.int x :: .ref a :: st) w = pF w a 6 2 (.int x) fun w' => Rv 143 92 ls st w' := R_pF (z := 1072) Q143 (by decide +kernel) rfl ⟨by decide, rfl, Or.inl rfl⟩
theorem e143_92 {ls : zL} {w : zW} : Rv 143 92 ls [] w = some (.inl none, w) := R_retV Q143 (by decide +kernel) rfl
