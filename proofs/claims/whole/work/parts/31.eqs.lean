/-! MasterPins$CommandText.<init> -/
theorem e0_0 {ls : zL} {st : List Value} {w : zW} : Rv 0 0 ls st w = ldA ls 0 fun x => Rv 0 1 ls (x :: st) w := R_ldA Q0 (by decide +kernel) rfl
theorem e0_1 {ls : zL} {w : zW}  {a : Nat} : Rv 0 1 ls [.ref a] w = Rv 0 4 ls [] w := R_obj (z := (0, 0, 241)) Q0 (by decide +kernel) rfl ⟨Nat.le_of_ble_eq_true rfl, Nat.le_of_ble_eq_true rfl, Nat.le_of_ble_eq_true rfl⟩
theorem e0_4 {ls : zL} {st : List Value} {w : zW} : Rv 0 4 ls st w = ldA ls 0 fun x => Rv 0 5 ls (x :: st) w := R_ldA Q0 (by decide +kernel) rfl
theorem e0_5 {ls : zL} {st : List Value} {w : zW} : Rv 0 5 ls st w = Rv 0 8 ls (.int 150 :: st) w := R_con Q0 (by decide +kernel) rfl (by decide)
theorem e0_8 {ls : zL} {st : List Value} {w : zW} : Rv 0 8 ls (.int 150 :: st) w = nw w 150 (.inl (2, 150, .inl fun _ => 0)) fun a w' => Rv 0 10 ls (.ref a :: st) w' := R_newa (z := 0) Q0 (by decide +kernel) rfl rfl (by decide) (by decide)
theorem e0_10 {ls : zL} {st : List Value} {w : zW} {x : Nat} {a : Nat} : Rv 0 10 ls (.ref x :: .ref a :: st) w = pF w a 0 0 (.ref x) fun w' => Rv 0 13 ls st w' := R_pF (z := 242) Q0 (by decide +kernel) rfl ⟨by decide, rfl, Or.inr ⟨rfl, rfl⟩⟩
theorem e0_10n {ls : zL} {st : List Value} {w : zW}  {a : Nat} : Rv 0 10 ls (.null :: .ref a :: st) w = pF w a 0 0 (.null) fun w' => Rv 0 13 ls st w' := R_pF (z := 242) Q0 (by decide +kernel) rfl ⟨by decide, rfl, Or.inr ⟨rfl, rfl⟩⟩
theorem e0_13 {ls : zL} {w : zW} : Rv 0 13 ls [] w = some (.inl none, w) := R_retV Q0 (by decide +kernel) rfl
/-! MasterPins$CommandText.refusalOfByte -/
theorem e1_0 {ls : zL} {st : List Value} {w : zW} : Rv 1 0 ls st w = ldI ls 1 fun x => Rv 1 1 ls (.int x :: st) w := R_ldI Q1 (by decide +kernel) rfl
theorem e1_1 {ls : zL} {st : List Value} {w : zW} {x : Int32} : Rv 1 1 ls (.int x :: st) w = if x < 0 then Rv 1 10 ls st w else Rv 1 4 ls st w := R_f0lt Q1 (by decide +kernel) rfl rfl
theorem e1_4 {ls : zL} {st : List Value} {w : zW} : Rv 1 4 ls st w = ldI ls 1 fun x => Rv 1 5 ls (.int x :: st) w := R_ldI Q1 (by decide +kernel) rfl
theorem e1_5 {ls : zL} {st : List Value} {w : zW} : Rv 1 5 ls st w = Rv 1 7 ls (.int 127 :: st) w := R_con Q1 (by decide +kernel) rfl (by decide)
theorem e1_7 {ls : zL} {st : List Value} {w : zW} {x y : Int32} : Rv 1 7 ls (.int y :: .int x :: st) w = if y < x then Rv 1 10 ls st w else Rv 1 12 ls st w := R_file Q1 (by decide +kernel) rfl rfl
theorem e1_10 {ls : zL} {st : List Value} {w : zW} : Rv 1 10 ls st w = Rv 1 11 ls (.int 2 :: st) w := R_con Q1 (by decide +kernel) rfl (by decide)
theorem e1_11 {ls : zL} {w : zW} {x : Int32} : Rv 1 11 ls [.int x] w = some (.inl (some (.int x)), w) := R_retI Q1 (by decide +kernel) rfl
theorem e1_12 {ls : zL} {st : List Value} {w : zW} : Rv 1 12 ls st w = ldA ls 0 fun x => Rv 1 13 ls (x :: st) w := R_ldA Q1 (by decide +kernel) rfl
theorem e1_13 {ls : zL} {st : List Value} {w : zW} {a : Nat} : Rv 1 13 ls (.ref a :: st) w = gF w a 0 1 fun v => Rv 1 16 ls (v :: st) w := R_gF (z := 243) Q1 (by decide +kernel) rfl
theorem e1_16 {ls : zL} {st : List Value} {w : zW} : Rv 1 16 ls st w = Rv 1 19 ls (.int 150 :: st) w := R_con Q1 (by decide +kernel) rfl (by decide)
theorem e1_19 {ls : zL} {st : List Value} {w : zW} {x y : Int32} : Rv 1 19 ls (.int y :: .int x :: st) w = if x < y then Rv 1 26 ls st w else Rv 1 22 ls st w := R_filt Q1 (by decide +kernel) rfl rfl
theorem e1_22 {ls : zL} {st : List Value} {w : zW} : Rv 1 22 ls st w = Rv 1 23 ls (.int 3 :: st) w := R_con Q1 (by decide +kernel) rfl (by decide)
theorem e1_23 {ls : zL} {st : List Value} {w : zW} : Rv 1 23 ls st w = Rv 1 27 ls st w := R_go Q1 (by decide +kernel) rfl rfl
theorem e1_26 {ls : zL} {st : List Value} {w : zW} : Rv 1 26 ls st w = Rv 1 27 ls (.int 0 :: st) w := R_con Q1 (by decide +kernel) rfl (by decide)
theorem e1_27 {ls : zL} {w : zW} {x : Int32} : Rv 1 27 ls [.int x] w = some (.inl (some (.int x)), w) := R_retI Q1 (by decide +kernel) rfl
/-! MasterPins$CommandText.append -/
theorem e2_0 {ls : zL} {st : List Value} {w : zW} : Rv 2 0 ls st w = ldA ls 0 fun x => Rv 2 1 ls (x :: st) w := R_ldA Q2 (by decide +kernel) rfl
theorem e2_1 {ls : zL} {st : List Value} {w : zW} {a : Nat} : Rv 2 1 ls (.ref a :: st) w = gF w a 0 0 fun v => Rv 2 4 ls (v :: st) w := R_gF (z := 242) Q2 (by decide +kernel) rfl
theorem e2_4 {ls : zL} {st : List Value} {w : zW} : Rv 2 4 ls st w = ldA ls 0 fun x => Rv 2 5 ls (x :: st) w := R_ldA Q2 (by decide +kernel) rfl
theorem e2_5 {ls : zL} {st : List Value} {w : zW} {a : Nat} : Rv 2 5 ls (.ref a :: st) w = gF w a 0 1 fun v => Rv 2 8 ls (v :: st) w := R_gF (z := 243) Q2 (by decide +kernel) rfl
theorem e2_8 {ls : zL} {st : List Value} {w : zW} : Rv 2 8 ls st w = ldI ls 1 fun x => Rv 2 9 ls (.int x :: st) w := R_ldI Q2 (by decide +kernel) rfl
theorem e2_9 {ls : zL} {st : List Value} {w : zW} {x : Int32} : Rv 2 9 ls (.int x :: st) w = Rv 2 10 ls (.int x.toInt8.toInt32 :: st) w := R_next Q2 (by decide +kernel) rfl
theorem e2_10 {ls : zL} {st : List Value} {w : zW} {a : Nat} {x y : Int32} : Rv 2 10 ls (.int y :: .int x :: .ref a :: st) w = pI w a 2 x (vp_nar .byte y) fun w' => Rv 2 11 ls st w' := R_bast Q2 (by decide +kernel)
theorem e2_11 {ls : zL} {st : List Value} {w : zW} : Rv 2 11 ls st w = ldA ls 0 fun x => Rv 2 12 ls (x :: st) w := R_ldA Q2 (by decide +kernel) rfl
theorem e2_12 {ls : zL} {st : List Value} {w : zW} {x : Nat} : Rv 2 12 ls (.ref x :: st) w = Rv 2 13 ls (.ref x :: .ref x :: st) w := R_next Q2 (by decide +kernel) rfl
theorem e2_13 {ls : zL} {st : List Value} {w : zW} {a : Nat} : Rv 2 13 ls (.ref a :: st) w = gF w a 0 1 fun v => Rv 2 16 ls (v :: st) w := R_gF (z := 243) Q2 (by decide +kernel) rfl
theorem e2_16 {ls : zL} {st : List Value} {w : zW} : Rv 2 16 ls st w = Rv 2 17 ls (.int 1 :: st) w := R_con Q2 (by decide +kernel) rfl (by decide)
theorem e2_17 {ls : zL} {st : List Value} {w : zW} {x y : Int32} : Rv 2 17 ls (.int y :: .int x :: st) w = Rv 2 18 ls (.int (x + y) :: st) w := R_next Q2 (by decide +kernel) rfl
theorem e2_18 {ls : zL} {st : List Value} {w : zW} {x : Int32} {a : Nat} : Rv 2 18 ls (.int x :: .ref a :: st) w = pF w a 0 1 (.int x) fun w' => Rv 2 21 ls st w' := R_pF (z := 243) Q2 (by decide +kernel) rfl ⟨by decide, rfl, Or.inl rfl⟩
theorem e2_21 {ls : zL} {st : List Value} {w : zW} : Rv 2 21 ls st w = ldA ls 0 fun x => Rv 2 22 ls (x :: st) w := R_ldA Q2 (by decide +kernel) rfl
theorem e2_22 {ls : zL} {st : List Value} {w : zW} {a : Nat} : Rv 2 22 ls (.ref a :: st) w = gF w a 0 1 fun v => Rv 2 25 ls (v :: st) w := R_gF (z := 243) Q2 (by decide +kernel) rfl
theorem e2_25 {ls : zL} {w : zW} {x : Int32} : Rv 2 25 ls [.int x] w = some (.inl (some (.int x)), w) := R_retI Q2 (by decide +kernel) rfl
/-! MasterPins$CommandText.empty -/
theorem e3_0 {ls : zL} {st : List Value} {w : zW} : Rv 3 0 ls st w = ldA ls 0 fun x => Rv 3 1 ls (x :: st) w := R_ldA Q3 (by decide +kernel) rfl
theorem e3_1 {ls : zL} {st : List Value} {w : zW} {a : Nat} : Rv 3 1 ls (.ref a :: st) w = gF w a 0 1 fun v => Rv 3 4 ls (v :: st) w := R_gF (z := 243) Q3 (by decide +kernel) rfl
theorem e3_4 {ls : zL} {st : List Value} {w : zW} {x : Int32} : Rv 3 4 ls (.int x :: st) w = lst ls 1 (some (.int x)) fun l => Rv 3 5 l st w := R_st Q3 (by decide +kernel) rfl
theorem e3_5 {ls : zL} {st : List Value} {w : zW} : Rv 3 5 ls st w = ldA ls 0 fun x => Rv 3 6 ls (x :: st) w := R_ldA Q3 (by decide +kernel) rfl
theorem e3_6 {ls : zL} {st : List Value} {w : zW} : Rv 3 6 ls st w = Rv 3 7 ls (.int 0 :: st) w := R_con Q3 (by decide +kernel) rfl (by decide)
theorem e3_7 {ls : zL} {st : List Value} {w : zW} {x : Int32} {a : Nat} : Rv 3 7 ls (.int x :: .ref a :: st) w = pF w a 0 1 (.int x) fun w' => Rv 3 10 ls st w' := R_pF (z := 243) Q3 (by decide +kernel) rfl ⟨by decide, rfl, Or.inl rfl⟩
theorem e3_10 {ls : zL} {st : List Value} {w : zW} : Rv 3 10 ls st w = ldI ls 1 fun x => Rv 3 11 ls (.int x :: st) w := R_ldI Q3 (by decide +kernel) rfl
theorem e3_11 {ls : zL} {w : zW} {x : Int32} : Rv 3 11 ls [.int x] w = some (.inl (some (.int x)), w) := R_retI Q3 (by decide +kernel) rfl
/-! MasterPins$CommandText.goToStart -/
theorem e4_0 {ls : zL} {st : List Value} {w : zW} : Rv 4 0 ls st w = ldA ls 0 fun x => Rv 4 1 ls (x :: st) w := R_ldA Q4 (by decide +kernel) rfl
theorem e4_1 {ls : zL} {st : List Value} {w : zW} : Rv 4 1 ls st w = Rv 4 2 ls (.int 0 :: st) w := R_con Q4 (by decide +kernel) rfl (by decide)
theorem e4_2 {ls : zL} {st : List Value} {w : zW} {x : Int32} {a : Nat} : Rv 4 2 ls (.int x :: .ref a :: st) w = pF w a 0 2 (.int x) fun w' => Rv 4 5 ls st w' := R_pF (z := 245) Q4 (by decide +kernel) rfl ⟨by decide, rfl, Or.inl rfl⟩
theorem e4_5 {ls : zL} {w : zW} : Rv 4 5 ls [] w = some (.inl none, w) := R_retV Q4 (by decide +kernel) rfl
/-! MasterPins$CommandText.fault -/
theorem e5_0 {ls : zL} {st : List Value} {w : zW} : Rv 5 0 ls st w = ldA ls 0 fun x => Rv 5 1 ls (x :: st) w := R_ldA Q5 (by decide +kernel) rfl
theorem e5_1 {ls : zL} {w : zW} {a0 : Nat} : Rv 5 1 ls [.ref a0] w = hO w a0 0 (cal (Rv 4 0 [some (.ref a0)] [] w) (fun v w' => Rv 5 4 ls (vts v []) w') (xnone)) := R_calV (z := 441) (r := []) Q5 (by decide +kernel) rfl rfl Q4 rfl rfl rfl
theorem e5_4 {ls : zL} {st : List Value} {w : zW} : Rv 5 4 ls st w = Rv 5 5 ls (.int 0 :: st) w := R_con Q5 (by decide +kernel) rfl (by decide)
theorem e5_5 {ls : zL} {st : List Value} {w : zW} {x : Int32} : Rv 5 5 ls (.int x :: st) w = lst ls 1 (some (.int x)) fun l => Rv 5 6 l st w := R_st Q5 (by decide +kernel) rfl
theorem h5_6 {ls : zL} {st : List Value} {w : zW} : Rv 5 6 ls st w = ldI ls 1 fun x => Rv 5 7 ls (.int x :: st) w := R_ldI Q5 (by decide +kernel) rfl
theorem e5_7 {ls : zL} {st : List Value} {w : zW} : Rv 5 7 ls st w = Rv 5 10 ls (.int 150 :: st) w := R_con Q5 (by decide +kernel) rfl (by decide)
theorem e5_10 {ls : zL} {st : List Value} {w : zW} {x y : Int32} : Rv 5 10 ls (.int y :: .int x :: st) w = if y < x then Rv 5 48 ls st w else Rv 5 13 ls st w := R_figt Q5 (by decide +kernel) rfl rfl
theorem e5_13 {ls : zL} {st : List Value} {w : zW} : Rv 5 13 ls st w = ldA ls 0 fun x => Rv 5 14 ls (x :: st) w := R_ldA Q5 (by decide +kernel) rfl
theorem e5_14 {ls : zL} {w : zW} {a0 : Nat} : Rv 5 14 ls [.ref a0] w = hO w a0 0 (cal (Rv 12 0 [some (.ref a0)] [] w) (fun v w' => Rv 5 17 ls (vts v []) w') (xnone)) := R_calV (z := 445) (r := []) Q5 (by decide +kernel) rfl rfl Q12 rfl rfl rfl
theorem e5_17 {ls : zL} {st : List Value} {w : zW} : Rv 5 17 ls st w = ldA ls 0 fun x => Rv 5 18 ls (x :: st) w := R_ldA Q5 (by decide +kernel) rfl
theorem e5_18 {ls : zL} {st : List Value} {w : zW} {a : Nat} : Rv 5 18 ls (.ref a :: st) w = gF w a 0 2 fun v => Rv 5 21 ls (v :: st) w := R_gF (z := 245) Q5 (by decide +kernel) rfl
theorem e5_21 {ls : zL} {st : List Value} {w : zW} : Rv 5 21 ls st w = ldA ls 0 fun x => Rv 5 22 ls (x :: st) w := R_ldA Q5 (by decide +kernel) rfl
theorem e5_22 {ls : zL} {st : List Value} {w : zW} {a : Nat} : Rv 5 22 ls (.ref a :: st) w = gF w a 0 1 fun v => Rv 5 25 ls (v :: st) w := R_gF (z := 243) Q5 (by decide +kernel) rfl
theorem e5_25 {ls : zL} {st : List Value} {w : zW} {x y : Int32} : Rv 5 25 ls (.int y :: .int x :: st) w = if x < y then Rv 5 30 ls st w else Rv 5 28 ls st w := R_filt Q5 (by decide +kernel) rfl rfl
theorem e5_28 {ls : zL} {st : List Value} {w : zW} : Rv 5 28 ls st w = Rv 5 29 ls (.int (-1) :: st) w := R_con Q5 (by decide +kernel) rfl (by decide)
theorem e5_29 {ls : zL} {w : zW} {x : Int32} : Rv 5 29 ls [.int x] w = some (.inl (some (.int x)), w) := R_retI Q5 (by decide +kernel) rfl
theorem e5_30 {ls : zL} {st : List Value} {w : zW} : Rv 5 30 ls st w = ldA ls 0 fun x => Rv 5 31 ls (x :: st) w := R_ldA Q5 (by decide +kernel) rfl
theorem e5_31 {ls : zL} {w : zW} {a0 : Nat} : Rv 5 31 ls [.ref a0] w = hO w a0 0 (cal (Rv 7 0 [some (.ref a0), none] [] w) (fun v w' => Rv 5 34 ls (vts v []) w') (xnone)) := R_calV (z := 449) (r := []) Q5 (by decide +kernel) rfl rfl Q7 rfl rfl rfl
theorem e5_34 {ls : zL} {st : List Value} {w : zW} {x : Int32} : Rv 5 34 ls (.int x :: st) w = lst ls 2 (some (.int x)) fun l => Rv 5 35 l st w := R_st Q5 (by decide +kernel) rfl
theorem e5_35 {ls : zL} {st : List Value} {w : zW} : Rv 5 35 ls st w = ldI ls 2 fun x => Rv 5 36 ls (.int x :: st) w := R_ldI Q5 (by decide +kernel) rfl
theorem e5_36 {ls : zL} {st : List Value} {w : zW} : Rv 5 36 ls st w = Rv 5 37 ls (.int (-1) :: st) w := R_con Q5 (by decide +kernel) rfl (by decide)
theorem e5_37 {ls : zL} {st : List Value} {w : zW} {x y : Int32} : Rv 5 37 ls (.int y :: .int x :: st) w = if x = y then Rv 5 42 ls st w else Rv 5 40 ls st w := R_fieq Q5 (by decide +kernel) rfl rfl
theorem e5_40 {ls : zL} {st : List Value} {w : zW} : Rv 5 40 ls st w = ldI ls 2 fun x => Rv 5 41 ls (.int x :: st) w := R_ldI Q5 (by decide +kernel) rfl
theorem e5_41 {ls : zL} {w : zW} {x : Int32} : Rv 5 41 ls [.int x] w = some (.inl (some (.int x)), w) := R_retI Q5 (by decide +kernel) rfl
theorem e5_42 {ls : zL} {st : List Value} {w : zW} : Rv 5 42 ls st w = ldI ls 1 fun x => lst ls 1 (some (.int (x + 1))) fun l => Rv 5 45 l st w := R_iinc Q5 (by decide +kernel) (by decide)
theorem e5_45 {ls : zL} {st : List Value} {w : zW} : Rv 5 45 ls st w = Rv 5 6 ls st w := R_go Q5 (by decide +kernel) rfl rfl
theorem e5_48 {ls : zL} {st : List Value} {w : zW} : Rv 5 48 ls st w = Rv 5 49 ls (.int (-1) :: st) w := R_con Q5 (by decide +kernel) rfl (by decide)
theorem e5_49 {ls : zL} {w : zW} {x : Int32} : Rv 5 49 ls [.int x] w = some (.inl (some (.int x)), w) := R_retI Q5 (by decide +kernel) rfl
/-! MasterPins$CommandText.nextWord -/
theorem e6_0 {ls : zL} {st : List Value} {w : zW} : Rv 6 0 ls st w = ldA ls 0 fun x => Rv 6 1 ls (x :: st) w := R_ldA Q6 (by decide +kernel) rfl
theorem e6_1 {ls : zL} {w : zW} {a0 : Nat} : Rv 6 1 ls [.ref a0] w = hO w a0 0 (cal (Rv 12 0 [some (.ref a0)] [] w) (fun v w' => Rv 6 4 ls (vts v []) w') (xnone)) := R_calV (z := 445) (r := []) Q6 (by decide +kernel) rfl rfl Q12 rfl rfl rfl
theorem e6_4 {ls : zL} {st : List Value} {w : zW} : Rv 6 4 ls st w = ldA ls 0 fun x => Rv 6 5 ls (x :: st) w := R_ldA Q6 (by decide +kernel) rfl
theorem e6_5 {ls : zL} {st : List Value} {w : zW} {a : Nat} : Rv 6 5 ls (.ref a :: st) w = gF w a 0 2 fun v => Rv 6 8 ls (v :: st) w := R_gF (z := 245) Q6 (by decide +kernel) rfl
theorem e6_8 {ls : zL} {st : List Value} {w : zW} : Rv 6 8 ls st w = ldA ls 0 fun x => Rv 6 9 ls (x :: st) w := R_ldA Q6 (by decide +kernel) rfl
theorem e6_9 {ls : zL} {st : List Value} {w : zW} {a : Nat} : Rv 6 9 ls (.ref a :: st) w = gF w a 0 1 fun v => Rv 6 12 ls (v :: st) w := R_gF (z := 243) Q6 (by decide +kernel) rfl
theorem e6_12 {ls : zL} {st : List Value} {w : zW} {x y : Int32} : Rv 6 12 ls (.int y :: .int x :: st) w = if x < y then Rv 6 15 ls st w else Rv 6 23 ls st w := R_fige Q6 (by decide +kernel) rfl rfl
theorem e6_15 {ls : zL} {st : List Value} {w : zW} : Rv 6 15 ls st w = ldA ls 0 fun x => Rv 6 16 ls (x :: st) w := R_ldA Q6 (by decide +kernel) rfl
theorem e6_16 {ls : zL} {w : zW} {a0 : Nat} : Rv 6 16 ls [.ref a0] w = hO w a0 0 (cal (Rv 7 0 [some (.ref a0), none] [] w) (fun v w' => Rv 6 19 ls (vts v []) w') (xnone)) := R_calV (z := 449) (r := []) Q6 (by decide +kernel) rfl rfl Q7 rfl rfl rfl
theorem e6_19 {ls : zL} {st : List Value} {w : zW} : Rv 6 19 ls st w = Rv 6 20 ls (.int (-1) :: st) w := R_con Q6 (by decide +kernel) rfl (by decide)
theorem e6_20 {ls : zL} {st : List Value} {w : zW} {x y : Int32} : Rv 6 20 ls (.int y :: .int x :: st) w = if x = y then Rv 6 25 ls st w else Rv 6 23 ls st w := R_fieq Q6 (by decide +kernel) rfl rfl
theorem e6_23 {ls : zL} {st : List Value} {w : zW} : Rv 6 23 ls st w = Rv 6 24 ls (.null :: st) w := R_next Q6 (by decide +kernel) rfl
theorem e6_24 {ls : zL} {w : zW} {a : Nat} : Rv 6 24 ls [.ref a] w = some (.inl (some (.ref a)), w) := R_retA Q6 (by decide +kernel) rfl
theorem e6_24n {ls : zL} {w : zW} : Rv 6 24 ls [.null] w = some (.inl (some .null), w) := R_retN Q6 (by decide +kernel) rfl
theorem e6_25 {ls : zL} {st : List Value} {w : zW} : Rv 6 25 ls st w = ldA ls 0 fun x => Rv 6 26 ls (x :: st) w := R_ldA Q6 (by decide +kernel) rfl
theorem e6_26 {ls : zL} {st : List Value} {w : zW} {a : Nat} : Rv 6 26 ls (.ref a :: st) w = gF w a 0 3 fun v => Rv 6 29 ls (v :: st) w := R_gF (z := 246) Q6 (by decide +kernel) rfl
theorem e6_29 {ls : zL} {w : zW} {a : Nat} : Rv 6 29 ls [.ref a] w = some (.inl (some (.ref a)), w) := R_retA Q6 (by decide +kernel) rfl
theorem e6_29n {ls : zL} {w : zW} : Rv 6 29 ls [.null] w = some (.inl (some .null), w) := R_retN Q6 (by decide +kernel) rfl
/-! MasterPins$CommandText.readCommand -/
theorem e7_0 {ls : zL} {st : List Value} {w : zW} : Rv 7 0 ls st w = ldA ls 0 fun x => Rv 7 1 ls (x :: st) w := R_ldA Q7 (by decide +kernel) rfl
theorem e7_1 {ls : zL} {st : List Value} {w : zW} {a : Nat} : Rv 7 1 ls (.ref a :: st) w = gF w a 0 2 fun v => Rv 7 4 ls (v :: st) w := R_gF (z := 245) Q7 (by decide +kernel) rfl
theorem e7_4 {ls : zL} {st : List Value} {w : zW} {x : Int32} : Rv 7 4 ls (.int x :: st) w = lst ls 1 (some (.int x)) fun l => Rv 7 5 l st w := R_st Q7 (by decide +kernel) rfl
theorem e7_5 {ls : zL} {st : List Value} {w : zW} : Rv 7 5 ls st w = ldA ls 0 fun x => Rv 7 6 ls (x :: st) w := R_ldA Q7 (by decide +kernel) rfl
theorem e7_6 {ls : zL} {w : zW} {a0 : Nat} : Rv 7 6 ls [.ref a0] w = hO w a0 0 (cal (Rv 13 0 [some (.ref a0)] [] w) (fun v w' => Rv 7 9 ls (vts v []) w') (xnone)) := R_calV (z := 453) (r := []) Q7 (by decide +kernel) rfl rfl Q13 rfl rfl rfl
theorem e7_9 {ls : zL} {st : List Value} {w : zW} : Rv 7 9 ls st w = ldA ls 0 fun x => Rv 7 10 ls (x :: st) w := R_ldA Q7 (by decide +kernel) rfl
theorem e7_10 {ls : zL} {st : List Value} {w : zW} : Rv 7 10 ls st w = ldA ls 0 fun x => Rv 7 11 ls (x :: st) w := R_ldA Q7 (by decide +kernel) rfl
theorem e7_11 {ls : zL} {st : List Value} {w : zW} : Rv 7 11 ls st w = ldI ls 1 fun x => Rv 7 12 ls (.int x :: st) w := R_ldI Q7 (by decide +kernel) rfl
theorem e7_12 {ls : zL} {st : List Value} {w : zW} : Rv 7 12 ls st w = ldA ls 0 fun x => Rv 7 13 ls (x :: st) w := R_ldA Q7 (by decide +kernel) rfl
theorem e7_13 {ls : zL} {st : List Value} {w : zW} {a : Nat} : Rv 7 13 ls (.ref a :: st) w = gF w a 0 2 fun v => Rv 7 16 ls (v :: st) w := R_gF (z := 245) Q7 (by decide +kernel) rfl
theorem e7_16 {ls : zL} {w : zW} {n1 : Int32} {n2 : Int32} {a0 : Nat} {a3 : Nat} : Rv 7 16 ls [.int n1, .int n2, .ref a0, .ref a3] w = hO w a0 0 (cal (Rv 14 0 [some (.ref a0), some (.int n2), some (.int n1), none, none, none, none] [] w) (fun v w' => Rv 7 19 ls (vts v [.ref a3]) w') (xnone)) := R_calV (z := 457) (r := [.ref a3]) Q7 (by decide +kernel) rfl rfl Q14 rfl rfl rfl
theorem e7_19 {ls : zL} {st : List Value} {w : zW} {x : Nat} {a : Nat} : Rv 7 19 ls (.ref x :: .ref a :: st) w = pF w a 0 3 (.ref x) fun w' => Rv 7 22 ls st w' := R_pF (z := 246) Q7 (by decide +kernel) rfl ⟨by decide, rfl, Or.inl rfl⟩
theorem e7_19n {ls : zL} {st : List Value} {w : zW}  {a : Nat} : Rv 7 19 ls (.null :: .ref a :: st) w = pF w a 0 3 (.null) fun w' => Rv 7 22 ls st w' := R_pF (z := 246) Q7 (by decide +kernel) rfl ⟨by decide, rfl, Or.inl rfl⟩
theorem e7_22 {ls : zL} {st : List Value} {w : zW} : Rv 7 22 ls st w = ldA ls 0 fun x => Rv 7 23 ls (x :: st) w := R_ldA Q7 (by decide +kernel) rfl
theorem e7_23 {ls : zL} {st : List Value} {w : zW} {a : Nat} : Rv 7 23 ls (.ref a :: st) w = gF w a 0 3 fun v => Rv 7 26 ls (v :: st) w := R_gF (z := 246) Q7 (by decide +kernel) rfl
theorem e7_26 {ls : zL} {st : List Value} {w : zW} {a : Nat} : Rv 7 26 ls (.ref a :: st) w = Rv 7 31 ls st w := R_nnT Q7 (by decide +kernel) rfl rfl
theorem e7_26n {ls : zL} {st : List Value} {w : zW} : Rv 7 26 ls (.null :: st) w = Rv 7 29 ls st w := R_nnF (off := 5) Q7 (by decide +kernel) rfl rfl
theorem e7_29 {ls : zL} {st : List Value} {w : zW} : Rv 7 29 ls st w = ldI ls 1 fun x => Rv 7 30 ls (.int x :: st) w := R_ldI Q7 (by decide +kernel) rfl
theorem e7_30 {ls : zL} {w : zW} {x : Int32} : Rv 7 30 ls [.int x] w = some (.inl (some (.int x)), w) := R_retI Q7 (by decide +kernel) rfl
theorem e7_31 {ls : zL} {st : List Value} {w : zW} : Rv 7 31 ls st w = ldA ls 0 fun x => Rv 7 32 ls (x :: st) w := R_ldA Q7 (by decide +kernel) rfl
theorem e7_32 {ls : zL} {st : List Value} {w : zW} : Rv 7 32 ls st w = ldA ls 0 fun x => Rv 7 33 ls (x :: st) w := R_ldA Q7 (by decide +kernel) rfl
theorem e7_33 {ls : zL} {st : List Value} {w : zW} {a : Nat} : Rv 7 33 ls (.ref a :: st) w = gF w a 0 3 fun v => Rv 7 36 ls (v :: st) w := R_gF (z := 246) Q7 (by decide +kernel) rfl
theorem e7_36 {ls : zL} {st : List Value} {w : zW} {a : Nat} : Rv 7 36 ls (.ref a :: st) w = gF w a 100 1 fun v => Rv 7 39 ls (v :: st) w := R_gF (z := 1472) Q7 (by decide +kernel) rfl
theorem e7_39 {ls : zL} {w : zW} {n1 : Int32} {a0 : Nat} : Rv 7 39 ls [.int n1, .ref a0] w = hO w a0 0 (cal (Rv 8 0 [some (.ref a0), some (.int n1)] [] w) (fun v w' => Rv 7 42 ls (vts v []) w') (xnone)) := R_calV (z := 515) (r := []) Q7 (by decide +kernel) rfl rfl Q8 rfl rfl rfl
theorem e7_42 {ls : zL} {st : List Value} {w : zW} {x : Int32} : Rv 7 42 ls (.int x :: st) w = if x = 0 then Rv 7 45 ls st w else Rv 7 50 ls st w := R_f0ne Q7 (by decide +kernel) rfl rfl
theorem e7_45 {ls : zL} {st : List Value} {w : zW} : Rv 7 45 ls st w = ldA ls 0 fun x => Rv 7 46 ls (x :: st) w := R_ldA Q7 (by decide +kernel) rfl
theorem e7_46 {ls : zL} {st : List Value} {w : zW} {a : Nat} : Rv 7 46 ls (.ref a :: st) w = gF w a 0 2 fun v => Rv 7 49 ls (v :: st) w := R_gF (z := 245) Q7 (by decide +kernel) rfl
theorem e7_49 {ls : zL} {w : zW} {x : Int32} : Rv 7 49 ls [.int x] w = some (.inl (some (.int x)), w) := R_retI Q7 (by decide +kernel) rfl
theorem e7_50 {ls : zL} {st : List Value} {w : zW} : Rv 7 50 ls st w = ldA ls 0 fun x => Rv 7 51 ls (x :: st) w := R_ldA Q7 (by decide +kernel) rfl
theorem e7_51 {ls : zL} {w : zW} {a0 : Nat} : Rv 7 51 ls [.ref a0] w = hO w a0 0 (cal (Rv 12 0 [some (.ref a0)] [] w) (fun v w' => Rv 7 54 ls (vts v []) w') (xnone)) := R_calV (z := 445) (r := []) Q7 (by decide +kernel) rfl rfl Q12 rfl rfl rfl
theorem e7_54 {ls : zL} {st : List Value} {w : zW} : Rv 7 54 ls st w = ldA ls 0 fun x => Rv 7 55 ls (x :: st) w := R_ldA Q7 (by decide +kernel) rfl
theorem e7_55 {ls : zL} {w : zW} {a0 : Nat} : Rv 7 55 ls [.ref a0] w = hO w a0 0 (cal (Rv 10 0 [some (.ref a0)] [] w) (fun v w' => Rv 7 58 ls (vts v []) w') (xnone)) := R_calV (z := 523) (r := []) Q7 (by decide +kernel) rfl rfl Q10 rfl rfl rfl
theorem e7_58 {ls : zL} {st : List Value} {w : zW} : Rv 7 58 ls st w = Rv 7 60 ls (.int 59 :: st) w := R_con Q7 (by decide +kernel) rfl (by decide)
theorem e7_60 {ls : zL} {st : List Value} {w : zW} {x y : Int32} : Rv 7 60 ls (.int y :: .int x :: st) w = if x = y then Rv 7 68 ls st w else Rv 7 63 ls st w := R_fieq Q7 (by decide +kernel) rfl rfl
theorem e7_63 {ls : zL} {st : List Value} {w : zW} : Rv 7 63 ls st w = ldA ls 0 fun x => Rv 7 64 ls (x :: st) w := R_ldA Q7 (by decide +kernel) rfl
theorem e7_64 {ls : zL} {st : List Value} {w : zW} {a : Nat} : Rv 7 64 ls (.ref a :: st) w = gF w a 0 2 fun v => Rv 7 67 ls (v :: st) w := R_gF (z := 245) Q7 (by decide +kernel) rfl
theorem e7_67 {ls : zL} {w : zW} {x : Int32} : Rv 7 67 ls [.int x] w = some (.inl (some (.int x)), w) := R_retI Q7 (by decide +kernel) rfl
theorem e7_68 {ls : zL} {st : List Value} {w : zW} : Rv 7 68 ls st w = ldA ls 0 fun x => Rv 7 69 ls (x :: st) w := R_ldA Q7 (by decide +kernel) rfl
theorem e7_69 {ls : zL} {st : List Value} {w : zW} {x : Nat} : Rv 7 69 ls (.ref x :: st) w = Rv 7 70 ls (.ref x :: .ref x :: st) w := R_next Q7 (by decide +kernel) rfl
theorem e7_70 {ls : zL} {st : List Value} {w : zW} {a : Nat} : Rv 7 70 ls (.ref a :: st) w = gF w a 0 2 fun v => Rv 7 73 ls (v :: st) w := R_gF (z := 245) Q7 (by decide +kernel) rfl
theorem e7_73 {ls : zL} {st : List Value} {w : zW} : Rv 7 73 ls st w = Rv 7 74 ls (.int 1 :: st) w := R_con Q7 (by decide +kernel) rfl (by decide)
theorem e7_74 {ls : zL} {st : List Value} {w : zW} {x y : Int32} : Rv 7 74 ls (.int y :: .int x :: st) w = Rv 7 75 ls (.int (x + y) :: st) w := R_next Q7 (by decide +kernel) rfl
theorem e7_75 {ls : zL} {st : List Value} {w : zW} {x : Int32} {a : Nat} : Rv 7 75 ls (.int x :: .ref a :: st) w = pF w a 0 2 (.int x) fun w' => Rv 7 78 ls st w' := R_pF (z := 245) Q7 (by decide +kernel) rfl ⟨by decide, rfl, Or.inl rfl⟩
theorem e7_78 {ls : zL} {st : List Value} {w : zW} : Rv 7 78 ls st w = Rv 7 79 ls (.int (-1) :: st) w := R_con Q7 (by decide +kernel) rfl (by decide)
theorem e7_79 {ls : zL} {w : zW} {x : Int32} : Rv 7 79 ls [.int x] w = some (.inl (some (.int x)), w) := R_retI Q7 (by decide +kernel) rfl
/-! MasterPins$CommandText.readNumbers -/
theorem e8_0 {ls : zL} {st : List Value} {w : zW} : Rv 8 0 ls st w = ldA ls 0 fun x => Rv 8 1 ls (x :: st) w := R_ldA Q8 (by decide +kernel) rfl
theorem e8_1 {ls : zL} {st : List Value} {w : zW} : Rv 8 1 ls st w = ldI ls 1 fun x => Rv 8 2 ls (.int x :: st) w := R_ldI Q8 (by decide +kernel) rfl
theorem e8_2 {ls : zL} {st : List Value} {w : zW} {x : Int32} : Rv 8 2 ls (.int x :: st) w = if 0 < x then Rv 8 5 ls st w else Rv 8 12 ls st w := R_f0le Q8 (by decide +kernel) rfl rfl
theorem e8_5 {ls : zL} {st : List Value} {w : zW} : Rv 8 5 ls st w = ldA ls 0 fun x => Rv 8 6 ls (x :: st) w := R_ldA Q8 (by decide +kernel) rfl
theorem e8_6 {ls : zL} {w : zW} {a0 : Nat} {a1 : Nat} : Rv 8 6 ls [.ref a0, .ref a1] w = hO w a0 0 (cal (Rv 9 0 [some (.ref a0), none, none, none] [] w) (fun v w' => Rv 8 9 ls (vts v [.ref a1]) w') (xnone)) := R_calV (z := 519) (r := [.ref a1]) Q8 (by decide +kernel) rfl rfl Q9 rfl rfl rfl
theorem e8_9 {ls : zL} {st : List Value} {w : zW} : Rv 8 9 ls st w = Rv 8 13 ls st w := R_go Q8 (by decide +kernel) rfl rfl
theorem e8_12 {ls : zL} {st : List Value} {w : zW} : Rv 8 12 ls st w = Rv 8 13 ls (.int 0 :: st) w := R_con Q8 (by decide +kernel) rfl (by decide)
theorem e8_13 {ls : zL} {st : List Value} {w : zW} {x : Int32} {a : Nat} : Rv 8 13 ls (.int x :: .ref a :: st) w = pF w a 0 4 (.int x) fun w' => Rv 8 16 ls st w' := R_pF (z := 247) Q8 (by decide +kernel) rfl ⟨by decide, rfl, Or.inl rfl⟩
theorem e8_16 {ls : zL} {st : List Value} {w : zW} : Rv 8 16 ls st w = ldA ls 0 fun x => Rv 8 17 ls (x :: st) w := R_ldA Q8 (by decide +kernel) rfl
theorem e8_17 {ls : zL} {st : List Value} {w : zW} {a : Nat} : Rv 8 17 ls (.ref a :: st) w = gF w a 0 4 fun v => Rv 8 20 ls (v :: st) w := R_gF (z := 247) Q8 (by decide +kernel) rfl
theorem e8_20 {ls : zL} {st : List Value} {w : zW} : Rv 8 20 ls st w = Rv 8 21 ls (.int (-1) :: st) w := R_con Q8 (by decide +kernel) rfl (by decide)
theorem e8_21 {ls : zL} {st : List Value} {w : zW} {x y : Int32} : Rv 8 21 ls (.int y :: .int x :: st) w = if x = y then Rv 8 24 ls st w else Rv 8 26 ls st w := R_fine Q8 (by decide +kernel) rfl rfl
theorem e8_24 {ls : zL} {st : List Value} {w : zW} : Rv 8 24 ls st w = Rv 8 25 ls (.int 0 :: st) w := R_con Q8 (by decide +kernel) rfl (by decide)
theorem e8_25 {ls : zL} {w : zW} {x : Int32} : Rv 8 25 ls [.int x] w = if x = 0 ∨ x = 1 then some (.inl (some (.int x)), w) else none := R_retZ Q8 (by decide +kernel) rfl
theorem e8_26 {ls : zL} {st : List Value} {w : zW} : Rv 8 26 ls st w = ldA ls 0 fun x => Rv 8 27 ls (x :: st) w := R_ldA Q8 (by decide +kernel) rfl
theorem e8_27 {ls : zL} {st : List Value} {w : zW} : Rv 8 27 ls st w = ldI ls 1 fun x => Rv 8 28 ls (.int x :: st) w := R_ldI Q8 (by decide +kernel) rfl
theorem e8_28 {ls : zL} {st : List Value} {w : zW} : Rv 8 28 ls st w = Rv 8 29 ls (.int 1 :: st) w := R_con Q8 (by decide +kernel) rfl (by decide)
theorem e8_29 {ls : zL} {st : List Value} {w : zW} {x y : Int32} : Rv 8 29 ls (.int y :: .int x :: st) w = if y < x then Rv 8 32 ls st w else Rv 8 39 ls st w := R_file Q8 (by decide +kernel) rfl rfl
theorem e8_32 {ls : zL} {st : List Value} {w : zW} : Rv 8 32 ls st w = ldA ls 0 fun x => Rv 8 33 ls (x :: st) w := R_ldA Q8 (by decide +kernel) rfl
theorem e8_33 {ls : zL} {w : zW} {a0 : Nat} {a1 : Nat} : Rv 8 33 ls [.ref a0, .ref a1] w = hO w a0 0 (cal (Rv 9 0 [some (.ref a0), none, none, none] [] w) (fun v w' => Rv 8 36 ls (vts v [.ref a1]) w') (xnone)) := R_calV (z := 519) (r := [.ref a1]) Q8 (by decide +kernel) rfl rfl Q9 rfl rfl rfl
theorem e8_36 {ls : zL} {st : List Value} {w : zW} : Rv 8 36 ls st w = Rv 8 40 ls st w := R_go Q8 (by decide +kernel) rfl rfl
theorem e8_39 {ls : zL} {st : List Value} {w : zW} : Rv 8 39 ls st w = Rv 8 40 ls (.int 0 :: st) w := R_con Q8 (by decide +kernel) rfl (by decide)
theorem e8_40 {ls : zL} {st : List Value} {w : zW} {x : Int32} {a : Nat} : Rv 8 40 ls (.int x :: .ref a :: st) w = pF w a 0 5 (.int x) fun w' => Rv 8 43 ls st w' := R_pF (z := 249) Q8 (by decide +kernel) rfl ⟨by decide, rfl, Or.inl rfl⟩
theorem e8_43 {ls : zL} {st : List Value} {w : zW} : Rv 8 43 ls st w = ldA ls 0 fun x => Rv 8 44 ls (x :: st) w := R_ldA Q8 (by decide +kernel) rfl
theorem e8_44 {ls : zL} {st : List Value} {w : zW} {a : Nat} : Rv 8 44 ls (.ref a :: st) w = gF w a 0 5 fun v => Rv 8 47 ls (v :: st) w := R_gF (z := 249) Q8 (by decide +kernel) rfl
theorem e8_47 {ls : zL} {st : List Value} {w : zW} : Rv 8 47 ls st w = Rv 8 48 ls (.int (-1) :: st) w := R_con Q8 (by decide +kernel) rfl (by decide)
theorem e8_48 {ls : zL} {st : List Value} {w : zW} {x y : Int32} : Rv 8 48 ls (.int y :: .int x :: st) w = if x = y then Rv 8 55 ls st w else Rv 8 51 ls st w := R_fieq Q8 (by decide +kernel) rfl rfl
theorem e8_51 {ls : zL} {st : List Value} {w : zW} : Rv 8 51 ls st w = Rv 8 52 ls (.int 1 :: st) w := R_con Q8 (by decide +kernel) rfl (by decide)
theorem e8_52 {ls : zL} {st : List Value} {w : zW} : Rv 8 52 ls st w = Rv 8 56 ls st w := R_go Q8 (by decide +kernel) rfl rfl
theorem e8_55 {ls : zL} {st : List Value} {w : zW} : Rv 8 55 ls st w = Rv 8 56 ls (.int 0 :: st) w := R_con Q8 (by decide +kernel) rfl (by decide)
theorem e8_56 {ls : zL} {w : zW} {x : Int32} : Rv 8 56 ls [.int x] w = if x = 0 ∨ x = 1 then some (.inl (some (.int x)), w) else none := R_retZ Q8 (by decide +kernel) rfl
/-! MasterPins$CommandText.readNumber -/
theorem e9_0 {ls : zL} {st : List Value} {w : zW} : Rv 9 0 ls st w = ldA ls 0 fun x => Rv 9 1 ls (x :: st) w := R_ldA Q9 (by decide +kernel) rfl
theorem e9_1 {ls : zL} {st : List Value} {w : zW} {a : Nat} : Rv 9 1 ls (.ref a :: st) w = gF w a 0 2 fun v => Rv 9 4 ls (v :: st) w := R_gF (z := 245) Q9 (by decide +kernel) rfl
theorem e9_4 {ls : zL} {st : List Value} {w : zW} {x : Int32} : Rv 9 4 ls (.int x :: st) w = lst ls 1 (some (.int x)) fun l => Rv 9 5 l st w := R_st Q9 (by decide +kernel) rfl
theorem e9_5 {ls : zL} {st : List Value} {w : zW} : Rv 9 5 ls st w = ldA ls 0 fun x => Rv 9 6 ls (x :: st) w := R_ldA Q9 (by decide +kernel) rfl
theorem e9_6 {ls : zL} {w : zW} {a0 : Nat} : Rv 9 6 ls [.ref a0] w = hO w a0 0 (cal (Rv 12 0 [some (.ref a0)] [] w) (fun v w' => Rv 9 9 ls (vts v []) w') (xnone)) := R_calV (z := 445) (r := []) Q9 (by decide +kernel) rfl rfl Q12 rfl rfl rfl
theorem e9_9 {ls : zL} {st : List Value} {w : zW} : Rv 9 9 ls st w = ldA ls 0 fun x => Rv 9 10 ls (x :: st) w := R_ldA Q9 (by decide +kernel) rfl
theorem e9_10 {ls : zL} {st : List Value} {w : zW} {a : Nat} : Rv 9 10 ls (.ref a :: st) w = gF w a 0 2 fun v => Rv 9 13 ls (v :: st) w := R_gF (z := 245) Q9 (by decide +kernel) rfl
theorem e9_13 {ls : zL} {st : List Value} {w : zW} : Rv 9 13 ls st w = ldI ls 1 fun x => Rv 9 14 ls (.int x :: st) w := R_ldI Q9 (by decide +kernel) rfl
theorem e9_14 {ls : zL} {st : List Value} {w : zW} {x y : Int32} : Rv 9 14 ls (.int y :: .int x :: st) w = if x = y then Rv 9 27 ls st w else Rv 9 17 ls st w := R_fieq Q9 (by decide +kernel) rfl rfl
theorem e9_17 {ls : zL} {st : List Value} {w : zW} : Rv 9 17 ls st w = ldA ls 0 fun x => Rv 9 18 ls (x :: st) w := R_ldA Q9 (by decide +kernel) rfl
theorem e9_18 {ls : zL} {w : zW} {a0 : Nat} : Rv 9 18 ls [.ref a0] w = hO w a0 0 (cal (Rv 10 0 [some (.ref a0)] [] w) (fun v w' => Rv 9 21 ls (vts v []) w') (xnone)) := R_calV (z := 523) (r := []) Q9 (by decide +kernel) rfl rfl Q10 rfl rfl rfl
theorem e9_21 {ls : zL} {w : zW} {n1 : Int32} : Rv 9 21 ls [.int n1] w = cal (Rv 11 0 [some (.int n1)] [] w) (fun v w' => Rv 9 24 ls (vts v []) w') (xnone) := R_calS (z := 527) (kd := 1) (n := 1) Q9 (by decide +kernel) rfl (Or.inl rfl) (Nat.le_of_ble_eq_true rfl) rfl Q11 rfl rfl rfl
theorem e9_24 {ls : zL} {st : List Value} {w : zW} {x : Int32} : Rv 9 24 ls (.int x :: st) w = if x = 0 then Rv 9 27 ls st w else Rv 9 29 ls st w := R_f0ne Q9 (by decide +kernel) rfl rfl
theorem e9_27 {ls : zL} {st : List Value} {w : zW} : Rv 9 27 ls st w = Rv 9 28 ls (.int (-1) :: st) w := R_con Q9 (by decide +kernel) rfl (by decide)
theorem e9_28 {ls : zL} {w : zW} {x : Int32} : Rv 9 28 ls [.int x] w = some (.inl (some (.int x)), w) := R_retI Q9 (by decide +kernel) rfl
theorem e9_29 {ls : zL} {st : List Value} {w : zW} : Rv 9 29 ls st w = Rv 9 30 ls (.int 0 :: st) w := R_con Q9 (by decide +kernel) rfl (by decide)
theorem e9_30 {ls : zL} {st : List Value} {w : zW} {x : Int32} : Rv 9 30 ls (.int x :: st) w = lst ls 2 (some (.int x)) fun l => Rv 9 31 l st w := R_st Q9 (by decide +kernel) rfl
theorem e9_31 {ls : zL} {st : List Value} {w : zW} : Rv 9 31 ls st w = Rv 9 32 ls (.int 0 :: st) w := R_con Q9 (by decide +kernel) rfl (by decide)
theorem e9_32 {ls : zL} {st : List Value} {w : zW} {x : Int32} : Rv 9 32 ls (.int x :: st) w = lst ls 3 (some (.int x)) fun l => Rv 9 33 l st w := R_st Q9 (by decide +kernel) rfl
theorem h9_33 {ls : zL} {st : List Value} {w : zW} : Rv 9 33 ls st w = ldI ls 3 fun x => Rv 9 34 ls (.int x :: st) w := R_ldI Q9 (by decide +kernel) rfl
theorem e9_34 {ls : zL} {st : List Value} {w : zW} : Rv 9 34 ls st w = Rv 9 35 ls (.int 4 :: st) w := R_con Q9 (by decide +kernel) rfl (by decide)
theorem e9_35 {ls : zL} {st : List Value} {w : zW} {x y : Int32} : Rv 9 35 ls (.int y :: .int x :: st) w = if x < y then Rv 9 38 ls st w else Rv 9 77 ls st w := R_fige Q9 (by decide +kernel) rfl rfl
theorem e9_38 {ls : zL} {st : List Value} {w : zW} : Rv 9 38 ls st w = ldA ls 0 fun x => Rv 9 39 ls (x :: st) w := R_ldA Q9 (by decide +kernel) rfl
theorem e9_39 {ls : zL} {w : zW} {a0 : Nat} : Rv 9 39 ls [.ref a0] w = hO w a0 0 (cal (Rv 10 0 [some (.ref a0)] [] w) (fun v w' => Rv 9 42 ls (vts v []) w') (xnone)) := R_calV (z := 523) (r := []) Q9 (by decide +kernel) rfl rfl Q10 rfl rfl rfl
theorem e9_42 {ls : zL} {w : zW} {n1 : Int32} : Rv 9 42 ls [.int n1] w = cal (Rv 11 0 [some (.int n1)] [] w) (fun v w' => Rv 9 45 ls (vts v []) w') (xnone) := R_calS (z := 527) (kd := 1) (n := 1) Q9 (by decide +kernel) rfl (Or.inl rfl) (Nat.le_of_ble_eq_true rfl) rfl Q11 rfl rfl rfl
theorem e9_45 {ls : zL} {st : List Value} {w : zW} {x : Int32} : Rv 9 45 ls (.int x :: st) w = if x = 0 then Rv 9 77 ls st w else Rv 9 48 ls st w := R_f0eq Q9 (by decide +kernel) rfl rfl
theorem e9_48 {ls : zL} {st : List Value} {w : zW} : Rv 9 48 ls st w = ldI ls 2 fun x => Rv 9 49 ls (.int x :: st) w := R_ldI Q9 (by decide +kernel) rfl
theorem e9_49 {ls : zL} {st : List Value} {w : zW} : Rv 9 49 ls st w = Rv 9 51 ls (.int 10 :: st) w := R_con Q9 (by decide +kernel) rfl (by decide)
theorem e9_51 {ls : zL} {st : List Value} {w : zW} {x y : Int32} : Rv 9 51 ls (.int y :: .int x :: st) w = Rv 9 52 ls (.int (x * y) :: st) w := R_next Q9 (by decide +kernel) rfl
theorem e9_52 {ls : zL} {st : List Value} {w : zW} : Rv 9 52 ls st w = ldA ls 0 fun x => Rv 9 53 ls (x :: st) w := R_ldA Q9 (by decide +kernel) rfl
theorem e9_53 {ls : zL} {w : zW} {a0 : Nat} {n1 : Int32} : Rv 9 53 ls [.ref a0, .int n1] w = hO w a0 0 (cal (Rv 10 0 [some (.ref a0)] [] w) (fun v w' => Rv 9 56 ls (vts v [.int n1]) w') (xnone)) := R_calV (z := 523) (r := [.int n1]) Q9 (by decide +kernel) rfl rfl Q10 rfl rfl rfl
theorem e9_56 {ls : zL} {st : List Value} {w : zW} {x y : Int32} : Rv 9 56 ls (.int y :: .int x :: st) w = Rv 9 57 ls (.int (x + y) :: st) w := R_next Q9 (by decide +kernel) rfl
theorem e9_57 {ls : zL} {st : List Value} {w : zW} : Rv 9 57 ls st w = Rv 9 59 ls (.int 48 :: st) w := R_con Q9 (by decide +kernel) rfl (by decide)
theorem e9_59 {ls : zL} {st : List Value} {w : zW} {x y : Int32} : Rv 9 59 ls (.int y :: .int x :: st) w = Rv 9 60 ls (.int (x - y) :: st) w := R_next Q9 (by decide +kernel) rfl
theorem e9_60 {ls : zL} {st : List Value} {w : zW} {x : Int32} : Rv 9 60 ls (.int x :: st) w = lst ls 2 (some (.int x)) fun l => Rv 9 61 l st w := R_st Q9 (by decide +kernel) rfl
theorem e9_61 {ls : zL} {st : List Value} {w : zW} : Rv 9 61 ls st w = ldA ls 0 fun x => Rv 9 62 ls (x :: st) w := R_ldA Q9 (by decide +kernel) rfl
theorem e9_62 {ls : zL} {st : List Value} {w : zW} {x : Nat} : Rv 9 62 ls (.ref x :: st) w = Rv 9 63 ls (.ref x :: .ref x :: st) w := R_next Q9 (by decide +kernel) rfl
theorem e9_63 {ls : zL} {st : List Value} {w : zW} {a : Nat} : Rv 9 63 ls (.ref a :: st) w = gF w a 0 2 fun v => Rv 9 66 ls (v :: st) w := R_gF (z := 245) Q9 (by decide +kernel) rfl
theorem e9_66 {ls : zL} {st : List Value} {w : zW} : Rv 9 66 ls st w = Rv 9 67 ls (.int 1 :: st) w := R_con Q9 (by decide +kernel) rfl (by decide)
theorem e9_67 {ls : zL} {st : List Value} {w : zW} {x y : Int32} : Rv 9 67 ls (.int y :: .int x :: st) w = Rv 9 68 ls (.int (x + y) :: st) w := R_next Q9 (by decide +kernel) rfl
theorem e9_68 {ls : zL} {st : List Value} {w : zW} {x : Int32} {a : Nat} : Rv 9 68 ls (.int x :: .ref a :: st) w = pF w a 0 2 (.int x) fun w' => Rv 9 71 ls st w' := R_pF (z := 245) Q9 (by decide +kernel) rfl ⟨by decide, rfl, Or.inl rfl⟩
theorem e9_71 {ls : zL} {st : List Value} {w : zW} : Rv 9 71 ls st w = ldI ls 3 fun x => lst ls 3 (some (.int (x + 1))) fun l => Rv 9 74 l st w := R_iinc Q9 (by decide +kernel) (by decide)
theorem e9_74 {ls : zL} {st : List Value} {w : zW} : Rv 9 74 ls st w = Rv 9 33 ls st w := R_go Q9 (by decide +kernel) rfl rfl
theorem e9_77 {ls : zL} {st : List Value} {w : zW} : Rv 9 77 ls st w = ldI ls 2 fun x => Rv 9 78 ls (.int x :: st) w := R_ldI Q9 (by decide +kernel) rfl
theorem e9_78 {ls : zL} {w : zW} {x : Int32} : Rv 9 78 ls [.int x] w = some (.inl (some (.int x)), w) := R_retI Q9 (by decide +kernel) rfl
/-! MasterPins$CommandText.byteHere -/
theorem e10_0 {ls : zL} {st : List Value} {w : zW} : Rv 10 0 ls st w = ldA ls 0 fun x => Rv 10 1 ls (x :: st) w := R_ldA Q10 (by decide +kernel) rfl
theorem e10_1 {ls : zL} {st : List Value} {w : zW} {a : Nat} : Rv 10 1 ls (.ref a :: st) w = gF w a 0 2 fun v => Rv 10 4 ls (v :: st) w := R_gF (z := 245) Q10 (by decide +kernel) rfl
theorem e10_4 {ls : zL} {st : List Value} {w : zW} : Rv 10 4 ls st w = ldA ls 0 fun x => Rv 10 5 ls (x :: st) w := R_ldA Q10 (by decide +kernel) rfl
theorem e10_5 {ls : zL} {st : List Value} {w : zW} {a : Nat} : Rv 10 5 ls (.ref a :: st) w = gF w a 0 1 fun v => Rv 10 8 ls (v :: st) w := R_gF (z := 243) Q10 (by decide +kernel) rfl
theorem e10_8 {ls : zL} {st : List Value} {w : zW} {x y : Int32} : Rv 10 8 ls (.int y :: .int x :: st) w = if x < y then Rv 10 11 ls st w else Rv 10 23 ls st w := R_fige Q10 (by decide +kernel) rfl rfl
theorem e10_11 {ls : zL} {st : List Value} {w : zW} : Rv 10 11 ls st w = ldA ls 0 fun x => Rv 10 12 ls (x :: st) w := R_ldA Q10 (by decide +kernel) rfl
theorem e10_12 {ls : zL} {st : List Value} {w : zW} {a : Nat} : Rv 10 12 ls (.ref a :: st) w = gF w a 0 0 fun v => Rv 10 15 ls (v :: st) w := R_gF (z := 242) Q10 (by decide +kernel) rfl
theorem e10_15 {ls : zL} {st : List Value} {w : zW} : Rv 10 15 ls st w = ldA ls 0 fun x => Rv 10 16 ls (x :: st) w := R_ldA Q10 (by decide +kernel) rfl
theorem e10_16 {ls : zL} {st : List Value} {w : zW} {a : Nat} : Rv 10 16 ls (.ref a :: st) w = gF w a 0 2 fun v => Rv 10 19 ls (v :: st) w := R_gF (z := 245) Q10 (by decide +kernel) rfl
theorem e10_19 {ls : zL} {st : List Value} {w : zW} {a : Nat} {x : Int32} : Rv 10 19 ls (.int x :: .ref a :: st) w = gI w a 2 9 x fun v => Rv 10 20 ls (.int v :: st) w := R_bald Q10 (by decide +kernel)
theorem e10_20 {ls : zL} {st : List Value} {w : zW} : Rv 10 20 ls st w = Rv 10 24 ls st w := R_go Q10 (by decide +kernel) rfl rfl
theorem e10_23 {ls : zL} {st : List Value} {w : zW} : Rv 10 23 ls st w = Rv 10 24 ls (.int (-1) :: st) w := R_con Q10 (by decide +kernel) rfl (by decide)
theorem e10_24 {ls : zL} {w : zW} {x : Int32} : Rv 10 24 ls [.int x] w = some (.inl (some (.int x)), w) := R_retI Q10 (by decide +kernel) rfl
/-! MasterPins$CommandText.isDigit -/
theorem e11_0 {ls : zL} {st : List Value} {w : zW} : Rv 11 0 ls st w = ldI ls 0 fun x => Rv 11 1 ls (.int x :: st) w := R_ldI Q11 (by decide +kernel) rfl
theorem e11_1 {ls : zL} {st : List Value} {w : zW} : Rv 11 1 ls st w = Rv 11 3 ls (.int 48 :: st) w := R_con Q11 (by decide +kernel) rfl (by decide)
theorem e11_3 {ls : zL} {st : List Value} {w : zW} {x y : Int32} : Rv 11 3 ls (.int y :: .int x :: st) w = if x < y then Rv 11 16 ls st w else Rv 11 6 ls st w := R_filt Q11 (by decide +kernel) rfl rfl
theorem e11_6 {ls : zL} {st : List Value} {w : zW} : Rv 11 6 ls st w = ldI ls 0 fun x => Rv 11 7 ls (.int x :: st) w := R_ldI Q11 (by decide +kernel) rfl
theorem e11_7 {ls : zL} {st : List Value} {w : zW} : Rv 11 7 ls st w = Rv 11 9 ls (.int 57 :: st) w := R_con Q11 (by decide +kernel) rfl (by decide)
theorem e11_9 {ls : zL} {st : List Value} {w : zW} {x y : Int32} : Rv 11 9 ls (.int y :: .int x :: st) w = if y < x then Rv 11 16 ls st w else Rv 11 12 ls st w := R_figt Q11 (by decide +kernel) rfl rfl
theorem e11_12 {ls : zL} {st : List Value} {w : zW} : Rv 11 12 ls st w = Rv 11 13 ls (.int 1 :: st) w := R_con Q11 (by decide +kernel) rfl (by decide)
theorem e11_13 {ls : zL} {st : List Value} {w : zW} : Rv 11 13 ls st w = Rv 11 17 ls st w := R_go Q11 (by decide +kernel) rfl rfl
theorem e11_16 {ls : zL} {st : List Value} {w : zW} : Rv 11 16 ls st w = Rv 11 17 ls (.int 0 :: st) w := R_con Q11 (by decide +kernel) rfl (by decide)
theorem e11_17 {ls : zL} {w : zW} {x : Int32} : Rv 11 17 ls [.int x] w = if x = 0 ∨ x = 1 then some (.inl (some (.int x)), w) else none := R_retZ Q11 (by decide +kernel) rfl
/-! MasterPins$CommandText.skipSpaces -/
theorem h12_0 {ls : zL} {st : List Value} {w : zW} : Rv 12 0 ls st w = ldA ls 0 fun x => Rv 12 1 ls (x :: st) w := R_ldA Q12 (by decide +kernel) rfl
theorem e12_1 {ls : zL} {st : List Value} {w : zW} {a : Nat} : Rv 12 1 ls (.ref a :: st) w = gF w a 0 2 fun v => Rv 12 4 ls (v :: st) w := R_gF (z := 245) Q12 (by decide +kernel) rfl
theorem e12_4 {ls : zL} {st : List Value} {w : zW} : Rv 12 4 ls st w = ldA ls 0 fun x => Rv 12 5 ls (x :: st) w := R_ldA Q12 (by decide +kernel) rfl
theorem e12_5 {ls : zL} {st : List Value} {w : zW} {a : Nat} : Rv 12 5 ls (.ref a :: st) w = gF w a 0 1 fun v => Rv 12 8 ls (v :: st) w := R_gF (z := 243) Q12 (by decide +kernel) rfl
theorem e12_8 {ls : zL} {st : List Value} {w : zW} {x y : Int32} : Rv 12 8 ls (.int y :: .int x :: st) w = if x < y then Rv 12 11 ls st w else Rv 12 38 ls st w := R_fige Q12 (by decide +kernel) rfl rfl
theorem e12_11 {ls : zL} {st : List Value} {w : zW} : Rv 12 11 ls st w = ldA ls 0 fun x => Rv 12 12 ls (x :: st) w := R_ldA Q12 (by decide +kernel) rfl
theorem e12_12 {ls : zL} {st : List Value} {w : zW} {a : Nat} : Rv 12 12 ls (.ref a :: st) w = gF w a 0 0 fun v => Rv 12 15 ls (v :: st) w := R_gF (z := 242) Q12 (by decide +kernel) rfl
theorem e12_15 {ls : zL} {st : List Value} {w : zW} : Rv 12 15 ls st w = ldA ls 0 fun x => Rv 12 16 ls (x :: st) w := R_ldA Q12 (by decide +kernel) rfl
theorem e12_16 {ls : zL} {st : List Value} {w : zW} {a : Nat} : Rv 12 16 ls (.ref a :: st) w = gF w a 0 2 fun v => Rv 12 19 ls (v :: st) w := R_gF (z := 245) Q12 (by decide +kernel) rfl
theorem e12_19 {ls : zL} {st : List Value} {w : zW} {a : Nat} {x : Int32} : Rv 12 19 ls (.int x :: .ref a :: st) w = gI w a 2 9 x fun v => Rv 12 20 ls (.int v :: st) w := R_bald Q12 (by decide +kernel)
theorem e12_20 {ls : zL} {st : List Value} {w : zW} : Rv 12 20 ls st w = Rv 12 22 ls (.int 32 :: st) w := R_con Q12 (by decide +kernel) rfl (by decide)
theorem e12_22 {ls : zL} {st : List Value} {w : zW} {x y : Int32} : Rv 12 22 ls (.int y :: .int x :: st) w = if x = y then Rv 12 25 ls st w else Rv 12 38 ls st w := R_fine Q12 (by decide +kernel) rfl rfl
theorem e12_25 {ls : zL} {st : List Value} {w : zW} : Rv 12 25 ls st w = ldA ls 0 fun x => Rv 12 26 ls (x :: st) w := R_ldA Q12 (by decide +kernel) rfl
theorem e12_26 {ls : zL} {st : List Value} {w : zW} {x : Nat} : Rv 12 26 ls (.ref x :: st) w = Rv 12 27 ls (.ref x :: .ref x :: st) w := R_next Q12 (by decide +kernel) rfl
theorem e12_27 {ls : zL} {st : List Value} {w : zW} {a : Nat} : Rv 12 27 ls (.ref a :: st) w = gF w a 0 2 fun v => Rv 12 30 ls (v :: st) w := R_gF (z := 245) Q12 (by decide +kernel) rfl
theorem e12_30 {ls : zL} {st : List Value} {w : zW} : Rv 12 30 ls st w = Rv 12 31 ls (.int 1 :: st) w := R_con Q12 (by decide +kernel) rfl (by decide)
theorem e12_31 {ls : zL} {st : List Value} {w : zW} {x y : Int32} : Rv 12 31 ls (.int y :: .int x :: st) w = Rv 12 32 ls (.int (x + y) :: st) w := R_next Q12 (by decide +kernel) rfl
theorem e12_32 {ls : zL} {st : List Value} {w : zW} {x : Int32} {a : Nat} : Rv 12 32 ls (.int x :: .ref a :: st) w = pF w a 0 2 (.int x) fun w' => Rv 12 35 ls st w' := R_pF (z := 245) Q12 (by decide +kernel) rfl ⟨by decide, rfl, Or.inl rfl⟩
theorem e12_35 {ls : zL} {st : List Value} {w : zW} : Rv 12 35 ls st w = Rv 12 0 ls st w := R_go Q12 (by decide +kernel) rfl rfl
theorem e12_38 {ls : zL} {w : zW} : Rv 12 38 ls [] w = some (.inl none, w) := R_retV Q12 (by decide +kernel) rfl
/-! MasterPins$CommandText.skipLetters -/
theorem h13_0 {ls : zL} {st : List Value} {w : zW} : Rv 13 0 ls st w = ldA ls 0 fun x => Rv 13 1 ls (x :: st) w := R_ldA Q13 (by decide +kernel) rfl
theorem e13_1 {ls : zL} {st : List Value} {w : zW} {a : Nat} : Rv 13 1 ls (.ref a :: st) w = gF w a 0 2 fun v => Rv 13 4 ls (v :: st) w := R_gF (z := 245) Q13 (by decide +kernel) rfl
theorem e13_4 {ls : zL} {st : List Value} {w : zW} : Rv 13 4 ls st w = ldA ls 0 fun x => Rv 13 5 ls (x :: st) w := R_ldA Q13 (by decide +kernel) rfl
theorem e13_5 {ls : zL} {st : List Value} {w : zW} {a : Nat} : Rv 13 5 ls (.ref a :: st) w = gF w a 0 1 fun v => Rv 13 8 ls (v :: st) w := R_gF (z := 243) Q13 (by decide +kernel) rfl
theorem e13_8 {ls : zL} {st : List Value} {w : zW} {x y : Int32} : Rv 13 8 ls (.int y :: .int x :: st) w = if x < y then Rv 13 11 ls st w else Rv 13 52 ls st w := R_fige Q13 (by decide +kernel) rfl rfl
theorem e13_11 {ls : zL} {st : List Value} {w : zW} : Rv 13 11 ls st w = ldA ls 0 fun x => Rv 13 12 ls (x :: st) w := R_ldA Q13 (by decide +kernel) rfl
theorem e13_12 {ls : zL} {st : List Value} {w : zW} {a : Nat} : Rv 13 12 ls (.ref a :: st) w = gF w a 0 0 fun v => Rv 13 15 ls (v :: st) w := R_gF (z := 242) Q13 (by decide +kernel) rfl
theorem e13_15 {ls : zL} {st : List Value} {w : zW} : Rv 13 15 ls st w = ldA ls 0 fun x => Rv 13 16 ls (x :: st) w := R_ldA Q13 (by decide +kernel) rfl
theorem e13_16 {ls : zL} {st : List Value} {w : zW} {a : Nat} : Rv 13 16 ls (.ref a :: st) w = gF w a 0 2 fun v => Rv 13 19 ls (v :: st) w := R_gF (z := 245) Q13 (by decide +kernel) rfl
theorem e13_19 {ls : zL} {st : List Value} {w : zW} {a : Nat} {x : Int32} : Rv 13 19 ls (.int x :: .ref a :: st) w = gI w a 2 9 x fun v => Rv 13 20 ls (.int v :: st) w := R_bald Q13 (by decide +kernel)
theorem e13_20 {ls : zL} {st : List Value} {w : zW} : Rv 13 20 ls st w = Rv 13 22 ls (.int 97 :: st) w := R_con Q13 (by decide +kernel) rfl (by decide)
theorem e13_22 {ls : zL} {st : List Value} {w : zW} {x y : Int32} : Rv 13 22 ls (.int y :: .int x :: st) w = if x < y then Rv 13 52 ls st w else Rv 13 25 ls st w := R_filt Q13 (by decide +kernel) rfl rfl
theorem e13_25 {ls : zL} {st : List Value} {w : zW} : Rv 13 25 ls st w = ldA ls 0 fun x => Rv 13 26 ls (x :: st) w := R_ldA Q13 (by decide +kernel) rfl
theorem e13_26 {ls : zL} {st : List Value} {w : zW} {a : Nat} : Rv 13 26 ls (.ref a :: st) w = gF w a 0 0 fun v => Rv 13 29 ls (v :: st) w := R_gF (z := 242) Q13 (by decide +kernel) rfl
theorem e13_29 {ls : zL} {st : List Value} {w : zW} : Rv 13 29 ls st w = ldA ls 0 fun x => Rv 13 30 ls (x :: st) w := R_ldA Q13 (by decide +kernel) rfl
theorem e13_30 {ls : zL} {st : List Value} {w : zW} {a : Nat} : Rv 13 30 ls (.ref a :: st) w = gF w a 0 2 fun v => Rv 13 33 ls (v :: st) w := R_gF (z := 245) Q13 (by decide +kernel) rfl
theorem e13_33 {ls : zL} {st : List Value} {w : zW} {a : Nat} {x : Int32} : Rv 13 33 ls (.int x :: .ref a :: st) w = gI w a 2 9 x fun v => Rv 13 34 ls (.int v :: st) w := R_bald Q13 (by decide +kernel)
theorem e13_34 {ls : zL} {st : List Value} {w : zW} : Rv 13 34 ls st w = Rv 13 36 ls (.int 122 :: st) w := R_con Q13 (by decide +kernel) rfl (by decide)
theorem e13_36 {ls : zL} {st : List Value} {w : zW} {x y : Int32} : Rv 13 36 ls (.int y :: .int x :: st) w = if y < x then Rv 13 52 ls st w else Rv 13 39 ls st w := R_figt Q13 (by decide +kernel) rfl rfl
theorem e13_39 {ls : zL} {st : List Value} {w : zW} : Rv 13 39 ls st w = ldA ls 0 fun x => Rv 13 40 ls (x :: st) w := R_ldA Q13 (by decide +kernel) rfl
theorem e13_40 {ls : zL} {st : List Value} {w : zW} {x : Nat} : Rv 13 40 ls (.ref x :: st) w = Rv 13 41 ls (.ref x :: .ref x :: st) w := R_next Q13 (by decide +kernel) rfl
theorem e13_41 {ls : zL} {st : List Value} {w : zW} {a : Nat} : Rv 13 41 ls (.ref a :: st) w = gF w a 0 2 fun v => Rv 13 44 ls (v :: st) w := R_gF (z := 245) Q13 (by decide +kernel) rfl
theorem e13_44 {ls : zL} {st : List Value} {w : zW} : Rv 13 44 ls st w = Rv 13 45 ls (.int 1 :: st) w := R_con Q13 (by decide +kernel) rfl (by decide)
theorem e13_45 {ls : zL} {st : List Value} {w : zW} {x y : Int32} : Rv 13 45 ls (.int y :: .int x :: st) w = Rv 13 46 ls (.int (x + y) :: st) w := R_next Q13 (by decide +kernel) rfl
theorem e13_46 {ls : zL} {st : List Value} {w : zW} {x : Int32} {a : Nat} : Rv 13 46 ls (.int x :: .ref a :: st) w = pF w a 0 2 (.int x) fun w' => Rv 13 49 ls st w' := R_pF (z := 245) Q13 (by decide +kernel) rfl ⟨by decide, rfl, Or.inl rfl⟩
theorem e13_49 {ls : zL} {st : List Value} {w : zW} : Rv 13 49 ls st w = Rv 13 0 ls st w := R_go Q13 (by decide +kernel) rfl rfl
theorem e13_52 {ls : zL} {w : zW} : Rv 13 52 ls [] w = some (.inl none, w) := R_retV Q13 (by decide +kernel) rfl
/-! MasterPins$CommandText.wordBetween -/
theorem e14_0 {ls : zL} {st : List Value} {w : zW} : Rv 14 0 ls st w = Rv 14 3 ls (.ref 2 :: st) w := R_gst (z := 461) Q14 (by decide +kernel) rfl
theorem e14_3 {ls : zL} {st : List Value} {w : zW} {x : Nat} : Rv 14 3 ls (.ref x :: st) w = lst ls 3 (some (.ref x)) fun l => Rv 14 4 l st w := R_st Q14 (by decide +kernel) rfl
theorem e14_3n {ls : zL} {st : List Value} {w : zW} : Rv 14 3 ls (.null :: st) w = lst ls 3 (some (.null)) fun l => Rv 14 4 l st w := R_st Q14 (by decide +kernel) rfl
theorem e14_4 {ls : zL} {st : List Value} {w : zW} : Rv 14 4 ls st w = ldA ls 3 fun x => Rv 14 5 ls (x :: st) w := R_ldA Q14 (by decide +kernel) rfl
theorem e14_5 {ls : zL} {st : List Value} {w : zW} {a : Nat} : Rv 14 5 ls (.ref a :: st) w = gN w a fun v => Rv 14 6 ls (.int v :: st) w := R_alen Q14 (by decide +kernel)
theorem e14_6 {ls : zL} {st : List Value} {w : zW} {x : Int32} : Rv 14 6 ls (.int x :: st) w = lst ls 4 (some (.int x)) fun l => Rv 14 8 l st w := R_st Q14 (by decide +kernel) rfl
theorem e14_8 {ls : zL} {st : List Value} {w : zW} : Rv 14 8 ls st w = Rv 14 9 ls (.int 0 :: st) w := R_con Q14 (by decide +kernel) rfl (by decide)
theorem e14_9 {ls : zL} {st : List Value} {w : zW} {x : Int32} : Rv 14 9 ls (.int x :: st) w = lst ls 5 (some (.int x)) fun l => Rv 14 11 l st w := R_st Q14 (by decide +kernel) rfl
theorem h14_11 {ls : zL} {st : List Value} {w : zW} : Rv 14 11 ls st w = ldI ls 5 fun x => Rv 14 13 ls (.int x :: st) w := R_ldI Q14 (by decide +kernel) rfl
theorem e14_13 {ls : zL} {st : List Value} {w : zW} : Rv 14 13 ls st w = ldI ls 4 fun x => Rv 14 15 ls (.int x :: st) w := R_ldI Q14 (by decide +kernel) rfl
theorem e14_15 {ls : zL} {st : List Value} {w : zW} {x y : Int32} : Rv 14 15 ls (.int y :: .int x :: st) w = if x < y then Rv 14 18 ls st w else Rv 14 47 ls st w := R_fige Q14 (by decide +kernel) rfl rfl
theorem e14_18 {ls : zL} {st : List Value} {w : zW} : Rv 14 18 ls st w = ldA ls 3 fun x => Rv 14 19 ls (x :: st) w := R_ldA Q14 (by decide +kernel) rfl
theorem e14_19 {ls : zL} {st : List Value} {w : zW} : Rv 14 19 ls st w = ldI ls 5 fun x => Rv 14 21 ls (.int x :: st) w := R_ldI Q14 (by decide +kernel) rfl
theorem e14_21 {ls : zL} {st : List Value} {w : zW} {a : Nat} {x : Int32} : Rv 14 21 ls (.int x :: .ref a :: st) w = gR w a x fun v => Rv 14 22 ls (v :: st) w := R_aald Q14 (by decide +kernel)
theorem e14_22 {ls : zL} {st : List Value} {w : zW} {x : Nat} : Rv 14 22 ls (.ref x :: st) w = lst ls 6 (some (.ref x)) fun l => Rv 14 24 l st w := R_st Q14 (by decide +kernel) rfl
theorem e14_22n {ls : zL} {st : List Value} {w : zW} : Rv 14 22 ls (.null :: st) w = lst ls 6 (some (.null)) fun l => Rv 14 24 l st w := R_st Q14 (by decide +kernel) rfl
theorem e14_24 {ls : zL} {st : List Value} {w : zW} : Rv 14 24 ls st w = ldA ls 0 fun x => Rv 14 25 ls (x :: st) w := R_ldA Q14 (by decide +kernel) rfl
theorem e14_25 {ls : zL} {st : List Value} {w : zW} : Rv 14 25 ls st w = ldA ls 6 fun x => Rv 14 27 ls (x :: st) w := R_ldA Q14 (by decide +kernel) rfl
theorem e14_27 {ls : zL} {st : List Value} {w : zW} {a : Nat} : Rv 14 27 ls (.ref a :: st) w = gF w a 100 0 fun v => Rv 14 30 ls (v :: st) w := R_gF (z := 1469) Q14 (by decide +kernel) rfl
theorem e14_30 {ls : zL} {st : List Value} {w : zW} : Rv 14 30 ls st w = ldI ls 1 fun x => Rv 14 31 ls (.int x :: st) w := R_ldI Q14 (by decide +kernel) rfl
theorem e14_31 {ls : zL} {st : List Value} {w : zW} : Rv 14 31 ls st w = ldI ls 2 fun x => Rv 14 32 ls (.int x :: st) w := R_ldI Q14 (by decide +kernel) rfl
theorem e14_32 {ls : zL} {w : zW} {n1 : Int32} {n2 : Int32} {a3 : Nat} {a0 : Nat} : Rv 14 32 ls [.int n1, .int n2, .ref a3, .ref a0] w = hO w a0 0 (cal (Rv 15 0 [some (.ref a0), some (.ref a3), some (.int n2), some (.int n1), none] [] w) (fun v w' => Rv 14 35 ls (vts v []) w') (xnone)) := R_calV (z := 463) (r := []) Q14 (by decide +kernel) rfl rfl Q15 rfl rfl rfl
theorem e14_35 {ls : zL} {st : List Value} {w : zW} {x : Int32} : Rv 14 35 ls (.int x :: st) w = if x = 0 then Rv 14 41 ls st w else Rv 14 38 ls st w := R_f0eq Q14 (by decide +kernel) rfl rfl
theorem e14_38 {ls : zL} {st : List Value} {w : zW} : Rv 14 38 ls st w = ldA ls 6 fun x => Rv 14 40 ls (x :: st) w := R_ldA Q14 (by decide +kernel) rfl
theorem e14_40 {ls : zL} {w : zW} {a : Nat} : Rv 14 40 ls [.ref a] w = some (.inl (some (.ref a)), w) := R_retA Q14 (by decide +kernel) rfl
theorem e14_40n {ls : zL} {w : zW} : Rv 14 40 ls [.null] w = some (.inl (some .null), w) := R_retN Q14 (by decide +kernel) rfl
theorem e14_41 {ls : zL} {st : List Value} {w : zW} : Rv 14 41 ls st w = ldI ls 5 fun x => lst ls 5 (some (.int (x + 1))) fun l => Rv 14 44 l st w := R_iinc Q14 (by decide +kernel) (by decide)
theorem e14_44 {ls : zL} {st : List Value} {w : zW} : Rv 14 44 ls st w = Rv 14 11 ls st w := R_go Q14 (by decide +kernel) rfl rfl
theorem e14_47 {ls : zL} {st : List Value} {w : zW} : Rv 14 47 ls st w = Rv 14 48 ls (.null :: st) w := R_next Q14 (by decide +kernel) rfl
theorem e14_48 {ls : zL} {w : zW} {a : Nat} : Rv 14 48 ls [.ref a] w = some (.inl (some (.ref a)), w) := R_retA Q14 (by decide +kernel) rfl
theorem e14_48n {ls : zL} {w : zW} : Rv 14 48 ls [.null] w = some (.inl (some .null), w) := R_retN Q14 (by decide +kernel) rfl
/-! MasterPins$CommandText.isWordAt -/
theorem e15_0 {ls : zL} {st : List Value} {w : zW} : Rv 15 0 ls st w = ldA ls 1 fun x => Rv 15 1 ls (x :: st) w := R_ldA Q15 (by decide +kernel) rfl
theorem e15_1 {ls : zL} {w : zW} {a0 : Nat} : Rv 15 1 ls [.ref a0] w = hO w a0 101 (cal (Rv 233 0 [some (.ref a0)] [] w) (fun v w' => Rv 15 4 ls (vts v []) w') (xnone)) := R_calV (z := 467) (r := []) Q15 (by decide +kernel) rfl rfl Q233 rfl rfl rfl
theorem e15_4 {ls : zL} {st : List Value} {w : zW} : Rv 15 4 ls st w = ldI ls 3 fun x => Rv 15 5 ls (.int x :: st) w := R_ldI Q15 (by decide +kernel) rfl
theorem e15_5 {ls : zL} {st : List Value} {w : zW} : Rv 15 5 ls st w = ldI ls 2 fun x => Rv 15 6 ls (.int x :: st) w := R_ldI Q15 (by decide +kernel) rfl
theorem e15_6 {ls : zL} {st : List Value} {w : zW} {x y : Int32} : Rv 15 6 ls (.int y :: .int x :: st) w = Rv 15 7 ls (.int (x - y) :: st) w := R_next Q15 (by decide +kernel) rfl
theorem e15_7 {ls : zL} {st : List Value} {w : zW} {x y : Int32} : Rv 15 7 ls (.int y :: .int x :: st) w = if x = y then Rv 15 12 ls st w else Rv 15 10 ls st w := R_fieq Q15 (by decide +kernel) rfl rfl
theorem e15_10 {ls : zL} {st : List Value} {w : zW} : Rv 15 10 ls st w = Rv 15 11 ls (.int 0 :: st) w := R_con Q15 (by decide +kernel) rfl (by decide)
theorem e15_11 {ls : zL} {w : zW} {x : Int32} : Rv 15 11 ls [.int x] w = if x = 0 ∨ x = 1 then some (.inl (some (.int x)), w) else none := R_retZ Q15 (by decide +kernel) rfl
theorem e15_12 {ls : zL} {st : List Value} {w : zW} : Rv 15 12 ls st w = Rv 15 13 ls (.int 0 :: st) w := R_con Q15 (by decide +kernel) rfl (by decide)
theorem e15_13 {ls : zL} {st : List Value} {w : zW} {x : Int32} : Rv 15 13 ls (.int x :: st) w = lst ls 4 (some (.int x)) fun l => Rv 15 15 l st w := R_st Q15 (by decide +kernel) rfl
theorem h15_15 {ls : zL} {st : List Value} {w : zW} : Rv 15 15 ls st w = ldI ls 4 fun x => Rv 15 17 ls (.int x :: st) w := R_ldI Q15 (by decide +kernel) rfl
theorem e15_17 {ls : zL} {st : List Value} {w : zW} : Rv 15 17 ls st w = ldA ls 1 fun x => Rv 15 18 ls (x :: st) w := R_ldA Q15 (by decide +kernel) rfl
theorem e15_18 {ls : zL} {w : zW} {a0 : Nat} {n1 : Int32} : Rv 15 18 ls [.ref a0, .int n1] w = hO w a0 101 (cal (Rv 233 0 [some (.ref a0)] [] w) (fun v w' => Rv 15 21 ls (vts v [.int n1]) w') (xnone)) := R_calV (z := 467) (r := [.int n1]) Q15 (by decide +kernel) rfl rfl Q233 rfl rfl rfl
theorem e15_21 {ls : zL} {st : List Value} {w : zW} {x y : Int32} : Rv 15 21 ls (.int y :: .int x :: st) w = if x < y then Rv 15 24 ls st w else Rv 15 50 ls st w := R_fige Q15 (by decide +kernel) rfl rfl
theorem e15_24 {ls : zL} {st : List Value} {w : zW} : Rv 15 24 ls st w = ldA ls 0 fun x => Rv 15 25 ls (x :: st) w := R_ldA Q15 (by decide +kernel) rfl
theorem e15_25 {ls : zL} {st : List Value} {w : zW} {a : Nat} : Rv 15 25 ls (.ref a :: st) w = gF w a 0 0 fun v => Rv 15 28 ls (v :: st) w := R_gF (z := 242) Q15 (by decide +kernel) rfl
theorem e15_28 {ls : zL} {st : List Value} {w : zW} : Rv 15 28 ls st w = ldI ls 2 fun x => Rv 15 29 ls (.int x :: st) w := R_ldI Q15 (by decide +kernel) rfl
theorem e15_29 {ls : zL} {st : List Value} {w : zW} : Rv 15 29 ls st w = ldI ls 4 fun x => Rv 15 31 ls (.int x :: st) w := R_ldI Q15 (by decide +kernel) rfl
theorem e15_31 {ls : zL} {st : List Value} {w : zW} {x y : Int32} : Rv 15 31 ls (.int y :: .int x :: st) w = Rv 15 32 ls (.int (x + y) :: st) w := R_next Q15 (by decide +kernel) rfl
theorem e15_32 {ls : zL} {st : List Value} {w : zW} {a : Nat} {x : Int32} : Rv 15 32 ls (.int x :: .ref a :: st) w = gI w a 2 9 x fun v => Rv 15 33 ls (.int v :: st) w := R_bald Q15 (by decide +kernel)
theorem e15_33 {ls : zL} {st : List Value} {w : zW} : Rv 15 33 ls st w = ldA ls 1 fun x => Rv 15 34 ls (x :: st) w := R_ldA Q15 (by decide +kernel) rfl
theorem e15_34 {ls : zL} {st : List Value} {w : zW} : Rv 15 34 ls st w = ldI ls 4 fun x => Rv 15 36 ls (.int x :: st) w := R_ldI Q15 (by decide +kernel) rfl
theorem e15_36 {ls : zL} {w : zW} {n1 : Int32} {a0 : Nat} {n2 : Int32} : Rv 15 36 ls [.int n1, .ref a0, .int n2] w = hO w a0 101 (cal (Rv 234 0 [some (.ref a0), some (.int n1)] [] w) (fun v w' => Rv 15 39 ls (vts v [.int n2]) w') (xnone)) := R_calV (z := 477) (r := [.int n2]) Q15 (by decide +kernel) rfl rfl Q234 rfl rfl rfl
theorem e15_39 {ls : zL} {st : List Value} {w : zW} {x y : Int32} : Rv 15 39 ls (.int y :: .int x :: st) w = if x = y then Rv 15 44 ls st w else Rv 15 42 ls st w := R_fieq Q15 (by decide +kernel) rfl rfl
theorem e15_42 {ls : zL} {st : List Value} {w : zW} : Rv 15 42 ls st w = Rv 15 43 ls (.int 0 :: st) w := R_con Q15 (by decide +kernel) rfl (by decide)
theorem e15_43 {ls : zL} {w : zW} {x : Int32} : Rv 15 43 ls [.int x] w = if x = 0 ∨ x = 1 then some (.inl (some (.int x)), w) else none := R_retZ Q15 (by decide +kernel) rfl
theorem e15_44 {ls : zL} {st : List Value} {w : zW} : Rv 15 44 ls st w = ldI ls 4 fun x => lst ls 4 (some (.int (x + 1))) fun l => Rv 15 47 l st w := R_iinc Q15 (by decide +kernel) (by decide)
theorem e15_47 {ls : zL} {st : List Value} {w : zW} : Rv 15 47 ls st w = Rv 15 15 ls st w := R_go Q15 (by decide +kernel) rfl rfl
theorem e15_50 {ls : zL} {st : List Value} {w : zW} : Rv 15 50 ls st w = Rv 15 51 ls (.int 1 :: st) w := R_con Q15 (by decide +kernel) rfl (by decide)
theorem e15_51 {ls : zL} {w : zW} {x : Int32} : Rv 15 51 ls [.int x] w = if x = 0 ∨ x = 1 then some (.inl (some (.int x)), w) else none := R_retZ Q15 (by decide +kernel) rfl
/-! MasterPins$Cuts.ofCode -/
theorem e16_0 {ls : zL} {st : List Value} {w : zW} : Rv 16 0 ls st w = Rv 16 1 ls (.int 0 :: st) w := R_con Q16 (by decide +kernel) rfl (by decide)
theorem e16_1 {ls : zL} {st : List Value} {w : zW} {x : Int32} : Rv 16 1 ls (.int x :: st) w = lst ls 2 (some (.int x)) fun l => Rv 16 2 l st w := R_st Q16 (by decide +kernel) rfl
theorem e16_2 {ls : zL} {st : List Value} {w : zW} : Rv 16 2 ls st w = ldI ls 0 fun x => Rv 16 3 ls (.int x :: st) w := R_ldI Q16 (by decide +kernel) rfl
theorem e16_3 {ls : zL} {st : List Value} {w : zW} {x : Int32} : Rv 16 3 ls (.int x :: st) w = lst ls 3 (some (.int x)) fun l => Rv 16 4 l st w := R_st Q16 (by decide +kernel) rfl
theorem e16_4 {ls : zL} {st : List Value} {w : zW} : Rv 16 4 ls st w = ldI ls 1 fun x => Rv 16 5 ls (.int x :: st) w := R_ldI Q16 (by decide +kernel) rfl
theorem e16_5 {ls : zL} {st : List Value} {w : zW} : Rv 16 5 ls st w = Rv 16 6 ls (.int 1 :: st) w := R_con Q16 (by decide +kernel) rfl (by decide)
theorem e16_6 {ls : zL} {st : List Value} {w : zW} {x y : Int32} : Rv 16 6 ls (.int y :: .int x :: st) w = Rv 16 7 ls (.int (x - y) :: st) w := R_next Q16 (by decide +kernel) rfl
theorem e16_7 {ls : zL} {st : List Value} {w : zW} {x : Int32} : Rv 16 7 ls (.int x :: st) w = lst ls 4 (some (.int x)) fun l => Rv 16 9 l st w := R_st Q16 (by decide +kernel) rfl
theorem h16_9 {ls : zL} {st : List Value} {w : zW} : Rv 16 9 ls st w = ldI ls 4 fun x => Rv 16 11 ls (.int x :: st) w := R_ldI Q16 (by decide +kernel) rfl
theorem e16_11 {ls : zL} {st : List Value} {w : zW} {x : Int32} : Rv 16 11 ls (.int x :: st) w = if x < 0 then Rv 16 40 ls st w else Rv 16 14 ls st w := R_f0lt Q16 (by decide +kernel) rfl rfl
theorem e16_14 {ls : zL} {st : List Value} {w : zW} : Rv 16 14 ls st w = ldI ls 2 fun x => Rv 16 15 ls (.int x :: st) w := R_ldI Q16 (by decide +kernel) rfl
theorem e16_15 {ls : zL} {st : List Value} {w : zW} : Rv 16 15 ls st w = Rv 16 16 ls (.int 1 :: st) w := R_con Q16 (by decide +kernel) rfl (by decide)
theorem e16_16 {ls : zL} {st : List Value} {w : zW} : Rv 16 16 ls st w = Rv 16 18 ls (.int 6 :: st) w := R_con Q16 (by decide +kernel) rfl (by decide)
theorem e16_18 {ls : zL} {st : List Value} {w : zW} : Rv 16 18 ls st w = ldI ls 4 fun x => Rv 16 20 ls (.int x :: st) w := R_ldI Q16 (by decide +kernel) rfl
theorem e16_20 {ls : zL} {st : List Value} {w : zW} {x y : Int32} : Rv 16 20 ls (.int y :: .int x :: st) w = Rv 16 21 ls (.int (x * y) :: st) w := R_next Q16 (by decide +kernel) rfl
theorem e16_21 {ls : zL} {st : List Value} {w : zW} : Rv 16 21 ls st w = ldI ls 3 fun x => Rv 16 22 ls (.int x :: st) w := R_ldI Q16 (by decide +kernel) rfl
theorem e16_22 {ls : zL} {st : List Value} {w : zW} : Rv 16 22 ls st w = Rv 16 24 ls (.int 10 :: st) w := R_con Q16 (by decide +kernel) rfl (by decide)
theorem e16_24 {ls : zL} {st : List Value} {w : zW} {x y : Int32} : Rv 16 24 ls (.int y :: .int x :: st) w = if y = 0 then none else Rv 16 25 ls (.int (rmi x y) :: st) w := R_rem Q16 (by decide +kernel)
theorem e16_25 {ls : zL} {st : List Value} {w : zW} {x y : Int32} : Rv 16 25 ls (.int y :: .int x :: st) w = Rv 16 26 ls (.int (x + y) :: st) w := R_next Q16 (by decide +kernel) rfl
theorem e16_26 {ls : zL} {st : List Value} {w : zW} {x y : Int32} : Rv 16 26 ls (.int y :: .int x :: st) w = Rv 16 27 ls (.int (x <<< (y &&& 31)) :: st) w := R_next Q16 (by decide +kernel) rfl
theorem e16_27 {ls : zL} {st : List Value} {w : zW} {x y : Int32} : Rv 16 27 ls (.int y :: .int x :: st) w = Rv 16 28 ls (.int (x ||| y) :: st) w := R_next Q16 (by decide +kernel) rfl
theorem e16_28 {ls : zL} {st : List Value} {w : zW} {x : Int32} : Rv 16 28 ls (.int x :: st) w = lst ls 2 (some (.int x)) fun l => Rv 16 29 l st w := R_st Q16 (by decide +kernel) rfl
theorem e16_29 {ls : zL} {st : List Value} {w : zW} : Rv 16 29 ls st w = ldI ls 3 fun x => Rv 16 30 ls (.int x :: st) w := R_ldI Q16 (by decide +kernel) rfl
theorem e16_30 {ls : zL} {st : List Value} {w : zW} : Rv 16 30 ls st w = Rv 16 32 ls (.int 10 :: st) w := R_con Q16 (by decide +kernel) rfl (by decide)
theorem e16_32 {ls : zL} {st : List Value} {w : zW} {x y : Int32} : Rv 16 32 ls (.int y :: .int x :: st) w = if y = 0 then none else Rv 16 33 ls (.int (x / y) :: st) w := R_div Q16 (by decide +kernel)
theorem e16_33 {ls : zL} {st : List Value} {w : zW} {x : Int32} : Rv 16 33 ls (.int x :: st) w = lst ls 3 (some (.int x)) fun l => Rv 16 34 l st w := R_st Q16 (by decide +kernel) rfl
theorem e16_34 {ls : zL} {st : List Value} {w : zW} : Rv 16 34 ls st w = ldI ls 4 fun x => lst ls 4 (some (.int (x + (-1)))) fun l => Rv 16 37 l st w := R_iinc Q16 (by decide +kernel) (by decide)
theorem e16_37 {ls : zL} {st : List Value} {w : zW} : Rv 16 37 ls st w = Rv 16 9 ls st w := R_go Q16 (by decide +kernel) rfl rfl
theorem e16_40 {ls : zL} {st : List Value} {w : zW} : Rv 16 40 ls st w = ldI ls 2 fun x => Rv 16 41 ls (.int x :: st) w := R_ldI Q16 (by decide +kernel) rfl
theorem e16_41 {ls : zL} {w : zW} {x : Int32} : Rv 16 41 ls [.int x] w = some (.inl (some (.int x)), w) := R_retI Q16 (by decide +kernel) rfl
/-! MasterPins$Cuts.inChamber -/
theorem e17_0 {ls : zL} {st : List Value} {w : zW} : Rv 17 0 ls st w = ldI ls 0 fun x => Rv 17 1 ls (.int x :: st) w := R_ldI Q17 (by decide +kernel) rfl
theorem e17_1 {ls : zL} {st : List Value} {w : zW} : Rv 17 1 ls st w = Rv 17 3 ls (.int 6 :: st) w := R_con Q17 (by decide +kernel) rfl (by decide)
theorem e17_3 {ls : zL} {st : List Value} {w : zW} : Rv 17 3 ls st w = ldI ls 1 fun x => Rv 17 4 ls (.int x :: st) w := R_ldI Q17 (by decide +kernel) rfl
theorem e17_4 {ls : zL} {st : List Value} {w : zW} {x y : Int32} : Rv 17 4 ls (.int y :: .int x :: st) w = Rv 17 5 ls (.int (x * y) :: st) w := R_next Q17 (by decide +kernel) rfl
theorem e17_5 {ls : zL} {st : List Value} {w : zW} {x y : Int32} : Rv 17 5 ls (.int y :: .int x :: st) w = Rv 17 6 ls (.int (x >>> (y &&& 31)) :: st) w := R_next Q17 (by decide +kernel) rfl
theorem e17_6 {ls : zL} {st : List Value} {w : zW} : Rv 17 6 ls st w = Rv 17 8 ls (.int 63 :: st) w := R_con Q17 (by decide +kernel) rfl (by decide)
theorem e17_8 {ls : zL} {st : List Value} {w : zW} {x y : Int32} : Rv 17 8 ls (.int y :: .int x :: st) w = Rv 17 9 ls (.int (x &&& y) :: st) w := R_next Q17 (by decide +kernel) rfl
theorem e17_9 {ls : zL} {w : zW} {x : Int32} : Rv 17 9 ls [.int x] w = some (.inl (some (.int x)), w) := R_retI Q17 (by decide +kernel) rfl
/-! MasterPins$Cuts.cutIn -/
theorem e18_0 {ls : zL} {st : List Value} {w : zW} : Rv 18 0 ls st w = ldI ls 0 fun x => Rv 18 1 ls (.int x :: st) w := R_ldI Q18 (by decide +kernel) rfl
theorem e18_1 {ls : zL} {st : List Value} {w : zW} : Rv 18 1 ls st w = Rv 18 3 ls (.int 6 :: st) w := R_con Q18 (by decide +kernel) rfl (by decide)
theorem e18_3 {ls : zL} {st : List Value} {w : zW} : Rv 18 3 ls st w = ldI ls 1 fun x => Rv 18 4 ls (.int x :: st) w := R_ldI Q18 (by decide +kernel) rfl
theorem e18_4 {ls : zL} {st : List Value} {w : zW} {x y : Int32} : Rv 18 4 ls (.int y :: .int x :: st) w = Rv 18 5 ls (.int (x * y) :: st) w := R_next Q18 (by decide +kernel) rfl
theorem e18_5 {ls : zL} {st : List Value} {w : zW} {x y : Int32} : Rv 18 5 ls (.int y :: .int x :: st) w = Rv 18 6 ls (.int (x >>> (y &&& 31)) :: st) w := R_next Q18 (by decide +kernel) rfl
theorem e18_6 {ls : zL} {w : zW} {n1 : Int32} : Rv 18 6 ls [.int n1] w = cal (Rv 231 0 [some (.int n1), none] [] w) (fun v w' => Rv 18 9 ls (vts v []) w') (xnone) := R_calS (z := 360) (kd := 1) (n := 1) Q18 (by decide +kernel) rfl (Or.inl rfl) (Nat.le_of_ble_eq_true rfl) rfl Q231 rfl rfl rfl
theorem e18_9 {ls : zL} {w : zW} {x : Int32} : Rv 18 9 ls [.int x] w = some (.inl (some (.int x)), w) := R_retI Q18 (by decide +kernel) rfl
/-! MasterPins$Cuts.open -/
theorem e19_0 {ls : zL} {st : List Value} {w : zW} : Rv 19 0 ls st w = ldI ls 0 fun x => Rv 19 1 ls (.int x :: st) w := R_ldI Q19 (by decide +kernel) rfl
theorem e19_1 {ls : zL} {st : List Value} {w : zW} : Rv 19 1 ls st w = ldI ls 1 fun x => Rv 19 2 ls (.int x :: st) w := R_ldI Q19 (by decide +kernel) rfl
theorem e19_2 {ls : zL} {st : List Value} {w : zW} {x y : Int32} : Rv 19 2 ls (.int y :: .int x :: st) w = Rv 19 3 ls (.int (x &&& y) :: st) w := R_next Q19 (by decide +kernel) rfl
theorem e19_3 {ls : zL} {st : List Value} {w : zW} : Rv 19 3 ls st w = ldI ls 0 fun x => Rv 19 4 ls (.int x :: st) w := R_ldI Q19 (by decide +kernel) rfl
theorem e19_4 {ls : zL} {st : List Value} {w : zW} {x y : Int32} : Rv 19 4 ls (.int y :: .int x :: st) w = if x = y then Rv 19 7 ls st w else Rv 19 11 ls st w := R_fine Q19 (by decide +kernel) rfl rfl
theorem e19_7 {ls : zL} {st : List Value} {w : zW} : Rv 19 7 ls st w = Rv 19 8 ls (.int 1 :: st) w := R_con Q19 (by decide +kernel) rfl (by decide)
theorem e19_8 {ls : zL} {st : List Value} {w : zW} : Rv 19 8 ls st w = Rv 19 12 ls st w := R_go Q19 (by decide +kernel) rfl rfl
theorem e19_11 {ls : zL} {st : List Value} {w : zW} : Rv 19 11 ls st w = Rv 19 12 ls (.int 0 :: st) w := R_con Q19 (by decide +kernel) rfl (by decide)
theorem e19_12 {ls : zL} {w : zW} {x : Int32} : Rv 19 12 ls [.int x] w = if x = 0 ∨ x = 1 then some (.inl (some (.int x)), w) else none := R_retZ Q19 (by decide +kernel) rfl
/-! MasterPins$Cuts.differing -/
theorem e20_0 {ls : zL} {st : List Value} {w : zW} : Rv 20 0 ls st w = ldI ls 2 fun x => Rv 20 1 ls (.int x :: st) w := R_ldI Q20 (by decide +kernel) rfl
theorem e20_1 {ls : zL} {st : List Value} {w : zW} : Rv 20 1 ls st w = ldI ls 0 fun x => Rv 20 2 ls (.int x :: st) w := R_ldI Q20 (by decide +kernel) rfl
theorem e20_2 {ls : zL} {st : List Value} {w : zW} : Rv 20 2 ls st w = ldI ls 1 fun x => Rv 20 3 ls (.int x :: st) w := R_ldI Q20 (by decide +kernel) rfl
theorem e20_3 {ls : zL} {st : List Value} {w : zW} {x y : Int32} : Rv 20 3 ls (.int y :: .int x :: st) w = Rv 20 4 ls (.int (x &&& y) :: st) w := R_next Q20 (by decide +kernel) rfl
theorem e20_4 {ls : zL} {w : zW} {n1 : Int32} {n2 : Int32} : Rv 20 4 ls [.int n1, .int n2] w = cal (Rv 232 0 [some (.int n1)] [] w) (fun v w' => Rv 20 7 ls (vts v [.int n2]) w') (xnone) := R_calS (z := 376) (kd := 1) (n := 1) Q20 (by decide +kernel) rfl (Or.inl rfl) (Nat.le_of_ble_eq_true rfl) rfl Q232 rfl rfl rfl
theorem e20_7 {ls : zL} {st : List Value} {w : zW} {x y : Int32} : Rv 20 7 ls (.int y :: .int x :: st) w = Rv 20 8 ls (.int (x - y) :: st) w := R_next Q20 (by decide +kernel) rfl
theorem e20_8 {ls : zL} {w : zW} {x : Int32} : Rv 20 8 ls [.int x] w = some (.inl (some (.int x)), w) := R_retI Q20 (by decide +kernel) rfl
/-! MasterPins$Cuts.distance -/
theorem e21_0 {ls : zL} {st : List Value} {w : zW} : Rv 21 0 ls st w = Rv 21 1 ls (.int 0 :: st) w := R_con Q21 (by decide +kernel) rfl (by decide)
theorem e21_1 {ls : zL} {st : List Value} {w : zW} {x : Int32} : Rv 21 1 ls (.int x :: st) w = lst ls 3 (some (.int x)) fun l => Rv 21 2 l st w := R_st Q21 (by decide +kernel) rfl
theorem e21_2 {ls : zL} {st : List Value} {w : zW} : Rv 21 2 ls st w = Rv 21 3 ls (.int 0 :: st) w := R_con Q21 (by decide +kernel) rfl (by decide)
theorem e21_3 {ls : zL} {st : List Value} {w : zW} {x : Int32} : Rv 21 3 ls (.int x :: st) w = lst ls 4 (some (.int x)) fun l => Rv 21 5 l st w := R_st Q21 (by decide +kernel) rfl
theorem h21_5 {ls : zL} {st : List Value} {w : zW} : Rv 21 5 ls st w = ldI ls 4 fun x => Rv 21 7 ls (.int x :: st) w := R_ldI Q21 (by decide +kernel) rfl
theorem e21_7 {ls : zL} {st : List Value} {w : zW} : Rv 21 7 ls st w = ldI ls 2 fun x => Rv 21 8 ls (.int x :: st) w := R_ldI Q21 (by decide +kernel) rfl
theorem e21_8 {ls : zL} {st : List Value} {w : zW} {x y : Int32} : Rv 21 8 ls (.int y :: .int x :: st) w = if x < y then Rv 21 11 ls st w else Rv 21 36 ls st w := R_fige Q21 (by decide +kernel) rfl rfl
theorem e21_11 {ls : zL} {st : List Value} {w : zW} : Rv 21 11 ls st w = ldI ls 3 fun x => Rv 21 12 ls (.int x :: st) w := R_ldI Q21 (by decide +kernel) rfl
theorem e21_12 {ls : zL} {st : List Value} {w : zW} : Rv 21 12 ls st w = ldI ls 0 fun x => Rv 21 13 ls (.int x :: st) w := R_ldI Q21 (by decide +kernel) rfl
theorem e21_13 {ls : zL} {st : List Value} {w : zW} : Rv 21 13 ls st w = ldI ls 4 fun x => Rv 21 15 ls (.int x :: st) w := R_ldI Q21 (by decide +kernel) rfl
theorem e21_15 {ls : zL} {w : zW} {n1 : Int32} {n2 : Int32} {n3 : Int32} : Rv 21 15 ls [.int n1, .int n2, .int n3] w = cal (Rv 18 0 [some (.int n2), some (.int n1)] [] w) (fun v w' => Rv 21 18 ls (vts v [.int n3]) w') (xnone) := R_calS (z := 357) (kd := 1) (n := 2) Q21 (by decide +kernel) rfl (Or.inl rfl) (Nat.le_of_ble_eq_true rfl) rfl Q18 rfl rfl rfl
theorem e21_18 {ls : zL} {st : List Value} {w : zW} : Rv 21 18 ls st w = ldI ls 1 fun x => Rv 21 19 ls (.int x :: st) w := R_ldI Q21 (by decide +kernel) rfl
theorem e21_19 {ls : zL} {st : List Value} {w : zW} : Rv 21 19 ls st w = ldI ls 4 fun x => Rv 21 21 ls (.int x :: st) w := R_ldI Q21 (by decide +kernel) rfl
theorem e21_21 {ls : zL} {w : zW} {n1 : Int32} {n2 : Int32} {n3 : Int32} {n4 : Int32} : Rv 21 21 ls [.int n1, .int n2, .int n3, .int n4] w = cal (Rv 18 0 [some (.int n2), some (.int n1)] [] w) (fun v w' => Rv 21 24 ls (vts v [.int n3, .int n4]) w') (xnone) := R_calS (z := 357) (kd := 1) (n := 2) Q21 (by decide +kernel) rfl (Or.inl rfl) (Nat.le_of_ble_eq_true rfl) rfl Q18 rfl rfl rfl
theorem e21_24 {ls : zL} {st : List Value} {w : zW} {x y : Int32} : Rv 21 24 ls (.int y :: .int x :: st) w = Rv 21 25 ls (.int (x - y) :: st) w := R_next Q21 (by decide +kernel) rfl
theorem e21_25 {ls : zL} {w : zW} {n1 : Int32} {x : Int32} : Rv 21 25 ls [.int x, .int n1] w = Rv 21 28 ls [.int (if 0 ≤ x then x else 0 - x), .int n1] w := R_abs (z := (0, 1, 364)) Q21 (by decide +kernel) rfl ⟨Nat.le_of_ble_eq_true rfl, Nat.le_of_ble_eq_true rfl, Nat.le_of_ble_eq_true rfl⟩
theorem e21_28 {ls : zL} {st : List Value} {w : zW} {x y : Int32} : Rv 21 28 ls (.int y :: .int x :: st) w = Rv 21 29 ls (.int (x + y) :: st) w := R_next Q21 (by decide +kernel) rfl
theorem e21_29 {ls : zL} {st : List Value} {w : zW} {x : Int32} : Rv 21 29 ls (.int x :: st) w = lst ls 3 (some (.int x)) fun l => Rv 21 30 l st w := R_st Q21 (by decide +kernel) rfl
theorem e21_30 {ls : zL} {st : List Value} {w : zW} : Rv 21 30 ls st w = ldI ls 4 fun x => lst ls 4 (some (.int (x + 1))) fun l => Rv 21 33 l st w := R_iinc Q21 (by decide +kernel) (by decide)
theorem e21_33 {ls : zL} {st : List Value} {w : zW} : Rv 21 33 ls st w = Rv 21 5 ls st w := R_go Q21 (by decide +kernel) rfl rfl
theorem e21_36 {ls : zL} {st : List Value} {w : zW} : Rv 21 36 ls st w = ldI ls 3 fun x => Rv 21 37 ls (.int x :: st) w := R_ldI Q21 (by decide +kernel) rfl
theorem e21_37 {ls : zL} {w : zW} {x : Int32} : Rv 21 37 ls [.int x] w = some (.inl (some (.int x)), w) := R_retI Q21 (by decide +kernel) rfl
/-! MasterPins$Cuts.greatestStep -/
theorem e22_0 {ls : zL} {st : List Value} {w : zW} : Rv 22 0 ls st w = Rv 22 1 ls (.int 0 :: st) w := R_con Q22 (by decide +kernel) rfl (by decide)
theorem e22_1 {ls : zL} {st : List Value} {w : zW} {x : Int32} : Rv 22 1 ls (.int x :: st) w = lst ls 2 (some (.int x)) fun l => Rv 22 2 l st w := R_st Q22 (by decide +kernel) rfl
theorem e22_2 {ls : zL} {st : List Value} {w : zW} : Rv 22 2 ls st w = Rv 22 3 ls (.int 1 :: st) w := R_con Q22 (by decide +kernel) rfl (by decide)
theorem e22_3 {ls : zL} {st : List Value} {w : zW} {x : Int32} : Rv 22 3 ls (.int x :: st) w = lst ls 3 (some (.int x)) fun l => Rv 22 4 l st w := R_st Q22 (by decide +kernel) rfl
theorem h22_4 {ls : zL} {st : List Value} {w : zW} : Rv 22 4 ls st w = ldI ls 3 fun x => Rv 22 5 ls (.int x :: st) w := R_ldI Q22 (by decide +kernel) rfl
theorem e22_5 {ls : zL} {st : List Value} {w : zW} : Rv 22 5 ls st w = ldI ls 1 fun x => Rv 22 6 ls (.int x :: st) w := R_ldI Q22 (by decide +kernel) rfl
theorem e22_6 {ls : zL} {st : List Value} {w : zW} {x y : Int32} : Rv 22 6 ls (.int y :: .int x :: st) w = if x < y then Rv 22 9 ls st w else Rv 22 40 ls st w := R_fige Q22 (by decide +kernel) rfl rfl
theorem e22_9 {ls : zL} {st : List Value} {w : zW} : Rv 22 9 ls st w = ldI ls 0 fun x => Rv 22 10 ls (.int x :: st) w := R_ldI Q22 (by decide +kernel) rfl
theorem e22_10 {ls : zL} {st : List Value} {w : zW} : Rv 22 10 ls st w = ldI ls 3 fun x => Rv 22 11 ls (.int x :: st) w := R_ldI Q22 (by decide +kernel) rfl
theorem e22_11 {ls : zL} {w : zW} {n1 : Int32} {n2 : Int32} : Rv 22 11 ls [.int n1, .int n2] w = cal (Rv 18 0 [some (.int n2), some (.int n1)] [] w) (fun v w' => Rv 22 14 ls (vts v []) w') (xnone) := R_calS (z := 357) (kd := 1) (n := 2) Q22 (by decide +kernel) rfl (Or.inl rfl) (Nat.le_of_ble_eq_true rfl) rfl Q18 rfl rfl rfl
theorem e22_14 {ls : zL} {st : List Value} {w : zW} : Rv 22 14 ls st w = ldI ls 0 fun x => Rv 22 15 ls (.int x :: st) w := R_ldI Q22 (by decide +kernel) rfl
theorem e22_15 {ls : zL} {st : List Value} {w : zW} : Rv 22 15 ls st w = ldI ls 3 fun x => Rv 22 16 ls (.int x :: st) w := R_ldI Q22 (by decide +kernel) rfl
theorem e22_16 {ls : zL} {st : List Value} {w : zW} : Rv 22 16 ls st w = Rv 22 17 ls (.int 1 :: st) w := R_con Q22 (by decide +kernel) rfl (by decide)
theorem e22_17 {ls : zL} {st : List Value} {w : zW} {x y : Int32} : Rv 22 17 ls (.int y :: .int x :: st) w = Rv 22 18 ls (.int (x - y) :: st) w := R_next Q22 (by decide +kernel) rfl
theorem e22_18 {ls : zL} {w : zW} {n1 : Int32} {n2 : Int32} {n3 : Int32} : Rv 22 18 ls [.int n1, .int n2, .int n3] w = cal (Rv 18 0 [some (.int n2), some (.int n1)] [] w) (fun v w' => Rv 22 21 ls (vts v [.int n3]) w') (xnone) := R_calS (z := 357) (kd := 1) (n := 2) Q22 (by decide +kernel) rfl (Or.inl rfl) (Nat.le_of_ble_eq_true rfl) rfl Q18 rfl rfl rfl
theorem e22_21 {ls : zL} {st : List Value} {w : zW} {x y : Int32} : Rv 22 21 ls (.int y :: .int x :: st) w = Rv 22 22 ls (.int (x - y) :: st) w := R_next Q22 (by decide +kernel) rfl
theorem e22_22 {ls : zL} {w : zW}  {x : Int32} : Rv 22 22 ls [.int x] w = Rv 22 25 ls [.int (if 0 ≤ x then x else 0 - x)] w := R_abs (z := (0, 1, 364)) Q22 (by decide +kernel) rfl ⟨Nat.le_of_ble_eq_true rfl, Nat.le_of_ble_eq_true rfl, Nat.le_of_ble_eq_true rfl⟩
theorem e22_25 {ls : zL} {st : List Value} {w : zW} {x : Int32} : Rv 22 25 ls (.int x :: st) w = lst ls 4 (some (.int x)) fun l => Rv 22 27 l st w := R_st Q22 (by decide +kernel) rfl
theorem e22_27 {ls : zL} {st : List Value} {w : zW} : Rv 22 27 ls st w = ldI ls 2 fun x => Rv 22 28 ls (.int x :: st) w := R_ldI Q22 (by decide +kernel) rfl
theorem e22_28 {ls : zL} {st : List Value} {w : zW} : Rv 22 28 ls st w = ldI ls 4 fun x => Rv 22 30 ls (.int x :: st) w := R_ldI Q22 (by decide +kernel) rfl
theorem e22_30 {ls : zL} {w : zW}  {x y : Int32} : Rv 22 30 ls [.int y, .int x] w = Rv 22 33 ls [.int (if x < y then y else x)] w := R_max (z := (0, 2, 367)) Q22 (by decide +kernel) rfl ⟨Nat.le_of_ble_eq_true rfl, Nat.le_of_ble_eq_true rfl, Nat.le_of_ble_eq_true rfl⟩
theorem e22_33 {ls : zL} {st : List Value} {w : zW} {x : Int32} : Rv 22 33 ls (.int x :: st) w = lst ls 2 (some (.int x)) fun l => Rv 22 34 l st w := R_st Q22 (by decide +kernel) rfl
theorem e22_34 {ls : zL} {st : List Value} {w : zW} : Rv 22 34 ls st w = ldI ls 3 fun x => lst ls 3 (some (.int (x + 1))) fun l => Rv 22 37 l st w := R_iinc Q22 (by decide +kernel) (by decide)
theorem e22_37 {ls : zL} {st : List Value} {w : zW} : Rv 22 37 ls st w = Rv 22 4 ls st w := R_go Q22 (by decide +kernel) rfl rfl
theorem e22_40 {ls : zL} {st : List Value} {w : zW} : Rv 22 40 ls st w = ldI ls 2 fun x => Rv 22 41 ls (.int x :: st) w := R_ldI Q22 (by decide +kernel) rfl
theorem e22_41 {ls : zL} {w : zW} {x : Int32} : Rv 22 41 ls [.int x] w = some (.inl (some (.int x)), w) := R_retI Q22 (by decide +kernel) rfl
/-! MasterPins$Cuts.variety -/
theorem e23_0 {ls : zL} {st : List Value} {w : zW} : Rv 23 0 ls st w = Rv 23 1 ls (.int 0 :: st) w := R_con Q23 (by decide +kernel) rfl (by decide)
theorem e23_1 {ls : zL} {st : List Value} {w : zW} {x : Int32} : Rv 23 1 ls (.int x :: st) w = lst ls 2 (some (.int x)) fun l => Rv 23 2 l st w := R_st Q23 (by decide +kernel) rfl
theorem e23_2 {ls : zL} {st : List Value} {w : zW} : Rv 23 2 ls st w = Rv 23 3 ls (.int 0 :: st) w := R_con Q23 (by decide +kernel) rfl (by decide)
theorem e23_3 {ls : zL} {st : List Value} {w : zW} {x : Int32} : Rv 23 3 ls (.int x :: st) w = lst ls 3 (some (.int x)) fun l => Rv 23 4 l st w := R_st Q23 (by decide +kernel) rfl
theorem h23_4 {ls : zL} {st : List Value} {w : zW} : Rv 23 4 ls st w = ldI ls 3 fun x => Rv 23 5 ls (.int x :: st) w := R_ldI Q23 (by decide +kernel) rfl
theorem e23_5 {ls : zL} {st : List Value} {w : zW} : Rv 23 5 ls st w = ldI ls 1 fun x => Rv 23 6 ls (.int x :: st) w := R_ldI Q23 (by decide +kernel) rfl
theorem e23_6 {ls : zL} {st : List Value} {w : zW} {x y : Int32} : Rv 23 6 ls (.int y :: .int x :: st) w = if x < y then Rv 23 9 ls st w else Rv 23 23 ls st w := R_fige Q23 (by decide +kernel) rfl rfl
theorem e23_9 {ls : zL} {st : List Value} {w : zW} : Rv 23 9 ls st w = ldI ls 2 fun x => Rv 23 10 ls (.int x :: st) w := R_ldI Q23 (by decide +kernel) rfl
theorem e23_10 {ls : zL} {st : List Value} {w : zW} : Rv 23 10 ls st w = ldI ls 0 fun x => Rv 23 11 ls (.int x :: st) w := R_ldI Q23 (by decide +kernel) rfl
theorem e23_11 {ls : zL} {st : List Value} {w : zW} : Rv 23 11 ls st w = ldI ls 3 fun x => Rv 23 12 ls (.int x :: st) w := R_ldI Q23 (by decide +kernel) rfl
theorem e23_12 {ls : zL} {w : zW} {n1 : Int32} {n2 : Int32} {n3 : Int32} : Rv 23 12 ls [.int n1, .int n2, .int n3] w = cal (Rv 17 0 [some (.int n2), some (.int n1)] [] w) (fun v w' => Rv 23 15 ls (vts v [.int n3]) w') (xnone) := R_calS (z := 373) (kd := 1) (n := 2) Q23 (by decide +kernel) rfl (Or.inl rfl) (Nat.le_of_ble_eq_true rfl) rfl Q17 rfl rfl rfl
theorem e23_15 {ls : zL} {st : List Value} {w : zW} {x y : Int32} : Rv 23 15 ls (.int y :: .int x :: st) w = Rv 23 16 ls (.int (x ||| y) :: st) w := R_next Q23 (by decide +kernel) rfl
theorem e23_16 {ls : zL} {st : List Value} {w : zW} {x : Int32} : Rv 23 16 ls (.int x :: st) w = lst ls 2 (some (.int x)) fun l => Rv 23 17 l st w := R_st Q23 (by decide +kernel) rfl
theorem e23_17 {ls : zL} {st : List Value} {w : zW} : Rv 23 17 ls st w = ldI ls 3 fun x => lst ls 3 (some (.int (x + 1))) fun l => Rv 23 20 l st w := R_iinc Q23 (by decide +kernel) (by decide)
theorem e23_20 {ls : zL} {st : List Value} {w : zW} : Rv 23 20 ls st w = Rv 23 4 ls st w := R_go Q23 (by decide +kernel) rfl rfl
theorem e23_23 {ls : zL} {st : List Value} {w : zW} : Rv 23 23 ls st w = ldI ls 2 fun x => Rv 23 24 ls (.int x :: st) w := R_ldI Q23 (by decide +kernel) rfl
theorem e23_24 {ls : zL} {w : zW} {n1 : Int32} : Rv 23 24 ls [.int n1] w = cal (Rv 232 0 [some (.int n1)] [] w) (fun v w' => Rv 23 27 ls (vts v []) w') (xnone) := R_calS (z := 376) (kd := 1) (n := 1) Q23 (by decide +kernel) rfl (Or.inl rfl) (Nat.le_of_ble_eq_true rfl) rfl Q232 rfl rfl rfl
theorem e23_27 {ls : zL} {w : zW} {x : Int32} : Rv 23 27 ls [.int x] w = some (.inl (some (.int x)), w) := R_retI Q23 (by decide +kernel) rfl
/-! MasterPins$Cuts.combinations -/
theorem e24_0 {ls : zL} {st : List Value} {w : zW} : Rv 24 0 ls st w = Rv 24 1 ls (.int 1 :: st) w := R_con Q24 (by decide +kernel) rfl (by decide)
theorem e24_1 {ls : zL} {st : List Value} {w : zW} {x : Int32} : Rv 24 1 ls (.int x :: st) w = lst ls 2 (some (.int x)) fun l => Rv 24 2 l st w := R_st Q24 (by decide +kernel) rfl
theorem e24_2 {ls : zL} {st : List Value} {w : zW} : Rv 24 2 ls st w = Rv 24 3 ls (.int 0 :: st) w := R_con Q24 (by decide +kernel) rfl (by decide)
theorem e24_3 {ls : zL} {st : List Value} {w : zW} {x : Int32} : Rv 24 3 ls (.int x :: st) w = lst ls 3 (some (.int x)) fun l => Rv 24 4 l st w := R_st Q24 (by decide +kernel) rfl
theorem h24_4 {ls : zL} {st : List Value} {w : zW} : Rv 24 4 ls st w = ldI ls 3 fun x => Rv 24 5 ls (.int x :: st) w := R_ldI Q24 (by decide +kernel) rfl
theorem e24_5 {ls : zL} {st : List Value} {w : zW} : Rv 24 5 ls st w = ldI ls 1 fun x => Rv 24 6 ls (.int x :: st) w := R_ldI Q24 (by decide +kernel) rfl
theorem e24_6 {ls : zL} {st : List Value} {w : zW} {x y : Int32} : Rv 24 6 ls (.int y :: .int x :: st) w = if x < y then Rv 24 9 ls st w else Rv 24 26 ls st w := R_fige Q24 (by decide +kernel) rfl rfl
theorem e24_9 {ls : zL} {st : List Value} {w : zW} : Rv 24 9 ls st w = ldI ls 2 fun x => Rv 24 10 ls (.int x :: st) w := R_ldI Q24 (by decide +kernel) rfl
theorem e24_10 {ls : zL} {st : List Value} {w : zW} : Rv 24 10 ls st w = ldI ls 0 fun x => Rv 24 11 ls (.int x :: st) w := R_ldI Q24 (by decide +kernel) rfl
theorem e24_11 {ls : zL} {st : List Value} {w : zW} : Rv 24 11 ls st w = ldI ls 3 fun x => Rv 24 12 ls (.int x :: st) w := R_ldI Q24 (by decide +kernel) rfl
theorem e24_12 {ls : zL} {w : zW} {n1 : Int32} {n2 : Int32} {n3 : Int32} : Rv 24 12 ls [.int n1, .int n2, .int n3] w = cal (Rv 17 0 [some (.int n2), some (.int n1)] [] w) (fun v w' => Rv 24 15 ls (vts v [.int n3]) w') (xnone) := R_calS (z := 373) (kd := 1) (n := 2) Q24 (by decide +kernel) rfl (Or.inl rfl) (Nat.le_of_ble_eq_true rfl) rfl Q17 rfl rfl rfl
theorem e24_15 {ls : zL} {w : zW} {n1 : Int32} {n2 : Int32} : Rv 24 15 ls [.int n1, .int n2] w = cal (Rv 232 0 [some (.int n1)] [] w) (fun v w' => Rv 24 18 ls (vts v [.int n2]) w') (xnone) := R_calS (z := 376) (kd := 1) (n := 1) Q24 (by decide +kernel) rfl (Or.inl rfl) (Nat.le_of_ble_eq_true rfl) rfl Q232 rfl rfl rfl
theorem e24_18 {ls : zL} {st : List Value} {w : zW} {x y : Int32} : Rv 24 18 ls (.int y :: .int x :: st) w = Rv 24 19 ls (.int (x * y) :: st) w := R_next Q24 (by decide +kernel) rfl
theorem e24_19 {ls : zL} {st : List Value} {w : zW} {x : Int32} : Rv 24 19 ls (.int x :: st) w = lst ls 2 (some (.int x)) fun l => Rv 24 20 l st w := R_st Q24 (by decide +kernel) rfl
theorem e24_20 {ls : zL} {st : List Value} {w : zW} : Rv 24 20 ls st w = ldI ls 3 fun x => lst ls 3 (some (.int (x + 1))) fun l => Rv 24 23 l st w := R_iinc Q24 (by decide +kernel) (by decide)
theorem e24_23 {ls : zL} {st : List Value} {w : zW} : Rv 24 23 ls st w = Rv 24 4 ls st w := R_go Q24 (by decide +kernel) rfl rfl
theorem e24_26 {ls : zL} {st : List Value} {w : zW} : Rv 24 26 ls st w = ldI ls 2 fun x => Rv 24 27 ls (.int x :: st) w := R_ldI Q24 (by decide +kernel) rfl
theorem e24_27 {ls : zL} {w : zW} {x : Int32} : Rv 24 27 ls [.int x] w = some (.inl (some (.int x)), w) := R_retI Q24 (by decide +kernel) rfl
/-! MasterPins$LawfulCodes.<init> -/
theorem e25_0 {ls : zL} {st : List Value} {w : zW} : Rv 25 0 ls st w = ldA ls 0 fun x => Rv 25 1 ls (x :: st) w := R_ldA Q25 (by decide +kernel) rfl
theorem e25_1 {ls : zL} {w : zW}  {a : Nat} : Rv 25 1 ls [.ref a] w = Rv 25 4 ls [] w := R_obj (z := (0, 0, 181)) Q25 (by decide +kernel) rfl ⟨Nat.le_of_ble_eq_true rfl, Nat.le_of_ble_eq_true rfl, Nat.le_of_ble_eq_true rfl⟩
theorem e25_4 {ls : zL} {st : List Value} {w : zW} : Rv 25 4 ls st w = ldA ls 0 fun x => Rv 25 5 ls (x :: st) w := R_ldA Q25 (by decide +kernel) rfl
theorem e25_5 {ls : zL} {st : List Value} {w : zW} : Rv 25 5 ls st w = Rv 25 8 ls (.int 1296 :: st) w := R_con Q25 (by decide +kernel) rfl (by decide)
theorem e25_8 {ls : zL} {st : List Value} {w : zW} : Rv 25 8 ls (.int 1296 :: st) w = nw w 1296 (.inl (0, 1296, .inl fun _ => 0)) fun a w' => Rv 25 10 ls (.ref a :: st) w' := R_newa (z := 0) Q25 (by decide +kernel) rfl rfl (by decide) (by decide)
theorem e25_10 {ls : zL} {st : List Value} {w : zW} {x : Nat} {a : Nat} : Rv 25 10 ls (.ref x :: .ref a :: st) w = pF w a 1 0 (.ref x) fun w' => Rv 25 13 ls st w' := R_pF (z := 182) Q25 (by decide +kernel) rfl ⟨by decide, rfl, Or.inr ⟨rfl, rfl⟩⟩
theorem e25_10n {ls : zL} {st : List Value} {w : zW}  {a : Nat} : Rv 25 10 ls (.null :: .ref a :: st) w = pF w a 1 0 (.null) fun w' => Rv 25 13 ls st w' := R_pF (z := 182) Q25 (by decide +kernel) rfl ⟨by decide, rfl, Or.inr ⟨rfl, rfl⟩⟩
theorem e25_13 {ls : zL} {st : List Value} {w : zW} : Rv 25 13 ls st w = ldA ls 0 fun x => Rv 25 14 ls (x :: st) w := R_ldA Q25 (by decide +kernel) rfl
theorem e25_14 {ls : zL} {st : List Value} {w : zW} : Rv 25 14 ls st w = Rv 25 17 ls (.int 1296 :: st) w := R_con Q25 (by decide +kernel) rfl (by decide)
theorem e25_17 {ls : zL} {st : List Value} {w : zW} : Rv 25 17 ls (.int 1296 :: st) w = nw w 1296 (.inl (0, 1296, .inl fun _ => 0)) fun a w' => Rv 25 19 ls (.ref a :: st) w' := R_newa (z := 0) Q25 (by decide +kernel) rfl rfl (by decide) (by decide)
theorem e25_19 {ls : zL} {st : List Value} {w : zW} {x : Nat} {a : Nat} : Rv 25 19 ls (.ref x :: .ref a :: st) w = pF w a 1 1 (.ref x) fun w' => Rv 25 22 ls st w' := R_pF (z := 183) Q25 (by decide +kernel) rfl ⟨by decide, rfl, Or.inr ⟨rfl, rfl⟩⟩
theorem e25_19n {ls : zL} {st : List Value} {w : zW}  {a : Nat} : Rv 25 19 ls (.null :: .ref a :: st) w = pF w a 1 1 (.null) fun w' => Rv 25 22 ls st w' := R_pF (z := 183) Q25 (by decide +kernel) rfl ⟨by decide, rfl, Or.inr ⟨rfl, rfl⟩⟩
theorem e25_22 {ls : zL} {w : zW} : Rv 25 22 ls [] w = some (.inl none, w) := R_retV Q25 (by decide +kernel) rfl
/-! MasterPins$LawfulCodes.code -/
theorem e26_0 {ls : zL} {st : List Value} {w : zW} : Rv 26 0 ls st w = ldA ls 0 fun x => Rv 26 1 ls (x :: st) w := R_ldA Q26 (by decide +kernel) rfl
theorem e26_1 {ls : zL} {st : List Value} {w : zW} {a : Nat} : Rv 26 1 ls (.ref a :: st) w = gF w a 1 0 fun v => Rv 26 4 ls (v :: st) w := R_gF (z := 182) Q26 (by decide +kernel) rfl
theorem e26_4 {ls : zL} {st : List Value} {w : zW} : Rv 26 4 ls st w = ldI ls 1 fun x => Rv 26 5 ls (.int x :: st) w := R_ldI Q26 (by decide +kernel) rfl
theorem e26_5 {ls : zL} {st : List Value} {w : zW} {a : Nat} {x : Int32} : Rv 26 5 ls (.int x :: .ref a :: st) w = gI w a 0 8 x fun v => Rv 26 6 ls (.int v :: st) w := R_iald Q26 (by decide +kernel)
theorem e26_6 {ls : zL} {w : zW} {x : Int32} : Rv 26 6 ls [.int x] w = some (.inl (some (.int x)), w) := R_retI Q26 (by decide +kernel) rfl
/-! MasterPins$LawfulCodes.cutsAt -/
theorem e27_0 {ls : zL} {st : List Value} {w : zW} : Rv 27 0 ls st w = ldA ls 0 fun x => Rv 27 1 ls (x :: st) w := R_ldA Q27 (by decide +kernel) rfl
theorem e27_1 {ls : zL} {st : List Value} {w : zW} {a : Nat} : Rv 27 1 ls (.ref a :: st) w = gF w a 1 1 fun v => Rv 27 4 ls (v :: st) w := R_gF (z := 183) Q27 (by decide +kernel) rfl
theorem e27_4 {ls : zL} {st : List Value} {w : zW} : Rv 27 4 ls st w = ldI ls 1 fun x => Rv 27 5 ls (.int x :: st) w := R_ldI Q27 (by decide +kernel) rfl
theorem e27_5 {ls : zL} {st : List Value} {w : zW} {a : Nat} {x : Int32} : Rv 27 5 ls (.int x :: .ref a :: st) w = gI w a 0 8 x fun v => Rv 27 6 ls (.int v :: st) w := R_iald Q27 (by decide +kernel)
theorem e27_6 {ls : zL} {w : zW} {x : Int32} : Rv 27 6 ls [.int x] w = some (.inl (some (.int x)), w) := R_retI Q27 (by decide +kernel) rfl
/-! MasterPins$LawfulCodes.areOf -/
theorem e28_0 {ls : zL} {st : List Value} {w : zW} : Rv 28 0 ls st w = ldA ls 0 fun x => Rv 28 1 ls (x :: st) w := R_ldA Q28 (by decide +kernel) rfl
theorem e28_1 {ls : zL} {st : List Value} {w : zW} {a : Nat} : Rv 28 1 ls (.ref a :: st) w = gF w a 1 3 fun v => Rv 28 4 ls (v :: st) w := R_gF (z := 186) Q28 (by decide +kernel) rfl
theorem e28_4 {ls : zL} {st : List Value} {w : zW} : Rv 28 4 ls st w = ldA ls 1 fun x => Rv 28 5 ls (x :: st) w := R_ldA Q28 (by decide +kernel) rfl
theorem e28_5 {ls : zL} {st : List Value} {w : zW} {a : Nat} : Rv 28 5 ls (.ref a :: st) w = gF w a 2 0 fun v => Rv 28 8 ls (v :: st) w := R_gF (z := 126) Q28 (by decide +kernel) rfl
theorem e28_8 {ls : zL} {st : List Value} {w : zW} {x y : Int32} : Rv 28 8 ls (.int y :: .int x :: st) w = if x = y then Rv 28 11 ls st w else Rv 28 50 ls st w := R_fine Q28 (by decide +kernel) rfl rfl
theorem e28_11 {ls : zL} {st : List Value} {w : zW} : Rv 28 11 ls st w = ldA ls 0 fun x => Rv 28 12 ls (x :: st) w := R_ldA Q28 (by decide +kernel) rfl
theorem e28_12 {ls : zL} {st : List Value} {w : zW} {a : Nat} : Rv 28 12 ls (.ref a :: st) w = gF w a 1 4 fun v => Rv 28 15 ls (v :: st) w := R_gF (z := 187) Q28 (by decide +kernel) rfl
theorem e28_15 {ls : zL} {st : List Value} {w : zW} : Rv 28 15 ls st w = ldA ls 1 fun x => Rv 28 16 ls (x :: st) w := R_ldA Q28 (by decide +kernel) rfl
theorem e28_16 {ls : zL} {st : List Value} {w : zW} {a : Nat} : Rv 28 16 ls (.ref a :: st) w = gF w a 2 1 fun v => Rv 28 19 ls (v :: st) w := R_gF (z := 129) Q28 (by decide +kernel) rfl
theorem e28_19 {ls : zL} {st : List Value} {w : zW} {x y : Int32} : Rv 28 19 ls (.int y :: .int x :: st) w = if x = y then Rv 28 22 ls st w else Rv 28 50 ls st w := R_fine Q28 (by decide +kernel) rfl rfl
theorem e28_22 {ls : zL} {st : List Value} {w : zW} : Rv 28 22 ls st w = ldA ls 0 fun x => Rv 28 23 ls (x :: st) w := R_ldA Q28 (by decide +kernel) rfl
theorem e28_23 {ls : zL} {st : List Value} {w : zW} {a : Nat} : Rv 28 23 ls (.ref a :: st) w = gF w a 1 5 fun v => Rv 28 26 ls (v :: st) w := R_gF (z := 188) Q28 (by decide +kernel) rfl
theorem e28_26 {ls : zL} {st : List Value} {w : zW} : Rv 28 26 ls st w = ldA ls 1 fun x => Rv 28 27 ls (x :: st) w := R_ldA Q28 (by decide +kernel) rfl
theorem e28_27 {ls : zL} {st : List Value} {w : zW} : Rv 28 27 ls st w = Rv 28 28 ls (.int 0 :: st) w := R_con Q28 (by decide +kernel) rfl (by decide)
theorem e28_28 {ls : zL} {w : zW} {n1 : Int32} {a0 : Nat} {n2 : Int32} : Rv 28 28 ls [.int n1, .ref a0, .int n2] w = hO w a0 2 (cal (Rv 35 0 [some (.ref a0), some (.int n1)] [] w) (fun v w' => Rv 28 31 ls (vts v [.int n2]) w') (xnone)) := R_calV (z := 335) (r := [.int n2]) Q28 (by decide +kernel) rfl rfl Q35 rfl rfl rfl
theorem e28_31 {ls : zL} {st : List Value} {w : zW} {x y : Int32} : Rv 28 31 ls (.int y :: .int x :: st) w = if x = y then Rv 28 34 ls st w else Rv 28 50 ls st w := R_fine Q28 (by decide +kernel) rfl rfl
theorem e28_34 {ls : zL} {st : List Value} {w : zW} : Rv 28 34 ls st w = ldA ls 0 fun x => Rv 28 35 ls (x :: st) w := R_ldA Q28 (by decide +kernel) rfl
theorem e28_35 {ls : zL} {st : List Value} {w : zW} {a : Nat} : Rv 28 35 ls (.ref a :: st) w = gF w a 1 6 fun v => Rv 28 38 ls (v :: st) w := R_gF (z := 189) Q28 (by decide +kernel) rfl
theorem e28_38 {ls : zL} {st : List Value} {w : zW} : Rv 28 38 ls st w = ldA ls 1 fun x => Rv 28 39 ls (x :: st) w := R_ldA Q28 (by decide +kernel) rfl
theorem e28_39 {ls : zL} {st : List Value} {w : zW} : Rv 28 39 ls st w = Rv 28 40 ls (.int 1 :: st) w := R_con Q28 (by decide +kernel) rfl (by decide)
theorem e28_40 {ls : zL} {w : zW} {n1 : Int32} {a0 : Nat} {n2 : Int32} : Rv 28 40 ls [.int n1, .ref a0, .int n2] w = hO w a0 2 (cal (Rv 35 0 [some (.ref a0), some (.int n1)] [] w) (fun v w' => Rv 28 43 ls (vts v [.int n2]) w') (xnone)) := R_calV (z := 335) (r := [.int n2]) Q28 (by decide +kernel) rfl rfl Q35 rfl rfl rfl
theorem e28_43 {ls : zL} {st : List Value} {w : zW} {x y : Int32} : Rv 28 43 ls (.int y :: .int x :: st) w = if x = y then Rv 28 46 ls st w else Rv 28 50 ls st w := R_fine Q28 (by decide +kernel) rfl rfl
theorem e28_46 {ls : zL} {st : List Value} {w : zW} : Rv 28 46 ls st w = Rv 28 47 ls (.int 1 :: st) w := R_con Q28 (by decide +kernel) rfl (by decide)
theorem e28_47 {ls : zL} {st : List Value} {w : zW} : Rv 28 47 ls st w = Rv 28 51 ls st w := R_go Q28 (by decide +kernel) rfl rfl
theorem e28_50 {ls : zL} {st : List Value} {w : zW} : Rv 28 50 ls st w = Rv 28 51 ls (.int 0 :: st) w := R_con Q28 (by decide +kernel) rfl (by decide)
theorem e28_51 {ls : zL} {w : zW} {x : Int32} : Rv 28 51 ls [.int x] w = if x = 0 ∨ x = 1 then some (.inl (some (.int x)), w) else none := R_retZ Q28 (by decide +kernel) rfl
/-! MasterPins$LawfulCodes.collect -/
theorem e29_0 {ls : zL} {st : List Value} {w : zW} : Rv 29 0 ls st w = ldA ls 0 fun x => Rv 29 1 ls (x :: st) w := R_ldA Q29 (by decide +kernel) rfl
theorem e29_1 {ls : zL} {st : List Value} {w : zW} : Rv 29 1 ls st w = ldA ls 1 fun x => Rv 29 2 ls (x :: st) w := R_ldA Q29 (by decide +kernel) rfl
theorem e29_2 {ls : zL} {st : List Value} {w : zW} {a : Nat} : Rv 29 2 ls (.ref a :: st) w = gF w a 2 0 fun v => Rv 29 5 ls (v :: st) w := R_gF (z := 126) Q29 (by decide +kernel) rfl
theorem e29_5 {ls : zL} {st : List Value} {w : zW} {x : Int32} {a : Nat} : Rv 29 5 ls (.int x :: .ref a :: st) w = pF w a 1 3 (.int x) fun w' => Rv 29 8 ls st w' := R_pF (z := 186) Q29 (by decide +kernel) rfl ⟨by decide, rfl, Or.inl rfl⟩
theorem e29_8 {ls : zL} {st : List Value} {w : zW} : Rv 29 8 ls st w = ldA ls 0 fun x => Rv 29 9 ls (x :: st) w := R_ldA Q29 (by decide +kernel) rfl
theorem e29_9 {ls : zL} {st : List Value} {w : zW} : Rv 29 9 ls st w = ldA ls 1 fun x => Rv 29 10 ls (x :: st) w := R_ldA Q29 (by decide +kernel) rfl
theorem e29_10 {ls : zL} {st : List Value} {w : zW} {a : Nat} : Rv 29 10 ls (.ref a :: st) w = gF w a 2 1 fun v => Rv 29 13 ls (v :: st) w := R_gF (z := 129) Q29 (by decide +kernel) rfl
theorem e29_13 {ls : zL} {st : List Value} {w : zW} {x : Int32} {a : Nat} : Rv 29 13 ls (.int x :: .ref a :: st) w = pF w a 1 4 (.int x) fun w' => Rv 29 16 ls st w' := R_pF (z := 187) Q29 (by decide +kernel) rfl ⟨by decide, rfl, Or.inl rfl⟩
theorem e29_16 {ls : zL} {st : List Value} {w : zW} : Rv 29 16 ls st w = ldA ls 0 fun x => Rv 29 17 ls (x :: st) w := R_ldA Q29 (by decide +kernel) rfl
theorem e29_17 {ls : zL} {st : List Value} {w : zW} : Rv 29 17 ls st w = ldA ls 1 fun x => Rv 29 18 ls (x :: st) w := R_ldA Q29 (by decide +kernel) rfl
theorem e29_18 {ls : zL} {st : List Value} {w : zW} : Rv 29 18 ls st w = Rv 29 19 ls (.int 0 :: st) w := R_con Q29 (by decide +kernel) rfl (by decide)
theorem e29_19 {ls : zL} {w : zW} {n1 : Int32} {a0 : Nat} {a2 : Nat} : Rv 29 19 ls [.int n1, .ref a0, .ref a2] w = hO w a0 2 (cal (Rv 35 0 [some (.ref a0), some (.int n1)] [] w) (fun v w' => Rv 29 22 ls (vts v [.ref a2]) w') (xnone)) := R_calV (z := 335) (r := [.ref a2]) Q29 (by decide +kernel) rfl rfl Q35 rfl rfl rfl
theorem e29_22 {ls : zL} {st : List Value} {w : zW} {x : Int32} {a : Nat} : Rv 29 22 ls (.int x :: .ref a :: st) w = pF w a 1 5 (.int x) fun w' => Rv 29 25 ls st w' := R_pF (z := 188) Q29 (by decide +kernel) rfl ⟨by decide, rfl, Or.inl rfl⟩
theorem e29_25 {ls : zL} {st : List Value} {w : zW} : Rv 29 25 ls st w = ldA ls 0 fun x => Rv 29 26 ls (x :: st) w := R_ldA Q29 (by decide +kernel) rfl
theorem e29_26 {ls : zL} {st : List Value} {w : zW} : Rv 29 26 ls st w = ldA ls 1 fun x => Rv 29 27 ls (x :: st) w := R_ldA Q29 (by decide +kernel) rfl
theorem e29_27 {ls : zL} {st : List Value} {w : zW} : Rv 29 27 ls st w = Rv 29 28 ls (.int 1 :: st) w := R_con Q29 (by decide +kernel) rfl (by decide)
theorem e29_28 {ls : zL} {w : zW} {n1 : Int32} {a0 : Nat} {a2 : Nat} : Rv 29 28 ls [.int n1, .ref a0, .ref a2] w = hO w a0 2 (cal (Rv 35 0 [some (.ref a0), some (.int n1)] [] w) (fun v w' => Rv 29 31 ls (vts v [.ref a2]) w') (xnone)) := R_calV (z := 335) (r := [.ref a2]) Q29 (by decide +kernel) rfl rfl Q35 rfl rfl rfl
theorem e29_31 {ls : zL} {st : List Value} {w : zW} {x : Int32} {a : Nat} : Rv 29 31 ls (.int x :: .ref a :: st) w = pF w a 1 6 (.int x) fun w' => Rv 29 34 ls st w' := R_pF (z := 189) Q29 (by decide +kernel) rfl ⟨by decide, rfl, Or.inl rfl⟩
theorem e29_34 {ls : zL} {st : List Value} {w : zW} : Rv 29 34 ls st w = Rv 29 35 ls (.int 1 :: st) w := R_con Q29 (by decide +kernel) rfl (by decide)
theorem e29_35 {ls : zL} {st : List Value} {w : zW} {x : Int32} : Rv 29 35 ls (.int x :: st) w = lst ls 2 (some (.int x)) fun l => Rv 29 36 l st w := R_st Q29 (by decide +kernel) rfl
theorem e29_36 {ls : zL} {st : List Value} {w : zW} : Rv 29 36 ls st w = Rv 29 37 ls (.int 0 :: st) w := R_con Q29 (by decide +kernel) rfl (by decide)
theorem e29_37 {ls : zL} {st : List Value} {w : zW} {x : Int32} : Rv 29 37 ls (.int x :: st) w = lst ls 3 (some (.int x)) fun l => Rv 29 38 l st w := R_st Q29 (by decide +kernel) rfl
theorem h29_38 {ls : zL} {st : List Value} {w : zW} : Rv 29 38 ls st w = ldI ls 3 fun x => Rv 29 39 ls (.int x :: st) w := R_ldI Q29 (by decide +kernel) rfl
theorem e29_39 {ls : zL} {st : List Value} {w : zW} : Rv 29 39 ls st w = ldA ls 1 fun x => Rv 29 40 ls (x :: st) w := R_ldA Q29 (by decide +kernel) rfl
theorem e29_40 {ls : zL} {st : List Value} {w : zW} {a : Nat} : Rv 29 40 ls (.ref a :: st) w = gF w a 2 0 fun v => Rv 29 43 ls (v :: st) w := R_gF (z := 126) Q29 (by decide +kernel) rfl
theorem e29_43 {ls : zL} {st : List Value} {w : zW} {x y : Int32} : Rv 29 43 ls (.int y :: .int x :: st) w = if x < y then Rv 29 46 ls st w else Rv 29 57 ls st w := R_fige Q29 (by decide +kernel) rfl rfl
theorem e29_46 {ls : zL} {st : List Value} {w : zW} : Rv 29 46 ls st w = ldI ls 2 fun x => Rv 29 47 ls (.int x :: st) w := R_ldI Q29 (by decide +kernel) rfl
theorem e29_47 {ls : zL} {st : List Value} {w : zW} : Rv 29 47 ls st w = Rv 29 49 ls (.int 10 :: st) w := R_con Q29 (by decide +kernel) rfl (by decide)
theorem e29_49 {ls : zL} {st : List Value} {w : zW} {x y : Int32} : Rv 29 49 ls (.int y :: .int x :: st) w = Rv 29 50 ls (.int (x * y) :: st) w := R_next Q29 (by decide +kernel) rfl
theorem e29_50 {ls : zL} {st : List Value} {w : zW} {x : Int32} : Rv 29 50 ls (.int x :: st) w = lst ls 2 (some (.int x)) fun l => Rv 29 51 l st w := R_st Q29 (by decide +kernel) rfl
theorem e29_51 {ls : zL} {st : List Value} {w : zW} : Rv 29 51 ls st w = ldI ls 3 fun x => lst ls 3 (some (.int (x + 1))) fun l => Rv 29 54 l st w := R_iinc Q29 (by decide +kernel) (by decide)
theorem e29_54 {ls : zL} {st : List Value} {w : zW} : Rv 29 54 ls st w = Rv 29 38 ls st w := R_go Q29 (by decide +kernel) rfl rfl
theorem e29_57 {ls : zL} {st : List Value} {w : zW} : Rv 29 57 ls st w = ldA ls 0 fun x => Rv 29 58 ls (x :: st) w := R_ldA Q29 (by decide +kernel) rfl
theorem e29_58 {ls : zL} {st : List Value} {w : zW} : Rv 29 58 ls st w = Rv 29 59 ls (.int 0 :: st) w := R_con Q29 (by decide +kernel) rfl (by decide)
theorem e29_59 {ls : zL} {st : List Value} {w : zW} {x : Int32} {a : Nat} : Rv 29 59 ls (.int x :: .ref a :: st) w = pF w a 1 2 (.int x) fun w' => Rv 29 62 ls st w' := R_pF (z := 185) Q29 (by decide +kernel) rfl ⟨by decide, rfl, Or.inl rfl⟩
theorem e29_62 {ls : zL} {st : List Value} {w : zW} : Rv 29 62 ls st w = Rv 29 63 ls (.int 0 :: st) w := R_con Q29 (by decide +kernel) rfl (by decide)
theorem e29_63 {ls : zL} {st : List Value} {w : zW} {x : Int32} : Rv 29 63 ls (.int x :: st) w = lst ls 3 (some (.int x)) fun l => Rv 29 64 l st w := R_st Q29 (by decide +kernel) rfl
theorem h29_64 {ls : zL} {st : List Value} {w : zW} : Rv 29 64 ls st w = ldI ls 3 fun x => Rv 29 65 ls (.int x :: st) w := R_ldI Q29 (by decide +kernel) rfl
theorem e29_65 {ls : zL} {st : List Value} {w : zW} : Rv 29 65 ls st w = ldI ls 2 fun x => Rv 29 66 ls (.int x :: st) w := R_ldI Q29 (by decide +kernel) rfl
theorem e29_66 {ls : zL} {st : List Value} {w : zW} {x y : Int32} : Rv 29 66 ls (.int y :: .int x :: st) w = if x < y then Rv 29 69 ls st w else Rv 29 130 ls st w := R_fige Q29 (by decide +kernel) rfl rfl
theorem e29_69 {ls : zL} {st : List Value} {w : zW} : Rv 29 69 ls st w = ldA ls 1 fun x => Rv 29 70 ls (x :: st) w := R_ldA Q29 (by decide +kernel) rfl
theorem e29_70 {ls : zL} {st : List Value} {w : zW} : Rv 29 70 ls st w = ldI ls 3 fun x => Rv 29 71 ls (.int x :: st) w := R_ldI Q29 (by decide +kernel) rfl
theorem e29_71 {ls : zL} {w : zW} {n1 : Int32} {a0 : Nat} : Rv 29 71 ls [.int n1, .ref a0] w = hO w a0 2 (cal (Rv 59 0 [some (.ref a0), some (.int n1), none] [] w) (fun v w' => Rv 29 74 ls (vts v []) w') (xnone)) := R_calV (z := 343) (r := []) Q29 (by decide +kernel) rfl rfl Q59 rfl rfl rfl
theorem e29_74 {ls : zL} {st : List Value} {w : zW} {x : Int32} : Rv 29 74 ls (.int x :: st) w = if x = 0 then Rv 29 77 ls st w else Rv 29 124 ls st w := R_f0ne Q29 (by decide +kernel) rfl rfl
theorem e29_77 {ls : zL} {st : List Value} {w : zW} : Rv 29 77 ls st w = ldA ls 0 fun x => Rv 29 78 ls (x :: st) w := R_ldA Q29 (by decide +kernel) rfl
theorem e29_78 {ls : zL} {st : List Value} {w : zW} {a : Nat} : Rv 29 78 ls (.ref a :: st) w = gF w a 1 2 fun v => Rv 29 81 ls (v :: st) w := R_gF (z := 185) Q29 (by decide +kernel) rfl
theorem e29_81 {ls : zL} {st : List Value} {w : zW} : Rv 29 81 ls st w = Rv 29 84 ls (.int 1296 :: st) w := R_con Q29 (by decide +kernel) rfl (by decide)
theorem e29_84 {ls : zL} {st : List Value} {w : zW} {x y : Int32} : Rv 29 84 ls (.int y :: .int x :: st) w = if x < y then Rv 29 87 ls st w else Rv 29 124 ls st w := R_fige Q29 (by decide +kernel) rfl rfl
theorem e29_87 {ls : zL} {st : List Value} {w : zW} : Rv 29 87 ls st w = ldA ls 0 fun x => Rv 29 88 ls (x :: st) w := R_ldA Q29 (by decide +kernel) rfl
theorem e29_88 {ls : zL} {st : List Value} {w : zW} {a : Nat} : Rv 29 88 ls (.ref a :: st) w = gF w a 1 0 fun v => Rv 29 91 ls (v :: st) w := R_gF (z := 182) Q29 (by decide +kernel) rfl
theorem e29_91 {ls : zL} {st : List Value} {w : zW} : Rv 29 91 ls st w = ldA ls 0 fun x => Rv 29 92 ls (x :: st) w := R_ldA Q29 (by decide +kernel) rfl
theorem e29_92 {ls : zL} {st : List Value} {w : zW} {a : Nat} : Rv 29 92 ls (.ref a :: st) w = gF w a 1 2 fun v => Rv 29 95 ls (v :: st) w := R_gF (z := 185) Q29 (by decide +kernel) rfl
theorem e29_95 {ls : zL} {st : List Value} {w : zW} : Rv 29 95 ls st w = ldI ls 3 fun x => Rv 29 96 ls (.int x :: st) w := R_ldI Q29 (by decide +kernel) rfl
theorem e29_96 {ls : zL} {st : List Value} {w : zW} {a : Nat} {x y : Int32} : Rv 29 96 ls (.int y :: .int x :: .ref a :: st) w = pI w a 0 x y fun w' => Rv 29 97 ls st w' := R_iast Q29 (by decide +kernel)
theorem e29_97 {ls : zL} {st : List Value} {w : zW} : Rv 29 97 ls st w = ldA ls 0 fun x => Rv 29 98 ls (x :: st) w := R_ldA Q29 (by decide +kernel) rfl
theorem e29_98 {ls : zL} {st : List Value} {w : zW} {a : Nat} : Rv 29 98 ls (.ref a :: st) w = gF w a 1 1 fun v => Rv 29 101 ls (v :: st) w := R_gF (z := 183) Q29 (by decide +kernel) rfl
theorem e29_101 {ls : zL} {st : List Value} {w : zW} : Rv 29 101 ls st w = ldA ls 0 fun x => Rv 29 102 ls (x :: st) w := R_ldA Q29 (by decide +kernel) rfl
theorem e29_102 {ls : zL} {st : List Value} {w : zW} {a : Nat} : Rv 29 102 ls (.ref a :: st) w = gF w a 1 2 fun v => Rv 29 105 ls (v :: st) w := R_gF (z := 185) Q29 (by decide +kernel) rfl
theorem e29_105 {ls : zL} {st : List Value} {w : zW} : Rv 29 105 ls st w = ldI ls 3 fun x => Rv 29 106 ls (.int x :: st) w := R_ldI Q29 (by decide +kernel) rfl
theorem e29_106 {ls : zL} {st : List Value} {w : zW} : Rv 29 106 ls st w = ldA ls 1 fun x => Rv 29 107 ls (x :: st) w := R_ldA Q29 (by decide +kernel) rfl
theorem e29_107 {ls : zL} {st : List Value} {w : zW} {a : Nat} : Rv 29 107 ls (.ref a :: st) w = gF w a 2 0 fun v => Rv 29 110 ls (v :: st) w := R_gF (z := 126) Q29 (by decide +kernel) rfl
theorem e29_110 {ls : zL} {w : zW} {n1 : Int32} {n2 : Int32} {n3 : Int32} {a4 : Nat} : Rv 29 110 ls [.int n1, .int n2, .int n3, .ref a4] w = cal (Rv 16 0 [some (.int n2), some (.int n1), none, none, none] [] w) (fun v w' => Rv 29 113 ls (vts v [.int n3, .ref a4]) w') (xnone) := R_calS (z := 377) (kd := 1) (n := 2) Q29 (by decide +kernel) rfl (Or.inl rfl) (Nat.le_of_ble_eq_true rfl) rfl Q16 rfl rfl rfl
theorem e29_113 {ls : zL} {st : List Value} {w : zW} {a : Nat} {x y : Int32} : Rv 29 113 ls (.int y :: .int x :: .ref a :: st) w = pI w a 0 x y fun w' => Rv 29 114 ls st w' := R_iast Q29 (by decide +kernel)
theorem e29_114 {ls : zL} {st : List Value} {w : zW} : Rv 29 114 ls st w = ldA ls 0 fun x => Rv 29 115 ls (x :: st) w := R_ldA Q29 (by decide +kernel) rfl
theorem e29_115 {ls : zL} {st : List Value} {w : zW} {x : Nat} : Rv 29 115 ls (.ref x :: st) w = Rv 29 116 ls (.ref x :: .ref x :: st) w := R_next Q29 (by decide +kernel) rfl
theorem e29_116 {ls : zL} {st : List Value} {w : zW} {a : Nat} : Rv 29 116 ls (.ref a :: st) w = gF w a 1 2 fun v => Rv 29 119 ls (v :: st) w := R_gF (z := 185) Q29 (by decide +kernel) rfl
theorem e29_119 {ls : zL} {st : List Value} {w : zW} : Rv 29 119 ls st w = Rv 29 120 ls (.int 1 :: st) w := R_con Q29 (by decide +kernel) rfl (by decide)
theorem e29_120 {ls : zL} {st : List Value} {w : zW} {x y : Int32} : Rv 29 120 ls (.int y :: .int x :: st) w = Rv 29 121 ls (.int (x + y) :: st) w := R_next Q29 (by decide +kernel) rfl
theorem e29_121 {ls : zL} {st : List Value} {w : zW} {x : Int32} {a : Nat} : Rv 29 121 ls (.int x :: .ref a :: st) w = pF w a 1 2 (.int x) fun w' => Rv 29 124 ls st w' := R_pF (z := 185) Q29 (by decide +kernel) rfl ⟨by decide, rfl, Or.inl rfl⟩
theorem e29_124 {ls : zL} {st : List Value} {w : zW} : Rv 29 124 ls st w = ldI ls 3 fun x => lst ls 3 (some (.int (x + 1))) fun l => Rv 29 127 l st w := R_iinc Q29 (by decide +kernel) (by decide)
theorem e29_127 {ls : zL} {st : List Value} {w : zW} : Rv 29 127 ls st w = Rv 29 64 ls st w := R_go Q29 (by decide +kernel) rfl rfl
theorem e29_130 {ls : zL} {w : zW} : Rv 29 130 ls [] w = some (.inl none, w) := R_retV Q29 (by decide +kernel) rfl
/-! MasterPins$Plan.<init> -/
theorem e30_0 {ls : zL} {st : List Value} {w : zW} : Rv 30 0 ls st w = ldA ls 0 fun x => Rv 30 1 ls (x :: st) w := R_ldA Q30 (by decide +kernel) rfl
theorem e30_1 {ls : zL} {w : zW}  {a : Nat} : Rv 30 1 ls [.ref a] w = Rv 30 4 ls [] w := R_obj (z := (0, 0, 123)) Q30 (by decide +kernel) rfl ⟨Nat.le_of_ble_eq_true rfl, Nat.le_of_ble_eq_true rfl, Nat.le_of_ble_eq_true rfl⟩
theorem e30_4 {ls : zL} {st : List Value} {w : zW} : Rv 30 4 ls st w = ldA ls 0 fun x => Rv 30 5 ls (x :: st) w := R_ldA Q30 (by decide +kernel) rfl
theorem e30_5 {ls : zL} {st : List Value} {w : zW} : Rv 30 5 ls st w = Rv 30 6 ls (.int 3 :: st) w := R_con Q30 (by decide +kernel) rfl (by decide)
theorem e30_6 {ls : zL} {st : List Value} {w : zW} {x : Int32} {a : Nat} : Rv 30 6 ls (.int x :: .ref a :: st) w = pF w a 2 0 (.int x) fun w' => Rv 30 9 ls st w' := R_pF (z := 124) Q30 (by decide +kernel) rfl ⟨by decide, rfl, Or.inl rfl⟩
theorem e30_9 {ls : zL} {st : List Value} {w : zW} : Rv 30 9 ls st w = ldA ls 0 fun x => Rv 30 10 ls (x :: st) w := R_ldA Q30 (by decide +kernel) rfl
theorem e30_10 {ls : zL} {st : List Value} {w : zW} : Rv 30 10 ls st w = Rv 30 11 ls (.int 5 :: st) w := R_con Q30 (by decide +kernel) rfl (by decide)
theorem e30_11 {ls : zL} {st : List Value} {w : zW} {x : Int32} {a : Nat} : Rv 30 11 ls (.int x :: .ref a :: st) w = pF w a 2 1 (.int x) fun w' => Rv 30 14 ls st w' := R_pF (z := 128) Q30 (by decide +kernel) rfl ⟨by decide, rfl, Or.inl rfl⟩
theorem e30_14 {ls : zL} {st : List Value} {w : zW} : Rv 30 14 ls st w = ldA ls 0 fun x => Rv 30 15 ls (x :: st) w := R_ldA Q30 (by decide +kernel) rfl
theorem e30_15 {ls : zL} {st : List Value} {w : zW} : Rv 30 15 ls st w = Rv 30 16 ls (.int 3 :: st) w := R_con Q30 (by decide +kernel) rfl (by decide)
theorem e30_16 {ls : zL} {st : List Value} {w : zW} : Rv 30 16 ls (.int 3 :: st) w = nw w 3 (.inl (0, 3, .inl fun _ => 0)) fun a w' => Rv 30 18 ls (.ref a :: st) w' := R_newa (z := 0) Q30 (by decide +kernel) rfl rfl (by decide) (by decide)
theorem e30_18 {ls : zL} {st : List Value} {w : zW} {x : Nat} {a : Nat} : Rv 30 18 ls (.ref x :: .ref a :: st) w = pF w a 2 2 (.ref x) fun w' => Rv 30 21 ls st w' := R_pF (z := 131) Q30 (by decide +kernel) rfl ⟨by decide, rfl, Or.inr ⟨rfl, rfl⟩⟩
theorem e30_18n {ls : zL} {st : List Value} {w : zW}  {a : Nat} : Rv 30 18 ls (.null :: .ref a :: st) w = pF w a 2 2 (.null) fun w' => Rv 30 21 ls st w' := R_pF (z := 131) Q30 (by decide +kernel) rfl ⟨by decide, rfl, Or.inr ⟨rfl, rfl⟩⟩
theorem e30_21 {ls : zL} {st : List Value} {w : zW} : Rv 30 21 ls st w = ldA ls 0 fun x => Rv 30 22 ls (x :: st) w := R_ldA Q30 (by decide +kernel) rfl
theorem e30_22 {ls : zL} {st : List Value} {w : zW} {a : Nat} : Rv 30 22 ls (.ref a :: st) w = gF w a 2 2 fun v => Rv 30 25 ls (v :: st) w := R_gF (z := 131) Q30 (by decide +kernel) rfl
theorem e30_25 {ls : zL} {st : List Value} {w : zW} : Rv 30 25 ls st w = Rv 30 26 ls (.int 0 :: st) w := R_con Q30 (by decide +kernel) rfl (by decide)
theorem e30_26 {ls : zL} {st : List Value} {w : zW} : Rv 30 26 ls st w = Rv 30 27 ls (.int 5 :: st) w := R_con Q30 (by decide +kernel) rfl (by decide)
theorem e30_27 {ls : zL} {st : List Value} {w : zW} {a : Nat} {x y : Int32} : Rv 30 27 ls (.int y :: .int x :: .ref a :: st) w = pI w a 0 x y fun w' => Rv 30 28 ls st w' := R_iast Q30 (by decide +kernel)
theorem e30_28 {ls : zL} {st : List Value} {w : zW} : Rv 30 28 ls st w = ldA ls 0 fun x => Rv 30 29 ls (x :: st) w := R_ldA Q30 (by decide +kernel) rfl
theorem e30_29 {ls : zL} {st : List Value} {w : zW} {a : Nat} : Rv 30 29 ls (.ref a :: st) w = gF w a 2 2 fun v => Rv 30 32 ls (v :: st) w := R_gF (z := 131) Q30 (by decide +kernel) rfl
theorem e30_32 {ls : zL} {st : List Value} {w : zW} : Rv 30 32 ls st w = Rv 30 33 ls (.int 1 :: st) w := R_con Q30 (by decide +kernel) rfl (by decide)
theorem e30_33 {ls : zL} {st : List Value} {w : zW} : Rv 30 33 ls st w = Rv 30 34 ls (.int 1 :: st) w := R_con Q30 (by decide +kernel) rfl (by decide)
theorem e30_34 {ls : zL} {st : List Value} {w : zW} {a : Nat} {x y : Int32} : Rv 30 34 ls (.int y :: .int x :: .ref a :: st) w = pI w a 0 x y fun w' => Rv 30 35 ls st w' := R_iast Q30 (by decide +kernel)
theorem e30_35 {ls : zL} {st : List Value} {w : zW} : Rv 30 35 ls st w = ldA ls 0 fun x => Rv 30 36 ls (x :: st) w := R_ldA Q30 (by decide +kernel) rfl
theorem e30_36 {ls : zL} {st : List Value} {w : zW} {a : Nat} : Rv 30 36 ls (.ref a :: st) w = gF w a 2 2 fun v => Rv 30 39 ls (v :: st) w := R_gF (z := 131) Q30 (by decide +kernel) rfl
theorem e30_39 {ls : zL} {st : List Value} {w : zW} : Rv 30 39 ls st w = Rv 30 40 ls (.int 2 :: st) w := R_con Q30 (by decide +kernel) rfl (by decide)
theorem e30_40 {ls : zL} {st : List Value} {w : zW} : Rv 30 40 ls st w = Rv 30 41 ls (.int 1 :: st) w := R_con Q30 (by decide +kernel) rfl (by decide)
theorem e30_41 {ls : zL} {st : List Value} {w : zW} {a : Nat} {x y : Int32} : Rv 30 41 ls (.int y :: .int x :: .ref a :: st) w = pI w a 0 x y fun w' => Rv 30 42 ls st w' := R_iast Q30 (by decide +kernel)
theorem e30_42 {ls : zL} {st : List Value} {w : zW} : Rv 30 42 ls st w = ldA ls 0 fun x => Rv 30 43 ls (x :: st) w := R_ldA Q30 (by decide +kernel) rfl
theorem e30_43 {ls : zL} {st : List Value} {w : zW} : Rv 30 43 ls st w = Rv 30 45 ls (.int 16 :: st) w := R_con Q30 (by decide +kernel) rfl (by decide)
theorem e30_45 {ls : zL} {st : List Value} {w : zW} : Rv 30 45 ls (.int 16 :: st) w = nw w 16 (.inl (0, 16, .inl fun _ => 0)) fun a w' => Rv 30 47 ls (.ref a :: st) w' := R_newa (z := 0) Q30 (by decide +kernel) rfl rfl (by decide) (by decide)
theorem e30_47 {ls : zL} {st : List Value} {w : zW} {x : Nat} {a : Nat} : Rv 30 47 ls (.ref x :: .ref a :: st) w = pF w a 2 4 (.ref x) fun w' => Rv 30 50 ls st w' := R_pF (z := 134) Q30 (by decide +kernel) rfl ⟨by decide, rfl, Or.inr ⟨rfl, rfl⟩⟩
theorem e30_47n {ls : zL} {st : List Value} {w : zW}  {a : Nat} : Rv 30 47 ls (.null :: .ref a :: st) w = pF w a 2 4 (.null) fun w' => Rv 30 50 ls st w' := R_pF (z := 134) Q30 (by decide +kernel) rfl ⟨by decide, rfl, Or.inr ⟨rfl, rfl⟩⟩
theorem e30_50 {ls : zL} {st : List Value} {w : zW} : Rv 30 50 ls st w = ldA ls 0 fun x => Rv 30 51 ls (x :: st) w := R_ldA Q30 (by decide +kernel) rfl
theorem e30_51 {ls : zL} {st : List Value} {w : zW} : Rv 30 51 ls st w = Rv 30 53 ls (.int 16 :: st) w := R_con Q30 (by decide +kernel) rfl (by decide)
theorem e30_53 {ls : zL} {st : List Value} {w : zW} : Rv 30 53 ls (.int 16 :: st) w = nw w 16 (.inl (0, 16, .inl fun _ => 0)) fun a w' => Rv 30 55 ls (.ref a :: st) w' := R_newa (z := 0) Q30 (by decide +kernel) rfl rfl (by decide) (by decide)
theorem e30_55 {ls : zL} {st : List Value} {w : zW} {x : Nat} {a : Nat} : Rv 30 55 ls (.ref x :: .ref a :: st) w = pF w a 2 5 (.ref x) fun w' => Rv 30 58 ls st w' := R_pF (z := 135) Q30 (by decide +kernel) rfl ⟨by decide, rfl, Or.inr ⟨rfl, rfl⟩⟩
theorem e30_55n {ls : zL} {st : List Value} {w : zW}  {a : Nat} : Rv 30 55 ls (.null :: .ref a :: st) w = pF w a 2 5 (.null) fun w' => Rv 30 58 ls st w' := R_pF (z := 135) Q30 (by decide +kernel) rfl ⟨by decide, rfl, Or.inr ⟨rfl, rfl⟩⟩
theorem e30_58 {ls : zL} {st : List Value} {w : zW} : Rv 30 58 ls st w = ldA ls 0 fun x => Rv 30 59 ls (x :: st) w := R_ldA Q30 (by decide +kernel) rfl
theorem e30_59 {ls : zL} {st : List Value} {w : zW} : Rv 30 59 ls st w = Rv 30 61 ls (.int 16 :: st) w := R_con Q30 (by decide +kernel) rfl (by decide)
theorem e30_61 {ls : zL} {st : List Value} {w : zW} : Rv 30 61 ls (.int 16 :: st) w = nw w 16 (.inl (0, 16, .inl fun _ => 0)) fun a w' => Rv 30 63 ls (.ref a :: st) w' := R_newa (z := 0) Q30 (by decide +kernel) rfl rfl (by decide) (by decide)
theorem e30_63 {ls : zL} {st : List Value} {w : zW} {x : Nat} {a : Nat} : Rv 30 63 ls (.ref x :: .ref a :: st) w = pF w a 2 6 (.ref x) fun w' => Rv 30 66 ls st w' := R_pF (z := 136) Q30 (by decide +kernel) rfl ⟨by decide, rfl, Or.inr ⟨rfl, rfl⟩⟩
theorem e30_63n {ls : zL} {st : List Value} {w : zW}  {a : Nat} : Rv 30 63 ls (.null :: .ref a :: st) w = pF w a 2 6 (.null) fun w' => Rv 30 66 ls st w' := R_pF (z := 136) Q30 (by decide +kernel) rfl ⟨by decide, rfl, Or.inr ⟨rfl, rfl⟩⟩
theorem e30_66 {ls : zL} {st : List Value} {w : zW} : Rv 30 66 ls st w = ldA ls 0 fun x => Rv 30 67 ls (x :: st) w := R_ldA Q30 (by decide +kernel) rfl
theorem e30_67 {ls : zL} {st : List Value} {w : zW} : Rv 30 67 ls st w = Rv 30 69 ls (.int 16 :: st) w := R_con Q30 (by decide +kernel) rfl (by decide)
theorem e30_69 {ls : zL} {st : List Value} {w : zW} : Rv 30 69 ls (.int 16 :: st) w = nw w 16 (.inl (0, 16, .inl fun _ => 0)) fun a w' => Rv 30 71 ls (.ref a :: st) w' := R_newa (z := 0) Q30 (by decide +kernel) rfl rfl (by decide) (by decide)
theorem e30_71 {ls : zL} {st : List Value} {w : zW} {x : Nat} {a : Nat} : Rv 30 71 ls (.ref x :: .ref a :: st) w = pF w a 2 7 (.ref x) fun w' => Rv 30 74 ls st w' := R_pF (z := 137) Q30 (by decide +kernel) rfl ⟨by decide, rfl, Or.inr ⟨rfl, rfl⟩⟩
theorem e30_71n {ls : zL} {st : List Value} {w : zW}  {a : Nat} : Rv 30 71 ls (.null :: .ref a :: st) w = pF w a 2 7 (.null) fun w' => Rv 30 74 ls st w' := R_pF (z := 137) Q30 (by decide +kernel) rfl ⟨by decide, rfl, Or.inr ⟨rfl, rfl⟩⟩
theorem e30_74 {ls : zL} {st : List Value} {w : zW} : Rv 30 74 ls st w = ldA ls 0 fun x => Rv 30 75 ls (x :: st) w := R_ldA Q30 (by decide +kernel) rfl
theorem e30_75 {ls : zL} {st : List Value} {w : zW} : Rv 30 75 ls st w = Rv 30 77 ls (.int 12 :: st) w := R_con Q30 (by decide +kernel) rfl (by decide)
theorem e30_77 {ls : zL} {st : List Value} {w : zW} : Rv 30 77 ls (.int 12 :: st) w = nw w 12 (.inl (0, 12, .inl fun _ => 0)) fun a w' => Rv 30 79 ls (.ref a :: st) w' := R_newa (z := 0) Q30 (by decide +kernel) rfl rfl (by decide) (by decide)
theorem e30_79 {ls : zL} {st : List Value} {w : zW} {x : Nat} {a : Nat} : Rv 30 79 ls (.ref x :: .ref a :: st) w = pF w a 2 10 (.ref x) fun w' => Rv 30 82 ls st w' := R_pF (z := 142) Q30 (by decide +kernel) rfl ⟨by decide, rfl, Or.inr ⟨rfl, rfl⟩⟩
theorem e30_79n {ls : zL} {st : List Value} {w : zW}  {a : Nat} : Rv 30 79 ls (.null :: .ref a :: st) w = pF w a 2 10 (.null) fun w' => Rv 30 82 ls st w' := R_pF (z := 142) Q30 (by decide +kernel) rfl ⟨by decide, rfl, Or.inr ⟨rfl, rfl⟩⟩
theorem e30_82 {ls : zL} {st : List Value} {w : zW} : Rv 30 82 ls st w = ldA ls 0 fun x => Rv 30 83 ls (x :: st) w := R_ldA Q30 (by decide +kernel) rfl
theorem e30_83 {ls : zL} {st : List Value} {w : zW} : Rv 30 83 ls st w = Rv 30 85 ls (.int 12 :: st) w := R_con Q30 (by decide +kernel) rfl (by decide)
theorem e30_85 {ls : zL} {st : List Value} {w : zW} : Rv 30 85 ls (.int 12 :: st) w = nw w 12 (.inl (0, 12, .inl fun _ => 0)) fun a w' => Rv 30 87 ls (.ref a :: st) w' := R_newa (z := 0) Q30 (by decide +kernel) rfl rfl (by decide) (by decide)
theorem e30_87 {ls : zL} {st : List Value} {w : zW} {x : Nat} {a : Nat} : Rv 30 87 ls (.ref x :: .ref a :: st) w = pF w a 2 11 (.ref x) fun w' => Rv 30 90 ls st w' := R_pF (z := 143) Q30 (by decide +kernel) rfl ⟨by decide, rfl, Or.inr ⟨rfl, rfl⟩⟩
theorem e30_87n {ls : zL} {st : List Value} {w : zW}  {a : Nat} : Rv 30 87 ls (.null :: .ref a :: st) w = pF w a 2 11 (.null) fun w' => Rv 30 90 ls st w' := R_pF (z := 143) Q30 (by decide +kernel) rfl ⟨by decide, rfl, Or.inr ⟨rfl, rfl⟩⟩
theorem e30_90 {ls : zL} {w : zW} : Rv 30 90 ls [] w = some (.inl none, w) := R_retV Q30 (by decide +kernel) rfl
/-! MasterPins$Plan.copyFrom -/
theorem e31_0 {ls : zL} {st : List Value} {w : zW} : Rv 31 0 ls st w = ldA ls 0 fun x => Rv 31 1 ls (x :: st) w := R_ldA Q31 (by decide +kernel) rfl
theorem e31_1 {ls : zL} {st : List Value} {w : zW} : Rv 31 1 ls st w = ldA ls 1 fun x => Rv 31 2 ls (x :: st) w := R_ldA Q31 (by decide +kernel) rfl
theorem e31_2 {ls : zL} {st : List Value} {w : zW} {a : Nat} : Rv 31 2 ls (.ref a :: st) w = gF w a 2 0 fun v => Rv 31 5 ls (v :: st) w := R_gF (z := 124) Q31 (by decide +kernel) rfl
theorem e31_5 {ls : zL} {st : List Value} {w : zW} {x : Int32} {a : Nat} : Rv 31 5 ls (.int x :: .ref a :: st) w = pF w a 2 0 (.int x) fun w' => Rv 31 8 ls st w' := R_pF (z := 124) Q31 (by decide +kernel) rfl ⟨by decide, rfl, Or.inl rfl⟩
theorem e31_8 {ls : zL} {st : List Value} {w : zW} : Rv 31 8 ls st w = ldA ls 0 fun x => Rv 31 9 ls (x :: st) w := R_ldA Q31 (by decide +kernel) rfl
theorem e31_9 {ls : zL} {st : List Value} {w : zW} : Rv 31 9 ls st w = ldA ls 1 fun x => Rv 31 10 ls (x :: st) w := R_ldA Q31 (by decide +kernel) rfl
theorem e31_10 {ls : zL} {st : List Value} {w : zW} {a : Nat} : Rv 31 10 ls (.ref a :: st) w = gF w a 2 1 fun v => Rv 31 13 ls (v :: st) w := R_gF (z := 128) Q31 (by decide +kernel) rfl
theorem e31_13 {ls : zL} {st : List Value} {w : zW} {x : Int32} {a : Nat} : Rv 31 13 ls (.int x :: .ref a :: st) w = pF w a 2 1 (.int x) fun w' => Rv 31 16 ls st w' := R_pF (z := 128) Q31 (by decide +kernel) rfl ⟨by decide, rfl, Or.inl rfl⟩
theorem e31_16 {ls : zL} {st : List Value} {w : zW} : Rv 31 16 ls st w = ldA ls 1 fun x => Rv 31 17 ls (x :: st) w := R_ldA Q31 (by decide +kernel) rfl
theorem e31_17 {ls : zL} {st : List Value} {w : zW} {a : Nat} : Rv 31 17 ls (.ref a :: st) w = gF w a 2 2 fun v => Rv 31 20 ls (v :: st) w := R_gF (z := 131) Q31 (by decide +kernel) rfl
theorem e31_20 {ls : zL} {st : List Value} {w : zW} : Rv 31 20 ls st w = Rv 31 21 ls (.int 0 :: st) w := R_con Q31 (by decide +kernel) rfl (by decide)
theorem e31_21 {ls : zL} {st : List Value} {w : zW} : Rv 31 21 ls st w = ldA ls 0 fun x => Rv 31 22 ls (x :: st) w := R_ldA Q31 (by decide +kernel) rfl
theorem e31_22 {ls : zL} {st : List Value} {w : zW} {a : Nat} : Rv 31 22 ls (.ref a :: st) w = gF w a 2 2 fun v => Rv 31 25 ls (v :: st) w := R_gF (z := 131) Q31 (by decide +kernel) rfl
theorem e31_25 {ls : zL} {st : List Value} {w : zW} : Rv 31 25 ls st w = Rv 31 26 ls (.int 0 :: st) w := R_con Q31 (by decide +kernel) rfl (by decide)
theorem e31_26 {ls : zL} {st : List Value} {w : zW} : Rv 31 26 ls st w = Rv 31 27 ls (.int 3 :: st) w := R_con Q31 (by decide +kernel) rfl (by decide)
theorem e31_27 {ls : zL} {w : zW}  {s d : Nat} {sp dp m : Int32} : Rv 31 27 ls [.int m, .int dp, .ref d, .int sp, .ref s] w = cp w s sp d dp m fun w' => Rv 31 30 ls [] w' := R_cp (z := (0, 5, 294)) Q31 (by decide +kernel) rfl ⟨Nat.le_of_ble_eq_true rfl, Nat.le_of_ble_eq_true rfl, Nat.le_of_ble_eq_true rfl⟩
theorem e31_30 {ls : zL} {st : List Value} {w : zW} : Rv 31 30 ls st w = ldA ls 0 fun x => Rv 31 31 ls (x :: st) w := R_ldA Q31 (by decide +kernel) rfl
theorem e31_31 {ls : zL} {st : List Value} {w : zW} : Rv 31 31 ls st w = ldA ls 1 fun x => Rv 31 32 ls (x :: st) w := R_ldA Q31 (by decide +kernel) rfl
theorem e31_32 {ls : zL} {st : List Value} {w : zW} {a : Nat} : Rv 31 32 ls (.ref a :: st) w = gF w a 2 3 fun v => Rv 31 35 ls (v :: st) w := R_gF (z := 132) Q31 (by decide +kernel) rfl
theorem e31_35 {ls : zL} {st : List Value} {w : zW} {x : Int32} {a : Nat} : Rv 31 35 ls (.int x :: .ref a :: st) w = pF w a 2 3 (.int x) fun w' => Rv 31 38 ls st w' := R_pF (z := 132) Q31 (by decide +kernel) rfl ⟨by decide, rfl, Or.inl rfl⟩
theorem e31_38 {ls : zL} {st : List Value} {w : zW} : Rv 31 38 ls st w = ldA ls 1 fun x => Rv 31 39 ls (x :: st) w := R_ldA Q31 (by decide +kernel) rfl
theorem e31_39 {ls : zL} {st : List Value} {w : zW} {a : Nat} : Rv 31 39 ls (.ref a :: st) w = gF w a 2 4 fun v => Rv 31 42 ls (v :: st) w := R_gF (z := 134) Q31 (by decide +kernel) rfl
theorem e31_42 {ls : zL} {st : List Value} {w : zW} : Rv 31 42 ls st w = Rv 31 43 ls (.int 0 :: st) w := R_con Q31 (by decide +kernel) rfl (by decide)
theorem e31_43 {ls : zL} {st : List Value} {w : zW} : Rv 31 43 ls st w = ldA ls 0 fun x => Rv 31 44 ls (x :: st) w := R_ldA Q31 (by decide +kernel) rfl
theorem e31_44 {ls : zL} {st : List Value} {w : zW} {a : Nat} : Rv 31 44 ls (.ref a :: st) w = gF w a 2 4 fun v => Rv 31 47 ls (v :: st) w := R_gF (z := 134) Q31 (by decide +kernel) rfl
theorem e31_47 {ls : zL} {st : List Value} {w : zW} : Rv 31 47 ls st w = Rv 31 48 ls (.int 0 :: st) w := R_con Q31 (by decide +kernel) rfl (by decide)
theorem e31_48 {ls : zL} {st : List Value} {w : zW} : Rv 31 48 ls st w = Rv 31 50 ls (.int 16 :: st) w := R_con Q31 (by decide +kernel) rfl (by decide)
theorem e31_50 {ls : zL} {w : zW}  {s d : Nat} {sp dp m : Int32} : Rv 31 50 ls [.int m, .int dp, .ref d, .int sp, .ref s] w = cp w s sp d dp m fun w' => Rv 31 53 ls [] w' := R_cp (z := (0, 5, 294)) Q31 (by decide +kernel) rfl ⟨Nat.le_of_ble_eq_true rfl, Nat.le_of_ble_eq_true rfl, Nat.le_of_ble_eq_true rfl⟩
theorem e31_53 {ls : zL} {st : List Value} {w : zW} : Rv 31 53 ls st w = ldA ls 1 fun x => Rv 31 54 ls (x :: st) w := R_ldA Q31 (by decide +kernel) rfl
theorem e31_54 {ls : zL} {st : List Value} {w : zW} {a : Nat} : Rv 31 54 ls (.ref a :: st) w = gF w a 2 5 fun v => Rv 31 57 ls (v :: st) w := R_gF (z := 135) Q31 (by decide +kernel) rfl
theorem e31_57 {ls : zL} {st : List Value} {w : zW} : Rv 31 57 ls st w = Rv 31 58 ls (.int 0 :: st) w := R_con Q31 (by decide +kernel) rfl (by decide)
theorem e31_58 {ls : zL} {st : List Value} {w : zW} : Rv 31 58 ls st w = ldA ls 0 fun x => Rv 31 59 ls (x :: st) w := R_ldA Q31 (by decide +kernel) rfl
theorem e31_59 {ls : zL} {st : List Value} {w : zW} {a : Nat} : Rv 31 59 ls (.ref a :: st) w = gF w a 2 5 fun v => Rv 31 62 ls (v :: st) w := R_gF (z := 135) Q31 (by decide +kernel) rfl
theorem e31_62 {ls : zL} {st : List Value} {w : zW} : Rv 31 62 ls st w = Rv 31 63 ls (.int 0 :: st) w := R_con Q31 (by decide +kernel) rfl (by decide)
theorem e31_63 {ls : zL} {st : List Value} {w : zW} : Rv 31 63 ls st w = Rv 31 65 ls (.int 16 :: st) w := R_con Q31 (by decide +kernel) rfl (by decide)
theorem e31_65 {ls : zL} {w : zW}  {s d : Nat} {sp dp m : Int32} : Rv 31 65 ls [.int m, .int dp, .ref d, .int sp, .ref s] w = cp w s sp d dp m fun w' => Rv 31 68 ls [] w' := R_cp (z := (0, 5, 294)) Q31 (by decide +kernel) rfl ⟨Nat.le_of_ble_eq_true rfl, Nat.le_of_ble_eq_true rfl, Nat.le_of_ble_eq_true rfl⟩
theorem e31_68 {ls : zL} {st : List Value} {w : zW} : Rv 31 68 ls st w = ldA ls 1 fun x => Rv 31 69 ls (x :: st) w := R_ldA Q31 (by decide +kernel) rfl
theorem e31_69 {ls : zL} {st : List Value} {w : zW} {a : Nat} : Rv 31 69 ls (.ref a :: st) w = gF w a 2 6 fun v => Rv 31 72 ls (v :: st) w := R_gF (z := 136) Q31 (by decide +kernel) rfl
theorem e31_72 {ls : zL} {st : List Value} {w : zW} : Rv 31 72 ls st w = Rv 31 73 ls (.int 0 :: st) w := R_con Q31 (by decide +kernel) rfl (by decide)
theorem e31_73 {ls : zL} {st : List Value} {w : zW} : Rv 31 73 ls st w = ldA ls 0 fun x => Rv 31 74 ls (x :: st) w := R_ldA Q31 (by decide +kernel) rfl
theorem e31_74 {ls : zL} {st : List Value} {w : zW} {a : Nat} : Rv 31 74 ls (.ref a :: st) w = gF w a 2 6 fun v => Rv 31 77 ls (v :: st) w := R_gF (z := 136) Q31 (by decide +kernel) rfl
theorem e31_77 {ls : zL} {st : List Value} {w : zW} : Rv 31 77 ls st w = Rv 31 78 ls (.int 0 :: st) w := R_con Q31 (by decide +kernel) rfl (by decide)
theorem e31_78 {ls : zL} {st : List Value} {w : zW} : Rv 31 78 ls st w = Rv 31 80 ls (.int 16 :: st) w := R_con Q31 (by decide +kernel) rfl (by decide)
theorem e31_80 {ls : zL} {w : zW}  {s d : Nat} {sp dp m : Int32} : Rv 31 80 ls [.int m, .int dp, .ref d, .int sp, .ref s] w = cp w s sp d dp m fun w' => Rv 31 83 ls [] w' := R_cp (z := (0, 5, 294)) Q31 (by decide +kernel) rfl ⟨Nat.le_of_ble_eq_true rfl, Nat.le_of_ble_eq_true rfl, Nat.le_of_ble_eq_true rfl⟩
theorem e31_83 {ls : zL} {st : List Value} {w : zW} : Rv 31 83 ls st w = ldA ls 1 fun x => Rv 31 84 ls (x :: st) w := R_ldA Q31 (by decide +kernel) rfl
theorem e31_84 {ls : zL} {st : List Value} {w : zW} {a : Nat} : Rv 31 84 ls (.ref a :: st) w = gF w a 2 7 fun v => Rv 31 87 ls (v :: st) w := R_gF (z := 137) Q31 (by decide +kernel) rfl
theorem e31_87 {ls : zL} {st : List Value} {w : zW} : Rv 31 87 ls st w = Rv 31 88 ls (.int 0 :: st) w := R_con Q31 (by decide +kernel) rfl (by decide)
theorem e31_88 {ls : zL} {st : List Value} {w : zW} : Rv 31 88 ls st w = ldA ls 0 fun x => Rv 31 89 ls (x :: st) w := R_ldA Q31 (by decide +kernel) rfl
theorem e31_89 {ls : zL} {st : List Value} {w : zW} {a : Nat} : Rv 31 89 ls (.ref a :: st) w = gF w a 2 7 fun v => Rv 31 92 ls (v :: st) w := R_gF (z := 137) Q31 (by decide +kernel) rfl
theorem e31_92 {ls : zL} {st : List Value} {w : zW} : Rv 31 92 ls st w = Rv 31 93 ls (.int 0 :: st) w := R_con Q31 (by decide +kernel) rfl (by decide)
theorem e31_93 {ls : zL} {st : List Value} {w : zW} : Rv 31 93 ls st w = Rv 31 95 ls (.int 16 :: st) w := R_con Q31 (by decide +kernel) rfl (by decide)
theorem e31_95 {ls : zL} {w : zW}  {s d : Nat} {sp dp m : Int32} : Rv 31 95 ls [.int m, .int dp, .ref d, .int sp, .ref s] w = cp w s sp d dp m fun w' => Rv 31 98 ls [] w' := R_cp (z := (0, 5, 294)) Q31 (by decide +kernel) rfl ⟨Nat.le_of_ble_eq_true rfl, Nat.le_of_ble_eq_true rfl, Nat.le_of_ble_eq_true rfl⟩
theorem e31_98 {ls : zL} {st : List Value} {w : zW} : Rv 31 98 ls st w = ldA ls 0 fun x => Rv 31 99 ls (x :: st) w := R_ldA Q31 (by decide +kernel) rfl
theorem e31_99 {ls : zL} {st : List Value} {w : zW} : Rv 31 99 ls st w = ldA ls 1 fun x => Rv 31 100 ls (x :: st) w := R_ldA Q31 (by decide +kernel) rfl
theorem e31_100 {ls : zL} {st : List Value} {w : zW} {a : Nat} : Rv 31 100 ls (.ref a :: st) w = gF w a 2 8 fun v => Rv 31 103 ls (v :: st) w := R_gF (z := 138) Q31 (by decide +kernel) rfl
theorem e31_103 {ls : zL} {st : List Value} {w : zW} {x : Int32} {a : Nat} : Rv 31 103 ls (.int x :: .ref a :: st) w = pF w a 2 8 (.int x) fun w' => Rv 31 106 ls st w' := R_pF (z := 138) Q31 (by decide +kernel) rfl ⟨by decide, rfl, Or.inl rfl⟩
theorem e31_106 {ls : zL} {st : List Value} {w : zW} : Rv 31 106 ls st w = ldA ls 0 fun x => Rv 31 107 ls (x :: st) w := R_ldA Q31 (by decide +kernel) rfl
theorem e31_107 {ls : zL} {st : List Value} {w : zW} : Rv 31 107 ls st w = ldA ls 1 fun x => Rv 31 108 ls (x :: st) w := R_ldA Q31 (by decide +kernel) rfl
theorem e31_108 {ls : zL} {st : List Value} {w : zW} {a : Nat} : Rv 31 108 ls (.ref a :: st) w = gF w a 2 9 fun v => Rv 31 111 ls (v :: st) w := R_gF (z := 139) Q31 (by decide +kernel) rfl
theorem e31_111 {ls : zL} {st : List Value} {w : zW} {x : Int32} {a : Nat} : Rv 31 111 ls (.int x :: .ref a :: st) w = pF w a 2 9 (.int x) fun w' => Rv 31 114 ls st w' := R_pF (z := 139) Q31 (by decide +kernel) rfl ⟨by decide, rfl, Or.inl rfl⟩
theorem e31_114 {ls : zL} {st : List Value} {w : zW} : Rv 31 114 ls st w = ldA ls 1 fun x => Rv 31 115 ls (x :: st) w := R_ldA Q31 (by decide +kernel) rfl
theorem e31_115 {ls : zL} {st : List Value} {w : zW} {a : Nat} : Rv 31 115 ls (.ref a :: st) w = gF w a 2 10 fun v => Rv 31 118 ls (v :: st) w := R_gF (z := 142) Q31 (by decide +kernel) rfl
theorem e31_118 {ls : zL} {st : List Value} {w : zW} : Rv 31 118 ls st w = Rv 31 119 ls (.int 0 :: st) w := R_con Q31 (by decide +kernel) rfl (by decide)
theorem e31_119 {ls : zL} {st : List Value} {w : zW} : Rv 31 119 ls st w = ldA ls 0 fun x => Rv 31 120 ls (x :: st) w := R_ldA Q31 (by decide +kernel) rfl
theorem e31_120 {ls : zL} {st : List Value} {w : zW} {a : Nat} : Rv 31 120 ls (.ref a :: st) w = gF w a 2 10 fun v => Rv 31 123 ls (v :: st) w := R_gF (z := 142) Q31 (by decide +kernel) rfl
theorem e31_123 {ls : zL} {st : List Value} {w : zW} : Rv 31 123 ls st w = Rv 31 124 ls (.int 0 :: st) w := R_con Q31 (by decide +kernel) rfl (by decide)
theorem e31_124 {ls : zL} {st : List Value} {w : zW} : Rv 31 124 ls st w = Rv 31 126 ls (.int 12 :: st) w := R_con Q31 (by decide +kernel) rfl (by decide)
theorem e31_126 {ls : zL} {w : zW}  {s d : Nat} {sp dp m : Int32} : Rv 31 126 ls [.int m, .int dp, .ref d, .int sp, .ref s] w = cp w s sp d dp m fun w' => Rv 31 129 ls [] w' := R_cp (z := (0, 5, 294)) Q31 (by decide +kernel) rfl ⟨Nat.le_of_ble_eq_true rfl, Nat.le_of_ble_eq_true rfl, Nat.le_of_ble_eq_true rfl⟩
theorem e31_129 {ls : zL} {st : List Value} {w : zW} : Rv 31 129 ls st w = ldA ls 1 fun x => Rv 31 130 ls (x :: st) w := R_ldA Q31 (by decide +kernel) rfl
theorem e31_130 {ls : zL} {st : List Value} {w : zW} {a : Nat} : Rv 31 130 ls (.ref a :: st) w = gF w a 2 11 fun v => Rv 31 133 ls (v :: st) w := R_gF (z := 143) Q31 (by decide +kernel) rfl
theorem e31_133 {ls : zL} {st : List Value} {w : zW} : Rv 31 133 ls st w = Rv 31 134 ls (.int 0 :: st) w := R_con Q31 (by decide +kernel) rfl (by decide)
theorem e31_134 {ls : zL} {st : List Value} {w : zW} : Rv 31 134 ls st w = ldA ls 0 fun x => Rv 31 135 ls (x :: st) w := R_ldA Q31 (by decide +kernel) rfl
theorem e31_135 {ls : zL} {st : List Value} {w : zW} {a : Nat} : Rv 31 135 ls (.ref a :: st) w = gF w a 2 11 fun v => Rv 31 138 ls (v :: st) w := R_gF (z := 143) Q31 (by decide +kernel) rfl
theorem e31_138 {ls : zL} {st : List Value} {w : zW} : Rv 31 138 ls st w = Rv 31 139 ls (.int 0 :: st) w := R_con Q31 (by decide +kernel) rfl (by decide)
theorem e31_139 {ls : zL} {st : List Value} {w : zW} : Rv 31 139 ls st w = Rv 31 141 ls (.int 12 :: st) w := R_con Q31 (by decide +kernel) rfl (by decide)
theorem e31_141 {ls : zL} {w : zW}  {s d : Nat} {sp dp m : Int32} : Rv 31 141 ls [.int m, .int dp, .ref d, .int sp, .ref s] w = cp w s sp d dp m fun w' => Rv 31 144 ls [] w' := R_cp (z := (0, 5, 294)) Q31 (by decide +kernel) rfl ⟨Nat.le_of_ble_eq_true rfl, Nat.le_of_ble_eq_true rfl, Nat.le_of_ble_eq_true rfl⟩
theorem e31_144 {ls : zL} {w : zW} : Rv 31 144 ls [] w = some (.inl none, w) := R_retV Q31 (by decide +kernel) rfl
/-! MasterPins$Plan.isKey -/
theorem e32_0 {ls : zL} {st : List Value} {w : zW} : Rv 32 0 ls st w = ldI ls 1 fun x => Rv 32 1 ls (.int x :: st) w := R_ldI Q32 (by decide +kernel) rfl
theorem e32_1 {ls : zL} {st : List Value} {w : zW} {x : Int32} : Rv 32 1 ls (.int x :: st) w = if x < 0 then Rv 32 16 ls st w else Rv 32 4 ls st w := R_f0lt Q32 (by decide +kernel) rfl rfl
theorem e32_4 {ls : zL} {st : List Value} {w : zW} : Rv 32 4 ls st w = ldI ls 1 fun x => Rv 32 5 ls (.int x :: st) w := R_ldI Q32 (by decide +kernel) rfl
theorem e32_5 {ls : zL} {st : List Value} {w : zW} : Rv 32 5 ls st w = ldA ls 0 fun x => Rv 32 6 ls (x :: st) w := R_ldA Q32 (by decide +kernel) rfl
theorem e32_6 {ls : zL} {st : List Value} {w : zW} {a : Nat} : Rv 32 6 ls (.ref a :: st) w = gF w a 2 3 fun v => Rv 32 9 ls (v :: st) w := R_gF (z := 132) Q32 (by decide +kernel) rfl
theorem e32_9 {ls : zL} {st : List Value} {w : zW} {x y : Int32} : Rv 32 9 ls (.int y :: .int x :: st) w = if x < y then Rv 32 12 ls st w else Rv 32 16 ls st w := R_fige Q32 (by decide +kernel) rfl rfl
theorem e32_12 {ls : zL} {st : List Value} {w : zW} : Rv 32 12 ls st w = Rv 32 13 ls (.int 1 :: st) w := R_con Q32 (by decide +kernel) rfl (by decide)
theorem e32_13 {ls : zL} {st : List Value} {w : zW} : Rv 32 13 ls st w = Rv 32 17 ls st w := R_go Q32 (by decide +kernel) rfl rfl
theorem e32_16 {ls : zL} {st : List Value} {w : zW} : Rv 32 16 ls st w = Rv 32 17 ls (.int 0 :: st) w := R_con Q32 (by decide +kernel) rfl (by decide)
theorem e32_17 {ls : zL} {w : zW} {x : Int32} : Rv 32 17 ls [.int x] w = if x = 0 ∨ x = 1 then some (.inl (some (.int x)), w) else none := R_retZ Q32 (by decide +kernel) rfl
/-! MasterPins$Plan.isDoor -/
theorem e33_0 {ls : zL} {st : List Value} {w : zW} : Rv 33 0 ls st w = ldI ls 1 fun x => Rv 33 1 ls (.int x :: st) w := R_ldI Q33 (by decide +kernel) rfl
theorem e33_1 {ls : zL} {st : List Value} {w : zW} {x : Int32} : Rv 33 1 ls (.int x :: st) w = if x < 0 then Rv 33 16 ls st w else Rv 33 4 ls st w := R_f0lt Q33 (by decide +kernel) rfl rfl
theorem e33_4 {ls : zL} {st : List Value} {w : zW} : Rv 33 4 ls st w = ldI ls 1 fun x => Rv 33 5 ls (.int x :: st) w := R_ldI Q33 (by decide +kernel) rfl
theorem e33_5 {ls : zL} {st : List Value} {w : zW} : Rv 33 5 ls st w = ldA ls 0 fun x => Rv 33 6 ls (x :: st) w := R_ldA Q33 (by decide +kernel) rfl
theorem e33_6 {ls : zL} {st : List Value} {w : zW} {a : Nat} : Rv 33 6 ls (.ref a :: st) w = gF w a 2 9 fun v => Rv 33 9 ls (v :: st) w := R_gF (z := 139) Q33 (by decide +kernel) rfl
theorem e33_9 {ls : zL} {st : List Value} {w : zW} {x y : Int32} : Rv 33 9 ls (.int y :: .int x :: st) w = if x < y then Rv 33 12 ls st w else Rv 33 16 ls st w := R_fige Q33 (by decide +kernel) rfl rfl
theorem e33_12 {ls : zL} {st : List Value} {w : zW} : Rv 33 12 ls st w = Rv 33 13 ls (.int 1 :: st) w := R_con Q33 (by decide +kernel) rfl (by decide)
theorem e33_13 {ls : zL} {st : List Value} {w : zW} : Rv 33 13 ls st w = Rv 33 17 ls st w := R_go Q33 (by decide +kernel) rfl rfl
theorem e33_16 {ls : zL} {st : List Value} {w : zW} : Rv 33 16 ls st w = Rv 33 17 ls (.int 0 :: st) w := R_con Q33 (by decide +kernel) rfl (by decide)
theorem e33_17 {ls : zL} {w : zW} {x : Int32} : Rv 33 17 ls [.int x] w = if x = 0 ∨ x = 1 then some (.inl (some (.int x)), w) else none := R_retZ Q33 (by decide +kernel) rfl
