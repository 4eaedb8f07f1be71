/-! MasterPinsModel.isKey -/
theorem e144_0 {ls : zL} {st : List Value} {w : zW} : Rv 144 0 ls st w = ldI ls 1 fun x => Rv 144 1 ls (.int x :: st) w := R_ldI Q144 (by decide +kernel) rfl
theorem e144_1 {ls : zL} {st : List Value} {w : zW} : Rv 144 1 ls st w = Rv 144 2 ls (.int 0 :: st) w := R_con Q144 (by decide +kernel) rfl (by decide)
theorem e144_2 {ls : zL} {st : List Value} {w : zW} : Rv 144 2 ls st w = ldA ls 0 fun x => Rv 144 3 ls (x :: st) w := R_ldA Q144 (by decide +kernel) rfl
theorem e144_3 {ls : zL} {st : List Value} {w : zW} {a : Nat} : Rv 144 3 ls (.ref a :: st) w = gF w a 6 0 fun v => Rv 144 6 ls (v :: st) w := R_gF (z := 1070) Q144 (by decide +kernel) rfl
theorem e144_6 {ls : zL} {st : List Value} {w : zW} : Rv 144 6 ls st w = Rv 144 7 ls (.int 5 :: st) w := R_con Q144 (by decide +kernel) rfl (by decide)
theorem e144_7 {ls : zL} {st : List Value} {w : zW} {a : Nat} {x : Int32} : Rv 144 7 ls (.int x :: .ref a :: st) w = gI w a 0 8 x fun v => Rv 144 8 ls (.int v :: st) w := R_iald Q144 (by decide +kernel)
theorem e144_8 {ls : zL} {st : List Value} {w : zW} : Rv 144 8 ls st w = Rv 144 9 ls (.int 1 :: st) w := R_con Q144 (by decide +kernel) rfl (by decide)
theorem e144_9 {ls : zL} {st : List Value} {w : zW} {x y : Int32} : Rv 144 9 ls (.int y :: .int x :: st) w = Rv 144 10 ls (.int (x - y) :: st) w := R_next Q144 (by decide +kernel) rfl
theorem e144_10 {ls : zL} {w : zW} {n1 : Int32} {n2 : Int32} {n3 : Int32} : Rv 144 10 ls [.int n1, .int n2, .int n3] w = cal (Rv 141 0 [some (.int n3), some (.int n2), some (.int n1)] [] w) (fun v w' => Rv 144 13 ls (vts v []) w') (xnone) := R_calS (z := 1119) (kd := 1) (n := 3) Q144 (by decide +kernel) rfl (Or.inl rfl) (Nat.le_of_ble_eq_true rfl) rfl Q141 rfl rfl rfl
theorem e144_13 {ls : zL} {w : zW} {x : Int32} : Rv 144 13 ls [.int x] w = if x = 0 ∨ x = 1 then some (.inl (some (.int x)), w) else none := R_retZ Q144 (by decide +kernel) rfl
/-! MasterPinsModel.isDoor -/
theorem e145_0 {ls : zL} {st : List Value} {w : zW} : Rv 145 0 ls st w = ldI ls 1 fun x => Rv 145 1 ls (.int x :: st) w := R_ldI Q145 (by decide +kernel) rfl
theorem e145_1 {ls : zL} {st : List Value} {w : zW} : Rv 145 1 ls st w = Rv 145 2 ls (.int 0 :: st) w := R_con Q145 (by decide +kernel) rfl (by decide)
theorem e145_2 {ls : zL} {st : List Value} {w : zW} : Rv 145 2 ls st w = ldA ls 0 fun x => Rv 145 3 ls (x :: st) w := R_ldA Q145 (by decide +kernel) rfl
theorem e145_3 {ls : zL} {st : List Value} {w : zW} {a : Nat} : Rv 145 3 ls (.ref a :: st) w = gF w a 6 0 fun v => Rv 145 6 ls (v :: st) w := R_gF (z := 1070) Q145 (by decide +kernel) rfl
theorem e145_6 {ls : zL} {st : List Value} {w : zW} : Rv 145 6 ls st w = Rv 145 8 ls (.int 6 :: st) w := R_con Q145 (by decide +kernel) rfl (by decide)
theorem e145_8 {ls : zL} {st : List Value} {w : zW} {a : Nat} {x : Int32} : Rv 145 8 ls (.int x :: .ref a :: st) w = gI w a 0 8 x fun v => Rv 145 9 ls (.int v :: st) w := R_iald Q145 (by decide +kernel)
theorem e145_9 {ls : zL} {st : List Value} {w : zW} : Rv 145 9 ls st w = Rv 145 10 ls (.int 1 :: st) w := R_con Q145 (by decide +kernel) rfl (by decide)
theorem e145_10 {ls : zL} {st : List Value} {w : zW} {x y : Int32} : Rv 145 10 ls (.int y :: .int x :: st) w = Rv 145 11 ls (.int (x - y) :: st) w := R_next Q145 (by decide +kernel) rfl
theorem e145_11 {ls : zL} {w : zW} {n1 : Int32} {n2 : Int32} {n3 : Int32} : Rv 145 11 ls [.int n1, .int n2, .int n3] w = cal (Rv 141 0 [some (.int n3), some (.int n2), some (.int n1)] [] w) (fun v w' => Rv 145 14 ls (vts v []) w') (xnone) := R_calS (z := 1119) (kd := 1) (n := 3) Q145 (by decide +kernel) rfl (Or.inl rfl) (Nat.le_of_ble_eq_true rfl) rfl Q141 rfl rfl rfl
theorem e145_14 {ls : zL} {w : zW} {x : Int32} : Rv 145 14 ls [.int x] w = if x = 0 ∨ x = 1 then some (.inl (some (.int x)), w) else none := R_retZ Q145 (by decide +kernel) rfl
/-! MasterPinsModel.bitsIn -/
theorem e146_0 {ls : zL} {st : List Value} {w : zW} : Rv 146 0 ls st w = Rv 146 1 ls (.int 0 :: st) w := R_con Q146 (by decide +kernel) rfl (by decide)
theorem e146_1 {ls : zL} {st : List Value} {w : zW} {x : Int32} : Rv 146 1 ls (.int x :: st) w = lst ls 1 (some (.int x)) fun l => Rv 146 2 l st w := R_st Q146 (by decide +kernel) rfl
theorem e146_2 {ls : zL} {st : List Value} {w : zW} : Rv 146 2 ls st w = Rv 146 3 ls (.int 0 :: st) w := R_con Q146 (by decide +kernel) rfl (by decide)
theorem e146_3 {ls : zL} {st : List Value} {w : zW} {x : Int32} : Rv 146 3 ls (.int x :: st) w = lst ls 2 (some (.int x)) fun l => Rv 146 4 l st w := R_st Q146 (by decide +kernel) rfl
theorem h146_4 {ls : zL} {st : List Value} {w : zW} : Rv 146 4 ls st w = ldI ls 2 fun x => Rv 146 5 ls (.int x :: st) w := R_ldI Q146 (by decide +kernel) rfl
theorem e146_5 {ls : zL} {st : List Value} {w : zW} : Rv 146 5 ls st w = Rv 146 7 ls (.int 16 :: st) w := R_con Q146 (by decide +kernel) rfl (by decide)
theorem e146_7 {ls : zL} {st : List Value} {w : zW} {x y : Int32} : Rv 146 7 ls (.int y :: .int x :: st) w = if x < y then Rv 146 10 ls st w else Rv 146 24 ls st w := R_fige Q146 (by decide +kernel) rfl rfl
theorem e146_10 {ls : zL} {st : List Value} {w : zW} : Rv 146 10 ls st w = ldI ls 1 fun x => Rv 146 11 ls (.int x :: st) w := R_ldI Q146 (by decide +kernel) rfl
theorem e146_11 {ls : zL} {st : List Value} {w : zW} : Rv 146 11 ls st w = ldI ls 0 fun x => Rv 146 12 ls (.int x :: st) w := R_ldI Q146 (by decide +kernel) rfl
theorem e146_12 {ls : zL} {st : List Value} {w : zW} : Rv 146 12 ls st w = ldI ls 2 fun x => Rv 146 13 ls (.int x :: st) w := R_ldI Q146 (by decide +kernel) rfl
theorem e146_13 {ls : zL} {st : List Value} {w : zW} {x y : Int32} : Rv 146 13 ls (.int y :: .int x :: st) w = Rv 146 14 ls (.int (x >>> (y &&& 31)) :: st) w := R_next Q146 (by decide +kernel) rfl
theorem e146_14 {ls : zL} {st : List Value} {w : zW} : Rv 146 14 ls st w = Rv 146 15 ls (.int 1 :: st) w := R_con Q146 (by decide +kernel) rfl (by decide)
theorem e146_15 {ls : zL} {st : List Value} {w : zW} {x y : Int32} : Rv 146 15 ls (.int y :: .int x :: st) w = Rv 146 16 ls (.int (x &&& y) :: st) w := R_next Q146 (by decide +kernel) rfl
theorem e146_16 {ls : zL} {st : List Value} {w : zW} {x y : Int32} : Rv 146 16 ls (.int y :: .int x :: st) w = Rv 146 17 ls (.int (x + y) :: st) w := R_next Q146 (by decide +kernel) rfl
theorem e146_17 {ls : zL} {st : List Value} {w : zW} {x : Int32} : Rv 146 17 ls (.int x :: st) w = lst ls 1 (some (.int x)) fun l => Rv 146 18 l st w := R_st Q146 (by decide +kernel) rfl
theorem e146_18 {ls : zL} {st : List Value} {w : zW} : Rv 146 18 ls st w = ldI ls 2 fun x => lst ls 2 (some (.int (x + 1))) fun l => Rv 146 21 l st w := R_iinc Q146 (by decide +kernel) (by decide)
theorem e146_21 {ls : zL} {st : List Value} {w : zW} : Rv 146 21 ls st w = Rv 146 4 ls st w := R_go Q146 (by decide +kernel) rfl rfl
theorem e146_24 {ls : zL} {st : List Value} {w : zW} : Rv 146 24 ls st w = ldI ls 1 fun x => Rv 146 25 ls (.int x :: st) w := R_ldI Q146 (by decide +kernel) rfl
theorem e146_25 {ls : zL} {w : zW} {x : Int32} : Rv 146 25 ls [.int x] w = some (.inl (some (.int x)), w) := R_retI Q146 (by decide +kernel) rfl
/-! MasterPinsModel.tens -/
theorem e147_0 {ls : zL} {st : List Value} {w : zW} : Rv 147 0 ls st w = Rv 147 1 ls (.int 1 :: st) w := R_con Q147 (by decide +kernel) rfl (by decide)
theorem e147_1 {ls : zL} {st : List Value} {w : zW} {x : Int32} : Rv 147 1 ls (.int x :: st) w = lst ls 1 (some (.int x)) fun l => Rv 147 2 l st w := R_st Q147 (by decide +kernel) rfl
theorem e147_2 {ls : zL} {st : List Value} {w : zW} : Rv 147 2 ls st w = Rv 147 3 ls (.int 0 :: st) w := R_con Q147 (by decide +kernel) rfl (by decide)
theorem e147_3 {ls : zL} {st : List Value} {w : zW} {x : Int32} : Rv 147 3 ls (.int x :: st) w = lst ls 2 (some (.int x)) fun l => Rv 147 4 l st w := R_st Q147 (by decide +kernel) rfl
theorem h147_4 {ls : zL} {st : List Value} {w : zW} : Rv 147 4 ls st w = ldI ls 2 fun x => Rv 147 5 ls (.int x :: st) w := R_ldI Q147 (by decide +kernel) rfl
theorem e147_5 {ls : zL} {st : List Value} {w : zW} : Rv 147 5 ls st w = ldI ls 0 fun x => Rv 147 6 ls (.int x :: st) w := R_ldI Q147 (by decide +kernel) rfl
theorem e147_6 {ls : zL} {st : List Value} {w : zW} {x y : Int32} : Rv 147 6 ls (.int y :: .int x :: st) w = if x < y then Rv 147 9 ls st w else Rv 147 20 ls st w := R_fige Q147 (by decide +kernel) rfl rfl
theorem e147_9 {ls : zL} {st : List Value} {w : zW} : Rv 147 9 ls st w = ldI ls 1 fun x => Rv 147 10 ls (.int x :: st) w := R_ldI Q147 (by decide +kernel) rfl
theorem e147_10 {ls : zL} {st : List Value} {w : zW} : Rv 147 10 ls st w = Rv 147 12 ls (.int 10 :: st) w := R_con Q147 (by decide +kernel) rfl (by decide)
theorem e147_12 {ls : zL} {st : List Value} {w : zW} {x y : Int32} : Rv 147 12 ls (.int y :: .int x :: st) w = Rv 147 13 ls (.int (x * y) :: st) w := R_next Q147 (by decide +kernel) rfl
theorem e147_13 {ls : zL} {st : List Value} {w : zW} {x : Int32} : Rv 147 13 ls (.int x :: st) w = lst ls 1 (some (.int x)) fun l => Rv 147 14 l st w := R_st Q147 (by decide +kernel) rfl
theorem e147_14 {ls : zL} {st : List Value} {w : zW} : Rv 147 14 ls st w = ldI ls 2 fun x => lst ls 2 (some (.int (x + 1))) fun l => Rv 147 17 l st w := R_iinc Q147 (by decide +kernel) (by decide)
theorem e147_17 {ls : zL} {st : List Value} {w : zW} : Rv 147 17 ls st w = Rv 147 4 ls st w := R_go Q147 (by decide +kernel) rfl rfl
theorem e147_20 {ls : zL} {st : List Value} {w : zW} : Rv 147 20 ls st w = ldI ls 1 fun x => Rv 147 21 ls (.int x :: st) w := R_ldI Q147 (by decide +kernel) rfl
theorem e147_21 {ls : zL} {w : zW} {x : Int32} : Rv 147 21 ls [.int x] w = some (.inl (some (.int x)), w) := R_retI Q147 (by decide +kernel) rfl
/-! MasterPinsModel.cut -/
theorem e148_0 {ls : zL} {st : List Value} {w : zW} : Rv 148 0 ls st w = ldI ls 1 fun x => Rv 148 1 ls (.int x :: st) w := R_ldI Q148 (by decide +kernel) rfl
theorem e148_1 {ls : zL} {st : List Value} {w : zW} : Rv 148 1 ls st w = ldA ls 0 fun x => Rv 148 2 ls (x :: st) w := R_ldA Q148 (by decide +kernel) rfl
theorem e148_2 {ls : zL} {st : List Value} {w : zW} {a : Nat} : Rv 148 2 ls (.ref a :: st) w = gF w a 6 0 fun v => Rv 148 5 ls (v :: st) w := R_gF (z := 1070) Q148 (by decide +kernel) rfl
theorem e148_5 {ls : zL} {st : List Value} {w : zW} : Rv 148 5 ls st w = Rv 148 6 ls (.int 0 :: st) w := R_con Q148 (by decide +kernel) rfl (by decide)
theorem e148_6 {ls : zL} {st : List Value} {w : zW} {a : Nat} {x : Int32} : Rv 148 6 ls (.int x :: .ref a :: st) w = gI w a 0 8 x fun v => Rv 148 7 ls (.int v :: st) w := R_iald Q148 (by decide +kernel)
theorem e148_7 {ls : zL} {st : List Value} {w : zW} : Rv 148 7 ls st w = Rv 148 8 ls (.int 1 :: st) w := R_con Q148 (by decide +kernel) rfl (by decide)
theorem e148_8 {ls : zL} {st : List Value} {w : zW} {x y : Int32} : Rv 148 8 ls (.int y :: .int x :: st) w = Rv 148 9 ls (.int (x - y) :: st) w := R_next Q148 (by decide +kernel) rfl
theorem e148_9 {ls : zL} {st : List Value} {w : zW} : Rv 148 9 ls st w = ldI ls 2 fun x => Rv 148 10 ls (.int x :: st) w := R_ldI Q148 (by decide +kernel) rfl
theorem e148_10 {ls : zL} {st : List Value} {w : zW} {x y : Int32} : Rv 148 10 ls (.int y :: .int x :: st) w = Rv 148 11 ls (.int (x - y) :: st) w := R_next Q148 (by decide +kernel) rfl
theorem e148_11 {ls : zL} {w : zW} {n1 : Int32} {n2 : Int32} : Rv 148 11 ls [.int n1, .int n2] w = cal (Rv 147 0 [some (.int n1), none, none] [] w) (fun v w' => Rv 148 14 ls (vts v [.int n2]) w') (xnone) := R_calS (z := 1162) (kd := 1) (n := 1) Q148 (by decide +kernel) rfl (Or.inl rfl) (Nat.le_of_ble_eq_true rfl) rfl Q147 rfl rfl rfl
theorem e148_14 {ls : zL} {st : List Value} {w : zW} {x y : Int32} : Rv 148 14 ls (.int y :: .int x :: st) w = if y = 0 then none else Rv 148 15 ls (.int (x / y) :: st) w := R_div Q148 (by decide +kernel)
theorem e148_15 {ls : zL} {st : List Value} {w : zW} : Rv 148 15 ls st w = Rv 148 17 ls (.int 10 :: st) w := R_con Q148 (by decide +kernel) rfl (by decide)
theorem e148_17 {ls : zL} {st : List Value} {w : zW} {x y : Int32} : Rv 148 17 ls (.int y :: .int x :: st) w = if y = 0 then none else Rv 148 18 ls (.int (rmi x y) :: st) w := R_rem Q148 (by decide +kernel)
theorem e148_18 {ls : zL} {w : zW} {x : Int32} : Rv 148 18 ls [.int x] w = some (.inl (some (.int x)), w) := R_retI Q148 (by decide +kernel) rfl
/-! MasterPinsModel.apart -/
theorem e149_0 {ls : zL} {st : List Value} {w : zW} : Rv 149 0 ls st w = ldI ls 0 fun x => Rv 149 1 ls (.int x :: st) w := R_ldI Q149 (by decide +kernel) rfl
theorem e149_1 {ls : zL} {st : List Value} {w : zW} : Rv 149 1 ls st w = ldI ls 1 fun x => Rv 149 2 ls (.int x :: st) w := R_ldI Q149 (by decide +kernel) rfl
theorem e149_2 {ls : zL} {st : List Value} {w : zW} {x y : Int32} : Rv 149 2 ls (.int y :: .int x :: st) w = if x < y then Rv 149 5 ls st w else Rv 149 11 ls st w := R_fige Q149 (by decide +kernel) rfl rfl
theorem e149_5 {ls : zL} {st : List Value} {w : zW} : Rv 149 5 ls st w = ldI ls 1 fun x => Rv 149 6 ls (.int x :: st) w := R_ldI Q149 (by decide +kernel) rfl
theorem e149_6 {ls : zL} {st : List Value} {w : zW} : Rv 149 6 ls st w = ldI ls 0 fun x => Rv 149 7 ls (.int x :: st) w := R_ldI Q149 (by decide +kernel) rfl
theorem e149_7 {ls : zL} {st : List Value} {w : zW} {x y : Int32} : Rv 149 7 ls (.int y :: .int x :: st) w = Rv 149 8 ls (.int (x - y) :: st) w := R_next Q149 (by decide +kernel) rfl
theorem e149_8 {ls : zL} {st : List Value} {w : zW} : Rv 149 8 ls st w = Rv 149 14 ls st w := R_go Q149 (by decide +kernel) rfl rfl
theorem e149_11 {ls : zL} {st : List Value} {w : zW} : Rv 149 11 ls st w = ldI ls 0 fun x => Rv 149 12 ls (.int x :: st) w := R_ldI Q149 (by decide +kernel) rfl
theorem e149_12 {ls : zL} {st : List Value} {w : zW} : Rv 149 12 ls st w = ldI ls 1 fun x => Rv 149 13 ls (.int x :: st) w := R_ldI Q149 (by decide +kernel) rfl
theorem e149_13 {ls : zL} {st : List Value} {w : zW} {x y : Int32} : Rv 149 13 ls (.int y :: .int x :: st) w = Rv 149 14 ls (.int (x - y) :: st) w := R_next Q149 (by decide +kernel) rfl
theorem e149_14 {ls : zL} {w : zW} {x : Int32} : Rv 149 14 ls [.int x] w = some (.inl (some (.int x)), w) := R_retI Q149 (by decide +kernel) rfl
/-! MasterPinsModel.isCode -/
theorem e150_0 {ls : zL} {st : List Value} {w : zW} : Rv 150 0 ls st w = ldI ls 1 fun x => Rv 150 1 ls (.int x :: st) w := R_ldI Q150 (by decide +kernel) rfl
theorem e150_1 {ls : zL} {st : List Value} {w : zW} : Rv 150 1 ls st w = Rv 150 2 ls (.int 0 :: st) w := R_con Q150 (by decide +kernel) rfl (by decide)
theorem e150_2 {ls : zL} {st : List Value} {w : zW} : Rv 150 2 ls st w = ldA ls 0 fun x => Rv 150 3 ls (x :: st) w := R_ldA Q150 (by decide +kernel) rfl
theorem e150_3 {ls : zL} {st : List Value} {w : zW} {a : Nat} : Rv 150 3 ls (.ref a :: st) w = gF w a 6 0 fun v => Rv 150 6 ls (v :: st) w := R_gF (z := 1070) Q150 (by decide +kernel) rfl
theorem e150_6 {ls : zL} {st : List Value} {w : zW} : Rv 150 6 ls st w = Rv 150 7 ls (.int 0 :: st) w := R_con Q150 (by decide +kernel) rfl (by decide)
theorem e150_7 {ls : zL} {st : List Value} {w : zW} {a : Nat} {x : Int32} : Rv 150 7 ls (.int x :: .ref a :: st) w = gI w a 0 8 x fun v => Rv 150 8 ls (.int v :: st) w := R_iald Q150 (by decide +kernel)
theorem e150_8 {ls : zL} {w : zW} {n1 : Int32} {n2 : Int32} {n3 : Int32} : Rv 150 8 ls [.int n1, .int n2, .int n3] w = cal (Rv 147 0 [some (.int n1), none, none] [] w) (fun v w' => Rv 150 11 ls (vts v [.int n2, .int n3]) w') (xnone) := R_calS (z := 1162) (kd := 1) (n := 1) Q150 (by decide +kernel) rfl (Or.inl rfl) (Nat.le_of_ble_eq_true rfl) rfl Q147 rfl rfl rfl
theorem e150_11 {ls : zL} {st : List Value} {w : zW} : Rv 150 11 ls st w = Rv 150 12 ls (.int 1 :: st) w := R_con Q150 (by decide +kernel) rfl (by decide)
theorem e150_12 {ls : zL} {st : List Value} {w : zW} {x y : Int32} : Rv 150 12 ls (.int y :: .int x :: st) w = Rv 150 13 ls (.int (x - y) :: st) w := R_next Q150 (by decide +kernel) rfl
theorem e150_13 {ls : zL} {w : zW} {n1 : Int32} {n2 : Int32} {n3 : Int32} : Rv 150 13 ls [.int n1, .int n2, .int n3] w = cal (Rv 141 0 [some (.int n3), some (.int n2), some (.int n1)] [] w) (fun v w' => Rv 150 16 ls (vts v []) w') (xnone) := R_calS (z := 1119) (kd := 1) (n := 3) Q150 (by decide +kernel) rfl (Or.inl rfl) (Nat.le_of_ble_eq_true rfl) rfl Q141 rfl rfl rfl
theorem e150_16 {ls : zL} {st : List Value} {w : zW} {x : Int32} : Rv 150 16 ls (.int x :: st) w = if x = 0 then Rv 150 19 ls st w else Rv 150 21 ls st w := R_f0ne Q150 (by decide +kernel) rfl rfl
theorem e150_19 {ls : zL} {st : List Value} {w : zW} : Rv 150 19 ls st w = Rv 150 20 ls (.int 0 :: st) w := R_con Q150 (by decide +kernel) rfl (by decide)
theorem e150_20 {ls : zL} {w : zW} {x : Int32} : Rv 150 20 ls [.int x] w = if x = 0 ∨ x = 1 then some (.inl (some (.int x)), w) else none := R_retZ Q150 (by decide +kernel) rfl
theorem e150_21 {ls : zL} {st : List Value} {w : zW} : Rv 150 21 ls st w = Rv 150 22 ls (.int 1 :: st) w := R_con Q150 (by decide +kernel) rfl (by decide)
theorem e150_22 {ls : zL} {st : List Value} {w : zW} {x : Int32} : Rv 150 22 ls (.int x :: st) w = lst ls 2 (some (.int x)) fun l => Rv 150 23 l st w := R_st Q150 (by decide +kernel) rfl
theorem e150_23 {ls : zL} {st : List Value} {w : zW} : Rv 150 23 ls st w = Rv 150 24 ls (.int 0 :: st) w := R_con Q150 (by decide +kernel) rfl (by decide)
theorem e150_24 {ls : zL} {st : List Value} {w : zW} {x : Int32} : Rv 150 24 ls (.int x :: st) w = lst ls 3 (some (.int x)) fun l => Rv 150 25 l st w := R_st Q150 (by decide +kernel) rfl
theorem h150_25 {ls : zL} {st : List Value} {w : zW} : Rv 150 25 ls st w = ldI ls 3 fun x => Rv 150 26 ls (.int x :: st) w := R_ldI Q150 (by decide +kernel) rfl
theorem e150_26 {ls : zL} {st : List Value} {w : zW} : Rv 150 26 ls st w = ldA ls 0 fun x => Rv 150 27 ls (x :: st) w := R_ldA Q150 (by decide +kernel) rfl
theorem e150_27 {ls : zL} {st : List Value} {w : zW} {a : Nat} : Rv 150 27 ls (.ref a :: st) w = gF w a 6 0 fun v => Rv 150 30 ls (v :: st) w := R_gF (z := 1070) Q150 (by decide +kernel) rfl
theorem e150_30 {ls : zL} {st : List Value} {w : zW} : Rv 150 30 ls st w = Rv 150 31 ls (.int 0 :: st) w := R_con Q150 (by decide +kernel) rfl (by decide)
theorem e150_31 {ls : zL} {st : List Value} {w : zW} {a : Nat} {x : Int32} : Rv 150 31 ls (.int x :: .ref a :: st) w = gI w a 0 8 x fun v => Rv 150 32 ls (.int v :: st) w := R_iald Q150 (by decide +kernel)
theorem e150_32 {ls : zL} {st : List Value} {w : zW} {x y : Int32} : Rv 150 32 ls (.int y :: .int x :: st) w = if x < y then Rv 150 35 ls st w else Rv 150 66 ls st w := R_fige Q150 (by decide +kernel) rfl rfl
theorem e150_35 {ls : zL} {st : List Value} {w : zW} : Rv 150 35 ls st w = ldI ls 2 fun x => Rv 150 36 ls (.int x :: st) w := R_ldI Q150 (by decide +kernel) rfl
theorem e150_36 {ls : zL} {st : List Value} {w : zW} {x : Int32} : Rv 150 36 ls (.int x :: st) w = if x = 0 then Rv 150 58 ls st w else Rv 150 39 ls st w := R_f0eq Q150 (by decide +kernel) rfl rfl
theorem e150_39 {ls : zL} {st : List Value} {w : zW} : Rv 150 39 ls st w = ldA ls 0 fun x => Rv 150 40 ls (x :: st) w := R_ldA Q150 (by decide +kernel) rfl
theorem e150_40 {ls : zL} {st : List Value} {w : zW} : Rv 150 40 ls st w = ldI ls 1 fun x => Rv 150 41 ls (.int x :: st) w := R_ldI Q150 (by decide +kernel) rfl
theorem e150_41 {ls : zL} {st : List Value} {w : zW} : Rv 150 41 ls st w = ldI ls 3 fun x => Rv 150 42 ls (.int x :: st) w := R_ldI Q150 (by decide +kernel) rfl
theorem e150_42 {ls : zL} {w : zW} {n1 : Int32} {n2 : Int32} {a0 : Nat} : Rv 150 42 ls [.int n1, .int n2, .ref a0] w = hO w a0 6 (cal (Rv 148 0 [some (.ref a0), some (.int n2), some (.int n1)] [] w) (fun v w' => Rv 150 45 ls (vts v []) w') (xnone)) := R_calV (z := 1165) (r := []) Q150 (by decide +kernel) rfl rfl Q148 rfl rfl rfl
theorem e150_45 {ls : zL} {st : List Value} {w : zW} : Rv 150 45 ls st w = ldA ls 0 fun x => Rv 150 46 ls (x :: st) w := R_ldA Q150 (by decide +kernel) rfl
theorem e150_46 {ls : zL} {st : List Value} {w : zW} {a : Nat} : Rv 150 46 ls (.ref a :: st) w = gF w a 6 0 fun v => Rv 150 49 ls (v :: st) w := R_gF (z := 1070) Q150 (by decide +kernel) rfl
theorem e150_49 {ls : zL} {st : List Value} {w : zW} : Rv 150 49 ls st w = Rv 150 50 ls (.int 1 :: st) w := R_con Q150 (by decide +kernel) rfl (by decide)
theorem e150_50 {ls : zL} {st : List Value} {w : zW} {a : Nat} {x : Int32} : Rv 150 50 ls (.int x :: .ref a :: st) w = gI w a 0 8 x fun v => Rv 150 51 ls (.int v :: st) w := R_iald Q150 (by decide +kernel)
theorem e150_51 {ls : zL} {st : List Value} {w : zW} {x y : Int32} : Rv 150 51 ls (.int y :: .int x :: st) w = if x < y then Rv 150 54 ls st w else Rv 150 58 ls st w := R_fige Q150 (by decide +kernel) rfl rfl
theorem e150_54 {ls : zL} {st : List Value} {w : zW} : Rv 150 54 ls st w = Rv 150 55 ls (.int 1 :: st) w := R_con Q150 (by decide +kernel) rfl (by decide)
theorem e150_55 {ls : zL} {st : List Value} {w : zW} : Rv 150 55 ls st w = Rv 150 59 ls st w := R_go Q150 (by decide +kernel) rfl rfl
theorem e150_58 {ls : zL} {st : List Value} {w : zW} : Rv 150 58 ls st w = Rv 150 59 ls (.int 0 :: st) w := R_con Q150 (by decide +kernel) rfl (by decide)
theorem e150_59 {ls : zL} {st : List Value} {w : zW} {x : Int32} : Rv 150 59 ls (.int x :: st) w = lst ls 2 (some (.int x)) fun l => Rv 150 60 l st w := R_st Q150 (by decide +kernel) rfl
theorem e150_60 {ls : zL} {st : List Value} {w : zW} : Rv 150 60 ls st w = ldI ls 3 fun x => lst ls 3 (some (.int (x + 1))) fun l => Rv 150 63 l st w := R_iinc Q150 (by decide +kernel) (by decide)
theorem e150_63 {ls : zL} {st : List Value} {w : zW} : Rv 150 63 ls st w = Rv 150 25 ls st w := R_go Q150 (by decide +kernel) rfl rfl
theorem e150_66 {ls : zL} {st : List Value} {w : zW} : Rv 150 66 ls st w = ldI ls 2 fun x => Rv 150 67 ls (.int x :: st) w := R_ldI Q150 (by decide +kernel) rfl
theorem e150_67 {ls : zL} {w : zW} {x : Int32} : Rv 150 67 ls [.int x] w = if x = 0 ∨ x = 1 then some (.inl (some (.int x)), w) else none := R_retZ Q150 (by decide +kernel) rfl
/-! MasterPinsModel.wrongOf -/
theorem e151_0 {ls : zL} {st : List Value} {w : zW} : Rv 151 0 ls st w = ldA ls 0 fun x => Rv 151 1 ls (x :: st) w := R_ldA Q151 (by decide +kernel) rfl
theorem e151_1 {ls : zL} {st : List Value} {w : zW} : Rv 151 1 ls st w = ldI ls 1 fun x => Rv 151 2 ls (.int x :: st) w := R_ldI Q151 (by decide +kernel) rfl
theorem e151_2 {ls : zL} {w : zW} {n1 : Int32} {a0 : Nat} : Rv 151 2 ls [.int n1, .ref a0] w = hO w a0 6 (cal (Rv 150 0 [some (.ref a0), some (.int n1), none, none] [] w) (fun v w' => Rv 151 5 ls (vts v []) w') (xnone)) := R_calV (z := 1158) (r := []) Q151 (by decide +kernel) rfl rfl Q150 rfl rfl rfl
theorem e151_5 {ls : zL} {st : List Value} {w : zW} {x : Int32} : Rv 151 5 ls (.int x :: st) w = if x = 0 then Rv 151 8 ls st w else Rv 151 10 ls st w := R_f0ne Q151 (by decide +kernel) rfl rfl
theorem e151_8 {ls : zL} {st : List Value} {w : zW} : Rv 151 8 ls st w = Rv 151 9 ls (.int 1 :: st) w := R_con Q151 (by decide +kernel) rfl (by decide)
theorem e151_9 {ls : zL} {w : zW} {x : Int32} : Rv 151 9 ls [.int x] w = some (.inl (some (.int x)), w) := R_retI Q151 (by decide +kernel) rfl
theorem e151_10 {ls : zL} {st : List Value} {w : zW} : Rv 151 10 ls st w = Rv 151 11 ls (.int 0 :: st) w := R_con Q151 (by decide +kernel) rfl (by decide)
theorem e151_11 {ls : zL} {st : List Value} {w : zW} {x : Int32} : Rv 151 11 ls (.int x :: st) w = lst ls 2 (some (.int x)) fun l => Rv 151 12 l st w := R_st Q151 (by decide +kernel) rfl
theorem e151_12 {ls : zL} {st : List Value} {w : zW} : Rv 151 12 ls st w = Rv 151 13 ls (.int 0 :: st) w := R_con Q151 (by decide +kernel) rfl (by decide)
theorem e151_13 {ls : zL} {st : List Value} {w : zW} {x : Int32} : Rv 151 13 ls (.int x :: st) w = lst ls 3 (some (.int x)) fun l => Rv 151 14 l st w := R_st Q151 (by decide +kernel) rfl
theorem h151_14 {ls : zL} {st : List Value} {w : zW} : Rv 151 14 ls st w = ldI ls 3 fun x => Rv 151 15 ls (.int x :: st) w := R_ldI Q151 (by decide +kernel) rfl
theorem e151_15 {ls : zL} {st : List Value} {w : zW} : Rv 151 15 ls st w = ldA ls 0 fun x => Rv 151 16 ls (x :: st) w := R_ldA Q151 (by decide +kernel) rfl
theorem e151_16 {ls : zL} {st : List Value} {w : zW} {a : Nat} : Rv 151 16 ls (.ref a :: st) w = gF w a 6 0 fun v => Rv 151 19 ls (v :: st) w := R_gF (z := 1070) Q151 (by decide +kernel) rfl
theorem e151_19 {ls : zL} {st : List Value} {w : zW} : Rv 151 19 ls st w = Rv 151 20 ls (.int 0 :: st) w := R_con Q151 (by decide +kernel) rfl (by decide)
theorem e151_20 {ls : zL} {st : List Value} {w : zW} {a : Nat} {x : Int32} : Rv 151 20 ls (.int x :: .ref a :: st) w = gI w a 0 8 x fun v => Rv 151 21 ls (.int v :: st) w := R_iald Q151 (by decide +kernel)
theorem e151_21 {ls : zL} {st : List Value} {w : zW} {x y : Int32} : Rv 151 21 ls (.int y :: .int x :: st) w = if x < y then Rv 151 24 ls st w else Rv 151 73 ls st w := R_fige Q151 (by decide +kernel) rfl rfl
theorem e151_24 {ls : zL} {st : List Value} {w : zW} : Rv 151 24 ls st w = ldI ls 3 fun x => Rv 151 25 ls (.int x :: st) w := R_ldI Q151 (by decide +kernel) rfl
theorem e151_25 {ls : zL} {st : List Value} {w : zW} {x : Int32} : Rv 151 25 ls (.int x :: st) w = if 0 < x then Rv 151 28 ls st w else Rv 151 56 ls st w := R_f0le Q151 (by decide +kernel) rfl rfl
theorem e151_28 {ls : zL} {st : List Value} {w : zW} : Rv 151 28 ls st w = ldA ls 0 fun x => Rv 151 29 ls (x :: st) w := R_ldA Q151 (by decide +kernel) rfl
theorem e151_29 {ls : zL} {st : List Value} {w : zW} : Rv 151 29 ls st w = ldI ls 1 fun x => Rv 151 30 ls (.int x :: st) w := R_ldI Q151 (by decide +kernel) rfl
theorem e151_30 {ls : zL} {st : List Value} {w : zW} : Rv 151 30 ls st w = ldI ls 3 fun x => Rv 151 31 ls (.int x :: st) w := R_ldI Q151 (by decide +kernel) rfl
theorem e151_31 {ls : zL} {w : zW} {n1 : Int32} {n2 : Int32} {a0 : Nat} : Rv 151 31 ls [.int n1, .int n2, .ref a0] w = hO w a0 6 (cal (Rv 148 0 [some (.ref a0), some (.int n2), some (.int n1)] [] w) (fun v w' => Rv 151 34 ls (vts v []) w') (xnone)) := R_calV (z := 1165) (r := []) Q151 (by decide +kernel) rfl rfl Q148 rfl rfl rfl
theorem e151_34 {ls : zL} {st : List Value} {w : zW} : Rv 151 34 ls st w = ldA ls 0 fun x => Rv 151 35 ls (x :: st) w := R_ldA Q151 (by decide +kernel) rfl
theorem e151_35 {ls : zL} {st : List Value} {w : zW} : Rv 151 35 ls st w = ldI ls 1 fun x => Rv 151 36 ls (.int x :: st) w := R_ldI Q151 (by decide +kernel) rfl
theorem e151_36 {ls : zL} {st : List Value} {w : zW} : Rv 151 36 ls st w = ldI ls 3 fun x => Rv 151 37 ls (.int x :: st) w := R_ldI Q151 (by decide +kernel) rfl
theorem e151_37 {ls : zL} {st : List Value} {w : zW} : Rv 151 37 ls st w = Rv 151 38 ls (.int 1 :: st) w := R_con Q151 (by decide +kernel) rfl (by decide)
theorem e151_38 {ls : zL} {st : List Value} {w : zW} {x y : Int32} : Rv 151 38 ls (.int y :: .int x :: st) w = Rv 151 39 ls (.int (x - y) :: st) w := R_next Q151 (by decide +kernel) rfl
theorem e151_39 {ls : zL} {w : zW} {n1 : Int32} {n2 : Int32} {a0 : Nat} {n3 : Int32} : Rv 151 39 ls [.int n1, .int n2, .ref a0, .int n3] w = hO w a0 6 (cal (Rv 148 0 [some (.ref a0), some (.int n2), some (.int n1)] [] w) (fun v w' => Rv 151 42 ls (vts v [.int n3]) w') (xnone)) := R_calV (z := 1165) (r := [.int n3]) Q151 (by decide +kernel) rfl rfl Q148 rfl rfl rfl
theorem e151_42 {ls : zL} {w : zW} {n1 : Int32} {n2 : Int32} : Rv 151 42 ls [.int n1, .int n2] w = cal (Rv 149 0 [some (.int n2), some (.int n1)] [] w) (fun v w' => Rv 151 45 ls (vts v []) w') (xnone) := R_calS (z := 1169) (kd := 1) (n := 2) Q151 (by decide +kernel) rfl (Or.inl rfl) (Nat.le_of_ble_eq_true rfl) rfl Q149 rfl rfl rfl
theorem e151_45 {ls : zL} {st : List Value} {w : zW} : Rv 151 45 ls st w = ldA ls 0 fun x => Rv 151 46 ls (x :: st) w := R_ldA Q151 (by decide +kernel) rfl
theorem e151_46 {ls : zL} {st : List Value} {w : zW} {a : Nat} : Rv 151 46 ls (.ref a :: st) w = gF w a 6 0 fun v => Rv 151 49 ls (v :: st) w := R_gF (z := 1070) Q151 (by decide +kernel) rfl
theorem e151_49 {ls : zL} {st : List Value} {w : zW} : Rv 151 49 ls st w = Rv 151 50 ls (.int 2 :: st) w := R_con Q151 (by decide +kernel) rfl (by decide)
theorem e151_50 {ls : zL} {st : List Value} {w : zW} {a : Nat} {x : Int32} : Rv 151 50 ls (.int x :: .ref a :: st) w = gI w a 0 8 x fun v => Rv 151 51 ls (.int v :: st) w := R_iald Q151 (by decide +kernel)
theorem e151_51 {ls : zL} {st : List Value} {w : zW} {x y : Int32} : Rv 151 51 ls (.int y :: .int x :: st) w = if y < x then Rv 151 54 ls st w else Rv 151 56 ls st w := R_file Q151 (by decide +kernel) rfl rfl
theorem e151_54 {ls : zL} {st : List Value} {w : zW} : Rv 151 54 ls st w = Rv 151 55 ls (.int 2 :: st) w := R_con Q151 (by decide +kernel) rfl (by decide)
theorem e151_55 {ls : zL} {w : zW} {x : Int32} : Rv 151 55 ls [.int x] w = some (.inl (some (.int x)), w) := R_retI Q151 (by decide +kernel) rfl
theorem e151_56 {ls : zL} {st : List Value} {w : zW} : Rv 151 56 ls st w = ldI ls 2 fun x => Rv 151 57 ls (.int x :: st) w := R_ldI Q151 (by decide +kernel) rfl
theorem e151_57 {ls : zL} {st : List Value} {w : zW} : Rv 151 57 ls st w = Rv 151 58 ls (.int 1 :: st) w := R_con Q151 (by decide +kernel) rfl (by decide)
theorem e151_58 {ls : zL} {st : List Value} {w : zW} : Rv 151 58 ls st w = ldA ls 0 fun x => Rv 151 59 ls (x :: st) w := R_ldA Q151 (by decide +kernel) rfl
theorem e151_59 {ls : zL} {st : List Value} {w : zW} : Rv 151 59 ls st w = ldI ls 1 fun x => Rv 151 60 ls (.int x :: st) w := R_ldI Q151 (by decide +kernel) rfl
theorem e151_60 {ls : zL} {st : List Value} {w : zW} : Rv 151 60 ls st w = ldI ls 3 fun x => Rv 151 61 ls (.int x :: st) w := R_ldI Q151 (by decide +kernel) rfl
theorem e151_61 {ls : zL} {w : zW} {n1 : Int32} {n2 : Int32} {a0 : Nat} {n3 : Int32} {n4 : Int32} : Rv 151 61 ls [.int n1, .int n2, .ref a0, .int n3, .int n4] w = hO w a0 6 (cal (Rv 148 0 [some (.ref a0), some (.int n2), some (.int n1)] [] w) (fun v w' => Rv 151 64 ls (vts v [.int n3, .int n4]) w') (xnone)) := R_calV (z := 1165) (r := [.int n3, .int n4]) Q151 (by decide +kernel) rfl rfl Q148 rfl rfl rfl
theorem e151_64 {ls : zL} {st : List Value} {w : zW} {x y : Int32} : Rv 151 64 ls (.int y :: .int x :: st) w = Rv 151 65 ls (.int (x <<< (y &&& 31)) :: st) w := R_next Q151 (by decide +kernel) rfl
theorem e151_65 {ls : zL} {st : List Value} {w : zW} {x y : Int32} : Rv 151 65 ls (.int y :: .int x :: st) w = Rv 151 66 ls (.int (x ||| y) :: st) w := R_next Q151 (by decide +kernel) rfl
theorem e151_66 {ls : zL} {st : List Value} {w : zW} {x : Int32} : Rv 151 66 ls (.int x :: st) w = lst ls 2 (some (.int x)) fun l => Rv 151 67 l st w := R_st Q151 (by decide +kernel) rfl
theorem e151_67 {ls : zL} {st : List Value} {w : zW} : Rv 151 67 ls st w = ldI ls 3 fun x => lst ls 3 (some (.int (x + 1))) fun l => Rv 151 70 l st w := R_iinc Q151 (by decide +kernel) (by decide)
theorem e151_70 {ls : zL} {st : List Value} {w : zW} : Rv 151 70 ls st w = Rv 151 14 ls st w := R_go Q151 (by decide +kernel) rfl rfl
theorem e151_73 {ls : zL} {st : List Value} {w : zW} : Rv 151 73 ls st w = ldI ls 2 fun x => Rv 151 74 ls (.int x :: st) w := R_ldI Q151 (by decide +kernel) rfl
theorem e151_74 {ls : zL} {w : zW} {n1 : Int32} : Rv 151 74 ls [.int n1] w = cal (Rv 146 0 [some (.int n1), none, none] [] w) (fun v w' => Rv 151 77 ls (vts v []) w') (xnone) := R_calS (z := 1172) (kd := 1) (n := 1) Q151 (by decide +kernel) rfl (Or.inl rfl) (Nat.le_of_ble_eq_true rfl) rfl Q146 rfl rfl rfl
theorem e151_77 {ls : zL} {st : List Value} {w : zW} : Rv 151 77 ls st w = ldA ls 0 fun x => Rv 151 78 ls (x :: st) w := R_ldA Q151 (by decide +kernel) rfl
theorem e151_78 {ls : zL} {st : List Value} {w : zW} {a : Nat} : Rv 151 78 ls (.ref a :: st) w = gF w a 6 0 fun v => Rv 151 81 ls (v :: st) w := R_gF (z := 1070) Q151 (by decide +kernel) rfl
theorem e151_81 {ls : zL} {st : List Value} {w : zW} : Rv 151 81 ls st w = Rv 151 82 ls (.int 3 :: st) w := R_con Q151 (by decide +kernel) rfl (by decide)
theorem e151_82 {ls : zL} {st : List Value} {w : zW} {a : Nat} {x : Int32} : Rv 151 82 ls (.int x :: .ref a :: st) w = gI w a 0 8 x fun v => Rv 151 83 ls (.int v :: st) w := R_iald Q151 (by decide +kernel)
theorem e151_83 {ls : zL} {st : List Value} {w : zW} {x y : Int32} : Rv 151 83 ls (.int y :: .int x :: st) w = if x < y then Rv 151 86 ls st w else Rv 151 90 ls st w := R_fige Q151 (by decide +kernel) rfl rfl
theorem e151_86 {ls : zL} {st : List Value} {w : zW} : Rv 151 86 ls st w = Rv 151 87 ls (.int 3 :: st) w := R_con Q151 (by decide +kernel) rfl (by decide)
theorem e151_87 {ls : zL} {st : List Value} {w : zW} : Rv 151 87 ls st w = Rv 151 91 ls st w := R_go Q151 (by decide +kernel) rfl rfl
theorem e151_90 {ls : zL} {st : List Value} {w : zW} : Rv 151 90 ls st w = Rv 151 91 ls (.int 0 :: st) w := R_con Q151 (by decide +kernel) rfl (by decide)
theorem e151_91 {ls : zL} {w : zW} {x : Int32} : Rv 151 91 ls [.int x] w = some (.inl (some (.int x)), w) := R_retI Q151 (by decide +kernel) rfl
/-! MasterPinsModel.differ -/
theorem e152_0 {ls : zL} {st : List Value} {w : zW} : Rv 152 0 ls st w = Rv 152 1 ls (.int 0 :: st) w := R_con Q152 (by decide +kernel) rfl (by decide)
theorem e152_1 {ls : zL} {st : List Value} {w : zW} {x : Int32} : Rv 152 1 ls (.int x :: st) w = lst ls 3 (some (.int x)) fun l => Rv 152 2 l st w := R_st Q152 (by decide +kernel) rfl
theorem e152_2 {ls : zL} {st : List Value} {w : zW} : Rv 152 2 ls st w = Rv 152 3 ls (.int 0 :: st) w := R_con Q152 (by decide +kernel) rfl (by decide)
theorem e152_3 {ls : zL} {st : List Value} {w : zW} {x : Int32} : Rv 152 3 ls (.int x :: st) w = lst ls 4 (some (.int x)) fun l => Rv 152 5 l st w := R_st Q152 (by decide +kernel) rfl
theorem h152_5 {ls : zL} {st : List Value} {w : zW} : Rv 152 5 ls st w = ldI ls 4 fun x => Rv 152 7 ls (.int x :: st) w := R_ldI Q152 (by decide +kernel) rfl
theorem e152_7 {ls : zL} {st : List Value} {w : zW} : Rv 152 7 ls st w = ldA ls 0 fun x => Rv 152 8 ls (x :: st) w := R_ldA Q152 (by decide +kernel) rfl
theorem e152_8 {ls : zL} {st : List Value} {w : zW} {a : Nat} : Rv 152 8 ls (.ref a :: st) w = gF w a 6 0 fun v => Rv 152 11 ls (v :: st) w := R_gF (z := 1070) Q152 (by decide +kernel) rfl
theorem e152_11 {ls : zL} {st : List Value} {w : zW} : Rv 152 11 ls st w = Rv 152 12 ls (.int 0 :: st) w := R_con Q152 (by decide +kernel) rfl (by decide)
theorem e152_12 {ls : zL} {st : List Value} {w : zW} {a : Nat} {x : Int32} : Rv 152 12 ls (.int x :: .ref a :: st) w = gI w a 0 8 x fun v => Rv 152 13 ls (.int v :: st) w := R_iald Q152 (by decide +kernel)
theorem e152_13 {ls : zL} {st : List Value} {w : zW} {x y : Int32} : Rv 152 13 ls (.int y :: .int x :: st) w = if x < y then Rv 152 16 ls st w else Rv 152 47 ls st w := R_fige Q152 (by decide +kernel) rfl rfl
theorem e152_16 {ls : zL} {st : List Value} {w : zW} : Rv 152 16 ls st w = ldI ls 3 fun x => Rv 152 17 ls (.int x :: st) w := R_ldI Q152 (by decide +kernel) rfl
theorem e152_17 {ls : zL} {st : List Value} {w : zW} : Rv 152 17 ls st w = ldA ls 0 fun x => Rv 152 18 ls (x :: st) w := R_ldA Q152 (by decide +kernel) rfl
theorem e152_18 {ls : zL} {st : List Value} {w : zW} : Rv 152 18 ls st w = ldI ls 1 fun x => Rv 152 19 ls (.int x :: st) w := R_ldI Q152 (by decide +kernel) rfl
theorem e152_19 {ls : zL} {st : List Value} {w : zW} : Rv 152 19 ls st w = ldI ls 4 fun x => Rv 152 21 ls (.int x :: st) w := R_ldI Q152 (by decide +kernel) rfl
theorem e152_21 {ls : zL} {w : zW} {n1 : Int32} {n2 : Int32} {a0 : Nat} {n3 : Int32} : Rv 152 21 ls [.int n1, .int n2, .ref a0, .int n3] w = hO w a0 6 (cal (Rv 148 0 [some (.ref a0), some (.int n2), some (.int n1)] [] w) (fun v w' => Rv 152 24 ls (vts v [.int n3]) w') (xnone)) := R_calV (z := 1165) (r := [.int n3]) Q152 (by decide +kernel) rfl rfl Q148 rfl rfl rfl
theorem e152_24 {ls : zL} {st : List Value} {w : zW} : Rv 152 24 ls st w = ldA ls 0 fun x => Rv 152 25 ls (x :: st) w := R_ldA Q152 (by decide +kernel) rfl
theorem e152_25 {ls : zL} {st : List Value} {w : zW} : Rv 152 25 ls st w = ldI ls 2 fun x => Rv 152 26 ls (.int x :: st) w := R_ldI Q152 (by decide +kernel) rfl
theorem e152_26 {ls : zL} {st : List Value} {w : zW} : Rv 152 26 ls st w = ldI ls 4 fun x => Rv 152 28 ls (.int x :: st) w := R_ldI Q152 (by decide +kernel) rfl
theorem e152_28 {ls : zL} {w : zW} {n1 : Int32} {n2 : Int32} {a0 : Nat} {n3 : Int32} {n4 : Int32} : Rv 152 28 ls [.int n1, .int n2, .ref a0, .int n3, .int n4] w = hO w a0 6 (cal (Rv 148 0 [some (.ref a0), some (.int n2), some (.int n1)] [] w) (fun v w' => Rv 152 31 ls (vts v [.int n3, .int n4]) w') (xnone)) := R_calV (z := 1165) (r := [.int n3, .int n4]) Q152 (by decide +kernel) rfl rfl Q148 rfl rfl rfl
theorem e152_31 {ls : zL} {st : List Value} {w : zW} {x y : Int32} : Rv 152 31 ls (.int y :: .int x :: st) w = if x = y then Rv 152 34 ls st w else Rv 152 38 ls st w := R_fine Q152 (by decide +kernel) rfl rfl
theorem e152_34 {ls : zL} {st : List Value} {w : zW} : Rv 152 34 ls st w = Rv 152 35 ls (.int 0 :: st) w := R_con Q152 (by decide +kernel) rfl (by decide)
theorem e152_35 {ls : zL} {st : List Value} {w : zW} : Rv 152 35 ls st w = Rv 152 39 ls st w := R_go Q152 (by decide +kernel) rfl rfl
theorem e152_38 {ls : zL} {st : List Value} {w : zW} : Rv 152 38 ls st w = Rv 152 39 ls (.int 1 :: st) w := R_con Q152 (by decide +kernel) rfl (by decide)
theorem e152_39 {ls : zL} {st : List Value} {w : zW} {x y : Int32} : Rv 152 39 ls (.int y :: .int x :: st) w = Rv 152 40 ls (.int (x + y) :: st) w := R_next Q152 (by decide +kernel) rfl
theorem e152_40 {ls : zL} {st : List Value} {w : zW} {x : Int32} : Rv 152 40 ls (.int x :: st) w = lst ls 3 (some (.int x)) fun l => Rv 152 41 l st w := R_st Q152 (by decide +kernel) rfl
theorem e152_41 {ls : zL} {st : List Value} {w : zW} : Rv 152 41 ls st w = ldI ls 4 fun x => lst ls 4 (some (.int (x + 1))) fun l => Rv 152 44 l st w := R_iinc Q152 (by decide +kernel) (by decide)
theorem e152_44 {ls : zL} {st : List Value} {w : zW} : Rv 152 44 ls st w = Rv 152 5 ls st w := R_go Q152 (by decide +kernel) rfl rfl
theorem e152_47 {ls : zL} {st : List Value} {w : zW} : Rv 152 47 ls st w = ldI ls 3 fun x => Rv 152 48 ls (.int x :: st) w := R_ldI Q152 (by decide +kernel) rfl
theorem e152_48 {ls : zL} {w : zW} {x : Int32} : Rv 152 48 ls [.int x] w = some (.inl (some (.int x)), w) := R_retI Q152 (by decide +kernel) rfl
/-! MasterPinsModel.reasonOf -/
theorem e153_0 {ls : zL} {st : List Value} {w : zW} : Rv 153 0 ls st w = ldA ls 0 fun x => Rv 153 1 ls (x :: st) w := R_ldA Q153 (by decide +kernel) rfl
theorem e153_1 {ls : zL} {st : List Value} {w : zW} : Rv 153 1 ls st w = ldI ls 2 fun x => Rv 153 2 ls (.int x :: st) w := R_ldI Q153 (by decide +kernel) rfl
theorem e153_2 {ls : zL} {w : zW} {n1 : Int32} {a0 : Nat} : Rv 153 2 ls [.int n1, .ref a0] w = hO w a0 6 (cal (Rv 151 0 [some (.ref a0), some (.int n1), none, none] [] w) (fun v w' => Rv 153 5 ls (vts v []) w') (xnone)) := R_calV (z := 1154) (r := []) Q153 (by decide +kernel) rfl rfl Q151 rfl rfl rfl
theorem e153_5 {ls : zL} {st : List Value} {w : zW} {x : Int32} : Rv 153 5 ls (.int x :: st) w = lst ls 3 (some (.int x)) fun l => Rv 153 6 l st w := R_st Q153 (by decide +kernel) rfl
theorem e153_6 {ls : zL} {st : List Value} {w : zW} : Rv 153 6 ls st w = Rv 153 7 ls (.int 0 :: st) w := R_con Q153 (by decide +kernel) rfl (by decide)
theorem e153_7 {ls : zL} {st : List Value} {w : zW} {x : Int32} : Rv 153 7 ls (.int x :: st) w = lst ls 4 (some (.int x)) fun l => Rv 153 9 l st w := R_st Q153 (by decide +kernel) rfl
theorem h153_9 {ls : zL} {st : List Value} {w : zW} : Rv 153 9 ls st w = ldI ls 4 fun x => Rv 153 11 ls (.int x :: st) w := R_ldI Q153 (by decide +kernel) rfl
theorem e153_11 {ls : zL} {st : List Value} {w : zW} : Rv 153 11 ls st w = ldA ls 0 fun x => Rv 153 12 ls (x :: st) w := R_ldA Q153 (by decide +kernel) rfl
theorem e153_12 {ls : zL} {st : List Value} {w : zW} {a : Nat} : Rv 153 12 ls (.ref a :: st) w = gF w a 6 0 fun v => Rv 153 15 ls (v :: st) w := R_gF (z := 1070) Q153 (by decide +kernel) rfl
theorem e153_15 {ls : zL} {st : List Value} {w : zW} : Rv 153 15 ls st w = Rv 153 16 ls (.int 5 :: st) w := R_con Q153 (by decide +kernel) rfl (by decide)
theorem e153_16 {ls : zL} {st : List Value} {w : zW} {a : Nat} {x : Int32} : Rv 153 16 ls (.int x :: .ref a :: st) w = gI w a 0 8 x fun v => Rv 153 17 ls (.int v :: st) w := R_iald Q153 (by decide +kernel)
theorem e153_17 {ls : zL} {st : List Value} {w : zW} {x y : Int32} : Rv 153 17 ls (.int y :: .int x :: st) w = if x < y then Rv 153 20 ls st w else Rv 153 66 ls st w := R_fige Q153 (by decide +kernel) rfl rfl
theorem e153_20 {ls : zL} {st : List Value} {w : zW} : Rv 153 20 ls st w = ldI ls 3 fun x => Rv 153 21 ls (.int x :: st) w := R_ldI Q153 (by decide +kernel) rfl
theorem e153_21 {ls : zL} {st : List Value} {w : zW} {x : Int32} : Rv 153 21 ls (.int x :: st) w = if x = 0 then Rv 153 24 ls st w else Rv 153 66 ls st w := R_f0ne Q153 (by decide +kernel) rfl rfl
theorem e153_24 {ls : zL} {st : List Value} {w : zW} : Rv 153 24 ls st w = ldI ls 4 fun x => Rv 153 26 ls (.int x :: st) w := R_ldI Q153 (by decide +kernel) rfl
theorem e153_26 {ls : zL} {st : List Value} {w : zW} : Rv 153 26 ls st w = ldI ls 1 fun x => Rv 153 27 ls (.int x :: st) w := R_ldI Q153 (by decide +kernel) rfl
theorem e153_27 {ls : zL} {st : List Value} {w : zW} {x y : Int32} : Rv 153 27 ls (.int y :: .int x :: st) w = if x = y then Rv 153 58 ls st w else Rv 153 30 ls st w := R_fieq Q153 (by decide +kernel) rfl rfl
theorem e153_30 {ls : zL} {st : List Value} {w : zW} : Rv 153 30 ls st w = ldA ls 0 fun x => Rv 153 31 ls (x :: st) w := R_ldA Q153 (by decide +kernel) rfl
theorem e153_31 {ls : zL} {st : List Value} {w : zW} : Rv 153 31 ls st w = ldI ls 2 fun x => Rv 153 32 ls (.int x :: st) w := R_ldI Q153 (by decide +kernel) rfl
theorem e153_32 {ls : zL} {st : List Value} {w : zW} : Rv 153 32 ls st w = ldA ls 0 fun x => Rv 153 33 ls (x :: st) w := R_ldA Q153 (by decide +kernel) rfl
theorem e153_33 {ls : zL} {st : List Value} {w : zW} {a : Nat} : Rv 153 33 ls (.ref a :: st) w = gF w a 6 0 fun v => Rv 153 36 ls (v :: st) w := R_gF (z := 1070) Q153 (by decide +kernel) rfl
theorem e153_36 {ls : zL} {st : List Value} {w : zW} : Rv 153 36 ls st w = Rv 153 38 ls (.int 7 :: st) w := R_con Q153 (by decide +kernel) rfl (by decide)
theorem e153_38 {ls : zL} {st : List Value} {w : zW} : Rv 153 38 ls st w = ldI ls 4 fun x => Rv 153 40 ls (.int x :: st) w := R_ldI Q153 (by decide +kernel) rfl
theorem e153_40 {ls : zL} {st : List Value} {w : zW} {x y : Int32} : Rv 153 40 ls (.int y :: .int x :: st) w = Rv 153 41 ls (.int (x + y) :: st) w := R_next Q153 (by decide +kernel) rfl
theorem e153_41 {ls : zL} {st : List Value} {w : zW} {a : Nat} {x : Int32} : Rv 153 41 ls (.int x :: .ref a :: st) w = gI w a 0 8 x fun v => Rv 153 42 ls (.int v :: st) w := R_iald Q153 (by decide +kernel)
theorem e153_42 {ls : zL} {w : zW} {n1 : Int32} {n2 : Int32} {a0 : Nat} : Rv 153 42 ls [.int n1, .int n2, .ref a0] w = hO w a0 6 (cal (Rv 152 0 [some (.ref a0), some (.int n2), some (.int n1), none, none] [] w) (fun v w' => Rv 153 45 ls (vts v []) w') (xnone)) := R_calV (z := 1175) (r := []) Q153 (by decide +kernel) rfl rfl Q152 rfl rfl rfl
theorem e153_45 {ls : zL} {st : List Value} {w : zW} : Rv 153 45 ls st w = ldA ls 0 fun x => Rv 153 46 ls (x :: st) w := R_ldA Q153 (by decide +kernel) rfl
theorem e153_46 {ls : zL} {st : List Value} {w : zW} {a : Nat} : Rv 153 46 ls (.ref a :: st) w = gF w a 6 0 fun v => Rv 153 49 ls (v :: st) w := R_gF (z := 1070) Q153 (by decide +kernel) rfl
theorem e153_49 {ls : zL} {st : List Value} {w : zW} : Rv 153 49 ls st w = Rv 153 50 ls (.int 4 :: st) w := R_con Q153 (by decide +kernel) rfl (by decide)
theorem e153_50 {ls : zL} {st : List Value} {w : zW} {a : Nat} {x : Int32} : Rv 153 50 ls (.int x :: .ref a :: st) w = gI w a 0 8 x fun v => Rv 153 51 ls (.int v :: st) w := R_iald Q153 (by decide +kernel)
theorem e153_51 {ls : zL} {st : List Value} {w : zW} {x y : Int32} : Rv 153 51 ls (.int y :: .int x :: st) w = if x < y then Rv 153 54 ls st w else Rv 153 58 ls st w := R_fige Q153 (by decide +kernel) rfl rfl
theorem e153_54 {ls : zL} {st : List Value} {w : zW} : Rv 153 54 ls st w = Rv 153 55 ls (.int 4 :: st) w := R_con Q153 (by decide +kernel) rfl (by decide)
theorem e153_55 {ls : zL} {st : List Value} {w : zW} : Rv 153 55 ls st w = Rv 153 59 ls st w := R_go Q153 (by decide +kernel) rfl rfl
theorem e153_58 {ls : zL} {st : List Value} {w : zW} : Rv 153 58 ls st w = Rv 153 59 ls (.int 0 :: st) w := R_con Q153 (by decide +kernel) rfl (by decide)
theorem e153_59 {ls : zL} {st : List Value} {w : zW} {x : Int32} : Rv 153 59 ls (.int x :: st) w = lst ls 3 (some (.int x)) fun l => Rv 153 60 l st w := R_st Q153 (by decide +kernel) rfl
theorem e153_60 {ls : zL} {st : List Value} {w : zW} : Rv 153 60 ls st w = ldI ls 4 fun x => lst ls 4 (some (.int (x + 1))) fun l => Rv 153 63 l st w := R_iinc Q153 (by decide +kernel) (by decide)
theorem e153_63 {ls : zL} {st : List Value} {w : zW} : Rv 153 63 ls st w = Rv 153 9 ls st w := R_go Q153 (by decide +kernel) rfl rfl
theorem e153_66 {ls : zL} {st : List Value} {w : zW} : Rv 153 66 ls st w = ldI ls 3 fun x => Rv 153 67 ls (.int x :: st) w := R_ldI Q153 (by decide +kernel) rfl
theorem e153_67 {ls : zL} {w : zW} {x : Int32} : Rv 153 67 ls [.int x] w = some (.inl (some (.int x)), w) := R_retI Q153 (by decide +kernel) rfl
/-! MasterPinsModel.codeOf -/
theorem e154_0 {ls : zL} {st : List Value} {w : zW} : Rv 154 0 ls st w = Rv 154 1 ls (.int 0 :: st) w := R_con Q154 (by decide +kernel) rfl (by decide)
theorem e154_1 {ls : zL} {st : List Value} {w : zW} {x : Int32} : Rv 154 1 ls (.int x :: st) w = lst ls 2 (some (.int x)) fun l => Rv 154 2 l st w := R_st Q154 (by decide +kernel) rfl
theorem e154_2 {ls : zL} {st : List Value} {w : zW} : Rv 154 2 ls st w = ldI ls 1 fun x => Rv 154 3 ls (.int x :: st) w := R_ldI Q154 (by decide +kernel) rfl
theorem e154_3 {ls : zL} {st : List Value} {w : zW} {x : Int32} : Rv 154 3 ls (.int x :: st) w = lst ls 3 (some (.int x)) fun l => Rv 154 4 l st w := R_st Q154 (by decide +kernel) rfl
theorem e154_4 {ls : zL} {st : List Value} {w : zW} : Rv 154 4 ls st w = Rv 154 5 ls (.int 1 :: st) w := R_con Q154 (by decide +kernel) rfl (by decide)
theorem e154_5 {ls : zL} {st : List Value} {w : zW} {x : Int32} : Rv 154 5 ls (.int x :: st) w = lst ls 4 (some (.int x)) fun l => Rv 154 7 l st w := R_st Q154 (by decide +kernel) rfl
theorem e154_7 {ls : zL} {st : List Value} {w : zW} : Rv 154 7 ls st w = Rv 154 8 ls (.int 0 :: st) w := R_con Q154 (by decide +kernel) rfl (by decide)
theorem e154_8 {ls : zL} {st : List Value} {w : zW} {x : Int32} : Rv 154 8 ls (.int x :: st) w = lst ls 5 (some (.int x)) fun l => Rv 154 10 l st w := R_st Q154 (by decide +kernel) rfl
theorem h154_10 {ls : zL} {st : List Value} {w : zW} : Rv 154 10 ls st w = ldI ls 5 fun x => Rv 154 12 ls (.int x :: st) w := R_ldI Q154 (by decide +kernel) rfl
theorem e154_12 {ls : zL} {st : List Value} {w : zW} : Rv 154 12 ls st w = ldA ls 0 fun x => Rv 154 13 ls (x :: st) w := R_ldA Q154 (by decide +kernel) rfl
theorem e154_13 {ls : zL} {st : List Value} {w : zW} {a : Nat} : Rv 154 13 ls (.ref a :: st) w = gF w a 6 0 fun v => Rv 154 16 ls (v :: st) w := R_gF (z := 1070) Q154 (by decide +kernel) rfl
theorem e154_16 {ls : zL} {st : List Value} {w : zW} : Rv 154 16 ls st w = Rv 154 17 ls (.int 0 :: st) w := R_con Q154 (by decide +kernel) rfl (by decide)
theorem e154_17 {ls : zL} {st : List Value} {w : zW} {a : Nat} {x : Int32} : Rv 154 17 ls (.int x :: .ref a :: st) w = gI w a 0 8 x fun v => Rv 154 18 ls (.int v :: st) w := R_iald Q154 (by decide +kernel)
theorem e154_18 {ls : zL} {st : List Value} {w : zW} {x y : Int32} : Rv 154 18 ls (.int y :: .int x :: st) w = if x < y then Rv 154 21 ls st w else Rv 154 57 ls st w := R_fige Q154 (by decide +kernel) rfl rfl
theorem e154_21 {ls : zL} {st : List Value} {w : zW} : Rv 154 21 ls st w = ldI ls 2 fun x => Rv 154 22 ls (.int x :: st) w := R_ldI Q154 (by decide +kernel) rfl
theorem e154_22 {ls : zL} {st : List Value} {w : zW} : Rv 154 22 ls st w = ldI ls 3 fun x => Rv 154 23 ls (.int x :: st) w := R_ldI Q154 (by decide +kernel) rfl
theorem e154_23 {ls : zL} {st : List Value} {w : zW} : Rv 154 23 ls st w = ldA ls 0 fun x => Rv 154 24 ls (x :: st) w := R_ldA Q154 (by decide +kernel) rfl
theorem e154_24 {ls : zL} {st : List Value} {w : zW} {a : Nat} : Rv 154 24 ls (.ref a :: st) w = gF w a 6 0 fun v => Rv 154 27 ls (v :: st) w := R_gF (z := 1070) Q154 (by decide +kernel) rfl
theorem e154_27 {ls : zL} {st : List Value} {w : zW} : Rv 154 27 ls st w = Rv 154 28 ls (.int 1 :: st) w := R_con Q154 (by decide +kernel) rfl (by decide)
theorem e154_28 {ls : zL} {st : List Value} {w : zW} {a : Nat} {x : Int32} : Rv 154 28 ls (.int x :: .ref a :: st) w = gI w a 0 8 x fun v => Rv 154 29 ls (.int v :: st) w := R_iald Q154 (by decide +kernel)
theorem e154_29 {ls : zL} {st : List Value} {w : zW} {x y : Int32} : Rv 154 29 ls (.int y :: .int x :: st) w = if y = 0 then none else Rv 154 30 ls (.int (rmi x y) :: st) w := R_rem Q154 (by decide +kernel)
theorem e154_30 {ls : zL} {st : List Value} {w : zW} : Rv 154 30 ls st w = ldI ls 4 fun x => Rv 154 32 ls (.int x :: st) w := R_ldI Q154 (by decide +kernel) rfl
theorem e154_32 {ls : zL} {st : List Value} {w : zW} {x y : Int32} : Rv 154 32 ls (.int y :: .int x :: st) w = Rv 154 33 ls (.int (x * y) :: st) w := R_next Q154 (by decide +kernel) rfl
theorem e154_33 {ls : zL} {st : List Value} {w : zW} {x y : Int32} : Rv 154 33 ls (.int y :: .int x :: st) w = Rv 154 34 ls (.int (x + y) :: st) w := R_next Q154 (by decide +kernel) rfl
theorem e154_34 {ls : zL} {st : List Value} {w : zW} {x : Int32} : Rv 154 34 ls (.int x :: st) w = lst ls 2 (some (.int x)) fun l => Rv 154 35 l st w := R_st Q154 (by decide +kernel) rfl
theorem e154_35 {ls : zL} {st : List Value} {w : zW} : Rv 154 35 ls st w = ldI ls 3 fun x => Rv 154 36 ls (.int x :: st) w := R_ldI Q154 (by decide +kernel) rfl
theorem e154_36 {ls : zL} {st : List Value} {w : zW} : Rv 154 36 ls st w = ldA ls 0 fun x => Rv 154 37 ls (x :: st) w := R_ldA Q154 (by decide +kernel) rfl
theorem e154_37 {ls : zL} {st : List Value} {w : zW} {a : Nat} : Rv 154 37 ls (.ref a :: st) w = gF w a 6 0 fun v => Rv 154 40 ls (v :: st) w := R_gF (z := 1070) Q154 (by decide +kernel) rfl
theorem e154_40 {ls : zL} {st : List Value} {w : zW} : Rv 154 40 ls st w = Rv 154 41 ls (.int 1 :: st) w := R_con Q154 (by decide +kernel) rfl (by decide)
theorem e154_41 {ls : zL} {st : List Value} {w : zW} {a : Nat} {x : Int32} : Rv 154 41 ls (.int x :: .ref a :: st) w = gI w a 0 8 x fun v => Rv 154 42 ls (.int v :: st) w := R_iald Q154 (by decide +kernel)
theorem e154_42 {ls : zL} {st : List Value} {w : zW} {x y : Int32} : Rv 154 42 ls (.int y :: .int x :: st) w = if y = 0 then none else Rv 154 43 ls (.int (x / y) :: st) w := R_div Q154 (by decide +kernel)
theorem e154_43 {ls : zL} {st : List Value} {w : zW} {x : Int32} : Rv 154 43 ls (.int x :: st) w = lst ls 3 (some (.int x)) fun l => Rv 154 44 l st w := R_st Q154 (by decide +kernel) rfl
theorem e154_44 {ls : zL} {st : List Value} {w : zW} : Rv 154 44 ls st w = ldI ls 4 fun x => Rv 154 46 ls (.int x :: st) w := R_ldI Q154 (by decide +kernel) rfl
theorem e154_46 {ls : zL} {st : List Value} {w : zW} : Rv 154 46 ls st w = Rv 154 48 ls (.int 10 :: st) w := R_con Q154 (by decide +kernel) rfl (by decide)
theorem e154_48 {ls : zL} {st : List Value} {w : zW} {x y : Int32} : Rv 154 48 ls (.int y :: .int x :: st) w = Rv 154 49 ls (.int (x * y) :: st) w := R_next Q154 (by decide +kernel) rfl
theorem e154_49 {ls : zL} {st : List Value} {w : zW} {x : Int32} : Rv 154 49 ls (.int x :: st) w = lst ls 4 (some (.int x)) fun l => Rv 154 51 l st w := R_st Q154 (by decide +kernel) rfl
theorem e154_51 {ls : zL} {st : List Value} {w : zW} : Rv 154 51 ls st w = ldI ls 5 fun x => lst ls 5 (some (.int (x + 1))) fun l => Rv 154 54 l st w := R_iinc Q154 (by decide +kernel) (by decide)
theorem e154_54 {ls : zL} {st : List Value} {w : zW} : Rv 154 54 ls st w = Rv 154 10 ls st w := R_go Q154 (by decide +kernel) rfl rfl
theorem e154_57 {ls : zL} {st : List Value} {w : zW} : Rv 154 57 ls st w = ldI ls 2 fun x => Rv 154 58 ls (.int x :: st) w := R_ldI Q154 (by decide +kernel) rfl
theorem e154_58 {ls : zL} {w : zW} {x : Int32} : Rv 154 58 ls [.int x] w = some (.inl (some (.int x)), w) := R_retI Q154 (by decide +kernel) rfl
/-! MasterPinsModel.allCodes -/
theorem e155_0 {ls : zL} {st : List Value} {w : zW} : Rv 155 0 ls st w = Rv 155 1 ls (.int 1 :: st) w := R_con Q155 (by decide +kernel) rfl (by decide)
theorem e155_1 {ls : zL} {st : List Value} {w : zW} {x : Int32} : Rv 155 1 ls (.int x :: st) w = lst ls 1 (some (.int x)) fun l => Rv 155 2 l st w := R_st Q155 (by decide +kernel) rfl
theorem e155_2 {ls : zL} {st : List Value} {w : zW} : Rv 155 2 ls st w = Rv 155 3 ls (.int 0 :: st) w := R_con Q155 (by decide +kernel) rfl (by decide)
theorem e155_3 {ls : zL} {st : List Value} {w : zW} {x : Int32} : Rv 155 3 ls (.int x :: st) w = lst ls 2 (some (.int x)) fun l => Rv 155 4 l st w := R_st Q155 (by decide +kernel) rfl
theorem h155_4 {ls : zL} {st : List Value} {w : zW} : Rv 155 4 ls st w = ldI ls 2 fun x => Rv 155 5 ls (.int x :: st) w := R_ldI Q155 (by decide +kernel) rfl
theorem e155_5 {ls : zL} {st : List Value} {w : zW} : Rv 155 5 ls st w = ldA ls 0 fun x => Rv 155 6 ls (x :: st) w := R_ldA Q155 (by decide +kernel) rfl
theorem e155_6 {ls : zL} {st : List Value} {w : zW} {a : Nat} : Rv 155 6 ls (.ref a :: st) w = gF w a 6 0 fun v => Rv 155 9 ls (v :: st) w := R_gF (z := 1070) Q155 (by decide +kernel) rfl
theorem e155_9 {ls : zL} {st : List Value} {w : zW} : Rv 155 9 ls st w = Rv 155 10 ls (.int 0 :: st) w := R_con Q155 (by decide +kernel) rfl (by decide)
theorem e155_10 {ls : zL} {st : List Value} {w : zW} {a : Nat} {x : Int32} : Rv 155 10 ls (.int x :: .ref a :: st) w = gI w a 0 8 x fun v => Rv 155 11 ls (.int v :: st) w := R_iald Q155 (by decide +kernel)
theorem e155_11 {ls : zL} {st : List Value} {w : zW} {x y : Int32} : Rv 155 11 ls (.int y :: .int x :: st) w = if x < y then Rv 155 14 ls st w else Rv 155 29 ls st w := R_fige Q155 (by decide +kernel) rfl rfl
theorem e155_14 {ls : zL} {st : List Value} {w : zW} : Rv 155 14 ls st w = ldI ls 1 fun x => Rv 155 15 ls (.int x :: st) w := R_ldI Q155 (by decide +kernel) rfl
theorem e155_15 {ls : zL} {st : List Value} {w : zW} : Rv 155 15 ls st w = ldA ls 0 fun x => Rv 155 16 ls (x :: st) w := R_ldA Q155 (by decide +kernel) rfl
theorem e155_16 {ls : zL} {st : List Value} {w : zW} {a : Nat} : Rv 155 16 ls (.ref a :: st) w = gF w a 6 0 fun v => Rv 155 19 ls (v :: st) w := R_gF (z := 1070) Q155 (by decide +kernel) rfl
theorem e155_19 {ls : zL} {st : List Value} {w : zW} : Rv 155 19 ls st w = Rv 155 20 ls (.int 1 :: st) w := R_con Q155 (by decide +kernel) rfl (by decide)
theorem e155_20 {ls : zL} {st : List Value} {w : zW} {a : Nat} {x : Int32} : Rv 155 20 ls (.int x :: .ref a :: st) w = gI w a 0 8 x fun v => Rv 155 21 ls (.int v :: st) w := R_iald Q155 (by decide +kernel)
theorem e155_21 {ls : zL} {st : List Value} {w : zW} {x y : Int32} : Rv 155 21 ls (.int y :: .int x :: st) w = Rv 155 22 ls (.int (x * y) :: st) w := R_next Q155 (by decide +kernel) rfl
theorem e155_22 {ls : zL} {st : List Value} {w : zW} {x : Int32} : Rv 155 22 ls (.int x :: st) w = lst ls 1 (some (.int x)) fun l => Rv 155 23 l st w := R_st Q155 (by decide +kernel) rfl
theorem e155_23 {ls : zL} {st : List Value} {w : zW} : Rv 155 23 ls st w = ldI ls 2 fun x => lst ls 2 (some (.int (x + 1))) fun l => Rv 155 26 l st w := R_iinc Q155 (by decide +kernel) (by decide)
theorem e155_26 {ls : zL} {st : List Value} {w : zW} : Rv 155 26 ls st w = Rv 155 4 ls st w := R_go Q155 (by decide +kernel) rfl rfl
theorem e155_29 {ls : zL} {st : List Value} {w : zW} : Rv 155 29 ls st w = ldI ls 1 fun x => Rv 155 30 ls (.int x :: st) w := R_ldI Q155 (by decide +kernel) rfl
theorem e155_30 {ls : zL} {w : zW} {x : Int32} : Rv 155 30 ls [.int x] w = some (.inl (some (.int x)), w) := R_retI Q155 (by decide +kernel) rfl
/-! MasterPinsModel.above -/
theorem e156_0 {ls : zL} {st : List Value} {w : zW} : Rv 156 0 ls st w = Rv 156 1 ls (.int 0 :: st) w := R_con Q156 (by decide +kernel) rfl (by decide)
theorem e156_1 {ls : zL} {st : List Value} {w : zW} {x : Int32} : Rv 156 1 ls (.int x :: st) w = lst ls 2 (some (.int x)) fun l => Rv 156 2 l st w := R_st Q156 (by decide +kernel) rfl
theorem e156_2 {ls : zL} {st : List Value} {w : zW} : Rv 156 2 ls st w = ldA ls 0 fun x => Rv 156 3 ls (x :: st) w := R_ldA Q156 (by decide +kernel) rfl
theorem e156_3 {ls : zL} {st : List Value} {w : zW} {a : Nat} : Rv 156 3 ls (.ref a :: st) w = gF w a 6 0 fun v => Rv 156 6 ls (v :: st) w := R_gF (z := 1070) Q156 (by decide +kernel) rfl
theorem e156_6 {ls : zL} {st : List Value} {w : zW} : Rv 156 6 ls st w = Rv 156 8 ls (.int 23 :: st) w := R_con Q156 (by decide +kernel) rfl (by decide)
theorem e156_8 {ls : zL} {st : List Value} {w : zW} : Rv 156 8 ls st w = ldI ls 1 fun x => Rv 156 9 ls (.int x :: st) w := R_ldI Q156 (by decide +kernel) rfl
theorem e156_9 {ls : zL} {st : List Value} {w : zW} {x y : Int32} : Rv 156 9 ls (.int y :: .int x :: st) w = Rv 156 10 ls (.int (x + y) :: st) w := R_next Q156 (by decide +kernel) rfl
theorem e156_10 {ls : zL} {st : List Value} {w : zW} {a : Nat} {x : Int32} : Rv 156 10 ls (.int x :: .ref a :: st) w = gI w a 0 8 x fun v => Rv 156 11 ls (.int v :: st) w := R_iald Q156 (by decide +kernel)
theorem e156_11 {ls : zL} {st : List Value} {w : zW} {x : Int32} : Rv 156 11 ls (.int x :: st) w = lst ls 3 (some (.int x)) fun l => Rv 156 12 l st w := R_st Q156 (by decide +kernel) rfl
theorem h156_12 {ls : zL} {st : List Value} {w : zW} : Rv 156 12 ls st w = ldI ls 3 fun x => Rv 156 13 ls (.int x :: st) w := R_ldI Q156 (by decide +kernel) rfl
theorem e156_13 {ls : zL} {st : List Value} {w : zW} : Rv 156 13 ls st w = Rv 156 14 ls (.int (-1) :: st) w := R_con Q156 (by decide +kernel) rfl (by decide)
theorem e156_14 {ls : zL} {st : List Value} {w : zW} {x y : Int32} : Rv 156 14 ls (.int y :: .int x :: st) w = if x = y then Rv 156 36 ls st w else Rv 156 17 ls st w := R_fieq Q156 (by decide +kernel) rfl rfl
theorem e156_17 {ls : zL} {st : List Value} {w : zW} : Rv 156 17 ls st w = ldI ls 2 fun x => Rv 156 18 ls (.int x :: st) w := R_ldI Q156 (by decide +kernel) rfl
theorem e156_18 {ls : zL} {st : List Value} {w : zW} : Rv 156 18 ls st w = Rv 156 19 ls (.int 1 :: st) w := R_con Q156 (by decide +kernel) rfl (by decide)
theorem e156_19 {ls : zL} {st : List Value} {w : zW} : Rv 156 19 ls st w = ldI ls 3 fun x => Rv 156 20 ls (.int x :: st) w := R_ldI Q156 (by decide +kernel) rfl
theorem e156_20 {ls : zL} {st : List Value} {w : zW} {x y : Int32} : Rv 156 20 ls (.int y :: .int x :: st) w = Rv 156 21 ls (.int (x <<< (y &&& 31)) :: st) w := R_next Q156 (by decide +kernel) rfl
theorem e156_21 {ls : zL} {st : List Value} {w : zW} {x y : Int32} : Rv 156 21 ls (.int y :: .int x :: st) w = Rv 156 22 ls (.int (x ||| y) :: st) w := R_next Q156 (by decide +kernel) rfl
theorem e156_22 {ls : zL} {st : List Value} {w : zW} {x : Int32} : Rv 156 22 ls (.int x :: st) w = lst ls 2 (some (.int x)) fun l => Rv 156 23 l st w := R_st Q156 (by decide +kernel) rfl
theorem e156_23 {ls : zL} {st : List Value} {w : zW} : Rv 156 23 ls st w = ldA ls 0 fun x => Rv 156 24 ls (x :: st) w := R_ldA Q156 (by decide +kernel) rfl
theorem e156_24 {ls : zL} {st : List Value} {w : zW} {a : Nat} : Rv 156 24 ls (.ref a :: st) w = gF w a 6 0 fun v => Rv 156 27 ls (v :: st) w := R_gF (z := 1070) Q156 (by decide +kernel) rfl
theorem e156_27 {ls : zL} {st : List Value} {w : zW} : Rv 156 27 ls st w = Rv 156 29 ls (.int 23 :: st) w := R_con Q156 (by decide +kernel) rfl (by decide)
theorem e156_29 {ls : zL} {st : List Value} {w : zW} : Rv 156 29 ls st w = ldI ls 3 fun x => Rv 156 30 ls (.int x :: st) w := R_ldI Q156 (by decide +kernel) rfl
theorem e156_30 {ls : zL} {st : List Value} {w : zW} {x y : Int32} : Rv 156 30 ls (.int y :: .int x :: st) w = Rv 156 31 ls (.int (x + y) :: st) w := R_next Q156 (by decide +kernel) rfl
theorem e156_31 {ls : zL} {st : List Value} {w : zW} {a : Nat} {x : Int32} : Rv 156 31 ls (.int x :: .ref a :: st) w = gI w a 0 8 x fun v => Rv 156 32 ls (.int v :: st) w := R_iald Q156 (by decide +kernel)
theorem e156_32 {ls : zL} {st : List Value} {w : zW} {x : Int32} : Rv 156 32 ls (.int x :: st) w = lst ls 3 (some (.int x)) fun l => Rv 156 33 l st w := R_st Q156 (by decide +kernel) rfl
theorem e156_33 {ls : zL} {st : List Value} {w : zW} : Rv 156 33 ls st w = Rv 156 12 ls st w := R_go Q156 (by decide +kernel) rfl rfl
theorem e156_36 {ls : zL} {st : List Value} {w : zW} : Rv 156 36 ls st w = ldI ls 2 fun x => Rv 156 37 ls (.int x :: st) w := R_ldI Q156 (by decide +kernel) rfl
theorem e156_37 {ls : zL} {w : zW} {x : Int32} : Rv 156 37 ls [.int x] w = some (.inl (some (.int x)), w) := R_retI Q156 (by decide +kernel) rfl
/-! MasterPinsModel.lostKeys -/
theorem e157_0 {ls : zL} {st : List Value} {w : zW} : Rv 157 0 ls st w = Rv 157 1 ls (.int 0 :: st) w := R_con Q157 (by decide +kernel) rfl (by decide)
theorem e157_1 {ls : zL} {st : List Value} {w : zW} {x : Int32} : Rv 157 1 ls (.int x :: st) w = lst ls 1 (some (.int x)) fun l => Rv 157 2 l st w := R_st Q157 (by decide +kernel) rfl
theorem e157_2 {ls : zL} {st : List Value} {w : zW} : Rv 157 2 ls st w = Rv 157 3 ls (.int 0 :: st) w := R_con Q157 (by decide +kernel) rfl (by decide)
theorem e157_3 {ls : zL} {st : List Value} {w : zW} {x : Int32} : Rv 157 3 ls (.int x :: st) w = lst ls 2 (some (.int x)) fun l => Rv 157 4 l st w := R_st Q157 (by decide +kernel) rfl
theorem h157_4 {ls : zL} {st : List Value} {w : zW} : Rv 157 4 ls st w = ldI ls 2 fun x => Rv 157 5 ls (.int x :: st) w := R_ldI Q157 (by decide +kernel) rfl
theorem e157_5 {ls : zL} {st : List Value} {w : zW} : Rv 157 5 ls st w = ldA ls 0 fun x => Rv 157 6 ls (x :: st) w := R_ldA Q157 (by decide +kernel) rfl
theorem e157_6 {ls : zL} {st : List Value} {w : zW} {a : Nat} : Rv 157 6 ls (.ref a :: st) w = gF w a 6 0 fun v => Rv 157 9 ls (v :: st) w := R_gF (z := 1070) Q157 (by decide +kernel) rfl
theorem e157_9 {ls : zL} {st : List Value} {w : zW} : Rv 157 9 ls st w = Rv 157 10 ls (.int 5 :: st) w := R_con Q157 (by decide +kernel) rfl (by decide)
theorem e157_10 {ls : zL} {st : List Value} {w : zW} {a : Nat} {x : Int32} : Rv 157 10 ls (.int x :: .ref a :: st) w = gI w a 0 8 x fun v => Rv 157 11 ls (.int v :: st) w := R_iald Q157 (by decide +kernel)
theorem e157_11 {ls : zL} {st : List Value} {w : zW} {x y : Int32} : Rv 157 11 ls (.int y :: .int x :: st) w = if x < y then Rv 157 14 ls st w else Rv 157 34 ls st w := R_fige Q157 (by decide +kernel) rfl rfl
theorem e157_14 {ls : zL} {st : List Value} {w : zW} : Rv 157 14 ls st w = ldI ls 1 fun x => Rv 157 15 ls (.int x :: st) w := R_ldI Q157 (by decide +kernel) rfl
theorem e157_15 {ls : zL} {st : List Value} {w : zW} : Rv 157 15 ls st w = ldA ls 0 fun x => Rv 157 16 ls (x :: st) w := R_ldA Q157 (by decide +kernel) rfl
theorem e157_16 {ls : zL} {st : List Value} {w : zW} {a : Nat} : Rv 157 16 ls (.ref a :: st) w = gF w a 6 0 fun v => Rv 157 19 ls (v :: st) w := R_gF (z := 1070) Q157 (by decide +kernel) rfl
theorem e157_19 {ls : zL} {st : List Value} {w : zW} : Rv 157 19 ls st w = Rv 157 21 ls (.int 39 :: st) w := R_con Q157 (by decide +kernel) rfl (by decide)
theorem e157_21 {ls : zL} {st : List Value} {w : zW} : Rv 157 21 ls st w = ldI ls 2 fun x => Rv 157 22 ls (.int x :: st) w := R_ldI Q157 (by decide +kernel) rfl
theorem e157_22 {ls : zL} {st : List Value} {w : zW} {x y : Int32} : Rv 157 22 ls (.int y :: .int x :: st) w = Rv 157 23 ls (.int (x + y) :: st) w := R_next Q157 (by decide +kernel) rfl
theorem e157_23 {ls : zL} {st : List Value} {w : zW} {a : Nat} {x : Int32} : Rv 157 23 ls (.int x :: .ref a :: st) w = gI w a 0 8 x fun v => Rv 157 24 ls (.int v :: st) w := R_iald Q157 (by decide +kernel)
theorem e157_24 {ls : zL} {st : List Value} {w : zW} : Rv 157 24 ls st w = ldI ls 2 fun x => Rv 157 25 ls (.int x :: st) w := R_ldI Q157 (by decide +kernel) rfl
theorem e157_25 {ls : zL} {st : List Value} {w : zW} {x y : Int32} : Rv 157 25 ls (.int y :: .int x :: st) w = Rv 157 26 ls (.int (x <<< (y &&& 31)) :: st) w := R_next Q157 (by decide +kernel) rfl
theorem e157_26 {ls : zL} {st : List Value} {w : zW} {x y : Int32} : Rv 157 26 ls (.int y :: .int x :: st) w = Rv 157 27 ls (.int (x ||| y) :: st) w := R_next Q157 (by decide +kernel) rfl
theorem e157_27 {ls : zL} {st : List Value} {w : zW} {x : Int32} : Rv 157 27 ls (.int x :: st) w = lst ls 1 (some (.int x)) fun l => Rv 157 28 l st w := R_st Q157 (by decide +kernel) rfl
theorem e157_28 {ls : zL} {st : List Value} {w : zW} : Rv 157 28 ls st w = ldI ls 2 fun x => lst ls 2 (some (.int (x + 1))) fun l => Rv 157 31 l st w := R_iinc Q157 (by decide +kernel) (by decide)
theorem e157_31 {ls : zL} {st : List Value} {w : zW} : Rv 157 31 ls st w = Rv 157 4 ls st w := R_go Q157 (by decide +kernel) rfl rfl
theorem e157_34 {ls : zL} {st : List Value} {w : zW} : Rv 157 34 ls st w = ldI ls 1 fun x => Rv 157 35 ls (.int x :: st) w := R_ldI Q157 (by decide +kernel) rfl
theorem e157_35 {ls : zL} {w : zW} {x : Int32} : Rv 157 35 ls [.int x] w = some (.inl (some (.int x)), w) := R_retI Q157 (by decide +kernel) rfl
/-! MasterPinsModel.rightOf -/
theorem e158_0 {ls : zL} {st : List Value} {w : zW} : Rv 158 0 ls st w = ldA ls 0 fun x => Rv 158 1 ls (x :: st) w := R_ldA Q158 (by decide +kernel) rfl
theorem e158_1 {ls : zL} {st : List Value} {w : zW} {a : Nat} : Rv 158 1 ls (.ref a :: st) w = gF w a 6 0 fun v => Rv 158 4 ls (v :: st) w := R_gF (z := 1070) Q158 (by decide +kernel) rfl
theorem e158_4 {ls : zL} {st : List Value} {w : zW} : Rv 158 4 ls st w = Rv 158 6 ls (.int 55 :: st) w := R_con Q158 (by decide +kernel) rfl (by decide)
theorem e158_6 {ls : zL} {st : List Value} {w : zW} : Rv 158 6 ls st w = ldI ls 1 fun x => Rv 158 7 ls (.int x :: st) w := R_ldI Q158 (by decide +kernel) rfl
theorem e158_7 {ls : zL} {st : List Value} {w : zW} {x y : Int32} : Rv 158 7 ls (.int y :: .int x :: st) w = Rv 158 8 ls (.int (x + y) :: st) w := R_next Q158 (by decide +kernel) rfl
theorem e158_8 {ls : zL} {st : List Value} {w : zW} {a : Nat} {x : Int32} : Rv 158 8 ls (.int x :: .ref a :: st) w = gI w a 0 8 x fun v => Rv 158 9 ls (.int v :: st) w := R_iald Q158 (by decide +kernel)
theorem e158_9 {ls : zL} {st : List Value} {w : zW} {x : Int32} : Rv 158 9 ls (.int x :: st) w = lst ls 2 (some (.int x)) fun l => Rv 158 10 l st w := R_st Q158 (by decide +kernel) rfl
theorem e158_10 {ls : zL} {st : List Value} {w : zW} : Rv 158 10 ls st w = Rv 158 11 ls (.int 1 :: st) w := R_con Q158 (by decide +kernel) rfl (by decide)
theorem e158_11 {ls : zL} {st : List Value} {w : zW} : Rv 158 11 ls st w = ldI ls 2 fun x => Rv 158 12 ls (.int x :: st) w := R_ldI Q158 (by decide +kernel) rfl
theorem e158_12 {ls : zL} {st : List Value} {w : zW} {x y : Int32} : Rv 158 12 ls (.int y :: .int x :: st) w = Rv 158 13 ls (.int (x <<< (y &&& 31)) :: st) w := R_next Q158 (by decide +kernel) rfl
theorem e158_13 {ls : zL} {st : List Value} {w : zW} : Rv 158 13 ls st w = ldA ls 0 fun x => Rv 158 14 ls (x :: st) w := R_ldA Q158 (by decide +kernel) rfl
theorem e158_14 {ls : zL} {st : List Value} {w : zW} : Rv 158 14 ls st w = ldI ls 2 fun x => Rv 158 15 ls (.int x :: st) w := R_ldI Q158 (by decide +kernel) rfl
theorem e158_15 {ls : zL} {w : zW} {n1 : Int32} {a0 : Nat} {n2 : Int32} : Rv 158 15 ls [.int n1, .ref a0, .int n2] w = hO w a0 6 (cal (Rv 156 0 [some (.ref a0), some (.int n1), none, none] [] w) (fun v w' => Rv 158 18 ls (vts v [.int n2]) w') (xnone)) := R_calV (z := 1243) (r := [.int n2]) Q158 (by decide +kernel) rfl rfl Q156 rfl rfl rfl
theorem e158_18 {ls : zL} {st : List Value} {w : zW} {x y : Int32} : Rv 158 18 ls (.int y :: .int x :: st) w = Rv 158 19 ls (.int (x ||| y) :: st) w := R_next Q158 (by decide +kernel) rfl
theorem e158_19 {ls : zL} {st : List Value} {w : zW} : Rv 158 19 ls st w = ldA ls 0 fun x => Rv 158 20 ls (x :: st) w := R_ldA Q158 (by decide +kernel) rfl
theorem e158_20 {ls : zL} {w : zW} {a0 : Nat} {n1 : Int32} : Rv 158 20 ls [.ref a0, .int n1] w = hO w a0 6 (cal (Rv 157 0 [some (.ref a0), none, none] [] w) (fun v w' => Rv 158 23 ls (vts v [.int n1]) w') (xnone)) := R_calV (z := 1215) (r := [.int n1]) Q158 (by decide +kernel) rfl rfl Q157 rfl rfl rfl
theorem e158_23 {ls : zL} {st : List Value} {w : zW} : Rv 158 23 ls st w = Rv 158 24 ls (.int (-1) :: st) w := R_con Q158 (by decide +kernel) rfl (by decide)
theorem e158_24 {ls : zL} {st : List Value} {w : zW} {x y : Int32} : Rv 158 24 ls (.int y :: .int x :: st) w = Rv 158 25 ls (.int (x ^^^ y) :: st) w := R_next Q158 (by decide +kernel) rfl
theorem e158_25 {ls : zL} {st : List Value} {w : zW} {x y : Int32} : Rv 158 25 ls (.int y :: .int x :: st) w = Rv 158 26 ls (.int (x &&& y) :: st) w := R_next Q158 (by decide +kernel) rfl
theorem e158_26 {ls : zL} {w : zW} {x : Int32} : Rv 158 26 ls [.int x] w = some (.inl (some (.int x)), w) := R_retI Q158 (by decide +kernel) rfl
/-! MasterPinsModel.pinsOf -/
theorem e159_0 {ls : zL} {st : List Value} {w : zW} : Rv 159 0 ls st w = ldA ls 0 fun x => Rv 159 1 ls (x :: st) w := R_ldA Q159 (by decide +kernel) rfl
theorem e159_1 {ls : zL} {st : List Value} {w : zW} {a : Nat} : Rv 159 1 ls (.ref a :: st) w = gF w a 6 0 fun v => Rv 159 4 ls (v :: st) w := R_gF (z := 1070) Q159 (by decide +kernel) rfl
theorem e159_4 {ls : zL} {st : List Value} {w : zW} : Rv 159 4 ls st w = Rv 159 6 ls (.int 67 :: st) w := R_con Q159 (by decide +kernel) rfl (by decide)
theorem e159_6 {ls : zL} {st : List Value} {w : zW} : Rv 159 6 ls st w = Rv 159 7 ls (.int 4 :: st) w := R_con Q159 (by decide +kernel) rfl (by decide)
theorem e159_7 {ls : zL} {st : List Value} {w : zW} : Rv 159 7 ls st w = ldI ls 1 fun x => Rv 159 8 ls (.int x :: st) w := R_ldI Q159 (by decide +kernel) rfl
theorem e159_8 {ls : zL} {st : List Value} {w : zW} {x y : Int32} : Rv 159 8 ls (.int y :: .int x :: st) w = Rv 159 9 ls (.int (x * y) :: st) w := R_next Q159 (by decide +kernel) rfl
theorem e159_9 {ls : zL} {st : List Value} {w : zW} {x y : Int32} : Rv 159 9 ls (.int y :: .int x :: st) w = Rv 159 10 ls (.int (x + y) :: st) w := R_next Q159 (by decide +kernel) rfl
theorem e159_10 {ls : zL} {st : List Value} {w : zW} : Rv 159 10 ls st w = ldI ls 2 fun x => Rv 159 11 ls (.int x :: st) w := R_ldI Q159 (by decide +kernel) rfl
theorem e159_11 {ls : zL} {st : List Value} {w : zW} {x y : Int32} : Rv 159 11 ls (.int y :: .int x :: st) w = Rv 159 12 ls (.int (x + y) :: st) w := R_next Q159 (by decide +kernel) rfl
theorem e159_12 {ls : zL} {st : List Value} {w : zW} {a : Nat} {x : Int32} : Rv 159 12 ls (.int x :: .ref a :: st) w = gI w a 0 8 x fun v => Rv 159 13 ls (.int v :: st) w := R_iald Q159 (by decide +kernel)
theorem e159_13 {ls : zL} {w : zW} {x : Int32} : Rv 159 13 ls [.int x] w = some (.inl (some (.int x)), w) := R_retI Q159 (by decide +kernel) rfl
/-! MasterPinsModel.fitted -/
theorem e160_0 {ls : zL} {st : List Value} {w : zW} : Rv 160 0 ls st w = ldA ls 0 fun x => Rv 160 1 ls (x :: st) w := R_ldA Q160 (by decide +kernel) rfl
theorem e160_1 {ls : zL} {st : List Value} {w : zW} : Rv 160 1 ls st w = ldI ls 1 fun x => Rv 160 2 ls (.int x :: st) w := R_ldI Q160 (by decide +kernel) rfl
theorem e160_2 {ls : zL} {w : zW} {n1 : Int32} {a0 : Nat} : Rv 160 2 ls [.int n1, .ref a0] w = hO w a0 6 (cal (Rv 158 0 [some (.ref a0), some (.int n1), none] [] w) (fun v w' => Rv 160 5 ls (vts v []) w') (xnone)) := R_calV (z := 1239) (r := []) Q160 (by decide +kernel) rfl rfl Q158 rfl rfl rfl
theorem e160_5 {ls : zL} {st : List Value} {w : zW} {x : Int32} : Rv 160 5 ls (.int x :: st) w = lst ls 3 (some (.int x)) fun l => Rv 160 6 l st w := R_st Q160 (by decide +kernel) rfl
theorem e160_6 {ls : zL} {st : List Value} {w : zW} : Rv 160 6 ls st w = Rv 160 7 ls (.int 0 :: st) w := R_con Q160 (by decide +kernel) rfl (by decide)
theorem e160_7 {ls : zL} {st : List Value} {w : zW} {x : Int32} : Rv 160 7 ls (.int x :: st) w = lst ls 4 (some (.int x)) fun l => Rv 160 9 l st w := R_st Q160 (by decide +kernel) rfl
theorem e160_9 {ls : zL} {st : List Value} {w : zW} : Rv 160 9 ls st w = Rv 160 10 ls (.int 0 :: st) w := R_con Q160 (by decide +kernel) rfl (by decide)
theorem e160_10 {ls : zL} {st : List Value} {w : zW} {x : Int32} : Rv 160 10 ls (.int x :: st) w = lst ls 5 (some (.int x)) fun l => Rv 160 12 l st w := R_st Q160 (by decide +kernel) rfl
theorem h160_12 {ls : zL} {st : List Value} {w : zW} : Rv 160 12 ls st w = ldI ls 5 fun x => Rv 160 14 ls (.int x :: st) w := R_ldI Q160 (by decide +kernel) rfl
theorem e160_14 {ls : zL} {st : List Value} {w : zW} : Rv 160 14 ls st w = ldA ls 0 fun x => Rv 160 15 ls (x :: st) w := R_ldA Q160 (by decide +kernel) rfl
theorem e160_15 {ls : zL} {st : List Value} {w : zW} {a : Nat} : Rv 160 15 ls (.ref a :: st) w = gF w a 6 0 fun v => Rv 160 18 ls (v :: st) w := R_gF (z := 1070) Q160 (by decide +kernel) rfl
theorem e160_18 {ls : zL} {st : List Value} {w : zW} : Rv 160 18 ls st w = Rv 160 19 ls (.int 5 :: st) w := R_con Q160 (by decide +kernel) rfl (by decide)
theorem e160_19 {ls : zL} {st : List Value} {w : zW} {a : Nat} {x : Int32} : Rv 160 19 ls (.int x :: .ref a :: st) w = gI w a 0 8 x fun v => Rv 160 20 ls (.int v :: st) w := R_iald Q160 (by decide +kernel)
theorem e160_20 {ls : zL} {st : List Value} {w : zW} {x y : Int32} : Rv 160 20 ls (.int y :: .int x :: st) w = if x < y then Rv 160 23 ls st w else Rv 160 65 ls st w := R_fige Q160 (by decide +kernel) rfl rfl
theorem e160_23 {ls : zL} {st : List Value} {w : zW} : Rv 160 23 ls st w = ldI ls 4 fun x => Rv 160 25 ls (.int x :: st) w := R_ldI Q160 (by decide +kernel) rfl
theorem e160_25 {ls : zL} {st : List Value} {w : zW} : Rv 160 25 ls st w = ldI ls 3 fun x => Rv 160 26 ls (.int x :: st) w := R_ldI Q160 (by decide +kernel) rfl
theorem e160_26 {ls : zL} {st : List Value} {w : zW} : Rv 160 26 ls st w = ldI ls 5 fun x => Rv 160 28 ls (.int x :: st) w := R_ldI Q160 (by decide +kernel) rfl
theorem e160_28 {ls : zL} {st : List Value} {w : zW} {x y : Int32} : Rv 160 28 ls (.int y :: .int x :: st) w = Rv 160 29 ls (.int (x >>> (y &&& 31)) :: st) w := R_next Q160 (by decide +kernel) rfl
theorem e160_29 {ls : zL} {st : List Value} {w : zW} : Rv 160 29 ls st w = Rv 160 30 ls (.int 1 :: st) w := R_con Q160 (by decide +kernel) rfl (by decide)
theorem e160_30 {ls : zL} {st : List Value} {w : zW} {x y : Int32} : Rv 160 30 ls (.int y :: .int x :: st) w = Rv 160 31 ls (.int (x &&& y) :: st) w := R_next Q160 (by decide +kernel) rfl
theorem e160_31 {ls : zL} {st : List Value} {w : zW} : Rv 160 31 ls st w = Rv 160 32 ls (.int 1 :: st) w := R_con Q160 (by decide +kernel) rfl (by decide)
theorem e160_32 {ls : zL} {st : List Value} {w : zW} {x y : Int32} : Rv 160 32 ls (.int y :: .int x :: st) w = if x = y then Rv 160 35 ls st w else Rv 160 55 ls st w := R_fine Q160 (by decide +kernel) rfl rfl
theorem e160_35 {ls : zL} {st : List Value} {w : zW} : Rv 160 35 ls st w = Rv 160 36 ls (.int 1 :: st) w := R_con Q160 (by decide +kernel) rfl (by decide)
theorem e160_36 {ls : zL} {st : List Value} {w : zW} : Rv 160 36 ls st w = ldA ls 0 fun x => Rv 160 37 ls (x :: st) w := R_ldA Q160 (by decide +kernel) rfl
theorem e160_37 {ls : zL} {st : List Value} {w : zW} : Rv 160 37 ls st w = ldA ls 0 fun x => Rv 160 38 ls (x :: st) w := R_ldA Q160 (by decide +kernel) rfl
theorem e160_38 {ls : zL} {st : List Value} {w : zW} {a : Nat} : Rv 160 38 ls (.ref a :: st) w = gF w a 6 0 fun v => Rv 160 41 ls (v :: st) w := R_gF (z := 1070) Q160 (by decide +kernel) rfl
theorem e160_41 {ls : zL} {st : List Value} {w : zW} : Rv 160 41 ls st w = Rv 160 43 ls (.int 7 :: st) w := R_con Q160 (by decide +kernel) rfl (by decide)
theorem e160_43 {ls : zL} {st : List Value} {w : zW} : Rv 160 43 ls st w = ldI ls 5 fun x => Rv 160 45 ls (.int x :: st) w := R_ldI Q160 (by decide +kernel) rfl
theorem e160_45 {ls : zL} {st : List Value} {w : zW} {x y : Int32} : Rv 160 45 ls (.int y :: .int x :: st) w = Rv 160 46 ls (.int (x + y) :: st) w := R_next Q160 (by decide +kernel) rfl
theorem e160_46 {ls : zL} {st : List Value} {w : zW} {a : Nat} {x : Int32} : Rv 160 46 ls (.int x :: .ref a :: st) w = gI w a 0 8 x fun v => Rv 160 47 ls (.int v :: st) w := R_iald Q160 (by decide +kernel)
theorem e160_47 {ls : zL} {st : List Value} {w : zW} : Rv 160 47 ls st w = ldI ls 2 fun x => Rv 160 48 ls (.int x :: st) w := R_ldI Q160 (by decide +kernel) rfl
theorem e160_48 {ls : zL} {w : zW} {n1 : Int32} {n2 : Int32} {a0 : Nat} {n3 : Int32} {n4 : Int32} : Rv 160 48 ls [.int n1, .int n2, .ref a0, .int n3, .int n4] w = hO w a0 6 (cal (Rv 148 0 [some (.ref a0), some (.int n2), some (.int n1)] [] w) (fun v w' => Rv 160 51 ls (vts v [.int n3, .int n4]) w') (xnone)) := R_calV (z := 1165) (r := [.int n3, .int n4]) Q160 (by decide +kernel) rfl rfl Q148 rfl rfl rfl
theorem e160_51 {ls : zL} {st : List Value} {w : zW} {x y : Int32} : Rv 160 51 ls (.int y :: .int x :: st) w = Rv 160 52 ls (.int (x <<< (y &&& 31)) :: st) w := R_next Q160 (by decide +kernel) rfl
theorem e160_52 {ls : zL} {st : List Value} {w : zW} : Rv 160 52 ls st w = Rv 160 56 ls st w := R_go Q160 (by decide +kernel) rfl rfl
theorem e160_55 {ls : zL} {st : List Value} {w : zW} : Rv 160 55 ls st w = Rv 160 56 ls (.int 0 :: st) w := R_con Q160 (by decide +kernel) rfl (by decide)
theorem e160_56 {ls : zL} {st : List Value} {w : zW} {x y : Int32} : Rv 160 56 ls (.int y :: .int x :: st) w = Rv 160 57 ls (.int (x ||| y) :: st) w := R_next Q160 (by decide +kernel) rfl
theorem e160_57 {ls : zL} {st : List Value} {w : zW} {x : Int32} : Rv 160 57 ls (.int x :: st) w = lst ls 4 (some (.int x)) fun l => Rv 160 59 l st w := R_st Q160 (by decide +kernel) rfl
theorem e160_59 {ls : zL} {st : List Value} {w : zW} : Rv 160 59 ls st w = ldI ls 5 fun x => lst ls 5 (some (.int (x + 1))) fun l => Rv 160 62 l st w := R_iinc Q160 (by decide +kernel) (by decide)
theorem e160_62 {ls : zL} {st : List Value} {w : zW} : Rv 160 62 ls st w = Rv 160 12 ls st w := R_go Q160 (by decide +kernel) rfl rfl
theorem e160_65 {ls : zL} {st : List Value} {w : zW} : Rv 160 65 ls st w = ldI ls 4 fun x => Rv 160 67 ls (.int x :: st) w := R_ldI Q160 (by decide +kernel) rfl
theorem e160_67 {ls : zL} {w : zW} {x : Int32} : Rv 160 67 ls [.int x] w = some (.inl (some (.int x)), w) := R_retI Q160 (by decide +kernel) rfl
/-! MasterPinsModel.changes -/
theorem e161_0 {ls : zL} {st : List Value} {w : zW} : Rv 161 0 ls st w = Rv 161 1 ls (.int 0 :: st) w := R_con Q161 (by decide +kernel) rfl (by decide)
theorem e161_1 {ls : zL} {st : List Value} {w : zW} {x : Int32} : Rv 161 1 ls (.int x :: st) w = lst ls 2 (some (.int x)) fun l => Rv 161 2 l st w := R_st Q161 (by decide +kernel) rfl
theorem e161_2 {ls : zL} {st : List Value} {w : zW} : Rv 161 2 ls st w = Rv 161 3 ls (.int 0 :: st) w := R_con Q161 (by decide +kernel) rfl (by decide)
theorem e161_3 {ls : zL} {st : List Value} {w : zW} {x : Int32} : Rv 161 3 ls (.int x :: st) w = lst ls 3 (some (.int x)) fun l => Rv 161 4 l st w := R_st Q161 (by decide +kernel) rfl
theorem h161_4 {ls : zL} {st : List Value} {w : zW} : Rv 161 4 ls st w = ldI ls 3 fun x => Rv 161 5 ls (.int x :: st) w := R_ldI Q161 (by decide +kernel) rfl
theorem e161_5 {ls : zL} {st : List Value} {w : zW} : Rv 161 5 ls st w = ldA ls 0 fun x => Rv 161 6 ls (x :: st) w := R_ldA Q161 (by decide +kernel) rfl
theorem e161_6 {ls : zL} {st : List Value} {w : zW} {a : Nat} : Rv 161 6 ls (.ref a :: st) w = gF w a 6 0 fun v => Rv 161 9 ls (v :: st) w := R_gF (z := 1070) Q161 (by decide +kernel) rfl
theorem e161_9 {ls : zL} {st : List Value} {w : zW} : Rv 161 9 ls st w = Rv 161 10 ls (.int 0 :: st) w := R_con Q161 (by decide +kernel) rfl (by decide)
theorem e161_10 {ls : zL} {st : List Value} {w : zW} {a : Nat} {x : Int32} : Rv 161 10 ls (.int x :: .ref a :: st) w = gI w a 0 8 x fun v => Rv 161 11 ls (.int v :: st) w := R_iald Q161 (by decide +kernel)
theorem e161_11 {ls : zL} {st : List Value} {w : zW} {x y : Int32} : Rv 161 11 ls (.int y :: .int x :: st) w = if x < y then Rv 161 14 ls st w else Rv 161 39 ls st w := R_fige Q161 (by decide +kernel) rfl rfl
theorem e161_14 {ls : zL} {st : List Value} {w : zW} : Rv 161 14 ls st w = ldI ls 2 fun x => Rv 161 15 ls (.int x :: st) w := R_ldI Q161 (by decide +kernel) rfl
theorem e161_15 {ls : zL} {st : List Value} {w : zW} : Rv 161 15 ls st w = ldA ls 0 fun x => Rv 161 16 ls (x :: st) w := R_ldA Q161 (by decide +kernel) rfl
theorem e161_16 {ls : zL} {st : List Value} {w : zW} : Rv 161 16 ls st w = ldI ls 1 fun x => Rv 161 17 ls (.int x :: st) w := R_ldI Q161 (by decide +kernel) rfl
theorem e161_17 {ls : zL} {st : List Value} {w : zW} : Rv 161 17 ls st w = ldI ls 3 fun x => Rv 161 18 ls (.int x :: st) w := R_ldI Q161 (by decide +kernel) rfl
theorem e161_18 {ls : zL} {w : zW} {n1 : Int32} {n2 : Int32} {a0 : Nat} {n3 : Int32} : Rv 161 18 ls [.int n1, .int n2, .ref a0, .int n3] w = hO w a0 6 (cal (Rv 159 0 [some (.ref a0), some (.int n2), some (.int n1)] [] w) (fun v w' => Rv 161 21 ls (vts v [.int n3]) w') (xnone)) := R_calV (z := 1203) (r := [.int n3]) Q161 (by decide +kernel) rfl rfl Q159 rfl rfl rfl
theorem e161_21 {ls : zL} {st : List Value} {w : zW} : Rv 161 21 ls st w = ldA ls 0 fun x => Rv 161 22 ls (x :: st) w := R_ldA Q161 (by decide +kernel) rfl
theorem e161_22 {ls : zL} {st : List Value} {w : zW} : Rv 161 22 ls st w = ldI ls 1 fun x => Rv 161 23 ls (.int x :: st) w := R_ldI Q161 (by decide +kernel) rfl
theorem e161_23 {ls : zL} {st : List Value} {w : zW} : Rv 161 23 ls st w = ldI ls 3 fun x => Rv 161 24 ls (.int x :: st) w := R_ldI Q161 (by decide +kernel) rfl
theorem e161_24 {ls : zL} {w : zW} {n1 : Int32} {n2 : Int32} {a0 : Nat} {n3 : Int32} {n4 : Int32} : Rv 161 24 ls [.int n1, .int n2, .ref a0, .int n3, .int n4] w = hO w a0 6 (cal (Rv 160 0 [some (.ref a0), some (.int n2), some (.int n1), none, none, none] [] w) (fun v w' => Rv 161 27 ls (vts v [.int n3, .int n4]) w') (xnone)) := R_calV (z := 1235) (r := [.int n3, .int n4]) Q161 (by decide +kernel) rfl rfl Q160 rfl rfl rfl
theorem e161_27 {ls : zL} {st : List Value} {w : zW} {x y : Int32} : Rv 161 27 ls (.int y :: .int x :: st) w = Rv 161 28 ls (.int (x ^^^ y) :: st) w := R_next Q161 (by decide +kernel) rfl
theorem e161_28 {ls : zL} {w : zW} {n1 : Int32} {n2 : Int32} : Rv 161 28 ls [.int n1, .int n2] w = cal (Rv 146 0 [some (.int n1), none, none] [] w) (fun v w' => Rv 161 31 ls (vts v [.int n2]) w') (xnone) := R_calS (z := 1172) (kd := 1) (n := 1) Q161 (by decide +kernel) rfl (Or.inl rfl) (Nat.le_of_ble_eq_true rfl) rfl Q146 rfl rfl rfl
theorem e161_31 {ls : zL} {st : List Value} {w : zW} {x y : Int32} : Rv 161 31 ls (.int y :: .int x :: st) w = Rv 161 32 ls (.int (x + y) :: st) w := R_next Q161 (by decide +kernel) rfl
theorem e161_32 {ls : zL} {st : List Value} {w : zW} {x : Int32} : Rv 161 32 ls (.int x :: st) w = lst ls 2 (some (.int x)) fun l => Rv 161 33 l st w := R_st Q161 (by decide +kernel) rfl
theorem e161_33 {ls : zL} {st : List Value} {w : zW} : Rv 161 33 ls st w = ldI ls 3 fun x => lst ls 3 (some (.int (x + 1))) fun l => Rv 161 36 l st w := R_iinc Q161 (by decide +kernel) (by decide)
theorem e161_36 {ls : zL} {st : List Value} {w : zW} : Rv 161 36 ls st w = Rv 161 4 ls st w := R_go Q161 (by decide +kernel) rfl rfl
theorem e161_39 {ls : zL} {st : List Value} {w : zW} : Rv 161 39 ls st w = ldI ls 2 fun x => Rv 161 40 ls (.int x :: st) w := R_ldI Q161 (by decide +kernel) rfl
theorem e161_40 {ls : zL} {w : zW} {x : Int32} : Rv 161 40 ls [.int x] w = some (.inl (some (.int x)), w) := R_retI Q161 (by decide +kernel) rfl
/-! MasterPinsModel.allChanges -/
theorem e162_0 {ls : zL} {st : List Value} {w : zW} : Rv 162 0 ls st w = Rv 162 1 ls (.int 0 :: st) w := R_con Q162 (by decide +kernel) rfl (by decide)
theorem e162_1 {ls : zL} {st : List Value} {w : zW} {x : Int32} : Rv 162 1 ls (.int x :: st) w = lst ls 1 (some (.int x)) fun l => Rv 162 2 l st w := R_st Q162 (by decide +kernel) rfl
theorem e162_2 {ls : zL} {st : List Value} {w : zW} : Rv 162 2 ls st w = Rv 162 3 ls (.int 0 :: st) w := R_con Q162 (by decide +kernel) rfl (by decide)
theorem e162_3 {ls : zL} {st : List Value} {w : zW} {x : Int32} : Rv 162 3 ls (.int x :: st) w = lst ls 2 (some (.int x)) fun l => Rv 162 4 l st w := R_st Q162 (by decide +kernel) rfl
theorem h162_4 {ls : zL} {st : List Value} {w : zW} : Rv 162 4 ls st w = ldI ls 2 fun x => Rv 162 5 ls (.int x :: st) w := R_ldI Q162 (by decide +kernel) rfl
theorem e162_5 {ls : zL} {st : List Value} {w : zW} : Rv 162 5 ls st w = ldA ls 0 fun x => Rv 162 6 ls (x :: st) w := R_ldA Q162 (by decide +kernel) rfl
theorem e162_6 {ls : zL} {st : List Value} {w : zW} {a : Nat} : Rv 162 6 ls (.ref a :: st) w = gF w a 6 0 fun v => Rv 162 9 ls (v :: st) w := R_gF (z := 1070) Q162 (by decide +kernel) rfl
theorem e162_9 {ls : zL} {st : List Value} {w : zW} : Rv 162 9 ls st w = Rv 162 11 ls (.int 6 :: st) w := R_con Q162 (by decide +kernel) rfl (by decide)
theorem e162_11 {ls : zL} {st : List Value} {w : zW} {a : Nat} {x : Int32} : Rv 162 11 ls (.int x :: .ref a :: st) w = gI w a 0 8 x fun v => Rv 162 12 ls (.int v :: st) w := R_iald Q162 (by decide +kernel)
theorem e162_12 {ls : zL} {st : List Value} {w : zW} {x y : Int32} : Rv 162 12 ls (.int y :: .int x :: st) w = if x < y then Rv 162 15 ls st w else Rv 162 29 ls st w := R_fige Q162 (by decide +kernel) rfl rfl
theorem e162_15 {ls : zL} {st : List Value} {w : zW} : Rv 162 15 ls st w = ldI ls 1 fun x => Rv 162 16 ls (.int x :: st) w := R_ldI Q162 (by decide +kernel) rfl
theorem e162_16 {ls : zL} {st : List Value} {w : zW} : Rv 162 16 ls st w = ldA ls 0 fun x => Rv 162 17 ls (x :: st) w := R_ldA Q162 (by decide +kernel) rfl
theorem e162_17 {ls : zL} {st : List Value} {w : zW} : Rv 162 17 ls st w = ldI ls 2 fun x => Rv 162 18 ls (.int x :: st) w := R_ldI Q162 (by decide +kernel) rfl
theorem e162_18 {ls : zL} {w : zW} {n1 : Int32} {a0 : Nat} {n2 : Int32} : Rv 162 18 ls [.int n1, .ref a0, .int n2] w = hO w a0 6 (cal (Rv 161 0 [some (.ref a0), some (.int n1), none, none] [] w) (fun v w' => Rv 162 21 ls (vts v [.int n2]) w') (xnone)) := R_calV (z := 1231) (r := [.int n2]) Q162 (by decide +kernel) rfl rfl Q161 rfl rfl rfl
theorem e162_21 {ls : zL} {st : List Value} {w : zW} {x y : Int32} : Rv 162 21 ls (.int y :: .int x :: st) w = Rv 162 22 ls (.int (x + y) :: st) w := R_next Q162 (by decide +kernel) rfl
theorem e162_22 {ls : zL} {st : List Value} {w : zW} {x : Int32} : Rv 162 22 ls (.int x :: st) w = lst ls 1 (some (.int x)) fun l => Rv 162 23 l st w := R_st Q162 (by decide +kernel) rfl
theorem e162_23 {ls : zL} {st : List Value} {w : zW} : Rv 162 23 ls st w = ldI ls 2 fun x => lst ls 2 (some (.int (x + 1))) fun l => Rv 162 26 l st w := R_iinc Q162 (by decide +kernel) (by decide)
theorem e162_26 {ls : zL} {st : List Value} {w : zW} : Rv 162 26 ls st w = Rv 162 4 ls st w := R_go Q162 (by decide +kernel) rfl rfl
theorem e162_29 {ls : zL} {st : List Value} {w : zW} : Rv 162 29 ls st w = ldI ls 1 fun x => Rv 162 30 ls (.int x :: st) w := R_ldI Q162 (by decide +kernel) rfl
theorem e162_30 {ls : zL} {w : zW} {x : Int32} : Rv 162 30 ls [.int x] w = some (.inl (some (.int x)), w) := R_retI Q162 (by decide +kernel) rfl
/-! MasterPinsModel.fitDoor -/
theorem e163_0 {ls : zL} {st : List Value} {w : zW} : Rv 163 0 ls st w = ldA ls 0 fun x => Rv 163 1 ls (x :: st) w := R_ldA Q163 (by decide +kernel) rfl
theorem e163_1 {ls : zL} {st : List Value} {w : zW} : Rv 163 1 ls st w = ldI ls 1 fun x => Rv 163 2 ls (.int x :: st) w := R_ldI Q163 (by decide +kernel) rfl
theorem e163_2 {ls : zL} {w : zW} {n1 : Int32} {a0 : Nat} : Rv 163 2 ls [.int n1, .ref a0] w = hO w a0 6 (cal (Rv 161 0 [some (.ref a0), some (.int n1), none, none] [] w) (fun v w' => Rv 163 5 ls (vts v []) w') (xnone)) := R_calV (z := 1231) (r := []) Q163 (by decide +kernel) rfl rfl Q161 rfl rfl rfl
theorem e163_5 {ls : zL} {st : List Value} {w : zW} {x : Int32} : Rv 163 5 ls (.int x :: st) w = lst ls 2 (some (.int x)) fun l => Rv 163 6 l st w := R_st Q163 (by decide +kernel) rfl
theorem e163_6 {ls : zL} {st : List Value} {w : zW} : Rv 163 6 ls st w = Rv 163 7 ls (.int 0 :: st) w := R_con Q163 (by decide +kernel) rfl (by decide)
theorem e163_7 {ls : zL} {st : List Value} {w : zW} {x : Int32} : Rv 163 7 ls (.int x :: st) w = lst ls 3 (some (.int x)) fun l => Rv 163 8 l st w := R_st Q163 (by decide +kernel) rfl
theorem h163_8 {ls : zL} {st : List Value} {w : zW} : Rv 163 8 ls st w = ldI ls 3 fun x => Rv 163 9 ls (.int x :: st) w := R_ldI Q163 (by decide +kernel) rfl
theorem e163_9 {ls : zL} {st : List Value} {w : zW} : Rv 163 9 ls st w = ldA ls 0 fun x => Rv 163 10 ls (x :: st) w := R_ldA Q163 (by decide +kernel) rfl
theorem e163_10 {ls : zL} {st : List Value} {w : zW} {a : Nat} : Rv 163 10 ls (.ref a :: st) w = gF w a 6 0 fun v => Rv 163 13 ls (v :: st) w := R_gF (z := 1070) Q163 (by decide +kernel) rfl
theorem e163_13 {ls : zL} {st : List Value} {w : zW} : Rv 163 13 ls st w = Rv 163 14 ls (.int 0 :: st) w := R_con Q163 (by decide +kernel) rfl (by decide)
theorem e163_14 {ls : zL} {st : List Value} {w : zW} {a : Nat} {x : Int32} : Rv 163 14 ls (.int x :: .ref a :: st) w = gI w a 0 8 x fun v => Rv 163 15 ls (.int v :: st) w := R_iald Q163 (by decide +kernel)
theorem e163_15 {ls : zL} {st : List Value} {w : zW} {x y : Int32} : Rv 163 15 ls (.int y :: .int x :: st) w = if x < y then Rv 163 18 ls st w else Rv 163 43 ls st w := R_fige Q163 (by decide +kernel) rfl rfl
theorem e163_18 {ls : zL} {st : List Value} {w : zW} : Rv 163 18 ls st w = ldA ls 0 fun x => Rv 163 19 ls (x :: st) w := R_ldA Q163 (by decide +kernel) rfl
theorem e163_19 {ls : zL} {st : List Value} {w : zW} {a : Nat} : Rv 163 19 ls (.ref a :: st) w = gF w a 6 0 fun v => Rv 163 22 ls (v :: st) w := R_gF (z := 1070) Q163 (by decide +kernel) rfl
theorem e163_22 {ls : zL} {st : List Value} {w : zW} : Rv 163 22 ls st w = Rv 163 24 ls (.int 67 :: st) w := R_con Q163 (by decide +kernel) rfl (by decide)
theorem e163_24 {ls : zL} {st : List Value} {w : zW} : Rv 163 24 ls st w = Rv 163 25 ls (.int 4 :: st) w := R_con Q163 (by decide +kernel) rfl (by decide)
theorem e163_25 {ls : zL} {st : List Value} {w : zW} : Rv 163 25 ls st w = ldI ls 1 fun x => Rv 163 26 ls (.int x :: st) w := R_ldI Q163 (by decide +kernel) rfl
theorem e163_26 {ls : zL} {st : List Value} {w : zW} {x y : Int32} : Rv 163 26 ls (.int y :: .int x :: st) w = Rv 163 27 ls (.int (x * y) :: st) w := R_next Q163 (by decide +kernel) rfl
theorem e163_27 {ls : zL} {st : List Value} {w : zW} {x y : Int32} : Rv 163 27 ls (.int y :: .int x :: st) w = Rv 163 28 ls (.int (x + y) :: st) w := R_next Q163 (by decide +kernel) rfl
theorem e163_28 {ls : zL} {st : List Value} {w : zW} : Rv 163 28 ls st w = ldI ls 3 fun x => Rv 163 29 ls (.int x :: st) w := R_ldI Q163 (by decide +kernel) rfl
theorem e163_29 {ls : zL} {st : List Value} {w : zW} {x y : Int32} : Rv 163 29 ls (.int y :: .int x :: st) w = Rv 163 30 ls (.int (x + y) :: st) w := R_next Q163 (by decide +kernel) rfl
theorem e163_30 {ls : zL} {st : List Value} {w : zW} : Rv 163 30 ls st w = ldA ls 0 fun x => Rv 163 31 ls (x :: st) w := R_ldA Q163 (by decide +kernel) rfl
theorem e163_31 {ls : zL} {st : List Value} {w : zW} : Rv 163 31 ls st w = ldI ls 1 fun x => Rv 163 32 ls (.int x :: st) w := R_ldI Q163 (by decide +kernel) rfl
theorem e163_32 {ls : zL} {st : List Value} {w : zW} : Rv 163 32 ls st w = ldI ls 3 fun x => Rv 163 33 ls (.int x :: st) w := R_ldI Q163 (by decide +kernel) rfl
theorem e163_33 {ls : zL} {w : zW} {n1 : Int32} {n2 : Int32} {a0 : Nat} {n3 : Int32} {a4 : Nat} : Rv 163 33 ls [.int n1, .int n2, .ref a0, .int n3, .ref a4] w = hO w a0 6 (cal (Rv 160 0 [some (.ref a0), some (.int n2), some (.int n1), none, none, none] [] w) (fun v w' => Rv 163 36 ls (vts v [.int n3, .ref a4]) w') (xnone)) := R_calV (z := 1235) (r := [.int n3, .ref a4]) Q163 (by decide +kernel) rfl rfl Q160 rfl rfl rfl
theorem e163_36 {ls : zL} {st : List Value} {w : zW} {a : Nat} {x y : Int32} : Rv 163 36 ls (.int y :: .int x :: .ref a :: st) w = pI w a 0 x y fun w' => Rv 163 37 ls st w' := R_iast Q163 (by decide +kernel)
theorem e163_37 {ls : zL} {st : List Value} {w : zW} : Rv 163 37 ls st w = ldI ls 3 fun x => lst ls 3 (some (.int (x + 1))) fun l => Rv 163 40 l st w := R_iinc Q163 (by decide +kernel) (by decide)
theorem e163_40 {ls : zL} {st : List Value} {w : zW} : Rv 163 40 ls st w = Rv 163 8 ls st w := R_go Q163 (by decide +kernel) rfl rfl
theorem e163_43 {ls : zL} {st : List Value} {w : zW} : Rv 163 43 ls st w = ldI ls 2 fun x => Rv 163 44 ls (.int x :: st) w := R_ldI Q163 (by decide +kernel) rfl
theorem e163_44 {ls : zL} {w : zW} {x : Int32} : Rv 163 44 ls [.int x] w = some (.inl (some (.int x)), w) := R_retI Q163 (by decide +kernel) rfl
/-! MasterPinsModel.opens -/
theorem e164_0 {ls : zL} {st : List Value} {w : zW} : Rv 164 0 ls st w = Rv 164 1 ls (.int 1 :: st) w := R_con Q164 (by decide +kernel) rfl (by decide)
theorem e164_1 {ls : zL} {st : List Value} {w : zW} {x : Int32} : Rv 164 1 ls (.int x :: st) w = lst ls 3 (some (.int x)) fun l => Rv 164 2 l st w := R_st Q164 (by decide +kernel) rfl
theorem e164_2 {ls : zL} {st : List Value} {w : zW} : Rv 164 2 ls st w = Rv 164 3 ls (.int 0 :: st) w := R_con Q164 (by decide +kernel) rfl (by decide)
theorem e164_3 {ls : zL} {st : List Value} {w : zW} {x : Int32} : Rv 164 3 ls (.int x :: st) w = lst ls 4 (some (.int x)) fun l => Rv 164 5 l st w := R_st Q164 (by decide +kernel) rfl
theorem h164_5 {ls : zL} {st : List Value} {w : zW} : Rv 164 5 ls st w = ldI ls 4 fun x => Rv 164 7 ls (.int x :: st) w := R_ldI Q164 (by decide +kernel) rfl
theorem e164_7 {ls : zL} {st : List Value} {w : zW} : Rv 164 7 ls st w = ldA ls 0 fun x => Rv 164 8 ls (x :: st) w := R_ldA Q164 (by decide +kernel) rfl
theorem e164_8 {ls : zL} {st : List Value} {w : zW} {a : Nat} : Rv 164 8 ls (.ref a :: st) w = gF w a 6 0 fun v => Rv 164 11 ls (v :: st) w := R_gF (z := 1070) Q164 (by decide +kernel) rfl
theorem e164_11 {ls : zL} {st : List Value} {w : zW} : Rv 164 11 ls st w = Rv 164 12 ls (.int 0 :: st) w := R_con Q164 (by decide +kernel) rfl (by decide)
theorem e164_12 {ls : zL} {st : List Value} {w : zW} {a : Nat} {x : Int32} : Rv 164 12 ls (.int x :: .ref a :: st) w = gI w a 0 8 x fun v => Rv 164 13 ls (.int v :: st) w := R_iald Q164 (by decide +kernel)
theorem e164_13 {ls : zL} {st : List Value} {w : zW} {x y : Int32} : Rv 164 13 ls (.int y :: .int x :: st) w = if x < y then Rv 164 16 ls st w else Rv 164 53 ls st w := R_fige Q164 (by decide +kernel) rfl rfl
theorem e164_16 {ls : zL} {st : List Value} {w : zW} : Rv 164 16 ls st w = ldI ls 3 fun x => Rv 164 17 ls (.int x :: st) w := R_ldI Q164 (by decide +kernel) rfl
theorem e164_17 {ls : zL} {st : List Value} {w : zW} {x : Int32} : Rv 164 17 ls (.int x :: st) w = if x = 0 then Rv 164 45 ls st w else Rv 164 20 ls st w := R_f0eq Q164 (by decide +kernel) rfl rfl
theorem e164_20 {ls : zL} {st : List Value} {w : zW} : Rv 164 20 ls st w = ldA ls 0 fun x => Rv 164 21 ls (x :: st) w := R_ldA Q164 (by decide +kernel) rfl
theorem e164_21 {ls : zL} {st : List Value} {w : zW} : Rv 164 21 ls st w = ldI ls 2 fun x => Rv 164 22 ls (.int x :: st) w := R_ldI Q164 (by decide +kernel) rfl
theorem e164_22 {ls : zL} {st : List Value} {w : zW} : Rv 164 22 ls st w = ldI ls 4 fun x => Rv 164 24 ls (.int x :: st) w := R_ldI Q164 (by decide +kernel) rfl
theorem e164_24 {ls : zL} {w : zW} {n1 : Int32} {n2 : Int32} {a0 : Nat} : Rv 164 24 ls [.int n1, .int n2, .ref a0] w = hO w a0 6 (cal (Rv 159 0 [some (.ref a0), some (.int n2), some (.int n1)] [] w) (fun v w' => Rv 164 27 ls (vts v []) w') (xnone)) := R_calV (z := 1203) (r := []) Q164 (by decide +kernel) rfl rfl Q159 rfl rfl rfl
theorem e164_27 {ls : zL} {st : List Value} {w : zW} : Rv 164 27 ls st w = ldA ls 0 fun x => Rv 164 28 ls (x :: st) w := R_ldA Q164 (by decide +kernel) rfl
theorem e164_28 {ls : zL} {st : List Value} {w : zW} : Rv 164 28 ls st w = ldI ls 1 fun x => Rv 164 29 ls (.int x :: st) w := R_ldI Q164 (by decide +kernel) rfl
theorem e164_29 {ls : zL} {st : List Value} {w : zW} : Rv 164 29 ls st w = ldI ls 4 fun x => Rv 164 31 ls (.int x :: st) w := R_ldI Q164 (by decide +kernel) rfl
theorem e164_31 {ls : zL} {w : zW} {n1 : Int32} {n2 : Int32} {a0 : Nat} {n3 : Int32} : Rv 164 31 ls [.int n1, .int n2, .ref a0, .int n3] w = hO w a0 6 (cal (Rv 148 0 [some (.ref a0), some (.int n2), some (.int n1)] [] w) (fun v w' => Rv 164 34 ls (vts v [.int n3]) w') (xnone)) := R_calV (z := 1165) (r := [.int n3]) Q164 (by decide +kernel) rfl rfl Q148 rfl rfl rfl
theorem e164_34 {ls : zL} {st : List Value} {w : zW} {x y : Int32} : Rv 164 34 ls (.int y :: .int x :: st) w = Rv 164 35 ls (.int (x >>> (y &&& 31)) :: st) w := R_next Q164 (by decide +kernel) rfl
theorem e164_35 {ls : zL} {st : List Value} {w : zW} : Rv 164 35 ls st w = Rv 164 36 ls (.int 1 :: st) w := R_con Q164 (by decide +kernel) rfl (by decide)
theorem e164_36 {ls : zL} {st : List Value} {w : zW} {x y : Int32} : Rv 164 36 ls (.int y :: .int x :: st) w = Rv 164 37 ls (.int (x &&& y) :: st) w := R_next Q164 (by decide +kernel) rfl
theorem e164_37 {ls : zL} {st : List Value} {w : zW} : Rv 164 37 ls st w = Rv 164 38 ls (.int 1 :: st) w := R_con Q164 (by decide +kernel) rfl (by decide)
theorem e164_38 {ls : zL} {st : List Value} {w : zW} {x y : Int32} : Rv 164 38 ls (.int y :: .int x :: st) w = if x = y then Rv 164 41 ls st w else Rv 164 45 ls st w := R_fine Q164 (by decide +kernel) rfl rfl
theorem e164_41 {ls : zL} {st : List Value} {w : zW} : Rv 164 41 ls st w = Rv 164 42 ls (.int 1 :: st) w := R_con Q164 (by decide +kernel) rfl (by decide)
theorem e164_42 {ls : zL} {st : List Value} {w : zW} : Rv 164 42 ls st w = Rv 164 46 ls st w := R_go Q164 (by decide +kernel) rfl rfl
theorem e164_45 {ls : zL} {st : List Value} {w : zW} : Rv 164 45 ls st w = Rv 164 46 ls (.int 0 :: st) w := R_con Q164 (by decide +kernel) rfl (by decide)
theorem e164_46 {ls : zL} {st : List Value} {w : zW} {x : Int32} : Rv 164 46 ls (.int x :: st) w = lst ls 3 (some (.int x)) fun l => Rv 164 47 l st w := R_st Q164 (by decide +kernel) rfl
theorem e164_47 {ls : zL} {st : List Value} {w : zW} : Rv 164 47 ls st w = ldI ls 4 fun x => lst ls 4 (some (.int (x + 1))) fun l => Rv 164 50 l st w := R_iinc Q164 (by decide +kernel) (by decide)
theorem e164_50 {ls : zL} {st : List Value} {w : zW} : Rv 164 50 ls st w = Rv 164 5 ls st w := R_go Q164 (by decide +kernel) rfl rfl
theorem e164_53 {ls : zL} {st : List Value} {w : zW} : Rv 164 53 ls st w = ldI ls 3 fun x => Rv 164 54 ls (.int x :: st) w := R_ldI Q164 (by decide +kernel) rfl
theorem e164_54 {ls : zL} {w : zW} {x : Int32} : Rv 164 54 ls [.int x] w = if x = 0 ∨ x = 1 then some (.inl (some (.int x)), w) else none := R_retZ Q164 (by decide +kernel) rfl
/-! MasterPinsModel.openersOf -/
theorem e165_0 {ls : zL} {st : List Value} {w : zW} : Rv 165 0 ls st w = Rv 165 1 ls (.int 0 :: st) w := R_con Q165 (by decide +kernel) rfl (by decide)
theorem e165_1 {ls : zL} {st : List Value} {w : zW} {x : Int32} : Rv 165 1 ls (.int x :: st) w = lst ls 2 (some (.int x)) fun l => Rv 165 2 l st w := R_st Q165 (by decide +kernel) rfl
theorem e165_2 {ls : zL} {st : List Value} {w : zW} : Rv 165 2 ls st w = Rv 165 3 ls (.int 0 :: st) w := R_con Q165 (by decide +kernel) rfl (by decide)
theorem e165_3 {ls : zL} {st : List Value} {w : zW} {x : Int32} : Rv 165 3 ls (.int x :: st) w = lst ls 3 (some (.int x)) fun l => Rv 165 4 l st w := R_st Q165 (by decide +kernel) rfl
theorem h165_4 {ls : zL} {st : List Value} {w : zW} : Rv 165 4 ls st w = ldI ls 3 fun x => Rv 165 5 ls (.int x :: st) w := R_ldI Q165 (by decide +kernel) rfl
theorem e165_5 {ls : zL} {st : List Value} {w : zW} : Rv 165 5 ls st w = ldA ls 0 fun x => Rv 165 6 ls (x :: st) w := R_ldA Q165 (by decide +kernel) rfl
theorem e165_6 {ls : zL} {st : List Value} {w : zW} {a : Nat} : Rv 165 6 ls (.ref a :: st) w = gF w a 6 0 fun v => Rv 165 9 ls (v :: st) w := R_gF (z := 1070) Q165 (by decide +kernel) rfl
theorem e165_9 {ls : zL} {st : List Value} {w : zW} : Rv 165 9 ls st w = Rv 165 10 ls (.int 5 :: st) w := R_con Q165 (by decide +kernel) rfl (by decide)
theorem e165_10 {ls : zL} {st : List Value} {w : zW} {a : Nat} {x : Int32} : Rv 165 10 ls (.int x :: .ref a :: st) w = gI w a 0 8 x fun v => Rv 165 11 ls (.int v :: st) w := R_iald Q165 (by decide +kernel)
theorem e165_11 {ls : zL} {st : List Value} {w : zW} {x y : Int32} : Rv 165 11 ls (.int y :: .int x :: st) w = if x < y then Rv 165 14 ls st w else Rv 165 47 ls st w := R_fige Q165 (by decide +kernel) rfl rfl
theorem e165_14 {ls : zL} {st : List Value} {w : zW} : Rv 165 14 ls st w = ldI ls 2 fun x => Rv 165 15 ls (.int x :: st) w := R_ldI Q165 (by decide +kernel) rfl
theorem e165_15 {ls : zL} {st : List Value} {w : zW} : Rv 165 15 ls st w = ldA ls 0 fun x => Rv 165 16 ls (x :: st) w := R_ldA Q165 (by decide +kernel) rfl
theorem e165_16 {ls : zL} {st : List Value} {w : zW} : Rv 165 16 ls st w = ldA ls 0 fun x => Rv 165 17 ls (x :: st) w := R_ldA Q165 (by decide +kernel) rfl
theorem e165_17 {ls : zL} {st : List Value} {w : zW} {a : Nat} : Rv 165 17 ls (.ref a :: st) w = gF w a 6 0 fun v => Rv 165 20 ls (v :: st) w := R_gF (z := 1070) Q165 (by decide +kernel) rfl
theorem e165_20 {ls : zL} {st : List Value} {w : zW} : Rv 165 20 ls st w = Rv 165 22 ls (.int 7 :: st) w := R_con Q165 (by decide +kernel) rfl (by decide)
theorem e165_22 {ls : zL} {st : List Value} {w : zW} : Rv 165 22 ls st w = ldI ls 3 fun x => Rv 165 23 ls (.int x :: st) w := R_ldI Q165 (by decide +kernel) rfl
theorem e165_23 {ls : zL} {st : List Value} {w : zW} {x y : Int32} : Rv 165 23 ls (.int y :: .int x :: st) w = Rv 165 24 ls (.int (x + y) :: st) w := R_next Q165 (by decide +kernel) rfl
theorem e165_24 {ls : zL} {st : List Value} {w : zW} {a : Nat} {x : Int32} : Rv 165 24 ls (.int x :: .ref a :: st) w = gI w a 0 8 x fun v => Rv 165 25 ls (.int v :: st) w := R_iald Q165 (by decide +kernel)
theorem e165_25 {ls : zL} {st : List Value} {w : zW} : Rv 165 25 ls st w = ldI ls 1 fun x => Rv 165 26 ls (.int x :: st) w := R_ldI Q165 (by decide +kernel) rfl
theorem e165_26 {ls : zL} {w : zW} {n1 : Int32} {n2 : Int32} {a0 : Nat} {n3 : Int32} : Rv 165 26 ls [.int n1, .int n2, .ref a0, .int n3] w = hO w a0 6 (cal (Rv 164 0 [some (.ref a0), some (.int n2), some (.int n1), none, none] [] w) (fun v w' => Rv 165 29 ls (vts v [.int n3]) w') (xnone)) := R_calV (z := 1199) (r := [.int n3]) Q165 (by decide +kernel) rfl rfl Q164 rfl rfl rfl
theorem e165_29 {ls : zL} {st : List Value} {w : zW} {x : Int32} : Rv 165 29 ls (.int x :: st) w = if x = 0 then Rv 165 38 ls st w else Rv 165 32 ls st w := R_f0eq Q165 (by decide +kernel) rfl rfl
theorem e165_32 {ls : zL} {st : List Value} {w : zW} : Rv 165 32 ls st w = Rv 165 33 ls (.int 1 :: st) w := R_con Q165 (by decide +kernel) rfl (by decide)
theorem e165_33 {ls : zL} {st : List Value} {w : zW} : Rv 165 33 ls st w = ldI ls 3 fun x => Rv 165 34 ls (.int x :: st) w := R_ldI Q165 (by decide +kernel) rfl
theorem e165_34 {ls : zL} {st : List Value} {w : zW} {x y : Int32} : Rv 165 34 ls (.int y :: .int x :: st) w = Rv 165 35 ls (.int (x <<< (y &&& 31)) :: st) w := R_next Q165 (by decide +kernel) rfl
theorem e165_35 {ls : zL} {st : List Value} {w : zW} : Rv 165 35 ls st w = Rv 165 39 ls st w := R_go Q165 (by decide +kernel) rfl rfl
theorem e165_38 {ls : zL} {st : List Value} {w : zW} : Rv 165 38 ls st w = Rv 165 39 ls (.int 0 :: st) w := R_con Q165 (by decide +kernel) rfl (by decide)
theorem e165_39 {ls : zL} {st : List Value} {w : zW} {x y : Int32} : Rv 165 39 ls (.int y :: .int x :: st) w = Rv 165 40 ls (.int (x ||| y) :: st) w := R_next Q165 (by decide +kernel) rfl
theorem e165_40 {ls : zL} {st : List Value} {w : zW} {x : Int32} : Rv 165 40 ls (.int x :: st) w = lst ls 2 (some (.int x)) fun l => Rv 165 41 l st w := R_st Q165 (by decide +kernel) rfl
theorem e165_41 {ls : zL} {st : List Value} {w : zW} : Rv 165 41 ls st w = ldI ls 3 fun x => lst ls 3 (some (.int (x + 1))) fun l => Rv 165 44 l st w := R_iinc Q165 (by decide +kernel) (by decide)
theorem e165_44 {ls : zL} {st : List Value} {w : zW} : Rv 165 44 ls st w = Rv 165 4 ls st w := R_go Q165 (by decide +kernel) rfl rfl
theorem e165_47 {ls : zL} {st : List Value} {w : zW} : Rv 165 47 ls st w = ldI ls 2 fun x => Rv 165 48 ls (.int x :: st) w := R_ldI Q165 (by decide +kernel) rfl
theorem e165_48 {ls : zL} {w : zW} {x : Int32} : Rv 165 48 ls [.int x] w = some (.inl (some (.int x)), w) := R_retI Q165 (by decide +kernel) rfl
/-! MasterPinsModel.wrongKeys -/
theorem e166_0 {ls : zL} {st : List Value} {w : zW} : Rv 166 0 ls st w = ldA ls 0 fun x => Rv 166 1 ls (x :: st) w := R_ldA Q166 (by decide +kernel) rfl
theorem e166_1 {ls : zL} {st : List Value} {w : zW} : Rv 166 1 ls st w = ldI ls 1 fun x => Rv 166 2 ls (.int x :: st) w := R_ldI Q166 (by decide +kernel) rfl
theorem e166_2 {ls : zL} {w : zW} {n1 : Int32} {a0 : Nat} : Rv 166 2 ls [.int n1, .ref a0] w = hO w a0 6 (cal (Rv 165 0 [some (.ref a0), some (.int n1), none, none] [] w) (fun v w' => Rv 166 5 ls (vts v []) w') (xnone)) := R_calV (z := 1303) (r := []) Q166 (by decide +kernel) rfl rfl Q165 rfl rfl rfl
theorem e166_5 {ls : zL} {st : List Value} {w : zW} : Rv 166 5 ls st w = ldA ls 0 fun x => Rv 166 6 ls (x :: st) w := R_ldA Q166 (by decide +kernel) rfl
theorem e166_6 {ls : zL} {st : List Value} {w : zW} : Rv 166 6 ls st w = ldI ls 1 fun x => Rv 166 7 ls (.int x :: st) w := R_ldI Q166 (by decide +kernel) rfl
theorem e166_7 {ls : zL} {w : zW} {n1 : Int32} {a0 : Nat} {n2 : Int32} : Rv 166 7 ls [.int n1, .ref a0, .int n2] w = hO w a0 6 (cal (Rv 158 0 [some (.ref a0), some (.int n1), none] [] w) (fun v w' => Rv 166 10 ls (vts v [.int n2]) w') (xnone)) := R_calV (z := 1239) (r := [.int n2]) Q166 (by decide +kernel) rfl rfl Q158 rfl rfl rfl
theorem e166_10 {ls : zL} {st : List Value} {w : zW} {x y : Int32} : Rv 166 10 ls (.int y :: .int x :: st) w = Rv 166 11 ls (.int (x ^^^ y) :: st) w := R_next Q166 (by decide +kernel) rfl
theorem e166_11 {ls : zL} {w : zW} {n1 : Int32} : Rv 166 11 ls [.int n1] w = cal (Rv 146 0 [some (.int n1), none, none] [] w) (fun v w' => Rv 166 14 ls (vts v []) w') (xnone) := R_calS (z := 1172) (kd := 1) (n := 1) Q166 (by decide +kernel) rfl (Or.inl rfl) (Nat.le_of_ble_eq_true rfl) rfl Q146 rfl rfl rfl
theorem e166_14 {ls : zL} {w : zW} {x : Int32} : Rv 166 14 ls [.int x] w = some (.inl (some (.int x)), w) := R_retI Q166 (by decide +kernel) rfl
/-! MasterPinsModel.isExposed -/
theorem e167_0 {ls : zL} {st : List Value} {w : zW} : Rv 167 0 ls st w = ldA ls 0 fun x => Rv 167 1 ls (x :: st) w := R_ldA Q167 (by decide +kernel) rfl
theorem e167_1 {ls : zL} {st : List Value} {w : zW} : Rv 167 1 ls st w = ldI ls 1 fun x => Rv 167 2 ls (.int x :: st) w := R_ldI Q167 (by decide +kernel) rfl
theorem e167_2 {ls : zL} {w : zW} {n1 : Int32} {a0 : Nat} : Rv 167 2 ls [.int n1, .ref a0] w = hO w a0 6 (cal (Rv 165 0 [some (.ref a0), some (.int n1), none, none] [] w) (fun v w' => Rv 167 5 ls (vts v []) w') (xnone)) := R_calV (z := 1303) (r := []) Q167 (by decide +kernel) rfl rfl Q165 rfl rfl rfl
theorem e167_5 {ls : zL} {st : List Value} {w : zW} : Rv 167 5 ls st w = ldA ls 0 fun x => Rv 167 6 ls (x :: st) w := R_ldA Q167 (by decide +kernel) rfl
theorem e167_6 {ls : zL} {w : zW} {a0 : Nat} {n1 : Int32} : Rv 167 6 ls [.ref a0, .int n1] w = hO w a0 6 (cal (Rv 157 0 [some (.ref a0), none, none] [] w) (fun v w' => Rv 167 9 ls (vts v [.int n1]) w') (xnone)) := R_calV (z := 1215) (r := [.int n1]) Q167 (by decide +kernel) rfl rfl Q157 rfl rfl rfl
theorem e167_9 {ls : zL} {st : List Value} {w : zW} {x y : Int32} : Rv 167 9 ls (.int y :: .int x :: st) w = Rv 167 10 ls (.int (x &&& y) :: st) w := R_next Q167 (by decide +kernel) rfl
theorem e167_10 {ls : zL} {st : List Value} {w : zW} {x : Int32} : Rv 167 10 ls (.int x :: st) w = if x = 0 then Rv 167 13 ls st w else Rv 167 17 ls st w := R_f0ne Q167 (by decide +kernel) rfl rfl
theorem e167_13 {ls : zL} {st : List Value} {w : zW} : Rv 167 13 ls st w = Rv 167 14 ls (.int 0 :: st) w := R_con Q167 (by decide +kernel) rfl (by decide)
theorem e167_14 {ls : zL} {st : List Value} {w : zW} : Rv 167 14 ls st w = Rv 167 18 ls st w := R_go Q167 (by decide +kernel) rfl rfl
theorem e167_17 {ls : zL} {st : List Value} {w : zW} : Rv 167 17 ls st w = Rv 167 18 ls (.int 1 :: st) w := R_con Q167 (by decide +kernel) rfl (by decide)
theorem e167_18 {ls : zL} {w : zW} {x : Int32} : Rv 167 18 ls [.int x] w = some (.inl (some (.int x)), w) := R_retI Q167 (by decide +kernel) rfl
/-! MasterPinsModel.pinsIn -/
theorem e168_0 {ls : zL} {st : List Value} {w : zW} : Rv 168 0 ls st w = Rv 168 1 ls (.int 0 :: st) w := R_con Q168 (by decide +kernel) rfl (by decide)
theorem e168_1 {ls : zL} {st : List Value} {w : zW} {x : Int32} : Rv 168 1 ls (.int x :: st) w = lst ls 2 (some (.int x)) fun l => Rv 168 2 l st w := R_st Q168 (by decide +kernel) rfl
theorem e168_2 {ls : zL} {st : List Value} {w : zW} : Rv 168 2 ls st w = Rv 168 3 ls (.int 0 :: st) w := R_con Q168 (by decide +kernel) rfl (by decide)
theorem e168_3 {ls : zL} {st : List Value} {w : zW} {x : Int32} : Rv 168 3 ls (.int x :: st) w = lst ls 3 (some (.int x)) fun l => Rv 168 4 l st w := R_st Q168 (by decide +kernel) rfl
theorem h168_4 {ls : zL} {st : List Value} {w : zW} : Rv 168 4 ls st w = ldI ls 3 fun x => Rv 168 5 ls (.int x :: st) w := R_ldI Q168 (by decide +kernel) rfl
theorem e168_5 {ls : zL} {st : List Value} {w : zW} : Rv 168 5 ls st w = ldA ls 0 fun x => Rv 168 6 ls (x :: st) w := R_ldA Q168 (by decide +kernel) rfl
theorem e168_6 {ls : zL} {st : List Value} {w : zW} {a : Nat} : Rv 168 6 ls (.ref a :: st) w = gF w a 6 0 fun v => Rv 168 9 ls (v :: st) w := R_gF (z := 1070) Q168 (by decide +kernel) rfl
theorem e168_9 {ls : zL} {st : List Value} {w : zW} : Rv 168 9 ls st w = Rv 168 10 ls (.int 0 :: st) w := R_con Q168 (by decide +kernel) rfl (by decide)
theorem e168_10 {ls : zL} {st : List Value} {w : zW} {a : Nat} {x : Int32} : Rv 168 10 ls (.int x :: .ref a :: st) w = gI w a 0 8 x fun v => Rv 168 11 ls (.int v :: st) w := R_iald Q168 (by decide +kernel)
theorem e168_11 {ls : zL} {st : List Value} {w : zW} {x y : Int32} : Rv 168 11 ls (.int y :: .int x :: st) w = if x < y then Rv 168 14 ls st w else Rv 168 32 ls st w := R_fige Q168 (by decide +kernel) rfl rfl
theorem e168_14 {ls : zL} {st : List Value} {w : zW} : Rv 168 14 ls st w = ldI ls 2 fun x => Rv 168 15 ls (.int x :: st) w := R_ldI Q168 (by decide +kernel) rfl
theorem e168_15 {ls : zL} {st : List Value} {w : zW} : Rv 168 15 ls st w = ldA ls 0 fun x => Rv 168 16 ls (x :: st) w := R_ldA Q168 (by decide +kernel) rfl
theorem e168_16 {ls : zL} {st : List Value} {w : zW} : Rv 168 16 ls st w = ldI ls 1 fun x => Rv 168 17 ls (.int x :: st) w := R_ldI Q168 (by decide +kernel) rfl
theorem e168_17 {ls : zL} {st : List Value} {w : zW} : Rv 168 17 ls st w = ldI ls 3 fun x => Rv 168 18 ls (.int x :: st) w := R_ldI Q168 (by decide +kernel) rfl
theorem e168_18 {ls : zL} {w : zW} {n1 : Int32} {n2 : Int32} {a0 : Nat} {n3 : Int32} : Rv 168 18 ls [.int n1, .int n2, .ref a0, .int n3] w = hO w a0 6 (cal (Rv 159 0 [some (.ref a0), some (.int n2), some (.int n1)] [] w) (fun v w' => Rv 168 21 ls (vts v [.int n3]) w') (xnone)) := R_calV (z := 1203) (r := [.int n3]) Q168 (by decide +kernel) rfl rfl Q159 rfl rfl rfl
theorem e168_21 {ls : zL} {w : zW} {n1 : Int32} {n2 : Int32} : Rv 168 21 ls [.int n1, .int n2] w = cal (Rv 146 0 [some (.int n1), none, none] [] w) (fun v w' => Rv 168 24 ls (vts v [.int n2]) w') (xnone) := R_calS (z := 1172) (kd := 1) (n := 1) Q168 (by decide +kernel) rfl (Or.inl rfl) (Nat.le_of_ble_eq_true rfl) rfl Q146 rfl rfl rfl
theorem e168_24 {ls : zL} {st : List Value} {w : zW} {x y : Int32} : Rv 168 24 ls (.int y :: .int x :: st) w = Rv 168 25 ls (.int (x + y) :: st) w := R_next Q168 (by decide +kernel) rfl
theorem e168_25 {ls : zL} {st : List Value} {w : zW} {x : Int32} : Rv 168 25 ls (.int x :: st) w = lst ls 2 (some (.int x)) fun l => Rv 168 26 l st w := R_st Q168 (by decide +kernel) rfl
theorem e168_26 {ls : zL} {st : List Value} {w : zW} : Rv 168 26 ls st w = ldI ls 3 fun x => lst ls 3 (some (.int (x + 1))) fun l => Rv 168 29 l st w := R_iinc Q168 (by decide +kernel) (by decide)
theorem e168_29 {ls : zL} {st : List Value} {w : zW} : Rv 168 29 ls st w = Rv 168 4 ls st w := R_go Q168 (by decide +kernel) rfl rfl
theorem e168_32 {ls : zL} {st : List Value} {w : zW} : Rv 168 32 ls st w = ldI ls 2 fun x => Rv 168 33 ls (.int x :: st) w := R_ldI Q168 (by decide +kernel) rfl
theorem e168_33 {ls : zL} {w : zW} {x : Int32} : Rv 168 33 ls [.int x] w = some (.inl (some (.int x)), w) := R_retI Q168 (by decide +kernel) rfl
/-! MasterPinsModel.codesFor -/
theorem e169_0 {ls : zL} {st : List Value} {w : zW} : Rv 169 0 ls st w = Rv 169 1 ls (.int 1 :: st) w := R_con Q169 (by decide +kernel) rfl (by decide)
theorem e169_1 {ls : zL} {st : List Value} {w : zW} {x : Int32} : Rv 169 1 ls (.int x :: st) w = lst ls 2 (some (.int x)) fun l => Rv 169 2 l st w := R_st Q169 (by decide +kernel) rfl
theorem e169_2 {ls : zL} {st : List Value} {w : zW} : Rv 169 2 ls st w = Rv 169 3 ls (.int 0 :: st) w := R_con Q169 (by decide +kernel) rfl (by decide)
theorem e169_3 {ls : zL} {st : List Value} {w : zW} {x : Int32} : Rv 169 3 ls (.int x :: st) w = lst ls 3 (some (.int x)) fun l => Rv 169 4 l st w := R_st Q169 (by decide +kernel) rfl
theorem h169_4 {ls : zL} {st : List Value} {w : zW} : Rv 169 4 ls st w = ldI ls 3 fun x => Rv 169 5 ls (.int x :: st) w := R_ldI Q169 (by decide +kernel) rfl
theorem e169_5 {ls : zL} {st : List Value} {w : zW} : Rv 169 5 ls st w = ldA ls 0 fun x => Rv 169 6 ls (x :: st) w := R_ldA Q169 (by decide +kernel) rfl
theorem e169_6 {ls : zL} {st : List Value} {w : zW} {a : Nat} : Rv 169 6 ls (.ref a :: st) w = gF w a 6 0 fun v => Rv 169 9 ls (v :: st) w := R_gF (z := 1070) Q169 (by decide +kernel) rfl
theorem e169_9 {ls : zL} {st : List Value} {w : zW} : Rv 169 9 ls st w = Rv 169 10 ls (.int 0 :: st) w := R_con Q169 (by decide +kernel) rfl (by decide)
theorem e169_10 {ls : zL} {st : List Value} {w : zW} {a : Nat} {x : Int32} : Rv 169 10 ls (.int x :: .ref a :: st) w = gI w a 0 8 x fun v => Rv 169 11 ls (.int v :: st) w := R_iald Q169 (by decide +kernel)
theorem e169_11 {ls : zL} {st : List Value} {w : zW} {x y : Int32} : Rv 169 11 ls (.int y :: .int x :: st) w = if x < y then Rv 169 14 ls st w else Rv 169 32 ls st w := R_fige Q169 (by decide +kernel) rfl rfl
theorem e169_14 {ls : zL} {st : List Value} {w : zW} : Rv 169 14 ls st w = ldI ls 2 fun x => Rv 169 15 ls (.int x :: st) w := R_ldI Q169 (by decide +kernel) rfl
theorem e169_15 {ls : zL} {st : List Value} {w : zW} : Rv 169 15 ls st w = ldA ls 0 fun x => Rv 169 16 ls (x :: st) w := R_ldA Q169 (by decide +kernel) rfl
theorem e169_16 {ls : zL} {st : List Value} {w : zW} : Rv 169 16 ls st w = ldI ls 1 fun x => Rv 169 17 ls (.int x :: st) w := R_ldI Q169 (by decide +kernel) rfl
theorem e169_17 {ls : zL} {st : List Value} {w : zW} : Rv 169 17 ls st w = ldI ls 3 fun x => Rv 169 18 ls (.int x :: st) w := R_ldI Q169 (by decide +kernel) rfl
theorem e169_18 {ls : zL} {w : zW} {n1 : Int32} {n2 : Int32} {a0 : Nat} {n3 : Int32} : Rv 169 18 ls [.int n1, .int n2, .ref a0, .int n3] w = hO w a0 6 (cal (Rv 159 0 [some (.ref a0), some (.int n2), some (.int n1)] [] w) (fun v w' => Rv 169 21 ls (vts v [.int n3]) w') (xnone)) := R_calV (z := 1203) (r := [.int n3]) Q169 (by decide +kernel) rfl rfl Q159 rfl rfl rfl
theorem e169_21 {ls : zL} {w : zW} {n1 : Int32} {n2 : Int32} : Rv 169 21 ls [.int n1, .int n2] w = cal (Rv 146 0 [some (.int n1), none, none] [] w) (fun v w' => Rv 169 24 ls (vts v [.int n2]) w') (xnone) := R_calS (z := 1172) (kd := 1) (n := 1) Q169 (by decide +kernel) rfl (Or.inl rfl) (Nat.le_of_ble_eq_true rfl) rfl Q146 rfl rfl rfl
theorem e169_24 {ls : zL} {st : List Value} {w : zW} {x y : Int32} : Rv 169 24 ls (.int y :: .int x :: st) w = Rv 169 25 ls (.int (x * y) :: st) w := R_next Q169 (by decide +kernel) rfl
theorem e169_25 {ls : zL} {st : List Value} {w : zW} {x : Int32} : Rv 169 25 ls (.int x :: st) w = lst ls 2 (some (.int x)) fun l => Rv 169 26 l st w := R_st Q169 (by decide +kernel) rfl
theorem e169_26 {ls : zL} {st : List Value} {w : zW} : Rv 169 26 ls st w = ldI ls 3 fun x => lst ls 3 (some (.int (x + 1))) fun l => Rv 169 29 l st w := R_iinc Q169 (by decide +kernel) (by decide)
theorem e169_29 {ls : zL} {st : List Value} {w : zW} : Rv 169 29 ls st w = Rv 169 4 ls st w := R_go Q169 (by decide +kernel) rfl rfl
theorem e169_32 {ls : zL} {st : List Value} {w : zW} : Rv 169 32 ls st w = ldI ls 2 fun x => Rv 169 33 ls (.int x :: st) w := R_ldI Q169 (by decide +kernel) rfl
theorem e169_33 {ls : zL} {w : zW} {x : Int32} : Rv 169 33 ls [.int x] w = some (.inl (some (.int x)), w) := R_retI Q169 (by decide +kernel) rfl
/-! MasterPinsModel.isOfKey -/
theorem e170_0 {ls : zL} {st : List Value} {w : zW} : Rv 170 0 ls st w = Rv 170 1 ls (.int 0 :: st) w := R_con Q170 (by decide +kernel) rfl (by decide)
theorem e170_1 {ls : zL} {st : List Value} {w : zW} {x : Int32} : Rv 170 1 ls (.int x :: st) w = lst ls 2 (some (.int x)) fun l => Rv 170 2 l st w := R_st Q170 (by decide +kernel) rfl
theorem e170_2 {ls : zL} {st : List Value} {w : zW} : Rv 170 2 ls st w = Rv 170 3 ls (.int 0 :: st) w := R_con Q170 (by decide +kernel) rfl (by decide)
theorem e170_3 {ls : zL} {st : List Value} {w : zW} {x : Int32} : Rv 170 3 ls (.int x :: st) w = lst ls 3 (some (.int x)) fun l => Rv 170 4 l st w := R_st Q170 (by decide +kernel) rfl
theorem h170_4 {ls : zL} {st : List Value} {w : zW} : Rv 170 4 ls st w = ldI ls 3 fun x => Rv 170 5 ls (.int x :: st) w := R_ldI Q170 (by decide +kernel) rfl
theorem e170_5 {ls : zL} {st : List Value} {w : zW} : Rv 170 5 ls st w = ldA ls 0 fun x => Rv 170 6 ls (x :: st) w := R_ldA Q170 (by decide +kernel) rfl
theorem e170_6 {ls : zL} {st : List Value} {w : zW} {a : Nat} : Rv 170 6 ls (.ref a :: st) w = gF w a 6 0 fun v => Rv 170 9 ls (v :: st) w := R_gF (z := 1070) Q170 (by decide +kernel) rfl
theorem e170_9 {ls : zL} {st : List Value} {w : zW} : Rv 170 9 ls st w = Rv 170 10 ls (.int 5 :: st) w := R_con Q170 (by decide +kernel) rfl (by decide)
theorem e170_10 {ls : zL} {st : List Value} {w : zW} {a : Nat} {x : Int32} : Rv 170 10 ls (.int x :: .ref a :: st) w = gI w a 0 8 x fun v => Rv 170 11 ls (.int v :: st) w := R_iald Q170 (by decide +kernel)
theorem e170_11 {ls : zL} {st : List Value} {w : zW} {x y : Int32} : Rv 170 11 ls (.int y :: .int x :: st) w = if x < y then Rv 170 14 ls st w else Rv 170 43 ls st w := R_fige Q170 (by decide +kernel) rfl rfl
theorem e170_14 {ls : zL} {st : List Value} {w : zW} : Rv 170 14 ls st w = ldI ls 2 fun x => Rv 170 15 ls (.int x :: st) w := R_ldI Q170 (by decide +kernel) rfl
theorem e170_15 {ls : zL} {st : List Value} {w : zW} {x : Int32} : Rv 170 15 ls (.int x :: st) w = if x = 0 then Rv 170 18 ls st w else Rv 170 31 ls st w := R_f0ne Q170 (by decide +kernel) rfl rfl
theorem e170_18 {ls : zL} {st : List Value} {w : zW} : Rv 170 18 ls st w = ldA ls 0 fun x => Rv 170 19 ls (x :: st) w := R_ldA Q170 (by decide +kernel) rfl
theorem e170_19 {ls : zL} {st : List Value} {w : zW} {a : Nat} : Rv 170 19 ls (.ref a :: st) w = gF w a 6 0 fun v => Rv 170 22 ls (v :: st) w := R_gF (z := 1070) Q170 (by decide +kernel) rfl
theorem e170_22 {ls : zL} {st : List Value} {w : zW} : Rv 170 22 ls st w = Rv 170 24 ls (.int 7 :: st) w := R_con Q170 (by decide +kernel) rfl (by decide)
theorem e170_24 {ls : zL} {st : List Value} {w : zW} : Rv 170 24 ls st w = ldI ls 3 fun x => Rv 170 25 ls (.int x :: st) w := R_ldI Q170 (by decide +kernel) rfl
theorem e170_25 {ls : zL} {st : List Value} {w : zW} {x y : Int32} : Rv 170 25 ls (.int y :: .int x :: st) w = Rv 170 26 ls (.int (x + y) :: st) w := R_next Q170 (by decide +kernel) rfl
theorem e170_26 {ls : zL} {st : List Value} {w : zW} {a : Nat} {x : Int32} : Rv 170 26 ls (.int x :: .ref a :: st) w = gI w a 0 8 x fun v => Rv 170 27 ls (.int v :: st) w := R_iald Q170 (by decide +kernel)
theorem e170_27 {ls : zL} {st : List Value} {w : zW} : Rv 170 27 ls st w = ldI ls 1 fun x => Rv 170 28 ls (.int x :: st) w := R_ldI Q170 (by decide +kernel) rfl
theorem e170_28 {ls : zL} {st : List Value} {w : zW} {x y : Int32} : Rv 170 28 ls (.int y :: .int x :: st) w = if x = y then Rv 170 31 ls st w else Rv 170 35 ls st w := R_fine Q170 (by decide +kernel) rfl rfl
theorem e170_31 {ls : zL} {st : List Value} {w : zW} : Rv 170 31 ls st w = Rv 170 32 ls (.int 1 :: st) w := R_con Q170 (by decide +kernel) rfl (by decide)
theorem e170_32 {ls : zL} {st : List Value} {w : zW} : Rv 170 32 ls st w = Rv 170 36 ls st w := R_go Q170 (by decide +kernel) rfl rfl
theorem e170_35 {ls : zL} {st : List Value} {w : zW} : Rv 170 35 ls st w = Rv 170 36 ls (.int 0 :: st) w := R_con Q170 (by decide +kernel) rfl (by decide)
theorem e170_36 {ls : zL} {st : List Value} {w : zW} {x : Int32} : Rv 170 36 ls (.int x :: st) w = lst ls 2 (some (.int x)) fun l => Rv 170 37 l st w := R_st Q170 (by decide +kernel) rfl
theorem e170_37 {ls : zL} {st : List Value} {w : zW} : Rv 170 37 ls st w = ldI ls 3 fun x => lst ls 3 (some (.int (x + 1))) fun l => Rv 170 40 l st w := R_iinc Q170 (by decide +kernel) (by decide)
theorem e170_40 {ls : zL} {st : List Value} {w : zW} : Rv 170 40 ls st w = Rv 170 4 ls st w := R_go Q170 (by decide +kernel) rfl rfl
theorem e170_43 {ls : zL} {st : List Value} {w : zW} : Rv 170 43 ls st w = ldI ls 2 fun x => Rv 170 44 ls (.int x :: st) w := R_ldI Q170 (by decide +kernel) rfl
theorem e170_44 {ls : zL} {w : zW} {x : Int32} : Rv 170 44 ls [.int x] w = if x = 0 ∨ x = 1 then some (.inl (some (.int x)), w) else none := R_retZ Q170 (by decide +kernel) rfl
/-! MasterPinsModel.ghosts -/
theorem e171_0 {ls : zL} {st : List Value} {w : zW} : Rv 171 0 ls st w = Rv 171 1 ls (.int 0 :: st) w := R_con Q171 (by decide +kernel) rfl (by decide)
theorem e171_1 {ls : zL} {st : List Value} {w : zW} {x : Int32} : Rv 171 1 ls (.int x :: st) w = lst ls 2 (some (.int x)) fun l => Rv 171 2 l st w := R_st Q171 (by decide +kernel) rfl
theorem e171_2 {ls : zL} {st : List Value} {w : zW} : Rv 171 2 ls st w = Rv 171 3 ls (.int 0 :: st) w := R_con Q171 (by decide +kernel) rfl (by decide)
theorem e171_3 {ls : zL} {st : List Value} {w : zW} {x : Int32} : Rv 171 3 ls (.int x :: st) w = lst ls 3 (some (.int x)) fun l => Rv 171 4 l st w := R_st Q171 (by decide +kernel) rfl
theorem h171_4 {ls : zL} {st : List Value} {w : zW} : Rv 171 4 ls st w = ldI ls 3 fun x => Rv 171 5 ls (.int x :: st) w := R_ldI Q171 (by decide +kernel) rfl
theorem e171_5 {ls : zL} {st : List Value} {w : zW} : Rv 171 5 ls st w = ldA ls 0 fun x => Rv 171 6 ls (x :: st) w := R_ldA Q171 (by decide +kernel) rfl
theorem e171_6 {ls : zL} {w : zW} {a0 : Nat} {n1 : Int32} : Rv 171 6 ls [.ref a0, .int n1] w = hO w a0 6 (cal (Rv 155 0 [some (.ref a0), none, none] [] w) (fun v w' => Rv 171 9 ls (vts v [.int n1]) w') (xnone)) := R_calV (z := 1315) (r := [.int n1]) Q171 (by decide +kernel) rfl rfl Q155 rfl rfl rfl
theorem e171_9 {ls : zL} {st : List Value} {w : zW} {x y : Int32} : Rv 171 9 ls (.int y :: .int x :: st) w = if x < y then Rv 171 12 ls st w else Rv 171 61 ls st w := R_fige Q171 (by decide +kernel) rfl rfl
theorem e171_12 {ls : zL} {st : List Value} {w : zW} : Rv 171 12 ls st w = ldA ls 0 fun x => Rv 171 13 ls (x :: st) w := R_ldA Q171 (by decide +kernel) rfl
theorem e171_13 {ls : zL} {st : List Value} {w : zW} : Rv 171 13 ls st w = ldI ls 3 fun x => Rv 171 14 ls (.int x :: st) w := R_ldI Q171 (by decide +kernel) rfl
theorem e171_14 {ls : zL} {w : zW} {n1 : Int32} {a0 : Nat} : Rv 171 14 ls [.int n1, .ref a0] w = hO w a0 6 (cal (Rv 154 0 [some (.ref a0), some (.int n1), none, none, none, none] [] w) (fun v w' => Rv 171 17 ls (vts v []) w') (xnone)) := R_calV (z := 1319) (r := []) Q171 (by decide +kernel) rfl rfl Q154 rfl rfl rfl
theorem e171_17 {ls : zL} {st : List Value} {w : zW} {x : Int32} : Rv 171 17 ls (.int x :: st) w = lst ls 4 (some (.int x)) fun l => Rv 171 19 l st w := R_st Q171 (by decide +kernel) rfl
theorem e171_19 {ls : zL} {st : List Value} {w : zW} : Rv 171 19 ls st w = ldI ls 2 fun x => Rv 171 20 ls (.int x :: st) w := R_ldI Q171 (by decide +kernel) rfl
theorem e171_20 {ls : zL} {st : List Value} {w : zW} : Rv 171 20 ls st w = ldA ls 0 fun x => Rv 171 21 ls (x :: st) w := R_ldA Q171 (by decide +kernel) rfl
theorem e171_21 {ls : zL} {st : List Value} {w : zW} : Rv 171 21 ls st w = ldI ls 4 fun x => Rv 171 23 ls (.int x :: st) w := R_ldI Q171 (by decide +kernel) rfl
theorem e171_23 {ls : zL} {st : List Value} {w : zW} : Rv 171 23 ls st w = ldI ls 1 fun x => Rv 171 24 ls (.int x :: st) w := R_ldI Q171 (by decide +kernel) rfl
theorem e171_24 {ls : zL} {w : zW} {n1 : Int32} {n2 : Int32} {a0 : Nat} {n3 : Int32} : Rv 171 24 ls [.int n1, .int n2, .ref a0, .int n3] w = hO w a0 6 (cal (Rv 164 0 [some (.ref a0), some (.int n2), some (.int n1), none, none] [] w) (fun v w' => Rv 171 27 ls (vts v [.int n3]) w') (xnone)) := R_calV (z := 1199) (r := [.int n3]) Q171 (by decide +kernel) rfl rfl Q164 rfl rfl rfl
theorem e171_27 {ls : zL} {st : List Value} {w : zW} {x : Int32} : Rv 171 27 ls (.int x :: st) w = if x = 0 then Rv 171 52 ls st w else Rv 171 30 ls st w := R_f0eq Q171 (by decide +kernel) rfl rfl
theorem e171_30 {ls : zL} {st : List Value} {w : zW} : Rv 171 30 ls st w = ldA ls 0 fun x => Rv 171 31 ls (x :: st) w := R_ldA Q171 (by decide +kernel) rfl
theorem e171_31 {ls : zL} {st : List Value} {w : zW} : Rv 171 31 ls st w = ldI ls 4 fun x => Rv 171 33 ls (.int x :: st) w := R_ldI Q171 (by decide +kernel) rfl
theorem e171_33 {ls : zL} {w : zW} {n1 : Int32} {a0 : Nat} {n2 : Int32} : Rv 171 33 ls [.int n1, .ref a0, .int n2] w = hO w a0 6 (cal (Rv 151 0 [some (.ref a0), some (.int n1), none, none] [] w) (fun v w' => Rv 171 36 ls (vts v [.int n2]) w') (xnone)) := R_calV (z := 1154) (r := [.int n2]) Q171 (by decide +kernel) rfl rfl Q151 rfl rfl rfl
theorem e171_36 {ls : zL} {st : List Value} {w : zW} {x : Int32} : Rv 171 36 ls (.int x :: st) w = if x = 0 then Rv 171 39 ls st w else Rv 171 52 ls st w := R_f0ne Q171 (by decide +kernel) rfl rfl
theorem e171_39 {ls : zL} {st : List Value} {w : zW} : Rv 171 39 ls st w = ldA ls 0 fun x => Rv 171 40 ls (x :: st) w := R_ldA Q171 (by decide +kernel) rfl
theorem e171_40 {ls : zL} {st : List Value} {w : zW} : Rv 171 40 ls st w = ldI ls 4 fun x => Rv 171 42 ls (.int x :: st) w := R_ldI Q171 (by decide +kernel) rfl
theorem e171_42 {ls : zL} {w : zW} {n1 : Int32} {a0 : Nat} {n2 : Int32} : Rv 171 42 ls [.int n1, .ref a0, .int n2] w = hO w a0 6 (cal (Rv 170 0 [some (.ref a0), some (.int n1), none, none] [] w) (fun v w' => Rv 171 45 ls (vts v [.int n2]) w') (xnone)) := R_calV (z := 1323) (r := [.int n2]) Q171 (by decide +kernel) rfl rfl Q170 rfl rfl rfl
theorem e171_45 {ls : zL} {st : List Value} {w : zW} {x : Int32} : Rv 171 45 ls (.int x :: st) w = if x = 0 then Rv 171 48 ls st w else Rv 171 52 ls st w := R_f0ne Q171 (by decide +kernel) rfl rfl
theorem e171_48 {ls : zL} {st : List Value} {w : zW} : Rv 171 48 ls st w = Rv 171 49 ls (.int 1 :: st) w := R_con Q171 (by decide +kernel) rfl (by decide)
theorem e171_49 {ls : zL} {st : List Value} {w : zW} : Rv 171 49 ls st w = Rv 171 53 ls st w := R_go Q171 (by decide +kernel) rfl rfl
theorem e171_52 {ls : zL} {st : List Value} {w : zW} : Rv 171 52 ls st w = Rv 171 53 ls (.int 0 :: st) w := R_con Q171 (by decide +kernel) rfl (by decide)
theorem e171_53 {ls : zL} {st : List Value} {w : zW} {x y : Int32} : Rv 171 53 ls (.int y :: .int x :: st) w = Rv 171 54 ls (.int (x + y) :: st) w := R_next Q171 (by decide +kernel) rfl
theorem e171_54 {ls : zL} {st : List Value} {w : zW} {x : Int32} : Rv 171 54 ls (.int x :: st) w = lst ls 2 (some (.int x)) fun l => Rv 171 55 l st w := R_st Q171 (by decide +kernel) rfl
theorem e171_55 {ls : zL} {st : List Value} {w : zW} : Rv 171 55 ls st w = ldI ls 3 fun x => lst ls 3 (some (.int (x + 1))) fun l => Rv 171 58 l st w := R_iinc Q171 (by decide +kernel) (by decide)
theorem e171_58 {ls : zL} {st : List Value} {w : zW} : Rv 171 58 ls st w = Rv 171 4 ls st w := R_go Q171 (by decide +kernel) rfl rfl
theorem e171_61 {ls : zL} {st : List Value} {w : zW} : Rv 171 61 ls st w = ldI ls 2 fun x => Rv 171 62 ls (.int x :: st) w := R_ldI Q171 (by decide +kernel) rfl
theorem e171_62 {ls : zL} {w : zW} {x : Int32} : Rv 171 62 ls [.int x] w = some (.inl (some (.int x)), w) := R_retI Q171 (by decide +kernel) rfl
/-! MasterPinsModel.doorsOpenedBy -/
theorem e172_0 {ls : zL} {st : List Value} {w : zW} : Rv 172 0 ls st w = Rv 172 1 ls (.int 0 :: st) w := R_con Q172 (by decide +kernel) rfl (by decide)
theorem e172_1 {ls : zL} {st : List Value} {w : zW} {x : Int32} : Rv 172 1 ls (.int x :: st) w = lst ls 2 (some (.int x)) fun l => Rv 172 2 l st w := R_st Q172 (by decide +kernel) rfl
theorem e172_2 {ls : zL} {st : List Value} {w : zW} : Rv 172 2 ls st w = Rv 172 3 ls (.int 0 :: st) w := R_con Q172 (by decide +kernel) rfl (by decide)
theorem e172_3 {ls : zL} {st : List Value} {w : zW} {x : Int32} : Rv 172 3 ls (.int x :: st) w = lst ls 3 (some (.int x)) fun l => Rv 172 4 l st w := R_st Q172 (by decide +kernel) rfl
theorem h172_4 {ls : zL} {st : List Value} {w : zW} : Rv 172 4 ls st w = ldI ls 3 fun x => Rv 172 5 ls (.int x :: st) w := R_ldI Q172 (by decide +kernel) rfl
theorem e172_5 {ls : zL} {st : List Value} {w : zW} : Rv 172 5 ls st w = ldA ls 0 fun x => Rv 172 6 ls (x :: st) w := R_ldA Q172 (by decide +kernel) rfl
theorem e172_6 {ls : zL} {st : List Value} {w : zW} {a : Nat} : Rv 172 6 ls (.ref a :: st) w = gF w a 6 0 fun v => Rv 172 9 ls (v :: st) w := R_gF (z := 1070) Q172 (by decide +kernel) rfl
theorem e172_9 {ls : zL} {st : List Value} {w : zW} : Rv 172 9 ls st w = Rv 172 11 ls (.int 6 :: st) w := R_con Q172 (by decide +kernel) rfl (by decide)
theorem e172_11 {ls : zL} {st : List Value} {w : zW} {a : Nat} {x : Int32} : Rv 172 11 ls (.int x :: .ref a :: st) w = gI w a 0 8 x fun v => Rv 172 12 ls (.int v :: st) w := R_iald Q172 (by decide +kernel)
theorem e172_12 {ls : zL} {st : List Value} {w : zW} {x y : Int32} : Rv 172 12 ls (.int y :: .int x :: st) w = if x < y then Rv 172 15 ls st w else Rv 172 40 ls st w := R_fige Q172 (by decide +kernel) rfl rfl
theorem e172_15 {ls : zL} {st : List Value} {w : zW} : Rv 172 15 ls st w = ldI ls 2 fun x => Rv 172 16 ls (.int x :: st) w := R_ldI Q172 (by decide +kernel) rfl
theorem e172_16 {ls : zL} {st : List Value} {w : zW} : Rv 172 16 ls st w = ldA ls 0 fun x => Rv 172 17 ls (x :: st) w := R_ldA Q172 (by decide +kernel) rfl
theorem e172_17 {ls : zL} {st : List Value} {w : zW} : Rv 172 17 ls st w = ldI ls 1 fun x => Rv 172 18 ls (.int x :: st) w := R_ldI Q172 (by decide +kernel) rfl
theorem e172_18 {ls : zL} {st : List Value} {w : zW} : Rv 172 18 ls st w = ldI ls 3 fun x => Rv 172 19 ls (.int x :: st) w := R_ldI Q172 (by decide +kernel) rfl
theorem e172_19 {ls : zL} {w : zW} {n1 : Int32} {n2 : Int32} {a0 : Nat} {n3 : Int32} : Rv 172 19 ls [.int n1, .int n2, .ref a0, .int n3] w = hO w a0 6 (cal (Rv 164 0 [some (.ref a0), some (.int n2), some (.int n1), none, none] [] w) (fun v w' => Rv 172 22 ls (vts v [.int n3]) w') (xnone)) := R_calV (z := 1199) (r := [.int n3]) Q172 (by decide +kernel) rfl rfl Q164 rfl rfl rfl
theorem e172_22 {ls : zL} {st : List Value} {w : zW} {x : Int32} : Rv 172 22 ls (.int x :: st) w = if x = 0 then Rv 172 31 ls st w else Rv 172 25 ls st w := R_f0eq Q172 (by decide +kernel) rfl rfl
theorem e172_25 {ls : zL} {st : List Value} {w : zW} : Rv 172 25 ls st w = Rv 172 26 ls (.int 1 :: st) w := R_con Q172 (by decide +kernel) rfl (by decide)
theorem e172_26 {ls : zL} {st : List Value} {w : zW} : Rv 172 26 ls st w = ldI ls 3 fun x => Rv 172 27 ls (.int x :: st) w := R_ldI Q172 (by decide +kernel) rfl
theorem e172_27 {ls : zL} {st : List Value} {w : zW} {x y : Int32} : Rv 172 27 ls (.int y :: .int x :: st) w = Rv 172 28 ls (.int (x <<< (y &&& 31)) :: st) w := R_next Q172 (by decide +kernel) rfl
theorem e172_28 {ls : zL} {st : List Value} {w : zW} : Rv 172 28 ls st w = Rv 172 32 ls st w := R_go Q172 (by decide +kernel) rfl rfl
theorem e172_31 {ls : zL} {st : List Value} {w : zW} : Rv 172 31 ls st w = Rv 172 32 ls (.int 0 :: st) w := R_con Q172 (by decide +kernel) rfl (by decide)
theorem e172_32 {ls : zL} {st : List Value} {w : zW} {x y : Int32} : Rv 172 32 ls (.int y :: .int x :: st) w = Rv 172 33 ls (.int (x ||| y) :: st) w := R_next Q172 (by decide +kernel) rfl
theorem e172_33 {ls : zL} {st : List Value} {w : zW} {x : Int32} : Rv 172 33 ls (.int x :: st) w = lst ls 2 (some (.int x)) fun l => Rv 172 34 l st w := R_st Q172 (by decide +kernel) rfl
theorem e172_34 {ls : zL} {st : List Value} {w : zW} : Rv 172 34 ls st w = ldI ls 3 fun x => lst ls 3 (some (.int (x + 1))) fun l => Rv 172 37 l st w := R_iinc Q172 (by decide +kernel) (by decide)
theorem e172_37 {ls : zL} {st : List Value} {w : zW} : Rv 172 37 ls st w = Rv 172 4 ls st w := R_go Q172 (by decide +kernel) rfl rfl
theorem e172_40 {ls : zL} {st : List Value} {w : zW} : Rv 172 40 ls st w = ldI ls 2 fun x => Rv 172 41 ls (.int x :: st) w := R_ldI Q172 (by decide +kernel) rfl
theorem e172_41 {ls : zL} {w : zW} {x : Int32} : Rv 172 41 ls [.int x] w = some (.inl (some (.int x)), w) := R_retI Q172 (by decide +kernel) rfl
/-! MasterPinsModel.doorsRightFor -/
theorem e173_0 {ls : zL} {st : List Value} {w : zW} : Rv 173 0 ls st w = Rv 173 1 ls (.int 0 :: st) w := R_con Q173 (by decide +kernel) rfl (by decide)
theorem e173_1 {ls : zL} {st : List Value} {w : zW} {x : Int32} : Rv 173 1 ls (.int x :: st) w = lst ls 2 (some (.int x)) fun l => Rv 173 2 l st w := R_st Q173 (by decide +kernel) rfl
theorem e173_2 {ls : zL} {st : List Value} {w : zW} : Rv 173 2 ls st w = Rv 173 3 ls (.int 0 :: st) w := R_con Q173 (by decide +kernel) rfl (by decide)
theorem e173_3 {ls : zL} {st : List Value} {w : zW} {x : Int32} : Rv 173 3 ls (.int x :: st) w = lst ls 3 (some (.int x)) fun l => Rv 173 4 l st w := R_st Q173 (by decide +kernel) rfl
theorem h173_4 {ls : zL} {st : List Value} {w : zW} : Rv 173 4 ls st w = ldI ls 3 fun x => Rv 173 5 ls (.int x :: st) w := R_ldI Q173 (by decide +kernel) rfl
theorem e173_5 {ls : zL} {st : List Value} {w : zW} : Rv 173 5 ls st w = ldA ls 0 fun x => Rv 173 6 ls (x :: st) w := R_ldA Q173 (by decide +kernel) rfl
theorem e173_6 {ls : zL} {st : List Value} {w : zW} {a : Nat} : Rv 173 6 ls (.ref a :: st) w = gF w a 6 0 fun v => Rv 173 9 ls (v :: st) w := R_gF (z := 1070) Q173 (by decide +kernel) rfl
theorem e173_9 {ls : zL} {st : List Value} {w : zW} : Rv 173 9 ls st w = Rv 173 11 ls (.int 6 :: st) w := R_con Q173 (by decide +kernel) rfl (by decide)
theorem e173_11 {ls : zL} {st : List Value} {w : zW} {a : Nat} {x : Int32} : Rv 173 11 ls (.int x :: .ref a :: st) w = gI w a 0 8 x fun v => Rv 173 12 ls (.int v :: st) w := R_iald Q173 (by decide +kernel)
theorem e173_12 {ls : zL} {st : List Value} {w : zW} {x y : Int32} : Rv 173 12 ls (.int y :: .int x :: st) w = if x < y then Rv 173 15 ls st w else Rv 173 35 ls st w := R_fige Q173 (by decide +kernel) rfl rfl
theorem e173_15 {ls : zL} {st : List Value} {w : zW} : Rv 173 15 ls st w = ldI ls 2 fun x => Rv 173 16 ls (.int x :: st) w := R_ldI Q173 (by decide +kernel) rfl
theorem e173_16 {ls : zL} {st : List Value} {w : zW} : Rv 173 16 ls st w = ldA ls 0 fun x => Rv 173 17 ls (x :: st) w := R_ldA Q173 (by decide +kernel) rfl
theorem e173_17 {ls : zL} {st : List Value} {w : zW} : Rv 173 17 ls st w = ldI ls 3 fun x => Rv 173 18 ls (.int x :: st) w := R_ldI Q173 (by decide +kernel) rfl
theorem e173_18 {ls : zL} {w : zW} {n1 : Int32} {a0 : Nat} {n2 : Int32} : Rv 173 18 ls [.int n1, .ref a0, .int n2] w = hO w a0 6 (cal (Rv 158 0 [some (.ref a0), some (.int n1), none] [] w) (fun v w' => Rv 173 21 ls (vts v [.int n2]) w') (xnone)) := R_calV (z := 1239) (r := [.int n2]) Q173 (by decide +kernel) rfl rfl Q158 rfl rfl rfl
theorem e173_21 {ls : zL} {st : List Value} {w : zW} : Rv 173 21 ls st w = ldI ls 1 fun x => Rv 173 22 ls (.int x :: st) w := R_ldI Q173 (by decide +kernel) rfl
theorem e173_22 {ls : zL} {st : List Value} {w : zW} {x y : Int32} : Rv 173 22 ls (.int y :: .int x :: st) w = Rv 173 23 ls (.int (x >>> (y &&& 31)) :: st) w := R_next Q173 (by decide +kernel) rfl
theorem e173_23 {ls : zL} {st : List Value} {w : zW} : Rv 173 23 ls st w = Rv 173 24 ls (.int 1 :: st) w := R_con Q173 (by decide +kernel) rfl (by decide)
theorem e173_24 {ls : zL} {st : List Value} {w : zW} {x y : Int32} : Rv 173 24 ls (.int y :: .int x :: st) w = Rv 173 25 ls (.int (x &&& y) :: st) w := R_next Q173 (by decide +kernel) rfl
theorem e173_25 {ls : zL} {st : List Value} {w : zW} : Rv 173 25 ls st w = ldI ls 3 fun x => Rv 173 26 ls (.int x :: st) w := R_ldI Q173 (by decide +kernel) rfl
theorem e173_26 {ls : zL} {st : List Value} {w : zW} {x y : Int32} : Rv 173 26 ls (.int y :: .int x :: st) w = Rv 173 27 ls (.int (x <<< (y &&& 31)) :: st) w := R_next Q173 (by decide +kernel) rfl
theorem e173_27 {ls : zL} {st : List Value} {w : zW} {x y : Int32} : Rv 173 27 ls (.int y :: .int x :: st) w = Rv 173 28 ls (.int (x ||| y) :: st) w := R_next Q173 (by decide +kernel) rfl
theorem e173_28 {ls : zL} {st : List Value} {w : zW} {x : Int32} : Rv 173 28 ls (.int x :: st) w = lst ls 2 (some (.int x)) fun l => Rv 173 29 l st w := R_st Q173 (by decide +kernel) rfl
theorem e173_29 {ls : zL} {st : List Value} {w : zW} : Rv 173 29 ls st w = ldI ls 3 fun x => lst ls 3 (some (.int (x + 1))) fun l => Rv 173 32 l st w := R_iinc Q173 (by decide +kernel) (by decide)
theorem e173_32 {ls : zL} {st : List Value} {w : zW} : Rv 173 32 ls st w = Rv 173 4 ls st w := R_go Q173 (by decide +kernel) rfl rfl
theorem e173_35 {ls : zL} {st : List Value} {w : zW} : Rv 173 35 ls st w = ldI ls 2 fun x => Rv 173 36 ls (.int x :: st) w := R_ldI Q173 (by decide +kernel) rfl
theorem e173_36 {ls : zL} {w : zW} {x : Int32} : Rv 173 36 ls [.int x] w = some (.inl (some (.int x)), w) := R_retI Q173 (by decide +kernel) rfl
/-! MasterPinsModel.begins -/
theorem e174_0 {ls : zL} {st : List Value} {w : zW} : Rv 174 0 ls st w = ldA ls 0 fun x => Rv 174 1 ls (x :: st) w := R_ldA Q174 (by decide +kernel) rfl
theorem e174_1 {ls : zL} {st : List Value} {w : zW} : Rv 174 1 ls st w = ldI ls 1 fun x => Rv 174 2 ls (.int x :: st) w := R_ldI Q174 (by decide +kernel) rfl
theorem e174_2 {ls : zL} {st : List Value} {w : zW} : Rv 174 2 ls st w = Rv 174 3 ls (.int 2 :: st) w := R_con Q174 (by decide +kernel) rfl (by decide)
theorem e174_3 {ls : zL} {st : List Value} {w : zW} : Rv 174 3 ls st w = Rv 174 4 ls (.int 4 :: st) w := R_con Q174 (by decide +kernel) rfl (by decide)
theorem e174_4 {ls : zL} {w : zW} {n1 : Int32} {n2 : Int32} {n3 : Int32} {a4 : Nat} : Rv 174 4 ls [.int n1, .int n2, .int n3, .ref a4] w = cal (Rv 141 0 [some (.int n3), some (.int n2), some (.int n1)] [] w) (fun v w' => Rv 174 7 ls (vts v [.ref a4]) w') (xnone) := R_calS (z := 1119) (kd := 1) (n := 3) Q174 (by decide +kernel) rfl (Or.inl rfl) (Nat.le_of_ble_eq_true rfl) rfl Q141 rfl rfl rfl
theorem e174_7 {ls : zL} {st : List Value} {w : zW} {x : Int32} : Rv 174 7 ls (.int x :: st) w = if x = 0 then Rv 174 24 ls st w else Rv 174 10 ls st w := R_f0eq Q174 (by decide +kernel) rfl rfl
theorem e174_10 {ls : zL} {st : List Value} {w : zW} : Rv 174 10 ls st w = ldI ls 2 fun x => Rv 174 11 ls (.int x :: st) w := R_ldI Q174 (by decide +kernel) rfl
theorem e174_11 {ls : zL} {st : List Value} {w : zW} : Rv 174 11 ls st w = Rv 174 12 ls (.int 2 :: st) w := R_con Q174 (by decide +kernel) rfl (by decide)
theorem e174_12 {ls : zL} {st : List Value} {w : zW} : Rv 174 12 ls st w = Rv 174 14 ls (.int 6 :: st) w := R_con Q174 (by decide +kernel) rfl (by decide)
theorem e174_14 {ls : zL} {w : zW} {n1 : Int32} {n2 : Int32} {n3 : Int32} {a4 : Nat} : Rv 174 14 ls [.int n1, .int n2, .int n3, .ref a4] w = cal (Rv 141 0 [some (.int n3), some (.int n2), some (.int n1)] [] w) (fun v w' => Rv 174 17 ls (vts v [.ref a4]) w') (xnone) := R_calS (z := 1119) (kd := 1) (n := 3) Q174 (by decide +kernel) rfl (Or.inl rfl) (Nat.le_of_ble_eq_true rfl) rfl Q141 rfl rfl rfl
theorem e174_17 {ls : zL} {st : List Value} {w : zW} {x : Int32} : Rv 174 17 ls (.int x :: st) w = if x = 0 then Rv 174 24 ls st w else Rv 174 20 ls st w := R_f0eq Q174 (by decide +kernel) rfl rfl
theorem e174_20 {ls : zL} {st : List Value} {w : zW} : Rv 174 20 ls st w = Rv 174 21 ls (.int 1 :: st) w := R_con Q174 (by decide +kernel) rfl (by decide)
theorem e174_21 {ls : zL} {st : List Value} {w : zW} : Rv 174 21 ls st w = Rv 174 25 ls st w := R_go Q174 (by decide +kernel) rfl rfl
theorem e174_24 {ls : zL} {st : List Value} {w : zW} : Rv 174 24 ls st w = Rv 174 25 ls (.int 0 :: st) w := R_con Q174 (by decide +kernel) rfl (by decide)
theorem e174_25 {ls : zL} {st : List Value} {w : zW} : Rv 174 25 ls st w = Rv 174 26 ls (.int 1 :: st) w := R_con Q174 (by decide +kernel) rfl (by decide)
theorem e174_26 {ls : zL} {st : List Value} {w : zW} : Rv 174 26 ls st w = Rv 174 27 ls (.int 1 :: st) w := R_con Q174 (by decide +kernel) rfl (by decide)
theorem e174_27 {ls : zL} {w : zW} {n1 : Int32} {n2 : Int32} {n3 : Int32} {a0 : Nat} : Rv 174 27 ls [.int n1, .int n2, .int n3, .ref a0] w = hO w a0 6 (cal (Rv 142 0 [some (.ref a0), some (.int n3), some (.int n2), some (.int n1)] [] w) (fun v w' => Rv 174 30 ls (vts v []) w') (xnone)) := R_calV (z := 1122) (r := []) Q174 (by decide +kernel) rfl rfl Q142 rfl rfl rfl
theorem e174_30 {ls : zL} {st : List Value} {w : zW} {x : Int32} : Rv 174 30 ls (.int x :: st) w = if x = 0 then Rv 174 35 ls st w else Rv 174 33 ls st w := R_f0eq Q174 (by decide +kernel) rfl rfl
theorem e174_33 {ls : zL} {st : List Value} {w : zW} : Rv 174 33 ls st w = Rv 174 34 ls (.int 0 :: st) w := R_con Q174 (by decide +kernel) rfl (by decide)
theorem e174_34 {ls : zL} {w : zW} {x : Int32} : Rv 174 34 ls [.int x] w = some (.inl (some (.int x)), w) := R_retI Q174 (by decide +kernel) rfl
theorem e174_35 {ls : zL} {st : List Value} {w : zW} : Rv 174 35 ls st w = ldI ls 3 fun x => Rv 174 36 ls (.int x :: st) w := R_ldI Q174 (by decide +kernel) rfl
theorem e174_36 {ls : zL} {st : List Value} {w : zW} {x : Int32} : Rv 174 36 ls (.int x :: st) w = if x = 0 then Rv 174 43 ls st w else Rv 174 39 ls st w := R_f0eq Q174 (by decide +kernel) rfl rfl
theorem e174_39 {ls : zL} {st : List Value} {w : zW} : Rv 174 39 ls st w = ldA ls 0 fun x => Rv 174 40 ls (x :: st) w := R_ldA Q174 (by decide +kernel) rfl
theorem e174_40 {ls : zL} {w : zW} {a0 : Nat} : Rv 174 40 ls [.ref a0] w = hO w a0 6 (cal (Rv 143 0 [some (.ref a0), none] [] w) (fun v w' => Rv 174 43 ls (vts v []) w') (xnone)) := R_calV (z := 1126) (r := []) Q174 (by decide +kernel) rfl rfl Q143 rfl rfl rfl
theorem e174_43 {ls : zL} {st : List Value} {w : zW} : Rv 174 43 ls st w = ldA ls 0 fun x => Rv 174 44 ls (x :: st) w := R_ldA Q174 (by decide +kernel) rfl
theorem e174_44 {ls : zL} {st : List Value} {w : zW} {a : Nat} : Rv 174 44 ls (.ref a :: st) w = gF w a 6 0 fun v => Rv 174 47 ls (v :: st) w := R_gF (z := 1070) Q174 (by decide +kernel) rfl
theorem e174_47 {ls : zL} {st : List Value} {w : zW} : Rv 174 47 ls st w = Rv 174 49 ls (.int 6 :: st) w := R_con Q174 (by decide +kernel) rfl (by decide)
theorem e174_49 {ls : zL} {st : List Value} {w : zW} {a : Nat} {x : Int32} : Rv 174 49 ls (.int x :: .ref a :: st) w = gI w a 0 8 x fun v => Rv 174 50 ls (.int v :: st) w := R_iald Q174 (by decide +kernel)
theorem e174_50 {ls : zL} {st : List Value} {w : zW} {x : Int32} : Rv 174 50 ls (.int x :: st) w = lst ls 4 (some (.int x)) fun l => Rv 174 52 l st w := R_st Q174 (by decide +kernel) rfl
theorem e174_52 {ls : zL} {st : List Value} {w : zW} : Rv 174 52 ls st w = ldA ls 0 fun x => Rv 174 53 ls (x :: st) w := R_ldA Q174 (by decide +kernel) rfl
theorem e174_53 {ls : zL} {st : List Value} {w : zW} {a : Nat} : Rv 174 53 ls (.ref a :: st) w = gF w a 6 0 fun v => Rv 174 56 ls (v :: st) w := R_gF (z := 1070) Q174 (by decide +kernel) rfl
theorem e174_56 {ls : zL} {st : List Value} {w : zW} : Rv 174 56 ls st w = Rv 174 57 ls (.int 0 :: st) w := R_con Q174 (by decide +kernel) rfl (by decide)
theorem e174_57 {ls : zL} {st : List Value} {w : zW} : Rv 174 57 ls st w = ldI ls 1 fun x => Rv 174 58 ls (.int x :: st) w := R_ldI Q174 (by decide +kernel) rfl
theorem e174_58 {ls : zL} {st : List Value} {w : zW} {a : Nat} {x y : Int32} : Rv 174 58 ls (.int y :: .int x :: .ref a :: st) w = pI w a 0 x y fun w' => Rv 174 59 ls st w' := R_iast Q174 (by decide +kernel)
theorem e174_59 {ls : zL} {st : List Value} {w : zW} : Rv 174 59 ls st w = ldA ls 0 fun x => Rv 174 60 ls (x :: st) w := R_ldA Q174 (by decide +kernel) rfl
theorem e174_60 {ls : zL} {st : List Value} {w : zW} {a : Nat} : Rv 174 60 ls (.ref a :: st) w = gF w a 6 0 fun v => Rv 174 63 ls (v :: st) w := R_gF (z := 1070) Q174 (by decide +kernel) rfl
theorem e174_63 {ls : zL} {st : List Value} {w : zW} : Rv 174 63 ls st w = Rv 174 64 ls (.int 1 :: st) w := R_con Q174 (by decide +kernel) rfl (by decide)
theorem e174_64 {ls : zL} {st : List Value} {w : zW} : Rv 174 64 ls st w = ldI ls 2 fun x => Rv 174 65 ls (.int x :: st) w := R_ldI Q174 (by decide +kernel) rfl
theorem e174_65 {ls : zL} {st : List Value} {w : zW} {a : Nat} {x y : Int32} : Rv 174 65 ls (.int y :: .int x :: .ref a :: st) w = pI w a 0 x y fun w' => Rv 174 66 ls st w' := R_iast Q174 (by decide +kernel)
theorem e174_66 {ls : zL} {st : List Value} {w : zW} : Rv 174 66 ls st w = Rv 174 67 ls (.int 5 :: st) w := R_con Q174 (by decide +kernel) rfl (by decide)
theorem e174_67 {ls : zL} {st : List Value} {w : zW} {x : Int32} : Rv 174 67 ls (.int x :: st) w = lst ls 5 (some (.int x)) fun l => Rv 174 69 l st w := R_st Q174 (by decide +kernel) rfl
theorem h174_69 {ls : zL} {st : List Value} {w : zW} : Rv 174 69 ls st w = ldI ls 5 fun x => Rv 174 71 ls (.int x :: st) w := R_ldI Q174 (by decide +kernel) rfl
theorem e174_71 {ls : zL} {st : List Value} {w : zW} : Rv 174 71 ls st w = Rv 174 73 ls (.int 115 :: st) w := R_con Q174 (by decide +kernel) rfl (by decide)
theorem e174_73 {ls : zL} {st : List Value} {w : zW} {x y : Int32} : Rv 174 73 ls (.int y :: .int x :: st) w = if x < y then Rv 174 76 ls st w else Rv 174 90 ls st w := R_fige Q174 (by decide +kernel) rfl rfl
theorem e174_76 {ls : zL} {st : List Value} {w : zW} : Rv 174 76 ls st w = ldA ls 0 fun x => Rv 174 77 ls (x :: st) w := R_ldA Q174 (by decide +kernel) rfl
theorem e174_77 {ls : zL} {st : List Value} {w : zW} {a : Nat} : Rv 174 77 ls (.ref a :: st) w = gF w a 6 0 fun v => Rv 174 80 ls (v :: st) w := R_gF (z := 1070) Q174 (by decide +kernel) rfl
theorem e174_80 {ls : zL} {st : List Value} {w : zW} : Rv 174 80 ls st w = ldI ls 5 fun x => Rv 174 82 ls (.int x :: st) w := R_ldI Q174 (by decide +kernel) rfl
theorem e174_82 {ls : zL} {st : List Value} {w : zW} : Rv 174 82 ls st w = Rv 174 83 ls (.int 0 :: st) w := R_con Q174 (by decide +kernel) rfl (by decide)
theorem e174_83 {ls : zL} {st : List Value} {w : zW} {a : Nat} {x y : Int32} : Rv 174 83 ls (.int y :: .int x :: .ref a :: st) w = pI w a 0 x y fun w' => Rv 174 84 ls st w' := R_iast Q174 (by decide +kernel)
theorem e174_84 {ls : zL} {st : List Value} {w : zW} : Rv 174 84 ls st w = ldI ls 5 fun x => lst ls 5 (some (.int (x + 1))) fun l => Rv 174 87 l st w := R_iinc Q174 (by decide +kernel) (by decide)
theorem e174_87 {ls : zL} {st : List Value} {w : zW} : Rv 174 87 ls st w = Rv 174 69 ls st w := R_go Q174 (by decide +kernel) rfl rfl
theorem e174_90 {ls : zL} {st : List Value} {w : zW} : Rv 174 90 ls st w = ldI ls 4 fun x => Rv 174 92 ls (.int x :: st) w := R_ldI Q174 (by decide +kernel) rfl
theorem e174_92 {ls : zL} {w : zW} {x : Int32} : Rv 174 92 ls [.int x] w = some (.inl (some (.int x)), w) := R_retI Q174 (by decide +kernel) rfl
