/-! THE START: what the Statement gives, as a world -/
def zNN : List String := ["MASTER", "KEY", "DOOR", "PIN", "FIT", "LOSE", "FIND", "CUT", "RULE", "ALL"]
def zSX : List Nat := [62, 68, 71, 74, 77, 80, 83, 86, 89, 92]
def zNu : List Int32 := [1, 2, 1, 2, 1, 1, 1, 2, 2, 0]
def zSw : List Int32 := [1, 2, 3, 4, 5, 6, 7, 8, 9, 0]
def zBy : List (List Int32) := [[109, 97, 115, 116, 101, 114], [107, 101, 121], [100, 111, 111, 114], [112, 105, 110], [102, 105, 116], [108, 111, 115, 101], [102, 105, 110, 100], [99, 117, 116], [114, 117, 108, 101], [97, 108, 108]]
def zTw (i : Nat) : Term := .static "MasterPins$Word" (zNN.getD i "") "LMasterPins$Word;"
def zTs (i : Nat) : Term := .string "MasterPins$Word" (zSX.getD i 0)
def zTW : Term := .static "MasterPins$CommandText" "WORDS" "[LMasterPins$Word;"
def zTM : Term := .static "MasterPins$1" "$SwitchMap$MasterPins$Word" "[I"
/-- the words of the start -/
def zNa : List Cond := flatC (Jvm.Cond.and given_1 narrow_1)
theorem zNa_w : ∀ i, i < 10 → Cond.exactly (zTw i) "MasterPins$Word" ∈ zNa ∧ Cond.eq (.field (zTw i) "java/lang/Enum" "ordinal" "I") (.int (Int32.ofNat i)) ∈ zNa ∧ Cond.eq (.field (zTw i) "MasterPins$Word" "letters" "Ljava/lang/String;") (zTs i) ∈ zNa ∧ Cond.eq (.field (zTw i) "MasterPins$Word" "numbers" "I") (.int (zNu.getD i 0)) ∈ zNa := by decide +kernel
theorem zNa_s : ∀ i, i < 10 → Cond.exactly (zTs i) "java/lang/String" ∈ zNa ∧ Cond.eq (.field (zTs i) "java/lang/String" "coder" "B") (.int 0) ∈ zNa ∧ Cond.arrayOf (.field (zTs i) "java/lang/String" "value" "[B") .byte ∈ zNa ∧ Cond.eq (.length (.field (zTs i) "java/lang/String" "value" "[B")) (.int (Int32.ofNat (zBy.getD i []).length)) ∈ zNa := by decide +kernel
theorem zNa_b : ∀ i, i < 10 → ∀ j, j < (zBy.getD i []).length → Cond.eq (.elem (.field (zTs i) "java/lang/String" "value" "[B") (.int (Int32.ofNat j))) (.int ((zBy.getD i []).getD j 0)) ∈ zNa := by decide +kernel
theorem zNa_W : Cond.arrayOf zTW (.object "MasterPins$Word") ∈ zNa ∧ Cond.eq (.length zTW) (.int (Int32.ofNat 10)) ∈ zNa ∧ ∀ i, i < 10 → Cond.eq (.elem zTW (.int (Int32.ofNat i))) (zTw i) ∈ zNa := by decide +kernel
theorem zNa_M : Cond.arrayOf zTM .int ∈ zNa ∧ Cond.eq (.length zTM) (.int (Int32.ofNat 10)) ∈ zNa ∧ ∀ i, i < 10 → Cond.eq (.elem zTM (.int (Int32.ofNat i))) (.int (zSw.getD i 0)) ∈ zNa := by decide +kernel
theorem zNa_o : Cond.eq (.static "java/lang/String" "COMPACT_STRINGS" "Z") (.int 1) ∈ zNa ∧ Cond.isRef (.static "jdk/internal/util/Preconditions" "SIOOBE_FORMATTER" "Ljava/util/function/BiFunction;") ∈ zNa ∧ Cond.isRef (.static Bundle.tN "UNASSIGNED_STACK" Bundle.steD) ∈ zNa ∧ Cond.isRef (.static Bundle.tN "SUPPRESSED_SENTINEL" Bundle.listD) ∈ zNa := by decide +kernel
theorem zNa_c : ∀ E ∈ zEX, ∀ F ∈ zEX, E ≠ F → Cond.not (.castable E F) ∈ zNa := by decide +kernel
theorem zNa_x : ∀ k ∈ ([43, 205, 236, 239, 241] : List Nat), Cond.exactly (.string "MasterPins" k) "java/lang/String" ∈ zNa := by decide +kernel
