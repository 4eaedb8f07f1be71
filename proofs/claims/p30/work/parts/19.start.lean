/-! THE START: what the Statement gives, as a world -/
/-- the words of the start -/
def zNa : List Cond := flatC (Jvm.Cond.and given_1 narrow_1)
theorem zNa_o : Cond.isRef (.static Bundle.tN "UNASSIGNED_STACK" Bundle.steD) ∈ zNa ∧ Cond.isRef (.static Bundle.tN "SUPPRESSED_SENTINEL" Bundle.listD) ∈ zNa := by decide +kernel
theorem zNa_x : ∀ k ∈ ([43, 205, 236, 239, 241] : List Nat), Cond.exactly (.string "MasterPins" k) "java/lang/String" ∈ zNa := by decide +kernel
def zcE (L : Nat) (xs : Nat → Int32) (k : Nat) : Option zE := if k = 1 then some (.inl (8, L, .inl xs)) else none
def zw0 (L : Nat) (xs : Nat → Int32) : zW := ((0, 0, false), zcE L xs)
def zcs (b : Nat) (_ : Nat) : Nat := b
