/-! the reference's works -/
theorem wrk_le (g : Nat → Int32) (d : Nat) : wrk g d ≤ 16 := cnt_le _ 16
def mer (g : Nat → Int32) (d : Nat) : Nat := 10000 * ((if xps g d = true then 0 else 20) + 16 - wrk g d) + 100 * chg g d + d
def mz (g : Nat → Int32) (d : Nat) : Int32 := if chg g d = 0 then -1 else Int32.ofNat (mer g d)
def wac (g : Nat → Int32) (d : Nat) : Nat := cnt (fun o => !decide (mz g o = -1) && decide (mz g o < mz g d)) (dn g)
def wat (g : Nat → Int32) (x : Int32) : Int32 := fst (fun d => !decide (mz g d = -1) && decide (Int32.ofNat (wac g d) = x)) 0 (dn g)
def mrA (A : Nat → Nat → Int32) (g : Nat → Int32) (k : Nat) : Nat → Nat → Int32 := fun b j => if b = 93 ∧ j < k then mz g j else A b j
theorem mrA_0 (A : Nat → Nat → Int32) (g : Nat → Int32) : mrA A g 0 = A := funext fun b => funext fun j => if_neg (by omega)
theorem mrA_s (A : Nat → Nat → Int32) (g : Nat → Int32) (k : Nat) : u2 (mrA A g k) 93 k (mz g k) = mrA A g (k + 1) := by
  funext b j
  unfold u2 mrA
  by_cases h : b = 93 ∧ j = k
  · obtain ⟨rfl, rfl⟩ := h
    rw [if_pos ⟨rfl, rfl⟩, if_pos ⟨rfl, by omega⟩]
  · rw [if_neg h]
    by_cases h2 : b = 93 ∧ j < k
    · rw [if_pos h2, if_pos ⟨h2.1, by omega⟩]
    · rw [if_neg h2, if_neg (by omega)]
theorem mrA_91 (A : Nat → Nat → Int32) (g : Nat → Int32) (k : Nat) {b : Nat} (h : b ≠ 93) : mrA A g k b = A b := funext fun j => if_neg (by omega)
theorem mrA_93 (A : Nat → Nat → Int32) (g : Nat → Int32) {k j : Nat} (h : j < k) : mrA A g k 93 j = mz g j := if_pos ⟨rfl, h⟩
theorem mer_io {b : Bool} {w n d : Nat} (hw : w ≤ 16) : (10000 : Int32) * ((20 : Int32) * (1 - (if b = true then 1 else 0)) + 16 - Int32.ofNat w) + 100 * Int32.ofNat n + Int32.ofNat d = Int32.ofNat (10000 * ((if b = true then 0 else 20) + 16 - w) + 100 * n + d) := by
  rw [show (10000 : Int32) = Int32.ofNat 10000 from rfl, show (100 : Int32) = Int32.ofNat 100 from rfl]
  cases b
  · rw [show (20 : Int32) * (1 - (if false = true then 1 else 0)) + 16 = Int32.ofNat 36 from by decide, io_sub (by omega), io_mul, io_mul, io_add, io_add]
    rfl
  · rw [show (20 : Int32) * (1 - (if true = true then 1 else 0)) + 16 = Int32.ofNat 16 from by decide, io_sub (by omega), io_mul, io_mul, io_add, io_add]
    rfl
section ZT
variable {G : zG} {c : Nat × Nat × Bool} {F A : Nat → Nat → Int32} {P : Nat → Nat} {W : Value} {O : Nat → Int64} {x y j k d e u v : Int32} {p q a b i n m t w : Nat}
/-- a work's value -/
def wov (g : Nat → Int32) (x : Int32) (w : Nat) : Int32 := if wat g x = -1 then -1 else if w = 0 then wat g x else if w = 1 then Int32.ofNat (chg g (wat g x).toNatClampNeg) else Int32.ofNat (wrk g (wat g x).toNatClampNeg)
theorem fst_or (p : Nat → Bool) : ∀ f k, fst p k f = -1 ∨ ∃ i, k ≤ i ∧ i < k + f ∧ fst p k f = Int32.ofNat i ∧ p i = true
  | 0, k => Or.inl rfl
  | f + 1, k => by
    show (if p k = true then Int32.ofNat k else fst p (k + 1) f) = -1 ∨ ∃ i, k ≤ i ∧ i < k + (f + 1) ∧ (if p k = true then Int32.ofNat k else fst p (k + 1) f) = Int32.ofNat i ∧ p i = true
    by_cases h : p k = true
    · rw [if_pos h]
      exact Or.inr ⟨k, Nat.le_refl _, by omega, rfl, h⟩
    · rw [if_neg h]
      rcases fst_or p f (k + 1) with e | ⟨i, h1, h2, h3, h4⟩
      · exact Or.inl e
      · exact Or.inr ⟨i, by omega, by omega, h3, h4⟩
end ZT
