/-! the reference's calls that change something -/
/-- a range of numbers, as the reference asks -/
theorem in_y {a l h : Nat} (hl : l < 1000) (hh : h < 1000) (h1 : l ≤ a) (h2 : a ≤ h) : (Int32.ofNat l ≤ Int32.ofNat a ∧ Int32.ofNat a ≤ Int32.ofNat h) = True := by
  rw [io_le (by omega) (by omega), io_le (by omega) (by omega)]
  exact eq_true ⟨h1, h2⟩
/-- not between l and h -/
def out (x : Int32) (l h : Nat) : Prop := ∀ a, l ≤ a → a ≤ h → ¬ x = Int32.ofNat a
theorem out_or (x : Int32) (l h : Nat) : (∃ a, l ≤ a ∧ a ≤ h ∧ x = Int32.ofNat a) ∨ out x l h := by
  rcases Classical.em (∃ a, l ≤ a ∧ a ≤ h ∧ x = Int32.ofNat a) with e | e
  · exact Or.inl e
  · exact Or.inr fun a h1 h2 h3 => e ⟨a, h1, h2, h3⟩
theorem in_n {x : Int32} {l h : Nat} (hl : l < 1000) (hh : h < 1000) (e : out x l h) : (Int32.ofNat l ≤ x ∧ x ≤ Int32.ofNat h) = False := by
  refine eq_false fun ⟨h1, h2⟩ => ?_
  have h0 : ¬ x < 0 := fun hx => by
    have h3 := Int32.lt_of_lt_of_le hx (show (0 : Int32) ≤ Int32.ofNat l by rw [show (0 : Int32) = Int32.ofNat 0 from rfl, io_le (by omega) (by omega)]; omega)
    exact Int32.not_le.mpr h3 h1
  obtain ⟨a, ha, rfl⟩ := io_of h0
  rw [io_le (by omega) ha] at h1
  rw [io_le ha (by omega)] at h2
  exact e a h1 h2 rfl
theorem nob_out {x : Int32} {n : Nat} (h : nob x (n + 1)) : out x 0 n := fun a _ h2 => h a (by omega)
section ZT
variable {G : zG} {c : Nat × Nat × Bool} {F A F1 A1 : Nat → Nat → Int32} {P : Nat → Nat} {W : Value} {O : Nat → Int64} {x y j k d e v m s : Int32} {p q a b i n t u w o : Nat} {g g' : Nat → Int32} {ks : Nat → Nat → Int32} {tx : Nat → Int32}
theorem io00 : (Int32.ofNat 0 = 0) = True := eq_true rfl
end ZT
