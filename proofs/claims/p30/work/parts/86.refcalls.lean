/-! the reference's calls -/
/-- what the reference holds -/
def RI (F A : Nat → Nat → Int32) (g : Nat → Int32) (u : Nat) (ks : Nat → Nat → Int32) (t : Nat) (tx : Nat → Int32) : Prop := A 91 = g ∧ F 90 2 = Int32.ofNat u ∧ kpt A u ks ∧ F 90 6 = Int32.ofNat t ∧ ∀ i, i < t → A 94 i = tx i
/-- the reference leaves the class alone -/
def frR (F A F' A' : Nat → Nat → Int32) : Prop := (∀ b, b < 90 → F' b = F b) ∧ (∀ b, b < 90 → A' b = A b)
section ZT
variable {G : zG} {c : Nat × Nat × Bool} {F A F1 A1 : Nat → Nat → Int32} {P : Nat → Nat} {W : Value} {O : Nat → Int64} {x y j k d e v m s : Int32} {p q a b i n t u w o : Nat} {g g' : Nat → Int32} {ks : Nat → Nat → Int32} {tx : Nat → Int32}
theorem ri_th (hI : RI F A g u ks t tx) (z : Int32) : RI (u2 F 90 3 z) A g u ks t tx ∧ frR F A (u2 F 90 3 z) A := by
  obtain ⟨h1, h2, h3, h4, h5⟩ := hI
  exact ⟨⟨h1, by rw [u2_at, upd_no (by omega)]; exact h2, h3, by rw [u2_at, upd_no (by omega)]; exact h4, h5⟩, fun b hb => u2_ne (by omega), fun b hb => rfl⟩
theorem ri_wk {A' : Nat → Nat → Int32} (hI : RI F A g u ks t tx) (hA : ∀ b, b ≠ 93 → A' b = A b) : RI F A' g u ks t tx ∧ frR F A F A' := by
  obtain ⟨h1, h2, h3, h4, h5⟩ := hI
  exact ⟨⟨by rw [hA 91 (by omega)]; exact h1, h2, fun j hj i hi => by rw [hA 92 (by omega)]; exact h3 j hj i hi, h4, fun i hi => by rw [hA 94 (by omega)]; exact h5 i hi⟩, fun b hb => rfl, fun b hb => hA b (by omega)⟩
/-- begins -/
def bgk (g : Nat → Int32) (a b k : Nat) : Nat → Int32 := fun i => if i = 0 then Int32.ofNat a else if i = 1 then Int32.ofNat b else if 5 ≤ i ∧ i < 5 + k then 0 else g i
end ZT
