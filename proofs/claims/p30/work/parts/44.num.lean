/-! numbers and loops -/
theorem io_toInt {k : Nat} (h : k < 2147483648) : (Int32.ofNat k).toInt = k := Int32.toInt_ofNat_of_lt h
theorem io_ix {k : Nat} (h : k < 2147483648) : (Int32.ofNat k).toNatClampNeg = k := by
  show (Int32.ofNat k).toInt.toNat = k
  rw [io_toInt h]
  rfl
theorem io_lt {a b : Nat} (ha : a < 2147483648) (hb : b < 2147483648) : (Int32.ofNat a < Int32.ofNat b) = (a < b) := by
  rw [Int32.lt_iff_toInt_lt, io_toInt ha, io_toInt hb]
  exact propext Int.ofNat_lt
theorem io_eq {a b : Nat} (ha : a < 2147483648) (hb : b < 2147483648) : (Int32.ofNat a = Int32.ofNat b) = (a = b) := by
  refine propext ⟨fun h => ?_, fun h => by rw [h]⟩
  have := congrArg Int32.toInt h
  rw [io_toInt ha, io_toInt hb] at this
  omega
theorem io_succ {k : Nat} : Int32.ofNat k + 1 = Int32.ofNat (k + 1) := (Int32.ofNat_add k 1).symm
theorem io_nonneg {k : Nat} (h : k < 2147483648) : (Int32.ofNat k < 0) = False := by
  have := io_lt h (b := 0) (by omega)
  rw [show (0 : Int32) = Int32.ofNat 0 from rfl, this]
  simp
theorem io_zin {k n : Nat} (h : k < 2147483648) (hk : k < n) : zin (Int32.ofNat k) n = true := by
  unfold zin
  refine decide_eq_true fun hc => ?_
  rcases hc with hc | hc
  · rw [io_nonneg h] at hc; exact hc
  · rw [io_ix h] at hc; omega
/-- a non-negative int is a number -/
theorem io_of {x : Int32} (h : ¬ x < 0) : ∃ k, k < 2147483648 ∧ x = Int32.ofNat k := by
  have h1 : 0 ≤ x.toInt := by
    rw [Int32.lt_iff_toInt_lt] at h
    have : (0 : Int32).toInt = 0 := rfl
    omega
  have h2 := Int32.toInt_lt x
  refine ⟨x.toInt.toNat, by omega, ?_⟩
  have : ((x.toInt.toNat : Nat) : Int) = x.toInt := Int.toNat_of_nonneg h1
  refine Int32.toInt_inj.mp ?_
  rw [io_toInt (by omega), this]
/-- f done at 0, 1 .. n - 1 -/
def fo {α : Type} (f : Nat → α → α) : Nat → α → α
  | 0, a => a
  | n + 1, a => f n (fo f n a)
/-- a counting loop -/
theorem lp {α β : Type} (H : Nat → α → β) (f : Nat → α → α) (n : Nat) (a : α) (hs : ∀ k, k < n → ∀ a, H k a = H (k + 1) (f k a)) : H 0 a = H n (fo f n a) := by
  induction n with
  | zero => rfl
  | succ n ih =>
    rw [ih fun k hk => hs k (Nat.lt_succ_of_lt hk)]
    exact hs n (Nat.lt_succ_self n) _
/-- a counting loop over what holds on the way -/
theorem lpI {α β : Type} (H : Nat → α → β) (f : Nat → α → α) (I : Nat → α → Prop) (n : Nat) (a : α) (h0 : I 0 a) (hi : ∀ k a, k < n → I k a → I (k + 1) (f k a)) (hs : ∀ k, k < n → ∀ a, I k a → H k a = H (k + 1) (f k a)) : H 0 a = H n (fo f n a) ∧ I n (fo f n a) := by
  induction n with
  | zero => exact ⟨rfl, h0⟩
  | succ n ih =>
    obtain ⟨h1, h2⟩ := ih (fun k a hk => hi k a (Nat.lt_succ_of_lt hk)) fun k hk => hs k (Nat.lt_succ_of_lt hk)
    exact ⟨h1.trans (hs n (Nat.lt_succ_self n) _ h2), hi n _ (Nat.lt_succ_self n) h2⟩
/-- a search: the first place below n where p holds, from k on -/
theorem lpS {β : Type} (H : Nat → β) (p : Nat → Prop) (n : Nat) (r : Nat → β) (hs : ∀ k, k < n → (¬ p k → H k = H (k + 1)) ∧ (p k → H k = r k)) : (∃ k, k < n ∧ p k ∧ (∀ j, j < k → ¬ p j) ∧ H 0 = r k) ∨ ((∀ j, j < n → ¬ p j) ∧ H 0 = H n) := by
  induction n with
  | zero => exact Or.inr ⟨fun j h => (by omega), rfl⟩
  | succ n ih =>
    rcases ih fun k hk => hs k (Nat.lt_succ_of_lt hk) with ⟨k, h1, h2⟩ | ⟨h1, h2⟩
    · exact Or.inl ⟨k, by omega, h2⟩
    · rcases Classical.em (p n) with hp | hp
      · exact Or.inl ⟨n, by omega, hp, h1, h2.trans ((hs n (by omega)).2 hp)⟩
      · refine Or.inr ⟨fun j hj => ?_, h2.trans ((hs n (by omega)).1 hp)⟩
        rcases Nat.lt_succ_iff_lt_or_eq.mp hj with h | h
        · exact h1 j h
        · subst h; exact hp
