/-! numbers as ints -/
theorem io_add {a b : Nat} : Int32.ofNat a + Int32.ofNat b = Int32.ofNat (a + b) := (Int32.ofNat_add a b).symm
theorem io_mul {a b : Nat} : Int32.ofNat a * Int32.ofNat b = Int32.ofNat (a * b) := (Int32.ofNat_mul a b).symm
theorem io_sub {a b : Nat} (h : b ≤ a) : Int32.ofNat a - Int32.ofNat b = Int32.ofNat (a - b) := by
  obtain ⟨k, rfl⟩ : ∃ k, a = k + b := ⟨a - b, by omega⟩
  rw [Int32.ofNat_add, Int32.add_sub_cancel, Nat.add_sub_cancel]
theorem io_sub1 {a : Nat} (h : 1 ≤ a) : Int32.ofNat a - 1 = Int32.ofNat (a - 1) := io_sub (b := 1) h
theorem bi_ok {p : Prop} [Decidable p] : ((if p then (1 : Int32) else 0) = 0 ∨ (if p then (1 : Int32) else 0) = 1) = True := by
  refine eq_true ?_
  split
  · exact Or.inr rfl
  · exact Or.inl rfl
theorem io_div {a b : Nat} (ha : a < 2147483648) (hb : b < 2147483648) : Int32.ofNat a / Int32.ofNat b = Int32.ofNat (a / b) := by
  have h1 := Nat.div_le_self a b
  refine Int32.toInt_inj.mp ?_
  rw [Int32.toInt_div, io_toInt ha, io_toInt hb, io_toInt (by omega), ← Int.ofNat_tdiv]
  generalize a / b = q at h1
  rw [Int.bmod_eq_of_le (by omega) (by omega)]
theorem io_rmi {a b : Nat} (ha : a < 2147483648) (hb : b < 2147483648) : rmi (Int32.ofNat a) (Int32.ofNat b) = Int32.ofNat (a % b) := by
  unfold rmi
  rw [io_div ha hb, io_mul, io_sub (Nat.div_mul_le_self a b), Nat.mod_eq_sub, Nat.mul_comm]
theorem io_ne0 {a : Nat} (h : 0 < a) (ha : a < 2147483648) : (Int32.ofNat a = 0) = False := by
  rw [show (0 : Int32) = Int32.ofNat 0 from rfl, io_eq ha (by omega)]
  exact eq_false (by omega)
theorem io_nm {a : Nat} (ha : a < 2147483648) : (Int32.ofNat a = -1) = False := by
  refine eq_false fun h => ?_
  have := congrArg Int32.toInt h
  rw [io_toInt ha, show (-1 : Int32).toInt = -1 from by decide] at this
  omega
theorem io_nn {a : Nat} (ha : a < 2147483648) : ¬ Int32.ofNat a = -1 := fun h => by rw [io_nm ha] at h; exact h
theorem io_mn {a : Nat} (ha : a < 2147483648) : (-1 = Int32.ofNat a) = False := by
  rw [@eq_comm Int32 (-1), io_nm ha]
theorem io_le {a b : Nat} (ha : a < 2147483648) (hb : b < 2147483648) : (Int32.ofNat a ≤ Int32.ofNat b) = (a ≤ b) := by
  rw [Int32.le_iff_toInt_le, io_toInt ha, io_toInt hb]
  exact propext Int.ofNat_le
theorem io_small {a b : Nat} (h : a < b) (hb : b < 2147483648) : a < 2147483648 := Nat.lt_trans h hb
/-- numbers below one million are small -/
theorem sml {a : Nat} (h : a < 1000000) : a < 2147483648 := by omega
/-- a loop whose state is a number's -/
theorem lpV {β : Type} (H : Nat → β) (n : Nat) (hs : ∀ k, k < n → H k = H (k + 1)) : H 0 = H n := by
  induction n with
  | zero => rfl
  | succ n ih => exact (ih fun k hk => hs k (Nat.lt_succ_of_lt hk)).trans (hs n (Nat.lt_succ_self n))
/-- all places below n are so -/
def allb (p : Nat → Bool) : Nat → Bool
  | 0 => true
  | n + 1 => allb p n && p n
theorem allb_iff {p : Nat → Bool} : ∀ {n : Nat}, allb p n = true ↔ ∀ k, k < n → p k = true
  | 0 => ⟨fun _ k hk => absurd hk (Nat.not_lt_zero k), fun _ => rfl⟩
  | n + 1 => by
    show (allb p n && p n) = true ↔ _
    rw [Bool.and_eq_true, allb_iff (n := n)]
    constructor
    · intro h k hk
      rcases Nat.lt_succ_iff_lt_or_eq.mp hk with hk | hk
      · exact h.1 k hk
      · subst hk; exact h.2
    · intro h
      exact ⟨fun k hk => h k (by omega), h n (by omega)⟩
theorem allb_cong {p q : Nat → Bool} {n : Nat} (h : ∀ k, k < n → p k = q k) : allb p n = allb q n := by
  induction n with
  | zero => rfl
  | succ n ih =>
    show (allb p n && p n) = (allb q n && q n)
    rw [ih fun k hk => h k (by omega), h n (by omega)]
theorem exb_iff {p : Nat → Bool} : ∀ {n : Nat}, exb p n = true ↔ ∃ k, k < n ∧ p k = true
  | 0 => ⟨fun h => Bool.noConfusion h, fun ⟨k, hk, _⟩ => absurd hk (Nat.not_lt_zero k)⟩
  | n + 1 => by
    show (exb p n || p n) = true ↔ _
    rw [Bool.or_eq_true, exb_iff (n := n)]
    constructor
    · rintro (⟨k, hk, h⟩ | h)
      · exact ⟨k, by omega, h⟩
      · exact ⟨n, by omega, h⟩
    · rintro ⟨k, hk, h⟩
      rcases Nat.lt_succ_iff_lt_or_eq.mp hk with hk | hk
      · exact Or.inl ⟨k, hk, h⟩
      · subst hk; exact Or.inr h
theorem exb_cong {p q : Nat → Bool} {n : Nat} (h : ∀ k, k < n → p k = q k) : exb p n = exb q n := by
  induction n with
  | zero => rfl
  | succ n ih =>
    show (exb p n || p n) = (exb q n || q n)
    rw [ih fun k hk => h k (by omega), h n (by omega)]
/-- sum of numbers -/
def sum (f : Nat → Nat) : Nat → Nat
  | 0 => 0
  | n + 1 => sum f n + f n
theorem sum_cong {f g : Nat → Nat} {n : Nat} (h : ∀ k, k < n → f k = g k) : sum f n = sum g n := by
  induction n with
  | zero => rfl
  | succ n ih =>
    show sum f n + f n = sum g n + g n
    rw [ih fun k hk => h k (by omega), h n (by omega)]
theorem sum_le {f : Nat → Nat} {c n : Nat} (h : ∀ k, k < n → f k ≤ c) : sum f n ≤ n * c := by
  induction n with
  | zero => exact Nat.zero_le _
  | succ n ih =>
    show sum f n + f n ≤ (n + 1) * c
    have := ih fun k hk => h k (by omega)
    have := h n (by omega)
    rw [Nat.succ_mul]
    omega
def prod (f : Nat → Nat) : Nat → Nat
  | 0 => 1
  | n + 1 => prod f n * f n
theorem prod_cong {f g : Nat → Nat} {n : Nat} (h : ∀ k, k < n → f k = g k) : prod f n = prod g n := by
  induction n with
  | zero => rfl
  | succ n ih =>
    show prod f n * f n = prod g n * g n
    rw [ih fun k hk => h k (by omega), h n (by omega)]
theorem cnt_sum (p : Nat → Bool) : ∀ n, cnt p n = sum (fun k => if p k = true then 1 else 0) n
  | 0 => rfl
  | n + 1 => by
    show (if p n = true then cnt p n + 1 else cnt p n) = sum _ n + (if p n = true then 1 else 0)
    rw [cnt_sum p n]
    split <;> rfl
/-- a count over chambers of six -/
theorem cnt_six (p : Nat → Bool) : ∀ m, cnt p (6 * m) = sum (fun c => cnt (fun q => p (6 * c + q)) 6) m
  | 0 => rfl
  | m + 1 => by
    show cnt p (6 * m + 6) = sum _ m + cnt (fun q => p (6 * m + q)) 6
    rw [cnt_split, cnt_six p m]
/-- the digit of a code for chamber c, of m chambers -/
def dig (m x c : Nat) : Nat := x / 10 ^ (m - 1 - c) % 10
theorem dig_lt (m x c : Nat) : dig m x c < 10 := Nat.mod_lt _ (by decide)
theorem ten_4 {n : Nat} (h : n ≤ 4) : 0 < 10 ^ n ∧ 10 ^ n ≤ 10000 := by
  have h1 := Nat.pow_le_pow_right (n := 10) (by omega) h
  exact ⟨Nat.pow_pos (by omega), h1⟩
