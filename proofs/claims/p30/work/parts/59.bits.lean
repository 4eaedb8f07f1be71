/-! bits of ints, counts of places -/
/-- bit i of x -/
def tb (x : Int32) (i : Nat) : Bool := x.toBitVec.getLsbD i
theorem tb_ext {x y : Int32} (h : ∀ i, i < 32 → tb x i = tb y i) : x = y := Int32.toBitVec_inj.mp (BitVec.eq_of_getLsbD_eq (fun i hi => h i hi))
theorem tb_or (x y : Int32) (i : Nat) : tb (x ||| y) i = (tb x i || tb y i) := by unfold tb; rw [Int32.toBitVec_or, BitVec.getLsbD_or]
theorem tb_and (x y : Int32) (i : Nat) : tb (x &&& y) i = (tb x i && tb y i) := by unfold tb; rw [Int32.toBitVec_and, BitVec.getLsbD_and]
theorem tb_xor (x y : Int32) (i : Nat) : tb (x ^^^ y) i = (tb x i ^^ tb y i) := by unfold tb; rw [Int32.toBitVec_xor, BitVec.getLsbD_xor]
theorem tb_hi {x : Int32} {i : Nat} (h : 32 ≤ i) : tb x i = false := BitVec.getLsbD_of_ge _ _ h
theorem tb_m1 : ∀ i, i < 32 → tb (-1) i = true := by decide +kernel
theorem tb_z (i : Nat) : tb 0 i = false := BitVec.getLsbD_zero
theorem tb_one1 : ∀ i, i < 32 → tb 1 i = decide (i = 0) := by decide +kernel
theorem tb_one : ∀ n, n < 32 → ∀ i, i < 32 → tb ((1 : Int32) <<< (Int32.ofNat n &&& 31)) i = decide (i = n) := by decide +kernel
theorem tb_c : ∀ n, n < 32 → ((Int32.ofNat n &&& 31).toBitVec.smod 32).toNat = n := by decide +kernel
theorem tb_shr {n : Nat} (hn : n < 32) (x : Int32) {i : Nat} (hi : i < 32) (h : n + i < 32) : tb (x >>> (Int32.ofNat n &&& 31)) i = tb x (n + i) := by
  unfold tb
  rw [Int32.toBitVec_shiftRight]
  show (x.toBitVec.sshiftRight ((Int32.ofNat n &&& 31).toBitVec.smod 32).toNat).getLsbD i = _
  rw [tb_c n hn, BitVec.getLsbD_sshiftRight]
  simp [hi, h]
theorem tb_shr2 {n : Nat} (hn : n < 32) (x : Int32) {i : Nat} (hi : i < 32) (h : ¬ n + i < 32) : tb (x >>> (Int32.ofNat n &&& 31)) i = tb x 31 := by
  unfold tb
  rw [Int32.toBitVec_shiftRight]
  show (x.toBitVec.sshiftRight ((Int32.ofNat n &&& 31).toBitVec.smod 32).toNat).getLsbD i = _
  rw [tb_c n hn, BitVec.getLsbD_sshiftRight, BitVec.msb_eq_getLsbD_last]
  simp [hi, h]
theorem tb_shl {n : Nat} (hn : n < 32) (x : Int32) {i : Nat} (hi : i < 32) : tb (x <<< (Int32.ofNat n &&& 31)) i = (decide (n ≤ i) && tb x (i - n)) := by
  unfold tb
  rw [Int32.toBitVec_shiftLeft]
  show (x.toBitVec <<< ((Int32.ofNat n &&& 31).toBitVec.smod 32).toNat).getLsbD i = _
  rw [tb_c n hn, BitVec.getLsbD_shiftLeft]
  by_cases h : n ≤ i
  · simp [hi, h, Nat.not_lt.mpr h]
  · simp [h, Nat.lt_of_not_le h]
theorem a1_tb (y : Int32) : y &&& 1 = if tb y 0 = true then 1 else 0 := by
  refine tb_ext fun i hi => ?_
  rw [tb_and, tb_one1 i hi]
  by_cases h : i = 0
  · subst h
    by_cases hy : tb y 0 = true
    · rw [if_pos hy, hy]; rfl
    · rw [if_neg hy, tb_z]
      cases h2 : tb y 0
      · rfl
      · exact absurd h2 hy
  · by_cases hy : tb y 0 = true
    · rw [if_pos hy, tb_one1 i hi]; simp [h]
    · rw [if_neg hy, tb_z]; simp [h]
/-- one bit of a set -/
theorem sh_tb {k : Nat} (hk : k < 32) (x : Int32) : x >>> (Int32.ofNat k &&& 31) &&& 1 = if tb x k = true then 1 else 0 := by
  rw [a1_tb, tb_shr hk x (by omega) (by omega)]
  rfl
/-- how many places below n have a property -/
def cnt (p : Nat → Bool) : Nat → Nat
  | 0 => 0
  | n + 1 => if p n = true then cnt p n + 1 else cnt p n
theorem cnt_le (p : Nat → Bool) : ∀ n, cnt p n ≤ n
  | 0 => Nat.le_refl _
  | n + 1 => by
    have h := cnt_le p n
    show (if p n = true then cnt p n + 1 else cnt p n) ≤ n + 1
    split <;> omega
theorem cnt_cong {p q : Nat → Bool} : ∀ {n : Nat}, (∀ k, k < n → p k = q k) → cnt p n = cnt q n
  | 0, _ => rfl
  | n + 1, h => by
    show (if p n = true then cnt p n + 1 else cnt p n) = (if q n = true then cnt q n + 1 else cnt q n)
    rw [cnt_cong (fun k hk => h k (by omega)), h n (by omega)]
theorem cnt_split (p : Nat → Bool) (m : Nat) : ∀ n, cnt p (m + n) = cnt p m + cnt (fun k => p (m + k)) n
  | 0 => rfl
  | n + 1 => by
    show (if p (m + n) = true then cnt p (m + n) + 1 else cnt p (m + n)) = cnt p m + (if p (m + n) = true then cnt (fun k => p (m + k)) n + 1 else cnt (fun k => p (m + k)) n)
    rw [cnt_split p m n]
    split <;> omega
theorem cnt_none {p : Nat → Bool} : ∀ {n : Nat}, (∀ k, k < n → p k = false) → cnt p n = 0
  | 0, _ => rfl
  | n + 1, h => by
    show (if p n = true then cnt p n + 1 else cnt p n) = 0
    rw [cnt_none (fun k hk => h k (by omega)), h n (by omega)]
    rfl
theorem cnt_all {p : Nat → Bool} : ∀ {n : Nat}, cnt p n = n → ∀ k, k < n → p k = true
  | 0, _ => fun k hk => absurd hk (Nat.not_lt_zero k)
  | n + 1, h => by
    have h1 := cnt_le p n
    have h2 : (if p n = true then cnt p n + 1 else cnt p n) = n + 1 := h
    intro k hk
    by_cases hp : p n = true
    · rw [if_pos hp] at h2
      rcases Nat.lt_succ_iff_lt_or_eq.mp hk with hk | hk
      · exact cnt_all (by omega) k hk
      · subst hk; exact hp
    · rw [if_neg hp] at h2; omega
/-- only the places below n count -/
theorem cnt_cut (p : Nat → Bool) {n m : Nat} (h : n ≤ m) : cnt (fun i => decide (i < n) && p i) m = cnt p n := by
  obtain ⟨k, rfl⟩ : ∃ k, m = n + k := ⟨m - n, by omega⟩
  rw [cnt_split, cnt_none (n := k) (fun j _ => by rw [decide_eq_false (by omega)]; rfl), Nat.add_zero]
  exact cnt_cong fun i hi => by simp [hi]
/-- the set of the places below n with a property -/
def bits (p : Nat → Bool) : Nat → Int32
  | 0 => 0
  | n + 1 => if p n = true then bits p n ||| (1 <<< (Int32.ofNat n &&& 31)) else bits p n
theorem bits_s (p : Nat → Bool) (n : Nat) : bits p (n + 1) = if p n = true then bits p n ||| (1 <<< (Int32.ofNat n &&& 31)) else bits p n := rfl
theorem tb_bits (p : Nat → Bool) : ∀ n, n ≤ 32 → ∀ i, i < 32 → tb (bits p n) i = (decide (i < n) && p i)
  | 0, _, i, _ => by
    rw [show bits p 0 = 0 from rfl, tb_z]
    simp
  | n + 1, h, i, hi => by
    have ih := tb_bits p n (by omega) i hi
    show tb (if p n = true then bits p n ||| (1 <<< (Int32.ofNat n &&& 31)) else bits p n) i = _
    by_cases hp : p n = true
    · rw [if_pos hp, tb_or, ih, tb_one n (by omega) i hi]
      by_cases e : i = n
      · subst e; simp [hp]
      · by_cases l : i < n
        · simp [l, e, show i < n + 1 by omega]
        · simp [l, e, show ¬ i < n + 1 by omega]
    · rw [if_neg hp, ih]
      by_cases e : i = n
      · subst e
        cases h2 : p i
        · simp
        · exact absurd h2 hp
      · by_cases l : i < n
        · simp [l, show i < n + 1 by omega]
        · simp [l, show ¬ i < n + 1 by omega]
theorem bits_of {x : Int32} {p : Nat → Bool} {n : Nat} (hn : n ≤ 32) (h : ∀ i, i < 32 → tb x i = (decide (i < n) && p i)) : x = bits p n :=
  tb_ext fun i hi => by rw [h i hi, tb_bits p n hn i hi]
theorem bits_cong {p q : Nat → Bool} : ∀ {n : Nat}, (∀ k, k < n → p k = q k) → bits p n = bits q n
  | 0, _ => rfl
  | n + 1, h => by
    show (if p n = true then bits p n ||| (1 <<< (Int32.ofNat n &&& 31)) else bits p n) = (if q n = true then bits q n ||| (1 <<< (Int32.ofNat n &&& 31)) else bits q n)
    rw [bits_cong (fun k hk => h k (by omega)), h n (by omega)]
/-- a set in more places -/
theorem bits_pad (p : Nat → Bool) {n m : Nat} (h : n ≤ m) (hm : m ≤ 32) : bits p n = bits (fun i => decide (i < n) && p i) m :=
  bits_of hm fun i hi => by
    rw [tb_bits p n (by omega) i hi]
    by_cases l : i < n
    · simp [l, show i < m by omega]
    · simp [l]
theorem bits_or (p q : Nat → Bool) {n : Nat} (h : n ≤ 32) : bits p n ||| bits q n = bits (fun i => p i || q i) n :=
  bits_of h fun i hi => by rw [tb_or, tb_bits p n h i hi, tb_bits q n h i hi]; cases decide (i < n) <;> simp
theorem bits_and (p q : Nat → Bool) {n : Nat} (h : n ≤ 32) : bits p n &&& bits q n = bits (fun i => p i && q i) n :=
  bits_of h fun i hi => by rw [tb_and, tb_bits p n h i hi, tb_bits q n h i hi]; cases decide (i < n) <;> simp
theorem bits_xor (p q : Nat → Bool) {n : Nat} (h : n ≤ 32) : bits p n ^^^ bits q n = bits (fun i => p i ^^ q i) n :=
  bits_of h fun i hi => by rw [tb_xor, tb_bits p n h i hi, tb_bits q n h i hi]; cases decide (i < n) <;> simp
theorem bits_less (p q : Nat → Bool) {n : Nat} (h : n ≤ 32) : bits p n &&& (bits q n ^^^ -1) = bits (fun i => p i && !q i) n :=
  bits_of h fun i hi => by rw [tb_and, tb_xor, tb_m1 i hi, tb_bits p n h i hi, tb_bits q n h i hi]; cases decide (i < n) <;> simp
theorem bits_one {k n : Nat} (hk : k < n) (h : n ≤ 32) : (1 : Int32) <<< (Int32.ofNat k &&& 31) = bits (fun i => decide (i = k)) n :=
  bits_of h fun i hi => by
    rw [tb_one k (by omega) i hi]
    by_cases l : i < n
    · simp [l]
    · simp [l, show i ≠ k by omega]
theorem bits_zero (n : Nat) : bits (fun _ => false) n = 0 := by
  induction n with
  | zero => rfl
  | succ n ih => exact ih
theorem bits_eq0 {p : Nat → Bool} {n : Nat} (h : n ≤ 32) : bits p n = 0 ↔ ∀ k, k < n → p k = false := by
  constructor
  · intro e k hk
    have := tb_bits p n h k (by omega)
    rw [e, tb_z] at this
    simpa [hk] using this.symm
  · intro e
    rw [bits_cong (q := fun _ => false) e, bits_zero]
/-- a subset -/
theorem bits_sub {p q : Nat → Bool} {n : Nat} (h : n ≤ 32) : bits p n &&& bits q n = bits p n ↔ ∀ k, k < n → p k = true → q k = true := by
  rw [bits_and p q h]
  constructor
  · intro e k hk hp
    have h1 := tb_bits (fun i => p i && q i) n h k (by omega)
    rw [e, tb_bits p n h k (by omega)] at h1
    simpa [hk, hp] using h1.symm
  · intro e
    refine bits_cong fun k hk => ?_
    cases hp : p k
    · rfl
    · rw [e k hk hp]; rfl
/-- the unsigned number of x -/
def un (x : Int32) : Nat := x.toBitVec.toNat
theorem tb_un (x : Int32) (i : Nat) : tb x i = (un x).testBit i := rfl
theorem un_lt (x : Int32) : un x < 4294967296 := x.toBitVec.isLt
theorem un_inj {x y : Int32} (h : un x = un y) : x = y := Int32.toBitVec_inj.mp (BitVec.eq_of_toNat_eq h)
theorem un_of {n : Nat} (h : n < 4294967296) : un (Int32.ofNat n) = n := by
  show (BitVec.ofNat 32 n).toNat = n
  rw [BitVec.toNat_ofNat, Nat.mod_eq_of_lt h]
theorem un_and (x y : Int32) : un (x &&& y) = un x &&& un y := by unfold un; rw [Int32.toBitVec_and, BitVec.toNat_and]
theorem un_add (x y : Int32) : un (x + y) = (un x + un y) % 4294967296 := by unfold un; rw [Int32.toBitVec_add, BitVec.toNat_add]
theorem un_sub (x y : Int32) : un (x - y) = (4294967296 - un y + un x) % 4294967296 := by unfold un; rw [Int32.toBitVec_sub, BitVec.toNat_sub]
theorem un_us {x k : Int32} {j : Nat} (h : ((Int32.toUInt32 k &&& Int32.toUInt32 31).toBitVec % 32).toNat = j) : un (us x k) = un x / 2 ^ j := by
  show (x.toUInt32 >>> (Int32.toUInt32 k &&& Int32.toUInt32 31)).toBitVec.toNat = _
  rw [UInt32.toBitVec_shiftRight]
  show (x.toUInt32.toBitVec >>> ((Int32.toUInt32 k &&& Int32.toUInt32 31).toBitVec % 32).toNat).toNat = _
  rw [h, BitVec.toNat_ushiftRight, Nat.shiftRight_eq_div_pow]
  rfl
/-- a mask, byte for byte -/
theorem by_and {k K : Nat} (hk : k < 256) (x : Nat) : x &&& (k + 256 * K) = (x % 256 &&& k) + 256 * (x / 256 &&& K) := by
  have h1 : (x &&& (k + 256 * K)) % 256 = x % 256 &&& k := by
    have := Nat.and_mod_two_pow (a := x) (b := k + 256 * K) (n := 8)
    rw [show 2 ^ 8 = 256 from rfl] at this
    rw [this, show (k + 256 * K) % 256 = k by omega]
  have h2 : (x &&& (k + 256 * K)) / 256 = x / 256 &&& K := by
    have := Nat.and_div_two_pow (a := x) (b := k + 256 * K) (n := 8)
    rw [show 2 ^ 8 = 256 from rfl] at this
    rw [this, show (k + 256 * K) / 256 = K by omega]
  omega
def bq (a : Nat) : Nat := a - (a / 2 &&& 85)
def br (a : Nat) : Nat := (a &&& 51) + (a / 4 &&& 51)
def bs (a : Nat) : Nat := (a + a / 16) % 16
theorem by_1 : ∀ a, a < 256 → ∀ t, t < 2 → (a / 2 + 128 * t) &&& 85 = a / 2 &&& 85 := by decide +kernel
theorem by_2 : ∀ a, a < 256 → ∀ t, t < 4 → (a / 4 + 64 * t) &&& 51 = a / 4 &&& 51 := by decide +kernel
theorem by_3 : ∀ a, a < 256 → (a / 2 &&& 85) ≤ a ∧ bq a < 256 ∧ br (bq a) < 256 ∧ br (bq a) % 16 ≤ 4 ∧ br (bq a) / 16 ≤ 4 ∧ bs (br (bq a)) ≤ 8 ∧ bs (br (bq a)) = cnt (fun i => a.testBit i) 8 := by decide +kernel
theorem q_step {a b M : Nat} (ha : a < 256) : a + 256 * b - ((a + 256 * b) / 2 &&& (85 + 256 * M)) = bq a + 256 * (b - (b / 2 &&& M)) := by
  have h1 := by_and (k := 85) (K := M) (by omega) ((a + 256 * b) / 2)
  rw [show (a + 256 * b) / 2 % 256 = a / 2 + 128 * (b % 2) by omega, by_1 a ha (b % 2) (by omega), show (a + 256 * b) / 2 / 256 = b / 2 by omega] at h1
  have h2 := (by_3 a ha).1
  have h3 : (b / 2 &&& M) ≤ b / 2 := Nat.and_le_left
  unfold bq
  omega
theorem r_step {a b M : Nat} (ha : a < 256) : ((a + 256 * b) &&& (51 + 256 * M)) + ((a + 256 * b) / 4 &&& (51 + 256 * M)) = br a + 256 * ((b &&& M) + (b / 4 &&& M)) := by
  have h1 := by_and (k := 51) (K := M) (by omega) ((a + 256 * b) / 4)
  rw [show (a + 256 * b) / 4 % 256 = a / 4 + 64 * (b % 4) by omega, by_2 a ha (b % 4) (by omega), show (a + 256 * b) / 4 / 256 = b / 4 by omega] at h1
  have h2 := by_and (k := 51) (K := M) (by omega) (a + 256 * b)
  rw [show (a + 256 * b) % 256 = a by omega, show (a + 256 * b) / 256 = b by omega] at h2
  unfold br
  omega
theorem s_step {a b M : Nat} (ha : a % 16 ≤ 4) (ha2 : a / 16 ≤ 4) (hb : b % 16 ≤ 4) : (a + 256 * b + (a + 256 * b) / 16) &&& (15 + 256 * M) = bs a + 256 * ((b + b / 16) &&& M) := by
  have h1 := by_and (k := 15) (K := M) (by omega) (a + 256 * b + (a + 256 * b) / 16)
  rw [show (a + 256 * b + (a + 256 * b) / 16) % 256 = a + a / 16 + 16 * (b % 16) by omega, show (a + 256 * b + (a + 256 * b) / 16) / 256 = b + b / 16 by omega] at h1
  have h2 : (a + a / 16 + 16 * (b % 16)) &&& 15 = (a + a / 16 + 16 * (b % 16)) % 2 ^ 4 := Nat.and_two_pow_sub_one_eq_mod _ 4
  unfold bs
  omega
/-- Integer.bitCount counts the bits -/
theorem bct_cnt (x : Int32) : bct x = Int32.ofNat (cnt (tb x) 32) := by
  obtain ⟨a0, a1, a2, a3, h0, h1, h2, h3, hx⟩ : ∃ a0 a1 a2 a3, a0 < 256 ∧ a1 < 256 ∧ a2 < 256 ∧ a3 < 256 ∧ un x = a0 + 256 * (a1 + 256 * (a2 + 256 * (a3 + 256 * 0))) := by
    have := un_lt x
    exact ⟨un x % 256, un x / 256 % 256, un x / 65536 % 256, un x / 16777216, by omega, by omega, by omega, by omega, by omega⟩
  obtain ⟨-, q0, r0, n0, m0, l0, c0⟩ := by_3 a0 h0
  obtain ⟨-, q1, r1, n1, m1, l1, c1⟩ := by_3 a1 h1
  obtain ⟨-, q2, r2, n2, m2, l2, c2⟩ := by_3 a2 h2
  obtain ⟨-, q3, r3, n3, m3, l3, c3⟩ := by_3 a3 h3
  have e1 : un (bc1 x) = bq a0 + 256 * (bq a1 + 256 * (bq a2 + 256 * (bq a3 + 256 * 0))) := by
    have e : un x - (un x / 2 &&& 1431655765) = bq a0 + 256 * (bq a1 + 256 * (bq a2 + 256 * (bq a3 + 256 * 0))) := by
      rw [hx, show (1431655765 : Nat) = 85 + 256 * (85 + 256 * (85 + 256 * (85 + 256 * 0))) from rfl, q_step h0, q_step h1, q_step h2, q_step h3]
      rfl
    have hl : (un x / 2 &&& 1431655765) ≤ un x / 2 := Nat.and_le_left
    have := un_lt x
    unfold bc1
    rw [un_sub, un_and, un_us (j := 1) (by decide), show un (1431655765 : Int32) = 1431655765 from by decide, show 2 ^ 1 = 2 from rfl]
    omega
  have e2 : un (bc2 (bc1 x)) = br (bq a0) + 256 * (br (bq a1) + 256 * (br (bq a2) + 256 * (br (bq a3) + 256 * 0))) := by
    unfold bc2
    rw [un_add, un_and, un_and, un_us (j := 2) (by decide), show un (858993459 : Int32) = 858993459 from by decide, show 2 ^ 2 = 4 from rfl, e1, show (858993459 : Nat) = 51 + 256 * (51 + 256 * (51 + 256 * (51 + 256 * 0))) from rfl, r_step q0, r_step q1, r_step q2, r_step q3]
    show (br (bq a0) + 256 * (br (bq a1) + 256 * (br (bq a2) + 256 * (br (bq a3) + 256 * 0)))) % 4294967296 = _
    omega
  have e3 : un (bc3 (bc2 (bc1 x))) = bs (br (bq a0)) + 256 * (bs (br (bq a1)) + 256 * (bs (br (bq a2)) + 256 * (bs (br (bq a3)) + 256 * 0))) := by
    unfold bc3
    rw [un_and, un_add, un_us (j := 4) (by decide), show un (252645135 : Int32) = 252645135 from by decide, show 2 ^ 4 = 16 from rfl, e2, Nat.mod_eq_of_lt (by omega), show (252645135 : Nat) = 15 + 256 * (15 + 256 * (15 + 256 * (15 + 256 * 0))) from rfl, s_step n0 m0 (by omega), s_step n1 m1 (by omega), s_step n2 m2 (by omega), s_step n3 m3 (by omega)]
    rfl
  have e4 : un (bc4 (bc3 (bc2 (bc1 x)))) = un (bc3 (bc2 (bc1 x))) + un (bc3 (bc2 (bc1 x))) / 256 := by
    unfold bc4
    rw [un_add, un_us (j := 8) (by decide), show 2 ^ 8 = 256 from rfl, Nat.mod_eq_of_lt (by omega)]
  have e5 : un (bc5 (bc4 (bc3 (bc2 (bc1 x))))) = un (bc4 (bc3 (bc2 (bc1 x)))) + un (bc4 (bc3 (bc2 (bc1 x)))) / 65536 := by
    unfold bc5
    rw [un_add, un_us (j := 16) (by decide), show 2 ^ 16 = 65536 from rfl, Nat.mod_eq_of_lt (by omega)]
  have e6 : un (bct x) = bs (br (bq a0)) + bs (br (bq a1)) + bs (br (bq a2)) + bs (br (bq a3)) := by
    unfold bct
    rw [un_and, show un (63 : Int32) = 2 ^ 6 - 1 from by decide, Nat.and_two_pow_sub_one_eq_mod, e5, e4, e3]
    generalize bs (br (bq a0)) = p0 at *
    generalize bs (br (bq a1)) = p1 at *
    generalize bs (br (bq a2)) = p2 at *
    generalize bs (br (bq a3)) = p3 at *
    have k1 : (p0 + 256 * (p1 + 256 * (p2 + 256 * (p3 + 256 * 0)))) / 256 = p1 + 256 * (p2 + 256 * p3) := by omega
    rw [k1]
    have k2 : (p0 + 256 * (p1 + 256 * (p2 + 256 * (p3 + 256 * 0))) + (p1 + 256 * (p2 + 256 * p3))) / 65536 = p2 + p3 + 256 * p3 := by omega
    rw [k2]
    omega
  have d0 : cnt (fun i => a0.testBit i) 8 = cnt (tb x) 8 := cnt_cong fun i hi => by
    rw [tb_un, show a0 = un x % 2 ^ 8 by omega, Nat.testBit_mod_two_pow]; simp [hi]
  have d1 : cnt (fun i => a1.testBit i) 8 = cnt (fun k => tb x (8 + k)) 8 := cnt_cong fun i hi => by
    rw [tb_un, show a1 = un x / 2 ^ 8 % 2 ^ 8 by omega, Nat.testBit_mod_two_pow, Nat.testBit_div_two_pow]; simp [hi, Nat.add_comm]
  have d2 : cnt (fun i => a2.testBit i) 8 = cnt (fun k => tb x (16 + k)) 8 := cnt_cong fun i hi => by
    rw [tb_un, show a2 = un x / 2 ^ 16 % 2 ^ 8 by omega, Nat.testBit_mod_two_pow, Nat.testBit_div_two_pow]; simp [hi, Nat.add_comm]
  have d3 : cnt (fun i => a3.testBit i) 8 = cnt (fun k => tb x (24 + k)) 8 := cnt_cong fun i hi => by
    rw [tb_un, show a3 = un x / 2 ^ 24 % 2 ^ 8 by omega, Nat.testBit_mod_two_pow, Nat.testBit_div_two_pow]; simp [hi, Nat.add_comm]
  have hs : cnt (tb x) 32 = cnt (tb x) 8 + cnt (fun k => tb x (8 + k)) 8 + cnt (fun k => tb x (16 + k)) 8 + cnt (fun k => tb x (24 + k)) 8 := by
    rw [show 32 = 24 + 8 from rfl, cnt_split, show 24 = 16 + 8 from rfl, cnt_split, show 16 = 8 + 8 from rfl, cnt_split]
  have hle := cnt_le (tb x) 32
  refine un_inj ?_
  rw [un_of (by omega), e6, hs, ← d0, ← d1, ← d2, ← d3, c0, c1, c2, c3]
theorem bct_bits (p : Nat → Bool) {n : Nat} (h : n ≤ 32) : bct (bits p n) = Int32.ofNat (cnt p n) := by
  rw [bct_cnt, ← cnt_cut p h]
  exact congrArg Int32.ofNat (cnt_cong fun i hi => tb_bits p n h i hi)
