/-! sets of cuts and of pins, in one int -/
theorem sum_cut {f : Nat → Nat} {n N : Nat} (h : n ≤ N) (h0 : ∀ k, n ≤ k → k < N → f k = 0) : sum f N = sum f n := by
  induction N with
  | zero => rw [show n = 0 by omega]
  | succ N ih =>
    by_cases e : n = N + 1
    · rw [e]
    · show sum f N + f N = sum f n
      rw [ih (by omega) fun k h1 h2 => h0 k h1 (by omega), h0 N (by omega) (by omega), Nat.add_zero]
theorem cnt_one {p : Nat → Bool} {a n : Nat} (ha : a < n) (hp : p a = true) (h : ∀ q, q < n → q ≠ a → p q = false) : cnt p n = 1 := by
  induction n with
  | zero => omega
  | succ n ih =>
    show (if p n = true then cnt p n + 1 else cnt p n) = 1
    by_cases e : a = n
    · subst e
      rw [if_pos hp, cnt_none fun k hk => h k (by omega) (by omega)]
    · rw [h n (by omega) (fun x => e x.symm), if_neg (by decide), ih (by omega) fun q h1 h2 => h q (by omega) h2]
theorem cnt_not (p : Nat → Bool) : ∀ n, cnt p n + cnt (fun k => !p k) n = n
  | 0 => rfl
  | n + 1 => by
    have h := cnt_not p n
    show (if p n = true then cnt p n + 1 else cnt p n) + (if (!p n) = true then cnt (fun k => !p k) n + 1 else cnt (fun k => !p k) n) = n + 1
    cases p n <;> simp <;> omega
/-- a code's cuts, as a set: place 6 c + cut -/
def ctb (m x i : Nat) : Bool := decide (i / 6 < m) && decide (dig m x (i / 6) = i % 6)
def pn24 (g : Nat → Int32) (d i : Nat) : Bool := decide (i / 6 < chn g) && pnb g d (i / 6) (i % 6)
theorem dig_l (m r : Nat) : dig (m + 1) r m = r % 10 := by
  unfold dig
  rw [show m + 1 - 1 - m = 0 by omega, Nat.pow_zero, Nat.div_one]
theorem dig_s {m r c : Nat} (hc : c < m) : dig (m + 1) r c = dig m (r / 10) c := by
  unfold dig
  rw [show m + 1 - 1 - c = (m - 1 - c) + 1 by omega, Nat.pow_succ, Nat.div_div_eq_div_mul, Nat.mul_comm 10]
theorem ofg_bits : ∀ (m r : Nat) (s : Int32), m ≤ 4 → r < 2147483648 → (∀ c, c < m → dig m r c < 6) → ofg m s (Int32.ofNat r) = s ||| bits (ctb m r) 24 := by
  intro m
  induction m with
  | zero =>
    intro r s _ _ _
    rw [bits_cong (q := fun _ => false) (fun i _ => by unfold ctb; rw [decide_eq_false (by omega)]; rfl), bits_zero, Int32.or_zero]
    rfl
  | succ m ih =>
    intro r s h4 hr hd
    have h6 : r % 10 < 6 := by rw [← dig_l m r]; exact hd m (by omega)
    show ofg m (s ||| (1 <<< (6 * Int32.ofNat m + rmi (Int32.ofNat r) 10 &&& 31))) (Int32.ofNat r / 10) = _
    rw [show (6 : Int32) * Int32.ofNat m = Int32.ofNat (6 * m) from io_mul (a := 6), show rmi (Int32.ofNat r) 10 = Int32.ofNat (r % 10) from io_rmi (b := 10) hr (by omega), show Int32.ofNat r / 10 = Int32.ofNat (r / 10) from io_div (b := 10) hr (by omega), io_add, bits_one (show 6 * m + r % 10 < 24 by omega) (by omega), ih (r / 10) _ (by omega) (by omega) (fun c hc => by rw [← dig_s hc]; exact hd c (by omega)), Int32.or_assoc, bits_or _ _ (by omega)]
    congr 1
    refine bits_cong fun i hi => ?_
    unfold ctb
    by_cases h1 : i / 6 < m
    · rw [decide_eq_false (show ¬ i = 6 * m + r % 10 by omega), decide_eq_true h1, decide_eq_true (show i / 6 < m + 1 by omega), dig_s h1]
      rfl
    · by_cases h2 : i / 6 = m
      · rw [decide_eq_false h1, decide_eq_true (show i / 6 < m + 1 by omega), h2, dig_l]
        have : decide (i = 6 * m + r % 10) = decide (r % 10 = i % 6) := decide_eq_decide.mpr (by omega)
        rw [this]
        simp
      · rw [decide_eq_false h1, decide_eq_false (show ¬ i / 6 < m + 1 by omega), decide_eq_false (show ¬ i = 6 * m + r % 10 by omega)]
        rfl
theorem ofg_0 {m r : Nat} (h4 : m ≤ 4) (hr : r < 2147483648) (hd : ∀ c, c < m → dig m r c < 6) : ofg m 0 (Int32.ofNat r) = bits (ctb m r) 24 := by
  rw [ofg_bits m r 0 h4 hr hd, Int32.zero_or]
/-- opening, by sets -/
theorem opn_bits {g : Nat → Int32} {x d : Nat} (hx : ∀ c, c < chn g → dig (chn g) x c < 6) (h4 : chn g ≤ 4) : (bits (ctb (chn g) x) 24 &&& bits (pn24 g d) 24 = bits (ctb (chn g) x) 24) = (opn g x d = true) := by
  refine propext ((bits_sub (by omega)).trans ?_)
  unfold opn
  rw [allb_iff]
  constructor
  · intro h c hc
    have h6 := hx c hc
    have := h (6 * c + dig (chn g) x c) (by omega) (by
      unfold ctb
      rw [show (6 * c + dig (chn g) x c) / 6 = c by omega, show (6 * c + dig (chn g) x c) % 6 = dig (chn g) x c by omega, decide_eq_true hc, decide_eq_true rfl]; rfl)
    unfold pn24 at this
    rw [show (6 * c + dig (chn g) x c) / 6 = c by omega, show (6 * c + dig (chn g) x c) % 6 = dig (chn g) x c by omega, decide_eq_true hc] at this
    exact this
  · intro h i hi hc
    unfold ctb at hc
    rw [Bool.and_eq_true, decide_eq_true_eq, decide_eq_true_eq] at hc
    unfold pn24
    rw [decide_eq_true hc.1, ← hc.2]
    exact h _ hc.1
/-- a count of pins, chamber by chamber -/
theorem cnt_ch {p : Nat → Bool} {m : Nat} (h4 : m ≤ 4) (h : ∀ i, i < 24 → m ≤ i / 6 → p i = false) : cnt p 24 = sum (fun c => cnt (fun q => p (6 * c + q)) 6) m := by
  rw [show 24 = 6 * 4 from rfl, cnt_six]
  exact sum_cut h4 fun k h1 h2 => cnt_none fun q hq => h _ (by omega) (by omega)
theorem dff_bits {m x y : Nat} (h4 : m ≤ 4) (hx : ∀ c, c < m → dig m x c < 6) : Int32.ofNat m - bct (bits (ctb m x) 24 &&& bits (ctb m y) 24) = Int32.ofNat (cnt (fun c => !decide (dig m x c = dig m y c)) m) := by
  have e : cnt (fun i => ctb m x i && ctb m y i) 24 = cnt (fun c => decide (dig m x c = dig m y c)) m := by
    rw [cnt_ch h4 (fun i _ h => by unfold ctb; rw [decide_eq_false (by omega)]; rfl), cnt_sum]
    refine sum_cong fun c hc => ?_
    have h6 := hx c hc
    by_cases e : dig m x c = dig m y c
    · rw [if_pos (decide_eq_true e)]
      refine cnt_one h6 ?_ fun q hq hne => ?_
      · unfold ctb
        rw [show (6 * c + dig m x c) / 6 = c by omega, show (6 * c + dig m x c) % 6 = dig m x c by omega, decide_eq_true hc, decide_eq_true rfl, ← e, decide_eq_true rfl]; rfl
      · unfold ctb
        rw [show (6 * c + q) / 6 = c by omega, show (6 * c + q) % 6 = q by omega, decide_eq_false (show ¬ dig m x c = q from fun h => hne h.symm)]
        simp
    · rw [if_neg (fun h => e (of_decide_eq_true h))]
      refine cnt_none fun q hq => ?_
      unfold ctb
      rw [show (6 * c + q) / 6 = c by omega, show (6 * c + q) % 6 = q by omega]
      by_cases h1 : dig m x c = q
      · rw [decide_eq_false (show ¬ dig m y c = q from fun h => e (h1.trans h.symm))]; simp
      · rw [decide_eq_false h1]; simp
  have hn := cnt_not (fun c => decide (dig m x c = dig m y c)) m
  rw [bits_and _ _ (by omega), bct_bits _ (by omega), e, io_sub (by omega)]
  congr 1
  omega
/-- the lowest bit -/
theorem nzz_b {y : Int32} {b : Nat} (hb : b ≤ 5) (h0 : ∀ i, i < b → tb y i = false) (h1 : tb y b = true) : lwk y ∧ nzz y = Int32.ofNat b := by
  have e : lwz y = Int32.ofNat (2 ^ b - 1) := by
    have hp : 2 ^ b ≤ 2 ^ 5 := Nat.pow_le_pow_right (by omega) hb
    have hp0 : 0 < 2 ^ b := Nat.pow_pos (by omega)
    have hm : un y % 2 ^ b = 0 := by
      refine Nat.eq_of_testBit_eq fun i => ?_
      rw [Nat.testBit_mod_two_pow, Nat.zero_testBit]
      by_cases hi : i < b
      · have := h0 i hi
        rw [tb_un] at this
        rw [this, Bool.and_false]
      · rw [decide_eq_false hi]; rfl
    have hq : un y / 2 ^ b % 2 = 1 := by
      have := h1
      rw [tb_un, Nat.testBit_eq_decide_div_mod_eq] at this
      exact of_decide_eq_true this
    have hy : un y = 2 ^ (b + 1) * (un y / 2 ^ b / 2) + 2 ^ b := by
      have a1 := Nat.div_add_mod (un y) (2 ^ b)
      have a2 := Nat.div_add_mod (un y / 2 ^ b) 2
      rw [hm, Nat.add_zero] at a1
      rw [hq] at a2
      rw [Nat.pow_succ, Nat.mul_assoc, ← Nat.mul_succ (2 ^ b), ← Nat.add_one, a2, a1]
    generalize hk : un y / 2 ^ b / 2 = k at hy
    have hlt := un_lt y
    have hy1 : un (y - 1) = 2 ^ (b + 1) * k + (2 ^ b - 1) := by
      rw [un_sub, show un (1 : Int32) = 1 from by decide, hy]
      rw [hy] at hlt
      generalize 2 ^ (b + 1) * k = z at hlt
      omega
    have hb1 : 2 ^ b < 2 ^ (b + 1) := Nat.pow_lt_pow_right (by omega) (by omega)
    refine tb_ext fun i hi => ?_
    unfold lwz
    rw [tb_and, tb_xor, tb_m1 i hi, tb_un y, tb_un (y - 1), hy1, hy, tb_un, un_of (by omega), Nat.testBit_two_pow_mul_add _ hb1, Nat.testBit_two_pow_mul_add _ (show 2 ^ b - 1 < 2 ^ (b + 1) by omega), Nat.testBit_two_pow_sub_one, Nat.testBit_two_pow]
    by_cases h : i < b + 1
    · rw [if_pos h, if_pos h]
      by_cases e : b = i
      · subst e; simp
      · simp [e]
    · rw [if_neg h, if_neg h, decide_eq_false (show ¬ i < b by omega)]
      cases k.testBit (i - (b + 1)) <;> rfl
  unfold lwk nzz
  rcases b with _ | _ | _ | _ | _ | _ | b
  · rw [e]; decide
  · rw [e]; decide
  · rw [e]; decide
  · rw [e]; decide
  · rw [e]; decide
  · rw [e]; decide
  · omega
theorem cut_nzz {m x k : Nat} (h4 : m ≤ 4) (hx : ∀ c, c < m → dig m x c < 6) (hk : k < m) : lwk (bits (ctb m x) 24 >>> (6 * Int32.ofNat k &&& 31)) ∧ cu (bits (ctb m x) 24) k = Int32.ofNat (dig m x k) := by
  have h6 := hx k hk
  have ht : ∀ i, i < 6 → tb (bits (ctb m x) 24 >>> (6 * Int32.ofNat k &&& 31)) i = decide (dig m x k = i) := fun i hi => by
    rw [show (6 : Int32) * Int32.ofNat k = Int32.ofNat (6 * k) from io_mul (a := 6), tb_shr (by omega) _ (by omega) (by omega), tb_bits _ 24 (by omega) _ (by omega), decide_eq_true (show 6 * k + i < 24 by omega)]
    unfold ctb
    rw [show (6 * k + i) / 6 = k by omega, show (6 * k + i) % 6 = i by omega, decide_eq_true hk]
    rfl
  exact nzz_b (show dig m x k ≤ 5 by omega) (fun i hi => by rw [ht i (by omega), decide_eq_false (by omega)]) (by rw [ht _ h6, decide_eq_true rfl])
theorem cut_lws {m x : Nat} (h4 : m ≤ 4) (hx : ∀ c, c < m → dig m x c < 6) : lws (bits (ctb m x) 24) m := fun k hk => (cut_nzz h4 hx hk).1
/-- the distance of two numbers -/
def dst (a b : Nat) : Nat := if a < b then b - a else a - b
theorem abz_io {a b : Nat} (ha : a < 1000) (hb : b < 1000) : abz (Int32.ofNat a - Int32.ofNat b) = Int32.ofNat (dst a b) := by
  unfold abz dst
  by_cases h : a < b
  · obtain ⟨k, rfl⟩ : ∃ k, b = a + 1 + k := ⟨b - (a + 1), by omega⟩
    have e : Int32.ofNat a - Int32.ofNat (a + 1 + k) = 0 - Int32.ofNat (1 + k) := by
      rw [show a + 1 + k = a + (1 + k) by omega, Int32.ofNat_add a (1 + k)]
      generalize Int32.ofNat a = u
      generalize Int32.ofNat (1 + k) = v
      rw [← Int32.sub_sub, Int32.sub_self]
    have hn : ¬ (0 : Int32) ≤ 0 - Int32.ofNat (1 + k) := by
      rw [Int32.le_iff_toInt_le, Int32.toInt_sub, io_toInt (by omega), show (0 : Int32).toInt = 0 from rfl, Int.bmod_eq_of_le (by omega) (by omega)]
      omega
    rw [if_pos h, e, if_neg hn, Int32.zero_sub, Int32.zero_sub, Int32.neg_neg]
    congr 1
    omega
  · have h0 : (0 : Int32) ≤ Int32.ofNat (a - b) := by rw [show (0 : Int32) = Int32.ofNat 0 from rfl, io_le (by omega) (by omega)]; omega
    rw [if_neg h, io_sub (by omega), if_pos h0]
theorem fo_io {f : Nat → Int32 → Int32} {v : Nat → Nat} {n : Nat} {a : Int32} (h0 : a = Int32.ofNat (v 0)) (h : ∀ k, k < n → f k (Int32.ofNat (v k)) = Int32.ofNat (v (k + 1))) : fo f n a = Int32.ofNat (v n) := by
  induction n with
  | zero => exact h0
  | succ n ih =>
    show f n (fo f n a) = _
    rw [ih fun k hk => h k (by omega), h n (by omega)]
theorem fo_eq {α : Type} {f : Nat → α → α} {v : Nat → α} {n : Nat} {a : α} (h0 : a = v 0) (h : ∀ k, k < n → f k (v k) = v (k + 1)) : fo f n a = v n := by
  induction n with
  | zero => exact h0
  | succ n ih =>
    show f n (fo f n a) = _
    rw [ih fun k hk => h k (by omega), h n (by omega)]
theorem dsz_io {m x y : Nat} (h4 : m ≤ 4) (hx : ∀ c, c < m → dig m x c < 6) (hy : ∀ c, c < m → dig m y c < 6) : dsz (bits (ctb m x) 24) (bits (ctb m y) 24) m = Int32.ofNat (sum (fun c => dst (dig m x c) (dig m y c)) m) :=
  fo_io rfl fun k hk => by
    have a1 := hx k hk
    have a2 := hy k hk
    rw [(cut_nzz h4 hx hk).2, (cut_nzz h4 hy hk).2, abz_io (by omega) (by omega), io_add]
    rfl
def mxn (f : Nat → Nat) : Nat → Nat
  | 0 => 0
  | n + 1 => if mxn f n < f n then f n else mxn f n
theorem mxn_lt {f : Nat → Nat} {r : Nat} : ∀ {n : Nat}, (r < mxn f n) ↔ ∃ k, k < n ∧ r < f k
  | 0 => ⟨fun h => absurd h (Nat.not_lt_zero r), fun ⟨k, hk, _⟩ => absurd hk (Nat.not_lt_zero k)⟩
  | n + 1 => by
    show r < (if mxn f n < f n then f n else mxn f n) ↔ _
    have ih := mxn_lt (f := f) (r := r) (n := n)
    constructor
    · intro h
      by_cases h1 : mxn f n < f n
      · rw [if_pos h1] at h; exact ⟨n, by omega, h⟩
      · rw [if_neg h1] at h
        obtain ⟨k, hk, h⟩ := ih.mp h
        exact ⟨k, by omega, h⟩
    · rintro ⟨k, hk, h⟩
      rcases Nat.lt_succ_iff_lt_or_eq.mp hk with hk | hk
      · have := ih.mpr ⟨k, hk, h⟩
        split <;> omega
      · subst hk
        split <;> omega
theorem mxn_le {f : Nat → Nat} {r : Nat} : ∀ {n : Nat}, (∀ k, k < n → f k ≤ r) → mxn f n ≤ r
  | 0, _ => Nat.zero_le r
  | n + 1, h => by
    show (if mxn f n < f n then f n else mxn f n) ≤ r
    have := mxn_le (n := n) fun k hk => h k (by omega)
    have := h n (by omega)
    split <;> omega
theorem gsz_io {m x : Nat} (h4 : m ≤ 4) (hx : ∀ c, c < m → dig m x c < 6) : gsz (bits (ctb m x) 24) m = Int32.ofNat (mxn (fun k => dst (dig m x (k + 1)) (dig m x k)) (m - 1)) :=
  fo_io rfl fun k hk => by
    have a1 := hx k (by omega)
    have a2 := hx (k + 1) (by omega)
    have a3 : mxn (fun k => dst (dig m x (k + 1)) (dig m x k)) k ≤ 6 := mxn_le fun j hj => by
      have b1 := hx j (by omega)
      have b2 := hx (j + 1) (by omega)
      unfold dst
      split <;> omega
    have a4 : dst (dig m x (k + 1)) (dig m x k) ≤ 6 := by unfold dst; split <;> omega
    rw [(cut_nzz h4 hx (show k < m by omega)).2, (cut_nzz h4 hx (show k + 1 < m by omega)).2, abz_io (by omega) (by omega)]
    unfold mxz
    show (if Int32.ofNat _ < Int32.ofNat _ then Int32.ofNat _ else Int32.ofNat _) = Int32.ofNat (if _ < _ then _ else _)
    simp only [io_lt (show mxn (fun k => dst (dig m x (k + 1)) (dig m x k)) k < 2147483648 by omega) (show dst (dig m x (k + 1)) (dig m x k) < 2147483648 by omega)]
    split <;> rfl
theorem tb_63 : ∀ i, i < 32 → tb 63 i = decide (i < 6) := by decide +kernel
/-- one chamber of a set -/
theorem inch (p : Nat → Bool) {k : Nat} (hk : k < 4) : bits p 24 >>> (6 * Int32.ofNat k &&& 31) &&& 63 = bits (fun q => p (6 * k + q)) 6 :=
  bits_of (by omega) fun i hi => by
    rw [tb_and, tb_63 i hi, show (6 : Int32) * Int32.ofNat k = Int32.ofNat (6 * k) from io_mul (a := 6)]
    by_cases h : i < 6
    · rw [tb_shr (by omega) _ hi (by omega), tb_bits _ 24 (by omega) _ (by omega), decide_eq_true (show 6 * k + i < 24 by omega), decide_eq_true h]
      simp
    · rw [decide_eq_false h, Bool.and_false]; rfl
theorem vrz_io {m x : Nat} (h4 : m ≤ 4) (hx : ∀ c, c < m → dig m x c < 6) : vrz (bits (ctb m x) 24) m = bits (fun q => exb (fun c => decide (dig m x c = q)) m) 6 := by
  unfold vrz
  refine fo_eq (v := fun k => bits (fun q => exb (fun c => decide (dig m x c = q)) k) 6) (bits_zero 6).symm fun k hk => ?_
  show bits (fun q => exb (fun c => decide (dig m x c = q)) k) 6 ||| _ = bits (fun q => exb (fun c => decide (dig m x c = q)) (k + 1)) 6
  rw [inch _ (by omega), bits_or _ _ (by omega)]
  refine bits_cong fun q hq => ?_
  show (_ || ctb m x (6 * k + q)) = (_ || decide (dig m x k = q))
  unfold ctb
  rw [show (6 * k + q) / 6 = k by omega, show (6 * k + q) % 6 = q by omega, decide_eq_true hk]
  rfl
theorem cbz_io {g : Nat → Int32} {d : Nat} (h4 : chn g ≤ 4) : cbz (bits (pn24 g d) 24) (chn g) = Int32.ofNat (cfo g d) := by
  unfold cbz cfo
  refine fo_io (v := fun k => prod (fun c => cnt (pnb g d c) 6) k) rfl fun k hk => ?_
  rw [inch _ (by omega), bct_bits _ (by omega), io_mul]
  refine congrArg Int32.ofNat ?_
  show prod _ k * _ = prod _ k * _
  congr 1
  refine cnt_cong fun q hq => ?_
  unfold pn24
  rw [show (6 * k + q) / 6 = k by omega, show (6 * k + q) % 6 = q by omega, decide_eq_true hk]
  rfl
