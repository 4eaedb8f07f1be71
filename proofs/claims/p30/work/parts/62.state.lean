/-! the state: the reference's row of numbers -/
theorem zi_lit : zin 0 115 = true ∧ zin 1 115 = true ∧ zin 2 115 = true ∧ zin 3 115 = true ∧ zin 4 115 = true ∧ zin 5 115 = true ∧ zin 6 115 = true := by decide
theorem ix_0 : Int32.toNatClampNeg 0 = 0 := rfl
theorem ix_1 : Int32.toNatClampNeg 1 = 1 := rfl
theorem ix_2 : Int32.toNatClampNeg 2 = 2 := rfl
theorem ix_3 : Int32.toNatClampNeg 3 = 3 := rfl
theorem ix_4 : Int32.toNatClampNeg 4 = 4 := rfl
theorem ix_5 : Int32.toNatClampNeg 5 = 5 := rfl
theorem ix_6 : Int32.toNatClampNeg 6 = 6 := rfl
theorem io7 {k : Nat} : (7 : Int32) + Int32.ofNat k = Int32.ofNat (7 + k) := io_add (a := 7)
theorem io23 {k : Nat} : (23 : Int32) + Int32.ofNat k = Int32.ofNat (23 + k) := io_add (a := 23)
theorem io39 {k : Nat} : (39 : Int32) + Int32.ofNat k = Int32.ofNat (39 + k) := io_add (a := 39)
theorem io55 {k : Nat} : (55 : Int32) + Int32.ofNat k = Int32.ofNat (55 + k) := io_add (a := 55)
theorem io67 {k : Nat} : (67 : Int32) + Int32.ofNat k = Int32.ofNat (67 + k) := io_add (a := 67)
theorem io4m {k : Nat} : (4 : Int32) * Int32.ofNat k = Int32.ofNat (4 * k) := io_mul (a := 4)
def chn (g : Nat → Int32) : Nat := (g 0).toNatClampNeg
def dpn (g : Nat → Int32) : Nat := (g 1).toNatClampNeg
def rln (g : Nat → Int32) (i : Nat) : Nat := (g (2 + i)).toNatClampNeg
def kn (g : Nat → Int32) : Nat := (g 5).toNatClampNeg
def dn (g : Nat → Int32) : Nat := (g 6).toNatClampNeg
def cd (g : Nat → Int32) (k : Nat) : Nat := (g (7 + k)).toNatClampNeg
def ow (g : Nat → Int32) (d : Nat) : Nat := (g (55 + d)).toNatClampNeg
def lsb (g : Nat → Int32) (k : Nat) : Bool := decide (k < kn g) && decide (g (39 + k) = 1)
def pnb (g : Nat → Int32) (d c q : Nat) : Bool := tb (g (67 + 4 * d + c)) q
/-- is a code -/
def icd (m t x : Nat) : Bool := decide (x < 10 ^ m) && allb (fun c => decide (dig m x c < t)) m
/-- a state that may be -/
def Wf (g : Nat → Int32) : Prop := (g 0 = Int32.ofNat (chn g) ∧ 2 ≤ chn g ∧ chn g ≤ 4) ∧ (g 1 = Int32.ofNat (dpn g) ∧ 2 ≤ dpn g ∧ dpn g ≤ 6) ∧ (g 2 = Int32.ofNat (rln g 0) ∧ rln g 0 ≤ 5) ∧ (g 3 = Int32.ofNat (rln g 1) ∧ 1 ≤ rln g 1 ∧ rln g 1 ≤ 4) ∧ (g 4 = Int32.ofNat (rln g 2) ∧ 1 ≤ rln g 2 ∧ rln g 2 ≤ 4) ∧ (g 5 = Int32.ofNat (kn g) ∧ kn g ≤ 16) ∧ (g 6 = Int32.ofNat (dn g) ∧ dn g ≤ 12) ∧ (∀ k, k < kn g → g (7 + k) = Int32.ofNat (cd g k) ∧ icd (chn g) (dpn g) (cd g k) = true) ∧ (∀ k, k < kn g → g (23 + k) = -1 ∨ ∃ j, j < k ∧ g (23 + k) = Int32.ofNat j) ∧ (∀ k, k < kn g → g (39 + k) = 0 ∨ g (39 + k) = 1) ∧ (∀ d, d < dn g → g (55 + d) = Int32.ofNat (ow g d) ∧ ow g d < kn g) ∧ (∀ d, d < 12 → ∀ c, c < chn g → ∀ q, 6 ≤ q → tb (g (67 + 4 * d + c)) q = false)
section WF
variable {g : Nat → Int32} {k d q j : Nat}
theorem wf_c (h : Wf g) : g 0 = Int32.ofNat (chn g) := h.1.1
theorem wf_c2 (h : Wf g) : 2 ≤ chn g := h.1.2.1
theorem wf_c4 (h : Wf g) : chn g ≤ 4 := h.1.2.2
theorem wf_d (h : Wf g) : g 1 = Int32.ofNat (dpn g) := h.2.1.1
theorem wf_d2 (h : Wf g) : 2 ≤ dpn g := h.2.1.2.1
theorem wf_d6 (h : Wf g) : dpn g ≤ 6 := h.2.1.2.2
theorem wf_r0 (h : Wf g) : g 2 = Int32.ofNat (rln g 0) ∧ rln g 0 ≤ 5 := h.2.2.1
theorem wf_r1 (h : Wf g) : g 3 = Int32.ofNat (rln g 1) ∧ 1 ≤ rln g 1 ∧ rln g 1 ≤ 4 := h.2.2.2.1
theorem wf_r2 (h : Wf g) : g 4 = Int32.ofNat (rln g 2) ∧ 1 ≤ rln g 2 ∧ rln g 2 ≤ 4 := h.2.2.2.2.1
theorem wf_n (h : Wf g) : g 5 = Int32.ofNat (kn g) := h.2.2.2.2.2.1.1
theorem wf_n16 (h : Wf g) : kn g ≤ 16 := h.2.2.2.2.2.1.2
theorem wf_m (h : Wf g) : g 6 = Int32.ofNat (dn g) := h.2.2.2.2.2.2.1.1
theorem wf_m12 (h : Wf g) : dn g ≤ 12 := h.2.2.2.2.2.2.1.2
theorem wf_cd (h : Wf g) : ∀ k, k < kn g → g (7 + k) = Int32.ofNat (cd g k) := fun k hk => (h.2.2.2.2.2.2.2.1 k hk).1
theorem wf_ic (h : Wf g) : ∀ k, k < kn g → icd (chn g) (dpn g) (cd g k) = true := fun k hk => (h.2.2.2.2.2.2.2.1 k hk).2
theorem wf_ma (h : Wf g) : ∀ k, k < kn g → g (23 + k) = -1 ∨ ∃ j, j < k ∧ g (23 + k) = Int32.ofNat j := h.2.2.2.2.2.2.2.2.1
theorem wf_l (h : Wf g) : ∀ k, k < kn g → g (39 + k) = 0 ∨ g (39 + k) = 1 := h.2.2.2.2.2.2.2.2.2.1
theorem wf_ow (h : Wf g) : ∀ d, d < dn g → g (55 + d) = Int32.ofNat (ow g d) := fun d hd => (h.2.2.2.2.2.2.2.2.2.2.1 d hd).1
theorem wf_own (h : Wf g) : ∀ d, d < dn g → ow g d < kn g := fun d hd => (h.2.2.2.2.2.2.2.2.2.2.1 d hd).2
theorem wf_q (h : Wf g) : ∀ d, d < 12 → ∀ c, c < chn g → ∀ q, 6 ≤ q → tb (g (67 + 4 * d + c)) q = false := h.2.2.2.2.2.2.2.2.2.2.2
theorem wf_p (h : Wf g) : ∀ d, d < dn g → ∀ c, c < chn g → ∀ q, 6 ≤ q → tb (g (67 + 4 * d + c)) q = false := fun d hd => wf_q h d (Nat.lt_of_lt_of_le hd (wf_m12 h))
theorem icd_lt {m t x : Nat} (h4 : m ≤ 4) (h : icd m t x = true) : x < 10000 := by
  unfold icd at h
  rw [Bool.and_eq_true, decide_eq_true_eq] at h
  exact Nat.lt_of_lt_of_le h.1 (ten_4 h4).2
theorem icd_dig {m t x c : Nat} (h : icd m t x = true) (hc : c < m) : dig m x c < t := by
  unfold icd at h
  rw [Bool.and_eq_true, allb_iff] at h
  exact of_decide_eq_true (h.2 c hc)
theorem wf_cl (h : Wf g) : ∀ k, k < kn g → cd g k < 10000 := fun k hk => icd_lt (wf_c4 h) (wf_ic h k hk)
theorem wf_dg (h : Wf g) : ∀ k, k < kn g → ∀ c, c < chn g → dig (chn g) (cd g k) c < 6 := fun k hk c hc => Nat.lt_of_lt_of_le (icd_dig (wf_ic h k hk) hc) (wf_d6 h)
/-- j is above k: within f steps -/
def abw (g : Nat → Int32) : Nat → Nat → Nat → Bool
  | 0, _, _ => false
  | f + 1, k, j => if g (23 + k) = -1 then false else (decide (j = (g (23 + k)).toNatClampNeg) || abw g f (g (23 + k)).toNatClampNeg j)
def abv (g : Nat → Int32) (k j : Nat) : Bool := abw g k k j
theorem abw_any (hm : ∀ i, i ≤ q → g (23 + i) = -1 ∨ ∃ j, j < i ∧ g (23 + i) = Int32.ofNat j) (hq : q < 10000) : ∀ f1 f2 k, k ≤ q → k ≤ f1 → k ≤ f2 → abw g f1 k j = abw g f2 k j := by
  intro f1
  induction f1 with
  | zero =>
    intro f2 k _ h1 _
    have e : k = 0 := by omega
    subst e
    rcases hm 0 (by omega) with h | ⟨i, h, -⟩
    · cases f2 with
      | zero => rfl
      | succ f2 =>
        show false = if g (23 + 0) = -1 then false else _
        rw [if_pos h]
    · omega
  | succ f1 ih =>
    intro f2 k h0 h1 h2
    cases f2 with
    | zero =>
      have e : k = 0 := by omega
      subst e
      rcases hm 0 (by omega) with h | ⟨i, h, -⟩
      · show (if g (23 + 0) = -1 then false else _) = false
        rw [if_pos h]
      · omega
    | succ f2 =>
      show (if g (23 + k) = -1 then false else (decide (j = (g (23 + k)).toNatClampNeg) || abw g f1 (g (23 + k)).toNatClampNeg j)) = if g (23 + k) = -1 then false else (decide (j = (g (23 + k)).toNatClampNeg) || abw g f2 (g (23 + k)).toNatClampNeg j)
      rcases hm k h0 with h | ⟨i, hi, h⟩
      · rw [if_pos h, if_pos h]
      · rw [h, io_ix (by omega), ih f2 i (by omega) (by omega) (by omega)]
theorem abv_eq (hm : ∀ i, i ≤ k → g (23 + i) = -1 ∨ ∃ j, j < i ∧ g (23 + i) = Int32.ofNat j) (hq : k < 10000) : abv g k j = if g (23 + k) = -1 then false else (decide (j = (g (23 + k)).toNatClampNeg) || abv g (g (23 + k)).toNatClampNeg j) := by
  unfold abv
  rw [abw_any (q := k) hm hq k (k + 1) k (Nat.le_refl _) (Nat.le_refl _) (Nat.le_succ _)]
  show (if g (23 + k) = -1 then false else (decide (j = (g (23 + k)).toNatClampNeg) || abw g k (g (23 + k)).toNatClampNeg j)) = _
  rcases hm k (Nat.le_refl _) with h | ⟨i, hi, h⟩
  · rw [if_pos h, if_pos h]
  · rw [h, io_ix (by omega), abw_any (q := k) hm hq k i i (by omega) (by omega) (Nat.le_refl _)]
theorem wf_abv (h : Wf g) (hk : k < kn g) : abv g k j = if g (23 + k) = -1 then false else (decide (j = (g (23 + k)).toNatClampNeg) || abv g (g (23 + k)).toNatClampNeg j) :=
  abv_eq (fun i hi => wf_ma h i (by omega)) (by have := wf_n16 h; omega)
theorem wf_abl (h : Wf g) : ∀ k, k < kn g → abv g k j = true → j < k := by
  intro k
  induction k using Nat.strongRecOn with
  | ind k ih =>
    intro hk e
    rw [wf_abv h hk] at e
    have := wf_n16 h
    rcases wf_ma h k hk with h1 | ⟨i, hi, h1⟩
    · rw [if_pos h1] at e; cases e
    · rw [h1, if_neg (io_nn (by omega)), io_ix (by omega), Bool.or_eq_true] at e
      rcases e with e | e
      · have := of_decide_eq_true e; omega
      · have := ih i hi (by omega) e; omega
end WF
/-- a code opens a door -/
def opn (g : Nat → Int32) (x d : Nat) : Bool := allb (fun c => pnb g d c (dig (chn g) x c)) (chn g)
def opk (g : Nat → Int32) (d k : Nat) : Bool := decide (k < kn g) && opn g (cd g k) d
/-- a right key of a door -/
def rgt (g : Nat → Int32) (d k : Nat) : Bool := (decide (k = ow g d) || abv g (ow g d) k) && !lsb g k
/-- a pin of a chamber, when the door is fitted -/
def ftb (g : Nat → Int32) (d c q : Nat) : Bool := exb (fun k => rgt g d k && decide (dig (chn g) (cd g k) c = q)) (kn g)
/-- pins that change -/
def chg (g : Nat → Int32) (d : Nat) : Nat := sum (fun c => cnt (fun q => pnb g d c q ^^ ftb g d c q) 6) (chn g)
/-- the reasons 1 to 3 -/
def wrg (g : Nat → Int32) (x : Nat) : Nat := if icd (chn g) (dpn g) x = true then (if exb (fun c => decide (0 < c) && decide (rln g 0 < (if dig (chn g) x c < dig (chn g) x (c - 1) then dig (chn g) x (c - 1) - dig (chn g) x c else dig (chn g) x c - dig (chn g) x (c - 1)))) (chn g) = true then 2 else if cnt (fun q => exb (fun c => decide (dig (chn g) x c = q)) (chn g)) 16 < rln g 1 then 3 else 0) else 1
/-- chambers in which two codes differ -/
def dff (g : Nat → Int32) (x y : Nat) : Nat := cnt (fun c => !decide (dig (chn g) x c = dig (chn g) y c)) (chn g)
def rsn (g : Nat → Int32) (key : Int32) (x : Nat) : Nat := if wrg g x = 0 then (if exb (fun k => !decide (Int32.ofNat k = key) && decide (dff g x (cd g k) < rln g 2)) (kn g) = true then 4 else 0) else wrg g x
