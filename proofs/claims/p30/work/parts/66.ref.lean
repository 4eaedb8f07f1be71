/-! the reference's answers -/
theorem tsw_n {w d : Nat} {K : Nat → Option zR} {ts : List Nat} (hw : w < 2147483648) (hl : ts.length < 1000) : tsw (Int32.ofNat w) 0 d K ts = K (ts.getD w d) := by
  rw [tsw_at K d ts _ 0 (by rw [show (0 : Int32).toInt = 0 from rfl]; omega), io_toInt hw, show (0 : Int32).toInt = 0 from rfl]
  by_cases h : ts.length ≤ w
  · rw [if_pos (by omega), List.getD_eq_getElem?_getD, List.getElem?_eq_none h]
    rfl
  · rw [if_neg (by omega)]
    congr 2
def kvz (g : Nat → Int32) (k : Nat) : Nat → Int32
  | 0 => g (7 + k)
  | 1 => g (23 + k)
  | 2 => g (39 + k)
  | 3 => Int32.ofNat (cnt (abv g k) 16)
  | 4 => Int32.ofNat (cnt (fun o => abv g o k) (kn g))
  | 5 => bits (opd g (cd g k)) 12
  | _ => bits (rgd g k) 12
def dvz (g : Nat → Int32) (d : Nat) : Nat → Int32
  | 0 => g (55 + d)
  | 1 => Int32.ofNat (pni g d)
  | 2 => bits (opk g d) 16
  | 3 => bits (rgt g d) 16
  | 4 => Int32.ofNat (wrk g d)
  | 5 => Int32.ofNat (gho g d)
  | 6 => if xps g d = true then 1 else 0
  | 7 => Int32.ofNat (chg g d)
  | _ => Int32.ofNat (cfo g d)
/-- sum of ints -/
def sui (f : Nat → Int32) : Nat → Int32
  | 0 => 0
  | n + 1 => sui f n + f n
def adz (g : Nat → Int32) (w : Nat) : Int32 := sui (fun d => dvz g d w) (dn g)
def wks (g : Nat → Int32) : Nat := cnt (fun d => decide (0 < chg g d)) (dn g)
def wvz (g : Nat → Int32) (t : Nat) : Nat → Int32
  | 0 => g 0
  | 1 => g 1
  | 2 => g 2
  | 3 => g 3
  | 4 => g 4
  | 5 => g 5
  | 6 => g 6
  | 7 => Int32.ofNat (cnt (lsb g) 16)
  | 8 => adz g 4
  | 9 => adz g 5
  | 10 => adz g 6
  | 11 => Int32.ofNat (wks g)
  | 12 => adz g 1
  | _ => Int32.ofNat t
/-- the key at place i in the order of codes -/
def kat (g : Nat → Int32) (x : Int32) (k : Nat) : Bool := decide (Int32.ofNat (cnt (fun o => decide (cd g o < cd g k)) (kn g)) = x)
def fst (p : Nat → Bool) : Nat → Nat → Int32
  | _, 0 => -1
  | k, n + 1 => if p k = true then Int32.ofNat k else fst p (k + 1) n
def frc (g : Nat → Int32) : Nat := cnt (fun v => decide (rsn g (-1) (cofn (dpn g) (chn g) v) = 0)) (dpn g ^ chn g)
def szs (g : Nat → Int32) (x y : Nat) : Nat := sum (fun c => if dig (chn g) x c < dig (chn g) y c then dig (chn g) y c - dig (chn g) x c else dig (chn g) x c - dig (chn g) y c) (chn g)
section ZT
variable {G : zG} {c : Nat × Nat × Bool} {F A : Nat → Nat → Int32} {P : Nat → Nat} {W : Value} {O : Nat → Int64} {x y j k d e u v : Int32} {p q a b i n m t w : Nat}
/-- not a number below n -/
def nob (x : Int32) (n : Nat) : Prop := ∀ k, k < n → ¬ x = Int32.ofNat k
theorem nob_or (x : Int32) (n : Nat) : (∃ k, k < n ∧ x = Int32.ofNat k) ∨ nob x n := by
  rcases Classical.em (∃ k, k < n ∧ x = Int32.ofNat k) with h | h
  · exact Or.inl h
  · exact Or.inr fun k hk e => h ⟨k, hk, e⟩
theorem nob_in (hn : n < 2147483648) (h : nob x n) : ¬ (0 ≤ x ∧ x ≤ Int32.ofNat n - 1) := by
  rintro ⟨h1, h2⟩
  obtain ⟨k, hk, rfl⟩ := io_of (Int32.not_lt.mpr h1)
  rcases n with _ | n
  · have h3 := Int32.le_iff_toInt_le.mp h2
    rw [io_toInt hk, show (Int32.ofNat 0 - 1).toInt = -1 from by decide] at h3
    omega
  · rw [io_pred, io_le hk (by omega)] at h2
    exact h k (by omega) rfl
theorem chg_le (g : Nat → Int32) (d : Nat) : chg g d ≤ chn g * 6 := sum_le fun _ _ => cnt_le _ 6
end ZT
