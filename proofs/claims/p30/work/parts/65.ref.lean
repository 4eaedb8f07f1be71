/-! the reference's doors -/
def opd (g : Nat → Int32) (x d : Nat) : Bool := decide (d < dn g) && opn g x d
def rgd (g : Nat → Int32) (k d : Nat) : Bool := decide (d < dn g) && rgt g d k
def wrk (g : Nat → Int32) (d : Nat) : Nat := cnt (fun k => opk g d k ^^ rgt g d k) 16
def xps (g : Nat → Int32) (d : Nat) : Bool := exb (fun k => opk g d k && lsb g k) 16
def pni (g : Nat → Int32) (d : Nat) : Nat := sum (fun c => cnt (pnb g d c) 6) (chn g)
def cfo (g : Nat → Int32) (d : Nat) : Nat := prod (fun c => cnt (pnb g d c) 6) (chn g)
def isk (g : Nat → Int32) (x : Nat) : Bool := exb (fun k => decide (cd g k = x)) (kn g)
def gho (g : Nat → Int32) (d : Nat) : Nat := cnt (fun v => opn g (cofn (dpn g) (chn g) v) d && (decide (wrg g (cofn (dpn g) (chn g) v) = 0) && !isk g (cofn (dpn g) (chn g) v))) (dpn g ^ chn g)
def acg (g : Nat → Int32) : Nat := sum (chg g) (dn g)
theorem cnt_low {x : Int32} (h : ∀ q, 6 ≤ q → tb x q = false) : cnt (tb x) 16 = cnt (tb x) 6 := by
  rw [show 16 = 6 + 10 from rfl, cnt_split, cnt_none (n := 10) (fun k _ => h (6 + k) (by omega)), Nat.add_zero]
theorem prod_le {f : Nat → Nat} {c : Nat} : ∀ {n : Nat}, (∀ k, k < n → f k ≤ c) → prod f n ≤ c ^ n
  | 0, _ => Nat.le_refl _
  | n + 1, h => by
    show prod f n * f n ≤ c ^ (n + 1)
    rw [Nat.pow_succ]
    exact Nat.mul_le_mul (prod_le fun k hk => h k (by omega)) (h n (by omega))
theorem pow_le46 {t m : Nat} (ht : t ≤ 6) (hm : m ≤ 4) (h2 : 2 ≤ t) : t ^ m ≤ 1296 := by
  have h1 : t ^ m ≤ t ^ 4 := Nat.pow_le_pow_right (by omega) hm
  have h3 : t ^ 4 ≤ 6 ^ 4 := Nat.pow_le_pow_left ht 4
  omega
section ZT
variable {G : zG} {c : Nat × Nat × Bool} {F A : Nat → Nat → Int32} {P : Nat → Nat} {W : Value} {O : Nat → Int64} {x y j k d e u v : Int32} {p q a b i n m : Nat}
theorem bits_ex (p : Nat → Bool) {n : Nat} (h : n ≤ 32) : (bits p n = 0) = (exb p n = false) := by
  refine propext ((bits_eq0 h).trans ⟨fun e => ?_, fun e k hk => ?_⟩)
  · cases hx : exb p n
    · rfl
    · obtain ⟨k, hk, hp⟩ := exb_iff.mp hx
      rw [e k hk] at hp; cases hp
  · cases hp : p k
    · rfl
    · rw [exb_iff.mpr ⟨k, hk, hp⟩] at e; cases e
end ZT
