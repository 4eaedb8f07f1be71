/-! the reference's sets of keys -/
/-- the v-th code, after its last c digits -/
def cofn (t : Nat) : Nat → Nat → Nat
  | 0, _ => 0
  | c + 1, v => cofn t c v + v / t ^ c % t * 10 ^ c
theorem cofn_lt {t : Nat} (h1 : 1 ≤ t) (h : t ≤ 10) : ∀ c v, cofn t c v < 10 ^ c
  | 0, _ => Nat.one_pos
  | c + 1, v => by
    have ih := cofn_lt h1 h c v
    have h2 : v / t ^ c % t ≤ 9 := by have := Nat.mod_lt (v / t ^ c) (show 0 < t by omega); omega
    have h3 := Nat.mul_le_mul_right (10 ^ c) h2
    show cofn t c v + v / t ^ c % t * 10 ^ c < 10 ^ (c + 1)
    rw [Nat.pow_succ]
    omega
section ZT
variable {G : zG} {c : Nat × Nat × Bool} {F A : Nat → Nat → Int32} {P : Nat → Nat} {W : Value} {O : Nat → Int64} {x y j k d e u v : Int32} {p q a b i n m : Nat}
theorem rgt_lt {g : Nat → Int32} (h : Wf g) {d k : Nat} (hd : d < dn g) (e : rgt g d k = true) : k < kn g := by
  unfold rgt at e
  have ho := wf_own h d hd
  rw [Bool.and_eq_true, Bool.or_eq_true, decide_eq_true_eq] at e
  rcases e.1 with e | e
  · omega
  · have := wf_abl h _ ho e; omega
end ZT
