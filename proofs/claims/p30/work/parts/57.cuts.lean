section ZT
variable {G : zG} {c : Nat × Nat × Bool} {F A : Nat → Nat → Int32} {P : Nat → Nat} {W : Value} {O : Nat → Int64} {x y j k d e u v : Int32} {p q a i n m : Nat}
/-- a cut, out of a set -/
def cu (x : Int32) (k : Nat) : Int32 := nzz (x >>> (6 * Int32.ofNat k &&& 31))
def abz (x : Int32) : Int32 := if 0 ≤ x then x else 0 - x
def lws (x : Int32) (n : Nat) : Prop := ∀ k, k < n → lwk (x >>> (6 * Int32.ofNat k &&& 31))
def dsz (x y : Int32) (n : Nat) : Int32 := fo (fun k s => s + abz (cu x k - cu y k)) n 0
end ZT
