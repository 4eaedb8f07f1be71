/-! the reference's digest -/
def sl4 (z : Option Value) (v : Int32) : Nat → Option Value
  | 0 => z
  | _ + 1 => some (.int v)
section ZT
variable {G : zG} {c : Nat × Nat × Bool} {F A : Nat → Nat → Int32} {P : Nat → Nat} {W : Value} {O : Nat → Int64} {x y j k d e v : Int32} {p q a b i n m t u w : Nat} {g : Nat → Int32} {h : Int64} {z : Option Value}
end ZT
