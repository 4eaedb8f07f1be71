/-! the reference's codes -/
theorem one_ne : ((1 : Int32) = 0) = False := by decide
theorem ten_ne : ((10 : Int32) = 0) = False := by decide
section ZT
variable {G : zG} {c : Nat × Nat × Bool} {F A : Nat → Nat → Int32} {P : Nat → Nat} {W : Value} {O : Nat → Int64} {x y j k d e u v : Int32} {p q a b i n m : Nat}
/-- a set of cuts -/
theorem cuts_or {f : Nat → Nat} (h : f n < 16) : bits (fun q => exb (fun c => decide (f c = q)) n) 16 ||| (1 <<< (Int32.ofNat (f n) &&& 31)) = bits (fun q => exb (fun c => decide (f c = q)) (n + 1)) 16 := by
  rw [bits_one h (by omega), bits_or _ _ (by omega)]
  refine bits_cong fun i hi => ?_
  show (_ || decide (i = f n)) = (_ || decide (f n = i))
  rw [show decide (i = f n) = decide (f n = i) from decide_eq_decide.mpr eq_comm]
theorem cnt_tb (p : Nat → Bool) {n N : Nat} (h : n ≤ N) (hN : N ≤ 32) : cnt (tb (bits p n)) N = cnt p n := by
  rw [← cnt_cut p h]
  exact cnt_cong fun i hi => tb_bits p n (by omega) i (by omega)
theorem wrg_le (g : Nat → Int32) (x : Nat) : wrg g x ≤ 3 := by
  unfold wrg
  split
  · split
    · omega
    · split <;> omega
  · omega
theorem dff_le (g : Nat → Int32) (x z : Nat) : dff g x z ≤ chn g := cnt_le _ _
end ZT
