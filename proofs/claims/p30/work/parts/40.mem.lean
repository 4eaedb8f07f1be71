/-! THE MEMORY: all objects of a run, by fixed places; F ints of objects, A elements of int and byte arrays, P the undo stack's plans, W the reader's word, O the law's long -/
abbrev zG : Type := Nat × (Nat → Int32)
def plF (f : Nat → Int32) (p : Nat) : Option zE := some (.inr (2, [.int (f 0), .int (f 1), .ref (p + 1), .int (f 3), .ref (p + 2), .ref (p + 3), .ref (p + 4), .ref (p + 5), .int (f 8), .int (f 9), .ref (p + 6), .ref (p + 7)]))
def iA (g : Nat → Int32) (n : Nat) : Option zE := some (.inl (0, n, .inl g))
def plz (k : Nat) : Nat := if k = 1 then 3 else if k < 6 then 16 else 12
def memC (G : zG) (f g : Nat → Int32) (P : Nat → Nat) (W : Value) (O : Nat → Int64) (k : Nat) : Option zE :=
  if k < 40 then zcE G.1 G.2 k
  else if k = 40 then some (.inr (5, [.ref 41, .ref 49, .ref 54, .ref 88]))
  else if k = 41 then plF f k
  else if k < 49 then iA g (plz (k - 41))
  else if k = 49 then some (.inr (3, [.ref 41, .ref 50, .ref 53, .int (f 3)]))
  else if k = 50 then some (.inr (1, [.ref 51, .ref 52, .int (f 2), .int (f 3), .int (f 4), .int (f 5), .int (f 6)]))
  else if k = 51 then iA g 1296
  else if k = 52 then iA g 1296
  else if k = 53 then iA g 12
  else if k = 54 then some (.inr (4, [.ref 55, .int (f 1)]))
  else if k = 55 then some (.inl (3, 4, .inr (.inr (.inr (.inr fun j => if j < 4 then some (P j) else none)))))
  else if k < 88 then (if (k - 56) % 8 = 0 then plF f k else iA g (plz ((k - 56) % 8)))
  else if k = 88 then some (.inr (0, [.ref 89, .int (f 1), .int (f 2), W, .int (f 4), .int (f 5)]))
  else if k = 89 then some (.inl (2, 150, .inl g))
  else none
def mem (G : zG) (F A : Nat → Nat → Int32) (P : Nat → Nat) (W : Value) (O : Nat → Int64) (k : Nat) : Option zE := memC G (F k) (A k) P W O k
def en (G : zG) (c : Nat × Nat × Bool) (F A : Nat → Nat → Int32) (P : Nat → Nat) (W : Value) (O : Nat → Int64) : zW := (c, mem G F A P W O)
/-- one place changed -/
def u2 (F : Nat → Nat → Int32) (a k : Nat) (v : Int32) : Nat → Nat → Int32 := fun b j => if b = a ∧ j = k then v else F b j
/-- one array changed -/
def uA (A : Nat → Nat → Int32) (a : Nat) (f : Nat → Int32) : Nat → Nat → Int32 := fun b => if b = a then f else A b
def PA (p : Nat) : Prop := p = 41 ∨ p = 56 ∨ p = 64 ∨ p = 72 ∨ p = 80
theorem PA_41 : PA 41 := Or.inl rfl
section ZMem
variable {G : zG} {c : Nat × Nat × Bool} {F A : Nat → Nat → Int32} {P : Nat → Nat} {W : Value} {O : Nat → Int64} {x y : Int32} {p a : Nat}
theorem m_pl (hp : PA p) : mem G F A P W O p = plF (F p) p := by
  rcases hp with rfl | rfl | rfl | rfl | rfl <;> rfl
theorem m_pa (hp : PA p) {k : Nat} (h1 : 1 ≤ k) (h2 : k < 8) : mem G F A P W O (p + k) = iA (A (p + k)) (plz k) := by
  rcases hp with rfl | rfl | rfl | rfl | rfl <;> (rcases k with _ | _ | _ | _ | _ | _ | _ | _ | k <;> first | omega | rfl)
/-- cells other than a stay, so the world with a's cell put anew is the memory changed -/
theorem m_set {w : zW} {e : zE} {F' A' : Nat → Nat → Int32} {P' : Nat → Nat} {W' : Value} {O' : Nat → Int64} (hw : w = en G c F A P W O) (ha : mem G F' A' P' W' O' a = some e) (hne : ∀ b, b ≠ a → mem G F' A' P' W' O' b = mem G F A P W O b) : zset w a e = en G c F' A' P' W' O' := by
  subst hw
  unfold zset en
  refine Prod.ext rfl (funext fun b => ?_)
  dsimp only
  by_cases h : b = a
  · subst h; rw [if_pos rfl, ha]
  · rw [if_neg h, hne b h]
theorem u2_ne {k b : Nat} (h : b ≠ a) : u2 F a k x b = F b := funext fun j => if_neg (fun e => h e.1)
theorem uA_ne {f : Nat → Int32} {b : Nat} (h : b ≠ a) : uA A a f b = A b := if_neg h
theorem m_u2 {k b : Nat} (h : b ≠ a) : mem G (u2 F a k x) A P W O b = mem G F A P W O b := by
  unfold mem
  rw [u2_ne h]
theorem m_u2A {k b : Nat} (h : b ≠ a) : mem G F (u2 A a k x) P W O b = mem G F A P W O b := by
  unfold mem
  rw [u2_ne h]
theorem m_uA {f : Nat → Int32} {b : Nat} (h : b ≠ a) : mem G F (uA A a f) P W O b = mem G F A P W O b := by
  unfold mem
  rw [uA_ne h]
theorem m_P {P' : Nat → Nat} {b : Nat} (h : b ≠ 55) : mem G F A P' W O b = mem G F A P W O b := by
  unfold mem memC
  simp only [if_neg h]
theorem m_W {W' : Value} {b : Nat} (h : b ≠ 88) : mem G F A P W' O b = mem G F A P W O b := by
  unfold mem memC
  simp only [if_neg h]
end ZMem
