/-! the switch over pairs -/
def lsw (x : Int32) (d : Nat) (K : Nat → Option zR) : List (Int32 × Nat) → Option zR
  | [] => K d
  | p :: ps => if x = p.1 then K p.2 else lsw x d K ps
def lsk (pc : Nat) (ps : List (Int × Int)) (qs : List (Int32 × Nat)) : Bool := match ps, qs with
  | [], [] => true
  | p :: ps, q :: qs => decide (q.1.toInt = p.1) && decide (0 ≤ (pc : Int) + p.2) && (ztgt pc p.2 == q.2) && lsk pc ps qs
  | _, _ => false
theorem lsw_at (K : Nat → Option zR) {pc : Nat} {d : Int} (h0 : 0 ≤ (pc : Int) + d) (x : Int32) : ∀ {ps : List (Int × Int)} {qs : List (Int32 × Nat)}, lsk pc ps qs = true → 0 ≤ (pc : Int) + Op.lookupswitch.offset ps d x.toInt ∧ lsw x (ztgt pc d) K qs = K (ztgt pc (Op.lookupswitch.offset ps d x.toInt)) := by
  intro ps
  induction ps with
  | nil =>
    intro qs h
    cases qs with
    | nil => exact ⟨h0, rfl⟩
    | cons q qs => cases h
  | cons p ps ih =>
    intro qs h
    cases qs with
    | nil => cases h
    | cons q qs =>
      simp only [lsk, Bool.and_eq_true, decide_eq_true_eq, beq_iff_eq] at h
      obtain ⟨⟨⟨h1, h2⟩, h3⟩, h4⟩ := h
      obtain ⟨i1, i2⟩ := ih h4
      unfold lsw Op.lookupswitch.offset
      by_cases hx : x = q.1
      · subst hx
        rw [if_pos rfl]
        rw [if_pos h1.symm]
        exact ⟨h2, by rw [h3]⟩
      · rw [if_neg hx]
        rw [if_neg (fun e => hx (Int32.toInt_inj.mp (e.symm.trans h1.symm)))]
        exact ⟨i1, i2⟩
section ZRules4
variable {i pc pc' len k j n t : Nat} {q qj : zM} {ls lj : zL} {st r : List Value} {w : zW} {x y : Int32}
theorem R_lsw {d : Int} {ps : Array (Int × Int)} {qs : List (Int32 × Nat)} (hq : zq i = some q) (hi' : zins q pc = some (.lookupswitch d ps, len)) (h1 : (ps.toList.zip (ps.toList.drop 1)).all (fun (a, next) => a.1 < next.1) = true) (h2 : decide (0 ≤ (pc : Int) + d) = true) (h3 : ztgt pc d = t) (h4 : lsk pc ps.toList qs = true) : Rv i pc ls (.int x :: r) w = lsw x t (fun t => Rv i t ls r w) qs := by
  subst h3
  obtain ⟨h5, h6⟩ := lsw_at (fun t => Rv i t ls r w) (of_decide_eq_true h2) x h4
  rw [h6, Rv_go hq hi']
  unfold zstep
  dsimp only
  rw [if_pos ⟨h1, h5⟩]
  rfl
end ZRules4
