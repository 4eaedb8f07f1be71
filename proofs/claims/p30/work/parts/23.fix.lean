/-! THE LIMIT: a run's answer, whatever the fuel; its equation -/
abbrev zFn : Type := Nat → Nat → zL → List Value → zW → Option zR
def zaf (R : zFn) (q : zM) (i pc : Nat) (ls : zL) (rest : List Value) : Option zR → Option zR
  | none => none
  | some (.inl v, w') => R i (pc + 3) ls (v.toList ++ rest) w'
  | some (.inr E, w') => match q.2.2.2.2.1 with
    | [] => some (.inr E, w')
    | hh => match zhnd q pc E hh with
      | some (pc', k) => if k < ls.length ∧ zpre q.2.2.2.2.2.2.2.2.1 ls k = true then R i pc' (ls.set k none) [] w' else none
      | none => none
def zgo (R : zFn) (q : zM) (i pc : Nat) (ls : zL) (w : zW) : Option zT → Option zR
  | none => none
  | some (.inl (pc', ls', st', w')) => R i pc' ls' st' w'
  | some (.inr (.inl r)) => some r
  | some (.inr (.inr (j, av, rest))) => match zq j with
    | none => none
    | some qj => match zent qj av with
      | none => none
      | some lj => zaf R q i pc ls rest (R j 0 lj [] w)
def zF (R : zFn) : zFn := fun i pc ls st w => match zq i with
  | none => none
  | some q => match zins q pc with
    | none => none
    | some (I, len) => zgo R q i pc ls w (zstep q i pc I len ls st w)
theorem zrun_F (n i pc : Nat) (ls : zL) (st : List Value) (w : zW) : zrun (n + 1) i pc ls st w = zF (zrun n) i pc ls st w := by
  rw [zrun]
  unfold zF
  cases hq : zq i with
  | none => rfl
  | some q =>
    dsimp only
    cases hi : zins q pc with
    | none => rfl
    | some p =>
      obtain ⟨I, len⟩ := p
      dsimp only
      cases hs : zstep q i pc I len ls st w with
      | none => rfl
      | some t =>
        match t with
        | .inl (pc', ls', st', w') => rfl
        | .inr (.inl r) => rfl
        | .inr (.inr (j, av, rest)) =>
          dsimp only [zgo]
          cases hj : zq j with
          | none => rfl
          | some qj =>
            dsimp only
            cases hl : zent qj av with
            | none => rfl
            | some lj =>
              dsimp only
              cases hr : zrun n j 0 lj [] w with
              | none => rfl
              | some x =>
                match x with
                | (.inl v, w') => rfl
                | (.inr E, w') => rfl
def zLe (R R' : zFn) : Prop := ∀ i pc ls st w r, R i pc ls st w = some r → R' i pc ls st w = some r
theorem zaf_mono {R R' : zFn} (h : zLe R R') {q : zM} {i pc : Nat} {ls : zL} {rest : List Value} {x : Option zR} {r : zR} (hx : zaf R q i pc ls rest x = some r) : zaf R' q i pc ls rest x = some r := by
  match x, hx with
  | none, hx => exact hx
  | some (.inl v, w'), hx => exact h _ _ _ _ _ _ hx
  | some (.inr E, w'), hx =>
    unfold zaf at hx ⊢
    cases hh : q.2.2.2.2.1 with
    | nil => rw [hh] at hx; exact hx
    | cons a t =>
      rw [hh] at hx
      dsimp only at hx ⊢
      cases hz : zhnd q pc E (a :: t) with
      | none => rw [hz] at hx; exact hx
      | some y =>
        obtain ⟨pc', k⟩ := y
        rw [hz] at hx
        dsimp only at hx ⊢
        by_cases hc : k < ls.length ∧ zpre q.2.2.2.2.2.2.2.2.1 ls k = true
        · rw [if_pos hc] at hx ⊢; exact h _ _ _ _ _ _ hx
        · rw [if_neg hc] at hx; cases hx
theorem zgo_mono {R R' : zFn} (h : zLe R R') {q : zM} {i pc : Nat} {ls : zL} {w : zW} {t : Option zT} {r : zR} (hx : zgo R q i pc ls w t = some r) : zgo R' q i pc ls w t = some r := by
  match t, hx with
  | none, hx => exact hx
  | some (.inl (pc', ls', st', w')), hx => exact h _ _ _ _ _ _ hx
  | some (.inr (.inl r)), hx => exact hx
  | some (.inr (.inr (j, av, rest))), hx =>
    dsimp only [zgo] at hx ⊢
    cases hj : zq j with
    | none => rw [hj] at hx; exact hx
    | some qj =>
      rw [hj] at hx
      dsimp only at hx ⊢
      cases hl : zent qj av with
      | none => rw [hl] at hx; exact hx
      | some lj =>
        rw [hl] at hx
        dsimp only at hx ⊢
        cases hR : R j 0 lj [] w with
        | none => rw [hR] at hx; cases hx
        | some x =>
          rw [hR] at hx
          rw [h _ _ _ _ _ _ hR]
          exact zaf_mono h hx
theorem zF_mono {R R' : zFn} (h : zLe R R') : zLe (zF R) (zF R') := by
  intro i pc ls st w r hx
  unfold zF at hx ⊢
  cases hq : zq i with
  | none => rw [hq] at hx; exact hx
  | some q =>
    rw [hq] at hx
    dsimp only at hx ⊢
    cases hi : zins q pc with
    | none => rw [hi] at hx; exact hx
    | some p =>
      rw [hi] at hx
      exact zgo_mono h hx
theorem zrun_up (n : Nat) : zLe (zrun n) (zrun (n + 1)) := by
  induction n with
  | zero => intro i pc ls st w r h; cases h
  | succ n ih => intro i pc ls st w r h; rw [zrun_F] at h ⊢; exact zF_mono ih _ _ _ _ _ _ h
theorem zrun_add (n k : Nat) : zLe (zrun n) (zrun (n + k)) := by
  induction k with
  | zero => intro i pc ls st w r h; exact h
  | succ k ih => intro i pc ls st w r h; exact zrun_up _ _ _ _ _ _ _ (ih _ _ _ _ _ _ h)
theorem zrun_mx {n m : Nat} (h : n ≤ m) : zLe (zrun n) (zrun m) := by
  obtain ⟨k, rfl⟩ := Nat.exists_eq_add_of_le h
  exact zrun_add n k
noncomputable def Rv : zFn := fun i pc ls st w => @dite (Option zR) (∃ r, ∃ n, zrun n i pc ls st w = some r) (Classical.propDecidable _) (fun h => some (Classical.choose h)) (fun _ => none)
theorem Rv_of {n i pc : Nat} {ls : zL} {st : List Value} {w : zW} {r : zR} (h : zrun n i pc ls st w = some r) : Rv i pc ls st w = some r := by
  unfold Rv
  have he : ∃ r, ∃ n, zrun n i pc ls st w = some r := ⟨r, n, h⟩
  rw [dif_pos he]
  obtain ⟨m, hm⟩ := Classical.choose_spec he
  have h1 := zrun_mx (Nat.le_max_left n m) _ _ _ _ _ _ h
  have h2 := zrun_mx (Nat.le_max_right n m) _ _ _ _ _ _ hm
  exact h2.symm.trans h1
theorem Rv_to {i pc : Nat} {ls : zL} {st : List Value} {w : zW} {r : zR} (h : Rv i pc ls st w = some r) : ∃ n, zrun n i pc ls st w = some r := by
  unfold Rv at h
  split at h
  · rename_i he
    cases h
    exact Classical.choose_spec he
  · cases h
theorem zrun_Rv (n : Nat) : zLe (zrun n) Rv := fun _ _ _ _ _ _ h => Rv_of h
theorem zaf_cont {q : zM} {i pc : Nat} {ls : zL} {rest : List Value} {x : Option zR} {r : zR} (hx : zaf Rv q i pc ls rest x = some r) : ∃ n, zaf (zrun n) q i pc ls rest x = some r := by
  match x, hx with
  | none, hx => cases hx
  | some (.inl v, w'), hx => exact Rv_to hx
  | some (.inr E, w'), hx =>
    unfold zaf at hx ⊢
    cases hh : q.2.2.2.2.1 with
    | nil => rw [hh] at hx; exact ⟨0, hx⟩
    | cons a t =>
      rw [hh] at hx
      dsimp only at hx ⊢
      cases hz : zhnd q pc E (a :: t) with
      | none => rw [hz] at hx; cases hx
      | some y =>
        obtain ⟨pc', k⟩ := y
        rw [hz] at hx
        dsimp only at hx ⊢
        by_cases hc : k < ls.length ∧ zpre q.2.2.2.2.2.2.2.2.1 ls k = true
        · rw [if_pos hc] at hx; simp only [if_pos hc]; exact Rv_to hx
        · rw [if_neg hc] at hx; cases hx
theorem zgo_cont {q : zM} {i pc : Nat} {ls : zL} {w : zW} {t : Option zT} {r : zR} (hx : zgo Rv q i pc ls w t = some r) : ∃ n, zgo (zrun n) q i pc ls w t = some r := by
  match t, hx with
  | none, hx => cases hx
  | some (.inl (pc', ls', st', w')), hx => exact Rv_to hx
  | some (.inr (.inl r)), hx => exact ⟨0, hx⟩
  | some (.inr (.inr (j, av, rest))), hx =>
    dsimp only [zgo] at hx ⊢
    cases hj : zq j with
    | none => rw [hj] at hx; cases hx
    | some qj =>
      rw [hj] at hx
      dsimp only at hx ⊢
      cases hl : zent qj av with
      | none => rw [hl] at hx; cases hx
      | some lj =>
        rw [hl] at hx
        dsimp only at hx ⊢
        cases hR : Rv j 0 lj [] w with
        | none => rw [hR] at hx; cases hx
        | some x =>
          rw [hR] at hx
          obtain ⟨n, hn⟩ := Rv_to hR
          obtain ⟨m, hm⟩ := zaf_cont hx
          refine ⟨max n m, ?_⟩
          rw [zrun_mx (Nat.le_max_left n m) _ _ _ _ _ _ hn]
          exact zaf_mono (zrun_mx (Nat.le_max_right n m)) hm
theorem zF_cont {i pc : Nat} {ls : zL} {st : List Value} {w : zW} {r : zR} (hx : zF Rv i pc ls st w = some r) : ∃ n, zF (zrun n) i pc ls st w = some r := by
  unfold zF at hx ⊢
  cases hq : zq i with
  | none => rw [hq] at hx; cases hx
  | some q =>
    rw [hq] at hx
    dsimp only at hx ⊢
    cases hi : zins q pc with
    | none => rw [hi] at hx; cases hx
    | some p =>
      rw [hi] at hx
      exact zgo_cont hx
theorem Rv_fix (i pc : Nat) (ls : zL) (st : List Value) (w : zW) : Rv i pc ls st w = zF Rv i pc ls st w := by
  have h1 : ∀ r, Rv i pc ls st w = some r → zF Rv i pc ls st w = some r := by
    intro r h
    obtain ⟨n, hn⟩ := Rv_to h
    cases n with
    | zero => cases hn
    | succ n => rw [zrun_F] at hn; exact zF_mono (zrun_Rv n) _ _ _ _ _ _ hn
  have h2 : ∀ r, zF Rv i pc ls st w = some r → Rv i pc ls st w = some r := by
    intro r h
    obtain ⟨n, hn⟩ := zF_cont h
    rw [← zrun_F] at hn
    exact Rv_of hn
  cases h : Rv i pc ls st w with
  | some r => exact (h1 r h).symm
  | none =>
    cases h' : zF Rv i pc ls st w with
    | none => rfl
    | some r => rw [h2 r h'] at h; cases h
theorem Rv_go {i pc len : Nat} {q : zM} {I : Instr} {ls : zL} {st : List Value} {w : zW} (hq : zq i = some q) (hi : zins q pc = some (I, len)) : Rv i pc ls st w = zgo Rv q i pc ls w (zstep q i pc I len ls st w) := by
  rw [Rv_fix]
  unfold zF
  rw [hq]; dsimp only
  rw [hi]
