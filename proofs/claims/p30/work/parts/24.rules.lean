/-! RULES: one equation for each kind of instruction -/
def ldI : zL → Nat → (Int32 → Option zR) → Option zR
  | some (.int x) :: _, 0, K => K x
  | _ :: l, k + 1, K => ldI l k K
  | _, _, _ => none
def ldA : zL → Nat → (Value → Option zR) → Option zR
  | some (.ref x) :: _, 0, K => K (.ref x)
  | some .null :: _, 0, K => K .null
  | _ :: l, k + 1, K => ldA l k K
  | _, _, _ => none
def ldL : zL → Nat → (Int64 → Option zR) → Option zR
  | some (.long x) :: _, 0, K => K x
  | _ :: l, k + 1, K => ldL l k K
  | _, _, _ => none
def lst : zL → Nat → Option Value → (zL → Option zR) → Option zR
  | [], _, _, _ => none
  | _ :: l, 0, v, K => K (v :: l)
  | a :: l, k + 1, v, K => lst l k v fun l' => K (a :: l')
/-- the place before k doesn't hold a long, by recursion -/
def lpr : zL → Nat → Bool
  | _, 0 => true
  | some (.long _) :: _, 1 => false
  | some (.double _) :: _, 1 => false
  | _, 1 => true
  | _ :: l, k + 2 => lpr l (k + 1)
  | [], _ => true
theorem ldI_0 {x : Int32} {l : zL} {K : Int32 → Option zR} : ldI (some (.int x) :: l) 0 K = K x := rfl
theorem ldI_s {v : Option Value} {l : zL} {k : Nat} {K : Int32 → Option zR} : ldI (v :: l) (k + 1) K = ldI l k K := by
  cases v with
  | none => rfl
  | some v => cases v <;> rfl
theorem ldA_0 {x : Nat} {l : zL} {K : Value → Option zR} : ldA (some (.ref x) :: l) 0 K = K (.ref x) := rfl
theorem ldA_n {l : zL} {K : Value → Option zR} : ldA (some .null :: l) 0 K = K .null := rfl
theorem ldA_s {v : Option Value} {l : zL} {k : Nat} {K : Value → Option zR} : ldA (v :: l) (k + 1) K = ldA l k K := by
  cases v with
  | none => rfl
  | some v => cases v <;> rfl
theorem ldL_0 {x : Int64} {l : zL} {K : Int64 → Option zR} : ldL (some (.long x) :: l) 0 K = K x := rfl
theorem ldL_s {v : Option Value} {l : zL} {k : Nat} {K : Int64 → Option zR} : ldL (v :: l) (k + 1) K = ldL l k K := by
  cases v with
  | none => rfl
  | some v => cases v <;> rfl
theorem lst_0 {a v : Option Value} {l : zL} {K : zL → Option zR} : lst (a :: l) 0 v K = K (v :: l) := rfl
theorem lst_s {a v : Option Value} {l : zL} {k : Nat} {K : zL → Option zR} : lst (a :: l) (k + 1) v K = lst l k v fun l' => K (a :: l') := rfl
theorem zld_cons_s {v : Option Value} {l : zL} {k : Nat} : zld (v :: l) (k + 1) = zld l k := rfl
theorem ldI_eq (ls : zL) : ∀ (k : Nat) (K : Int32 → Option zR), ldI ls k K = match zld ls k with | some (.int x) => K x | _ => none := by
  induction ls with
  | nil => intro k K; cases k <;> rfl
  | cons v l ih =>
    intro k K
    cases k with
    | zero =>
      cases v with
      | none => rfl
      | some v => cases v <;> rfl
    | succ k => rw [ldI_s, ih, zld_cons_s]
theorem ldA_eq (ls : zL) : ∀ (k : Nat) (K : Value → Option zR), ldA ls k K = match zld ls k with | some (.ref x) => K (.ref x) | some .null => K .null | _ => none := by
  induction ls with
  | nil => intro k K; cases k <;> rfl
  | cons v l ih =>
    intro k K
    cases k with
    | zero =>
      cases v with
      | none => rfl
      | some v => cases v <;> rfl
    | succ k => rw [ldA_s, ih, zld_cons_s]
theorem ldL_eq (ls : zL) : ∀ (k : Nat) (K : Int64 → Option zR), ldL ls k K = match zld ls k with | some (.long x) => K x | _ => none := by
  induction ls with
  | nil => intro k K; cases k <;> rfl
  | cons v l ih =>
    intro k K
    cases k with
    | zero =>
      cases v with
      | none => rfl
      | some v => cases v <;> rfl
    | succ k => rw [ldL_s, ih, zld_cons_s]
theorem lst_eq (ls : zL) : ∀ (k : Nat) (v : Option Value) (K : zL → Option zR), lst ls k v K = if k < ls.length then K (ls.set k v) else none := by
  induction ls with
  | nil => intro k v K; cases k <;> rfl
  | cons a l ih =>
    intro k v K
    cases k with
    | zero => simp [lst_0]
    | succ k => rw [lst_s, ih]; simp
section ZRules
variable {i pc pc' len k j n : Nat} {q : zM} {ls : zL} {st r : List Value} {w : zW} {x y : Int32}
theorem R_next {I : Instr} {st' : List Value} {w' : zW} {ls' : zL} (hq : zq i = some q) (hi : zins q pc = some (I, len)) (h : zstep q i pc I len ls st w = some (.inl (pc', ls', st', w'))) : Rv i pc ls st w = Rv i pc' ls' st' w' := by
  rw [Rv_go hq hi, h]; rfl
theorem R_ldI {I : Instr} (hq : zq i = some q) (hi : zins q pc = some (I, len)) (h : zstep q i pc I len ls st w = zldI ls k pc' st w) : Rv i pc ls st w = ldI ls k fun x => Rv i pc' ls (.int x :: st) w := by
  rw [Rv_go hq hi, h, ldI_eq]
  unfold zldI
  cases h2 : zld ls k with
  | none => rfl
  | some v => cases v <;> rfl
theorem R_ldA {I : Instr} (hq : zq i = some q) (hi : zins q pc = some (I, len)) (h : zstep q i pc I len ls st w = zldA ls k pc' st w) : Rv i pc ls st w = ldA ls k fun x => Rv i pc' ls (x :: st) w := by
  rw [Rv_go hq hi, h, ldA_eq]
  unfold zldA
  cases h2 : zld ls k with
  | none => rfl
  | some v => cases v <;> rfl
theorem R_ldL {I : Instr} (hq : zq i = some q) (hi : zins q pc = some (I, len)) (h : zstep q i pc I len ls st w = zldL ls k pc' st w) : Rv i pc ls st w = ldL ls k fun x => Rv i pc' ls (.long x :: st) w := by
  rw [Rv_go hq hi, h, ldL_eq]
  unfold zldL
  cases h2 : zld ls k with
  | none => rfl
  | some v => cases v <;> rfl
theorem R_st {I : Instr} {v : Value} (hq : zq i = some q) (hi : zins q pc = some (I, len)) (h : zstep q i pc I len ls st w = zst false pc' ls k v r w) : Rv i pc ls st w = lst ls k (some v) fun l => Rv i pc' l r w := by
  rw [Rv_go hq hi, h, lst_eq]
  unfold zst
  by_cases hc : k < ls.length
  · rw [if_pos ⟨hc, rfl⟩, if_pos hc]; rfl
  · rw [if_neg (fun h => hc h.1), if_neg hc]; rfl
theorem R_stB {I : Instr} {v : Value} (hq : zq i = some q) (hi : zins q pc = some (I, len)) (h : zstep q i pc I len ls st w = zst true pc' ls k v r w) : Rv i pc ls st w = if zpre true ls k = true then lst ls k (some v) fun l => Rv i pc' l r w else none := by
  rw [Rv_go hq hi, h, lst_eq]
  unfold zst
  by_cases hp : zpre true ls k = true
  · rw [if_pos hp]
    by_cases hc : k < ls.length
    · rw [if_pos ⟨hc, hp⟩, if_pos hc]; rfl
    · rw [if_neg (fun h => hc h.1), if_neg hc]; rfl
  · rw [if_neg hp, if_neg (fun h => hp h.2)]; rfl
theorem R_stL {I : Instr} {v : Value} (hq : zq i = some q) (hi : zins q pc = some (I, len)) (h : zstep q i pc I len ls st w = zstL true pc' ls k v r w) : Rv i pc ls st w = if zpre true ls k = true then lst ls k (some v) fun l => lst l (k + 1) none fun l' => Rv i pc' l' r w else none := by
  rw [Rv_go hq hi, h, lst_eq]
  unfold zstL
  by_cases hp : zpre true ls k = true
  · rw [if_pos hp]
    by_cases hc : k + 1 < ls.length
    · rw [if_pos ⟨rfl, hc, hp⟩, if_pos (by omega), lst_eq, List.length_set, if_pos hc]; rfl
    · rw [if_neg (fun h => hc h.2.1)]
      by_cases hk : k < ls.length
      · rw [if_pos hk, lst_eq, List.length_set, if_neg hc]; rfl
      · rw [if_neg hk]; rfl
  · rw [if_neg hp, if_neg (fun h => hp h.2.2)]; rfl
theorem R_iinc {c : Int} {d : Int32} (hq : zq i = some q) (hi : zins q pc = some (.iinc k c, 3)) (hc : Int32.ofInt c = d) : Rv i pc ls st w = ldI ls k fun x => lst ls k (some (.int (x + d))) fun l => Rv i (pc + 3) l st w := by
  rw [Rv_go hq hi, ldI_eq]
  subst hc
  unfold zstep
  dsimp only
  cases h : zld ls k with
  | none => rfl
  | some v =>
    cases v <;> first | rfl | (dsimp only; rw [lst_eq]; split <;> rfl)
theorem R_br {I : Instr} {b : Bool} {off : Int} {t : Nat} (hq : zq i = some q) (hi : zins q pc = some (I, len)) (ht : decide (0 ≤ (pc : Int) + off) = true) (ht' : ztgt pc off = t) (h : zstep q i pc I len ls st w = zbr b pc off ls r w) : Rv i pc ls st w = if b = true then Rv i t ls r w else Rv i (pc + 3) ls r w := by
  rw [Rv_go hq hi, h]
  unfold zbr
  rw [if_pos (of_decide_eq_true ht), ht']
  show Rv i (if b = true then t else pc + 3) ls r w = _
  split <;> rfl
theorem zc_eq : (zcmp .eq x y = true) = (x = y) := by simp [zcmp]
theorem zc_ne : (zcmp .ne x y = true) = ¬ (x = y) := by simp [zcmp]
theorem zc_lt : (zcmp .lt x y = true) = (x < y) := by simp [zcmp]
theorem zc_ge : (zcmp .ge x y = true) = (y ≤ x) := by simp [zcmp]
theorem zc_gt : (zcmp .gt x y = true) = (y < x) := by simp [zcmp]
theorem zc_le : (zcmp .le x y = true) = (x ≤ y) := by simp [zcmp]
end ZRules
