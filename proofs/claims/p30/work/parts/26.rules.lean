section ZRules3
variable {i pc pc' len k j n t : Nat} {q qj : zM} {ls lj : zL} {st r : List Value} {w : zW} {x y : Int32}
theorem R_sB {I : Instr} {v : Value} (hq : zq i = some q) (hi : zins q pc = some (I, len)) (h : zstep q i pc I len ls st w = zst true pc' ls k v r w) : Rv i pc ls st w = if lpr ls k = true then lst ls k (some v) fun l => Rv i pc' l r w else none := (R_stB hq hi h).trans (by rw [zpre_lpr])
theorem R_sL {I : Instr} {v : Value} (hq : zq i = some q) (hi : zins q pc = some (I, len)) (h : zstep q i pc I len ls st w = zstL true pc' ls k v r w) (hk : k + 1 = n) : Rv i pc ls st w = if lpr ls k = true then lst ls k (some v) fun l => lst l n none fun l' => Rv i pc' l' r w else none := by
  subst hk
  exact (R_stL hq hi h).trans (by rw [zpre_lpr])
theorem R_con {I : Instr} {c d : Int32} (hq : zq i = some q) (hi : zins q pc = some (I, len)) (h : zstep q i pc I len ls st w = znx pc' ls (.int c :: st) w) (hc : c = d) : Rv i pc ls st w = Rv i pc' ls (.int d :: st) w := by
  subst hc
  exact R_next hq hi h
theorem R_ldc {v : Int32} {z : Nat} (hq : zq i = some q) (hi : zins q pc = some (.ldc k, 2)) (h : zKT.lookup (q.2.2.2.2.2.1, k) = some (v, z)) : Rv i pc ls st w = Rv i (pc + 2) ls (.int v :: st) w := by
  refine R_next hq hi ?_
  simp only [zstep, h]
  rfl
theorem R_ldcw {v : Int32} {z : Nat} (hq : zq i = some q) (hi : zins q pc = some (.ldc_w k, 3)) (h : zKT.lookup (q.2.2.2.2.2.1, k) = some (v, z)) : Rv i pc ls st w = Rv i (pc + 3) ls (.int v :: st) w := by
  refine R_next hq hi ?_
  simp only [zstep, h]
  rfl
theorem R_ldc2 {v : Int64} {z : Nat} (hq : zq i = some q) (hi : zins q pc = some (.ldc2_w k, 3)) (h : zLT.lookup (q.2.2.2.2.2.1, k) = some (v, z)) : Rv i pc ls st w = Rv i (pc + 3) ls (.long v :: st) w := by
  refine R_next hq hi ?_
  simp only [zstep, h]
  rfl
theorem R_gst {v : Value} {z : Nat} (hq : zq i = some q) (hi : zins q pc = some (.getstatic k, 3)) (h : zST.lookup (q.2.2.2.2.2.1, k) = some (v, z)) : Rv i pc ls st w = Rv i (pc + 3) ls (v :: st) w := by
  refine R_next hq hi ?_
  simp only [zstep, h]
  rfl
theorem R_go {off : Int} (hq : zq i = some q) (hi : zins q pc = some (.goto off, 3)) (ht : decide (0 ≤ (pc : Int) + off) = true) (ht' : ztgt pc off = t) : Rv i pc ls st w = Rv i t ls st w := by
  refine R_next hq hi ?_
  subst ht'
  simp only [zstep, if_pos (of_decide_eq_true ht)]
  rfl
theorem R_nuT {off : Int} (hq : zq i = some q) (hi : zins q pc = some (.ifnull off, 3)) (ht : decide (0 ≤ (pc : Int) + off) = true) (ht' : ztgt pc off = t) : Rv i pc ls (.null :: st) w = Rv i t ls st w := (R_br (b := true) hq hi ht ht' rfl).trans (if_pos rfl)
theorem R_nuF {off : Int} {a : Nat} (hq : zq i = some q) (hi : zins q pc = some (.ifnull off, 3)) (ht : decide (0 ≤ (pc : Int) + off) = true) (ht' : ztgt pc off = t) : Rv i pc ls (.ref a :: st) w = Rv i (pc + 3) ls st w := (R_br (b := false) hq hi ht ht' rfl).trans (if_neg (by decide))
theorem R_nnT {off : Int} {a : Nat} (hq : zq i = some q) (hi : zins q pc = some (.ifnonnull off, 3)) (ht : decide (0 ≤ (pc : Int) + off) = true) (ht' : ztgt pc off = t) : Rv i pc ls (.ref a :: st) w = Rv i t ls st w := (R_br (b := true) hq hi ht ht' rfl).trans (if_pos rfl)
theorem R_nnF {off : Int} (hq : zq i = some q) (hi : zins q pc = some (.ifnonnull off, 3)) (ht : decide (0 ≤ (pc : Int) + off) = true) (ht' : ztgt pc off = t) : Rv i pc ls (.null :: st) w = Rv i (pc + 3) ls st w := (R_br (b := false) hq hi ht ht' rfl).trans (if_neg (by decide))
theorem R_f0eq {off : Int} (hq : zq i = some q) (hi : zins q pc = some (.ifCond .eq off, 3)) (ht : decide (0 ≤ (pc : Int) + off) = true) (ht' : ztgt pc off = t) : Rv i pc ls (.int x :: st) w = if x = 0 then Rv i t ls st w else Rv i (pc + 3) ls st w := (R_br (b := zcmp .eq x 0) hq hi ht ht' rfl).trans (by simp only [zc_eq])
theorem R_f0ne {off : Int} (hq : zq i = some q) (hi : zins q pc = some (.ifCond .ne off, 3)) (ht : decide (0 ≤ (pc : Int) + off) = true) (ht' : ztgt pc off = t) : Rv i pc ls (.int x :: st) w = if x = 0 then Rv i (pc + 3) ls st w else Rv i t ls st w := (R_br (b := zcmp .ne x 0) hq hi ht ht' rfl).trans (by simp only [zc_ne, ite_not])
theorem R_f0lt {off : Int} (hq : zq i = some q) (hi : zins q pc = some (.ifCond .lt off, 3)) (ht : decide (0 ≤ (pc : Int) + off) = true) (ht' : ztgt pc off = t) : Rv i pc ls (.int x :: st) w = if x < 0 then Rv i t ls st w else Rv i (pc + 3) ls st w := (R_br (b := zcmp .lt x 0) hq hi ht ht' rfl).trans (by simp only [zc_lt])
theorem R_f0ge {off : Int} (hq : zq i = some q) (hi : zins q pc = some (.ifCond .ge off, 3)) (ht : decide (0 ≤ (pc : Int) + off) = true) (ht' : ztgt pc off = t) : Rv i pc ls (.int x :: st) w = if x < 0 then Rv i (pc + 3) ls st w else Rv i t ls st w := (R_br (b := zcmp .ge x 0) hq hi ht ht' rfl).trans (by simp only [zc_ge, ← Int32.not_lt, ite_not])
theorem R_f0gt {off : Int} (hq : zq i = some q) (hi : zins q pc = some (.ifCond .gt off, 3)) (ht : decide (0 ≤ (pc : Int) + off) = true) (ht' : ztgt pc off = t) : Rv i pc ls (.int x :: st) w = if 0 < x then Rv i t ls st w else Rv i (pc + 3) ls st w := (R_br (b := zcmp .gt x 0) hq hi ht ht' rfl).trans (by simp only [zc_gt])
theorem R_f0le {off : Int} (hq : zq i = some q) (hi : zins q pc = some (.ifCond .le off, 3)) (ht : decide (0 ≤ (pc : Int) + off) = true) (ht' : ztgt pc off = t) : Rv i pc ls (.int x :: st) w = if 0 < x then Rv i (pc + 3) ls st w else Rv i t ls st w := (R_br (b := zcmp .le x 0) hq hi ht ht' rfl).trans (by simp only [zc_le, ← Int32.not_lt, ite_not])
theorem R_fieq {off : Int} (hq : zq i = some q) (hi : zins q pc = some (.if_icmp .eq off, 3)) (ht : decide (0 ≤ (pc : Int) + off) = true) (ht' : ztgt pc off = t) : Rv i pc ls (.int y :: .int x :: st) w = if x = y then Rv i t ls st w else Rv i (pc + 3) ls st w := (R_br (b := zcmp .eq x y) hq hi ht ht' rfl).trans (by simp only [zc_eq])
theorem R_fine {off : Int} (hq : zq i = some q) (hi : zins q pc = some (.if_icmp .ne off, 3)) (ht : decide (0 ≤ (pc : Int) + off) = true) (ht' : ztgt pc off = t) : Rv i pc ls (.int y :: .int x :: st) w = if x = y then Rv i (pc + 3) ls st w else Rv i t ls st w := (R_br (b := zcmp .ne x y) hq hi ht ht' rfl).trans (by simp only [zc_ne, ite_not])
theorem R_filt {off : Int} (hq : zq i = some q) (hi : zins q pc = some (.if_icmp .lt off, 3)) (ht : decide (0 ≤ (pc : Int) + off) = true) (ht' : ztgt pc off = t) : Rv i pc ls (.int y :: .int x :: st) w = if x < y then Rv i t ls st w else Rv i (pc + 3) ls st w := (R_br (b := zcmp .lt x y) hq hi ht ht' rfl).trans (by simp only [zc_lt])
theorem R_fige {off : Int} (hq : zq i = some q) (hi : zins q pc = some (.if_icmp .ge off, 3)) (ht : decide (0 ≤ (pc : Int) + off) = true) (ht' : ztgt pc off = t) : Rv i pc ls (.int y :: .int x :: st) w = if x < y then Rv i (pc + 3) ls st w else Rv i t ls st w := (R_br (b := zcmp .ge x y) hq hi ht ht' rfl).trans (by simp only [zc_ge, ← Int32.not_lt, ite_not])
theorem R_figt {off : Int} (hq : zq i = some q) (hi : zins q pc = some (.if_icmp .gt off, 3)) (ht : decide (0 ≤ (pc : Int) + off) = true) (ht' : ztgt pc off = t) : Rv i pc ls (.int y :: .int x :: st) w = if y < x then Rv i t ls st w else Rv i (pc + 3) ls st w := (R_br (b := zcmp .gt x y) hq hi ht ht' rfl).trans (by simp only [zc_gt])
theorem R_file {off : Int} (hq : zq i = some q) (hi : zins q pc = some (.if_icmp .le off, 3)) (ht : decide (0 ≤ (pc : Int) + off) = true) (ht' : ztgt pc off = t) : Rv i pc ls (.int y :: .int x :: st) w = if y < x then Rv i (pc + 3) ls st w else Rv i t ls st w := (R_br (b := zcmp .le x y) hq hi ht ht' rfl).trans (by simp only [zc_le, ← Int32.not_lt, ite_not])
def ztk (pc : Nat) (offs : List Int) (ts : List Nat) : Bool := match offs, ts with
  | [], [] => true
  | o :: offs, t :: ts => decide (0 ≤ (pc : Int) + o) && (ztgt pc o == t) && ztk pc offs ts
  | _, _ => false
theorem ztk_at {pc : Nat} : ∀ {offs : List Int} {ts : List Nat}, ztk pc offs ts = true → offs.length = ts.length ∧ ∀ (m : Nat) (o : Int), offs[m]? = some o → 0 ≤ (pc : Int) + o ∧ ts[m]? = some (ztgt pc o) := by
  intro offs
  induction offs with
  | nil =>
    intro ts h
    cases ts with
    | nil => exact ⟨rfl, fun m o h => by simp at h⟩
    | cons t ts => cases h
  | cons a offs ih =>
    intro ts h
    cases ts with
    | nil => cases h
    | cons t ts =>
      simp only [ztk, Bool.and_eq_true, decide_eq_true_eq, beq_iff_eq] at h
      obtain ⟨⟨h1, h2⟩, h3⟩ := h
      obtain ⟨i1, i2⟩ := ih h3
      refine ⟨by simp [i1], fun m o hm => ?_⟩
      cases m with
      | zero => cases hm; exact ⟨h1, by simp [h2]⟩
      | succ m => exact i2 m o hm
theorem tsw_at (K : Nat → Option zR) (d : Nat) : ∀ (ts : List Nat) (x lo : Int32), lo.toInt + ts.length < 2147483648 → tsw x lo d K ts = if x.toInt < lo.toInt ∨ lo.toInt + ts.length ≤ x.toInt then K d else K (ts.getD (x.toInt - lo.toInt).toNat d) := by
  intro ts
  induction ts with
  | nil =>
    intro x lo h
    unfold tsw
    rw [if_pos (by simp; omega)]
  | cons t ts ih =>
    intro x lo h
    unfold tsw
    simp only [List.length_cons] at h ⊢
    by_cases hx : x = lo
    · subst hx
      rw [if_pos rfl, if_neg (by omega)]
      simp
    · have hne : x.toInt ≠ lo.toInt := fun e => hx (Int32.toInt_inj.mp e)
      have hl : (lo + 1).toInt = lo.toInt + 1 := by
        rw [Int32.toInt_add]
        have := Int32.le_toInt lo
        have h1 : (1 : Int32).toInt = 1 := rfl
        rw [h1]
        have := Int.bmod_eq_of_le (n := lo.toInt + 1) (m := 4294967296) (by omega) (by omega)
        exact this
      rw [if_neg hx, ih x (lo + 1) (by omega), hl]
      by_cases hc : x.toInt < lo.toInt ∨ lo.toInt + (↑ts.length + 1) ≤ x.toInt
      · rw [if_pos (by omega), if_pos (by omega)]
      · rw [if_neg (by omega), if_neg (by omega)]
        have : (x.toInt - lo.toInt).toNat = (x.toInt - (lo.toInt + 1)).toNat + 1 := by omega
        rw [this]
        simp
theorem R_tsw {d lo hi : Int} {offs : Array Int} {lo' : Int32} {ts : List Nat} (hq : zq i = some q) (hi' : zins q pc = some (.tableswitch d lo hi offs, len)) (h1 : lo'.toInt = lo) (h2 : decide (0 ≤ (pc : Int) + d) = true) (h3 : ztgt pc d = t) (h4 : ztk pc offs.toList ts = true) (h5 : decide (hi + 1 = lo + offs.toList.length ∧ hi < 2147483647) = true) : Rv i pc ls (.int x :: r) w = tsw x lo' t (fun t => Rv i t ls r w) ts := by
  have h5 := of_decide_eq_true h5
  obtain ⟨h6, h7⟩ := ztk_at h4
  rw [Rv_go hq hi', tsw_at _ _ _ _ _ (by omega)]
  unfold zstep
  dsimp only
  by_cases hc : x.toInt < lo ∨ hi < x.toInt
  · rw [if_pos hc, if_pos (of_decide_eq_true h2), if_pos (by omega), h3]; rfl
  · rw [if_neg hc, if_neg (by omega)]
    have hlt : (x.toInt - lo).toNat < offs.toList.length := by omega
    have he : offs.toList[(x.toInt - lo).toNat]? = some offs.toList[(x.toInt - lo).toNat] := List.getElem?_eq_getElem hlt
    obtain ⟨h8, h9⟩ := h7 _ _ he
    rw [← Array.getElem?_toList, he]
    dsimp only
    rw [if_pos h8, h1]
    have : ts.getD (x.toInt - lo).toNat t = ztgt pc offs.toList[(x.toInt - lo).toNat] := by
      rw [List.getD_eq_getElem?_getD, h9]; rfl
    rw [this]
    rfl
end ZRules3
