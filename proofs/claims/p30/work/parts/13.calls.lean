/-! CALLS: their words -/
/-- the word of a method's code -/
def zcw (q : zM) : Cond := if q.2.2.2.2.1 = [] then .code q.1 q.2.1 q.2.2.1 q.2.2.2.1 else .codeWith q.1 q.2.1 q.2.2.1 q.2.2.2.1 q.2.2.2.2.1
theorem zcw_good (q : zM) : goodWord (zcw q) = true := by
  unfold zcw; split <;> rfl
def zsi (q : zM) : Cond := if q.2.2.2.2.2.2.2.2.2 = 99 then .static q.1 else .instanceMethod q.1
theorem zsi_good (q : zM) : goodWord (zsi q) = true := by
  unfold zsi; split <;> rfl
set_option maxRecDepth 100000 in
theorem zMW_ok : zMW.map (fun x => (lw_tbl[x.1]?, lw_tbl[x.2.1]?, lw_tbl[x.2.2.1]?)) = (zMT.dropLast.map fun q => (some (zcw q), some (zsi q), some (Cond.initialized q.1.cls))) := by rfl
theorem zMW_sel : (zMW.zip zMT).all (fun x => x.1.2.2.2 == 9999 || decide (lw_tbl[x.1.2.2.2]? = some (.selects x.2.1.cls x.2.1 x.2.1))) = true := by decide +kernel
theorem zMT_names : zMT.dropLast.all (fun q => decide (q.1.cls ≠ "java/lang/invoke/MethodHandle") && decide (q.1.cls ≠ "java/lang/invoke/VarHandle") && plainName q.1.cls) = true := by decide +kernel
theorem zMW_at {j : Nat} {q : zM} {x : Nat × Nat × Nat × Nat} (hx : zMW[j]? = some x) (hq : zq j = some q) : zcw q ∈ GT ∧ zsi q ∈ GT ∧ Cond.initialized q.1.cls ∈ GT ∧ (q.1.cls ≠ "java/lang/invoke/MethodHandle" ∧ q.1.cls ≠ "java/lang/invoke/VarHandle") ∧ plainName q.1.cls = true ∧ (x.2.2.2 ≠ 9999 → Cond.selects q.1.cls q.1 q.1 ∈ GT) := by
  have h1 : (zMW.map (fun x => (lw_tbl[x.1]?, lw_tbl[x.2.1]?, lw_tbl[x.2.2.1]?)))[j]? = some (lw_tbl[x.1]?, lw_tbl[x.2.1]?, lw_tbl[x.2.2.1]?) := by rw [List.getElem?_map, hx]; rfl
  rw [zMW_ok, List.getElem?_map] at h1
  cases hd : zMT.dropLast[j]? with
  | none => rw [hd] at h1; cases h1
  | some q' =>
    rw [hd] at h1
    have hlt := (List.getElem?_eq_some_iff.mp hd).1
    have hq' : q' = q := by
      have : zMT.dropLast[j]? = zMT[j]? := by
        rw [List.dropLast_eq_take, List.getElem?_take, if_pos (by rw [List.length_dropLast] at hlt; exact hlt)]
      exact Option.some.inj (hd.symm.trans (this.trans hq))
    subst hq'
    simp only [Option.map_some, Option.some.injEq, Prod.mk.injEq] at h1
    obtain ⟨a, b, c⟩ := h1
    have h2 := List.all_eq_true.mp zMT_names q' (List.mem_of_getElem? hd)
    simp only [Bool.and_eq_true, decide_eq_true_eq] at h2
    refine ⟨GT_of a.symm (zcw_good _), GT_of b.symm (zsi_good _), GT_of c.symm rfl, h2.1, h2.2, fun hs => ?_⟩
    have hz : (zMW.zip zMT)[j]? = some (x, q') := by
      rw [List.getElem?_zip_eq_some]
      exact ⟨hx, hq⟩
    have h3 := List.all_eq_true.mp zMW_sel _ (List.mem_of_getElem? hz)
    simp only [Bool.or_eq_true, beq_iff_eq, decide_eq_true_eq] at h3
    rcases h3 with h3 | h3
    · exact absurd h3 hs
    · exact GT_of h3 rfl
def zokC (x : (Nat × Nat) × (Nat × Nat × Nat × Nat)) : Bool :=
  if x.2.1 = 0 ∨ x.2.1 = 1 ∨ x.2.1 = 2 ∨ x.2.1 = 4 then
    (match zMT[x.2.2.1]?, zMW[x.2.2.1]? with
    | some q, some z => decide ((parseMethodDescriptor q.1.desc).map (fun d => d.parameters.length) = some x.2.2.2.1) &&
      (match lw_tbl[x.2.2.2.2]? with
        | some (.methodLink _ _ y) => decide (y = q.1)
        | _ => false) &&
      (if x.2.1 = 0 then decide (q.2.2.2.2.1 = []) && decide (z.2.2.2 ≠ 9999) && decide (q.2.2.2.2.2.2.2.2.2 ≠ 99) && (if q.2.2.2.2.2.2.2.2.2 < 7 then (match vwCl[q.2.2.2.2.2.2.2.2.2]? with | some r => decide (r.1 = q.1.cls) | none => false) else decide (q.2.2.2.2.2.2.2.2.2 = 101) && decide (q.1.cls = "java/lang/String"))
       else if x.2.1 = 1 then decide (q.2.2.2.2.1 = []) && decide (q.2.2.2.2.2.2.2.2.2 = 99)
       else if x.2.1 = 2 then decide (q.2.2.2.2.1 = []) && decide (q.2.2.2.2.2.2.2.2.2 ≠ 99) && decide (q.1.name = "<init>") && decide (q.2.2.2.1 = none)
       else decide (q.2.2.2.2.2.2.2.2.2 = 99) && decide (q.2.2.2.2.1 ≠ []))
    | _, _ => false)
  else true
theorem zCT_ok : zCT.all zokC = true := by decide +kernel
theorem zC_at {oc k kd j n v : Nat} (h : zCT.lookup (oc, k) = some (kd, j, n, v)) (hkd : kd = 0 ∨ kd = 1 ∨ kd = 2 ∨ kd = 4) : ∃ (own : String) (q : zM), zON[oc]? = some own ∧ zq j = some q ∧ Cond.methodLink own k q.1 ∈ GT ∧ zcw q ∈ GT ∧ zsi q ∈ GT ∧ Cond.initialized q.1.cls ∈ GT ∧ (q.1.cls ≠ "java/lang/invoke/MethodHandle" ∧ q.1.cls ≠ "java/lang/invoke/VarHandle") ∧ plainName q.1.cls = true ∧
    (∀ sig, parseMethodDescriptor q.1.desc = some sig → n = sig.parameters.length) ∧
    (kd = 0 → q.2.2.2.2.1 = [] ∧ Cond.selects q.1.cls q.1 q.1 ∈ GT ∧ q.2.2.2.2.2.2.2.2.2 ≠ 99 ∧ ((∃ r, vwCl[q.2.2.2.2.2.2.2.2.2]? = some r ∧ r.1 = q.1.cls) ∨ (q.2.2.2.2.2.2.2.2.2 = 101 ∧ q.1.cls = "java/lang/String"))) ∧
    (kd = 1 → q.2.2.2.2.1 = [] ∧ q.2.2.2.2.2.2.2.2.2 = 99) ∧ (kd = 2 → q.2.2.2.2.1 = [] ∧ q.2.2.2.2.2.2.2.2.2 ≠ 99 ∧ q.1.name = "<init>" ∧ q.2.2.2.1 = none) ∧ (kd = 4 → q.2.2.2.2.2.2.2.2.2 = 99 ∧ q.2.2.2.2.1 ≠ []) := by
  obtain ⟨own, y, e1, e2, e3, -⟩ := zCT_at h
  have h1 := List.all_eq_true.mp zCT_ok _ (z_lookup h)
  unfold zokC at h1
  rw [if_pos hkd] at h1
  split at h1
  · rename_i q z hq hz
    simp only [e3, Bool.and_eq_true, decide_eq_true_eq] at h1
    obtain ⟨⟨a1, a2⟩, a3⟩ := h1
    subst a2
    obtain ⟨b1, b2, b3, b4, b5, b6⟩ := zMW_at hz hq
    refine ⟨own, q, e1, hq, e2, b1, b2, b3, b4, b5, fun sig hs => ?_, fun e => ?_, fun e => ?_, fun e => ?_, fun e => ?_⟩
    · rw [hs] at a1; exact (Option.some.inj a1).symm
    · subst e
      simp only [if_true, Bool.and_eq_true, decide_eq_true_eq] at a3
      obtain ⟨⟨⟨c1, c2⟩, c3⟩, c4⟩ := a3
      refine ⟨c1, b6 c2, c3, ?_⟩
      split at c4
      · split at c4
        · rename_i r hr
          exact Or.inl ⟨r, hr, by simpa using c4⟩
        · cases c4
      · simp only [Bool.and_eq_true, decide_eq_true_eq] at c4
        exact Or.inr c4
    · subst e
      simpa using a3
    · subst e
      simp only [show ¬ (2 = 0) by omega, show ¬ (2 = 1) by omega, if_false, if_true, Bool.and_eq_true, decide_eq_true_eq] at a3
      exact ⟨a3.1.1.1, a3.1.1.2, a3.1.2, a3.2⟩
    · subst e
      simpa using a3
  · cases h1
