theorem zIN : ∀ r ∈ (vwCl.zip [6, 7, 12, 4, 2, 4] : List (vw_C × Nat)), Cond.instantiable r.1.1 r.2 ∈ lw_tbl := by decide +kernel
theorem zIN_len : vwCl.length = 6 := rfl
theorem zNa_Z : Cond.laysStatic Bundle.tN "UNASSIGNED_STACK" Bundle.steD ∈ lw_tbl ∧ Cond.laysStatic Bundle.tN "SUPPRESSED_SENTINEL" Bundle.listD ∈ lw_tbl ∧ Cond.initialized Bundle.tN ∈ lw_tbl ∧ Cond.arrayOver (.object "MasterPins$Plan") ∈ lw_tbl := by decide +kernel
def zXin (x : (Nat × Nat) × (String × Nat × Nat × Nat × String × Nat × Nat)) : Bool := match lw_tbl[x.2.2.2.2.2.2.2]? with
  | some (.stringRef own is _) => own == "MasterPins" && decide (is ∈ ([43, 205, 236, 239, 241] : List Nat))
  | _ => true
theorem zXT_is : zXT.all zXin = true := by decide +kernel
theorem zArr_prim {s : State} {args : Array Value} {ty : FieldType} (hno : ∀ C, ty ≠ .object C) (h : (Cond.arrayClass ty).before args s = true) : ∃ cA, ArrOfT s cA ty ∧ va_RA s cA ty := by
  obtain ⟨cA, kA, comp, h1, h2, h3⟩ := Cond.arrayClass_spec h
  refine ⟨cA, fun n z => ⟨fun k h => (by cases h), kA, h2, comp, h3⟩, ?_⟩
  cases ty <;> first | exact h1 | exact absurd rfl (hno _)
theorem zArr_obj {s : State} {args : Array Value} {C : String} (h : (Cond.arrayOver (.object C)).before args s = true) : ∃ cA, ArrOfT s cA (.object C) ∧ va_RA s cA (.object C) := by
  obtain ⟨comp, c, k, h1, h2, h3, h4, h5⟩ := Cond.arrayOver_spec h
  exact ⟨c, fun n z => ⟨fun k h => (by cases h), k, h3, comp, h4⟩, k, comp, h3, h4, h1, h5⟩
theorem zva_K {s : State} {args : Array Value} (hts : ∀ w ∈ lw_tbl, w.before args s = true) : ∃ (D : va_G) (dA : Nat → ClassId), va_K D vwCl (zTY.zipIdx.map fun q => (dA q.2, q.1)) s := by
  have hg : ∀ w ∈ GT, w.before args s = true := fun w h => hts w (List.mem_filter.mp h).1
  have h1 : ∀ c : Nat, ∃ x : ClassId × (Nat → Nat), ∀ r, vwCl[c]? = some r → u_Kn s r.1 r.2.1 r.2.2 x.1 x.2 := by
    intro c
    by_cases hc : c < 6
    · have hl : c < vwCl.length := by rw [zIN_len]; exact hc
      have hr : vwCl[c]? = some vwCl[c] := List.getElem?_eq_getElem hl
      have hn : ∃ n, Cond.instantiable vwCl[c].1 n ∈ lw_tbl := by
        have : ∃ n, ([6, 7, 12, 4, 2, 4] : List Nat)[c]? = some n := ⟨_, List.getElem?_eq_getElem (by exact hc)⟩
        obtain ⟨n, hn⟩ := this
        refine ⟨n, zIN (vwCl[c], n) (List.mem_of_getElem? (i := c) ?_)⟩
        rw [List.getElem?_zip_eq_some]
        exact ⟨hr, hn⟩
      obtain ⟨n, hn⟩ := hn
      obtain ⟨cC, iS, h⟩ := u_known hg (zCl_ws _ (List.getElem_mem hl)) (hts _ hn)
      exact ⟨(cC, iS), fun r e => by rw [hr] at e; cases e; exact h⟩
    · exact ⟨(default, fun _ => 0), fun r e => by rw [List.getElem?_eq_none (by rw [zIN_len]; omega)] at e; cases e⟩
  obtain ⟨X, hX⟩ := Classical.axiomOfChoice h1
  obtain ⟨aI, i1, i2⟩ := zArr_prim (fun C h => by cases h) (hg _ zGT_arr.1)
  obtain ⟨aL, l1, l2⟩ := zArr_prim (fun C h => by cases h) (hg _ zGT_arr.1)
  obtain ⟨aB, b1, b2⟩ := zArr_prim (fun C h => by cases h) (hg _ zGT_arr.2)
  obtain ⟨aP, p1, p2⟩ := zArr_obj (hts _ zNa_Z.2.2.2)
  refine ⟨(fun c => (X c).1, fun c => (X c).2), fun k => if k = 0 then aI else if k = 1 then aL else if k = 2 then aB else aP, fun c r h => hX c r h, fun k r h => ?_⟩
  match k, h with
  | 0, h => cases h; exact ⟨i1, i2⟩
  | 1, h => cases h; exact ⟨l1, l2⟩
  | 2, h => cases h; exact ⟨b1, b2⟩
  | 3, h => cases h; exact ⟨p1, p2⟩
  | k + 4, h => simp [zTY] at h
