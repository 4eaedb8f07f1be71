/-! THE TABLES ARE RIGHT: each entry's word stands among the statement's words -/
theorem z_lookup {α β : Type} [BEq α] [LawfulBEq α] {l : List (α × β)} {a : α} {b : β} (h : l.lookup a = some b) : (a, b) ∈ l := by
  induction l with
  | nil => cases h
  | cons x l ih =>
    obtain ⟨x1, x2⟩ := x
    rw [List.lookup_cons] at h
    split at h
    · rename_i h1
      cases h
      rw [eq_of_beq h1]
      exact List.mem_cons_self
    · exact List.mem_cons_of_mem _ (ih h)
theorem GT_of {n : Nat} {w : Cond} (h : lw_tbl[n]? = some w) (hg : goodWord w = true) : w ∈ GT := List.mem_filter.mpr ⟨List.mem_of_getElem? h, hg⟩
/-- fields -/
def zokF (x : (Nat × Nat) × (Nat × Nat × Nat)) : Bool := match lw_tbl[x.2.2.2]? with
  | some (.fieldLink own idx ref n d) => zON[x.1.1]? == some own && idx == x.1.2 && (if x.2.1 < 7 then (match vwCl[x.2.1]? with
      | some (C, T, N) => C == ref && decide (x.2.2.1 < N) && (T x.2.2.1).1 == ref && (T x.2.2.1).2.1 == n && (T x.2.2.1).2.2.1 == d
      | none => false) else (match zCF[x.2.1 - 100]? with
      | some cf => decide (100 ≤ x.2.1) && cf[x.2.2.1]? == some (ref, n, d)
      | none => false))
  | some (.fieldLinkNest own idx ref n d host) => zON[x.1.1]? == some own && idx == x.1.2 && decide (100 ≤ x.2.1) && (match zCF[x.2.1 - 100]? with
      | some cf => cf[x.2.2.1]? == some (ref, n, d)
      | none => false)
  | _ => false
theorem zFT_ok : zFT.all zokF = true := by decide +kernel
theorem zMT_oc : zMT.all (fun q => zON[q.2.2.2.2.2.1]? == some q.1.cls) = true := by decide +kernel
theorem zCl_ws : ∀ r ∈ vwCl, ∀ w ∈ u_ws r.1 r.2.1 r.2.2, w ∈ GT := by decide +kernel
theorem zCl_nm : ∀ r ∈ vwCl, ∀ a, a < r.2.2 → ∀ b, b < r.2.2 → a ≠ b → (r.2.1 a).2.1 ≠ (r.2.1 b).2.1 := by decide +kernel
def zty (r : vw_C) (k : Nat) : FieldType := (parseFieldDescriptor (r.2.1 k).2.2.1).getD .int
theorem zCl_ty : ∀ r ∈ vwCl, ∀ k, k < r.2.2 → parseFieldDescriptor (r.2.1 k).2.2.1 = some (zty r k) := by decide +kernel
def zisref : FieldType → Bool
  | .object _ => true
  | .array _ => true
  | _ => false
theorem zFK_ok : ∀ ci, ci < 7 → ∀ k, k < (vwCl[ci]?.getD ("", fun _ => ("", "", "", false), 0)).2.2 → (zFK[ci]?.getD [])[k]? = some (decide (zty (vwCl[ci]?.getD ("", fun _ => ("", "", "", false), 0)) k = .int), ((vwCl[ci]?.getD ("", fun _ => ("", "", "", false), 0)).2.1 k).2.2.2) ∧ (zty (vwCl[ci]?.getD ("", fun _ => ("", "", "", false), 0)) k = .int ∨ zisref (zty (vwCl[ci]?.getD ("", fun _ => ("", "", "", false), 0)) k) = true) := by decide +kernel
theorem zFK_len : ∀ ci, ci < 7 → (zFK[ci]?.getD []).length = (vwCl[ci]?.getD ("", fun _ => ("", "", "", false), 0)).2.2 := by decide +kernel
theorem zMT_ci : zMT.all (fun q => match vwCl[q.2.2.2.2.2.2.2.2.2]? with | some r => r.1 == q.1.cls | none => true) = true := by decide +kernel
