/-! THE RELATION between the abstract machine's worlds and the heap -/
def zphi (base : Nat) (cst : Nat → Nat) (k : Nat) : Nat := if k < 40 then cst k else base + (k - 40)
def zval (φ : Nat → Nat) (v : Value) : Value := match v with
  | .ref k => .ref (φ k)
  | v => v
theorem zval_int (φ : Nat → Nat) (x : Int32) : zval φ (.int x) = .int x := rfl
theorem zval_long (φ : Nat → Nat) (x : Int64) : zval φ (.long x) = .long x := rfl
theorem zval_ref (φ : Nat → Nat) (x : Nat) : zval φ (.ref x) = .ref (φ x) := rfl
theorem zval_null (φ : Nat → Nat) : zval φ .null = .null := rfl
theorem zval_cat (φ : Nat → Nat) (v : Value) : (zval φ v).category = v.category := by cases v <;> rfl
def zarr (φ : Nat → Nat) (x : vp_A) : vp_A := (x.1, match x.2 with
  | .inl f => .inl f
  | .inr (.inl f) => .inr (.inl f)
  | .inr (.inr (.inl f)) => .inr (.inr (.inl f))
  | .inr (.inr (.inr (.inl f))) => .inr (.inr (.inr (.inl f)))
  | .inr (.inr (.inr (.inr f))) => .inr (.inr (.inr (.inr fun j => (f j).map φ))))
def zTY : List FieldType := [.int, .int, .byte, .object "MasterPins$Plan"]
def zcell (φ : Nat → Nat) (D : va_G) (dA : Nat → ClassId) (cE : Nat → Option zE) (k : Nat) (e : zE) (H : Heap) : Prop := match e with
  | .inl (t, x) => if t < 8 then 40 ≤ k ∧ t < 4 ∧ H[φ k]? = some (vp_cell (dA t) (zarr φ x)) else cE k = some e
  | .inr (ci, fs) => if ci < 7 then 40 ≤ k ∧ va_at D vwCl (φ k, .inr (ci, fs.map (zval φ))) H else cE k = some e
def zHR (base : Nat) (φ : Nat → Nat) (D : va_G) (dA : Nat → ClassId) (cE : Nat → Option zE) (w : zW) (H : Heap) : Prop :=
  base ≤ H.size ∧ (w.1.2.2 = false → H.size = base + w.1.1) ∧ ∀ k e, w.2 k = some e → zcell φ D dA cE k e H
/-- constants of the start -/
def zcst (φ : Nat → Nat) (A : Nat → Prop) (k : Nat) (e : zE) (U : State) : Prop := match e with
  | .inl (t, n, .inl f) => if t = 8 then va_T .int (φ k) n (fun j => .int (f j)) A U U.heap else if t = 9 then va_T .byte (φ k) n (fun j => .int (f j)) A U U.heap else False
  | .inl (t, n, .inr (.inr (.inr (.inr g)))) => if t = 10 then va_T (.object "MasterPins$Word") (φ k) n (fun j => va_rf ((g j).map φ)) A U U.heap else False
  | .inr (ci, fs) => ∃ cf, zCF[ci - 100]? = some cf ∧ 100 ≤ ci ∧ (∀ (j : Nat) (v : Value) (o n d : String), fs[j]? = some v → cf[j]? = some (o, n, d) → va_OF o n d (zval φ v) (φ k) A U U.heap) ∧ (∀ (j : Nat) (v : Value), fs[j]? = some v → ∃ t, cf[j]? = some t) ∧
      (if ci = 100 then va_O "MasterPins$Word" (φ k) A U U.heap else if ci = 101 then va_O "java/lang/String" (φ k) A U U.heap else False)
  | _ => False
def GT : List Cond := lw_tbl.filter goodWord
/-- words that hold from the start on, though no contract keeps them by itself -/
def zNk : Cond → Bool
  | .castable _ _ => true
  | .declares _ => true
  | .fieldLinkNest _ _ _ _ _ _ => true
  | _ => false
def zNW : List Cond := lw_tbl.filter zNk
theorem zNk_tab {w : Cond} (h : zNk w = true) : w.onTables = true := by
  cases w <;> first | rfl | simp [zNk] at h
theorem zNW_tab {w : Cond} (h : w ∈ zNW) : w.onTables = true := zNk_tab (List.mem_filter.mp h).2
theorem zNk_warm {w : Cond} (h : zNk w = true) {s U : State} (hW : s.WarmedH U.vm) (hZ : va_Nw w s) : va_Nw w U := by
  cases w <;> first | exact va_Nw.warmC hW hZ | exact va_Nw.warmD hW hZ | exact va_Nw.warmF hW hZ | simp [zNk] at h
/-- what is known at each method's start of classes, statics, constants -/
def zK (base : Nat) (φ : Nat → Nat) (D : va_G) (dA : Nat → ClassId) (cE : Nat → Option zE) (U : State) : Prop :=
  va_K D vwCl (zTY.zipIdx.map fun q => (dA q.2, q.1)) U ∧ va_AO "MasterPins$Plan" U ∧
  (∀ k e, cE k = some e → zcst φ (fun q => base ≤ q) k e U) ∧
  (∀ q ∈ zST, ∀ own idx C n d, lw_tbl[q.2.2]? = some (.fieldLink own idx C n d) → va_Z C n d (zval φ q.2.1) (fun q => base ≤ q) U U.heap) ∧
  (∀ q ∈ zXT, ∀ own is text, lw_tbl[q.2.2.2.2.2.2.2]? = some (.stringRef own is text) → ∃ sa, vk_R own is text sa U) ∧
  vx_Zq Bundle.tN "UNASSIGNED_STACK" Bundle.steD (fun q => base ≤ q) U U.heap ∧ vx_Zq Bundle.tN "SUPPRESSED_SENTINEL" Bundle.listD (fun q => base ≤ q) U U.heap ∧
  True ∧
  (∀ w ∈ zNW, va_Nw w U) ∧ True
theorem zcst_to {φ : Nat → Nat} {A : Nat → Prop} {k : Nat} {e : zE} {u U : State} (hvm : u.vm.Alike U.vm) (hq : ∀ a : Nat, a < u.heap.size → ¬ A a → U.heap[a]? = u.heap[a]?) (h : zcst φ A k e u) : zcst φ A k e U := by
  unfold zcst at h ⊢
  split at h
  · split at h
    · rename_i h8; rw [if_pos h8]; exact (h.moved hvm).kept hq
    · rename_i h8; rw [if_neg h8]
      split at h
      · rename_i h9; rw [if_pos h9]; exact (h.moved hvm).kept hq
      · exact h.elim
  · split at h
    · rename_i h8; simp only [if_pos h8]; exact (h.moved hvm).kept hq
    · exact h.elim
  · obtain ⟨cf, h1, h2, h3, h4, h5⟩ := h
    refine ⟨cf, h1, h2, fun j v o n d a b => ((h3 j v o n d a b).moved hvm).kept hq, h4, ?_⟩
    split at h5
    · rename_i h8; rw [if_pos h8]; exact (h5.moved hvm).kept hq
    · rename_i h8; rw [if_neg h8]
      split at h5
      · rename_i h9; rw [if_pos h9]; exact (h5.moved hvm).kept hq
      · exact h5.elim
  · exact h.elim
theorem zK_to {base : Nat} {φ : Nat → Nat} {D : va_G} {dA : Nat → ClassId} {cE : Nat → Option zE} {u U : State} (hW : u.WarmedH U.vm) (hq : ∀ a : Nat, a < u.heap.size → ¬ base ≤ a → U.heap[a]? = u.heap[a]?) (h : zK base φ D dA cE u) : zK base φ D dA cE U := by
  obtain ⟨h1, h2, h3, h4, h5, h6, h7, h8, h9, h10⟩ := h
  have hvm := hW.alike
  refine ⟨va_K.moved hvm h1, va_AO.moved hvm h2, fun k e a => zcst_to hvm hq (h3 k e a), fun q a own idx C n d b => (va_Z.moved hvm (h4 q a own idx C n d b)).kept hq, fun q a own is text b => ?_, (vx_Zq.moved hvm h6).kept hq, (vx_Zq.moved hvm h7).kept hq, trivial, fun w a => zNk_warm (List.mem_filter.mp a).2 hW (h9 w a), trivial⟩
  · obtain ⟨sa, r⟩ := h5 q a own is text b
    exact ⟨sa, vk_R.warm hW r⟩
/-- what is known in a method's body -/
def zCtx (p : Program) (l : Launch) (q : zM) (s : State) (m : MethodId) (args : Array Value) (meth : Method) (c : Code) : Prop :=
  p.tables.exec = Jvm.exec ∧ c.code = q.2.1 ∧ meth.sig.returnType = q.2.2.2.1 ∧ c.maxLocals = q.2.2.1 ∧ s.vm.findClass q.1.cls = some m.cls ∧ (∀ w ∈ GT, w.before args s = true) ∧ meth.locks = false ∧ (q.1.name = "<init>" → meth.name = "<init>") ∧ (∀ w ∈ zNW, w.before args s = true) ∧
  (q.2.2.2.2.1 ≠ [] → c.exceptionTable.toList = tableOf q.2.2.2.2.1) ∧ l.stackTraces = false
/-- the locals, the world, and what was made so far -/
def zI (base : Nat) (φ : Nat → Nat) (D : va_G) (dA : Nat → ClassId) (cE : Nat → Option zE) (q : zM) (s : State) (c0 s0 : Nat) (ls : zL) (w : zW) (lsC : Array Slot) (H : Heap) (locs : List Loc) (cells slots : Nat) : Prop :=
  (ls.length = q.2.2.1 ∧ lsC.size = q.2.2.1 ∧ lv_wf lsC ∧ (∀ j v, zld ls j = some v → lsC[j]? = some (.val (zval φ v))) ∧ (q.2.2.2.2.2.2.2.2.1 = false → ∀ j v, zld ls j = some v → v.category = 1)) ∧
  zHR base φ D dA cE w H ∧ va_S (fun q => base ≤ q) s.heap H locs ∧ c0 + cells = w.1.1 ∧ s0 + slots = w.1.2.1
theorem zld_some {ls : zL} {k : Nat} {v : Value} (h : zld ls k = some v) : ls[k]? = some (some v) ∧ k < ls.length := by
  unfold zld at h
  cases hk : ls[k]? with
  | none => rw [hk] at h; cases h
  | some x => rw [hk] at h; simp at h; subst h; exact ⟨rfl, (List.getElem?_eq_some_iff.mp hk).1⟩
theorem zld_set {ls : zL} {k j : Nat} {x : Option Value} (hk : k < ls.length) : zld (ls.set k x) j = if j = k then x else zld ls j := by
  unfold zld
  by_cases h : j = k
  · subst h; rw [if_pos rfl, List.getElem?_set_self hk]; simp
  · rw [if_neg h, List.getElem?_set_ne (fun e => h e.symm)]
def zlv (φ : Nat → Nat) (ls : zL) : List (Nat × Value) := (List.range ls.length).filterMap fun j => (zld ls j).map fun v => (j, zval φ v)
theorem zlv_mem {φ : Nat → Nat} {ls : zL} {q : Nat × Value} : q ∈ zlv φ ls ↔ ∃ v, zld ls q.1 = some v ∧ q.2 = zval φ v := by
  unfold zlv
  rw [List.mem_filterMap]
  constructor
  · rintro ⟨j, -, h⟩
    cases hj : zld ls j with
    | none => rw [hj] at h; cases h
    | some v => rw [hj] at h; simp at h; subst h; exact ⟨v, hj, rfl⟩
  · rintro ⟨v, h, e⟩
    refine ⟨q.1, List.mem_range.mpr (zld_some h).2, ?_⟩
    rw [h]; simp [e.symm]
