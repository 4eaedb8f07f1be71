/-! SOUNDNESS of the abstract machine -/
def zws (q : zM) : List Cond := zcw q :: GT
def zQc (base : Nat) (φ : Nat → Nat) (D : va_G) (dA : Nat → ClassId) (cE : Nat → Option zE) (r : zR) : Array Value → State → Outcome → State → Prop := fun _ st o t => (∃ v, r.1 = .inl v ∧ o = .returned (v.map (zval φ))) ∧ zHR base φ D dA cE r.2 t.heap ∧ va_F (fun q => base ≤ q) st t
def zXC (base : Nat) (φ : Nat → Nat) (D : va_G) (dA : Nat → ClassId) (cE : Nat → Option zE) (r : zR) : String → State → State → Prop := fun E st t => r.1 = .inr E ∧ zHR base φ D dA cE r.2 t.heap ∧ va_F (fun q => base ≤ q) st t
def zPc (base : Nat) (φ : Nat → Nat) (D : va_G) (dA : Nat → ClassId) (cE : Nat → Option zE) (w : zW) : State → Prop := fun U => zHR base φ D dA cE w U.heap ∧ zK base φ D dA cE U
/-- how a method may end with v -/
def zretI (q : zM) (I : Instr) (len : Nat) (v : Option Value) : Prop :=
  (I = .ireturn ∧ len = 1 ∧ ∃ x, v = some (.int x) ∧ zret q x = true) ∨ (I = .lreturn ∧ len = 1 ∧ ∃ x, v = some (.long x) ∧ q.2.2.2.1 = some .long) ∨
  (I = .areturn ∧ len = 1 ∧ (∃ C, q.2.2.2.1 = some (.object C)) ∧ (v = some .null ∨ ∃ a, v = some (.ref a))) ∨ (I = .return_ ∧ len = 1 ∧ v = none ∧ q.2.2.2.1 = none)
abbrev zEnd (p : Program) (l : Launch) (e : Env) (R : Room) (s : State) (m : MethodId) (args : Array Value) (below : List Frame) (meth : Method) (c : Code) (Q : State → Prop) (base : Nat) (φ : Nat → Nat) (D : va_G) (dA : Nat → ClassId) (cE : Nat → Option zE) (q : zM) (c0 s0 : Nat) (r : zR) : Prop :=
  ∀ (v : Option Value) (pc : Nat) (I : Instr) (len : Nat) (lsC : Array Slot) (H : Heap) (locs : List Loc) (cells slots : Nat), r.1 = .inl v → decode q.2.1 pc = .ok (I, len) → zretI q I len v → zHR base φ D dA cE r.2 H → va_S (fun q => base ≤ q) s.heap H locs → c0 + cells = r.2.1.1 → s0 + slots = r.2.1.2.1 →
    W p l e R s m args below meth c H locs cells slots Q (F0 m pc lsC (v.toList.map (zval φ)))
abbrev zThr (p : Program) (l : Launch) (e : Env) (R : Room) (s : State) (m : MethodId) (args : Array Value) (below : List Frame) (meth : Method) (c : Code) (Q : State → Prop) (base : Nat) (φ : Nat → Nat) (D : va_G) (dA : Nat → ClassId) (cE : Nat → Option zE) (i : Nat) (q : zM) (c0 s0 : Nat) (r : zR) : Prop :=
  ∀ (x : String × Nat × Nat × Nat × String × Nat × Nat) (pc k : Nat) (st : List Value) (w : zW) (ls : zL) (lsC : Array Slot) (H : Heap) (locs : List Loc) (cells slots : Nat), zXT.lookup (i, pc) = some x → r = (.inr x.1, zthw w) → decode q.2.1 pc = .ok (.new k, 3) → zcats st ≤ 8 → 6 ≤ zfr q → 90 ≤ zlo q → q.2.2.2.2.1 = [] →
    zI base φ D dA cE q s c0 s0 ls w lsC H locs cells slots → W p l e R s m args below meth c H locs cells slots Q (F0 m pc lsC (st.map (zval φ)))
abbrev zPrp (p : Program) (l : Launch) (e : Env) (R : Room) (s : State) (m : MethodId) (args : Array Value) (below : List Frame) (meth : Method) (c : Code) (Q : State → Prop) (base : Nat) (φ : Nat → Nat) (D : va_G) (dA : Nat → ClassId) (cE : Nat → Option zE) (q : zM) (c0 s0 : Nat) (r : zR) : Prop :=
  ∀ (E : String) (ce : Cell) (q9 : Addr) (pc : Nat) (rest : List Value) (lsC : Array Slot) (H : Heap) (locs : List Loc) (cells slots : Nat), r.1 = .inr E → q.2.2.2.2.1 = [] → H[q9]? = some ce → ce.vm = .none → s.vm.findClass E = some ce.cls → zHR base φ D dA cE r.2 H → va_S (fun q => base ≤ q) s.heap H locs → c0 + cells = r.2.1.1 → s0 + slots = r.2.1.2.1 →
    vx_W p l e R s m args below meth c H locs cells slots Q (F0 m pc lsC rest) q9
def zSnd (l : Launch) (base : Nat) (φ : Nat → Nat) (D : va_G) (dA : Nat → ClassId) (cE : Nat → Option zE) (n : Nat) : Prop :=
  ∀ (i : Nat) (q : zM) (pc : Nat) (ls : zL) (st : List Value) (w : zW) (r : zR) (p : Program) (e : Env) (s : State) (m : MethodId) (args : Array Value) (below : List Frame) (meth : Method) (c : Code) (R : Room) (Q : State → Prop) (c0 s0 : Nat),
    zq i = some q → zCtx p l q s m args meth c → zK base φ D dA cE s → zrun n i pc ls st w = some r → r.2.1.1 ≤ c0 + R.cells → r.2.1.2.1 ≤ s0 + R.slots → zfr q ≤ R.frames → zlo q ≤ R.locals →
    zEnd p l e R s m args below meth c Q base φ D dA cE q c0 s0 r → zThr p l e R s m args below meth c Q base φ D dA cE i q c0 s0 r → zPrp p l e R s m args below meth c Q base φ D dA cE q c0 s0 r →
    zGo p l e R s m args below meth c Q base φ D dA cE q c0 s0 pc ls st w
/-! a callee's locals -/
def zfm (av : List Value) : zL := av.flatMap fun v => if v.category = 2 then [some v, none] else [some v]
theorem zfm_len (φ : Nat → Nat) (av : List Value) : (lg_sl (av.map (zval φ))).length = (zfm av).length := by
  induction av with
  | nil => rfl
  | cons v av ih =>
    unfold lg_sl zfm at *
    rw [List.map_cons, List.flatMap_cons, List.flatMap_cons, List.length_append, List.length_append, ih, zval_cat]
    split <;> rfl
theorem zfm_at (φ : Nat → Nat) (av : List Value) : ∀ (off j : Nat) (v : Value), (zfm av)[j]? = some (some v) → (off + j, zval φ v) ∈ lv_args off (av.map (zval φ)) := by
  induction av with
  | nil => intro off j v h; simp [zfm] at h
  | cons u av ih =>
    intro off j v h
    unfold zfm at h
    rw [List.flatMap_cons] at h
    rw [List.map_cons, lv_args, zval_cat]
    by_cases hc : u.category = 2
    · rw [if_pos hc] at h ⊢
      match j, h with
      | 0, h => simp at h; subst h; exact List.mem_cons_self
      | 1, h => simp at h
      | j + 2, h =>
        have h2 : (zfm av)[j]? = some (some v) := by simpa [zfm] using h
        have := ih (off + 2) j v h2
        rw [show off + (j + 2) = off + 2 + j by omega]
        exact List.mem_cons_of_mem _ this
    · rw [if_neg hc] at h ⊢
      match j, h with
      | 0, h => simp at h; subst h; exact List.mem_cons_self
      | j + 1, h =>
        have h2 : (zfm av)[j]? = some (some v) := by simpa [zfm] using h
        have := ih (off + 1) j v h2
        rw [show off + (j + 1) = off + 1 + j by omega]
        exact List.mem_cons_of_mem _ this
theorem zfm_cat (av : List Value) (h : av.all (fun v => v.category == 1) = true) : ∀ (j : Nat) (v : Value), (zfm av)[j]? = some (some v) → v.category = 1 := by
  intro j v hj
  have hm := List.mem_of_getElem? hj
  unfold zfm at hm
  obtain ⟨u, hu, hv⟩ := List.mem_flatMap.mp hm
  have h1 := List.all_eq_true.mp h u hu
  simp only [beq_iff_eq] at h1
  rw [if_neg (by omega)] at hv
  simp only [List.mem_singleton, Option.some.injEq] at hv
  subst hv; exact h1
theorem zent_inv {q : zM} {av : List Value} {lj : zL} (h : zent q av = some lj) : (zfm av).length ≤ q.2.2.1 ∧ (q.2.2.2.2.2.2.2.2.1 = true ∨ av.all (fun v => v.category == 1) = true) ∧ lj = zfm av ++ List.replicate (q.2.2.1 - (zfm av).length) none := by
  unfold zent at h
  dsimp only at h
  split at h
  · rename_i hc
    cases h
    exact ⟨hc.1, hc.2, rfl⟩
  · cases h
theorem zent_at {q : zM} {av : List Value} {lj : zL} (h : zent q av = some lj) {j : Nat} {v : Value} (hj : zld lj j = some v) : (zfm av)[j]? = some (some v) := by
  obtain ⟨h1, h2, rfl⟩ := zent_inv h
  have := (zld_some hj).1
  by_cases hl : j < (zfm av).length
  · rw [List.getElem?_append_left hl] at this; exact this
  · rw [List.getElem?_append_right (by omega)] at this
    rw [List.getElem?_replicate] at this
    split at this <;> simp at this
theorem zI_entry {base : Nat} {φ : Nat → Nat} {D : va_G} {dA : Nat → ClassId} {cE : Nat → Option zE} {q : zM} {s : State} {av : List Value} {lj : zL} {w : zW} {lsC : Array Slot} (h : zent q av = some lj) (hr : zHR base φ D dA cE w s.heap) (hl : lv_has lsC q.2.2.1 (lv_args 0 (av.map (zval φ)))) : zI base φ D dA cE q s w.1.1 w.1.2.1 lj w lsC s.heap [] 0 0 := by
  obtain ⟨h1, h2, h3⟩ := zent_inv h
  refine ⟨⟨by rw [h3, List.length_append, List.length_replicate]; omega, hl.1, hl.2.1, fun j v hj => ?_, fun hL j v hj => ?_⟩, hr, va_S.rf, by omega, by omega⟩
  · have := zfm_at φ av 0 j v (zent_at h hj)
    rw [Nat.zero_add] at this
    exact hl.2.2 _ this
  · rcases h2 with h2 | h2
    · rw [hL] at h2; cases h2
    · exact zfm_cat av h2 j v (zent_at h hj)
/-! throws -/
def zXn : List String := ["java/lang/RuntimeException", "java/lang/Exception"]
def zokX (x : (Nat × Nat) × (String × Nat × Nat × Nat × String × Nat × Nat)) : Bool := match zMT[x.1.1]?, lw_tbl[x.2.2.2.2.2.2.1]?, lw_tbl[x.2.2.2.2.2.2.2]? with
  | some q, some (.classLink own ik cls), some (.stringRef own2 is text) => own == q.1.cls && own2 == q.1.cls && ik == x.2.2.1 && cls == x.2.1 && is == x.2.2.2.1 && text == x.2.2.2.2.2.1 && decide (x.2.1 ∈ zEX) && q.1.cls == "MasterPins" && Bundle.fit cls &&
      decide (decode q.2.1 x.1.2 = .ok (.new ik, 3)) && decide (decode q.2.1 (x.1.2 + 3) = .ok (.dup, 1)) && decide (decode q.2.1 (x.1.2 + 4) = .ok (.ldc is, 2)) && decide (decode q.2.1 (x.1.2 + 6) = .ok (.invokespecial x.2.2.2.2.1, 3)) && decide (decode q.2.1 (x.1.2 + 9) = .ok (.athrow, 1)) &&
      decide ((cls, x.2.2.2.2.1) ∈ ([("java/lang/IndexOutOfBoundsException", 238), ("java/lang/IllegalArgumentException", 45), ("java/lang/IllegalStateException", 207)] : List (String × Nat)))
  | _, _, _ => false
theorem zXT_ok : zXT.all zokX = true := by decide +kernel
