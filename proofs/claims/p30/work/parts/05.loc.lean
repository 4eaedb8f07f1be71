/-! locals: what a store leaves -/
theorem zpre_cat {hl : Bool} {ls : zL} {k j : Nat} {v : Value} (h : zpre hl ls k = true) (hc : hl = false → ∀ j v, zld ls j = some v → v.category = 1) (hj : j + 1 = k) (hv : zld ls j = some v) : ¬ v.category = 2 := by
  intro h2
  cases hl with
  | false => have := hc rfl j v hv; omega
  | true =>
    subst hj
    simp only [zpre, Bool.not_true, Bool.false_or, hv] at h
    cases v <;> simp [Value.category] at h2 h
theorem zI_set1 {base : Nat} {φ : Nat → Nat} {D : va_G} {dA : Nat → ClassId} {cE : Nat → Option zE} {q : zM} {s : State} {c0 s0 : Nat} {ls : zL} {w : zW} {lsC ls' : Array Slot} {H : Heap} {locs : List Loc} {cells slots k : Nat} {v : Value}
    (hI : zI base φ D dA cE q s c0 s0 ls w lsC H locs cells slots) (hk : k < ls.length) (hp : zpre q.2.2.2.2.2.2.2.2.1 ls k = true) (hv : v.category = 1)
    (h' : lv_has ls' q.2.2.1 ((k, zval φ v) :: (zlv φ ls).filter (fun q => !(q.1 == k) && !(q.1 + 1 == k && q.2.category == 2)))) : zI base φ D dA cE q s c0 s0 (ls.set k (some v)) w ls' H locs cells slots := by
  obtain ⟨⟨h1, h2, h3, h4, h5⟩, hr⟩ := hI
  refine ⟨⟨by rw [List.length_set]; exact h1, h'.1, h'.2.1, fun j u hj => ?_, fun hl j u hj => ?_⟩, hr⟩
  · rw [zld_set hk] at hj
    by_cases e : j = k
    · rw [if_pos e] at hj; cases hj; subst e
      exact h'.2.2 _ List.mem_cons_self
    · rw [if_neg e] at hj
      refine h'.2.2 (j, zval φ u) (List.mem_cons_of_mem _ (List.mem_filter.mpr ⟨zlv_mem.mpr ⟨u, hj, rfl⟩, ?_⟩))
      by_cases e2 : j + 1 = k
      · have := zpre_cat hp h5 e2 hj
        simp [e, zval_cat, this]
      · simp [e, e2]
  · rw [zld_set hk] at hj
    by_cases e : j = k
    · rw [if_pos e] at hj; cases hj; exact hv
    · rw [if_neg e] at hj; exact h5 hl j u hj
theorem zI_clr {base : Nat} {φ : Nat → Nat} {D : va_G} {dA : Nat → ClassId} {cE : Nat → Option zE} {q : zM} {s : State} {c0 s0 : Nat} {ls : zL} {w : zW} {lsC : Array Slot} {H : Heap} {locs : List Loc} {cells slots k : Nat}
    (hI : zI base φ D dA cE q s c0 s0 ls w lsC H locs cells slots) (hk : k < ls.length) : zI base φ D dA cE q s c0 s0 (ls.set k none) w lsC H locs cells slots := by
  obtain ⟨⟨h1, h2, h3, h4, h5⟩, hr⟩ := hI
  refine ⟨⟨by rw [List.length_set]; exact h1, h2, h3, fun j u hj => ?_, fun hl j u hj => ?_⟩, hr⟩
  · rw [zld_set hk] at hj
    by_cases e : j = k
    · rw [if_pos e] at hj; cases hj
    · rw [if_neg e] at hj; exact h4 j u hj
  · rw [zld_set hk] at hj
    by_cases e : j = k
    · rw [if_pos e] at hj; cases hj
    · rw [if_neg e] at hj; exact h5 hl j u hj
theorem zI_set2 {base : Nat} {φ : Nat → Nat} {D : va_G} {dA : Nat → ClassId} {cE : Nat → Option zE} {q : zM} {s : State} {c0 s0 : Nat} {ls : zL} {w : zW} {lsC ls' : Array Slot} {H : Heap} {locs : List Loc} {cells slots k : Nat} {v : Value}
    (hI : zI base φ D dA cE q s c0 s0 ls w lsC H locs cells slots) (hk : k + 1 < ls.length) (hp : zpre q.2.2.2.2.2.2.2.2.1 ls k = true) (hL : q.2.2.2.2.2.2.2.2.1 = true)
    (h' : lv_has ls' q.2.2.1 ((k, zval φ v) :: (zlv φ ls).filter (fun q => !(q.1 == k) && (!(q.1 == k + 1) && !(q.1 + 1 == k && q.2.category == 2))))) : zI base φ D dA cE q s c0 s0 ((ls.set k (some v)).set (k + 1) none) w ls' H locs cells slots := by
  obtain ⟨⟨h1, h2, h3, h4, h5⟩, hr⟩ := hI
  have hk1 : k + 1 < (ls.set k (some v)).length := by rw [List.length_set]; exact hk
  refine ⟨⟨by rw [List.length_set, List.length_set]; exact h1, h'.1, h'.2.1, fun j u hj => ?_, fun hl j u hj => ?_⟩, hr⟩
  · rw [zld_set hk1] at hj
    by_cases e1 : j = k + 1
    · rw [if_pos e1] at hj; cases hj
    rw [if_neg e1, zld_set (by omega)] at hj
    by_cases e : j = k
    · rw [if_pos e] at hj; cases hj; subst e
      exact h'.2.2 _ List.mem_cons_self
    · rw [if_neg e] at hj
      refine h'.2.2 (j, zval φ u) (List.mem_cons_of_mem _ (List.mem_filter.mpr ⟨zlv_mem.mpr ⟨u, hj, rfl⟩, ?_⟩))
      by_cases e2 : j + 1 = k
      · have := zpre_cat hp h5 e2 hj
        simp [e, e1, zval_cat, this]
      · simp [e, e1, e2]
  · rw [hL] at hl; cases hl
theorem zI_lv {base : Nat} {φ : Nat → Nat} {D : va_G} {dA : Nat → ClassId} {cE : Nat → Option zE} {q : zM} {s : State} {c0 s0 : Nat} {ls : zL} {w : zW} {lsC : Array Slot} {H : Heap} {locs : List Loc} {cells slots : Nat}
    (hI : zI base φ D dA cE q s c0 s0 ls w lsC H locs cells slots) : lv_has lsC q.2.2.1 (zlv φ ls) := by
  obtain ⟨⟨h1, h2, h3, h4, h5⟩, hr⟩ := hI
  refine ⟨h2, h3, fun x hx => ?_⟩
  obtain ⟨v, a, b⟩ := zlv_mem.mp hx
  rw [b]; exact h4 _ _ a
section ZLoc
variable {p : Program} {l : Launch} {e : Env} {R : Room} {s : State} {m : MethodId} {args : Array Value} {below : List Frame} {meth : Method} {c : Code} {H : Heap} {locs : List Loc} {cells slots : Nat} {Q : State → Prop}
variable {base : Nat} {φ : Nat → Nat} {D : va_G} {dA : Nat → ClassId} {cE : Nat → Option zE} {q : zM} {c0 s0 : Nat} {ls ls' : zL} {w w' : zW} {lsC : Array Slot} {pc pc' : Nat} {st st' : List Value}
/-- what comes of a state -/
abbrev zGo (p : Program) (l : Launch) (e : Env) (R : Room) (s : State) (m : MethodId) (args : Array Value) (below : List Frame) (meth : Method) (c : Code) (Q : State → Prop) (base : Nat) (φ : Nat → Nat) (D : va_G) (dA : Nat → ClassId) (cE : Nat → Option zE) (q : zM) (c0 s0 pc : Nat) (ls : zL) (st : List Value) (w : zW) : Prop :=
  ∀ (lsC : Array Slot) (H : Heap) (locs : List Loc) (cells slots : Nat), zI base φ D dA cE q s c0 s0 ls w lsC H locs cells slots → W p l e R s m args below meth c H locs cells slots Q (F0 m pc lsC (st.map (zval φ)))
theorem zs_ldA {I : Instr} {k len : Nat} (C : zCtx p l q s m args meth c) (hI : zI base φ D dA cE q s c0 s0 ls w lsC H locs cells slots) (hd : decode q.2.1 pc = .ok (I, len)) (hi : (I = .aload k ∧ len = 2) ∨ (∃ n : Fin 4, I = .aload_n n ∧ n = k ∧ len = 1))
    (h : zldA ls k (pc + len) st w = some (.inl (pc', ls', st', w'))) (kk : zGo p l e R s m args below meth c Q base φ D dA cE q c0 s0 pc' ls' st' w') : W p l e R s m args below meth c H locs cells slots Q (F0 m pc lsC (st.map (zval φ))) := by
  obtain ⟨hx, hb, -⟩ := C
  unfold zldA at h
  split at h
  · rename_i a hl
    simp only [znx, Option.some.injEq, Sum.inl.injEq, Prod.mk.injEq] at h
    obtain ⟨rfl, rfl, rfl, rfl⟩ := h
    have hl' := hI.1.2.2.2.1 _ _ hl
    rcases hi with ⟨rfl, rfl⟩ | ⟨n, rfl, rfl, rfl⟩
    · exact lv_aload hx hb hd hl' (kk _ _ _ _ _ hI)
    · exact lv_aload_n hx hb hd rfl hl' (kk _ _ _ _ _ hI)
  · rename_i hl
    simp only [znx, Option.some.injEq, Sum.inl.injEq, Prod.mk.injEq] at h
    obtain ⟨rfl, rfl, rfl, rfl⟩ := h
    have hl' := hI.1.2.2.2.1 _ _ hl
    rcases hi with ⟨rfl, rfl⟩ | ⟨n, rfl, rfl, rfl⟩
    · exact lv_aloadN hx hb hd hl' (kk _ _ _ _ _ hI)
    · exact lv_aload_nN hx hb hd rfl hl' (kk _ _ _ _ _ hI)
  · cases h
theorem zs_ldI {I : Instr} {k len : Nat} (C : zCtx p l q s m args meth c) (hI : zI base φ D dA cE q s c0 s0 ls w lsC H locs cells slots) (hd : decode q.2.1 pc = .ok (I, len)) (hi : (I = .iload k ∧ len = 2) ∨ (∃ n : Fin 4, I = .iload_n n ∧ n = k ∧ len = 1))
    (h : zldI ls k (pc + len) st w = some (.inl (pc', ls', st', w'))) (kk : zGo p l e R s m args below meth c Q base φ D dA cE q c0 s0 pc' ls' st' w') : W p l e R s m args below meth c H locs cells slots Q (F0 m pc lsC (st.map (zval φ))) := by
  obtain ⟨hx, hb, -⟩ := C
  unfold zldI at h
  split at h
  · rename_i a hl
    simp only [znx, Option.some.injEq, Sum.inl.injEq, Prod.mk.injEq] at h
    obtain ⟨rfl, rfl, rfl, rfl⟩ := h
    have hl' := hI.1.2.2.2.1 _ _ hl
    rcases hi with ⟨rfl, rfl⟩ | ⟨n, rfl, rfl, rfl⟩
    · exact lv_iload hx hb hd hl' (kk _ _ _ _ _ hI)
    · exact lv_iload_n hx hb hd rfl hl' (kk _ _ _ _ _ hI)
  · cases h
theorem zs_ldL {k : Fin 4} (C : zCtx p l q s m args meth c) (hI : zI base φ D dA cE q s c0 s0 ls w lsC H locs cells slots) (hd : decode q.2.1 pc = .ok (.lload_n k, 1))
    (h : zldL ls k (pc + 1) st w = some (.inl (pc', ls', st', w'))) (kk : zGo p l e R s m args below meth c Q base φ D dA cE q c0 s0 pc' ls' st' w') : W p l e R s m args below meth c H locs cells slots Q (F0 m pc lsC (st.map (zval φ))) := by
  obtain ⟨hx, hb, -⟩ := C
  unfold zldL at h
  split at h
  · rename_i a hl
    simp only [znx, Option.some.injEq, Sum.inl.injEq, Prod.mk.injEq] at h
    obtain ⟨rfl, rfl, rfl, rfl⟩ := h
    have hl' := hI.1.2.2.2.1 _ _ hl
    exact lv_lload_n hx hb hd rfl hl' (kk _ _ _ _ _ hI)
  · cases h
theorem zs_stI {I : Instr} {k len : Nat} {x : Int32} {r : List Value} (C : zCtx p l q s m args meth c) (hI : zI base φ D dA cE q s c0 s0 ls w lsC H locs cells slots) (hd : decode q.2.1 pc = .ok (I, len)) (hi : (I = .istore k ∧ len = 2) ∨ (∃ n : Fin 4, I = .istore_n n ∧ n = k ∧ len = 1))
    (h : zst q.2.2.2.2.2.2.2.2.1 (pc + len) ls k (.int x) r w = some (.inl (pc', ls', st', w'))) (kk : zGo p l e R s m args below meth c Q base φ D dA cE q c0 s0 pc' ls' st' w') : W p l e R s m args below meth c H locs cells slots Q (F0 m pc lsC ((Value.int x :: r).map (zval φ))) := by
  obtain ⟨hx, hb, -⟩ := C
  unfold zst at h
  split at h
  · rename_i hk
    simp only [znx, Option.some.injEq, Sum.inl.injEq, Prod.mk.injEq] at h
    obtain ⟨rfl, rfl, rfl, rfl⟩ := h
    have hn : k < q.2.2.1 := by rw [← hI.1.1]; exact hk.1
    rcases hi with ⟨rfl, rfl⟩ | ⟨n, rfl, rfl, rfl⟩
    · exact lv_istore hx hb hd (zI_lv hI) hn rfl fun ls2 h2 => kk _ _ _ _ _ (zI_set1 hI hk.1 hk.2 rfl h2)
    · exact lv_istore_n hx hb hd rfl (zI_lv hI) hn rfl fun ls2 h2 => kk _ _ _ _ _ (zI_set1 hI hk.1 hk.2 rfl h2)
  · cases h
theorem zs_stA {I : Instr} {k len x : Nat} {r : List Value} (C : zCtx p l q s m args meth c) (hI : zI base φ D dA cE q s c0 s0 ls w lsC H locs cells slots) (hd : decode q.2.1 pc = .ok (I, len)) (hi : (I = .astore k ∧ len = 2) ∨ (∃ n : Fin 4, I = .astore_n n ∧ n = k ∧ len = 1))
    (h : zst q.2.2.2.2.2.2.2.2.1 (pc + len) ls k (.ref x) r w = some (.inl (pc', ls', st', w'))) (kk : zGo p l e R s m args below meth c Q base φ D dA cE q c0 s0 pc' ls' st' w') : W p l e R s m args below meth c H locs cells slots Q (F0 m pc lsC ((Value.ref x :: r).map (zval φ))) := by
  obtain ⟨hx, hb, -⟩ := C
  unfold zst at h
  split at h
  · rename_i hk
    simp only [znx, Option.some.injEq, Sum.inl.injEq, Prod.mk.injEq] at h
    obtain ⟨rfl, rfl, rfl, rfl⟩ := h
    have hn : k < q.2.2.1 := by rw [← hI.1.1]; exact hk.1
    rcases hi with ⟨rfl, rfl⟩ | ⟨n, rfl, rfl, rfl⟩
    · exact lv_astore hx hb hd (zI_lv hI) hn rfl fun ls2 h2 => kk _ _ _ _ _ (zI_set1 (v := .ref x) hI hk.1 hk.2 rfl h2)
    · exact lv_astore_n hx hb hd rfl (zI_lv hI) hn rfl fun ls2 h2 => kk _ _ _ _ _ (zI_set1 (v := .ref x) hI hk.1 hk.2 rfl h2)
  · cases h
theorem zs_stN {I : Instr} {k len : Nat} {r : List Value} (C : zCtx p l q s m args meth c) (hI : zI base φ D dA cE q s c0 s0 ls w lsC H locs cells slots) (hd : decode q.2.1 pc = .ok (I, len)) (hi : (I = .astore k ∧ len = 2) ∨ (∃ n : Fin 4, I = .astore_n n ∧ n = k ∧ len = 1))
    (h : zst q.2.2.2.2.2.2.2.2.1 (pc + len) ls k .null r w = some (.inl (pc', ls', st', w'))) (kk : zGo p l e R s m args below meth c Q base φ D dA cE q c0 s0 pc' ls' st' w') : W p l e R s m args below meth c H locs cells slots Q (F0 m pc lsC ((Value.null :: r).map (zval φ))) := by
  obtain ⟨hx, hb, -⟩ := C
  unfold zst at h
  split at h
  · rename_i hk
    simp only [znx, Option.some.injEq, Sum.inl.injEq, Prod.mk.injEq] at h
    obtain ⟨rfl, rfl, rfl, rfl⟩ := h
    have hn : k < q.2.2.1 := by rw [← hI.1.1]; exact hk.1
    rcases hi with ⟨rfl, rfl⟩ | ⟨n, rfl, rfl, rfl⟩
    · exact lv_astoreN hx hb hd (zI_lv hI) hn rfl fun ls2 h2 => kk _ _ _ _ _ (zI_set1 (v := .null) hI hk.1 hk.2 rfl h2)
    · exact lv_astore_nN hx hb hd rfl (zI_lv hI) hn rfl fun ls2 h2 => kk _ _ _ _ _ (zI_set1 (v := .null) hI hk.1 hk.2 rfl h2)
  · cases h
theorem zs_stL {k : Fin 4} {x : Int64} {r : List Value} (C : zCtx p l q s m args meth c) (hI : zI base φ D dA cE q s c0 s0 ls w lsC H locs cells slots) (hd : decode q.2.1 pc = .ok (.lstore_n k, 1))
    (h : zstL q.2.2.2.2.2.2.2.2.1 (pc + 1) ls k (.long x) r w = some (.inl (pc', ls', st', w'))) (kk : zGo p l e R s m args below meth c Q base φ D dA cE q c0 s0 pc' ls' st' w') : W p l e R s m args below meth c H locs cells slots Q (F0 m pc lsC ((Value.long x :: r).map (zval φ))) := by
  obtain ⟨hx, hb, -⟩ := C
  unfold zstL at h
  split at h
  · rename_i hk
    simp only [znx, Option.some.injEq, Sum.inl.injEq, Prod.mk.injEq] at h
    obtain ⟨rfl, rfl, rfl, rfl⟩ := h
    have hn : (k : Nat) + 1 < q.2.2.1 := by rw [← hI.1.1]; exact hk.2.1
    exact lv_lstore_n hx hb hd rfl (zI_lv hI) hn rfl fun ls2 h2 => kk _ _ _ _ _ (zI_set2 (v := .long x) hI hk.2.1 hk.2.2 hk.1 h2)
  · cases h
theorem zs_iinc {k : Nat} {n : Int} (C : zCtx p l q s m args meth c) (hI : zI base φ D dA cE q s c0 s0 ls w lsC H locs cells slots) (hd : decode q.2.1 pc = .ok (.iinc k n, 3))
    (h : (match zld ls k with | some (.int x) => if k < ls.length then znx (pc + 3) (ls.set k (some (.int (x + Int32.ofInt n)))) st w else none | _ => none) = some (.inl (pc', ls', st', w')))
    (kk : zGo p l e R s m args below meth c Q base φ D dA cE q c0 s0 pc' ls' st' w') : W p l e R s m args below meth c H locs cells slots Q (F0 m pc lsC (st.map (zval φ))) := by
  obtain ⟨hx, hb, -⟩ := C
  split at h
  · rename_i x hl
    split at h
    · rename_i hk
      simp only [znx, Option.some.injEq, Sum.inl.injEq, Prod.mk.injEq] at h
      obtain ⟨rfl, rfl, rfl, rfl⟩ := h
      have hn : k < q.2.2.1 := by rw [← hI.1.1]; exact hk
      obtain ⟨j, hj⟩ := List.getElem?_of_mem (zlv_mem (φ := φ).mpr ⟨_, hl, rfl⟩ : (k, Value.int x) ∈ zlv φ ls)
      refine lv_iinc hx hb hd (zI_lv hI) hj rfl hn rfl fun ls2 h2 => kk _ _ _ _ _ ?_
      have hpre : ∀ u : Value, (k, u) ∈ zlv φ ls → True := fun _ _ => trivial
      obtain ⟨⟨h1, h2', h3, h4, h5⟩, hr⟩ := id hI
      refine ⟨⟨by rw [List.length_set]; exact h1, h2.1, h2.2.1, fun j u hj => ?_, fun hl' j u hj => ?_⟩, hr⟩
      · rw [zld_set hk] at hj
        by_cases e : j = k
        · rw [if_pos e] at hj; cases hj; subst e
          exact h2.2.2 _ List.mem_cons_self
        · rw [if_neg e] at hj
          refine h2.2.2 (j, zval φ u) (List.mem_cons_of_mem _ (List.mem_filter.mpr ⟨zlv_mem.mpr ⟨u, hj, rfl⟩, ?_⟩))
          by_cases e2 : j + 1 = k
          · have hc : ¬ u.category = 2 := by
              intro h2
              have a1 := h4 _ _ hj
              have a2 := h4 _ _ hl
              have a3 := h3.1 _ _ a1 (by rw [zval_cat]; exact h2)
              rw [e2, a2] at a3
              cases a3
            simp [e, zval_cat, hc]
          · simp [e, e2]
      · rw [zld_set hk] at hj
        by_cases e : j = k
        · rw [if_pos e] at hj; cases hj; rfl
        · rw [if_neg e] at hj; exact h5 hl' j u hj
    · cases h
  · cases h
end ZLoc
