/-! String's checkIndex, where it finds nothing -/
theorem zGT_move {args : Array Value} {s : State} (hts : ∀ w ∈ GT, w.before args s = true) : ∀ w ∈ GT, ∀ (a' : Array Value) (U : State), s.WarmedH U.vm → w.before a' U = true :=
  fun w hw a' U hW => word_at hW (good_of_word (List.mem_filter.mp hw).2) (hts w hw)
section ZChk
variable {p : Program} {l : Launch} {e : Env} {R : Room} {s : State} {m : MethodId} {args : Array Value} {below : List Frame} {meth : Method} {c : Code} {H : Heap} {locs : List Loc} {cells slots : Nat} {Q : State → Prop}
theorem zW_si {post : Int32 → Prop} {pc : Nat} {ls : Array Slot} {st0 rest : List Value} {a : Array Value} (hr : va_Run p l e R s m args below meth c H locs cells slots 0 0 (F0 m pc ls st0) rest (vp_Si post a) (fun _ => False))
    (kk : ∀ r, post r → W p l e R s m args below meth c H locs cells slots Q (F0 m (pc + 3) ls (.int r :: rest))) : W p l e R s m args below meth c H locs cells slots Q (F0 m pc ls st0) := by
  intro T hT X
  obtain ⟨v, st₀, t, T', L, h0, X', hL, e1, e2, ⟨r, hv, hp, hh⟩, st⟩ := hr T hT X
  cases hv
  cases L with
  | nil =>
    rw [List.append_nil] at X'
    obtain ⟨t2, a1, b1⟩ := kk r hp T' (e1.trans (hh.trans h0)) X'
    exact ⟨t2, st t2 a1, b1⟩
  | cons x L => exact (hL x List.mem_cons_self).elim
theorem zW_sv {post : Unit → Prop} {pc : Nat} {ls : Array Slot} {st0 rest : List Value} {a : Array Value} (hr : va_Run p l e R s m args below meth c H locs cells slots 0 0 (F0 m pc ls st0) rest (va_Sv post a) (fun _ => False))
    (kk : W p l e R s m args below meth c H locs cells slots Q (F0 m (pc + 3) ls rest)) : W p l e R s m args below meth c H locs cells slots Q (F0 m pc ls st0) := by
  intro T hT X
  obtain ⟨v, st₀, t, T', L, h0, X', hL, e1, e2, ⟨hv, hp, hh⟩, st⟩ := hr T hT X
  cases hv
  cases L with
  | nil =>
    rw [List.append_nil] at X'
    obtain ⟨t2, a1, b1⟩ := kk T' (e1.trans (hh.trans h0)) X'
    exact ⟨t2, st t2 a1, b1⟩
  | cons x L => exact (hL x List.mem_cons_self).elim
theorem zFB {av : List Value} {P : State → Prop} (h : ∀ (a : Array Value) (U : State) (g : JFrame) (mk : MethodId), P U → P (U.calling g mk a)) : FrameBlind (va_Pc av P) := fun a U g mk q => ⟨q.1, h a U g mk q.2⟩
end ZChk
section ZChk2
variable {p : Program} {l : Launch} {e : Env} {R : Room} {s : State} {m : MethodId} {args : Array Value} {below : List Frame} {meth : Method} {c : Code} {H : Heap} {locs : List Loc} {cells slots : Nat} {Q : State → Prop}
variable {base : Nat} {φ : Nat → Nat} {D : va_G} {dA : Nat → ClassId} {cE : Nat → Option zE} {q : zM} {c0 s0 : Nat} {ls ls' : zL} {w w' : zW} {lsC : Array Slot} {pc pc' : Nat} {st st' : List Value}
theorem zs_chk (C : zCtx p l q s m args meth c) (K : zK base φ D dA cE s) {i : Nat} (hq : zq i = some q) (hI : zI base φ D dA cE q s c0 s0 ls w lsC H locs cells slots) {k j n0 v : Nat} (hl : zCT.lookup (q.2.2.2.2.2.1, k) = some (12, j, n0, v)) (hd : decode q.2.1 pc = .ok (.invokestatic k, 3))
    (hR : zfr q ≤ R.frames ∧ zlo q ≤ R.locals) (hcap : w.1.1 ≤ c0 + R.cells ∧ w.1.2.1 ≤ s0 + R.slots) (h : zchk q pc ls st w = some (.inl (pc', ls', st', w'))) (kk : zGo p l e R s m args below meth c Q base φ D dA cE q c0 s0 pc' ls' st' w') : W p l e R s m args below meth c H locs cells slots Q (F0 m pc lsC (st.map (zval φ))) := by
  unfold zchk at h
  cases h
end ZChk2
