/-! no ordinal is reached here -/
section ZOrd
variable {p : Program} {l : Launch} {e : Env} {R : Room} {s : State} {m : MethodId} {sargs : Array Value} {below : List Frame} {meth : Method} {c : Code} {locs : List Loc} {cells slots : Nat}
variable {args : Array Value} {H : Heap} {Q : State → Prop} {base : Nat} {φ : Nat → Nat} {D : va_G} {dA : Nat → ClassId} {cE : Nat → Option zE} {q : zM} {c0 s0 : Nat} {ls ls' : zL} {w w' : zW} {lsC : Array Slot} {pc pc' : Nat} {st st' : List Value}
theorem zs_ord (C : zCtx p l q s m args meth c) (K : zK base φ D dA cE s) {i : Nat} (hq : zq i = some q) (hI : zI base φ D dA cE q s c0 s0 ls w lsC H locs cells slots) {k j n0 v : Nat} (hl : zCT.lookup (q.2.2.2.2.2.1, k) = some (3, j, n0, v)) (hd : decode q.2.1 pc = .ok (.invokevirtual k, 3))
    (hR : zfr q ≤ R.frames ∧ zlo q ≤ R.locals) (hcap : w.1.1 ≤ c0 + R.cells ∧ w.1.2.1 ≤ s0 + R.slots) (h : zord q pc ls st w = some (.inl (pc', ls', st', w'))) (kk : zGo p l e R s m args below meth c Q base φ D dA cE q c0 s0 pc' ls' st' w') : W p l e R s m args below meth c H locs cells slots Q (F0 m pc lsC (st.map (zval φ))) := by
  unfold zord at h
  cases h
end ZOrd
