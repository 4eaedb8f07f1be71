/-- what is owed of the abstract machine: the law comes to its end with 1, in its room -/
def zLaw (L : Nat) (xs : Nat → Int32) : Prop := ∃ (n : Nat) (w' : zW), zrun n 260 0 [some (.ref 1), none, none, none, none, none] [] (zw0 L xs) = some (.inl (some (.int 1)), w') ∧ w'.1.1 ≤ 600172 ∧ w'.1.2.1 ≤ 7300668
set_option maxRecDepth 100000 in
theorem zq_law : zq 260 = some (x, code, 6, ret, [], 8, 10, 183, true, 99) := rfl
theorem zlaw_start {p : Program} {e : Env} {s : State} {m : MethodId} {below : List Frame} {meth : Method} {c : Code} (l : Launch) (hflags : l.flags = flags0) {b L : Nat} {xs : Nat → Int32} (hL : L ≤ 260) (C0 : lw_At p s m meth c b L xs) (hz : zLaw L xs) : W p l e room_1 s m #[Value.ref b] below meth c s.heap [] 0 0 (lw_Z below #[Value.ref b] s) (entryFrame m ([Value.ref b] : List Value).toArray 6) := by
  obtain ⟨φ, D, dA, F, h1, K, hR⟩ := zstart hL C0
  obtain ⟨n, w', hrun, hc1, hc2⟩ := hz
  obtain ⟨hx, hb, hr, hml, hown, hts, hX, hbl, hlk, hgv⟩ := C0
  have hfl : l.stackTraces = false := by
    unfold Launch.stackTraces
    rw [hflags]
    decide +kernel
  have hC : zCtx p l (x, code, 6, ret, [], 8, 10, 183, true, 99) s m #[Value.ref b] meth c := ⟨hx, hb, hr, hml, hown, fun w h => hts w (List.mem_filter.mp h).1, hlk, fun h => absurd (show x.name = "<init>" from h) (by decide +kernel), fun w h => hts w (List.mem_filter.mp h).1, fun h => absurd rfl h, hfl⟩
  have key := zSnd_all F hfl n 260 _ 0 _ [] _ _ p e s m #[Value.ref b] below meth c room_1 (lw_Z below #[Value.ref b] s) 0 0 zq_law hC K hrun (by show w'.1.1 ≤ 0 + 600172; omega) (by show w'.1.2.1 ≤ 0 + 7300668; omega) (by decide) (by decide) ?_ ?_ ?_
  · have hl := lv_entry [Value.ref b] (n := 6) (Nat.le_of_ble_eq_true rfl)
    rw [lg_entry_eq]
    generalize (lg_sl ([Value.ref b]) ++ List.replicate (6 - (lg_sl ([Value.ref b])).length) Slot.unset).toArray = lsC at hl ⊢
    have hl' : lv_has lsC 6 (lv_args 0 ([Value.ref 1].map (zval φ))) := by
      show lv_has lsC 6 (lv_args 0 [Value.ref (φ 1)])
      rw [h1]; exact hl
    exact key lsC s.heap [] 0 0 (zI_entry (av := [.ref 1]) rfl hR hl')
  · intro v pc I len lsC H locs cells slots hv hd hret hHR hS hcl hsl
    cases hv
    have hc' : (0 : Nat) + cells = w'.1.1 := hcl
    have hs' : (0 : Nat) + slots = w'.1.2.1 := hsl
    rcases hret with ⟨rfl, rfl, x', hx', -⟩ | ⟨-, -, x', hx', -⟩ | ⟨-, -, -, hx' | ⟨a, hx'⟩⟩ | ⟨-, -, hx', -⟩
    · cases hx'
      refine va_forget (fun q hq => hS.2.2 q hq) (W.widen (k := 600172) (n := 7300668) (by omega) (by omega) ?_)
      exact lw_ret hx hb hr hlk hd
    · cases hx'
    · cases hx'
    · cases hx'
    · cases hx'
  · intro x pc k st w ls lsC H locs cells slots hX' hr'
    cases hr'
  · intro E ce q9 pc rest lsC H locs cells slots hr'
    cases hr'
