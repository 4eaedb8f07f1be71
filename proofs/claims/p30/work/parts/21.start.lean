/-- the start's world stands for the start's heap -/
theorem zstart {p : Program} {s : State} {m : MethodId} {meth : Method} {c : Code} {b L : Nat} {xs : Nat → Int32} (hL : L ≤ 260) (C0 : lw_At p s m meth c b L xs) :
    ∃ (φ : Nat → Nat) (D : va_G) (dA : Nat → ClassId), (∀ k, 40 ≤ k → φ k = s.heap.size + (k - 40)) ∧ φ 1 = b ∧ zK s.heap.size φ D dA (zcE L xs) s ∧ zHR s.heap.size φ D dA (zcE L xs) (zw0 L xs) s.heap := by
  obtain ⟨hx, hb, hr, hml, hown, hts, hX, hbl, hlk, hgv⟩ := C0
  have hs := flat_of_before _ hgv
  have hA : ∀ a : Nat, a < s.heap.size → ¬ s.heap.size ≤ a := fun a h => by omega
  obtain ⟨D, dA, hK⟩ := zva_K hts
  have hφ : ∀ k, k < 40 → zphi s.heap.size (zcs b) k = b := fun k h => if_pos h
  refine ⟨zphi s.heap.size (zcs b), D, dA, fun k h => if_neg (by omega), hφ 1 (by omega), ⟨hK, va_AO.of (hts _ zNa_Z.2.2.2), fun k e h => ?_, fun q hq => absurd hq List.not_mem_nil, fun q hq own is text h => ?_, vx_Zqof (hts _ zNa_Z.1) (hts _ zNa_Z.2.2.1) (hs _ zNa_o.1) hA, vx_Zqof (hts _ zNa_Z.2.1) (hts _ zNa_Z.2.2.1) (hs _ zNa_o.2) hA, trivial, fun w hw => va_Nw.of (zNW_tab hw) (hts _ (List.mem_filter.mp hw).1), trivial⟩, ⟨Nat.le_refl _, fun _ => rfl, fun k e h => ?_⟩⟩
  · unfold zcE at h
    split at h
    · rename_i hk
      subst hk
      cases h
      unfold zcst
      simp only [if_true]
      rw [hφ 1 (by omega)]
      obtain ⟨scr, x1, x2, x3, x4, x5⟩ := hX
      exact ⟨scr, x1, x2, x3, by omega, by rw [x4], x5, hA b hbl⟩
    · cases h
  · have h1 := List.all_eq_true.mp zXT_is _ hq
    unfold zXin at h1
    rw [h] at h1
    simp only [Bool.and_eq_true, beq_iff_eq, decide_eq_true_eq] at h1
    obtain ⟨rfl, h2⟩ := h1
    obtain ⟨a, c, cA, kA, q1, -⟩ := Cond.exactly_spec (args := #[Value.ref b]) (first := s) (o := none) (s := s) (idx := []) (hs _ (zNa_x is h2))
    exact ⟨a, vk_R.of (hts _ (List.mem_of_getElem? h)) q1⟩
  · have h' : zcE L xs k = some e := h
    unfold zcell
    unfold zcE at h'
    split at h'
    · cases h'
      simp only [if_neg (show ¬ 8 < 8 by omega)]
      unfold zcE
      rw [if_pos (by assumption)]
    · cases h'
