theorem zcs_1 {b tW tM : Nat} {wd ad av : Nat → Nat} : zcs b tW tM wd ad av 1 = b := rfl
theorem zcs_2 {b tW tM : Nat} {wd ad av : Nat → Nat} : zcs b tW tM wd ad av 2 = tW := rfl
theorem zcs_3 {b tW tM : Nat} {wd ad av : Nat → Nat} : zcs b tW tM wd ad av 3 = tM := rfl
theorem zcs_w {b tW tM : Nat} {wd ad av : Nat → Nat} {i : Nat} (h : i < 10) : zcs b tW tM wd ad av (4 + i) = wd i := by
  unfold zcs
  rw [if_neg (by omega), if_neg (by omega), if_neg (by omega), if_pos (by omega), show 4 + i - 4 = i by omega]
theorem zcs_s {b tW tM : Nat} {wd ad av : Nat → Nat} {i : Nat} (h : i < 10) : zcs b tW tM wd ad av (14 + i) = ad i := by
  unfold zcs
  rw [if_neg (by omega), if_neg (by omega), if_neg (by omega), if_neg (by omega), if_pos (by omega), show 14 + i - 14 = i by omega]
theorem zcs_b {b tW tM : Nat} {wd ad av : Nat → Nat} {i : Nat} (h : i < 10) : zcs b tW tM wd ad av (24 + i) = av i := by
  unfold zcs
  rw [if_neg (by omega), if_neg (by omega), if_neg (by omega), if_neg (by omega), if_neg (by omega), show 24 + i - 24 = i by omega]
theorem zcE_inv {L : Nat} {xs : Nat → Int32} {k : Nat} {e : zE} (h : zcE L xs k = some e) : (k = 1 ∧ e = .inl (8, L, .inl xs)) ∨ (k = 2 ∧ e = .inl (10, 10, .inr (.inr (.inr (.inr fun j => some (4 + j)))))) ∨ (k = 3 ∧ e = .inl (8, 10, .inl fun j => zSw.getD j 0)) ∨
    (∃ i, i < 10 ∧ k = 4 + i ∧ e = .inr (100, [.ref (14 + i), .int (zNu.getD i 0), .int (Int32.ofNat i)])) ∨ (∃ i, i < 10 ∧ k = 14 + i ∧ e = .inr (101, [.ref (24 + i), .int 0])) ∨ (∃ i, i < 10 ∧ k = 24 + i ∧ e = .inl (9, (zBy.getD i []).length, .inl fun j => (zBy.getD i []).getD j 0)) := by
  unfold zcE at h
  split at h
  · rename_i hk; cases h; exact Or.inl ⟨hk, rfl⟩
  · split at h
    · rename_i hk; cases h; exact Or.inr (Or.inl ⟨hk, rfl⟩)
    · split at h
      · rename_i hk; cases h; exact Or.inr (Or.inr (Or.inl ⟨hk, rfl⟩))
      · split at h
        · rename_i hk; cases h; exact Or.inr (Or.inr (Or.inr (Or.inl ⟨k - 4, by omega, by omega, by rw [show 14 + (k - 4) = k + 10 by omega]⟩)))
        · split at h
          · rename_i hk; cases h; exact Or.inr (Or.inr (Or.inr (Or.inr (Or.inl ⟨k - 14, by omega, by omega, by rw [show 24 + (k - 14) = k + 10 by omega]⟩))))
          · split at h
            · rename_i hk; cases h; exact Or.inr (Or.inr (Or.inr (Or.inr (Or.inr ⟨k - 24, by omega, by omega, rfl⟩))))
            · cases h
/-- the start's world stands for the start's heap -/
theorem zstart {p : Program} {s : State} {m : MethodId} {meth : Method} {c : Code} {b L : Nat} {xs : Nat → Int32} (hL : L ≤ 1536) (C0 : lw_At p s m meth c b L xs) :
    ∃ (φ : Nat → Nat) (D : va_G) (dA : Nat → ClassId), (∀ k, 40 ≤ k → φ k = s.heap.size + (k - 40)) ∧ φ 1 = b ∧ zK s.heap.size φ D dA (zcE L xs) s ∧ zHR s.heap.size φ D dA (zcE L xs) (zw0 L xs) s.heap := by
  obtain ⟨hx, hb, hr, hml, hown, hts, hX, hbl, hlk, hgv⟩ := C0
  have hs := flat_of_before _ hgv
  have hA : ∀ a : Nat, a < s.heap.size → ¬ s.heap.size ≤ a := fun a h => by omega
  obtain ⟨D, dA, hK⟩ := zva_K hts
  have hstr : ∀ i : Nat, ∃ q : Nat × Nat, i < 10 → (zTs i).eval #[Value.ref b] s none [] s = some (.ref q.1) ∧ va_O "java/lang/String" q.1 (fun q => s.heap.size ≤ q) s s.heap ∧ va_OF "java/lang/String" "coder" "B" (.int 0) q.1 (fun q => s.heap.size ≤ q) s s.heap ∧ va_OF "java/lang/String" "value" "[B" (.ref q.2) q.1 (fun q => s.heap.size ≤ q) s s.heap ∧ va_T .byte q.2 (zBy.getD i []).length (fun j => .int ((zBy.getD i []).getD j 0)) (fun q => s.heap.size ≤ q) s s.heap := by
    intro i
    by_cases hi : i < 10
    · obtain ⟨n1, n2, n3, n4⟩ := zNa_s i hi
      obtain ⟨a, c, cA, kA, q1, q2, q3, q4, q5, q6, -⟩ := Cond.exactly_spec (args := #[Value.ref b]) (first := s) (o := none) (s := s) (idx := []) (hs _ n1)
      have hlen : (zBy.getD i []).length < 2 ^ 31 := by
        have : ∀ i, i < 10 → (zBy.getD i []).length < 2 ^ 31 := by decide +kernel
        exact this i hi
      obtain ⟨t, ht, hT⟩ := va_Tof (f := fun j => .int ((zBy.getD i []).getD j 0)) (A := fun q => s.heap.size ≤ q) hlen (hs _ n3) (va_eqt (hs _ n4)) (fun j hj => va_eqt (hs _ (zNa_b i hi j hj))) hA
      exact ⟨(a, t), fun _ => ⟨q1, ⟨cA, q3, q5, by rw [q6]; exact q2, hA a (Array.getElem?_eq_some_iff.mp q3).1⟩, vk_OFof q1 (va_eqt (hs _ n2)) hA, vk_OFof q1 ht hA, hT⟩⟩
    · exact ⟨(0, 0), fun h => absurd h hi⟩
  obtain ⟨st, hst⟩ := Classical.axiomOfChoice hstr
  have hwd : ∀ i : Nat, ∃ a : Nat, i < 10 → (zTw i).eval #[Value.ref b] s none [] s = some (.ref a) ∧ va_O "MasterPins$Word" a (fun q => s.heap.size ≤ q) s s.heap ∧ va_OF "MasterPins$Word" "letters" "Ljava/lang/String;" (.ref (st i).1) a (fun q => s.heap.size ≤ q) s s.heap ∧
      va_OF "MasterPins$Word" "numbers" "I" (.int (zNu.getD i 0)) a (fun q => s.heap.size ≤ q) s s.heap ∧ va_OF "java/lang/Enum" "ordinal" "I" (.int (Int32.ofNat i)) a (fun q => s.heap.size ≤ q) s s.heap := by
    intro i
    by_cases hi : i < 10
    · obtain ⟨n1, n2, n3, n4⟩ := zNa_w i hi
      obtain ⟨a, c, cA, kA, q1, q2, q3, q4, q5, q6, -⟩ := Cond.exactly_spec (args := #[Value.ref b]) (first := s) (o := none) (s := s) (idx := []) (hs _ n1)
      exact ⟨a, fun _ => ⟨q1, ⟨cA, q3, q5, by rw [q6]; exact q2, hA a (Array.getElem?_eq_some_iff.mp q3).1⟩, vk_OFof q1 (va_eqv (hs _ n3) (hst i hi).1) hA, vk_OFof q1 (va_eqt (hs _ n4)) hA, vk_OFof q1 (va_eqt (hs _ n2)) hA⟩⟩
    · exact ⟨0, fun h => absurd h hi⟩
  obtain ⟨wd, hwd⟩ := Classical.axiomOfChoice hwd
  obtain ⟨tW, hW1, hW2⟩ := va_Tof (f := fun j => .ref (wd j)) (A := fun q => s.heap.size ≤ q) (by decide) (hs _ zNa_W.1) (va_eqt (hs _ zNa_W.2.1)) (fun j hj => va_eqv (hs _ (zNa_W.2.2 j hj)) (hwd j hj).1) hA
  obtain ⟨tM, hM1, hM2⟩ := va_Tof (f := fun j => .int (zSw.getD j 0)) (A := fun q => s.heap.size ≤ q) (by decide) (hs _ zNa_M.1) (va_eqt (hs _ zNa_M.2.1)) (fun j hj => va_eqt (hs _ (zNa_M.2.2 j hj))) hA
  have hφ : ∀ k, k < 40 → zphi s.heap.size (zcs b tW tM wd (fun i => (st i).1) (fun i => (st i).2)) k = zcs b tW tM wd (fun i => (st i).1) (fun i => (st i).2) k := fun k h => if_pos h
  refine ⟨zphi s.heap.size (zcs b tW tM wd (fun i => (st i).1) (fun i => (st i).2)), D, dA, fun k h => if_neg (by omega), hφ 1 (by omega), ⟨hK, va_AO.of (hts _ zNa_Z.2.2.2.2.2.2), fun k e h => ?_, fun q hq own idx C n d h => ?_, fun q hq own is text h => ?_, vx_Zqof (hts _ zNa_Z.2.2.2.1) (hts _ zNa_Z.2.2.2.2.2.1) (hs _ zNa_o.2.2.1) hA, vx_Zqof (hts _ zNa_Z.2.2.2.2.1) (hts _ zNa_Z.2.2.2.2.2.1) (hs _ zNa_o.2.2.2) hA, va_Zqof (hts _ zNa_Z.2.1) (hts _ zNa_Z.2.2.1) (hs _ zNa_o.2.1) hA, fun w hw => va_Nw.of (zNW_tab hw) (hts _ (List.mem_filter.mp hw).1), fun E hE F hF hne => va_Nc.of (hs _ (zNa_c E hE F hF hne))⟩, Nat.le_refl _, fun _ => rfl, fun k e h => ?_⟩
  · rcases zcE_inv h with ⟨rfl, rfl⟩ | ⟨rfl, rfl⟩ | ⟨rfl, rfl⟩ | ⟨i, hi, rfl, rfl⟩ | ⟨i, hi, rfl, rfl⟩ | ⟨i, hi, rfl, rfl⟩
    · unfold zcst
      simp only [if_true]
      rw [hφ 1 (by omega), zcs_1]
      obtain ⟨scr, x1, x2, x3, x4, x5⟩ := hX
      exact ⟨scr, x1, x2, x3, by omega, by rw [x4], x5, hA b hbl⟩
    · unfold zcst
      simp only [if_true]
      rw [hφ 2 (by omega), zcs_2]
      obtain ⟨cell, x1, x2, x3, x4, x5, x6, x7⟩ := hW2
      refine ⟨cell, x1, x2, x3, x4, x5, fun j hj => ?_, x7⟩
      rw [x6 j hj]
      show _ = some (Value.ref (zphi _ _ (4 + j)))
      rw [hφ _ (by omega), zcs_w hj]
    · unfold zcst
      simp only [if_true]
      rw [hφ 3 (by omega), zcs_3]
      exact hM2
    · obtain ⟨w1, w2, w3, w4, w5⟩ := hwd i hi
      refine ⟨_, rfl, by omega, fun j v o n d h1 h2 => ?_, fun j v h1 => ?_, ?_⟩
      · rw [hφ _ (by omega), zcs_w hi]
        match j, h1, h2 with
        | 0, h1, h2 =>
          cases h1; cases h2
          rw [zval_ref, hφ _ (by omega), zcs_s hi]; exact w3
        | 1, h1, h2 => cases h1; cases h2; exact w4
        | 2, h1, h2 => cases h1; cases h2; exact w5
        | j + 3, h1, h2 => simp at h1
      · match j, h1 with
        | 0, h1 => exact ⟨_, rfl⟩
        | 1, h1 => exact ⟨_, rfl⟩
        | 2, h1 => exact ⟨_, rfl⟩
        | j + 3, h1 => simp at h1
      · rw [if_pos rfl, hφ _ (by omega), zcs_w hi]; exact w2
    · obtain ⟨w1, w2, w3, w4, w5⟩ := hst i hi
      refine ⟨_, rfl, by omega, fun j v o n d h1 h2 => ?_, fun j v h1 => ?_, ?_⟩
      · rw [hφ _ (by omega), zcs_s hi]
        match j, h1, h2 with
        | 0, h1, h2 =>
          cases h1; cases h2
          rw [zval_ref, hφ _ (by omega), zcs_b hi]; exact w4
        | 1, h1, h2 => cases h1; cases h2; exact w3
        | j + 2, h1, h2 => simp at h1
      · match j, h1 with
        | 0, h1 => exact ⟨_, rfl⟩
        | 1, h1 => exact ⟨_, rfl⟩
        | j + 2, h1 => simp at h1
      · rw [if_neg (by omega), if_pos rfl, hφ _ (by omega), zcs_s hi]; exact w2
    · obtain ⟨w1, w2, w3, w4, w5⟩ := hst i hi
      unfold zcst
      simp only [if_true, if_neg (show ¬ 9 = 8 by omega)]
      rw [hφ _ (by omega), zcs_b hi]
      exact w5
  · rcases zST_is q hq own idx C n d h with ⟨e, rfl, rfl, rfl⟩ | ⟨e, rfl, rfl, rfl⟩ | ⟨e, rfl, rfl, rfl⟩
    · rw [e, zval_ref, hφ _ (by omega), zcs_2]
      exact va_Zof (hts _ zNa_Z.1.1) (hts _ zNa_Z.1.2.1) hW1 hA
    · rw [e, zval_ref, hφ _ (by omega), zcs_3]
      exact va_Zof (hts _ zNa_Z.1.2.2.1) (hts _ zNa_Z.1.2.2.2.1) hM1 hA
    · rw [e, zval_int]
      exact va_Zof (hts _ zNa_Z.1.2.2.2.2.1) (hts _ zNa_Z.1.2.2.2.2.2) (va_eqi (hs _ zNa_o.1)) hA
  · have h1 := List.all_eq_true.mp zXT_is _ hq
    unfold zXin at h1
    rw [h] at h1
    simp only [Bool.and_eq_true, beq_iff_eq, decide_eq_true_eq] at h1
    obtain ⟨rfl, h2⟩ := h1
    obtain ⟨a, c, cA, kA, q1, -⟩ := Cond.exactly_spec (args := #[Value.ref b]) (first := s) (o := none) (s := s) (idx := []) (hs _ (zNa_x is h2))
    exact ⟨a, vk_R.of (hts _ (List.mem_of_getElem? h)) q1⟩
  · have h' : zcE L xs k = some e := h
    rcases zcE_inv h' with ⟨rfl, rfl⟩ | ⟨rfl, rfl⟩ | ⟨rfl, rfl⟩ | ⟨i, hi, rfl, rfl⟩ | ⟨i, hi, rfl, rfl⟩ | ⟨i, hi, rfl, rfl⟩ <;> exact h'
