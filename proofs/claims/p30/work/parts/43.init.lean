theorem zin_lit3 : zin 0 3 = true ∧ zin 1 3 = true ∧ zin 2 3 = true := by decide
theorem zin_lit4 : zin 0 4 = true ∧ zin 1 4 = true ∧ zin 2 4 = true ∧ zin 3 4 = true := by decide
theorem zin_lit115 : zin 0 115 = true ∧ zin 1 115 = true ∧ zin 2 115 = true ∧ zin 3 115 = true ∧ zin 4 115 = true := by decide
theorem lit_add : (0 : Int32) + 1 = 1 ∧ (1 : Int32) + 1 = 2 ∧ (2 : Int32) + 1 = 3 ∧ (3 : Int32) + 1 = 4 := by decide
theorem lit_lt : ((0 : Int32) < 4) = True ∧ ((1 : Int32) < 4) = True ∧ ((2 : Int32) < 4) = True ∧ ((3 : Int32) < 4) = True ∧ ((4 : Int32) < 4) = False := by decide
def zF0 : Nat → Nat → Int32 := fun a k => if a = 41 ∨ a = 56 ∨ a = 64 ∨ a = 72 ∨ a = 80 then (if k = 0 then 3 else if k = 1 then 5 else 0) else 0
def zA0 : Nat → Nat → Int32 := fun a => if a = 42 ∨ a = 57 ∨ a = 65 ∨ a = 73 ∨ a = 81 then upd (upd (upd (fun _ => 0) (Int32.toNatClampNeg 0) 5) (Int32.toNatClampNeg 1) 1) (Int32.toNatClampNeg 2) 1 else if a = 91 then upd (upd (upd (upd (upd (fun _ => 0) (Int32.toNatClampNeg 0) 3) (Int32.toNatClampNeg 1) 5) (Int32.toNatClampNeg 2) 5) (Int32.toNatClampNeg 3) 1) (Int32.toNatClampNeg 4) 1 else fun _ => 0
def zP0 : Nat → Nat := fun j => 56 + 8 * j
theorem zP0_is : (fun j => if j < 4 then some (zP0 j) else none) = va_up (va_up (va_up (va_up (fun _ => none) (Int32.toNatClampNeg 0) (some 56)) (Int32.toNatClampNeg 1) (some 64)) (Int32.toNatClampNeg 2) (some 72)) (Int32.toNatClampNeg 3) (some 80) := by
  funext j
  rcases j with _ | _ | _ | _ | j
  · rfl
  · rfl
  · rfl
  · rfl
  · show (if j + 4 < 4 then _ else _) = _
    rw [if_neg (by omega)]
    rfl
set_option maxRecDepth 1000000 in
set_option maxHeartbeats 1000000 in
theorem i260 {L : Nat} {xs : Nat → Int32} : Rv 260 0 [some (.ref 1), none, none, none, none, none] [] (zw0 L xs) = Rv 260 10 [some (.ref 1), some (.ref 40), some (.int 0), none, none, none] [] (en (L, xs) (50, 3296, false) zF0 zA0 zP0 .null (fun _ => 0)) := by
  have hw : zw0 L xs = wl (0, 0, false) [] (zcE L xs) := rfl
  rw [hw]
  simp (maxSteps := 2000000) only [↓e260_0, ↓e260_3, ↓e260_4, ↓e260_7, ↓e260_7n, ↓e260_8, ↓e260_9, ↓e101_0, ↓e101_1, ↓e101_4, ↓e101_5, ↓e101_8, ↓e101_9, ↓e101_12, ↓e101_12n, ↓e101_15, ↓e101_16, ↓e101_19, ↓e101_20, ↓e101_21, ↓e101_24, ↓e101_27, ↓e101_27n, ↓e101_30, ↓e101_31, ↓e101_34, ↓e101_35, ↓e101_38, ↓e101_38n, ↓e101_41, ↓e101_42, ↓e101_45, ↓e101_46, ↓e101_49, ↓e101_49n, ↓e101_52, ↓e30_0, ↓e30_1, ↓e30_4, ↓e30_5, ↓e30_6, ↓e30_9, ↓e30_10, ↓e30_11, ↓e30_14, ↓e30_15, ↓e30_16, ↓e30_18, ↓e30_18n, ↓e30_21, ↓e30_22, ↓e30_25, ↓e30_26, ↓e30_27, ↓e30_28, ↓e30_29, ↓e30_32, ↓e30_33, ↓e30_34, ↓e30_35, ↓e30_36, ↓e30_39, ↓e30_40, ↓e30_41, ↓e30_42, ↓e30_43, ↓e30_45, ↓e30_47, ↓e30_47n, ↓e30_50, ↓e30_51, ↓e30_53, ↓e30_55, ↓e30_55n, ↓e30_58, ↓e30_59, ↓e30_61, ↓e30_63, ↓e30_63n, ↓e30_66, ↓e30_67, ↓e30_69, ↓e30_71, ↓e30_71n, ↓e30_74, ↓e30_75, ↓e30_77, ↓e30_79, ↓e30_79n, ↓e30_82, ↓e30_83, ↓e30_85, ↓e30_87, ↓e30_87n, ↓e30_90, ↓e83_0, ↓e83_1, ↓e83_4, ↓e83_5, ↓e83_6, ↓e83_6n, ↓e83_9, ↓e83_10, ↓e83_13, ↓e83_14, ↓e83_17, ↓e83_17n, ↓e83_20, ↓e83_21, ↓e83_23, ↓e83_25, ↓e83_25n, ↓e83_28, ↓e25_0, ↓e25_1, ↓e25_4, ↓e25_5, ↓e25_8, ↓e25_10, ↓e25_10n, ↓e25_13, ↓e25_14, ↓e25_17, ↓e25_19, ↓e25_19n, ↓e25_22, ↓e96_0, ↓e96_1, ↓e96_4, ↓e96_5, ↓e96_6, ↓e96_9, ↓e96_9n, ↓e96_12, ↓e96_13, ↓e96_15, ↓e96_16, ↓e96_19, ↓e96_20, ↓e96_23, ↓e96_24, ↓e96_27, ↓e96_28, ↓e96_31, ↓e96_32, ↓e96_35, ↓e96_38, ↓h96_14, ↓e0_0, ↓e0_1, ↓e0_4, ↓e0_5, ↓e0_8, ↓e0_10, ↓e0_10n, ↓e0_13, ↓ldI_0, ↓ldI_s, ↓ldA_0, ↓ldA_n, ↓ldA_s, ↓ldL_0, ↓ldL_s, ↓lst_0, ↓lst_s, ↓cal_v, ↓cal_x, ↓vts_s, ↓vts_n, ↓lpr_0, ↓lpr_i, ↓lpr_r, ↓lpr_n, ↓lpr_s, PA_41, ↓reduceIte, or_true, true_or, ↓wl_nw, ↓wl_gF, ↓wl_gFn, ↓wl_hO, ↓wl_hOn, ↓wl_pF, ↓wl_pFn, ↓wl_pI, ↓wl_pIn, ↓pR_Q, ↓wl_pQ, ↓wl_pQn, ↓adc_wl, ↓lgt_0, ↓lgt_s, ↓lsv_0, ↓lsv_s, Nat.reduceBEq, Nat.reduceAdd, zin_lit3, zin_lit4, zin_lit115, ↓lit_add, ↓lit_lt]
  refine congrArg (Rv 260 10 _ []) (Prod.ext rfl (funext fun k => ?_))
  by_cases h40 : k = 40
  · subst h40
    rfl
  by_cases h41 : k = 41
  · subst h41
    rfl
  by_cases h42 : k = 42
  · subst h42
    rfl
  by_cases h43 : k = 43
  · subst h43
    rfl
  by_cases h44 : k = 44
  · subst h44
    rfl
  by_cases h45 : k = 45
  · subst h45
    rfl
  by_cases h46 : k = 46
  · subst h46
    rfl
  by_cases h47 : k = 47
  · subst h47
    rfl
  by_cases h48 : k = 48
  · subst h48
    rfl
  by_cases h49 : k = 49
  · subst h49
    rfl
  by_cases h50 : k = 50
  · subst h50
    rfl
  by_cases h51 : k = 51
  · subst h51
    rfl
  by_cases h52 : k = 52
  · subst h52
    rfl
  by_cases h53 : k = 53
  · subst h53
    rfl
  by_cases h54 : k = 54
  · subst h54
    rfl
  by_cases h55 : k = 55
  · subst h55
    exact congrArg (fun z => some (Sum.inl (3, 4, Sum.inr (Sum.inr (Sum.inr (Sum.inr z)))))) zP0_is.symm
  by_cases h56 : k = 56
  · subst h56
    rfl
  by_cases h57 : k = 57
  · subst h57
    rfl
  by_cases h58 : k = 58
  · subst h58
    rfl
  by_cases h59 : k = 59
  · subst h59
    rfl
  by_cases h60 : k = 60
  · subst h60
    rfl
  by_cases h61 : k = 61
  · subst h61
    rfl
  by_cases h62 : k = 62
  · subst h62
    rfl
  by_cases h63 : k = 63
  · subst h63
    rfl
  by_cases h64 : k = 64
  · subst h64
    rfl
  by_cases h65 : k = 65
  · subst h65
    rfl
  by_cases h66 : k = 66
  · subst h66
    rfl
  by_cases h67 : k = 67
  · subst h67
    rfl
  by_cases h68 : k = 68
  · subst h68
    rfl
  by_cases h69 : k = 69
  · subst h69
    rfl
  by_cases h70 : k = 70
  · subst h70
    rfl
  by_cases h71 : k = 71
  · subst h71
    rfl
  by_cases h72 : k = 72
  · subst h72
    rfl
  by_cases h73 : k = 73
  · subst h73
    rfl
  by_cases h74 : k = 74
  · subst h74
    rfl
  by_cases h75 : k = 75
  · subst h75
    rfl
  by_cases h76 : k = 76
  · subst h76
    rfl
  by_cases h77 : k = 77
  · subst h77
    rfl
  by_cases h78 : k = 78
  · subst h78
    rfl
  by_cases h79 : k = 79
  · subst h79
    rfl
  by_cases h80 : k = 80
  · subst h80
    rfl
  by_cases h81 : k = 81
  · subst h81
    rfl
  by_cases h82 : k = 82
  · subst h82
    rfl
  by_cases h83 : k = 83
  · subst h83
    rfl
  by_cases h84 : k = 84
  · subst h84
    rfl
  by_cases h85 : k = 85
  · subst h85
    rfl
  by_cases h86 : k = 86
  · subst h86
    rfl
  by_cases h87 : k = 87
  · subst h87
    rfl
  by_cases h88 : k = 88
  · subst h88
    rfl
  by_cases h89 : k = 89
  · subst h89
    rfl
  have hl : ∀ m, 40 ≤ m → m < 90 → (k == m) = false := by
    intro m h1 h2
    refine beq_eq_false_iff_ne.mpr fun e => ?_
    subst e
    omega
  have hn : ∀ (l : List (Nat × zE)), (∀ p ∈ l, (k == p.1) = false) → l.lookup k = none := by
    intro l
    induction l with
    | nil => intro _; rfl
    | cons p l ih =>
      intro h
      obtain ⟨a, e⟩ := p
      rw [List.lookup, h (a, e) List.mem_cons_self]
      exact ih fun p hp => h p (List.mem_cons_of_mem _ hp)
  unfold wl
  dsimp only
  rw [hn _ (by
    intro p hp
    simp only [List.mem_cons, List.not_mem_nil, or_false] at hp
    rcases hp with rfl | rfl | rfl | rfl | rfl | rfl | rfl | rfl | rfl | rfl | rfl | rfl | rfl | rfl | rfl | rfl | rfl | rfl | rfl | rfl | rfl | rfl | rfl | rfl | rfl | rfl | rfl | rfl | rfl | rfl | rfl | rfl | rfl | rfl | rfl | rfl | rfl | rfl | rfl | rfl | rfl | rfl | rfl | rfl | rfl | rfl | rfl | rfl | rfl | rfl <;> exact hl _ (by decide) (by decide))]
  dsimp only
  show zcE L xs k = mem (L, xs) zF0 zA0 zP0 .null (fun _ => 0) k
  unfold mem memC
  by_cases hk : k < 40
  · rw [if_pos hk]
  · have hz : zcE L xs k = none := by
      unfold zcE
      repeat rw [if_neg (by omega)]
    rw [hz]
    repeat rw [if_neg (by omega)]
