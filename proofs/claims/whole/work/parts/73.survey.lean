/-! ghosts, free codes, the better code -/
theorem code_inj : ∀ (m x y : Nat), x < 10 ^ m → y < 10 ^ m → (∀ c, c < m → dig m x c = dig m y c) → x = y
  | 0, x, y, hx, hy, _ => by rw [Nat.pow_zero] at hx hy; omega
  | m + 1, x, y, hx, hy, h => by
    rw [Nat.pow_succ] at hx hy
    have e := code_inj m (x / 10) (y / 10) (by omega) (by omega) fun c hc => by rw [← dig_s hc, ← dig_s hc]; exact h c (by omega)
    have h1 := h m (by omega)
    rw [dig_l, dig_l] at h1
    omega
theorem ctb_inj {m x y : Nat} (h4 : m ≤ 4) (hx : x < 10 ^ m) (hy : y < 10 ^ m) (h6 : ∀ c, c < m → dig m x c < 6) : (bits (ctb m x) 24 = bits (ctb m y) 24) = (x = y) := by
  refine propext ⟨fun e => code_inj m x y hx hy fun c hc => ?_, fun e => by rw [e]⟩
  have g6 := h6 c hc
  have h1 := tb_bits (ctb m x) 24 (by omega) (6 * c + dig m x c) (by omega)
  rw [e, tb_bits (ctb m y) 24 (by omega) _ (by omega), decide_eq_true (show 6 * c + dig m x c < 24 by omega)] at h1
  unfold ctb at h1
  rw [show (6 * c + dig m x c) / 6 = c by omega, show (6 * c + dig m x c) % 6 = dig m x c by omega, decide_eq_true hc, decide_eq_true (rfl : dig m x c = dig m x c)] at h1
  simp at h1
  exact h1.symm
theorem icd_10 {m t x : Nat} (h : icd m t x = true) : x < 10 ^ m := by
  unfold icd at h
  rw [Bool.and_eq_true, decide_eq_true_eq] at h
  exact h.1
section ZT
variable {G : zG} {c : Nat × Nat × Bool} {F A : Nat → Nat → Int32} {P : Nat → Nat} {W : Value} {O : Nat → Int64} {x y j k d e u v : Int32} {p q a b i n m t w : Nat} {g : Nat → Int32}
theorem six_icd (hw : Wf g) (hi : icd (chn g) (dpn g) a = true) : ∀ c, c < chn g → dig (chn g) a c < 6 := fun c hc => by
  have := icd_dig hi hc
  have := wf_d6 hw
  omega
theorem s26 (h : a < 1296) : Rv 26 0 [some (.ref 50), some (.int (Int32.ofNat a))] [] (en G c F A P W O) = some (.inl (some (.int (A 51 a))), (en G c F A P W O)) := by
  simp only [↓e26_0, ↓e26_1, ↓e26_4, ↓e26_5, ↓e26_6, ↓ldI_0, ↓ldI_s, ↓ldA_0, ↓ldA_n, ↓ldA_s, ↓ldL_0, ↓ldL_s, ↓lst_0, ↓lst_s, ↓cal_v, ↓cal_x, ↓vts_s, ↓vts_n, ↓lpr_0, ↓lpr_i, ↓lpr_r, ↓lpr_n, ↓lpr_s, PA_41, ↓reduceIte, or_true, true_or, ↓ho_40, ↓gf_40_0, ↓gf_40_1, ↓gf_40_2, ↓gf_40_3, ↓ho_49, ↓gf_49_0, ↓gf_49_1, ↓gf_49_2, ↓gf_49_3, ↓pf_49_3, ↓ho_50, ↓gf_50_0, ↓gf_50_1, ↓gf_50_2, ↓pf_50_2, ↓gf_50_3, ↓pf_50_3, ↓gf_50_4, ↓pf_50_4, ↓gf_50_5, ↓pf_50_5, ↓gf_50_6, ↓pf_50_6, ↓ho_54, ↓gf_54_0, ↓gf_54_1, ↓pf_54_1, ↓ho_88, ↓gf_88_0, ↓gf_88_1, ↓pf_88_1, ↓gf_88_2, ↓pf_88_2, ↓gf_88_3, ↓pf_88_3, ↓gf_88_4, ↓pf_88_4, ↓gf_88_5, ↓pf_88_5, ↓ho_90, ↓gf_90_0, ↓gf_90_1, ↓gf_90_2, ↓pf_90_2, ↓gf_90_3, ↓pf_90_3, ↓gf_90_4, ↓gf_90_5, ↓gf_90_6, ↓pf_90_6, ↓gf_90_7, ↓pf_90_7, ↓gf_90_8, ↓pf_90_8, ↓gf_90_9, ↓pf_90_9, ↓gf_90_10, ↓pf_90_10, ↓gf_90_11, ↓gf_41_0, ↓pf_41_0, ↓gf_41_1, ↓pf_41_1, ↓gf_41_2, ↓gf_41_3, ↓pf_41_3, ↓gf_41_4, ↓gf_41_5, ↓gf_41_6, ↓gf_41_7, ↓gf_41_8, ↓pf_41_8, ↓gf_41_9, ↓pf_41_9, ↓gf_41_10, ↓gf_41_11, ↓ho_41, ↓gi_42, ↓pi_42, ↓gi_43, ↓pi_43, ↓gi_44, ↓pi_44, ↓gi_45, ↓pi_45, ↓gi_46, ↓pi_46, ↓gi_47, ↓pi_47, ↓gi_48, ↓pi_48, ↓gi_51, ↓pi_51, ↓gi_52, ↓pi_52, ↓gi_53, ↓pi_53, ↓gi_91, ↓pi_91, ↓gi_92, ↓pi_92, ↓gi_93, ↓pi_93, ↓gi_95, ↓pi_95, ↓gi_89, ↓pi_89, ↓gi_94, ↓pi_94, ↓gi_1, ↓gi_3, ↓gn_1, ↓gn_2, ↓gr_2, ↓gr_55, ↓pr_55, ↓gl_96, ↓pl_96, ↓gf_w0, ↓gf_w1, ↓gw_w, ↓gf_s0, ↓gf_s1, ↓ho_s, ↓gn_b, ↓gi_b, io_zin (show a < 2147483648 by omega) (show a < 1296 by omega), io_ix (show a < 2147483648 by omega)]
theorem s27 (h : a < 1296) : Rv 27 0 [some (.ref 50), some (.int (Int32.ofNat a))] [] (en G c F A P W O) = some (.inl (some (.int (A 52 a))), (en G c F A P W O)) := by
  simp only [↓e27_0, ↓e27_1, ↓e27_4, ↓e27_5, ↓e27_6, ↓ldI_0, ↓ldI_s, ↓ldA_0, ↓ldA_n, ↓ldA_s, ↓ldL_0, ↓ldL_s, ↓lst_0, ↓lst_s, ↓cal_v, ↓cal_x, ↓vts_s, ↓vts_n, ↓lpr_0, ↓lpr_i, ↓lpr_r, ↓lpr_n, ↓lpr_s, PA_41, ↓reduceIte, or_true, true_or, ↓ho_40, ↓gf_40_0, ↓gf_40_1, ↓gf_40_2, ↓gf_40_3, ↓ho_49, ↓gf_49_0, ↓gf_49_1, ↓gf_49_2, ↓gf_49_3, ↓pf_49_3, ↓ho_50, ↓gf_50_0, ↓gf_50_1, ↓gf_50_2, ↓pf_50_2, ↓gf_50_3, ↓pf_50_3, ↓gf_50_4, ↓pf_50_4, ↓gf_50_5, ↓pf_50_5, ↓gf_50_6, ↓pf_50_6, ↓ho_54, ↓gf_54_0, ↓gf_54_1, ↓pf_54_1, ↓ho_88, ↓gf_88_0, ↓gf_88_1, ↓pf_88_1, ↓gf_88_2, ↓pf_88_2, ↓gf_88_3, ↓pf_88_3, ↓gf_88_4, ↓pf_88_4, ↓gf_88_5, ↓pf_88_5, ↓ho_90, ↓gf_90_0, ↓gf_90_1, ↓gf_90_2, ↓pf_90_2, ↓gf_90_3, ↓pf_90_3, ↓gf_90_4, ↓gf_90_5, ↓gf_90_6, ↓pf_90_6, ↓gf_90_7, ↓pf_90_7, ↓gf_90_8, ↓pf_90_8, ↓gf_90_9, ↓pf_90_9, ↓gf_90_10, ↓pf_90_10, ↓gf_90_11, ↓gf_41_0, ↓pf_41_0, ↓gf_41_1, ↓pf_41_1, ↓gf_41_2, ↓gf_41_3, ↓pf_41_3, ↓gf_41_4, ↓gf_41_5, ↓gf_41_6, ↓gf_41_7, ↓gf_41_8, ↓pf_41_8, ↓gf_41_9, ↓pf_41_9, ↓gf_41_10, ↓gf_41_11, ↓ho_41, ↓gi_42, ↓pi_42, ↓gi_43, ↓pi_43, ↓gi_44, ↓pi_44, ↓gi_45, ↓pi_45, ↓gi_46, ↓pi_46, ↓gi_47, ↓pi_47, ↓gi_48, ↓pi_48, ↓gi_51, ↓pi_51, ↓gi_52, ↓pi_52, ↓gi_53, ↓pi_53, ↓gi_91, ↓pi_91, ↓gi_92, ↓pi_92, ↓gi_93, ↓pi_93, ↓gi_95, ↓pi_95, ↓gi_89, ↓pi_89, ↓gi_94, ↓pi_94, ↓gi_1, ↓gi_3, ↓gn_1, ↓gn_2, ↓gr_2, ↓gr_55, ↓pr_55, ↓gl_96, ↓pl_96, ↓gf_w0, ↓gf_w1, ↓gw_w, ↓gf_s0, ↓gf_s1, ↓ho_s, ↓gn_b, ↓gi_b, io_zin (show a < 2147483648 by omega) (show a < 1296 by omega), io_ix (show a < 2147483648 by omega)]
theorem l86 (hw : Wf g) (hR : Rp F A 41 g) (hL : LL F A g) (ha : a < dn g) : Rv 86 0 [some (.ref 49), some (.int (Int32.ofNat a)), none, none, none, none] [] (en G c F A P W O) = some (.inl (some (.int (fo (fun k s => if A 52 k &&& A 48 a = A 52 k then (if exb (cub A (A 52 k)) (kn g) = true then s else s + 1) else s) (cnt (lwp g) (10 ^ chn g)) 0))), (en G c F A P W O)) := by
  have hcc := cnt_codes hw
  have m12 := wf_m12 hw
  simp only [↓e86_0, ↓e86_1, ↓e86_4, ↓e86_5, ↓e86_8, ↓e86_9, ↓e86_10, ↓e86_11, ↓e86_12, ↓e86_16, ↓e86_17, ↓e86_20, ↓e86_23, ↓e86_26, ↓e86_27, ↓e86_30, ↓e86_32, ↓e86_35, ↓e86_37, ↓e86_39, ↓e86_40, ↓e86_43, ↓e86_46, ↓e86_47, ↓e86_50, ↓e86_52, ↓e86_55, ↓e86_58, ↓e86_61, ↓e86_64, ↓e86_67, ↓e86_68, ↓ldI_0, ↓ldI_s, ↓ldA_0, ↓ldA_n, ↓ldA_s, ↓ldL_0, ↓ldL_s, ↓lst_0, ↓lst_s, ↓cal_v, ↓cal_x, ↓vts_s, ↓vts_n, ↓lpr_0, ↓lpr_i, ↓lpr_r, ↓lpr_n, ↓lpr_s, PA_41, ↓reduceIte, or_true, true_or, ↓ho_40, ↓gf_40_0, ↓gf_40_1, ↓gf_40_2, ↓gf_40_3, ↓ho_49, ↓gf_49_0, ↓gf_49_1, ↓gf_49_2, ↓gf_49_3, ↓pf_49_3, ↓ho_50, ↓gf_50_0, ↓gf_50_1, ↓gf_50_2, ↓pf_50_2, ↓gf_50_3, ↓pf_50_3, ↓gf_50_4, ↓pf_50_4, ↓gf_50_5, ↓pf_50_5, ↓gf_50_6, ↓pf_50_6, ↓ho_54, ↓gf_54_0, ↓gf_54_1, ↓pf_54_1, ↓ho_88, ↓gf_88_0, ↓gf_88_1, ↓pf_88_1, ↓gf_88_2, ↓pf_88_2, ↓gf_88_3, ↓pf_88_3, ↓gf_88_4, ↓pf_88_4, ↓gf_88_5, ↓pf_88_5, ↓ho_90, ↓gf_90_0, ↓gf_90_1, ↓gf_90_2, ↓pf_90_2, ↓gf_90_3, ↓pf_90_3, ↓gf_90_4, ↓gf_90_5, ↓gf_90_6, ↓pf_90_6, ↓gf_90_7, ↓pf_90_7, ↓gf_90_8, ↓pf_90_8, ↓gf_90_9, ↓pf_90_9, ↓gf_90_10, ↓pf_90_10, ↓gf_90_11, ↓gf_41_0, ↓pf_41_0, ↓gf_41_1, ↓pf_41_1, ↓gf_41_2, ↓gf_41_3, ↓pf_41_3, ↓gf_41_4, ↓gf_41_5, ↓gf_41_6, ↓gf_41_7, ↓gf_41_8, ↓pf_41_8, ↓gf_41_9, ↓pf_41_9, ↓gf_41_10, ↓gf_41_11, ↓ho_41, ↓gi_42, ↓pi_42, ↓gi_43, ↓pi_43, ↓gi_44, ↓pi_44, ↓gi_45, ↓pi_45, ↓gi_46, ↓pi_46, ↓gi_47, ↓pi_47, ↓gi_48, ↓pi_48, ↓gi_51, ↓pi_51, ↓gi_52, ↓pi_52, ↓gi_53, ↓pi_53, ↓gi_91, ↓pi_91, ↓gi_92, ↓pi_92, ↓gi_93, ↓pi_93, ↓gi_95, ↓pi_95, ↓gi_89, ↓pi_89, ↓gi_94, ↓pi_94, ↓gi_1, ↓gi_3, ↓gn_1, ↓gn_2, ↓gr_2, ↓gr_55, ↓pr_55, ↓gl_96, ↓pl_96, ↓gf_w0, ↓gf_w1, ↓gw_w, ↓gf_s0, ↓gf_s1, ↓ho_s, ↓gn_b, ↓gi_b, s65 (io_zin (show a < 2147483648 by omega) (show a < 12 by omega)), io_ix (show a < 2147483648 by omega)]
  refine (lp (fun k s => Rv 86 14 [some (.ref 49), some (.int (Int32.ofNat a)), some (.int (A 48 a)), some (.int s), some (.int (Int32.ofNat k)), (match k with | 0 => none | z + 1 => some (.int (A 52 z)))] [] (en G c F A P W O)) (fun k s => if A 52 k &&& A 48 a = A 52 k then (if exb (cub A (A 52 k)) (kn g) = true then s else s + 1) else s) (cnt (lwp g) (10 ^ chn g)) 0 fun k hk s => ?_).trans ?_
  · rw [h86_14]
    generalize (match k with | 0 => none | z + 1 => some (Value.int (A 52 z))) = sl
    simp only [↓e86_0, ↓e86_1, ↓e86_4, ↓e86_5, ↓e86_8, ↓e86_9, ↓e86_10, ↓e86_11, ↓e86_12, ↓e86_16, ↓e86_17, ↓e86_20, ↓e86_23, ↓e86_26, ↓e86_27, ↓e86_30, ↓e86_32, ↓e86_35, ↓e86_37, ↓e86_39, ↓e86_40, ↓e86_43, ↓e86_46, ↓e86_47, ↓e86_50, ↓e86_52, ↓e86_55, ↓e86_58, ↓e86_61, ↓e86_64, ↓e86_67, ↓e86_68, ↓ldI_0, ↓ldI_s, ↓ldA_0, ↓ldA_n, ↓ldA_s, ↓ldL_0, ↓ldL_s, ↓lst_0, ↓lst_s, ↓cal_v, ↓cal_x, ↓vts_s, ↓vts_n, ↓lpr_0, ↓lpr_i, ↓lpr_r, ↓lpr_n, ↓lpr_s, PA_41, ↓reduceIte, or_true, true_or, ↓ho_40, ↓gf_40_0, ↓gf_40_1, ↓gf_40_2, ↓gf_40_3, ↓ho_49, ↓gf_49_0, ↓gf_49_1, ↓gf_49_2, ↓gf_49_3, ↓pf_49_3, ↓ho_50, ↓gf_50_0, ↓gf_50_1, ↓gf_50_2, ↓pf_50_2, ↓gf_50_3, ↓pf_50_3, ↓gf_50_4, ↓pf_50_4, ↓gf_50_5, ↓pf_50_5, ↓gf_50_6, ↓pf_50_6, ↓ho_54, ↓gf_54_0, ↓gf_54_1, ↓pf_54_1, ↓ho_88, ↓gf_88_0, ↓gf_88_1, ↓pf_88_1, ↓gf_88_2, ↓pf_88_2, ↓gf_88_3, ↓pf_88_3, ↓gf_88_4, ↓pf_88_4, ↓gf_88_5, ↓pf_88_5, ↓ho_90, ↓gf_90_0, ↓gf_90_1, ↓gf_90_2, ↓pf_90_2, ↓gf_90_3, ↓pf_90_3, ↓gf_90_4, ↓gf_90_5, ↓gf_90_6, ↓pf_90_6, ↓gf_90_7, ↓pf_90_7, ↓gf_90_8, ↓pf_90_8, ↓gf_90_9, ↓pf_90_9, ↓gf_90_10, ↓pf_90_10, ↓gf_90_11, ↓gf_41_0, ↓pf_41_0, ↓gf_41_1, ↓pf_41_1, ↓gf_41_2, ↓gf_41_3, ↓pf_41_3, ↓gf_41_4, ↓gf_41_5, ↓gf_41_6, ↓gf_41_7, ↓gf_41_8, ↓pf_41_8, ↓gf_41_9, ↓pf_41_9, ↓gf_41_10, ↓gf_41_11, ↓ho_41, ↓gi_42, ↓pi_42, ↓gi_43, ↓pi_43, ↓gi_44, ↓pi_44, ↓gi_45, ↓pi_45, ↓gi_46, ↓pi_46, ↓gi_47, ↓pi_47, ↓gi_48, ↓pi_48, ↓gi_51, ↓pi_51, ↓gi_52, ↓pi_52, ↓gi_53, ↓pi_53, ↓gi_91, ↓pi_91, ↓gi_92, ↓pi_92, ↓gi_93, ↓pi_93, ↓gi_95, ↓pi_95, ↓gi_89, ↓pi_89, ↓gi_94, ↓pi_94, ↓gi_1, ↓gi_3, ↓gn_1, ↓gn_2, ↓gr_2, ↓gr_55, ↓pr_55, ↓gl_96, ↓pl_96, ↓gf_w0, ↓gf_w1, ↓gw_w, ↓gf_s0, ↓gf_s1, ↓ho_s, ↓gn_b, ↓gi_b, hL.1, io_lt (show k < 2147483648 by omega) (show cnt (lwp g) (10 ^ chn g) < 2147483648 by omega), show k < cnt (lwp g) (10 ^ chn g) from hk, s27 (show k < 1296 by omega), s19, s62 (rp_n hR hw) (wf_n16 hw), io_succ]
    by_cases h1 : A 52 k &&& A 48 a = A 52 k
    · by_cases h2 : exb (cub A (A 52 k)) (kn g) = true
      · simp [h1, h2]
      · simp [h1, h2]
    · simp [h1]
  · generalize (match cnt (lwp g) (10 ^ chn g) with | 0 => none | z + 1 => some (Value.int (A 52 z))) = sl
    rw [h86_14]
    simp only [↓e86_0, ↓e86_1, ↓e86_4, ↓e86_5, ↓e86_8, ↓e86_9, ↓e86_10, ↓e86_11, ↓e86_12, ↓e86_16, ↓e86_17, ↓e86_20, ↓e86_23, ↓e86_26, ↓e86_27, ↓e86_30, ↓e86_32, ↓e86_35, ↓e86_37, ↓e86_39, ↓e86_40, ↓e86_43, ↓e86_46, ↓e86_47, ↓e86_50, ↓e86_52, ↓e86_55, ↓e86_58, ↓e86_61, ↓e86_64, ↓e86_67, ↓e86_68, ↓ldI_0, ↓ldI_s, ↓ldA_0, ↓ldA_n, ↓ldA_s, ↓ldL_0, ↓ldL_s, ↓lst_0, ↓lst_s, ↓cal_v, ↓cal_x, ↓vts_s, ↓vts_n, ↓lpr_0, ↓lpr_i, ↓lpr_r, ↓lpr_n, ↓lpr_s, PA_41, ↓reduceIte, or_true, true_or, ↓ho_40, ↓gf_40_0, ↓gf_40_1, ↓gf_40_2, ↓gf_40_3, ↓ho_49, ↓gf_49_0, ↓gf_49_1, ↓gf_49_2, ↓gf_49_3, ↓pf_49_3, ↓ho_50, ↓gf_50_0, ↓gf_50_1, ↓gf_50_2, ↓pf_50_2, ↓gf_50_3, ↓pf_50_3, ↓gf_50_4, ↓pf_50_4, ↓gf_50_5, ↓pf_50_5, ↓gf_50_6, ↓pf_50_6, ↓ho_54, ↓gf_54_0, ↓gf_54_1, ↓pf_54_1, ↓ho_88, ↓gf_88_0, ↓gf_88_1, ↓pf_88_1, ↓gf_88_2, ↓pf_88_2, ↓gf_88_3, ↓pf_88_3, ↓gf_88_4, ↓pf_88_4, ↓gf_88_5, ↓pf_88_5, ↓ho_90, ↓gf_90_0, ↓gf_90_1, ↓gf_90_2, ↓pf_90_2, ↓gf_90_3, ↓pf_90_3, ↓gf_90_4, ↓gf_90_5, ↓gf_90_6, ↓pf_90_6, ↓gf_90_7, ↓pf_90_7, ↓gf_90_8, ↓pf_90_8, ↓gf_90_9, ↓pf_90_9, ↓gf_90_10, ↓pf_90_10, ↓gf_90_11, ↓gf_41_0, ↓pf_41_0, ↓gf_41_1, ↓pf_41_1, ↓gf_41_2, ↓gf_41_3, ↓pf_41_3, ↓gf_41_4, ↓gf_41_5, ↓gf_41_6, ↓gf_41_7, ↓gf_41_8, ↓pf_41_8, ↓gf_41_9, ↓pf_41_9, ↓gf_41_10, ↓gf_41_11, ↓ho_41, ↓gi_42, ↓pi_42, ↓gi_43, ↓pi_43, ↓gi_44, ↓pi_44, ↓gi_45, ↓pi_45, ↓gi_46, ↓pi_46, ↓gi_47, ↓pi_47, ↓gi_48, ↓pi_48, ↓gi_51, ↓pi_51, ↓gi_52, ↓pi_52, ↓gi_53, ↓pi_53, ↓gi_91, ↓pi_91, ↓gi_92, ↓pi_92, ↓gi_93, ↓pi_93, ↓gi_95, ↓pi_95, ↓gi_89, ↓pi_89, ↓gi_94, ↓pi_94, ↓gi_1, ↓gi_3, ↓gn_1, ↓gn_2, ↓gr_2, ↓gr_55, ↓pr_55, ↓gl_96, ↓pl_96, ↓gf_w0, ↓gf_w1, ↓gw_w, ↓gf_s0, ↓gf_s1, ↓ho_s, ↓gn_b, ↓gi_b, hL.1, Int32.lt_irrefl]
theorem t86 (hw : Wf g) (hR : Rp F A 41 g) (hL : LL F A g) (ha : a < dn g) : Rv 86 0 [some (.ref 49), some (.int (Int32.ofNat a)), none, none, none, none] [] (en G c F A P W O) = some (.inl (some (.int (Int32.ofNat (gho g a)))), (en G c F A P W O)) := by
  rw [l86 hw hR hL ha]
  have c4 := wf_c4 hw
  rw [lst_codes hw (f' := fun x s => if opn g x a = true then (if isk g x = true then s else s + 1) else s) (fun x hx hp s => by
    have hi := lwp_icd hp
    have h6 := six_icd hw hi
    have e2 : exb (cub A (bits (ctb (chn g) x) 24)) (kn g) = isk g x := exb_cong fun k hk => by
      unfold cub
      rw [rp_ct hR hk, decide_eq_decide]
      rw [ctb_inj c4 (icd_10 (wf_ic hw k hk)) (icd_10 hi) (six_of hw hk)]
    rw [(hL.2 x hx hp).2, rp_p hR ha, e2]
    simp only [opn_bits h6 c4])]
  refine congrArg (fun z => some (Sum.inl (some (Value.int z)), _)) ?_
  unfold gho
  refine fo_io (v := fun k => cnt (fun v => opn g (cofn (dpn g) (chn g) v) a && (decide (wrg g (cofn (dpn g) (chn g) v) = 0) && !isk g (cofn (dpn g) (chn g) v))) k) rfl fun k hk => ?_
  rw [cnt_s]
  unfold lwp
  by_cases h1 : wrg g (cofn (dpn g) (chn g) k) = 0
  · by_cases h2 : opn g (cofn (dpn g) (chn g) k) a = true
    · by_cases h3 : isk g (cofn (dpn g) (chn g) k) = true
      · simp [h1, h2, h3]
      · simp [h1, h2, h3]
    · simp [h2]
  · simp [h1]
theorem l92 (hw : Wf g) (hR : Rp F A 41 g) (hL : LL F A g) : Rv 92 0 [some (.ref 49), none, none] [] (en G c F A P W O) = some (.inl (some (.int (fo (fun k s => if exb (apb F A (A 52 k) (-1)) (kn g) = true then s else s + 1) (cnt (lwp g) (10 ^ chn g)) 0))), (en G c F A P W O)) := by
  have hcc := cnt_codes hw
  simp only [↓e92_0, ↓e92_1, ↓e92_2, ↓e92_3, ↓e92_5, ↓e92_6, ↓e92_9, ↓e92_12, ↓e92_15, ↓e92_16, ↓e92_19, ↓e92_20, ↓e92_23, ↓e92_24, ↓e92_27, ↓e92_28, ↓e92_31, ↓e92_34, ↓e92_37, ↓e92_40, ↓e92_43, ↓e92_44, ↓ldI_0, ↓ldI_s, ↓ldA_0, ↓ldA_n, ↓ldA_s, ↓ldL_0, ↓ldL_s, ↓lst_0, ↓lst_s, ↓cal_v, ↓cal_x, ↓vts_s, ↓vts_n, ↓lpr_0, ↓lpr_i, ↓lpr_r, ↓lpr_n, ↓lpr_s, PA_41, ↓reduceIte, or_true, true_or, ↓ho_40, ↓gf_40_0, ↓gf_40_1, ↓gf_40_2, ↓gf_40_3, ↓ho_49, ↓gf_49_0, ↓gf_49_1, ↓gf_49_2, ↓gf_49_3, ↓pf_49_3, ↓ho_50, ↓gf_50_0, ↓gf_50_1, ↓gf_50_2, ↓pf_50_2, ↓gf_50_3, ↓pf_50_3, ↓gf_50_4, ↓pf_50_4, ↓gf_50_5, ↓pf_50_5, ↓gf_50_6, ↓pf_50_6, ↓ho_54, ↓gf_54_0, ↓gf_54_1, ↓pf_54_1, ↓ho_88, ↓gf_88_0, ↓gf_88_1, ↓pf_88_1, ↓gf_88_2, ↓pf_88_2, ↓gf_88_3, ↓pf_88_3, ↓gf_88_4, ↓pf_88_4, ↓gf_88_5, ↓pf_88_5, ↓ho_90, ↓gf_90_0, ↓gf_90_1, ↓gf_90_2, ↓pf_90_2, ↓gf_90_3, ↓pf_90_3, ↓gf_90_4, ↓gf_90_5, ↓gf_90_6, ↓pf_90_6, ↓gf_90_7, ↓pf_90_7, ↓gf_90_8, ↓pf_90_8, ↓gf_90_9, ↓pf_90_9, ↓gf_90_10, ↓pf_90_10, ↓gf_90_11, ↓gf_41_0, ↓pf_41_0, ↓gf_41_1, ↓pf_41_1, ↓gf_41_2, ↓gf_41_3, ↓pf_41_3, ↓gf_41_4, ↓gf_41_5, ↓gf_41_6, ↓gf_41_7, ↓gf_41_8, ↓pf_41_8, ↓gf_41_9, ↓pf_41_9, ↓gf_41_10, ↓gf_41_11, ↓ho_41, ↓gi_42, ↓pi_42, ↓gi_43, ↓pi_43, ↓gi_44, ↓pi_44, ↓gi_45, ↓pi_45, ↓gi_46, ↓pi_46, ↓gi_47, ↓pi_47, ↓gi_48, ↓pi_48, ↓gi_51, ↓pi_51, ↓gi_52, ↓pi_52, ↓gi_53, ↓pi_53, ↓gi_91, ↓pi_91, ↓gi_92, ↓pi_92, ↓gi_93, ↓pi_93, ↓gi_95, ↓pi_95, ↓gi_89, ↓pi_89, ↓gi_94, ↓pi_94, ↓gi_1, ↓gi_3, ↓gn_1, ↓gn_2, ↓gr_2, ↓gr_55, ↓pr_55, ↓gl_96, ↓pl_96, ↓gf_w0, ↓gf_w1, ↓gw_w, ↓gf_s0, ↓gf_s1, ↓ho_s, ↓gn_b, ↓gi_b]
  refine (lp (fun k s => Rv 92 4 [some (.ref 49), some (.int s), some (.int (Int32.ofNat k))] [] (en G c F A P W O)) (fun k s => if exb (apb F A (A 52 k) (-1)) (kn g) = true then s else s + 1) (cnt (lwp g) (10 ^ chn g)) 0 fun k hk s => ?_).trans ?_
  · rw [h92_4]
    simp only [↓e92_0, ↓e92_1, ↓e92_2, ↓e92_3, ↓e92_5, ↓e92_6, ↓e92_9, ↓e92_12, ↓e92_15, ↓e92_16, ↓e92_19, ↓e92_20, ↓e92_23, ↓e92_24, ↓e92_27, ↓e92_28, ↓e92_31, ↓e92_34, ↓e92_37, ↓e92_40, ↓e92_43, ↓e92_44, ↓ldI_0, ↓ldI_s, ↓ldA_0, ↓ldA_n, ↓ldA_s, ↓ldL_0, ↓ldL_s, ↓lst_0, ↓lst_s, ↓cal_v, ↓cal_x, ↓vts_s, ↓vts_n, ↓lpr_0, ↓lpr_i, ↓lpr_r, ↓lpr_n, ↓lpr_s, PA_41, ↓reduceIte, or_true, true_or, ↓ho_40, ↓gf_40_0, ↓gf_40_1, ↓gf_40_2, ↓gf_40_3, ↓ho_49, ↓gf_49_0, ↓gf_49_1, ↓gf_49_2, ↓gf_49_3, ↓pf_49_3, ↓ho_50, ↓gf_50_0, ↓gf_50_1, ↓gf_50_2, ↓pf_50_2, ↓gf_50_3, ↓pf_50_3, ↓gf_50_4, ↓pf_50_4, ↓gf_50_5, ↓pf_50_5, ↓gf_50_6, ↓pf_50_6, ↓ho_54, ↓gf_54_0, ↓gf_54_1, ↓pf_54_1, ↓ho_88, ↓gf_88_0, ↓gf_88_1, ↓pf_88_1, ↓gf_88_2, ↓pf_88_2, ↓gf_88_3, ↓pf_88_3, ↓gf_88_4, ↓pf_88_4, ↓gf_88_5, ↓pf_88_5, ↓ho_90, ↓gf_90_0, ↓gf_90_1, ↓gf_90_2, ↓pf_90_2, ↓gf_90_3, ↓pf_90_3, ↓gf_90_4, ↓gf_90_5, ↓gf_90_6, ↓pf_90_6, ↓gf_90_7, ↓pf_90_7, ↓gf_90_8, ↓pf_90_8, ↓gf_90_9, ↓pf_90_9, ↓gf_90_10, ↓pf_90_10, ↓gf_90_11, ↓gf_41_0, ↓pf_41_0, ↓gf_41_1, ↓pf_41_1, ↓gf_41_2, ↓gf_41_3, ↓pf_41_3, ↓gf_41_4, ↓gf_41_5, ↓gf_41_6, ↓gf_41_7, ↓gf_41_8, ↓pf_41_8, ↓gf_41_9, ↓pf_41_9, ↓gf_41_10, ↓gf_41_11, ↓ho_41, ↓gi_42, ↓pi_42, ↓gi_43, ↓pi_43, ↓gi_44, ↓pi_44, ↓gi_45, ↓pi_45, ↓gi_46, ↓pi_46, ↓gi_47, ↓pi_47, ↓gi_48, ↓pi_48, ↓gi_51, ↓pi_51, ↓gi_52, ↓pi_52, ↓gi_53, ↓pi_53, ↓gi_91, ↓pi_91, ↓gi_92, ↓pi_92, ↓gi_93, ↓pi_93, ↓gi_95, ↓pi_95, ↓gi_89, ↓pi_89, ↓gi_94, ↓pi_94, ↓gi_1, ↓gi_3, ↓gn_1, ↓gn_2, ↓gr_2, ↓gr_55, ↓pr_55, ↓gl_96, ↓pl_96, ↓gf_w0, ↓gf_w1, ↓gw_w, ↓gf_s0, ↓gf_s1, ↓ho_s, ↓gn_b, ↓gi_b, hL.1, io_lt (show k < 2147483648 by omega) (show cnt (lwp g) (10 ^ chn g) < 2147483648 by omega), show k < cnt (lwp g) (10 ^ chn g) from hk, s27 (show k < 1296 by omega), s60 (rp_n hR hw) (wf_n16 hw), io_succ]
    by_cases h2 : exb (apb F A (A 52 k) (-1)) (kn g) = true
    · simp [h2]
    · simp [h2]
  · rw [h92_4]
    simp only [↓e92_0, ↓e92_1, ↓e92_2, ↓e92_3, ↓e92_5, ↓e92_6, ↓e92_9, ↓e92_12, ↓e92_15, ↓e92_16, ↓e92_19, ↓e92_20, ↓e92_23, ↓e92_24, ↓e92_27, ↓e92_28, ↓e92_31, ↓e92_34, ↓e92_37, ↓e92_40, ↓e92_43, ↓e92_44, ↓ldI_0, ↓ldI_s, ↓ldA_0, ↓ldA_n, ↓ldA_s, ↓ldL_0, ↓ldL_s, ↓lst_0, ↓lst_s, ↓cal_v, ↓cal_x, ↓vts_s, ↓vts_n, ↓lpr_0, ↓lpr_i, ↓lpr_r, ↓lpr_n, ↓lpr_s, PA_41, ↓reduceIte, or_true, true_or, ↓ho_40, ↓gf_40_0, ↓gf_40_1, ↓gf_40_2, ↓gf_40_3, ↓ho_49, ↓gf_49_0, ↓gf_49_1, ↓gf_49_2, ↓gf_49_3, ↓pf_49_3, ↓ho_50, ↓gf_50_0, ↓gf_50_1, ↓gf_50_2, ↓pf_50_2, ↓gf_50_3, ↓pf_50_3, ↓gf_50_4, ↓pf_50_4, ↓gf_50_5, ↓pf_50_5, ↓gf_50_6, ↓pf_50_6, ↓ho_54, ↓gf_54_0, ↓gf_54_1, ↓pf_54_1, ↓ho_88, ↓gf_88_0, ↓gf_88_1, ↓pf_88_1, ↓gf_88_2, ↓pf_88_2, ↓gf_88_3, ↓pf_88_3, ↓gf_88_4, ↓pf_88_4, ↓gf_88_5, ↓pf_88_5, ↓ho_90, ↓gf_90_0, ↓gf_90_1, ↓gf_90_2, ↓pf_90_2, ↓gf_90_3, ↓pf_90_3, ↓gf_90_4, ↓gf_90_5, ↓gf_90_6, ↓pf_90_6, ↓gf_90_7, ↓pf_90_7, ↓gf_90_8, ↓pf_90_8, ↓gf_90_9, ↓pf_90_9, ↓gf_90_10, ↓pf_90_10, ↓gf_90_11, ↓gf_41_0, ↓pf_41_0, ↓gf_41_1, ↓pf_41_1, ↓gf_41_2, ↓gf_41_3, ↓pf_41_3, ↓gf_41_4, ↓gf_41_5, ↓gf_41_6, ↓gf_41_7, ↓gf_41_8, ↓pf_41_8, ↓gf_41_9, ↓pf_41_9, ↓gf_41_10, ↓gf_41_11, ↓ho_41, ↓gi_42, ↓pi_42, ↓gi_43, ↓pi_43, ↓gi_44, ↓pi_44, ↓gi_45, ↓pi_45, ↓gi_46, ↓pi_46, ↓gi_47, ↓pi_47, ↓gi_48, ↓pi_48, ↓gi_51, ↓pi_51, ↓gi_52, ↓pi_52, ↓gi_53, ↓pi_53, ↓gi_91, ↓pi_91, ↓gi_92, ↓pi_92, ↓gi_93, ↓pi_93, ↓gi_95, ↓pi_95, ↓gi_89, ↓pi_89, ↓gi_94, ↓pi_94, ↓gi_1, ↓gi_3, ↓gn_1, ↓gn_2, ↓gr_2, ↓gr_55, ↓pr_55, ↓gl_96, ↓pl_96, ↓gf_w0, ↓gf_w1, ↓gw_w, ↓gf_s0, ↓gf_s1, ↓ho_s, ↓gn_b, ↓gi_b, hL.1, Int32.lt_irrefl]
theorem rsn_0 {key : Int32} {b : Nat} : (rsn g key b = 0) = (lwp g b = true ∧ apa g key b = false) := by
  unfold rsn lwp
  show ((if wrg g b = 0 then (if apa g key b = true then 4 else 0) else wrg g b) = 0) = _
  by_cases h : wrg g b = 0
  · by_cases h2 : apa g key b = true
    · simp [h, h2]
    · simp [h, h2]
  · simp [h]
theorem t92 (hw : Wf g) (hR : Rp F A 41 g) (hL : LL F A g) : Rv 92 0 [some (.ref 49), none, none] [] (en G c F A P W O) = some (.inl (some (.int (Int32.ofNat (frc g)))), (en G c F A P W O)) := by
  rw [l92 hw hR hL]
  rw [lst_codes hw (f' := fun x s => if apa g (-1) x = true then s else s + 1) (fun x hx hp s => by
    rw [(hL.2 x hx hp).2, apb_eq hw hR (six_icd hw (lwp_icd hp))])]
  refine congrArg (fun z => some (Sum.inl (some (Value.int z)), _)) ?_
  unfold frc
  refine fo_io (v := fun k => cnt (fun v => decide (rsn g (-1) (cofn (dpn g) (chn g) v) = 0)) k) rfl fun k hk => ?_
  rw [cnt_s]
  simp only [rsn_0, decide_eq_true_eq]
  by_cases h1 : lwp g (cofn (dpn g) (chn g) k) = true
  · by_cases h2 : apa g (-1) (cofn (dpn g) (chn g) k) = true
    · simp [h1, h2]
    · simp [h1, h2]
  · simp [h1]
/-- the cost of a change of key a's code -/
def mrt (g : Nat → Int32) (a x : Nat) : Nat := 100 * dff g x (cd g a) + szs g x (cd g a)
theorem szs_le (g : Nat → Int32) (x z : Nat) : szs g x z ≤ chn g * 9 := sum_le fun k _ => by
  have b1 := dig_lt (chn g) x k
  have b2 := dig_lt (chn g) z k
  split <;> omega
theorem mrt_le (hw : Wf g) (b : Nat) : mrt g a b ≤ 500 := by
  have := dff_le g b (cd g a)
  have := szs_le g b (cd g a)
  have := wf_c4 hw
  unfold mrt
  omega
theorem t94 (hw : Wf g) (hR : Rp F A 41 g) (ha : a < kn g) (hi : icd (chn g) (dpn g) b = true) : Rv 94 0 [some (.ref 49), some (.int (Int32.ofNat a)), some (.int (bits (ctb (chn g) b) 24)), none] [] (en G c F A P W O) = some (.inl (some (.int (Int32.ofNat (mrt g a b)))), (en G c F A P W O)) := by
  have n16 := wf_n16 hw
  have c4 := wf_c4 hw
  have h6 := six_icd hw hi
  have hg := six_of hw ha
  have e1 : Int32.ofNat (chn g) - bct (bits (ctb (chn g) b) 24 &&& bits (ctb (chn g) (cd g a)) 24) = Int32.ofNat (dff g b (cd g a)) := dff_bits c4 h6
  have e2 : dsz (bits (ctb (chn g) b) 24) (bits (ctb (chn g) (cd g a)) 24) (chn g) = Int32.ofNat (szs g b (cd g a)) := dsz_io c4 h6 hg
  simp only [↓e94_0, ↓e94_1, ↓e94_4, ↓e94_5, ↓e94_8, ↓e94_9, ↓e94_10, ↓e94_11, ↓e94_12, ↓e94_15, ↓e94_18, ↓e94_21, ↓e94_23, ↓e94_24, ↓e94_25, ↓e94_26, ↓e94_27, ↓e94_30, ↓e94_33, ↓e94_36, ↓e94_37, ↓ldI_0, ↓ldI_s, ↓ldA_0, ↓ldA_n, ↓ldA_s, ↓ldL_0, ↓ldL_s, ↓lst_0, ↓lst_s, ↓cal_v, ↓cal_x, ↓vts_s, ↓vts_n, ↓lpr_0, ↓lpr_i, ↓lpr_r, ↓lpr_n, ↓lpr_s, PA_41, ↓reduceIte, or_true, true_or, ↓ho_40, ↓gf_40_0, ↓gf_40_1, ↓gf_40_2, ↓gf_40_3, ↓ho_49, ↓gf_49_0, ↓gf_49_1, ↓gf_49_2, ↓gf_49_3, ↓pf_49_3, ↓ho_50, ↓gf_50_0, ↓gf_50_1, ↓gf_50_2, ↓pf_50_2, ↓gf_50_3, ↓pf_50_3, ↓gf_50_4, ↓pf_50_4, ↓gf_50_5, ↓pf_50_5, ↓gf_50_6, ↓pf_50_6, ↓ho_54, ↓gf_54_0, ↓gf_54_1, ↓pf_54_1, ↓ho_88, ↓gf_88_0, ↓gf_88_1, ↓pf_88_1, ↓gf_88_2, ↓pf_88_2, ↓gf_88_3, ↓pf_88_3, ↓gf_88_4, ↓pf_88_4, ↓gf_88_5, ↓pf_88_5, ↓ho_90, ↓gf_90_0, ↓gf_90_1, ↓gf_90_2, ↓pf_90_2, ↓gf_90_3, ↓pf_90_3, ↓gf_90_4, ↓gf_90_5, ↓gf_90_6, ↓pf_90_6, ↓gf_90_7, ↓pf_90_7, ↓gf_90_8, ↓pf_90_8, ↓gf_90_9, ↓pf_90_9, ↓gf_90_10, ↓pf_90_10, ↓gf_90_11, ↓gf_41_0, ↓pf_41_0, ↓gf_41_1, ↓pf_41_1, ↓gf_41_2, ↓gf_41_3, ↓pf_41_3, ↓gf_41_4, ↓gf_41_5, ↓gf_41_6, ↓gf_41_7, ↓gf_41_8, ↓pf_41_8, ↓gf_41_9, ↓pf_41_9, ↓gf_41_10, ↓gf_41_11, ↓ho_41, ↓gi_42, ↓pi_42, ↓gi_43, ↓pi_43, ↓gi_44, ↓pi_44, ↓gi_45, ↓pi_45, ↓gi_46, ↓pi_46, ↓gi_47, ↓pi_47, ↓gi_48, ↓pi_48, ↓gi_51, ↓pi_51, ↓gi_52, ↓pi_52, ↓gi_53, ↓pi_53, ↓gi_91, ↓pi_91, ↓gi_92, ↓pi_92, ↓gi_93, ↓pi_93, ↓gi_95, ↓pi_95, ↓gi_89, ↓pi_89, ↓gi_94, ↓pi_94, ↓gi_1, ↓gi_3, ↓gn_1, ↓gn_2, ↓gr_2, ↓gr_55, ↓pr_55, ↓gl_96, ↓pl_96, ↓gf_w0, ↓gf_w1, ↓gw_w, ↓gf_s0, ↓gf_s1, ↓ho_s, ↓gn_b, ↓gi_b, s63 (io_zin (show a < 2147483648 by omega) (show a < 16 by omega)), io_ix (show a < 2147483648 by omega), rp_ct hR ha, rp_c hR hw, s20, e1, s21 c4 (cut_lws c4 h6) (cut_lws c4 hg), e2, show (100 : Int32) = Int32.ofNat 100 from rfl, io_mul, io_add]
  unfold mrt
  rw [Nat.mul_comm]
/-- a better code, rules aside -/
def okd (g : Nat → Int32) (a b : Nat) : Bool := !exb (fun d => opd g b d && !rgd g a d) 12
theorem t95 (hw : Wf g) (hR : Rp F A 41 g) (ha : a < kn g) (hi : icd (chn g) (dpn g) b = true) : Rv 95 0 [some (.ref 49), some (.int (Int32.ofNat a)), some (.int (bits (ctb (chn g) b) 24))] [] (en G c F A P W O) = some (.inl (some (.int (if b ≠ cd g a ∧ apa g (Int32.ofNat a) b = false ∧ okd g a b = true then 1 else 0))), (en G c F A P W O)) := by
  have n16 := wf_n16 hw
  have m12 := wf_m12 hw
  have c4 := wf_c4 hw
  have h6 := six_icd hw hi
  simp only [↓e95_0, ↓e95_1, ↓e95_2, ↓e95_5, ↓e95_6, ↓e95_9, ↓e95_12, ↓e95_13, ↓e95_16, ↓e95_17, ↓e95_18, ↓e95_21, ↓e95_24, ↓e95_25, ↓e95_28, ↓e95_29, ↓e95_32, ↓e95_33, ↓e95_36, ↓e95_37, ↓e95_40, ↓e95_41, ↓e95_42, ↓e95_43, ↓e95_46, ↓e95_47, ↓e95_50, ↓e95_51, ↓ldI_0, ↓ldI_s, ↓ldA_0, ↓ldA_n, ↓ldA_s, ↓ldL_0, ↓ldL_s, ↓lst_0, ↓lst_s, ↓cal_v, ↓cal_x, ↓vts_s, ↓vts_n, ↓lpr_0, ↓lpr_i, ↓lpr_r, ↓lpr_n, ↓lpr_s, PA_41, ↓reduceIte, or_true, true_or, ↓ho_40, ↓gf_40_0, ↓gf_40_1, ↓gf_40_2, ↓gf_40_3, ↓ho_49, ↓gf_49_0, ↓gf_49_1, ↓gf_49_2, ↓gf_49_3, ↓pf_49_3, ↓ho_50, ↓gf_50_0, ↓gf_50_1, ↓gf_50_2, ↓pf_50_2, ↓gf_50_3, ↓pf_50_3, ↓gf_50_4, ↓pf_50_4, ↓gf_50_5, ↓pf_50_5, ↓gf_50_6, ↓pf_50_6, ↓ho_54, ↓gf_54_0, ↓gf_54_1, ↓pf_54_1, ↓ho_88, ↓gf_88_0, ↓gf_88_1, ↓pf_88_1, ↓gf_88_2, ↓pf_88_2, ↓gf_88_3, ↓pf_88_3, ↓gf_88_4, ↓pf_88_4, ↓gf_88_5, ↓pf_88_5, ↓ho_90, ↓gf_90_0, ↓gf_90_1, ↓gf_90_2, ↓pf_90_2, ↓gf_90_3, ↓pf_90_3, ↓gf_90_4, ↓gf_90_5, ↓gf_90_6, ↓pf_90_6, ↓gf_90_7, ↓pf_90_7, ↓gf_90_8, ↓pf_90_8, ↓gf_90_9, ↓pf_90_9, ↓gf_90_10, ↓pf_90_10, ↓gf_90_11, ↓gf_41_0, ↓pf_41_0, ↓gf_41_1, ↓pf_41_1, ↓gf_41_2, ↓gf_41_3, ↓pf_41_3, ↓gf_41_4, ↓gf_41_5, ↓gf_41_6, ↓gf_41_7, ↓gf_41_8, ↓pf_41_8, ↓gf_41_9, ↓pf_41_9, ↓gf_41_10, ↓gf_41_11, ↓ho_41, ↓gi_42, ↓pi_42, ↓gi_43, ↓pi_43, ↓gi_44, ↓pi_44, ↓gi_45, ↓pi_45, ↓gi_46, ↓pi_46, ↓gi_47, ↓pi_47, ↓gi_48, ↓pi_48, ↓gi_51, ↓pi_51, ↓gi_52, ↓pi_52, ↓gi_53, ↓pi_53, ↓gi_91, ↓pi_91, ↓gi_92, ↓pi_92, ↓gi_93, ↓pi_93, ↓gi_95, ↓pi_95, ↓gi_89, ↓pi_89, ↓gi_94, ↓pi_94, ↓gi_1, ↓gi_3, ↓gn_1, ↓gn_2, ↓gr_2, ↓gr_55, ↓pr_55, ↓gl_96, ↓pl_96, ↓gf_w0, ↓gf_w1, ↓gw_w, ↓gf_s0, ↓gf_s1, ↓ho_s, ↓gn_b, ↓gi_b, s63 (io_zin (show a < 2147483648 by omega) (show a < 16 by omega)), io_ix (show a < 2147483648 by omega), rp_ct hR ha, ctb_inj c4 (icd_10 hi) (icd_10 (wf_ic hw a ha)) h6, t60 hw hR h6, s73 (rp_m hR hw) m12, doz_bits hR hw h6, s74 (rp_m hR hw) m12 (rp_oz hR hw), drz_bits hR hw ha, bits_less _ _ (show 12 ≤ 32 by omega), bits_ex _ (show 12 ≤ 32 by omega)]
  unfold okd
  by_cases h1 : b = cd g a
  · simp [h1]
  · by_cases h2 : apa g (Int32.ofNat a) b = true
    · simp [h1, h2]
    · by_cases h3 : exb (fun d => opd g b d && !rgd g a d) 12 = true
      · simp [h1, h2, h3]
      · simp [h1, h2, h3]
/-- the best so far: the code, its cost -/
def bst (g : Nat → Int32) (a v : Nat) (s : Int32 × Nat) : Int32 × Nat := if (s.1 = -1 ∨ mrt g a (cofn (dpn g) (chn g) v) < s.2) ∧ cofn (dpn g) (chn g) v ≠ cd g a ∧ rsn g (Int32.ofNat a) (cofn (dpn g) (chn g) v) = 0 ∧ okd g a (cofn (dpn g) (chn g) v) = true then (Int32.ofNat (cofn (dpn g) (chn g) v), mrt g a (cofn (dpn g) (chn g) v)) else s
def btc (g : Nat → Int32) (a : Nat) : Int32 := (fo (bst g a) (dpn g ^ chn g) (-1, 0)).1
theorem fo_rel {α β : Type} {f : Nat → α → α} {h : Nat → β → β} {R : α → β → Prop} {n : Nat} {a : α} {b : β} (h0 : R a b) (hs : ∀ k, k < n → ∀ s t, R s t → R (f k s) (h k t)) : R (fo f n a) (fo h n b) := by
  induction n with
  | zero => exact h0
  | succ n ih => exact hs n (by omega) _ _ (ih fun k hk => hs k (by omega))
/-- the cost as the class reckons it, place by place -/
def cst (g : Nat → Int32) (A : Nat → Nat → Int32) (a k : Nat) : Int32 := (Int32.ofNat (chn g) - bct (A 52 k &&& A 44 a)) * 100 + dsz (A 52 k) (A 44 a) (chn g)
def btk (g : Nat → Int32) (F A : Nat → Nat → Int32) (a k : Nat) : Prop := ¬ A 52 k = A 44 a ∧ exb (apb F A (A 52 k) (Int32.ofNat a)) (kn g) = false ∧ doz A (A 52 k) (dn g) &&& (drz F A (Int32.ofNat a) (dn g) ^^^ -1) = 0
theorem l93 (hw : Wf g) (hR : Rp F A 41 g) (hL : LL F A g) (ha : a < kn g) : ∃ f : Nat → Int32 × Int32 → Int32 × Int32, Rv 93 0 [some (.ref 49), some (.int (Int32.ofNat a)), none, none, none, none] [] (en G c F A P W O) = some (.inl (some (.int (fo f (cnt (lwp g) (10 ^ chn g)) (-1, 0)).1)), (en G c F A P W O)) ∧ ∀ x, x < 10 ^ chn g → lwp g x = true → ∀ s, f (cnt (lwp g) x) s = if (s.1 = -1 ∨ Int32.ofNat (mrt g a x) < s.2) ∧ x ≠ cd g a ∧ apa g (Int32.ofNat a) x = false ∧ okd g a x = true then (Int32.ofNat x, Int32.ofNat (mrt g a x)) else s := by
  have hcc := cnt_codes hw
  have hex : ∀ k, k < cnt (lwp g) (10 ^ chn g) → ∃ x, x < 10 ^ chn g ∧ lwp g x = true ∧ cnt (lwp g) x = k := fun k hk => cnt_kth hk
  let X : Nat → Nat := fun k => if h : k < cnt (lwp g) (10 ^ chn g) then (hex k h).choose else 0
  have hX : ∀ k, k < cnt (lwp g) (10 ^ chn g) → X k < 10 ^ chn g ∧ lwp g (X k) = true ∧ cnt (lwp g) (X k) = k := fun k hk => by
    have : X k = (hex k hk).choose := dif_pos hk
    rw [this]
    exact (hex k hk).choose_spec
  refine ⟨fun k s => if (s.1 = -1 ∨ Int32.ofNat (mrt g a (X k)) < s.2) ∧ X k ≠ cd g a ∧ apa g (Int32.ofNat a) (X k) = false ∧ okd g a (X k) = true then (Int32.ofNat (X k), Int32.ofNat (mrt g a (X k))) else s, ?_, fun x hx hp s => ?_⟩
  · simp only [↓e93_0, ↓e93_1, ↓e93_2, ↓e93_3, ↓e93_4, ↓e93_5, ↓e93_9, ↓e93_10, ↓e93_13, ↓e93_16, ↓e93_19, ↓e93_20, ↓e93_21, ↓e93_22, ↓e93_25, ↓e93_27, ↓e93_30, ↓e93_33, ↓e93_35, ↓e93_36, ↓e93_37, ↓e93_40, ↓e93_42, ↓e93_43, ↓e93_46, ↓e93_47, ↓e93_48, ↓e93_49, ↓e93_52, ↓e93_54, ↓e93_57, ↓e93_60, ↓e93_63, ↓e93_64, ↓e93_67, ↓e93_69, ↓e93_72, ↓e93_73, ↓e93_75, ↓e93_76, ↓e93_79, ↓e93_82, ↓e93_83, ↓ldI_0, ↓ldI_s, ↓ldA_0, ↓ldA_n, ↓ldA_s, ↓ldL_0, ↓ldL_s, ↓lst_0, ↓lst_s, ↓cal_v, ↓cal_x, ↓vts_s, ↓vts_n, ↓lpr_0, ↓lpr_i, ↓lpr_r, ↓lpr_n, ↓lpr_s, PA_41, ↓reduceIte, or_true, true_or, ↓ho_40, ↓gf_40_0, ↓gf_40_1, ↓gf_40_2, ↓gf_40_3, ↓ho_49, ↓gf_49_0, ↓gf_49_1, ↓gf_49_2, ↓gf_49_3, ↓pf_49_3, ↓ho_50, ↓gf_50_0, ↓gf_50_1, ↓gf_50_2, ↓pf_50_2, ↓gf_50_3, ↓pf_50_3, ↓gf_50_4, ↓pf_50_4, ↓gf_50_5, ↓pf_50_5, ↓gf_50_6, ↓pf_50_6, ↓ho_54, ↓gf_54_0, ↓gf_54_1, ↓pf_54_1, ↓ho_88, ↓gf_88_0, ↓gf_88_1, ↓pf_88_1, ↓gf_88_2, ↓pf_88_2, ↓gf_88_3, ↓pf_88_3, ↓gf_88_4, ↓pf_88_4, ↓gf_88_5, ↓pf_88_5, ↓ho_90, ↓gf_90_0, ↓gf_90_1, ↓gf_90_2, ↓pf_90_2, ↓gf_90_3, ↓pf_90_3, ↓gf_90_4, ↓gf_90_5, ↓gf_90_6, ↓pf_90_6, ↓gf_90_7, ↓pf_90_7, ↓gf_90_8, ↓pf_90_8, ↓gf_90_9, ↓pf_90_9, ↓gf_90_10, ↓pf_90_10, ↓gf_90_11, ↓gf_41_0, ↓pf_41_0, ↓gf_41_1, ↓pf_41_1, ↓gf_41_2, ↓gf_41_3, ↓pf_41_3, ↓gf_41_4, ↓gf_41_5, ↓gf_41_6, ↓gf_41_7, ↓gf_41_8, ↓pf_41_8, ↓gf_41_9, ↓pf_41_9, ↓gf_41_10, ↓gf_41_11, ↓ho_41, ↓gi_42, ↓pi_42, ↓gi_43, ↓pi_43, ↓gi_44, ↓pi_44, ↓gi_45, ↓pi_45, ↓gi_46, ↓pi_46, ↓gi_47, ↓pi_47, ↓gi_48, ↓pi_48, ↓gi_51, ↓pi_51, ↓gi_52, ↓pi_52, ↓gi_53, ↓pi_53, ↓gi_91, ↓pi_91, ↓gi_92, ↓pi_92, ↓gi_93, ↓pi_93, ↓gi_95, ↓pi_95, ↓gi_89, ↓pi_89, ↓gi_94, ↓pi_94, ↓gi_1, ↓gi_3, ↓gn_1, ↓gn_2, ↓gr_2, ↓gr_55, ↓pr_55, ↓gl_96, ↓pl_96, ↓gf_w0, ↓gf_w1, ↓gw_w, ↓gf_s0, ↓gf_s1, ↓ho_s, ↓gn_b, ↓gi_b]
    refine (lp (fun k (s : Int32 × Int32) => Rv 93 7 [some (.ref 49), some (.int (Int32.ofNat a)), some (.int s.1), some (.int s.2), some (.int (Int32.ofNat k)), (match k with | 0 => none | z + 1 => some (.int (Int32.ofNat (mrt g a (X z)))))] [] (en G c F A P W O)) (fun k s => if (s.1 = -1 ∨ Int32.ofNat (mrt g a (X k)) < s.2) ∧ X k ≠ cd g a ∧ apa g (Int32.ofNat a) (X k) = false ∧ okd g a (X k) = true then (Int32.ofNat (X k), Int32.ofNat (mrt g a (X k))) else s) (cnt (lwp g) (10 ^ chn g)) (-1, 0) fun k hk s => ?_).trans ?_
    · rw [h93_7]
      generalize (match k with | 0 => none | z + 1 => some (Value.int (Int32.ofNat (mrt g a (X z))))) = sl
      obtain ⟨x1, x2, x3⟩ := hX k hk
      have hi := lwp_icd x2
      have hl := hL.2 (X k) x1 x2
      rw [x3] at hl
      simp only [↓e93_0, ↓e93_1, ↓e93_2, ↓e93_3, ↓e93_4, ↓e93_5, ↓e93_9, ↓e93_10, ↓e93_13, ↓e93_16, ↓e93_19, ↓e93_20, ↓e93_21, ↓e93_22, ↓e93_25, ↓e93_27, ↓e93_30, ↓e93_33, ↓e93_35, ↓e93_36, ↓e93_37, ↓e93_40, ↓e93_42, ↓e93_43, ↓e93_46, ↓e93_47, ↓e93_48, ↓e93_49, ↓e93_52, ↓e93_54, ↓e93_57, ↓e93_60, ↓e93_63, ↓e93_64, ↓e93_67, ↓e93_69, ↓e93_72, ↓e93_73, ↓e93_75, ↓e93_76, ↓e93_79, ↓e93_82, ↓e93_83, ↓ldI_0, ↓ldI_s, ↓ldA_0, ↓ldA_n, ↓ldA_s, ↓ldL_0, ↓ldL_s, ↓lst_0, ↓lst_s, ↓cal_v, ↓cal_x, ↓vts_s, ↓vts_n, ↓lpr_0, ↓lpr_i, ↓lpr_r, ↓lpr_n, ↓lpr_s, PA_41, ↓reduceIte, or_true, true_or, ↓ho_40, ↓gf_40_0, ↓gf_40_1, ↓gf_40_2, ↓gf_40_3, ↓ho_49, ↓gf_49_0, ↓gf_49_1, ↓gf_49_2, ↓gf_49_3, ↓pf_49_3, ↓ho_50, ↓gf_50_0, ↓gf_50_1, ↓gf_50_2, ↓pf_50_2, ↓gf_50_3, ↓pf_50_3, ↓gf_50_4, ↓pf_50_4, ↓gf_50_5, ↓pf_50_5, ↓gf_50_6, ↓pf_50_6, ↓ho_54, ↓gf_54_0, ↓gf_54_1, ↓pf_54_1, ↓ho_88, ↓gf_88_0, ↓gf_88_1, ↓pf_88_1, ↓gf_88_2, ↓pf_88_2, ↓gf_88_3, ↓pf_88_3, ↓gf_88_4, ↓pf_88_4, ↓gf_88_5, ↓pf_88_5, ↓ho_90, ↓gf_90_0, ↓gf_90_1, ↓gf_90_2, ↓pf_90_2, ↓gf_90_3, ↓pf_90_3, ↓gf_90_4, ↓gf_90_5, ↓gf_90_6, ↓pf_90_6, ↓gf_90_7, ↓pf_90_7, ↓gf_90_8, ↓pf_90_8, ↓gf_90_9, ↓pf_90_9, ↓gf_90_10, ↓pf_90_10, ↓gf_90_11, ↓gf_41_0, ↓pf_41_0, ↓gf_41_1, ↓pf_41_1, ↓gf_41_2, ↓gf_41_3, ↓pf_41_3, ↓gf_41_4, ↓gf_41_5, ↓gf_41_6, ↓gf_41_7, ↓gf_41_8, ↓pf_41_8, ↓gf_41_9, ↓pf_41_9, ↓gf_41_10, ↓gf_41_11, ↓ho_41, ↓gi_42, ↓pi_42, ↓gi_43, ↓pi_43, ↓gi_44, ↓pi_44, ↓gi_45, ↓pi_45, ↓gi_46, ↓pi_46, ↓gi_47, ↓pi_47, ↓gi_48, ↓pi_48, ↓gi_51, ↓pi_51, ↓gi_52, ↓pi_52, ↓gi_53, ↓pi_53, ↓gi_91, ↓pi_91, ↓gi_92, ↓pi_92, ↓gi_93, ↓pi_93, ↓gi_95, ↓pi_95, ↓gi_89, ↓pi_89, ↓gi_94, ↓pi_94, ↓gi_1, ↓gi_3, ↓gn_1, ↓gn_2, ↓gr_2, ↓gr_55, ↓pr_55, ↓gl_96, ↓pl_96, ↓gf_w0, ↓gf_w1, ↓gw_w, ↓gf_s0, ↓gf_s1, ↓ho_s, ↓gn_b, ↓gi_b, hL.1, io_lt (show k < 2147483648 by omega) (show cnt (lwp g) (10 ^ chn g) < 2147483648 by omega), show k < cnt (lwp g) (10 ^ chn g) from hk, s27 (show k < 1296 by omega), s26 (show k < 1296 by omega), hl.1, hl.2, t94 hw hR ha hi, t95 hw hR ha hi, io_succ]
      by_cases h2 : X k ≠ cd g a ∧ apa g (Int32.ofNat a) (X k) = false ∧ okd g a (X k) = true
      · by_cases h0 : s.1 = -1
        · simp only [h0, h2, and_self, if_true, one_ne, if_false, true_and, true_or, not_false_eq_true, ne_eq]
        · by_cases h1 : Int32.ofNat (mrt g a (X k)) < s.2
          · simp only [h0, h1, h2, and_self, if_true, one_ne, if_false, true_and, or_true, false_or, not_false_eq_true, ne_eq]
          · simp only [h0, h1, h2, if_false, or_self, false_and]
      · by_cases h0 : s.1 = -1
        · simp only [h0, h2, and_false, if_true, if_false]
        · by_cases h1 : Int32.ofNat (mrt g a (X k)) < s.2
          · simp only [h0, h1, h2, and_false, if_true, if_false]
          · simp only [h0, h1, h2, and_false, if_false]
    · generalize (match cnt (lwp g) (10 ^ chn g) with | 0 => none | z + 1 => some (Value.int (Int32.ofNat (mrt g a (X z))))) = sl
      rw [h93_7]
      simp only [↓e93_0, ↓e93_1, ↓e93_2, ↓e93_3, ↓e93_4, ↓e93_5, ↓e93_9, ↓e93_10, ↓e93_13, ↓e93_16, ↓e93_19, ↓e93_20, ↓e93_21, ↓e93_22, ↓e93_25, ↓e93_27, ↓e93_30, ↓e93_33, ↓e93_35, ↓e93_36, ↓e93_37, ↓e93_40, ↓e93_42, ↓e93_43, ↓e93_46, ↓e93_47, ↓e93_48, ↓e93_49, ↓e93_52, ↓e93_54, ↓e93_57, ↓e93_60, ↓e93_63, ↓e93_64, ↓e93_67, ↓e93_69, ↓e93_72, ↓e93_73, ↓e93_75, ↓e93_76, ↓e93_79, ↓e93_82, ↓e93_83, ↓ldI_0, ↓ldI_s, ↓ldA_0, ↓ldA_n, ↓ldA_s, ↓ldL_0, ↓ldL_s, ↓lst_0, ↓lst_s, ↓cal_v, ↓cal_x, ↓vts_s, ↓vts_n, ↓lpr_0, ↓lpr_i, ↓lpr_r, ↓lpr_n, ↓lpr_s, PA_41, ↓reduceIte, or_true, true_or, ↓ho_40, ↓gf_40_0, ↓gf_40_1, ↓gf_40_2, ↓gf_40_3, ↓ho_49, ↓gf_49_0, ↓gf_49_1, ↓gf_49_2, ↓gf_49_3, ↓pf_49_3, ↓ho_50, ↓gf_50_0, ↓gf_50_1, ↓gf_50_2, ↓pf_50_2, ↓gf_50_3, ↓pf_50_3, ↓gf_50_4, ↓pf_50_4, ↓gf_50_5, ↓pf_50_5, ↓gf_50_6, ↓pf_50_6, ↓ho_54, ↓gf_54_0, ↓gf_54_1, ↓pf_54_1, ↓ho_88, ↓gf_88_0, ↓gf_88_1, ↓pf_88_1, ↓gf_88_2, ↓pf_88_2, ↓gf_88_3, ↓pf_88_3, ↓gf_88_4, ↓pf_88_4, ↓gf_88_5, ↓pf_88_5, ↓ho_90, ↓gf_90_0, ↓gf_90_1, ↓gf_90_2, ↓pf_90_2, ↓gf_90_3, ↓pf_90_3, ↓gf_90_4, ↓gf_90_5, ↓gf_90_6, ↓pf_90_6, ↓gf_90_7, ↓pf_90_7, ↓gf_90_8, ↓pf_90_8, ↓gf_90_9, ↓pf_90_9, ↓gf_90_10, ↓pf_90_10, ↓gf_90_11, ↓gf_41_0, ↓pf_41_0, ↓gf_41_1, ↓pf_41_1, ↓gf_41_2, ↓gf_41_3, ↓pf_41_3, ↓gf_41_4, ↓gf_41_5, ↓gf_41_6, ↓gf_41_7, ↓gf_41_8, ↓pf_41_8, ↓gf_41_9, ↓pf_41_9, ↓gf_41_10, ↓gf_41_11, ↓ho_41, ↓gi_42, ↓pi_42, ↓gi_43, ↓pi_43, ↓gi_44, ↓pi_44, ↓gi_45, ↓pi_45, ↓gi_46, ↓pi_46, ↓gi_47, ↓pi_47, ↓gi_48, ↓pi_48, ↓gi_51, ↓pi_51, ↓gi_52, ↓pi_52, ↓gi_53, ↓pi_53, ↓gi_91, ↓pi_91, ↓gi_92, ↓pi_92, ↓gi_93, ↓pi_93, ↓gi_95, ↓pi_95, ↓gi_89, ↓pi_89, ↓gi_94, ↓pi_94, ↓gi_1, ↓gi_3, ↓gn_1, ↓gn_2, ↓gr_2, ↓gr_55, ↓pr_55, ↓gl_96, ↓pl_96, ↓gf_w0, ↓gf_w1, ↓gw_w, ↓gf_s0, ↓gf_s1, ↓ho_s, ↓gn_b, ↓gi_b, hL.1, Int32.lt_irrefl]
  · have hlt := cnt_lt (p := lwp g) hx hp
    obtain ⟨x1, x2, x3⟩ := hX _ hlt
    have e : X (cnt (lwp g) x) = x := by
      rcases Nat.lt_trichotomy (X (cnt (lwp g) x)) x with h | h | h
      · have := cnt_lt (p := lwp g) h x2; omega
      · exact h
      · have := cnt_lt (p := lwp g) h hp; omega
    dsimp only
    rw [e]
theorem t93 (hw : Wf g) (hR : Rp F A 41 g) (hL : LL F A g) (ha : a < kn g) : Rv 93 0 [some (.ref 49), some (.int (Int32.ofNat a)), none, none, none, none] [] (en G c F A P W O) = some (.inl (some (.int (btc g a))), (en G c F A P W O)) := by
  obtain ⟨f, e1, e2⟩ := l93 (G := G) (c := c) (P := P) (W := W) (O := O) hw hR hL ha
  rw [e1, lst_codes hw e2]
  refine congrArg (fun z => some (Sum.inl (some (Value.int z)), _)) ?_
  have d2 := wf_d2 hw
  have d6 := wf_d6 hw
  have key := fo_rel (f := fun v s => if lwp g (cofn (dpn g) (chn g) v) = true then (if (s.1 = -1 ∨ Int32.ofNat (mrt g a (cofn (dpn g) (chn g) v)) < s.2) ∧ cofn (dpn g) (chn g) v ≠ cd g a ∧ apa g (Int32.ofNat a) (cofn (dpn g) (chn g) v) = false ∧ okd g a (cofn (dpn g) (chn g) v) = true then (Int32.ofNat (cofn (dpn g) (chn g) v), Int32.ofNat (mrt g a (cofn (dpn g) (chn g) v))) else s) else s) (h := bst g a) (n := dpn g ^ chn g) (a := ((-1, 0) : Int32 × Int32)) (b := (-1, 0)) (R := fun s t => s.1 = t.1 ∧ s.2 = Int32.ofNat t.2 ∧ t.2 ≤ 500) ⟨rfl, rfl, by omega⟩ ?_
  · exact key.1
  · intro k hk s t ⟨h1, h2, h3⟩
    have hq : cofn (dpn g) (chn g) k < 10000 := Nat.lt_of_lt_of_le (cofn_lt (by omega) (by omega) _ _) (ten_4 (wf_c4 hw)).2
    have hm := mrt_le (a := a) hw (cofn (dpn g) (chn g) k)
    unfold bst
    generalize cofn (dpn g) (chn g) k = z at hq hm
    have hlt : (s.1 = -1 ∨ Int32.ofNat (mrt g a z) < s.2) ↔ (t.1 = -1 ∨ mrt g a z < t.2) := by
      rw [h2, ← h1, io_lt (by omega) (by omega)]
    have hc : (lwp g z = true ∧ ((s.1 = -1 ∨ Int32.ofNat (mrt g a z) < s.2) ∧ z ≠ cd g a ∧ apa g (Int32.ofNat a) z = false ∧ okd g a z = true)) ↔ ((t.1 = -1 ∨ mrt g a z < t.2) ∧ z ≠ cd g a ∧ rsn g (Int32.ofNat a) z = 0 ∧ okd g a z = true) := by
      rw [rsn_0, hlt]
      constructor
      · rintro ⟨a1, a2, a3, a4, a5⟩; exact ⟨a2, a3, ⟨a1, a4⟩, a5⟩
      · rintro ⟨a2, a3, ⟨a1, a4⟩, a5⟩; exact ⟨a1, a2, a3, a4, a5⟩
    by_cases hh : lwp g z = true ∧ ((s.1 = -1 ∨ Int32.ofNat (mrt g a z) < s.2) ∧ z ≠ cd g a ∧ apa g (Int32.ofNat a) z = false ∧ okd g a z = true)
    · rw [if_pos hh.1, if_pos hh.2, if_pos (hc.mp hh)]
      exact ⟨rfl, rfl, hm⟩
    · rw [if_neg (fun e => hh (hc.mpr e))]
      have : (if lwp g z = true then (if (s.1 = -1 ∨ Int32.ofNat (mrt g a z) < s.2) ∧ z ≠ cd g a ∧ apa g (Int32.ofNat a) z = false ∧ okd g a z = true then (Int32.ofNat z, Int32.ofNat (mrt g a z)) else s) else s) = s := by
        by_cases h4 : lwp g z = true
        · rw [if_pos h4, if_neg (fun e => hh ⟨h4, e⟩)]
        · rw [if_neg h4]
      rw [this]
      exact ⟨h1, h2, h3⟩
end ZT
