/-! the law's own small methods -/
section ZT
variable {G : zG} {c : Nat × Nat × Bool} {F A : Nat → Nat → Int32} {P : Nat → Nat} {W : Value} {O : Nat → Int64} {x y v : Int32} {a b i n : Nat}
theorem and_max (x : Int32) : ∃ a, a < 2147483648 ∧ x &&& 2147483647 = Int32.ofNat a := by
  have h : un (x &&& 2147483647) < 2147483648 := by
    rw [un_and, show un 2147483647 = 2147483647 from rfl]
    exact Nat.lt_of_le_of_lt Nat.and_le_right (by omega)
  refine ⟨un (x &&& 2147483647), h, un_inj ?_⟩
  rw [un_of (by omega)]
theorem s239 (x : Int32) (h0 : 0 < n) (hn : n < 2147483648) : ∃ a, a < n ∧ ∀ w : zW, Rv 239 0 [some (.int x), some (.int (Int32.ofNat n))] [] w = some (.inl (some (.int (Int32.ofNat a))), w) := by
  obtain ⟨b, hb, e⟩ := and_max x
  refine ⟨b % n, Nat.mod_lt _ h0, fun w => ?_⟩
  simp only [↓e239_0, ↓e239_1, ↓e239_3, ↓e239_4, ↓e239_5, ↓e239_6, ↓ldI_0, ↓ldI_s, ↓ldA_0, ↓ldA_n, ↓ldA_s, ↓ldL_0, ↓ldL_s, ↓lst_0, ↓lst_s, ↓cal_v, ↓cal_x, ↓vts_s, ↓vts_n, ↓lpr_0, ↓lpr_i, ↓lpr_r, ↓lpr_n, ↓lpr_s, PA_41, ↓reduceIte, or_true, true_or, e, io_ne0 h0 hn, if_false, io_rmi hb hn]
theorem s240 {w : zW} : Rv 240 0 [some (.int x), none, none] [] w = some (.inl (some (.int (Int32.ofNat (cnt (tb x) 16)))), w) := by
  simp only [↓e240_0, ↓e240_1, ↓e240_2, ↓e240_3, ↓e240_5, ↓e240_7, ↓e240_10, ↓e240_11, ↓e240_12, ↓e240_13, ↓e240_14, ↓e240_15, ↓e240_16, ↓e240_17, ↓e240_18, ↓e240_21, ↓e240_24, ↓e240_25, ↓ldI_0, ↓ldI_s, ↓ldA_0, ↓ldA_n, ↓ldA_s, ↓ldL_0, ↓ldL_s, ↓lst_0, ↓lst_s, ↓cal_v, ↓cal_x, ↓vts_s, ↓vts_n, ↓lpr_0, ↓lpr_i, ↓lpr_r, ↓lpr_n, ↓lpr_s, PA_41, ↓reduceIte, or_true, true_or]
  refine (lpV (fun k => Rv 240 4 [some (.int x), some (.int (Int32.ofNat (cnt (tb x) k))), some (.int (Int32.ofNat k))] [] w) 16 fun k hk => ?_).trans ?_
  · rw [h240_4]
    have h16 : (Int32.ofNat k < 16) = True := by
      rw [show (16 : Int32) = Int32.ofNat 16 from rfl, io_lt (by omega) (by omega)]; exact eq_true hk
    simp only [↓e240_0, ↓e240_1, ↓e240_2, ↓e240_3, ↓e240_5, ↓e240_7, ↓e240_10, ↓e240_11, ↓e240_12, ↓e240_13, ↓e240_14, ↓e240_15, ↓e240_16, ↓e240_17, ↓e240_18, ↓e240_21, ↓e240_24, ↓e240_25, ↓ldI_0, ↓ldI_s, ↓ldA_0, ↓ldA_n, ↓ldA_s, ↓ldL_0, ↓ldL_s, ↓lst_0, ↓lst_s, ↓cal_v, ↓cal_x, ↓vts_s, ↓vts_n, ↓lpr_0, ↓lpr_i, ↓lpr_r, ↓lpr_n, ↓lpr_s, PA_41, ↓reduceIte, or_true, true_or, h16, io_succ, sh_tb (show k < 32 by omega) x]
    by_cases hb : tb x k = true
    · simp only [hb, if_true, cnt, io_succ]
    · simp only [hb, if_false, cnt, Int32.add_zero, Bool.false_eq_true]
  · rw [h240_4]
    simp only [↓e240_0, ↓e240_1, ↓e240_2, ↓e240_3, ↓e240_5, ↓e240_7, ↓e240_10, ↓e240_11, ↓e240_12, ↓e240_13, ↓e240_14, ↓e240_15, ↓e240_16, ↓e240_17, ↓e240_18, ↓e240_21, ↓e240_24, ↓e240_25, ↓ldI_0, ↓ldI_s, ↓ldA_0, ↓ldA_n, ↓ldA_s, ↓ldL_0, ↓ldL_s, ↓lst_0, ↓lst_s, ↓cal_v, ↓cal_x, ↓vts_s, ↓vts_n, ↓lpr_0, ↓lpr_i, ↓lpr_r, ↓lpr_n, ↓lpr_s, PA_41, ↓reduceIte, or_true, true_or, show (Int32.ofNat 16 < 16) = False from by decide]
theorem s241 (h : n ≤ 4) {w : zW} : Rv 241 0 [some (.int 10), some (.int (Int32.ofNat n)), none, none] [] w = some (.inl (some (.int (Int32.ofNat (10 ^ n)))), w) := by
  simp only [↓e241_0, ↓e241_1, ↓e241_2, ↓e241_3, ↓e241_5, ↓e241_6, ↓e241_9, ↓e241_10, ↓e241_11, ↓e241_12, ↓e241_13, ↓e241_16, ↓e241_19, ↓e241_20, ↓ldI_0, ↓ldI_s, ↓ldA_0, ↓ldA_n, ↓ldA_s, ↓ldL_0, ↓ldL_s, ↓lst_0, ↓lst_s, ↓cal_v, ↓cal_x, ↓vts_s, ↓vts_n, ↓lpr_0, ↓lpr_i, ↓lpr_r, ↓lpr_n, ↓lpr_s, PA_41, ↓reduceIte, or_true, true_or]
  refine (lpV (fun k => Rv 241 4 [some (.int 10), some (.int (Int32.ofNat n)), some (.int (Int32.ofNat (10 ^ k))), some (.int (Int32.ofNat k))] [] w) n fun k hk => ?_).trans ?_
  · rw [h241_4]
    simp only [↓e241_0, ↓e241_1, ↓e241_2, ↓e241_3, ↓e241_5, ↓e241_6, ↓e241_9, ↓e241_10, ↓e241_11, ↓e241_12, ↓e241_13, ↓e241_16, ↓e241_19, ↓e241_20, ↓ldI_0, ↓ldI_s, ↓ldA_0, ↓ldA_n, ↓ldA_s, ↓ldL_0, ↓ldL_s, ↓lst_0, ↓lst_s, ↓cal_v, ↓cal_x, ↓vts_s, ↓vts_n, ↓lpr_0, ↓lpr_i, ↓lpr_r, ↓lpr_n, ↓lpr_s, PA_41, ↓reduceIte, or_true, true_or, io_lt (show k < 2147483648 by omega) (show n < 2147483648 by omega), hk, io_succ, show (10 : Int32) = Int32.ofNat 10 from rfl, io_mul, Nat.pow_succ]
  · rw [h241_4]
    simp only [↓e241_0, ↓e241_1, ↓e241_2, ↓e241_3, ↓e241_5, ↓e241_6, ↓e241_9, ↓e241_10, ↓e241_11, ↓e241_12, ↓e241_13, ↓e241_16, ↓e241_19, ↓e241_20, ↓ldI_0, ↓ldI_s, ↓ldA_0, ↓ldA_n, ↓ldA_s, ↓ldL_0, ↓ldL_s, ↓lst_0, ↓lst_s, ↓cal_v, ↓cal_x, ↓vts_s, ↓vts_n, ↓lpr_0, ↓lpr_i, ↓lpr_r, ↓lpr_n, ↓lpr_s, PA_41, ↓reduceIte, or_true, true_or, Int32.lt_irrefl]
theorem s238 (hG : G.1 ≤ 260) (hi : i < 40) : ∃ v : Int32, ∀ (c : Nat × Nat × Bool) (F A : Nat → Nat → Int32) (P : Nat → Nat) (W : Value) (O : Nat → Int64), Rv 238 0 [some (.ref 1), some (.int (Int32.ofNat i))] [] (en G c F A P W O) = some (.inl (some (.int v)), (en G c F A P W O)) := by
  by_cases h : i < G.1
  · refine ⟨G.2 i, fun c F A P W O => ?_⟩
    simp only [↓e238_0, ↓e238_1, ↓e238_2, ↓e238_3, ↓e238_6, ↓e238_7, ↓e238_8, ↓e238_9, ↓e238_12, ↓e238_15, ↓e238_16, ↓e238_17, ↓e238_18, ↓e238_19, ↓e238_20, ↓e238_22, ↓e238_23, ↓e238_24, ↓ldI_0, ↓ldI_s, ↓ldA_0, ↓ldA_n, ↓ldA_s, ↓ldL_0, ↓ldL_s, ↓lst_0, ↓lst_s, ↓cal_v, ↓cal_x, ↓vts_s, ↓vts_n, ↓lpr_0, ↓lpr_i, ↓lpr_r, ↓lpr_n, ↓lpr_s, PA_41, ↓reduceIte, or_true, true_or, ↓ho_40, ↓gf_40_0, ↓gf_40_1, ↓gf_40_2, ↓gf_40_3, ↓ho_49, ↓gf_49_0, ↓gf_49_1, ↓gf_49_2, ↓gf_49_3, ↓pf_49_3, ↓ho_50, ↓gf_50_0, ↓gf_50_1, ↓gf_50_2, ↓pf_50_2, ↓gf_50_3, ↓pf_50_3, ↓gf_50_4, ↓pf_50_4, ↓gf_50_5, ↓pf_50_5, ↓gf_50_6, ↓pf_50_6, ↓ho_54, ↓gf_54_0, ↓gf_54_1, ↓pf_54_1, ↓ho_88, ↓gf_88_0, ↓gf_88_1, ↓pf_88_1, ↓gf_88_2, ↓pf_88_2, ↓gf_88_3, ↓pf_88_3, ↓gf_88_4, ↓pf_88_4, ↓gf_88_5, ↓pf_88_5, ↓gf_41_0, ↓pf_41_0, ↓gf_41_1, ↓pf_41_1, ↓gf_41_2, ↓gf_41_3, ↓pf_41_3, ↓gf_41_4, ↓gf_41_5, ↓gf_41_6, ↓gf_41_7, ↓gf_41_8, ↓pf_41_8, ↓gf_41_9, ↓pf_41_9, ↓gf_41_10, ↓gf_41_11, ↓ho_41, ↓gi_42, ↓pi_42, ↓gi_43, ↓pi_43, ↓gi_44, ↓pi_44, ↓gi_45, ↓pi_45, ↓gi_46, ↓pi_46, ↓gi_47, ↓pi_47, ↓gi_48, ↓pi_48, ↓gi_51, ↓pi_51, ↓gi_52, ↓pi_52, ↓gi_53, ↓pi_53, ↓gi_89, ↓pi_89, ↓gi_1, ↓gn_1, ↓gr_55, ↓pr_55, io_lt (show i < 2147483648 by omega) (show G.1 < 2147483648 by omega), h, if_true, io_zin (show i < 2147483648 by omega) h, io_ix (show i < 2147483648 by omega)]
  · refine ⟨7919 * (Int32.ofNat i + 3) * (Int32.ofNat i + 11), fun c F A P W O => ?_⟩
    simp only [↓e238_0, ↓e238_1, ↓e238_2, ↓e238_3, ↓e238_6, ↓e238_7, ↓e238_8, ↓e238_9, ↓e238_12, ↓e238_15, ↓e238_16, ↓e238_17, ↓e238_18, ↓e238_19, ↓e238_20, ↓e238_22, ↓e238_23, ↓e238_24, ↓ldI_0, ↓ldI_s, ↓ldA_0, ↓ldA_n, ↓ldA_s, ↓ldL_0, ↓ldL_s, ↓lst_0, ↓lst_s, ↓cal_v, ↓cal_x, ↓vts_s, ↓vts_n, ↓lpr_0, ↓lpr_i, ↓lpr_r, ↓lpr_n, ↓lpr_s, PA_41, ↓reduceIte, or_true, true_or, ↓ho_40, ↓gf_40_0, ↓gf_40_1, ↓gf_40_2, ↓gf_40_3, ↓ho_49, ↓gf_49_0, ↓gf_49_1, ↓gf_49_2, ↓gf_49_3, ↓pf_49_3, ↓ho_50, ↓gf_50_0, ↓gf_50_1, ↓gf_50_2, ↓pf_50_2, ↓gf_50_3, ↓pf_50_3, ↓gf_50_4, ↓pf_50_4, ↓gf_50_5, ↓pf_50_5, ↓gf_50_6, ↓pf_50_6, ↓ho_54, ↓gf_54_0, ↓gf_54_1, ↓pf_54_1, ↓ho_88, ↓gf_88_0, ↓gf_88_1, ↓pf_88_1, ↓gf_88_2, ↓pf_88_2, ↓gf_88_3, ↓pf_88_3, ↓gf_88_4, ↓pf_88_4, ↓gf_88_5, ↓pf_88_5, ↓gf_41_0, ↓pf_41_0, ↓gf_41_1, ↓pf_41_1, ↓gf_41_2, ↓gf_41_3, ↓pf_41_3, ↓gf_41_4, ↓gf_41_5, ↓gf_41_6, ↓gf_41_7, ↓gf_41_8, ↓pf_41_8, ↓gf_41_9, ↓pf_41_9, ↓gf_41_10, ↓gf_41_11, ↓ho_41, ↓gi_42, ↓pi_42, ↓gi_43, ↓pi_43, ↓gi_44, ↓pi_44, ↓gi_45, ↓pi_45, ↓gi_46, ↓pi_46, ↓gi_47, ↓pi_47, ↓gi_48, ↓pi_48, ↓gi_51, ↓pi_51, ↓gi_52, ↓pi_52, ↓gi_53, ↓pi_53, ↓gi_89, ↓pi_89, ↓gi_1, ↓gn_1, ↓gr_55, ↓pr_55, io_lt (show i < 2147483648 by omega) (show G.1 < 2147483648 by omega), h, if_false]
end ZT
