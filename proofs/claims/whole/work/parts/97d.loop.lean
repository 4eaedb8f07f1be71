/-! the law's loop -/
theorem and31 (x : Int32) : ∃ m, m < 32 ∧ x &&& 31 = Int32.ofNat m := by
  refine ⟨x.toBitVec.toNat % 32, Nat.mod_lt _ (by omega), ?_⟩
  apply Int32.toBitVec_inj.mp
  apply BitVec.eq_of_toNat_eq
  show (x.toBitVec &&& 31#32).toNat = (BitVec.ofNat 32 (x.toBitVec.toNat % 32)).toNat
  rw [BitVec.toNat_and]
  have h : x.toBitVec.toNat &&& (31#32).toNat = x.toBitVec.toNat % 32 := Nat.and_two_pow_sub_one_eq_mod x.toBitVec.toNat 5
  rw [h, BitVec.toNat_ofNat]
  exact (Nat.mod_eq_of_lt (by omega)).symm
theorem tsw_31 {m : Nat} {K : Nat → Option zR} (hm : m < 32) : tsw (Int32.ofNat m) 0 1590 K [160, 228, 296, 364, 432, 488, 544, 600, 668, 724, 737, 805, 873, 941, 1009, 1065, 1133, 1189, 1257, 1270, 1326, 1382, 1450, 1506, 1519, 1532, 1576] = K ([160, 228, 296, 364, 432, 488, 544, 600, 668, 724, 737, 805, 873, 941, 1009, 1065, 1133, 1189, 1257, 1270, 1326, 1382, 1450, 1506, 1519, 1532, 1576].getD m 1590) := by
  exact tsw_n (by omega) (by decide)
section ZT
variable {G : zG} {c : Nat × Nat × Bool} {F A : Nat → Nat → Int32} {P : Nat → Nat} {W : Value} {O : Nat → Int64} {i m u t : Nat} {z5 z6 : Option Value} {g : Nat → Int32} {ks : Nat → Nat → Int32} {tx : Nat → Int32}
theorem op_all (hm : m < 32) (hi : i + 3 ≤ G.1) (hG : G.1 ≤ 1536) (hS : SI g u ks t tx) (hC : CI F A P g u ks t tx) (hI : RI F A g u ks t tx) : STP G c F A P W O ([160, 228, 296, 364, 432, 488, 544, 600, 668, 724, 737, 805, 873, 941, 1009, 1065, 1133, 1189, 1257, 1270, 1326, 1382, 1450, 1506, 1519, 1532, 1576].getD m 1590) i z5 z6 := by
  by_cases h27 : 27 ≤ m
  · have e : [160, 228, 296, 364, 432, 488, 544, 600, 668, 724, 737, 805, 873, 941, 1009, 1065, 1133, 1189, 1257, 1270, 1326, 1382, 1450, 1506, 1519, 1532, 1576].getD m 1590 = 1590 := by
      rw [List.getD_eq_getElem?_getD, List.getElem?_eq_none (by simp only [List.length_cons, List.length_nil]; omega)]
      rfl
    rw [e]
    exact ⟨c, F, A, P, W, O, z5, z6, g, u, ks, t, tx, Nat.le_succ _, Nat.le_add_right _ _, hS, hC, hI, rfl⟩
  · have hm2 : m = 0 ∨ m = 1 ∨ m = 2 ∨ m = 3 ∨ m = 4 ∨ m = 5 ∨ m = 6 ∨ m = 7 ∨ m = 8 ∨ m = 9 ∨ m = 10 ∨ m = 11 ∨ m = 12 ∨ m = 13 ∨ m = 14 ∨ m = 15 ∨ m = 16 ∨ m = 17 ∨ m = 18 ∨ m = 19 ∨ m = 20 ∨ m = 21 ∨ m = 22 ∨ m = 23 ∨ m = 24 ∨ m = 25 ∨ m = 26 := by omega
    rcases hm2 with rfl | rfl | rfl | rfl | rfl | rfl | rfl | rfl | rfl | rfl | rfl | rfl | rfl | rfl | rfl | rfl | rfl | rfl | rfl | rfl | rfl | rfl | rfl | rfl | rfl | rfl | rfl
    · exact op_0 hi hG rfl rfl hS hC hI
    · exact op_1 hi hG rfl rfl hS hC hI
    · exact op_2 hi hG rfl rfl hS hC hI
    · exact op_3 hi hG rfl rfl hS hC hI
    · exact op_4 hi hG rfl hS hC hI
    · exact op_5 hi hG rfl hS hC hI
    · exact op_6 hi hG rfl hS hC hI
    · exact op_7 hi hG rfl rfl hS hC hI
    · exact op_8 hi hG rfl hS hC hI
    · exact op_9 hS hC hI
    · exact op_10 hi hG rfl rfl hS hC hI
    · exact op_11 hi hG rfl rfl hS hC hI
    · exact op_12 hi hG rfl rfl hS hC hI
    · exact op_13 hi hG rfl rfl hS hC hI
    · exact op_14 hi hG rfl hS hC hI
    · exact op_15 hi hG rfl rfl hS hC hI
    · exact op_16 hi hG rfl hS hC hI
    · exact op_17 hi hG rfl rfl hS hC hI
    · exact op_18 hS hC hI
    · exact op_19 hi hG rfl hS hC hI
    · exact op_20 hi hG rfl hS hC hI
    · exact op_21 hi hG rfl rfl hS hC hI
    · exact op_22 hi hG rfl hS hC hI
    · exact op_23 hS hC hI
    · exact op_24 hS hC hI
    · exact op_25 hi hG hS hC hI
    · exact op_26 hS hC hI
/-- is there another turn -/
theorem tn_lt {L i : Nat} (hL : L ≤ 1536) (hi : i ≤ 2000) : (Int32.ofNat L - 3 < Int32.ofNat i) = (L < i + 3) := by
  by_cases h : 3 ≤ L
  · rw [show (3 : Int32) = Int32.ofNat 3 from rfl, io_sub h, io_lt (by omega) (by omega)]
    exact propext (by omega)
  · have h2 : (Int32.ofNat L - 3).toInt < 0 := by
      have : L = 0 ∨ L = 1 ∨ L = 2 := by omega
      rcases this with rfl | rfl | rfl <;> decide
    rw [Int32.lt_iff_toInt_lt, Int32.toInt_ofNat_of_lt (by omega)]
    exact propext (by omega)
theorem l260 (hG : G.1 ≤ 1536) : ∀ r i (c : Nat × Nat × Bool) (F A : Nat → Nat → Int32) (P : Nat → Nat) (W : Value) (O : Nat → Int64) (z5 z6 : Option Value) (g : Nat → Int32) (u : Nat) (ks : Nat → Nat → Int32) (t : Nat) (tx : Nat → Int32), G.1 ≤ i + 3 * r + 2 → i ≤ 1536 → SI g u ks t tx → CI F A P g u ks t tx → RI F A g u ks t tx → ∃ w' : zW, Rv 260 23 [some (.ref 1), some (.ref 40), some (.ref 90), some (.ref 96), some (.int (Int32.ofNat i)), z5, z6] [] (en G c F A P W O) = some (.inl (some (.int 1)), w') ∧ w'.1.1 ≤ c.1 + r ∧ w'.1.2.1 ≤ c.2.1 + 6 * r := by
  intro r
  induction r with
  | zero =>
    intro i c F A P W O z5 z6 g u ks t tx h1 h2 hS hC hI
    refine ⟨en G c F A P W O, ?_, Nat.le_refl _, Nat.le_refl _⟩
    rw [h260_23]
    simp only [↓e260_0, ↓e260_3, ↓e260_4, ↓e260_7, ↓e260_7n, ↓e260_8, ↓e260_11, ↓e260_12, ↓e260_15, ↓e260_15n, ↓e260_16, ↓e260_17, ↓e260_19, ↓e260_19n, ↓e260_20, ↓e260_21, ↓e260_25, ↓e260_26, ↓e260_27, ↓e260_28, ↓e260_29, ↓e260_1596, ↓e260_1597, ↓ldI_0, ↓ldI_s, ↓ldA_0, ↓ldA_n, ↓ldA_s, ↓ldL_0, ↓ldL_s, ↓lst_0, ↓lst_s, ↓cal_v, ↓cal_x, ↓vts_s, ↓vts_n, ↓lpr_0, ↓lpr_i, ↓lpr_r, ↓lpr_n, ↓lpr_s, PA_41, ↓reduceIte, or_true, true_or, ↓ho_40, ↓gf_40_0, ↓gf_40_1, ↓gf_40_2, ↓gf_40_3, ↓ho_49, ↓gf_49_0, ↓gf_49_1, ↓gf_49_2, ↓gf_49_3, ↓pf_49_3, ↓ho_50, ↓gf_50_0, ↓gf_50_1, ↓gf_50_2, ↓pf_50_2, ↓gf_50_3, ↓pf_50_3, ↓gf_50_4, ↓pf_50_4, ↓gf_50_5, ↓pf_50_5, ↓gf_50_6, ↓pf_50_6, ↓ho_54, ↓gf_54_0, ↓gf_54_1, ↓pf_54_1, ↓ho_88, ↓gf_88_0, ↓gf_88_1, ↓pf_88_1, ↓gf_88_2, ↓pf_88_2, ↓gf_88_3, ↓pf_88_3, ↓gf_88_4, ↓pf_88_4, ↓gf_88_5, ↓pf_88_5, ↓ho_90, ↓gf_90_0, ↓gf_90_1, ↓gf_90_2, ↓pf_90_2, ↓gf_90_3, ↓pf_90_3, ↓gf_90_4, ↓gf_90_5, ↓gf_90_6, ↓pf_90_6, ↓gf_90_7, ↓pf_90_7, ↓gf_90_8, ↓pf_90_8, ↓gf_90_9, ↓pf_90_9, ↓gf_90_10, ↓pf_90_10, ↓gf_90_11, ↓gf_41_0, ↓pf_41_0, ↓gf_41_1, ↓pf_41_1, ↓gf_41_2, ↓gf_41_3, ↓pf_41_3, ↓gf_41_4, ↓gf_41_5, ↓gf_41_6, ↓gf_41_7, ↓gf_41_8, ↓pf_41_8, ↓gf_41_9, ↓pf_41_9, ↓gf_41_10, ↓gf_41_11, ↓ho_41, ↓gi_42, ↓pi_42, ↓gi_43, ↓pi_43, ↓gi_44, ↓pi_44, ↓gi_45, ↓pi_45, ↓gi_46, ↓pi_46, ↓gi_47, ↓pi_47, ↓gi_48, ↓pi_48, ↓gi_51, ↓pi_51, ↓gi_52, ↓pi_52, ↓gi_53, ↓pi_53, ↓gi_91, ↓pi_91, ↓gi_92, ↓pi_92, ↓gi_93, ↓pi_93, ↓gi_95, ↓pi_95, ↓gi_89, ↓pi_89, ↓gi_94, ↓pi_94, ↓gi_1, ↓gi_3, ↓gn_1, ↓gn_2, ↓gr_2, ↓gr_55, ↓pr_55, ↓gl_96, ↓pl_96, ↓gf_w0, ↓gf_w1, ↓gw_w, ↓gf_s0, ↓gf_s1, ↓ho_s, ↓gn_b, ↓gi_b, tn_lt hG (show i ≤ 2000 by omega), show G.1 < i + 3 by omega, if_true, zb1]
  | succ r ih =>
    intro i c F A P W O z5 z6 g u ks t tx h1 h2 hS hC hI
    by_cases hi : i + 3 ≤ G.1
    · obtain ⟨m, hm, em⟩ := and31 (G.2 i)
      obtain ⟨c', F', A', P', W', O', z5', z6', g', u', ks', t', tx', b1, b2, hS', hC', hI', e⟩ := op_all (c := c) (W := W) (O := O) (z5 := z5) (z6 := z6) hm hi hG hS hC hI
      obtain ⟨w', d1, d2, d3⟩ := ih (i + 3) c' F' A' P' W' O' z5' z6' g' u' ks' t' tx' (by omega) (by omega) hS' hC' hI'
      refine ⟨w', ?_, by omega, by omega⟩
      have i0 : zin (Int32.ofNat i) G.1 = true := io_zin (by omega) (by omega)
      have a3 : Int32.ofNat i + 3 = Int32.ofNat (i + 3) := (Int32.ofNat_add i 3).symm
      rw [h260_23]
      simp only [↓e260_0, ↓e260_3, ↓e260_4, ↓e260_7, ↓e260_7n, ↓e260_8, ↓e260_11, ↓e260_12, ↓e260_15, ↓e260_15n, ↓e260_16, ↓e260_17, ↓e260_19, ↓e260_19n, ↓e260_20, ↓e260_21, ↓e260_25, ↓e260_26, ↓e260_27, ↓e260_28, ↓e260_29, ↓e260_32, ↓e260_33, ↓e260_35, ↓e260_36, ↓e260_38, ↓e260_39, ↓ldI_0, ↓ldI_s, ↓ldA_0, ↓ldA_n, ↓ldA_s, ↓ldL_0, ↓ldL_s, ↓lst_0, ↓lst_s, ↓cal_v, ↓cal_x, ↓vts_s, ↓vts_n, ↓lpr_0, ↓lpr_i, ↓lpr_r, ↓lpr_n, ↓lpr_s, PA_41, ↓reduceIte, or_true, true_or, ↓ho_40, ↓gf_40_0, ↓gf_40_1, ↓gf_40_2, ↓gf_40_3, ↓ho_49, ↓gf_49_0, ↓gf_49_1, ↓gf_49_2, ↓gf_49_3, ↓pf_49_3, ↓ho_50, ↓gf_50_0, ↓gf_50_1, ↓gf_50_2, ↓pf_50_2, ↓gf_50_3, ↓pf_50_3, ↓gf_50_4, ↓pf_50_4, ↓gf_50_5, ↓pf_50_5, ↓gf_50_6, ↓pf_50_6, ↓ho_54, ↓gf_54_0, ↓gf_54_1, ↓pf_54_1, ↓ho_88, ↓gf_88_0, ↓gf_88_1, ↓pf_88_1, ↓gf_88_2, ↓pf_88_2, ↓gf_88_3, ↓pf_88_3, ↓gf_88_4, ↓pf_88_4, ↓gf_88_5, ↓pf_88_5, ↓ho_90, ↓gf_90_0, ↓gf_90_1, ↓gf_90_2, ↓pf_90_2, ↓gf_90_3, ↓pf_90_3, ↓gf_90_4, ↓gf_90_5, ↓gf_90_6, ↓pf_90_6, ↓gf_90_7, ↓pf_90_7, ↓gf_90_8, ↓pf_90_8, ↓gf_90_9, ↓pf_90_9, ↓gf_90_10, ↓pf_90_10, ↓gf_90_11, ↓gf_41_0, ↓pf_41_0, ↓gf_41_1, ↓pf_41_1, ↓gf_41_2, ↓gf_41_3, ↓pf_41_3, ↓gf_41_4, ↓gf_41_5, ↓gf_41_6, ↓gf_41_7, ↓gf_41_8, ↓pf_41_8, ↓gf_41_9, ↓pf_41_9, ↓gf_41_10, ↓gf_41_11, ↓ho_41, ↓gi_42, ↓pi_42, ↓gi_43, ↓pi_43, ↓gi_44, ↓pi_44, ↓gi_45, ↓pi_45, ↓gi_46, ↓pi_46, ↓gi_47, ↓pi_47, ↓gi_48, ↓pi_48, ↓gi_51, ↓pi_51, ↓gi_52, ↓pi_52, ↓gi_53, ↓pi_53, ↓gi_91, ↓pi_91, ↓gi_92, ↓pi_92, ↓gi_93, ↓pi_93, ↓gi_95, ↓pi_95, ↓gi_89, ↓pi_89, ↓gi_94, ↓pi_94, ↓gi_1, ↓gi_3, ↓gn_1, ↓gn_2, ↓gr_2, ↓gr_55, ↓pr_55, ↓gl_96, ↓pl_96, ↓gf_w0, ↓gf_w1, ↓gw_w, ↓gf_s0, ↓gf_s1, ↓ho_s, ↓gn_b, ↓gi_b, tn_lt hG (show i ≤ 2000 by omega), show ¬ G.1 < i + 3 by omega, if_false, i0, if_true, io_ix (show i < 2147483648 by omega), em, tsw_31 hm, e]
      simp only [↓e260_1590, ↓e260_1593, ↓ldI_0, ↓ldI_s, ↓ldA_0, ↓ldA_n, ↓ldA_s, ↓ldL_0, ↓ldL_s, ↓lst_0, ↓lst_s, ↓cal_v, ↓cal_x, ↓vts_s, ↓vts_n, ↓lpr_0, ↓lpr_i, ↓lpr_r, ↓lpr_n, ↓lpr_s, PA_41, ↓reduceIte, or_true, true_or, ↓ho_40, ↓gf_40_0, ↓gf_40_1, ↓gf_40_2, ↓gf_40_3, ↓ho_49, ↓gf_49_0, ↓gf_49_1, ↓gf_49_2, ↓gf_49_3, ↓pf_49_3, ↓ho_50, ↓gf_50_0, ↓gf_50_1, ↓gf_50_2, ↓pf_50_2, ↓gf_50_3, ↓pf_50_3, ↓gf_50_4, ↓pf_50_4, ↓gf_50_5, ↓pf_50_5, ↓gf_50_6, ↓pf_50_6, ↓ho_54, ↓gf_54_0, ↓gf_54_1, ↓pf_54_1, ↓ho_88, ↓gf_88_0, ↓gf_88_1, ↓pf_88_1, ↓gf_88_2, ↓pf_88_2, ↓gf_88_3, ↓pf_88_3, ↓gf_88_4, ↓pf_88_4, ↓gf_88_5, ↓pf_88_5, ↓ho_90, ↓gf_90_0, ↓gf_90_1, ↓gf_90_2, ↓pf_90_2, ↓gf_90_3, ↓pf_90_3, ↓gf_90_4, ↓gf_90_5, ↓gf_90_6, ↓pf_90_6, ↓gf_90_7, ↓pf_90_7, ↓gf_90_8, ↓pf_90_8, ↓gf_90_9, ↓pf_90_9, ↓gf_90_10, ↓pf_90_10, ↓gf_90_11, ↓gf_41_0, ↓pf_41_0, ↓gf_41_1, ↓pf_41_1, ↓gf_41_2, ↓gf_41_3, ↓pf_41_3, ↓gf_41_4, ↓gf_41_5, ↓gf_41_6, ↓gf_41_7, ↓gf_41_8, ↓pf_41_8, ↓gf_41_9, ↓pf_41_9, ↓gf_41_10, ↓gf_41_11, ↓ho_41, ↓gi_42, ↓pi_42, ↓gi_43, ↓pi_43, ↓gi_44, ↓pi_44, ↓gi_45, ↓pi_45, ↓gi_46, ↓pi_46, ↓gi_47, ↓pi_47, ↓gi_48, ↓pi_48, ↓gi_51, ↓pi_51, ↓gi_52, ↓pi_52, ↓gi_53, ↓pi_53, ↓gi_91, ↓pi_91, ↓gi_92, ↓pi_92, ↓gi_93, ↓pi_93, ↓gi_95, ↓pi_95, ↓gi_89, ↓pi_89, ↓gi_94, ↓pi_94, ↓gi_1, ↓gi_3, ↓gn_1, ↓gn_2, ↓gr_2, ↓gr_55, ↓pr_55, ↓gl_96, ↓pl_96, ↓gf_w0, ↓gf_w1, ↓gw_w, ↓gf_s0, ↓gf_s1, ↓ho_s, ↓gn_b, ↓gi_b, a3]
      exact d1
    · refine ⟨en G c F A P W O, ?_, Nat.le_add_right _ _, Nat.le_add_right _ _⟩
      rw [h260_23]
      simp only [↓e260_0, ↓e260_3, ↓e260_4, ↓e260_7, ↓e260_7n, ↓e260_8, ↓e260_11, ↓e260_12, ↓e260_15, ↓e260_15n, ↓e260_16, ↓e260_17, ↓e260_19, ↓e260_19n, ↓e260_20, ↓e260_21, ↓e260_25, ↓e260_26, ↓e260_27, ↓e260_28, ↓e260_29, ↓e260_1596, ↓e260_1597, ↓ldI_0, ↓ldI_s, ↓ldA_0, ↓ldA_n, ↓ldA_s, ↓ldL_0, ↓ldL_s, ↓lst_0, ↓lst_s, ↓cal_v, ↓cal_x, ↓vts_s, ↓vts_n, ↓lpr_0, ↓lpr_i, ↓lpr_r, ↓lpr_n, ↓lpr_s, PA_41, ↓reduceIte, or_true, true_or, ↓ho_40, ↓gf_40_0, ↓gf_40_1, ↓gf_40_2, ↓gf_40_3, ↓ho_49, ↓gf_49_0, ↓gf_49_1, ↓gf_49_2, ↓gf_49_3, ↓pf_49_3, ↓ho_50, ↓gf_50_0, ↓gf_50_1, ↓gf_50_2, ↓pf_50_2, ↓gf_50_3, ↓pf_50_3, ↓gf_50_4, ↓pf_50_4, ↓gf_50_5, ↓pf_50_5, ↓gf_50_6, ↓pf_50_6, ↓ho_54, ↓gf_54_0, ↓gf_54_1, ↓pf_54_1, ↓ho_88, ↓gf_88_0, ↓gf_88_1, ↓pf_88_1, ↓gf_88_2, ↓pf_88_2, ↓gf_88_3, ↓pf_88_3, ↓gf_88_4, ↓pf_88_4, ↓gf_88_5, ↓pf_88_5, ↓ho_90, ↓gf_90_0, ↓gf_90_1, ↓gf_90_2, ↓pf_90_2, ↓gf_90_3, ↓pf_90_3, ↓gf_90_4, ↓gf_90_5, ↓gf_90_6, ↓pf_90_6, ↓gf_90_7, ↓pf_90_7, ↓gf_90_8, ↓pf_90_8, ↓gf_90_9, ↓pf_90_9, ↓gf_90_10, ↓pf_90_10, ↓gf_90_11, ↓gf_41_0, ↓pf_41_0, ↓gf_41_1, ↓pf_41_1, ↓gf_41_2, ↓gf_41_3, ↓pf_41_3, ↓gf_41_4, ↓gf_41_5, ↓gf_41_6, ↓gf_41_7, ↓gf_41_8, ↓pf_41_8, ↓gf_41_9, ↓pf_41_9, ↓gf_41_10, ↓gf_41_11, ↓ho_41, ↓gi_42, ↓pi_42, ↓gi_43, ↓pi_43, ↓gi_44, ↓pi_44, ↓gi_45, ↓pi_45, ↓gi_46, ↓pi_46, ↓gi_47, ↓pi_47, ↓gi_48, ↓pi_48, ↓gi_51, ↓pi_51, ↓gi_52, ↓pi_52, ↓gi_53, ↓pi_53, ↓gi_91, ↓pi_91, ↓gi_92, ↓pi_92, ↓gi_93, ↓pi_93, ↓gi_95, ↓pi_95, ↓gi_89, ↓pi_89, ↓gi_94, ↓pi_94, ↓gi_1, ↓gi_3, ↓gn_1, ↓gn_2, ↓gr_2, ↓gr_55, ↓pr_55, ↓gl_96, ↓pl_96, ↓gf_w0, ↓gf_w1, ↓gw_w, ↓gf_s0, ↓gf_s1, ↓ho_s, ↓gn_b, ↓gi_b, tn_lt hG (show i ≤ 2000 by omega), show G.1 < i + 3 by omega, if_true, zb1]
end ZT
/-- the start -/
theorem wf_0 : Wf (zA0 91) := by
  refine wf_mk (ch := 3) (dp := 5) (a := 5) (b := 1) (e := 1) (n := 0) (m := 0) ⟨rfl, by omega, by omega⟩ ⟨rfl, by omega, by omega⟩ ⟨rfl, by omega⟩ ⟨rfl, by omega, by omega⟩ ⟨rfl, by omega, by omega⟩ ⟨rfl, by omega⟩ ⟨rfl, by omega⟩ (fun k hk => absurd hk (Nat.not_lt_zero k)) (fun k hk => absurd hk (Nat.not_lt_zero k)) (fun k hk => absurd hk (Nat.not_lt_zero k)) (fun k hk => absurd hk (Nat.not_lt_zero k)) (fun d hd c hc q hq => by
    have e : zA0 91 (67 + 4 * d + c) = 0 := by
      show upd (upd (upd (upd (upd (fun _ => 0) 0 3) 1 5) 2 5) 3 1) 4 1 (67 + 4 * d + c) = 0
      rw [upd_no (by omega), upd_no (by omega), upd_no (by omega), upd_no (by omega), upd_no (by omega)]
    rw [e, tb_z])
theorem kn_0 : kn (zA0 91) = 0 := rfl
theorem dn_0 : dn (zA0 91) = 0 := rfl
theorem rp_0 : Rp zF0 zA0 41 (zA0 91) := by
  refine ⟨⟨rfl, rfl, rfl, rfl, ?_⟩, ⟨rfl, rfl, rfl⟩, fun k hk => absurd hk (by rw [kn_0]; exact Nat.not_lt_zero k), fun k hk => absurd hk (by rw [dn_0]; exact Nat.not_lt_zero k)⟩
  show 0 = _
  exact ((bits_eq0 (by omega)).mpr fun k _ => by unfold lsb; rw [kn_0]; rfl).symm
theorem pv_0 : PV zP0 := by
  refine ⟨fun j hj => ?_, fun i j hi hj hn => ?_⟩
  · have : j = 0 ∨ j = 1 ∨ j = 2 ∨ j = 3 := by omega
    rcases this with rfl | rfl | rfl | rfl
    · exact Or.inl rfl
    · exact Or.inr (Or.inl rfl)
    · exact Or.inr (Or.inr (Or.inl rfl))
    · exact Or.inr (Or.inr (Or.inr rfl))
  · unfold zP0; omega
theorem zlaw_all {L : Nat} {xs : Nat → Int32} (hL : L ≤ 1536) : zLaw L xs := by
  have hS : SI (zA0 91) 0 (fun _ _ => 0) 0 (fun _ => 0) := ⟨wf_0, by omega, fun j hj => absurd hj (Nat.not_lt_zero j), by omega, fun j hj => absurd hj (Nat.not_lt_zero j)⟩
  have hC : CI zF0 zA0 zP0 (zA0 91) 0 (fun _ _ => 0) 0 (fun _ => 0) := ⟨rp_0, pv_0, rfl, fun j hj => absurd hj (Nat.not_lt_zero j), rfl, fun j hj => absurd hj (Nat.not_lt_zero j), Or.inl rfl⟩
  have hI : RI zF0 zA0 (zA0 91) 0 (fun _ _ => 0) 0 (fun _ => 0) := ⟨rfl, rfl, fun j hj => absurd hj (Nat.not_lt_zero j), rfl, fun j hj => absurd hj (Nat.not_lt_zero j)⟩
  obtain ⟨w', h1, h2, h3⟩ := l260 (G := (L, xs)) hL 512 0 (57, 4048, false) zF0 zA0 zP0 .null (fun _ => 0) none none (zA0 91) 0 (fun _ _ => 0) 0 (fun _ => 0) (by show L ≤ 0 + 3 * 512 + 2; omega) (by omega) hS hC hI
  have h0 := i260 (L := L) (xs := xs)
  obtain ⟨n, hn⟩ := Rv_to (h0.trans h1)
  refine ⟨n, w', hn, ?_, ?_⟩
  · have h2 : w'.1.1 ≤ 57 + 512 := h2
    omega
  · have h3 : w'.1.2.1 ≤ 4048 + 6 * 512 := h3
    omega
