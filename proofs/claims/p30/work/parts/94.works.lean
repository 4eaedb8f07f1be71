/-! the law's check of the works -/
theorem svk_top {u : Nat} (hu : u ≤ 4) (g : Nat → Int32) (ks : Nat → Nat → Int32) : svk u g ks (svu u - 1) = g := by
  unfold svk svu
  by_cases h : u = 4
  · rw [if_pos h, if_pos h, if_pos (by omega)]
  · rw [if_neg h, if_neg h, if_pos (by omega)]
theorem svu_pos (u : Nat) : 1 ≤ svu u := by unfold svu; split <;> omega
section ZT
variable {G : zG} {c : Nat × Nat × Bool} {F A : Nat → Nat → Int32} {P : Nat → Nat} {W : Value} {O : Nat → Int64} {x y v : Int32} {a b i n t u w k d m : Nat} {g : Nat → Int32} {ks : Nat → Nat → Int32} {tx : Nat → Int32}
theorem wq (hS : SI g u ks t tx) (hC : CI F A P g u ks t tx) (hi : i < 2147483648) (h2 : w ≤ 2) : ∃ F' A', CI F' A' P g u ks t tx ∧ Rv 117 0 [some (.ref 40), some (.int (Int32.ofNat i)), some (.int (Int32.ofNat w))] [] (en G c F A P W O) = some (.inl (some (.int (wov g (Int32.ofNat i) w))), en G c F' A' P W O) := by
  obtain ⟨F', A', -, h, e⟩ := c117y (G := G) (c := c) (W := W) (O := O) hS hC hi h2
  exact ⟨F', A', h, e⟩
theorem l245a (hS : SI g u ks t tx) : ∀ r k (F A : Nat → Nat → Int32), k + r = dn g → CI F A P g u ks t tx → ∃ F' A', CI F' A' P g u ks t tx ∧ Rv 245 6 [some (.ref 40), some (.int (Int32.ofNat (cnt (fun d => decide (0 < chg g d)) k))), some (.int (Int32.ofNat (sum (chg g) k))), some (.int (Int32.ofNat k)), none, none] [] (en G c F A P W O) = Rv 245 50 [some (.ref 40), some (.int (Int32.ofNat (wks g))), some (.int (Int32.ofNat (sum (chg g) (dn g)))), some (.int (Int32.ofNat (dn g))), none, none] [] (en G c F' A' P W O) := by
  have hw := hS.1
  have c4 := wf_c4 hw
  have m12 := wf_m12 hw
  intro r
  induction r with
  | zero =>
    intro k F A hk hC
    obtain ⟨F1, A1, C1, e1⟩ := w_6 (G := G) (c := c) (W := W) (O := O) hS hC
    refine ⟨F1, A1, C1, ?_⟩
    have hk : k = dn g := by omega
    subst hk
    rw [h245_6]
    simp only [↓e245_0, ↓e245_1, ↓e245_2, ↓e245_3, ↓e245_4, ↓e245_5, ↓e245_7, ↓e245_8, ↓e245_10, ↓e245_13, ↓e245_16, ↓e245_17, ↓e245_18, ↓e245_19, ↓e245_21, ↓e245_24, ↓e245_27, ↓e245_28, ↓e245_31, ↓e245_32, ↓e245_33, ↓e245_34, ↓e245_35, ↓e245_36, ↓e245_37, ↓e245_39, ↓e245_42, ↓e245_43, ↓e245_44, ↓e245_47, ↓ldI_0, ↓ldI_s, ↓ldA_0, ↓ldA_n, ↓ldA_s, ↓ldL_0, ↓ldL_s, ↓lst_0, ↓lst_s, ↓cal_v, ↓cal_x, ↓vts_s, ↓vts_n, ↓lpr_0, ↓lpr_i, ↓lpr_r, ↓lpr_n, ↓lpr_s, PA_41, ↓reduceIte, or_true, true_or, ↓ho_40, ↓gf_40_0, ↓gf_40_1, ↓gf_40_2, ↓gf_40_3, ↓ho_49, ↓gf_49_0, ↓gf_49_1, ↓gf_49_2, ↓gf_49_3, ↓pf_49_3, ↓ho_50, ↓gf_50_0, ↓gf_50_1, ↓gf_50_2, ↓pf_50_2, ↓gf_50_3, ↓pf_50_3, ↓gf_50_4, ↓pf_50_4, ↓gf_50_5, ↓pf_50_5, ↓gf_50_6, ↓pf_50_6, ↓ho_54, ↓gf_54_0, ↓gf_54_1, ↓pf_54_1, ↓ho_88, ↓gf_88_0, ↓gf_88_1, ↓pf_88_1, ↓gf_88_2, ↓pf_88_2, ↓gf_88_3, ↓pf_88_3, ↓gf_88_4, ↓pf_88_4, ↓gf_88_5, ↓pf_88_5, ↓gf_41_0, ↓pf_41_0, ↓gf_41_1, ↓pf_41_1, ↓gf_41_2, ↓gf_41_3, ↓pf_41_3, ↓gf_41_4, ↓gf_41_5, ↓gf_41_6, ↓gf_41_7, ↓gf_41_8, ↓pf_41_8, ↓gf_41_9, ↓pf_41_9, ↓gf_41_10, ↓gf_41_11, ↓ho_41, ↓gi_42, ↓pi_42, ↓gi_43, ↓pi_43, ↓gi_44, ↓pi_44, ↓gi_45, ↓pi_45, ↓gi_46, ↓pi_46, ↓gi_47, ↓pi_47, ↓gi_48, ↓pi_48, ↓gi_51, ↓pi_51, ↓gi_52, ↓pi_52, ↓gi_53, ↓pi_53, ↓gi_89, ↓pi_89, ↓gi_1, ↓gn_1, ↓gr_55, ↓pr_55, e1, Int32.lt_irrefl]
    rfl
  | succ r ih =>
    intro k F A hk hC
    have hd : k < dn g := by omega
    have hb := chg_le g k
    obtain ⟨F1, A1, C1, e1⟩ := w_6 (G := G) (c := c) (W := W) (O := O) hS hC
    obtain ⟨F2, A2, C2, e2⟩ := dq (G := G) (c := c) (W := W) (O := O) hS C1 hd (w := 7) (by omega)
    have e2 : Rv 114 0 [some (.ref 40), some (.int (Int32.ofNat k)), some (.int 7)] [] (en G c F1 A1 P W O) = some (.inl (some (.int (Int32.ofNat (chg g k)))), _) := e2
    obtain ⟨F3, A3, C3, e3⟩ := dq (G := G) (c := c) (W := W) (O := O) hS C2 hd (w := 7) (by omega)
    have e3 : Rv 114 0 [some (.ref 40), some (.int (Int32.ofNat k)), some (.int 7)] [] (en G c F2 A2 P W O) = some (.inl (some (.int (Int32.ofNat (chg g k)))), _) := e3
    obtain ⟨F4, A4, C4, e4⟩ := ih (k + 1) F3 A3 (by omega) C3
    refine ⟨F4, A4, C4, ?_⟩
    rw [cnt_s] at e4
    rw [h245_6]
    by_cases h : 0 < chg g k
    · rw [decide_eq_true h, if_pos rfl] at e4
      simp only [↓e245_0, ↓e245_1, ↓e245_2, ↓e245_3, ↓e245_4, ↓e245_5, ↓e245_7, ↓e245_8, ↓e245_10, ↓e245_13, ↓e245_16, ↓e245_17, ↓e245_18, ↓e245_19, ↓e245_21, ↓e245_24, ↓e245_27, ↓e245_28, ↓e245_31, ↓e245_32, ↓e245_33, ↓e245_34, ↓e245_35, ↓e245_36, ↓e245_37, ↓e245_39, ↓e245_42, ↓e245_43, ↓e245_44, ↓e245_47, ↓ldI_0, ↓ldI_s, ↓ldA_0, ↓ldA_n, ↓ldA_s, ↓ldL_0, ↓ldL_s, ↓lst_0, ↓lst_s, ↓cal_v, ↓cal_x, ↓vts_s, ↓vts_n, ↓lpr_0, ↓lpr_i, ↓lpr_r, ↓lpr_n, ↓lpr_s, PA_41, ↓reduceIte, or_true, true_or, ↓ho_40, ↓gf_40_0, ↓gf_40_1, ↓gf_40_2, ↓gf_40_3, ↓ho_49, ↓gf_49_0, ↓gf_49_1, ↓gf_49_2, ↓gf_49_3, ↓pf_49_3, ↓ho_50, ↓gf_50_0, ↓gf_50_1, ↓gf_50_2, ↓pf_50_2, ↓gf_50_3, ↓pf_50_3, ↓gf_50_4, ↓pf_50_4, ↓gf_50_5, ↓pf_50_5, ↓gf_50_6, ↓pf_50_6, ↓ho_54, ↓gf_54_0, ↓gf_54_1, ↓pf_54_1, ↓ho_88, ↓gf_88_0, ↓gf_88_1, ↓pf_88_1, ↓gf_88_2, ↓pf_88_2, ↓gf_88_3, ↓pf_88_3, ↓gf_88_4, ↓pf_88_4, ↓gf_88_5, ↓pf_88_5, ↓gf_41_0, ↓pf_41_0, ↓gf_41_1, ↓pf_41_1, ↓gf_41_2, ↓gf_41_3, ↓pf_41_3, ↓gf_41_4, ↓gf_41_5, ↓gf_41_6, ↓gf_41_7, ↓gf_41_8, ↓pf_41_8, ↓gf_41_9, ↓pf_41_9, ↓gf_41_10, ↓gf_41_11, ↓ho_41, ↓gi_42, ↓pi_42, ↓gi_43, ↓pi_43, ↓gi_44, ↓pi_44, ↓gi_45, ↓pi_45, ↓gi_46, ↓pi_46, ↓gi_47, ↓pi_47, ↓gi_48, ↓pi_48, ↓gi_51, ↓pi_51, ↓gi_52, ↓pi_52, ↓gi_53, ↓pi_53, ↓gi_89, ↓pi_89, ↓gi_1, ↓gn_1, ↓gr_55, ↓pr_55, e1, io_lt (show k < 2147483648 by omega) (show dn g < 2147483648 by omega), eq_true hd, e2, e3, pos_io (show chg g k < 2147483648 by omega), h, io_add, io_succ]
      exact e4
    · rw [decide_eq_false h, if_neg (by decide)] at e4
      simp only [↓e245_0, ↓e245_1, ↓e245_2, ↓e245_3, ↓e245_4, ↓e245_5, ↓e245_7, ↓e245_8, ↓e245_10, ↓e245_13, ↓e245_16, ↓e245_17, ↓e245_18, ↓e245_19, ↓e245_21, ↓e245_24, ↓e245_27, ↓e245_28, ↓e245_31, ↓e245_32, ↓e245_33, ↓e245_34, ↓e245_35, ↓e245_36, ↓e245_37, ↓e245_39, ↓e245_42, ↓e245_43, ↓e245_44, ↓e245_47, ↓ldI_0, ↓ldI_s, ↓ldA_0, ↓ldA_n, ↓ldA_s, ↓ldL_0, ↓ldL_s, ↓lst_0, ↓lst_s, ↓cal_v, ↓cal_x, ↓vts_s, ↓vts_n, ↓lpr_0, ↓lpr_i, ↓lpr_r, ↓lpr_n, ↓lpr_s, PA_41, ↓reduceIte, or_true, true_or, ↓ho_40, ↓gf_40_0, ↓gf_40_1, ↓gf_40_2, ↓gf_40_3, ↓ho_49, ↓gf_49_0, ↓gf_49_1, ↓gf_49_2, ↓gf_49_3, ↓pf_49_3, ↓ho_50, ↓gf_50_0, ↓gf_50_1, ↓gf_50_2, ↓pf_50_2, ↓gf_50_3, ↓pf_50_3, ↓gf_50_4, ↓pf_50_4, ↓gf_50_5, ↓pf_50_5, ↓gf_50_6, ↓pf_50_6, ↓ho_54, ↓gf_54_0, ↓gf_54_1, ↓pf_54_1, ↓ho_88, ↓gf_88_0, ↓gf_88_1, ↓pf_88_1, ↓gf_88_2, ↓pf_88_2, ↓gf_88_3, ↓pf_88_3, ↓gf_88_4, ↓pf_88_4, ↓gf_88_5, ↓pf_88_5, ↓gf_41_0, ↓pf_41_0, ↓gf_41_1, ↓pf_41_1, ↓gf_41_2, ↓gf_41_3, ↓pf_41_3, ↓gf_41_4, ↓gf_41_5, ↓gf_41_6, ↓gf_41_7, ↓gf_41_8, ↓pf_41_8, ↓gf_41_9, ↓pf_41_9, ↓gf_41_10, ↓gf_41_11, ↓ho_41, ↓gi_42, ↓pi_42, ↓gi_43, ↓pi_43, ↓gi_44, ↓pi_44, ↓gi_45, ↓pi_45, ↓gi_46, ↓pi_46, ↓gi_47, ↓pi_47, ↓gi_48, ↓pi_48, ↓gi_51, ↓pi_51, ↓gi_52, ↓pi_52, ↓gi_53, ↓pi_53, ↓gi_89, ↓pi_89, ↓gi_1, ↓gn_1, ↓gr_55, ↓pr_55, e1, io_lt (show k < 2147483648 by omega) (show dn g < 2147483648 by omega), eq_true hd, e2, e3, pos_io (show chg g k < 2147483648 by omega), h, io_add, io_succ, Int32.add_zero]
      exact e4
theorem wov_is (hw : Wf g) (hi : i < wks g) : ∃ d, d < dn g ∧ 0 < chg g d ∧ rnk g (dn g) d = i ∧ wov g (Int32.ofNat i) 0 = Int32.ofNat d ∧ wov g (Int32.ofNat i) 1 = Int32.ofNat (chg g d) ∧ wov g (Int32.ofNat i) 2 = Int32.ofNat (wrk g d) := by
  have m12 := wf_m12 hw
  obtain ⟨d, h1, h2, h3, h4⟩ := wat_is hw hi
  have hn : ¬ wat g (Int32.ofNat i) = -1 := by rw [h4]; exact io_nn (by omega)
  refine ⟨d, h1, of_decide_eq_true h2, h3, ?_, ?_, ?_⟩
  · unfold wov
    rw [if_neg hn, if_pos rfl, h4]
  · unfold wov
    rw [if_neg hn, if_neg (by omega), if_pos rfl, h4, io_ix (by omega)]
  · unfold wov
    rw [if_neg hn, if_neg (by omega), if_neg (by omega), h4, io_ix (by omega)]
theorem l245b (hS : SI g u ks t tx) {s : Int32} : ∀ r k (F A : Nat → Nat → Int32) (z : Option Value), k + r = wks g → CI F A P g u ks t tx → ∃ F' A' z', CI F' A' P g u ks t tx ∧ Rv 245 79 [some (.ref 40), some (.int (Int32.ofNat (wks g))), some (.int s), some (.int 1), some (.int (Int32.ofNat k)), z] [] (en G c F A P W O) = Rv 245 196 [some (.ref 40), some (.int (Int32.ofNat (wks g))), some (.int s), some (.int 1), some (.int (Int32.ofNat (wks g))), z'] [] (en G c F' A' P W O) := by
  have hw := hS.1
  have c4 := wf_c4 hw
  have m12 := wf_m12 hw
  have hle : wks g ≤ dn g := cnt_le _ _
  intro r
  induction r with
  | zero =>
    intro k F A z hk hC
    refine ⟨F, A, z, hC, ?_⟩
    have hk : k = wks g := by omega
    subst hk
    rw [h245_79]
    simp only [↓e245_0, ↓e245_1, ↓e245_2, ↓e245_3, ↓e245_4, ↓e245_5, ↓e245_7, ↓e245_8, ↓e245_10, ↓e245_13, ↓e245_16, ↓e245_17, ↓e245_18, ↓e245_19, ↓e245_21, ↓e245_24, ↓e245_27, ↓e245_28, ↓e245_31, ↓e245_32, ↓e245_33, ↓e245_34, ↓e245_35, ↓e245_36, ↓e245_37, ↓e245_39, ↓e245_42, ↓e245_43, ↓e245_44, ↓e245_47, ↓e245_50, ↓e245_51, ↓e245_53, ↓e245_56, ↓e245_57, ↓e245_60, ↓e245_61, ↓e245_62, ↓e245_63, ↓e245_66, ↓e245_67, ↓e245_70, ↓e245_71, ↓e245_74, ↓e245_75, ↓e245_76, ↓e245_77, ↓e245_81, ↓e245_82, ↓e245_85, ↓e245_86, ↓e245_88, ↓e245_89, ↓e245_92, ↓e245_94, ↓e245_95, ↓e245_98, ↓e245_99, ↓e245_101, ↓e245_102, ↓e245_105, ↓e245_106, ↓e245_108, ↓e245_110, ↓e245_113, ↓e245_116, ↓e245_117, ↓e245_119, ↓e245_120, ↓e245_123, ↓e245_126, ↓e245_127, ↓e245_129, ↓e245_130, ↓e245_133, ↓e245_134, ↓e245_136, ↓e245_137, ↓e245_140, ↓e245_143, ↓e245_144, ↓e245_147, ↓e245_148, ↓e245_149, ↓e245_150, ↓e245_153, ↓e245_155, ↓e245_158, ↓e245_159, ↓e245_160, ↓e245_162, ↓e245_163, ↓e245_164, ↓e245_165, ↓e245_168, ↓e245_170, ↓e245_173, ↓e245_174, ↓e245_176, ↓e245_178, ↓e245_181, ↓e245_184, ↓e245_185, ↓e245_188, ↓e245_189, ↓e245_190, ↓e245_193, ↓ldI_0, ↓ldI_s, ↓ldA_0, ↓ldA_n, ↓ldA_s, ↓ldL_0, ↓ldL_s, ↓lst_0, ↓lst_s, ↓cal_v, ↓cal_x, ↓vts_s, ↓vts_n, ↓lpr_0, ↓lpr_i, ↓lpr_r, ↓lpr_n, ↓lpr_s, PA_41, ↓reduceIte, or_true, true_or, ↓ho_40, ↓gf_40_0, ↓gf_40_1, ↓gf_40_2, ↓gf_40_3, ↓ho_49, ↓gf_49_0, ↓gf_49_1, ↓gf_49_2, ↓gf_49_3, ↓pf_49_3, ↓ho_50, ↓gf_50_0, ↓gf_50_1, ↓gf_50_2, ↓pf_50_2, ↓gf_50_3, ↓pf_50_3, ↓gf_50_4, ↓pf_50_4, ↓gf_50_5, ↓pf_50_5, ↓gf_50_6, ↓pf_50_6, ↓ho_54, ↓gf_54_0, ↓gf_54_1, ↓pf_54_1, ↓ho_88, ↓gf_88_0, ↓gf_88_1, ↓pf_88_1, ↓gf_88_2, ↓pf_88_2, ↓gf_88_3, ↓pf_88_3, ↓gf_88_4, ↓pf_88_4, ↓gf_88_5, ↓pf_88_5, ↓gf_41_0, ↓pf_41_0, ↓gf_41_1, ↓pf_41_1, ↓gf_41_2, ↓gf_41_3, ↓pf_41_3, ↓gf_41_4, ↓gf_41_5, ↓gf_41_6, ↓gf_41_7, ↓gf_41_8, ↓pf_41_8, ↓gf_41_9, ↓pf_41_9, ↓gf_41_10, ↓gf_41_11, ↓ho_41, ↓gi_42, ↓pi_42, ↓gi_43, ↓pi_43, ↓gi_44, ↓pi_44, ↓gi_45, ↓pi_45, ↓gi_46, ↓pi_46, ↓gi_47, ↓pi_47, ↓gi_48, ↓pi_48, ↓gi_51, ↓pi_51, ↓gi_52, ↓pi_52, ↓gi_53, ↓pi_53, ↓gi_89, ↓pi_89, ↓gi_1, ↓gn_1, ↓gr_55, ↓pr_55, Int32.lt_irrefl]
  | succ r ih =>
    intro k F A z hk hC
    have hkw : k < wks g := by omega
    obtain ⟨d, hd, hp, hr, v0, v1, v2⟩ := wov_is hw hkw
    have hb := chg_le g d
    obtain ⟨F1, A1, C1, e1⟩ := wq (G := G) (c := c) (W := W) (O := O) hS hC (i := k) (by omega) (w := 0) (by omega)
    rw [v0] at e1
    have e1 : Rv 117 0 [some (.ref 40), some (.int (Int32.ofNat k)), some (.int 0)] [] (en G c F A P W O) = some (.inl (some (.int (Int32.ofNat d))), _) := e1
    obtain ⟨F2, A2, C2, e2⟩ := wq (G := G) (c := c) (W := W) (O := O) hS C1 (i := k) (by omega) (w := 1) (by omega)
    rw [v1] at e2
    have e2 : Rv 117 0 [some (.ref 40), some (.int (Int32.ofNat k)), some (.int 1)] [] (en G c F1 A1 P W O) = some (.inl (some (.int (Int32.ofNat (chg g d)))), _) := e2
    obtain ⟨F3, A3, C3, e3⟩ := dq (G := G) (c := c) (W := W) (O := O) hS C2 hd (w := 7) (by omega)
    have e3 : Rv 114 0 [some (.ref 40), some (.int (Int32.ofNat d)), some (.int 7)] [] (en G c F2 A2 P W O) = some (.inl (some (.int (Int32.ofNat (chg g d)))), _) := e3
    obtain ⟨F4, A4, C4, e4⟩ := wq (G := G) (c := c) (W := W) (O := O) hS C3 (i := k) (by omega) (w := 1) (by omega)
    rw [v1] at e4
    have e4 : Rv 117 0 [some (.ref 40), some (.int (Int32.ofNat k)), some (.int 1)] [] (en G c F3 A3 P W O) = some (.inl (some (.int (Int32.ofNat (chg g d)))), _) := e4
    obtain ⟨F5, A5, C5, e5⟩ := wq (G := G) (c := c) (W := W) (O := O) hS C4 (i := k) (by omega) (w := 2) (by omega)
    rw [v2] at e5
    have e5 : Rv 117 0 [some (.ref 40), some (.int (Int32.ofNat k)), some (.int 2)] [] (en G c F4 A4 P W O) = some (.inl (some (.int (Int32.ofNat (wrk g d)))), _) := e5
    obtain ⟨F6, A6, C6, e6⟩ := dq (G := G) (c := c) (W := W) (O := O) hS C5 hd (w := 4) (by omega)
    have e6 : Rv 114 0 [some (.ref 40), some (.int (Int32.ofNat d)), some (.int 4)] [] (en G c F5 A5 P W O) = some (.inl (some (.int (Int32.ofNat (wrk g d)))), _) := e6
    by_cases h0 : k = 0
    · obtain ⟨F7, A7, z', C7, e7⟩ := ih (k + 1) F6 A6 (some (.int (Int32.ofNat d))) (by omega) C6
      refine ⟨F7, A7, z', C7, ?_⟩
      have k0 : (Int32.ofNat k = 0) = True := by rw [h0]; exact eq_true rfl
      rw [h245_79]
      simp only [↓e245_0, ↓e245_1, ↓e245_2, ↓e245_3, ↓e245_4, ↓e245_5, ↓e245_7, ↓e245_8, ↓e245_10, ↓e245_13, ↓e245_16, ↓e245_17, ↓e245_18, ↓e245_19, ↓e245_21, ↓e245_24, ↓e245_27, ↓e245_28, ↓e245_31, ↓e245_32, ↓e245_33, ↓e245_34, ↓e245_35, ↓e245_36, ↓e245_37, ↓e245_39, ↓e245_42, ↓e245_43, ↓e245_44, ↓e245_47, ↓e245_50, ↓e245_51, ↓e245_53, ↓e245_56, ↓e245_57, ↓e245_60, ↓e245_61, ↓e245_62, ↓e245_63, ↓e245_66, ↓e245_67, ↓e245_70, ↓e245_71, ↓e245_74, ↓e245_75, ↓e245_76, ↓e245_77, ↓e245_81, ↓e245_82, ↓e245_85, ↓e245_86, ↓e245_88, ↓e245_89, ↓e245_92, ↓e245_94, ↓e245_95, ↓e245_98, ↓e245_99, ↓e245_101, ↓e245_102, ↓e245_105, ↓e245_106, ↓e245_108, ↓e245_110, ↓e245_113, ↓e245_116, ↓e245_117, ↓e245_119, ↓e245_120, ↓e245_123, ↓e245_126, ↓e245_127, ↓e245_129, ↓e245_130, ↓e245_133, ↓e245_134, ↓e245_136, ↓e245_137, ↓e245_140, ↓e245_143, ↓e245_144, ↓e245_147, ↓e245_148, ↓e245_149, ↓e245_150, ↓e245_153, ↓e245_155, ↓e245_158, ↓e245_159, ↓e245_160, ↓e245_162, ↓e245_163, ↓e245_164, ↓e245_165, ↓e245_168, ↓e245_170, ↓e245_173, ↓e245_174, ↓e245_176, ↓e245_178, ↓e245_181, ↓e245_184, ↓e245_185, ↓e245_188, ↓e245_189, ↓e245_190, ↓e245_193, ↓ldI_0, ↓ldI_s, ↓ldA_0, ↓ldA_n, ↓ldA_s, ↓ldL_0, ↓ldL_s, ↓lst_0, ↓lst_s, ↓cal_v, ↓cal_x, ↓vts_s, ↓vts_n, ↓lpr_0, ↓lpr_i, ↓lpr_r, ↓lpr_n, ↓lpr_s, PA_41, ↓reduceIte, or_true, true_or, ↓ho_40, ↓gf_40_0, ↓gf_40_1, ↓gf_40_2, ↓gf_40_3, ↓ho_49, ↓gf_49_0, ↓gf_49_1, ↓gf_49_2, ↓gf_49_3, ↓pf_49_3, ↓ho_50, ↓gf_50_0, ↓gf_50_1, ↓gf_50_2, ↓pf_50_2, ↓gf_50_3, ↓pf_50_3, ↓gf_50_4, ↓pf_50_4, ↓gf_50_5, ↓pf_50_5, ↓gf_50_6, ↓pf_50_6, ↓ho_54, ↓gf_54_0, ↓gf_54_1, ↓pf_54_1, ↓ho_88, ↓gf_88_0, ↓gf_88_1, ↓pf_88_1, ↓gf_88_2, ↓pf_88_2, ↓gf_88_3, ↓pf_88_3, ↓gf_88_4, ↓pf_88_4, ↓gf_88_5, ↓pf_88_5, ↓gf_41_0, ↓pf_41_0, ↓gf_41_1, ↓pf_41_1, ↓gf_41_2, ↓gf_41_3, ↓pf_41_3, ↓gf_41_4, ↓gf_41_5, ↓gf_41_6, ↓gf_41_7, ↓gf_41_8, ↓pf_41_8, ↓gf_41_9, ↓pf_41_9, ↓gf_41_10, ↓gf_41_11, ↓ho_41, ↓gi_42, ↓pi_42, ↓gi_43, ↓pi_43, ↓gi_44, ↓pi_44, ↓gi_45, ↓pi_45, ↓gi_46, ↓pi_46, ↓gi_47, ↓pi_47, ↓gi_48, ↓pi_48, ↓gi_51, ↓pi_51, ↓gi_52, ↓pi_52, ↓gi_53, ↓pi_53, ↓gi_89, ↓pi_89, ↓gi_1, ↓gn_1, ↓gr_55, ↓pr_55, io_lt (show k < 2147483648 by omega) (show wks g < 2147483648 by omega), eq_true hkw, e1, e2, e3, e4, e5, e6, one_ne, pos_io (show chg g d < 2147483648 by omega), eq_true hp, k0, io_succ]
      exact e7
    · obtain ⟨d', hd', -, hr', v0', -, -⟩ := wov_is hw (show k - 1 < wks g by omega)
      obtain ⟨F7, A7, C7, e7⟩ := wq (G := G) (c := c) (W := W) (O := O) hS C6 (i := k - 1) (by omega) (w := 0) (by omega)
      rw [v0'] at e7
      have e7 : Rv 117 0 [some (.ref 40), some (.int (Int32.ofNat (k - 1))), some (.int 0)] [] (en G c F6 A6 P W O) = some (.inl (some (.int (Int32.ofNat d'))), _) := e7
      obtain ⟨F8, A8, C8, e8⟩ := dq (G := G) (c := c) (W := W) (O := O) hS C7 hd' (w := 6) (by omega)
      have e8 : Rv 114 0 [some (.ref 40), some (.int (Int32.ofNat d')), some (.int 6)] [] (en G c F7 A7 P W O) = some (.inl (some (.int (if xps g d' = true then 1 else 0))), _) := e8
      obtain ⟨F9, A9, C9, e9⟩ := dq (G := G) (c := c) (W := W) (O := O) hS C8 hd (w := 6) (by omega)
      have e9 : Rv 114 0 [some (.ref 40), some (.int (Int32.ofNat d)), some (.int 6)] [] (en G c F8 A8 P W O) = some (.inl (some (.int (if xps g d = true then 1 else 0))), _) := e9
      obtain ⟨F10, A10, z', C10, e10⟩ := ih (k + 1) F9 A9 (some (.int (Int32.ofNat d))) (by omega) C9
      refine ⟨F10, A10, z', C10, ?_⟩
      have k0 : (Int32.ofNat k = 0) = False := io_ne0 (by omega) (by omega)
      have hx : ((if xps g d' = true then (1 : Int32) else 0) < (if xps g d = true then (1 : Int32) else 0)) = False := by
        have h3 := ord_xps hw (d := d') (e := d) (by omega) (by omega)
        cases hq : xps g d
        · cases xps g d' <;> decide
        · rw [h3 hq]; decide
      rw [h245_79]
      simp only [↓e245_0, ↓e245_1, ↓e245_2, ↓e245_3, ↓e245_4, ↓e245_5, ↓e245_7, ↓e245_8, ↓e245_10, ↓e245_13, ↓e245_16, ↓e245_17, ↓e245_18, ↓e245_19, ↓e245_21, ↓e245_24, ↓e245_27, ↓e245_28, ↓e245_31, ↓e245_32, ↓e245_33, ↓e245_34, ↓e245_35, ↓e245_36, ↓e245_37, ↓e245_39, ↓e245_42, ↓e245_43, ↓e245_44, ↓e245_47, ↓e245_50, ↓e245_51, ↓e245_53, ↓e245_56, ↓e245_57, ↓e245_60, ↓e245_61, ↓e245_62, ↓e245_63, ↓e245_66, ↓e245_67, ↓e245_70, ↓e245_71, ↓e245_74, ↓e245_75, ↓e245_76, ↓e245_77, ↓e245_81, ↓e245_82, ↓e245_85, ↓e245_86, ↓e245_88, ↓e245_89, ↓e245_92, ↓e245_94, ↓e245_95, ↓e245_98, ↓e245_99, ↓e245_101, ↓e245_102, ↓e245_105, ↓e245_106, ↓e245_108, ↓e245_110, ↓e245_113, ↓e245_116, ↓e245_117, ↓e245_119, ↓e245_120, ↓e245_123, ↓e245_126, ↓e245_127, ↓e245_129, ↓e245_130, ↓e245_133, ↓e245_134, ↓e245_136, ↓e245_137, ↓e245_140, ↓e245_143, ↓e245_144, ↓e245_147, ↓e245_148, ↓e245_149, ↓e245_150, ↓e245_153, ↓e245_155, ↓e245_158, ↓e245_159, ↓e245_160, ↓e245_162, ↓e245_163, ↓e245_164, ↓e245_165, ↓e245_168, ↓e245_170, ↓e245_173, ↓e245_174, ↓e245_176, ↓e245_178, ↓e245_181, ↓e245_184, ↓e245_185, ↓e245_188, ↓e245_189, ↓e245_190, ↓e245_193, ↓ldI_0, ↓ldI_s, ↓ldA_0, ↓ldA_n, ↓ldA_s, ↓ldL_0, ↓ldL_s, ↓lst_0, ↓lst_s, ↓cal_v, ↓cal_x, ↓vts_s, ↓vts_n, ↓lpr_0, ↓lpr_i, ↓lpr_r, ↓lpr_n, ↓lpr_s, PA_41, ↓reduceIte, or_true, true_or, ↓ho_40, ↓gf_40_0, ↓gf_40_1, ↓gf_40_2, ↓gf_40_3, ↓ho_49, ↓gf_49_0, ↓gf_49_1, ↓gf_49_2, ↓gf_49_3, ↓pf_49_3, ↓ho_50, ↓gf_50_0, ↓gf_50_1, ↓gf_50_2, ↓pf_50_2, ↓gf_50_3, ↓pf_50_3, ↓gf_50_4, ↓pf_50_4, ↓gf_50_5, ↓pf_50_5, ↓gf_50_6, ↓pf_50_6, ↓ho_54, ↓gf_54_0, ↓gf_54_1, ↓pf_54_1, ↓ho_88, ↓gf_88_0, ↓gf_88_1, ↓pf_88_1, ↓gf_88_2, ↓pf_88_2, ↓gf_88_3, ↓pf_88_3, ↓gf_88_4, ↓pf_88_4, ↓gf_88_5, ↓pf_88_5, ↓gf_41_0, ↓pf_41_0, ↓gf_41_1, ↓pf_41_1, ↓gf_41_2, ↓gf_41_3, ↓pf_41_3, ↓gf_41_4, ↓gf_41_5, ↓gf_41_6, ↓gf_41_7, ↓gf_41_8, ↓pf_41_8, ↓gf_41_9, ↓pf_41_9, ↓gf_41_10, ↓gf_41_11, ↓ho_41, ↓gi_42, ↓pi_42, ↓gi_43, ↓pi_43, ↓gi_44, ↓pi_44, ↓gi_45, ↓pi_45, ↓gi_46, ↓pi_46, ↓gi_47, ↓pi_47, ↓gi_48, ↓pi_48, ↓gi_51, ↓pi_51, ↓gi_52, ↓pi_52, ↓gi_53, ↓pi_53, ↓gi_89, ↓pi_89, ↓gi_1, ↓gn_1, ↓gr_55, ↓pr_55, io_lt (show k < 2147483648 by omega) (show wks g < 2147483648 by omega), eq_true hkw, e1, e2, e3, e4, e5, e6, one_ne, pos_io (show chg g d < 2147483648 by omega), eq_true hp, k0, io_sub1 (show 1 ≤ k by omega), e7, e8, e9, hx, io_succ]
      exact e10
theorem l245c (hS : SI g u ks t tx) (hs : DSt g) {n s : Int32} {z : Option Value} : ∀ r k (F A : Nat → Nat → Int32), kn g ≤ k + r → 1 ≤ k → k ≤ 16 → CI F A P g u ks t tx → ∃ F' A' z', CI F' A' P g u ks t tx ∧ Rv 245 199 [some (.ref 40), some (.int n), some (.int s), some (.int 1), some (.int (Int32.ofNat k)), z] [] (en G c F A P W O) = Rv 245 252 [some (.ref 40), some (.int n), some (.int s), some (.int 1), z', z] [] (en G c F' A' P W O) := by
  have hw := hS.1
  have n16 := wf_n16 hw
  have stop : ∀ k (F A : Nat → Nat → Int32), k ≤ 16 → ¬ k < kn g → CI F A P g u ks t tx → ∃ F' A' z', CI F' A' P g u ks t tx ∧ Rv 245 199 [some (.ref 40), some (.int n), some (.int s), some (.int 1), some (.int (Int32.ofNat k)), z] [] (en G c F A P W O) = Rv 245 252 [some (.ref 40), some (.int n), some (.int s), some (.int 1), z', z] [] (en G c F' A' P W O) := by
    intro k F A h16 hk hC
    obtain ⟨F1, A1, C1, e1⟩ := w_5 (G := G) (c := c) (W := W) (O := O) hS hC
    refine ⟨F1, A1, some (.int (Int32.ofNat k)), C1, ?_⟩
    rw [h245_199]
    simp only [↓e245_0, ↓e245_1, ↓e245_2, ↓e245_3, ↓e245_4, ↓e245_5, ↓e245_7, ↓e245_8, ↓e245_10, ↓e245_13, ↓e245_16, ↓e245_17, ↓e245_18, ↓e245_19, ↓e245_21, ↓e245_24, ↓e245_27, ↓e245_28, ↓e245_31, ↓e245_32, ↓e245_33, ↓e245_34, ↓e245_35, ↓e245_36, ↓e245_37, ↓e245_39, ↓e245_42, ↓e245_43, ↓e245_44, ↓e245_47, ↓e245_50, ↓e245_51, ↓e245_53, ↓e245_56, ↓e245_57, ↓e245_60, ↓e245_61, ↓e245_62, ↓e245_63, ↓e245_66, ↓e245_67, ↓e245_70, ↓e245_71, ↓e245_74, ↓e245_75, ↓e245_76, ↓e245_77, ↓e245_81, ↓e245_82, ↓e245_85, ↓e245_86, ↓e245_88, ↓e245_89, ↓e245_92, ↓e245_94, ↓e245_95, ↓e245_98, ↓e245_99, ↓e245_101, ↓e245_102, ↓e245_105, ↓e245_106, ↓e245_108, ↓e245_110, ↓e245_113, ↓e245_116, ↓e245_117, ↓e245_119, ↓e245_120, ↓e245_123, ↓e245_126, ↓e245_127, ↓e245_129, ↓e245_130, ↓e245_133, ↓e245_134, ↓e245_136, ↓e245_137, ↓e245_140, ↓e245_143, ↓e245_144, ↓e245_147, ↓e245_148, ↓e245_149, ↓e245_150, ↓e245_153, ↓e245_155, ↓e245_158, ↓e245_159, ↓e245_160, ↓e245_162, ↓e245_163, ↓e245_164, ↓e245_165, ↓e245_168, ↓e245_170, ↓e245_173, ↓e245_174, ↓e245_176, ↓e245_178, ↓e245_181, ↓e245_184, ↓e245_185, ↓e245_188, ↓e245_189, ↓e245_190, ↓e245_193, ↓e245_196, ↓e245_197, ↓e245_201, ↓e245_202, ↓e245_203, ↓e245_206, ↓e245_209, ↓e245_210, ↓e245_213, ↓e245_214, ↓e245_215, ↓e245_217, ↓e245_218, ↓e245_219, ↓e245_222, ↓e245_223, ↓e245_226, ↓e245_227, ↓e245_228, ↓e245_230, ↓e245_233, ↓e245_234, ↓e245_237, ↓e245_240, ↓e245_241, ↓e245_244, ↓e245_245, ↓e245_246, ↓e245_249, ↓ldI_0, ↓ldI_s, ↓ldA_0, ↓ldA_n, ↓ldA_s, ↓ldL_0, ↓ldL_s, ↓lst_0, ↓lst_s, ↓cal_v, ↓cal_x, ↓vts_s, ↓vts_n, ↓lpr_0, ↓lpr_i, ↓lpr_r, ↓lpr_n, ↓lpr_s, PA_41, ↓reduceIte, or_true, true_or, ↓ho_40, ↓gf_40_0, ↓gf_40_1, ↓gf_40_2, ↓gf_40_3, ↓ho_49, ↓gf_49_0, ↓gf_49_1, ↓gf_49_2, ↓gf_49_3, ↓pf_49_3, ↓ho_50, ↓gf_50_0, ↓gf_50_1, ↓gf_50_2, ↓pf_50_2, ↓gf_50_3, ↓pf_50_3, ↓gf_50_4, ↓pf_50_4, ↓gf_50_5, ↓pf_50_5, ↓gf_50_6, ↓pf_50_6, ↓ho_54, ↓gf_54_0, ↓gf_54_1, ↓pf_54_1, ↓ho_88, ↓gf_88_0, ↓gf_88_1, ↓pf_88_1, ↓gf_88_2, ↓pf_88_2, ↓gf_88_3, ↓pf_88_3, ↓gf_88_4, ↓pf_88_4, ↓gf_88_5, ↓pf_88_5, ↓gf_41_0, ↓pf_41_0, ↓gf_41_1, ↓pf_41_1, ↓gf_41_2, ↓gf_41_3, ↓pf_41_3, ↓gf_41_4, ↓gf_41_5, ↓gf_41_6, ↓gf_41_7, ↓gf_41_8, ↓pf_41_8, ↓gf_41_9, ↓pf_41_9, ↓gf_41_10, ↓gf_41_11, ↓ho_41, ↓gi_42, ↓pi_42, ↓gi_43, ↓pi_43, ↓gi_44, ↓pi_44, ↓gi_45, ↓pi_45, ↓gi_46, ↓pi_46, ↓gi_47, ↓pi_47, ↓gi_48, ↓pi_48, ↓gi_51, ↓pi_51, ↓gi_52, ↓pi_52, ↓gi_53, ↓pi_53, ↓gi_89, ↓pi_89, ↓gi_1, ↓gn_1, ↓gr_55, ↓pr_55, e1, io_lt (show k < 2147483648 by omega) (show kn g < 2147483648 by omega), eq_false hk]
  intro r
  induction r with
  | zero => exact fun k F A h1 _ h3 hC => stop k F A h3 (by omega) hC
  | succ r ih =>
    intro k F A h1 h2 h3 hC
    by_cases hk : k < kn g
    · obtain ⟨F1, A1, C1, e1⟩ := w_5 (G := G) (c := c) (W := W) (O := O) hS hC
      obtain ⟨a, ha, fa, ra⟩ := kat_at hw hs (show k - 1 < kn g by omega)
      obtain ⟨b, hb, fb, rb⟩ := kat_at hw hs hk
      have b1 : Rv 118 0 [some (.ref 40), some (.int (Int32.ofNat (k - 1)))] [] (en G c F1 A1 P W O) = some (.inl (some (.int (Int32.ofNat a))), en G c F1 A1 P W O) := by
        rw [← fa]; exact c118y hS C1 (by rw [io_nonneg (by omega)]; exact id)
      have b2 : Rv 118 0 [some (.ref 40), some (.int (Int32.ofNat k))] [] (en G c F1 A1 P W O) = some (.inl (some (.int (Int32.ofNat b))), en G c F1 A1 P W O) := by
        rw [← fb]; exact c118y hS C1 (by rw [io_nonneg (by omega)]; exact id)
      have k1 : Rv 113 0 [some (.ref 40), some (.int (Int32.ofNat a)), some (.int 0)] [] (en G c F1 A1 P W O) = some (.inl (some (.int (Int32.ofNat (cd g a)))), en G c F1 A1 P W O) := by
        rw [← wf_cd hw a ha]; exact c113y hS C1 ha (w := 0) (by omega)
      have k2 : Rv 113 0 [some (.ref 40), some (.int (Int32.ofNat b)), some (.int 0)] [] (en G c F1 A1 P W O) = some (.inl (some (.int (Int32.ofNat (cd g b)))), en G c F1 A1 P W O) := by
        rw [← wf_cd hw b hb]; exact c113y hS C1 hb (w := 0) (by omega)
      have hle := kat_le hw ra rb (by omega)
      have l1 := wf_cl hw a ha
      have l2 := wf_cl hw b hb
      have hlt : (Int32.ofNat (cd g b) < Int32.ofNat (cd g a)) = False := by
        rw [io_lt (by omega) (by omega)]; exact eq_false (by omega)
      obtain ⟨F2, A2, z', C2, e2⟩ := ih (k + 1) F1 A1 (by omega) (by omega) (by omega) C1
      refine ⟨F2, A2, z', C2, ?_⟩
      rw [h245_199]
      simp only [↓e245_0, ↓e245_1, ↓e245_2, ↓e245_3, ↓e245_4, ↓e245_5, ↓e245_7, ↓e245_8, ↓e245_10, ↓e245_13, ↓e245_16, ↓e245_17, ↓e245_18, ↓e245_19, ↓e245_21, ↓e245_24, ↓e245_27, ↓e245_28, ↓e245_31, ↓e245_32, ↓e245_33, ↓e245_34, ↓e245_35, ↓e245_36, ↓e245_37, ↓e245_39, ↓e245_42, ↓e245_43, ↓e245_44, ↓e245_47, ↓e245_50, ↓e245_51, ↓e245_53, ↓e245_56, ↓e245_57, ↓e245_60, ↓e245_61, ↓e245_62, ↓e245_63, ↓e245_66, ↓e245_67, ↓e245_70, ↓e245_71, ↓e245_74, ↓e245_75, ↓e245_76, ↓e245_77, ↓e245_81, ↓e245_82, ↓e245_85, ↓e245_86, ↓e245_88, ↓e245_89, ↓e245_92, ↓e245_94, ↓e245_95, ↓e245_98, ↓e245_99, ↓e245_101, ↓e245_102, ↓e245_105, ↓e245_106, ↓e245_108, ↓e245_110, ↓e245_113, ↓e245_116, ↓e245_117, ↓e245_119, ↓e245_120, ↓e245_123, ↓e245_126, ↓e245_127, ↓e245_129, ↓e245_130, ↓e245_133, ↓e245_134, ↓e245_136, ↓e245_137, ↓e245_140, ↓e245_143, ↓e245_144, ↓e245_147, ↓e245_148, ↓e245_149, ↓e245_150, ↓e245_153, ↓e245_155, ↓e245_158, ↓e245_159, ↓e245_160, ↓e245_162, ↓e245_163, ↓e245_164, ↓e245_165, ↓e245_168, ↓e245_170, ↓e245_173, ↓e245_174, ↓e245_176, ↓e245_178, ↓e245_181, ↓e245_184, ↓e245_185, ↓e245_188, ↓e245_189, ↓e245_190, ↓e245_193, ↓e245_196, ↓e245_197, ↓e245_201, ↓e245_202, ↓e245_203, ↓e245_206, ↓e245_209, ↓e245_210, ↓e245_213, ↓e245_214, ↓e245_215, ↓e245_217, ↓e245_218, ↓e245_219, ↓e245_222, ↓e245_223, ↓e245_226, ↓e245_227, ↓e245_228, ↓e245_230, ↓e245_233, ↓e245_234, ↓e245_237, ↓e245_240, ↓e245_241, ↓e245_244, ↓e245_245, ↓e245_246, ↓e245_249, ↓ldI_0, ↓ldI_s, ↓ldA_0, ↓ldA_n, ↓ldA_s, ↓ldL_0, ↓ldL_s, ↓lst_0, ↓lst_s, ↓cal_v, ↓cal_x, ↓vts_s, ↓vts_n, ↓lpr_0, ↓lpr_i, ↓lpr_r, ↓lpr_n, ↓lpr_s, PA_41, ↓reduceIte, or_true, true_or, ↓ho_40, ↓gf_40_0, ↓gf_40_1, ↓gf_40_2, ↓gf_40_3, ↓ho_49, ↓gf_49_0, ↓gf_49_1, ↓gf_49_2, ↓gf_49_3, ↓pf_49_3, ↓ho_50, ↓gf_50_0, ↓gf_50_1, ↓gf_50_2, ↓pf_50_2, ↓gf_50_3, ↓pf_50_3, ↓gf_50_4, ↓pf_50_4, ↓gf_50_5, ↓pf_50_5, ↓gf_50_6, ↓pf_50_6, ↓ho_54, ↓gf_54_0, ↓gf_54_1, ↓pf_54_1, ↓ho_88, ↓gf_88_0, ↓gf_88_1, ↓pf_88_1, ↓gf_88_2, ↓pf_88_2, ↓gf_88_3, ↓pf_88_3, ↓gf_88_4, ↓pf_88_4, ↓gf_88_5, ↓pf_88_5, ↓gf_41_0, ↓pf_41_0, ↓gf_41_1, ↓pf_41_1, ↓gf_41_2, ↓gf_41_3, ↓pf_41_3, ↓gf_41_4, ↓gf_41_5, ↓gf_41_6, ↓gf_41_7, ↓gf_41_8, ↓pf_41_8, ↓gf_41_9, ↓pf_41_9, ↓gf_41_10, ↓gf_41_11, ↓ho_41, ↓gi_42, ↓pi_42, ↓gi_43, ↓pi_43, ↓gi_44, ↓pi_44, ↓gi_45, ↓pi_45, ↓gi_46, ↓pi_46, ↓gi_47, ↓pi_47, ↓gi_48, ↓pi_48, ↓gi_51, ↓pi_51, ↓gi_52, ↓pi_52, ↓gi_53, ↓pi_53, ↓gi_89, ↓pi_89, ↓gi_1, ↓gn_1, ↓gr_55, ↓pr_55, e1, io_lt (show k < 2147483648 by omega) (show kn g < 2147483648 by omega), eq_true hk, one_ne, io_sub1 h2, b1, b2, k1, k2, hlt, io_succ]
      exact e2
    · exact stop k F A h3 hk hC
theorem t245 (hS : SI g u ks t tx) (hs : DSt g) (hC : CI F A P g u ks t tx) : ∃ F' A' P', CI F' A' P' g (svu u - 1) (svk u g ks) t tx ∧ Rv 245 0 [some (.ref 40), none, none, none, none, none] [] (en G c F A P W O) = some (.inl (some (.int 1)), en G c F' A' P' W O) := by
  have hw := hS.1
  have n16 := wf_n16 hw
  have m12 := wf_m12 hw
  have hle : wks g ≤ dn g := cnt_le _ _
  obtain ⟨F1, A1, C1, e1⟩ := l245a (G := G) (c := c) (W := W) (O := O) hS (dn g) 0 F A (by omega) hC
  obtain ⟨F2, A2, C2, e2⟩ := w_11 (G := G) (c := c) (W := W) (O := O) hS C1
  obtain ⟨F3, A3, C3, e3⟩ := wq (G := G) (c := c) (W := W) (O := O) hS C2 (i := wks g) (by omega) (w := 0) (by omega)
  have v0 : wov g (Int32.ofNat (wks g)) 0 = -1 := by
    unfold wov
    rw [if_pos (wat_no hw (Nat.le_refl _) (by omega))]
  rw [v0] at e3
  have e3 : Rv 117 0 [some (.ref 40), some (.int (Int32.ofNat (wks g))), some (.int 0)] [] (en G c F2 A2 P W O) = some (.inl (some (.int (-1))), _) := e3
  obtain ⟨F4, A4, z, C4, e4⟩ := l245b (G := G) (c := c) (W := W) (O := O) hS (s := Int32.ofNat (sum (chg g) (dn g))) (wks g) 0 F3 A3 none (by omega) C3
  obtain ⟨F5, A5, z', C5, e5⟩ := l245c (G := G) (c := c) (W := W) (O := O) hS hs (n := Int32.ofNat (wks g)) (s := Int32.ofNat (sum (chg g) (dn g))) (z := z) 16 1 F4 A4 (by omega) (by omega) (by omega) C4
  obtain ⟨F6, A6, P6, -, C6, e6⟩ := c111y (G := G) (c := c) (W := W) (O := O) hS C5
  have hS6 : SI (fal g (dn g)) (svu u) (svk u g ks) t tx := ⟨wf_fal hw _ (Nat.le_refl _), (si_save hS).2⟩
  obtain ⟨F7, A7, C7, e7⟩ := w_11 (G := G) (c := c) (W := W) (O := O) hS6 C6
  rw [wks_fal hw] at e7
  obtain ⟨F8, A8, -, C8, e8⟩ := c127z (G := G) (c := c) (W := W) (O := O) hS6 C7 (svu_pos u)
  rw [svk_top hS.2.1] at C8
  refine ⟨F8, A8, P6, C8, ?_⟩
  rw [fas_sum hw _ (Nat.le_refl _)] at e6
  have e1 : Rv 245 6 [some (.ref 40), some (.int 0), some (.int 0), some (.int 0), none, none] [] (en G c F A P W O) = _ := e1
  have e4 : Rv 245 79 [some (.ref 40), some (.int (Int32.ofNat (wks g))), some (.int (Int32.ofNat (sum (chg g) (dn g)))), some (.int 1), some (.int 0), none] [] (en G c F3 A3 P W O) = _ := e4
  have e5 : Rv 245 199 [some (.ref 40), some (.int (Int32.ofNat (wks g))), some (.int (Int32.ofNat (sum (chg g) (dn g)))), some (.int 1), some (.int 1), z] [] (en G c F4 A4 P W O) = _ := e5
  have z0 : (Int32.ofNat 0 = 0) = True := eq_true rfl
  simp only [↓e245_0, ↓e245_1, ↓e245_2, ↓e245_3, ↓e245_4, ↓e245_5, ↓ldI_0, ↓ldI_s, ↓ldA_0, ↓ldA_n, ↓ldA_s, ↓ldL_0, ↓ldL_s, ↓lst_0, ↓lst_s, ↓cal_v, ↓cal_x, ↓vts_s, ↓vts_n, ↓lpr_0, ↓lpr_i, ↓lpr_r, ↓lpr_n, ↓lpr_s, PA_41, ↓reduceIte, or_true, true_or, ↓ho_40, ↓gf_40_0, ↓gf_40_1, ↓gf_40_2, ↓gf_40_3, ↓ho_49, ↓gf_49_0, ↓gf_49_1, ↓gf_49_2, ↓gf_49_3, ↓pf_49_3, ↓ho_50, ↓gf_50_0, ↓gf_50_1, ↓gf_50_2, ↓pf_50_2, ↓gf_50_3, ↓pf_50_3, ↓gf_50_4, ↓pf_50_4, ↓gf_50_5, ↓pf_50_5, ↓gf_50_6, ↓pf_50_6, ↓ho_54, ↓gf_54_0, ↓gf_54_1, ↓pf_54_1, ↓ho_88, ↓gf_88_0, ↓gf_88_1, ↓pf_88_1, ↓gf_88_2, ↓pf_88_2, ↓gf_88_3, ↓pf_88_3, ↓gf_88_4, ↓pf_88_4, ↓gf_88_5, ↓pf_88_5, ↓gf_41_0, ↓pf_41_0, ↓gf_41_1, ↓pf_41_1, ↓gf_41_2, ↓gf_41_3, ↓pf_41_3, ↓gf_41_4, ↓gf_41_5, ↓gf_41_6, ↓gf_41_7, ↓gf_41_8, ↓pf_41_8, ↓gf_41_9, ↓pf_41_9, ↓gf_41_10, ↓gf_41_11, ↓ho_41, ↓gi_42, ↓pi_42, ↓gi_43, ↓pi_43, ↓gi_44, ↓pi_44, ↓gi_45, ↓pi_45, ↓gi_46, ↓pi_46, ↓gi_47, ↓pi_47, ↓gi_48, ↓pi_48, ↓gi_51, ↓pi_51, ↓gi_52, ↓pi_52, ↓gi_53, ↓pi_53, ↓gi_89, ↓pi_89, ↓gi_1, ↓gn_1, ↓gr_55, ↓pr_55]
  rw [e1]
  simp only [↓e245_0, ↓e245_1, ↓e245_2, ↓e245_3, ↓e245_4, ↓e245_5, ↓e245_7, ↓e245_8, ↓e245_10, ↓e245_13, ↓e245_16, ↓e245_17, ↓e245_18, ↓e245_19, ↓e245_21, ↓e245_24, ↓e245_27, ↓e245_28, ↓e245_31, ↓e245_32, ↓e245_33, ↓e245_34, ↓e245_35, ↓e245_36, ↓e245_37, ↓e245_39, ↓e245_42, ↓e245_43, ↓e245_44, ↓e245_47, ↓e245_50, ↓e245_51, ↓e245_53, ↓e245_56, ↓e245_57, ↓e245_60, ↓e245_61, ↓e245_62, ↓e245_63, ↓e245_66, ↓e245_67, ↓e245_70, ↓e245_71, ↓e245_74, ↓e245_75, ↓e245_76, ↓e245_77, ↓ldI_0, ↓ldI_s, ↓ldA_0, ↓ldA_n, ↓ldA_s, ↓ldL_0, ↓ldL_s, ↓lst_0, ↓lst_s, ↓cal_v, ↓cal_x, ↓vts_s, ↓vts_n, ↓lpr_0, ↓lpr_i, ↓lpr_r, ↓lpr_n, ↓lpr_s, PA_41, ↓reduceIte, or_true, true_or, ↓ho_40, ↓gf_40_0, ↓gf_40_1, ↓gf_40_2, ↓gf_40_3, ↓ho_49, ↓gf_49_0, ↓gf_49_1, ↓gf_49_2, ↓gf_49_3, ↓pf_49_3, ↓ho_50, ↓gf_50_0, ↓gf_50_1, ↓gf_50_2, ↓pf_50_2, ↓gf_50_3, ↓pf_50_3, ↓gf_50_4, ↓pf_50_4, ↓gf_50_5, ↓pf_50_5, ↓gf_50_6, ↓pf_50_6, ↓ho_54, ↓gf_54_0, ↓gf_54_1, ↓pf_54_1, ↓ho_88, ↓gf_88_0, ↓gf_88_1, ↓pf_88_1, ↓gf_88_2, ↓pf_88_2, ↓gf_88_3, ↓pf_88_3, ↓gf_88_4, ↓pf_88_4, ↓gf_88_5, ↓pf_88_5, ↓gf_41_0, ↓pf_41_0, ↓gf_41_1, ↓pf_41_1, ↓gf_41_2, ↓gf_41_3, ↓pf_41_3, ↓gf_41_4, ↓gf_41_5, ↓gf_41_6, ↓gf_41_7, ↓gf_41_8, ↓pf_41_8, ↓gf_41_9, ↓pf_41_9, ↓gf_41_10, ↓gf_41_11, ↓ho_41, ↓gi_42, ↓pi_42, ↓gi_43, ↓pi_43, ↓gi_44, ↓pi_44, ↓gi_45, ↓pi_45, ↓gi_46, ↓pi_46, ↓gi_47, ↓pi_47, ↓gi_48, ↓pi_48, ↓gi_51, ↓pi_51, ↓gi_52, ↓pi_52, ↓gi_53, ↓pi_53, ↓gi_89, ↓pi_89, ↓gi_1, ↓gn_1, ↓gr_55, ↓pr_55, e2, e3]
  rw [e4]
  simp only [↓e245_0, ↓e245_1, ↓e245_2, ↓e245_3, ↓e245_4, ↓e245_5, ↓e245_7, ↓e245_8, ↓e245_10, ↓e245_13, ↓e245_16, ↓e245_17, ↓e245_18, ↓e245_19, ↓e245_21, ↓e245_24, ↓e245_27, ↓e245_28, ↓e245_31, ↓e245_32, ↓e245_33, ↓e245_34, ↓e245_35, ↓e245_36, ↓e245_37, ↓e245_39, ↓e245_42, ↓e245_43, ↓e245_44, ↓e245_47, ↓e245_50, ↓e245_51, ↓e245_53, ↓e245_56, ↓e245_57, ↓e245_60, ↓e245_61, ↓e245_62, ↓e245_63, ↓e245_66, ↓e245_67, ↓e245_70, ↓e245_71, ↓e245_74, ↓e245_75, ↓e245_76, ↓e245_77, ↓e245_81, ↓e245_82, ↓e245_85, ↓e245_86, ↓e245_88, ↓e245_89, ↓e245_92, ↓e245_94, ↓e245_95, ↓e245_98, ↓e245_99, ↓e245_101, ↓e245_102, ↓e245_105, ↓e245_106, ↓e245_108, ↓e245_110, ↓e245_113, ↓e245_116, ↓e245_117, ↓e245_119, ↓e245_120, ↓e245_123, ↓e245_126, ↓e245_127, ↓e245_129, ↓e245_130, ↓e245_133, ↓e245_134, ↓e245_136, ↓e245_137, ↓e245_140, ↓e245_143, ↓e245_144, ↓e245_147, ↓e245_148, ↓e245_149, ↓e245_150, ↓e245_153, ↓e245_155, ↓e245_158, ↓e245_159, ↓e245_160, ↓e245_162, ↓e245_163, ↓e245_164, ↓e245_165, ↓e245_168, ↓e245_170, ↓e245_173, ↓e245_174, ↓e245_176, ↓e245_178, ↓e245_181, ↓e245_184, ↓e245_185, ↓e245_188, ↓e245_189, ↓e245_190, ↓e245_193, ↓e245_196, ↓e245_197, ↓ldI_0, ↓ldI_s, ↓ldA_0, ↓ldA_n, ↓ldA_s, ↓ldL_0, ↓ldL_s, ↓lst_0, ↓lst_s, ↓cal_v, ↓cal_x, ↓vts_s, ↓vts_n, ↓lpr_0, ↓lpr_i, ↓lpr_r, ↓lpr_n, ↓lpr_s, PA_41, ↓reduceIte, or_true, true_or, ↓ho_40, ↓gf_40_0, ↓gf_40_1, ↓gf_40_2, ↓gf_40_3, ↓ho_49, ↓gf_49_0, ↓gf_49_1, ↓gf_49_2, ↓gf_49_3, ↓pf_49_3, ↓ho_50, ↓gf_50_0, ↓gf_50_1, ↓gf_50_2, ↓pf_50_2, ↓gf_50_3, ↓pf_50_3, ↓gf_50_4, ↓pf_50_4, ↓gf_50_5, ↓pf_50_5, ↓gf_50_6, ↓pf_50_6, ↓ho_54, ↓gf_54_0, ↓gf_54_1, ↓pf_54_1, ↓ho_88, ↓gf_88_0, ↓gf_88_1, ↓pf_88_1, ↓gf_88_2, ↓pf_88_2, ↓gf_88_3, ↓pf_88_3, ↓gf_88_4, ↓pf_88_4, ↓gf_88_5, ↓pf_88_5, ↓gf_41_0, ↓pf_41_0, ↓gf_41_1, ↓pf_41_1, ↓gf_41_2, ↓gf_41_3, ↓pf_41_3, ↓gf_41_4, ↓gf_41_5, ↓gf_41_6, ↓gf_41_7, ↓gf_41_8, ↓pf_41_8, ↓gf_41_9, ↓pf_41_9, ↓gf_41_10, ↓gf_41_11, ↓ho_41, ↓gi_42, ↓pi_42, ↓gi_43, ↓pi_43, ↓gi_44, ↓pi_44, ↓gi_45, ↓pi_45, ↓gi_46, ↓pi_46, ↓gi_47, ↓pi_47, ↓gi_48, ↓pi_48, ↓gi_51, ↓pi_51, ↓gi_52, ↓pi_52, ↓gi_53, ↓pi_53, ↓gi_89, ↓pi_89, ↓gi_1, ↓gn_1, ↓gr_55, ↓pr_55]
  rw [e5]
  simp only [↓e245_0, ↓e245_1, ↓e245_2, ↓e245_3, ↓e245_4, ↓e245_5, ↓e245_7, ↓e245_8, ↓e245_10, ↓e245_13, ↓e245_16, ↓e245_17, ↓e245_18, ↓e245_19, ↓e245_21, ↓e245_24, ↓e245_27, ↓e245_28, ↓e245_31, ↓e245_32, ↓e245_33, ↓e245_34, ↓e245_35, ↓e245_36, ↓e245_37, ↓e245_39, ↓e245_42, ↓e245_43, ↓e245_44, ↓e245_47, ↓e245_50, ↓e245_51, ↓e245_53, ↓e245_56, ↓e245_57, ↓e245_60, ↓e245_61, ↓e245_62, ↓e245_63, ↓e245_66, ↓e245_67, ↓e245_70, ↓e245_71, ↓e245_74, ↓e245_75, ↓e245_76, ↓e245_77, ↓e245_81, ↓e245_82, ↓e245_85, ↓e245_86, ↓e245_88, ↓e245_89, ↓e245_92, ↓e245_94, ↓e245_95, ↓e245_98, ↓e245_99, ↓e245_101, ↓e245_102, ↓e245_105, ↓e245_106, ↓e245_108, ↓e245_110, ↓e245_113, ↓e245_116, ↓e245_117, ↓e245_119, ↓e245_120, ↓e245_123, ↓e245_126, ↓e245_127, ↓e245_129, ↓e245_130, ↓e245_133, ↓e245_134, ↓e245_136, ↓e245_137, ↓e245_140, ↓e245_143, ↓e245_144, ↓e245_147, ↓e245_148, ↓e245_149, ↓e245_150, ↓e245_153, ↓e245_155, ↓e245_158, ↓e245_159, ↓e245_160, ↓e245_162, ↓e245_163, ↓e245_164, ↓e245_165, ↓e245_168, ↓e245_170, ↓e245_173, ↓e245_174, ↓e245_176, ↓e245_178, ↓e245_181, ↓e245_184, ↓e245_185, ↓e245_188, ↓e245_189, ↓e245_190, ↓e245_193, ↓e245_196, ↓e245_197, ↓e245_201, ↓e245_202, ↓e245_203, ↓e245_206, ↓e245_209, ↓e245_210, ↓e245_213, ↓e245_214, ↓e245_215, ↓e245_217, ↓e245_218, ↓e245_219, ↓e245_222, ↓e245_223, ↓e245_226, ↓e245_227, ↓e245_228, ↓e245_230, ↓e245_233, ↓e245_234, ↓e245_237, ↓e245_240, ↓e245_241, ↓e245_244, ↓e245_245, ↓e245_246, ↓e245_249, ↓e245_252, ↓e245_253, ↓e245_256, ↓e245_258, ↓e245_259, ↓e245_262, ↓e245_264, ↓e245_265, ↓e245_268, ↓e245_269, ↓e245_271, ↓e245_274, ↓e245_277, ↓e245_278, ↓e245_281, ↓e245_282, ↓e245_283, ↓e245_284, ↓e245_287, ↓e245_288, ↓e245_289, ↓ldI_0, ↓ldI_s, ↓ldA_0, ↓ldA_n, ↓ldA_s, ↓ldL_0, ↓ldL_s, ↓lst_0, ↓lst_s, ↓cal_v, ↓cal_x, ↓vts_s, ↓vts_n, ↓lpr_0, ↓lpr_i, ↓lpr_r, ↓lpr_n, ↓lpr_s, PA_41, ↓reduceIte, or_true, true_or, ↓ho_40, ↓gf_40_0, ↓gf_40_1, ↓gf_40_2, ↓gf_40_3, ↓ho_49, ↓gf_49_0, ↓gf_49_1, ↓gf_49_2, ↓gf_49_3, ↓pf_49_3, ↓ho_50, ↓gf_50_0, ↓gf_50_1, ↓gf_50_2, ↓pf_50_2, ↓gf_50_3, ↓pf_50_3, ↓gf_50_4, ↓pf_50_4, ↓gf_50_5, ↓pf_50_5, ↓gf_50_6, ↓pf_50_6, ↓ho_54, ↓gf_54_0, ↓gf_54_1, ↓pf_54_1, ↓ho_88, ↓gf_88_0, ↓gf_88_1, ↓pf_88_1, ↓gf_88_2, ↓pf_88_2, ↓gf_88_3, ↓pf_88_3, ↓gf_88_4, ↓pf_88_4, ↓gf_88_5, ↓pf_88_5, ↓gf_41_0, ↓pf_41_0, ↓gf_41_1, ↓pf_41_1, ↓gf_41_2, ↓gf_41_3, ↓pf_41_3, ↓gf_41_4, ↓gf_41_5, ↓gf_41_6, ↓gf_41_7, ↓gf_41_8, ↓pf_41_8, ↓gf_41_9, ↓pf_41_9, ↓gf_41_10, ↓gf_41_11, ↓ho_41, ↓gi_42, ↓pi_42, ↓gi_43, ↓pi_43, ↓gi_44, ↓pi_44, ↓gi_45, ↓pi_45, ↓gi_46, ↓pi_46, ↓gi_47, ↓pi_47, ↓gi_48, ↓pi_48, ↓gi_51, ↓pi_51, ↓gi_52, ↓pi_52, ↓gi_53, ↓pi_53, ↓gi_89, ↓pi_89, ↓gi_1, ↓gn_1, ↓gr_55, ↓pr_55, e6, e7, e8, one_ne, z0]
end ZT
