/-! the law's check of a door -/
section ZT
variable {G : zG} {c : Nat × Nat × Bool} {F A : Nat → Nat → Int32} {P : Nat → Nat} {W : Value} {O : Nat → Int64} {x y v : Int32} {a b i n t u w k d m : Nat} {g : Nat → Int32} {ks : Nat → Nat → Int32} {tx : Nat → Int32}
theorem dq (hS : SI g u ks t tx) (hC : CI F A P g u ks t tx) (ha : a < dn g) (h8 : w ≤ 8) : ∃ F' A', CI F' A' P g u ks t tx ∧ Rv 114 0 [some (.ref 40), some (.int (Int32.ofNat a)), some (.int (Int32.ofNat w))] [] (en G c F A P W O) = some (.inl (some (.int (dvz g a w))), en G c F' A' P W O) := by
  obtain ⟨F', A', -, h, e⟩ := c114y (G := G) (c := c) (W := W) (O := O) hS hC ha h8
  exact ⟨F', A', h, e⟩
theorem pn16 (hw : Wf g) (hd : d < 12) (hk : k < chn g) : cnt (tb (g (67 + 4 * d + k))) 16 = cnt (pnb g d k) 6 := cnt_low fun q hq => wf_q hw d hd k hk q hq
theorem cfo_le (hw : Wf g) (d : Nat) : cfo g d ≤ 1296 := Nat.le_trans (prod_le (c := 6) fun k _ => cnt_le _ 6) (pow_le46 (Nat.le_refl _) (wf_c4 hw) (by omega))
theorem l244a (hS : SI g u ks t tx) (hd : d < dn g) : ∀ r k (F A : Nat → Nat → Int32), k + r = chn g → CI F A P g u ks t tx → ∃ F' A', CI F' A' P g u ks t tx ∧ Rv 244 7 [some (.ref 40), some (.int (Int32.ofNat d)), some (.int (Int32.ofNat (prod (fun c => cnt (pnb g d c) 6) k))), some (.int (Int32.ofNat (sum (fun c => cnt (pnb g d c) 6) k))), some (.int (Int32.ofNat k)), none, none, none] [] (en G c F A P W O) = Rv 244 49 [some (.ref 40), some (.int (Int32.ofNat d)), some (.int (Int32.ofNat (cfo g d))), some (.int (Int32.ofNat (pni g d))), some (.int (Int32.ofNat (chn g))), none, none, none] [] (en G c F' A' P W O) := by
  have hw := hS.1
  have c4 := wf_c4 hw
  have m12 := wf_m12 hw
  intro r
  induction r with
  | zero =>
    intro k F A hk hC
    obtain ⟨F1, A1, C1, e1⟩ := w_0 (G := G) (c := c) (W := W) (O := O) hS hC
    refine ⟨F1, A1, C1, ?_⟩
    have hk : k = chn g := by omega
    subst hk
    rw [h244_7]
    simp only [↓e244_0, ↓e244_1, ↓e244_2, ↓e244_3, ↓e244_4, ↓e244_5, ↓e244_9, ↓e244_10, ↓e244_11, ↓e244_14, ↓e244_17, ↓e244_18, ↓e244_19, ↓e244_20, ↓e244_22, ↓e244_25, ↓e244_28, ↓e244_29, ↓e244_30, ↓e244_31, ↓e244_32, ↓e244_33, ↓e244_35, ↓e244_38, ↓e244_41, ↓e244_42, ↓e244_43, ↓e244_46, ↓ldI_0, ↓ldI_s, ↓ldA_0, ↓ldA_n, ↓ldA_s, ↓ldL_0, ↓ldL_s, ↓lst_0, ↓lst_s, ↓cal_v, ↓cal_x, ↓vts_s, ↓vts_n, ↓lpr_0, ↓lpr_i, ↓lpr_r, ↓lpr_n, ↓lpr_s, PA_41, ↓reduceIte, or_true, true_or, ↓ho_40, ↓gf_40_0, ↓gf_40_1, ↓gf_40_2, ↓gf_40_3, ↓ho_49, ↓gf_49_0, ↓gf_49_1, ↓gf_49_2, ↓gf_49_3, ↓pf_49_3, ↓ho_50, ↓gf_50_0, ↓gf_50_1, ↓gf_50_2, ↓pf_50_2, ↓gf_50_3, ↓pf_50_3, ↓gf_50_4, ↓pf_50_4, ↓gf_50_5, ↓pf_50_5, ↓gf_50_6, ↓pf_50_6, ↓ho_54, ↓gf_54_0, ↓gf_54_1, ↓pf_54_1, ↓ho_88, ↓gf_88_0, ↓gf_88_1, ↓pf_88_1, ↓gf_88_2, ↓pf_88_2, ↓gf_88_3, ↓pf_88_3, ↓gf_88_4, ↓pf_88_4, ↓gf_88_5, ↓pf_88_5, ↓gf_41_0, ↓pf_41_0, ↓gf_41_1, ↓pf_41_1, ↓gf_41_2, ↓gf_41_3, ↓pf_41_3, ↓gf_41_4, ↓gf_41_5, ↓gf_41_6, ↓gf_41_7, ↓gf_41_8, ↓pf_41_8, ↓gf_41_9, ↓pf_41_9, ↓gf_41_10, ↓gf_41_11, ↓ho_41, ↓gi_42, ↓pi_42, ↓gi_43, ↓pi_43, ↓gi_44, ↓pi_44, ↓gi_45, ↓pi_45, ↓gi_46, ↓pi_46, ↓gi_47, ↓pi_47, ↓gi_48, ↓pi_48, ↓gi_51, ↓pi_51, ↓gi_52, ↓pi_52, ↓gi_53, ↓pi_53, ↓gi_89, ↓pi_89, ↓gi_1, ↓gn_1, ↓gr_55, ↓pr_55, e1, Int32.lt_irrefl]
    rfl
  | succ r ih =>
    intro k F A hk hC
    obtain ⟨F1, A1, C1, e1⟩ := w_0 (G := G) (c := c) (W := W) (O := O) hS hC
    obtain ⟨F2, A2, C2, e2⟩ := ih (k + 1) F1 A1 (by omega) C1
    refine ⟨F2, A2, C2, ?_⟩
    have e3 := c115y (G := G) (c := c) (W := W) (O := O) hS C1 hd (show k < chn g by omega)
    rw [h244_7]
    simp only [↓e244_0, ↓e244_1, ↓e244_2, ↓e244_3, ↓e244_4, ↓e244_5, ↓e244_9, ↓e244_10, ↓e244_11, ↓e244_14, ↓e244_17, ↓e244_18, ↓e244_19, ↓e244_20, ↓e244_22, ↓e244_25, ↓e244_28, ↓e244_29, ↓e244_30, ↓e244_31, ↓e244_32, ↓e244_33, ↓e244_35, ↓e244_38, ↓e244_41, ↓e244_42, ↓e244_43, ↓e244_46, ↓ldI_0, ↓ldI_s, ↓ldA_0, ↓ldA_n, ↓ldA_s, ↓ldL_0, ↓ldL_s, ↓lst_0, ↓lst_s, ↓cal_v, ↓cal_x, ↓vts_s, ↓vts_n, ↓lpr_0, ↓lpr_i, ↓lpr_r, ↓lpr_n, ↓lpr_s, PA_41, ↓reduceIte, or_true, true_or, ↓ho_40, ↓gf_40_0, ↓gf_40_1, ↓gf_40_2, ↓gf_40_3, ↓ho_49, ↓gf_49_0, ↓gf_49_1, ↓gf_49_2, ↓gf_49_3, ↓pf_49_3, ↓ho_50, ↓gf_50_0, ↓gf_50_1, ↓gf_50_2, ↓pf_50_2, ↓gf_50_3, ↓pf_50_3, ↓gf_50_4, ↓pf_50_4, ↓gf_50_5, ↓pf_50_5, ↓gf_50_6, ↓pf_50_6, ↓ho_54, ↓gf_54_0, ↓gf_54_1, ↓pf_54_1, ↓ho_88, ↓gf_88_0, ↓gf_88_1, ↓pf_88_1, ↓gf_88_2, ↓pf_88_2, ↓gf_88_3, ↓pf_88_3, ↓gf_88_4, ↓pf_88_4, ↓gf_88_5, ↓pf_88_5, ↓gf_41_0, ↓pf_41_0, ↓gf_41_1, ↓pf_41_1, ↓gf_41_2, ↓gf_41_3, ↓pf_41_3, ↓gf_41_4, ↓gf_41_5, ↓gf_41_6, ↓gf_41_7, ↓gf_41_8, ↓pf_41_8, ↓gf_41_9, ↓pf_41_9, ↓gf_41_10, ↓gf_41_11, ↓ho_41, ↓gi_42, ↓pi_42, ↓gi_43, ↓pi_43, ↓gi_44, ↓pi_44, ↓gi_45, ↓pi_45, ↓gi_46, ↓pi_46, ↓gi_47, ↓pi_47, ↓gi_48, ↓pi_48, ↓gi_51, ↓pi_51, ↓gi_52, ↓pi_52, ↓gi_53, ↓pi_53, ↓gi_89, ↓pi_89, ↓gi_1, ↓gn_1, ↓gr_55, ↓pr_55, e1, io_lt (show k < 2147483648 by omega) (show chn g < 2147483648 by omega), eq_true (show k < chn g by omega), e3, s240, pn16 hw (show d < 12 by omega) (show k < chn g by omega), io_mul, io_add, io_succ]
    exact e2
theorem eA (hd : d < 12) (hdn : d < dn g) : bits (opd g (cd g k)) 12 >>> (Int32.ofNat d &&& 31) &&& 1 = (if opn g (cd g k) d = true then 1 else 0) := by
  rw [sh_tb (by omega), tb_bits _ _ (by omega) _ (by omega), decide_eq_true hd]
  unfold opd
  rw [decide_eq_true hdn]
  rfl
theorem eB (hk : k < 16) (hkn : k < kn g) : bits (opk g d) 16 >>> (Int32.ofNat k &&& 31) &&& 1 = (if opn g (cd g k) d = true then 1 else 0) := by
  rw [sh_tb (by omega), tb_bits _ _ (by omega) _ (by omega), decide_eq_true hk]
  unfold opk
  rw [decide_eq_true hkn]
  rfl
theorem eC (hd : d < 12) (hdn : d < dn g) : bits (rgd g k) 12 >>> (Int32.ofNat d &&& 31) &&& 1 = (if rgt g d k = true then 1 else 0) := by
  rw [sh_tb (by omega), tb_bits _ _ (by omega) _ (by omega), decide_eq_true hd]
  unfold rgd
  rw [decide_eq_true hdn]
  rfl
theorem eD (hk : k < 16) : bits (rgt g d) 16 >>> (Int32.ofNat k &&& 31) &&& 1 = (if rgt g d k = true then 1 else 0) := by
  rw [sh_tb (by omega), tb_bits _ _ (by omega) _ (by omega), decide_eq_true hk]
  rfl
theorem lsb_s (hw : Wf g) (hk : k < kn g) : bits (lsb g) k ||| (g (39 + k) <<< (Int32.ofNat k &&& 31)) = bits (lsb g) (k + 1) := by
  rw [bits_s]
  unfold lsb
  rw [decide_eq_true hk, Bool.true_and]
  rcases wf_l hw k hk with h | h
  · rw [h, Int32.zero_shiftLeft, Int32.or_zero]
    rfl
  · rw [h]
    rfl
theorem lsb_16 (n16 : kn g ≤ 16) : bits (lsb g) (kn g) = bits (lsb g) 16 := by
  rw [bits_pad (lsb g) n16 (by omega)]
  refine bits_cong fun k _ => ?_
  unfold lsb
  cases decide (k < kn g) <;> rfl
theorem l244b (hS : SI g u ks t tx) (hd : d < dn g) {p s : Int32} : ∀ r k (F A : Nat → Nat → Int32), k + r = kn g → CI F A P g u ks t tx → ∃ F' A', CI F' A' P g u ks t tx ∧ Rv 244 122 [some (.ref 40), some (.int (Int32.ofNat d)), some (.int p), some (.int s), some (.int (bits (opk g d) 16)), some (.int (bits (lsb g) k)), some (.int 1), some (.int (Int32.ofNat k))] [] (en G c F A P W O) = Rv 244 212 [some (.ref 40), some (.int (Int32.ofNat d)), some (.int p), some (.int s), some (.int (bits (opk g d) 16)), some (.int (bits (lsb g) (kn g))), some (.int 1), some (.int (Int32.ofNat (kn g)))] [] (en G c F' A' P W O) := by
  have hw := hS.1
  have n16 := wf_n16 hw
  have m12 := wf_m12 hw
  intro r
  induction r with
  | zero =>
    intro k F A hk hC
    obtain ⟨F1, A1, C1, e1⟩ := w_5 (G := G) (c := c) (W := W) (O := O) hS hC
    refine ⟨F1, A1, C1, ?_⟩
    have hk : k = kn g := by omega
    subst hk
    rw [h244_122]
    simp only [↓e244_0, ↓e244_1, ↓e244_2, ↓e244_3, ↓e244_4, ↓e244_5, ↓e244_9, ↓e244_10, ↓e244_11, ↓e244_14, ↓e244_17, ↓e244_18, ↓e244_19, ↓e244_20, ↓e244_22, ↓e244_25, ↓e244_28, ↓e244_29, ↓e244_30, ↓e244_31, ↓e244_32, ↓e244_33, ↓e244_35, ↓e244_38, ↓e244_41, ↓e244_42, ↓e244_43, ↓e244_46, ↓e244_49, ↓e244_50, ↓e244_51, ↓e244_52, ↓e244_55, ↓e244_57, ↓e244_58, ↓e244_60, ↓e244_61, ↓e244_62, ↓e244_64, ↓e244_67, ↓e244_68, ↓e244_71, ↓e244_72, ↓e244_73, ↓e244_74, ↓e244_77, ↓e244_78, ↓e244_81, ↓e244_82, ↓e244_83, ↓e244_84, ↓e244_87, ↓e244_89, ↓e244_90, ↓e244_91, ↓e244_92, ↓e244_95, ↓e244_96, ↓e244_99, ↓e244_102, ↓e244_103, ↓e244_104, ↓e244_105, ↓e244_108, ↓e244_109, ↓e244_112, ↓e244_113, ↓e244_116, ↓e244_117, ↓e244_119, ↓e244_120, ↓e244_124, ↓e244_125, ↓e244_126, ↓e244_129, ↓e244_132, ↓e244_134, ↓e244_135, ↓e244_137, ↓e244_138, ↓e244_141, ↓e244_143, ↓e244_144, ↓e244_145, ↓e244_147, ↓e244_149, ↓e244_152, ↓e244_153, ↓e244_155, ↓e244_156, ↓e244_159, ↓e244_160, ↓e244_161, ↓e244_162, ↓e244_163, ↓e244_165, ↓e244_167, ↓e244_168, ↓e244_169, ↓e244_170, ↓e244_173, ↓e244_174, ↓e244_176, ↓e244_178, ↓e244_181, ↓e244_182, ↓e244_183, ↓e244_184, ↓e244_185, ↓e244_186, ↓e244_187, ↓e244_188, ↓e244_191, ↓e244_193, ↓e244_194, ↓e244_195, ↓e244_196, ↓e244_199, ↓e244_200, ↓e244_203, ↓e244_204, ↓e244_206, ↓e244_209, ↓ldI_0, ↓ldI_s, ↓ldA_0, ↓ldA_n, ↓ldA_s, ↓ldL_0, ↓ldL_s, ↓lst_0, ↓lst_s, ↓cal_v, ↓cal_x, ↓vts_s, ↓vts_n, ↓lpr_0, ↓lpr_i, ↓lpr_r, ↓lpr_n, ↓lpr_s, PA_41, ↓reduceIte, or_true, true_or, ↓ho_40, ↓gf_40_0, ↓gf_40_1, ↓gf_40_2, ↓gf_40_3, ↓ho_49, ↓gf_49_0, ↓gf_49_1, ↓gf_49_2, ↓gf_49_3, ↓pf_49_3, ↓ho_50, ↓gf_50_0, ↓gf_50_1, ↓gf_50_2, ↓pf_50_2, ↓gf_50_3, ↓pf_50_3, ↓gf_50_4, ↓pf_50_4, ↓gf_50_5, ↓pf_50_5, ↓gf_50_6, ↓pf_50_6, ↓ho_54, ↓gf_54_0, ↓gf_54_1, ↓pf_54_1, ↓ho_88, ↓gf_88_0, ↓gf_88_1, ↓pf_88_1, ↓gf_88_2, ↓pf_88_2, ↓gf_88_3, ↓pf_88_3, ↓gf_88_4, ↓pf_88_4, ↓gf_88_5, ↓pf_88_5, ↓gf_41_0, ↓pf_41_0, ↓gf_41_1, ↓pf_41_1, ↓gf_41_2, ↓gf_41_3, ↓pf_41_3, ↓gf_41_4, ↓gf_41_5, ↓gf_41_6, ↓gf_41_7, ↓gf_41_8, ↓pf_41_8, ↓gf_41_9, ↓pf_41_9, ↓gf_41_10, ↓gf_41_11, ↓ho_41, ↓gi_42, ↓pi_42, ↓gi_43, ↓pi_43, ↓gi_44, ↓pi_44, ↓gi_45, ↓pi_45, ↓gi_46, ↓pi_46, ↓gi_47, ↓pi_47, ↓gi_48, ↓pi_48, ↓gi_51, ↓pi_51, ↓gi_52, ↓pi_52, ↓gi_53, ↓pi_53, ↓gi_89, ↓pi_89, ↓gi_1, ↓gn_1, ↓gr_55, ↓pr_55, e1, Int32.lt_irrefl]
  | succ r ih =>
    intro k F A hk hC
    have hkn : k < kn g := by omega
    obtain ⟨F1, A1, C1, e1⟩ := w_5 (G := G) (c := c) (W := W) (O := O) hS hC
    have k2 : Rv 113 0 [some (.ref 40), some (.int (Int32.ofNat k)), some (.int 2)] [] (en G c F1 A1 P W O) = some (.inl (some (.int (g (39 + k)))), _) := c113y hS C1 hkn (w := 2) (by omega)
    have k5 : Rv 113 0 [some (.ref 40), some (.int (Int32.ofNat k)), some (.int 5)] [] (en G c F1 A1 P W O) = some (.inl (some (.int (bits (opd g (cd g k)) 12))), _) := c113y hS C1 hkn (w := 5) (by omega)
    have k6 : Rv 113 0 [some (.ref 40), some (.int (Int32.ofNat k)), some (.int 6)] [] (en G c F1 A1 P W O) = some (.inl (some (.int (bits (rgd g k) 12))), _) := c113y hS C1 hkn (w := 6) (by omega)
    obtain ⟨F2, A2, C2, e3⟩ := dq (G := G) (c := c) (W := W) (O := O) hS C1 hd (w := 3) (by omega)
    have e3 : Rv 114 0 [some (.ref 40), some (.int (Int32.ofNat d)), some (.int 3)] [] (en G c F1 A1 P W O) = some (.inl (some (.int (bits (rgt g d) 16))), _) := e3
    obtain ⟨F3, A3, C3, e4⟩ := ih (k + 1) F2 A2 (by omega) C2
    refine ⟨F3, A3, C3, ?_⟩
    rw [h244_122]
    simp only [↓e244_0, ↓e244_1, ↓e244_2, ↓e244_3, ↓e244_4, ↓e244_5, ↓e244_9, ↓e244_10, ↓e244_11, ↓e244_14, ↓e244_17, ↓e244_18, ↓e244_19, ↓e244_20, ↓e244_22, ↓e244_25, ↓e244_28, ↓e244_29, ↓e244_30, ↓e244_31, ↓e244_32, ↓e244_33, ↓e244_35, ↓e244_38, ↓e244_41, ↓e244_42, ↓e244_43, ↓e244_46, ↓e244_49, ↓e244_50, ↓e244_51, ↓e244_52, ↓e244_55, ↓e244_57, ↓e244_58, ↓e244_60, ↓e244_61, ↓e244_62, ↓e244_64, ↓e244_67, ↓e244_68, ↓e244_71, ↓e244_72, ↓e244_73, ↓e244_74, ↓e244_77, ↓e244_78, ↓e244_81, ↓e244_82, ↓e244_83, ↓e244_84, ↓e244_87, ↓e244_89, ↓e244_90, ↓e244_91, ↓e244_92, ↓e244_95, ↓e244_96, ↓e244_99, ↓e244_102, ↓e244_103, ↓e244_104, ↓e244_105, ↓e244_108, ↓e244_109, ↓e244_112, ↓e244_113, ↓e244_116, ↓e244_117, ↓e244_119, ↓e244_120, ↓e244_124, ↓e244_125, ↓e244_126, ↓e244_129, ↓e244_132, ↓e244_134, ↓e244_135, ↓e244_137, ↓e244_138, ↓e244_141, ↓e244_143, ↓e244_144, ↓e244_145, ↓e244_147, ↓e244_149, ↓e244_152, ↓e244_153, ↓e244_155, ↓e244_156, ↓e244_159, ↓e244_160, ↓e244_161, ↓e244_162, ↓e244_163, ↓e244_165, ↓e244_167, ↓e244_168, ↓e244_169, ↓e244_170, ↓e244_173, ↓e244_174, ↓e244_176, ↓e244_178, ↓e244_181, ↓e244_182, ↓e244_183, ↓e244_184, ↓e244_185, ↓e244_186, ↓e244_187, ↓e244_188, ↓e244_191, ↓e244_193, ↓e244_194, ↓e244_195, ↓e244_196, ↓e244_199, ↓e244_200, ↓e244_203, ↓e244_204, ↓e244_206, ↓e244_209, ↓ldI_0, ↓ldI_s, ↓ldA_0, ↓ldA_n, ↓ldA_s, ↓ldL_0, ↓ldL_s, ↓lst_0, ↓lst_s, ↓cal_v, ↓cal_x, ↓vts_s, ↓vts_n, ↓lpr_0, ↓lpr_i, ↓lpr_r, ↓lpr_n, ↓lpr_s, PA_41, ↓reduceIte, or_true, true_or, ↓ho_40, ↓gf_40_0, ↓gf_40_1, ↓gf_40_2, ↓gf_40_3, ↓ho_49, ↓gf_49_0, ↓gf_49_1, ↓gf_49_2, ↓gf_49_3, ↓pf_49_3, ↓ho_50, ↓gf_50_0, ↓gf_50_1, ↓gf_50_2, ↓pf_50_2, ↓gf_50_3, ↓pf_50_3, ↓gf_50_4, ↓pf_50_4, ↓gf_50_5, ↓pf_50_5, ↓gf_50_6, ↓pf_50_6, ↓ho_54, ↓gf_54_0, ↓gf_54_1, ↓pf_54_1, ↓ho_88, ↓gf_88_0, ↓gf_88_1, ↓pf_88_1, ↓gf_88_2, ↓pf_88_2, ↓gf_88_3, ↓pf_88_3, ↓gf_88_4, ↓pf_88_4, ↓gf_88_5, ↓pf_88_5, ↓gf_41_0, ↓pf_41_0, ↓gf_41_1, ↓pf_41_1, ↓gf_41_2, ↓gf_41_3, ↓pf_41_3, ↓gf_41_4, ↓gf_41_5, ↓gf_41_6, ↓gf_41_7, ↓gf_41_8, ↓pf_41_8, ↓gf_41_9, ↓pf_41_9, ↓gf_41_10, ↓gf_41_11, ↓ho_41, ↓gi_42, ↓pi_42, ↓gi_43, ↓pi_43, ↓gi_44, ↓pi_44, ↓gi_45, ↓pi_45, ↓gi_46, ↓pi_46, ↓gi_47, ↓pi_47, ↓gi_48, ↓pi_48, ↓gi_51, ↓pi_51, ↓gi_52, ↓pi_52, ↓gi_53, ↓pi_53, ↓gi_89, ↓pi_89, ↓gi_1, ↓gn_1, ↓gr_55, ↓pr_55, e1, io_lt (show k < 2147483648 by omega) (show kn g < 2147483648 by omega), eq_true hkn, k2, k5, k6, e3, lsb_s hw hkn, one_ne, eA (k := k) (show d < 12 by omega) hd, eB (d := d) (show k < 16 by omega) hkn, eC (k := k) (show d < 12 by omega) hd, eD (g := g) (d := d) (show k < 16 by omega), io_succ]
    exact e4
theorem t244 (hS : SI g u ks t tx) (hC : CI F A P g u ks t tx) (hd : d < dn g) : ∃ F' A', CI F' A' P g u ks t tx ∧ Rv 244 0 [some (.ref 40), some (.int (Int32.ofNat d)), none, none, none, none, none, none] [] (en G c F A P W O) = some (.inl (some (.int 1)), en G c F' A' P W O) := by
  have hw := hS.1
  have n16 := wf_n16 hw
  have m12 := wf_m12 hw
  have c1 := cfo_le hw d
  have g1 := gho_le hw (show d < 12 by omega)
  obtain ⟨F1, A1, C1, e1⟩ := l244a (G := G) (c := c) (W := W) (O := O) hS hd (chn g) 0 F A (by omega) hC
  obtain ⟨F2, A2, C2, e2⟩ := dq (G := G) (c := c) (W := W) (O := O) hS C1 hd (w := 2) (by omega)
  have e2 : Rv 114 0 [some (.ref 40), some (.int (Int32.ofNat d)), some (.int 2)] [] (en G c F1 A1 P W O) = some (.inl (some (.int (bits (opk g d) 16))), _) := e2
  obtain ⟨F3, A3, C3, e3⟩ := dq (G := G) (c := c) (W := W) (O := O) hS C2 hd (w := 8) (by omega)
  have e3 : Rv 114 0 [some (.ref 40), some (.int (Int32.ofNat d)), some (.int 8)] [] (en G c F2 A2 P W O) = some (.inl (some (.int (Int32.ofNat (cfo g d)))), _) := e3
  obtain ⟨F4, A4, C4, e4⟩ := dq (G := G) (c := c) (W := W) (O := O) hS C3 hd (w := 1) (by omega)
  have e4 : Rv 114 0 [some (.ref 40), some (.int (Int32.ofNat d)), some (.int 1)] [] (en G c F3 A3 P W O) = some (.inl (some (.int (Int32.ofNat (pni g d)))), _) := e4
  obtain ⟨F5, A5, C5, e5⟩ := dq (G := G) (c := c) (W := W) (O := O) hS C4 hd (w := 4) (by omega)
  have e5 : Rv 114 0 [some (.ref 40), some (.int (Int32.ofNat d)), some (.int 4)] [] (en G c F4 A4 P W O) = some (.inl (some (.int (Int32.ofNat (wrk g d)))), _) := e5
  obtain ⟨F6, A6, C6, e6⟩ := dq (G := G) (c := c) (W := W) (O := O) hS C5 hd (w := 3) (by omega)
  have e6 : Rv 114 0 [some (.ref 40), some (.int (Int32.ofNat d)), some (.int 3)] [] (en G c F5 A5 P W O) = some (.inl (some (.int (bits (rgt g d) 16))), _) := e6
  obtain ⟨F7, A7, C7, e7⟩ := dq (G := G) (c := c) (W := W) (O := O) hS C6 hd (w := 5) (by omega)
  have e7 : Rv 114 0 [some (.ref 40), some (.int (Int32.ofNat d)), some (.int 5)] [] (en G c F6 A6 P W O) = some (.inl (some (.int (Int32.ofNat (gho g d)))), _) := e7
  obtain ⟨F8, A8, C8, e8⟩ := l244b (G := G) (c := c) (W := W) (O := O) hS hd (p := Int32.ofNat (cfo g d)) (s := Int32.ofNat (pni g d)) (kn g) 0 F7 A7 (by omega) C7
  obtain ⟨F9, A9, C9, e9⟩ := dq (G := G) (c := c) (W := W) (O := O) hS C8 hd (w := 3) (by omega)
  have e9 : Rv 114 0 [some (.ref 40), some (.int (Int32.ofNat d)), some (.int 3)] [] (en G c F8 A8 P W O) = some (.inl (some (.int (bits (rgt g d) 16))), _) := e9
  obtain ⟨F10, A10, C10, e10⟩ := dq (G := G) (c := c) (W := W) (O := O) hS C9 hd (w := 6) (by omega)
  have e10 : Rv 114 0 [some (.ref 40), some (.int (Int32.ofNat d)), some (.int 6)] [] (en G c F9 A9 P W O) = some (.inl (some (.int (if xps g d = true then 1 else 0))), _) := e10
  refine ⟨F10, A10, C10, ?_⟩
  have hx : bits (opk g d) 16 ^^^ bits (rgt g d) 16 = bits (fun k => opk g d k ^^ rgt g d k) 16 := bits_xor _ _ (by omega)
  have hx2 : cnt (tb (bits (fun k => opk g d k ^^ rgt g d k) 16)) 16 = wrk g d := cnt_tb _ (Nat.le_refl 16) (by omega)
  have hg : (Int32.ofNat (cfo g d) < Int32.ofNat (gho g d)) = False := by
    rw [io_lt (by omega) (by omega)]
    exact eq_false (by omega)
  have hE : bits (rgt g d) 16 &&& bits (lsb g) (kn g) = 0 := by
    rw [lsb_16 n16, bits_and _ _ (by omega), bits_eq0 (by omega)]
    intro k _
    unfold rgt
    cases lsb g k <;> simp
  have hX : bits (opk g d) 16 &&& bits (lsb g) (kn g) = bits (fun k => opk g d k && lsb g k) 16 := by
    rw [lsb_16 n16, bits_and _ _ (by omega)]
  have hX2 : (bits (fun k => opk g d k && lsb g k) 16 = 0) = (xps g d = false) := bits_ex _ (by omega)
  have e8 : Rv 244 122 [some (.ref 40), some (.int (Int32.ofNat d)), some (.int (Int32.ofNat (cfo g d))), some (.int (Int32.ofNat (pni g d))), some (.int (bits (opk g d) 16)), some (.int 0), some (.int 1), some (.int 0)] [] (en G c F7 A7 P W O) = _ := e8
  have e1 : Rv 244 7 [some (.ref 40), some (.int (Int32.ofNat d)), some (.int 1), some (.int 0), some (.int 0), none, none, none] [] (en G c F A P W O) = _ := e1
  simp only [↓e244_0, ↓e244_1, ↓e244_2, ↓e244_3, ↓e244_4, ↓e244_5, ↓ldI_0, ↓ldI_s, ↓ldA_0, ↓ldA_n, ↓ldA_s, ↓ldL_0, ↓ldL_s, ↓lst_0, ↓lst_s, ↓cal_v, ↓cal_x, ↓vts_s, ↓vts_n, ↓lpr_0, ↓lpr_i, ↓lpr_r, ↓lpr_n, ↓lpr_s, PA_41, ↓reduceIte, or_true, true_or, ↓ho_40, ↓gf_40_0, ↓gf_40_1, ↓gf_40_2, ↓gf_40_3, ↓ho_49, ↓gf_49_0, ↓gf_49_1, ↓gf_49_2, ↓gf_49_3, ↓pf_49_3, ↓ho_50, ↓gf_50_0, ↓gf_50_1, ↓gf_50_2, ↓pf_50_2, ↓gf_50_3, ↓pf_50_3, ↓gf_50_4, ↓pf_50_4, ↓gf_50_5, ↓pf_50_5, ↓gf_50_6, ↓pf_50_6, ↓ho_54, ↓gf_54_0, ↓gf_54_1, ↓pf_54_1, ↓ho_88, ↓gf_88_0, ↓gf_88_1, ↓pf_88_1, ↓gf_88_2, ↓pf_88_2, ↓gf_88_3, ↓pf_88_3, ↓gf_88_4, ↓pf_88_4, ↓gf_88_5, ↓pf_88_5, ↓gf_41_0, ↓pf_41_0, ↓gf_41_1, ↓pf_41_1, ↓gf_41_2, ↓gf_41_3, ↓pf_41_3, ↓gf_41_4, ↓gf_41_5, ↓gf_41_6, ↓gf_41_7, ↓gf_41_8, ↓pf_41_8, ↓gf_41_9, ↓pf_41_9, ↓gf_41_10, ↓gf_41_11, ↓ho_41, ↓gi_42, ↓pi_42, ↓gi_43, ↓pi_43, ↓gi_44, ↓pi_44, ↓gi_45, ↓pi_45, ↓gi_46, ↓pi_46, ↓gi_47, ↓pi_47, ↓gi_48, ↓pi_48, ↓gi_51, ↓pi_51, ↓gi_52, ↓pi_52, ↓gi_53, ↓pi_53, ↓gi_89, ↓pi_89, ↓gi_1, ↓gn_1, ↓gr_55, ↓pr_55]
  rw [e1]
  simp only [↓e244_49, ↓e244_50, ↓e244_51, ↓e244_0, ↓e244_1, ↓e244_2, ↓e244_3, ↓e244_4, ↓e244_5, ↓e244_9, ↓e244_10, ↓e244_11, ↓e244_14, ↓e244_17, ↓e244_18, ↓e244_19, ↓e244_20, ↓e244_22, ↓e244_25, ↓e244_28, ↓e244_29, ↓e244_30, ↓e244_31, ↓e244_32, ↓e244_33, ↓e244_35, ↓e244_38, ↓e244_41, ↓e244_42, ↓e244_43, ↓e244_46, ↓e244_49, ↓e244_50, ↓e244_51, ↓e244_52, ↓e244_55, ↓e244_57, ↓e244_58, ↓e244_60, ↓e244_61, ↓e244_62, ↓e244_64, ↓e244_67, ↓e244_68, ↓e244_71, ↓e244_72, ↓e244_73, ↓e244_74, ↓e244_77, ↓e244_78, ↓e244_81, ↓e244_82, ↓e244_83, ↓e244_84, ↓e244_87, ↓e244_89, ↓e244_90, ↓e244_91, ↓e244_92, ↓e244_95, ↓e244_96, ↓e244_99, ↓e244_102, ↓e244_103, ↓e244_104, ↓e244_105, ↓e244_108, ↓e244_109, ↓e244_112, ↓e244_113, ↓e244_116, ↓e244_117, ↓e244_119, ↓e244_120, ↓ldI_0, ↓ldI_s, ↓ldA_0, ↓ldA_n, ↓ldA_s, ↓ldL_0, ↓ldL_s, ↓lst_0, ↓lst_s, ↓cal_v, ↓cal_x, ↓vts_s, ↓vts_n, ↓lpr_0, ↓lpr_i, ↓lpr_r, ↓lpr_n, ↓lpr_s, PA_41, ↓reduceIte, or_true, true_or, ↓ho_40, ↓gf_40_0, ↓gf_40_1, ↓gf_40_2, ↓gf_40_3, ↓ho_49, ↓gf_49_0, ↓gf_49_1, ↓gf_49_2, ↓gf_49_3, ↓pf_49_3, ↓ho_50, ↓gf_50_0, ↓gf_50_1, ↓gf_50_2, ↓pf_50_2, ↓gf_50_3, ↓pf_50_3, ↓gf_50_4, ↓pf_50_4, ↓gf_50_5, ↓pf_50_5, ↓gf_50_6, ↓pf_50_6, ↓ho_54, ↓gf_54_0, ↓gf_54_1, ↓pf_54_1, ↓ho_88, ↓gf_88_0, ↓gf_88_1, ↓pf_88_1, ↓gf_88_2, ↓pf_88_2, ↓gf_88_3, ↓pf_88_3, ↓gf_88_4, ↓pf_88_4, ↓gf_88_5, ↓pf_88_5, ↓gf_41_0, ↓pf_41_0, ↓gf_41_1, ↓pf_41_1, ↓gf_41_2, ↓gf_41_3, ↓pf_41_3, ↓gf_41_4, ↓gf_41_5, ↓gf_41_6, ↓gf_41_7, ↓gf_41_8, ↓pf_41_8, ↓gf_41_9, ↓pf_41_9, ↓gf_41_10, ↓gf_41_11, ↓ho_41, ↓gi_42, ↓pi_42, ↓gi_43, ↓pi_43, ↓gi_44, ↓pi_44, ↓gi_45, ↓pi_45, ↓gi_46, ↓pi_46, ↓gi_47, ↓pi_47, ↓gi_48, ↓pi_48, ↓gi_51, ↓pi_51, ↓gi_52, ↓pi_52, ↓gi_53, ↓pi_53, ↓gi_89, ↓pi_89, ↓gi_1, ↓gn_1, ↓gr_55, ↓pr_55, e2, e3, e4, e5, e6, e7, hx, s240, hx2, hg]
  rw [e8]
  cases h : xps g d
  · simp only [↓e244_0, ↓e244_1, ↓e244_2, ↓e244_3, ↓e244_4, ↓e244_5, ↓e244_9, ↓e244_10, ↓e244_11, ↓e244_14, ↓e244_17, ↓e244_18, ↓e244_19, ↓e244_20, ↓e244_22, ↓e244_25, ↓e244_28, ↓e244_29, ↓e244_30, ↓e244_31, ↓e244_32, ↓e244_33, ↓e244_35, ↓e244_38, ↓e244_41, ↓e244_42, ↓e244_43, ↓e244_46, ↓e244_49, ↓e244_50, ↓e244_51, ↓e244_52, ↓e244_55, ↓e244_57, ↓e244_58, ↓e244_60, ↓e244_61, ↓e244_62, ↓e244_64, ↓e244_67, ↓e244_68, ↓e244_71, ↓e244_72, ↓e244_73, ↓e244_74, ↓e244_77, ↓e244_78, ↓e244_81, ↓e244_82, ↓e244_83, ↓e244_84, ↓e244_87, ↓e244_89, ↓e244_90, ↓e244_91, ↓e244_92, ↓e244_95, ↓e244_96, ↓e244_99, ↓e244_102, ↓e244_103, ↓e244_104, ↓e244_105, ↓e244_108, ↓e244_109, ↓e244_112, ↓e244_113, ↓e244_116, ↓e244_117, ↓e244_119, ↓e244_120, ↓e244_124, ↓e244_125, ↓e244_126, ↓e244_129, ↓e244_132, ↓e244_134, ↓e244_135, ↓e244_137, ↓e244_138, ↓e244_141, ↓e244_143, ↓e244_144, ↓e244_145, ↓e244_147, ↓e244_149, ↓e244_152, ↓e244_153, ↓e244_155, ↓e244_156, ↓e244_159, ↓e244_160, ↓e244_161, ↓e244_162, ↓e244_163, ↓e244_165, ↓e244_167, ↓e244_168, ↓e244_169, ↓e244_170, ↓e244_173, ↓e244_174, ↓e244_176, ↓e244_178, ↓e244_181, ↓e244_182, ↓e244_183, ↓e244_184, ↓e244_185, ↓e244_186, ↓e244_187, ↓e244_188, ↓e244_191, ↓e244_193, ↓e244_194, ↓e244_195, ↓e244_196, ↓e244_199, ↓e244_200, ↓e244_203, ↓e244_204, ↓e244_206, ↓e244_209, ↓e244_212, ↓e244_214, ↓e244_217, ↓e244_218, ↓e244_219, ↓e244_220, ↓e244_223, ↓e244_225, ↓e244_226, ↓e244_229, ↓e244_230, ↓e244_231, ↓e244_233, ↓e244_236, ↓e244_238, ↓e244_240, ↓e244_241, ↓e244_244, ↓e244_245, ↓e244_248, ↓e244_249, ↓e244_252, ↓e244_253, ↓e244_256, ↓e244_257, ↓ldI_0, ↓ldI_s, ↓ldA_0, ↓ldA_n, ↓ldA_s, ↓ldL_0, ↓ldL_s, ↓lst_0, ↓lst_s, ↓cal_v, ↓cal_x, ↓vts_s, ↓vts_n, ↓lpr_0, ↓lpr_i, ↓lpr_r, ↓lpr_n, ↓lpr_s, PA_41, ↓reduceIte, or_true, true_or, ↓ho_40, ↓gf_40_0, ↓gf_40_1, ↓gf_40_2, ↓gf_40_3, ↓ho_49, ↓gf_49_0, ↓gf_49_1, ↓gf_49_2, ↓gf_49_3, ↓pf_49_3, ↓ho_50, ↓gf_50_0, ↓gf_50_1, ↓gf_50_2, ↓pf_50_2, ↓gf_50_3, ↓pf_50_3, ↓gf_50_4, ↓pf_50_4, ↓gf_50_5, ↓pf_50_5, ↓gf_50_6, ↓pf_50_6, ↓ho_54, ↓gf_54_0, ↓gf_54_1, ↓pf_54_1, ↓ho_88, ↓gf_88_0, ↓gf_88_1, ↓pf_88_1, ↓gf_88_2, ↓pf_88_2, ↓gf_88_3, ↓pf_88_3, ↓gf_88_4, ↓pf_88_4, ↓gf_88_5, ↓pf_88_5, ↓gf_41_0, ↓pf_41_0, ↓gf_41_1, ↓pf_41_1, ↓gf_41_2, ↓gf_41_3, ↓pf_41_3, ↓gf_41_4, ↓gf_41_5, ↓gf_41_6, ↓gf_41_7, ↓gf_41_8, ↓pf_41_8, ↓gf_41_9, ↓pf_41_9, ↓gf_41_10, ↓gf_41_11, ↓ho_41, ↓gi_42, ↓pi_42, ↓gi_43, ↓pi_43, ↓gi_44, ↓pi_44, ↓gi_45, ↓pi_45, ↓gi_46, ↓pi_46, ↓gi_47, ↓pi_47, ↓gi_48, ↓pi_48, ↓gi_51, ↓pi_51, ↓gi_52, ↓pi_52, ↓gi_53, ↓pi_53, ↓gi_89, ↓pi_89, ↓gi_1, ↓gn_1, ↓gr_55, ↓pr_55, one_ne, e9, hE, e10, hX, hX2, h, Bool.false_eq_true]
  · simp only [↓e244_0, ↓e244_1, ↓e244_2, ↓e244_3, ↓e244_4, ↓e244_5, ↓e244_9, ↓e244_10, ↓e244_11, ↓e244_14, ↓e244_17, ↓e244_18, ↓e244_19, ↓e244_20, ↓e244_22, ↓e244_25, ↓e244_28, ↓e244_29, ↓e244_30, ↓e244_31, ↓e244_32, ↓e244_33, ↓e244_35, ↓e244_38, ↓e244_41, ↓e244_42, ↓e244_43, ↓e244_46, ↓e244_49, ↓e244_50, ↓e244_51, ↓e244_52, ↓e244_55, ↓e244_57, ↓e244_58, ↓e244_60, ↓e244_61, ↓e244_62, ↓e244_64, ↓e244_67, ↓e244_68, ↓e244_71, ↓e244_72, ↓e244_73, ↓e244_74, ↓e244_77, ↓e244_78, ↓e244_81, ↓e244_82, ↓e244_83, ↓e244_84, ↓e244_87, ↓e244_89, ↓e244_90, ↓e244_91, ↓e244_92, ↓e244_95, ↓e244_96, ↓e244_99, ↓e244_102, ↓e244_103, ↓e244_104, ↓e244_105, ↓e244_108, ↓e244_109, ↓e244_112, ↓e244_113, ↓e244_116, ↓e244_117, ↓e244_119, ↓e244_120, ↓e244_124, ↓e244_125, ↓e244_126, ↓e244_129, ↓e244_132, ↓e244_134, ↓e244_135, ↓e244_137, ↓e244_138, ↓e244_141, ↓e244_143, ↓e244_144, ↓e244_145, ↓e244_147, ↓e244_149, ↓e244_152, ↓e244_153, ↓e244_155, ↓e244_156, ↓e244_159, ↓e244_160, ↓e244_161, ↓e244_162, ↓e244_163, ↓e244_165, ↓e244_167, ↓e244_168, ↓e244_169, ↓e244_170, ↓e244_173, ↓e244_174, ↓e244_176, ↓e244_178, ↓e244_181, ↓e244_182, ↓e244_183, ↓e244_184, ↓e244_185, ↓e244_186, ↓e244_187, ↓e244_188, ↓e244_191, ↓e244_193, ↓e244_194, ↓e244_195, ↓e244_196, ↓e244_199, ↓e244_200, ↓e244_203, ↓e244_204, ↓e244_206, ↓e244_209, ↓e244_212, ↓e244_214, ↓e244_217, ↓e244_218, ↓e244_219, ↓e244_220, ↓e244_223, ↓e244_225, ↓e244_226, ↓e244_229, ↓e244_230, ↓e244_231, ↓e244_233, ↓e244_236, ↓e244_238, ↓e244_240, ↓e244_241, ↓e244_244, ↓e244_245, ↓e244_248, ↓e244_249, ↓e244_252, ↓e244_253, ↓e244_256, ↓e244_257, ↓ldI_0, ↓ldI_s, ↓ldA_0, ↓ldA_n, ↓ldA_s, ↓ldL_0, ↓ldL_s, ↓lst_0, ↓lst_s, ↓cal_v, ↓cal_x, ↓vts_s, ↓vts_n, ↓lpr_0, ↓lpr_i, ↓lpr_r, ↓lpr_n, ↓lpr_s, PA_41, ↓reduceIte, or_true, true_or, ↓ho_40, ↓gf_40_0, ↓gf_40_1, ↓gf_40_2, ↓gf_40_3, ↓ho_49, ↓gf_49_0, ↓gf_49_1, ↓gf_49_2, ↓gf_49_3, ↓pf_49_3, ↓ho_50, ↓gf_50_0, ↓gf_50_1, ↓gf_50_2, ↓pf_50_2, ↓gf_50_3, ↓pf_50_3, ↓gf_50_4, ↓pf_50_4, ↓gf_50_5, ↓pf_50_5, ↓gf_50_6, ↓pf_50_6, ↓ho_54, ↓gf_54_0, ↓gf_54_1, ↓pf_54_1, ↓ho_88, ↓gf_88_0, ↓gf_88_1, ↓pf_88_1, ↓gf_88_2, ↓pf_88_2, ↓gf_88_3, ↓pf_88_3, ↓gf_88_4, ↓pf_88_4, ↓gf_88_5, ↓pf_88_5, ↓gf_41_0, ↓pf_41_0, ↓gf_41_1, ↓pf_41_1, ↓gf_41_2, ↓gf_41_3, ↓pf_41_3, ↓gf_41_4, ↓gf_41_5, ↓gf_41_6, ↓gf_41_7, ↓gf_41_8, ↓pf_41_8, ↓gf_41_9, ↓pf_41_9, ↓gf_41_10, ↓gf_41_11, ↓ho_41, ↓gi_42, ↓pi_42, ↓gi_43, ↓pi_43, ↓gi_44, ↓pi_44, ↓gi_45, ↓pi_45, ↓gi_46, ↓pi_46, ↓gi_47, ↓pi_47, ↓gi_48, ↓pi_48, ↓gi_51, ↓pi_51, ↓gi_52, ↓pi_52, ↓gi_53, ↓pi_53, ↓gi_89, ↓pi_89, ↓gi_1, ↓gn_1, ↓gr_55, ↓pr_55, one_ne, e9, hE, e10, hX, hX2, h, Bool.true_eq_false]
end ZT
