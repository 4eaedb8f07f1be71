/-! the two sides together -/
theorem ri_frC {F A F' A' : Nat → Nat → Int32} {g : Nat → Int32} {u t : Nat} {ks : Nat → Nat → Int32} {tx : Nat → Int32} (h : frC F A F' A') (hI : RI F A g u ks t tx) : RI F' A' g u ks t tx := ri_cg hI (by rw [h.1]) (by rw [h.1]) (h.2.1.trans hI.1) h.2.2.1 h.2.2.2
theorem ci_frR {F A F' A' : Nat → Nat → Int32} {P : Nat → Nat} {g : Nat → Int32} {u t : Nat} {ks : Nat → Nat → Int32} {tx : Nat → Int32} (hu : u ≤ 4) (hC : CI F A P g u ks t tx) (h : frR F A F' A') : CI F' A' P g u ks t tx := by
  obtain ⟨hR, hP, hU, hK, hT, hX, hL⟩ := hC
  refine ⟨rp_cg hR (h.1 41 (by omega)) (fun i a1 a2 => h.2 _ (by omega)), hP, by rw [h.1 54 (by omega)]; exact hU, fun j hj => ?_, by rw [h.1 88 (by omega)]; exact hT, fun i hi => by rw [h.2 89 (by omega)]; exact hX i hi, ?_⟩
  · have hr := ps_rg (hP.1 j (by omega))
    exact rp_cg (hK j hj) (h.1 _ (by omega)) fun i a1 a2 => h.2 _ (by omega)
  · have f50 : F' 50 = F 50 := h.1 50 (by omega)
    rcases hL with e | ⟨g0, a0, a1, a2, a3, a4, a5⟩
    · exact Or.inl (by rw [f50]; exact e)
    · exact Or.inr ⟨g0, a0, by rw [f50]; exact a1, by rw [f50]; exact a2, by rw [f50]; exact a3, by rw [f50]; exact a4, LL_cg a5 rfl rfl rfl rfl (by rw [f50]) (h.2 51 (by omega)) (h.2 52 (by omega))⟩
theorem zl1 : zin 0 1 = true := by decide
theorem lgc {x : Int64} : lg_cmp x x = 0 := by
  unfold lg_cmp
  simp
section ZT
variable {G : zG} {c : Nat × Nat × Bool} {F A : Nat → Nat → Int32} {P : Nat → Nat} {W : Value} {O : Nat → Int64} {x y j k d e v m s : Int32} {p q i n t u w o a b : Nat} {g : Nat → Int32} {ks : Nat → Nat → Int32} {tx : Nat → Int32}
theorem c102y (hS : SI g u ks t tx) (hC : CI F A P g u ks t tx) (ha : 2 ≤ a ∧ a ≤ 4) (hb : 2 ≤ b ∧ b ≤ 6) : ∃ F' A' P', frC F A F' A' ∧ CI F' A' P' (bgn g a b) (svu u) (svk u g ks) t tx ∧ Rv 102 0 [some (.ref 40), some (.int (Int32.ofNat a)), some (.int (Int32.ofNat b))] [] (en G c F A P W O) = some (.inl (some (.int (g 6))), en G c F' A' P' W O) := by
  have hu := svu_le hS.2.1
  obtain ⟨F1, A1, P1, hf, hC1, e98⟩ := ci_save (G := G) (c := c) (W := W) (O := O) hS hC
  have hR1 := hC1.1
  obtain ⟨hC2, hf2⟩ := ci_op hu hC1 (fun b hb => by rw [u2_ne hb, u2_ne hb, u2_ne hb, u2_ne hb, u2_ne hb]) (fun b hb => rfl) (rp_bgn (a := a) (b := b) hR1)
  refine ⟨_, _, P1, frC_t hf hf2, hC2, ?_⟩
  have e1 : (Int32.ofNat a < 2) = False := by rw [show (2 : Int32) = Int32.ofNat 2 from rfl, io_lt (by omega) (by omega)]; exact eq_false (by omega)
  have e2 : ((4 : Int32) < Int32.ofNat a) = False := by rw [show (4 : Int32) = Int32.ofNat 4 from rfl, io_lt (by omega) (by omega)]; exact eq_false (by omega)
  have e3 : (Int32.ofNat b < 2) = False := by rw [show (2 : Int32) = Int32.ofNat 2 from rfl, io_lt (by omega) (by omega)]; exact eq_false (by omega)
  have e4 : ((6 : Int32) < Int32.ofNat b) = False := by rw [show (6 : Int32) = Int32.ofNat 6 from rfl, io_lt (by omega) (by omega)]; exact eq_false (by omega)
  simp only [↓e102_0, ↓e102_1, ↓e102_2, ↓e102_5, ↓e102_6, ↓e102_7, ↓e102_10, ↓e102_11, ↓e102_12, ↓e102_15, ↓e102_16, ↓e102_18, ↓e102_21, ↓e102_31, ↓e102_32, ↓e102_35, ↓e102_36, ↓e102_39, ↓e102_42, ↓e102_43, ↓e102_46, ↓e102_47, ↓e102_48, ↓e102_51, ↓ldI_0, ↓ldI_s, ↓ldA_0, ↓ldA_n, ↓ldA_s, ↓ldL_0, ↓ldL_s, ↓lst_0, ↓lst_s, ↓cal_v, ↓cal_x, ↓vts_s, ↓vts_n, ↓lpr_0, ↓lpr_i, ↓lpr_r, ↓lpr_n, ↓lpr_s, PA_41, ↓reduceIte, or_true, true_or, ↓ho_40, ↓gf_40_0, ↓gf_40_1, ↓gf_40_2, ↓gf_40_3, ↓ho_49, ↓gf_49_0, ↓gf_49_1, ↓gf_49_2, ↓gf_49_3, ↓pf_49_3, ↓ho_50, ↓gf_50_0, ↓gf_50_1, ↓gf_50_2, ↓pf_50_2, ↓gf_50_3, ↓pf_50_3, ↓gf_50_4, ↓pf_50_4, ↓gf_50_5, ↓pf_50_5, ↓gf_50_6, ↓pf_50_6, ↓ho_54, ↓gf_54_0, ↓gf_54_1, ↓pf_54_1, ↓ho_88, ↓gf_88_0, ↓gf_88_1, ↓pf_88_1, ↓gf_88_2, ↓pf_88_2, ↓gf_88_3, ↓pf_88_3, ↓gf_88_4, ↓pf_88_4, ↓gf_88_5, ↓pf_88_5, ↓ho_90, ↓gf_90_0, ↓gf_90_1, ↓gf_90_2, ↓pf_90_2, ↓gf_90_3, ↓pf_90_3, ↓gf_90_4, ↓gf_90_5, ↓gf_90_6, ↓pf_90_6, ↓gf_90_7, ↓pf_90_7, ↓gf_90_8, ↓pf_90_8, ↓gf_90_9, ↓pf_90_9, ↓gf_90_10, ↓pf_90_10, ↓gf_90_11, ↓gf_41_0, ↓pf_41_0, ↓gf_41_1, ↓pf_41_1, ↓gf_41_2, ↓gf_41_3, ↓pf_41_3, ↓gf_41_4, ↓gf_41_5, ↓gf_41_6, ↓gf_41_7, ↓gf_41_8, ↓pf_41_8, ↓gf_41_9, ↓pf_41_9, ↓gf_41_10, ↓gf_41_11, ↓ho_41, ↓gi_42, ↓pi_42, ↓gi_43, ↓pi_43, ↓gi_44, ↓pi_44, ↓gi_45, ↓pi_45, ↓gi_46, ↓pi_46, ↓gi_47, ↓pi_47, ↓gi_48, ↓pi_48, ↓gi_51, ↓pi_51, ↓gi_52, ↓pi_52, ↓gi_53, ↓pi_53, ↓gi_91, ↓pi_91, ↓gi_92, ↓pi_92, ↓gi_93, ↓pi_93, ↓gi_95, ↓pi_95, ↓gi_89, ↓pi_89, ↓gi_94, ↓pi_94, ↓gi_1, ↓gi_3, ↓gn_1, ↓gn_2, ↓gr_2, ↓gr_55, ↓pr_55, ↓gl_96, ↓pl_96, ↓gf_w0, ↓gf_w1, ↓gw_w, ↓gf_s0, ↓gf_s1, ↓ho_s, ↓gn_b, ↓gi_b, e1, e2, e3, e4, e98, t47 hR1]
theorem out_lt {l h : Nat} (hl : l < 1000) (hh : h < 1000) (e : out x l h) : x < Int32.ofNat l ∨ Int32.ofNat h < x := by
  by_cases h1 : x < Int32.ofNat l
  · exact Or.inl h1
  · right
    by_cases h0 : x < 0
    · exfalso
      apply h1
      rw [Int32.lt_iff_toInt_lt] at h0 ⊢
      rw [Int32.toInt_ofNat_of_lt (by omega)]
      have : (0 : Int32).toInt = 0 := rfl
      omega
    · obtain ⟨a, ha, rfl⟩ := io_of h0
      rw [io_lt ha (by omega)] at h1
      rw [io_lt (by omega) ha]
      have := e a (by omega)
      by_cases h2 : a ≤ h
      · exact absurd rfl (this h2)
      · omega
theorem c102n (h : out x 2 4 ∨ out y 2 6) : Rv 102 0 [some (.ref 40), some (.int x), some (.int y)] [] (en G c F A P W O) = some (.inr "java/lang/IllegalArgumentException", en G (c.1 + 1, c.2.1 + 6, true) F A P W O) := by
  have hz : some (Sum.inr "java/lang/IllegalArgumentException", zthw (en G c F A P W O)) = (some (.inr "java/lang/IllegalArgumentException", en G (c.1 + 1, c.2.1 + 6, true) F A P W O) : Option zR) := rfl
  have e : ∀ z, Rv 102 21 [some (.ref 40), some (.int x), some (.int y)] [] z = some (.inr "java/lang/IllegalArgumentException", zthw z) := fun z => e102_21
  by_cases h1 : x < 2
  · simp only [↓e102_0, ↓e102_1, ↓e102_2, ↓e102_5, ↓e102_6, ↓e102_7, ↓e102_10, ↓e102_11, ↓e102_12, ↓e102_15, ↓e102_16, ↓e102_18, ↓e102_21, ↓e102_31, ↓e102_32, ↓e102_35, ↓e102_36, ↓e102_39, ↓e102_42, ↓e102_43, ↓e102_46, ↓e102_47, ↓e102_48, ↓e102_51, ↓ldI_0, ↓ldI_s, ↓ldA_0, ↓ldA_n, ↓ldA_s, ↓ldL_0, ↓ldL_s, ↓lst_0, ↓lst_s, ↓cal_v, ↓cal_x, ↓vts_s, ↓vts_n, ↓lpr_0, ↓lpr_i, ↓lpr_r, ↓lpr_n, ↓lpr_s, PA_41, ↓reduceIte, or_true, true_or, ↓ho_40, ↓gf_40_0, ↓gf_40_1, ↓gf_40_2, ↓gf_40_3, ↓ho_49, ↓gf_49_0, ↓gf_49_1, ↓gf_49_2, ↓gf_49_3, ↓pf_49_3, ↓ho_50, ↓gf_50_0, ↓gf_50_1, ↓gf_50_2, ↓pf_50_2, ↓gf_50_3, ↓pf_50_3, ↓gf_50_4, ↓pf_50_4, ↓gf_50_5, ↓pf_50_5, ↓gf_50_6, ↓pf_50_6, ↓ho_54, ↓gf_54_0, ↓gf_54_1, ↓pf_54_1, ↓ho_88, ↓gf_88_0, ↓gf_88_1, ↓pf_88_1, ↓gf_88_2, ↓pf_88_2, ↓gf_88_3, ↓pf_88_3, ↓gf_88_4, ↓pf_88_4, ↓gf_88_5, ↓pf_88_5, ↓ho_90, ↓gf_90_0, ↓gf_90_1, ↓gf_90_2, ↓pf_90_2, ↓gf_90_3, ↓pf_90_3, ↓gf_90_4, ↓gf_90_5, ↓gf_90_6, ↓pf_90_6, ↓gf_90_7, ↓pf_90_7, ↓gf_90_8, ↓pf_90_8, ↓gf_90_9, ↓pf_90_9, ↓gf_90_10, ↓pf_90_10, ↓gf_90_11, ↓gf_41_0, ↓pf_41_0, ↓gf_41_1, ↓pf_41_1, ↓gf_41_2, ↓gf_41_3, ↓pf_41_3, ↓gf_41_4, ↓gf_41_5, ↓gf_41_6, ↓gf_41_7, ↓gf_41_8, ↓pf_41_8, ↓gf_41_9, ↓pf_41_9, ↓gf_41_10, ↓gf_41_11, ↓ho_41, ↓gi_42, ↓pi_42, ↓gi_43, ↓pi_43, ↓gi_44, ↓pi_44, ↓gi_45, ↓pi_45, ↓gi_46, ↓pi_46, ↓gi_47, ↓pi_47, ↓gi_48, ↓pi_48, ↓gi_51, ↓pi_51, ↓gi_52, ↓pi_52, ↓gi_53, ↓pi_53, ↓gi_91, ↓pi_91, ↓gi_92, ↓pi_92, ↓gi_93, ↓pi_93, ↓gi_95, ↓pi_95, ↓gi_89, ↓pi_89, ↓gi_94, ↓pi_94, ↓gi_1, ↓gi_3, ↓gn_1, ↓gn_2, ↓gr_2, ↓gr_55, ↓pr_55, ↓gl_96, ↓pl_96, ↓gf_w0, ↓gf_w1, ↓gw_w, ↓gf_s0, ↓gf_s1, ↓ho_s, ↓gn_b, ↓gi_b, h1]; exact hz
  · by_cases h2 : (4 : Int32) < x
    · simp only [↓e102_0, ↓e102_1, ↓e102_2, ↓e102_5, ↓e102_6, ↓e102_7, ↓e102_10, ↓e102_11, ↓e102_12, ↓e102_15, ↓e102_16, ↓e102_18, ↓e102_21, ↓e102_31, ↓e102_32, ↓e102_35, ↓e102_36, ↓e102_39, ↓e102_42, ↓e102_43, ↓e102_46, ↓e102_47, ↓e102_48, ↓e102_51, ↓ldI_0, ↓ldI_s, ↓ldA_0, ↓ldA_n, ↓ldA_s, ↓ldL_0, ↓ldL_s, ↓lst_0, ↓lst_s, ↓cal_v, ↓cal_x, ↓vts_s, ↓vts_n, ↓lpr_0, ↓lpr_i, ↓lpr_r, ↓lpr_n, ↓lpr_s, PA_41, ↓reduceIte, or_true, true_or, ↓ho_40, ↓gf_40_0, ↓gf_40_1, ↓gf_40_2, ↓gf_40_3, ↓ho_49, ↓gf_49_0, ↓gf_49_1, ↓gf_49_2, ↓gf_49_3, ↓pf_49_3, ↓ho_50, ↓gf_50_0, ↓gf_50_1, ↓gf_50_2, ↓pf_50_2, ↓gf_50_3, ↓pf_50_3, ↓gf_50_4, ↓pf_50_4, ↓gf_50_5, ↓pf_50_5, ↓gf_50_6, ↓pf_50_6, ↓ho_54, ↓gf_54_0, ↓gf_54_1, ↓pf_54_1, ↓ho_88, ↓gf_88_0, ↓gf_88_1, ↓pf_88_1, ↓gf_88_2, ↓pf_88_2, ↓gf_88_3, ↓pf_88_3, ↓gf_88_4, ↓pf_88_4, ↓gf_88_5, ↓pf_88_5, ↓ho_90, ↓gf_90_0, ↓gf_90_1, ↓gf_90_2, ↓pf_90_2, ↓gf_90_3, ↓pf_90_3, ↓gf_90_4, ↓gf_90_5, ↓gf_90_6, ↓pf_90_6, ↓gf_90_7, ↓pf_90_7, ↓gf_90_8, ↓pf_90_8, ↓gf_90_9, ↓pf_90_9, ↓gf_90_10, ↓pf_90_10, ↓gf_90_11, ↓gf_41_0, ↓pf_41_0, ↓gf_41_1, ↓pf_41_1, ↓gf_41_2, ↓gf_41_3, ↓pf_41_3, ↓gf_41_4, ↓gf_41_5, ↓gf_41_6, ↓gf_41_7, ↓gf_41_8, ↓pf_41_8, ↓gf_41_9, ↓pf_41_9, ↓gf_41_10, ↓gf_41_11, ↓ho_41, ↓gi_42, ↓pi_42, ↓gi_43, ↓pi_43, ↓gi_44, ↓pi_44, ↓gi_45, ↓pi_45, ↓gi_46, ↓pi_46, ↓gi_47, ↓pi_47, ↓gi_48, ↓pi_48, ↓gi_51, ↓pi_51, ↓gi_52, ↓pi_52, ↓gi_53, ↓pi_53, ↓gi_91, ↓pi_91, ↓gi_92, ↓pi_92, ↓gi_93, ↓pi_93, ↓gi_95, ↓pi_95, ↓gi_89, ↓pi_89, ↓gi_94, ↓pi_94, ↓gi_1, ↓gi_3, ↓gn_1, ↓gn_2, ↓gr_2, ↓gr_55, ↓pr_55, ↓gl_96, ↓pl_96, ↓gf_w0, ↓gf_w1, ↓gw_w, ↓gf_s0, ↓gf_s1, ↓ho_s, ↓gn_b, ↓gi_b, h1, h2]; exact hz
    · have h3 : out y 2 6 := by
        rcases h with h | h
        · rcases out_lt (by omega) (by omega) h with h | h
          · exact absurd h h1
          · exact absurd h h2
        · exact h
      by_cases h4 : y < 2
      · simp only [↓e102_0, ↓e102_1, ↓e102_2, ↓e102_5, ↓e102_6, ↓e102_7, ↓e102_10, ↓e102_11, ↓e102_12, ↓e102_15, ↓e102_16, ↓e102_18, ↓e102_21, ↓e102_31, ↓e102_32, ↓e102_35, ↓e102_36, ↓e102_39, ↓e102_42, ↓e102_43, ↓e102_46, ↓e102_47, ↓e102_48, ↓e102_51, ↓ldI_0, ↓ldI_s, ↓ldA_0, ↓ldA_n, ↓ldA_s, ↓ldL_0, ↓ldL_s, ↓lst_0, ↓lst_s, ↓cal_v, ↓cal_x, ↓vts_s, ↓vts_n, ↓lpr_0, ↓lpr_i, ↓lpr_r, ↓lpr_n, ↓lpr_s, PA_41, ↓reduceIte, or_true, true_or, ↓ho_40, ↓gf_40_0, ↓gf_40_1, ↓gf_40_2, ↓gf_40_3, ↓ho_49, ↓gf_49_0, ↓gf_49_1, ↓gf_49_2, ↓gf_49_3, ↓pf_49_3, ↓ho_50, ↓gf_50_0, ↓gf_50_1, ↓gf_50_2, ↓pf_50_2, ↓gf_50_3, ↓pf_50_3, ↓gf_50_4, ↓pf_50_4, ↓gf_50_5, ↓pf_50_5, ↓gf_50_6, ↓pf_50_6, ↓ho_54, ↓gf_54_0, ↓gf_54_1, ↓pf_54_1, ↓ho_88, ↓gf_88_0, ↓gf_88_1, ↓pf_88_1, ↓gf_88_2, ↓pf_88_2, ↓gf_88_3, ↓pf_88_3, ↓gf_88_4, ↓pf_88_4, ↓gf_88_5, ↓pf_88_5, ↓ho_90, ↓gf_90_0, ↓gf_90_1, ↓gf_90_2, ↓pf_90_2, ↓gf_90_3, ↓pf_90_3, ↓gf_90_4, ↓gf_90_5, ↓gf_90_6, ↓pf_90_6, ↓gf_90_7, ↓pf_90_7, ↓gf_90_8, ↓pf_90_8, ↓gf_90_9, ↓pf_90_9, ↓gf_90_10, ↓pf_90_10, ↓gf_90_11, ↓gf_41_0, ↓pf_41_0, ↓gf_41_1, ↓pf_41_1, ↓gf_41_2, ↓gf_41_3, ↓pf_41_3, ↓gf_41_4, ↓gf_41_5, ↓gf_41_6, ↓gf_41_7, ↓gf_41_8, ↓pf_41_8, ↓gf_41_9, ↓pf_41_9, ↓gf_41_10, ↓gf_41_11, ↓ho_41, ↓gi_42, ↓pi_42, ↓gi_43, ↓pi_43, ↓gi_44, ↓pi_44, ↓gi_45, ↓pi_45, ↓gi_46, ↓pi_46, ↓gi_47, ↓pi_47, ↓gi_48, ↓pi_48, ↓gi_51, ↓pi_51, ↓gi_52, ↓pi_52, ↓gi_53, ↓pi_53, ↓gi_91, ↓pi_91, ↓gi_92, ↓pi_92, ↓gi_93, ↓pi_93, ↓gi_95, ↓pi_95, ↓gi_89, ↓pi_89, ↓gi_94, ↓pi_94, ↓gi_1, ↓gi_3, ↓gn_1, ↓gn_2, ↓gr_2, ↓gr_55, ↓pr_55, ↓gl_96, ↓pl_96, ↓gf_w0, ↓gf_w1, ↓gw_w, ↓gf_s0, ↓gf_s1, ↓ho_s, ↓gn_b, ↓gi_b, h1, h2, h4]; exact hz
      · rcases out_lt (by omega) (by omega) h3 with h5 | h5
        · exact absurd h5 h4
        · have h5 : (6 : Int32) < y := h5
          simp only [↓e102_0, ↓e102_1, ↓e102_2, ↓e102_5, ↓e102_6, ↓e102_7, ↓e102_10, ↓e102_11, ↓e102_12, ↓e102_15, ↓e102_16, ↓e102_18, ↓e102_21, ↓e102_31, ↓e102_32, ↓e102_35, ↓e102_36, ↓e102_39, ↓e102_42, ↓e102_43, ↓e102_46, ↓e102_47, ↓e102_48, ↓e102_51, ↓ldI_0, ↓ldI_s, ↓ldA_0, ↓ldA_n, ↓ldA_s, ↓ldL_0, ↓ldL_s, ↓lst_0, ↓lst_s, ↓cal_v, ↓cal_x, ↓vts_s, ↓vts_n, ↓lpr_0, ↓lpr_i, ↓lpr_r, ↓lpr_n, ↓lpr_s, PA_41, ↓reduceIte, or_true, true_or, ↓ho_40, ↓gf_40_0, ↓gf_40_1, ↓gf_40_2, ↓gf_40_3, ↓ho_49, ↓gf_49_0, ↓gf_49_1, ↓gf_49_2, ↓gf_49_3, ↓pf_49_3, ↓ho_50, ↓gf_50_0, ↓gf_50_1, ↓gf_50_2, ↓pf_50_2, ↓gf_50_3, ↓pf_50_3, ↓gf_50_4, ↓pf_50_4, ↓gf_50_5, ↓pf_50_5, ↓gf_50_6, ↓pf_50_6, ↓ho_54, ↓gf_54_0, ↓gf_54_1, ↓pf_54_1, ↓ho_88, ↓gf_88_0, ↓gf_88_1, ↓pf_88_1, ↓gf_88_2, ↓pf_88_2, ↓gf_88_3, ↓pf_88_3, ↓gf_88_4, ↓pf_88_4, ↓gf_88_5, ↓pf_88_5, ↓ho_90, ↓gf_90_0, ↓gf_90_1, ↓gf_90_2, ↓pf_90_2, ↓gf_90_3, ↓pf_90_3, ↓gf_90_4, ↓gf_90_5, ↓gf_90_6, ↓pf_90_6, ↓gf_90_7, ↓pf_90_7, ↓gf_90_8, ↓pf_90_8, ↓gf_90_9, ↓pf_90_9, ↓gf_90_10, ↓pf_90_10, ↓gf_90_11, ↓gf_41_0, ↓pf_41_0, ↓gf_41_1, ↓pf_41_1, ↓gf_41_2, ↓gf_41_3, ↓pf_41_3, ↓gf_41_4, ↓gf_41_5, ↓gf_41_6, ↓gf_41_7, ↓gf_41_8, ↓pf_41_8, ↓gf_41_9, ↓pf_41_9, ↓gf_41_10, ↓gf_41_11, ↓ho_41, ↓gi_42, ↓pi_42, ↓gi_43, ↓pi_43, ↓gi_44, ↓pi_44, ↓gi_45, ↓pi_45, ↓gi_46, ↓pi_46, ↓gi_47, ↓pi_47, ↓gi_48, ↓pi_48, ↓gi_51, ↓pi_51, ↓gi_52, ↓pi_52, ↓gi_53, ↓pi_53, ↓gi_91, ↓pi_91, ↓gi_92, ↓pi_92, ↓gi_93, ↓pi_93, ↓gi_95, ↓pi_95, ↓gi_89, ↓pi_89, ↓gi_94, ↓pi_94, ↓gi_1, ↓gi_3, ↓gn_1, ↓gn_2, ↓gr_2, ↓gr_55, ↓pr_55, ↓gl_96, ↓pl_96, ↓gf_w0, ↓gf_w1, ↓gw_w, ↓gf_s0, ↓gf_s1, ↓ho_s, ↓gn_b, ↓gi_b, h1, h2, h4, h5]; exact hz
end ZT
