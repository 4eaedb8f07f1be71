/-! the reference's command -/
theorem dg_no {bx : Nat → Nat} {t p : Nat} (h : isr bx t 48 57 p = true) : sk bx t p = p ∧ ¬ nok bx t p = true ∧ ∀ a b, cend bx t p a b = (false, p, a, b) := by
  have hb := h
  rw [isr_b] at hb
  have hns : isr bx t 32 32 p = false := by
    cases e : isr bx t 32 32 p
    · rfl
    · rw [isr_b] at e; omega
  have es : sk bx t p = p := sk_id hns
  have hnc : ¬ isr bx t 59 59 p = true := by rw [isr_b]; omega
  refine ⟨es, ?_, fun a b => ?_⟩
  · unfold nok; simp only [es, decide_true, Bool.not_true, Bool.false_and, Bool.false_eq_true, not_false_eq_true]
  · unfold cend; rw [es, if_neg hnc]
section ZT
variable {G : zG} {c : Nat × Nat × Bool} {F A : Nat → Nat → Int32} {P : Nat → Nat} {W : Value} {O : Nat → Int64} {x y j k d e v m s : Int32} {p q i t u o : Nat} {a b f n w : Int32} {bx : Nat → Nat} {z : Option Value}
/-- a fault stands: the rest of the command -/
theorem l225f (hp : p < 2147483648) : Rv 225 58 [some (.ref 90), some (.int x), z] [] (en G c (RF F a (Int32.ofNat p) n w) A P W O) = some (.inl (some (.int 0)), en G c (RF F (a + 1) (Int32.ofNat p) n w) A P W O) := by
  simp only [↓e225_0, ↓e225_1, ↓e225_2, ↓e225_4, ↓e225_6, ↓e225_9, ↓e225_12, ↓e225_15, ↓e225_16, ↓e225_17, ↓e225_18, ↓e225_21, ↓e225_22, ↓e225_24, ↓e225_27, ↓e225_28, ↓e225_31, ↓e225_32, ↓e225_33, ↓e225_36, ↓e225_39, ↓e225_42, ↓e225_43, ↓e225_46, ↓e225_47, ↓e225_48, ↓e225_51, ↓e225_52, ↓e225_55, ↓e225_58, ↓e225_59, ↓e225_62, ↓e225_63, ↓e225_66, ↓e225_67, ↓e225_70, ↓e225_71, ↓e225_72, ↓e225_74, ↓e225_76, ↓e225_79, ↓e225_82, ↓e225_83, ↓e225_84, ↓e225_85, ↓e225_88, ↓e225_89, ↓e225_90, ↓e225_93, ↓e225_94, ↓e225_97, ↓e225_98, ↓e225_101, ↓e225_102, ↓e225_105, ↓e225_106, ↓e225_109, ↓e225_112, ↓e225_113, ↓e225_116, ↓e225_117, ↓ldI_0, ↓ldI_s, ↓ldA_0, ↓ldA_n, ↓ldA_s, ↓ldL_0, ↓ldL_s, ↓lst_0, ↓lst_s, ↓cal_v, ↓cal_x, ↓vts_s, ↓vts_n, ↓lpr_0, ↓lpr_i, ↓lpr_r, ↓lpr_n, ↓lpr_s, PA_41, ↓reduceIte, or_true, true_or, ↓ho_40, ↓gf_40_0, ↓gf_40_1, ↓gf_40_2, ↓gf_40_3, ↓ho_49, ↓gf_49_0, ↓gf_49_1, ↓gf_49_2, ↓gf_49_3, ↓pf_49_3, ↓ho_50, ↓gf_50_0, ↓gf_50_1, ↓gf_50_2, ↓pf_50_2, ↓gf_50_3, ↓pf_50_3, ↓gf_50_4, ↓pf_50_4, ↓gf_50_5, ↓pf_50_5, ↓gf_50_6, ↓pf_50_6, ↓ho_54, ↓gf_54_0, ↓gf_54_1, ↓pf_54_1, ↓ho_88, ↓gf_88_0, ↓gf_88_1, ↓pf_88_1, ↓gf_88_2, ↓pf_88_2, ↓gf_88_3, ↓pf_88_3, ↓gf_88_4, ↓pf_88_4, ↓gf_88_5, ↓pf_88_5, ↓ho_90, ↓gf_90_0, ↓gf_90_1, ↓gf_90_2, ↓pf_90_2, ↓gf_90_3, ↓pf_90_3, ↓gf_90_4, ↓gf_90_5, ↓gf_90_6, ↓pf_90_6, ↓gf_90_7, ↓pf_90_7, ↓gf_90_8, ↓pf_90_8, ↓gf_90_9, ↓pf_90_9, ↓gf_90_10, ↓pf_90_10, ↓gf_90_11, ↓gf_41_0, ↓pf_41_0, ↓gf_41_1, ↓pf_41_1, ↓gf_41_2, ↓gf_41_3, ↓pf_41_3, ↓gf_41_4, ↓gf_41_5, ↓gf_41_6, ↓gf_41_7, ↓gf_41_8, ↓pf_41_8, ↓gf_41_9, ↓pf_41_9, ↓gf_41_10, ↓gf_41_11, ↓ho_41, ↓gi_42, ↓pi_42, ↓gi_43, ↓pi_43, ↓gi_44, ↓pi_44, ↓gi_45, ↓pi_45, ↓gi_46, ↓pi_46, ↓gi_47, ↓pi_47, ↓gi_48, ↓pi_48, ↓gi_51, ↓pi_51, ↓gi_52, ↓pi_52, ↓gi_53, ↓pi_53, ↓gi_91, ↓pi_91, ↓gi_92, ↓pi_92, ↓gi_93, ↓pi_93, ↓gi_95, ↓pi_95, ↓gi_89, ↓pi_89, ↓gi_94, ↓pi_94, ↓gi_1, ↓gi_3, ↓gn_1, ↓gn_2, ↓gr_2, ↓gr_55, ↓pr_55, ↓gl_96, ↓pl_96, ↓gf_w0, ↓gf_w1, ↓gw_w, ↓gf_s0, ↓gf_s1, ↓ho_s, ↓gn_b, ↓gi_b, rf_8, io_nm hp, if_false, rf_7, rf_s7, zb0]
theorem l225g (hp : p < 2147483648) : Rv 225 23 [some (.ref 90), some (.int x), z] [] (en G c (RF F a (Int32.ofNat p) n w) A P W O) = some (.inl (some (.int 0)), en G c (RF F (a + 1) (Int32.ofNat p) n w) A P W O) := by
  rw [h225_23]
  simp only [↓e225_0, ↓e225_1, ↓e225_2, ↓e225_4, ↓e225_6, ↓e225_9, ↓e225_12, ↓e225_15, ↓e225_16, ↓e225_17, ↓e225_18, ↓e225_21, ↓e225_22, ↓e225_24, ↓e225_27, ↓e225_28, ↓e225_31, ↓e225_32, ↓e225_33, ↓e225_36, ↓e225_39, ↓e225_42, ↓e225_43, ↓e225_46, ↓e225_47, ↓e225_48, ↓e225_51, ↓e225_52, ↓e225_55, ↓ldI_0, ↓ldI_s, ↓ldA_0, ↓ldA_n, ↓ldA_s, ↓ldL_0, ↓ldL_s, ↓lst_0, ↓lst_s, ↓cal_v, ↓cal_x, ↓vts_s, ↓vts_n, ↓lpr_0, ↓lpr_i, ↓lpr_r, ↓lpr_n, ↓lpr_s, PA_41, ↓reduceIte, or_true, true_or, ↓ho_40, ↓gf_40_0, ↓gf_40_1, ↓gf_40_2, ↓gf_40_3, ↓ho_49, ↓gf_49_0, ↓gf_49_1, ↓gf_49_2, ↓gf_49_3, ↓pf_49_3, ↓ho_50, ↓gf_50_0, ↓gf_50_1, ↓gf_50_2, ↓pf_50_2, ↓gf_50_3, ↓pf_50_3, ↓gf_50_4, ↓pf_50_4, ↓gf_50_5, ↓pf_50_5, ↓gf_50_6, ↓pf_50_6, ↓ho_54, ↓gf_54_0, ↓gf_54_1, ↓pf_54_1, ↓ho_88, ↓gf_88_0, ↓gf_88_1, ↓pf_88_1, ↓gf_88_2, ↓pf_88_2, ↓gf_88_3, ↓pf_88_3, ↓gf_88_4, ↓pf_88_4, ↓gf_88_5, ↓pf_88_5, ↓ho_90, ↓gf_90_0, ↓gf_90_1, ↓gf_90_2, ↓pf_90_2, ↓gf_90_3, ↓pf_90_3, ↓gf_90_4, ↓gf_90_5, ↓gf_90_6, ↓pf_90_6, ↓gf_90_7, ↓pf_90_7, ↓gf_90_8, ↓pf_90_8, ↓gf_90_9, ↓pf_90_9, ↓gf_90_10, ↓pf_90_10, ↓gf_90_11, ↓gf_41_0, ↓pf_41_0, ↓gf_41_1, ↓pf_41_1, ↓gf_41_2, ↓gf_41_3, ↓pf_41_3, ↓gf_41_4, ↓gf_41_5, ↓gf_41_6, ↓gf_41_7, ↓gf_41_8, ↓pf_41_8, ↓gf_41_9, ↓pf_41_9, ↓gf_41_10, ↓gf_41_11, ↓ho_41, ↓gi_42, ↓pi_42, ↓gi_43, ↓pi_43, ↓gi_44, ↓pi_44, ↓gi_45, ↓pi_45, ↓gi_46, ↓pi_46, ↓gi_47, ↓pi_47, ↓gi_48, ↓pi_48, ↓gi_51, ↓pi_51, ↓gi_52, ↓pi_52, ↓gi_53, ↓pi_53, ↓gi_91, ↓pi_91, ↓gi_92, ↓pi_92, ↓gi_93, ↓pi_93, ↓gi_95, ↓pi_95, ↓gi_89, ↓pi_89, ↓gi_94, ↓pi_94, ↓gi_1, ↓gi_3, ↓gn_1, ↓gn_2, ↓gr_2, ↓gr_55, ↓pr_55, ↓gl_96, ↓pl_96, ↓gf_w0, ↓gf_w1, ↓gw_w, ↓gf_s0, ↓gf_s1, ↓ho_s, ↓gn_b, ↓gi_b, rf_8, io_nm hp, if_false, l225f hp]
/-- its end -/
theorem l225e (hX : TY F A bx t) (hp : p ≤ t) {a b : Nat} : ∃ p', ((cend bx t p a b).1 = true → Rv 225 58 [some (.ref 90), some (.int x), z] [] (en G c (RF F (Int32.ofNat p) (-1) n w) A P W O) = Rv 225 93 [some (.ref 90), some (.int x), some (.int 1)] [] (en G c (RF F (Int32.ofNat (cend bx t p a b).2.1) (-1) n w) A P W O)) ∧ (¬ (cend bx t p a b).1 = true → Rv 225 58 [some (.ref 90), some (.int x), z] [] (en G c (RF F (Int32.ofNat p) (-1) n w) A P W O) = some (.inl (some (.int 0)), en G c (RF F p' (Int32.ofNat (cend bx t p a b).2.1) n w) A P W O)) := by
  have h150 := hX.1
  have hs := sk_ge bx hp
  unfold cend
  refine ⟨Int32.ofNat (sk bx t p) + 1, ?_⟩
  by_cases h : isr bx t 59 59 (sk bx t p) = true
  · rw [if_pos h]
    refine ⟨fun _ => ?_, fun e => absurd rfl e⟩
    simp only [↓e225_0, ↓e225_1, ↓e225_2, ↓e225_4, ↓e225_6, ↓e225_9, ↓e225_12, ↓e225_15, ↓e225_16, ↓e225_17, ↓e225_18, ↓e225_21, ↓e225_22, ↓e225_24, ↓e225_27, ↓e225_28, ↓e225_31, ↓e225_32, ↓e225_33, ↓e225_36, ↓e225_39, ↓e225_42, ↓e225_43, ↓e225_46, ↓e225_47, ↓e225_48, ↓e225_51, ↓e225_52, ↓e225_55, ↓e225_58, ↓e225_59, ↓e225_62, ↓e225_63, ↓e225_66, ↓e225_67, ↓e225_70, ↓e225_71, ↓e225_72, ↓e225_74, ↓e225_76, ↓e225_79, ↓e225_82, ↓e225_83, ↓e225_84, ↓e225_85, ↓e225_88, ↓e225_89, ↓e225_90, ↓ldI_0, ↓ldI_s, ↓ldA_0, ↓ldA_n, ↓ldA_s, ↓ldL_0, ↓ldL_s, ↓lst_0, ↓lst_s, ↓cal_v, ↓cal_x, ↓vts_s, ↓vts_n, ↓lpr_0, ↓lpr_i, ↓lpr_r, ↓lpr_n, ↓lpr_s, PA_41, ↓reduceIte, or_true, true_or, ↓ho_40, ↓gf_40_0, ↓gf_40_1, ↓gf_40_2, ↓gf_40_3, ↓ho_49, ↓gf_49_0, ↓gf_49_1, ↓gf_49_2, ↓gf_49_3, ↓pf_49_3, ↓ho_50, ↓gf_50_0, ↓gf_50_1, ↓gf_50_2, ↓pf_50_2, ↓gf_50_3, ↓pf_50_3, ↓gf_50_4, ↓pf_50_4, ↓gf_50_5, ↓pf_50_5, ↓gf_50_6, ↓pf_50_6, ↓ho_54, ↓gf_54_0, ↓gf_54_1, ↓pf_54_1, ↓ho_88, ↓gf_88_0, ↓gf_88_1, ↓pf_88_1, ↓gf_88_2, ↓pf_88_2, ↓gf_88_3, ↓pf_88_3, ↓gf_88_4, ↓pf_88_4, ↓gf_88_5, ↓pf_88_5, ↓ho_90, ↓gf_90_0, ↓gf_90_1, ↓gf_90_2, ↓pf_90_2, ↓gf_90_3, ↓pf_90_3, ↓gf_90_4, ↓gf_90_5, ↓gf_90_6, ↓pf_90_6, ↓gf_90_7, ↓pf_90_7, ↓gf_90_8, ↓pf_90_8, ↓gf_90_9, ↓pf_90_9, ↓gf_90_10, ↓pf_90_10, ↓gf_90_11, ↓gf_41_0, ↓pf_41_0, ↓gf_41_1, ↓pf_41_1, ↓gf_41_2, ↓gf_41_3, ↓pf_41_3, ↓gf_41_4, ↓gf_41_5, ↓gf_41_6, ↓gf_41_7, ↓gf_41_8, ↓pf_41_8, ↓gf_41_9, ↓pf_41_9, ↓gf_41_10, ↓gf_41_11, ↓ho_41, ↓gi_42, ↓pi_42, ↓gi_43, ↓pi_43, ↓gi_44, ↓pi_44, ↓gi_45, ↓pi_45, ↓gi_46, ↓pi_46, ↓gi_47, ↓pi_47, ↓gi_48, ↓pi_48, ↓gi_51, ↓pi_51, ↓gi_52, ↓pi_52, ↓gi_53, ↓pi_53, ↓gi_91, ↓pi_91, ↓gi_92, ↓pi_92, ↓gi_93, ↓pi_93, ↓gi_95, ↓pi_95, ↓gi_89, ↓pi_89, ↓gi_94, ↓pi_94, ↓gi_1, ↓gi_3, ↓gn_1, ↓gn_2, ↓gr_2, ↓gr_55, ↓pr_55, ↓gl_96, ↓pl_96, ↓gf_w0, ↓gf_w1, ↓gw_w, ↓gf_s0, ↓gf_s1, ↓ho_s, ↓gn_b, ↓gi_b, rf_8, m11, if_true, y219 hX hp, y218c hX hs.2, h, y222y, rf_7, rf_s7, io_succ]
  · rw [if_neg h]
    refine ⟨fun e => (by cases e), fun _ => ?_⟩
    simp only [↓e225_0, ↓e225_1, ↓e225_2, ↓e225_4, ↓e225_6, ↓e225_9, ↓e225_12, ↓e225_15, ↓e225_16, ↓e225_17, ↓e225_18, ↓e225_21, ↓e225_22, ↓e225_24, ↓e225_27, ↓e225_28, ↓e225_31, ↓e225_32, ↓e225_33, ↓e225_36, ↓e225_39, ↓e225_42, ↓e225_43, ↓e225_46, ↓e225_47, ↓e225_48, ↓e225_51, ↓e225_52, ↓e225_55, ↓e225_58, ↓e225_59, ↓e225_62, ↓e225_63, ↓e225_66, ↓e225_67, ↓e225_70, ↓e225_71, ↓e225_72, ↓e225_74, ↓e225_76, ↓e225_79, ↓e225_82, ↓e225_83, ↓e225_84, ↓e225_85, ↓e225_88, ↓e225_89, ↓e225_90, ↓e225_93, ↓e225_94, ↓e225_97, ↓e225_98, ↓e225_101, ↓e225_102, ↓e225_105, ↓e225_106, ↓e225_109, ↓e225_112, ↓e225_113, ↓e225_116, ↓e225_117, ↓ldI_0, ↓ldI_s, ↓ldA_0, ↓ldA_n, ↓ldA_s, ↓ldL_0, ↓ldL_s, ↓lst_0, ↓lst_s, ↓cal_v, ↓cal_x, ↓vts_s, ↓vts_n, ↓lpr_0, ↓lpr_i, ↓lpr_r, ↓lpr_n, ↓lpr_s, PA_41, ↓reduceIte, or_true, true_or, ↓ho_40, ↓gf_40_0, ↓gf_40_1, ↓gf_40_2, ↓gf_40_3, ↓ho_49, ↓gf_49_0, ↓gf_49_1, ↓gf_49_2, ↓gf_49_3, ↓pf_49_3, ↓ho_50, ↓gf_50_0, ↓gf_50_1, ↓gf_50_2, ↓pf_50_2, ↓gf_50_3, ↓pf_50_3, ↓gf_50_4, ↓pf_50_4, ↓gf_50_5, ↓pf_50_5, ↓gf_50_6, ↓pf_50_6, ↓ho_54, ↓gf_54_0, ↓gf_54_1, ↓pf_54_1, ↓ho_88, ↓gf_88_0, ↓gf_88_1, ↓pf_88_1, ↓gf_88_2, ↓pf_88_2, ↓gf_88_3, ↓pf_88_3, ↓gf_88_4, ↓pf_88_4, ↓gf_88_5, ↓pf_88_5, ↓ho_90, ↓gf_90_0, ↓gf_90_1, ↓gf_90_2, ↓pf_90_2, ↓gf_90_3, ↓pf_90_3, ↓gf_90_4, ↓gf_90_5, ↓gf_90_6, ↓pf_90_6, ↓gf_90_7, ↓pf_90_7, ↓gf_90_8, ↓pf_90_8, ↓gf_90_9, ↓pf_90_9, ↓gf_90_10, ↓pf_90_10, ↓gf_90_11, ↓gf_41_0, ↓pf_41_0, ↓gf_41_1, ↓pf_41_1, ↓gf_41_2, ↓gf_41_3, ↓pf_41_3, ↓gf_41_4, ↓gf_41_5, ↓gf_41_6, ↓gf_41_7, ↓gf_41_8, ↓pf_41_8, ↓gf_41_9, ↓pf_41_9, ↓gf_41_10, ↓gf_41_11, ↓ho_41, ↓gi_42, ↓pi_42, ↓gi_43, ↓pi_43, ↓gi_44, ↓pi_44, ↓gi_45, ↓pi_45, ↓gi_46, ↓pi_46, ↓gi_47, ↓pi_47, ↓gi_48, ↓pi_48, ↓gi_51, ↓pi_51, ↓gi_52, ↓pi_52, ↓gi_53, ↓pi_53, ↓gi_91, ↓pi_91, ↓gi_92, ↓pi_92, ↓gi_93, ↓pi_93, ↓gi_95, ↓pi_95, ↓gi_89, ↓pi_89, ↓gi_94, ↓pi_94, ↓gi_1, ↓gi_3, ↓gn_1, ↓gn_2, ↓gr_2, ↓gr_55, ↓pr_55, ↓gl_96, ↓pl_96, ↓gf_w0, ↓gf_w1, ↓gw_w, ↓gf_s0, ↓gf_s1, ↓ho_s, ↓gn_b, ↓gi_b, rf_8, m11, if_true, y219 hX hp, y218c hX hs.2, h, if_false, Bool.false_eq_true, y222n (show sk bx t p < 2147483648 by omega), rf_7, rf_s7, io_nm (show sk bx t p < 2147483648 by omega), zb0]
/-- one number -/
theorem l225n {w k : Nat} (hX : TY F A bx t) (hp : p ≤ t) (hw : w < 10) (hk : k < nnu w) : ∃ v, (nok bx t p = true → v = Int32.ofNat (nuv bx t p)) ∧ Rv 225 23 [some (.ref 90), some (.int x), some (.int (Int32.ofNat k))] [] (en G c (RF F (Int32.ofNat p) (-1) n (Int32.ofNat w)) A P W O) = Rv 225 23 [some (.ref 90), some (.int x), some (.int (Int32.ofNat (k + 1)))] [] (en G c (if nok bx t p = true then RF F (Int32.ofNat (nue bx t p)) (if isr bx t 48 57 (nue bx t p) = true then Int32.ofNat (nue bx t p) else -1) n (Int32.ofNat w) else RF F (Int32.ofNat (sk bx t p)) (Int32.ofNat (sk bx t p)) n (Int32.ofNat w)) (u2 A 95 k v) P W O) := by
  have h2 := (wn_ok w hw).2
  obtain ⟨v, v1, v2⟩ := y224 (G := G) (c := c) (P := P) (W := W) (O := O) (n := n) (w := Int32.ofNat w) hX hp
  refine ⟨v, v1, ?_⟩
  rw [h225_23]
  simp only [↓e225_0, ↓e225_1, ↓e225_2, ↓e225_4, ↓e225_6, ↓e225_9, ↓e225_12, ↓e225_15, ↓e225_16, ↓e225_17, ↓e225_18, ↓e225_21, ↓e225_22, ↓e225_24, ↓e225_27, ↓e225_28, ↓e225_31, ↓e225_32, ↓e225_33, ↓e225_36, ↓e225_39, ↓e225_42, ↓e225_43, ↓e225_46, ↓e225_47, ↓e225_48, ↓e225_51, ↓e225_52, ↓e225_55, ↓ldI_0, ↓ldI_s, ↓ldA_0, ↓ldA_n, ↓ldA_s, ↓ldL_0, ↓ldL_s, ↓lst_0, ↓lst_s, ↓cal_v, ↓cal_x, ↓vts_s, ↓vts_n, ↓lpr_0, ↓lpr_i, ↓lpr_r, ↓lpr_n, ↓lpr_s, PA_41, ↓reduceIte, or_true, true_or, ↓ho_40, ↓gf_40_0, ↓gf_40_1, ↓gf_40_2, ↓gf_40_3, ↓ho_49, ↓gf_49_0, ↓gf_49_1, ↓gf_49_2, ↓gf_49_3, ↓pf_49_3, ↓ho_50, ↓gf_50_0, ↓gf_50_1, ↓gf_50_2, ↓pf_50_2, ↓gf_50_3, ↓pf_50_3, ↓gf_50_4, ↓pf_50_4, ↓gf_50_5, ↓pf_50_5, ↓gf_50_6, ↓pf_50_6, ↓ho_54, ↓gf_54_0, ↓gf_54_1, ↓pf_54_1, ↓ho_88, ↓gf_88_0, ↓gf_88_1, ↓pf_88_1, ↓gf_88_2, ↓pf_88_2, ↓gf_88_3, ↓pf_88_3, ↓gf_88_4, ↓pf_88_4, ↓gf_88_5, ↓pf_88_5, ↓ho_90, ↓gf_90_0, ↓gf_90_1, ↓gf_90_2, ↓pf_90_2, ↓gf_90_3, ↓pf_90_3, ↓gf_90_4, ↓gf_90_5, ↓gf_90_6, ↓pf_90_6, ↓gf_90_7, ↓pf_90_7, ↓gf_90_8, ↓pf_90_8, ↓gf_90_9, ↓pf_90_9, ↓gf_90_10, ↓pf_90_10, ↓gf_90_11, ↓gf_41_0, ↓pf_41_0, ↓gf_41_1, ↓pf_41_1, ↓gf_41_2, ↓gf_41_3, ↓pf_41_3, ↓gf_41_4, ↓gf_41_5, ↓gf_41_6, ↓gf_41_7, ↓gf_41_8, ↓pf_41_8, ↓gf_41_9, ↓pf_41_9, ↓gf_41_10, ↓gf_41_11, ↓ho_41, ↓gi_42, ↓pi_42, ↓gi_43, ↓pi_43, ↓gi_44, ↓pi_44, ↓gi_45, ↓pi_45, ↓gi_46, ↓pi_46, ↓gi_47, ↓pi_47, ↓gi_48, ↓pi_48, ↓gi_51, ↓pi_51, ↓gi_52, ↓pi_52, ↓gi_53, ↓pi_53, ↓gi_91, ↓pi_91, ↓gi_92, ↓pi_92, ↓gi_93, ↓pi_93, ↓gi_95, ↓pi_95, ↓gi_89, ↓pi_89, ↓gi_94, ↓pi_94, ↓gi_1, ↓gi_3, ↓gn_1, ↓gn_2, ↓gr_2, ↓gr_55, ↓pr_55, ↓gl_96, ↓pl_96, ↓gf_w0, ↓gf_w1, ↓gw_w, ↓gf_s0, ↓gf_s1, ↓ho_s, ↓gn_b, ↓gi_b, rf_8, m11, if_true, rf_10, y221 hw, io_lt (show k < 2147483648 by omega) (show nnu w < 2147483648 by omega), hk, v2, io_zin (show k < 2147483648 by omega) (show k < 2 by omega), io_ix (show k < 2147483648 by omega), io_succ]
/-- the numbers done -/
theorem l225d {w : Nat} (hw : w < 10) : Rv 225 23 [some (.ref 90), some (.int x), some (.int (Int32.ofNat (nnu w)))] [] (en G c (RF F a (-1) n (Int32.ofNat w)) A P W O) = Rv 225 58 [some (.ref 90), some (.int x), some (.int (Int32.ofNat (nnu w)))] [] (en G c (RF F a (-1) n (Int32.ofNat w)) A P W O) := by
  rw [h225_23]
  simp only [↓e225_0, ↓e225_1, ↓e225_2, ↓e225_4, ↓e225_6, ↓e225_9, ↓e225_12, ↓e225_15, ↓e225_16, ↓e225_17, ↓e225_18, ↓e225_21, ↓e225_22, ↓e225_24, ↓e225_27, ↓e225_28, ↓e225_31, ↓e225_32, ↓e225_33, ↓e225_36, ↓e225_39, ↓ldI_0, ↓ldI_s, ↓ldA_0, ↓ldA_n, ↓ldA_s, ↓ldL_0, ↓ldL_s, ↓lst_0, ↓lst_s, ↓cal_v, ↓cal_x, ↓vts_s, ↓vts_n, ↓lpr_0, ↓lpr_i, ↓lpr_r, ↓lpr_n, ↓lpr_s, PA_41, ↓reduceIte, or_true, true_or, ↓ho_40, ↓gf_40_0, ↓gf_40_1, ↓gf_40_2, ↓gf_40_3, ↓ho_49, ↓gf_49_0, ↓gf_49_1, ↓gf_49_2, ↓gf_49_3, ↓pf_49_3, ↓ho_50, ↓gf_50_0, ↓gf_50_1, ↓gf_50_2, ↓pf_50_2, ↓gf_50_3, ↓pf_50_3, ↓gf_50_4, ↓pf_50_4, ↓gf_50_5, ↓pf_50_5, ↓gf_50_6, ↓pf_50_6, ↓ho_54, ↓gf_54_0, ↓gf_54_1, ↓pf_54_1, ↓ho_88, ↓gf_88_0, ↓gf_88_1, ↓pf_88_1, ↓gf_88_2, ↓pf_88_2, ↓gf_88_3, ↓pf_88_3, ↓gf_88_4, ↓pf_88_4, ↓gf_88_5, ↓pf_88_5, ↓ho_90, ↓gf_90_0, ↓gf_90_1, ↓gf_90_2, ↓pf_90_2, ↓gf_90_3, ↓pf_90_3, ↓gf_90_4, ↓gf_90_5, ↓gf_90_6, ↓pf_90_6, ↓gf_90_7, ↓pf_90_7, ↓gf_90_8, ↓pf_90_8, ↓gf_90_9, ↓pf_90_9, ↓gf_90_10, ↓pf_90_10, ↓gf_90_11, ↓gf_41_0, ↓pf_41_0, ↓gf_41_1, ↓pf_41_1, ↓gf_41_2, ↓gf_41_3, ↓pf_41_3, ↓gf_41_4, ↓gf_41_5, ↓gf_41_6, ↓gf_41_7, ↓gf_41_8, ↓pf_41_8, ↓gf_41_9, ↓pf_41_9, ↓gf_41_10, ↓gf_41_11, ↓ho_41, ↓gi_42, ↓pi_42, ↓gi_43, ↓pi_43, ↓gi_44, ↓pi_44, ↓gi_45, ↓pi_45, ↓gi_46, ↓pi_46, ↓gi_47, ↓pi_47, ↓gi_48, ↓pi_48, ↓gi_51, ↓pi_51, ↓gi_52, ↓pi_52, ↓gi_53, ↓pi_53, ↓gi_91, ↓pi_91, ↓gi_92, ↓pi_92, ↓gi_93, ↓pi_93, ↓gi_95, ↓pi_95, ↓gi_89, ↓pi_89, ↓gi_94, ↓pi_94, ↓gi_1, ↓gi_3, ↓gn_1, ↓gn_2, ↓gr_2, ↓gr_55, ↓pr_55, ↓gl_96, ↓pl_96, ↓gf_w0, ↓gf_w1, ↓gw_w, ↓gf_s0, ↓gf_s1, ↓ho_s, ↓gn_b, ↓gi_b, rf_8, m11, if_true, rf_10, y221 hw, Int32.lt_irrefl, if_false]
theorem l225c {w : Nat} (hX : TY F A bx t) (hp : p ≤ t) (hw : w < 10) : ∃ A' p', (∀ b, b ≠ 95 → A' b = A b) ∧ ((cnum bx t p (nnu w)).1 = true → (1 ≤ nnu w → A' 95 0 = Int32.ofNat (cnum bx t p (nnu w)).2.2.1) ∧ (2 ≤ nnu w → A' 95 1 = Int32.ofNat (cnum bx t p (nnu w)).2.2.2) ∧ Rv 225 23 [some (.ref 90), some (.int x), some (.int 0)] [] (en G c (RF F (Int32.ofNat p) (-1) n (Int32.ofNat w)) A P W O) = Rv 225 93 [some (.ref 90), some (.int x), some (.int 1)] [] (en G c (RF F (Int32.ofNat (cnum bx t p (nnu w)).2.1) (-1) n (Int32.ofNat w)) A' P W O)) ∧ (¬ (cnum bx t p (nnu w)).1 = true → Rv 225 23 [some (.ref 90), some (.int x), some (.int 0)] [] (en G c (RF F (Int32.ofNat p) (-1) n (Int32.ofNat w)) A P W O) = some (.inl (some (.int 0)), en G c (RF F p' (Int32.ofNat (cnum bx t p (nnu w)).2.1) n (Int32.ofNat w)) A' P W O)) := by
  have h150 := hX.1
  have h2 := (wn_ok w hw).2
  have hs := sk_ge bx hp
  have hn := nue_ge (bx := bx) hp
  have hs2 := sk_ge bx hn.2
  have hn2 := nue_ge (bx := bx) hn.2
  have hd := fun (A : Nat → Nat → Int32) (a : Int32) => l225d (G := G) (c := c) (F := F) (A := A) (P := P) (W := W) (O := O) (x := x) (a := a) (n := n) hw
  have h1 := fun (k : Nat) (hk : k < nnu w) => l225n (G := G) (c := c) (P := P) (W := W) (O := O) (x := x) (n := n) hX hp hw hk
  have hA1 : ∀ v, TY F (u2 A 95 0 v) bx t := fun v => ty_A hX (u2_ne (by omega))
  have h1b := fun (v : Int32) (k : Nat) (hk : k < nnu w) => l225n (G := G) (c := c) (P := P) (W := W) (O := O) (x := x) (n := n) (hA1 v) hn.2 hw hk
  generalize hN : nnu w = N at *
  have z0 : (0 : Int32) = Int32.ofNat 0 := rfl
  rw [z0]
  rcases N with _ | _ | _ | N
  · obtain ⟨p', e1, e2⟩ := l225e (G := G) (c := c) (P := P) (W := W) (O := O) (x := x) (n := n) (w := Int32.ofNat w) (z := some (.int (Int32.ofNat 0))) (a := 0) (b := 0) hX hp
    refine ⟨A, p', fun _ _ => rfl, fun h => ⟨fun h => by omega, fun h => by omega, ?_⟩, fun h => ?_⟩
    · rw [hd]; exact e1 h
    · rw [hd]; exact e2 h
  · obtain ⟨v, v1, v2⟩ := h1 0 (by omega)
    rw [cnum_1]
    by_cases hk : nok bx t p = true
    · rw [if_pos hk] at v2
      rw [if_pos hk]
      have v1 := v1 hk
      by_cases hg : isr bx t 48 57 (nue bx t p) = true
      · obtain ⟨g1, g2, g3⟩ := dg_no hg
        rw [if_pos hg] at v2
        rw [g3]
        refine ⟨u2 A 95 0 v, Int32.ofNat (nue bx t p) + 1, fun b hb => u2_ne hb, fun h => (Bool.false_ne_true h).elim, fun _ => ?_⟩
        rw [v2]
        exact l225g (by omega)
      · rw [if_neg hg] at v2
        obtain ⟨p', e1, e2⟩ := l225e (G := G) (c := c) (P := P) (W := W) (O := O) (x := x) (n := n) (w := Int32.ofNat w) (z := some (.int (Int32.ofNat (0 + 1)))) (a := nuv bx t p) (b := 0) (hA1 v) hn.2
        have c3 := (cend_ok (bx := bx) (a := nuv bx t p) (b := 0) hn.2).2.2
        refine ⟨u2 A 95 0 v, p', fun b hb => u2_ne hb, fun h => ⟨fun _ => ?_, fun h => by omega, ?_⟩, fun h => ?_⟩
        · rw [(c3 h).2, u2_same, v1]
        · rw [v2, hd]; exact e1 h
        · rw [v2, hd]; exact e2 h
    · rw [if_neg hk] at v2
      rw [if_neg hk]
      refine ⟨u2 A 95 0 v, Int32.ofNat (sk bx t p) + 1, fun b hb => u2_ne hb, fun h => (Bool.false_ne_true h).elim, fun _ => ?_⟩
      rw [v2]
      exact l225g (by omega)
  · obtain ⟨v, v1, v2⟩ := h1 0 (by omega)
    rw [cnum_2]
    by_cases hk : nok bx t p = true
    · rw [if_pos hk] at v2
      rw [if_pos hk]
      have v1 := v1 hk
      by_cases hg : isr bx t 48 57 (nue bx t p) = true
      · obtain ⟨g1, g2, g3⟩ := dg_no hg
        rw [if_pos hg] at v2
        rw [if_neg g2, g1]
        refine ⟨u2 A 95 0 v, Int32.ofNat (nue bx t p) + 1, fun b hb => u2_ne hb, fun h => (Bool.false_ne_true h).elim, fun _ => ?_⟩
        rw [v2]
        exact l225g (by omega)
      · rw [if_neg hg] at v2
        obtain ⟨y, y1, y2⟩ := h1b v 1 (by omega)
        have hA2 : TY F (u2 (u2 A 95 0 v) 95 1 y) bx t := ty_A (hA1 v) (u2_ne (by omega))
        have hfr : ∀ b, b ≠ 95 → u2 (u2 A 95 0 v) 95 1 y b = A b := fun b hb => by rw [u2_ne hb, u2_ne hb]
        by_cases hk2 : nok bx t (nue bx t p) = true
        · rw [if_pos hk2] at y2
          rw [if_pos hk2]
          have y1 := y1 hk2
          by_cases hg2 : isr bx t 48 57 (nue bx t (nue bx t p)) = true
          · obtain ⟨g1, g2, g3⟩ := dg_no hg2
            rw [if_pos hg2] at y2
            rw [g3]
            refine ⟨u2 (u2 A 95 0 v) 95 1 y, Int32.ofNat (nue bx t (nue bx t p)) + 1, hfr, fun h => (Bool.false_ne_true h).elim, fun _ => ?_⟩
            rw [v2, y2]
            exact l225g (by omega)
          · rw [if_neg hg2] at y2
            obtain ⟨p', e1, e2⟩ := l225e (G := G) (c := c) (P := P) (W := W) (O := O) (x := x) (n := n) (w := Int32.ofNat w) (z := some (.int (Int32.ofNat (0 + 1 + 1)))) (a := nuv bx t p) (b := nuv bx t (nue bx t p)) hA2 hn2.2
            have c3 := (cend_ok (bx := bx) (a := nuv bx t p) (b := nuv bx t (nue bx t p)) hn2.2).2.2
            refine ⟨u2 (u2 A 95 0 v) 95 1 y, p', hfr, fun h => ⟨fun _ => ?_, fun _ => ?_, ?_⟩, fun h => ?_⟩
            · rw [(c3 h).2, u2_at, upd_no (by omega), u2_same, v1]
            · rw [(c3 h).2, u2_same, y1]
            · rw [v2, y2, hd]; exact e1 h
            · rw [v2, y2, hd]; exact e2 h
        · rw [if_neg hk2] at y2
          rw [if_neg hk2]
          refine ⟨u2 (u2 A 95 0 v) 95 1 y, Int32.ofNat (sk bx t (nue bx t p)) + 1, hfr, fun h => (Bool.false_ne_true h).elim, fun _ => ?_⟩
          rw [v2, y2]
          exact l225g (by omega)
    · rw [if_neg hk] at v2
      rw [if_neg hk]
      refine ⟨u2 A 95 0 v, Int32.ofNat (sk bx t p) + 1, fun b hb => u2_ne hb, fun h => (Bool.false_ne_true h).elim, fun _ => ?_⟩
      rw [v2]
      exact l225g (by omega)
  · omega
theorem y225 (hX : TY F A bx t) (hp : p ≤ t) : ∃ A' p' w', (∀ b, b ≠ 95 → A' b = A b) ∧ ((cmd bx t p).1 = true → (1 ≤ nnu (cwd bx t p) → A' 95 0 = Int32.ofNat (cmd bx t p).2.2.1) ∧ (2 ≤ nnu (cwd bx t p) → A' 95 1 = Int32.ofNat (cmd bx t p).2.2.2) ∧ Rv 225 0 [some (.ref 90), some (.int x), none] [] (en G c (RF F (Int32.ofNat p) (-1) n w) A P W O) = Rv 225 93 [some (.ref 90), some (.int x), some (.int 1)] [] (en G c (RF F (Int32.ofNat (cmd bx t p).2.1) (-1) n (Int32.ofNat (cwd bx t p))) A' P W O)) ∧ (¬ (cmd bx t p).1 = true → Rv 225 0 [some (.ref 90), some (.int x), none] [] (en G c (RF F (Int32.ofNat p) (-1) n w) A P W O) = some (.inl (some (.int 0)), en G c (RF F p' (Int32.ofNat (cmd bx t p).2.1) n w') A' P W O)) := by
  have h150 := hX.1
  have hl := lt_ge bx hp
  have hcw : wdx bx p (lt' bx t p) = cwd bx t p := rfl
  have h3 := y223 (G := G) (c := c) (P := P) (W := W) (O := O) (f := -1) (n := n) (w := w) hX hp
  unfold cmd
  rw [hcw]
  rcases cwd_nn (bx := bx) (t := t) (p := p) with h | ⟨h, -⟩
  · rw [if_pos h]
    rw [if_pos h] at h3
    by_cases hL : isr bx t 97 122 p = true
    · refine ⟨A, Int32.ofNat (lt' bx t p) + 1, wc (cwd bx t p), fun _ _ => rfl, fun h => (Bool.false_ne_true h).elim, fun _ => ?_⟩
      have h2 := l225g (G := G) (c := c) (F := F) (A := A) (P := P) (W := W) (O := O) (x := x) (a := Int32.ofNat (lt' bx t p)) (n := n) (w := wc (cwd bx t p)) (z := some (.int 0)) (show p < 2147483648 by omega)
      simp only [↓e225_0, ↓e225_1, ↓e225_2, ↓e225_4, ↓e225_6, ↓e225_9, ↓e225_12, ↓e225_15, ↓e225_16, ↓e225_17, ↓e225_18, ↓e225_21, ↓e225_22, ↓ldI_0, ↓ldI_s, ↓ldA_0, ↓ldA_n, ↓ldA_s, ↓ldL_0, ↓ldL_s, ↓lst_0, ↓lst_s, ↓cal_v, ↓cal_x, ↓vts_s, ↓vts_n, ↓lpr_0, ↓lpr_i, ↓lpr_r, ↓lpr_n, ↓lpr_s, PA_41, ↓reduceIte, or_true, true_or, ↓ho_40, ↓gf_40_0, ↓gf_40_1, ↓gf_40_2, ↓gf_40_3, ↓ho_49, ↓gf_49_0, ↓gf_49_1, ↓gf_49_2, ↓gf_49_3, ↓pf_49_3, ↓ho_50, ↓gf_50_0, ↓gf_50_1, ↓gf_50_2, ↓pf_50_2, ↓gf_50_3, ↓pf_50_3, ↓gf_50_4, ↓pf_50_4, ↓gf_50_5, ↓pf_50_5, ↓gf_50_6, ↓pf_50_6, ↓ho_54, ↓gf_54_0, ↓gf_54_1, ↓pf_54_1, ↓ho_88, ↓gf_88_0, ↓gf_88_1, ↓pf_88_1, ↓gf_88_2, ↓pf_88_2, ↓gf_88_3, ↓pf_88_3, ↓gf_88_4, ↓pf_88_4, ↓gf_88_5, ↓pf_88_5, ↓ho_90, ↓gf_90_0, ↓gf_90_1, ↓gf_90_2, ↓pf_90_2, ↓gf_90_3, ↓pf_90_3, ↓gf_90_4, ↓gf_90_5, ↓gf_90_6, ↓pf_90_6, ↓gf_90_7, ↓pf_90_7, ↓gf_90_8, ↓pf_90_8, ↓gf_90_9, ↓pf_90_9, ↓gf_90_10, ↓pf_90_10, ↓gf_90_11, ↓gf_41_0, ↓pf_41_0, ↓gf_41_1, ↓pf_41_1, ↓gf_41_2, ↓gf_41_3, ↓pf_41_3, ↓gf_41_4, ↓gf_41_5, ↓gf_41_6, ↓gf_41_7, ↓gf_41_8, ↓pf_41_8, ↓gf_41_9, ↓pf_41_9, ↓gf_41_10, ↓gf_41_11, ↓ho_41, ↓gi_42, ↓pi_42, ↓gi_43, ↓pi_43, ↓gi_44, ↓pi_44, ↓gi_45, ↓pi_45, ↓gi_46, ↓pi_46, ↓gi_47, ↓pi_47, ↓gi_48, ↓pi_48, ↓gi_51, ↓pi_51, ↓gi_52, ↓pi_52, ↓gi_53, ↓pi_53, ↓gi_91, ↓pi_91, ↓gi_92, ↓pi_92, ↓gi_93, ↓pi_93, ↓gi_95, ↓pi_95, ↓gi_89, ↓pi_89, ↓gi_94, ↓pi_94, ↓gi_1, ↓gi_3, ↓gn_1, ↓gn_2, ↓gr_2, ↓gr_55, ↓pr_55, ↓gl_96, ↓pl_96, ↓gf_w0, ↓gf_w1, ↓gw_w, ↓gf_s0, ↓gf_s1, ↓ho_s, ↓gn_b, ↓gi_b, y218l hX hp, hL, if_true, y222y, one_ne, if_false, h3]
      exact h2
    · refine ⟨A, Int32.ofNat p, w, fun _ _ => rfl, fun h => (Bool.false_ne_true h).elim, fun _ => ?_⟩
      simp only [↓e225_0, ↓e225_1, ↓e225_2, ↓e225_4, ↓e225_6, ↓e225_9, ↓e225_12, ↓e225_15, ↓e225_16, ↓e225_17, ↓e225_18, ↓e225_21, ↓e225_22, ↓ldI_0, ↓ldI_s, ↓ldA_0, ↓ldA_n, ↓ldA_s, ↓ldL_0, ↓ldL_s, ↓lst_0, ↓lst_s, ↓cal_v, ↓cal_x, ↓vts_s, ↓vts_n, ↓lpr_0, ↓lpr_i, ↓lpr_r, ↓lpr_n, ↓lpr_s, PA_41, ↓reduceIte, or_true, true_or, ↓ho_40, ↓gf_40_0, ↓gf_40_1, ↓gf_40_2, ↓gf_40_3, ↓ho_49, ↓gf_49_0, ↓gf_49_1, ↓gf_49_2, ↓gf_49_3, ↓pf_49_3, ↓ho_50, ↓gf_50_0, ↓gf_50_1, ↓gf_50_2, ↓pf_50_2, ↓gf_50_3, ↓pf_50_3, ↓gf_50_4, ↓pf_50_4, ↓gf_50_5, ↓pf_50_5, ↓gf_50_6, ↓pf_50_6, ↓ho_54, ↓gf_54_0, ↓gf_54_1, ↓pf_54_1, ↓ho_88, ↓gf_88_0, ↓gf_88_1, ↓pf_88_1, ↓gf_88_2, ↓pf_88_2, ↓gf_88_3, ↓pf_88_3, ↓gf_88_4, ↓pf_88_4, ↓gf_88_5, ↓pf_88_5, ↓ho_90, ↓gf_90_0, ↓gf_90_1, ↓gf_90_2, ↓pf_90_2, ↓gf_90_3, ↓pf_90_3, ↓gf_90_4, ↓gf_90_5, ↓gf_90_6, ↓pf_90_6, ↓gf_90_7, ↓pf_90_7, ↓gf_90_8, ↓pf_90_8, ↓gf_90_9, ↓pf_90_9, ↓gf_90_10, ↓pf_90_10, ↓gf_90_11, ↓gf_41_0, ↓pf_41_0, ↓gf_41_1, ↓pf_41_1, ↓gf_41_2, ↓gf_41_3, ↓pf_41_3, ↓gf_41_4, ↓gf_41_5, ↓gf_41_6, ↓gf_41_7, ↓gf_41_8, ↓pf_41_8, ↓gf_41_9, ↓pf_41_9, ↓gf_41_10, ↓gf_41_11, ↓ho_41, ↓gi_42, ↓pi_42, ↓gi_43, ↓pi_43, ↓gi_44, ↓pi_44, ↓gi_45, ↓pi_45, ↓gi_46, ↓pi_46, ↓gi_47, ↓pi_47, ↓gi_48, ↓pi_48, ↓gi_51, ↓pi_51, ↓gi_52, ↓pi_52, ↓gi_53, ↓pi_53, ↓gi_91, ↓pi_91, ↓gi_92, ↓pi_92, ↓gi_93, ↓pi_93, ↓gi_95, ↓pi_95, ↓gi_89, ↓pi_89, ↓gi_94, ↓pi_94, ↓gi_1, ↓gi_3, ↓gn_1, ↓gn_2, ↓gr_2, ↓gr_55, ↓pr_55, ↓gl_96, ↓pl_96, ↓gf_w0, ↓gf_w1, ↓gw_w, ↓gf_s0, ↓gf_s1, ↓ho_s, ↓gn_b, ↓gi_b, y218l hX hp, hL, if_false, Bool.false_eq_true, y222n (show p < 2147483648 by omega), z00, if_true, zb0]
  · have hne : ¬ cwd bx t p = 10 := by omega
    rw [if_neg hne]
    rw [if_neg hne] at h3
    have hL : isr bx t 97 122 p = true := by
      cases e : isr bx t 97 122 p
      · exfalso
        have e0 : lt' bx t p = p := by
          unfold lt'
          cases t - p with
          | zero => rfl
          | succ m =>
            show (if isr bx t 97 122 p = true then _ else p) = p
            rw [e]; rfl
        rcases wds_or bx p (lt' bx t p) 10 0 rfl with h2 | ⟨-, h2⟩
        · exact hne h2
        · have h4 := (wm_is.mp h2).1
          have h5 := (wl_ok _ h).1
          have h4 : wln (cwd bx t p) = lt' bx t p - p := h4
          omega
      · rfl
    have hwc : wc (cwd bx t p) = Int32.ofNat (cwd bx t p) := if_neg hne
    rw [hwc] at h3
    obtain ⟨A', p', f1, f2, f3⟩ := l225c (G := G) (c := c) (P := P) (W := W) (O := O) (x := x) (n := n) hX hl.2 h
    refine ⟨A', p', Int32.ofNat (cwd bx t p), f1, fun e => ⟨(f2 e).1, (f2 e).2.1, ?_⟩, fun e => ?_⟩
    · simp only [↓e225_0, ↓e225_1, ↓e225_2, ↓e225_4, ↓e225_6, ↓e225_9, ↓e225_12, ↓e225_15, ↓e225_16, ↓e225_17, ↓e225_18, ↓e225_21, ↓e225_22, ↓ldI_0, ↓ldI_s, ↓ldA_0, ↓ldA_n, ↓ldA_s, ↓ldL_0, ↓ldL_s, ↓lst_0, ↓lst_s, ↓cal_v, ↓cal_x, ↓vts_s, ↓vts_n, ↓lpr_0, ↓lpr_i, ↓lpr_r, ↓lpr_n, ↓lpr_s, PA_41, ↓reduceIte, or_true, true_or, ↓ho_40, ↓gf_40_0, ↓gf_40_1, ↓gf_40_2, ↓gf_40_3, ↓ho_49, ↓gf_49_0, ↓gf_49_1, ↓gf_49_2, ↓gf_49_3, ↓pf_49_3, ↓ho_50, ↓gf_50_0, ↓gf_50_1, ↓gf_50_2, ↓pf_50_2, ↓gf_50_3, ↓pf_50_3, ↓gf_50_4, ↓pf_50_4, ↓gf_50_5, ↓pf_50_5, ↓gf_50_6, ↓pf_50_6, ↓ho_54, ↓gf_54_0, ↓gf_54_1, ↓pf_54_1, ↓ho_88, ↓gf_88_0, ↓gf_88_1, ↓pf_88_1, ↓gf_88_2, ↓pf_88_2, ↓gf_88_3, ↓pf_88_3, ↓gf_88_4, ↓pf_88_4, ↓gf_88_5, ↓pf_88_5, ↓ho_90, ↓gf_90_0, ↓gf_90_1, ↓gf_90_2, ↓pf_90_2, ↓gf_90_3, ↓pf_90_3, ↓gf_90_4, ↓gf_90_5, ↓gf_90_6, ↓pf_90_6, ↓gf_90_7, ↓pf_90_7, ↓gf_90_8, ↓pf_90_8, ↓gf_90_9, ↓pf_90_9, ↓gf_90_10, ↓pf_90_10, ↓gf_90_11, ↓gf_41_0, ↓pf_41_0, ↓gf_41_1, ↓pf_41_1, ↓gf_41_2, ↓gf_41_3, ↓pf_41_3, ↓gf_41_4, ↓gf_41_5, ↓gf_41_6, ↓gf_41_7, ↓gf_41_8, ↓pf_41_8, ↓gf_41_9, ↓pf_41_9, ↓gf_41_10, ↓gf_41_11, ↓ho_41, ↓gi_42, ↓pi_42, ↓gi_43, ↓pi_43, ↓gi_44, ↓pi_44, ↓gi_45, ↓pi_45, ↓gi_46, ↓pi_46, ↓gi_47, ↓pi_47, ↓gi_48, ↓pi_48, ↓gi_51, ↓pi_51, ↓gi_52, ↓pi_52, ↓gi_53, ↓pi_53, ↓gi_91, ↓pi_91, ↓gi_92, ↓pi_92, ↓gi_93, ↓pi_93, ↓gi_95, ↓pi_95, ↓gi_89, ↓pi_89, ↓gi_94, ↓pi_94, ↓gi_1, ↓gi_3, ↓gn_1, ↓gn_2, ↓gr_2, ↓gr_55, ↓pr_55, ↓gl_96, ↓pl_96, ↓gf_w0, ↓gf_w1, ↓gw_w, ↓gf_s0, ↓gf_s1, ↓ho_s, ↓gn_b, ↓gi_b, y218l hX hp, hL, if_true, y222y, one_ne, if_false, h3]
      exact (f2 e).2.2
    · simp only [↓e225_0, ↓e225_1, ↓e225_2, ↓e225_4, ↓e225_6, ↓e225_9, ↓e225_12, ↓e225_15, ↓e225_16, ↓e225_17, ↓e225_18, ↓e225_21, ↓e225_22, ↓ldI_0, ↓ldI_s, ↓ldA_0, ↓ldA_n, ↓ldA_s, ↓ldL_0, ↓ldL_s, ↓lst_0, ↓lst_s, ↓cal_v, ↓cal_x, ↓vts_s, ↓vts_n, ↓lpr_0, ↓lpr_i, ↓lpr_r, ↓lpr_n, ↓lpr_s, PA_41, ↓reduceIte, or_true, true_or, ↓ho_40, ↓gf_40_0, ↓gf_40_1, ↓gf_40_2, ↓gf_40_3, ↓ho_49, ↓gf_49_0, ↓gf_49_1, ↓gf_49_2, ↓gf_49_3, ↓pf_49_3, ↓ho_50, ↓gf_50_0, ↓gf_50_1, ↓gf_50_2, ↓pf_50_2, ↓gf_50_3, ↓pf_50_3, ↓gf_50_4, ↓pf_50_4, ↓gf_50_5, ↓pf_50_5, ↓gf_50_6, ↓pf_50_6, ↓ho_54, ↓gf_54_0, ↓gf_54_1, ↓pf_54_1, ↓ho_88, ↓gf_88_0, ↓gf_88_1, ↓pf_88_1, ↓gf_88_2, ↓pf_88_2, ↓gf_88_3, ↓pf_88_3, ↓gf_88_4, ↓pf_88_4, ↓gf_88_5, ↓pf_88_5, ↓ho_90, ↓gf_90_0, ↓gf_90_1, ↓gf_90_2, ↓pf_90_2, ↓gf_90_3, ↓pf_90_3, ↓gf_90_4, ↓gf_90_5, ↓gf_90_6, ↓pf_90_6, ↓gf_90_7, ↓pf_90_7, ↓gf_90_8, ↓pf_90_8, ↓gf_90_9, ↓pf_90_9, ↓gf_90_10, ↓pf_90_10, ↓gf_90_11, ↓gf_41_0, ↓pf_41_0, ↓gf_41_1, ↓pf_41_1, ↓gf_41_2, ↓gf_41_3, ↓pf_41_3, ↓gf_41_4, ↓gf_41_5, ↓gf_41_6, ↓gf_41_7, ↓gf_41_8, ↓pf_41_8, ↓gf_41_9, ↓pf_41_9, ↓gf_41_10, ↓gf_41_11, ↓ho_41, ↓gi_42, ↓pi_42, ↓gi_43, ↓pi_43, ↓gi_44, ↓pi_44, ↓gi_45, ↓pi_45, ↓gi_46, ↓pi_46, ↓gi_47, ↓pi_47, ↓gi_48, ↓pi_48, ↓gi_51, ↓pi_51, ↓gi_52, ↓pi_52, ↓gi_53, ↓pi_53, ↓gi_91, ↓pi_91, ↓gi_92, ↓pi_92, ↓gi_93, ↓pi_93, ↓gi_95, ↓pi_95, ↓gi_89, ↓pi_89, ↓gi_94, ↓pi_94, ↓gi_1, ↓gi_3, ↓gn_1, ↓gn_2, ↓gr_2, ↓gr_55, ↓pr_55, ↓gl_96, ↓pl_96, ↓gf_w0, ↓gf_w1, ↓gw_w, ↓gf_s0, ↓gf_s1, ↓ho_s, ↓gn_b, ↓gi_b, y218l hX hp, hL, if_true, y222y, one_ne, if_false, h3]
      exact f3 e
end ZT
