/-! the class's fault, and its run -/
noncomputable def okb (g : Nat → Int32) (w a b : Nat) : Bool := @decide (okc g w a b) (Classical.propDecidable _)
theorem okb_t {g : Nat → Int32} {w a b : Nat} : okb g w a b = true ↔ okc g w a b := by
  unfold okb
  exact @decide_eq_true_iff _ (Classical.propDecidable _)
/-- n commands at most, from p on: the row then, and how many were carried out -/
noncomputable def rn (bx : Nat → Nat) (t : Nat) : Nat → Nat → (Nat → Int32) → Nat → (Nat → Int32) × Nat
  | 0, _, g, n => (g, n)
  | f + 1, p, g, n => if sk bx t p < t then (if okb g (cwd bx t (sk bx t p)) (cmd bx t (sk bx t p)).2.2.1 (cmd bx t (sk bx t p)).2.2.2 = true then rn bx t f (cmd bx t (sk bx t p)).2.1 (opc g (cwd bx t (sk bx t p)) (cmd bx t (sk bx t p)).2.2.1 (cmd bx t (sk bx t p)).2.2.2) (n + 1) else (g, n)) else (g, n)
/-- the text's bytes -/
def byx (tx : Nat → Int32) (i : Nat) : Nat := (tx i).toNatClampNeg
theorem flt_ok {bx : Nat → Nat} {t m p : Nat} (hp : p ≤ t) (h : flt bx t (m + 1) p = -1) (hs : sk bx t p < t) (ht : t ≤ 150) : (cmd bx t (sk bx t p)).1 = true ∧ flt bx t m (cmd bx t (sk bx t p)).2.1 = -1 := by
  have e : flt bx t (m + 1) p = if sk bx t p < t then (if (cmd bx t (sk bx t p)).1 = true then flt bx t m (cmd bx t (sk bx t p)).2.1 else Int32.ofNat (cmd bx t (sk bx t p)).2.1) else -1 := rfl
  rw [e, if_pos hs] at h
  by_cases hc : (cmd bx t (sk bx t p)).1 = true
  · rw [if_pos hc] at h; exact ⟨hc, h⟩
  · rw [if_neg hc] at h
    have := (cmd_ok (bx := bx) (sk_ge bx hp).2).1
    exact absurd h (io_nn (by omega))
theorem flt_lt {bx : Nat → Nat} {t : Nat} : ∀ m p, p ≤ t → flt bx t m p = -1 ∨ ∃ f, f ≤ t ∧ flt bx t m p = Int32.ofNat f
  | 0, p, _ => Or.inl rfl
  | m + 1, p, hp => by
    have hs := sk_ge bx hp
    have hc := cmd_ok (bx := bx) hs.2
    have e : flt bx t (m + 1) p = if sk bx t p < t then (if (cmd bx t (sk bx t p)).1 = true then flt bx t m (cmd bx t (sk bx t p)).2.1 else Int32.ofNat (cmd bx t (sk bx t p)).2.1) else -1 := rfl
    rw [e]
    by_cases h : sk bx t p < t
    · rw [if_pos h]
      by_cases h2 : (cmd bx t (sk bx t p)).1 = true
      · rw [if_pos h2]; exact flt_lt m _ hc.1
      · rw [if_neg h2]; exact Or.inr ⟨_, hc.1, rfl⟩
    · rw [if_neg h]; exact Or.inl rfl
section ZT
variable {G : zG} {c : Nat × Nat × Bool} {F A : Nat → Nat → Int32} {P : Nat → Nat} {W : Value} {O : Nat → Int64} {x y j k d e v m s : Int32} {p q i n t u w o f : Nat} {a b : Int32} {bx : Nat → Nat} {g : Nat → Int32} {ks : Nat → Nat → Int32} {tx : Nat → Int32}
theorem t5 (hX : TX F A bx t) : ∃ q a' b' W', q ≤ t ∧ Rv 5 0 [some (.ref 88), none, none] [] (en G c (TF F x a b) A P W O) = some (.inl (some (.int (flt bx t 151 0))), en G c (TF F (Int32.ofNat q) a' b') A P W' O) := by
  have h150 := hX.1
  have hT := hX.2.1
  have key : ∀ n k p, k + n = 151 → p ≤ t → ∀ (a b : Int32) (W : Value) (z : Option Value), ∃ q a' b' W', q ≤ t ∧ Rv 5 6 [some (.ref 88), some (.int (Int32.ofNat k)), z] [] (en G c (TF F (Int32.ofNat p) a b) A P W O) = some (.inl (some (.int (flt bx t n p))), en G c (TF F (Int32.ofNat q) a' b') A P W' O) := by
    intro n
    induction n with
    | zero =>
      intro k p hk hp a b W z
      refine ⟨p, a, b, W, hp, ?_⟩
      rw [h5_6]
      simp only [↓e5_0, ↓e5_1, ↓e5_4, ↓e5_5, ↓e5_7, ↓e5_10, ↓e5_13, ↓e5_14, ↓e5_17, ↓e5_18, ↓e5_21, ↓e5_22, ↓e5_25, ↓e5_28, ↓e5_29, ↓e5_30, ↓e5_31, ↓e5_34, ↓e5_35, ↓e5_36, ↓e5_37, ↓e5_40, ↓e5_41, ↓e5_42, ↓e5_45, ↓e5_48, ↓e5_49, ↓ldI_0, ↓ldI_s, ↓ldA_0, ↓ldA_n, ↓ldA_s, ↓ldL_0, ↓ldL_s, ↓lst_0, ↓lst_s, ↓cal_v, ↓cal_x, ↓vts_s, ↓vts_n, ↓lpr_0, ↓lpr_i, ↓lpr_r, ↓lpr_n, ↓lpr_s, PA_41, ↓reduceIte, or_true, true_or, ↓ho_40, ↓gf_40_0, ↓gf_40_1, ↓gf_40_2, ↓gf_40_3, ↓ho_49, ↓gf_49_0, ↓gf_49_1, ↓gf_49_2, ↓gf_49_3, ↓pf_49_3, ↓ho_50, ↓gf_50_0, ↓gf_50_1, ↓gf_50_2, ↓pf_50_2, ↓gf_50_3, ↓pf_50_3, ↓gf_50_4, ↓pf_50_4, ↓gf_50_5, ↓pf_50_5, ↓gf_50_6, ↓pf_50_6, ↓ho_54, ↓gf_54_0, ↓gf_54_1, ↓pf_54_1, ↓ho_88, ↓gf_88_0, ↓gf_88_1, ↓pf_88_1, ↓gf_88_2, ↓pf_88_2, ↓gf_88_3, ↓pf_88_3, ↓gf_88_4, ↓pf_88_4, ↓gf_88_5, ↓pf_88_5, ↓ho_90, ↓gf_90_0, ↓gf_90_1, ↓gf_90_2, ↓pf_90_2, ↓gf_90_3, ↓pf_90_3, ↓gf_90_4, ↓gf_90_5, ↓gf_90_6, ↓pf_90_6, ↓gf_90_7, ↓pf_90_7, ↓gf_90_8, ↓pf_90_8, ↓gf_90_9, ↓pf_90_9, ↓gf_90_10, ↓pf_90_10, ↓gf_90_11, ↓gf_41_0, ↓pf_41_0, ↓gf_41_1, ↓pf_41_1, ↓gf_41_2, ↓gf_41_3, ↓pf_41_3, ↓gf_41_4, ↓gf_41_5, ↓gf_41_6, ↓gf_41_7, ↓gf_41_8, ↓pf_41_8, ↓gf_41_9, ↓pf_41_9, ↓gf_41_10, ↓gf_41_11, ↓ho_41, ↓gi_42, ↓pi_42, ↓gi_43, ↓pi_43, ↓gi_44, ↓pi_44, ↓gi_45, ↓pi_45, ↓gi_46, ↓pi_46, ↓gi_47, ↓pi_47, ↓gi_48, ↓pi_48, ↓gi_51, ↓pi_51, ↓gi_52, ↓pi_52, ↓gi_53, ↓pi_53, ↓gi_91, ↓pi_91, ↓gi_92, ↓pi_92, ↓gi_93, ↓pi_93, ↓gi_95, ↓pi_95, ↓gi_89, ↓pi_89, ↓gi_94, ↓pi_94, ↓gi_1, ↓gi_3, ↓gn_1, ↓gn_2, ↓gr_2, ↓gr_55, ↓pr_55, ↓gl_96, ↓pl_96, ↓gf_w0, ↓gf_w1, ↓gw_w, ↓gf_s0, ↓gf_s1, ↓ho_s, ↓gn_b, ↓gi_b, show ((150 : Int32) < Int32.ofNat k) = True from by rw [show (150 : Int32) = Int32.ofNat 150 from rfl, io_lt (by omega) (by omega)]; exact eq_true (by omega), flt]
    | succ n ih =>
      intro k p hk hp a b W z
      have hs := sk_ge bx hp
      have hcm := cmd_ok (bx := bx) hs.2
      have h151 : ((150 : Int32) < Int32.ofNat k) = False := le_lit (b := 150) (by omega) (by omega) (by omega)
      by_cases hst : sk bx t p < t
      · obtain ⟨q, a', b', q1, q2, q3⟩ := t7 (G := G) (c := c) (P := P) (W := W) (O := O) (a := a) (b := b) hX hs.2
        by_cases hok : (cmd bx t (sk bx t p)).1 = true
        · rw [if_pos hok] at q3
          obtain ⟨rfl, -, -⟩ := q2 hok
          obtain ⟨r, a2, b2, W2, r1, r2⟩ := ih (k + 1) (cmd bx t (sk bx t p)).2.1 (by omega) q1 a' b' (wv (cwd bx t (sk bx t p))) (some (.int (-1)))
          refine ⟨r, a2, b2, W2, r1, ?_⟩
          rw [h5_6]
          simp only [↓e5_0, ↓e5_1, ↓e5_4, ↓e5_5, ↓e5_7, ↓e5_10, ↓e5_13, ↓e5_14, ↓e5_17, ↓e5_18, ↓e5_21, ↓e5_22, ↓e5_25, ↓e5_28, ↓e5_29, ↓e5_30, ↓e5_31, ↓e5_34, ↓e5_35, ↓e5_36, ↓e5_37, ↓e5_40, ↓e5_41, ↓e5_42, ↓e5_45, ↓e5_48, ↓e5_49, ↓ldI_0, ↓ldI_s, ↓ldA_0, ↓ldA_n, ↓ldA_s, ↓ldL_0, ↓ldL_s, ↓lst_0, ↓lst_s, ↓cal_v, ↓cal_x, ↓vts_s, ↓vts_n, ↓lpr_0, ↓lpr_i, ↓lpr_r, ↓lpr_n, ↓lpr_s, PA_41, ↓reduceIte, or_true, true_or, ↓ho_40, ↓gf_40_0, ↓gf_40_1, ↓gf_40_2, ↓gf_40_3, ↓ho_49, ↓gf_49_0, ↓gf_49_1, ↓gf_49_2, ↓gf_49_3, ↓pf_49_3, ↓ho_50, ↓gf_50_0, ↓gf_50_1, ↓gf_50_2, ↓pf_50_2, ↓gf_50_3, ↓pf_50_3, ↓gf_50_4, ↓pf_50_4, ↓gf_50_5, ↓pf_50_5, ↓gf_50_6, ↓pf_50_6, ↓ho_54, ↓gf_54_0, ↓gf_54_1, ↓pf_54_1, ↓ho_88, ↓gf_88_0, ↓gf_88_1, ↓pf_88_1, ↓gf_88_2, ↓pf_88_2, ↓gf_88_3, ↓pf_88_3, ↓gf_88_4, ↓pf_88_4, ↓gf_88_5, ↓pf_88_5, ↓ho_90, ↓gf_90_0, ↓gf_90_1, ↓gf_90_2, ↓pf_90_2, ↓gf_90_3, ↓pf_90_3, ↓gf_90_4, ↓gf_90_5, ↓gf_90_6, ↓pf_90_6, ↓gf_90_7, ↓pf_90_7, ↓gf_90_8, ↓pf_90_8, ↓gf_90_9, ↓pf_90_9, ↓gf_90_10, ↓pf_90_10, ↓gf_90_11, ↓gf_41_0, ↓pf_41_0, ↓gf_41_1, ↓pf_41_1, ↓gf_41_2, ↓gf_41_3, ↓pf_41_3, ↓gf_41_4, ↓gf_41_5, ↓gf_41_6, ↓gf_41_7, ↓gf_41_8, ↓pf_41_8, ↓gf_41_9, ↓pf_41_9, ↓gf_41_10, ↓gf_41_11, ↓ho_41, ↓gi_42, ↓pi_42, ↓gi_43, ↓pi_43, ↓gi_44, ↓pi_44, ↓gi_45, ↓pi_45, ↓gi_46, ↓pi_46, ↓gi_47, ↓pi_47, ↓gi_48, ↓pi_48, ↓gi_51, ↓pi_51, ↓gi_52, ↓pi_52, ↓gi_53, ↓pi_53, ↓gi_91, ↓pi_91, ↓gi_92, ↓pi_92, ↓gi_93, ↓pi_93, ↓gi_95, ↓pi_95, ↓gi_89, ↓pi_89, ↓gi_94, ↓pi_94, ↓gi_1, ↓gi_3, ↓gn_1, ↓gn_2, ↓gr_2, ↓gr_55, ↓pr_55, ↓gl_96, ↓pl_96, ↓gf_w0, ↓gf_w1, ↓gw_w, ↓gf_s0, ↓gf_s1, ↓ho_s, ↓gn_b, ↓gi_b, h151, t12 hX hp, tf_2, tf_1, hT, io_lt (show sk bx t p < 2147483648 by omega) (show t < 2147483648 by omega), hst, q3, show ((-1 : Int32) = -1) = True from eq_true rfl, io_succ, r2, flt, hok, if_true]
        · rw [if_neg hok] at q3
          refine ⟨q, a', b', wv (cwd bx t (sk bx t p)), q1, ?_⟩
          rw [h5_6]
          simp only [↓e5_0, ↓e5_1, ↓e5_4, ↓e5_5, ↓e5_7, ↓e5_10, ↓e5_13, ↓e5_14, ↓e5_17, ↓e5_18, ↓e5_21, ↓e5_22, ↓e5_25, ↓e5_28, ↓e5_29, ↓e5_30, ↓e5_31, ↓e5_34, ↓e5_35, ↓e5_36, ↓e5_37, ↓e5_40, ↓e5_41, ↓e5_42, ↓e5_45, ↓e5_48, ↓e5_49, ↓ldI_0, ↓ldI_s, ↓ldA_0, ↓ldA_n, ↓ldA_s, ↓ldL_0, ↓ldL_s, ↓lst_0, ↓lst_s, ↓cal_v, ↓cal_x, ↓vts_s, ↓vts_n, ↓lpr_0, ↓lpr_i, ↓lpr_r, ↓lpr_n, ↓lpr_s, PA_41, ↓reduceIte, or_true, true_or, ↓ho_40, ↓gf_40_0, ↓gf_40_1, ↓gf_40_2, ↓gf_40_3, ↓ho_49, ↓gf_49_0, ↓gf_49_1, ↓gf_49_2, ↓gf_49_3, ↓pf_49_3, ↓ho_50, ↓gf_50_0, ↓gf_50_1, ↓gf_50_2, ↓pf_50_2, ↓gf_50_3, ↓pf_50_3, ↓gf_50_4, ↓pf_50_4, ↓gf_50_5, ↓pf_50_5, ↓gf_50_6, ↓pf_50_6, ↓ho_54, ↓gf_54_0, ↓gf_54_1, ↓pf_54_1, ↓ho_88, ↓gf_88_0, ↓gf_88_1, ↓pf_88_1, ↓gf_88_2, ↓pf_88_2, ↓gf_88_3, ↓pf_88_3, ↓gf_88_4, ↓pf_88_4, ↓gf_88_5, ↓pf_88_5, ↓ho_90, ↓gf_90_0, ↓gf_90_1, ↓gf_90_2, ↓pf_90_2, ↓gf_90_3, ↓pf_90_3, ↓gf_90_4, ↓gf_90_5, ↓gf_90_6, ↓pf_90_6, ↓gf_90_7, ↓pf_90_7, ↓gf_90_8, ↓pf_90_8, ↓gf_90_9, ↓pf_90_9, ↓gf_90_10, ↓pf_90_10, ↓gf_90_11, ↓gf_41_0, ↓pf_41_0, ↓gf_41_1, ↓pf_41_1, ↓gf_41_2, ↓gf_41_3, ↓pf_41_3, ↓gf_41_4, ↓gf_41_5, ↓gf_41_6, ↓gf_41_7, ↓gf_41_8, ↓pf_41_8, ↓gf_41_9, ↓pf_41_9, ↓gf_41_10, ↓gf_41_11, ↓ho_41, ↓gi_42, ↓pi_42, ↓gi_43, ↓pi_43, ↓gi_44, ↓pi_44, ↓gi_45, ↓pi_45, ↓gi_46, ↓pi_46, ↓gi_47, ↓pi_47, ↓gi_48, ↓pi_48, ↓gi_51, ↓pi_51, ↓gi_52, ↓pi_52, ↓gi_53, ↓pi_53, ↓gi_91, ↓pi_91, ↓gi_92, ↓pi_92, ↓gi_93, ↓pi_93, ↓gi_95, ↓pi_95, ↓gi_89, ↓pi_89, ↓gi_94, ↓pi_94, ↓gi_1, ↓gi_3, ↓gn_1, ↓gn_2, ↓gr_2, ↓gr_55, ↓pr_55, ↓gl_96, ↓pl_96, ↓gf_w0, ↓gf_w1, ↓gw_w, ↓gf_s0, ↓gf_s1, ↓ho_s, ↓gn_b, ↓gi_b, h151, t12 hX hp, tf_2, tf_1, hT, io_lt (show sk bx t p < 2147483648 by omega) (show t < 2147483648 by omega), hst, q3, io_nm (show (cmd bx t (sk bx t p)).2.1 < 2147483648 by omega), flt, hok, if_true, if_false, Bool.false_eq_true]
      · refine ⟨sk bx t p, a, b, W, hs.2, ?_⟩
        rw [h5_6]
        simp only [↓e5_0, ↓e5_1, ↓e5_4, ↓e5_5, ↓e5_7, ↓e5_10, ↓e5_13, ↓e5_14, ↓e5_17, ↓e5_18, ↓e5_21, ↓e5_22, ↓e5_25, ↓e5_28, ↓e5_29, ↓e5_30, ↓e5_31, ↓e5_34, ↓e5_35, ↓e5_36, ↓e5_37, ↓e5_40, ↓e5_41, ↓e5_42, ↓e5_45, ↓e5_48, ↓e5_49, ↓ldI_0, ↓ldI_s, ↓ldA_0, ↓ldA_n, ↓ldA_s, ↓ldL_0, ↓ldL_s, ↓lst_0, ↓lst_s, ↓cal_v, ↓cal_x, ↓vts_s, ↓vts_n, ↓lpr_0, ↓lpr_i, ↓lpr_r, ↓lpr_n, ↓lpr_s, PA_41, ↓reduceIte, or_true, true_or, ↓ho_40, ↓gf_40_0, ↓gf_40_1, ↓gf_40_2, ↓gf_40_3, ↓ho_49, ↓gf_49_0, ↓gf_49_1, ↓gf_49_2, ↓gf_49_3, ↓pf_49_3, ↓ho_50, ↓gf_50_0, ↓gf_50_1, ↓gf_50_2, ↓pf_50_2, ↓gf_50_3, ↓pf_50_3, ↓gf_50_4, ↓pf_50_4, ↓gf_50_5, ↓pf_50_5, ↓gf_50_6, ↓pf_50_6, ↓ho_54, ↓gf_54_0, ↓gf_54_1, ↓pf_54_1, ↓ho_88, ↓gf_88_0, ↓gf_88_1, ↓pf_88_1, ↓gf_88_2, ↓pf_88_2, ↓gf_88_3, ↓pf_88_3, ↓gf_88_4, ↓pf_88_4, ↓gf_88_5, ↓pf_88_5, ↓ho_90, ↓gf_90_0, ↓gf_90_1, ↓gf_90_2, ↓pf_90_2, ↓gf_90_3, ↓pf_90_3, ↓gf_90_4, ↓gf_90_5, ↓gf_90_6, ↓pf_90_6, ↓gf_90_7, ↓pf_90_7, ↓gf_90_8, ↓pf_90_8, ↓gf_90_9, ↓pf_90_9, ↓gf_90_10, ↓pf_90_10, ↓gf_90_11, ↓gf_41_0, ↓pf_41_0, ↓gf_41_1, ↓pf_41_1, ↓gf_41_2, ↓gf_41_3, ↓pf_41_3, ↓gf_41_4, ↓gf_41_5, ↓gf_41_6, ↓gf_41_7, ↓gf_41_8, ↓pf_41_8, ↓gf_41_9, ↓pf_41_9, ↓gf_41_10, ↓gf_41_11, ↓ho_41, ↓gi_42, ↓pi_42, ↓gi_43, ↓pi_43, ↓gi_44, ↓pi_44, ↓gi_45, ↓pi_45, ↓gi_46, ↓pi_46, ↓gi_47, ↓pi_47, ↓gi_48, ↓pi_48, ↓gi_51, ↓pi_51, ↓gi_52, ↓pi_52, ↓gi_53, ↓pi_53, ↓gi_91, ↓pi_91, ↓gi_92, ↓pi_92, ↓gi_93, ↓pi_93, ↓gi_95, ↓pi_95, ↓gi_89, ↓pi_89, ↓gi_94, ↓pi_94, ↓gi_1, ↓gi_3, ↓gn_1, ↓gn_2, ↓gr_2, ↓gr_55, ↓pr_55, ↓gl_96, ↓pl_96, ↓gf_w0, ↓gf_w1, ↓gw_w, ↓gf_s0, ↓gf_s1, ↓ho_s, ↓gn_b, ↓gi_b, h151, t12 hX hp, tf_2, tf_1, hT, io_lt (show sk bx t p < 2147483648 by omega) (show t < 2147483648 by omega), hst, flt, if_false]
  obtain ⟨q, a', b', W', q1, q2⟩ := key 151 0 0 (by omega) (Nat.zero_le t) a b W none
  refine ⟨q, a', b', W', q1, ?_⟩
  simp only [↓e5_0, ↓e5_1, ↓e5_4, ↓e5_5, ↓e5_7, ↓e5_10, ↓e5_13, ↓e5_14, ↓e5_17, ↓e5_18, ↓e5_21, ↓e5_22, ↓e5_25, ↓e5_28, ↓e5_29, ↓e5_30, ↓e5_31, ↓e5_34, ↓e5_35, ↓e5_36, ↓e5_37, ↓e5_40, ↓e5_41, ↓e5_42, ↓e5_45, ↓e5_48, ↓e5_49, ↓e4_0, ↓e4_1, ↓e4_2, ↓e4_5, ↓ldI_0, ↓ldI_s, ↓ldA_0, ↓ldA_n, ↓ldA_s, ↓ldL_0, ↓ldL_s, ↓lst_0, ↓lst_s, ↓cal_v, ↓cal_x, ↓vts_s, ↓vts_n, ↓lpr_0, ↓lpr_i, ↓lpr_r, ↓lpr_n, ↓lpr_s, PA_41, ↓reduceIte, or_true, true_or, ↓ho_40, ↓gf_40_0, ↓gf_40_1, ↓gf_40_2, ↓gf_40_3, ↓ho_49, ↓gf_49_0, ↓gf_49_1, ↓gf_49_2, ↓gf_49_3, ↓pf_49_3, ↓ho_50, ↓gf_50_0, ↓gf_50_1, ↓gf_50_2, ↓pf_50_2, ↓gf_50_3, ↓pf_50_3, ↓gf_50_4, ↓pf_50_4, ↓gf_50_5, ↓pf_50_5, ↓gf_50_6, ↓pf_50_6, ↓ho_54, ↓gf_54_0, ↓gf_54_1, ↓pf_54_1, ↓ho_88, ↓gf_88_0, ↓gf_88_1, ↓pf_88_1, ↓gf_88_2, ↓pf_88_2, ↓gf_88_3, ↓pf_88_3, ↓gf_88_4, ↓pf_88_4, ↓gf_88_5, ↓pf_88_5, ↓ho_90, ↓gf_90_0, ↓gf_90_1, ↓gf_90_2, ↓pf_90_2, ↓gf_90_3, ↓pf_90_3, ↓gf_90_4, ↓gf_90_5, ↓gf_90_6, ↓pf_90_6, ↓gf_90_7, ↓pf_90_7, ↓gf_90_8, ↓pf_90_8, ↓gf_90_9, ↓pf_90_9, ↓gf_90_10, ↓pf_90_10, ↓gf_90_11, ↓gf_41_0, ↓pf_41_0, ↓gf_41_1, ↓pf_41_1, ↓gf_41_2, ↓gf_41_3, ↓pf_41_3, ↓gf_41_4, ↓gf_41_5, ↓gf_41_6, ↓gf_41_7, ↓gf_41_8, ↓pf_41_8, ↓gf_41_9, ↓pf_41_9, ↓gf_41_10, ↓gf_41_11, ↓ho_41, ↓gi_42, ↓pi_42, ↓gi_43, ↓pi_43, ↓gi_44, ↓pi_44, ↓gi_45, ↓pi_45, ↓gi_46, ↓pi_46, ↓gi_47, ↓pi_47, ↓gi_48, ↓pi_48, ↓gi_51, ↓pi_51, ↓gi_52, ↓pi_52, ↓gi_53, ↓pi_53, ↓gi_91, ↓pi_91, ↓gi_92, ↓pi_92, ↓gi_93, ↓pi_93, ↓gi_95, ↓pi_95, ↓gi_89, ↓pi_89, ↓gi_94, ↓pi_94, ↓gi_1, ↓gi_3, ↓gn_1, ↓gn_2, ↓gr_2, ↓gr_55, ↓pr_55, ↓gl_96, ↓pl_96, ↓gf_w0, ↓gf_w1, ↓gw_w, ↓gf_s0, ↓gf_s1, ↓ho_s, ↓gn_b, ↓gi_b, tf_s2]
  exact q2
/-- the next word: none at the end, or where all is well -/
theorem t6_e (hX : TX F A bx t) (hp : p ≤ t) (hs : ¬ sk bx t p < t) : Rv 6 0 [some (.ref 88)] [] (en G c (TF F (Int32.ofNat p) a b) A P W O) = some (.inl (some .null), en G c (TF F (Int32.ofNat (sk bx t p)) a b) A P W O) := by
  have h150 := hX.1
  have hT := hX.2.1
  have h2 := sk_ge bx hp
  simp only [↓e6_0, ↓e6_1, ↓e6_4, ↓e6_5, ↓e6_8, ↓e6_9, ↓e6_12, ↓e6_15, ↓e6_16, ↓e6_19, ↓e6_20, ↓e6_23, ↓e6_24, ↓e6_24n, ↓e6_25, ↓e6_26, ↓e6_29, ↓e6_29n, ↓ldI_0, ↓ldI_s, ↓ldA_0, ↓ldA_n, ↓ldA_s, ↓ldL_0, ↓ldL_s, ↓lst_0, ↓lst_s, ↓cal_v, ↓cal_x, ↓vts_s, ↓vts_n, ↓lpr_0, ↓lpr_i, ↓lpr_r, ↓lpr_n, ↓lpr_s, PA_41, ↓reduceIte, or_true, true_or, ↓ho_40, ↓gf_40_0, ↓gf_40_1, ↓gf_40_2, ↓gf_40_3, ↓ho_49, ↓gf_49_0, ↓gf_49_1, ↓gf_49_2, ↓gf_49_3, ↓pf_49_3, ↓ho_50, ↓gf_50_0, ↓gf_50_1, ↓gf_50_2, ↓pf_50_2, ↓gf_50_3, ↓pf_50_3, ↓gf_50_4, ↓pf_50_4, ↓gf_50_5, ↓pf_50_5, ↓gf_50_6, ↓pf_50_6, ↓ho_54, ↓gf_54_0, ↓gf_54_1, ↓pf_54_1, ↓ho_88, ↓gf_88_0, ↓gf_88_1, ↓pf_88_1, ↓gf_88_2, ↓pf_88_2, ↓gf_88_3, ↓pf_88_3, ↓gf_88_4, ↓pf_88_4, ↓gf_88_5, ↓pf_88_5, ↓ho_90, ↓gf_90_0, ↓gf_90_1, ↓gf_90_2, ↓pf_90_2, ↓gf_90_3, ↓pf_90_3, ↓gf_90_4, ↓gf_90_5, ↓gf_90_6, ↓pf_90_6, ↓gf_90_7, ↓pf_90_7, ↓gf_90_8, ↓pf_90_8, ↓gf_90_9, ↓pf_90_9, ↓gf_90_10, ↓pf_90_10, ↓gf_90_11, ↓gf_41_0, ↓pf_41_0, ↓gf_41_1, ↓pf_41_1, ↓gf_41_2, ↓gf_41_3, ↓pf_41_3, ↓gf_41_4, ↓gf_41_5, ↓gf_41_6, ↓gf_41_7, ↓gf_41_8, ↓pf_41_8, ↓gf_41_9, ↓pf_41_9, ↓gf_41_10, ↓gf_41_11, ↓ho_41, ↓gi_42, ↓pi_42, ↓gi_43, ↓pi_43, ↓gi_44, ↓pi_44, ↓gi_45, ↓pi_45, ↓gi_46, ↓pi_46, ↓gi_47, ↓pi_47, ↓gi_48, ↓pi_48, ↓gi_51, ↓pi_51, ↓gi_52, ↓pi_52, ↓gi_53, ↓pi_53, ↓gi_91, ↓pi_91, ↓gi_92, ↓pi_92, ↓gi_93, ↓pi_93, ↓gi_95, ↓pi_95, ↓gi_89, ↓pi_89, ↓gi_94, ↓pi_94, ↓gi_1, ↓gi_3, ↓gn_1, ↓gn_2, ↓gr_2, ↓gr_55, ↓pr_55, ↓gl_96, ↓pl_96, ↓gf_w0, ↓gf_w1, ↓gw_w, ↓gf_s0, ↓gf_s1, ↓ho_s, ↓gn_b, ↓gi_b, t12 hX hp, tf_2, tf_1, hT, io_lt (show sk bx t p < 2147483648 by omega) (show t < 2147483648 by omega), hs]
theorem t6_w (hX : TX F A bx t) (hp : p ≤ t) (hs : sk bx t p < t) (hok : (cmd bx t (sk bx t p)).1 = true) : Rv 6 0 [some (.ref 88)] [] (en G c (TF F (Int32.ofNat p) a b) A P W O) = some (.inl (some (.ref (4 + cwd bx t (sk bx t p)))), en G c (TF F (Int32.ofNat (cmd bx t (sk bx t p)).2.1) (Int32.ofNat (cmd bx t (sk bx t p)).2.2.1) (Int32.ofNat (cmd bx t (sk bx t p)).2.2.2)) A P (.ref (4 + cwd bx t (sk bx t p))) O) := by
  have h150 := hX.1
  have hT := hX.2.1
  have h2 := sk_ge bx hp
  have hcm := (cmd_ok (bx := bx) h2.2).2 hok
  obtain ⟨q, a', b', q1, q2, q3⟩ := t7 (G := G) (c := c) (P := P) (W := W) (O := O) (a := a) (b := b) hX h2.2
  rw [if_pos hok] at q3
  obtain ⟨rfl, rfl, rfl⟩ := q2 hok
  have hv : wv (cwd bx t (sk bx t p)) = .ref (4 + cwd bx t (sk bx t p)) := if_neg (by omega)
  rw [hv] at q3
  simp only [↓e6_0, ↓e6_1, ↓e6_4, ↓e6_5, ↓e6_8, ↓e6_9, ↓e6_12, ↓e6_15, ↓e6_16, ↓e6_19, ↓e6_20, ↓e6_23, ↓e6_24, ↓e6_24n, ↓e6_25, ↓e6_26, ↓e6_29, ↓e6_29n, ↓ldI_0, ↓ldI_s, ↓ldA_0, ↓ldA_n, ↓ldA_s, ↓ldL_0, ↓ldL_s, ↓lst_0, ↓lst_s, ↓cal_v, ↓cal_x, ↓vts_s, ↓vts_n, ↓lpr_0, ↓lpr_i, ↓lpr_r, ↓lpr_n, ↓lpr_s, PA_41, ↓reduceIte, or_true, true_or, ↓ho_40, ↓gf_40_0, ↓gf_40_1, ↓gf_40_2, ↓gf_40_3, ↓ho_49, ↓gf_49_0, ↓gf_49_1, ↓gf_49_2, ↓gf_49_3, ↓pf_49_3, ↓ho_50, ↓gf_50_0, ↓gf_50_1, ↓gf_50_2, ↓pf_50_2, ↓gf_50_3, ↓pf_50_3, ↓gf_50_4, ↓pf_50_4, ↓gf_50_5, ↓pf_50_5, ↓gf_50_6, ↓pf_50_6, ↓ho_54, ↓gf_54_0, ↓gf_54_1, ↓pf_54_1, ↓ho_88, ↓gf_88_0, ↓gf_88_1, ↓pf_88_1, ↓gf_88_2, ↓pf_88_2, ↓gf_88_3, ↓pf_88_3, ↓gf_88_4, ↓pf_88_4, ↓gf_88_5, ↓pf_88_5, ↓ho_90, ↓gf_90_0, ↓gf_90_1, ↓gf_90_2, ↓pf_90_2, ↓gf_90_3, ↓pf_90_3, ↓gf_90_4, ↓gf_90_5, ↓gf_90_6, ↓pf_90_6, ↓gf_90_7, ↓pf_90_7, ↓gf_90_8, ↓pf_90_8, ↓gf_90_9, ↓pf_90_9, ↓gf_90_10, ↓pf_90_10, ↓gf_90_11, ↓gf_41_0, ↓pf_41_0, ↓gf_41_1, ↓pf_41_1, ↓gf_41_2, ↓gf_41_3, ↓pf_41_3, ↓gf_41_4, ↓gf_41_5, ↓gf_41_6, ↓gf_41_7, ↓gf_41_8, ↓pf_41_8, ↓gf_41_9, ↓pf_41_9, ↓gf_41_10, ↓gf_41_11, ↓ho_41, ↓gi_42, ↓pi_42, ↓gi_43, ↓pi_43, ↓gi_44, ↓pi_44, ↓gi_45, ↓pi_45, ↓gi_46, ↓pi_46, ↓gi_47, ↓pi_47, ↓gi_48, ↓pi_48, ↓gi_51, ↓pi_51, ↓gi_52, ↓pi_52, ↓gi_53, ↓pi_53, ↓gi_91, ↓pi_91, ↓gi_92, ↓pi_92, ↓gi_93, ↓pi_93, ↓gi_95, ↓pi_95, ↓gi_89, ↓pi_89, ↓gi_94, ↓pi_94, ↓gi_1, ↓gi_3, ↓gn_1, ↓gn_2, ↓gr_2, ↓gr_55, ↓pr_55, ↓gl_96, ↓pl_96, ↓gf_w0, ↓gf_w1, ↓gw_w, ↓gf_s0, ↓gf_s1, ↓ho_s, ↓gn_b, ↓gi_b, t12 hX hp, tf_2, tf_1, hT, io_lt (show sk bx t p < 2147483648 by omega) (show t < 2147483648 by omega), hs, q3, show ((-1 : Int32) = -1) = True from eq_true rfl]
theorem ci_tx2 (hS : SI g u ks t tx) (hC : CI F A P g u ks t tx) : TX F A (byx tx) t := by
  refine ⟨hS.2.2.2.1, hC.2.2.2.2.1, fun i hi => ?_⟩
  obtain ⟨b, hb, e⟩ := hS.2.2.2.2 i hi
  have e2 : byx tx i = b := by unfold byx; rw [e, io_ix (by omega)]
  rw [e2, hC.2.2.2.2.2.1 i hi, e]
  exact ⟨rfl, hb⟩
theorem ci_tf (hu : u ≤ 4) (hC : CI F A P g u ks t tx) : CI (TF F x a b) A P g u ks t tx ∧ frC F A (TF F x a b) A := by
  obtain ⟨hR, hP, hU, hK, hT, hX, hL⟩ := hC
  refine ⟨⟨rp_cg hR (tf_no (by omega)) fun i a1 a2 => rfl, hP, by rw [tf_no (by omega)]; exact hU, fun j hj => ?_, hT, hX, ?_⟩, ⟨tf_no (by omega), rfl, rfl, rfl⟩⟩
  · have hr := ps_rg (hP.1 j (by omega))
    exact rp_cg (hK j hj) (tf_no (by omega)) fun i a1 a2 => rfl
  · have f50 : TF F x a b 50 = F 50 := tf_no (by omega)
    rcases hL with h | ⟨g0, a0, a1, a2, a3, a4, a5⟩
    · exact Or.inl (by rw [f50]; exact h)
    · exact Or.inr ⟨g0, a0, by rw [f50]; exact a1, by rw [f50]; exact a2, by rw [f50]; exact a3, by rw [f50]; exact a4, LL_cg a5 rfl rfl rfl rfl (by rw [f50]) rfl rfl⟩
theorem l126 : ∀ n k p (g : Nat → Int32) (F A : Nat → Nat → Int32) (a b : Int32) (W : Value) (z : Option Value) (m : Nat), k + n = 150 → p ≤ t → t < p + m → SI g u ks t tx → CI F A P g u ks t tx → flt (byx tx) t m p = -1 → ∃ F' A' W', frC F A F' A' ∧ CI F' A' P (rn (byx tx) t n p g k).1 u ks t tx ∧ Wf (rn (byx tx) t n p g k).1 ∧ Rv 126 38 [some (.ref 40), some (.int x), some (.int (Int32.ofNat k)), z] [] (en G c (TF F (Int32.ofNat p) a b) A P W O) = some (.inl (some (.int (Int32.ofNat (rn (byx tx) t n p g k).2))), en G c F' A' P W' O) := by
  intro n
  induction n with
  | zero =>
    intro k p g F A a b W z m hk hp hm hS hC hf
    obtain ⟨i1, i2⟩ := ci_tf (x := Int32.ofNat p) (a := a) (b := b) hS.2.1 hC
    refine ⟨TF F (Int32.ofNat p) a b, A, W, i2, i1, hS.1, ?_⟩
    rw [h126_38]
    simp only [↓e126_0, ↓e126_1, ↓e126_4, ↓e126_7, ↓e126_8, ↓e126_9, ↓e126_10, ↓e126_13, ↓e126_15, ↓e126_16, ↓e126_17, ↓e126_18, ↓e126_19, ↓e126_22, ↓e126_23, ↓e126_26, ↓e126_29, ↓e126_30, ↓e126_33, ↓e126_36, ↓e126_37, ↓e126_39, ↓e126_42, ↓e126_45, ↓e126_46, ↓e126_49, ↓e126_52, ↓e126_52n, ↓e126_53, ↓e126_54n, ↓e126_54, ↓e126_57, ↓e126_58, ↓e126_59, ↓e126_60, ↓e126_63, ↓e126_66, ↓e126_67, ↓e126_70, ↓e126_73, ↓e126_76, ↓e126_79, ↓e126_80, ↓e126_81, ↓e126_82, ↓e126_83, ↓e126_84, ↓e126_87, ↓e126_90, ↓e126_91, ↓e126_94, ↓e126_97, ↓e126_100, ↓e126_101, ↓e126_104, ↓e126_107, ↓e126_110, ↓ldI_0, ↓ldI_s, ↓ldA_0, ↓ldA_n, ↓ldA_s, ↓ldL_0, ↓ldL_s, ↓lst_0, ↓lst_s, ↓cal_v, ↓cal_x, ↓vts_s, ↓vts_n, ↓lpr_0, ↓lpr_i, ↓lpr_r, ↓lpr_n, ↓lpr_s, PA_41, ↓reduceIte, or_true, true_or, ↓ho_40, ↓gf_40_0, ↓gf_40_1, ↓gf_40_2, ↓gf_40_3, ↓ho_49, ↓gf_49_0, ↓gf_49_1, ↓gf_49_2, ↓gf_49_3, ↓pf_49_3, ↓ho_50, ↓gf_50_0, ↓gf_50_1, ↓gf_50_2, ↓pf_50_2, ↓gf_50_3, ↓pf_50_3, ↓gf_50_4, ↓pf_50_4, ↓gf_50_5, ↓pf_50_5, ↓gf_50_6, ↓pf_50_6, ↓ho_54, ↓gf_54_0, ↓gf_54_1, ↓pf_54_1, ↓ho_88, ↓gf_88_0, ↓gf_88_1, ↓pf_88_1, ↓gf_88_2, ↓pf_88_2, ↓gf_88_3, ↓pf_88_3, ↓gf_88_4, ↓pf_88_4, ↓gf_88_5, ↓pf_88_5, ↓ho_90, ↓gf_90_0, ↓gf_90_1, ↓gf_90_2, ↓pf_90_2, ↓gf_90_3, ↓pf_90_3, ↓gf_90_4, ↓gf_90_5, ↓gf_90_6, ↓pf_90_6, ↓gf_90_7, ↓pf_90_7, ↓gf_90_8, ↓pf_90_8, ↓gf_90_9, ↓pf_90_9, ↓gf_90_10, ↓pf_90_10, ↓gf_90_11, ↓gf_41_0, ↓pf_41_0, ↓gf_41_1, ↓pf_41_1, ↓gf_41_2, ↓gf_41_3, ↓pf_41_3, ↓gf_41_4, ↓gf_41_5, ↓gf_41_6, ↓gf_41_7, ↓gf_41_8, ↓pf_41_8, ↓gf_41_9, ↓pf_41_9, ↓gf_41_10, ↓gf_41_11, ↓ho_41, ↓gi_42, ↓pi_42, ↓gi_43, ↓pi_43, ↓gi_44, ↓pi_44, ↓gi_45, ↓pi_45, ↓gi_46, ↓pi_46, ↓gi_47, ↓pi_47, ↓gi_48, ↓pi_48, ↓gi_51, ↓pi_51, ↓gi_52, ↓pi_52, ↓gi_53, ↓pi_53, ↓gi_91, ↓pi_91, ↓gi_92, ↓pi_92, ↓gi_93, ↓pi_93, ↓gi_95, ↓pi_95, ↓gi_89, ↓pi_89, ↓gi_94, ↓pi_94, ↓gi_1, ↓gi_3, ↓gn_1, ↓gn_2, ↓gr_2, ↓gr_55, ↓pr_55, ↓gl_96, ↓pl_96, ↓gf_w0, ↓gf_w1, ↓gw_w, ↓gf_s0, ↓gf_s1, ↓ho_s, ↓gn_b, ↓gi_b, show k = 150 by omega, show (Int32.ofNat 150 < 150) = False from by decide, rn]
    rfl
  | succ n ih =>
    intro k p g F A a b W z m hk hp hm hS hC hf
    have hX := ci_tx2 hS hC
    have h150 := hX.1
    have hs := sk_ge (byx tx) hp
    have hk150 : (Int32.ofNat k < 150) = True := by rw [show (150 : Int32) = Int32.ofNat 150 from rfl, io_lt (by omega) (by omega)]; exact eq_true (by omega)
    by_cases hst : sk (byx tx) t p < t
    · obtain ⟨m', rfl⟩ : ∃ m', m = m' + 1 := ⟨m - 1, by omega⟩
      obtain ⟨hok, hf2⟩ := flt_ok hp hf hst h150
      obtain ⟨c1, c2⟩ := cmd_ok (bx := byx tx) hs.2
      obtain ⟨c2, c3, c4, c5⟩ := c2 hok
      have h6 := t6_w (G := G) (c := c) (P := P) (W := W) (O := O) (a := a) (b := b) hX hp hst hok
      have er : rn (byx tx) t (n + 1) p g k = if okb g (cwd (byx tx) t (sk (byx tx) t p)) (cmd (byx tx) t (sk (byx tx) t p)).2.2.1 (cmd (byx tx) t (sk (byx tx) t p)).2.2.2 = true then rn (byx tx) t n (cmd (byx tx) t (sk (byx tx) t p)).2.1 (opc g (cwd (byx tx) t (sk (byx tx) t p)) (cmd (byx tx) t (sk (byx tx) t p)).2.2.1 (cmd (byx tx) t (sk (byx tx) t p)).2.2.2) (k + 1) else (g, k) := if_pos hst
      rw [er]
      generalize (cmd (byx tx) t (sk (byx tx) t p)).2.1 = q at *
      generalize (cmd (byx tx) t (sk (byx tx) t p)).2.2.1 = n1 at *
      generalize (cmd (byx tx) t (sk (byx tx) t p)).2.2.2 = n2 at *
      generalize cwd (byx tx) t (sk (byx tx) t p) = w at *
      obtain ⟨i1, i2⟩ := ci_tf (x := Int32.ofNat q) (a := Int32.ofNat n1) (b := Int32.ofNat n2) hS.2.1 hC
      by_cases ho : okc g w n1 n2
      · rw [if_pos (okb_t.mpr ho)]
        have h133 := t133y (G := G) (c := c) (P := P) (W := .ref (4 + w)) (O := O) hS.1 i1.1 c5 c3 c4 ho
        obtain ⟨F2, A2, v, f1, f2, f3, f4⟩ := t134 (G := G) (c := c) (P := P) (W := .ref (4 + w)) (O := O) hS.1 i1.1 c5 c3 c4 ho
        obtain ⟨j1, j2⟩ := ci_op hS.2.1 i1 f1 f2 f3
        have hS2 : SI (opc g w n1 n2) u ks t tx := ⟨wf_opc hS.1 c5 c3 c4 ho, hS.2⟩
        obtain ⟨F3, A3, W3, k1, k2, k3, k4⟩ := ih (k + 1) q (opc g w n1 n2) F2 A2 (Int32.ofNat n1) (Int32.ofNat n2) (.ref (4 + w)) (some (.ref (4 + w))) m' (by omega) c1 (by omega) hS2 j1 hf2
        refine ⟨F3, A3, W3, frC_t i2 (frC_t j2 k1), k2, k3, ?_⟩
        have e88 : F2 88 = TF F (Int32.ofNat q) (Int32.ofNat n1) (Int32.ofNat n2) 88 := f1 88 (by omega)
        have hF2 : TF F2 (Int32.ofNat q) (Int32.ofNat n1) (Int32.ofNat n2) = F2 := by
          have := tf_id (F := F2)
          rw [e88, tf_2, tf_4, tf_5] at this
          exact this
        rw [hF2] at k4
        rw [h126_38]
        simp only [↓e126_0, ↓e126_1, ↓e126_4, ↓e126_7, ↓e126_8, ↓e126_9, ↓e126_10, ↓e126_13, ↓e126_15, ↓e126_16, ↓e126_17, ↓e126_18, ↓e126_19, ↓e126_22, ↓e126_23, ↓e126_26, ↓e126_29, ↓e126_30, ↓e126_33, ↓e126_36, ↓e126_37, ↓e126_39, ↓e126_42, ↓e126_45, ↓e126_46, ↓e126_49, ↓e126_52, ↓e126_52n, ↓e126_53, ↓e126_54n, ↓e126_54, ↓e126_57, ↓e126_58, ↓e126_59, ↓e126_60, ↓e126_63, ↓e126_66, ↓e126_67, ↓e126_70, ↓e126_73, ↓e126_76, ↓e126_79, ↓e126_80, ↓e126_81, ↓e126_82, ↓e126_83, ↓e126_84, ↓e126_87, ↓e126_90, ↓e126_91, ↓e126_94, ↓e126_97, ↓e126_100, ↓e126_101, ↓e126_104, ↓e126_107, ↓e126_110, ↓ldI_0, ↓ldI_s, ↓ldA_0, ↓ldA_n, ↓ldA_s, ↓ldL_0, ↓ldL_s, ↓lst_0, ↓lst_s, ↓cal_v, ↓cal_x, ↓vts_s, ↓vts_n, ↓lpr_0, ↓lpr_i, ↓lpr_r, ↓lpr_n, ↓lpr_s, PA_41, ↓reduceIte, or_true, true_or, ↓ho_40, ↓gf_40_0, ↓gf_40_1, ↓gf_40_2, ↓gf_40_3, ↓ho_49, ↓gf_49_0, ↓gf_49_1, ↓gf_49_2, ↓gf_49_3, ↓pf_49_3, ↓ho_50, ↓gf_50_0, ↓gf_50_1, ↓gf_50_2, ↓pf_50_2, ↓gf_50_3, ↓pf_50_3, ↓gf_50_4, ↓pf_50_4, ↓gf_50_5, ↓pf_50_5, ↓gf_50_6, ↓pf_50_6, ↓ho_54, ↓gf_54_0, ↓gf_54_1, ↓pf_54_1, ↓ho_88, ↓gf_88_0, ↓gf_88_1, ↓pf_88_1, ↓gf_88_2, ↓pf_88_2, ↓gf_88_3, ↓pf_88_3, ↓gf_88_4, ↓pf_88_4, ↓gf_88_5, ↓pf_88_5, ↓ho_90, ↓gf_90_0, ↓gf_90_1, ↓gf_90_2, ↓pf_90_2, ↓gf_90_3, ↓pf_90_3, ↓gf_90_4, ↓gf_90_5, ↓gf_90_6, ↓pf_90_6, ↓gf_90_7, ↓pf_90_7, ↓gf_90_8, ↓pf_90_8, ↓gf_90_9, ↓pf_90_9, ↓gf_90_10, ↓pf_90_10, ↓gf_90_11, ↓gf_41_0, ↓pf_41_0, ↓gf_41_1, ↓pf_41_1, ↓gf_41_2, ↓gf_41_3, ↓pf_41_3, ↓gf_41_4, ↓gf_41_5, ↓gf_41_6, ↓gf_41_7, ↓gf_41_8, ↓pf_41_8, ↓gf_41_9, ↓pf_41_9, ↓gf_41_10, ↓gf_41_11, ↓ho_41, ↓gi_42, ↓pi_42, ↓gi_43, ↓pi_43, ↓gi_44, ↓pi_44, ↓gi_45, ↓pi_45, ↓gi_46, ↓pi_46, ↓gi_47, ↓pi_47, ↓gi_48, ↓pi_48, ↓gi_51, ↓pi_51, ↓gi_52, ↓pi_52, ↓gi_53, ↓pi_53, ↓gi_91, ↓pi_91, ↓gi_92, ↓pi_92, ↓gi_93, ↓pi_93, ↓gi_95, ↓pi_95, ↓gi_89, ↓pi_89, ↓gi_94, ↓pi_94, ↓gi_1, ↓gi_3, ↓gn_1, ↓gn_2, ↓gr_2, ↓gr_55, ↓pr_55, ↓gl_96, ↓pl_96, ↓gf_w0, ↓gf_w1, ↓gw_w, ↓gf_s0, ↓gf_s1, ↓ho_s, ↓gn_b, ↓gi_b, hk150, h6, tf_4, tf_5, h133, f4, io_succ, k4]
      · rw [if_neg (fun h => ho (okb_t.mp h))]
        obtain ⟨r, hr, h133⟩ := t133n (G := G) (c := c) (P := P) (W := .ref (4 + w)) (O := O) hS.1 i1.1 c5 c3 c4 ho
        refine ⟨TF F (Int32.ofNat q) (Int32.ofNat n1) (Int32.ofNat n2), A, .ref (4 + w), i2, i1, hS.1, ?_⟩
        rw [h126_38]
        simp only [↓e126_0, ↓e126_1, ↓e126_4, ↓e126_7, ↓e126_8, ↓e126_9, ↓e126_10, ↓e126_13, ↓e126_15, ↓e126_16, ↓e126_17, ↓e126_18, ↓e126_19, ↓e126_22, ↓e126_23, ↓e126_26, ↓e126_29, ↓e126_30, ↓e126_33, ↓e126_36, ↓e126_37, ↓e126_39, ↓e126_42, ↓e126_45, ↓e126_46, ↓e126_49, ↓e126_52, ↓e126_52n, ↓e126_53, ↓e126_54n, ↓e126_54, ↓e126_57, ↓e126_58, ↓e126_59, ↓e126_60, ↓e126_63, ↓e126_66, ↓e126_67, ↓e126_70, ↓e126_73, ↓e126_76, ↓e126_79, ↓e126_80, ↓e126_81, ↓e126_82, ↓e126_83, ↓e126_84, ↓e126_87, ↓e126_90, ↓e126_91, ↓e126_94, ↓e126_97, ↓e126_100, ↓e126_101, ↓e126_104, ↓e126_107, ↓e126_110, ↓ldI_0, ↓ldI_s, ↓ldA_0, ↓ldA_n, ↓ldA_s, ↓ldL_0, ↓ldL_s, ↓lst_0, ↓lst_s, ↓cal_v, ↓cal_x, ↓vts_s, ↓vts_n, ↓lpr_0, ↓lpr_i, ↓lpr_r, ↓lpr_n, ↓lpr_s, PA_41, ↓reduceIte, or_true, true_or, ↓ho_40, ↓gf_40_0, ↓gf_40_1, ↓gf_40_2, ↓gf_40_3, ↓ho_49, ↓gf_49_0, ↓gf_49_1, ↓gf_49_2, ↓gf_49_3, ↓pf_49_3, ↓ho_50, ↓gf_50_0, ↓gf_50_1, ↓gf_50_2, ↓pf_50_2, ↓gf_50_3, ↓pf_50_3, ↓gf_50_4, ↓pf_50_4, ↓gf_50_5, ↓pf_50_5, ↓gf_50_6, ↓pf_50_6, ↓ho_54, ↓gf_54_0, ↓gf_54_1, ↓pf_54_1, ↓ho_88, ↓gf_88_0, ↓gf_88_1, ↓pf_88_1, ↓gf_88_2, ↓pf_88_2, ↓gf_88_3, ↓pf_88_3, ↓gf_88_4, ↓pf_88_4, ↓gf_88_5, ↓pf_88_5, ↓ho_90, ↓gf_90_0, ↓gf_90_1, ↓gf_90_2, ↓pf_90_2, ↓gf_90_3, ↓pf_90_3, ↓gf_90_4, ↓gf_90_5, ↓gf_90_6, ↓pf_90_6, ↓gf_90_7, ↓pf_90_7, ↓gf_90_8, ↓pf_90_8, ↓gf_90_9, ↓pf_90_9, ↓gf_90_10, ↓pf_90_10, ↓gf_90_11, ↓gf_41_0, ↓pf_41_0, ↓gf_41_1, ↓pf_41_1, ↓gf_41_2, ↓gf_41_3, ↓pf_41_3, ↓gf_41_4, ↓gf_41_5, ↓gf_41_6, ↓gf_41_7, ↓gf_41_8, ↓pf_41_8, ↓gf_41_9, ↓pf_41_9, ↓gf_41_10, ↓gf_41_11, ↓ho_41, ↓gi_42, ↓pi_42, ↓gi_43, ↓pi_43, ↓gi_44, ↓pi_44, ↓gi_45, ↓pi_45, ↓gi_46, ↓pi_46, ↓gi_47, ↓pi_47, ↓gi_48, ↓pi_48, ↓gi_51, ↓pi_51, ↓gi_52, ↓pi_52, ↓gi_53, ↓pi_53, ↓gi_91, ↓pi_91, ↓gi_92, ↓pi_92, ↓gi_93, ↓pi_93, ↓gi_95, ↓pi_95, ↓gi_89, ↓pi_89, ↓gi_94, ↓pi_94, ↓gi_1, ↓gi_3, ↓gn_1, ↓gn_2, ↓gr_2, ↓gr_55, ↓pr_55, ↓gl_96, ↓pl_96, ↓gf_w0, ↓gf_w1, ↓gw_w, ↓gf_s0, ↓gf_s1, ↓ho_s, ↓gn_b, ↓gi_b, hk150, h6, tf_4, tf_5, h133, hr]
    · have er : rn (byx tx) t (n + 1) p g k = (g, k) := if_neg hst
      rw [er]
      obtain ⟨i1, i2⟩ := ci_tf (x := Int32.ofNat (sk (byx tx) t p)) (a := a) (b := b) hS.2.1 hC
      refine ⟨_, A, W, i2, i1, hS.1, ?_⟩
      rw [h126_38]
      simp only [↓e126_0, ↓e126_1, ↓e126_4, ↓e126_7, ↓e126_8, ↓e126_9, ↓e126_10, ↓e126_13, ↓e126_15, ↓e126_16, ↓e126_17, ↓e126_18, ↓e126_19, ↓e126_22, ↓e126_23, ↓e126_26, ↓e126_29, ↓e126_30, ↓e126_33, ↓e126_36, ↓e126_37, ↓e126_39, ↓e126_42, ↓e126_45, ↓e126_46, ↓e126_49, ↓e126_52, ↓e126_52n, ↓e126_53, ↓e126_54n, ↓e126_54, ↓e126_57, ↓e126_58, ↓e126_59, ↓e126_60, ↓e126_63, ↓e126_66, ↓e126_67, ↓e126_70, ↓e126_73, ↓e126_76, ↓e126_79, ↓e126_80, ↓e126_81, ↓e126_82, ↓e126_83, ↓e126_84, ↓e126_87, ↓e126_90, ↓e126_91, ↓e126_94, ↓e126_97, ↓e126_100, ↓e126_101, ↓e126_104, ↓e126_107, ↓e126_110, ↓ldI_0, ↓ldI_s, ↓ldA_0, ↓ldA_n, ↓ldA_s, ↓ldL_0, ↓ldL_s, ↓lst_0, ↓lst_s, ↓cal_v, ↓cal_x, ↓vts_s, ↓vts_n, ↓lpr_0, ↓lpr_i, ↓lpr_r, ↓lpr_n, ↓lpr_s, PA_41, ↓reduceIte, or_true, true_or, ↓ho_40, ↓gf_40_0, ↓gf_40_1, ↓gf_40_2, ↓gf_40_3, ↓ho_49, ↓gf_49_0, ↓gf_49_1, ↓gf_49_2, ↓gf_49_3, ↓pf_49_3, ↓ho_50, ↓gf_50_0, ↓gf_50_1, ↓gf_50_2, ↓pf_50_2, ↓gf_50_3, ↓pf_50_3, ↓gf_50_4, ↓pf_50_4, ↓gf_50_5, ↓pf_50_5, ↓gf_50_6, ↓pf_50_6, ↓ho_54, ↓gf_54_0, ↓gf_54_1, ↓pf_54_1, ↓ho_88, ↓gf_88_0, ↓gf_88_1, ↓pf_88_1, ↓gf_88_2, ↓pf_88_2, ↓gf_88_3, ↓pf_88_3, ↓gf_88_4, ↓pf_88_4, ↓gf_88_5, ↓pf_88_5, ↓ho_90, ↓gf_90_0, ↓gf_90_1, ↓gf_90_2, ↓pf_90_2, ↓gf_90_3, ↓pf_90_3, ↓gf_90_4, ↓gf_90_5, ↓gf_90_6, ↓pf_90_6, ↓gf_90_7, ↓pf_90_7, ↓gf_90_8, ↓pf_90_8, ↓gf_90_9, ↓pf_90_9, ↓gf_90_10, ↓pf_90_10, ↓gf_90_11, ↓gf_41_0, ↓pf_41_0, ↓gf_41_1, ↓pf_41_1, ↓gf_41_2, ↓gf_41_3, ↓pf_41_3, ↓gf_41_4, ↓gf_41_5, ↓gf_41_6, ↓gf_41_7, ↓gf_41_8, ↓pf_41_8, ↓gf_41_9, ↓pf_41_9, ↓gf_41_10, ↓gf_41_11, ↓ho_41, ↓gi_42, ↓pi_42, ↓gi_43, ↓pi_43, ↓gi_44, ↓pi_44, ↓gi_45, ↓pi_45, ↓gi_46, ↓pi_46, ↓gi_47, ↓pi_47, ↓gi_48, ↓pi_48, ↓gi_51, ↓pi_51, ↓gi_52, ↓pi_52, ↓gi_53, ↓pi_53, ↓gi_91, ↓pi_91, ↓gi_92, ↓pi_92, ↓gi_93, ↓pi_93, ↓gi_95, ↓pi_95, ↓gi_89, ↓pi_89, ↓gi_94, ↓pi_94, ↓gi_1, ↓gi_3, ↓gn_1, ↓gn_2, ↓gr_2, ↓gr_55, ↓pr_55, ↓gl_96, ↓pl_96, ↓gf_w0, ↓gf_w1, ↓gw_w, ↓gf_s0, ↓gf_s1, ↓ho_s, ↓gn_b, ↓gi_b, hk150, t6_e hX hp hst]
theorem c126f (hS : SI g u ks t tx) (hC : CI F A P g u ks t tx) (hf : ¬ flt (byx tx) t 151 0 = -1) : ∃ F' A' W', frC F A F' A' ∧ CI F' A' P g u ks t tx ∧ Rv 126 0 [some (.ref 40), none, none, none] [] (en G c F A P W O) = some (.inl (some (.int (-10 - flt (byx tx) t 151 0))), en G c F' A' P W' O) := by
  have hX := ci_tx2 hS hC
  obtain ⟨q, a', b', W', q1, q2⟩ := t5 (G := G) (c := c) (P := P) (W := W) (O := O) (x := F 88 2) (a := F 88 4) (b := F 88 5) hX
  rw [tf_id] at q2
  obtain ⟨i1, i2⟩ := ci_tf (x := Int32.ofNat q) (a := a') (b := b') hS.2.1 hC
  refine ⟨_, A, W', i2, i1, ?_⟩
  simp only [↓e126_0, ↓e126_1, ↓e126_4, ↓e126_7, ↓e126_8, ↓e126_9, ↓e126_10, ↓e126_13, ↓e126_15, ↓e126_16, ↓e126_17, ↓e126_18, ↓e126_19, ↓e126_22, ↓e126_23, ↓e126_26, ↓e126_29, ↓e126_30, ↓e126_33, ↓e126_36, ↓e126_37, ↓e126_39, ↓e126_42, ↓e126_45, ↓e126_46, ↓e126_49, ↓e126_52, ↓e126_52n, ↓e126_53, ↓e126_54n, ↓e126_54, ↓e126_57, ↓e126_58, ↓e126_59, ↓e126_60, ↓e126_63, ↓e126_66, ↓e126_67, ↓e126_70, ↓e126_73, ↓e126_76, ↓e126_79, ↓e126_80, ↓e126_81, ↓e126_82, ↓e126_83, ↓e126_84, ↓e126_87, ↓e126_90, ↓e126_91, ↓e126_94, ↓e126_97, ↓e126_100, ↓e126_101, ↓e126_104, ↓e126_107, ↓e126_110, ↓ldI_0, ↓ldI_s, ↓ldA_0, ↓ldA_n, ↓ldA_s, ↓ldL_0, ↓ldL_s, ↓lst_0, ↓lst_s, ↓cal_v, ↓cal_x, ↓vts_s, ↓vts_n, ↓lpr_0, ↓lpr_i, ↓lpr_r, ↓lpr_n, ↓lpr_s, PA_41, ↓reduceIte, or_true, true_or, ↓ho_40, ↓gf_40_0, ↓gf_40_1, ↓gf_40_2, ↓gf_40_3, ↓ho_49, ↓gf_49_0, ↓gf_49_1, ↓gf_49_2, ↓gf_49_3, ↓pf_49_3, ↓ho_50, ↓gf_50_0, ↓gf_50_1, ↓gf_50_2, ↓pf_50_2, ↓gf_50_3, ↓pf_50_3, ↓gf_50_4, ↓pf_50_4, ↓gf_50_5, ↓pf_50_5, ↓gf_50_6, ↓pf_50_6, ↓ho_54, ↓gf_54_0, ↓gf_54_1, ↓pf_54_1, ↓ho_88, ↓gf_88_0, ↓gf_88_1, ↓pf_88_1, ↓gf_88_2, ↓pf_88_2, ↓gf_88_3, ↓pf_88_3, ↓gf_88_4, ↓pf_88_4, ↓gf_88_5, ↓pf_88_5, ↓ho_90, ↓gf_90_0, ↓gf_90_1, ↓gf_90_2, ↓pf_90_2, ↓gf_90_3, ↓pf_90_3, ↓gf_90_4, ↓gf_90_5, ↓gf_90_6, ↓pf_90_6, ↓gf_90_7, ↓pf_90_7, ↓gf_90_8, ↓pf_90_8, ↓gf_90_9, ↓pf_90_9, ↓gf_90_10, ↓pf_90_10, ↓gf_90_11, ↓gf_41_0, ↓pf_41_0, ↓gf_41_1, ↓pf_41_1, ↓gf_41_2, ↓gf_41_3, ↓pf_41_3, ↓gf_41_4, ↓gf_41_5, ↓gf_41_6, ↓gf_41_7, ↓gf_41_8, ↓pf_41_8, ↓gf_41_9, ↓pf_41_9, ↓gf_41_10, ↓gf_41_11, ↓ho_41, ↓gi_42, ↓pi_42, ↓gi_43, ↓pi_43, ↓gi_44, ↓pi_44, ↓gi_45, ↓pi_45, ↓gi_46, ↓pi_46, ↓gi_47, ↓pi_47, ↓gi_48, ↓pi_48, ↓gi_51, ↓pi_51, ↓gi_52, ↓pi_52, ↓gi_53, ↓pi_53, ↓gi_91, ↓pi_91, ↓gi_92, ↓pi_92, ↓gi_93, ↓pi_93, ↓gi_95, ↓pi_95, ↓gi_89, ↓pi_89, ↓gi_94, ↓pi_94, ↓gi_1, ↓gi_3, ↓gn_1, ↓gn_2, ↓gr_2, ↓gr_55, ↓pr_55, ↓gl_96, ↓pl_96, ↓gf_w0, ↓gf_w1, ↓gw_w, ↓gf_s0, ↓gf_s1, ↓ho_s, ↓gn_b, ↓gi_b, q2, hf]
theorem c126y (hS : SI g u ks t tx) (hC : CI F A P g u ks t tx) (hf : flt (byx tx) t 151 0 = -1) : ∃ F' A' P' W', frC F A F' A' ∧ CI F' A' P' (rn (byx tx) t 150 0 g 0).1 (svu u) (svk u g ks) t tx ∧ Wf (rn (byx tx) t 150 0 g 0).1 ∧ Rv 126 0 [some (.ref 40), none, none, none] [] (en G c F A P W O) = some (.inl (some (.int (Int32.ofNat (rn (byx tx) t 150 0 g 0).2))), en G c F' A' P' W' O) := by
  have hX := ci_tx2 hS hC
  have h150 := hX.1
  obtain ⟨q, a', b', W', q1, q2⟩ := t5 (G := G) (c := c) (P := P) (W := W) (O := O) (x := F 88 2) (a := F 88 4) (b := F 88 5) hX
  rw [tf_id] at q2
  obtain ⟨i1, i2⟩ := ci_tf (x := Int32.ofNat q) (a := a') (b := b') hS.2.1 hC
  obtain ⟨F1, A1, P1, f1, f2, f3⟩ := ci_save (G := G) (c := c) (W := W') (O := O) hS i1
  obtain ⟨F2, A2, W2, k1, k2, k3, k4⟩ := l126 (G := G) (c := c) (O := O) (x := -1) 150 0 0 g F1 A1 (F1 88 4) (F1 88 5) W' none 151 (by omega) (Nat.zero_le _) (by omega) (si_save hS) f2 hf
  refine ⟨F2, A2, P1, W2, frC_t i2 (frC_t f1 k1), k2, k3, ?_⟩
  have e : u2 F1 88 2 0 = TF F1 (Int32.ofNat 0) (F1 88 4) (F1 88 5) := by
    rw [← tf_s2 (F := F1) (p := F1 88 2), tf_id]
    rfl
  simp only [↓e126_0, ↓e126_1, ↓e126_4, ↓e126_7, ↓e126_8, ↓e126_9, ↓e126_10, ↓e126_13, ↓e126_15, ↓e126_16, ↓e126_17, ↓e126_18, ↓e126_19, ↓e126_22, ↓e126_23, ↓e126_26, ↓e126_29, ↓e126_30, ↓e126_33, ↓e126_36, ↓e126_37, ↓e126_39, ↓e126_42, ↓e126_45, ↓e126_46, ↓e126_49, ↓e126_52, ↓e126_52n, ↓e126_53, ↓e126_54n, ↓e126_54, ↓e126_57, ↓e126_58, ↓e126_59, ↓e126_60, ↓e126_63, ↓e126_66, ↓e126_67, ↓e126_70, ↓e126_73, ↓e126_76, ↓e126_79, ↓e126_80, ↓e126_81, ↓e126_82, ↓e126_83, ↓e126_84, ↓e126_87, ↓e126_90, ↓e126_91, ↓e126_94, ↓e126_97, ↓e126_100, ↓e126_101, ↓e126_104, ↓e126_107, ↓e126_110, ↓e4_0, ↓e4_1, ↓e4_2, ↓e4_5, ↓ldI_0, ↓ldI_s, ↓ldA_0, ↓ldA_n, ↓ldA_s, ↓ldL_0, ↓ldL_s, ↓lst_0, ↓lst_s, ↓cal_v, ↓cal_x, ↓vts_s, ↓vts_n, ↓lpr_0, ↓lpr_i, ↓lpr_r, ↓lpr_n, ↓lpr_s, PA_41, ↓reduceIte, or_true, true_or, ↓ho_40, ↓gf_40_0, ↓gf_40_1, ↓gf_40_2, ↓gf_40_3, ↓ho_49, ↓gf_49_0, ↓gf_49_1, ↓gf_49_2, ↓gf_49_3, ↓pf_49_3, ↓ho_50, ↓gf_50_0, ↓gf_50_1, ↓gf_50_2, ↓pf_50_2, ↓gf_50_3, ↓pf_50_3, ↓gf_50_4, ↓pf_50_4, ↓gf_50_5, ↓pf_50_5, ↓gf_50_6, ↓pf_50_6, ↓ho_54, ↓gf_54_0, ↓gf_54_1, ↓pf_54_1, ↓ho_88, ↓gf_88_0, ↓gf_88_1, ↓pf_88_1, ↓gf_88_2, ↓pf_88_2, ↓gf_88_3, ↓pf_88_3, ↓gf_88_4, ↓pf_88_4, ↓gf_88_5, ↓pf_88_5, ↓ho_90, ↓gf_90_0, ↓gf_90_1, ↓gf_90_2, ↓pf_90_2, ↓gf_90_3, ↓pf_90_3, ↓gf_90_4, ↓gf_90_5, ↓gf_90_6, ↓pf_90_6, ↓gf_90_7, ↓pf_90_7, ↓gf_90_8, ↓pf_90_8, ↓gf_90_9, ↓pf_90_9, ↓gf_90_10, ↓pf_90_10, ↓gf_90_11, ↓gf_41_0, ↓pf_41_0, ↓gf_41_1, ↓pf_41_1, ↓gf_41_2, ↓gf_41_3, ↓pf_41_3, ↓gf_41_4, ↓gf_41_5, ↓gf_41_6, ↓gf_41_7, ↓gf_41_8, ↓pf_41_8, ↓gf_41_9, ↓pf_41_9, ↓gf_41_10, ↓gf_41_11, ↓ho_41, ↓gi_42, ↓pi_42, ↓gi_43, ↓pi_43, ↓gi_44, ↓pi_44, ↓gi_45, ↓pi_45, ↓gi_46, ↓pi_46, ↓gi_47, ↓pi_47, ↓gi_48, ↓pi_48, ↓gi_51, ↓pi_51, ↓gi_52, ↓pi_52, ↓gi_53, ↓pi_53, ↓gi_91, ↓pi_91, ↓gi_92, ↓pi_92, ↓gi_93, ↓pi_93, ↓gi_95, ↓pi_95, ↓gi_89, ↓pi_89, ↓gi_94, ↓pi_94, ↓gi_1, ↓gi_3, ↓gn_1, ↓gn_2, ↓gr_2, ↓gr_55, ↓pr_55, ↓gl_96, ↓pl_96, ↓gf_w0, ↓gf_w1, ↓gw_w, ↓gf_s0, ↓gf_s1, ↓ho_s, ↓gn_b, ↓gi_b, q2, hf, show ((-1 : Int32) = -1) = True from eq_true rfl, f3, e]
  exact k4
end ZT
