/-! saving and undoing -/
theorem lit_sub : (1 : Int32) - 1 = 0 ∧ (2 : Int32) - 1 = 1 ∧ (3 : Int32) - 1 = 2 := by decide
def kpt (A : Nat → Nat → Int32) (u : Nat) (ks : Nat → Nat → Int32) : Prop := ∀ j, j < u → ∀ i, i < 115 → A 92 (115 * j + i) = ks j i
theorem u2_uA {A : Nat → Nat → Int32} {a i : Nat} {f : Nat → Int32} {x : Int32} : u2 (uA A a f) a i x = uA A a (upd f i x) := by
  funext b j
  unfold u2 uA upd
  by_cases h : b = a
  · subst h
    by_cases h2 : j = i
    · rw [if_pos ⟨rfl, h2⟩, if_pos rfl, if_pos h2]
    · rw [if_neg (fun e => h2 e.2), if_pos rfl, if_pos rfl, if_neg h2]
  · rw [if_neg (fun e => h e.1), if_neg h, if_neg h]
theorem uA_at {A : Nat → Nat → Int32} {a : Nat} {f : Nat → Int32} : uA A a f a = f := if_pos rfl
theorem uA_id {A : Nat → Nat → Int32} {a : Nat} : uA A a (A a) = A := by
  funext b
  unfold uA
  by_cases h : b = a
  · rw [if_pos h, h]
  · rw [if_neg h]
theorem uA_uA {A : Nat → Nat → Int32} {a : Nat} {f f' : Nat → Int32} : uA (uA A a f) a f' = uA A a f' := by
  funext b
  unfold uA
  by_cases h : b = a
  · rw [if_pos h, if_pos h]
  · rw [if_neg h, if_neg h, if_neg h]
section ZT
variable {G : zG} {c : Nat × Nat × Bool} {F A : Nat → Nat → Int32} {P : Nat → Nat} {W : Value} {O : Nat → Int64} {x y j k d e v m : Int32} {p q a b i n t u w : Nat} {g : Nat → Int32} {ks : Nat → Nat → Int32}
theorem s99 (hP : PV P) (hU : F 54 1 = Int32.ofNat 4) : Rv 99 0 [some (.ref 54), none, none] [] (en G c F A P W O) = some (.inl none, en G c (u2 F 54 1 (Int32.ofNat 3)) A (rotP P) W O) := by
  have p0 := ps_pa (hP.1 0 (by omega))
  have p1 := ps_pa (hP.1 1 (by omega))
  have p2 := ps_pa (hP.1 2 (by omega))
  have p3 := ps_pa (hP.1 3 (by omega))
  have r2 : ∀ a, uP P 0 a 2 = P 2 := fun _ => rfl
  have r3 : ∀ a b, uP (uP P 0 a) 1 b 3 = P 3 := fun _ _ => rfl
  simp only [↓e99_0, ↓e99_1, ↓e99_4, ↓e99_5, ↓e99_6, ↓e99_6n, ↓e99_7, ↓e99_8, ↓e99_10, ↓e99_11, ↓e99_14, ↓e99_15, ↓e99_18, ↓e99_19, ↓e99_20, ↓e99_21, ↓e99_22, ↓e99_25, ↓e99_26, ↓e99_27, ↓e99_28, ↓e99_31, ↓e99_34, ↓e99_35, ↓e99_38, ↓e99_39, ↓e99_40, ↓e99_41, ↓e99_42, ↓e99_43, ↓e99_46, ↓e99_47, ↓e99_48, ↓e99_51, ↓h99_9, ↓ldI_0, ↓ldI_s, ↓ldA_0, ↓ldA_n, ↓ldA_s, ↓ldL_0, ↓ldL_s, ↓lst_0, ↓lst_s, ↓cal_v, ↓cal_x, ↓vts_s, ↓vts_n, ↓lpr_0, ↓lpr_i, ↓lpr_r, ↓lpr_n, ↓lpr_s, PA_41, ↓reduceIte, or_true, true_or, ↓ho_40, ↓gf_40_0, ↓gf_40_1, ↓gf_40_2, ↓gf_40_3, ↓ho_49, ↓gf_49_0, ↓gf_49_1, ↓gf_49_2, ↓gf_49_3, ↓pf_49_3, ↓ho_50, ↓gf_50_0, ↓gf_50_1, ↓gf_50_2, ↓pf_50_2, ↓gf_50_3, ↓pf_50_3, ↓gf_50_4, ↓pf_50_4, ↓gf_50_5, ↓pf_50_5, ↓gf_50_6, ↓pf_50_6, ↓ho_54, ↓gf_54_0, ↓gf_54_1, ↓pf_54_1, ↓ho_88, ↓gf_88_0, ↓gf_88_1, ↓pf_88_1, ↓gf_88_2, ↓pf_88_2, ↓gf_88_3, ↓pf_88_3, ↓gf_88_4, ↓pf_88_4, ↓gf_88_5, ↓pf_88_5, ↓gf_41_0, ↓pf_41_0, ↓gf_41_1, ↓pf_41_1, ↓gf_41_2, ↓gf_41_3, ↓pf_41_3, ↓gf_41_4, ↓gf_41_5, ↓gf_41_6, ↓gf_41_7, ↓gf_41_8, ↓pf_41_8, ↓gf_41_9, ↓pf_41_9, ↓gf_41_10, ↓gf_41_11, ↓ho_41, ↓gi_42, ↓pi_42, ↓gi_43, ↓pi_43, ↓gi_44, ↓pi_44, ↓gi_45, ↓pi_45, ↓gi_46, ↓pi_46, ↓gi_47, ↓pi_47, ↓gi_48, ↓pi_48, ↓gi_51, ↓pi_51, ↓gi_52, ↓pi_52, ↓gi_53, ↓pi_53, ↓gi_89, ↓pi_89, ↓gi_1, ↓gn_1, ↓gr_55, ↓pr_55, p0, p1, p2, p3, zin_lit4, ix_0, ix_1, ix_2, ix_3, ↓lit_lt, ↓lit_add, ↓lit_sub, r2, r3, hU, io_pred]
  have e : uP (uP (uP (uP P 0 (P 1)) 1 (P 2)) 2 (P 3)) 3 (P 0) = rotP P := by
    funext j
    unfold uP rotP
    rfl
  rw [e]
/-- the plan into the place above -/
theorem l98 (hw : Wf g) (hR : Rp F A 41 g) (hP : PV P) (hu : u < 4) (hU : F 54 1 = Int32.ofNat u) (hK : ∀ j, j < u → Rp F A (P j) (ks j)) : ∃ F' A', (∀ b, b ≠ 54 → ¬ (56 ≤ b ∧ b ≤ 87) → F' b = F b) ∧ (∀ b, ¬ (56 ≤ b ∧ b ≤ 87) → A' b = A b) ∧ F' 54 1 = Int32.ofNat (u + 1) ∧ (∀ j, j < u + 1 → Rp F' A' (P j) (if j = u then g else ks j)) ∧ Rv 98 12 [some (.ref 54), some (.ref 41)] [] (en G c F A P W O) = some (.inl none, en G c F' A' P W O) := by
  have hq := hP.1 u hu
  have hr := ps_rg hq
  obtain ⟨F', A', h1, h2, h3, h4, h5⟩ := t31 (G := G) (c := c) (F := F) (A := A) (P := P) (W := W) (O := O) PA_41 (ps_pa hq) (show 41 ≠ P u by omega)
  have hqa := ps_pa hq
  refine ⟨u2 F' 54 1 (Int32.ofNat (u + 1)), A', fun b hb hb2 => ?_, fun b hb => h2 b (by omega), by rw [u2_at, upd_at], fun j hj => ?_, ?_⟩
  · rw [u2_ne hb, h1 b (by omega)]
  · by_cases e : j = u
    · subst e
      rw [if_pos rfl]
      have := rp_copy (F' := F') (A' := A') hw hR h3.1 h3.2.1 h3.2.2.1 h3.2.2.2.1 h3.2.2.2.2 h4
      exact rp_cg this (u2_ne (by omega)) fun i a1 a2 => rfl
    · rw [if_neg e]
      have hj' := ps_rg (hP.1 j (by omega))
      have hne := hP.2 j u (by omega) hu e
      have hf := pa_far (ps_pa (hP.1 j (by omega))) hqa hne
      exact rp_cg (hK j (by omega)) (by rw [u2_ne (by omega), h1 _ hne]) fun i a1 a2 => h2 _ (by omega)
  · simp only [↓e98_0, ↓e98_1, ↓e98_4, ↓e98_5, ↓e98_8, ↓e98_9, ↓e98_12, ↓e98_13, ↓e98_16, ↓e98_17, ↓e98_20, ↓e98_21, ↓e98_22, ↓e98_25, ↓e98_26, ↓e98_27, ↓e98_30, ↓e98_31, ↓e98_32, ↓e98_35, ↓ldI_0, ↓ldI_s, ↓ldA_0, ↓ldA_n, ↓ldA_s, ↓ldL_0, ↓ldL_s, ↓lst_0, ↓lst_s, ↓cal_v, ↓cal_x, ↓vts_s, ↓vts_n, ↓lpr_0, ↓lpr_i, ↓lpr_r, ↓lpr_n, ↓lpr_s, PA_41, ↓reduceIte, or_true, true_or, ↓ho_40, ↓gf_40_0, ↓gf_40_1, ↓gf_40_2, ↓gf_40_3, ↓ho_49, ↓gf_49_0, ↓gf_49_1, ↓gf_49_2, ↓gf_49_3, ↓pf_49_3, ↓ho_50, ↓gf_50_0, ↓gf_50_1, ↓gf_50_2, ↓pf_50_2, ↓gf_50_3, ↓pf_50_3, ↓gf_50_4, ↓pf_50_4, ↓gf_50_5, ↓pf_50_5, ↓gf_50_6, ↓pf_50_6, ↓ho_54, ↓gf_54_0, ↓gf_54_1, ↓pf_54_1, ↓ho_88, ↓gf_88_0, ↓gf_88_1, ↓pf_88_1, ↓gf_88_2, ↓pf_88_2, ↓gf_88_3, ↓pf_88_3, ↓gf_88_4, ↓pf_88_4, ↓gf_88_5, ↓pf_88_5, ↓gf_41_0, ↓pf_41_0, ↓gf_41_1, ↓pf_41_1, ↓gf_41_2, ↓gf_41_3, ↓pf_41_3, ↓gf_41_4, ↓gf_41_5, ↓gf_41_6, ↓gf_41_7, ↓gf_41_8, ↓pf_41_8, ↓gf_41_9, ↓pf_41_9, ↓gf_41_10, ↓gf_41_11, ↓ho_41, ↓gi_42, ↓pi_42, ↓gi_43, ↓pi_43, ↓gi_44, ↓pi_44, ↓gi_45, ↓pi_45, ↓gi_46, ↓pi_46, ↓gi_47, ↓pi_47, ↓gi_48, ↓pi_48, ↓gi_51, ↓pi_51, ↓gi_52, ↓pi_52, ↓gi_53, ↓pi_53, ↓gi_89, ↓pi_89, ↓gi_1, ↓gn_1, ↓gr_55, ↓pr_55, ↓ho_p, ↓gf_p_0, ↓pf_p_0, ↓gf_p_1, ↓pf_p_1, ↓gf_p_2, ↓gf_p_3, ↓pf_p_3, ↓gf_p_4, ↓gf_p_5, ↓gf_p_6, ↓gf_p_7, ↓gf_p_8, ↓pf_p_8, ↓gf_p_9, ↓pf_p_9, ↓gf_p_10, ↓gf_p_11, hU, io_zin (show u < 2147483648 by omega) (show u < 4 by omega), io_ix (show u < 2147483648 by omega), hqa, h5, show F' 54 1 = Int32.ofNat u from by rw [h1 54 (by omega)]; exact hU, io_succ]
theorem t98 (hw : Wf g) (hR : Rp F A 41 g) (hP : PV P) (hu : u ≤ 4) (hU : F 54 1 = Int32.ofNat u) (hK : ∀ j, j < u → Rp F A (P j) (ks j)) : ∃ F' A' P', (∀ b, b ≠ 54 → ¬ (56 ≤ b ∧ b ≤ 87) → F' b = F b) ∧ (∀ b, ¬ (56 ≤ b ∧ b ≤ 87) → A' b = A b) ∧ PV P' ∧ F' 54 1 = Int32.ofNat (svu u) ∧ (∀ j, j < svu u → Rp F' A' (P' j) (svk u g ks j)) ∧ Rv 98 0 [some (.ref 54), some (.ref 41)] [] (en G c F A P W O) = some (.inl none, en G c F' A' P' W O) := by
  by_cases h4 : u = 4
  · subst h4
    have hU3 : u2 F 54 1 (Int32.ofNat 3) 54 1 = Int32.ofNat 3 := by rw [u2_at, upd_at]
    have hK3 : ∀ j, j < 3 → Rp (u2 F 54 1 (Int32.ofNat 3)) A (rotP P j) (ks (j + 1)) := fun j hj => by
      have e : rotP P j = P (j + 1) := by
        rcases j with _ | _ | _ | j
        · rfl
        · rfl
        · rfl
        · omega
      have := ps_rg (hP.1 (j + 1) (by omega))
      rw [e]
      exact rp_cg (hK (j + 1) (by omega)) (u2_ne (by omega)) fun i a1 a2 => rfl
    obtain ⟨F', A', h1, h2, h3, h4, h5⟩ := l98 (G := G) (c := c) (W := W) (O := O) (ks := fun j => ks (j + 1)) hw (rp_cg hR (u2_ne (by omega)) fun i a1 a2 => rfl) (rot_pv hP) (by omega) hU3 hK3
    refine ⟨F', A', rotP P, fun b hb hb2 => by rw [h1 b hb hb2, u2_ne hb], h2, rot_pv hP, h3, fun j hj => ?_, ?_⟩
    · have := h4 j hj
      exact this
    · simp only [↓e98_0, ↓e98_1, ↓e98_4, ↓e98_5, ↓e98_8, ↓e98_9, ↓e98_12, ↓e98_13, ↓e98_16, ↓e98_17, ↓e98_20, ↓e98_21, ↓e98_22, ↓e98_25, ↓e98_26, ↓e98_27, ↓e98_30, ↓e98_31, ↓e98_32, ↓e98_35, ↓ldI_0, ↓ldI_s, ↓ldA_0, ↓ldA_n, ↓ldA_s, ↓ldL_0, ↓ldL_s, ↓lst_0, ↓lst_s, ↓cal_v, ↓cal_x, ↓vts_s, ↓vts_n, ↓lpr_0, ↓lpr_i, ↓lpr_r, ↓lpr_n, ↓lpr_s, PA_41, ↓reduceIte, or_true, true_or, ↓ho_40, ↓gf_40_0, ↓gf_40_1, ↓gf_40_2, ↓gf_40_3, ↓ho_49, ↓gf_49_0, ↓gf_49_1, ↓gf_49_2, ↓gf_49_3, ↓pf_49_3, ↓ho_50, ↓gf_50_0, ↓gf_50_1, ↓gf_50_2, ↓pf_50_2, ↓gf_50_3, ↓pf_50_3, ↓gf_50_4, ↓pf_50_4, ↓gf_50_5, ↓pf_50_5, ↓gf_50_6, ↓pf_50_6, ↓ho_54, ↓gf_54_0, ↓gf_54_1, ↓pf_54_1, ↓ho_88, ↓gf_88_0, ↓gf_88_1, ↓pf_88_1, ↓gf_88_2, ↓pf_88_2, ↓gf_88_3, ↓pf_88_3, ↓gf_88_4, ↓pf_88_4, ↓gf_88_5, ↓pf_88_5, ↓gf_41_0, ↓pf_41_0, ↓gf_41_1, ↓pf_41_1, ↓gf_41_2, ↓gf_41_3, ↓pf_41_3, ↓gf_41_4, ↓gf_41_5, ↓gf_41_6, ↓gf_41_7, ↓gf_41_8, ↓pf_41_8, ↓gf_41_9, ↓pf_41_9, ↓gf_41_10, ↓gf_41_11, ↓ho_41, ↓gi_42, ↓pi_42, ↓gi_43, ↓pi_43, ↓gi_44, ↓pi_44, ↓gi_45, ↓pi_45, ↓gi_46, ↓pi_46, ↓gi_47, ↓pi_47, ↓gi_48, ↓pi_48, ↓gi_51, ↓pi_51, ↓gi_52, ↓pi_52, ↓gi_53, ↓pi_53, ↓gi_89, ↓pi_89, ↓gi_1, ↓gn_1, ↓gr_55, ↓pr_55, hU, show (Int32.ofNat 4 < 4) = False from by decide, s99 hP hU]
      simp only [↓e98_0, ↓e98_1, ↓e98_4, ↓e98_5, ↓e98_8, ↓e98_9, ↓e98_12, ↓e98_13, ↓e98_16, ↓e98_17, ↓e98_20, ↓e98_21, ↓e98_22, ↓e98_25, ↓e98_26, ↓e98_27, ↓e98_30, ↓e98_31, ↓e98_32, ↓e98_35, ↓ldI_0, ↓ldI_s, ↓ldA_0, ↓ldA_n, ↓ldA_s, ↓ldL_0, ↓ldL_s, ↓lst_0, ↓lst_s, ↓cal_v, ↓cal_x, ↓vts_s, ↓vts_n, ↓lpr_0, ↓lpr_i, ↓lpr_r, ↓lpr_n, ↓lpr_s, PA_41, ↓reduceIte, or_true, true_or, ↓ho_40, ↓gf_40_0, ↓gf_40_1, ↓gf_40_2, ↓gf_40_3, ↓ho_49, ↓gf_49_0, ↓gf_49_1, ↓gf_49_2, ↓gf_49_3, ↓pf_49_3, ↓ho_50, ↓gf_50_0, ↓gf_50_1, ↓gf_50_2, ↓pf_50_2, ↓gf_50_3, ↓pf_50_3, ↓gf_50_4, ↓pf_50_4, ↓gf_50_5, ↓pf_50_5, ↓gf_50_6, ↓pf_50_6, ↓ho_54, ↓gf_54_0, ↓gf_54_1, ↓pf_54_1, ↓ho_88, ↓gf_88_0, ↓gf_88_1, ↓pf_88_1, ↓gf_88_2, ↓pf_88_2, ↓gf_88_3, ↓pf_88_3, ↓gf_88_4, ↓pf_88_4, ↓gf_88_5, ↓pf_88_5, ↓gf_41_0, ↓pf_41_0, ↓gf_41_1, ↓pf_41_1, ↓gf_41_2, ↓gf_41_3, ↓pf_41_3, ↓gf_41_4, ↓gf_41_5, ↓gf_41_6, ↓gf_41_7, ↓gf_41_8, ↓pf_41_8, ↓gf_41_9, ↓pf_41_9, ↓gf_41_10, ↓gf_41_11, ↓ho_41, ↓gi_42, ↓pi_42, ↓gi_43, ↓pi_43, ↓gi_44, ↓pi_44, ↓gi_45, ↓pi_45, ↓gi_46, ↓pi_46, ↓gi_47, ↓pi_47, ↓gi_48, ↓pi_48, ↓gi_51, ↓pi_51, ↓gi_52, ↓pi_52, ↓gi_53, ↓pi_53, ↓gi_89, ↓pi_89, ↓gi_1, ↓gn_1, ↓gr_55, ↓pr_55] at h5
      exact h5
  · obtain ⟨F', A', h1, h2, h3, h4', h5⟩ := l98 (G := G) (c := c) (W := W) (O := O) (ks := ks) hw hR hP (show u < 4 by omega) hU hK
    refine ⟨F', A', P, h1, h2, hP, ?_, fun j hj => ?_, ?_⟩
    · unfold svu; rw [if_neg h4]; exact h3
    · unfold svu at hj
      rw [if_neg h4] at hj
      unfold svk
      rw [if_neg h4]
      exact h4' j hj
    · simp only [↓e98_0, ↓e98_1, ↓e98_4, ↓e98_5, ↓e98_8, ↓e98_9, ↓e98_12, ↓e98_13, ↓e98_16, ↓e98_17, ↓e98_20, ↓e98_21, ↓e98_22, ↓e98_25, ↓e98_26, ↓e98_27, ↓e98_30, ↓e98_31, ↓e98_32, ↓e98_35, ↓ldI_0, ↓ldI_s, ↓ldA_0, ↓ldA_n, ↓ldA_s, ↓ldL_0, ↓ldL_s, ↓lst_0, ↓lst_s, ↓cal_v, ↓cal_x, ↓vts_s, ↓vts_n, ↓lpr_0, ↓lpr_i, ↓lpr_r, ↓lpr_n, ↓lpr_s, PA_41, ↓reduceIte, or_true, true_or, ↓ho_40, ↓gf_40_0, ↓gf_40_1, ↓gf_40_2, ↓gf_40_3, ↓ho_49, ↓gf_49_0, ↓gf_49_1, ↓gf_49_2, ↓gf_49_3, ↓pf_49_3, ↓ho_50, ↓gf_50_0, ↓gf_50_1, ↓gf_50_2, ↓pf_50_2, ↓gf_50_3, ↓pf_50_3, ↓gf_50_4, ↓pf_50_4, ↓gf_50_5, ↓pf_50_5, ↓gf_50_6, ↓pf_50_6, ↓ho_54, ↓gf_54_0, ↓gf_54_1, ↓pf_54_1, ↓ho_88, ↓gf_88_0, ↓gf_88_1, ↓pf_88_1, ↓gf_88_2, ↓pf_88_2, ↓gf_88_3, ↓pf_88_3, ↓gf_88_4, ↓pf_88_4, ↓gf_88_5, ↓pf_88_5, ↓gf_41_0, ↓pf_41_0, ↓gf_41_1, ↓pf_41_1, ↓gf_41_2, ↓gf_41_3, ↓pf_41_3, ↓gf_41_4, ↓gf_41_5, ↓gf_41_6, ↓gf_41_7, ↓gf_41_8, ↓pf_41_8, ↓gf_41_9, ↓pf_41_9, ↓gf_41_10, ↓gf_41_11, ↓ho_41, ↓gi_42, ↓pi_42, ↓gi_43, ↓pi_43, ↓gi_44, ↓pi_44, ↓gi_45, ↓pi_45, ↓gi_46, ↓pi_46, ↓gi_47, ↓pi_47, ↓gi_48, ↓pi_48, ↓gi_51, ↓pi_51, ↓gi_52, ↓pi_52, ↓gi_53, ↓pi_53, ↓gi_89, ↓pi_89, ↓gi_1, ↓gn_1, ↓gr_55, ↓pr_55, hU, show (Int32.ofNat u < 4) = True from by rw [show (4 : Int32) = Int32.ofNat 4 from rfl, io_lt (by omega) (by omega)]; exact eq_true (by omega)]
      simp only [↓e98_0, ↓e98_1, ↓e98_4, ↓e98_5, ↓e98_8, ↓e98_9, ↓e98_12, ↓e98_13, ↓e98_16, ↓e98_17, ↓e98_20, ↓e98_21, ↓e98_22, ↓e98_25, ↓e98_26, ↓e98_27, ↓e98_30, ↓e98_31, ↓e98_32, ↓e98_35, ↓ldI_0, ↓ldI_s, ↓ldA_0, ↓ldA_n, ↓ldA_s, ↓ldL_0, ↓ldL_s, ↓lst_0, ↓lst_s, ↓cal_v, ↓cal_x, ↓vts_s, ↓vts_n, ↓lpr_0, ↓lpr_i, ↓lpr_r, ↓lpr_n, ↓lpr_s, PA_41, ↓reduceIte, or_true, true_or, ↓ho_40, ↓gf_40_0, ↓gf_40_1, ↓gf_40_2, ↓gf_40_3, ↓ho_49, ↓gf_49_0, ↓gf_49_1, ↓gf_49_2, ↓gf_49_3, ↓pf_49_3, ↓ho_50, ↓gf_50_0, ↓gf_50_1, ↓gf_50_2, ↓pf_50_2, ↓gf_50_3, ↓pf_50_3, ↓gf_50_4, ↓pf_50_4, ↓gf_50_5, ↓pf_50_5, ↓gf_50_6, ↓pf_50_6, ↓ho_54, ↓gf_54_0, ↓gf_54_1, ↓pf_54_1, ↓ho_88, ↓gf_88_0, ↓gf_88_1, ↓pf_88_1, ↓gf_88_2, ↓pf_88_2, ↓gf_88_3, ↓pf_88_3, ↓gf_88_4, ↓pf_88_4, ↓gf_88_5, ↓pf_88_5, ↓gf_41_0, ↓pf_41_0, ↓gf_41_1, ↓pf_41_1, ↓gf_41_2, ↓gf_41_3, ↓pf_41_3, ↓gf_41_4, ↓gf_41_5, ↓gf_41_6, ↓gf_41_7, ↓gf_41_8, ↓pf_41_8, ↓gf_41_9, ↓pf_41_9, ↓gf_41_10, ↓gf_41_11, ↓ho_41, ↓gi_42, ↓pi_42, ↓gi_43, ↓pi_43, ↓gi_44, ↓pi_44, ↓gi_45, ↓pi_45, ↓gi_46, ↓pi_46, ↓gi_47, ↓pi_47, ↓gi_48, ↓pi_48, ↓gi_51, ↓pi_51, ↓gi_52, ↓pi_52, ↓gi_53, ↓pi_53, ↓gi_89, ↓pi_89, ↓gi_1, ↓gn_1, ↓gr_55, ↓pr_55, hU] at h5
      exact h5
theorem s97 (hu : u ≤ 4) (hU : F 54 1 = Int32.ofNat u) : Rv 97 0 [some (.ref 54)] [] (en G c F A P W O) = some (.inl (some (.int (if u = 0 then 1 else 0))), (en G c F A P W O)) := by
  have e : (Int32.ofNat u = 0) = (u = 0) := io_eq (b := 0) (by omega) (by omega)
  simp only [↓e97_0, ↓e97_1, ↓e97_4, ↓e97_7, ↓e97_8, ↓e97_11, ↓e97_12, ↓ldI_0, ↓ldI_s, ↓ldA_0, ↓ldA_n, ↓ldA_s, ↓ldL_0, ↓ldL_s, ↓lst_0, ↓lst_s, ↓cal_v, ↓cal_x, ↓vts_s, ↓vts_n, ↓lpr_0, ↓lpr_i, ↓lpr_r, ↓lpr_n, ↓lpr_s, PA_41, ↓reduceIte, or_true, true_or, ↓ho_40, ↓gf_40_0, ↓gf_40_1, ↓gf_40_2, ↓gf_40_3, ↓ho_49, ↓gf_49_0, ↓gf_49_1, ↓gf_49_2, ↓gf_49_3, ↓pf_49_3, ↓ho_50, ↓gf_50_0, ↓gf_50_1, ↓gf_50_2, ↓pf_50_2, ↓gf_50_3, ↓pf_50_3, ↓gf_50_4, ↓pf_50_4, ↓gf_50_5, ↓pf_50_5, ↓gf_50_6, ↓pf_50_6, ↓ho_54, ↓gf_54_0, ↓gf_54_1, ↓pf_54_1, ↓ho_88, ↓gf_88_0, ↓gf_88_1, ↓pf_88_1, ↓gf_88_2, ↓pf_88_2, ↓gf_88_3, ↓pf_88_3, ↓gf_88_4, ↓pf_88_4, ↓gf_88_5, ↓pf_88_5, ↓gf_41_0, ↓pf_41_0, ↓gf_41_1, ↓pf_41_1, ↓gf_41_2, ↓gf_41_3, ↓pf_41_3, ↓gf_41_4, ↓gf_41_5, ↓gf_41_6, ↓gf_41_7, ↓gf_41_8, ↓pf_41_8, ↓gf_41_9, ↓pf_41_9, ↓gf_41_10, ↓gf_41_11, ↓ho_41, ↓gi_42, ↓pi_42, ↓gi_43, ↓pi_43, ↓gi_44, ↓pi_44, ↓gi_45, ↓pi_45, ↓gi_46, ↓pi_46, ↓gi_47, ↓pi_47, ↓gi_48, ↓pi_48, ↓gi_51, ↓pi_51, ↓gi_52, ↓pi_52, ↓gi_53, ↓pi_53, ↓gi_89, ↓pi_89, ↓gi_1, ↓gn_1, ↓gr_55, ↓pr_55, hU, e]
  by_cases h : u = 0
  · simp [h]
  · simp [h]
theorem t100 (hw : Wf (ks (u - 1))) (hP : PV P) (hu : u ≤ 4) (h1u : 1 ≤ u) (hU : F 54 1 = Int32.ofNat u) (hK : ∀ j, j < u → Rp F A (P j) (ks j)) : ∃ F' A', (∀ b, b ≠ 54 → b ≠ 41 → F' b = F b) ∧ (∀ b, ¬ (42 ≤ b ∧ b ≤ 48) → A' b = A b) ∧ F' 54 1 = Int32.ofNat (u - 1) ∧ Rp F' A' 41 (ks (u - 1)) ∧ Rv 100 0 [some (.ref 54), some (.ref 41)] [] (en G c F A P W O) = some (.inl (some (.int (Int32.ofNat (u - 1)))), en G c F' A' P W O) := by
  have hp := hP.1 (u - 1) (by omega)
  have hr := ps_rg hp
  have hpa := ps_pa hp
  obtain ⟨F', A', h1, h2, h3, h4, h5⟩ := t31 (G := G) (c := c) (F := u2 F 54 1 (Int32.ofNat (u - 1))) (A := A) (P := P) (W := W) (O := O) hpa PA_41 (show P (u - 1) ≠ 41 by omega)
  have hb : F' 54 1 = Int32.ofNat (u - 1) := by rw [h1 54 (by omega), u2_at, upd_at]
  have hRs : Rp (u2 F 54 1 (Int32.ofNat (u - 1))) A (P (u - 1)) (ks (u - 1)) := rp_cg (hK (u - 1) (by omega)) (u2_ne (by omega)) fun i a1 a2 => rfl
  refine ⟨F', A', fun b hb1 hb2 => by rw [h1 b hb2, u2_ne hb1], fun b hb => h2 b (by omega), hb, rp_copy hw hRs h3.1 h3.2.1 h3.2.2.1 h3.2.2.2.1 h3.2.2.2.2 h4, ?_⟩
  have hU2 : u2 F 54 1 (Int32.ofNat (u - 1)) 54 1 = Int32.ofNat (u - 1) := by rw [u2_at, upd_at]
  simp only [↓e100_0, ↓e100_1, ↓e100_2, ↓e100_5, ↓e100_6, ↓e100_7, ↓e100_10, ↓e100_11, ↓e100_12, ↓e100_15, ↓e100_16, ↓e100_19, ↓e100_20, ↓e100_23, ↓e100_24, ↓e100_27, ↓ldI_0, ↓ldI_s, ↓ldA_0, ↓ldA_n, ↓ldA_s, ↓ldL_0, ↓ldL_s, ↓lst_0, ↓lst_s, ↓cal_v, ↓cal_x, ↓vts_s, ↓vts_n, ↓lpr_0, ↓lpr_i, ↓lpr_r, ↓lpr_n, ↓lpr_s, PA_41, ↓reduceIte, or_true, true_or, ↓ho_40, ↓gf_40_0, ↓gf_40_1, ↓gf_40_2, ↓gf_40_3, ↓ho_49, ↓gf_49_0, ↓gf_49_1, ↓gf_49_2, ↓gf_49_3, ↓pf_49_3, ↓ho_50, ↓gf_50_0, ↓gf_50_1, ↓gf_50_2, ↓pf_50_2, ↓gf_50_3, ↓pf_50_3, ↓gf_50_4, ↓pf_50_4, ↓gf_50_5, ↓pf_50_5, ↓gf_50_6, ↓pf_50_6, ↓ho_54, ↓gf_54_0, ↓gf_54_1, ↓pf_54_1, ↓ho_88, ↓gf_88_0, ↓gf_88_1, ↓pf_88_1, ↓gf_88_2, ↓pf_88_2, ↓gf_88_3, ↓pf_88_3, ↓gf_88_4, ↓pf_88_4, ↓gf_88_5, ↓pf_88_5, ↓gf_41_0, ↓pf_41_0, ↓gf_41_1, ↓pf_41_1, ↓gf_41_2, ↓gf_41_3, ↓pf_41_3, ↓gf_41_4, ↓gf_41_5, ↓gf_41_6, ↓gf_41_7, ↓gf_41_8, ↓pf_41_8, ↓gf_41_9, ↓pf_41_9, ↓gf_41_10, ↓gf_41_11, ↓ho_41, ↓gi_42, ↓pi_42, ↓gi_43, ↓pi_43, ↓gi_44, ↓pi_44, ↓gi_45, ↓pi_45, ↓gi_46, ↓pi_46, ↓gi_47, ↓pi_47, ↓gi_48, ↓pi_48, ↓gi_51, ↓pi_51, ↓gi_52, ↓pi_52, ↓gi_53, ↓pi_53, ↓gi_89, ↓pi_89, ↓gi_1, ↓gn_1, ↓gr_55, ↓pr_55, hU, io_sub1 h1u, hU2, io_zin (show u - 1 < 2147483648 by omega) (show u - 1 < 4 by omega), io_ix (show u - 1 < 2147483648 by omega), h5, hb]
end ZT
