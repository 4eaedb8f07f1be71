/-! the law's loop -/
theorem svu_svu {u : Nat} (hu : u ≤ 4) : svu (svu u - 1) = svu u := by
  unfold svu
  by_cases h : u = 4
  · rw [if_pos h]; rfl
  · rw [if_neg h, if_neg (by omega)]; omega
theorem si_dec {g : Nat → Int32} {u t : Nat} {ks : Nat → Nat → Int32} {tx : Nat → Int32} (h : SI g u ks t tx) : SI g (u - 1) ks t tx := ⟨h.1, by have := h.2.1; omega, fun j hj => h.2.2.1 j (by omega), h.2.2.2⟩
section ZT
variable {G : zG} {c : Nat × Nat × Bool} {F A : Nat → Nat → Int32} {P : Nat → Nat} {W : Value} {O : Nat → Int64} {x y v : Int32} {a b i n t u w k d m : Nat} {g : Nat → Int32} {ks : Nat → Nat → Int32} {tx : Nat → Int32}
theorem l260d (hS : SI g u ks t tx) {h : Int64} : ∀ r k (F A : Nat → Nat → Int32), k + r = dn g → CI F A P g u ks t tx → ∃ F' A', CI F' A' P g u ks t tx ∧ Rv 260 33 [some (.ref 1), some (.ref 40), some (.int x), some (.long h), none, some (.int (Int32.ofNat k))] [] (en G c F A P W O) = Rv 260 61 [some (.ref 1), some (.ref 40), some (.int x), some (.long h), none, some (.int (Int32.ofNat (dn g)))] [] (en G c F' A' P W O) := by
  have hw := hS.1
  have m12 := wf_m12 hw
  intro r
  induction r with
  | zero =>
    intro k F A hk hC
    obtain ⟨F1, A1, C1, e1⟩ := w_6 (G := G) (c := c) (W := W) (O := O) hS hC
    refine ⟨F1, A1, C1, ?_⟩
    have hk : k = dn g := by omega
    subst hk
    rw [h260_33]
    simp only [↓e260_0, ↓e260_3, ↓e260_4, ↓e260_7, ↓e260_7n, ↓e260_8, ↓e260_9, ↓e260_11, ↓e260_13, ↓e260_16, ↓e260_17, ↓e260_18, ↓e260_19, ↓e260_22, ↓e260_25, ↓e260_26, ↓e260_29, ↓e260_30, ↓e260_31, ↓e260_35, ↓e260_36, ↓e260_38, ↓e260_41, ↓e260_44, ↓e260_45, ↓e260_47, ↓e260_50, ↓e260_53, ↓e260_54, ↓e260_55, ↓e260_58, ↓ldI_0, ↓ldI_s, ↓ldA_0, ↓ldA_n, ↓ldA_s, ↓ldL_0, ↓ldL_s, ↓lst_0, ↓lst_s, ↓cal_v, ↓cal_x, ↓vts_s, ↓vts_n, ↓lpr_0, ↓lpr_i, ↓lpr_r, ↓lpr_n, ↓lpr_s, PA_41, ↓reduceIte, or_true, true_or, ↓ho_40, ↓gf_40_0, ↓gf_40_1, ↓gf_40_2, ↓gf_40_3, ↓ho_49, ↓gf_49_0, ↓gf_49_1, ↓gf_49_2, ↓gf_49_3, ↓pf_49_3, ↓ho_50, ↓gf_50_0, ↓gf_50_1, ↓gf_50_2, ↓pf_50_2, ↓gf_50_3, ↓pf_50_3, ↓gf_50_4, ↓pf_50_4, ↓gf_50_5, ↓pf_50_5, ↓gf_50_6, ↓pf_50_6, ↓ho_54, ↓gf_54_0, ↓gf_54_1, ↓pf_54_1, ↓ho_88, ↓gf_88_0, ↓gf_88_1, ↓pf_88_1, ↓gf_88_2, ↓pf_88_2, ↓gf_88_3, ↓pf_88_3, ↓gf_88_4, ↓pf_88_4, ↓gf_88_5, ↓pf_88_5, ↓gf_41_0, ↓pf_41_0, ↓gf_41_1, ↓pf_41_1, ↓gf_41_2, ↓gf_41_3, ↓pf_41_3, ↓gf_41_4, ↓gf_41_5, ↓gf_41_6, ↓gf_41_7, ↓gf_41_8, ↓pf_41_8, ↓gf_41_9, ↓pf_41_9, ↓gf_41_10, ↓gf_41_11, ↓ho_41, ↓gi_42, ↓pi_42, ↓gi_43, ↓pi_43, ↓gi_44, ↓pi_44, ↓gi_45, ↓pi_45, ↓gi_46, ↓pi_46, ↓gi_47, ↓pi_47, ↓gi_48, ↓pi_48, ↓gi_51, ↓pi_51, ↓gi_52, ↓pi_52, ↓gi_53, ↓pi_53, ↓gi_89, ↓pi_89, ↓gi_1, ↓gn_1, ↓gr_55, ↓pr_55, ↓lpr_nz, ↓lpr_iz, ↓lpr_rz, e1, Int32.lt_irrefl]
  | succ r ih =>
    intro k F A hk hC
    have hd : k < dn g := by omega
    obtain ⟨F1, A1, C1, e1⟩ := w_6 (G := G) (c := c) (W := W) (O := O) hS hC
    obtain ⟨F2, A2, C2, e2⟩ := t244 (G := G) (c := c) (W := W) (O := O) hS C1 hd
    obtain ⟨F3, A3, C3, e3⟩ := ih (k + 1) F2 A2 (by omega) C2
    refine ⟨F3, A3, C3, ?_⟩
    rw [h260_33]
    simp only [↓e260_0, ↓e260_3, ↓e260_4, ↓e260_7, ↓e260_7n, ↓e260_8, ↓e260_9, ↓e260_11, ↓e260_13, ↓e260_16, ↓e260_17, ↓e260_18, ↓e260_19, ↓e260_22, ↓e260_25, ↓e260_26, ↓e260_29, ↓e260_30, ↓e260_31, ↓e260_35, ↓e260_36, ↓e260_38, ↓e260_41, ↓e260_44, ↓e260_45, ↓e260_47, ↓e260_50, ↓e260_53, ↓e260_54, ↓e260_55, ↓e260_58, ↓ldI_0, ↓ldI_s, ↓ldA_0, ↓ldA_n, ↓ldA_s, ↓ldL_0, ↓ldL_s, ↓lst_0, ↓lst_s, ↓cal_v, ↓cal_x, ↓vts_s, ↓vts_n, ↓lpr_0, ↓lpr_i, ↓lpr_r, ↓lpr_n, ↓lpr_s, PA_41, ↓reduceIte, or_true, true_or, ↓ho_40, ↓gf_40_0, ↓gf_40_1, ↓gf_40_2, ↓gf_40_3, ↓ho_49, ↓gf_49_0, ↓gf_49_1, ↓gf_49_2, ↓gf_49_3, ↓pf_49_3, ↓ho_50, ↓gf_50_0, ↓gf_50_1, ↓gf_50_2, ↓pf_50_2, ↓gf_50_3, ↓pf_50_3, ↓gf_50_4, ↓pf_50_4, ↓gf_50_5, ↓pf_50_5, ↓gf_50_6, ↓pf_50_6, ↓ho_54, ↓gf_54_0, ↓gf_54_1, ↓pf_54_1, ↓ho_88, ↓gf_88_0, ↓gf_88_1, ↓pf_88_1, ↓gf_88_2, ↓pf_88_2, ↓gf_88_3, ↓pf_88_3, ↓gf_88_4, ↓pf_88_4, ↓gf_88_5, ↓pf_88_5, ↓gf_41_0, ↓pf_41_0, ↓gf_41_1, ↓pf_41_1, ↓gf_41_2, ↓gf_41_3, ↓pf_41_3, ↓gf_41_4, ↓gf_41_5, ↓gf_41_6, ↓gf_41_7, ↓gf_41_8, ↓pf_41_8, ↓gf_41_9, ↓pf_41_9, ↓gf_41_10, ↓gf_41_11, ↓ho_41, ↓gi_42, ↓pi_42, ↓gi_43, ↓pi_43, ↓gi_44, ↓pi_44, ↓gi_45, ↓pi_45, ↓gi_46, ↓pi_46, ↓gi_47, ↓pi_47, ↓gi_48, ↓pi_48, ↓gi_51, ↓pi_51, ↓gi_52, ↓pi_52, ↓gi_53, ↓pi_53, ↓gi_89, ↓pi_89, ↓gi_1, ↓gn_1, ↓gr_55, ↓pr_55, ↓lpr_nz, ↓lpr_iz, ↓lpr_rz, e1, io_lt (show k < 2147483648 by omega) (show dn g < 2147483648 by omega), eq_true hd, e2, one_ne, io_succ]
    exact e3
theorem l260 (hG : G.1 ≤ 260) : ∀ r i (F A : Nat → Nat → Int32) (P : Nat → Nat) (g : Nat → Int32) (u : Nat) (ks : Nat → Nat → Int32) (z3 z5 : Option Value), i + r = 40 → SI g u ks t tx → DSt g → CI F A P g u ks t tx → ∃ F' A' P', Rv 260 10 [some (.ref 1), some (.ref 40), some (.int (Int32.ofNat i)), z3, none, z5] [] (en G c F A P W O) = some (.inl (some (.int 1)), en G c F' A' P' W O) := by
  intro r
  induction r with
  | zero =>
    intro i F A P g u ks z3 z5 hi hS hs hC
    refine ⟨F, A, P, ?_⟩
    have h40 : (Int32.ofNat i < 40) = False := by rw [show i = 40 by omega]; decide
    rw [h260_10]
    simp only [↓e260_0, ↓e260_3, ↓e260_4, ↓e260_7, ↓e260_7n, ↓e260_8, ↓e260_9, ↓e260_11, ↓e260_13, ↓e260_100, ↓e260_101, ↓ldI_0, ↓ldI_s, ↓ldA_0, ↓ldA_n, ↓ldA_s, ↓ldL_0, ↓ldL_s, ↓lst_0, ↓lst_s, ↓cal_v, ↓cal_x, ↓vts_s, ↓vts_n, ↓lpr_0, ↓lpr_i, ↓lpr_r, ↓lpr_n, ↓lpr_s, PA_41, ↓reduceIte, or_true, true_or, ↓ho_40, ↓gf_40_0, ↓gf_40_1, ↓gf_40_2, ↓gf_40_3, ↓ho_49, ↓gf_49_0, ↓gf_49_1, ↓gf_49_2, ↓gf_49_3, ↓pf_49_3, ↓ho_50, ↓gf_50_0, ↓gf_50_1, ↓gf_50_2, ↓pf_50_2, ↓gf_50_3, ↓pf_50_3, ↓gf_50_4, ↓pf_50_4, ↓gf_50_5, ↓pf_50_5, ↓gf_50_6, ↓pf_50_6, ↓ho_54, ↓gf_54_0, ↓gf_54_1, ↓pf_54_1, ↓ho_88, ↓gf_88_0, ↓gf_88_1, ↓pf_88_1, ↓gf_88_2, ↓pf_88_2, ↓gf_88_3, ↓pf_88_3, ↓gf_88_4, ↓pf_88_4, ↓gf_88_5, ↓pf_88_5, ↓gf_41_0, ↓pf_41_0, ↓gf_41_1, ↓pf_41_1, ↓gf_41_2, ↓gf_41_3, ↓pf_41_3, ↓gf_41_4, ↓gf_41_5, ↓gf_41_6, ↓gf_41_7, ↓gf_41_8, ↓pf_41_8, ↓gf_41_9, ↓pf_41_9, ↓gf_41_10, ↓gf_41_11, ↓ho_41, ↓gi_42, ↓pi_42, ↓gi_43, ↓pi_43, ↓gi_44, ↓pi_44, ↓gi_45, ↓pi_45, ↓gi_46, ↓pi_46, ↓gi_47, ↓pi_47, ↓gi_48, ↓pi_48, ↓gi_51, ↓pi_51, ↓gi_52, ↓pi_52, ↓gi_53, ↓pi_53, ↓gi_89, ↓pi_89, ↓gi_1, ↓gn_1, ↓gr_55, ↓pr_55, ↓lpr_nz, ↓lpr_iz, ↓lpr_rz, h40]
  | succ r ih =>
    intro i F A P g u ks z3 z5 hi hS hs hC
    have h40 : (Int32.ofNat i < 40) = True := by
      rw [show (40 : Int32) = Int32.ofNat 40 from rfl, io_lt (by omega) (by omega)]; exact eq_true (by omega)
    obtain ⟨v, ev⟩ := s238 hG (show i < 40 by omega)
    obtain ⟨g', w1, w2, w3⟩ := t242 hS.1 hs v
    obtain ⟨F1, A1, P1, C1, e1⟩ := w3 G c F A P W O u ks t tx hS hC
    have S1 : SI g' (svu u) (svk u g ks) t tx := ⟨w1, (si_save hS).2⟩
    obtain ⟨F2, A2, -, C2, e2⟩ := c128y (G := G) (c := c) (W := W) (O := O) S1 C1
    obtain ⟨F3, A3, C3, e3⟩ := l260d (G := G) (c := c) (W := W) (O := O) S1 (x := Int32.ofNat i) (h := dgs g' (svu u) t) (dn g') 0 F2 A2 (by omega) C2
    obtain ⟨F4, A4, -, C4, e4⟩ := c127z (G := G) (c := c) (W := W) (O := O) S1 C3 (svu_pos u)
    rw [svk_top hS.2.1] at C4
    have S4 : SI g (svu u - 1) (svk u g ks) t tx := si_dec (si_save hS)
    obtain ⟨F5, A5, P5, C5, e5⟩ := w3 G c F4 A4 P1 W O (svu u - 1) (svk u g ks) t tx S4 C4
    have S5 : SI g' (svu (svu u - 1)) (svk (svu u - 1) g (svk u g ks)) t tx := ⟨w1, (si_save S4).2⟩
    obtain ⟨F6, A6, -, C6, e6⟩ := c128y (G := G) (c := c) (W := W) (O := O) S5 C5
    obtain ⟨F7, A7, P7, C7, e7⟩ := t245 (G := G) (c := c) (W := W) (O := O) S5 w2 C6
    have S7 : SI g' (svu (svu (svu u - 1)) - 1) (svk (svu (svu u - 1)) g' (svk (svu u - 1) g (svk u g ks))) t tx := si_dec (si_save S5)
    obtain ⟨F8, A8, P8, e8⟩ := ih (i + 1) F7 A7 P7 g' _ _ (some (.long (dgs g' (svu u) t))) (some (.int (Int32.ofNat (svu u - 1)))) (by omega) S7 w2 C7
    refine ⟨F8, A8, P8, ?_⟩
    rw [svu_svu hS.2.1] at e6
    have e3 : Rv 260 33 [some (.ref 1), some (.ref 40), some (.int (Int32.ofNat i)), some (.long (dgs g' (svu u) t)), none, some (.int 0)] [] (en G c F2 A2 P1 W O) = _ := e3
    rw [h260_10]
    simp only [↓e260_0, ↓e260_3, ↓e260_4, ↓e260_7, ↓e260_7n, ↓e260_8, ↓e260_9, ↓e260_11, ↓e260_13, ↓e260_16, ↓e260_17, ↓e260_18, ↓e260_19, ↓e260_22, ↓e260_25, ↓e260_26, ↓e260_29, ↓e260_30, ↓e260_31, ↓ldI_0, ↓ldI_s, ↓ldA_0, ↓ldA_n, ↓ldA_s, ↓ldL_0, ↓ldL_s, ↓lst_0, ↓lst_s, ↓cal_v, ↓cal_x, ↓vts_s, ↓vts_n, ↓lpr_0, ↓lpr_i, ↓lpr_r, ↓lpr_n, ↓lpr_s, PA_41, ↓reduceIte, or_true, true_or, ↓ho_40, ↓gf_40_0, ↓gf_40_1, ↓gf_40_2, ↓gf_40_3, ↓ho_49, ↓gf_49_0, ↓gf_49_1, ↓gf_49_2, ↓gf_49_3, ↓pf_49_3, ↓ho_50, ↓gf_50_0, ↓gf_50_1, ↓gf_50_2, ↓pf_50_2, ↓gf_50_3, ↓pf_50_3, ↓gf_50_4, ↓pf_50_4, ↓gf_50_5, ↓pf_50_5, ↓gf_50_6, ↓pf_50_6, ↓ho_54, ↓gf_54_0, ↓gf_54_1, ↓pf_54_1, ↓ho_88, ↓gf_88_0, ↓gf_88_1, ↓pf_88_1, ↓gf_88_2, ↓pf_88_2, ↓gf_88_3, ↓pf_88_3, ↓gf_88_4, ↓pf_88_4, ↓gf_88_5, ↓pf_88_5, ↓gf_41_0, ↓pf_41_0, ↓gf_41_1, ↓pf_41_1, ↓gf_41_2, ↓gf_41_3, ↓pf_41_3, ↓gf_41_4, ↓gf_41_5, ↓gf_41_6, ↓gf_41_7, ↓gf_41_8, ↓pf_41_8, ↓gf_41_9, ↓pf_41_9, ↓gf_41_10, ↓gf_41_11, ↓ho_41, ↓gi_42, ↓pi_42, ↓gi_43, ↓pi_43, ↓gi_44, ↓pi_44, ↓gi_45, ↓pi_45, ↓gi_46, ↓pi_46, ↓gi_47, ↓pi_47, ↓gi_48, ↓pi_48, ↓gi_51, ↓pi_51, ↓gi_52, ↓pi_52, ↓gi_53, ↓pi_53, ↓gi_89, ↓pi_89, ↓gi_1, ↓gn_1, ↓gr_55, ↓pr_55, ↓lpr_nz, ↓lpr_iz, ↓lpr_rz, h40, ev, e1, e2]
    rw [e3]
    simp only [↓e260_0, ↓e260_3, ↓e260_4, ↓e260_7, ↓e260_7n, ↓e260_8, ↓e260_9, ↓e260_11, ↓e260_13, ↓e260_16, ↓e260_17, ↓e260_18, ↓e260_19, ↓e260_22, ↓e260_25, ↓e260_26, ↓e260_29, ↓e260_30, ↓e260_31, ↓e260_35, ↓e260_36, ↓e260_38, ↓e260_41, ↓e260_44, ↓e260_45, ↓e260_47, ↓e260_50, ↓e260_53, ↓e260_54, ↓e260_55, ↓e260_58, ↓e260_61, ↓e260_62, ↓e260_65, ↓e260_67, ↓e260_68, ↓e260_69, ↓e260_70, ↓e260_73, ↓e260_76, ↓e260_77, ↓e260_80, ↓e260_81, ↓e260_82, ↓e260_85, ↓e260_86, ↓e260_89, ↓e260_92, ↓e260_93, ↓e260_94, ↓e260_97, ↓e260_100, ↓e260_101, ↓ldI_0, ↓ldI_s, ↓ldA_0, ↓ldA_n, ↓ldA_s, ↓ldL_0, ↓ldL_s, ↓lst_0, ↓lst_s, ↓cal_v, ↓cal_x, ↓vts_s, ↓vts_n, ↓lpr_0, ↓lpr_i, ↓lpr_r, ↓lpr_n, ↓lpr_s, PA_41, ↓reduceIte, or_true, true_or, ↓ho_40, ↓gf_40_0, ↓gf_40_1, ↓gf_40_2, ↓gf_40_3, ↓ho_49, ↓gf_49_0, ↓gf_49_1, ↓gf_49_2, ↓gf_49_3, ↓pf_49_3, ↓ho_50, ↓gf_50_0, ↓gf_50_1, ↓gf_50_2, ↓pf_50_2, ↓gf_50_3, ↓pf_50_3, ↓gf_50_4, ↓pf_50_4, ↓gf_50_5, ↓pf_50_5, ↓gf_50_6, ↓pf_50_6, ↓ho_54, ↓gf_54_0, ↓gf_54_1, ↓pf_54_1, ↓ho_88, ↓gf_88_0, ↓gf_88_1, ↓pf_88_1, ↓gf_88_2, ↓pf_88_2, ↓gf_88_3, ↓pf_88_3, ↓gf_88_4, ↓pf_88_4, ↓gf_88_5, ↓pf_88_5, ↓gf_41_0, ↓pf_41_0, ↓gf_41_1, ↓pf_41_1, ↓gf_41_2, ↓gf_41_3, ↓pf_41_3, ↓gf_41_4, ↓gf_41_5, ↓gf_41_6, ↓gf_41_7, ↓gf_41_8, ↓pf_41_8, ↓gf_41_9, ↓pf_41_9, ↓gf_41_10, ↓gf_41_11, ↓ho_41, ↓gi_42, ↓pi_42, ↓gi_43, ↓pi_43, ↓gi_44, ↓pi_44, ↓gi_45, ↓pi_45, ↓gi_46, ↓pi_46, ↓gi_47, ↓pi_47, ↓gi_48, ↓pi_48, ↓gi_51, ↓pi_51, ↓gi_52, ↓pi_52, ↓gi_53, ↓pi_53, ↓gi_89, ↓pi_89, ↓gi_1, ↓gn_1, ↓gr_55, ↓pr_55, ↓lpr_nz, ↓lpr_iz, ↓lpr_rz, e4, ev, e5, e6, lgc, e7, one_ne, io_succ]
    exact e8
end ZT
/-- the start -/
theorem wf_0 : Wf (zA0 91) := by
  refine wf_mk (ch := 3) (dp := 5) (a := 5) (b := 1) (e := 1) (n := 0) (m := 0) ⟨rfl, by omega, by omega⟩ ⟨rfl, by omega, by omega⟩ ⟨rfl, by omega⟩ ⟨rfl, by omega, by omega⟩ ⟨rfl, by omega, by omega⟩ ⟨rfl, by omega⟩ ⟨rfl, by omega⟩ (fun k hk => absurd hk (Nat.not_lt_zero k)) (fun k hk => absurd hk (Nat.not_lt_zero k)) (fun k hk => absurd hk (Nat.not_lt_zero k)) (fun k hk => absurd hk (Nat.not_lt_zero k)) (fun d hd c hc q hq => by
    have e : zA0 91 (67 + 4 * d + c) = 0 := by
      show upd (upd (upd (upd (upd (fun _ => 0) 0 3) 1 5) 2 5) 3 1) 4 1 (67 + 4 * d + c) = 0
      rw [upd_no (by omega), upd_no (by omega), upd_no (by omega), upd_no (by omega), upd_no (by omega)]
    rw [e, tb_z])
theorem kn_0 : kn (zA0 91) = 0 := rfl
theorem dn_0 : dn (zA0 91) = 0 := rfl
theorem rp_0 : Rp zF0 zA0 41 (zA0 91) := by
  refine ⟨⟨rfl, rfl, rfl, rfl, ?_⟩, ⟨rfl, rfl, rfl⟩, fun k hk => absurd hk (by rw [kn_0]; exact Nat.not_lt_zero k), fun k hk => absurd hk (by rw [dn_0]; exact Nat.not_lt_zero k)⟩
  show 0 = _
  exact ((bits_eq0 (by omega)).mpr fun k _ => by unfold lsb; rw [kn_0]; rfl).symm
theorem pv_0 : PV zP0 := by
  refine ⟨fun j hj => ?_, fun i j hi hj hn => ?_⟩
  · have : j = 0 ∨ j = 1 ∨ j = 2 ∨ j = 3 := by omega
    rcases this with rfl | rfl | rfl | rfl
    · exact Or.inl rfl
    · exact Or.inr (Or.inl rfl)
    · exact Or.inr (Or.inr (Or.inl rfl))
    · exact Or.inr (Or.inr (Or.inr rfl))
  · unfold zP0; omega
theorem zlaw_all {L : Nat} {xs : Nat → Int32} (hL : L ≤ 260) : zLaw L xs := by
  have hS : SI (zA0 91) 0 (fun _ _ => 0) 0 (fun _ => 0) := ⟨wf_0, by omega, fun j hj => absurd hj (Nat.not_lt_zero j), by omega, fun j hj => absurd hj (Nat.not_lt_zero j)⟩
  have hC : CI zF0 zA0 zP0 (zA0 91) 0 (fun _ _ => 0) 0 (fun _ => 0) := ⟨rp_0, pv_0, rfl, fun j hj => absurd hj (Nat.not_lt_zero j), rfl, fun j hj => absurd hj (Nat.not_lt_zero j), Or.inl rfl⟩
  have hs : DSt (zA0 91) := fun j k hj => absurd hj (by rw [kn_0]; exact Nat.not_lt_zero j)
  obtain ⟨F', A', P', h1⟩ := l260 (G := (L, xs)) (c := (50, 3296, false)) (W := .null) (O := fun _ => 0) hL 40 0 zF0 zA0 zP0 (zA0 91) 0 (fun _ _ => 0) none none (by omega) hS hs hC
  have h0 := i260 (L := L) (xs := xs)
  obtain ⟨n, hn⟩ := Rv_to (h0.trans h1)
  exact ⟨n, _, hn, Nat.le_of_ble_eq_true rfl, Nat.le_of_ble_eq_true rfl⟩
