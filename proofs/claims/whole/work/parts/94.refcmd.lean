/-! the reference reads a command -/
/-- letters as a number to the base of 27 -/
def hs (f : Nat → Nat) : Nat → Nat
  | 0 => 0
  | m + 1 => 27 * hs f m + f m - 96
def hw (i : Nat) : Nat := [187455942, 8179, 90090, 11921, 4637, 247649, 125041, 2774, 369932, 1065].getD i 0
theorem hw_is : ∀ i, i < 10 → hs (wby i) (wln i) = hw i := by decide +kernel
theorem hs_lt {f : Nat → Nat} : ∀ m, (∀ j, j < m → f j ≤ 122) → hs f m < 27 ^ m
  | 0, _ => by show 0 < 27 ^ 0; omega
  | m + 1, h => by
    have ih := hs_lt m fun j hj => h j (by omega)
    have := h m (by omega)
    show 27 * hs f m + f m - 96 < 27 ^ (m + 1)
    rw [Nat.pow_succ]
    omega
theorem hs_inj {f f' : Nat → Nat} : ∀ m m', (∀ j, j < m → 97 ≤ f j ∧ f j ≤ 122) → (∀ j, j < m' → 97 ≤ f' j ∧ f' j ≤ 122) → hs f m = hs f' m' → m = m' ∧ ∀ j, j < m → f j = f' j
  | 0, 0, _, _, _ => ⟨rfl, fun j hj => by omega⟩
  | 0, m' + 1, _, h', e => by
    have := h' m' (by omega)
    have e : 0 = 27 * hs f' m' + f' m' - 96 := e
    omega
  | m + 1, 0, h, _, e => by
    have := h m (by omega)
    have e : 27 * hs f m + f m - 96 = 0 := e
    omega
  | m + 1, m' + 1, h, h', e => by
    have h1 := h m (by omega)
    have h2 := h' m' (by omega)
    have e : 27 * hs f m + f m - 96 = 27 * hs f' m' + f' m' - 96 := e
    obtain ⟨e1, e2⟩ := hs_inj m m' (fun j hj => h j (by omega)) (fun j hj => h' j (by omega)) (by omega)
    refine ⟨by omega, fun j hj => ?_⟩
    by_cases hj2 : j < m
    · exact e2 j hj2
    · have : j = m := by omega
      subst this
      subst e1
      omega
theorem wds_no {bx : Nat → Nat} {p e : Nat} : ∀ n i, i + n = 10 → wds bx p e i n = 10 → ∀ j, i ≤ j → j < 10 → wm bx p e j = false
  | 0, i, h, _, j, h1, h2 => by omega
  | n + 1, i, h, e0, j, h1, h2 => by
    have e1 : wds bx p e i (n + 1) = if wm bx p e i = true then i else wds bx p e (i + 1) n := rfl
    rw [e1] at e0
    by_cases hm : wm bx p e i = true
    · rw [if_pos hm] at e0; omega
    · rw [if_neg hm] at e0
      by_cases hj : j = i
      · subst hj; simpa using hm
      · exact wds_no n (i + 1) (by omega) e0 j (by omega) h2
theorem wm_is {bx : Nat → Nat} {p e i : Nat} : wm bx p e i = true ↔ wln i = e - p ∧ ∀ j, j < wln i → bx (p + j) = wby i j := by
  unfold wm
  rw [Bool.and_eq_true, decide_eq_true_eq, allb_iff]
  exact ⟨fun h => ⟨h.1, fun j hj => of_decide_eq_true (h.2 j hj)⟩, fun h => ⟨h.1, fun j hj => decide_eq_true (h.2 j hj)⟩⟩
def wc (w : Nat) : Int32 := if w = 10 then -1 else Int32.ofNat w
/-- letters of a word found -/
theorem hs_w {bx : Nat → Nat} {p e : Nat} (h : wdx bx p e < 10) : e - p ≤ 6 ∧ hs (fun j => bx (p + j)) (e - p) = hw (wdx bx p e) := by
  rcases wds_or bx p e 10 0 rfl with h2 | ⟨-, h2⟩
  · unfold wdx at h; omega
  · obtain ⟨e1, e2⟩ := wm_is.mp h2
    have h6 := (wl_ok _ h).2
    have e1 : wln (wdx bx p e) = e - p := e1
    refine ⟨by omega, ?_⟩
    rw [← hw_is _ h, ← e1]
    have : ∀ m, m ≤ wln (wdx bx p e) → hs (fun j => bx (p + j)) m = hs (wby (wdx bx p e)) m := by
      intro m
      induction m with
      | zero => intro _; rfl
      | succ m ih =>
        intro hm
        show 27 * hs _ m + bx (p + m) - 96 = 27 * hs _ m + wby _ m - 96
        rw [ih (by omega), e2 m (by omega)]
        rfl
    exact this _ (Nat.le_refl _)
/-- letters of none -/
theorem hs_n {bx : Nat → Nat} {p e : Nat} (h : wdx bx p e = 10) (hl : ∀ j, j < e - p → 97 ≤ bx (p + j) ∧ bx (p + j) ≤ 122) : ∀ i, i < 10 → ¬ hs (fun j => bx (p + j)) (e - p) = hw i := fun i hi e0 => by
  rw [← hw_is i hi] at e0
  obtain ⟨e1, e2⟩ := hs_inj (f := fun j => bx (p + j)) (f' := wby i) _ _ hl (fun j hj => (wb_ok i hi j hj).2.2.2) e0
  have e1 : e - p = wln i := e1
  have hm : wm bx p e i = true := wm_is.mpr ⟨e1.symm, fun j hj => e2 j (by omega)⟩
  rw [wds_no 10 0 rfl h i (Nat.zero_le _) hi] at hm
  cases hm
section ZT
variable {G : zG} {c : Nat × Nat × Bool} {F A : Nat → Nat → Int32} {P : Nat → Nat} {W : Value} {O : Nat → Int64} {x y j k d e v m s : Int32} {p q i t u o : Nat} {a b f n w : Int32} {bx : Nat → Nat}
theorem y220w {w : Nat} (hw10 : w < 10) : Rv 220 0 [some (.int (Int32.ofNat (hw w)))] [] (en G c F A P W O) = some (.inl (some (.int (Int32.ofNat w))), (en G c F A P W O)) := by
  have H : ∀ w, w < 10 → ((Int32.ofNat (hw w) = 1065) = (w = 9)) ∧ ((Int32.ofNat (hw w) = 2774) = (w = 7)) ∧ ((Int32.ofNat (hw w) = 4637) = (w = 4)) ∧ ((Int32.ofNat (hw w) = 8179) = (w = 1)) ∧ ((Int32.ofNat (hw w) = 11921) = (w = 3)) ∧ ((Int32.ofNat (hw w) = 90090) = (w = 2)) ∧ ((Int32.ofNat (hw w) = 125041) = (w = 6)) ∧ ((Int32.ofNat (hw w) = 247649) = (w = 5)) ∧ ((Int32.ofNat (hw w) = 369932) = (w = 8)) := by
    intro w hw
    rcases ten_or hw with rfl | rfl | rfl | rfl | rfl | rfl | rfl | rfl | rfl | rfl <;> simp only [propext_iff] <;> decide
  have H0 : (Int32.ofNat (hw 0) = 187455942) = True := eq_true rfl
  obtain ⟨a1, a2, a3, a4, a5, a6, a7, a8, a9⟩ := H w hw10
  rcases ten_or hw10 with rfl | rfl | rfl | rfl | rfl | rfl | rfl | rfl | rfl | rfl <;> simp (decide := true) only [↓e220_0, ↓e220_1, ↓e220_92, ↓e220_93, ↓e220_94, ↓e220_95, ↓e220_96, ↓e220_97, ↓e220_98, ↓e220_99, ↓e220_100, ↓e220_101, ↓e220_102, ↓e220_103, ↓e220_104, ↓e220_106, ↓e220_107, ↓e220_109, ↓e220_110, ↓e220_112, ↓e220_113, ↓e220_115, ↓e220_116, ↓e220_117, ↓ldI_0, ↓ldI_s, ↓ldA_0, ↓ldA_n, ↓ldA_s, ↓ldL_0, ↓ldL_s, ↓lst_0, ↓lst_s, ↓cal_v, ↓cal_x, ↓vts_s, ↓vts_n, ↓lpr_0, ↓lpr_i, ↓lpr_r, ↓lpr_n, ↓lpr_s, PA_41, ↓reduceIte, or_true, true_or, lsw, a1, a2, a3, a4, a5, a6, a7, a8, a9, H0] <;> rfl
theorem y220n {v : Nat} (hv : v < 2147483648) (h : ∀ i, i < 10 → ¬ v = hw i) : Rv 220 0 [some (.int (Int32.ofNat v))] [] (en G c F A P W O) = some (.inl (some (.int (-1))), (en G c F A P W O)) := by
  have H : ∀ i, i < 10 → ∀ z : Int32, z = Int32.ofNat (hw i) → (Int32.ofNat v = z) = False := fun i hi z ez => by
    have : hw i < 2147483648 := by rcases ten_or hi with rfl | rfl | rfl | rfl | rfl | rfl | rfl | rfl | rfl | rfl <;> decide
    rw [ez, io_eq hv this]
    exact eq_false (h i hi)
  simp only [↓e220_0, ↓e220_1, ↓e220_92, ↓e220_93, ↓e220_94, ↓e220_95, ↓e220_96, ↓e220_97, ↓e220_98, ↓e220_99, ↓e220_100, ↓e220_101, ↓e220_102, ↓e220_103, ↓e220_104, ↓e220_106, ↓e220_107, ↓e220_109, ↓e220_110, ↓e220_112, ↓e220_113, ↓e220_115, ↓e220_116, ↓e220_117, ↓ldI_0, ↓ldI_s, ↓ldA_0, ↓ldA_n, ↓ldA_s, ↓ldL_0, ↓ldL_s, ↓lst_0, ↓lst_s, ↓cal_v, ↓cal_x, ↓vts_s, ↓vts_n, ↓lpr_0, ↓lpr_i, ↓lpr_r, ↓lpr_n, ↓lpr_s, PA_41, ↓reduceIte, or_true, true_or, lsw, H 0 (by omega) 187455942 rfl, H 1 (by omega) 8179 rfl, H 2 (by omega) 90090 rfl, H 3 (by omega) 11921 rfl, H 4 (by omega) 4637 rfl, H 5 (by omega) 247649 rfl, H 6 (by omega) 125041 rfl, H 7 (by omega) 2774 rfl, H 8 (by omega) 369932 rfl, H 9 (by omega) 1065 rfl, if_false]
theorem y221 {w : Nat} (hw10 : w < 10) : Rv 221 0 [some (.int (Int32.ofNat w))] [] (en G c F A P W O) = some (.inl (some (.int (Int32.ofNat (nnu w)))), (en G c F A P W O)) := by
  have hn : ∀ w, w < 10 → Int32.ofNat (nnu w) = [1, 2, 1, 2, 1, 1, 1, 2, 2, 0].getD w 0 := by decide +kernel
  rw [hn w hw10]
  rcases ten_or hw10 with rfl | rfl | rfl | rfl | rfl | rfl | rfl | rfl | rfl | rfl <;> simp (decide := true) only [↓e221_0, ↓e221_1, ↓e221_3, ↓e221_6, ↓e221_7, ↓e221_10, ↓e221_11, ↓e221_12, ↓e221_15, ↓e221_16, ↓e221_17, ↓e221_20, ↓e221_21, ↓e221_23, ↓e221_26, ↓e221_27, ↓e221_29, ↓e221_32, ↓e221_33, ↓e221_36, ↓e221_37, ↓ldI_0, ↓ldI_s, ↓ldA_0, ↓ldA_n, ↓ldA_s, ↓ldL_0, ↓ldL_s, ↓lst_0, ↓lst_s, ↓cal_v, ↓cal_x, ↓vts_s, ↓vts_n, ↓lpr_0, ↓lpr_i, ↓lpr_r, ↓lpr_n, ↓lpr_s, PA_41, ↓reduceIte, or_true, true_or] <;> rfl
theorem y223 (hX : TY F A bx t) (hp : p ≤ t) : Rv 223 0 [some (.ref 90), none, none] [] (en G c (RF F (Int32.ofNat p) f n w) A P W O) = some (.inl none, en G c (RF F (Int32.ofNat (lt' bx t p)) (if cwd bx t p = 10 then Int32.ofNat p else f) n (wc (cwd bx t p))) A P W O) := by
  have h150 := hX.1
  have hl := lt_ge bx hp
  have key : ∀ r q (x : Int32), p ≤ q → q + r = t → (q - p ≤ 6 → x = Int32.ofNat (hs (fun j => bx (p + j)) (q - p))) → ∃ y : Int32, (run (isr bx t 97 122) r q - p ≤ 6 → y = Int32.ofNat (hs (fun j => bx (p + j)) (run (isr bx t 97 122) r q - p))) ∧ Rv 223 7 [some (.ref 90), some (.int (Int32.ofNat p)), some (.int x)] [] (en G c (RF F (Int32.ofNat q) f n w) A P W O) = Rv 223 64 [some (.ref 90), some (.int (Int32.ofNat p)), some (.int y)] [] (en G c (RF F (Int32.ofNat (run (isr bx t 97 122) r q)) f n w) A P W O) := by
    intro r
    induction r with
    | zero =>
      intro q x h1 h2 h3
      have hn : ¬ isr bx t 97 122 q = true := fun e => by have := isr_lt e; omega
      refine ⟨x, h3, ?_⟩
      rw [h223_7]
      simp only [↓e223_0, ↓e223_1, ↓e223_4, ↓e223_5, ↓e223_6, ↓e223_8, ↓e223_10, ↓e223_12, ↓e223_15, ↓e223_18, ↓e223_19, ↓e223_22, ↓e223_23, ↓e223_24, ↓e223_26, ↓e223_29, ↓e223_31, ↓e223_32, ↓e223_33, ↓e223_34, ↓e223_37, ↓e223_38, ↓e223_41, ↓e223_42, ↓e223_43, ↓e223_45, ↓e223_46, ↓e223_49, ↓e223_50, ↓e223_51, ↓e223_52, ↓e223_53, ↓e223_56, ↓e223_57, ↓e223_58, ↓ldI_0, ↓ldI_s, ↓ldA_0, ↓ldA_n, ↓ldA_s, ↓ldL_0, ↓ldL_s, ↓lst_0, ↓lst_s, ↓cal_v, ↓cal_x, ↓vts_s, ↓vts_n, ↓lpr_0, ↓lpr_i, ↓lpr_r, ↓lpr_n, ↓lpr_s, PA_41, ↓reduceIte, or_true, true_or, ↓ho_40, ↓gf_40_0, ↓gf_40_1, ↓gf_40_2, ↓gf_40_3, ↓ho_49, ↓gf_49_0, ↓gf_49_1, ↓gf_49_2, ↓gf_49_3, ↓pf_49_3, ↓ho_50, ↓gf_50_0, ↓gf_50_1, ↓gf_50_2, ↓pf_50_2, ↓gf_50_3, ↓pf_50_3, ↓gf_50_4, ↓pf_50_4, ↓gf_50_5, ↓pf_50_5, ↓gf_50_6, ↓pf_50_6, ↓ho_54, ↓gf_54_0, ↓gf_54_1, ↓pf_54_1, ↓ho_88, ↓gf_88_0, ↓gf_88_1, ↓pf_88_1, ↓gf_88_2, ↓pf_88_2, ↓gf_88_3, ↓pf_88_3, ↓gf_88_4, ↓pf_88_4, ↓gf_88_5, ↓pf_88_5, ↓ho_90, ↓gf_90_0, ↓gf_90_1, ↓gf_90_2, ↓pf_90_2, ↓gf_90_3, ↓pf_90_3, ↓gf_90_4, ↓gf_90_5, ↓gf_90_6, ↓pf_90_6, ↓gf_90_7, ↓pf_90_7, ↓gf_90_8, ↓pf_90_8, ↓gf_90_9, ↓pf_90_9, ↓gf_90_10, ↓pf_90_10, ↓gf_90_11, ↓gf_41_0, ↓pf_41_0, ↓gf_41_1, ↓pf_41_1, ↓gf_41_2, ↓gf_41_3, ↓pf_41_3, ↓gf_41_4, ↓gf_41_5, ↓gf_41_6, ↓gf_41_7, ↓gf_41_8, ↓pf_41_8, ↓gf_41_9, ↓pf_41_9, ↓gf_41_10, ↓gf_41_11, ↓ho_41, ↓gi_42, ↓pi_42, ↓gi_43, ↓pi_43, ↓gi_44, ↓pi_44, ↓gi_45, ↓pi_45, ↓gi_46, ↓pi_46, ↓gi_47, ↓pi_47, ↓gi_48, ↓pi_48, ↓gi_51, ↓pi_51, ↓gi_52, ↓pi_52, ↓gi_53, ↓pi_53, ↓gi_91, ↓pi_91, ↓gi_92, ↓pi_92, ↓gi_93, ↓pi_93, ↓gi_95, ↓pi_95, ↓gi_89, ↓pi_89, ↓gi_94, ↓pi_94, ↓gi_1, ↓gi_3, ↓gn_1, ↓gn_2, ↓gr_2, ↓gr_55, ↓pr_55, ↓gl_96, ↓pl_96, ↓gf_w0, ↓gf_w1, ↓gw_w, ↓gf_s0, ↓gf_s1, ↓ho_s, ↓gn_b, ↓gi_b, y218l hX (show q ≤ t by omega), hn, if_false, if_true, z00, run, Bool.false_eq_true]
    | succ r ih =>
      intro q x h1 h2 h3
      by_cases h : isr bx t 97 122 q = true
      · have hb := h
        rw [isr_b] at hb
        have er : run (isr bx t 97 122) (r + 1) q = run (isr bx t 97 122) r (q + 1) := if_pos h
        rw [er]
        by_cases h6 : q - p < 6
        · obtain ⟨y, y1, y2⟩ := ih (q + 1) (Int32.ofNat (27 * hs (fun j => bx (p + j)) (q - p) + bx q - 96)) (by omega) (by omega) (fun h7 => by
            rw [show q + 1 - p = (q - p) + 1 by omega]
            show _ = Int32.ofNat (27 * hs (fun j => bx (p + j)) (q - p) + bx (p + (q - p)) - 96)
            rw [show p + (q - p) = q by omega])
          refine ⟨y, y1, ?_⟩
          have ev : 27 * x + Int32.ofNat (bx q) - 96 = Int32.ofNat (27 * hs (fun j => bx (p + j)) (q - p) + bx q - 96) := by
            rw [h3 (by omega), show (27 : Int32) = Int32.ofNat 27 from rfl, show (96 : Int32) = Int32.ofNat 96 from rfl, io_mul, io_add, io_sub (by omega)]
          rw [h223_7]
          simp only [↓e223_0, ↓e223_1, ↓e223_4, ↓e223_5, ↓e223_6, ↓e223_8, ↓e223_10, ↓e223_12, ↓e223_15, ↓e223_18, ↓e223_19, ↓e223_22, ↓e223_23, ↓e223_24, ↓e223_26, ↓e223_29, ↓e223_31, ↓e223_32, ↓e223_33, ↓e223_34, ↓e223_37, ↓e223_38, ↓e223_41, ↓e223_42, ↓e223_43, ↓e223_45, ↓e223_46, ↓e223_49, ↓e223_50, ↓e223_51, ↓e223_52, ↓e223_53, ↓e223_56, ↓e223_57, ↓e223_58, ↓e223_61, ↓ldI_0, ↓ldI_s, ↓ldA_0, ↓ldA_n, ↓ldA_s, ↓ldL_0, ↓ldL_s, ↓lst_0, ↓lst_s, ↓cal_v, ↓cal_x, ↓vts_s, ↓vts_n, ↓lpr_0, ↓lpr_i, ↓lpr_r, ↓lpr_n, ↓lpr_s, PA_41, ↓reduceIte, or_true, true_or, ↓ho_40, ↓gf_40_0, ↓gf_40_1, ↓gf_40_2, ↓gf_40_3, ↓ho_49, ↓gf_49_0, ↓gf_49_1, ↓gf_49_2, ↓gf_49_3, ↓pf_49_3, ↓ho_50, ↓gf_50_0, ↓gf_50_1, ↓gf_50_2, ↓pf_50_2, ↓gf_50_3, ↓pf_50_3, ↓gf_50_4, ↓pf_50_4, ↓gf_50_5, ↓pf_50_5, ↓gf_50_6, ↓pf_50_6, ↓ho_54, ↓gf_54_0, ↓gf_54_1, ↓pf_54_1, ↓ho_88, ↓gf_88_0, ↓gf_88_1, ↓pf_88_1, ↓gf_88_2, ↓pf_88_2, ↓gf_88_3, ↓pf_88_3, ↓gf_88_4, ↓pf_88_4, ↓gf_88_5, ↓pf_88_5, ↓ho_90, ↓gf_90_0, ↓gf_90_1, ↓gf_90_2, ↓pf_90_2, ↓gf_90_3, ↓pf_90_3, ↓gf_90_4, ↓gf_90_5, ↓gf_90_6, ↓pf_90_6, ↓gf_90_7, ↓pf_90_7, ↓gf_90_8, ↓pf_90_8, ↓gf_90_9, ↓pf_90_9, ↓gf_90_10, ↓pf_90_10, ↓gf_90_11, ↓gf_41_0, ↓pf_41_0, ↓gf_41_1, ↓pf_41_1, ↓gf_41_2, ↓gf_41_3, ↓pf_41_3, ↓gf_41_4, ↓gf_41_5, ↓gf_41_6, ↓gf_41_7, ↓gf_41_8, ↓pf_41_8, ↓gf_41_9, ↓pf_41_9, ↓gf_41_10, ↓gf_41_11, ↓ho_41, ↓gi_42, ↓pi_42, ↓gi_43, ↓pi_43, ↓gi_44, ↓pi_44, ↓gi_45, ↓pi_45, ↓gi_46, ↓pi_46, ↓gi_47, ↓pi_47, ↓gi_48, ↓pi_48, ↓gi_51, ↓pi_51, ↓gi_52, ↓pi_52, ↓gi_53, ↓pi_53, ↓gi_91, ↓pi_91, ↓gi_92, ↓pi_92, ↓gi_93, ↓pi_93, ↓gi_95, ↓pi_95, ↓gi_89, ↓pi_89, ↓gi_94, ↓pi_94, ↓gi_1, ↓gi_3, ↓gn_1, ↓gn_2, ↓gr_2, ↓gr_55, ↓pr_55, ↓gl_96, ↓pl_96, ↓gf_w0, ↓gf_w1, ↓gw_w, ↓gf_s0, ↓gf_s1, ↓ho_s, ↓gn_b, ↓gi_b, y218l hX (show q ≤ t by omega), h, if_true, one_ne, if_false, rf_7, io_sub h1, show (Int32.ofNat (q - p) < 6) = True from by rw [show (6 : Int32) = Int32.ofNat 6 from rfl, io_lt (by omega) (by omega)]; exact eq_true h6, io_zin (show q < 2147483648 by omega) (show q < 150 by omega), io_ix (show q < 2147483648 by omega), (hX.2.2 q hb.1).1, ev, rf_s7, io_succ, y2]
        · obtain ⟨y, y1, y2⟩ := ih (q + 1) 0 (by omega) (by omega) (fun h7 => by omega)
          refine ⟨y, y1, ?_⟩
          rw [h223_7]
          simp only [↓e223_0, ↓e223_1, ↓e223_4, ↓e223_5, ↓e223_6, ↓e223_8, ↓e223_10, ↓e223_12, ↓e223_15, ↓e223_18, ↓e223_19, ↓e223_22, ↓e223_23, ↓e223_24, ↓e223_26, ↓e223_29, ↓e223_31, ↓e223_32, ↓e223_33, ↓e223_34, ↓e223_37, ↓e223_38, ↓e223_41, ↓e223_42, ↓e223_43, ↓e223_45, ↓e223_46, ↓e223_49, ↓e223_50, ↓e223_51, ↓e223_52, ↓e223_53, ↓e223_56, ↓e223_57, ↓e223_58, ↓e223_61, ↓ldI_0, ↓ldI_s, ↓ldA_0, ↓ldA_n, ↓ldA_s, ↓ldL_0, ↓ldL_s, ↓lst_0, ↓lst_s, ↓cal_v, ↓cal_x, ↓vts_s, ↓vts_n, ↓lpr_0, ↓lpr_i, ↓lpr_r, ↓lpr_n, ↓lpr_s, PA_41, ↓reduceIte, or_true, true_or, ↓ho_40, ↓gf_40_0, ↓gf_40_1, ↓gf_40_2, ↓gf_40_3, ↓ho_49, ↓gf_49_0, ↓gf_49_1, ↓gf_49_2, ↓gf_49_3, ↓pf_49_3, ↓ho_50, ↓gf_50_0, ↓gf_50_1, ↓gf_50_2, ↓pf_50_2, ↓gf_50_3, ↓pf_50_3, ↓gf_50_4, ↓pf_50_4, ↓gf_50_5, ↓pf_50_5, ↓gf_50_6, ↓pf_50_6, ↓ho_54, ↓gf_54_0, ↓gf_54_1, ↓pf_54_1, ↓ho_88, ↓gf_88_0, ↓gf_88_1, ↓pf_88_1, ↓gf_88_2, ↓pf_88_2, ↓gf_88_3, ↓pf_88_3, ↓gf_88_4, ↓pf_88_4, ↓gf_88_5, ↓pf_88_5, ↓ho_90, ↓gf_90_0, ↓gf_90_1, ↓gf_90_2, ↓pf_90_2, ↓gf_90_3, ↓pf_90_3, ↓gf_90_4, ↓gf_90_5, ↓gf_90_6, ↓pf_90_6, ↓gf_90_7, ↓pf_90_7, ↓gf_90_8, ↓pf_90_8, ↓gf_90_9, ↓pf_90_9, ↓gf_90_10, ↓pf_90_10, ↓gf_90_11, ↓gf_41_0, ↓pf_41_0, ↓gf_41_1, ↓pf_41_1, ↓gf_41_2, ↓gf_41_3, ↓pf_41_3, ↓gf_41_4, ↓gf_41_5, ↓gf_41_6, ↓gf_41_7, ↓gf_41_8, ↓pf_41_8, ↓gf_41_9, ↓pf_41_9, ↓gf_41_10, ↓gf_41_11, ↓ho_41, ↓gi_42, ↓pi_42, ↓gi_43, ↓pi_43, ↓gi_44, ↓pi_44, ↓gi_45, ↓pi_45, ↓gi_46, ↓pi_46, ↓gi_47, ↓pi_47, ↓gi_48, ↓pi_48, ↓gi_51, ↓pi_51, ↓gi_52, ↓pi_52, ↓gi_53, ↓pi_53, ↓gi_91, ↓pi_91, ↓gi_92, ↓pi_92, ↓gi_93, ↓pi_93, ↓gi_95, ↓pi_95, ↓gi_89, ↓pi_89, ↓gi_94, ↓pi_94, ↓gi_1, ↓gi_3, ↓gn_1, ↓gn_2, ↓gr_2, ↓gr_55, ↓pr_55, ↓gl_96, ↓pl_96, ↓gf_w0, ↓gf_w1, ↓gw_w, ↓gf_s0, ↓gf_s1, ↓ho_s, ↓gn_b, ↓gi_b, y218l hX (show q ≤ t by omega), h, if_true, one_ne, if_false, rf_7, io_sub h1, show (Int32.ofNat (q - p) < 6) = False from by rw [show (6 : Int32) = Int32.ofNat 6 from rfl, io_lt (by omega) (by omega)]; exact eq_false h6, rf_s7, io_succ, y2]
      · refine ⟨x, ?_, ?_⟩
        · have er : run (isr bx t 97 122) (r + 1) q = q := if_neg h
          rw [er]; exact h3
        · rw [h223_7]
          simp only [↓e223_0, ↓e223_1, ↓e223_4, ↓e223_5, ↓e223_6, ↓e223_8, ↓e223_10, ↓e223_12, ↓e223_15, ↓e223_18, ↓e223_19, ↓e223_22, ↓e223_23, ↓e223_24, ↓e223_26, ↓e223_29, ↓e223_31, ↓e223_32, ↓e223_33, ↓e223_34, ↓e223_37, ↓e223_38, ↓e223_41, ↓e223_42, ↓e223_43, ↓e223_45, ↓e223_46, ↓e223_49, ↓e223_50, ↓e223_51, ↓e223_52, ↓e223_53, ↓e223_56, ↓e223_57, ↓e223_58, ↓ldI_0, ↓ldI_s, ↓ldA_0, ↓ldA_n, ↓ldA_s, ↓ldL_0, ↓ldL_s, ↓lst_0, ↓lst_s, ↓cal_v, ↓cal_x, ↓vts_s, ↓vts_n, ↓lpr_0, ↓lpr_i, ↓lpr_r, ↓lpr_n, ↓lpr_s, PA_41, ↓reduceIte, or_true, true_or, ↓ho_40, ↓gf_40_0, ↓gf_40_1, ↓gf_40_2, ↓gf_40_3, ↓ho_49, ↓gf_49_0, ↓gf_49_1, ↓gf_49_2, ↓gf_49_3, ↓pf_49_3, ↓ho_50, ↓gf_50_0, ↓gf_50_1, ↓gf_50_2, ↓pf_50_2, ↓gf_50_3, ↓pf_50_3, ↓gf_50_4, ↓pf_50_4, ↓gf_50_5, ↓pf_50_5, ↓gf_50_6, ↓pf_50_6, ↓ho_54, ↓gf_54_0, ↓gf_54_1, ↓pf_54_1, ↓ho_88, ↓gf_88_0, ↓gf_88_1, ↓pf_88_1, ↓gf_88_2, ↓pf_88_2, ↓gf_88_3, ↓pf_88_3, ↓gf_88_4, ↓pf_88_4, ↓gf_88_5, ↓pf_88_5, ↓ho_90, ↓gf_90_0, ↓gf_90_1, ↓gf_90_2, ↓pf_90_2, ↓gf_90_3, ↓pf_90_3, ↓gf_90_4, ↓gf_90_5, ↓gf_90_6, ↓pf_90_6, ↓gf_90_7, ↓pf_90_7, ↓gf_90_8, ↓pf_90_8, ↓gf_90_9, ↓pf_90_9, ↓gf_90_10, ↓pf_90_10, ↓gf_90_11, ↓gf_41_0, ↓pf_41_0, ↓gf_41_1, ↓pf_41_1, ↓gf_41_2, ↓gf_41_3, ↓pf_41_3, ↓gf_41_4, ↓gf_41_5, ↓gf_41_6, ↓gf_41_7, ↓gf_41_8, ↓pf_41_8, ↓gf_41_9, ↓pf_41_9, ↓gf_41_10, ↓gf_41_11, ↓ho_41, ↓gi_42, ↓pi_42, ↓gi_43, ↓pi_43, ↓gi_44, ↓pi_44, ↓gi_45, ↓pi_45, ↓gi_46, ↓pi_46, ↓gi_47, ↓pi_47, ↓gi_48, ↓pi_48, ↓gi_51, ↓pi_51, ↓gi_52, ↓pi_52, ↓gi_53, ↓pi_53, ↓gi_91, ↓pi_91, ↓gi_92, ↓pi_92, ↓gi_93, ↓pi_93, ↓gi_95, ↓pi_95, ↓gi_89, ↓pi_89, ↓gi_94, ↓pi_94, ↓gi_1, ↓gi_3, ↓gn_1, ↓gn_2, ↓gr_2, ↓gr_55, ↓pr_55, ↓gl_96, ↓pl_96, ↓gf_w0, ↓gf_w1, ↓gw_w, ↓gf_s0, ↓gf_s1, ↓ho_s, ↓gn_b, ↓gi_b, y218l hX (show q ≤ t by omega), h, if_false, if_true, z00, run, Bool.false_eq_true]
  obtain ⟨y, y1, y2⟩ := key (t - p) p 0 (Nat.le_refl _) (by omega) (fun _ => by rw [Nat.sub_self]; rfl)
  have y1 : lt' bx t p - p ≤ 6 → y = Int32.ofNat (hs (fun j => bx (p + j)) (lt' bx t p - p)) := y1
  have y2 : Rv 223 7 [some (.ref 90), some (.int (Int32.ofNat p)), some (.int 0)] [] (en G c (RF F (Int32.ofNat p) f n w) A P W O) = Rv 223 64 [some (.ref 90), some (.int (Int32.ofNat p)), some (.int y)] [] (en G c (RF F (Int32.ofNat (lt' bx t p)) f n w) A P W O) := y2
  have hlet : ∀ j, j < lt' bx t p - p → 97 ≤ bx (p + j) ∧ bx (p + j) ≤ 122 := fun j hj => by
    have := run_all (q := isr bx t 97 122) (t - p) p (p + j) (by omega) (by have : lt' bx t p = run (isr bx t 97 122) (t - p) p := rfl; omega)
    rw [isr_b] at this
    exact this.2
  have e6 : ((6 : Int32) < Int32.ofNat (lt' bx t p - p)) = (6 < lt' bx t p - p) := io_lt (a := 6) (by omega) (by omega)
  have hcw : wdx bx p (lt' bx t p) = cwd bx t p := rfl
  rcases cwd_nn (bx := bx) (t := t) (p := p) with h | ⟨h, -⟩
  · have hz : ∀ G c F A P W O, Rv 220 0 [some (.int (if 6 < lt' bx t p - p then 0 else y))] [] (en G c F A P W O) = some (.inl (some (.int (-1))), (en G c F A P W O)) := fun G c F A P W O => by
      by_cases h6 : 6 < lt' bx t p - p
      · rw [if_pos h6]
        exact y220n (v := 0) (by omega) fun i hi => by rcases ten_or hi with rfl | rfl | rfl | rfl | rfl | rfl | rfl | rfl | rfl | rfl <;> decide
      · rw [if_neg h6, y1 (by omega)]
        have hb := hs_lt (f := fun j => bx (p + j)) (lt' bx t p - p) fun j hj => (hlet j hj).2
        have hp6 : 27 ^ (lt' bx t p - p) ≤ 27 ^ 6 := Nat.pow_le_pow_right (by omega) (by omega)
        exact y220n (by have : 27 ^ 6 < 2147483648 := by decide
                        omega) (hs_n (by rw [hcw]; exact h) hlet)
    by_cases h6 : 6 < lt' bx t p - p
    · have hz' := fun G c F A P W O => hz G c F A P W O
      simp only [if_pos h6] at hz'
      simp only [↓e223_0, ↓e223_1, ↓e223_4, ↓e223_5, ↓e223_6, ↓ldI_0, ↓ldI_s, ↓ldA_0, ↓ldA_n, ↓ldA_s, ↓ldL_0, ↓ldL_s, ↓lst_0, ↓lst_s, ↓cal_v, ↓cal_x, ↓vts_s, ↓vts_n, ↓lpr_0, ↓lpr_i, ↓lpr_r, ↓lpr_n, ↓lpr_s, PA_41, ↓reduceIte, or_true, true_or, ↓ho_40, ↓gf_40_0, ↓gf_40_1, ↓gf_40_2, ↓gf_40_3, ↓ho_49, ↓gf_49_0, ↓gf_49_1, ↓gf_49_2, ↓gf_49_3, ↓pf_49_3, ↓ho_50, ↓gf_50_0, ↓gf_50_1, ↓gf_50_2, ↓pf_50_2, ↓gf_50_3, ↓pf_50_3, ↓gf_50_4, ↓pf_50_4, ↓gf_50_5, ↓pf_50_5, ↓gf_50_6, ↓pf_50_6, ↓ho_54, ↓gf_54_0, ↓gf_54_1, ↓pf_54_1, ↓ho_88, ↓gf_88_0, ↓gf_88_1, ↓pf_88_1, ↓gf_88_2, ↓pf_88_2, ↓gf_88_3, ↓pf_88_3, ↓gf_88_4, ↓pf_88_4, ↓gf_88_5, ↓pf_88_5, ↓ho_90, ↓gf_90_0, ↓gf_90_1, ↓gf_90_2, ↓pf_90_2, ↓gf_90_3, ↓pf_90_3, ↓gf_90_4, ↓gf_90_5, ↓gf_90_6, ↓pf_90_6, ↓gf_90_7, ↓pf_90_7, ↓gf_90_8, ↓pf_90_8, ↓gf_90_9, ↓pf_90_9, ↓gf_90_10, ↓pf_90_10, ↓gf_90_11, ↓gf_41_0, ↓pf_41_0, ↓gf_41_1, ↓pf_41_1, ↓gf_41_2, ↓gf_41_3, ↓pf_41_3, ↓gf_41_4, ↓gf_41_5, ↓gf_41_6, ↓gf_41_7, ↓gf_41_8, ↓pf_41_8, ↓gf_41_9, ↓pf_41_9, ↓gf_41_10, ↓gf_41_11, ↓ho_41, ↓gi_42, ↓pi_42, ↓gi_43, ↓pi_43, ↓gi_44, ↓pi_44, ↓gi_45, ↓pi_45, ↓gi_46, ↓pi_46, ↓gi_47, ↓pi_47, ↓gi_48, ↓pi_48, ↓gi_51, ↓pi_51, ↓gi_52, ↓pi_52, ↓gi_53, ↓pi_53, ↓gi_91, ↓pi_91, ↓gi_92, ↓pi_92, ↓gi_93, ↓pi_93, ↓gi_95, ↓pi_95, ↓gi_89, ↓pi_89, ↓gi_94, ↓pi_94, ↓gi_1, ↓gi_3, ↓gn_1, ↓gn_2, ↓gr_2, ↓gr_55, ↓pr_55, ↓gl_96, ↓pl_96, ↓gf_w0, ↓gf_w1, ↓gw_w, ↓gf_s0, ↓gf_s1, ↓ho_s, ↓gn_b, ↓gi_b, rf_7, y2]
      simp only [↓e223_0, ↓e223_1, ↓e223_4, ↓e223_5, ↓e223_6, ↓e223_8, ↓e223_10, ↓e223_12, ↓e223_15, ↓e223_18, ↓e223_19, ↓e223_22, ↓e223_23, ↓e223_24, ↓e223_26, ↓e223_29, ↓e223_31, ↓e223_32, ↓e223_33, ↓e223_34, ↓e223_37, ↓e223_38, ↓e223_41, ↓e223_42, ↓e223_43, ↓e223_45, ↓e223_46, ↓e223_49, ↓e223_50, ↓e223_51, ↓e223_52, ↓e223_53, ↓e223_56, ↓e223_57, ↓e223_58, ↓e223_61, ↓e223_64, ↓e223_65, ↓e223_66, ↓e223_69, ↓e223_70, ↓e223_71, ↓e223_73, ↓e223_76, ↓e223_77, ↓e223_80, ↓e223_81, ↓e223_84, ↓e223_87, ↓e223_88, ↓e223_89, ↓e223_92, ↓e223_93, ↓e223_96, ↓e223_97, ↓e223_100, ↓e223_101, ↓e223_104, ↓e223_107, ↓ldI_0, ↓ldI_s, ↓ldA_0, ↓ldA_n, ↓ldA_s, ↓ldL_0, ↓ldL_s, ↓lst_0, ↓lst_s, ↓cal_v, ↓cal_x, ↓vts_s, ↓vts_n, ↓lpr_0, ↓lpr_i, ↓lpr_r, ↓lpr_n, ↓lpr_s, PA_41, ↓reduceIte, or_true, true_or, ↓ho_40, ↓gf_40_0, ↓gf_40_1, ↓gf_40_2, ↓gf_40_3, ↓ho_49, ↓gf_49_0, ↓gf_49_1, ↓gf_49_2, ↓gf_49_3, ↓pf_49_3, ↓ho_50, ↓gf_50_0, ↓gf_50_1, ↓gf_50_2, ↓pf_50_2, ↓gf_50_3, ↓pf_50_3, ↓gf_50_4, ↓pf_50_4, ↓gf_50_5, ↓pf_50_5, ↓gf_50_6, ↓pf_50_6, ↓ho_54, ↓gf_54_0, ↓gf_54_1, ↓pf_54_1, ↓ho_88, ↓gf_88_0, ↓gf_88_1, ↓pf_88_1, ↓gf_88_2, ↓pf_88_2, ↓gf_88_3, ↓pf_88_3, ↓gf_88_4, ↓pf_88_4, ↓gf_88_5, ↓pf_88_5, ↓ho_90, ↓gf_90_0, ↓gf_90_1, ↓gf_90_2, ↓pf_90_2, ↓gf_90_3, ↓pf_90_3, ↓gf_90_4, ↓gf_90_5, ↓gf_90_6, ↓pf_90_6, ↓gf_90_7, ↓pf_90_7, ↓gf_90_8, ↓pf_90_8, ↓gf_90_9, ↓pf_90_9, ↓gf_90_10, ↓pf_90_10, ↓gf_90_11, ↓gf_41_0, ↓pf_41_0, ↓gf_41_1, ↓pf_41_1, ↓gf_41_2, ↓gf_41_3, ↓pf_41_3, ↓gf_41_4, ↓gf_41_5, ↓gf_41_6, ↓gf_41_7, ↓gf_41_8, ↓pf_41_8, ↓gf_41_9, ↓pf_41_9, ↓gf_41_10, ↓gf_41_11, ↓ho_41, ↓gi_42, ↓pi_42, ↓gi_43, ↓pi_43, ↓gi_44, ↓pi_44, ↓gi_45, ↓pi_45, ↓gi_46, ↓pi_46, ↓gi_47, ↓pi_47, ↓gi_48, ↓pi_48, ↓gi_51, ↓pi_51, ↓gi_52, ↓pi_52, ↓gi_53, ↓pi_53, ↓gi_91, ↓pi_91, ↓gi_92, ↓pi_92, ↓gi_93, ↓pi_93, ↓gi_95, ↓pi_95, ↓gi_89, ↓pi_89, ↓gi_94, ↓pi_94, ↓gi_1, ↓gi_3, ↓gn_1, ↓gn_2, ↓gr_2, ↓gr_55, ↓pr_55, ↓gl_96, ↓pl_96, ↓gf_w0, ↓gf_w1, ↓gw_w, ↓gf_s0, ↓gf_s1, ↓ho_s, ↓gn_b, ↓gi_b, rf_7, io_sub hl.1, e6, h6, if_true, hz', rf_s10, rf_10, m11, rf_s8, h, wc]
    · have hz' := fun G c F A P W O => hz G c F A P W O
      simp only [if_neg h6] at hz'
      simp only [↓e223_0, ↓e223_1, ↓e223_4, ↓e223_5, ↓e223_6, ↓ldI_0, ↓ldI_s, ↓ldA_0, ↓ldA_n, ↓ldA_s, ↓ldL_0, ↓ldL_s, ↓lst_0, ↓lst_s, ↓cal_v, ↓cal_x, ↓vts_s, ↓vts_n, ↓lpr_0, ↓lpr_i, ↓lpr_r, ↓lpr_n, ↓lpr_s, PA_41, ↓reduceIte, or_true, true_or, ↓ho_40, ↓gf_40_0, ↓gf_40_1, ↓gf_40_2, ↓gf_40_3, ↓ho_49, ↓gf_49_0, ↓gf_49_1, ↓gf_49_2, ↓gf_49_3, ↓pf_49_3, ↓ho_50, ↓gf_50_0, ↓gf_50_1, ↓gf_50_2, ↓pf_50_2, ↓gf_50_3, ↓pf_50_3, ↓gf_50_4, ↓pf_50_4, ↓gf_50_5, ↓pf_50_5, ↓gf_50_6, ↓pf_50_6, ↓ho_54, ↓gf_54_0, ↓gf_54_1, ↓pf_54_1, ↓ho_88, ↓gf_88_0, ↓gf_88_1, ↓pf_88_1, ↓gf_88_2, ↓pf_88_2, ↓gf_88_3, ↓pf_88_3, ↓gf_88_4, ↓pf_88_4, ↓gf_88_5, ↓pf_88_5, ↓ho_90, ↓gf_90_0, ↓gf_90_1, ↓gf_90_2, ↓pf_90_2, ↓gf_90_3, ↓pf_90_3, ↓gf_90_4, ↓gf_90_5, ↓gf_90_6, ↓pf_90_6, ↓gf_90_7, ↓pf_90_7, ↓gf_90_8, ↓pf_90_8, ↓gf_90_9, ↓pf_90_9, ↓gf_90_10, ↓pf_90_10, ↓gf_90_11, ↓gf_41_0, ↓pf_41_0, ↓gf_41_1, ↓pf_41_1, ↓gf_41_2, ↓gf_41_3, ↓pf_41_3, ↓gf_41_4, ↓gf_41_5, ↓gf_41_6, ↓gf_41_7, ↓gf_41_8, ↓pf_41_8, ↓gf_41_9, ↓pf_41_9, ↓gf_41_10, ↓gf_41_11, ↓ho_41, ↓gi_42, ↓pi_42, ↓gi_43, ↓pi_43, ↓gi_44, ↓pi_44, ↓gi_45, ↓pi_45, ↓gi_46, ↓pi_46, ↓gi_47, ↓pi_47, ↓gi_48, ↓pi_48, ↓gi_51, ↓pi_51, ↓gi_52, ↓pi_52, ↓gi_53, ↓pi_53, ↓gi_91, ↓pi_91, ↓gi_92, ↓pi_92, ↓gi_93, ↓pi_93, ↓gi_95, ↓pi_95, ↓gi_89, ↓pi_89, ↓gi_94, ↓pi_94, ↓gi_1, ↓gi_3, ↓gn_1, ↓gn_2, ↓gr_2, ↓gr_55, ↓pr_55, ↓gl_96, ↓pl_96, ↓gf_w0, ↓gf_w1, ↓gw_w, ↓gf_s0, ↓gf_s1, ↓ho_s, ↓gn_b, ↓gi_b, rf_7, y2]
      simp only [↓e223_0, ↓e223_1, ↓e223_4, ↓e223_5, ↓e223_6, ↓e223_8, ↓e223_10, ↓e223_12, ↓e223_15, ↓e223_18, ↓e223_19, ↓e223_22, ↓e223_23, ↓e223_24, ↓e223_26, ↓e223_29, ↓e223_31, ↓e223_32, ↓e223_33, ↓e223_34, ↓e223_37, ↓e223_38, ↓e223_41, ↓e223_42, ↓e223_43, ↓e223_45, ↓e223_46, ↓e223_49, ↓e223_50, ↓e223_51, ↓e223_52, ↓e223_53, ↓e223_56, ↓e223_57, ↓e223_58, ↓e223_61, ↓e223_64, ↓e223_65, ↓e223_66, ↓e223_69, ↓e223_70, ↓e223_71, ↓e223_73, ↓e223_76, ↓e223_77, ↓e223_80, ↓e223_81, ↓e223_84, ↓e223_87, ↓e223_88, ↓e223_89, ↓e223_92, ↓e223_93, ↓e223_96, ↓e223_97, ↓e223_100, ↓e223_101, ↓e223_104, ↓e223_107, ↓ldI_0, ↓ldI_s, ↓ldA_0, ↓ldA_n, ↓ldA_s, ↓ldL_0, ↓ldL_s, ↓lst_0, ↓lst_s, ↓cal_v, ↓cal_x, ↓vts_s, ↓vts_n, ↓lpr_0, ↓lpr_i, ↓lpr_r, ↓lpr_n, ↓lpr_s, PA_41, ↓reduceIte, or_true, true_or, ↓ho_40, ↓gf_40_0, ↓gf_40_1, ↓gf_40_2, ↓gf_40_3, ↓ho_49, ↓gf_49_0, ↓gf_49_1, ↓gf_49_2, ↓gf_49_3, ↓pf_49_3, ↓ho_50, ↓gf_50_0, ↓gf_50_1, ↓gf_50_2, ↓pf_50_2, ↓gf_50_3, ↓pf_50_3, ↓gf_50_4, ↓pf_50_4, ↓gf_50_5, ↓pf_50_5, ↓gf_50_6, ↓pf_50_6, ↓ho_54, ↓gf_54_0, ↓gf_54_1, ↓pf_54_1, ↓ho_88, ↓gf_88_0, ↓gf_88_1, ↓pf_88_1, ↓gf_88_2, ↓pf_88_2, ↓gf_88_3, ↓pf_88_3, ↓gf_88_4, ↓pf_88_4, ↓gf_88_5, ↓pf_88_5, ↓ho_90, ↓gf_90_0, ↓gf_90_1, ↓gf_90_2, ↓pf_90_2, ↓gf_90_3, ↓pf_90_3, ↓gf_90_4, ↓gf_90_5, ↓gf_90_6, ↓pf_90_6, ↓gf_90_7, ↓pf_90_7, ↓gf_90_8, ↓pf_90_8, ↓gf_90_9, ↓pf_90_9, ↓gf_90_10, ↓pf_90_10, ↓gf_90_11, ↓gf_41_0, ↓pf_41_0, ↓gf_41_1, ↓pf_41_1, ↓gf_41_2, ↓gf_41_3, ↓pf_41_3, ↓gf_41_4, ↓gf_41_5, ↓gf_41_6, ↓gf_41_7, ↓gf_41_8, ↓pf_41_8, ↓gf_41_9, ↓pf_41_9, ↓gf_41_10, ↓gf_41_11, ↓ho_41, ↓gi_42, ↓pi_42, ↓gi_43, ↓pi_43, ↓gi_44, ↓pi_44, ↓gi_45, ↓pi_45, ↓gi_46, ↓pi_46, ↓gi_47, ↓pi_47, ↓gi_48, ↓pi_48, ↓gi_51, ↓pi_51, ↓gi_52, ↓pi_52, ↓gi_53, ↓pi_53, ↓gi_91, ↓pi_91, ↓gi_92, ↓pi_92, ↓gi_93, ↓pi_93, ↓gi_95, ↓pi_95, ↓gi_89, ↓pi_89, ↓gi_94, ↓pi_94, ↓gi_1, ↓gi_3, ↓gn_1, ↓gn_2, ↓gr_2, ↓gr_55, ↓pr_55, ↓gl_96, ↓pl_96, ↓gf_w0, ↓gf_w1, ↓gw_w, ↓gf_s0, ↓gf_s1, ↓ho_s, ↓gn_b, ↓gi_b, rf_7, io_sub hl.1, e6, h6, if_false, hz', rf_s10, rf_10, m11, if_true, rf_s8, h, wc]
  · obtain ⟨h6, h7⟩ := hs_w (bx := bx) (p := p) (e := lt' bx t p) h
    have hz := fun G c F A P W O => y220w (G := G) (c := c) (F := F) (A := A) (P := P) (W := W) (O := O) h
    have h6' : ¬ 6 < lt' bx t p - p := by omega
    have hy : y = Int32.ofNat (hw (cwd bx t p)) := by rw [y1 h6, h7, hcw]
    rw [hy] at y2
    have hne : ¬ cwd bx t p = 10 := by omega
    simp only [↓e223_0, ↓e223_1, ↓e223_4, ↓e223_5, ↓e223_6, ↓ldI_0, ↓ldI_s, ↓ldA_0, ↓ldA_n, ↓ldA_s, ↓ldL_0, ↓ldL_s, ↓lst_0, ↓lst_s, ↓cal_v, ↓cal_x, ↓vts_s, ↓vts_n, ↓lpr_0, ↓lpr_i, ↓lpr_r, ↓lpr_n, ↓lpr_s, PA_41, ↓reduceIte, or_true, true_or, ↓ho_40, ↓gf_40_0, ↓gf_40_1, ↓gf_40_2, ↓gf_40_3, ↓ho_49, ↓gf_49_0, ↓gf_49_1, ↓gf_49_2, ↓gf_49_3, ↓pf_49_3, ↓ho_50, ↓gf_50_0, ↓gf_50_1, ↓gf_50_2, ↓pf_50_2, ↓gf_50_3, ↓pf_50_3, ↓gf_50_4, ↓pf_50_4, ↓gf_50_5, ↓pf_50_5, ↓gf_50_6, ↓pf_50_6, ↓ho_54, ↓gf_54_0, ↓gf_54_1, ↓pf_54_1, ↓ho_88, ↓gf_88_0, ↓gf_88_1, ↓pf_88_1, ↓gf_88_2, ↓pf_88_2, ↓gf_88_3, ↓pf_88_3, ↓gf_88_4, ↓pf_88_4, ↓gf_88_5, ↓pf_88_5, ↓ho_90, ↓gf_90_0, ↓gf_90_1, ↓gf_90_2, ↓pf_90_2, ↓gf_90_3, ↓pf_90_3, ↓gf_90_4, ↓gf_90_5, ↓gf_90_6, ↓pf_90_6, ↓gf_90_7, ↓pf_90_7, ↓gf_90_8, ↓pf_90_8, ↓gf_90_9, ↓pf_90_9, ↓gf_90_10, ↓pf_90_10, ↓gf_90_11, ↓gf_41_0, ↓pf_41_0, ↓gf_41_1, ↓pf_41_1, ↓gf_41_2, ↓gf_41_3, ↓pf_41_3, ↓gf_41_4, ↓gf_41_5, ↓gf_41_6, ↓gf_41_7, ↓gf_41_8, ↓pf_41_8, ↓gf_41_9, ↓pf_41_9, ↓gf_41_10, ↓gf_41_11, ↓ho_41, ↓gi_42, ↓pi_42, ↓gi_43, ↓pi_43, ↓gi_44, ↓pi_44, ↓gi_45, ↓pi_45, ↓gi_46, ↓pi_46, ↓gi_47, ↓pi_47, ↓gi_48, ↓pi_48, ↓gi_51, ↓pi_51, ↓gi_52, ↓pi_52, ↓gi_53, ↓pi_53, ↓gi_91, ↓pi_91, ↓gi_92, ↓pi_92, ↓gi_93, ↓pi_93, ↓gi_95, ↓pi_95, ↓gi_89, ↓pi_89, ↓gi_94, ↓pi_94, ↓gi_1, ↓gi_3, ↓gn_1, ↓gn_2, ↓gr_2, ↓gr_55, ↓pr_55, ↓gl_96, ↓pl_96, ↓gf_w0, ↓gf_w1, ↓gw_w, ↓gf_s0, ↓gf_s1, ↓ho_s, ↓gn_b, ↓gi_b, rf_7, y2]
    simp only [↓e223_0, ↓e223_1, ↓e223_4, ↓e223_5, ↓e223_6, ↓e223_8, ↓e223_10, ↓e223_12, ↓e223_15, ↓e223_18, ↓e223_19, ↓e223_22, ↓e223_23, ↓e223_24, ↓e223_26, ↓e223_29, ↓e223_31, ↓e223_32, ↓e223_33, ↓e223_34, ↓e223_37, ↓e223_38, ↓e223_41, ↓e223_42, ↓e223_43, ↓e223_45, ↓e223_46, ↓e223_49, ↓e223_50, ↓e223_51, ↓e223_52, ↓e223_53, ↓e223_56, ↓e223_57, ↓e223_58, ↓e223_61, ↓e223_64, ↓e223_65, ↓e223_66, ↓e223_69, ↓e223_70, ↓e223_71, ↓e223_73, ↓e223_76, ↓e223_77, ↓e223_80, ↓e223_81, ↓e223_84, ↓e223_87, ↓e223_88, ↓e223_89, ↓e223_92, ↓e223_93, ↓e223_96, ↓e223_97, ↓e223_100, ↓e223_101, ↓e223_104, ↓e223_107, ↓ldI_0, ↓ldI_s, ↓ldA_0, ↓ldA_n, ↓ldA_s, ↓ldL_0, ↓ldL_s, ↓lst_0, ↓lst_s, ↓cal_v, ↓cal_x, ↓vts_s, ↓vts_n, ↓lpr_0, ↓lpr_i, ↓lpr_r, ↓lpr_n, ↓lpr_s, PA_41, ↓reduceIte, or_true, true_or, ↓ho_40, ↓gf_40_0, ↓gf_40_1, ↓gf_40_2, ↓gf_40_3, ↓ho_49, ↓gf_49_0, ↓gf_49_1, ↓gf_49_2, ↓gf_49_3, ↓pf_49_3, ↓ho_50, ↓gf_50_0, ↓gf_50_1, ↓gf_50_2, ↓pf_50_2, ↓gf_50_3, ↓pf_50_3, ↓gf_50_4, ↓pf_50_4, ↓gf_50_5, ↓pf_50_5, ↓gf_50_6, ↓pf_50_6, ↓ho_54, ↓gf_54_0, ↓gf_54_1, ↓pf_54_1, ↓ho_88, ↓gf_88_0, ↓gf_88_1, ↓pf_88_1, ↓gf_88_2, ↓pf_88_2, ↓gf_88_3, ↓pf_88_3, ↓gf_88_4, ↓pf_88_4, ↓gf_88_5, ↓pf_88_5, ↓ho_90, ↓gf_90_0, ↓gf_90_1, ↓gf_90_2, ↓pf_90_2, ↓gf_90_3, ↓pf_90_3, ↓gf_90_4, ↓gf_90_5, ↓gf_90_6, ↓pf_90_6, ↓gf_90_7, ↓pf_90_7, ↓gf_90_8, ↓pf_90_8, ↓gf_90_9, ↓pf_90_9, ↓gf_90_10, ↓pf_90_10, ↓gf_90_11, ↓gf_41_0, ↓pf_41_0, ↓gf_41_1, ↓pf_41_1, ↓gf_41_2, ↓gf_41_3, ↓pf_41_3, ↓gf_41_4, ↓gf_41_5, ↓gf_41_6, ↓gf_41_7, ↓gf_41_8, ↓pf_41_8, ↓gf_41_9, ↓pf_41_9, ↓gf_41_10, ↓gf_41_11, ↓ho_41, ↓gi_42, ↓pi_42, ↓gi_43, ↓pi_43, ↓gi_44, ↓pi_44, ↓gi_45, ↓pi_45, ↓gi_46, ↓pi_46, ↓gi_47, ↓pi_47, ↓gi_48, ↓pi_48, ↓gi_51, ↓pi_51, ↓gi_52, ↓pi_52, ↓gi_53, ↓pi_53, ↓gi_91, ↓pi_91, ↓gi_92, ↓pi_92, ↓gi_93, ↓pi_93, ↓gi_95, ↓pi_95, ↓gi_89, ↓pi_89, ↓gi_94, ↓pi_94, ↓gi_1, ↓gi_3, ↓gn_1, ↓gn_2, ↓gr_2, ↓gr_55, ↓pr_55, ↓gl_96, ↓pl_96, ↓gf_w0, ↓gf_w1, ↓gw_w, ↓gf_s0, ↓gf_s1, ↓ho_s, ↓gn_b, ↓gi_b, rf_7, io_sub hl.1, e6, h6', if_false, hz, rf_s10, rf_10, io_nm (show cwd bx t p < 2147483648 by omega), rf_8, rf_s8, hne, wc]
end ZT
