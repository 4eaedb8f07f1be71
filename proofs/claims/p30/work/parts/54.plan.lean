section ZT
variable {G : zG} {c : Nat × Nat × Bool} {F A : Nat → Nat → Int32} {P : Nat → Nat} {W : Value} {O : Nat → Int64} {x y j k d e u v : Int32} {p q a i n m : Nat}
/-- a code's digits below n are below the depths; what is left then -/
def dgb (F : Nat → Nat → Int32) : Nat → Int32 → Bool × Int32
  | 0, r => (true, r)
  | n + 1, r => if rmi r 10 < F 41 1 then dgb F n (r / 10) else (false, r)
/-- isCode -/
def icz (F : Nat → Nat → Int32) (x : Int32) (n : Nat) : Int32 := if x < 0 then 0 else if (dgb F n x).1 = true then (if (dgb F n x).2 = 0 then 1 else 0) else 0
theorem l58 (hc : F 41 0 = Int32.ofNat m) (h4 : m ≤ 4) : ∀ (n : Nat) (k : Nat) (r : Int32), k + n = m → Rv 58 10 [some (.ref 41), some (.int x), some (.int r), some (.int (Int32.ofNat k))] [] (en G c F A P W O) = some (.inl (some (.int (if (dgb F n r).1 = true then (if (dgb F n r).2 = 0 then 1 else 0) else 0))), (en G c F A P W O)) := by
  intro n
  induction n with
  | zero =>
    intro k r h
    have hk : k = m := by omega
    subst hk
    rw [h58_10]
    simp only [↓e58_0, ↓e58_1, ↓e58_4, ↓e58_5, ↓e58_6, ↓e58_7, ↓e58_8, ↓e58_9, ↓e58_11, ↓e58_12, ↓e58_15, ↓e58_18, ↓e58_19, ↓e58_21, ↓e58_22, ↓e58_23, ↓e58_26, ↓e58_29, ↓e58_30, ↓e58_31, ↓e58_32, ↓e58_34, ↓e58_35, ↓e58_36, ↓e58_39, ↓e58_42, ↓e58_43, ↓e58_46, ↓e58_47, ↓e58_50, ↓e58_51, ↓ldI_0, ↓ldI_s, ↓ldA_0, ↓ldA_n, ↓ldA_s, ↓ldL_0, ↓ldL_s, ↓lst_0, ↓lst_s, ↓cal_v, ↓cal_x, ↓vts_s, ↓vts_n, ↓lpr_0, ↓lpr_i, ↓lpr_r, ↓lpr_n, ↓lpr_s, PA_41, ↓reduceIte, or_true, true_or, ↓ho_40, ↓gf_40_0, ↓gf_40_1, ↓gf_40_2, ↓gf_40_3, ↓ho_49, ↓gf_49_0, ↓gf_49_1, ↓gf_49_2, ↓gf_49_3, ↓pf_49_3, ↓ho_50, ↓gf_50_0, ↓gf_50_1, ↓gf_50_2, ↓pf_50_2, ↓gf_50_3, ↓pf_50_3, ↓gf_50_4, ↓pf_50_4, ↓gf_50_5, ↓pf_50_5, ↓gf_50_6, ↓pf_50_6, ↓ho_54, ↓gf_54_0, ↓gf_54_1, ↓pf_54_1, ↓ho_88, ↓gf_88_0, ↓gf_88_1, ↓pf_88_1, ↓gf_88_2, ↓pf_88_2, ↓gf_88_3, ↓pf_88_3, ↓gf_88_4, ↓pf_88_4, ↓gf_88_5, ↓pf_88_5, ↓gf_41_0, ↓pf_41_0, ↓gf_41_1, ↓pf_41_1, ↓gf_41_2, ↓gf_41_3, ↓pf_41_3, ↓gf_41_4, ↓gf_41_5, ↓gf_41_6, ↓gf_41_7, ↓gf_41_8, ↓pf_41_8, ↓gf_41_9, ↓pf_41_9, ↓gf_41_10, ↓gf_41_11, ↓ho_41, ↓gi_42, ↓pi_42, ↓gi_43, ↓pi_43, ↓gi_44, ↓pi_44, ↓gi_45, ↓pi_45, ↓gi_46, ↓pi_46, ↓gi_47, ↓pi_47, ↓gi_48, ↓pi_48, ↓gi_51, ↓pi_51, ↓gi_52, ↓pi_52, ↓gi_53, ↓pi_53, ↓gi_89, ↓pi_89, ↓gi_1, ↓gn_1, ↓gr_55, ↓pr_55, hc, Int32.lt_irrefl, dgb]
    by_cases hr : r = 0 <;> simp [hr]
  | succ n ih =>
    intro k r h
    rw [h58_10]
    simp only [↓e58_0, ↓e58_1, ↓e58_4, ↓e58_5, ↓e58_6, ↓e58_7, ↓e58_8, ↓e58_9, ↓e58_11, ↓e58_12, ↓e58_15, ↓e58_18, ↓e58_19, ↓e58_21, ↓e58_22, ↓e58_23, ↓e58_26, ↓e58_29, ↓e58_30, ↓e58_31, ↓e58_32, ↓e58_34, ↓e58_35, ↓e58_36, ↓e58_39, ↓e58_42, ↓e58_43, ↓e58_46, ↓e58_47, ↓e58_50, ↓e58_51, ↓ldI_0, ↓ldI_s, ↓ldA_0, ↓ldA_n, ↓ldA_s, ↓ldL_0, ↓ldL_s, ↓lst_0, ↓lst_s, ↓cal_v, ↓cal_x, ↓vts_s, ↓vts_n, ↓lpr_0, ↓lpr_i, ↓lpr_r, ↓lpr_n, ↓lpr_s, PA_41, ↓reduceIte, or_true, true_or, ↓ho_40, ↓gf_40_0, ↓gf_40_1, ↓gf_40_2, ↓gf_40_3, ↓ho_49, ↓gf_49_0, ↓gf_49_1, ↓gf_49_2, ↓gf_49_3, ↓pf_49_3, ↓ho_50, ↓gf_50_0, ↓gf_50_1, ↓gf_50_2, ↓pf_50_2, ↓gf_50_3, ↓pf_50_3, ↓gf_50_4, ↓pf_50_4, ↓gf_50_5, ↓pf_50_5, ↓gf_50_6, ↓pf_50_6, ↓ho_54, ↓gf_54_0, ↓gf_54_1, ↓pf_54_1, ↓ho_88, ↓gf_88_0, ↓gf_88_1, ↓pf_88_1, ↓gf_88_2, ↓pf_88_2, ↓gf_88_3, ↓pf_88_3, ↓gf_88_4, ↓pf_88_4, ↓gf_88_5, ↓pf_88_5, ↓gf_41_0, ↓pf_41_0, ↓gf_41_1, ↓pf_41_1, ↓gf_41_2, ↓gf_41_3, ↓pf_41_3, ↓gf_41_4, ↓gf_41_5, ↓gf_41_6, ↓gf_41_7, ↓gf_41_8, ↓pf_41_8, ↓gf_41_9, ↓pf_41_9, ↓gf_41_10, ↓gf_41_11, ↓ho_41, ↓gi_42, ↓pi_42, ↓gi_43, ↓pi_43, ↓gi_44, ↓pi_44, ↓gi_45, ↓pi_45, ↓gi_46, ↓pi_46, ↓gi_47, ↓pi_47, ↓gi_48, ↓pi_48, ↓gi_51, ↓pi_51, ↓gi_52, ↓pi_52, ↓gi_53, ↓pi_53, ↓gi_89, ↓pi_89, ↓gi_1, ↓gn_1, ↓gr_55, ↓pr_55, hc, io_lt (show k < 2147483648 by omega) (show m < 2147483648 by omega), show k < m by omega, show ((10 : Int32) = 0) = False from by decide, io_succ, ih (k + 1) (r / 10) (by omega), dgb]
    by_cases h1 : rmi r 10 < F 41 1
    · simp [h1]
    · simp [h1]
theorem s58 (hc : F 41 0 = Int32.ofNat n) (h4 : n ≤ 4) : Rv 58 0 [some (.ref 41), some (.int x), none, none] [] (en G c F A P W O) = some (.inl (some (.int (icz F x n))), (en G c F A P W O)) := by
  have l0 : Rv 58 10 [some (.ref 41), some (.int x), some (.int x), some (.int 0)] [] (en G c F A P W O) = some (.inl (some (.int (if (dgb F n x).1 = true then (if (dgb F n x).2 = 0 then 1 else 0) else 0))), (en G c F A P W O)) := l58 hc h4 n 0 x (by omega)
  simp only [↓e58_0, ↓e58_1, ↓e58_4, ↓e58_5, ↓e58_6, ↓e58_7, ↓e58_8, ↓e58_9, ↓e58_11, ↓e58_12, ↓e58_15, ↓e58_18, ↓e58_19, ↓e58_21, ↓e58_22, ↓e58_23, ↓e58_26, ↓e58_29, ↓e58_30, ↓e58_31, ↓e58_32, ↓e58_34, ↓e58_35, ↓e58_36, ↓e58_39, ↓e58_42, ↓e58_43, ↓e58_46, ↓e58_47, ↓e58_50, ↓e58_51, ↓ldI_0, ↓ldI_s, ↓ldA_0, ↓ldA_n, ↓ldA_s, ↓ldL_0, ↓ldL_s, ↓lst_0, ↓lst_s, ↓cal_v, ↓cal_x, ↓vts_s, ↓vts_n, ↓lpr_0, ↓lpr_i, ↓lpr_r, ↓lpr_n, ↓lpr_s, PA_41, ↓reduceIte, or_true, true_or, ↓ho_40, ↓gf_40_0, ↓gf_40_1, ↓gf_40_2, ↓gf_40_3, ↓ho_49, ↓gf_49_0, ↓gf_49_1, ↓gf_49_2, ↓gf_49_3, ↓pf_49_3, ↓ho_50, ↓gf_50_0, ↓gf_50_1, ↓gf_50_2, ↓pf_50_2, ↓gf_50_3, ↓pf_50_3, ↓gf_50_4, ↓pf_50_4, ↓gf_50_5, ↓pf_50_5, ↓gf_50_6, ↓pf_50_6, ↓ho_54, ↓gf_54_0, ↓gf_54_1, ↓pf_54_1, ↓ho_88, ↓gf_88_0, ↓gf_88_1, ↓pf_88_1, ↓gf_88_2, ↓pf_88_2, ↓gf_88_3, ↓pf_88_3, ↓gf_88_4, ↓pf_88_4, ↓gf_88_5, ↓pf_88_5, ↓gf_41_0, ↓pf_41_0, ↓gf_41_1, ↓pf_41_1, ↓gf_41_2, ↓gf_41_3, ↓pf_41_3, ↓gf_41_4, ↓gf_41_5, ↓gf_41_6, ↓gf_41_7, ↓gf_41_8, ↓pf_41_8, ↓gf_41_9, ↓pf_41_9, ↓gf_41_10, ↓gf_41_11, ↓ho_41, ↓gi_42, ↓pi_42, ↓gi_43, ↓pi_43, ↓gi_44, ↓pi_44, ↓gi_45, ↓pi_45, ↓gi_46, ↓pi_46, ↓gi_47, ↓pi_47, ↓gi_48, ↓pi_48, ↓gi_51, ↓pi_51, ↓gi_52, ↓pi_52, ↓gi_53, ↓pi_53, ↓gi_89, ↓pi_89, ↓gi_1, ↓gn_1, ↓gr_55, ↓pr_55, l0, icz]
  by_cases hx : x < 0
  · simp [hx]
  · simp only [if_neg hx]
end ZT
