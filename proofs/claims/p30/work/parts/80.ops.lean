/-! new keys; pins -/
def adk (g : Nat → Int32) (x y : Int32) : Nat → Int32 := upd (upd (upd (upd g (7 + kn g) x) (23 + kn g) y) (39 + kn g) 0) 5 (Int32.ofNat (kn g + 1))
theorem adk_no {g : Nat → Int32} {x y : Int32} {i : Nat} (h1 : i ≠ 7 + kn g) (h2 : i ≠ 23 + kn g) (h3 : i ≠ 39 + kn g) (h4 : i ≠ 5) : adk g x y i = g i := by
  unfold adk
  rw [upd_no h4, upd_no h3, upd_no h2, upd_no h1]
theorem adk_cd {g : Nat → Int32} {x y : Int32} : adk g x y (7 + kn g) = x := by
  unfold adk
  rw [upd_no (by omega), upd_no (by omega), upd_no (by omega), upd_at]
theorem adk_ma {g : Nat → Int32} {x y : Int32} : adk g x y (23 + kn g) = y := by
  unfold adk
  rw [upd_no (by omega), upd_no (by omega), upd_at]
theorem adk_lo {g : Nat → Int32} {x y : Int32} : adk g x y (39 + kn g) = 0 := by
  unfold adk
  rw [upd_no (by omega), upd_at]
theorem adk_hd {g : Nat → Int32} {x y : Int32} (hn : kn g < 16) : chn (adk g x y) = chn g ∧ dpn (adk g x y) = dpn g ∧ kn (adk g x y) = kn g + 1 ∧ dn (adk g x y) = dn g := by
  unfold chn dpn dn
  rw [adk_no (by omega) (by omega) (by omega) (by omega), adk_no (by omega) (by omega) (by omega) (by omega), adk_no (by omega) (by omega) (by omega) (by omega)]
  refine ⟨rfl, rfl, ?_, rfl⟩
  unfold adk kn
  rw [upd_at]
  exact io_ix (show kn g + 1 < 2147483648 by omega)
section ZT
variable {G : zG} {c : Nat × Nat × Bool} {F A : Nat → Nat → Int32} {P : Nat → Nat} {W : Value} {O : Nat → Int64} {x y j k d e v m : Int32} {p q a b i n t u w : Nat} {g : Nat → Int32} {ks : Nat → Nat → Int32}
theorem wf_adk (hw : Wf g) (hn : kn g < 16) (hi : icd (chn g) (dpn g) b = true) (hy : y = -1 ∨ ∃ j, j < kn g ∧ y = Int32.ofNat j) : Wf (adk g (Int32.ofNat b) y) := by
  have m12 := wf_m12 hw
  have c4 := wf_c4 hw
  refine wf_mk (ch := chn g) (dp := dpn g) (a := rln g 0) (b := rln g 1) (e := rln g 2) (n := kn g + 1) (m := dn g) ?_ ?_ ?_ ?_ ?_ ?_ ?_ (fun k hk => ?_) (fun k hk => ?_) (fun k hk => ?_) (fun d hd => ?_) (fun d hd c hc => ?_)
  · rw [adk_no (by omega) (by omega) (by omega) (by omega)]; exact hw.1
  · rw [adk_no (by omega) (by omega) (by omega) (by omega)]; exact hw.2.1
  · rw [adk_no (by omega) (by omega) (by omega) (by omega)]; exact hw.2.2.1
  · rw [adk_no (by omega) (by omega) (by omega) (by omega)]; exact hw.2.2.2.1
  · rw [adk_no (by omega) (by omega) (by omega) (by omega)]; exact hw.2.2.2.2.1
  · exact ⟨by unfold adk; rw [upd_at], by omega⟩
  · rw [adk_no (by omega) (by omega) (by omega) (by omega)]; exact hw.2.2.2.2.2.2.1
  · by_cases e : k = kn g
    · subst e; rw [adk_cd]; exact ⟨b, rfl, hi⟩
    · rw [adk_no (by omega) (by omega) (by omega) (by omega)]; exact ⟨cd g k, wf_cd hw k (by omega), wf_ic hw k (by omega)⟩
  · by_cases e : k = kn g
    · subst e; rw [adk_ma]; exact hy
    · rw [adk_no (by omega) (by omega) (by omega) (by omega)]; exact wf_ma hw k (by omega)
  · by_cases e : k = kn g
    · subst e; rw [adk_lo]; exact Or.inl rfl
    · rw [adk_no (by omega) (by omega) (by omega) (by omega)]; exact wf_l hw k (by omega)
  · rw [adk_no (by omega) (by omega) (by omega) (by omega)]; exact ⟨ow g d, wf_ow hw d hd, by have := wf_own hw d hd; omega⟩
  · rw [adk_no (by omega) (by omega) (by omega) (by omega)]; exact wf_q hw d hd c hc
theorem adk_abv (hw : Wf g) (hn : kn g < 16) {i j : Nat} (hi : i < kn g) : abv (adk g x y) i j = abv g i j :=
  abv_cg hw (fun k hk => adk_no (by omega) (by omega) (by omega) (by omega)) i hi
theorem rp_adk (hw : Wf g) (hR : Rp F A 41 g) (hn : kn g < 16) (hi : icd (chn g) (dpn g) b = true) (hy : y = -1 ∨ ∃ j, j < kn g ∧ y = Int32.ofNat j) (hv : v = bits (abv (adk g (Int32.ofNat b) y) (kn g)) 16) : Rp (u2 F 41 3 (Int32.ofNat (kn g + 1))) (u2 (u2 (u2 (u2 A 43 (kn g) (Int32.ofNat b)) 44 (kn g) (bits (ctb (chn g) b) 24)) 45 (kn g) y) 46 (kn g) v) 41 (adk g (Int32.ofNat b) y) := by
  have m12 := wf_m12 hw
  have c4 := wf_c4 hw
  have hb := icd_lt c4 hi
  have hh := adk_hd (g := g) (x := Int32.ofNat b) (y := y) hn
  refine ⟨⟨?_, ?_, ?_, ?_, ?_⟩, ⟨?_, ?_, ?_⟩, fun k hk => ?_, fun d hd => ⟨?_, ?_⟩⟩
  · rw [u2_at, upd_no (by omega), adk_no (by omega) (by omega) (by omega) (by omega)]; exact hR.1.1
  · rw [u2_at, upd_no (by omega), adk_no (by omega) (by omega) (by omega) (by omega)]; exact hR.1.2.1
  · rw [u2_at, upd_at]; unfold adk; rw [upd_at]
  · rw [u2_at, upd_no (by omega), adk_no (by omega) (by omega) (by omega) (by omega)]; exact hR.1.2.2.2.1
  · rw [u2_at, upd_no (by omega), rp_l hR]
    refine bits_cong fun j _ => ?_
    unfold lsb
    rw [hh.2.2.1]
    by_cases h : j < kn g
    · rw [decide_eq_true h, decide_eq_true (show j < kn g + 1 by omega), adk_no (by omega) (by omega) (by omega) (by omega)]
    · rw [decide_eq_false h]
      by_cases h2 : j = kn g
      · subst h2; rw [adk_lo]; simp
      · rw [decide_eq_false (show ¬ j < kn g + 1 by omega)]; rfl
  · rw [u2_ne (by omega), u2_ne (by omega), u2_ne (by omega), u2_ne (by omega), adk_no (by omega) (by omega) (by omega) (by omega)]; exact hR.2.1.1
  · rw [u2_ne (by omega), u2_ne (by omega), u2_ne (by omega), u2_ne (by omega), adk_no (by omega) (by omega) (by omega) (by omega)]; exact hR.2.1.2.1
  · rw [u2_ne (by omega), u2_ne (by omega), u2_ne (by omega), u2_ne (by omega), adk_no (by omega) (by omega) (by omega) (by omega)]; exact hR.2.1.2.2
  · rw [hh.2.2.1] at hk
    rw [u2_ne (show 41 + 2 ≠ 46 by omega), u2_ne (show 41 + 2 ≠ 45 by omega), u2_ne (show 41 + 2 ≠ 44 by omega), u2_at, u2_ne (show 41 + 3 ≠ 46 by omega), u2_ne (show 41 + 3 ≠ 45 by omega), u2_at, u2_ne (show 41 + 4 ≠ 46 by omega), u2_at, u2_at, hh.1]
    by_cases e : k = kn g
    · subst e
      rw [upd_at, upd_at, upd_at, upd_at, adk_cd, adk_ma, cd_of adk_cd (by omega)]
      exact ⟨rfl, rfl, rfl, hv⟩
    · have hk2 : k < kn g := by omega
      have ec : cd (adk g (Int32.ofNat b) y) k = cd g k := by unfold cd; rw [adk_no (by omega) (by omega) (by omega) (by omega)]
      rw [upd_no e, upd_no e, upd_no e, upd_no e, adk_no (by omega) (by omega) (by omega) (by omega), adk_no (by omega) (by omega) (by omega) (by omega), ec, u2_ne (by omega), u2_ne (by omega), u2_ne (by omega), u2_ne (by omega), u2_ne (by omega), u2_ne (by omega)]
      exact ⟨rp_cd hR hk2, rp_ct hR hk2, rp_ma hR hk2, (rp_ab hR hk2).trans (bits_cong fun j _ => (adk_abv hw hn hk2).symm)⟩
  · rw [hh.2.2.2] at hd
    rw [u2_ne (by omega), u2_ne (by omega), u2_ne (by omega), u2_ne (by omega), adk_no (by omega) (by omega) (by omega) (by omega)]; exact (hR.2.2.2 d hd).1
  · rw [hh.2.2.2] at hd
    rw [u2_ne (by omega), u2_ne (by omega), u2_ne (by omega), u2_ne (by omega)]
    refine (rp_p hR hd).trans (bits_cong fun j _ => ?_)
    unfold pn24 pnb
    rw [hh.1, adk_no (by omega) (by omega) (by omega) (by omega)]
theorem t49 (hw : Wf g) (hR : Rp F A 41 g) (hn : kn g < 16) (hi : icd (chn g) (dpn g) b = true) (hy : y = -1 ∨ ∃ j, j < kn g ∧ y = Int32.ofNat j) : ∃ v, v = bits (abv (adk g (Int32.ofNat b) y) (kn g)) 16 ∧ Rv 49 0 [some (.ref 41), some (.int (Int32.ofNat b)), some (.int y), none] [] (en G c F A P W O) = some (.inl (some (.int (Int32.ofNat (kn g)))), en G c (u2 F 41 3 (Int32.ofNat (kn g + 1))) (u2 (u2 (u2 (u2 A 43 (kn g) (Int32.ofNat b)) 44 (kn g) (bits (ctb (chn g) b) 24)) 45 (kn g) y) 46 (kn g) v) P W O) := by
  have n0 := rp_n hR hw
  have hwk := wf_adk hw hn hi hy
  have hh := adk_hd (g := g) (x := Int32.ofNat b) (y := y) hn
  have hab : ∀ j, abv (adk g (Int32.ofNat b) y) (kn g) j = if y = -1 then false else (decide (j = y.toNatClampNeg) || abv (adk g (Int32.ofNat b) y) y.toNatClampNeg j) := fun j => by
    have := wf_abv hwk (k := kn g) (j := j) (by omega)
    rw [adk_ma] at this
    exact this
  refine ⟨_, rfl, ?_⟩
  rcases hy with rfl | ⟨i, hi2, rfl⟩
  · have e : bits (abv (adk g (Int32.ofNat b) (-1)) (kn g)) 16 = 0 := by
      rw [bits_cong (q := fun _ => false) (fun j _ => by rw [hab, if_pos rfl]), bits_zero]
    rw [e]
    simp only [↓e49_0, ↓e49_1, ↓e49_4, ↓e49_5, ↓e49_6, ↓e49_9, ↓e49_10, ↓e49_11, ↓e49_12, ↓e49_13, ↓e49_16, ↓e49_17, ↓e49_18, ↓e49_19, ↓e49_22, ↓e49_25, ↓e49_26, ↓e49_27, ↓e49_30, ↓e49_31, ↓e49_32, ↓e49_33, ↓e49_34, ↓e49_37, ↓e49_38, ↓e49_39, ↓e49_40, ↓e49_43, ↓e49_44, ↓e49_47, ↓e49_48, ↓e49_51, ↓e49_52, ↓e49_53, ↓e49_54, ↓e49_55, ↓e49_56, ↓e49_57, ↓e49_58, ↓e49_59, ↓e49_60, ↓e49_63, ↓e49_64, ↓e49_65, ↓e49_68, ↓e49_69, ↓ldI_0, ↓ldI_s, ↓ldA_0, ↓ldA_n, ↓ldA_s, ↓ldL_0, ↓ldL_s, ↓lst_0, ↓lst_s, ↓cal_v, ↓cal_x, ↓vts_s, ↓vts_n, ↓lpr_0, ↓lpr_i, ↓lpr_r, ↓lpr_n, ↓lpr_s, PA_41, ↓reduceIte, or_true, true_or, ↓ho_40, ↓gf_40_0, ↓gf_40_1, ↓gf_40_2, ↓gf_40_3, ↓ho_49, ↓gf_49_0, ↓gf_49_1, ↓gf_49_2, ↓gf_49_3, ↓pf_49_3, ↓ho_50, ↓gf_50_0, ↓gf_50_1, ↓gf_50_2, ↓pf_50_2, ↓gf_50_3, ↓pf_50_3, ↓gf_50_4, ↓pf_50_4, ↓gf_50_5, ↓pf_50_5, ↓gf_50_6, ↓pf_50_6, ↓ho_54, ↓gf_54_0, ↓gf_54_1, ↓pf_54_1, ↓ho_88, ↓gf_88_0, ↓gf_88_1, ↓pf_88_1, ↓gf_88_2, ↓pf_88_2, ↓gf_88_3, ↓pf_88_3, ↓gf_88_4, ↓pf_88_4, ↓gf_88_5, ↓pf_88_5, ↓gf_41_0, ↓pf_41_0, ↓gf_41_1, ↓pf_41_1, ↓gf_41_2, ↓gf_41_3, ↓pf_41_3, ↓gf_41_4, ↓gf_41_5, ↓gf_41_6, ↓gf_41_7, ↓gf_41_8, ↓pf_41_8, ↓gf_41_9, ↓pf_41_9, ↓gf_41_10, ↓gf_41_11, ↓ho_41, ↓gi_42, ↓pi_42, ↓gi_43, ↓pi_43, ↓gi_44, ↓pi_44, ↓gi_45, ↓pi_45, ↓gi_46, ↓pi_46, ↓gi_47, ↓pi_47, ↓gi_48, ↓pi_48, ↓gi_51, ↓pi_51, ↓gi_52, ↓pi_52, ↓gi_53, ↓pi_53, ↓gi_89, ↓pi_89, ↓gi_1, ↓gn_1, ↓gr_55, ↓pr_55, n0, io_zin (show kn g < 2147483648 by omega) (show kn g < 16 by omega), io_ix (show kn g < 2147483648 by omega), rp_c hR hw, t16 hw hi, io_succ, if_true, show ((-1 : Int32) = -1) = True from eq_true rfl]
  · have e : bits (abv (adk g (Int32.ofNat b) (Int32.ofNat i)) (kn g)) 16 = bits (abv g i) 16 ||| (1 <<< (Int32.ofNat i &&& 31)) := by
      rw [bits_one (show i < 16 by omega) (by omega), bits_or _ _ (by omega)]
      refine bits_cong fun j _ => ?_
      rw [hab, if_neg (io_nn (by omega)), io_ix (by omega), adk_abv hw hn hi2, Bool.or_comm]
    have e46 : ∀ (B : Nat → Nat → Int32) x, u2 B 45 (kn g) x 46 = B 46 := fun B x => u2_ne (by omega)
    have e46' : ∀ (B : Nat → Nat → Int32) x, u2 B 44 (kn g) x 46 = B 46 := fun B x => u2_ne (by omega)
    have e46'' : ∀ (B : Nat → Nat → Int32) x, u2 B 43 (kn g) x 46 = B 46 := fun B x => u2_ne (by omega)
    rw [e]
    simp only [↓e49_0, ↓e49_1, ↓e49_4, ↓e49_5, ↓e49_6, ↓e49_9, ↓e49_10, ↓e49_11, ↓e49_12, ↓e49_13, ↓e49_16, ↓e49_17, ↓e49_18, ↓e49_19, ↓e49_22, ↓e49_25, ↓e49_26, ↓e49_27, ↓e49_30, ↓e49_31, ↓e49_32, ↓e49_33, ↓e49_34, ↓e49_37, ↓e49_38, ↓e49_39, ↓e49_40, ↓e49_43, ↓e49_44, ↓e49_47, ↓e49_48, ↓e49_51, ↓e49_52, ↓e49_53, ↓e49_54, ↓e49_55, ↓e49_56, ↓e49_57, ↓e49_58, ↓e49_59, ↓e49_60, ↓e49_63, ↓e49_64, ↓e49_65, ↓e49_68, ↓e49_69, ↓ldI_0, ↓ldI_s, ↓ldA_0, ↓ldA_n, ↓ldA_s, ↓ldL_0, ↓ldL_s, ↓lst_0, ↓lst_s, ↓cal_v, ↓cal_x, ↓vts_s, ↓vts_n, ↓lpr_0, ↓lpr_i, ↓lpr_r, ↓lpr_n, ↓lpr_s, PA_41, ↓reduceIte, or_true, true_or, ↓ho_40, ↓gf_40_0, ↓gf_40_1, ↓gf_40_2, ↓gf_40_3, ↓ho_49, ↓gf_49_0, ↓gf_49_1, ↓gf_49_2, ↓gf_49_3, ↓pf_49_3, ↓ho_50, ↓gf_50_0, ↓gf_50_1, ↓gf_50_2, ↓pf_50_2, ↓gf_50_3, ↓pf_50_3, ↓gf_50_4, ↓pf_50_4, ↓gf_50_5, ↓pf_50_5, ↓gf_50_6, ↓pf_50_6, ↓ho_54, ↓gf_54_0, ↓gf_54_1, ↓pf_54_1, ↓ho_88, ↓gf_88_0, ↓gf_88_1, ↓pf_88_1, ↓gf_88_2, ↓pf_88_2, ↓gf_88_3, ↓pf_88_3, ↓gf_88_4, ↓pf_88_4, ↓gf_88_5, ↓pf_88_5, ↓gf_41_0, ↓pf_41_0, ↓gf_41_1, ↓pf_41_1, ↓gf_41_2, ↓gf_41_3, ↓pf_41_3, ↓gf_41_4, ↓gf_41_5, ↓gf_41_6, ↓gf_41_7, ↓gf_41_8, ↓pf_41_8, ↓gf_41_9, ↓pf_41_9, ↓gf_41_10, ↓gf_41_11, ↓ho_41, ↓gi_42, ↓pi_42, ↓gi_43, ↓pi_43, ↓gi_44, ↓pi_44, ↓gi_45, ↓pi_45, ↓gi_46, ↓pi_46, ↓gi_47, ↓pi_47, ↓gi_48, ↓pi_48, ↓gi_51, ↓pi_51, ↓gi_52, ↓pi_52, ↓gi_53, ↓pi_53, ↓gi_89, ↓pi_89, ↓gi_1, ↓gn_1, ↓gr_55, ↓pr_55, n0, io_zin (show kn g < 2147483648 by omega) (show kn g < 16 by omega), io_ix (show kn g < 2147483648 by omega), io_zin (show i < 2147483648 by omega) (show i < 16 by omega), io_ix (show i < 2147483648 by omega), rp_c hR hw, t16 hw hi, io_succ, io_nm (show i < 2147483648 by omega), e46, e46', e46'', rp_ab hR hi2]
/-- pins of one door set anew: its first k chambers -/
def psc (g : Nat → Int32) (d : Nat) (f : Nat → Nat → Bool) (k : Nat) : Nat → Int32 := fun i => if 67 + 4 * d ≤ i ∧ i < 67 + 4 * d + k then bits (f (i - (67 + 4 * d))) 6 else g i
theorem psc_lo {f : Nat → Nat → Bool} (h : i < 67) : psc g a f n i = g i := if_neg (by omega)
theorem psc_at {f : Nat → Nat → Bool} (h : b < n) : psc g a f n (67 + 4 * a + b) = bits (f b) 6 := by
  unfold psc
  rw [if_pos ⟨by omega, by omega⟩]
  exact congrArg (fun z => bits (f z) 6) (by omega)
theorem psc_ot {f : Nat → Nat → Bool} (hn : n ≤ 4) (hb : b < 4) (h : q ≠ a) : psc g a f n (67 + 4 * q + b) = g (67 + 4 * q + b) := if_neg (by omega)
theorem psc_hd {f : Nat → Nat → Bool} : chn (psc g a f n) = chn g ∧ dpn (psc g a f n) = dpn g ∧ rln (psc g a f n) 0 = rln g 0 ∧ rln (psc g a f n) 1 = rln g 1 ∧ rln (psc g a f n) 2 = rln g 2 ∧ kn (psc g a f n) = kn g ∧ dn (psc g a f n) = dn g :=
  hd_eq fun j hj => psc_lo (by omega)
theorem psc_s {f : Nat → Nat → Bool} : upd (psc g a f n) (67 + 4 * a + n) (bits (f n) 6) = psc g a f (n + 1) := by
  funext i
  unfold upd psc
  by_cases h : i = 67 + 4 * a + n
  · rw [if_pos h, if_pos ⟨by omega, by omega⟩]
    exact congrArg (fun z => bits (f z) 6) (by omega)
  · rw [if_neg h]
    by_cases h2 : 67 + 4 * a ≤ i ∧ i < 67 + 4 * a + n
    · rw [if_pos h2, if_pos ⟨h2.1, by omega⟩]
    · rw [if_neg h2, if_neg (by omega)]
theorem psc_0 {f : Nat → Nat → Bool} : psc g a f 0 = g := funext fun i => if_neg (by omega)
theorem wf_psc {f : Nat → Nat → Bool} (hw : Wf g) (ha : a < 12) (hn : n ≤ 4) : Wf (psc g a f n) := by
  have n16 := wf_n16 hw
  have m12 := wf_m12 hw
  have c4 := wf_c4 hw
  refine wf_mk (ch := chn g) (dp := dpn g) (a := rln g 0) (b := rln g 1) (e := rln g 2) (n := kn g) (m := dn g) ?_ ?_ ?_ ?_ ?_ ?_ ?_ (fun k hk => ?_) (fun k hk => ?_) (fun k hk => ?_) (fun d hd => ?_) (fun d hd c hc q hq => ?_)
  · rw [psc_lo (by omega)]; exact hw.1
  · rw [psc_lo (by omega)]; exact hw.2.1
  · rw [psc_lo (by omega)]; exact hw.2.2.1
  · rw [psc_lo (by omega)]; exact hw.2.2.2.1
  · rw [psc_lo (by omega)]; exact hw.2.2.2.2.1
  · rw [psc_lo (by omega)]; exact hw.2.2.2.2.2.1
  · rw [psc_lo (by omega)]; exact hw.2.2.2.2.2.2.1
  · rw [psc_lo (by omega)]; exact ⟨cd g k, wf_cd hw k hk, wf_ic hw k hk⟩
  · rw [psc_lo (by omega)]; exact wf_ma hw k hk
  · rw [psc_lo (by omega)]; exact wf_l hw k hk
  · rw [psc_lo (by omega)]; exact ⟨ow g d, wf_ow hw d hd, wf_own hw d hd⟩
  · by_cases e : d = a
    · subst e
      by_cases h : c < n
      · rw [psc_at h]
        by_cases h32 : q < 32
        · rw [tb_bits _ 6 (by omega) q h32, decide_eq_false (by omega)]; rfl
        · exact tb_hi (by omega)
      · have : psc g d f n (67 + 4 * d + c) = g (67 + 4 * d + c) := if_neg (by omega)
        rw [this]; exact wf_q hw d hd c hc q hq
    · rw [psc_ot hn (by omega) e]; exact wf_q hw d hd c hc q hq
/-- what the pins don't reach -/
theorem lo_rgt {g' : Nat → Int32} (hw : Wf g) (h : ∀ i, i < 67 → g' i = g i) {d : Nat} (hd : d < dn g) (j : Nat) (hj : j < 16) : rgt g' d j = rgt g d j := by
  have n16 := wf_n16 hw
  have m12 := wf_m12 hw
  have eo : ow g' d = ow g d := by unfold ow; rw [h _ (by omega)]
  have ek : kn g' = kn g := by unfold kn; rw [h 5 (by omega)]
  have el : lsb g' j = lsb g j := by unfold lsb; rw [ek, h _ (by omega)]
  unfold rgt
  rw [eo, el, abv_cg hw (fun k hk => h _ (by omega)) _ (wf_own hw d hd)]
theorem lo_ftb {g' : Nat → Int32} (hw : Wf g) (h : ∀ i, i < 67 → g' i = g i) {d : Nat} (hd : d < dn g) (c q : Nat) : ftb g' d c q = ftb g d c q := by
  have n16 := wf_n16 hw
  have ek : kn g' = kn g := by unfold kn; rw [h 5 (by omega)]
  have ec : chn g' = chn g := by unfold chn; rw [h 0 (by omega)]
  unfold ftb
  rw [ek, ec]
  refine exb_cong fun k hk => ?_
  have e : cd g' k = cd g k := by unfold cd; rw [h _ (by omega)]
  rw [lo_rgt hw h hd k (by omega), e]
def ftg (g : Nat → Int32) (d : Nat) : Nat → Int32 := psc g d (ftb g d) (chn g)
theorem rp_psc {f : Nat → Nat → Bool} (hw : Wf g) (hR : Rp F A 41 g) (ha : a < dn g) (hx : x = bits (fun i => decide (i / 6 < chn g) && f (i / 6) (i % 6)) 24) : Rp F (u2 A 48 a x) 41 (psc g a f (chn g)) := by
  have n16 := wf_n16 hw
  have m12 := wf_m12 hw
  have c4 := wf_c4 hw
  have hh := psc_hd (g := g) (a := a) (f := f) (n := chn g)
  refine ⟨⟨?_, ?_, ?_, ?_, ?_⟩, ⟨?_, ?_, ?_⟩, fun k hk => ⟨?_, ?_, ?_, ?_⟩, fun d hd => ⟨?_, ?_⟩⟩
  · rw [psc_lo (by omega)]; exact hR.1.1
  · rw [psc_lo (by omega)]; exact hR.1.2.1
  · rw [psc_lo (by omega)]; exact hR.1.2.2.1
  · rw [psc_lo (by omega)]; exact hR.1.2.2.2.1
  · rw [rp_l hR]
    refine bits_cong fun j hj => ?_
    unfold lsb
    rw [hh.2.2.2.2.2.1, psc_lo (by omega)]
  · rw [u2_ne (by omega), psc_lo (by omega)]; exact hR.2.1.1
  · rw [u2_ne (by omega), psc_lo (by omega)]; exact hR.2.1.2.1
  · rw [u2_ne (by omega), psc_lo (by omega)]; exact hR.2.1.2.2
  · rw [hh.2.2.2.2.2.1] at hk
    rw [u2_ne (by omega), psc_lo (by omega)]; exact rp_cd hR hk
  · rw [hh.2.2.2.2.2.1] at hk
    have e : cd (psc g a f (chn g)) k = cd g k := by unfold cd; rw [psc_lo (by omega)]
    rw [u2_ne (by omega), hh.1, e]; exact rp_ct hR hk
  · rw [hh.2.2.2.2.2.1] at hk
    rw [u2_ne (by omega), psc_lo (by omega)]; exact rp_ma hR hk
  · rw [hh.2.2.2.2.2.1] at hk
    rw [u2_ne (by omega)]
    exact (rp_ab hR hk).trans (bits_cong fun j _ => (abv_cg hw (fun k hk => psc_lo (by omega)) k hk).symm)
  · rw [hh.2.2.2.2.2.2] at hd
    rw [u2_ne (by omega), psc_lo (by omega)]; exact (hR.2.2.2 d hd).1
  · rw [hh.2.2.2.2.2.2] at hd
    rw [u2_at]
    by_cases e : d = a
    · subst e
      rw [upd_at, hx]
      refine bits_cong fun i hi => ?_
      unfold pn24 pnb
      rw [hh.1]
      by_cases h : i / 6 < chn g
      · rw [decide_eq_true h, psc_at h, tb_bits _ 6 (by omega) _ (by omega), decide_eq_true (show i % 6 < 6 by omega)]; rfl
      · rw [decide_eq_false h]; rfl
    · rw [upd_no e]
      refine (rp_p hR hd).trans (bits_cong fun i hi => ?_)
      unfold pn24 pnb
      rw [hh.1]
      by_cases h : i / 6 < chn g
      · rw [psc_ot c4 (by omega) e]
      · rw [decide_eq_false h]; rfl
theorem t55 (hw : Wf g) (hR : Rp F A 41 g) (ha : a < dn g) : Rv 55 0 [some (.ref 41), some (.int (Int32.ofNat a)), none] [] (en G c F A P W O) = some (.inl (some (.int (Int32.ofNat (chg g a)))), en G c F (u2 A 48 a (bits (fp24 g a) 24)) P W O) := by
  have m12 := wf_m12 hw
  have hz := io_zin (show a < 2147483648 by omega) (show a < 12 by omega)
  have hx := io_ix (show a < 2147483648 by omega)
  have ho := rp_oz hR hw a ha
  simp only [↓e55_0, ↓e55_1, ↓e55_2, ↓e55_5, ↓e55_6, ↓e55_7, ↓e55_10, ↓e55_11, ↓e55_12, ↓e55_13, ↓e55_14, ↓e55_17, ↓e55_18, ↓e55_19, ↓e55_22, ↓e55_23, ↓e55_24, ↓ldI_0, ↓ldI_s, ↓ldA_0, ↓ldA_n, ↓ldA_s, ↓ldL_0, ↓ldL_s, ↓lst_0, ↓lst_s, ↓cal_v, ↓cal_x, ↓vts_s, ↓vts_n, ↓lpr_0, ↓lpr_i, ↓lpr_r, ↓lpr_n, ↓lpr_s, PA_41, ↓reduceIte, or_true, true_or, ↓ho_40, ↓gf_40_0, ↓gf_40_1, ↓gf_40_2, ↓gf_40_3, ↓ho_49, ↓gf_49_0, ↓gf_49_1, ↓gf_49_2, ↓gf_49_3, ↓pf_49_3, ↓ho_50, ↓gf_50_0, ↓gf_50_1, ↓gf_50_2, ↓pf_50_2, ↓gf_50_3, ↓pf_50_3, ↓gf_50_4, ↓pf_50_4, ↓gf_50_5, ↓pf_50_5, ↓gf_50_6, ↓pf_50_6, ↓ho_54, ↓gf_54_0, ↓gf_54_1, ↓pf_54_1, ↓ho_88, ↓gf_88_0, ↓gf_88_1, ↓pf_88_1, ↓gf_88_2, ↓pf_88_2, ↓gf_88_3, ↓pf_88_3, ↓gf_88_4, ↓pf_88_4, ↓gf_88_5, ↓pf_88_5, ↓gf_41_0, ↓pf_41_0, ↓gf_41_1, ↓pf_41_1, ↓gf_41_2, ↓gf_41_3, ↓pf_41_3, ↓gf_41_4, ↓gf_41_5, ↓gf_41_6, ↓gf_41_7, ↓gf_41_8, ↓pf_41_8, ↓gf_41_9, ↓pf_41_9, ↓gf_41_10, ↓gf_41_11, ↓ho_41, ↓gi_42, ↓pi_42, ↓gi_43, ↓pi_43, ↓gi_44, ↓pi_44, ↓gi_45, ↓pi_45, ↓gi_46, ↓pi_46, ↓gi_47, ↓pi_47, ↓gi_48, ↓pi_48, ↓gi_51, ↓pi_51, ↓gi_52, ↓pi_52, ↓gi_53, ↓pi_53, ↓gi_89, ↓pi_89, ↓gi_1, ↓gn_1, ↓gr_55, ↓pr_55, t79 hw hR ha, s78 (rp_n hR hw) (wf_n16 hw) hz (show zin (A 47 (Int32.ofNat a).toNatClampNeg) 16 = true by rw [hx]; exact ho), hz, hx, fit_bits hR hw ha]
theorem rp_fit (hw : Wf g) (hR : Rp F A 41 g) (ha : a < dn g) : Rp F (u2 A 48 a (bits (fp24 g a) 24)) 41 (ftg g a) :=
  rp_psc hw hR ha (bits_cong fun i _ => fp_ft i)
theorem wf_fit (hw : Wf g) (ha : a < dn g) : Wf (ftg g a) := wf_psc hw (Nat.lt_of_lt_of_le ha (wf_m12 hw)) (wf_c4 hw)
/-- all doors fitted, one by one -/
def fal (g : Nat → Int32) : Nat → Nat → Int32
  | 0 => g
  | k + 1 => ftg (fal g k) k
def fas (g : Nat → Int32) : Nat → Nat
  | 0 => 0
  | k + 1 => fas g k + chg (fal g k) k
theorem fal_dn (g : Nat → Int32) : ∀ k, dn (fal g k) = dn g
  | 0 => rfl
  | k + 1 => (psc_hd (g := fal g k) (a := k) (f := ftb (fal g k) k) (n := chn (fal g k))).2.2.2.2.2.2.trans (fal_dn g k)
theorem wf_fal (hw : Wf g) : ∀ k, k ≤ dn g → Wf (fal g k)
  | 0, _ => hw
  | k + 1, h => wf_fit (wf_fal hw k (by omega)) (by rw [fal_dn]; omega)
theorem t56 (hw : Wf g) (hR : Rp F A 41 g) : ∃ A', (∀ b, b ≠ 48 → A' b = A b) ∧ Rp F A' 41 (fal g (dn g)) ∧ Rv 56 0 [some (.ref 41), none, none] [] (en G c F A P W O) = some (.inl (some (.int (Int32.ofNat (fas g (dn g))))), en G c F A' P W O) := by
  have m12 := wf_m12 hw
  have key : ∀ k, k ≤ dn g → ∃ A', (∀ b, b ≠ 48 → A' b = A b) ∧ Rp F A' 41 (fal g k) ∧ Rv 56 4 [some (.ref 41), some (.int 0), some (.int 0)] [] (en G c F A P W O) = Rv 56 4 [some (.ref 41), some (.int (Int32.ofNat (fas g k))), some (.int (Int32.ofNat k))] [] (en G c F A' P W O) := by
    intro k
    induction k with
    | zero => intro _; exact ⟨A, fun _ _ => rfl, hR, rfl⟩
    | succ k ih =>
      intro hk
      obtain ⟨A', a1, a2, a3⟩ := ih (by omega)
      have hwk := wf_fal hw k (by omega)
      have hkd : k < dn (fal g k) := by rw [fal_dn]; omega
      have m0 : F 41 9 = Int32.ofNat (dn g) := rp_m hR hw
      refine ⟨_, fun b hb => by rw [u2_ne hb, a1 b hb], rp_fit hwk a2 hkd, ?_⟩
      rw [a3, h56_4]
      simp only [↓e56_0, ↓e56_1, ↓e56_2, ↓e56_3, ↓e56_5, ↓e56_6, ↓e56_9, ↓e56_12, ↓e56_13, ↓e56_14, ↓e56_15, ↓e56_18, ↓e56_19, ↓e56_20, ↓e56_23, ↓e56_26, ↓e56_27, ↓ldI_0, ↓ldI_s, ↓ldA_0, ↓ldA_n, ↓ldA_s, ↓ldL_0, ↓ldL_s, ↓lst_0, ↓lst_s, ↓cal_v, ↓cal_x, ↓vts_s, ↓vts_n, ↓lpr_0, ↓lpr_i, ↓lpr_r, ↓lpr_n, ↓lpr_s, PA_41, ↓reduceIte, or_true, true_or, ↓ho_40, ↓gf_40_0, ↓gf_40_1, ↓gf_40_2, ↓gf_40_3, ↓ho_49, ↓gf_49_0, ↓gf_49_1, ↓gf_49_2, ↓gf_49_3, ↓pf_49_3, ↓ho_50, ↓gf_50_0, ↓gf_50_1, ↓gf_50_2, ↓pf_50_2, ↓gf_50_3, ↓pf_50_3, ↓gf_50_4, ↓pf_50_4, ↓gf_50_5, ↓pf_50_5, ↓gf_50_6, ↓pf_50_6, ↓ho_54, ↓gf_54_0, ↓gf_54_1, ↓pf_54_1, ↓ho_88, ↓gf_88_0, ↓gf_88_1, ↓pf_88_1, ↓gf_88_2, ↓pf_88_2, ↓gf_88_3, ↓pf_88_3, ↓gf_88_4, ↓pf_88_4, ↓gf_88_5, ↓pf_88_5, ↓gf_41_0, ↓pf_41_0, ↓gf_41_1, ↓pf_41_1, ↓gf_41_2, ↓gf_41_3, ↓pf_41_3, ↓gf_41_4, ↓gf_41_5, ↓gf_41_6, ↓gf_41_7, ↓gf_41_8, ↓pf_41_8, ↓gf_41_9, ↓pf_41_9, ↓gf_41_10, ↓gf_41_11, ↓ho_41, ↓gi_42, ↓pi_42, ↓gi_43, ↓pi_43, ↓gi_44, ↓pi_44, ↓gi_45, ↓pi_45, ↓gi_46, ↓pi_46, ↓gi_47, ↓pi_47, ↓gi_48, ↓pi_48, ↓gi_51, ↓pi_51, ↓gi_52, ↓pi_52, ↓gi_53, ↓pi_53, ↓gi_89, ↓pi_89, ↓gi_1, ↓gn_1, ↓gr_55, ↓pr_55, m0, io_lt (show k < 2147483648 by omega) (show dn g < 2147483648 by omega), show k < dn g by omega, t55 hwk a2 hkd, io_add, io_succ, fas]
  obtain ⟨A', a1, a2, a3⟩ := key (dn g) (Nat.le_refl _)
  refine ⟨A', a1, a2, ?_⟩
  have m0 : F 41 9 = Int32.ofNat (dn g) := rp_m hR hw
  simp only [↓e56_0, ↓e56_1, ↓e56_2, ↓e56_3, ↓e56_5, ↓e56_6, ↓e56_9, ↓e56_12, ↓e56_13, ↓e56_14, ↓e56_15, ↓e56_18, ↓e56_19, ↓e56_20, ↓e56_23, ↓e56_26, ↓e56_27, ↓ldI_0, ↓ldI_s, ↓ldA_0, ↓ldA_n, ↓ldA_s, ↓ldL_0, ↓ldL_s, ↓lst_0, ↓lst_s, ↓cal_v, ↓cal_x, ↓vts_s, ↓vts_n, ↓lpr_0, ↓lpr_i, ↓lpr_r, ↓lpr_n, ↓lpr_s, PA_41, ↓reduceIte, or_true, true_or, ↓ho_40, ↓gf_40_0, ↓gf_40_1, ↓gf_40_2, ↓gf_40_3, ↓ho_49, ↓gf_49_0, ↓gf_49_1, ↓gf_49_2, ↓gf_49_3, ↓pf_49_3, ↓ho_50, ↓gf_50_0, ↓gf_50_1, ↓gf_50_2, ↓pf_50_2, ↓gf_50_3, ↓pf_50_3, ↓gf_50_4, ↓pf_50_4, ↓gf_50_5, ↓pf_50_5, ↓gf_50_6, ↓pf_50_6, ↓ho_54, ↓gf_54_0, ↓gf_54_1, ↓pf_54_1, ↓ho_88, ↓gf_88_0, ↓gf_88_1, ↓pf_88_1, ↓gf_88_2, ↓pf_88_2, ↓gf_88_3, ↓pf_88_3, ↓gf_88_4, ↓pf_88_4, ↓gf_88_5, ↓pf_88_5, ↓gf_41_0, ↓pf_41_0, ↓gf_41_1, ↓pf_41_1, ↓gf_41_2, ↓gf_41_3, ↓pf_41_3, ↓gf_41_4, ↓gf_41_5, ↓gf_41_6, ↓gf_41_7, ↓gf_41_8, ↓pf_41_8, ↓gf_41_9, ↓pf_41_9, ↓gf_41_10, ↓gf_41_11, ↓ho_41, ↓gi_42, ↓pi_42, ↓gi_43, ↓pi_43, ↓gi_44, ↓pi_44, ↓gi_45, ↓pi_45, ↓gi_46, ↓pi_46, ↓gi_47, ↓pi_47, ↓gi_48, ↓pi_48, ↓gi_51, ↓pi_51, ↓gi_52, ↓pi_52, ↓gi_53, ↓pi_53, ↓gi_89, ↓pi_89, ↓gi_1, ↓gn_1, ↓gr_55, ↓pr_55, a3]
  rw [h56_4]
  simp only [↓e56_0, ↓e56_1, ↓e56_2, ↓e56_3, ↓e56_5, ↓e56_6, ↓e56_9, ↓e56_12, ↓e56_13, ↓e56_14, ↓e56_15, ↓e56_18, ↓e56_19, ↓e56_20, ↓e56_23, ↓e56_26, ↓e56_27, ↓ldI_0, ↓ldI_s, ↓ldA_0, ↓ldA_n, ↓ldA_s, ↓ldL_0, ↓ldL_s, ↓lst_0, ↓lst_s, ↓cal_v, ↓cal_x, ↓vts_s, ↓vts_n, ↓lpr_0, ↓lpr_i, ↓lpr_r, ↓lpr_n, ↓lpr_s, PA_41, ↓reduceIte, or_true, true_or, ↓ho_40, ↓gf_40_0, ↓gf_40_1, ↓gf_40_2, ↓gf_40_3, ↓ho_49, ↓gf_49_0, ↓gf_49_1, ↓gf_49_2, ↓gf_49_3, ↓pf_49_3, ↓ho_50, ↓gf_50_0, ↓gf_50_1, ↓gf_50_2, ↓pf_50_2, ↓gf_50_3, ↓pf_50_3, ↓gf_50_4, ↓pf_50_4, ↓gf_50_5, ↓pf_50_5, ↓gf_50_6, ↓pf_50_6, ↓ho_54, ↓gf_54_0, ↓gf_54_1, ↓pf_54_1, ↓ho_88, ↓gf_88_0, ↓gf_88_1, ↓pf_88_1, ↓gf_88_2, ↓pf_88_2, ↓gf_88_3, ↓pf_88_3, ↓gf_88_4, ↓pf_88_4, ↓gf_88_5, ↓pf_88_5, ↓gf_41_0, ↓pf_41_0, ↓gf_41_1, ↓pf_41_1, ↓gf_41_2, ↓gf_41_3, ↓pf_41_3, ↓gf_41_4, ↓gf_41_5, ↓gf_41_6, ↓gf_41_7, ↓gf_41_8, ↓pf_41_8, ↓gf_41_9, ↓pf_41_9, ↓gf_41_10, ↓gf_41_11, ↓ho_41, ↓gi_42, ↓pi_42, ↓gi_43, ↓pi_43, ↓gi_44, ↓pi_44, ↓gi_45, ↓pi_45, ↓gi_46, ↓pi_46, ↓gi_47, ↓pi_47, ↓gi_48, ↓pi_48, ↓gi_51, ↓pi_51, ↓gi_52, ↓pi_52, ↓gi_53, ↓pi_53, ↓gi_89, ↓pi_89, ↓gi_1, ↓gn_1, ↓gr_55, ↓pr_55, m0, Int32.lt_irrefl]
end ZT
