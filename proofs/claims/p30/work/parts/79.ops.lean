/-! what the calls that change something do to the row, and to the class's plan -/
theorem u2_same {A : Nat → Nat → Int32} {a i : Nat} {x : Int32} : u2 A a i x a i = x := if_pos ⟨rfl, rfl⟩
theorem dff_comm (g : Nat → Int32) (x y : Nat) : dff g x y = dff g y x := by
  unfold dff
  refine cnt_cong fun k _ => ?_
  rw [show decide (dig (chn g) x k = dig (chn g) y k) = decide (dig (chn g) y k = dig (chn g) x k) from decide_eq_decide.mpr eq_comm]
theorem abv_up {g : Nat → Int32} {i : Nat} {v : Int32} {k j : Nat} (hw : Wf g) (hi : ∀ k, k < kn g → 23 + k ≠ i) (hk : k < kn g) : abv (upd g i v) k j = abv g k j :=
  abv_cg hw (fun k hk => upd_no (hi k hk)) k hk
theorem opd_up {g : Nat → Int32} {a : Nat} {v : Int32} (hw : Wf g) (ha : a < 16) (x d : Nat) : opd (upd g (39 + a) v) x d = opd g x d := by
  have hh := up_hd (g := g) (i := 39 + a) (v := v) (by omega)
  unfold opd opn
  rw [hh.1, hh.2.2.2.2.2.2]
  congr 1
  refine allb_cong fun c hc => ?_
  unfold pnb
  rw [upd_no (by omega)]
section ZT
variable {G : zG} {c : Nat × Nat × Bool} {F A : Nat → Nat → Int32} {P : Nat → Nat} {W : Value} {O : Nat → Int64} {x y j k d e v m : Int32} {p q a b i n t u w : Nat} {g : Nat → Int32} {ks : Nat → Nat → Int32}
/-- recut -/
theorem rp_cut (hw : Wf g) (hR : Rp F A 41 g) (ha : a < kn g) (hi : icd (chn g) (dpn g) b = true) : Rp F (u2 (u2 A 43 a (Int32.ofNat b)) 44 a (bits (ctb (chn g) b) 24)) 41 (upd g (7 + a) (Int32.ofNat b)) := by
  have n16 := wf_n16 hw
  have m12 := wf_m12 hw
  have hb := icd_lt (wf_c4 hw) hi
  have hh := up_hd (g := g) (i := 7 + a) (v := Int32.ofNat b) (by omega)
  refine ⟨⟨?_, ?_, ?_, ?_, ?_⟩, ⟨?_, ?_, ?_⟩, fun k hk => ⟨?_, ?_, ?_, ?_⟩, fun d hd => ⟨?_, ?_⟩⟩
  · rw [upd_no (by omega)]; exact hR.1.1
  · rw [upd_no (by omega)]; exact hR.1.2.1
  · rw [upd_no (by omega)]; exact hR.1.2.2.1
  · rw [upd_no (by omega)]; exact hR.1.2.2.2.1
  · rw [rp_l hR]; exact bits_cong fun j _ => (cut_lsb hw ha j).symm
  · rw [upd_no (by omega), u2_ne (by omega), u2_ne (by omega)]; exact hR.2.1.1
  · rw [upd_no (by omega), u2_ne (by omega), u2_ne (by omega)]; exact hR.2.1.2.1
  · rw [upd_no (by omega), u2_ne (by omega), u2_ne (by omega)]; exact hR.2.1.2.2
  · rw [hh.2.2.2.2.2.1] at hk
    rw [u2_ne (by omega), u2_at]
    by_cases e : k = a
    · subst e; rw [upd_at, upd_at]
    · rw [upd_no e, upd_no (by omega)]; exact rp_cd hR hk
  · rw [hh.2.2.2.2.2.1] at hk
    rw [u2_at, hh.1, cut_cd hw ha (by omega) hk]
    by_cases e : k = a
    · subst e; rw [upd_at, if_pos rfl]
    · rw [upd_no e, if_neg e, u2_ne (by omega)]; exact rp_ct hR hk
  · rw [hh.2.2.2.2.2.1] at hk
    rw [u2_ne (by omega), u2_ne (by omega), upd_no (by omega)]; exact rp_ma hR hk
  · rw [hh.2.2.2.2.2.1] at hk
    rw [u2_ne (by omega), u2_ne (by omega)]
    exact (rp_ab hR hk).trans (bits_cong fun j _ => (abv_up hw (fun k hk => by omega) hk).symm)
  · rw [hh.2.2.2.2.2.2] at hd
    rw [u2_ne (by omega), u2_ne (by omega), upd_no (by omega)]; exact (hR.2.2.2 d hd).1
  · rw [hh.2.2.2.2.2.2] at hd
    rw [u2_ne (by omega), u2_ne (by omega)]
    exact (rp_p hR hd).trans (bits_cong fun j _ => (cut_pn hw ha j).symm)
theorem t50 (hw : Wf g) (hR : Rp F A 41 g) (ha : a < kn g) (hi : icd (chn g) (dpn g) b = true) : Rv 50 0 [some (.ref 41), some (.int (Int32.ofNat a)), some (.int (Int32.ofNat b)), none] [] (en G c F A P W O) = some (.inl (some (.int (Int32.ofNat (dff g (cd g a) b)))), en G c F (u2 (u2 A 43 a (Int32.ofNat b)) 44 a (bits (ctb (chn g) b) 24)) P W O) := by
  have n16 := wf_n16 hw
  have c4 := wf_c4 hw
  have e1 : Int32.ofNat (chn g) - bct (bits (ctb (chn g) b) 24 &&& bits (ctb (chn g) (cd g a)) 24) = Int32.ofNat (dff g b (cd g a)) := dff_bits c4 (six_icd hw hi)
  rw [dff_comm] at e1
  simp only [↓e50_0, ↓e50_1, ↓e50_4, ↓e50_5, ↓e50_6, ↓e50_7, ↓e50_8, ↓e50_11, ↓e50_12, ↓e50_13, ↓e50_14, ↓e50_15, ↓e50_18, ↓e50_19, ↓e50_20, ↓e50_21, ↓e50_24, ↓e50_27, ↓e50_28, ↓e50_29, ↓e50_32, ↓e50_33, ↓e50_34, ↓e50_35, ↓e50_36, ↓e50_39, ↓e50_42, ↓ldI_0, ↓ldI_s, ↓ldA_0, ↓ldA_n, ↓ldA_s, ↓ldL_0, ↓ldL_s, ↓lst_0, ↓lst_s, ↓cal_v, ↓cal_x, ↓vts_s, ↓vts_n, ↓lpr_0, ↓lpr_i, ↓lpr_r, ↓lpr_n, ↓lpr_s, PA_41, ↓reduceIte, or_true, true_or, ↓ho_40, ↓gf_40_0, ↓gf_40_1, ↓gf_40_2, ↓gf_40_3, ↓ho_49, ↓gf_49_0, ↓gf_49_1, ↓gf_49_2, ↓gf_49_3, ↓pf_49_3, ↓ho_50, ↓gf_50_0, ↓gf_50_1, ↓gf_50_2, ↓pf_50_2, ↓gf_50_3, ↓pf_50_3, ↓gf_50_4, ↓pf_50_4, ↓gf_50_5, ↓pf_50_5, ↓gf_50_6, ↓pf_50_6, ↓ho_54, ↓gf_54_0, ↓gf_54_1, ↓pf_54_1, ↓ho_88, ↓gf_88_0, ↓gf_88_1, ↓pf_88_1, ↓gf_88_2, ↓pf_88_2, ↓gf_88_3, ↓pf_88_3, ↓gf_88_4, ↓pf_88_4, ↓gf_88_5, ↓pf_88_5, ↓gf_41_0, ↓pf_41_0, ↓gf_41_1, ↓pf_41_1, ↓gf_41_2, ↓gf_41_3, ↓pf_41_3, ↓gf_41_4, ↓gf_41_5, ↓gf_41_6, ↓gf_41_7, ↓gf_41_8, ↓pf_41_8, ↓gf_41_9, ↓pf_41_9, ↓gf_41_10, ↓gf_41_11, ↓ho_41, ↓gi_42, ↓pi_42, ↓gi_43, ↓pi_43, ↓gi_44, ↓pi_44, ↓gi_45, ↓pi_45, ↓gi_46, ↓pi_46, ↓gi_47, ↓pi_47, ↓gi_48, ↓pi_48, ↓gi_51, ↓pi_51, ↓gi_52, ↓pi_52, ↓gi_53, ↓pi_53, ↓gi_89, ↓pi_89, ↓gi_1, ↓gn_1, ↓gr_55, ↓pr_55, io_zin (show a < 2147483648 by omega) (show a < 16 by omega), io_ix (show a < 2147483648 by omega), rp_ct hR ha, rp_c hR hw, t16 hw hi, u2_same, s20, e1]
/-- a key lost or found -/
theorem rp_los (hw : Wf g) (hR : Rp F A 41 g) (ha : a < kn g) {r : Int32} (hr : r = bits (lsb (upd g (39 + a) v)) 16) : Rp (u2 F 41 8 r) A 41 (upd g (39 + a) v) := by
  have n16 := wf_n16 hw
  have m12 := wf_m12 hw
  have hh := up_hd (g := g) (i := 39 + a) (v := v) (by omega)
  refine ⟨⟨?_, ?_, ?_, ?_, ?_⟩, ⟨?_, ?_, ?_⟩, fun k hk => ⟨?_, ?_, ?_, ?_⟩, fun d hd => ⟨?_, ?_⟩⟩
  · rw [u2_at, upd_no (by omega), upd_no (by omega)]; exact hR.1.1
  · rw [u2_at, upd_no (by omega), upd_no (by omega)]; exact hR.1.2.1
  · rw [u2_at, upd_no (by omega), upd_no (by omega)]; exact hR.1.2.2.1
  · rw [u2_at, upd_no (by omega), upd_no (by omega)]; exact hR.1.2.2.2.1
  · rw [u2_at, upd_at]; exact hr
  · rw [upd_no (by omega)]; exact hR.2.1.1
  · rw [upd_no (by omega)]; exact hR.2.1.2.1
  · rw [upd_no (by omega)]; exact hR.2.1.2.2
  · rw [hh.2.2.2.2.2.1] at hk
    rw [upd_no (by omega)]; exact rp_cd hR hk
  · rw [hh.2.2.2.2.2.1] at hk
    rw [hh.1, los_cd hw ha hk]; exact rp_ct hR hk
  · rw [hh.2.2.2.2.2.1] at hk
    rw [upd_no (by omega)]; exact rp_ma hR hk
  · rw [hh.2.2.2.2.2.1] at hk
    exact (rp_ab hR hk).trans (bits_cong fun j _ => (abv_up hw (fun k hk => by omega) hk).symm)
  · rw [hh.2.2.2.2.2.2] at hd
    rw [upd_no (by omega)]; exact (hR.2.2.2 d hd).1
  · rw [hh.2.2.2.2.2.2] at hd
    exact (rp_p hR hd).trans (bits_cong fun j _ => (los_pn hw ha j).symm)
theorem t51 (hw : Wf g) (hR : Rp F A 41 g) (ha : a < kn g) : ∃ r, r = bits (lsb (upd g (39 + a) 1)) 16 ∧ Rv 51 0 [some (.ref 41), some (.int (Int32.ofNat a))] [] (en G c F A P W O) = some (.inl (some (.int (Int32.ofNat (cnt (opd g (cd g a)) 12)))), en G c (u2 F 41 8 r) A P W O) := by
  have n16 := wf_n16 hw
  have m12 := wf_m12 hw
  have e1 : F 41 8 ||| 1 <<< (Int32.ofNat a &&& 31) = bits (lsb (upd g (39 + a) 1)) 16 := by
    rw [rp_l hR, bits_one (show a < 16 by omega) (by omega), bits_or _ _ (by omega)]
    refine bits_cong fun j _ => ?_
    rw [los_lsb hw ha j]
    by_cases e : j = a
    · rw [if_pos e, e, decide_eq_true rfl]; simp
    · rw [if_neg e, decide_eq_false e]; simp
  have hm : u2 F 41 8 (bits (lsb (upd g (39 + a) 1)) 16) 41 9 = Int32.ofNat (dn g) := by rw [u2_at, upd_no (by omega)]; exact rp_m hR hw
  refine ⟨_, rfl, ?_⟩
  simp only [↓e51_0, ↓e51_1, ↓e51_2, ↓e51_5, ↓e51_6, ↓e51_7, ↓e51_8, ↓e51_9, ↓e51_12, ↓e51_13, ↓e51_14, ↓e51_17, ↓e51_18, ↓e51_19, ↓e51_22, ↓e51_25, ↓ldI_0, ↓ldI_s, ↓ldA_0, ↓ldA_n, ↓ldA_s, ↓ldL_0, ↓ldL_s, ↓lst_0, ↓lst_s, ↓cal_v, ↓cal_x, ↓vts_s, ↓vts_n, ↓lpr_0, ↓lpr_i, ↓lpr_r, ↓lpr_n, ↓lpr_s, PA_41, ↓reduceIte, or_true, true_or, ↓ho_40, ↓gf_40_0, ↓gf_40_1, ↓gf_40_2, ↓gf_40_3, ↓ho_49, ↓gf_49_0, ↓gf_49_1, ↓gf_49_2, ↓gf_49_3, ↓pf_49_3, ↓ho_50, ↓gf_50_0, ↓gf_50_1, ↓gf_50_2, ↓pf_50_2, ↓gf_50_3, ↓pf_50_3, ↓gf_50_4, ↓pf_50_4, ↓gf_50_5, ↓pf_50_5, ↓gf_50_6, ↓pf_50_6, ↓ho_54, ↓gf_54_0, ↓gf_54_1, ↓pf_54_1, ↓ho_88, ↓gf_88_0, ↓gf_88_1, ↓pf_88_1, ↓gf_88_2, ↓pf_88_2, ↓gf_88_3, ↓pf_88_3, ↓gf_88_4, ↓pf_88_4, ↓gf_88_5, ↓pf_88_5, ↓gf_41_0, ↓pf_41_0, ↓gf_41_1, ↓pf_41_1, ↓gf_41_2, ↓gf_41_3, ↓pf_41_3, ↓gf_41_4, ↓gf_41_5, ↓gf_41_6, ↓gf_41_7, ↓gf_41_8, ↓pf_41_8, ↓gf_41_9, ↓pf_41_9, ↓gf_41_10, ↓gf_41_11, ↓ho_41, ↓gi_42, ↓pi_42, ↓gi_43, ↓pi_43, ↓gi_44, ↓pi_44, ↓gi_45, ↓pi_45, ↓gi_46, ↓pi_46, ↓gi_47, ↓pi_47, ↓gi_48, ↓pi_48, ↓gi_51, ↓pi_51, ↓gi_52, ↓pi_52, ↓gi_53, ↓pi_53, ↓gi_89, ↓pi_89, ↓gi_1, ↓gn_1, ↓gr_55, ↓pr_55, e1, io_zin (show a < 2147483648 by omega) (show a < 16 by omega), io_ix (show a < 2147483648 by omega), rp_ct hR ha, s73 hm m12, doz_bits hR hw (six_of hw ha), s232, bct_bits _ (show 12 ≤ 32 by omega)]
theorem t52 (hw : Wf g) (hR : Rp F A 41 g) (ha : a < kn g) : ∃ r, r = bits (lsb (upd g (39 + a) 0)) 16 ∧ Rv 52 0 [some (.ref 41), some (.int (Int32.ofNat a))] [] (en G c F A P W O) = some (.inl (some (.int (Int32.ofNat (cnt (lsb (upd g (39 + a) 0)) 16)))), en G c (u2 F 41 8 r) A P W O) := by
  have n16 := wf_n16 hw
  have e1 : F 41 8 &&& (1 <<< (Int32.ofNat a &&& 31) ^^^ -1) = bits (lsb (upd g (39 + a) 0)) 16 := by
    rw [rp_l hR, bits_one (show a < 16 by omega) (by omega), bits_less _ _ (by omega)]
    refine bits_cong fun j _ => ?_
    rw [los_lsb hw ha j]
    by_cases e : j = a
    · rw [if_pos e, e, decide_eq_true rfl]; simp
    · rw [if_neg e, decide_eq_false e]; simp
  refine ⟨_, rfl, ?_⟩
  simp only [↓e52_0, ↓e52_1, ↓e52_2, ↓e52_5, ↓e52_6, ↓e52_7, ↓e52_8, ↓e52_9, ↓e52_10, ↓e52_11, ↓e52_14, ↓e52_15, ↓e52_18, ↓e52_21, ↓ldI_0, ↓ldI_s, ↓ldA_0, ↓ldA_n, ↓ldA_s, ↓ldL_0, ↓ldL_s, ↓lst_0, ↓lst_s, ↓cal_v, ↓cal_x, ↓vts_s, ↓vts_n, ↓lpr_0, ↓lpr_i, ↓lpr_r, ↓lpr_n, ↓lpr_s, PA_41, ↓reduceIte, or_true, true_or, ↓ho_40, ↓gf_40_0, ↓gf_40_1, ↓gf_40_2, ↓gf_40_3, ↓ho_49, ↓gf_49_0, ↓gf_49_1, ↓gf_49_2, ↓gf_49_3, ↓pf_49_3, ↓ho_50, ↓gf_50_0, ↓gf_50_1, ↓gf_50_2, ↓pf_50_2, ↓gf_50_3, ↓pf_50_3, ↓gf_50_4, ↓pf_50_4, ↓gf_50_5, ↓pf_50_5, ↓gf_50_6, ↓pf_50_6, ↓ho_54, ↓gf_54_0, ↓gf_54_1, ↓pf_54_1, ↓ho_88, ↓gf_88_0, ↓gf_88_1, ↓pf_88_1, ↓gf_88_2, ↓pf_88_2, ↓gf_88_3, ↓pf_88_3, ↓gf_88_4, ↓pf_88_4, ↓gf_88_5, ↓pf_88_5, ↓gf_41_0, ↓pf_41_0, ↓gf_41_1, ↓pf_41_1, ↓gf_41_2, ↓gf_41_3, ↓pf_41_3, ↓gf_41_4, ↓gf_41_5, ↓gf_41_6, ↓gf_41_7, ↓gf_41_8, ↓pf_41_8, ↓gf_41_9, ↓pf_41_9, ↓gf_41_10, ↓gf_41_11, ↓ho_41, ↓gi_42, ↓pi_42, ↓gi_43, ↓pi_43, ↓gi_44, ↓pi_44, ↓gi_45, ↓pi_45, ↓gi_46, ↓pi_46, ↓gi_47, ↓pi_47, ↓gi_48, ↓pi_48, ↓gi_51, ↓pi_51, ↓gi_52, ↓pi_52, ↓gi_53, ↓pi_53, ↓gi_89, ↓pi_89, ↓gi_1, ↓gn_1, ↓gr_55, ↓pr_55, e1, u2_same, s232, bct_bits _ (show 16 ≤ 32 by omega)]
/-- another owner -/
theorem wf_own2 (hw : Wf g) (ha : a < dn g) (hb : b < kn g) : Wf (upd g (55 + a) (Int32.ofNat b)) := by
  have n16 := wf_n16 hw
  have m12 := wf_m12 hw
  have c4 := wf_c4 hw
  refine wf_mk (ch := chn g) (dp := dpn g) (a := rln g 0) (b := rln g 1) (e := rln g 2) (n := kn g) (m := dn g) ?_ ?_ ?_ ?_ ?_ ?_ ?_ (fun k hk => ?_) (fun k hk => ?_) (fun k hk => ?_) (fun d hd => ?_) (fun d hd c hc => ?_)
  · rw [upd_no (by omega)]; exact hw.1
  · rw [upd_no (by omega)]; exact hw.2.1
  · rw [upd_no (by omega)]; exact hw.2.2.1
  · rw [upd_no (by omega)]; exact hw.2.2.2.1
  · rw [upd_no (by omega)]; exact hw.2.2.2.2.1
  · rw [upd_no (by omega)]; exact hw.2.2.2.2.2.1
  · rw [upd_no (by omega)]; exact hw.2.2.2.2.2.2.1
  · rw [upd_no (by omega)]; exact ⟨cd g k, wf_cd hw k hk, wf_ic hw k hk⟩
  · rw [upd_no (by omega)]; exact wf_ma hw k hk
  · rw [upd_no (by omega)]; exact wf_l hw k hk
  · by_cases e : d = a
    · subst e; rw [upd_at]; exact ⟨b, rfl, hb⟩
    · rw [upd_no (by omega)]; exact ⟨ow g d, wf_ow hw d hd, wf_own hw d hd⟩
  · rw [upd_no (by omega)]; exact wf_q hw d hd c hc
theorem rp_own2 (hw : Wf g) (hR : Rp F A 41 g) (ha : a < dn g) : Rp F (u2 A 47 a v) 41 (upd g (55 + a) v) := by
  have n16 := wf_n16 hw
  have m12 := wf_m12 hw
  have hh := up_hd (g := g) (i := 55 + a) (v := v) (by omega)
  refine ⟨⟨?_, ?_, ?_, ?_, ?_⟩, ⟨?_, ?_, ?_⟩, fun k hk => ⟨?_, ?_, ?_, ?_⟩, fun d hd => ⟨?_, ?_⟩⟩
  · rw [upd_no (by omega)]; exact hR.1.1
  · rw [upd_no (by omega)]; exact hR.1.2.1
  · rw [upd_no (by omega)]; exact hR.1.2.2.1
  · rw [upd_no (by omega)]; exact hR.1.2.2.2.1
  · rw [rp_l hR]
    refine bits_cong fun j _ => ?_
    unfold lsb
    rw [hh.2.2.2.2.2.1]
    by_cases h : j < kn g
    · rw [upd_no (by omega)]
    · rw [decide_eq_false h]; rfl
  · rw [u2_ne (by omega), upd_no (by omega)]; exact hR.2.1.1
  · rw [u2_ne (by omega), upd_no (by omega)]; exact hR.2.1.2.1
  · rw [u2_ne (by omega), upd_no (by omega)]; exact hR.2.1.2.2
  · rw [hh.2.2.2.2.2.1] at hk
    rw [u2_ne (by omega), upd_no (by omega)]; exact rp_cd hR hk
  · rw [hh.2.2.2.2.2.1] at hk
    have e : cd (upd g (55 + a) v) k = cd g k := by unfold cd; rw [upd_no (by omega)]
    rw [u2_ne (by omega), hh.1, e]; exact rp_ct hR hk
  · rw [hh.2.2.2.2.2.1] at hk
    rw [u2_ne (by omega), upd_no (by omega)]; exact rp_ma hR hk
  · rw [hh.2.2.2.2.2.1] at hk
    rw [u2_ne (by omega)]
    exact (rp_ab hR hk).trans (bits_cong fun j _ => (abv_up hw (fun k hk => by omega) hk).symm)
  · rw [hh.2.2.2.2.2.2] at hd
    rw [u2_at]
    by_cases e : d = a
    · subst e; rw [upd_at, upd_at]
    · rw [upd_no e, upd_no (by omega)]; exact (hR.2.2.2 d hd).1
  · rw [hh.2.2.2.2.2.2] at hd
    rw [u2_ne (by omega)]
    refine (rp_p hR hd).trans (bits_cong fun j _ => ?_)
    unfold pn24 pnb
    rw [hh.1, upd_no (by omega)]
theorem t57 (hw : Wf g) (hR : Rp F A 41 g) (ha : a < dn g) : Rv 57 0 [some (.ref 41), some (.int (Int32.ofNat a)), some (.int x), none] [] (en G c F A P W O) = some (.inl (some (.int (g (55 + a)))), en G c F (u2 A 47 a x) P W O) := by
  have m12 := wf_m12 hw
  simp only [↓e57_0, ↓e57_1, ↓e57_4, ↓e57_5, ↓e57_6, ↓e57_7, ↓e57_8, ↓e57_11, ↓e57_12, ↓e57_13, ↓e57_14, ↓e57_15, ↓ldI_0, ↓ldI_s, ↓ldA_0, ↓ldA_n, ↓ldA_s, ↓ldL_0, ↓ldL_s, ↓lst_0, ↓lst_s, ↓cal_v, ↓cal_x, ↓vts_s, ↓vts_n, ↓lpr_0, ↓lpr_i, ↓lpr_r, ↓lpr_n, ↓lpr_s, PA_41, ↓reduceIte, or_true, true_or, ↓ho_40, ↓gf_40_0, ↓gf_40_1, ↓gf_40_2, ↓gf_40_3, ↓ho_49, ↓gf_49_0, ↓gf_49_1, ↓gf_49_2, ↓gf_49_3, ↓pf_49_3, ↓ho_50, ↓gf_50_0, ↓gf_50_1, ↓gf_50_2, ↓pf_50_2, ↓gf_50_3, ↓pf_50_3, ↓gf_50_4, ↓pf_50_4, ↓gf_50_5, ↓pf_50_5, ↓gf_50_6, ↓pf_50_6, ↓ho_54, ↓gf_54_0, ↓gf_54_1, ↓pf_54_1, ↓ho_88, ↓gf_88_0, ↓gf_88_1, ↓pf_88_1, ↓gf_88_2, ↓pf_88_2, ↓gf_88_3, ↓pf_88_3, ↓gf_88_4, ↓pf_88_4, ↓gf_88_5, ↓pf_88_5, ↓gf_41_0, ↓pf_41_0, ↓gf_41_1, ↓pf_41_1, ↓gf_41_2, ↓gf_41_3, ↓pf_41_3, ↓gf_41_4, ↓gf_41_5, ↓gf_41_6, ↓gf_41_7, ↓gf_41_8, ↓pf_41_8, ↓gf_41_9, ↓pf_41_9, ↓gf_41_10, ↓gf_41_11, ↓ho_41, ↓gi_42, ↓pi_42, ↓gi_43, ↓pi_43, ↓gi_44, ↓pi_44, ↓gi_45, ↓pi_45, ↓gi_46, ↓pi_46, ↓gi_47, ↓pi_47, ↓gi_48, ↓pi_48, ↓gi_51, ↓pi_51, ↓gi_52, ↓pi_52, ↓gi_53, ↓pi_53, ↓gi_89, ↓pi_89, ↓gi_1, ↓gn_1, ↓gr_55, ↓pr_55, io_zin (show a < 2147483648 by omega) (show a < 12 by omega), io_ix (show a < 2147483648 by omega), (hR.2.2.2 a ha).1]
/-- a rule -/
theorem up_rl {r : Nat} (hr : r < 3) : chn (upd g (2 + r) v) = chn g ∧ dpn (upd g (2 + r) v) = dpn g ∧ kn (upd g (2 + r) v) = kn g ∧ dn (upd g (2 + r) v) = dn g := by
  unfold chn dpn kn dn
  rw [upd_no (by omega), upd_no (by omega), upd_no (by omega), upd_no (by omega)]
  exact ⟨rfl, rfl, rfl, rfl⟩
/-- a rule's value in its range -/
def rok (r b : Nat) : Prop := (r = 0 ∧ b ≤ 5) ∨ (1 ≤ r ∧ r ≤ 2 ∧ 1 ≤ b ∧ b ≤ 4)
theorem wf_rul {r : Nat} (hw : Wf g) (hr : rok r b) : Wf (upd g (2 + r) (Int32.ofNat b)) := by
  have n16 := wf_n16 hw
  have m12 := wf_m12 hw
  have c4 := wf_c4 hw
  have r0 := wf_r0 hw
  have r1 := wf_r1 hw
  have r2 := wf_r2 hw
  have hr3 : r < 3 := by unfold rok at hr; omega
  refine wf_mk (ch := chn g) (dp := dpn g) (a := if r = 0 then b else rln g 0) (b := if r = 1 then b else rln g 1) (e := if r = 2 then b else rln g 2) (n := kn g) (m := dn g) ?_ ?_ ?_ ?_ ?_ ?_ ?_ (fun k hk => ?_) (fun k hk => ?_) (fun k hk => ?_) (fun d hd => ?_) (fun d hd c hc => ?_)
  · rw [upd_no (by omega)]; exact hw.1
  · rw [upd_no (by omega)]; exact hw.2.1
  · by_cases e : r = 0
    · subst e; rw [if_pos rfl, show (2 : Nat) = 2 + 0 from rfl, upd_at]; exact ⟨rfl, by unfold rok at hr; omega⟩
    · rw [if_neg e, upd_no (by omega)]; exact r0
  · by_cases e : r = 1
    · subst e; rw [if_pos rfl, show (3 : Nat) = 2 + 1 from rfl, upd_at]; exact ⟨rfl, by unfold rok at hr; omega, by unfold rok at hr; omega⟩
    · rw [if_neg e, upd_no (by omega)]; exact r1
  · by_cases e : r = 2
    · subst e; rw [if_pos rfl, show (4 : Nat) = 2 + 2 from rfl, upd_at]; exact ⟨rfl, by unfold rok at hr; omega, by unfold rok at hr; omega⟩
    · rw [if_neg e, upd_no (by omega)]; exact r2
  · rw [upd_no (by omega)]; exact hw.2.2.2.2.2.1
  · rw [upd_no (by omega)]; exact hw.2.2.2.2.2.2.1
  · rw [upd_no (by omega)]; exact ⟨cd g k, wf_cd hw k hk, wf_ic hw k hk⟩
  · rw [upd_no (by omega)]; exact wf_ma hw k hk
  · rw [upd_no (by omega)]; exact wf_l hw k hk
  · rw [upd_no (by omega)]; exact ⟨ow g d, wf_ow hw d hd, wf_own hw d hd⟩
  · rw [upd_no (by omega)]; exact wf_q hw d hd c hc
theorem rp_rul {r : Nat} (hw : Wf g) (hR : Rp F A 41 g) (hr : r < 3) : Rp F (u2 A 42 r v) 41 (upd g (2 + r) v) := by
  have n16 := wf_n16 hw
  have m12 := wf_m12 hw
  have hh := up_rl (g := g) (v := v) hr
  have hru : ∀ i, i < 3 → A 42 i = g (2 + i) → u2 A 42 r v 42 i = upd g (2 + r) v (2 + i) := fun i hi h => by
    rw [u2_at]
    by_cases e : i = r
    · subst e; rw [upd_at, upd_at]
    · rw [upd_no e, upd_no (by omega)]; exact h
  refine ⟨⟨?_, ?_, ?_, ?_, ?_⟩, ⟨?_, ?_, ?_⟩, fun k hk => ⟨?_, ?_, ?_, ?_⟩, fun d hd => ⟨?_, ?_⟩⟩
  · rw [upd_no (by omega)]; exact hR.1.1
  · rw [upd_no (by omega)]; exact hR.1.2.1
  · rw [upd_no (by omega)]; exact hR.1.2.2.1
  · rw [upd_no (by omega)]; exact hR.1.2.2.2.1
  · rw [rp_l hR]
    refine bits_cong fun j _ => ?_
    unfold lsb
    rw [hh.2.2.1, upd_no (by omega)]
  · exact hru 0 (by omega) hR.2.1.1
  · exact hru 1 (by omega) hR.2.1.2.1
  · exact hru 2 (by omega) hR.2.1.2.2
  · rw [hh.2.2.1] at hk
    rw [u2_ne (by omega), upd_no (by omega)]; exact rp_cd hR hk
  · rw [hh.2.2.1] at hk
    have e : cd (upd g (2 + r) v) k = cd g k := by unfold cd; rw [upd_no (by omega)]
    rw [u2_ne (by omega), hh.1, e]; exact rp_ct hR hk
  · rw [hh.2.2.1] at hk
    rw [u2_ne (by omega), upd_no (by omega)]; exact rp_ma hR hk
  · rw [hh.2.2.1] at hk
    rw [u2_ne (by omega)]
    exact (rp_ab hR hk).trans (bits_cong fun j _ => (abv_up hw (fun k hk => by omega) hk).symm)
  · rw [hh.2.2.2] at hd
    rw [u2_ne (by omega), upd_no (by omega)]; exact (hR.2.2.2 d hd).1
  · rw [hh.2.2.2] at hd
    rw [u2_ne (by omega)]
    refine (rp_p hR hd).trans (bits_cong fun j _ => ?_)
    unfold pn24 pnb
    rw [hh.1, upd_no (by omega)]
theorem t48 {r : Nat} (hR : Rp F A 41 g) (hr : r < 3) : Rv 48 0 [some (.ref 41), some (.int (Int32.ofNat r)), some (.int x), none] [] (en G c F A P W O) = some (.inl (some (.int (g (2 + r)))), en G c F (u2 A 42 r x) P W O) := by
  have e : A 42 r = g (2 + r) := by
    rcases r with _ | _ | _ | r
    · exact hR.2.1.1
    · exact hR.2.1.2.1
    · exact hR.2.1.2.2
    · omega
  simp only [↓e48_0, ↓e48_1, ↓e48_4, ↓e48_5, ↓e48_6, ↓e48_7, ↓e48_8, ↓e48_11, ↓e48_12, ↓e48_13, ↓e48_14, ↓e48_15, ↓ldI_0, ↓ldI_s, ↓ldA_0, ↓ldA_n, ↓ldA_s, ↓ldL_0, ↓ldL_s, ↓lst_0, ↓lst_s, ↓cal_v, ↓cal_x, ↓vts_s, ↓vts_n, ↓lpr_0, ↓lpr_i, ↓lpr_r, ↓lpr_n, ↓lpr_s, PA_41, ↓reduceIte, or_true, true_or, ↓ho_40, ↓gf_40_0, ↓gf_40_1, ↓gf_40_2, ↓gf_40_3, ↓ho_49, ↓gf_49_0, ↓gf_49_1, ↓gf_49_2, ↓gf_49_3, ↓pf_49_3, ↓ho_50, ↓gf_50_0, ↓gf_50_1, ↓gf_50_2, ↓pf_50_2, ↓gf_50_3, ↓pf_50_3, ↓gf_50_4, ↓pf_50_4, ↓gf_50_5, ↓pf_50_5, ↓gf_50_6, ↓pf_50_6, ↓ho_54, ↓gf_54_0, ↓gf_54_1, ↓pf_54_1, ↓ho_88, ↓gf_88_0, ↓gf_88_1, ↓pf_88_1, ↓gf_88_2, ↓pf_88_2, ↓gf_88_3, ↓pf_88_3, ↓gf_88_4, ↓pf_88_4, ↓gf_88_5, ↓pf_88_5, ↓gf_41_0, ↓pf_41_0, ↓gf_41_1, ↓pf_41_1, ↓gf_41_2, ↓gf_41_3, ↓pf_41_3, ↓gf_41_4, ↓gf_41_5, ↓gf_41_6, ↓gf_41_7, ↓gf_41_8, ↓pf_41_8, ↓gf_41_9, ↓pf_41_9, ↓gf_41_10, ↓gf_41_11, ↓ho_41, ↓gi_42, ↓pi_42, ↓gi_43, ↓pi_43, ↓gi_44, ↓pi_44, ↓gi_45, ↓pi_45, ↓gi_46, ↓pi_46, ↓gi_47, ↓pi_47, ↓gi_48, ↓pi_48, ↓gi_51, ↓pi_51, ↓gi_52, ↓pi_52, ↓gi_53, ↓pi_53, ↓gi_89, ↓pi_89, ↓gi_1, ↓gn_1, ↓gr_55, ↓pr_55, io_zin (show r < 2147483648 by omega) (show r < 3 by omega), io_ix (show r < 2147483648 by omega), e]
/-- another system -/
def bgn (g : Nat → Int32) (a b : Nat) : Nat → Int32 := fun i => if i = 0 then Int32.ofNat a else if i = 1 then Int32.ofNat b else if 5 ≤ i ∧ i < 115 then 0 else g i
theorem bgn_k : kn (bgn g a b) = 0 ∧ dn (bgn g a b) = 0 := ⟨rfl, rfl⟩
theorem wf_bgn (hw : Wf g) (ha : 2 ≤ a ∧ a ≤ 4) (hb : 2 ≤ b ∧ b ≤ 6) : Wf (bgn g a b) := by
  have r0 := wf_r0 hw
  have r1 := wf_r1 hw
  have r2 := wf_r2 hw
  have e2 : bgn g a b 2 = g 2 := rfl
  have e3 : bgn g a b 3 = g 3 := rfl
  have e4 : bgn g a b 4 = g 4 := rfl
  rw [← e2] at r0
  rw [← e3] at r1
  rw [← e4] at r2
  refine wf_mk (ch := a) (dp := b) (a := rln g 0) (b := rln g 1) (e := rln g 2) (n := 0) (m := 0) ⟨rfl, ha⟩ ⟨rfl, hb⟩ r0 r1 r2 ⟨rfl, by omega⟩ ⟨rfl, by omega⟩ (fun k hk => absurd hk (Nat.not_lt_zero k)) (fun k hk => absurd hk (Nat.not_lt_zero k)) (fun k hk => absurd hk (Nat.not_lt_zero k)) (fun k hk => absurd hk (Nat.not_lt_zero k)) (fun d hd c hc q hq => by
    have e : bgn g a b (67 + 4 * d + c) = 0 := by unfold bgn; rw [if_neg (by omega), if_neg (by omega), if_pos (by omega)]
    rw [e, tb_z])
theorem rp_bgn (hR : Rp F A 41 g) : Rp (u2 (u2 (u2 (u2 (u2 F 41 0 (Int32.ofNat a)) 41 1 (Int32.ofNat b)) 41 3 0) 41 9 0) 41 8 0) A 41 (bgn g a b) := by
  refine ⟨⟨?_, ?_, ?_, ?_, ?_⟩, hR.2.1, fun k hk => absurd hk (Nat.not_lt_zero k), fun k hk => absurd hk (Nat.not_lt_zero k)⟩
  · rw [u2_at, upd_no (by omega), u2_at, upd_no (by omega), u2_at, upd_no (by omega), u2_at, upd_no (by omega), u2_at, upd_at]; rfl
  · rw [u2_at, upd_no (by omega), u2_at, upd_no (by omega), u2_at, upd_no (by omega), u2_at, upd_at]; rfl
  · rw [u2_at, upd_no (by omega), u2_at, upd_no (by omega), u2_at, upd_at]; rfl
  · rw [u2_at, upd_no (by omega), u2_at, upd_at]; rfl
  · rw [u2_at, upd_at]
    exact ((bits_eq0 (by omega)).mpr fun k _ => by unfold lsb; rw [bgn_k.1]; rfl).symm
theorem t47 (hR : Rp F A 41 g) : Rv 47 0 [some (.ref 41), some (.int (Int32.ofNat a)), some (.int (Int32.ofNat b)), none] [] (en G c F A P W O) = some (.inl (some (.int (g 6))), en G c (u2 (u2 (u2 (u2 (u2 F 41 0 (Int32.ofNat a)) 41 1 (Int32.ofNat b)) 41 3 0) 41 9 0) 41 8 0) A P W O) := by
  simp only [↓e47_0, ↓e47_1, ↓e47_4, ↓e47_5, ↓e47_6, ↓e47_7, ↓e47_10, ↓e47_11, ↓e47_12, ↓e47_15, ↓e47_16, ↓e47_17, ↓e47_20, ↓e47_21, ↓e47_22, ↓e47_25, ↓e47_26, ↓e47_27, ↓e47_30, ↓e47_31, ↓ldI_0, ↓ldI_s, ↓ldA_0, ↓ldA_n, ↓ldA_s, ↓ldL_0, ↓ldL_s, ↓lst_0, ↓lst_s, ↓cal_v, ↓cal_x, ↓vts_s, ↓vts_n, ↓lpr_0, ↓lpr_i, ↓lpr_r, ↓lpr_n, ↓lpr_s, PA_41, ↓reduceIte, or_true, true_or, ↓ho_40, ↓gf_40_0, ↓gf_40_1, ↓gf_40_2, ↓gf_40_3, ↓ho_49, ↓gf_49_0, ↓gf_49_1, ↓gf_49_2, ↓gf_49_3, ↓pf_49_3, ↓ho_50, ↓gf_50_0, ↓gf_50_1, ↓gf_50_2, ↓pf_50_2, ↓gf_50_3, ↓pf_50_3, ↓gf_50_4, ↓pf_50_4, ↓gf_50_5, ↓pf_50_5, ↓gf_50_6, ↓pf_50_6, ↓ho_54, ↓gf_54_0, ↓gf_54_1, ↓pf_54_1, ↓ho_88, ↓gf_88_0, ↓gf_88_1, ↓pf_88_1, ↓gf_88_2, ↓pf_88_2, ↓gf_88_3, ↓pf_88_3, ↓gf_88_4, ↓pf_88_4, ↓gf_88_5, ↓pf_88_5, ↓gf_41_0, ↓pf_41_0, ↓gf_41_1, ↓pf_41_1, ↓gf_41_2, ↓gf_41_3, ↓pf_41_3, ↓gf_41_4, ↓gf_41_5, ↓gf_41_6, ↓gf_41_7, ↓gf_41_8, ↓pf_41_8, ↓gf_41_9, ↓pf_41_9, ↓gf_41_10, ↓gf_41_11, ↓ho_41, ↓gi_42, ↓pi_42, ↓gi_43, ↓pi_43, ↓gi_44, ↓pi_44, ↓gi_45, ↓pi_45, ↓gi_46, ↓pi_46, ↓gi_47, ↓pi_47, ↓gi_48, ↓pi_48, ↓gi_51, ↓pi_51, ↓gi_52, ↓pi_52, ↓gi_53, ↓pi_53, ↓gi_89, ↓pi_89, ↓gi_1, ↓gn_1, ↓gr_55, ↓pr_55, hR.1.2.2.2.1]
end ZT
