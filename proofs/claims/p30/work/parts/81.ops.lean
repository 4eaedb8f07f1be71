/-! a new door, more pins; what is refused -/
def gd1 (g : Nat → Int32) (o : Nat) : Nat → Int32 := upd (upd g (55 + dn g) (Int32.ofNat o)) 6 (Int32.ofNat (dn g + 1))
def adg (g : Nat → Int32) (o : Nat) : Nat → Int32 := ftg (gd1 g o) (dn g)
def pig (g : Nat → Int32) (d k : Nat) : Nat → Int32 := psc g d (fun c q => pnb g d c q || decide (dig (chn g) (cd g k) c = q)) (chn g)
theorem gd1_no {g : Nat → Int32} {o i : Nat} (h1 : i ≠ 55 + dn g) (h2 : i ≠ 6) : gd1 g o i = g i := by
  unfold gd1
  rw [upd_no h2, upd_no h1]
theorem gd1_ow {g : Nat → Int32} {o : Nat} : gd1 g o (55 + dn g) = Int32.ofNat o := by
  unfold gd1
  rw [upd_no (by omega), upd_at]
theorem gd1_hd {g : Nat → Int32} {o : Nat} (hm : dn g < 12) : chn (gd1 g o) = chn g ∧ dpn (gd1 g o) = dpn g ∧ kn (gd1 g o) = kn g ∧ dn (gd1 g o) = dn g + 1 := by
  unfold chn dpn kn
  rw [gd1_no (by omega) (by omega), gd1_no (by omega) (by omega), gd1_no (by omega) (by omega)]
  refine ⟨rfl, rfl, rfl, ?_⟩
  unfold gd1 dn
  rw [upd_at]
  exact io_ix (show dn g + 1 < 2147483648 by omega)
theorem wf_gd1 {g : Nat → Int32} {o : Nat} (hw : Wf g) (hm : dn g < 12) (ho : o < kn g) : Wf (gd1 g o) := by
  have n16 := wf_n16 hw
  have c4 := wf_c4 hw
  refine wf_mk (ch := chn g) (dp := dpn g) (a := rln g 0) (b := rln g 1) (e := rln g 2) (n := kn g) (m := dn g + 1) ?_ ?_ ?_ ?_ ?_ ?_ ?_ (fun k hk => ?_) (fun k hk => ?_) (fun k hk => ?_) (fun d hd => ?_) (fun d hd c hc => ?_)
  · rw [gd1_no (by omega) (by omega)]; exact hw.1
  · rw [gd1_no (by omega) (by omega)]; exact hw.2.1
  · rw [gd1_no (by omega) (by omega)]; exact hw.2.2.1
  · rw [gd1_no (by omega) (by omega)]; exact hw.2.2.2.1
  · rw [gd1_no (by omega) (by omega)]; exact hw.2.2.2.2.1
  · rw [gd1_no (by omega) (by omega)]; exact hw.2.2.2.2.2.1
  · exact ⟨by unfold gd1; rw [upd_at], by omega⟩
  · rw [gd1_no (by omega) (by omega)]; exact ⟨cd g k, wf_cd hw k hk, wf_ic hw k hk⟩
  · rw [gd1_no (by omega) (by omega)]; exact wf_ma hw k hk
  · rw [gd1_no (by omega) (by omega)]; exact wf_l hw k hk
  · by_cases e : d = dn g
    · subst e; rw [gd1_ow]; exact ⟨o, rfl, ho⟩
    · rw [gd1_no (by omega) (by omega)]; exact ⟨ow g d, wf_ow hw d (by omega), wf_own hw d (by omega)⟩
  · rw [gd1_no (by omega) (by omega)]; exact wf_q hw d hd c hc
section ZT
variable {G : zG} {c : Nat × Nat × Bool} {F A : Nat → Nat → Int32} {P : Nat → Nat} {W : Value} {O : Nat → Int64} {x y j k d e v m : Int32} {p q a b i n t u w o : Nat} {g : Nat → Int32} {ks : Nat → Nat → Int32}
theorem rp_gd1 (hw : Wf g) (hR : Rp F A 41 g) (hm : dn g < 12) (ho : o < kn g) : Rp (u2 F 41 9 (Int32.ofNat (dn g + 1))) (u2 (u2 A 47 (dn g) (Int32.ofNat o)) 48 (dn g) (bits (pn24 (gd1 g o) (dn g)) 24)) 41 (gd1 g o) := by
  have n16 := wf_n16 hw
  have c4 := wf_c4 hw
  have hh := gd1_hd (g := g) (o := o) hm
  refine ⟨⟨?_, ?_, ?_, ?_, ?_⟩, ⟨?_, ?_, ?_⟩, fun k hk => ⟨?_, ?_, ?_, ?_⟩, fun d hd => ⟨?_, ?_⟩⟩
  · rw [u2_at, upd_no (by omega), gd1_no (by omega) (by omega)]; exact hR.1.1
  · rw [u2_at, upd_no (by omega), gd1_no (by omega) (by omega)]; exact hR.1.2.1
  · rw [u2_at, upd_no (by omega), gd1_no (by omega) (by omega)]; exact hR.1.2.2.1
  · rw [u2_at, upd_at]; unfold gd1; rw [upd_at]
  · rw [u2_at, upd_no (by omega), rp_l hR]
    refine bits_cong fun j hj => ?_
    unfold lsb
    rw [hh.2.2.1]
    by_cases h : j < kn g
    · rw [gd1_no (by omega) (by omega)]
    · rw [decide_eq_false h]; rfl
  · rw [u2_ne (by omega), u2_ne (by omega), gd1_no (by omega) (by omega)]; exact hR.2.1.1
  · rw [u2_ne (by omega), u2_ne (by omega), gd1_no (by omega) (by omega)]; exact hR.2.1.2.1
  · rw [u2_ne (by omega), u2_ne (by omega), gd1_no (by omega) (by omega)]; exact hR.2.1.2.2
  · rw [hh.2.2.1] at hk
    rw [u2_ne (by omega), u2_ne (by omega), gd1_no (by omega) (by omega)]; exact rp_cd hR hk
  · rw [hh.2.2.1] at hk
    have e : cd (gd1 g o) k = cd g k := by unfold cd; rw [gd1_no (by omega) (by omega)]
    rw [u2_ne (by omega), u2_ne (by omega), hh.1, e]; exact rp_ct hR hk
  · rw [hh.2.2.1] at hk
    rw [u2_ne (by omega), u2_ne (by omega), gd1_no (by omega) (by omega)]; exact rp_ma hR hk
  · rw [hh.2.2.1] at hk
    rw [u2_ne (by omega), u2_ne (by omega)]
    exact (rp_ab hR hk).trans (bits_cong fun j _ => (abv_cg hw (fun k hk => gd1_no (by omega) (by omega)) k hk).symm)
  · rw [hh.2.2.2] at hd
    rw [u2_ne (by omega), u2_at]
    by_cases e : d = dn g
    · subst e; rw [upd_at, gd1_ow]
    · rw [upd_no e, gd1_no (by omega) (by omega)]; exact (hR.2.2.2 d (by omega)).1
  · rw [hh.2.2.2] at hd
    rw [u2_at]
    by_cases e : d = dn g
    · subst e; rw [upd_at]
    · rw [upd_no e, u2_ne (by omega)]
      refine (rp_p hR (show d < dn g by omega)).trans (bits_cong fun i hi => ?_)
      unfold pn24 pnb
      rw [hh.1]
      by_cases h : i / 6 < chn g
      · rw [gd1_no (by omega) (by omega)]
      · rw [decide_eq_false h]; rfl
theorem t53 (hw : Wf g) (hR : Rp F A 41 g) (hm : dn g < 12) (ho : o < kn g) : Rv 53 0 [some (.ref 41), some (.int (Int32.ofNat o)), none] [] (en G c F A P W O) = some (.inl (some (.int (Int32.ofNat (dn g)))), en G c (u2 F 41 9 (Int32.ofNat (dn g + 1))) (u2 (u2 A 47 (dn g) (Int32.ofNat o)) 48 (dn g) (bits (fp24 (gd1 g o) (dn g)) 24)) P W O) := by
  have n16 := wf_n16 hw
  have hh := gd1_hd (g := g) (o := o) hm
  have hw1 := wf_gd1 hw hm ho
  have hz := io_zin (show dn g < 2147483648 by omega) (show dn g < 12 by omega)
  have hx := io_ix (show dn g < 2147483648 by omega)
  have e47 : u2 A 47 (dn g) (Int32.ofNat o) 47 (dn g) = Int32.ofNat o := u2_same
  have e46 : u2 A 47 (dn g) (Int32.ofNat o) 46 = A 46 := u2_ne (by omega)
  have e44 : u2 A 47 (dn g) (Int32.ofNat o) 44 = A 44 := u2_ne (by omega)
  have hlin : lnz (u2 A 47 (dn g) (Int32.ofNat o)) (dn g) &&& (F 41 8 ^^^ -1) = bits (rgt (gd1 g o) (dn g)) 16 := by
    unfold lnz
    rw [e47, e46, io_ix (by omega), rp_ab hR ho, bits_one (show o < 16 by omega) (by omega), bits_or _ _ (by omega), rp_l hR, bits_less _ _ (by omega)]
    refine bits_cong fun i hi => ?_
    have eo : ow (gd1 g o) (dn g) = o := by unfold ow; rw [gd1_ow, io_ix (by omega)]
    have el : lsb (gd1 g o) i = lsb g i := by
      unfold lsb
      rw [hh.2.2.1]
      by_cases h : i < kn g
      · rw [gd1_no (by omega) (by omega)]
      · rw [decide_eq_false h]; rfl
    unfold rgt
    rw [eo, el, abv_cg hw (fun k hk => gd1_no (by omega) (by omega)) o ho, Bool.or_comm]
  have hp : pwz (u2 A 47 (dn g) (Int32.ofNat o)) (lnz (u2 A 47 (dn g) (Int32.ofNat o)) (dn g) &&& (F 41 8 ^^^ -1)) (-1) 0 (kn g) = bits (fp24 (gd1 g o) (dn g)) 24 := by
    have h1 := pwz_bits (A := u2 A 47 (dn g) (Int32.ofNat o)) (d := dn g) (y := -1) (u := 0) hw1 (fun k hk => by
      rw [hh.2.2.1] at hk
      have e : cd (gd1 g o) k = cd g k := by unfold cd; rw [gd1_no (by omega) (by omega)]
      rw [if_neg (io_nn (by omega)), e44, rp_ct hR hk, hh.1, e])
    rw [hlin, ← h1, hh.2.2.1]
  have hs := s78 (G := G) (c := c) (F := F) (A := u2 A 47 (dn g) (Int32.ofNat o)) (P := P) (W := W) (O := O) (d := Int32.ofNat (dn g)) (x := F 41 8) (y := -1) (m := 0) (rp_n hR hw) n16 hz (by rw [hx, e47]; exact io_zin (by omega) (by omega))
  rw [hx, hp] at hs
  simp only [↓e53_0, ↓e53_1, ↓e53_4, ↓e53_5, ↓e53_6, ↓e53_9, ↓e53_10, ↓e53_11, ↓e53_12, ↓e53_13, ↓e53_16, ↓e53_17, ↓e53_18, ↓e53_19, ↓e53_20, ↓e53_23, ↓e53_24, ↓e53_25, ↓e53_28, ↓e53_29, ↓e53_30, ↓e53_31, ↓e53_34, ↓e53_35, ↓e53_36, ↓e53_39, ↓e53_40, ↓ldI_0, ↓ldI_s, ↓ldA_0, ↓ldA_n, ↓ldA_s, ↓ldL_0, ↓ldL_s, ↓lst_0, ↓lst_s, ↓cal_v, ↓cal_x, ↓vts_s, ↓vts_n, ↓lpr_0, ↓lpr_i, ↓lpr_r, ↓lpr_n, ↓lpr_s, PA_41, ↓reduceIte, or_true, true_or, ↓ho_40, ↓gf_40_0, ↓gf_40_1, ↓gf_40_2, ↓gf_40_3, ↓ho_49, ↓gf_49_0, ↓gf_49_1, ↓gf_49_2, ↓gf_49_3, ↓pf_49_3, ↓ho_50, ↓gf_50_0, ↓gf_50_1, ↓gf_50_2, ↓pf_50_2, ↓gf_50_3, ↓pf_50_3, ↓gf_50_4, ↓pf_50_4, ↓gf_50_5, ↓pf_50_5, ↓gf_50_6, ↓pf_50_6, ↓ho_54, ↓gf_54_0, ↓gf_54_1, ↓pf_54_1, ↓ho_88, ↓gf_88_0, ↓gf_88_1, ↓pf_88_1, ↓gf_88_2, ↓pf_88_2, ↓gf_88_3, ↓pf_88_3, ↓gf_88_4, ↓pf_88_4, ↓gf_88_5, ↓pf_88_5, ↓gf_41_0, ↓pf_41_0, ↓gf_41_1, ↓pf_41_1, ↓gf_41_2, ↓gf_41_3, ↓pf_41_3, ↓gf_41_4, ↓gf_41_5, ↓gf_41_6, ↓gf_41_7, ↓gf_41_8, ↓pf_41_8, ↓gf_41_9, ↓pf_41_9, ↓gf_41_10, ↓gf_41_11, ↓ho_41, ↓gi_42, ↓pi_42, ↓gi_43, ↓pi_43, ↓gi_44, ↓pi_44, ↓gi_45, ↓pi_45, ↓gi_46, ↓pi_46, ↓gi_47, ↓pi_47, ↓gi_48, ↓pi_48, ↓gi_51, ↓pi_51, ↓gi_52, ↓pi_52, ↓gi_53, ↓pi_53, ↓gi_89, ↓pi_89, ↓gi_1, ↓gn_1, ↓gr_55, ↓pr_55, rp_m hR hw, hz, hx, hs, io_succ]
theorem rp_adg (hw : Wf g) (hR : Rp F A 41 g) (hm : dn g < 12) (ho : o < kn g) : Rp (u2 F 41 9 (Int32.ofNat (dn g + 1))) (u2 (u2 A 47 (dn g) (Int32.ofNat o)) 48 (dn g) (bits (fp24 (gd1 g o) (dn g)) 24)) 41 (adg g o) := by
  have h := rp_fit (wf_gd1 hw hm ho) (rp_gd1 hw hR hm ho) (show dn g < dn (gd1 g o) by rw [(gd1_hd hm).2.2.2]; omega)
  rw [u2_u2] at h
  exact h
theorem wf_adg (hw : Wf g) (hm : dn g < 12) (ho : o < kn g) : Wf (adg g o) := wf_fit (wf_gd1 hw hm ho) (by rw [(gd1_hd hm).2.2.2]; omega)
theorem pni_24 (hw : Wf g) (ha : a < dn g) : pni g a = cnt (pn24 g a) 24 := by
  rw [cnt_ch (wf_c4 hw) (fun i _ h => by unfold pn24; rw [decide_eq_false (by omega)]; rfl)]
  refine sum_cong fun c hc => cnt_cong fun q hq => ?_
  unfold pn24
  rw [show (6 * c + q) / 6 = c by omega, show (6 * c + q) % 6 = q by omega, decide_eq_true hc]
  rfl
theorem cnt_gain (p q : Nat → Bool) : ∀ n, cnt (fun i => p i || q i) n = cnt p n + cnt (fun i => (p i || q i) ^^ p i) n
  | 0 => rfl
  | n + 1 => by
    rw [cnt_s, cnt_s, cnt_s, cnt_gain p q n]
    cases p n <;> cases q n <;> simp <;> omega
theorem wf_pig (hw : Wf g) (ha : a < dn g) : Wf (pig g a b) := wf_psc hw (Nat.lt_of_lt_of_le ha (wf_m12 hw)) (wf_c4 hw)
theorem rp_pig (hw : Wf g) (hR : Rp F A 41 g) (ha : a < dn g) (hb : b < kn g) : Rp F (u2 A 48 a (A 48 a ||| A 44 b)) 41 (pig g a b) := by
  refine rp_psc hw hR ha ?_
  rw [rp_p hR ha, rp_ct hR hb, bits_or _ _ (by omega)]
  refine bits_cong fun i _ => ?_
  unfold pn24 ctb
  cases decide (i / 6 < chn g) <;> simp
theorem pig_gain (hw : Wf g) (ha : a < dn g) : pni (pig g a b) a = pni g a + cnt (fun i => (pn24 g a i || ctb (chn g) (cd g b) i) ^^ pn24 g a i) 24 := by
  have hh := psc_hd (g := g) (a := a) (f := fun c q => pnb g a c q || decide (dig (chn g) (cd g b) c = q)) (n := chn g)
  rw [pni_24 (wf_pig hw ha) (show a < dn (pig g a b) by unfold pig; rw [hh.2.2.2.2.2.2]; exact ha), pni_24 hw ha, ← cnt_gain]
  refine cnt_cong fun i hi => ?_
  unfold pn24 ctb pnb pig
  rw [hh.1]
  by_cases h : i / 6 < chn g
  · rw [psc_at h, tb_bits _ 6 (by omega) _ (by omega), decide_eq_true h, decide_eq_true (show i % 6 < 6 by omega)]; rfl
  · rw [decide_eq_false h]; rfl
theorem t54 (hw : Wf g) (hR : Rp F A 41 g) (ha : a < dn g) (hb : b < kn g) : Rv 54 0 [some (.ref 41), some (.int (Int32.ofNat a)), some (.int (Int32.ofNat b)), none] [] (en G c F A P W O) = some (.inl (some (.int (Int32.ofNat (pni (pig g a b) a - pni g a)))), en G c F (u2 A 48 a (A 48 a ||| A 44 b)) P W O) := by
  have m12 := wf_m12 hw
  have n16 := wf_n16 hw
  have e : bct ((A 48 a ||| A 44 b) ^^^ A 48 a) = Int32.ofNat (pni (pig g a b) a - pni g a) := by
    rw [rp_p hR ha, rp_ct hR hb, bits_or _ _ (by omega), bits_xor _ _ (by omega), bct_bits _ (by omega), pig_gain hw ha, Nat.add_sub_cancel_left]
  simp only [↓e54_0, ↓e54_1, ↓e54_4, ↓e54_5, ↓e54_6, ↓e54_7, ↓e54_8, ↓e54_11, ↓e54_12, ↓e54_13, ↓e54_14, ↓e54_17, ↓e54_18, ↓e54_19, ↓e54_20, ↓e54_21, ↓e54_22, ↓e54_25, ↓e54_26, ↓e54_27, ↓e54_28, ↓e54_29, ↓e54_32, ↓ldI_0, ↓ldI_s, ↓ldA_0, ↓ldA_n, ↓ldA_s, ↓ldL_0, ↓ldL_s, ↓lst_0, ↓lst_s, ↓cal_v, ↓cal_x, ↓vts_s, ↓vts_n, ↓lpr_0, ↓lpr_i, ↓lpr_r, ↓lpr_n, ↓lpr_s, PA_41, ↓reduceIte, or_true, true_or, ↓ho_40, ↓gf_40_0, ↓gf_40_1, ↓gf_40_2, ↓gf_40_3, ↓ho_49, ↓gf_49_0, ↓gf_49_1, ↓gf_49_2, ↓gf_49_3, ↓pf_49_3, ↓ho_50, ↓gf_50_0, ↓gf_50_1, ↓gf_50_2, ↓pf_50_2, ↓gf_50_3, ↓pf_50_3, ↓gf_50_4, ↓pf_50_4, ↓gf_50_5, ↓pf_50_5, ↓gf_50_6, ↓pf_50_6, ↓ho_54, ↓gf_54_0, ↓gf_54_1, ↓pf_54_1, ↓ho_88, ↓gf_88_0, ↓gf_88_1, ↓pf_88_1, ↓gf_88_2, ↓pf_88_2, ↓gf_88_3, ↓pf_88_3, ↓gf_88_4, ↓pf_88_4, ↓gf_88_5, ↓pf_88_5, ↓gf_41_0, ↓pf_41_0, ↓gf_41_1, ↓pf_41_1, ↓gf_41_2, ↓gf_41_3, ↓pf_41_3, ↓gf_41_4, ↓gf_41_5, ↓gf_41_6, ↓gf_41_7, ↓gf_41_8, ↓pf_41_8, ↓gf_41_9, ↓pf_41_9, ↓gf_41_10, ↓gf_41_11, ↓ho_41, ↓gi_42, ↓pi_42, ↓gi_43, ↓pi_43, ↓gi_44, ↓pi_44, ↓gi_45, ↓pi_45, ↓gi_46, ↓pi_46, ↓gi_47, ↓pi_47, ↓gi_48, ↓pi_48, ↓gi_51, ↓pi_51, ↓gi_52, ↓pi_52, ↓gi_53, ↓pi_53, ↓gi_89, ↓pi_89, ↓gi_1, ↓gn_1, ↓gr_55, ↓pr_55, io_zin (show a < 2147483648 by omega) (show a < 12 by omega), io_ix (show a < 2147483648 by omega), io_zin (show b < 2147483648 by omega) (show b < 16 by omega), io_ix (show b < 2147483648 by omega), u2_same, s232, e]
/-! refusals -/
theorem t37y (hw : Wf g) (hR : Rp F A 41 g) (h : x = -1 ∨ ∃ a, a < kn g ∧ x = Int32.ofNat a) : Rv 37 0 [some (.ref 41), some (.int x)] [] (en G c F A P W O) = some (.inl (some (.int 0)), (en G c F A P W O)) := by
  rcases h with rfl | ⟨a, ha, rfl⟩
  · simp only [↓e37_0, ↓e37_1, ↓e37_2, ↓e37_5, ↓e37_6, ↓e37_7, ↓e37_10, ↓e37_13, ↓e37_14, ↓e37_17, ↓e37_18, ↓ldI_0, ↓ldI_s, ↓ldA_0, ↓ldA_n, ↓ldA_s, ↓ldL_0, ↓ldL_s, ↓lst_0, ↓lst_s, ↓cal_v, ↓cal_x, ↓vts_s, ↓vts_n, ↓lpr_0, ↓lpr_i, ↓lpr_r, ↓lpr_n, ↓lpr_s, PA_41, ↓reduceIte, or_true, true_or, ↓ho_40, ↓gf_40_0, ↓gf_40_1, ↓gf_40_2, ↓gf_40_3, ↓ho_49, ↓gf_49_0, ↓gf_49_1, ↓gf_49_2, ↓gf_49_3, ↓pf_49_3, ↓ho_50, ↓gf_50_0, ↓gf_50_1, ↓gf_50_2, ↓pf_50_2, ↓gf_50_3, ↓pf_50_3, ↓gf_50_4, ↓pf_50_4, ↓gf_50_5, ↓pf_50_5, ↓gf_50_6, ↓pf_50_6, ↓ho_54, ↓gf_54_0, ↓gf_54_1, ↓pf_54_1, ↓ho_88, ↓gf_88_0, ↓gf_88_1, ↓pf_88_1, ↓gf_88_2, ↓pf_88_2, ↓gf_88_3, ↓pf_88_3, ↓gf_88_4, ↓pf_88_4, ↓gf_88_5, ↓pf_88_5, ↓gf_41_0, ↓pf_41_0, ↓gf_41_1, ↓pf_41_1, ↓gf_41_2, ↓gf_41_3, ↓pf_41_3, ↓gf_41_4, ↓gf_41_5, ↓gf_41_6, ↓gf_41_7, ↓gf_41_8, ↓pf_41_8, ↓gf_41_9, ↓pf_41_9, ↓gf_41_10, ↓gf_41_11, ↓ho_41, ↓gi_42, ↓pi_42, ↓gi_43, ↓pi_43, ↓gi_44, ↓pi_44, ↓gi_45, ↓pi_45, ↓gi_46, ↓pi_46, ↓gi_47, ↓pi_47, ↓gi_48, ↓pi_48, ↓gi_51, ↓pi_51, ↓gi_52, ↓pi_52, ↓gi_53, ↓pi_53, ↓gi_89, ↓pi_89, ↓gi_1, ↓gn_1, ↓gr_55, ↓pr_55, show ((-1 : Int32) = -1) = True from eq_true rfl]
  · have := wf_n16 hw
    simp only [↓e37_0, ↓e37_1, ↓e37_2, ↓e37_5, ↓e37_6, ↓e37_7, ↓e37_10, ↓e37_13, ↓e37_14, ↓e37_17, ↓e37_18, ↓ldI_0, ↓ldI_s, ↓ldA_0, ↓ldA_n, ↓ldA_s, ↓ldL_0, ↓ldL_s, ↓lst_0, ↓lst_s, ↓cal_v, ↓cal_x, ↓vts_s, ↓vts_n, ↓lpr_0, ↓lpr_i, ↓lpr_r, ↓lpr_n, ↓lpr_s, PA_41, ↓reduceIte, or_true, true_or, ↓ho_40, ↓gf_40_0, ↓gf_40_1, ↓gf_40_2, ↓gf_40_3, ↓ho_49, ↓gf_49_0, ↓gf_49_1, ↓gf_49_2, ↓gf_49_3, ↓pf_49_3, ↓ho_50, ↓gf_50_0, ↓gf_50_1, ↓gf_50_2, ↓pf_50_2, ↓gf_50_3, ↓pf_50_3, ↓gf_50_4, ↓pf_50_4, ↓gf_50_5, ↓pf_50_5, ↓gf_50_6, ↓pf_50_6, ↓ho_54, ↓gf_54_0, ↓gf_54_1, ↓pf_54_1, ↓ho_88, ↓gf_88_0, ↓gf_88_1, ↓pf_88_1, ↓gf_88_2, ↓pf_88_2, ↓gf_88_3, ↓pf_88_3, ↓gf_88_4, ↓pf_88_4, ↓gf_88_5, ↓pf_88_5, ↓gf_41_0, ↓pf_41_0, ↓gf_41_1, ↓pf_41_1, ↓gf_41_2, ↓gf_41_3, ↓pf_41_3, ↓gf_41_4, ↓gf_41_5, ↓gf_41_6, ↓gf_41_7, ↓gf_41_8, ↓pf_41_8, ↓gf_41_9, ↓pf_41_9, ↓gf_41_10, ↓gf_41_11, ↓ho_41, ↓gi_42, ↓pi_42, ↓gi_43, ↓pi_43, ↓gi_44, ↓pi_44, ↓gi_45, ↓pi_45, ↓gi_46, ↓pi_46, ↓gi_47, ↓pi_47, ↓gi_48, ↓pi_48, ↓gi_51, ↓pi_51, ↓gi_52, ↓pi_52, ↓gi_53, ↓pi_53, ↓gi_89, ↓pi_89, ↓gi_1, ↓gn_1, ↓gr_55, ↓pr_55, s32y hw hR ha, one_ne, io_nm (show a < 2147483648 by omega)]
theorem t37n (hw : Wf g) (hR : Rp F A 41 g) (h : ¬ x = -1) (hx : nob x (kn g)) : Rv 37 0 [some (.ref 41), some (.int x)] [] (en G c F A P W O) = some (.inl (some (.int 1)), (en G c F A P W O)) := by
  simp only [↓e37_0, ↓e37_1, ↓e37_2, ↓e37_5, ↓e37_6, ↓e37_7, ↓e37_10, ↓e37_13, ↓e37_14, ↓e37_17, ↓e37_18, ↓ldI_0, ↓ldI_s, ↓ldA_0, ↓ldA_n, ↓ldA_s, ↓ldL_0, ↓ldL_s, ↓lst_0, ↓lst_s, ↓cal_v, ↓cal_x, ↓vts_s, ↓vts_n, ↓lpr_0, ↓lpr_i, ↓lpr_r, ↓lpr_n, ↓lpr_s, PA_41, ↓reduceIte, or_true, true_or, ↓ho_40, ↓gf_40_0, ↓gf_40_1, ↓gf_40_2, ↓gf_40_3, ↓ho_49, ↓gf_49_0, ↓gf_49_1, ↓gf_49_2, ↓gf_49_3, ↓pf_49_3, ↓ho_50, ↓gf_50_0, ↓gf_50_1, ↓gf_50_2, ↓pf_50_2, ↓gf_50_3, ↓pf_50_3, ↓gf_50_4, ↓pf_50_4, ↓gf_50_5, ↓pf_50_5, ↓gf_50_6, ↓pf_50_6, ↓ho_54, ↓gf_54_0, ↓gf_54_1, ↓pf_54_1, ↓ho_88, ↓gf_88_0, ↓gf_88_1, ↓pf_88_1, ↓gf_88_2, ↓pf_88_2, ↓gf_88_3, ↓pf_88_3, ↓gf_88_4, ↓pf_88_4, ↓gf_88_5, ↓pf_88_5, ↓gf_41_0, ↓pf_41_0, ↓gf_41_1, ↓pf_41_1, ↓gf_41_2, ↓gf_41_3, ↓pf_41_3, ↓gf_41_4, ↓gf_41_5, ↓gf_41_6, ↓gf_41_7, ↓gf_41_8, ↓pf_41_8, ↓gf_41_9, ↓pf_41_9, ↓gf_41_10, ↓gf_41_11, ↓ho_41, ↓gi_42, ↓pi_42, ↓gi_43, ↓pi_43, ↓gi_44, ↓pi_44, ↓gi_45, ↓pi_45, ↓gi_46, ↓pi_46, ↓gi_47, ↓pi_47, ↓gi_48, ↓pi_48, ↓gi_51, ↓pi_51, ↓gi_52, ↓pi_52, ↓gi_53, ↓pi_53, ↓gi_89, ↓pi_89, ↓gi_1, ↓gn_1, ↓gr_55, ↓pr_55, s32n hw hR hx, h]
theorem t39y (hw : Wf g) (hR : Rp F A 41 g) (ha : a < dn g) (hb : b < kn g) : Rv 39 0 [some (.ref 41), some (.int (Int32.ofNat a)), some (.int (Int32.ofNat b))] [] (en G c F A P W O) = some (.inl (some (.int 0)), (en G c F A P W O)) := by
  simp only [↓e39_0, ↓e39_1, ↓e39_2, ↓e39_5, ↓e39_8, ↓e39_9, ↓e39_10, ↓e39_13, ↓e39_16, ↓e39_17, ↓e39_20, ↓e39_21, ↓ldI_0, ↓ldI_s, ↓ldA_0, ↓ldA_n, ↓ldA_s, ↓ldL_0, ↓ldL_s, ↓lst_0, ↓lst_s, ↓cal_v, ↓cal_x, ↓vts_s, ↓vts_n, ↓lpr_0, ↓lpr_i, ↓lpr_r, ↓lpr_n, ↓lpr_s, PA_41, ↓reduceIte, or_true, true_or, ↓ho_40, ↓gf_40_0, ↓gf_40_1, ↓gf_40_2, ↓gf_40_3, ↓ho_49, ↓gf_49_0, ↓gf_49_1, ↓gf_49_2, ↓gf_49_3, ↓pf_49_3, ↓ho_50, ↓gf_50_0, ↓gf_50_1, ↓gf_50_2, ↓pf_50_2, ↓gf_50_3, ↓pf_50_3, ↓gf_50_4, ↓pf_50_4, ↓gf_50_5, ↓pf_50_5, ↓gf_50_6, ↓pf_50_6, ↓ho_54, ↓gf_54_0, ↓gf_54_1, ↓pf_54_1, ↓ho_88, ↓gf_88_0, ↓gf_88_1, ↓pf_88_1, ↓gf_88_2, ↓pf_88_2, ↓gf_88_3, ↓pf_88_3, ↓gf_88_4, ↓pf_88_4, ↓gf_88_5, ↓pf_88_5, ↓gf_41_0, ↓pf_41_0, ↓gf_41_1, ↓pf_41_1, ↓gf_41_2, ↓gf_41_3, ↓pf_41_3, ↓gf_41_4, ↓gf_41_5, ↓gf_41_6, ↓gf_41_7, ↓gf_41_8, ↓pf_41_8, ↓gf_41_9, ↓pf_41_9, ↓gf_41_10, ↓gf_41_11, ↓ho_41, ↓gi_42, ↓pi_42, ↓gi_43, ↓pi_43, ↓gi_44, ↓pi_44, ↓gi_45, ↓pi_45, ↓gi_46, ↓pi_46, ↓gi_47, ↓pi_47, ↓gi_48, ↓pi_48, ↓gi_51, ↓pi_51, ↓gi_52, ↓pi_52, ↓gi_53, ↓pi_53, ↓gi_89, ↓pi_89, ↓gi_1, ↓gn_1, ↓gr_55, ↓pr_55, s33y hw hR ha, s32y hw hR hb, one_ne]
theorem t39n (hw : Wf g) (hR : Rp F A 41 g) (h : nob x (dn g) ∨ nob y (kn g)) : Rv 39 0 [some (.ref 41), some (.int x), some (.int y)] [] (en G c F A P W O) = some (.inl (some (.int 1)), (en G c F A P W O)) := by
  rcases nob_or x (dn g) with ⟨a, ha, rfl⟩ | hx
  · rcases h with h | h
    · exact absurd rfl (h a ha)
    · simp only [↓e39_0, ↓e39_1, ↓e39_2, ↓e39_5, ↓e39_8, ↓e39_9, ↓e39_10, ↓e39_13, ↓e39_16, ↓e39_17, ↓e39_20, ↓e39_21, ↓ldI_0, ↓ldI_s, ↓ldA_0, ↓ldA_n, ↓ldA_s, ↓ldL_0, ↓ldL_s, ↓lst_0, ↓lst_s, ↓cal_v, ↓cal_x, ↓vts_s, ↓vts_n, ↓lpr_0, ↓lpr_i, ↓lpr_r, ↓lpr_n, ↓lpr_s, PA_41, ↓reduceIte, or_true, true_or, ↓ho_40, ↓gf_40_0, ↓gf_40_1, ↓gf_40_2, ↓gf_40_3, ↓ho_49, ↓gf_49_0, ↓gf_49_1, ↓gf_49_2, ↓gf_49_3, ↓pf_49_3, ↓ho_50, ↓gf_50_0, ↓gf_50_1, ↓gf_50_2, ↓pf_50_2, ↓gf_50_3, ↓pf_50_3, ↓gf_50_4, ↓pf_50_4, ↓gf_50_5, ↓pf_50_5, ↓gf_50_6, ↓pf_50_6, ↓ho_54, ↓gf_54_0, ↓gf_54_1, ↓pf_54_1, ↓ho_88, ↓gf_88_0, ↓gf_88_1, ↓pf_88_1, ↓gf_88_2, ↓pf_88_2, ↓gf_88_3, ↓pf_88_3, ↓gf_88_4, ↓pf_88_4, ↓gf_88_5, ↓pf_88_5, ↓gf_41_0, ↓pf_41_0, ↓gf_41_1, ↓pf_41_1, ↓gf_41_2, ↓gf_41_3, ↓pf_41_3, ↓gf_41_4, ↓gf_41_5, ↓gf_41_6, ↓gf_41_7, ↓gf_41_8, ↓pf_41_8, ↓gf_41_9, ↓pf_41_9, ↓gf_41_10, ↓gf_41_11, ↓ho_41, ↓gi_42, ↓pi_42, ↓gi_43, ↓pi_43, ↓gi_44, ↓pi_44, ↓gi_45, ↓pi_45, ↓gi_46, ↓pi_46, ↓gi_47, ↓pi_47, ↓gi_48, ↓pi_48, ↓gi_51, ↓pi_51, ↓gi_52, ↓pi_52, ↓gi_53, ↓pi_53, ↓gi_89, ↓pi_89, ↓gi_1, ↓gn_1, ↓gr_55, ↓pr_55, s33y hw hR ha, s32n hw hR h, one_ne]
  · simp only [↓e39_0, ↓e39_1, ↓e39_2, ↓e39_5, ↓e39_8, ↓e39_9, ↓e39_10, ↓e39_13, ↓e39_16, ↓e39_17, ↓e39_20, ↓e39_21, ↓ldI_0, ↓ldI_s, ↓ldA_0, ↓ldA_n, ↓ldA_s, ↓ldL_0, ↓ldL_s, ↓lst_0, ↓lst_s, ↓cal_v, ↓cal_x, ↓vts_s, ↓vts_n, ↓lpr_0, ↓lpr_i, ↓lpr_r, ↓lpr_n, ↓lpr_s, PA_41, ↓reduceIte, or_true, true_or, ↓ho_40, ↓gf_40_0, ↓gf_40_1, ↓gf_40_2, ↓gf_40_3, ↓ho_49, ↓gf_49_0, ↓gf_49_1, ↓gf_49_2, ↓gf_49_3, ↓pf_49_3, ↓ho_50, ↓gf_50_0, ↓gf_50_1, ↓gf_50_2, ↓pf_50_2, ↓gf_50_3, ↓pf_50_3, ↓gf_50_4, ↓pf_50_4, ↓gf_50_5, ↓pf_50_5, ↓gf_50_6, ↓pf_50_6, ↓ho_54, ↓gf_54_0, ↓gf_54_1, ↓pf_54_1, ↓ho_88, ↓gf_88_0, ↓gf_88_1, ↓pf_88_1, ↓gf_88_2, ↓pf_88_2, ↓gf_88_3, ↓pf_88_3, ↓gf_88_4, ↓pf_88_4, ↓gf_88_5, ↓pf_88_5, ↓gf_41_0, ↓pf_41_0, ↓gf_41_1, ↓pf_41_1, ↓gf_41_2, ↓gf_41_3, ↓pf_41_3, ↓gf_41_4, ↓gf_41_5, ↓gf_41_6, ↓gf_41_7, ↓gf_41_8, ↓pf_41_8, ↓gf_41_9, ↓pf_41_9, ↓gf_41_10, ↓gf_41_11, ↓ho_41, ↓gi_42, ↓pi_42, ↓gi_43, ↓pi_43, ↓gi_44, ↓pi_44, ↓gi_45, ↓pi_45, ↓gi_46, ↓pi_46, ↓gi_47, ↓pi_47, ↓gi_48, ↓pi_48, ↓gi_51, ↓pi_51, ↓gi_52, ↓pi_52, ↓gi_53, ↓pi_53, ↓gi_89, ↓pi_89, ↓gi_1, ↓gn_1, ↓gr_55, ↓pr_55, s33n hw hR hx]
theorem t40y (hw : Wf g) (hR : Rp F A 41 g) (ha : a < dn g) (hb : b < chn g) : Rv 40 0 [some (.ref 41), some (.int (Int32.ofNat a)), some (.int (Int32.ofNat b))] [] (en G c F A P W O) = some (.inl (some (.int 0)), (en G c F A P W O)) := by
  have := wf_c4 hw
  have h0 : (Int32.ofNat b < 0) = False := io_nonneg (by omega)
  simp only [↓e40_0, ↓e40_1, ↓e40_2, ↓e40_5, ↓e40_8, ↓e40_9, ↓e40_12, ↓e40_13, ↓e40_14, ↓e40_17, ↓e40_20, ↓e40_21, ↓e40_24, ↓e40_25, ↓ldI_0, ↓ldI_s, ↓ldA_0, ↓ldA_n, ↓ldA_s, ↓ldL_0, ↓ldL_s, ↓lst_0, ↓lst_s, ↓cal_v, ↓cal_x, ↓vts_s, ↓vts_n, ↓lpr_0, ↓lpr_i, ↓lpr_r, ↓lpr_n, ↓lpr_s, PA_41, ↓reduceIte, or_true, true_or, ↓ho_40, ↓gf_40_0, ↓gf_40_1, ↓gf_40_2, ↓gf_40_3, ↓ho_49, ↓gf_49_0, ↓gf_49_1, ↓gf_49_2, ↓gf_49_3, ↓pf_49_3, ↓ho_50, ↓gf_50_0, ↓gf_50_1, ↓gf_50_2, ↓pf_50_2, ↓gf_50_3, ↓pf_50_3, ↓gf_50_4, ↓pf_50_4, ↓gf_50_5, ↓pf_50_5, ↓gf_50_6, ↓pf_50_6, ↓ho_54, ↓gf_54_0, ↓gf_54_1, ↓pf_54_1, ↓ho_88, ↓gf_88_0, ↓gf_88_1, ↓pf_88_1, ↓gf_88_2, ↓pf_88_2, ↓gf_88_3, ↓pf_88_3, ↓gf_88_4, ↓pf_88_4, ↓gf_88_5, ↓pf_88_5, ↓gf_41_0, ↓pf_41_0, ↓gf_41_1, ↓pf_41_1, ↓gf_41_2, ↓gf_41_3, ↓pf_41_3, ↓gf_41_4, ↓gf_41_5, ↓gf_41_6, ↓gf_41_7, ↓gf_41_8, ↓pf_41_8, ↓gf_41_9, ↓pf_41_9, ↓gf_41_10, ↓gf_41_11, ↓ho_41, ↓gi_42, ↓pi_42, ↓gi_43, ↓pi_43, ↓gi_44, ↓pi_44, ↓gi_45, ↓pi_45, ↓gi_46, ↓pi_46, ↓gi_47, ↓pi_47, ↓gi_48, ↓pi_48, ↓gi_51, ↓pi_51, ↓gi_52, ↓pi_52, ↓gi_53, ↓pi_53, ↓gi_89, ↓pi_89, ↓gi_1, ↓gn_1, ↓gr_55, ↓pr_55, s33y hw hR ha, one_ne, h0, rp_c hR hw, io_lt (show b < 2147483648 by omega) (show chn g < 2147483648 by omega), hb]
theorem t40n (hw : Wf g) (hR : Rp F A 41 g) (h : nob x (dn g) ∨ nob y (chn g)) : Rv 40 0 [some (.ref 41), some (.int x), some (.int y)] [] (en G c F A P W O) = some (.inl (some (.int 1)), (en G c F A P W O)) := by
  have := wf_c4 hw
  rcases nob_or x (dn g) with ⟨a, ha, rfl⟩ | hx
  · rcases h with h | h
    · exact absurd rfl (h a ha)
    · by_cases h0 : y < 0
      · simp only [↓e40_0, ↓e40_1, ↓e40_2, ↓e40_5, ↓e40_8, ↓e40_9, ↓e40_12, ↓e40_13, ↓e40_14, ↓e40_17, ↓e40_20, ↓e40_21, ↓e40_24, ↓e40_25, ↓ldI_0, ↓ldI_s, ↓ldA_0, ↓ldA_n, ↓ldA_s, ↓ldL_0, ↓ldL_s, ↓lst_0, ↓lst_s, ↓cal_v, ↓cal_x, ↓vts_s, ↓vts_n, ↓lpr_0, ↓lpr_i, ↓lpr_r, ↓lpr_n, ↓lpr_s, PA_41, ↓reduceIte, or_true, true_or, ↓ho_40, ↓gf_40_0, ↓gf_40_1, ↓gf_40_2, ↓gf_40_3, ↓ho_49, ↓gf_49_0, ↓gf_49_1, ↓gf_49_2, ↓gf_49_3, ↓pf_49_3, ↓ho_50, ↓gf_50_0, ↓gf_50_1, ↓gf_50_2, ↓pf_50_2, ↓gf_50_3, ↓pf_50_3, ↓gf_50_4, ↓pf_50_4, ↓gf_50_5, ↓pf_50_5, ↓gf_50_6, ↓pf_50_6, ↓ho_54, ↓gf_54_0, ↓gf_54_1, ↓pf_54_1, ↓ho_88, ↓gf_88_0, ↓gf_88_1, ↓pf_88_1, ↓gf_88_2, ↓pf_88_2, ↓gf_88_3, ↓pf_88_3, ↓gf_88_4, ↓pf_88_4, ↓gf_88_5, ↓pf_88_5, ↓gf_41_0, ↓pf_41_0, ↓gf_41_1, ↓pf_41_1, ↓gf_41_2, ↓gf_41_3, ↓pf_41_3, ↓gf_41_4, ↓gf_41_5, ↓gf_41_6, ↓gf_41_7, ↓gf_41_8, ↓pf_41_8, ↓gf_41_9, ↓pf_41_9, ↓gf_41_10, ↓gf_41_11, ↓ho_41, ↓gi_42, ↓pi_42, ↓gi_43, ↓pi_43, ↓gi_44, ↓pi_44, ↓gi_45, ↓pi_45, ↓gi_46, ↓pi_46, ↓gi_47, ↓pi_47, ↓gi_48, ↓pi_48, ↓gi_51, ↓pi_51, ↓gi_52, ↓pi_52, ↓gi_53, ↓pi_53, ↓gi_89, ↓pi_89, ↓gi_1, ↓gn_1, ↓gr_55, ↓pr_55, s33y hw hR ha, one_ne, h0]
      · have h1 : ¬ y < Int32.ofNat (chn g) := nob_lt h (by omega) h0
        simp only [↓e40_0, ↓e40_1, ↓e40_2, ↓e40_5, ↓e40_8, ↓e40_9, ↓e40_12, ↓e40_13, ↓e40_14, ↓e40_17, ↓e40_20, ↓e40_21, ↓e40_24, ↓e40_25, ↓ldI_0, ↓ldI_s, ↓ldA_0, ↓ldA_n, ↓ldA_s, ↓ldL_0, ↓ldL_s, ↓lst_0, ↓lst_s, ↓cal_v, ↓cal_x, ↓vts_s, ↓vts_n, ↓lpr_0, ↓lpr_i, ↓lpr_r, ↓lpr_n, ↓lpr_s, PA_41, ↓reduceIte, or_true, true_or, ↓ho_40, ↓gf_40_0, ↓gf_40_1, ↓gf_40_2, ↓gf_40_3, ↓ho_49, ↓gf_49_0, ↓gf_49_1, ↓gf_49_2, ↓gf_49_3, ↓pf_49_3, ↓ho_50, ↓gf_50_0, ↓gf_50_1, ↓gf_50_2, ↓pf_50_2, ↓gf_50_3, ↓pf_50_3, ↓gf_50_4, ↓pf_50_4, ↓gf_50_5, ↓pf_50_5, ↓gf_50_6, ↓pf_50_6, ↓ho_54, ↓gf_54_0, ↓gf_54_1, ↓pf_54_1, ↓ho_88, ↓gf_88_0, ↓gf_88_1, ↓pf_88_1, ↓gf_88_2, ↓pf_88_2, ↓gf_88_3, ↓pf_88_3, ↓gf_88_4, ↓pf_88_4, ↓gf_88_5, ↓pf_88_5, ↓gf_41_0, ↓pf_41_0, ↓gf_41_1, ↓pf_41_1, ↓gf_41_2, ↓gf_41_3, ↓pf_41_3, ↓gf_41_4, ↓gf_41_5, ↓gf_41_6, ↓gf_41_7, ↓gf_41_8, ↓pf_41_8, ↓gf_41_9, ↓pf_41_9, ↓gf_41_10, ↓gf_41_11, ↓ho_41, ↓gi_42, ↓pi_42, ↓gi_43, ↓pi_43, ↓gi_44, ↓pi_44, ↓gi_45, ↓pi_45, ↓gi_46, ↓pi_46, ↓gi_47, ↓pi_47, ↓gi_48, ↓pi_48, ↓gi_51, ↓pi_51, ↓gi_52, ↓pi_52, ↓gi_53, ↓pi_53, ↓gi_89, ↓pi_89, ↓gi_1, ↓gn_1, ↓gr_55, ↓pr_55, s33y hw hR ha, one_ne, h0, rp_c hR hw, h1]
  · simp only [↓e40_0, ↓e40_1, ↓e40_2, ↓e40_5, ↓e40_8, ↓e40_9, ↓e40_12, ↓e40_13, ↓e40_14, ↓e40_17, ↓e40_20, ↓e40_21, ↓e40_24, ↓e40_25, ↓ldI_0, ↓ldI_s, ↓ldA_0, ↓ldA_n, ↓ldA_s, ↓ldL_0, ↓ldL_s, ↓lst_0, ↓lst_s, ↓cal_v, ↓cal_x, ↓vts_s, ↓vts_n, ↓lpr_0, ↓lpr_i, ↓lpr_r, ↓lpr_n, ↓lpr_s, PA_41, ↓reduceIte, or_true, true_or, ↓ho_40, ↓gf_40_0, ↓gf_40_1, ↓gf_40_2, ↓gf_40_3, ↓ho_49, ↓gf_49_0, ↓gf_49_1, ↓gf_49_2, ↓gf_49_3, ↓pf_49_3, ↓ho_50, ↓gf_50_0, ↓gf_50_1, ↓gf_50_2, ↓pf_50_2, ↓gf_50_3, ↓pf_50_3, ↓gf_50_4, ↓pf_50_4, ↓gf_50_5, ↓pf_50_5, ↓gf_50_6, ↓pf_50_6, ↓ho_54, ↓gf_54_0, ↓gf_54_1, ↓pf_54_1, ↓ho_88, ↓gf_88_0, ↓gf_88_1, ↓pf_88_1, ↓gf_88_2, ↓pf_88_2, ↓gf_88_3, ↓pf_88_3, ↓gf_88_4, ↓pf_88_4, ↓gf_88_5, ↓pf_88_5, ↓gf_41_0, ↓pf_41_0, ↓gf_41_1, ↓pf_41_1, ↓gf_41_2, ↓gf_41_3, ↓pf_41_3, ↓gf_41_4, ↓gf_41_5, ↓gf_41_6, ↓gf_41_7, ↓gf_41_8, ↓pf_41_8, ↓gf_41_9, ↓pf_41_9, ↓gf_41_10, ↓gf_41_11, ↓ho_41, ↓gi_42, ↓pi_42, ↓gi_43, ↓pi_43, ↓gi_44, ↓pi_44, ↓gi_45, ↓pi_45, ↓gi_46, ↓pi_46, ↓gi_47, ↓pi_47, ↓gi_48, ↓pi_48, ↓gi_51, ↓pi_51, ↓gi_52, ↓pi_52, ↓gi_53, ↓pi_53, ↓gi_89, ↓pi_89, ↓gi_1, ↓gn_1, ↓gr_55, ↓pr_55, s33n hw hR hx]
theorem t42a (hw : Wf g) (hR : Rp F A 41 g) (h : ¬ y = -1) (hy : nob y (kn g)) : Rv 42 0 [some (.ref 41), some (.int x), some (.int y)] [] (en G c F A P W O) = some (.inl (some (.int 1)), (en G c F A P W O)) := by
  simp only [↓e42_0, ↓e42_1, ↓e42_2, ↓e42_5, ↓e42_6, ↓e42_7, ↓e42_10, ↓e42_13, ↓e42_14, ↓e42_15, ↓e42_16, ↓e42_17, ↓e42_18, ↓e42_21, ↓e42_24, ↓e42_25, ↓e42_26, ↓e42_27, ↓e42_30, ↓e42_32, ↓e42_35, ↓e42_36, ↓e42_39, ↓e42_40, ↓ldI_0, ↓ldI_s, ↓ldA_0, ↓ldA_n, ↓ldA_s, ↓ldL_0, ↓ldL_s, ↓lst_0, ↓lst_s, ↓cal_v, ↓cal_x, ↓vts_s, ↓vts_n, ↓lpr_0, ↓lpr_i, ↓lpr_r, ↓lpr_n, ↓lpr_s, PA_41, ↓reduceIte, or_true, true_or, ↓ho_40, ↓gf_40_0, ↓gf_40_1, ↓gf_40_2, ↓gf_40_3, ↓ho_49, ↓gf_49_0, ↓gf_49_1, ↓gf_49_2, ↓gf_49_3, ↓pf_49_3, ↓ho_50, ↓gf_50_0, ↓gf_50_1, ↓gf_50_2, ↓pf_50_2, ↓gf_50_3, ↓pf_50_3, ↓gf_50_4, ↓pf_50_4, ↓gf_50_5, ↓pf_50_5, ↓gf_50_6, ↓pf_50_6, ↓ho_54, ↓gf_54_0, ↓gf_54_1, ↓pf_54_1, ↓ho_88, ↓gf_88_0, ↓gf_88_1, ↓pf_88_1, ↓gf_88_2, ↓pf_88_2, ↓gf_88_3, ↓pf_88_3, ↓gf_88_4, ↓pf_88_4, ↓gf_88_5, ↓pf_88_5, ↓gf_41_0, ↓pf_41_0, ↓gf_41_1, ↓pf_41_1, ↓gf_41_2, ↓gf_41_3, ↓pf_41_3, ↓gf_41_4, ↓gf_41_5, ↓gf_41_6, ↓gf_41_7, ↓gf_41_8, ↓pf_41_8, ↓gf_41_9, ↓pf_41_9, ↓gf_41_10, ↓gf_41_11, ↓ho_41, ↓gi_42, ↓pi_42, ↓gi_43, ↓pi_43, ↓gi_44, ↓pi_44, ↓gi_45, ↓pi_45, ↓gi_46, ↓pi_46, ↓gi_47, ↓pi_47, ↓gi_48, ↓pi_48, ↓gi_51, ↓pi_51, ↓gi_52, ↓pi_52, ↓gi_53, ↓pi_53, ↓gi_89, ↓pi_89, ↓gi_1, ↓gn_1, ↓gr_55, ↓pr_55, s32n hw hR hy, h]
theorem t42b (hw : Wf g) (hR : Rp F A 41 g) (hy : y = -1 ∨ ∃ j, j < kn g ∧ y = Int32.ofNat j) : Rv 42 0 [some (.ref 41), some (.int x), some (.int y)] [] (en G c F A P W O) = some (.inl (some (.int (if rsx g (-1) x = 0 then (if kn g < 16 then 0 else 3) else 2))), (en G c F A P W O)) := by
  have n16 := wf_n16 hw
  have e16 : (Int32.ofNat (kn g) < 16) = (kn g < 16) := io_lt (b := 16) (by omega) (by omega)
  rcases hy with rfl | ⟨i, hi, rfl⟩
  · simp only [↓e42_0, ↓e42_1, ↓e42_2, ↓e42_5, ↓e42_6, ↓e42_7, ↓e42_10, ↓e42_13, ↓e42_14, ↓e42_15, ↓e42_16, ↓e42_17, ↓e42_18, ↓e42_21, ↓e42_24, ↓e42_25, ↓e42_26, ↓e42_27, ↓e42_30, ↓e42_32, ↓e42_35, ↓e42_36, ↓e42_39, ↓e42_40, ↓ldI_0, ↓ldI_s, ↓ldA_0, ↓ldA_n, ↓ldA_s, ↓ldL_0, ↓ldL_s, ↓lst_0, ↓lst_s, ↓cal_v, ↓cal_x, ↓vts_s, ↓vts_n, ↓lpr_0, ↓lpr_i, ↓lpr_r, ↓lpr_n, ↓lpr_s, PA_41, ↓reduceIte, or_true, true_or, ↓ho_40, ↓gf_40_0, ↓gf_40_1, ↓gf_40_2, ↓gf_40_3, ↓ho_49, ↓gf_49_0, ↓gf_49_1, ↓gf_49_2, ↓gf_49_3, ↓pf_49_3, ↓ho_50, ↓gf_50_0, ↓gf_50_1, ↓gf_50_2, ↓pf_50_2, ↓gf_50_3, ↓pf_50_3, ↓gf_50_4, ↓pf_50_4, ↓gf_50_5, ↓pf_50_5, ↓gf_50_6, ↓pf_50_6, ↓ho_54, ↓gf_54_0, ↓gf_54_1, ↓pf_54_1, ↓ho_88, ↓gf_88_0, ↓gf_88_1, ↓pf_88_1, ↓gf_88_2, ↓pf_88_2, ↓gf_88_3, ↓pf_88_3, ↓gf_88_4, ↓pf_88_4, ↓gf_88_5, ↓pf_88_5, ↓gf_41_0, ↓pf_41_0, ↓gf_41_1, ↓pf_41_1, ↓gf_41_2, ↓gf_41_3, ↓pf_41_3, ↓gf_41_4, ↓gf_41_5, ↓gf_41_6, ↓gf_41_7, ↓gf_41_8, ↓pf_41_8, ↓gf_41_9, ↓pf_41_9, ↓gf_41_10, ↓gf_41_11, ↓ho_41, ↓gi_42, ↓pi_42, ↓gi_43, ↓pi_43, ↓gi_44, ↓pi_44, ↓gi_45, ↓pi_45, ↓gi_46, ↓pi_46, ↓gi_47, ↓pi_47, ↓gi_48, ↓pi_48, ↓gi_51, ↓pi_51, ↓gi_52, ↓pi_52, ↓gi_53, ↓pi_53, ↓gi_89, ↓pi_89, ↓gi_1, ↓gn_1, ↓gr_55, ↓pr_55, show ((-1 : Int32) = -1) = True from eq_true rfl, t61 hw hR, rsx_0, rp_n hR hw, e16]
    by_cases h1 : rsx g (-1) x = 0
    · by_cases h2 : kn g < 16
      · simp only [h1, h2, if_true]
      · simp only [h1, h2, if_true, if_false]
    · simp only [h1, if_false]
  · simp only [↓e42_0, ↓e42_1, ↓e42_2, ↓e42_5, ↓e42_6, ↓e42_7, ↓e42_10, ↓e42_13, ↓e42_14, ↓e42_15, ↓e42_16, ↓e42_17, ↓e42_18, ↓e42_21, ↓e42_24, ↓e42_25, ↓e42_26, ↓e42_27, ↓e42_30, ↓e42_32, ↓e42_35, ↓e42_36, ↓e42_39, ↓e42_40, ↓ldI_0, ↓ldI_s, ↓ldA_0, ↓ldA_n, ↓ldA_s, ↓ldL_0, ↓ldL_s, ↓lst_0, ↓lst_s, ↓cal_v, ↓cal_x, ↓vts_s, ↓vts_n, ↓lpr_0, ↓lpr_i, ↓lpr_r, ↓lpr_n, ↓lpr_s, PA_41, ↓reduceIte, or_true, true_or, ↓ho_40, ↓gf_40_0, ↓gf_40_1, ↓gf_40_2, ↓gf_40_3, ↓ho_49, ↓gf_49_0, ↓gf_49_1, ↓gf_49_2, ↓gf_49_3, ↓pf_49_3, ↓ho_50, ↓gf_50_0, ↓gf_50_1, ↓gf_50_2, ↓pf_50_2, ↓gf_50_3, ↓pf_50_3, ↓gf_50_4, ↓pf_50_4, ↓gf_50_5, ↓pf_50_5, ↓gf_50_6, ↓pf_50_6, ↓ho_54, ↓gf_54_0, ↓gf_54_1, ↓pf_54_1, ↓ho_88, ↓gf_88_0, ↓gf_88_1, ↓pf_88_1, ↓gf_88_2, ↓pf_88_2, ↓gf_88_3, ↓pf_88_3, ↓gf_88_4, ↓pf_88_4, ↓gf_88_5, ↓pf_88_5, ↓gf_41_0, ↓pf_41_0, ↓gf_41_1, ↓pf_41_1, ↓gf_41_2, ↓gf_41_3, ↓pf_41_3, ↓gf_41_4, ↓gf_41_5, ↓gf_41_6, ↓gf_41_7, ↓gf_41_8, ↓pf_41_8, ↓gf_41_9, ↓pf_41_9, ↓gf_41_10, ↓gf_41_11, ↓ho_41, ↓gi_42, ↓pi_42, ↓gi_43, ↓pi_43, ↓gi_44, ↓pi_44, ↓gi_45, ↓pi_45, ↓gi_46, ↓pi_46, ↓gi_47, ↓pi_47, ↓gi_48, ↓pi_48, ↓gi_51, ↓pi_51, ↓gi_52, ↓pi_52, ↓gi_53, ↓pi_53, ↓gi_89, ↓pi_89, ↓gi_1, ↓gn_1, ↓gr_55, ↓pr_55, io_nm (show i < 2147483648 by omega), s32y hw hR hi, one_ne, t61 hw hR, rsx_0, rp_n hR hw, e16]
    by_cases h1 : rsx g (-1) x = 0
    · by_cases h2 : kn g < 16
      · simp only [h1, h2, if_true]
      · simp only [h1, h2, if_true, if_false]
    · simp only [h1, if_false]
theorem t43n (hw : Wf g) (hR : Rp F A 41 g) (hx : nob x (kn g)) : Rv 43 0 [some (.ref 41), some (.int x), some (.int y)] [] (en G c F A P W O) = some (.inl (some (.int 1)), (en G c F A P W O)) := by
  simp only [↓e43_0, ↓e43_1, ↓e43_2, ↓e43_5, ↓e43_8, ↓e43_9, ↓e43_10, ↓e43_11, ↓e43_12, ↓e43_13, ↓e43_16, ↓e43_19, ↓e43_20, ↓e43_23, ↓e43_24, ↓ldI_0, ↓ldI_s, ↓ldA_0, ↓ldA_n, ↓ldA_s, ↓ldL_0, ↓ldL_s, ↓lst_0, ↓lst_s, ↓cal_v, ↓cal_x, ↓vts_s, ↓vts_n, ↓lpr_0, ↓lpr_i, ↓lpr_r, ↓lpr_n, ↓lpr_s, PA_41, ↓reduceIte, or_true, true_or, ↓ho_40, ↓gf_40_0, ↓gf_40_1, ↓gf_40_2, ↓gf_40_3, ↓ho_49, ↓gf_49_0, ↓gf_49_1, ↓gf_49_2, ↓gf_49_3, ↓pf_49_3, ↓ho_50, ↓gf_50_0, ↓gf_50_1, ↓gf_50_2, ↓pf_50_2, ↓gf_50_3, ↓pf_50_3, ↓gf_50_4, ↓pf_50_4, ↓gf_50_5, ↓pf_50_5, ↓gf_50_6, ↓pf_50_6, ↓ho_54, ↓gf_54_0, ↓gf_54_1, ↓pf_54_1, ↓ho_88, ↓gf_88_0, ↓gf_88_1, ↓pf_88_1, ↓gf_88_2, ↓pf_88_2, ↓gf_88_3, ↓pf_88_3, ↓gf_88_4, ↓pf_88_4, ↓gf_88_5, ↓pf_88_5, ↓gf_41_0, ↓pf_41_0, ↓gf_41_1, ↓pf_41_1, ↓gf_41_2, ↓gf_41_3, ↓pf_41_3, ↓gf_41_4, ↓gf_41_5, ↓gf_41_6, ↓gf_41_7, ↓gf_41_8, ↓pf_41_8, ↓gf_41_9, ↓pf_41_9, ↓gf_41_10, ↓gf_41_11, ↓ho_41, ↓gi_42, ↓pi_42, ↓gi_43, ↓pi_43, ↓gi_44, ↓pi_44, ↓gi_45, ↓pi_45, ↓gi_46, ↓pi_46, ↓gi_47, ↓pi_47, ↓gi_48, ↓pi_48, ↓gi_51, ↓pi_51, ↓gi_52, ↓pi_52, ↓gi_53, ↓pi_53, ↓gi_89, ↓pi_89, ↓gi_1, ↓gn_1, ↓gr_55, ↓pr_55, s32n hw hR hx]
theorem t43y (hw : Wf g) (hR : Rp F A 41 g) (ha : a < kn g) : Rv 43 0 [some (.ref 41), some (.int (Int32.ofNat a)), some (.int y)] [] (en G c F A P W O) = some (.inl (some (.int (if rsx g (Int32.ofNat a) y = 0 then 0 else 2))), (en G c F A P W O)) := by
  simp only [↓e43_0, ↓e43_1, ↓e43_2, ↓e43_5, ↓e43_8, ↓e43_9, ↓e43_10, ↓e43_11, ↓e43_12, ↓e43_13, ↓e43_16, ↓e43_19, ↓e43_20, ↓e43_23, ↓e43_24, ↓ldI_0, ↓ldI_s, ↓ldA_0, ↓ldA_n, ↓ldA_s, ↓ldL_0, ↓ldL_s, ↓lst_0, ↓lst_s, ↓cal_v, ↓cal_x, ↓vts_s, ↓vts_n, ↓lpr_0, ↓lpr_i, ↓lpr_r, ↓lpr_n, ↓lpr_s, PA_41, ↓reduceIte, or_true, true_or, ↓ho_40, ↓gf_40_0, ↓gf_40_1, ↓gf_40_2, ↓gf_40_3, ↓ho_49, ↓gf_49_0, ↓gf_49_1, ↓gf_49_2, ↓gf_49_3, ↓pf_49_3, ↓ho_50, ↓gf_50_0, ↓gf_50_1, ↓gf_50_2, ↓pf_50_2, ↓gf_50_3, ↓pf_50_3, ↓gf_50_4, ↓pf_50_4, ↓gf_50_5, ↓pf_50_5, ↓gf_50_6, ↓pf_50_6, ↓ho_54, ↓gf_54_0, ↓gf_54_1, ↓pf_54_1, ↓ho_88, ↓gf_88_0, ↓gf_88_1, ↓pf_88_1, ↓gf_88_2, ↓pf_88_2, ↓gf_88_3, ↓pf_88_3, ↓gf_88_4, ↓pf_88_4, ↓gf_88_5, ↓pf_88_5, ↓gf_41_0, ↓pf_41_0, ↓gf_41_1, ↓pf_41_1, ↓gf_41_2, ↓gf_41_3, ↓pf_41_3, ↓gf_41_4, ↓gf_41_5, ↓gf_41_6, ↓gf_41_7, ↓gf_41_8, ↓pf_41_8, ↓gf_41_9, ↓pf_41_9, ↓gf_41_10, ↓gf_41_11, ↓ho_41, ↓gi_42, ↓pi_42, ↓gi_43, ↓pi_43, ↓gi_44, ↓pi_44, ↓gi_45, ↓pi_45, ↓gi_46, ↓pi_46, ↓gi_47, ↓pi_47, ↓gi_48, ↓pi_48, ↓gi_51, ↓pi_51, ↓gi_52, ↓pi_52, ↓gi_53, ↓pi_53, ↓gi_89, ↓pi_89, ↓gi_1, ↓gn_1, ↓gr_55, ↓pr_55, s32y hw hR ha, one_ne, t61 hw hR, rsx_0]
  by_cases h1 : rsx g (Int32.ofNat a) y = 0
  · simp only [h1, if_true]
  · simp only [h1, if_false]
theorem t44n (hw : Wf g) (hR : Rp F A 41 g) (hx : nob x (kn g)) : Rv 44 0 [some (.ref 41), some (.int x)] [] (en G c F A P W O) = some (.inl (some (.int 1)), (en G c F A P W O)) := by
  simp only [↓e44_0, ↓e44_1, ↓e44_2, ↓e44_5, ↓e44_8, ↓e44_9, ↓e44_10, ↓e44_11, ↓e44_12, ↓e44_15, ↓e44_18, ↓e44_19, ↓e44_22, ↓e44_23, ↓ldI_0, ↓ldI_s, ↓ldA_0, ↓ldA_n, ↓ldA_s, ↓ldL_0, ↓ldL_s, ↓lst_0, ↓lst_s, ↓cal_v, ↓cal_x, ↓vts_s, ↓vts_n, ↓lpr_0, ↓lpr_i, ↓lpr_r, ↓lpr_n, ↓lpr_s, PA_41, ↓reduceIte, or_true, true_or, ↓ho_40, ↓gf_40_0, ↓gf_40_1, ↓gf_40_2, ↓gf_40_3, ↓ho_49, ↓gf_49_0, ↓gf_49_1, ↓gf_49_2, ↓gf_49_3, ↓pf_49_3, ↓ho_50, ↓gf_50_0, ↓gf_50_1, ↓gf_50_2, ↓pf_50_2, ↓gf_50_3, ↓pf_50_3, ↓gf_50_4, ↓pf_50_4, ↓gf_50_5, ↓pf_50_5, ↓gf_50_6, ↓pf_50_6, ↓ho_54, ↓gf_54_0, ↓gf_54_1, ↓pf_54_1, ↓ho_88, ↓gf_88_0, ↓gf_88_1, ↓pf_88_1, ↓gf_88_2, ↓pf_88_2, ↓gf_88_3, ↓pf_88_3, ↓gf_88_4, ↓pf_88_4, ↓gf_88_5, ↓pf_88_5, ↓gf_41_0, ↓pf_41_0, ↓gf_41_1, ↓pf_41_1, ↓gf_41_2, ↓gf_41_3, ↓pf_41_3, ↓gf_41_4, ↓gf_41_5, ↓gf_41_6, ↓gf_41_7, ↓gf_41_8, ↓pf_41_8, ↓gf_41_9, ↓pf_41_9, ↓gf_41_10, ↓gf_41_11, ↓ho_41, ↓gi_42, ↓pi_42, ↓gi_43, ↓pi_43, ↓gi_44, ↓pi_44, ↓gi_45, ↓pi_45, ↓gi_46, ↓pi_46, ↓gi_47, ↓pi_47, ↓gi_48, ↓pi_48, ↓gi_51, ↓pi_51, ↓gi_52, ↓pi_52, ↓gi_53, ↓pi_53, ↓gi_89, ↓pi_89, ↓gi_1, ↓gn_1, ↓gr_55, ↓pr_55, s32n hw hR hx]
theorem t44y (hw : Wf g) (hR : Rp F A 41 g) (ha : a < kn g) : Rv 44 0 [some (.ref 41), some (.int (Int32.ofNat a))] [] (en G c F A P W O) = some (.inl (some (.int (if g (39 + a) = 1 then 3 else 0))), (en G c F A P W O)) := by
  simp only [↓e44_0, ↓e44_1, ↓e44_2, ↓e44_5, ↓e44_8, ↓e44_9, ↓e44_10, ↓e44_11, ↓e44_12, ↓e44_15, ↓e44_18, ↓e44_19, ↓e44_22, ↓e44_23, ↓ldI_0, ↓ldI_s, ↓ldA_0, ↓ldA_n, ↓ldA_s, ↓ldL_0, ↓ldL_s, ↓lst_0, ↓lst_s, ↓cal_v, ↓cal_x, ↓vts_s, ↓vts_n, ↓lpr_0, ↓lpr_i, ↓lpr_r, ↓lpr_n, ↓lpr_s, PA_41, ↓reduceIte, or_true, true_or, ↓ho_40, ↓gf_40_0, ↓gf_40_1, ↓gf_40_2, ↓gf_40_3, ↓ho_49, ↓gf_49_0, ↓gf_49_1, ↓gf_49_2, ↓gf_49_3, ↓pf_49_3, ↓ho_50, ↓gf_50_0, ↓gf_50_1, ↓gf_50_2, ↓pf_50_2, ↓gf_50_3, ↓pf_50_3, ↓gf_50_4, ↓pf_50_4, ↓gf_50_5, ↓pf_50_5, ↓gf_50_6, ↓pf_50_6, ↓ho_54, ↓gf_54_0, ↓gf_54_1, ↓pf_54_1, ↓ho_88, ↓gf_88_0, ↓gf_88_1, ↓pf_88_1, ↓gf_88_2, ↓pf_88_2, ↓gf_88_3, ↓pf_88_3, ↓gf_88_4, ↓pf_88_4, ↓gf_88_5, ↓pf_88_5, ↓gf_41_0, ↓pf_41_0, ↓gf_41_1, ↓pf_41_1, ↓gf_41_2, ↓gf_41_3, ↓pf_41_3, ↓gf_41_4, ↓gf_41_5, ↓gf_41_6, ↓gf_41_7, ↓gf_41_8, ↓pf_41_8, ↓gf_41_9, ↓pf_41_9, ↓gf_41_10, ↓gf_41_11, ↓ho_41, ↓gi_42, ↓pi_42, ↓gi_43, ↓pi_43, ↓gi_44, ↓pi_44, ↓gi_45, ↓pi_45, ↓gi_46, ↓pi_46, ↓gi_47, ↓pi_47, ↓gi_48, ↓pi_48, ↓gi_51, ↓pi_51, ↓gi_52, ↓pi_52, ↓gi_53, ↓pi_53, ↓gi_89, ↓pi_89, ↓gi_1, ↓gn_1, ↓gr_55, ↓pr_55, s32y hw hR ha, one_ne, t34 hw hR ha]
  by_cases h1 : g (39 + a) = 1
  · simp only [h1, if_true, one_ne, if_false]
  · simp only [h1, if_false, if_true]
theorem t45n (hw : Wf g) (hR : Rp F A 41 g) (hx : nob x (kn g)) : Rv 45 0 [some (.ref 41), some (.int x)] [] (en G c F A P W O) = some (.inl (some (.int 1)), (en G c F A P W O)) := by
  simp only [↓e45_0, ↓e45_1, ↓e45_2, ↓e45_5, ↓e45_8, ↓e45_9, ↓e45_10, ↓e45_11, ↓e45_12, ↓e45_15, ↓e45_18, ↓e45_19, ↓e45_22, ↓e45_23, ↓ldI_0, ↓ldI_s, ↓ldA_0, ↓ldA_n, ↓ldA_s, ↓ldL_0, ↓ldL_s, ↓lst_0, ↓lst_s, ↓cal_v, ↓cal_x, ↓vts_s, ↓vts_n, ↓lpr_0, ↓lpr_i, ↓lpr_r, ↓lpr_n, ↓lpr_s, PA_41, ↓reduceIte, or_true, true_or, ↓ho_40, ↓gf_40_0, ↓gf_40_1, ↓gf_40_2, ↓gf_40_3, ↓ho_49, ↓gf_49_0, ↓gf_49_1, ↓gf_49_2, ↓gf_49_3, ↓pf_49_3, ↓ho_50, ↓gf_50_0, ↓gf_50_1, ↓gf_50_2, ↓pf_50_2, ↓gf_50_3, ↓pf_50_3, ↓gf_50_4, ↓pf_50_4, ↓gf_50_5, ↓pf_50_5, ↓gf_50_6, ↓pf_50_6, ↓ho_54, ↓gf_54_0, ↓gf_54_1, ↓pf_54_1, ↓ho_88, ↓gf_88_0, ↓gf_88_1, ↓pf_88_1, ↓gf_88_2, ↓pf_88_2, ↓gf_88_3, ↓pf_88_3, ↓gf_88_4, ↓pf_88_4, ↓gf_88_5, ↓pf_88_5, ↓gf_41_0, ↓pf_41_0, ↓gf_41_1, ↓pf_41_1, ↓gf_41_2, ↓gf_41_3, ↓pf_41_3, ↓gf_41_4, ↓gf_41_5, ↓gf_41_6, ↓gf_41_7, ↓gf_41_8, ↓pf_41_8, ↓gf_41_9, ↓pf_41_9, ↓gf_41_10, ↓gf_41_11, ↓ho_41, ↓gi_42, ↓pi_42, ↓gi_43, ↓pi_43, ↓gi_44, ↓pi_44, ↓gi_45, ↓pi_45, ↓gi_46, ↓pi_46, ↓gi_47, ↓pi_47, ↓gi_48, ↓pi_48, ↓gi_51, ↓pi_51, ↓gi_52, ↓pi_52, ↓gi_53, ↓pi_53, ↓gi_89, ↓pi_89, ↓gi_1, ↓gn_1, ↓gr_55, ↓pr_55, s32n hw hR hx]
theorem t45y (hw : Wf g) (hR : Rp F A 41 g) (ha : a < kn g) : Rv 45 0 [some (.ref 41), some (.int (Int32.ofNat a))] [] (en G c F A P W O) = some (.inl (some (.int (if g (39 + a) = 1 then 0 else 3))), (en G c F A P W O)) := by
  simp only [↓e45_0, ↓e45_1, ↓e45_2, ↓e45_5, ↓e45_8, ↓e45_9, ↓e45_10, ↓e45_11, ↓e45_12, ↓e45_15, ↓e45_18, ↓e45_19, ↓e45_22, ↓e45_23, ↓ldI_0, ↓ldI_s, ↓ldA_0, ↓ldA_n, ↓ldA_s, ↓ldL_0, ↓ldL_s, ↓lst_0, ↓lst_s, ↓cal_v, ↓cal_x, ↓vts_s, ↓vts_n, ↓lpr_0, ↓lpr_i, ↓lpr_r, ↓lpr_n, ↓lpr_s, PA_41, ↓reduceIte, or_true, true_or, ↓ho_40, ↓gf_40_0, ↓gf_40_1, ↓gf_40_2, ↓gf_40_3, ↓ho_49, ↓gf_49_0, ↓gf_49_1, ↓gf_49_2, ↓gf_49_3, ↓pf_49_3, ↓ho_50, ↓gf_50_0, ↓gf_50_1, ↓gf_50_2, ↓pf_50_2, ↓gf_50_3, ↓pf_50_3, ↓gf_50_4, ↓pf_50_4, ↓gf_50_5, ↓pf_50_5, ↓gf_50_6, ↓pf_50_6, ↓ho_54, ↓gf_54_0, ↓gf_54_1, ↓pf_54_1, ↓ho_88, ↓gf_88_0, ↓gf_88_1, ↓pf_88_1, ↓gf_88_2, ↓pf_88_2, ↓gf_88_3, ↓pf_88_3, ↓gf_88_4, ↓pf_88_4, ↓gf_88_5, ↓pf_88_5, ↓gf_41_0, ↓pf_41_0, ↓gf_41_1, ↓pf_41_1, ↓gf_41_2, ↓gf_41_3, ↓pf_41_3, ↓gf_41_4, ↓gf_41_5, ↓gf_41_6, ↓gf_41_7, ↓gf_41_8, ↓pf_41_8, ↓gf_41_9, ↓pf_41_9, ↓gf_41_10, ↓gf_41_11, ↓ho_41, ↓gi_42, ↓pi_42, ↓gi_43, ↓pi_43, ↓gi_44, ↓pi_44, ↓gi_45, ↓pi_45, ↓gi_46, ↓pi_46, ↓gi_47, ↓pi_47, ↓gi_48, ↓pi_48, ↓gi_51, ↓pi_51, ↓gi_52, ↓pi_52, ↓gi_53, ↓pi_53, ↓gi_89, ↓pi_89, ↓gi_1, ↓gn_1, ↓gr_55, ↓pr_55, s32y hw hR ha, one_ne, t34 hw hR ha]
  by_cases h1 : g (39 + a) = 1
  · simp only [h1, if_true, one_ne, if_false]
  · simp only [h1, if_false, if_true]
theorem t46n (hw : Wf g) (hR : Rp F A 41 g) (hx : nob x (kn g)) : Rv 46 0 [some (.ref 41), some (.int x)] [] (en G c F A P W O) = some (.inl (some (.int 1)), (en G c F A P W O)) := by
  simp only [↓e46_0, ↓e46_1, ↓e46_2, ↓e46_5, ↓e46_8, ↓e46_9, ↓e46_10, ↓e46_11, ↓e46_14, ↓e46_16, ↓e46_19, ↓e46_20, ↓e46_23, ↓e46_24, ↓ldI_0, ↓ldI_s, ↓ldA_0, ↓ldA_n, ↓ldA_s, ↓ldL_0, ↓ldL_s, ↓lst_0, ↓lst_s, ↓cal_v, ↓cal_x, ↓vts_s, ↓vts_n, ↓lpr_0, ↓lpr_i, ↓lpr_r, ↓lpr_n, ↓lpr_s, PA_41, ↓reduceIte, or_true, true_or, ↓ho_40, ↓gf_40_0, ↓gf_40_1, ↓gf_40_2, ↓gf_40_3, ↓ho_49, ↓gf_49_0, ↓gf_49_1, ↓gf_49_2, ↓gf_49_3, ↓pf_49_3, ↓ho_50, ↓gf_50_0, ↓gf_50_1, ↓gf_50_2, ↓pf_50_2, ↓gf_50_3, ↓pf_50_3, ↓gf_50_4, ↓pf_50_4, ↓gf_50_5, ↓pf_50_5, ↓gf_50_6, ↓pf_50_6, ↓ho_54, ↓gf_54_0, ↓gf_54_1, ↓pf_54_1, ↓ho_88, ↓gf_88_0, ↓gf_88_1, ↓pf_88_1, ↓gf_88_2, ↓pf_88_2, ↓gf_88_3, ↓pf_88_3, ↓gf_88_4, ↓pf_88_4, ↓gf_88_5, ↓pf_88_5, ↓gf_41_0, ↓pf_41_0, ↓gf_41_1, ↓pf_41_1, ↓gf_41_2, ↓gf_41_3, ↓pf_41_3, ↓gf_41_4, ↓gf_41_5, ↓gf_41_6, ↓gf_41_7, ↓gf_41_8, ↓pf_41_8, ↓gf_41_9, ↓pf_41_9, ↓gf_41_10, ↓gf_41_11, ↓ho_41, ↓gi_42, ↓pi_42, ↓gi_43, ↓pi_43, ↓gi_44, ↓pi_44, ↓gi_45, ↓pi_45, ↓gi_46, ↓pi_46, ↓gi_47, ↓pi_47, ↓gi_48, ↓pi_48, ↓gi_51, ↓pi_51, ↓gi_52, ↓pi_52, ↓gi_53, ↓pi_53, ↓gi_89, ↓pi_89, ↓gi_1, ↓gn_1, ↓gr_55, ↓pr_55, s32n hw hR hx]
theorem t46y (hw : Wf g) (hR : Rp F A 41 g) (ha : a < kn g) : Rv 46 0 [some (.ref 41), some (.int (Int32.ofNat a))] [] (en G c F A P W O) = some (.inl (some (.int (if dn g < 12 then 0 else 3))), (en G c F A P W O)) := by
  have m12 := wf_m12 hw
  simp only [↓e46_0, ↓e46_1, ↓e46_2, ↓e46_5, ↓e46_8, ↓e46_9, ↓e46_10, ↓e46_11, ↓e46_14, ↓e46_16, ↓e46_19, ↓e46_20, ↓e46_23, ↓e46_24, ↓ldI_0, ↓ldI_s, ↓ldA_0, ↓ldA_n, ↓ldA_s, ↓ldL_0, ↓ldL_s, ↓lst_0, ↓lst_s, ↓cal_v, ↓cal_x, ↓vts_s, ↓vts_n, ↓lpr_0, ↓lpr_i, ↓lpr_r, ↓lpr_n, ↓lpr_s, PA_41, ↓reduceIte, or_true, true_or, ↓ho_40, ↓gf_40_0, ↓gf_40_1, ↓gf_40_2, ↓gf_40_3, ↓ho_49, ↓gf_49_0, ↓gf_49_1, ↓gf_49_2, ↓gf_49_3, ↓pf_49_3, ↓ho_50, ↓gf_50_0, ↓gf_50_1, ↓gf_50_2, ↓pf_50_2, ↓gf_50_3, ↓pf_50_3, ↓gf_50_4, ↓pf_50_4, ↓gf_50_5, ↓pf_50_5, ↓gf_50_6, ↓pf_50_6, ↓ho_54, ↓gf_54_0, ↓gf_54_1, ↓pf_54_1, ↓ho_88, ↓gf_88_0, ↓gf_88_1, ↓pf_88_1, ↓gf_88_2, ↓pf_88_2, ↓gf_88_3, ↓pf_88_3, ↓gf_88_4, ↓pf_88_4, ↓gf_88_5, ↓pf_88_5, ↓gf_41_0, ↓pf_41_0, ↓gf_41_1, ↓pf_41_1, ↓gf_41_2, ↓gf_41_3, ↓pf_41_3, ↓gf_41_4, ↓gf_41_5, ↓gf_41_6, ↓gf_41_7, ↓gf_41_8, ↓pf_41_8, ↓gf_41_9, ↓pf_41_9, ↓gf_41_10, ↓gf_41_11, ↓ho_41, ↓gi_42, ↓pi_42, ↓gi_43, ↓pi_43, ↓gi_44, ↓pi_44, ↓gi_45, ↓pi_45, ↓gi_46, ↓pi_46, ↓gi_47, ↓pi_47, ↓gi_48, ↓pi_48, ↓gi_51, ↓pi_51, ↓gi_52, ↓pi_52, ↓gi_53, ↓pi_53, ↓gi_89, ↓pi_89, ↓gi_1, ↓gn_1, ↓gr_55, ↓pr_55, s32y hw hR ha, one_ne, rp_m hR hw, show (Int32.ofNat (dn g) < 12) = (dn g < 12) from io_lt (b := 12) (by omega) (by omega)]
  by_cases h1 : dn g < 12
  · simp only [h1, if_true]
  · simp only [h1, if_false]
/-- a rule's number and value, as they come -/
def rlk (x y : Int32) : Prop := ∃ r b, x = Int32.ofNat r ∧ y = Int32.ofNat b ∧ rok r b
theorem t41y {r : Nat} (h : rok r b) : Rv 41 0 [some (.ref 41), some (.int (Int32.ofNat r)), some (.int (Int32.ofNat b)), none, none] [] (en G c F A P W O) = some (.inl (some (.int 0)), (en G c F A P W O)) := by
  unfold rok at h
  have h0 : (Int32.ofNat r < 0) = False := io_nonneg (by omega)
  have h3 : (Int32.ofNat r < 3) = True := by rw [show (3 : Int32) = Int32.ofNat 3 from rfl, io_lt (by omega) (by omega)]; exact eq_true (by omega)
  rcases h with ⟨rfl, hb⟩ | ⟨h1, h2, h4, h5⟩
  · simp only [↓e41_0, ↓e41_1, ↓e41_4, ↓e41_5, ↓e41_6, ↓e41_9, ↓e41_10, ↓e41_11, ↓e41_12, ↓e41_15, ↓e41_16, ↓e41_19, ↓e41_20, ↓e41_21, ↓e41_22, ↓e41_25, ↓e41_26, ↓e41_29, ↓e41_30, ↓e41_32, ↓e41_33, ↓e41_34, ↓e41_37, ↓e41_38, ↓e41_40, ↓e41_43, ↓e41_44, ↓e41_47, ↓e41_48, ↓ldI_0, ↓ldI_s, ↓ldA_0, ↓ldA_n, ↓ldA_s, ↓ldL_0, ↓ldL_s, ↓lst_0, ↓lst_s, ↓cal_v, ↓cal_x, ↓vts_s, ↓vts_n, ↓lpr_0, ↓lpr_i, ↓lpr_r, ↓lpr_n, ↓lpr_s, PA_41, ↓reduceIte, or_true, true_or, ↓ho_40, ↓gf_40_0, ↓gf_40_1, ↓gf_40_2, ↓gf_40_3, ↓ho_49, ↓gf_49_0, ↓gf_49_1, ↓gf_49_2, ↓gf_49_3, ↓pf_49_3, ↓ho_50, ↓gf_50_0, ↓gf_50_1, ↓gf_50_2, ↓pf_50_2, ↓gf_50_3, ↓pf_50_3, ↓gf_50_4, ↓pf_50_4, ↓gf_50_5, ↓pf_50_5, ↓gf_50_6, ↓pf_50_6, ↓ho_54, ↓gf_54_0, ↓gf_54_1, ↓pf_54_1, ↓ho_88, ↓gf_88_0, ↓gf_88_1, ↓pf_88_1, ↓gf_88_2, ↓pf_88_2, ↓gf_88_3, ↓pf_88_3, ↓gf_88_4, ↓pf_88_4, ↓gf_88_5, ↓pf_88_5, ↓gf_41_0, ↓pf_41_0, ↓gf_41_1, ↓pf_41_1, ↓gf_41_2, ↓gf_41_3, ↓pf_41_3, ↓gf_41_4, ↓gf_41_5, ↓gf_41_6, ↓gf_41_7, ↓gf_41_8, ↓pf_41_8, ↓gf_41_9, ↓pf_41_9, ↓gf_41_10, ↓gf_41_11, ↓ho_41, ↓gi_42, ↓pi_42, ↓gi_43, ↓pi_43, ↓gi_44, ↓pi_44, ↓gi_45, ↓pi_45, ↓gi_46, ↓pi_46, ↓gi_47, ↓pi_47, ↓gi_48, ↓pi_48, ↓gi_51, ↓pi_51, ↓gi_52, ↓pi_52, ↓gi_53, ↓pi_53, ↓gi_89, ↓pi_89, ↓gi_1, ↓gn_1, ↓gr_55, ↓pr_55, show Int32.ofNat 0 = 0 from rfl, show ((0 : Int32) < 0) = False from by decide, show ((0 : Int32) < 3) = True from by decide, io_nonneg (show b < 2147483648 by omega), show ((5 : Int32) < Int32.ofNat b) = False from le_lit (b := 5) (by omega) (by omega) hb, show ((0 : Int32) = 0) = True from eq_true rfl]
  · simp only [↓e41_0, ↓e41_1, ↓e41_4, ↓e41_5, ↓e41_6, ↓e41_9, ↓e41_10, ↓e41_11, ↓e41_12, ↓e41_15, ↓e41_16, ↓e41_19, ↓e41_20, ↓e41_21, ↓e41_22, ↓e41_25, ↓e41_26, ↓e41_29, ↓e41_30, ↓e41_32, ↓e41_33, ↓e41_34, ↓e41_37, ↓e41_38, ↓e41_40, ↓e41_43, ↓e41_44, ↓e41_47, ↓e41_48, ↓ldI_0, ↓ldI_s, ↓ldA_0, ↓ldA_n, ↓ldA_s, ↓ldL_0, ↓ldL_s, ↓lst_0, ↓lst_s, ↓cal_v, ↓cal_x, ↓vts_s, ↓vts_n, ↓lpr_0, ↓lpr_i, ↓lpr_r, ↓lpr_n, ↓lpr_s, PA_41, ↓reduceIte, or_true, true_or, ↓ho_40, ↓gf_40_0, ↓gf_40_1, ↓gf_40_2, ↓gf_40_3, ↓ho_49, ↓gf_49_0, ↓gf_49_1, ↓gf_49_2, ↓gf_49_3, ↓pf_49_3, ↓ho_50, ↓gf_50_0, ↓gf_50_1, ↓gf_50_2, ↓pf_50_2, ↓gf_50_3, ↓pf_50_3, ↓gf_50_4, ↓pf_50_4, ↓gf_50_5, ↓pf_50_5, ↓gf_50_6, ↓pf_50_6, ↓ho_54, ↓gf_54_0, ↓gf_54_1, ↓pf_54_1, ↓ho_88, ↓gf_88_0, ↓gf_88_1, ↓pf_88_1, ↓gf_88_2, ↓pf_88_2, ↓gf_88_3, ↓pf_88_3, ↓gf_88_4, ↓pf_88_4, ↓gf_88_5, ↓pf_88_5, ↓gf_41_0, ↓pf_41_0, ↓gf_41_1, ↓pf_41_1, ↓gf_41_2, ↓gf_41_3, ↓pf_41_3, ↓gf_41_4, ↓gf_41_5, ↓gf_41_6, ↓gf_41_7, ↓gf_41_8, ↓pf_41_8, ↓gf_41_9, ↓pf_41_9, ↓gf_41_10, ↓gf_41_11, ↓ho_41, ↓gi_42, ↓pi_42, ↓gi_43, ↓pi_43, ↓gi_44, ↓pi_44, ↓gi_45, ↓pi_45, ↓gi_46, ↓pi_46, ↓gi_47, ↓pi_47, ↓gi_48, ↓pi_48, ↓gi_51, ↓pi_51, ↓gi_52, ↓pi_52, ↓gi_53, ↓pi_53, ↓gi_89, ↓pi_89, ↓gi_1, ↓gn_1, ↓gr_55, ↓pr_55, h0, h3, io_ne0 (show 0 < r by omega) (show r < 2147483648 by omega), show (Int32.ofNat b < 1) = False from le_lit (a := 1) (by omega) (by omega) h4, show ((4 : Int32) < Int32.ofNat b) = False from le_lit (b := 4) (by omega) (by omega) h5]
end ZT
