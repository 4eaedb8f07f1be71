/-! changes of the row -/
theorem upd_at {f : Nat → Int32} {i : Nat} {x : Int32} : upd f i x i = x := if_pos rfl
theorem upd_no {f : Nat → Int32} {i j : Nat} {x : Int32} (h : j ≠ i) : upd f i x j = f j := if_neg h
theorem u2_at {A : Nat → Nat → Int32} {a i : Nat} {x : Int32} : u2 A a i x a = upd (A a) i x := by
  funext j
  unfold u2 upd
  by_cases h : j = i
  · rw [if_pos ⟨rfl, h⟩, if_pos h]
  · rw [if_neg (fun e => h e.2), if_neg h]
theorem u2_u2 {A : Nat → Nat → Int32} {a i : Nat} {x y : Int32} : u2 (u2 A a i x) a i y = u2 A a i y := by
  funext b j
  unfold u2
  by_cases h : b = a ∧ j = i
  · rw [if_pos h, if_pos h]
  · rw [if_neg h, if_neg h, if_neg h]
theorem u2_id {A : Nat → Nat → Int32} {a i : Nat} {x : Int32} (h : A a i = x) : u2 A a i x = A := by
  funext b j
  unfold u2
  by_cases e : b = a ∧ j = i
  · rw [if_pos e, e.1, e.2, h]
  · rw [if_neg e]
/-- the head of the row -/
theorem hd_eq {g g' : Nat → Int32} (h : ∀ j, j < 7 → g' j = g j) : chn g' = chn g ∧ dpn g' = dpn g ∧ rln g' 0 = rln g 0 ∧ rln g' 1 = rln g 1 ∧ rln g' 2 = rln g 2 ∧ kn g' = kn g ∧ dn g' = dn g := by
  unfold chn dpn rln kn dn
  rw [h 0 (by omega), h 1 (by omega), h 5 (by omega), h 6 (by omega), h (2 + 0) (by omega), h (2 + 1) (by omega), h (2 + 2) (by omega)]
  exact ⟨rfl, rfl, rfl, rfl, rfl, rfl, rfl⟩
theorem wf_mk {g : Nat → Int32} {ch dp a b e n m : Nat} (h0 : g 0 = Int32.ofNat ch ∧ 2 ≤ ch ∧ ch ≤ 4) (h1 : g 1 = Int32.ofNat dp ∧ 2 ≤ dp ∧ dp ≤ 6) (h2 : g 2 = Int32.ofNat a ∧ a ≤ 5) (h3 : g 3 = Int32.ofNat b ∧ 1 ≤ b ∧ b ≤ 4) (h4 : g 4 = Int32.ofNat e ∧ 1 ≤ e ∧ e ≤ 4) (h5 : g 5 = Int32.ofNat n ∧ n ≤ 16) (h6 : g 6 = Int32.ofNat m ∧ m ≤ 12) (hc : ∀ k, k < n → ∃ x, g (7 + k) = Int32.ofNat x ∧ icd ch dp x = true) (hm : ∀ k, k < n → g (23 + k) = -1 ∨ ∃ j, j < k ∧ g (23 + k) = Int32.ofNat j) (hl : ∀ k, k < n → g (39 + k) = 0 ∨ g (39 + k) = 1) (ho : ∀ d, d < m → ∃ o, g (55 + d) = Int32.ofNat o ∧ o < n) (hp : ∀ d, d < 12 → ∀ c, c < ch → ∀ q, 6 ≤ q → tb (g (67 + 4 * d + c)) q = false) : Wf g := by
  have e0 : chn g = ch := by unfold chn; rw [h0.1, io_ix (by omega)]
  have e1 : dpn g = dp := by unfold dpn; rw [h1.1, io_ix (by omega)]
  have e2 : rln g 0 = a := by unfold rln; rw [show 2 + 0 = 2 from rfl, h2.1, io_ix (by omega)]
  have e3 : rln g 1 = b := by unfold rln; rw [show 2 + 1 = 3 from rfl, h3.1, io_ix (by omega)]
  have e4 : rln g 2 = e := by unfold rln; rw [show 2 + 2 = 4 from rfl, h4.1, io_ix (by omega)]
  have e5 : kn g = n := by unfold kn; rw [h5.1, io_ix (by omega)]
  have e6 : dn g = m := by unfold dn; rw [h6.1, io_ix (by omega)]
  unfold Wf
  rw [e0, e1, e2, e3, e4, e5, e6]
  refine ⟨h0, h1, h2, h3, h4, h5, h6, fun k hk => ?_, hm, hl, fun d hd => ?_, hp⟩
  · obtain ⟨x, hx, hi⟩ := hc k hk
    have := icd_lt h0.2.2 hi
    have e : cd g k = x := by unfold cd; rw [hx, io_ix (by omega)]
    rw [e]
    exact ⟨hx, hi⟩
  · obtain ⟨o, hx, hi⟩ := ho d hd
    have e : ow g d = o := by unfold ow; rw [hx, io_ix (by omega)]
    rw [e]
    exact ⟨hx, hi⟩
theorem abv_cg {g g' : Nat → Int32} (hw : Wf g) (h : ∀ k, k < kn g → g' (23 + k) = g (23 + k)) {j : Nat} : ∀ k, k < kn g → abv g' k j = abv g k j := by
  have key : ∀ f k, k < kn g → abw g' f k j = abw g f k j := by
    intro f
    induction f with
    | zero => intro k _; rfl
    | succ f ih =>
      intro k hk
      show (if g' (23 + k) = -1 then false else (decide (j = (g' (23 + k)).toNatClampNeg) || abw g' f (g' (23 + k)).toNatClampNeg j)) = if g (23 + k) = -1 then false else (decide (j = (g (23 + k)).toNatClampNeg) || abw g f (g (23 + k)).toNatClampNeg j)
      rw [h k hk]
      rcases wf_ma hw k hk with e | ⟨i, hi, e⟩
      · rw [if_pos e, if_pos e]
      · have := wf_n16 hw
        rw [e, io_ix (by omega), ih i (by omega)]
  exact fun k hk => key k k hk
/-- what is seen of the row -/
theorem cd_of {g : Nat → Int32} {k x : Nat} (h : g (7 + k) = Int32.ofNat x) (hx : x < 2147483648) : cd g k = x := by
  unfold cd; rw [h, io_ix hx]
section UP
variable {g : Nat → Int32} {a b d k : Nat} {v : Int32}
theorem up_hd {i : Nat} (hi : 7 ≤ i) : chn (upd g i v) = chn g ∧ dpn (upd g i v) = dpn g ∧ rln (upd g i v) 0 = rln g 0 ∧ rln (upd g i v) 1 = rln g 1 ∧ rln (upd g i v) 2 = rln g 2 ∧ kn (upd g i v) = kn g ∧ dn (upd g i v) = dn g :=
  hd_eq fun j hj => upd_no (by omega)
theorem wf_cut (hw : Wf g) (ha : a < kn g) (hi : icd (chn g) (dpn g) b = true) : Wf (upd g (7 + a) (Int32.ofNat b)) := by
  have n16 := wf_n16 hw
  have m12 := wf_m12 hw
  have c4 := wf_c4 hw
  refine wf_mk (ch := chn g) (dp := dpn g) (a := rln g 0) (b := rln g 1) (e := rln g 2) (n := kn g) (m := dn g) ?_ ?_ ?_ ?_ ?_ ?_ ?_ (fun k hk => ?_) (fun k hk => ?_) (fun k hk => ?_) (fun d hd => ?_) (fun d hd c hc => ?_)
  · rw [upd_no (by omega)]; exact hw.1
  · rw [upd_no (by omega)]; exact hw.2.1
  · rw [upd_no (by omega)]; exact hw.2.2.1
  · rw [upd_no (by omega)]; exact hw.2.2.2.1
  · rw [upd_no (by omega)]; exact hw.2.2.2.2.1
  · rw [upd_no (by omega)]; exact hw.2.2.2.2.2.1
  · rw [upd_no (by omega)]; exact hw.2.2.2.2.2.2.1
  · by_cases e : k = a
    · subst e; exact ⟨b, upd_at, hi⟩
    · rw [upd_no (by omega)]; exact ⟨cd g k, wf_cd hw k hk, wf_ic hw k hk⟩
  · rw [upd_no (by omega)]; exact wf_ma hw k hk
  · rw [upd_no (by omega)]; exact wf_l hw k hk
  · rw [upd_no (by omega)]; exact ⟨ow g d, wf_ow hw d hd, wf_own hw d hd⟩
  · rw [upd_no (by omega)]; exact wf_q hw d hd c hc
theorem wf_los (hw : Wf g) (ha : a < kn g) (hv : v = 0 ∨ v = 1) : Wf (upd g (39 + a) v) := by
  have n16 := wf_n16 hw
  have m12 := wf_m12 hw
  have c4 := wf_c4 hw
  refine wf_mk (ch := chn g) (dp := dpn g) (a := rln g 0) (b := rln g 1) (e := rln g 2) (n := kn g) (m := dn g) ?_ ?_ ?_ ?_ ?_ ?_ ?_ (fun k hk => ?_) (fun k hk => ?_) (fun k hk => ?_) (fun d hd => ?_) (fun d hd c hc => ?_)
  · rw [upd_no (by omega)]; exact hw.1
  · rw [upd_no (by omega)]; exact hw.2.1
  · rw [upd_no (by omega)]; exact hw.2.2.1
  · rw [upd_no (by omega)]; exact hw.2.2.2.1
  · rw [upd_no (by omega)]; exact hw.2.2.2.2.1
  · rw [upd_no (by omega)]; exact hw.2.2.2.2.2.1
  · rw [upd_no (by omega)]; exact hw.2.2.2.2.2.2.1
  · rw [upd_no (by omega)]; exact ⟨cd g k, wf_cd hw k hk, wf_ic hw k hk⟩
  · rw [upd_no (by omega)]; exact wf_ma hw k hk
  · by_cases e : k = a
    · subst e; rw [upd_at]; exact hv
    · rw [upd_no (by omega)]; exact wf_l hw k hk
  · rw [upd_no (by omega)]; exact ⟨ow g d, wf_ow hw d hd, wf_own hw d hd⟩
  · rw [upd_no (by omega)]; exact wf_q hw d hd c hc
theorem cut_cd (hw : Wf g) (ha : a < kn g) (hb : b < 2147483648) (hk : k < kn g) : cd (upd g (7 + a) (Int32.ofNat b)) k = if k = a then b else cd g k := by
  by_cases e : k = a
  · subst e; rw [if_pos rfl]; exact cd_of upd_at hb
  · rw [if_neg e]; unfold cd; rw [upd_no (by omega)]
theorem cut_lin (hw : Wf g) (ha : a < kn g) (hd : d < dn g) (j : Nat) : lin (upd g (7 + a) v) d j = lin g d j := by
  have n16 := wf_n16 hw
  have eo : ow (upd g (7 + a) v) d = ow g d := by unfold ow; rw [upd_no (by omega)]
  unfold lin
  rw [eo, abv_cg hw (fun k hk => upd_no (by omega)) _ (wf_own hw d hd)]
theorem cut_lsb (hw : Wf g) (ha : a < kn g) (j : Nat) : lsb (upd g (7 + a) v) j = lsb g j := by
  have n16 := wf_n16 hw
  unfold lsb
  rw [(up_hd (by omega)).2.2.2.2.2.1]
  by_cases h : j < kn g
  · rw [upd_no (by omega)]
  · rw [decide_eq_false h]; rfl
theorem cut_pn (hw : Wf g) (ha : a < kn g) (i : Nat) : pn24 (upd g (7 + a) v) d i = pn24 g d i := by
  have n16 := wf_n16 hw
  unfold pn24 pnb
  rw [(up_hd (by omega)).1, upd_no (by omega)]
theorem los_cd (hw : Wf g) (ha : a < kn g) (hk : k < kn g) : cd (upd g (39 + a) v) k = cd g k := by
  have n16 := wf_n16 hw
  unfold cd; rw [upd_no (by omega)]
theorem los_lin (hw : Wf g) (ha : a < kn g) (hd : d < dn g) (j : Nat) : lin (upd g (39 + a) v) d j = lin g d j := by
  have n16 := wf_n16 hw
  have m12 := wf_m12 hw
  have eo : ow (upd g (39 + a) v) d = ow g d := by unfold ow; rw [upd_no (by omega)]
  unfold lin
  rw [eo, abv_cg hw (fun k hk => upd_no (by omega)) _ (wf_own hw d hd)]
theorem los_lsb (hw : Wf g) (ha : a < kn g) (j : Nat) : lsb (upd g (39 + a) v) j = if j = a then decide (v = 1) else lsb g j := by
  have n16 := wf_n16 hw
  unfold lsb
  rw [(up_hd (by omega)).2.2.2.2.2.1]
  by_cases h : j = a
  · subst h; rw [if_pos rfl, upd_at, decide_eq_true ha]; rfl
  · rw [if_neg h, upd_no (by omega)]
theorem los_pn (hw : Wf g) (ha : a < kn g) (i : Nat) : pn24 (upd g (39 + a) v) d i = pn24 g d i := by
  have n16 := wf_n16 hw
  unfold pn24 pnb
  rw [(up_hd (by omega)).1, upd_no (by omega)]
end UP
section ZT
variable {G : zG} {c : Nat × Nat × Bool} {F A : Nat → Nat → Int32} {P : Nat → Nat} {W : Value} {O : Nat → Int64} {x y j k d e u v : Int32} {p q a b i n m t w : Nat} {g : Nat → Int32}
theorem rsx_ok {key : Int32} (h : rsx g key x = 0) : ∃ b, b < 2147483648 ∧ x = Int32.ofNat b ∧ wrg g b = 0 ∧ icd (chn g) (dpn g) b = true := by
  by_cases hx : x < 0
  · rw [rsx_n hx] at h; cases h
  · obtain ⟨b, hb, rfl⟩ := io_of hx
    rw [rsx_p hb] at h
    exact ⟨b, hb, rfl, rsn_wrg h, wrg_icd (rsn_wrg h)⟩
theorem t82 (hw : Wf g) (hR : Rp F A 41 g) (ha : a < kn g) : Rv 82 0 [some (.ref 41), some (.int (Int32.ofNat a)), some (.int x)] [] (en G c F A P W O) = some (.inl (some (.int (if rsx g (Int32.ofNat a) x = 0 then Int32.ofNat (acg (upd g (7 + a) x)) else -1))), (en G c F A P W O)) := by
  have n16 := wf_n16 hw
  have m12 := wf_m12 hw
  simp only [↓e82_0, ↓e82_1, ↓e82_2, ↓e82_3, ↓e82_6, ↓e82_9, ↓e82_10, ↓e82_11, ↓e82_12, ↓e82_13, ↓e82_16, ↓e82_17, ↓e82_18, ↓e82_19, ↓e82_22, ↓e82_25, ↓e82_28, ↓ldI_0, ↓ldI_s, ↓ldA_0, ↓ldA_n, ↓ldA_s, ↓ldL_0, ↓ldL_s, ↓lst_0, ↓lst_s, ↓cal_v, ↓cal_x, ↓vts_s, ↓vts_n, ↓lpr_0, ↓lpr_i, ↓lpr_r, ↓lpr_n, ↓lpr_s, PA_41, ↓reduceIte, or_true, true_or, ↓ho_40, ↓gf_40_0, ↓gf_40_1, ↓gf_40_2, ↓gf_40_3, ↓ho_49, ↓gf_49_0, ↓gf_49_1, ↓gf_49_2, ↓gf_49_3, ↓pf_49_3, ↓ho_50, ↓gf_50_0, ↓gf_50_1, ↓gf_50_2, ↓pf_50_2, ↓gf_50_3, ↓pf_50_3, ↓gf_50_4, ↓pf_50_4, ↓gf_50_5, ↓pf_50_5, ↓gf_50_6, ↓pf_50_6, ↓ho_54, ↓gf_54_0, ↓gf_54_1, ↓pf_54_1, ↓ho_88, ↓gf_88_0, ↓gf_88_1, ↓pf_88_1, ↓gf_88_2, ↓pf_88_2, ↓gf_88_3, ↓pf_88_3, ↓gf_88_4, ↓pf_88_4, ↓gf_88_5, ↓pf_88_5, ↓ho_90, ↓gf_90_0, ↓gf_90_1, ↓gf_90_2, ↓pf_90_2, ↓gf_90_3, ↓pf_90_3, ↓gf_90_4, ↓gf_90_5, ↓gf_90_6, ↓pf_90_6, ↓gf_90_7, ↓pf_90_7, ↓gf_90_8, ↓pf_90_8, ↓gf_90_9, ↓pf_90_9, ↓gf_90_10, ↓pf_90_10, ↓gf_90_11, ↓gf_41_0, ↓pf_41_0, ↓gf_41_1, ↓pf_41_1, ↓gf_41_2, ↓gf_41_3, ↓pf_41_3, ↓gf_41_4, ↓gf_41_5, ↓gf_41_6, ↓gf_41_7, ↓gf_41_8, ↓pf_41_8, ↓gf_41_9, ↓pf_41_9, ↓gf_41_10, ↓gf_41_11, ↓ho_41, ↓gi_42, ↓pi_42, ↓gi_43, ↓pi_43, ↓gi_44, ↓pi_44, ↓gi_45, ↓pi_45, ↓gi_46, ↓pi_46, ↓gi_47, ↓pi_47, ↓gi_48, ↓pi_48, ↓gi_51, ↓pi_51, ↓gi_52, ↓pi_52, ↓gi_53, ↓pi_53, ↓gi_91, ↓pi_91, ↓gi_92, ↓pi_92, ↓gi_93, ↓pi_93, ↓gi_95, ↓pi_95, ↓gi_89, ↓pi_89, ↓gi_94, ↓pi_94, ↓gi_1, ↓gi_3, ↓gn_1, ↓gn_2, ↓gr_2, ↓gr_55, ↓pr_55, ↓gl_96, ↓pl_96, ↓gf_w0, ↓gf_w1, ↓gw_w, ↓gf_s0, ↓gf_s1, ↓ho_s, ↓gn_b, ↓gi_b, t61 hw hR, rsx_0]
  by_cases h : rsx g (Int32.ofNat a) x = 0
  · obtain ⟨b, hb, rfl, hwr, hi⟩ := rsx_ok h
    have hh := up_hd (g := g) (i := 7 + a) (v := Int32.ofNat b) (by omega)
    have hz := chz_io (A := A) (x := F 41 8) (y := Int32.ofNat a) (u := bits (ctb (chn g) b) 24) (wf_cut hw ha hi) (fun k hk => by
      rw [hh.2.2.2.2.2.1] at hk
      rw [hh.1, cut_cd hw ha hb hk]
      by_cases e : k = a
      · subst e; rw [if_pos rfl, if_pos rfl]
      · rw [if_neg (fun h => e (by rw [io_eq (by omega) (by omega)] at h; exact h)), if_neg e, rp_ct hR hk]) (fun d hd => by
      rw [hh.2.2.2.2.2.2] at hd
      rw [lin_bits hR hw hd]
      exact bits_cong fun j _ => (cut_lin hw ha hd j).symm) (by
      rw [rp_l hR]
      exact bits_cong fun j _ => (cut_lsb hw ha j).symm) (fun d hd => by
      rw [hh.2.2.2.2.2.2] at hd
      rw [rp_p hR hd]
      exact bits_cong fun j _ => (cut_pn hw ha j).symm)
    rw [hh.2.2.2.2.2.1, hh.2.2.2.2.2.2] at hz
    simp only [h, if_true, ↓e82_0, ↓e82_1, ↓e82_2, ↓e82_3, ↓e82_6, ↓e82_9, ↓e82_10, ↓e82_11, ↓e82_12, ↓e82_13, ↓e82_16, ↓e82_17, ↓e82_18, ↓e82_19, ↓e82_22, ↓e82_25, ↓e82_28, ↓ldI_0, ↓ldI_s, ↓ldA_0, ↓ldA_n, ↓ldA_s, ↓ldL_0, ↓ldL_s, ↓lst_0, ↓lst_s, ↓cal_v, ↓cal_x, ↓vts_s, ↓vts_n, ↓lpr_0, ↓lpr_i, ↓lpr_r, ↓lpr_n, ↓lpr_s, PA_41, ↓reduceIte, or_true, true_or, ↓ho_40, ↓gf_40_0, ↓gf_40_1, ↓gf_40_2, ↓gf_40_3, ↓ho_49, ↓gf_49_0, ↓gf_49_1, ↓gf_49_2, ↓gf_49_3, ↓pf_49_3, ↓ho_50, ↓gf_50_0, ↓gf_50_1, ↓gf_50_2, ↓pf_50_2, ↓gf_50_3, ↓pf_50_3, ↓gf_50_4, ↓pf_50_4, ↓gf_50_5, ↓pf_50_5, ↓gf_50_6, ↓pf_50_6, ↓ho_54, ↓gf_54_0, ↓gf_54_1, ↓pf_54_1, ↓ho_88, ↓gf_88_0, ↓gf_88_1, ↓pf_88_1, ↓gf_88_2, ↓pf_88_2, ↓gf_88_3, ↓pf_88_3, ↓gf_88_4, ↓pf_88_4, ↓gf_88_5, ↓pf_88_5, ↓ho_90, ↓gf_90_0, ↓gf_90_1, ↓gf_90_2, ↓pf_90_2, ↓gf_90_3, ↓pf_90_3, ↓gf_90_4, ↓gf_90_5, ↓gf_90_6, ↓pf_90_6, ↓gf_90_7, ↓pf_90_7, ↓gf_90_8, ↓pf_90_8, ↓gf_90_9, ↓pf_90_9, ↓gf_90_10, ↓pf_90_10, ↓gf_90_11, ↓gf_41_0, ↓pf_41_0, ↓gf_41_1, ↓pf_41_1, ↓gf_41_2, ↓gf_41_3, ↓pf_41_3, ↓gf_41_4, ↓gf_41_5, ↓gf_41_6, ↓gf_41_7, ↓gf_41_8, ↓pf_41_8, ↓gf_41_9, ↓pf_41_9, ↓gf_41_10, ↓gf_41_11, ↓ho_41, ↓gi_42, ↓pi_42, ↓gi_43, ↓pi_43, ↓gi_44, ↓pi_44, ↓gi_45, ↓pi_45, ↓gi_46, ↓pi_46, ↓gi_47, ↓pi_47, ↓gi_48, ↓pi_48, ↓gi_51, ↓pi_51, ↓gi_52, ↓pi_52, ↓gi_53, ↓pi_53, ↓gi_91, ↓pi_91, ↓gi_92, ↓pi_92, ↓gi_93, ↓pi_93, ↓gi_95, ↓pi_95, ↓gi_89, ↓pi_89, ↓gi_94, ↓pi_94, ↓gi_1, ↓gi_3, ↓gn_1, ↓gn_2, ↓gr_2, ↓gr_55, ↓pr_55, ↓gl_96, ↓pl_96, ↓gf_w0, ↓gf_w1, ↓gw_w, ↓gf_s0, ↓gf_s1, ↓ho_s, ↓gn_b, ↓gi_b, rp_c hR hw, t16 hw hi, s80 (rp_n hR hw) n16 (rp_m hR hw) m12 (rp_oz hR hw), hz]
  · simp only [h, if_false, ↓e82_0, ↓e82_1, ↓e82_2, ↓e82_3, ↓e82_6, ↓e82_9, ↓e82_10, ↓e82_11, ↓e82_12, ↓e82_13, ↓e82_16, ↓e82_17, ↓e82_18, ↓e82_19, ↓e82_22, ↓e82_25, ↓e82_28, ↓ldI_0, ↓ldI_s, ↓ldA_0, ↓ldA_n, ↓ldA_s, ↓ldL_0, ↓ldL_s, ↓lst_0, ↓lst_s, ↓cal_v, ↓cal_x, ↓vts_s, ↓vts_n, ↓lpr_0, ↓lpr_i, ↓lpr_r, ↓lpr_n, ↓lpr_s, PA_41, ↓reduceIte, or_true, true_or, ↓ho_40, ↓gf_40_0, ↓gf_40_1, ↓gf_40_2, ↓gf_40_3, ↓ho_49, ↓gf_49_0, ↓gf_49_1, ↓gf_49_2, ↓gf_49_3, ↓pf_49_3, ↓ho_50, ↓gf_50_0, ↓gf_50_1, ↓gf_50_2, ↓pf_50_2, ↓gf_50_3, ↓pf_50_3, ↓gf_50_4, ↓pf_50_4, ↓gf_50_5, ↓pf_50_5, ↓gf_50_6, ↓pf_50_6, ↓ho_54, ↓gf_54_0, ↓gf_54_1, ↓pf_54_1, ↓ho_88, ↓gf_88_0, ↓gf_88_1, ↓pf_88_1, ↓gf_88_2, ↓pf_88_2, ↓gf_88_3, ↓pf_88_3, ↓gf_88_4, ↓pf_88_4, ↓gf_88_5, ↓pf_88_5, ↓ho_90, ↓gf_90_0, ↓gf_90_1, ↓gf_90_2, ↓pf_90_2, ↓gf_90_3, ↓pf_90_3, ↓gf_90_4, ↓gf_90_5, ↓gf_90_6, ↓pf_90_6, ↓gf_90_7, ↓pf_90_7, ↓gf_90_8, ↓pf_90_8, ↓gf_90_9, ↓pf_90_9, ↓gf_90_10, ↓pf_90_10, ↓gf_90_11, ↓gf_41_0, ↓pf_41_0, ↓gf_41_1, ↓pf_41_1, ↓gf_41_2, ↓gf_41_3, ↓pf_41_3, ↓gf_41_4, ↓gf_41_5, ↓gf_41_6, ↓gf_41_7, ↓gf_41_8, ↓pf_41_8, ↓gf_41_9, ↓pf_41_9, ↓gf_41_10, ↓gf_41_11, ↓ho_41, ↓gi_42, ↓pi_42, ↓gi_43, ↓pi_43, ↓gi_44, ↓pi_44, ↓gi_45, ↓pi_45, ↓gi_46, ↓pi_46, ↓gi_47, ↓pi_47, ↓gi_48, ↓pi_48, ↓gi_51, ↓pi_51, ↓gi_52, ↓pi_52, ↓gi_53, ↓pi_53, ↓gi_91, ↓pi_91, ↓gi_92, ↓pi_92, ↓gi_93, ↓pi_93, ↓gi_95, ↓pi_95, ↓gi_89, ↓pi_89, ↓gi_94, ↓pi_94, ↓gi_1, ↓gi_3, ↓gn_1, ↓gn_2, ↓gr_2, ↓gr_55, ↓pr_55, ↓gl_96, ↓pl_96, ↓gf_w0, ↓gf_w1, ↓gw_w, ↓gf_s0, ↓gf_s1, ↓ho_s, ↓gn_b, ↓gi_b]
theorem t81 (hw : Wf g) (hR : Rp F A 41 g) (ha : a < kn g) : Rv 81 0 [some (.ref 41), some (.int (Int32.ofNat a))] [] (en G c F A P W O) = some (.inl (some (.int (Int32.ofNat (acg (upd g (39 + a) (1 - g (39 + a))))))), (en G c F A P W O)) := by
  have n16 := wf_n16 hw
  have m12 := wf_m12 hw
  have hv : (1 - g (39 + a) = 0 ∨ 1 - g (39 + a) = 1) := by
    rcases wf_l hw a ha with h | h
    · rw [h]; exact Or.inr rfl
    · rw [h]; exact Or.inl rfl
  have hh := up_hd (g := g) (i := 39 + a) (v := 1 - g (39 + a)) (by omega)
  have hz := chz_io (A := A) (x := F 41 8 ^^^ 1 <<< (Int32.ofNat a &&& 31)) (y := -1) (u := 0) (wf_los hw ha hv) (fun k hk => by
      rw [hh.2.2.2.2.2.1] at hk
      rw [hh.1, los_cd hw ha hk]
      exact rp_K hR hw k hk) (fun d hd => by
      rw [hh.2.2.2.2.2.2] at hd
      rw [lin_bits hR hw hd]
      exact bits_cong fun j _ => (los_lin hw ha hd j).symm) (by
      rw [rp_l hR, bits_one (show a < 16 by omega) (by omega), bits_xor _ _ (by omega)]
      refine bits_cong fun j _ => ?_
      rw [los_lsb hw ha j]
      by_cases e : j = a
      · subst e
        rw [if_pos rfl, decide_eq_true rfl]
        unfold lsb
        rw [decide_eq_true ha]
        rcases wf_l hw j ha with h | h
        · rw [h]; decide
        · rw [h]; decide
      · rw [if_neg e, decide_eq_false e]; simp) (fun d hd => by
      rw [hh.2.2.2.2.2.2] at hd
      rw [rp_p hR hd]
      exact bits_cong fun j _ => (los_pn hw ha j).symm)
  rw [hh.2.2.2.2.2.1, hh.2.2.2.2.2.2] at hz
  rw [s81 (rp_n hR hw) n16 (rp_m hR hw) m12 (rp_oz hR hw), hz]
/-- the reference's -/
theorem s153x (hw : Wf (A 91)) : Rv 153 0 [some (.ref 90), some (.int k), some (.int x), none, none] [] (en G c F A P W O) = some (.inl (some (.int (Int32.ofNat (rsx (A 91) k x)))), (en G c F A P W O)) := by
  by_cases hx : x < 0
  · rw [rsx_n hx]; exact s153n hw hx
  · obtain ⟨b, hb, rfl⟩ := io_of hx
    rw [rsx_p hb]; exact s153 hw hb
theorem s215 (hw : Wf (A 91)) (ha : a < kn (A 91)) : Rv 215 0 [some (.ref 90), some (.int (Int32.ofNat a)), some (.int x), none, none] [] (en G c F A P W O) = some (.inl (some (.int (if rsx (A 91) (Int32.ofNat a) x = 0 then Int32.ofNat (acg (upd (A 91) (7 + a) x)) else -1))), en G c (u2 F 90 3 0) A P W O) := by
  have c0 := wf_c hw; have c2 := wf_c2 hw; have c4 := wf_c4 hw; have d0 := wf_d hw; have d2 := wf_d2 hw; have d6 := wf_d6 hw; have n0 := wf_n hw; have n16 := wf_n16 hw; have m0 := wf_m hw; have m12 := wf_m12 hw
  simp only [↓e215_0, ↓e215_1, ↓e215_2, ↓e215_3, ↓e215_6, ↓e215_7, ↓e215_8, ↓e215_11, ↓e215_14, ↓e215_15, ↓e215_16, ↓e215_17, ↓e215_18, ↓e215_19, ↓e215_22, ↓e215_25, ↓e215_26, ↓e215_27, ↓e215_28, ↓e215_31, ↓e215_33, ↓e215_34, ↓e215_35, ↓e215_36, ↓e215_37, ↓e215_38, ↓e215_41, ↓e215_43, ↓e215_44, ↓e215_45, ↓e215_46, ↓e215_47, ↓e215_48, ↓e215_51, ↓e215_53, ↓e215_54, ↓e215_57, ↓e215_59, ↓e215_60, ↓e215_61, ↓e215_62, ↓e215_63, ↓e215_65, ↓ldI_0, ↓ldI_s, ↓ldA_0, ↓ldA_n, ↓ldA_s, ↓ldL_0, ↓ldL_s, ↓lst_0, ↓lst_s, ↓cal_v, ↓cal_x, ↓vts_s, ↓vts_n, ↓lpr_0, ↓lpr_i, ↓lpr_r, ↓lpr_n, ↓lpr_s, PA_41, ↓reduceIte, or_true, true_or, ↓ho_40, ↓gf_40_0, ↓gf_40_1, ↓gf_40_2, ↓gf_40_3, ↓ho_49, ↓gf_49_0, ↓gf_49_1, ↓gf_49_2, ↓gf_49_3, ↓pf_49_3, ↓ho_50, ↓gf_50_0, ↓gf_50_1, ↓gf_50_2, ↓pf_50_2, ↓gf_50_3, ↓pf_50_3, ↓gf_50_4, ↓pf_50_4, ↓gf_50_5, ↓pf_50_5, ↓gf_50_6, ↓pf_50_6, ↓ho_54, ↓gf_54_0, ↓gf_54_1, ↓pf_54_1, ↓ho_88, ↓gf_88_0, ↓gf_88_1, ↓pf_88_1, ↓gf_88_2, ↓pf_88_2, ↓gf_88_3, ↓pf_88_3, ↓gf_88_4, ↓pf_88_4, ↓gf_88_5, ↓pf_88_5, ↓ho_90, ↓gf_90_0, ↓gf_90_1, ↓gf_90_2, ↓pf_90_2, ↓gf_90_3, ↓pf_90_3, ↓gf_90_4, ↓gf_90_5, ↓gf_90_6, ↓pf_90_6, ↓gf_90_7, ↓pf_90_7, ↓gf_90_8, ↓pf_90_8, ↓gf_90_9, ↓pf_90_9, ↓gf_90_10, ↓pf_90_10, ↓gf_90_11, ↓gf_41_0, ↓pf_41_0, ↓gf_41_1, ↓pf_41_1, ↓gf_41_2, ↓gf_41_3, ↓pf_41_3, ↓gf_41_4, ↓gf_41_5, ↓gf_41_6, ↓gf_41_7, ↓gf_41_8, ↓pf_41_8, ↓gf_41_9, ↓pf_41_9, ↓gf_41_10, ↓gf_41_11, ↓ho_41, ↓gi_42, ↓pi_42, ↓gi_43, ↓pi_43, ↓gi_44, ↓pi_44, ↓gi_45, ↓pi_45, ↓gi_46, ↓pi_46, ↓gi_47, ↓pi_47, ↓gi_48, ↓pi_48, ↓gi_51, ↓pi_51, ↓gi_52, ↓pi_52, ↓gi_53, ↓pi_53, ↓gi_91, ↓pi_91, ↓gi_92, ↓pi_92, ↓gi_93, ↓pi_93, ↓gi_95, ↓pi_95, ↓gi_89, ↓pi_89, ↓gi_94, ↓pi_94, ↓gi_1, ↓gi_3, ↓gn_1, ↓gn_2, ↓gr_2, ↓gr_55, ↓pr_55, ↓gl_96, ↓pl_96, ↓gf_w0, ↓gf_w1, ↓gw_w, ↓gf_s0, ↓gf_s1, ↓ho_s, ↓gn_b, ↓gi_b, s144y hw ha, s142, one_ne, false_or, if_false, s153x hw, rsx_0]
  by_cases h : rsx (A 91) (Int32.ofNat a) x = 0
  · obtain ⟨b, hb, rfl, hwr, hi⟩ := rsx_ok h
    have h1 : u2 A 91 (7 + a) (Int32.ofNat b) 91 = upd (A 91) (7 + a) (Int32.ofNat b) := u2_at
    have h2 := s162 (G := G) (c := c) (F := u2 F 90 3 0) (A := u2 A 91 (7 + a) (Int32.ofNat b)) (P := P) (W := W) (O := O) (by rw [h1]; exact wf_cut hw ha hi)
    rw [h1] at h2
    simp only [h, if_true, ↓e215_0, ↓e215_1, ↓e215_2, ↓e215_3, ↓e215_6, ↓e215_7, ↓e215_8, ↓e215_11, ↓e215_14, ↓e215_15, ↓e215_16, ↓e215_17, ↓e215_18, ↓e215_19, ↓e215_22, ↓e215_25, ↓e215_26, ↓e215_27, ↓e215_28, ↓e215_31, ↓e215_33, ↓e215_34, ↓e215_35, ↓e215_36, ↓e215_37, ↓e215_38, ↓e215_41, ↓e215_43, ↓e215_44, ↓e215_45, ↓e215_46, ↓e215_47, ↓e215_48, ↓e215_51, ↓e215_53, ↓e215_54, ↓e215_57, ↓e215_59, ↓e215_60, ↓e215_61, ↓e215_62, ↓e215_63, ↓e215_65, ↓ldI_0, ↓ldI_s, ↓ldA_0, ↓ldA_n, ↓ldA_s, ↓ldL_0, ↓ldL_s, ↓lst_0, ↓lst_s, ↓cal_v, ↓cal_x, ↓vts_s, ↓vts_n, ↓lpr_0, ↓lpr_i, ↓lpr_r, ↓lpr_n, ↓lpr_s, PA_41, ↓reduceIte, or_true, true_or, ↓ho_40, ↓gf_40_0, ↓gf_40_1, ↓gf_40_2, ↓gf_40_3, ↓ho_49, ↓gf_49_0, ↓gf_49_1, ↓gf_49_2, ↓gf_49_3, ↓pf_49_3, ↓ho_50, ↓gf_50_0, ↓gf_50_1, ↓gf_50_2, ↓pf_50_2, ↓gf_50_3, ↓pf_50_3, ↓gf_50_4, ↓pf_50_4, ↓gf_50_5, ↓pf_50_5, ↓gf_50_6, ↓pf_50_6, ↓ho_54, ↓gf_54_0, ↓gf_54_1, ↓pf_54_1, ↓ho_88, ↓gf_88_0, ↓gf_88_1, ↓pf_88_1, ↓gf_88_2, ↓pf_88_2, ↓gf_88_3, ↓pf_88_3, ↓gf_88_4, ↓pf_88_4, ↓gf_88_5, ↓pf_88_5, ↓ho_90, ↓gf_90_0, ↓gf_90_1, ↓gf_90_2, ↓pf_90_2, ↓gf_90_3, ↓pf_90_3, ↓gf_90_4, ↓gf_90_5, ↓gf_90_6, ↓pf_90_6, ↓gf_90_7, ↓pf_90_7, ↓gf_90_8, ↓pf_90_8, ↓gf_90_9, ↓pf_90_9, ↓gf_90_10, ↓pf_90_10, ↓gf_90_11, ↓gf_41_0, ↓pf_41_0, ↓gf_41_1, ↓pf_41_1, ↓gf_41_2, ↓gf_41_3, ↓pf_41_3, ↓gf_41_4, ↓gf_41_5, ↓gf_41_6, ↓gf_41_7, ↓gf_41_8, ↓pf_41_8, ↓gf_41_9, ↓pf_41_9, ↓gf_41_10, ↓gf_41_11, ↓ho_41, ↓gi_42, ↓pi_42, ↓gi_43, ↓pi_43, ↓gi_44, ↓pi_44, ↓gi_45, ↓pi_45, ↓gi_46, ↓pi_46, ↓gi_47, ↓pi_47, ↓gi_48, ↓pi_48, ↓gi_51, ↓pi_51, ↓gi_52, ↓pi_52, ↓gi_53, ↓pi_53, ↓gi_91, ↓pi_91, ↓gi_92, ↓pi_92, ↓gi_93, ↓pi_93, ↓gi_95, ↓pi_95, ↓gi_89, ↓pi_89, ↓gi_94, ↓pi_94, ↓gi_1, ↓gi_3, ↓gn_1, ↓gn_2, ↓gr_2, ↓gr_55, ↓pr_55, ↓gl_96, ↓pl_96, ↓gf_w0, ↓gf_w1, ↓gw_w, ↓gf_s0, ↓gf_s1, ↓ho_s, ↓gn_b, ↓gi_b, io7, io23, io39, io55, io67, io4m, io_zin (show 7 + a < 2147483648 by omega) (show 7 + a < 115 by omega), io_ix (show 7 + a < 2147483648 by omega), h2, u2_u2, u2_id (A := A) (a := 91) (i := 7 + a) rfl]
  · simp only [h, if_false, ↓e215_0, ↓e215_1, ↓e215_2, ↓e215_3, ↓e215_6, ↓e215_7, ↓e215_8, ↓e215_11, ↓e215_14, ↓e215_15, ↓e215_16, ↓e215_17, ↓e215_18, ↓e215_19, ↓e215_22, ↓e215_25, ↓e215_26, ↓e215_27, ↓e215_28, ↓e215_31, ↓e215_33, ↓e215_34, ↓e215_35, ↓e215_36, ↓e215_37, ↓e215_38, ↓e215_41, ↓e215_43, ↓e215_44, ↓e215_45, ↓e215_46, ↓e215_47, ↓e215_48, ↓e215_51, ↓e215_53, ↓e215_54, ↓e215_57, ↓e215_59, ↓e215_60, ↓e215_61, ↓e215_62, ↓e215_63, ↓e215_65, ↓ldI_0, ↓ldI_s, ↓ldA_0, ↓ldA_n, ↓ldA_s, ↓ldL_0, ↓ldL_s, ↓lst_0, ↓lst_s, ↓cal_v, ↓cal_x, ↓vts_s, ↓vts_n, ↓lpr_0, ↓lpr_i, ↓lpr_r, ↓lpr_n, ↓lpr_s, PA_41, ↓reduceIte, or_true, true_or, ↓ho_40, ↓gf_40_0, ↓gf_40_1, ↓gf_40_2, ↓gf_40_3, ↓ho_49, ↓gf_49_0, ↓gf_49_1, ↓gf_49_2, ↓gf_49_3, ↓pf_49_3, ↓ho_50, ↓gf_50_0, ↓gf_50_1, ↓gf_50_2, ↓pf_50_2, ↓gf_50_3, ↓pf_50_3, ↓gf_50_4, ↓pf_50_4, ↓gf_50_5, ↓pf_50_5, ↓gf_50_6, ↓pf_50_6, ↓ho_54, ↓gf_54_0, ↓gf_54_1, ↓pf_54_1, ↓ho_88, ↓gf_88_0, ↓gf_88_1, ↓pf_88_1, ↓gf_88_2, ↓pf_88_2, ↓gf_88_3, ↓pf_88_3, ↓gf_88_4, ↓pf_88_4, ↓gf_88_5, ↓pf_88_5, ↓ho_90, ↓gf_90_0, ↓gf_90_1, ↓gf_90_2, ↓pf_90_2, ↓gf_90_3, ↓pf_90_3, ↓gf_90_4, ↓gf_90_5, ↓gf_90_6, ↓pf_90_6, ↓gf_90_7, ↓pf_90_7, ↓gf_90_8, ↓pf_90_8, ↓gf_90_9, ↓pf_90_9, ↓gf_90_10, ↓pf_90_10, ↓gf_90_11, ↓gf_41_0, ↓pf_41_0, ↓gf_41_1, ↓pf_41_1, ↓gf_41_2, ↓gf_41_3, ↓pf_41_3, ↓gf_41_4, ↓gf_41_5, ↓gf_41_6, ↓gf_41_7, ↓gf_41_8, ↓pf_41_8, ↓gf_41_9, ↓pf_41_9, ↓gf_41_10, ↓gf_41_11, ↓ho_41, ↓gi_42, ↓pi_42, ↓gi_43, ↓pi_43, ↓gi_44, ↓pi_44, ↓gi_45, ↓pi_45, ↓gi_46, ↓pi_46, ↓gi_47, ↓pi_47, ↓gi_48, ↓pi_48, ↓gi_51, ↓pi_51, ↓gi_52, ↓pi_52, ↓gi_53, ↓pi_53, ↓gi_91, ↓pi_91, ↓gi_92, ↓pi_92, ↓gi_93, ↓pi_93, ↓gi_95, ↓pi_95, ↓gi_89, ↓pi_89, ↓gi_94, ↓pi_94, ↓gi_1, ↓gi_3, ↓gn_1, ↓gn_2, ↓gr_2, ↓gr_55, ↓pr_55, ↓gl_96, ↓pl_96, ↓gf_w0, ↓gf_w1, ↓gw_w, ↓gf_s0, ↓gf_s1, ↓ho_s, ↓gn_b, ↓gi_b]
theorem s214 (hw : Wf (A 91)) (ha : a < kn (A 91)) : Rv 214 0 [some (.ref 90), some (.int (Int32.ofNat a)), none] [] (en G c F A P W O) = some (.inl (some (.int (Int32.ofNat (acg (upd (A 91) (39 + a) (1 - A 91 (39 + a))))))), en G c (u2 F 90 3 0) A P W O) := by
  have c0 := wf_c hw; have c2 := wf_c2 hw; have c4 := wf_c4 hw; have d0 := wf_d hw; have d2 := wf_d2 hw; have d6 := wf_d6 hw; have n0 := wf_n hw; have n16 := wf_n16 hw; have m0 := wf_m hw; have m12 := wf_m12 hw
  have hv : (1 - A 91 (39 + a) = 0 ∨ 1 - A 91 (39 + a) = 1) := by
    rcases wf_l hw a ha with h | h
    · rw [h]; exact Or.inr rfl
    · rw [h]; exact Or.inl rfl
  have hb : 1 - (1 - A 91 (39 + a)) = A 91 (39 + a) := by
    rcases wf_l hw a ha with h | h
    · rw [h]; rfl
    · rw [h]; rfl
  have h1 : u2 A 91 (39 + a) (1 - A 91 (39 + a)) 91 = upd (A 91) (39 + a) (1 - A 91 (39 + a)) := u2_at
  have h2 := s162 (G := G) (c := c) (F := u2 F 90 3 0) (A := u2 A 91 (39 + a) (1 - A 91 (39 + a))) (P := P) (W := W) (O := O) (by rw [h1]; exact wf_los hw ha hv)
  rw [h1] at h2
  simp only [↓e214_0, ↓e214_1, ↓e214_2, ↓e214_3, ↓e214_6, ↓e214_7, ↓e214_8, ↓e214_11, ↓e214_14, ↓e214_15, ↓e214_16, ↓e214_17, ↓e214_20, ↓e214_22, ↓e214_23, ↓e214_24, ↓e214_25, ↓e214_26, ↓e214_29, ↓e214_31, ↓e214_32, ↓e214_33, ↓e214_34, ↓e214_35, ↓e214_36, ↓e214_37, ↓e214_40, ↓e214_41, ↓e214_42, ↓e214_45, ↓e214_47, ↓e214_48, ↓e214_49, ↓e214_50, ↓e214_51, ↓e214_54, ↓e214_56, ↓e214_57, ↓e214_58, ↓e214_59, ↓e214_60, ↓e214_61, ↓e214_62, ↓ldI_0, ↓ldI_s, ↓ldA_0, ↓ldA_n, ↓ldA_s, ↓ldL_0, ↓ldL_s, ↓lst_0, ↓lst_s, ↓cal_v, ↓cal_x, ↓vts_s, ↓vts_n, ↓lpr_0, ↓lpr_i, ↓lpr_r, ↓lpr_n, ↓lpr_s, PA_41, ↓reduceIte, or_true, true_or, ↓ho_40, ↓gf_40_0, ↓gf_40_1, ↓gf_40_2, ↓gf_40_3, ↓ho_49, ↓gf_49_0, ↓gf_49_1, ↓gf_49_2, ↓gf_49_3, ↓pf_49_3, ↓ho_50, ↓gf_50_0, ↓gf_50_1, ↓gf_50_2, ↓pf_50_2, ↓gf_50_3, ↓pf_50_3, ↓gf_50_4, ↓pf_50_4, ↓gf_50_5, ↓pf_50_5, ↓gf_50_6, ↓pf_50_6, ↓ho_54, ↓gf_54_0, ↓gf_54_1, ↓pf_54_1, ↓ho_88, ↓gf_88_0, ↓gf_88_1, ↓pf_88_1, ↓gf_88_2, ↓pf_88_2, ↓gf_88_3, ↓pf_88_3, ↓gf_88_4, ↓pf_88_4, ↓gf_88_5, ↓pf_88_5, ↓ho_90, ↓gf_90_0, ↓gf_90_1, ↓gf_90_2, ↓pf_90_2, ↓gf_90_3, ↓pf_90_3, ↓gf_90_4, ↓gf_90_5, ↓gf_90_6, ↓pf_90_6, ↓gf_90_7, ↓pf_90_7, ↓gf_90_8, ↓pf_90_8, ↓gf_90_9, ↓pf_90_9, ↓gf_90_10, ↓pf_90_10, ↓gf_90_11, ↓gf_41_0, ↓pf_41_0, ↓gf_41_1, ↓pf_41_1, ↓gf_41_2, ↓gf_41_3, ↓pf_41_3, ↓gf_41_4, ↓gf_41_5, ↓gf_41_6, ↓gf_41_7, ↓gf_41_8, ↓pf_41_8, ↓gf_41_9, ↓pf_41_9, ↓gf_41_10, ↓gf_41_11, ↓ho_41, ↓gi_42, ↓pi_42, ↓gi_43, ↓pi_43, ↓gi_44, ↓pi_44, ↓gi_45, ↓pi_45, ↓gi_46, ↓pi_46, ↓gi_47, ↓pi_47, ↓gi_48, ↓pi_48, ↓gi_51, ↓pi_51, ↓gi_52, ↓pi_52, ↓gi_53, ↓pi_53, ↓gi_91, ↓pi_91, ↓gi_92, ↓pi_92, ↓gi_93, ↓pi_93, ↓gi_95, ↓pi_95, ↓gi_89, ↓pi_89, ↓gi_94, ↓pi_94, ↓gi_1, ↓gi_3, ↓gn_1, ↓gn_2, ↓gr_2, ↓gr_55, ↓pr_55, ↓gl_96, ↓pl_96, ↓gf_w0, ↓gf_w1, ↓gw_w, ↓gf_s0, ↓gf_s1, ↓ho_s, ↓gn_b, ↓gi_b, s144y hw ha, s142, one_ne, false_or, if_false, io7, io23, io39, io55, io67, io4m, io_zin (show 39 + a < 2147483648 by omega) (show 39 + a < 115 by omega), io_ix (show 39 + a < 2147483648 by omega), h2, h1, upd_at, hb, u2_u2, u2_id (A := A) (a := 91) (i := 39 + a) rfl]
end ZT
