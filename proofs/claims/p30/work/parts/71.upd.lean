/-! changes of the row -/
theorem upd_at {f : Nat → Int32} {i : Nat} {x : Int32} : upd f i x i = x := if_pos rfl
theorem upd_no {f : Nat → Int32} {i j : Nat} {x : Int32} (h : j ≠ i) : upd f i x j = f j := if_neg h
theorem u2_at {A : Nat → Nat → Int32} {a i : Nat} {x : Int32} : u2 A a i x a = upd (A a) i x := by
  funext j
  unfold u2 upd
  by_cases h : j = i
  · rw [if_pos ⟨rfl, h⟩, if_pos h]
  · rw [if_neg (fun e => h e.2), if_neg h]
theorem u2_u2 {A : Nat → Nat → Int32} {a i : Nat} {x y : Int32} : u2 (u2 A a i x) a i y = u2 A a i y := by
  funext b j
  unfold u2
  by_cases h : b = a ∧ j = i
  · rw [if_pos h, if_pos h]
  · rw [if_neg h, if_neg h, if_neg h]
theorem u2_id {A : Nat → Nat → Int32} {a i : Nat} {x : Int32} (h : A a i = x) : u2 A a i x = A := by
  funext b j
  unfold u2
  by_cases e : b = a ∧ j = i
  · rw [if_pos e, e.1, e.2, h]
  · rw [if_neg e]
/-- the head of the row -/
theorem hd_eq {g g' : Nat → Int32} (h : ∀ j, j < 7 → g' j = g j) : chn g' = chn g ∧ dpn g' = dpn g ∧ rln g' 0 = rln g 0 ∧ rln g' 1 = rln g 1 ∧ rln g' 2 = rln g 2 ∧ kn g' = kn g ∧ dn g' = dn g := by
  unfold chn dpn rln kn dn
  rw [h 0 (by omega), h 1 (by omega), h 5 (by omega), h 6 (by omega), h (2 + 0) (by omega), h (2 + 1) (by omega), h (2 + 2) (by omega)]
  exact ⟨rfl, rfl, rfl, rfl, rfl, rfl, rfl⟩
theorem wf_mk {g : Nat → Int32} {ch dp a b e n m : Nat} (h0 : g 0 = Int32.ofNat ch ∧ 2 ≤ ch ∧ ch ≤ 4) (h1 : g 1 = Int32.ofNat dp ∧ 2 ≤ dp ∧ dp ≤ 6) (h2 : g 2 = Int32.ofNat a ∧ a ≤ 5) (h3 : g 3 = Int32.ofNat b ∧ 1 ≤ b ∧ b ≤ 4) (h4 : g 4 = Int32.ofNat e ∧ 1 ≤ e ∧ e ≤ 4) (h5 : g 5 = Int32.ofNat n ∧ n ≤ 16) (h6 : g 6 = Int32.ofNat m ∧ m ≤ 12) (hc : ∀ k, k < n → ∃ x, g (7 + k) = Int32.ofNat x ∧ icd ch dp x = true) (hm : ∀ k, k < n → g (23 + k) = -1 ∨ ∃ j, j < k ∧ g (23 + k) = Int32.ofNat j) (hl : ∀ k, k < n → g (39 + k) = 0 ∨ g (39 + k) = 1) (ho : ∀ d, d < m → ∃ o, g (55 + d) = Int32.ofNat o ∧ o < n) (hp : ∀ d, d < 12 → ∀ c, c < ch → ∀ q, 6 ≤ q → tb (g (67 + 4 * d + c)) q = false) : Wf g := by
  have e0 : chn g = ch := by unfold chn; rw [h0.1, io_ix (by omega)]
  have e1 : dpn g = dp := by unfold dpn; rw [h1.1, io_ix (by omega)]
  have e2 : rln g 0 = a := by unfold rln; rw [show 2 + 0 = 2 from rfl, h2.1, io_ix (by omega)]
  have e3 : rln g 1 = b := by unfold rln; rw [show 2 + 1 = 3 from rfl, h3.1, io_ix (by omega)]
  have e4 : rln g 2 = e := by unfold rln; rw [show 2 + 2 = 4 from rfl, h4.1, io_ix (by omega)]
  have e5 : kn g = n := by unfold kn; rw [h5.1, io_ix (by omega)]
  have e6 : dn g = m := by unfold dn; rw [h6.1, io_ix (by omega)]
  unfold Wf
  rw [e0, e1, e2, e3, e4, e5, e6]
  refine ⟨h0, h1, h2, h3, h4, h5, h6, fun k hk => ?_, hm, hl, fun d hd => ?_, hp⟩
  · obtain ⟨x, hx, hi⟩ := hc k hk
    have := icd_lt h0.2.2 hi
    have e : cd g k = x := by unfold cd; rw [hx, io_ix (by omega)]
    rw [e]
    exact ⟨hx, hi⟩
  · obtain ⟨o, hx, hi⟩ := ho d hd
    have e : ow g d = o := by unfold ow; rw [hx, io_ix (by omega)]
    rw [e]
    exact ⟨hx, hi⟩
theorem abv_cg {g g' : Nat → Int32} (hw : Wf g) (h : ∀ k, k < kn g → g' (23 + k) = g (23 + k)) {j : Nat} : ∀ k, k < kn g → abv g' k j = abv g k j := by
  have key : ∀ f k, k < kn g → abw g' f k j = abw g f k j := by
    intro f
    induction f with
    | zero => intro k _; rfl
    | succ f ih =>
      intro k hk
      show (if g' (23 + k) = -1 then false else (decide (j = (g' (23 + k)).toNatClampNeg) || abw g' f (g' (23 + k)).toNatClampNeg j)) = if g (23 + k) = -1 then false else (decide (j = (g (23 + k)).toNatClampNeg) || abw g f (g (23 + k)).toNatClampNeg j)
      rw [h k hk]
      rcases wf_ma hw k hk with e | ⟨i, hi, e⟩
      · rw [if_pos e, if_pos e]
      · have := wf_n16 hw
        rw [e, io_ix (by omega), ih i (by omega)]
  exact fun k hk => key k k hk
/-- what is seen of the row -/
theorem cd_of {g : Nat → Int32} {k x : Nat} (h : g (7 + k) = Int32.ofNat x) (hx : x < 2147483648) : cd g k = x := by
  unfold cd; rw [h, io_ix hx]
section UP
variable {g : Nat → Int32} {a b d k : Nat} {v : Int32}
theorem up_hd {i : Nat} (hi : 7 ≤ i) : chn (upd g i v) = chn g ∧ dpn (upd g i v) = dpn g ∧ rln (upd g i v) 0 = rln g 0 ∧ rln (upd g i v) 1 = rln g 1 ∧ rln (upd g i v) 2 = rln g 2 ∧ kn (upd g i v) = kn g ∧ dn (upd g i v) = dn g :=
  hd_eq fun j hj => upd_no (by omega)
theorem wf_cut (hw : Wf g) (ha : a < kn g) (hi : icd (chn g) (dpn g) b = true) : Wf (upd g (7 + a) (Int32.ofNat b)) := by
  have n16 := wf_n16 hw
  have m12 := wf_m12 hw
  have c4 := wf_c4 hw
  refine wf_mk (ch := chn g) (dp := dpn g) (a := rln g 0) (b := rln g 1) (e := rln g 2) (n := kn g) (m := dn g) ?_ ?_ ?_ ?_ ?_ ?_ ?_ (fun k hk => ?_) (fun k hk => ?_) (fun k hk => ?_) (fun d hd => ?_) (fun d hd c hc => ?_)
  · rw [upd_no (by omega)]; exact hw.1
  · rw [upd_no (by omega)]; exact hw.2.1
  · rw [upd_no (by omega)]; exact hw.2.2.1
  · rw [upd_no (by omega)]; exact hw.2.2.2.1
  · rw [upd_no (by omega)]; exact hw.2.2.2.2.1
  · rw [upd_no (by omega)]; exact hw.2.2.2.2.2.1
  · rw [upd_no (by omega)]; exact hw.2.2.2.2.2.2.1
  · by_cases e : k = a
    · subst e; exact ⟨b, upd_at, hi⟩
    · rw [upd_no (by omega)]; exact ⟨cd g k, wf_cd hw k hk, wf_ic hw k hk⟩
  · rw [upd_no (by omega)]; exact wf_ma hw k hk
  · rw [upd_no (by omega)]; exact wf_l hw k hk
  · rw [upd_no (by omega)]; exact ⟨ow g d, wf_ow hw d hd, wf_own hw d hd⟩
  · rw [upd_no (by omega)]; exact wf_q hw d hd c hc
theorem wf_los (hw : Wf g) (ha : a < kn g) (hv : v = 0 ∨ v = 1) : Wf (upd g (39 + a) v) := by
  have n16 := wf_n16 hw
  have m12 := wf_m12 hw
  have c4 := wf_c4 hw
  refine wf_mk (ch := chn g) (dp := dpn g) (a := rln g 0) (b := rln g 1) (e := rln g 2) (n := kn g) (m := dn g) ?_ ?_ ?_ ?_ ?_ ?_ ?_ (fun k hk => ?_) (fun k hk => ?_) (fun k hk => ?_) (fun d hd => ?_) (fun d hd c hc => ?_)
  · rw [upd_no (by omega)]; exact hw.1
  · rw [upd_no (by omega)]; exact hw.2.1
  · rw [upd_no (by omega)]; exact hw.2.2.1
  · rw [upd_no (by omega)]; exact hw.2.2.2.1
  · rw [upd_no (by omega)]; exact hw.2.2.2.2.1
  · rw [upd_no (by omega)]; exact hw.2.2.2.2.2.1
  · rw [upd_no (by omega)]; exact hw.2.2.2.2.2.2.1
  · rw [upd_no (by omega)]; exact ⟨cd g k, wf_cd hw k hk, wf_ic hw k hk⟩
  · rw [upd_no (by omega)]; exact wf_ma hw k hk
  · by_cases e : k = a
    · subst e; rw [upd_at]; exact hv
    · rw [upd_no (by omega)]; exact wf_l hw k hk
  · rw [upd_no (by omega)]; exact ⟨ow g d, wf_ow hw d hd, wf_own hw d hd⟩
  · rw [upd_no (by omega)]; exact wf_q hw d hd c hc
theorem cut_cd (hw : Wf g) (ha : a < kn g) (hb : b < 2147483648) (hk : k < kn g) : cd (upd g (7 + a) (Int32.ofNat b)) k = if k = a then b else cd g k := by
  by_cases e : k = a
  · subst e; rw [if_pos rfl]; exact cd_of upd_at hb
  · rw [if_neg e]; unfold cd; rw [upd_no (by omega)]
theorem cut_lin (hw : Wf g) (ha : a < kn g) (hd : d < dn g) (j : Nat) : lin (upd g (7 + a) v) d j = lin g d j := by
  have n16 := wf_n16 hw
  have eo : ow (upd g (7 + a) v) d = ow g d := by unfold ow; rw [upd_no (by omega)]
  unfold lin
  rw [eo, abv_cg hw (fun k hk => upd_no (by omega)) _ (wf_own hw d hd)]
theorem cut_lsb (hw : Wf g) (ha : a < kn g) (j : Nat) : lsb (upd g (7 + a) v) j = lsb g j := by
  have n16 := wf_n16 hw
  unfold lsb
  rw [(up_hd (by omega)).2.2.2.2.2.1]
  by_cases h : j < kn g
  · rw [upd_no (by omega)]
  · rw [decide_eq_false h]; rfl
theorem cut_pn (hw : Wf g) (ha : a < kn g) (i : Nat) : pn24 (upd g (7 + a) v) d i = pn24 g d i := by
  have n16 := wf_n16 hw
  unfold pn24 pnb
  rw [(up_hd (by omega)).1, upd_no (by omega)]
theorem los_cd (hw : Wf g) (ha : a < kn g) (hk : k < kn g) : cd (upd g (39 + a) v) k = cd g k := by
  have n16 := wf_n16 hw
  unfold cd; rw [upd_no (by omega)]
theorem los_lin (hw : Wf g) (ha : a < kn g) (hd : d < dn g) (j : Nat) : lin (upd g (39 + a) v) d j = lin g d j := by
  have n16 := wf_n16 hw
  have m12 := wf_m12 hw
  have eo : ow (upd g (39 + a) v) d = ow g d := by unfold ow; rw [upd_no (by omega)]
  unfold lin
  rw [eo, abv_cg hw (fun k hk => upd_no (by omega)) _ (wf_own hw d hd)]
theorem los_lsb (hw : Wf g) (ha : a < kn g) (j : Nat) : lsb (upd g (39 + a) v) j = if j = a then decide (v = 1) else lsb g j := by
  have n16 := wf_n16 hw
  unfold lsb
  rw [(up_hd (by omega)).2.2.2.2.2.1]
  by_cases h : j = a
  · subst h; rw [if_pos rfl, upd_at, decide_eq_true ha]; rfl
  · rw [if_neg h, upd_no (by omega)]
theorem los_pn (hw : Wf g) (ha : a < kn g) (i : Nat) : pn24 (upd g (39 + a) v) d i = pn24 g d i := by
  have n16 := wf_n16 hw
  unfold pn24 pnb
  rw [(up_hd (by omega)).1, upd_no (by omega)]
end UP
section ZT
variable {G : zG} {c : Nat × Nat × Bool} {F A : Nat → Nat → Int32} {P : Nat → Nat} {W : Value} {O : Nat → Int64} {x y j k d e u v : Int32} {p q a b i n m t w : Nat} {g : Nat → Int32}
theorem rsx_ok {key : Int32} (h : rsx g key x = 0) : ∃ b, b < 2147483648 ∧ x = Int32.ofNat b ∧ wrg g b = 0 ∧ icd (chn g) (dpn g) b = true := by
  by_cases hx : x < 0
  · rw [rsx_n hx] at h; cases h
  · obtain ⟨b, hb, rfl⟩ := io_of hx
    rw [rsx_p hb] at h
    exact ⟨b, hb, rfl, rsn_wrg h, wrg_icd (rsn_wrg h)⟩
end ZT
