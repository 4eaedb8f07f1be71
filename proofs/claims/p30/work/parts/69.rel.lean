/-! the class's plan against the row of numbers -/
def lin (g : Nat → Int32) (d k : Nat) : Bool := decide (k = ow g d) || abv g (ow g d) k
def Rp (F A : Nat → Nat → Int32) (p : Nat) (g : Nat → Int32) : Prop := (F p 0 = g 0 ∧ F p 1 = g 1 ∧ F p 3 = g 5 ∧ F p 9 = g 6 ∧ F p 8 = bits (lsb g) 16) ∧ (A (p + 1) 0 = g 2 ∧ A (p + 1) 1 = g 3 ∧ A (p + 1) 2 = g 4) ∧ (∀ k, k < kn g → A (p + 2) k = g (7 + k) ∧ A (p + 3) k = bits (ctb (chn g) (cd g k)) 24 ∧ A (p + 4) k = g (23 + k) ∧ A (p + 5) k = bits (abv g k) 16) ∧ (∀ d, d < dn g → A (p + 6) d = g (55 + d) ∧ A (p + 7) d = bits (pn24 g d) 24)
section RP
variable {F A : Nat → Nat → Int32} {g : Nat → Int32} {k d n m : Nat} {x y u : Int32}
theorem rp_c (h : Rp F A 41 g) (hw : Wf g) : F 41 0 = Int32.ofNat (chn g) := h.1.1.trans (wf_c hw)
theorem rp_d (h : Rp F A 41 g) (hw : Wf g) : F 41 1 = Int32.ofNat (dpn g) := h.1.2.1.trans (wf_d hw)
theorem rp_n (h : Rp F A 41 g) (hw : Wf g) : F 41 3 = Int32.ofNat (kn g) := h.1.2.2.1.trans (wf_n hw)
theorem rp_m (h : Rp F A 41 g) (hw : Wf g) : F 41 9 = Int32.ofNat (dn g) := h.1.2.2.2.1.trans (wf_m hw)
theorem rp_l (h : Rp F A 41 g) : F 41 8 = bits (lsb g) 16 := h.1.2.2.2.2
theorem rp_r0 (h : Rp F A 41 g) (hw : Wf g) : A 42 0 = Int32.ofNat (rln g 0) := h.2.1.1.trans (wf_r0 hw).1
theorem rp_r1 (h : Rp F A 41 g) (hw : Wf g) : A 42 1 = Int32.ofNat (rln g 1) := h.2.1.2.1.trans (wf_r1 hw).1
theorem rp_r2 (h : Rp F A 41 g) (hw : Wf g) : A 42 2 = Int32.ofNat (rln g 2) := h.2.1.2.2.trans (wf_r2 hw).1
theorem rp_cd (h : Rp F A 41 g) (hk : k < kn g) : A 43 k = g (7 + k) := (h.2.2.1 k hk).1
theorem rp_ct (h : Rp F A 41 g) (hk : k < kn g) : A 44 k = bits (ctb (chn g) (cd g k)) 24 := (h.2.2.1 k hk).2.1
theorem rp_ma (h : Rp F A 41 g) (hk : k < kn g) : A 45 k = g (23 + k) := (h.2.2.1 k hk).2.2.1
theorem rp_ab (h : Rp F A 41 g) (hk : k < kn g) : A 46 k = bits (abv g k) 16 := (h.2.2.1 k hk).2.2.2
theorem rp_ow (h : Rp F A 41 g) (hw : Wf g) (hd : d < dn g) : A 47 d = Int32.ofNat (ow g d) := (h.2.2.2 d hd).1.trans (wf_ow hw d hd)
theorem rp_p (h : Rp F A 41 g) (hd : d < dn g) : A 48 d = bits (pn24 g d) 24 := (h.2.2.2 d hd).2
theorem rp_oz (h : Rp F A 41 g) (hw : Wf g) : ∀ d, d < dn g → zin (A 47 d) 16 = true := fun d hd => by
  have := wf_own hw d hd
  have := wf_n16 hw
  rw [rp_ow h hw hd]
  exact io_zin (by omega) (by omega)
theorem lin_bits (h : Rp F A 41 g) (hw : Wf g) (hd : d < dn g) : lnz A d = bits (lin g d) 16 := by
  have h1 := wf_own hw d hd
  have h2 := wf_n16 hw
  unfold lnz
  rw [rp_ow h hw hd, io_ix (by omega), rp_ab h h1, bits_one (show ow g d < 16 by omega) (by omega), bits_or _ _ (by omega)]
  exact bits_cong fun i _ => by unfold lin; rw [Bool.or_comm]
theorem rgt_bits (h : Rp F A 41 g) (hw : Wf g) (hd : d < dn g) : lnz A d &&& (F 41 8 ^^^ -1) = bits (rgt g d) 16 := by
  rw [lin_bits h hw hd, rp_l h, bits_less _ _ (by omega)]
  rfl
theorem six_of (hw : Wf g) (hk : k < kn g) : ∀ c, c < chn g → dig (chn g) (cd g k) c < 6 := wf_dg hw k hk
theorem opz_bits (h : Rp F A 41 g) (hw : Wf g) (hd : d < dn g) : opz A (kn g) d = bits (opk g d) 16 := by
  rw [show bits (opk g d) 16 = bits (fun k => opn g (cd g k) d) (kn g) from (bits_pad _ (wf_n16 hw) (by omega)).symm]
  refine fo_eq (v := fun k => bits (fun k => opn g (cd g k) d) k) rfl fun k hk => ?_
  rw [rp_ct h hk, rp_p h hd, bits_s (fun k => opn g (cd g k) d) k]
  simp only [opn_bits (six_of hw hk) (wf_c4 hw)]
theorem doz_bits {x : Nat} (h : Rp F A 41 g) (hw : Wf g) (hx : ∀ c, c < chn g → dig (chn g) x c < 6) : doz A (bits (ctb (chn g) x) 24) (dn g) = bits (opd g x) 12 := by
  rw [show bits (opd g x) 12 = bits (fun d => opn g x d) (dn g) from (bits_pad _ (wf_m12 hw) (by omega)).symm]
  refine fo_eq (v := fun k => bits (fun d => opn g x d) k) rfl fun k hk => ?_
  rw [rp_p h hk, bits_s (fun d => opn g x d)]
  simp only [opn_bits hx (wf_c4 hw)]
theorem drz_bits (h : Rp F A 41 g) (hw : Wf g) (hk : k < kn g) : drz F A (Int32.ofNat k) (dn g) = bits (rgd g k) 12 := by
  have h16 := wf_n16 hw
  rw [show bits (rgd g k) 12 = bits (fun d => rgt g d k) (dn g) from (bits_pad _ (wf_m12 hw) (by omega)).symm]
  refine fo_eq (v := fun j => bits (fun d => rgt g d k) j) rfl fun j hj => ?_
  rw [rgt_bits h hw hj, sh_tb (by omega), tb_bits _ 16 (by omega) k (by omega), decide_eq_true (show k < 16 by omega), bits_s (fun d => rgt g d k)]
  cases rgt g j k <;> simp
theorem kbz_io (h : Rp F A 41 g) (hw : Wf g) (hk : k < kn g) : kbz A (Int32.ofNat k) (kn g) = Int32.ofNat (cnt (fun o => abv g o k) (kn g)) := by
  have h16 := wf_n16 hw
  refine fo_io (v := fun j => cnt (fun o => abv g o k) j) rfl fun j hj => ?_
  rw [rp_ab h hj, sh_tb (by omega), tb_bits _ 16 (by omega) k (by omega), decide_eq_true (show k < 16 by omega)]
  show Int32.ofNat (cnt (fun o => abv g o k) j) + _ = Int32.ofNat (if abv g j k = true then cnt (fun o => abv g o k) j + 1 else cnt (fun o => abv g o k) j)
  cases abv g j k
  · simp
  · simp
/-- pins of a fitted door, as a set -/
def fp24 (g : Nat → Int32) (d i : Nat) : Bool := exb (fun k => rgt g d k && ctb (chn g) (cd g k) i) (kn g)
theorem pwz_bits (hw : Wf g) (hK : ∀ k, k < kn g → (if Int32.ofNat k = y then u else A 44 k) = bits (ctb (chn g) (cd g k)) 24) : pwz A (bits (rgt g d) 16) y u (kn g) = bits (fp24 g d) 24 := by
  have h16 := wf_n16 hw
  unfold pwz fp24
  refine fo_eq (v := fun j => bits (fun i => exb (fun k => rgt g d k && ctb (chn g) (cd g k) i) j) 24) (bits_zero 24).symm fun j hj => ?_
  have e : (if Int32.ofNat j = y then bits (fun i => exb (fun k => rgt g d k && ctb (chn g) (cd g k) i) j) 24 ||| u else bits (fun i => exb (fun k => rgt g d k && ctb (chn g) (cd g k) i) j) 24 ||| A 44 j) = bits (fun i => exb (fun k => rgt g d k && ctb (chn g) (cd g k) i) j) 24 ||| bits (ctb (chn g) (cd g j)) 24 := by
    rw [← hK j hj]
    split <;> rfl
  rw [sh_tb (by omega), tb_bits _ 16 (by omega) j (by omega), decide_eq_true (show j < 16 by omega)]
  rw [e, bits_or _ _ (by omega)]
  cases hr : rgt g d j
  · rw [if_pos (by decide)]
    refine bits_cong fun i hi => ?_
    show _ = (_ || (rgt g d j && _))
    rw [hr]; simp
  · rw [if_neg (by decide)]
    refine bits_cong fun i hi => ?_
    show _ = (_ || (rgt g d j && _))
    rw [hr]; rfl
theorem fp_ft (i : Nat) : fp24 g d i = (decide (i / 6 < chn g) && ftb g d (i / 6) (i % 6)) := by
  unfold fp24 ftb
  by_cases h : i / 6 < chn g
  · rw [decide_eq_true h, Bool.true_and]
    refine exb_cong fun k hk => ?_
    unfold ctb
    rw [decide_eq_true h, Bool.true_and]
  · rw [decide_eq_false h, Bool.false_and]
    cases e : exb (fun k => rgt g d k && ctb (chn g) (cd g k) i) (kn g)
    · rfl
    · obtain ⟨k, hk, e⟩ := exb_iff.mp e
      unfold ctb at e
      rw [decide_eq_false h] at e
      simp at e
theorem chg_bits (hw : Wf g) : bct (bits (pn24 g d) 24 ^^^ bits (fp24 g d) 24) = Int32.ofNat (chg g d) := by
  rw [bits_xor _ _ (by omega), bct_bits _ (by omega), cnt_ch (wf_c4 hw) (fun i _ h => by unfold pn24; rw [fp_ft, decide_eq_false (by omega)]; rfl)]
  refine congrArg Int32.ofNat (sum_cong fun c hc => cnt_cong fun q hq => ?_)
  unfold pn24
  rw [fp_ft, show (6 * c + q) / 6 = c by omega, show (6 * c + q) % 6 = q by omega, decide_eq_true hc]
  rfl
theorem chz_io (hw : Wf g) (hK : ∀ k, k < kn g → (if Int32.ofNat k = y then u else A 44 k) = bits (ctb (chn g) (cd g k)) 24) (hL : ∀ d, d < dn g → lnz A d = bits (lin g d) 16) (hX : x = bits (lsb g) 16) (hP : ∀ d, d < dn g → A 48 d = bits (pn24 g d) 24) : chz A x y u (kn g) (dn g) = Int32.ofNat (acg g) := by
  refine fo_io (v := fun j => sum (chg g) j) rfl fun j hj => ?_
  have e : bits (lin g j) 16 &&& (bits (lsb g) 16 ^^^ -1) = bits (rgt g j) 16 := by rw [bits_less _ _ (by omega)]; rfl
  rw [hL j hj, hX, e, pwz_bits hw hK, hP j hj, chg_bits hw, io_add]
  rfl
theorem rp_K (h : Rp F A 41 g) (hw : Wf g) : ∀ k, k < kn g → (if Int32.ofNat k = -1 then 0 else A 44 k) = bits (ctb (chn g) (cd g k)) 24 := fun k hk => by
  have := wf_n16 hw
  rw [if_neg (io_nn (by omega)), rp_ct h hk]
theorem fit_bits (h : Rp F A 41 g) (hw : Wf g) (hd : d < dn g) : pwz A (lnz A d &&& (F 41 8 ^^^ -1)) (-1) 0 (kn g) = bits (fp24 g d) 24 := by
  rw [rgt_bits h hw hd, pwz_bits hw (rp_K h hw)]
theorem cho_io (h : Rp F A 41 g) (hw : Wf g) (hd : d < dn g) : bct (A 48 d ^^^ pwz A (lnz A d &&& (F 41 8 ^^^ -1)) (-1) 0 (kn g)) = Int32.ofNat (chg g d) := by
  rw [fit_bits h hw hd, rp_p h hd, chg_bits hw]
theorem wrk_io (h : Rp F A 41 g) (hw : Wf g) (hd : d < dn g) : bct (opz A (kn g) d ^^^ (lnz A d &&& (F 41 8 ^^^ -1))) = Int32.ofNat (wrk g d) := by
  rw [opz_bits h hw hd, rgt_bits h hw hd, bits_xor _ _ (by omega), bct_bits _ (by omega)]
  rfl
theorem xps_io (h : Rp F A 41 g) (hw : Wf g) (hd : d < dn g) : (if opz A (kn g) d &&& F 41 8 = 0 then (0 : Int32) else 1) = if xps g d = true then 1 else 0 := by
  rw [opz_bits h hw hd, rp_l h, bits_and _ _ (by omega)]
  simp only [bits_ex _ (show 16 ≤ 32 by omega)]
  unfold xps
  by_cases e : exb (fun k => opk g d k && lsb g k) 16 = true
  · simp [e]
  · simp [e]
theorem pni_io (h : Rp F A 41 g) (hw : Wf g) (hd : d < dn g) : bct (A 48 d) = Int32.ofNat (pni g d) := by
  rw [rp_p h hd, bct_bits _ (by omega), cnt_ch (wf_c4 hw) (fun i _ h => by unfold pn24; rw [decide_eq_false (by omega)]; rfl)]
  refine congrArg Int32.ofNat (sum_cong fun c hc => cnt_cong fun q hq => ?_)
  unfold pn24
  rw [show (6 * c + q) / 6 = c by omega, show (6 * c + q) % 6 = q by omega, decide_eq_true hc]
  rfl
theorem pch_io (h : Rp F A 41 g) (hw : Wf g) (hd : d < dn g) {b : Nat} (hb : b < chn g) : A 48 d >>> (6 * Int32.ofNat b &&& 31) &&& 63 = g (67 + 4 * d + b) := by
  have := wf_c4 hw
  rw [rp_p h hd, inch _ (by omega)]
  refine (bits_of (by omega) fun i hi => ?_).symm
  by_cases h6 : i < 6
  · unfold pn24
    rw [decide_eq_true h6, show (6 * b + i) / 6 = b by omega, show (6 * b + i) % 6 = i by omega, decide_eq_true hb]
    rfl
  · rw [decide_eq_false h6, wf_p hw d hd b hb i (by omega)]
    rfl
theorem lst_io (h : Rp F A 41 g) : bct (F 41 8) = Int32.ofNat (cnt (lsb g) 16) := by
  rw [rp_l h, bct_bits _ (by omega)]
/-- isCode -/
theorem icz_io (hD : F 41 1 = Int32.ofNat m) (hm : m < 1000) : ∀ (n a : Nat), n ≤ 4 → a < 2147483648 → (if (dgb F n (Int32.ofNat a)).1 = true then (if (dgb F n (Int32.ofNat a)).2 = 0 then (1 : Int32) else 0) else 0) = if icd n m a = true then 1 else 0 := by
  intro n
  induction n with
  | zero =>
    intro a _ ha
    show (if true = true then (if Int32.ofNat a = 0 then (1 : Int32) else 0) else 0) = _
    rw [if_pos rfl]
    unfold icd
    by_cases e : a = 0
    · subst e; rfl
    · have : ¬ Int32.ofNat a = 0 := fun h => by rw [io_ne0 (by omega) ha] at h; exact h
      rw [if_neg this, decide_eq_false (by omega)]
      rfl
  | succ n ih =>
    intro a h4 ha
    have e : icd (n + 1) m a = (decide (a % 10 < m) && icd n m (a / 10)) := by
      have h1 : decide (a < 10 ^ (n + 1)) = decide (a / 10 < 10 ^ n) := decide_eq_decide.mpr (by rw [Nat.pow_succ]; generalize 10 ^ n = z; omega)
      have h2 : allb (fun c => decide (dig (n + 1) a c < m)) n = allb (fun c => decide (dig n (a / 10) c < m)) n := allb_cong fun c hc => by rw [dig_s hc]
      unfold icd
      show (decide (a < 10 ^ (n + 1)) && (allb (fun c => decide (dig (n + 1) a c < m)) n && decide (dig (n + 1) a n < m))) = _
      rw [h1, h2, dig_l]
      cases decide (a % 10 < m) <;> simp
    have e2 : dgb F (n + 1) (Int32.ofNat a) = if a % 10 < m then dgb F n (Int32.ofNat (a / 10)) else (false, Int32.ofNat a) := by
      show (if rmi (Int32.ofNat a) 10 < F 41 1 then dgb F n (Int32.ofNat a / 10) else (false, Int32.ofNat a)) = _
      rw [show rmi (Int32.ofNat a) 10 = Int32.ofNat (a % 10) from io_rmi (b := 10) ha (by omega), show Int32.ofNat a / 10 = Int32.ofNat (a / 10) from io_div (b := 10) ha (by omega), hD]
      simp only [io_lt (show a % 10 < 2147483648 by omega) (show m < 2147483648 by omega)]
    rw [e, e2]
    by_cases h : a % 10 < m
    · rw [if_pos h, ih (a / 10) (by omega) (by omega), decide_eq_true h, Bool.true_and]
    · rw [if_neg h, decide_eq_false h]
      rfl
end RP
