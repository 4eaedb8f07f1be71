/-! numbers behind the law -/
/-- no two keys have one code -/
def DSt (g : Nat → Int32) : Prop := ∀ j k, j < kn g → k < kn g → cd g j = cd g k → j = k
theorem cnt_mul (a b : Nat → Bool) (m : Nat) : ∀ n, cnt (fun x => a (x / m) && b (x % m)) (m * n) = cnt a n * cnt b m
  | 0 => by rw [Nat.mul_zero, show cnt a 0 = 0 from rfl, Nat.zero_mul]; rfl
  | n + 1 => by
    rw [Nat.mul_succ, cnt_split, cnt_mul a b m n]
    by_cases hm : m = 0
    · subst hm
      rw [show cnt b 0 = 0 from rfl, Nat.mul_zero, Nat.mul_zero]; rfl
    have h1 : cnt (fun k => a ((m * n + k) / m) && b ((m * n + k) % m)) m = cnt (fun k => a n && b k) m := cnt_cong fun k hk => by
      rw [Nat.mul_add_div (by omega), Nat.div_eq_of_lt hk, Nat.add_zero, Nat.mul_add_mod, Nat.mod_eq_of_lt hk]
    rw [h1, cnt_s]
    cases ha : a n
    · rw [cnt_none (p := fun k => false && b k) (n := m) (fun k _ => rfl), if_neg (by decide), Nat.add_zero]
    · rw [if_pos rfl, Nat.succ_mul]
      refine congrArg (cnt a n * cnt b m + ·) (cnt_cong fun k _ => rfl)
theorem cnt_digs (P : Nat → Nat → Bool) : ∀ m, cnt (fun x => allb (fun c => P c (dig m x c)) m) (10 ^ m) = prod (fun c => cnt (P c) 10) m
  | 0 => rfl
  | m + 1 => by
    rw [Nat.pow_succ, Nat.mul_comm]
    have h : cnt (fun x => allb (fun c => P c (dig (m + 1) x c)) (m + 1)) (10 * 10 ^ m) = cnt (fun x => allb (fun c => P c (dig m (x / 10) c)) m && P m (x % 10)) (10 * 10 ^ m) := cnt_cong fun x _ => by
      rw [Bool.eq_iff_iff, allb_iff, Bool.and_eq_true, allb_iff]
      constructor
      · intro h
        refine ⟨fun c hc => ?_, ?_⟩
        · have := h c (by omega)
          rw [dig_s hc] at this; exact this
        · have := h m (by omega)
          rw [dig_l] at this; exact this
      · rintro ⟨h1, h2⟩ c hc
        by_cases e : c = m
        · subst e; rw [dig_l]; exact h2
        · rw [dig_s (by omega)]; exact h1 c (by omega)
    rw [h, cnt_mul (fun y => allb (fun c => P c (dig m y c)) m) (P m) 10 (10 ^ m), cnt_digs P m]
    rfl
/-- ghosts are no more than the combinations -/
theorem gho_le {g : Nat → Int32} (hw : Wf g) {d : Nat} (hd : d < 12) : gho g d ≤ cfo g d := by
  have d2 := wf_d2 hw
  have d6 := wf_d6 hw
  have h1 : gho g d ≤ cnt (fun v => opn g (cofn (dpn g) (chn g) v) d) (dpn g ^ chn g) := cnt_sub fun v _ h => by
    rw [Bool.and_eq_true] at h; exact h.1
  have h2 : cnt (fun v => opn g (cofn (dpn g) (chn g) v) d) (dpn g ^ chn g) = cnt (fun x => icd (chn g) (dpn g) x && opn g x d) (10 ^ chn g) := by
    rw [cnt_fo, cnt_fo, ← fo_codes (by omega) (by omega) (chn g) (fun x s => if opn g x d = true then s + 1 else s) 0]
    refine fo_cong fun x _ s => ?_
    cases icd (chn g) (dpn g) x <;> cases opn g x d <;> rfl
  have h3 : cnt (fun x => icd (chn g) (dpn g) x && opn g x d) (10 ^ chn g) ≤ cnt (fun x => opn g x d) (10 ^ chn g) := cnt_sub fun v _ h => by
    rw [Bool.and_eq_true] at h; exact h.2
  have h4 : cnt (fun x => opn g x d) (10 ^ chn g) = prod (fun c => cnt (pnb g d c) 10) (chn g) := cnt_digs (pnb g d) (chn g)
  have h5 : prod (fun c => cnt (pnb g d c) 10) (chn g) = cfo g d := prod_cong fun c hc => by
    show cnt (pnb g d c) (6 + 4) = cnt (pnb g d c) 6
    rw [cnt_split, cnt_none (p := fun k => pnb g d c (6 + k)) (n := 4) (fun k _ => wf_q hw d hd c hc _ (by omega)), Nat.add_zero]
  omega
/-- ranks of numbers that are apart -/
theorem cnt_rank (f : Nat → Nat) (n : Nat) (h : ∀ j k, j < n → k < n → f j = f k → j = k) : ∀ x, cnt (fun v => exb (fun k => decide (f k = v)) n) x = cnt (fun o => decide (f o < x)) n
  | 0 => (cnt_none (n := n) fun k _ => decide_eq_false (by omega)).symm
  | x + 1 => by
    rw [cnt_s, cnt_rank f n h x]
    by_cases he : exb (fun k => decide (f k = x)) n = true
    · rw [if_pos he]
      obtain ⟨k, hk, hx⟩ := exb_iff.mp he
      have hx := of_decide_eq_true hx
      have : ∀ N, N ≤ n → cnt (fun o => decide (f o < x + 1)) N = cnt (fun o => decide (f o < x)) N + (if k < N then 1 else 0) := by
        intro N
        induction N with
        | zero => intro _; rfl
        | succ N ih =>
          intro hN
          rw [cnt_s, cnt_s, ih (by omega)]
          by_cases e : N = k
          · subst e
            rw [decide_eq_true (show f N < x + 1 by omega), decide_eq_false (show ¬ f N < x by omega), if_pos rfl, if_neg (Nat.lt_irrefl _), if_pos (Nat.lt_succ_self _)]
            simp only [Bool.false_eq_true, if_false]
          · have : f N ≠ x := fun e2 => e (h N k (by omega) hk (by omega))
            by_cases h3 : f N < x
            · rw [decide_eq_true (show f N < x + 1 by omega), decide_eq_true h3, if_pos rfl, if_pos rfl]
              by_cases h4 : k < N
              · rw [if_pos h4, if_pos (by omega)]
              · rw [if_neg h4, if_neg (by omega)]
            · rw [decide_eq_false (show ¬ f N < x + 1 by omega), decide_eq_false h3]
              simp only [Bool.false_eq_true, if_false]
              by_cases h4 : k < N
              · rw [if_pos h4, if_pos (by omega)]
              · rw [if_neg h4, if_neg (by omega)]
      rw [this n (Nat.le_refl _), if_pos hk]
    · rw [if_neg he]
      refine cnt_cong fun o ho => ?_
      have : f o ≠ x := fun e => he (exb_iff.mpr ⟨o, ho, decide_eq_true e⟩)
      by_cases h3 : f o < x
      · rw [decide_eq_true h3, decide_eq_true (by omega)]
      · rw [decide_eq_false h3, decide_eq_false (by omega)]
theorem rank_all (f : Nat → Nat) (n N : Nat) (h : ∀ j k, j < n → k < n → f j = f k → j = k) (hN : ∀ k, k < n → f k < N) {j : Nat} (hj : j < n) : ∃ k, k < n ∧ cnt (fun o => decide (f o < f k)) n = j := by
  have hc : cnt (fun v => exb (fun k => decide (f k = v)) n) N = n := by
    rw [cnt_rank f n h N]
    refine (cnt_cong (q := fun _ => true) fun k hk => decide_eq_true (hN k hk)).trans ?_
    clear h hN hj
    induction n with
    | zero => rfl
    | succ n ih => rw [cnt_s, if_pos rfl, ih]
  obtain ⟨x, hx, hp, e⟩ := cnt_kth (p := fun v => exb (fun k => decide (f k = v)) n) (n := N) (k := j) (by omega)
  obtain ⟨k, hk, hkx⟩ := exb_iff.mp hp
  have hkx := of_decide_eq_true hkx
  refine ⟨k, hk, ?_⟩
  rw [hkx, ← cnt_rank f n h x]
  exact e
section WO
variable {g : Nat → Int32}
/-- the key at place j in the order of codes -/
theorem kat_at (hw : Wf g) (hd : DSt g) {j : Nat} (hj : j < kn g) : ∃ k, k < kn g ∧ fst (kat g (Int32.ofNat j)) 0 (kn g) = Int32.ofNat k ∧ cnt (fun o => decide (cd g o < cd g k)) (kn g) = j := by
  have n16 := wf_n16 hw
  obtain ⟨k, hk, e⟩ := rank_all (cd g) (kn g) 10000 hd (wf_cl hw) hj
  have hkat : kat g (Int32.ofNat j) k = true := by unfold kat; rw [e]; exact decide_eq_true rfl
  rcases fst_or (kat g (Int32.ofNat j)) (kn g) 0 with h | ⟨i, -, h1, h2, h3⟩
  · have := fst_no (p := kat g (Int32.ofNat j)) (kn g) 0 (by omega) h k (by omega) (by omega)
    rw [hkat] at this; cases this
  · refine ⟨i, by omega, h2, ?_⟩
    have h4 : Int32.ofNat (cnt (fun o => decide (cd g o < cd g i)) (kn g)) = Int32.ofNat j := of_decide_eq_true h3
    have h5 := cnt_le (fun o => decide (cd g o < cd g i)) (kn g)
    rw [io_eq (by omega) (by omega)] at h4
    exact h4
theorem kat_le (hw : Wf g) {a b i j : Nat} (ha : cnt (fun o => decide (cd g o < cd g a)) (kn g) = i) (hb : cnt (fun o => decide (cd g o < cd g b)) (kn g) = j) (h : i < j) : cd g a ≤ cd g b := by
  rcases Nat.lt_or_ge (cd g b) (cd g a) with h2 | h2
  · have := cnt_sub (p := fun o => decide (cd g o < cd g b)) (q := fun o => decide (cd g o < cd g a)) (n := kn g) fun o _ ho => decide_eq_true (by have := of_decide_eq_true ho; omega)
    omega
  · exact h2
/-- the works stand somewhere in order -/
theorem wi_ex (hw : Wf g) : ∀ k, k ≤ 12 → ∃ A, WI A g k
  | 0, _ => ⟨fun _ _ => 0, fun d h => absurd h (Nat.not_lt_zero d), fun j h => absurd h (Nat.not_lt_zero j)⟩
  | k + 1, h => by
    obtain ⟨A, hA⟩ := wi_ex hw k (by omega)
    cases e : wkb g k
    · exact ⟨A, (WI_no hA e).1⟩
    · exact ⟨_, (WI_in hw hA e (by omega)).1⟩
theorem wat_is (hw : Wf g) {i : Nat} (hi : i < wks g) : ∃ d, d < dn g ∧ wkb g d = true ∧ rnk g (dn g) d = i ∧ wat g (Int32.ofNat i) = Int32.ofNat d := by
  have m12 := wf_m12 hw
  obtain ⟨A, hA⟩ := wi_ex hw (dn g) m12
  have hle : wks g ≤ dn g := cnt_le _ _
  rcases wat_at hw hA (i := i) (by omega) with ⟨h, -⟩ | ⟨-, d, h1, h2, h3⟩
  · omega
  · obtain ⟨e, e1, e2, e3⟩ := hA.2 i hi
    have h4 := (hA.1 e e1 e2).2
    rw [e3, h2, io_eq (by have := ord_lt hw (show d < 12 by omega); omega) (by have := ord_lt hw (show e < 12 by omega); omega)] at h4
    have := ord_inj (show d < 12 by omega) (show e < 12 by omega) h4
    subst this
    exact ⟨d, h1, e2, e3, h3⟩
theorem wat_no (hw : Wf g) {i : Nat} (hi : wks g ≤ i) (h : i < 2147483648) : wat g (Int32.ofNat i) = -1 := by
  obtain ⟨A, hA⟩ := wi_ex hw (dn g) (wf_m12 hw)
  rcases wat_at hw hA h with ⟨-, e⟩ | ⟨h, -⟩
  · exact e
  · omega
/-- exposed ones come first -/
theorem ord_xps (hw : Wf g) {d e : Nat} (he : e < 12) (h : rnk g (dn g) d < rnk g (dn g) e) (hx : xps g e = true) : xps g d = true := by
  have h1 : ord g d < ord g e := Nat.lt_of_not_le fun h2 => absurd (rnk_le (k := dn g) h2) (by omega)
  have w1 := wrk_le g d
  have w2 := wrk_le g e
  have c1 := chg_le g e
  have c4 := wf_c4 hw
  unfold ord at h1
  rw [if_pos hx] at h1
  cases hd : xps g d
  · rw [hd, if_neg (by decide)] at h1
    have h5 : 0 * 32 + 16 - wrk g e ≤ 16 := by omega
    have h6 : 32 ≤ 1 * 32 + 16 - wrk g d := by omega
    generalize 0 * 32 + 16 - wrk g e = p at *
    generalize 1 * 32 + 16 - wrk g d = q at *
    omega
  · rfl
theorem chg_ft (hw : Wf g) {k d : Nat} (hk : k < dn g) (hd : d < dn g) : chg (ftg g k) d = if d = k then 0 else chg g d := by
  have m12 := wf_m12 hw
  have c4 := wf_c4 hw
  have hh := psc_hd (g := g) (a := k) (f := ftb g k) (n := chn g)
  have hf : ∀ c q, ftb (ftg g k) d c q = ftb g d c q := fun c q => lo_ftb hw (fun i hi => psc_lo hi) hd c q
  unfold chg
  rw [show chn (ftg g k) = chn g from hh.1]
  by_cases e : d = k
  · subst e
    rw [if_pos rfl]
    have : ∀ m, m ≤ chn g → sum (fun c => cnt (fun q => pnb (ftg g d) d c q ^^ ftb (ftg g d) d c q) 6) m = 0 := by
      intro m
      induction m with
      | zero => intro _; rfl
      | succ m ih =>
        intro hm
        show sum _ m + cnt _ 6 = 0
        rw [ih (by omega), Nat.zero_add]
        refine cnt_none fun q hq => ?_
        rw [hf]
        unfold pnb
        rw [show ftg g d (67 + 4 * d + m) = bits (ftb g d m) 6 from psc_at (by omega), tb_bits _ _ (by omega) _ (by omega), decide_eq_true hq]
        simp
    exact this _ (Nat.le_refl _)
  · rw [if_neg e]
    refine sum_cong fun c hc => cnt_cong fun q hq => ?_
    rw [hf]
    unfold pnb
    rw [show ftg g k (67 + 4 * d + c) = g (67 + 4 * d + c) from psc_ot c4 (by omega) e]
theorem chg_fal (hw : Wf g) : ∀ k, k ≤ dn g → ∀ d, d < dn g → chg (fal g k) d = if d < k then 0 else chg g d
  | 0, _, d, _ => by rw [if_neg (by omega)]; rfl
  | k + 1, h, d, hd => by
    show chg (ftg (fal g k) k) d = _
    rw [chg_ft (wf_fal hw k (by omega)) (by rw [fal_dn]; omega) (by rw [fal_dn]; omega), chg_fal hw k (by omega) d hd]
    by_cases e : d = k
    · rw [if_pos e, if_pos (by omega)]
    · rw [if_neg e]
      by_cases e2 : d < k
      · rw [if_pos e2, if_pos (by omega)]
      · rw [if_neg e2, if_neg (by omega)]
theorem fas_sum (hw : Wf g) : ∀ k, k ≤ dn g → fas g k = sum (chg g) k
  | 0, _ => rfl
  | k + 1, h => by
    show fas g k + chg (fal g k) k = sum (chg g) k + chg g k
    rw [fas_sum hw k (by omega), chg_fal hw k (by omega) k (by omega), if_neg (by omega)]
theorem wks_fal (hw : Wf g) : wks (fal g (dn g)) = 0 := by
  unfold wks
  rw [fal_dn]
  refine cnt_none fun d hd => ?_
  rw [chg_fal hw _ (Nat.le_refl _) d hd, if_pos hd]
  rfl
/-- the codes stay apart -/
theorem ds_kc {g' : Nat → Int32} (hd : DSt g) (hk : kn g' = kn g) (hc : ∀ k, k < kn g → cd g' k = cd g k) : DSt g' := fun j k hj hk' h => by
  rw [hk] at hj hk'
  rw [hc j hj, hc k hk'] at h
  exact hd j k hj hk' h
theorem ds_up {i : Nat} {v : Int32} (hd : DSt g) (h5 : i ≠ 5) (h : i < 7 ∨ 23 ≤ i) (n16 : kn g ≤ 16) : DSt (upd g i v) := ds_kc hd (by unfold kn; rw [upd_no (by omega)]) fun k hk => by unfold cd; rw [upd_no (by omega)]
theorem ds_psc {f : Nat → Nat → Bool} {a n : Nat} (hd : DSt g) (n16 : kn g ≤ 16) : DSt (psc g a f n) := ds_kc hd psc_hd.2.2.2.2.2.1 fun k hk => by unfold cd; rw [psc_lo (by omega)]
theorem ds_fal (hw : Wf g) (hd : DSt g) : ∀ k, k ≤ dn g → DSt (fal g k)
  | 0, _ => hd
  | k + 1, h => ds_psc (ds_fal hw hd k (by omega)) (wf_n16 (wf_fal hw k (by omega)))
theorem dff_0 (x : Nat) : dff g x x = 0 := cnt_none fun c _ => by simp
/-- a code that may be given is no other key's -/
theorem rsn_ne (hw : Wf g) {key : Int32} {x : Nat} (h : rsn g key x = 0) {k : Nat} (hk : k < kn g) (hne : Int32.ofNat k ≠ key) : x ≠ cd g k := by
  have h2 := (wf_r2 hw).2.1
  intro e
  rw [rsn_0] at h
  have h3 := h.2
  have : apa g key x = true := by
    unfold apa
    refine exb_iff.mpr ⟨k, hk, ?_⟩
    rw [e, dff_0, decide_eq_false hne, decide_eq_true (by omega)]
    rfl
  rw [this] at h3; cases h3
theorem ds_adk (hw : Wf g) (hd : DSt g) (hn : kn g < 16) {b : Nat} {y : Int32} (hb : b < 2147483648) (h : rsn g (-1) b = 0) : DSt (adk g (Int32.ofNat b) y) := by
  have hk := (adk_hd (g := g) (x := Int32.ofNat b) (y := y) hn).2.2.1
  have e1 : cd (adk g (Int32.ofNat b) y) (kn g) = b := cd_of adk_cd hb
  have e2 : ∀ k, k < kn g → cd (adk g (Int32.ofNat b) y) k = cd g k := fun k hk => by
    unfold cd
    rw [adk_no (by omega) (by omega) (by omega) (by omega)]
  have h3 : ∀ k, k < kn g → b ≠ cd g k := fun k hk => rsn_ne hw h hk (io_nn (by omega))
  intro i j hi hj e
  rw [hk] at hi hj
  by_cases c1 : i = kn g
  · by_cases c2 : j = kn g
    · omega
    · subst c1
      rw [e1, e2 j (by omega)] at e
      exact absurd e (h3 j (by omega))
  · by_cases c2 : j = kn g
    · subst c2
      rw [e1, e2 i (by omega)] at e
      exact absurd e.symm (h3 i (by omega))
    · rw [e2 i (by omega), e2 j (by omega)] at e
      exact hd i j (by omega) (by omega) e
theorem ds_cut (hw : Wf g) (hd : DSt g) {a b : Nat} (ha : a < kn g) (hb : b < 2147483648) (h : rsn g (Int32.ofNat a) b = 0) : DSt (upd g (7 + a) (Int32.ofNat b)) := by
  have n16 := wf_n16 hw
  have hk : kn (upd g (7 + a) (Int32.ofNat b)) = kn g := (up_hd (by omega)).2.2.2.2.2.1
  have h3 : ∀ k, k < kn g → k ≠ a → b ≠ cd g k := fun k hk hne => rsn_ne hw h hk (fun e => hne (by rw [io_eq (by omega) (by omega)] at e; exact e))
  intro i j hi hj e
  rw [hk] at hi hj
  rw [cut_cd hw ha hb hi, cut_cd hw ha hb hj] at e
  by_cases c1 : i = a
  · by_cases c2 : j = a
    · omega
    · rw [if_pos c1, if_neg c2] at e
      exact absurd e (h3 j hj c2)
  · by_cases c2 : j = a
    · rw [if_neg c1, if_pos c2] at e
      exact absurd e.symm (h3 i hi c1)
    · rw [if_neg c1, if_neg c2] at e
      exact hd i j hi hj e
theorem ds_gd1 (hd : DSt g) (n16 : kn g ≤ 16) {o : Nat} : DSt (gd1 g o) := ds_kc hd (by unfold kn; rw [gd1_no (by omega) (by omega)]) fun k hk => by unfold cd; rw [gd1_no (by omega) (by omega)]
theorem ds_adg (hw : Wf g) (hd : DSt g) (hm : dn g < 12) {o : Nat} : DSt (adg g o) := ds_psc (ds_gd1 hd (wf_n16 hw)) (by rw [(gd1_hd hm).2.2.1]; exact wf_n16 hw)
end WO
