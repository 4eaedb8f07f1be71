/-! the works in order -/
def ord (g : Nat → Int32) (d : Nat) : Nat := (((if xps g d = true then 0 else 1) * 32 + 16 - wrk g d) * 32 + chg g d) * 16 + d
def wkb (g : Nat → Int32) (d : Nat) : Bool := decide (0 < chg g d)
def rnk (g : Nat → Int32) (k d : Nat) : Nat := cnt (fun o => wkb g o && decide (ord g o < ord g d)) k
def wkc (g : Nat → Int32) (k : Nat) : Nat := cnt (wkb g) k
def WI (A : Nat → Nat → Int32) (g : Nat → Int32) (k : Nat) : Prop := (∀ d, d < k → wkb g d = true → rnk g k d < wkc g k ∧ A 53 (rnk g k d) = Int32.ofNat (ord g d)) ∧ (∀ j, j < wkc g k → ∃ d, d < k ∧ wkb g d = true ∧ rnk g k d = j)
section WO
variable {g : Nat → Int32}
theorem cnt_ssub {p q : Nat → Bool} : ∀ {n i : Nat}, (∀ k, k < n → p k = true → q k = true) → i < n → q i = true → p i = false → cnt p n < cnt q n
  | 0, i, _, hi, _, _ => absurd hi (Nat.not_lt_zero i)
  | n + 1, i, h, hi, h1, h2 => by
    rw [cnt_s, cnt_s]
    rcases Nat.lt_succ_iff_lt_or_eq.mp hi with hl | hl
    · have ih := cnt_ssub (n := n) (fun k hk => h k (by omega)) hl h1 h2
      have h3 := h n (by omega)
      by_cases hp : p n = true
      · rw [if_pos hp, if_pos (h3 hp)]; omega
      · rw [if_neg hp]; split <;> omega
    · subst hl
      have ih := cnt_sub (n := i) (p := p) (q := q) (fun k hk => h k (by omega))
      rw [h2, if_neg (by decide), if_pos h1]; omega
theorem ord_lt (hw : Wf g) {d : Nat} (hd : d < 12) : ord g d < 30000 := by
  have h1 := chg_le g d
  have h2 := wf_c4 hw
  unfold ord
  split <;> omega
theorem ord_mod {g : Nat → Int32} {d : Nat} (hd : d < 12) : ord g d % 16 = d := by
  unfold ord
  omega
theorem ord_inj {g : Nat → Int32} {d e : Nat} (hd : d < 12) (he : e < 12) (h : ord g d = ord g e) : d = e := by
  have h1 := ord_mod (g := g) hd
  have h2 := ord_mod (g := g) he
  rw [h] at h1
  omega
theorem rnk_lt {g : Nat → Int32} {k d e : Nat} (hd : d < k) (hw : wkb g d = true) (h : ord g d < ord g e) : rnk g k d < rnk g k e := by
  unfold rnk
  refine cnt_ssub (i := d) (fun o _ ho => ?_) hd ?_ ?_
  · rw [Bool.and_eq_true, decide_eq_true_eq] at ho ⊢
    exact ⟨ho.1, by omega⟩
  · rw [hw, decide_eq_true h]; rfl
  · rw [decide_eq_false (Nat.lt_irrefl _), Bool.and_false]
theorem rnk_le {g : Nat → Int32} {k d e : Nat} (h : ord g d ≤ ord g e) : rnk g k d ≤ rnk g k e := by
  unfold rnk
  refine cnt_sub fun o _ ho => ?_
  rw [Bool.and_eq_true, decide_eq_true_eq] at ho ⊢
  exact ⟨ho.1, by omega⟩
theorem rnk_wk {g : Nat → Int32} {k d : Nat} (hd : d < k) (hw : wkb g d = true) : rnk g k d < wkc g k := by
  unfold rnk wkc
  refine cnt_ssub (i := d) (fun o _ ho => ?_) hd hw ?_
  · rw [Bool.and_eq_true] at ho
    exact ho.1
  · rw [decide_eq_false (Nat.lt_irrefl _), Bool.and_false]
/-- where a new one goes -/
def pos (f : Nat → Int32) (o : Int32) : Nat → Nat
  | 0 => 0
  | p + 1 => if o < f p then pos f o p else p + 1
theorem pos_le (f : Nat → Int32) (o : Int32) : ∀ p, pos f o p ≤ p
  | 0 => Nat.le_refl _
  | p + 1 => by
    have := pos_le f o p
    show (if o < f p then pos f o p else p + 1) ≤ p + 1
    split <;> omega
theorem pos_hi (f : Nat → Int32) (o : Int32) : ∀ p j, pos f o p ≤ j → j < p → o < f j
  | 0, j, _, h => absurd h (Nat.not_lt_zero j)
  | p + 1, j, h1, h2 => by
    have e : pos f o (p + 1) = if o < f p then pos f o p else p + 1 := rfl
    by_cases h : o < f p
    · rw [e, if_pos h] at h1
      by_cases hj : j = p
      · subst hj; exact h
      · exact pos_hi f o p j h1 (by omega)
    · rw [e, if_neg h] at h1; omega
theorem pos_lo (f : Nat → Int32) (o : Int32) : ∀ p, pos f o p = 0 ∨ ¬ o < f (pos f o p - 1)
  | 0 => Or.inl rfl
  | p + 1 => by
    have e : pos f o (p + 1) = if o < f p then pos f o p else p + 1 := rfl
    by_cases h : o < f p
    · rw [e, if_pos h]; exact pos_lo f o p
    · rw [e, if_neg h]; exact Or.inr h
/-- the array with the works behind p one further -/
def shA (A : Nat → Nat → Int32) (p W : Nat) : Nat → Nat → Int32 := fun b j => if b = 53 ∧ p < j ∧ j ≤ W then A 53 (j - 1) else A b j
theorem shA_W (A : Nat → Nat → Int32) (W : Nat) : shA A W W = A := funext fun b => funext fun j => if_neg (by omega)
theorem shA_no (A : Nat → Nat → Int32) (p W : Nat) {b : Nat} (h : b ≠ 53) : shA A p W b = A b := funext fun j => if_neg (by omega)
theorem shA_lo (A : Nat → Nat → Int32) {p W j : Nat} (h : j ≤ p) : shA A p W 53 j = A 53 j := if_neg (by omega)
theorem shA_s (A : Nat → Nat → Int32) {p W : Nat} (h : p + 1 ≤ W) : u2 (shA A (p + 1) W) 53 (p + 1) (A 53 p) = shA A p W := by
  funext b j
  unfold u2 shA
  by_cases h1 : b = 53 ∧ j = p + 1
  · obtain ⟨rfl, rfl⟩ := h1
    rw [if_pos ⟨rfl, rfl⟩, if_pos ⟨rfl, by omega, h⟩, Nat.add_sub_cancel]
  · rw [if_neg h1]
    by_cases h2 : b = 53 ∧ p + 1 < j ∧ j ≤ W
    · rw [if_pos h2, if_pos ⟨h2.1, by omega, h2.2.2⟩]
    · rw [if_neg h2, if_neg (by omega)]
/-- the array with a new work in it -/
def inA (A : Nat → Nat → Int32) (W : Nat) (o : Int32) : Nat → Nat → Int32 := u2 (shA A (pos (A 53) o W) W) 53 (pos (A 53) o W) o
theorem inA_no (A : Nat → Nat → Int32) (W : Nat) (o : Int32) {b : Nat} (h : b ≠ 53) : inA A W o b = A b := by
  unfold inA
  rw [u2_ne h, shA_no _ _ _ h]
theorem WI_no {A : Nat → Nat → Int32} {g : Nat → Int32} {k : Nat} (h : WI A g k) (hk : wkb g k = false) : WI A g (k + 1) ∧ wkc g (k + 1) = wkc g k := by
  have e1 : wkc g (k + 1) = wkc g k := by unfold wkc; rw [cnt_s, hk]; rfl
  have e2 : ∀ d, rnk g (k + 1) d = rnk g k d := fun d => by unfold rnk; rw [cnt_s, hk]; rfl
  refine ⟨⟨fun d hd hp => ?_, fun j hj => ?_⟩, e1⟩
  · rw [e1, e2]
    by_cases e : d = k
    · subst e; rw [hk] at hp; cases hp
    · exact h.1 d (by omega) hp
  · rw [e1] at hj
    obtain ⟨d, h1, h2, h3⟩ := h.2 j hj
    exact ⟨d, by omega, h2, by rw [e2]; exact h3⟩
theorem WI_in {A : Nat → Nat → Int32} {g : Nat → Int32} {k : Nat} (hw : Wf g) (h : WI A g k) (hk : wkb g k = true) (h12 : k < 12) : WI (inA A (wkc g k) (Int32.ofNat (ord g k))) g (k + 1) ∧ wkc g (k + 1) = wkc g k + 1 := by
  have e1 : wkc g (k + 1) = wkc g k + 1 := by unfold wkc; rw [cnt_s, hk, if_pos rfl]
  have e2 : ∀ d, rnk g (k + 1) d = if ord g k < ord g d then rnk g k d + 1 else rnk g k d := fun d => by
    unfold rnk
    rw [cnt_s, hk, Bool.true_and]
    simp only [decide_eq_true_eq]
  have hrk : rnk g k k ≤ wkc g k := cnt_sub fun o _ ho => by
    rw [Bool.and_eq_true] at ho
    exact ho.1
  have hord := ord_lt hw h12
  -- an old one stands behind the new one just when its order is higher
  have hlt : ∀ d, d < k → wkb g d = true → ((ord g k < ord g d ∧ rnk g k k ≤ rnk g k d) ∨ (¬ ord g k < ord g d ∧ rnk g k d < rnk g k k)) := fun d hd hp => by
    by_cases e : ord g k < ord g d
    · exact Or.inl ⟨e, rnk_le (by omega)⟩
    · have : ord g d ≠ ord g k := fun e3 => by have := ord_inj (by omega) h12 e3; omega
      exact Or.inr ⟨e, rnk_lt hd hp (by omega)⟩
  have hf : ∀ j, j < wkc g k → (Int32.ofNat (ord g k) < A 53 j ↔ rnk g k k ≤ j) := fun j hj => by
    obtain ⟨d, h1, h2, h3⟩ := h.2 j hj
    have ha := (h.1 d h1 h2).2
    have ho2 := ord_lt hw (show d < 12 by omega)
    rw [h3] at ha
    rw [ha, io_lt (by omega) (by omega)]
    rcases hlt d h1 h2 with ⟨a1, a2⟩ | ⟨a1, a2⟩
    · exact ⟨fun _ => by omega, fun _ => a1⟩
    · exact ⟨fun b => absurd b a1, fun b => by omega⟩
  have hq : pos (A 53) (Int32.ofNat (ord g k)) (wkc g k) = rnk g k k := by
    have p1 := pos_le (A 53) (Int32.ofNat (ord g k)) (wkc g k)
    have p2 := pos_hi (A 53) (Int32.ofNat (ord g k)) (wkc g k)
    have p3 := pos_lo (A 53) (Int32.ofNat (ord g k)) (wkc g k)
    generalize pos (A 53) (Int32.ofNat (ord g k)) (wkc g k) = q at p1 p2 p3
    rcases Nat.lt_trichotomy q (rnk g k k) with e | e | e
    · have := (hf (rnk g k k - 1) (by omega)).mp (p2 _ (by omega) (by omega))
      omega
    · exact e
    · rcases p3 with p3 | p3
      · omega
      · exact absurd ((hf (q - 1) (by omega)).mpr (by omega)) p3
  have hA : ∀ j, inA A (wkc g k) (Int32.ofNat (ord g k)) 53 j = if j = rnk g k k then Int32.ofNat (ord g k) else if rnk g k k < j ∧ j ≤ wkc g k then A 53 (j - 1) else A 53 j := fun j => by
    unfold inA
    rw [hq, u2_at]
    by_cases e : j = rnk g k k
    · rw [if_pos e, e, upd_at]
    · rw [if_neg e, upd_no e]
      unfold shA
      by_cases e3 : rnk g k k < j ∧ j ≤ wkc g k
      · rw [if_pos e3, if_pos ⟨rfl, e3⟩]
      · rw [if_neg e3, if_neg (fun z => e3 z.2)]
  have hself : rnk g (k + 1) k = rnk g k k := by rw [e2, if_neg (Nat.lt_irrefl _)]
  refine ⟨⟨fun d hd hp => ?_, fun j hj => ?_⟩, e1⟩
  · rw [e1]
    by_cases e : d = k
    · subst e
      rw [hself, hA, if_pos rfl]
      exact ⟨by omega, rfl⟩
    · obtain ⟨a1, a2⟩ := h.1 d (by omega) hp
      rw [e2, hA]
      rcases hlt d (by omega) hp with ⟨b1, b2⟩ | ⟨b1, b2⟩
      · rw [if_pos b1, if_neg (by omega), if_pos ⟨by omega, by omega⟩, Nat.add_sub_cancel]
        exact ⟨by omega, a2⟩
      · rw [if_neg b1, if_neg (by omega), if_neg (by omega)]
        exact ⟨by omega, a2⟩
  · rw [e1] at hj
    rcases Nat.lt_trichotomy j (rnk g k k) with e | e | e
    · obtain ⟨d, h1, h2, h3⟩ := h.2 j (by omega)
      refine ⟨d, by omega, h2, ?_⟩
      rw [e2]
      rcases hlt d h1 h2 with ⟨b1, b2⟩ | ⟨b1, b2⟩
      · omega
      · rw [if_neg b1]; exact h3
    · exact ⟨k, by omega, hk, by rw [hself, e]⟩
    · obtain ⟨d, h1, h2, h3⟩ := h.2 (j - 1) (by omega)
      refine ⟨d, by omega, h2, ?_⟩
      rw [e2]
      rcases hlt d h1 h2 with ⟨b1, b2⟩ | ⟨b1, b2⟩
      · rw [if_pos b1]; omega
      · omega
/-- both orders are one -/
theorem mer_ord (hw : Wf g) {d e : Nat} (hd : d < 12) (he : e < 12) : mer g d < mer g e ↔ ord g d < ord g e := by
  have a1 := chg_le g d
  have a2 := chg_le g e
  have a3 := wf_c4 hw
  have a4 := wrk_le g d
  have a5 := wrk_le g e
  have b1 : chg g d ≤ 24 := by omega
  have b2 : chg g e ≤ 24 := by omega
  unfold mer ord
  generalize chg g d = n1 at *
  generalize chg g e = n2 at *
  obtain ⟨u1, hu1⟩ : ∃ u, u + wrk g d = 16 := ⟨16 - wrk g d, by omega⟩
  obtain ⟨u2, hu2⟩ : ∃ u, u + wrk g e = 16 := ⟨16 - wrk g e, by omega⟩
  cases xps g d <;> cases xps g e <;> simp only [Bool.false_eq_true, if_true, if_false] <;> omega
theorem mz_no (hw : Wf g) {d : Nat} (hd : d < 12) : (mz g d = -1) = (wkb g d = false) := by
  unfold mz wkb
  by_cases h : chg g d = 0
  · rw [if_pos h, decide_eq_false (by omega)]; exact propext ⟨fun _ => rfl, fun _ => rfl⟩
  · rw [if_neg h, decide_eq_true (by omega)]
    have a1 := chg_le g d
    have a3 := wf_c4 hw
    have : mer g d < 2147483648 := by unfold mer; split <;> omega
    rw [io_nm this]
    simp
theorem mz_wk {d : Nat} (hp : wkb g d = true) : mz g d = Int32.ofNat (mer g d) := by
  have := of_decide_eq_true (show decide (0 < chg g d) = true from hp)
  unfold mz
  rw [if_neg (by omega)]
theorem mer_lt (hw : Wf g) {d : Nat} (hd : d < 12) : mer g d < 2147483648 := by
  have a1 := chg_le g d
  have a3 := wf_c4 hw
  unfold mer; split <;> omega
theorem wac_rnk (hw : Wf g) {d : Nat} (hd : d < dn g) (hp : wkb g d = true) : wac g d = rnk g (dn g) d := by
  have m12 := wf_m12 hw
  refine cnt_cong fun o ho => ?_
  by_cases h : wkb g o = true
  · rw [mz_wk h, mz_wk hp, h, decide_eq_false (io_nn (mer_lt hw (by omega)))]
    refine decide_eq_decide.mpr ?_
    rw [io_lt (mer_lt hw (by omega)) (mer_lt hw (by omega))]
    exact mer_ord hw (by omega) (by omega)
  · have h : wkb g o = false := by simpa using h
    have e : mz g o = -1 := by rw [mz_no hw (by omega)]; exact h
    rw [e, h]
    simp
theorem fst_no {p : Nat → Bool} : ∀ f k, k + f < 2147483648 → fst p k f = -1 → ∀ i, k ≤ i → i < k + f → p i = false
  | 0, k, _, _, i, h1, h2 => by omega
  | f + 1, k, hb, h, i, h1, h2 => by
    have e : fst p k (f + 1) = if p k = true then Int32.ofNat k else fst p (k + 1) f := rfl
    by_cases hp : p k = true
    · rw [e, if_pos hp] at h
      exact absurd h (io_nn (by omega))
    · rw [e, if_neg hp] at h
      by_cases hi : i = k
      · subst hi; simpa using hp
      · exact fst_no f (k + 1) (by omega) h i (by omega) (by omega)
theorem wat_at {A : Nat → Nat → Int32} (hw : Wf g) (h : WI A g (dn g)) {i : Nat} (hi : i < 2147483648) : (wks g ≤ i ∧ wat g (Int32.ofNat i) = -1) ∨ (i < wks g ∧ ∃ d, d < dn g ∧ A 53 i = Int32.ofNat (ord g d) ∧ wat g (Int32.ofNat i) = Int32.ofNat d) := by
  have m12 := wf_m12 hw
  have hwk : wks g = wkc g (dn g) := rfl
  have hp : ∀ d, d < dn g → ((!decide (mz g d = -1) && decide (Int32.ofNat (wac g d) = Int32.ofNat i)) = true ↔ (wkb g d = true ∧ rnk g (dn g) d = i)) := fun d hd => by
    rw [Bool.and_eq_true, Bool.not_eq_true', decide_eq_false_iff_not, decide_eq_true_eq, mz_no hw (by omega), Bool.not_eq_false]
    refine and_congr_right fun hb => ?_
    rw [wac_rnk hw hd hb]
    have hl : rnk g (dn g) d ≤ dn g := cnt_le _ _
    rw [io_eq (by omega) hi]
  rcases fst_or (fun d => !decide (mz g d = -1) && decide (Int32.ofNat (wac g d) = Int32.ofNat i)) (dn g) 0 with e | ⟨d, -, h2, e, h3⟩
  · refine Or.inl ⟨?_, e⟩
    rw [hwk]
    refine Nat.not_lt.mp fun hl => ?_
    obtain ⟨d, h1, h2, h3⟩ := h.2 i hl
    have := fst_no (dn g) 0 (by omega) e d (by omega) (by omega)
    rw [(hp d h1).mpr ⟨h2, h3⟩] at this
    cases this
  · have hd : d < dn g := by omega
    obtain ⟨a1, a2⟩ := (hp d hd).mp h3
    have := h.1 d hd a1
    rw [a2] at this
    exact Or.inr ⟨by rw [hwk]; exact this.1, d, hd, this.2, e⟩
theorem ord_io {e w n d : Nat} (hw : w ≤ 16) : ((Int32.ofNat e * 32 + 16 - Int32.ofNat w) * 32 + Int32.ofNat n) * 16 + Int32.ofNat d = Int32.ofNat (((e * 32 + 16 - w) * 32 + n) * 16 + d) := by
  rw [show (32 : Int32) = Int32.ofNat 32 from rfl, show (16 : Int32) = Int32.ofNat 16 from rfl, io_mul, io_add, io_sub (by omega), io_mul, io_add, io_mul, io_add]
end WO
section ZT
variable {G : zG} {c : Nat × Nat × Bool} {F A : Nat → Nat → Int32} {P : Nat → Nat} {W : Value} {O : Nat → Int64} {x y j k d e u v : Int32} {p q a b i n m t w : Nat} {g : Nat → Int32}
theorem t72 (hw : Wf g) (hR : Rp F A 41 g) (ha : a < dn g) : Rv 72 0 [some (.ref 41), some (.int (Int32.ofNat a))] [] (en G c F A P W O) = some (.inl (some (.int (if xps g a = true then 1 else 0))), (en G c F A P W O)) := by
  have m12 := wf_m12 hw
  rw [s72 (rp_n hR hw) (wf_n16 hw) (io_zin (show a < 2147483648 by omega) (show a < 12 by omega)), io_ix (by omega), xps_io hR hw ha]
theorem t71 (hw : Wf g) (hR : Rp F A 41 g) (ha : a < dn g) : Rv 71 0 [some (.ref 41), some (.int (Int32.ofNat a))] [] (en G c F A P W O) = some (.inl (some (.int (Int32.ofNat (wrk g a)))), (en G c F A P W O)) := by
  have m12 := wf_m12 hw
  have ho := rp_oz hR hw a ha
  rw [s71 (rp_n hR hw) (wf_n16 hw) (io_zin (show a < 2147483648 by omega) (show a < 12 by omega)) (by rw [io_ix (by omega)]; exact ho), io_ix (by omega), wrk_io hR hw ha]
theorem t79 (hw : Wf g) (hR : Rp F A 41 g) (ha : a < dn g) : Rv 79 0 [some (.ref 41), some (.int (Int32.ofNat a))] [] (en G c F A P W O) = some (.inl (some (.int (Int32.ofNat (chg g a)))), (en G c F A P W O)) := by
  have m12 := wf_m12 hw
  have ho := rp_oz hR hw a ha
  rw [s79 (rp_n hR hw) (wf_n16 hw) (io_zin (show a < 2147483648 by omega) (show a < 12 by omega)) (by rw [io_ix (by omega)]; exact ho), io_ix (by omega), cho_io hR hw ha]
theorem t89 (hw : Wf g) (hR : Rp F A 41 g) (ha : a < dn g) : Rv 89 0 [some (.ref 49), some (.int (Int32.ofNat a)), none] [] (en G c F A P W O) = some (.inl (some (.int (Int32.ofNat (ord g a)))), (en G c F A P W O)) := by
  have hwl := wrk_le g a
  simp only [↓e89_0, ↓e89_1, ↓e89_4, ↓e89_5, ↓e89_8, ↓e89_11, ↓e89_12, ↓e89_15, ↓e89_16, ↓e89_17, ↓e89_18, ↓e89_20, ↓e89_21, ↓e89_23, ↓e89_24, ↓e89_25, ↓e89_28, ↓e89_29, ↓e89_32, ↓e89_33, ↓e89_34, ↓e89_35, ↓e89_37, ↓e89_38, ↓e89_39, ↓e89_42, ↓e89_43, ↓e89_46, ↓e89_47, ↓e89_48, ↓e89_49, ↓e89_51, ↓e89_52, ↓e89_53, ↓e89_54, ↓ldI_0, ↓ldI_s, ↓ldA_0, ↓ldA_n, ↓ldA_s, ↓ldL_0, ↓ldL_s, ↓lst_0, ↓lst_s, ↓cal_v, ↓cal_x, ↓vts_s, ↓vts_n, ↓lpr_0, ↓lpr_i, ↓lpr_r, ↓lpr_n, ↓lpr_s, PA_41, ↓reduceIte, or_true, true_or, ↓ho_40, ↓gf_40_0, ↓gf_40_1, ↓gf_40_2, ↓gf_40_3, ↓ho_49, ↓gf_49_0, ↓gf_49_1, ↓gf_49_2, ↓gf_49_3, ↓pf_49_3, ↓ho_50, ↓gf_50_0, ↓gf_50_1, ↓gf_50_2, ↓pf_50_2, ↓gf_50_3, ↓pf_50_3, ↓gf_50_4, ↓pf_50_4, ↓gf_50_5, ↓pf_50_5, ↓gf_50_6, ↓pf_50_6, ↓ho_54, ↓gf_54_0, ↓gf_54_1, ↓pf_54_1, ↓ho_88, ↓gf_88_0, ↓gf_88_1, ↓pf_88_1, ↓gf_88_2, ↓pf_88_2, ↓gf_88_3, ↓pf_88_3, ↓gf_88_4, ↓pf_88_4, ↓gf_88_5, ↓pf_88_5, ↓gf_41_0, ↓pf_41_0, ↓gf_41_1, ↓pf_41_1, ↓gf_41_2, ↓gf_41_3, ↓pf_41_3, ↓gf_41_4, ↓gf_41_5, ↓gf_41_6, ↓gf_41_7, ↓gf_41_8, ↓pf_41_8, ↓gf_41_9, ↓pf_41_9, ↓gf_41_10, ↓gf_41_11, ↓ho_41, ↓gi_42, ↓pi_42, ↓gi_43, ↓pi_43, ↓gi_44, ↓pi_44, ↓gi_45, ↓pi_45, ↓gi_46, ↓pi_46, ↓gi_47, ↓pi_47, ↓gi_48, ↓pi_48, ↓gi_51, ↓pi_51, ↓gi_52, ↓pi_52, ↓gi_53, ↓pi_53, ↓gi_89, ↓pi_89, ↓gi_1, ↓gn_1, ↓gr_55, ↓pr_55, t72 hw hR ha, t71 hw hR ha, t79 hw hR ha]
  unfold ord
  by_cases h : xps g a = true
  · simp only [h, if_true, one_ne, if_false]
    exact congrArg (fun z => some (Sum.inl (some (Value.int z)), _)) (ord_io (e := 0) hwl)
  · simp only [h, if_false, if_true, Bool.false_eq_true]
    exact congrArg (fun z => some (Sum.inl (some (Value.int z)), _)) (ord_io (e := 1) hwl)
theorem l90 {Wn : Nat} (hW : F 49 3 = Int32.ofNat Wn) (h12 : Wn < 12) : ∀ p, p ≤ Wn → Rv 90 5 [some (.ref 49), some (.int x), some (.int (Int32.ofNat p))] [] (en G c F (shA A p Wn) P W O) = some (.inl none, en G c (u2 F 49 3 (Int32.ofNat (Wn + 1))) (u2 (shA A (pos (A 53) x p) Wn) 53 (pos (A 53) x p) x) P W O) := by
  intro p
  induction p with
  | zero =>
    intro _
    rw [h90_5]
    simp only [↓e90_0, ↓e90_1, ↓e90_4, ↓e90_6, ↓e90_9, ↓e90_10, ↓e90_13, ↓e90_14, ↓e90_15, ↓e90_16, ↓e90_17, ↓e90_18, ↓e90_21, ↓e90_22, ↓e90_25, ↓e90_26, ↓e90_27, ↓e90_30, ↓e90_31, ↓e90_32, ↓e90_33, ↓e90_34, ↓e90_35, ↓e90_38, ↓e90_41, ↓e90_42, ↓e90_45, ↓e90_46, ↓e90_47, ↓e90_48, ↓e90_49, ↓e90_50, ↓e90_53, ↓e90_54, ↓e90_55, ↓e90_58, ↓ldI_0, ↓ldI_s, ↓ldA_0, ↓ldA_n, ↓ldA_s, ↓ldL_0, ↓ldL_s, ↓lst_0, ↓lst_s, ↓cal_v, ↓cal_x, ↓vts_s, ↓vts_n, ↓lpr_0, ↓lpr_i, ↓lpr_r, ↓lpr_n, ↓lpr_s, PA_41, ↓reduceIte, or_true, true_or, ↓ho_40, ↓gf_40_0, ↓gf_40_1, ↓gf_40_2, ↓gf_40_3, ↓ho_49, ↓gf_49_0, ↓gf_49_1, ↓gf_49_2, ↓gf_49_3, ↓pf_49_3, ↓ho_50, ↓gf_50_0, ↓gf_50_1, ↓gf_50_2, ↓pf_50_2, ↓gf_50_3, ↓pf_50_3, ↓gf_50_4, ↓pf_50_4, ↓gf_50_5, ↓pf_50_5, ↓gf_50_6, ↓pf_50_6, ↓ho_54, ↓gf_54_0, ↓gf_54_1, ↓pf_54_1, ↓ho_88, ↓gf_88_0, ↓gf_88_1, ↓pf_88_1, ↓gf_88_2, ↓pf_88_2, ↓gf_88_3, ↓pf_88_3, ↓gf_88_4, ↓pf_88_4, ↓gf_88_5, ↓pf_88_5, ↓gf_41_0, ↓pf_41_0, ↓gf_41_1, ↓pf_41_1, ↓gf_41_2, ↓gf_41_3, ↓pf_41_3, ↓gf_41_4, ↓gf_41_5, ↓gf_41_6, ↓gf_41_7, ↓gf_41_8, ↓pf_41_8, ↓gf_41_9, ↓pf_41_9, ↓gf_41_10, ↓gf_41_11, ↓ho_41, ↓gi_42, ↓pi_42, ↓gi_43, ↓pi_43, ↓gi_44, ↓pi_44, ↓gi_45, ↓pi_45, ↓gi_46, ↓pi_46, ↓gi_47, ↓pi_47, ↓gi_48, ↓pi_48, ↓gi_51, ↓pi_51, ↓gi_52, ↓pi_52, ↓gi_53, ↓pi_53, ↓gi_89, ↓pi_89, ↓gi_1, ↓gn_1, ↓gr_55, ↓pr_55, show ((0 : Int32) < Int32.ofNat 0) = False from by decide, io_zin (show 0 < 2147483648 by omega) (show 0 < 12 by omega), io_ix (show 0 < 2147483648 by omega), hW, io_succ, pos]
  | succ p ih =>
    intro hp
    rw [h90_5]
    simp only [↓e90_0, ↓e90_1, ↓e90_4, ↓e90_6, ↓e90_9, ↓e90_10, ↓e90_13, ↓e90_14, ↓e90_15, ↓e90_16, ↓e90_17, ↓e90_18, ↓e90_21, ↓e90_22, ↓e90_25, ↓e90_26, ↓e90_27, ↓e90_30, ↓e90_31, ↓e90_32, ↓e90_33, ↓e90_34, ↓e90_35, ↓e90_38, ↓e90_41, ↓e90_42, ↓e90_45, ↓e90_46, ↓e90_47, ↓e90_48, ↓e90_49, ↓e90_50, ↓e90_53, ↓e90_54, ↓e90_55, ↓e90_58, ↓ldI_0, ↓ldI_s, ↓ldA_0, ↓ldA_n, ↓ldA_s, ↓ldL_0, ↓ldL_s, ↓lst_0, ↓lst_s, ↓cal_v, ↓cal_x, ↓vts_s, ↓vts_n, ↓lpr_0, ↓lpr_i, ↓lpr_r, ↓lpr_n, ↓lpr_s, PA_41, ↓reduceIte, or_true, true_or, ↓ho_40, ↓gf_40_0, ↓gf_40_1, ↓gf_40_2, ↓gf_40_3, ↓ho_49, ↓gf_49_0, ↓gf_49_1, ↓gf_49_2, ↓gf_49_3, ↓pf_49_3, ↓ho_50, ↓gf_50_0, ↓gf_50_1, ↓gf_50_2, ↓pf_50_2, ↓gf_50_3, ↓pf_50_3, ↓gf_50_4, ↓pf_50_4, ↓gf_50_5, ↓pf_50_5, ↓gf_50_6, ↓pf_50_6, ↓ho_54, ↓gf_54_0, ↓gf_54_1, ↓pf_54_1, ↓ho_88, ↓gf_88_0, ↓gf_88_1, ↓pf_88_1, ↓gf_88_2, ↓pf_88_2, ↓gf_88_3, ↓pf_88_3, ↓gf_88_4, ↓pf_88_4, ↓gf_88_5, ↓pf_88_5, ↓gf_41_0, ↓pf_41_0, ↓gf_41_1, ↓pf_41_1, ↓gf_41_2, ↓gf_41_3, ↓pf_41_3, ↓gf_41_4, ↓gf_41_5, ↓gf_41_6, ↓gf_41_7, ↓gf_41_8, ↓pf_41_8, ↓gf_41_9, ↓pf_41_9, ↓gf_41_10, ↓gf_41_11, ↓ho_41, ↓gi_42, ↓pi_42, ↓gi_43, ↓pi_43, ↓gi_44, ↓pi_44, ↓gi_45, ↓pi_45, ↓gi_46, ↓pi_46, ↓gi_47, ↓pi_47, ↓gi_48, ↓pi_48, ↓gi_51, ↓pi_51, ↓gi_52, ↓pi_52, ↓gi_53, ↓pi_53, ↓gi_89, ↓pi_89, ↓gi_1, ↓gn_1, ↓gr_55, ↓pr_55, show (0 : Int32) < Int32.ofNat (p + 1) from by rw [show (0 : Int32) = Int32.ofNat 0 from rfl, io_lt (by omega) (by omega)]; omega, io_pred, io_zin (show p < 2147483648 by omega) (show p < 12 by omega), io_ix (show p < 2147483648 by omega), io_zin (show p + 1 < 2147483648 by omega) (show p + 1 < 12 by omega), io_ix (show p + 1 < 2147483648 by omega), shA_lo A (show p ≤ p + 1 by omega), pos]
    by_cases h : x < A 53 p
    · simp only [h, if_true, ↓e90_0, ↓e90_1, ↓e90_4, ↓e90_6, ↓e90_9, ↓e90_10, ↓e90_13, ↓e90_14, ↓e90_15, ↓e90_16, ↓e90_17, ↓e90_18, ↓e90_21, ↓e90_22, ↓e90_25, ↓e90_26, ↓e90_27, ↓e90_30, ↓e90_31, ↓e90_32, ↓e90_33, ↓e90_34, ↓e90_35, ↓e90_38, ↓e90_41, ↓e90_42, ↓e90_45, ↓e90_46, ↓e90_47, ↓e90_48, ↓e90_49, ↓e90_50, ↓e90_53, ↓e90_54, ↓e90_55, ↓e90_58, ↓ldI_0, ↓ldI_s, ↓ldA_0, ↓ldA_n, ↓ldA_s, ↓ldL_0, ↓ldL_s, ↓lst_0, ↓lst_s, ↓cal_v, ↓cal_x, ↓vts_s, ↓vts_n, ↓lpr_0, ↓lpr_i, ↓lpr_r, ↓lpr_n, ↓lpr_s, PA_41, ↓reduceIte, or_true, true_or, ↓ho_40, ↓gf_40_0, ↓gf_40_1, ↓gf_40_2, ↓gf_40_3, ↓ho_49, ↓gf_49_0, ↓gf_49_1, ↓gf_49_2, ↓gf_49_3, ↓pf_49_3, ↓ho_50, ↓gf_50_0, ↓gf_50_1, ↓gf_50_2, ↓pf_50_2, ↓gf_50_3, ↓pf_50_3, ↓gf_50_4, ↓pf_50_4, ↓gf_50_5, ↓pf_50_5, ↓gf_50_6, ↓pf_50_6, ↓ho_54, ↓gf_54_0, ↓gf_54_1, ↓pf_54_1, ↓ho_88, ↓gf_88_0, ↓gf_88_1, ↓pf_88_1, ↓gf_88_2, ↓pf_88_2, ↓gf_88_3, ↓pf_88_3, ↓gf_88_4, ↓pf_88_4, ↓gf_88_5, ↓pf_88_5, ↓gf_41_0, ↓pf_41_0, ↓gf_41_1, ↓pf_41_1, ↓gf_41_2, ↓gf_41_3, ↓pf_41_3, ↓gf_41_4, ↓gf_41_5, ↓gf_41_6, ↓gf_41_7, ↓gf_41_8, ↓pf_41_8, ↓gf_41_9, ↓pf_41_9, ↓gf_41_10, ↓gf_41_11, ↓ho_41, ↓gi_42, ↓pi_42, ↓gi_43, ↓pi_43, ↓gi_44, ↓pi_44, ↓gi_45, ↓pi_45, ↓gi_46, ↓pi_46, ↓gi_47, ↓pi_47, ↓gi_48, ↓pi_48, ↓gi_51, ↓pi_51, ↓gi_52, ↓pi_52, ↓gi_53, ↓pi_53, ↓gi_89, ↓pi_89, ↓gi_1, ↓gn_1, ↓gr_55, ↓pr_55, io_pred, io_m1, io_zin (show p < 2147483648 by omega) (show p < 12 by omega), io_ix (show p < 2147483648 by omega), io_zin (show p + 1 < 2147483648 by omega) (show p + 1 < 12 by omega), io_ix (show p + 1 < 2147483648 by omega), shA_lo A (show p ≤ p + 1 by omega), shA_s A hp, ih (by omega)]
    · simp only [h, if_false, ↓e90_0, ↓e90_1, ↓e90_4, ↓e90_6, ↓e90_9, ↓e90_10, ↓e90_13, ↓e90_14, ↓e90_15, ↓e90_16, ↓e90_17, ↓e90_18, ↓e90_21, ↓e90_22, ↓e90_25, ↓e90_26, ↓e90_27, ↓e90_30, ↓e90_31, ↓e90_32, ↓e90_33, ↓e90_34, ↓e90_35, ↓e90_38, ↓e90_41, ↓e90_42, ↓e90_45, ↓e90_46, ↓e90_47, ↓e90_48, ↓e90_49, ↓e90_50, ↓e90_53, ↓e90_54, ↓e90_55, ↓e90_58, ↓ldI_0, ↓ldI_s, ↓ldA_0, ↓ldA_n, ↓ldA_s, ↓ldL_0, ↓ldL_s, ↓lst_0, ↓lst_s, ↓cal_v, ↓cal_x, ↓vts_s, ↓vts_n, ↓lpr_0, ↓lpr_i, ↓lpr_r, ↓lpr_n, ↓lpr_s, PA_41, ↓reduceIte, or_true, true_or, ↓ho_40, ↓gf_40_0, ↓gf_40_1, ↓gf_40_2, ↓gf_40_3, ↓ho_49, ↓gf_49_0, ↓gf_49_1, ↓gf_49_2, ↓gf_49_3, ↓pf_49_3, ↓ho_50, ↓gf_50_0, ↓gf_50_1, ↓gf_50_2, ↓pf_50_2, ↓gf_50_3, ↓pf_50_3, ↓gf_50_4, ↓pf_50_4, ↓gf_50_5, ↓pf_50_5, ↓gf_50_6, ↓pf_50_6, ↓ho_54, ↓gf_54_0, ↓gf_54_1, ↓pf_54_1, ↓ho_88, ↓gf_88_0, ↓gf_88_1, ↓pf_88_1, ↓gf_88_2, ↓pf_88_2, ↓gf_88_3, ↓pf_88_3, ↓gf_88_4, ↓pf_88_4, ↓gf_88_5, ↓pf_88_5, ↓gf_41_0, ↓pf_41_0, ↓gf_41_1, ↓pf_41_1, ↓gf_41_2, ↓gf_41_3, ↓pf_41_3, ↓gf_41_4, ↓gf_41_5, ↓gf_41_6, ↓gf_41_7, ↓gf_41_8, ↓pf_41_8, ↓gf_41_9, ↓pf_41_9, ↓gf_41_10, ↓gf_41_11, ↓ho_41, ↓gi_42, ↓pi_42, ↓gi_43, ↓pi_43, ↓gi_44, ↓pi_44, ↓gi_45, ↓pi_45, ↓gi_46, ↓pi_46, ↓gi_47, ↓pi_47, ↓gi_48, ↓pi_48, ↓gi_51, ↓pi_51, ↓gi_52, ↓pi_52, ↓gi_53, ↓pi_53, ↓gi_89, ↓pi_89, ↓gi_1, ↓gn_1, ↓gr_55, ↓pr_55, io_zin (show p + 1 < 2147483648 by omega) (show p + 1 < 12 by omega), io_ix (show p + 1 < 2147483648 by omega), hW, io_succ]
theorem t90 {Wn : Nat} (hW : F 49 3 = Int32.ofNat Wn) (h12 : Wn < 12) : Rv 90 0 [some (.ref 49), some (.int x), none] [] (en G c F A P W O) = some (.inl none, en G c (u2 F 49 3 (Int32.ofNat (Wn + 1))) (inA A Wn x) P W O) := by
  have h := l90 (G := G) (c := c) (F := F) (A := A) (P := P) (W := W) (O := O) (x := x) hW h12 Wn (Nat.le_refl _)
  rw [shA_W] at h
  simp only [↓e90_0, ↓e90_1, ↓e90_4, ↓e90_6, ↓e90_9, ↓e90_10, ↓e90_13, ↓e90_14, ↓e90_15, ↓e90_16, ↓e90_17, ↓e90_18, ↓e90_21, ↓e90_22, ↓e90_25, ↓e90_26, ↓e90_27, ↓e90_30, ↓e90_31, ↓e90_32, ↓e90_33, ↓e90_34, ↓e90_35, ↓e90_38, ↓e90_41, ↓e90_42, ↓e90_45, ↓e90_46, ↓e90_47, ↓e90_48, ↓e90_49, ↓e90_50, ↓e90_53, ↓e90_54, ↓e90_55, ↓e90_58, ↓ldI_0, ↓ldI_s, ↓ldA_0, ↓ldA_n, ↓ldA_s, ↓ldL_0, ↓ldL_s, ↓lst_0, ↓lst_s, ↓cal_v, ↓cal_x, ↓vts_s, ↓vts_n, ↓lpr_0, ↓lpr_i, ↓lpr_r, ↓lpr_n, ↓lpr_s, PA_41, ↓reduceIte, or_true, true_or, ↓ho_40, ↓gf_40_0, ↓gf_40_1, ↓gf_40_2, ↓gf_40_3, ↓ho_49, ↓gf_49_0, ↓gf_49_1, ↓gf_49_2, ↓gf_49_3, ↓pf_49_3, ↓ho_50, ↓gf_50_0, ↓gf_50_1, ↓gf_50_2, ↓pf_50_2, ↓gf_50_3, ↓pf_50_3, ↓gf_50_4, ↓pf_50_4, ↓gf_50_5, ↓pf_50_5, ↓gf_50_6, ↓pf_50_6, ↓ho_54, ↓gf_54_0, ↓gf_54_1, ↓pf_54_1, ↓ho_88, ↓gf_88_0, ↓gf_88_1, ↓pf_88_1, ↓gf_88_2, ↓pf_88_2, ↓gf_88_3, ↓pf_88_3, ↓gf_88_4, ↓pf_88_4, ↓gf_88_5, ↓pf_88_5, ↓gf_41_0, ↓pf_41_0, ↓gf_41_1, ↓pf_41_1, ↓gf_41_2, ↓gf_41_3, ↓pf_41_3, ↓gf_41_4, ↓gf_41_5, ↓gf_41_6, ↓gf_41_7, ↓gf_41_8, ↓pf_41_8, ↓gf_41_9, ↓pf_41_9, ↓gf_41_10, ↓gf_41_11, ↓ho_41, ↓gi_42, ↓pi_42, ↓gi_43, ↓pi_43, ↓gi_44, ↓pi_44, ↓gi_45, ↓pi_45, ↓gi_46, ↓pi_46, ↓gi_47, ↓pi_47, ↓gi_48, ↓pi_48, ↓gi_51, ↓pi_51, ↓gi_52, ↓pi_52, ↓gi_53, ↓pi_53, ↓gi_89, ↓pi_89, ↓gi_1, ↓gn_1, ↓gr_55, ↓pr_55, hW, h]
  rfl
theorem t88 (hw : Wf g) (hR : Rp F A 41 g) : ∃ A', (∀ b, b ≠ 53 → A' b = A b) ∧ WI A' g (dn g) ∧ Rv 88 0 [some (.ref 49), none] [] (en G c F A P W O) = some (.inl none, en G c (u2 F 49 3 (Int32.ofNat (wks g))) A' P W O) := by
  have m12 := wf_m12 hw
  have key : ∀ k, k ≤ dn g → ∃ A', (∀ b, b ≠ 53 → A' b = A b) ∧ WI A' g k ∧ Rv 88 7 [some (.ref 49), some (.int 0)] [] (en G c (u2 F 49 3 0) A P W O) = Rv 88 7 [some (.ref 49), some (.int (Int32.ofNat k))] [] (en G c (u2 F 49 3 (Int32.ofNat (wkc g k))) A' P W O) := by
    intro k
    induction k with
    | zero => intro _; exact ⟨A, fun _ _ => rfl, ⟨fun d hd => absurd hd (Nat.not_lt_zero d), fun j hj => absurd hj (Nat.not_lt_zero j)⟩, rfl⟩
    | succ k ih =>
      intro hk
      obtain ⟨A', a1, a2, a3⟩ := ih (by omega)
      have hR' : Rp (u2 F 49 3 (Int32.ofNat (wkc g k))) A' 41 g := rp_cg hR (u2_ne (by omega)) fun i h1 h2 => a1 _ (by omega)
      have hcl := chg_le g k
      have c4 := wf_c4 hw
      have hwc : wkc g k ≤ k := cnt_le _ _
      have hF : u2 F 49 3 (Int32.ofNat (wkc g k)) 49 3 = Int32.ofNat (wkc g k) := by rw [u2_at, upd_at]
      have h0 : ((0 : Int32) < Int32.ofNat (chg g k)) = (0 < chg g k) := io_lt (a := 0) (by omega) (by omega)
      have hm : u2 F 49 3 (Int32.ofNat (wkc g k)) 41 9 = Int32.ofNat (dn g) := rp_m hR' hw
      by_cases h : wkb g k = true
      · have h1 : 0 < chg g k := of_decide_eq_true h
        have hin := WI_in hw a2 h (show k < 12 by omega)
        refine ⟨inA A' (wkc g k) (Int32.ofNat (ord g k)), fun b hb => by rw [inA_no _ _ _ hb, a1 b hb], hin.1, ?_⟩
        rw [a3, h88_7, hin.2]
        simp only [↓e88_0, ↓e88_1, ↓e88_2, ↓e88_5, ↓e88_6, ↓e88_8, ↓e88_9, ↓e88_12, ↓e88_15, ↓e88_18, ↓e88_19, ↓e88_22, ↓e88_23, ↓e88_26, ↓e88_29, ↓e88_30, ↓e88_31, ↓e88_32, ↓e88_35, ↓e88_38, ↓e88_41, ↓e88_44, ↓ldI_0, ↓ldI_s, ↓ldA_0, ↓ldA_n, ↓ldA_s, ↓ldL_0, ↓ldL_s, ↓lst_0, ↓lst_s, ↓cal_v, ↓cal_x, ↓vts_s, ↓vts_n, ↓lpr_0, ↓lpr_i, ↓lpr_r, ↓lpr_n, ↓lpr_s, PA_41, ↓reduceIte, or_true, true_or, ↓ho_40, ↓gf_40_0, ↓gf_40_1, ↓gf_40_2, ↓gf_40_3, ↓ho_49, ↓gf_49_0, ↓gf_49_1, ↓gf_49_2, ↓gf_49_3, ↓pf_49_3, ↓ho_50, ↓gf_50_0, ↓gf_50_1, ↓gf_50_2, ↓pf_50_2, ↓gf_50_3, ↓pf_50_3, ↓gf_50_4, ↓pf_50_4, ↓gf_50_5, ↓pf_50_5, ↓gf_50_6, ↓pf_50_6, ↓ho_54, ↓gf_54_0, ↓gf_54_1, ↓pf_54_1, ↓ho_88, ↓gf_88_0, ↓gf_88_1, ↓pf_88_1, ↓gf_88_2, ↓pf_88_2, ↓gf_88_3, ↓pf_88_3, ↓gf_88_4, ↓pf_88_4, ↓gf_88_5, ↓pf_88_5, ↓gf_41_0, ↓pf_41_0, ↓gf_41_1, ↓pf_41_1, ↓gf_41_2, ↓gf_41_3, ↓pf_41_3, ↓gf_41_4, ↓gf_41_5, ↓gf_41_6, ↓gf_41_7, ↓gf_41_8, ↓pf_41_8, ↓gf_41_9, ↓pf_41_9, ↓gf_41_10, ↓gf_41_11, ↓ho_41, ↓gi_42, ↓pi_42, ↓gi_43, ↓pi_43, ↓gi_44, ↓pi_44, ↓gi_45, ↓pi_45, ↓gi_46, ↓pi_46, ↓gi_47, ↓pi_47, ↓gi_48, ↓pi_48, ↓gi_51, ↓pi_51, ↓gi_52, ↓pi_52, ↓gi_53, ↓pi_53, ↓gi_89, ↓pi_89, ↓gi_1, ↓gn_1, ↓gr_55, ↓pr_55, hm, io_lt (show k < 2147483648 by omega) (show dn g < 2147483648 by omega), show k < dn g by omega, t79 hw hR' (show k < dn g by omega), h0, h1, t89 hw hR' (show k < dn g by omega), t90 hF (show wkc g k < 12 by omega), u2_u2, io_succ]
      · have h : wkb g k = false := by simpa using h
        have h1 : ¬ 0 < chg g k := of_decide_eq_false h
        have hno := WI_no a2 h
        refine ⟨A', a1, hno.1, ?_⟩
        rw [a3, h88_7, hno.2]
        simp only [↓e88_0, ↓e88_1, ↓e88_2, ↓e88_5, ↓e88_6, ↓e88_8, ↓e88_9, ↓e88_12, ↓e88_15, ↓e88_18, ↓e88_19, ↓e88_22, ↓e88_23, ↓e88_26, ↓e88_29, ↓e88_30, ↓e88_31, ↓e88_32, ↓e88_35, ↓e88_38, ↓e88_41, ↓e88_44, ↓ldI_0, ↓ldI_s, ↓ldA_0, ↓ldA_n, ↓ldA_s, ↓ldL_0, ↓ldL_s, ↓lst_0, ↓lst_s, ↓cal_v, ↓cal_x, ↓vts_s, ↓vts_n, ↓lpr_0, ↓lpr_i, ↓lpr_r, ↓lpr_n, ↓lpr_s, PA_41, ↓reduceIte, or_true, true_or, ↓ho_40, ↓gf_40_0, ↓gf_40_1, ↓gf_40_2, ↓gf_40_3, ↓ho_49, ↓gf_49_0, ↓gf_49_1, ↓gf_49_2, ↓gf_49_3, ↓pf_49_3, ↓ho_50, ↓gf_50_0, ↓gf_50_1, ↓gf_50_2, ↓pf_50_2, ↓gf_50_3, ↓pf_50_3, ↓gf_50_4, ↓pf_50_4, ↓gf_50_5, ↓pf_50_5, ↓gf_50_6, ↓pf_50_6, ↓ho_54, ↓gf_54_0, ↓gf_54_1, ↓pf_54_1, ↓ho_88, ↓gf_88_0, ↓gf_88_1, ↓pf_88_1, ↓gf_88_2, ↓pf_88_2, ↓gf_88_3, ↓pf_88_3, ↓gf_88_4, ↓pf_88_4, ↓gf_88_5, ↓pf_88_5, ↓gf_41_0, ↓pf_41_0, ↓gf_41_1, ↓pf_41_1, ↓gf_41_2, ↓gf_41_3, ↓pf_41_3, ↓gf_41_4, ↓gf_41_5, ↓gf_41_6, ↓gf_41_7, ↓gf_41_8, ↓pf_41_8, ↓gf_41_9, ↓pf_41_9, ↓gf_41_10, ↓gf_41_11, ↓ho_41, ↓gi_42, ↓pi_42, ↓gi_43, ↓pi_43, ↓gi_44, ↓pi_44, ↓gi_45, ↓pi_45, ↓gi_46, ↓pi_46, ↓gi_47, ↓pi_47, ↓gi_48, ↓pi_48, ↓gi_51, ↓pi_51, ↓gi_52, ↓pi_52, ↓gi_53, ↓pi_53, ↓gi_89, ↓pi_89, ↓gi_1, ↓gn_1, ↓gr_55, ↓pr_55, hm, io_lt (show k < 2147483648 by omega) (show dn g < 2147483648 by omega), show k < dn g by omega, t79 hw hR' (show k < dn g by omega), h0, h1, io_succ]
  obtain ⟨A', a1, a2, a3⟩ := key (dn g) (Nat.le_refl _)
  refine ⟨A', a1, a2, ?_⟩
  have hm : u2 F 49 3 (Int32.ofNat (wkc g (dn g))) 41 9 = Int32.ofNat (dn g) := by rw [u2_ne (by omega)]; exact rp_m hR hw
  simp only [↓e88_0, ↓e88_1, ↓e88_2, ↓e88_5, ↓e88_6, ↓e88_8, ↓e88_9, ↓e88_12, ↓e88_15, ↓e88_18, ↓e88_19, ↓e88_22, ↓e88_23, ↓e88_26, ↓e88_29, ↓e88_30, ↓e88_31, ↓e88_32, ↓e88_35, ↓e88_38, ↓e88_41, ↓e88_44, ↓ldI_0, ↓ldI_s, ↓ldA_0, ↓ldA_n, ↓ldA_s, ↓ldL_0, ↓ldL_s, ↓lst_0, ↓lst_s, ↓cal_v, ↓cal_x, ↓vts_s, ↓vts_n, ↓lpr_0, ↓lpr_i, ↓lpr_r, ↓lpr_n, ↓lpr_s, PA_41, ↓reduceIte, or_true, true_or, ↓ho_40, ↓gf_40_0, ↓gf_40_1, ↓gf_40_2, ↓gf_40_3, ↓ho_49, ↓gf_49_0, ↓gf_49_1, ↓gf_49_2, ↓gf_49_3, ↓pf_49_3, ↓ho_50, ↓gf_50_0, ↓gf_50_1, ↓gf_50_2, ↓pf_50_2, ↓gf_50_3, ↓pf_50_3, ↓gf_50_4, ↓pf_50_4, ↓gf_50_5, ↓pf_50_5, ↓gf_50_6, ↓pf_50_6, ↓ho_54, ↓gf_54_0, ↓gf_54_1, ↓pf_54_1, ↓ho_88, ↓gf_88_0, ↓gf_88_1, ↓pf_88_1, ↓gf_88_2, ↓pf_88_2, ↓gf_88_3, ↓pf_88_3, ↓gf_88_4, ↓pf_88_4, ↓gf_88_5, ↓pf_88_5, ↓gf_41_0, ↓pf_41_0, ↓gf_41_1, ↓pf_41_1, ↓gf_41_2, ↓gf_41_3, ↓pf_41_3, ↓gf_41_4, ↓gf_41_5, ↓gf_41_6, ↓gf_41_7, ↓gf_41_8, ↓pf_41_8, ↓gf_41_9, ↓pf_41_9, ↓gf_41_10, ↓gf_41_11, ↓ho_41, ↓gi_42, ↓pi_42, ↓gi_43, ↓pi_43, ↓gi_44, ↓pi_44, ↓gi_45, ↓pi_45, ↓gi_46, ↓pi_46, ↓gi_47, ↓pi_47, ↓gi_48, ↓pi_48, ↓gi_51, ↓pi_51, ↓gi_52, ↓pi_52, ↓gi_53, ↓pi_53, ↓gi_89, ↓pi_89, ↓gi_1, ↓gn_1, ↓gr_55, ↓pr_55, a3]
  rw [h88_7]
  simp only [↓e88_0, ↓e88_1, ↓e88_2, ↓e88_5, ↓e88_6, ↓e88_8, ↓e88_9, ↓e88_12, ↓e88_15, ↓e88_18, ↓e88_19, ↓e88_22, ↓e88_23, ↓e88_26, ↓e88_29, ↓e88_30, ↓e88_31, ↓e88_32, ↓e88_35, ↓e88_38, ↓e88_41, ↓e88_44, ↓ldI_0, ↓ldI_s, ↓ldA_0, ↓ldA_n, ↓ldA_s, ↓ldL_0, ↓ldL_s, ↓lst_0, ↓lst_s, ↓cal_v, ↓cal_x, ↓vts_s, ↓vts_n, ↓lpr_0, ↓lpr_i, ↓lpr_r, ↓lpr_n, ↓lpr_s, PA_41, ↓reduceIte, or_true, true_or, ↓ho_40, ↓gf_40_0, ↓gf_40_1, ↓gf_40_2, ↓gf_40_3, ↓ho_49, ↓gf_49_0, ↓gf_49_1, ↓gf_49_2, ↓gf_49_3, ↓pf_49_3, ↓ho_50, ↓gf_50_0, ↓gf_50_1, ↓gf_50_2, ↓pf_50_2, ↓gf_50_3, ↓pf_50_3, ↓gf_50_4, ↓pf_50_4, ↓gf_50_5, ↓pf_50_5, ↓gf_50_6, ↓pf_50_6, ↓ho_54, ↓gf_54_0, ↓gf_54_1, ↓pf_54_1, ↓ho_88, ↓gf_88_0, ↓gf_88_1, ↓pf_88_1, ↓gf_88_2, ↓pf_88_2, ↓gf_88_3, ↓pf_88_3, ↓gf_88_4, ↓pf_88_4, ↓gf_88_5, ↓pf_88_5, ↓gf_41_0, ↓pf_41_0, ↓gf_41_1, ↓pf_41_1, ↓gf_41_2, ↓gf_41_3, ↓pf_41_3, ↓gf_41_4, ↓gf_41_5, ↓gf_41_6, ↓gf_41_7, ↓gf_41_8, ↓pf_41_8, ↓gf_41_9, ↓pf_41_9, ↓gf_41_10, ↓gf_41_11, ↓ho_41, ↓gi_42, ↓pi_42, ↓gi_43, ↓pi_43, ↓gi_44, ↓pi_44, ↓gi_45, ↓pi_45, ↓gi_46, ↓pi_46, ↓gi_47, ↓pi_47, ↓gi_48, ↓pi_48, ↓gi_51, ↓pi_51, ↓gi_52, ↓pi_52, ↓gi_53, ↓pi_53, ↓gi_89, ↓pi_89, ↓gi_1, ↓gn_1, ↓gr_55, ↓pr_55, hm, Int32.lt_irrefl]
  rfl
theorem t91 (hw : Wf g) (hR : Rp F A 41 g) (hW : F 49 3 = Int32.ofNat (wks g)) (hI : WI A g (dn g)) (hi : i < 2147483648) (h2 : w ≤ 2) : Rv 91 0 [some (.ref 49), some (.int (Int32.ofNat i)), some (.int (Int32.ofNat w)), none] [] (en G c F A P W O) = some (.inl (some (.int (wov g (Int32.ofNat i) w))), (en G c F A P W O)) := by
  have m12 := wf_m12 hw
  have hwl : wks g ≤ dn g := cnt_le _ _
  unfold wov
  rcases wat_at hw hI hi with ⟨h1, e⟩ | ⟨h1, d, hd, e1, e⟩
  · rw [e, if_pos rfl]
    simp only [↓e91_0, ↓e91_1, ↓e91_2, ↓e91_5, ↓e91_8, ↓e91_9, ↓e91_10, ↓e91_11, ↓e91_14, ↓e91_15, ↓e91_16, ↓e91_18, ↓e91_19, ↓e91_20, ↓e91_21, ↓e91_48, ↓e91_49, ↓e91_50, ↓e91_51, ↓e91_54, ↓e91_55, ↓e91_58, ↓e91_59, ↓e91_60, ↓e91_63, ↓e91_64, ↓e91_67, ↓ldI_0, ↓ldI_s, ↓ldA_0, ↓ldA_n, ↓ldA_s, ↓ldL_0, ↓ldL_s, ↓lst_0, ↓lst_s, ↓cal_v, ↓cal_x, ↓vts_s, ↓vts_n, ↓lpr_0, ↓lpr_i, ↓lpr_r, ↓lpr_n, ↓lpr_s, PA_41, ↓reduceIte, or_true, true_or, ↓ho_40, ↓gf_40_0, ↓gf_40_1, ↓gf_40_2, ↓gf_40_3, ↓ho_49, ↓gf_49_0, ↓gf_49_1, ↓gf_49_2, ↓gf_49_3, ↓pf_49_3, ↓ho_50, ↓gf_50_0, ↓gf_50_1, ↓gf_50_2, ↓pf_50_2, ↓gf_50_3, ↓pf_50_3, ↓gf_50_4, ↓pf_50_4, ↓gf_50_5, ↓pf_50_5, ↓gf_50_6, ↓pf_50_6, ↓ho_54, ↓gf_54_0, ↓gf_54_1, ↓pf_54_1, ↓ho_88, ↓gf_88_0, ↓gf_88_1, ↓pf_88_1, ↓gf_88_2, ↓pf_88_2, ↓gf_88_3, ↓pf_88_3, ↓gf_88_4, ↓pf_88_4, ↓gf_88_5, ↓pf_88_5, ↓gf_41_0, ↓pf_41_0, ↓gf_41_1, ↓pf_41_1, ↓gf_41_2, ↓gf_41_3, ↓pf_41_3, ↓gf_41_4, ↓gf_41_5, ↓gf_41_6, ↓gf_41_7, ↓gf_41_8, ↓pf_41_8, ↓gf_41_9, ↓pf_41_9, ↓gf_41_10, ↓gf_41_11, ↓ho_41, ↓gi_42, ↓pi_42, ↓gi_43, ↓pi_43, ↓gi_44, ↓pi_44, ↓gi_45, ↓pi_45, ↓gi_46, ↓pi_46, ↓gi_47, ↓pi_47, ↓gi_48, ↓pi_48, ↓gi_51, ↓pi_51, ↓gi_52, ↓pi_52, ↓gi_53, ↓pi_53, ↓gi_89, ↓pi_89, ↓gi_1, ↓gn_1, ↓gr_55, ↓pr_55, hW, io_lt hi (show wks g < 2147483648 by omega), show ¬ i < wks g by omega]
  · have hol := ord_lt hw (show d < 12 by omega)
    have hr : rmi (Int32.ofNat (ord g d)) 16 = Int32.ofNat d := by
      rw [show (16 : Int32) = Int32.ofNat 16 from rfl, io_rmi (by omega) (by omega), ord_mod (by omega)]
    rw [e, if_neg (io_nn (by omega)), io_ix (by omega)]
    simp only [↓e91_0, ↓e91_1, ↓e91_2, ↓e91_5, ↓e91_8, ↓e91_9, ↓e91_10, ↓e91_11, ↓e91_14, ↓e91_15, ↓e91_16, ↓e91_18, ↓e91_19, ↓e91_20, ↓e91_21, ↓e91_48, ↓e91_49, ↓e91_50, ↓e91_51, ↓e91_54, ↓e91_55, ↓e91_58, ↓e91_59, ↓e91_60, ↓e91_63, ↓e91_64, ↓e91_67, ↓ldI_0, ↓ldI_s, ↓ldA_0, ↓ldA_n, ↓ldA_s, ↓ldL_0, ↓ldL_s, ↓lst_0, ↓lst_s, ↓cal_v, ↓cal_x, ↓vts_s, ↓vts_n, ↓lpr_0, ↓lpr_i, ↓lpr_r, ↓lpr_n, ↓lpr_s, PA_41, ↓reduceIte, or_true, true_or, ↓ho_40, ↓gf_40_0, ↓gf_40_1, ↓gf_40_2, ↓gf_40_3, ↓ho_49, ↓gf_49_0, ↓gf_49_1, ↓gf_49_2, ↓gf_49_3, ↓pf_49_3, ↓ho_50, ↓gf_50_0, ↓gf_50_1, ↓gf_50_2, ↓pf_50_2, ↓gf_50_3, ↓pf_50_3, ↓gf_50_4, ↓pf_50_4, ↓gf_50_5, ↓pf_50_5, ↓gf_50_6, ↓pf_50_6, ↓ho_54, ↓gf_54_0, ↓gf_54_1, ↓pf_54_1, ↓ho_88, ↓gf_88_0, ↓gf_88_1, ↓pf_88_1, ↓gf_88_2, ↓pf_88_2, ↓gf_88_3, ↓pf_88_3, ↓gf_88_4, ↓pf_88_4, ↓gf_88_5, ↓pf_88_5, ↓gf_41_0, ↓pf_41_0, ↓gf_41_1, ↓pf_41_1, ↓gf_41_2, ↓gf_41_3, ↓pf_41_3, ↓gf_41_4, ↓gf_41_5, ↓gf_41_6, ↓gf_41_7, ↓gf_41_8, ↓pf_41_8, ↓gf_41_9, ↓pf_41_9, ↓gf_41_10, ↓gf_41_11, ↓ho_41, ↓gi_42, ↓pi_42, ↓gi_43, ↓pi_43, ↓gi_44, ↓pi_44, ↓gi_45, ↓pi_45, ↓gi_46, ↓pi_46, ↓gi_47, ↓pi_47, ↓gi_48, ↓pi_48, ↓gi_51, ↓pi_51, ↓gi_52, ↓pi_52, ↓gi_53, ↓pi_53, ↓gi_89, ↓pi_89, ↓gi_1, ↓gn_1, ↓gr_55, ↓pr_55, hW, io_lt hi (show wks g < 2147483648 by omega), h1, io_zin (show i < 2147483648 by omega) (show i < 12 by omega), io_ix (show i < 2147483648 by omega), e1, show ((16 : Int32) = 0) = False from by decide, hr]
    rcases w with _ | _ | _ | w
    · simp only [show Int32.ofNat 0 = 0 from rfl, lsw, ↓e91_0, ↓e91_1, ↓e91_2, ↓e91_5, ↓e91_8, ↓e91_9, ↓e91_10, ↓e91_11, ↓e91_14, ↓e91_15, ↓e91_16, ↓e91_18, ↓e91_19, ↓e91_20, ↓e91_21, ↓e91_48, ↓e91_49, ↓e91_50, ↓e91_51, ↓e91_54, ↓e91_55, ↓e91_58, ↓e91_59, ↓e91_60, ↓e91_63, ↓e91_64, ↓e91_67, ↓ldI_0, ↓ldI_s, ↓ldA_0, ↓ldA_n, ↓ldA_s, ↓ldL_0, ↓ldL_s, ↓lst_0, ↓lst_s, ↓cal_v, ↓cal_x, ↓vts_s, ↓vts_n, ↓lpr_0, ↓lpr_i, ↓lpr_r, ↓lpr_n, ↓lpr_s, PA_41, ↓reduceIte, or_true, true_or, ↓ho_40, ↓gf_40_0, ↓gf_40_1, ↓gf_40_2, ↓gf_40_3, ↓ho_49, ↓gf_49_0, ↓gf_49_1, ↓gf_49_2, ↓gf_49_3, ↓pf_49_3, ↓ho_50, ↓gf_50_0, ↓gf_50_1, ↓gf_50_2, ↓pf_50_2, ↓gf_50_3, ↓pf_50_3, ↓gf_50_4, ↓pf_50_4, ↓gf_50_5, ↓pf_50_5, ↓gf_50_6, ↓pf_50_6, ↓ho_54, ↓gf_54_0, ↓gf_54_1, ↓pf_54_1, ↓ho_88, ↓gf_88_0, ↓gf_88_1, ↓pf_88_1, ↓gf_88_2, ↓pf_88_2, ↓gf_88_3, ↓pf_88_3, ↓gf_88_4, ↓pf_88_4, ↓gf_88_5, ↓pf_88_5, ↓gf_41_0, ↓pf_41_0, ↓gf_41_1, ↓pf_41_1, ↓gf_41_2, ↓gf_41_3, ↓pf_41_3, ↓gf_41_4, ↓gf_41_5, ↓gf_41_6, ↓gf_41_7, ↓gf_41_8, ↓pf_41_8, ↓gf_41_9, ↓pf_41_9, ↓gf_41_10, ↓gf_41_11, ↓ho_41, ↓gi_42, ↓pi_42, ↓gi_43, ↓pi_43, ↓gi_44, ↓pi_44, ↓gi_45, ↓pi_45, ↓gi_46, ↓pi_46, ↓gi_47, ↓pi_47, ↓gi_48, ↓pi_48, ↓gi_51, ↓pi_51, ↓gi_52, ↓pi_52, ↓gi_53, ↓pi_53, ↓gi_89, ↓pi_89, ↓gi_1, ↓gn_1, ↓gr_55, ↓pr_55, if_true]
    · simp only [show Int32.ofNat (0 + 1) = 1 from rfl, lsw, one_ne, if_false, ↓e91_0, ↓e91_1, ↓e91_2, ↓e91_5, ↓e91_8, ↓e91_9, ↓e91_10, ↓e91_11, ↓e91_14, ↓e91_15, ↓e91_16, ↓e91_18, ↓e91_19, ↓e91_20, ↓e91_21, ↓e91_48, ↓e91_49, ↓e91_50, ↓e91_51, ↓e91_54, ↓e91_55, ↓e91_58, ↓e91_59, ↓e91_60, ↓e91_63, ↓e91_64, ↓e91_67, ↓ldI_0, ↓ldI_s, ↓ldA_0, ↓ldA_n, ↓ldA_s, ↓ldL_0, ↓ldL_s, ↓lst_0, ↓lst_s, ↓cal_v, ↓cal_x, ↓vts_s, ↓vts_n, ↓lpr_0, ↓lpr_i, ↓lpr_r, ↓lpr_n, ↓lpr_s, PA_41, ↓reduceIte, or_true, true_or, ↓ho_40, ↓gf_40_0, ↓gf_40_1, ↓gf_40_2, ↓gf_40_3, ↓ho_49, ↓gf_49_0, ↓gf_49_1, ↓gf_49_2, ↓gf_49_3, ↓pf_49_3, ↓ho_50, ↓gf_50_0, ↓gf_50_1, ↓gf_50_2, ↓pf_50_2, ↓gf_50_3, ↓pf_50_3, ↓gf_50_4, ↓pf_50_4, ↓gf_50_5, ↓pf_50_5, ↓gf_50_6, ↓pf_50_6, ↓ho_54, ↓gf_54_0, ↓gf_54_1, ↓pf_54_1, ↓ho_88, ↓gf_88_0, ↓gf_88_1, ↓pf_88_1, ↓gf_88_2, ↓pf_88_2, ↓gf_88_3, ↓pf_88_3, ↓gf_88_4, ↓pf_88_4, ↓gf_88_5, ↓pf_88_5, ↓gf_41_0, ↓pf_41_0, ↓gf_41_1, ↓pf_41_1, ↓gf_41_2, ↓gf_41_3, ↓pf_41_3, ↓gf_41_4, ↓gf_41_5, ↓gf_41_6, ↓gf_41_7, ↓gf_41_8, ↓pf_41_8, ↓gf_41_9, ↓pf_41_9, ↓gf_41_10, ↓gf_41_11, ↓ho_41, ↓gi_42, ↓pi_42, ↓gi_43, ↓pi_43, ↓gi_44, ↓pi_44, ↓gi_45, ↓pi_45, ↓gi_46, ↓pi_46, ↓gi_47, ↓pi_47, ↓gi_48, ↓pi_48, ↓gi_51, ↓pi_51, ↓gi_52, ↓pi_52, ↓gi_53, ↓pi_53, ↓gi_89, ↓pi_89, ↓gi_1, ↓gn_1, ↓gr_55, ↓pr_55, t79 hw hR hd, if_true, show (0 + 1 = 0) = False from by decide]
    · simp only [show Int32.ofNat (0 + 1 + 1) = 2 from rfl, lsw, show ((2 : Int32) = 0) = False from by decide, show ((2 : Int32) = 1) = False from by decide, if_false, ↓e91_0, ↓e91_1, ↓e91_2, ↓e91_5, ↓e91_8, ↓e91_9, ↓e91_10, ↓e91_11, ↓e91_14, ↓e91_15, ↓e91_16, ↓e91_18, ↓e91_19, ↓e91_20, ↓e91_21, ↓e91_48, ↓e91_49, ↓e91_50, ↓e91_51, ↓e91_54, ↓e91_55, ↓e91_58, ↓e91_59, ↓e91_60, ↓e91_63, ↓e91_64, ↓e91_67, ↓ldI_0, ↓ldI_s, ↓ldA_0, ↓ldA_n, ↓ldA_s, ↓ldL_0, ↓ldL_s, ↓lst_0, ↓lst_s, ↓cal_v, ↓cal_x, ↓vts_s, ↓vts_n, ↓lpr_0, ↓lpr_i, ↓lpr_r, ↓lpr_n, ↓lpr_s, PA_41, ↓reduceIte, or_true, true_or, ↓ho_40, ↓gf_40_0, ↓gf_40_1, ↓gf_40_2, ↓gf_40_3, ↓ho_49, ↓gf_49_0, ↓gf_49_1, ↓gf_49_2, ↓gf_49_3, ↓pf_49_3, ↓ho_50, ↓gf_50_0, ↓gf_50_1, ↓gf_50_2, ↓pf_50_2, ↓gf_50_3, ↓pf_50_3, ↓gf_50_4, ↓pf_50_4, ↓gf_50_5, ↓pf_50_5, ↓gf_50_6, ↓pf_50_6, ↓ho_54, ↓gf_54_0, ↓gf_54_1, ↓pf_54_1, ↓ho_88, ↓gf_88_0, ↓gf_88_1, ↓pf_88_1, ↓gf_88_2, ↓pf_88_2, ↓gf_88_3, ↓pf_88_3, ↓gf_88_4, ↓pf_88_4, ↓gf_88_5, ↓pf_88_5, ↓gf_41_0, ↓pf_41_0, ↓gf_41_1, ↓pf_41_1, ↓gf_41_2, ↓gf_41_3, ↓pf_41_3, ↓gf_41_4, ↓gf_41_5, ↓gf_41_6, ↓gf_41_7, ↓gf_41_8, ↓pf_41_8, ↓gf_41_9, ↓pf_41_9, ↓gf_41_10, ↓gf_41_11, ↓ho_41, ↓gi_42, ↓pi_42, ↓gi_43, ↓pi_43, ↓gi_44, ↓pi_44, ↓gi_45, ↓pi_45, ↓gi_46, ↓pi_46, ↓gi_47, ↓pi_47, ↓gi_48, ↓pi_48, ↓gi_51, ↓pi_51, ↓gi_52, ↓pi_52, ↓gi_53, ↓pi_53, ↓gi_89, ↓pi_89, ↓gi_1, ↓gn_1, ↓gr_55, ↓pr_55, t71 hw hR hd, show (0 + 1 + 1 = 0) = False from by decide]
      rfl
    · omega
end ZT
