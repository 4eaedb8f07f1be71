/-! the text of commands, as numbers -/
def isr (bx : Nat → Nat) (t l h p : Nat) : Bool := decide (p < t) && (decide (l ≤ bx p) && decide (bx p ≤ h))
def run (q : Nat → Bool) : Nat → Nat → Nat
  | 0, p => p
  | n + 1, p => if q p = true then run q n (p + 1) else p
def sk (bx : Nat → Nat) (t p : Nat) : Nat := run (isr bx t 32 32) (t - p) p
def lt' (bx : Nat → Nat) (t p : Nat) : Nat := run (isr bx t 97 122) (t - p) p
def dgt (bx : Nat → Nat) (t : Nat) : Nat → Nat → Nat → Nat × Nat
  | 0, p, v => (v, p)
  | k + 1, p, v => if isr bx t 48 57 p = true then dgt bx t k (p + 1) (10 * v + bx p - 48) else (v, p)
theorem run_ge (q : Nat → Bool) : ∀ n p, p ≤ run q n p ∧ run q n p ≤ p + n
  | 0, p => ⟨Nat.le_refl _, Nat.le_refl _⟩
  | n + 1, p => by
    have ih := run_ge q n (p + 1)
    show p ≤ (if q p = true then run q n (p + 1) else p) ∧ (if q p = true then run q n (p + 1) else p) ≤ p + (n + 1)
    split <;> omega
theorem run_end {q : Nat → Bool} {t : Nat} (hq : ∀ p, q p = true → p < t) : ∀ n p, t ≤ p + n → q (run q n p) = false
  | 0, p, h => by
    cases e : q p
    · exact e
    · have := hq p e; omega
  | n + 1, p, h => by
    show q (if q p = true then run q n (p + 1) else p) = false
    by_cases e : q p = true
    · rw [if_pos e]; exact run_end hq n (p + 1) (by omega)
    · rw [if_neg e]; simpa using e
theorem run_all {q : Nat → Bool} : ∀ n p i, p ≤ i → i < run q n p → q i = true
  | 0, p, i, h1, h2 => by
    have : i < p := h2
    omega
  | n + 1, p, i, h1, h2 => by
    have h2 : i < (if q p = true then run q n (p + 1) else p) := h2
    by_cases e : q p = true
    · rw [if_pos e] at h2
      by_cases hi : i = p
      · subst hi; exact e
      · exact run_all n (p + 1) i (by omega) h2
    · rw [if_neg e] at h2; omega
theorem isr_lt {bx : Nat → Nat} {t l h p : Nat} (e : isr bx t l h p = true) : p < t := by
  unfold isr at e
  rw [Bool.and_eq_true, decide_eq_true_eq] at e
  exact e.1
theorem sk_ge (bx : Nat → Nat) {t p : Nat} (h : p ≤ t) : p ≤ sk bx t p ∧ sk bx t p ≤ t := by
  have := run_ge (isr bx t 32 32) (t - p) p
  unfold sk
  omega
theorem lt_ge (bx : Nat → Nat) {t p : Nat} (h : p ≤ t) : p ≤ lt' bx t p ∧ lt' bx t p ≤ t := by
  have := run_ge (isr bx t 97 122) (t - p) p
  unfold lt'
  omega
theorem sk_id {bx : Nat → Nat} {t p : Nat} (h : isr bx t 32 32 p = false) : sk bx t p = p := by
  unfold sk
  cases e : t - p with
  | zero => rfl
  | succ n =>
    show (if isr bx t 32 32 p = true then _ else p) = p
    rw [h]; rfl
theorem dgt_ge (bx : Nat → Nat) (t : Nat) : ∀ k p v, p ≤ t → p ≤ (dgt bx t k p v).2 ∧ (dgt bx t k p v).2 ≤ t
  | 0, p, v, h => ⟨Nat.le_refl _, h⟩
  | k + 1, p, v, h => by
    show p ≤ (if isr bx t 48 57 p = true then dgt bx t k (p + 1) (10 * v + bx p - 48) else (v, p)).2 ∧ (if isr bx t 48 57 p = true then dgt bx t k (p + 1) (10 * v + bx p - 48) else (v, p)).2 ≤ t
    by_cases e : isr bx t 48 57 p = true
    · rw [if_pos e]
      have := isr_lt e
      have := dgt_ge bx t k (p + 1) (10 * v + bx p - 48) (by omega)
      omega
    · rw [if_neg e]; exact ⟨Nat.le_refl _, h⟩
theorem dgt_lt (bx : Nat → Nat) (t : Nat) : ∀ k p v m, v < m → (dgt bx t k p v).1 < m * 10 ^ k
  | 0, p, v, m, h => by
    show v < m * 10 ^ 0
    omega
  | k + 1, p, v, m, h => by
    show (if isr bx t 48 57 p = true then dgt bx t k (p + 1) (10 * v + bx p - 48) else (v, p)).1 < m * 10 ^ (k + 1)
    have hp : 0 < 10 ^ k := Nat.pow_pos (by omega)
    by_cases e : isr bx t 48 57 p = true
    · rw [if_pos e]
      have h2 : bx p ≤ 57 := by
        unfold isr at e
        rw [Bool.and_eq_true, Bool.and_eq_true, decide_eq_true_eq, decide_eq_true_eq, decide_eq_true_eq] at e
        exact e.2.2
      have := dgt_lt bx t k (p + 1) (10 * v + bx p - 48) (m * 10) (by omega)
      rw [Nat.mul_assoc, Nat.mul_comm 10 (10 ^ k), ← Nat.pow_succ] at this
      exact this
    · rw [if_neg e]
      show v < m * 10 ^ (k + 1)
      rw [Nat.pow_succ, Nat.mul_comm (10 ^ k) 10, ← Nat.mul_assoc]
      have := Nat.le_mul_of_pos_right (m * 10) hp
      omega
/-- words: lengths, letters -/
def wln (i : Nat) : Nat := (zBy.getD i []).length
def wby (i j : Nat) : Nat := ((zBy.getD i []).getD j 0).toNatClampNeg
def wm (bx : Nat → Nat) (p e i : Nat) : Bool := decide (wln i = e - p) && allb (fun j => decide (bx (p + j) = wby i j)) (wln i)
/-- the first word that stands there; 10 without one -/
def wds (bx : Nat → Nat) (p e : Nat) : Nat → Nat → Nat
  | _, 0 => 10
  | i, n + 1 => if wm bx p e i = true then i else wds bx p e (i + 1) n
def wdx (bx : Nat → Nat) (p e : Nat) : Nat := wds bx p e 0 10
def nok (bx : Nat → Nat) (t p : Nat) : Bool := !decide (sk bx t p = p) && isr bx t 48 57 (sk bx t p)
def nuv (bx : Nat → Nat) (t p : Nat) : Nat := (dgt bx t 4 (sk bx t p) 0).1
def nue (bx : Nat → Nat) (t p : Nat) : Nat := (dgt bx t 4 (sk bx t p) 0).2
def nnu (w : Nat) : Nat := (zNu.getD w 0).toNatClampNeg
/-- the end of a command: whether all is well, where it is, the numbers -/
def cend (bx : Nat → Nat) (t p a b : Nat) : Bool × Nat × Nat × Nat := if isr bx t 59 59 (sk bx t p) = true then (true, sk bx t p + 1, a, b) else (false, sk bx t p, a, b)
/-- its numbers, n of them -/
def cnum (bx : Nat → Nat) (t p : Nat) : Nat → Bool × Nat × Nat × Nat
  | 0 => cend bx t p 0 0
  | 1 => if nok bx t p = true then cend bx t (nue bx t p) (nuv bx t p) 0 else (false, sk bx t p, 0, 0)
  | _ => if nok bx t p = true then (if nok bx t (nue bx t p) = true then cend bx t (nue bx t (nue bx t p)) (nuv bx t p) (nuv bx t (nue bx t p)) else (false, sk bx t (nue bx t p), 0, 0)) else (false, sk bx t p, 0, 0)
/-- a command -/
def cmd (bx : Nat → Nat) (t p : Nat) : Bool × Nat × Nat × Nat := if wdx bx p (lt' bx t p) = 10 then (false, p, 0, 0) else cnum bx t (lt' bx t p) (nnu (wdx bx p (lt' bx t p)))
def cwd (bx : Nat → Nat) (t p : Nat) : Nat := wdx bx p (lt' bx t p)
/-- the reader's state -/
def TF (F : Nat → Nat → Int32) (p a b : Int32) : Nat → Nat → Int32 := fun q j => if q = 88 ∧ j = 2 then p else if q = 88 ∧ j = 4 then a else if q = 88 ∧ j = 5 then b else F q j
section TFs
variable {F : Nat → Nat → Int32} {p a b x : Int32} {q : Nat}
theorem tf_2 : TF F p a b 88 2 = p := rfl
theorem tf_4 : TF F p a b 88 4 = a := rfl
theorem tf_5 : TF F p a b 88 5 = b := rfl
theorem tf_1 : TF F p a b 88 1 = F 88 1 := rfl
theorem tf_no (h : q ≠ 88) : TF F p a b q = F q := funext fun j => by
  unfold TF
  rw [if_neg (fun e => h e.1), if_neg (fun e => h e.1), if_neg (fun e => h e.1)]
theorem tf_id : TF F (F 88 2) (F 88 4) (F 88 5) = F := by
  funext q j
  unfold TF
  by_cases h : q = 88 ∧ j = 2
  · rw [if_pos h, h.1, h.2]
  · rw [if_neg h]
    by_cases h : q = 88 ∧ j = 4
    · rw [if_pos h, h.1, h.2]
    · rw [if_neg h]
      by_cases h : q = 88 ∧ j = 5
      · rw [if_pos h, h.1, h.2]
      · rw [if_neg h]
theorem tf_s2 : u2 (TF F p a b) 88 2 x = TF F x a b := by
  funext q j
  unfold u2 TF
  by_cases h : q = 88 ∧ j = 2
  · rw [if_pos h, if_pos h]
  · rw [if_neg h, if_neg h, if_neg h]
theorem tf_s4 : u2 (TF F p a b) 88 4 x = TF F p x b := by
  funext q j
  unfold u2 TF
  by_cases h : q = 88 ∧ j = 4
  · rw [if_pos h, if_neg (by omega), if_pos h]
  · rw [if_neg h, if_neg h, if_neg h]
theorem tf_s5 : u2 (TF F p a b) 88 5 x = TF F p a x := by
  funext q j
  unfold u2 TF
  by_cases h : q = 88 ∧ j = 5
  · rw [if_pos h, if_neg (by omega), if_neg (by omega), if_pos h]
  · rw [if_neg h, if_neg h, if_neg h]
end TFs
/-- the text in a world -/
def TX (F A : Nat → Nat → Int32) (bx : Nat → Nat) (t : Nat) : Prop := t ≤ 150 ∧ F 88 1 = Int32.ofNat t ∧ ∀ i, i < t → A 89 i = Int32.ofNat (bx i) ∧ bx i < 128
section ZT
variable {G : zG} {c : Nat × Nat × Bool} {F A : Nat → Nat → Int32} {P : Nat → Nat} {W : Value} {O : Nat → Int64} {x y j k d e v m s : Int32} {p q i n t u w o : Nat} {a b : Int32} {bx : Nat → Nat}
theorem t12 (hX : TX F A bx t) (hp : p ≤ t) : Rv 12 0 [some (.ref 88)] [] (en G c (TF F (Int32.ofNat p) a b) A P W O) = some (.inl none, en G c (TF F (Int32.ofNat (sk bx t p)) a b) A P W O) := by
  obtain ⟨h150, hT, hB⟩ := hX
  have key : ∀ n p, p + n = t → Rv 12 0 [some (.ref 88)] [] (en G c (TF F (Int32.ofNat p) a b) A P W O) = some (.inl none, en G c (TF F (Int32.ofNat (run (isr bx t 32 32) n p)) a b) A P W O) := by
    intro n
    induction n with
    | zero =>
      intro p hp
      rw [h12_0]
      simp only [↓e12_1, ↓e12_4, ↓e12_5, ↓e12_8, ↓e12_11, ↓e12_12, ↓e12_15, ↓e12_16, ↓e12_19, ↓e12_20, ↓e12_22, ↓e12_25, ↓e12_26, ↓e12_27, ↓e12_30, ↓e12_31, ↓e12_32, ↓e12_35, ↓e12_38, ↓ldI_0, ↓ldI_s, ↓ldA_0, ↓ldA_n, ↓ldA_s, ↓ldL_0, ↓ldL_s, ↓lst_0, ↓lst_s, ↓cal_v, ↓cal_x, ↓vts_s, ↓vts_n, ↓lpr_0, ↓lpr_i, ↓lpr_r, ↓lpr_n, ↓lpr_s, PA_41, ↓reduceIte, or_true, true_or, ↓ho_40, ↓gf_40_0, ↓gf_40_1, ↓gf_40_2, ↓gf_40_3, ↓ho_49, ↓gf_49_0, ↓gf_49_1, ↓gf_49_2, ↓gf_49_3, ↓pf_49_3, ↓ho_50, ↓gf_50_0, ↓gf_50_1, ↓gf_50_2, ↓pf_50_2, ↓gf_50_3, ↓pf_50_3, ↓gf_50_4, ↓pf_50_4, ↓gf_50_5, ↓pf_50_5, ↓gf_50_6, ↓pf_50_6, ↓ho_54, ↓gf_54_0, ↓gf_54_1, ↓pf_54_1, ↓ho_88, ↓gf_88_0, ↓gf_88_1, ↓pf_88_1, ↓gf_88_2, ↓pf_88_2, ↓gf_88_3, ↓pf_88_3, ↓gf_88_4, ↓pf_88_4, ↓gf_88_5, ↓pf_88_5, ↓ho_90, ↓gf_90_0, ↓gf_90_1, ↓gf_90_2, ↓pf_90_2, ↓gf_90_3, ↓pf_90_3, ↓gf_90_4, ↓gf_90_5, ↓gf_90_6, ↓pf_90_6, ↓gf_90_7, ↓pf_90_7, ↓gf_90_8, ↓pf_90_8, ↓gf_90_9, ↓pf_90_9, ↓gf_90_10, ↓pf_90_10, ↓gf_90_11, ↓gf_41_0, ↓pf_41_0, ↓gf_41_1, ↓pf_41_1, ↓gf_41_2, ↓gf_41_3, ↓pf_41_3, ↓gf_41_4, ↓gf_41_5, ↓gf_41_6, ↓gf_41_7, ↓gf_41_8, ↓pf_41_8, ↓gf_41_9, ↓pf_41_9, ↓gf_41_10, ↓gf_41_11, ↓ho_41, ↓gi_42, ↓pi_42, ↓gi_43, ↓pi_43, ↓gi_44, ↓pi_44, ↓gi_45, ↓pi_45, ↓gi_46, ↓pi_46, ↓gi_47, ↓pi_47, ↓gi_48, ↓pi_48, ↓gi_51, ↓pi_51, ↓gi_52, ↓pi_52, ↓gi_53, ↓pi_53, ↓gi_91, ↓pi_91, ↓gi_92, ↓pi_92, ↓gi_93, ↓pi_93, ↓gi_95, ↓pi_95, ↓gi_89, ↓pi_89, ↓gi_94, ↓pi_94, ↓gi_1, ↓gi_3, ↓gn_1, ↓gn_2, ↓gr_2, ↓gr_55, ↓pr_55, ↓gl_96, ↓pl_96, ↓gf_w0, ↓gf_w1, ↓gw_w, ↓gf_s0, ↓gf_s1, ↓ho_s, ↓gn_b, ↓gi_b, tf_1, tf_2, hT, show p = t by omega, Int32.lt_irrefl, run]
    | succ n ih =>
      intro p hp
      obtain ⟨h1, h2⟩ := hB p (by omega)
      rw [h12_0]
      have e32 : (Int32.ofNat (bx p) = 32) = (bx p = 32) := io_eq (b := 32) (by omega) (by omega)
      simp only [↓e12_1, ↓e12_4, ↓e12_5, ↓e12_8, ↓e12_11, ↓e12_12, ↓e12_15, ↓e12_16, ↓e12_19, ↓e12_20, ↓e12_22, ↓e12_25, ↓e12_26, ↓e12_27, ↓e12_30, ↓e12_31, ↓e12_32, ↓e12_35, ↓e12_38, ↓ldI_0, ↓ldI_s, ↓ldA_0, ↓ldA_n, ↓ldA_s, ↓ldL_0, ↓ldL_s, ↓lst_0, ↓lst_s, ↓cal_v, ↓cal_x, ↓vts_s, ↓vts_n, ↓lpr_0, ↓lpr_i, ↓lpr_r, ↓lpr_n, ↓lpr_s, PA_41, ↓reduceIte, or_true, true_or, ↓ho_40, ↓gf_40_0, ↓gf_40_1, ↓gf_40_2, ↓gf_40_3, ↓ho_49, ↓gf_49_0, ↓gf_49_1, ↓gf_49_2, ↓gf_49_3, ↓pf_49_3, ↓ho_50, ↓gf_50_0, ↓gf_50_1, ↓gf_50_2, ↓pf_50_2, ↓gf_50_3, ↓pf_50_3, ↓gf_50_4, ↓pf_50_4, ↓gf_50_5, ↓pf_50_5, ↓gf_50_6, ↓pf_50_6, ↓ho_54, ↓gf_54_0, ↓gf_54_1, ↓pf_54_1, ↓ho_88, ↓gf_88_0, ↓gf_88_1, ↓pf_88_1, ↓gf_88_2, ↓pf_88_2, ↓gf_88_3, ↓pf_88_3, ↓gf_88_4, ↓pf_88_4, ↓gf_88_5, ↓pf_88_5, ↓ho_90, ↓gf_90_0, ↓gf_90_1, ↓gf_90_2, ↓pf_90_2, ↓gf_90_3, ↓pf_90_3, ↓gf_90_4, ↓gf_90_5, ↓gf_90_6, ↓pf_90_6, ↓gf_90_7, ↓pf_90_7, ↓gf_90_8, ↓pf_90_8, ↓gf_90_9, ↓pf_90_9, ↓gf_90_10, ↓pf_90_10, ↓gf_90_11, ↓gf_41_0, ↓pf_41_0, ↓gf_41_1, ↓pf_41_1, ↓gf_41_2, ↓gf_41_3, ↓pf_41_3, ↓gf_41_4, ↓gf_41_5, ↓gf_41_6, ↓gf_41_7, ↓gf_41_8, ↓pf_41_8, ↓gf_41_9, ↓pf_41_9, ↓gf_41_10, ↓gf_41_11, ↓ho_41, ↓gi_42, ↓pi_42, ↓gi_43, ↓pi_43, ↓gi_44, ↓pi_44, ↓gi_45, ↓pi_45, ↓gi_46, ↓pi_46, ↓gi_47, ↓pi_47, ↓gi_48, ↓pi_48, ↓gi_51, ↓pi_51, ↓gi_52, ↓pi_52, ↓gi_53, ↓pi_53, ↓gi_91, ↓pi_91, ↓gi_92, ↓pi_92, ↓gi_93, ↓pi_93, ↓gi_95, ↓pi_95, ↓gi_89, ↓pi_89, ↓gi_94, ↓pi_94, ↓gi_1, ↓gi_3, ↓gn_1, ↓gn_2, ↓gr_2, ↓gr_55, ↓pr_55, ↓gl_96, ↓pl_96, ↓gf_w0, ↓gf_w1, ↓gw_w, ↓gf_s0, ↓gf_s1, ↓ho_s, ↓gn_b, ↓gi_b, tf_1, tf_2, hT, io_lt (show p < 2147483648 by omega) (show t < 2147483648 by omega), show p < t by omega, io_zin (show p < 2147483648 by omega) (show p < 150 by omega), io_ix (show p < 2147483648 by omega), h1, e32, tf_s2, io_succ, ih (p + 1) (by omega), run, isr, decide_true, Bool.true_and]
      by_cases h : bx p = 32
      · simp [h]
      · have : ¬ (32 ≤ bx p ∧ bx p ≤ 32) := by omega
        simp [h, this]
  exact key (t - p) p (by omega)
theorem t13 (hX : TX F A bx t) (hp : p ≤ t) : Rv 13 0 [some (.ref 88)] [] (en G c (TF F (Int32.ofNat p) a b) A P W O) = some (.inl none, en G c (TF F (Int32.ofNat (lt' bx t p)) a b) A P W O) := by
  obtain ⟨h150, hT, hB⟩ := hX
  have key : ∀ n p, p + n = t → Rv 13 0 [some (.ref 88)] [] (en G c (TF F (Int32.ofNat p) a b) A P W O) = some (.inl none, en G c (TF F (Int32.ofNat (run (isr bx t 97 122) n p)) a b) A P W O) := by
    intro n
    induction n with
    | zero =>
      intro p hp
      rw [h13_0]
      simp only [↓e13_1, ↓e13_4, ↓e13_5, ↓e13_8, ↓e13_11, ↓e13_12, ↓e13_15, ↓e13_16, ↓e13_19, ↓e13_20, ↓e13_22, ↓e13_25, ↓e13_26, ↓e13_29, ↓e13_30, ↓e13_33, ↓e13_34, ↓e13_36, ↓e13_39, ↓e13_40, ↓e13_41, ↓e13_44, ↓e13_45, ↓e13_46, ↓e13_49, ↓e13_52, ↓ldI_0, ↓ldI_s, ↓ldA_0, ↓ldA_n, ↓ldA_s, ↓ldL_0, ↓ldL_s, ↓lst_0, ↓lst_s, ↓cal_v, ↓cal_x, ↓vts_s, ↓vts_n, ↓lpr_0, ↓lpr_i, ↓lpr_r, ↓lpr_n, ↓lpr_s, PA_41, ↓reduceIte, or_true, true_or, ↓ho_40, ↓gf_40_0, ↓gf_40_1, ↓gf_40_2, ↓gf_40_3, ↓ho_49, ↓gf_49_0, ↓gf_49_1, ↓gf_49_2, ↓gf_49_3, ↓pf_49_3, ↓ho_50, ↓gf_50_0, ↓gf_50_1, ↓gf_50_2, ↓pf_50_2, ↓gf_50_3, ↓pf_50_3, ↓gf_50_4, ↓pf_50_4, ↓gf_50_5, ↓pf_50_5, ↓gf_50_6, ↓pf_50_6, ↓ho_54, ↓gf_54_0, ↓gf_54_1, ↓pf_54_1, ↓ho_88, ↓gf_88_0, ↓gf_88_1, ↓pf_88_1, ↓gf_88_2, ↓pf_88_2, ↓gf_88_3, ↓pf_88_3, ↓gf_88_4, ↓pf_88_4, ↓gf_88_5, ↓pf_88_5, ↓ho_90, ↓gf_90_0, ↓gf_90_1, ↓gf_90_2, ↓pf_90_2, ↓gf_90_3, ↓pf_90_3, ↓gf_90_4, ↓gf_90_5, ↓gf_90_6, ↓pf_90_6, ↓gf_90_7, ↓pf_90_7, ↓gf_90_8, ↓pf_90_8, ↓gf_90_9, ↓pf_90_9, ↓gf_90_10, ↓pf_90_10, ↓gf_90_11, ↓gf_41_0, ↓pf_41_0, ↓gf_41_1, ↓pf_41_1, ↓gf_41_2, ↓gf_41_3, ↓pf_41_3, ↓gf_41_4, ↓gf_41_5, ↓gf_41_6, ↓gf_41_7, ↓gf_41_8, ↓pf_41_8, ↓gf_41_9, ↓pf_41_9, ↓gf_41_10, ↓gf_41_11, ↓ho_41, ↓gi_42, ↓pi_42, ↓gi_43, ↓pi_43, ↓gi_44, ↓pi_44, ↓gi_45, ↓pi_45, ↓gi_46, ↓pi_46, ↓gi_47, ↓pi_47, ↓gi_48, ↓pi_48, ↓gi_51, ↓pi_51, ↓gi_52, ↓pi_52, ↓gi_53, ↓pi_53, ↓gi_91, ↓pi_91, ↓gi_92, ↓pi_92, ↓gi_93, ↓pi_93, ↓gi_95, ↓pi_95, ↓gi_89, ↓pi_89, ↓gi_94, ↓pi_94, ↓gi_1, ↓gi_3, ↓gn_1, ↓gn_2, ↓gr_2, ↓gr_55, ↓pr_55, ↓gl_96, ↓pl_96, ↓gf_w0, ↓gf_w1, ↓gw_w, ↓gf_s0, ↓gf_s1, ↓ho_s, ↓gn_b, ↓gi_b, tf_1, tf_2, hT, show p = t by omega, Int32.lt_irrefl, run]
    | succ n ih =>
      intro p hp
      obtain ⟨h1, h2⟩ := hB p (by omega)
      rw [h13_0]
      have e97 : (Int32.ofNat (bx p) < 97) = (bx p < 97) := io_lt (b := 97) (by omega) (by omega)
      have e122 : ((122 : Int32) < Int32.ofNat (bx p)) = (122 < bx p) := io_lt (a := 122) (by omega) (by omega)
      simp only [↓e13_1, ↓e13_4, ↓e13_5, ↓e13_8, ↓e13_11, ↓e13_12, ↓e13_15, ↓e13_16, ↓e13_19, ↓e13_20, ↓e13_22, ↓e13_25, ↓e13_26, ↓e13_29, ↓e13_30, ↓e13_33, ↓e13_34, ↓e13_36, ↓e13_39, ↓e13_40, ↓e13_41, ↓e13_44, ↓e13_45, ↓e13_46, ↓e13_49, ↓e13_52, ↓ldI_0, ↓ldI_s, ↓ldA_0, ↓ldA_n, ↓ldA_s, ↓ldL_0, ↓ldL_s, ↓lst_0, ↓lst_s, ↓cal_v, ↓cal_x, ↓vts_s, ↓vts_n, ↓lpr_0, ↓lpr_i, ↓lpr_r, ↓lpr_n, ↓lpr_s, PA_41, ↓reduceIte, or_true, true_or, ↓ho_40, ↓gf_40_0, ↓gf_40_1, ↓gf_40_2, ↓gf_40_3, ↓ho_49, ↓gf_49_0, ↓gf_49_1, ↓gf_49_2, ↓gf_49_3, ↓pf_49_3, ↓ho_50, ↓gf_50_0, ↓gf_50_1, ↓gf_50_2, ↓pf_50_2, ↓gf_50_3, ↓pf_50_3, ↓gf_50_4, ↓pf_50_4, ↓gf_50_5, ↓pf_50_5, ↓gf_50_6, ↓pf_50_6, ↓ho_54, ↓gf_54_0, ↓gf_54_1, ↓pf_54_1, ↓ho_88, ↓gf_88_0, ↓gf_88_1, ↓pf_88_1, ↓gf_88_2, ↓pf_88_2, ↓gf_88_3, ↓pf_88_3, ↓gf_88_4, ↓pf_88_4, ↓gf_88_5, ↓pf_88_5, ↓ho_90, ↓gf_90_0, ↓gf_90_1, ↓gf_90_2, ↓pf_90_2, ↓gf_90_3, ↓pf_90_3, ↓gf_90_4, ↓gf_90_5, ↓gf_90_6, ↓pf_90_6, ↓gf_90_7, ↓pf_90_7, ↓gf_90_8, ↓pf_90_8, ↓gf_90_9, ↓pf_90_9, ↓gf_90_10, ↓pf_90_10, ↓gf_90_11, ↓gf_41_0, ↓pf_41_0, ↓gf_41_1, ↓pf_41_1, ↓gf_41_2, ↓gf_41_3, ↓pf_41_3, ↓gf_41_4, ↓gf_41_5, ↓gf_41_6, ↓gf_41_7, ↓gf_41_8, ↓pf_41_8, ↓gf_41_9, ↓pf_41_9, ↓gf_41_10, ↓gf_41_11, ↓ho_41, ↓gi_42, ↓pi_42, ↓gi_43, ↓pi_43, ↓gi_44, ↓pi_44, ↓gi_45, ↓pi_45, ↓gi_46, ↓pi_46, ↓gi_47, ↓pi_47, ↓gi_48, ↓pi_48, ↓gi_51, ↓pi_51, ↓gi_52, ↓pi_52, ↓gi_53, ↓pi_53, ↓gi_91, ↓pi_91, ↓gi_92, ↓pi_92, ↓gi_93, ↓pi_93, ↓gi_95, ↓pi_95, ↓gi_89, ↓pi_89, ↓gi_94, ↓pi_94, ↓gi_1, ↓gi_3, ↓gn_1, ↓gn_2, ↓gr_2, ↓gr_55, ↓pr_55, ↓gl_96, ↓pl_96, ↓gf_w0, ↓gf_w1, ↓gw_w, ↓gf_s0, ↓gf_s1, ↓ho_s, ↓gn_b, ↓gi_b, tf_1, tf_2, hT, io_lt (show p < 2147483648 by omega) (show t < 2147483648 by omega), show p < t by omega, io_zin (show p < 2147483648 by omega) (show p < 150 by omega), io_ix (show p < 2147483648 by omega), h1, e97, e122, tf_s2, io_succ, ih (p + 1) (by omega), run, isr, decide_true, Bool.true_and]
      by_cases h3 : bx p < 97
      · simp [h3, show ¬ 97 ≤ bx p by omega]
      · by_cases h4 : 122 < bx p
        · simp [h3, h4, show ¬ bx p ≤ 122 by omega]
        · simp [h3, h4, show 97 ≤ bx p by omega, show bx p ≤ 122 by omega]
  exact key (t - p) p (by omega)
/-- the byte at a place -/
def byh (bx : Nat → Nat) (t p : Nat) : Int32 := if p < t then Int32.ofNat (bx p) else -1
theorem t10 (hX : TX F A bx t) (hp : p ≤ t) : Rv 10 0 [some (.ref 88)] [] (en G c (TF F (Int32.ofNat p) a b) A P W O) = some (.inl (some (.int (byh bx t p))), en G c (TF F (Int32.ofNat p) a b) A P W O) := by
  obtain ⟨h150, hT, hB⟩ := hX
  unfold byh
  simp only [↓e10_0, ↓e10_1, ↓e10_4, ↓e10_5, ↓e10_8, ↓e10_11, ↓e10_12, ↓e10_15, ↓e10_16, ↓e10_19, ↓e10_20, ↓e10_23, ↓e10_24, ↓ldI_0, ↓ldI_s, ↓ldA_0, ↓ldA_n, ↓ldA_s, ↓ldL_0, ↓ldL_s, ↓lst_0, ↓lst_s, ↓cal_v, ↓cal_x, ↓vts_s, ↓vts_n, ↓lpr_0, ↓lpr_i, ↓lpr_r, ↓lpr_n, ↓lpr_s, PA_41, ↓reduceIte, or_true, true_or, ↓ho_40, ↓gf_40_0, ↓gf_40_1, ↓gf_40_2, ↓gf_40_3, ↓ho_49, ↓gf_49_0, ↓gf_49_1, ↓gf_49_2, ↓gf_49_3, ↓pf_49_3, ↓ho_50, ↓gf_50_0, ↓gf_50_1, ↓gf_50_2, ↓pf_50_2, ↓gf_50_3, ↓pf_50_3, ↓gf_50_4, ↓pf_50_4, ↓gf_50_5, ↓pf_50_5, ↓gf_50_6, ↓pf_50_6, ↓ho_54, ↓gf_54_0, ↓gf_54_1, ↓pf_54_1, ↓ho_88, ↓gf_88_0, ↓gf_88_1, ↓pf_88_1, ↓gf_88_2, ↓pf_88_2, ↓gf_88_3, ↓pf_88_3, ↓gf_88_4, ↓pf_88_4, ↓gf_88_5, ↓pf_88_5, ↓ho_90, ↓gf_90_0, ↓gf_90_1, ↓gf_90_2, ↓pf_90_2, ↓gf_90_3, ↓pf_90_3, ↓gf_90_4, ↓gf_90_5, ↓gf_90_6, ↓pf_90_6, ↓gf_90_7, ↓pf_90_7, ↓gf_90_8, ↓pf_90_8, ↓gf_90_9, ↓pf_90_9, ↓gf_90_10, ↓pf_90_10, ↓gf_90_11, ↓gf_41_0, ↓pf_41_0, ↓gf_41_1, ↓pf_41_1, ↓gf_41_2, ↓gf_41_3, ↓pf_41_3, ↓gf_41_4, ↓gf_41_5, ↓gf_41_6, ↓gf_41_7, ↓gf_41_8, ↓pf_41_8, ↓gf_41_9, ↓pf_41_9, ↓gf_41_10, ↓gf_41_11, ↓ho_41, ↓gi_42, ↓pi_42, ↓gi_43, ↓pi_43, ↓gi_44, ↓pi_44, ↓gi_45, ↓pi_45, ↓gi_46, ↓pi_46, ↓gi_47, ↓pi_47, ↓gi_48, ↓pi_48, ↓gi_51, ↓pi_51, ↓gi_52, ↓pi_52, ↓gi_53, ↓pi_53, ↓gi_91, ↓pi_91, ↓gi_92, ↓pi_92, ↓gi_93, ↓pi_93, ↓gi_95, ↓pi_95, ↓gi_89, ↓pi_89, ↓gi_94, ↓pi_94, ↓gi_1, ↓gi_3, ↓gn_1, ↓gn_2, ↓gr_2, ↓gr_55, ↓pr_55, ↓gl_96, ↓pl_96, ↓gf_w0, ↓gf_w1, ↓gw_w, ↓gf_s0, ↓gf_s1, ↓ho_s, ↓gn_b, ↓gi_b, tf_1, tf_2, hT, io_lt (show p < 2147483648 by omega) (show t < 2147483648 by omega)]
  by_cases h : p < t
  · simp only [h, if_true, ↓e10_0, ↓e10_1, ↓e10_4, ↓e10_5, ↓e10_8, ↓e10_11, ↓e10_12, ↓e10_15, ↓e10_16, ↓e10_19, ↓e10_20, ↓e10_23, ↓e10_24, ↓ldI_0, ↓ldI_s, ↓ldA_0, ↓ldA_n, ↓ldA_s, ↓ldL_0, ↓ldL_s, ↓lst_0, ↓lst_s, ↓cal_v, ↓cal_x, ↓vts_s, ↓vts_n, ↓lpr_0, ↓lpr_i, ↓lpr_r, ↓lpr_n, ↓lpr_s, PA_41, ↓reduceIte, or_true, true_or, ↓ho_40, ↓gf_40_0, ↓gf_40_1, ↓gf_40_2, ↓gf_40_3, ↓ho_49, ↓gf_49_0, ↓gf_49_1, ↓gf_49_2, ↓gf_49_3, ↓pf_49_3, ↓ho_50, ↓gf_50_0, ↓gf_50_1, ↓gf_50_2, ↓pf_50_2, ↓gf_50_3, ↓pf_50_3, ↓gf_50_4, ↓pf_50_4, ↓gf_50_5, ↓pf_50_5, ↓gf_50_6, ↓pf_50_6, ↓ho_54, ↓gf_54_0, ↓gf_54_1, ↓pf_54_1, ↓ho_88, ↓gf_88_0, ↓gf_88_1, ↓pf_88_1, ↓gf_88_2, ↓pf_88_2, ↓gf_88_3, ↓pf_88_3, ↓gf_88_4, ↓pf_88_4, ↓gf_88_5, ↓pf_88_5, ↓ho_90, ↓gf_90_0, ↓gf_90_1, ↓gf_90_2, ↓pf_90_2, ↓gf_90_3, ↓pf_90_3, ↓gf_90_4, ↓gf_90_5, ↓gf_90_6, ↓pf_90_6, ↓gf_90_7, ↓pf_90_7, ↓gf_90_8, ↓pf_90_8, ↓gf_90_9, ↓pf_90_9, ↓gf_90_10, ↓pf_90_10, ↓gf_90_11, ↓gf_41_0, ↓pf_41_0, ↓gf_41_1, ↓pf_41_1, ↓gf_41_2, ↓gf_41_3, ↓pf_41_3, ↓gf_41_4, ↓gf_41_5, ↓gf_41_6, ↓gf_41_7, ↓gf_41_8, ↓pf_41_8, ↓gf_41_9, ↓pf_41_9, ↓gf_41_10, ↓gf_41_11, ↓ho_41, ↓gi_42, ↓pi_42, ↓gi_43, ↓pi_43, ↓gi_44, ↓pi_44, ↓gi_45, ↓pi_45, ↓gi_46, ↓pi_46, ↓gi_47, ↓pi_47, ↓gi_48, ↓pi_48, ↓gi_51, ↓pi_51, ↓gi_52, ↓pi_52, ↓gi_53, ↓pi_53, ↓gi_91, ↓pi_91, ↓gi_92, ↓pi_92, ↓gi_93, ↓pi_93, ↓gi_95, ↓pi_95, ↓gi_89, ↓pi_89, ↓gi_94, ↓pi_94, ↓gi_1, ↓gi_3, ↓gn_1, ↓gn_2, ↓gr_2, ↓gr_55, ↓pr_55, ↓gl_96, ↓pl_96, ↓gf_w0, ↓gf_w1, ↓gw_w, ↓gf_s0, ↓gf_s1, ↓ho_s, ↓gn_b, ↓gi_b, tf_2, io_zin (show p < 2147483648 by omega) (show p < 150 by omega), io_ix (show p < 2147483648 by omega), (hB p h).1]
  · simp only [h, if_false, ↓e10_0, ↓e10_1, ↓e10_4, ↓e10_5, ↓e10_8, ↓e10_11, ↓e10_12, ↓e10_15, ↓e10_16, ↓e10_19, ↓e10_20, ↓e10_23, ↓e10_24, ↓ldI_0, ↓ldI_s, ↓ldA_0, ↓ldA_n, ↓ldA_s, ↓ldL_0, ↓ldL_s, ↓lst_0, ↓lst_s, ↓cal_v, ↓cal_x, ↓vts_s, ↓vts_n, ↓lpr_0, ↓lpr_i, ↓lpr_r, ↓lpr_n, ↓lpr_s, PA_41, ↓reduceIte, or_true, true_or, ↓ho_40, ↓gf_40_0, ↓gf_40_1, ↓gf_40_2, ↓gf_40_3, ↓ho_49, ↓gf_49_0, ↓gf_49_1, ↓gf_49_2, ↓gf_49_3, ↓pf_49_3, ↓ho_50, ↓gf_50_0, ↓gf_50_1, ↓gf_50_2, ↓pf_50_2, ↓gf_50_3, ↓pf_50_3, ↓gf_50_4, ↓pf_50_4, ↓gf_50_5, ↓pf_50_5, ↓gf_50_6, ↓pf_50_6, ↓ho_54, ↓gf_54_0, ↓gf_54_1, ↓pf_54_1, ↓ho_88, ↓gf_88_0, ↓gf_88_1, ↓pf_88_1, ↓gf_88_2, ↓pf_88_2, ↓gf_88_3, ↓pf_88_3, ↓gf_88_4, ↓pf_88_4, ↓gf_88_5, ↓pf_88_5, ↓ho_90, ↓gf_90_0, ↓gf_90_1, ↓gf_90_2, ↓pf_90_2, ↓gf_90_3, ↓pf_90_3, ↓gf_90_4, ↓gf_90_5, ↓gf_90_6, ↓pf_90_6, ↓gf_90_7, ↓pf_90_7, ↓gf_90_8, ↓pf_90_8, ↓gf_90_9, ↓pf_90_9, ↓gf_90_10, ↓pf_90_10, ↓gf_90_11, ↓gf_41_0, ↓pf_41_0, ↓gf_41_1, ↓pf_41_1, ↓gf_41_2, ↓gf_41_3, ↓pf_41_3, ↓gf_41_4, ↓gf_41_5, ↓gf_41_6, ↓gf_41_7, ↓gf_41_8, ↓pf_41_8, ↓gf_41_9, ↓pf_41_9, ↓gf_41_10, ↓gf_41_11, ↓ho_41, ↓gi_42, ↓pi_42, ↓gi_43, ↓pi_43, ↓gi_44, ↓pi_44, ↓gi_45, ↓pi_45, ↓gi_46, ↓pi_46, ↓gi_47, ↓pi_47, ↓gi_48, ↓pi_48, ↓gi_51, ↓pi_51, ↓gi_52, ↓pi_52, ↓gi_53, ↓pi_53, ↓gi_91, ↓pi_91, ↓gi_92, ↓pi_92, ↓gi_93, ↓pi_93, ↓gi_95, ↓pi_95, ↓gi_89, ↓pi_89, ↓gi_94, ↓pi_94, ↓gi_1, ↓gi_3, ↓gn_1, ↓gn_2, ↓gr_2, ↓gr_55, ↓pr_55, ↓gl_96, ↓pl_96, ↓gf_w0, ↓gf_w1, ↓gw_w, ↓gf_s0, ↓gf_s1, ↓ho_s, ↓gn_b, ↓gi_b]
theorem t11 {F' : Nat → Nat → Int32} (hX : TX F A bx t) : Rv 11 0 [some (.int (byh bx t p))] [] (en G c F' A P W O) = some (.inl (some (.int (if isr bx t 48 57 p = true then 1 else 0))), en G c F' A P W O) := by
  obtain ⟨h150, hT, hB⟩ := hX
  unfold byh isr
  by_cases h : p < t
  · have h2 := (hB p h).2
    have e1 : (Int32.ofNat (bx p) < 48) = (bx p < 48) := io_lt (b := 48) (by omega) (by omega)
    have e2 : ((57 : Int32) < Int32.ofNat (bx p)) = (57 < bx p) := io_lt (a := 57) (by omega) (by omega)
    simp only [↓e11_0, ↓e11_1, ↓e11_3, ↓e11_6, ↓e11_7, ↓e11_9, ↓e11_12, ↓e11_13, ↓e11_16, ↓e11_17, ↓ldI_0, ↓ldI_s, ↓ldA_0, ↓ldA_n, ↓ldA_s, ↓ldL_0, ↓ldL_s, ↓lst_0, ↓lst_s, ↓cal_v, ↓cal_x, ↓vts_s, ↓vts_n, ↓lpr_0, ↓lpr_i, ↓lpr_r, ↓lpr_n, ↓lpr_s, PA_41, ↓reduceIte, or_true, true_or, ↓ho_40, ↓gf_40_0, ↓gf_40_1, ↓gf_40_2, ↓gf_40_3, ↓ho_49, ↓gf_49_0, ↓gf_49_1, ↓gf_49_2, ↓gf_49_3, ↓pf_49_3, ↓ho_50, ↓gf_50_0, ↓gf_50_1, ↓gf_50_2, ↓pf_50_2, ↓gf_50_3, ↓pf_50_3, ↓gf_50_4, ↓pf_50_4, ↓gf_50_5, ↓pf_50_5, ↓gf_50_6, ↓pf_50_6, ↓ho_54, ↓gf_54_0, ↓gf_54_1, ↓pf_54_1, ↓ho_88, ↓gf_88_0, ↓gf_88_1, ↓pf_88_1, ↓gf_88_2, ↓pf_88_2, ↓gf_88_3, ↓pf_88_3, ↓gf_88_4, ↓pf_88_4, ↓gf_88_5, ↓pf_88_5, ↓ho_90, ↓gf_90_0, ↓gf_90_1, ↓gf_90_2, ↓pf_90_2, ↓gf_90_3, ↓pf_90_3, ↓gf_90_4, ↓gf_90_5, ↓gf_90_6, ↓pf_90_6, ↓gf_90_7, ↓pf_90_7, ↓gf_90_8, ↓pf_90_8, ↓gf_90_9, ↓pf_90_9, ↓gf_90_10, ↓pf_90_10, ↓gf_90_11, ↓gf_41_0, ↓pf_41_0, ↓gf_41_1, ↓pf_41_1, ↓gf_41_2, ↓gf_41_3, ↓pf_41_3, ↓gf_41_4, ↓gf_41_5, ↓gf_41_6, ↓gf_41_7, ↓gf_41_8, ↓pf_41_8, ↓gf_41_9, ↓pf_41_9, ↓gf_41_10, ↓gf_41_11, ↓ho_41, ↓gi_42, ↓pi_42, ↓gi_43, ↓pi_43, ↓gi_44, ↓pi_44, ↓gi_45, ↓pi_45, ↓gi_46, ↓pi_46, ↓gi_47, ↓pi_47, ↓gi_48, ↓pi_48, ↓gi_51, ↓pi_51, ↓gi_52, ↓pi_52, ↓gi_53, ↓pi_53, ↓gi_91, ↓pi_91, ↓gi_92, ↓pi_92, ↓gi_93, ↓pi_93, ↓gi_95, ↓pi_95, ↓gi_89, ↓pi_89, ↓gi_94, ↓pi_94, ↓gi_1, ↓gi_3, ↓gn_1, ↓gn_2, ↓gr_2, ↓gr_55, ↓pr_55, ↓gl_96, ↓pl_96, ↓gf_w0, ↓gf_w1, ↓gw_w, ↓gf_s0, ↓gf_s1, ↓ho_s, ↓gn_b, ↓gi_b, h, if_true, e1, e2, decide_true, Bool.true_and]
    by_cases h3 : bx p < 48
    · simp [h3, show ¬ 48 ≤ bx p by omega]
    · by_cases h4 : 57 < bx p
      · simp [h3, h4, show ¬ bx p ≤ 57 by omega]
      · simp [h3, h4, show 48 ≤ bx p by omega, show bx p ≤ 57 by omega]
  · simp only [↓e11_0, ↓e11_1, ↓e11_3, ↓e11_6, ↓e11_7, ↓e11_9, ↓e11_12, ↓e11_13, ↓e11_16, ↓e11_17, ↓ldI_0, ↓ldI_s, ↓ldA_0, ↓ldA_n, ↓ldA_s, ↓ldL_0, ↓ldL_s, ↓lst_0, ↓lst_s, ↓cal_v, ↓cal_x, ↓vts_s, ↓vts_n, ↓lpr_0, ↓lpr_i, ↓lpr_r, ↓lpr_n, ↓lpr_s, PA_41, ↓reduceIte, or_true, true_or, ↓ho_40, ↓gf_40_0, ↓gf_40_1, ↓gf_40_2, ↓gf_40_3, ↓ho_49, ↓gf_49_0, ↓gf_49_1, ↓gf_49_2, ↓gf_49_3, ↓pf_49_3, ↓ho_50, ↓gf_50_0, ↓gf_50_1, ↓gf_50_2, ↓pf_50_2, ↓gf_50_3, ↓pf_50_3, ↓gf_50_4, ↓pf_50_4, ↓gf_50_5, ↓pf_50_5, ↓gf_50_6, ↓pf_50_6, ↓ho_54, ↓gf_54_0, ↓gf_54_1, ↓pf_54_1, ↓ho_88, ↓gf_88_0, ↓gf_88_1, ↓pf_88_1, ↓gf_88_2, ↓pf_88_2, ↓gf_88_3, ↓pf_88_3, ↓gf_88_4, ↓pf_88_4, ↓gf_88_5, ↓pf_88_5, ↓ho_90, ↓gf_90_0, ↓gf_90_1, ↓gf_90_2, ↓pf_90_2, ↓gf_90_3, ↓pf_90_3, ↓gf_90_4, ↓gf_90_5, ↓gf_90_6, ↓pf_90_6, ↓gf_90_7, ↓pf_90_7, ↓gf_90_8, ↓pf_90_8, ↓gf_90_9, ↓pf_90_9, ↓gf_90_10, ↓pf_90_10, ↓gf_90_11, ↓gf_41_0, ↓pf_41_0, ↓gf_41_1, ↓pf_41_1, ↓gf_41_2, ↓gf_41_3, ↓pf_41_3, ↓gf_41_4, ↓gf_41_5, ↓gf_41_6, ↓gf_41_7, ↓gf_41_8, ↓pf_41_8, ↓gf_41_9, ↓pf_41_9, ↓gf_41_10, ↓gf_41_11, ↓ho_41, ↓gi_42, ↓pi_42, ↓gi_43, ↓pi_43, ↓gi_44, ↓pi_44, ↓gi_45, ↓pi_45, ↓gi_46, ↓pi_46, ↓gi_47, ↓pi_47, ↓gi_48, ↓pi_48, ↓gi_51, ↓pi_51, ↓gi_52, ↓pi_52, ↓gi_53, ↓pi_53, ↓gi_91, ↓pi_91, ↓gi_92, ↓pi_92, ↓gi_93, ↓pi_93, ↓gi_95, ↓pi_95, ↓gi_89, ↓pi_89, ↓gi_94, ↓pi_94, ↓gi_1, ↓gi_3, ↓gn_1, ↓gn_2, ↓gr_2, ↓gr_55, ↓pr_55, ↓gl_96, ↓pl_96, ↓gf_w0, ↓gf_w1, ↓gw_w, ↓gf_s0, ↓gf_s1, ↓ho_s, ↓gn_b, ↓gi_b, h, if_false, decide_false, Bool.false_and, show ((-1 : Int32) < 48) = True from by decide, Bool.false_eq_true]
end ZT
