/-! going through all codes, and through a list of them -/
theorem fo_cong {α : Type} {f f' : Nat → α → α} {n : Nat} {a : α} (h : ∀ k, k < n → ∀ s, f k s = f' k s) : fo f n a = fo f' n a := by
  induction n with
  | zero => rfl
  | succ n ih =>
    show f n (fo f n a) = f' n (fo f' n a)
    rw [ih fun k hk => h k (by omega), h n (by omega)]
theorem fo_id {α : Type} {f : Nat → α → α} {n : Nat} {a : α} (h : ∀ k, k < n → ∀ s, f k s = s) : fo f n a = a := by
  induction n with
  | zero => rfl
  | succ n ih =>
    show f n (fo f n a) = a
    rw [ih fun k hk => h k (by omega), h n (by omega)]
theorem fo_add {α : Type} (f : Nat → α → α) (n : Nat) (a : α) : ∀ k, fo f (n + k) a = fo (fun y s => f (n + y) s) k (fo f n a)
  | 0 => rfl
  | k + 1 => by
    show f (n + k) (fo f (n + k) a) = f (n + k) (fo (fun y s => f (n + y) s) k (fo f n a))
    rw [fo_add f n a k]
theorem fo_mul {α : Type} (f : Nat → α → α) (m : Nat) (a : α) : ∀ b, fo f (m * b) a = fo (fun r s => fo (fun y s => f (m * r + y) s) m s) b a
  | 0 => rfl
  | b + 1 => by
    show fo f (m * b + m) a = fo (fun y s => f (m * b + y) s) m (fo (fun r s => fo (fun y s => f (m * r + y) s) m s) b a)
    rw [fo_add, fo_mul f m a b]
theorem cnt_fo (p : Nat → Bool) : ∀ n, cnt p n = fo (fun k s => if p k = true then s + 1 else s) n 0
  | 0 => rfl
  | n + 1 => by
    show (if p n = true then cnt p n + 1 else cnt p n) = _
    rw [cnt_fo p n]
    rfl
theorem cnt_mono (p : Nat → Bool) {n m : Nat} (h : n ≤ m) : cnt p n ≤ cnt p m := by
  obtain ⟨k, rfl⟩ : ∃ k, m = n + k := ⟨m - n, by omega⟩
  rw [cnt_split]
  omega
theorem cnt_s (p : Nat → Bool) (n : Nat) : cnt p (n + 1) = if p n = true then cnt p n + 1 else cnt p n := rfl
theorem cnt_lt {p : Nat → Bool} {n m : Nat} (h : n < m) (hp : p n = true) : cnt p n < cnt p m := by
  have h1 := cnt_mono p (show n + 1 ≤ m by omega)
  rw [cnt_s, if_pos hp] at h1
  omega
theorem cnt_kth {p : Nat → Bool} {k : Nat} : ∀ {n : Nat}, k < cnt p n → ∃ i, i < n ∧ p i = true ∧ cnt p i = k
  | 0, h => absurd h (Nat.not_lt_zero k)
  | n + 1, h => by
    rw [cnt_s] at h
    by_cases hp : p n = true
    · rw [if_pos hp] at h
      by_cases e : k < cnt p n
      · obtain ⟨i, hi, h1⟩ := cnt_kth e
        exact ⟨i, by omega, h1⟩
      · exact ⟨n, by omega, hp, by omega⟩
    · rw [if_neg hp] at h
      obtain ⟨i, hi, h1⟩ := cnt_kth h
      exact ⟨i, by omega, h1⟩
theorem cnt_sub {p q : Nat → Bool} : ∀ {n : Nat}, (∀ k, k < n → p k = true → q k = true) → cnt p n ≤ cnt q n
  | 0, _ => Nat.le_refl _
  | n + 1, h => by
    have h1 := cnt_sub (n := n) (p := p) (q := q) (fun k hk => h k (by omega))
    have h2 := h n (by omega)
    rw [cnt_s, cnt_s]
    by_cases hp : p n = true
    · rw [if_pos hp, if_pos (h2 hp)]; omega
    · rw [if_neg hp]; split <;> omega
theorem allb_first (p : Nat → Bool) : ∀ n, allb p (n + 1) = (p 0 && allb (fun k => p (k + 1)) n)
  | 0 => by
    show (true && p 0) = (p 0 && true)
    cases p 0 <;> rfl
  | n + 1 => by
    show (allb p (n + 1) && p (n + 1)) = (p 0 && (allb (fun k => p (k + 1)) n && p (n + 1)))
    rw [allb_first p n, Bool.and_assoc]
theorem icd_lead {t r y : Nat} (c : Nat) (hr : r < 10) (hy : y < 10 ^ c) : icd (c + 1) t (10 ^ c * r + y) = (decide (r < t) && icd c t y) := by
  have hp : 0 < 10 ^ c := Nat.pow_pos (by omega)
  have h1 : 10 ^ c * r + y < 10 ^ (c + 1) := by
    rw [Nat.pow_succ]
    have := Nat.mul_le_mul_left (10 ^ c) (show r ≤ 9 by omega)
    omega
  have h2 : dig (c + 1) (10 ^ c * r + y) 0 = r := by
    unfold dig
    rw [show c + 1 - 1 - 0 = c by omega, Nat.mul_add_div hp, Nat.div_eq_of_lt hy, Nat.add_zero, Nat.mod_eq_of_lt hr]
  have h3 : ∀ j, j < c → dig (c + 1) (10 ^ c * r + y) (j + 1) = dig c y j := fun j hj => by
    unfold dig
    have e : 10 ^ c = 10 ^ (c - 1 - j) * (10 * 10 ^ j) := by
      rw [Nat.mul_comm 10, ← Nat.pow_succ, ← Nat.pow_add]
      congr 1
      omega
    have hq : 0 < 10 ^ (c - 1 - j) := Nat.pow_pos (by omega)
    rw [show c + 1 - 1 - (j + 1) = c - 1 - j by omega, e, Nat.mul_assoc, Nat.mul_add_div hq, Nat.mul_assoc, Nat.add_comm, Nat.add_mul_mod_self_left]
  unfold icd
  rw [decide_eq_true h1, decide_eq_true hy, allb_first, h2, allb_cong fun j hj => show decide (dig (c + 1) (10 ^ c * r + y) (j + 1) < t) = decide (dig c y j < t) by rw [h3 j hj]]
  cases decide (r < t) <;> simp
theorem cofn_mod (t : Nat) (ht : 1 ≤ t) (r v : Nat) {m : Nat} : ∀ c, c ≤ m → cofn t c (t ^ m * r + v) = cofn t c v
  | 0, _ => rfl
  | c + 1, h => by
    have e : t ^ m = t ^ c * (t * t ^ (m - 1 - c)) := by
      rw [Nat.mul_comm t, ← Nat.pow_succ, ← Nat.pow_add]
      congr 1
      omega
    have hq : 0 < t ^ c := Nat.pow_pos (by omega)
    show cofn t c (t ^ m * r + v) + (t ^ m * r + v) / t ^ c % t * 10 ^ c = cofn t c v + v / t ^ c % t * 10 ^ c
    have e2 : (t ^ m * r + v) / t ^ c % t = v / t ^ c % t := by
      rw [e, Nat.mul_assoc, Nat.mul_add_div hq, Nat.mul_assoc, Nat.add_comm, Nat.add_mul_mod_self_left]
    rw [cofn_mod t ht r v c (by omega), e2]
/-- all codes by their cuts are the codes among all numbers -/
theorem fo_codes {α : Type} {t : Nat} (ht : 1 ≤ t) (h10 : t ≤ 10) : ∀ (c : Nat) (h : Nat → α → α) (a : α), fo (fun x s => if icd c t x = true then h x s else s) (10 ^ c) a = fo (fun v s => h (cofn t c v) s) (t ^ c) a := by
  intro c
  induction c with
  | zero => intro h a; rfl
  | succ c ih =>
    intro h a
    have hq : 0 < t ^ c := Nat.pow_pos (by omega)
    rw [Nat.pow_succ, Nat.pow_succ, fo_mul, fo_mul]
    have e1 : ∀ r, r < 10 → ∀ s, fo (fun y s => if icd (c + 1) t (10 ^ c * r + y) = true then h (10 ^ c * r + y) s else s) (10 ^ c) s = if r < t then fo (fun v s => h (10 ^ c * r + cofn t c v) s) (t ^ c) s else s := by
      intro r hr s
      by_cases hrt : r < t
      · rw [if_pos hrt, ← ih (fun y s => h (10 ^ c * r + y) s) s]
        refine fo_cong fun y hy s => ?_
        rw [icd_lead c hr hy, decide_eq_true hrt, Bool.true_and]
      · rw [if_neg hrt]
        refine fo_id fun y hy s => ?_
        rw [icd_lead c hr hy, decide_eq_false hrt]
        rfl
    rw [fo_cong e1]
    obtain ⟨k, hk⟩ : ∃ k, 10 = t + k := ⟨10 - t, by omega⟩
    have e2 : ∀ a, fo (fun r s => if r < t then fo (fun v s => h (10 ^ c * r + cofn t c v) s) (t ^ c) s else s) 10 a = fo (fun r s => fo (fun v s => h (10 ^ c * r + cofn t c v) s) (t ^ c) s) t a := by
      intro a
      have e3 := fo_add (fun r s => if r < t then fo (fun v s => h (10 ^ c * r + cofn t c v) s) (t ^ c) s else s) t a k
      rw [← hk] at e3
      rw [e3, fo_id fun y _ s => if_neg (by omega)]
      exact fo_cong fun r hr s => if_pos hr
    rw [e2]
    refine fo_cong fun r hr s => fo_cong fun v hv s => ?_
    have e4 : cofn t (c + 1) (t ^ c * r + v) = 10 ^ c * r + cofn t c v := by
      show cofn t c (t ^ c * r + v) + (t ^ c * r + v) / t ^ c % t * 10 ^ c = _
      rw [cofn_mod t ht r v c (Nat.le_refl _), Nat.mul_add_div hq, Nat.div_eq_of_lt hv, Nat.add_zero, Nat.mod_eq_of_lt hr, Nat.mul_comm r, Nat.add_comm]
    rw [e4]
theorem fo_list {α : Type} {p : Nat → Bool} {f f' : Nat → α → α} {a : α} : ∀ {N : Nat}, (∀ x, x < N → p x = true → ∀ s, f (cnt p x) s = f' x s) → fo f (cnt p N) a = fo (fun x s => if p x = true then f' x s else s) N a
  | 0, _ => rfl
  | N + 1, h => by
    have ih := fo_list (N := N) (a := a) fun x hx => h x (by omega)
    show fo f (if p N = true then cnt p N + 1 else cnt p N) a = (if p N = true then f' N _ else _)
    by_cases hp : p N = true
    · rw [if_pos hp, if_pos hp]
      show f (cnt p N) (fo f (cnt p N) a) = _
      rw [ih, h N (by omega) hp]
    · rw [if_neg hp, if_neg hp, ih]
/-- lawful codes -/
def lwp (g : Nat → Int32) (x : Nat) : Bool := decide (wrg g x = 0)
theorem lwp_icd {g : Nat → Int32} {x : Nat} (h : lwp g x = true) : icd (chn g) (dpn g) x = true := wrg_icd (of_decide_eq_true h)
theorem lst_codes {α : Type} {g : Nat → Int32} (hw : Wf g) {f f' : Nat → α → α} {a : α} (h : ∀ x, x < 10 ^ chn g → lwp g x = true → ∀ s, f (cnt (lwp g) x) s = f' x s) : fo f (cnt (lwp g) (10 ^ chn g)) a = fo (fun v s => if lwp g (cofn (dpn g) (chn g) v) = true then f' (cofn (dpn g) (chn g) v) s else s) (dpn g ^ chn g) a := by
  have d2 := wf_d2 hw
  have d6 := wf_d6 hw
  rw [fo_list h, ← fo_codes (show 1 ≤ dpn g by omega) (by omega) (chn g) (fun x s => if lwp g x = true then f' x s else s) a]
  refine fo_cong fun x hx s => ?_
  by_cases e : lwp g x = true
  · rw [if_pos e, if_pos (lwp_icd e)]
  · rw [if_neg e]
    split <;> rfl
theorem cnt_codes {g : Nat → Int32} (hw : Wf g) : cnt (lwp g) (10 ^ chn g) ≤ 1296 := by
  have d2 := wf_d2 hw
  have d6 := wf_d6 hw
  have h1 := cnt_sub (n := 10 ^ chn g) (p := lwp g) (q := icd (chn g) (dpn g)) fun k _ h => lwp_icd h
  have h2 : cnt (icd (chn g) (dpn g)) (10 ^ chn g) = dpn g ^ chn g := by
    rw [cnt_fo, fo_codes (show 1 ≤ dpn g by omega) (by omega) (chn g) (fun _ s => s + 1) 0]
    have : ∀ n, fo (fun _ (s : Nat) => s + 1) n 0 = n := fun n => by
      induction n with
      | zero => rfl
      | succ n ih => show fo (fun _ (s : Nat) => s + 1) n 0 + 1 = n + 1; rw [ih]
    exact this _
  have h3 := pow_le46 d6 (wf_c4 hw) d2
  omega
/-- the list of lawful codes -/
def LL (F A : Nat → Nat → Int32) (g : Nat → Int32) : Prop := F 50 2 = Int32.ofNat (cnt (lwp g) (10 ^ chn g)) ∧ ∀ x, x < 10 ^ chn g → lwp g x = true → A 51 (cnt (lwp g) x) = Int32.ofNat x ∧ A 52 (cnt (lwp g) x) = bits (ctb (chn g) x) 24
def LC (F A : Nat → Nat → Int32) : Prop := F 50 3 = 0 ∨ ∃ g, Wf g ∧ F 50 3 = g 0 ∧ F 50 4 = g 1 ∧ F 50 5 = g 2 ∧ F 50 6 = g 3 ∧ LL F A g
def lcA (A : Nat → Nat → Int32) (f1 f2 : Nat → Int32) : Nat → Nat → Int32 := fun b => if b = 51 then f1 else if b = 52 then f2 else A b
theorem lcA_51 {A : Nat → Nat → Int32} {f1 f2 : Nat → Int32} : lcA A f1 f2 51 = f1 := rfl
theorem lcA_52 {A : Nat → Nat → Int32} {f1 f2 : Nat → Int32} : lcA A f1 f2 52 = f2 := rfl
theorem lcA_no {A : Nat → Nat → Int32} {f1 f2 : Nat → Int32} {b : Nat} (h1 : b ≠ 51) (h2 : b ≠ 52) : lcA A f1 f2 b = A b := by
  unfold lcA; rw [if_neg h1, if_neg h2]
theorem lcA_s1 {A : Nat → Nat → Int32} {f1 f2 : Nat → Int32} {i : Nat} {x : Int32} : u2 (lcA A f1 f2) 51 i x = lcA A (upd f1 i x) f2 := by
  funext b
  by_cases h : b = 51
  · subst h; rw [u2_at]; rfl
  · rw [u2_ne h]; unfold lcA; rw [if_neg h, if_neg h]
theorem lcA_s2 {A : Nat → Nat → Int32} {f1 f2 : Nat → Int32} {i : Nat} {x : Int32} : u2 (lcA A f1 f2) 52 i x = lcA A f1 (upd f2 i x) := by
  funext b
  by_cases h : b = 52
  · subst h; rw [u2_at]; rfl
  · rw [u2_ne h]; unfold lcA; rw [if_neg h, if_neg h]
theorem lcA_self {A : Nat → Nat → Int32} : lcA A (A 51) (A 52) = A := by
  funext b
  unfold lcA
  by_cases h : b = 51
  · rw [if_pos h, h]
  · rw [if_neg h]
    by_cases h2 : b = 52
    · rw [if_pos h2, h2]
    · rw [if_neg h2]
def ls1 (g : Nat → Int32) (f : Nat → Int32) : Nat → Nat → Int32
  | 0 => f
  | k + 1 => if lwp g k = true then upd (ls1 g f k) (cnt (lwp g) k) (Int32.ofNat k) else ls1 g f k
def ls2 (g : Nat → Int32) (f : Nat → Int32) : Nat → Nat → Int32
  | 0 => f
  | k + 1 => if lwp g k = true then upd (ls2 g f k) (cnt (lwp g) k) (bits (ctb (chn g) k) 24) else ls2 g f k
theorem ls_is {g f1 f2 : Nat → Int32} : ∀ {n : Nat}, ∀ x, x < n → lwp g x = true → ls1 g f1 n (cnt (lwp g) x) = Int32.ofNat x ∧ ls2 g f2 n (cnt (lwp g) x) = bits (ctb (chn g) x) 24
  | 0, x, hx, _ => absurd hx (Nat.not_lt_zero x)
  | n + 1, x, hx, hp => by
    show (if lwp g n = true then upd (ls1 g f1 n) (cnt (lwp g) n) (Int32.ofNat n) else ls1 g f1 n) _ = _ ∧ (if lwp g n = true then upd (ls2 g f2 n) (cnt (lwp g) n) (bits (ctb (chn g) n) 24) else ls2 g f2 n) _ = _
    rcases Nat.lt_succ_iff_lt_or_eq.mp hx with h | h
    · have ih := ls_is (f1 := f1) (f2 := f2) x h hp
      have hl := cnt_lt (p := lwp g) h hp
      by_cases e : lwp g n = true
      · rw [if_pos e, if_pos e, upd_no (by omega), upd_no (by omega)]; exact ih
      · rw [if_neg e, if_neg e]; exact ih
    · subst h
      rw [if_pos hp, if_pos hp, upd_at, upd_at]
      exact ⟨rfl, rfl⟩
theorem rp_cg {F A F' A' : Nat → Nat → Int32} {p : Nat} {g : Nat → Int32} (h : Rp F A p g) (hF : F' p = F p) (hA : ∀ i, 1 ≤ i → i ≤ 7 → A' (p + i) = A (p + i)) : Rp F' A' p g := by
  unfold Rp
  rw [hF, hA 1 (by omega) (by omega), hA 2 (by omega) (by omega), hA 3 (by omega) (by omega), hA 4 (by omega) (by omega), hA 5 (by omega) (by omega), hA 6 (by omega) (by omega), hA 7 (by omega) (by omega)]
  exact h
section ZT
variable {G : zG} {c : Nat × Nat × Bool} {F A : Nat → Nat → Int32} {P : Nat → Nat} {W : Value} {O : Nat → Int64} {x y j k d e u v : Int32} {p q a b i n m t w : Nat} {g : Nat → Int32}
theorem t28 (hw : Wf g) (hR : Rp F A 41 g) : Rv 28 0 [some (.ref 50), some (.ref 41)] [] (en G c F A P W O) = some (.inl (some (.int (if F 50 3 = g 0 ∧ F 50 4 = g 1 ∧ F 50 5 = g 2 ∧ F 50 6 = g 3 then 1 else 0))), (en G c F A P W O)) := by
  simp only [↓e28_0, ↓e28_1, ↓e28_4, ↓e28_5, ↓e28_8, ↓e28_11, ↓e28_12, ↓e28_15, ↓e28_16, ↓e28_19, ↓e28_22, ↓e28_23, ↓e28_26, ↓e28_27, ↓e28_28, ↓e28_31, ↓e28_34, ↓e28_35, ↓e28_38, ↓e28_39, ↓e28_40, ↓e28_43, ↓e28_46, ↓e28_47, ↓e28_50, ↓e28_51, ↓ldI_0, ↓ldI_s, ↓ldA_0, ↓ldA_n, ↓ldA_s, ↓ldL_0, ↓ldL_s, ↓lst_0, ↓lst_s, ↓cal_v, ↓cal_x, ↓vts_s, ↓vts_n, ↓lpr_0, ↓lpr_i, ↓lpr_r, ↓lpr_n, ↓lpr_s, PA_41, ↓reduceIte, or_true, true_or, ↓ho_40, ↓gf_40_0, ↓gf_40_1, ↓gf_40_2, ↓gf_40_3, ↓ho_49, ↓gf_49_0, ↓gf_49_1, ↓gf_49_2, ↓gf_49_3, ↓pf_49_3, ↓ho_50, ↓gf_50_0, ↓gf_50_1, ↓gf_50_2, ↓pf_50_2, ↓gf_50_3, ↓pf_50_3, ↓gf_50_4, ↓pf_50_4, ↓gf_50_5, ↓pf_50_5, ↓gf_50_6, ↓pf_50_6, ↓ho_54, ↓gf_54_0, ↓gf_54_1, ↓pf_54_1, ↓ho_88, ↓gf_88_0, ↓gf_88_1, ↓pf_88_1, ↓gf_88_2, ↓pf_88_2, ↓gf_88_3, ↓pf_88_3, ↓gf_88_4, ↓pf_88_4, ↓gf_88_5, ↓pf_88_5, ↓gf_41_0, ↓pf_41_0, ↓gf_41_1, ↓pf_41_1, ↓gf_41_2, ↓gf_41_3, ↓pf_41_3, ↓gf_41_4, ↓gf_41_5, ↓gf_41_6, ↓gf_41_7, ↓gf_41_8, ↓pf_41_8, ↓gf_41_9, ↓pf_41_9, ↓gf_41_10, ↓gf_41_11, ↓ho_41, ↓gi_42, ↓pi_42, ↓gi_43, ↓pi_43, ↓gi_44, ↓pi_44, ↓gi_45, ↓pi_45, ↓gi_46, ↓pi_46, ↓gi_47, ↓pi_47, ↓gi_48, ↓pi_48, ↓gi_51, ↓pi_51, ↓gi_52, ↓pi_52, ↓gi_53, ↓pi_53, ↓gi_89, ↓pi_89, ↓gi_1, ↓gn_1, ↓gr_55, ↓pr_55, hR.1.1, hR.1.2.1, s35 zin_lit3.1, s35 zin_lit3.2.1, ix_0, ix_1, hR.2.1.1, hR.2.1.2.1]
  by_cases h1 : F 50 3 = g 0
  · by_cases h2 : F 50 4 = g 1
    · by_cases h3 : F 50 5 = g 2
      · by_cases h4 : F 50 6 = g 3
        · simp [h1, h2, h3, h4]
        · simp [h1, h2, h3, h4]
      · simp [h1, h2, h3]
    · simp [h1, h2]
  · simp [h1]
/-- the head of the list -/
def lcF (F : Nat → Nat → Int32) (g : Nat → Int32) (n : Int32) : Nat → Nat → Int32 := u2 (u2 (u2 (u2 (u2 F 50 3 (g 0)) 50 4 (g 1)) 50 5 (g 2)) 50 6 (g 3)) 50 2 n
theorem t29 (hw : Wf g) (hR : Rp F A 41 g) : Rv 29 0 [some (.ref 50), some (.ref 41), none, none] [] (en G c F A P W O) = some (.inl none, en G c (lcF F g (Int32.ofNat (cnt (lwp g) (10 ^ chn g)))) (lcA A (ls1 g (A 51) (10 ^ chn g)) (ls2 g (A 52) (10 ^ chn g))) P W O) := by
  have c4 := wf_c4 hw
  have ht := ten_4 c4
  have hcc := cnt_codes hw
  have c0 := rp_c hR hw
  have hR1 : ∀ n f1 f2, Rp (lcF F g n) (lcA A f1 f2) 41 g := fun n f1 f2 => rp_cg hR (by unfold lcF; rw [u2_ne (by omega), u2_ne (by omega), u2_ne (by omega), u2_ne (by omega), u2_ne (by omega)]) fun i h1 h2 => lcA_no (by omega) (by omega)
  have e0 : ∀ n, lcF F g n 41 0 = Int32.ofNat (chn g) := fun n => rp_c (hR1 n (A 51) (A 52)) hw
  have f1 : u2 F 50 3 (g 0) 41 = F 41 := u2_ne (by omega)
  have f2 : u2 (u2 F 50 3 (g 0)) 50 4 (g 1) 41 = F 41 := by rw [u2_ne (by omega), u2_ne (by omega)]
  have f3 : u2 (u2 (u2 F 50 3 (g 0)) 50 4 (g 1)) 50 5 (g 2) 41 = F 41 := by rw [u2_ne (by omega), u2_ne (by omega), u2_ne (by omega)]
  have f4 : u2 (u2 (u2 (u2 F 50 3 (g 0)) 50 4 (g 1)) 50 5 (g 2)) 50 6 (g 3) 41 = F 41 := by rw [u2_ne (by omega), u2_ne (by omega), u2_ne (by omega), u2_ne (by omega)]
  simp only [↓e29_0, ↓e29_1, ↓e29_2, ↓e29_5, ↓e29_8, ↓e29_9, ↓e29_10, ↓e29_13, ↓e29_16, ↓e29_17, ↓e29_18, ↓e29_19, ↓e29_22, ↓e29_25, ↓e29_26, ↓e29_27, ↓e29_28, ↓e29_31, ↓e29_34, ↓e29_35, ↓e29_36, ↓e29_37, ↓e29_39, ↓e29_40, ↓e29_43, ↓e29_46, ↓e29_47, ↓e29_49, ↓e29_50, ↓e29_51, ↓e29_54, ↓e29_57, ↓e29_58, ↓e29_59, ↓e29_62, ↓e29_63, ↓e29_65, ↓e29_66, ↓e29_69, ↓e29_70, ↓e29_71, ↓e29_74, ↓e29_77, ↓e29_78, ↓e29_81, ↓e29_84, ↓e29_87, ↓e29_88, ↓e29_91, ↓e29_92, ↓e29_95, ↓e29_96, ↓e29_97, ↓e29_98, ↓e29_101, ↓e29_102, ↓e29_105, ↓e29_106, ↓e29_107, ↓e29_110, ↓e29_113, ↓e29_114, ↓e29_115, ↓e29_116, ↓e29_119, ↓e29_120, ↓e29_121, ↓e29_124, ↓e29_127, ↓e29_130, ↓ldI_0, ↓ldI_s, ↓ldA_0, ↓ldA_n, ↓ldA_s, ↓ldL_0, ↓ldL_s, ↓lst_0, ↓lst_s, ↓cal_v, ↓cal_x, ↓vts_s, ↓vts_n, ↓lpr_0, ↓lpr_i, ↓lpr_r, ↓lpr_n, ↓lpr_s, PA_41, ↓reduceIte, or_true, true_or, ↓ho_40, ↓gf_40_0, ↓gf_40_1, ↓gf_40_2, ↓gf_40_3, ↓ho_49, ↓gf_49_0, ↓gf_49_1, ↓gf_49_2, ↓gf_49_3, ↓pf_49_3, ↓ho_50, ↓gf_50_0, ↓gf_50_1, ↓gf_50_2, ↓pf_50_2, ↓gf_50_3, ↓pf_50_3, ↓gf_50_4, ↓pf_50_4, ↓gf_50_5, ↓pf_50_5, ↓gf_50_6, ↓pf_50_6, ↓ho_54, ↓gf_54_0, ↓gf_54_1, ↓pf_54_1, ↓ho_88, ↓gf_88_0, ↓gf_88_1, ↓pf_88_1, ↓gf_88_2, ↓pf_88_2, ↓gf_88_3, ↓pf_88_3, ↓gf_88_4, ↓pf_88_4, ↓gf_88_5, ↓pf_88_5, ↓gf_41_0, ↓pf_41_0, ↓gf_41_1, ↓pf_41_1, ↓gf_41_2, ↓gf_41_3, ↓pf_41_3, ↓gf_41_4, ↓gf_41_5, ↓gf_41_6, ↓gf_41_7, ↓gf_41_8, ↓pf_41_8, ↓gf_41_9, ↓pf_41_9, ↓gf_41_10, ↓gf_41_11, ↓ho_41, ↓gi_42, ↓pi_42, ↓gi_43, ↓pi_43, ↓gi_44, ↓pi_44, ↓gi_45, ↓pi_45, ↓gi_46, ↓pi_46, ↓gi_47, ↓pi_47, ↓gi_48, ↓pi_48, ↓gi_51, ↓pi_51, ↓gi_52, ↓pi_52, ↓gi_53, ↓pi_53, ↓gi_89, ↓pi_89, ↓gi_1, ↓gn_1, ↓gr_55, ↓pr_55, hR.1.1, hR.1.2.1, s35 zin_lit3.1, s35 zin_lit3.2.1, ix_0, ix_1, hR.2.1.1, hR.2.1.2.1, f1, f2, f3]
  refine (lpV (fun k => Rv 29 38 [some (.ref 50), some (.ref 41), some (.int (Int32.ofNat (10 ^ k))), some (.int (Int32.ofNat k))] [] (en G c (u2 (u2 (u2 (u2 F 50 3 (g 0)) 50 4 (g 1)) 50 5 (g 2)) 50 6 (g 3)) A P W O)) (chn g) fun k hk => ?_).trans ?_
  · rw [h29_38]
    simp only [↓e29_0, ↓e29_1, ↓e29_2, ↓e29_5, ↓e29_8, ↓e29_9, ↓e29_10, ↓e29_13, ↓e29_16, ↓e29_17, ↓e29_18, ↓e29_19, ↓e29_22, ↓e29_25, ↓e29_26, ↓e29_27, ↓e29_28, ↓e29_31, ↓e29_34, ↓e29_35, ↓e29_36, ↓e29_37, ↓e29_39, ↓e29_40, ↓e29_43, ↓e29_46, ↓e29_47, ↓e29_49, ↓e29_50, ↓e29_51, ↓e29_54, ↓e29_57, ↓e29_58, ↓e29_59, ↓e29_62, ↓e29_63, ↓e29_65, ↓e29_66, ↓e29_69, ↓e29_70, ↓e29_71, ↓e29_74, ↓e29_77, ↓e29_78, ↓e29_81, ↓e29_84, ↓e29_87, ↓e29_88, ↓e29_91, ↓e29_92, ↓e29_95, ↓e29_96, ↓e29_97, ↓e29_98, ↓e29_101, ↓e29_102, ↓e29_105, ↓e29_106, ↓e29_107, ↓e29_110, ↓e29_113, ↓e29_114, ↓e29_115, ↓e29_116, ↓e29_119, ↓e29_120, ↓e29_121, ↓e29_124, ↓e29_127, ↓e29_130, ↓ldI_0, ↓ldI_s, ↓ldA_0, ↓ldA_n, ↓ldA_s, ↓ldL_0, ↓ldL_s, ↓lst_0, ↓lst_s, ↓cal_v, ↓cal_x, ↓vts_s, ↓vts_n, ↓lpr_0, ↓lpr_i, ↓lpr_r, ↓lpr_n, ↓lpr_s, PA_41, ↓reduceIte, or_true, true_or, ↓ho_40, ↓gf_40_0, ↓gf_40_1, ↓gf_40_2, ↓gf_40_3, ↓ho_49, ↓gf_49_0, ↓gf_49_1, ↓gf_49_2, ↓gf_49_3, ↓pf_49_3, ↓ho_50, ↓gf_50_0, ↓gf_50_1, ↓gf_50_2, ↓pf_50_2, ↓gf_50_3, ↓pf_50_3, ↓gf_50_4, ↓pf_50_4, ↓gf_50_5, ↓pf_50_5, ↓gf_50_6, ↓pf_50_6, ↓ho_54, ↓gf_54_0, ↓gf_54_1, ↓pf_54_1, ↓ho_88, ↓gf_88_0, ↓gf_88_1, ↓pf_88_1, ↓gf_88_2, ↓pf_88_2, ↓gf_88_3, ↓pf_88_3, ↓gf_88_4, ↓pf_88_4, ↓gf_88_5, ↓pf_88_5, ↓gf_41_0, ↓pf_41_0, ↓gf_41_1, ↓pf_41_1, ↓gf_41_2, ↓gf_41_3, ↓pf_41_3, ↓gf_41_4, ↓gf_41_5, ↓gf_41_6, ↓gf_41_7, ↓gf_41_8, ↓pf_41_8, ↓gf_41_9, ↓pf_41_9, ↓gf_41_10, ↓gf_41_11, ↓ho_41, ↓gi_42, ↓pi_42, ↓gi_43, ↓pi_43, ↓gi_44, ↓pi_44, ↓gi_45, ↓pi_45, ↓gi_46, ↓pi_46, ↓gi_47, ↓pi_47, ↓gi_48, ↓pi_48, ↓gi_51, ↓pi_51, ↓gi_52, ↓pi_52, ↓gi_53, ↓pi_53, ↓gi_89, ↓pi_89, ↓gi_1, ↓gn_1, ↓gr_55, ↓pr_55, f4, c0, io_lt (show k < 2147483648 by omega) (show chn g < 2147483648 by omega), show k < chn g from hk, show (10 : Int32) = Int32.ofNat 10 from rfl, io_mul, io_succ, Nat.pow_succ]
  · rw [h29_38]
    simp only [↓e29_0, ↓e29_1, ↓e29_2, ↓e29_5, ↓e29_8, ↓e29_9, ↓e29_10, ↓e29_13, ↓e29_16, ↓e29_17, ↓e29_18, ↓e29_19, ↓e29_22, ↓e29_25, ↓e29_26, ↓e29_27, ↓e29_28, ↓e29_31, ↓e29_34, ↓e29_35, ↓e29_36, ↓e29_37, ↓e29_39, ↓e29_40, ↓e29_43, ↓e29_46, ↓e29_47, ↓e29_49, ↓e29_50, ↓e29_51, ↓e29_54, ↓e29_57, ↓e29_58, ↓e29_59, ↓e29_62, ↓e29_63, ↓e29_65, ↓e29_66, ↓e29_69, ↓e29_70, ↓e29_71, ↓e29_74, ↓e29_77, ↓e29_78, ↓e29_81, ↓e29_84, ↓e29_87, ↓e29_88, ↓e29_91, ↓e29_92, ↓e29_95, ↓e29_96, ↓e29_97, ↓e29_98, ↓e29_101, ↓e29_102, ↓e29_105, ↓e29_106, ↓e29_107, ↓e29_110, ↓e29_113, ↓e29_114, ↓e29_115, ↓e29_116, ↓e29_119, ↓e29_120, ↓e29_121, ↓e29_124, ↓e29_127, ↓e29_130, ↓ldI_0, ↓ldI_s, ↓ldA_0, ↓ldA_n, ↓ldA_s, ↓ldL_0, ↓ldL_s, ↓lst_0, ↓lst_s, ↓cal_v, ↓cal_x, ↓vts_s, ↓vts_n, ↓lpr_0, ↓lpr_i, ↓lpr_r, ↓lpr_n, ↓lpr_s, PA_41, ↓reduceIte, or_true, true_or, ↓ho_40, ↓gf_40_0, ↓gf_40_1, ↓gf_40_2, ↓gf_40_3, ↓ho_49, ↓gf_49_0, ↓gf_49_1, ↓gf_49_2, ↓gf_49_3, ↓pf_49_3, ↓ho_50, ↓gf_50_0, ↓gf_50_1, ↓gf_50_2, ↓pf_50_2, ↓gf_50_3, ↓pf_50_3, ↓gf_50_4, ↓pf_50_4, ↓gf_50_5, ↓pf_50_5, ↓gf_50_6, ↓pf_50_6, ↓ho_54, ↓gf_54_0, ↓gf_54_1, ↓pf_54_1, ↓ho_88, ↓gf_88_0, ↓gf_88_1, ↓pf_88_1, ↓gf_88_2, ↓pf_88_2, ↓gf_88_3, ↓pf_88_3, ↓gf_88_4, ↓pf_88_4, ↓gf_88_5, ↓pf_88_5, ↓gf_41_0, ↓pf_41_0, ↓gf_41_1, ↓pf_41_1, ↓gf_41_2, ↓gf_41_3, ↓pf_41_3, ↓gf_41_4, ↓gf_41_5, ↓gf_41_6, ↓gf_41_7, ↓gf_41_8, ↓pf_41_8, ↓gf_41_9, ↓pf_41_9, ↓gf_41_10, ↓gf_41_11, ↓ho_41, ↓gi_42, ↓pi_42, ↓gi_43, ↓pi_43, ↓gi_44, ↓pi_44, ↓gi_45, ↓pi_45, ↓gi_46, ↓pi_46, ↓gi_47, ↓pi_47, ↓gi_48, ↓pi_48, ↓gi_51, ↓pi_51, ↓gi_52, ↓pi_52, ↓gi_53, ↓pi_53, ↓gi_89, ↓pi_89, ↓gi_1, ↓gn_1, ↓gr_55, ↓pr_55, f4, c0, Int32.lt_irrefl]
    refine (Eq.trans ?_ (lpV (fun k => Rv 29 64 [some (.ref 50), some (.ref 41), some (.int (Int32.ofNat (10 ^ chn g))), some (.int (Int32.ofNat k))] [] (en G c (lcF F g (Int32.ofNat (cnt (lwp g) k))) (lcA A (ls1 g (A 51) k) (ls2 g (A 52) k)) P W O)) (10 ^ chn g) fun k hk => ?_)).trans ?_
    · show _ = Rv 29 64 _ [] (en G c (lcF F g (Int32.ofNat 0)) (lcA A (A 51) (A 52)) P W O)
      rw [lcA_self]
      rfl
    · rw [h29_64]
      have hwl := wrg_le g k
      have hcn : lcF F g (Int32.ofNat (cnt (lwp g) k)) 50 2 = Int32.ofNat (cnt (lwp g) k) := by unfold lcF; rw [u2_at, upd_at]
      have hset : u2 (lcF F g (Int32.ofNat (cnt (lwp g) k))) 50 2 (Int32.ofNat (cnt (lwp g) k + 1)) = lcF F g (Int32.ofNat (cnt (lwp g) k + 1)) := u2_u2
      simp only [↓e29_0, ↓e29_1, ↓e29_2, ↓e29_5, ↓e29_8, ↓e29_9, ↓e29_10, ↓e29_13, ↓e29_16, ↓e29_17, ↓e29_18, ↓e29_19, ↓e29_22, ↓e29_25, ↓e29_26, ↓e29_27, ↓e29_28, ↓e29_31, ↓e29_34, ↓e29_35, ↓e29_36, ↓e29_37, ↓e29_39, ↓e29_40, ↓e29_43, ↓e29_46, ↓e29_47, ↓e29_49, ↓e29_50, ↓e29_51, ↓e29_54, ↓e29_57, ↓e29_58, ↓e29_59, ↓e29_62, ↓e29_63, ↓e29_65, ↓e29_66, ↓e29_69, ↓e29_70, ↓e29_71, ↓e29_74, ↓e29_77, ↓e29_78, ↓e29_81, ↓e29_84, ↓e29_87, ↓e29_88, ↓e29_91, ↓e29_92, ↓e29_95, ↓e29_96, ↓e29_97, ↓e29_98, ↓e29_101, ↓e29_102, ↓e29_105, ↓e29_106, ↓e29_107, ↓e29_110, ↓e29_113, ↓e29_114, ↓e29_115, ↓e29_116, ↓e29_119, ↓e29_120, ↓e29_121, ↓e29_124, ↓e29_127, ↓e29_130, ↓ldI_0, ↓ldI_s, ↓ldA_0, ↓ldA_n, ↓ldA_s, ↓ldL_0, ↓ldL_s, ↓lst_0, ↓lst_s, ↓cal_v, ↓cal_x, ↓vts_s, ↓vts_n, ↓lpr_0, ↓lpr_i, ↓lpr_r, ↓lpr_n, ↓lpr_s, PA_41, ↓reduceIte, or_true, true_or, ↓ho_40, ↓gf_40_0, ↓gf_40_1, ↓gf_40_2, ↓gf_40_3, ↓ho_49, ↓gf_49_0, ↓gf_49_1, ↓gf_49_2, ↓gf_49_3, ↓pf_49_3, ↓ho_50, ↓gf_50_0, ↓gf_50_1, ↓gf_50_2, ↓pf_50_2, ↓gf_50_3, ↓pf_50_3, ↓gf_50_4, ↓pf_50_4, ↓gf_50_5, ↓pf_50_5, ↓gf_50_6, ↓pf_50_6, ↓ho_54, ↓gf_54_0, ↓gf_54_1, ↓pf_54_1, ↓ho_88, ↓gf_88_0, ↓gf_88_1, ↓pf_88_1, ↓gf_88_2, ↓pf_88_2, ↓gf_88_3, ↓pf_88_3, ↓gf_88_4, ↓pf_88_4, ↓gf_88_5, ↓pf_88_5, ↓gf_41_0, ↓pf_41_0, ↓gf_41_1, ↓pf_41_1, ↓gf_41_2, ↓gf_41_3, ↓pf_41_3, ↓gf_41_4, ↓gf_41_5, ↓gf_41_6, ↓gf_41_7, ↓gf_41_8, ↓pf_41_8, ↓gf_41_9, ↓pf_41_9, ↓gf_41_10, ↓gf_41_11, ↓ho_41, ↓gi_42, ↓pi_42, ↓gi_43, ↓pi_43, ↓gi_44, ↓pi_44, ↓gi_45, ↓pi_45, ↓gi_46, ↓pi_46, ↓gi_47, ↓pi_47, ↓gi_48, ↓pi_48, ↓gi_51, ↓pi_51, ↓gi_52, ↓pi_52, ↓gi_53, ↓pi_53, ↓gi_89, ↓pi_89, ↓gi_1, ↓gn_1, ↓gr_55, ↓pr_55, io_lt (show k < 2147483648 by omega) (show 10 ^ chn g < 2147483648 by omega), hk, t59 hw (hR1 _ _ _) (show k < 2147483648 by omega), show (Int32.ofNat (wrg g k) = 0) = (wrg g k = 0) from io_eq (b := 0) (by omega) (by omega), io_succ]
      by_cases h : wrg g k = 0
      · have hp : lwp g k = true := decide_eq_true h
        have hlt := cnt_lt (p := lwp g) hk hp
        have hi := wrg_icd h
        simp only [h, if_true, ↓e29_0, ↓e29_1, ↓e29_2, ↓e29_5, ↓e29_8, ↓e29_9, ↓e29_10, ↓e29_13, ↓e29_16, ↓e29_17, ↓e29_18, ↓e29_19, ↓e29_22, ↓e29_25, ↓e29_26, ↓e29_27, ↓e29_28, ↓e29_31, ↓e29_34, ↓e29_35, ↓e29_36, ↓e29_37, ↓e29_39, ↓e29_40, ↓e29_43, ↓e29_46, ↓e29_47, ↓e29_49, ↓e29_50, ↓e29_51, ↓e29_54, ↓e29_57, ↓e29_58, ↓e29_59, ↓e29_62, ↓e29_63, ↓e29_65, ↓e29_66, ↓e29_69, ↓e29_70, ↓e29_71, ↓e29_74, ↓e29_77, ↓e29_78, ↓e29_81, ↓e29_84, ↓e29_87, ↓e29_88, ↓e29_91, ↓e29_92, ↓e29_95, ↓e29_96, ↓e29_97, ↓e29_98, ↓e29_101, ↓e29_102, ↓e29_105, ↓e29_106, ↓e29_107, ↓e29_110, ↓e29_113, ↓e29_114, ↓e29_115, ↓e29_116, ↓e29_119, ↓e29_120, ↓e29_121, ↓e29_124, ↓e29_127, ↓e29_130, ↓ldI_0, ↓ldI_s, ↓ldA_0, ↓ldA_n, ↓ldA_s, ↓ldL_0, ↓ldL_s, ↓lst_0, ↓lst_s, ↓cal_v, ↓cal_x, ↓vts_s, ↓vts_n, ↓lpr_0, ↓lpr_i, ↓lpr_r, ↓lpr_n, ↓lpr_s, PA_41, ↓reduceIte, or_true, true_or, ↓ho_40, ↓gf_40_0, ↓gf_40_1, ↓gf_40_2, ↓gf_40_3, ↓ho_49, ↓gf_49_0, ↓gf_49_1, ↓gf_49_2, ↓gf_49_3, ↓pf_49_3, ↓ho_50, ↓gf_50_0, ↓gf_50_1, ↓gf_50_2, ↓pf_50_2, ↓gf_50_3, ↓pf_50_3, ↓gf_50_4, ↓pf_50_4, ↓gf_50_5, ↓pf_50_5, ↓gf_50_6, ↓pf_50_6, ↓ho_54, ↓gf_54_0, ↓gf_54_1, ↓pf_54_1, ↓ho_88, ↓gf_88_0, ↓gf_88_1, ↓pf_88_1, ↓gf_88_2, ↓pf_88_2, ↓gf_88_3, ↓pf_88_3, ↓gf_88_4, ↓pf_88_4, ↓gf_88_5, ↓pf_88_5, ↓gf_41_0, ↓pf_41_0, ↓gf_41_1, ↓pf_41_1, ↓gf_41_2, ↓gf_41_3, ↓pf_41_3, ↓gf_41_4, ↓gf_41_5, ↓gf_41_6, ↓gf_41_7, ↓gf_41_8, ↓pf_41_8, ↓gf_41_9, ↓pf_41_9, ↓gf_41_10, ↓gf_41_11, ↓ho_41, ↓gi_42, ↓pi_42, ↓gi_43, ↓pi_43, ↓gi_44, ↓pi_44, ↓gi_45, ↓pi_45, ↓gi_46, ↓pi_46, ↓gi_47, ↓pi_47, ↓gi_48, ↓pi_48, ↓gi_51, ↓pi_51, ↓gi_52, ↓pi_52, ↓gi_53, ↓pi_53, ↓gi_89, ↓pi_89, ↓gi_1, ↓gn_1, ↓gr_55, ↓pr_55, hcn, io_lt (show cnt (lwp g) k < 2147483648 by omega) (show 1296 < 2147483648 by omega), show (Int32.ofNat (cnt (lwp g) k) < 1296) = (cnt (lwp g) k < 1296) from io_lt (b := 1296) (by omega) (by omega), show cnt (lwp g) k < 1296 by omega, io_zin (show cnt (lwp g) k < 2147483648 by omega) (show cnt (lwp g) k < 1296 by omega), io_ix (show cnt (lwp g) k < 2147483648 by omega), lcA_s1, lcA_s2, e0, t16 hw hi, io_succ, hset, cnt_s (lwp g) k, hp, ls1, ls2]
      · have hp : ¬ lwp g k = true := fun e => h (of_decide_eq_true e)
        simp only [h, if_false, ↓e29_0, ↓e29_1, ↓e29_2, ↓e29_5, ↓e29_8, ↓e29_9, ↓e29_10, ↓e29_13, ↓e29_16, ↓e29_17, ↓e29_18, ↓e29_19, ↓e29_22, ↓e29_25, ↓e29_26, ↓e29_27, ↓e29_28, ↓e29_31, ↓e29_34, ↓e29_35, ↓e29_36, ↓e29_37, ↓e29_39, ↓e29_40, ↓e29_43, ↓e29_46, ↓e29_47, ↓e29_49, ↓e29_50, ↓e29_51, ↓e29_54, ↓e29_57, ↓e29_58, ↓e29_59, ↓e29_62, ↓e29_63, ↓e29_65, ↓e29_66, ↓e29_69, ↓e29_70, ↓e29_71, ↓e29_74, ↓e29_77, ↓e29_78, ↓e29_81, ↓e29_84, ↓e29_87, ↓e29_88, ↓e29_91, ↓e29_92, ↓e29_95, ↓e29_96, ↓e29_97, ↓e29_98, ↓e29_101, ↓e29_102, ↓e29_105, ↓e29_106, ↓e29_107, ↓e29_110, ↓e29_113, ↓e29_114, ↓e29_115, ↓e29_116, ↓e29_119, ↓e29_120, ↓e29_121, ↓e29_124, ↓e29_127, ↓e29_130, ↓ldI_0, ↓ldI_s, ↓ldA_0, ↓ldA_n, ↓ldA_s, ↓ldL_0, ↓ldL_s, ↓lst_0, ↓lst_s, ↓cal_v, ↓cal_x, ↓vts_s, ↓vts_n, ↓lpr_0, ↓lpr_i, ↓lpr_r, ↓lpr_n, ↓lpr_s, PA_41, ↓reduceIte, or_true, true_or, ↓ho_40, ↓gf_40_0, ↓gf_40_1, ↓gf_40_2, ↓gf_40_3, ↓ho_49, ↓gf_49_0, ↓gf_49_1, ↓gf_49_2, ↓gf_49_3, ↓pf_49_3, ↓ho_50, ↓gf_50_0, ↓gf_50_1, ↓gf_50_2, ↓pf_50_2, ↓gf_50_3, ↓pf_50_3, ↓gf_50_4, ↓pf_50_4, ↓gf_50_5, ↓pf_50_5, ↓gf_50_6, ↓pf_50_6, ↓ho_54, ↓gf_54_0, ↓gf_54_1, ↓pf_54_1, ↓ho_88, ↓gf_88_0, ↓gf_88_1, ↓pf_88_1, ↓gf_88_2, ↓pf_88_2, ↓gf_88_3, ↓pf_88_3, ↓gf_88_4, ↓pf_88_4, ↓gf_88_5, ↓pf_88_5, ↓gf_41_0, ↓pf_41_0, ↓gf_41_1, ↓pf_41_1, ↓gf_41_2, ↓gf_41_3, ↓pf_41_3, ↓gf_41_4, ↓gf_41_5, ↓gf_41_6, ↓gf_41_7, ↓gf_41_8, ↓pf_41_8, ↓gf_41_9, ↓pf_41_9, ↓gf_41_10, ↓gf_41_11, ↓ho_41, ↓gi_42, ↓pi_42, ↓gi_43, ↓pi_43, ↓gi_44, ↓pi_44, ↓gi_45, ↓pi_45, ↓gi_46, ↓pi_46, ↓gi_47, ↓pi_47, ↓gi_48, ↓pi_48, ↓gi_51, ↓pi_51, ↓gi_52, ↓pi_52, ↓gi_53, ↓pi_53, ↓gi_89, ↓pi_89, ↓gi_1, ↓gn_1, ↓gr_55, ↓pr_55, io_succ, cnt_s (lwp g) k, hp, ls1, ls2, Bool.false_eq_true]
    · rw [h29_64]
      simp only [↓e29_0, ↓e29_1, ↓e29_2, ↓e29_5, ↓e29_8, ↓e29_9, ↓e29_10, ↓e29_13, ↓e29_16, ↓e29_17, ↓e29_18, ↓e29_19, ↓e29_22, ↓e29_25, ↓e29_26, ↓e29_27, ↓e29_28, ↓e29_31, ↓e29_34, ↓e29_35, ↓e29_36, ↓e29_37, ↓e29_39, ↓e29_40, ↓e29_43, ↓e29_46, ↓e29_47, ↓e29_49, ↓e29_50, ↓e29_51, ↓e29_54, ↓e29_57, ↓e29_58, ↓e29_59, ↓e29_62, ↓e29_63, ↓e29_65, ↓e29_66, ↓e29_69, ↓e29_70, ↓e29_71, ↓e29_74, ↓e29_77, ↓e29_78, ↓e29_81, ↓e29_84, ↓e29_87, ↓e29_88, ↓e29_91, ↓e29_92, ↓e29_95, ↓e29_96, ↓e29_97, ↓e29_98, ↓e29_101, ↓e29_102, ↓e29_105, ↓e29_106, ↓e29_107, ↓e29_110, ↓e29_113, ↓e29_114, ↓e29_115, ↓e29_116, ↓e29_119, ↓e29_120, ↓e29_121, ↓e29_124, ↓e29_127, ↓e29_130, ↓ldI_0, ↓ldI_s, ↓ldA_0, ↓ldA_n, ↓ldA_s, ↓ldL_0, ↓ldL_s, ↓lst_0, ↓lst_s, ↓cal_v, ↓cal_x, ↓vts_s, ↓vts_n, ↓lpr_0, ↓lpr_i, ↓lpr_r, ↓lpr_n, ↓lpr_s, PA_41, ↓reduceIte, or_true, true_or, ↓ho_40, ↓gf_40_0, ↓gf_40_1, ↓gf_40_2, ↓gf_40_3, ↓ho_49, ↓gf_49_0, ↓gf_49_1, ↓gf_49_2, ↓gf_49_3, ↓pf_49_3, ↓ho_50, ↓gf_50_0, ↓gf_50_1, ↓gf_50_2, ↓pf_50_2, ↓gf_50_3, ↓pf_50_3, ↓gf_50_4, ↓pf_50_4, ↓gf_50_5, ↓pf_50_5, ↓gf_50_6, ↓pf_50_6, ↓ho_54, ↓gf_54_0, ↓gf_54_1, ↓pf_54_1, ↓ho_88, ↓gf_88_0, ↓gf_88_1, ↓pf_88_1, ↓gf_88_2, ↓pf_88_2, ↓gf_88_3, ↓pf_88_3, ↓gf_88_4, ↓pf_88_4, ↓gf_88_5, ↓pf_88_5, ↓gf_41_0, ↓pf_41_0, ↓gf_41_1, ↓pf_41_1, ↓gf_41_2, ↓gf_41_3, ↓pf_41_3, ↓gf_41_4, ↓gf_41_5, ↓gf_41_6, ↓gf_41_7, ↓gf_41_8, ↓pf_41_8, ↓gf_41_9, ↓pf_41_9, ↓gf_41_10, ↓gf_41_11, ↓ho_41, ↓gi_42, ↓pi_42, ↓gi_43, ↓pi_43, ↓gi_44, ↓pi_44, ↓gi_45, ↓pi_45, ↓gi_46, ↓pi_46, ↓gi_47, ↓pi_47, ↓gi_48, ↓pi_48, ↓gi_51, ↓pi_51, ↓gi_52, ↓pi_52, ↓gi_53, ↓pi_53, ↓gi_89, ↓pi_89, ↓gi_1, ↓gn_1, ↓gr_55, ↓pr_55, Int32.lt_irrefl]
end ZT
