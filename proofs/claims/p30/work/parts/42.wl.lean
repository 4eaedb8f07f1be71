/-! WORLDS AS LISTS: for the constructors -/
def wl (c : Nat × Nat × Bool) (l : List (Nat × zE)) (f : Nat → Option zE) : zW := (c, fun k => match l.lookup k with
  | some e => some e
  | none => f k)
def adc (b : Nat) (e : zE) (w : zW) : zW := (w.1, fun k => if k = b then some e else w.2 k)
def lgt : List Value → Nat → (Value → Option zR) → Option zR
  | [], _, _ => none
  | v :: _, 0, K => K v
  | _ :: l, k + 1, K => lgt l k K
def lsv : List Value → Nat → Value → (List Value → Option zR) → Option zR
  | [], _, _, _ => none
  | _ :: l, 0, v, K => K (v :: l)
  | u :: l, k + 1, v, K => lsv l k v fun l' => K (u :: l')
theorem lgt_0 {v : Value} {l : List Value} {K : Value → Option zR} : lgt (v :: l) 0 K = K v := rfl
theorem lgt_s {v : Value} {l : List Value} {k : Nat} {K : Value → Option zR} : lgt (v :: l) (k + 1) K = lgt l k K := rfl
theorem lsv_0 {u v : Value} {l : List Value} {K : List Value → Option zR} : lsv (u :: l) 0 v K = K (v :: l) := rfl
theorem lsv_s {u v : Value} {l : List Value} {k : Nat} {K : List Value → Option zR} : lsv (u :: l) (k + 1) v K = lsv l k v fun l' => K (u :: l') := rfl
theorem lgt_eq (fs : List Value) : ∀ (k : Nat) (K : Value → Option zR), lgt fs k K = match fs[k]? with | some v => K v | none => none := by
  induction fs with
  | nil => intro k K; rfl
  | cons v l ih =>
    intro k K
    cases k with
    | zero => rfl
    | succ k => rw [lgt_s, ih]; rfl
theorem lsv_eq (fs : List Value) : ∀ (k : Nat) (v : Value) (K : List Value → Option zR), lsv fs k v K = if k < fs.length then K (fs.set k v) else none := by
  induction fs with
  | nil => intro k v K; rfl
  | cons u l ih =>
    intro k v K
    cases k with
    | zero => simp [lsv_0]
    | succ k => rw [lsv_s, ih]; simp
section ZWl
variable {c : Nat × Nat × Bool} {l : List (Nat × zE)} {f : Nat → Option zE} {a b ci k t n s : Nat} {e : zE} {fs : List Value} {v : Value} {g : Nat → Int32} {j x : Int32} {w : zW}
theorem wl_at : (wl c ((a, e) :: l) f).2 a = some e := by simp [wl, List.lookup]
theorem wl_ne (h : (a == b) = false) : (wl c ((b, e) :: l) f).2 a = (wl c l f).2 a := by simp [wl, List.lookup, h]
theorem adc_wl : adc b e (wl c l f) = wl c ((b, e) :: l) f := by
  unfold adc wl
  refine Prod.ext rfl (funext fun k => ?_)
  simp only [List.lookup]
  by_cases h : k = b
  · subst h; simp
  · have : (k == b) = false := by simp [h]
    rw [if_neg h, this]
theorem set_top {e' : zE} : zset (wl c ((a, e) :: l) f) a e' = wl c ((a, e') :: l) f := by
  unfold zset wl
  refine Prod.ext rfl (funext fun k => ?_)
  simp only [List.lookup]
  by_cases h : k = a
  · subst h; simp
  · have : (k == a) = false := by simp [h]
    rw [if_neg h, this]
theorem set_skip {e' : zE} (h : (a == b) = false) : zset (wl c ((b, e) :: l) f) a e' = adc b e (zset (wl c l f) a e') := by
  have hab : a ≠ b := by simpa using h
  rw [← adc_wl]
  unfold zset adc
  refine Prod.ext rfl (funext fun k => ?_)
  dsimp only
  by_cases hk : k = a
  · subst hk; rw [if_pos rfl, if_neg hab, if_pos rfl]
  · rw [if_neg hk]
    by_cases hb : k = b
    · rw [if_pos hb, if_pos hb]
    · rw [if_neg hb, if_neg hb, if_neg hk]
theorem wl_nw {K : Nat → zW → Option zR} : nw (wl (n, s, false) l f) k e K = K (40 + n) (wl (n + 1, s + k, false) ((40 + n, e) :: l) f) := by
  unfold nw
  rw [if_pos (show (wl (n, s, false) l f).1.2.2 = false from rfl)]
  refine congrArg (K (40 + n)) ?_
  rw [← adc_wl]
  rfl
theorem zobj_at : zobj (wl c ((a, .inr (ci, fs)) :: l) f) a ci = some fs := by
  unfold zobj
  rw [wl_at]
  simp
theorem zobj_ne (h : (a == b) = false) : zobj (wl c ((b, e) :: l) f) a ci = zobj (wl c l f) a ci := by
  unfold zobj
  rw [wl_ne h]
theorem wl_gF {K : Value → Option zR} : gF (wl c ((a, .inr (ci, fs)) :: l) f) a ci k K = lgt fs k K := by
  unfold gF
  rw [zobj_at, lgt_eq]
  rfl
theorem wl_gFn {K : Value → Option zR} (h : (a == b) = false) : gF (wl c ((b, e) :: l) f) a ci k K = gF (wl c l f) a ci k K := by
  unfold gF
  rw [zobj_ne h]
theorem wl_hO {X : Option zR} : hO (wl c ((a, .inr (ci, fs)) :: l) f) a ci X = X := by
  unfold hO
  rw [zobj_at]
theorem wl_hOn {X : Option zR} (h : (a == b) = false) : hO (wl c ((b, e) :: l) f) a ci X = hO (wl c l f) a ci X := by
  unfold hO
  rw [zobj_ne h]
theorem wl_pF {K : zW → Option zR} : pF (wl c ((a, .inr (ci, fs)) :: l) f) a ci k v K = lsv fs k v fun fs' => K (wl c ((a, .inr (ci, fs')) :: l) f) := by
  unfold pF
  rw [zobj_at, lsv_eq]
  dsimp only
  rw [set_top]
theorem wl_pFn {K : zW → Option zR} (h : (a == b) = false) : pF (wl c ((b, e) :: l) f) a ci k v K = pF (wl c l f) a ci k v fun w => K (adc b e w) := by
  unfold pF
  rw [zobj_ne h]
  cases zobj (wl c l f) a ci with
  | none => rfl
  | some fs => dsimp only; rw [set_skip h]
theorem wl_pI {K : zW → Option zR} : pI (wl c ((a, .inl (t, n, .inl g)) :: l) f) a t j x K = if zin j n = true then K (wl c ((a, .inl (t, n, .inl (upd g j.toNatClampNeg x))) :: l) f) else none := by
  unfold pI zarI
  rw [wl_at]
  dsimp only
  rw [if_pos (Or.inl rfl)]
  dsimp only
  rw [set_top]
theorem wl_pIn {K : zW → Option zR} (h : (a == b) = false) : pI (wl c ((b, e) :: l) f) a t j x K = pI (wl c l f) a t j x fun w => K (adc b e w) := by
  have h2 : zarI (wl c ((b, e) :: l) f) a t t = zarI (wl c l f) a t t := by unfold zarI; rw [wl_ne h]
  unfold pI
  rw [h2]
  cases zarI (wl c l f) a t t with
  | none => rfl
  | some p => dsimp only; rw [set_skip h]
/-- a place of an array of plans -/
def pQ (w : zW) (a : Nat) (j : Int32) (x : Nat) (K : zW → Option zR) : Option zR := match zarR w a 3 3 with
  | some (n, f) => if zin j n = true then K (zset w a (.inl (3, n, .inr (.inr (.inr (.inr (va_up f j.toNatClampNeg (some x)))))))) else none
  | _ => none
theorem pR_Q {x : Nat} {K : zW → Option zR} : pR (wl c l f) a j x K = hO (wl c l f) x 2 (pQ (wl c l f) a j x K) := by
  unfold pR hO pQ
  cases zobj (wl c l f) x 2 with
  | none =>
    cases zarR (wl c l f) a 3 3 with
    | none => rfl
    | some p => rfl
  | some fs =>
    cases zarR (wl c l f) a 3 3 with
    | none => rfl
    | some p => rfl
theorem wl_pQ {x : Nat} {g : Nat → Option Nat} {K : zW → Option zR} : pQ (wl c ((a, .inl (3, n, .inr (.inr (.inr (.inr g))))) :: l) f) a j x K = if zin j n = true then K (wl c ((a, .inl (3, n, .inr (.inr (.inr (.inr (va_up g j.toNatClampNeg (some x))))))) :: l) f) else none := by
  unfold pQ zarR
  rw [wl_at]
  dsimp only
  rw [if_pos (Or.inl rfl)]
  dsimp only
  rw [set_top]
theorem wl_pQn {x : Nat} {K : zW → Option zR} (h : (a == b) = false) : pQ (wl c ((b, e) :: l) f) a j x K = pQ (wl c l f) a j x fun w => K (adc b e w) := by
  have h2 : zarR (wl c ((b, e) :: l) f) a 3 3 = zarR (wl c l f) a 3 3 := by unfold zarR; rw [wl_ne h]
  unfold pQ
  rw [h2]
  cases zarR (wl c l f) a 3 3 with
  | none => rfl
  | some p => dsimp only; rw [set_skip h]
end ZWl
