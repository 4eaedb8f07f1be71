theorem zpre_lpr (ls : zL) : ∀ k, zpre true ls k = lpr ls k := by
  induction ls with
  | nil => intro k; match k with
    | 0 => rfl
    | 1 => rfl
    | k + 2 => rfl
  | cons v l ih => intro k; match k with
    | 0 => rfl
    | 1 =>
      cases v with
      | none => rfl
      | some v => cases v <;> rfl
    | k + 2 =>
      have := ih (k + 1)
      have h2 : lpr (v :: l) (k + 2) = lpr l (k + 1) := by
        cases v with
        | none => rfl
        | some v => cases v <;> rfl
      rw [h2, ← this]
      rfl
theorem lpr_0 {l : zL} : lpr l 0 = true := by cases l <;> rfl
theorem lpr_i {x : Int32} {l : zL} : lpr (some (.int x) :: l) 1 = true := rfl
theorem lpr_r {x : Nat} {l : zL} : lpr (some (.ref x) :: l) 1 = true := rfl
theorem lpr_n {l : zL} : lpr (none :: l) 1 = true := rfl
theorem lpr_s {v : Option Value} {l : zL} {k : Nat} : lpr (v :: l) (k + 2) = lpr l (k + 1) := by
  cases v with
  | none => rfl
  | some v => cases v <;> rfl
def gF (w : zW) (a ci f : Nat) (K : Value → Option zR) : Option zR := match zobj w a ci with
  | some fs => (match fs[f]? with | some v => K v | none => none)
  | none => none
def pF (w : zW) (a ci f : Nat) (v : Value) (K : zW → Option zR) : Option zR := match zobj w a ci with
  | some fs => if f < fs.length then K (zset w a (.inr (ci, fs.set f v))) else none
  | none => none
def gI (w : zW) (a t t' : Nat) (j : Int32) (K : Int32 → Option zR) : Option zR := match zarI w a t t' with
  | some (n, f) => if zin j n = true then K (f j.toNatClampNeg) else none
  | none => none
def gL (w : zW) (a : Nat) (j : Int32) (K : Int64 → Option zR) : Option zR := match zarL w a with
  | some (n, f) => if zin j n = true then K (f j.toNatClampNeg) else none
  | none => none
def gR (w : zW) (a : Nat) (j : Int32) (K : Value → Option zR) : Option zR := match zarR w a 3 10 with
  | some (n, f) => if zin j n = true then K (va_rf (f j.toNatClampNeg)) else none
  | none => none
def gN (w : zW) (a : Nat) (K : Int32 → Option zR) : Option zR := match zlen w a with
  | some n => K (Int32.ofNat n)
  | none => none
def pI (w : zW) (a t : Nat) (j x : Int32) (K : zW → Option zR) : Option zR := match zarI w a t t with
  | some (n, f) => if zin j n = true then K (zset w a (.inl (t, n, .inl (upd f j.toNatClampNeg x)))) else none
  | none => none
def pL (w : zW) (a : Nat) (j : Int32) (x : Int64) (K : zW → Option zR) : Option zR := match zarL w a with
  | some (n, f) => if zin j n = true then K (zset w a (.inl (1, n, .inr (.inl (vp_updL f j.toNatClampNeg x))))) else none
  | none => none
def pR (w : zW) (a : Nat) (j : Int32) (x : Nat) (K : zW → Option zR) : Option zR := match zarR w a 3 3, zobj w x 2 with
  | some (n, f), some _ => if zin j n = true then K (zset w a (.inl (3, n, .inr (.inr (.inr (.inr (va_up f j.toNatClampNeg (some x)))))))) else none
  | _, _ => none
def hO (w : zW) (a ci : Nat) (X : Option zR) : Option zR := match zobj w a ci with
  | some _ => X
  | none => none
def gW (w : zW) (a : Nat) (K : Int32 → Option zR) : Option zR := match zobj w a 100 with
  | some [_, _, .int k] => K k
  | _ => none
def nw (w : zW) (sz : Nat) (e : zE) (K : Nat → zW → Option zR) : Option zR := if w.1.2.2 = false then K (40 + w.1.1) (znew w sz e) else none
def cp (w : zW) (s : Nat) (sp : Int32) (d : Nat) (dp m : Int32) (K : zW → Option zR) : Option zR := match zarI w s 0 0, zarI w d 0 0 with
  | some (n0, f), some (n1, g) => if s ≠ d ∧ ¬ sp < 0 ∧ ¬ dp < 0 ∧ ¬ m < 0 ∧ sp.toNatClampNeg + m.toNatClampNeg ≤ n0 ∧ dp.toNatClampNeg + m.toNatClampNeg ≤ n1 then K (zset w d (.inl (0, n1, .inl (va_cpy f g sp.toNatClampNeg dp.toNatClampNeg m.toNatClampNeg)))) else none
  | _, _ => none
def cal (x : Option zR) (K : Option Value → zW → Option zR) (X : String → zW → Option zR) : Option zR := match x with
  | none => none
  | some (.inl v, w) => K v w
  | some (.inr E, w) => X E w
def vts (v : Option Value) (r : List Value) : List Value := v.toList ++ r
def xnone (E : String) (w : zW) : Option zR := some (.inr E, w)
/-- where an exception goes -/
noncomputable def xh (q : zM) (i pc : Nat) (ls : zL) (E : String) (w : zW) : Option zR := match zhnd q pc E q.2.2.2.2.1 with
  | some (pc', k) => if k < ls.length ∧ zpre q.2.2.2.2.2.2.2.2.1 ls k = true then Rv i pc' (ls.set k none) [] w else none
  | none => none
theorem cal_v {v : Option Value} {w : zW} {K : Option Value → zW → Option zR} {X : String → zW → Option zR} : cal (some (.inl v, w)) K X = K v w := rfl
theorem cal_x {E : String} {w : zW} {K : Option Value → zW → Option zR} {X : String → zW → Option zR} : cal (some (.inr E, w)) K X = X E w := rfl
theorem vts_s {v : Value} {r : List Value} : vts (some v) r = v :: r := rfl
theorem vts_n {r : List Value} : vts none r = r := rfl
def tsw (x lo : Int32) (d : Nat) (K : Nat → Option zR) : List Nat → Option zR
  | [] => K d
  | t :: ts => if x = lo then K t else tsw x (lo + 1) d K ts
section ZRules2
variable {i pc pc' len k j n : Nat} {q qj : zM} {ls lj : zL} {st r : List Value} {w : zW} {x y : Int32}
theorem R_gF {a ci f z : Nat} (hq : zq i = some q) (hi : zins q pc = some (.getfield k, 3)) (hF : zFT.lookup (q.2.2.2.2.2.1, k) = some (ci, f, z)) : Rv i pc ls (.ref a :: r) w = gF w a ci f fun v => Rv i (pc + 3) ls (v :: r) w := by
  rw [Rv_go hq hi]
  unfold zstep gF
  dsimp only
  rw [hF]
  dsimp only
  cases zobj w a ci with
  | none => rfl
  | some fs =>
    dsimp only
    cases fs[f]? <;> rfl
theorem R_pF {a ci f z : Nat} {v : Value} (hq : zq i = some q) (hi : zins q pc = some (.putfield k, 3)) (hF : zFT.lookup (q.2.2.2.2.2.1, k) = some (ci, f, z)) (hs : ci < 7 ∧ zfits ci f v = true ∧ (zfinal ci f = false ∨ (q.1.name = "<init>" ∧ ci = q.2.2.2.2.2.2.2.2.2))) : Rv i pc ls (v :: .ref a :: r) w = pF w a ci f v fun w' => Rv i (pc + 3) ls r w' := by
  rw [Rv_go hq hi]
  unfold zstep pF
  dsimp only
  rw [hF]
  dsimp only
  cases zobj w a ci with
  | none => rfl
  | some fs =>
    dsimp only
    by_cases hf : f < fs.length
    · rw [if_pos hf, if_pos ⟨hs.1, hs.2.1, hs.2.2, hf⟩]; rfl
    · rw [if_neg hf, if_neg (fun h => hf h.2.2.2)]; rfl
theorem R_iald {a : Nat} {x : Int32} (hq : zq i = some q) (hi : zins q pc = some (.iaload, 1)) : Rv i pc ls (.int x :: .ref a :: r) w = gI w a 0 8 x fun v => Rv i (pc + 1) ls (.int v :: r) w := by
  rw [Rv_go hq hi]
  unfold zstep gI
  dsimp only
  cases zarI w a 0 8 with
  | none => rfl
  | some p => obtain ⟨n, f⟩ := p; dsimp only; split <;> rfl
theorem R_bald {a : Nat} {x : Int32} (hq : zq i = some q) (hi : zins q pc = some (.baload, 1)) : Rv i pc ls (.int x :: .ref a :: r) w = gI w a 2 9 x fun v => Rv i (pc + 1) ls (.int v :: r) w := by
  rw [Rv_go hq hi]
  unfold zstep gI
  dsimp only
  cases zarI w a 2 9 with
  | none => rfl
  | some p => obtain ⟨n, f⟩ := p; dsimp only; split <;> rfl
theorem R_lald {a : Nat} {x : Int32} (hq : zq i = some q) (hi : zins q pc = some (.laload, 1)) : Rv i pc ls (.int x :: .ref a :: r) w = gL w a x fun v => Rv i (pc + 1) ls (.long v :: r) w := by
  rw [Rv_go hq hi]
  unfold zstep gL
  dsimp only
  cases zarL w a with
  | none => rfl
  | some p => obtain ⟨n, f⟩ := p; dsimp only; split <;> rfl
theorem R_aald {a : Nat} {x : Int32} (hq : zq i = some q) (hi : zins q pc = some (.aaload, 1)) : Rv i pc ls (.int x :: .ref a :: r) w = gR w a x fun v => Rv i (pc + 1) ls (v :: r) w := by
  rw [Rv_go hq hi]
  unfold zstep gR
  dsimp only
  cases zarR w a 3 10 with
  | none => rfl
  | some p => obtain ⟨n, f⟩ := p; dsimp only; split <;> rfl
theorem R_alen {a : Nat} (hq : zq i = some q) (hi : zins q pc = some (.arraylength, 1)) : Rv i pc ls (.ref a :: r) w = gN w a fun v => Rv i (pc + 1) ls (.int v :: r) w := by
  rw [Rv_go hq hi]
  unfold zstep gN
  dsimp only
  cases zlen w a <;> rfl
theorem R_iast {a : Nat} {x y : Int32} (hq : zq i = some q) (hi : zins q pc = some (.iastore, 1)) : Rv i pc ls (.int y :: .int x :: .ref a :: r) w = pI w a 0 x y fun w' => Rv i (pc + 1) ls r w' := by
  rw [Rv_go hq hi]
  unfold zstep pI
  dsimp only
  cases zarI w a 0 0 with
  | none => rfl
  | some p => obtain ⟨n, f⟩ := p; dsimp only; split <;> rfl
theorem R_bast {a : Nat} {x y : Int32} (hq : zq i = some q) (hi : zins q pc = some (.bastore, 1)) : Rv i pc ls (.int y :: .int x :: .ref a :: r) w = pI w a 2 x (vp_nar .byte y) fun w' => Rv i (pc + 1) ls r w' := by
  rw [Rv_go hq hi]
  unfold zstep pI
  dsimp only
  cases zarI w a 2 2 with
  | none => rfl
  | some p => obtain ⟨n, f⟩ := p; dsimp only; split <;> rfl
theorem R_last {a : Nat} {x : Int32} {y : Int64} (hq : zq i = some q) (hi : zins q pc = some (.lastore, 1)) : Rv i pc ls (.long y :: .int x :: .ref a :: r) w = pL w a x y fun w' => Rv i (pc + 1) ls r w' := by
  rw [Rv_go hq hi]
  unfold zstep pL
  dsimp only
  cases zarL w a with
  | none => rfl
  | some p => obtain ⟨n, f⟩ := p; dsimp only; split <;> rfl
theorem R_aast {a b : Nat} {x : Int32} (hq : zq i = some q) (hi : zins q pc = some (.aastore, 1)) : Rv i pc ls (.ref b :: .int x :: .ref a :: r) w = pR w a x b fun w' => Rv i (pc + 1) ls r w' := by
  rw [Rv_go hq hi]
  unfold zstep pR
  dsimp only
  cases zarR w a 3 3 with
  | none => rfl
  | some p =>
    obtain ⟨n, f⟩ := p
    cases zobj w b 2 with
    | none => rfl
    | some fs => dsimp only; split <;> rfl
theorem R_newa {ty : ArrayType} {t z : Nat} {e : (Nat → Int32) ⊕ (Nat → Int64) ⊕ (Nat → UInt32) ⊕ (Nat → UInt64) ⊕ (Nat → Option Nat)} {x : Int32} {m : Nat} (hq : zq i = some q) (hi : zins q pc = some (.newarray ty, 2)) (hty : zaty ty = some (t, z, e)) (hx : x.toNatClampNeg = m) (hx0 : decide (¬ x < 0) = true) (hm : decide (m ≤ 100000) = true) : Rv i pc ls (.int x :: r) w = nw w m (.inl (t, m, e)) fun a w' => Rv i (pc + 2) ls (.ref a :: r) w' := by
  subst hx
  rw [Rv_go hq hi]
  unfold zstep nw
  dsimp only
  rw [hty]
  dsimp only
  by_cases hw : w.1.2.2 = false
  · rw [if_pos hw, if_pos ⟨of_decide_eq_true hx0, of_decide_eq_true hm, hw⟩]; rfl
  · rw [if_neg hw, if_neg (fun h => hw h.2.2)]; rfl
theorem R_anew {z : Nat × Nat} {x : Int32} {m : Nat} (hq : zq i = some q) (hi : zins q pc = some (.anewarray k, 3)) (hA : zAT.lookup (q.2.2.2.2.2.1, k) = some z) (hx : x.toNatClampNeg = m) (hx0 : decide (¬ x < 0) = true) (hm : decide (m ≤ 100000) = true) : Rv i pc ls (.int x :: r) w = nw w m (.inl (3, m, .inr (.inr (.inr (.inr fun _ => none))))) fun a w' => Rv i (pc + 3) ls (.ref a :: r) w' := by
  subst hx
  rw [Rv_go hq hi]
  unfold zstep nw
  dsimp only
  rw [hA]
  dsimp only
  by_cases hw : w.1.2.2 = false
  · rw [if_pos hw, if_pos ⟨of_decide_eq_true hx0, of_decide_eq_true hm, hw⟩]; rfl
  · rw [if_neg hw, if_neg (fun h => hw h.2.2)]; rfl
theorem R_new {ci z : Nat} (hq : zq i = some q) (hi : zins q pc = some (.new k, 3)) (hX : zXT.lookup (i, pc) = none) (hN : zNT.lookup (q.2.2.2.2.2.1, k) = some (ci, z)) : Rv i pc ls st w = nw w (zdef ci).length (.inr (ci, zdef ci)) fun a w' => Rv i (pc + 3) ls (.ref a :: st) w' := by
  rw [Rv_go hq hi]
  unfold zstep nw
  dsimp only
  rw [hX]
  dsimp only
  rw [hN]
  dsimp only
  by_cases hw : w.1.2.2 = false
  · rw [if_pos hw, if_pos hw]; rfl
  · rw [if_neg hw, if_neg hw]; rfl
theorem R_thr {X : String × Nat × Nat × Nat × String × Nat × Nat} (hq : zq i = some q) (hi : zins q pc = some (.new k, 3)) (hX : zXT.lookup (i, pc) = some X) (hc : zcats st ≤ 8 ∧ 6 ≤ zfr q ∧ 90 ≤ zlo q ∧ q.2.2.2.2.1 = []) : Rv i pc ls st w = some (.inr X.1, zthw w) := by
  rw [Rv_go hq hi]
  unfold zstep
  dsimp only
  rw [hX]
  dsimp only
  rw [if_pos hc]
  rfl
theorem R_cal {I : Instr} {av : List Value} (hq : zq i = some q) (hi : zins q pc = some (I, len)) (hs : zstep q i pc I len ls st w = some (.inr (.inr (j, av, r)))) (hj : zq j = some qj) (hl : zent qj av = some lj) (hh : q.2.2.2.2.1 = []) : Rv i pc ls st w = cal (Rv j 0 lj [] w) (fun v w' => Rv i (pc + 3) ls (vts v r) w') xnone := by
  rw [Rv_go hq hi, hs]
  dsimp only [zgo]
  rw [hj]
  dsimp only
  rw [hl]
  dsimp only
  cases Rv j 0 lj [] w with
  | none => rfl
  | some x =>
    match x with
    | (.inl v, w') => rfl
    | (.inr E, w') => dsimp only [zaf]; rw [hh]; rfl
theorem R_calX {I : Instr} {av : List Value} (hq : zq i = some q) (hi : zins q pc = some (I, len)) (hs : zstep q i pc I len ls st w = some (.inr (.inr (j, av, r)))) (hj : zq j = some qj) (hl : zent qj av = some lj) (hh : ¬ q.2.2.2.2.1 = []) : Rv i pc ls st w = cal (Rv j 0 lj [] w) (fun v w' => Rv i (pc + 3) ls (vts v r) w') (xh q i pc ls) := by
  rw [Rv_go hq hi, hs]
  dsimp only [zgo]
  rw [hj]
  dsimp only
  rw [hl]
  dsimp only
  cases Rv j 0 lj [] w with
  | none => rfl
  | some x =>
    match x with
    | (.inl v, w') => rfl
    | (.inr E, w') =>
      dsimp only [zaf, cal, xh]
      cases hz : q.2.2.2.2.1 with
      | nil => exact absurd hz hh
      | cons a t => rfl
theorem R_xh {E : String} (hz : zhnd q pc E q.2.2.2.2.1 = some (pc', k)) (hh : q.2.2.2.2.2.2.2.2.1 = false) : xh q i pc ls E w = lst ls k none fun l => Rv i pc' l [] w := by
  unfold xh
  rw [hz, hh, lst_eq]
  dsimp only
  by_cases hc : k < ls.length
  · rw [if_pos hc, if_pos ⟨hc, rfl⟩]
  · rw [if_neg hc, if_neg (fun h => hc h.1)]
theorem zs_V {z : Nat} (hc : zCT.lookup (q.2.2.2.2.2.1, k) = some (0, j, n, z)) : zstep q i pc (.invokevirtual k) 3 ls st w = zcallV q w j n st := by
  simp only [zstep, hc]
theorem zs_I {z : Nat} (hc : zCT.lookup (q.2.2.2.2.2.1, k) = some (2, j, n, z)) : zstep q i pc (.invokespecial k) 3 ls st w = zcallI q j n st := by
  simp only [zstep, hc]
theorem zs_S {z kd : Nat} (hc : zCT.lookup (q.2.2.2.2.2.1, k) = some (kd, j, n, z)) (hkd : kd = 1 ∨ kd = 4) : zstep q i pc (.invokestatic k) 3 ls st w = zcallS q j n st := by
  rcases hkd with rfl | rfl <;> simp only [zstep, hc]
theorem R_calV {a z : Nat} (hq : zq i = some q) (hi : zins q pc = some (.invokevirtual k, 3)) (hc : zCT.lookup (q.2.2.2.2.2.1, k) = some (0, j, n, z)) (hd : st.drop n = .ref a :: r) (hj : zq j = some qj) (hro : zroom q qj r = true) (hl : zent qj (.ref a :: (st.take n).reverse) = some lj) (hh : q.2.2.2.2.1 = []) : Rv i pc ls st w = hO w a qj.2.2.2.2.2.2.2.2.2 (cal (Rv j 0 lj [] w) (fun v w' => Rv i (pc + 3) ls (vts v r) w') xnone) := by
  unfold hO
  cases ho : zobj w a qj.2.2.2.2.2.2.2.2.2 with
  | none =>
    rw [Rv_go hq hi, zs_V hc]
    dsimp only [zcallV]
    rw [hd]
    dsimp only
    rw [hj]
    dsimp only
    rw [ho]
    rfl
  | some fs =>
    refine R_cal hq hi ?_ hj hl hh
    rw [zs_V hc]
    dsimp only [zcallV]
    rw [hd]
    dsimp only
    rw [hj]
    dsimp only
    rw [ho]
    dsimp only [zcall]
    rw [hj]
    dsimp only
    rw [if_pos hro]
theorem R_calXV {a z : Nat} (hq : zq i = some q) (hi : zins q pc = some (.invokevirtual k, 3)) (hc : zCT.lookup (q.2.2.2.2.2.1, k) = some (0, j, n, z)) (hd : st.drop n = .ref a :: r) (hj : zq j = some qj) (hro : zroom q qj r = true) (hl : zent qj (.ref a :: (st.take n).reverse) = some lj) (hh : ¬ q.2.2.2.2.1 = []) : Rv i pc ls st w = hO w a qj.2.2.2.2.2.2.2.2.2 (cal (Rv j 0 lj [] w) (fun v w' => Rv i (pc + 3) ls (vts v r) w') (xh q i pc ls)) := by
  unfold hO
  cases ho : zobj w a qj.2.2.2.2.2.2.2.2.2 with
  | none =>
    rw [Rv_go hq hi, zs_V hc]
    dsimp only [zcallV]
    rw [hd]
    dsimp only
    rw [hj]
    dsimp only
    rw [ho]
    rfl
  | some fs =>
    refine R_calX hq hi ?_ hj hl hh
    rw [zs_V hc]
    dsimp only [zcallV]
    rw [hd]
    dsimp only
    rw [hj]
    dsimp only
    rw [ho]
    dsimp only [zcall]
    rw [hj]
    dsimp only
    rw [if_pos hro]
theorem R_calI {a z kd : Nat} {I : Instr} (hq : zq i = some q) (hi : zins q pc = some (I, 3)) (hI : I = .invokespecial k) (hc : zCT.lookup (q.2.2.2.2.2.1, k) = some (2, j, n, z)) (hd : st.drop n = .ref a :: r) (hj : zq j = some qj) (hro : zroom q qj r = true) (hl : zent qj (.ref a :: (st.take n).reverse) = some lj) (hh : q.2.2.2.2.1 = []) : Rv i pc ls st w = cal (Rv j 0 lj [] w) (fun v w' => Rv i (pc + 3) ls (vts v r) w') xnone := by
  subst hI
  refine R_cal hq hi ?_ hj hl hh
  rw [zs_I hc]
  dsimp only [zcallI]
  rw [hd]
  dsimp only [zcall]
  rw [hj]
  dsimp only
  rw [if_pos hro]
theorem R_calS {z kd : Nat} {r : List Value} (hq : zq i = some q) (hi : zins q pc = some (.invokestatic k, 3)) (hc : zCT.lookup (q.2.2.2.2.2.1, k) = some (kd, j, n, z)) (hkd : kd = 1 ∨ kd = 4) (hn : n ≤ st.length) (hd : st.drop n = r) (hj : zq j = some qj) (hro : zroom q qj r = true) (hl : zent qj (st.take n).reverse = some lj) (hh : q.2.2.2.2.1 = []) : Rv i pc ls st w = cal (Rv j 0 lj [] w) (fun v w' => Rv i (pc + 3) ls (vts v r) w') xnone := by
  subst hd
  refine R_cal hq hi ?_ hj hl hh
  rw [zs_S hc hkd]
  dsimp only [zcallS]
  rw [if_pos hn]
  dsimp only [zcall]
  rw [hj]
  dsimp only
  rw [if_pos hro]
theorem R_max {z : Nat × Nat × Nat} (hq : zq i = some q) (hi : zins q pc = some (.invokestatic k, 3)) (hc : zCT.lookup (q.2.2.2.2.2.1, k) = some (13, z)) (hro : zcats r ≤ 8 ∧ 1 ≤ zfr q ∧ 21 ≤ zlo q) : Rv i pc ls (.int y :: .int x :: r) w = Rv i (pc + 3) ls (.int (if x < y then y else x) :: r) w := by
  refine R_next hq hi ?_
  unfold zstep
  simp only [hc]
  dsimp only [zmax]
  rw [if_pos hro]
  rfl
theorem R_abs {z : Nat × Nat × Nat} (hq : zq i = some q) (hi : zins q pc = some (.invokestatic k, 3)) (hc : zCT.lookup (q.2.2.2.2.2.1, k) = some (14, z)) (hro : zcats r ≤ 8 ∧ 1 ≤ zfr q ∧ 21 ≤ zlo q) : Rv i pc ls (.int x :: r) w = Rv i (pc + 3) ls (.int (if 0 ≤ x then x else 0 - x) :: r) w := by
  refine R_next hq hi ?_
  unfold zstep
  simp only [hc]
  dsimp only [zabs]
  rw [if_pos hro]
  rfl
theorem R_cp {z : Nat × Nat × Nat} {s d : Nat} {sp dp m : Int32} (hq : zq i = some q) (hi : zins q pc = some (.invokestatic k, 3)) (hc : zCT.lookup (q.2.2.2.2.2.1, k) = some (11, z)) (hro : zcats r ≤ 8 ∧ 1 ≤ zfr q ∧ 26 ≤ zlo q) : Rv i pc ls (.int m :: .int dp :: .ref d :: .int sp :: .ref s :: r) w = cp w s sp d dp m fun w' => Rv i (pc + 3) ls r w' := by
  rw [Rv_go hq hi]
  unfold zstep cp
  simp only [hc]
  dsimp only [zcopy]
  cases zarI w s 0 0 with
  | none => rfl
  | some p =>
    obtain ⟨n0, f⟩ := p
    cases zarI w d 0 0 with
    | none => rfl
    | some p =>
      obtain ⟨n1, g⟩ := p
      dsimp only
      by_cases h : s ≠ d ∧ ¬ sp < 0 ∧ ¬ dp < 0 ∧ ¬ m < 0 ∧ sp.toNatClampNeg + m.toNatClampNeg ≤ n0 ∧ dp.toNatClampNeg + m.toNatClampNeg ≤ n1
      · rw [if_pos h, if_pos ⟨h.1, h.2.1, h.2.2.1, h.2.2.2.1, h.2.2.2.2.1, h.2.2.2.2.2, hro⟩]; rfl
      · rw [if_neg h, if_neg (fun h2 => h ⟨h2.1, h2.2.1, h2.2.2.1, h2.2.2.2.1, h2.2.2.2.2.1, h2.2.2.2.2.2.1⟩)]; rfl
theorem R_obj {a : Nat} {z : Nat × Nat × Nat} (hq : zq i = some q) (hi : zins q pc = some (.invokespecial k, 3)) (hc : zCT.lookup (q.2.2.2.2.2.1, k) = some (10, z)) (hro : zcats r ≤ 8 ∧ 1 ≤ zfr q ∧ 20 ≤ zlo q) : Rv i pc ls (.ref a :: r) w = Rv i (pc + 3) ls r w := by
  refine R_next hq hi ?_
  unfold zstep
  simp only [hc]
  dsimp only [zobjI]
  rw [if_pos hro]
  rfl
theorem R_div (hq : zq i = some q) (hi : zins q pc = some (.idiv, 1)) : Rv i pc ls (.int y :: .int x :: r) w = if y = 0 then none else Rv i (pc + 1) ls (.int (x / y) :: r) w := by
  rw [Rv_go hq hi]
  unfold zstep
  dsimp only
  by_cases h : y = 0
  · rw [if_pos h, if_neg (fun h2 => h2 h)]; rfl
  · rw [if_neg h, if_pos h]; rfl
/-- the remainder -/
def rmi (x y : Int32) : Int32 := x - x / y * y
theorem R_rem (hq : zq i = some q) (hi : zins q pc = some (.irem, 1)) : Rv i pc ls (.int y :: .int x :: r) w = if y = 0 then none else Rv i (pc + 1) ls (.int (rmi x y) :: r) w := by
  rw [Rv_go hq hi]
  unfold zstep
  dsimp only
  by_cases h : y = 0
  · rw [if_pos h, if_neg (fun h2 => h2 h)]; rfl
  · rw [if_neg h, if_pos h]; rfl
theorem R_retI (hq : zq i = some q) (hi : zins q pc = some (.ireturn, 1)) (ht : q.2.2.2.1 = some .int) : Rv i pc ls [.int x] w = some (.inl (some (.int x)), w) := by
  rw [Rv_go hq hi]
  unfold zstep zend zret
  dsimp only
  rw [ht]
  rfl
theorem R_retZ (hq : zq i = some q) (hi : zins q pc = some (.ireturn, 1)) (ht : q.2.2.2.1 = some .boolean) : Rv i pc ls [.int x] w = if x = 0 ∨ x = 1 then some (.inl (some (.int x)), w) else none := by
  rw [Rv_go hq hi]
  unfold zstep zend zret
  dsimp only
  rw [ht]
  dsimp only
  by_cases h : x = 0 ∨ x = 1
  · rw [if_pos h, if_pos (by simpa using h)]; rfl
  · rw [if_neg h, if_neg (by simpa using h)]; rfl
theorem R_retB (hq : zq i = some q) (hi : zins q pc = some (.ireturn, 1)) (ht : q.2.2.2.1 = some .byte) : Rv i pc ls [.int x] w = if x.toInt8.toInt32 = x then some (.inl (some (.int x)), w) else none := by
  rw [Rv_go hq hi]
  unfold zstep zend zret
  dsimp only
  rw [ht]
  dsimp only
  by_cases h : x.toInt8.toInt32 = x
  · rw [if_pos h, if_pos (by simpa using h)]; rfl
  · rw [if_neg h, if_neg (by simpa using h)]; rfl
theorem R_retC (hq : zq i = some q) (hi : zins q pc = some (.ireturn, 1)) (ht : q.2.2.2.1 = some .char) : Rv i pc ls [.int x] w = if x.toUInt32.toUInt16.toUInt32.toInt32 = x then some (.inl (some (.int x)), w) else none := by
  rw [Rv_go hq hi]
  unfold zstep zend zret
  dsimp only
  rw [ht]
  dsimp only
  by_cases h : x.toUInt32.toUInt16.toUInt32.toInt32 = x
  · rw [if_pos h, if_pos (by simpa using h)]; rfl
  · rw [if_neg h, if_neg (by simpa using h)]; rfl
theorem R_retL {x : Int64} (hq : zq i = some q) (hi : zins q pc = some (.lreturn, 1)) (ht : q.2.2.2.1 = some .long) : Rv i pc ls [.long x] w = some (.inl (some (.long x)), w) := by
  rw [Rv_go hq hi]
  unfold zstep
  dsimp only
  rw [if_pos ht]
  rfl
theorem R_retA {a : Nat} {C : String} (hq : zq i = some q) (hi : zins q pc = some (.areturn, 1)) (ht : q.2.2.2.1 = some (.object C)) : Rv i pc ls [.ref a] w = some (.inl (some (.ref a)), w) := by
  rw [Rv_go hq hi]
  unfold zstep
  dsimp only
  rw [ht]
  rfl
theorem R_retN {C : String} (hq : zq i = some q) (hi : zins q pc = some (.areturn, 1)) (ht : q.2.2.2.1 = some (.object C)) : Rv i pc ls [.null] w = some (.inl (some .null), w) := by
  rw [Rv_go hq hi]
  unfold zstep
  dsimp only
  rw [ht]
  rfl
theorem R_retV (hq : zq i = some q) (hi : zins q pc = some (.return_, 1)) (ht : q.2.2.2.1 = none) : Rv i pc ls [] w = some (.inl none, w) := by
  rw [Rv_go hq hi]
  unfold zstep
  dsimp only
  rw [if_pos ht]
  rfl
end ZRules2
