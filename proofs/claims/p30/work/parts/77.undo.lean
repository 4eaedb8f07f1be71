/-! saved plans -/
def PS (p : Nat) : Prop := p = 56 ∨ p = 64 ∨ p = 72 ∨ p = 80
def PV (P : Nat → Nat) : Prop := (∀ j, j < 4 → PS (P j)) ∧ (∀ i j, i < 4 → j < 4 → i ≠ j → P i ≠ P j)
theorem ps_pa {p : Nat} (h : PS p) : PA p := Or.inr h
theorem ps_rg {p : Nat} (h : PS p) : 56 ≤ p ∧ p + 7 ≤ 87 := by rcases h with rfl | rfl | rfl | rfl <;> omega
theorem pa_far {p q : Nat} (hp : PA p) (hq : PA q) (h : p ≠ q) : p + 8 ≤ q ∨ q + 8 ≤ p := by
  rcases hp with rfl | rfl | rfl | rfl | rfl <;> rcases hq with rfl | rfl | rfl | rfl | rfl <;> first | omega | exact absurd rfl h
theorem plz_is {i : Nat} (h7 : i ≤ 7) : plz i ≤ 16 := by unfold plz; split <;> (try split) <;> omega
def svu (u : Nat) : Nat := if u = 4 then 4 else u + 1
def svk (u : Nat) (g : Nat → Int32) (ks : Nat → Nat → Int32) (j : Nat) : Nat → Int32 := if u = 4 then (if j = 3 then g else ks (j + 1)) else if j = u then g else ks j
def rotP (P : Nat → Nat) : Nat → Nat := fun j => if j = 3 then P 0 else if j = 2 then P 3 else if j = 1 then P 2 else if j = 0 then P 1 else P j
theorem rot_pv {P : Nat → Nat} (h : PV P) : PV (rotP P) := by
  have e0 : rotP P 0 = P 1 := rfl
  have e1 : rotP P 1 = P 2 := rfl
  have e2 : rotP P 2 = P 3 := rfl
  have e3 : rotP P 3 = P 0 := rfl
  have d : ∀ i j, i < 4 → j < 4 → i ≠ j → P i ≠ P j := h.2
  refine ⟨fun j hj => ?_, fun i j hi hj hne => ?_⟩
  · rcases j with _ | _ | _ | _ | j
    · exact h.1 1 (by omega)
    · exact h.1 2 (by omega)
    · exact h.1 3 (by omega)
    · exact h.1 0 (by omega)
    · omega
  · rcases i with _ | _ | _ | _ | i
    · rcases j with _ | _ | _ | _ | j
      · exact absurd rfl hne
      · exact d 1 2 (by omega) (by omega) (by omega)
      · exact d 1 3 (by omega) (by omega) (by omega)
      · exact d 1 0 (by omega) (by omega) (by omega)
      · omega
    · rcases j with _ | _ | _ | _ | j
      · exact d 2 1 (by omega) (by omega) (by omega)
      · exact absurd rfl hne
      · exact d 2 3 (by omega) (by omega) (by omega)
      · exact d 2 0 (by omega) (by omega) (by omega)
      · omega
    · rcases j with _ | _ | _ | _ | j
      · exact d 3 1 (by omega) (by omega) (by omega)
      · exact d 3 2 (by omega) (by omega) (by omega)
      · exact absurd rfl hne
      · exact d 3 0 (by omega) (by omega) (by omega)
      · omega
    · rcases j with _ | _ | _ | _ | j
      · exact d 0 1 (by omega) (by omega) (by omega)
      · exact d 0 2 (by omega) (by omega) (by omega)
      · exact d 0 3 (by omega) (by omega) (by omega)
      · exact absurd rfl hne
      · omega
    · omega
theorem rp_copy {F A F' A' : Nat → Nat → Int32} {p q : Nat} {g : Nat → Int32} (hw : Wf g) (h : Rp F A p g) (f0 : F' q 0 = F p 0) (f1 : F' q 1 = F p 1) (f3 : F' q 3 = F p 3) (f8 : F' q 8 = F p 8) (f9 : F' q 9 = F p 9) (ha : ∀ i j, 1 ≤ i → i ≤ 7 → j < plz i → A' (q + i) j = A (p + i) j) : Rp F' A' q g := by
  have n16 := wf_n16 hw
  have m12 := wf_m12 hw
  refine ⟨⟨f0.trans h.1.1, f1.trans h.1.2.1, f3.trans h.1.2.2.1, f9.trans h.1.2.2.2.1, f8.trans h.1.2.2.2.2⟩, ⟨?_, ?_, ?_⟩, fun k hk => ⟨?_, ?_, ?_, ?_⟩, fun d hd => ⟨?_, ?_⟩⟩
  · rw [ha 1 0 (by omega) (by omega) (by decide)]; exact h.2.1.1
  · rw [ha 1 1 (by omega) (by omega) (by decide)]; exact h.2.1.2.1
  · rw [ha 1 2 (by omega) (by omega) (by decide)]; exact h.2.1.2.2
  · rw [ha 2 k (by omega) (by omega) (show k < 16 by omega)]; exact (h.2.2.1 k hk).1
  · rw [ha 3 k (by omega) (by omega) (show k < 16 by omega)]; exact (h.2.2.1 k hk).2.1
  · rw [ha 4 k (by omega) (by omega) (show k < 16 by omega)]; exact (h.2.2.1 k hk).2.2.1
  · rw [ha 5 k (by omega) (by omega) (show k < 16 by omega)]; exact (h.2.2.1 k hk).2.2.2
  · rw [ha 6 d (by omega) (by omega) (show d < 12 by omega)]; exact (h.2.2.2 d hd).1
  · rw [ha 7 d (by omega) (by omega) (show d < 12 by omega)]; exact (h.2.2.2 d hd).2
section ZT
variable {G : zG} {c : Nat × Nat × Bool} {F A : Nat → Nat → Int32} {P : Nat → Nat} {W : Value} {O : Nat → Int64} {x y j k d e v m : Int32} {p q a b i n t u w : Nat} {g : Nat → Int32} {ks : Nat → Nat → Int32}
theorem cp_p {K : zW → Option zR} (hp : PA p) (hq : PA q) (hne : p ≠ q) (h1 : 1 ≤ i) (h7 : i ≤ 7) (hm : m = Int32.ofNat (plz i)) : cp (en G c F A P W O) (p + i) 0 (q + i) 0 m K = K (en G c F (uA A (q + i) (va_cpy (A (p + i)) (A (q + i)) 0 0 (plz i))) P W O) := by
  have hf := pa_far hp hq hne
  have h16 := plz_is h7
  have e1 : zarI (en G c F A P W O) (p + i) 0 0 = some (plz i, A (p + i)) := by
    unfold zarI
    show (match mem G F A P W O (p + i) with | some (.inl (k, n, .inl f)) => if k = 0 ∨ k = 0 then some (n, f) else none | _ => none) = _
    rw [m_pa hp h1 (by omega)]
    rfl
  have e2 : zarI (en G c F A P W O) (q + i) 0 0 = some (plz i, A (q + i)) := by
    unfold zarI
    show (match mem G F A P W O (q + i) with | some (.inl (k, n, .inl f)) => if k = 0 ∨ k = 0 then some (n, f) else none | _ => none) = _
    rw [m_pa hq h1 (by omega)]
    rfl
  subst hm
  unfold cp
  rw [e1, e2]
  dsimp only
  rw [if_pos ⟨by omega, by decide, by decide, (by rw [io_nonneg (by omega)]; exact id), (by rw [io_ix (by omega)]; show 0 + plz i ≤ plz i; omega), (by rw [io_ix (by omega)]; show 0 + plz i ≤ plz i; omega)⟩, io_ix (by omega)]
  refine congrArg K (m_set (a := q + i) rfl ?_ fun b h => m_uA h)
  rw [m_pa hq h1 (by omega)]
  unfold iA uA
  rw [if_pos rfl]
  rfl
/-- one plan copied over another -/
theorem t31 (hp : PA p) (hq : PA q) (hne : p ≠ q) : ∃ F' A', (∀ b, b ≠ q → F' b = F b) ∧ (∀ b, (b < q + 1 ∨ q + 7 < b) → A' b = A b) ∧ (F' q 0 = F p 0 ∧ F' q 1 = F p 1 ∧ F' q 3 = F p 3 ∧ F' q 8 = F p 8 ∧ F' q 9 = F p 9) ∧ (∀ i j, 1 ≤ i → i ≤ 7 → j < plz i → A' (q + i) j = A (p + i) j) ∧ Rv 31 0 [some (.ref q), some (.ref p)] [] (en G c F A P W O) = some (.inl none, en G c F' A' P W O) := by
  have hf := pa_far hp hq hne
  have hu : ∀ (F : Nat → Nat → Int32) k x, u2 F q k x p = F p := fun F k x => u2_ne hne
  have hv : ∀ (A : Nat → Nat → Int32) f i j, i ≤ 7 → j ≤ 7 → uA A (q + j) f (p + i) = A (p + i) := fun A f i j h1 h2 => uA_ne (by omega)
  have hv2 : ∀ (A : Nat → Nat → Int32) f i j, i ≠ j → uA A (q + j) f (q + i) = A (q + i) := fun A f i j h => uA_ne (by omega)
  let c1 : (Nat → Nat → Int32) → Nat → Nat → Nat → Int32 := fun B i => uA B (q + i) (va_cpy (A (p + i)) (A (q + i)) 0 0 (plz i))
  refine ⟨u2 (u2 (u2 (u2 (u2 F q 0 (F p 0)) q 1 (F p 1)) q 3 (F p 3)) q 8 (F p 8)) q 9 (F p 9), c1 (c1 (c1 (c1 (c1 (c1 (c1 A 1) 2) 3) 4) 5) 6) 7, fun b hb => ?_, fun b hb => ?_, ⟨?_, ?_, ?_, ?_, ?_⟩, fun i j h1 h7 hj => ?_, ?_⟩
  · rw [u2_ne hb, u2_ne hb, u2_ne hb, u2_ne hb, u2_ne hb]
  · show uA (uA (uA (uA (uA (uA (uA A _ _) _ _) _ _) _ _) _ _) _ _) _ _ b = A b
    rw [uA_ne (by omega), uA_ne (by omega), uA_ne (by omega), uA_ne (by omega), uA_ne (by omega), uA_ne (by omega), uA_ne (by omega)]
  · rw [u2_at, upd_no (by omega), u2_at, upd_no (by omega), u2_at, upd_no (by omega), u2_at, upd_no (by omega), u2_at, upd_at]
  · rw [u2_at, upd_no (by omega), u2_at, upd_no (by omega), u2_at, upd_no (by omega), u2_at, upd_at]
  · rw [u2_at, upd_no (by omega), u2_at, upd_no (by omega), u2_at, upd_at]
  · rw [u2_at, upd_no (by omega), u2_at, upd_at]
  · rw [u2_at, upd_at]
  · have hc : va_cpy (A (p + i)) (A (q + i)) 0 0 (plz i) j = A (p + i) j := by
      unfold va_cpy
      rw [if_pos ⟨Nat.zero_le _, by omega⟩, Nat.zero_add, Nat.sub_zero]
    have hd : ∀ (B : Nat → Nat → Int32), uA B (q + i) (va_cpy (A (p + i)) (A (q + i)) 0 0 (plz i)) (q + i) = va_cpy (A (p + i)) (A (q + i)) 0 0 (plz i) := fun B => if_pos rfl
    rw [← hc]
    rcases i with _ | _ | _ | _ | _ | _ | _ | _ | i
    · omega
    · show uA (uA (uA (uA (uA (uA (uA A _ _) _ _) _ _) _ _) _ _) _ _) _ _ _ _ = _
      rw [uA_ne (by omega), uA_ne (by omega), uA_ne (by omega), uA_ne (by omega), uA_ne (by omega), uA_ne (by omega)]
      exact congrFun (hd A) j
    · show uA (uA (uA (uA (uA (uA (uA A _ _) _ _) _ _) _ _) _ _) _ _) _ _ _ _ = _
      rw [uA_ne (by omega), uA_ne (by omega), uA_ne (by omega), uA_ne (by omega), uA_ne (by omega)]
      exact congrFun (hd _) j
    · show uA (uA (uA (uA (uA (uA (uA A _ _) _ _) _ _) _ _) _ _) _ _) _ _ _ _ = _
      rw [uA_ne (by omega), uA_ne (by omega), uA_ne (by omega), uA_ne (by omega)]
      exact congrFun (hd _) j
    · show uA (uA (uA (uA (uA (uA (uA A _ _) _ _) _ _) _ _) _ _) _ _) _ _ _ _ = _
      rw [uA_ne (by omega), uA_ne (by omega), uA_ne (by omega)]
      exact congrFun (hd _) j
    · show uA (uA (uA (uA (uA (uA (uA A _ _) _ _) _ _) _ _) _ _) _ _) _ _ _ _ = _
      rw [uA_ne (by omega), uA_ne (by omega)]
      exact congrFun (hd _) j
    · show uA (uA (uA (uA (uA (uA (uA A _ _) _ _) _ _) _ _) _ _) _ _) _ _ _ _ = _
      rw [uA_ne (by omega)]
      exact congrFun (hd _) j
    · exact congrFun (hd _) j
    · omega
  · have k1 := fun (F A : Nat → Nat → Int32) (K : zW → Option zR) => cp_p (G := G) (c := c) (F := F) (A := A) (P := P) (W := W) (O := O) (K := K) hp hq hne (i := 1) (by omega) (by omega) (m := 3) rfl
    have k2 := fun (F A : Nat → Nat → Int32) (K : zW → Option zR) => cp_p (G := G) (c := c) (F := F) (A := A) (P := P) (W := W) (O := O) (K := K) hp hq hne (i := 2) (by omega) (by omega) (m := 16) rfl
    have k3 := fun (F A : Nat → Nat → Int32) (K : zW → Option zR) => cp_p (G := G) (c := c) (F := F) (A := A) (P := P) (W := W) (O := O) (K := K) hp hq hne (i := 3) (by omega) (by omega) (m := 16) rfl
    have k4 := fun (F A : Nat → Nat → Int32) (K : zW → Option zR) => cp_p (G := G) (c := c) (F := F) (A := A) (P := P) (W := W) (O := O) (K := K) hp hq hne (i := 4) (by omega) (by omega) (m := 16) rfl
    have k5 := fun (F A : Nat → Nat → Int32) (K : zW → Option zR) => cp_p (G := G) (c := c) (F := F) (A := A) (P := P) (W := W) (O := O) (K := K) hp hq hne (i := 5) (by omega) (by omega) (m := 16) rfl
    have k6 := fun (F A : Nat → Nat → Int32) (K : zW → Option zR) => cp_p (G := G) (c := c) (F := F) (A := A) (P := P) (W := W) (O := O) (K := K) hp hq hne (i := 6) (by omega) (by omega) (m := 12) rfl
    have k7 := fun (F A : Nat → Nat → Int32) (K : zW → Option zR) => cp_p (G := G) (c := c) (F := F) (A := A) (P := P) (W := W) (O := O) (K := K) hp hq hne (i := 7) (by omega) (by omega) (m := 12) rfl
    simp only [↓e31_0, ↓e31_1, ↓e31_2, ↓e31_5, ↓e31_8, ↓e31_9, ↓e31_10, ↓e31_13, ↓e31_16, ↓e31_17, ↓e31_20, ↓e31_21, ↓e31_22, ↓e31_25, ↓e31_26, ↓e31_27, ↓e31_30, ↓e31_31, ↓e31_32, ↓e31_35, ↓e31_38, ↓e31_39, ↓e31_42, ↓e31_43, ↓e31_44, ↓e31_47, ↓e31_48, ↓e31_50, ↓e31_53, ↓e31_54, ↓e31_57, ↓e31_58, ↓e31_59, ↓e31_62, ↓e31_63, ↓e31_65, ↓e31_68, ↓e31_69, ↓e31_72, ↓e31_73, ↓e31_74, ↓e31_77, ↓e31_78, ↓e31_80, ↓e31_83, ↓e31_84, ↓e31_87, ↓e31_88, ↓e31_89, ↓e31_92, ↓e31_93, ↓e31_95, ↓e31_98, ↓e31_99, ↓e31_100, ↓e31_103, ↓e31_106, ↓e31_107, ↓e31_108, ↓e31_111, ↓e31_114, ↓e31_115, ↓e31_118, ↓e31_119, ↓e31_120, ↓e31_123, ↓e31_124, ↓e31_126, ↓e31_129, ↓e31_130, ↓e31_133, ↓e31_134, ↓e31_135, ↓e31_138, ↓e31_139, ↓e31_141, ↓e31_144, ↓ldI_0, ↓ldI_s, ↓ldA_0, ↓ldA_n, ↓ldA_s, ↓ldL_0, ↓ldL_s, ↓lst_0, ↓lst_s, ↓cal_v, ↓cal_x, ↓vts_s, ↓vts_n, ↓lpr_0, ↓lpr_i, ↓lpr_r, ↓lpr_n, ↓lpr_s, PA_41, ↓reduceIte, or_true, true_or, ↓ho_p, ↓gf_p_0, ↓pf_p_0, ↓gf_p_1, ↓pf_p_1, ↓gf_p_2, ↓gf_p_3, ↓pf_p_3, ↓gf_p_4, ↓gf_p_5, ↓gf_p_6, ↓gf_p_7, ↓gf_p_8, ↓pf_p_8, ↓gf_p_9, ↓pf_p_9, ↓gf_p_10, ↓gf_p_11, hp, hq, hu, k1, k2, k3, k4, k5, k6, k7]
    have hpp : ∀ (B : Nat → Nat → Int32) f i j, i ≤ 7 → j ≤ 7 → uA B (q + j) f (p + i) = B (p + i) := hv
    rw [hv _ _ 2 1 (by omega) (by omega), hv2 _ _ 2 1 (by omega)]
    rw [hv _ _ 3 2 (by omega) (by omega), hv2 _ _ 3 2 (by omega), hv _ _ 3 1 (by omega) (by omega), hv2 _ _ 3 1 (by omega)]
    rw [hv _ _ 4 3 (by omega) (by omega), hv2 _ _ 4 3 (by omega), hv _ _ 4 2 (by omega) (by omega), hv2 _ _ 4 2 (by omega), hv _ _ 4 1 (by omega) (by omega), hv2 _ _ 4 1 (by omega)]
    rw [hv _ _ 5 4 (by omega) (by omega), hv2 _ _ 5 4 (by omega), hv _ _ 5 3 (by omega) (by omega), hv2 _ _ 5 3 (by omega), hv _ _ 5 2 (by omega) (by omega), hv2 _ _ 5 2 (by omega), hv _ _ 5 1 (by omega) (by omega), hv2 _ _ 5 1 (by omega)]
    rw [hv _ _ 6 5 (by omega) (by omega), hv2 _ _ 6 5 (by omega), hv _ _ 6 4 (by omega) (by omega), hv2 _ _ 6 4 (by omega), hv _ _ 6 3 (by omega) (by omega), hv2 _ _ 6 3 (by omega), hv _ _ 6 2 (by omega) (by omega), hv2 _ _ 6 2 (by omega), hv _ _ 6 1 (by omega) (by omega), hv2 _ _ 6 1 (by omega)]
    rw [hv _ _ 7 6 (by omega) (by omega), hv2 _ _ 7 6 (by omega), hv _ _ 7 5 (by omega) (by omega), hv2 _ _ 7 5 (by omega), hv _ _ 7 4 (by omega) (by omega), hv2 _ _ 7 4 (by omega), hv _ _ 7 3 (by omega) (by omega), hv2 _ _ 7 3 (by omega), hv _ _ 7 2 (by omega) (by omega), hv2 _ _ 7 2 (by omega), hv _ _ 7 1 (by omega) (by omega), hv2 _ _ 7 1 (by omega)]
end ZT
