/-! SOUNDNESS of the steps that change no cell -/
theorem znx_inv {pc pc' : Nat} {ls ls' : zL} {st st' : List Value} {w w' : zW} (h : znx pc ls st w = some (.inl (pc', ls', st', w'))) : pc = pc' ∧ ls = ls' ∧ st = st' ∧ w = w' := by
  simp only [znx, Option.some.injEq, Sum.inl.injEq, Prod.mk.injEq] at h
  exact h
theorem zb2_inv {ls ls' : zL} {pc pc' : Nat} {f : Int32 → Int32 → Int32} {st st' : List Value} {w w' : zW} (h : zb2 ls pc f st w = some (.inl (pc', ls', st', w'))) : ∃ x y r, st = .int y :: .int x :: r ∧ pc' = pc + 1 ∧ ls' = ls ∧ st' = .int (f x y) :: r ∧ w' = w := by
  unfold zb2 at h
  split at h
  · rename_i y x r
    obtain ⟨rfl, rfl, rfl, rfl⟩ := znx_inv h
    exact ⟨x, y, r, rfl, rfl, rfl, rfl, rfl⟩
  · cases h
theorem zbr_inv {b : Bool} {pc pc' : Nat} {off : Int} {ls ls' : zL} {st st' : List Value} {w w' : zW} (h : zbr b pc off ls st w = some (.inl (pc', ls', st', w'))) : (pc : Int) + off = (ztgt pc off : Nat) ∧ pc' = (if b = true then ztgt pc off else pc + 3) ∧ ls' = ls ∧ st' = st ∧ w' = w := by
  unfold zbr at h
  split at h
  · rename_i h0
    obtain ⟨rfl, rfl, rfl, rfl⟩ := znx_inv h
    refine ⟨?_, rfl, rfl, rfl, rfl⟩
    unfold ztgt; omega
  · cases h
theorem zF_heap {oc k ci f n : Nat} (h : zFT.lookup (oc, k) = some (ci, f, n)) (hci : ci < 7) : ∃ (r : vw_C) (own : String), vwCl[ci]? = some r ∧ zON[oc]? = some own ∧ f < r.2.2 ∧ (r.2.1 f).1 = r.1 ∧ Cond.fieldLink own k r.1 (r.2.1 f).2.1 (r.2.1 f).2.2.1 ∈ GT := by
  have h1 := List.all_eq_true.mp zFT_ok _ (z_lookup h)
  unfold zokF at h1
  split at h1
  · rename_i own idx ref nm d hw
    rw [if_pos hci] at h1
    split at h1
    · rename_i C T N hc
      simp only [Bool.and_eq_true, beq_iff_eq, decide_eq_true_eq] at h1
      obtain ⟨⟨e1, e2⟩, ⟨⟨⟨⟨e3, e4⟩, e5⟩, e6⟩, e7⟩⟩ := h1
      refine ⟨(C, T, N), own, hc, e1, e4, by rw [e5]; exact e3.symm, ?_⟩
      have hg := GT_of hw rfl
      rw [show idx = k from e2, ← e3, ← e6, ← e7] at hg
      exact hg
    · rw [Bool.and_false] at h1; cases h1
  · simp only [Bool.and_eq_true, decide_eq_true_eq] at h1
    omega
  · cases h1
theorem zF_const {oc k ci f n : Nat} (h : zFT.lookup (oc, k) = some (ci, f, n)) (hci : ¬ ci < 7) : ∃ (own o nm d : String) (cf : List (String × String × String)), 100 ≤ ci ∧ zON[oc]? = some own ∧ zCF[ci - 100]? = some cf ∧ cf[f]? = some (o, nm, d) ∧ (Cond.fieldLink own k o nm d ∈ GT ∨ ∃ host, Cond.fieldLinkNest own k o nm d host ∈ zNW) := by
  have h1 := List.all_eq_true.mp zFT_ok _ (z_lookup h)
  unfold zokF at h1
  split at h1
  · rename_i own idx ref nm d hw
    rw [if_neg hci] at h1
    split at h1
    · rename_i cf hc
      simp only [Bool.and_eq_true, beq_iff_eq, decide_eq_true_eq] at h1
      obtain ⟨⟨e1, e2⟩, e3, e4⟩ := h1
      subst e2
      exact ⟨own, ref, nm, d, cf, e3, e1, hc, e4, Or.inl (GT_of hw rfl)⟩
    · rw [Bool.and_false] at h1; cases h1
  · rename_i own idx ref nm d host hw
    split at h1
    · rename_i cf hc
      simp only [Bool.and_eq_true, beq_iff_eq, decide_eq_true_eq] at h1
      obtain ⟨⟨⟨e1, e2⟩, e3⟩, e5⟩ := h1
      subst e2
      exact ⟨own, ref, nm, d, cf, e3, e1, hc, e5, Or.inr ⟨host, List.mem_filter.mpr ⟨List.mem_of_getElem? hw, rfl⟩⟩⟩
    · rw [Bool.and_false] at h1; cases h1
  · cases h1
theorem zown {i : Nat} {q : zM} (h : zq i = some q) {own : String} (ho : zON[q.2.2.2.2.2.1]? = some own) : own = q.1.cls := by
  have h1 := List.all_eq_true.mp zMT_oc q (List.mem_of_getElem? h)
  rw [ho] at h1
  simpa using h1
theorem zobj_inv {w : zW} {a ci : Nat} {fs : List Value} (h : zobj w a ci = some fs) : w.2 a = some (.inr (ci, fs)) := by
  unfold zobj at h
  split at h
  · rename_i c fs' hw
    split at h
    · rename_i e; subst e; cases h; exact hw
    · cases h
  · cases h
theorem zarI_inv {w : zW} {a t t' n : Nat} {f : Nat → Int32} (h : zarI w a t t' = some (n, f)) : ∃ k, (k = t ∨ k = t') ∧ w.2 a = some (.inl (k, n, .inl f)) := by
  unfold zarI at h
  split at h
  · rename_i k n' f' hw
    split at h
    · rename_i e; cases h; exact ⟨k, e, hw⟩
    · cases h
  · cases h
theorem zarR_inv {w : zW} {a t t' n : Nat} {f : Nat → Option Nat} (h : zarR w a t t' = some (n, f)) : ∃ k, (k = t ∨ k = t') ∧ w.2 a = some (.inl (k, n, .inr (.inr (.inr (.inr f))))) := by
  unfold zarR at h
  split at h
  · rename_i k n' f' hw
    split at h
    · rename_i e; cases h; exact ⟨k, e, hw⟩
    · cases h
  · cases h
theorem zP1 {D : va_G} {H : Heap} {a : Nat} {e : va_E} (h : va_at D vwCl (a, e) H) : va_P D vwCl [(a, e)] H := by
  intro k q hk
  cases k with
  | zero => cases hk; exact h
  | succ k => simp at hk
section ZRead
variable {p : Program} {l : Launch} {e : Env} {R : Room} {s : State} {m : MethodId} {args : Array Value} {below : List Frame} {meth : Method} {c : Code} {H : Heap} {locs : List Loc} {cells slots : Nat} {Q : State → Prop}
variable {base : Nat} {φ : Nat → Nat} {D : va_G} {dA : Nat → ClassId} {cE : Nat → Option zE} {q : zM} {c0 s0 : Nat} {ls ls' : zL} {w w' : zW} {lsC : Array Slot} {pc pc' : Nat} {st st' : List Value}
theorem zHR_arr (hr : zHR base φ D dA cE w H) {a t n : Nat} {x : (Nat → Int32) ⊕ (Nat → Int64) ⊕ (Nat → UInt32) ⊕ (Nat → UInt64) ⊕ (Nat → Option Nat)} (ht : t < 8) (h : w.2 a = some (.inl (t, n, x))) : 40 ≤ a ∧ t < 4 ∧ va_P D vwCl [(φ a, .inl (dA t, zarr φ (n, x)))] H := by
  have h1 := hr.2.2 _ _ h
  unfold zcell at h1
  simp only [if_pos ht] at h1
  exact ⟨h1.1, h1.2.1, zP1 h1.2.2⟩
theorem zHR_obj (hr : zHR base φ D dA cE w H) {a ci : Nat} {fs : List Value} (hci : ci < 7) (h : w.2 a = some (.inr (ci, fs))) : 40 ≤ a ∧ va_P D vwCl [(φ a, .inr (ci, fs.map (zval φ)))] H := by
  have h1 := hr.2.2 _ _ h
  unfold zcell at h1
  simp only [if_pos hci] at h1
  exact ⟨h1.1, zP1 h1.2⟩
theorem zTY_at {t : Nat} {ty : FieldType} (h : zTY[t]? = some ty) : (zTY.zipIdx.map fun q => (dA q.2, q.1))[t]? = some (dA t, ty) := by
  simp [List.getElem?_zipIdx, h]
theorem zs_getfield {i k : Nat} (C : zCtx p l q s m args meth c) (K : zK base φ D dA cE s) (hq : zq i = some q) (hI : zI base φ D dA cE q s c0 s0 ls w lsC H locs cells slots) (hd : decode q.2.1 pc = .ok (.getfield k, 3))
    (h : (match zFT.lookup (q.2.2.2.2.2.1, k), st with
    | some (ci, f, _), .ref a :: r => (match zobj w a ci with
      | some fs => (match fs[f]? with | some v => znx (pc + 3) ls (v :: r) w | none => none)
      | none => none)
    | _, _ => none) = some (.inl (pc', ls', st', w'))) (kk : zGo p l e R s m args below meth c Q base φ D dA cE q c0 s0 pc' ls' st' w') : W p l e R s m args below meth c H locs cells slots Q (F0 m pc lsC (st.map (zval φ))) := by
  obtain ⟨hx, hb, hr, hml, hown, hts, hlk, hnm, hnw, -⟩ := C
  split at h
  · rename_i ci f n a r hF
    split at h
    · rename_i fs hfs
      split at h
      · rename_i v hv
        obtain ⟨rfl, rfl, rfl, rfl⟩ := znx_inv h
        have ho := zobj_inv hfs
        have hvm : (fs.map (zval φ))[f]? = some (zval φ v) := by rw [List.getElem?_map, hv]; rfl
        by_cases hci : ci < 7
        · obtain ⟨r0, own, h1, h2, h3, h4, h5⟩ := zF_heap hF hci
          have := zown hq h2
          subst this
          obtain ⟨-, hP⟩ := zHR_obj hI.2.1 hci ho
          refine va_get (D := D) (ci := ci) (C := r0.1) (T := r0.2.1) (N := r0.2.2) hx hb hts (zCl_ws r0 (List.mem_of_getElem? h1)) hown K.1 hP 0 rfl h1 f h3 (hts _ h5) (fun x hx => by rw [h4] at hx; exact hx) hvm hd ?_
          exact kk _ _ _ _ _ hI
        · obtain ⟨own, o, nm, d, cf, h1, h2, h3, h4, h5⟩ := zF_const hF hci
          have := zown hq h2
          subst this
          have h6 := hI.2.1.2.2 _ _ ho
          unfold zcell at h6
          simp only [if_neg hci] at h6
          obtain ⟨cf', g1, g2, g3, -⟩ := K.2.2.1 _ _ h6
          cases h3.symm.trans g1
          have hOF := g3 f v o nm d hv h4
          rcases h5 with h5 | ⟨host, h5⟩
          · exact vk_getf hx hb hOF hI.2.2.1 hown (hts _ h5) (fun x hx => hx) hd (kk _ _ _ _ _ hI)
          · obtain ⟨cf2, k2, fi, f2, cell, a1, a2, a3, a4, a5, a6⟩ := hOF.kept hI.2.2.1.2.1
            exact va_Wgetf hx hb hown (hnw _ h5) a1 a2 a3 a4 (v := zval φ v) a5 rfl rfl hd (kk _ _ _ _ _ hI)
      · cases h
    · cases h
  · cases h
theorem zs_iaload (C : zCtx p l q s m args meth c) (K : zK base φ D dA cE s) (hI : zI base φ D dA cE q s c0 s0 ls w lsC H locs cells slots) (hd : decode q.2.1 pc = .ok (.iaload, 1))
    (h : (match st with
    | .int j :: .ref a :: r => (match zarI w a 0 8 with | some (n, f) => if zin j n = true then znx (pc + 1) ls (.int (f j.toNatClampNeg) :: r) w else none | none => none)
    | _ => none) = some (.inl (pc', ls', st', w'))) (kk : zGo p l e R s m args below meth c Q base φ D dA cE q c0 s0 pc' ls' st' w') : W p l e R s m args below meth c H locs cells slots Q (F0 m pc lsC (st.map (zval φ))) := by
  obtain ⟨hx, hb, -⟩ := C
  split at h
  · rename_i j a r
    split at h
    · rename_i n f hf
      split at h
      · rename_i hj
        have hj : vp_in j n := by simpa [zin, vp_in] using hj
        obtain ⟨rfl, rfl, rfl, rfl⟩ := znx_inv h
        obtain ⟨t, ht, hw⟩ := zarI_inv hf
        rcases ht with rfl | rfl
        · obtain ⟨-, -, hP⟩ := zHR_arr hI.2.1 (by omega) hw
          exact va_iald hx hb K.1 hP 0 0 rfl (zTY_at rfl) hj hd (kk _ _ _ _ _ hI)
        · have h6 := hI.2.1.2.2 _ _ hw
          have h7 := K.2.2.1 _ _ (show cE a = _ from h6)
          exact va_ti hx hb (show va_T .int _ _ _ _ _ _ from h7) hI.2.2.1 hj rfl hd (kk _ _ _ _ _ hI)
      · cases h
    · cases h
  · cases h
theorem zs_baload (C : zCtx p l q s m args meth c) (K : zK base φ D dA cE s) (hI : zI base φ D dA cE q s c0 s0 ls w lsC H locs cells slots) (hd : decode q.2.1 pc = .ok (.baload, 1))
    (h : (match st with
    | .int j :: .ref a :: r => (match zarI w a 2 9 with | some (n, f) => if zin j n = true then znx (pc + 1) ls (.int (f j.toNatClampNeg) :: r) w else none | none => none)
    | _ => none) = some (.inl (pc', ls', st', w'))) (kk : zGo p l e R s m args below meth c Q base φ D dA cE q c0 s0 pc' ls' st' w') : W p l e R s m args below meth c H locs cells slots Q (F0 m pc lsC (st.map (zval φ))) := by
  obtain ⟨hx, hb, -⟩ := C
  split at h
  · rename_i j a r
    split at h
    · rename_i n f hf
      split at h
      · rename_i hj
        have hj : vp_in j n := by simpa [zin, vp_in] using hj
        obtain ⟨rfl, rfl, rfl, rfl⟩ := znx_inv h
        obtain ⟨t, ht, hw⟩ := zarI_inv hf
        rcases ht with rfl | rfl
        · obtain ⟨-, -, hP⟩ := zHR_arr hI.2.1 (by omega) hw
          exact va_bald hx hb K.1 hP 0 2 rfl (zTY_at rfl) hj hd (kk _ _ _ _ _ hI)
        · have h6 := hI.2.1.2.2 _ _ hw
          have h7 := K.2.2.1 _ _ (show cE a = _ from h6)
          exact va_tb hx hb (show va_T .byte _ _ _ _ _ _ from h7) hI.2.2.1 hj rfl hd (kk _ _ _ _ _ hI)
      · cases h
    · cases h
  · cases h
theorem zs_laload (C : zCtx p l q s m args meth c) (K : zK base φ D dA cE s) (hI : zI base φ D dA cE q s c0 s0 ls w lsC H locs cells slots) (hd : decode q.2.1 pc = .ok (.laload, 1))
    (h : (match st with
    | .int j :: .ref a :: r => (match zarL w a with | some (n, f) => if zin j n = true then znx (pc + 1) ls (.long (f j.toNatClampNeg) :: r) w else none | none => none)
    | _ => none) = some (.inl (pc', ls', st', w'))) (kk : zGo p l e R s m args below meth c Q base φ D dA cE q c0 s0 pc' ls' st' w') : W p l e R s m args below meth c H locs cells slots Q (F0 m pc lsC (st.map (zval φ))) := by
  obtain ⟨hx, hb, -⟩ := C
  split at h
  · rename_i j a r
    split at h
    · rename_i n f hf
      split at h
      · rename_i hj
        have hj : vp_in j n := by simpa [zin, vp_in] using hj
        obtain ⟨rfl, rfl, rfl, rfl⟩ := znx_inv h
        unfold zarL at hf
        cases hf
      · cases h
    · cases h
  · cases h
theorem zval_rf (o : Option Nat) : zval φ (va_rf o) = va_rf (o.map φ) := by cases o <;> rfl
theorem zs_aaload (C : zCtx p l q s m args meth c) (K : zK base φ D dA cE s) (hI : zI base φ D dA cE q s c0 s0 ls w lsC H locs cells slots) (hd : decode q.2.1 pc = .ok (.aaload, 1))
    (h : (match st with
    | .int j :: .ref a :: r => (match zarR w a 3 10 with | some (n, f) => if zin j n = true then znx (pc + 1) ls (va_rf (f j.toNatClampNeg) :: r) w else none | none => none)
    | _ => none) = some (.inl (pc', ls', st', w'))) (kk : zGo p l e R s m args below meth c Q base φ D dA cE q c0 s0 pc' ls' st' w') : W p l e R s m args below meth c H locs cells slots Q (F0 m pc lsC (st.map (zval φ))) := by
  obtain ⟨hx, hb, -⟩ := C
  split at h
  · rename_i j a r
    split at h
    · rename_i n f hf
      split at h
      · rename_i hj
        have hj : vp_in j n := by simpa [zin, vp_in] using hj
        obtain ⟨rfl, rfl, rfl, rfl⟩ := znx_inv h
        obtain ⟨t, ht, hw⟩ := zarR_inv hf
        have kk2 := kk _ _ _ _ _ hI
        rw [List.map_cons, zval_rf] at kk2
        rcases ht with rfl | rfl
        · obtain ⟨-, -, hP⟩ := zHR_arr hI.2.1 (by omega) hw
          exact va_aldq (C := "MasterPins$Plan") hx hb K.1 hP 0 3 rfl (zTY_at rfl) hj hd kk2
        · have h6 := hI.2.1.2.2 _ _ hw
          have h7 := K.2.2.1 _ _ (show cE a = _ from h6)
          exact vb_tq (C := "MasterPins$Word") hx hb (show va_T (.object "MasterPins$Word") _ _ _ _ _ _ from h7) hI.2.2.1 hj rfl hd kk2
      · cases h
    · cases h
  · cases h
theorem zlen_inv {a n : Nat} (h : zlen w a = some n) : ∃ t x, w.2 a = some (.inl (t, n, x)) := by
  unfold zlen at h
  split at h
  · rename_i t n' x hw; cases h; exact ⟨t, x, hw⟩
  · cases h
theorem zs_arraylength (C : zCtx p l q s m args meth c) (K : zK base φ D dA cE s) (hI : zI base φ D dA cE q s c0 s0 ls w lsC H locs cells slots) (hd : decode q.2.1 pc = .ok (.arraylength, 1))
    (h : (match st with
    | .ref a :: r => (match zlen w a with | some n => znx (pc + 1) ls (.int (Int32.ofNat n) :: r) w | none => none)
    | _ => none) = some (.inl (pc', ls', st', w'))) (kk : zGo p l e R s m args below meth c Q base φ D dA cE q c0 s0 pc' ls' st' w') : W p l e R s m args below meth c H locs cells slots Q (F0 m pc lsC (st.map (zval φ))) := by
  obtain ⟨hx, hb, -⟩ := C
  split at h
  · rename_i a r
    split at h
    · rename_i n hn
      obtain ⟨rfl, rfl, rfl, rfl⟩ := znx_inv h
      obtain ⟨t, x, hw⟩ := zlen_inv hn
      by_cases ht : t < 8
      · obtain ⟨-, ht4, hP⟩ := zHR_arr hI.2.1 ht hw
        have : ∃ ty, zTY[t]? = some ty := ⟨_, List.getElem?_eq_getElem (by exact ht4)⟩
        obtain ⟨ty, hty⟩ := this
        exact va_alen hx hb K.1 hP 0 t rfl (zTY_at hty) rfl hd (kk _ _ _ _ _ hI)
      · have h6 := hI.2.1.2.2 _ _ hw
        unfold zcell at h6
        simp only [if_neg ht] at h6
        have h7 := K.2.2.1 _ _ h6
        unfold zcst at h7
        split at h7
        · rename_i t' n' f' e
          cases e
          split at h7
          · exact va_tlen hx hb h7 hI.2.2.1 rfl hd (kk _ _ _ _ _ hI)
          · split at h7
            · exact va_tlen hx hb h7 hI.2.2.1 rfl hd (kk _ _ _ _ _ hI)
            · exact h7.elim
        · rename_i t' n' f' e
          cases e
          split at h7
          · exact va_tlen hx hb h7 hI.2.2.1 rfl hd (kk _ _ _ _ _ hI)
          · exact h7.elim
        · rename_i e; cases e
        · exact h7.elim
    · cases h
  · cases h
end ZRead
