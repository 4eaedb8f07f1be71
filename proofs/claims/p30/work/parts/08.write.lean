/-! SOUNDNESS of the steps that change or make a cell -/
section ZWrite
variable {p : Program} {l : Launch} {e : Env} {R : Room} {s : State} {m : MethodId} {args : Array Value} {below : List Frame} {meth : Method} {c : Code} {H : Heap} {locs : List Loc} {cells slots : Nat} {Q : State → Prop}
variable {base : Nat} {φ : Nat → Nat} {D : va_G} {dA : Nat → ClassId} {cE : Nat → Option zE} {q : zM} {c0 s0 : Nat} {ls ls' : zL} {w w' : zW} {lsC : Array Slot} {pc pc' : Nat} {st st' : List Value}
theorem zvc_i (c : ClassId) (n : Nat) (f : Nat → Int32) : vp_cell c (zarr φ (n, .inl f)) = arrV c n (fun j => .int (f j)) := rfl
theorem zvc_l (c : ClassId) (n : Nat) (f : Nat → Int64) : vp_cell c (zarr φ (n, .inr (.inl f))) = arrV c n (fun j => .long (f j)) := rfl
theorem zvc_q (c : ClassId) (n : Nat) (f : Nat → Option Nat) : vp_cell c (zarr φ (n, .inr (.inr (.inr (.inr f))))) = arrV c n (fun j => va_rf ((f j).map φ)) := rfl
theorem zcell_kept {k : Nat} {x : zE} {H1 : Heap} (h : zcell φ D dA cE k x H) (hq : φ k < H.size → 40 ≤ k → H1[φ k]? = H[φ k]?) : zcell φ D dA cE k x H1 := by
  unfold zcell at h ⊢
  split
  · rename_i t x
    simp only at h
    split
    · rename_i h8
      rw [if_pos h8] at h
      exact ⟨h.1, h.2.1, (hq (Array.getElem?_eq_some_iff.mp h.2.2).1 h.1).trans h.2.2⟩
    · rename_i h8
      rw [if_neg h8] at h
      exact h
  · rename_i ci fs
    simp only at h
    split
    · rename_i h8
      rw [if_pos h8] at h
      exact ⟨h.1, h.2.kept (hq h.2.lt h.1)⟩
    · rename_i h8
      rw [if_neg h8] at h
      exact h
theorem zHR_set (F : ∀ k, 40 ≤ k → φ k = base + (k - 40)) (hr : zHR base φ D dA cE w H) {a : Nat} {x : zE} {H1 : Heap} (ha : 40 ≤ a) (hx : zcell φ D dA cE a x H1) (hz : H1.size = H.size) (hq : ∀ q, q ≠ φ a → H1[q]? = H[q]?) : zHR base φ D dA cE (zset w a x) H1 := by
  refine ⟨by rw [hz]; exact hr.1, fun h => by rw [hz]; exact hr.2.1 h, fun k y hk => ?_⟩
  by_cases e : k = a
  · subst e
    simp only [zset, if_true, Option.some.injEq] at hk
    subst hk
    exact hx
  · simp only [zset, if_neg e] at hk
    refine zcell_kept (hr.2.2 k y hk) fun _ h40 => hq _ ?_
    rw [F k h40, F a ha]; omega
theorem zHR_new (hr : zHR base φ D dA cE w H) (hfr : w.1.2.2 = false) {n : Nat} {x : zE} {H1 : Heap} (hx : zcell φ D dA cE (40 + w.1.1) x H1) (hz : H1.size = H.size + 1) (hq : ∀ q, q < H.size → H1[q]? = H[q]?) : zHR base φ D dA cE (znew w n x) H1 := by
  have hs := hr.2.1 hfr
  refine ⟨by have := hr.1; omega, fun h => by rw [hz, hs]; show _ = base + (w.1.1 + 1); omega, fun k y hk => ?_⟩
  by_cases e : k = 40 + w.1.1
  · subst e
    simp only [znew, if_true, Option.some.injEq] at hk
    subst hk
    exact hx
  · simp only [znew, if_neg e] at hk
    exact zcell_kept (hr.2.2 k y hk) fun hlt h40 => hq _ hlt
/-- a store at one old cell -/
theorem zI_put (F : ∀ k, 40 ≤ k → φ k = base + (k - 40)) (hI : zI base φ D dA cE q s c0 s0 ls w lsC H locs cells slots) {a j : Nat} {x : zE} {H1 : Heap} (ha : 40 ≤ a) (hx : zcell φ D dA cE a x H1) (hz : H1.size = H.size) (hq : ∀ q, q ≠ φ a → H1[q]? = H[q]?) : zI base φ D dA cE q s c0 s0 ls (zset w a x) lsC H1 (locs ++ [⟨φ a, j⟩]) cells slots :=
  ⟨hI.1, zHR_set F hI.2.1 ha hx hz hq, hI.2.2.1.put hz hq (by show base ≤ φ a; rw [F a ha]; omega), hI.2.2.2.1, hI.2.2.2.2⟩
theorem zI_new (hI : zI base φ D dA cE q s c0 s0 ls w lsC H locs cells slots) (hfr : w.1.2.2 = false) {n : Nat} {x : zE} {H1 : Heap} (hx : zcell φ D dA cE (40 + w.1.1) x H1) (hz : H1.size = H.size + 1) (hq : ∀ q, q < H.size → H1[q]? = H[q]?) : zI base φ D dA cE q s c0 s0 ls (znew w n x) lsC H1 locs (cells + 1) (slots + n) := by
  obtain ⟨h1, h2, h3, h4, h5⟩ := hI
  refine ⟨h1, zHR_new h2 hfr hx hz hq, ⟨by have := h3.1; omega, fun y a1 a2 => (hq y (Nat.lt_of_lt_of_le a1 h3.1)).trans (h3.2.1 y a1 a2), h3.2.2⟩, ?_, ?_⟩
  · show c0 + (cells + 1) = w.1.1 + 1; omega
  · show s0 + (slots + n) = w.1.2.1 + n; omega
theorem zs_iastore (F : ∀ k, 40 ≤ k → φ k = base + (k - 40)) (C : zCtx p l q s m args meth c) (K : zK base φ D dA cE s) (hI : zI base φ D dA cE q s c0 s0 ls w lsC H locs cells slots) (hd : decode q.2.1 pc = .ok (.iastore, 1))
    (h : (match st with
    | .int x :: .int j :: .ref a :: r => (match zarI w a 0 0 with | some (n, f) => if zin j n = true then znx (pc + 1) ls r (zset w a (.inl (0, n, .inl (upd f j.toNatClampNeg x)))) else none | none => none)
    | _ => none) = some (.inl (pc', ls', st', w'))) (kk : zGo p l e R s m args below meth c Q base φ D dA cE q c0 s0 pc' ls' st' w') : W p l e R s m args below meth c H locs cells slots Q (F0 m pc lsC (st.map (zval φ))) := by
  obtain ⟨hx, hb, -⟩ := C
  split at h
  · rename_i x j a r
    split at h
    · rename_i n f hf
      split at h
      · rename_i hj
        have hj : vp_in j n := by simpa [zin, vp_in] using hj
        obtain ⟨rfl, rfl, rfl, rfl⟩ := znx_inv h
        obtain ⟨t, ht, hw⟩ := zarI_inv hf
        have ht : t = 0 := by omega
        subst ht
        obtain ⟨ha, -, hP⟩ := zHR_arr hI.2.1 (by omega) hw
        refine W.iast hx hb (hP 0 _ rfl) ((K.1.2 0 _ (zTY_at rfl)).1 n (fun j => .int (f j))) (fun q => by cases q) (by show ¬ (j < 0 ∨ (arrV _ _ _).slots.size ≤ _); rw [arrV_size]; exact hj) rfl rfl hd fun H1 e z oq => ?_
        refine kk _ _ _ _ _ (zI_put F hI ha ?_ z oq)
        refine ⟨ha, by omega, e.trans (congrArg some ?_)⟩
        dsimp only
        rw [zvc_i, zvc_i, arrV_store]
        congr 1
        funext k
        by_cases hq : k = j.toNatClampNeg
        · subst hq; simp [updV, upd]
        · simp [updV, upd, hq]
      · cases h
    · cases h
  · cases h
theorem zs_bastore (F : ∀ k, 40 ≤ k → φ k = base + (k - 40)) (C : zCtx p l q s m args meth c) (K : zK base φ D dA cE s) (hI : zI base φ D dA cE q s c0 s0 ls w lsC H locs cells slots) (hd : decode q.2.1 pc = .ok (.bastore, 1))
    (h : (match st with
    | .int x :: .int j :: .ref a :: r => (match zarI w a 2 2 with | some (n, f) => if zin j n = true then znx (pc + 1) ls r (zset w a (.inl (2, n, .inl (upd f j.toNatClampNeg (vp_nar .byte x))))) else none | none => none)
    | _ => none) = some (.inl (pc', ls', st', w'))) (kk : zGo p l e R s m args below meth c Q base φ D dA cE q c0 s0 pc' ls' st' w') : W p l e R s m args below meth c H locs cells slots Q (F0 m pc lsC (st.map (zval φ))) := by
  obtain ⟨hx, hb, -⟩ := C
  split at h
  · rename_i x j a r
    split at h
    · rename_i n f hf
      split at h
      · rename_i hj
        have hj : vp_in j n := by simpa [zin, vp_in] using hj
        obtain ⟨rfl, rfl, rfl, rfl⟩ := znx_inv h
        obtain ⟨t, ht, hw⟩ := zarI_inv hf
        have ht : t = 2 := by omega
        subst ht
        obtain ⟨ha, -, hP⟩ := zHR_arr hI.2.1 (by omega) hw
        refine W.bast hx hb (hP 0 _ rfl) ((K.1.2 2 _ (zTY_at rfl)).1 n (fun j => .int (f j))) (fun q => by cases q) (by show ¬ (j < 0 ∨ (arrV _ _ _).slots.size ≤ _); rw [arrV_size]; exact hj) rfl rfl hd fun H1 e z oq => ?_
        refine kk _ _ _ _ _ (zI_put F hI ha ?_ z oq)
        refine ⟨ha, by omega, e.trans (congrArg some ?_)⟩
        dsimp only
        rw [zvc_i, zvc_i, arrV_store]
        congr 1
        funext k
        by_cases hq : k = j.toNatClampNeg
        · subst hq; simp [updV, upd, vp_nar]; rfl
        · simp [updV, upd, hq]
      · cases h
    · cases h
  · cases h
theorem zs_lastore (F : ∀ k, 40 ≤ k → φ k = base + (k - 40)) (C : zCtx p l q s m args meth c) (K : zK base φ D dA cE s) (hI : zI base φ D dA cE q s c0 s0 ls w lsC H locs cells slots) (hd : decode q.2.1 pc = .ok (.lastore, 1))
    (h : (match st with
    | .long x :: .int j :: .ref a :: r => (match zarL w a with | some (n, f) => if zin j n = true then znx (pc + 1) ls r (zset w a (.inl (1, n, .inr (.inl (vp_updL f j.toNatClampNeg x))))) else none | none => none)
    | _ => none) = some (.inl (pc', ls', st', w'))) (kk : zGo p l e R s m args below meth c Q base φ D dA cE q c0 s0 pc' ls' st' w') : W p l e R s m args below meth c H locs cells slots Q (F0 m pc lsC (st.map (zval φ))) := by
  obtain ⟨hx, hb, -⟩ := C
  split at h
  · rename_i x j a r
    split at h
    · rename_i n f hf
      split at h
      · rename_i hj
        have hj : vp_in j n := by simpa [zin, vp_in] using hj
        obtain ⟨rfl, rfl, rfl, rfl⟩ := znx_inv h
        unfold zarL at hf
        cases hf
      · cases h
    · cases h
  · cases h
theorem zs_aastore (F : ∀ k, 40 ≤ k → φ k = base + (k - 40)) (C : zCtx p l q s m args meth c) (K : zK base φ D dA cE s) (hI : zI base φ D dA cE q s c0 s0 ls w lsC H locs cells slots) (hd : decode q.2.1 pc = .ok (.aastore, 1))
    (h : (match st with
    | .ref x :: .int j :: .ref a :: r => (match zarR w a 3 3, zobj w x 2 with | some (n, f), some _ => if zin j n = true then znx (pc + 1) ls r (zset w a (.inl (3, n, .inr (.inr (.inr (.inr (va_up f j.toNatClampNeg (some x)))))))) else none | _, _ => none)
    | .null :: .int j :: .ref a :: r => (match zarR w a 3 3 with | some (n, f) => if zin j n = true then znx (pc + 1) ls r (zset w a (.inl (3, n, .inr (.inr (.inr (.inr (va_up f j.toNatClampNeg none))))))) else none | _ => none)
    | _ => none) = some (.inl (pc', ls', st', w'))) (kk : zGo p l e R s m args below meth c Q base φ D dA cE q c0 s0 pc' ls' st' w') : W p l e R s m args below meth c H locs cells slots Q (F0 m pc lsC (st.map (zval φ))) := by
  obtain ⟨hx, hb, -⟩ := C
  split at h
  · rename_i x j a r
    split at h
    · rename_i n f fs hf hfs
      split at h
      · rename_i hj
        have hj : vp_in j n := by simpa [zin, vp_in] using hj
        obtain ⟨rfl, rfl, rfl, rfl⟩ := znx_inv h
        obtain ⟨t, ht, hw⟩ := zarR_inv hf
        have ht : t = 3 := by omega
        subst ht
        obtain ⟨ha, -, hP⟩ := zHR_arr hI.2.1 (by omega) hw
        obtain ⟨-, hPx⟩ := zHR_obj hI.2.1 (by omega) (zobj_inv hfs)
        obtain ⟨r', hr', cellV, g1, g2, g3, -⟩ := hPx 0 _ rfl
        have hcls := (K.1.1 2 _ rfl).2
        obtain ⟨kA, comp, k1, k2, k3, -⟩ := (K.1.2 3 _ (zTY_at rfl)).2
        have hcomp : comp = D.1 2 := Option.some.inj (k3.symm.trans hcls.1)
        subst hcomp
        obtain ⟨kC, hkC, -⟩ := id hcls.2
        have hlt : j.toNatClampNeg < n := Nat.not_le.mp fun q => hj (Or.inr q)
        have h0 : ¬ j < 0 := fun q => hj (Or.inl q)
        refine W.aast hx hb (hP 0 _ rfl) (fun q h => by cases h) (fun h => by cases h) k1 k2 rfl hkC ⟨h0, by show _ < (arrV _ _ _).slots.size; rw [arrV_size]; exact hlt⟩ g1 (fun q h => by rw [g3] at h; cases h) (by rw [g2]; exact hkC) (by rw [g2]; exact va_assign hcls) rfl rfl hd fun H1 e z oq => ?_
        refine kk _ _ _ _ _ (zI_put F hI ha ?_ z oq)
        refine ⟨ha, by omega, e.trans (congrArg some ?_)⟩
        dsimp only
        rw [zvc_q, zvc_q, arrV_store]
        congr 1
        funext k
        by_cases hq : k = j.toNatClampNeg
        · subst hq; simp [updV, va_up, va_rf]
        · simp [updV, va_up, hq]
      · cases h
    · cases h
  · rename_i j a r
    split at h
    · rename_i n f hf
      split at h
      · rename_i hj
        have hj : vp_in j n := by simpa [zin, vp_in] using hj
        obtain ⟨rfl, rfl, rfl, rfl⟩ := znx_inv h
        obtain ⟨t, ht, hw⟩ := zarR_inv hf
        have ht : t = 3 := by omega
        subst ht
        obtain ⟨ha, -, hP⟩ := zHR_arr hI.2.1 (by omega) hw
        refine va_WaastN (C := "MasterPins$Plan") hx hb (hP 0 _ rfl) ((K.1.2 3 _ (zTY_at rfl)).1 n (fun j => va_rf ((f j).map φ))) (fun h => by cases h) (by show ¬ (j < 0 ∨ (arrV _ _ _).slots.size ≤ _); rw [arrV_size]; exact hj) rfl rfl hd fun H1 e z oq => ?_
        refine kk _ _ _ _ _ (zI_put F hI ha ?_ z oq)
        refine ⟨ha, by omega, e.trans (congrArg some ?_)⟩
        dsimp only
        rw [zvc_q, zvc_q, arrV_store]
        congr 1
        funext k
        by_cases hq : k = j.toNatClampNeg
        · subst hq; simp [updV, va_up, va_rf]
        · simp [updV, va_up, hq]
      · cases h
    · cases h
  · cases h
theorem zcl_get {ci : Nat} {r : vw_C} (h : vwCl[ci]? = some r) : ci < 7 ∧ vwCl[ci]?.getD ("", fun _ => ("", "", "", false), 0) = r := by
  refine ⟨Nat.lt_of_lt_of_le (List.getElem?_eq_some_iff.mp h).1 (show vwCl.length ≤ 7 by decide), ?_⟩
  rw [h]; rfl
theorem zs_putfield {i k : Nat} (F : ∀ k, 40 ≤ k → φ k = base + (k - 40)) (C : zCtx p l q s m args meth c) (K : zK base φ D dA cE s) (hq : zq i = some q) (hI : zI base φ D dA cE q s c0 s0 ls w lsC H locs cells slots) (hd : decode q.2.1 pc = .ok (.putfield k, 3))
    (h : (match zFT.lookup (q.2.2.2.2.2.1, k), st with
    | some (ci, f, _), v :: .ref a :: r => (match zobj w a ci with
      | some fs => if ci < 7 ∧ zfits ci f v = true ∧ (zfinal ci f = false ∨ (q.1.name = "<init>" ∧ ci = q.2.2.2.2.2.2.2.2.2)) ∧ f < fs.length then znx (pc + 3) ls r (zset w a (.inr (ci, fs.set f v))) else none
      | none => none)
    | _, _ => none) = some (.inl (pc', ls', st', w'))) (kk : zGo p l e R s m args below meth c Q base φ D dA cE q c0 s0 pc' ls' st' w') : W p l e R s m args below meth c H locs cells slots Q (F0 m pc lsC (st.map (zval φ))) := by
  obtain ⟨hx, hb, hr, hml, hown, hts, hlk, hnm, hnw, -⟩ := C
  split at h
  · rename_i ci f n v a r hF
    split at h
    · rename_i fs hfs
      split at h
      · rename_i hcond
        obtain ⟨hci, hfit, hfin, hlen⟩ := hcond
        obtain ⟨rfl, rfl, rfl, rfl⟩ := znx_inv h
        obtain ⟨r0, own, h1, h2, h3, h4, h5⟩ := zF_heap hF hci
        have := zown hq h2
        subst this
        obtain ⟨ha, hP⟩ := zHR_obj hI.2.1 hci (zobj_inv hfs)
        have hmem := List.mem_of_getElem? h1
        have hin := zCl_ws r0 hmem
        have hgd := (zcl_get h1).2
        obtain ⟨fk1, fk2⟩ := zFK_ok ci hci f (by rw [hgd]; exact h3)
        rw [hgd] at fk1 fk2
        have hnar : narrow (zty r0 f) (zval φ v) = zval φ v ∧ fits (zty r0 f) (zval φ v) = true := by
          unfold zfits at hfit
          rw [fk1] at hfit
          by_cases ht : zty r0 f = .int
          · rw [decide_eq_true ht] at hfit
            rw [ht]
            cases v <;> simp at hfit
            exact ⟨rfl, rfl⟩
          · rw [decide_eq_false ht] at hfit
            rcases fk2 with e | e
            · exact absurd e ht
            · cases hz : zty r0 f <;> rw [hz] at e <;> simp [zisref] at e <;> (cases v <;> simp at hfit <;> exact ⟨rfl, rfl⟩)
        have hty := zCl_ty r0 hmem
        have hap := va_apart (own := r0.1) (T := r0.2.1) hts hin (zty r0) hty (zCl_nm r0 hmem) K.1 h1
        obtain ⟨r1, e1, cell, q1, q2, q3, q4⟩ := hP 0 _ rfl
        have hr1 : r1 = r0 := Option.some.inj (e1.symm.trans h1)
        subst hr1
        obtain ⟨hS, hfc, kC, hkC, hkind⟩ := K.1.1 ci _ h1
        obtain ⟨cf, kf, fi, fd, hi, hsl⟩ := hS f h3
        have hlay := hts _ (hin _ (u_in_lay h3))
        have hst := (u_facts hfc hkC (u_lays hts hin h3) hi).1
        have hi' : s.fieldFound? r1.1 (r1.2.1 f).2.1 (r1.2.1 f).2.2.1 = some (cf, kf, fi, fd) := by rw [← h4]; exact hi
        have hlen' : f < (fs.map (zval φ)).length := by rw [List.length_map]; exact hlen
        have fin : ∀ (H1 : Heap) (j : Nat), H1[φ a]? = some (cell.setSlot fd.slot (zval φ v)) → H1.size = H.size → (∀ q, q ≠ φ a → H1[q]? = H[q]?) → W p l e R s m args below meth c H1 (locs ++ [⟨φ a, j⟩]) cells slots Q (F0 m (pc + 3) lsC (r.map (zval φ))) := by
          intro H1 j e1 e2 e3
          rw [hsl] at e1
          refine kk _ _ _ _ _ (zI_put F hI ha ?_ e2 e3)
          unfold zcell
          simp only [if_pos hci]
          refine ⟨ha, r1, h1, ?_⟩
          rw [List.map_set]
          exact t_OB.to (V := updV (vp_V (fs.map (zval φ))) f (zval φ v)) ⟨_, e1, q2, q3, t_set q4 hap h3 _⟩ (fun j _ => vp_updV_set hlen' _ j)
        by_cases hfn : (r1.2.1 f).2.2.2 = true
        · obtain ⟨hini, hciq⟩ : q.1.name = "<init>" ∧ ci = q.2.2.2.2.2.2.2.2.2 := by
            rcases hfin with e | e
            · unfold zfinal at e
              rw [fk1] at e
              simp only at e
              rw [hfn] at e; cases e
            · exact e
          have hdecl : r1.1 = q.1.cls := by
            have z := List.all_eq_true.mp zMT_ci q (List.mem_of_getElem? hq)
            rw [← hciq, h1] at z
            simpa using z
          unfold u_lay at hlay
          rw [if_pos hfn] at hlay
          have h6 := u_fits hfc hkC hkind (Or.inr hlay) hi (hty f h3) hnar.1 hnar.2
          have hcf : m.cls = cf := by
            obtain ⟨_, _, c', _, _, _, -, -, hf', -, -, -, hown2, -⟩ := Cond.laysFinal_spec hlay
            have e1 : c' = cf := by have := hi.symm.trans hf'; simp at this; exact this.1.symm
            rw [h4, hdecl] at hown2
            rw [← e1]; exact Option.some.inj (hown.symm.trans hown2)
          refine W.putFinK hx hb hown (hts _ h5) hi' hst hcf (hnm hini) (by rw [q2]; exact h6) q1 q3 (by rw [hsl]; exact k2_hasslot (q4 f h3)) rfl rfl hd fun H' e1 e2 e3 => ?_
          exact fin H' _ e1 e2 e3
        · have hfn : (r1.2.1 f).2.2.2 = false := by simpa using hfn
          unfold u_lay at hlay
          rw [if_neg (by rw [hfn]; decide)] at hlay
          have h6 := u_store hfc hkC hkind hlay hi (hty f h3) hnar.1 hnar.2
          refine W.putK hx hb (f := fd) ⟨hown, hts _ h5, ⟨_, _, _, hi'⟩, hst⟩ (by rw [q2]; exact h6) q1 q3 (by rw [hsl]; exact k2_hasslot (q4 f h3)) rfl rfl hd fun H' e1 e2 e3 => ?_
          exact fin H' _ e1 e2 e3
      · cases h
    · cases h
  · cases h
end ZWrite
