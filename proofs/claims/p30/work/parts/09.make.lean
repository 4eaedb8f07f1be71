/-! SOUNDNESS of what makes a cell; Object's constructor; copies -/
def zokN (x : (Nat × Nat) × (Nat × Nat)) : Bool := match lw_tbl[x.2.2]?, vwCl[x.2.1]? with
  | some (.classLink own idx C), some (C', _, N) => zON[x.1.1]? == some own && idx == x.1.2 && C == C' && decide (Cond.instantiable C N ∈ GT) && decide (Cond.initialized C ∈ GT)
  | _, _ => false
theorem zNT_ok : zNT.all zokN = true := by decide +kernel
def zokA (x : (Nat × Nat) × (Nat × Nat)) : Bool := match lw_tbl[x.2.2]? with
  | some (.classLink own idx C) => zON[x.1.1]? == some own && idx == x.1.2 && C == "MasterPins$Plan"
  | _ => false
theorem zAT_ok : zAT.all zokA = true := by decide +kernel
theorem zGT_arr : Cond.arrayClass .int ∈ GT ∧ Cond.arrayClass .byte ∈ GT := by decide +kernel
theorem zGT_obj : Cond.instanceMethod Lib.objectInit ∈ GT ∧ Cond.code Lib.objectInit ⟨#[0xb1]⟩ 1 none ∈ GT := by decide +kernel
theorem zGT_copy : Cond.native arraycopyName ∈ GT ∧ Cond.static arraycopyName ∈ GT ∧ Cond.initialized "java/lang/System" ∈ GT := by decide +kernel
/-- calls: kind 10 Object's constructor, 11 arraycopy, 12 checkIndex, 3 ordinal -/
def zokP (x : (Nat × Nat) × (Nat × Nat × Nat × Nat)) : Bool := match lw_tbl[x.2.2.2.2]? with
  | some (.methodLink own idx y) => zON[x.1.1]? == some own && idx == x.1.2 && (if x.2.1 = 10 then decide (y = Lib.objectInit) else if x.2.1 = 11 then decide (y = arraycopyName) else if x.2.1 = 3 then decide (y = ⟨"MasterPins$Word", "ordinal", "()I"⟩) else if x.2.1 = 13 then decide (y = Lib.Math.max.name) else if x.2.1 = 14 then decide (y = Lib.Math.abs.name) else true)
  | _ => false
theorem zCT_okP : zCT.all zokP = true := by decide +kernel
theorem zCT_at {oc k kd j n v : Nat} (h : zCT.lookup (oc, k) = some (kd, j, n, v)) : ∃ (own : String) (y : MethodName), zON[oc]? = some own ∧ Cond.methodLink own k y ∈ GT ∧ lw_tbl[v]? = some (.methodLink own k y) ∧ (kd = 10 → y = Lib.objectInit) ∧ (kd = 11 → y = arraycopyName) ∧ (kd = 3 → y = ⟨"MasterPins$Word", "ordinal", "()I"⟩) ∧ (kd = 13 → y = Lib.Math.max.name) ∧ (kd = 14 → y = Lib.Math.abs.name) := by
  have h1 := List.all_eq_true.mp zCT_okP _ (z_lookup h)
  unfold zokP at h1
  split at h1
  · rename_i own idx y hw
    simp only [Bool.and_eq_true, beq_iff_eq] at h1
    obtain ⟨⟨e1, e2⟩, e3⟩ := h1
    have hg := GT_of hw rfl
    rw [show idx = k from e2] at hg
    refine ⟨own, y, e1, hg, by rw [hw, show idx = k from e2], fun e => ?_, fun e => ?_, fun e => ?_, fun e => ?_, fun e => ?_⟩ <;> (subst e; simpa using e3)
  · cases h1
section ZMake
variable {p : Program} {l : Launch} {e : Env} {R : Room} {s : State} {m : MethodId} {args : Array Value} {below : List Frame} {meth : Method} {c : Code} {H : Heap} {locs : List Loc} {cells slots : Nat} {Q : State → Prop}
variable {base : Nat} {φ : Nat → Nat} {D : va_G} {dA : Nat → ClassId} {cE : Nat → Option zE} {q : zM} {c0 s0 : Nat} {ls ls' : zL} {w w' : zW} {lsC : Array Slot} {pc pc' : Nat} {st st' : List Value}
theorem zs_newarray (F : ∀ k, 40 ≤ k → φ k = base + (k - 40)) (C : zCtx p l q s m args meth c) (K : zK base φ D dA cE s) (hI : zI base φ D dA cE q s c0 s0 ls w lsC H locs cells slots) {ty : ArrayType} (hd : decode q.2.1 pc = .ok (.newarray ty, 2))
    (h : (match st, zaty ty with
    | .int n :: r, some (t, _, x) => if ¬ n < 0 ∧ n.toNatClampNeg ≤ 100000 ∧ w.1.2.2 = false then znx (pc + 2) ls (.ref (40 + w.1.1) :: r) (znew w n.toNatClampNeg (.inl (t, n.toNatClampNeg, x))) else none
    | _, _ => none) = some (.inl (pc', ls', st', w'))) (hcap : w'.1.1 ≤ c0 + R.cells ∧ w'.1.2.1 ≤ s0 + R.slots) (kk : zGo p l e R s m args below meth c Q base φ D dA cE q c0 s0 pc' ls' st' w') : W p l e R s m args below meth c H locs cells slots Q (F0 m pc lsC (st.map (zval φ))) := by
  obtain ⟨hx, hb, hr, hml, hown, hts, -⟩ := C
  split at h
  · rename_i n r t n' x hty
    split at h
    · rename_i hc
      obtain ⟨hn, hn2, hfr⟩ := hc
      obtain ⟨rfl, rfl, rfl, rfl⟩ := znx_inv h
      obtain ⟨hcap1, hcap2⟩ := hcap
      have hc1 : cells + 1 ≤ R.cells := by have := hI.2.2.2.1; have : (znew w n.toNatClampNeg (.inl (t, n.toNatClampNeg, x))).1.1 = w.1.1 + 1 := rfl; omega
      have hs1 : slots + n.toNatClampNeg ≤ R.slots := by have := hI.2.2.2.2; have : (znew w n.toNatClampNeg (.inl (t, n.toNatClampNeg, x))).1.2.1 = w.1.2.1 + n.toNatClampNeg := rfl; omega
      have hsz := hI.2.1.2.1 hfr
      have hφ : φ (40 + w.1.1) = H.size := by rw [F _ (by omega), hsz]; omega
      have main : ∀ (ty0 : ArrayType) (t0 : Nat) (x0 : (Nat → Int32) ⊕ (Nat → Int64) ⊕ (Nat → UInt32) ⊕ (Nat → UInt64) ⊕ (Nat → Option Nat)), ty = ty0 → t = t0 → x = x0 → zTY[t0]? = some (newarray.typeOf ty0) → Cond.arrayClass (newarray.typeOf ty0) ∈ GT → t0 < 4 → n.toNatClampNeg * componentBytes (newarray.typeOf ty0) ≤ 536870912 →
          (va_RA s (dA t0) (newarray.typeOf ty0) → s.vm.findClass ("[" ++ (newarray.typeOf ty0).toString) = some (dA t0)) → (∀ cA, arrV cA n.toNatClampNeg (fun _ => defaultValue (newarray.typeOf ty0)) = vp_cell cA (zarr φ (n.toNatClampNeg, x0))) → W p l e R s m args below meth c H locs cells slots Q (F0 m pc lsC ((Value.int n :: r).map (zval φ))) := by
        intro ty0 t0 x0 e1 e2 e3 hz hg ht hby hra hcell
        subst e1; subst e2; subst e3
        refine va_newaK hx hb (hts _ hg) rfl hd (N := n.toNatClampNeg) rfl hn rfl hby hc1 hs1 rfl fun H1 cA a1 a2 a3 a4 a5 => ?_
        have hcA : cA = dA t := Option.some.inj (a5.symm.trans (hra (K.1.2 t _ (zTY_at hz)).2))
        subst hcA
        have kk2 := kk _ _ _ _ _ (zI_new (n := n.toNatClampNeg) (x := .inl (t, n.toNatClampNeg, x)) hI hfr (by
          unfold zcell
          simp only [if_pos (show t < 8 by omega)]
          refine ⟨by omega, ht, ?_⟩
          rw [hφ, a1, hcell]) a2 a3)
        rw [List.map_cons, zval_ref, hφ] at kk2
        exact kk2
      cases ty <;> simp [zaty] at hty
      · obtain ⟨rfl, rfl, rfl⟩ := hty
        exact main .byte 2 _ rfl rfl rfl rfl zGT_arr.2 (by omega) (by show _ * 1 ≤ _; omega) (fun h => h) (fun cA => rfl)
      · obtain ⟨rfl, rfl, rfl⟩ := hty
        exact main .int 0 _ rfl rfl rfl rfl zGT_arr.1 (by omega) (by show _ * 4 ≤ _; omega) (fun h => h) (fun cA => rfl)
    · cases h
  · cases h
theorem zs_anewarray (F : ∀ k, 40 ≤ k → φ k = base + (k - 40)) (C : zCtx p l q s m args meth c) (K : zK base φ D dA cE s) {i : Nat} (hq : zq i = some q) (hI : zI base φ D dA cE q s c0 s0 ls w lsC H locs cells slots) {k : Nat} (hd : decode q.2.1 pc = .ok (.anewarray k, 3))
    (h : (match st, zAT.lookup (q.2.2.2.2.2.1, k) with
    | .int n :: r, some _ => if ¬ n < 0 ∧ n.toNatClampNeg ≤ 100000 ∧ w.1.2.2 = false then znx (pc + 3) ls (.ref (40 + w.1.1) :: r) (znew w n.toNatClampNeg (.inl (3, n.toNatClampNeg, .inr (.inr (.inr (.inr fun _ => none)))))) else none
    | _, _ => none) = some (.inl (pc', ls', st', w'))) (hcap : w'.1.1 ≤ c0 + R.cells ∧ w'.1.2.1 ≤ s0 + R.slots) (kk : zGo p l e R s m args below meth c Q base φ D dA cE q c0 s0 pc' ls' st' w') : W p l e R s m args below meth c H locs cells slots Q (F0 m pc lsC (st.map (zval φ))) := by
  obtain ⟨hx, hb, hr, hml, hown, hts, -⟩ := C
  split at h
  · rename_i n r y hA
    split at h
    · rename_i hc
      obtain ⟨hn, hn2, hfr⟩ := hc
      obtain ⟨rfl, rfl, rfl, rfl⟩ := znx_inv h
      obtain ⟨hcap1, hcap2⟩ := hcap
      have hc1 : cells + 1 ≤ R.cells := by have := hI.2.2.2.1; have : (znew w n.toNatClampNeg (.inl (3, n.toNatClampNeg, .inr (.inr (.inr (.inr fun _ => none)))))).1.1 = w.1.1 + 1 := rfl; omega
      have hs1 : slots + n.toNatClampNeg ≤ R.slots := by have := hI.2.2.2.2; have : (znew w n.toNatClampNeg (.inl (3, n.toNatClampNeg, .inr (.inr (.inr (.inr fun _ => none)))))).1.2.1 = w.1.2.1 + n.toNatClampNeg := rfl; omega
      have hsz := hI.2.1.2.1 hfr
      have hφ : φ (40 + w.1.1) = H.size := by rw [F _ (by omega), hsz]; omega
      have h1 := List.all_eq_true.mp zAT_ok _ (z_lookup hA)
      unfold zokA at h1
      split at h1
      · rename_i own idx C0 hw
        simp only [Bool.and_eq_true, beq_iff_eq] at h1
        obtain ⟨⟨e1, e2⟩, e3⟩ := h1
        have := zown hq e1
        subst this
        have hg := GT_of hw rfl
        rw [show idx = k from e2, e3] at hg
        refine W.anew hx hb hown (hts _ hg) (va_AO.use K.2.1) rfl hd rfl hn (by omega) hc1 hs1 fun cA kA comp f1 f2 f3 f4 => ?_
        obtain ⟨kA2, comp2, k1, k2, k3, k4⟩ := (K.1.2 3 _ (zTY_at (ty := .object "MasterPins$Plan") rfl)).2
        have hcA : cA = dA 3 := Option.some.inj (f1.symm.trans k4)
        subst hcA
        have kk2 := kk lsC (H.push { cls := dA 3, slots := Array.replicate n.toNatClampNeg .null, vm := .none }) locs (cells + 1) (slots + n.toNatClampNeg) (zI_new (n := n.toNatClampNeg) hI hfr (by
          unfold zcell
          simp only [if_pos (show 3 < 8 by omega)]
          refine ⟨by omega, by omega, ?_⟩
          rw [hφ, Array.getElem?_push_size]
          show some _ = some (arrV (dA 3) n.toNatClampNeg (fun _ => .null))
          rw [← arrV_new]) (by rw [Array.size_push]) (fun x hx => by rw [Array.getElem?_push, if_neg (Nat.ne_of_lt hx)]))
        rw [List.map_cons, zval_ref, hφ] at kk2
        exact kk2
      · cases h1
    · cases h
  · cases h
theorem zdef_at {ci : Nat} {r : vw_C} (h : vwCl[ci]? = some r) : (zdef ci).length = r.2.2 ∧ ∀ j, j < r.2.2 → defaultValue (zty r j) = vp_V ((zdef ci).map (zval φ)) j := by
  obtain ⟨hci, hgd⟩ := zcl_get h
  have hlen := zFK_len ci hci
  rw [hgd] at hlen
  have h1 := fun j hj => zFK_ok ci hci j (by rw [hgd]; exact hj)
  rw [hgd] at h1
  refine ⟨by unfold zdef; rw [List.length_map]; exact hlen, fun j hj => ?_⟩
  obtain ⟨a, b⟩ := h1 j hj
  unfold vp_V zdef
  rw [List.getD_eq_getElem?_getD, List.getElem?_map, List.getElem?_map, a]
  by_cases ht : zty r j = .int
  · simp [ht, zval]; rfl
  · rcases b with b | b
    · exact absurd b ht
    · cases hz : zty r j <;> rw [hz] at b <;> simp [zisref] at b <;> simp [zval, defaultValue]
theorem zs_new (F : ∀ k, 40 ≤ k → φ k = base + (k - 40)) (C : zCtx p l q s m args meth c) (K : zK base φ D dA cE s) {i : Nat} (hq : zq i = some q) (hI : zI base φ D dA cE q s c0 s0 ls w lsC H locs cells slots) {k : Nat} (hd : decode q.2.1 pc = .ok (.new k, 3))
    (h : (match zNT.lookup (q.2.2.2.2.2.1, k) with
      | some (ci, _) => if w.1.2.2 = false then znx (pc + 3) ls (.ref (40 + w.1.1) :: st) (znew w (zdef ci).length (.inr (ci, zdef ci))) else none
      | none => none) = some (.inl (pc', ls', st', w'))) (hcap : w'.1.1 ≤ c0 + R.cells ∧ w'.1.2.1 ≤ s0 + R.slots) (kk : zGo p l e R s m args below meth c Q base φ D dA cE q c0 s0 pc' ls' st' w') : W p l e R s m args below meth c H locs cells slots Q (F0 m pc lsC (st.map (zval φ))) := by
  obtain ⟨hx, hb, hr, hml, hown, hts, -⟩ := C
  split at h
  · rename_i ci n hN
    split at h
    · rename_i hfr
      obtain ⟨rfl, rfl, rfl, rfl⟩ := znx_inv h
      obtain ⟨hcap1, hcap2⟩ := hcap
      have hc1 : cells + 1 ≤ R.cells := by have := hI.2.2.2.1; have : (znew w (zdef ci).length (.inr (ci, zdef ci))).1.1 = w.1.1 + 1 := rfl; omega
      have hs1 : slots + (zdef ci).length ≤ R.slots := by have := hI.2.2.2.2; have : (znew w (zdef ci).length (.inr (ci, zdef ci))).1.2.1 = w.1.2.1 + (zdef ci).length := rfl; omega
      have hsz := hI.2.1.2.1 hfr
      have hφ : φ (40 + w.1.1) = H.size := by rw [F _ (by omega), hsz]; omega
      have h1 := List.all_eq_true.mp zNT_ok _ (z_lookup hN)
      unfold zokN at h1
      split at h1
      · rename_i own idx C0 C1 T1 N1 hw hcl
        simp only [Bool.and_eq_true, beq_iff_eq, decide_eq_true_eq] at h1
        obtain ⟨⟨⟨⟨e1, e2⟩, e3⟩, e4⟩, e5⟩ := h1
        have := zown hq e1
        subst this
        have hg := GT_of hw rfl
        rw [show idx = k from e2] at hg
        have hci := (zcl_get hcl).1
        obtain ⟨hl, hdf⟩ := zdef_at (φ := φ) hcl
        have hKn := K.1.1 ci _ hcl
        subst e3
        have hmem := List.mem_of_getElem? hcl
        have hs2 : slots + N1 ≤ R.slots := by rw [← (show (zdef ci).length = N1 from hl)]; exact hs1
        refine W.newcK hx hb hown (hts _ hg) (hts _ e4) (hts _ e5) rfl hd hc1 hs2 hKn.2.1 rfl fun H1 kC hkC a1 z1 o1 => ?_
        have kk2 := kk _ _ _ _ _ (zI_new (n := (zdef ci).length) (x := .inr (ci, zdef ci)) hI hfr (by
          unfold zcell
          simp only [if_pos hci]
          refine ⟨by omega, _, hcl, ?_⟩
          rw [hφ]
          exact (u_born (zty (C0, T1, N1)) hts (zCl_ws _ hmem) hKn hkC a1 (zCl_ty _ hmem)).to hdf) z1 o1)
        rw [List.map_cons, zval_ref, hφ, show (zdef ci).length = N1 from hl] at kk2
        exact kk2
      · cases h1
    · cases h
  · cases h
theorem zcats_map (st : List Value) : ((st.map (zval φ)).map fun v => v.category).sum = zcats st := by
  unfold zcats
  rw [List.map_map]
  congr 1
  exact List.map_congr_left fun v _ => zval_cat φ v
theorem zs_objI (C : zCtx p l q s m args meth c) {i : Nat} (hq : zq i = some q) (hI : zI base φ D dA cE q s c0 s0 ls w lsC H locs cells slots) {k j n v : Nat} (hl : zCT.lookup (q.2.2.2.2.2.1, k) = some (10, j, n, v)) (hd : decode q.2.1 pc = .ok (.invokespecial k, 3))
    (hR : zfr q ≤ R.frames ∧ zlo q ≤ R.locals) (h : zobjI q pc ls st w = some (.inl (pc', ls', st', w'))) (kk : zGo p l e R s m args below meth c Q base φ D dA cE q c0 s0 pc' ls' st' w') : W p l e R s m args below meth c H locs cells slots Q (F0 m pc lsC (st.map (zval φ))) := by
  obtain ⟨hx, hb, hr, hml, hown, hts, -⟩ := C
  unfold zobjI at h
  split at h
  · rename_i a r
    split at h
    · rename_i hc
      obtain ⟨rfl, rfl, rfl, rfl⟩ := znx_inv h
      obtain ⟨own, y, h1, h2, -, h3, -⟩ := zCT_at hl
      have := zown hq h1
      subst this
      have := h3 rfl
      subst this
      refine W.objInit hx hb hown (hts _ h2) (hts _ zGT_obj.1) (hts _ zGT_obj.2) rfl (by rw [hml]; exact hI.1.2.1) rfl hd (by omega) ?_ ?_
      · show 2 * 0 + ((r.map (zval φ)).map fun v => v.category).sum + 12 ≤ R.locals
        rw [zcats_map]; omega
      · exact W.eq (g2 := F0 m (pc + 3) lsC (r.map (zval φ))) rfl (kk _ _ _ _ _ hI)
    · cases h
  · cases h
theorem zs_copy (F : ∀ k, 40 ≤ k → φ k = base + (k - 40)) (C : zCtx p l q s m args meth c) (K : zK base φ D dA cE s) {i : Nat} (hq : zq i = some q) (hI : zI base φ D dA cE q s c0 s0 ls w lsC H locs cells slots) {k j n0 v : Nat} (hl : zCT.lookup (q.2.2.2.2.2.1, k) = some (11, j, n0, v)) (hd : decode q.2.1 pc = .ok (.invokestatic k, 3))
    (hR : zfr q ≤ R.frames ∧ zlo q ≤ R.locals) (h : zcopy q pc ls st w = some (.inl (pc', ls', st', w'))) (kk : zGo p l e R s m args below meth c Q base φ D dA cE q c0 s0 pc' ls' st' w') : W p l e R s m args below meth c H locs cells slots Q (F0 m pc lsC (st.map (zval φ))) := by
  obtain ⟨hx, hb, hr, hml, hown, hts, -⟩ := C
  unfold zcopy at h
  split at h
  · rename_i n dp d sp s1 r
    split at h
    · rename_i n0' f n1 g hf hg
      split at h
      · rename_i hc
        obtain ⟨-, h1, h2, h3, h4, h5, h6, h7, h8⟩ := hc
        obtain ⟨rfl, rfl, rfl, rfl⟩ := znx_inv h
        obtain ⟨own, y, g1, g2, -, -, g3, -⟩ := zCT_at hl
        have := zown hq g1
        subst this
        have := g3 rfl
        subst this
        obtain ⟨t, ht, hw⟩ := zarI_inv hf
        have ht : t = 0 := by omega
        subst ht
        obtain ⟨t, ht, hw1⟩ := zarI_inv hg
        have ht : t = 0 := by omega
        subst ht
        obtain ⟨-, -, hP0⟩ := zHR_arr hI.2.1 (by omega) hw
        obtain ⟨ha, -, hP1⟩ := zHR_arr hI.2.1 (by omega) hw1
        have nn : ∀ z : Int32, ¬ z < 0 → z.toInt = (z.toNatClampNeg : Int) := by
          intro z hz
          have hz0 : (0 : Int) ≤ z.toInt := by
            have := Int32.not_lt.mp hz
            simpa using Int32.le_iff_toInt_le.mp this
          show z.toInt = ((z.toInt.toNat : Nat) : Int)
          omega
        intro T hT X
        have hc0 : H[φ s1]? = some (vp_cell (dA 0) (n0', .inl f)) := hP0 0 _ rfl
        have hc1 : H[φ d]? = some (vp_cell (dA 0) (n1, .inl g)) := hP1 0 _ rfl
        obtain ⟨-, k0, hk0, cm0, hkk0⟩ := (K.1.2 0 _ (zTY_at (ty := .int) rfl)).1 n0' (fun j => .int (f j))
        obtain ⟨-, k1, hk1, cm1, hkk1⟩ := (K.1.2 0 _ (zTY_at (ty := .int) rfl)).1 n1 (fun j => .int (g j))
        obtain ⟨vm', X', step⟩ := X.arraycopy hx hown (hts _ g2) (hts _ zGT_copy.1) (hts _ zGT_copy.2.1) (hts _ zGT_copy.2.2) (src := φ s1) (dst := φ d) (cs := vp_cell (dA 0) (n0', .inl f)) (cd := vp_cell (dA 0) (n1, .inl g)) (srcPos := sp) (destPos := dp) (n := n) (by rw [hT]; exact hc0) (by rw [hT]; exact hc1)
          (fun _ h => by cases h) (fun _ h => by cases h) (fun h => by cases h) (fun h => by cases h) hk0 hk1 hkk0 hkk1 (by simp [refKind]) h1 h2 h3
          (by rw [nn sp h1, nn n h3]; show ¬ _ > ((arrV (dA 0) n0' (fun j => .int (f j))).slots.size : Int); rw [arrV_size]; omega)
          (by rw [nn dp h2, nn n h3]; show ¬ _ > ((arrV (dA 0) n1 (fun j => .int (g j))).slots.size : Int); rw [arrV_size]; omega)
          (fun vm₁ _ i hi => by
            have e : (vp_cell (dA 0) (n0', .inl f)).slots.getD (sp.toNatClampNeg + i) .null = .int (f (sp.toNatClampNeg + i)) := by
              show (arrV (dA 0) n0' (fun j => .int (f j))).slots.getD _ _ = _
              rw [Array.getD_eq_getD_getElem?, arrV_read _ _ (by omega)]
              rfl
            refine ⟨?_, ?_⟩
            · rw [e]
              rfl
            · rw [e]
              exact trivial)
          (g := F0 m pc lsC (.int n :: .int dp :: .ref (φ d) :: .int sp :: .ref (φ s1) :: r.map (zval φ))) rfl (by rw [hml]; exact hI.1.2.1) (rest := r.map (zval φ)) rfl (by rw [hb]; exact hd) (by omega) (by show 2 * 0 + _ + _ ≤ _; rw [zcats_map]; show 2 * 0 + zcats r + (7 + 11) ≤ _; omega)
        have e1 : copied (vp_cell (dA 0) (n0', .inl f)) (vp_cell (dA 0) (n1, .inl g)) sp dp n = vp_cell (dA 0) (n1, .inl (va_cpy f g sp.toNatClampNeg dp.toNatClampNeg n.toNatClampNeg)) := va_copied (fun z => .int z) (dA 0) (dA 0) f g h4
        rw [e1] at X' step
        have hlt : φ d < H.size := (Array.getElem?_eq_some_iff.mp hc1).1
        have hheap : ((T.setVm vm').setCell (φ d) (vp_cell (dA 0) (n1, .inl (va_cpy f g sp.toNatClampNeg dp.toNatClampNeg n.toNatClampNeg)))).heap = H.setIfInBounds (φ d) (vp_cell (dA 0) (n1, .inl (va_cpy f g sp.toNatClampNeg dp.toNatClampNeg n.toNatClampNeg))) := by rw [← hT]; rfl
        have oq : ∀ q : Nat, q ≠ φ d → (H.setIfInBounds (φ d) (vp_cell (dA 0) (n1, .inl (va_cpy f g sp.toNatClampNeg dp.toNatClampNeg n.toNatClampNeg))))[q]? = H[q]? := fun q hq => by simp [Array.getElem?_setIfInBounds, Ne.symm hq]
        have hself : (H.setIfInBounds (φ d) (vp_cell (dA 0) (n1, .inl (va_cpy f g sp.toNatClampNeg dp.toNatClampNeg n.toNatClampNeg))))[φ d]? = some (vp_cell (dA 0) (n1, .inl (va_cpy f g sp.toNatClampNeg dp.toNatClampNeg n.toNatClampNeg))) := by simp [Array.getElem?_setIfInBounds, hlt]
        have hI2 : ∀ L : List Loc, (∀ z ∈ L, z.base = φ d) → zI base φ D dA cE q s c0 s0 ls (zset w d (.inl (0, n1, .inl (va_cpy f g sp.toNatClampNeg dp.toNatClampNeg n.toNatClampNeg)))) lsC (H.setIfInBounds (φ d) (vp_cell (dA 0) (n1, .inl (va_cpy f g sp.toNatClampNeg dp.toNatClampNeg n.toNatClampNeg)))) (locs ++ L) cells slots := by
          intro L hL
          refine ⟨hI.1, zHR_set F hI.2.1 ha ⟨ha, by omega, hself⟩ (by simp) oq, ⟨by simp; exact hI.2.2.1.1, fun q g1 g2 => ?_, fun q hq => ?_⟩, hI.2.2.2.1, hI.2.2.2.2⟩
          · rw [oq q (fun e => g2 (by show base ≤ q; rw [e, F d ha]; omega))]
            exact hI.2.2.1.2.1 q g1 g2
          · rcases List.mem_append.mp hq with h | h
            · exact hI.2.2.1.2.2 q h
            · show base ≤ q.base
              rw [hL q h, F d ha]; omega
        obtain ⟨t, a1, b1⟩ := kk _ _ _ _ _ (hI2 _ (fun z hz => by
          obtain ⟨y, -, hy⟩ := List.mem_map.mp hz
          rw [← hy])) _ hheap X'
        exact ⟨t, step t a1, b1⟩
      · cases h
    · cases h
  · cases h
theorem zGT_math : Cond.static Lib.Math.max.name ∈ GT ∧ Cond.static Lib.Math.abs.name ∈ GT ∧ Cond.initialized "java/lang/Math" ∈ GT ∧ Cond.code Lib.Math.max.name Lib.Math.max.code 2 (some .int) ∈ GT ∧ Cond.code Lib.Math.abs.name Lib.Math.abs.code 1 (some .int) ∈ GT := by decide +kernel
theorem zs_max (C : zCtx p l q s m args meth c) {i : Nat} (hq : zq i = some q) (hI : zI base φ D dA cE q s c0 s0 ls w lsC H locs cells slots) {k j n v : Nat} (hl : zCT.lookup (q.2.2.2.2.2.1, k) = some (13, j, n, v)) (hd : decode q.2.1 pc = .ok (.invokestatic k, 3))
    (hR : zfr q ≤ R.frames ∧ zlo q ≤ R.locals) (hcap : w.1.1 ≤ c0 + R.cells ∧ w.1.2.1 ≤ s0 + R.slots) (h : zmax q pc ls st w = some (.inl (pc', ls', st', w'))) (kk : zGo p l e R s m args below meth c Q base φ D dA cE q c0 s0 pc' ls' st' w') : W p l e R s m args below meth c H locs cells slots Q (F0 m pc lsC (st.map (zval φ))) := by
  obtain ⟨hx, hb, hr, hml, hown, hts, -⟩ := C
  unfold zmax at h
  split at h
  · rename_i y x r
    split at h
    · rename_i hc
      obtain ⟨rfl, rfl, rfl, rfl⟩ := znx_inv h
      obtain ⟨own, y, h1, h2, -, -, -, -, h3, -⟩ := zCT_at hl
      have := zown hq h1
      subst this
      have := h3 rfl
      subst this
      obtain ⟨m1, m2, m3, m4, m5⟩ := zGT_math
      exact va_mmax hx hb (by rw [hml]; exact hI.1.2.1.symm) hown (hts _ h2) (hts _ m1) (hts _ m3) (hts _ m4) (by omega) (by rw [zcats_map]; omega) (by have := hI.2.2.2.1; omega) (by have := hI.2.2.2.2; omega) hd (kk _ _ _ _ _ hI)
    · cases h
  · cases h
theorem zs_abs (C : zCtx p l q s m args meth c) {i : Nat} (hq : zq i = some q) (hI : zI base φ D dA cE q s c0 s0 ls w lsC H locs cells slots) {k j n v : Nat} (hl : zCT.lookup (q.2.2.2.2.2.1, k) = some (14, j, n, v)) (hd : decode q.2.1 pc = .ok (.invokestatic k, 3))
    (hR : zfr q ≤ R.frames ∧ zlo q ≤ R.locals) (hcap : w.1.1 ≤ c0 + R.cells ∧ w.1.2.1 ≤ s0 + R.slots) (h : zabs q pc ls st w = some (.inl (pc', ls', st', w'))) (kk : zGo p l e R s m args below meth c Q base φ D dA cE q c0 s0 pc' ls' st' w') : W p l e R s m args below meth c H locs cells slots Q (F0 m pc lsC (st.map (zval φ))) := by
  obtain ⟨hx, hb, hr, hml, hown, hts, -⟩ := C
  unfold zabs at h
  split at h
  · rename_i x r
    split at h
    · rename_i hc
      obtain ⟨rfl, rfl, rfl, rfl⟩ := znx_inv h
      obtain ⟨own, y, h1, h2, -, -, -, -, -, h3⟩ := zCT_at hl
      have := zown hq h1
      subst this
      have := h3 rfl
      subst this
      obtain ⟨m1, m2, m3, m4, m5⟩ := zGT_math
      exact va_mabs hx hb (by rw [hml]; exact hI.1.2.1.symm) hown (hts _ h2) (hts _ m2) (hts _ m3) (hts _ m5) (by omega) (by rw [zcats_map]; omega) (by have := hI.2.2.2.1; omega) (by have := hI.2.2.2.2; omega) hd (kk _ _ _ _ _ hI)
    · cases h
  · cases h
end ZMake
