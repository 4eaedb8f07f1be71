/-! SOUNDNESS of a step within a method -/
theorem zins_inv {q : zM} {pc : Nat} {I : Instr} {len : Nat} (h : zins q pc = some (I, len)) : decode q.2.1 pc = .ok (I, len) ∧ zlenI I len = true := by
  unfold zins at h
  split at h
  · rename_i r hr
    split at h
    · rename_i hl
      cases h
      exact ⟨hr, hl⟩
    · cases h
  · cases h
theorem zcall_ne {q : zM} {j : Nat} {av rest : List Value} {x : zS} (h : zcall q j av rest = some (.inl x)) : False := by
  unfold zcall at h
  repeat' split at h
  all_goals cases h
theorem zcallV_ne {q : zM} {w : zW} {j n : Nat} {st : List Value} {x : zS} (h : zcallV q w j n st = some (.inl x)) : False := by
  unfold zcallV at h
  repeat' split at h
  all_goals first | exact zcall_ne h | cases h
theorem zcallI_ne {q : zM} {j n : Nat} {st : List Value} {x : zS} (h : zcallI q j n st = some (.inl x)) : False := by
  unfold zcallI at h
  repeat' split at h
  all_goals first | exact zcall_ne h | cases h
theorem zcallS_ne {q : zM} {j n : Nat} {st : List Value} {x : zS} (h : zcallS q j n st = some (.inl x)) : False := by
  unfold zcallS at h
  repeat' split at h
  all_goals first | exact zcall_ne h | cases h
theorem zend_ne {q : zM} {v : Int32} {w : zW} {x : zS} (h : zend q v w = some (.inl x)) : False := by
  unfold zend at h
  repeat' split at h
  all_goals cases h
theorem zfin_ne {v : Option Value} {w : zW} {x : zS} (h : zfin v w = some (.inl x)) : False := by
  unfold zfin at h
  cases h
def zokK (x : (Nat × Nat) × (Int32 × Nat)) : Bool := match lw_tbl[x.2.2]? with
  | some (.constant own idx v) => zON[x.1.1]? == some own && idx == x.1.2 && decide (v = x.2.1)
  | _ => false
theorem zKT_ok : zKT.all zokK = true := by decide +kernel
def zokL (x : (Nat × Nat) × (Int64 × Nat)) : Bool := match lw_tbl[x.2.2]? with
  | some (.constantLong own idx v) => zON[x.1.1]? == some own && idx == x.1.2 && decide (v = x.2.1)
  | _ => false
theorem zLT_ok : zLT.all zokL = true := by decide +kernel
def zokS (x : (Nat × Nat) × (Value × Nat)) : Bool := match lw_tbl[x.2.2]? with
  | some (.fieldLink own idx _ _ _) => zON[x.1.1]? == some own && idx == x.1.2
  | _ => false
theorem zST_ok : zST.all zokS = true := by decide +kernel
section ZNext
variable {p : Program} {l : Launch} {e : Env} {R : Room} {s : State} {m : MethodId} {args : Array Value} {below : List Frame} {meth : Method} {c : Code} {H : Heap} {locs : List Loc} {cells slots : Nat} {Q : State → Prop}
variable {base : Nat} {φ : Nat → Nat} {D : va_G} {dA : Nat → ClassId} {cE : Nat → Option zE} {q : zM} {c0 s0 : Nat} {ls ls' : zL} {w w' : zW} {lsC : Array Slot} {pc pc' : Nat} {st st' : List Value}
theorem zs_ldcI {i k : Nat} {I : Instr} {len : Nat} (C : zCtx p l q s m args meth c) (hq : zq i = some q) (hI : zI base φ D dA cE q s c0 s0 ls w lsC H locs cells slots) (hd : decode q.2.1 pc = .ok (I, len)) (hi : (I = .ldc k ∧ len = 2) ∨ (I = .ldc_w k ∧ len = 3))
    (h : (match zKT.lookup (q.2.2.2.2.2.1, k) with | some (v, _) => znx (pc + len) ls (.int v :: st) w | none => none) = some (.inl (pc', ls', st', w'))) (kk : zGo p l e R s m args below meth c Q base φ D dA cE q c0 s0 pc' ls' st' w') : W p l e R s m args below meth c H locs cells slots Q (F0 m pc lsC (st.map (zval φ))) := by
  obtain ⟨hx, hb, hr, hml, hown, hts, -⟩ := C
  split at h
  · rename_i v n hK
    obtain ⟨rfl, rfl, rfl, rfl⟩ := znx_inv h
    have h1 := List.all_eq_true.mp zKT_ok _ (z_lookup hK)
    unfold zokK at h1
    split at h1
    · rename_i own idx v' hw
      simp only [Bool.and_eq_true, beq_iff_eq, decide_eq_true_eq] at h1
      obtain ⟨⟨e1, e2⟩, e3⟩ := h1
      have := zown hq e1
      subst this
      have hg := GT_of hw rfl
      rw [show idx = k from e2, show v' = v from e3] at hg
      rcases hi with ⟨rfl, rfl⟩ | ⟨rfl, rfl⟩
      · exact lv_ldc hx hb hown (hts _ hg) hd (kk _ _ _ _ _ hI)
      · exact lv_ldcw hx hb hown (hts _ hg) hd (kk _ _ _ _ _ hI)
    · cases h1
  · cases h
theorem zs_ldc2 {i k : Nat} (C : zCtx p l q s m args meth c) (hq : zq i = some q) (hI : zI base φ D dA cE q s c0 s0 ls w lsC H locs cells slots) (hd : decode q.2.1 pc = .ok (.ldc2_w k, 3))
    (h : (match zLT.lookup (q.2.2.2.2.2.1, k) with | some (v, _) => znx (pc + 3) ls (.long v :: st) w | none => none) = some (.inl (pc', ls', st', w'))) (kk : zGo p l e R s m args below meth c Q base φ D dA cE q c0 s0 pc' ls' st' w') : W p l e R s m args below meth c H locs cells slots Q (F0 m pc lsC (st.map (zval φ))) := by
  obtain ⟨hx, hb, hr, hml, hown, hts, -⟩ := C
  split at h
  · rename_i v n hK
    obtain ⟨rfl, rfl, rfl, rfl⟩ := znx_inv h
    have h1 := List.all_eq_true.mp zLT_ok _ (z_lookup hK)
    unfold zokL at h1
    split at h1
    · rename_i own idx v' hw
      simp only [Bool.and_eq_true, beq_iff_eq, decide_eq_true_eq] at h1
      obtain ⟨⟨e1, e2⟩, e3⟩ := h1
      have := zown hq e1
      subst this
      have hg := GT_of hw rfl
      rw [show idx = k from e2, show v' = v from e3] at hg
      exact lv_ldc2 hx hb hown (hts _ hg) hd (kk _ _ _ _ _ hI)
    · cases h1
  · cases h
theorem zs_getstatic {i k : Nat} (C : zCtx p l q s m args meth c) (K : zK base φ D dA cE s) (hq : zq i = some q) (hI : zI base φ D dA cE q s c0 s0 ls w lsC H locs cells slots) (hd : decode q.2.1 pc = .ok (.getstatic k, 3))
    (h : (match zST.lookup (q.2.2.2.2.2.1, k) with | some (v, _) => znx (pc + 3) ls (v :: st) w | none => none) = some (.inl (pc', ls', st', w'))) (kk : zGo p l e R s m args below meth c Q base φ D dA cE q c0 s0 pc' ls' st' w') : W p l e R s m args below meth c H locs cells slots Q (F0 m pc lsC (st.map (zval φ))) := by
  obtain ⟨hx, hb, hr, hml, hown, hts, -⟩ := C
  split at h
  · rename_i v n hK
    obtain ⟨rfl, rfl, rfl, rfl⟩ := znx_inv h
    have hmem := z_lookup hK
    have h1 := List.all_eq_true.mp zST_ok _ hmem
    unfold zokS at h1
    split at h1
    · rename_i own idx C0 n0 d0 hw
      simp only [Bool.and_eq_true, beq_iff_eq] at h1
      obtain ⟨e1, e2⟩ := h1
      have := zown hq e1
      subst this
      have hZ := K.2.2.2.1 _ hmem _ _ _ _ _ hw
      have hg := GT_of hw rfl
      rw [show idx = k from e2] at hg
      exact va_gets hx hb hZ hI.2.2.1 hown (hts _ hg) (fun x h => h) hd (kk _ _ _ _ _ hI)
    · cases h1
  · cases h
theorem ztgt_eq {pc : Nat} {off : Int} (h : 0 ≤ (pc : Int) + off) : (pc : Int) + off = (ztgt pc off : Nat) := by unfold ztgt; omega
theorem zs_br1 {cd : Jvm.ClassFile.Cond} {off : Int} {x : Int32} {r : List Value} (C : zCtx p l q s m args meth c) (hI : zI base φ D dA cE q s c0 s0 ls w lsC H locs cells slots) (hd : decode q.2.1 pc = .ok (.ifCond cd off, 3))
    (h : zbr (zcmp cd x 0) pc off ls r w = some (.inl (pc', ls', st', w'))) (kk : zGo p l e R s m args below meth c Q base φ D dA cE q c0 s0 pc' ls' st' w') : W p l e R s m args below meth c H locs cells slots Q (F0 m pc lsC ((Value.int x :: r).map (zval φ))) := by
  obtain ⟨hx, hb, -⟩ := C
  obtain ⟨ht, rfl, rfl, rfl, rfl⟩ := zbr_inv h
  cases cd
  · exact lv_if_eq hx hb hd ht (fun hc => by have k2 := kk _ _ _ _ _ hI; rw [if_pos (by simpa [zcmp] using hc)] at k2; exact k2) (fun hc => by have k2 := kk _ _ _ _ _ hI; rw [if_neg (by simpa [zcmp] using hc)] at k2; exact k2)
  · exact lv_if_ne hx hb hd ht (fun hc => by have k2 := kk _ _ _ _ _ hI; rw [if_pos (by simpa [zcmp] using hc)] at k2; exact k2) (fun hc => by have k2 := kk _ _ _ _ _ hI; rw [if_neg (by simpa [zcmp] using hc)] at k2; exact k2)
  · exact lv_if_lt hx hb hd ht (fun hc => by have k2 := kk _ _ _ _ _ hI; rw [if_pos (by simpa [zcmp] using hc)] at k2; exact k2) (fun hc => by have k2 := kk _ _ _ _ _ hI; rw [if_neg (by simpa [zcmp] using hc)] at k2; exact k2)
  · exact lv_if_ge hx hb hd ht (fun hc => by have k2 := kk _ _ _ _ _ hI; rw [if_pos (by simpa [zcmp] using hc)] at k2; exact k2) (fun hc => by have k2 := kk _ _ _ _ _ hI; rw [if_neg (by simpa [zcmp] using hc)] at k2; exact k2)
  · exact lv_if_gt hx hb hd ht (fun hc => by have k2 := kk _ _ _ _ _ hI; rw [if_pos (by simpa [zcmp] using hc)] at k2; exact k2) (fun hc => by have k2 := kk _ _ _ _ _ hI; rw [if_neg (by simpa [zcmp] using hc)] at k2; exact k2)
  · exact lv_if_le hx hb hd ht (fun hc => by have k2 := kk _ _ _ _ _ hI; rw [if_pos (by simpa [zcmp] using hc)] at k2; exact k2) (fun hc => by have k2 := kk _ _ _ _ _ hI; rw [if_neg (by simpa [zcmp] using hc)] at k2; exact k2)
theorem zs_br2 {cd : Jvm.ClassFile.Cond} {off : Int} {x y : Int32} {r : List Value} (C : zCtx p l q s m args meth c) (hI : zI base φ D dA cE q s c0 s0 ls w lsC H locs cells slots) (hd : decode q.2.1 pc = .ok (.if_icmp cd off, 3))
    (h : zbr (zcmp cd x y) pc off ls r w = some (.inl (pc', ls', st', w'))) (kk : zGo p l e R s m args below meth c Q base φ D dA cE q c0 s0 pc' ls' st' w') : W p l e R s m args below meth c H locs cells slots Q (F0 m pc lsC ((Value.int y :: Value.int x :: r).map (zval φ))) := by
  obtain ⟨hx, hb, -⟩ := C
  obtain ⟨ht, rfl, rfl, rfl, rfl⟩ := zbr_inv h
  cases cd
  · exact lv_icmp_eq hx hb hd ht (fun hc => by have k2 := kk _ _ _ _ _ hI; rw [if_pos (by simpa [zcmp] using hc)] at k2; exact k2) (fun hc => by have k2 := kk _ _ _ _ _ hI; rw [if_neg (by simpa [zcmp] using hc)] at k2; exact k2)
  · exact lv_icmp_ne hx hb hd ht (fun hc => by have k2 := kk _ _ _ _ _ hI; rw [if_pos (by simpa [zcmp] using hc)] at k2; exact k2) (fun hc => by have k2 := kk _ _ _ _ _ hI; rw [if_neg (by simpa [zcmp] using hc)] at k2; exact k2)
  · exact lv_icmp_lt hx hb hd ht (fun hc => by have k2 := kk _ _ _ _ _ hI; rw [if_pos (by simpa [zcmp] using hc)] at k2; exact k2) (fun hc => by have k2 := kk _ _ _ _ _ hI; rw [if_neg (by simpa [zcmp] using hc)] at k2; exact k2)
  · exact lv_icmp_ge hx hb hd ht (fun hc => by have k2 := kk _ _ _ _ _ hI; rw [if_pos (by simpa [zcmp] using hc)] at k2; exact k2) (fun hc => by have k2 := kk _ _ _ _ _ hI; rw [if_neg (by simpa [zcmp] using hc)] at k2; exact k2)
  · exact lv_icmp_gt hx hb hd ht (fun hc => by have k2 := kk _ _ _ _ _ hI; rw [if_pos (by simpa [zcmp] using hc)] at k2; exact k2) (fun hc => by have k2 := kk _ _ _ _ _ hI; rw [if_neg (by simpa [zcmp] using hc)] at k2; exact k2)
  · exact lv_icmp_le hx hb hd ht (fun hc => by have k2 := kk _ _ _ _ _ hI; rw [if_pos (by simpa [zcmp] using hc)] at k2; exact k2) (fun hc => by have k2 := kk _ _ _ _ _ hI; rw [if_neg (by simpa [zcmp] using hc)] at k2; exact k2)
theorem zs_switch {I : Instr} {len : Nat} {x : Int32} {r : List Value} (C : zCtx p l q s m args meth c) (hI : zI base φ D dA cE q s c0 s0 ls w lsC H locs cells slots) (hd : decode q.2.1 pc = .ok (I, len)) {d lo hi : Int} {offs : Array Int} (hi2 : I = .tableswitch d lo hi offs)
    (h : (if x.toInt < lo ∨ hi < x.toInt then (if 0 ≤ (pc : Int) + d then znx (ztgt pc d) ls r w else none)
      else (match offs[(x.toInt - lo).toNat]? with | some off => if 0 ≤ (pc : Int) + off then znx (ztgt pc off) ls r w else none | none => none)) = some (.inl (pc', ls', st', w'))) (kk : zGo p l e R s m args below meth c Q base φ D dA cE q c0 s0 pc' ls' st' w') : W p l e R s m args below meth c H locs cells slots Q (F0 m pc lsC ((Value.int x :: r).map (zval φ))) := by
  obtain ⟨hx, hb, -⟩ := C
  subst hi2
  split at h
  · rename_i ho
    split at h
    · rename_i h0
      obtain ⟨rfl, rfl, rfl, rfl⟩ := znx_inv h
      exact lv_tableOut hx hb hd ho (ztgt_eq h0) (kk _ _ _ _ _ hI)
    · cases h
  · rename_i ho
    split at h
    · rename_i off hoff
      split at h
      · rename_i h0
        obtain ⟨rfl, rfl, rfl, rfl⟩ := znx_inv h
        exact lv_tableIn hx hb hd (fun z => ho (Or.inl z)) (fun z => ho (Or.inr z)) hoff (ztgt_eq h0) (kk _ _ _ _ _ hI)
      · cases h
    · cases h
set_option maxHeartbeats 4000000 in
theorem zs_next {i len : Nat} {I : Instr} (F : ∀ k, 40 ≤ k → φ k = base + (k - 40)) (C : zCtx p l q s m args meth c) (K : zK base φ D dA cE s) (hq : zq i = some q) (hI : zI base φ D dA cE q s c0 s0 ls w lsC H locs cells slots) (hi : zins q pc = some (I, len))
    (h : zstep q i pc I len ls st w = some (.inl (pc', ls', st', w'))) (hcap : w'.1.1 ≤ c0 + R.cells ∧ w'.1.2.1 ≤ s0 + R.slots) (hR : zfr q ≤ R.frames ∧ zlo q ≤ R.locals) (kk : zGo p l e R s m args below meth c Q base φ D dA cE q c0 s0 pc' ls' st' w') :
    W p l e R s m args below meth c H locs cells slots Q (F0 m pc lsC (st.map (zval φ))) := by
  obtain ⟨hd, hlen⟩ := zins_inv hi
  have hle : zle w w' := zstep_le h
  have hcw : w.1.1 ≤ c0 + R.cells ∧ w.1.2.1 ≤ s0 + R.slots := ⟨Nat.le_trans hle.1 hcap.1, Nat.le_trans hle.2 hcap.2⟩
  unfold zstep at h
  dsimp only at h
  cases I <;> (try dsimp only at h)
  case aload_n k => simp only [zlenI, beq_iff_eq] at hlen; subst hlen; exact zs_ldA C hI hd (Or.inr ⟨k, rfl, rfl, rfl⟩) h kk
  case aload k => simp only [zlenI, beq_iff_eq] at hlen; subst hlen; exact zs_ldA C hI hd (Or.inl ⟨rfl, rfl⟩) h kk
  case iload_n k => simp only [zlenI, beq_iff_eq] at hlen; subst hlen; exact zs_ldI C hI hd (Or.inr ⟨k, rfl, rfl, rfl⟩) h kk
  case iload k => simp only [zlenI, beq_iff_eq] at hlen; subst hlen; exact zs_ldI C hI hd (Or.inl ⟨rfl, rfl⟩) h kk
  case lload_n k => simp only [zlenI, beq_iff_eq] at hlen; subst hlen; exact zs_ldL C hI hd h kk
  case istore_n k =>
    simp only [zlenI, beq_iff_eq] at hlen; subst hlen
    split at h
    · exact zs_stI C hI hd (Or.inr ⟨k, rfl, rfl, rfl⟩) h kk
    · cases h
  case istore k =>
    simp only [zlenI, beq_iff_eq] at hlen; subst hlen
    split at h
    · exact zs_stI C hI hd (Or.inl ⟨rfl, rfl⟩) h kk
    · cases h
  case lstore_n k =>
    simp only [zlenI, beq_iff_eq] at hlen; subst hlen
    split at h
    · exact zs_stL C hI hd h kk
    · cases h
  case astore_n k =>
    simp only [zlenI, beq_iff_eq] at hlen; subst hlen
    split at h
    · exact zs_stA C hI hd (Or.inr ⟨k, rfl, rfl, rfl⟩) h kk
    · exact zs_stN C hI hd (Or.inr ⟨k, rfl, rfl, rfl⟩) h kk
    · cases h
  case astore k =>
    simp only [zlenI, beq_iff_eq] at hlen; subst hlen
    split at h
    · exact zs_stA C hI hd (Or.inl ⟨rfl, rfl⟩) h kk
    · exact zs_stN C hI hd (Or.inl ⟨rfl, rfl⟩) h kk
    · cases h
  case iinc k n => simp only [zlenI, beq_iff_eq] at hlen; subst hlen; exact zs_iinc C hI hd h kk
  case iconst n =>
    simp only [zlenI, beq_iff_eq] at hlen; subst hlen
    obtain ⟨rfl, rfl, rfl, rfl⟩ := znx_inv h
    exact lv_iconst C.1 C.2.1 hd rfl (kk _ _ _ _ _ hI)
  case bipush n =>
    simp only [zlenI, beq_iff_eq] at hlen; subst hlen
    obtain ⟨rfl, rfl, rfl, rfl⟩ := znx_inv h
    exact lv_bipush C.1 C.2.1 hd rfl (kk _ _ _ _ _ hI)
  case sipush n =>
    simp only [zlenI, beq_iff_eq] at hlen; subst hlen
    obtain ⟨rfl, rfl, rfl, rfl⟩ := znx_inv h
    exact lv_sipush C.1 C.2.1 hd rfl (kk _ _ _ _ _ hI)
  case aconst_null =>
    simp only [zlenI, beq_iff_eq] at hlen; subst hlen
    obtain ⟨rfl, rfl, rfl, rfl⟩ := znx_inv h
    exact lv_null C.1 C.2.1 hd (kk _ _ _ _ _ hI)
  case ldc k => simp only [zlenI, beq_iff_eq] at hlen; subst hlen; exact zs_ldcI C hq hI hd (Or.inl ⟨rfl, rfl⟩) h kk
  case ldc_w k => simp only [zlenI, beq_iff_eq] at hlen; subst hlen; exact zs_ldcI C hq hI hd (Or.inr ⟨rfl, rfl⟩) h kk
  case ldc2_w k => simp only [zlenI, beq_iff_eq] at hlen; subst hlen; exact zs_ldc2 C hq hI hd h kk
  case iadd => simp only [zlenI, beq_iff_eq] at hlen; subst hlen; obtain ⟨x, y, r, rfl, rfl, rfl, rfl, rfl⟩ := zb2_inv h; exact lv_iadd C.1 C.2.1 hd (kk _ _ _ _ _ hI)
  case isub => simp only [zlenI, beq_iff_eq] at hlen; subst hlen; obtain ⟨x, y, r, rfl, rfl, rfl, rfl, rfl⟩ := zb2_inv h; exact lv_isub C.1 C.2.1 hd (kk _ _ _ _ _ hI)
  case imul => simp only [zlenI, beq_iff_eq] at hlen; subst hlen; obtain ⟨x, y, r, rfl, rfl, rfl, rfl, rfl⟩ := zb2_inv h; exact lv_imul C.1 C.2.1 hd (kk _ _ _ _ _ hI)
  case iand => simp only [zlenI, beq_iff_eq] at hlen; subst hlen; obtain ⟨x, y, r, rfl, rfl, rfl, rfl, rfl⟩ := zb2_inv h; exact lv_iand C.1 C.2.1 hd (kk _ _ _ _ _ hI)
  case ior => simp only [zlenI, beq_iff_eq] at hlen; subst hlen; obtain ⟨x, y, r, rfl, rfl, rfl, rfl, rfl⟩ := zb2_inv h; exact lv_ior C.1 C.2.1 hd (kk _ _ _ _ _ hI)
  case ixor => simp only [zlenI, beq_iff_eq] at hlen; subst hlen; obtain ⟨x, y, r, rfl, rfl, rfl, rfl, rfl⟩ := zb2_inv h; exact lv_ixor C.1 C.2.1 hd (kk _ _ _ _ _ hI)
  case ishl => simp only [zlenI, beq_iff_eq] at hlen; subst hlen; obtain ⟨x, y, r, rfl, rfl, rfl, rfl, rfl⟩ := zb2_inv h; exact lv_ishl C.1 C.2.1 hd (kk _ _ _ _ _ hI)
  case ishr => simp only [zlenI, beq_iff_eq] at hlen; subst hlen; obtain ⟨x, y, r, rfl, rfl, rfl, rfl, rfl⟩ := zb2_inv h; exact lv_ishr C.1 C.2.1 hd (kk _ _ _ _ _ hI)
  case iushr => simp only [zlenI, beq_iff_eq] at hlen; subst hlen; obtain ⟨x, y, r, rfl, rfl, rfl, rfl, rfl⟩ := zb2_inv h; exact lv_iushr C.1 C.2.1 hd rfl (kk _ _ _ _ _ hI)
  case idiv =>
    simp only [zlenI, beq_iff_eq] at hlen; subst hlen
    split at h
    · split at h
      · rename_i hne
        obtain ⟨rfl, rfl, rfl, rfl⟩ := znx_inv h
        exact lv_idiv C.1 C.2.1 hd hne (kk _ _ _ _ _ hI)
      · cases h
    · cases h
  case irem =>
    simp only [zlenI, beq_iff_eq] at hlen; subst hlen
    split at h
    · split at h
      · rename_i hne
        obtain ⟨rfl, rfl, rfl, rfl⟩ := znx_inv h
        exact lv_irem C.1 C.2.1 hd hne (kk _ _ _ _ _ hI)
      · cases h
    · cases h
  case ineg =>
    simp only [zlenI, beq_iff_eq] at hlen; subst hlen
    split at h
    · obtain ⟨rfl, rfl, rfl, rfl⟩ := znx_inv h
      exact lv_ineg C.1 C.2.1 hd (kk _ _ _ _ _ hI)
    · cases h
  case i2l =>
    simp only [zlenI, beq_iff_eq] at hlen; subst hlen
    split at h
    · obtain ⟨rfl, rfl, rfl, rfl⟩ := znx_inv h
      exact lv_i2l C.1 C.2.1 hd rfl (kk _ _ _ _ _ hI)
    · cases h
  case i2b =>
    simp only [zlenI, beq_iff_eq] at hlen; subst hlen
    split at h
    · obtain ⟨rfl, rfl, rfl, rfl⟩ := znx_inv h
      exact lv_i2b C.1 C.2.1 hd rfl (kk _ _ _ _ _ hI)
    · cases h
  case i2c =>
    simp only [zlenI, beq_iff_eq] at hlen; subst hlen
    split at h
    · obtain ⟨rfl, rfl, rfl, rfl⟩ := znx_inv h
      exact lv_i2c C.1 C.2.1 hd rfl (kk _ _ _ _ _ hI)
    · cases h
  case ladd =>
    simp only [zlenI, beq_iff_eq] at hlen; subst hlen
    split at h
    · obtain ⟨rfl, rfl, rfl, rfl⟩ := znx_inv h
      exact lv_ladd C.1 C.2.1 hd (kk _ _ _ _ _ hI)
    · cases h
  case lmul =>
    simp only [zlenI, beq_iff_eq] at hlen; subst hlen
    split at h
    · obtain ⟨rfl, rfl, rfl, rfl⟩ := znx_inv h
      exact lv_lmul C.1 C.2.1 hd (kk _ _ _ _ _ hI)
    · cases h
  case lcmp =>
    simp only [zlenI, beq_iff_eq] at hlen; subst hlen
    split at h
    · obtain ⟨rfl, rfl, rfl, rfl⟩ := znx_inv h
      exact W.lcmp C.1 C.2.1 hd (kk _ _ _ _ _ hI)
    · cases h
  case dup =>
    simp only [zlenI, beq_iff_eq] at hlen; subst hlen
    split at h
    · split at h
      · rename_i hc
        obtain ⟨rfl, rfl, rfl, rfl⟩ := znx_inv h
        exact lv_dup C.1 C.2.1 hd (by rw [zval_cat]; exact hc) (kk _ _ _ _ _ hI)
      · cases h
    · cases h
  case dup2 =>
    simp only [zlenI, beq_iff_eq] at hlen; subst hlen
    split at h
    · split at h
      · rename_i hc
        obtain ⟨rfl, rfl, rfl, rfl⟩ := znx_inv h
        exact lv_dup2_11 C.1 C.2.1 hd (by rw [zval_cat]; exact hc.1) (by rw [zval_cat]; exact hc.2) (kk _ _ _ _ _ hI)
      · cases h
    · cases h
  case pop =>
    simp only [zlenI, beq_iff_eq] at hlen; subst hlen
    split at h
    · split at h
      · rename_i hc
        obtain ⟨rfl, rfl, rfl, rfl⟩ := znx_inv h
        exact lv_pop C.1 C.2.1 hd (by rw [zval_cat]; exact hc) (kk _ _ _ _ _ hI)
      · cases h
    · cases h
  case goto off =>
    simp only [zlenI, beq_iff_eq] at hlen; subst hlen
    split at h
    · rename_i h0
      obtain ⟨rfl, rfl, rfl, rfl⟩ := znx_inv h
      exact lv_goto C.1 C.2.1 hd (ztgt_eq h0) (kk _ _ _ _ _ hI)
    · cases h
  case ifCond cd off =>
    simp only [zlenI, beq_iff_eq] at hlen; subst hlen
    split at h
    · exact zs_br1 C hI hd h kk
    · cases h
  case if_icmp cd off =>
    simp only [zlenI, beq_iff_eq] at hlen; subst hlen
    split at h
    · exact zs_br2 C hI hd h kk
    · cases h
  case ifnull off =>
    simp only [zlenI, beq_iff_eq] at hlen; subst hlen
    split at h
    · obtain ⟨ht, rfl, rfl, rfl, rfl⟩ := zbr_inv h
      exact lv_ifnullN C.1 C.2.1 hd ht (by have k2 := kk _ _ _ _ _ hI; exact k2)
    · obtain ⟨ht, rfl, rfl, rfl, rfl⟩ := zbr_inv h
      exact lv_ifnull C.1 C.2.1 hd (by have k2 := kk _ _ _ _ _ hI; exact k2)
    · cases h
  case ifnonnull off =>
    simp only [zlenI, beq_iff_eq] at hlen; subst hlen
    split at h
    · obtain ⟨ht, rfl, rfl, rfl, rfl⟩ := zbr_inv h
      exact lv_ifnonnull C.1 C.2.1 hd ht (by have k2 := kk _ _ _ _ _ hI; exact k2)
    · obtain ⟨ht, rfl, rfl, rfl, rfl⟩ := zbr_inv h
      exact lv_ifnonnullN C.1 C.2.1 hd (by have k2 := kk _ _ _ _ _ hI; exact k2)
    · cases h
  case tableswitch d lo hi offs =>
    split at h
    · exact zs_switch C hI hd rfl h kk
    · cases h
  case lookupswitch d ps =>
    split at h
    · split at h
      · rename_i hc
        obtain ⟨rfl, rfl, rfl, rfl⟩ := znx_inv h
        exact lv_lookup C.1 C.2.1 hd hc.1 rfl (ztgt_eq hc.2) (kk _ _ _ _ _ hI)
      · cases h
    · cases h
  case getstatic k => simp only [zlenI, beq_iff_eq] at hlen; subst hlen; exact zs_getstatic C K hq hI hd h kk
  case getfield k => simp only [zlenI, beq_iff_eq] at hlen; subst hlen; exact zs_getfield C K hq hI hd h kk
  case putfield k => simp only [zlenI, beq_iff_eq] at hlen; subst hlen; exact zs_putfield F C K hq hI hd h kk
  case iaload => simp only [zlenI, beq_iff_eq] at hlen; subst hlen; exact zs_iaload C K hI hd h kk
  case baload => simp only [zlenI, beq_iff_eq] at hlen; subst hlen; exact zs_baload C K hI hd h kk
  case laload => simp only [zlenI, beq_iff_eq] at hlen; subst hlen; exact zs_laload C K hI hd h kk
  case aaload => simp only [zlenI, beq_iff_eq] at hlen; subst hlen; exact zs_aaload C K hI hd h kk
  case arraylength => simp only [zlenI, beq_iff_eq] at hlen; subst hlen; exact zs_arraylength C K hI hd h kk
  case iastore => simp only [zlenI, beq_iff_eq] at hlen; subst hlen; exact zs_iastore F C K hI hd h kk
  case bastore => simp only [zlenI, beq_iff_eq] at hlen; subst hlen; exact zs_bastore F C K hI hd h kk
  case lastore => simp only [zlenI, beq_iff_eq] at hlen; subst hlen; exact zs_lastore F C K hI hd h kk
  case aastore => simp only [zlenI, beq_iff_eq] at hlen; subst hlen; exact zs_aastore F C K hI hd h kk
  case newarray ty => simp only [zlenI, beq_iff_eq] at hlen; subst hlen; exact zs_newarray F C K hI hd h hcap kk
  case anewarray k => simp only [zlenI, beq_iff_eq] at hlen; subst hlen; exact zs_anewarray F C K hq hI hd h hcap kk
  case new k =>
    simp only [zlenI, beq_iff_eq] at hlen; subst hlen
    split at h
    · split at h <;> cases h
    · exact zs_new F C K hq hI hd h hcap kk
  case invokevirtual k =>
    simp only [zlenI, beq_iff_eq] at hlen; subst hlen
    split at h
    · exact (zcallV_ne h).elim
    · rename_i hl; exact zs_ord C K hq hI hl hd hR hcw h kk
    · cases h
  case invokespecial k =>
    simp only [zlenI, beq_iff_eq] at hlen; subst hlen
    split at h
    · exact (zcallI_ne h).elim
    · rename_i hl; exact zs_objI C hq hI hl hd hR h kk
    · cases h
  case invokestatic k =>
    simp only [zlenI, beq_iff_eq] at hlen; subst hlen
    split at h
    · exact (zcallS_ne h).elim
    · exact (zcallS_ne h).elim
    · rename_i hl; exact zs_copy F C K hq hI hl hd hR h kk
    · rename_i hl; exact zs_chk C K hq hI hl hd hR hcw h kk
    · rename_i hl; exact zs_max C hq hI hl hd hR hcw h kk
    · rename_i hl; exact zs_abs C hq hI hl hd hR hcw h kk
    · cases h
  case ireturn =>
    split at h
    · exact (zend_ne h).elim
    · cases h
  case lreturn =>
    split at h
    · split at h
      · exact (zfin_ne h).elim
      · cases h
    · cases h
  case areturn =>
    split at h
    · exact (zfin_ne h).elim
    · exact (zfin_ne h).elim
    · cases h
  case return_ =>
    split at h
    · split at h
      · exact (zfin_ne h).elim
      · cases h
    · cases h
  all_goals cases h
end ZNext
