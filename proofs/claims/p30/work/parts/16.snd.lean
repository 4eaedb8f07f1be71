theorem zX_at : ∀ x ∈ ([("java/lang/IndexOutOfBoundsException", 238), ("java/lang/IllegalArgumentException", 45), ("java/lang/IllegalStateException", 207)] : List (String × Nat)), (vx_atS "MasterPins" x.2 x.1 zXn).all (fun w => decide (w ∈ lw_tbl) && (goodWord w || zNk w)) = true := by decide +kernel
theorem zX_ini : ∀ x ∈ zEX, Cond.initialized x ∈ GT := by decide +kernel
theorem zX_fit : ∀ n ∈ zXn, Bundle.fit n = true := by decide +kernel
section ZMain
variable {p : Program} {l : Launch} {e : Env} {R : Room} {s : State} {m : MethodId} {args : Array Value} {below : List Frame} {meth : Method} {c : Code} {H : Heap} {locs : List Loc} {cells slots : Nat} {Q : State → Prop}
variable {base : Nat} {φ : Nat → Nat} {D : va_G} {dA : Nat → ClassId} {cE : Nat → Option zE} {q : zM} {c0 s0 : Nat} {ls ls' : zL} {w w' : zW} {lsC : Array Slot} {pc pc' : Nat} {st st' : List Value}
theorem zHnd0 {E : String} : ∀ {hh : List (Nat × Nat × Nat × Nat)} {r : Nat × Nat}, zhnd q pc E hh = some r → False := by
  intro hh
  induction hh with
  | nil => intro r h; cases h
  | cons y hh ih =>
    obtain ⟨a, b, hp, t⟩ := y
    intro r h
    unfold zhnd at h
    split at h
    · rw [show zHT.lookup (q.2.2.2.2.2.1, t) = none from rfl] at h
      cases h
    · exact ih h
/-- behind a call -/
theorem zAfter {y : MethodName} {g : JFrame} {rest : List Value} {r : zR} {mc ms : Nat} {As : Array Value} (hI : zI base φ D dA cE q s c0 s0 ls w lsC H locs cells slots) (hmc : w.1.1 + mc = r.2.1.1) (hms : w.1.2.1 + ms = r.2.1.2.1)
    (hrun : vx_Run p l e R s m args below meth c H locs cells slots mc ms (F0 m pc lsC st) (rest.map (zval φ)) (zQc base φ D dA cE r As) (zXC base φ D dA cE r) (fun q => base ≤ q))
    (kr : ∀ v, r.1 = .inl v → zGo p l e R s m args below meth c Q base φ D dA cE q c0 s0 (pc + 3) ls (v.toList ++ rest) r.2)
    (kx : ∀ (E : String) (ce : Cell) (q9 : Addr) (H1 : Heap) (locs1 : List Loc), r.1 = .inr E → H1[q9]? = some ce → ce.vm = .none → s.vm.findClass E = some ce.cls → zI base φ D dA cE q s c0 s0 ls r.2 lsC H1 locs1 (cells + mc) (slots + ms) → vx_W p l e R s m args below meth c H1 locs1 (cells + mc) (slots + ms) Q (F0 m pc lsC (rest.map (zval φ))) q9) :
    W p l e R s m args below meth c H locs cells slots Q (F0 m pc lsC st) := by
  intro T hT X
  have keep : ∀ {st₀ t T' : State} {L : List Loc}, st₀.heap = H → T'.heap = t.heap → (∀ q ∈ L, base ≤ q.base) → zHR base φ D dA cE r.2 t.heap → va_F (fun q => base ≤ q) st₀ t → zI base φ D dA cE q s c0 s0 ls r.2 lsC T'.heap (locs ++ L) (cells + mc) (slots + ms) := by
    intro st₀ t T' L h0 e1 hL hr hF
    obtain ⟨a1, a2, a3, a4, a5⟩ := hI
    refine ⟨a1, by rw [e1]; exact hr, ⟨?_, fun x h1 h2 => ?_, fun x hx => ?_⟩, by omega, by omega⟩
    · rw [e1]; exact Nat.le_trans a3.1 (by rw [← h0]; exact hF.1)
    · rw [e1, hF.2 x (by rw [h0]; exact Nat.lt_of_lt_of_le h1 a3.1) h2, h0]; exact a3.2.1 x h1 h2
    · rcases List.mem_append.mp hx with h | h
      · exact a3.2.2 x h
      · exact hL x h
  rcases hrun T hT X with ⟨v, st₀, t, T', L, h0, X', hL, e1, e2, ⟨⟨v', hv, ho⟩, hr, hF⟩, hgo⟩ | ⟨q9, st₀, t, T', L, E, ce, h0, X', hL, e1, e2, ⟨hE, hr, hF⟩, hce, hcv, hcl, hsteps⟩
  · cases ho
    obtain ⟨t2, a1, b1⟩ := kr v' hv lsC T'.heap (locs ++ L) (cells + mc) (slots + ms) (keep h0 e1 hL hr hF) T' rfl X'
    refine ⟨t2, hgo _ ?_, b1⟩
    have : (v'.toList ++ rest).map (zval φ) = (v'.map (zval φ)).toList ++ rest.map (zval φ) := by cases v' <;> rfl
    rw [this] at a1
    exact a1
  · obtain ⟨t2, a1, b1⟩ := kx E ce q9 T'.heap (locs ++ L) hE (by rw [e1]; exact hce) hcv hcl (keep h0 e1 hL hr hF) T' rfl X'
    exact ⟨t2, Steps.trans hsteps a1, b1⟩
theorem zws_good {x : zM} (h : zcw x ∈ GT) (hts : ∀ w ∈ GT, w.before args s = true) : ∀ w ∈ zws x, ∀ (a' : Array Value) (U : State), s.WarmedH U.vm → w.before a' U = true := by
  intro w hw
  rcases List.mem_cons.mp hw with rfl | hw
  · exact zGT_move hts _ h
  · exact zGT_move hts _ hw
set_option maxHeartbeats 1000000 in
/-- a contract out of a run -/
theorem zMet {n j : Nat} {qj : zM} {av : List Value} {lj : zL} {r : zR} (F : ∀ k, 40 ≤ k → φ k = base + (k - 40)) (IH : zSnd l base φ D dA cE n) (hfl : l.stackTraces = false) (hq : zq j = some qj) (hpl : plainName qj.1.cls = true) (hent : zent qj av = some lj) (hrun : zrun n j 0 lj [] w = some r) :
    vx_Met l qj.1 (zws qj) ({ frames := zfr qj, cells := r.2.1.1 - w.1.1, slots := r.2.1.2.1 - w.1.2.1, locals := zlo qj } : Room) (va_Pc (av.map (zval φ)) (zPc base φ D dA cE w)) (zQc base φ D dA cE r) (zXC base φ D dA cE r) (r.2.1.1 - w.1.1) (r.2.1.2.1 - w.1.2.1) (fun q => base ≤ q) := by
  have hle := zrun_le hrun
  have hbody : ∀ p e s m args below meth c s₁, BodyLoose p l qj.1 (headSpec (zws qj) ({ frames := zfr qj, cells := r.2.1.1 - w.1.1, slots := r.2.1.2.1 - w.1.2.1, locals := zlo qj } : Room)) qj.2.1 qj.2.2.1 qj.2.2.2.1 e s m args below meth c s₁ → c.maxLocals = qj.2.2.1 → (if qj.2.2.2.2.1 = [] then ∀ x ∈ c.exceptionTable.toList, False else c.exceptionTable.toList = tableOf qj.2.2.2.2.1) → va_Pc (av.map (zval φ)) (zPc base φ D dA cE w) args s →
      W p l e (headSpec (zws qj) ({ frames := zfr qj, cells := r.2.1.1 - w.1.1, slots := r.2.1.2.1 - w.1.2.1, locals := zlo qj } : Room)).room s m args below meth c s.heap [] 0 0 (vx_MQ below (zQc base φ D dA cE r) (zXC base φ D dA cE r) args s (r.2.1.1 - w.1.1) (r.2.1.2.1 - w.1.2.1) (fun q => base ≤ q)) (entryFrame m args qj.2.2.1) := by
    intro p e s m args below meth c s₁ B hml htab hv
    obtain ⟨rfl, hHR, hK⟩ := hv
    have hts0 := atoms_spec (ws := zws qj) B.pre
    have hts : ∀ w ∈ GT, w.before (av.map (zval φ)).toArray s = true := fun w h => hts0 w (List.mem_cons_of_mem _ h)
    have hown : s.vm.findClass qj.1.cls = some m.cls := findClass_of_methodNamed B.named
    have hnm : meth.name = qj.1.name := (name_of_methodNamed B.named B.method).1
    have hlen : (lg_sl (av.map (zval φ))).length ≤ qj.2.2.1 := by rw [zfm_len]; exact (zent_inv hent).1
    have hl := lv_entry (av.map (zval φ)) (n := qj.2.2.1) hlen
    rw [lg_entry_eq]
    generalize (lg_sl (av.map (zval φ)) ++ List.replicate (qj.2.2.1 - (lg_sl (av.map (zval φ))).length) Slot.unset).toArray = lsC at hl ⊢
    have C : zCtx p l qj s m (av.map (zval φ)).toArray meth c := ⟨B.exec, B.bytes, B.returns, hml, hown, hts, B.notSynchronized, fun h => hnm.trans h, fun w hw => va_Nw.use (zNW_tab hw) (hK.2.2.2.2.2.2.2.2.1 w hw), fun h => by rw [if_neg h] at htab; exact htab, hfl⟩
    have key := IH j qj 0 lj [] w r p e s m (av.map (zval φ)).toArray below meth c (headSpec (zws qj) ({ frames := zfr qj, cells := r.2.1.1 - w.1.1, slots := r.2.1.2.1 - w.1.2.1, locals := zlo qj } : Room)).room
      (vx_MQ below (zQc base φ D dA cE r) (zXC base φ D dA cE r) (av.map (zval φ)).toArray s (r.2.1.1 - w.1.1) (r.2.1.2.1 - w.1.2.1) (fun q => base ≤ q)) w.1.1 w.1.2.1 hq C hK hrun
      (by show _ ≤ w.1.1 + (r.2.1.1 - w.1.1); omega) (by show _ ≤ w.1.2.1 + (r.2.1.2.1 - w.1.2.1); omega) (Nat.le_refl _) (Nat.le_refl _) ?_ ?_ ?_
    · exact key lsC s.heap [] 0 0 (zI_entry hent hHR hl)
    · intro v pc I len lsC H locs cells slots hr hd hret hHR' hS hc hs
      have ec : cells = r.2.1.1 - w.1.1 := by omega
      have es : slots = r.2.1.2.1 - w.1.2.1 := by omega
      subst ec; subst es
      have hpost : ∀ (o : Option Value) (t : State), o = v → t.heap = H → zQc base φ D dA cE r (av.map (zval φ)).toArray s (.returned (o.map (zval φ))) t := fun o t ho ht => ⟨⟨v, hr, by rw [ho]⟩, by rw [ht]; exact hHR', hS.F ht⟩
      refine vx_ret ?_
      have hlocks := B.notSynchronized
      rcases hret with ⟨rfl, rfl, x, rfl, hz⟩ | ⟨rfl, rfl, x, rfl, hz⟩ | ⟨rfl, rfl, ⟨C', hz⟩, hv⟩ | ⟨rfl, rfl, rfl, hz⟩
      · have hty : ∃ ty, qj.2.2.2.1 = some ty ∧ narrow ty (.int x) = .int x := by
          unfold zret at hz
          split at hz
          · rename_i h; exact ⟨_, h, rfl⟩
          · rename_i h
            refine ⟨_, h, ?_⟩
            simp only [Bool.or_eq_true, beq_iff_eq] at hz
            rcases hz with rfl | rfl <;> decide
          · rename_i h
            refine ⟨_, h, ?_⟩
            simp only [beq_iff_eq] at hz
            show Value.int _ = _
            rw [hz]
          · rename_i h
            refine ⟨_, h, ?_⟩
            simp only [beq_iff_eq] at hz
            show Value.int _ = _
            rw [hz]
          · cases hz
        obtain ⟨ty, h1, h2⟩ := hty
        exact W.zret (v := x) (ty := ty) B.exec B.bytes (B.returns.trans h1) h2 (fun t ht hW => hpost _ t rfl ht) hS.2.2 hd hlocks
      · exact W.lret (v := x) B.exec B.bytes (B.returns.trans hz) (fun t ht hW => hpost _ t rfl ht) hS.2.2 hd hlocks
      · rcases hv with rfl | ⟨a, rfl⟩
        · exact W.aret (v := .null) B.exec B.bytes (B.returns.trans hz) (Or.inl ⟨_, rfl⟩) (Or.inl rfl) (fun t ht hW => hpost (some .null) t rfl ht) hS.2.2 hd hlocks
        · exact W.aret (v := .ref (φ a)) B.exec B.bytes (B.returns.trans hz) (Or.inl ⟨_, rfl⟩) (Or.inr ⟨_, rfl⟩) (fun t ht hW => hpost (some (.ref a)) t rfl ht) hS.2.2 hd hlocks
      · exact W.vret B.exec B.bytes (B.returns.trans hz) (fun t ht hW => hpost none t rfl ht) hS.2.2 hd hlocks
    · intro x pc k st w2 ls2 lsC H locs cells slots hX hr hd hst hf6 hl90 hh0 hI
      have h1 := List.all_eq_true.mp zXT_ok _ (z_lookup hX)
      unfold zokX at h1
      split at h1
      · rename_i q2 own ik cls own2 is text hq2 hw1 hw2
        have hqq : q2 = qj := Option.some.inj (hq2.symm.trans hq)
        subst hqq
        simp only [Bool.and_eq_true, beq_iff_eq, decide_eq_true_eq] at h1
        obtain ⟨⟨⟨⟨⟨⟨⟨⟨⟨⟨⟨⟨⟨⟨a1, a2⟩, a3⟩, a4⟩, a5⟩, a6⟩, a7⟩, a8⟩, a9⟩, d0⟩, d3⟩, d4⟩, d6⟩, d9⟩, a10⟩ := h1
        subst a1
        have hgc := GT_of hw1 rfl
        obtain ⟨sa, hsa⟩ := hK.2.2.2.2.1 _ (z_lookup hX) _ _ _ hw2
        rw [a2] at hsa
        have hall := List.all_eq_true.mp (zX_at _ a10)
        have hwd : ∀ w ∈ vx_atS q2.1.cls x.2.2.2.1 cls zXn, w.before (av.map (zval φ)).toArray s = true ∧ vx_ot w = true := by
          intro w hw
          rw [a8] at hw
          have h2 := hall w hw
          simp only [Bool.and_eq_true, decide_eq_true_eq, Bool.or_eq_true] at h2
          rcases h2.2 with h3 | h3
          · exact ⟨hts _ (List.mem_filter.mpr ⟨h2.1, h3⟩), by simp [vx_ot, h3]⟩
          · exact ⟨va_Nw.use (zNk_tab h3) (hK.2.2.2.2.2.2.2.2.1 w (List.mem_filter.mpr ⟨h2.1, h3⟩)), by simp [vx_ot, zNk_tab h3]⟩
        have hclsx : cls = x.1 := a4
        have hini := hts _ (zX_ini _ a7)
        rw [← hclsx] at hini
        have htab' : ∀ z ∈ c.exceptionTable.toList, covers z (pc + 9) = false := by
          rw [if_pos hh0] at htab
          exact fun z hz => (htab z hz).elim
        have hcnt := hI.2.2.2
        have hrc : r.2.1.1 = w2.1.1 + 1 := by rw [hr]; rfl
        have hrs : r.2.1.2.1 = w2.1.2.1 + 6 := by rw [hr]; rfl
        refine vx_throwS (own := q2.1.cls) (cls := cls) (text := text) (names := zXn) (ik := ik) (is := is) (ic := x.2.2.2.1) (sa := sa) (A := fun q => base ≤ q) B.exec B.bytes hfl hown a9 zX_fit (hts _ hgc) hini hsa (fun w hw => (hwd w hw).1) ?_ hK.2.2.2.2.2.1 hK.2.2.2.2.2.2.1 hI.2.2.1 (hI.1.2.1.trans hml.symm) d0 d3 d4 d6 d9 htab' ?_ ?_ ?_ ?_ B.notSynchronized ?_ hI.2.2.1.2.2 ?_ ?_
        · intro w hw
          rcases List.mem_cons.mp hw with rfl | hw
          · rfl
          · rcases List.mem_cons.mp hw with rfl | hw
            · rfl
            · exact (hwd w hw).2
        · show 2 + 3 < zfr q2; omega
        · rw [zcats_map]; show zcats st + (13 * (2 + 1) + 43) ≤ zlo q2; omega
        · show cells + 1 ≤ r.2.1.1 - w.1.1; omega
        · show slots + 6 ≤ r.2.1.2.1 - w.1.2.1; omega
        · intro t ht h2 h3
          refine ⟨by rw [hr, hclsx], ?_, ?_⟩
          · rw [hr]
            refine ⟨Nat.le_trans hI.2.1.1 h2, fun h => (by cases h), fun k y hk => ?_⟩
            exact zcell_kept (hI.2.1.2.2 k y hk) fun hlt _ => h3 _ hlt
          · exact ⟨Nat.le_trans hI.2.2.1.1 h2, fun z g1 g2 => (h3 z (Nat.lt_of_lt_of_le g1 hI.2.2.1.1)).trans (hI.2.2.1.2.1 z g1 g2)⟩
        · omega
        · omega
      · cases h1
    · intro E ce q9 pc rest lsC H locs cells slots hr hh0 hce hcv hcl hHR' hS hc hs
      rw [if_pos hh0] at htab
      exact vx_out (fun z hz => (htab z hz).elim) B.notSynchronized hce hcv hcl (fun t ht hW => ⟨hr, by rw [ht]; exact hHR', hS.F ht⟩) hS.2.2 (by omega) (by omega)
  by_cases hh : qj.2.2.2.2.1 = []
  · refine vx_ofW hpl (ws' := GT) (by unfold zws zcw; rw [if_pos hh]) fun p e s m args below meth c s₁ B hml htab hv => hbody p e s m args below meth c s₁ B hml (by rw [if_pos hh]; exact htab) hv
  · refine vx_ofWH hpl (ws' := GT) (hh := qj.2.2.2.2.1) (by unfold zws zcw; rw [if_neg hh]) fun p e s m args below meth c s₁ B hml hv => hbody p e s m args below meth c s₁ B hml (by
      rw [if_neg hh]
      have hts0 := atoms_spec (ws := zws qj) B.pre
      have := hts0 (zcw qj) List.mem_cons_self
      unfold zcw at this
      rw [if_neg hh] at this
      exact vx_table (x := qj.1) B this) hv
end ZMain
