/-! Enum's ordinal of a constant: the statement's words don't say that Enum is initialised, so its body is walked without a contract -/
theorem zOr_0 : decode cJx29ce0_ordinal_8abf5 0 = .ok (.aload_n 0, 1) := by decide +kernel
theorem zOr_1 : decode cJx29ce0_ordinal_8abf5 1 = .ok (.getfield 7, 3) := by decide +kernel
theorem zOr_4 : decode cJx29ce0_ordinal_8abf5 4 = .ok (.ireturn, 1) := by decide +kernel
theorem zGT_ord : Cond.code yJx29ce0_ordinal_8abf5 cJx29ce0_ordinal_8abf5 1 (some .int) ∈ GT ∧ Cond.fieldLink "java/lang/Enum" 7 "java/lang/Enum" "ordinal" "I" ∈ GT ∧ Cond.sameMethod "MasterPins$Word" "java/lang/Enum" "ordinal" "()I" ∈ GT ∧
    Cond.selects "MasterPins$Word" ⟨"MasterPins$Word", "ordinal", "()I"⟩ yJx29ce0_ordinal_8abf5 ∈ GT ∧ Cond.instanceMethod yJx29ce0_ordinal_8abf5 ∈ GT := by
  refine ⟨?_, ?_, ?_, ?_, ?_⟩
  · decide +kernel
  · decide +kernel
  · decide +kernel
  · decide +kernel
  · decide +kernel
section ZOrd
variable {p : Program} {l : Launch} {e : Env} {R : Room} {s : State} {m : MethodId} {sargs : Array Value} {below : List Frame} {meth : Method} {c : Code} {locs : List Loc} {cells slots : Nat}
set_option maxHeartbeats 4000000 in
theorem zOrd_walk {U : State} (X : Stand p l e R s m sargs below meth c U locs cells slots) (hexec : p.tables.exec = Jvm.exec) {g : JFrame} {ig : Instr} {mk : MethodId} {b : Nat} {k : Int32} {A : Nat → Prop} (hg : g.method = m) (hsize : g.locals.size = c.maxLocals) (hdg : decode c.code g.pc = .ok (ig, 3))
    (hW : 2 * g.monitorRoom + (g.stack.map fun v => v.category).sum ≤ 8) (hfr : 1 ≤ R.frames) (hlo : 20 ≤ R.locals) (hcells : cells ≤ R.cells) (hslots : slots ≤ R.slots)
    (hn : U.methodNamed? yJx29ce0_ordinal_8abf5 = some mk) (hcode : (Cond.code yJx29ce0_ordinal_8abf5 cJx29ce0_ordinal_8abf5 1 (some .int)).before #[.ref b] U = true) (hlink : (Cond.fieldLink "java/lang/Enum" 7 "java/lang/Enum" "ordinal" "I").before #[.ref b] U = true)
    (hOF : va_OF "java/lang/Enum" "ordinal" "I" (.int k) b A U U.heap) :
    ∃ U' : State, U'.heap = U.heap ∧ Stand p l e R s m sargs below meth c U' locs cells slots ∧ ∀ target, Steps p.tables e below (U'.setTop { g with pc := g.pc + 3, stack := .int k :: g.stack }) target → Steps p.tables e below (doInvoke e (U.setTop g) [] mk #[.ref b]).1 target := by
  obtain ⟨methY, cY, hmY, hcY, hbY, hlY, hretY, hlockY, htabY, hsigY⟩ := Cond.code_spec hn hcode
  have h : At U g.method c below := by rw [hg]; exact X.here
  have hplain : U.plainMethod mk := State.plainMethod.of_named (s := U) (x := yJx29ce0_ordinal_8abf5) (by decide) hn hmY
  have hAt := At.enter (g := g) h (m := mk) (meth := methY) (code := cY) #[.ref b] hmY hcY hplain
  have hroom := X.notFull (g := g) hsize (vars := cY.maxLocals) hfr (by rw [hlY]; omega)
  have hdo := doInvoke_enter (e := e) (g := g) h.top (m := mk) (args := #[.ref b]) [] hmY hcY hlockY hroom
  have hfe := frames_entered (g := g) h.top (.java (entryFrame mk #[.ref b] cY.maxLocals))
  obtain ⟨g₀, hg0⟩ := Option.isSome_iff_exists.mp h.top
  obtain ⟨r, hr⟩ := State.topJava?_eq_some.mp hg0
  have htail : U.frames.tail = below := X.tail
  have hcall := State.calling_eq h.top g mk #[.ref b]
  have hs1 : (U.setTop g).pushFrame (.java (entryFrame mk #[.ref b] cY.maxLocals)) = (U.calling g mk #[.ref b]).setFrames (.java (entryFrame mk #[.ref b] cY.maxLocals) :: .java g :: below) := by
    rw [hcall, State.setFrames_setFrames, State.pushFrame, State.frames_setTop _ hr, State.setTop_of_frames _ hr, State.setFrames_setFrames, ← htail, hr]
    rfl
  obtain ⟨tt, htt, -⟩ := State.frames_cons (show (U.calling g mk #[.ref b]).frames = .invoking mk #[.ref b] :: .java g :: U.frames.tail from State.frames_calling h.top g mk #[.ref b])
  have hfrS : (U.calling g mk #[.ref b]).frames = .invoking mk #[.ref b] :: .java g :: below := by rw [State.frames_calling h.top g mk #[.ref b], htail]
  have hcodeS : (U.calling g mk #[.ref b]).code? g.method = some c := by
    have := h.code
    rw [State.code?_eq] at this ⊢
    simpa [State.calling, State.pushFrame, State.setFrames] using this
  generalize hS : U.calling g mk #[.ref b] = S at hs1 htt hfrS hcodeS
  have hSvm : S.vm = U.vm := by rw [← hS]; rfl
  have hSheap : S.heap = U.heap := by rw [← hS]; rfl
  have X2 : Stand p l e ({ frames := 0, cells := 0, slots := 0, locals := 0 } : Room) S mk #[.ref b] (.java g :: below) methY cY (S.setFrames (.java (entryFrame mk #[.ref b] cY.maxLocals) :: .java g :: below)) [] 0 0 := by
    refine ⟨X.admits, X.cas, X.clock, hfrS, ?_, ?_, by rw [hSvm]; exact hmY, hcY, ?_, ?_, by exact State.WarmedH.refl S, by rw [State.stackLimits_setFrames], by rw [State.stackBytes_setFrames], ?_⟩
    · rw [← hS]
      exact X.room_calling hsize hmY hcY hfr (by rw [hlY]; show _ + 0 ≤ _; omega) hcells hslots
    · simp [State.hears, hcodeS, hdg, Except.toOption]
    · rw [← hs1]
      obtain ⟨a1, a2, a3, a4, a5, a6, a7⟩ := hAt
      exact ⟨a1, ⟨[], by rw [hfe, htail]; rfl⟩, a3, a4, a5, a6, a7⟩
    · rw [State.frames_setFrames _ (State.cur_lt_of_frames hfrS)]; rfl
    · exact (State.sameButNew.refl S htt).setFrames (.java (entryFrame mk #[.ref b] cY.maxLocals) :: .java g :: below) (State.cur_lt_of_frames hfrS)
  have hl := lv_entry ([.ref b]) (n := 1) (Nat.le_of_ble_eq_true rfl)
  have hK : W p l e ({ frames := 0, cells := 0, slots := 0, locals := 0 } : Room) S mk #[.ref b] (.java g :: below) methY cY S.heap [] 0 0 (MQ (.java g :: below) (vp_Si (fun r => r = k)) #[.ref b] S 0 0 (fun _ => False)) (entryFrame mk #[.ref b] 1) := by
    have he : entryFrame mk #[.ref b] 1 = entryFrame mk (([.ref b] : List Value).toArray) 1 := rfl
    rw [he, lg_entry_eq]
    generalize (lg_sl ([.ref b]) ++ List.replicate (1 - (lg_sl ([.ref b])).length) Slot.unset).toArray = ls at hl ⊢
    have hl : lv_has ls 1 [(0, .ref b)] := hl
    refine lv_aload_n hexec hbY zOr_0 rfl (lv_at hl 0 rfl) ?_
    obtain ⟨cf, kc, fi, f, cell, b1, b2, b3, b4, b5, b6⟩ := hOF
    have hnS : S.methodNamed? yJx29ce0_ordinal_8abf5 = some mk := by rw [← hS]; exact hn
    have hfcS : S.vm.findClass "java/lang/Enum" = some mk.cls := findClass_of_methodNamed hnS
    refine W.getf hexec hbY (own := "java/lang/Enum") (ref := "java/lang/Enum") (name := "ordinal") (desc := "I") hfcS (by rw [← hS]; exact hlink) (cf := cf) (k := kc) (i := fi) (f := f) (by rw [← hS]; exact b1) b2 (by rw [hSheap]; exact b3) b4 (v := .int k) b5 rfl rfl zOr_1 ?_
    exact W.iret (v := k) hexec hbY hretY (fun t ht hW => ⟨k, rfl, rfl, ht⟩) (fun _ h => by cases h) zOr_4 hlockY
  obtain ⟨s₂, hsteps, o, hrun2, hend, ⟨r0, ho, hr0, hheap2⟩, L, hfe2, hL⟩ := hK (S.setFrames (.java (entryFrame mk #[.ref b] cY.maxLocals) :: .java g :: below)) rfl X2
  have hL0 : L = [] := by
    cases L with
    | nil => rfl
    | cons x L => exact (hL x List.mem_cons_self).elim
  subst hL0
  subst hr0
  subst ho
  obtain ⟨-, hW₂, e2, q2, q3, q4, q5, q6⟩ := id hfe2
  have hr' : (({ U with heap := s₂.heap, slotsUsed := s₂.slotsUsed } : State).setVm s₂.vm).frames = .java g₀ :: r := hr
  have e3 : s₂ = ({ S.setFrames s₂.frames with heap := s₂.heap, slotsUsed := s₂.slotsUsed } : State).setVm s₂.vm := by
    have : s₂ = ({ s₂ with vm := S.vm } : State).setVm s₂.vm := rfl
    rw [e2] at this
    exact this
  obtain ⟨c₂, i₂, len₂, hc₂, hd₂, hf₂⟩ := hend
  have hW' : U.WarmedH s₂.vm := by
    have : (U.calling g mk #[.ref b]).WarmedH s₂.vm := by rw [hS]; exact hW₂
    exact this
  have hcc : c₂ = c := by
    have h1 : s₂.code? g.method = U.code? g.method := by
      rw [State.code?_eq, State.code?_eq, hW'.alike.method?]
    exact Option.some.inj (hc₂.symm.trans (h1.trans h.code))
  subst hcc
  have hlen : len₂ = 3 := by rw [hdg] at hd₂; cases hd₂; rfl
  subst hlen
  have hs₂ : s₂ = (({ U with heap := s₂.heap, slotsUsed := s₂.slotsUsed } : State).setVm s₂.vm).setTop { g with pc := g.pc + 3, stack := .int r0 :: g.stack } := by
    refine e3.trans ?_
    rw [hf₂, ← hS, State.calling_eq h.top, State.setFrames_setFrames, State.setTop_of_frames _ hr', ← htail, hr]
    rfl
  have hsame : U.sameButNew ({ U with heap := s₂.heap, slotsUsed := s₂.slotsUsed } : State) [] 0 0 := by
    rw [← hS] at q2 q3 q4 q5 q6
    refine ⟨?_, q2, q3, q4, q5, q6⟩
    obtain ⟨t, ht, -⟩ := State.frames_cons hr
    show ({ U with heap := s₂.heap, slotsUsed := s₂.slotsUsed } : State) = { U.setFrames U.frames with heap := s₂.heap, slotsUsed := s₂.slotsUsed }
    rw [State.setFrames_self ht]
  subst hg
  refine ⟨(({ U with heap := s₂.heap, slotsUsed := s₂.slotsUsed } : State).setVm s₂.vm), by show s₂.heap = U.heap; rw [hheap2, hSheap], ?_, fun target ht => ?_⟩
  · have X3 : Stand p l e R s g.method sargs below meth c₂ (({ U with heap := s₂.heap, slotsUsed := s₂.slotsUsed } : State).setVm s₂.vm) (locs ++ []) (cells + 0) (slots + 0) :=
      ⟨X.admits, X.cas, X.clock, X.frames, X.room, X.hears, X.method, X.code, (X.here.setHeapUsed s₂.heap s₂.slotsUsed).setVm hW'.alike, X.tail, State.WarmedH.trans X.warmed hW', X.limits, X.bytes, X.same.trans (hsame.setVm s.vm)⟩
    rw [List.append_nil] at X3
    exact X3
  · rw [hdo, hs1]
    refine Steps.trans (s₂ := s₂) (Steps.weaken (mid := [.java g]) ?_) ?_
    · rw [hlY] at hsteps ⊢; exact hsteps
    · rw [hs₂]; exact ht
variable {args : Array Value} {H : Heap} {Q : State → Prop} {base : Nat} {φ : Nat → Nat} {D : va_G} {dA : Nat → ClassId} {cE : Nat → Option zE} {q : zM} {c0 s0 : Nat} {ls ls' : zL} {w w' : zW} {lsC : Array Slot} {pc pc' : Nat} {st st' : List Value}
theorem zs_ord (C : zCtx p l q s m args meth c) (K : zK base φ D dA cE s) {i : Nat} (hq : zq i = some q) (hI : zI base φ D dA cE q s c0 s0 ls w lsC H locs cells slots) {k j n0 v : Nat} (hl : zCT.lookup (q.2.2.2.2.2.1, k) = some (3, j, n0, v)) (hd : decode q.2.1 pc = .ok (.invokevirtual k, 3))
    (hR : zfr q ≤ R.frames ∧ zlo q ≤ R.locals) (hcap : w.1.1 ≤ c0 + R.cells ∧ w.1.2.1 ≤ s0 + R.slots) (h : zord q pc ls st w = some (.inl (pc', ls', st', w'))) (kk : zGo p l e R s m args below meth c Q base φ D dA cE q c0 s0 pc' ls' st' w') : W p l e R s m args below meth c H locs cells slots Q (F0 m pc lsC (st.map (zval φ))) := by
  obtain ⟨hx, hb, hr, hml, hown, hts, -⟩ := C
  unfold zord at h
  split at h
  · rename_i a r
    split at h
    · rename_i v0 v1 kk0 hfs
      split at h
      · rename_i hc
        obtain ⟨hcat, hf1, hf2⟩ := hc
        obtain ⟨rfl, rfl, rfl, rfl⟩ := znx_inv h
        obtain ⟨own, y, e1, e2, -, -, -, -, e3, -⟩ := zCT_at hl
        have := zown hq e1
        subst this
        have := e3 rfl
        subst this
        have h6 := hI.2.1.2.2 _ _ (zobj_inv hfs)
        unfold zcell at h6
        simp only [if_neg (show ¬ 100 < 7 by omega)] at h6
        obtain ⟨cf, g1, g2, g3, g4, g5⟩ := K.2.2.1 _ _ h6
        have hcf : cf = [("MasterPins$Word", "letters", "Ljava/lang/String;"), ("MasterPins$Word", "numbers", "I"), ("java/lang/Enum", "ordinal", "I")] := (Option.some.inj g1).symm
        subst hcf
        have hOF := g3 2 _ _ _ _ rfl rfl
        simp only [if_true] at g5
        obtain ⟨o1, o2, o3, o4, o5⟩ := zGT_ord
        obtain ⟨r0, r1, hn, hrm, hstR, hsigR⟩ := va_Decl.of (hts _ o5) (hts _ o1)
        obtain ⟨cn, ck, r2, hcn, hck, hni, hf, hn1⟩ := Cond.sameMethod_found (hts _ o3)
        cases hn.symm.trans hn1
        obtain ⟨mk, methM, hnamed, hmethM, -, habM⟩ := Cond.instanceMethod_spec (hts _ o5)
        obtain ⟨c2, r3, m2, q1, q2, q3, q4, kP, hkP, hkPi⟩ := Cond.selects_spec (hts _ o4)
        obtain ⟨cellB, hcB, hoB, hclB, -⟩ := g5.kept hI.2.2.1.2.1
        cases hclB.symm.trans q1
        cases hf.symm.trans q2
        cases hnamed.symm.trans q3
        intro T hT X
        have hselP : selectMethod e.platform s.vm cellB.cls r0 = .method mk := by rw [Launch.admits_selectMethod X.admits]; exact q4
        obtain ⟨vm₁, X₁, hstep₁⟩ := X.invokevirtualUp hx hown (hts _ e2) (hts _ o3) ⟨by decide, by decide⟩ hn hrm hstR (a := φ a) (cell := cellB) (by rw [hT]; exact hcB)
          (fun z h => by rw [h] at hoB; cases hoB) hselP hmethM habM hkP hkPi (g := F0 m pc lsC ((Value.ref a :: r).map (zval φ))) rfl (argsL := []) (rest := r.map (zval φ)) (by
            have : (parseMethodDescriptor "()I").map (fun d => d.parameters.length) = some 0 := by decide +kernel
            rw [show parseMethodDescriptor "()I" = some r1.sig from hsigR] at this
            exact (Option.some.inj this).symm) rfl (by rw [hb]; exact hd)
        have hUheap : (T.setVm vm₁).heap = H := hT
        obtain ⟨U', hU', X', hgo⟩ := zOrd_walk X₁ hx (g := F0 m pc lsC (r.map (zval φ))) (ig := .invokevirtual k) (mk := mk) (b := φ a) (k := kk0) (A := fun q => base ≤ q) rfl (by rw [hml]; exact hI.1.2.1) (by rw [hb]; exact hd)
          (by rw [zcats_map]; show 2 * 0 + zcats r ≤ 8; omega) (by omega) (by omega) (by have := hI.2.2.2.1; omega) (by have := hI.2.2.2.2; omega) (X₁.named hnamed) (zGT_move hts _ o1 _ _ X₁.warmed) (zGT_move hts _ o2 _ _ X₁.warmed)
          (by rw [hUheap]; exact (hOF.moved X₁.warmed.alike).kept hI.2.2.1.2.1)
        obtain ⟨t2, a1, b1⟩ := kk _ _ _ _ _ hI U' (hU'.trans hUheap) X'
        exact ⟨t2, hstep₁ _ fun acts => by rw [doInvoke_state]; exact hgo _ a1, b1⟩
      · cases h
    · cases h
  · cases h
end ZOrd
