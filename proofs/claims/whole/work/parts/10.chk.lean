/-! String's checkIndex, where it finds nothing -/
theorem zGT_move {args : Array Value} {s : State} (hts : ∀ w ∈ GT, w.before args s = true) : ∀ w ∈ GT, ∀ (a' : Array Value) (U : State), s.WarmedH U.vm → w.before a' U = true :=
  fun w hw a' U hW => word_at hW (good_of_word (List.mem_filter.mp hw).2) (hts w hw)
theorem zGT_chk : Cond.code yJ0_checkIndex_df160 cJ0_checkIndex_df160 2 none ∈ GT ∧ Cond.static yJ0_checkIndex_df160 ∈ GT ∧ Cond.initialized "java/lang/String" ∈ GT ∧
    Cond.code yJ3_checkIndex_8e157 cJ3_checkIndex_8e157 3 (some .int) ∈ GT ∧ Cond.static yJ3_checkIndex_8e157 ∈ GT ∧ Cond.initialized "jdk/internal/util/Preconditions" ∈ GT ∧
    Cond.methodLink "java/lang/String" 1059 yJ3_checkIndex_8e157 ∈ GT ∧ Cond.fieldLink "java/lang/String" 1053 "jdk/internal/util/Preconditions" "SIOOBE_FORMATTER" "Ljava/util/function/BiFunction;" ∈ GT := by decide +kernel
theorem zcI_0 : decode cJ0_checkIndex_df160 0 = .ok (.iload_n 0, 1) := by decide +kernel
theorem zcI_1 : decode cJ0_checkIndex_df160 1 = .ok (.iload_n 1, 1) := by decide +kernel
theorem zcI_2 : decode cJ0_checkIndex_df160 2 = .ok (.getstatic 1053, 3) := by decide +kernel
theorem zcI_5 : decode cJ0_checkIndex_df160 5 = .ok (.invokestatic 1059, 3) := by decide +kernel
theorem zcI_8 : decode cJ0_checkIndex_df160 8 = .ok (.pop, 1) := by decide +kernel
theorem zcI_9 : decode cJ0_checkIndex_df160 9 = .ok (.return_, 1) := by decide +kernel
theorem zcP_0 : decode cJ3_checkIndex_8e157 0 = .ok (.iload_n 0, 1) := by decide +kernel
theorem zcP_1 : decode cJ3_checkIndex_8e157 1 = .ok (.ifCond .lt 8, 3) := by decide +kernel
theorem zcP_4 : decode cJ3_checkIndex_8e157 4 = .ok (.iload_n 0, 1) := by decide +kernel
theorem zcP_5 : decode cJ3_checkIndex_8e157 5 = .ok (.iload_n 1, 1) := by decide +kernel
theorem zcP_6 : decode cJ3_checkIndex_8e157 6 = .ok (.if_icmp .lt 10, 3) := by decide +kernel
theorem zcP_16 : decode cJ3_checkIndex_8e157 16 = .ok (.iload_n 0, 1) := by decide +kernel
theorem zcP_17 : decode cJ3_checkIndex_8e157 17 = .ok (.ireturn, 1) := by decide +kernel
section ZChk
variable {p : Program} {l : Launch} {e : Env} {R : Room} {s : State} {m : MethodId} {args : Array Value} {below : List Frame} {meth : Method} {c : Code} {H : Heap} {locs : List Loc} {cells slots : Nat} {Q : State → Prop}
theorem zW_si {post : Int32 → Prop} {pc : Nat} {ls : Array Slot} {st0 rest : List Value} {a : Array Value} (hr : va_Run p l e R s m args below meth c H locs cells slots 0 0 (F0 m pc ls st0) rest (vp_Si post a) (fun _ => False))
    (kk : ∀ r, post r → W p l e R s m args below meth c H locs cells slots Q (F0 m (pc + 3) ls (.int r :: rest))) : W p l e R s m args below meth c H locs cells slots Q (F0 m pc ls st0) := by
  intro T hT X
  obtain ⟨v, st₀, t, T', L, h0, X', hL, e1, e2, ⟨r, hv, hp, hh⟩, st⟩ := hr T hT X
  cases hv
  cases L with
  | nil =>
    rw [List.append_nil] at X'
    obtain ⟨t2, a1, b1⟩ := kk r hp T' (e1.trans (hh.trans h0)) X'
    exact ⟨t2, st t2 a1, b1⟩
  | cons x L => exact (hL x List.mem_cons_self).elim
theorem zW_sv {post : Unit → Prop} {pc : Nat} {ls : Array Slot} {st0 rest : List Value} {a : Array Value} (hr : va_Run p l e R s m args below meth c H locs cells slots 0 0 (F0 m pc ls st0) rest (va_Sv post a) (fun _ => False))
    (kk : W p l e R s m args below meth c H locs cells slots Q (F0 m (pc + 3) ls rest)) : W p l e R s m args below meth c H locs cells slots Q (F0 m pc ls st0) := by
  intro T hT X
  obtain ⟨v, st₀, t, T', L, h0, X', hL, e1, e2, ⟨hv, hp, hh⟩, st⟩ := hr T hT X
  cases hv
  cases L with
  | nil =>
    rw [List.append_nil] at X'
    obtain ⟨t2, a1, b1⟩ := kk T' (e1.trans (hh.trans h0)) X'
    exact ⟨t2, st t2 a1, b1⟩
  | cons x L => exact (hL x List.mem_cons_self).elim
set_option maxRecDepth 100000 in
set_option maxHeartbeats 4000000 in
theorem zc_pre (l : Launch) (i n : Int32) (v : Value) (h0 : ¬ i < 0) (h1 : i < n) (hv : v.category = 1) : Met l yJ3_checkIndex_8e157 (.code yJ3_checkIndex_8e157 cJ3_checkIndex_8e157 3 (some .int) :: GT) ({ frames := 0, cells := 0, slots := 0, locals := 0 }) (va_Pc [.int i, .int n, v] (fun _ => True)) (vp_Si (fun r => r = i)) 0 0 (fun _ => False) := by
  refine Met.ofW (cc := cJ3_checkIndex_8e157) (maxL := 3) (ret := some .int) (by decide) rfl ?_
  intro p e s m args below meth c s₁ B hml hv'
  obtain ⟨rfl, -⟩ := hv'
  have hx := B.exec
  have hb := B.bytes
  have hr := B.returns
  have hlocks := B.notSynchronized
  have hl := lv_entry ([.int i, .int n, v]) (n := 3) (by cases v <;> simp [lg_sl, Value.category] at hv ⊢)
  rw [lg_entry_eq]
  generalize (lg_sl ([.int i, .int n, v]) ++ List.replicate (3 - (lg_sl ([.int i, .int n, v])).length) Slot.unset).toArray = ls at hl ⊢
  have hi : ls[0]? = some (.val (.int i)) := hl.2.2 (0, .int i) (by simp [lv_args])
  have hn : ls[1]? = some (.val (.int n)) := hl.2.2 (1, .int n) (by simp [lv_args, Value.category])
  refine lv_iload_n hx hb zcP_0 rfl hi ?_
  refine lv_if_lt (tgt := 9) hx hb zcP_1 (by decide) (fun h => absurd h h0) (fun _ => ?_)
  refine lv_iload_n hx hb zcP_4 rfl hi ?_
  refine lv_iload_n hx hb zcP_5 rfl hn ?_
  refine lv_icmp_lt (tgt := 16) hx hb zcP_6 (by decide) (fun _ => ?_) (fun h => absurd h1 h)
  refine lv_iload_n hx hb zcP_16 rfl hi ?_
  exact W.iret (v := i) hx hb hr (fun t ht hW => ⟨i, rfl, rfl, ht⟩) (fun _ h => by cases h) zcP_17
theorem zFB {av : List Value} {P : State → Prop} (h : ∀ (a : Array Value) (U : State) (g : JFrame) (mk : MethodId), P U → P (U.calling g mk a)) : FrameBlind (va_Pc av P) := fun a U g mk q => ⟨q.1, h a U g mk q.2⟩
set_option maxRecDepth 100000 in
set_option maxHeartbeats 4000000 in
theorem zc_chk (l : Launch) (A : Nat → Prop) (i n : Int32) (h0 : ¬ i < 0) (h1 : i < n) : Met l yJ0_checkIndex_df160 (.code yJ0_checkIndex_df160 cJ0_checkIndex_df160 2 none :: GT) ({ frames := 1, cells := 0, slots := 0, locals := 22 }) (va_Pc [.int i, .int n] (fun U => va_Zq "jdk/internal/util/Preconditions" "SIOOBE_FORMATTER" "Ljava/util/function/BiFunction;" A U U.heap)) (va_Sv (fun _ => True)) 0 0 (fun _ => False) := by
  refine Met.ofW (cc := cJ0_checkIndex_df160) (maxL := 2) (ret := none) (by decide) rfl ?_
  intro p e s m args below meth c s₁ B hml hv'
  obtain ⟨rfl, hZ⟩ := hv'
  have hx := B.exec
  have hb := B.bytes
  have hr := B.returns
  have hts0 := atoms_spec (ws := .code yJ0_checkIndex_df160 cJ0_checkIndex_df160 2 none :: GT) B.pre
  have hts : ∀ w ∈ GT, w.before (([Value.int i, Value.int n] : List Value).toArray) s = true := fun w h => hts0 w (List.mem_cons_of_mem _ h)
  have hown : s.vm.findClass "java/lang/String" = some m.cls := findClass_of_methodNamed B.named
  have hlocks := B.notSynchronized
  have hl := lv_entry ([.int i, .int n]) (n := 2) (Nat.le_of_ble_eq_true rfl)
  rw [lg_entry_eq]
  generalize (lg_sl ([.int i, .int n]) ++ List.replicate (2 - (lg_sl ([.int i, .int n])).length) Slot.unset).toArray = ls at hl ⊢
  have hl : lv_has ls 2 [(0, .int i), (1, .int n)] := hl
  obtain ⟨g1, g2, g3, g4, g5, g6, g7, g8⟩ := zGT_chk
  have go : ∀ v : Value, v.category = 1 → W p l e (headSpec (.code yJ0_checkIndex_df160 cJ0_checkIndex_df160 2 none :: GT) ({ frames := 1, cells := 0, slots := 0, locals := 22 } : Room)).room s m (([Value.int i, Value.int n] : List Value).toArray) below meth c s.heap [] 0 0 (MQ below (va_Sv (fun _ => True)) (([Value.int i, Value.int n] : List Value).toArray) s 0 0 (fun _ => False)) (F0 m 5 ls [v, .int n, .int i]) := by
    intro v hv
    refine zW_si (post := fun r => r = i) (rest := []) (va_runS (As := [.int i, .int n, v]) (n := 3) (nL := 2) (Ts := GT) (own := "java/lang/String") (y := yJ3_checkIndex_8e157) (bytes := cJ3_checkIndex_8e157) (maxL := 3) (ret := some .int) ⟨hx, hb, hml, hown, hts⟩ (zc_pre l i n v h0 h1 hv) ⟨⟨rfl, rfl, Nat.le_of_ble_eq_true rfl, Nat.le_of_ble_eq_true rfl, ?_, List.mem_cons_self, hts _ g4, hts _ g6, ⟨by decide, by decide⟩, ?_, hts _ g7⟩, hts _ g5⟩ ⟨zFB (fun _ _ _ _ h => h), fun U _ _ => ⟨rfl, trivial⟩⟩ rfl rfl hl.1 rfl (Nat.le_of_ble_eq_true rfl) zcI_5 ⟨Nat.le_refl _, Nat.le_refl _⟩) (fun r hr' => ?_)
    · intro w hw
      rcases List.mem_cons.mp hw with rfl | hw
      · exact zGT_move hts _ g4
      · exact zGT_move hts _ hw
    · intro sig hsig
      have : (parseMethodDescriptor yJ3_checkIndex_8e157.desc).map (fun d => d.parameters.length) = some 3 := by decide +kernel
      rw [hsig] at this
      exact (Option.some.inj this).symm
    · refine lv_pop hx hb zcI_8 rfl ?_
      exact W.vret hx hb hr (fun t ht hW => ⟨rfl, trivial, ht⟩) (fun _ h => by cases h) zcI_9
  refine lv_iload_n hx hb zcI_0 rfl (lv_at hl 0 rfl) ?_
  refine lv_iload_n hx hb zcI_1 rfl (lv_at hl 1 rfl) ?_
  rcases hZ with hZ | ⟨t, hZ⟩
  · exact va_gets (A := A) (H := s.heap) (locs := []) hx hb hZ va_S.rf hown (hts _ g8) (fun x h => h) zcI_2 (go .null rfl)
  · exact va_gets (A := A) (H := s.heap) (locs := []) hx hb hZ va_S.rf hown (hts _ g8) (fun x h => h) zcI_2 (go (.ref t) rfl)
end ZChk
section ZChk2
variable {p : Program} {l : Launch} {e : Env} {R : Room} {s : State} {m : MethodId} {args : Array Value} {below : List Frame} {meth : Method} {c : Code} {H : Heap} {locs : List Loc} {cells slots : Nat} {Q : State → Prop}
variable {base : Nat} {φ : Nat → Nat} {D : va_G} {dA : Nat → ClassId} {cE : Nat → Option zE} {q : zM} {c0 s0 : Nat} {ls ls' : zL} {w w' : zW} {lsC : Array Slot} {pc pc' : Nat} {st st' : List Value}
theorem zs_chk (C : zCtx p l q s m args meth c) (K : zK base φ D dA cE s) {i : Nat} (hq : zq i = some q) (hI : zI base φ D dA cE q s c0 s0 ls w lsC H locs cells slots) {k j n0 v : Nat} (hl : zCT.lookup (q.2.2.2.2.2.1, k) = some (12, j, n0, v)) (hd : decode q.2.1 pc = .ok (.invokestatic k, 3))
    (hR : zfr q ≤ R.frames ∧ zlo q ≤ R.locals) (hcap : w.1.1 ≤ c0 + R.cells ∧ w.1.2.1 ≤ s0 + R.slots) (h : zchk q pc ls st w = some (.inl (pc', ls', st', w'))) (kk : zGo p l e R s m args below meth c Q base φ D dA cE q c0 s0 pc' ls' st' w') : W p l e R s m args below meth c H locs cells slots Q (F0 m pc lsC (st.map (zval φ))) := by
  obtain ⟨hx, hb, hr, hml, hown, hts, -⟩ := C
  unfold zchk at h
  split at h
  · rename_i n i' r
    split at h
    · rename_i hc
      obtain ⟨h0, h1, hcat, hf1, hf2⟩ := hc
      obtain ⟨rfl, rfl, rfl, rfl⟩ := znx_inv h
      obtain ⟨own, y, e1, e2, -, -, -, e3, -⟩ := zCT_at hl
      have := zown hq e1
      subst this
      have := e3 rfl
      subst this
      obtain ⟨g1, g2, g3, -⟩ := zGT_chk
      refine zW_sv (post := fun _ => True) (rest := r.map (zval φ)) (va_runS (As := [.int i', .int n]) (n := 2) (nL := q.2.2.1) (Ts := GT) (own := q.1.cls) (y := yJ0_checkIndex_df160) (bytes := cJ0_checkIndex_df160) (maxL := 2) (ret := none) ⟨hx, hb, hml, hown, hts⟩ (zc_chk l (fun q => base ≤ q) i' n h0 h1) ⟨⟨rfl, rfl, by show 1 + 1 ≤ _; omega, by show 8 + (2 + 11) + 22 ≤ _; omega, ?_, List.mem_cons_self, hts _ g1, hts _ g3, ⟨by decide, by decide⟩, ?_, hts _ e2⟩, hts _ g2⟩ ⟨zFB (fun a U g mk h => h), fun U hU hW => ⟨rfl, ?_⟩⟩ rfl rfl hI.1.2.1 rfl (lv_room (by rw [zcats_map]; exact hcat)) hd ⟨?_, ?_⟩) (kk _ _ _ _ _ hI)
      · intro w hw
        rcases List.mem_cons.mp hw with rfl | hw
        · exact zGT_move hts _ g1
        · exact zGT_move hts _ hw
      · intro sig hsig
        have : (parseMethodDescriptor yJ0_checkIndex_df160.desc).map (fun d => d.parameters.length) = some 2 := by decide +kernel
        rw [hsig] at this
        exact (Option.some.inj this).symm
      · exact (va_Zq.moved hW.alike K.2.2.2.2.2.2.2.1).kept (by rw [hU]; exact hI.2.2.1.2.1)
      · have := hI.2.2.2.1; omega
      · have := hI.2.2.2.2; omega
    · cases h
  · cases h
end ZChk2
