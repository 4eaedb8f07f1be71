theorem znx_in {pc : Nat} {ls : zL} {st : List Value} {w : zW} {x : zR ⊕ (Nat × List Value × List Value)} (h : znx pc ls st w = some (.inr x)) : False := by unfold znx at h; cases h
theorem zldA_in {ls : zL} {k pc : Nat} {st : List Value} {w : zW} {x : zR ⊕ (Nat × List Value × List Value)} (h : zldA ls k pc st w = some (.inr x)) : False := by
  unfold zldA at h
  repeat' split at h
  all_goals first | exact znx_in h | cases h
theorem zldI_in {ls : zL} {k pc : Nat} {st : List Value} {w : zW} {x : zR ⊕ (Nat × List Value × List Value)} (h : zldI ls k pc st w = some (.inr x)) : False := by
  unfold zldI at h
  repeat' split at h
  all_goals first | exact znx_in h | cases h
theorem zldL_in {ls : zL} {k pc : Nat} {st : List Value} {w : zW} {x : zR ⊕ (Nat × List Value × List Value)} (h : zldL ls k pc st w = some (.inr x)) : False := by
  unfold zldL at h
  repeat' split at h
  all_goals first | exact znx_in h | cases h
theorem zb2_in {ls : zL} {pc : Nat} {f : Int32 → Int32 → Int32} {st : List Value} {w : zW} {x : zR ⊕ (Nat × List Value × List Value)} (h : zb2 ls pc f st w = some (.inr x)) : False := by
  unfold zb2 at h
  repeat' split at h
  all_goals first | exact znx_in h | cases h
theorem zst_in {hl : Bool} {pc : Nat} {ls : zL} {k : Nat} {v : Value} {st : List Value} {w : zW} {x : zR ⊕ (Nat × List Value × List Value)} (h : zst hl pc ls k v st w = some (.inr x)) : False := by
  unfold zst at h
  repeat' split at h
  all_goals first | exact znx_in h | cases h
theorem zstL_in {hl : Bool} {pc : Nat} {ls : zL} {k : Nat} {v : Value} {st : List Value} {w : zW} {x : zR ⊕ (Nat × List Value × List Value)} (h : zstL hl pc ls k v st w = some (.inr x)) : False := by
  unfold zstL at h
  repeat' split at h
  all_goals first | exact znx_in h | cases h
theorem zbr_in {b : Bool} {pc : Nat} {off : Int} {ls : zL} {st : List Value} {w : zW} {x : zR ⊕ (Nat × List Value × List Value)} (h : zbr b pc off ls st w = some (.inr x)) : False := by
  unfold zbr at h
  repeat' split at h
  all_goals first | exact znx_in h | cases h
theorem zobjI_in {q : zM} {pc : Nat} {ls : zL} {st : List Value} {w : zW} {x : zR ⊕ (Nat × List Value × List Value)} (h : zobjI q pc ls st w = some (.inr x)) : False := by
  unfold zobjI at h
  repeat' split at h
  all_goals first | exact znx_in h | cases h
theorem zord_in {q : zM} {pc : Nat} {ls : zL} {st : List Value} {w : zW} {x : zR ⊕ (Nat × List Value × List Value)} (h : zord q pc ls st w = some (.inr x)) : False := by
  unfold zord at h
  repeat' split at h
  all_goals first | exact znx_in h | cases h
theorem zcopy_in {q : zM} {pc : Nat} {ls : zL} {st : List Value} {w : zW} {x : zR ⊕ (Nat × List Value × List Value)} (h : zcopy q pc ls st w = some (.inr x)) : False := by
  unfold zcopy at h
  repeat' split at h
  all_goals first | exact znx_in h | cases h
theorem zchk_in {q : zM} {pc : Nat} {ls : zL} {st : List Value} {w : zW} {x : zR ⊕ (Nat × List Value × List Value)} (h : zchk q pc ls st w = some (.inr x)) : False := by
  unfold zchk at h
  repeat' split at h
  all_goals first | exact znx_in h | cases h
theorem zmax_in {q : zM} {pc : Nat} {ls : zL} {st : List Value} {w : zW} {x : zR ⊕ (Nat × List Value × List Value)} (h : zmax q pc ls st w = some (.inr x)) : False := by
  unfold zmax at h
  repeat' split at h
  all_goals first | exact znx_in h | cases h
theorem zabs_in {q : zM} {pc : Nat} {ls : zL} {st : List Value} {w : zW} {x : zR ⊕ (Nat × List Value × List Value)} (h : zabs q pc ls st w = some (.inr x)) : False := by
  unfold zabs at h
  repeat' split at h
  all_goals first | exact znx_in h | cases h
theorem zs_end {q : zM} {i pc : Nat} {I : Instr} {len : Nat} {ls : zL} {st : List Value} {w : zW} {r : zR} (hlen : zlenI I len = true) (h : zstep q i pc I len ls st w = some (.inr (.inl r))) :
    (∃ v, r = (.inl v, w) ∧ zretI q I len v ∧ st = v.toList) ∨ (∃ x k, I = .new k ∧ len = 3 ∧ zXT.lookup (i, pc) = some x ∧ r = (.inr x.1, zthw w) ∧ zcats st ≤ 8 ∧ 6 ≤ zfr q ∧ 90 ≤ zlo q ∧ q.2.2.2.2.1 = []) := by
  have nx : ∀ {pc' : Nat} {ls' : zL} {st' : List Value} {w' : zW}, znx pc' ls' st' w' = some (.inr (.inl r)) → False := fun h => by unfold znx at h; cases h
  have hcall : ∀ {j : Nat} {av rest : List Value}, zcall q j av rest = some (.inr (.inl r)) → False := fun h => by
    unfold zcall at h
    repeat' split at h
    all_goals cases h
  unfold zstep at h
  dsimp only at h
  cases I <;> (try dsimp only at h)
  case ireturn =>
    simp only [zlenI, beq_iff_eq] at hlen; subst hlen
    split at h
    · rename_i v
      unfold zend at h
      split at h
      · rename_i hz
        cases h
        exact Or.inl ⟨_, rfl, Or.inl ⟨rfl, rfl, _, rfl, hz⟩, rfl⟩
      · cases h
    · cases h
  case lreturn =>
    simp only [zlenI, beq_iff_eq] at hlen; subst hlen
    split at h
    · split at h
      · rename_i hz
        unfold zfin at h
        cases h
        exact Or.inl ⟨_, rfl, Or.inr (Or.inl ⟨rfl, rfl, _, rfl, hz⟩), rfl⟩
      · cases h
    · cases h
  case areturn =>
    simp only [zlenI, beq_iff_eq] at hlen; subst hlen
    split at h
    · rename_i a C hz
      unfold zfin at h
      cases h
      exact Or.inl ⟨_, rfl, Or.inr (Or.inr (Or.inl ⟨rfl, rfl, ⟨_, hz⟩, Or.inr ⟨_, rfl⟩⟩)), rfl⟩
    · rename_i C hz
      unfold zfin at h
      cases h
      exact Or.inl ⟨_, rfl, Or.inr (Or.inr (Or.inl ⟨rfl, rfl, ⟨_, hz⟩, Or.inl rfl⟩)), rfl⟩
    · cases h
  case return_ =>
    simp only [zlenI, beq_iff_eq] at hlen; subst hlen
    split at h
    · split at h
      · rename_i hz
        unfold zfin at h
        cases h
        exact Or.inl ⟨none, rfl, Or.inr (Or.inr (Or.inr ⟨rfl, rfl, rfl, hz⟩)), rfl⟩
      · cases h
    · cases h
  case new k =>
    simp only [zlenI, beq_iff_eq] at hlen; subst hlen
    split at h
    · rename_i x hx
      split at h
      · rename_i hc
        cases h
        exact Or.inr ⟨x, k, rfl, rfl, hx, rfl, hc.1, hc.2.1, hc.2.2.1, hc.2.2.2⟩
      · cases h
    · split at h
      · split at h
        · exact (nx h).elim
        · cases h
      · cases h
  all_goals first
    | (cases h; done)
    | exact (znx_in h).elim | exact (zldA_in h).elim | exact (zldI_in h).elim | exact (zldL_in h).elim | exact (zb2_in h).elim | exact (zst_in h).elim | exact (zstL_in h).elim | exact (zbr_in h).elim | exact (zobjI_in h).elim | exact (zord_in h).elim | exact (zcopy_in h).elim | exact (zchk_in h).elim | exact (zmax_in h).elim | exact (zabs_in h).elim
    | (unfold zcallV zcallI zcallS at h; repeat' split at h
       all_goals first | (cases h; done) | exact (hcall h).elim)
    | (repeat' split at h
       all_goals first | (cases h; done) | exact (znx_in h).elim | exact (zldA_in h).elim | exact (zldI_in h).elim | exact (zldL_in h).elim | exact (zb2_in h).elim | exact (zst_in h).elim | exact (zstL_in h).elim | exact (zbr_in h).elim | exact (zobjI_in h).elim | exact (zord_in h).elim | exact (zcopy_in h).elim | exact (zchk_in h).elim | exact (zmax_in h).elim | exact (zabs_in h).elim | (unfold zcallV at h; (repeat' split at h) <;> first | (cases h; done) | exact (hcall h).elim) | (unfold zcallI at h; (repeat' split at h) <;> first | (cases h; done) | exact (hcall h).elim) | (unfold zcallS at h; (repeat' split at h) <;> first | (cases h; done) | exact (hcall h).elim))
theorem zs_call {q : zM} {i pc : Nat} {I : Instr} {len j : Nat} {ls : zL} {st av rest : List Value} {w : zW} (hlen : zlenI I len = true) (h : zstep q i pc I len ls st w = some (.inr (.inr (j, av, rest)))) :
    len = 3 ∧ (∃ qj, zq j = some qj ∧ zroom q qj rest = true) ∧
    ((∃ k n v a, I = .invokevirtual k ∧ zCT.lookup (q.2.2.2.2.2.1, k) = some (0, j, n, v) ∧ st.drop n = .ref a :: rest ∧ av = .ref a :: (st.take n).reverse ∧ (∃ qj fs, zq j = some qj ∧ zobj w a qj.2.2.2.2.2.2.2.2.2 = some fs)) ∨
     (∃ k n v a, I = .invokespecial k ∧ zCT.lookup (q.2.2.2.2.2.1, k) = some (2, j, n, v) ∧ st.drop n = .ref a :: rest ∧ av = .ref a :: (st.take n).reverse) ∨
     (∃ k n v kd, I = .invokestatic k ∧ (kd = 1 ∨ kd = 4) ∧ zCT.lookup (q.2.2.2.2.2.1, k) = some (kd, j, n, v) ∧ n ≤ st.length ∧ rest = st.drop n ∧ av = (st.take n).reverse)) := by
  have nx : ∀ {pc' : Nat} {ls' : zL} {st' : List Value} {w' : zW}, znx pc' ls' st' w' = some (.inr (.inr (j, av, rest))) → False := fun h => by unfold znx at h; cases h
  have hcall : ∀ {j' : Nat} {av' rest' : List Value}, zcall q j' av' rest' = some (.inr (.inr (j, av, rest))) → j' = j ∧ av' = av ∧ rest' = rest ∧ ∃ qj, zq j = some qj ∧ zroom q qj rest = true := fun h => by
    unfold zcall at h
    split at h
    · rename_i qj hq
      split at h
      · rename_i hr
        cases h
        exact ⟨rfl, rfl, rfl, qj, hq, hr⟩
      · cases h
    · cases h
  unfold zstep at h
  dsimp only at h
  cases I <;> (try dsimp only at h)
  case invokevirtual k =>
    simp only [zlenI, beq_iff_eq] at hlen; subst hlen
    split at h
    · rename_i j' n v hl
      unfold zcallV at h
      split at h
      · rename_i a r hd
        split at h
        · rename_i qj hqj
          split at h
          · rename_i fs hfs
            obtain ⟨rfl, rfl, rfl, h2⟩ := hcall h
            exact ⟨rfl, h2, Or.inl ⟨k, n, v, a, rfl, hl, hd, rfl, qj, fs, hqj, hfs⟩⟩
          · cases h
        · cases h
      · cases h
    · unfold zord at h
      repeat' split at h
      all_goals first | (cases h; done) | exact (nx h).elim
    · cases h
  case invokespecial k =>
    simp only [zlenI, beq_iff_eq] at hlen; subst hlen
    split at h
    · rename_i j' n v hl
      unfold zcallI at h
      split at h
      · rename_i a r hd
        obtain ⟨rfl, rfl, rfl, h2⟩ := hcall h
        exact ⟨rfl, h2, Or.inr (Or.inl ⟨k, n, v, a, rfl, hl, hd, rfl⟩)⟩
      · cases h
    · unfold zobjI at h
      repeat' split at h
      all_goals first | (cases h; done) | exact (nx h).elim
    · cases h
  case invokestatic k =>
    simp only [zlenI, beq_iff_eq] at hlen; subst hlen
    split at h
    · rename_i j' n v hl
      unfold zcallS at h
      split at h
      · rename_i hn
        obtain ⟨rfl, rfl, rfl, h2⟩ := hcall h
        exact ⟨rfl, h2, Or.inr (Or.inr ⟨k, n, v, 1, rfl, Or.inl rfl, hl, hn, rfl, rfl⟩)⟩
      · cases h
    · rename_i j' n v hl
      unfold zcallS at h
      split at h
      · rename_i hn
        obtain ⟨rfl, rfl, rfl, h2⟩ := hcall h
        exact ⟨rfl, h2, Or.inr (Or.inr ⟨k, n, v, 4, rfl, Or.inr rfl, hl, hn, rfl, rfl⟩)⟩
      · cases h
    · unfold zcopy at h
      repeat' split at h
      all_goals first | (cases h; done) | exact (nx h).elim
    · unfold zchk at h
      repeat' split at h
      all_goals first | (cases h; done) | exact (nx h).elim
    · unfold zmax at h
      repeat' split at h
      all_goals first | (cases h; done) | exact (nx h).elim
    · unfold zabs at h
      repeat' split at h
      all_goals first | (cases h; done) | exact (nx h).elim
    · cases h
  all_goals first
    | (cases h; done)
    | exact (znx_in h).elim | exact (zldA_in h).elim | exact (zldI_in h).elim | exact (zldL_in h).elim | exact (zb2_in h).elim | exact (zst_in h).elim | exact (zstL_in h).elim | exact (zbr_in h).elim | exact (zobjI_in h).elim | exact (zord_in h).elim | exact (zcopy_in h).elim | exact (zchk_in h).elim | exact (zmax_in h).elim | exact (zabs_in h).elim
    | (repeat' split at h
       all_goals first | (cases h; done) | exact (znx_in h).elim | exact (zldA_in h).elim | exact (zldI_in h).elim | exact (zldL_in h).elim | exact (zb2_in h).elim | exact (zst_in h).elim | exact (zstL_in h).elim | exact (zbr_in h).elim | exact (zobjI_in h).elim | exact (zord_in h).elim | exact (zcopy_in h).elim | exact (zchk_in h).elim | exact (zmax_in h).elim | exact (zabs_in h).elim | (unfold zend at h; (repeat' split at h) <;> cases h) | (unfold zfin at h; cases h))
section ZAll
variable {p : Program} {l : Launch} {e : Env} {R : Room} {s : State} {m : MethodId} {args : Array Value} {below : List Frame} {meth : Method} {c : Code} {H : Heap} {locs : List Loc} {cells slots : Nat} {Q : State → Prop}
variable {base : Nat} {φ : Nat → Nat} {D : va_G} {dA : Nat → ClassId} {cE : Nat → Option zE} {q : zM} {c0 s0 : Nat} {ls ls' : zL} {w w' : zW} {lsC : Array Slot} {pc pc' : Nat} {st st' : List Value}
theorem zFBc (av : List Value) : FrameBlind (va_Pc (av.map (zval φ)) (zPc base φ D dA cE w)) := zFB fun a U g mk h => ⟨h.1, zK_to (u := U) (U := U.calling g mk a) (State.WarmedH.refl U) (fun _ _ _ => rfl) h.2⟩
theorem zstk {n : Nat} {a : Nat} {rest : List Value} (hd : st.drop n = .ref a :: rest) : st.map (zval φ) = ((st.take n).reverse.map (zval φ)).reverse ++ .ref (φ a) :: rest.map (zval φ) ∧ (st.take n).reverse.length = n := by
  constructor
  · rw [← List.map_reverse, List.reverse_reverse]
    have : st.map (zval φ) = (st.take n ++ st.drop n).map (zval φ) := by rw [List.take_append_drop]
    rw [this, hd, List.map_append]
    rfl
  · rw [List.length_reverse, List.length_take]
    have : (st.drop n).length = rest.length + 1 := by rw [hd]; rfl
    rw [List.length_drop] at this
    omega
theorem zRecv (K : zK base φ D dA cE s) (hI : zI base φ D dA cE q s c0 s0 ls w lsC H locs cells slots) {a ci : Nat} {fs : List Value} {cls : String} (ho : zobj w a ci = some fs) (hc : (∃ r, vwCl[ci]? = some r ∧ r.1 = cls) ∨ (ci = 101 ∧ cls = "java/lang/String")) : ∃ cell : Cell, H[φ a]? = some cell ∧ cell.vm.isStatics = false ∧ s.vm.findClass cls = some cell.cls := by
  have hw := zobj_inv ho
  rcases hc with ⟨r, h1, rfl⟩ | ⟨rfl, rfl⟩
  · obtain ⟨-, hP⟩ := zHR_obj hI.2.1 (zcl_get h1).1 hw
    exact va_recv K.1 hP (q0 := 0) h1 rfl
  · have h6 := hI.2.1.2.2 _ _ hw
    unfold zcell at h6
    simp only [if_neg (show ¬ 101 < 7 by omega)] at h6
    obtain ⟨cf, g1, g2, g3, g4, g5⟩ := K.2.2.1 _ _ h6
    simp only [if_neg (show ¬ 101 = 100 by omega), if_true] at g5
    obtain ⟨cell, c1, c2, c3, -⟩ := g5.kept hI.2.2.1.2.1
    exact ⟨cell, c1, c2, c3⟩
set_option maxHeartbeats 1000000 in
theorem zSnd_all (F : ∀ k, 40 ≤ k → φ k = base + (k - 40)) (hfl : l.stackTraces = false) : ∀ n, zSnd l base φ D dA cE n := by
  intro n
  induction n with
  | zero => intro i q pc ls st w r p e s m args below meth c R Q c0 s0 hq C K h; cases h
  | succ n IH =>
    intro i q pc ls st w r p e s m args below meth c R Q c0 s0 hq C K h hc1 hc2 hf hlo hE hT hP lsC H locs cells slots hI
    unfold zrun at h
    rw [hq] at h
    dsimp only at h
    split at h
    · cases h
    · rename_i I len hi
      obtain ⟨hd, hlen⟩ := zins_inv hi
      split at h
      · cases h
      · rename_i pc' ls' st' w' hs
        have hle := zrun_le h
        exact zs_next F C K hq hI hi hs ⟨Nat.le_trans hle.1 hc1, Nat.le_trans hle.2 hc2⟩ ⟨hf, hlo⟩ (IH i q pc' ls' st' w' r p e s m args below meth c R Q c0 s0 hq C K h hc1 hc2 hf hlo hE hT hP)
      · rename_i r' hs
        cases h
        rcases zs_end hlen hs with ⟨v, rfl, hret, rfl⟩ | ⟨x, k, rfl, rfl, hx, hr, g1, g2, g3, g4⟩
        · exact hE v pc I len lsC H locs cells slots rfl hd hret hI.2.1 hI.2.2.1 hI.2.2.2.1 hI.2.2.2.2
        · exact hT x pc k st w ls lsC H locs cells slots hx hr hd g1 g2 g3 g4 hI
      · rename_i j av rest hs
        split at h
        · cases h
        · rename_i qj hqj
          split at h
          · cases h
          · rename_i lj hlj
            obtain ⟨rfl, ⟨qj', hqj', hroom⟩, hkind⟩ := zs_call hlen hs
            cases hqj.symm.trans hqj'
            simp only [zroom, Bool.and_eq_true, decide_eq_true_eq] at hroom
            obtain ⟨⟨hcat, hfr⟩, hloc⟩ := hroom
            -- the callee's run, and what follows it
            have hsplit : ∃ rj, zrun n j 0 lj [] w = some rj ∧ ((∃ v, rj.1 = .inl v ∧ zrun n i (pc + 3) ls (v.toList ++ rest) rj.2 = some r) ∨ (∃ E, rj.1 = .inr E ∧ ((q.2.2.2.2.1 = [] ∧ r = (.inr E, rj.2)) ∨ (q.2.2.2.2.1 ≠ [] ∧ ∃ pc' k, zhnd q pc E q.2.2.2.2.1 = some (pc', k) ∧ k < ls.length ∧ zpre q.2.2.2.2.2.2.2.2.1 ls k = true ∧ zrun n i pc' (ls.set k none) [] rj.2 = some r)))) := by
              split at h
              · cases h
              · rename_i v w' hr
                exact ⟨_, hr, Or.inl ⟨v, rfl, h⟩⟩
              · rename_i E w' hr
                refine ⟨_, hr, Or.inr ⟨E, rfl, ?_⟩⟩
                split at h
                · rename_i hh
                  cases h
                  exact Or.inl ⟨hh, rfl⟩
                · rename_i hh hne
                  split at h
                  · rename_i pc' k hz
                    split at h
                    · rename_i hk
                      exact Or.inr ⟨fun z => hne z, pc', k, hz, hk.1, hk.2, h⟩
                    · cases h
                  · cases h
            obtain ⟨rj, hrj, hcont⟩ := hsplit
            have hlej := zrun_le hrj
            have hler : zle rj.2 r.2 := by
              rcases hcont with ⟨v, -, h⟩ | ⟨E, -, ⟨-, rfl⟩ | ⟨-, pc', k, -, -, -, h⟩⟩
              · exact zrun_le h
              · exact zle_rf _
              · exact zrun_le h
            obtain ⟨le1, le2⟩ := hlej
            obtain ⟨le3, le4⟩ := hler
            have hcells := hI.2.2.2.1
            have hslots := hI.2.2.2.2
            have hmc : w.1.1 + (rj.2.1.1 - w.1.1) = rj.2.1.1 := by omega
            have hms : w.1.2.1 + (rj.2.1.2.1 - w.1.2.1) = rj.2.1.2.1 := by omega
            have hcap : cells + (rj.2.1.1 - w.1.1) ≤ R.cells ∧ slots + (rj.2.1.2.1 - w.1.2.1) ≤ R.slots := ⟨by omega, by omega⟩
            obtain ⟨hx, hb, hr, hml, hown, hts, hlk, hnm, hnw, htab, -⟩ := id C
            have fix : CallFix p m c q.2.1 q.2.2.1 s args GT q.1.cls := ⟨hx, hb, hml, hown, hts⟩
            have hPcs : ∀ U : State, U.heap = H → s.WarmedH U.vm → va_Pc (av.map (zval φ)) (zPc base φ D dA cE w) (av.map (zval φ)).toArray U := fun U hU hW =>
              ⟨rfl, by rw [hU]; exact hI.2.1, zK_to hW (fun a g1 g2 => by rw [hU]; exact hI.2.2.1.2.1 a g1 g2) K⟩
            have hW8 : 2 * (F0 m pc lsC (st.map (zval φ))).monitorRoom + ((rest.map (zval φ)).map fun v => v.category).sum ≤ 8 := lv_room (by rw [zcats_map]; exact hcat)
            have hrun : vx_Run p l e R s m args below meth c H locs cells slots (rj.2.1.1 - w.1.1) (rj.2.1.2.1 - w.1.2.1) (F0 m pc lsC (st.map (zval φ))) (rest.map (zval φ)) (zQc base φ D dA cE rj (av.map (zval φ)).toArray) (zXC base φ D dA cE rj) (fun q => base ≤ q) := by
              rcases hkind with ⟨k, n', v, a, rfl, hl, hdr, rfl, qj', fs, hq2, hfs⟩ | ⟨k, n', v, a, rfl, hl, hdr, rfl⟩ | ⟨k, n', v, kd, rfl, hkd, hl, hn', rfl, rfl⟩
              · cases hqj.symm.trans hq2
                obtain ⟨own, qz, e1, e2, e3, e4, e5, e6, e7, e8, e9, e10, -⟩ := zC_at hl (Or.inl rfl)
                cases hqj.symm.trans e2
                have := zown hq e1
                subst this
                obtain ⟨f1, f2, f3, f4⟩ := e10 rfl
                obtain ⟨hst, hn⟩ := zstk (φ := φ) hdr
                have hsi : Cond.instanceMethod qj.1 ∈ GT := by unfold zsi at e5; rw [if_neg f3] at e5; exact e5
                have hcw : Cond.code qj.1 qj.2.1 qj.2.2.1 qj.2.2.2.1 ∈ zws qj := by unfold zws zcw; rw [if_pos f1]; exact List.mem_cons_self
                have hcw2 : Cond.code qj.1 qj.2.1 qj.2.2.1 qj.2.2.2.1 ∈ GT := by unfold zcw at e4; rw [if_pos f1] at e4; exact e4
                exact vx_runV (As := (st.take n').reverse.map (zval φ)) (C := qj.1.cls) (n := n') (index := k) (bytes := qj.2.1) (maxL := qj.2.2.1) (ret := qj.2.2.2.1) fix (zMet F IH hfl hqj e8 hlj hrj)
                  ⟨⟨rfl, rfl, by show zfr qj + 1 ≤ R.frames; omega, by show 8 + (qj.2.2.1 + 11) + zlo qj ≤ R.locals; omega, zws_good e4 hts, hcw, hts _ hcw2, hts _ e6, e7, e9, hts _ e3⟩, hts _ hsi, hts _ f2⟩
                  ⟨zFBc _, zRecv K hI hfs f4, hPcs⟩ rfl (by rw [List.length_map]; exact hn) hI.1.2.1 hst hW8 hd hcap
              · obtain ⟨own, qz, e1, e2, e3, e4, e5, e6, e7, e8, e9, -, -, e10, -⟩ := zC_at hl (Or.inr (Or.inr (Or.inl rfl)))
                cases hqj.symm.trans e2
                have := zown hq e1
                subst this
                obtain ⟨f1, f3, f4, f5⟩ := e10 rfl
                obtain ⟨hst, hn⟩ := zstk (φ := φ) hdr
                have hsi : Cond.instanceMethod qj.1 ∈ GT := by unfold zsi at e5; rw [if_neg f3] at e5; exact e5
                have hcw : Cond.code qj.1 qj.2.1 qj.2.2.1 none ∈ zws qj := by unfold zws zcw; rw [if_pos f1, f5]; exact List.mem_cons_self
                have hcw2 : Cond.code qj.1 qj.2.1 qj.2.2.1 none ∈ GT := by unfold zcw at e4; rw [if_pos f1, f5] at e4; exact e4
                exact vx_runI (As := (st.take n').reverse.map (zval φ)) (n := n') (index := k) (bytes := qj.2.1) (maxL := qj.2.2.1) fix (zMet F IH hfl hqj e8 hlj hrj)
                  ⟨⟨rfl, rfl, by show zfr qj + 1 ≤ R.frames; omega, by show 8 + (qj.2.2.1 + 11) + zlo qj ≤ R.locals; omega, zws_good e4 hts, hcw, hts _ hcw2, hts _ e6, e7, e9, hts _ e3⟩, f4, hts _ hsi⟩
                  ⟨zFBc _, hPcs⟩ rfl (by rw [List.length_map]; exact hn) hI.1.2.1 hst hW8 hd hcap
              · have hst : st.map (zval φ) = ((st.take n').reverse.map (zval φ)).reverse ++ (st.drop n').map (zval φ) := by
                  rw [← List.map_reverse, List.reverse_reverse, ← List.map_append, List.take_append_drop]
                have hn : ((st.take n').reverse.map (zval φ)).length = n' := by
                  rw [List.length_map, List.length_reverse, List.length_take]; omega
                rcases hkd with rfl | rfl
                · obtain ⟨own, qz, e1, e2, e3, e4, e5, e6, e7, e8, e9, -, e10, -⟩ := zC_at hl (Or.inr (Or.inl rfl))
                  cases hqj.symm.trans e2
                  have := zown hq e1
                  subst this
                  obtain ⟨f1, f3⟩ := e10 rfl
                  have hsi : Cond.static qj.1 ∈ GT := by unfold zsi at e5; rw [if_pos f3] at e5; exact e5
                  have hcw : Cond.code qj.1 qj.2.1 qj.2.2.1 qj.2.2.2.1 ∈ zws qj := by unfold zws zcw; rw [if_pos f1]; exact List.mem_cons_self
                  have hcw2 : Cond.code qj.1 qj.2.1 qj.2.2.1 qj.2.2.2.1 ∈ GT := by unfold zcw at e4; rw [if_pos f1] at e4; exact e4
                  exact vx_runS (As := (st.take n').reverse.map (zval φ)) (n := n') (index := k) (bytes := qj.2.1) (maxL := qj.2.2.1) (ret := qj.2.2.2.1) fix (zMet F IH hfl hqj e8 hlj hrj)
                    ⟨⟨rfl, rfl, by show zfr qj + 1 ≤ R.frames; omega, by show 8 + (qj.2.2.1 + 11) + zlo qj ≤ R.locals; omega, zws_good e4 hts, hcw, hts _ hcw2, hts _ e6, e7, e9, hts _ e3⟩, hts _ hsi⟩
                    ⟨zFBc _, hPcs⟩ rfl hn hI.1.2.1 hst hW8 hd hcap
                · obtain ⟨own, qz, e1, e2, e3, e4, e5, e6, e7, e8, e9, -, -, -, e10⟩ := zC_at hl (Or.inr (Or.inr (Or.inr rfl)))
                  cases hqj.symm.trans e2
                  have := zown hq e1
                  subst this
                  obtain ⟨f3, f1⟩ := e10 rfl
                  have hsi : Cond.static qj.1 ∈ GT := by unfold zsi at e5; rw [if_pos f3] at e5; exact e5
                  have hcw : Cond.codeWith qj.1 qj.2.1 qj.2.2.1 qj.2.2.2.1 qj.2.2.2.2.1 ∈ zws qj := by unfold zws zcw; rw [if_neg f1]; exact List.mem_cons_self
                  have hcw2 : Cond.codeWith qj.1 qj.2.1 qj.2.2.1 qj.2.2.2.1 qj.2.2.2.2.1 ∈ GT := by unfold zcw at e4; rw [if_neg f1] at e4; exact e4
                  exact vx_runSX (As := (st.take n').reverse.map (zval φ)) (n := n') (index := k) (bytes := qj.2.1) (maxL := qj.2.2.1) (ret := qj.2.2.2.1) (hh := qj.2.2.2.2.1) fix (zMet F IH hfl hqj e8 hlj hrj)
                    ⟨⟨rfl, rfl, by show zfr qj + 1 ≤ R.frames; omega, by show 8 + (qj.2.2.1 + 11) + zlo qj ≤ R.locals; omega, zws_good e4 hts, hcw⟩, hts _ hcw2, hts _ e6, e7, e9, hts _ e3, hts _ hsi⟩
                    ⟨zFBc _, hPcs⟩ rfl hn hI.1.2.1 hst hW8 hd hcap
            refine zAfter (y := q.1) (g := F0 m pc lsC []) hI hmc hms hrun (fun v hv => ?_) (fun E ce q9 H1 locs1 hE1 hce hcv hcl hI1 => ?_)
            · rcases hcont with ⟨v', hv', h⟩ | ⟨E, hE', -⟩
              · rw [hv] at hv'
                cases hv'
                exact IH i q (pc + 3) ls (v.toList ++ rest) rj.2 r p e s m args below meth c R Q c0 s0 hq C K h hc1 hc2 hf hlo hE hT hP
              · rw [hv] at hE'; cases hE'
            · rcases hcont with ⟨v', hv', h⟩ | ⟨E', hE', hcase⟩
              · rw [hE1] at hv'; cases hv'
              · rw [hE1] at hE'
                cases hE'
                rcases hcase with ⟨hh, rfl⟩ | ⟨hne, pc', k, hz, hk1, hk2, h⟩
                · exact hP E ce q9 pc (rest.map (zval φ)) lsC H1 locs1 _ _ rfl hh hce hcv hcl hI1.2.1 hI1.2.2.1 hI1.2.2.2.1 hI1.2.2.2.2
                · exact (zHnd0 hz).elim
end ZAll
