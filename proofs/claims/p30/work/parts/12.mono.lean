/-! what is made never grows less -/
def zle (w w' : zW) : Prop := w.1.1 ≤ w'.1.1 ∧ w.1.2.1 ≤ w'.1.2.1
theorem zle_rf (w : zW) : zle w w := ⟨Nat.le_refl _, Nat.le_refl _⟩
theorem zle_tr {a b c : zW} (h : zle a b) (h' : zle b c) : zle a c := ⟨Nat.le_trans h.1 h'.1, Nat.le_trans h.2 h'.2⟩
theorem zle_set (w : zW) (a : Nat) (e : zE) : zle w (zset w a e) := zle_rf w
theorem zle_new (w : zW) (n : Nat) (e : zE) : zle w (znew w n e) := ⟨Nat.le_succ _, Nat.le_add_right _ _⟩
theorem zle_thw (w : zW) : zle w (zthw w) := ⟨Nat.le_succ _, Nat.le_add_right _ _⟩
def zTle (w : zW) (t : zT) : Prop := match t with
  | .inl (_, _, _, w') => zle w w'
  | .inr (.inl (_, w')) => zle w w'
  | .inr (.inr _) => True
theorem znx_le {pc : Nat} {ls : zL} {st : List Value} {w w0 : zW} {t : zT} (hw : zle w0 w) (h : znx pc ls st w = some t) : zTle w0 t := by
  unfold znx at h; cases h; exact hw
theorem zst_le {hl : Bool} {pc k : Nat} {ls : zL} {v : Value} {st : List Value} {w : zW} {t : zT} (h : zst hl pc ls k v st w = some t) : zTle w t := by
  unfold zst at h; split at h
  · exact znx_le (zle_rf w) h
  · cases h
theorem zstL_le {hl : Bool} {pc k : Nat} {ls : zL} {v : Value} {st : List Value} {w : zW} {t : zT} (h : zstL hl pc ls k v st w = some t) : zTle w t := by
  unfold zstL at h; split at h
  · exact znx_le (zle_rf w) h
  · cases h
theorem zldA_le {pc k : Nat} {ls : zL} {st : List Value} {w : zW} {t : zT} (h : zldA ls k pc st w = some t) : zTle w t := by
  unfold zldA at h; split at h
  · exact znx_le (zle_rf w) h
  · exact znx_le (zle_rf w) h
  · cases h
theorem zldI_le {pc k : Nat} {ls : zL} {st : List Value} {w : zW} {t : zT} (h : zldI ls k pc st w = some t) : zTle w t := by
  unfold zldI at h; split at h
  · exact znx_le (zle_rf w) h
  · cases h
theorem zldL_le {pc k : Nat} {ls : zL} {st : List Value} {w : zW} {t : zT} (h : zldL ls k pc st w = some t) : zTle w t := by
  unfold zldL at h; split at h
  · exact znx_le (zle_rf w) h
  · cases h
theorem zb2_le {pc : Nat} {f : Int32 → Int32 → Int32} {ls : zL} {st : List Value} {w : zW} {t : zT} (h : zb2 ls pc f st w = some t) : zTle w t := by
  unfold zb2 at h; split at h
  · exact znx_le (zle_rf w) h
  · cases h
theorem zbr_le {b : Bool} {pc : Nat} {off : Int} {ls : zL} {st : List Value} {w : zW} {t : zT} (h : zbr b pc off ls st w = some t) : zTle w t := by
  unfold zbr at h; split at h
  · exact znx_le (zle_rf w) h
  · cases h
theorem zcall_le {q : zM} {j : Nat} {av rest : List Value} {w : zW} {t : zT} (h : zcall q j av rest = some t) : zTle w t := by
  unfold zcall at h
  split at h
  · split at h
    · cases h; exact trivial
    · cases h
  · cases h
theorem zend_le {q : zM} {v : Int32} {w : zW} {t : zT} (h : zend q v w = some t) : zTle w t := by
  unfold zend at h; split at h
  · cases h; exact zle_rf w
  · cases h
theorem zfin_le {r : Option Value} {w : zW} {t : zT} (h : zfin r w = some t) : zTle w t := by
  unfold zfin at h; cases h; exact zle_rf w
theorem zcallV_le {q : zM} {j n : Nat} {st : List Value} {w : zW} {t : zT} (h : zcallV q w j n st = some t) : zTle w t := by
  unfold zcallV at h
  split at h
  · split at h
    · split at h
      · exact zcall_le h
      · cases h
    · cases h
  · cases h
theorem zcallI_le {q : zM} {j n : Nat} {st : List Value} {w : zW} {t : zT} (h : zcallI q j n st = some t) : zTle w t := by
  unfold zcallI at h
  split at h
  · exact zcall_le h
  · cases h
theorem zcallS_le {q : zM} {j n : Nat} {st : List Value} {w : zW} {t : zT} (h : zcallS q j n st = some t) : zTle w t := by
  unfold zcallS at h
  split at h
  · exact zcall_le h
  · cases h
theorem zobjI_le {q : zM} {pc : Nat} {ls : zL} {st : List Value} {w : zW} {t : zT} (h : zobjI q pc ls st w = some t) : zTle w t := by
  unfold zobjI at h
  repeat' split at h
  all_goals first | exact znx_le (zle_rf w) h | cases h
theorem zord_le {q : zM} {pc : Nat} {ls : zL} {st : List Value} {w : zW} {t : zT} (h : zord q pc ls st w = some t) : zTle w t := by
  unfold zord at h
  repeat' split at h
  all_goals first | exact znx_le (zle_rf w) h | cases h
theorem zchk_le {q : zM} {pc : Nat} {ls : zL} {st : List Value} {w : zW} {t : zT} (h : zchk q pc ls st w = some t) : zTle w t := by
  unfold zchk at h
  repeat' split at h
  all_goals first | exact znx_le (zle_rf w) h | cases h
theorem zmax_le {q : zM} {pc : Nat} {ls : zL} {st : List Value} {w : zW} {t : zT} (h : zmax q pc ls st w = some t) : zTle w t := by
  unfold zmax at h
  repeat' split at h
  all_goals first | exact znx_le (zle_rf w) h | cases h
theorem zabs_le {q : zM} {pc : Nat} {ls : zL} {st : List Value} {w : zW} {t : zT} (h : zabs q pc ls st w = some t) : zTle w t := by
  unfold zabs at h
  repeat' split at h
  all_goals first | exact znx_le (zle_rf w) h | cases h
theorem zcopy_le {q : zM} {pc : Nat} {ls : zL} {st : List Value} {w : zW} {t : zT} (h : zcopy q pc ls st w = some t) : zTle w t := by
  unfold zcopy at h
  repeat' split at h
  all_goals first | exact znx_le (zle_set w _ _) h | cases h
set_option maxHeartbeats 4000000 in
theorem zstep_le {q : zM} {i pc : Nat} {I : Instr} {len : Nat} {ls : zL} {st : List Value} {w : zW} {t : zT} (h : zstep q i pc I len ls st w = some t) : zTle w t := by
  unfold zstep at h
  dsimp only at h
  cases I <;> dsimp only at h <;> first
    | (cases h; done)
    | exact zldA_le h | exact zldI_le h | exact zldL_le h | exact zb2_le h | exact znx_le (zle_rf w) h | exact zcallV_le h
    | (repeat' split at h
       all_goals first
         | (cases h; done) | exact zst_le h | exact zstL_le h | exact znx_le (zle_rf w) h | exact znx_le (zle_set w _ _) h | exact znx_le (zle_new w _ _) h | exact zbr_le h | exact zend_le h | exact zfin_le h
         | exact zcallV_le h | exact zcallI_le h | exact zcallS_le h | exact zobjI_le h | exact zord_le h | exact zcopy_le h | exact zchk_le h | exact zmax_le h | exact zabs_le h
         | (cases h; exact zle_thw w))
theorem zrun_le {n : Nat} : ∀ {i pc : Nat} {ls : zL} {st : List Value} {w : zW} {r : zR}, zrun n i pc ls st w = some r → zle w r.2 := by
  induction n with
  | zero => intro i pc ls st w r h; cases h
  | succ n ih =>
    intro i pc ls st w r h
    unfold zrun at h
    split at h
    · cases h
    · rename_i q hq
      split at h
      · cases h
      · rename_i I len hi
        split at h
        · cases h
        · rename_i pc' ls' st' w' hs
          exact zle_tr (zstep_le hs) (ih h)
        · rename_i r' hs
          cases h
          exact zstep_le hs
        · rename_i j av rest hs
          split at h
          · cases h
          · rename_i qj hqj
            split at h
            · cases h
            · rename_i lj hlj
              split at h
              · cases h
              · rename_i v w' hr
                exact zle_tr (ih hr) (ih h)
              · rename_i E w' hr
                split at h
                · cases h; exact ih hr
                · split at h
                  · split at h
                    · exact zle_tr (ih hr) (ih h)
                    · cases h
                  · cases h
