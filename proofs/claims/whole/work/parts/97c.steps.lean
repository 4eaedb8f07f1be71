/-! one turn of the law -/
def STP (G : zG) (c : Nat × Nat × Bool) (F A : Nat → Nat → Int32) (P : Nat → Nat) (W : Value) (O : Nat → Int64) (pc i : Nat) (z5 z6 : Option Value) : Prop := ∃ c' F' A' P' W' O' z5' z6' g u ks t tx, c'.1 ≤ c.1 + 1 ∧ c'.2.1 ≤ c.2.1 + 6 ∧ SI g u ks t tx ∧ CI F' A' P' g u ks t tx ∧ RI F' A' g u ks t tx ∧ Rv 260 pc [some (.ref 1), some (.ref 40), some (.ref 90), some (.ref 96), some (.int (Int32.ofNat i)), z5, z6] [] (en G c F A P W O) = Rv 260 1590 [some (.ref 1), some (.ref 40), some (.ref 90), some (.ref 96), some (.int (Int32.ofNat i)), z5', z6'] [] (en G c' F' A' P' W' O')
section ZT
variable {G : zG} {c c1 : Nat × Nat × Bool} {F A F1 A1 F2 A2 : Nat → Nat → Int32} {P P1 : Nat → Nat} {W W1 : Value} {O O1 : Nat → Int64} {x y v z : Int32} {i pc u t u' t' a b : Nat} {z5 z6 z5' z6' : Option Value} {g g' : Nat → Int32} {ks ks' : Nat → Nat → Int32} {tx tx' : Nat → Int32}
theorem fin_y (hS' : SI g' u' ks' t' tx') (hC1 : CI F1 A1 P1 g' u' ks' t' tx') (fr2 : frR F1 A1 F2 A2) (hI2 : RI F2 A2 g' u' ks' t' tx') (e : Rv 260 pc [some (.ref 1), some (.ref 40), some (.ref 90), some (.ref 96), some (.int (Int32.ofNat i)), z5, z6] [] (en G c F A P W O) = Rv 260 1590 [some (.ref 1), some (.ref 40), some (.ref 90), some (.ref 96), some (.int (Int32.ofNat i)), z5', z6'] [] (en G c F2 A2 P1 W1 O1)) : STP G c F A P W O pc i z5 z6 := ⟨c, F2, A2, P1, W1, O1, z5', z6', g', u', ks', t', tx', Nat.le_succ _, Nat.le_add_right _ _, hS', ci_frR hS'.2.1 hC1 fr2, hI2, e⟩
theorem fin_n (hS : SI g u ks t tx) (hC : CI F A P g u ks t tx) (hI : RI F A g u ks t tx) (e : Rv 260 pc [some (.ref 1), some (.ref 40), some (.ref 90), some (.ref 96), some (.int (Int32.ofNat i)), z5, z6] [] (en G c F A P W O) = Rv 260 1590 [some (.ref 1), some (.ref 40), some (.ref 90), some (.ref 96), some (.int (Int32.ofNat i)), z5', z6'] [] (en G (c.1 + 1, c.2.1 + 6, true) (u2 F 90 3 z) A P W O)) : STP G c F A P W O pc i z5 z6 := ⟨(c.1 + 1, c.2.1 + 6, true), u2 F 90 3 z, A, P, W, O, z5', z6', g, u, ks, t, tx, Nat.le_refl _, Nat.le_refl _, hS, ci_frR hS.2.1 hC (ri_th hI z).2, (ri_th hI z).1, e⟩
theorem ri_wt {A' : Nat → Nat → Int32} (hI : RI F A g u ks t tx) (hA : ∀ b, b ≠ 93 → A' b = A b) : RI (u2 F 90 3 0) A' g u ks t tx ∧ frR F A (u2 F 90 3 0) A' := ⟨(ri_th (ri_wk hI hA).1 0).1, fun b hb => u2_ne (by omega), fun b hb => hA b (by omega)⟩
theorem op_0 (hi : i + 3 ≤ G.1) (hG : G.1 ≤ 1536) (hx : G.2 (i + 1) = x) (hy : G.2 (i + 2) = y) (hS : SI g u ks t tx) (hC : CI F A P g u ks t tx) (hI : RI F A g u ks t tx) : STP G c F A P W O 160 i z5 z6 := by
  have hw := hS.1
  rcases out_or x 2 4 with ⟨a, a1, a2, rfl⟩ | h1
  · rcases out_or y 2 6 with ⟨b, b1, b2, rfl⟩ | h2
    · obtain ⟨F1, A1, P1, fr, hC1, e1⟩ := c102y (G := G) (c := c) (F := F) (A := A) (P := P) (W := W) (O := O) hS hC ⟨a1, a2⟩ ⟨b1, b2⟩
      have hI1 := ri_frC fr hI
      obtain ⟨F2, A2, fr2, hI2, h3, e2⟩ := p175y (G := G) (c := c) (P := P1) (W := W) (O := vp_updL O 0 _) hS hI1 ⟨a1, a2⟩ ⟨b1, b2⟩
      exact fin_y ⟨wf_bgn hw ⟨a1, a2⟩ ⟨b1, b2⟩, (si_save hS).2⟩ hC1 fr2 hI2 (s260_0 hi hG hx hy (hh238 e1) e2 h3 fun _ => rfl)
    · have e1 := c102n (x := Int32.ofNat a) (G := G) (c := c) (F := F) (A := A) (P := P) (W := W) (O := O) (Or.inr h2)
      have e2 := p175n (x := Int32.ofNat a) (G := G) (c := (c.1 + 1, c.2.1 + 6, true)) (F := F) (A := A) (P := P) (W := W) (O := O) hS hI (Or.inr h2)
      exact fin_n hS hC hI (s260_0 hi hG hx hy (hh238_A e1) e2 u2_same fun h => absurd h (by decide))
  · have e1 := c102n (y := y) (G := G) (c := c) (F := F) (A := A) (P := P) (W := W) (O := O) (Or.inl h1)
    have e2 := p175n (y := y) (G := G) (c := (c.1 + 1, c.2.1 + 6, true)) (F := F) (A := A) (P := P) (W := W) (O := O) hS hI (Or.inl h1)
    exact fin_n hS hC hI (s260_0 hi hG hx hy (hh238_A e1) e2 u2_same fun h => absurd h (by decide))
theorem op_1 (hi : i + 3 ≤ G.1) (hG : G.1 ≤ 1536) (hx : G.2 (i + 1) = x) (hy : G.2 (i + 2) = y) (hS : SI g u ks t tx) (hC : CI F A P g u ks t tx) (hI : RI F A g u ks t tx) : STP G c F A P W O 228 i z5 z6 := by
  have hw := hS.1
  by_cases h : rlk x y
  · obtain ⟨a, b, rfl, rfl, h⟩ := h
    obtain ⟨F1, A1, P1, fr, hC1, e1⟩ := c103y (G := G) (c := c) (F := F) (A := A) (P := P) (W := W) (O := O) hS hC h
    have hI1 := ri_frC fr hI
    obtain ⟨F2, A2, fr2, hI2, h3, e2⟩ := p177y (G := G) (c := c) (P := P1) (W := W) (O := vp_updL O 0 _) hS hI1 h
    exact fin_y ⟨wf_rul hw h, (si_save hS).2⟩ hC1 fr2 hI2 (s260_1 hi hG hx hy (hh239 e1) e2 h3 fun _ => rfl)
  · have e1 := c103n (G := G) (c := c) (F := F) (A := A) (P := P) (W := W) (O := O) h
    have e2 := p177n (G := G) (c := (c.1 + 1, c.2.1 + 6, true)) (F := F) (A := A) (P := P) (W := W) (O := O) hS hI h
    exact fin_n hS hC hI (s260_1 hi hG hx hy (hh239_A e1) e2 u2_same fun h => absurd h (by decide))
theorem op_2 (hi : i + 3 ≤ G.1) (hG : G.1 ≤ 1536) (hx : G.2 (i + 1) = x) (hy : G.2 (i + 2) = y) (hS : SI g u ks t tx) (hC : CI F A P g u ks t tx) (hI : RI F A g u ks t tx) : STP G c F A P W O 296 i z5 z6 := by
  have hw := hS.1
  by_cases hy1 : y = -1 ∨ ∃ j, j < kn g ∧ y = Int32.ofNat j
  · by_cases h0 : rsx g (-1) x = 0
    · by_cases hn : kn g < 16
      · obtain ⟨b, -, rfl, -, hb⟩ := rsx_ok h0
        obtain ⟨F1, A1, P1, fr, hC1, e1⟩ := c104y (G := G) (c := c) (F := F) (A := A) (P := P) (W := W) (O := O) hS hC hy1 h0 hn
        have hI1 := ri_frC fr hI
        obtain ⟨F2, A2, fr2, hI2, h3, e2⟩ := p179y (G := G) (c := c) (P := P1) (W := W) (O := vp_updL O 0 _) hS hI1 hy1 h0 hn
        exact fin_y ⟨wf_adk hw hn hb hy1, (si_save hS).2⟩ hC1 fr2 hI2 (s260_2 hi hG hx hy (hh240 e1) e2 h3 fun _ => rfl)
      · have e1 := c104n3 (G := G) (c := c) (F := F) (A := A) (P := P) (W := W) (O := O) hS hC hy1 h0 hn
        have e2 := p179n3 (G := G) (c := (c.1 + 1, c.2.1 + 6, true)) (F := F) (A := A) (P := P) (W := W) (O := O) hS hI hy1 h0 hn
        exact fin_n hS hC hI (s260_2 hi hG hx hy (hh240_S e1) e2 u2_same fun h => absurd h (by decide))
    · have e1 := c104n2 (G := G) (c := c) (F := F) (A := A) (P := P) (W := W) (O := O) hS hC hy1 h0
      have e2 := p179n2 (G := G) (c := (c.1 + 1, c.2.1 + 6, true)) (F := F) (A := A) (P := P) (W := W) (O := O) hS hI hy1 h0
      exact fin_n hS hC hI (s260_2 hi hG hx hy (hh240_A e1) e2 u2_same fun h => absurd h (by decide))
  · have h1 : ¬ y = -1 := fun e => hy1 (Or.inl e)
    have h2 : nob y (kn g) := fun j hj e => hy1 (Or.inr ⟨j, hj, e⟩)
    have e1 := c104n1 (x := x) (G := G) (c := c) (F := F) (A := A) (P := P) (W := W) (O := O) hS hC h1 h2
    have e2 := p179n1 (x := x) (G := G) (c := (c.1 + 1, c.2.1 + 6, true)) (F := F) (A := A) (P := P) (W := W) (O := O) hS hI h1 h2
    exact fin_n hS hC hI (s260_2 hi hG hx hy (hh240_I e1) e2 u2_same fun h => absurd h (by decide))
theorem op_3 (hi : i + 3 ≤ G.1) (hG : G.1 ≤ 1536) (hx : G.2 (i + 1) = x) (hy : G.2 (i + 2) = y) (hS : SI g u ks t tx) (hC : CI F A P g u ks t tx) (hI : RI F A g u ks t tx) : STP G c F A P W O 364 i z5 z6 := by
  have hw := hS.1
  rcases nob_or x (kn g) with ⟨a, ha, rfl⟩ | h1
  · by_cases h0 : rsx g (Int32.ofNat a) y = 0
    · obtain ⟨b, -, rfl, -, hb⟩ := rsx_ok h0
      obtain ⟨F1, A1, P1, fr, hC1, e1⟩ := c105y (G := G) (c := c) (F := F) (A := A) (P := P) (W := W) (O := O) hS hC ha h0
      have hI1 := ri_frC fr hI
      obtain ⟨F2, A2, fr2, hI2, h3, e2⟩ := p181y (G := G) (c := c) (P := P1) (W := W) (O := vp_updL O 0 _) hS hI1 ha h0
      exact fin_y ⟨wf_cut hw ha hb, (si_save hS).2⟩ hC1 fr2 hI2 (s260_3 hi hG hx hy (hh241 e1) e2 h3 fun _ => rfl)
    · have e1 := c105n2 (G := G) (c := c) (F := F) (A := A) (P := P) (W := W) (O := O) hS hC ha h0
      have e2 := p181n2 (G := G) (c := (c.1 + 1, c.2.1 + 6, true)) (F := F) (A := A) (P := P) (W := W) (O := O) hS hI ha h0
      exact fin_n hS hC hI (s260_3 hi hG hx hy (hh241_A e1) e2 u2_same fun h => absurd h (by decide))
  · have e1 := c105n1 (G := G) (c := c) (F := F) (A := A) (P := P) (W := W) (O := O) (y := y) hS hC h1
    have e2 := p181n1 (G := G) (c := (c.1 + 1, c.2.1 + 6, true)) (F := F) (A := A) (P := P) (W := W) (O := O) (y := y) hS hI h1
    exact fin_n hS hC hI (s260_3 hi hG hx hy (hh241_I e1) e2 u2_same fun h => absurd h (by decide))
theorem op_4 (hi : i + 3 ≤ G.1) (hG : G.1 ≤ 1536) (hx : G.2 (i + 1) = x) (hS : SI g u ks t tx) (hC : CI F A P g u ks t tx) (hI : RI F A g u ks t tx) : STP G c F A P W O 432 i z5 z6 := by
  have hw := hS.1
  rcases nob_or x (kn g) with ⟨a, ha, rfl⟩ | h1
  · by_cases h0 : g (39 + a) = 1
    · have e1 := c106n3 (G := G) (c := c) (F := F) (A := A) (P := P) (W := W) (O := O) hS hC ha h0
      have e2 := p183n2 (G := G) (c := (c.1 + 1, c.2.1 + 6, true)) (F := F) (A := A) (P := P) (W := W) (O := O) hS hI ha h0
      exact fin_n hS hC hI (s260_4 hi hG hx (hh242_S e1) e2 u2_same fun h => absurd h (by decide))
    · obtain ⟨F1, A1, P1, fr, hC1, e1⟩ := c106y (G := G) (c := c) (F := F) (A := A) (P := P) (W := W) (O := O) hS hC ha h0
      have hI1 := ri_frC fr hI
      obtain ⟨F2, A2, fr2, hI2, h3, e2⟩ := p183y (G := G) (c := c) (P := P1) (W := W) (O := vp_updL O 0 _) hS hI1 ha h0
      exact fin_y ⟨wf_los hw ha (Or.inr rfl), (si_save hS).2⟩ hC1 fr2 hI2 (s260_4 hi hG hx (hh242 e1) e2 h3 fun _ => rfl)
  · have e1 := c106n1 (G := G) (c := c) (F := F) (A := A) (P := P) (W := W) (O := O) hS hC h1
    have e2 := p183n1 (G := G) (c := (c.1 + 1, c.2.1 + 6, true)) (F := F) (A := A) (P := P) (W := W) (O := O) hS hI h1
    exact fin_n hS hC hI (s260_4 hi hG hx (hh242_I e1) e2 u2_same fun h => absurd h (by decide))
theorem op_5 (hi : i + 3 ≤ G.1) (hG : G.1 ≤ 1536) (hx : G.2 (i + 1) = x) (hS : SI g u ks t tx) (hC : CI F A P g u ks t tx) (hI : RI F A g u ks t tx) : STP G c F A P W O 488 i z5 z6 := by
  have hw := hS.1
  rcases nob_or x (kn g) with ⟨a, ha, rfl⟩ | h1
  · by_cases h0 : g (39 + a) = 1
    · obtain ⟨F1, A1, P1, fr, hC1, e1⟩ := c107y (G := G) (c := c) (F := F) (A := A) (P := P) (W := W) (O := O) hS hC ha h0
      have hI1 := ri_frC fr hI
      obtain ⟨F2, A2, fr2, hI2, h3, e2⟩ := p185y (G := G) (c := c) (P := P1) (W := W) (O := vp_updL O 0 _) hS hI1 ha h0
      exact fin_y ⟨wf_los hw ha (Or.inl rfl), (si_save hS).2⟩ hC1 fr2 hI2 (s260_5 hi hG hx (hh243 e1) e2 h3 fun _ => rfl)
    · have e1 := c107n3 (G := G) (c := c) (F := F) (A := A) (P := P) (W := W) (O := O) hS hC ha h0
      have e2 := p185n2 (G := G) (c := (c.1 + 1, c.2.1 + 6, true)) (F := F) (A := A) (P := P) (W := W) (O := O) hS hI ha h0
      exact fin_n hS hC hI (s260_5 hi hG hx (hh243_S e1) e2 u2_same fun h => absurd h (by decide))
  · have e1 := c107n1 (G := G) (c := c) (F := F) (A := A) (P := P) (W := W) (O := O) hS hC h1
    have e2 := p185n1 (G := G) (c := (c.1 + 1, c.2.1 + 6, true)) (F := F) (A := A) (P := P) (W := W) (O := O) hS hI h1
    exact fin_n hS hC hI (s260_5 hi hG hx (hh243_I e1) e2 u2_same fun h => absurd h (by decide))
theorem op_6 (hi : i + 3 ≤ G.1) (hG : G.1 ≤ 1536) (hx : G.2 (i + 1) = x) (hS : SI g u ks t tx) (hC : CI F A P g u ks t tx) (hI : RI F A g u ks t tx) : STP G c F A P W O 544 i z5 z6 := by
  have hw := hS.1
  rcases nob_or x (kn g) with ⟨a, ha, rfl⟩ | h1
  · by_cases h0 : dn g < 12
    · obtain ⟨F1, A1, P1, fr, hC1, e1⟩ := c108y (G := G) (c := c) (F := F) (A := A) (P := P) (W := W) (O := O) hS hC ha h0
      have hI1 := ri_frC fr hI
      obtain ⟨F2, A2, fr2, hI2, h3, e2⟩ := p187y (G := G) (c := c) (P := P1) (W := W) (O := vp_updL O 0 _) hS hI1 ha h0
      exact fin_y ⟨wf_adg hw h0 ha, (si_save hS).2⟩ hC1 fr2 hI2 (s260_6 hi hG hx (hh244 e1) e2 h3 fun _ => rfl)
    · have e1 := c108n3 (G := G) (c := c) (F := F) (A := A) (P := P) (W := W) (O := O) hS hC ha h0
      have e2 := p187n2 (G := G) (c := (c.1 + 1, c.2.1 + 6, true)) (F := F) (A := A) (P := P) (W := W) (O := O) hS hI ha h0
      exact fin_n hS hC hI (s260_6 hi hG hx (hh244_S e1) e2 u2_same fun h => absurd h (by decide))
  · have e1 := c108n1 (G := G) (c := c) (F := F) (A := A) (P := P) (W := W) (O := O) hS hC h1
    have e2 := p187n1 (G := G) (c := (c.1 + 1, c.2.1 + 6, true)) (F := F) (A := A) (P := P) (W := W) (O := O) hS hI h1
    exact fin_n hS hC hI (s260_6 hi hG hx (hh244_I e1) e2 u2_same fun h => absurd h (by decide))
theorem op_7 (hi : i + 3 ≤ G.1) (hG : G.1 ≤ 1536) (hx : G.2 (i + 1) = x) (hy : G.2 (i + 2) = y) (hS : SI g u ks t tx) (hC : CI F A P g u ks t tx) (hI : RI F A g u ks t tx) : STP G c F A P W O 600 i z5 z6 := by
  have hw := hS.1
  rcases nob_or x (dn g) with ⟨a, ha, rfl⟩ | h1
  · rcases nob_or y (kn g) with ⟨b, hb, rfl⟩ | h2
    · obtain ⟨F1, A1, P1, fr, hC1, e1⟩ := c109y (G := G) (c := c) (F := F) (A := A) (P := P) (W := W) (O := O) hS hC ha hb
      have hI1 := ri_frC fr hI
      obtain ⟨F2, A2, fr2, hI2, h3, e2⟩ := p189y (G := G) (c := c) (P := P1) (W := W) (O := vp_updL O 0 _) hS hI1 ha hb
      exact fin_y ⟨wf_pig hw ha, (si_save hS).2⟩ hC1 fr2 hI2 (s260_7 hi hG hx hy (hh245 e1) e2 h3 fun _ => rfl)
    · have e1 := c109n1 (x := Int32.ofNat a) (G := G) (c := c) (F := F) (A := A) (P := P) (W := W) (O := O) hS hC (Or.inr h2)
      have e2 := p189n (x := Int32.ofNat a) (G := G) (c := (c.1 + 1, c.2.1 + 6, true)) (F := F) (A := A) (P := P) (W := W) (O := O) hS hI (Or.inr h2)
      exact fin_n hS hC hI (s260_7 hi hG hx hy (hh245_I e1) e2 u2_same fun h => absurd h (by decide))
  · have e1 := c109n1 (y := y) (G := G) (c := c) (F := F) (A := A) (P := P) (W := W) (O := O) hS hC (Or.inl h1)
    have e2 := p189n (y := y) (G := G) (c := (c.1 + 1, c.2.1 + 6, true)) (F := F) (A := A) (P := P) (W := W) (O := O) hS hI (Or.inl h1)
    exact fin_n hS hC hI (s260_7 hi hG hx hy (hh245_I e1) e2 u2_same fun h => absurd h (by decide))
theorem op_8 (hi : i + 3 ≤ G.1) (hG : G.1 ≤ 1536) (hx : G.2 (i + 1) = x) (hS : SI g u ks t tx) (hC : CI F A P g u ks t tx) (hI : RI F A g u ks t tx) : STP G c F A P W O 668 i z5 z6 := by
  have hw := hS.1
  rcases nob_or x (dn g) with ⟨a, ha, rfl⟩ | h1
  · obtain ⟨F1, A1, P1, fr, hC1, e1⟩ := c110y (G := G) (c := c) (F := F) (A := A) (P := P) (W := W) (O := O) hS hC ha
    have hI1 := ri_frC fr hI
    obtain ⟨F2, A2, fr2, hI2, h3, e2⟩ := p191y (G := G) (c := c) (P := P1) (W := W) (O := vp_updL O 0 _) hS hI1 ha
    exact fin_y ⟨wf_fit hw ha, (si_save hS).2⟩ hC1 fr2 hI2 (s260_8 hi hG hx (hh246 e1) e2 h3 fun _ => rfl)
  · have e1 := c110n1 (G := G) (c := c) (F := F) (A := A) (P := P) (W := W) (O := O) hS hC h1
    have e2 := p191n (G := G) (c := (c.1 + 1, c.2.1 + 6, true)) (F := F) (A := A) (P := P) (W := W) (O := O) hS hI h1
    exact fin_n hS hC hI (s260_8 hi hG hx (hh246_I e1) e2 u2_same fun h => absurd h (by decide))
theorem op_10 (hi : i + 3 ≤ G.1) (hG : G.1 ≤ 1536) (hx : G.2 (i + 1) = x) (hy : G.2 (i + 2) = y) (hS : SI g u ks t tx) (hC : CI F A P g u ks t tx) (hI : RI F A g u ks t tx) : STP G c F A P W O 737 i z5 z6 := by
  have hw := hS.1
  rcases nob_or x (dn g) with ⟨a, ha, rfl⟩ | h1
  · rcases nob_or y (kn g) with ⟨b, hb, rfl⟩ | h2
    · obtain ⟨F1, A1, P1, fr, hC1, e1⟩ := c112y (G := G) (c := c) (F := F) (A := A) (P := P) (W := W) (O := O) hS hC ha hb
      have hI1 := ri_frC fr hI
      obtain ⟨F2, A2, fr2, hI2, h3, e2⟩ := p194y (G := G) (c := c) (P := P1) (W := W) (O := vp_updL O 0 _) hS hI1 ha hb
      exact fin_y ⟨wf_own2 hw ha hb, (si_save hS).2⟩ hC1 fr2 hI2 (s260_10 hi hG hx hy (hh247 e1) e2 h3 fun _ => rfl)
    · have e1 := c112n1 (x := Int32.ofNat a) (G := G) (c := c) (F := F) (A := A) (P := P) (W := W) (O := O) hS hC (Or.inr h2)
      have e2 := p194n (x := Int32.ofNat a) (G := G) (c := (c.1 + 1, c.2.1 + 6, true)) (F := F) (A := A) (P := P) (W := W) (O := O) hS hI (Or.inr h2)
      exact fin_n hS hC hI (s260_10 hi hG hx hy (hh247_I e1) e2 u2_same fun h => absurd h (by decide))
  · have e1 := c112n1 (y := y) (G := G) (c := c) (F := F) (A := A) (P := P) (W := W) (O := O) hS hC (Or.inl h1)
    have e2 := p194n (y := y) (G := G) (c := (c.1 + 1, c.2.1 + 6, true)) (F := F) (A := A) (P := P) (W := W) (O := O) hS hI (Or.inl h1)
    exact fin_n hS hC hI (s260_10 hi hG hx hy (hh247_I e1) e2 u2_same fun h => absurd h (by decide))
theorem op_11 (hi : i + 3 ≤ G.1) (hG : G.1 ≤ 1536) (hx : G.2 (i + 1) = x) (hy : G.2 (i + 2) = y) (hS : SI g u ks t tx) (hC : CI F A P g u ks t tx) (hI : RI F A g u ks t tx) : STP G c F A P W O 805 i z5 z6 := by
  have hw := hS.1
  rcases nob_or x (kn g) with ⟨a, ha, rfl⟩ | h1
  · rcases nob_or y 7 with ⟨b, hb, rfl⟩ | h2
    · have e1 := c113y (G := G) (c := c) (F := F) (A := A) (P := P) (W := W) (O := O) hS hC ha (show b ≤ 6 by omega)
      have hC1 := hC
      have hI1 := hI
      have e2 := fun O2 => p196y (G := G) (c := c) (P := P) (W := W) (O := O2) hS hI1 ha (show b ≤ 6 by omega)
      exact fin_y hS hC1 (ri_th hI1 0).2 (ri_th hI1 0).1 (s260_11 hi hG hx hy (hh248 e1) (e2 _) u2_same fun _ => rfl)
    · have e1 := c113n2 (G := G) (c := c) (F := F) (A := A) (P := P) (W := W) (O := O) hS hC ha h2
      have e2 := p196n2 (G := G) (c := (c.1 + 1, c.2.1 + 6, true)) (F := F) (A := A) (P := P) (W := W) (O := O) hS hI ha h2
      exact fin_n hS hC hI (s260_11 hi hG hx hy (hh248_A e1) e2 u2_same fun h => absurd h (by decide))
  · have e1 := c113n1 (G := G) (c := c) (F := F) (A := A) (P := P) (W := W) (O := O) (y := y) hS hC h1
    have e2 := p196n1 (G := G) (c := (c.1 + 1, c.2.1 + 6, true)) (F := F) (A := A) (P := P) (W := W) (O := O) (y := y) hS hI h1
    exact fin_n hS hC hI (s260_11 hi hG hx hy (hh248_I e1) e2 u2_same fun h => absurd h (by decide))
theorem op_12 (hi : i + 3 ≤ G.1) (hG : G.1 ≤ 1536) (hx : G.2 (i + 1) = x) (hy : G.2 (i + 2) = y) (hS : SI g u ks t tx) (hC : CI F A P g u ks t tx) (hI : RI F A g u ks t tx) : STP G c F A P W O 873 i z5 z6 := by
  have hw := hS.1
  rcases nob_or x (dn g) with ⟨a, ha, rfl⟩ | h1
  · rcases nob_or y 9 with ⟨b, hb, rfl⟩ | h2
    · obtain ⟨F1, A1, fr, hC1, e1⟩ := c114y (G := G) (c := c) (F := F) (A := A) (P := P) (W := W) (O := O) hS hC ha (show b ≤ 8 by omega)
      have hI1 := ri_frC fr hI
      have e2 := fun O2 => p198y (G := G) (c := c) (P := P) (W := W) (O := O2) hS hI1 ha (show b ≤ 8 by omega)
      exact fin_y hS hC1 (ri_th hI1 0).2 (ri_th hI1 0).1 (s260_12 hi hG hx hy (hh249 e1) (e2 _) u2_same fun _ => rfl)
    · have e1 := c114n2 (G := G) (c := c) (F := F) (A := A) (P := P) (W := W) (O := O) hS hC ha h2
      have e2 := p198n2 (G := G) (c := (c.1 + 1, c.2.1 + 6, true)) (F := F) (A := A) (P := P) (W := W) (O := O) hS hI ha h2
      exact fin_n hS hC hI (s260_12 hi hG hx hy (hh249_A e1) e2 u2_same fun h => absurd h (by decide))
  · have e1 := c114n1 (G := G) (c := c) (F := F) (A := A) (P := P) (W := W) (O := O) (y := y) hS hC h1
    have e2 := p198n1 (G := G) (c := (c.1 + 1, c.2.1 + 6, true)) (F := F) (A := A) (P := P) (W := W) (O := O) (y := y) hS hI h1
    exact fin_n hS hC hI (s260_12 hi hG hx hy (hh249_I e1) e2 u2_same fun h => absurd h (by decide))
theorem op_13 (hi : i + 3 ≤ G.1) (hG : G.1 ≤ 1536) (hx : G.2 (i + 1) = x) (hy : G.2 (i + 2) = y) (hS : SI g u ks t tx) (hC : CI F A P g u ks t tx) (hI : RI F A g u ks t tx) : STP G c F A P W O 941 i z5 z6 := by
  have hw := hS.1
  rcases nob_or x (dn g) with ⟨a, ha, rfl⟩ | h1
  · rcases nob_or y (chn g) with ⟨b, hb, rfl⟩ | h2
    · have e1 := c115y (G := G) (c := c) (F := F) (A := A) (P := P) (W := W) (O := O) hS hC ha hb
      have hC1 := hC
      have hI1 := hI
      have e2 := fun O2 => p199y (G := G) (c := c) (P := P) (W := W) (O := O2) hS hI1 ha hb
      exact fin_y hS hC1 (ri_th hI1 0).2 (ri_th hI1 0).1 (s260_13 hi hG hx hy (hh250 e1) (e2 _) u2_same fun _ => rfl)
    · have e1 := c115n1 (x := Int32.ofNat a) (G := G) (c := c) (F := F) (A := A) (P := P) (W := W) (O := O) hS hC (Or.inr h2)
      have e2 := p199n (x := Int32.ofNat a) (G := G) (c := (c.1 + 1, c.2.1 + 6, true)) (F := F) (A := A) (P := P) (W := W) (O := O) hS hI (Or.inr h2)
      exact fin_n hS hC hI (s260_13 hi hG hx hy (hh250_I e1) e2 u2_same fun h => absurd h (by decide))
  · have e1 := c115n1 (y := y) (G := G) (c := c) (F := F) (A := A) (P := P) (W := W) (O := O) hS hC (Or.inl h1)
    have e2 := p199n (y := y) (G := G) (c := (c.1 + 1, c.2.1 + 6, true)) (F := F) (A := A) (P := P) (W := W) (O := O) hS hI (Or.inl h1)
    exact fin_n hS hC hI (s260_13 hi hG hx hy (hh250_I e1) e2 u2_same fun h => absurd h (by decide))
theorem op_14 (hi : i + 3 ≤ G.1) (hG : G.1 ≤ 1536) (hx : G.2 (i + 1) = x) (hS : SI g u ks t tx) (hC : CI F A P g u ks t tx) (hI : RI F A g u ks t tx) : STP G c F A P W O 1009 i z5 z6 := by
  have hw := hS.1
  rcases nob_or x 14 with ⟨a, ha, rfl⟩ | h1
  · obtain ⟨F1, A1, fr, hC1, e1⟩ := c116y (G := G) (c := c) (F := F) (A := A) (P := P) (W := W) (O := O) hS hC (show a ≤ 13 by omega)
    have hI1 := ri_frC fr hI
    have e2 := fun O2 => p202y (G := G) (c := c) (P := P) (W := W) (O := O2) hS hI1 (show a ≤ 13 by omega)
    exact fin_y hS hC1 (ri_th hI1 0).2 (ri_th hI1 0).1 (s260_14 hi hG hx (hh251 e1) (e2 _) u2_same fun _ => rfl)
  · have e1 := c116n1 (G := G) (c := c) (F := F) (A := A) (P := P) (W := W) (O := O) h1
    have e2 := p202n (G := G) (c := (c.1 + 1, c.2.1 + 6, true)) (F := F) (A := A) (P := P) (W := W) (O := O) hS hI h1
    exact fin_n hS hC hI (s260_14 hi hG hx (hh251_A e1) e2 u2_same fun h => absurd h (by decide))
theorem op_15 (hi : i + 3 ≤ G.1) (hG : G.1 ≤ 1536) (hx : G.2 (i + 1) = x) (hy : G.2 (i + 2) = y) (hS : SI g u ks t tx) (hC : CI F A P g u ks t tx) (hI : RI F A g u ks t tx) : STP G c F A P W O 1065 i z5 z6 := by
  have hw := hS.1
  by_cases h0 : x < 0
  · have e1 := c117n1 (G := G) (c := c) (F := F) (A := A) (P := P) (W := W) (O := O) (y := y) h0
    have e2 := p206n1 (G := G) (c := (c.1 + 1, c.2.1 + 6, true)) (F := F) (A := A) (P := P) (W := W) (O := O) (y := y) hS hI h0
    exact fin_n hS hC hI (s260_15 hi hG hx hy (hh252_A e1) e2 u2_same fun h => absurd h (by decide))
  · rcases nob_or y 3 with ⟨b, hb, rfl⟩ | h2
    · obtain ⟨a, ha, rfl⟩ := io_of h0
      obtain ⟨F1, A1, fr, hC1, e1⟩ := c117y (G := G) (c := c) (F := F) (A := A) (P := P) (W := W) (O := O) hS hC ha (show b ≤ 2 by omega)
      have hI1 := ri_frC fr hI
      obtain ⟨A2, hA2, e2⟩ := p206y (G := G) (c := c) (P := P) (W := W) (O := vp_updL O 0 _) hS hI1 ha (show b ≤ 2 by omega)
      exact fin_y hS hC1 (ri_wt hI1 hA2).2 (ri_wt hI1 hA2).1 (s260_15 hi hG hx hy (hh252 e1) e2 u2_same fun _ => rfl)
    · have e1 := c117n2 (G := G) (c := c) (F := F) (A := A) (P := P) (W := W) (O := O) h0 h2
      have e2 := p206n2 (G := G) (c := (c.1 + 1, c.2.1 + 6, true)) (F := F) (A := A) (P := P) (W := W) (O := O) hS hI h0 h2
      exact fin_n hS hC hI (s260_15 hi hG hx hy (hh252_A e1) e2 u2_same fun h => absurd h (by decide))
theorem op_16 (hi : i + 3 ≤ G.1) (hG : G.1 ≤ 1536) (hx : G.2 (i + 1) = x) (hS : SI g u ks t tx) (hC : CI F A P g u ks t tx) (hI : RI F A g u ks t tx) : STP G c F A P W O 1133 i z5 z6 := by
  have hw := hS.1
  by_cases h0 : x < 0
  · have e1 := c118n1 (G := G) (c := c) (F := F) (A := A) (P := P) (W := W) (O := O) h0
    have e2 := p208n (G := G) (c := (c.1 + 1, c.2.1 + 6, true)) (F := F) (A := A) (P := P) (W := W) (O := O) hS hI h0
    exact fin_n hS hC hI (s260_16 hi hG hx (hh253_A e1) e2 u2_same fun h => absurd h (by decide))
  · have e1 := c118y (G := G) (c := c) (F := F) (A := A) (P := P) (W := W) (O := O) hS hC h0
    have hC1 := hC
    have hI1 := hI
    have e2 := fun O2 => p208y (G := G) (c := c) (P := P) (W := W) (O := O2) hS hI1 h0
    exact fin_y hS hC1 (ri_th hI1 0).2 (ri_th hI1 0).1 (s260_16 hi hG hx (hh253 e1) (e2 _) u2_same fun _ => rfl)
theorem op_17 (hi : i + 3 ≤ G.1) (hG : G.1 ≤ 1536) (hx : G.2 (i + 1) = x) (hy : G.2 (i + 2) = y) (hS : SI g u ks t tx) (hC : CI F A P g u ks t tx) (hI : RI F A g u ks t tx) : STP G c F A P W O 1189 i z5 z6 := by
  have hw := hS.1
  by_cases hx1 : x = -1 ∨ ∃ j, j < kn g ∧ x = Int32.ofNat j
  · have e1 := c119y (y := y) (G := G) (c := c) (F := F) (A := A) (P := P) (W := W) (O := O) hS hC hx1
    have hC1 := hC
    have hI1 := hI
    have e2 := fun O2 => p209y (y := y) (G := G) (c := c) (P := P) (W := W) (O := O2) hS hI1 hx1
    exact fin_y hS hC1 (ri_th hI1 0).2 (ri_th hI1 0).1 (s260_17 hi hG hx hy (hh254 e1) (e2 _) u2_same fun _ => rfl)
  · have h1 : ¬ x = -1 := fun e => hx1 (Or.inl e)
    have h2 : nob x (kn g) := fun j hj e => hx1 (Or.inr ⟨j, hj, e⟩)
    have e1 := c119n1 (G := G) (c := c) (F := F) (A := A) (P := P) (W := W) (O := O) (y := y) hS hC h1 h2
    have e2 := p209n (G := G) (c := (c.1 + 1, c.2.1 + 6, true)) (F := F) (A := A) (P := P) (W := W) (O := O) (y := y) hS hI h1 h2
    exact fin_n hS hC hI (s260_17 hi hG hx hy (hh254_I e1) e2 u2_same fun h => absurd h (by decide))
theorem op_19 (hi : i + 3 ≤ G.1) (hG : G.1 ≤ 1536) (hx : G.2 (i + 1) = x) (hS : SI g u ks t tx) (hC : CI F A P g u ks t tx) (hI : RI F A g u ks t tx) : STP G c F A P W O 1270 i z5 z6 := by
  have hw := hS.1
  rcases nob_or x (kn g) with ⟨a, ha, rfl⟩ | h1
  · obtain ⟨F1, A1, fr, hC1, e1⟩ := c121y (G := G) (c := c) (F := F) (A := A) (P := P) (W := W) (O := O) hS hC ha
    have hI1 := ri_frC fr hI
    have e2 := fun O2 => p213y (G := G) (c := c) (P := P) (W := W) (O := O2) hS hI1 ha
    exact fin_y hS hC1 (ri_th hI1 0).2 (ri_th hI1 0).1 (s260_19 hi hG hx (hh255 e1) (e2 _) u2_same fun _ => rfl)
  · have e1 := c121n1 (G := G) (c := c) (F := F) (A := A) (P := P) (W := W) (O := O) hS hC h1
    have e2 := p213n (G := G) (c := (c.1 + 1, c.2.1 + 6, true)) (F := F) (A := A) (P := P) (W := W) (O := O) hS hI h1
    exact fin_n hS hC hI (s260_19 hi hG hx (hh255_I e1) e2 u2_same fun h => absurd h (by decide))
theorem op_20 (hi : i + 3 ≤ G.1) (hG : G.1 ≤ 1536) (hx : G.2 (i + 1) = x) (hS : SI g u ks t tx) (hC : CI F A P g u ks t tx) (hI : RI F A g u ks t tx) : STP G c F A P W O 1326 i z5 z6 := by
  have hw := hS.1
  rcases nob_or x (kn g) with ⟨a, ha, rfl⟩ | h1
  · have e1 := c122y (G := G) (c := c) (F := F) (A := A) (P := P) (W := W) (O := O) hS hC ha
    have hC1 := hC
    have hI1 := hI
    have e2 := fun O2 => p214y (G := G) (c := c) (P := P) (W := W) (O := O2) hS hI1 ha
    exact fin_y hS hC1 (ri_th hI1 0).2 (ri_th hI1 0).1 (s260_20 hi hG hx (hh256 e1) (e2 _) u2_same fun _ => rfl)
  · have e1 := c122n1 (G := G) (c := c) (F := F) (A := A) (P := P) (W := W) (O := O) hS hC h1
    have e2 := p214n (G := G) (c := (c.1 + 1, c.2.1 + 6, true)) (F := F) (A := A) (P := P) (W := W) (O := O) hS hI h1
    exact fin_n hS hC hI (s260_20 hi hG hx (hh256_I e1) e2 u2_same fun h => absurd h (by decide))
theorem op_21 (hi : i + 3 ≤ G.1) (hG : G.1 ≤ 1536) (hx : G.2 (i + 1) = x) (hy : G.2 (i + 2) = y) (hS : SI g u ks t tx) (hC : CI F A P g u ks t tx) (hI : RI F A g u ks t tx) : STP G c F A P W O 1382 i z5 z6 := by
  have hw := hS.1
  rcases nob_or x (kn g) with ⟨a, ha, rfl⟩ | h1
  · have e1 := c123y (x := y) (G := G) (c := c) (F := F) (A := A) (P := P) (W := W) (O := O) hS hC ha
    have hC1 := hC
    have hI1 := hI
    have e2 := fun O2 => p215y (x := y) (G := G) (c := c) (P := P) (W := W) (O := O2) hS hI1 ha
    exact fin_y hS hC1 (ri_th hI1 0).2 (ri_th hI1 0).1 (s260_21 hi hG hx hy (hh257 e1) (e2 _) u2_same fun _ => rfl)
  · have e1 := c123n1 (G := G) (c := c) (F := F) (A := A) (P := P) (W := W) (O := O) (y := y) hS hC h1
    have e2 := p215n (G := G) (c := (c.1 + 1, c.2.1 + 6, true)) (F := F) (A := A) (P := P) (W := W) (O := O) (y := y) hS hI h1
    exact fin_n hS hC hI (s260_21 hi hG hx hy (hh257_I e1) e2 u2_same fun h => absurd h (by decide))
theorem op_22 (hi : i + 3 ≤ G.1) (hG : G.1 ≤ 1536) (hx : G.2 (i + 1) = x) (hS : SI g u ks t tx) (hC : CI F A P g u ks t tx) (hI : RI F A g u ks t tx) : STP G c F A P W O 1450 i z5 z6 := by
  have hw := hS.1
  rcases nob_or x 128 with ⟨a, ha, rfl⟩ | h1
  · by_cases h0 : t < 150
    · have hS2 : SI g u ks (t + 1) (upd tx t (Int32.ofNat a)) := by
        refine ⟨hS.1, hS.2.1, hS.2.2.1, by omega, fun j hj => ?_⟩
        by_cases hj2 : j = t
        · subst hj2; exact ⟨a, ha, upd_at⟩
        · rw [upd_no hj2]; exact hS.2.2.2.2 j (by omega)
      obtain ⟨F1, A1, fr, hC1, e1⟩ := c124y (G := G) (c := c) (F := F) (A := A) (P := P) (W := W) (O := O) hS hC ha h0
      have hI1 := ri_frC fr hI
      obtain ⟨F2, A2, fr2, hI2, h3, e2⟩ := p216y (G := G) (c := c) (P := P) (W := W) (O := vp_updL O 0 _) hS hI1 ha h0
      exact fin_y hS2 hC1 fr2 hI2 (s260_22 hi hG hx (hh258 e1) e2 h3 fun _ => rfl)
    · have e1 := c124n2 (G := G) (c := c) (F := F) (A := A) (P := P) (W := W) (O := O) hS hC ha h0
      have e2 := p216n2 (G := G) (c := (c.1 + 1, c.2.1 + 6, true)) (F := F) (A := A) (P := P) (W := W) (O := O) hS hI ha h0
      exact fin_n hS hC hI (s260_22 hi hG hx (hh258_S e1) e2 u2_same fun h => absurd h (by decide))
  · have e1 := c124n1 (G := G) (c := c) (F := F) (A := A) (P := P) (W := W) (O := O) h1
    have e2 := p216n1 (G := G) (c := (c.1 + 1, c.2.1 + 6, true)) (F := F) (A := A) (P := P) (W := W) (O := O) h1
    exact fin_n hS hC hI (s260_22 hi hG hx (hh258_A e1) e2 u2_same fun h => absurd h (by decide))
theorem op_25 (hi : i + 3 ≤ G.1) (hG : G.1 ≤ 1536) (hS : SI g u ks t tx) (hC : CI F A P g u ks t tx) (hI : RI F A g u ks t tx) : STP G c F A P W O 1532 i z5 z6 := by
  have hw := hS.1
  by_cases h0 : u = 0
  · have e1 := c127n (G := G) (c := c) (F := F) (A := A) (P := P) (W := W) (O := O) hS hC h0
    have e2 := p229n (G := G) (c := (c.1 + 1, c.2.1 + 6, true)) (F := F) (A := A) (P := P) (W := W) (O := O) hI h0
    exact fin_n hS hC hI (s260_25 hi hG (hh259_S e1) e2 u2_same fun h => absurd h (by decide))
  · have h1 : 1 ≤ u := by omega
    have hS2 : SI (und g (ks (u - 1))) (u - 1) ks t tx := ⟨wf_115 (hS.2.2.1 (u - 1) (by omega)) und_is, by have := hS.2.1; omega, fun j hj => hS.2.2.1 j (by omega), hS.2.2.2⟩
    obtain ⟨F1, A1, fr, hC1, e1⟩ := c127y (G := G) (c := c) (F := F) (A := A) (P := P) (W := W) (O := O) hS hC h1
    have hI1 := ri_frC fr hI
    obtain ⟨F2, A2, fr2, hI2, h3, e2⟩ := p229y (G := G) (c := c) (P := P) (W := W) (O := vp_updL O 0 _) hS hI1 h1
    exact fin_y hS2 hC1 fr2 hI2 (s260_25 hi hG (hh259 e1) e2 h3 fun _ => rfl)
theorem op_9 (hS : SI g u ks t tx) (hC : CI F A P g u ks t tx) (hI : RI F A g u ks t tx) : STP G c F A P W O 724 i z5 z6 := by
  have hw := hS.1
  obtain ⟨F1, A1, P1, fr, hC1, e1⟩ := c111y (G := G) (c := c) (F := F) (A := A) (P := P) (W := W) (O := O) hS hC
  have hI1 := ri_frC fr hI
  obtain ⟨F2, A2, fr2, hI2, h3, e2⟩ := p193y (G := G) (c := c) (P := P1) (W := W) (O := O) hS hI1
  exact fin_y ⟨wf_fal hw _ (Nat.le_refl _), (si_save hS).2⟩ hC1 fr2 hI2 (s260_9 e1 e2)
theorem op_18 (hS : SI g u ks t tx) (hC : CI F A P g u ks t tx) (hI : RI F A g u ks t tx) : STP G c F A P W O 1257 i z5 z6 := by
  have hw := hS.1
  obtain ⟨F1, A1, fr, hC1, e1⟩ := c120y (G := G) (c := c) (F := F) (A := A) (P := P) (W := W) (O := O) hS hC
  have hI1 := ri_frC fr hI
  have e2 := p211y (G := G) (c := c) (P := P) (W := W) (O := O) hS hI1
  exact fin_y hS hC1 (ri_th hI1 0).2 (ri_th hI1 0).1 (s260_18 e1 e2)
theorem op_23 (hS : SI g u ks t tx) (hC : CI F A P g u ks t tx) (hI : RI F A g u ks t tx) : STP G c F A P W O 1506 i z5 z6 := by
  have hw := hS.1
  obtain ⟨F1, A1, fr, hC1, e1⟩ := c125y (G := G) (c := c) (F := F) (A := A) (P := P) (W := W) (O := O) hS hC
  have hI1 := ri_frC fr hI
  obtain ⟨F2, A2, fr2, hI2, h3, e2⟩ := p217y (G := G) (c := c) (P := P) (W := W) (O := O) hI1
  have hS2 : SI g u ks 0 tx := ⟨hS.1, hS.2.1, hS.2.2.1, by omega, fun j hj => by omega⟩
  exact fin_y hS2 hC1 fr2 hI2 (s260_23 e1 e2)
theorem op_24 (hS : SI g u ks t tx) (hC : CI F A P g u ks t tx) (hI : RI F A g u ks t tx) : STP G c F A P W O 1519 i z5 z6 := by
  have hw := hS.1
  by_cases hf : flt (byx tx) t 151 0 = -1
  · obtain ⟨F1, A1, P1, W1, fr, hC1, hwf, e1⟩ := c126y (G := G) (c := c) (F := F) (A := A) (P := P) (W := W) (O := O) hS hC hf
    have hI1 := ri_frC fr hI
    obtain ⟨F2, A2, fr2, hI2, h3, e2⟩ := p228y (G := G) (c := c) (P := P1) (W := W1) (O := O) hS hI1 hf
    exact fin_y ⟨hwf, (si_save hS).2⟩ hC1 fr2 hI2 (s260_24 e1 e2)
  · obtain ⟨F1, A1, W1, fr, hC1, e1⟩ := c126f (G := G) (c := c) (F := F) (A := A) (P := P) (W := W) (O := O) hS hC hf
    have hI1 := ri_frC fr hI
    obtain ⟨F2, A2, fr2, hI2, h3, e2⟩ := p228f (G := G) (c := c) (P := P) (W := W1) (O := O) hS hI1 hf
    exact fin_y hS hC1 fr2 hI2 (s260_24 e1 e2)
theorem op_26 (hS : SI g u ks t tx) (hC : CI F A P g u ks t tx) (hI : RI F A g u ks t tx) : STP G c F A P W O 1576 i z5 z6 := by
  have hw := hS.1
  obtain ⟨F1, A1, fr, hC1, e1⟩ := c128y (G := G) (c := c) (F := F) (A := A) (P := P) (W := W) (O := O) hS hC
  have hI1 := ri_frC fr hI
  obtain ⟨A2, hA2, e2⟩ := p230y (G := G) (c := c) (P := P) (W := W) (O := O) hS hI1
  exact fin_y hS hC1 (ri_wt hI1 hA2).2 (ri_wt hI1 hA2).1 (s260_26 e1 e2)
end ZT
