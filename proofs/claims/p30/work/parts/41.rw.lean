section ZMem2
variable {G : zG} {c : Nat × Nat × Bool} {F A : Nat → Nat → Int32} {P : Nat → Nat} {W : Value} {O : Nat → Int64} {x y j : Int32} {p q a i : Nat} {X : Option zR}
theorem ho_40 : hO (en G c F A P W O) 40 5 X = X := rfl
theorem gf_40_0 {K : Value → Option zR} : gF (en G c F A P W O) 40 5 0 K = K (.ref 41) := rfl
theorem gf_40_1 {K : Value → Option zR} : gF (en G c F A P W O) 40 5 1 K = K (.ref 49) := rfl
theorem gf_40_2 {K : Value → Option zR} : gF (en G c F A P W O) 40 5 2 K = K (.ref 54) := rfl
theorem gf_40_3 {K : Value → Option zR} : gF (en G c F A P W O) 40 5 3 K = K (.ref 88) := rfl
theorem ho_49 : hO (en G c F A P W O) 49 3 X = X := rfl
theorem gf_49_0 {K : Value → Option zR} : gF (en G c F A P W O) 49 3 0 K = K (.ref 41) := rfl
theorem gf_49_1 {K : Value → Option zR} : gF (en G c F A P W O) 49 3 1 K = K (.ref 50) := rfl
theorem gf_49_2 {K : Value → Option zR} : gF (en G c F A P W O) 49 3 2 K = K (.ref 53) := rfl
theorem gf_49_3 {K : Value → Option zR} : gF (en G c F A P W O) 49 3 3 K = K (.int (F 49 3)) := rfl
theorem pf_49_3 {K : zW → Option zR} : pF (en G c F A P W O) 49 3 3 (.int x) K = K (en G c (u2 F 49 3 x) A P W O) := congrArg K (m_set (a := 49) rfl rfl fun b h => m_u2 h)
theorem ho_50 : hO (en G c F A P W O) 50 1 X = X := rfl
theorem gf_50_0 {K : Value → Option zR} : gF (en G c F A P W O) 50 1 0 K = K (.ref 51) := rfl
theorem gf_50_1 {K : Value → Option zR} : gF (en G c F A P W O) 50 1 1 K = K (.ref 52) := rfl
theorem gf_50_2 {K : Value → Option zR} : gF (en G c F A P W O) 50 1 2 K = K (.int (F 50 2)) := rfl
theorem pf_50_2 {K : zW → Option zR} : pF (en G c F A P W O) 50 1 2 (.int x) K = K (en G c (u2 F 50 2 x) A P W O) := congrArg K (m_set (a := 50) rfl rfl fun b h => m_u2 h)
theorem gf_50_3 {K : Value → Option zR} : gF (en G c F A P W O) 50 1 3 K = K (.int (F 50 3)) := rfl
theorem pf_50_3 {K : zW → Option zR} : pF (en G c F A P W O) 50 1 3 (.int x) K = K (en G c (u2 F 50 3 x) A P W O) := congrArg K (m_set (a := 50) rfl rfl fun b h => m_u2 h)
theorem gf_50_4 {K : Value → Option zR} : gF (en G c F A P W O) 50 1 4 K = K (.int (F 50 4)) := rfl
theorem pf_50_4 {K : zW → Option zR} : pF (en G c F A P W O) 50 1 4 (.int x) K = K (en G c (u2 F 50 4 x) A P W O) := congrArg K (m_set (a := 50) rfl rfl fun b h => m_u2 h)
theorem gf_50_5 {K : Value → Option zR} : gF (en G c F A P W O) 50 1 5 K = K (.int (F 50 5)) := rfl
theorem pf_50_5 {K : zW → Option zR} : pF (en G c F A P W O) 50 1 5 (.int x) K = K (en G c (u2 F 50 5 x) A P W O) := congrArg K (m_set (a := 50) rfl rfl fun b h => m_u2 h)
theorem gf_50_6 {K : Value → Option zR} : gF (en G c F A P W O) 50 1 6 K = K (.int (F 50 6)) := rfl
theorem pf_50_6 {K : zW → Option zR} : pF (en G c F A P W O) 50 1 6 (.int x) K = K (en G c (u2 F 50 6 x) A P W O) := congrArg K (m_set (a := 50) rfl rfl fun b h => m_u2 h)
theorem ho_54 : hO (en G c F A P W O) 54 4 X = X := rfl
theorem gf_54_0 {K : Value → Option zR} : gF (en G c F A P W O) 54 4 0 K = K (.ref 55) := rfl
theorem gf_54_1 {K : Value → Option zR} : gF (en G c F A P W O) 54 4 1 K = K (.int (F 54 1)) := rfl
theorem pf_54_1 {K : zW → Option zR} : pF (en G c F A P W O) 54 4 1 (.int x) K = K (en G c (u2 F 54 1 x) A P W O) := congrArg K (m_set (a := 54) rfl rfl fun b h => m_u2 h)
theorem ho_88 : hO (en G c F A P W O) 88 0 X = X := rfl
theorem gf_88_0 {K : Value → Option zR} : gF (en G c F A P W O) 88 0 0 K = K (.ref 89) := rfl
theorem gf_88_1 {K : Value → Option zR} : gF (en G c F A P W O) 88 0 1 K = K (.int (F 88 1)) := rfl
theorem pf_88_1 {K : zW → Option zR} : pF (en G c F A P W O) 88 0 1 (.int x) K = K (en G c (u2 F 88 1 x) A P W O) := congrArg K (m_set (a := 88) rfl rfl fun b h => m_u2 h)
theorem gf_88_2 {K : Value → Option zR} : gF (en G c F A P W O) 88 0 2 K = K (.int (F 88 2)) := rfl
theorem pf_88_2 {K : zW → Option zR} : pF (en G c F A P W O) 88 0 2 (.int x) K = K (en G c (u2 F 88 2 x) A P W O) := congrArg K (m_set (a := 88) rfl rfl fun b h => m_u2 h)
theorem gf_88_3 {K : Value → Option zR} : gF (en G c F A P W O) 88 0 3 K = K W := rfl
theorem pf_88_3 {K : zW → Option zR} {v : Value} : pF (en G c F A P W O) 88 0 3 v K = K (en G c F A P v O) := congrArg K (m_set (a := 88) rfl rfl fun b h => m_W h)
theorem gf_88_4 {K : Value → Option zR} : gF (en G c F A P W O) 88 0 4 K = K (.int (F 88 4)) := rfl
theorem pf_88_4 {K : zW → Option zR} : pF (en G c F A P W O) 88 0 4 (.int x) K = K (en G c (u2 F 88 4 x) A P W O) := congrArg K (m_set (a := 88) rfl rfl fun b h => m_u2 h)
theorem gf_88_5 {K : Value → Option zR} : gF (en G c F A P W O) 88 0 5 K = K (.int (F 88 5)) := rfl
theorem pf_88_5 {K : zW → Option zR} : pF (en G c F A P W O) 88 0 5 (.int x) K = K (en G c (u2 F 88 5 x) A P W O) := congrArg K (m_set (a := 88) rfl rfl fun b h => m_u2 h)
theorem ho_p (hp : PA p) : hO (en G c F A P W O) p 2 X = X := by rcases hp with rfl | rfl | rfl | rfl | rfl <;> rfl
theorem gf_p_0 {K : Value → Option zR} (hp : PA p) : gF (en G c F A P W O) p 2 0 K = K (.int (F p 0)) := by rcases hp with rfl | rfl | rfl | rfl | rfl <;> rfl
theorem gf_41_0 {K : Value → Option zR} : gF (en G c F A P W O) 41 2 0 K = K (.int (F 41 0)) := rfl
theorem pf_p_0 {K : zW → Option zR} (hp : PA p) : pF (en G c F A P W O) p 2 0 (.int x) K = K (en G c (u2 F p 0 x) A P W O) := by rcases hp with rfl | rfl | rfl | rfl | rfl <;> exact congrArg K (m_set rfl rfl fun b h => m_u2 h)
theorem pf_41_0 {K : zW → Option zR} : pF (en G c F A P W O) 41 2 0 (.int x) K = K (en G c (u2 F 41 0 x) A P W O) := pf_p_0 PA_41
theorem gf_p_1 {K : Value → Option zR} (hp : PA p) : gF (en G c F A P W O) p 2 1 K = K (.int (F p 1)) := by rcases hp with rfl | rfl | rfl | rfl | rfl <;> rfl
theorem gf_41_1 {K : Value → Option zR} : gF (en G c F A P W O) 41 2 1 K = K (.int (F 41 1)) := rfl
theorem pf_p_1 {K : zW → Option zR} (hp : PA p) : pF (en G c F A P W O) p 2 1 (.int x) K = K (en G c (u2 F p 1 x) A P W O) := by rcases hp with rfl | rfl | rfl | rfl | rfl <;> exact congrArg K (m_set rfl rfl fun b h => m_u2 h)
theorem pf_41_1 {K : zW → Option zR} : pF (en G c F A P W O) 41 2 1 (.int x) K = K (en G c (u2 F 41 1 x) A P W O) := pf_p_1 PA_41
theorem gf_p_2 {K : Value → Option zR} (hp : PA p) : gF (en G c F A P W O) p 2 2 K = K (.ref (p + 1)) := by rcases hp with rfl | rfl | rfl | rfl | rfl <;> rfl
theorem gf_41_2 {K : Value → Option zR} : gF (en G c F A P W O) 41 2 2 K = K (.ref 42) := rfl
theorem gf_p_3 {K : Value → Option zR} (hp : PA p) : gF (en G c F A P W O) p 2 3 K = K (.int (F p 3)) := by rcases hp with rfl | rfl | rfl | rfl | rfl <;> rfl
theorem gf_41_3 {K : Value → Option zR} : gF (en G c F A P W O) 41 2 3 K = K (.int (F 41 3)) := rfl
theorem pf_p_3 {K : zW → Option zR} (hp : PA p) : pF (en G c F A P W O) p 2 3 (.int x) K = K (en G c (u2 F p 3 x) A P W O) := by rcases hp with rfl | rfl | rfl | rfl | rfl <;> exact congrArg K (m_set rfl rfl fun b h => m_u2 h)
theorem pf_41_3 {K : zW → Option zR} : pF (en G c F A P W O) 41 2 3 (.int x) K = K (en G c (u2 F 41 3 x) A P W O) := pf_p_3 PA_41
theorem gf_p_4 {K : Value → Option zR} (hp : PA p) : gF (en G c F A P W O) p 2 4 K = K (.ref (p + 2)) := by rcases hp with rfl | rfl | rfl | rfl | rfl <;> rfl
theorem gf_41_4 {K : Value → Option zR} : gF (en G c F A P W O) 41 2 4 K = K (.ref 43) := rfl
theorem gf_p_5 {K : Value → Option zR} (hp : PA p) : gF (en G c F A P W O) p 2 5 K = K (.ref (p + 3)) := by rcases hp with rfl | rfl | rfl | rfl | rfl <;> rfl
theorem gf_41_5 {K : Value → Option zR} : gF (en G c F A P W O) 41 2 5 K = K (.ref 44) := rfl
theorem gf_p_6 {K : Value → Option zR} (hp : PA p) : gF (en G c F A P W O) p 2 6 K = K (.ref (p + 4)) := by rcases hp with rfl | rfl | rfl | rfl | rfl <;> rfl
theorem gf_41_6 {K : Value → Option zR} : gF (en G c F A P W O) 41 2 6 K = K (.ref 45) := rfl
theorem gf_p_7 {K : Value → Option zR} (hp : PA p) : gF (en G c F A P W O) p 2 7 K = K (.ref (p + 5)) := by rcases hp with rfl | rfl | rfl | rfl | rfl <;> rfl
theorem gf_41_7 {K : Value → Option zR} : gF (en G c F A P W O) 41 2 7 K = K (.ref 46) := rfl
theorem gf_p_8 {K : Value → Option zR} (hp : PA p) : gF (en G c F A P W O) p 2 8 K = K (.int (F p 8)) := by rcases hp with rfl | rfl | rfl | rfl | rfl <;> rfl
theorem gf_41_8 {K : Value → Option zR} : gF (en G c F A P W O) 41 2 8 K = K (.int (F 41 8)) := rfl
theorem pf_p_8 {K : zW → Option zR} (hp : PA p) : pF (en G c F A P W O) p 2 8 (.int x) K = K (en G c (u2 F p 8 x) A P W O) := by rcases hp with rfl | rfl | rfl | rfl | rfl <;> exact congrArg K (m_set rfl rfl fun b h => m_u2 h)
theorem pf_41_8 {K : zW → Option zR} : pF (en G c F A P W O) 41 2 8 (.int x) K = K (en G c (u2 F 41 8 x) A P W O) := pf_p_8 PA_41
theorem gf_p_9 {K : Value → Option zR} (hp : PA p) : gF (en G c F A P W O) p 2 9 K = K (.int (F p 9)) := by rcases hp with rfl | rfl | rfl | rfl | rfl <;> rfl
theorem gf_41_9 {K : Value → Option zR} : gF (en G c F A P W O) 41 2 9 K = K (.int (F 41 9)) := rfl
theorem pf_p_9 {K : zW → Option zR} (hp : PA p) : pF (en G c F A P W O) p 2 9 (.int x) K = K (en G c (u2 F p 9 x) A P W O) := by rcases hp with rfl | rfl | rfl | rfl | rfl <;> exact congrArg K (m_set rfl rfl fun b h => m_u2 h)
theorem pf_41_9 {K : zW → Option zR} : pF (en G c F A P W O) 41 2 9 (.int x) K = K (en G c (u2 F 41 9 x) A P W O) := pf_p_9 PA_41
theorem gf_p_10 {K : Value → Option zR} (hp : PA p) : gF (en G c F A P W O) p 2 10 K = K (.ref (p + 6)) := by rcases hp with rfl | rfl | rfl | rfl | rfl <;> rfl
theorem gf_41_10 {K : Value → Option zR} : gF (en G c F A P W O) 41 2 10 K = K (.ref 47) := rfl
theorem gf_p_11 {K : Value → Option zR} (hp : PA p) : gF (en G c F A P W O) p 2 11 K = K (.ref (p + 7)) := by rcases hp with rfl | rfl | rfl | rfl | rfl <;> rfl
theorem gf_41_11 {K : Value → Option zR} : gF (en G c F A P W O) 41 2 11 K = K (.ref 48) := rfl
theorem ho_41 : hO (en G c F A P W O) 41 2 X = X := rfl
theorem u2_self {A : Nat → Nat → Int32} {a k : Nat} {x : Int32} : u2 A a k x a = upd (A a) k x := by
  funext j
  unfold u2 upd
  by_cases h : j = k
  · subst h; simp
  · simp [h]
theorem gi_42 {K : Int32 → Option zR} : gI (en G c F A P W O) 42 0 8 j K = if zin j 3 = true then K (A 42 j.toNatClampNeg) else none := rfl
theorem pi_42 {K : zW → Option zR} : pI (en G c F A P W O) 42 0 j x K = if zin j 3 = true then K (en G c F (u2 A 42 j.toNatClampNeg x) P W O) else none := by
  show (if zin j 3 = true then K (zset _ _ _) else none) = _
  rw [m_set (a := 42) (F' := F) (A' := u2 A 42 j.toNatClampNeg x) (P' := P) (W' := W) (O' := O) rfl (by unfold mem; rw [u2_self]; rfl) fun b h => m_u2A h]
theorem gi_43 {K : Int32 → Option zR} : gI (en G c F A P W O) 43 0 8 j K = if zin j 16 = true then K (A 43 j.toNatClampNeg) else none := rfl
theorem pi_43 {K : zW → Option zR} : pI (en G c F A P W O) 43 0 j x K = if zin j 16 = true then K (en G c F (u2 A 43 j.toNatClampNeg x) P W O) else none := by
  show (if zin j 16 = true then K (zset _ _ _) else none) = _
  rw [m_set (a := 43) (F' := F) (A' := u2 A 43 j.toNatClampNeg x) (P' := P) (W' := W) (O' := O) rfl (by unfold mem; rw [u2_self]; rfl) fun b h => m_u2A h]
theorem gi_44 {K : Int32 → Option zR} : gI (en G c F A P W O) 44 0 8 j K = if zin j 16 = true then K (A 44 j.toNatClampNeg) else none := rfl
theorem pi_44 {K : zW → Option zR} : pI (en G c F A P W O) 44 0 j x K = if zin j 16 = true then K (en G c F (u2 A 44 j.toNatClampNeg x) P W O) else none := by
  show (if zin j 16 = true then K (zset _ _ _) else none) = _
  rw [m_set (a := 44) (F' := F) (A' := u2 A 44 j.toNatClampNeg x) (P' := P) (W' := W) (O' := O) rfl (by unfold mem; rw [u2_self]; rfl) fun b h => m_u2A h]
theorem gi_45 {K : Int32 → Option zR} : gI (en G c F A P W O) 45 0 8 j K = if zin j 16 = true then K (A 45 j.toNatClampNeg) else none := rfl
theorem pi_45 {K : zW → Option zR} : pI (en G c F A P W O) 45 0 j x K = if zin j 16 = true then K (en G c F (u2 A 45 j.toNatClampNeg x) P W O) else none := by
  show (if zin j 16 = true then K (zset _ _ _) else none) = _
  rw [m_set (a := 45) (F' := F) (A' := u2 A 45 j.toNatClampNeg x) (P' := P) (W' := W) (O' := O) rfl (by unfold mem; rw [u2_self]; rfl) fun b h => m_u2A h]
theorem gi_46 {K : Int32 → Option zR} : gI (en G c F A P W O) 46 0 8 j K = if zin j 16 = true then K (A 46 j.toNatClampNeg) else none := rfl
theorem pi_46 {K : zW → Option zR} : pI (en G c F A P W O) 46 0 j x K = if zin j 16 = true then K (en G c F (u2 A 46 j.toNatClampNeg x) P W O) else none := by
  show (if zin j 16 = true then K (zset _ _ _) else none) = _
  rw [m_set (a := 46) (F' := F) (A' := u2 A 46 j.toNatClampNeg x) (P' := P) (W' := W) (O' := O) rfl (by unfold mem; rw [u2_self]; rfl) fun b h => m_u2A h]
theorem gi_47 {K : Int32 → Option zR} : gI (en G c F A P W O) 47 0 8 j K = if zin j 12 = true then K (A 47 j.toNatClampNeg) else none := rfl
theorem pi_47 {K : zW → Option zR} : pI (en G c F A P W O) 47 0 j x K = if zin j 12 = true then K (en G c F (u2 A 47 j.toNatClampNeg x) P W O) else none := by
  show (if zin j 12 = true then K (zset _ _ _) else none) = _
  rw [m_set (a := 47) (F' := F) (A' := u2 A 47 j.toNatClampNeg x) (P' := P) (W' := W) (O' := O) rfl (by unfold mem; rw [u2_self]; rfl) fun b h => m_u2A h]
theorem gi_48 {K : Int32 → Option zR} : gI (en G c F A P W O) 48 0 8 j K = if zin j 12 = true then K (A 48 j.toNatClampNeg) else none := rfl
theorem pi_48 {K : zW → Option zR} : pI (en G c F A P W O) 48 0 j x K = if zin j 12 = true then K (en G c F (u2 A 48 j.toNatClampNeg x) P W O) else none := by
  show (if zin j 12 = true then K (zset _ _ _) else none) = _
  rw [m_set (a := 48) (F' := F) (A' := u2 A 48 j.toNatClampNeg x) (P' := P) (W' := W) (O' := O) rfl (by unfold mem; rw [u2_self]; rfl) fun b h => m_u2A h]
theorem gi_51 {K : Int32 → Option zR} : gI (en G c F A P W O) 51 0 8 j K = if zin j 1296 = true then K (A 51 j.toNatClampNeg) else none := rfl
theorem pi_51 {K : zW → Option zR} : pI (en G c F A P W O) 51 0 j x K = if zin j 1296 = true then K (en G c F (u2 A 51 j.toNatClampNeg x) P W O) else none := by
  show (if zin j 1296 = true then K (zset _ _ _) else none) = _
  rw [m_set (a := 51) (F' := F) (A' := u2 A 51 j.toNatClampNeg x) (P' := P) (W' := W) (O' := O) rfl (by unfold mem; rw [u2_self]; rfl) fun b h => m_u2A h]
theorem gi_52 {K : Int32 → Option zR} : gI (en G c F A P W O) 52 0 8 j K = if zin j 1296 = true then K (A 52 j.toNatClampNeg) else none := rfl
theorem pi_52 {K : zW → Option zR} : pI (en G c F A P W O) 52 0 j x K = if zin j 1296 = true then K (en G c F (u2 A 52 j.toNatClampNeg x) P W O) else none := by
  show (if zin j 1296 = true then K (zset _ _ _) else none) = _
  rw [m_set (a := 52) (F' := F) (A' := u2 A 52 j.toNatClampNeg x) (P' := P) (W' := W) (O' := O) rfl (by unfold mem; rw [u2_self]; rfl) fun b h => m_u2A h]
theorem gi_53 {K : Int32 → Option zR} : gI (en G c F A P W O) 53 0 8 j K = if zin j 12 = true then K (A 53 j.toNatClampNeg) else none := rfl
theorem pi_53 {K : zW → Option zR} : pI (en G c F A P W O) 53 0 j x K = if zin j 12 = true then K (en G c F (u2 A 53 j.toNatClampNeg x) P W O) else none := by
  show (if zin j 12 = true then K (zset _ _ _) else none) = _
  rw [m_set (a := 53) (F' := F) (A' := u2 A 53 j.toNatClampNeg x) (P' := P) (W' := W) (O' := O) rfl (by unfold mem; rw [u2_self]; rfl) fun b h => m_u2A h]
theorem gi_89 {K : Int32 → Option zR} : gI (en G c F A P W O) 89 2 9 j K = if zin j 150 = true then K (A 89 j.toNatClampNeg) else none := rfl
theorem pi_89 {K : zW → Option zR} : pI (en G c F A P W O) 89 2 j x K = if zin j 150 = true then K (en G c F (u2 A 89 j.toNatClampNeg x) P W O) else none := by
  show (if zin j 150 = true then K (zset _ _ _) else none) = _
  rw [m_set (a := 89) (F' := F) (A' := u2 A 89 j.toNatClampNeg x) (P' := P) (W' := W) (O' := O) rfl (by unfold mem; rw [u2_self]; rfl) fun b h => m_u2A h]
theorem gi_1 {K : Int32 → Option zR} : gI (en G c F A P W O) 1 0 8 j K = if zin j G.1 = true then K (G.2 j.toNatClampNeg) else none := rfl
theorem gn_1 {K : Int32 → Option zR} : gN (en G c F A P W O) 1 K = K (Int32.ofNat G.1) := rfl
theorem zin_lt {n : Nat} (h : zin j n = true) : j.toNatClampNeg < n := by
  unfold zin at h
  have := of_decide_eq_true h
  omega
theorem gr_55 {K : Value → Option zR} : gR (en G c F A P W O) 55 j K = if zin j 4 = true then K (.ref (P j.toNatClampNeg)) else none := by
  show (if zin j 4 = true then K (va_rf (if j.toNatClampNeg < 4 then some (P j.toNatClampNeg) else none)) else none) = _
  by_cases h : zin j 4 = true
  · rw [if_pos h, if_pos h, if_pos (zin_lt h)]; rfl
  · rw [if_neg h, if_neg h]
/-- the plans with one place changed -/
def uP (P : Nat → Nat) (k a : Nat) : Nat → Nat := fun j => if j = k then a else P j
theorem pr_55 {K : zW → Option zR} (hq : PA q) : pR (en G c F A P W O) 55 j q K = if zin j 4 = true then K (en G c F A (uP P j.toNatClampNeg q) W O) else none := by
  have h : ∃ fs, zobj (en G c F A P W O) q 2 = some fs := by rcases hq with rfl | rfl | rfl | rfl | rfl <;> exact ⟨_, rfl⟩
  obtain ⟨fs, h⟩ := h
  have h2 : zarR (en G c F A P W O) 55 3 3 = some (4, fun j => if j < 4 then some (P j) else none) := rfl
  unfold pR
  rw [h, h2]
  dsimp only
  refine dite (zin j 4 = true) (fun hz => ?_) (fun hz => by rw [if_neg hz, if_neg hz])
  rw [if_pos hz, if_pos hz]
  rw [m_set (a := 55) (F' := F) (A' := A) (P' := uP P j.toNatClampNeg q) (W' := W) (O' := O) rfl ?_ fun b h => m_P h]
  have he : (fun k => if k < 4 then some (uP P j.toNatClampNeg q k) else none) = va_up (fun k => if k < 4 then some (P k) else none) j.toNatClampNeg (some q) := by
    funext k
    have hj := zin_lt hz
    unfold uP va_up
    by_cases hk : k = j.toNatClampNeg
    · rw [if_pos (by omega), if_pos hk, if_pos hk]
    · rw [if_neg hk, if_neg hk]
  rw [← he]
  rfl
end ZMem2
