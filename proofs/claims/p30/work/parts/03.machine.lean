/-! THE ABSTRACT MACHINE: an interpreter of the bytecode over a small heap of numbered cells.
 A cell is an array (kind, contents) or an object (class, fields). Kinds: 0 int, 1 long, 2 byte, 3 Plan; constants of the start: 8 int, 9 byte, 10 Word.
 Classes: 0..6 as in vwCl; constants: 100 Word, 101 String. Cells below 40 are constants. -/
abbrev zE : Type := (Nat × vp_A) ⊕ (Nat × List Value)
/-- a world: cells made, slots made, whether an exception was made; the cells -/
abbrev zW : Type := (Nat × Nat × Bool) × (Nat → Option zE)
abbrev zL : Type := List (Option Value)
abbrev zR : Type := (Option Value ⊕ String) × zW
abbrev zS : Type := Nat × zL × List Value × zW
/-- a step's outcome: a next state, an end, a call -/
abbrev zT : Type := zS ⊕ (zR ⊕ (Nat × List Value × List Value))
def zset (w : zW) (a : Nat) (e : zE) : zW := (w.1, fun b => if b = a then some e else w.2 b)
def znew (w : zW) (n : Nat) (e : zE) : zW := ((w.1.1 + 1, w.1.2.1 + n, w.1.2.2), fun b => if b = 40 + w.1.1 then some e else w.2 b)
def zthw (w : zW) : zW := ((w.1.1 + 1, w.1.2.1 + 6, true), w.2)
def zobj (w : zW) (a ci : Nat) : Option (List Value) := match w.2 a with
  | some (.inr (c, fs)) => if c = ci then some fs else none
  | _ => none
def zarI (w : zW) (a t t' : Nat) : Option (Nat × (Nat → Int32)) := match w.2 a with
  | some (.inl (k, n, .inl f)) => if k = t ∨ k = t' then some (n, f) else none
  | _ => none
def zarL (_ : zW) (_ : Nat) : Option (Nat × (Nat → Int64)) := none
def zarR (w : zW) (a t t' : Nat) : Option (Nat × (Nat → Option Nat)) := match w.2 a with
  | some (.inl (k, n, .inr (.inr (.inr (.inr f))))) => if k = t ∨ k = t' then some (n, f) else none
  | _ => none
def zlen (w : zW) (a : Nat) : Option Nat := match w.2 a with
  | some (.inl (_, n, _)) => some n
  | _ => none
def zin (j : Int32) (n : Nat) : Bool := decide (¬ (j < 0 ∨ n ≤ j.toNatClampNeg))
def zld (ls : zL) (k : Nat) : Option Value := (ls[k]?).join
/-- the place before k doesn't hold a long -/
def zpre (hl : Bool) (ls : zL) (k : Nat) : Bool := !hl || (match k with
  | 0 => true
  | j + 1 => match zld ls j with
    | some (.long _) => false
    | some (.double _) => false
    | _ => true)
def znx (pc : Nat) (ls : zL) (st : List Value) (w : zW) : Option zT := some (.inl (pc, ls, st, w))
def zst (hl : Bool) (pc : Nat) (ls : zL) (k : Nat) (v : Value) (st : List Value) (w : zW) : Option zT :=
  if k < ls.length ∧ zpre hl ls k = true then znx pc (ls.set k (some v)) st w else none
def zstL (hl : Bool) (pc : Nat) (ls : zL) (k : Nat) (v : Value) (st : List Value) (w : zW) : Option zT :=
  if hl = true ∧ k + 1 < ls.length ∧ zpre hl ls k = true then znx pc ((ls.set k (some v)).set (k + 1) none) st w else none
def zldA (ls : zL) (k pc : Nat) (st : List Value) (w : zW) : Option zT := match zld ls k with
  | some (.ref a) => znx pc ls (.ref a :: st) w
  | some .null => znx pc ls (.null :: st) w
  | _ => none
def zldI (ls : zL) (k pc : Nat) (st : List Value) (w : zW) : Option zT := match zld ls k with
  | some (.int a) => znx pc ls (.int a :: st) w
  | _ => none
def zldL (ls : zL) (k pc : Nat) (st : List Value) (w : zW) : Option zT := match zld ls k with
  | some (.long a) => znx pc ls (.long a :: st) w
  | _ => none
def zb2 (ls : zL) (pc : Nat) (f : Int32 → Int32 → Int32) (st : List Value) (w : zW) : Option zT := match st with
  | .int y :: .int x :: r => znx (pc + 1) ls (.int (f x y) :: r) w
  | _ => none
def zcmp (c : Jvm.ClassFile.Cond) (x y : Int32) : Bool := match c with
  | .eq => decide (x = y)
  | .ne => !decide (x = y)
  | .lt => decide (x < y)
  | .ge => decide (y ≤ x)
  | .gt => decide (y < x)
  | .le => decide (x ≤ y)
def ztgt (pc : Nat) (off : Int) : Nat := ((pc : Int) + off).toNat
def zbr (b : Bool) (pc : Nat) (off : Int) (ls : zL) (st : List Value) (w : zW) : Option zT := if 0 ≤ (pc : Int) + off then znx (if b = true then ztgt pc off else pc + 3) ls st w else none
def zcats (st : List Value) : Nat := (st.map fun v => v.category).sum
def zret (q : zM) (v : Int32) : Bool := match q.2.2.2.1 with
  | some .int => true
  | some .boolean => v == 0 || v == 1
  | some .byte => v.toInt8.toInt32 == v
  | some .char => v.toUInt32.toUInt16.toUInt32.toInt32 == v
  | _ => false
/-- an end with an int -/
def zend (q : zM) (v : Int32) (w : zW) : Option zT := if zret q v = true then some (.inr (.inl (.inl (some (.int v)), w))) else none
def zfin (r : Option Value) (w : zW) : Option zT := some (.inr (.inl (.inl r, w)))
def zq (j : Nat) : Option zM := zMT[j]?
/-- a callee's locals -/
def zent (q : zM) (av : List Value) : Option zL :=
  let l : zL := av.flatMap fun v => if v.category = 2 then [some v, none] else [some v]
  if l.length ≤ q.2.2.1 ∧ (q.2.2.2.2.2.2.2.2.1 = true ∨ av.all (fun v => v.category == 1) = true) then some (l ++ List.replicate (q.2.2.1 - l.length) none) else none
def zfr (q : zM) : Nat := q.2.2.2.2.2.2.1
def zlo (q : zM) : Nat := q.2.2.2.2.2.2.2.1
/-- the room that a call needs stands -/
def zroom (q qj : zM) (rest : List Value) : Bool := decide (zcats rest ≤ 8) && decide (zfr qj + 1 ≤ zfr q) && decide (8 + (qj.2.2.1 + 11) + zlo qj ≤ zlo q)
def zcall (q : zM) (j : Nat) (av rest : List Value) : Option zT := match zq j with
  | some qj => if zroom q qj rest = true then some (.inr (.inr (j, av, rest))) else none
  | none => none
/-- a call whose receiver is an object of the callee's class -/
def zcallV (q : zM) (w : zW) (j n : Nat) (st : List Value) : Option zT := match st.drop n with
  | .ref a :: r => (match zq j with
    | some qj => (match zobj w a qj.2.2.2.2.2.2.2.2.2 with
      | some _ => zcall q j (.ref a :: (st.take n).reverse) r
      | none => none)
    | none => none)
  | _ => none
def zcallI (q : zM) (j n : Nat) (st : List Value) : Option zT := match st.drop n with
  | .ref a :: r => zcall q j (.ref a :: (st.take n).reverse) r
  | _ => none
def zcallS (q : zM) (j n : Nat) (st : List Value) : Option zT := if n ≤ st.length then zcall q j (st.take n).reverse (st.drop n) else none
/-- Object's constructor -/
def zobjI (q : zM) (pc : Nat) (ls : zL) (st : List Value) (w : zW) : Option zT := match st with
  | .ref _ :: r => if zcats r ≤ 8 ∧ 1 ≤ zfr q ∧ 20 ≤ zlo q then znx (pc + 3) ls r w else none
  | _ => none
/-- Enum's ordinal of a Word -/
def zord (_ : zM) (_ : Nat) (_ : zL) (_ : List Value) (_ : zW) : Option zT := none
def zcopy (q : zM) (pc : Nat) (ls : zL) (st : List Value) (w : zW) : Option zT := match st with
  | .int m :: .int dp :: .ref d :: .int sp :: .ref s :: r =>
    (match zarI w s 0 0, zarI w d 0 0 with
    | some (n0, f), some (n1, g) =>
      if s ≠ d ∧ ¬ sp < 0 ∧ ¬ dp < 0 ∧ ¬ m < 0 ∧ sp.toNatClampNeg + m.toNatClampNeg ≤ n0 ∧ dp.toNatClampNeg + m.toNatClampNeg ≤ n1 ∧ zcats r ≤ 8 ∧ 1 ≤ zfr q ∧ 26 ≤ zlo q then
        znx (pc + 3) ls r (zset w d (.inl (0, n1, .inl (va_cpy f g sp.toNatClampNeg dp.toNatClampNeg m.toNatClampNeg))))
      else none
    | _, _ => none)
  | _ => none
def zchk (_ : zM) (_ : Nat) (_ : zL) (_ : List Value) (_ : zW) : Option zT := none
def zmax (q : zM) (pc : Nat) (ls : zL) (st : List Value) (w : zW) : Option zT := match st with
  | .int y :: .int x :: r => if zcats r ≤ 8 ∧ 1 ≤ zfr q ∧ 21 ≤ zlo q then znx (pc + 3) ls (.int (if x < y then y else x) :: r) w else none
  | _ => none
def zabs (q : zM) (pc : Nat) (ls : zL) (st : List Value) (w : zW) : Option zT := match st with
  | .int x :: r => if zcats r ≤ 8 ∧ 1 ≤ zfr q ∧ 21 ≤ zlo q then znx (pc + 3) ls (.int (if 0 ≤ x then x else 0 - x) :: r) w else none
  | _ => none
/-- a value that a field holds -/
def zfits (ci k : Nat) (v : Value) : Bool := match (zFK[ci]?.getD [])[k]? with
  | some (true, _) => (match v with | .int _ => true | _ => false)
  | some (false, _) => (match v with | .ref _ => true | .null => true | _ => false)
  | none => false
def zfinal (ci k : Nat) : Bool := match (zFK[ci]?.getD [])[k]? with
  | some (_, b) => b
  | none => true
def zdef (ci : Nat) : List Value := (zFK[ci]?.getD []).map fun b => if b.1 = true then .int 0 else .null
def zaty : ArrayType → Option (Nat × vp_A)
  | .int => some (0, 0, .inl fun _ => 0)
  | .byte => some (2, 0, .inl fun _ => 0)
  | _ => none
/-- one instruction of method i, whose row is q -/
def zstep (q : zM) (i pc : Nat) (I : Instr) (len : Nat) (ls : zL) (st : List Value) (w : zW) : Option zT :=
  let oc := q.2.2.2.2.2.1
  let hl := q.2.2.2.2.2.2.2.2.1
  match I with
  | .aload_n k => zldA ls k (pc + 1) st w
  | .aload k => zldA ls k (pc + 2) st w
  | .iload_n k => zldI ls k (pc + 1) st w
  | .iload k => zldI ls k (pc + 2) st w
  | .lload_n k => zldL ls k (pc + 1) st w
  | .istore_n k => (match st with | .int x :: r => zst hl (pc + 1) ls k (.int x) r w | _ => none)
  | .istore k => (match st with | .int x :: r => zst hl (pc + 2) ls k (.int x) r w | _ => none)
  | .lstore_n k => (match st with | .long x :: r => zstL hl (pc + 1) ls k (.long x) r w | _ => none)
  | .astore_n k => (match st with | .ref x :: r => zst hl (pc + 1) ls k (.ref x) r w | .null :: r => zst hl (pc + 1) ls k .null r w | _ => none)
  | .astore k => (match st with | .ref x :: r => zst hl (pc + 2) ls k (.ref x) r w | .null :: r => zst hl (pc + 2) ls k .null r w | _ => none)
  | .iinc k n => (match zld ls k with | some (.int x) => if k < ls.length then znx (pc + 3) (ls.set k (some (.int (x + Int32.ofInt n)))) st w else none | _ => none)
  | .iconst n => znx (pc + 1) ls (.int (Int32.ofInt n) :: st) w
  | .bipush n => znx (pc + 2) ls (.int (Int8.ofInt n).toInt32 :: st) w
  | .sipush n => znx (pc + 3) ls (.int (Int16.ofInt n).toInt32 :: st) w
  | .aconst_null => znx (pc + 1) ls (.null :: st) w
  | .ldc k => (match zKT.lookup (oc, k) with | some (v, _) => znx (pc + 2) ls (.int v :: st) w | none => none)
  | .ldc_w k => (match zKT.lookup (oc, k) with | some (v, _) => znx (pc + 3) ls (.int v :: st) w | none => none)
  | .ldc2_w k => (match zLT.lookup (oc, k) with | some (v, _) => znx (pc + 3) ls (.long v :: st) w | none => none)
  | .iadd => zb2 ls pc (fun x y => x + y) st w
  | .isub => zb2 ls pc (fun x y => x - y) st w
  | .imul => zb2 ls pc (fun x y => x * y) st w
  | .iand => zb2 ls pc (fun x y => x &&& y) st w
  | .ior => zb2 ls pc (fun x y => x ||| y) st w
  | .ixor => zb2 ls pc (fun x y => x ^^^ y) st w
  | .ishl => zb2 ls pc (fun x y => x <<< (y &&& 31)) st w
  | .ishr => zb2 ls pc (fun x y => x >>> (y &&& 31)) st w
  | .iushr => zb2 ls pc (fun x y => (x.toUInt32 >>> (y.toUInt32 &&& Int32.toUInt32 31)).toInt32) st w
  | .idiv => (match st with | .int y :: .int x :: r => if ¬ y = 0 then znx (pc + 1) ls (.int (x / y) :: r) w else none | _ => none)
  | .irem => (match st with | .int y :: .int x :: r => if ¬ y = 0 then znx (pc + 1) ls (.int (x - x / y * y) :: r) w else none | _ => none)
  | .ineg => (match st with | .int x :: r => znx (pc + 1) ls (.int (-x) :: r) w | _ => none)
  | .i2l => (match st with | .int x :: r => znx (pc + 1) ls (.long x.toInt64 :: r) w | _ => none)
  | .i2b => (match st with | .int x :: r => znx (pc + 1) ls (.int x.toInt8.toInt32 :: r) w | _ => none)
  | .i2c => (match st with | .int x :: r => znx (pc + 1) ls (.int (x.toUInt32 % 65536).toInt32 :: r) w | _ => none)
  | .ladd => (match st with | .long y :: .long x :: r => znx (pc + 1) ls (.long (x + y) :: r) w | _ => none)
  | .lmul => (match st with | .long y :: .long x :: r => znx (pc + 1) ls (.long (x * y) :: r) w | _ => none)
  | .lcmp => (match st with | .long y :: .long x :: r => znx (pc + 1) ls (.int (lg_cmp x y) :: r) w | _ => none)
  | .dup => (match st with | v :: r => if v.category = 1 then znx (pc + 1) ls (v :: v :: r) w else none | _ => none)
  | .dup2 => (match st with | v :: u :: r => if v.category = 1 ∧ u.category = 1 then znx (pc + 1) ls (v :: u :: v :: u :: r) w else none | _ => none)
  | .pop => (match st with | v :: r => if v.category = 1 then znx (pc + 1) ls r w else none | _ => none)
  | .goto off => if 0 ≤ (pc : Int) + off then znx (ztgt pc off) ls st w else none
  | .ifCond c off => (match st with | .int x :: r => zbr (zcmp c x 0) pc off ls r w | _ => none)
  | .if_icmp c off => (match st with | .int y :: .int x :: r => zbr (zcmp c x y) pc off ls r w | _ => none)
  | .ifnull off => (match st with | .null :: r => zbr true pc off ls r w | .ref _ :: r => zbr false pc off ls r w | _ => none)
  | .ifnonnull off => (match st with | .ref _ :: r => zbr true pc off ls r w | .null :: r => zbr false pc off ls r w | _ => none)
  | .tableswitch d lo hi offs => (match st with
    | .int x :: r => if x.toInt < lo ∨ hi < x.toInt then (if 0 ≤ (pc : Int) + d then znx (ztgt pc d) ls r w else none)
      else (match offs[(x.toInt - lo).toNat]? with | some off => if 0 ≤ (pc : Int) + off then znx (ztgt pc off) ls r w else none | none => none)
    | _ => none)
  | .lookupswitch d ps => (match st with
    | .int x :: r => if (ps.toList.zip (ps.toList.drop 1)).all (fun (a, next) => a.1 < next.1) = true ∧ 0 ≤ (pc : Int) + Op.lookupswitch.offset ps.toList d x.toInt then znx (ztgt pc (Op.lookupswitch.offset ps.toList d x.toInt)) ls r w else none
    | _ => none)
  | .getstatic k => (match zST.lookup (oc, k) with | some (v, _) => znx (pc + 3) ls (v :: st) w | none => none)
  | .getfield k => (match zFT.lookup (oc, k), st with
    | some (ci, f, _), .ref a :: r => (match zobj w a ci with
      | some fs => (match fs[f]? with | some v => znx (pc + 3) ls (v :: r) w | none => none)
      | none => none)
    | _, _ => none)
  | .putfield k => (match zFT.lookup (oc, k), st with
    | some (ci, f, _), v :: .ref a :: r => (match zobj w a ci with
      | some fs => if ci < 7 ∧ zfits ci f v = true ∧ (zfinal ci f = false ∨ (q.1.name = "<init>" ∧ ci = q.2.2.2.2.2.2.2.2.2)) ∧ f < fs.length then znx (pc + 3) ls r (zset w a (.inr (ci, fs.set f v))) else none
      | none => none)
    | _, _ => none)
  | .iaload => (match st with
    | .int j :: .ref a :: r => (match zarI w a 0 8 with | some (n, f) => if zin j n = true then znx (pc + 1) ls (.int (f j.toNatClampNeg) :: r) w else none | none => none)
    | _ => none)
  | .baload => (match st with
    | .int j :: .ref a :: r => (match zarI w a 2 9 with | some (n, f) => if zin j n = true then znx (pc + 1) ls (.int (f j.toNatClampNeg) :: r) w else none | none => none)
    | _ => none)
  | .laload => (match st with
    | .int j :: .ref a :: r => (match zarL w a with | some (n, f) => if zin j n = true then znx (pc + 1) ls (.long (f j.toNatClampNeg) :: r) w else none | none => none)
    | _ => none)
  | .aaload => (match st with
    | .int j :: .ref a :: r => (match zarR w a 3 10 with | some (n, f) => if zin j n = true then znx (pc + 1) ls (va_rf (f j.toNatClampNeg) :: r) w else none | none => none)
    | _ => none)
  | .arraylength => (match st with
    | .ref a :: r => (match zlen w a with | some n => znx (pc + 1) ls (.int (Int32.ofNat n) :: r) w | none => none)
    | _ => none)
  | .iastore => (match st with
    | .int x :: .int j :: .ref a :: r => (match zarI w a 0 0 with | some (n, f) => if zin j n = true then znx (pc + 1) ls r (zset w a (.inl (0, n, .inl (upd f j.toNatClampNeg x)))) else none | none => none)
    | _ => none)
  | .bastore => (match st with
    | .int x :: .int j :: .ref a :: r => (match zarI w a 2 2 with | some (n, f) => if zin j n = true then znx (pc + 1) ls r (zset w a (.inl (2, n, .inl (upd f j.toNatClampNeg (vp_nar .byte x))))) else none | none => none)
    | _ => none)
  | .lastore => (match st with
    | .long x :: .int j :: .ref a :: r => (match zarL w a with | some (n, f) => if zin j n = true then znx (pc + 1) ls r (zset w a (.inl (1, n, .inr (.inl (vp_updL f j.toNatClampNeg x))))) else none | none => none)
    | _ => none)
  | .aastore => (match st with
    | .ref x :: .int j :: .ref a :: r => (match zarR w a 3 3, zobj w x 2 with | some (n, f), some _ => if zin j n = true then znx (pc + 1) ls r (zset w a (.inl (3, n, .inr (.inr (.inr (.inr (va_up f j.toNatClampNeg (some x)))))))) else none | _, _ => none)
    | .null :: .int j :: .ref a :: r => (match zarR w a 3 3 with | some (n, f) => if zin j n = true then znx (pc + 1) ls r (zset w a (.inl (3, n, .inr (.inr (.inr (.inr (va_up f j.toNatClampNeg none))))))) else none | _ => none)
    | _ => none)
  | .newarray ty => (match st, zaty ty with
    | .int n :: r, some (t, _, x) => if ¬ n < 0 ∧ n.toNatClampNeg ≤ 100000 ∧ w.1.2.2 = false then znx (pc + 2) ls (.ref (40 + w.1.1) :: r) (znew w n.toNatClampNeg (.inl (t, n.toNatClampNeg, x))) else none
    | _, _ => none)
  | .anewarray k => (match st, zAT.lookup (oc, k) with
    | .int n :: r, some _ => if ¬ n < 0 ∧ n.toNatClampNeg ≤ 100000 ∧ w.1.2.2 = false then znx (pc + 3) ls (.ref (40 + w.1.1) :: r) (znew w n.toNatClampNeg (.inl (3, n.toNatClampNeg, .inr (.inr (.inr (.inr fun _ => none)))))) else none
    | _, _ => none)
  | .new k => (match zXT.lookup (i, pc) with
    | some x => if zcats st ≤ 8 ∧ 6 ≤ zfr q ∧ 90 ≤ zlo q ∧ q.2.2.2.2.1 = [] then some (.inr (.inl (.inr x.1, zthw w))) else none
    | none => (match zNT.lookup (oc, k) with
      | some (ci, _) => if w.1.2.2 = false then znx (pc + 3) ls (.ref (40 + w.1.1) :: st) (znew w (zdef ci).length (.inr (ci, zdef ci))) else none
      | none => none))
  | .invokevirtual k => (match zCT.lookup (oc, k) with | some (0, j, n, _) => zcallV q w j n st | some (3, _, _, _) => zord q pc ls st w | _ => none)
  | .invokespecial k => (match zCT.lookup (oc, k) with | some (2, j, n, _) => zcallI q j n st | some (10, _, _, _) => zobjI q pc ls st w | _ => none)
  | .invokestatic k => (match zCT.lookup (oc, k) with | some (1, j, n, _) => zcallS q j n st | some (4, j, n, _) => zcallS q j n st | some (11, _, _, _) => zcopy q pc ls st w | some (12, _, _, _) => zchk q pc ls st w | some (13, _, _, _) => zmax q pc ls st w | some (14, _, _, _) => zabs q pc ls st w | _ => none)
  | .ireturn => (match st with | [.int v] => zend q v w | _ => none)
  | .lreturn => (match st with | [.long v] => if q.2.2.2.1 = some .long then zfin (some (.long v)) w else none | _ => none)
  | .areturn => (match st, q.2.2.2.1 with
    | [.ref a], some (.object _) => zfin (some (.ref a)) w
    | [.null], some (.object _) => zfin (some .null) w
    | _, _ => none)
  | .return_ => (match st with | [] => if q.2.2.2.1 = none then zfin none w else none | _ => none)
  | _ => none
/-- an instruction's length -/
def zlenI (I : Instr) (n : Nat) : Bool := match I with
  | .aload _ | .iload _ | .istore _ | .astore _ | .bipush _ | .ldc _ | .newarray _ => n == 2
  | .sipush _ | .ldc_w _ | .ldc2_w _ | .goto _ | .ifCond _ _ | .if_icmp _ _ | .ifnull _ | .ifnonnull _ | .getstatic _ | .getfield _ | .putfield _ | .new _ | .anewarray _ | .invokevirtual _ | .invokespecial _ | .invokestatic _ | .iinc _ _ => n == 3
  | .tableswitch _ _ _ _ | .lookupswitch _ _ => true
  | _ => n == 1
def zins (q : zM) (pc : Nat) : Option (Instr × Nat) := match decode q.2.1 pc with
  | .ok r => if zlenI r.1 r.2 = true then some r else none
  | .error _ => none
def zEX : List String := ["java/lang/IllegalArgumentException", "java/lang/IndexOutOfBoundsException", "java/lang/IllegalStateException"]
/-- the handler of an exception E thrown by a call at pc: the place behind its first instruction, which stores the exception, and the local that it is stored in -/
def zhnd (q : zM) (pc : Nat) (E : String) : List (Nat × Nat × Nat × Nat) → Option (Nat × Nat)
  | [] => none
  | (a, b, h, t) :: r => if a ≤ pc ∧ pc < b then
      (match zHT.lookup (q.2.2.2.2.2.1, t) with
        | some (nm, _) => if nm = E then
            (match zins q h with
              | some (.astore_n k, 1) => some (h + 1, k)
              | some (.astore k, 2) => some (h + 2, k)
              | _ => none)
          else if E ∈ zEX ∧ nm ∈ zEX then zhnd q pc E r else none
        | none => none)
    else zhnd q pc E r
def zrun : Nat → Nat → Nat → zL → List Value → zW → Option zR
  | 0, _, _, _, _, _ => none
  | n + 1, i, pc, ls, st, w =>
    match zq i with
    | none => none
    | some q => match zins q pc with
      | none => none
      | some (I, len) => match zstep q i pc I len ls st w with
        | none => none
        | some (.inl (pc', ls', st', w')) => zrun n i pc' ls' st' w'
        | some (.inr (.inl r)) => some r
        | some (.inr (.inr (j, av, rest))) => match zq j with
          | none => none
          | some qj => match zent qj av with
            | none => none
            | some lj => match zrun n j 0 lj [] w with
              | none => none
              | some (.inl v, w') => zrun n i (pc + 3) ls (v.toList ++ rest) w'
              | some (.inr E, w') => match q.2.2.2.2.1 with
                | [] => some (.inr E, w')
                | hh => match zhnd q pc E hh with
                  | some (pc', k) => if k < ls.length ∧ zpre q.2.2.2.2.2.2.2.2.1 ls k = true then zrun n i pc' (ls.set k none) [] w' else none
                  | none => none
