/-! THE SMALL MACHINE: the bytecode run over a heap of numbered cells, as a function. A heap: shapes (arrays: kind, length, contents if of references; objects: class, fields, where '.int 0' and '.long 0' only say of which kind a field is), the ints and the longs by cell and place. -/
abbrev mS : Type := (Nat × Nat × List (Option Nat)) ⊕ (Nat × List Value)
abbrev mH : Type := List mS × (Nat → Nat → Int32) × (Nat → Nat → Int64)
abbrev mF : Type := Nat × List (Option Value) × List Value × mH
abbrev mI : Type := Nat × Instr × List Int
/-- a method: kind (0 static, 1 virtual, 2 constructor), name, bytes, locals, result, class of the receiver, places of its words, instructions -/
abbrev mM : Type := Nat × MethodName × ByteArray × Nat × Option FieldType × Nat × List Nat × List mI
def mu (D : Nat → Nat → Int32) (i k : Nat) (x : Int32) : Nat → Nat → Int32 := fun a => if a = i then (fun b => if b = k then x else D a b) else D a
def muL (D : Nat → Nat → Int64) (i k : Nat) (x : Int64) : Nat → Nat → Int64 := fun a => if a = i then (fun b => if b = k then x else D a b) else D a
def mz (D : Nat → Nat → Int32) (i : Nat) : Nat → Nat → Int32 := fun a => if a = i then (fun _ => 0) else D a
def mzL (D : Nat → Nat → Int64) (i : Nat) : Nat → Nat → Int64 := fun a => if a = i then (fun _ => 0) else D a
/-- the slots of all shapes together -/
def m_sl1 : mS → Nat
  | .inl (_, n, _) => n
  | .inr (_, fs) => fs.length
def m_sl : List mS → Nat
  | [] => 0
  | a :: r => m_sl1 a + m_sl r
/-- what was the static row of numbers -/
def m_unt : List Int32 := [100, 200, 300, 0, 500]
def m_len (ins : Instr) (aux : List Int) : Nat := match ins with
  | .bipush _ | .newarray _ | .ldc _ | .iload _ | .lload _ | .aload _ | .istore _ | .lstore _ | .astore _ => 2
  | .sipush _ | .ldc_w _ | .ldc2_w _ | .iinc _ _ | .goto _ | .ifCond _ _ | .if_icmp _ _ | .ifnull _ | .ifnonnull _ | .getfield _ | .putfield _ | .getstatic _ | .new _ | .anewarray _ | .invokevirtual _ | .invokespecial _ | .invokestatic _ => 3
  | .tableswitch _ _ _ _ => match aux with
    | [n] => n.toNat
    | _ => 0
  | _ => 1
/-- a value into local i: of one place .. -/
def m_s1 (ls : List (Option Value)) (i : Nat) (v : Value) : Option (List (Option Value)) :=
  if i < ls.length then
    match i with
    | 0 => some (ls.set 0 (some v))
    | k + 1 => match ls[k]? with
      | some (some (.long _)) => some ((ls.set (k + 1) (some v)).set k none)
      | some (some (.double _)) => none
      | _ => some (ls.set (k + 1) (some v))
  else none
/-- .. and of two -/
def m_s2 (ls : List (Option Value)) (i : Nat) (v : Value) : Option (List (Option Value)) :=
  if i + 1 < ls.length then
    match i with
    | 0 => some ((ls.set 0 (some v)).set 1 none)
    | k + 1 => match ls[k]? with
      | some (some (.long _)) => some (((ls.set (k + 1) (some v)).set (k + 2) none).set k none)
      | some (some (.double _)) => none
      | _ => some ((ls.set (k + 1) (some v)).set (k + 2) none)
  else none
def m_li (ls : List (Option Value)) (i : Nat) : Option Int32 := match ls[i]? with
  | some (some (.int x)) => some x
  | _ => none
def m_ll (ls : List (Option Value)) (i : Nat) : Option Int64 := match ls[i]? with
  | some (some (.long x)) => some x
  | _ => none
def m_la (ls : List (Option Value)) (i : Nat) : Option Value := match ls[i]? with
  | some (some (.ref j)) => some (.ref j)
  | some (some .null) => some .null
  | _ => none
/-- where a jump goes -/
def m_to (pc : Nat) (off : Int) : Nat := ((pc : Int) + off).toNat
def m_if (c : ClassFile.Cond) (x y : Int32) (a b : Nat) : Nat := match c with
  | .eq => if x = y then a else b
  | .ne => if x = y then b else a
  | .lt => if x < y then a else b
  | .ge => if y ≤ x then a else b
  | .gt => if y < x then a else b
  | .le => if x ≤ y then a else b
/-- consts and locals -/
def m_op1 (ins : Instr) (aux : List Int) (pc : Nat) (ls : List (Option Value)) (st : List Value) (h : mH) : Option mF := match ins with
  | .iconst n => some (pc + 1, ls, .int (Int32.ofInt n) :: st, h)
  | .bipush n => some (pc + 2, ls, .int (Int8.ofInt n).toInt32 :: st, h)
  | .sipush n => some (pc + 3, ls, .int (Int16.ofInt n).toInt32 :: st, h)
  | .lconst n => some (pc + 1, ls, .long (Int64.ofNat (n : Nat)) :: st, h)
  | .aconst_null => some (pc + 1, ls, .null :: st, h)
  | .ldc _ => match aux with
    | [0, v, _] => some (pc + 2, ls, .int (Int32.ofInt v) :: st, h)
    | [1, k, _] => if k.toNat < 27 then some (pc + 2, ls, .ref (1000100 + k.toNat) :: st, h) else none
    | _ => none
  | .ldc_w _ => match aux with
    | [0, v, _] => some (pc + 3, ls, .int (Int32.ofInt v) :: st, h)
    | _ => none
  | .ldc2_w _ => match aux with
    | [v, _] => some (pc + 3, ls, .long (Int64.ofInt v) :: st, h)
    | _ => none
  | .iload_n k => match m_li ls k with
    | some x => some (pc + 1, ls, .int x :: st, h)
    | none => none
  | .iload k => match m_li ls k with
    | some x => some (pc + 2, ls, .int x :: st, h)
    | none => none
  | .lload_n k => match m_ll ls k with
    | some x => some (pc + 1, ls, .long x :: st, h)
    | none => none
  | .lload k => match m_ll ls k with
    | some x => some (pc + 2, ls, .long x :: st, h)
    | none => none
  | .aload_n k => match m_la ls k with
    | some x => some (pc + 1, ls, x :: st, h)
    | none => none
  | .aload k => match m_la ls k with
    | some x => some (pc + 2, ls, x :: st, h)
    | none => none
  | .istore_n k => match st with
    | .int x :: r => match m_s1 ls k (.int x) with
      | some l => some (pc + 1, l, r, h)
      | none => none
    | _ => none
  | .istore k => match st with
    | .int x :: r => match m_s1 ls k (.int x) with
      | some l => some (pc + 2, l, r, h)
      | none => none
    | _ => none
  | .lstore_n k => match st with
    | .long x :: r => match m_s2 ls k (.long x) with
      | some l => some (pc + 1, l, r, h)
      | none => none
    | _ => none
  | .lstore k => match st with
    | .long x :: r => match m_s2 ls k (.long x) with
      | some l => some (pc + 2, l, r, h)
      | none => none
    | _ => none
  | .astore_n k => match st with
    | .ref x :: r => match m_s1 ls k (.ref x) with
      | some l => some (pc + 1, l, r, h)
      | none => none
    | .null :: r => match m_s1 ls k .null with
      | some l => some (pc + 1, l, r, h)
      | none => none
    | _ => none
  | .astore k => match st with
    | .ref x :: r => match m_s1 ls k (.ref x) with
      | some l => some (pc + 2, l, r, h)
      | none => none
    | .null :: r => match m_s1 ls k .null with
      | some l => some (pc + 2, l, r, h)
      | none => none
    | _ => none
  | .iinc k n => match m_li ls k with
    | some x => match m_s1 ls k (.int (x + Int32.ofInt n)) with
      | some l => some (pc + 3, l, st, h)
      | none => none
    | none => none
  | _ => none
/-- numbers, the stack, jumps -/
def m_op2 (ins : Instr) (pc : Nat) (ls : List (Option Value)) (st : List Value) (h : mH) : Option mF := match ins, st with
  | .iadd, .int y :: .int x :: r => some (pc + 1, ls, .int (x + y) :: r, h)
  | .isub, .int y :: .int x :: r => some (pc + 1, ls, .int (x - y) :: r, h)
  | .imul, .int y :: .int x :: r => some (pc + 1, ls, .int (x * y) :: r, h)
  | .iand, .int y :: .int x :: r => some (pc + 1, ls, .int (x &&& y) :: r, h)
  | .ior, .int y :: .int x :: r => some (pc + 1, ls, .int (x ||| y) :: r, h)
  | .idiv, .int y :: .int x :: r => if y = 0 then none else some (pc + 1, ls, .int (x / y) :: r, h)
  | .irem, .int y :: .int x :: r => if y = 0 then none else some (pc + 1, ls, .int (x - x / y * y) :: r, h)
  | .ineg, .int x :: r => some (pc + 1, ls, .int (0 - x) :: r, h)
  | .ishl, .int y :: .int x :: r => some (pc + 1, ls, .int (x <<< (y &&& 31)) :: r, h)
  | .ishr, .int y :: .int x :: r => some (pc + 1, ls, .int (x >>> (y &&& 31)) :: r, h)
  | .iushr, .int y :: .int x :: r => some (pc + 1, ls, .int (x.toUInt32 >>> (y.toUInt32 &&& Int32.toUInt32 31)).toInt32 :: r, h)
  | .ladd, .long y :: .long x :: r => some (pc + 1, ls, .long (x + y) :: r, h)
  | .lsub, .long y :: .long x :: r => some (pc + 1, ls, .long (x - y) :: r, h)
  | .lmul, .long y :: .long x :: r => some (pc + 1, ls, .long (x * y) :: r, h)
  | .ldiv, .long y :: .long x :: r => if y = 0 then none else some (pc + 1, ls, .long (x / y) :: r, h)
  | .lcmp, .long y :: .long x :: r => some (pc + 1, ls, .int (lg_cmp x y) :: r, h)
  | .i2l, .int x :: r => some (pc + 1, ls, .long x.toInt64 :: r, h)
  | .l2i, .long x :: r => some (pc + 1, ls, .int x.toInt32 :: r, h)
  | .i2c, .int x :: r => some (pc + 1, ls, .int (x.toUInt32 % 65536).toInt32 :: r, h)
  | .dup, .int x :: r => some (pc + 1, ls, .int x :: .int x :: r, h)
  | .dup, .ref x :: r => some (pc + 1, ls, .ref x :: .ref x :: r, h)
  | .dup2, .int x :: .ref y :: r => some (pc + 1, ls, .int x :: .ref y :: .int x :: .ref y :: r, h)
  | .pop, .int _ :: r => some (pc + 1, ls, r, h)
  | .goto off, st => some (m_to pc off, ls, st, h)
  | .ifCond c off, .int x :: r => some (m_if c x 0 (m_to pc off) (pc + 3), ls, r, h)
  | .if_icmp c off, .int y :: .int x :: r => some (m_if c x y (m_to pc off) (pc + 3), ls, r, h)
  | .ifnull off, .null :: r => some (m_to pc off, ls, r, h)
  | .ifnull _, .ref _ :: r => some (pc + 3, ls, r, h)
  | .ifnonnull _, .null :: r => some (pc + 3, ls, r, h)
  | .ifnonnull off, .ref _ :: r => some (m_to pc off, ls, r, h)
  | .tableswitch d lo hi offs, .int x :: r => if x.toInt < lo ∨ hi < x.toInt then some (m_to pc d, ls, r, h) else match offs.toList[(x.toInt - lo).toNat]? with
    | some o => some (m_to pc o, ls, r, h)
    | none => none
  | _, _ => none
def m_gf (h : mH) (i c k : Nat) : Option Value := match h.1[i]? with
  | some (.inr (c', fs)) => if c' = c then match fs[k]? with
      | some (.int _) => some (.int (h.2.1 i k))
      | some (.long _) => some (.long (h.2.2 i k))
      | some (.ref j) => some (.ref j)
      | some .null => some .null
      | _ => none
    else none
  | _ => none
def m_pf (h : mH) (i c k : Nat) (kd : Int) (v : Value) : Option mH := match h.1[i]? with
  | some (.inr (c', fs)) => if c' = c then match fs[k]?, v with
      | some (.int _), .int x => if kd = 0 then some (h.1, mu h.2.1 i k x, h.2.2) else if kd = 3 then (if x = 0 ∨ x = 1 then some (h.1, mu h.2.1 i k x, h.2.2) else none) else none
      | some (.long _), .long x => if kd = 1 then some (h.1, h.2.1, muL h.2.2 i k x) else none
      | some .null, .ref j => if kd = 2 then some (h.1.set i (.inr (c', fs.set k (.ref j))), h.2.1, h.2.2) else none
      | _, _ => none
    else none
  | _ => none
/-- the length of an array by its number -/
def m_al (N : Nat) (h : mH) (j : Nat) : Option Nat := match h.1[j]? with
  | some (.inl (k, n, _)) => if k < 3 then some n else none
  | some (.inr _) => none
  | none => if j = 1000000 then some N else if j = 1000001 then some 5 else if 1000200 ≤ j ∧ j < 1000227 then some (m_sb.getD (j - 1000200) []).length else none
/-- an int out of an array -/
def m_ia (N : Nat) (xs : Nat → Int32) (h : mH) (j : Nat) (i : Int32) : Option Int32 := match h.1[j]? with
  | some (.inl (0, n, _)) => if i < 0 ∨ n ≤ i.toNatClampNeg then none else some (h.2.1 j i.toNatClampNeg)
  | some _ => none
  | none => if j = 1000000 then (if i < 0 ∨ N ≤ i.toNatClampNeg then none else some (xs i.toNatClampNeg)) else if j = 1000001 then (if i < 0 ∨ 5 ≤ i.toNatClampNeg then none else some (m_unt.getD i.toNatClampNeg 0)) else none
/-- Math's own: abs, max, max of longs, min -/
def m_math (aux : List Int) (pc : Nat) (ls : List (Option Value)) (st : List Value) (h : mH) : Option mF := match aux, st with
  | [_, 0, _], .int x :: r => if (r.map fun v => v.category).sum ≤ 7 then some (pc + 3, ls, .int (if 0 ≤ x then x else 0 - x) :: r, h) else none
  | [_, 1, _], .int y :: .int x :: r => if (r.map fun v => v.category).sum ≤ 7 then some (pc + 3, ls, .int (if x < y then y else x) :: r, h) else none
  | [_, 2, _], .long y :: .long x :: r => if (r.map fun v => v.category).sum ≤ 7 then some (pc + 3, ls, .long (if y < x then x else y) :: r, h) else none
  | [_, 3, _], .int y :: .int x :: r => if (r.map fun v => v.category).sum ≤ 7 then some (pc + 3, ls, .int (if y < x then y else x) :: r, h) else none
  | _, _ => none
/-- fields, arrays, what is made -/
def m_op3 (N : Nat) (xs : Nat → Int32) (ins : Instr) (aux : List Int) (pc : Nat) (ls : List (Option Value)) (st : List Value) (h : mH) : Option mF := match ins, st with
  | .getfield _, .ref i :: r => match aux with
    | [c, k, _, _, _] => match m_gf h i c.toNat k.toNat with
      | some v => some (pc + 3, ls, v :: r, h)
      | none => none
    | [-1, k, _] => if 1000100 ≤ i ∧ i < 1000127 then (if k = 0 then some (pc + 3, ls, .ref (i + 100) :: r, h) else some (pc + 3, ls, .int 0 :: r, h)) else none
    | _ => none
  | .putfield _, v :: .ref i :: r => match aux with
    | [c, k, _, kd, _] => match m_pf h i c.toNat k.toNat kd v with
      | some h' => some (pc + 3, ls, r, h')
      | none => none
    | _ => none
  | .getstatic _, st => match aux with
    | [0, _] => some (pc + 3, ls, .ref 1000001 :: st, h)
    | [1, _] => some (pc + 3, ls, .int 1 :: st, h)
    | [2, _] => some (pc + 3, ls, .retAddr 0 :: st, h)
    | _ => none
  | .arraylength, .ref j :: r => match m_al N h j with
    | some n => some (pc + 1, ls, .int (Int32.ofNat n) :: r, h)
    | none => none
  | .iaload, .int i :: .ref j :: r => match m_ia N xs h j i with
    | some x => some (pc + 1, ls, .int x :: r, h)
    | none => none
  | .laload, .int i :: .ref j :: r => match h.1[j]? with
    | some (.inl (1, n, _)) => if i < 0 ∨ n ≤ i.toNatClampNeg then none else some (pc + 1, ls, .long (h.2.2 j i.toNatClampNeg) :: r, h)
    | _ => none
  | .aaload, .int i :: .ref j :: r => match h.1[j]? with
    | some (.inl (2, n, q)) => if i < 0 ∨ n ≤ i.toNatClampNeg then none else some (pc + 1, ls, (match q.getD i.toNatClampNeg none with | some a => .ref a | none => .null) :: r, h)
    | _ => none
  | .baload, .int i :: .ref j :: r => if 1000200 ≤ j ∧ j < 1000227 then (if i < 0 ∨ (m_sb.getD (j - 1000200) []).length ≤ i.toNatClampNeg then none else some (pc + 1, ls, .int ((m_sb.getD (j - 1000200) []).getD i.toNatClampNeg 0) :: r, h)) else none
  | .iastore, .int x :: .int i :: .ref j :: r => match h.1[j]? with
    | some (.inl (0, n, _)) => if i < 0 ∨ n ≤ i.toNatClampNeg then none else some (pc + 1, ls, r, (h.1, mu h.2.1 j i.toNatClampNeg x, h.2.2))
    | _ => none
  | .lastore, .long x :: .int i :: .ref j :: r => match h.1[j]? with
    | some (.inl (1, n, _)) => if i < 0 ∨ n ≤ i.toNatClampNeg then none else some (pc + 1, ls, r, (h.1, h.2.1, muL h.2.2 j i.toNatClampNeg x))
    | _ => none
  | .aastore, .ref a :: .int i :: .ref j :: r => match h.1[j]?, h.1[a]? with
    | some (.inl (2, n, q)), some (.inr (4, _)) => if i < 0 ∨ n ≤ i.toNatClampNeg then none else if i.toNatClampNeg < q.length then some (pc + 1, ls, r, (h.1.set j (.inl (2, n, q.set i.toNatClampNeg (some a))), h.2.1, h.2.2)) else none
    | _, _ => none
  | .new _, st => match aux with
    | [c, _, _, _] => if h.1.length < 1000000 then some (pc + 3, ls, .ref h.1.length :: st, (h.1 ++ [.inr (c.toNat, m_df c.toNat)], mz h.2.1 h.1.length, mzL h.2.2 h.1.length)) else none
    | _ => none
  | .newarray t, .int n :: r => if n < 0 ∨ 1000000 ≤ n.toNatClampNeg then none else if h.1.length < 1000000 then (match t with
    | .int => some (pc + 2, ls, .ref h.1.length :: r, (h.1 ++ [.inl (0, n.toNatClampNeg, [])], mz h.2.1 h.1.length, mzL h.2.2 h.1.length))
    | .long => some (pc + 2, ls, .ref h.1.length :: r, (h.1 ++ [.inl (1, n.toNatClampNeg, [])], mz h.2.1 h.1.length, mzL h.2.2 h.1.length))
    | _ => none) else none
  | .anewarray _, .int n :: r => if n < 0 ∨ 1000000 ≤ n.toNatClampNeg then none else if h.1.length < 1000000 then some (pc + 3, ls, .ref h.1.length :: r, (h.1 ++ [.inl (2, n.toNatClampNeg, List.replicate n.toNatClampNeg none)], mz h.2.1 h.1.length, mzL h.2.2 h.1.length)) else none
  | .invokespecial _, .ref _ :: r => match aux with
    | [-1, 0, _, _] => if (r.map fun v => v.category).sum ≤ 8 then some (pc + 3, ls, r, h) else none
    | _ => none
  | .invokestatic _, st => m_math aux pc ls st h
  | _, _ => none
def m_op (N : Nat) (xs : Nat → Int32) (ins : Instr) (aux : List Int) (pc : Nat) (ls : List (Option Value)) (st : List Value) (h : mH) : Option mF :=
  match m_op1 ins aux pc ls st h with
  | some f => some f
  | none => match m_op2 ins pc ls st h with
    | some f => some f
    | none => m_op3 N xs ins aux pc ls st h
/-- the instruction at pc -/
def m_at : List mI → Nat → Option (Instr × List Int)
  | [], _ => none
  | (q, i, a) :: r, pc => if q = pc then some (i, a) else m_at r pc
def m_isRet : Instr → Bool
  | .ireturn | .lreturn | .areturn | .return_ => true
  | _ => false
/-- the answer, where the method returns -/
def m_ret (ret : Option FieldType) (ins : Instr) (st : List Value) : Option (Option Value) := match ins, st with
  | .return_, [] => match ret with
    | none => some none
    | _ => none
  | .ireturn, [.int v] => match ret with
    | some .int => some (some (.int v))
    | some .boolean => if v = 0 ∨ v = 1 then some (some (.int v)) else none
    | some .char => if v.toUInt32.toUInt16.toUInt32.toInt32 = v then some (some (.int v)) else none
    | some .byte => if v.toInt8.toInt32 = v then some (some (.int v)) else none
    | _ => none
  | .lreturn, [.long v] => match ret with
    | some .long => some (some (.long v))
    | _ => none
  | .areturn, [.ref j] => match ret with
    | some (.object _) => some (some (.ref j))
    | _ => none
  | .areturn, [.null] => match ret with
    | some (.object _) => some (some .null)
    | _ => none
  | _, _ => none
/-- is it a call of a method of the table: its place, how many values it takes from the stack -/
def m_call (tab : List mM) (ins : Instr) (aux : List Int) : Option (mM × Nat) := match ins, aux with
  | .invokestatic _, [y, n, _, _] => match tab[y.toNat]? with
    | some e => if e.1 = 0 then some (e, n.toNat) else none
    | none => none
  | .invokevirtual _, [y, n, _, _] => match tab[y.toNat]? with
    | some e => if e.1 = 1 then some (e, n.toNat + 1) else none
    | none => none
  | .invokespecial _, [y, n, _, _] => if y < 0 then none else match tab[y.toNat]? with
    | some e => if e.1 = 2 then some (e, n.toNat + 1) else none
    | none => none
  | _, _ => none
/-- the receiver is of the class that is meant -/
def m_recv (h : mH) (k rc : Nat) (as : List Value) : Bool :=
  if k = 0 then true else match as with
  | .ref j :: _ => if rc = 99 then decide (1000100 ≤ j ∧ j < 1000127) else (match h.1[j]? with
    | some (.inr (c, _)) => c == rc
    | _ => false)
  | _ => false
/-- the locals at a method's entry -/
def m_en : List Value → List (Option Value)
  | [] => []
  | .long x :: r => some (.long x) :: none :: m_en r
  | .double x :: r => some (.double x) :: none :: m_en r
  | v :: r => some v :: m_en r
def m_run (tab : List mM) (N : Nat) (xs : Nat → Int32) : Nat → Nat → mM → Nat → List (Option Value) → List Value → mH → Option (Option Value × mH)
  | 0, _, _, _, _, _, _ => none
  | n + 1, d, e, pc, ls, st, h => match m_at e.2.2.2.2.2.2.2 pc with
    | none => none
    | some (ins, aux) => match m_isRet ins with
      | true => match m_ret e.2.2.2.2.1 ins st with
        | some v => some (v, h)
        | none => none
      | false => match m_call tab ins aux with
        | some (y, k) => match d with
          | 0 => none
          | d' + 1 => if k ≤ st.length ∧ ((st.drop k).map fun v => v.category).sum ≤ 8 ∧ m_recv h y.1 y.2.2.2.2.2.1 (st.take k).reverse = true ∧ (m_en (st.take k).reverse).length ≤ y.2.2.2.1 then
              match m_run tab N xs n d' y 0 (m_en (st.take k).reverse ++ List.replicate (y.2.2.2.1 - (m_en (st.take k).reverse).length) none) [] h with
              | some (v, h') => m_run tab N xs n (d' + 1) e (pc + 3) ls (v.toList ++ st.drop k) h'
              | none => none
            else none
        | none => match m_op N xs ins aux pc ls st h with
          | some (pc', ls', st', h') => m_run tab N xs n d e pc' ls' st' h'
          | none => none
