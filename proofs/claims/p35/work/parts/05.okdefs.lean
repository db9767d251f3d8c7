/-! THE SMALL MACHINE IS THE REAL ONE: instruction by instruction -/
def m_TW : List Cond := lw_tbl.filter goodWord
theorem m_TW_in {i : Nat} {w : Cond} (h : lw_tbl[i]? = some w) (hg : goodWord w = true) : w ∈ m_TW := List.mem_filter.mpr ⟨List.mem_of_getElem? h, hg⟩
def m_w (i : Int) (w : Cond) : Bool := decide (mk_nth mk_ix i.toNat = some w) && goodWord w
theorem m_w_in {i : Int} {w : Cond} (h : m_w i w = true) : w ∈ m_TW := by
  simp only [m_w, Bool.and_eq_true, decide_eq_true_eq] at h
  exact m_TW_in (mk_nth_ok h.1) h.2
def m_nw (i : Int) (w : Cond) : Bool := decide (m_nest[i.toNat]? = some w)
theorem m_nw_in {i : Int} {w : Cond} (h : m_nw i w = true) : w ∈ m_nest := List.mem_of_getElem? (of_decide_eq_true h)
def m_isRefTy : FieldType → Bool
  | .object _ => true
  | .array _ => true
  | _ => false
def m_jmp (pc : Nat) (off : Int) : Bool := decide (0 ≤ (pc : Int) + off)
/-- what must be so of an instruction, beside its bytes: its words stand in the tables -/
def m_okI (own nm : String) (tab : List mM) (pc : Nat) (ins : Instr) (aux : List Int) : Bool := match ins, aux with
  | .ldc i, [0, v, pl] => m_w pl (.constant own i (Int32.ofInt v))
  | .ldc i, [1, k, _] => match m_str[k.toNat]? with
    | some (o, j, _) => decide (o = own) && decide (j = i)
    | none => false
  | .ldc_w i, [0, v, pl] => m_w pl (.constant own i (Int32.ofInt v))
  | .ldc2_w i, [v, pl] => m_w pl (.constantLong own i (Int64.ofInt v))
  | .getfield i, [c, k, pl, _, _] => match m_cl[c.toNat]? with
    | some (_, T, n) => decide (k.toNat < n) && m_w pl (.fieldLink own i (T k.toNat).1 (T k.toNat).2.1 (T k.toNat).2.2.1)
    | none => false
  | .getfield i, [-1, k, pl] => if k = 0 then m_w pl (.fieldLink own i "java/lang/String" "value" "[B") else m_w pl (.fieldLink own i "java/lang/String" "coder" "B")
  | .putfield i, [c, k, pl, kd, fin] => match m_cl[c.toNat]? with
    | some (_, T, n) => decide (k.toNat < n) && m_w pl (.fieldLink own i (T k.toNat).1 (T k.toNat).2.1 (T k.toNat).2.2.1) && (if fin = 1 then decide ((T k.toNat).2.2.2 = true) && decide (nm = "<init>") && decide ((T k.toNat).1 = own) else decide ((T k.toNat).2.2.2 = false)) && (if kd = 0 then decide (m_ty c.toNat k.toNat = .int) else if kd = 1 then decide (m_ty c.toNat k.toNat = .long) else if kd = 3 then decide (m_ty c.toNat k.toNat = .boolean) else m_isRefTy (m_ty c.toNat k.toNat))
    | none => false
  | .getstatic i, [0, pl] => m_nw pl (.fieldLinkNest own i "IsHeIn" "UNTOLD" "[I" "IsHeIn")
  | .getstatic i, [1, pl] => m_w pl (.fieldLink own i "java/lang/String" "COMPACT_STRINGS" "Z")
  | .getstatic i, [2, pl] => m_w pl (.fieldLink own i "jdk/internal/util/Preconditions" "SIOOBE_FORMATTER" "Ljava/util/function/BiFunction;")
  | .new i, [c, p1, p2, p3] => match m_cl[c.toNat]? with
    | some (C, _, n) => m_w p1 (.classLink own i C) && m_w p2 (.instantiable C n) && m_w p3 (.initialized C)
    | none => false
  | .newarray t, [pl] => m_w pl (.arrayClass (newarray.typeOf t))
  | .newarray _, _ => false
  | .anewarray i, [pl] => m_w pl (.classLink own i "IsHeIn$Moment")
  | .anewarray _, _ => false
  | .invokestatic i, [y, n, pl, nest] => match tab[y.toNat]? with
    | some e => (if nest = 0 then m_w pl (.methodLink own i e.2.1) else m_nw pl (.methodLinkNest own i e.2.1 "IsHeIn")) && decide ((parseMethodDescriptor e.2.1.desc).map (fun d => d.parameters.length) = some n.toNat)
    | none => true
  | .invokevirtual i, [y, n, pl, nest] => match tab[y.toNat]? with
    | some e => decide (nest = 0) && m_w pl (.methodLink own i e.2.1) && decide ((parseMethodDescriptor e.2.1.desc).map (fun d => d.parameters.length) = some n.toNat)
    | none => true
  | .invokespecial i, [y, n, pl, nest] => if y < 0 then m_w pl (.methodLink own i Lib.objectInit) else match tab[y.toNat]? with
    | some e => (if nest = 0 then m_w pl (.methodLink own i e.2.1) else m_nw pl (.methodLinkNest own i e.2.1 "IsHeIn")) && decide ((parseMethodDescriptor e.2.1.desc).map (fun d => d.parameters.length) = some n.toNat)
    | none => true
  | .invokestatic i, [_, 0, pl] => m_w pl (.methodLink own i Lib.Math.abs.name)
  | .invokestatic i, [_, 1, pl] => m_w pl (.methodLink own i Lib.Math.max.name)
  | .invokestatic i, [_, 2, pl] => m_w pl (.methodLink own i ⟨"java/lang/Math", "max", "(JJ)J"⟩)
  | .invokestatic i, [_, 3, pl] => m_w pl (.methodLink own i Lib.Math.min.name)
  | .goto off, _ => m_jmp pc off
  | .ifCond _ off, _ => m_jmp pc off
  | .if_icmp _ off, _ => m_jmp pc off
  | .ifnull off, _ => m_jmp pc off
  | .ifnonnull off, _ => m_jmp pc off
  | .tableswitch d _ _ offs, _ => m_jmp pc d && offs.toList.all (fun o => m_jmp pc o)
  | _, _ => true
theorem m_jmp_ok {pc : Nat} {off : Int} (h : m_jmp pc off = true) : (pc : Int) + off = (m_to pc off : Int) := by
  have h1 : 0 ≤ (pc : Int) + off := of_decide_eq_true h
  unfold m_to
  omega
/-- a method's row in the table is so: its words stand there -/
def m_okH (y : mM) : Prop := plainName y.2.1.cls = true ∧ (y.2.1.cls ≠ "java/lang/invoke/MethodHandle" ∧ y.2.1.cls ≠ "java/lang/invoke/VarHandle") ∧ y.2.2.2.1 ≤ 60 ∧ Cond.code y.2.1 y.2.2.1 y.2.2.2.1 y.2.2.2.2.1 ∈ m_TW ∧ Cond.initialized y.2.1.cls ∈ m_TW ∧ (y.1 = 0 → Cond.static y.2.1 ∈ m_TW) ∧ (y.1 ≠ 0 → Cond.instanceMethod y.2.1 ∈ m_TW) ∧ (y.1 = 1 → Cond.selects y.2.1.cls y.2.1 y.2.1 ∈ m_TW) ∧ (y.1 = 2 → y.2.1.name = "<init>" ∧ y.2.2.2.2.1 = none) ∧
  (y.1 ≠ 0 → (y.2.2.2.2.2.1 = 99 ∧ y.2.1.cls = "java/lang/String") ∨ ∃ q, m_cl[y.2.2.2.2.2.1]? = some q ∧ q.1 = y.2.1.cls ∧ y.2.2.2.2.2.1 ≠ 99)
/-- its instructions are what its bytes say, with their words -/
def m_okC (tab : List mM) (y : mM) : Prop := ∀ q ∈ y.2.2.2.2.2.2.2, decode y.2.2.1 q.1 = .ok (q.2.1, m_len q.2.1 q.2.2) ∧ m_okI y.2.1.cls y.2.1.name tab q.1 q.2.1 q.2.2 = true
def m_okT (tab : List mM) : Prop := ∀ y ∈ tab, m_okH y ∧ m_okC tab y
