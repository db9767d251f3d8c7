noncomputable section
/-! DECODING, THE SHORT WAY: an instruction is held against its bytes -/
def u_F : { F : Nat → Nat → Jvm.ClassFile.Decoder Instr // ∀ pc, Jvm.ClassFile.Decoder.instr pc = Jvm.ClassFile.Reader.u1 >>= F pc } := ⟨_, fun _ => rfl⟩
abbrev u_D (α : Type) : Type := Jvm.ClassFile.Decoder α
abbrev u_b1 : u_D Nat := Jvm.ClassFile.Reader.u1
abbrev u_b2 : u_D Nat := Jvm.ClassFile.Reader.u2
abbrev u_s1 : u_D Int := Jvm.ClassFile.Reader.s1
abbrev u_s2 : u_D Int := Jvm.ClassFile.Reader.s2
theorem u_bind {α β : Type} {m : u_D α} {f : α → u_D β} {code : ByteArray} {p q : Nat} {a : α} (h : m code p = .ok (a, q)) : (m >>= f) code p = f a code q := by
  show ReaderT.bind m f code p = _
  unfold ReaderT.bind
  show StateT.bind (m code) (fun a => f a code) p = _
  unfold StateT.bind
  show Except.bind (m code p) _ = _
  rw [h]
  rfl
theorem u_tail {α : Type} {l r : List α} {p : Nat} {b : α} (h : l.drop p = b :: r) : l.drop (p + 1) = r := by
  rw [← List.drop_drop, h]; rfl
theorem u_u1 {code : ByteArray} {p : Nat} {b : UInt8} {r : List UInt8} (h : code.data.toList.drop p = b :: r) : u_b1 code p = .ok (b.toNat, p + 1) := by
  have h2 : code.data.toList[p]? = some b := by
    rw [← List.head?_drop, h]; rfl
  obtain ⟨hp, hb⟩ := List.getElem?_eq_some_iff.mp h2
  have hp2 : p < code.size := by
    have h3 : code.data.toList.length = code.size := by rw [Array.length_toList]; rfl
    omega
  have hb2 : code[p] = b := hb
  unfold u_b1 Jvm.ClassFile.Reader.u1
  show (dite (p < code.size) _ _ : u_D Nat) code p = _
  rw [dif_pos hp2]
  show Except.ok ((code[p]).toNat, p + 1) = _
  rw [hb2]
theorem u_u2 {code : ByteArray} {p : Nat} {b c : UInt8} {r : List UInt8} (h : code.data.toList.drop p = b :: c :: r) : u_b2 code p = .ok (b.toNat * 256 + c.toNat, p + 1 + 1) := by
  unfold u_b2 Jvm.ClassFile.Reader.u2
  rw [u_bind (u_u1 h), u_bind (u_u1 (u_tail h))]
  rfl
theorem u_map {α β : Type} {m : u_D α} {g : α → β} {code : ByteArray} {p q : Nat} {a : α} (h : m code p = .ok (a, q)) : (g <$> m) code p = .ok (g a, q) := by
  show ((m >>= fun x => Pure.pure (g x)) : u_D β) code p = _
  rw [u_bind h]
  rfl
theorem u_is1 {code : ByteArray} {p : Nat} {b : UInt8} {r : List UInt8} (h : code.data.toList.drop p = b :: r) : u_s1 code p = .ok (Jvm.ClassFile.Reader.signed 8 b.toNat, p + 1) := u_map (u_u1 h)
theorem u_is2 {code : ByteArray} {p : Nat} {b c : UInt8} {r : List UInt8} (h : code.data.toList.drop p = b :: c :: r) : u_s2 code p = .ok (Jvm.ClassFile.Reader.signed 16 (b.toNat * 256 + c.toNat), p + 1 + 1) := u_map (u_u2 h)
theorem u_fin {code : ByteArray} {pc q : Nat} {ins : Instr} (h : Jvm.ClassFile.Decoder.instr pc code pc = .ok (ins, q)) : decode code pc = .ok (ins, q - pc) := by
  unfold decode
  show Except.bind (Jvm.ClassFile.Decoder.instr pc code pc) _ = _
  rw [h]
  rfl
theorem u_op {code : ByteArray} {pc : Nat} {b : UInt8} {r : List UInt8} (h : code.data.toList.drop pc = b :: r) : Jvm.ClassFile.Decoder.instr pc code pc = u_F.1 pc b.toNat code (pc + 1) := by
  rw [u_F.2 pc]
  exact u_bind (u_u1 h)
/-- the kind of an instruction: how its operands stand, its first byte, its operands -/
def u_kd : Instr → Nat × Nat × Int × Int
  | .aaload => (0, 50, 0, 0)
  | .aastore => (0, 83, 0, 0)
  | .aconst_null => (0, 1, 0, 0)
  | .areturn => (0, 176, 0, 0)
  | .arraylength => (0, 190, 0, 0)
  | .athrow => (0, 191, 0, 0)
  | .baload => (0, 51, 0, 0)
  | .dup => (0, 89, 0, 0)
  | .dup2 => (0, 92, 0, 0)
  | .i2c => (0, 146, 0, 0)
  | .i2l => (0, 133, 0, 0)
  | .iadd => (0, 96, 0, 0)
  | .iaload => (0, 46, 0, 0)
  | .iand => (0, 126, 0, 0)
  | .iastore => (0, 79, 0, 0)
  | .idiv => (0, 108, 0, 0)
  | .imul => (0, 104, 0, 0)
  | .ior => (0, 128, 0, 0)
  | .irem => (0, 112, 0, 0)
  | .ireturn => (0, 172, 0, 0)
  | .ishl => (0, 120, 0, 0)
  | .ishr => (0, 122, 0, 0)
  | .isub => (0, 100, 0, 0)
  | .iushr => (0, 124, 0, 0)
  | .l2i => (0, 136, 0, 0)
  | .ladd => (0, 97, 0, 0)
  | .laload => (0, 47, 0, 0)
  | .lastore => (0, 80, 0, 0)
  | .lcmp => (0, 148, 0, 0)
  | .ldiv => (0, 109, 0, 0)
  | .lmul => (0, 105, 0, 0)
  | .lreturn => (0, 173, 0, 0)
  | .lsub => (0, 101, 0, 0)
  | .pop => (0, 87, 0, 0)
  | .return_ => (0, 177, 0, 0)
  | .aload i => (1, 25, i, 0)
  | .iload i => (1, 21, i, 0)
  | .istore i => (1, 54, i, 0)
  | .ldc i => (1, 18, i, 0)
  | .lload i => (1, 22, i, 0)
  | .lstore i => (1, 55, i, 0)
  | .astore i => (1, 58, i, 0)
  | .anewarray i => (2, 189, i, 0)
  | .getfield i => (2, 180, i, 0)
  | .getstatic i => (2, 178, i, 0)
  | .invokespecial i => (2, 183, i, 0)
  | .invokestatic i => (2, 184, i, 0)
  | .invokevirtual i => (2, 182, i, 0)
  | .ldc_w i => (2, 19, i, 0)
  | .ldc2_w i => (2, 20, i, 0)
  | .new i => (2, 187, i, 0)
  | .putfield i => (2, 181, i, 0)
  | .bipush i => (3, 16, i, 0)
  | .sipush i => (4, 17, i, 0)
  | .goto i => (4, 167, i, 0)
  | .ifnull i => (4, 198, i, 0)
  | .ifnonnull i => (4, 199, i, 0)
  | .iinc i c => (5, 132, i, c)
  | .aload_n i => (0, 42 + i.val, 0, 0)
  | .astore_n i => (0, 75 + i.val, 0, 0)
  | .iload_n i => (0, 26 + i.val, 0, 0)
  | .istore_n i => (0, 59 + i.val, 0, 0)
  | .lload_n i => (0, 30 + i.val, 0, 0)
  | .lstore_n i => (0, 63 + i.val, 0, 0)
  | .lconst i => (0, 9 + i.val, 0, 0)
  | .iconst i => if -1 ≤ i ∧ i ≤ 5 then (0, (i + 3).toNat, 0, 0) else (9, 0, 0, 0)
  | .ifCond .eq i => (4, 153, i, 0)
  | .ifCond .ne i => (4, 154, i, 0)
  | .ifCond .lt i => (4, 155, i, 0)
  | .ifCond .ge i => (4, 156, i, 0)
  | .ifCond .gt i => (4, 157, i, 0)
  | .ifCond .le i => (4, 158, i, 0)
  | .if_icmp .eq i => (4, 159, i, 0)
  | .if_icmp .ne i => (4, 160, i, 0)
  | .if_icmp .lt i => (4, 161, i, 0)
  | .if_icmp .ge i => (4, 162, i, 0)
  | .if_icmp .gt i => (4, 163, i, 0)
  | .if_icmp .le i => (4, 164, i, 0)
  | _ => (9, 0, 0, 0)
def u_okk (ins : Instr) (k op : Nat) (x y : Int) : Prop := match k with
  | 0 => ∀ pc, u_F.1 pc op = (Pure.pure ins : u_D Instr)
  | 1 => ∃ g : Nat → Instr, (∀ pc, u_F.1 pc op = (u_b1 >>= fun z => Pure.pure (g z))) ∧ ∀ n : Nat, (n : Int) = x → g n = ins
  | 2 => ∃ g : Nat → Instr, (∀ pc, u_F.1 pc op = (u_b2 >>= fun z => Pure.pure (g z))) ∧ ∀ n : Nat, (n : Int) = x → g n = ins
  | 3 => ∃ g : Int → Instr, (∀ pc, u_F.1 pc op = (u_s1 >>= fun z => Pure.pure (g z))) ∧ g x = ins
  | 4 => ∃ g : Int → Instr, (∀ pc, u_F.1 pc op = (u_s2 >>= fun z => Pure.pure (g z))) ∧ g x = ins
  | 5 => ∃ g : Nat → Int → Instr, (∀ pc, u_F.1 pc op = (u_b1 >>= fun z => u_s1 >>= fun w => Pure.pure (g z w))) ∧ ∀ n : Nat, (n : Int) = x → g n y = ins
  | _ => True
theorem u_int {n m : Nat} (h : (n : Int) = (m : Int)) : n = m := Int.ofNat.inj h
theorem u_kd_ok : ∀ ins : Instr, u_okk ins (u_kd ins).1 (u_kd ins).2.1 (u_kd ins).2.2.1 (u_kd ins).2.2.2
  | .aaload => fun _ => rfl
  | .aastore => fun _ => rfl
  | .aconst_null => fun _ => rfl
  | .areturn => fun _ => rfl
  | .arraylength => fun _ => rfl
  | .athrow => fun _ => rfl
  | .baload => fun _ => rfl
  | .dup => fun _ => rfl
  | .dup2 => fun _ => rfl
  | .i2c => fun _ => rfl
  | .i2l => fun _ => rfl
  | .iadd => fun _ => rfl
  | .iaload => fun _ => rfl
  | .iand => fun _ => rfl
  | .iastore => fun _ => rfl
  | .idiv => fun _ => rfl
  | .imul => fun _ => rfl
  | .ior => fun _ => rfl
  | .irem => fun _ => rfl
  | .ireturn => fun _ => rfl
  | .ishl => fun _ => rfl
  | .ishr => fun _ => rfl
  | .isub => fun _ => rfl
  | .iushr => fun _ => rfl
  | .l2i => fun _ => rfl
  | .ladd => fun _ => rfl
  | .laload => fun _ => rfl
  | .lastore => fun _ => rfl
  | .lcmp => fun _ => rfl
  | .ldiv => fun _ => rfl
  | .lmul => fun _ => rfl
  | .lreturn => fun _ => rfl
  | .lsub => fun _ => rfl
  | .pop => fun _ => rfl
  | .return_ => fun _ => rfl
  | .aload i => ⟨.aload, fun _ => rfl, fun _ h => by rw [u_int h]⟩
  | .iload i => ⟨.iload, fun _ => rfl, fun _ h => by rw [u_int h]⟩
  | .istore i => ⟨.istore, fun _ => rfl, fun _ h => by rw [u_int h]⟩
  | .ldc i => ⟨.ldc, fun _ => rfl, fun _ h => by rw [u_int h]⟩
  | .lload i => ⟨.lload, fun _ => rfl, fun _ h => by rw [u_int h]⟩
  | .lstore i => ⟨.lstore, fun _ => rfl, fun _ h => by rw [u_int h]⟩
  | .astore i => ⟨.astore, fun _ => rfl, fun _ h => by rw [u_int h]⟩
  | .anewarray i => ⟨.anewarray, fun _ => rfl, fun _ h => by rw [u_int h]⟩
  | .getfield i => ⟨.getfield, fun _ => rfl, fun _ h => by rw [u_int h]⟩
  | .getstatic i => ⟨.getstatic, fun _ => rfl, fun _ h => by rw [u_int h]⟩
  | .invokespecial i => ⟨.invokespecial, fun _ => rfl, fun _ h => by rw [u_int h]⟩
  | .invokestatic i => ⟨.invokestatic, fun _ => rfl, fun _ h => by rw [u_int h]⟩
  | .invokevirtual i => ⟨.invokevirtual, fun _ => rfl, fun _ h => by rw [u_int h]⟩
  | .ldc_w i => ⟨.ldc_w, fun _ => rfl, fun _ h => by rw [u_int h]⟩
  | .ldc2_w i => ⟨.ldc2_w, fun _ => rfl, fun _ h => by rw [u_int h]⟩
  | .new i => ⟨.new, fun _ => rfl, fun _ h => by rw [u_int h]⟩
  | .putfield i => ⟨.putfield, fun _ => rfl, fun _ h => by rw [u_int h]⟩
  | .bipush i => ⟨.bipush, fun _ => rfl, rfl⟩
  | .sipush i => ⟨.sipush, fun _ => rfl, rfl⟩
  | .goto i => ⟨.goto, fun _ => rfl, rfl⟩
  | .ifnull i => ⟨.ifnull, fun _ => rfl, rfl⟩
  | .ifnonnull i => ⟨.ifnonnull, fun _ => rfl, rfl⟩
  | .iinc i c => ⟨.iinc, fun _ => rfl, fun _ h => by rw [u_int h]; rfl⟩
  | .aload_n ⟨0, _⟩ => fun _ => rfl
  | .aload_n ⟨1, _⟩ => fun _ => rfl
  | .aload_n ⟨2, _⟩ => fun _ => rfl
  | .aload_n ⟨3, _⟩ => fun _ => rfl
  | .aload_n ⟨k + 4, h⟩ => absurd h (by omega)
  | .astore_n ⟨0, _⟩ => fun _ => rfl
  | .astore_n ⟨1, _⟩ => fun _ => rfl
  | .astore_n ⟨2, _⟩ => fun _ => rfl
  | .astore_n ⟨3, _⟩ => fun _ => rfl
  | .astore_n ⟨k + 4, h⟩ => absurd h (by omega)
  | .iload_n ⟨0, _⟩ => fun _ => rfl
  | .iload_n ⟨1, _⟩ => fun _ => rfl
  | .iload_n ⟨2, _⟩ => fun _ => rfl
  | .iload_n ⟨3, _⟩ => fun _ => rfl
  | .iload_n ⟨k + 4, h⟩ => absurd h (by omega)
  | .istore_n ⟨0, _⟩ => fun _ => rfl
  | .istore_n ⟨1, _⟩ => fun _ => rfl
  | .istore_n ⟨2, _⟩ => fun _ => rfl
  | .istore_n ⟨3, _⟩ => fun _ => rfl
  | .istore_n ⟨k + 4, h⟩ => absurd h (by omega)
  | .lload_n ⟨0, _⟩ => fun _ => rfl
  | .lload_n ⟨1, _⟩ => fun _ => rfl
  | .lload_n ⟨2, _⟩ => fun _ => rfl
  | .lload_n ⟨3, _⟩ => fun _ => rfl
  | .lload_n ⟨k + 4, h⟩ => absurd h (by omega)
  | .lstore_n ⟨0, _⟩ => fun _ => rfl
  | .lstore_n ⟨1, _⟩ => fun _ => rfl
  | .lstore_n ⟨2, _⟩ => fun _ => rfl
  | .lstore_n ⟨3, _⟩ => fun _ => rfl
  | .lstore_n ⟨k + 4, h⟩ => absurd h (by omega)
  | .lconst ⟨0, _⟩ => fun _ => rfl
  | .lconst ⟨1, _⟩ => fun _ => rfl
  | .lconst ⟨k + 2, h⟩ => absurd h (by omega)
  | .iconst i => by
    by_cases h : -1 ≤ i ∧ i ≤ 5
    · have e : u_kd (.iconst i) = (0, (i + 3).toNat, 0, 0) := if_pos h
      rw [e]
      have : i = -1 ∨ i = 0 ∨ i = 1 ∨ i = 2 ∨ i = 3 ∨ i = 4 ∨ i = 5 := by omega
      rcases this with e | e | e | e | e | e | e <;> subst e <;> exact fun _ => rfl
    · have e : u_kd (.iconst i) = (9, 0, 0, 0) := if_neg h
      rw [e]; trivial
  | .ifCond .eq i => ⟨.ifCond .eq, fun _ => rfl, rfl⟩
  | .ifCond .ne i => ⟨.ifCond .ne, fun _ => rfl, rfl⟩
  | .ifCond .lt i => ⟨.ifCond .lt, fun _ => rfl, rfl⟩
  | .ifCond .ge i => ⟨.ifCond .ge, fun _ => rfl, rfl⟩
  | .ifCond .gt i => ⟨.ifCond .gt, fun _ => rfl, rfl⟩
  | .ifCond .le i => ⟨.ifCond .le, fun _ => rfl, rfl⟩
  | .if_icmp .eq i => ⟨.if_icmp .eq, fun _ => rfl, rfl⟩
  | .if_icmp .ne i => ⟨.if_icmp .ne, fun _ => rfl, rfl⟩
  | .if_icmp .lt i => ⟨.if_icmp .lt, fun _ => rfl, rfl⟩
  | .if_icmp .ge i => ⟨.if_icmp .ge, fun _ => rfl, rfl⟩
  | .if_icmp .gt i => ⟨.if_icmp .gt, fun _ => rfl, rfl⟩
  | .if_icmp .le i => ⟨.if_icmp .le, fun _ => rfl, rfl⟩
  | .bastore => trivial
  | .caload => trivial
  | .castore => trivial
  | .checkcast _ => trivial
  | .d2f => trivial
  | .d2i => trivial
  | .d2l => trivial
  | .dadd => trivial
  | .daload => trivial
  | .dastore => trivial
  | .dcmp _ => trivial
  | .dconst _ => trivial
  | .ddiv => trivial
  | .dload _ => trivial
  | .dload_n _ => trivial
  | .dmul => trivial
  | .dneg => trivial
  | .drem => trivial
  | .dreturn => trivial
  | .dstore _ => trivial
  | .dstore_n _ => trivial
  | .dsub => trivial
  | .dup_x1 => trivial
  | .dup_x2 => trivial
  | .dup2_x1 => trivial
  | .dup2_x2 => trivial
  | .f2d => trivial
  | .f2i => trivial
  | .f2l => trivial
  | .fadd => trivial
  | .faload => trivial
  | .fastore => trivial
  | .fcmp _ => trivial
  | .fconst _ => trivial
  | .fdiv => trivial
  | .fload _ => trivial
  | .fload_n _ => trivial
  | .fmul => trivial
  | .fneg => trivial
  | .frem => trivial
  | .freturn => trivial
  | .fstore _ => trivial
  | .fstore_n _ => trivial
  | .fsub => trivial
  | .goto_w _ => trivial
  | .i2b => trivial
  | .i2d => trivial
  | .i2f => trivial
  | .i2s => trivial
  | .if_acmp _ _ => trivial
  | .ineg => trivial
  | .instanceof _ => trivial
  | .invokedynamic _ => trivial
  | .invokeinterface _ _ => trivial
  | .ixor => trivial
  | .jsr _ => trivial
  | .jsr_w _ => trivial
  | .l2d => trivial
  | .l2f => trivial
  | .land => trivial
  | .lneg => trivial
  | .lookupswitch _ _ => trivial
  | .lor => trivial
  | .lrem => trivial
  | .lshl => trivial
  | .lshr => trivial
  | .lushr => trivial
  | .lxor => trivial
  | .monitorenter => trivial
  | .monitorexit => trivial
  | .multianewarray _ _ => trivial
  | .newarray _ => trivial
  | .nop => trivial
  | .pop2 => trivial
  | .putstatic _ => trivial
  | .ret _ => trivial
  | .saload => trivial
  | .sastore => trivial
  | .swap => trivial
  | .tableswitch _ _ _ _ => trivial
/-- its length, if it stands there; else 0 -/
def u_ck (ins : Instr) (l : List UInt8) : Nat := match l with
  | [] => 0
  | b :: r => match u_kd ins with
    | (k, op, x, y) => if Nat.beq b.toNat op then (match k, r with
      | 0, _ => 1
      | 1, c :: _ => if decide ((c.toNat : Int) = x) then 2 else 0
      | 2, c :: d :: _ => if decide (((c.toNat * 256 + d.toNat : Nat) : Int) = x) then 3 else 0
      | 3, c :: _ => if decide (Jvm.ClassFile.Reader.signed 8 c.toNat = x) then 2 else 0
      | 4, c :: d :: _ => if decide (Jvm.ClassFile.Reader.signed 16 (c.toNat * 256 + d.toNat) = x) then 3 else 0
      | 5, c :: d :: _ => if decide ((c.toNat : Int) = x) && decide (Jvm.ClassFile.Reader.signed 8 d.toNat = y) then 3 else 0
      | _, _ => 0) else 0
theorem u_ck_ok {code : ByteArray} {pc : Nat} {ins : Instr} {l : List UInt8} {n : Nat} (hl : l = code.data.toList.drop pc) (h : u_ck ins l = n) (hn : n ≠ 0) : decode code pc = .ok (ins, n) := by
  subst hl
  generalize hd : code.data.toList.drop pc = l at h
  cases l with
  | nil => exact absurd h.symm hn
  | cons b r =>
    have hk := u_kd_ok ins
    have ho := u_op hd
    have ht := u_tail hd
    unfold u_ck at h
    revert h hk
    generalize u_kd ins = q
    obtain ⟨k, op, x, y⟩ := q
    intro h hk
    simp only at h hk
    by_cases hb : Nat.beq b.toNat op = true
    · rw [if_pos hb] at h
      have hb := Nat.eq_of_beq_eq_true hb
      rw [hb] at ho
      have fin : ∀ m, u_F.1 pc op code (pc + 1) = .ok (ins, pc + m) → n = m → decode code pc = .ok (ins, n) := fun m e e2 => by
        rw [u_fin (ho.trans e), e2, Nat.add_sub_cancel_left]
      match k, r, h, hk, ht, fin with
      | 0, r, h, hk, ht, fin =>
        refine fin 1 ?_ h.symm
        rw [(hk : ∀ pc, u_F.1 pc op = (Pure.pure ins : u_D Instr)) pc]; rfl
      | 1, c :: r, h, hk, ht, fin =>
        obtain ⟨g, h1, h2⟩ := hk
        by_cases hc : decide ((c.toNat : Int) = x) = true
        · simp only [hc, if_true] at h
          refine fin 2 ?_ h.symm
          rw [h1 pc, u_bind (u_u1 ht), h2 _ (of_decide_eq_true hc)]; rfl
        · simp only [Bool.not_eq_true] at hc
          simp only [hc] at h
          exact absurd h.symm hn
      | 2, c :: d :: r, h, hk, ht, fin =>
        obtain ⟨g, h1, h2⟩ := hk
        by_cases hc : decide (((c.toNat * 256 + d.toNat : Nat) : Int) = x) = true
        · simp only [hc, if_true] at h
          refine fin 3 ?_ h.symm
          rw [h1 pc, u_bind (u_u2 ht), h2 _ (of_decide_eq_true hc)]; rfl
        · simp only [Bool.not_eq_true] at hc
          simp only [hc] at h
          exact absurd h.symm hn
      | 3, c :: r, h, hk, ht, fin =>
        obtain ⟨g, h1, h2⟩ := hk
        by_cases hc : decide (Jvm.ClassFile.Reader.signed 8 c.toNat = x) = true
        · simp only [hc, if_true] at h
          refine fin 2 ?_ h.symm
          rw [h1 pc, u_bind (u_is1 ht), of_decide_eq_true hc, h2]; rfl
        · simp only [Bool.not_eq_true] at hc
          simp only [hc] at h
          exact absurd h.symm hn
      | 4, c :: d :: r, h, hk, ht, fin =>
        obtain ⟨g, h1, h2⟩ := hk
        by_cases hc : decide (Jvm.ClassFile.Reader.signed 16 (c.toNat * 256 + d.toNat) = x) = true
        · simp only [hc, if_true] at h
          refine fin 3 ?_ h.symm
          rw [h1 pc, u_bind (u_is2 ht), of_decide_eq_true hc, h2]; rfl
        · simp only [Bool.not_eq_true] at hc
          simp only [hc] at h
          exact absurd h.symm hn
      | 5, c :: d :: r, h, hk, ht, fin =>
        obtain ⟨g, h1, h2⟩ := hk
        by_cases hc : (decide ((c.toNat : Int) = x) && decide (Jvm.ClassFile.Reader.signed 8 d.toNat = y)) = true
        · simp only [hc, if_true] at h
          have hc := (Bool.and_eq_true _ _).mp hc
          refine fin 3 ?_ h.symm
          rw [h1 pc, u_bind (u_u1 ht), u_bind (u_is1 (u_tail ht)), of_decide_eq_true hc.2, h2 _ (of_decide_eq_true hc.1)]; rfl
        · simp only [Bool.not_eq_true] at hc
          simp only [hc] at h
          exact absurd h.symm hn
      | 1, [], h, _, _, _ => exact absurd h.symm hn
      | 2, [], h, _, _, _ => exact absurd h.symm hn
      | 2, [_], h, _, _, _ => exact absurd h.symm hn
      | 3, [], h, _, _, _ => exact absurd h.symm hn
      | 4, [], h, _, _, _ => exact absurd h.symm hn
      | 4, [_], h, _, _, _ => exact absurd h.symm hn
      | 5, [], h, _, _, _ => exact absurd h.symm hn
      | 5, [_], h, _, _, _ => exact absurd h.symm hn
      | k + 6, _, h, _, _, _ => exact absurd h.symm hn
    · rw [if_neg hb] at h
      exact absurd h.symm hn
/-- a row of instructions held against its bytes -/
def u_chk (code : ByteArray) : List mI → Nat → List UInt8 → Bool
  | [], _, _ => true
  | q :: t, p, l => Nat.ble p q.1 && (Nat.beq (u_ck q.2.1 (l.drop (q.1 - p))) (m_len q.2.1 q.2.2) && Nat.ble 1 (m_len q.2.1 q.2.2) || decide (decode code q.1 = .ok (q.2.1, m_len q.2.1 q.2.2))) && u_chk code t q.1 (l.drop (q.1 - p))
theorem u_chk_ok {code : ByteArray} : ∀ (cd : List mI) (p : Nat) (l : List UInt8), l = code.data.toList.drop p → u_chk code cd p l = true → ∀ q ∈ cd, decode code q.1 = .ok (q.2.1, m_len q.2.1 q.2.2) := by
  intro cd
  induction cd with
  | nil => intro p l _ _ q hq; cases hq
  | cons a t ih =>
    intro p l hl h q hq
    simp only [u_chk, Bool.and_eq_true, Bool.or_eq_true, decide_eq_true_eq] at h
    obtain ⟨⟨h1, h2⟩, h3⟩ := h
    have h1 := Nat.le_of_ble_eq_true h1
    have hl2 : l.drop (a.1 - p) = code.data.toList.drop a.1 := by
      rw [hl, List.drop_drop, show p + (a.1 - p) = a.1 by omega]
    rcases List.mem_cons.mp hq with e | hq
    · subst e
      rcases h2 with h2 | h2
      · exact u_ck_ok hl2 (Nat.eq_of_beq_eq_true h2.1) (by have := Nat.le_of_ble_eq_true h2.2; omega)
      · exact h2
    · exact ih a.1 _ hl2 h3 q hq
end
