/-! small words on instructions and types; look-up -/
def rLb (i : Instr) (len : Nat) : Bool := match i with
  | .tableswitch .. => true
  | .iconst _ | .lconst _ | .iload_n _ | .lload_n _ | .aload_n _ | .istore_n _ | .lstore_n _ | .astore_n _ => decide (len = 1)
  | .iadd | .isub | .imul | .iand | .ior | .ixor | .ishl | .ishr | .iushr | .idiv | .irem | .ladd | .lsub | .lmul | .lcmp | .i2l | .i2b | .i2c | .pop | .dup | .dup2 => decide (len = 1)
  | .iaload | .baload | .laload | .aaload | .iastore | .bastore | .lastore | .aastore | .arraylength | .ireturn | .lreturn | .areturn | .return_ => decide (len = 1)
  | .bipush _ | .ldc _ | .iload _ | .lload _ | .aload _ | .istore _ | .lstore _ | .astore _ | .newarray _ => decide (len = 2)
  | .sipush _ | .ldc_w _ | .ldc2_w _ | .iinc .. | .goto _ | .ifCond .. | .if_icmp .. | .ifnonnull _ | .getfield _ | .putfield _ | .getstatic _ | .invokevirtual _ | .invokestatic _ | .invokespecial _ | .new _ | .anewarray _ => decide (len = 3)
  | _ => true
def rTyOK (ty : FieldType) : Bool := match ty with
  | .float => false
  | .double => false
  | _ => true
def chkI (c : ByteArray) (l : List (Nat × Instr × Nat)) : Bool := l.all fun q => decide (decode c q.1 = .ok (q.2.1, q.2.2)) && rLb q.2.1 q.2.2
def lkp {α : Type} : List (Nat × α) → Nat → Option α
  | [], _ => none
  | q :: r, n => bif Nat.beq n q.1 then some q.2 else lkp r n
theorem lkp_mem {α : Type} {l : List (Nat × α)} {n : Nat} {x : α} (h : lkp l n = some x) : (n, x) ∈ l := by
  induction l with
  | nil => cases h
  | cons q r ih =>
    unfold lkp at h
    cases hb : Nat.beq n q.1 with
    | true =>
      rw [hb] at h
      have e : n = q.1 := Nat.eq_of_beq_eq_true hb
      cases h
      rw [e]
      exact List.mem_cons_self
    | false =>
      rw [hb] at h
      exact List.mem_cons_of_mem _ (ih h)
theorem getD_mem {α : Type} (l : List α) (n : Nat) (d : α) : l.getD n d ∈ l ∨ l.getD n d = d := by
  rw [List.getD_eq_getElem?_getD]
  cases h : l[n]? with
  | none => exact Or.inr rfl
  | some x => exact Or.inl (List.mem_of_getElem? h)
