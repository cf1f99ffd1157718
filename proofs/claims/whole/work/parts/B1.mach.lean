/-! AN ABSTRACT MACHINE: memory by addresses with typed slots; 'run' is a function. Its soundness over the bytecode machine is part 02. -/
abbrev rKd : Type := Nat ⊕ (Nat × Nat)
abbrev rM : Type := (Nat → Option rKd) × (Nat → Nat → Int32) × (Nat → Nat → Option Nat) × (Nat → Nat → Int64) × Nat × Nat
def rk (μ : rM) (a : Nat) : Option rKd := μ.1 a
def ri (μ : rM) (a j : Nat) : Int32 := μ.2.1 a j
def rr (μ : rM) (a j : Nat) : Option Nat := μ.2.2.1 a j
def rl (μ : rM) (a j : Nat) : Int64 := μ.2.2.2.1 a j
def rz (μ : rM) : Nat := μ.2.2.2.2.1
def ru (μ : rM) : Nat := μ.2.2.2.2.2
def up2 {α : Type} (f : Nat → Nat → α) (a j : Nat) (v : α) : Nat → Nat → α := fun b i => if b = a ∧ i = j then v else f b i
def wi (μ : rM) (a j : Nat) (v : Int32) : rM := (μ.1, up2 μ.2.1 a j v, μ.2.2)
def wr (μ : rM) (a j : Nat) (v : Option Nat) : rM := (μ.1, μ.2.1, up2 μ.2.2.1 a j v, μ.2.2.2)
def wl (μ : rM) (a j : Nat) (v : Int64) : rM := (μ.1, μ.2.1, μ.2.2.1, up2 μ.2.2.2.1 a j v, μ.2.2.2.2)
/-- a new cell, of n slots -/
def nw (μ : rM) (kd : rKd) (n : Nat) : rM := (fun b => if b = rz μ then some kd else μ.1 b, fun b i => if b = rz μ then 0 else μ.2.1 b i, fun b i => if b = rz μ then none else μ.2.2.1 b i, fun b i => if b = rz μ then 0 else μ.2.2.2.1 b i, rz μ + 1, ru μ + n)
/-- a run of ints from one array to another -/
def cp (μ : rM) (a sp b dp n : Nat) : rM := (μ.1, fun c j => if c = b then va_cpy (μ.2.1 a) (μ.2.1 b) sp dp n j else μ.2.1 c j, μ.2.2)
/-- the program: instructions; fields (read, written); calls (method, how many arguments, in what manner); new; new arrays of references; constants; statics; texts; places of locals; what is returned; fields' types; how many fields; a method's class -/
abbrev rPg : Type := (Nat → Nat → Option (Instr × Nat)) × (Nat → Nat → Option (Nat × Nat)) × (Nat → Nat → Option (Nat × Nat)) × (Nat → Nat → Option (Nat × Nat × Nat)) × (Nat → Nat → Option Nat) × (Nat → Nat → Option Nat) × (Nat → Nat → Option Int32) × (Nat → Nat → Option Int64) × (Nat → Nat → Option Nat) × (Nat → Nat → Option Nat) × (Nat → Nat) × (Nat → Option FieldType) × (Nat → Nat → FieldType) × (Nat → Nat) × (Nat → Nat) × (Nat → Bool)
def pIns (P : rPg) := P.1
def pFld (P : rPg) := P.2.1
def pPut (P : rPg) := P.2.2.1
def pCal (P : rPg) := P.2.2.2.1
def pNew (P : rPg) := P.2.2.2.2.1
def pAnw (P : rPg) := P.2.2.2.2.2.1
def pCon (P : rPg) := P.2.2.2.2.2.2.1
def pCo2 (P : rPg) := P.2.2.2.2.2.2.2.1
def pSta (P : rPg) := P.2.2.2.2.2.2.2.2.1
def pStr (P : rPg) := P.2.2.2.2.2.2.2.2.2.1
def pMxl (P : rPg) := P.2.2.2.2.2.2.2.2.2.2.1
def pRet (P : rPg) := P.2.2.2.2.2.2.2.2.2.2.2.1
def pTyF (P : rPg) := P.2.2.2.2.2.2.2.2.2.2.2.2.1
def pNfl (P : rPg) := P.2.2.2.2.2.2.2.2.2.2.2.2.2.1
def pMcl (P : rPg) := P.2.2.2.2.2.2.2.2.2.2.2.2.2.2.1
def pAok (P : rPg) := P.2.2.2.2.2.2.2.2.2.2.2.2.2.2.2
def rTv (ty : FieldType) (x : Int32) (r : Option Nat) (l : Int64) : Value := match ty with
  | .long => .long l
  | .object _ => va_rf r
  | .array _ => va_rf r
  | _ => .int x
def rPut (ty : FieldType) (μ : rM) (a j : Nat) (v : Value) : Option rM := match ty with
  | .int => match v with
    | .int x => some (wi μ a j x)
    | _ => none
  | .boolean => match v with
    | .int x => if x = 0 ∨ x = 1 then some (wi μ a j x) else none
    | _ => none
  | .long => match v with
    | .long x => some (wl μ a j x)
    | _ => none
  | .object _ => match v with
    | .ref b => some (wr μ a j (some b))
    | _ => none
  | .array _ => match v with
    | .ref b => some (wr μ a j (some b))
    | _ => none
  | _ => none
section
variable {α : Type}
def oI (st : List Value) (f : Int32 → List Value → Option α) : Option α := match st with
  | .int x :: r => f x r
  | _ => none
def oII (st : List Value) (f : Int32 → Int32 → List Value → Option α) : Option α := match st with
  | .int y :: .int x :: r => f x y r
  | _ => none
def oL (st : List Value) (f : Int64 → List Value → Option α) : Option α := match st with
  | .long x :: r => f x r
  | _ => none
def oLL (st : List Value) (f : Int64 → Int64 → List Value → Option α) : Option α := match st with
  | .long y :: .long x :: r => f x y r
  | _ => none
def oR (st : List Value) (f : Nat → List Value → Option α) : Option α := match st with
  | .ref a :: r => f a r
  | _ => none
def oIR (st : List Value) (f : Nat → Int32 → List Value → Option α) : Option α := match st with
  | .int i :: .ref a :: r => f a i r
  | _ => none
def oIIR (st : List Value) (f : Nat → Int32 → Int32 → List Value → Option α) : Option α := match st with
  | .int x :: .int i :: .ref a :: r => f a i x r
  | _ => none
def oLIR (st : List Value) (f : Nat → Int32 → Int64 → List Value → Option α) : Option α := match st with
  | .long x :: .int i :: .ref a :: r => f a i x r
  | _ => none
def oRIR (st : List Value) (f : Nat → Int32 → Nat → List Value → Option α) : Option α := match st with
  | .ref x :: .int i :: .ref a :: r => f a i x r
  | _ => none
def oVR (st : List Value) (f : Nat → Value → List Value → Option α) : Option α := match st with
  | v :: .ref a :: r => f a v r
  | _ => none
def oV (st : List Value) (f : Value → List Value → Option α) : Option α := match st with
  | v :: r => f v r
  | _ => none
def oVV (st : List Value) (f : Value → Value → List Value → Option α) : Option α := match st with
  | v :: w :: r => f v w r
  | _ => none
def oCp (st : List Value) (f : Nat → Int32 → Nat → Int32 → Int32 → List Value → Option α) : Option α := match st with
  | .int n :: .int dp :: .ref b :: .int sp :: .ref a :: r => f a sp b dp n r
  | _ => none
end
def gL (ls : List (Option Value)) (i : Nat) : Option Value := ls.getD i none
def kL (ls : List (Option Value)) (i : Nat) : List (Option Value) := match i with
  | 0 => ls
  | j + 1 => match gL ls j with
    | some w => if w.category = 2 then ls.set j none else ls
    | none => ls
def sL1 (ls : List (Option Value)) (i : Nat) (v : Value) : List (Option Value) := (kL ls i).set i (some v)
def sL2 (ls : List (Option Value)) (i : Nat) (v : Value) : List (Option Value) := ((kL ls i).set i (some v)).set (i + 1) none
def eL : List Value → List (Option Value)
  | [] => []
  | v :: vs => if v.category = 2 then some v :: none :: eL vs else some v :: eL vs
/-- the locals with which a method begins -/
def eLn (n : Nat) (vs : List Value) : List (Option Value) := eL vs ++ List.replicate (n - (eL vs).length) none
def rCmp : ClassFile.Cond → Int32 → Int32 → Bool
  | .eq, x, y => decide (x = y)
  | .ne, x, y => decide (¬ x = y)
  | .lt, x, y => decide (x < y)
  | .ge, x, y => decide (y ≤ x)
  | .gt, x, y => decide (y < x)
  | .le, x, y => decide (x ≤ y)
def rAty (cn : Nat → String) (t : Nat) : FieldType := match t with
  | 0 => .int
  | 1 => .byte
  | 2 => .boolean
  | 3 => .long
  | t + 4 => .object (cn t)
def rAt0 : ArrayType → Option Nat
  | .int => some 0
  | .byte => some 1
  | .boolean => some 2
  | .long => some 3
  | _ => none
def jmp {α : Type} (pc : Nat) (off : Int) (f : Nat → Option α) : Option α := match (pc : Int) + off with
  | .ofNat t => f t
  | _ => none
def aIn (i : Int32) (n : Nat) : Bool := decide (0 ≤ i) && decide (i.toNatClampNeg < n)
/-- the top n of the stack, in the order in which they were pushed -/
def popN (st : List Value) (n : Nat) : Option (List Value × List Value) := if n ≤ st.length then some ((st.take n).reverse, st.drop n) else none
def stW (st : List Value) : Nat := (st.map fun v => v.category).sum
/-- which of the texts lies at a -/
def strNo (E : (Nat → Value) × (Nat → Nat)) (a : Nat) : Option Nat := (List.range 4).find? fun q => E.2 q == a
abbrev rRs : Type := Option Value × rM
def rInv (P : rPg) (E : (Nat → Value) × (Nat → Nat)) (call : Nat → List Value → rM → Option rRs) (go : List Value → rM → Option rRs) (k idx : Nat) (vir : Bool) (st : List Value) (μ : rM) : Option rRs :=
  match pCal P k idx with
  | some (j, n, 0) => (popN st n).bind fun q => oR q.2 fun b r => if vir = true ∧ rk μ b = some (.inl (pMcl P j)) ∧ stW r ≤ 8 then (call j (.ref b :: q.1) μ).bind fun z => go (z.1.toList ++ r) z.2 else none
  | some (j, n, 2) => (popN st n).bind fun q => oR q.2 fun b r => if vir = false ∧ stW r ≤ 8 then (call j (.ref b :: q.1) μ).bind fun z => go (z.1.toList ++ r) z.2 else none
  | some (j, n, 3) => (popN st n).bind fun q => oR q.2 fun b r => if vir = false ∧ stW r ≤ 8 then (call j (.ref b :: q.1) μ).bind fun z => go (z.1.toList ++ r) z.2 else none
  | some (j, n, 8) => (popN st n).bind fun q => oR q.2 fun b r => if vir = true ∧ (strNo E b).isSome = true ∧ stW r ≤ 8 then (call j (.ref b :: q.1) μ).bind fun z => go (z.1.toList ++ r) z.2 else none
  | some (_, _, 4) => oR st fun _ r => if vir = false ∧ stW r ≤ 8 then go r μ else none
  | _ => none
def rBody (P : rPg) (E : (Nat → Value) × (Nat → Nat)) (lo : Nat) (call : Nat → List Value → rM → Option rRs) (go : Nat → List (Option Value) → List Value → rM → Option rRs) (k pc : Nat) (ls : List (Option Value)) (st : List Value) (μ : rM) (len : Nat) (i : Instr) : Option rRs := match i with
  | .iconst n => go (pc + 1) ls (.int (Int32.ofInt n) :: st) μ
  | .bipush n => go (pc + 2) ls (.int (Int8.ofInt n).toInt32 :: st) μ
  | .sipush n => go (pc + 3) ls (.int (Int16.ofInt n).toInt32 :: st) μ
  | .lconst n => go (pc + 1) ls (.long (Int64.ofNat (n : Nat)) :: st) μ
  | .ldc idx => match pCon P k idx with
    | some x => go (pc + 2) ls (.int x :: st) μ
    | none => (pStr P k idx).bind fun q => go (pc + 2) ls (.ref (E.2 q) :: st) μ
  | .ldc_w idx => (pCon P k idx).bind fun x => go (pc + 3) ls (.int x :: st) μ
  | .ldc2_w idx => (pCo2 P k idx).bind fun x => go (pc + 3) ls (.long x :: st) μ
  | .iload j => (gL ls j).bind fun v => oI [v] fun x _ => go (pc + 2) ls (.int x :: st) μ
  | .iload_n j => (gL ls j).bind fun v => oI [v] fun x _ => go (pc + 1) ls (.int x :: st) μ
  | .lload j => (gL ls j).bind fun v => oL [v] fun x _ => go (pc + 2) ls (.long x :: st) μ
  | .lload_n j => (gL ls j).bind fun v => oL [v] fun x _ => go (pc + 1) ls (.long x :: st) μ
  | .aload j => (gL ls j).bind fun v => oR [v] fun x _ => go (pc + 2) ls (.ref x :: st) μ
  | .aload_n j => (gL ls j).bind fun v => oR [v] fun x _ => go (pc + 1) ls (.ref x :: st) μ
  | .istore j => if j < ls.length then oI st fun x r => go (pc + 2) (sL1 ls j (.int x)) r μ else none
  | .istore_n j => if (j : Nat) < ls.length then oI st fun x r => go (pc + 1) (sL1 ls j (.int x)) r μ else none
  | .lstore j => if j + 1 < ls.length then oL st fun x r => go (pc + 2) (sL2 ls j (.long x)) r μ else none
  | .lstore_n j => if (j : Nat) + 1 < ls.length then oL st fun x r => go (pc + 1) (sL2 ls j (.long x)) r μ else none
  | .astore j => if j < ls.length then oR st fun x r => go (pc + 2) (sL1 ls j (.ref x)) r μ else none
  | .astore_n j => if (j : Nat) < ls.length then oR st fun x r => go (pc + 1) (sL1 ls j (.ref x)) r μ else none
  | .iinc j n => if j < ls.length then (gL ls j).bind fun v => oI [v] fun x _ => go (pc + 3) (sL1 ls j (.int (x + Int32.ofInt n))) st μ else none
  | .iadd => oII st fun x y r => go (pc + 1) ls (.int (x + y) :: r) μ
  | .isub => oII st fun x y r => go (pc + 1) ls (.int (x - y) :: r) μ
  | .imul => oII st fun x y r => go (pc + 1) ls (.int (x * y) :: r) μ
  | .iand => oII st fun x y r => go (pc + 1) ls (.int (x &&& y) :: r) μ
  | .ior => oII st fun x y r => go (pc + 1) ls (.int (x ||| y) :: r) μ
  | .ixor => oII st fun x y r => go (pc + 1) ls (.int (x ^^^ y) :: r) μ
  | .ishl => oII st fun x y r => go (pc + 1) ls (.int (x <<< (y &&& 31)) :: r) μ
  | .ishr => oII st fun x y r => go (pc + 1) ls (.int (x >>> (y &&& 31)) :: r) μ
  | .iushr => oII st fun x y r => go (pc + 1) ls (.int ((x.toUInt32 >>> (y.toUInt32 &&& Int32.toUInt32 31)).toInt32) :: r) μ
  | .idiv => oII st fun x y r => if y = 0 then none else go (pc + 1) ls (.int (x / y) :: r) μ
  | .irem => oII st fun x y r => if y = 0 then none else go (pc + 1) ls (.int (x - x / y * y) :: r) μ
  | .ladd => oLL st fun x y r => go (pc + 1) ls (.long (x + y) :: r) μ
  | .lsub => oLL st fun x y r => go (pc + 1) ls (.long (x - y) :: r) μ
  | .lmul => oLL st fun x y r => go (pc + 1) ls (.long (x * y) :: r) μ
  | .lcmp => oLL st fun x y r => go (pc + 1) ls (.int (lg_cmp x y) :: r) μ
  | .i2l => oI st fun x r => go (pc + 1) ls (.long x.toInt64 :: r) μ
  | .i2b => oI st fun x r => go (pc + 1) ls (.int x.toInt8.toInt32 :: r) μ
  | .i2c => oI st fun x r => go (pc + 1) ls (.int (x.toUInt32 % 65536).toInt32 :: r) μ
  | .pop => oV st fun v r => if v.category = 1 then go (pc + 1) ls r μ else none
  | .dup => oV st fun v r => if v.category = 1 then go (pc + 1) ls (v :: v :: r) μ else none
  | .dup2 => oVV st fun v w r => if v.category = 1 ∧ w.category = 1 then go (pc + 1) ls (v :: w :: v :: w :: r) μ else none
  | .goto off => jmp pc off fun t => go t ls st μ
  | .ifCond c off => oI st fun x r => jmp pc off fun t => if rCmp c x 0 = true then go t ls r μ else go (pc + 3) ls r μ
  | .if_icmp c off => oII st fun x y r => jmp pc off fun t => if rCmp c x y = true then go t ls r μ else go (pc + 3) ls r μ
  | .ifnonnull off => oV st fun v r => jmp pc off fun t => match v with
    | .ref _ => go t ls r μ
    | .null => go (pc + 3) ls r μ
    | _ => none
  | .tableswitch df a b offs => oI st fun x r => if x.toInt < a ∨ b < x.toInt then jmp pc df fun t => go t ls r μ else (offs[(x.toInt - a).toNat]?).bind fun off => jmp pc off fun t => go t ls r μ
  | .getfield idx => oR st fun a r => (pFld P k idx).bind fun q => if q.1 = 13 then (strNo E a).bind fun n => go (pc + 3) ls ((if q.2 = 0 then .ref (E.2 (n + 100)) else .int 0) :: r) μ else if rk μ a = some (.inl q.1) then go (pc + 3) ls (rTv (pTyF P q.1 q.2) (ri μ a q.2) (rr μ a q.2) (rl μ a q.2) :: r) μ else none
  | .putfield idx => oVR st fun a v r => (pPut P k idx).bind fun q => if rk μ a = some (.inl q.1) ∧ lo ≤ a then (rPut (pTyF P q.1 q.2) μ a q.2 v).bind fun μ1 => go (pc + 3) ls r μ1 else none
  | .getstatic idx => (pSta P k idx).bind fun q => go (pc + 3) ls (E.1 q :: st) μ
  | .iaload => oIR st fun a i r => match rk μ a with
    | some (.inr (0, n)) => if aIn i n = true then go (pc + 1) ls (.int (ri μ a i.toNatClampNeg) :: r) μ else none
    | _ => none
  | .baload => oIR st fun a i r => match rk μ a with
    | some (.inr (1, n)) => if aIn i n = true then go (pc + 1) ls (.int (ri μ a i.toNatClampNeg) :: r) μ else none
    | some (.inr (2, n)) => if aIn i n = true then go (pc + 1) ls (.int (ri μ a i.toNatClampNeg) :: r) μ else none
    | _ => none
  | .laload => oIR st fun a i r => match rk μ a with
    | some (.inr (3, n)) => if aIn i n = true then go (pc + 1) ls (.long (rl μ a i.toNatClampNeg) :: r) μ else none
    | _ => none
  | .aaload => oIR st fun a i r => match rk μ a with
    | some (.inr (_ + 4, n)) => if aIn i n = true then go (pc + 1) ls (va_rf (rr μ a i.toNatClampNeg) :: r) μ else none
    | _ => none
  | .iastore => oIIR st fun a i x r => match rk μ a with
    | some (.inr (0, n)) => if aIn i n = true ∧ lo ≤ a then go (pc + 1) ls r (wi μ a i.toNatClampNeg x) else none
    | _ => none
  | .bastore => oIIR st fun a i x r => match rk μ a with
    | some (.inr (1, n)) => if aIn i n = true ∧ lo ≤ a then go (pc + 1) ls r (wi μ a i.toNatClampNeg x.toInt8.toInt32) else none
    | some (.inr (2, n)) => if aIn i n = true ∧ lo ≤ a then go (pc + 1) ls r (wi μ a i.toNatClampNeg (x &&& 1)) else none
    | _ => none
  | .lastore => oLIR st fun a i x r => match rk μ a with
    | some (.inr (3, n)) => if aIn i n = true ∧ lo ≤ a then go (pc + 1) ls r (wl μ a i.toNatClampNeg x) else none
    | _ => none
  | .aastore => oRIR st fun a i x r => match rk μ a with
    | some (.inr (t + 4, n)) => if aIn i n = true ∧ lo ≤ a ∧ rk μ x = some (.inl t) ∧ pAok P t = true then go (pc + 1) ls r (wr μ a i.toNatClampNeg (some x)) else none
    | _ => none
  | .arraylength => oR st fun a r => match rk μ a with
    | some (.inr q) => go (pc + 1) ls (.int (Int32.ofNat q.2) :: r) μ
    | _ => none
  | .newarray ty => oI st fun n r => (rAt0 ty).bind fun t => if 0 ≤ n ∧ n.toNatClampNeg ≤ 1000000 then go (pc + 2) ls (.ref (rz μ) :: r) (nw μ (.inr (t, n.toNatClampNeg)) n.toNatClampNeg) else none
  | .anewarray idx => oI st fun n r => (pAnw P k idx).bind fun t => if 0 ≤ n ∧ n.toNatClampNeg ≤ 1000000 then go (pc + 3) ls (.ref (rz μ) :: r) (nw μ (.inr (t + 4, n.toNatClampNeg)) n.toNatClampNeg) else none
  | .new idx => (pNew P k idx).bind fun c => go (pc + 3) ls (.ref (rz μ) :: st) (nw μ (.inl c) (pNfl P c))
  | .invokevirtual idx => rInv P E call (fun st μ => go (pc + 3) ls st μ) k idx true st μ
  | .invokespecial idx => rInv P E call (fun st μ => go (pc + 3) ls st μ) k idx false st μ
  | .invokestatic idx => match pCal P k idx with
    | some (j, n, 1) => (popN st n).bind fun q => if stW q.2 ≤ 8 then (call j q.1 μ).bind fun z => go (pc + 3) ls (z.1.toList ++ q.2) z.2 else none
    | some (_, _, 5) => oCp st fun a sp b dp n r => match rk μ a, rk μ b with
      | some (.inr (0, na)), some (.inr (0, nb)) => if lo ≤ a ∧ lo ≤ b ∧ a ≠ b ∧ 0 ≤ sp ∧ 0 ≤ dp ∧ 0 ≤ n ∧ sp.toNatClampNeg + n.toNatClampNeg ≤ na ∧ dp.toNatClampNeg + n.toNatClampNeg ≤ nb ∧ na ≤ 1000000 ∧ nb ≤ 1000000 ∧ stW r ≤ 8 then go (pc + 3) ls r (cp μ a sp.toNatClampNeg b dp.toNatClampNeg n.toNatClampNeg) else none
      | some (.inr (1, na)), some (.inr (1, nb)) => if lo ≤ a ∧ lo ≤ b ∧ a ≠ b ∧ 0 ≤ sp ∧ 0 ≤ dp ∧ 0 ≤ n ∧ sp.toNatClampNeg + n.toNatClampNeg ≤ na ∧ dp.toNatClampNeg + n.toNatClampNeg ≤ nb ∧ na ≤ 1000000 ∧ nb ≤ 1000000 ∧ stW r ≤ 8 then go (pc + 3) ls r (cp μ a sp.toNatClampNeg b dp.toNatClampNeg n.toNatClampNeg) else none
      | _, _ => none
    | some (_, _, 6) => oII st fun x y r => if stW r ≤ 8 then go (pc + 3) ls (.int (if x < y then y else x) :: r) μ else none
    | some (_, _, 7) => oII st fun x y r => if stW r ≤ 8 then go (pc + 3) ls (.int (if y < x then y else x) :: r) μ else none
    | _ => none
  | .ireturn => match st with
    | [.int x] => match pRet P k with
      | some .int => some (some (.int x), μ)
      | some .boolean => if x = 0 ∨ x = 1 then some (some (.int x), μ) else none
      | some .char => if narrow .char (.int x) = .int x then some (some (.int x), μ) else none
      | some .byte => if narrow .byte (.int x) = .int x then some (some (.int x), μ) else none
      | _ => none
    | _ => none
  | .lreturn => match st with
    | [.long x] => match pRet P k with
      | some .long => some (some (.long x), μ)
      | _ => none
    | _ => none
  | .areturn => match st with
    | [.ref x] => match pRet P k with
      | some (.object _) => some (some (.ref x), μ)
      | _ => none
    | _ => none
  | .return_ => match st with
    | [] => match pRet P k with
      | none => some (none, μ)
      | _ => none
    | _ => none
  | _ => none
/-- n steps at most, d calls deep at most: method k at pc -/
def run (P : rPg) (E : (Nat → Value) × (Nat → Nat)) (lo : Nat) : Nat → Nat → Nat → Nat → List (Option Value) → List Value → rM → Option rRs
  | 0, _, _, _, _, _, _ => none
  | n + 1, d, k, pc, ls, st, μ => (pIns P k pc).bind fun i => rBody P E lo (fun j vs μ => match d with
      | 0 => none
      | d + 1 => if (eL vs).length ≤ pMxl P j then run P E lo n d j 0 (eLn (pMxl P j) vs) [] μ else none) (fun pc ls st μ => run P E lo n d k pc ls st μ) k pc ls st μ i.2 i.1
