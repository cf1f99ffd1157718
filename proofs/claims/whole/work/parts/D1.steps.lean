/-! ONE INSTRUCTION of the limit, as an equation; what is read and written in small words -/
section WORDS
variable {α : Type}
def gO (μ : rM) (a c : Nat) (r : Option α) : Option α := if rk μ a = some (.inl c) then r else none
def gP (lo : Nat) (μ : rM) (a c : Nat) (r : Option α) : Option α := if rk μ a = some (.inl c) ∧ lo ≤ a then r else none
def gR (o : Option Nat) (f : Nat → Option α) (n : Option α) : Option α := match o with
  | some b => f b
  | none => n
def rdA (μ : rM) (a t : Nat) (i : Int32) (r : Option α) : Option α := match rk μ a with
  | some (.inr q) => if q.1 = t ∧ aIn i q.2 = true then r else none
  | _ => none
def rdB (μ : rM) (a : Nat) (i : Int32) (r : Option α) : Option α := match rk μ a with
  | some (.inr q) => if (q.1 = 1 ∨ q.1 = 2) ∧ aIn i q.2 = true then r else none
  | _ => none
def rdR (μ : rM) (a : Nat) (i : Int32) (r : Option α) : Option α := match rk μ a with
  | some (.inr q) => if 4 ≤ q.1 ∧ aIn i q.2 = true then r else none
  | _ => none
def wrA (lo : Nat) (μ : rM) (a t : Nat) (i : Int32) (r : Option α) : Option α := match rk μ a with
  | some (.inr q) => if q.1 = t ∧ aIn i q.2 = true ∧ lo ≤ a then r else none
  | _ => none
def wrB (lo : Nat) (μ : rM) (a : Nat) (i : Int32) (r1 r2 : Option α) : Option α := match rk μ a with
  | some (.inr q) => if aIn i q.2 = true ∧ lo ≤ a then (if q.1 = 1 then r1 else if q.1 = 2 then r2 else none) else none
  | _ => none
def wrR (lo : Nat) (μ : rM) (a : Nat) (i : Int32) (x : Nat) (r : Option α) : Option α := match rk μ a with
  | some (.inr q) => if 4 ≤ q.1 ∧ aIn i q.2 = true ∧ lo ≤ a ∧ rk μ x = some (.inl (q.1 - 4)) ∧ pAok PG (q.1 - 4) = true then r else none
  | _ => none
def alen (μ : rM) (a : Nat) (f : Nat → Option α) : Option α := match rk μ a with
  | some (.inr q) => f q.2
  | _ => none
def nz (y : Int32) (r : Option α) : Option α := if y = 0 then none else r
def tsw (x : Int32) (a : Int) (L : List (Option α)) (g : Option α) : Option α := if x.toInt < a ∨ a + (L.length : Int) ≤ x.toInt then g else (L[(x.toInt - a).toNat]?).getD none
def acp (lo : Nat) (μ : rM) (a : Nat) (sp : Int32) (b : Nat) (dp n : Int32) (r : Option α) : Option α := match rk μ a, rk μ b with
  | some (.inr p), some (.inr q) => if (p.1 = 0 ∨ p.1 = 1) ∧ p.1 = q.1 ∧ lo ≤ a ∧ lo ≤ b ∧ a ≠ b ∧ 0 ≤ sp ∧ 0 ≤ dp ∧ 0 ≤ n ∧ sp.toNatClampNeg + n.toNatClampNeg ≤ p.2 ∧ dp.toNatClampNeg + n.toNatClampNeg ≤ q.2 ∧ p.2 ≤ 1000000 ∧ q.2 ≤ 1000000 then r else none
  | _, _ => none
end WORDS
/-- a call, d deep at most -/
noncomputable def cl (E : (Nat → Value) × (Nat → Nat)) (lo d j : Nat) (vs : List Value) (μ : rM) : Option rRs := match d with
  | 0 => none
  | d + 1 => if (eL vs).length ≤ pMxl PG j then ex PG E lo d j 0 (eLn (pMxl PG j) vs) [] μ else none
section STEPS
variable {E : (Nat → Value) × (Nat → Nat)} {lo d k pc : Nat} {T : List (Nat × Instr × Nat)} {ls ls' : List (Option Value)} {st r : List Value} {μ : rM} {i : Nat} {x y : Int32} {lx ly : Int64} {a b : Nat}
theorem x_eq (hk : pIns PG k = lkp T) {q : Instr × Nat} (h : lkp T pc = some q) : ex PG E lo d k pc ls st μ = rBody PG E lo (cl E lo d) (fun pc ls st μ => ex PG E lo d k pc ls st μ) k pc ls st μ q.2 q.1 := by
  rw [ex_eq, hk, h]
  rfl
theorem x_iconst (hk : pIns PG k = lkp T) {n : Int} (h : lkp T pc = some (.iconst n, 1)) (hv : Int32.ofInt n = x) : ex PG E lo d k pc ls st μ = ex PG E lo d k (pc + 1) ls (.int x :: st) μ := by
  rw [x_eq hk h, ← hv]; rfl
theorem x_bipush (hk : pIns PG k = lkp T) {n : Int} (h : lkp T pc = some (.bipush n, 2)) (hv : (Int8.ofInt n).toInt32 = x) : ex PG E lo d k pc ls st μ = ex PG E lo d k (pc + 2) ls (.int x :: st) μ := by
  rw [x_eq hk h, ← hv]; rfl
theorem x_sipush (hk : pIns PG k = lkp T) {n : Int} (h : lkp T pc = some (.sipush n, 3)) (hv : (Int16.ofInt n).toInt32 = x) : ex PG E lo d k pc ls st μ = ex PG E lo d k (pc + 3) ls (.int x :: st) μ := by
  rw [x_eq hk h, ← hv]; rfl
theorem x_lconst (hk : pIns PG k = lkp T) {n : Fin 2} (h : lkp T pc = some (.lconst n, 1)) (hv : Int64.ofNat (n : Nat) = lx) : ex PG E lo d k pc ls st μ = ex PG E lo d k (pc + 1) ls (.long lx :: st) μ := by
  rw [x_eq hk h, ← hv]; rfl
theorem x_ldc (hk : pIns PG k = lkp T) (h : lkp T pc = some (.ldc i, 2)) (hc : pCon PG k i = some x) : ex PG E lo d k pc ls st μ = ex PG E lo d k (pc + 2) ls (.int x :: st) μ := by
  rw [x_eq hk h]; simp only [rBody, hc]
theorem x_ldcS (hk : pIns PG k = lkp T) (h : lkp T pc = some (.ldc i, 2)) (hc : pCon PG k i = none) (hs : pStr PG k i = some a) : ex PG E lo d k pc ls st μ = ex PG E lo d k (pc + 2) ls (.ref (E.2 a) :: st) μ := by
  rw [x_eq hk h]; simp only [rBody, hc, hs, Option.bind_some]
theorem x_ldcw (hk : pIns PG k = lkp T) (h : lkp T pc = some (.ldc_w i, 3)) (hc : pCon PG k i = some x) : ex PG E lo d k pc ls st μ = ex PG E lo d k (pc + 3) ls (.int x :: st) μ := by
  rw [x_eq hk h]; simp only [rBody, hc, Option.bind_some]
theorem x_ldc2 (hk : pIns PG k = lkp T) (h : lkp T pc = some (.ldc2_w i, 3)) (hc : pCo2 PG k i = some lx) : ex PG E lo d k pc ls st μ = ex PG E lo d k (pc + 3) ls (.long lx :: st) μ := by
  rw [x_eq hk h]; simp only [rBody, hc, Option.bind_some]
theorem x_iload (hk : pIns PG k = lkp T) (h : lkp T pc = some (.iload i, 2)) (hg : gL ls i = some (.int x)) : ex PG E lo d k pc ls st μ = ex PG E lo d k (pc + 2) ls (.int x :: st) μ := by
  rw [x_eq hk h]; simp only [rBody, hg, Option.bind_some, oI]
theorem x_iload_n (hk : pIns PG k = lkp T) {n : Fin 4} (h : lkp T pc = some (.iload_n n, 1)) (hg : gL ls n = some (.int x)) : ex PG E lo d k pc ls st μ = ex PG E lo d k (pc + 1) ls (.int x :: st) μ := by
  rw [x_eq hk h]; simp only [rBody, hg, Option.bind_some, oI]
theorem x_lload (hk : pIns PG k = lkp T) (h : lkp T pc = some (.lload i, 2)) (hg : gL ls i = some (.long lx)) : ex PG E lo d k pc ls st μ = ex PG E lo d k (pc + 2) ls (.long lx :: st) μ := by
  rw [x_eq hk h]; simp only [rBody, hg, Option.bind_some, oL]
theorem x_lload_n (hk : pIns PG k = lkp T) {n : Fin 4} (h : lkp T pc = some (.lload_n n, 1)) (hg : gL ls n = some (.long lx)) : ex PG E lo d k pc ls st μ = ex PG E lo d k (pc + 1) ls (.long lx :: st) μ := by
  rw [x_eq hk h]; simp only [rBody, hg, Option.bind_some, oL]
theorem x_aload (hk : pIns PG k = lkp T) (h : lkp T pc = some (.aload i, 2)) (hg : gL ls i = some (.ref a)) : ex PG E lo d k pc ls st μ = ex PG E lo d k (pc + 2) ls (.ref a :: st) μ := by
  rw [x_eq hk h]; simp only [rBody, hg, Option.bind_some, oR]
theorem x_aload_n (hk : pIns PG k = lkp T) {n : Fin 4} (h : lkp T pc = some (.aload_n n, 1)) (hg : gL ls n = some (.ref a)) : ex PG E lo d k pc ls st μ = ex PG E lo d k (pc + 1) ls (.ref a :: st) μ := by
  rw [x_eq hk h]; simp only [rBody, hg, Option.bind_some, oR]
theorem x_istore (hk : pIns PG k = lkp T) (h : lkp T pc = some (.istore i, 2)) (hn : Nat.blt i ls.length = true) (hl : sL1 ls i (.int x) = ls') : ex PG E lo d k pc ls (.int x :: r) μ = ex PG E lo d k (pc + 2) ls' r μ := by
  rw [x_eq hk h, ← hl]; simp only [rBody, oI]; exact if_pos (Nat.le_of_ble_eq_true hn)
theorem x_istore_n (hk : pIns PG k = lkp T) {n : Fin 4} (h : lkp T pc = some (.istore_n n, 1)) (hn : Nat.blt n ls.length = true) (hl : sL1 ls n (.int x) = ls') : ex PG E lo d k pc ls (.int x :: r) μ = ex PG E lo d k (pc + 1) ls' r μ := by
  rw [x_eq hk h, ← hl]; simp only [rBody, oI]; exact if_pos (Nat.le_of_ble_eq_true hn)
theorem x_lstore (hk : pIns PG k = lkp T) (h : lkp T pc = some (.lstore i, 2)) (hn : Nat.blt (i + 1) ls.length = true) (hl : sL2 ls i (.long lx) = ls') : ex PG E lo d k pc ls (.long lx :: r) μ = ex PG E lo d k (pc + 2) ls' r μ := by
  rw [x_eq hk h, ← hl]; simp only [rBody, oL]; exact if_pos (Nat.le_of_ble_eq_true hn)
theorem x_lstore_n (hk : pIns PG k = lkp T) {n : Fin 4} (h : lkp T pc = some (.lstore_n n, 1)) (hn : Nat.blt ((n : Nat) + 1) ls.length = true) (hl : sL2 ls n (.long lx) = ls') : ex PG E lo d k pc ls (.long lx :: r) μ = ex PG E lo d k (pc + 1) ls' r μ := by
  rw [x_eq hk h, ← hl]; simp only [rBody, oL]; exact if_pos (Nat.le_of_ble_eq_true hn)
theorem x_astore (hk : pIns PG k = lkp T) (h : lkp T pc = some (.astore i, 2)) (hn : Nat.blt i ls.length = true) (hl : sL1 ls i (.ref a) = ls') : ex PG E lo d k pc ls (.ref a :: r) μ = ex PG E lo d k (pc + 2) ls' r μ := by
  rw [x_eq hk h, ← hl]; simp only [rBody, oR]; exact if_pos (Nat.le_of_ble_eq_true hn)
theorem x_astore_n (hk : pIns PG k = lkp T) {n : Fin 4} (h : lkp T pc = some (.astore_n n, 1)) (hn : Nat.blt n ls.length = true) (hl : sL1 ls n (.ref a) = ls') : ex PG E lo d k pc ls (.ref a :: r) μ = ex PG E lo d k (pc + 1) ls' r μ := by
  rw [x_eq hk h, ← hl]; simp only [rBody, oR]; exact if_pos (Nat.le_of_ble_eq_true hn)
theorem x_iinc (hk : pIns PG k = lkp T) {n : Int} (h : lkp T pc = some (.iinc i n, 3)) (hn : Nat.blt i ls.length = true) (hg : gL ls i = some (.int x)) (hv : Int32.ofInt n = y) (hl : sL1 ls i (.int (x + y)) = ls') : ex PG E lo d k pc ls st μ = ex PG E lo d k (pc + 3) ls' st μ := by
  rw [x_eq hk h, ← hl, ← hv]; simp only [rBody, hg, Option.bind_some, oI]; exact if_pos (Nat.le_of_ble_eq_true hn)
theorem x_iadd (hk : pIns PG k = lkp T) (h : lkp T pc = some (.iadd, 1)) : ex PG E lo d k pc ls (.int y :: .int x :: r) μ = ex PG E lo d k (pc + 1) ls (.int (x + y) :: r) μ := by rw [x_eq hk h]; rfl
theorem x_isub (hk : pIns PG k = lkp T) (h : lkp T pc = some (.isub, 1)) : ex PG E lo d k pc ls (.int y :: .int x :: r) μ = ex PG E lo d k (pc + 1) ls (.int (x - y) :: r) μ := by rw [x_eq hk h]; rfl
theorem x_imul (hk : pIns PG k = lkp T) (h : lkp T pc = some (.imul, 1)) : ex PG E lo d k pc ls (.int y :: .int x :: r) μ = ex PG E lo d k (pc + 1) ls (.int (x * y) :: r) μ := by rw [x_eq hk h]; rfl
theorem x_iand (hk : pIns PG k = lkp T) (h : lkp T pc = some (.iand, 1)) : ex PG E lo d k pc ls (.int y :: .int x :: r) μ = ex PG E lo d k (pc + 1) ls (.int (x &&& y) :: r) μ := by rw [x_eq hk h]; rfl
theorem x_ior (hk : pIns PG k = lkp T) (h : lkp T pc = some (.ior, 1)) : ex PG E lo d k pc ls (.int y :: .int x :: r) μ = ex PG E lo d k (pc + 1) ls (.int (x ||| y) :: r) μ := by rw [x_eq hk h]; rfl
theorem x_ixor (hk : pIns PG k = lkp T) (h : lkp T pc = some (.ixor, 1)) : ex PG E lo d k pc ls (.int y :: .int x :: r) μ = ex PG E lo d k (pc + 1) ls (.int (x ^^^ y) :: r) μ := by rw [x_eq hk h]; rfl
theorem x_ishl (hk : pIns PG k = lkp T) (h : lkp T pc = some (.ishl, 1)) : ex PG E lo d k pc ls (.int y :: .int x :: r) μ = ex PG E lo d k (pc + 1) ls (.int (x <<< (y &&& 31)) :: r) μ := by rw [x_eq hk h]; rfl
theorem x_ishr (hk : pIns PG k = lkp T) (h : lkp T pc = some (.ishr, 1)) : ex PG E lo d k pc ls (.int y :: .int x :: r) μ = ex PG E lo d k (pc + 1) ls (.int (x >>> (y &&& 31)) :: r) μ := by rw [x_eq hk h]; rfl
theorem x_iushr (hk : pIns PG k = lkp T) (h : lkp T pc = some (.iushr, 1)) : ex PG E lo d k pc ls (.int y :: .int x :: r) μ = ex PG E lo d k (pc + 1) ls (.int ((x.toUInt32 >>> (y.toUInt32 &&& Int32.toUInt32 31)).toInt32) :: r) μ := by rw [x_eq hk h]; rfl
theorem x_idiv (hk : pIns PG k = lkp T) (h : lkp T pc = some (.idiv, 1)) : ex PG E lo d k pc ls (.int y :: .int x :: r) μ = nz y (ex PG E lo d k (pc + 1) ls (.int (x / y) :: r) μ) := by rw [x_eq hk h]; rfl
theorem x_irem (hk : pIns PG k = lkp T) (h : lkp T pc = some (.irem, 1)) : ex PG E lo d k pc ls (.int y :: .int x :: r) μ = nz y (ex PG E lo d k (pc + 1) ls (.int (x - x / y * y) :: r) μ) := by rw [x_eq hk h]; rfl
theorem x_ladd (hk : pIns PG k = lkp T) (h : lkp T pc = some (.ladd, 1)) : ex PG E lo d k pc ls (.long ly :: .long lx :: r) μ = ex PG E lo d k (pc + 1) ls (.long (lx + ly) :: r) μ := by rw [x_eq hk h]; rfl
theorem x_lsub (hk : pIns PG k = lkp T) (h : lkp T pc = some (.lsub, 1)) : ex PG E lo d k pc ls (.long ly :: .long lx :: r) μ = ex PG E lo d k (pc + 1) ls (.long (lx - ly) :: r) μ := by rw [x_eq hk h]; rfl
theorem x_lmul (hk : pIns PG k = lkp T) (h : lkp T pc = some (.lmul, 1)) : ex PG E lo d k pc ls (.long ly :: .long lx :: r) μ = ex PG E lo d k (pc + 1) ls (.long (lx * ly) :: r) μ := by rw [x_eq hk h]; rfl
theorem x_lcmp (hk : pIns PG k = lkp T) (h : lkp T pc = some (.lcmp, 1)) : ex PG E lo d k pc ls (.long ly :: .long lx :: r) μ = ex PG E lo d k (pc + 1) ls (.int (lg_cmp lx ly) :: r) μ := by rw [x_eq hk h]; rfl
theorem x_i2l (hk : pIns PG k = lkp T) (h : lkp T pc = some (.i2l, 1)) : ex PG E lo d k pc ls (.int x :: r) μ = ex PG E lo d k (pc + 1) ls (.long x.toInt64 :: r) μ := by rw [x_eq hk h]; rfl
theorem x_i2b (hk : pIns PG k = lkp T) (h : lkp T pc = some (.i2b, 1)) : ex PG E lo d k pc ls (.int x :: r) μ = ex PG E lo d k (pc + 1) ls (.int x.toInt8.toInt32 :: r) μ := by rw [x_eq hk h]; rfl
theorem x_i2c (hk : pIns PG k = lkp T) (h : lkp T pc = some (.i2c, 1)) : ex PG E lo d k pc ls (.int x :: r) μ = ex PG E lo d k (pc + 1) ls (.int (x.toUInt32 % 65536).toInt32 :: r) μ := by rw [x_eq hk h]; rfl
theorem x_pop (hk : pIns PG k = lkp T) {v : Value} (h : lkp T pc = some (.pop, 1)) (hc : Nat.beq v.category 1 = true) : ex PG E lo d k pc ls (v :: r) μ = ex PG E lo d k (pc + 1) ls r μ := by rw [x_eq hk h]; exact if_pos (Nat.eq_of_beq_eq_true hc)
theorem x_dup (hk : pIns PG k = lkp T) {v : Value} (h : lkp T pc = some (.dup, 1)) (hc : Nat.beq v.category 1 = true) : ex PG E lo d k pc ls (v :: r) μ = ex PG E lo d k (pc + 1) ls (v :: v :: r) μ := by rw [x_eq hk h]; exact if_pos (Nat.eq_of_beq_eq_true hc)
theorem x_dup2 (hk : pIns PG k = lkp T) {v w : Value} (h : lkp T pc = some (.dup2, 1)) (hc : Nat.beq v.category 1 = true) (hd : Nat.beq w.category 1 = true) : ex PG E lo d k pc ls (v :: w :: r) μ = ex PG E lo d k (pc + 1) ls (v :: w :: v :: w :: r) μ := by rw [x_eq hk h]; exact if_pos ⟨Nat.eq_of_beq_eq_true hc, Nat.eq_of_beq_eq_true hd⟩
theorem x_goto (hk : pIns PG k = lkp T) {off : Int} {t : Nat} (h : lkp T pc = some (.goto off, 3)) (ht : (pc : Int) + off = (t : Int)) : ex PG E lo d k pc ls st μ = ex PG E lo d k t ls st μ := by
  rw [x_eq hk h]; exact jmp_eq ht _
theorem x_if (hk : pIns PG k = lkp T) {c : ClassFile.Cond} {off : Int} {t : Nat} (h : lkp T pc = some (.ifCond c off, 3)) (ht : (pc : Int) + off = (t : Int)) : ex PG E lo d k pc ls (.int x :: r) μ = if rCmp c x 0 = true then ex PG E lo d k t ls r μ else ex PG E lo d k (pc + 3) ls r μ := by
  rw [x_eq hk h]; exact jmp_eq ht _
theorem x_icmp (hk : pIns PG k = lkp T) {c : ClassFile.Cond} {off : Int} {t : Nat} (h : lkp T pc = some (.if_icmp c off, 3)) (ht : (pc : Int) + off = (t : Int)) : ex PG E lo d k pc ls (.int y :: .int x :: r) μ = if rCmp c x y = true then ex PG E lo d k t ls r μ else ex PG E lo d k (pc + 3) ls r μ := by
  rw [x_eq hk h]; exact jmp_eq ht _
theorem dec_if {α : Type} {p : Prop} [Decidable p] {u v : α} : (if decide p = true then u else v) = if p then u else v := by
  by_cases h : p
  · rw [if_pos h, if_pos (decide_eq_true h)]
  · rw [if_neg h, if_neg (fun q => h (of_decide_eq_true q))]
theorem dec_ifn {α : Type} {p : Prop} [Decidable p] {u v : α} : (if decide (¬ p) = true then u else v) = if p then v else u := by
  by_cases h : p
  · rw [if_pos h, if_neg (fun q => (of_decide_eq_true q) h)]
  · rw [if_neg h, if_pos (decide_eq_true h)]
theorem x_ifeq (hk : pIns PG k = lkp T) {off : Int} {t : Nat} (h : lkp T pc = some (.ifCond .eq off, 3)) (ht : (pc : Int) + off = (t : Int)) : ex PG E lo d k pc ls (.int x :: r) μ = if x = 0 then ex PG E lo d k t ls r μ else ex PG E lo d k (pc + 3) ls r μ := (x_if hk h ht).trans dec_if
theorem x_ifne (hk : pIns PG k = lkp T) {off : Int} {t : Nat} (h : lkp T pc = some (.ifCond .ne off, 3)) (ht : (pc : Int) + off = (t : Int)) : ex PG E lo d k pc ls (.int x :: r) μ = if x = 0 then ex PG E lo d k (pc + 3) ls r μ else ex PG E lo d k t ls r μ := (x_if hk h ht).trans dec_ifn
theorem x_iflt (hk : pIns PG k = lkp T) {off : Int} {t : Nat} (h : lkp T pc = some (.ifCond .lt off, 3)) (ht : (pc : Int) + off = (t : Int)) : ex PG E lo d k pc ls (.int x :: r) μ = if x < 0 then ex PG E lo d k t ls r μ else ex PG E lo d k (pc + 3) ls r μ := (x_if hk h ht).trans dec_if
theorem x_ifge (hk : pIns PG k = lkp T) {off : Int} {t : Nat} (h : lkp T pc = some (.ifCond .ge off, 3)) (ht : (pc : Int) + off = (t : Int)) : ex PG E lo d k pc ls (.int x :: r) μ = if 0 ≤ x then ex PG E lo d k t ls r μ else ex PG E lo d k (pc + 3) ls r μ := (x_if hk h ht).trans dec_if
theorem x_ifgt (hk : pIns PG k = lkp T) {off : Int} {t : Nat} (h : lkp T pc = some (.ifCond .gt off, 3)) (ht : (pc : Int) + off = (t : Int)) : ex PG E lo d k pc ls (.int x :: r) μ = if 0 < x then ex PG E lo d k t ls r μ else ex PG E lo d k (pc + 3) ls r μ := (x_if hk h ht).trans dec_if
theorem x_ifle (hk : pIns PG k = lkp T) {off : Int} {t : Nat} (h : lkp T pc = some (.ifCond .le off, 3)) (ht : (pc : Int) + off = (t : Int)) : ex PG E lo d k pc ls (.int x :: r) μ = if x ≤ 0 then ex PG E lo d k t ls r μ else ex PG E lo d k (pc + 3) ls r μ := (x_if hk h ht).trans dec_if
theorem x_cmpeq (hk : pIns PG k = lkp T) {off : Int} {t : Nat} (h : lkp T pc = some (.if_icmp .eq off, 3)) (ht : (pc : Int) + off = (t : Int)) : ex PG E lo d k pc ls (.int y :: .int x :: r) μ = if x = y then ex PG E lo d k t ls r μ else ex PG E lo d k (pc + 3) ls r μ := (x_icmp hk h ht).trans dec_if
theorem x_cmpne (hk : pIns PG k = lkp T) {off : Int} {t : Nat} (h : lkp T pc = some (.if_icmp .ne off, 3)) (ht : (pc : Int) + off = (t : Int)) : ex PG E lo d k pc ls (.int y :: .int x :: r) μ = if x = y then ex PG E lo d k (pc + 3) ls r μ else ex PG E lo d k t ls r μ := (x_icmp hk h ht).trans dec_ifn
theorem x_cmplt (hk : pIns PG k = lkp T) {off : Int} {t : Nat} (h : lkp T pc = some (.if_icmp .lt off, 3)) (ht : (pc : Int) + off = (t : Int)) : ex PG E lo d k pc ls (.int y :: .int x :: r) μ = if x < y then ex PG E lo d k t ls r μ else ex PG E lo d k (pc + 3) ls r μ := (x_icmp hk h ht).trans dec_if
theorem x_cmpge (hk : pIns PG k = lkp T) {off : Int} {t : Nat} (h : lkp T pc = some (.if_icmp .ge off, 3)) (ht : (pc : Int) + off = (t : Int)) : ex PG E lo d k pc ls (.int y :: .int x :: r) μ = if y ≤ x then ex PG E lo d k t ls r μ else ex PG E lo d k (pc + 3) ls r μ := (x_icmp hk h ht).trans dec_if
theorem x_cmpgt (hk : pIns PG k = lkp T) {off : Int} {t : Nat} (h : lkp T pc = some (.if_icmp .gt off, 3)) (ht : (pc : Int) + off = (t : Int)) : ex PG E lo d k pc ls (.int y :: .int x :: r) μ = if y < x then ex PG E lo d k t ls r μ else ex PG E lo d k (pc + 3) ls r μ := (x_icmp hk h ht).trans dec_if
theorem x_cmple (hk : pIns PG k = lkp T) {off : Int} {t : Nat} (h : lkp T pc = some (.if_icmp .le off, 3)) (ht : (pc : Int) + off = (t : Int)) : ex PG E lo d k pc ls (.int y :: .int x :: r) μ = if x ≤ y then ex PG E lo d k t ls r μ else ex PG E lo d k (pc + 3) ls r μ := (x_icmp hk h ht).trans dec_if
theorem x_ifnn (hk : pIns PG k = lkp T) {off : Int} {t : Nat} (h : lkp T pc = some (.ifnonnull off, 3)) (ht : (pc : Int) + off = (t : Int)) : ex PG E lo d k pc ls (.ref a :: r) μ = ex PG E lo d k t ls r μ := by
  rw [x_eq hk h]; exact jmp_eq ht _
theorem x_ifnnN (hk : pIns PG k = lkp T) {off : Int} {t : Nat} (h : lkp T pc = some (.ifnonnull off, 3)) (ht : (pc : Int) + off = (t : Int)) : ex PG E lo d k pc ls (.null :: r) μ = ex PG E lo d k (pc + 3) ls r μ := by
  rw [x_eq hk h]; exact jmp_eq ht _
theorem x_getI (hk : pIns PG k = lkp T) (h : lkp T pc = some (.getfield i, 3)) {c f : Nat} (hf : pFld PG k i = some (c, f)) (hc : Nat.beq c 13 = false) (ht : ∀ q s z, rTv (pTyF PG c f) q s z = .int q) : ex PG E lo d k pc ls (.ref a :: r) μ = gO μ a c (ex PG E lo d k (pc + 3) ls (.int (ri μ a f) :: r) μ) := by
  rw [x_eq hk h]; simp only [rBody, oR, hf, Option.bind_some, ht]; exact if_neg (Nat.ne_of_beq_eq_false hc)
theorem x_getR (hk : pIns PG k = lkp T) (h : lkp T pc = some (.getfield i, 3)) {c f : Nat} (hf : pFld PG k i = some (c, f)) (hc : Nat.beq c 13 = false) (ht : ∀ q s z, rTv (pTyF PG c f) q s z = va_rf s) : ex PG E lo d k pc ls (.ref a :: r) μ = gO μ a c (gR (rr μ a f) (fun b => ex PG E lo d k (pc + 3) ls (.ref b :: r) μ) (ex PG E lo d k (pc + 3) ls (.null :: r) μ)) := by
  rw [x_eq hk h]; simp only [rBody, oR, hf, Option.bind_some, ht]
  rw [if_neg (Nat.ne_of_beq_eq_false hc)]
  unfold gO gR
  cases rr μ a f <;> rfl
theorem x_getSV (hk : pIns PG k = lkp T) (h : lkp T pc = some (.getfield i, 3)) (hf : pFld PG k i = some (13, 0)) : ex PG E lo d k pc ls (.ref a :: r) μ = (strNo E a).bind fun n => ex PG E lo d k (pc + 3) ls (.ref (E.2 (n + 100)) :: r) μ := by
  rw [x_eq hk h]; simp only [rBody, oR, hf, Option.bind_some]; rfl
theorem x_getSC (hk : pIns PG k = lkp T) (h : lkp T pc = some (.getfield i, 3)) (hf : pFld PG k i = some (13, 1)) : ex PG E lo d k pc ls (.ref a :: r) μ = (strNo E a).bind fun _ => ex PG E lo d k (pc + 3) ls (.int 0 :: r) μ := by
  rw [x_eq hk h]; simp only [rBody, oR, hf, Option.bind_some]; rfl
theorem x_invT (hk : pIns PG k = lkp T) {j n : Nat} {As : List Value} (h : lkp T pc = some (.invokevirtual i, 3)) (hc : pCal PG k i = some (j, n, 8)) (hp : popN st n = some (As, .ref b :: r)) (hw : Nat.ble (stW r) 8 = true) : ex PG E lo d k pc ls st μ = (strNo E b).bind fun _ => (cl E lo d j (.ref b :: As) μ).bind fun z => ex PG E lo d k (pc + 3) ls (z.1.toList ++ r) z.2 := by
  rw [x_eq hk h]; simp only [rBody, rInv, hc, hp, Option.bind_some, oR]
  have hw := Nat.le_of_ble_eq_true hw
  cases hs : strNo E b with
  | none => simp
  | some q => simp [hw]
theorem x_putI (hk : pIns PG k = lkp T) (h : lkp T pc = some (.putfield i, 3)) {c f : Nat} (hf : pPut PG k i = some (c, f)) (ht : pTyF PG c f = .int) : ex PG E lo d k pc ls (.int x :: .ref a :: r) μ = gP lo μ a c (ex PG E lo d k (pc + 3) ls r (wi μ a f x)) := by
  rw [x_eq hk h]; simp only [rBody, oVR, hf, Option.bind_some, ht]; rfl
theorem x_putZ (hk : pIns PG k = lkp T) (h : lkp T pc = some (.putfield i, 3)) {c f : Nat} (hf : pPut PG k i = some (c, f)) (ht : pTyF PG c f = .boolean) : ex PG E lo d k pc ls (.int x :: .ref a :: r) μ = gP lo μ a c (if x = 0 ∨ x = 1 then ex PG E lo d k (pc + 3) ls r (wi μ a f x) else none) := by
  rw [x_eq hk h]; simp only [rBody, oVR, hf, Option.bind_some, ht, rPut]
  unfold gP
  by_cases h0 : x = 0 ∨ x = 1
  · rw [if_pos h0, if_pos h0]; rfl
  · rw [if_neg h0, if_neg h0]; rfl
theorem x_putR (hk : pIns PG k = lkp T) (h : lkp T pc = some (.putfield i, 3)) {c f : Nat} (hf : pPut PG k i = some (c, f)) (ht : ∀ μ a j b, rPut (pTyF PG c f) μ a j (.ref b) = some (wr μ a j (some b))) : ex PG E lo d k pc ls (.ref b :: .ref a :: r) μ = gP lo μ a c (ex PG E lo d k (pc + 3) ls r (wr μ a f (some b))) := by
  rw [x_eq hk h]; simp only [rBody, oVR, hf, Option.bind_some, ht]; rfl
theorem x_getst (hk : pIns PG k = lkp T) (h : lkp T pc = some (.getstatic i, 3)) {q : Nat} (hs : pSta PG k i = some q) : ex PG E lo d k pc ls st μ = ex PG E lo d k (pc + 3) ls (E.1 q :: st) μ := by
  rw [x_eq hk h]; simp only [rBody, hs, Option.bind_some]
theorem kd3 {α : Type} (o : Option rKd) (f : Nat → Option α) (t : Nat) : (match o with
    | some (.inr (t', n)) => if t' = t then f n else none
    | _ => none) = match o with
    | some (.inr q) => if q.1 = t then f q.2 else none
    | _ => none := by
  rcases o with _ | (c | ⟨t', n⟩) <;> rfl
theorem x_iald (hk : pIns PG k = lkp T) (h : lkp T pc = some (.iaload, 1)) : ex PG E lo d k pc ls (.int x :: .ref a :: r) μ = rdA μ a 0 x (ex PG E lo d k (pc + 1) ls (.int (ri μ a x.toNatClampNeg) :: r) μ) := by
  rw [x_eq hk h]; simp only [rBody, oIR]; unfold rdA
  rcases rk μ a with _ | (c | ⟨_ | t, n⟩) <;> simp
theorem x_lald (hk : pIns PG k = lkp T) (h : lkp T pc = some (.laload, 1)) : ex PG E lo d k pc ls (.int x :: .ref a :: r) μ = rdA μ a 3 x (ex PG E lo d k (pc + 1) ls (.long (rl μ a x.toNatClampNeg) :: r) μ) := by
  rw [x_eq hk h]; simp only [rBody, oIR]; unfold rdA
  rcases rk μ a with _ | (c | ⟨_ | _ | _ | _ | t, n⟩) <;> simp
theorem x_bald (hk : pIns PG k = lkp T) (h : lkp T pc = some (.baload, 1)) : ex PG E lo d k pc ls (.int x :: .ref a :: r) μ = rdB μ a x (ex PG E lo d k (pc + 1) ls (.int (ri μ a x.toNatClampNeg) :: r) μ) := by
  rw [x_eq hk h]; simp only [rBody, oIR]; unfold rdB
  rcases rk μ a with _ | (c | ⟨_ | _ | _ | t, n⟩) <;> simp
theorem x_aald (hk : pIns PG k = lkp T) (h : lkp T pc = some (.aaload, 1)) : ex PG E lo d k pc ls (.int x :: .ref a :: r) μ = rdR μ a x (gR (rr μ a x.toNatClampNeg) (fun b => ex PG E lo d k (pc + 1) ls (.ref b :: r) μ) (ex PG E lo d k (pc + 1) ls (.null :: r) μ)) := by
  rw [x_eq hk h]; simp only [rBody, oIR]; unfold rdR gR
  rcases rk μ a with _ | (c | ⟨_ | _ | _ | _ | t, n⟩) <;> first | (simp; done) | (cases rr μ a x.toNatClampNeg <;> simp [va_rf])
theorem x_iast (hk : pIns PG k = lkp T) (h : lkp T pc = some (.iastore, 1)) : ex PG E lo d k pc ls (.int y :: .int x :: .ref a :: r) μ = wrA lo μ a 0 x (ex PG E lo d k (pc + 1) ls r (wi μ a x.toNatClampNeg y)) := by
  rw [x_eq hk h]; simp only [rBody, oIIR]; unfold wrA
  rcases rk μ a with _ | (c | ⟨_ | t, n⟩) <;> simp
theorem x_last (hk : pIns PG k = lkp T) (h : lkp T pc = some (.lastore, 1)) : ex PG E lo d k pc ls (.long ly :: .int x :: .ref a :: r) μ = wrA lo μ a 3 x (ex PG E lo d k (pc + 1) ls r (wl μ a x.toNatClampNeg ly)) := by
  rw [x_eq hk h]; simp only [rBody, oLIR]; unfold wrA
  rcases rk μ a with _ | (c | ⟨_ | _ | _ | _ | t, n⟩) <;> simp
theorem x_bast (hk : pIns PG k = lkp T) (h : lkp T pc = some (.bastore, 1)) : ex PG E lo d k pc ls (.int y :: .int x :: .ref a :: r) μ = wrB lo μ a x (ex PG E lo d k (pc + 1) ls r (wi μ a x.toNatClampNeg y.toInt8.toInt32)) (ex PG E lo d k (pc + 1) ls r (wi μ a x.toNatClampNeg (y &&& 1))) := by
  rw [x_eq hk h]; simp only [rBody, oIIR]; unfold wrB
  rcases rk μ a with _ | (c | ⟨_ | _ | _ | t, n⟩) <;> simp
theorem x_aast (hk : pIns PG k = lkp T) (h : lkp T pc = some (.aastore, 1)) : ex PG E lo d k pc ls (.ref b :: .int x :: .ref a :: r) μ = wrR lo μ a x b (ex PG E lo d k (pc + 1) ls r (wr μ a x.toNatClampNeg (some b))) := by
  rw [x_eq hk h]; simp only [rBody, oRIR]; unfold wrR
  rcases rk μ a with _ | (c | ⟨_ | _ | _ | _ | t, n⟩) <;> simp
theorem x_alen (hk : pIns PG k = lkp T) (h : lkp T pc = some (.arraylength, 1)) : ex PG E lo d k pc ls (.ref a :: r) μ = alen μ a (fun n => ex PG E lo d k (pc + 1) ls (.int (Int32.ofNat n) :: r) μ) := by
  rw [x_eq hk h]; simp only [rBody, oR]; unfold alen
  rcases rk μ a with _ | (c | q) <;> rfl
theorem x_newa (hk : pIns PG k = lkp T) {ty : ArrayType} {t n : Nat} (h : lkp T pc = some (.newarray ty, 2)) (ht : rAt0 ty = some t) (h0 : decide (0 ≤ x) = true) (hn : x.toNatClampNeg = n) (hm : Nat.ble n 1000000 = true) : ex PG E lo d k pc ls (.int x :: r) μ = ex PG E lo d k (pc + 2) ls (.ref (rz μ) :: r) (nw μ (.inr (t, n)) n) := by
  rw [x_eq hk h]; simp only [rBody, oI, ht, Option.bind_some]; rw [hn]; exact if_pos ⟨of_decide_eq_true h0, Nat.le_of_ble_eq_true hm⟩
theorem x_anew (hk : pIns PG k = lkp T) {t n : Nat} (h : lkp T pc = some (.anewarray i, 3)) (ht : pAnw PG k i = some t) (h0 : decide (0 ≤ x) = true) (hn : x.toNatClampNeg = n) (hm : Nat.ble n 1000000 = true) : ex PG E lo d k pc ls (.int x :: r) μ = ex PG E lo d k (pc + 3) ls (.ref (rz μ) :: r) (nw μ (.inr (t + 4, n)) n) := by
  rw [x_eq hk h]; simp only [rBody, oI, ht, Option.bind_some]; rw [hn]; exact if_pos ⟨of_decide_eq_true h0, Nat.le_of_ble_eq_true hm⟩
theorem x_new (hk : pIns PG k = lkp T) {c n : Nat} (h : lkp T pc = some (.new i, 3)) (hc : pNew PG k i = some c) (hn : pNfl PG c = n) : ex PG E lo d k pc ls st μ = ex PG E lo d k (pc + 3) ls (.ref (rz μ) :: st) (nw μ (.inl c) n) := by
  rw [x_eq hk h]; simp only [rBody, hc, Option.bind_some, hn]
theorem x_invV (hk : pIns PG k = lkp T) {j n c : Nat} {As : List Value} (h : lkp T pc = some (.invokevirtual i, 3)) (hc : pCal PG k i = some (j, n, 0)) (hp : popN st n = some (As, .ref b :: r)) (hm : pMcl PG j = c) (hw : Nat.ble (stW r) 8 = true) : ex PG E lo d k pc ls st μ = gO μ b c ((cl E lo d j (.ref b :: As) μ).bind fun z => ex PG E lo d k (pc + 3) ls (z.1.toList ++ r) z.2) := by
  rw [x_eq hk h]; simp only [rBody, rInv, hc, hp, Option.bind_some, oR, hm]; unfold gO
  by_cases h0 : rk μ b = some (.inl c)
  · rw [if_pos h0, if_pos ⟨trivial, h0, Nat.le_of_ble_eq_true hw⟩]
  · rw [if_neg h0, if_neg (fun q => h0 q.2.1)]
theorem x_invI (hk : pIns PG k = lkp T) {j n m : Nat} {As : List Value} (h : lkp T pc = some (.invokespecial i, 3)) (hm : m = 2 ∨ m = 3) (hc : pCal PG k i = some (j, n, m)) (hp : popN st n = some (As, .ref b :: r)) (hw : Nat.ble (stW r) 8 = true) : ex PG E lo d k pc ls st μ = (cl E lo d j (.ref b :: As) μ).bind fun z => ex PG E lo d k (pc + 3) ls (z.1.toList ++ r) z.2 := by
  rw [x_eq hk h]
  rcases hm with rfl | rfl
  all_goals
    simp only [rBody, rInv, hc, hp, Option.bind_some, oR]
    rw [if_pos (⟨trivial, Nat.le_of_ble_eq_true hw⟩ : True ∧ _)]
theorem x_invO (hk : pIns PG k = lkp T) {j n : Nat} (h : lkp T pc = some (.invokespecial i, 3)) (hc : pCal PG k i = some (j, n, 4)) (hw : Nat.ble (stW r) 8 = true) : ex PG E lo d k pc ls (.ref b :: r) μ = ex PG E lo d k (pc + 3) ls r μ := by
  rw [x_eq hk h]; simp only [rBody, rInv, hc, oR]; rw [if_pos (⟨trivial, Nat.le_of_ble_eq_true hw⟩ : True ∧ _)]
theorem x_invS (hk : pIns PG k = lkp T) {j n : Nat} {As : List Value} (h : lkp T pc = some (.invokestatic i, 3)) (hc : pCal PG k i = some (j, n, 1)) (hp : popN st n = some (As, r)) (hw : Nat.ble (stW r) 8 = true) : ex PG E lo d k pc ls st μ = (cl E lo d j As μ).bind fun z => ex PG E lo d k (pc + 3) ls (z.1.toList ++ r) z.2 := by
  rw [x_eq hk h]; simp only [rBody, hc, hp, Option.bind_some]; rw [if_pos (Nat.le_of_ble_eq_true hw)]
theorem x_max (hk : pIns PG k = lkp T) {j n : Nat} (h : lkp T pc = some (.invokestatic i, 3)) (hc : pCal PG k i = some (j, n, 6)) (hw : Nat.ble (stW r) 8 = true) : ex PG E lo d k pc ls (.int y :: .int x :: r) μ = ex PG E lo d k (pc + 3) ls (.int (if x < y then y else x) :: r) μ := by
  rw [x_eq hk h]; simp only [rBody, hc, oII]; rw [if_pos (Nat.le_of_ble_eq_true hw)]
theorem x_min (hk : pIns PG k = lkp T) {j n : Nat} (h : lkp T pc = some (.invokestatic i, 3)) (hc : pCal PG k i = some (j, n, 7)) (hw : Nat.ble (stW r) 8 = true) : ex PG E lo d k pc ls (.int y :: .int x :: r) μ = ex PG E lo d k (pc + 3) ls (.int (if y < x then y else x) :: r) μ := by
  rw [x_eq hk h]; simp only [rBody, hc, oII]; rw [if_pos (Nat.le_of_ble_eq_true hw)]
theorem x_copy (hk : pIns PG k = lkp T) {j m : Nat} {n dp sp : Int32} (h : lkp T pc = some (.invokestatic i, 3)) (hc : pCal PG k i = some (j, m, 5)) (hw : Nat.ble (stW r) 8 = true) : ex PG E lo d k pc ls (.int n :: .int dp :: .ref b :: .int sp :: .ref a :: r) μ = acp lo μ a sp b dp n (ex PG E lo d k (pc + 3) ls r (cp μ a sp.toNatClampNeg b dp.toNatClampNeg n.toNatClampNeg)) := by
  rw [x_eq hk h]; simp only [rBody, hc, oCp]; unfold acp
  have hw := Nat.le_of_ble_eq_true hw
  rcases rk μ a with _ | (ca | ⟨_ | _ | ta, na⟩) <;> rcases rk μ b with _ | (cb | ⟨_ | _ | tb, nb⟩) <;> simp [hw]
theorem x_iret (hk : pIns PG k = lkp T) (h : lkp T pc = some (.ireturn, 1)) (hr : pRet PG k = some .int) : ex PG E lo d k pc ls [.int x] μ = some (some (.int x), μ) := by
  rw [x_eq hk h]; simp only [rBody, hr]
theorem x_zret (hk : pIns PG k = lkp T) (h : lkp T pc = some (.ireturn, 1)) (hr : pRet PG k = some .boolean) : ex PG E lo d k pc ls [.int x] μ = if x = 0 ∨ x = 1 then some (some (.int x), μ) else none := by
  rw [x_eq hk h]; simp only [rBody, hr]
theorem x_cret (hk : pIns PG k = lkp T) (h : lkp T pc = some (.ireturn, 1)) (hr : pRet PG k = some .char) : ex PG E lo d k pc ls [.int x] μ = if narrow .char (.int x) = .int x then some (some (.int x), μ) else none := by
  rw [x_eq hk h]; simp only [rBody, hr]
theorem x_bret (hk : pIns PG k = lkp T) (h : lkp T pc = some (.ireturn, 1)) (hr : pRet PG k = some .byte) : ex PG E lo d k pc ls [.int x] μ = if narrow .byte (.int x) = .int x then some (some (.int x), μ) else none := by
  rw [x_eq hk h]; simp only [rBody, hr]
theorem x_lret (hk : pIns PG k = lkp T) (h : lkp T pc = some (.lreturn, 1)) (hr : pRet PG k = some .long) : ex PG E lo d k pc ls [.long lx] μ = some (some (.long lx), μ) := by
  rw [x_eq hk h]; simp only [rBody, hr]
theorem x_aret (hk : pIns PG k = lkp T) {nm : String} (h : lkp T pc = some (.areturn, 1)) (hr : pRet PG k = some (.object nm)) : ex PG E lo d k pc ls [.ref a] μ = some (some (.ref a), μ) := by
  rw [x_eq hk h]; simp only [rBody, hr]
theorem x_ret (hk : pIns PG k = lkp T) (h : lkp T pc = some (.return_, 1)) (hr : pRet PG k = none) : ex PG E lo d k pc ls [] μ = some (none, μ) := by
  rw [x_eq hk h]; simp only [rBody, hr]
theorem x_tsw (hk : pIns PG k = lkp T) {df u v : Int} {offs : Array Int} {len tf : Nat} {L : List Nat} (h : lkp T pc = some (.tableswitch df u v offs, len)) (hd : (pc : Int) + df = (tf : Int)) (hv : v = u + (L.length : Int) - 1) (ho : offs.toList.map (fun o => (pc : Int) + o) = L.map Int.ofNat) : ex PG E lo d k pc ls (.int x :: r) μ = tsw x u (L.map fun t => ex PG E lo d k t ls r μ) (ex PG E lo d k tf ls r μ) := by
  rw [x_eq hk h]; simp only [rBody, oI]; unfold tsw
  have hlen : (L.map fun t => ex PG E lo d k t ls r μ).length = L.length := by simp
  rw [hlen, jmp_eq hd]
  by_cases hc : x.toInt < u ∨ v < x.toInt
  · rw [if_pos hc, if_pos (by omega)]
  · rw [if_neg hc, if_neg (by omega)]
    have hol : offs.toList.length = L.length := by have := congrArg List.length ho; simpa using this
    have hi : (x.toInt - u).toNat < L.length := by omega
    have h1 : offs[(x.toInt - u).toNat]? = some (offs.toList[(x.toInt - u).toNat]'(by omega)) := by
      rw [← Array.getElem?_toList, List.getElem?_eq_getElem]
    rw [h1, Option.bind_some]
    have h2 : (pc : Int) + (offs.toList[(x.toInt - u).toNat]'(by omega)) = ((L[(x.toInt - u).toNat] : Nat) : Int) := by
      have h3 := congrArg (fun l : List Int => l[(x.toInt - u).toNat]?) ho
      rw [List.getElem?_map, List.getElem?_map, List.getElem?_eq_getElem (by omega), List.getElem?_eq_getElem hi] at h3
      exact Option.some.inj h3
    rw [jmp_eq h2, List.getElem?_map, List.getElem?_eq_getElem hi]
    rfl
end STEPS
