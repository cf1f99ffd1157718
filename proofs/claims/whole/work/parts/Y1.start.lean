/-! THE CLAIM OUT OF ONE WALK OF THE LAW'S BODY. Your part is whole_start (and what it stands on); all else here is the same for every law, but numbers. -/
def R_law : String := "FathomNightLaw"
def lw_P (b : Addr) (xs : List Int32) (args : Array Value) (s : State) : Prop := args = #[.ref b] ∧ s.IntsAt b xs ∧ xs.length ≤ 3584 ∧ (Jvm.Cond.and given_1 narrow_1).before args s = true
def lw_Q (_ : Array Value) (s : State) (o : Outcome) (t : State) : Prop := o = .returned (some (.int 1)) ∧ Framed s o t [] room_1.cells room_1.slots
def lw_Z (below : List Frame) (a : Array Value) (s : State) : State → Prop := fun t => ∃ o, t.status = .running ∧ Ended t below o ∧ lw_Q a s o t
/-- the law's own end, with 1 on the stack, nothing written that was there before, its room as the claim has it -/
theorem lw_ret {p : Program} {l : Launch} {e : Env} {s : State} {m : MethodId} {below : List Frame} {meth : Method} {c : Code} {b : Nat} (hx : p.tables.exec = Jvm.exec) (hb : c.code = code) (hr : meth.sig.returnType = ret) (hlocks : meth.locks = false) {pc : Nat} {H : Heap} {ls : Array Slot} (hdg : decode code pc = .ok (.ireturn, 1)) : W p l e room_1 s m #[Value.ref b] below meth c H [] room_1.cells room_1.slots (lw_Z below #[Value.ref b] s) (F0 m pc ls [.int 1]) := by
  intro T hT X
  obtain ⟨fs, hret, hrun, hended, hW, hframe⟩ := X.leave (v := some (.int 1)) (hlocks := hlocks) (fun h => by rw [hr] at h; cases h)
  have hmeth' : T.vm.method? m = some meth := X.method'
  refine ⟨T.setFrames fs, ?_, .returned (some (.int 1)), hrun, hended, rfl, ⟨_, rfl⟩, hW, hframe⟩
  jvm_step X.here [X.here.top, hx, hb, hdg, hmeth', hr, ret, narrow_b1]
  (try refine ⟨rfl, ?_⟩); (try refine ⟨rfl, ?_⟩)
  first | (intro acts; rw [hret _ acts rfl rfl rfl]) | rw [hret _ _ rfl rfl rfl]
  exact Steps.refl _
/-- what holds at the law's entry: the machine, the code, the tables' words (any of lw_tbl by 'hts w (by decide +kernel)'), the script of L ints xs at the cell b, what the Statement gives of the start (any of its parts by flat_of_before) -/
def lw_At (p : Program) (s : State) (m : MethodId) (meth : Method) (c : Code) (b L : Nat) (xs : Nat → Int32) : Prop :=
  p.tables.exec = Jvm.exec ∧ c.code = code ∧ meth.sig.returnType = ret ∧ c.maxLocals = 4 ∧ s.vm.findClass R_law = some m.cls ∧ (∀ w ∈ lw_tbl, w.before #[Value.ref b] s = true) ∧ va_X b L xs s s.heap ∧ b < s.heap.size ∧ meth.locks = false ∧ (Jvm.Cond.and given_1 narrow_1).before #[Value.ref b] s = true
/-! THE LAW'S START: the Statement's premises give E, the classes, the first memory; a run of the law gives the claim -/
def stA (q : Nat) : List Int32 := match q with
  | 0 => [1, 3, 1, 6, 6, 6, 6, 2, 2, 2, 1, 1, 1, 1, 2, 0, 2, 1, 0, 1, 1, 1]
  | 1 => [0, 10, 16, 20]
  | 2 => [0, 1, 4, 5, 5, 5, 5, 11, 11, 13, 15, 16, 17, 18, 19, 21, 21, 23, 24, 24, 25, 25]
  | 3 => [1, 0, 0, 1, 0, 0, 0, 0, 1, 1, 0, 0, 0, 0, 0, 0, 1, 0, 0, 0, 0, 0, 0, 0, 1, 0]
  | 4 => [8, 7, 7, 9, 7, 7, 3, 35, 36, 9, 60, 8, 35, 8, 8, 60, 999, 99, 7, 8, 9, 7, 35, 7, 35, 8]
  | _ => []
def sBy (q : Nat) : List Int32 := match q with
  | 0 => [104, 111, 117, 115, 101, 115, 32, 100, 111, 111, 114, 32, 99, 97, 116, 32, 112, 108, 97, 105, 110, 32, 109, 111, 116, 104, 101, 114, 32, 99, 104, 105, 108, 100, 32, 114, 105, 99, 104, 32, 119, 105, 110, 101, 32, 112, 111, 112, 112, 121, 32, 115, 116, 97, 110, 100, 115]
  | 1 => [109, 97, 114, 107, 32, 99, 97, 112, 32, 102, 105, 110, 101, 32, 102, 114, 101, 101, 32, 114, 97, 116, 101, 32, 115, 104, 97, 114, 101, 100]
  | 2 => [98, 101, 103, 105, 110, 32, 103, 111, 32, 115, 111, 117, 110, 100, 32, 119, 97, 105, 116]
  | 3 => [99, 97, 117, 103, 104, 116, 32, 113, 117, 105, 101, 116]
  | _ => []
/-- the first memory -/
def St0 (E : (Nat → Value) × (Nat → Nat)) (lo b L : Nat) (xs : Nat → Int32) (μ : rM) : Prop :=
  rz μ = lo ∧ b < lo ∧ rk μ b = some (.inr (0, L)) ∧ (∀ j, j < L → ri μ b j = xs j) ∧
  (∀ q, q < 5 → ∃ t, E.1 q = .ref t ∧ t < lo ∧ rk μ t = some (.inr (0, (stA q).length)) ∧ ∀ j, j < (stA q).length → ri μ t j = (stA q).getD j 0) ∧
  E.1 5 = .int 1 ∧ (E.1 6).category = 1 ∧
  (∀ q, q < 4 → E.2 (q + 100) < lo ∧ rk μ (E.2 (q + 100)) = some (.inr (1, (sBy q).length)) ∧ ∀ j, j < (sBy q).length → ri μ (E.2 (q + 100)) j = (sBy q).getD j 0) ∧
  (∀ q r, q < 4 → r < 4 → E.2 q = E.2 r → q = r) ∧ (∀ a, lo ≤ a → rk μ a = none) ∧ ru μ = 0
/-- what is left: the law's run, on the abstract machine -/
def LawRun : Prop := ∀ (E : (Nat → Value) × (Nat → Nat)) (lo b L : Nat) (xs : Nat → Int32) (μ : rM), L ≤ 3584 → St0 E lo b L xs μ → ∃ μ', ex PG E lo 40 312 0 [some (.ref b), none, none, none] [] μ = some (some (.int 1), μ') ∧ rz μ' ≤ lo + 1000 ∧ ru μ' ≤ 400000
section START
variable {s : State} {b : Nat}
abbrev lwC : Cond := Jvm.Cond.and given_1 narrow_1
abbrev tmS (q : Nat) : Term := .static (sNs q).1 (sNs q).2.1 (sNs q).2.2
theorem prA_0 : Cond.arrayOf (tmS 0) .int ∈ flatC lwC ∧ Cond.eq (.length (tmS 0)) (.int (Int32.ofNat (stA 0).length)) ∈ flatC lwC ∧ ∀ j, j < (stA 0).length → Cond.eq (.elem (tmS 0) (.int (Int32.ofNat j))) (.int ((stA 0).getD j 0)) ∈ flatC lwC := by decide +kernel
theorem prA_1 : Cond.arrayOf (tmS 1) .int ∈ flatC lwC ∧ Cond.eq (.length (tmS 1)) (.int (Int32.ofNat (stA 1).length)) ∈ flatC lwC ∧ ∀ j, j < (stA 1).length → Cond.eq (.elem (tmS 1) (.int (Int32.ofNat j))) (.int ((stA 1).getD j 0)) ∈ flatC lwC := by decide +kernel
theorem prA_2 : Cond.arrayOf (tmS 2) .int ∈ flatC lwC ∧ Cond.eq (.length (tmS 2)) (.int (Int32.ofNat (stA 2).length)) ∈ flatC lwC ∧ ∀ j, j < (stA 2).length → Cond.eq (.elem (tmS 2) (.int (Int32.ofNat j))) (.int ((stA 2).getD j 0)) ∈ flatC lwC := by decide +kernel
theorem prA_3 : Cond.arrayOf (tmS 3) .int ∈ flatC lwC ∧ Cond.eq (.length (tmS 3)) (.int (Int32.ofNat (stA 3).length)) ∈ flatC lwC ∧ ∀ j, j < (stA 3).length → Cond.eq (.elem (tmS 3) (.int (Int32.ofNat j))) (.int ((stA 3).getD j 0)) ∈ flatC lwC := by decide +kernel
theorem prA_4 : Cond.arrayOf (tmS 4) .int ∈ flatC lwC ∧ Cond.eq (.length (tmS 4)) (.int (Int32.ofNat (stA 4).length)) ∈ flatC lwC ∧ ∀ j, j < (stA 4).length → Cond.eq (.elem (tmS 4) (.int (Int32.ofNat j))) (.int ((stA 4).getD j 0)) ∈ flatC lwC := by decide +kernel
theorem prA : ∀ q, q < 5 → Cond.arrayOf (tmS q) .int ∈ flatC lwC ∧ Cond.eq (.length (tmS q)) (.int (Int32.ofNat (stA q).length)) ∈ flatC lwC ∧ ∀ j, j < (stA q).length → Cond.eq (.elem (tmS q) (.int (Int32.ofNat j))) (.int ((stA q).getD j 0)) ∈ flatC lwC := by
  intro q hq
  have h : q = 0 ∨ q = 1 ∨ q = 2 ∨ q = 3 ∨ q = 4 := by omega
  rcases h with rfl | rfl | rfl | rfl | rfl
  · exact prA_0
  · exact prA_1
  · exact prA_2
  · exact prA_3
  · exact prA_4
theorem prC : Cond.eq (tmS 5) (.int 1) ∈ flatC lwC ∧ Cond.isRef (tmS 6) ∈ flatC lwC := by decide +kernel
theorem laysS : ∀ q, q < 7 → Cond.laysStatic (sNs q).1 (sNs q).2.1 (sNs q).2.2 ∈ lw_tbl ∧ Cond.initialized (sNs q).1 ∈ lw_tbl := by
  intro q hq
  have h : q = 0 ∨ q = 1 ∨ q = 2 ∨ q = 3 ∨ q = 4 ∨ q = 5 ∨ q = 6 := by omega
  rcases h with rfl | rfl | rfl | rfl | rfl | rfl | rfl
  · exact ⟨wAt_in (q := (3, 238)) (by decide +kernel), wAt_in (q := (1, 8)) (by decide +kernel)⟩
  · exact ⟨wAt_in (q := (3, 225)) (by decide +kernel), wAt_in (q := (1, 8)) (by decide +kernel)⟩
  · exact ⟨wAt_in (q := (4, 5)) (by decide +kernel), wAt_in (q := (1, 8)) (by decide +kernel)⟩
  · exact ⟨wAt_in (q := (4, 7)) (by decide +kernel), wAt_in (q := (1, 8)) (by decide +kernel)⟩
  · exact ⟨wAt_in (q := (4, 9)) (by decide +kernel), wAt_in (q := (1, 8)) (by decide +kernel)⟩
  · exact ⟨wAt_in (q := (3, 185)) (by decide +kernel), wAt_in (q := (1, 16)) (by decide +kernel)⟩
  · exact ⟨wAt_in (q := (3, 201)) (by decide +kernel), wAt_in (q := (1, 18)) (by decide +kernel)⟩
abbrev tmK (q : Nat) : Term := .string (sTs q).1 (sTs q).2.1
theorem prK_0 : Cond.exactly (tmK 0) "java/lang/String" ∈ flatC lwC ∧ Cond.eq (.field (tmK 0) "java/lang/String" "coder" "B") (.int 0) ∈ flatC lwC ∧ Cond.arrayOf (.field (tmK 0) "java/lang/String" "value" "[B") .byte ∈ flatC lwC ∧ Cond.eq (.length (.field (tmK 0) "java/lang/String" "value" "[B")) (.int (Int32.ofNat (([57, 30, 19, 12] : List Nat).getD 0 0))) ∈ flatC lwC ∧ ∀ j, j < ([57, 30, 19, 12] : List Nat).getD 0 0 → Cond.eq (.elem (.field (tmK 0) "java/lang/String" "value" "[B") (.int (Int32.ofNat j))) (.int (([sBy 0, sBy 1, sBy 2, sBy 3].getD 0 []).getD j 0)) ∈ flatC lwC := by decide +kernel
theorem prK_1 : Cond.exactly (tmK 1) "java/lang/String" ∈ flatC lwC ∧ Cond.eq (.field (tmK 1) "java/lang/String" "coder" "B") (.int 0) ∈ flatC lwC ∧ Cond.arrayOf (.field (tmK 1) "java/lang/String" "value" "[B") .byte ∈ flatC lwC ∧ Cond.eq (.length (.field (tmK 1) "java/lang/String" "value" "[B")) (.int (Int32.ofNat (([57, 30, 19, 12] : List Nat).getD 1 0))) ∈ flatC lwC ∧ ∀ j, j < ([57, 30, 19, 12] : List Nat).getD 1 0 → Cond.eq (.elem (.field (tmK 1) "java/lang/String" "value" "[B") (.int (Int32.ofNat j))) (.int (([sBy 0, sBy 1, sBy 2, sBy 3].getD 1 []).getD j 0)) ∈ flatC lwC := by decide +kernel
theorem prK_2 : Cond.exactly (tmK 2) "java/lang/String" ∈ flatC lwC ∧ Cond.eq (.field (tmK 2) "java/lang/String" "coder" "B") (.int 0) ∈ flatC lwC ∧ Cond.arrayOf (.field (tmK 2) "java/lang/String" "value" "[B") .byte ∈ flatC lwC ∧ Cond.eq (.length (.field (tmK 2) "java/lang/String" "value" "[B")) (.int (Int32.ofNat (([57, 30, 19, 12] : List Nat).getD 2 0))) ∈ flatC lwC ∧ ∀ j, j < ([57, 30, 19, 12] : List Nat).getD 2 0 → Cond.eq (.elem (.field (tmK 2) "java/lang/String" "value" "[B") (.int (Int32.ofNat j))) (.int (([sBy 0, sBy 1, sBy 2, sBy 3].getD 2 []).getD j 0)) ∈ flatC lwC := by decide +kernel
theorem prK_3 : Cond.exactly (tmK 3) "java/lang/String" ∈ flatC lwC ∧ Cond.eq (.field (tmK 3) "java/lang/String" "coder" "B") (.int 0) ∈ flatC lwC ∧ Cond.arrayOf (.field (tmK 3) "java/lang/String" "value" "[B") .byte ∈ flatC lwC ∧ Cond.eq (.length (.field (tmK 3) "java/lang/String" "value" "[B")) (.int (Int32.ofNat (([57, 30, 19, 12] : List Nat).getD 3 0))) ∈ flatC lwC ∧ ∀ j, j < ([57, 30, 19, 12] : List Nat).getD 3 0 → Cond.eq (.elem (.field (tmK 3) "java/lang/String" "value" "[B") (.int (Int32.ofNat j))) (.int (([sBy 0, sBy 1, sBy 2, sBy 3].getD 3 []).getD j 0)) ∈ flatC lwC := by decide +kernel
theorem prK : ∀ q, q < 4 → Cond.exactly (tmK q) "java/lang/String" ∈ flatC lwC ∧ Cond.eq (.field (tmK q) "java/lang/String" "coder" "B") (.int 0) ∈ flatC lwC ∧ Cond.arrayOf (.field (tmK q) "java/lang/String" "value" "[B") .byte ∈ flatC lwC ∧ Cond.eq (.length (.field (tmK q) "java/lang/String" "value" "[B")) (.int (Int32.ofNat (([57, 30, 19, 12] : List Nat).getD q 0))) ∈ flatC lwC ∧ ∀ j, j < ([57, 30, 19, 12] : List Nat).getD q 0 → Cond.eq (.elem (.field (tmK q) "java/lang/String" "value" "[B") (.int (Int32.ofNat j))) (.int (([sBy 0, sBy 1, sBy 2, sBy 3].getD q []).getD j 0)) ∈ flatC lwC := by
  intro q hq
  have h : q = 0 ∨ q = 1 ∨ q = 2 ∨ q = 3 := by omega
  rcases h with rfl | rfl | rfl | rfl
  · exact prK_0
  · exact prK_1
  · exact prK_2
  · exact prK_3
theorem prN : ∀ i, i < 4 → ∀ j, j < 4 → i ≠ j → Cond.not (Cond.eq (tmK i) (tmK j)) ∈ flatC lwC ∨ Cond.not (Cond.eq (tmK j) (tmK i)) ∈ flatC lwC := by decide +kernel
theorem strR : ∀ q, q < 4 → Cond.stringRef (sTs q).1 (sTs q).2.1 (sTs q).2.2 ∈ lw_tbl := by
  intro q hq
  have h : q = 0 ∨ q = 1 ∨ q = 2 ∨ q = 3 := by omega
  rcases h with rfl | rfl | rfl | rfl
  · exact wAt_in (q := (3, 168)) (by decide +kernel)
  · exact wAt_in (q := (3, 169)) (by decide +kernel)
  · exact wAt_in (q := (3, 170)) (by decide +kernel)
  · exact wAt_in (q := (3, 171)) (by decide +kernel)
theorem nest_in : ∀ w ∈ nests, Cond.methodLinkNest w.1 w.2.1 w.2.2.1 w.2.2.2 ∈ lw_tbl := List.forall_mem_cons.mpr ⟨wAt_in (q := (3, 12)) (by decide +kernel), List.forall_mem_cons.mpr ⟨wAt_in (q := (2, 48)) (by decide +kernel), List.forall_mem_cons.mpr ⟨wAt_in (q := (2, 50)) (by decide +kernel), List.forall_mem_cons.mpr ⟨wAt_in (q := (1, 191)) (by decide +kernel), List.forall_mem_cons.mpr ⟨wAt_in (q := (1, 225)) (by decide +kernel), fun _ h => absurd h List.not_mem_nil⟩⟩⟩⟩⟩
theorem ao_in : ∀ c ∈ aokL, Cond.arrayOver (.object (cnm c)) ∈ lw_tbl := List.forall_mem_cons.mpr ⟨wAt_in (q := (1, 43)) (by decide +kernel), List.forall_mem_cons.mpr ⟨wAt_in (q := (1, 39)) (by decide +kernel), List.forall_mem_cons.mpr ⟨wAt_in (q := (1, 41)) (by decide +kernel), List.forall_mem_cons.mpr ⟨wAt_in (q := (1, 37)) (by decide +kernel), List.forall_mem_cons.mpr ⟨wAt_in (q := (2, 36)) (by decide +kernel), fun _ h => absurd h List.not_mem_nil⟩⟩⟩⟩⟩
/-- an array below lo, as the heap has it -/
def hArr (s : State) (a : Nat) (ty : FieldType) (n : Nat) (f : Nat → Int32) : Prop := ∃ cell : Cell, s.heap[a]? = some cell ∧ s.isArrayOf cell ty ∧ cell.vm ≠ .unknown ∧ n ≤ cell.slots.size ∧ cell.slots.size.toInt32 = Int32.ofNat n ∧ ∀ j : Nat, j < n → cell.slots[j]? = some (.int (f j))
def szOf (H : Heap) (a : Nat) : Nat := match H[a]? with
  | some c => c.slots.size.toInt32.toNatClampNeg
  | none => 0
def inOf (H : Heap) (a j : Nat) : Int32 := match H[a]? with
  | some c => match c.slots[j]? with
    | some (.int x) => x
    | _ => 0
  | none => 0
theorem hArr.sz {a n : Nat} {ty : FieldType} {f : Nat → Int32} (h : hArr s a ty n f) (hn : n < 2 ^ 31) : szOf s.heap a = n ∧ ∀ j, j < n → inOf s.heap a j = f j := by
  obtain ⟨cell, h1, -, -, -, h5, h6⟩ := h
  refine ⟨?_, fun j hj => ?_⟩
  · unfold szOf
    rw [h1]
    dsimp only
    rw [h5]
    exact nI_clamp hn
  · unfold inOf
    rw [h1]
    dsimp only
    rw [h6 j hj]
/-- the first memory, off the heap -/
noncomputable def mu0 (s : State) (iA bA : Nat → Prop) : rM := (fun a => @ite _ (iA a) (Classical.propDecidable _) (some (.inr (0, szOf s.heap a))) (@ite _ (bA a) (Classical.propDecidable _) (some (.inr (1, szOf s.heap a))) none), inOf s.heap, fun _ _ => none, fun _ _ => 0, s.heap.size, 0)
theorem mu0_i {iA bA : Nat → Prop} {a : Nat} (h : iA a) : rk (mu0 s iA bA) a = some (.inr (0, szOf s.heap a)) := by
  unfold mu0 rk
  dsimp only
  rw [if_pos h]
theorem mu0_b {iA bA : Nat → Prop} {a : Nat} (h0 : ¬ iA a) (h : bA a) : rk (mu0 s iA bA) a = some (.inr (1, szOf s.heap a)) := by
  unfold mu0 rk
  dsimp only
  rw [if_neg h0, if_pos h]
theorem mu0_n {iA bA : Nat → Prop} {a : Nat} (h0 : ¬ iA a) (h : ¬ bA a) : rk (mu0 s iA bA) a = none := by
  unfold mu0 rk
  dsimp only
  rw [if_neg h0, if_neg h]
theorem hArr.lt {a n : Nat} {ty : FieldType} {f : Nat → Int32} (h : hArr s a ty n f) : a < s.heap.size := by
  obtain ⟨cell, h1, -⟩ := h
  exact (Array.getElem?_eq_some_iff.mp h1).1
theorem hArr.ty2 {a n m : Nat} {ty ty' : FieldType} {f g : Nat → Int32} (h : hArr s a ty n f) (h' : hArr s a ty' m g) : ty = ty' := by
  obtain ⟨c1, h1, ⟨-, k1, hk1, cm1, hd1⟩, -⟩ := h
  obtain ⟨c2, h2, ⟨-, k2, hk2, cm2, hd2⟩, -⟩ := h'
  cases h1.symm.trans h2
  cases hk1.symm.trans hk2
  rw [hd1] at hd2
  cases hd2
  rfl
theorem hArr.cell {D : va_G} {dA : Nat → ClassId} {μ : rM} {a n t : Nat} {f : Nat → Int32} (ht : t = 0 ∨ t = 1) (h : hArr s a (rAty cnm t) n f) (hn : n < 2 ^ 31) (hi : ∀ j, j < n → ri μ a j = f j) (hf : ∀ j, j < n → fits (rAty cnm t) (.int (f j)) = true) : rCell PG rcl D dA cnm s.heap.size s s.heap μ a (.inr (t, n)) := by
  have hlt := h.lt
  obtain ⟨cell, h1, h2, h3, h4, h5, h6⟩ := h
  have hrt : ∀ x r0 l0, rTv (rAty cnm t) x r0 l0 = .int x := by
    intro x r0 l0
    rcases ht with rfl | rfl <;> rfl
  refine ⟨cell, h1, h2, h3, ⟨h4, h5⟩, hn, fun j hj => ?_, fun hlo => absurd hlo (by omega)⟩
  rw [hrt, hi j hj]
  exact ⟨h6 j hj, hf j hj⟩
theorem va_T_h {ty : FieldType} {t N : Nat} {f : Nat → Int32} {A : Nat → Prop} (h : va_T ty t N (fun j => .int (f j)) A s s.heap) : hArr s t ty N f := by
  obtain ⟨cell, h1, h2, h3, h4, h5, h6, -⟩ := h
  exact ⟨cell, h1, h2, h3, h4, h5, h6⟩
end START
set_option maxHeartbeats 4000000 in
set_option maxRecDepth 100000 in
theorem whole_open (HL : LawRun) {p : Program} {e : Env} {s : State} {m : MethodId} {below : List Frame} {meth : Method} {c : Code} (l : Launch) {b L : Nat} {xs : Nat → Int32} (hL : L ≤ 3584) (C0 : lw_At p s m meth c b L xs) : W p l e room_1 s m #[Value.ref b] below meth c s.heap [] 0 0 (lw_Z below #[Value.ref b] s) (entryFrame m ([Value.ref b] : List Value).toArray 4) := by
  obtain ⟨hx, hb, hr, hml, hown, hts, hX, hbl, hlocks, hgv⟩ := id C0
  have hs := flat_of_before lwC hgv
  have hWs : ∀ w ∈ Ws, w.before #[Value.ref b] s = true := fun w hw => hts w (Ws_in w hw).1
  have hA : ∀ a : Nat, a < s.heap.size → ¬ (fun q : Nat => s.heap.size ≤ q) a := fun a h => Nat.not_le.mpr h
  -- the static arrays
  have hT0 : ∀ q : Nat, ∃ t : Nat, q < 5 → (tmS q).eval #[Value.ref b] s none [] s = some (.ref t) ∧ va_T .int t (stA q).length (fun j => .int ((stA q).getD j 0)) (fun q : Nat => s.heap.size ≤ q) s s.heap := by
    intro q
    by_cases hq : q < 5
    · obtain ⟨a1, a2, a3⟩ := prA q hq
      have hN : (stA q).length < 2 ^ 31 := by
        have h : q = 0 ∨ q = 1 ∨ q = 2 ∨ q = 3 ∨ q = 4 := by omega
        rcases h with rfl | rfl | rfl | rfl | rfl <;> decide
      obtain ⟨t, h1, h2⟩ := va_Tof (f := fun j => .int ((stA q).getD j 0)) (A := fun q : Nat => s.heap.size ≤ q) hN (hs _ a1) (va_eqt (hs _ a2)) (fun j hj => va_eqt (hs _ (a3 j hj))) hA
      exact ⟨t, fun _ => ⟨h1, h2⟩⟩
    · exact ⟨0, fun h => absurd h hq⟩
  obtain ⟨tq, htq⟩ := Classical.axiomOfChoice hT0
  -- the texts
  obtain ⟨adK, adV, hvS, hvE⟩ := vk_Sof (args := #[Value.ref b]) (s := s) (N := 4) (tm := tmK) (len := [57, 30, 19, 12]) (byt := [sBy 0, sBy 1, sBy 2, sBy 3]) (A := fun q : Nat => s.heap.size ≤ q)
    (fun i hi => by have h : i = 0 ∨ i = 1 ∨ i = 2 ∨ i = 3 := by omega
                    rcases h with rfl | rfl | rfl | rfl <;> decide)
    (fun i hi => hs _ (prK i hi).1) (fun i hi => hs _ (prK i hi).2.1) (fun i hi => hs _ (prK i hi).2.2.1) (fun i hi => hs _ (prK i hi).2.2.2.1) (fun i hi j hj => hs _ ((prK i hi).2.2.2.2 j hj)) (fun i j hi hj hne => (prN i hi j hj hne).imp (hs _) (hs _)) hA
  -- the formatter: a reference or null
  obtain ⟨fv, hfv, hfc⟩ : ∃ v : Value, va_Z (sNs 6).1 (sNs 6).2.1 (sNs 6).2.2 v (fun q : Nat => s.heap.size ≤ q) s s.heap ∧ v.category = 1 := by
    rcases va_Zqof (A := fun q : Nat => s.heap.size ≤ q) (hts _ (laysS 6 (by decide)).1) (hts _ (laysS 6 (by decide)).2) (hs _ prC.2) hA with h | ⟨t, h⟩
    · exact ⟨.null, h, rfl⟩
    · exact ⟨.ref t, h, rfl⟩
  -- the classes
  have hD0 : ∀ c : Nat, ∃ q : ClassId × (Nat → Nat), ∀ r : vw_C, rcl[c]? = some r → u_Kn s r.1 r.2.1 r.2.2 q.1 q.2 := by
    intro c
    by_cases hc : ∃ r : vw_C, rcl[c]? = some r
    · obtain ⟨r, hr0⟩ := hc
      obtain ⟨g1, g2, g3, g4, g5, g6, g7, g8, g9⟩ := pg_ok.2.2.1 c r hr0
      obtain ⟨cC, iS, hk⟩ := u_known hWs g4 (hWs _ g8)
      exact ⟨(cC, iS), fun r' h => by cases hr0.symm.trans h; exact hk⟩
    · exact ⟨(0, fun _ => 0), fun r h => absurd ⟨r, h⟩ hc⟩
  obtain ⟨dD, hdD⟩ := Classical.axiomOfChoice hD0
  have hA0 : ∀ t : Nat, ∃ cA : ClassId, t ∈ aTs → ArrOfT s cA (rAty cnm t) ∧ va_RA s cA (rAty cnm t) := by
    intro t
    by_cases ht : t ∈ aTs
    · rcases (show t < 4 ∨ ∃ u, t = u + 4 by
        rcases Nat.lt_or_ge t 4 with h | h
        · exact Or.inl h
        · exact Or.inr ⟨t - 4, by omega⟩) with h | ⟨u, rfl⟩
      · have hw : (Cond.arrayClass (rAty cnm t)).before #[Value.ref b] s = true := by
          have h4 : t = 0 ∨ t = 1 ∨ t = 2 ∨ t = 3 := by omega
          rcases h4 with rfl | rfl | rfl | rfl <;> exact hWs _ (wm_mis (by simp [wMis, rAty]))
        obtain ⟨cA, k, comp, g1, g2, g3⟩ := Cond.arrayClass_spec (args := #[Value.ref b]) (first := s) (o := none) (s := s) (idx := []) hw
        refine ⟨cA, fun _ => ⟨fun n z => ⟨(fun q h => by cases h), k, g2, comp, g3⟩, ?_⟩⟩
        have h4 : t = 0 ∨ t = 1 ∨ t = 2 ∨ t = 3 := by omega
        rcases h4 with rfl | rfl | rfl | rfl <;> exact g1
      · have hu : u ∈ aokL := by
          have : ∀ u, u < 20 → u + 4 ∈ aTs → u ∈ aokL := by decide +kernel
          have hlt : ∀ t ∈ aTs, t < 24 := by decide +kernel
          exact this u (by have := hlt _ ht; omega) ht
        obtain ⟨comp, cA, k, g1, g2, g3, g4, g5⟩ := Cond.arrayOver_spec (args := #[Value.ref b]) (first := s) (s := s) (o := none) (idx := []) (hts _ (ao_in u hu))
        exact ⟨cA, fun _ => ⟨fun n z => ⟨(fun q h => by cases h), k, g3, comp, g4⟩, k, comp, g3, g4, g1, g5⟩⟩
    · exact ⟨0, fun h => absurd h ht⟩
  obtain ⟨dA, hdA⟩ := Classical.axiomOfChoice hA0
  let E : (Nat → Value) × (Nat → Nat) := (fun q => if q < 5 then .ref (tq q) else if q = 5 then .int 1 else fv, fun q => if q < 4 then adK q else adV (q - 100))
  have hE1 : ∀ q, q < 5 → E.1 q = .ref (tq q) := fun q hq => if_pos hq
  have hE2 : ∀ q, q < 4 → E.2 q = adK q := fun q hq => if_pos hq
  have hE3 : ∀ q, E.2 (q + 100) = adV q := fun q => by
    show (if q + 100 < 4 then adK (q + 100) else adV (q + 100 - 100)) = adV q
    rw [if_neg (by omega), Nat.add_sub_cancel]
  let iA : Nat → Prop := fun a => a = b ∨ ∃ q, q < 5 ∧ a = tq q
  let bA : Nat → Prop := fun a => ∃ q, q < 4 ∧ a = adV q
  -- what the heap has
  have hhb : hArr s b .int L xs := by
    obtain ⟨scr, h1, h2, h3, h4, h5⟩ := hX
    exact ⟨scr, h1, h2, h3, by omega, by rw [h4], h5⟩
  have hht : ∀ q, q < 5 → hArr s (tq q) .int (stA q).length (fun j => (stA q).getD j 0) := fun q hq => va_T_h (htq q hq).2
  have hhv : ∀ q, q < 4 → hArr s (adV q) .byte (sBy q).length (fun j => (sBy q).getD j 0) := by
    intro q hq
    have h := va_T_h (hvS.1 q hq).2.2.2
    have h4 : q = 0 ∨ q = 1 ∨ q = 2 ∨ q = 3 := by omega
    rcases h4 with rfl | rfl | rfl | rfl <;> exact h
  have hNt : ∀ q, q < 5 → (stA q).length < 2 ^ 31 := by
    intro q hq
    have h : q = 0 ∨ q = 1 ∨ q = 2 ∨ q = 3 ∨ q = 4 := by omega
    rcases h with rfl | rfl | rfl | rfl | rfl <;> decide
  have hNv : ∀ q, q < 4 → (sBy q).length < 2 ^ 31 := by
    intro q hq
    have h : q = 0 ∨ q = 1 ∨ q = 2 ∨ q = 3 := by omega
    rcases h with rfl | rfl | rfl | rfl <;> decide
  have hib : ∀ a, bA a → ¬ iA a := by
    rintro a ⟨q, hq, rfl⟩ (h | ⟨r, hr0, h⟩)
    · have := (hhv q hq).ty2 (h ▸ hhb)
      cases this
    · have := (hhv q hq).ty2 (h ▸ hht r hr0)
      cases this
  have hSt : St0 E s.heap.size b L xs (mu0 s iA bA) := by
    refine ⟨rfl, hbl, ?_, ?_, ?_, ?_, ?_, ?_, ?_, ?_, rfl⟩
    · rw [mu0_i (show iA b from Or.inl rfl), (hhb.sz (by omega)).1]
    · exact (hhb.sz (by omega)).2
    · intro q hq
      refine ⟨tq q, hE1 q hq, (hht q hq).lt, ?_, ((hht q hq).sz (hNt q hq)).2⟩
      rw [mu0_i (show iA (tq q) from Or.inr ⟨q, hq, rfl⟩), ((hht q hq).sz (hNt q hq)).1]
    · rfl
    · exact hfc
    · intro q hq
      rw [hE3]
      refine ⟨(hhv q hq).lt, ?_, ((hhv q hq).sz (hNv q hq)).2⟩
      rw [mu0_b (hib _ ⟨q, hq, rfl⟩) (show bA (adV q) from ⟨q, hq, rfl⟩), ((hhv q hq).sz (hNv q hq)).1]
    · intro q r hq hr0 h
      rw [hE2 q hq, hE2 r hr0] at h
      exact hvS.2 q r hq hr0 h
    · intro a ha
      refine mu0_n ?_ ?_
      · rintro (h | ⟨q, hq, h⟩)
        · omega
        · have := (hht q hq).lt
          omega
      · rintro ⟨q, hq, h⟩
        have := (hhv q hq).lt
        omega
  have hroom : 1000 ≤ room_1.cells ∧ 400000 ≤ room_1.slots := by decide
  obtain ⟨μ', hrun, hz, hu⟩ := HL E s.heap.size b L xs (mu0 s iA bA) hL hSt
  obtain ⟨n, hrun⟩ := ex_iff.mp hrun
  have hHo : rHo PG rcl (fun c => (dD c).1, fun c => (dD c).2) dA cnm s.heap.size s s.heap (mu0 s iA bA) := by
    refine ⟨rfl, Nat.le_refl _, fun a kd hk => ?_⟩
    by_cases hi : iA a
    · rw [mu0_i hi] at hk
      cases hk
      rcases hi with rfl | ⟨q, hq, rfl⟩
      · rw [(hhb.sz (by omega)).1]
        exact hhb.cell (Or.inl rfl) (by omega) (hhb.sz (by omega)).2 (fun j hj => rfl)
      · rw [((hht q hq).sz (hNt q hq)).1]
        exact (hht q hq).cell (Or.inl rfl) (hNt q hq) ((hht q hq).sz (hNt q hq)).2 (fun j hj => rfl)
    · by_cases hb2 : bA a
      · rw [mu0_b hi hb2] at hk
        cases hk
        obtain ⟨q, hq, rfl⟩ := hb2
        rw [((hhv q hq).sz (hNv q hq)).1]
        refine (hhv q hq).cell (Or.inr rfl) (hNv q hq) ((hhv q hq).sz (hNv q hq)).2 (fun j hj => ?_)
        have hall : ∀ q, q < 4 → ∀ j, j < (sBy q).length → fits .byte (.int ((sBy q).getD j 0)) = true := by decide +kernel
        exact hall q hq j hj
      · rw [mu0_n hi hb2] at hk
        cases hk
  have hKK : rKK E rcl (fun c => (dD c).1, fun c => (dD c).2) dA cnm s.heap.size nests aTs aokL sNs staLs sTs strLs s := by
    refine ⟨fun c r h => hdD c r h, fun t ht => hdA t ht, fun w hw => va_Nw.of rfl (hts _ (nest_in w hw)), fun c hc => va_AO.of (hts _ (ao_in c hc)), fun q hq => ?_, fun q hq => ?_, fun q hq => ?_⟩
    · have hq7 : q < 7 := List.mem_range.mp hq
      rcases (show q < 5 ∨ q = 5 ∨ q = 6 by omega) with h | rfl | rfl
      · rw [hE1 q h]
        exact va_Zof (hts _ (laysS q hq7).1) (hts _ (laysS q hq7).2) (htq q h).1 hA
      · exact va_Zof (hts _ (laysS 5 hq7).1) (hts _ (laysS 5 hq7).2) (va_eqt (hs _ prC.1)) hA
      · exact hfv
    · have hq4 : q < 4 := List.mem_range.mp hq
      rw [hE2 q hq4]
      exact vk_R.of (hts _ (strR q hq4)) (hvE q hq4)
    · rw [hE2 q hq, hE3 q]
      exact ⟨(hvS.1 q hq).1, (hvS.1 q hq).2.2.1, (hvS.1 q hq).2.1⟩
  rw [lg_entry_eq]
  refine rSound (D := (fun c => (dD c).1, fun c => (dD c).2)) (dA := dA) (E := E) (lo := s.heap.size) (l := l) pg_ok n 40 312 0 [some (.ref b), none, none, none] [] (mu0 s iA bA) (some (.int 1)) μ' hrun p e room_1 s m _ below meth c s.heap [] 0 0 _ _ (mu0 s iA bA) hx hb hml hown hWs hKK (fun h => absurd h (by decide)) (by decide) (by decide) (Nat.le_trans hz (Nat.add_le_add_left hroom.1 _)) (by rw [show ru (mu0 s iA bA) = 0 from rfl, Nat.zero_add]; exact Nat.le_trans hu hroom.2) hHo va_S.rf (Nat.zero_add _) (Nat.zero_add _) (rLR.entry [.ref b] (n := 4) (Nat.le_of_ble_eq_true rfl)) ?_
  intro pc' Lx' H' locs' cells' slots' st' i hdg hrt hHo' hS' hc hs'
  rcases hrt with ⟨rfl, x, ty, rfl, hv, hty, hn⟩ | ⟨rfl, x, rfl, hv, hty⟩ | ⟨rfl, x, nm, rfl, hv, hty⟩ | ⟨rfl, rfl, hv, hty⟩
  · cases hv
    refine va_forget hS'.2.2 (W.widen (k := room_1.cells) (n := room_1.slots) ?_ ?_ (lw_ret hx hb hr hlocks hdg))
    · have e0 : rz (mu0 s iA bA) = s.heap.size := rfl
      rw [e0] at hc
      omega
    · have e0 : ru (mu0 s iA bA) = 0 := rfl
      rw [e0] at hs'
      omega
  · cases hv
  · cases hv
  · cases hv

