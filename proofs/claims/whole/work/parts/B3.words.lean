/-! THE PROGRAM'S LINKS: what its tables must say; what a state must say of the classes, statics and texts -/
def callOK (P : rPg) (Ws : List Cond) (cod : Nat → ByteArray) (nam : Nat → MethodName) (j n : Nat) : Prop :=
  Cond.code (nam j) (cod j) (pMxl P j) (pRet P j) ∈ Ws ∧ Cond.initialized (nam j).cls ∈ Ws ∧ ((nam j).cls ≠ "java/lang/invoke/MethodHandle" ∧ (nam j).cls ≠ "java/lang/invoke/VarHandle" ∧ (parseMethodDescriptor (nam j).desc).map (fun d => d.parameters.length) = some n) ∧ pMxl P j ≤ 40 ∧ plainName (nam j).cls = true
def rOK (P : rPg) (cl : List vw_C) (Ws : List Cond) (cod : Nat → ByteArray) (nam : Nat → MethodName) (cn : Nat → String) (nest : List (String × Nat × MethodName × String)) (aT aoC : List Nat) (sN : Nat → String × String × String) (staL : List Nat) (sT : Nat → String × Nat × String) (strL : List Nat) : Prop :=
  (∀ k pc i len, pIns P k pc = some (i, len) → decode (cod k) pc = .ok (i, len) ∧ rLb i len = true) ∧
  (∀ w ∈ Ws, (w.onTables && w.keeps) = true ∨ ∃ ty, w = .arrayClass ty) ∧
  (∀ c (q : vw_C), cl[c]? = some q → c ≠ strC ∧ q.1 = cn c ∧ q.2.2 = pNfl P c ∧ (∀ w ∈ u_ws q.1 q.2.1 q.2.2, w ∈ Ws) ∧ (∀ a, a < q.2.2 → ∀ b, b < q.2.2 → a ≠ b → (q.2.1 a).2.1 ≠ (q.2.1 b).2.1) ∧ (∀ f, f < q.2.2 → parseFieldDescriptor (q.2.1 f).2.2.1 = some (pTyF P c f)) ∧ (∀ f, f < q.2.2 → rTyOK (pTyF P c f) = true) ∧ Cond.instantiable q.1 q.2.2 ∈ Ws ∧ Cond.initialized q.1 ∈ Ws) ∧
  (∀ k idx c f, pFld P k idx = some (c, f) → (c ≠ strC ∧ ∃ q : vw_C, cl[c]? = some q ∧ f < q.2.2 ∧ Cond.fieldLink (nam k).cls idx (q.2.1 f).1 (q.2.1 f).2.1 (q.2.1 f).2.2.1 ∈ Ws) ∨ (c = strC ∧ ((f = 0 ∧ pTyF P c f = .array .byte ∧ Cond.fieldLink (nam k).cls idx "java/lang/String" "value" "[B" ∈ Ws) ∨ (f = 1 ∧ pTyF P c f = .byte ∧ Cond.fieldLink (nam k).cls idx "java/lang/String" "coder" "B" ∈ Ws)))) ∧
  (∀ k idx c f, pPut P k idx = some (c, f) → ∃ q : vw_C, cl[c]? = some q ∧ f < q.2.2 ∧ Cond.fieldLink (nam k).cls idx (q.2.1 f).1 (q.2.1 f).2.1 (q.2.1 f).2.2.1 ∈ Ws ∧ ((q.2.1 f).2.2.2 = false ∨ ((q.2.1 f).2.2.2 = true ∧ (nam k).name = "<init>" ∧ (q.2.1 f).1 = (nam k).cls))) ∧
  (∀ k idx j n, pCal P k idx = some (j, n, 0) → callOK P Ws cod nam j n ∧ Cond.methodLink (nam k).cls idx (nam j) ∈ Ws ∧ Cond.instanceMethod (nam j) ∈ Ws ∧ Cond.selects (nam j).cls (nam j) (nam j) ∈ Ws ∧ (nam j).cls = cn (pMcl P j) ∧ (pMcl P j = strC ∨ ∃ q : vw_C, cl[pMcl P j]? = some q)) ∧
  (∀ k idx j n, pCal P k idx = some (j, n, 8) → callOK P Ws cod nam j n ∧ Cond.methodLink (nam k).cls idx (nam j) ∈ Ws ∧ Cond.instanceMethod (nam j) ∈ Ws ∧ Cond.selects (nam j).cls (nam j) (nam j) ∈ Ws ∧ (nam j).cls = "java/lang/String") ∧
  (∀ k idx j n, pCal P k idx = some (j, n, 1) → callOK P Ws cod nam j n ∧ Cond.methodLink (nam k).cls idx (nam j) ∈ Ws ∧ Cond.static (nam j) ∈ Ws) ∧
  (∀ k idx j n, pCal P k idx = some (j, n, 2) → callOK P Ws cod nam j n ∧ Cond.methodLink (nam k).cls idx (nam j) ∈ Ws ∧ Cond.instanceMethod (nam j) ∈ Ws ∧ (nam j).name = "<init>" ∧ pRet P j = none) ∧
  (∀ k idx j n, pCal P k idx = some (j, n, 3) → callOK P Ws cod nam j n ∧ (∃ host, ((nam k).cls, idx, nam j, host) ∈ nest) ∧ Cond.instanceMethod (nam j) ∈ Ws ∧ (nam j).name = "<init>" ∧ pRet P j = none) ∧
  (∀ k idx j n, pCal P k idx = some (j, n, 4) → Cond.methodLink (nam k).cls idx Lib.objectInit ∈ Ws ∧ Cond.instanceMethod Lib.objectInit ∈ Ws ∧ Cond.code Lib.objectInit ⟨#[0xb1]⟩ 1 none ∈ Ws) ∧
  (∀ k idx j n, pCal P k idx = some (j, n, 5) → Cond.methodLink (nam k).cls idx arraycopyName ∈ Ws ∧ Cond.native arraycopyName ∈ Ws ∧ Cond.static arraycopyName ∈ Ws ∧ Cond.initialized "java/lang/System" ∈ Ws) ∧
  (∀ k idx j n, pCal P k idx = some (j, n, 6) → Cond.methodLink (nam k).cls idx Lib.Math.max.name ∈ Ws ∧ Cond.static Lib.Math.max.name ∈ Ws ∧ Cond.initialized "java/lang/Math" ∈ Ws ∧ Cond.code Lib.Math.max.name Lib.Math.max.code 2 (some .int) ∈ Ws) ∧
  (∀ k idx j n, pCal P k idx = some (j, n, 7) → Cond.methodLink (nam k).cls idx Lib.Math.min.name ∈ Ws ∧ Cond.static Lib.Math.min.name ∈ Ws ∧ Cond.initialized "java/lang/Math" ∈ Ws ∧ Cond.code Lib.Math.min.name Lib.Math.min.code 2 (some .int) ∈ Ws) ∧
  (∀ k idx c, pNew P k idx = some c → ∃ q : vw_C, cl[c]? = some q ∧ Cond.classLink (nam k).cls idx q.1 ∈ Ws) ∧
  (∀ k idx t, pAnw P k idx = some t → Cond.classLink (nam k).cls idx (cn t) ∈ Ws ∧ t ∈ aoC ∧ t + 4 ∈ aT) ∧
  cn strC = "java/lang/String" ∧
  (∀ t, pAok P t = true → t + 4 ∈ aT ∧ t ≠ strC) ∧
  (∀ t, t < 4 → t ∈ aT ∧ Cond.arrayClass (rAty cn t) ∈ Ws) ∧
  (∀ k idx x, pCon P k idx = some x → Cond.constant (nam k).cls idx x ∈ Ws) ∧
  (∀ k idx x, pCo2 P k idx = some x → Cond.constantLong (nam k).cls idx x ∈ Ws) ∧
  (∀ k idx q, pSta P k idx = some q → q ∈ staL ∧ Cond.fieldLink (nam k).cls idx (sN q).1 (sN q).2.1 (sN q).2.2 ∈ Ws) ∧
  (∀ k idx q, pStr P k idx = some q → q ∈ strL ∧ (sT q).1 = (nam k).cls ∧ (sT q).2.1 = idx)
/-- what a state says of the classes, the array classes, the nest, the statics and the texts -/
def rKK (E : (Nat → Value) × (Nat → Nat)) (cl : List vw_C) (D : va_G) (dA : Nat → ClassId) (cn : Nat → String) (lo : Nat) (nest : List (String × Nat × MethodName × String)) (aT aoC : List Nat) (sN : Nat → String × String × String) (staL : List Nat) (sT : Nat → String × Nat × String) (strL : List Nat) (s : State) : Prop :=
  (∀ c (q : vw_C), cl[c]? = some q → u_Kn s q.1 q.2.1 q.2.2 (D.1 c) (D.2 c)) ∧
  (∀ t ∈ aT, ArrOfT s (dA t) (rAty cn t) ∧ va_RA s (dA t) (rAty cn t)) ∧
  (∀ w ∈ nest, va_Nw (.methodLinkNest w.1 w.2.1 w.2.2.1 w.2.2.2) s) ∧
  (∀ c ∈ aoC, va_AO (cn c) s) ∧
  (∀ q ∈ staL, va_Z (sN q).1 (sN q).2.1 (sN q).2.2 (E.1 q) (fun a => lo ≤ a) s s.heap) ∧
  (∀ q ∈ strL, vk_R (sT q).1 (sT q).2.1 (sT q).2.2 (E.2 q) s) ∧
  (∀ q, q < 4 → va_O "java/lang/String" (E.2 q) (fun a => lo ≤ a) s s.heap ∧ va_OF "java/lang/String" "value" "[B" (.ref (E.2 (q + 100))) (E.2 q) (fun a => lo ≤ a) s s.heap ∧ va_OF "java/lang/String" "coder" "B" (.int 0) (E.2 q) (fun a => lo ≤ a) s s.heap)
section KK
variable {E : (Nat → Value) × (Nat → Nat)} {cl : List vw_C} {D : va_G} {dA : Nat → ClassId} {cn : Nat → String} {lo : Nat} {nest : List (String × Nat × MethodName × String)} {aT aoC : List Nat} {sN : Nat → String × String × String} {staL : List Nat} {sT : Nat → String × Nat × String} {strL : List Nat} {s U : State}
theorem rKK.to (h : rKK E cl D dA cn lo nest aT aoC sN staL sT strL s) (hW : s.WarmedH U.vm) (hq : ∀ a : Nat, a < s.heap.size → ¬ lo ≤ a → U.heap[a]? = s.heap[a]?) : rKK E cl D dA cn lo nest aT aoC sN staL sT strL U := by
  have ha := hW.alike
  refine ⟨fun c q hc => u_Kn_moved ha (h.1 c q hc), fun t ht => ⟨arrOfT_moved ha (h.2.1 t ht).1, (h.2.1 t ht).2.moved ha⟩, fun w hw => va_Nw.warmM hW (h.2.2.1 w hw), fun c hc => va_AO.moved ha (h.2.2.2.1 c hc), fun q hq' => ((h.2.2.2.2.1 q hq').moved ha).kept hq, fun q hq' => (h.2.2.2.2.2.1 q hq').warm hW, fun q hq' => ⟨((h.2.2.2.2.2.2 q hq').1.moved ha).kept hq, ((h.2.2.2.2.2.2 q hq').2.1.moved ha).kept hq, ((h.2.2.2.2.2.2 q hq').2.2.moved ha).kept hq⟩⟩
end KK
/-! how a method begins -/
theorem eL_len (vs : List Value) : (eL vs).length = (lg_sl vs).length := by
  induction vs with
  | nil => rfl
  | cons v vs ih =>
    unfold eL
    rw [lg_sl, List.flatMap_cons, List.length_append]
    split
    · rename_i h
      simp only [List.length_cons, ih]
      rw [lg_sl]
      simp
      omega
    · rename_i h
      simp only [List.length_cons, ih]
      rw [lg_sl]
      simp
      omega
theorem eL_args : ∀ (vs : List Value) (off n i : Nat) (v : Value), gL (eL vs ++ List.replicate n none) i = some v → (off + i, v) ∈ lv_args off vs
  | [], off, n, i, v, h => by
    simp only [eL, List.nil_append] at h
    unfold gL at h
    rw [List.getD_eq_getElem?_getD, List.getElem?_replicate] at h
    split at h <;> cases h
  | w :: vs, off, n, i, v, h => by
    unfold eL at h
    unfold lv_args
    split at h
    · rename_i hc
      rw [if_pos hc]
      match i, h with
      | 0, h =>
        have : w = v := Option.some.inj h
        subst this
        exact List.mem_cons_self
      | 1, h => cases h
      | i + 2, h =>
        have h1 : gL (eL vs ++ List.replicate n none) i = some v := h
        have := eL_args vs (off + 2) n i v h1
        rw [show off + (i + 2) = off + 2 + i by omega]
        exact List.mem_cons_of_mem _ this
    · rename_i hc
      rw [if_neg hc]
      match i, h with
      | 0, h =>
        have : w = v := Option.some.inj h
        subst this
        exact List.mem_cons_self
      | i + 1, h =>
        have h1 : gL (eL vs ++ List.replicate n none) i = some v := h
        have := eL_args vs (off + 1) n i v h1
        rw [show off + (i + 1) = off + 1 + i by omega]
        exact List.mem_cons_of_mem _ this
theorem rLR.entry (vs : List Value) {n : Nat} (h : (eL vs).length ≤ n) : rLR ((lg_sl vs ++ List.replicate (n - (lg_sl vs).length) Slot.unset).toArray) n (eLn n vs) := by
  have h0 : (lg_sl vs).length ≤ n := by rw [← eL_len]; exact h
  have hl := lv_entry vs (n := n) h0
  refine ⟨hl.1, ?_, hl.2.1, fun i v hi => ?_⟩
  · unfold eLn
    rw [List.length_append, List.length_replicate]
    omega
  · have := eL_args vs 0 _ i v hi
    rw [Nat.zero_add] at this
    exact hl.2.2 (i, v) this
