/-! THE ABSTRACT MACHINE IS SOUND: what 'run' answers, the bytecode machine does -/
section INV
variable {α : Type} {z : α}
theorem oI_s {st : List Value} {f : Int32 → List Value → Option α} (h : oI st f = some z) : ∃ x r, st = .int x :: r ∧ f x r = some z := by
  unfold oI at h; split at h
  · exact ⟨_, _, rfl, h⟩
  · cases h
theorem oII_s {st : List Value} {f : Int32 → Int32 → List Value → Option α} (h : oII st f = some z) : ∃ x y r, st = .int y :: .int x :: r ∧ f x y r = some z := by
  unfold oII at h; split at h
  · exact ⟨_, _, _, rfl, h⟩
  · cases h
theorem oL_s {st : List Value} {f : Int64 → List Value → Option α} (h : oL st f = some z) : ∃ x r, st = .long x :: r ∧ f x r = some z := by
  unfold oL at h; split at h
  · exact ⟨_, _, rfl, h⟩
  · cases h
theorem oLL_s {st : List Value} {f : Int64 → Int64 → List Value → Option α} (h : oLL st f = some z) : ∃ x y r, st = .long y :: .long x :: r ∧ f x y r = some z := by
  unfold oLL at h; split at h
  · exact ⟨_, _, _, rfl, h⟩
  · cases h
theorem oR_s {st : List Value} {f : Nat → List Value → Option α} (h : oR st f = some z) : ∃ x r, st = .ref x :: r ∧ f x r = some z := by
  unfold oR at h; split at h
  · exact ⟨_, _, rfl, h⟩
  · cases h
theorem oIR_s {st : List Value} {f : Nat → Int32 → List Value → Option α} (h : oIR st f = some z) : ∃ a i r, st = .int i :: .ref a :: r ∧ f a i r = some z := by
  unfold oIR at h; split at h
  · exact ⟨_, _, _, rfl, h⟩
  · cases h
theorem oIIR_s {st : List Value} {f : Nat → Int32 → Int32 → List Value → Option α} (h : oIIR st f = some z) : ∃ a i x r, st = .int x :: .int i :: .ref a :: r ∧ f a i x r = some z := by
  unfold oIIR at h; split at h
  · exact ⟨_, _, _, _, rfl, h⟩
  · cases h
theorem oLIR_s {st : List Value} {f : Nat → Int32 → Int64 → List Value → Option α} (h : oLIR st f = some z) : ∃ a i x r, st = .long x :: .int i :: .ref a :: r ∧ f a i x r = some z := by
  unfold oLIR at h; split at h
  · exact ⟨_, _, _, _, rfl, h⟩
  · cases h
theorem oRIR_s {st : List Value} {f : Nat → Int32 → Nat → List Value → Option α} (h : oRIR st f = some z) : ∃ a i x r, st = .ref x :: .int i :: .ref a :: r ∧ f a i x r = some z := by
  unfold oRIR at h; split at h
  · exact ⟨_, _, _, _, rfl, h⟩
  · cases h
theorem oVR_s {st : List Value} {f : Nat → Value → List Value → Option α} (h : oVR st f = some z) : ∃ a v r, st = v :: .ref a :: r ∧ f a v r = some z := by
  unfold oVR at h; split at h
  · exact ⟨_, _, _, rfl, h⟩
  · cases h
theorem oV_s {st : List Value} {f : Value → List Value → Option α} (h : oV st f = some z) : ∃ v r, st = v :: r ∧ f v r = some z := by
  unfold oV at h; split at h
  · exact ⟨_, _, rfl, h⟩
  · cases h
theorem oVV_s {st : List Value} {f : Value → Value → List Value → Option α} (h : oVV st f = some z) : ∃ v w r, st = v :: w :: r ∧ f v w r = some z := by
  unfold oVV at h; split at h
  · exact ⟨_, _, _, rfl, h⟩
  · cases h
theorem oCp_s {st : List Value} {f : Nat → Int32 → Nat → Int32 → Int32 → List Value → Option α} (h : oCp st f = some z) : ∃ a sp b dp n r, st = .int n :: .int dp :: .ref b :: .int sp :: .ref a :: r ∧ f a sp b dp n r = some z := by
  unfold oCp at h; split at h
  · exact ⟨_, _, _, _, _, _, rfl, h⟩
  · cases h
theorem jmp_s {pc : Nat} {off : Int} {f : Nat → Option α} (h : jmp pc off f = some z) : ∃ t : Nat, (pc : Int) + off = (t : Int) ∧ f t = some z := by
  unfold jmp at h; split at h
  · exact ⟨_, by assumption, h⟩
  · cases h
theorem bnd_s {β : Type} {o : Option β} {f : β → Option α} (h : o.bind f = some z) : ∃ q, o = some q ∧ f q = some z := by
  cases o with
  | none => cases h
  | some q => exact ⟨q, rfl, h⟩
theorem ite_s {c : Prop} [Decidable c] {f : Option α} (h : (if c then f else none) = some z) : c ∧ f = some z := by
  split at h
  · exact ⟨by assumption, h⟩
  · cases h
theorem popN_s {st : List Value} {n : Nat} {q : List Value × List Value} (h : popN st n = some q) : st = q.1.reverse ++ q.2 ∧ q.1.length = n := by
  unfold popN at h
  obtain ⟨h1, h2⟩ := ite_s h
  cases h2
  refine ⟨by simp, by simp [h1]⟩
end INV
theorem strNo_sp {E : (Nat → Value) × (Nat → Nat)} {a q : Nat} (h : strNo E a = some q) : q < 4 ∧ a = E.2 q := by
  unfold strNo at h
  have h1 := List.mem_of_find?_eq_some h
  have h2 := List.find?_some h
  exact ⟨List.mem_range.mp h1, (beq_iff_eq.mp h2).symm⟩
theorem va_OF.keptS {o n d : String} {v : Value} {t : Nat} {A : Nat → Prop} {s : State} {H : Heap} {locs : List Loc} (h : va_OF o n d v t A s s.heap) (hS : va_S A s.heap H locs) : va_OF o n d v t A s H := h.kept (fun a h1 h2 => hS.2.1 a h1 h2)
theorem va_O.keptS {o : String} {t : Nat} {A : Nat → Prop} {s : State} {H : Heap} {locs : List Loc} (h : va_O o t A s s.heap) (hS : va_S A s.heap H locs) : va_O o t A s H := h.kept (fun a h1 h2 => hS.2.1 a h1 h2)
def rRm (d mc ms : Nat) : Room := { frames := d + 1, cells := mc, slots := ms, locals := 64 * (d + 1) }
def rRt (P : rPg) (k : Nat) (i : Instr) (st : List Value) (v : Option Value) : Prop :=
  (i = .ireturn ∧ ∃ x ty, st = [.int x] ∧ v = some (.int x) ∧ pRet P k = some ty ∧ narrow ty (.int x) = .int x) ∨
  (i = .lreturn ∧ ∃ x, st = [.long x] ∧ v = some (.long x) ∧ pRet P k = some .long) ∨
  (i = .areturn ∧ ∃ x nm, st = [.ref x] ∧ v = some (.ref x) ∧ pRet P k = some (.object nm)) ∨
  (i = .return_ ∧ st = [] ∧ v = none ∧ pRet P k = none)
section SOUND
variable {P : rPg} {E : (Nat → Value) × (Nat → Nat)} {cl : List vw_C} {Ws : List Cond} {cod : Nat → ByteArray} {nam : Nat → MethodName} {cn : Nat → String} {nest : List (String × Nat × MethodName × String)} {aT aoC : List Nat} {sN : Nat → String × String × String} {staL : List Nat} {sT : Nat → String × Nat × String} {strL : List Nat} {D : va_G} {dA : Nat → ClassId} {lo : Nat} {l : Launch}
def rPc (P : rPg) (E : (Nat → Value) × (Nat → Nat)) (cl : List vw_C) (D : va_G) (dA : Nat → ClassId) (cn : Nat → String) (lo : Nat) (nest : List (String × Nat × MethodName × String)) (aT aoC : List Nat) (sN : Nat → String × String × String) (staL : List Nat) (sT : Nat → String × Nat × String) (strL : List Nat) (vs : List Value) (μ : rM) : Array Value → State → Prop := va_Pc vs (fun U => rHo P cl D dA cn lo U U.heap μ ∧ rKK E cl D dA cn lo nest aT aoC sN staL sT strL U)
def rQc (P : rPg) (cl : List vw_C) (D : va_G) (dA : Nat → ClassId) (cn : Nat → String) (lo : Nat) (v : Option Value) (μ : rM) : State → Outcome → State → Prop := fun st oc t => oc = .returned v ∧ rHo P cl D dA cn lo t t.heap μ ∧ va_F (fun q => lo ≤ q) st t
/-- what 'run' says of a method's walk from a pc on -/
def rWalk (P : rPg) (E : (Nat → Value) × (Nat → Nat)) (cl : List vw_C) (Ws : List Cond) (cod : Nat → ByteArray) (nam : Nat → MethodName) (cn : Nat → String) (nest : List (String × Nat × MethodName × String)) (aT aoC : List Nat) (sN : Nat → String × String × String) (staL : List Nat) (sT : Nat → String × Nat × String) (strL : List Nat) (D : va_G) (dA : Nat → ClassId) (lo : Nat) (l : Launch) (n : Nat) : Prop :=
  ∀ (d k pc : Nat) (ls : List (Option Value)) (st : List Value) (μ : rM) (v : Option Value) (μ' : rM), run P E lo n d k pc ls st μ = some (v, μ') →
  ∀ (p : Program) (e : Env) (R : Room) (s : State) (m : MethodId) (args : Array Value) (below : List Frame) (meth : Method) (c : Code) (H : Heap) (locs : List Loc) (cells slots : Nat) (Q : State → Prop) (Lx : Array Slot) (μ0 : rM),
    p.tables.exec = Jvm.exec → c.code = cod k → c.maxLocals = pMxl P k → s.vm.findClass (nam k).cls = some m.cls → (∀ w ∈ Ws, w.before args s = true) → rKK E cl D dA cn lo nest aT aoC sN staL sT strL s → ((nam k).name = "<init>" → meth.name = "<init>") →
    d + 1 ≤ R.frames → 64 * (d + 1) ≤ R.locals → rz μ' ≤ rz μ0 + R.cells → ru μ' ≤ ru μ0 + R.slots →
    rHo P cl D dA cn lo s H μ → va_S (fun q => lo ≤ q) s.heap H locs → cells + rz μ0 = rz μ → slots + ru μ0 = ru μ → rLR Lx (pMxl P k) ls →
    (∀ (pc' : Nat) (Lx' : Array Slot) (H' : Heap) (locs' : List Loc) (cells' slots' : Nat) (st' : List Value) (i : Instr), decode (cod k) pc' = .ok (i, 1) → rRt P k i st' v → rHo P cl D dA cn lo s H' μ' → va_S (fun q => lo ≤ q) s.heap H' locs' → cells' + rz μ0 = rz μ' → slots' + ru μ0 = ru μ' → W p l e R s m args below meth c H' locs' cells' slots' Q (F0 m pc' Lx' st')) →
    W p l e R s m args below meth c H locs cells slots Q (F0 m pc Lx st)
/-- a method's contract out of its walk -/
theorem rMet {n : Nat} (hW : rWalk P E cl Ws cod nam cn nest aT aoC sN staL sT strL D dA lo l n) {d j : Nat} {vs : List Value} {μ μ1 : rM} {v : Option Value} (hlen : (eL vs).length ≤ pMxl P j) (hpl : plainName (nam j).cls = true) (h : run P E lo n d j 0 (eLn (pMxl P j) vs) [] μ = some (v, μ1)) :
    Met l (nam j) (Cond.code (nam j) (cod j) (pMxl P j) (pRet P j) :: Ws) (rRm d (rz μ1 - rz μ) (ru μ1 - ru μ)) (rPc P E cl D dA cn lo nest aT aoC sN staL sT strL vs μ) (fun _ => rQc P cl D dA cn lo v μ1) (rz μ1 - rz μ) (ru μ1 - ru μ) (fun q => lo ≤ q) := by
  refine Met.ofW (cc := cod j) (maxL := pMxl P j) (ret := pRet P j) hpl rfl ?_
  intro p e s m args below meth c s₁ B hml hv
  obtain ⟨rfl, hHo, hKK⟩ := hv
  rw [lg_entry_eq]
  have hlocks := B.notSynchronized
  have hr := B.returns
  refine hW d j 0 _ [] μ v μ1 h p e _ s m _ below meth c s.heap [] 0 0 _ _ μ B.exec B.bytes hml (findClass_of_methodNamed B.named) (fun w hw => atoms_spec (ws := Cond.code (nam j) (cod j) (pMxl P j) (pRet P j) :: Ws) B.pre w (List.mem_cons_of_mem _ hw)) hKK (fun hi => by rw [← hi]; exact (name_of_methodNamed B.named B.method).1) (Nat.le_refl _) (Nat.le_refl _) (by show rz μ1 ≤ rz μ + (rz μ1 - rz μ); omega) (by show ru μ1 ≤ ru μ + (ru μ1 - ru μ); omega) hHo va_S.rf (Nat.zero_add _) (Nat.zero_add _) (rLR.entry vs hlen) ?_
  intro pc' Lx' H' locs' cells' slots' st' i hdg hrt hHo' hS' hc hs
  obtain rfl : cells' = rz μ1 - rz μ := by omega
  obtain rfl : slots' = ru μ1 - ru μ := by omega
  have hq : ∀ (w : Option Value), v = w → ∀ t : State, t.heap = H' → s.WarmedH t.vm → rQc P cl D dA cn lo v μ1 s (.returned w) t := by
    intro w hw t ht hWm
    subst hw
    exact ⟨rfl, by rw [ht]; exact hHo'.moved hWm.alike, hS'.F ht⟩
  rcases hrt with ⟨rfl, x, ty, rfl, hv, hty, hn⟩ | ⟨rfl, x, rfl, hv, hty⟩ | ⟨rfl, x, nm, rfl, hv, hty⟩ | ⟨rfl, rfl, hv, hty⟩
  · exact W.zret B.exec B.bytes (by rw [hr]; exact hty) hn (hq _ hv) hS'.2.2 hdg hlocks
  · exact W.lret B.exec B.bytes (by rw [hr]; exact hty) (hq _ hv) hS'.2.2 hdg hlocks
  · exact W.aret B.exec B.bytes (by rw [hr]; exact hty) (Or.inl ⟨nm, rfl⟩) (Or.inr ⟨x, rfl⟩) (hq _ hv) hS'.2.2 hdg hlocks
  · exact W.vret B.exec B.bytes (by rw [hr]; exact hty) (hq _ hv) hS'.2.2 hdg hlocks
end SOUND
