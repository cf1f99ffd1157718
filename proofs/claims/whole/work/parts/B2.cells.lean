/-! WHAT THE HEAP HOLDS of the abstract memory; the locals; how stores keep it -/
def strC : Nat := 13
/-- the cell at a is what the memory says -/
def rCell (P : rPg) (cl : List vw_C) (D : va_G) (dA : Nat → ClassId) (cn : Nat → String) (lo : Nat) (s : State) (H : Heap) (μ : rM) (a : Nat) (kd : rKd) : Prop := match kd with
  | .inl c => if c = strC then va_O "java/lang/String" a (fun q => lo ≤ q) s H ∧ va_OF "java/lang/String" "value" "[B" (va_rf (rr μ a 0)) a (fun q => lo ≤ q) s H ∧ va_OF "java/lang/String" "coder" "B" (.int (ri μ a 1)) a (fun q => lo ≤ q) s H
     else ∃ r : vw_C, cl[c]? = some r ∧ t_OB a (D.1 c) r.2.2 (D.2 c) H (fun k => rTv (pTyF P c k) (ri μ a k) (rr μ a k) (rl μ a k))
  | .inr q => ∃ cell : Cell, H[a]? = some cell ∧ s.isArrayOf cell (rAty cn q.1) ∧ cell.vm ≠ .unknown ∧ (q.2 ≤ cell.slots.size ∧ cell.slots.size.toInt32 = Int32.ofNat q.2) ∧ q.2 < 2 ^ 31 ∧ (∀ j : Nat, j < q.2 → cell.slots[j]? = some (rTv (rAty cn q.1) (ri μ a j) (rr μ a j) (rl μ a j)) ∧ fits (rAty cn q.1) (rTv (rAty cn q.1) (ri μ a j) (rr μ a j) (rl μ a j)) = true) ∧ (lo ≤ a → cell = arrV (dA q.1) q.2 (fun j => rTv (rAty cn q.1) (ri μ a j) (rr μ a j) (rl μ a j)))
section CELLS
variable {P : rPg} {cl : List vw_C} {D : va_G} {dA : Nat → ClassId} {cn : Nat → String} {lo : Nat} {s U : State} {H H1 : Heap} {μ μ1 : rM} {a : Nat} {kd : rKd}
theorem rCell.kept (h : rCell P cl D dA cn lo s H μ a kd) (hH : H1[a]? = H[a]?) (h1 : ∀ j, ri μ1 a j = ri μ a j) (h2 : ∀ j, rr μ1 a j = rr μ a j) (h3 : ∀ j, rl μ1 a j = rl μ a j) : rCell P cl D dA cn lo s H1 μ1 a kd := by
  cases kd with
  | inl c =>
    simp only [rCell, h1, h2, h3] at h ⊢
    split at h
    · rename_i hc
      rw [if_pos hc]
      obtain ⟨⟨c1, x1, x2⟩, ⟨cf, k, i, f, c2, y1, y2, y3, y4⟩, ⟨cf', k', i', f', c3, z1, z2, z3, z4⟩⟩ := h
      exact ⟨⟨c1, by rw [hH]; exact x1, x2⟩, ⟨cf, k, i, f, c2, y1, y2, by rw [hH]; exact y3, y4⟩, ⟨cf', k', i', f', c3, z1, z2, by rw [hH]; exact z3, z4⟩⟩
    · rename_i hc
      rw [if_neg hc]
      obtain ⟨r, q1, q2⟩ := h
      exact ⟨r, q1, q2.kept hH⟩
  | inr q =>
    simp only [rCell, h1, h2, h3] at h ⊢
    obtain ⟨cell, q1, q2⟩ := h
    exact ⟨cell, by rw [hH]; exact q1, q2⟩
theorem rCell.moved (hvm : s.vm.Alike U.vm) (h : rCell P cl D dA cn lo s H μ a kd) : rCell P cl D dA cn lo U H μ a kd := by
  cases kd with
  | inl c =>
    simp only [rCell] at h ⊢
    split at h
    · rename_i hc
      rw [if_pos hc]
      exact ⟨va_O.moved hvm h.1, va_OF.moved hvm h.2.1, va_OF.moved hvm h.2.2⟩
    · rename_i hc
      rw [if_neg hc]
      exact h
  | inr q =>
    obtain ⟨cell, q1, q2, q3⟩ := h
    exact ⟨cell, q1, State.isArrayOf_alike hvm q2, q3⟩
theorem rCell.lt (h : rCell P cl D dA cn lo s H μ a kd) : a < H.size := by
  cases kd with
  | inl c =>
    simp only [rCell] at h
    split at h
    · obtain ⟨⟨c1, x1, -⟩, -⟩ := h
      exact (Array.getElem?_eq_some_iff.mp x1).1
    · obtain ⟨r, q1, cell, x1, -⟩ := h
      exact (Array.getElem?_eq_some_iff.mp x1).1
  | inr q =>
    obtain ⟨cell, x1, -⟩ := h
    exact (Array.getElem?_eq_some_iff.mp x1).1
end CELLS
def rHo (P : rPg) (cl : List vw_C) (D : va_G) (dA : Nat → ClassId) (cn : Nat → String) (lo : Nat) (s : State) (H : Heap) (μ : rM) : Prop := H.size = rz μ ∧ lo ≤ rz μ ∧ ∀ a kd, rk μ a = some kd → rCell P cl D dA cn lo s H μ a kd
section HO
variable {P : rPg} {cl : List vw_C} {D : va_G} {dA : Nat → ClassId} {cn : Nat → String} {lo : Nat} {s U : State} {H H1 : Heap} {μ μ1 : rM} {a : Nat}
theorem rHo.moved (hvm : s.vm.Alike U.vm) (h : rHo P cl D dA cn lo s H μ) : rHo P cl D dA cn lo U H μ := ⟨h.1, h.2.1, fun a kd hk => (h.2.2 a kd hk).moved hvm⟩
/-- one cell changed, in the heap and in the memory -/
theorem rHo.set (h : rHo P cl D dA cn lo s H μ) (hz : H1.size = H.size) (hq : ∀ q, q ≠ a → H1[q]? = H[q]?) (ez : rz μ1 = rz μ) (ek : ∀ b, rk μ1 b = rk μ b) (e1 : ∀ b, b ≠ a → ∀ j, ri μ1 b j = ri μ b j) (e2 : ∀ b, b ≠ a → ∀ j, rr μ1 b j = rr μ b j) (e3 : ∀ b, b ≠ a → ∀ j, rl μ1 b j = rl μ b j) {kd : rKd} (hk : rk μ a = some kd) (hc : rCell P cl D dA cn lo s H1 μ1 a kd) : rHo P cl D dA cn lo s H1 μ1 := by
  refine ⟨by rw [hz, ez]; exact h.1, by rw [ez]; exact h.2.1, fun b kd' hb => ?_⟩
  rw [ek] at hb
  by_cases hba : b = a
  · subst hba
    rw [hk] at hb
    cases hb
    exact hc
  · exact (h.2.2 b kd' hb).kept (hq b hba) (e1 b hba) (e2 b hba) (e3 b hba)
/-- a new cell -/
theorem rHo.new (h : rHo P cl D dA cn lo s H μ) {kd : rKd} {n : Nat} (hz : H1.size = H.size + 1) (hq : ∀ q, q < H.size → H1[q]? = H[q]?) (hc : rCell P cl D dA cn lo s H1 (nw μ kd n) (rz μ) kd) : rHo P cl D dA cn lo s H1 (nw μ kd n) := by
  refine ⟨by rw [hz, h.1]; rfl, Nat.le_succ_of_le h.2.1, fun b kd' hb => ?_⟩
  by_cases hba : b = rz μ
  · subst hba
    have hb' : (if rz μ = rz μ then some kd else μ.1 (rz μ)) = some kd' := hb
    rw [if_pos rfl] at hb'
    cases hb'
    exact hc
  · have hb' : (if b = rz μ then some kd else μ.1 b) = some kd' := hb
    rw [if_neg hba] at hb'
    have hh := h.2.2 b kd' hb'
    refine hh.kept (hq b hh.lt) (fun j => ?_) (fun j => ?_) (fun j => ?_)
    · show (if b = rz μ then 0 else μ.2.1 b j) = _
      rw [if_neg hba]; rfl
    · show (if b = rz μ then none else μ.2.2.1 b j) = _
      rw [if_neg hba]; rfl
    · show (if b = rz μ then 0 else μ.2.2.2.1 b j) = _
      rw [if_neg hba]; rfl
end HO
theorem up2_ne {α : Type} {f : Nat → Nat → α} {a j : Nat} {v : α} {b : Nat} (h : b ≠ a) (i : Nat) : up2 f a j v b i = f b i := by simp [up2, h]
theorem up2_at {α : Type} {f : Nat → Nat → α} {a j : Nat} {v : α} (i : Nat) : up2 f a j v a i = if i = j then v else f a i := by simp [up2]
/-! the locals -/
def rLR (Lx : Array Slot) (n : Nat) (ls : List (Option Value)) : Prop := Lx.size = n ∧ ls.length = n ∧ lv_wf Lx ∧ ∀ i v, gL ls i = some v → Lx[i]? = some (.val v)
def aL (ls : List (Option Value)) : List (Nat × Value) := (List.range ls.length).filterMap fun i => (gL ls i).map fun v => (i, v)
theorem mem_aL {ls : List (Option Value)} {q : Nat × Value} : q ∈ aL ls ↔ gL ls q.1 = some q.2 := by
  unfold aL
  rw [List.mem_filterMap]
  constructor
  · rintro ⟨i, -, h⟩
    cases hg : gL ls i with
    | none => rw [hg] at h; cases h
    | some v => rw [hg] at h; cases h; exact hg
  · intro h
    refine ⟨q.1, ?_, by rw [h]; rfl⟩
    rw [List.mem_range]
    unfold gL at h
    rw [List.getD_eq_getElem?_getD] at h
    cases hq : ls[q.1]? with
    | none => rw [hq] at h; cases h
    | some w => exact (List.getElem?_eq_some_iff.mp hq).1
theorem rLR.has {Lx : Array Slot} {n : Nat} {ls : List (Option Value)} (h : rLR Lx n ls) : lv_has Lx n (aL ls) := ⟨h.1, h.2.2.1, fun q hq => h.2.2.2 q.1 q.2 (mem_aL.mp hq)⟩
theorem gL_set (ls : List (Option Value)) (i : Nat) (v : Option Value) (j : Nat) : gL (ls.set i v) j = if j = i ∧ i < ls.length then v else gL ls j := by
  unfold gL
  rw [List.getD_eq_getElem?_getD, List.getElem?_set, List.getD_eq_getElem?_getD]
  by_cases h : i = j
  · subst h
    by_cases h2 : i < ls.length
    · simp [h2]
    · simp [h2]
  · simp [h, Ne.symm h]
theorem kL_len (ls : List (Option Value)) (i : Nat) : (kL ls i).length = ls.length := by
  unfold kL
  split
  · rfl
  · split
    · split
      · simp
      · rfl
    · rfl
theorem gL_lt {ls : List (Option Value)} {j : Nat} {w : Value} (h : gL ls j = some w) : j < ls.length := by
  unfold gL at h
  rw [List.getD_eq_getElem?_getD] at h
  cases hq : ls[j]? with
  | none => rw [hq] at h; cases h
  | some w => exact (List.getElem?_eq_some_iff.mp hq).1
theorem gL_kL {ls : List (Option Value)} {i j : Nat} {v : Value} (h : gL (kL ls i) j = some v) : gL ls j = some v ∧ ¬ (j + 1 = i ∧ v.category = 2) := by
  unfold kL at h
  split at h
  · exact ⟨h, fun q => by omega⟩
  · rename_i k
    split at h
    · rename_i x hx
      split at h
      · rw [gL_set] at h
        split at h
        · cases h
        · rename_i hn
          refine ⟨h, fun q => ?_⟩
          have hjk : j = k := by omega
          subst hjk
          exact hn ⟨rfl, gL_lt hx⟩
      · rename_i hcat
        refine ⟨h, fun q => ?_⟩
        have hjk : j = k := by omega
        subst hjk
        rw [hx] at h
        cases h
        exact hcat q.2
    · rename_i hx
      refine ⟨h, fun q => ?_⟩
      have hjk : j = k := by omega
      subst hjk
      rw [hx] at h
      cases h
theorem rLR.st1 {Lx Ly : Array Slot} {n i : Nat} {ls : List (Option Value)} {v : Value} (h : rLR Lx n ls) (hi : i < ls.length) (hy : lv_has Ly n ((i, v) :: (aL ls).filter (fun q => !(q.1 == i) && !(q.1 + 1 == i && q.2.category == 2)))) : rLR Ly n (sL1 ls i v) := by
  refine ⟨hy.1, by unfold sL1; rw [List.length_set, kL_len]; exact h.2.1, hy.2.1, fun j w hj => ?_⟩
  unfold sL1 at hj
  rw [gL_set] at hj
  split at hj
  · rename_i hc
    cases hj
    rw [hc.1]
    exact hy.2.2 (i, v) List.mem_cons_self
  · rename_i hc
    have hji : j ≠ i := fun q => hc ⟨q, by rw [kL_len]; exact hi⟩
    obtain ⟨h1, h2⟩ := gL_kL hj
    refine hy.2.2 (j, w) (List.mem_cons_of_mem _ (List.mem_filter.mpr ⟨mem_aL.mpr h1, ?_⟩))
    simp only [Bool.and_eq_true, Bool.not_eq_true', beq_eq_false_iff_ne, ne_eq, Bool.and_eq_false_iff]
    refine ⟨hji, ?_⟩
    by_cases hq : j + 1 = i
    · right
      intro hcat
      exact h2 ⟨hq, hcat⟩
    · exact Or.inl hq
theorem rLR.st2 {Lx Ly : Array Slot} {n i : Nat} {ls : List (Option Value)} {v : Value} (h : rLR Lx n ls) (hi : i + 1 < ls.length) (hy : lv_has Ly n ((i, v) :: (aL ls).filter (fun q => !(q.1 == i) && (!(q.1 == i + 1) && !(q.1 + 1 == i && q.2.category == 2))))) : rLR Ly n (sL2 ls i v) := by
  refine ⟨hy.1, by unfold sL2; rw [List.length_set, List.length_set, kL_len]; exact h.2.1, hy.2.1, fun j w hj => ?_⟩
  unfold sL2 at hj
  rw [gL_set] at hj
  split at hj
  · cases hj
  · rename_i hc0
    rw [gL_set] at hj
    split at hj
    · rename_i hc
      cases hj
      rw [hc.1]
      exact hy.2.2 (i, v) List.mem_cons_self
    · rename_i hc
      have hji : j ≠ i := fun q => hc ⟨q, by rw [kL_len]; omega⟩
      have hji2 : j ≠ i + 1 := fun q => hc0 ⟨q, by rw [List.length_set, kL_len]; exact hi⟩
      obtain ⟨h1, h2⟩ := gL_kL hj
      refine hy.2.2 (j, w) (List.mem_cons_of_mem _ (List.mem_filter.mpr ⟨mem_aL.mpr h1, ?_⟩))
      simp only [Bool.and_eq_true, Bool.not_eq_true', beq_eq_false_iff_ne, ne_eq, Bool.and_eq_false_iff]
      refine ⟨hji, hji2, ?_⟩
      by_cases hq : j + 1 = i
      · right
        intro hcat
        exact h2 ⟨hq, hcat⟩
      · exact Or.inl hq
