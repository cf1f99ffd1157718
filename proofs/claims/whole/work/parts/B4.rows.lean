/-! THE MEMORY GROWS ALONE; stores in objects and arrays, over the heap -/
def rLe (μ : rM) (z : rRs) : Prop := rz μ ≤ rz z.2 ∧ ru μ ≤ ru z.2
section MONO
variable {α : Type} {M : α → Prop} {z : α}
theorem oI_m {st : List Value} {f : Int32 → List Value → Option α} (h : ∀ x r, f x r = some z → M z) : oI st f = some z → M z := by
  unfold oI; split
  · exact h _ _
  · intro q; cases q
theorem oII_m {st : List Value} {f : Int32 → Int32 → List Value → Option α} (h : ∀ x y r, f x y r = some z → M z) : oII st f = some z → M z := by
  unfold oII; split
  · exact h _ _ _
  · intro q; cases q
theorem oL_m {st : List Value} {f : Int64 → List Value → Option α} (h : ∀ x r, f x r = some z → M z) : oL st f = some z → M z := by
  unfold oL; split
  · exact h _ _
  · intro q; cases q
theorem oLL_m {st : List Value} {f : Int64 → Int64 → List Value → Option α} (h : ∀ x y r, f x y r = some z → M z) : oLL st f = some z → M z := by
  unfold oLL; split
  · exact h _ _ _
  · intro q; cases q
theorem oR_m {st : List Value} {f : Nat → List Value → Option α} (h : ∀ x r, f x r = some z → M z) : oR st f = some z → M z := by
  unfold oR; split
  · exact h _ _
  · intro q; cases q
theorem oIR_m {st : List Value} {f : Nat → Int32 → List Value → Option α} (h : ∀ a x r, f a x r = some z → M z) : oIR st f = some z → M z := by
  unfold oIR; split
  · exact h _ _ _
  · intro q; cases q
theorem oIIR_m {st : List Value} {f : Nat → Int32 → Int32 → List Value → Option α} (h : ∀ a x y r, f a x y r = some z → M z) : oIIR st f = some z → M z := by
  unfold oIIR; split
  · exact h _ _ _ _
  · intro q; cases q
theorem oLIR_m {st : List Value} {f : Nat → Int32 → Int64 → List Value → Option α} (h : ∀ a x y r, f a x y r = some z → M z) : oLIR st f = some z → M z := by
  unfold oLIR; split
  · exact h _ _ _ _
  · intro q; cases q
theorem oRIR_m {st : List Value} {f : Nat → Int32 → Nat → List Value → Option α} (h : ∀ a x y r, f a x y r = some z → M z) : oRIR st f = some z → M z := by
  unfold oRIR; split
  · exact h _ _ _ _
  · intro q; cases q
theorem oVR_m {st : List Value} {f : Nat → Value → List Value → Option α} (h : ∀ a x r, f a x r = some z → M z) : oVR st f = some z → M z := by
  unfold oVR; split
  · exact h _ _ _
  · intro q; cases q
theorem oV_m {st : List Value} {f : Value → List Value → Option α} (h : ∀ x r, f x r = some z → M z) : oV st f = some z → M z := by
  unfold oV; split
  · exact h _ _
  · intro q; cases q
theorem oVV_m {st : List Value} {f : Value → Value → List Value → Option α} (h : ∀ x y r, f x y r = some z → M z) : oVV st f = some z → M z := by
  unfold oVV; split
  · exact h _ _ _
  · intro q; cases q
theorem oCp_m {st : List Value} {f : Nat → Int32 → Nat → Int32 → Int32 → List Value → Option α} (h : ∀ a x b y n r, f a x b y n r = some z → M z) : oCp st f = some z → M z := by
  unfold oCp; split
  · exact h _ _ _ _ _ _
  · intro q; cases q
theorem jmp_m {pc : Nat} {off : Int} {f : Nat → Option α} (h : ∀ t, f t = some z → M z) : jmp pc off f = some z → M z := by
  unfold jmp; split
  · exact h _
  · intro q; cases q
theorem bnd_m {β : Type} {o : Option β} {f : β → Option α} (h : ∀ q, o = some q → f q = some z → M z) : o.bind f = some z → M z := by
  cases o with
  | none => intro q; cases q
  | some q => exact h q rfl
end MONO
theorem rPut_le {ty : FieldType} {μ μ1 : rM} {a j : Nat} {v : Value} (h : rPut ty μ a j v = some μ1) : rz μ1 = rz μ ∧ ru μ1 = ru μ := by
  unfold rPut at h
  repeat' split at h
  all_goals first | (cases h; done) | (cases h; exact ⟨rfl, rfl⟩)
theorem rBody_le {P : rPg} {E : (Nat → Value) × (Nat → Nat)} {lo : Nat} {call : Nat → List Value → rM → Option rRs} {go : Nat → List (Option Value) → List Value → rM → Option rRs} (hc : ∀ j vs μ z, call j vs μ = some z → rLe μ z) (hg : ∀ pc ls st μ z, go pc ls st μ = some z → rLe μ z) {k pc : Nat} {ls : List (Option Value)} {st : List Value} {μ : rM} {len : Nat} {i : Instr} {z : rRs} : rBody P E lo call go k pc ls st μ len i = some z → rLe μ z := by
  have hcg : ∀ {j vs r pc'}, (call j vs μ).bind (fun w => go pc' ls (w.1.toList ++ r) w.2) = some z → rLe μ z := by
    intro j vs r pc' h
    refine bnd_m (fun q hq h => ?_) h
    have h1 := hc _ _ _ _ hq
    have h2 := hg _ _ _ _ _ h
    exact ⟨Nat.le_trans h1.1 h2.1, Nat.le_trans h1.2 h2.2⟩
  cases i <;> dsimp only [rBody, rInv]
  all_goals try (intro h; cases h; done)
  all_goals repeat' (first | (intro h; cases h; done) | exact fun h => hg _ _ _ _ _ h | exact hcg | (intro h; cases h; exact ⟨Nat.le_refl _, Nat.le_refl _⟩) | (refine oI_m fun _ _ => ?_) | (refine oII_m fun _ _ _ => ?_) | (refine oL_m fun _ _ => ?_) | (refine oLL_m fun _ _ _ => ?_) | (refine oR_m fun _ _ => ?_) | (refine oIR_m fun _ _ _ => ?_) | (refine oIIR_m fun _ _ _ _ => ?_) | (refine oLIR_m fun _ _ _ _ => ?_) | (refine oRIR_m fun _ _ _ _ => ?_) | (refine oVR_m fun _ _ _ => ?_) | (refine oV_m fun _ _ => ?_) | (refine oVV_m fun _ _ _ => ?_) | (refine oCp_m fun _ _ _ _ _ _ => ?_) | (refine jmp_m fun _ => ?_) | (exact fun h => ⟨(hg _ _ _ _ _ h).1, (hg _ _ _ _ _ h).2⟩) | (exact fun h => ⟨Nat.le_of_succ_le (hg _ _ _ _ _ h).1, Nat.le_trans (Nat.le_add_right _ _) (hg _ _ _ _ _ h).2⟩) | (refine bnd_m fun _ hq => ?_; exact fun h => by rw [rLe, ← (rPut_le hq).1, ← (rPut_le hq).2]; exact hg _ _ _ _ _ h) | (refine bnd_m fun _ _ => ?_) | split)
theorem run_le {P : rPg} {E : (Nat → Value) × (Nat → Nat)} {lo : Nat} : ∀ {n d k pc : Nat} {ls : List (Option Value)} {st : List Value} {μ : rM} {z : rRs}, run P E lo n d k pc ls st μ = some z → rLe μ z
  | 0, _, _, _, _, _, _, _, h => by cases h
  | n + 1, d, k, pc, ls, st, μ, z, h => by
    unfold run at h
    refine bnd_m (fun i _ h => ?_) h
    refine rBody_le (fun j vs μ z h => ?_) (fun pc ls st μ z h => run_le h) h
    cases d with
    | zero => cases h
    | succ d =>
      dsimp only at h
      split at h
      · exact run_le h
      · cases h
theorem aIn_sp {i : Int32} {n : Nat} (h : aIn i n = true) : ¬ (i < 0 ∨ n ≤ i.toNatClampNeg) := by
  unfold aIn at h
  simp only [Bool.and_eq_true, decide_eq_true_eq] at h
  rintro (q | q)
  · exact Int32.not_lt.mpr h.1 q
  · omega
theorem rPut_sp {ty : FieldType} {μ μ1 : rM} {a j : Nat} {v : Value} (h : rPut ty μ a j v = some μ1) : narrow ty v = v ∧ fits ty v = true ∧ (∀ b, rk μ1 b = rk μ b) ∧ (∀ b, b ≠ a → ∀ i, ri μ1 b i = ri μ b i) ∧ (∀ b, b ≠ a → ∀ i, rr μ1 b i = rr μ b i) ∧ (∀ b, b ≠ a → ∀ i, rl μ1 b i = rl μ b i) ∧ (∀ i, i ≠ j → ri μ1 a i = ri μ a i ∧ rr μ1 a i = rr μ a i ∧ rl μ1 a i = rl μ a i) ∧ rTv ty (ri μ1 a j) (rr μ1 a j) (rl μ1 a j) = v := by
  have w1 : ∀ x, (∀ b, b ≠ a → ∀ i, ri (wi μ a j x) b i = ri μ b i) ∧ (∀ i, i ≠ j → ri (wi μ a j x) a i = ri μ a i) ∧ ri (wi μ a j x) a j = x := fun x => ⟨fun b hb i => up2_ne hb i, fun i hi => by show up2 _ _ _ _ _ _ = _; rw [up2_at, if_neg hi]; rfl, by show up2 _ _ _ _ _ _ = _; rw [up2_at, if_pos rfl]⟩
  have w2 : ∀ x, (∀ b, b ≠ a → ∀ i, rr (wr μ a j x) b i = rr μ b i) ∧ (∀ i, i ≠ j → rr (wr μ a j x) a i = rr μ a i) ∧ rr (wr μ a j x) a j = x := fun x => ⟨fun b hb i => up2_ne hb i, fun i hi => by show up2 _ _ _ _ _ _ = _; rw [up2_at, if_neg hi]; rfl, by show up2 _ _ _ _ _ _ = _; rw [up2_at, if_pos rfl]⟩
  have w3 : ∀ x, (∀ b, b ≠ a → ∀ i, rl (wl μ a j x) b i = rl μ b i) ∧ (∀ i, i ≠ j → rl (wl μ a j x) a i = rl μ a i) ∧ rl (wl μ a j x) a j = x := fun x => ⟨fun b hb i => up2_ne hb i, fun i hi => by show up2 _ _ _ _ _ _ = _; rw [up2_at, if_neg hi]; rfl, by show up2 _ _ _ _ _ _ = _; rw [up2_at, if_pos rfl]⟩
  unfold rPut at h
  split at h
  · split at h
    · cases h
      rename_i x
      exact ⟨rfl, rfl, fun _ => rfl, (w1 x).1, fun _ _ _ => rfl, fun _ _ _ => rfl, fun i hi => ⟨(w1 x).2.1 i hi, rfl, rfl⟩, by show Value.int _ = _; rw [(w1 x).2.2]⟩
    · cases h
  · split at h
    · rename_i x
      split at h
      · rename_i hx
        cases h
        refine ⟨?_, ?_, fun _ => rfl, (w1 x).1, fun _ _ _ => rfl, fun _ _ _ => rfl, fun i hi => ⟨(w1 x).2.1 i hi, rfl, rfl⟩, by show Value.int _ = _; rw [(w1 x).2.2]⟩
        · rcases hx with rfl | rfl <;> decide
        · rcases hx with rfl | rfl <;> decide
      · cases h
    · cases h
  · split at h
    · cases h
      rename_i x
      exact ⟨rfl, rfl, fun _ => rfl, fun _ _ _ => rfl, fun _ _ _ => rfl, (w3 x).1, fun i hi => ⟨rfl, rfl, (w3 x).2.1 i hi⟩, by show Value.long _ = _; rw [(w3 x).2.2]⟩
    · cases h
  · split at h
    · cases h
      rename_i x
      exact ⟨rfl, rfl, fun _ => rfl, fun _ _ _ => rfl, (w2 (some x)).1, fun _ _ _ => rfl, fun i hi => ⟨rfl, (w2 (some x)).2.1 i hi, rfl⟩, by show va_rf _ = _; rw [(w2 (some x)).2.2]; rfl⟩
    · cases h
  · split at h
    · cases h
      rename_i x
      exact ⟨rfl, rfl, fun _ => rfl, fun _ _ _ => rfl, (w2 (some x)).1, fun _ _ _ => rfl, fun i hi => ⟨rfl, (w2 (some x)).2.1 i hi, rfl⟩, by show va_rf _ = _; rw [(w2 (some x)).2.2]; rfl⟩
    · cases h
  · cases h
