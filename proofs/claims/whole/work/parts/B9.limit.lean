theorem jmp_eq {α : Type} {pc : Nat} {off : Int} {t : Nat} (h : (pc : Int) + off = (t : Int)) (f : Nat → Option α) : jmp pc off f = f t := by
  unfold jmp
  rw [h]
/-! WHAT ONE INSTRUCTION ASKS of the calls and of what follows: from it the limit of 'run' (a function without a number of steps) and its equation -/
def rSup (P : rPg) (E : (Nat → Value) × (Nat → Nat)) (lo : Nat) (call : Nat → List Value → rM → Option rRs) (go : Nat → List (Option Value) → List Value → rM → Option rRs) (k pc : Nat) (ls : List (Option Value)) (st : List Value) (μ : rM) (len : Nat) (i : Instr) (z : rRs) : Prop :=
  (∀ call' go', rBody P E lo call' go' k pc ls st μ len i = some z) ∨
  (∃ pc' ls' st' μ1, go pc' ls' st' μ1 = some z ∧ ∀ call' go', go' pc' ls' st' μ1 = some z → rBody P E lo call' go' k pc ls st μ len i = some z) ∨
  (∃ j vs w pc' ls' st', call j vs μ = some w ∧ go pc' ls' st' w.2 = some z ∧ ∀ call' go', call' j vs μ = some w → go' pc' ls' st' w.2 = some z → rBody P E lo call' go' k pc ls st μ len i = some z)
set_option maxHeartbeats 4000000 in
set_option maxRecDepth 100000 in
theorem rBody_sup {P : rPg} {E : (Nat → Value) × (Nat → Nat)} {lo : Nat} {call : Nat → List Value → rM → Option rRs} {go : Nat → List (Option Value) → List Value → rM → Option rRs} {k pc : Nat} {ls : List (Option Value)} {st : List Value} {μ : rM} {len : Nat} {i : Instr} {z : rRs} (h : rBody P E lo call go k pc ls st μ len i = some z) : rSup P E lo call go k pc ls st μ len i z := by
  have g0 : ∀ {pc' ls' st' μ1}, go pc' ls' st' μ1 = some z → (∀ call' go', go' pc' ls' st' μ1 = some z → rBody P E lo call' go' k pc ls st μ len i = some z) → rSup P E lo call go k pc ls st μ len i z := fun h1 h2 => Or.inr (Or.inl ⟨_, _, _, _, h1, h2⟩)
  have c0 : ∀ {j vs w pc' ls' st'}, call j vs μ = some w → go pc' ls' st' w.2 = some z → (∀ call' go', call' j vs μ = some w → go' pc' ls' st' w.2 = some z → rBody P E lo call' go' k pc ls st μ len i = some z) → rSup P E lo call go k pc ls st μ len i z := fun h1 h2 h3 => Or.inr (Or.inr ⟨_, _, _, _, _, _, h1, h2, h3⟩)
  cases i
  all_goals dsimp only [rBody] at h
  all_goals try (cases h; done)
  case iconst n =>
    exact g0 h fun _ _ h1 => h1
  case bipush n =>
    exact g0 h fun _ _ h1 => h1
  case sipush n =>
    exact g0 h fun _ _ h1 => h1
  case lconst n =>
    exact g0 h fun _ _ h1 => h1
  case ldc idx =>
    split at h
    · rename_i x hc
      exact g0 h fun _ _ h1 => by simp only [rBody, hc]; exact h1
    · rename_i hc
      replace h := bnd_s h
      obtain ⟨q, hq, h⟩ := h
      exact g0 h fun _ _ h1 => by simp only [rBody, hc, hq, Option.bind_some]; exact h1
  case ldc_w idx =>
    replace h := bnd_s h
    obtain ⟨q, hq, h⟩ := h
    exact g0 h fun _ _ h1 => by simp only [rBody, hq, Option.bind_some]; exact h1
  case ldc2_w idx =>
    replace h := bnd_s h
    obtain ⟨q, hq, h⟩ := h
    exact g0 h fun _ _ h1 => by simp only [rBody, hq, Option.bind_some]; exact h1
  case getstatic idx =>
    replace h := bnd_s h
    obtain ⟨q, hq, h⟩ := h
    exact g0 h fun _ _ h1 => by simp only [rBody, hq, Option.bind_some]; exact h1
  case iload j =>
    replace h := bnd_s h
    obtain ⟨w, hw, h⟩ := h
    replace h := oI_s h
    obtain ⟨x, r, e0, h⟩ := h
    cases e0
    exact g0 h fun _ _ h1 => by simp only [rBody, hw, Option.bind_some, oI]; exact h1
  case iload_n j =>
    replace h := bnd_s h
    obtain ⟨w, hw, h⟩ := h
    replace h := oI_s h
    obtain ⟨x, r, e0, h⟩ := h
    cases e0
    exact g0 h fun _ _ h1 => by simp only [rBody, hw, Option.bind_some, oI]; exact h1
  case lload j =>
    replace h := bnd_s h
    obtain ⟨w, hw, h⟩ := h
    replace h := oL_s h
    obtain ⟨x, r, e0, h⟩ := h
    cases e0
    exact g0 h fun _ _ h1 => by simp only [rBody, hw, Option.bind_some, oL]; exact h1
  case lload_n j =>
    replace h := bnd_s h
    obtain ⟨w, hw, h⟩ := h
    replace h := oL_s h
    obtain ⟨x, r, e0, h⟩ := h
    cases e0
    exact g0 h fun _ _ h1 => by simp only [rBody, hw, Option.bind_some, oL]; exact h1
  case aload j =>
    replace h := bnd_s h
    obtain ⟨w, hw, h⟩ := h
    replace h := oR_s h
    obtain ⟨x, r, e0, h⟩ := h
    cases e0
    exact g0 h fun _ _ h1 => by simp only [rBody, hw, Option.bind_some, oR]; exact h1
  case aload_n j =>
    replace h := bnd_s h
    obtain ⟨w, hw, h⟩ := h
    replace h := oR_s h
    obtain ⟨x, r, e0, h⟩ := h
    cases e0
    exact g0 h fun _ _ h1 => by simp only [rBody, hw, Option.bind_some, oR]; exact h1
  case istore j =>
    replace h := ite_s h
    obtain ⟨hj, h⟩ := h
    replace h := oI_s h
    obtain ⟨x, r, e0, h⟩ := h
    subst e0
    exact g0 h fun _ _ h1 => by simp only [rBody, if_pos hj, oI]; exact h1
  case istore_n j =>
    replace h := ite_s h
    obtain ⟨hj, h⟩ := h
    replace h := oI_s h
    obtain ⟨x, r, e0, h⟩ := h
    subst e0
    exact g0 h fun _ _ h1 => by simp only [rBody, if_pos hj, oI]; exact h1
  case astore j =>
    replace h := ite_s h
    obtain ⟨hj, h⟩ := h
    replace h := oR_s h
    obtain ⟨x, r, e0, h⟩ := h
    subst e0
    exact g0 h fun _ _ h1 => by simp only [rBody, if_pos hj, oR]; exact h1
  case astore_n j =>
    replace h := ite_s h
    obtain ⟨hj, h⟩ := h
    replace h := oR_s h
    obtain ⟨x, r, e0, h⟩ := h
    subst e0
    exact g0 h fun _ _ h1 => by simp only [rBody, if_pos hj, oR]; exact h1
  case lstore j =>
    replace h := ite_s h
    obtain ⟨hj, h⟩ := h
    replace h := oL_s h
    obtain ⟨x, r, e0, h⟩ := h
    subst e0
    exact g0 h fun _ _ h1 => by simp only [rBody, if_pos hj, oL]; exact h1
  case lstore_n j =>
    replace h := ite_s h
    obtain ⟨hj, h⟩ := h
    replace h := oL_s h
    obtain ⟨x, r, e0, h⟩ := h
    subst e0
    exact g0 h fun _ _ h1 => by simp only [rBody, if_pos hj, oL]; exact h1
  case iinc j q =>
    replace h := ite_s h
    obtain ⟨hj, h⟩ := h
    replace h := bnd_s h
    obtain ⟨w, hw, h⟩ := h
    replace h := oI_s h
    obtain ⟨x, r, e0, h⟩ := h
    cases e0
    exact g0 h fun _ _ h1 => by simp only [rBody, if_pos hj, hw, Option.bind_some, oI]; exact h1
  case iadd =>
    replace h := oII_s h
    obtain ⟨x, y, r, e0, h⟩ := h
    subst e0
    exact g0 h fun _ _ h1 => h1
  case isub =>
    replace h := oII_s h
    obtain ⟨x, y, r, e0, h⟩ := h
    subst e0
    exact g0 h fun _ _ h1 => h1
  case imul =>
    replace h := oII_s h
    obtain ⟨x, y, r, e0, h⟩ := h
    subst e0
    exact g0 h fun _ _ h1 => h1
  case iand =>
    replace h := oII_s h
    obtain ⟨x, y, r, e0, h⟩ := h
    subst e0
    exact g0 h fun _ _ h1 => h1
  case ior =>
    replace h := oII_s h
    obtain ⟨x, y, r, e0, h⟩ := h
    subst e0
    exact g0 h fun _ _ h1 => h1
  case ixor =>
    replace h := oII_s h
    obtain ⟨x, y, r, e0, h⟩ := h
    subst e0
    exact g0 h fun _ _ h1 => h1
  case ishl =>
    replace h := oII_s h
    obtain ⟨x, y, r, e0, h⟩ := h
    subst e0
    exact g0 h fun _ _ h1 => h1
  case ishr =>
    replace h := oII_s h
    obtain ⟨x, y, r, e0, h⟩ := h
    subst e0
    exact g0 h fun _ _ h1 => h1
  case iushr =>
    replace h := oII_s h
    obtain ⟨x, y, r, e0, h⟩ := h
    subst e0
    exact g0 h fun _ _ h1 => h1
  case idiv =>
    replace h := oII_s h
    obtain ⟨x, y, r, e0, h⟩ := h
    subst e0
    split at h
    · cases h
    · rename_i hy
      exact g0 h fun _ _ h1 => (if_neg hy).trans h1
  case irem =>
    replace h := oII_s h
    obtain ⟨x, y, r, e0, h⟩ := h
    subst e0
    split at h
    · cases h
    · rename_i hy
      exact g0 h fun _ _ h1 => (if_neg hy).trans h1
  case ladd =>
    replace h := oLL_s h
    obtain ⟨x, y, r, e0, h⟩ := h
    subst e0
    exact g0 h fun _ _ h1 => h1
  case lsub =>
    replace h := oLL_s h
    obtain ⟨x, y, r, e0, h⟩ := h
    subst e0
    exact g0 h fun _ _ h1 => h1
  case lmul =>
    replace h := oLL_s h
    obtain ⟨x, y, r, e0, h⟩ := h
    subst e0
    exact g0 h fun _ _ h1 => h1
  case lcmp =>
    replace h := oLL_s h
    obtain ⟨x, y, r, e0, h⟩ := h
    subst e0
    exact g0 h fun _ _ h1 => h1
  case i2l =>
    replace h := oI_s h
    obtain ⟨x, r, e0, h⟩ := h
    subst e0
    exact g0 h fun _ _ h1 => h1
  case i2b =>
    replace h := oI_s h
    obtain ⟨x, r, e0, h⟩ := h
    subst e0
    exact g0 h fun _ _ h1 => h1
  case i2c =>
    replace h := oI_s h
    obtain ⟨x, r, e0, h⟩ := h
    subst e0
    exact g0 h fun _ _ h1 => h1
  case pop =>
    replace h := oV_s h
    obtain ⟨x, r, e0, h⟩ := h
    subst e0
    replace h := ite_s h
    obtain ⟨hc, h⟩ := h
    exact g0 h fun _ _ h1 => (if_pos hc).trans h1
  case dup =>
    replace h := oV_s h
    obtain ⟨x, r, e0, h⟩ := h
    subst e0
    replace h := ite_s h
    obtain ⟨hc, h⟩ := h
    exact g0 h fun _ _ h1 => (if_pos hc).trans h1
  case dup2 =>
    replace h := oVV_s h
    obtain ⟨x, y, r, e0, h⟩ := h
    subst e0
    replace h := ite_s h
    obtain ⟨hc, h⟩ := h
    exact g0 h fun _ _ h1 => (if_pos hc).trans h1
  case goto off =>
    replace h := jmp_s h
    obtain ⟨t, ht, h⟩ := h
    exact g0 h fun _ _ h1 => by simp only [rBody]; rw [jmp_eq ht]; exact h1
  case ifCond cd off =>
    replace h := oI_s h
    obtain ⟨x, r, e0, h⟩ := h
    subst e0
    replace h := jmp_s h
    obtain ⟨t, ht, h⟩ := h
    split at h
    · rename_i hc
      exact g0 h fun _ _ h1 => by simp only [rBody, oI]; rw [jmp_eq ht, if_pos hc]; exact h1
    · rename_i hc
      exact g0 h fun _ _ h1 => by simp only [rBody, oI]; rw [jmp_eq ht, if_neg hc]; exact h1
  case if_icmp cd off =>
    replace h := oII_s h
    obtain ⟨x, y, r, e0, h⟩ := h
    subst e0
    replace h := jmp_s h
    obtain ⟨t, ht, h⟩ := h
    split at h
    · rename_i hc
      exact g0 h fun _ _ h1 => by simp only [rBody, oII]; rw [jmp_eq ht, if_pos hc]; exact h1
    · rename_i hc
      exact g0 h fun _ _ h1 => by simp only [rBody, oII]; rw [jmp_eq ht, if_neg hc]; exact h1
  case ifnonnull off =>
    replace h := oV_s h
    obtain ⟨w, r, e0, h⟩ := h
    subst e0
    replace h := jmp_s h
    obtain ⟨t, ht, h⟩ := h
    split at h
    · exact g0 h fun _ _ h1 => by simp only [rBody, oV]; rw [jmp_eq ht]; exact h1
    · exact g0 h fun _ _ h1 => by simp only [rBody, oV]; rw [jmp_eq ht]; exact h1
    · cases h
  case tableswitch df a b offs =>
    replace h := oI_s h
    obtain ⟨x, r, e0, h⟩ := h
    subst e0
    split at h
    · rename_i hc
      replace h := jmp_s h
      obtain ⟨t, ht, h⟩ := h
      exact g0 h fun _ _ h1 => by simp only [rBody, oI]; rw [if_pos hc, jmp_eq ht]; exact h1
    · rename_i hc
      replace h := bnd_s h
      obtain ⟨off, ho, h⟩ := h
      replace h := jmp_s h
      obtain ⟨t, ht, h⟩ := h
      exact g0 h fun _ _ h1 => by simp only [rBody, oI]; rw [if_neg hc, ho, Option.bind_some, jmp_eq ht]; exact h1
  case getfield idx =>
    replace h := oR_s h
    obtain ⟨a, r, e0, h⟩ := h
    subst e0
    replace h := bnd_s h
    obtain ⟨⟨ci, f⟩, hq, h⟩ := h
    split at h
    · rename_i h13
      replace h := bnd_s h
      obtain ⟨nn, hn, h⟩ := h
      exact g0 h fun _ _ h1 => by simp only [rBody, oR, hq, Option.bind_some]; rw [if_pos h13, hn, Option.bind_some]; exact h1
    · rename_i h13
      replace h := ite_s h
      obtain ⟨hk, h⟩ := h
      exact g0 h fun _ _ h1 => by simp only [rBody, oR, hq, Option.bind_some]; rw [if_neg h13, if_pos hk]; exact h1
  case putfield idx =>
    replace h := oVR_s h
    obtain ⟨a, w, r, e0, h⟩ := h
    subst e0
    replace h := bnd_s h
    obtain ⟨⟨ci, f⟩, hq, h⟩ := h
    replace h := ite_s h
    obtain ⟨hk, h⟩ := h
    replace h := bnd_s h
    obtain ⟨μ1, hp, h⟩ := h
    exact g0 h fun _ _ h1 => by simp only [rBody, oVR, hq, Option.bind_some]; rw [if_pos hk, hp, Option.bind_some]; exact h1
  case iaload =>
    replace h := oIR_s h
    obtain ⟨a, j, r, e0, h⟩ := h
    subst e0
    split at h
    · rename_i hk
      replace h := ite_s h
      obtain ⟨ha, h⟩ := h
      exact g0 h fun _ _ h1 => by simp only [rBody, oIR, hk]; rw [if_pos ha]; exact h1
    · cases h
  case baload =>
    replace h := oIR_s h
    obtain ⟨a, j, r, e0, h⟩ := h
    subst e0
    split at h
    · rename_i hk
      replace h := ite_s h
      obtain ⟨ha, h⟩ := h
      exact g0 h fun _ _ h1 => by simp only [rBody, oIR, hk]; rw [if_pos ha]; exact h1
    · rename_i hk
      replace h := ite_s h
      obtain ⟨ha, h⟩ := h
      exact g0 h fun _ _ h1 => by simp only [rBody, oIR, hk]; rw [if_pos ha]; exact h1
    · cases h
  case laload =>
    replace h := oIR_s h
    obtain ⟨a, j, r, e0, h⟩ := h
    subst e0
    split at h
    · rename_i hk
      replace h := ite_s h
      obtain ⟨ha, h⟩ := h
      exact g0 h fun _ _ h1 => by simp only [rBody, oIR, hk]; rw [if_pos ha]; exact h1
    · cases h
  case aaload =>
    replace h := oIR_s h
    obtain ⟨a, j, r, e0, h⟩ := h
    subst e0
    split at h
    · rename_i hk
      replace h := ite_s h
      obtain ⟨ha, h⟩ := h
      exact g0 h fun _ _ h1 => by simp only [rBody, oIR, hk]; rw [if_pos ha]; exact h1
    · cases h
  case iastore =>
    replace h := oIIR_s h
    obtain ⟨a, j, x, r, e0, h⟩ := h
    subst e0
    split at h
    · rename_i hk
      replace h := ite_s h
      obtain ⟨ha, h⟩ := h
      exact g0 h fun _ _ h1 => by simp only [rBody, oIIR, hk]; rw [if_pos ha]; exact h1
    · cases h
  case bastore =>
    replace h := oIIR_s h
    obtain ⟨a, j, x, r, e0, h⟩ := h
    subst e0
    split at h
    · rename_i hk
      replace h := ite_s h
      obtain ⟨ha, h⟩ := h
      exact g0 h fun _ _ h1 => by simp only [rBody, oIIR, hk]; rw [if_pos ha]; exact h1
    · rename_i hk
      replace h := ite_s h
      obtain ⟨ha, h⟩ := h
      exact g0 h fun _ _ h1 => by simp only [rBody, oIIR, hk]; rw [if_pos ha]; exact h1
    · cases h
  case lastore =>
    replace h := oLIR_s h
    obtain ⟨a, j, x, r, e0, h⟩ := h
    subst e0
    split at h
    · rename_i hk
      replace h := ite_s h
      obtain ⟨ha, h⟩ := h
      exact g0 h fun _ _ h1 => by simp only [rBody, oLIR, hk]; rw [if_pos ha]; exact h1
    · cases h
  case aastore =>
    replace h := oRIR_s h
    obtain ⟨a, j, x, r, e0, h⟩ := h
    subst e0
    split at h
    · rename_i hk
      replace h := ite_s h
      obtain ⟨ha, h⟩ := h
      exact g0 h fun _ _ h1 => by simp only [rBody, oRIR, hk]; rw [if_pos ha]; exact h1
    · cases h
  case arraylength =>
    replace h := oR_s h
    obtain ⟨a, r, e0, h⟩ := h
    subst e0
    split at h
    · rename_i hk
      exact g0 h fun _ _ h1 => by simp only [rBody, oR, hk]; exact h1
    · cases h
  case newarray ty =>
    replace h := oI_s h
    obtain ⟨nn, r, e0, h⟩ := h
    subst e0
    replace h := bnd_s h
    obtain ⟨t, ht, h⟩ := h
    replace h := ite_s h
    obtain ⟨hn, h⟩ := h
    exact g0 h fun _ _ h1 => by simp only [rBody, oI, ht, Option.bind_some]; rw [if_pos hn]; exact h1
  case anewarray idx =>
    replace h := oI_s h
    obtain ⟨nn, r, e0, h⟩ := h
    subst e0
    replace h := bnd_s h
    obtain ⟨t, ht, h⟩ := h
    replace h := ite_s h
    obtain ⟨hn, h⟩ := h
    exact g0 h fun _ _ h1 => by simp only [rBody, oI, ht, Option.bind_some]; rw [if_pos hn]; exact h1
  case new idx =>
    replace h := bnd_s h
    obtain ⟨ci, hci, h⟩ := h
    exact g0 h fun _ _ h1 => by simp only [rBody, hci, Option.bind_some]; exact h1
  case invokevirtual idx =>
    unfold rInv at h
    split at h
    · rename_i j nn hc
      replace h := bnd_s h
      obtain ⟨⟨As, r0⟩, hpop, h⟩ := h
      replace h := oR_s h
      obtain ⟨b, r, e0, h⟩ := h
      dsimp only at e0
      subst e0
      replace h := ite_s h
      obtain ⟨hvir, h⟩ := h
      replace h := bnd_s h
      obtain ⟨w, hw, h⟩ := h
      exact c0 hw h fun _ _ h1 h2 => by simp only [rBody, rInv, hc, hpop, Option.bind_some, oR]; rw [if_pos (⟨trivial, hvir.2⟩ : True ∧ _), h1, Option.bind_some]; exact h2
    · rename_i j nn hc
      replace h := bnd_s h
      obtain ⟨⟨As, r0⟩, hpop, h⟩ := h
      replace h := oR_s h
      obtain ⟨b, r, e0, h⟩ := h
      dsimp only at e0
      subst e0
      replace h := ite_s h
      obtain ⟨hvir, h⟩ := h
      exact absurd hvir.1 (by decide)
    · rename_i j nn hc
      replace h := bnd_s h
      obtain ⟨⟨As, r0⟩, hpop, h⟩ := h
      replace h := oR_s h
      obtain ⟨b, r, e0, h⟩ := h
      dsimp only at e0
      subst e0
      replace h := ite_s h
      obtain ⟨hvir, h⟩ := h
      exact absurd hvir.1 (by decide)
    · rename_i j nn hc
      replace h := bnd_s h
      obtain ⟨⟨As, r0⟩, hpop, h⟩ := h
      replace h := oR_s h
      obtain ⟨b, r, e0, h⟩ := h
      dsimp only at e0
      subst e0
      replace h := ite_s h
      obtain ⟨hvir, h⟩ := h
      replace h := bnd_s h
      obtain ⟨w, hw, h⟩ := h
      exact c0 hw h fun _ _ h1 h2 => by simp only [rBody, rInv, hc, hpop, Option.bind_some, oR]; rw [if_pos (⟨trivial, hvir.2⟩ : True ∧ _), h1, Option.bind_some]; exact h2
    · rename_i x1 x2 hc
      replace h := oR_s h
      obtain ⟨b, r, e0, h⟩ := h
      subst e0
      replace h := ite_s h
      obtain ⟨hvir, h⟩ := h
      exact absurd hvir.1 (by decide)
    · cases h
  case invokespecial idx =>
    unfold rInv at h
    split at h
    · rename_i j nn hc
      replace h := bnd_s h
      obtain ⟨⟨As, r0⟩, hpop, h⟩ := h
      replace h := oR_s h
      obtain ⟨b, r, e0, h⟩ := h
      dsimp only at e0
      subst e0
      replace h := ite_s h
      obtain ⟨hvir, h⟩ := h
      exact absurd hvir.1 (by decide)
    · rename_i j nn hc
      replace h := bnd_s h
      obtain ⟨⟨As, r0⟩, hpop, h⟩ := h
      replace h := oR_s h
      obtain ⟨b, r, e0, h⟩ := h
      dsimp only at e0
      subst e0
      replace h := ite_s h
      obtain ⟨hvir, h⟩ := h
      replace h := bnd_s h
      obtain ⟨w, hw, h⟩ := h
      exact c0 hw h fun _ _ h1 h2 => by simp only [rBody, rInv, hc, hpop, Option.bind_some, oR]; rw [if_pos (⟨trivial, hvir.2⟩ : True ∧ _), h1, Option.bind_some]; exact h2
    · rename_i j nn hc
      replace h := bnd_s h
      obtain ⟨⟨As, r0⟩, hpop, h⟩ := h
      replace h := oR_s h
      obtain ⟨b, r, e0, h⟩ := h
      dsimp only at e0
      subst e0
      replace h := ite_s h
      obtain ⟨hvir, h⟩ := h
      replace h := bnd_s h
      obtain ⟨w, hw, h⟩ := h
      exact c0 hw h fun _ _ h1 h2 => by simp only [rBody, rInv, hc, hpop, Option.bind_some, oR]; rw [if_pos (⟨trivial, hvir.2⟩ : True ∧ _), h1, Option.bind_some]; exact h2
    · rename_i j nn hc
      replace h := bnd_s h
      obtain ⟨⟨As, r0⟩, hpop, h⟩ := h
      replace h := oR_s h
      obtain ⟨b, r, e0, h⟩ := h
      dsimp only at e0
      subst e0
      replace h := ite_s h
      obtain ⟨hvir, h⟩ := h
      exact absurd hvir.1 (by decide)
    · rename_i x1 x2 hc
      replace h := oR_s h
      obtain ⟨b, r, e0, h⟩ := h
      subst e0
      replace h := ite_s h
      obtain ⟨hvir, h⟩ := h
      exact g0 h fun _ _ h1 => by simp only [rBody, rInv, hc, oR]; rw [if_pos (⟨trivial, hvir.2⟩ : True ∧ _)]; exact h1
    · cases h
  case invokestatic idx =>
    split at h
    · rename_i j nn hc
      replace h := bnd_s h
      obtain ⟨⟨As, r⟩, hpop, h⟩ := h
      replace h := ite_s h
      obtain ⟨hst, h⟩ := h
      replace h := bnd_s h
      obtain ⟨w, hw, h⟩ := h
      exact c0 hw h fun _ _ h1 h2 => by simp only [rBody, hc, hpop, Option.bind_some]; rw [if_pos hst, h1, Option.bind_some]; exact h2
    · rename_i x1 x2 hc
      replace h := oCp_s h
      obtain ⟨a, sp, b, dp, nn, r, e0, h⟩ := h
      subst e0
      split at h
      · rename_i ka kb
        replace h := ite_s h
        obtain ⟨hg, h⟩ := h
        exact g0 h fun _ _ h1 => by simp only [rBody, hc, oCp, ka, kb]; rw [if_pos hg]; exact h1
      · rename_i ka kb
        replace h := ite_s h
        obtain ⟨hg, h⟩ := h
        exact g0 h fun _ _ h1 => by simp only [rBody, hc, oCp, ka, kb]; rw [if_pos hg]; exact h1
      · cases h
    · rename_i x1 x2 hc
      replace h := oII_s h
      obtain ⟨x, y, r, e0, h⟩ := h
      subst e0
      replace h := ite_s h
      obtain ⟨hst, h⟩ := h
      exact g0 h fun _ _ h1 => by simp only [rBody, hc, oII]; rw [if_pos hst]; exact h1
    · rename_i x1 x2 hc
      replace h := oII_s h
      obtain ⟨x, y, r, e0, h⟩ := h
      subst e0
      replace h := ite_s h
      obtain ⟨hst, h⟩ := h
      exact g0 h fun _ _ h1 => by simp only [rBody, hc, oII]; rw [if_pos hst]; exact h1
    · cases h
  case ireturn =>
    exact Or.inl fun _ _ => h
  case lreturn =>
    exact Or.inl fun _ _ => h
  case areturn =>
    exact Or.inl fun _ _ => h
  case return_ =>
    exact Or.inl fun _ _ => h
/-- 'run' grows with its number of steps -/
theorem run_up {P : rPg} {E : (Nat → Value) × (Nat → Nat)} {lo : Nat} : ∀ {n d k pc : Nat} {ls : List (Option Value)} {st : List Value} {μ : rM} {z : rRs}, run P E lo n d k pc ls st μ = some z → run P E lo (n + 1) d k pc ls st μ = some z
  | 0, _, _, _, _, _, _, _, h => by cases h
  | n + 1, d, k, pc, ls, st, μ, z, h => by
    rw [run] at h
    rw [run]
    obtain ⟨i, hi, h⟩ := bnd_s h
    rw [hi, Option.bind_some]
    rcases rBody_sup h with h1 | ⟨pc', ls', st', μ1, h1, h2⟩ | ⟨j, vs, w, pc', ls', st', h1, h2, h3⟩
    · exact h1 _ _
    · exact h2 _ _ (run_up h1)
    · refine h3 _ _ ?_ (run_up h2)
      cases d with
      | zero => cases h1
      | succ d =>
        dsimp only at h1 ⊢
        obtain ⟨g1, g2⟩ := ite_s h1
        rw [if_pos g1]
        exact run_up g2
theorem run_ups {P : rPg} {E : (Nat → Value) × (Nat → Nat)} {lo n d k pc : Nat} {ls : List (Option Value)} {st : List Value} {μ : rM} {z : rRs} (h : run P E lo n d k pc ls st μ = some z) (m : Nat) : run P E lo (n + m) d k pc ls st μ = some z := by
  induction m with
  | zero => exact h
  | succ m ih => exact run_up ih
/-- the limit: what comes out, whatever the number of steps -/
noncomputable def ex (P : rPg) (E : (Nat → Value) × (Nat → Nat)) (lo d k pc : Nat) (ls : List (Option Value)) (st : List Value) (μ : rM) : Option rRs :=
  @dite _ (∃ z n, run P E lo n d k pc ls st μ = some z) (Classical.propDecidable _) (fun h => some (Classical.choose h)) (fun _ => none)
theorem ex_iff {P : rPg} {E : (Nat → Value) × (Nat → Nat)} {lo d k pc : Nat} {ls : List (Option Value)} {st : List Value} {μ : rM} {z : rRs} : ex P E lo d k pc ls st μ = some z ↔ ∃ n, run P E lo n d k pc ls st μ = some z := by
  unfold ex
  by_cases h : ∃ z n, run P E lo n d k pc ls st μ = some z
  · rw [dif_pos h]
    obtain ⟨n0, hs⟩ := Classical.choose_spec h
    constructor
    · intro e
      rw [← Option.some.inj e]
      exact ⟨n0, hs⟩
    · rintro ⟨n, hn⟩
      have a1 := run_ups hs n
      have a2 := run_ups hn n0
      rw [Nat.add_comm] at a2
      rw [a1] at a2
      exact a2
  · rw [dif_neg h]
    constructor
    · intro e; cases e
    · rintro ⟨n, hn⟩
      exact absurd ⟨z, n, hn⟩ h
/-- THE EQUATION of the limit -/
theorem ex_eq {P : rPg} {E : (Nat → Value) × (Nat → Nat)} {lo : Nat} (d k pc : Nat) (ls : List (Option Value)) (st : List Value) (μ : rM) : ex P E lo d k pc ls st μ = (pIns P k pc).bind fun i => rBody P E lo (fun j vs μ => match d with
      | 0 => none
      | d + 1 => if (eL vs).length ≤ pMxl P j then ex P E lo d j 0 (eLn (pMxl P j) vs) [] μ else none) (fun pc ls st μ => ex P E lo d k pc ls st μ) k pc ls st μ i.2 i.1 := by
  apply Option.ext
  intro z
  rw [ex_iff]
  constructor
  · rintro ⟨n, h⟩
    cases n with
    | zero => cases h
    | succ n =>
      rw [run] at h
      obtain ⟨i, hi, h⟩ := bnd_s h
      rw [hi, Option.bind_some]
      rcases rBody_sup h with h1 | ⟨pc', ls', st', μ1, h1, h2⟩ | ⟨j, vs, w, pc', ls', st', h1, h2, h3⟩
      · exact h1 _ _
      · exact h2 _ _ (ex_iff.mpr ⟨n, h1⟩)
      · refine h3 _ _ ?_ (ex_iff.mpr ⟨n, h2⟩)
        cases d with
        | zero => cases h1
        | succ d =>
          dsimp only at h1 ⊢
          obtain ⟨g1, g2⟩ := ite_s h1
          rw [if_pos g1]
          exact ex_iff.mpr ⟨n, g2⟩
  · intro h
    obtain ⟨i, hi, h⟩ := bnd_s h
    rcases rBody_sup h with h1 | ⟨pc', ls', st', μ1, h1, h2⟩ | ⟨j, vs, w, pc', ls', st', h1, h2, h3⟩
    · refine ⟨1, ?_⟩
      rw [run, hi, Option.bind_some]
      exact h1 _ _
    · obtain ⟨n, h1⟩ := ex_iff.mp h1
      refine ⟨n + 1, ?_⟩
      rw [run, hi, Option.bind_some]
      exact h2 _ _ h1
    · obtain ⟨n, h2⟩ := ex_iff.mp h2
      cases d with
      | zero => cases h1
      | succ d =>
        dsimp only at h1
        obtain ⟨g1, g2⟩ := ite_s h1
        obtain ⟨n1, g2⟩ := ex_iff.mp g2
        refine ⟨n1 + n + 1, ?_⟩
        rw [run, hi, Option.bind_some]
        refine h3 _ _ ?_ ?_
        · dsimp only
          rw [if_pos g1]
          exact run_ups g2 n
        · rw [Nat.add_comm n1 n]
          exact run_ups h2 n1
